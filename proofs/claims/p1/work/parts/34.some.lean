/-! Calls on new objects that go some way. -/
theorem ev_pos {v : Int32} (h : 0 < v) : 1 ≤ v := by
  have h1 := Int32.lt_iff_toInt_lt.mp h
  have e0 : (0 : Int32).toInt = 0 := by decide
  have e1 : (1 : Int32).toInt = 1 := by decide
  exact Int32.le_iff_toInt_le.mpr (by omega)
set_option maxRecDepth 100000 in
set_option maxHeartbeats 100000 in
theorem sp_z_3_sizeOf_r1 (X : ez_X)  (cz kz : Nat) : ∀ G : ez_F, fx_up X 6 G 94 0 [.ref 3, .int 0] [] (ev_hp ev_I0 ev_J0 ev_R0 []) cz kz = some (some (.int 1), (ev_hp ev_I0 ev_J0 ev_R0 []), cz, kz) := by
  intro G
  rfl
theorem sp_z_3_sizeOf (X : ez_X) : ev_W X 94 0 (ez_lay [.ref 3, .int 0]) [] (ev_hp ev_I0 ev_J0 ev_R0 []) 0 0 (fun r h1 c1 k1 => r = (some (.int 1)) ∧ h1 = (ev_hp ev_I0 ev_J0 ev_R0 []) ∧ c1 = 0 ∧ k1 = 0) := by
  refine ev_ret (sp_z_3_sizeOf_r1 X  _ _) ?_
  exact ⟨rfl, rfl, rfl, rfl⟩
set_option maxRecDepth 100000 in
set_option maxHeartbeats 100000 in
theorem sp_z_4_sizeOf_r1 (X : ez_X)  (cz kz : Nat) : ∀ G : ez_F, fx_up X 6 G 94 0 [.ref 3, .int 1] [] (ev_hp ev_I0 ev_J0 ev_R0 []) cz kz = some (some (.int 1), (ev_hp ev_I0 ev_J0 ev_R0 []), cz, kz) := by
  intro G
  rfl
theorem sp_z_4_sizeOf (X : ez_X) : ev_W X 94 0 (ez_lay [.ref 3, .int 1]) [] (ev_hp ev_I0 ev_J0 ev_R0 []) 0 0 (fun r h1 c1 k1 => r = (some (.int 1)) ∧ h1 = (ev_hp ev_I0 ev_J0 ev_R0 []) ∧ c1 = 0 ∧ k1 = 0) := by
  refine ev_ret (sp_z_4_sizeOf_r1 X  _ _) ?_
  exact ⟨rfl, rfl, rfl, rfl⟩
set_option maxRecDepth 100000 in
set_option maxHeartbeats 100000 in
theorem sp_z_5_sizeOf_r1 (X : ez_X)  (cz kz : Nat) : ∀ G : ez_F, fx_up X 6 G 94 0 [.ref 3, .int 2] [] (ev_hp ev_I0 ev_J0 ev_R0 []) cz kz = some (some (.int 1), (ev_hp ev_I0 ev_J0 ev_R0 []), cz, kz) := by
  intro G
  rfl
theorem sp_z_5_sizeOf (X : ez_X) : ev_W X 94 0 (ez_lay [.ref 3, .int 2]) [] (ev_hp ev_I0 ev_J0 ev_R0 []) 0 0 (fun r h1 c1 k1 => r = (some (.int 1)) ∧ h1 = (ev_hp ev_I0 ev_J0 ev_R0 []) ∧ c1 = 0 ∧ k1 = 0) := by
  refine ev_ret (sp_z_5_sizeOf_r1 X  _ _) ?_
  exact ⟨rfl, rfl, rfl, rfl⟩
set_option maxRecDepth 100000 in
set_option maxHeartbeats 100000 in
theorem sp_z_2_combinations_r1 (X : ez_X)  (cz kz : Nat) : ∀ G : ez_F, fx_up X 3 G 89 0 [.ref 3] [] (ev_hp ev_I0 ev_J0 ev_R0 []) cz kz = ev_C G 94 [.ref 3, .int 0] (ev_hp ev_I0 ev_J0 ev_R0 []) fun r h1 c1 k1 => G 89 5 [.ref 3] (r.toList ++ []) h1 (cz + c1) (kz + k1) := by
  intro G
  rfl
set_option maxRecDepth 100000 in
set_option maxHeartbeats 100000 in
theorem sp_z_2_combinations_r2 (X : ez_X)  (cz kz : Nat) : ∀ G : ez_F, fx_up X 3 G 89 5 [.ref 3] [.int 1] (ev_hp ev_I0 ev_J0 ev_R0 []) cz kz = ev_C G 94 [.ref 3, .int 1] (ev_hp ev_I0 ev_J0 ev_R0 []) fun r h1 c1 k1 => G 89 10 [.ref 3] (r.toList ++ [.int 1]) h1 (cz + c1) (kz + k1) := by
  intro G
  rfl
set_option maxRecDepth 100000 in
set_option maxHeartbeats 100000 in
theorem sp_z_2_combinations_r3 (X : ez_X)  (cz kz : Nat) : ∀ G : ez_F, fx_up X 4 G 89 10 [.ref 3] [.int 1, .int 1] (ev_hp ev_I0 ev_J0 ev_R0 []) cz kz = ev_C G 94 [.ref 3, .int 2] (ev_hp ev_I0 ev_J0 ev_R0 []) fun r h1 c1 k1 => G 89 16 [.ref 3] (r.toList ++ [.int 1]) h1 (cz + c1) (kz + k1) := by
  intro G
  rfl
set_option maxRecDepth 100000 in
set_option maxHeartbeats 100000 in
theorem sp_z_2_combinations_r4 (X : ez_X)  (cz kz : Nat) : ∀ G : ez_F, fx_up X 2 G 89 16 [.ref 3] [.int 1, .int 1] (ev_hp ev_I0 ev_J0 ev_R0 []) cz kz = some (some (.int 1), (ev_hp ev_I0 ev_J0 ev_R0 []), cz, kz) := by
  intro G
  rfl
theorem sp_z_2_combinations (X : ez_X) : ev_W X 89 0 (ez_lay [.ref 3]) [] (ev_hp ev_I0 ev_J0 ev_R0 []) 0 0 (fun r h1 c1 k1 => r = (some (.int 1)) ∧ h1 = (ev_hp ev_I0 ev_J0 ev_R0 []) ∧ c1 = 0 ∧ k1 = 0) := by
  refine ev_call (sp_z_2_combinations_r1 X  _ _) (sp_z_3_sizeOf X) ?_
  rintro _ _ _ _ ⟨rfl, rfl, rfl, rfl⟩
  refine ev_call (sp_z_2_combinations_r2 X  _ _) (sp_z_4_sizeOf X) ?_
  rintro _ _ _ _ ⟨rfl, rfl, rfl, rfl⟩
  refine ev_call (sp_z_2_combinations_r3 X  _ _) (sp_z_5_sizeOf X) ?_
  rintro _ _ _ _ ⟨rfl, rfl, rfl, rfl⟩
  refine ev_ret (sp_z_2_combinations_r4 X  _ _) ?_
  exact ⟨rfl, rfl, rfl, rfl⟩
set_option maxRecDepth 100000 in
set_option maxHeartbeats 100000 in
theorem sp_z_8_sizeOf_r1 (X : ez_X)  (cz kz : Nat) : ∀ G : ez_F, fx_up X 6 G 94 0 [.ref 3, .int 0] [] (ev_hp ev_I0 ev_J0 ev_R0 []) cz kz = some (some (.int 1), (ev_hp ev_I0 ev_J0 ev_R0 []), cz, kz) := by
  intro G
  rfl
theorem sp_z_8_sizeOf (X : ez_X) : ev_W X 94 0 (ez_lay [.ref 3, .int 0]) [] (ev_hp ev_I0 ev_J0 ev_R0 []) 0 0 (fun r h1 c1 k1 => r = (some (.int 1)) ∧ h1 = (ev_hp ev_I0 ev_J0 ev_R0 []) ∧ c1 = 0 ∧ k1 = 0) := by
  refine ev_ret (sp_z_8_sizeOf_r1 X  _ _) ?_
  exact ⟨rfl, rfl, rfl, rfl⟩
set_option maxRecDepth 100000 in
set_option maxHeartbeats 100000 in
theorem sp_z_9_sizeOf_r1 (X : ez_X)  (cz kz : Nat) : ∀ G : ez_F, fx_up X 6 G 94 0 [.ref 3, .int 1] [] (ev_hp ev_I0 ev_J0 ev_R0 []) cz kz = some (some (.int 1), (ev_hp ev_I0 ev_J0 ev_R0 []), cz, kz) := by
  intro G
  rfl
theorem sp_z_9_sizeOf (X : ez_X) : ev_W X 94 0 (ez_lay [.ref 3, .int 1]) [] (ev_hp ev_I0 ev_J0 ev_R0 []) 0 0 (fun r h1 c1 k1 => r = (some (.int 1)) ∧ h1 = (ev_hp ev_I0 ev_J0 ev_R0 []) ∧ c1 = 0 ∧ k1 = 0) := by
  refine ev_ret (sp_z_9_sizeOf_r1 X  _ _) ?_
  exact ⟨rfl, rfl, rfl, rfl⟩
set_option maxRecDepth 100000 in
set_option maxHeartbeats 100000 in
theorem sp_z_10_sizeOf_r1 (X : ez_X)  (cz kz : Nat) : ∀ G : ez_F, fx_up X 6 G 94 0 [.ref 3, .int 2] [] (ev_hp ev_I0 ev_J0 ev_R0 []) cz kz = some (some (.int 1), (ev_hp ev_I0 ev_J0 ev_R0 []), cz, kz) := by
  intro G
  rfl
theorem sp_z_10_sizeOf (X : ez_X) : ev_W X 94 0 (ez_lay [.ref 3, .int 2]) [] (ev_hp ev_I0 ev_J0 ev_R0 []) 0 0 (fun r h1 c1 k1 => r = (some (.int 1)) ∧ h1 = (ev_hp ev_I0 ev_J0 ev_R0 []) ∧ c1 = 0 ∧ k1 = 0) := by
  refine ev_ret (sp_z_10_sizeOf_r1 X  _ _) ?_
  exact ⟨rfl, rfl, rfl, rfl⟩
set_option maxRecDepth 100000 in
set_option maxHeartbeats 100000 in
theorem sp_z_7_combinations_r1 (X : ez_X)  (cz kz : Nat) : ∀ G : ez_F, fx_up X 3 G 89 0 [.ref 3] [] (ev_hp ev_I0 ev_J0 ev_R0 []) cz kz = ev_C G 94 [.ref 3, .int 0] (ev_hp ev_I0 ev_J0 ev_R0 []) fun r h1 c1 k1 => G 89 5 [.ref 3] (r.toList ++ []) h1 (cz + c1) (kz + k1) := by
  intro G
  rfl
set_option maxRecDepth 100000 in
set_option maxHeartbeats 100000 in
theorem sp_z_7_combinations_r2 (X : ez_X)  (cz kz : Nat) : ∀ G : ez_F, fx_up X 3 G 89 5 [.ref 3] [.int 1] (ev_hp ev_I0 ev_J0 ev_R0 []) cz kz = ev_C G 94 [.ref 3, .int 1] (ev_hp ev_I0 ev_J0 ev_R0 []) fun r h1 c1 k1 => G 89 10 [.ref 3] (r.toList ++ [.int 1]) h1 (cz + c1) (kz + k1) := by
  intro G
  rfl
set_option maxRecDepth 100000 in
set_option maxHeartbeats 100000 in
theorem sp_z_7_combinations_r3 (X : ez_X)  (cz kz : Nat) : ∀ G : ez_F, fx_up X 4 G 89 10 [.ref 3] [.int 1, .int 1] (ev_hp ev_I0 ev_J0 ev_R0 []) cz kz = ev_C G 94 [.ref 3, .int 2] (ev_hp ev_I0 ev_J0 ev_R0 []) fun r h1 c1 k1 => G 89 16 [.ref 3] (r.toList ++ [.int 1]) h1 (cz + c1) (kz + k1) := by
  intro G
  rfl
set_option maxRecDepth 100000 in
set_option maxHeartbeats 100000 in
theorem sp_z_7_combinations_r4 (X : ez_X)  (cz kz : Nat) : ∀ G : ez_F, fx_up X 2 G 89 16 [.ref 3] [.int 1, .int 1] (ev_hp ev_I0 ev_J0 ev_R0 []) cz kz = some (some (.int 1), (ev_hp ev_I0 ev_J0 ev_R0 []), cz, kz) := by
  intro G
  rfl
theorem sp_z_7_combinations (X : ez_X) : ev_W X 89 0 (ez_lay [.ref 3]) [] (ev_hp ev_I0 ev_J0 ev_R0 []) 0 0 (fun r h1 c1 k1 => r = (some (.int 1)) ∧ h1 = (ev_hp ev_I0 ev_J0 ev_R0 []) ∧ c1 = 0 ∧ k1 = 0) := by
  refine ev_call (sp_z_7_combinations_r1 X  _ _) (sp_z_8_sizeOf X) ?_
  rintro _ _ _ _ ⟨rfl, rfl, rfl, rfl⟩
  refine ev_call (sp_z_7_combinations_r2 X  _ _) (sp_z_9_sizeOf X) ?_
  rintro _ _ _ _ ⟨rfl, rfl, rfl, rfl⟩
  refine ev_call (sp_z_7_combinations_r3 X  _ _) (sp_z_10_sizeOf X) ?_
  rintro _ _ _ _ ⟨rfl, rfl, rfl, rfl⟩
  refine ev_ret (sp_z_7_combinations_r4 X  _ _) ?_
  exact ⟨rfl, rfl, rfl, rfl⟩
set_option maxRecDepth 100000 in
set_option maxHeartbeats 100000 in
theorem sp_z_11_grown_r1 (X : ez_X)  (cz kz : Nat) : ∀ G : ez_F, fx_up X 10 G 19 0 [.int 0, .int 1] [] (ev_hp (ev_sI ev_I0 6 (upd (upd (ev_I0 6) 4 1) 3 0)) ev_J0 ev_R0 []) cz kz = some (some (.int 1), (ev_hp (ev_sI ev_I0 6 (upd (upd (ev_I0 6) 4 1) 3 0)) ev_J0 ev_R0 []), cz, kz) := by
  intro G
  rfl
theorem sp_z_11_grown (X : ez_X) : ev_W X 19 0 (ez_lay [.int 0, .int 1]) [] (ev_hp (ev_sI ev_I0 6 (upd (upd (ev_I0 6) 4 1) 3 0)) ev_J0 ev_R0 []) 0 0 (fun r h1 c1 k1 => r = (some (.int 1)) ∧ h1 = (ev_hp (ev_sI ev_I0 6 (upd (upd (ev_I0 6) 4 1) 3 0)) ev_J0 ev_R0 []) ∧ c1 = 0 ∧ k1 = 0) := by
  refine ev_ret (sp_z_11_grown_r1 X  _ _) ?_
  exact ⟨rfl, rfl, rfl, rfl⟩
set_option maxRecDepth 100000 in
set_option maxHeartbeats 100000 in
theorem sp_z_12_sizeOf_r1 (X : ez_X)  (cz kz : Nat) : ∀ G : ez_F, fx_up X 6 G 94 0 [.ref 3, .int 0] [] (ev_hp (ev_sI ev_I0 6 (upd (upd (ev_I0 6) 4 1) 3 0)) ev_J0 (ev_sR ev_R0 0 65) ([.inl (1, .inl (fun _ => 0))] : List ez_C)) cz kz = some (some (.int 1), (ev_hp (ev_sI ev_I0 6 (upd (upd (ev_I0 6) 4 1) 3 0)) ev_J0 (ev_sR ev_R0 0 65) ([.inl (1, .inl (fun _ => 0))] : List ez_C)), cz, kz) := by
  intro G
  rfl
theorem sp_z_12_sizeOf (X : ez_X) : ev_W X 94 0 (ez_lay [.ref 3, .int 0]) [] (ev_hp (ev_sI ev_I0 6 (upd (upd (ev_I0 6) 4 1) 3 0)) ev_J0 (ev_sR ev_R0 0 65) ([.inl (1, .inl (fun _ => 0))] : List ez_C)) 0 0 (fun r h1 c1 k1 => r = (some (.int 1)) ∧ h1 = (ev_hp (ev_sI ev_I0 6 (upd (upd (ev_I0 6) 4 1) 3 0)) ev_J0 (ev_sR ev_R0 0 65) ([.inl (1, .inl (fun _ => 0))] : List ez_C)) ∧ c1 = 0 ∧ k1 = 0) := by
  refine ev_ret (sp_z_12_sizeOf_r1 X  _ _) ?_
  exact ⟨rfl, rfl, rfl, rfl⟩
set_option maxRecDepth 100000 in
set_option maxHeartbeats 100000 in
theorem sp_z_13_cellsAt_r1 (X : ez_X)  (cz kz : Nat) : ∀ G : ez_F, fx_up X 12 G 86 0 [.ref 3, .int 0, .int 0] [] (ev_hp (ev_sI ev_I0 6 (upd (upd (ev_I0 6) 4 1) 3 0)) ev_J0 (ev_sR ev_R0 0 65) ([.inl (1, .inl (fun _ => 0))] : List ez_C)) cz kz = some (some (.long 0), (ev_hp (ev_sI ev_I0 6 (upd (upd (ev_I0 6) 4 1) 3 0)) ev_J0 (ev_sR ev_R0 0 65) ([.inl (1, .inl (fun _ => 0))] : List ez_C)), cz, kz) := by
  intro G
  rfl
theorem sp_z_13_cellsAt (X : ez_X) : ev_W X 86 0 (ez_lay [.ref 3, .int 0, .int 0]) [] (ev_hp (ev_sI ev_I0 6 (upd (upd (ev_I0 6) 4 1) 3 0)) ev_J0 (ev_sR ev_R0 0 65) ([.inl (1, .inl (fun _ => 0))] : List ez_C)) 0 0 (fun r h1 c1 k1 => r = (some (.long 0)) ∧ h1 = (ev_hp (ev_sI ev_I0 6 (upd (upd (ev_I0 6) 4 1) 3 0)) ev_J0 (ev_sR ev_R0 0 65) ([.inl (1, .inl (fun _ => 0))] : List ez_C)) ∧ c1 = 0 ∧ k1 = 0) := by
  refine ev_ret (sp_z_13_cellsAt_r1 X  _ _) ?_
  exact ⟨rfl, rfl, rfl, rfl⟩
set_option maxRecDepth 100000 in
set_option maxHeartbeats 100000 in
theorem sp_z_15_at_r1 (X : ez_X)  (cz kz : Nat) : ∀ G : ez_F, fx_up X 11 G 3 0 [.ref 2, .int 0] [] (ev_hp (ev_sI ev_I0 6 (upd (upd (ev_I0 6) 4 1) 3 0)) ev_J0 (ev_sR ev_R0 0 65) ([.inl (1, .inl (fun _ => 0))] : List ez_C)) cz kz = some (some (.int 0), (ev_hp (ev_sI ev_I0 6 (upd (upd (ev_I0 6) 4 1) 3 0)) ev_J0 (ev_sR ev_R0 0 65) ([.inl (1, .inl (fun _ => 0))] : List ez_C)), cz, kz) := by
  intro G
  rfl
theorem sp_z_15_at (X : ez_X) : ev_W X 3 0 (ez_lay [.ref 2, .int 0]) [] (ev_hp (ev_sI ev_I0 6 (upd (upd (ev_I0 6) 4 1) 3 0)) ev_J0 (ev_sR ev_R0 0 65) ([.inl (1, .inl (fun _ => 0))] : List ez_C)) 0 0 (fun r h1 c1 k1 => r = (some (.int 0)) ∧ h1 = (ev_hp (ev_sI ev_I0 6 (upd (upd (ev_I0 6) 4 1) 3 0)) ev_J0 (ev_sR ev_R0 0 65) ([.inl (1, .inl (fun _ => 0))] : List ez_C)) ∧ c1 = 0 ∧ k1 = 0) := by
  refine ev_ret (sp_z_15_at_r1 X  _ _) ?_
  exact ⟨rfl, rfl, rfl, rfl⟩
set_option maxRecDepth 100000 in
set_option maxHeartbeats 100000 in
theorem sp_z_14_around_r1 (X : ez_X)  (cz kz : Nat) : ∀ G : ez_F, fx_up X 4 G 144 0 [.ref 1, .long 0, ez_fill] [] (ev_hp (ev_sI ev_I0 6 (upd (upd (ev_I0 6) 4 1) 3 0)) ev_J0 (ev_sR ev_R0 0 65) ([.inl (1, .inl (fun _ => 0))] : List ez_C)) cz kz = ev_C G 3 [.ref 2, .int 0] (ev_hp (ev_sI ev_I0 6 (upd (upd (ev_I0 6) 4 1) 3 0)) ev_J0 (ev_sR ev_R0 0 65) ([.inl (1, .inl (fun _ => 0))] : List ez_C)) fun r h1 c1 k1 => G 144 8 [.ref 1, .long 0, ez_fill] (r.toList ++ []) h1 (cz + c1) (kz + k1) := by
  intro G
  rfl
set_option maxRecDepth 100000 in
set_option maxHeartbeats 100000 in
theorem sp_z_14_around_r2 (X : ez_X)  (cz kz : Nat) : ∀ G : ez_F, fx_up X 5 G 144 8 [.ref 1, .long 0, ez_fill] [.int 0] (ev_hp (ev_sI ev_I0 6 (upd (upd (ev_I0 6) 4 1) 3 0)) ev_J0 (ev_sR ev_R0 0 65) ([.inl (1, .inl (fun _ => 0))] : List ez_C)) cz kz = some (some (.long 0), (ev_hp (ev_sI ev_I0 6 (upd (upd (ev_I0 6) 4 1) 3 0)) ev_J0 (ev_sR ev_R0 0 65) ([.inl (1, .inl (fun _ => 0))] : List ez_C)), cz, kz) := by
  intro G
  rfl
theorem sp_z_14_around (X : ez_X) : ev_W X 144 0 (ez_lay [.ref 1, .long 0]) [] (ev_hp (ev_sI ev_I0 6 (upd (upd (ev_I0 6) 4 1) 3 0)) ev_J0 (ev_sR ev_R0 0 65) ([.inl (1, .inl (fun _ => 0))] : List ez_C)) 0 0 (fun r h1 c1 k1 => r = (some (.long 0)) ∧ h1 = (ev_hp (ev_sI ev_I0 6 (upd (upd (ev_I0 6) 4 1) 3 0)) ev_J0 (ev_sR ev_R0 0 65) ([.inl (1, .inl (fun _ => 0))] : List ez_C)) ∧ c1 = 0 ∧ k1 = 0) := by
  refine ev_call (sp_z_14_around_r1 X  _ _) (sp_z_15_at X) ?_
  rintro _ _ _ _ ⟨rfl, rfl, rfl, rfl⟩
  refine ev_ret (sp_z_14_around_r2 X  _ _) ?_
  exact ⟨rfl, rfl, rfl, rfl⟩
set_option maxRecDepth 100000 in
set_option maxHeartbeats 100000 in
theorem sp_z_17_sizeOf_r1 (X : ez_X)  (cz kz : Nat) : ∀ G : ez_F, fx_up X 6 G 94 0 [.ref 3, .int 1] [] (ev_hp (ev_sI ev_I0 6 (upd (upd (ev_I0 6) 4 1) 3 0)) ev_J0 (ev_sR ev_R0 0 65) ([.inl (1, .inl (fun _ => 0))] : List ez_C)) cz kz = some (some (.int 1), (ev_hp (ev_sI ev_I0 6 (upd (upd (ev_I0 6) 4 1) 3 0)) ev_J0 (ev_sR ev_R0 0 65) ([.inl (1, .inl (fun _ => 0))] : List ez_C)), cz, kz) := by
  intro G
  rfl
theorem sp_z_17_sizeOf (X : ez_X) : ev_W X 94 0 (ez_lay [.ref 3, .int 1]) [] (ev_hp (ev_sI ev_I0 6 (upd (upd (ev_I0 6) 4 1) 3 0)) ev_J0 (ev_sR ev_R0 0 65) ([.inl (1, .inl (fun _ => 0))] : List ez_C)) 0 0 (fun r h1 c1 k1 => r = (some (.int 1)) ∧ h1 = (ev_hp (ev_sI ev_I0 6 (upd (upd (ev_I0 6) 4 1) 3 0)) ev_J0 (ev_sR ev_R0 0 65) ([.inl (1, .inl (fun _ => 0))] : List ez_C)) ∧ c1 = 0 ∧ k1 = 0) := by
  refine ev_ret (sp_z_17_sizeOf_r1 X  _ _) ?_
  exact ⟨rfl, rfl, rfl, rfl⟩
set_option maxRecDepth 100000 in
set_option maxHeartbeats 100000 in
theorem sp_z_18_cellsAt_r1 (X : ez_X)  (cz kz : Nat) : ∀ G : ez_F, fx_up X 12 G 86 0 [.ref 3, .int 1, .int 0] [] (ev_hp (ev_sI ev_I0 6 (upd (upd (ev_I0 6) 4 1) 3 0)) ev_J0 (ev_sR ev_R0 0 65) ([.inl (1, .inl (fun _ => 0))] : List ez_C)) cz kz = some (some (.long 0), (ev_hp (ev_sI ev_I0 6 (upd (upd (ev_I0 6) 4 1) 3 0)) ev_J0 (ev_sR ev_R0 0 65) ([.inl (1, .inl (fun _ => 0))] : List ez_C)), cz, kz) := by
  intro G
  rfl
theorem sp_z_18_cellsAt (X : ez_X) : ev_W X 86 0 (ez_lay [.ref 3, .int 1, .int 0]) [] (ev_hp (ev_sI ev_I0 6 (upd (upd (ev_I0 6) 4 1) 3 0)) ev_J0 (ev_sR ev_R0 0 65) ([.inl (1, .inl (fun _ => 0))] : List ez_C)) 0 0 (fun r h1 c1 k1 => r = (some (.long 0)) ∧ h1 = (ev_hp (ev_sI ev_I0 6 (upd (upd (ev_I0 6) 4 1) 3 0)) ev_J0 (ev_sR ev_R0 0 65) ([.inl (1, .inl (fun _ => 0))] : List ez_C)) ∧ c1 = 0 ∧ k1 = 0) := by
  refine ev_ret (sp_z_18_cellsAt_r1 X  _ _) ?_
  exact ⟨rfl, rfl, rfl, rfl⟩
set_option maxRecDepth 100000 in
set_option maxHeartbeats 100000 in
theorem sp_z_20_at_r1 (X : ez_X)  (cz kz : Nat) : ∀ G : ez_F, fx_up X 11 G 3 0 [.ref 2, .int 0] [] (ev_hp (ev_sI ev_I0 6 (upd (upd (ev_I0 6) 4 1) 3 0)) ev_J0 (ev_sR ev_R0 0 65) ([.inl (1, .inl (fun _ => 0))] : List ez_C)) cz kz = some (some (.int 0), (ev_hp (ev_sI ev_I0 6 (upd (upd (ev_I0 6) 4 1) 3 0)) ev_J0 (ev_sR ev_R0 0 65) ([.inl (1, .inl (fun _ => 0))] : List ez_C)), cz, kz) := by
  intro G
  rfl
theorem sp_z_20_at (X : ez_X) : ev_W X 3 0 (ez_lay [.ref 2, .int 0]) [] (ev_hp (ev_sI ev_I0 6 (upd (upd (ev_I0 6) 4 1) 3 0)) ev_J0 (ev_sR ev_R0 0 65) ([.inl (1, .inl (fun _ => 0))] : List ez_C)) 0 0 (fun r h1 c1 k1 => r = (some (.int 0)) ∧ h1 = (ev_hp (ev_sI ev_I0 6 (upd (upd (ev_I0 6) 4 1) 3 0)) ev_J0 (ev_sR ev_R0 0 65) ([.inl (1, .inl (fun _ => 0))] : List ez_C)) ∧ c1 = 0 ∧ k1 = 0) := by
  refine ev_ret (sp_z_20_at_r1 X  _ _) ?_
  exact ⟨rfl, rfl, rfl, rfl⟩
set_option maxRecDepth 100000 in
set_option maxHeartbeats 100000 in
theorem sp_z_19_around_r1 (X : ez_X)  (cz kz : Nat) : ∀ G : ez_F, fx_up X 4 G 144 0 [.ref 1, .long 0, ez_fill] [] (ev_hp (ev_sI ev_I0 6 (upd (upd (ev_I0 6) 4 1) 3 0)) ev_J0 (ev_sR ev_R0 0 65) ([.inl (1, .inl (fun _ => 0))] : List ez_C)) cz kz = ev_C G 3 [.ref 2, .int 0] (ev_hp (ev_sI ev_I0 6 (upd (upd (ev_I0 6) 4 1) 3 0)) ev_J0 (ev_sR ev_R0 0 65) ([.inl (1, .inl (fun _ => 0))] : List ez_C)) fun r h1 c1 k1 => G 144 8 [.ref 1, .long 0, ez_fill] (r.toList ++ []) h1 (cz + c1) (kz + k1) := by
  intro G
  rfl
set_option maxRecDepth 100000 in
set_option maxHeartbeats 100000 in
theorem sp_z_19_around_r2 (X : ez_X)  (cz kz : Nat) : ∀ G : ez_F, fx_up X 5 G 144 8 [.ref 1, .long 0, ez_fill] [.int 0] (ev_hp (ev_sI ev_I0 6 (upd (upd (ev_I0 6) 4 1) 3 0)) ev_J0 (ev_sR ev_R0 0 65) ([.inl (1, .inl (fun _ => 0))] : List ez_C)) cz kz = some (some (.long 0), (ev_hp (ev_sI ev_I0 6 (upd (upd (ev_I0 6) 4 1) 3 0)) ev_J0 (ev_sR ev_R0 0 65) ([.inl (1, .inl (fun _ => 0))] : List ez_C)), cz, kz) := by
  intro G
  rfl
theorem sp_z_19_around (X : ez_X) : ev_W X 144 0 (ez_lay [.ref 1, .long 0]) [] (ev_hp (ev_sI ev_I0 6 (upd (upd (ev_I0 6) 4 1) 3 0)) ev_J0 (ev_sR ev_R0 0 65) ([.inl (1, .inl (fun _ => 0))] : List ez_C)) 0 0 (fun r h1 c1 k1 => r = (some (.long 0)) ∧ h1 = (ev_hp (ev_sI ev_I0 6 (upd (upd (ev_I0 6) 4 1) 3 0)) ev_J0 (ev_sR ev_R0 0 65) ([.inl (1, .inl (fun _ => 0))] : List ez_C)) ∧ c1 = 0 ∧ k1 = 0) := by
  refine ev_call (sp_z_19_around_r1 X  _ _) (sp_z_20_at X) ?_
  rintro _ _ _ _ ⟨rfl, rfl, rfl, rfl⟩
  refine ev_ret (sp_z_19_around_r2 X  _ _) ?_
  exact ⟨rfl, rfl, rfl, rfl⟩
set_option maxRecDepth 100000 in
set_option maxHeartbeats 100000 in
theorem sp_z_22_sizeOf_r1 (X : ez_X)  (cz kz : Nat) : ∀ G : ez_F, fx_up X 6 G 94 0 [.ref 3, .int 2] [] (ev_hp (ev_sI ev_I0 6 (upd (upd (ev_I0 6) 4 1) 3 0)) ev_J0 (ev_sR ev_R0 0 65) ([.inl (1, .inl (fun _ => 0))] : List ez_C)) cz kz = some (some (.int 1), (ev_hp (ev_sI ev_I0 6 (upd (upd (ev_I0 6) 4 1) 3 0)) ev_J0 (ev_sR ev_R0 0 65) ([.inl (1, .inl (fun _ => 0))] : List ez_C)), cz, kz) := by
  intro G
  rfl
theorem sp_z_22_sizeOf (X : ez_X) : ev_W X 94 0 (ez_lay [.ref 3, .int 2]) [] (ev_hp (ev_sI ev_I0 6 (upd (upd (ev_I0 6) 4 1) 3 0)) ev_J0 (ev_sR ev_R0 0 65) ([.inl (1, .inl (fun _ => 0))] : List ez_C)) 0 0 (fun r h1 c1 k1 => r = (some (.int 1)) ∧ h1 = (ev_hp (ev_sI ev_I0 6 (upd (upd (ev_I0 6) 4 1) 3 0)) ev_J0 (ev_sR ev_R0 0 65) ([.inl (1, .inl (fun _ => 0))] : List ez_C)) ∧ c1 = 0 ∧ k1 = 0) := by
  refine ev_ret (sp_z_22_sizeOf_r1 X  _ _) ?_
  exact ⟨rfl, rfl, rfl, rfl⟩
set_option maxRecDepth 100000 in
set_option maxHeartbeats 100000 in
theorem sp_z_23_cellsAt_r1 (X : ez_X)  (cz kz : Nat) : ∀ G : ez_F, fx_up X 12 G 86 0 [.ref 3, .int 2, .int 0] [] (ev_hp (ev_sI ev_I0 6 (upd (upd (ev_I0 6) 4 1) 3 0)) ev_J0 (ev_sR ev_R0 0 65) ([.inl (1, .inl (fun _ => 0))] : List ez_C)) cz kz = some (some (.long 0), (ev_hp (ev_sI ev_I0 6 (upd (upd (ev_I0 6) 4 1) 3 0)) ev_J0 (ev_sR ev_R0 0 65) ([.inl (1, .inl (fun _ => 0))] : List ez_C)), cz, kz) := by
  intro G
  rfl
theorem sp_z_23_cellsAt (X : ez_X) : ev_W X 86 0 (ez_lay [.ref 3, .int 2, .int 0]) [] (ev_hp (ev_sI ev_I0 6 (upd (upd (ev_I0 6) 4 1) 3 0)) ev_J0 (ev_sR ev_R0 0 65) ([.inl (1, .inl (fun _ => 0))] : List ez_C)) 0 0 (fun r h1 c1 k1 => r = (some (.long 0)) ∧ h1 = (ev_hp (ev_sI ev_I0 6 (upd (upd (ev_I0 6) 4 1) 3 0)) ev_J0 (ev_sR ev_R0 0 65) ([.inl (1, .inl (fun _ => 0))] : List ez_C)) ∧ c1 = 0 ∧ k1 = 0) := by
  refine ev_ret (sp_z_23_cellsAt_r1 X  _ _) ?_
  exact ⟨rfl, rfl, rfl, rfl⟩
set_option maxRecDepth 100000 in
set_option maxHeartbeats 100000 in
theorem sp_z_24_put_r1 (X : ez_X)  (cz kz : Nat) : ∀ G : ez_F, fx_up X 11 G 38 0 [.ref 65, .int 0, .int 0] [] (ev_hp (ev_sI ev_I0 6 (upd (upd (ev_I0 6) 4 1) 3 0)) ev_J0 (ev_sR ev_R0 0 65) ([.inl (1, .inl (fun _ => 0))] : List ez_C)) cz kz = some (none, (ev_hp (ev_sI ev_I0 6 (upd (upd (ev_I0 6) 4 1) 3 0)) ev_J0 (ev_sR ev_R0 0 65) ([.inl (1, .inl (upd (fun _ => 0) 0 0))] : List ez_C)), cz, kz) := by
  intro G
  rfl
theorem sp_z_24_put (X : ez_X) : ev_W X 38 0 (ez_lay [.ref 65, .int 0, .int 0]) [] (ev_hp (ev_sI ev_I0 6 (upd (upd (ev_I0 6) 4 1) 3 0)) ev_J0 (ev_sR ev_R0 0 65) ([.inl (1, .inl (fun _ => 0))] : List ez_C)) 0 0 (fun r h1 c1 k1 => r = none ∧ h1 = (ev_hp (ev_sI ev_I0 6 (upd (upd (ev_I0 6) 4 1) 3 0)) ev_J0 (ev_sR ev_R0 0 65) ([.inl (1, .inl (upd (fun _ => 0) 0 0))] : List ez_C)) ∧ c1 = 0 ∧ k1 = 0) := by
  refine ev_ret (sp_z_24_put_r1 X  _ _) ?_
  exact ⟨rfl, rfl, rfl, rfl⟩
set_option maxRecDepth 100000 in
set_option maxHeartbeats 100000 in
theorem sp_z_21_searchThird_r1 (X : ez_X)  (cz kz : Nat) : ∀ G : ez_F, fx_up X 4 G 142 0 [.ref 6, .int 0, .long 0, ez_fill] [] (ev_hp (ev_sI ev_I0 6 (upd (upd (ev_I0 6) 4 1) 3 0)) ev_J0 (ev_sR ev_R0 0 65) ([.inl (1, .inl (fun _ => 0))] : List ez_C)) cz kz = ev_C G 94 [.ref 3, .int 2] (ev_hp (ev_sI ev_I0 6 (upd (upd (ev_I0 6) 4 1) 3 0)) ev_J0 (ev_sR ev_R0 0 65) ([.inl (1, .inl (fun _ => 0))] : List ez_C)) fun r h1 c1 k1 => G 142 8 [.ref 6, .int 0, .long 0, ez_fill] (r.toList ++ []) h1 (cz + c1) (kz + k1) := by
  intro G
  rfl
set_option maxRecDepth 100000 in
set_option maxHeartbeats 100000 in
theorem sp_z_21_searchThird_r2 (X : ez_X)  (cz kz : Nat) : ∀ G : ez_F, fx_up X 11 G 142 8 [.ref 6, .int 0, .long 0, ez_fill] [.int 1] (ev_hp (ev_sI ev_I0 6 (upd (upd (ev_I0 6) 4 1) 3 0)) ev_J0 (ev_sR ev_R0 0 65) ([.inl (1, .inl (fun _ => 0))] : List ez_C)) cz kz = ev_C G 86 [.ref 3, .int 2, .int 0] (ev_hp (ev_sI ev_I0 6 (upd (upd (ev_I0 6) 4 1) 3 0)) ev_J0 (ev_sR ev_R0 0 65) ([.inl (1, .inl (fun _ => 0))] : List ez_C)) fun r h1 c1 k1 => G 142 30 [.ref 6, .int 0, .long 0, ez_fill, .int 1, .int 0] (r.toList ++ []) h1 (cz + c1) (kz + k1) := by
  intro G
  rfl
set_option maxRecDepth 100000 in
set_option maxHeartbeats 100000 in
theorem sp_z_21_searchThird_r3 (X : ez_X)  (cz kz : Nat) : ∀ G : ez_F, fx_up X 15 G 142 30 [.ref 6, .int 0, .long 0, ez_fill, .int 1, .int 0] [.long 0] (ev_hp (ev_sI ev_I0 6 (upd (upd (ev_I0 6) 4 1) 3 0)) ev_J0 (ev_sR ev_R0 0 65) ([.inl (1, .inl (fun _ => 0))] : List ez_C)) cz kz = ev_C G 38 [.ref 65, .int 0, .int 0] (ev_hp (ev_sI ev_I0 6 (upd (upd (ev_I0 6) 4 1) 3 0)) ev_J0 (ev_sR ev_R0 0 65) ([.inl (1, .inl (fun _ => 0))] : List ez_C)) fun r h1 c1 k1 => G 142 55 [.ref 6, .int 0, .long 0, ez_fill, .int 1, .int 0] (r.toList ++ []) h1 (cz + c1) (kz + k1) := by
  intro G
  rfl
set_option maxRecDepth 100000 in
set_option maxHeartbeats 100000 in
theorem sp_z_21_searchThird_r4 (X : ez_X)  (cz kz : Nat) : ∀ G : ez_F, fx_up X 12 G 142 55 [.ref 6, .int 0, .long 0, ez_fill, .int 1, .int 0] [] (ev_hp (ev_sI ev_I0 6 (upd (upd (ev_I0 6) 4 1) 3 0)) ev_J0 (ev_sR ev_R0 0 65) ([.inl (1, .inl (upd (fun _ => 0) 0 0))] : List ez_C)) cz kz = some (none, (ev_hp (ev_sI ev_I0 6 (upd (upd (ev_I0 6) 4 1) 3 1)) ev_J0 (ev_sR ev_R0 0 65) ([.inl (1, .inl (upd (fun _ => 0) 0 0))] : List ez_C)), cz, kz) := by
  intro G
  rfl
theorem sp_z_21_searchThird (X : ez_X) : ev_W X 142 0 (ez_lay [.ref 6, .int 0, .long 0]) [] (ev_hp (ev_sI ev_I0 6 (upd (upd (ev_I0 6) 4 1) 3 0)) ev_J0 (ev_sR ev_R0 0 65) ([.inl (1, .inl (fun _ => 0))] : List ez_C)) 0 0 (fun r h1 c1 k1 => r = none ∧ h1 = (ev_hp (ev_sI ev_I0 6 (upd (upd (ev_I0 6) 4 1) 3 1)) ev_J0 (ev_sR ev_R0 0 65) ([.inl (1, .inl (upd (fun _ => 0) 0 0))] : List ez_C)) ∧ c1 = 0 ∧ k1 = 0) := by
  refine ev_call (sp_z_21_searchThird_r1 X  _ _) (sp_z_22_sizeOf X) ?_
  rintro _ _ _ _ ⟨rfl, rfl, rfl, rfl⟩
  refine ev_call (sp_z_21_searchThird_r2 X  _ _) (sp_z_23_cellsAt X) ?_
  rintro _ _ _ _ ⟨rfl, rfl, rfl, rfl⟩
  refine ev_call (sp_z_21_searchThird_r3 X  _ _) (sp_z_24_put X) ?_
  rintro _ _ _ _ ⟨rfl, rfl, rfl, rfl⟩
  refine ev_ret (sp_z_21_searchThird_r4 X  _ _) ?_
  exact ⟨rfl, rfl, rfl, rfl⟩
set_option maxRecDepth 100000 in
set_option maxHeartbeats 100000 in
theorem sp_z_16_searchSecond_r1 (X : ez_X)  (cz kz : Nat) : ∀ G : ez_F, fx_up X 4 G 141 0 [.ref 6, .int 0, .long 0, ez_fill] [] (ev_hp (ev_sI ev_I0 6 (upd (upd (ev_I0 6) 4 1) 3 0)) ev_J0 (ev_sR ev_R0 0 65) ([.inl (1, .inl (fun _ => 0))] : List ez_C)) cz kz = ev_C G 94 [.ref 3, .int 1] (ev_hp (ev_sI ev_I0 6 (upd (upd (ev_I0 6) 4 1) 3 0)) ev_J0 (ev_sR ev_R0 0 65) ([.inl (1, .inl (fun _ => 0))] : List ez_C)) fun r h1 c1 k1 => G 141 8 [.ref 6, .int 0, .long 0, ez_fill] (r.toList ++ []) h1 (cz + c1) (kz + k1) := by
  intro G
  rfl
set_option maxRecDepth 100000 in
set_option maxHeartbeats 100000 in
theorem sp_z_16_searchSecond_r2 (X : ez_X)  (cz kz : Nat) : ∀ G : ez_F, fx_up X 11 G 141 8 [.ref 6, .int 0, .long 0, ez_fill] [.int 1] (ev_hp (ev_sI ev_I0 6 (upd (upd (ev_I0 6) 4 1) 3 0)) ev_J0 (ev_sR ev_R0 0 65) ([.inl (1, .inl (fun _ => 0))] : List ez_C)) cz kz = ev_C G 86 [.ref 3, .int 1, .int 0] (ev_hp (ev_sI ev_I0 6 (upd (upd (ev_I0 6) 4 1) 3 0)) ev_J0 (ev_sR ev_R0 0 65) ([.inl (1, .inl (fun _ => 0))] : List ez_C)) fun r h1 c1 k1 => G 141 30 [.ref 6, .int 0, .long 0, ez_fill, .int 1, .int 0] (r.toList ++ []) h1 (cz + c1) (kz + k1) := by
  intro G
  rfl
set_option maxRecDepth 100000 in
set_option maxHeartbeats 100000 in
theorem sp_z_16_searchSecond_r3 (X : ez_X)  (cz kz : Nat) : ∀ G : ez_F, fx_up X 18 G 141 30 [.ref 6, .int 0, .long 0, ez_fill, .int 1, .int 0] [.long 0] (ev_hp (ev_sI ev_I0 6 (upd (upd (ev_I0 6) 4 1) 3 0)) ev_J0 (ev_sR ev_R0 0 65) ([.inl (1, .inl (fun _ => 0))] : List ez_C)) cz kz = ev_C G 144 [.ref 1, .long 0] (ev_hp (ev_sI ev_I0 6 (upd (upd (ev_I0 6) 4 1) 3 0)) ev_J0 (ev_sR ev_R0 0 65) ([.inl (1, .inl (fun _ => 0))] : List ez_C)) fun r h1 c1 k1 => G 141 59 [.ref 6, .int 0, .long 0, ez_fill, .int 1, .int 0, .long 0, ez_fill] (r.toList ++ [.long 0, .int 0, .ref 6]) h1 (cz + c1) (kz + k1) := by
  intro G
  rfl
set_option maxRecDepth 100000 in
set_option maxHeartbeats 100000 in
theorem sp_z_16_searchSecond_r4 (X : ez_X)  (cz kz : Nat) : ∀ G : ez_F, fx_up X 2 G 141 59 [.ref 6, .int 0, .long 0, ez_fill, .int 1, .int 0, .long 0, ez_fill] [.long 0, .long 0, .int 0, .ref 6] (ev_hp (ev_sI ev_I0 6 (upd (upd (ev_I0 6) 4 1) 3 0)) ev_J0 (ev_sR ev_R0 0 65) ([.inl (1, .inl (fun _ => 0))] : List ez_C)) cz kz = ev_C G 142 [.ref 6, .int 0, .long 0] (ev_hp (ev_sI ev_I0 6 (upd (upd (ev_I0 6) 4 1) 3 0)) ev_J0 (ev_sR ev_R0 0 65) ([.inl (1, .inl (fun _ => 0))] : List ez_C)) fun r h1 c1 k1 => G 141 63 [.ref 6, .int 0, .long 0, ez_fill, .int 1, .int 0, .long 0, ez_fill] (r.toList ++ []) h1 (cz + c1) (kz + k1) := by
  intro G
  rfl
set_option maxRecDepth 100000 in
set_option maxHeartbeats 100000 in
theorem sp_z_16_searchSecond_r5 (X : ez_X)  (cz kz : Nat) : ∀ G : ez_F, fx_up X 6 G 141 63 [.ref 6, .int 0, .long 0, ez_fill, .int 1, .int 0, .long 0, ez_fill] [] (ev_hp (ev_sI ev_I0 6 (upd (upd (ev_I0 6) 4 1) 3 1)) ev_J0 (ev_sR ev_R0 0 65) ([.inl (1, .inl (upd (fun _ => 0) 0 0))] : List ez_C)) cz kz = some (none, (ev_hp (ev_sI ev_I0 6 (upd (upd (ev_I0 6) 4 1) 3 1)) ev_J0 (ev_sR ev_R0 0 65) ([.inl (1, .inl (upd (fun _ => 0) 0 0))] : List ez_C)), cz, kz) := by
  intro G
  rfl
theorem sp_z_16_searchSecond (X : ez_X) : ev_W X 141 0 (ez_lay [.ref 6, .int 0, .long 0]) [] (ev_hp (ev_sI ev_I0 6 (upd (upd (ev_I0 6) 4 1) 3 0)) ev_J0 (ev_sR ev_R0 0 65) ([.inl (1, .inl (fun _ => 0))] : List ez_C)) 0 0 (fun r h1 c1 k1 => r = none ∧ h1 = (ev_hp (ev_sI ev_I0 6 (upd (upd (ev_I0 6) 4 1) 3 1)) ev_J0 (ev_sR ev_R0 0 65) ([.inl (1, .inl (upd (fun _ => 0) 0 0))] : List ez_C)) ∧ c1 = 0 ∧ k1 = 0) := by
  refine ev_call (sp_z_16_searchSecond_r1 X  _ _) (sp_z_17_sizeOf X) ?_
  rintro _ _ _ _ ⟨rfl, rfl, rfl, rfl⟩
  refine ev_call (sp_z_16_searchSecond_r2 X  _ _) (sp_z_18_cellsAt X) ?_
  rintro _ _ _ _ ⟨rfl, rfl, rfl, rfl⟩
  refine ev_call (sp_z_16_searchSecond_r3 X  _ _) (sp_z_19_around X) ?_
  rintro _ _ _ _ ⟨rfl, rfl, rfl, rfl⟩
  refine ev_call (sp_z_16_searchSecond_r4 X  _ _) (sp_z_21_searchThird X) ?_
  rintro _ _ _ _ ⟨rfl, rfl, rfl, rfl⟩
  refine ev_ret (sp_z_16_searchSecond_r5 X  _ _) ?_
  exact ⟨rfl, rfl, rfl, rfl⟩
set_option maxRecDepth 100000 in
set_option maxHeartbeats 100000 in
theorem sp_z_6_search_r1 (X : ez_X)  (cz kz : Nat) : ∀ G : ez_F, fx_up X 3 G 140 0 [.ref 6] [] (ev_hp ev_I0 ev_J0 ev_R0 []) cz kz = ev_C G 89 [.ref 3] (ev_hp ev_I0 ev_J0 ev_R0 []) fun r h1 c1 k1 => G 140 7 [.ref 6] (r.toList ++ []) h1 (cz + c1) (kz + k1) := by
  intro G
  rfl
set_option maxRecDepth 100000 in
set_option maxHeartbeats 100000 in
theorem sp_z_6_search_r2 (X : ez_X)  (cz kz : Nat) : ∀ G : ez_F, fx_up X 24 G 140 7 [.ref 6] [.int 1] (ev_hp ev_I0 ev_J0 ev_R0 []) cz kz = ev_C G 19 [.int 0, .int 1] (ev_hp (ev_sI ev_I0 6 (upd (upd (ev_I0 6) 4 1) 3 0)) ev_J0 ev_R0 []) fun r h1 c1 k1 => G 140 52 [.ref 6, .int 1] (r.toList ++ [.ref 6]) h1 (cz + c1) (kz + k1) := by
  intro G
  rfl
set_option maxRecDepth 100000 in
set_option maxHeartbeats 100000 in
theorem sp_z_6_search_r3 (X : ez_X)  (cz kz : Nat) : ∀ G : ez_F, fx_up X 6 G 140 52 [.ref 6, .int 1] [.int 1, .ref 6] (ev_hp (ev_sI ev_I0 6 (upd (upd (ev_I0 6) 4 1) 3 0)) ev_J0 ev_R0 []) cz kz = ev_C G 94 [.ref 3, .int 0] (ev_hp (ev_sI ev_I0 6 (upd (upd (ev_I0 6) 4 1) 3 0)) ev_J0 (ev_sR ev_R0 0 65) ([.inl (1, .inl (fun _ => 0))] : List ez_C)) fun r h1 c1 k1 => G 140 65 [.ref 6, .int 1] (r.toList ++ []) h1 ((cz + 1) + c1) ((kz + 1) + k1) := by
  intro G
  rfl
set_option maxRecDepth 100000 in
set_option maxHeartbeats 100000 in
theorem sp_z_6_search_r4 (X : ez_X)  (cz kz : Nat) : ∀ G : ez_F, fx_up X 15 G 140 65 [.ref 6, .int 1] [.int 1] (ev_hp (ev_sI ev_I0 6 (upd (upd (ev_I0 6) 4 1) 3 0)) ev_J0 (ev_sR ev_R0 0 65) ([.inl (1, .inl (fun _ => 0))] : List ez_C)) cz kz = ev_C G 86 [.ref 3, .int 0, .int 0] (ev_hp (ev_sI ev_I0 6 (upd (upd (ev_I0 6) 4 1) 3 0)) ev_J0 (ev_sR ev_R0 0 65) ([.inl (1, .inl (fun _ => 0))] : List ez_C)) fun r h1 c1 k1 => G 140 88 [.ref 6, .int 1, .int 1, .int 0] (r.toList ++ [.ref 1, .int 0, .ref 6]) h1 (cz + c1) (kz + k1) := by
  intro G
  rfl
set_option maxRecDepth 100000 in
set_option maxHeartbeats 100000 in
theorem sp_z_6_search_r5 (X : ez_X)  (cz kz : Nat) : ∀ G : ez_F, fx_up X 1 G 140 88 [.ref 6, .int 1, .int 1, .int 0] [.long 0, .ref 1, .int 0, .ref 6] (ev_hp (ev_sI ev_I0 6 (upd (upd (ev_I0 6) 4 1) 3 0)) ev_J0 (ev_sR ev_R0 0 65) ([.inl (1, .inl (fun _ => 0))] : List ez_C)) cz kz = ev_C G 144 [.ref 1, .long 0] (ev_hp (ev_sI ev_I0 6 (upd (upd (ev_I0 6) 4 1) 3 0)) ev_J0 (ev_sR ev_R0 0 65) ([.inl (1, .inl (fun _ => 0))] : List ez_C)) fun r h1 c1 k1 => G 140 91 [.ref 6, .int 1, .int 1, .int 0] (r.toList ++ [.int 0, .ref 6]) h1 (cz + c1) (kz + k1) := by
  intro G
  rfl
set_option maxRecDepth 100000 in
set_option maxHeartbeats 100000 in
theorem sp_z_6_search_r6 (X : ez_X)  (cz kz : Nat) : ∀ G : ez_F, fx_up X 1 G 140 91 [.ref 6, .int 1, .int 1, .int 0] [.long 0, .int 0, .ref 6] (ev_hp (ev_sI ev_I0 6 (upd (upd (ev_I0 6) 4 1) 3 0)) ev_J0 (ev_sR ev_R0 0 65) ([.inl (1, .inl (fun _ => 0))] : List ez_C)) cz kz = ev_C G 141 [.ref 6, .int 0, .long 0] (ev_hp (ev_sI ev_I0 6 (upd (upd (ev_I0 6) 4 1) 3 0)) ev_J0 (ev_sR ev_R0 0 65) ([.inl (1, .inl (fun _ => 0))] : List ez_C)) fun r h1 c1 k1 => G 140 94 [.ref 6, .int 1, .int 1, .int 0] (r.toList ++ []) h1 (cz + c1) (kz + k1) := by
  intro G
  rfl
set_option maxRecDepth 100000 in
set_option maxHeartbeats 100000 in
theorem sp_z_6_search_r7 (X : ez_X)  (cz kz : Nat) : ∀ G : ez_F, fx_up X 6 G 140 94 [.ref 6, .int 1, .int 1, .int 0] [] (ev_hp (ev_sI ev_I0 6 (upd (upd (ev_I0 6) 4 1) 3 1)) ev_J0 (ev_sR ev_R0 0 65) ([.inl (1, .inl (upd (fun _ => 0) 0 0))] : List ez_C)) cz kz = some (none, (ev_hp (ev_sI ev_I0 6 (upd (upd (ev_I0 6) 4 1) 3 1)) ev_J0 (ev_sR ev_R0 0 65) ([.inl (1, .inl (upd (fun _ => 0) 0 0))] : List ez_C)), cz, kz) := by
  intro G
  rfl
theorem sp_z_6_search (X : ez_X) : ev_W X 140 0 (ez_lay [.ref 6]) [] (ev_hp ev_I0 ev_J0 ev_R0 []) 0 0 (fun r h1 c1 k1 => r = none ∧ h1 = (ev_hp (ev_sI ev_I0 6 (upd (upd (ev_I0 6) 4 1) 3 1)) ev_J0 (ev_sR ev_R0 0 65) ([.inl (1, .inl (upd (fun _ => 0) 0 0))] : List ez_C)) ∧ c1 = 1 ∧ k1 = 1) := by
  refine ev_call (sp_z_6_search_r1 X  _ _) (sp_z_7_combinations X) ?_
  rintro _ _ _ _ ⟨rfl, rfl, rfl, rfl⟩
  refine ev_call (sp_z_6_search_r2 X  _ _) (sp_z_11_grown X) ?_
  rintro _ _ _ _ ⟨rfl, rfl, rfl, rfl⟩
  refine ev_call (sp_z_6_search_r3 X  _ _) (sp_z_12_sizeOf X) ?_
  rintro _ _ _ _ ⟨rfl, rfl, rfl, rfl⟩
  refine ev_call (sp_z_6_search_r4 X  _ _) (sp_z_13_cellsAt X) ?_
  rintro _ _ _ _ ⟨rfl, rfl, rfl, rfl⟩
  refine ev_call (sp_z_6_search_r5 X  _ _) (sp_z_14_around X) ?_
  rintro _ _ _ _ ⟨rfl, rfl, rfl, rfl⟩
  refine ev_call (sp_z_6_search_r6 X  _ _) (sp_z_16_searchSecond X) ?_
  rintro _ _ _ _ ⟨rfl, rfl, rfl, rfl⟩
  refine ev_ret (sp_z_6_search_r7 X  _ _) ?_
  exact ⟨rfl, rfl, rfl, rfl⟩
set_option maxRecDepth 100000 in
set_option maxHeartbeats 100000 in
theorem sp_z_1_tooMany_r1 (X : ez_X)  (cz kz : Nat) : ∀ G : ez_F, fx_up X 3 G 52 0 [.ref 0] [] (ev_hp ev_I0 ev_J0 ev_R0 []) cz kz = ev_C G 89 [.ref 3] (ev_hp ev_I0 ev_J0 ev_R0 []) fun r h1 c1 k1 => G 52 7 [.ref 0] (r.toList ++ []) h1 (cz + c1) (kz + k1) := by
  intro G
  rfl
set_option maxRecDepth 100000 in
set_option maxHeartbeats 100000 in
theorem sp_z_1_tooMany_r2 (X : ez_X)  (cz kz : Nat) : ∀ G : ez_F, fx_up X 5 G 52 7 [.ref 0] [.int 1] (ev_hp ev_I0 ev_J0 ev_R0 []) cz kz = ev_C G 140 [.ref 6] (ev_hp ev_I0 ev_J0 ev_R0 []) fun r h1 c1 k1 => G 52 22 [.ref 0] (r.toList ++ []) h1 (cz + c1) (kz + k1) := by
  intro G
  rfl
set_option maxRecDepth 100000 in
set_option maxHeartbeats 100000 in
theorem sp_z_1_tooMany_r3 (X : ez_X)  (cz kz : Nat) : ∀ G : ez_F, fx_up X 2 G 52 22 [.ref 0] [] (ev_hp (ev_sI ev_I0 6 (upd (upd (ev_I0 6) 4 1) 3 1)) ev_J0 (ev_sR ev_R0 0 65) ([.inl (1, .inl (upd (fun _ => 0) 0 0))] : List ez_C)) cz kz = some (some (.int 0), (ev_hp (ev_sI ev_I0 6 (upd (upd (ev_I0 6) 4 1) 3 1)) ev_J0 (ev_sR ev_R0 0 65) ([.inl (1, .inl (upd (fun _ => 0) 0 0))] : List ez_C)), cz, kz) := by
  intro G
  rfl
theorem sp_z_1_tooMany (X : ez_X) : ev_W X 52 0 (ez_lay [.ref 0]) [] (ev_hp ev_I0 ev_J0 ev_R0 []) 0 0 (fun r h1 c1 k1 => r = (some (.int 0)) ∧ h1 = (ev_hp (ev_sI ev_I0 6 (upd (upd (ev_I0 6) 4 1) 3 1)) ev_J0 (ev_sR ev_R0 0 65) ([.inl (1, .inl (upd (fun _ => 0) 0 0))] : List ez_C)) ∧ c1 = 1 ∧ k1 = 1) := by
  refine ev_call (sp_z_1_tooMany_r1 X  _ _) (sp_z_2_combinations X) ?_
  rintro _ _ _ _ ⟨rfl, rfl, rfl, rfl⟩
  refine ev_call (sp_z_1_tooMany_r2 X  _ _) (sp_z_6_search X) ?_
  rintro _ _ _ _ ⟨rfl, rfl, rfl, rfl⟩
  refine ev_ret (sp_z_1_tooMany_r3 X  _ _) ?_
  exact ⟨rfl, rfl, rfl, rfl⟩
set_option maxRecDepth 100000 in
set_option maxHeartbeats 100000 in
theorem sp_z_27_grown_r1 (X : ez_X)  (cz kz : Nat) : ∀ G : ez_F, fx_up X 10 G 19 0 [.int 0, .int 1] [] (ev_hp (ev_sI ev_I0 6 (upd (upd (ev_I0 6) 4 1) 3 1)) ev_J0 (ev_sR ev_R0 0 65) ([.inl (1, .inl (upd (fun _ => 0) 0 0))] : List ez_C)) cz kz = some (some (.int 1), (ev_hp (ev_sI ev_I0 6 (upd (upd (ev_I0 6) 4 1) 3 1)) ev_J0 (ev_sR ev_R0 0 65) ([.inl (1, .inl (upd (fun _ => 0) 0 0))] : List ez_C)), cz, kz) := by
  intro G
  rfl
theorem sp_z_27_grown (X : ez_X) : ev_W X 19 0 (ez_lay [.int 0, .int 1]) [] (ev_hp (ev_sI ev_I0 6 (upd (upd (ev_I0 6) 4 1) 3 1)) ev_J0 (ev_sR ev_R0 0 65) ([.inl (1, .inl (upd (fun _ => 0) 0 0))] : List ez_C)) 0 0 (fun r h1 c1 k1 => r = (some (.int 1)) ∧ h1 = (ev_hp (ev_sI ev_I0 6 (upd (upd (ev_I0 6) 4 1) 3 1)) ev_J0 (ev_sR ev_R0 0 65) ([.inl (1, .inl (upd (fun _ => 0) 0 0))] : List ez_C)) ∧ c1 = 0 ∧ k1 = 0) := by
  refine ev_ret (sp_z_27_grown_r1 X  _ _) ?_
  exact ⟨rfl, rfl, rfl, rfl⟩
set_option maxRecDepth 100000 in
set_option maxHeartbeats 100000 in
theorem sp_z_26_grow_r1 (X : ez_X)  (cz kz : Nat) : ∀ G : ez_F, fx_up X 5 G 108 0 [.ref 13, .int 1] [] (ev_hp (ev_sI ev_I0 6 (upd (upd (ev_I0 6) 4 1) 3 1)) ev_J0 (ev_sR ev_R0 0 65) ([.inl (1, .inl (upd (fun _ => 0) 0 0))] : List ez_C)) cz kz = ev_C G 19 [.int 0, .int 1] (ev_hp (ev_sI ev_I0 6 (upd (upd (ev_I0 6) 4 1) 3 1)) ev_J0 (ev_sR ev_R0 0 65) ([.inl (1, .inl (upd (fun _ => 0) 0 0))] : List ez_C)) fun r h1 c1 k1 => G 108 9 [.ref 13, .int 1] (r.toList ++ []) h1 (cz + c1) (kz + k1) := by
  intro G
  rfl
set_option maxRecDepth 100000 in
set_option maxHeartbeats 100000 in
theorem sp_z_26_grow_r2 (X : ez_X)  (cz kz : Nat) : ∀ G : ez_F, fx_up X 24 G 108 9 [.ref 13, .int 1] [.int 1] (ev_hp (ev_sI ev_I0 6 (upd (upd (ev_I0 6) 4 1) 3 1)) ev_J0 (ev_sR ev_R0 0 65) ([.inl (1, .inl (upd (fun _ => 0) 0 0))] : List ez_C)) cz kz = some (none, (ev_hp (ev_sI ev_I0 6 (upd (upd (ev_I0 6) 4 1) 3 1)) ev_J0 (ev_sR (ev_sR (ev_sR (ev_sR ev_R0 0 65) 1 66) 2 67) 3 68) ([.inl (1, .inl (upd (fun _ => 0) 0 0)), .inl (1, .inr (.inl (fun _ => 0))), .inl (1, .inr (.inl (fun _ => 0))), .inl (1, .inr (.inl (fun _ => 0)))] : List ez_C)), (cz + 3), (kz + 3)) := by
  intro G
  rfl
theorem sp_z_26_grow (X : ez_X) : ev_W X 108 0 (ez_lay [.ref 13, .int 1]) [] (ev_hp (ev_sI ev_I0 6 (upd (upd (ev_I0 6) 4 1) 3 1)) ev_J0 (ev_sR ev_R0 0 65) ([.inl (1, .inl (upd (fun _ => 0) 0 0))] : List ez_C)) 0 0 (fun r h1 c1 k1 => r = none ∧ h1 = (ev_hp (ev_sI ev_I0 6 (upd (upd (ev_I0 6) 4 1) 3 1)) ev_J0 (ev_sR (ev_sR (ev_sR (ev_sR ev_R0 0 65) 1 66) 2 67) 3 68) ([.inl (1, .inl (upd (fun _ => 0) 0 0)), .inl (1, .inr (.inl (fun _ => 0))), .inl (1, .inr (.inl (fun _ => 0))), .inl (1, .inr (.inl (fun _ => 0)))] : List ez_C)) ∧ c1 = 3 ∧ k1 = 3) := by
  refine ev_call (sp_z_26_grow_r1 X  _ _) (sp_z_27_grown X) ?_
  rintro _ _ _ _ ⟨rfl, rfl, rfl, rfl⟩
  refine ev_ret (sp_z_26_grow_r2 X  _ _) ?_
  exact ⟨rfl, rfl, rfl, rfl⟩
set_option maxRecDepth 100000 in
set_option maxHeartbeats 100000 in
theorem sp_z_29_at_r1 (X : ez_X)  (cz kz : Nat) : ∀ G : ez_F, fx_up X 11 G 3 0 [.ref 2, .int 1] [] (ev_hp (ev_sI ev_I0 6 (upd (upd (ev_I0 6) 4 1) 3 1)) ev_J0 (ev_sR (ev_sR (ev_sR (ev_sR ev_R0 0 65) 1 66) 2 67) 3 68) ([.inl (1, .inl (upd (fun _ => 0) 0 0)), .inl (1, .inr (.inl (fun _ => 0))), .inl (1, .inr (.inl (fun _ => 0))), .inl (1, .inr (.inl (fun _ => 0)))] : List ez_C)) cz kz = some (some (.int 1), (ev_hp (ev_sI ev_I0 6 (upd (upd (ev_I0 6) 4 1) 3 1)) ev_J0 (ev_sR (ev_sR (ev_sR (ev_sR ev_R0 0 65) 1 66) 2 67) 3 68) ([.inl (1, .inl (upd (fun _ => 0) 0 0)), .inl (1, .inr (.inl (fun _ => 0))), .inl (1, .inr (.inl (fun _ => 0))), .inl (1, .inr (.inl (fun _ => 0)))] : List ez_C)), cz, kz) := by
  intro G
  rfl
theorem sp_z_29_at (X : ez_X) : ev_W X 3 0 (ez_lay [.ref 2, .int 1]) [] (ev_hp (ev_sI ev_I0 6 (upd (upd (ev_I0 6) 4 1) 3 1)) ev_J0 (ev_sR (ev_sR (ev_sR (ev_sR ev_R0 0 65) 1 66) 2 67) 3 68) ([.inl (1, .inl (upd (fun _ => 0) 0 0)), .inl (1, .inr (.inl (fun _ => 0))), .inl (1, .inr (.inl (fun _ => 0))), .inl (1, .inr (.inl (fun _ => 0)))] : List ez_C)) 0 0 (fun r h1 c1 k1 => r = (some (.int 1)) ∧ h1 = (ev_hp (ev_sI ev_I0 6 (upd (upd (ev_I0 6) 4 1) 3 1)) ev_J0 (ev_sR (ev_sR (ev_sR (ev_sR ev_R0 0 65) 1 66) 2 67) 3 68) ([.inl (1, .inl (upd (fun _ => 0) 0 0)), .inl (1, .inr (.inl (fun _ => 0))), .inl (1, .inr (.inl (fun _ => 0))), .inl (1, .inr (.inl (fun _ => 0)))] : List ez_C)) ∧ c1 = 0 ∧ k1 = 0) := by
  refine ev_ret (sp_z_29_at_r1 X  _ _) ?_
  exact ⟨rfl, rfl, rfl, rfl⟩
set_option maxRecDepth 100000 in
set_option maxHeartbeats 100000 in
theorem sp_z_28_rule_r1 (X : ez_X)  (cz kz : Nat) : ∀ G : ez_F, fx_up X 4 G 152 0 [.ref 1, .int 1] [] (ev_hp (ev_sI ev_I0 6 (upd (upd (ev_I0 6) 4 1) 3 1)) ev_J0 (ev_sR (ev_sR (ev_sR (ev_sR ev_R0 0 65) 1 66) 2 67) 3 68) ([.inl (1, .inl (upd (fun _ => 0) 0 0)), .inl (1, .inr (.inl (fun _ => 0))), .inl (1, .inr (.inl (fun _ => 0))), .inl (1, .inr (.inl (fun _ => 0)))] : List ez_C)) cz kz = ev_C G 3 [.ref 2, .int 1] (ev_hp (ev_sI ev_I0 6 (upd (upd (ev_I0 6) 4 1) 3 1)) ev_J0 (ev_sR (ev_sR (ev_sR (ev_sR ev_R0 0 65) 1 66) 2 67) 3 68) ([.inl (1, .inl (upd (fun _ => 0) 0 0)), .inl (1, .inr (.inl (fun _ => 0))), .inl (1, .inr (.inl (fun _ => 0))), .inl (1, .inr (.inl (fun _ => 0)))] : List ez_C)) fun r h1 c1 k1 => G 152 8 [.ref 1, .int 1] (r.toList ++ []) h1 (cz + c1) (kz + k1) := by
  intro G
  rfl
set_option maxRecDepth 100000 in
set_option maxHeartbeats 100000 in
theorem sp_z_28_rule_r2 (X : ez_X)  (cz kz : Nat) : ∀ G : ez_F, fx_up X 1 G 152 8 [.ref 1, .int 1] [.int 1] (ev_hp (ev_sI ev_I0 6 (upd (upd (ev_I0 6) 4 1) 3 1)) ev_J0 (ev_sR (ev_sR (ev_sR (ev_sR ev_R0 0 65) 1 66) 2 67) 3 68) ([.inl (1, .inl (upd (fun _ => 0) 0 0)), .inl (1, .inr (.inl (fun _ => 0))), .inl (1, .inr (.inl (fun _ => 0))), .inl (1, .inr (.inl (fun _ => 0)))] : List ez_C)) cz kz = some (some (.int 1), (ev_hp (ev_sI ev_I0 6 (upd (upd (ev_I0 6) 4 1) 3 1)) ev_J0 (ev_sR (ev_sR (ev_sR (ev_sR ev_R0 0 65) 1 66) 2 67) 3 68) ([.inl (1, .inl (upd (fun _ => 0) 0 0)), .inl (1, .inr (.inl (fun _ => 0))), .inl (1, .inr (.inl (fun _ => 0))), .inl (1, .inr (.inl (fun _ => 0)))] : List ez_C)), cz, kz) := by
  intro G
  rfl
theorem sp_z_28_rule (X : ez_X) : ev_W X 152 0 (ez_lay [.ref 1, .int 1]) [] (ev_hp (ev_sI ev_I0 6 (upd (upd (ev_I0 6) 4 1) 3 1)) ev_J0 (ev_sR (ev_sR (ev_sR (ev_sR ev_R0 0 65) 1 66) 2 67) 3 68) ([.inl (1, .inl (upd (fun _ => 0) 0 0)), .inl (1, .inr (.inl (fun _ => 0))), .inl (1, .inr (.inl (fun _ => 0))), .inl (1, .inr (.inl (fun _ => 0)))] : List ez_C)) 0 0 (fun r h1 c1 k1 => r = (some (.int 1)) ∧ h1 = (ev_hp (ev_sI ev_I0 6 (upd (upd (ev_I0 6) 4 1) 3 1)) ev_J0 (ev_sR (ev_sR (ev_sR (ev_sR ev_R0 0 65) 1 66) 2 67) 3 68) ([.inl (1, .inl (upd (fun _ => 0) 0 0)), .inl (1, .inr (.inl (fun _ => 0))), .inl (1, .inr (.inl (fun _ => 0))), .inl (1, .inr (.inl (fun _ => 0)))] : List ez_C)) ∧ c1 = 0 ∧ k1 = 0) := by
  refine ev_call (sp_z_28_rule_r1 X  _ _) (sp_z_29_at X) ?_
  rintro _ _ _ _ ⟨rfl, rfl, rfl, rfl⟩
  refine ev_ret (sp_z_28_rule_r2 X  _ _) ?_
  exact ⟨rfl, rfl, rfl, rfl⟩
set_option maxRecDepth 100000 in
set_option maxHeartbeats 100000 in
theorem sp_z_32_at_r1 (X : ez_X)  (cz kz : Nat) : ∀ G : ez_F, fx_up X 11 G 3 0 [.ref 65, .int 0] [] (ev_hp (ev_sI ev_I0 6 (upd (upd (ev_I0 6) 4 1) 3 1)) ev_J0 (ev_sR (ev_sR (ev_sR (ev_sR ev_R0 0 65) 1 66) 2 67) 3 68) ([.inl (1, .inl (upd (fun _ => 0) 0 0)), .inl (1, .inr (.inl (fun _ => 0))), .inl (1, .inr (.inl (fun _ => 0))), .inl (1, .inr (.inl (fun _ => 0)))] : List ez_C)) cz kz = some (some (.int 0), (ev_hp (ev_sI ev_I0 6 (upd (upd (ev_I0 6) 4 1) 3 1)) ev_J0 (ev_sR (ev_sR (ev_sR (ev_sR ev_R0 0 65) 1 66) 2 67) 3 68) ([.inl (1, .inl (upd (fun _ => 0) 0 0)), .inl (1, .inr (.inl (fun _ => 0))), .inl (1, .inr (.inl (fun _ => 0))), .inl (1, .inr (.inl (fun _ => 0)))] : List ez_C)), cz, kz) := by
  intro G
  rfl
theorem sp_z_32_at (X : ez_X) : ev_W X 3 0 (ez_lay [.ref 65, .int 0]) [] (ev_hp (ev_sI ev_I0 6 (upd (upd (ev_I0 6) 4 1) 3 1)) ev_J0 (ev_sR (ev_sR (ev_sR (ev_sR ev_R0 0 65) 1 66) 2 67) 3 68) ([.inl (1, .inl (upd (fun _ => 0) 0 0)), .inl (1, .inr (.inl (fun _ => 0))), .inl (1, .inr (.inl (fun _ => 0))), .inl (1, .inr (.inl (fun _ => 0)))] : List ez_C)) 0 0 (fun r h1 c1 k1 => r = (some (.int 0)) ∧ h1 = (ev_hp (ev_sI ev_I0 6 (upd (upd (ev_I0 6) 4 1) 3 1)) ev_J0 (ev_sR (ev_sR (ev_sR (ev_sR ev_R0 0 65) 1 66) 2 67) 3 68) ([.inl (1, .inl (upd (fun _ => 0) 0 0)), .inl (1, .inr (.inl (fun _ => 0))), .inl (1, .inr (.inl (fun _ => 0))), .inl (1, .inr (.inl (fun _ => 0)))] : List ez_C)) ∧ c1 = 0 ∧ k1 = 0) := by
  refine ev_ret (sp_z_32_at_r1 X  _ _) ?_
  exact ⟨rfl, rfl, rfl, rfl⟩
set_option maxRecDepth 100000 in
set_option maxHeartbeats 100000 in
theorem sp_z_31_codeOf_r1 (X : ez_X)  (cz kz : Nat) : ∀ G : ez_F, fx_up X 4 G 138 0 [.ref 6, .int 0] [] (ev_hp (ev_sI ev_I0 6 (upd (upd (ev_I0 6) 4 1) 3 1)) ev_J0 (ev_sR (ev_sR (ev_sR (ev_sR ev_R0 0 65) 1 66) 2 67) 3 68) ([.inl (1, .inl (upd (fun _ => 0) 0 0)), .inl (1, .inr (.inl (fun _ => 0))), .inl (1, .inr (.inl (fun _ => 0))), .inl (1, .inr (.inl (fun _ => 0)))] : List ez_C)) cz kz = ev_C G 3 [.ref 65, .int 0] (ev_hp (ev_sI ev_I0 6 (upd (upd (ev_I0 6) 4 1) 3 1)) ev_J0 (ev_sR (ev_sR (ev_sR (ev_sR ev_R0 0 65) 1 66) 2 67) 3 68) ([.inl (1, .inl (upd (fun _ => 0) 0 0)), .inl (1, .inr (.inl (fun _ => 0))), .inl (1, .inr (.inl (fun _ => 0))), .inl (1, .inr (.inl (fun _ => 0)))] : List ez_C)) fun r h1 c1 k1 => G 138 8 [.ref 6, .int 0] (r.toList ++ []) h1 (cz + c1) (kz + k1) := by
  intro G
  rfl
set_option maxRecDepth 100000 in
set_option maxHeartbeats 100000 in
theorem sp_z_31_codeOf_r2 (X : ez_X)  (cz kz : Nat) : ∀ G : ez_F, fx_up X 1 G 138 8 [.ref 6, .int 0] [.int 0] (ev_hp (ev_sI ev_I0 6 (upd (upd (ev_I0 6) 4 1) 3 1)) ev_J0 (ev_sR (ev_sR (ev_sR (ev_sR ev_R0 0 65) 1 66) 2 67) 3 68) ([.inl (1, .inl (upd (fun _ => 0) 0 0)), .inl (1, .inr (.inl (fun _ => 0))), .inl (1, .inr (.inl (fun _ => 0))), .inl (1, .inr (.inl (fun _ => 0)))] : List ez_C)) cz kz = some (some (.int 0), (ev_hp (ev_sI ev_I0 6 (upd (upd (ev_I0 6) 4 1) 3 1)) ev_J0 (ev_sR (ev_sR (ev_sR (ev_sR ev_R0 0 65) 1 66) 2 67) 3 68) ([.inl (1, .inl (upd (fun _ => 0) 0 0)), .inl (1, .inr (.inl (fun _ => 0))), .inl (1, .inr (.inl (fun _ => 0))), .inl (1, .inr (.inl (fun _ => 0)))] : List ez_C)), cz, kz) := by
  intro G
  rfl
theorem sp_z_31_codeOf (X : ez_X) : ev_W X 138 0 (ez_lay [.ref 6, .int 0]) [] (ev_hp (ev_sI ev_I0 6 (upd (upd (ev_I0 6) 4 1) 3 1)) ev_J0 (ev_sR (ev_sR (ev_sR (ev_sR ev_R0 0 65) 1 66) 2 67) 3 68) ([.inl (1, .inl (upd (fun _ => 0) 0 0)), .inl (1, .inr (.inl (fun _ => 0))), .inl (1, .inr (.inl (fun _ => 0))), .inl (1, .inr (.inl (fun _ => 0)))] : List ez_C)) 0 0 (fun r h1 c1 k1 => r = (some (.int 0)) ∧ h1 = (ev_hp (ev_sI ev_I0 6 (upd (upd (ev_I0 6) 4 1) 3 1)) ev_J0 (ev_sR (ev_sR (ev_sR (ev_sR ev_R0 0 65) 1 66) 2 67) 3 68) ([.inl (1, .inl (upd (fun _ => 0) 0 0)), .inl (1, .inr (.inl (fun _ => 0))), .inl (1, .inr (.inl (fun _ => 0))), .inl (1, .inr (.inl (fun _ => 0)))] : List ez_C)) ∧ c1 = 0 ∧ k1 = 0) := by
  refine ev_call (sp_z_31_codeOf_r1 X  _ _) (sp_z_32_at X) ?_
  rintro _ _ _ _ ⟨rfl, rfl, rfl, rfl⟩
  refine ev_ret (sp_z_31_codeOf_r2 X  _ _) ?_
  exact ⟨rfl, rfl, rfl, rfl⟩
set_option maxRecDepth 100000 in
set_option maxHeartbeats 100000 in
theorem sp_z_34_spotIn_r1 (X : ez_X)  (cz kz : Nat) : ∀ G : ez_F, fx_up X 10 G 45 0 [.int 0, .int 0] [] (ev_hp (ev_sI ev_I0 6 (upd (upd (ev_I0 6) 4 1) 3 1)) ev_J0 (ev_sR (ev_sR (ev_sR (ev_sR ev_R0 0 65) 1 66) 2 67) 3 68) ([.inl (1, .inl (upd (fun _ => 0) 0 0)), .inl (1, .inr (.inl (fun _ => 0))), .inl (1, .inr (.inl (fun _ => 0))), .inl (1, .inr (.inl (fun _ => 0)))] : List ez_C)) cz kz = some (some (.int 0), (ev_hp (ev_sI ev_I0 6 (upd (upd (ev_I0 6) 4 1) 3 1)) ev_J0 (ev_sR (ev_sR (ev_sR (ev_sR ev_R0 0 65) 1 66) 2 67) 3 68) ([.inl (1, .inl (upd (fun _ => 0) 0 0)), .inl (1, .inr (.inl (fun _ => 0))), .inl (1, .inr (.inl (fun _ => 0))), .inl (1, .inr (.inl (fun _ => 0)))] : List ez_C)), cz, kz) := by
  intro G
  rfl
theorem sp_z_34_spotIn (X : ez_X) : ev_W X 45 0 (ez_lay [.int 0, .int 0]) [] (ev_hp (ev_sI ev_I0 6 (upd (upd (ev_I0 6) 4 1) 3 1)) ev_J0 (ev_sR (ev_sR (ev_sR (ev_sR ev_R0 0 65) 1 66) 2 67) 3 68) ([.inl (1, .inl (upd (fun _ => 0) 0 0)), .inl (1, .inr (.inl (fun _ => 0))), .inl (1, .inr (.inl (fun _ => 0))), .inl (1, .inr (.inl (fun _ => 0)))] : List ez_C)) 0 0 (fun r h1 c1 k1 => r = (some (.int 0)) ∧ h1 = (ev_hp (ev_sI ev_I0 6 (upd (upd (ev_I0 6) 4 1) 3 1)) ev_J0 (ev_sR (ev_sR (ev_sR (ev_sR ev_R0 0 65) 1 66) 2 67) 3 68) ([.inl (1, .inl (upd (fun _ => 0) 0 0)), .inl (1, .inr (.inl (fun _ => 0))), .inl (1, .inr (.inl (fun _ => 0))), .inl (1, .inr (.inl (fun _ => 0)))] : List ez_C)) ∧ c1 = 0 ∧ k1 = 0) := by
  refine ev_ret (sp_z_34_spotIn_r1 X  _ _) ?_
  exact ⟨rfl, rfl, rfl, rfl⟩
set_option maxRecDepth 100000 in
set_option maxHeartbeats 100000 in
theorem sp_z_33_cellsIn_r1 (X : ez_X)  (cz kz : Nat) : ∀ G : ez_F, fx_up X 6 G 87 0 [.ref 3, .int 0, .int 0] [] (ev_hp (ev_sI ev_I0 6 (upd (upd (ev_I0 6) 4 1) 3 1)) ev_J0 (ev_sR (ev_sR (ev_sR (ev_sR ev_R0 0 65) 1 66) 2 67) 3 68) ([.inl (1, .inl (upd (fun _ => 0) 0 0)), .inl (1, .inr (.inl (fun _ => 0))), .inl (1, .inr (.inl (fun _ => 0))), .inl (1, .inr (.inl (fun _ => 0)))] : List ez_C)) cz kz = ev_C G 45 [.int 0, .int 0] (ev_hp (ev_sI ev_I0 6 (upd (upd (ev_I0 6) 4 1) 3 1)) ev_J0 (ev_sR (ev_sR (ev_sR (ev_sR ev_R0 0 65) 1 66) 2 67) 3 68) ([.inl (1, .inl (upd (fun _ => 0) 0 0)), .inl (1, .inr (.inl (fun _ => 0))), .inl (1, .inr (.inl (fun _ => 0))), .inl (1, .inr (.inl (fun _ => 0)))] : List ez_C)) fun r h1 c1 k1 => G 87 10 [.ref 3, .int 0, .int 0] (r.toList ++ [.int 0]) h1 (cz + c1) (kz + k1) := by
  intro G
  rfl
set_option maxRecDepth 100000 in
set_option maxHeartbeats 100000 in
theorem sp_z_33_cellsIn_r2 (X : ez_X)  (cz kz : Nat) : ∀ G : ez_F, fx_up X 8 G 87 10 [.ref 3, .int 0, .int 0] [.int 0, .int 0] (ev_hp (ev_sI ev_I0 6 (upd (upd (ev_I0 6) 4 1) 3 1)) ev_J0 (ev_sR (ev_sR (ev_sR (ev_sR ev_R0 0 65) 1 66) 2 67) 3 68) ([.inl (1, .inl (upd (fun _ => 0) 0 0)), .inl (1, .inr (.inl (fun _ => 0))), .inl (1, .inr (.inl (fun _ => 0))), .inl (1, .inr (.inl (fun _ => 0)))] : List ez_C)) cz kz = some (some (.long 0), (ev_hp (ev_sI ev_I0 6 (upd (upd (ev_I0 6) 4 1) 3 1)) ev_J0 (ev_sR (ev_sR (ev_sR (ev_sR ev_R0 0 65) 1 66) 2 67) 3 68) ([.inl (1, .inl (upd (fun _ => 0) 0 0)), .inl (1, .inr (.inl (fun _ => 0))), .inl (1, .inr (.inl (fun _ => 0))), .inl (1, .inr (.inl (fun _ => 0)))] : List ez_C)), cz, kz) := by
  intro G
  rfl
theorem sp_z_33_cellsIn (X : ez_X) : ev_W X 87 0 (ez_lay [.ref 3, .int 0, .int 0]) [] (ev_hp (ev_sI ev_I0 6 (upd (upd (ev_I0 6) 4 1) 3 1)) ev_J0 (ev_sR (ev_sR (ev_sR (ev_sR ev_R0 0 65) 1 66) 2 67) 3 68) ([.inl (1, .inl (upd (fun _ => 0) 0 0)), .inl (1, .inr (.inl (fun _ => 0))), .inl (1, .inr (.inl (fun _ => 0))), .inl (1, .inr (.inl (fun _ => 0)))] : List ez_C)) 0 0 (fun r h1 c1 k1 => r = (some (.long 0)) ∧ h1 = (ev_hp (ev_sI ev_I0 6 (upd (upd (ev_I0 6) 4 1) 3 1)) ev_J0 (ev_sR (ev_sR (ev_sR (ev_sR ev_R0 0 65) 1 66) 2 67) 3 68) ([.inl (1, .inl (upd (fun _ => 0) 0 0)), .inl (1, .inr (.inl (fun _ => 0))), .inl (1, .inr (.inl (fun _ => 0))), .inl (1, .inr (.inl (fun _ => 0)))] : List ez_C)) ∧ c1 = 0 ∧ k1 = 0) := by
  refine ev_call (sp_z_33_cellsIn_r1 X  _ _) (sp_z_34_spotIn X) ?_
  rintro _ _ _ _ ⟨rfl, rfl, rfl, rfl⟩
  refine ev_ret (sp_z_33_cellsIn_r2 X  _ _) ?_
  exact ⟨rfl, rfl, rfl, rfl⟩
set_option maxRecDepth 100000 in
set_option maxHeartbeats 100000 in
theorem sp_z_35_put_r1 (X : ez_X)  (cz kz : Nat) : ∀ G : ez_F, fx_up X 11 G 39 0 [.ref 11, .int 0, .long 0, ez_fill] [] (ev_hp (ev_sI ev_I0 6 (upd (upd (ev_I0 6) 4 1) 3 1)) ev_J0 (ev_sR (ev_sR (ev_sR (ev_sR ev_R0 0 65) 1 66) 2 67) 3 68) ([.inl (1, .inl (upd (fun _ => 0) 0 0)), .inl (1, .inr (.inl (fun _ => 0))), .inl (1, .inr (.inl (fun _ => 0))), .inl (1, .inr (.inl (fun _ => 0)))] : List ez_C)) cz kz = some (none, (ev_hp (ev_sI ev_I0 6 (upd (upd (ev_I0 6) 4 1) 3 1)) (ev_sJ ev_J0 11 (vp_updL (ev_J0 11) 0 0)) (ev_sR (ev_sR (ev_sR (ev_sR ev_R0 0 65) 1 66) 2 67) 3 68) ([.inl (1, .inl (upd (fun _ => 0) 0 0)), .inl (1, .inr (.inl (fun _ => 0))), .inl (1, .inr (.inl (fun _ => 0))), .inl (1, .inr (.inl (fun _ => 0)))] : List ez_C)), cz, kz) := by
  intro G
  rfl
theorem sp_z_35_put (X : ez_X) : ev_W X 39 0 (ez_lay [.ref 11, .int 0, .long 0]) [] (ev_hp (ev_sI ev_I0 6 (upd (upd (ev_I0 6) 4 1) 3 1)) ev_J0 (ev_sR (ev_sR (ev_sR (ev_sR ev_R0 0 65) 1 66) 2 67) 3 68) ([.inl (1, .inl (upd (fun _ => 0) 0 0)), .inl (1, .inr (.inl (fun _ => 0))), .inl (1, .inr (.inl (fun _ => 0))), .inl (1, .inr (.inl (fun _ => 0)))] : List ez_C)) 0 0 (fun r h1 c1 k1 => r = none ∧ h1 = (ev_hp (ev_sI ev_I0 6 (upd (upd (ev_I0 6) 4 1) 3 1)) (ev_sJ ev_J0 11 (vp_updL (ev_J0 11) 0 0)) (ev_sR (ev_sR (ev_sR (ev_sR ev_R0 0 65) 1 66) 2 67) 3 68) ([.inl (1, .inl (upd (fun _ => 0) 0 0)), .inl (1, .inr (.inl (fun _ => 0))), .inl (1, .inr (.inl (fun _ => 0))), .inl (1, .inr (.inl (fun _ => 0)))] : List ez_C)) ∧ c1 = 0 ∧ k1 = 0) := by
  refine ev_ret (sp_z_35_put_r1 X  _ _) ?_
  exact ⟨rfl, rfl, rfl, rfl⟩
set_option maxRecDepth 100000 in
set_option maxHeartbeats 100000 in
theorem sp_z_36_put_r1 (X : ez_X)  (cz kz : Nat) : ∀ G : ez_F, fx_up X 11 G 39 0 [.ref 12, .int 0, .long 0, ez_fill] [] (ev_hp (ev_sI ev_I0 6 (upd (upd (ev_I0 6) 4 1) 3 1)) (ev_sJ ev_J0 11 (vp_updL (ev_J0 11) 0 0)) (ev_sR (ev_sR (ev_sR (ev_sR ev_R0 0 65) 1 66) 2 67) 3 68) ([.inl (1, .inl (upd (fun _ => 0) 0 0)), .inl (1, .inr (.inl (fun _ => 0))), .inl (1, .inr (.inl (fun _ => 0))), .inl (1, .inr (.inl (fun _ => 0)))] : List ez_C)) cz kz = some (none, (ev_hp (ev_sI ev_I0 6 (upd (upd (ev_I0 6) 4 1) 3 1)) (ev_sJ (ev_sJ ev_J0 11 (vp_updL (ev_J0 11) 0 0)) 12 (vp_updL (ev_J0 12) 0 0)) (ev_sR (ev_sR (ev_sR (ev_sR ev_R0 0 65) 1 66) 2 67) 3 68) ([.inl (1, .inl (upd (fun _ => 0) 0 0)), .inl (1, .inr (.inl (fun _ => 0))), .inl (1, .inr (.inl (fun _ => 0))), .inl (1, .inr (.inl (fun _ => 0)))] : List ez_C)), cz, kz) := by
  intro G
  rfl
theorem sp_z_36_put (X : ez_X) : ev_W X 39 0 (ez_lay [.ref 12, .int 0, .long 0]) [] (ev_hp (ev_sI ev_I0 6 (upd (upd (ev_I0 6) 4 1) 3 1)) (ev_sJ ev_J0 11 (vp_updL (ev_J0 11) 0 0)) (ev_sR (ev_sR (ev_sR (ev_sR ev_R0 0 65) 1 66) 2 67) 3 68) ([.inl (1, .inl (upd (fun _ => 0) 0 0)), .inl (1, .inr (.inl (fun _ => 0))), .inl (1, .inr (.inl (fun _ => 0))), .inl (1, .inr (.inl (fun _ => 0)))] : List ez_C)) 0 0 (fun r h1 c1 k1 => r = none ∧ h1 = (ev_hp (ev_sI ev_I0 6 (upd (upd (ev_I0 6) 4 1) 3 1)) (ev_sJ (ev_sJ ev_J0 11 (vp_updL (ev_J0 11) 0 0)) 12 (vp_updL (ev_J0 12) 0 0)) (ev_sR (ev_sR (ev_sR (ev_sR ev_R0 0 65) 1 66) 2 67) 3 68) ([.inl (1, .inl (upd (fun _ => 0) 0 0)), .inl (1, .inr (.inl (fun _ => 0))), .inl (1, .inr (.inl (fun _ => 0))), .inl (1, .inr (.inl (fun _ => 0)))] : List ez_C)) ∧ c1 = 0 ∧ k1 = 0) := by
  refine ev_ret (sp_z_36_put_r1 X  _ _) ?_
  exact ⟨rfl, rfl, rfl, rfl⟩
set_option maxRecDepth 100000 in
set_option maxHeartbeats 100000 in
theorem sp_z_38_spotIn_r1 (X : ez_X)  (cz kz : Nat) : ∀ G : ez_F, fx_up X 10 G 45 0 [.int 0, .int 1] [] (ev_hp (ev_sI ev_I0 6 (upd (upd (ev_I0 6) 4 1) 3 1)) (ev_sJ (ev_sJ ev_J0 11 (vp_updL (ev_J0 11) 0 0)) 12 (vp_updL (ev_J0 12) 0 0)) (ev_sR (ev_sR (ev_sR (ev_sR ev_R0 0 65) 1 66) 2 67) 3 68) ([.inl (1, .inl (upd (fun _ => 0) 0 0)), .inl (1, .inr (.inl (fun _ => 0))), .inl (1, .inr (.inl (fun _ => 0))), .inl (1, .inr (.inl (fun _ => 0)))] : List ez_C)) cz kz = some (some (.int 0), (ev_hp (ev_sI ev_I0 6 (upd (upd (ev_I0 6) 4 1) 3 1)) (ev_sJ (ev_sJ ev_J0 11 (vp_updL (ev_J0 11) 0 0)) 12 (vp_updL (ev_J0 12) 0 0)) (ev_sR (ev_sR (ev_sR (ev_sR ev_R0 0 65) 1 66) 2 67) 3 68) ([.inl (1, .inl (upd (fun _ => 0) 0 0)), .inl (1, .inr (.inl (fun _ => 0))), .inl (1, .inr (.inl (fun _ => 0))), .inl (1, .inr (.inl (fun _ => 0)))] : List ez_C)), cz, kz) := by
  intro G
  rfl
theorem sp_z_38_spotIn (X : ez_X) : ev_W X 45 0 (ez_lay [.int 0, .int 1]) [] (ev_hp (ev_sI ev_I0 6 (upd (upd (ev_I0 6) 4 1) 3 1)) (ev_sJ (ev_sJ ev_J0 11 (vp_updL (ev_J0 11) 0 0)) 12 (vp_updL (ev_J0 12) 0 0)) (ev_sR (ev_sR (ev_sR (ev_sR ev_R0 0 65) 1 66) 2 67) 3 68) ([.inl (1, .inl (upd (fun _ => 0) 0 0)), .inl (1, .inr (.inl (fun _ => 0))), .inl (1, .inr (.inl (fun _ => 0))), .inl (1, .inr (.inl (fun _ => 0)))] : List ez_C)) 0 0 (fun r h1 c1 k1 => r = (some (.int 0)) ∧ h1 = (ev_hp (ev_sI ev_I0 6 (upd (upd (ev_I0 6) 4 1) 3 1)) (ev_sJ (ev_sJ ev_J0 11 (vp_updL (ev_J0 11) 0 0)) 12 (vp_updL (ev_J0 12) 0 0)) (ev_sR (ev_sR (ev_sR (ev_sR ev_R0 0 65) 1 66) 2 67) 3 68) ([.inl (1, .inl (upd (fun _ => 0) 0 0)), .inl (1, .inr (.inl (fun _ => 0))), .inl (1, .inr (.inl (fun _ => 0))), .inl (1, .inr (.inl (fun _ => 0)))] : List ez_C)) ∧ c1 = 0 ∧ k1 = 0) := by
  refine ev_ret (sp_z_38_spotIn_r1 X  _ _) ?_
  exact ⟨rfl, rfl, rfl, rfl⟩
set_option maxRecDepth 100000 in
set_option maxHeartbeats 100000 in
theorem sp_z_37_cellsIn_r1 (X : ez_X)  (cz kz : Nat) : ∀ G : ez_F, fx_up X 6 G 87 0 [.ref 3, .int 0, .int 1] [] (ev_hp (ev_sI ev_I0 6 (upd (upd (ev_I0 6) 4 1) 3 1)) (ev_sJ (ev_sJ ev_J0 11 (vp_updL (ev_J0 11) 0 0)) 12 (vp_updL (ev_J0 12) 0 0)) (ev_sR (ev_sR (ev_sR (ev_sR ev_R0 0 65) 1 66) 2 67) 3 68) ([.inl (1, .inl (upd (fun _ => 0) 0 0)), .inl (1, .inr (.inl (fun _ => 0))), .inl (1, .inr (.inl (fun _ => 0))), .inl (1, .inr (.inl (fun _ => 0)))] : List ez_C)) cz kz = ev_C G 45 [.int 0, .int 1] (ev_hp (ev_sI ev_I0 6 (upd (upd (ev_I0 6) 4 1) 3 1)) (ev_sJ (ev_sJ ev_J0 11 (vp_updL (ev_J0 11) 0 0)) 12 (vp_updL (ev_J0 12) 0 0)) (ev_sR (ev_sR (ev_sR (ev_sR ev_R0 0 65) 1 66) 2 67) 3 68) ([.inl (1, .inl (upd (fun _ => 0) 0 0)), .inl (1, .inr (.inl (fun _ => 0))), .inl (1, .inr (.inl (fun _ => 0))), .inl (1, .inr (.inl (fun _ => 0)))] : List ez_C)) fun r h1 c1 k1 => G 87 10 [.ref 3, .int 0, .int 1] (r.toList ++ [.int 288]) h1 (cz + c1) (kz + k1) := by
  intro G
  rfl
set_option maxRecDepth 100000 in
set_option maxHeartbeats 100000 in
theorem sp_z_37_cellsIn_r2 (X : ez_X)  (cz kz : Nat) : ∀ G : ez_F, fx_up X 8 G 87 10 [.ref 3, .int 0, .int 1] [.int 0, .int 288] (ev_hp (ev_sI ev_I0 6 (upd (upd (ev_I0 6) 4 1) 3 1)) (ev_sJ (ev_sJ ev_J0 11 (vp_updL (ev_J0 11) 0 0)) 12 (vp_updL (ev_J0 12) 0 0)) (ev_sR (ev_sR (ev_sR (ev_sR ev_R0 0 65) 1 66) 2 67) 3 68) ([.inl (1, .inl (upd (fun _ => 0) 0 0)), .inl (1, .inr (.inl (fun _ => 0))), .inl (1, .inr (.inl (fun _ => 0))), .inl (1, .inr (.inl (fun _ => 0)))] : List ez_C)) cz kz = some (some (.long 0), (ev_hp (ev_sI ev_I0 6 (upd (upd (ev_I0 6) 4 1) 3 1)) (ev_sJ (ev_sJ ev_J0 11 (vp_updL (ev_J0 11) 0 0)) 12 (vp_updL (ev_J0 12) 0 0)) (ev_sR (ev_sR (ev_sR (ev_sR ev_R0 0 65) 1 66) 2 67) 3 68) ([.inl (1, .inl (upd (fun _ => 0) 0 0)), .inl (1, .inr (.inl (fun _ => 0))), .inl (1, .inr (.inl (fun _ => 0))), .inl (1, .inr (.inl (fun _ => 0)))] : List ez_C)), cz, kz) := by
  intro G
  rfl
theorem sp_z_37_cellsIn (X : ez_X) : ev_W X 87 0 (ez_lay [.ref 3, .int 0, .int 1]) [] (ev_hp (ev_sI ev_I0 6 (upd (upd (ev_I0 6) 4 1) 3 1)) (ev_sJ (ev_sJ ev_J0 11 (vp_updL (ev_J0 11) 0 0)) 12 (vp_updL (ev_J0 12) 0 0)) (ev_sR (ev_sR (ev_sR (ev_sR ev_R0 0 65) 1 66) 2 67) 3 68) ([.inl (1, .inl (upd (fun _ => 0) 0 0)), .inl (1, .inr (.inl (fun _ => 0))), .inl (1, .inr (.inl (fun _ => 0))), .inl (1, .inr (.inl (fun _ => 0)))] : List ez_C)) 0 0 (fun r h1 c1 k1 => r = (some (.long 0)) ∧ h1 = (ev_hp (ev_sI ev_I0 6 (upd (upd (ev_I0 6) 4 1) 3 1)) (ev_sJ (ev_sJ ev_J0 11 (vp_updL (ev_J0 11) 0 0)) 12 (vp_updL (ev_J0 12) 0 0)) (ev_sR (ev_sR (ev_sR (ev_sR ev_R0 0 65) 1 66) 2 67) 3 68) ([.inl (1, .inl (upd (fun _ => 0) 0 0)), .inl (1, .inr (.inl (fun _ => 0))), .inl (1, .inr (.inl (fun _ => 0))), .inl (1, .inr (.inl (fun _ => 0)))] : List ez_C)) ∧ c1 = 0 ∧ k1 = 0) := by
  refine ev_call (sp_z_37_cellsIn_r1 X  _ _) (sp_z_38_spotIn X) ?_
  rintro _ _ _ _ ⟨rfl, rfl, rfl, rfl⟩
  refine ev_ret (sp_z_37_cellsIn_r2 X  _ _) ?_
  exact ⟨rfl, rfl, rfl, rfl⟩
set_option maxRecDepth 100000 in
set_option maxHeartbeats 100000 in
theorem sp_z_39_put_r1 (X : ez_X)  (cz kz : Nat) : ∀ G : ez_F, fx_up X 11 G 39 0 [.ref 11, .int 1, .long 0, ez_fill] [] (ev_hp (ev_sI ev_I0 6 (upd (upd (ev_I0 6) 4 1) 3 1)) (ev_sJ (ev_sJ ev_J0 11 (vp_updL (ev_J0 11) 0 0)) 12 (vp_updL (ev_J0 12) 0 0)) (ev_sR (ev_sR (ev_sR (ev_sR ev_R0 0 65) 1 66) 2 67) 3 68) ([.inl (1, .inl (upd (fun _ => 0) 0 0)), .inl (1, .inr (.inl (fun _ => 0))), .inl (1, .inr (.inl (fun _ => 0))), .inl (1, .inr (.inl (fun _ => 0)))] : List ez_C)) cz kz = some (none, (ev_hp (ev_sI ev_I0 6 (upd (upd (ev_I0 6) 4 1) 3 1)) (ev_sJ (ev_sJ ev_J0 11 (vp_updL (vp_updL (ev_J0 11) 0 0) 1 0)) 12 (vp_updL (ev_J0 12) 0 0)) (ev_sR (ev_sR (ev_sR (ev_sR ev_R0 0 65) 1 66) 2 67) 3 68) ([.inl (1, .inl (upd (fun _ => 0) 0 0)), .inl (1, .inr (.inl (fun _ => 0))), .inl (1, .inr (.inl (fun _ => 0))), .inl (1, .inr (.inl (fun _ => 0)))] : List ez_C)), cz, kz) := by
  intro G
  rfl
theorem sp_z_39_put (X : ez_X) : ev_W X 39 0 (ez_lay [.ref 11, .int 1, .long 0]) [] (ev_hp (ev_sI ev_I0 6 (upd (upd (ev_I0 6) 4 1) 3 1)) (ev_sJ (ev_sJ ev_J0 11 (vp_updL (ev_J0 11) 0 0)) 12 (vp_updL (ev_J0 12) 0 0)) (ev_sR (ev_sR (ev_sR (ev_sR ev_R0 0 65) 1 66) 2 67) 3 68) ([.inl (1, .inl (upd (fun _ => 0) 0 0)), .inl (1, .inr (.inl (fun _ => 0))), .inl (1, .inr (.inl (fun _ => 0))), .inl (1, .inr (.inl (fun _ => 0)))] : List ez_C)) 0 0 (fun r h1 c1 k1 => r = none ∧ h1 = (ev_hp (ev_sI ev_I0 6 (upd (upd (ev_I0 6) 4 1) 3 1)) (ev_sJ (ev_sJ ev_J0 11 (vp_updL (vp_updL (ev_J0 11) 0 0) 1 0)) 12 (vp_updL (ev_J0 12) 0 0)) (ev_sR (ev_sR (ev_sR (ev_sR ev_R0 0 65) 1 66) 2 67) 3 68) ([.inl (1, .inl (upd (fun _ => 0) 0 0)), .inl (1, .inr (.inl (fun _ => 0))), .inl (1, .inr (.inl (fun _ => 0))), .inl (1, .inr (.inl (fun _ => 0)))] : List ez_C)) ∧ c1 = 0 ∧ k1 = 0) := by
  refine ev_ret (sp_z_39_put_r1 X  _ _) ?_
  exact ⟨rfl, rfl, rfl, rfl⟩
set_option maxRecDepth 100000 in
set_option maxHeartbeats 100000 in
theorem sp_z_40_put_r1 (X : ez_X)  (cz kz : Nat) : ∀ G : ez_F, fx_up X 11 G 39 0 [.ref 12, .int 1, .long 0, ez_fill] [] (ev_hp (ev_sI ev_I0 6 (upd (upd (ev_I0 6) 4 1) 3 1)) (ev_sJ (ev_sJ ev_J0 11 (vp_updL (vp_updL (ev_J0 11) 0 0) 1 0)) 12 (vp_updL (ev_J0 12) 0 0)) (ev_sR (ev_sR (ev_sR (ev_sR ev_R0 0 65) 1 66) 2 67) 3 68) ([.inl (1, .inl (upd (fun _ => 0) 0 0)), .inl (1, .inr (.inl (fun _ => 0))), .inl (1, .inr (.inl (fun _ => 0))), .inl (1, .inr (.inl (fun _ => 0)))] : List ez_C)) cz kz = some (none, (ev_hp (ev_sI ev_I0 6 (upd (upd (ev_I0 6) 4 1) 3 1)) (ev_sJ (ev_sJ ev_J0 11 (vp_updL (vp_updL (ev_J0 11) 0 0) 1 0)) 12 (vp_updL (vp_updL (ev_J0 12) 0 0) 1 0)) (ev_sR (ev_sR (ev_sR (ev_sR ev_R0 0 65) 1 66) 2 67) 3 68) ([.inl (1, .inl (upd (fun _ => 0) 0 0)), .inl (1, .inr (.inl (fun _ => 0))), .inl (1, .inr (.inl (fun _ => 0))), .inl (1, .inr (.inl (fun _ => 0)))] : List ez_C)), cz, kz) := by
  intro G
  rfl
theorem sp_z_40_put (X : ez_X) : ev_W X 39 0 (ez_lay [.ref 12, .int 1, .long 0]) [] (ev_hp (ev_sI ev_I0 6 (upd (upd (ev_I0 6) 4 1) 3 1)) (ev_sJ (ev_sJ ev_J0 11 (vp_updL (vp_updL (ev_J0 11) 0 0) 1 0)) 12 (vp_updL (ev_J0 12) 0 0)) (ev_sR (ev_sR (ev_sR (ev_sR ev_R0 0 65) 1 66) 2 67) 3 68) ([.inl (1, .inl (upd (fun _ => 0) 0 0)), .inl (1, .inr (.inl (fun _ => 0))), .inl (1, .inr (.inl (fun _ => 0))), .inl (1, .inr (.inl (fun _ => 0)))] : List ez_C)) 0 0 (fun r h1 c1 k1 => r = none ∧ h1 = (ev_hp (ev_sI ev_I0 6 (upd (upd (ev_I0 6) 4 1) 3 1)) (ev_sJ (ev_sJ ev_J0 11 (vp_updL (vp_updL (ev_J0 11) 0 0) 1 0)) 12 (vp_updL (vp_updL (ev_J0 12) 0 0) 1 0)) (ev_sR (ev_sR (ev_sR (ev_sR ev_R0 0 65) 1 66) 2 67) 3 68) ([.inl (1, .inl (upd (fun _ => 0) 0 0)), .inl (1, .inr (.inl (fun _ => 0))), .inl (1, .inr (.inl (fun _ => 0))), .inl (1, .inr (.inl (fun _ => 0)))] : List ez_C)) ∧ c1 = 0 ∧ k1 = 0) := by
  refine ev_ret (sp_z_40_put_r1 X  _ _) ?_
  exact ⟨rfl, rfl, rfl, rfl⟩
set_option maxRecDepth 100000 in
set_option maxHeartbeats 100000 in
theorem sp_z_42_spotIn_r1 (X : ez_X)  (cz kz : Nat) : ∀ G : ez_F, fx_up X 10 G 45 0 [.int 0, .int 2] [] (ev_hp (ev_sI ev_I0 6 (upd (upd (ev_I0 6) 4 1) 3 1)) (ev_sJ (ev_sJ ev_J0 11 (vp_updL (vp_updL (ev_J0 11) 0 0) 1 0)) 12 (vp_updL (vp_updL (ev_J0 12) 0 0) 1 0)) (ev_sR (ev_sR (ev_sR (ev_sR ev_R0 0 65) 1 66) 2 67) 3 68) ([.inl (1, .inl (upd (fun _ => 0) 0 0)), .inl (1, .inr (.inl (fun _ => 0))), .inl (1, .inr (.inl (fun _ => 0))), .inl (1, .inr (.inl (fun _ => 0)))] : List ez_C)) cz kz = some (some (.int 0), (ev_hp (ev_sI ev_I0 6 (upd (upd (ev_I0 6) 4 1) 3 1)) (ev_sJ (ev_sJ ev_J0 11 (vp_updL (vp_updL (ev_J0 11) 0 0) 1 0)) 12 (vp_updL (vp_updL (ev_J0 12) 0 0) 1 0)) (ev_sR (ev_sR (ev_sR (ev_sR ev_R0 0 65) 1 66) 2 67) 3 68) ([.inl (1, .inl (upd (fun _ => 0) 0 0)), .inl (1, .inr (.inl (fun _ => 0))), .inl (1, .inr (.inl (fun _ => 0))), .inl (1, .inr (.inl (fun _ => 0)))] : List ez_C)), cz, kz) := by
  intro G
  rfl
theorem sp_z_42_spotIn (X : ez_X) : ev_W X 45 0 (ez_lay [.int 0, .int 2]) [] (ev_hp (ev_sI ev_I0 6 (upd (upd (ev_I0 6) 4 1) 3 1)) (ev_sJ (ev_sJ ev_J0 11 (vp_updL (vp_updL (ev_J0 11) 0 0) 1 0)) 12 (vp_updL (vp_updL (ev_J0 12) 0 0) 1 0)) (ev_sR (ev_sR (ev_sR (ev_sR ev_R0 0 65) 1 66) 2 67) 3 68) ([.inl (1, .inl (upd (fun _ => 0) 0 0)), .inl (1, .inr (.inl (fun _ => 0))), .inl (1, .inr (.inl (fun _ => 0))), .inl (1, .inr (.inl (fun _ => 0)))] : List ez_C)) 0 0 (fun r h1 c1 k1 => r = (some (.int 0)) ∧ h1 = (ev_hp (ev_sI ev_I0 6 (upd (upd (ev_I0 6) 4 1) 3 1)) (ev_sJ (ev_sJ ev_J0 11 (vp_updL (vp_updL (ev_J0 11) 0 0) 1 0)) 12 (vp_updL (vp_updL (ev_J0 12) 0 0) 1 0)) (ev_sR (ev_sR (ev_sR (ev_sR ev_R0 0 65) 1 66) 2 67) 3 68) ([.inl (1, .inl (upd (fun _ => 0) 0 0)), .inl (1, .inr (.inl (fun _ => 0))), .inl (1, .inr (.inl (fun _ => 0))), .inl (1, .inr (.inl (fun _ => 0)))] : List ez_C)) ∧ c1 = 0 ∧ k1 = 0) := by
  refine ev_ret (sp_z_42_spotIn_r1 X  _ _) ?_
  exact ⟨rfl, rfl, rfl, rfl⟩
set_option maxRecDepth 100000 in
set_option maxHeartbeats 100000 in
theorem sp_z_41_cellsIn_r1 (X : ez_X)  (cz kz : Nat) : ∀ G : ez_F, fx_up X 6 G 87 0 [.ref 3, .int 0, .int 2] [] (ev_hp (ev_sI ev_I0 6 (upd (upd (ev_I0 6) 4 1) 3 1)) (ev_sJ (ev_sJ ev_J0 11 (vp_updL (vp_updL (ev_J0 11) 0 0) 1 0)) 12 (vp_updL (vp_updL (ev_J0 12) 0 0) 1 0)) (ev_sR (ev_sR (ev_sR (ev_sR ev_R0 0 65) 1 66) 2 67) 3 68) ([.inl (1, .inl (upd (fun _ => 0) 0 0)), .inl (1, .inr (.inl (fun _ => 0))), .inl (1, .inr (.inl (fun _ => 0))), .inl (1, .inr (.inl (fun _ => 0)))] : List ez_C)) cz kz = ev_C G 45 [.int 0, .int 2] (ev_hp (ev_sI ev_I0 6 (upd (upd (ev_I0 6) 4 1) 3 1)) (ev_sJ (ev_sJ ev_J0 11 (vp_updL (vp_updL (ev_J0 11) 0 0) 1 0)) 12 (vp_updL (vp_updL (ev_J0 12) 0 0) 1 0)) (ev_sR (ev_sR (ev_sR (ev_sR ev_R0 0 65) 1 66) 2 67) 3 68) ([.inl (1, .inl (upd (fun _ => 0) 0 0)), .inl (1, .inr (.inl (fun _ => 0))), .inl (1, .inr (.inl (fun _ => 0))), .inl (1, .inr (.inl (fun _ => 0)))] : List ez_C)) fun r h1 c1 k1 => G 87 10 [.ref 3, .int 0, .int 2] (r.toList ++ [.int 576]) h1 (cz + c1) (kz + k1) := by
  intro G
  rfl
set_option maxRecDepth 100000 in
set_option maxHeartbeats 100000 in
theorem sp_z_41_cellsIn_r2 (X : ez_X)  (cz kz : Nat) : ∀ G : ez_F, fx_up X 8 G 87 10 [.ref 3, .int 0, .int 2] [.int 0, .int 576] (ev_hp (ev_sI ev_I0 6 (upd (upd (ev_I0 6) 4 1) 3 1)) (ev_sJ (ev_sJ ev_J0 11 (vp_updL (vp_updL (ev_J0 11) 0 0) 1 0)) 12 (vp_updL (vp_updL (ev_J0 12) 0 0) 1 0)) (ev_sR (ev_sR (ev_sR (ev_sR ev_R0 0 65) 1 66) 2 67) 3 68) ([.inl (1, .inl (upd (fun _ => 0) 0 0)), .inl (1, .inr (.inl (fun _ => 0))), .inl (1, .inr (.inl (fun _ => 0))), .inl (1, .inr (.inl (fun _ => 0)))] : List ez_C)) cz kz = some (some (.long 0), (ev_hp (ev_sI ev_I0 6 (upd (upd (ev_I0 6) 4 1) 3 1)) (ev_sJ (ev_sJ ev_J0 11 (vp_updL (vp_updL (ev_J0 11) 0 0) 1 0)) 12 (vp_updL (vp_updL (ev_J0 12) 0 0) 1 0)) (ev_sR (ev_sR (ev_sR (ev_sR ev_R0 0 65) 1 66) 2 67) 3 68) ([.inl (1, .inl (upd (fun _ => 0) 0 0)), .inl (1, .inr (.inl (fun _ => 0))), .inl (1, .inr (.inl (fun _ => 0))), .inl (1, .inr (.inl (fun _ => 0)))] : List ez_C)), cz, kz) := by
  intro G
  rfl
theorem sp_z_41_cellsIn (X : ez_X) : ev_W X 87 0 (ez_lay [.ref 3, .int 0, .int 2]) [] (ev_hp (ev_sI ev_I0 6 (upd (upd (ev_I0 6) 4 1) 3 1)) (ev_sJ (ev_sJ ev_J0 11 (vp_updL (vp_updL (ev_J0 11) 0 0) 1 0)) 12 (vp_updL (vp_updL (ev_J0 12) 0 0) 1 0)) (ev_sR (ev_sR (ev_sR (ev_sR ev_R0 0 65) 1 66) 2 67) 3 68) ([.inl (1, .inl (upd (fun _ => 0) 0 0)), .inl (1, .inr (.inl (fun _ => 0))), .inl (1, .inr (.inl (fun _ => 0))), .inl (1, .inr (.inl (fun _ => 0)))] : List ez_C)) 0 0 (fun r h1 c1 k1 => r = (some (.long 0)) ∧ h1 = (ev_hp (ev_sI ev_I0 6 (upd (upd (ev_I0 6) 4 1) 3 1)) (ev_sJ (ev_sJ ev_J0 11 (vp_updL (vp_updL (ev_J0 11) 0 0) 1 0)) 12 (vp_updL (vp_updL (ev_J0 12) 0 0) 1 0)) (ev_sR (ev_sR (ev_sR (ev_sR ev_R0 0 65) 1 66) 2 67) 3 68) ([.inl (1, .inl (upd (fun _ => 0) 0 0)), .inl (1, .inr (.inl (fun _ => 0))), .inl (1, .inr (.inl (fun _ => 0))), .inl (1, .inr (.inl (fun _ => 0)))] : List ez_C)) ∧ c1 = 0 ∧ k1 = 0) := by
  refine ev_call (sp_z_41_cellsIn_r1 X  _ _) (sp_z_42_spotIn X) ?_
  rintro _ _ _ _ ⟨rfl, rfl, rfl, rfl⟩
  refine ev_ret (sp_z_41_cellsIn_r2 X  _ _) ?_
  exact ⟨rfl, rfl, rfl, rfl⟩
set_option maxRecDepth 100000 in
set_option maxHeartbeats 100000 in
theorem sp_z_43_put_r1 (X : ez_X)  (cz kz : Nat) : ∀ G : ez_F, fx_up X 11 G 39 0 [.ref 11, .int 2, .long 0, ez_fill] [] (ev_hp (ev_sI ev_I0 6 (upd (upd (ev_I0 6) 4 1) 3 1)) (ev_sJ (ev_sJ ev_J0 11 (vp_updL (vp_updL (ev_J0 11) 0 0) 1 0)) 12 (vp_updL (vp_updL (ev_J0 12) 0 0) 1 0)) (ev_sR (ev_sR (ev_sR (ev_sR ev_R0 0 65) 1 66) 2 67) 3 68) ([.inl (1, .inl (upd (fun _ => 0) 0 0)), .inl (1, .inr (.inl (fun _ => 0))), .inl (1, .inr (.inl (fun _ => 0))), .inl (1, .inr (.inl (fun _ => 0)))] : List ez_C)) cz kz = some (none, (ev_hp (ev_sI ev_I0 6 (upd (upd (ev_I0 6) 4 1) 3 1)) (ev_sJ (ev_sJ ev_J0 11 (vp_updL (vp_updL (vp_updL (ev_J0 11) 0 0) 1 0) 2 0)) 12 (vp_updL (vp_updL (ev_J0 12) 0 0) 1 0)) (ev_sR (ev_sR (ev_sR (ev_sR ev_R0 0 65) 1 66) 2 67) 3 68) ([.inl (1, .inl (upd (fun _ => 0) 0 0)), .inl (1, .inr (.inl (fun _ => 0))), .inl (1, .inr (.inl (fun _ => 0))), .inl (1, .inr (.inl (fun _ => 0)))] : List ez_C)), cz, kz) := by
  intro G
  rfl
theorem sp_z_43_put (X : ez_X) : ev_W X 39 0 (ez_lay [.ref 11, .int 2, .long 0]) [] (ev_hp (ev_sI ev_I0 6 (upd (upd (ev_I0 6) 4 1) 3 1)) (ev_sJ (ev_sJ ev_J0 11 (vp_updL (vp_updL (ev_J0 11) 0 0) 1 0)) 12 (vp_updL (vp_updL (ev_J0 12) 0 0) 1 0)) (ev_sR (ev_sR (ev_sR (ev_sR ev_R0 0 65) 1 66) 2 67) 3 68) ([.inl (1, .inl (upd (fun _ => 0) 0 0)), .inl (1, .inr (.inl (fun _ => 0))), .inl (1, .inr (.inl (fun _ => 0))), .inl (1, .inr (.inl (fun _ => 0)))] : List ez_C)) 0 0 (fun r h1 c1 k1 => r = none ∧ h1 = (ev_hp (ev_sI ev_I0 6 (upd (upd (ev_I0 6) 4 1) 3 1)) (ev_sJ (ev_sJ ev_J0 11 (vp_updL (vp_updL (vp_updL (ev_J0 11) 0 0) 1 0) 2 0)) 12 (vp_updL (vp_updL (ev_J0 12) 0 0) 1 0)) (ev_sR (ev_sR (ev_sR (ev_sR ev_R0 0 65) 1 66) 2 67) 3 68) ([.inl (1, .inl (upd (fun _ => 0) 0 0)), .inl (1, .inr (.inl (fun _ => 0))), .inl (1, .inr (.inl (fun _ => 0))), .inl (1, .inr (.inl (fun _ => 0)))] : List ez_C)) ∧ c1 = 0 ∧ k1 = 0) := by
  refine ev_ret (sp_z_43_put_r1 X  _ _) ?_
  exact ⟨rfl, rfl, rfl, rfl⟩
set_option maxRecDepth 100000 in
set_option maxHeartbeats 100000 in
theorem sp_z_44_put_r1 (X : ez_X)  (cz kz : Nat) : ∀ G : ez_F, fx_up X 11 G 39 0 [.ref 12, .int 2, .long 0, ez_fill] [] (ev_hp (ev_sI ev_I0 6 (upd (upd (ev_I0 6) 4 1) 3 1)) (ev_sJ (ev_sJ ev_J0 11 (vp_updL (vp_updL (vp_updL (ev_J0 11) 0 0) 1 0) 2 0)) 12 (vp_updL (vp_updL (ev_J0 12) 0 0) 1 0)) (ev_sR (ev_sR (ev_sR (ev_sR ev_R0 0 65) 1 66) 2 67) 3 68) ([.inl (1, .inl (upd (fun _ => 0) 0 0)), .inl (1, .inr (.inl (fun _ => 0))), .inl (1, .inr (.inl (fun _ => 0))), .inl (1, .inr (.inl (fun _ => 0)))] : List ez_C)) cz kz = some (none, (ev_hp (ev_sI ev_I0 6 (upd (upd (ev_I0 6) 4 1) 3 1)) (ev_sJ (ev_sJ ev_J0 11 (vp_updL (vp_updL (vp_updL (ev_J0 11) 0 0) 1 0) 2 0)) 12 (vp_updL (vp_updL (vp_updL (ev_J0 12) 0 0) 1 0) 2 0)) (ev_sR (ev_sR (ev_sR (ev_sR ev_R0 0 65) 1 66) 2 67) 3 68) ([.inl (1, .inl (upd (fun _ => 0) 0 0)), .inl (1, .inr (.inl (fun _ => 0))), .inl (1, .inr (.inl (fun _ => 0))), .inl (1, .inr (.inl (fun _ => 0)))] : List ez_C)), cz, kz) := by
  intro G
  rfl
theorem sp_z_44_put (X : ez_X) : ev_W X 39 0 (ez_lay [.ref 12, .int 2, .long 0]) [] (ev_hp (ev_sI ev_I0 6 (upd (upd (ev_I0 6) 4 1) 3 1)) (ev_sJ (ev_sJ ev_J0 11 (vp_updL (vp_updL (vp_updL (ev_J0 11) 0 0) 1 0) 2 0)) 12 (vp_updL (vp_updL (ev_J0 12) 0 0) 1 0)) (ev_sR (ev_sR (ev_sR (ev_sR ev_R0 0 65) 1 66) 2 67) 3 68) ([.inl (1, .inl (upd (fun _ => 0) 0 0)), .inl (1, .inr (.inl (fun _ => 0))), .inl (1, .inr (.inl (fun _ => 0))), .inl (1, .inr (.inl (fun _ => 0)))] : List ez_C)) 0 0 (fun r h1 c1 k1 => r = none ∧ h1 = (ev_hp (ev_sI ev_I0 6 (upd (upd (ev_I0 6) 4 1) 3 1)) (ev_sJ (ev_sJ ev_J0 11 (vp_updL (vp_updL (vp_updL (ev_J0 11) 0 0) 1 0) 2 0)) 12 (vp_updL (vp_updL (vp_updL (ev_J0 12) 0 0) 1 0) 2 0)) (ev_sR (ev_sR (ev_sR (ev_sR ev_R0 0 65) 1 66) 2 67) 3 68) ([.inl (1, .inl (upd (fun _ => 0) 0 0)), .inl (1, .inr (.inl (fun _ => 0))), .inl (1, .inr (.inl (fun _ => 0))), .inl (1, .inr (.inl (fun _ => 0)))] : List ez_C)) ∧ c1 = 0 ∧ k1 = 0) := by
  refine ev_ret (sp_z_44_put_r1 X  _ _) ?_
  exact ⟨rfl, rfl, rfl, rfl⟩
set_option maxRecDepth 100000 in
set_option maxHeartbeats 100000 in
theorem sp_z_30_through_r1 (X : ez_X)  (cz kz : Nat) : ∀ G : ez_F, fx_up X 4 G 135 0 [.ref 10, .int 0, .int 0] [] (ev_hp (ev_sI ev_I0 6 (upd (upd (ev_I0 6) 4 1) 3 1)) ev_J0 (ev_sR (ev_sR (ev_sR (ev_sR ev_R0 0 65) 1 66) 2 67) 3 68) ([.inl (1, .inl (upd (fun _ => 0) 0 0)), .inl (1, .inr (.inl (fun _ => 0))), .inl (1, .inr (.inl (fun _ => 0))), .inl (1, .inr (.inl (fun _ => 0)))] : List ez_C)) cz kz = ev_C G 138 [.ref 6, .int 0] (ev_hp (ev_sI ev_I0 6 (upd (upd (ev_I0 6) 4 1) 3 1)) ev_J0 (ev_sR (ev_sR (ev_sR (ev_sR ev_R0 0 65) 1 66) 2 67) 3 68) ([.inl (1, .inl (upd (fun _ => 0) 0 0)), .inl (1, .inr (.inl (fun _ => 0))), .inl (1, .inr (.inl (fun _ => 0))), .inl (1, .inr (.inl (fun _ => 0)))] : List ez_C)) fun r h1 c1 k1 => G 135 8 [.ref 10, .int 0, .int 0] (r.toList ++ []) h1 (cz + c1) (kz + k1) := by
  intro G
  rfl
set_option maxRecDepth 100000 in
set_option maxHeartbeats 100000 in
theorem sp_z_30_through_r2 (X : ez_X)  (cz kz : Nat) : ∀ G : ez_F, fx_up X 14 G 135 8 [.ref 10, .int 0, .int 0] [.int 0] (ev_hp (ev_sI ev_I0 6 (upd (upd (ev_I0 6) 4 1) 3 1)) ev_J0 (ev_sR (ev_sR (ev_sR (ev_sR ev_R0 0 65) 1 66) 2 67) 3 68) ([.inl (1, .inl (upd (fun _ => 0) 0 0)), .inl (1, .inr (.inl (fun _ => 0))), .inl (1, .inr (.inl (fun _ => 0))), .inl (1, .inr (.inl (fun _ => 0)))] : List ez_C)) cz kz = ev_C G 87 [.ref 3, .int 0, .int 0] (ev_hp (ev_sI ev_I0 6 (upd (upd (ev_I0 6) 4 1) 3 1)) ev_J0 (ev_sR (ev_sR (ev_sR (ev_sR ev_R0 0 65) 1 66) 2 67) 3 68) ([.inl (1, .inl (upd (fun _ => 0) 0 0)), .inl (1, .inr (.inl (fun _ => 0))), .inl (1, .inr (.inl (fun _ => 0))), .inl (1, .inr (.inl (fun _ => 0)))] : List ez_C)) fun r h1 c1 k1 => G 135 34 [.ref 10, .int 0, .int 0, .int 0, .int 0] (r.toList ++ [.int 0, .ref 11]) h1 (cz + c1) (kz + k1) := by
  intro G
  rfl
set_option maxRecDepth 100000 in
set_option maxHeartbeats 100000 in
theorem sp_z_30_through_r3 (X : ez_X)  (cz kz : Nat) : ∀ G : ez_F, fx_up X 1 G 135 34 [.ref 10, .int 0, .int 0, .int 0, .int 0] [.long 0, .int 0, .ref 11] (ev_hp (ev_sI ev_I0 6 (upd (upd (ev_I0 6) 4 1) 3 1)) ev_J0 (ev_sR (ev_sR (ev_sR (ev_sR ev_R0 0 65) 1 66) 2 67) 3 68) ([.inl (1, .inl (upd (fun _ => 0) 0 0)), .inl (1, .inr (.inl (fun _ => 0))), .inl (1, .inr (.inl (fun _ => 0))), .inl (1, .inr (.inl (fun _ => 0)))] : List ez_C)) cz kz = ev_C G 39 [.ref 11, .int 0, .long 0] (ev_hp (ev_sI ev_I0 6 (upd (upd (ev_I0 6) 4 1) 3 1)) ev_J0 (ev_sR (ev_sR (ev_sR (ev_sR ev_R0 0 65) 1 66) 2 67) 3 68) ([.inl (1, .inl (upd (fun _ => 0) 0 0)), .inl (1, .inr (.inl (fun _ => 0))), .inl (1, .inr (.inl (fun _ => 0))), .inl (1, .inr (.inl (fun _ => 0)))] : List ez_C)) fun r h1 c1 k1 => G 135 37 [.ref 10, .int 0, .int 0, .int 0, .int 0] (r.toList ++ []) h1 (cz + c1) (kz + k1) := by
  intro G
  rfl
set_option maxRecDepth 100000 in
set_option maxHeartbeats 100000 in
theorem sp_z_30_through_r4 (X : ez_X)  (cz kz : Nat) : ∀ G : ez_F, fx_up X 5 G 135 37 [.ref 10, .int 0, .int 0, .int 0, .int 0] [] (ev_hp (ev_sI ev_I0 6 (upd (upd (ev_I0 6) 4 1) 3 1)) (ev_sJ ev_J0 11 (vp_updL (ev_J0 11) 0 0)) (ev_sR (ev_sR (ev_sR (ev_sR ev_R0 0 65) 1 66) 2 67) 3 68) ([.inl (1, .inl (upd (fun _ => 0) 0 0)), .inl (1, .inr (.inl (fun _ => 0))), .inl (1, .inr (.inl (fun _ => 0))), .inl (1, .inr (.inl (fun _ => 0)))] : List ez_C)) cz kz = ev_C G 39 [.ref 12, .int 0, .long 0] (ev_hp (ev_sI ev_I0 6 (upd (upd (ev_I0 6) 4 1) 3 1)) (ev_sJ ev_J0 11 (vp_updL (ev_J0 11) 0 0)) (ev_sR (ev_sR (ev_sR (ev_sR ev_R0 0 65) 1 66) 2 67) 3 68) ([.inl (1, .inl (upd (fun _ => 0) 0 0)), .inl (1, .inr (.inl (fun _ => 0))), .inl (1, .inr (.inl (fun _ => 0))), .inl (1, .inr (.inl (fun _ => 0)))] : List ez_C)) fun r h1 c1 k1 => G 135 47 [.ref 10, .int 0, .int 0, .int 0, .int 0] (r.toList ++ []) h1 (cz + c1) (kz + k1) := by
  intro G
  rfl
set_option maxRecDepth 100000 in
set_option maxHeartbeats 100000 in
theorem sp_z_30_through_r5 (X : ez_X)  (cz kz : Nat) : ∀ G : ez_F, fx_up X 13 G 135 47 [.ref 10, .int 0, .int 0, .int 0, .int 0] [] (ev_hp (ev_sI ev_I0 6 (upd (upd (ev_I0 6) 4 1) 3 1)) (ev_sJ (ev_sJ ev_J0 11 (vp_updL (ev_J0 11) 0 0)) 12 (vp_updL (ev_J0 12) 0 0)) (ev_sR (ev_sR (ev_sR (ev_sR ev_R0 0 65) 1 66) 2 67) 3 68) ([.inl (1, .inl (upd (fun _ => 0) 0 0)), .inl (1, .inr (.inl (fun _ => 0))), .inl (1, .inr (.inl (fun _ => 0))), .inl (1, .inr (.inl (fun _ => 0)))] : List ez_C)) cz kz = ev_C G 87 [.ref 3, .int 0, .int 1] (ev_hp (ev_sI ev_I0 6 (upd (upd (ev_I0 6) 4 1) 3 1)) (ev_sJ (ev_sJ ev_J0 11 (vp_updL (ev_J0 11) 0 0)) 12 (vp_updL (ev_J0 12) 0 0)) (ev_sR (ev_sR (ev_sR (ev_sR ev_R0 0 65) 1 66) 2 67) 3 68) ([.inl (1, .inl (upd (fun _ => 0) 0 0)), .inl (1, .inr (.inl (fun _ => 0))), .inl (1, .inr (.inl (fun _ => 0))), .inl (1, .inr (.inl (fun _ => 0)))] : List ez_C)) fun r h1 c1 k1 => G 135 34 [.ref 10, .int 0, .int 0, .int 0, .int 1] (r.toList ++ [.int 1, .ref 11]) h1 (cz + c1) (kz + k1) := by
  intro G
  rfl
set_option maxRecDepth 100000 in
set_option maxHeartbeats 100000 in
theorem sp_z_30_through_r6 (X : ez_X)  (cz kz : Nat) : ∀ G : ez_F, fx_up X 1 G 135 34 [.ref 10, .int 0, .int 0, .int 0, .int 1] [.long 0, .int 1, .ref 11] (ev_hp (ev_sI ev_I0 6 (upd (upd (ev_I0 6) 4 1) 3 1)) (ev_sJ (ev_sJ ev_J0 11 (vp_updL (ev_J0 11) 0 0)) 12 (vp_updL (ev_J0 12) 0 0)) (ev_sR (ev_sR (ev_sR (ev_sR ev_R0 0 65) 1 66) 2 67) 3 68) ([.inl (1, .inl (upd (fun _ => 0) 0 0)), .inl (1, .inr (.inl (fun _ => 0))), .inl (1, .inr (.inl (fun _ => 0))), .inl (1, .inr (.inl (fun _ => 0)))] : List ez_C)) cz kz = ev_C G 39 [.ref 11, .int 1, .long 0] (ev_hp (ev_sI ev_I0 6 (upd (upd (ev_I0 6) 4 1) 3 1)) (ev_sJ (ev_sJ ev_J0 11 (vp_updL (ev_J0 11) 0 0)) 12 (vp_updL (ev_J0 12) 0 0)) (ev_sR (ev_sR (ev_sR (ev_sR ev_R0 0 65) 1 66) 2 67) 3 68) ([.inl (1, .inl (upd (fun _ => 0) 0 0)), .inl (1, .inr (.inl (fun _ => 0))), .inl (1, .inr (.inl (fun _ => 0))), .inl (1, .inr (.inl (fun _ => 0)))] : List ez_C)) fun r h1 c1 k1 => G 135 37 [.ref 10, .int 0, .int 0, .int 0, .int 1] (r.toList ++ []) h1 (cz + c1) (kz + k1) := by
  intro G
  rfl
set_option maxRecDepth 100000 in
set_option maxHeartbeats 100000 in
theorem sp_z_30_through_r7 (X : ez_X)  (cz kz : Nat) : ∀ G : ez_F, fx_up X 5 G 135 37 [.ref 10, .int 0, .int 0, .int 0, .int 1] [] (ev_hp (ev_sI ev_I0 6 (upd (upd (ev_I0 6) 4 1) 3 1)) (ev_sJ (ev_sJ ev_J0 11 (vp_updL (vp_updL (ev_J0 11) 0 0) 1 0)) 12 (vp_updL (ev_J0 12) 0 0)) (ev_sR (ev_sR (ev_sR (ev_sR ev_R0 0 65) 1 66) 2 67) 3 68) ([.inl (1, .inl (upd (fun _ => 0) 0 0)), .inl (1, .inr (.inl (fun _ => 0))), .inl (1, .inr (.inl (fun _ => 0))), .inl (1, .inr (.inl (fun _ => 0)))] : List ez_C)) cz kz = ev_C G 39 [.ref 12, .int 1, .long 0] (ev_hp (ev_sI ev_I0 6 (upd (upd (ev_I0 6) 4 1) 3 1)) (ev_sJ (ev_sJ ev_J0 11 (vp_updL (vp_updL (ev_J0 11) 0 0) 1 0)) 12 (vp_updL (ev_J0 12) 0 0)) (ev_sR (ev_sR (ev_sR (ev_sR ev_R0 0 65) 1 66) 2 67) 3 68) ([.inl (1, .inl (upd (fun _ => 0) 0 0)), .inl (1, .inr (.inl (fun _ => 0))), .inl (1, .inr (.inl (fun _ => 0))), .inl (1, .inr (.inl (fun _ => 0)))] : List ez_C)) fun r h1 c1 k1 => G 135 47 [.ref 10, .int 0, .int 0, .int 0, .int 1] (r.toList ++ []) h1 (cz + c1) (kz + k1) := by
  intro G
  rfl
set_option maxRecDepth 100000 in
set_option maxHeartbeats 100000 in
theorem sp_z_30_through_r8 (X : ez_X)  (cz kz : Nat) : ∀ G : ez_F, fx_up X 13 G 135 47 [.ref 10, .int 0, .int 0, .int 0, .int 1] [] (ev_hp (ev_sI ev_I0 6 (upd (upd (ev_I0 6) 4 1) 3 1)) (ev_sJ (ev_sJ ev_J0 11 (vp_updL (vp_updL (ev_J0 11) 0 0) 1 0)) 12 (vp_updL (vp_updL (ev_J0 12) 0 0) 1 0)) (ev_sR (ev_sR (ev_sR (ev_sR ev_R0 0 65) 1 66) 2 67) 3 68) ([.inl (1, .inl (upd (fun _ => 0) 0 0)), .inl (1, .inr (.inl (fun _ => 0))), .inl (1, .inr (.inl (fun _ => 0))), .inl (1, .inr (.inl (fun _ => 0)))] : List ez_C)) cz kz = ev_C G 87 [.ref 3, .int 0, .int 2] (ev_hp (ev_sI ev_I0 6 (upd (upd (ev_I0 6) 4 1) 3 1)) (ev_sJ (ev_sJ ev_J0 11 (vp_updL (vp_updL (ev_J0 11) 0 0) 1 0)) 12 (vp_updL (vp_updL (ev_J0 12) 0 0) 1 0)) (ev_sR (ev_sR (ev_sR (ev_sR ev_R0 0 65) 1 66) 2 67) 3 68) ([.inl (1, .inl (upd (fun _ => 0) 0 0)), .inl (1, .inr (.inl (fun _ => 0))), .inl (1, .inr (.inl (fun _ => 0))), .inl (1, .inr (.inl (fun _ => 0)))] : List ez_C)) fun r h1 c1 k1 => G 135 34 [.ref 10, .int 0, .int 0, .int 0, .int 2] (r.toList ++ [.int 2, .ref 11]) h1 (cz + c1) (kz + k1) := by
  intro G
  rfl
set_option maxRecDepth 100000 in
set_option maxHeartbeats 100000 in
theorem sp_z_30_through_r9 (X : ez_X)  (cz kz : Nat) : ∀ G : ez_F, fx_up X 1 G 135 34 [.ref 10, .int 0, .int 0, .int 0, .int 2] [.long 0, .int 2, .ref 11] (ev_hp (ev_sI ev_I0 6 (upd (upd (ev_I0 6) 4 1) 3 1)) (ev_sJ (ev_sJ ev_J0 11 (vp_updL (vp_updL (ev_J0 11) 0 0) 1 0)) 12 (vp_updL (vp_updL (ev_J0 12) 0 0) 1 0)) (ev_sR (ev_sR (ev_sR (ev_sR ev_R0 0 65) 1 66) 2 67) 3 68) ([.inl (1, .inl (upd (fun _ => 0) 0 0)), .inl (1, .inr (.inl (fun _ => 0))), .inl (1, .inr (.inl (fun _ => 0))), .inl (1, .inr (.inl (fun _ => 0)))] : List ez_C)) cz kz = ev_C G 39 [.ref 11, .int 2, .long 0] (ev_hp (ev_sI ev_I0 6 (upd (upd (ev_I0 6) 4 1) 3 1)) (ev_sJ (ev_sJ ev_J0 11 (vp_updL (vp_updL (ev_J0 11) 0 0) 1 0)) 12 (vp_updL (vp_updL (ev_J0 12) 0 0) 1 0)) (ev_sR (ev_sR (ev_sR (ev_sR ev_R0 0 65) 1 66) 2 67) 3 68) ([.inl (1, .inl (upd (fun _ => 0) 0 0)), .inl (1, .inr (.inl (fun _ => 0))), .inl (1, .inr (.inl (fun _ => 0))), .inl (1, .inr (.inl (fun _ => 0)))] : List ez_C)) fun r h1 c1 k1 => G 135 37 [.ref 10, .int 0, .int 0, .int 0, .int 2] (r.toList ++ []) h1 (cz + c1) (kz + k1) := by
  intro G
  rfl
set_option maxRecDepth 100000 in
set_option maxHeartbeats 100000 in
theorem sp_z_30_through_r10 (X : ez_X)  (cz kz : Nat) : ∀ G : ez_F, fx_up X 5 G 135 37 [.ref 10, .int 0, .int 0, .int 0, .int 2] [] (ev_hp (ev_sI ev_I0 6 (upd (upd (ev_I0 6) 4 1) 3 1)) (ev_sJ (ev_sJ ev_J0 11 (vp_updL (vp_updL (vp_updL (ev_J0 11) 0 0) 1 0) 2 0)) 12 (vp_updL (vp_updL (ev_J0 12) 0 0) 1 0)) (ev_sR (ev_sR (ev_sR (ev_sR ev_R0 0 65) 1 66) 2 67) 3 68) ([.inl (1, .inl (upd (fun _ => 0) 0 0)), .inl (1, .inr (.inl (fun _ => 0))), .inl (1, .inr (.inl (fun _ => 0))), .inl (1, .inr (.inl (fun _ => 0)))] : List ez_C)) cz kz = ev_C G 39 [.ref 12, .int 2, .long 0] (ev_hp (ev_sI ev_I0 6 (upd (upd (ev_I0 6) 4 1) 3 1)) (ev_sJ (ev_sJ ev_J0 11 (vp_updL (vp_updL (vp_updL (ev_J0 11) 0 0) 1 0) 2 0)) 12 (vp_updL (vp_updL (ev_J0 12) 0 0) 1 0)) (ev_sR (ev_sR (ev_sR (ev_sR ev_R0 0 65) 1 66) 2 67) 3 68) ([.inl (1, .inl (upd (fun _ => 0) 0 0)), .inl (1, .inr (.inl (fun _ => 0))), .inl (1, .inr (.inl (fun _ => 0))), .inl (1, .inr (.inl (fun _ => 0)))] : List ez_C)) fun r h1 c1 k1 => G 135 47 [.ref 10, .int 0, .int 0, .int 0, .int 2] (r.toList ++ []) h1 (cz + c1) (kz + k1) := by
  intro G
  rfl
set_option maxRecDepth 100000 in
set_option maxHeartbeats 100000 in
theorem sp_z_30_through_r11 (X : ez_X)  (cz kz : Nat) : ∀ G : ez_F, fx_up X 24 G 135 47 [.ref 10, .int 0, .int 0, .int 0, .int 2] [] (ev_hp (ev_sI ev_I0 6 (upd (upd (ev_I0 6) 4 1) 3 1)) (ev_sJ (ev_sJ ev_J0 11 (vp_updL (vp_updL (vp_updL (ev_J0 11) 0 0) 1 0) 2 0)) 12 (vp_updL (vp_updL (vp_updL (ev_J0 12) 0 0) 1 0) 2 0)) (ev_sR (ev_sR (ev_sR (ev_sR ev_R0 0 65) 1 66) 2 67) 3 68) ([.inl (1, .inl (upd (fun _ => 0) 0 0)), .inl (1, .inr (.inl (fun _ => 0))), .inl (1, .inr (.inl (fun _ => 0))), .inl (1, .inr (.inl (fun _ => 0)))] : List ez_C)) cz kz = some (some (.long 0), (ev_hp (ev_sI ev_I0 6 (upd (upd (ev_I0 6) 4 1) 3 1)) (ev_sJ (ev_sJ ev_J0 11 (vp_updL (vp_updL (vp_updL (ev_J0 11) 0 0) 1 0) 2 0)) 12 (vp_updL (vp_updL (vp_updL (ev_J0 12) 0 0) 1 0) 2 0)) (ev_sR (ev_sR (ev_sR (ev_sR ev_R0 0 65) 1 66) 2 67) 3 68) ([.inl (1, .inl (upd (fun _ => 0) 0 0)), .inl (1, .inr (.inl (fun _ => 0))), .inl (1, .inr (.inl (fun _ => 0))), .inl (1, .inr (.inl (fun _ => 0)))] : List ez_C)), cz, kz) := by
  intro G
  rfl
theorem sp_z_30_through (X : ez_X) : ev_W X 135 0 (ez_lay [.ref 10, .int 0, .int 0]) [] (ev_hp (ev_sI ev_I0 6 (upd (upd (ev_I0 6) 4 1) 3 1)) ev_J0 (ev_sR (ev_sR (ev_sR (ev_sR ev_R0 0 65) 1 66) 2 67) 3 68) ([.inl (1, .inl (upd (fun _ => 0) 0 0)), .inl (1, .inr (.inl (fun _ => 0))), .inl (1, .inr (.inl (fun _ => 0))), .inl (1, .inr (.inl (fun _ => 0)))] : List ez_C)) 0 0 (fun r h1 c1 k1 => r = (some (.long 0)) ∧ h1 = (ev_hp (ev_sI ev_I0 6 (upd (upd (ev_I0 6) 4 1) 3 1)) (ev_sJ (ev_sJ ev_J0 11 (vp_updL (vp_updL (vp_updL (ev_J0 11) 0 0) 1 0) 2 0)) 12 (vp_updL (vp_updL (vp_updL (ev_J0 12) 0 0) 1 0) 2 0)) (ev_sR (ev_sR (ev_sR (ev_sR ev_R0 0 65) 1 66) 2 67) 3 68) ([.inl (1, .inl (upd (fun _ => 0) 0 0)), .inl (1, .inr (.inl (fun _ => 0))), .inl (1, .inr (.inl (fun _ => 0))), .inl (1, .inr (.inl (fun _ => 0)))] : List ez_C)) ∧ c1 = 0 ∧ k1 = 0) := by
  refine ev_call (sp_z_30_through_r1 X  _ _) (sp_z_31_codeOf X) ?_
  rintro _ _ _ _ ⟨rfl, rfl, rfl, rfl⟩
  refine ev_call (sp_z_30_through_r2 X  _ _) (sp_z_33_cellsIn X) ?_
  rintro _ _ _ _ ⟨rfl, rfl, rfl, rfl⟩
  refine ev_call (sp_z_30_through_r3 X  _ _) (sp_z_35_put X) ?_
  rintro _ _ _ _ ⟨rfl, rfl, rfl, rfl⟩
  refine ev_call (sp_z_30_through_r4 X  _ _) (sp_z_36_put X) ?_
  rintro _ _ _ _ ⟨rfl, rfl, rfl, rfl⟩
  refine ev_call (sp_z_30_through_r5 X  _ _) (sp_z_37_cellsIn X) ?_
  rintro _ _ _ _ ⟨rfl, rfl, rfl, rfl⟩
  refine ev_call (sp_z_30_through_r6 X  _ _) (sp_z_39_put X) ?_
  rintro _ _ _ _ ⟨rfl, rfl, rfl, rfl⟩
  refine ev_call (sp_z_30_through_r7 X  _ _) (sp_z_40_put X) ?_
  rintro _ _ _ _ ⟨rfl, rfl, rfl, rfl⟩
  refine ev_call (sp_z_30_through_r8 X  _ _) (sp_z_41_cellsIn X) ?_
  rintro _ _ _ _ ⟨rfl, rfl, rfl, rfl⟩
  refine ev_call (sp_z_30_through_r9 X  _ _) (sp_z_43_put X) ?_
  rintro _ _ _ _ ⟨rfl, rfl, rfl, rfl⟩
  refine ev_call (sp_z_30_through_r10 X  _ _) (sp_z_44_put X) ?_
  rintro _ _ _ _ ⟨rfl, rfl, rfl, rfl⟩
  refine ev_ret (sp_z_30_through_r11 X  _ _) ?_
  exact ⟨rfl, rfl, rfl, rfl⟩
set_option maxRecDepth 100000 in
set_option maxHeartbeats 100000 in
theorem sp_z_45_put_r1 (X : ez_X)  (cz kz : Nat) : ∀ G : ez_F, fx_up X 11 G 39 0 [.ref 66, .int 0, .long 0, ez_fill] [] (ev_hp (ev_sI ev_I0 6 (upd (upd (ev_I0 6) 4 1) 3 1)) (ev_sJ (ev_sJ ev_J0 11 (vp_updL (vp_updL (vp_updL (ev_J0 11) 0 0) 1 0) 2 0)) 12 (vp_updL (vp_updL (vp_updL (ev_J0 12) 0 0) 1 0) 2 0)) (ev_sR (ev_sR (ev_sR (ev_sR ev_R0 0 65) 1 66) 2 67) 3 68) ([.inl (1, .inl (upd (fun _ => 0) 0 0)), .inl (1, .inr (.inl (fun _ => 0))), .inl (1, .inr (.inl (fun _ => 0))), .inl (1, .inr (.inl (fun _ => 0)))] : List ez_C)) cz kz = some (none, (ev_hp (ev_sI ev_I0 6 (upd (upd (ev_I0 6) 4 1) 3 1)) (ev_sJ (ev_sJ ev_J0 11 (vp_updL (vp_updL (vp_updL (ev_J0 11) 0 0) 1 0) 2 0)) 12 (vp_updL (vp_updL (vp_updL (ev_J0 12) 0 0) 1 0) 2 0)) (ev_sR (ev_sR (ev_sR (ev_sR ev_R0 0 65) 1 66) 2 67) 3 68) ([.inl (1, .inl (upd (fun _ => 0) 0 0)), .inl (1, .inr (.inl (vp_updL (fun _ => 0) 0 0))), .inl (1, .inr (.inl (fun _ => 0))), .inl (1, .inr (.inl (fun _ => 0)))] : List ez_C)), cz, kz) := by
  intro G
  rfl
theorem sp_z_45_put (X : ez_X) : ev_W X 39 0 (ez_lay [.ref 66, .int 0, .long 0]) [] (ev_hp (ev_sI ev_I0 6 (upd (upd (ev_I0 6) 4 1) 3 1)) (ev_sJ (ev_sJ ev_J0 11 (vp_updL (vp_updL (vp_updL (ev_J0 11) 0 0) 1 0) 2 0)) 12 (vp_updL (vp_updL (vp_updL (ev_J0 12) 0 0) 1 0) 2 0)) (ev_sR (ev_sR (ev_sR (ev_sR ev_R0 0 65) 1 66) 2 67) 3 68) ([.inl (1, .inl (upd (fun _ => 0) 0 0)), .inl (1, .inr (.inl (fun _ => 0))), .inl (1, .inr (.inl (fun _ => 0))), .inl (1, .inr (.inl (fun _ => 0)))] : List ez_C)) 0 0 (fun r h1 c1 k1 => r = none ∧ h1 = (ev_hp (ev_sI ev_I0 6 (upd (upd (ev_I0 6) 4 1) 3 1)) (ev_sJ (ev_sJ ev_J0 11 (vp_updL (vp_updL (vp_updL (ev_J0 11) 0 0) 1 0) 2 0)) 12 (vp_updL (vp_updL (vp_updL (ev_J0 12) 0 0) 1 0) 2 0)) (ev_sR (ev_sR (ev_sR (ev_sR ev_R0 0 65) 1 66) 2 67) 3 68) ([.inl (1, .inl (upd (fun _ => 0) 0 0)), .inl (1, .inr (.inl (vp_updL (fun _ => 0) 0 0))), .inl (1, .inr (.inl (fun _ => 0))), .inl (1, .inr (.inl (fun _ => 0)))] : List ez_C)) ∧ c1 = 0 ∧ k1 = 0) := by
  refine ev_ret (sp_z_45_put_r1 X  _ _) ?_
  exact ⟨rfl, rfl, rfl, rfl⟩
set_option maxRecDepth 100000 in
set_option maxHeartbeats 100000 in
theorem sp_z_47_at_r1 (X : ez_X)  (cz kz : Nat) : ∀ G : ez_F, fx_up X 11 G 4 0 [.ref 11, .int 0] [] (ev_hp (ev_sI ev_I0 6 (upd (upd (ev_I0 6) 4 1) 3 1)) (ev_sJ (ev_sJ ev_J0 11 (vp_updL (vp_updL (vp_updL (ev_J0 11) 0 0) 1 0) 2 0)) 12 (vp_updL (vp_updL (vp_updL (ev_J0 12) 0 0) 1 0) 2 0)) (ev_sR (ev_sR (ev_sR (ev_sR ev_R0 0 65) 1 66) 2 67) 3 68) ([.inl (1, .inl (upd (fun _ => 0) 0 0)), .inl (1, .inr (.inl (vp_updL (fun _ => 0) 0 0))), .inl (1, .inr (.inl (fun _ => 0))), .inl (1, .inr (.inl (fun _ => 0)))] : List ez_C)) cz kz = some (some (.long 0), (ev_hp (ev_sI ev_I0 6 (upd (upd (ev_I0 6) 4 1) 3 1)) (ev_sJ (ev_sJ ev_J0 11 (vp_updL (vp_updL (vp_updL (ev_J0 11) 0 0) 1 0) 2 0)) 12 (vp_updL (vp_updL (vp_updL (ev_J0 12) 0 0) 1 0) 2 0)) (ev_sR (ev_sR (ev_sR (ev_sR ev_R0 0 65) 1 66) 2 67) 3 68) ([.inl (1, .inl (upd (fun _ => 0) 0 0)), .inl (1, .inr (.inl (vp_updL (fun _ => 0) 0 0))), .inl (1, .inr (.inl (fun _ => 0))), .inl (1, .inr (.inl (fun _ => 0)))] : List ez_C)), cz, kz) := by
  intro G
  rfl
theorem sp_z_47_at (X : ez_X) : ev_W X 4 0 (ez_lay [.ref 11, .int 0]) [] (ev_hp (ev_sI ev_I0 6 (upd (upd (ev_I0 6) 4 1) 3 1)) (ev_sJ (ev_sJ ev_J0 11 (vp_updL (vp_updL (vp_updL (ev_J0 11) 0 0) 1 0) 2 0)) 12 (vp_updL (vp_updL (vp_updL (ev_J0 12) 0 0) 1 0) 2 0)) (ev_sR (ev_sR (ev_sR (ev_sR ev_R0 0 65) 1 66) 2 67) 3 68) ([.inl (1, .inl (upd (fun _ => 0) 0 0)), .inl (1, .inr (.inl (vp_updL (fun _ => 0) 0 0))), .inl (1, .inr (.inl (fun _ => 0))), .inl (1, .inr (.inl (fun _ => 0)))] : List ez_C)) 0 0 (fun r h1 c1 k1 => r = (some (.long 0)) ∧ h1 = (ev_hp (ev_sI ev_I0 6 (upd (upd (ev_I0 6) 4 1) 3 1)) (ev_sJ (ev_sJ ev_J0 11 (vp_updL (vp_updL (vp_updL (ev_J0 11) 0 0) 1 0) 2 0)) 12 (vp_updL (vp_updL (vp_updL (ev_J0 12) 0 0) 1 0) 2 0)) (ev_sR (ev_sR (ev_sR (ev_sR ev_R0 0 65) 1 66) 2 67) 3 68) ([.inl (1, .inl (upd (fun _ => 0) 0 0)), .inl (1, .inr (.inl (vp_updL (fun _ => 0) 0 0))), .inl (1, .inr (.inl (fun _ => 0))), .inl (1, .inr (.inl (fun _ => 0)))] : List ez_C)) ∧ c1 = 0 ∧ k1 = 0) := by
  refine ev_ret (sp_z_47_at_r1 X  _ _) ?_
  exact ⟨rfl, rfl, rfl, rfl⟩
set_option maxRecDepth 100000 in
set_option maxHeartbeats 100000 in
theorem sp_z_48_at_r1 (X : ez_X)  (cz kz : Nat) : ∀ G : ez_F, fx_up X 11 G 4 0 [.ref 11, .int 1] [] (ev_hp (ev_sI ev_I0 6 (upd (upd (ev_I0 6) 4 1) 3 1)) (ev_sJ (ev_sJ ev_J0 11 (vp_updL (vp_updL (vp_updL (ev_J0 11) 0 0) 1 0) 2 0)) 12 (vp_updL (vp_updL (vp_updL (ev_J0 12) 0 0) 1 0) 2 0)) (ev_sR (ev_sR (ev_sR (ev_sR ev_R0 0 65) 1 66) 2 67) 3 68) ([.inl (1, .inl (upd (fun _ => 0) 0 0)), .inl (1, .inr (.inl (vp_updL (fun _ => 0) 0 0))), .inl (1, .inr (.inl (fun _ => 0))), .inl (1, .inr (.inl (fun _ => 0)))] : List ez_C)) cz kz = some (some (.long 0), (ev_hp (ev_sI ev_I0 6 (upd (upd (ev_I0 6) 4 1) 3 1)) (ev_sJ (ev_sJ ev_J0 11 (vp_updL (vp_updL (vp_updL (ev_J0 11) 0 0) 1 0) 2 0)) 12 (vp_updL (vp_updL (vp_updL (ev_J0 12) 0 0) 1 0) 2 0)) (ev_sR (ev_sR (ev_sR (ev_sR ev_R0 0 65) 1 66) 2 67) 3 68) ([.inl (1, .inl (upd (fun _ => 0) 0 0)), .inl (1, .inr (.inl (vp_updL (fun _ => 0) 0 0))), .inl (1, .inr (.inl (fun _ => 0))), .inl (1, .inr (.inl (fun _ => 0)))] : List ez_C)), cz, kz) := by
  intro G
  rfl
theorem sp_z_48_at (X : ez_X) : ev_W X 4 0 (ez_lay [.ref 11, .int 1]) [] (ev_hp (ev_sI ev_I0 6 (upd (upd (ev_I0 6) 4 1) 3 1)) (ev_sJ (ev_sJ ev_J0 11 (vp_updL (vp_updL (vp_updL (ev_J0 11) 0 0) 1 0) 2 0)) 12 (vp_updL (vp_updL (vp_updL (ev_J0 12) 0 0) 1 0) 2 0)) (ev_sR (ev_sR (ev_sR (ev_sR ev_R0 0 65) 1 66) 2 67) 3 68) ([.inl (1, .inl (upd (fun _ => 0) 0 0)), .inl (1, .inr (.inl (vp_updL (fun _ => 0) 0 0))), .inl (1, .inr (.inl (fun _ => 0))), .inl (1, .inr (.inl (fun _ => 0)))] : List ez_C)) 0 0 (fun r h1 c1 k1 => r = (some (.long 0)) ∧ h1 = (ev_hp (ev_sI ev_I0 6 (upd (upd (ev_I0 6) 4 1) 3 1)) (ev_sJ (ev_sJ ev_J0 11 (vp_updL (vp_updL (vp_updL (ev_J0 11) 0 0) 1 0) 2 0)) 12 (vp_updL (vp_updL (vp_updL (ev_J0 12) 0 0) 1 0) 2 0)) (ev_sR (ev_sR (ev_sR (ev_sR ev_R0 0 65) 1 66) 2 67) 3 68) ([.inl (1, .inl (upd (fun _ => 0) 0 0)), .inl (1, .inr (.inl (vp_updL (fun _ => 0) 0 0))), .inl (1, .inr (.inl (fun _ => 0))), .inl (1, .inr (.inl (fun _ => 0)))] : List ez_C)) ∧ c1 = 0 ∧ k1 = 0) := by
  refine ev_ret (sp_z_48_at_r1 X  _ _) ?_
  exact ⟨rfl, rfl, rfl, rfl⟩
set_option maxRecDepth 100000 in
set_option maxHeartbeats 100000 in
theorem sp_z_49_at_r1 (X : ez_X)  (cz kz : Nat) : ∀ G : ez_F, fx_up X 11 G 4 0 [.ref 11, .int 2] [] (ev_hp (ev_sI ev_I0 6 (upd (upd (ev_I0 6) 4 1) 3 1)) (ev_sJ (ev_sJ ev_J0 11 (vp_updL (vp_updL (vp_updL (ev_J0 11) 0 0) 1 0) 2 0)) 12 (vp_updL (vp_updL (vp_updL (ev_J0 12) 0 0) 1 0) 2 0)) (ev_sR (ev_sR (ev_sR (ev_sR ev_R0 0 65) 1 66) 2 67) 3 68) ([.inl (1, .inl (upd (fun _ => 0) 0 0)), .inl (1, .inr (.inl (vp_updL (fun _ => 0) 0 0))), .inl (1, .inr (.inl (fun _ => 0))), .inl (1, .inr (.inl (fun _ => 0)))] : List ez_C)) cz kz = some (some (.long 0), (ev_hp (ev_sI ev_I0 6 (upd (upd (ev_I0 6) 4 1) 3 1)) (ev_sJ (ev_sJ ev_J0 11 (vp_updL (vp_updL (vp_updL (ev_J0 11) 0 0) 1 0) 2 0)) 12 (vp_updL (vp_updL (vp_updL (ev_J0 12) 0 0) 1 0) 2 0)) (ev_sR (ev_sR (ev_sR (ev_sR ev_R0 0 65) 1 66) 2 67) 3 68) ([.inl (1, .inl (upd (fun _ => 0) 0 0)), .inl (1, .inr (.inl (vp_updL (fun _ => 0) 0 0))), .inl (1, .inr (.inl (fun _ => 0))), .inl (1, .inr (.inl (fun _ => 0)))] : List ez_C)), cz, kz) := by
  intro G
  rfl
theorem sp_z_49_at (X : ez_X) : ev_W X 4 0 (ez_lay [.ref 11, .int 2]) [] (ev_hp (ev_sI ev_I0 6 (upd (upd (ev_I0 6) 4 1) 3 1)) (ev_sJ (ev_sJ ev_J0 11 (vp_updL (vp_updL (vp_updL (ev_J0 11) 0 0) 1 0) 2 0)) 12 (vp_updL (vp_updL (vp_updL (ev_J0 12) 0 0) 1 0) 2 0)) (ev_sR (ev_sR (ev_sR (ev_sR ev_R0 0 65) 1 66) 2 67) 3 68) ([.inl (1, .inl (upd (fun _ => 0) 0 0)), .inl (1, .inr (.inl (vp_updL (fun _ => 0) 0 0))), .inl (1, .inr (.inl (fun _ => 0))), .inl (1, .inr (.inl (fun _ => 0)))] : List ez_C)) 0 0 (fun r h1 c1 k1 => r = (some (.long 0)) ∧ h1 = (ev_hp (ev_sI ev_I0 6 (upd (upd (ev_I0 6) 4 1) 3 1)) (ev_sJ (ev_sJ ev_J0 11 (vp_updL (vp_updL (vp_updL (ev_J0 11) 0 0) 1 0) 2 0)) 12 (vp_updL (vp_updL (vp_updL (ev_J0 12) 0 0) 1 0) 2 0)) (ev_sR (ev_sR (ev_sR (ev_sR ev_R0 0 65) 1 66) 2 67) 3 68) ([.inl (1, .inl (upd (fun _ => 0) 0 0)), .inl (1, .inr (.inl (vp_updL (fun _ => 0) 0 0))), .inl (1, .inr (.inl (fun _ => 0))), .inl (1, .inr (.inl (fun _ => 0)))] : List ez_C)) ∧ c1 = 0 ∧ k1 = 0) := by
  refine ev_ret (sp_z_49_at_r1 X  _ _) ?_
  exact ⟨rfl, rfl, rfl, rfl⟩
set_option maxRecDepth 100000 in
set_option maxHeartbeats 100000 in
theorem sp_z_46_allPlaces_r1 (X : ez_X)  (cz kz : Nat) : ∀ G : ez_F, fx_up X 4 G 129 0 [.ref 10] [] (ev_hp (ev_sI ev_I0 6 (upd (upd (ev_I0 6) 4 1) 3 1)) (ev_sJ (ev_sJ ev_J0 11 (vp_updL (vp_updL (vp_updL (ev_J0 11) 0 0) 1 0) 2 0)) 12 (vp_updL (vp_updL (vp_updL (ev_J0 12) 0 0) 1 0) 2 0)) (ev_sR (ev_sR (ev_sR (ev_sR ev_R0 0 65) 1 66) 2 67) 3 68) ([.inl (1, .inl (upd (fun _ => 0) 0 0)), .inl (1, .inr (.inl (vp_updL (fun _ => 0) 0 0))), .inl (1, .inr (.inl (fun _ => 0))), .inl (1, .inr (.inl (fun _ => 0)))] : List ez_C)) cz kz = ev_C G 4 [.ref 11, .int 0] (ev_hp (ev_sI ev_I0 6 (upd (upd (ev_I0 6) 4 1) 3 1)) (ev_sJ (ev_sJ ev_J0 11 (vp_updL (vp_updL (vp_updL (ev_J0 11) 0 0) 1 0) 2 0)) 12 (vp_updL (vp_updL (vp_updL (ev_J0 12) 0 0) 1 0) 2 0)) (ev_sR (ev_sR (ev_sR (ev_sR ev_R0 0 65) 1 66) 2 67) 3 68) ([.inl (1, .inl (upd (fun _ => 0) 0 0)), .inl (1, .inr (.inl (vp_updL (fun _ => 0) 0 0))), .inl (1, .inr (.inl (fun _ => 0))), .inl (1, .inr (.inl (fun _ => 0)))] : List ez_C)) fun r h1 c1 k1 => G 129 8 [.ref 10] (r.toList ++ []) h1 (cz + c1) (kz + k1) := by
  intro G
  rfl
set_option maxRecDepth 100000 in
set_option maxHeartbeats 100000 in
theorem sp_z_46_allPlaces_r2 (X : ez_X)  (cz kz : Nat) : ∀ G : ez_F, fx_up X 4 G 129 8 [.ref 10] [.long 0] (ev_hp (ev_sI ev_I0 6 (upd (upd (ev_I0 6) 4 1) 3 1)) (ev_sJ (ev_sJ ev_J0 11 (vp_updL (vp_updL (vp_updL (ev_J0 11) 0 0) 1 0) 2 0)) 12 (vp_updL (vp_updL (vp_updL (ev_J0 12) 0 0) 1 0) 2 0)) (ev_sR (ev_sR (ev_sR (ev_sR ev_R0 0 65) 1 66) 2 67) 3 68) ([.inl (1, .inl (upd (fun _ => 0) 0 0)), .inl (1, .inr (.inl (vp_updL (fun _ => 0) 0 0))), .inl (1, .inr (.inl (fun _ => 0))), .inl (1, .inr (.inl (fun _ => 0)))] : List ez_C)) cz kz = ev_C G 4 [.ref 11, .int 1] (ev_hp (ev_sI ev_I0 6 (upd (upd (ev_I0 6) 4 1) 3 1)) (ev_sJ (ev_sJ ev_J0 11 (vp_updL (vp_updL (vp_updL (ev_J0 11) 0 0) 1 0) 2 0)) 12 (vp_updL (vp_updL (vp_updL (ev_J0 12) 0 0) 1 0) 2 0)) (ev_sR (ev_sR (ev_sR (ev_sR ev_R0 0 65) 1 66) 2 67) 3 68) ([.inl (1, .inl (upd (fun _ => 0) 0 0)), .inl (1, .inr (.inl (vp_updL (fun _ => 0) 0 0))), .inl (1, .inr (.inl (fun _ => 0))), .inl (1, .inr (.inl (fun _ => 0)))] : List ez_C)) fun r h1 c1 k1 => G 129 16 [.ref 10] (r.toList ++ [.long 0]) h1 (cz + c1) (kz + k1) := by
  intro G
  rfl
set_option maxRecDepth 100000 in
set_option maxHeartbeats 100000 in
theorem sp_z_46_allPlaces_r3 (X : ez_X)  (cz kz : Nat) : ∀ G : ez_F, fx_up X 5 G 129 16 [.ref 10] [.long 0, .long 0] (ev_hp (ev_sI ev_I0 6 (upd (upd (ev_I0 6) 4 1) 3 1)) (ev_sJ (ev_sJ ev_J0 11 (vp_updL (vp_updL (vp_updL (ev_J0 11) 0 0) 1 0) 2 0)) 12 (vp_updL (vp_updL (vp_updL (ev_J0 12) 0 0) 1 0) 2 0)) (ev_sR (ev_sR (ev_sR (ev_sR ev_R0 0 65) 1 66) 2 67) 3 68) ([.inl (1, .inl (upd (fun _ => 0) 0 0)), .inl (1, .inr (.inl (vp_updL (fun _ => 0) 0 0))), .inl (1, .inr (.inl (fun _ => 0))), .inl (1, .inr (.inl (fun _ => 0)))] : List ez_C)) cz kz = ev_C G 4 [.ref 11, .int 2] (ev_hp (ev_sI ev_I0 6 (upd (upd (ev_I0 6) 4 1) 3 1)) (ev_sJ (ev_sJ ev_J0 11 (vp_updL (vp_updL (vp_updL (ev_J0 11) 0 0) 1 0) 2 0)) 12 (vp_updL (vp_updL (vp_updL (ev_J0 12) 0 0) 1 0) 2 0)) (ev_sR (ev_sR (ev_sR (ev_sR ev_R0 0 65) 1 66) 2 67) 3 68) ([.inl (1, .inl (upd (fun _ => 0) 0 0)), .inl (1, .inr (.inl (vp_updL (fun _ => 0) 0 0))), .inl (1, .inr (.inl (fun _ => 0))), .inl (1, .inr (.inl (fun _ => 0)))] : List ez_C)) fun r h1 c1 k1 => G 129 25 [.ref 10] (r.toList ++ [.long 0]) h1 (cz + c1) (kz + k1) := by
  intro G
  rfl
set_option maxRecDepth 100000 in
set_option maxHeartbeats 100000 in
theorem sp_z_46_allPlaces_r4 (X : ez_X)  (cz kz : Nat) : ∀ G : ez_F, fx_up X 2 G 129 25 [.ref 10] [.long 0, .long 0] (ev_hp (ev_sI ev_I0 6 (upd (upd (ev_I0 6) 4 1) 3 1)) (ev_sJ (ev_sJ ev_J0 11 (vp_updL (vp_updL (vp_updL (ev_J0 11) 0 0) 1 0) 2 0)) 12 (vp_updL (vp_updL (vp_updL (ev_J0 12) 0 0) 1 0) 2 0)) (ev_sR (ev_sR (ev_sR (ev_sR ev_R0 0 65) 1 66) 2 67) 3 68) ([.inl (1, .inl (upd (fun _ => 0) 0 0)), .inl (1, .inr (.inl (vp_updL (fun _ => 0) 0 0))), .inl (1, .inr (.inl (fun _ => 0))), .inl (1, .inr (.inl (fun _ => 0)))] : List ez_C)) cz kz = some (some (.long 0), (ev_hp (ev_sI ev_I0 6 (upd (upd (ev_I0 6) 4 1) 3 1)) (ev_sJ (ev_sJ ev_J0 11 (vp_updL (vp_updL (vp_updL (ev_J0 11) 0 0) 1 0) 2 0)) 12 (vp_updL (vp_updL (vp_updL (ev_J0 12) 0 0) 1 0) 2 0)) (ev_sR (ev_sR (ev_sR (ev_sR ev_R0 0 65) 1 66) 2 67) 3 68) ([.inl (1, .inl (upd (fun _ => 0) 0 0)), .inl (1, .inr (.inl (vp_updL (fun _ => 0) 0 0))), .inl (1, .inr (.inl (fun _ => 0))), .inl (1, .inr (.inl (fun _ => 0)))] : List ez_C)), cz, kz) := by
  intro G
  rfl
theorem sp_z_46_allPlaces (X : ez_X) : ev_W X 129 0 (ez_lay [.ref 10]) [] (ev_hp (ev_sI ev_I0 6 (upd (upd (ev_I0 6) 4 1) 3 1)) (ev_sJ (ev_sJ ev_J0 11 (vp_updL (vp_updL (vp_updL (ev_J0 11) 0 0) 1 0) 2 0)) 12 (vp_updL (vp_updL (vp_updL (ev_J0 12) 0 0) 1 0) 2 0)) (ev_sR (ev_sR (ev_sR (ev_sR ev_R0 0 65) 1 66) 2 67) 3 68) ([.inl (1, .inl (upd (fun _ => 0) 0 0)), .inl (1, .inr (.inl (vp_updL (fun _ => 0) 0 0))), .inl (1, .inr (.inl (fun _ => 0))), .inl (1, .inr (.inl (fun _ => 0)))] : List ez_C)) 0 0 (fun r h1 c1 k1 => r = (some (.long 0)) ∧ h1 = (ev_hp (ev_sI ev_I0 6 (upd (upd (ev_I0 6) 4 1) 3 1)) (ev_sJ (ev_sJ ev_J0 11 (vp_updL (vp_updL (vp_updL (ev_J0 11) 0 0) 1 0) 2 0)) 12 (vp_updL (vp_updL (vp_updL (ev_J0 12) 0 0) 1 0) 2 0)) (ev_sR (ev_sR (ev_sR (ev_sR ev_R0 0 65) 1 66) 2 67) 3 68) ([.inl (1, .inl (upd (fun _ => 0) 0 0)), .inl (1, .inr (.inl (vp_updL (fun _ => 0) 0 0))), .inl (1, .inr (.inl (fun _ => 0))), .inl (1, .inr (.inl (fun _ => 0)))] : List ez_C)) ∧ c1 = 0 ∧ k1 = 0) := by
  refine ev_call (sp_z_46_allPlaces_r1 X  _ _) (sp_z_47_at X) ?_
  rintro _ _ _ _ ⟨rfl, rfl, rfl, rfl⟩
  refine ev_call (sp_z_46_allPlaces_r2 X  _ _) (sp_z_48_at X) ?_
  rintro _ _ _ _ ⟨rfl, rfl, rfl, rfl⟩
  refine ev_call (sp_z_46_allPlaces_r3 X  _ _) (sp_z_49_at X) ?_
  rintro _ _ _ _ ⟨rfl, rfl, rfl, rfl⟩
  refine ev_ret (sp_z_46_allPlaces_r4 X  _ _) ?_
  exact ⟨rfl, rfl, rfl, rfl⟩
set_option maxRecDepth 100000 in
set_option maxHeartbeats 100000 in
theorem sp_z_50_put_r1 (X : ez_X)  (cz kz : Nat) : ∀ G : ez_F, fx_up X 11 G 39 0 [.ref 67, .int 0, .long 0, ez_fill] [] (ev_hp (ev_sI ev_I0 6 (upd (upd (ev_I0 6) 4 1) 3 1)) (ev_sJ (ev_sJ ev_J0 11 (vp_updL (vp_updL (vp_updL (ev_J0 11) 0 0) 1 0) 2 0)) 12 (vp_updL (vp_updL (vp_updL (ev_J0 12) 0 0) 1 0) 2 0)) (ev_sR (ev_sR (ev_sR (ev_sR ev_R0 0 65) 1 66) 2 67) 3 68) ([.inl (1, .inl (upd (fun _ => 0) 0 0)), .inl (1, .inr (.inl (vp_updL (fun _ => 0) 0 0))), .inl (1, .inr (.inl (fun _ => 0))), .inl (1, .inr (.inl (fun _ => 0)))] : List ez_C)) cz kz = some (none, (ev_hp (ev_sI ev_I0 6 (upd (upd (ev_I0 6) 4 1) 3 1)) (ev_sJ (ev_sJ ev_J0 11 (vp_updL (vp_updL (vp_updL (ev_J0 11) 0 0) 1 0) 2 0)) 12 (vp_updL (vp_updL (vp_updL (ev_J0 12) 0 0) 1 0) 2 0)) (ev_sR (ev_sR (ev_sR (ev_sR ev_R0 0 65) 1 66) 2 67) 3 68) ([.inl (1, .inl (upd (fun _ => 0) 0 0)), .inl (1, .inr (.inl (vp_updL (fun _ => 0) 0 0))), .inl (1, .inr (.inl (vp_updL (fun _ => 0) 0 0))), .inl (1, .inr (.inl (fun _ => 0)))] : List ez_C)), cz, kz) := by
  intro G
  rfl
theorem sp_z_50_put (X : ez_X) : ev_W X 39 0 (ez_lay [.ref 67, .int 0, .long 0]) [] (ev_hp (ev_sI ev_I0 6 (upd (upd (ev_I0 6) 4 1) 3 1)) (ev_sJ (ev_sJ ev_J0 11 (vp_updL (vp_updL (vp_updL (ev_J0 11) 0 0) 1 0) 2 0)) 12 (vp_updL (vp_updL (vp_updL (ev_J0 12) 0 0) 1 0) 2 0)) (ev_sR (ev_sR (ev_sR (ev_sR ev_R0 0 65) 1 66) 2 67) 3 68) ([.inl (1, .inl (upd (fun _ => 0) 0 0)), .inl (1, .inr (.inl (vp_updL (fun _ => 0) 0 0))), .inl (1, .inr (.inl (fun _ => 0))), .inl (1, .inr (.inl (fun _ => 0)))] : List ez_C)) 0 0 (fun r h1 c1 k1 => r = none ∧ h1 = (ev_hp (ev_sI ev_I0 6 (upd (upd (ev_I0 6) 4 1) 3 1)) (ev_sJ (ev_sJ ev_J0 11 (vp_updL (vp_updL (vp_updL (ev_J0 11) 0 0) 1 0) 2 0)) 12 (vp_updL (vp_updL (vp_updL (ev_J0 12) 0 0) 1 0) 2 0)) (ev_sR (ev_sR (ev_sR (ev_sR ev_R0 0 65) 1 66) 2 67) 3 68) ([.inl (1, .inl (upd (fun _ => 0) 0 0)), .inl (1, .inr (.inl (vp_updL (fun _ => 0) 0 0))), .inl (1, .inr (.inl (vp_updL (fun _ => 0) 0 0))), .inl (1, .inr (.inl (fun _ => 0)))] : List ez_C)) ∧ c1 = 0 ∧ k1 = 0) := by
  refine ev_ret (sp_z_50_put_r1 X  _ _) ?_
  exact ⟨rfl, rfl, rfl, rfl⟩
set_option maxRecDepth 100000 in
set_option maxHeartbeats 100000 in
theorem sp_z_52_at_r1 (X : ez_X)  (cz kz : Nat) : ∀ G : ez_F, fx_up X 11 G 4 0 [.ref 11, .int 0] [] (ev_hp (ev_sI ev_I0 6 (upd (upd (ev_I0 6) 4 1) 3 1)) (ev_sJ (ev_sJ ev_J0 11 (vp_updL (vp_updL (vp_updL (ev_J0 11) 0 0) 1 0) 2 0)) 12 (vp_updL (vp_updL (vp_updL (ev_J0 12) 0 0) 1 0) 2 0)) (ev_sR (ev_sR (ev_sR (ev_sR ev_R0 0 65) 1 66) 2 67) 3 68) ([.inl (1, .inl (upd (fun _ => 0) 0 0)), .inl (1, .inr (.inl (vp_updL (fun _ => 0) 0 0))), .inl (1, .inr (.inl (vp_updL (fun _ => 0) 0 0))), .inl (1, .inr (.inl (fun _ => 0)))] : List ez_C)) cz kz = some (some (.long 0), (ev_hp (ev_sI ev_I0 6 (upd (upd (ev_I0 6) 4 1) 3 1)) (ev_sJ (ev_sJ ev_J0 11 (vp_updL (vp_updL (vp_updL (ev_J0 11) 0 0) 1 0) 2 0)) 12 (vp_updL (vp_updL (vp_updL (ev_J0 12) 0 0) 1 0) 2 0)) (ev_sR (ev_sR (ev_sR (ev_sR ev_R0 0 65) 1 66) 2 67) 3 68) ([.inl (1, .inl (upd (fun _ => 0) 0 0)), .inl (1, .inr (.inl (vp_updL (fun _ => 0) 0 0))), .inl (1, .inr (.inl (vp_updL (fun _ => 0) 0 0))), .inl (1, .inr (.inl (fun _ => 0)))] : List ez_C)), cz, kz) := by
  intro G
  rfl
theorem sp_z_52_at (X : ez_X) : ev_W X 4 0 (ez_lay [.ref 11, .int 0]) [] (ev_hp (ev_sI ev_I0 6 (upd (upd (ev_I0 6) 4 1) 3 1)) (ev_sJ (ev_sJ ev_J0 11 (vp_updL (vp_updL (vp_updL (ev_J0 11) 0 0) 1 0) 2 0)) 12 (vp_updL (vp_updL (vp_updL (ev_J0 12) 0 0) 1 0) 2 0)) (ev_sR (ev_sR (ev_sR (ev_sR ev_R0 0 65) 1 66) 2 67) 3 68) ([.inl (1, .inl (upd (fun _ => 0) 0 0)), .inl (1, .inr (.inl (vp_updL (fun _ => 0) 0 0))), .inl (1, .inr (.inl (vp_updL (fun _ => 0) 0 0))), .inl (1, .inr (.inl (fun _ => 0)))] : List ez_C)) 0 0 (fun r h1 c1 k1 => r = (some (.long 0)) ∧ h1 = (ev_hp (ev_sI ev_I0 6 (upd (upd (ev_I0 6) 4 1) 3 1)) (ev_sJ (ev_sJ ev_J0 11 (vp_updL (vp_updL (vp_updL (ev_J0 11) 0 0) 1 0) 2 0)) 12 (vp_updL (vp_updL (vp_updL (ev_J0 12) 0 0) 1 0) 2 0)) (ev_sR (ev_sR (ev_sR (ev_sR ev_R0 0 65) 1 66) 2 67) 3 68) ([.inl (1, .inl (upd (fun _ => 0) 0 0)), .inl (1, .inr (.inl (vp_updL (fun _ => 0) 0 0))), .inl (1, .inr (.inl (vp_updL (fun _ => 0) 0 0))), .inl (1, .inr (.inl (fun _ => 0)))] : List ez_C)) ∧ c1 = 0 ∧ k1 = 0) := by
  refine ev_ret (sp_z_52_at_r1 X  _ _) ?_
  exact ⟨rfl, rfl, rfl, rfl⟩
set_option maxRecDepth 100000 in
set_option maxHeartbeats 100000 in
theorem sp_z_53_at_r1 (X : ez_X)  (cz kz : Nat) : ∀ G : ez_F, fx_up X 11 G 4 0 [.ref 12, .int 0] [] (ev_hp (ev_sI ev_I0 6 (upd (upd (ev_I0 6) 4 1) 3 1)) (ev_sJ (ev_sJ ev_J0 11 (vp_updL (vp_updL (vp_updL (ev_J0 11) 0 0) 1 0) 2 0)) 12 (vp_updL (vp_updL (vp_updL (ev_J0 12) 0 0) 1 0) 2 0)) (ev_sR (ev_sR (ev_sR (ev_sR ev_R0 0 65) 1 66) 2 67) 3 68) ([.inl (1, .inl (upd (fun _ => 0) 0 0)), .inl (1, .inr (.inl (vp_updL (fun _ => 0) 0 0))), .inl (1, .inr (.inl (vp_updL (fun _ => 0) 0 0))), .inl (1, .inr (.inl (fun _ => 0)))] : List ez_C)) cz kz = some (some (.long 0), (ev_hp (ev_sI ev_I0 6 (upd (upd (ev_I0 6) 4 1) 3 1)) (ev_sJ (ev_sJ ev_J0 11 (vp_updL (vp_updL (vp_updL (ev_J0 11) 0 0) 1 0) 2 0)) 12 (vp_updL (vp_updL (vp_updL (ev_J0 12) 0 0) 1 0) 2 0)) (ev_sR (ev_sR (ev_sR (ev_sR ev_R0 0 65) 1 66) 2 67) 3 68) ([.inl (1, .inl (upd (fun _ => 0) 0 0)), .inl (1, .inr (.inl (vp_updL (fun _ => 0) 0 0))), .inl (1, .inr (.inl (vp_updL (fun _ => 0) 0 0))), .inl (1, .inr (.inl (fun _ => 0)))] : List ez_C)), cz, kz) := by
  intro G
  rfl
theorem sp_z_53_at (X : ez_X) : ev_W X 4 0 (ez_lay [.ref 12, .int 0]) [] (ev_hp (ev_sI ev_I0 6 (upd (upd (ev_I0 6) 4 1) 3 1)) (ev_sJ (ev_sJ ev_J0 11 (vp_updL (vp_updL (vp_updL (ev_J0 11) 0 0) 1 0) 2 0)) 12 (vp_updL (vp_updL (vp_updL (ev_J0 12) 0 0) 1 0) 2 0)) (ev_sR (ev_sR (ev_sR (ev_sR ev_R0 0 65) 1 66) 2 67) 3 68) ([.inl (1, .inl (upd (fun _ => 0) 0 0)), .inl (1, .inr (.inl (vp_updL (fun _ => 0) 0 0))), .inl (1, .inr (.inl (vp_updL (fun _ => 0) 0 0))), .inl (1, .inr (.inl (fun _ => 0)))] : List ez_C)) 0 0 (fun r h1 c1 k1 => r = (some (.long 0)) ∧ h1 = (ev_hp (ev_sI ev_I0 6 (upd (upd (ev_I0 6) 4 1) 3 1)) (ev_sJ (ev_sJ ev_J0 11 (vp_updL (vp_updL (vp_updL (ev_J0 11) 0 0) 1 0) 2 0)) 12 (vp_updL (vp_updL (vp_updL (ev_J0 12) 0 0) 1 0) 2 0)) (ev_sR (ev_sR (ev_sR (ev_sR ev_R0 0 65) 1 66) 2 67) 3 68) ([.inl (1, .inl (upd (fun _ => 0) 0 0)), .inl (1, .inr (.inl (vp_updL (fun _ => 0) 0 0))), .inl (1, .inr (.inl (vp_updL (fun _ => 0) 0 0))), .inl (1, .inr (.inl (fun _ => 0)))] : List ez_C)) ∧ c1 = 0 ∧ k1 = 0) := by
  refine ev_ret (sp_z_53_at_r1 X  _ _) ?_
  exact ⟨rfl, rfl, rfl, rfl⟩
set_option maxRecDepth 100000 in
set_option maxHeartbeats 100000 in
theorem sp_z_55_bitCount_r1 (X : ez_X)  (cz kz : Nat) : ∀ G : ez_F, fx_up X 24 G 237 0 [.long 0, ez_fill] [] (ev_hp (ev_sI ev_I0 6 (upd (upd (ev_I0 6) 4 1) 3 1)) (ev_sJ (ev_sJ ev_J0 11 (vp_updL (vp_updL (vp_updL (ev_J0 11) 0 0) 1 0) 2 0)) 12 (vp_updL (vp_updL (vp_updL (ev_J0 12) 0 0) 1 0) 2 0)) (ev_sR (ev_sR (ev_sR (ev_sR ev_R0 0 65) 1 66) 2 67) 3 68) ([.inl (1, .inl (upd (fun _ => 0) 0 0)), .inl (1, .inr (.inl (vp_updL (fun _ => 0) 0 0))), .inl (1, .inr (.inl (vp_updL (fun _ => 0) 0 0))), .inl (1, .inr (.inl (fun _ => 0)))] : List ez_C)) cz kz = G 237 32 [.long 0, ez_fill] [.long 1085102592571150095, .long 0] (ev_hp (ev_sI ev_I0 6 (upd (upd (ev_I0 6) 4 1) 3 1)) (ev_sJ (ev_sJ ev_J0 11 (vp_updL (vp_updL (vp_updL (ev_J0 11) 0 0) 1 0) 2 0)) 12 (vp_updL (vp_updL (vp_updL (ev_J0 12) 0 0) 1 0) 2 0)) (ev_sR (ev_sR (ev_sR (ev_sR ev_R0 0 65) 1 66) 2 67) 3 68) ([.inl (1, .inl (upd (fun _ => 0) 0 0)), .inl (1, .inr (.inl (vp_updL (fun _ => 0) 0 0))), .inl (1, .inr (.inl (vp_updL (fun _ => 0) 0 0))), .inl (1, .inr (.inl (fun _ => 0)))] : List ez_C)) cz kz := by
  intro G
  rfl
set_option maxRecDepth 100000 in
set_option maxHeartbeats 100000 in
theorem sp_z_55_bitCount_r2 (X : ez_X)  (cz kz : Nat) : ∀ G : ez_F, fx_up X 24 G 237 32 [.long 0, ez_fill] [.long 1085102592571150095, .long 0] (ev_hp (ev_sI ev_I0 6 (upd (upd (ev_I0 6) 4 1) 3 1)) (ev_sJ (ev_sJ ev_J0 11 (vp_updL (vp_updL (vp_updL (ev_J0 11) 0 0) 1 0) 2 0)) 12 (vp_updL (vp_updL (vp_updL (ev_J0 12) 0 0) 1 0) 2 0)) (ev_sR (ev_sR (ev_sR (ev_sR ev_R0 0 65) 1 66) 2 67) 3 68) ([.inl (1, .inl (upd (fun _ => 0) 0 0)), .inl (1, .inr (.inl (vp_updL (fun _ => 0) 0 0))), .inl (1, .inr (.inl (vp_updL (fun _ => 0) 0 0))), .inl (1, .inr (.inl (fun _ => 0)))] : List ez_C)) cz kz = G 237 60 [.long 0, ez_fill] [.int 0] (ev_hp (ev_sI ev_I0 6 (upd (upd (ev_I0 6) 4 1) 3 1)) (ev_sJ (ev_sJ ev_J0 11 (vp_updL (vp_updL (vp_updL (ev_J0 11) 0 0) 1 0) 2 0)) 12 (vp_updL (vp_updL (vp_updL (ev_J0 12) 0 0) 1 0) 2 0)) (ev_sR (ev_sR (ev_sR (ev_sR ev_R0 0 65) 1 66) 2 67) 3 68) ([.inl (1, .inl (upd (fun _ => 0) 0 0)), .inl (1, .inr (.inl (vp_updL (fun _ => 0) 0 0))), .inl (1, .inr (.inl (vp_updL (fun _ => 0) 0 0))), .inl (1, .inr (.inl (fun _ => 0)))] : List ez_C)) cz kz := by
  intro G
  rfl
set_option maxRecDepth 100000 in
set_option maxHeartbeats 100000 in
theorem sp_z_55_bitCount_r3 (X : ez_X)  (cz kz : Nat) : ∀ G : ez_F, fx_up X 1 G 237 60 [.long 0, ez_fill] [.int 0] (ev_hp (ev_sI ev_I0 6 (upd (upd (ev_I0 6) 4 1) 3 1)) (ev_sJ (ev_sJ ev_J0 11 (vp_updL (vp_updL (vp_updL (ev_J0 11) 0 0) 1 0) 2 0)) 12 (vp_updL (vp_updL (vp_updL (ev_J0 12) 0 0) 1 0) 2 0)) (ev_sR (ev_sR (ev_sR (ev_sR ev_R0 0 65) 1 66) 2 67) 3 68) ([.inl (1, .inl (upd (fun _ => 0) 0 0)), .inl (1, .inr (.inl (vp_updL (fun _ => 0) 0 0))), .inl (1, .inr (.inl (vp_updL (fun _ => 0) 0 0))), .inl (1, .inr (.inl (fun _ => 0)))] : List ez_C)) cz kz = some (some (.int 0), (ev_hp (ev_sI ev_I0 6 (upd (upd (ev_I0 6) 4 1) 3 1)) (ev_sJ (ev_sJ ev_J0 11 (vp_updL (vp_updL (vp_updL (ev_J0 11) 0 0) 1 0) 2 0)) 12 (vp_updL (vp_updL (vp_updL (ev_J0 12) 0 0) 1 0) 2 0)) (ev_sR (ev_sR (ev_sR (ev_sR ev_R0 0 65) 1 66) 2 67) 3 68) ([.inl (1, .inl (upd (fun _ => 0) 0 0)), .inl (1, .inr (.inl (vp_updL (fun _ => 0) 0 0))), .inl (1, .inr (.inl (vp_updL (fun _ => 0) 0 0))), .inl (1, .inr (.inl (fun _ => 0)))] : List ez_C)), cz, kz) := by
  intro G
  rfl
theorem sp_z_55_bitCount (X : ez_X) : ev_W X 237 0 (ez_lay [.long 0]) [] (ev_hp (ev_sI ev_I0 6 (upd (upd (ev_I0 6) 4 1) 3 1)) (ev_sJ (ev_sJ ev_J0 11 (vp_updL (vp_updL (vp_updL (ev_J0 11) 0 0) 1 0) 2 0)) 12 (vp_updL (vp_updL (vp_updL (ev_J0 12) 0 0) 1 0) 2 0)) (ev_sR (ev_sR (ev_sR (ev_sR ev_R0 0 65) 1 66) 2 67) 3 68) ([.inl (1, .inl (upd (fun _ => 0) 0 0)), .inl (1, .inr (.inl (vp_updL (fun _ => 0) 0 0))), .inl (1, .inr (.inl (vp_updL (fun _ => 0) 0 0))), .inl (1, .inr (.inl (fun _ => 0)))] : List ez_C)) 0 0 (fun r h1 c1 k1 => r = (some (.int 0)) ∧ h1 = (ev_hp (ev_sI ev_I0 6 (upd (upd (ev_I0 6) 4 1) 3 1)) (ev_sJ (ev_sJ ev_J0 11 (vp_updL (vp_updL (vp_updL (ev_J0 11) 0 0) 1 0) 2 0)) 12 (vp_updL (vp_updL (vp_updL (ev_J0 12) 0 0) 1 0) 2 0)) (ev_sR (ev_sR (ev_sR (ev_sR ev_R0 0 65) 1 66) 2 67) 3 68) ([.inl (1, .inl (upd (fun _ => 0) 0 0)), .inl (1, .inr (.inl (vp_updL (fun _ => 0) 0 0))), .inl (1, .inr (.inl (vp_updL (fun _ => 0) 0 0))), .inl (1, .inr (.inl (fun _ => 0)))] : List ez_C)) ∧ c1 = 0 ∧ k1 = 0) := by
  refine ev_seg (sp_z_55_bitCount_r1 X  _ _) ?_
  refine ev_seg (sp_z_55_bitCount_r2 X  _ _) ?_
  refine ev_ret (sp_z_55_bitCount_r3 X  _ _) ?_
  exact ⟨rfl, rfl, rfl, rfl⟩
set_option maxRecDepth 100000 in
set_option maxHeartbeats 100000 in
theorem sp_z_54_onlyOne_r1 (X : ez_X)  (cz kz : Nat) : ∀ G : ez_F, fx_up X 2 G 36 0 [.long 0, ez_fill] [] (ev_hp (ev_sI ev_I0 6 (upd (upd (ev_I0 6) 4 1) 3 1)) (ev_sJ (ev_sJ ev_J0 11 (vp_updL (vp_updL (vp_updL (ev_J0 11) 0 0) 1 0) 2 0)) 12 (vp_updL (vp_updL (vp_updL (ev_J0 12) 0 0) 1 0) 2 0)) (ev_sR (ev_sR (ev_sR (ev_sR ev_R0 0 65) 1 66) 2 67) 3 68) ([.inl (1, .inl (upd (fun _ => 0) 0 0)), .inl (1, .inr (.inl (vp_updL (fun _ => 0) 0 0))), .inl (1, .inr (.inl (vp_updL (fun _ => 0) 0 0))), .inl (1, .inr (.inl (fun _ => 0)))] : List ez_C)) cz kz = ev_C G 237 [.long 0] (ev_hp (ev_sI ev_I0 6 (upd (upd (ev_I0 6) 4 1) 3 1)) (ev_sJ (ev_sJ ev_J0 11 (vp_updL (vp_updL (vp_updL (ev_J0 11) 0 0) 1 0) 2 0)) 12 (vp_updL (vp_updL (vp_updL (ev_J0 12) 0 0) 1 0) 2 0)) (ev_sR (ev_sR (ev_sR (ev_sR ev_R0 0 65) 1 66) 2 67) 3 68) ([.inl (1, .inl (upd (fun _ => 0) 0 0)), .inl (1, .inr (.inl (vp_updL (fun _ => 0) 0 0))), .inl (1, .inr (.inl (vp_updL (fun _ => 0) 0 0))), .inl (1, .inr (.inl (fun _ => 0)))] : List ez_C)) fun r h1 c1 k1 => G 36 4 [.long 0, ez_fill] (r.toList ++ []) h1 (cz + c1) (kz + k1) := by
  intro G
  rfl
set_option maxRecDepth 100000 in
set_option maxHeartbeats 100000 in
theorem sp_z_54_onlyOne_r2 (X : ez_X)  (cz kz : Nat) : ∀ G : ez_F, fx_up X 4 G 36 4 [.long 0, ez_fill] [.int 0] (ev_hp (ev_sI ev_I0 6 (upd (upd (ev_I0 6) 4 1) 3 1)) (ev_sJ (ev_sJ ev_J0 11 (vp_updL (vp_updL (vp_updL (ev_J0 11) 0 0) 1 0) 2 0)) 12 (vp_updL (vp_updL (vp_updL (ev_J0 12) 0 0) 1 0) 2 0)) (ev_sR (ev_sR (ev_sR (ev_sR ev_R0 0 65) 1 66) 2 67) 3 68) ([.inl (1, .inl (upd (fun _ => 0) 0 0)), .inl (1, .inr (.inl (vp_updL (fun _ => 0) 0 0))), .inl (1, .inr (.inl (vp_updL (fun _ => 0) 0 0))), .inl (1, .inr (.inl (fun _ => 0)))] : List ez_C)) cz kz = some (some (.long 0), (ev_hp (ev_sI ev_I0 6 (upd (upd (ev_I0 6) 4 1) 3 1)) (ev_sJ (ev_sJ ev_J0 11 (vp_updL (vp_updL (vp_updL (ev_J0 11) 0 0) 1 0) 2 0)) 12 (vp_updL (vp_updL (vp_updL (ev_J0 12) 0 0) 1 0) 2 0)) (ev_sR (ev_sR (ev_sR (ev_sR ev_R0 0 65) 1 66) 2 67) 3 68) ([.inl (1, .inl (upd (fun _ => 0) 0 0)), .inl (1, .inr (.inl (vp_updL (fun _ => 0) 0 0))), .inl (1, .inr (.inl (vp_updL (fun _ => 0) 0 0))), .inl (1, .inr (.inl (fun _ => 0)))] : List ez_C)), cz, kz) := by
  intro G
  rfl
theorem sp_z_54_onlyOne (X : ez_X) : ev_W X 36 0 (ez_lay [.long 0]) [] (ev_hp (ev_sI ev_I0 6 (upd (upd (ev_I0 6) 4 1) 3 1)) (ev_sJ (ev_sJ ev_J0 11 (vp_updL (vp_updL (vp_updL (ev_J0 11) 0 0) 1 0) 2 0)) 12 (vp_updL (vp_updL (vp_updL (ev_J0 12) 0 0) 1 0) 2 0)) (ev_sR (ev_sR (ev_sR (ev_sR ev_R0 0 65) 1 66) 2 67) 3 68) ([.inl (1, .inl (upd (fun _ => 0) 0 0)), .inl (1, .inr (.inl (vp_updL (fun _ => 0) 0 0))), .inl (1, .inr (.inl (vp_updL (fun _ => 0) 0 0))), .inl (1, .inr (.inl (fun _ => 0)))] : List ez_C)) 0 0 (fun r h1 c1 k1 => r = (some (.long 0)) ∧ h1 = (ev_hp (ev_sI ev_I0 6 (upd (upd (ev_I0 6) 4 1) 3 1)) (ev_sJ (ev_sJ ev_J0 11 (vp_updL (vp_updL (vp_updL (ev_J0 11) 0 0) 1 0) 2 0)) 12 (vp_updL (vp_updL (vp_updL (ev_J0 12) 0 0) 1 0) 2 0)) (ev_sR (ev_sR (ev_sR (ev_sR ev_R0 0 65) 1 66) 2 67) 3 68) ([.inl (1, .inl (upd (fun _ => 0) 0 0)), .inl (1, .inr (.inl (vp_updL (fun _ => 0) 0 0))), .inl (1, .inr (.inl (vp_updL (fun _ => 0) 0 0))), .inl (1, .inr (.inl (fun _ => 0)))] : List ez_C)) ∧ c1 = 0 ∧ k1 = 0) := by
  refine ev_call (sp_z_54_onlyOne_r1 X  _ _) (sp_z_55_bitCount X) ?_
  rintro _ _ _ _ ⟨rfl, rfl, rfl, rfl⟩
  refine ev_ret (sp_z_54_onlyOne_r2 X  _ _) ?_
  exact ⟨rfl, rfl, rfl, rfl⟩
set_option maxRecDepth 100000 in
set_option maxHeartbeats 100000 in
theorem sp_z_56_at_r1 (X : ez_X)  (cz kz : Nat) : ∀ G : ez_F, fx_up X 11 G 4 0 [.ref 11, .int 1] [] (ev_hp (ev_sI ev_I0 6 (upd (upd (ev_I0 6) 4 1) 3 1)) (ev_sJ (ev_sJ ev_J0 11 (vp_updL (vp_updL (vp_updL (ev_J0 11) 0 0) 1 0) 2 0)) 12 (vp_updL (vp_updL (vp_updL (ev_J0 12) 0 0) 1 0) 2 0)) (ev_sR (ev_sR (ev_sR (ev_sR ev_R0 0 65) 1 66) 2 67) 3 68) ([.inl (1, .inl (upd (fun _ => 0) 0 0)), .inl (1, .inr (.inl (vp_updL (fun _ => 0) 0 0))), .inl (1, .inr (.inl (vp_updL (fun _ => 0) 0 0))), .inl (1, .inr (.inl (fun _ => 0)))] : List ez_C)) cz kz = some (some (.long 0), (ev_hp (ev_sI ev_I0 6 (upd (upd (ev_I0 6) 4 1) 3 1)) (ev_sJ (ev_sJ ev_J0 11 (vp_updL (vp_updL (vp_updL (ev_J0 11) 0 0) 1 0) 2 0)) 12 (vp_updL (vp_updL (vp_updL (ev_J0 12) 0 0) 1 0) 2 0)) (ev_sR (ev_sR (ev_sR (ev_sR ev_R0 0 65) 1 66) 2 67) 3 68) ([.inl (1, .inl (upd (fun _ => 0) 0 0)), .inl (1, .inr (.inl (vp_updL (fun _ => 0) 0 0))), .inl (1, .inr (.inl (vp_updL (fun _ => 0) 0 0))), .inl (1, .inr (.inl (fun _ => 0)))] : List ez_C)), cz, kz) := by
  intro G
  rfl
theorem sp_z_56_at (X : ez_X) : ev_W X 4 0 (ez_lay [.ref 11, .int 1]) [] (ev_hp (ev_sI ev_I0 6 (upd (upd (ev_I0 6) 4 1) 3 1)) (ev_sJ (ev_sJ ev_J0 11 (vp_updL (vp_updL (vp_updL (ev_J0 11) 0 0) 1 0) 2 0)) 12 (vp_updL (vp_updL (vp_updL (ev_J0 12) 0 0) 1 0) 2 0)) (ev_sR (ev_sR (ev_sR (ev_sR ev_R0 0 65) 1 66) 2 67) 3 68) ([.inl (1, .inl (upd (fun _ => 0) 0 0)), .inl (1, .inr (.inl (vp_updL (fun _ => 0) 0 0))), .inl (1, .inr (.inl (vp_updL (fun _ => 0) 0 0))), .inl (1, .inr (.inl (fun _ => 0)))] : List ez_C)) 0 0 (fun r h1 c1 k1 => r = (some (.long 0)) ∧ h1 = (ev_hp (ev_sI ev_I0 6 (upd (upd (ev_I0 6) 4 1) 3 1)) (ev_sJ (ev_sJ ev_J0 11 (vp_updL (vp_updL (vp_updL (ev_J0 11) 0 0) 1 0) 2 0)) 12 (vp_updL (vp_updL (vp_updL (ev_J0 12) 0 0) 1 0) 2 0)) (ev_sR (ev_sR (ev_sR (ev_sR ev_R0 0 65) 1 66) 2 67) 3 68) ([.inl (1, .inl (upd (fun _ => 0) 0 0)), .inl (1, .inr (.inl (vp_updL (fun _ => 0) 0 0))), .inl (1, .inr (.inl (vp_updL (fun _ => 0) 0 0))), .inl (1, .inr (.inl (fun _ => 0)))] : List ez_C)) ∧ c1 = 0 ∧ k1 = 0) := by
  refine ev_ret (sp_z_56_at_r1 X  _ _) ?_
  exact ⟨rfl, rfl, rfl, rfl⟩
set_option maxRecDepth 100000 in
set_option maxHeartbeats 100000 in
theorem sp_z_57_at_r1 (X : ez_X)  (cz kz : Nat) : ∀ G : ez_F, fx_up X 11 G 4 0 [.ref 12, .int 1] [] (ev_hp (ev_sI ev_I0 6 (upd (upd (ev_I0 6) 4 1) 3 1)) (ev_sJ (ev_sJ ev_J0 11 (vp_updL (vp_updL (vp_updL (ev_J0 11) 0 0) 1 0) 2 0)) 12 (vp_updL (vp_updL (vp_updL (ev_J0 12) 0 0) 1 0) 2 0)) (ev_sR (ev_sR (ev_sR (ev_sR ev_R0 0 65) 1 66) 2 67) 3 68) ([.inl (1, .inl (upd (fun _ => 0) 0 0)), .inl (1, .inr (.inl (vp_updL (fun _ => 0) 0 0))), .inl (1, .inr (.inl (vp_updL (fun _ => 0) 0 0))), .inl (1, .inr (.inl (fun _ => 0)))] : List ez_C)) cz kz = some (some (.long 0), (ev_hp (ev_sI ev_I0 6 (upd (upd (ev_I0 6) 4 1) 3 1)) (ev_sJ (ev_sJ ev_J0 11 (vp_updL (vp_updL (vp_updL (ev_J0 11) 0 0) 1 0) 2 0)) 12 (vp_updL (vp_updL (vp_updL (ev_J0 12) 0 0) 1 0) 2 0)) (ev_sR (ev_sR (ev_sR (ev_sR ev_R0 0 65) 1 66) 2 67) 3 68) ([.inl (1, .inl (upd (fun _ => 0) 0 0)), .inl (1, .inr (.inl (vp_updL (fun _ => 0) 0 0))), .inl (1, .inr (.inl (vp_updL (fun _ => 0) 0 0))), .inl (1, .inr (.inl (fun _ => 0)))] : List ez_C)), cz, kz) := by
  intro G
  rfl
theorem sp_z_57_at (X : ez_X) : ev_W X 4 0 (ez_lay [.ref 12, .int 1]) [] (ev_hp (ev_sI ev_I0 6 (upd (upd (ev_I0 6) 4 1) 3 1)) (ev_sJ (ev_sJ ev_J0 11 (vp_updL (vp_updL (vp_updL (ev_J0 11) 0 0) 1 0) 2 0)) 12 (vp_updL (vp_updL (vp_updL (ev_J0 12) 0 0) 1 0) 2 0)) (ev_sR (ev_sR (ev_sR (ev_sR ev_R0 0 65) 1 66) 2 67) 3 68) ([.inl (1, .inl (upd (fun _ => 0) 0 0)), .inl (1, .inr (.inl (vp_updL (fun _ => 0) 0 0))), .inl (1, .inr (.inl (vp_updL (fun _ => 0) 0 0))), .inl (1, .inr (.inl (fun _ => 0)))] : List ez_C)) 0 0 (fun r h1 c1 k1 => r = (some (.long 0)) ∧ h1 = (ev_hp (ev_sI ev_I0 6 (upd (upd (ev_I0 6) 4 1) 3 1)) (ev_sJ (ev_sJ ev_J0 11 (vp_updL (vp_updL (vp_updL (ev_J0 11) 0 0) 1 0) 2 0)) 12 (vp_updL (vp_updL (vp_updL (ev_J0 12) 0 0) 1 0) 2 0)) (ev_sR (ev_sR (ev_sR (ev_sR ev_R0 0 65) 1 66) 2 67) 3 68) ([.inl (1, .inl (upd (fun _ => 0) 0 0)), .inl (1, .inr (.inl (vp_updL (fun _ => 0) 0 0))), .inl (1, .inr (.inl (vp_updL (fun _ => 0) 0 0))), .inl (1, .inr (.inl (fun _ => 0)))] : List ez_C)) ∧ c1 = 0 ∧ k1 = 0) := by
  refine ev_ret (sp_z_57_at_r1 X  _ _) ?_
  exact ⟨rfl, rfl, rfl, rfl⟩
set_option maxRecDepth 100000 in
set_option maxHeartbeats 100000 in
theorem sp_z_59_bitCount_r1 (X : ez_X)  (cz kz : Nat) : ∀ G : ez_F, fx_up X 24 G 237 0 [.long 0, ez_fill] [] (ev_hp (ev_sI ev_I0 6 (upd (upd (ev_I0 6) 4 1) 3 1)) (ev_sJ (ev_sJ ev_J0 11 (vp_updL (vp_updL (vp_updL (ev_J0 11) 0 0) 1 0) 2 0)) 12 (vp_updL (vp_updL (vp_updL (ev_J0 12) 0 0) 1 0) 2 0)) (ev_sR (ev_sR (ev_sR (ev_sR ev_R0 0 65) 1 66) 2 67) 3 68) ([.inl (1, .inl (upd (fun _ => 0) 0 0)), .inl (1, .inr (.inl (vp_updL (fun _ => 0) 0 0))), .inl (1, .inr (.inl (vp_updL (fun _ => 0) 0 0))), .inl (1, .inr (.inl (fun _ => 0)))] : List ez_C)) cz kz = G 237 32 [.long 0, ez_fill] [.long 1085102592571150095, .long 0] (ev_hp (ev_sI ev_I0 6 (upd (upd (ev_I0 6) 4 1) 3 1)) (ev_sJ (ev_sJ ev_J0 11 (vp_updL (vp_updL (vp_updL (ev_J0 11) 0 0) 1 0) 2 0)) 12 (vp_updL (vp_updL (vp_updL (ev_J0 12) 0 0) 1 0) 2 0)) (ev_sR (ev_sR (ev_sR (ev_sR ev_R0 0 65) 1 66) 2 67) 3 68) ([.inl (1, .inl (upd (fun _ => 0) 0 0)), .inl (1, .inr (.inl (vp_updL (fun _ => 0) 0 0))), .inl (1, .inr (.inl (vp_updL (fun _ => 0) 0 0))), .inl (1, .inr (.inl (fun _ => 0)))] : List ez_C)) cz kz := by
  intro G
  rfl
set_option maxRecDepth 100000 in
set_option maxHeartbeats 100000 in
theorem sp_z_59_bitCount_r2 (X : ez_X)  (cz kz : Nat) : ∀ G : ez_F, fx_up X 24 G 237 32 [.long 0, ez_fill] [.long 1085102592571150095, .long 0] (ev_hp (ev_sI ev_I0 6 (upd (upd (ev_I0 6) 4 1) 3 1)) (ev_sJ (ev_sJ ev_J0 11 (vp_updL (vp_updL (vp_updL (ev_J0 11) 0 0) 1 0) 2 0)) 12 (vp_updL (vp_updL (vp_updL (ev_J0 12) 0 0) 1 0) 2 0)) (ev_sR (ev_sR (ev_sR (ev_sR ev_R0 0 65) 1 66) 2 67) 3 68) ([.inl (1, .inl (upd (fun _ => 0) 0 0)), .inl (1, .inr (.inl (vp_updL (fun _ => 0) 0 0))), .inl (1, .inr (.inl (vp_updL (fun _ => 0) 0 0))), .inl (1, .inr (.inl (fun _ => 0)))] : List ez_C)) cz kz = G 237 60 [.long 0, ez_fill] [.int 0] (ev_hp (ev_sI ev_I0 6 (upd (upd (ev_I0 6) 4 1) 3 1)) (ev_sJ (ev_sJ ev_J0 11 (vp_updL (vp_updL (vp_updL (ev_J0 11) 0 0) 1 0) 2 0)) 12 (vp_updL (vp_updL (vp_updL (ev_J0 12) 0 0) 1 0) 2 0)) (ev_sR (ev_sR (ev_sR (ev_sR ev_R0 0 65) 1 66) 2 67) 3 68) ([.inl (1, .inl (upd (fun _ => 0) 0 0)), .inl (1, .inr (.inl (vp_updL (fun _ => 0) 0 0))), .inl (1, .inr (.inl (vp_updL (fun _ => 0) 0 0))), .inl (1, .inr (.inl (fun _ => 0)))] : List ez_C)) cz kz := by
  intro G
  rfl
set_option maxRecDepth 100000 in
set_option maxHeartbeats 100000 in
theorem sp_z_59_bitCount_r3 (X : ez_X)  (cz kz : Nat) : ∀ G : ez_F, fx_up X 1 G 237 60 [.long 0, ez_fill] [.int 0] (ev_hp (ev_sI ev_I0 6 (upd (upd (ev_I0 6) 4 1) 3 1)) (ev_sJ (ev_sJ ev_J0 11 (vp_updL (vp_updL (vp_updL (ev_J0 11) 0 0) 1 0) 2 0)) 12 (vp_updL (vp_updL (vp_updL (ev_J0 12) 0 0) 1 0) 2 0)) (ev_sR (ev_sR (ev_sR (ev_sR ev_R0 0 65) 1 66) 2 67) 3 68) ([.inl (1, .inl (upd (fun _ => 0) 0 0)), .inl (1, .inr (.inl (vp_updL (fun _ => 0) 0 0))), .inl (1, .inr (.inl (vp_updL (fun _ => 0) 0 0))), .inl (1, .inr (.inl (fun _ => 0)))] : List ez_C)) cz kz = some (some (.int 0), (ev_hp (ev_sI ev_I0 6 (upd (upd (ev_I0 6) 4 1) 3 1)) (ev_sJ (ev_sJ ev_J0 11 (vp_updL (vp_updL (vp_updL (ev_J0 11) 0 0) 1 0) 2 0)) 12 (vp_updL (vp_updL (vp_updL (ev_J0 12) 0 0) 1 0) 2 0)) (ev_sR (ev_sR (ev_sR (ev_sR ev_R0 0 65) 1 66) 2 67) 3 68) ([.inl (1, .inl (upd (fun _ => 0) 0 0)), .inl (1, .inr (.inl (vp_updL (fun _ => 0) 0 0))), .inl (1, .inr (.inl (vp_updL (fun _ => 0) 0 0))), .inl (1, .inr (.inl (fun _ => 0)))] : List ez_C)), cz, kz) := by
  intro G
  rfl
theorem sp_z_59_bitCount (X : ez_X) : ev_W X 237 0 (ez_lay [.long 0]) [] (ev_hp (ev_sI ev_I0 6 (upd (upd (ev_I0 6) 4 1) 3 1)) (ev_sJ (ev_sJ ev_J0 11 (vp_updL (vp_updL (vp_updL (ev_J0 11) 0 0) 1 0) 2 0)) 12 (vp_updL (vp_updL (vp_updL (ev_J0 12) 0 0) 1 0) 2 0)) (ev_sR (ev_sR (ev_sR (ev_sR ev_R0 0 65) 1 66) 2 67) 3 68) ([.inl (1, .inl (upd (fun _ => 0) 0 0)), .inl (1, .inr (.inl (vp_updL (fun _ => 0) 0 0))), .inl (1, .inr (.inl (vp_updL (fun _ => 0) 0 0))), .inl (1, .inr (.inl (fun _ => 0)))] : List ez_C)) 0 0 (fun r h1 c1 k1 => r = (some (.int 0)) ∧ h1 = (ev_hp (ev_sI ev_I0 6 (upd (upd (ev_I0 6) 4 1) 3 1)) (ev_sJ (ev_sJ ev_J0 11 (vp_updL (vp_updL (vp_updL (ev_J0 11) 0 0) 1 0) 2 0)) 12 (vp_updL (vp_updL (vp_updL (ev_J0 12) 0 0) 1 0) 2 0)) (ev_sR (ev_sR (ev_sR (ev_sR ev_R0 0 65) 1 66) 2 67) 3 68) ([.inl (1, .inl (upd (fun _ => 0) 0 0)), .inl (1, .inr (.inl (vp_updL (fun _ => 0) 0 0))), .inl (1, .inr (.inl (vp_updL (fun _ => 0) 0 0))), .inl (1, .inr (.inl (fun _ => 0)))] : List ez_C)) ∧ c1 = 0 ∧ k1 = 0) := by
  refine ev_seg (sp_z_59_bitCount_r1 X  _ _) ?_
  refine ev_seg (sp_z_59_bitCount_r2 X  _ _) ?_
  refine ev_ret (sp_z_59_bitCount_r3 X  _ _) ?_
  exact ⟨rfl, rfl, rfl, rfl⟩
set_option maxRecDepth 100000 in
set_option maxHeartbeats 100000 in
theorem sp_z_58_onlyOne_r1 (X : ez_X)  (cz kz : Nat) : ∀ G : ez_F, fx_up X 2 G 36 0 [.long 0, ez_fill] [] (ev_hp (ev_sI ev_I0 6 (upd (upd (ev_I0 6) 4 1) 3 1)) (ev_sJ (ev_sJ ev_J0 11 (vp_updL (vp_updL (vp_updL (ev_J0 11) 0 0) 1 0) 2 0)) 12 (vp_updL (vp_updL (vp_updL (ev_J0 12) 0 0) 1 0) 2 0)) (ev_sR (ev_sR (ev_sR (ev_sR ev_R0 0 65) 1 66) 2 67) 3 68) ([.inl (1, .inl (upd (fun _ => 0) 0 0)), .inl (1, .inr (.inl (vp_updL (fun _ => 0) 0 0))), .inl (1, .inr (.inl (vp_updL (fun _ => 0) 0 0))), .inl (1, .inr (.inl (fun _ => 0)))] : List ez_C)) cz kz = ev_C G 237 [.long 0] (ev_hp (ev_sI ev_I0 6 (upd (upd (ev_I0 6) 4 1) 3 1)) (ev_sJ (ev_sJ ev_J0 11 (vp_updL (vp_updL (vp_updL (ev_J0 11) 0 0) 1 0) 2 0)) 12 (vp_updL (vp_updL (vp_updL (ev_J0 12) 0 0) 1 0) 2 0)) (ev_sR (ev_sR (ev_sR (ev_sR ev_R0 0 65) 1 66) 2 67) 3 68) ([.inl (1, .inl (upd (fun _ => 0) 0 0)), .inl (1, .inr (.inl (vp_updL (fun _ => 0) 0 0))), .inl (1, .inr (.inl (vp_updL (fun _ => 0) 0 0))), .inl (1, .inr (.inl (fun _ => 0)))] : List ez_C)) fun r h1 c1 k1 => G 36 4 [.long 0, ez_fill] (r.toList ++ []) h1 (cz + c1) (kz + k1) := by
  intro G
  rfl
set_option maxRecDepth 100000 in
set_option maxHeartbeats 100000 in
theorem sp_z_58_onlyOne_r2 (X : ez_X)  (cz kz : Nat) : ∀ G : ez_F, fx_up X 4 G 36 4 [.long 0, ez_fill] [.int 0] (ev_hp (ev_sI ev_I0 6 (upd (upd (ev_I0 6) 4 1) 3 1)) (ev_sJ (ev_sJ ev_J0 11 (vp_updL (vp_updL (vp_updL (ev_J0 11) 0 0) 1 0) 2 0)) 12 (vp_updL (vp_updL (vp_updL (ev_J0 12) 0 0) 1 0) 2 0)) (ev_sR (ev_sR (ev_sR (ev_sR ev_R0 0 65) 1 66) 2 67) 3 68) ([.inl (1, .inl (upd (fun _ => 0) 0 0)), .inl (1, .inr (.inl (vp_updL (fun _ => 0) 0 0))), .inl (1, .inr (.inl (vp_updL (fun _ => 0) 0 0))), .inl (1, .inr (.inl (fun _ => 0)))] : List ez_C)) cz kz = some (some (.long 0), (ev_hp (ev_sI ev_I0 6 (upd (upd (ev_I0 6) 4 1) 3 1)) (ev_sJ (ev_sJ ev_J0 11 (vp_updL (vp_updL (vp_updL (ev_J0 11) 0 0) 1 0) 2 0)) 12 (vp_updL (vp_updL (vp_updL (ev_J0 12) 0 0) 1 0) 2 0)) (ev_sR (ev_sR (ev_sR (ev_sR ev_R0 0 65) 1 66) 2 67) 3 68) ([.inl (1, .inl (upd (fun _ => 0) 0 0)), .inl (1, .inr (.inl (vp_updL (fun _ => 0) 0 0))), .inl (1, .inr (.inl (vp_updL (fun _ => 0) 0 0))), .inl (1, .inr (.inl (fun _ => 0)))] : List ez_C)), cz, kz) := by
  intro G
  rfl
theorem sp_z_58_onlyOne (X : ez_X) : ev_W X 36 0 (ez_lay [.long 0]) [] (ev_hp (ev_sI ev_I0 6 (upd (upd (ev_I0 6) 4 1) 3 1)) (ev_sJ (ev_sJ ev_J0 11 (vp_updL (vp_updL (vp_updL (ev_J0 11) 0 0) 1 0) 2 0)) 12 (vp_updL (vp_updL (vp_updL (ev_J0 12) 0 0) 1 0) 2 0)) (ev_sR (ev_sR (ev_sR (ev_sR ev_R0 0 65) 1 66) 2 67) 3 68) ([.inl (1, .inl (upd (fun _ => 0) 0 0)), .inl (1, .inr (.inl (vp_updL (fun _ => 0) 0 0))), .inl (1, .inr (.inl (vp_updL (fun _ => 0) 0 0))), .inl (1, .inr (.inl (fun _ => 0)))] : List ez_C)) 0 0 (fun r h1 c1 k1 => r = (some (.long 0)) ∧ h1 = (ev_hp (ev_sI ev_I0 6 (upd (upd (ev_I0 6) 4 1) 3 1)) (ev_sJ (ev_sJ ev_J0 11 (vp_updL (vp_updL (vp_updL (ev_J0 11) 0 0) 1 0) 2 0)) 12 (vp_updL (vp_updL (vp_updL (ev_J0 12) 0 0) 1 0) 2 0)) (ev_sR (ev_sR (ev_sR (ev_sR ev_R0 0 65) 1 66) 2 67) 3 68) ([.inl (1, .inl (upd (fun _ => 0) 0 0)), .inl (1, .inr (.inl (vp_updL (fun _ => 0) 0 0))), .inl (1, .inr (.inl (vp_updL (fun _ => 0) 0 0))), .inl (1, .inr (.inl (fun _ => 0)))] : List ez_C)) ∧ c1 = 0 ∧ k1 = 0) := by
  refine ev_call (sp_z_58_onlyOne_r1 X  _ _) (sp_z_59_bitCount X) ?_
  rintro _ _ _ _ ⟨rfl, rfl, rfl, rfl⟩
  refine ev_ret (sp_z_58_onlyOne_r2 X  _ _) ?_
  exact ⟨rfl, rfl, rfl, rfl⟩
set_option maxRecDepth 100000 in
set_option maxHeartbeats 100000 in
theorem sp_z_60_at_r1 (X : ez_X)  (cz kz : Nat) : ∀ G : ez_F, fx_up X 11 G 4 0 [.ref 11, .int 2] [] (ev_hp (ev_sI ev_I0 6 (upd (upd (ev_I0 6) 4 1) 3 1)) (ev_sJ (ev_sJ ev_J0 11 (vp_updL (vp_updL (vp_updL (ev_J0 11) 0 0) 1 0) 2 0)) 12 (vp_updL (vp_updL (vp_updL (ev_J0 12) 0 0) 1 0) 2 0)) (ev_sR (ev_sR (ev_sR (ev_sR ev_R0 0 65) 1 66) 2 67) 3 68) ([.inl (1, .inl (upd (fun _ => 0) 0 0)), .inl (1, .inr (.inl (vp_updL (fun _ => 0) 0 0))), .inl (1, .inr (.inl (vp_updL (fun _ => 0) 0 0))), .inl (1, .inr (.inl (fun _ => 0)))] : List ez_C)) cz kz = some (some (.long 0), (ev_hp (ev_sI ev_I0 6 (upd (upd (ev_I0 6) 4 1) 3 1)) (ev_sJ (ev_sJ ev_J0 11 (vp_updL (vp_updL (vp_updL (ev_J0 11) 0 0) 1 0) 2 0)) 12 (vp_updL (vp_updL (vp_updL (ev_J0 12) 0 0) 1 0) 2 0)) (ev_sR (ev_sR (ev_sR (ev_sR ev_R0 0 65) 1 66) 2 67) 3 68) ([.inl (1, .inl (upd (fun _ => 0) 0 0)), .inl (1, .inr (.inl (vp_updL (fun _ => 0) 0 0))), .inl (1, .inr (.inl (vp_updL (fun _ => 0) 0 0))), .inl (1, .inr (.inl (fun _ => 0)))] : List ez_C)), cz, kz) := by
  intro G
  rfl
theorem sp_z_60_at (X : ez_X) : ev_W X 4 0 (ez_lay [.ref 11, .int 2]) [] (ev_hp (ev_sI ev_I0 6 (upd (upd (ev_I0 6) 4 1) 3 1)) (ev_sJ (ev_sJ ev_J0 11 (vp_updL (vp_updL (vp_updL (ev_J0 11) 0 0) 1 0) 2 0)) 12 (vp_updL (vp_updL (vp_updL (ev_J0 12) 0 0) 1 0) 2 0)) (ev_sR (ev_sR (ev_sR (ev_sR ev_R0 0 65) 1 66) 2 67) 3 68) ([.inl (1, .inl (upd (fun _ => 0) 0 0)), .inl (1, .inr (.inl (vp_updL (fun _ => 0) 0 0))), .inl (1, .inr (.inl (vp_updL (fun _ => 0) 0 0))), .inl (1, .inr (.inl (fun _ => 0)))] : List ez_C)) 0 0 (fun r h1 c1 k1 => r = (some (.long 0)) ∧ h1 = (ev_hp (ev_sI ev_I0 6 (upd (upd (ev_I0 6) 4 1) 3 1)) (ev_sJ (ev_sJ ev_J0 11 (vp_updL (vp_updL (vp_updL (ev_J0 11) 0 0) 1 0) 2 0)) 12 (vp_updL (vp_updL (vp_updL (ev_J0 12) 0 0) 1 0) 2 0)) (ev_sR (ev_sR (ev_sR (ev_sR ev_R0 0 65) 1 66) 2 67) 3 68) ([.inl (1, .inl (upd (fun _ => 0) 0 0)), .inl (1, .inr (.inl (vp_updL (fun _ => 0) 0 0))), .inl (1, .inr (.inl (vp_updL (fun _ => 0) 0 0))), .inl (1, .inr (.inl (fun _ => 0)))] : List ez_C)) ∧ c1 = 0 ∧ k1 = 0) := by
  refine ev_ret (sp_z_60_at_r1 X  _ _) ?_
  exact ⟨rfl, rfl, rfl, rfl⟩
set_option maxRecDepth 100000 in
set_option maxHeartbeats 100000 in
theorem sp_z_61_at_r1 (X : ez_X)  (cz kz : Nat) : ∀ G : ez_F, fx_up X 11 G 4 0 [.ref 12, .int 2] [] (ev_hp (ev_sI ev_I0 6 (upd (upd (ev_I0 6) 4 1) 3 1)) (ev_sJ (ev_sJ ev_J0 11 (vp_updL (vp_updL (vp_updL (ev_J0 11) 0 0) 1 0) 2 0)) 12 (vp_updL (vp_updL (vp_updL (ev_J0 12) 0 0) 1 0) 2 0)) (ev_sR (ev_sR (ev_sR (ev_sR ev_R0 0 65) 1 66) 2 67) 3 68) ([.inl (1, .inl (upd (fun _ => 0) 0 0)), .inl (1, .inr (.inl (vp_updL (fun _ => 0) 0 0))), .inl (1, .inr (.inl (vp_updL (fun _ => 0) 0 0))), .inl (1, .inr (.inl (fun _ => 0)))] : List ez_C)) cz kz = some (some (.long 0), (ev_hp (ev_sI ev_I0 6 (upd (upd (ev_I0 6) 4 1) 3 1)) (ev_sJ (ev_sJ ev_J0 11 (vp_updL (vp_updL (vp_updL (ev_J0 11) 0 0) 1 0) 2 0)) 12 (vp_updL (vp_updL (vp_updL (ev_J0 12) 0 0) 1 0) 2 0)) (ev_sR (ev_sR (ev_sR (ev_sR ev_R0 0 65) 1 66) 2 67) 3 68) ([.inl (1, .inl (upd (fun _ => 0) 0 0)), .inl (1, .inr (.inl (vp_updL (fun _ => 0) 0 0))), .inl (1, .inr (.inl (vp_updL (fun _ => 0) 0 0))), .inl (1, .inr (.inl (fun _ => 0)))] : List ez_C)), cz, kz) := by
  intro G
  rfl
theorem sp_z_61_at (X : ez_X) : ev_W X 4 0 (ez_lay [.ref 12, .int 2]) [] (ev_hp (ev_sI ev_I0 6 (upd (upd (ev_I0 6) 4 1) 3 1)) (ev_sJ (ev_sJ ev_J0 11 (vp_updL (vp_updL (vp_updL (ev_J0 11) 0 0) 1 0) 2 0)) 12 (vp_updL (vp_updL (vp_updL (ev_J0 12) 0 0) 1 0) 2 0)) (ev_sR (ev_sR (ev_sR (ev_sR ev_R0 0 65) 1 66) 2 67) 3 68) ([.inl (1, .inl (upd (fun _ => 0) 0 0)), .inl (1, .inr (.inl (vp_updL (fun _ => 0) 0 0))), .inl (1, .inr (.inl (vp_updL (fun _ => 0) 0 0))), .inl (1, .inr (.inl (fun _ => 0)))] : List ez_C)) 0 0 (fun r h1 c1 k1 => r = (some (.long 0)) ∧ h1 = (ev_hp (ev_sI ev_I0 6 (upd (upd (ev_I0 6) 4 1) 3 1)) (ev_sJ (ev_sJ ev_J0 11 (vp_updL (vp_updL (vp_updL (ev_J0 11) 0 0) 1 0) 2 0)) 12 (vp_updL (vp_updL (vp_updL (ev_J0 12) 0 0) 1 0) 2 0)) (ev_sR (ev_sR (ev_sR (ev_sR ev_R0 0 65) 1 66) 2 67) 3 68) ([.inl (1, .inl (upd (fun _ => 0) 0 0)), .inl (1, .inr (.inl (vp_updL (fun _ => 0) 0 0))), .inl (1, .inr (.inl (vp_updL (fun _ => 0) 0 0))), .inl (1, .inr (.inl (fun _ => 0)))] : List ez_C)) ∧ c1 = 0 ∧ k1 = 0) := by
  refine ev_ret (sp_z_61_at_r1 X  _ _) ?_
  exact ⟨rfl, rfl, rfl, rfl⟩
set_option maxRecDepth 100000 in
set_option maxHeartbeats 100000 in
theorem sp_z_63_bitCount_r1 (X : ez_X)  (cz kz : Nat) : ∀ G : ez_F, fx_up X 24 G 237 0 [.long 0, ez_fill] [] (ev_hp (ev_sI ev_I0 6 (upd (upd (ev_I0 6) 4 1) 3 1)) (ev_sJ (ev_sJ ev_J0 11 (vp_updL (vp_updL (vp_updL (ev_J0 11) 0 0) 1 0) 2 0)) 12 (vp_updL (vp_updL (vp_updL (ev_J0 12) 0 0) 1 0) 2 0)) (ev_sR (ev_sR (ev_sR (ev_sR ev_R0 0 65) 1 66) 2 67) 3 68) ([.inl (1, .inl (upd (fun _ => 0) 0 0)), .inl (1, .inr (.inl (vp_updL (fun _ => 0) 0 0))), .inl (1, .inr (.inl (vp_updL (fun _ => 0) 0 0))), .inl (1, .inr (.inl (fun _ => 0)))] : List ez_C)) cz kz = G 237 32 [.long 0, ez_fill] [.long 1085102592571150095, .long 0] (ev_hp (ev_sI ev_I0 6 (upd (upd (ev_I0 6) 4 1) 3 1)) (ev_sJ (ev_sJ ev_J0 11 (vp_updL (vp_updL (vp_updL (ev_J0 11) 0 0) 1 0) 2 0)) 12 (vp_updL (vp_updL (vp_updL (ev_J0 12) 0 0) 1 0) 2 0)) (ev_sR (ev_sR (ev_sR (ev_sR ev_R0 0 65) 1 66) 2 67) 3 68) ([.inl (1, .inl (upd (fun _ => 0) 0 0)), .inl (1, .inr (.inl (vp_updL (fun _ => 0) 0 0))), .inl (1, .inr (.inl (vp_updL (fun _ => 0) 0 0))), .inl (1, .inr (.inl (fun _ => 0)))] : List ez_C)) cz kz := by
  intro G
  rfl
set_option maxRecDepth 100000 in
set_option maxHeartbeats 100000 in
theorem sp_z_63_bitCount_r2 (X : ez_X)  (cz kz : Nat) : ∀ G : ez_F, fx_up X 24 G 237 32 [.long 0, ez_fill] [.long 1085102592571150095, .long 0] (ev_hp (ev_sI ev_I0 6 (upd (upd (ev_I0 6) 4 1) 3 1)) (ev_sJ (ev_sJ ev_J0 11 (vp_updL (vp_updL (vp_updL (ev_J0 11) 0 0) 1 0) 2 0)) 12 (vp_updL (vp_updL (vp_updL (ev_J0 12) 0 0) 1 0) 2 0)) (ev_sR (ev_sR (ev_sR (ev_sR ev_R0 0 65) 1 66) 2 67) 3 68) ([.inl (1, .inl (upd (fun _ => 0) 0 0)), .inl (1, .inr (.inl (vp_updL (fun _ => 0) 0 0))), .inl (1, .inr (.inl (vp_updL (fun _ => 0) 0 0))), .inl (1, .inr (.inl (fun _ => 0)))] : List ez_C)) cz kz = G 237 60 [.long 0, ez_fill] [.int 0] (ev_hp (ev_sI ev_I0 6 (upd (upd (ev_I0 6) 4 1) 3 1)) (ev_sJ (ev_sJ ev_J0 11 (vp_updL (vp_updL (vp_updL (ev_J0 11) 0 0) 1 0) 2 0)) 12 (vp_updL (vp_updL (vp_updL (ev_J0 12) 0 0) 1 0) 2 0)) (ev_sR (ev_sR (ev_sR (ev_sR ev_R0 0 65) 1 66) 2 67) 3 68) ([.inl (1, .inl (upd (fun _ => 0) 0 0)), .inl (1, .inr (.inl (vp_updL (fun _ => 0) 0 0))), .inl (1, .inr (.inl (vp_updL (fun _ => 0) 0 0))), .inl (1, .inr (.inl (fun _ => 0)))] : List ez_C)) cz kz := by
  intro G
  rfl
set_option maxRecDepth 100000 in
set_option maxHeartbeats 100000 in
theorem sp_z_63_bitCount_r3 (X : ez_X)  (cz kz : Nat) : ∀ G : ez_F, fx_up X 1 G 237 60 [.long 0, ez_fill] [.int 0] (ev_hp (ev_sI ev_I0 6 (upd (upd (ev_I0 6) 4 1) 3 1)) (ev_sJ (ev_sJ ev_J0 11 (vp_updL (vp_updL (vp_updL (ev_J0 11) 0 0) 1 0) 2 0)) 12 (vp_updL (vp_updL (vp_updL (ev_J0 12) 0 0) 1 0) 2 0)) (ev_sR (ev_sR (ev_sR (ev_sR ev_R0 0 65) 1 66) 2 67) 3 68) ([.inl (1, .inl (upd (fun _ => 0) 0 0)), .inl (1, .inr (.inl (vp_updL (fun _ => 0) 0 0))), .inl (1, .inr (.inl (vp_updL (fun _ => 0) 0 0))), .inl (1, .inr (.inl (fun _ => 0)))] : List ez_C)) cz kz = some (some (.int 0), (ev_hp (ev_sI ev_I0 6 (upd (upd (ev_I0 6) 4 1) 3 1)) (ev_sJ (ev_sJ ev_J0 11 (vp_updL (vp_updL (vp_updL (ev_J0 11) 0 0) 1 0) 2 0)) 12 (vp_updL (vp_updL (vp_updL (ev_J0 12) 0 0) 1 0) 2 0)) (ev_sR (ev_sR (ev_sR (ev_sR ev_R0 0 65) 1 66) 2 67) 3 68) ([.inl (1, .inl (upd (fun _ => 0) 0 0)), .inl (1, .inr (.inl (vp_updL (fun _ => 0) 0 0))), .inl (1, .inr (.inl (vp_updL (fun _ => 0) 0 0))), .inl (1, .inr (.inl (fun _ => 0)))] : List ez_C)), cz, kz) := by
  intro G
  rfl
theorem sp_z_63_bitCount (X : ez_X) : ev_W X 237 0 (ez_lay [.long 0]) [] (ev_hp (ev_sI ev_I0 6 (upd (upd (ev_I0 6) 4 1) 3 1)) (ev_sJ (ev_sJ ev_J0 11 (vp_updL (vp_updL (vp_updL (ev_J0 11) 0 0) 1 0) 2 0)) 12 (vp_updL (vp_updL (vp_updL (ev_J0 12) 0 0) 1 0) 2 0)) (ev_sR (ev_sR (ev_sR (ev_sR ev_R0 0 65) 1 66) 2 67) 3 68) ([.inl (1, .inl (upd (fun _ => 0) 0 0)), .inl (1, .inr (.inl (vp_updL (fun _ => 0) 0 0))), .inl (1, .inr (.inl (vp_updL (fun _ => 0) 0 0))), .inl (1, .inr (.inl (fun _ => 0)))] : List ez_C)) 0 0 (fun r h1 c1 k1 => r = (some (.int 0)) ∧ h1 = (ev_hp (ev_sI ev_I0 6 (upd (upd (ev_I0 6) 4 1) 3 1)) (ev_sJ (ev_sJ ev_J0 11 (vp_updL (vp_updL (vp_updL (ev_J0 11) 0 0) 1 0) 2 0)) 12 (vp_updL (vp_updL (vp_updL (ev_J0 12) 0 0) 1 0) 2 0)) (ev_sR (ev_sR (ev_sR (ev_sR ev_R0 0 65) 1 66) 2 67) 3 68) ([.inl (1, .inl (upd (fun _ => 0) 0 0)), .inl (1, .inr (.inl (vp_updL (fun _ => 0) 0 0))), .inl (1, .inr (.inl (vp_updL (fun _ => 0) 0 0))), .inl (1, .inr (.inl (fun _ => 0)))] : List ez_C)) ∧ c1 = 0 ∧ k1 = 0) := by
  refine ev_seg (sp_z_63_bitCount_r1 X  _ _) ?_
  refine ev_seg (sp_z_63_bitCount_r2 X  _ _) ?_
  refine ev_ret (sp_z_63_bitCount_r3 X  _ _) ?_
  exact ⟨rfl, rfl, rfl, rfl⟩
set_option maxRecDepth 100000 in
set_option maxHeartbeats 100000 in
theorem sp_z_62_onlyOne_r1 (X : ez_X)  (cz kz : Nat) : ∀ G : ez_F, fx_up X 2 G 36 0 [.long 0, ez_fill] [] (ev_hp (ev_sI ev_I0 6 (upd (upd (ev_I0 6) 4 1) 3 1)) (ev_sJ (ev_sJ ev_J0 11 (vp_updL (vp_updL (vp_updL (ev_J0 11) 0 0) 1 0) 2 0)) 12 (vp_updL (vp_updL (vp_updL (ev_J0 12) 0 0) 1 0) 2 0)) (ev_sR (ev_sR (ev_sR (ev_sR ev_R0 0 65) 1 66) 2 67) 3 68) ([.inl (1, .inl (upd (fun _ => 0) 0 0)), .inl (1, .inr (.inl (vp_updL (fun _ => 0) 0 0))), .inl (1, .inr (.inl (vp_updL (fun _ => 0) 0 0))), .inl (1, .inr (.inl (fun _ => 0)))] : List ez_C)) cz kz = ev_C G 237 [.long 0] (ev_hp (ev_sI ev_I0 6 (upd (upd (ev_I0 6) 4 1) 3 1)) (ev_sJ (ev_sJ ev_J0 11 (vp_updL (vp_updL (vp_updL (ev_J0 11) 0 0) 1 0) 2 0)) 12 (vp_updL (vp_updL (vp_updL (ev_J0 12) 0 0) 1 0) 2 0)) (ev_sR (ev_sR (ev_sR (ev_sR ev_R0 0 65) 1 66) 2 67) 3 68) ([.inl (1, .inl (upd (fun _ => 0) 0 0)), .inl (1, .inr (.inl (vp_updL (fun _ => 0) 0 0))), .inl (1, .inr (.inl (vp_updL (fun _ => 0) 0 0))), .inl (1, .inr (.inl (fun _ => 0)))] : List ez_C)) fun r h1 c1 k1 => G 36 4 [.long 0, ez_fill] (r.toList ++ []) h1 (cz + c1) (kz + k1) := by
  intro G
  rfl
set_option maxRecDepth 100000 in
set_option maxHeartbeats 100000 in
theorem sp_z_62_onlyOne_r2 (X : ez_X)  (cz kz : Nat) : ∀ G : ez_F, fx_up X 4 G 36 4 [.long 0, ez_fill] [.int 0] (ev_hp (ev_sI ev_I0 6 (upd (upd (ev_I0 6) 4 1) 3 1)) (ev_sJ (ev_sJ ev_J0 11 (vp_updL (vp_updL (vp_updL (ev_J0 11) 0 0) 1 0) 2 0)) 12 (vp_updL (vp_updL (vp_updL (ev_J0 12) 0 0) 1 0) 2 0)) (ev_sR (ev_sR (ev_sR (ev_sR ev_R0 0 65) 1 66) 2 67) 3 68) ([.inl (1, .inl (upd (fun _ => 0) 0 0)), .inl (1, .inr (.inl (vp_updL (fun _ => 0) 0 0))), .inl (1, .inr (.inl (vp_updL (fun _ => 0) 0 0))), .inl (1, .inr (.inl (fun _ => 0)))] : List ez_C)) cz kz = some (some (.long 0), (ev_hp (ev_sI ev_I0 6 (upd (upd (ev_I0 6) 4 1) 3 1)) (ev_sJ (ev_sJ ev_J0 11 (vp_updL (vp_updL (vp_updL (ev_J0 11) 0 0) 1 0) 2 0)) 12 (vp_updL (vp_updL (vp_updL (ev_J0 12) 0 0) 1 0) 2 0)) (ev_sR (ev_sR (ev_sR (ev_sR ev_R0 0 65) 1 66) 2 67) 3 68) ([.inl (1, .inl (upd (fun _ => 0) 0 0)), .inl (1, .inr (.inl (vp_updL (fun _ => 0) 0 0))), .inl (1, .inr (.inl (vp_updL (fun _ => 0) 0 0))), .inl (1, .inr (.inl (fun _ => 0)))] : List ez_C)), cz, kz) := by
  intro G
  rfl
theorem sp_z_62_onlyOne (X : ez_X) : ev_W X 36 0 (ez_lay [.long 0]) [] (ev_hp (ev_sI ev_I0 6 (upd (upd (ev_I0 6) 4 1) 3 1)) (ev_sJ (ev_sJ ev_J0 11 (vp_updL (vp_updL (vp_updL (ev_J0 11) 0 0) 1 0) 2 0)) 12 (vp_updL (vp_updL (vp_updL (ev_J0 12) 0 0) 1 0) 2 0)) (ev_sR (ev_sR (ev_sR (ev_sR ev_R0 0 65) 1 66) 2 67) 3 68) ([.inl (1, .inl (upd (fun _ => 0) 0 0)), .inl (1, .inr (.inl (vp_updL (fun _ => 0) 0 0))), .inl (1, .inr (.inl (vp_updL (fun _ => 0) 0 0))), .inl (1, .inr (.inl (fun _ => 0)))] : List ez_C)) 0 0 (fun r h1 c1 k1 => r = (some (.long 0)) ∧ h1 = (ev_hp (ev_sI ev_I0 6 (upd (upd (ev_I0 6) 4 1) 3 1)) (ev_sJ (ev_sJ ev_J0 11 (vp_updL (vp_updL (vp_updL (ev_J0 11) 0 0) 1 0) 2 0)) 12 (vp_updL (vp_updL (vp_updL (ev_J0 12) 0 0) 1 0) 2 0)) (ev_sR (ev_sR (ev_sR (ev_sR ev_R0 0 65) 1 66) 2 67) 3 68) ([.inl (1, .inl (upd (fun _ => 0) 0 0)), .inl (1, .inr (.inl (vp_updL (fun _ => 0) 0 0))), .inl (1, .inr (.inl (vp_updL (fun _ => 0) 0 0))), .inl (1, .inr (.inl (fun _ => 0)))] : List ez_C)) ∧ c1 = 0 ∧ k1 = 0) := by
  refine ev_call (sp_z_62_onlyOne_r1 X  _ _) (sp_z_63_bitCount X) ?_
  rintro _ _ _ _ ⟨rfl, rfl, rfl, rfl⟩
  refine ev_ret (sp_z_62_onlyOne_r2 X  _ _) ?_
  exact ⟨rfl, rfl, rfl, rfl⟩
set_option maxRecDepth 100000 in
set_option maxHeartbeats 100000 in
theorem sp_z_51_sinkingCells_r1 (X : ez_X)  (cz kz : Nat) : ∀ G : ez_F, fx_up X 12 G 134 0 [.ref 10] [] (ev_hp (ev_sI ev_I0 6 (upd (upd (ev_I0 6) 4 1) 3 1)) (ev_sJ (ev_sJ ev_J0 11 (vp_updL (vp_updL (vp_updL (ev_J0 11) 0 0) 1 0) 2 0)) 12 (vp_updL (vp_updL (vp_updL (ev_J0 12) 0 0) 1 0) 2 0)) (ev_sR (ev_sR (ev_sR (ev_sR ev_R0 0 65) 1 66) 2 67) 3 68) ([.inl (1, .inl (upd (fun _ => 0) 0 0)), .inl (1, .inr (.inl (vp_updL (fun _ => 0) 0 0))), .inl (1, .inr (.inl (vp_updL (fun _ => 0) 0 0))), .inl (1, .inr (.inl (fun _ => 0)))] : List ez_C)) cz kz = ev_C G 4 [.ref 11, .int 0] (ev_hp (ev_sI ev_I0 6 (upd (upd (ev_I0 6) 4 1) 3 1)) (ev_sJ (ev_sJ ev_J0 11 (vp_updL (vp_updL (vp_updL (ev_J0 11) 0 0) 1 0) 2 0)) 12 (vp_updL (vp_updL (vp_updL (ev_J0 12) 0 0) 1 0) 2 0)) (ev_sR (ev_sR (ev_sR (ev_sR ev_R0 0 65) 1 66) 2 67) 3 68) ([.inl (1, .inl (upd (fun _ => 0) 0 0)), .inl (1, .inr (.inl (vp_updL (fun _ => 0) 0 0))), .inl (1, .inr (.inl (vp_updL (fun _ => 0) 0 0))), .inl (1, .inr (.inl (fun _ => 0)))] : List ez_C)) fun r h1 c1 k1 => G 134 18 [.ref 10, .long 0, ez_fill, .int 0] (r.toList ++ [.long 0]) h1 (cz + c1) (kz + k1) := by
  intro G
  rfl
set_option maxRecDepth 100000 in
set_option maxHeartbeats 100000 in
theorem sp_z_51_sinkingCells_r2 (X : ez_X)  (cz kz : Nat) : ∀ G : ez_F, fx_up X 4 G 134 18 [.ref 10, .long 0, ez_fill, .int 0] [.long 0, .long 0] (ev_hp (ev_sI ev_I0 6 (upd (upd (ev_I0 6) 4 1) 3 1)) (ev_sJ (ev_sJ ev_J0 11 (vp_updL (vp_updL (vp_updL (ev_J0 11) 0 0) 1 0) 2 0)) 12 (vp_updL (vp_updL (vp_updL (ev_J0 12) 0 0) 1 0) 2 0)) (ev_sR (ev_sR (ev_sR (ev_sR ev_R0 0 65) 1 66) 2 67) 3 68) ([.inl (1, .inl (upd (fun _ => 0) 0 0)), .inl (1, .inr (.inl (vp_updL (fun _ => 0) 0 0))), .inl (1, .inr (.inl (vp_updL (fun _ => 0) 0 0))), .inl (1, .inr (.inl (fun _ => 0)))] : List ez_C)) cz kz = ev_C G 4 [.ref 12, .int 0] (ev_hp (ev_sI ev_I0 6 (upd (upd (ev_I0 6) 4 1) 3 1)) (ev_sJ (ev_sJ ev_J0 11 (vp_updL (vp_updL (vp_updL (ev_J0 11) 0 0) 1 0) 2 0)) 12 (vp_updL (vp_updL (vp_updL (ev_J0 12) 0 0) 1 0) 2 0)) (ev_sR (ev_sR (ev_sR (ev_sR ev_R0 0 65) 1 66) 2 67) 3 68) ([.inl (1, .inl (upd (fun _ => 0) 0 0)), .inl (1, .inr (.inl (vp_updL (fun _ => 0) 0 0))), .inl (1, .inr (.inl (vp_updL (fun _ => 0) 0 0))), .inl (1, .inr (.inl (fun _ => 0)))] : List ez_C)) fun r h1 c1 k1 => G 134 26 [.ref 10, .long 0, ez_fill, .int 0] (r.toList ++ [.long 0, .long 0]) h1 (cz + c1) (kz + k1) := by
  intro G
  rfl
set_option maxRecDepth 100000 in
set_option maxHeartbeats 100000 in
theorem sp_z_51_sinkingCells_r3 (X : ez_X)  (cz kz : Nat) : ∀ G : ez_F, fx_up X 4 G 134 26 [.ref 10, .long 0, ez_fill, .int 0] [.long 0, .long 0, .long 0] (ev_hp (ev_sI ev_I0 6 (upd (upd (ev_I0 6) 4 1) 3 1)) (ev_sJ (ev_sJ ev_J0 11 (vp_updL (vp_updL (vp_updL (ev_J0 11) 0 0) 1 0) 2 0)) 12 (vp_updL (vp_updL (vp_updL (ev_J0 12) 0 0) 1 0) 2 0)) (ev_sR (ev_sR (ev_sR (ev_sR ev_R0 0 65) 1 66) 2 67) 3 68) ([.inl (1, .inl (upd (fun _ => 0) 0 0)), .inl (1, .inr (.inl (vp_updL (fun _ => 0) 0 0))), .inl (1, .inr (.inl (vp_updL (fun _ => 0) 0 0))), .inl (1, .inr (.inl (fun _ => 0)))] : List ez_C)) cz kz = ev_C G 36 [.long 0] (ev_hp (ev_sI ev_I0 6 (upd (upd (ev_I0 6) 4 1) 3 1)) (ev_sJ (ev_sJ ev_J0 11 (vp_updL (vp_updL (vp_updL (ev_J0 11) 0 0) 1 0) 2 0)) 12 (vp_updL (vp_updL (vp_updL (ev_J0 12) 0 0) 1 0) 2 0)) (ev_sR (ev_sR (ev_sR (ev_sR ev_R0 0 65) 1 66) 2 67) 3 68) ([.inl (1, .inl (upd (fun _ => 0) 0 0)), .inl (1, .inr (.inl (vp_updL (fun _ => 0) 0 0))), .inl (1, .inr (.inl (vp_updL (fun _ => 0) 0 0))), .inl (1, .inr (.inl (fun _ => 0)))] : List ez_C)) fun r h1 c1 k1 => G 134 34 [.ref 10, .long 0, ez_fill, .int 0] (r.toList ++ [.long 0]) h1 (cz + c1) (kz + k1) := by
  intro G
  rfl
set_option maxRecDepth 100000 in
set_option maxHeartbeats 100000 in
theorem sp_z_51_sinkingCells_r4 (X : ez_X)  (cz kz : Nat) : ∀ G : ez_F, fx_up X 12 G 134 34 [.ref 10, .long 0, ez_fill, .int 0] [.long 0, .long 0] (ev_hp (ev_sI ev_I0 6 (upd (upd (ev_I0 6) 4 1) 3 1)) (ev_sJ (ev_sJ ev_J0 11 (vp_updL (vp_updL (vp_updL (ev_J0 11) 0 0) 1 0) 2 0)) 12 (vp_updL (vp_updL (vp_updL (ev_J0 12) 0 0) 1 0) 2 0)) (ev_sR (ev_sR (ev_sR (ev_sR ev_R0 0 65) 1 66) 2 67) 3 68) ([.inl (1, .inl (upd (fun _ => 0) 0 0)), .inl (1, .inr (.inl (vp_updL (fun _ => 0) 0 0))), .inl (1, .inr (.inl (vp_updL (fun _ => 0) 0 0))), .inl (1, .inr (.inl (fun _ => 0)))] : List ez_C)) cz kz = ev_C G 4 [.ref 11, .int 1] (ev_hp (ev_sI ev_I0 6 (upd (upd (ev_I0 6) 4 1) 3 1)) (ev_sJ (ev_sJ ev_J0 11 (vp_updL (vp_updL (vp_updL (ev_J0 11) 0 0) 1 0) 2 0)) 12 (vp_updL (vp_updL (vp_updL (ev_J0 12) 0 0) 1 0) 2 0)) (ev_sR (ev_sR (ev_sR (ev_sR ev_R0 0 65) 1 66) 2 67) 3 68) ([.inl (1, .inl (upd (fun _ => 0) 0 0)), .inl (1, .inr (.inl (vp_updL (fun _ => 0) 0 0))), .inl (1, .inr (.inl (vp_updL (fun _ => 0) 0 0))), .inl (1, .inr (.inl (fun _ => 0)))] : List ez_C)) fun r h1 c1 k1 => G 134 18 [.ref 10, .long 0, ez_fill, .int 1] (r.toList ++ [.long 0]) h1 (cz + c1) (kz + k1) := by
  intro G
  rfl
set_option maxRecDepth 100000 in
set_option maxHeartbeats 100000 in
theorem sp_z_51_sinkingCells_r5 (X : ez_X)  (cz kz : Nat) : ∀ G : ez_F, fx_up X 4 G 134 18 [.ref 10, .long 0, ez_fill, .int 1] [.long 0, .long 0] (ev_hp (ev_sI ev_I0 6 (upd (upd (ev_I0 6) 4 1) 3 1)) (ev_sJ (ev_sJ ev_J0 11 (vp_updL (vp_updL (vp_updL (ev_J0 11) 0 0) 1 0) 2 0)) 12 (vp_updL (vp_updL (vp_updL (ev_J0 12) 0 0) 1 0) 2 0)) (ev_sR (ev_sR (ev_sR (ev_sR ev_R0 0 65) 1 66) 2 67) 3 68) ([.inl (1, .inl (upd (fun _ => 0) 0 0)), .inl (1, .inr (.inl (vp_updL (fun _ => 0) 0 0))), .inl (1, .inr (.inl (vp_updL (fun _ => 0) 0 0))), .inl (1, .inr (.inl (fun _ => 0)))] : List ez_C)) cz kz = ev_C G 4 [.ref 12, .int 1] (ev_hp (ev_sI ev_I0 6 (upd (upd (ev_I0 6) 4 1) 3 1)) (ev_sJ (ev_sJ ev_J0 11 (vp_updL (vp_updL (vp_updL (ev_J0 11) 0 0) 1 0) 2 0)) 12 (vp_updL (vp_updL (vp_updL (ev_J0 12) 0 0) 1 0) 2 0)) (ev_sR (ev_sR (ev_sR (ev_sR ev_R0 0 65) 1 66) 2 67) 3 68) ([.inl (1, .inl (upd (fun _ => 0) 0 0)), .inl (1, .inr (.inl (vp_updL (fun _ => 0) 0 0))), .inl (1, .inr (.inl (vp_updL (fun _ => 0) 0 0))), .inl (1, .inr (.inl (fun _ => 0)))] : List ez_C)) fun r h1 c1 k1 => G 134 26 [.ref 10, .long 0, ez_fill, .int 1] (r.toList ++ [.long 0, .long 0]) h1 (cz + c1) (kz + k1) := by
  intro G
  rfl
set_option maxRecDepth 100000 in
set_option maxHeartbeats 100000 in
theorem sp_z_51_sinkingCells_r6 (X : ez_X)  (cz kz : Nat) : ∀ G : ez_F, fx_up X 4 G 134 26 [.ref 10, .long 0, ez_fill, .int 1] [.long 0, .long 0, .long 0] (ev_hp (ev_sI ev_I0 6 (upd (upd (ev_I0 6) 4 1) 3 1)) (ev_sJ (ev_sJ ev_J0 11 (vp_updL (vp_updL (vp_updL (ev_J0 11) 0 0) 1 0) 2 0)) 12 (vp_updL (vp_updL (vp_updL (ev_J0 12) 0 0) 1 0) 2 0)) (ev_sR (ev_sR (ev_sR (ev_sR ev_R0 0 65) 1 66) 2 67) 3 68) ([.inl (1, .inl (upd (fun _ => 0) 0 0)), .inl (1, .inr (.inl (vp_updL (fun _ => 0) 0 0))), .inl (1, .inr (.inl (vp_updL (fun _ => 0) 0 0))), .inl (1, .inr (.inl (fun _ => 0)))] : List ez_C)) cz kz = ev_C G 36 [.long 0] (ev_hp (ev_sI ev_I0 6 (upd (upd (ev_I0 6) 4 1) 3 1)) (ev_sJ (ev_sJ ev_J0 11 (vp_updL (vp_updL (vp_updL (ev_J0 11) 0 0) 1 0) 2 0)) 12 (vp_updL (vp_updL (vp_updL (ev_J0 12) 0 0) 1 0) 2 0)) (ev_sR (ev_sR (ev_sR (ev_sR ev_R0 0 65) 1 66) 2 67) 3 68) ([.inl (1, .inl (upd (fun _ => 0) 0 0)), .inl (1, .inr (.inl (vp_updL (fun _ => 0) 0 0))), .inl (1, .inr (.inl (vp_updL (fun _ => 0) 0 0))), .inl (1, .inr (.inl (fun _ => 0)))] : List ez_C)) fun r h1 c1 k1 => G 134 34 [.ref 10, .long 0, ez_fill, .int 1] (r.toList ++ [.long 0]) h1 (cz + c1) (kz + k1) := by
  intro G
  rfl
set_option maxRecDepth 100000 in
set_option maxHeartbeats 100000 in
theorem sp_z_51_sinkingCells_r7 (X : ez_X)  (cz kz : Nat) : ∀ G : ez_F, fx_up X 12 G 134 34 [.ref 10, .long 0, ez_fill, .int 1] [.long 0, .long 0] (ev_hp (ev_sI ev_I0 6 (upd (upd (ev_I0 6) 4 1) 3 1)) (ev_sJ (ev_sJ ev_J0 11 (vp_updL (vp_updL (vp_updL (ev_J0 11) 0 0) 1 0) 2 0)) 12 (vp_updL (vp_updL (vp_updL (ev_J0 12) 0 0) 1 0) 2 0)) (ev_sR (ev_sR (ev_sR (ev_sR ev_R0 0 65) 1 66) 2 67) 3 68) ([.inl (1, .inl (upd (fun _ => 0) 0 0)), .inl (1, .inr (.inl (vp_updL (fun _ => 0) 0 0))), .inl (1, .inr (.inl (vp_updL (fun _ => 0) 0 0))), .inl (1, .inr (.inl (fun _ => 0)))] : List ez_C)) cz kz = ev_C G 4 [.ref 11, .int 2] (ev_hp (ev_sI ev_I0 6 (upd (upd (ev_I0 6) 4 1) 3 1)) (ev_sJ (ev_sJ ev_J0 11 (vp_updL (vp_updL (vp_updL (ev_J0 11) 0 0) 1 0) 2 0)) 12 (vp_updL (vp_updL (vp_updL (ev_J0 12) 0 0) 1 0) 2 0)) (ev_sR (ev_sR (ev_sR (ev_sR ev_R0 0 65) 1 66) 2 67) 3 68) ([.inl (1, .inl (upd (fun _ => 0) 0 0)), .inl (1, .inr (.inl (vp_updL (fun _ => 0) 0 0))), .inl (1, .inr (.inl (vp_updL (fun _ => 0) 0 0))), .inl (1, .inr (.inl (fun _ => 0)))] : List ez_C)) fun r h1 c1 k1 => G 134 18 [.ref 10, .long 0, ez_fill, .int 2] (r.toList ++ [.long 0]) h1 (cz + c1) (kz + k1) := by
  intro G
  rfl
set_option maxRecDepth 100000 in
set_option maxHeartbeats 100000 in
theorem sp_z_51_sinkingCells_r8 (X : ez_X)  (cz kz : Nat) : ∀ G : ez_F, fx_up X 4 G 134 18 [.ref 10, .long 0, ez_fill, .int 2] [.long 0, .long 0] (ev_hp (ev_sI ev_I0 6 (upd (upd (ev_I0 6) 4 1) 3 1)) (ev_sJ (ev_sJ ev_J0 11 (vp_updL (vp_updL (vp_updL (ev_J0 11) 0 0) 1 0) 2 0)) 12 (vp_updL (vp_updL (vp_updL (ev_J0 12) 0 0) 1 0) 2 0)) (ev_sR (ev_sR (ev_sR (ev_sR ev_R0 0 65) 1 66) 2 67) 3 68) ([.inl (1, .inl (upd (fun _ => 0) 0 0)), .inl (1, .inr (.inl (vp_updL (fun _ => 0) 0 0))), .inl (1, .inr (.inl (vp_updL (fun _ => 0) 0 0))), .inl (1, .inr (.inl (fun _ => 0)))] : List ez_C)) cz kz = ev_C G 4 [.ref 12, .int 2] (ev_hp (ev_sI ev_I0 6 (upd (upd (ev_I0 6) 4 1) 3 1)) (ev_sJ (ev_sJ ev_J0 11 (vp_updL (vp_updL (vp_updL (ev_J0 11) 0 0) 1 0) 2 0)) 12 (vp_updL (vp_updL (vp_updL (ev_J0 12) 0 0) 1 0) 2 0)) (ev_sR (ev_sR (ev_sR (ev_sR ev_R0 0 65) 1 66) 2 67) 3 68) ([.inl (1, .inl (upd (fun _ => 0) 0 0)), .inl (1, .inr (.inl (vp_updL (fun _ => 0) 0 0))), .inl (1, .inr (.inl (vp_updL (fun _ => 0) 0 0))), .inl (1, .inr (.inl (fun _ => 0)))] : List ez_C)) fun r h1 c1 k1 => G 134 26 [.ref 10, .long 0, ez_fill, .int 2] (r.toList ++ [.long 0, .long 0]) h1 (cz + c1) (kz + k1) := by
  intro G
  rfl
set_option maxRecDepth 100000 in
set_option maxHeartbeats 100000 in
theorem sp_z_51_sinkingCells_r9 (X : ez_X)  (cz kz : Nat) : ∀ G : ez_F, fx_up X 4 G 134 26 [.ref 10, .long 0, ez_fill, .int 2] [.long 0, .long 0, .long 0] (ev_hp (ev_sI ev_I0 6 (upd (upd (ev_I0 6) 4 1) 3 1)) (ev_sJ (ev_sJ ev_J0 11 (vp_updL (vp_updL (vp_updL (ev_J0 11) 0 0) 1 0) 2 0)) 12 (vp_updL (vp_updL (vp_updL (ev_J0 12) 0 0) 1 0) 2 0)) (ev_sR (ev_sR (ev_sR (ev_sR ev_R0 0 65) 1 66) 2 67) 3 68) ([.inl (1, .inl (upd (fun _ => 0) 0 0)), .inl (1, .inr (.inl (vp_updL (fun _ => 0) 0 0))), .inl (1, .inr (.inl (vp_updL (fun _ => 0) 0 0))), .inl (1, .inr (.inl (fun _ => 0)))] : List ez_C)) cz kz = ev_C G 36 [.long 0] (ev_hp (ev_sI ev_I0 6 (upd (upd (ev_I0 6) 4 1) 3 1)) (ev_sJ (ev_sJ ev_J0 11 (vp_updL (vp_updL (vp_updL (ev_J0 11) 0 0) 1 0) 2 0)) 12 (vp_updL (vp_updL (vp_updL (ev_J0 12) 0 0) 1 0) 2 0)) (ev_sR (ev_sR (ev_sR (ev_sR ev_R0 0 65) 1 66) 2 67) 3 68) ([.inl (1, .inl (upd (fun _ => 0) 0 0)), .inl (1, .inr (.inl (vp_updL (fun _ => 0) 0 0))), .inl (1, .inr (.inl (vp_updL (fun _ => 0) 0 0))), .inl (1, .inr (.inl (fun _ => 0)))] : List ez_C)) fun r h1 c1 k1 => G 134 34 [.ref 10, .long 0, ez_fill, .int 2] (r.toList ++ [.long 0]) h1 (cz + c1) (kz + k1) := by
  intro G
  rfl
set_option maxRecDepth 100000 in
set_option maxHeartbeats 100000 in
theorem sp_z_51_sinkingCells_r10 (X : ez_X)  (cz kz : Nat) : ∀ G : ez_F, fx_up X 9 G 134 34 [.ref 10, .long 0, ez_fill, .int 2] [.long 0, .long 0] (ev_hp (ev_sI ev_I0 6 (upd (upd (ev_I0 6) 4 1) 3 1)) (ev_sJ (ev_sJ ev_J0 11 (vp_updL (vp_updL (vp_updL (ev_J0 11) 0 0) 1 0) 2 0)) 12 (vp_updL (vp_updL (vp_updL (ev_J0 12) 0 0) 1 0) 2 0)) (ev_sR (ev_sR (ev_sR (ev_sR ev_R0 0 65) 1 66) 2 67) 3 68) ([.inl (1, .inl (upd (fun _ => 0) 0 0)), .inl (1, .inr (.inl (vp_updL (fun _ => 0) 0 0))), .inl (1, .inr (.inl (vp_updL (fun _ => 0) 0 0))), .inl (1, .inr (.inl (fun _ => 0)))] : List ez_C)) cz kz = some (some (.long 0), (ev_hp (ev_sI ev_I0 6 (upd (upd (ev_I0 6) 4 1) 3 1)) (ev_sJ (ev_sJ ev_J0 11 (vp_updL (vp_updL (vp_updL (ev_J0 11) 0 0) 1 0) 2 0)) 12 (vp_updL (vp_updL (vp_updL (ev_J0 12) 0 0) 1 0) 2 0)) (ev_sR (ev_sR (ev_sR (ev_sR ev_R0 0 65) 1 66) 2 67) 3 68) ([.inl (1, .inl (upd (fun _ => 0) 0 0)), .inl (1, .inr (.inl (vp_updL (fun _ => 0) 0 0))), .inl (1, .inr (.inl (vp_updL (fun _ => 0) 0 0))), .inl (1, .inr (.inl (fun _ => 0)))] : List ez_C)), cz, kz) := by
  intro G
  rfl
theorem sp_z_51_sinkingCells (X : ez_X) : ev_W X 134 0 (ez_lay [.ref 10]) [] (ev_hp (ev_sI ev_I0 6 (upd (upd (ev_I0 6) 4 1) 3 1)) (ev_sJ (ev_sJ ev_J0 11 (vp_updL (vp_updL (vp_updL (ev_J0 11) 0 0) 1 0) 2 0)) 12 (vp_updL (vp_updL (vp_updL (ev_J0 12) 0 0) 1 0) 2 0)) (ev_sR (ev_sR (ev_sR (ev_sR ev_R0 0 65) 1 66) 2 67) 3 68) ([.inl (1, .inl (upd (fun _ => 0) 0 0)), .inl (1, .inr (.inl (vp_updL (fun _ => 0) 0 0))), .inl (1, .inr (.inl (vp_updL (fun _ => 0) 0 0))), .inl (1, .inr (.inl (fun _ => 0)))] : List ez_C)) 0 0 (fun r h1 c1 k1 => r = (some (.long 0)) ∧ h1 = (ev_hp (ev_sI ev_I0 6 (upd (upd (ev_I0 6) 4 1) 3 1)) (ev_sJ (ev_sJ ev_J0 11 (vp_updL (vp_updL (vp_updL (ev_J0 11) 0 0) 1 0) 2 0)) 12 (vp_updL (vp_updL (vp_updL (ev_J0 12) 0 0) 1 0) 2 0)) (ev_sR (ev_sR (ev_sR (ev_sR ev_R0 0 65) 1 66) 2 67) 3 68) ([.inl (1, .inl (upd (fun _ => 0) 0 0)), .inl (1, .inr (.inl (vp_updL (fun _ => 0) 0 0))), .inl (1, .inr (.inl (vp_updL (fun _ => 0) 0 0))), .inl (1, .inr (.inl (fun _ => 0)))] : List ez_C)) ∧ c1 = 0 ∧ k1 = 0) := by
  refine ev_call (sp_z_51_sinkingCells_r1 X  _ _) (sp_z_52_at X) ?_
  rintro _ _ _ _ ⟨rfl, rfl, rfl, rfl⟩
  refine ev_call (sp_z_51_sinkingCells_r2 X  _ _) (sp_z_53_at X) ?_
  rintro _ _ _ _ ⟨rfl, rfl, rfl, rfl⟩
  refine ev_call (sp_z_51_sinkingCells_r3 X  _ _) (sp_z_54_onlyOne X) ?_
  rintro _ _ _ _ ⟨rfl, rfl, rfl, rfl⟩
  refine ev_call (sp_z_51_sinkingCells_r4 X  _ _) (sp_z_56_at X) ?_
  rintro _ _ _ _ ⟨rfl, rfl, rfl, rfl⟩
  refine ev_call (sp_z_51_sinkingCells_r5 X  _ _) (sp_z_57_at X) ?_
  rintro _ _ _ _ ⟨rfl, rfl, rfl, rfl⟩
  refine ev_call (sp_z_51_sinkingCells_r6 X  _ _) (sp_z_58_onlyOne X) ?_
  rintro _ _ _ _ ⟨rfl, rfl, rfl, rfl⟩
  refine ev_call (sp_z_51_sinkingCells_r7 X  _ _) (sp_z_60_at X) ?_
  rintro _ _ _ _ ⟨rfl, rfl, rfl, rfl⟩
  refine ev_call (sp_z_51_sinkingCells_r8 X  _ _) (sp_z_61_at X) ?_
  rintro _ _ _ _ ⟨rfl, rfl, rfl, rfl⟩
  refine ev_call (sp_z_51_sinkingCells_r9 X  _ _) (sp_z_62_onlyOne X) ?_
  rintro _ _ _ _ ⟨rfl, rfl, rfl, rfl⟩
  refine ev_ret (sp_z_51_sinkingCells_r10 X  _ _) ?_
  exact ⟨rfl, rfl, rfl, rfl⟩
set_option maxRecDepth 100000 in
set_option maxHeartbeats 100000 in
theorem sp_z_64_put_r1 (X : ez_X)  (cz kz : Nat) : ∀ G : ez_F, fx_up X 11 G 39 0 [.ref 68, .int 0, .long 0, ez_fill] [] (ev_hp (ev_sI ev_I0 6 (upd (upd (ev_I0 6) 4 1) 3 1)) (ev_sJ (ev_sJ ev_J0 11 (vp_updL (vp_updL (vp_updL (ev_J0 11) 0 0) 1 0) 2 0)) 12 (vp_updL (vp_updL (vp_updL (ev_J0 12) 0 0) 1 0) 2 0)) (ev_sR (ev_sR (ev_sR (ev_sR ev_R0 0 65) 1 66) 2 67) 3 68) ([.inl (1, .inl (upd (fun _ => 0) 0 0)), .inl (1, .inr (.inl (vp_updL (fun _ => 0) 0 0))), .inl (1, .inr (.inl (vp_updL (fun _ => 0) 0 0))), .inl (1, .inr (.inl (fun _ => 0)))] : List ez_C)) cz kz = some (none, (ev_hp (ev_sI ev_I0 6 (upd (upd (ev_I0 6) 4 1) 3 1)) (ev_sJ (ev_sJ ev_J0 11 (vp_updL (vp_updL (vp_updL (ev_J0 11) 0 0) 1 0) 2 0)) 12 (vp_updL (vp_updL (vp_updL (ev_J0 12) 0 0) 1 0) 2 0)) (ev_sR (ev_sR (ev_sR (ev_sR ev_R0 0 65) 1 66) 2 67) 3 68) ([.inl (1, .inl (upd (fun _ => 0) 0 0)), .inl (1, .inr (.inl (vp_updL (fun _ => 0) 0 0))), .inl (1, .inr (.inl (vp_updL (fun _ => 0) 0 0))), .inl (1, .inr (.inl (vp_updL (fun _ => 0) 0 0)))] : List ez_C)), cz, kz) := by
  intro G
  rfl
theorem sp_z_64_put (X : ez_X) : ev_W X 39 0 (ez_lay [.ref 68, .int 0, .long 0]) [] (ev_hp (ev_sI ev_I0 6 (upd (upd (ev_I0 6) 4 1) 3 1)) (ev_sJ (ev_sJ ev_J0 11 (vp_updL (vp_updL (vp_updL (ev_J0 11) 0 0) 1 0) 2 0)) 12 (vp_updL (vp_updL (vp_updL (ev_J0 12) 0 0) 1 0) 2 0)) (ev_sR (ev_sR (ev_sR (ev_sR ev_R0 0 65) 1 66) 2 67) 3 68) ([.inl (1, .inl (upd (fun _ => 0) 0 0)), .inl (1, .inr (.inl (vp_updL (fun _ => 0) 0 0))), .inl (1, .inr (.inl (vp_updL (fun _ => 0) 0 0))), .inl (1, .inr (.inl (fun _ => 0)))] : List ez_C)) 0 0 (fun r h1 c1 k1 => r = none ∧ h1 = (ev_hp (ev_sI ev_I0 6 (upd (upd (ev_I0 6) 4 1) 3 1)) (ev_sJ (ev_sJ ev_J0 11 (vp_updL (vp_updL (vp_updL (ev_J0 11) 0 0) 1 0) 2 0)) 12 (vp_updL (vp_updL (vp_updL (ev_J0 12) 0 0) 1 0) 2 0)) (ev_sR (ev_sR (ev_sR (ev_sR ev_R0 0 65) 1 66) 2 67) 3 68) ([.inl (1, .inl (upd (fun _ => 0) 0 0)), .inl (1, .inr (.inl (vp_updL (fun _ => 0) 0 0))), .inl (1, .inr (.inl (vp_updL (fun _ => 0) 0 0))), .inl (1, .inr (.inl (vp_updL (fun _ => 0) 0 0)))] : List ez_C)) ∧ c1 = 0 ∧ k1 = 0) := by
  refine ev_ret (sp_z_64_put_r1 X  _ _) ?_
  exact ⟨rfl, rfl, rfl, rfl⟩
set_option maxRecDepth 100000 in
set_option maxHeartbeats 100000 in
theorem sp_z_25_replay_r1 (X : ez_X)  (cz kz : Nat) : ∀ G : ez_F, fx_up X 8 G 112 0 [.ref 13] [] (ev_hp (ev_sI ev_I0 6 (upd (upd (ev_I0 6) 4 1) 3 1)) ev_J0 (ev_sR ev_R0 0 65) ([.inl (1, .inl (upd (fun _ => 0) 0 0))] : List ez_C)) cz kz = ev_C G 108 [.ref 13, .int 1] (ev_hp (ev_sI ev_I0 6 (upd (upd (ev_I0 6) 4 1) 3 1)) ev_J0 (ev_sR ev_R0 0 65) ([.inl (1, .inl (upd (fun _ => 0) 0 0))] : List ez_C)) fun r h1 c1 k1 => G 112 19 [.ref 13] (r.toList ++ []) h1 (cz + c1) (kz + k1) := by
  intro G
  rfl
set_option maxRecDepth 100000 in
set_option maxHeartbeats 100000 in
theorem sp_z_25_replay_r2 (X : ez_X)  (cz kz : Nat) : ∀ G : ez_F, fx_up X 4 G 112 19 [.ref 13] [] (ev_hp (ev_sI ev_I0 6 (upd (upd (ev_I0 6) 4 1) 3 1)) ev_J0 (ev_sR (ev_sR (ev_sR (ev_sR ev_R0 0 65) 1 66) 2 67) 3 68) ([.inl (1, .inl (upd (fun _ => 0) 0 0)), .inl (1, .inr (.inl (fun _ => 0))), .inl (1, .inr (.inl (fun _ => 0))), .inl (1, .inr (.inl (fun _ => 0)))] : List ez_C)) cz kz = ev_C G 152 [.ref 1, .int 1] (ev_hp (ev_sI ev_I0 6 (upd (upd (ev_I0 6) 4 1) 3 1)) ev_J0 (ev_sR (ev_sR (ev_sR (ev_sR ev_R0 0 65) 1 66) 2 67) 3 68) ([.inl (1, .inl (upd (fun _ => 0) 0 0)), .inl (1, .inr (.inl (fun _ => 0))), .inl (1, .inr (.inl (fun _ => 0))), .inl (1, .inr (.inl (fun _ => 0)))] : List ez_C)) fun r h1 c1 k1 => G 112 27 [.ref 13] (r.toList ++ []) h1 (cz + c1) (kz + k1) := by
  intro G
  rfl
set_option maxRecDepth 100000 in
set_option maxHeartbeats 100000 in
theorem sp_z_25_replay_r3 (X : ez_X)  (cz kz : Nat) : ∀ G : ez_F, fx_up X 22 G 112 27 [.ref 13] [.int 1] (ev_hp (ev_sI ev_I0 6 (upd (upd (ev_I0 6) 4 1) 3 1)) ev_J0 (ev_sR (ev_sR (ev_sR (ev_sR ev_R0 0 65) 1 66) 2 67) 3 68) ([.inl (1, .inl (upd (fun _ => 0) 0 0)), .inl (1, .inr (.inl (fun _ => 0))), .inl (1, .inr (.inl (fun _ => 0))), .inl (1, .inr (.inl (fun _ => 0)))] : List ez_C)) cz kz = ev_C G 135 [.ref 10, .int 0, .int 0] (ev_hp (ev_sI ev_I0 6 (upd (upd (ev_I0 6) 4 1) 3 1)) ev_J0 (ev_sR (ev_sR (ev_sR (ev_sR ev_R0 0 65) 1 66) 2 67) 3 68) ([.inl (1, .inl (upd (fun _ => 0) 0 0)), .inl (1, .inr (.inl (fun _ => 0))), .inl (1, .inr (.inl (fun _ => 0))), .inl (1, .inr (.inl (fun _ => 0)))] : List ez_C)) fun r h1 c1 k1 => G 112 70 [.ref 13, .int 1, .int 0] (r.toList ++ [.int 0, .ref 66]) h1 (cz + c1) (kz + k1) := by
  intro G
  rfl
set_option maxRecDepth 100000 in
set_option maxHeartbeats 100000 in
theorem sp_z_25_replay_r4 (X : ez_X)  (cz kz : Nat) : ∀ G : ez_F, fx_up X 1 G 112 70 [.ref 13, .int 1, .int 0] [.long 0, .int 0, .ref 66] (ev_hp (ev_sI ev_I0 6 (upd (upd (ev_I0 6) 4 1) 3 1)) (ev_sJ (ev_sJ ev_J0 11 (vp_updL (vp_updL (vp_updL (ev_J0 11) 0 0) 1 0) 2 0)) 12 (vp_updL (vp_updL (vp_updL (ev_J0 12) 0 0) 1 0) 2 0)) (ev_sR (ev_sR (ev_sR (ev_sR ev_R0 0 65) 1 66) 2 67) 3 68) ([.inl (1, .inl (upd (fun _ => 0) 0 0)), .inl (1, .inr (.inl (fun _ => 0))), .inl (1, .inr (.inl (fun _ => 0))), .inl (1, .inr (.inl (fun _ => 0)))] : List ez_C)) cz kz = ev_C G 39 [.ref 66, .int 0, .long 0] (ev_hp (ev_sI ev_I0 6 (upd (upd (ev_I0 6) 4 1) 3 1)) (ev_sJ (ev_sJ ev_J0 11 (vp_updL (vp_updL (vp_updL (ev_J0 11) 0 0) 1 0) 2 0)) 12 (vp_updL (vp_updL (vp_updL (ev_J0 12) 0 0) 1 0) 2 0)) (ev_sR (ev_sR (ev_sR (ev_sR ev_R0 0 65) 1 66) 2 67) 3 68) ([.inl (1, .inl (upd (fun _ => 0) 0 0)), .inl (1, .inr (.inl (fun _ => 0))), .inl (1, .inr (.inl (fun _ => 0))), .inl (1, .inr (.inl (fun _ => 0)))] : List ez_C)) fun r h1 c1 k1 => G 112 73 [.ref 13, .int 1, .int 0] (r.toList ++ []) h1 (cz + c1) (kz + k1) := by
  intro G
  rfl
set_option maxRecDepth 100000 in
set_option maxHeartbeats 100000 in
theorem sp_z_25_replay_r5 (X : ez_X)  (cz kz : Nat) : ∀ G : ez_F, fx_up X 6 G 112 73 [.ref 13, .int 1, .int 0] [] (ev_hp (ev_sI ev_I0 6 (upd (upd (ev_I0 6) 4 1) 3 1)) (ev_sJ (ev_sJ ev_J0 11 (vp_updL (vp_updL (vp_updL (ev_J0 11) 0 0) 1 0) 2 0)) 12 (vp_updL (vp_updL (vp_updL (ev_J0 12) 0 0) 1 0) 2 0)) (ev_sR (ev_sR (ev_sR (ev_sR ev_R0 0 65) 1 66) 2 67) 3 68) ([.inl (1, .inl (upd (fun _ => 0) 0 0)), .inl (1, .inr (.inl (vp_updL (fun _ => 0) 0 0))), .inl (1, .inr (.inl (fun _ => 0))), .inl (1, .inr (.inl (fun _ => 0)))] : List ez_C)) cz kz = ev_C G 129 [.ref 10] (ev_hp (ev_sI ev_I0 6 (upd (upd (ev_I0 6) 4 1) 3 1)) (ev_sJ (ev_sJ ev_J0 11 (vp_updL (vp_updL (vp_updL (ev_J0 11) 0 0) 1 0) 2 0)) 12 (vp_updL (vp_updL (vp_updL (ev_J0 12) 0 0) 1 0) 2 0)) (ev_sR (ev_sR (ev_sR (ev_sR ev_R0 0 65) 1 66) 2 67) 3 68) ([.inl (1, .inl (upd (fun _ => 0) 0 0)), .inl (1, .inr (.inl (vp_updL (fun _ => 0) 0 0))), .inl (1, .inr (.inl (fun _ => 0))), .inl (1, .inr (.inl (fun _ => 0)))] : List ez_C)) fun r h1 c1 k1 => G 112 85 [.ref 13, .int 1, .int 0] (r.toList ++ [.int 0, .ref 67]) h1 (cz + c1) (kz + k1) := by
  intro G
  rfl
set_option maxRecDepth 100000 in
set_option maxHeartbeats 100000 in
theorem sp_z_25_replay_r6 (X : ez_X)  (cz kz : Nat) : ∀ G : ez_F, fx_up X 1 G 112 85 [.ref 13, .int 1, .int 0] [.long 0, .int 0, .ref 67] (ev_hp (ev_sI ev_I0 6 (upd (upd (ev_I0 6) 4 1) 3 1)) (ev_sJ (ev_sJ ev_J0 11 (vp_updL (vp_updL (vp_updL (ev_J0 11) 0 0) 1 0) 2 0)) 12 (vp_updL (vp_updL (vp_updL (ev_J0 12) 0 0) 1 0) 2 0)) (ev_sR (ev_sR (ev_sR (ev_sR ev_R0 0 65) 1 66) 2 67) 3 68) ([.inl (1, .inl (upd (fun _ => 0) 0 0)), .inl (1, .inr (.inl (vp_updL (fun _ => 0) 0 0))), .inl (1, .inr (.inl (fun _ => 0))), .inl (1, .inr (.inl (fun _ => 0)))] : List ez_C)) cz kz = ev_C G 39 [.ref 67, .int 0, .long 0] (ev_hp (ev_sI ev_I0 6 (upd (upd (ev_I0 6) 4 1) 3 1)) (ev_sJ (ev_sJ ev_J0 11 (vp_updL (vp_updL (vp_updL (ev_J0 11) 0 0) 1 0) 2 0)) 12 (vp_updL (vp_updL (vp_updL (ev_J0 12) 0 0) 1 0) 2 0)) (ev_sR (ev_sR (ev_sR (ev_sR ev_R0 0 65) 1 66) 2 67) 3 68) ([.inl (1, .inl (upd (fun _ => 0) 0 0)), .inl (1, .inr (.inl (vp_updL (fun _ => 0) 0 0))), .inl (1, .inr (.inl (fun _ => 0))), .inl (1, .inr (.inl (fun _ => 0)))] : List ez_C)) fun r h1 c1 k1 => G 112 88 [.ref 13, .int 1, .int 0] (r.toList ++ []) h1 (cz + c1) (kz + k1) := by
  intro G
  rfl
set_option maxRecDepth 100000 in
set_option maxHeartbeats 100000 in
theorem sp_z_25_replay_r7 (X : ez_X)  (cz kz : Nat) : ∀ G : ez_F, fx_up X 8 G 112 88 [.ref 13, .int 1, .int 0] [] (ev_hp (ev_sI ev_I0 6 (upd (upd (ev_I0 6) 4 1) 3 1)) (ev_sJ (ev_sJ ev_J0 11 (vp_updL (vp_updL (vp_updL (ev_J0 11) 0 0) 1 0) 2 0)) 12 (vp_updL (vp_updL (vp_updL (ev_J0 12) 0 0) 1 0) 2 0)) (ev_sR (ev_sR (ev_sR (ev_sR ev_R0 0 65) 1 66) 2 67) 3 68) ([.inl (1, .inl (upd (fun _ => 0) 0 0)), .inl (1, .inr (.inl (vp_updL (fun _ => 0) 0 0))), .inl (1, .inr (.inl (vp_updL (fun _ => 0) 0 0))), .inl (1, .inr (.inl (fun _ => 0)))] : List ez_C)) cz kz = ev_C G 134 [.ref 10] (ev_hp (ev_sI ev_I0 6 (upd (upd (ev_I0 6) 4 1) 3 1)) (ev_sJ (ev_sJ ev_J0 11 (vp_updL (vp_updL (vp_updL (ev_J0 11) 0 0) 1 0) 2 0)) 12 (vp_updL (vp_updL (vp_updL (ev_J0 12) 0 0) 1 0) 2 0)) (ev_sR (ev_sR (ev_sR (ev_sR ev_R0 0 65) 1 66) 2 67) 3 68) ([.inl (1, .inl (upd (fun _ => 0) 0 0)), .inl (1, .inr (.inl (vp_updL (fun _ => 0) 0 0))), .inl (1, .inr (.inl (vp_updL (fun _ => 0) 0 0))), .inl (1, .inr (.inl (fun _ => 0)))] : List ez_C)) fun r h1 c1 k1 => G 112 104 [.ref 13, .int 1, .int 0] (r.toList ++ [.int 0, .ref 68]) h1 (cz + c1) (kz + k1) := by
  intro G
  rfl
set_option maxRecDepth 100000 in
set_option maxHeartbeats 100000 in
theorem sp_z_25_replay_r8 (X : ez_X)  (cz kz : Nat) : ∀ G : ez_F, fx_up X 2 G 112 104 [.ref 13, .int 1, .int 0] [.long 0, .int 0, .ref 68] (ev_hp (ev_sI ev_I0 6 (upd (upd (ev_I0 6) 4 1) 3 1)) (ev_sJ (ev_sJ ev_J0 11 (vp_updL (vp_updL (vp_updL (ev_J0 11) 0 0) 1 0) 2 0)) 12 (vp_updL (vp_updL (vp_updL (ev_J0 12) 0 0) 1 0) 2 0)) (ev_sR (ev_sR (ev_sR (ev_sR ev_R0 0 65) 1 66) 2 67) 3 68) ([.inl (1, .inl (upd (fun _ => 0) 0 0)), .inl (1, .inr (.inl (vp_updL (fun _ => 0) 0 0))), .inl (1, .inr (.inl (vp_updL (fun _ => 0) 0 0))), .inl (1, .inr (.inl (fun _ => 0)))] : List ez_C)) cz kz = ev_C G 39 [.ref 68, .int 0, .long 0] (ev_hp (ev_sI ev_I0 6 (upd (upd (ev_I0 6) 4 1) 3 1)) (ev_sJ (ev_sJ ev_J0 11 (vp_updL (vp_updL (vp_updL (ev_J0 11) 0 0) 1 0) 2 0)) 12 (vp_updL (vp_updL (vp_updL (ev_J0 12) 0 0) 1 0) 2 0)) (ev_sR (ev_sR (ev_sR (ev_sR ev_R0 0 65) 1 66) 2 67) 3 68) ([.inl (1, .inl (upd (fun _ => 0) 0 0)), .inl (1, .inr (.inl (vp_updL (fun _ => 0) 0 0))), .inl (1, .inr (.inl (vp_updL (fun _ => 0) 0 0))), .inl (1, .inr (.inl (fun _ => 0)))] : List ez_C)) fun r h1 c1 k1 => G 112 111 [.ref 13, .int 1, .int 0] (r.toList ++ []) h1 (cz + c1) (kz + k1) := by
  intro G
  rfl
set_option maxRecDepth 100000 in
set_option maxHeartbeats 100000 in
theorem sp_z_25_replay_r9 (X : ez_X)  (cz kz : Nat) : ∀ G : ez_F, fx_up X 11 G 112 111 [.ref 13, .int 1, .int 0] [] (ev_hp (ev_sI ev_I0 6 (upd (upd (ev_I0 6) 4 1) 3 1)) (ev_sJ (ev_sJ ev_J0 11 (vp_updL (vp_updL (vp_updL (ev_J0 11) 0 0) 1 0) 2 0)) 12 (vp_updL (vp_updL (vp_updL (ev_J0 12) 0 0) 1 0) 2 0)) (ev_sR (ev_sR (ev_sR (ev_sR ev_R0 0 65) 1 66) 2 67) 3 68) ([.inl (1, .inl (upd (fun _ => 0) 0 0)), .inl (1, .inr (.inl (vp_updL (fun _ => 0) 0 0))), .inl (1, .inr (.inl (vp_updL (fun _ => 0) 0 0))), .inl (1, .inr (.inl (vp_updL (fun _ => 0) 0 0)))] : List ez_C)) cz kz = some (none, (ev_hp (ev_sI (ev_sI ev_I0 6 (upd (upd (ev_I0 6) 4 1) 3 1)) 13 (upd (ev_I0 13) 8 1)) (ev_sJ (ev_sJ ev_J0 11 (vp_updL (vp_updL (vp_updL (ev_J0 11) 0 0) 1 0) 2 0)) 12 (vp_updL (vp_updL (vp_updL (ev_J0 12) 0 0) 1 0) 2 0)) (ev_sR (ev_sR (ev_sR (ev_sR ev_R0 0 65) 1 66) 2 67) 3 68) ([.inl (1, .inl (upd (fun _ => 0) 0 0)), .inl (1, .inr (.inl (vp_updL (fun _ => 0) 0 0))), .inl (1, .inr (.inl (vp_updL (fun _ => 0) 0 0))), .inl (1, .inr (.inl (vp_updL (fun _ => 0) 0 0)))] : List ez_C)), cz, kz) := by
  intro G
  rfl
theorem sp_z_25_replay (X : ez_X) : ev_W X 112 0 (ez_lay [.ref 13]) [] (ev_hp (ev_sI ev_I0 6 (upd (upd (ev_I0 6) 4 1) 3 1)) ev_J0 (ev_sR ev_R0 0 65) ([.inl (1, .inl (upd (fun _ => 0) 0 0))] : List ez_C)) 0 0 (fun r h1 c1 k1 => r = none ∧ h1 = (ev_hp (ev_sI (ev_sI ev_I0 6 (upd (upd (ev_I0 6) 4 1) 3 1)) 13 (upd (ev_I0 13) 8 1)) (ev_sJ (ev_sJ ev_J0 11 (vp_updL (vp_updL (vp_updL (ev_J0 11) 0 0) 1 0) 2 0)) 12 (vp_updL (vp_updL (vp_updL (ev_J0 12) 0 0) 1 0) 2 0)) (ev_sR (ev_sR (ev_sR (ev_sR ev_R0 0 65) 1 66) 2 67) 3 68) ([.inl (1, .inl (upd (fun _ => 0) 0 0)), .inl (1, .inr (.inl (vp_updL (fun _ => 0) 0 0))), .inl (1, .inr (.inl (vp_updL (fun _ => 0) 0 0))), .inl (1, .inr (.inl (vp_updL (fun _ => 0) 0 0)))] : List ez_C)) ∧ c1 = 3 ∧ k1 = 3) := by
  refine ev_call (sp_z_25_replay_r1 X  _ _) (sp_z_26_grow X) ?_
  rintro _ _ _ _ ⟨rfl, rfl, rfl, rfl⟩
  refine ev_call (sp_z_25_replay_r2 X  _ _) (sp_z_28_rule X) ?_
  rintro _ _ _ _ ⟨rfl, rfl, rfl, rfl⟩
  refine ev_call (sp_z_25_replay_r3 X  _ _) (sp_z_30_through X) ?_
  rintro _ _ _ _ ⟨rfl, rfl, rfl, rfl⟩
  refine ev_call (sp_z_25_replay_r4 X  _ _) (sp_z_45_put X) ?_
  rintro _ _ _ _ ⟨rfl, rfl, rfl, rfl⟩
  refine ev_call (sp_z_25_replay_r5 X  _ _) (sp_z_46_allPlaces X) ?_
  rintro _ _ _ _ ⟨rfl, rfl, rfl, rfl⟩
  refine ev_call (sp_z_25_replay_r6 X  _ _) (sp_z_50_put X) ?_
  rintro _ _ _ _ ⟨rfl, rfl, rfl, rfl⟩
  refine ev_call (sp_z_25_replay_r7 X  _ _) (sp_z_51_sinkingCells X) ?_
  rintro _ _ _ _ ⟨rfl, rfl, rfl, rfl⟩
  refine ev_call (sp_z_25_replay_r8 X  _ _) (sp_z_64_put X) ?_
  rintro _ _ _ _ ⟨rfl, rfl, rfl, rfl⟩
  refine ev_ret (sp_z_25_replay_r9 X  _ _) ?_
  exact ⟨rfl, rfl, rfl, rfl⟩
set_option maxRecDepth 100000 in
set_option maxHeartbeats 100000 in
theorem sp_z_67_at_r1 (X : ez_X)  (cz kz : Nat) : ∀ G : ez_F, fx_up X 11 G 4 0 [.ref 66, .int 0] [] (ev_hp (ev_sI (ev_sI ev_I0 6 (upd (upd (ev_I0 6) 4 1) 3 1)) 13 (upd (ev_I0 13) 8 1)) (ev_sJ (ev_sJ ev_J0 11 (vp_updL (vp_updL (vp_updL (ev_J0 11) 0 0) 1 0) 2 0)) 12 (vp_updL (vp_updL (vp_updL (ev_J0 12) 0 0) 1 0) 2 0)) (ev_sR (ev_sR (ev_sR (ev_sR ev_R0 0 65) 1 66) 2 67) 3 68) ([.inl (1, .inl (upd (fun _ => 0) 0 0)), .inl (1, .inr (.inl (vp_updL (fun _ => 0) 0 0))), .inl (1, .inr (.inl (vp_updL (fun _ => 0) 0 0))), .inl (1, .inr (.inl (vp_updL (fun _ => 0) 0 0)))] : List ez_C)) cz kz = some (some (.long 0), (ev_hp (ev_sI (ev_sI ev_I0 6 (upd (upd (ev_I0 6) 4 1) 3 1)) 13 (upd (ev_I0 13) 8 1)) (ev_sJ (ev_sJ ev_J0 11 (vp_updL (vp_updL (vp_updL (ev_J0 11) 0 0) 1 0) 2 0)) 12 (vp_updL (vp_updL (vp_updL (ev_J0 12) 0 0) 1 0) 2 0)) (ev_sR (ev_sR (ev_sR (ev_sR ev_R0 0 65) 1 66) 2 67) 3 68) ([.inl (1, .inl (upd (fun _ => 0) 0 0)), .inl (1, .inr (.inl (vp_updL (fun _ => 0) 0 0))), .inl (1, .inr (.inl (vp_updL (fun _ => 0) 0 0))), .inl (1, .inr (.inl (vp_updL (fun _ => 0) 0 0)))] : List ez_C)), cz, kz) := by
  intro G
  rfl
theorem sp_z_67_at (X : ez_X) : ev_W X 4 0 (ez_lay [.ref 66, .int 0]) [] (ev_hp (ev_sI (ev_sI ev_I0 6 (upd (upd (ev_I0 6) 4 1) 3 1)) 13 (upd (ev_I0 13) 8 1)) (ev_sJ (ev_sJ ev_J0 11 (vp_updL (vp_updL (vp_updL (ev_J0 11) 0 0) 1 0) 2 0)) 12 (vp_updL (vp_updL (vp_updL (ev_J0 12) 0 0) 1 0) 2 0)) (ev_sR (ev_sR (ev_sR (ev_sR ev_R0 0 65) 1 66) 2 67) 3 68) ([.inl (1, .inl (upd (fun _ => 0) 0 0)), .inl (1, .inr (.inl (vp_updL (fun _ => 0) 0 0))), .inl (1, .inr (.inl (vp_updL (fun _ => 0) 0 0))), .inl (1, .inr (.inl (vp_updL (fun _ => 0) 0 0)))] : List ez_C)) 0 0 (fun r h1 c1 k1 => r = (some (.long 0)) ∧ h1 = (ev_hp (ev_sI (ev_sI ev_I0 6 (upd (upd (ev_I0 6) 4 1) 3 1)) 13 (upd (ev_I0 13) 8 1)) (ev_sJ (ev_sJ ev_J0 11 (vp_updL (vp_updL (vp_updL (ev_J0 11) 0 0) 1 0) 2 0)) 12 (vp_updL (vp_updL (vp_updL (ev_J0 12) 0 0) 1 0) 2 0)) (ev_sR (ev_sR (ev_sR (ev_sR ev_R0 0 65) 1 66) 2 67) 3 68) ([.inl (1, .inl (upd (fun _ => 0) 0 0)), .inl (1, .inr (.inl (vp_updL (fun _ => 0) 0 0))), .inl (1, .inr (.inl (vp_updL (fun _ => 0) 0 0))), .inl (1, .inr (.inl (vp_updL (fun _ => 0) 0 0)))] : List ez_C)) ∧ c1 = 0 ∧ k1 = 0) := by
  refine ev_ret (sp_z_67_at_r1 X  _ _) ?_
  exact ⟨rfl, rfl, rfl, rfl⟩
set_option maxRecDepth 100000 in
set_option maxHeartbeats 100000 in
theorem sp_z_66_wrongs_r1 (X : ez_X)  (cz kz : Nat) : ∀ G : ez_F, fx_up X 4 G 113 0 [.ref 13, .int 0] [] (ev_hp (ev_sI (ev_sI ev_I0 6 (upd (upd (ev_I0 6) 4 1) 3 1)) 13 (upd (ev_I0 13) 8 1)) (ev_sJ (ev_sJ ev_J0 11 (vp_updL (vp_updL (vp_updL (ev_J0 11) 0 0) 1 0) 2 0)) 12 (vp_updL (vp_updL (vp_updL (ev_J0 12) 0 0) 1 0) 2 0)) (ev_sR (ev_sR (ev_sR (ev_sR ev_R0 0 65) 1 66) 2 67) 3 68) ([.inl (1, .inl (upd (fun _ => 0) 0 0)), .inl (1, .inr (.inl (vp_updL (fun _ => 0) 0 0))), .inl (1, .inr (.inl (vp_updL (fun _ => 0) 0 0))), .inl (1, .inr (.inl (vp_updL (fun _ => 0) 0 0)))] : List ez_C)) cz kz = ev_C G 4 [.ref 66, .int 0] (ev_hp (ev_sI (ev_sI ev_I0 6 (upd (upd (ev_I0 6) 4 1) 3 1)) 13 (upd (ev_I0 13) 8 1)) (ev_sJ (ev_sJ ev_J0 11 (vp_updL (vp_updL (vp_updL (ev_J0 11) 0 0) 1 0) 2 0)) 12 (vp_updL (vp_updL (vp_updL (ev_J0 12) 0 0) 1 0) 2 0)) (ev_sR (ev_sR (ev_sR (ev_sR ev_R0 0 65) 1 66) 2 67) 3 68) ([.inl (1, .inl (upd (fun _ => 0) 0 0)), .inl (1, .inr (.inl (vp_updL (fun _ => 0) 0 0))), .inl (1, .inr (.inl (vp_updL (fun _ => 0) 0 0))), .inl (1, .inr (.inl (vp_updL (fun _ => 0) 0 0)))] : List ez_C)) fun r h1 c1 k1 => G 113 8 [.ref 13, .int 0] (r.toList ++ []) h1 (cz + c1) (kz + k1) := by
  intro G
  rfl
set_option maxRecDepth 100000 in
set_option maxHeartbeats 100000 in
theorem sp_z_66_wrongs_r2 (X : ez_X)  (cz kz : Nat) : ∀ G : ez_F, fx_up X 15 G 113 8 [.ref 13, .int 0] [.long 0] (ev_hp (ev_sI (ev_sI ev_I0 6 (upd (upd (ev_I0 6) 4 1) 3 1)) 13 (upd (ev_I0 13) 8 1)) (ev_sJ (ev_sJ ev_J0 11 (vp_updL (vp_updL (vp_updL (ev_J0 11) 0 0) 1 0) 2 0)) 12 (vp_updL (vp_updL (vp_updL (ev_J0 12) 0 0) 1 0) 2 0)) (ev_sR (ev_sR (ev_sR (ev_sR ev_R0 0 65) 1 66) 2 67) 3 68) ([.inl (1, .inl (upd (fun _ => 0) 0 0)), .inl (1, .inr (.inl (vp_updL (fun _ => 0) 0 0))), .inl (1, .inr (.inl (vp_updL (fun _ => 0) 0 0))), .inl (1, .inr (.inl (vp_updL (fun _ => 0) 0 0)))] : List ez_C)) cz kz = some (some (.long 0), (ev_hp (ev_sI (ev_sI ev_I0 6 (upd (upd (ev_I0 6) 4 1) 3 1)) 13 (upd (ev_I0 13) 8 1)) (ev_sJ (ev_sJ ev_J0 11 (vp_updL (vp_updL (vp_updL (ev_J0 11) 0 0) 1 0) 2 0)) 12 (vp_updL (vp_updL (vp_updL (ev_J0 12) 0 0) 1 0) 2 0)) (ev_sR (ev_sR (ev_sR (ev_sR ev_R0 0 65) 1 66) 2 67) 3 68) ([.inl (1, .inl (upd (fun _ => 0) 0 0)), .inl (1, .inr (.inl (vp_updL (fun _ => 0) 0 0))), .inl (1, .inr (.inl (vp_updL (fun _ => 0) 0 0))), .inl (1, .inr (.inl (vp_updL (fun _ => 0) 0 0)))] : List ez_C)), cz, kz) := by
  intro G
  rfl
theorem sp_z_66_wrongs (X : ez_X) : ev_W X 113 0 (ez_lay [.ref 13, .int 0]) [] (ev_hp (ev_sI (ev_sI ev_I0 6 (upd (upd (ev_I0 6) 4 1) 3 1)) 13 (upd (ev_I0 13) 8 1)) (ev_sJ (ev_sJ ev_J0 11 (vp_updL (vp_updL (vp_updL (ev_J0 11) 0 0) 1 0) 2 0)) 12 (vp_updL (vp_updL (vp_updL (ev_J0 12) 0 0) 1 0) 2 0)) (ev_sR (ev_sR (ev_sR (ev_sR ev_R0 0 65) 1 66) 2 67) 3 68) ([.inl (1, .inl (upd (fun _ => 0) 0 0)), .inl (1, .inr (.inl (vp_updL (fun _ => 0) 0 0))), .inl (1, .inr (.inl (vp_updL (fun _ => 0) 0 0))), .inl (1, .inr (.inl (vp_updL (fun _ => 0) 0 0)))] : List ez_C)) 0 0 (fun r h1 c1 k1 => r = (some (.long 0)) ∧ h1 = (ev_hp (ev_sI (ev_sI ev_I0 6 (upd (upd (ev_I0 6) 4 1) 3 1)) 13 (upd (ev_I0 13) 8 1)) (ev_sJ (ev_sJ ev_J0 11 (vp_updL (vp_updL (vp_updL (ev_J0 11) 0 0) 1 0) 2 0)) 12 (vp_updL (vp_updL (vp_updL (ev_J0 12) 0 0) 1 0) 2 0)) (ev_sR (ev_sR (ev_sR (ev_sR ev_R0 0 65) 1 66) 2 67) 3 68) ([.inl (1, .inl (upd (fun _ => 0) 0 0)), .inl (1, .inr (.inl (vp_updL (fun _ => 0) 0 0))), .inl (1, .inr (.inl (vp_updL (fun _ => 0) 0 0))), .inl (1, .inr (.inl (vp_updL (fun _ => 0) 0 0)))] : List ez_C)) ∧ c1 = 0 ∧ k1 = 0) := by
  refine ev_call (sp_z_66_wrongs_r1 X  _ _) (sp_z_67_at X) ?_
  rintro _ _ _ _ ⟨rfl, rfl, rfl, rfl⟩
  refine ev_ret (sp_z_66_wrongs_r2 X  _ _) ?_
  exact ⟨rfl, rfl, rfl, rfl⟩
set_option maxRecDepth 100000 in
set_option maxHeartbeats 100000 in
theorem sp_z_68_bitCount_r1 (X : ez_X)  (cz kz : Nat) : ∀ G : ez_F, fx_up X 24 G 237 0 [.long 0, ez_fill] [] (ev_hp (ev_sI (ev_sI ev_I0 6 (upd (upd (ev_I0 6) 4 1) 3 1)) 13 (upd (ev_I0 13) 8 1)) (ev_sJ (ev_sJ ev_J0 11 (vp_updL (vp_updL (vp_updL (ev_J0 11) 0 0) 1 0) 2 0)) 12 (vp_updL (vp_updL (vp_updL (ev_J0 12) 0 0) 1 0) 2 0)) (ev_sR (ev_sR (ev_sR (ev_sR ev_R0 0 65) 1 66) 2 67) 3 68) ([.inl (1, .inl (upd (fun _ => 0) 0 0)), .inl (1, .inr (.inl (vp_updL (fun _ => 0) 0 0))), .inl (1, .inr (.inl (vp_updL (fun _ => 0) 0 0))), .inl (1, .inr (.inl (vp_updL (fun _ => 0) 0 0)))] : List ez_C)) cz kz = G 237 32 [.long 0, ez_fill] [.long 1085102592571150095, .long 0] (ev_hp (ev_sI (ev_sI ev_I0 6 (upd (upd (ev_I0 6) 4 1) 3 1)) 13 (upd (ev_I0 13) 8 1)) (ev_sJ (ev_sJ ev_J0 11 (vp_updL (vp_updL (vp_updL (ev_J0 11) 0 0) 1 0) 2 0)) 12 (vp_updL (vp_updL (vp_updL (ev_J0 12) 0 0) 1 0) 2 0)) (ev_sR (ev_sR (ev_sR (ev_sR ev_R0 0 65) 1 66) 2 67) 3 68) ([.inl (1, .inl (upd (fun _ => 0) 0 0)), .inl (1, .inr (.inl (vp_updL (fun _ => 0) 0 0))), .inl (1, .inr (.inl (vp_updL (fun _ => 0) 0 0))), .inl (1, .inr (.inl (vp_updL (fun _ => 0) 0 0)))] : List ez_C)) cz kz := by
  intro G
  rfl
set_option maxRecDepth 100000 in
set_option maxHeartbeats 100000 in
theorem sp_z_68_bitCount_r2 (X : ez_X)  (cz kz : Nat) : ∀ G : ez_F, fx_up X 24 G 237 32 [.long 0, ez_fill] [.long 1085102592571150095, .long 0] (ev_hp (ev_sI (ev_sI ev_I0 6 (upd (upd (ev_I0 6) 4 1) 3 1)) 13 (upd (ev_I0 13) 8 1)) (ev_sJ (ev_sJ ev_J0 11 (vp_updL (vp_updL (vp_updL (ev_J0 11) 0 0) 1 0) 2 0)) 12 (vp_updL (vp_updL (vp_updL (ev_J0 12) 0 0) 1 0) 2 0)) (ev_sR (ev_sR (ev_sR (ev_sR ev_R0 0 65) 1 66) 2 67) 3 68) ([.inl (1, .inl (upd (fun _ => 0) 0 0)), .inl (1, .inr (.inl (vp_updL (fun _ => 0) 0 0))), .inl (1, .inr (.inl (vp_updL (fun _ => 0) 0 0))), .inl (1, .inr (.inl (vp_updL (fun _ => 0) 0 0)))] : List ez_C)) cz kz = G 237 60 [.long 0, ez_fill] [.int 0] (ev_hp (ev_sI (ev_sI ev_I0 6 (upd (upd (ev_I0 6) 4 1) 3 1)) 13 (upd (ev_I0 13) 8 1)) (ev_sJ (ev_sJ ev_J0 11 (vp_updL (vp_updL (vp_updL (ev_J0 11) 0 0) 1 0) 2 0)) 12 (vp_updL (vp_updL (vp_updL (ev_J0 12) 0 0) 1 0) 2 0)) (ev_sR (ev_sR (ev_sR (ev_sR ev_R0 0 65) 1 66) 2 67) 3 68) ([.inl (1, .inl (upd (fun _ => 0) 0 0)), .inl (1, .inr (.inl (vp_updL (fun _ => 0) 0 0))), .inl (1, .inr (.inl (vp_updL (fun _ => 0) 0 0))), .inl (1, .inr (.inl (vp_updL (fun _ => 0) 0 0)))] : List ez_C)) cz kz := by
  intro G
  rfl
set_option maxRecDepth 100000 in
set_option maxHeartbeats 100000 in
theorem sp_z_68_bitCount_r3 (X : ez_X)  (cz kz : Nat) : ∀ G : ez_F, fx_up X 1 G 237 60 [.long 0, ez_fill] [.int 0] (ev_hp (ev_sI (ev_sI ev_I0 6 (upd (upd (ev_I0 6) 4 1) 3 1)) 13 (upd (ev_I0 13) 8 1)) (ev_sJ (ev_sJ ev_J0 11 (vp_updL (vp_updL (vp_updL (ev_J0 11) 0 0) 1 0) 2 0)) 12 (vp_updL (vp_updL (vp_updL (ev_J0 12) 0 0) 1 0) 2 0)) (ev_sR (ev_sR (ev_sR (ev_sR ev_R0 0 65) 1 66) 2 67) 3 68) ([.inl (1, .inl (upd (fun _ => 0) 0 0)), .inl (1, .inr (.inl (vp_updL (fun _ => 0) 0 0))), .inl (1, .inr (.inl (vp_updL (fun _ => 0) 0 0))), .inl (1, .inr (.inl (vp_updL (fun _ => 0) 0 0)))] : List ez_C)) cz kz = some (some (.int 0), (ev_hp (ev_sI (ev_sI ev_I0 6 (upd (upd (ev_I0 6) 4 1) 3 1)) 13 (upd (ev_I0 13) 8 1)) (ev_sJ (ev_sJ ev_J0 11 (vp_updL (vp_updL (vp_updL (ev_J0 11) 0 0) 1 0) 2 0)) 12 (vp_updL (vp_updL (vp_updL (ev_J0 12) 0 0) 1 0) 2 0)) (ev_sR (ev_sR (ev_sR (ev_sR ev_R0 0 65) 1 66) 2 67) 3 68) ([.inl (1, .inl (upd (fun _ => 0) 0 0)), .inl (1, .inr (.inl (vp_updL (fun _ => 0) 0 0))), .inl (1, .inr (.inl (vp_updL (fun _ => 0) 0 0))), .inl (1, .inr (.inl (vp_updL (fun _ => 0) 0 0)))] : List ez_C)), cz, kz) := by
  intro G
  rfl
theorem sp_z_68_bitCount (X : ez_X) : ev_W X 237 0 (ez_lay [.long 0]) [] (ev_hp (ev_sI (ev_sI ev_I0 6 (upd (upd (ev_I0 6) 4 1) 3 1)) 13 (upd (ev_I0 13) 8 1)) (ev_sJ (ev_sJ ev_J0 11 (vp_updL (vp_updL (vp_updL (ev_J0 11) 0 0) 1 0) 2 0)) 12 (vp_updL (vp_updL (vp_updL (ev_J0 12) 0 0) 1 0) 2 0)) (ev_sR (ev_sR (ev_sR (ev_sR ev_R0 0 65) 1 66) 2 67) 3 68) ([.inl (1, .inl (upd (fun _ => 0) 0 0)), .inl (1, .inr (.inl (vp_updL (fun _ => 0) 0 0))), .inl (1, .inr (.inl (vp_updL (fun _ => 0) 0 0))), .inl (1, .inr (.inl (vp_updL (fun _ => 0) 0 0)))] : List ez_C)) 0 0 (fun r h1 c1 k1 => r = (some (.int 0)) ∧ h1 = (ev_hp (ev_sI (ev_sI ev_I0 6 (upd (upd (ev_I0 6) 4 1) 3 1)) 13 (upd (ev_I0 13) 8 1)) (ev_sJ (ev_sJ ev_J0 11 (vp_updL (vp_updL (vp_updL (ev_J0 11) 0 0) 1 0) 2 0)) 12 (vp_updL (vp_updL (vp_updL (ev_J0 12) 0 0) 1 0) 2 0)) (ev_sR (ev_sR (ev_sR (ev_sR ev_R0 0 65) 1 66) 2 67) 3 68) ([.inl (1, .inl (upd (fun _ => 0) 0 0)), .inl (1, .inr (.inl (vp_updL (fun _ => 0) 0 0))), .inl (1, .inr (.inl (vp_updL (fun _ => 0) 0 0))), .inl (1, .inr (.inl (vp_updL (fun _ => 0) 0 0)))] : List ez_C)) ∧ c1 = 0 ∧ k1 = 0) := by
  refine ev_seg (sp_z_68_bitCount_r1 X  _ _) ?_
  refine ev_seg (sp_z_68_bitCount_r2 X  _ _) ?_
  refine ev_ret (sp_z_68_bitCount_r3 X  _ _) ?_
  exact ⟨rfl, rfl, rfl, rfl⟩
set_option maxRecDepth 100000 in
set_option maxHeartbeats 100000 in
theorem sp_z_70_at_r1 (X : ez_X)  (cz kz : Nat) : ∀ G : ez_F, fx_up X 11 G 3 0 [.ref 2, .int 2] [] (ev_hp (ev_sI (ev_sI ev_I0 6 (upd (upd (ev_I0 6) 4 1) 3 1)) 13 (upd (ev_I0 13) 8 1)) (ev_sJ (ev_sJ ev_J0 11 (vp_updL (vp_updL (vp_updL (ev_J0 11) 0 0) 1 0) 2 0)) 12 (vp_updL (vp_updL (vp_updL (ev_J0 12) 0 0) 1 0) 2 0)) (ev_sR (ev_sR (ev_sR (ev_sR ev_R0 0 65) 1 66) 2 67) 3 68) ([.inl (1, .inl (upd (fun _ => 0) 0 0)), .inl (1, .inr (.inl (vp_updL (fun _ => 0) 0 0))), .inl (1, .inr (.inl (vp_updL (fun _ => 0) 0 0))), .inl (1, .inr (.inl (vp_updL (fun _ => 0) 0 0)))] : List ez_C)) cz kz = some (some (.int 0), (ev_hp (ev_sI (ev_sI ev_I0 6 (upd (upd (ev_I0 6) 4 1) 3 1)) 13 (upd (ev_I0 13) 8 1)) (ev_sJ (ev_sJ ev_J0 11 (vp_updL (vp_updL (vp_updL (ev_J0 11) 0 0) 1 0) 2 0)) 12 (vp_updL (vp_updL (vp_updL (ev_J0 12) 0 0) 1 0) 2 0)) (ev_sR (ev_sR (ev_sR (ev_sR ev_R0 0 65) 1 66) 2 67) 3 68) ([.inl (1, .inl (upd (fun _ => 0) 0 0)), .inl (1, .inr (.inl (vp_updL (fun _ => 0) 0 0))), .inl (1, .inr (.inl (vp_updL (fun _ => 0) 0 0))), .inl (1, .inr (.inl (vp_updL (fun _ => 0) 0 0)))] : List ez_C)), cz, kz) := by
  intro G
  rfl
theorem sp_z_70_at (X : ez_X) : ev_W X 3 0 (ez_lay [.ref 2, .int 2]) [] (ev_hp (ev_sI (ev_sI ev_I0 6 (upd (upd (ev_I0 6) 4 1) 3 1)) 13 (upd (ev_I0 13) 8 1)) (ev_sJ (ev_sJ ev_J0 11 (vp_updL (vp_updL (vp_updL (ev_J0 11) 0 0) 1 0) 2 0)) 12 (vp_updL (vp_updL (vp_updL (ev_J0 12) 0 0) 1 0) 2 0)) (ev_sR (ev_sR (ev_sR (ev_sR ev_R0 0 65) 1 66) 2 67) 3 68) ([.inl (1, .inl (upd (fun _ => 0) 0 0)), .inl (1, .inr (.inl (vp_updL (fun _ => 0) 0 0))), .inl (1, .inr (.inl (vp_updL (fun _ => 0) 0 0))), .inl (1, .inr (.inl (vp_updL (fun _ => 0) 0 0)))] : List ez_C)) 0 0 (fun r h1 c1 k1 => r = (some (.int 0)) ∧ h1 = (ev_hp (ev_sI (ev_sI ev_I0 6 (upd (upd (ev_I0 6) 4 1) 3 1)) 13 (upd (ev_I0 13) 8 1)) (ev_sJ (ev_sJ ev_J0 11 (vp_updL (vp_updL (vp_updL (ev_J0 11) 0 0) 1 0) 2 0)) 12 (vp_updL (vp_updL (vp_updL (ev_J0 12) 0 0) 1 0) 2 0)) (ev_sR (ev_sR (ev_sR (ev_sR ev_R0 0 65) 1 66) 2 67) 3 68) ([.inl (1, .inl (upd (fun _ => 0) 0 0)), .inl (1, .inr (.inl (vp_updL (fun _ => 0) 0 0))), .inl (1, .inr (.inl (vp_updL (fun _ => 0) 0 0))), .inl (1, .inr (.inl (vp_updL (fun _ => 0) 0 0)))] : List ez_C)) ∧ c1 = 0 ∧ k1 = 0) := by
  refine ev_ret (sp_z_70_at_r1 X  _ _) ?_
  exact ⟨rfl, rfl, rfl, rfl⟩
set_option maxRecDepth 100000 in
set_option maxHeartbeats 100000 in
theorem sp_z_69_rule_r1 (X : ez_X)  (cz kz : Nat) : ∀ G : ez_F, fx_up X 4 G 152 0 [.ref 1, .int 2] [] (ev_hp (ev_sI (ev_sI ev_I0 6 (upd (upd (ev_I0 6) 4 1) 3 1)) 13 (upd (ev_I0 13) 8 1)) (ev_sJ (ev_sJ ev_J0 11 (vp_updL (vp_updL (vp_updL (ev_J0 11) 0 0) 1 0) 2 0)) 12 (vp_updL (vp_updL (vp_updL (ev_J0 12) 0 0) 1 0) 2 0)) (ev_sR (ev_sR (ev_sR (ev_sR ev_R0 0 65) 1 66) 2 67) 3 68) ([.inl (1, .inl (upd (fun _ => 0) 0 0)), .inl (1, .inr (.inl (vp_updL (fun _ => 0) 0 0))), .inl (1, .inr (.inl (vp_updL (fun _ => 0) 0 0))), .inl (1, .inr (.inl (vp_updL (fun _ => 0) 0 0)))] : List ez_C)) cz kz = ev_C G 3 [.ref 2, .int 2] (ev_hp (ev_sI (ev_sI ev_I0 6 (upd (upd (ev_I0 6) 4 1) 3 1)) 13 (upd (ev_I0 13) 8 1)) (ev_sJ (ev_sJ ev_J0 11 (vp_updL (vp_updL (vp_updL (ev_J0 11) 0 0) 1 0) 2 0)) 12 (vp_updL (vp_updL (vp_updL (ev_J0 12) 0 0) 1 0) 2 0)) (ev_sR (ev_sR (ev_sR (ev_sR ev_R0 0 65) 1 66) 2 67) 3 68) ([.inl (1, .inl (upd (fun _ => 0) 0 0)), .inl (1, .inr (.inl (vp_updL (fun _ => 0) 0 0))), .inl (1, .inr (.inl (vp_updL (fun _ => 0) 0 0))), .inl (1, .inr (.inl (vp_updL (fun _ => 0) 0 0)))] : List ez_C)) fun r h1 c1 k1 => G 152 8 [.ref 1, .int 2] (r.toList ++ []) h1 (cz + c1) (kz + k1) := by
  intro G
  rfl
set_option maxRecDepth 100000 in
set_option maxHeartbeats 100000 in
theorem sp_z_69_rule_r2 (X : ez_X)  (cz kz : Nat) : ∀ G : ez_F, fx_up X 1 G 152 8 [.ref 1, .int 2] [.int 0] (ev_hp (ev_sI (ev_sI ev_I0 6 (upd (upd (ev_I0 6) 4 1) 3 1)) 13 (upd (ev_I0 13) 8 1)) (ev_sJ (ev_sJ ev_J0 11 (vp_updL (vp_updL (vp_updL (ev_J0 11) 0 0) 1 0) 2 0)) 12 (vp_updL (vp_updL (vp_updL (ev_J0 12) 0 0) 1 0) 2 0)) (ev_sR (ev_sR (ev_sR (ev_sR ev_R0 0 65) 1 66) 2 67) 3 68) ([.inl (1, .inl (upd (fun _ => 0) 0 0)), .inl (1, .inr (.inl (vp_updL (fun _ => 0) 0 0))), .inl (1, .inr (.inl (vp_updL (fun _ => 0) 0 0))), .inl (1, .inr (.inl (vp_updL (fun _ => 0) 0 0)))] : List ez_C)) cz kz = some (some (.int 0), (ev_hp (ev_sI (ev_sI ev_I0 6 (upd (upd (ev_I0 6) 4 1) 3 1)) 13 (upd (ev_I0 13) 8 1)) (ev_sJ (ev_sJ ev_J0 11 (vp_updL (vp_updL (vp_updL (ev_J0 11) 0 0) 1 0) 2 0)) 12 (vp_updL (vp_updL (vp_updL (ev_J0 12) 0 0) 1 0) 2 0)) (ev_sR (ev_sR (ev_sR (ev_sR ev_R0 0 65) 1 66) 2 67) 3 68) ([.inl (1, .inl (upd (fun _ => 0) 0 0)), .inl (1, .inr (.inl (vp_updL (fun _ => 0) 0 0))), .inl (1, .inr (.inl (vp_updL (fun _ => 0) 0 0))), .inl (1, .inr (.inl (vp_updL (fun _ => 0) 0 0)))] : List ez_C)), cz, kz) := by
  intro G
  rfl
theorem sp_z_69_rule (X : ez_X) : ev_W X 152 0 (ez_lay [.ref 1, .int 2]) [] (ev_hp (ev_sI (ev_sI ev_I0 6 (upd (upd (ev_I0 6) 4 1) 3 1)) 13 (upd (ev_I0 13) 8 1)) (ev_sJ (ev_sJ ev_J0 11 (vp_updL (vp_updL (vp_updL (ev_J0 11) 0 0) 1 0) 2 0)) 12 (vp_updL (vp_updL (vp_updL (ev_J0 12) 0 0) 1 0) 2 0)) (ev_sR (ev_sR (ev_sR (ev_sR ev_R0 0 65) 1 66) 2 67) 3 68) ([.inl (1, .inl (upd (fun _ => 0) 0 0)), .inl (1, .inr (.inl (vp_updL (fun _ => 0) 0 0))), .inl (1, .inr (.inl (vp_updL (fun _ => 0) 0 0))), .inl (1, .inr (.inl (vp_updL (fun _ => 0) 0 0)))] : List ez_C)) 0 0 (fun r h1 c1 k1 => r = (some (.int 0)) ∧ h1 = (ev_hp (ev_sI (ev_sI ev_I0 6 (upd (upd (ev_I0 6) 4 1) 3 1)) 13 (upd (ev_I0 13) 8 1)) (ev_sJ (ev_sJ ev_J0 11 (vp_updL (vp_updL (vp_updL (ev_J0 11) 0 0) 1 0) 2 0)) 12 (vp_updL (vp_updL (vp_updL (ev_J0 12) 0 0) 1 0) 2 0)) (ev_sR (ev_sR (ev_sR (ev_sR ev_R0 0 65) 1 66) 2 67) 3 68) ([.inl (1, .inl (upd (fun _ => 0) 0 0)), .inl (1, .inr (.inl (vp_updL (fun _ => 0) 0 0))), .inl (1, .inr (.inl (vp_updL (fun _ => 0) 0 0))), .inl (1, .inr (.inl (vp_updL (fun _ => 0) 0 0)))] : List ez_C)) ∧ c1 = 0 ∧ k1 = 0) := by
  refine ev_call (sp_z_69_rule_r1 X  _ _) (sp_z_70_at X) ?_
  rintro _ _ _ _ ⟨rfl, rfl, rfl, rfl⟩
  refine ev_ret (sp_z_69_rule_r2 X  _ _) ?_
  exact ⟨rfl, rfl, rfl, rfl⟩
set_option maxRecDepth 100000 in
set_option maxHeartbeats 100000 in
theorem sp_z_65_isLeft_r1 (X : ez_X)  (cz kz : Nat) : ∀ G : ez_F, fx_up X 3 G 109 0 [.ref 13, .int 0] [] (ev_hp (ev_sI (ev_sI ev_I0 6 (upd (upd (ev_I0 6) 4 1) 3 1)) 13 (upd (ev_I0 13) 8 1)) (ev_sJ (ev_sJ ev_J0 11 (vp_updL (vp_updL (vp_updL (ev_J0 11) 0 0) 1 0) 2 0)) 12 (vp_updL (vp_updL (vp_updL (ev_J0 12) 0 0) 1 0) 2 0)) (ev_sR (ev_sR (ev_sR (ev_sR ev_R0 0 65) 1 66) 2 67) 3 68) ([.inl (1, .inl (upd (fun _ => 0) 0 0)), .inl (1, .inr (.inl (vp_updL (fun _ => 0) 0 0))), .inl (1, .inr (.inl (vp_updL (fun _ => 0) 0 0))), .inl (1, .inr (.inl (vp_updL (fun _ => 0) 0 0)))] : List ez_C)) cz kz = ev_C G 113 [.ref 13, .int 0] (ev_hp (ev_sI (ev_sI ev_I0 6 (upd (upd (ev_I0 6) 4 1) 3 1)) 13 (upd (ev_I0 13) 8 1)) (ev_sJ (ev_sJ ev_J0 11 (vp_updL (vp_updL (vp_updL (ev_J0 11) 0 0) 1 0) 2 0)) 12 (vp_updL (vp_updL (vp_updL (ev_J0 12) 0 0) 1 0) 2 0)) (ev_sR (ev_sR (ev_sR (ev_sR ev_R0 0 65) 1 66) 2 67) 3 68) ([.inl (1, .inl (upd (fun _ => 0) 0 0)), .inl (1, .inr (.inl (vp_updL (fun _ => 0) 0 0))), .inl (1, .inr (.inl (vp_updL (fun _ => 0) 0 0))), .inl (1, .inr (.inl (vp_updL (fun _ => 0) 0 0)))] : List ez_C)) fun r h1 c1 k1 => G 109 5 [.ref 13, .int 0] (r.toList ++ []) h1 (cz + c1) (kz + k1) := by
  intro G
  rfl
set_option maxRecDepth 100000 in
set_option maxHeartbeats 100000 in
theorem sp_z_65_isLeft_r2 (X : ez_X)  (cz kz : Nat) : ∀ G : ez_F, fx_up X 1 G 109 5 [.ref 13, .int 0] [.long 0] (ev_hp (ev_sI (ev_sI ev_I0 6 (upd (upd (ev_I0 6) 4 1) 3 1)) 13 (upd (ev_I0 13) 8 1)) (ev_sJ (ev_sJ ev_J0 11 (vp_updL (vp_updL (vp_updL (ev_J0 11) 0 0) 1 0) 2 0)) 12 (vp_updL (vp_updL (vp_updL (ev_J0 12) 0 0) 1 0) 2 0)) (ev_sR (ev_sR (ev_sR (ev_sR ev_R0 0 65) 1 66) 2 67) 3 68) ([.inl (1, .inl (upd (fun _ => 0) 0 0)), .inl (1, .inr (.inl (vp_updL (fun _ => 0) 0 0))), .inl (1, .inr (.inl (vp_updL (fun _ => 0) 0 0))), .inl (1, .inr (.inl (vp_updL (fun _ => 0) 0 0)))] : List ez_C)) cz kz = ev_C G 237 [.long 0] (ev_hp (ev_sI (ev_sI ev_I0 6 (upd (upd (ev_I0 6) 4 1) 3 1)) 13 (upd (ev_I0 13) 8 1)) (ev_sJ (ev_sJ ev_J0 11 (vp_updL (vp_updL (vp_updL (ev_J0 11) 0 0) 1 0) 2 0)) 12 (vp_updL (vp_updL (vp_updL (ev_J0 12) 0 0) 1 0) 2 0)) (ev_sR (ev_sR (ev_sR (ev_sR ev_R0 0 65) 1 66) 2 67) 3 68) ([.inl (1, .inl (upd (fun _ => 0) 0 0)), .inl (1, .inr (.inl (vp_updL (fun _ => 0) 0 0))), .inl (1, .inr (.inl (vp_updL (fun _ => 0) 0 0))), .inl (1, .inr (.inl (vp_updL (fun _ => 0) 0 0)))] : List ez_C)) fun r h1 c1 k1 => G 109 8 [.ref 13, .int 0] (r.toList ++ []) h1 (cz + c1) (kz + k1) := by
  intro G
  rfl
set_option maxRecDepth 100000 in
set_option maxHeartbeats 100000 in
theorem sp_z_65_isLeft_r3 (X : ez_X)  (cz kz : Nat) : ∀ G : ez_F, fx_up X 4 G 109 8 [.ref 13, .int 0] [.int 0] (ev_hp (ev_sI (ev_sI ev_I0 6 (upd (upd (ev_I0 6) 4 1) 3 1)) 13 (upd (ev_I0 13) 8 1)) (ev_sJ (ev_sJ ev_J0 11 (vp_updL (vp_updL (vp_updL (ev_J0 11) 0 0) 1 0) 2 0)) 12 (vp_updL (vp_updL (vp_updL (ev_J0 12) 0 0) 1 0) 2 0)) (ev_sR (ev_sR (ev_sR (ev_sR ev_R0 0 65) 1 66) 2 67) 3 68) ([.inl (1, .inl (upd (fun _ => 0) 0 0)), .inl (1, .inr (.inl (vp_updL (fun _ => 0) 0 0))), .inl (1, .inr (.inl (vp_updL (fun _ => 0) 0 0))), .inl (1, .inr (.inl (vp_updL (fun _ => 0) 0 0)))] : List ez_C)) cz kz = ev_C G 152 [.ref 1, .int 2] (ev_hp (ev_sI (ev_sI ev_I0 6 (upd (upd (ev_I0 6) 4 1) 3 1)) 13 (upd (ev_I0 13) 8 1)) (ev_sJ (ev_sJ ev_J0 11 (vp_updL (vp_updL (vp_updL (ev_J0 11) 0 0) 1 0) 2 0)) 12 (vp_updL (vp_updL (vp_updL (ev_J0 12) 0 0) 1 0) 2 0)) (ev_sR (ev_sR (ev_sR (ev_sR ev_R0 0 65) 1 66) 2 67) 3 68) ([.inl (1, .inl (upd (fun _ => 0) 0 0)), .inl (1, .inr (.inl (vp_updL (fun _ => 0) 0 0))), .inl (1, .inr (.inl (vp_updL (fun _ => 0) 0 0))), .inl (1, .inr (.inl (vp_updL (fun _ => 0) 0 0)))] : List ez_C)) fun r h1 c1 k1 => G 109 16 [.ref 13, .int 0] (r.toList ++ [.int 0]) h1 (cz + c1) (kz + k1) := by
  intro G
  rfl
set_option maxRecDepth 100000 in
set_option maxHeartbeats 100000 in
theorem sp_z_65_isLeft_r4 (X : ez_X)  (cz kz : Nat) : ∀ G : ez_F, fx_up X 4 G 109 16 [.ref 13, .int 0] [.int 0, .int 0] (ev_hp (ev_sI (ev_sI ev_I0 6 (upd (upd (ev_I0 6) 4 1) 3 1)) 13 (upd (ev_I0 13) 8 1)) (ev_sJ (ev_sJ ev_J0 11 (vp_updL (vp_updL (vp_updL (ev_J0 11) 0 0) 1 0) 2 0)) 12 (vp_updL (vp_updL (vp_updL (ev_J0 12) 0 0) 1 0) 2 0)) (ev_sR (ev_sR (ev_sR (ev_sR ev_R0 0 65) 1 66) 2 67) 3 68) ([.inl (1, .inl (upd (fun _ => 0) 0 0)), .inl (1, .inr (.inl (vp_updL (fun _ => 0) 0 0))), .inl (1, .inr (.inl (vp_updL (fun _ => 0) 0 0))), .inl (1, .inr (.inl (vp_updL (fun _ => 0) 0 0)))] : List ez_C)) cz kz = some (some (.int 1), (ev_hp (ev_sI (ev_sI ev_I0 6 (upd (upd (ev_I0 6) 4 1) 3 1)) 13 (upd (ev_I0 13) 8 1)) (ev_sJ (ev_sJ ev_J0 11 (vp_updL (vp_updL (vp_updL (ev_J0 11) 0 0) 1 0) 2 0)) 12 (vp_updL (vp_updL (vp_updL (ev_J0 12) 0 0) 1 0) 2 0)) (ev_sR (ev_sR (ev_sR (ev_sR ev_R0 0 65) 1 66) 2 67) 3 68) ([.inl (1, .inl (upd (fun _ => 0) 0 0)), .inl (1, .inr (.inl (vp_updL (fun _ => 0) 0 0))), .inl (1, .inr (.inl (vp_updL (fun _ => 0) 0 0))), .inl (1, .inr (.inl (vp_updL (fun _ => 0) 0 0)))] : List ez_C)), cz, kz) := by
  intro G
  rfl
theorem sp_z_65_isLeft (X : ez_X) : ev_W X 109 0 (ez_lay [.ref 13, .int 0]) [] (ev_hp (ev_sI (ev_sI ev_I0 6 (upd (upd (ev_I0 6) 4 1) 3 1)) 13 (upd (ev_I0 13) 8 1)) (ev_sJ (ev_sJ ev_J0 11 (vp_updL (vp_updL (vp_updL (ev_J0 11) 0 0) 1 0) 2 0)) 12 (vp_updL (vp_updL (vp_updL (ev_J0 12) 0 0) 1 0) 2 0)) (ev_sR (ev_sR (ev_sR (ev_sR ev_R0 0 65) 1 66) 2 67) 3 68) ([.inl (1, .inl (upd (fun _ => 0) 0 0)), .inl (1, .inr (.inl (vp_updL (fun _ => 0) 0 0))), .inl (1, .inr (.inl (vp_updL (fun _ => 0) 0 0))), .inl (1, .inr (.inl (vp_updL (fun _ => 0) 0 0)))] : List ez_C)) 0 0 (fun r h1 c1 k1 => r = (some (.int 1)) ∧ h1 = (ev_hp (ev_sI (ev_sI ev_I0 6 (upd (upd (ev_I0 6) 4 1) 3 1)) 13 (upd (ev_I0 13) 8 1)) (ev_sJ (ev_sJ ev_J0 11 (vp_updL (vp_updL (vp_updL (ev_J0 11) 0 0) 1 0) 2 0)) 12 (vp_updL (vp_updL (vp_updL (ev_J0 12) 0 0) 1 0) 2 0)) (ev_sR (ev_sR (ev_sR (ev_sR ev_R0 0 65) 1 66) 2 67) 3 68) ([.inl (1, .inl (upd (fun _ => 0) 0 0)), .inl (1, .inr (.inl (vp_updL (fun _ => 0) 0 0))), .inl (1, .inr (.inl (vp_updL (fun _ => 0) 0 0))), .inl (1, .inr (.inl (vp_updL (fun _ => 0) 0 0)))] : List ez_C)) ∧ c1 = 0 ∧ k1 = 0) := by
  refine ev_call (sp_z_65_isLeft_r1 X  _ _) (sp_z_66_wrongs X) ?_
  rintro _ _ _ _ ⟨rfl, rfl, rfl, rfl⟩
  refine ev_call (sp_z_65_isLeft_r2 X  _ _) (sp_z_68_bitCount X) ?_
  rintro _ _ _ _ ⟨rfl, rfl, rfl, rfl⟩
  refine ev_call (sp_z_65_isLeft_r3 X  _ _) (sp_z_69_rule X) ?_
  rintro _ _ _ _ ⟨rfl, rfl, rfl, rfl⟩
  refine ev_ret (sp_z_65_isLeft_r4 X  _ _) ?_
  exact ⟨rfl, rfl, rfl, rfl⟩
set_option maxRecDepth 100000 in
set_option maxHeartbeats 100000 in
theorem sq_1_numberOfLeft_r1 (X : ez_X) (I : Nat → Nat → Int32) (J : Nat → Nat → Int64) (R : Nat → Nat) (T : List ez_C) (a : Int32) (cz kz : Nat) : ∀ G : ez_F, fx_up X 12 G 110 0 [.ref 13, .int a] [] (ev_hp (ev_sI (ev_sI ev_I0 6 (upd (upd (ev_I0 6) 4 1) 3 1)) 13 (upd (ev_I0 13) 8 1)) (ev_sJ (ev_sJ ev_J0 11 (vp_updL (vp_updL (vp_updL (ev_J0 11) 0 0) 1 0) 2 0)) 12 (vp_updL (vp_updL (vp_updL (ev_J0 12) 0 0) 1 0) 2 0)) (ev_sR (ev_sR (ev_sR (ev_sR ev_R0 0 65) 1 66) 2 67) 3 68) ([.inl (1, .inl (upd (fun _ => 0) 0 0)), .inl (1, .inr (.inl (vp_updL (fun _ => 0) 0 0))), .inl (1, .inr (.inl (vp_updL (fun _ => 0) 0 0))), .inl (1, .inr (.inl (vp_updL (fun _ => 0) 0 0)))] : List ez_C)) cz kz = ev_C G 109 [.ref 13, .int 0] (ev_hp (ev_sI (ev_sI ev_I0 6 (upd (upd (ev_I0 6) 4 1) 3 1)) 13 (upd (ev_I0 13) 8 1)) (ev_sJ (ev_sJ ev_J0 11 (vp_updL (vp_updL (vp_updL (ev_J0 11) 0 0) 1 0) 2 0)) 12 (vp_updL (vp_updL (vp_updL (ev_J0 12) 0 0) 1 0) 2 0)) (ev_sR (ev_sR (ev_sR (ev_sR ev_R0 0 65) 1 66) 2 67) 3 68) ([.inl (1, .inl (upd (fun _ => 0) 0 0)), .inl (1, .inr (.inl (vp_updL (fun _ => 0) 0 0))), .inl (1, .inr (.inl (vp_updL (fun _ => 0) 0 0))), .inl (1, .inr (.inl (vp_updL (fun _ => 0) 0 0)))] : List ez_C)) fun r h1 c1 k1 => G 110 20 [.ref 13, .int a, .int 0, .int 0] (r.toList ++ []) h1 (cz + c1) (kz + k1) := by
  intro G
  rfl
set_option maxRecDepth 100000 in
set_option maxHeartbeats 100000 in
theorem sq_1_numberOfLeft_r2 (X : ez_X) (I : Nat → Nat → Int32) (J : Nat → Nat → Int64) (R : Nat → Nat) (T : List ez_C) (a : Int32) (cz kz : Nat) : ∀ G : ez_F, fx_up X 4 G 110 20 [.ref 13, .int a, .int 0, .int 0] [.int 1] (ev_hp (ev_sI (ev_sI ev_I0 6 (upd (upd (ev_I0 6) 4 1) 3 1)) 13 (upd (ev_I0 13) 8 1)) (ev_sJ (ev_sJ ev_J0 11 (vp_updL (vp_updL (vp_updL (ev_J0 11) 0 0) 1 0) 2 0)) 12 (vp_updL (vp_updL (vp_updL (ev_J0 12) 0 0) 1 0) 2 0)) (ev_sR (ev_sR (ev_sR (ev_sR ev_R0 0 65) 1 66) 2 67) 3 68) ([.inl (1, .inl (upd (fun _ => 0) 0 0)), .inl (1, .inr (.inl (vp_updL (fun _ => 0) 0 0))), .inl (1, .inr (.inl (vp_updL (fun _ => 0) 0 0))), .inl (1, .inr (.inl (vp_updL (fun _ => 0) 0 0)))] : List ez_C)) cz kz = bif decide (¬ (0 : Int32) = a) then G 110 30 [.ref 13, .int a, .int 0, .int 0] [] (ev_hp (ev_sI (ev_sI ev_I0 6 (upd (upd (ev_I0 6) 4 1) 3 1)) 13 (upd (ev_I0 13) 8 1)) (ev_sJ (ev_sJ ev_J0 11 (vp_updL (vp_updL (vp_updL (ev_J0 11) 0 0) 1 0) 2 0)) 12 (vp_updL (vp_updL (vp_updL (ev_J0 12) 0 0) 1 0) 2 0)) (ev_sR (ev_sR (ev_sR (ev_sR ev_R0 0 65) 1 66) 2 67) 3 68) ([.inl (1, .inl (upd (fun _ => 0) 0 0)), .inl (1, .inr (.inl (vp_updL (fun _ => 0) 0 0))), .inl (1, .inr (.inl (vp_updL (fun _ => 0) 0 0))), .inl (1, .inr (.inl (vp_updL (fun _ => 0) 0 0)))] : List ez_C)) cz kz else G 110 28 [.ref 13, .int a, .int 0, .int 0] [] (ev_hp (ev_sI (ev_sI ev_I0 6 (upd (upd (ev_I0 6) 4 1) 3 1)) 13 (upd (ev_I0 13) 8 1)) (ev_sJ (ev_sJ ev_J0 11 (vp_updL (vp_updL (vp_updL (ev_J0 11) 0 0) 1 0) 2 0)) 12 (vp_updL (vp_updL (vp_updL (ev_J0 12) 0 0) 1 0) 2 0)) (ev_sR (ev_sR (ev_sR (ev_sR ev_R0 0 65) 1 66) 2 67) 3 68) ([.inl (1, .inl (upd (fun _ => 0) 0 0)), .inl (1, .inr (.inl (vp_updL (fun _ => 0) 0 0))), .inl (1, .inr (.inl (vp_updL (fun _ => 0) 0 0))), .inl (1, .inr (.inl (vp_updL (fun _ => 0) 0 0)))] : List ez_C)) cz kz := by
  intro G
  rfl
set_option maxRecDepth 100000 in
set_option maxHeartbeats 100000 in
theorem sq_1_numberOfLeft_r3 (X : ez_X) (I : Nat → Nat → Int32) (J : Nat → Nat → Int64) (R : Nat → Nat) (T : List ez_C) (a : Int32) (cz kz : Nat) : ∀ G : ez_F, fx_up X 10 G 110 30 [.ref 13, .int a, .int 0, .int 0] [] (ev_hp (ev_sI (ev_sI ev_I0 6 (upd (upd (ev_I0 6) 4 1) 3 1)) 13 (upd (ev_I0 13) 8 1)) (ev_sJ (ev_sJ ev_J0 11 (vp_updL (vp_updL (vp_updL (ev_J0 11) 0 0) 1 0) 2 0)) 12 (vp_updL (vp_updL (vp_updL (ev_J0 12) 0 0) 1 0) 2 0)) (ev_sR (ev_sR (ev_sR (ev_sR ev_R0 0 65) 1 66) 2 67) 3 68) ([.inl (1, .inl (upd (fun _ => 0) 0 0)), .inl (1, .inr (.inl (vp_updL (fun _ => 0) 0 0))), .inl (1, .inr (.inl (vp_updL (fun _ => 0) 0 0))), .inl (1, .inr (.inl (vp_updL (fun _ => 0) 0 0)))] : List ez_C)) cz kz = some (some (.int (-1)), (ev_hp (ev_sI (ev_sI ev_I0 6 (upd (upd (ev_I0 6) 4 1) 3 1)) 13 (upd (ev_I0 13) 8 1)) (ev_sJ (ev_sJ ev_J0 11 (vp_updL (vp_updL (vp_updL (ev_J0 11) 0 0) 1 0) 2 0)) 12 (vp_updL (vp_updL (vp_updL (ev_J0 12) 0 0) 1 0) 2 0)) (ev_sR (ev_sR (ev_sR (ev_sR ev_R0 0 65) 1 66) 2 67) 3 68) ([.inl (1, .inl (upd (fun _ => 0) 0 0)), .inl (1, .inr (.inl (vp_updL (fun _ => 0) 0 0))), .inl (1, .inr (.inl (vp_updL (fun _ => 0) 0 0))), .inl (1, .inr (.inl (vp_updL (fun _ => 0) 0 0)))] : List ez_C)), cz, kz) := by
  intro G
  rfl
theorem sq_1_numberOfLeft (X : ez_X) (I : Nat → Nat → Int32) (J : Nat → Nat → Int64) (R : Nat → Nat) (T : List ez_C) (a : Int32) (ha : 0 < a) : ev_W X 110 0 (ez_lay [.ref 13, .int a]) [] (ev_hp (ev_sI (ev_sI ev_I0 6 (upd (upd (ev_I0 6) 4 1) 3 1)) 13 (upd (ev_I0 13) 8 1)) (ev_sJ (ev_sJ ev_J0 11 (vp_updL (vp_updL (vp_updL (ev_J0 11) 0 0) 1 0) 2 0)) 12 (vp_updL (vp_updL (vp_updL (ev_J0 12) 0 0) 1 0) 2 0)) (ev_sR (ev_sR (ev_sR (ev_sR ev_R0 0 65) 1 66) 2 67) 3 68) ([.inl (1, .inl (upd (fun _ => 0) 0 0)), .inl (1, .inr (.inl (vp_updL (fun _ => 0) 0 0))), .inl (1, .inr (.inl (vp_updL (fun _ => 0) 0 0))), .inl (1, .inr (.inl (vp_updL (fun _ => 0) 0 0)))] : List ez_C)) 0 0 (fun r h1 c1 k1 => ((¬ (0 : Int32) = a) ∧ r = some (.int (-1)) ∧ h1 = (ev_hp (ev_sI (ev_sI ev_I0 6 (upd (upd (ev_I0 6) 4 1) 3 1)) 13 (upd (ev_I0 13) 8 1)) (ev_sJ (ev_sJ ev_J0 11 (vp_updL (vp_updL (vp_updL (ev_J0 11) 0 0) 1 0) 2 0)) 12 (vp_updL (vp_updL (vp_updL (ev_J0 12) 0 0) 1 0) 2 0)) (ev_sR (ev_sR (ev_sR (ev_sR ev_R0 0 65) 1 66) 2 67) 3 68) ([.inl (1, .inl (upd (fun _ => 0) 0 0)), .inl (1, .inr (.inl (vp_updL (fun _ => 0) 0 0))), .inl (1, .inr (.inl (vp_updL (fun _ => 0) 0 0))), .inl (1, .inr (.inl (vp_updL (fun _ => 0) 0 0)))] : List ez_C)) ∧ c1 = 0 ∧ k1 = 0)) := by
  refine ev_call (sq_1_numberOfLeft_r1 X I J R T a _ _) (sp_z_65_isLeft X) ?_
  rintro _ _ _ _ ⟨rfl, rfl, rfl, rfl⟩
  refine ev_if (sq_1_numberOfLeft_r2 X I J R T a _ _) (fun b1 => ?_) (fun b1 => ?_)
  · replace b1 := of_decide_eq_true b1
    refine ev_ret (sq_1_numberOfLeft_r3 X I J R T a _ _) ?_
    exact ⟨b1, rfl, rfl, rfl, rfl⟩
  · replace b1 := of_decide_eq_false b1
    exact absurd (fun hz : 0 = a => absurd (hz ▸ ha) Int32.lt_irrefl) b1
set_option maxRecDepth 100000 in
set_option maxHeartbeats 100000 in
theorem ef_which_n_r1 (X : ez_X) (I : Nat → Nat → Int32) (J : Nat → Nat → Int64) (R : Nat → Nat) (T : List ez_C) (a : Int32) (cz kz : Nat) : ∀ G : ez_F, fx_up X 2 G 54 0 [.ref 0, .int a] [] (ev_hp ev_I0 ev_J0 ev_R0 []) cz kz = bif decide (0 ≤ a) then G 54 7 [.ref 0, .int a] [] (ev_hp ev_I0 ev_J0 ev_R0 []) cz kz else G 54 4 [.ref 0, .int a] [] (ev_hp ev_I0 ev_J0 ev_R0 []) cz kz := by
  intro G
  rfl
set_option maxRecDepth 100000 in
set_option maxHeartbeats 100000 in
theorem ef_which_n_r2 (X : ez_X) (I : Nat → Nat → Int32) (J : Nat → Nat → Int64) (R : Nat → Nat) (T : List ez_C) (a : Int32) (cz kz : Nat) : ∀ G : ez_F, fx_up X 2 G 54 7 [.ref 0, .int a] [] (ev_hp ev_I0 ev_J0 ev_R0 []) cz kz = ev_C G 52 [.ref 0] (ev_hp ev_I0 ev_J0 ev_R0 []) fun r h1 c1 k1 => G 54 11 [.ref 0, .int a] (r.toList ++ []) h1 (cz + c1) (kz + k1) := by
  intro G
  rfl
set_option maxRecDepth 100000 in
set_option maxHeartbeats 100000 in
theorem ef_which_n_r3 (X : ez_X) (I : Nat → Nat → Int32) (J : Nat → Nat → Int64) (R : Nat → Nat) (T : List ez_C) (a : Int32) (cz kz : Nat) : ∀ G : ez_F, fx_up X 4 G 54 11 [.ref 0, .int a] [.int 0] (ev_hp (ev_sI ev_I0 6 (upd (upd (ev_I0 6) 4 1) 3 1)) ev_J0 (ev_sR ev_R0 0 65) ([.inl (1, .inl (upd (fun _ => 0) 0 0))] : List ez_C)) cz kz = ev_C G 112 [.ref 13] (ev_hp (ev_sI ev_I0 6 (upd (upd (ev_I0 6) 4 1) 3 1)) ev_J0 (ev_sR ev_R0 0 65) ([.inl (1, .inl (upd (fun _ => 0) 0 0))] : List ez_C)) fun r h1 c1 k1 => G 54 24 [.ref 0, .int a] (r.toList ++ []) h1 (cz + c1) (kz + k1) := by
  intro G
  rfl
set_option maxRecDepth 100000 in
set_option maxHeartbeats 100000 in
theorem ef_which_n_r4 (X : ez_X) (I : Nat → Nat → Int32) (J : Nat → Nat → Int64) (R : Nat → Nat) (T : List ez_C) (a : Int32) (cz kz : Nat) : ∀ G : ez_F, fx_up X 4 G 54 24 [.ref 0, .int a] [] (ev_hp (ev_sI (ev_sI ev_I0 6 (upd (upd (ev_I0 6) 4 1) 3 1)) 13 (upd (ev_I0 13) 8 1)) (ev_sJ (ev_sJ ev_J0 11 (vp_updL (vp_updL (vp_updL (ev_J0 11) 0 0) 1 0) 2 0)) 12 (vp_updL (vp_updL (vp_updL (ev_J0 12) 0 0) 1 0) 2 0)) (ev_sR (ev_sR (ev_sR (ev_sR ev_R0 0 65) 1 66) 2 67) 3 68) ([.inl (1, .inl (upd (fun _ => 0) 0 0)), .inl (1, .inr (.inl (vp_updL (fun _ => 0) 0 0))), .inl (1, .inr (.inl (vp_updL (fun _ => 0) 0 0))), .inl (1, .inr (.inl (vp_updL (fun _ => 0) 0 0)))] : List ez_C)) cz kz = ev_C G 110 [.ref 13, .int a] (ev_hp (ev_sI (ev_sI ev_I0 6 (upd (upd (ev_I0 6) 4 1) 3 1)) 13 (upd (ev_I0 13) 8 1)) (ev_sJ (ev_sJ ev_J0 11 (vp_updL (vp_updL (vp_updL (ev_J0 11) 0 0) 1 0) 2 0)) 12 (vp_updL (vp_updL (vp_updL (ev_J0 12) 0 0) 1 0) 2 0)) (ev_sR (ev_sR (ev_sR (ev_sR ev_R0 0 65) 1 66) 2 67) 3 68) ([.inl (1, .inl (upd (fun _ => 0) 0 0)), .inl (1, .inr (.inl (vp_updL (fun _ => 0) 0 0))), .inl (1, .inr (.inl (vp_updL (fun _ => 0) 0 0))), .inl (1, .inr (.inl (vp_updL (fun _ => 0) 0 0)))] : List ez_C)) fun r h1 c1 k1 => G 54 32 [.ref 0, .int a] (r.toList ++ []) h1 (cz + c1) (kz + k1) := by
  intro G
  rfl
set_option maxRecDepth 100000 in
set_option maxHeartbeats 100000 in
theorem ef_which_n_r5 (X : ez_X) (I : Nat → Nat → Int32) (J : Nat → Nat → Int64) (R : Nat → Nat) (T : List ez_C) (a : Int32) (cz kz : Nat) : ∀ G : ez_F, fx_up X 1 G 54 32 [.ref 0, .int a] [.int (-1)] (ev_hp (ev_sI (ev_sI ev_I0 6 (upd (upd (ev_I0 6) 4 1) 3 1)) 13 (upd (ev_I0 13) 8 1)) (ev_sJ (ev_sJ ev_J0 11 (vp_updL (vp_updL (vp_updL (ev_J0 11) 0 0) 1 0) 2 0)) 12 (vp_updL (vp_updL (vp_updL (ev_J0 12) 0 0) 1 0) 2 0)) (ev_sR (ev_sR (ev_sR (ev_sR ev_R0 0 65) 1 66) 2 67) 3 68) ([.inl (1, .inl (upd (fun _ => 0) 0 0)), .inl (1, .inr (.inl (vp_updL (fun _ => 0) 0 0))), .inl (1, .inr (.inl (vp_updL (fun _ => 0) 0 0))), .inl (1, .inr (.inl (vp_updL (fun _ => 0) 0 0)))] : List ez_C)) cz kz = some (some (.int (-1)), (ev_hp (ev_sI (ev_sI ev_I0 6 (upd (upd (ev_I0 6) 4 1) 3 1)) 13 (upd (ev_I0 13) 8 1)) (ev_sJ (ev_sJ ev_J0 11 (vp_updL (vp_updL (vp_updL (ev_J0 11) 0 0) 1 0) 2 0)) 12 (vp_updL (vp_updL (vp_updL (ev_J0 12) 0 0) 1 0) 2 0)) (ev_sR (ev_sR (ev_sR (ev_sR ev_R0 0 65) 1 66) 2 67) 3 68) ([.inl (1, .inl (upd (fun _ => 0) 0 0)), .inl (1, .inr (.inl (vp_updL (fun _ => 0) 0 0))), .inl (1, .inr (.inl (vp_updL (fun _ => 0) 0 0))), .inl (1, .inr (.inl (vp_updL (fun _ => 0) 0 0)))] : List ez_C)), cz, kz) := by
  intro G
  rfl
theorem ef_which_n (X : ez_X) (I : Nat → Nat → Int32) (J : Nat → Nat → Int64) (R : Nat → Nat) (T : List ez_C) (a : Int32) (ha : 0 < a) : ev_W X 54 0 (ez_lay [.ref 0, .int a]) [] (ev_hp ev_I0 ev_J0 ev_R0 []) 0 0 (fun r h1 c1 k1 => ((0 ≤ a) ∧ ((¬ (0 : Int32) = a)) ∧ r = some (.int (-1)) ∧ h1 = (ev_hp (ev_sI (ev_sI ev_I0 6 (upd (upd (ev_I0 6) 4 1) 3 1)) 13 (upd (ev_I0 13) 8 1)) (ev_sJ (ev_sJ ev_J0 11 (vp_updL (vp_updL (vp_updL (ev_J0 11) 0 0) 1 0) 2 0)) 12 (vp_updL (vp_updL (vp_updL (ev_J0 12) 0 0) 1 0) 2 0)) (ev_sR (ev_sR (ev_sR (ev_sR ev_R0 0 65) 1 66) 2 67) 3 68) ([.inl (1, .inl (upd (fun _ => 0) 0 0)), .inl (1, .inr (.inl (vp_updL (fun _ => 0) 0 0))), .inl (1, .inr (.inl (vp_updL (fun _ => 0) 0 0))), .inl (1, .inr (.inl (vp_updL (fun _ => 0) 0 0)))] : List ez_C)) ∧ c1 = 4 ∧ k1 = 4)) := by
  refine ev_if (ef_which_n_r1 X I J R T a _ _) (fun b1 => ?_) (fun b1 => ?_)
  · replace b1 := of_decide_eq_true b1
    refine ev_call (ef_which_n_r2 X I J R T a _ _) (sp_z_1_tooMany X) ?_
    rintro _ _ _ _ ⟨rfl, rfl, rfl, rfl⟩
    refine ev_call (ef_which_n_r3 X I J R T a _ _) (sp_z_25_replay X) ?_
    rintro _ _ _ _ ⟨rfl, rfl, rfl, rfl⟩
    refine ev_call (ef_which_n_r4 X I J R T a _ _) (sq_1_numberOfLeft X (ev_sI (ev_sI ev_I0 6 (upd (upd (ev_I0 6) 4 1) 3 1)) 13 (upd (ev_I0 13) 8 1)) (ev_sJ (ev_sJ ev_J0 11 (vp_updL (vp_updL (vp_updL (ev_J0 11) 0 0) 1 0) 2 0)) 12 (vp_updL (vp_updL (vp_updL (ev_J0 12) 0 0) 1 0) 2 0)) (ev_sR (ev_sR (ev_sR (ev_sR ev_R0 0 65) 1 66) 2 67) 3 68) ([.inl (1, .inl (upd (fun _ => 0) 0 0)), .inl (1, .inr (.inl (vp_updL (fun _ => 0) 0 0))), .inl (1, .inr (.inl (vp_updL (fun _ => 0) 0 0))), .inl (1, .inr (.inl (vp_updL (fun _ => 0) 0 0)))] : List ez_C) a ha) ?_
    rintro r0 _ _ _ (⟨d102, rfl, rfl, rfl, rfl⟩)
    refine ev_ret (ef_which_n_r5 X I J R T a _ _) ?_
    exact ⟨b1, d102, rfl, rfl, rfl, rfl⟩
  · replace b1 := of_decide_eq_false b1
    exact absurd (Int32.le_of_lt ha) b1
set_option maxRecDepth 100000 in
set_option maxHeartbeats 100000 in
theorem sp_z_72_areLaid_r1 (X : ez_X)  (cz kz : Nat) : ∀ G : ez_F, fx_up X 24 G 167 0 [.ref 35] [] (ev_hp (ev_sI (ev_sI ev_I0 6 (upd (upd (ev_I0 6) 4 1) 3 1)) 13 (upd (ev_I0 13) 8 1)) (ev_sJ (ev_sJ ev_J0 11 (vp_updL (vp_updL (vp_updL (ev_J0 11) 0 0) 1 0) 2 0)) 12 (vp_updL (vp_updL (vp_updL (ev_J0 12) 0 0) 1 0) 2 0)) (ev_sR (ev_sR (ev_sR (ev_sR ev_R0 0 65) 1 66) 2 67) 3 68) ([.inl (1, .inl (upd (fun _ => 0) 0 0)), .inl (1, .inr (.inl (vp_updL (fun _ => 0) 0 0))), .inl (1, .inr (.inl (vp_updL (fun _ => 0) 0 0))), .inl (1, .inr (.inl (vp_updL (fun _ => 0) 0 0)))] : List ez_C)) cz kz = G 167 83 [.ref 35, .long 1, ez_fill, .int 1] [] (ev_hp (ev_sI (ev_sI (ev_sI ev_I0 6 (upd (upd (ev_I0 6) 4 1) 3 1)) 13 (upd (ev_I0 13) 8 1)) 35 (upd (ev_I0 35) 14 0)) (ev_sJ (ev_sJ ev_J0 11 (vp_updL (vp_updL (vp_updL (ev_J0 11) 0 0) 1 0) 2 0)) 12 (vp_updL (vp_updL (vp_updL (ev_J0 12) 0 0) 1 0) 2 0)) (ev_sR (ev_sR (ev_sR (ev_sR ev_R0 0 65) 1 66) 2 67) 3 68) ([.inl (1, .inl (upd (fun _ => 0) 0 0)), .inl (1, .inr (.inl (vp_updL (fun _ => 0) 0 0))), .inl (1, .inr (.inl (vp_updL (fun _ => 0) 0 0))), .inl (1, .inr (.inl (vp_updL (fun _ => 0) 0 0)))] : List ez_C)) cz kz := by
  intro G
  rfl
set_option maxRecDepth 100000 in
set_option maxHeartbeats 100000 in
theorem sp_z_72_areLaid_r2 (X : ez_X)  (cz kz : Nat) : ∀ G : ez_F, fx_up X 24 G 167 83 [.ref 35, .long 1, ez_fill, .int 1] [] (ev_hp (ev_sI (ev_sI (ev_sI ev_I0 6 (upd (upd (ev_I0 6) 4 1) 3 1)) 13 (upd (ev_I0 13) 8 1)) 35 (upd (ev_I0 35) 14 0)) (ev_sJ (ev_sJ ev_J0 11 (vp_updL (vp_updL (vp_updL (ev_J0 11) 0 0) 1 0) 2 0)) 12 (vp_updL (vp_updL (vp_updL (ev_J0 12) 0 0) 1 0) 2 0)) (ev_sR (ev_sR (ev_sR (ev_sR ev_R0 0 65) 1 66) 2 67) 3 68) ([.inl (1, .inl (upd (fun _ => 0) 0 0)), .inl (1, .inr (.inl (vp_updL (fun _ => 0) 0 0))), .inl (1, .inr (.inl (vp_updL (fun _ => 0) 0 0))), .inl (1, .inr (.inl (vp_updL (fun _ => 0) 0 0)))] : List ez_C)) cz kz = G 167 162 [.ref 35, .long 1, ez_fill, .int 1, .int 1, .int 1, .int 0, .int 0] [.int 1] (ev_hp (ev_sI (ev_sI (ev_sI ev_I0 6 (upd (upd (ev_I0 6) 4 1) 3 1)) 13 (upd (ev_I0 13) 8 1)) 35 (upd (ev_I0 35) 14 0)) (ev_sJ (ev_sJ ev_J0 11 (vp_updL (vp_updL (vp_updL (ev_J0 11) 0 0) 1 0) 2 0)) 12 (vp_updL (vp_updL (vp_updL (ev_J0 12) 0 0) 1 0) 2 0)) (ev_sR (ev_sR (ev_sR (ev_sR ev_R0 0 65) 1 66) 2 67) 3 68) ([.inl (1, .inl (upd (fun _ => 0) 0 0)), .inl (1, .inr (.inl (vp_updL (fun _ => 0) 0 0))), .inl (1, .inr (.inl (vp_updL (fun _ => 0) 0 0))), .inl (1, .inr (.inl (vp_updL (fun _ => 0) 0 0)))] : List ez_C)) cz kz := by
  intro G
  rfl
set_option maxRecDepth 100000 in
set_option maxHeartbeats 100000 in
theorem sp_z_72_areLaid_r3 (X : ez_X)  (cz kz : Nat) : ∀ G : ez_F, fx_up X 24 G 167 162 [.ref 35, .long 1, ez_fill, .int 1, .int 1, .int 1, .int 0, .int 0] [.int 1] (ev_hp (ev_sI (ev_sI (ev_sI ev_I0 6 (upd (upd (ev_I0 6) 4 1) 3 1)) 13 (upd (ev_I0 13) 8 1)) 35 (upd (ev_I0 35) 14 0)) (ev_sJ (ev_sJ ev_J0 11 (vp_updL (vp_updL (vp_updL (ev_J0 11) 0 0) 1 0) 2 0)) 12 (vp_updL (vp_updL (vp_updL (ev_J0 12) 0 0) 1 0) 2 0)) (ev_sR (ev_sR (ev_sR (ev_sR ev_R0 0 65) 1 66) 2 67) 3 68) ([.inl (1, .inl (upd (fun _ => 0) 0 0)), .inl (1, .inr (.inl (vp_updL (fun _ => 0) 0 0))), .inl (1, .inr (.inl (vp_updL (fun _ => 0) 0 0))), .inl (1, .inr (.inl (vp_updL (fun _ => 0) 0 0)))] : List ez_C)) cz kz = G 167 258 [.ref 35, .long 1, ez_fill, .int 1, .int 1, .int 1, .int 0, .int 0, .int 1, .int 0] [.ref 35, .int 3, .ref 41] (ev_hp (ev_sI (ev_sI (ev_sI (ev_sI ev_I0 6 (upd (upd (ev_I0 6) 4 1) 3 1)) 13 (upd (ev_I0 13) 8 1)) 35 (upd (ev_I0 35) 14 0)) 41 (upd (ev_I0 41) 0 0)) (ev_sJ (ev_sJ ev_J0 11 (vp_updL (vp_updL (vp_updL (ev_J0 11) 0 0) 1 0) 2 0)) 12 (vp_updL (vp_updL (vp_updL (ev_J0 12) 0 0) 1 0) 2 0)) (ev_sR (ev_sR (ev_sR (ev_sR ev_R0 0 65) 1 66) 2 67) 3 68) ([.inl (1, .inl (upd (fun _ => 0) 0 0)), .inl (1, .inr (.inl (vp_updL (fun _ => 0) 0 0))), .inl (1, .inr (.inl (vp_updL (fun _ => 0) 0 0))), .inl (1, .inr (.inl (vp_updL (fun _ => 0) 0 0)))] : List ez_C)) cz kz := by
  intro G
  rfl
set_option maxRecDepth 100000 in
set_option maxHeartbeats 100000 in
theorem sp_z_72_areLaid_r4 (X : ez_X)  (cz kz : Nat) : ∀ G : ez_F, fx_up X 24 G 167 258 [.ref 35, .long 1, ez_fill, .int 1, .int 1, .int 1, .int 0, .int 0, .int 1, .int 0] [.ref 35, .int 3, .ref 41] (ev_hp (ev_sI (ev_sI (ev_sI (ev_sI ev_I0 6 (upd (upd (ev_I0 6) 4 1) 3 1)) 13 (upd (ev_I0 13) 8 1)) 35 (upd (ev_I0 35) 14 0)) 41 (upd (ev_I0 41) 0 0)) (ev_sJ (ev_sJ ev_J0 11 (vp_updL (vp_updL (vp_updL (ev_J0 11) 0 0) 1 0) 2 0)) 12 (vp_updL (vp_updL (vp_updL (ev_J0 12) 0 0) 1 0) 2 0)) (ev_sR (ev_sR (ev_sR (ev_sR ev_R0 0 65) 1 66) 2 67) 3 68) ([.inl (1, .inl (upd (fun _ => 0) 0 0)), .inl (1, .inr (.inl (vp_updL (fun _ => 0) 0 0))), .inl (1, .inr (.inl (vp_updL (fun _ => 0) 0 0))), .inl (1, .inr (.inl (vp_updL (fun _ => 0) 0 0)))] : List ez_C)) cz kz = G 167 167 [.ref 35, .long 1, ez_fill, .int 1, .int 1, .int 1, .int 0, .int 0, .int 1, .int 1] [] (ev_hp (ev_sI (ev_sI (ev_sI (ev_sI ev_I0 6 (upd (upd (ev_I0 6) 4 1) 3 1)) 13 (upd (ev_I0 13) 8 1)) 35 (upd (ev_I0 35) 14 1)) 41 (upd (upd (upd (ev_I0 41) 0 0) 1 0) 2 0)) (ev_sJ (ev_sJ ev_J0 11 (vp_updL (vp_updL (vp_updL (ev_J0 11) 0 0) 1 0) 2 0)) 12 (vp_updL (vp_updL (vp_updL (ev_J0 12) 0 0) 1 0) 2 0)) (ev_sR (ev_sR (ev_sR (ev_sR ev_R0 0 65) 1 66) 2 67) 3 68) ([.inl (1, .inl (upd (fun _ => 0) 0 0)), .inl (1, .inr (.inl (vp_updL (fun _ => 0) 0 0))), .inl (1, .inr (.inl (vp_updL (fun _ => 0) 0 0))), .inl (1, .inr (.inl (vp_updL (fun _ => 0) 0 0)))] : List ez_C)) cz kz := by
  intro G
  rfl
set_option maxRecDepth 100000 in
set_option maxHeartbeats 100000 in
theorem sp_z_72_areLaid_r5 (X : ez_X)  (cz kz : Nat) : ∀ G : ez_F, fx_up X 15 G 167 167 [.ref 35, .long 1, ez_fill, .int 1, .int 1, .int 1, .int 0, .int 0, .int 1, .int 1] [] (ev_hp (ev_sI (ev_sI (ev_sI (ev_sI ev_I0 6 (upd (upd (ev_I0 6) 4 1) 3 1)) 13 (upd (ev_I0 13) 8 1)) 35 (upd (ev_I0 35) 14 1)) 41 (upd (upd (upd (ev_I0 41) 0 0) 1 0) 2 0)) (ev_sJ (ev_sJ ev_J0 11 (vp_updL (vp_updL (vp_updL (ev_J0 11) 0 0) 1 0) 2 0)) 12 (vp_updL (vp_updL (vp_updL (ev_J0 12) 0 0) 1 0) 2 0)) (ev_sR (ev_sR (ev_sR (ev_sR ev_R0 0 65) 1 66) 2 67) 3 68) ([.inl (1, .inl (upd (fun _ => 0) 0 0)), .inl (1, .inr (.inl (vp_updL (fun _ => 0) 0 0))), .inl (1, .inr (.inl (vp_updL (fun _ => 0) 0 0))), .inl (1, .inr (.inl (vp_updL (fun _ => 0) 0 0)))] : List ez_C)) cz kz = some (some (.int 1), (ev_hp (ev_sI (ev_sI (ev_sI (ev_sI ev_I0 6 (upd (upd (ev_I0 6) 4 1) 3 1)) 13 (upd (ev_I0 13) 8 1)) 35 (upd (ev_I0 35) 14 1)) 41 (upd (upd (upd (ev_I0 41) 0 0) 1 0) 2 0)) (ev_sJ (ev_sJ ev_J0 11 (vp_updL (vp_updL (vp_updL (ev_J0 11) 0 0) 1 0) 2 0)) 12 (vp_updL (vp_updL (vp_updL (ev_J0 12) 0 0) 1 0) 2 0)) (ev_sR (ev_sR (ev_sR (ev_sR ev_R0 0 65) 1 66) 2 67) 3 68) ([.inl (1, .inl (upd (fun _ => 0) 0 0)), .inl (1, .inr (.inl (vp_updL (fun _ => 0) 0 0))), .inl (1, .inr (.inl (vp_updL (fun _ => 0) 0 0))), .inl (1, .inr (.inl (vp_updL (fun _ => 0) 0 0)))] : List ez_C)), cz, kz) := by
  intro G
  rfl
theorem sp_z_72_areLaid (X : ez_X) : ev_W X 167 0 (ez_lay [.ref 35]) [] (ev_hp (ev_sI (ev_sI ev_I0 6 (upd (upd (ev_I0 6) 4 1) 3 1)) 13 (upd (ev_I0 13) 8 1)) (ev_sJ (ev_sJ ev_J0 11 (vp_updL (vp_updL (vp_updL (ev_J0 11) 0 0) 1 0) 2 0)) 12 (vp_updL (vp_updL (vp_updL (ev_J0 12) 0 0) 1 0) 2 0)) (ev_sR (ev_sR (ev_sR (ev_sR ev_R0 0 65) 1 66) 2 67) 3 68) ([.inl (1, .inl (upd (fun _ => 0) 0 0)), .inl (1, .inr (.inl (vp_updL (fun _ => 0) 0 0))), .inl (1, .inr (.inl (vp_updL (fun _ => 0) 0 0))), .inl (1, .inr (.inl (vp_updL (fun _ => 0) 0 0)))] : List ez_C)) 0 0 (fun r h1 c1 k1 => r = (some (.int 1)) ∧ h1 = (ev_hp (ev_sI (ev_sI (ev_sI (ev_sI ev_I0 6 (upd (upd (ev_I0 6) 4 1) 3 1)) 13 (upd (ev_I0 13) 8 1)) 35 (upd (ev_I0 35) 14 1)) 41 (upd (upd (upd (ev_I0 41) 0 0) 1 0) 2 0)) (ev_sJ (ev_sJ ev_J0 11 (vp_updL (vp_updL (vp_updL (ev_J0 11) 0 0) 1 0) 2 0)) 12 (vp_updL (vp_updL (vp_updL (ev_J0 12) 0 0) 1 0) 2 0)) (ev_sR (ev_sR (ev_sR (ev_sR ev_R0 0 65) 1 66) 2 67) 3 68) ([.inl (1, .inl (upd (fun _ => 0) 0 0)), .inl (1, .inr (.inl (vp_updL (fun _ => 0) 0 0))), .inl (1, .inr (.inl (vp_updL (fun _ => 0) 0 0))), .inl (1, .inr (.inl (vp_updL (fun _ => 0) 0 0)))] : List ez_C)) ∧ c1 = 0 ∧ k1 = 0) := by
  refine ev_seg (sp_z_72_areLaid_r1 X  _ _) ?_
  refine ev_seg (sp_z_72_areLaid_r2 X  _ _) ?_
  refine ev_seg (sp_z_72_areLaid_r3 X  _ _) ?_
  refine ev_seg (sp_z_72_areLaid_r4 X  _ _) ?_
  refine ev_ret (sp_z_72_areLaid_r5 X  _ _) ?_
  exact ⟨rfl, rfl, rfl, rfl⟩
set_option maxRecDepth 100000 in
set_option maxHeartbeats 100000 in
theorem sp_z_74_place_r1 (X : ez_X)  (cz kz : Nat) : ∀ G : ez_F, fx_up X 7 G 215 0 [.ref 35, .int 0] [] (ev_hp (ev_sI (ev_sI (ev_sI (ev_sI ev_I0 6 (upd (upd (ev_I0 6) 4 1) 3 1)) 13 (upd (ev_I0 13) 8 1)) 35 (upd (upd (ev_I0 35) 14 1) 24 0)) 41 (upd (upd (upd (ev_I0 41) 0 0) 1 0) 2 0)) (ev_sJ (ev_sJ ev_J0 11 (vp_updL (vp_updL (vp_updL (ev_J0 11) 0 0) 1 0) 2 0)) 12 (vp_updL (vp_updL (vp_updL (ev_J0 12) 0 0) 1 0) 2 0)) (ev_sR (ev_sR (ev_sR (ev_sR ev_R0 0 65) 1 66) 2 67) 3 68) ([.inl (1, .inl (upd (fun _ => 0) 0 0)), .inl (1, .inr (.inl (vp_updL (fun _ => 0) 0 0))), .inl (1, .inr (.inl (vp_updL (fun _ => 0) 0 0))), .inl (1, .inr (.inl (vp_updL (fun _ => 0) 0 0)))] : List ez_C)) cz kz = some (none, (ev_hp (ev_sI (ev_sI (ev_sI (ev_sI ev_I0 6 (upd (upd (ev_I0 6) 4 1) 3 1)) 13 (upd (ev_I0 13) 8 1)) 35 (upd (upd (ev_I0 35) 14 1) 24 0)) 41 (upd (upd (upd (ev_I0 41) 0 0) 1 0) 2 0)) (ev_sJ (ev_sJ ev_J0 11 (vp_updL (vp_updL (vp_updL (ev_J0 11) 0 0) 1 0) 2 0)) 12 (vp_updL (vp_updL (vp_updL (ev_J0 12) 0 0) 1 0) 2 0)) (ev_sR (ev_sR (ev_sR (ev_sR ev_R0 0 65) 1 66) 2 67) 3 68) ([.inl (1, .inl (upd (fun _ => 0) 0 0)), .inl (1, .inr (.inl (vp_updL (fun _ => 0) 0 0))), .inl (1, .inr (.inl (vp_updL (fun _ => 0) 0 0))), .inl (1, .inr (.inl (vp_updL (fun _ => 0) 0 0)))] : List ez_C)), cz, kz) := by
  intro G
  rfl
theorem sp_z_74_place (X : ez_X) : ev_W X 215 0 (ez_lay [.ref 35, .int 0]) [] (ev_hp (ev_sI (ev_sI (ev_sI (ev_sI ev_I0 6 (upd (upd (ev_I0 6) 4 1) 3 1)) 13 (upd (ev_I0 13) 8 1)) 35 (upd (upd (ev_I0 35) 14 1) 24 0)) 41 (upd (upd (upd (ev_I0 41) 0 0) 1 0) 2 0)) (ev_sJ (ev_sJ ev_J0 11 (vp_updL (vp_updL (vp_updL (ev_J0 11) 0 0) 1 0) 2 0)) 12 (vp_updL (vp_updL (vp_updL (ev_J0 12) 0 0) 1 0) 2 0)) (ev_sR (ev_sR (ev_sR (ev_sR ev_R0 0 65) 1 66) 2 67) 3 68) ([.inl (1, .inl (upd (fun _ => 0) 0 0)), .inl (1, .inr (.inl (vp_updL (fun _ => 0) 0 0))), .inl (1, .inr (.inl (vp_updL (fun _ => 0) 0 0))), .inl (1, .inr (.inl (vp_updL (fun _ => 0) 0 0)))] : List ez_C)) 0 0 (fun r h1 c1 k1 => r = none ∧ h1 = (ev_hp (ev_sI (ev_sI (ev_sI (ev_sI ev_I0 6 (upd (upd (ev_I0 6) 4 1) 3 1)) 13 (upd (ev_I0 13) 8 1)) 35 (upd (upd (ev_I0 35) 14 1) 24 0)) 41 (upd (upd (upd (ev_I0 41) 0 0) 1 0) 2 0)) (ev_sJ (ev_sJ ev_J0 11 (vp_updL (vp_updL (vp_updL (ev_J0 11) 0 0) 1 0) 2 0)) 12 (vp_updL (vp_updL (vp_updL (ev_J0 12) 0 0) 1 0) 2 0)) (ev_sR (ev_sR (ev_sR (ev_sR ev_R0 0 65) 1 66) 2 67) 3 68) ([.inl (1, .inl (upd (fun _ => 0) 0 0)), .inl (1, .inr (.inl (vp_updL (fun _ => 0) 0 0))), .inl (1, .inr (.inl (vp_updL (fun _ => 0) 0 0))), .inl (1, .inr (.inl (vp_updL (fun _ => 0) 0 0)))] : List ez_C)) ∧ c1 = 0 ∧ k1 = 0) := by
  refine ev_ret (sp_z_74_place_r1 X  _ _) ?_
  exact ⟨rfl, rfl, rfl, rfl⟩
set_option maxRecDepth 100000 in
set_option maxHeartbeats 100000 in
theorem sp_z_73_go_r1 (X : ez_X)  (cz kz : Nat) : ∀ G : ez_F, fx_up X 3 G 192 0 [.ref 35, .int 0, .int 0] [] (ev_hp (ev_sI (ev_sI (ev_sI (ev_sI ev_I0 6 (upd (upd (ev_I0 6) 4 1) 3 1)) 13 (upd (ev_I0 13) 8 1)) 35 (upd (upd (ev_I0 35) 14 1) 24 0)) 41 (upd (upd (upd (ev_I0 41) 0 0) 1 0) 2 0)) (ev_sJ (ev_sJ ev_J0 11 (vp_updL (vp_updL (vp_updL (ev_J0 11) 0 0) 1 0) 2 0)) 12 (vp_updL (vp_updL (vp_updL (ev_J0 12) 0 0) 1 0) 2 0)) (ev_sR (ev_sR (ev_sR (ev_sR ev_R0 0 65) 1 66) 2 67) 3 68) ([.inl (1, .inl (upd (fun _ => 0) 0 0)), .inl (1, .inr (.inl (vp_updL (fun _ => 0) 0 0))), .inl (1, .inr (.inl (vp_updL (fun _ => 0) 0 0))), .inl (1, .inr (.inl (vp_updL (fun _ => 0) 0 0)))] : List ez_C)) cz kz = ev_C G 215 [.ref 35, .int 0] (ev_hp (ev_sI (ev_sI (ev_sI (ev_sI ev_I0 6 (upd (upd (ev_I0 6) 4 1) 3 1)) 13 (upd (ev_I0 13) 8 1)) 35 (upd (upd (ev_I0 35) 14 1) 24 0)) 41 (upd (upd (upd (ev_I0 41) 0 0) 1 0) 2 0)) (ev_sJ (ev_sJ ev_J0 11 (vp_updL (vp_updL (vp_updL (ev_J0 11) 0 0) 1 0) 2 0)) 12 (vp_updL (vp_updL (vp_updL (ev_J0 12) 0 0) 1 0) 2 0)) (ev_sR (ev_sR (ev_sR (ev_sR ev_R0 0 65) 1 66) 2 67) 3 68) ([.inl (1, .inl (upd (fun _ => 0) 0 0)), .inl (1, .inr (.inl (vp_updL (fun _ => 0) 0 0))), .inl (1, .inr (.inl (vp_updL (fun _ => 0) 0 0))), .inl (1, .inr (.inl (vp_updL (fun _ => 0) 0 0)))] : List ez_C)) fun r h1 c1 k1 => G 192 5 [.ref 35, .int 0, .int 0] (r.toList ++ []) h1 (cz + c1) (kz + k1) := by
  intro G
  rfl
set_option maxRecDepth 100000 in
set_option maxHeartbeats 100000 in
theorem sp_z_73_go_r2 (X : ez_X)  (cz kz : Nat) : ∀ G : ez_F, fx_up X 6 G 192 5 [.ref 35, .int 0, .int 0] [] (ev_hp (ev_sI (ev_sI (ev_sI (ev_sI ev_I0 6 (upd (upd (ev_I0 6) 4 1) 3 1)) 13 (upd (ev_I0 13) 8 1)) 35 (upd (upd (ev_I0 35) 14 1) 24 0)) 41 (upd (upd (upd (ev_I0 41) 0 0) 1 0) 2 0)) (ev_sJ (ev_sJ ev_J0 11 (vp_updL (vp_updL (vp_updL (ev_J0 11) 0 0) 1 0) 2 0)) 12 (vp_updL (vp_updL (vp_updL (ev_J0 12) 0 0) 1 0) 2 0)) (ev_sR (ev_sR (ev_sR (ev_sR ev_R0 0 65) 1 66) 2 67) 3 68) ([.inl (1, .inl (upd (fun _ => 0) 0 0)), .inl (1, .inr (.inl (vp_updL (fun _ => 0) 0 0))), .inl (1, .inr (.inl (vp_updL (fun _ => 0) 0 0))), .inl (1, .inr (.inl (vp_updL (fun _ => 0) 0 0)))] : List ez_C)) cz kz = some (none, (ev_hp (ev_sI (ev_sI (ev_sI (ev_sI ev_I0 6 (upd (upd (ev_I0 6) 4 1) 3 1)) 13 (upd (ev_I0 13) 8 1)) 35 (upd (upd (ev_I0 35) 14 1) 24 0)) 41 (upd (upd (upd (ev_I0 41) 0 0) 1 0) 2 0)) (ev_sJ (ev_sJ ev_J0 11 (vp_updL (vp_updL (vp_updL (ev_J0 11) 0 0) 1 0) 2 0)) 12 (vp_updL (vp_updL (vp_updL (ev_J0 12) 0 0) 1 0) 2 0)) (ev_sR (ev_sR (ev_sR (ev_sR ev_R0 0 65) 1 66) 2 67) 3 68) ([.inl (1, .inl (upd (fun _ => 0) 0 0)), .inl (1, .inr (.inl (vp_updL (fun _ => 0) 0 0))), .inl (1, .inr (.inl (vp_updL (fun _ => 0) 0 0))), .inl (1, .inr (.inl (vp_updL (fun _ => 0) 0 0)))] : List ez_C)), cz, kz) := by
  intro G
  rfl
theorem sp_z_73_go (X : ez_X) : ev_W X 192 0 (ez_lay [.ref 35, .int 0, .int 0]) [] (ev_hp (ev_sI (ev_sI (ev_sI (ev_sI ev_I0 6 (upd (upd (ev_I0 6) 4 1) 3 1)) 13 (upd (ev_I0 13) 8 1)) 35 (upd (upd (ev_I0 35) 14 1) 24 0)) 41 (upd (upd (upd (ev_I0 41) 0 0) 1 0) 2 0)) (ev_sJ (ev_sJ ev_J0 11 (vp_updL (vp_updL (vp_updL (ev_J0 11) 0 0) 1 0) 2 0)) 12 (vp_updL (vp_updL (vp_updL (ev_J0 12) 0 0) 1 0) 2 0)) (ev_sR (ev_sR (ev_sR (ev_sR ev_R0 0 65) 1 66) 2 67) 3 68) ([.inl (1, .inl (upd (fun _ => 0) 0 0)), .inl (1, .inr (.inl (vp_updL (fun _ => 0) 0 0))), .inl (1, .inr (.inl (vp_updL (fun _ => 0) 0 0))), .inl (1, .inr (.inl (vp_updL (fun _ => 0) 0 0)))] : List ez_C)) 0 0 (fun r h1 c1 k1 => r = none ∧ h1 = (ev_hp (ev_sI (ev_sI (ev_sI (ev_sI ev_I0 6 (upd (upd (ev_I0 6) 4 1) 3 1)) 13 (upd (ev_I0 13) 8 1)) 35 (upd (upd (ev_I0 35) 14 1) 24 0)) 41 (upd (upd (upd (ev_I0 41) 0 0) 1 0) 2 0)) (ev_sJ (ev_sJ ev_J0 11 (vp_updL (vp_updL (vp_updL (ev_J0 11) 0 0) 1 0) 2 0)) 12 (vp_updL (vp_updL (vp_updL (ev_J0 12) 0 0) 1 0) 2 0)) (ev_sR (ev_sR (ev_sR (ev_sR ev_R0 0 65) 1 66) 2 67) 3 68) ([.inl (1, .inl (upd (fun _ => 0) 0 0)), .inl (1, .inr (.inl (vp_updL (fun _ => 0) 0 0))), .inl (1, .inr (.inl (vp_updL (fun _ => 0) 0 0))), .inl (1, .inr (.inl (vp_updL (fun _ => 0) 0 0)))] : List ez_C)) ∧ c1 = 0 ∧ k1 = 0) := by
  refine ev_call (sp_z_73_go_r1 X  _ _) (sp_z_74_place X) ?_
  rintro _ _ _ _ ⟨rfl, rfl, rfl, rfl⟩
  refine ev_ret (sp_z_73_go_r2 X  _ _) ?_
  exact ⟨rfl, rfl, rfl, rfl⟩
set_option maxRecDepth 100000 in
set_option maxHeartbeats 100000 in
theorem sp_z_75_wrong_r1 (X : ez_X)  (cz kz : Nat) : ∀ G : ez_F, fx_up X 10 G 233 0 [.ref 35] [] (ev_hp (ev_sI (ev_sI (ev_sI (ev_sI ev_I0 6 (upd (upd (ev_I0 6) 4 1) 3 1)) 13 (upd (ev_I0 13) 8 1)) 35 (upd (upd (ev_I0 35) 14 1) 24 0)) 41 (upd (upd (upd (ev_I0 41) 0 0) 1 0) 2 0)) (ev_sJ (ev_sJ ev_J0 11 (vp_updL (vp_updL (vp_updL (ev_J0 11) 0 0) 1 0) 2 0)) 12 (vp_updL (vp_updL (vp_updL (ev_J0 12) 0 0) 1 0) 2 0)) (ev_sR (ev_sR (ev_sR (ev_sR ev_R0 0 65) 1 66) 2 67) 3 68) ([.inl (1, .inl (upd (fun _ => 0) 0 0)), .inl (1, .inr (.inl (vp_updL (fun _ => 0) 0 0))), .inl (1, .inr (.inl (vp_updL (fun _ => 0) 0 0))), .inl (1, .inr (.inl (vp_updL (fun _ => 0) 0 0)))] : List ez_C)) cz kz = some (some (.int 0), (ev_hp (ev_sI (ev_sI (ev_sI (ev_sI ev_I0 6 (upd (upd (ev_I0 6) 4 1) 3 1)) 13 (upd (ev_I0 13) 8 1)) 35 (upd (upd (ev_I0 35) 14 1) 24 0)) 41 (upd (upd (upd (ev_I0 41) 0 0) 1 0) 2 0)) (ev_sJ (ev_sJ ev_J0 11 (vp_updL (vp_updL (vp_updL (ev_J0 11) 0 0) 1 0) 2 0)) 12 (vp_updL (vp_updL (vp_updL (ev_J0 12) 0 0) 1 0) 2 0)) (ev_sR (ev_sR (ev_sR (ev_sR ev_R0 0 65) 1 66) 2 67) 3 68) ([.inl (1, .inl (upd (fun _ => 0) 0 0)), .inl (1, .inr (.inl (vp_updL (fun _ => 0) 0 0))), .inl (1, .inr (.inl (vp_updL (fun _ => 0) 0 0))), .inl (1, .inr (.inl (vp_updL (fun _ => 0) 0 0)))] : List ez_C)), cz, kz) := by
  intro G
  rfl
theorem sp_z_75_wrong (X : ez_X) : ev_W X 233 0 (ez_lay [.ref 35]) [] (ev_hp (ev_sI (ev_sI (ev_sI (ev_sI ev_I0 6 (upd (upd (ev_I0 6) 4 1) 3 1)) 13 (upd (ev_I0 13) 8 1)) 35 (upd (upd (ev_I0 35) 14 1) 24 0)) 41 (upd (upd (upd (ev_I0 41) 0 0) 1 0) 2 0)) (ev_sJ (ev_sJ ev_J0 11 (vp_updL (vp_updL (vp_updL (ev_J0 11) 0 0) 1 0) 2 0)) 12 (vp_updL (vp_updL (vp_updL (ev_J0 12) 0 0) 1 0) 2 0)) (ev_sR (ev_sR (ev_sR (ev_sR ev_R0 0 65) 1 66) 2 67) 3 68) ([.inl (1, .inl (upd (fun _ => 0) 0 0)), .inl (1, .inr (.inl (vp_updL (fun _ => 0) 0 0))), .inl (1, .inr (.inl (vp_updL (fun _ => 0) 0 0))), .inl (1, .inr (.inl (vp_updL (fun _ => 0) 0 0)))] : List ez_C)) 0 0 (fun r h1 c1 k1 => r = (some (.int 0)) ∧ h1 = (ev_hp (ev_sI (ev_sI (ev_sI (ev_sI ev_I0 6 (upd (upd (ev_I0 6) 4 1) 3 1)) 13 (upd (ev_I0 13) 8 1)) 35 (upd (upd (ev_I0 35) 14 1) 24 0)) 41 (upd (upd (upd (ev_I0 41) 0 0) 1 0) 2 0)) (ev_sJ (ev_sJ ev_J0 11 (vp_updL (vp_updL (vp_updL (ev_J0 11) 0 0) 1 0) 2 0)) 12 (vp_updL (vp_updL (vp_updL (ev_J0 12) 0 0) 1 0) 2 0)) (ev_sR (ev_sR (ev_sR (ev_sR ev_R0 0 65) 1 66) 2 67) 3 68) ([.inl (1, .inl (upd (fun _ => 0) 0 0)), .inl (1, .inr (.inl (vp_updL (fun _ => 0) 0 0))), .inl (1, .inr (.inl (vp_updL (fun _ => 0) 0 0))), .inl (1, .inr (.inl (vp_updL (fun _ => 0) 0 0)))] : List ez_C)) ∧ c1 = 0 ∧ k1 = 0) := by
  refine ev_ret (sp_z_75_wrong_r1 X  _ _) ?_
  exact ⟨rfl, rfl, rfl, rfl⟩
set_option maxRecDepth 100000 in
set_option maxHeartbeats 100000 in
theorem sp_z_71_findLeft_r1 (X : ez_X)  (cz kz : Nat) : ∀ G : ez_F, fx_up X 2 G 188 0 [.ref 35] [] (ev_hp (ev_sI (ev_sI ev_I0 6 (upd (upd (ev_I0 6) 4 1) 3 1)) 13 (upd (ev_I0 13) 8 1)) (ev_sJ (ev_sJ ev_J0 11 (vp_updL (vp_updL (vp_updL (ev_J0 11) 0 0) 1 0) 2 0)) 12 (vp_updL (vp_updL (vp_updL (ev_J0 12) 0 0) 1 0) 2 0)) (ev_sR (ev_sR (ev_sR (ev_sR ev_R0 0 65) 1 66) 2 67) 3 68) ([.inl (1, .inl (upd (fun _ => 0) 0 0)), .inl (1, .inr (.inl (vp_updL (fun _ => 0) 0 0))), .inl (1, .inr (.inl (vp_updL (fun _ => 0) 0 0))), .inl (1, .inr (.inl (vp_updL (fun _ => 0) 0 0)))] : List ez_C)) cz kz = ev_C G 167 [.ref 35] (ev_hp (ev_sI (ev_sI ev_I0 6 (upd (upd (ev_I0 6) 4 1) 3 1)) 13 (upd (ev_I0 13) 8 1)) (ev_sJ (ev_sJ ev_J0 11 (vp_updL (vp_updL (vp_updL (ev_J0 11) 0 0) 1 0) 2 0)) 12 (vp_updL (vp_updL (vp_updL (ev_J0 12) 0 0) 1 0) 2 0)) (ev_sR (ev_sR (ev_sR (ev_sR ev_R0 0 65) 1 66) 2 67) 3 68) ([.inl (1, .inl (upd (fun _ => 0) 0 0)), .inl (1, .inr (.inl (vp_updL (fun _ => 0) 0 0))), .inl (1, .inr (.inl (vp_updL (fun _ => 0) 0 0))), .inl (1, .inr (.inl (vp_updL (fun _ => 0) 0 0)))] : List ez_C)) fun r h1 c1 k1 => G 188 4 [.ref 35] (r.toList ++ []) h1 (cz + c1) (kz + k1) := by
  intro G
  rfl
set_option maxRecDepth 100000 in
set_option maxHeartbeats 100000 in
theorem sp_z_71_findLeft_r2 (X : ez_X)  (cz kz : Nat) : ∀ G : ez_F, fx_up X 15 G 188 4 [.ref 35] [.int 1] (ev_hp (ev_sI (ev_sI (ev_sI (ev_sI ev_I0 6 (upd (upd (ev_I0 6) 4 1) 3 1)) 13 (upd (ev_I0 13) 8 1)) 35 (upd (ev_I0 35) 14 1)) 41 (upd (upd (upd (ev_I0 41) 0 0) 1 0) 2 0)) (ev_sJ (ev_sJ ev_J0 11 (vp_updL (vp_updL (vp_updL (ev_J0 11) 0 0) 1 0) 2 0)) 12 (vp_updL (vp_updL (vp_updL (ev_J0 12) 0 0) 1 0) 2 0)) (ev_sR (ev_sR (ev_sR (ev_sR ev_R0 0 65) 1 66) 2 67) 3 68) ([.inl (1, .inl (upd (fun _ => 0) 0 0)), .inl (1, .inr (.inl (vp_updL (fun _ => 0) 0 0))), .inl (1, .inr (.inl (vp_updL (fun _ => 0) 0 0))), .inl (1, .inr (.inl (vp_updL (fun _ => 0) 0 0)))] : List ez_C)) cz kz = ev_C G 192 [.ref 35, .int 0, .int 0] (ev_hp (ev_sI (ev_sI (ev_sI (ev_sI ev_I0 6 (upd (upd (ev_I0 6) 4 1) 3 1)) 13 (upd (ev_I0 13) 8 1)) 35 (upd (upd (ev_I0 35) 14 1) 24 0)) 41 (upd (upd (upd (ev_I0 41) 0 0) 1 0) 2 0)) (ev_sJ (ev_sJ ev_J0 11 (vp_updL (vp_updL (vp_updL (ev_J0 11) 0 0) 1 0) 2 0)) 12 (vp_updL (vp_updL (vp_updL (ev_J0 12) 0 0) 1 0) 2 0)) (ev_sR (ev_sR (ev_sR (ev_sR ev_R0 0 65) 1 66) 2 67) 3 68) ([.inl (1, .inl (upd (fun _ => 0) 0 0)), .inl (1, .inr (.inl (vp_updL (fun _ => 0) 0 0))), .inl (1, .inr (.inl (vp_updL (fun _ => 0) 0 0))), .inl (1, .inr (.inl (vp_updL (fun _ => 0) 0 0)))] : List ez_C)) fun r h1 c1 k1 => G 188 33 [.ref 35, .int 0] (r.toList ++ []) h1 (cz + c1) (kz + k1) := by
  intro G
  rfl
set_option maxRecDepth 100000 in
set_option maxHeartbeats 100000 in
theorem sp_z_71_findLeft_r3 (X : ez_X)  (cz kz : Nat) : ∀ G : ez_F, fx_up X 2 G 188 33 [.ref 35, .int 0] [] (ev_hp (ev_sI (ev_sI (ev_sI (ev_sI ev_I0 6 (upd (upd (ev_I0 6) 4 1) 3 1)) 13 (upd (ev_I0 13) 8 1)) 35 (upd (upd (ev_I0 35) 14 1) 24 0)) 41 (upd (upd (upd (ev_I0 41) 0 0) 1 0) 2 0)) (ev_sJ (ev_sJ ev_J0 11 (vp_updL (vp_updL (vp_updL (ev_J0 11) 0 0) 1 0) 2 0)) 12 (vp_updL (vp_updL (vp_updL (ev_J0 12) 0 0) 1 0) 2 0)) (ev_sR (ev_sR (ev_sR (ev_sR ev_R0 0 65) 1 66) 2 67) 3 68) ([.inl (1, .inl (upd (fun _ => 0) 0 0)), .inl (1, .inr (.inl (vp_updL (fun _ => 0) 0 0))), .inl (1, .inr (.inl (vp_updL (fun _ => 0) 0 0))), .inl (1, .inr (.inl (vp_updL (fun _ => 0) 0 0)))] : List ez_C)) cz kz = ev_C G 233 [.ref 35] (ev_hp (ev_sI (ev_sI (ev_sI (ev_sI ev_I0 6 (upd (upd (ev_I0 6) 4 1) 3 1)) 13 (upd (ev_I0 13) 8 1)) 35 (upd (upd (ev_I0 35) 14 1) 24 0)) 41 (upd (upd (upd (ev_I0 41) 0 0) 1 0) 2 0)) (ev_sJ (ev_sJ ev_J0 11 (vp_updL (vp_updL (vp_updL (ev_J0 11) 0 0) 1 0) 2 0)) 12 (vp_updL (vp_updL (vp_updL (ev_J0 12) 0 0) 1 0) 2 0)) (ev_sR (ev_sR (ev_sR (ev_sR ev_R0 0 65) 1 66) 2 67) 3 68) ([.inl (1, .inl (upd (fun _ => 0) 0 0)), .inl (1, .inr (.inl (vp_updL (fun _ => 0) 0 0))), .inl (1, .inr (.inl (vp_updL (fun _ => 0) 0 0))), .inl (1, .inr (.inl (vp_updL (fun _ => 0) 0 0)))] : List ez_C)) fun r h1 c1 k1 => G 188 37 [.ref 35, .int 0] (r.toList ++ []) h1 (cz + c1) (kz + k1) := by
  intro G
  rfl
set_option maxRecDepth 100000 in
set_option maxHeartbeats 100000 in
theorem sp_z_71_findLeft_r4 (X : ez_X)  (cz kz : Nat) : ∀ G : ez_F, fx_up X 24 G 188 37 [.ref 35, .int 0] [.int 0] (ev_hp (ev_sI (ev_sI (ev_sI (ev_sI ev_I0 6 (upd (upd (ev_I0 6) 4 1) 3 1)) 13 (upd (ev_I0 13) 8 1)) 35 (upd (upd (ev_I0 35) 14 1) 24 0)) 41 (upd (upd (upd (ev_I0 41) 0 0) 1 0) 2 0)) (ev_sJ (ev_sJ ev_J0 11 (vp_updL (vp_updL (vp_updL (ev_J0 11) 0 0) 1 0) 2 0)) 12 (vp_updL (vp_updL (vp_updL (ev_J0 12) 0 0) 1 0) 2 0)) (ev_sR (ev_sR (ev_sR (ev_sR ev_R0 0 65) 1 66) 2 67) 3 68) ([.inl (1, .inl (upd (fun _ => 0) 0 0)), .inl (1, .inr (.inl (vp_updL (fun _ => 0) 0 0))), .inl (1, .inr (.inl (vp_updL (fun _ => 0) 0 0))), .inl (1, .inr (.inl (vp_updL (fun _ => 0) 0 0)))] : List ez_C)) cz kz = G 188 75 [.ref 35, .int 0, .int 0] [.ref 35, .int 0, .int 0, .ref 50] (ev_hp (ev_sI (ev_sI (ev_sI (ev_sI (ev_sI ev_I0 6 (upd (upd (ev_I0 6) 4 1) 3 1)) 13 (upd (ev_I0 13) 8 1)) 35 (upd (upd (ev_I0 35) 14 1) 24 0)) 41 (upd (upd (upd (ev_I0 41) 0 0) 1 0) 2 0)) 49 (upd (ev_I0 49) 0 0)) (ev_sJ (ev_sJ ev_J0 11 (vp_updL (vp_updL (vp_updL (ev_J0 11) 0 0) 1 0) 2 0)) 12 (vp_updL (vp_updL (vp_updL (ev_J0 12) 0 0) 1 0) 2 0)) (ev_sR (ev_sR (ev_sR (ev_sR ev_R0 0 65) 1 66) 2 67) 3 68) ([.inl (1, .inl (upd (fun _ => 0) 0 0)), .inl (1, .inr (.inl (vp_updL (fun _ => 0) 0 0))), .inl (1, .inr (.inl (vp_updL (fun _ => 0) 0 0))), .inl (1, .inr (.inl (vp_updL (fun _ => 0) 0 0)))] : List ez_C)) cz kz := by
  intro G
  rfl
set_option maxRecDepth 100000 in
set_option maxHeartbeats 100000 in
theorem sp_z_71_findLeft_r5 (X : ez_X)  (cz kz : Nat) : ∀ G : ez_F, fx_up X 24 G 188 75 [.ref 35, .int 0, .int 0] [.ref 35, .int 0, .int 0, .ref 50] (ev_hp (ev_sI (ev_sI (ev_sI (ev_sI (ev_sI ev_I0 6 (upd (upd (ev_I0 6) 4 1) 3 1)) 13 (upd (ev_I0 13) 8 1)) 35 (upd (upd (ev_I0 35) 14 1) 24 0)) 41 (upd (upd (upd (ev_I0 41) 0 0) 1 0) 2 0)) 49 (upd (ev_I0 49) 0 0)) (ev_sJ (ev_sJ ev_J0 11 (vp_updL (vp_updL (vp_updL (ev_J0 11) 0 0) 1 0) 2 0)) 12 (vp_updL (vp_updL (vp_updL (ev_J0 12) 0 0) 1 0) 2 0)) (ev_sR (ev_sR (ev_sR (ev_sR ev_R0 0 65) 1 66) 2 67) 3 68) ([.inl (1, .inl (upd (fun _ => 0) 0 0)), .inl (1, .inr (.inl (vp_updL (fun _ => 0) 0 0))), .inl (1, .inr (.inl (vp_updL (fun _ => 0) 0 0))), .inl (1, .inr (.inl (vp_updL (fun _ => 0) 0 0)))] : List ez_C)) cz kz = G 188 62 [.ref 35, .int 0, .int 1] [.ref 35] (ev_hp (ev_sI (ev_sI (ev_sI (ev_sI (ev_sI ev_I0 6 (upd (upd (ev_I0 6) 4 1) 3 1)) 13 (upd (ev_I0 13) 8 1)) 35 (upd (upd (ev_I0 35) 14 1) 24 0)) 41 (upd (upd (upd (ev_I0 41) 0 0) 1 0) 2 0)) 49 (upd (ev_I0 49) 0 0)) (ev_sJ (ev_sJ (ev_sJ (ev_sJ ev_J0 11 (vp_updL (vp_updL (vp_updL (ev_J0 11) 0 0) 1 0) 2 0)) 12 (vp_updL (vp_updL (vp_updL (ev_J0 12) 0 0) 1 0) 2 0)) 50 (vp_updL (ev_J0 50) 0 0)) 51 (vp_updL (ev_J0 51) 0 0)) (ev_sR (ev_sR (ev_sR (ev_sR ev_R0 0 65) 1 66) 2 67) 3 68) ([.inl (1, .inl (upd (fun _ => 0) 0 0)), .inl (1, .inr (.inl (vp_updL (fun _ => 0) 0 0))), .inl (1, .inr (.inl (vp_updL (fun _ => 0) 0 0))), .inl (1, .inr (.inl (vp_updL (fun _ => 0) 0 0)))] : List ez_C)) cz kz := by
  intro G
  rfl
set_option maxRecDepth 100000 in
set_option maxHeartbeats 100000 in
theorem sp_z_71_findLeft_r6 (X : ez_X)  (cz kz : Nat) : ∀ G : ez_F, fx_up X 24 G 188 62 [.ref 35, .int 0, .int 1] [.ref 35] (ev_hp (ev_sI (ev_sI (ev_sI (ev_sI (ev_sI ev_I0 6 (upd (upd (ev_I0 6) 4 1) 3 1)) 13 (upd (ev_I0 13) 8 1)) 35 (upd (upd (ev_I0 35) 14 1) 24 0)) 41 (upd (upd (upd (ev_I0 41) 0 0) 1 0) 2 0)) 49 (upd (ev_I0 49) 0 0)) (ev_sJ (ev_sJ (ev_sJ (ev_sJ ev_J0 11 (vp_updL (vp_updL (vp_updL (ev_J0 11) 0 0) 1 0) 2 0)) 12 (vp_updL (vp_updL (vp_updL (ev_J0 12) 0 0) 1 0) 2 0)) 50 (vp_updL (ev_J0 50) 0 0)) 51 (vp_updL (ev_J0 51) 0 0)) (ev_sR (ev_sR (ev_sR (ev_sR ev_R0 0 65) 1 66) 2 67) 3 68) ([.inl (1, .inl (upd (fun _ => 0) 0 0)), .inl (1, .inr (.inl (vp_updL (fun _ => 0) 0 0))), .inl (1, .inr (.inl (vp_updL (fun _ => 0) 0 0))), .inl (1, .inr (.inl (vp_updL (fun _ => 0) 0 0)))] : List ez_C)) cz kz = G 188 109 [.ref 35, .int 0, .int 1] [.int 0, .int 1, .int 1, .ref 51] (ev_hp (ev_sI (ev_sI (ev_sI (ev_sI (ev_sI ev_I0 6 (upd (upd (ev_I0 6) 4 1) 3 1)) 13 (upd (ev_I0 13) 8 1)) 35 (upd (upd (ev_I0 35) 14 1) 24 0)) 41 (upd (upd (upd (ev_I0 41) 0 0) 1 0) 2 0)) 49 (upd (ev_I0 49) 0 0)) (ev_sJ (ev_sJ (ev_sJ (ev_sJ ev_J0 11 (vp_updL (vp_updL (vp_updL (ev_J0 11) 0 0) 1 0) 2 0)) 12 (vp_updL (vp_updL (vp_updL (ev_J0 12) 0 0) 1 0) 2 0)) 50 (vp_updL (vp_updL (ev_J0 50) 0 0) 1 0)) 51 (vp_updL (ev_J0 51) 0 0)) (ev_sR (ev_sR (ev_sR (ev_sR ev_R0 0 65) 1 66) 2 67) 3 68) ([.inl (1, .inl (upd (fun _ => 0) 0 0)), .inl (1, .inr (.inl (vp_updL (fun _ => 0) 0 0))), .inl (1, .inr (.inl (vp_updL (fun _ => 0) 0 0))), .inl (1, .inr (.inl (vp_updL (fun _ => 0) 0 0)))] : List ez_C)) cz kz := by
  intro G
  rfl
set_option maxRecDepth 100000 in
set_option maxHeartbeats 100000 in
theorem sp_z_71_findLeft_r7 (X : ez_X)  (cz kz : Nat) : ∀ G : ez_F, fx_up X 24 G 188 109 [.ref 35, .int 0, .int 1] [.int 0, .int 1, .int 1, .ref 51] (ev_hp (ev_sI (ev_sI (ev_sI (ev_sI (ev_sI ev_I0 6 (upd (upd (ev_I0 6) 4 1) 3 1)) 13 (upd (ev_I0 13) 8 1)) 35 (upd (upd (ev_I0 35) 14 1) 24 0)) 41 (upd (upd (upd (ev_I0 41) 0 0) 1 0) 2 0)) 49 (upd (ev_I0 49) 0 0)) (ev_sJ (ev_sJ (ev_sJ (ev_sJ ev_J0 11 (vp_updL (vp_updL (vp_updL (ev_J0 11) 0 0) 1 0) 2 0)) 12 (vp_updL (vp_updL (vp_updL (ev_J0 12) 0 0) 1 0) 2 0)) 50 (vp_updL (vp_updL (ev_J0 50) 0 0) 1 0)) 51 (vp_updL (ev_J0 51) 0 0)) (ev_sR (ev_sR (ev_sR (ev_sR ev_R0 0 65) 1 66) 2 67) 3 68) ([.inl (1, .inl (upd (fun _ => 0) 0 0)), .inl (1, .inr (.inl (vp_updL (fun _ => 0) 0 0))), .inl (1, .inr (.inl (vp_updL (fun _ => 0) 0 0))), .inl (1, .inr (.inl (vp_updL (fun _ => 0) 0 0)))] : List ez_C)) cz kz = G 188 96 [.ref 35, .int 0, .int 2] [.ref 51] (ev_hp (ev_sI (ev_sI (ev_sI (ev_sI (ev_sI ev_I0 6 (upd (upd (ev_I0 6) 4 1) 3 1)) 13 (upd (ev_I0 13) 8 1)) 35 (upd (upd (ev_I0 35) 14 1) 24 0)) 41 (upd (upd (upd (ev_I0 41) 0 0) 1 0) 2 0)) 49 (upd (ev_I0 49) 0 0)) (ev_sJ (ev_sJ (ev_sJ (ev_sJ ev_J0 11 (vp_updL (vp_updL (vp_updL (ev_J0 11) 0 0) 1 0) 2 0)) 12 (vp_updL (vp_updL (vp_updL (ev_J0 12) 0 0) 1 0) 2 0)) 50 (vp_updL (vp_updL (vp_updL (ev_J0 50) 0 0) 1 0) 2 0)) 51 (vp_updL (vp_updL (ev_J0 51) 0 0) 1 0)) (ev_sR (ev_sR (ev_sR (ev_sR ev_R0 0 65) 1 66) 2 67) 3 68) ([.inl (1, .inl (upd (fun _ => 0) 0 0)), .inl (1, .inr (.inl (vp_updL (fun _ => 0) 0 0))), .inl (1, .inr (.inl (vp_updL (fun _ => 0) 0 0))), .inl (1, .inr (.inl (vp_updL (fun _ => 0) 0 0)))] : List ez_C)) cz kz := by
  intro G
  rfl
set_option maxRecDepth 100000 in
set_option maxHeartbeats 100000 in
theorem sp_z_71_findLeft_r8 (X : ez_X)  (cz kz : Nat) : ∀ G : ez_F, fx_up X 24 G 188 96 [.ref 35, .int 0, .int 2] [.ref 51] (ev_hp (ev_sI (ev_sI (ev_sI (ev_sI (ev_sI ev_I0 6 (upd (upd (ev_I0 6) 4 1) 3 1)) 13 (upd (ev_I0 13) 8 1)) 35 (upd (upd (ev_I0 35) 14 1) 24 0)) 41 (upd (upd (upd (ev_I0 41) 0 0) 1 0) 2 0)) 49 (upd (ev_I0 49) 0 0)) (ev_sJ (ev_sJ (ev_sJ (ev_sJ ev_J0 11 (vp_updL (vp_updL (vp_updL (ev_J0 11) 0 0) 1 0) 2 0)) 12 (vp_updL (vp_updL (vp_updL (ev_J0 12) 0 0) 1 0) 2 0)) 50 (vp_updL (vp_updL (vp_updL (ev_J0 50) 0 0) 1 0) 2 0)) 51 (vp_updL (vp_updL (ev_J0 51) 0 0) 1 0)) (ev_sR (ev_sR (ev_sR (ev_sR ev_R0 0 65) 1 66) 2 67) 3 68) ([.inl (1, .inl (upd (fun _ => 0) 0 0)), .inl (1, .inr (.inl (vp_updL (fun _ => 0) 0 0))), .inl (1, .inr (.inl (vp_updL (fun _ => 0) 0 0))), .inl (1, .inr (.inl (vp_updL (fun _ => 0) 0 0)))] : List ez_C)) cz kz = G 188 142 [.ref 35, .int 1] [] (ev_hp (ev_sI (ev_sI (ev_sI (ev_sI (ev_sI ev_I0 6 (upd (upd (ev_I0 6) 4 1) 3 1)) 13 (upd (ev_I0 13) 8 1)) 35 (upd (upd (ev_I0 35) 14 1) 24 1)) 41 (upd (upd (upd (ev_I0 41) 0 0) 1 0) 2 0)) 49 (upd (ev_I0 49) 0 0)) (ev_sJ (ev_sJ (ev_sJ (ev_sJ ev_J0 11 (vp_updL (vp_updL (vp_updL (ev_J0 11) 0 0) 1 0) 2 0)) 12 (vp_updL (vp_updL (vp_updL (ev_J0 12) 0 0) 1 0) 2 0)) 50 (vp_updL (vp_updL (vp_updL (ev_J0 50) 0 0) 1 0) 2 0)) 51 (vp_updL (vp_updL (vp_updL (ev_J0 51) 0 0) 1 0) 2 0)) (ev_sR (ev_sR (ev_sR (ev_sR ev_R0 0 65) 1 66) 2 67) 3 68) ([.inl (1, .inl (upd (fun _ => 0) 0 0)), .inl (1, .inr (.inl (vp_updL (fun _ => 0) 0 0))), .inl (1, .inr (.inl (vp_updL (fun _ => 0) 0 0))), .inl (1, .inr (.inl (vp_updL (fun _ => 0) 0 0)))] : List ez_C)) cz kz := by
  intro G
  rfl
set_option maxRecDepth 100000 in
set_option maxHeartbeats 100000 in
theorem sp_z_71_findLeft_r9 (X : ez_X)  (cz kz : Nat) : ∀ G : ez_F, fx_up X 7 G 188 142 [.ref 35, .int 1] [] (ev_hp (ev_sI (ev_sI (ev_sI (ev_sI (ev_sI ev_I0 6 (upd (upd (ev_I0 6) 4 1) 3 1)) 13 (upd (ev_I0 13) 8 1)) 35 (upd (upd (ev_I0 35) 14 1) 24 1)) 41 (upd (upd (upd (ev_I0 41) 0 0) 1 0) 2 0)) 49 (upd (ev_I0 49) 0 0)) (ev_sJ (ev_sJ (ev_sJ (ev_sJ ev_J0 11 (vp_updL (vp_updL (vp_updL (ev_J0 11) 0 0) 1 0) 2 0)) 12 (vp_updL (vp_updL (vp_updL (ev_J0 12) 0 0) 1 0) 2 0)) 50 (vp_updL (vp_updL (vp_updL (ev_J0 50) 0 0) 1 0) 2 0)) 51 (vp_updL (vp_updL (vp_updL (ev_J0 51) 0 0) 1 0) 2 0)) (ev_sR (ev_sR (ev_sR (ev_sR ev_R0 0 65) 1 66) 2 67) 3 68) ([.inl (1, .inl (upd (fun _ => 0) 0 0)), .inl (1, .inr (.inl (vp_updL (fun _ => 0) 0 0))), .inl (1, .inr (.inl (vp_updL (fun _ => 0) 0 0))), .inl (1, .inr (.inl (vp_updL (fun _ => 0) 0 0)))] : List ez_C)) cz kz = some (some (.int 1), (ev_hp (ev_sI (ev_sI (ev_sI (ev_sI (ev_sI ev_I0 6 (upd (upd (ev_I0 6) 4 1) 3 1)) 13 (upd (ev_I0 13) 8 1)) 35 (upd (upd (ev_I0 35) 14 1) 24 1)) 41 (upd (upd (upd (ev_I0 41) 0 0) 1 0) 2 0)) 49 (upd (ev_I0 49) 0 0)) (ev_sJ (ev_sJ (ev_sJ (ev_sJ ev_J0 11 (vp_updL (vp_updL (vp_updL (ev_J0 11) 0 0) 1 0) 2 0)) 12 (vp_updL (vp_updL (vp_updL (ev_J0 12) 0 0) 1 0) 2 0)) 50 (vp_updL (vp_updL (vp_updL (ev_J0 50) 0 0) 1 0) 2 0)) 51 (vp_updL (vp_updL (vp_updL (ev_J0 51) 0 0) 1 0) 2 0)) (ev_sR (ev_sR (ev_sR (ev_sR ev_R0 0 65) 1 66) 2 67) 3 68) ([.inl (1, .inl (upd (fun _ => 0) 0 0)), .inl (1, .inr (.inl (vp_updL (fun _ => 0) 0 0))), .inl (1, .inr (.inl (vp_updL (fun _ => 0) 0 0))), .inl (1, .inr (.inl (vp_updL (fun _ => 0) 0 0)))] : List ez_C)), cz, kz) := by
  intro G
  rfl
theorem sp_z_71_findLeft (X : ez_X) : ev_W X 188 0 (ez_lay [.ref 35]) [] (ev_hp (ev_sI (ev_sI ev_I0 6 (upd (upd (ev_I0 6) 4 1) 3 1)) 13 (upd (ev_I0 13) 8 1)) (ev_sJ (ev_sJ ev_J0 11 (vp_updL (vp_updL (vp_updL (ev_J0 11) 0 0) 1 0) 2 0)) 12 (vp_updL (vp_updL (vp_updL (ev_J0 12) 0 0) 1 0) 2 0)) (ev_sR (ev_sR (ev_sR (ev_sR ev_R0 0 65) 1 66) 2 67) 3 68) ([.inl (1, .inl (upd (fun _ => 0) 0 0)), .inl (1, .inr (.inl (vp_updL (fun _ => 0) 0 0))), .inl (1, .inr (.inl (vp_updL (fun _ => 0) 0 0))), .inl (1, .inr (.inl (vp_updL (fun _ => 0) 0 0)))] : List ez_C)) 0 0 (fun r h1 c1 k1 => r = (some (.int 1)) ∧ h1 = (ev_hp (ev_sI (ev_sI (ev_sI (ev_sI (ev_sI ev_I0 6 (upd (upd (ev_I0 6) 4 1) 3 1)) 13 (upd (ev_I0 13) 8 1)) 35 (upd (upd (ev_I0 35) 14 1) 24 1)) 41 (upd (upd (upd (ev_I0 41) 0 0) 1 0) 2 0)) 49 (upd (ev_I0 49) 0 0)) (ev_sJ (ev_sJ (ev_sJ (ev_sJ ev_J0 11 (vp_updL (vp_updL (vp_updL (ev_J0 11) 0 0) 1 0) 2 0)) 12 (vp_updL (vp_updL (vp_updL (ev_J0 12) 0 0) 1 0) 2 0)) 50 (vp_updL (vp_updL (vp_updL (ev_J0 50) 0 0) 1 0) 2 0)) 51 (vp_updL (vp_updL (vp_updL (ev_J0 51) 0 0) 1 0) 2 0)) (ev_sR (ev_sR (ev_sR (ev_sR ev_R0 0 65) 1 66) 2 67) 3 68) ([.inl (1, .inl (upd (fun _ => 0) 0 0)), .inl (1, .inr (.inl (vp_updL (fun _ => 0) 0 0))), .inl (1, .inr (.inl (vp_updL (fun _ => 0) 0 0))), .inl (1, .inr (.inl (vp_updL (fun _ => 0) 0 0)))] : List ez_C)) ∧ c1 = 0 ∧ k1 = 0) := by
  refine ev_call (sp_z_71_findLeft_r1 X  _ _) (sp_z_72_areLaid X) ?_
  rintro _ _ _ _ ⟨rfl, rfl, rfl, rfl⟩
  refine ev_call (sp_z_71_findLeft_r2 X  _ _) (sp_z_73_go X) ?_
  rintro _ _ _ _ ⟨rfl, rfl, rfl, rfl⟩
  refine ev_call (sp_z_71_findLeft_r3 X  _ _) (sp_z_75_wrong X) ?_
  rintro _ _ _ _ ⟨rfl, rfl, rfl, rfl⟩
  refine ev_seg (sp_z_71_findLeft_r4 X  _ _) ?_
  refine ev_seg (sp_z_71_findLeft_r5 X  _ _) ?_
  refine ev_seg (sp_z_71_findLeft_r6 X  _ _) ?_
  refine ev_seg (sp_z_71_findLeft_r7 X  _ _) ?_
  refine ev_seg (sp_z_71_findLeft_r8 X  _ _) ?_
  refine ev_ret (sp_z_71_findLeft_r9 X  _ _) ?_
  exact ⟨rfl, rfl, rfl, rfl⟩
set_option maxRecDepth 100000 in
set_option maxHeartbeats 100000 in
theorem eh_which_n_r1 (X : ez_X) (I : Nat → Nat → Int32) (J : Nat → Nat → Int64) (R : Nat → Nat) (T : List ez_C) (a : Int32) (cz kz : Nat) : ∀ G : ez_F, fx_up X 2 G 232 0 [.ref 35, .int a] [] (ev_hp (ev_sI (ev_sI ev_I0 6 (upd (upd (ev_I0 6) 4 1) 3 1)) 13 (upd (ev_I0 13) 8 1)) (ev_sJ (ev_sJ ev_J0 11 (vp_updL (vp_updL (vp_updL (ev_J0 11) 0 0) 1 0) 2 0)) 12 (vp_updL (vp_updL (vp_updL (ev_J0 12) 0 0) 1 0) 2 0)) (ev_sR (ev_sR (ev_sR (ev_sR ev_R0 0 65) 1 66) 2 67) 3 68) ([.inl (1, .inl (upd (fun _ => 0) 0 0)), .inl (1, .inr (.inl (vp_updL (fun _ => 0) 0 0))), .inl (1, .inr (.inl (vp_updL (fun _ => 0) 0 0))), .inl (1, .inr (.inl (vp_updL (fun _ => 0) 0 0)))] : List ez_C)) cz kz = bif decide (0 ≤ a) then G 232 7 [.ref 35, .int a] [] (ev_hp (ev_sI (ev_sI ev_I0 6 (upd (upd (ev_I0 6) 4 1) 3 1)) 13 (upd (ev_I0 13) 8 1)) (ev_sJ (ev_sJ ev_J0 11 (vp_updL (vp_updL (vp_updL (ev_J0 11) 0 0) 1 0) 2 0)) 12 (vp_updL (vp_updL (vp_updL (ev_J0 12) 0 0) 1 0) 2 0)) (ev_sR (ev_sR (ev_sR (ev_sR ev_R0 0 65) 1 66) 2 67) 3 68) ([.inl (1, .inl (upd (fun _ => 0) 0 0)), .inl (1, .inr (.inl (vp_updL (fun _ => 0) 0 0))), .inl (1, .inr (.inl (vp_updL (fun _ => 0) 0 0))), .inl (1, .inr (.inl (vp_updL (fun _ => 0) 0 0)))] : List ez_C)) cz kz else G 232 4 [.ref 35, .int a] [] (ev_hp (ev_sI (ev_sI ev_I0 6 (upd (upd (ev_I0 6) 4 1) 3 1)) 13 (upd (ev_I0 13) 8 1)) (ev_sJ (ev_sJ ev_J0 11 (vp_updL (vp_updL (vp_updL (ev_J0 11) 0 0) 1 0) 2 0)) 12 (vp_updL (vp_updL (vp_updL (ev_J0 12) 0 0) 1 0) 2 0)) (ev_sR (ev_sR (ev_sR (ev_sR ev_R0 0 65) 1 66) 2 67) 3 68) ([.inl (1, .inl (upd (fun _ => 0) 0 0)), .inl (1, .inr (.inl (vp_updL (fun _ => 0) 0 0))), .inl (1, .inr (.inl (vp_updL (fun _ => 0) 0 0))), .inl (1, .inr (.inl (vp_updL (fun _ => 0) 0 0)))] : List ez_C)) cz kz := by
  intro G
  rfl
set_option maxRecDepth 100000 in
set_option maxHeartbeats 100000 in
theorem eh_which_n_r2 (X : ez_X) (I : Nat → Nat → Int32) (J : Nat → Nat → Int64) (R : Nat → Nat) (T : List ez_C) (a : Int32) (cz kz : Nat) : ∀ G : ez_F, fx_up X 2 G 232 7 [.ref 35, .int a] [] (ev_hp (ev_sI (ev_sI ev_I0 6 (upd (upd (ev_I0 6) 4 1) 3 1)) 13 (upd (ev_I0 13) 8 1)) (ev_sJ (ev_sJ ev_J0 11 (vp_updL (vp_updL (vp_updL (ev_J0 11) 0 0) 1 0) 2 0)) 12 (vp_updL (vp_updL (vp_updL (ev_J0 12) 0 0) 1 0) 2 0)) (ev_sR (ev_sR (ev_sR (ev_sR ev_R0 0 65) 1 66) 2 67) 3 68) ([.inl (1, .inl (upd (fun _ => 0) 0 0)), .inl (1, .inr (.inl (vp_updL (fun _ => 0) 0 0))), .inl (1, .inr (.inl (vp_updL (fun _ => 0) 0 0))), .inl (1, .inr (.inl (vp_updL (fun _ => 0) 0 0)))] : List ez_C)) cz kz = ev_C G 188 [.ref 35] (ev_hp (ev_sI (ev_sI ev_I0 6 (upd (upd (ev_I0 6) 4 1) 3 1)) 13 (upd (ev_I0 13) 8 1)) (ev_sJ (ev_sJ ev_J0 11 (vp_updL (vp_updL (vp_updL (ev_J0 11) 0 0) 1 0) 2 0)) 12 (vp_updL (vp_updL (vp_updL (ev_J0 12) 0 0) 1 0) 2 0)) (ev_sR (ev_sR (ev_sR (ev_sR ev_R0 0 65) 1 66) 2 67) 3 68) ([.inl (1, .inl (upd (fun _ => 0) 0 0)), .inl (1, .inr (.inl (vp_updL (fun _ => 0) 0 0))), .inl (1, .inr (.inl (vp_updL (fun _ => 0) 0 0))), .inl (1, .inr (.inl (vp_updL (fun _ => 0) 0 0)))] : List ez_C)) fun r h1 c1 k1 => G 232 11 [.ref 35, .int a] (r.toList ++ []) h1 (cz + c1) (kz + k1) := by
  intro G
  rfl
set_option maxRecDepth 100000 in
set_option maxHeartbeats 100000 in
theorem eh_which_n_r3 (X : ez_X) (I : Nat → Nat → Int32) (J : Nat → Nat → Int64) (R : Nat → Nat) (T : List ez_C) (a : Int32) (cz kz : Nat) : ∀ G : ez_F, fx_up X 5 G 232 11 [.ref 35, .int a] [.int 1] (ev_hp (ev_sI (ev_sI (ev_sI (ev_sI (ev_sI ev_I0 6 (upd (upd (ev_I0 6) 4 1) 3 1)) 13 (upd (ev_I0 13) 8 1)) 35 (upd (upd (ev_I0 35) 14 1) 24 1)) 41 (upd (upd (upd (ev_I0 41) 0 0) 1 0) 2 0)) 49 (upd (ev_I0 49) 0 0)) (ev_sJ (ev_sJ (ev_sJ (ev_sJ ev_J0 11 (vp_updL (vp_updL (vp_updL (ev_J0 11) 0 0) 1 0) 2 0)) 12 (vp_updL (vp_updL (vp_updL (ev_J0 12) 0 0) 1 0) 2 0)) 50 (vp_updL (vp_updL (vp_updL (ev_J0 50) 0 0) 1 0) 2 0)) 51 (vp_updL (vp_updL (vp_updL (ev_J0 51) 0 0) 1 0) 2 0)) (ev_sR (ev_sR (ev_sR (ev_sR ev_R0 0 65) 1 66) 2 67) 3 68) ([.inl (1, .inl (upd (fun _ => 0) 0 0)), .inl (1, .inr (.inl (vp_updL (fun _ => 0) 0 0))), .inl (1, .inr (.inl (vp_updL (fun _ => 0) 0 0))), .inl (1, .inr (.inl (vp_updL (fun _ => 0) 0 0)))] : List ez_C)) cz kz = bif decide (1 ≤ a) then G 232 34 [.ref 35, .int a] [] (ev_hp (ev_sI (ev_sI (ev_sI (ev_sI (ev_sI ev_I0 6 (upd (upd (ev_I0 6) 4 1) 3 1)) 13 (upd (ev_I0 13) 8 1)) 35 (upd (upd (ev_I0 35) 14 1) 24 1)) 41 (upd (upd (upd (ev_I0 41) 0 0) 1 0) 2 0)) 49 (upd (ev_I0 49) 0 0)) (ev_sJ (ev_sJ (ev_sJ (ev_sJ ev_J0 11 (vp_updL (vp_updL (vp_updL (ev_J0 11) 0 0) 1 0) 2 0)) 12 (vp_updL (vp_updL (vp_updL (ev_J0 12) 0 0) 1 0) 2 0)) 50 (vp_updL (vp_updL (vp_updL (ev_J0 50) 0 0) 1 0) 2 0)) 51 (vp_updL (vp_updL (vp_updL (ev_J0 51) 0 0) 1 0) 2 0)) (ev_sR (ev_sR (ev_sR (ev_sR ev_R0 0 65) 1 66) 2 67) 3 68) ([.inl (1, .inl (upd (fun _ => 0) 0 0)), .inl (1, .inr (.inl (vp_updL (fun _ => 0) 0 0))), .inl (1, .inr (.inl (vp_updL (fun _ => 0) 0 0))), .inl (1, .inr (.inl (vp_updL (fun _ => 0) 0 0)))] : List ez_C)) cz kz else G 232 25 [.ref 35, .int a] [] (ev_hp (ev_sI (ev_sI (ev_sI (ev_sI (ev_sI ev_I0 6 (upd (upd (ev_I0 6) 4 1) 3 1)) 13 (upd (ev_I0 13) 8 1)) 35 (upd (upd (ev_I0 35) 14 1) 24 1)) 41 (upd (upd (upd (ev_I0 41) 0 0) 1 0) 2 0)) 49 (upd (ev_I0 49) 0 0)) (ev_sJ (ev_sJ (ev_sJ (ev_sJ ev_J0 11 (vp_updL (vp_updL (vp_updL (ev_J0 11) 0 0) 1 0) 2 0)) 12 (vp_updL (vp_updL (vp_updL (ev_J0 12) 0 0) 1 0) 2 0)) 50 (vp_updL (vp_updL (vp_updL (ev_J0 50) 0 0) 1 0) 2 0)) 51 (vp_updL (vp_updL (vp_updL (ev_J0 51) 0 0) 1 0) 2 0)) (ev_sR (ev_sR (ev_sR (ev_sR ev_R0 0 65) 1 66) 2 67) 3 68) ([.inl (1, .inl (upd (fun _ => 0) 0 0)), .inl (1, .inr (.inl (vp_updL (fun _ => 0) 0 0))), .inl (1, .inr (.inl (vp_updL (fun _ => 0) 0 0))), .inl (1, .inr (.inl (vp_updL (fun _ => 0) 0 0)))] : List ez_C)) cz kz := by
  intro G
  rfl
set_option maxRecDepth 100000 in
set_option maxHeartbeats 100000 in
theorem eh_which_n_r4 (X : ez_X) (I : Nat → Nat → Int32) (J : Nat → Nat → Int64) (R : Nat → Nat) (T : List ez_C) (a : Int32) (cz kz : Nat) : ∀ G : ez_F, fx_up X 2 G 232 34 [.ref 35, .int a] [] (ev_hp (ev_sI (ev_sI (ev_sI (ev_sI (ev_sI ev_I0 6 (upd (upd (ev_I0 6) 4 1) 3 1)) 13 (upd (ev_I0 13) 8 1)) 35 (upd (upd (ev_I0 35) 14 1) 24 1)) 41 (upd (upd (upd (ev_I0 41) 0 0) 1 0) 2 0)) 49 (upd (ev_I0 49) 0 0)) (ev_sJ (ev_sJ (ev_sJ (ev_sJ ev_J0 11 (vp_updL (vp_updL (vp_updL (ev_J0 11) 0 0) 1 0) 2 0)) 12 (vp_updL (vp_updL (vp_updL (ev_J0 12) 0 0) 1 0) 2 0)) 50 (vp_updL (vp_updL (vp_updL (ev_J0 50) 0 0) 1 0) 2 0)) 51 (vp_updL (vp_updL (vp_updL (ev_J0 51) 0 0) 1 0) 2 0)) (ev_sR (ev_sR (ev_sR (ev_sR ev_R0 0 65) 1 66) 2 67) 3 68) ([.inl (1, .inl (upd (fun _ => 0) 0 0)), .inl (1, .inr (.inl (vp_updL (fun _ => 0) 0 0))), .inl (1, .inr (.inl (vp_updL (fun _ => 0) 0 0))), .inl (1, .inr (.inl (vp_updL (fun _ => 0) 0 0)))] : List ez_C)) cz kz = some (some (.int (-1)), (ev_hp (ev_sI (ev_sI (ev_sI (ev_sI (ev_sI ev_I0 6 (upd (upd (ev_I0 6) 4 1) 3 1)) 13 (upd (ev_I0 13) 8 1)) 35 (upd (upd (ev_I0 35) 14 1) 24 1)) 41 (upd (upd (upd (ev_I0 41) 0 0) 1 0) 2 0)) 49 (upd (ev_I0 49) 0 0)) (ev_sJ (ev_sJ (ev_sJ (ev_sJ ev_J0 11 (vp_updL (vp_updL (vp_updL (ev_J0 11) 0 0) 1 0) 2 0)) 12 (vp_updL (vp_updL (vp_updL (ev_J0 12) 0 0) 1 0) 2 0)) 50 (vp_updL (vp_updL (vp_updL (ev_J0 50) 0 0) 1 0) 2 0)) 51 (vp_updL (vp_updL (vp_updL (ev_J0 51) 0 0) 1 0) 2 0)) (ev_sR (ev_sR (ev_sR (ev_sR ev_R0 0 65) 1 66) 2 67) 3 68) ([.inl (1, .inl (upd (fun _ => 0) 0 0)), .inl (1, .inr (.inl (vp_updL (fun _ => 0) 0 0))), .inl (1, .inr (.inl (vp_updL (fun _ => 0) 0 0))), .inl (1, .inr (.inl (vp_updL (fun _ => 0) 0 0)))] : List ez_C)), cz, kz) := by
  intro G
  rfl
theorem eh_which_n (X : ez_X) (I : Nat → Nat → Int32) (J : Nat → Nat → Int64) (R : Nat → Nat) (T : List ez_C) (a : Int32) (ha : 0 < a) : ev_W X 232 0 (ez_lay [.ref 35, .int a]) [] (ev_hp (ev_sI (ev_sI ev_I0 6 (upd (upd (ev_I0 6) 4 1) 3 1)) 13 (upd (ev_I0 13) 8 1)) (ev_sJ (ev_sJ ev_J0 11 (vp_updL (vp_updL (vp_updL (ev_J0 11) 0 0) 1 0) 2 0)) 12 (vp_updL (vp_updL (vp_updL (ev_J0 12) 0 0) 1 0) 2 0)) (ev_sR (ev_sR (ev_sR (ev_sR ev_R0 0 65) 1 66) 2 67) 3 68) ([.inl (1, .inl (upd (fun _ => 0) 0 0)), .inl (1, .inr (.inl (vp_updL (fun _ => 0) 0 0))), .inl (1, .inr (.inl (vp_updL (fun _ => 0) 0 0))), .inl (1, .inr (.inl (vp_updL (fun _ => 0) 0 0)))] : List ez_C)) 0 0 (fun r h1 c1 k1 => ((0 ≤ a) ∧ (1 ≤ a) ∧ r = some (.int (-1)) ∧ h1 = (ev_hp (ev_sI (ev_sI (ev_sI (ev_sI (ev_sI ev_I0 6 (upd (upd (ev_I0 6) 4 1) 3 1)) 13 (upd (ev_I0 13) 8 1)) 35 (upd (upd (ev_I0 35) 14 1) 24 1)) 41 (upd (upd (upd (ev_I0 41) 0 0) 1 0) 2 0)) 49 (upd (ev_I0 49) 0 0)) (ev_sJ (ev_sJ (ev_sJ (ev_sJ ev_J0 11 (vp_updL (vp_updL (vp_updL (ev_J0 11) 0 0) 1 0) 2 0)) 12 (vp_updL (vp_updL (vp_updL (ev_J0 12) 0 0) 1 0) 2 0)) 50 (vp_updL (vp_updL (vp_updL (ev_J0 50) 0 0) 1 0) 2 0)) 51 (vp_updL (vp_updL (vp_updL (ev_J0 51) 0 0) 1 0) 2 0)) (ev_sR (ev_sR (ev_sR (ev_sR ev_R0 0 65) 1 66) 2 67) 3 68) ([.inl (1, .inl (upd (fun _ => 0) 0 0)), .inl (1, .inr (.inl (vp_updL (fun _ => 0) 0 0))), .inl (1, .inr (.inl (vp_updL (fun _ => 0) 0 0))), .inl (1, .inr (.inl (vp_updL (fun _ => 0) 0 0)))] : List ez_C)) ∧ c1 = 0 ∧ k1 = 0)) := by
  refine ev_if (eh_which_n_r1 X I J R T a _ _) (fun b1 => ?_) (fun b1 => ?_)
  · replace b1 := of_decide_eq_true b1
    refine ev_call (eh_which_n_r2 X I J R T a _ _) (sp_z_71_findLeft X) ?_
    rintro _ _ _ _ ⟨rfl, rfl, rfl, rfl⟩
    refine ev_if (eh_which_n_r3 X I J R T a _ _) (fun b2 => ?_) (fun b2 => ?_)
    · replace b2 := of_decide_eq_true b2
      refine ev_ret (eh_which_n_r4 X I J R T a _ _) ?_
      exact ⟨b1, b2, rfl, rfl, rfl, rfl⟩
    · replace b2 := of_decide_eq_false b2
      exact absurd (ev_pos ha) b2
  · replace b1 := of_decide_eq_false b1
    exact absurd (Int32.le_of_lt ha) b1
set_option maxRecDepth 100000 in
set_option maxHeartbeats 100000 in
theorem eo_which_n_r1 (xs : Nat → Int32)  (cz kz : Nat) : ∀ G : ez_F, fx_up (4, xs) 2 G 241 660 [ez_scr, .ref 0, .ref 35, .int 0] [] (ev_hp ev_I0 ev_J0 ev_R0 []) cz kz = G 241 662 [ez_scr, .ref 0, .ref 35, .int 0] [ez_scr, .ref 0] (ev_hp ev_I0 ev_J0 ev_R0 []) cz kz := by
  intro G
  rfl
set_option maxRecDepth 100000 in
set_option maxHeartbeats 100000 in
theorem eo_which_n_r2 (xs : Nat → Int32)  (cz kz : Nat) : ∀ G : ez_F, fx_up (4, xs) 2 G 241 662 [ez_scr, .ref 0, .ref 35, .int 0] [ez_scr, .ref 0] (ev_hp ev_I0 ev_J0 ev_R0 []) cz kz = G 241 664 [ez_scr, .ref 0, .ref 35, .int 0] [.int 1, .int 0, ez_scr, .ref 0] (ev_hp ev_I0 ev_J0 ev_R0 []) cz kz := by
  intro G
  rfl
set_option maxRecDepth 100000 in
set_option maxHeartbeats 100000 in
theorem eo_which_n_r3 (xs : Nat → Int32)  (cz kz : Nat) : ∀ G : ez_F, fx_up (4, xs) 2 G 241 664 [ez_scr, .ref 0, .ref 35, .int 0] [.int 1, .int 0, ez_scr, .ref 0] (ev_hp ev_I0 ev_J0 ev_R0 []) cz kz = G 241 666 [ez_scr, .ref 0, .ref 35, .int 0] [.int (xs 1), .ref 0] (ev_hp ev_I0 ev_J0 ev_R0 []) cz kz := by
  intro G
  rfl
set_option maxRecDepth 100000 in
set_option maxHeartbeats 100000 in
theorem eo_which_n_r4 (xs : Nat → Int32)  (cz kz : Nat) : ∀ G : ez_F, fx_up (4, xs) 1 G 241 666 [ez_scr, .ref 0, .ref 35, .int 0] [.int (xs 1), .ref 0] (ev_hp ev_I0 ev_J0 ev_R0 []) cz kz = ev_C G 54 [.ref 0, .int (xs 1)] (ev_hp ev_I0 ev_J0 ev_R0 []) fun r h1 c1 k1 => G 241 669 [ez_scr, .ref 0, .ref 35, .int 0] (r.toList ++ []) h1 (cz + c1) (kz + k1) := by
  intro G
  rfl
set_option maxRecDepth 100000 in
set_option maxHeartbeats 100000 in
theorem eo_which_n_r5 (xs : Nat → Int32)  (cz kz : Nat) : ∀ G : ez_F, fx_up (4, xs) 2 G 241 669 [ez_scr, .ref 0, .ref 35, .int 0] [.int (-1)] (ev_hp (ev_sI (ev_sI ev_I0 6 (upd (upd (ev_I0 6) 4 1) 3 1)) 13 (upd (ev_I0 13) 8 1)) (ev_sJ (ev_sJ ev_J0 11 (vp_updL (vp_updL (vp_updL (ev_J0 11) 0 0) 1 0) 2 0)) 12 (vp_updL (vp_updL (vp_updL (ev_J0 12) 0 0) 1 0) 2 0)) (ev_sR (ev_sR (ev_sR (ev_sR ev_R0 0 65) 1 66) 2 67) 3 68) ([.inl (1, .inl (upd (fun _ => 0) 0 0)), .inl (1, .inr (.inl (vp_updL (fun _ => 0) 0 0))), .inl (1, .inr (.inl (vp_updL (fun _ => 0) 0 0))), .inl (1, .inr (.inl (vp_updL (fun _ => 0) 0 0)))] : List ez_C)) cz kz = G 241 671 [ez_scr, .ref 0, .ref 35, .int 0] [ez_scr, .ref 35, .int (-1)] (ev_hp (ev_sI (ev_sI ev_I0 6 (upd (upd (ev_I0 6) 4 1) 3 1)) 13 (upd (ev_I0 13) 8 1)) (ev_sJ (ev_sJ ev_J0 11 (vp_updL (vp_updL (vp_updL (ev_J0 11) 0 0) 1 0) 2 0)) 12 (vp_updL (vp_updL (vp_updL (ev_J0 12) 0 0) 1 0) 2 0)) (ev_sR (ev_sR (ev_sR (ev_sR ev_R0 0 65) 1 66) 2 67) 3 68) ([.inl (1, .inl (upd (fun _ => 0) 0 0)), .inl (1, .inr (.inl (vp_updL (fun _ => 0) 0 0))), .inl (1, .inr (.inl (vp_updL (fun _ => 0) 0 0))), .inl (1, .inr (.inl (vp_updL (fun _ => 0) 0 0)))] : List ez_C)) cz kz := by
  intro G
  rfl
set_option maxRecDepth 100000 in
set_option maxHeartbeats 100000 in
theorem eo_which_n_r6 (xs : Nat → Int32)  (cz kz : Nat) : ∀ G : ez_F, fx_up (4, xs) 2 G 241 671 [ez_scr, .ref 0, .ref 35, .int 0] [ez_scr, .ref 35, .int (-1)] (ev_hp (ev_sI (ev_sI ev_I0 6 (upd (upd (ev_I0 6) 4 1) 3 1)) 13 (upd (ev_I0 13) 8 1)) (ev_sJ (ev_sJ ev_J0 11 (vp_updL (vp_updL (vp_updL (ev_J0 11) 0 0) 1 0) 2 0)) 12 (vp_updL (vp_updL (vp_updL (ev_J0 12) 0 0) 1 0) 2 0)) (ev_sR (ev_sR (ev_sR (ev_sR ev_R0 0 65) 1 66) 2 67) 3 68) ([.inl (1, .inl (upd (fun _ => 0) 0 0)), .inl (1, .inr (.inl (vp_updL (fun _ => 0) 0 0))), .inl (1, .inr (.inl (vp_updL (fun _ => 0) 0 0))), .inl (1, .inr (.inl (vp_updL (fun _ => 0) 0 0)))] : List ez_C)) cz kz = G 241 673 [ez_scr, .ref 0, .ref 35, .int 0] [.int 1, .int 0, ez_scr, .ref 35, .int (-1)] (ev_hp (ev_sI (ev_sI ev_I0 6 (upd (upd (ev_I0 6) 4 1) 3 1)) 13 (upd (ev_I0 13) 8 1)) (ev_sJ (ev_sJ ev_J0 11 (vp_updL (vp_updL (vp_updL (ev_J0 11) 0 0) 1 0) 2 0)) 12 (vp_updL (vp_updL (vp_updL (ev_J0 12) 0 0) 1 0) 2 0)) (ev_sR (ev_sR (ev_sR (ev_sR ev_R0 0 65) 1 66) 2 67) 3 68) ([.inl (1, .inl (upd (fun _ => 0) 0 0)), .inl (1, .inr (.inl (vp_updL (fun _ => 0) 0 0))), .inl (1, .inr (.inl (vp_updL (fun _ => 0) 0 0))), .inl (1, .inr (.inl (vp_updL (fun _ => 0) 0 0)))] : List ez_C)) cz kz := by
  intro G
  rfl
set_option maxRecDepth 100000 in
set_option maxHeartbeats 100000 in
theorem eo_which_n_r7 (xs : Nat → Int32)  (cz kz : Nat) : ∀ G : ez_F, fx_up (4, xs) 2 G 241 673 [ez_scr, .ref 0, .ref 35, .int 0] [.int 1, .int 0, ez_scr, .ref 35, .int (-1)] (ev_hp (ev_sI (ev_sI ev_I0 6 (upd (upd (ev_I0 6) 4 1) 3 1)) 13 (upd (ev_I0 13) 8 1)) (ev_sJ (ev_sJ ev_J0 11 (vp_updL (vp_updL (vp_updL (ev_J0 11) 0 0) 1 0) 2 0)) 12 (vp_updL (vp_updL (vp_updL (ev_J0 12) 0 0) 1 0) 2 0)) (ev_sR (ev_sR (ev_sR (ev_sR ev_R0 0 65) 1 66) 2 67) 3 68) ([.inl (1, .inl (upd (fun _ => 0) 0 0)), .inl (1, .inr (.inl (vp_updL (fun _ => 0) 0 0))), .inl (1, .inr (.inl (vp_updL (fun _ => 0) 0 0))), .inl (1, .inr (.inl (vp_updL (fun _ => 0) 0 0)))] : List ez_C)) cz kz = G 241 675 [ez_scr, .ref 0, .ref 35, .int 0] [.int (xs 1), .ref 35, .int (-1)] (ev_hp (ev_sI (ev_sI ev_I0 6 (upd (upd (ev_I0 6) 4 1) 3 1)) 13 (upd (ev_I0 13) 8 1)) (ev_sJ (ev_sJ ev_J0 11 (vp_updL (vp_updL (vp_updL (ev_J0 11) 0 0) 1 0) 2 0)) 12 (vp_updL (vp_updL (vp_updL (ev_J0 12) 0 0) 1 0) 2 0)) (ev_sR (ev_sR (ev_sR (ev_sR ev_R0 0 65) 1 66) 2 67) 3 68) ([.inl (1, .inl (upd (fun _ => 0) 0 0)), .inl (1, .inr (.inl (vp_updL (fun _ => 0) 0 0))), .inl (1, .inr (.inl (vp_updL (fun _ => 0) 0 0))), .inl (1, .inr (.inl (vp_updL (fun _ => 0) 0 0)))] : List ez_C)) cz kz := by
  intro G
  rfl
set_option maxRecDepth 100000 in
set_option maxHeartbeats 100000 in
theorem eo_which_n_r8 (xs : Nat → Int32)  (cz kz : Nat) : ∀ G : ez_F, fx_up (4, xs) 1 G 241 675 [ez_scr, .ref 0, .ref 35, .int 0] [.int (xs 1), .ref 35, .int (-1)] (ev_hp (ev_sI (ev_sI ev_I0 6 (upd (upd (ev_I0 6) 4 1) 3 1)) 13 (upd (ev_I0 13) 8 1)) (ev_sJ (ev_sJ ev_J0 11 (vp_updL (vp_updL (vp_updL (ev_J0 11) 0 0) 1 0) 2 0)) 12 (vp_updL (vp_updL (vp_updL (ev_J0 12) 0 0) 1 0) 2 0)) (ev_sR (ev_sR (ev_sR (ev_sR ev_R0 0 65) 1 66) 2 67) 3 68) ([.inl (1, .inl (upd (fun _ => 0) 0 0)), .inl (1, .inr (.inl (vp_updL (fun _ => 0) 0 0))), .inl (1, .inr (.inl (vp_updL (fun _ => 0) 0 0))), .inl (1, .inr (.inl (vp_updL (fun _ => 0) 0 0)))] : List ez_C)) cz kz = ev_C G 232 [.ref 35, .int (xs 1)] (ev_hp (ev_sI (ev_sI ev_I0 6 (upd (upd (ev_I0 6) 4 1) 3 1)) 13 (upd (ev_I0 13) 8 1)) (ev_sJ (ev_sJ ev_J0 11 (vp_updL (vp_updL (vp_updL (ev_J0 11) 0 0) 1 0) 2 0)) 12 (vp_updL (vp_updL (vp_updL (ev_J0 12) 0 0) 1 0) 2 0)) (ev_sR (ev_sR (ev_sR (ev_sR ev_R0 0 65) 1 66) 2 67) 3 68) ([.inl (1, .inl (upd (fun _ => 0) 0 0)), .inl (1, .inr (.inl (vp_updL (fun _ => 0) 0 0))), .inl (1, .inr (.inl (vp_updL (fun _ => 0) 0 0))), .inl (1, .inr (.inl (vp_updL (fun _ => 0) 0 0)))] : List ez_C)) fun r h1 c1 k1 => G 241 678 [ez_scr, .ref 0, .ref 35, .int 0] (r.toList ++ [.int (-1)]) h1 (cz + c1) (kz + k1) := by
  intro G
  rfl
set_option maxRecDepth 100000 in
set_option maxHeartbeats 100000 in
theorem eo_which_n_r9 (xs : Nat → Int32)  (cz kz : Nat) : ∀ G : ez_F, fx_up (4, xs) 2 G 241 678 [ez_scr, .ref 0, .ref 35, .int 0] [.int (-1), .int (-1)] (ev_hp (ev_sI (ev_sI (ev_sI (ev_sI (ev_sI ev_I0 6 (upd (upd (ev_I0 6) 4 1) 3 1)) 13 (upd (ev_I0 13) 8 1)) 35 (upd (upd (ev_I0 35) 14 1) 24 1)) 41 (upd (upd (upd (ev_I0 41) 0 0) 1 0) 2 0)) 49 (upd (ev_I0 49) 0 0)) (ev_sJ (ev_sJ (ev_sJ (ev_sJ ev_J0 11 (vp_updL (vp_updL (vp_updL (ev_J0 11) 0 0) 1 0) 2 0)) 12 (vp_updL (vp_updL (vp_updL (ev_J0 12) 0 0) 1 0) 2 0)) 50 (vp_updL (vp_updL (vp_updL (ev_J0 50) 0 0) 1 0) 2 0)) 51 (vp_updL (vp_updL (vp_updL (ev_J0 51) 0 0) 1 0) 2 0)) (ev_sR (ev_sR (ev_sR (ev_sR ev_R0 0 65) 1 66) 2 67) 3 68) ([.inl (1, .inl (upd (fun _ => 0) 0 0)), .inl (1, .inr (.inl (vp_updL (fun _ => 0) 0 0))), .inl (1, .inr (.inl (vp_updL (fun _ => 0) 0 0))), .inl (1, .inr (.inl (vp_updL (fun _ => 0) 0 0)))] : List ez_C)) cz kz = G 241 1078 [ez_scr, .ref 0, .ref 35, .int 4] [] (ev_hp (ev_sI (ev_sI (ev_sI (ev_sI (ev_sI ev_I0 6 (upd (upd (ev_I0 6) 4 1) 3 1)) 13 (upd (ev_I0 13) 8 1)) 35 (upd (upd (ev_I0 35) 14 1) 24 1)) 41 (upd (upd (upd (ev_I0 41) 0 0) 1 0) 2 0)) 49 (upd (ev_I0 49) 0 0)) (ev_sJ (ev_sJ (ev_sJ (ev_sJ ev_J0 11 (vp_updL (vp_updL (vp_updL (ev_J0 11) 0 0) 1 0) 2 0)) 12 (vp_updL (vp_updL (vp_updL (ev_J0 12) 0 0) 1 0) 2 0)) 50 (vp_updL (vp_updL (vp_updL (ev_J0 50) 0 0) 1 0) 2 0)) 51 (vp_updL (vp_updL (vp_updL (ev_J0 51) 0 0) 1 0) 2 0)) (ev_sR (ev_sR (ev_sR (ev_sR ev_R0 0 65) 1 66) 2 67) 3 68) ([.inl (1, .inl (upd (fun _ => 0) 0 0)), .inl (1, .inr (.inl (vp_updL (fun _ => 0) 0 0))), .inl (1, .inr (.inl (vp_updL (fun _ => 0) 0 0))), .inl (1, .inr (.inl (vp_updL (fun _ => 0) 0 0)))] : List ez_C)) cz kz := by
  intro G
  rfl
set_option maxRecDepth 100000 in
set_option maxHeartbeats 100000 in
theorem eo_which_n_r10 (xs : Nat → Int32)  (cz kz : Nat) : ∀ G : ez_F, fx_up (4, xs) 2 G 241 1078 [ez_scr, .ref 0, .ref 35, .int 4] [] (ev_hp (ev_sI (ev_sI (ev_sI (ev_sI (ev_sI ev_I0 6 (upd (upd (ev_I0 6) 4 1) 3 1)) 13 (upd (ev_I0 13) 8 1)) 35 (upd (upd (ev_I0 35) 14 1) 24 1)) 41 (upd (upd (upd (ev_I0 41) 0 0) 1 0) 2 0)) 49 (upd (ev_I0 49) 0 0)) (ev_sJ (ev_sJ (ev_sJ (ev_sJ ev_J0 11 (vp_updL (vp_updL (vp_updL (ev_J0 11) 0 0) 1 0) 2 0)) 12 (vp_updL (vp_updL (vp_updL (ev_J0 12) 0 0) 1 0) 2 0)) 50 (vp_updL (vp_updL (vp_updL (ev_J0 50) 0 0) 1 0) 2 0)) 51 (vp_updL (vp_updL (vp_updL (ev_J0 51) 0 0) 1 0) 2 0)) (ev_sR (ev_sR (ev_sR (ev_sR ev_R0 0 65) 1 66) 2 67) 3 68) ([.inl (1, .inl (upd (fun _ => 0) 0 0)), .inl (1, .inr (.inl (vp_updL (fun _ => 0) 0 0))), .inl (1, .inr (.inl (vp_updL (fun _ => 0) 0 0))), .inl (1, .inr (.inl (vp_updL (fun _ => 0) 0 0)))] : List ez_C)) cz kz = G 241 19 [ez_scr, .ref 0, .ref 35, .int 4] [.int 4] (ev_hp (ev_sI (ev_sI (ev_sI (ev_sI (ev_sI ev_I0 6 (upd (upd (ev_I0 6) 4 1) 3 1)) 13 (upd (ev_I0 13) 8 1)) 35 (upd (upd (ev_I0 35) 14 1) 24 1)) 41 (upd (upd (upd (ev_I0 41) 0 0) 1 0) 2 0)) 49 (upd (ev_I0 49) 0 0)) (ev_sJ (ev_sJ (ev_sJ (ev_sJ ev_J0 11 (vp_updL (vp_updL (vp_updL (ev_J0 11) 0 0) 1 0) 2 0)) 12 (vp_updL (vp_updL (vp_updL (ev_J0 12) 0 0) 1 0) 2 0)) 50 (vp_updL (vp_updL (vp_updL (ev_J0 50) 0 0) 1 0) 2 0)) 51 (vp_updL (vp_updL (vp_updL (ev_J0 51) 0 0) 1 0) 2 0)) (ev_sR (ev_sR (ev_sR (ev_sR ev_R0 0 65) 1 66) 2 67) 3 68) ([.inl (1, .inl (upd (fun _ => 0) 0 0)), .inl (1, .inr (.inl (vp_updL (fun _ => 0) 0 0))), .inl (1, .inr (.inl (vp_updL (fun _ => 0) 0 0))), .inl (1, .inr (.inl (vp_updL (fun _ => 0) 0 0)))] : List ez_C)) cz kz := by
  intro G
  rfl
set_option maxRecDepth 100000 in
set_option maxHeartbeats 100000 in
theorem eo_which_n_r11 (xs : Nat → Int32)  (cz kz : Nat) : ∀ G : ez_F, fx_up (4, xs) 2 G 241 19 [ez_scr, .ref 0, .ref 35, .int 4] [.int 4] (ev_hp (ev_sI (ev_sI (ev_sI (ev_sI (ev_sI ev_I0 6 (upd (upd (ev_I0 6) 4 1) 3 1)) 13 (upd (ev_I0 13) 8 1)) 35 (upd (upd (ev_I0 35) 14 1) 24 1)) 41 (upd (upd (upd (ev_I0 41) 0 0) 1 0) 2 0)) 49 (upd (ev_I0 49) 0 0)) (ev_sJ (ev_sJ (ev_sJ (ev_sJ ev_J0 11 (vp_updL (vp_updL (vp_updL (ev_J0 11) 0 0) 1 0) 2 0)) 12 (vp_updL (vp_updL (vp_updL (ev_J0 12) 0 0) 1 0) 2 0)) 50 (vp_updL (vp_updL (vp_updL (ev_J0 50) 0 0) 1 0) 2 0)) 51 (vp_updL (vp_updL (vp_updL (ev_J0 51) 0 0) 1 0) 2 0)) (ev_sR (ev_sR (ev_sR (ev_sR ev_R0 0 65) 1 66) 2 67) 3 68) ([.inl (1, .inl (upd (fun _ => 0) 0 0)), .inl (1, .inr (.inl (vp_updL (fun _ => 0) 0 0))), .inl (1, .inr (.inl (vp_updL (fun _ => 0) 0 0))), .inl (1, .inr (.inl (vp_updL (fun _ => 0) 0 0)))] : List ez_C)) cz kz = G 241 21 [ez_scr, .ref 0, .ref 35, .int 4] [.int 4, .int 4] (ev_hp (ev_sI (ev_sI (ev_sI (ev_sI (ev_sI ev_I0 6 (upd (upd (ev_I0 6) 4 1) 3 1)) 13 (upd (ev_I0 13) 8 1)) 35 (upd (upd (ev_I0 35) 14 1) 24 1)) 41 (upd (upd (upd (ev_I0 41) 0 0) 1 0) 2 0)) 49 (upd (ev_I0 49) 0 0)) (ev_sJ (ev_sJ (ev_sJ (ev_sJ ev_J0 11 (vp_updL (vp_updL (vp_updL (ev_J0 11) 0 0) 1 0) 2 0)) 12 (vp_updL (vp_updL (vp_updL (ev_J0 12) 0 0) 1 0) 2 0)) 50 (vp_updL (vp_updL (vp_updL (ev_J0 50) 0 0) 1 0) 2 0)) 51 (vp_updL (vp_updL (vp_updL (ev_J0 51) 0 0) 1 0) 2 0)) (ev_sR (ev_sR (ev_sR (ev_sR ev_R0 0 65) 1 66) 2 67) 3 68) ([.inl (1, .inl (upd (fun _ => 0) 0 0)), .inl (1, .inr (.inl (vp_updL (fun _ => 0) 0 0))), .inl (1, .inr (.inl (vp_updL (fun _ => 0) 0 0))), .inl (1, .inr (.inl (vp_updL (fun _ => 0) 0 0)))] : List ez_C)) cz kz := by
  intro G
  rfl
set_option maxRecDepth 100000 in
set_option maxHeartbeats 100000 in
theorem eo_which_n_r12 (xs : Nat → Int32)  (cz kz : Nat) : ∀ G : ez_F, fx_up (4, xs) 2 G 241 21 [ez_scr, .ref 0, .ref 35, .int 4] [.int 4, .int 4] (ev_hp (ev_sI (ev_sI (ev_sI (ev_sI (ev_sI ev_I0 6 (upd (upd (ev_I0 6) 4 1) 3 1)) 13 (upd (ev_I0 13) 8 1)) 35 (upd (upd (ev_I0 35) 14 1) 24 1)) 41 (upd (upd (upd (ev_I0 41) 0 0) 1 0) 2 0)) 49 (upd (ev_I0 49) 0 0)) (ev_sJ (ev_sJ (ev_sJ (ev_sJ ev_J0 11 (vp_updL (vp_updL (vp_updL (ev_J0 11) 0 0) 1 0) 2 0)) 12 (vp_updL (vp_updL (vp_updL (ev_J0 12) 0 0) 1 0) 2 0)) 50 (vp_updL (vp_updL (vp_updL (ev_J0 50) 0 0) 1 0) 2 0)) 51 (vp_updL (vp_updL (vp_updL (ev_J0 51) 0 0) 1 0) 2 0)) (ev_sR (ev_sR (ev_sR (ev_sR ev_R0 0 65) 1 66) 2 67) 3 68) ([.inl (1, .inl (upd (fun _ => 0) 0 0)), .inl (1, .inr (.inl (vp_updL (fun _ => 0) 0 0))), .inl (1, .inr (.inl (vp_updL (fun _ => 0) 0 0))), .inl (1, .inr (.inl (vp_updL (fun _ => 0) 0 0)))] : List ez_C)) cz kz = G 241 23 [ez_scr, .ref 0, .ref 35, .int 4] [.int 0, .int 4] (ev_hp (ev_sI (ev_sI (ev_sI (ev_sI (ev_sI ev_I0 6 (upd (upd (ev_I0 6) 4 1) 3 1)) 13 (upd (ev_I0 13) 8 1)) 35 (upd (upd (ev_I0 35) 14 1) 24 1)) 41 (upd (upd (upd (ev_I0 41) 0 0) 1 0) 2 0)) 49 (upd (ev_I0 49) 0 0)) (ev_sJ (ev_sJ (ev_sJ (ev_sJ ev_J0 11 (vp_updL (vp_updL (vp_updL (ev_J0 11) 0 0) 1 0) 2 0)) 12 (vp_updL (vp_updL (vp_updL (ev_J0 12) 0 0) 1 0) 2 0)) 50 (vp_updL (vp_updL (vp_updL (ev_J0 50) 0 0) 1 0) 2 0)) 51 (vp_updL (vp_updL (vp_updL (ev_J0 51) 0 0) 1 0) 2 0)) (ev_sR (ev_sR (ev_sR (ev_sR ev_R0 0 65) 1 66) 2 67) 3 68) ([.inl (1, .inl (upd (fun _ => 0) 0 0)), .inl (1, .inr (.inl (vp_updL (fun _ => 0) 0 0))), .inl (1, .inr (.inl (vp_updL (fun _ => 0) 0 0))), .inl (1, .inr (.inl (vp_updL (fun _ => 0) 0 0)))] : List ez_C)) cz kz := by
  intro G
  rfl
set_option maxRecDepth 100000 in
set_option maxHeartbeats 100000 in
theorem eo_which_n_r13 (xs : Nat → Int32)  (cz kz : Nat) : ∀ G : ez_F, fx_up (4, xs) 2 G 241 23 [ez_scr, .ref 0, .ref 35, .int 4] [.int 0, .int 4] (ev_hp (ev_sI (ev_sI (ev_sI (ev_sI (ev_sI ev_I0 6 (upd (upd (ev_I0 6) 4 1) 3 1)) 13 (upd (ev_I0 13) 8 1)) 35 (upd (upd (ev_I0 35) 14 1) 24 1)) 41 (upd (upd (upd (ev_I0 41) 0 0) 1 0) 2 0)) 49 (upd (ev_I0 49) 0 0)) (ev_sJ (ev_sJ (ev_sJ (ev_sJ ev_J0 11 (vp_updL (vp_updL (vp_updL (ev_J0 11) 0 0) 1 0) 2 0)) 12 (vp_updL (vp_updL (vp_updL (ev_J0 12) 0 0) 1 0) 2 0)) 50 (vp_updL (vp_updL (vp_updL (ev_J0 50) 0 0) 1 0) 2 0)) 51 (vp_updL (vp_updL (vp_updL (ev_J0 51) 0 0) 1 0) 2 0)) (ev_sR (ev_sR (ev_sR (ev_sR ev_R0 0 65) 1 66) 2 67) 3 68) ([.inl (1, .inl (upd (fun _ => 0) 0 0)), .inl (1, .inr (.inl (vp_updL (fun _ => 0) 0 0))), .inl (1, .inr (.inl (vp_updL (fun _ => 0) 0 0))), .inl (1, .inr (.inl (vp_updL (fun _ => 0) 0 0)))] : List ez_C)) cz kz = G 241 1082 [ez_scr, .ref 0, .ref 35, .int 4] [.int 1] (ev_hp (ev_sI (ev_sI (ev_sI (ev_sI (ev_sI ev_I0 6 (upd (upd (ev_I0 6) 4 1) 3 1)) 13 (upd (ev_I0 13) 8 1)) 35 (upd (upd (ev_I0 35) 14 1) 24 1)) 41 (upd (upd (upd (ev_I0 41) 0 0) 1 0) 2 0)) 49 (upd (ev_I0 49) 0 0)) (ev_sJ (ev_sJ (ev_sJ (ev_sJ ev_J0 11 (vp_updL (vp_updL (vp_updL (ev_J0 11) 0 0) 1 0) 2 0)) 12 (vp_updL (vp_updL (vp_updL (ev_J0 12) 0 0) 1 0) 2 0)) 50 (vp_updL (vp_updL (vp_updL (ev_J0 50) 0 0) 1 0) 2 0)) 51 (vp_updL (vp_updL (vp_updL (ev_J0 51) 0 0) 1 0) 2 0)) (ev_sR (ev_sR (ev_sR (ev_sR ev_R0 0 65) 1 66) 2 67) 3 68) ([.inl (1, .inl (upd (fun _ => 0) 0 0)), .inl (1, .inr (.inl (vp_updL (fun _ => 0) 0 0))), .inl (1, .inr (.inl (vp_updL (fun _ => 0) 0 0))), .inl (1, .inr (.inl (vp_updL (fun _ => 0) 0 0)))] : List ez_C)) cz kz := by
  intro G
  rfl
set_option maxRecDepth 100000 in
set_option maxHeartbeats 100000 in
theorem eo_which_n_r14 (xs : Nat → Int32)  (cz kz : Nat) : ∀ G : ez_F, fx_up (4, xs) 1 G 241 1082 [ez_scr, .ref 0, .ref 35, .int 4] [.int 1] (ev_hp (ev_sI (ev_sI (ev_sI (ev_sI (ev_sI ev_I0 6 (upd (upd (ev_I0 6) 4 1) 3 1)) 13 (upd (ev_I0 13) 8 1)) 35 (upd (upd (ev_I0 35) 14 1) 24 1)) 41 (upd (upd (upd (ev_I0 41) 0 0) 1 0) 2 0)) 49 (upd (ev_I0 49) 0 0)) (ev_sJ (ev_sJ (ev_sJ (ev_sJ ev_J0 11 (vp_updL (vp_updL (vp_updL (ev_J0 11) 0 0) 1 0) 2 0)) 12 (vp_updL (vp_updL (vp_updL (ev_J0 12) 0 0) 1 0) 2 0)) 50 (vp_updL (vp_updL (vp_updL (ev_J0 50) 0 0) 1 0) 2 0)) 51 (vp_updL (vp_updL (vp_updL (ev_J0 51) 0 0) 1 0) 2 0)) (ev_sR (ev_sR (ev_sR (ev_sR ev_R0 0 65) 1 66) 2 67) 3 68) ([.inl (1, .inl (upd (fun _ => 0) 0 0)), .inl (1, .inr (.inl (vp_updL (fun _ => 0) 0 0))), .inl (1, .inr (.inl (vp_updL (fun _ => 0) 0 0))), .inl (1, .inr (.inl (vp_updL (fun _ => 0) 0 0)))] : List ez_C)) cz kz = some (some (.int 1), (ev_hp (ev_sI (ev_sI (ev_sI (ev_sI (ev_sI ev_I0 6 (upd (upd (ev_I0 6) 4 1) 3 1)) 13 (upd (ev_I0 13) 8 1)) 35 (upd (upd (ev_I0 35) 14 1) 24 1)) 41 (upd (upd (upd (ev_I0 41) 0 0) 1 0) 2 0)) 49 (upd (ev_I0 49) 0 0)) (ev_sJ (ev_sJ (ev_sJ (ev_sJ ev_J0 11 (vp_updL (vp_updL (vp_updL (ev_J0 11) 0 0) 1 0) 2 0)) 12 (vp_updL (vp_updL (vp_updL (ev_J0 12) 0 0) 1 0) 2 0)) 50 (vp_updL (vp_updL (vp_updL (ev_J0 50) 0 0) 1 0) 2 0)) 51 (vp_updL (vp_updL (vp_updL (ev_J0 51) 0 0) 1 0) 2 0)) (ev_sR (ev_sR (ev_sR (ev_sR ev_R0 0 65) 1 66) 2 67) 3 68) ([.inl (1, .inl (upd (fun _ => 0) 0 0)), .inl (1, .inr (.inl (vp_updL (fun _ => 0) 0 0))), .inl (1, .inr (.inl (vp_updL (fun _ => 0) 0 0))), .inl (1, .inr (.inl (vp_updL (fun _ => 0) 0 0)))] : List ez_C)), cz, kz) := by
  intro G
  rfl
theorem eo_which_n (xs : Nat → Int32) (ha : 0 < xs 1) : ev_P1 (4, xs) 660 := by
  refine ev_seg (eo_which_n_r1 xs  _ _) ?_
  refine ev_seg (eo_which_n_r2 xs  _ _) ?_
  refine ev_seg (eo_which_n_r3 xs  _ _) ?_
  refine ev_call (eo_which_n_r4 xs  _ _) (ef_which_n (4, xs) ev_I0 ev_J0 ev_R0 [] (xs 1) ha) ?_
  rintro r0 _ _ _ (⟨d103, d104, rfl, rfl, rfl, rfl⟩)
  refine ev_seg (eo_which_n_r5 xs  _ _) ?_
  refine ev_seg (eo_which_n_r6 xs  _ _) ?_
  refine ev_seg (eo_which_n_r7 xs  _ _) ?_
  refine ev_call (eo_which_n_r8 xs  _ _) (eh_which_n (4, xs) (ev_sI (ev_sI ev_I0 6 (upd (upd (ev_I0 6) 4 1) 3 1)) 13 (upd (ev_I0 13) 8 1)) (ev_sJ (ev_sJ ev_J0 11 (vp_updL (vp_updL (vp_updL (ev_J0 11) 0 0) 1 0) 2 0)) 12 (vp_updL (vp_updL (vp_updL (ev_J0 12) 0 0) 1 0) 2 0)) (ev_sR (ev_sR (ev_sR (ev_sR ev_R0 0 65) 1 66) 2 67) 3 68) ([.inl (1, .inl (upd (fun _ => 0) 0 0)), .inl (1, .inr (.inl (vp_updL (fun _ => 0) 0 0))), .inl (1, .inr (.inl (vp_updL (fun _ => 0) 0 0))), .inl (1, .inr (.inl (vp_updL (fun _ => 0) 0 0)))] : List ez_C) (xs 1) ha) ?_
  rintro r0 _ _ _ (⟨d105, d106, rfl, rfl, rfl, rfl⟩)
  refine ev_seg (eo_which_n_r9 xs  _ _) ?_
  refine ev_seg (eo_which_n_r10 xs  _ _) ?_
  refine ev_seg (eo_which_n_r11 xs  _ _) ?_
  refine ev_seg (eo_which_n_r12 xs  _ _) ?_
  refine ev_seg (eo_which_n_r13 xs  _ _) ?_
  refine ev_ret (eo_which_n_r14 xs  _ _) ?_
  exact ⟨rfl, by omega, by omega⟩
set_option maxRecDepth 100000 in
set_option maxHeartbeats 100000 in
theorem sp_z_79_sizeOf_r1 (X : ez_X)  (cz kz : Nat) : ∀ G : ez_F, fx_up X 6 G 94 0 [.ref 3, .int 0] [] (ev_hp ev_I0 ev_J0 ev_R0 []) cz kz = some (some (.int 1), (ev_hp ev_I0 ev_J0 ev_R0 []), cz, kz) := by
  intro G
  rfl
theorem sp_z_79_sizeOf (X : ez_X) : ev_W X 94 0 (ez_lay [.ref 3, .int 0]) [] (ev_hp ev_I0 ev_J0 ev_R0 []) 0 0 (fun r h1 c1 k1 => r = (some (.int 1)) ∧ h1 = (ev_hp ev_I0 ev_J0 ev_R0 []) ∧ c1 = 0 ∧ k1 = 0) := by
  refine ev_ret (sp_z_79_sizeOf_r1 X  _ _) ?_
  exact ⟨rfl, rfl, rfl, rfl⟩
set_option maxRecDepth 100000 in
set_option maxHeartbeats 100000 in
theorem sp_z_80_sizeOf_r1 (X : ez_X)  (cz kz : Nat) : ∀ G : ez_F, fx_up X 6 G 94 0 [.ref 3, .int 1] [] (ev_hp ev_I0 ev_J0 ev_R0 []) cz kz = some (some (.int 1), (ev_hp ev_I0 ev_J0 ev_R0 []), cz, kz) := by
  intro G
  rfl
theorem sp_z_80_sizeOf (X : ez_X) : ev_W X 94 0 (ez_lay [.ref 3, .int 1]) [] (ev_hp ev_I0 ev_J0 ev_R0 []) 0 0 (fun r h1 c1 k1 => r = (some (.int 1)) ∧ h1 = (ev_hp ev_I0 ev_J0 ev_R0 []) ∧ c1 = 0 ∧ k1 = 0) := by
  refine ev_ret (sp_z_80_sizeOf_r1 X  _ _) ?_
  exact ⟨rfl, rfl, rfl, rfl⟩
set_option maxRecDepth 100000 in
set_option maxHeartbeats 100000 in
theorem sp_z_81_sizeOf_r1 (X : ez_X)  (cz kz : Nat) : ∀ G : ez_F, fx_up X 6 G 94 0 [.ref 3, .int 2] [] (ev_hp ev_I0 ev_J0 ev_R0 []) cz kz = some (some (.int 1), (ev_hp ev_I0 ev_J0 ev_R0 []), cz, kz) := by
  intro G
  rfl
theorem sp_z_81_sizeOf (X : ez_X) : ev_W X 94 0 (ez_lay [.ref 3, .int 2]) [] (ev_hp ev_I0 ev_J0 ev_R0 []) 0 0 (fun r h1 c1 k1 => r = (some (.int 1)) ∧ h1 = (ev_hp ev_I0 ev_J0 ev_R0 []) ∧ c1 = 0 ∧ k1 = 0) := by
  refine ev_ret (sp_z_81_sizeOf_r1 X  _ _) ?_
  exact ⟨rfl, rfl, rfl, rfl⟩
set_option maxRecDepth 100000 in
set_option maxHeartbeats 100000 in
theorem sp_z_78_combinations_r1 (X : ez_X)  (cz kz : Nat) : ∀ G : ez_F, fx_up X 3 G 89 0 [.ref 3] [] (ev_hp ev_I0 ev_J0 ev_R0 []) cz kz = ev_C G 94 [.ref 3, .int 0] (ev_hp ev_I0 ev_J0 ev_R0 []) fun r h1 c1 k1 => G 89 5 [.ref 3] (r.toList ++ []) h1 (cz + c1) (kz + k1) := by
  intro G
  rfl
set_option maxRecDepth 100000 in
set_option maxHeartbeats 100000 in
theorem sp_z_78_combinations_r2 (X : ez_X)  (cz kz : Nat) : ∀ G : ez_F, fx_up X 3 G 89 5 [.ref 3] [.int 1] (ev_hp ev_I0 ev_J0 ev_R0 []) cz kz = ev_C G 94 [.ref 3, .int 1] (ev_hp ev_I0 ev_J0 ev_R0 []) fun r h1 c1 k1 => G 89 10 [.ref 3] (r.toList ++ [.int 1]) h1 (cz + c1) (kz + k1) := by
  intro G
  rfl
set_option maxRecDepth 100000 in
set_option maxHeartbeats 100000 in
theorem sp_z_78_combinations_r3 (X : ez_X)  (cz kz : Nat) : ∀ G : ez_F, fx_up X 4 G 89 10 [.ref 3] [.int 1, .int 1] (ev_hp ev_I0 ev_J0 ev_R0 []) cz kz = ev_C G 94 [.ref 3, .int 2] (ev_hp ev_I0 ev_J0 ev_R0 []) fun r h1 c1 k1 => G 89 16 [.ref 3] (r.toList ++ [.int 1]) h1 (cz + c1) (kz + k1) := by
  intro G
  rfl
set_option maxRecDepth 100000 in
set_option maxHeartbeats 100000 in
theorem sp_z_78_combinations_r4 (X : ez_X)  (cz kz : Nat) : ∀ G : ez_F, fx_up X 2 G 89 16 [.ref 3] [.int 1, .int 1] (ev_hp ev_I0 ev_J0 ev_R0 []) cz kz = some (some (.int 1), (ev_hp ev_I0 ev_J0 ev_R0 []), cz, kz) := by
  intro G
  rfl
theorem sp_z_78_combinations (X : ez_X) : ev_W X 89 0 (ez_lay [.ref 3]) [] (ev_hp ev_I0 ev_J0 ev_R0 []) 0 0 (fun r h1 c1 k1 => r = (some (.int 1)) ∧ h1 = (ev_hp ev_I0 ev_J0 ev_R0 []) ∧ c1 = 0 ∧ k1 = 0) := by
  refine ev_call (sp_z_78_combinations_r1 X  _ _) (sp_z_79_sizeOf X) ?_
  rintro _ _ _ _ ⟨rfl, rfl, rfl, rfl⟩
  refine ev_call (sp_z_78_combinations_r2 X  _ _) (sp_z_80_sizeOf X) ?_
  rintro _ _ _ _ ⟨rfl, rfl, rfl, rfl⟩
  refine ev_call (sp_z_78_combinations_r3 X  _ _) (sp_z_81_sizeOf X) ?_
  rintro _ _ _ _ ⟨rfl, rfl, rfl, rfl⟩
  refine ev_ret (sp_z_78_combinations_r4 X  _ _) ?_
  exact ⟨rfl, rfl, rfl, rfl⟩
set_option maxRecDepth 100000 in
set_option maxHeartbeats 100000 in
theorem sp_z_84_sizeOf_r1 (X : ez_X)  (cz kz : Nat) : ∀ G : ez_F, fx_up X 6 G 94 0 [.ref 3, .int 0] [] (ev_hp ev_I0 ev_J0 ev_R0 []) cz kz = some (some (.int 1), (ev_hp ev_I0 ev_J0 ev_R0 []), cz, kz) := by
  intro G
  rfl
theorem sp_z_84_sizeOf (X : ez_X) : ev_W X 94 0 (ez_lay [.ref 3, .int 0]) [] (ev_hp ev_I0 ev_J0 ev_R0 []) 0 0 (fun r h1 c1 k1 => r = (some (.int 1)) ∧ h1 = (ev_hp ev_I0 ev_J0 ev_R0 []) ∧ c1 = 0 ∧ k1 = 0) := by
  refine ev_ret (sp_z_84_sizeOf_r1 X  _ _) ?_
  exact ⟨rfl, rfl, rfl, rfl⟩
set_option maxRecDepth 100000 in
set_option maxHeartbeats 100000 in
theorem sp_z_85_sizeOf_r1 (X : ez_X)  (cz kz : Nat) : ∀ G : ez_F, fx_up X 6 G 94 0 [.ref 3, .int 1] [] (ev_hp ev_I0 ev_J0 ev_R0 []) cz kz = some (some (.int 1), (ev_hp ev_I0 ev_J0 ev_R0 []), cz, kz) := by
  intro G
  rfl
theorem sp_z_85_sizeOf (X : ez_X) : ev_W X 94 0 (ez_lay [.ref 3, .int 1]) [] (ev_hp ev_I0 ev_J0 ev_R0 []) 0 0 (fun r h1 c1 k1 => r = (some (.int 1)) ∧ h1 = (ev_hp ev_I0 ev_J0 ev_R0 []) ∧ c1 = 0 ∧ k1 = 0) := by
  refine ev_ret (sp_z_85_sizeOf_r1 X  _ _) ?_
  exact ⟨rfl, rfl, rfl, rfl⟩
set_option maxRecDepth 100000 in
set_option maxHeartbeats 100000 in
theorem sp_z_86_sizeOf_r1 (X : ez_X)  (cz kz : Nat) : ∀ G : ez_F, fx_up X 6 G 94 0 [.ref 3, .int 2] [] (ev_hp ev_I0 ev_J0 ev_R0 []) cz kz = some (some (.int 1), (ev_hp ev_I0 ev_J0 ev_R0 []), cz, kz) := by
  intro G
  rfl
theorem sp_z_86_sizeOf (X : ez_X) : ev_W X 94 0 (ez_lay [.ref 3, .int 2]) [] (ev_hp ev_I0 ev_J0 ev_R0 []) 0 0 (fun r h1 c1 k1 => r = (some (.int 1)) ∧ h1 = (ev_hp ev_I0 ev_J0 ev_R0 []) ∧ c1 = 0 ∧ k1 = 0) := by
  refine ev_ret (sp_z_86_sizeOf_r1 X  _ _) ?_
  exact ⟨rfl, rfl, rfl, rfl⟩
set_option maxRecDepth 100000 in
set_option maxHeartbeats 100000 in
theorem sp_z_83_combinations_r1 (X : ez_X)  (cz kz : Nat) : ∀ G : ez_F, fx_up X 3 G 89 0 [.ref 3] [] (ev_hp ev_I0 ev_J0 ev_R0 []) cz kz = ev_C G 94 [.ref 3, .int 0] (ev_hp ev_I0 ev_J0 ev_R0 []) fun r h1 c1 k1 => G 89 5 [.ref 3] (r.toList ++ []) h1 (cz + c1) (kz + k1) := by
  intro G
  rfl
set_option maxRecDepth 100000 in
set_option maxHeartbeats 100000 in
theorem sp_z_83_combinations_r2 (X : ez_X)  (cz kz : Nat) : ∀ G : ez_F, fx_up X 3 G 89 5 [.ref 3] [.int 1] (ev_hp ev_I0 ev_J0 ev_R0 []) cz kz = ev_C G 94 [.ref 3, .int 1] (ev_hp ev_I0 ev_J0 ev_R0 []) fun r h1 c1 k1 => G 89 10 [.ref 3] (r.toList ++ [.int 1]) h1 (cz + c1) (kz + k1) := by
  intro G
  rfl
set_option maxRecDepth 100000 in
set_option maxHeartbeats 100000 in
theorem sp_z_83_combinations_r3 (X : ez_X)  (cz kz : Nat) : ∀ G : ez_F, fx_up X 4 G 89 10 [.ref 3] [.int 1, .int 1] (ev_hp ev_I0 ev_J0 ev_R0 []) cz kz = ev_C G 94 [.ref 3, .int 2] (ev_hp ev_I0 ev_J0 ev_R0 []) fun r h1 c1 k1 => G 89 16 [.ref 3] (r.toList ++ [.int 1]) h1 (cz + c1) (kz + k1) := by
  intro G
  rfl
set_option maxRecDepth 100000 in
set_option maxHeartbeats 100000 in
theorem sp_z_83_combinations_r4 (X : ez_X)  (cz kz : Nat) : ∀ G : ez_F, fx_up X 2 G 89 16 [.ref 3] [.int 1, .int 1] (ev_hp ev_I0 ev_J0 ev_R0 []) cz kz = some (some (.int 1), (ev_hp ev_I0 ev_J0 ev_R0 []), cz, kz) := by
  intro G
  rfl
theorem sp_z_83_combinations (X : ez_X) : ev_W X 89 0 (ez_lay [.ref 3]) [] (ev_hp ev_I0 ev_J0 ev_R0 []) 0 0 (fun r h1 c1 k1 => r = (some (.int 1)) ∧ h1 = (ev_hp ev_I0 ev_J0 ev_R0 []) ∧ c1 = 0 ∧ k1 = 0) := by
  refine ev_call (sp_z_83_combinations_r1 X  _ _) (sp_z_84_sizeOf X) ?_
  rintro _ _ _ _ ⟨rfl, rfl, rfl, rfl⟩
  refine ev_call (sp_z_83_combinations_r2 X  _ _) (sp_z_85_sizeOf X) ?_
  rintro _ _ _ _ ⟨rfl, rfl, rfl, rfl⟩
  refine ev_call (sp_z_83_combinations_r3 X  _ _) (sp_z_86_sizeOf X) ?_
  rintro _ _ _ _ ⟨rfl, rfl, rfl, rfl⟩
  refine ev_ret (sp_z_83_combinations_r4 X  _ _) ?_
  exact ⟨rfl, rfl, rfl, rfl⟩
set_option maxRecDepth 100000 in
set_option maxHeartbeats 100000 in
theorem sp_z_87_grown_r1 (X : ez_X)  (cz kz : Nat) : ∀ G : ez_F, fx_up X 10 G 19 0 [.int 0, .int 1] [] (ev_hp (ev_sI ev_I0 6 (upd (upd (ev_I0 6) 4 1) 3 0)) ev_J0 ev_R0 []) cz kz = some (some (.int 1), (ev_hp (ev_sI ev_I0 6 (upd (upd (ev_I0 6) 4 1) 3 0)) ev_J0 ev_R0 []), cz, kz) := by
  intro G
  rfl
theorem sp_z_87_grown (X : ez_X) : ev_W X 19 0 (ez_lay [.int 0, .int 1]) [] (ev_hp (ev_sI ev_I0 6 (upd (upd (ev_I0 6) 4 1) 3 0)) ev_J0 ev_R0 []) 0 0 (fun r h1 c1 k1 => r = (some (.int 1)) ∧ h1 = (ev_hp (ev_sI ev_I0 6 (upd (upd (ev_I0 6) 4 1) 3 0)) ev_J0 ev_R0 []) ∧ c1 = 0 ∧ k1 = 0) := by
  refine ev_ret (sp_z_87_grown_r1 X  _ _) ?_
  exact ⟨rfl, rfl, rfl, rfl⟩
set_option maxRecDepth 100000 in
set_option maxHeartbeats 100000 in
theorem sp_z_88_sizeOf_r1 (X : ez_X)  (cz kz : Nat) : ∀ G : ez_F, fx_up X 6 G 94 0 [.ref 3, .int 0] [] (ev_hp (ev_sI ev_I0 6 (upd (upd (ev_I0 6) 4 1) 3 0)) ev_J0 (ev_sR ev_R0 0 65) ([.inl (1, .inl (fun _ => 0))] : List ez_C)) cz kz = some (some (.int 1), (ev_hp (ev_sI ev_I0 6 (upd (upd (ev_I0 6) 4 1) 3 0)) ev_J0 (ev_sR ev_R0 0 65) ([.inl (1, .inl (fun _ => 0))] : List ez_C)), cz, kz) := by
  intro G
  rfl
theorem sp_z_88_sizeOf (X : ez_X) : ev_W X 94 0 (ez_lay [.ref 3, .int 0]) [] (ev_hp (ev_sI ev_I0 6 (upd (upd (ev_I0 6) 4 1) 3 0)) ev_J0 (ev_sR ev_R0 0 65) ([.inl (1, .inl (fun _ => 0))] : List ez_C)) 0 0 (fun r h1 c1 k1 => r = (some (.int 1)) ∧ h1 = (ev_hp (ev_sI ev_I0 6 (upd (upd (ev_I0 6) 4 1) 3 0)) ev_J0 (ev_sR ev_R0 0 65) ([.inl (1, .inl (fun _ => 0))] : List ez_C)) ∧ c1 = 0 ∧ k1 = 0) := by
  refine ev_ret (sp_z_88_sizeOf_r1 X  _ _) ?_
  exact ⟨rfl, rfl, rfl, rfl⟩
set_option maxRecDepth 100000 in
set_option maxHeartbeats 100000 in
theorem sp_z_89_cellsAt_r1 (X : ez_X)  (cz kz : Nat) : ∀ G : ez_F, fx_up X 12 G 86 0 [.ref 3, .int 0, .int 0] [] (ev_hp (ev_sI ev_I0 6 (upd (upd (ev_I0 6) 4 1) 3 0)) ev_J0 (ev_sR ev_R0 0 65) ([.inl (1, .inl (fun _ => 0))] : List ez_C)) cz kz = some (some (.long 0), (ev_hp (ev_sI ev_I0 6 (upd (upd (ev_I0 6) 4 1) 3 0)) ev_J0 (ev_sR ev_R0 0 65) ([.inl (1, .inl (fun _ => 0))] : List ez_C)), cz, kz) := by
  intro G
  rfl
theorem sp_z_89_cellsAt (X : ez_X) : ev_W X 86 0 (ez_lay [.ref 3, .int 0, .int 0]) [] (ev_hp (ev_sI ev_I0 6 (upd (upd (ev_I0 6) 4 1) 3 0)) ev_J0 (ev_sR ev_R0 0 65) ([.inl (1, .inl (fun _ => 0))] : List ez_C)) 0 0 (fun r h1 c1 k1 => r = (some (.long 0)) ∧ h1 = (ev_hp (ev_sI ev_I0 6 (upd (upd (ev_I0 6) 4 1) 3 0)) ev_J0 (ev_sR ev_R0 0 65) ([.inl (1, .inl (fun _ => 0))] : List ez_C)) ∧ c1 = 0 ∧ k1 = 0) := by
  refine ev_ret (sp_z_89_cellsAt_r1 X  _ _) ?_
  exact ⟨rfl, rfl, rfl, rfl⟩
set_option maxRecDepth 100000 in
set_option maxHeartbeats 100000 in
theorem sp_z_91_at_r1 (X : ez_X)  (cz kz : Nat) : ∀ G : ez_F, fx_up X 11 G 3 0 [.ref 2, .int 0] [] (ev_hp (ev_sI ev_I0 6 (upd (upd (ev_I0 6) 4 1) 3 0)) ev_J0 (ev_sR ev_R0 0 65) ([.inl (1, .inl (fun _ => 0))] : List ez_C)) cz kz = some (some (.int 0), (ev_hp (ev_sI ev_I0 6 (upd (upd (ev_I0 6) 4 1) 3 0)) ev_J0 (ev_sR ev_R0 0 65) ([.inl (1, .inl (fun _ => 0))] : List ez_C)), cz, kz) := by
  intro G
  rfl
theorem sp_z_91_at (X : ez_X) : ev_W X 3 0 (ez_lay [.ref 2, .int 0]) [] (ev_hp (ev_sI ev_I0 6 (upd (upd (ev_I0 6) 4 1) 3 0)) ev_J0 (ev_sR ev_R0 0 65) ([.inl (1, .inl (fun _ => 0))] : List ez_C)) 0 0 (fun r h1 c1 k1 => r = (some (.int 0)) ∧ h1 = (ev_hp (ev_sI ev_I0 6 (upd (upd (ev_I0 6) 4 1) 3 0)) ev_J0 (ev_sR ev_R0 0 65) ([.inl (1, .inl (fun _ => 0))] : List ez_C)) ∧ c1 = 0 ∧ k1 = 0) := by
  refine ev_ret (sp_z_91_at_r1 X  _ _) ?_
  exact ⟨rfl, rfl, rfl, rfl⟩
set_option maxRecDepth 100000 in
set_option maxHeartbeats 100000 in
theorem sp_z_90_around_r1 (X : ez_X)  (cz kz : Nat) : ∀ G : ez_F, fx_up X 4 G 144 0 [.ref 1, .long 0, ez_fill] [] (ev_hp (ev_sI ev_I0 6 (upd (upd (ev_I0 6) 4 1) 3 0)) ev_J0 (ev_sR ev_R0 0 65) ([.inl (1, .inl (fun _ => 0))] : List ez_C)) cz kz = ev_C G 3 [.ref 2, .int 0] (ev_hp (ev_sI ev_I0 6 (upd (upd (ev_I0 6) 4 1) 3 0)) ev_J0 (ev_sR ev_R0 0 65) ([.inl (1, .inl (fun _ => 0))] : List ez_C)) fun r h1 c1 k1 => G 144 8 [.ref 1, .long 0, ez_fill] (r.toList ++ []) h1 (cz + c1) (kz + k1) := by
  intro G
  rfl
set_option maxRecDepth 100000 in
set_option maxHeartbeats 100000 in
theorem sp_z_90_around_r2 (X : ez_X)  (cz kz : Nat) : ∀ G : ez_F, fx_up X 5 G 144 8 [.ref 1, .long 0, ez_fill] [.int 0] (ev_hp (ev_sI ev_I0 6 (upd (upd (ev_I0 6) 4 1) 3 0)) ev_J0 (ev_sR ev_R0 0 65) ([.inl (1, .inl (fun _ => 0))] : List ez_C)) cz kz = some (some (.long 0), (ev_hp (ev_sI ev_I0 6 (upd (upd (ev_I0 6) 4 1) 3 0)) ev_J0 (ev_sR ev_R0 0 65) ([.inl (1, .inl (fun _ => 0))] : List ez_C)), cz, kz) := by
  intro G
  rfl
theorem sp_z_90_around (X : ez_X) : ev_W X 144 0 (ez_lay [.ref 1, .long 0]) [] (ev_hp (ev_sI ev_I0 6 (upd (upd (ev_I0 6) 4 1) 3 0)) ev_J0 (ev_sR ev_R0 0 65) ([.inl (1, .inl (fun _ => 0))] : List ez_C)) 0 0 (fun r h1 c1 k1 => r = (some (.long 0)) ∧ h1 = (ev_hp (ev_sI ev_I0 6 (upd (upd (ev_I0 6) 4 1) 3 0)) ev_J0 (ev_sR ev_R0 0 65) ([.inl (1, .inl (fun _ => 0))] : List ez_C)) ∧ c1 = 0 ∧ k1 = 0) := by
  refine ev_call (sp_z_90_around_r1 X  _ _) (sp_z_91_at X) ?_
  rintro _ _ _ _ ⟨rfl, rfl, rfl, rfl⟩
  refine ev_ret (sp_z_90_around_r2 X  _ _) ?_
  exact ⟨rfl, rfl, rfl, rfl⟩
set_option maxRecDepth 100000 in
set_option maxHeartbeats 100000 in
theorem sp_z_93_sizeOf_r1 (X : ez_X)  (cz kz : Nat) : ∀ G : ez_F, fx_up X 6 G 94 0 [.ref 3, .int 1] [] (ev_hp (ev_sI ev_I0 6 (upd (upd (ev_I0 6) 4 1) 3 0)) ev_J0 (ev_sR ev_R0 0 65) ([.inl (1, .inl (fun _ => 0))] : List ez_C)) cz kz = some (some (.int 1), (ev_hp (ev_sI ev_I0 6 (upd (upd (ev_I0 6) 4 1) 3 0)) ev_J0 (ev_sR ev_R0 0 65) ([.inl (1, .inl (fun _ => 0))] : List ez_C)), cz, kz) := by
  intro G
  rfl
theorem sp_z_93_sizeOf (X : ez_X) : ev_W X 94 0 (ez_lay [.ref 3, .int 1]) [] (ev_hp (ev_sI ev_I0 6 (upd (upd (ev_I0 6) 4 1) 3 0)) ev_J0 (ev_sR ev_R0 0 65) ([.inl (1, .inl (fun _ => 0))] : List ez_C)) 0 0 (fun r h1 c1 k1 => r = (some (.int 1)) ∧ h1 = (ev_hp (ev_sI ev_I0 6 (upd (upd (ev_I0 6) 4 1) 3 0)) ev_J0 (ev_sR ev_R0 0 65) ([.inl (1, .inl (fun _ => 0))] : List ez_C)) ∧ c1 = 0 ∧ k1 = 0) := by
  refine ev_ret (sp_z_93_sizeOf_r1 X  _ _) ?_
  exact ⟨rfl, rfl, rfl, rfl⟩
set_option maxRecDepth 100000 in
set_option maxHeartbeats 100000 in
theorem sp_z_94_cellsAt_r1 (X : ez_X)  (cz kz : Nat) : ∀ G : ez_F, fx_up X 12 G 86 0 [.ref 3, .int 1, .int 0] [] (ev_hp (ev_sI ev_I0 6 (upd (upd (ev_I0 6) 4 1) 3 0)) ev_J0 (ev_sR ev_R0 0 65) ([.inl (1, .inl (fun _ => 0))] : List ez_C)) cz kz = some (some (.long 0), (ev_hp (ev_sI ev_I0 6 (upd (upd (ev_I0 6) 4 1) 3 0)) ev_J0 (ev_sR ev_R0 0 65) ([.inl (1, .inl (fun _ => 0))] : List ez_C)), cz, kz) := by
  intro G
  rfl
theorem sp_z_94_cellsAt (X : ez_X) : ev_W X 86 0 (ez_lay [.ref 3, .int 1, .int 0]) [] (ev_hp (ev_sI ev_I0 6 (upd (upd (ev_I0 6) 4 1) 3 0)) ev_J0 (ev_sR ev_R0 0 65) ([.inl (1, .inl (fun _ => 0))] : List ez_C)) 0 0 (fun r h1 c1 k1 => r = (some (.long 0)) ∧ h1 = (ev_hp (ev_sI ev_I0 6 (upd (upd (ev_I0 6) 4 1) 3 0)) ev_J0 (ev_sR ev_R0 0 65) ([.inl (1, .inl (fun _ => 0))] : List ez_C)) ∧ c1 = 0 ∧ k1 = 0) := by
  refine ev_ret (sp_z_94_cellsAt_r1 X  _ _) ?_
  exact ⟨rfl, rfl, rfl, rfl⟩
set_option maxRecDepth 100000 in
set_option maxHeartbeats 100000 in
theorem sp_z_96_at_r1 (X : ez_X)  (cz kz : Nat) : ∀ G : ez_F, fx_up X 11 G 3 0 [.ref 2, .int 0] [] (ev_hp (ev_sI ev_I0 6 (upd (upd (ev_I0 6) 4 1) 3 0)) ev_J0 (ev_sR ev_R0 0 65) ([.inl (1, .inl (fun _ => 0))] : List ez_C)) cz kz = some (some (.int 0), (ev_hp (ev_sI ev_I0 6 (upd (upd (ev_I0 6) 4 1) 3 0)) ev_J0 (ev_sR ev_R0 0 65) ([.inl (1, .inl (fun _ => 0))] : List ez_C)), cz, kz) := by
  intro G
  rfl
theorem sp_z_96_at (X : ez_X) : ev_W X 3 0 (ez_lay [.ref 2, .int 0]) [] (ev_hp (ev_sI ev_I0 6 (upd (upd (ev_I0 6) 4 1) 3 0)) ev_J0 (ev_sR ev_R0 0 65) ([.inl (1, .inl (fun _ => 0))] : List ez_C)) 0 0 (fun r h1 c1 k1 => r = (some (.int 0)) ∧ h1 = (ev_hp (ev_sI ev_I0 6 (upd (upd (ev_I0 6) 4 1) 3 0)) ev_J0 (ev_sR ev_R0 0 65) ([.inl (1, .inl (fun _ => 0))] : List ez_C)) ∧ c1 = 0 ∧ k1 = 0) := by
  refine ev_ret (sp_z_96_at_r1 X  _ _) ?_
  exact ⟨rfl, rfl, rfl, rfl⟩
set_option maxRecDepth 100000 in
set_option maxHeartbeats 100000 in
theorem sp_z_95_around_r1 (X : ez_X)  (cz kz : Nat) : ∀ G : ez_F, fx_up X 4 G 144 0 [.ref 1, .long 0, ez_fill] [] (ev_hp (ev_sI ev_I0 6 (upd (upd (ev_I0 6) 4 1) 3 0)) ev_J0 (ev_sR ev_R0 0 65) ([.inl (1, .inl (fun _ => 0))] : List ez_C)) cz kz = ev_C G 3 [.ref 2, .int 0] (ev_hp (ev_sI ev_I0 6 (upd (upd (ev_I0 6) 4 1) 3 0)) ev_J0 (ev_sR ev_R0 0 65) ([.inl (1, .inl (fun _ => 0))] : List ez_C)) fun r h1 c1 k1 => G 144 8 [.ref 1, .long 0, ez_fill] (r.toList ++ []) h1 (cz + c1) (kz + k1) := by
  intro G
  rfl
set_option maxRecDepth 100000 in
set_option maxHeartbeats 100000 in
theorem sp_z_95_around_r2 (X : ez_X)  (cz kz : Nat) : ∀ G : ez_F, fx_up X 5 G 144 8 [.ref 1, .long 0, ez_fill] [.int 0] (ev_hp (ev_sI ev_I0 6 (upd (upd (ev_I0 6) 4 1) 3 0)) ev_J0 (ev_sR ev_R0 0 65) ([.inl (1, .inl (fun _ => 0))] : List ez_C)) cz kz = some (some (.long 0), (ev_hp (ev_sI ev_I0 6 (upd (upd (ev_I0 6) 4 1) 3 0)) ev_J0 (ev_sR ev_R0 0 65) ([.inl (1, .inl (fun _ => 0))] : List ez_C)), cz, kz) := by
  intro G
  rfl
theorem sp_z_95_around (X : ez_X) : ev_W X 144 0 (ez_lay [.ref 1, .long 0]) [] (ev_hp (ev_sI ev_I0 6 (upd (upd (ev_I0 6) 4 1) 3 0)) ev_J0 (ev_sR ev_R0 0 65) ([.inl (1, .inl (fun _ => 0))] : List ez_C)) 0 0 (fun r h1 c1 k1 => r = (some (.long 0)) ∧ h1 = (ev_hp (ev_sI ev_I0 6 (upd (upd (ev_I0 6) 4 1) 3 0)) ev_J0 (ev_sR ev_R0 0 65) ([.inl (1, .inl (fun _ => 0))] : List ez_C)) ∧ c1 = 0 ∧ k1 = 0) := by
  refine ev_call (sp_z_95_around_r1 X  _ _) (sp_z_96_at X) ?_
  rintro _ _ _ _ ⟨rfl, rfl, rfl, rfl⟩
  refine ev_ret (sp_z_95_around_r2 X  _ _) ?_
  exact ⟨rfl, rfl, rfl, rfl⟩
set_option maxRecDepth 100000 in
set_option maxHeartbeats 100000 in
theorem sp_z_98_sizeOf_r1 (X : ez_X)  (cz kz : Nat) : ∀ G : ez_F, fx_up X 6 G 94 0 [.ref 3, .int 2] [] (ev_hp (ev_sI ev_I0 6 (upd (upd (ev_I0 6) 4 1) 3 0)) ev_J0 (ev_sR ev_R0 0 65) ([.inl (1, .inl (fun _ => 0))] : List ez_C)) cz kz = some (some (.int 1), (ev_hp (ev_sI ev_I0 6 (upd (upd (ev_I0 6) 4 1) 3 0)) ev_J0 (ev_sR ev_R0 0 65) ([.inl (1, .inl (fun _ => 0))] : List ez_C)), cz, kz) := by
  intro G
  rfl
theorem sp_z_98_sizeOf (X : ez_X) : ev_W X 94 0 (ez_lay [.ref 3, .int 2]) [] (ev_hp (ev_sI ev_I0 6 (upd (upd (ev_I0 6) 4 1) 3 0)) ev_J0 (ev_sR ev_R0 0 65) ([.inl (1, .inl (fun _ => 0))] : List ez_C)) 0 0 (fun r h1 c1 k1 => r = (some (.int 1)) ∧ h1 = (ev_hp (ev_sI ev_I0 6 (upd (upd (ev_I0 6) 4 1) 3 0)) ev_J0 (ev_sR ev_R0 0 65) ([.inl (1, .inl (fun _ => 0))] : List ez_C)) ∧ c1 = 0 ∧ k1 = 0) := by
  refine ev_ret (sp_z_98_sizeOf_r1 X  _ _) ?_
  exact ⟨rfl, rfl, rfl, rfl⟩
set_option maxRecDepth 100000 in
set_option maxHeartbeats 100000 in
theorem sp_z_99_cellsAt_r1 (X : ez_X)  (cz kz : Nat) : ∀ G : ez_F, fx_up X 12 G 86 0 [.ref 3, .int 2, .int 0] [] (ev_hp (ev_sI ev_I0 6 (upd (upd (ev_I0 6) 4 1) 3 0)) ev_J0 (ev_sR ev_R0 0 65) ([.inl (1, .inl (fun _ => 0))] : List ez_C)) cz kz = some (some (.long 0), (ev_hp (ev_sI ev_I0 6 (upd (upd (ev_I0 6) 4 1) 3 0)) ev_J0 (ev_sR ev_R0 0 65) ([.inl (1, .inl (fun _ => 0))] : List ez_C)), cz, kz) := by
  intro G
  rfl
theorem sp_z_99_cellsAt (X : ez_X) : ev_W X 86 0 (ez_lay [.ref 3, .int 2, .int 0]) [] (ev_hp (ev_sI ev_I0 6 (upd (upd (ev_I0 6) 4 1) 3 0)) ev_J0 (ev_sR ev_R0 0 65) ([.inl (1, .inl (fun _ => 0))] : List ez_C)) 0 0 (fun r h1 c1 k1 => r = (some (.long 0)) ∧ h1 = (ev_hp (ev_sI ev_I0 6 (upd (upd (ev_I0 6) 4 1) 3 0)) ev_J0 (ev_sR ev_R0 0 65) ([.inl (1, .inl (fun _ => 0))] : List ez_C)) ∧ c1 = 0 ∧ k1 = 0) := by
  refine ev_ret (sp_z_99_cellsAt_r1 X  _ _) ?_
  exact ⟨rfl, rfl, rfl, rfl⟩
set_option maxRecDepth 100000 in
set_option maxHeartbeats 100000 in
theorem sp_z_100_put_r1 (X : ez_X)  (cz kz : Nat) : ∀ G : ez_F, fx_up X 11 G 38 0 [.ref 65, .int 0, .int 0] [] (ev_hp (ev_sI ev_I0 6 (upd (upd (ev_I0 6) 4 1) 3 0)) ev_J0 (ev_sR ev_R0 0 65) ([.inl (1, .inl (fun _ => 0))] : List ez_C)) cz kz = some (none, (ev_hp (ev_sI ev_I0 6 (upd (upd (ev_I0 6) 4 1) 3 0)) ev_J0 (ev_sR ev_R0 0 65) ([.inl (1, .inl (upd (fun _ => 0) 0 0))] : List ez_C)), cz, kz) := by
  intro G
  rfl
theorem sp_z_100_put (X : ez_X) : ev_W X 38 0 (ez_lay [.ref 65, .int 0, .int 0]) [] (ev_hp (ev_sI ev_I0 6 (upd (upd (ev_I0 6) 4 1) 3 0)) ev_J0 (ev_sR ev_R0 0 65) ([.inl (1, .inl (fun _ => 0))] : List ez_C)) 0 0 (fun r h1 c1 k1 => r = none ∧ h1 = (ev_hp (ev_sI ev_I0 6 (upd (upd (ev_I0 6) 4 1) 3 0)) ev_J0 (ev_sR ev_R0 0 65) ([.inl (1, .inl (upd (fun _ => 0) 0 0))] : List ez_C)) ∧ c1 = 0 ∧ k1 = 0) := by
  refine ev_ret (sp_z_100_put_r1 X  _ _) ?_
  exact ⟨rfl, rfl, rfl, rfl⟩
set_option maxRecDepth 100000 in
set_option maxHeartbeats 100000 in
theorem sp_z_97_searchThird_r1 (X : ez_X)  (cz kz : Nat) : ∀ G : ez_F, fx_up X 4 G 142 0 [.ref 6, .int 0, .long 0, ez_fill] [] (ev_hp (ev_sI ev_I0 6 (upd (upd (ev_I0 6) 4 1) 3 0)) ev_J0 (ev_sR ev_R0 0 65) ([.inl (1, .inl (fun _ => 0))] : List ez_C)) cz kz = ev_C G 94 [.ref 3, .int 2] (ev_hp (ev_sI ev_I0 6 (upd (upd (ev_I0 6) 4 1) 3 0)) ev_J0 (ev_sR ev_R0 0 65) ([.inl (1, .inl (fun _ => 0))] : List ez_C)) fun r h1 c1 k1 => G 142 8 [.ref 6, .int 0, .long 0, ez_fill] (r.toList ++ []) h1 (cz + c1) (kz + k1) := by
  intro G
  rfl
set_option maxRecDepth 100000 in
set_option maxHeartbeats 100000 in
theorem sp_z_97_searchThird_r2 (X : ez_X)  (cz kz : Nat) : ∀ G : ez_F, fx_up X 11 G 142 8 [.ref 6, .int 0, .long 0, ez_fill] [.int 1] (ev_hp (ev_sI ev_I0 6 (upd (upd (ev_I0 6) 4 1) 3 0)) ev_J0 (ev_sR ev_R0 0 65) ([.inl (1, .inl (fun _ => 0))] : List ez_C)) cz kz = ev_C G 86 [.ref 3, .int 2, .int 0] (ev_hp (ev_sI ev_I0 6 (upd (upd (ev_I0 6) 4 1) 3 0)) ev_J0 (ev_sR ev_R0 0 65) ([.inl (1, .inl (fun _ => 0))] : List ez_C)) fun r h1 c1 k1 => G 142 30 [.ref 6, .int 0, .long 0, ez_fill, .int 1, .int 0] (r.toList ++ []) h1 (cz + c1) (kz + k1) := by
  intro G
  rfl
set_option maxRecDepth 100000 in
set_option maxHeartbeats 100000 in
theorem sp_z_97_searchThird_r3 (X : ez_X)  (cz kz : Nat) : ∀ G : ez_F, fx_up X 15 G 142 30 [.ref 6, .int 0, .long 0, ez_fill, .int 1, .int 0] [.long 0] (ev_hp (ev_sI ev_I0 6 (upd (upd (ev_I0 6) 4 1) 3 0)) ev_J0 (ev_sR ev_R0 0 65) ([.inl (1, .inl (fun _ => 0))] : List ez_C)) cz kz = ev_C G 38 [.ref 65, .int 0, .int 0] (ev_hp (ev_sI ev_I0 6 (upd (upd (ev_I0 6) 4 1) 3 0)) ev_J0 (ev_sR ev_R0 0 65) ([.inl (1, .inl (fun _ => 0))] : List ez_C)) fun r h1 c1 k1 => G 142 55 [.ref 6, .int 0, .long 0, ez_fill, .int 1, .int 0] (r.toList ++ []) h1 (cz + c1) (kz + k1) := by
  intro G
  rfl
set_option maxRecDepth 100000 in
set_option maxHeartbeats 100000 in
theorem sp_z_97_searchThird_r4 (X : ez_X)  (cz kz : Nat) : ∀ G : ez_F, fx_up X 12 G 142 55 [.ref 6, .int 0, .long 0, ez_fill, .int 1, .int 0] [] (ev_hp (ev_sI ev_I0 6 (upd (upd (ev_I0 6) 4 1) 3 0)) ev_J0 (ev_sR ev_R0 0 65) ([.inl (1, .inl (upd (fun _ => 0) 0 0))] : List ez_C)) cz kz = some (none, (ev_hp (ev_sI ev_I0 6 (upd (upd (ev_I0 6) 4 1) 3 1)) ev_J0 (ev_sR ev_R0 0 65) ([.inl (1, .inl (upd (fun _ => 0) 0 0))] : List ez_C)), cz, kz) := by
  intro G
  rfl
theorem sp_z_97_searchThird (X : ez_X) : ev_W X 142 0 (ez_lay [.ref 6, .int 0, .long 0]) [] (ev_hp (ev_sI ev_I0 6 (upd (upd (ev_I0 6) 4 1) 3 0)) ev_J0 (ev_sR ev_R0 0 65) ([.inl (1, .inl (fun _ => 0))] : List ez_C)) 0 0 (fun r h1 c1 k1 => r = none ∧ h1 = (ev_hp (ev_sI ev_I0 6 (upd (upd (ev_I0 6) 4 1) 3 1)) ev_J0 (ev_sR ev_R0 0 65) ([.inl (1, .inl (upd (fun _ => 0) 0 0))] : List ez_C)) ∧ c1 = 0 ∧ k1 = 0) := by
  refine ev_call (sp_z_97_searchThird_r1 X  _ _) (sp_z_98_sizeOf X) ?_
  rintro _ _ _ _ ⟨rfl, rfl, rfl, rfl⟩
  refine ev_call (sp_z_97_searchThird_r2 X  _ _) (sp_z_99_cellsAt X) ?_
  rintro _ _ _ _ ⟨rfl, rfl, rfl, rfl⟩
  refine ev_call (sp_z_97_searchThird_r3 X  _ _) (sp_z_100_put X) ?_
  rintro _ _ _ _ ⟨rfl, rfl, rfl, rfl⟩
  refine ev_ret (sp_z_97_searchThird_r4 X  _ _) ?_
  exact ⟨rfl, rfl, rfl, rfl⟩
set_option maxRecDepth 100000 in
set_option maxHeartbeats 100000 in
theorem sp_z_92_searchSecond_r1 (X : ez_X)  (cz kz : Nat) : ∀ G : ez_F, fx_up X 4 G 141 0 [.ref 6, .int 0, .long 0, ez_fill] [] (ev_hp (ev_sI ev_I0 6 (upd (upd (ev_I0 6) 4 1) 3 0)) ev_J0 (ev_sR ev_R0 0 65) ([.inl (1, .inl (fun _ => 0))] : List ez_C)) cz kz = ev_C G 94 [.ref 3, .int 1] (ev_hp (ev_sI ev_I0 6 (upd (upd (ev_I0 6) 4 1) 3 0)) ev_J0 (ev_sR ev_R0 0 65) ([.inl (1, .inl (fun _ => 0))] : List ez_C)) fun r h1 c1 k1 => G 141 8 [.ref 6, .int 0, .long 0, ez_fill] (r.toList ++ []) h1 (cz + c1) (kz + k1) := by
  intro G
  rfl
set_option maxRecDepth 100000 in
set_option maxHeartbeats 100000 in
theorem sp_z_92_searchSecond_r2 (X : ez_X)  (cz kz : Nat) : ∀ G : ez_F, fx_up X 11 G 141 8 [.ref 6, .int 0, .long 0, ez_fill] [.int 1] (ev_hp (ev_sI ev_I0 6 (upd (upd (ev_I0 6) 4 1) 3 0)) ev_J0 (ev_sR ev_R0 0 65) ([.inl (1, .inl (fun _ => 0))] : List ez_C)) cz kz = ev_C G 86 [.ref 3, .int 1, .int 0] (ev_hp (ev_sI ev_I0 6 (upd (upd (ev_I0 6) 4 1) 3 0)) ev_J0 (ev_sR ev_R0 0 65) ([.inl (1, .inl (fun _ => 0))] : List ez_C)) fun r h1 c1 k1 => G 141 30 [.ref 6, .int 0, .long 0, ez_fill, .int 1, .int 0] (r.toList ++ []) h1 (cz + c1) (kz + k1) := by
  intro G
  rfl
set_option maxRecDepth 100000 in
set_option maxHeartbeats 100000 in
theorem sp_z_92_searchSecond_r3 (X : ez_X)  (cz kz : Nat) : ∀ G : ez_F, fx_up X 18 G 141 30 [.ref 6, .int 0, .long 0, ez_fill, .int 1, .int 0] [.long 0] (ev_hp (ev_sI ev_I0 6 (upd (upd (ev_I0 6) 4 1) 3 0)) ev_J0 (ev_sR ev_R0 0 65) ([.inl (1, .inl (fun _ => 0))] : List ez_C)) cz kz = ev_C G 144 [.ref 1, .long 0] (ev_hp (ev_sI ev_I0 6 (upd (upd (ev_I0 6) 4 1) 3 0)) ev_J0 (ev_sR ev_R0 0 65) ([.inl (1, .inl (fun _ => 0))] : List ez_C)) fun r h1 c1 k1 => G 141 59 [.ref 6, .int 0, .long 0, ez_fill, .int 1, .int 0, .long 0, ez_fill] (r.toList ++ [.long 0, .int 0, .ref 6]) h1 (cz + c1) (kz + k1) := by
  intro G
  rfl
set_option maxRecDepth 100000 in
set_option maxHeartbeats 100000 in
theorem sp_z_92_searchSecond_r4 (X : ez_X)  (cz kz : Nat) : ∀ G : ez_F, fx_up X 2 G 141 59 [.ref 6, .int 0, .long 0, ez_fill, .int 1, .int 0, .long 0, ez_fill] [.long 0, .long 0, .int 0, .ref 6] (ev_hp (ev_sI ev_I0 6 (upd (upd (ev_I0 6) 4 1) 3 0)) ev_J0 (ev_sR ev_R0 0 65) ([.inl (1, .inl (fun _ => 0))] : List ez_C)) cz kz = ev_C G 142 [.ref 6, .int 0, .long 0] (ev_hp (ev_sI ev_I0 6 (upd (upd (ev_I0 6) 4 1) 3 0)) ev_J0 (ev_sR ev_R0 0 65) ([.inl (1, .inl (fun _ => 0))] : List ez_C)) fun r h1 c1 k1 => G 141 63 [.ref 6, .int 0, .long 0, ez_fill, .int 1, .int 0, .long 0, ez_fill] (r.toList ++ []) h1 (cz + c1) (kz + k1) := by
  intro G
  rfl
set_option maxRecDepth 100000 in
set_option maxHeartbeats 100000 in
theorem sp_z_92_searchSecond_r5 (X : ez_X)  (cz kz : Nat) : ∀ G : ez_F, fx_up X 6 G 141 63 [.ref 6, .int 0, .long 0, ez_fill, .int 1, .int 0, .long 0, ez_fill] [] (ev_hp (ev_sI ev_I0 6 (upd (upd (ev_I0 6) 4 1) 3 1)) ev_J0 (ev_sR ev_R0 0 65) ([.inl (1, .inl (upd (fun _ => 0) 0 0))] : List ez_C)) cz kz = some (none, (ev_hp (ev_sI ev_I0 6 (upd (upd (ev_I0 6) 4 1) 3 1)) ev_J0 (ev_sR ev_R0 0 65) ([.inl (1, .inl (upd (fun _ => 0) 0 0))] : List ez_C)), cz, kz) := by
  intro G
  rfl
theorem sp_z_92_searchSecond (X : ez_X) : ev_W X 141 0 (ez_lay [.ref 6, .int 0, .long 0]) [] (ev_hp (ev_sI ev_I0 6 (upd (upd (ev_I0 6) 4 1) 3 0)) ev_J0 (ev_sR ev_R0 0 65) ([.inl (1, .inl (fun _ => 0))] : List ez_C)) 0 0 (fun r h1 c1 k1 => r = none ∧ h1 = (ev_hp (ev_sI ev_I0 6 (upd (upd (ev_I0 6) 4 1) 3 1)) ev_J0 (ev_sR ev_R0 0 65) ([.inl (1, .inl (upd (fun _ => 0) 0 0))] : List ez_C)) ∧ c1 = 0 ∧ k1 = 0) := by
  refine ev_call (sp_z_92_searchSecond_r1 X  _ _) (sp_z_93_sizeOf X) ?_
  rintro _ _ _ _ ⟨rfl, rfl, rfl, rfl⟩
  refine ev_call (sp_z_92_searchSecond_r2 X  _ _) (sp_z_94_cellsAt X) ?_
  rintro _ _ _ _ ⟨rfl, rfl, rfl, rfl⟩
  refine ev_call (sp_z_92_searchSecond_r3 X  _ _) (sp_z_95_around X) ?_
  rintro _ _ _ _ ⟨rfl, rfl, rfl, rfl⟩
  refine ev_call (sp_z_92_searchSecond_r4 X  _ _) (sp_z_97_searchThird X) ?_
  rintro _ _ _ _ ⟨rfl, rfl, rfl, rfl⟩
  refine ev_ret (sp_z_92_searchSecond_r5 X  _ _) ?_
  exact ⟨rfl, rfl, rfl, rfl⟩
set_option maxRecDepth 100000 in
set_option maxHeartbeats 100000 in
theorem sp_z_82_search_r1 (X : ez_X)  (cz kz : Nat) : ∀ G : ez_F, fx_up X 3 G 140 0 [.ref 6] [] (ev_hp ev_I0 ev_J0 ev_R0 []) cz kz = ev_C G 89 [.ref 3] (ev_hp ev_I0 ev_J0 ev_R0 []) fun r h1 c1 k1 => G 140 7 [.ref 6] (r.toList ++ []) h1 (cz + c1) (kz + k1) := by
  intro G
  rfl
set_option maxRecDepth 100000 in
set_option maxHeartbeats 100000 in
theorem sp_z_82_search_r2 (X : ez_X)  (cz kz : Nat) : ∀ G : ez_F, fx_up X 24 G 140 7 [.ref 6] [.int 1] (ev_hp ev_I0 ev_J0 ev_R0 []) cz kz = ev_C G 19 [.int 0, .int 1] (ev_hp (ev_sI ev_I0 6 (upd (upd (ev_I0 6) 4 1) 3 0)) ev_J0 ev_R0 []) fun r h1 c1 k1 => G 140 52 [.ref 6, .int 1] (r.toList ++ [.ref 6]) h1 (cz + c1) (kz + k1) := by
  intro G
  rfl
set_option maxRecDepth 100000 in
set_option maxHeartbeats 100000 in
theorem sp_z_82_search_r3 (X : ez_X)  (cz kz : Nat) : ∀ G : ez_F, fx_up X 6 G 140 52 [.ref 6, .int 1] [.int 1, .ref 6] (ev_hp (ev_sI ev_I0 6 (upd (upd (ev_I0 6) 4 1) 3 0)) ev_J0 ev_R0 []) cz kz = ev_C G 94 [.ref 3, .int 0] (ev_hp (ev_sI ev_I0 6 (upd (upd (ev_I0 6) 4 1) 3 0)) ev_J0 (ev_sR ev_R0 0 65) ([.inl (1, .inl (fun _ => 0))] : List ez_C)) fun r h1 c1 k1 => G 140 65 [.ref 6, .int 1] (r.toList ++ []) h1 ((cz + 1) + c1) ((kz + 1) + k1) := by
  intro G
  rfl
set_option maxRecDepth 100000 in
set_option maxHeartbeats 100000 in
theorem sp_z_82_search_r4 (X : ez_X)  (cz kz : Nat) : ∀ G : ez_F, fx_up X 15 G 140 65 [.ref 6, .int 1] [.int 1] (ev_hp (ev_sI ev_I0 6 (upd (upd (ev_I0 6) 4 1) 3 0)) ev_J0 (ev_sR ev_R0 0 65) ([.inl (1, .inl (fun _ => 0))] : List ez_C)) cz kz = ev_C G 86 [.ref 3, .int 0, .int 0] (ev_hp (ev_sI ev_I0 6 (upd (upd (ev_I0 6) 4 1) 3 0)) ev_J0 (ev_sR ev_R0 0 65) ([.inl (1, .inl (fun _ => 0))] : List ez_C)) fun r h1 c1 k1 => G 140 88 [.ref 6, .int 1, .int 1, .int 0] (r.toList ++ [.ref 1, .int 0, .ref 6]) h1 (cz + c1) (kz + k1) := by
  intro G
  rfl
set_option maxRecDepth 100000 in
set_option maxHeartbeats 100000 in
theorem sp_z_82_search_r5 (X : ez_X)  (cz kz : Nat) : ∀ G : ez_F, fx_up X 1 G 140 88 [.ref 6, .int 1, .int 1, .int 0] [.long 0, .ref 1, .int 0, .ref 6] (ev_hp (ev_sI ev_I0 6 (upd (upd (ev_I0 6) 4 1) 3 0)) ev_J0 (ev_sR ev_R0 0 65) ([.inl (1, .inl (fun _ => 0))] : List ez_C)) cz kz = ev_C G 144 [.ref 1, .long 0] (ev_hp (ev_sI ev_I0 6 (upd (upd (ev_I0 6) 4 1) 3 0)) ev_J0 (ev_sR ev_R0 0 65) ([.inl (1, .inl (fun _ => 0))] : List ez_C)) fun r h1 c1 k1 => G 140 91 [.ref 6, .int 1, .int 1, .int 0] (r.toList ++ [.int 0, .ref 6]) h1 (cz + c1) (kz + k1) := by
  intro G
  rfl
set_option maxRecDepth 100000 in
set_option maxHeartbeats 100000 in
theorem sp_z_82_search_r6 (X : ez_X)  (cz kz : Nat) : ∀ G : ez_F, fx_up X 1 G 140 91 [.ref 6, .int 1, .int 1, .int 0] [.long 0, .int 0, .ref 6] (ev_hp (ev_sI ev_I0 6 (upd (upd (ev_I0 6) 4 1) 3 0)) ev_J0 (ev_sR ev_R0 0 65) ([.inl (1, .inl (fun _ => 0))] : List ez_C)) cz kz = ev_C G 141 [.ref 6, .int 0, .long 0] (ev_hp (ev_sI ev_I0 6 (upd (upd (ev_I0 6) 4 1) 3 0)) ev_J0 (ev_sR ev_R0 0 65) ([.inl (1, .inl (fun _ => 0))] : List ez_C)) fun r h1 c1 k1 => G 140 94 [.ref 6, .int 1, .int 1, .int 0] (r.toList ++ []) h1 (cz + c1) (kz + k1) := by
  intro G
  rfl
set_option maxRecDepth 100000 in
set_option maxHeartbeats 100000 in
theorem sp_z_82_search_r7 (X : ez_X)  (cz kz : Nat) : ∀ G : ez_F, fx_up X 6 G 140 94 [.ref 6, .int 1, .int 1, .int 0] [] (ev_hp (ev_sI ev_I0 6 (upd (upd (ev_I0 6) 4 1) 3 1)) ev_J0 (ev_sR ev_R0 0 65) ([.inl (1, .inl (upd (fun _ => 0) 0 0))] : List ez_C)) cz kz = some (none, (ev_hp (ev_sI ev_I0 6 (upd (upd (ev_I0 6) 4 1) 3 1)) ev_J0 (ev_sR ev_R0 0 65) ([.inl (1, .inl (upd (fun _ => 0) 0 0))] : List ez_C)), cz, kz) := by
  intro G
  rfl
theorem sp_z_82_search (X : ez_X) : ev_W X 140 0 (ez_lay [.ref 6]) [] (ev_hp ev_I0 ev_J0 ev_R0 []) 0 0 (fun r h1 c1 k1 => r = none ∧ h1 = (ev_hp (ev_sI ev_I0 6 (upd (upd (ev_I0 6) 4 1) 3 1)) ev_J0 (ev_sR ev_R0 0 65) ([.inl (1, .inl (upd (fun _ => 0) 0 0))] : List ez_C)) ∧ c1 = 1 ∧ k1 = 1) := by
  refine ev_call (sp_z_82_search_r1 X  _ _) (sp_z_83_combinations X) ?_
  rintro _ _ _ _ ⟨rfl, rfl, rfl, rfl⟩
  refine ev_call (sp_z_82_search_r2 X  _ _) (sp_z_87_grown X) ?_
  rintro _ _ _ _ ⟨rfl, rfl, rfl, rfl⟩
  refine ev_call (sp_z_82_search_r3 X  _ _) (sp_z_88_sizeOf X) ?_
  rintro _ _ _ _ ⟨rfl, rfl, rfl, rfl⟩
  refine ev_call (sp_z_82_search_r4 X  _ _) (sp_z_89_cellsAt X) ?_
  rintro _ _ _ _ ⟨rfl, rfl, rfl, rfl⟩
  refine ev_call (sp_z_82_search_r5 X  _ _) (sp_z_90_around X) ?_
  rintro _ _ _ _ ⟨rfl, rfl, rfl, rfl⟩
  refine ev_call (sp_z_82_search_r6 X  _ _) (sp_z_92_searchSecond X) ?_
  rintro _ _ _ _ ⟨rfl, rfl, rfl, rfl⟩
  refine ev_ret (sp_z_82_search_r7 X  _ _) ?_
  exact ⟨rfl, rfl, rfl, rfl⟩
set_option maxRecDepth 100000 in
set_option maxHeartbeats 100000 in
theorem sp_z_77_tooMany_r1 (X : ez_X)  (cz kz : Nat) : ∀ G : ez_F, fx_up X 3 G 52 0 [.ref 0] [] (ev_hp ev_I0 ev_J0 ev_R0 []) cz kz = ev_C G 89 [.ref 3] (ev_hp ev_I0 ev_J0 ev_R0 []) fun r h1 c1 k1 => G 52 7 [.ref 0] (r.toList ++ []) h1 (cz + c1) (kz + k1) := by
  intro G
  rfl
set_option maxRecDepth 100000 in
set_option maxHeartbeats 100000 in
theorem sp_z_77_tooMany_r2 (X : ez_X)  (cz kz : Nat) : ∀ G : ez_F, fx_up X 5 G 52 7 [.ref 0] [.int 1] (ev_hp ev_I0 ev_J0 ev_R0 []) cz kz = ev_C G 140 [.ref 6] (ev_hp ev_I0 ev_J0 ev_R0 []) fun r h1 c1 k1 => G 52 22 [.ref 0] (r.toList ++ []) h1 (cz + c1) (kz + k1) := by
  intro G
  rfl
set_option maxRecDepth 100000 in
set_option maxHeartbeats 100000 in
theorem sp_z_77_tooMany_r3 (X : ez_X)  (cz kz : Nat) : ∀ G : ez_F, fx_up X 2 G 52 22 [.ref 0] [] (ev_hp (ev_sI ev_I0 6 (upd (upd (ev_I0 6) 4 1) 3 1)) ev_J0 (ev_sR ev_R0 0 65) ([.inl (1, .inl (upd (fun _ => 0) 0 0))] : List ez_C)) cz kz = some (some (.int 0), (ev_hp (ev_sI ev_I0 6 (upd (upd (ev_I0 6) 4 1) 3 1)) ev_J0 (ev_sR ev_R0 0 65) ([.inl (1, .inl (upd (fun _ => 0) 0 0))] : List ez_C)), cz, kz) := by
  intro G
  rfl
theorem sp_z_77_tooMany (X : ez_X) : ev_W X 52 0 (ez_lay [.ref 0]) [] (ev_hp ev_I0 ev_J0 ev_R0 []) 0 0 (fun r h1 c1 k1 => r = (some (.int 0)) ∧ h1 = (ev_hp (ev_sI ev_I0 6 (upd (upd (ev_I0 6) 4 1) 3 1)) ev_J0 (ev_sR ev_R0 0 65) ([.inl (1, .inl (upd (fun _ => 0) 0 0))] : List ez_C)) ∧ c1 = 1 ∧ k1 = 1) := by
  refine ev_call (sp_z_77_tooMany_r1 X  _ _) (sp_z_78_combinations X) ?_
  rintro _ _ _ _ ⟨rfl, rfl, rfl, rfl⟩
  refine ev_call (sp_z_77_tooMany_r2 X  _ _) (sp_z_82_search X) ?_
  rintro _ _ _ _ ⟨rfl, rfl, rfl, rfl⟩
  refine ev_ret (sp_z_77_tooMany_r3 X  _ _) ?_
  exact ⟨rfl, rfl, rfl, rfl⟩
set_option maxRecDepth 100000 in
set_option maxHeartbeats 100000 in
theorem sp_z_76_crowded_r1 (X : ez_X)  (cz kz : Nat) : ∀ G : ez_F, fx_up X 2 G 15 0 [.ref 0] [] (ev_hp ev_I0 ev_J0 ev_R0 []) cz kz = ev_C G 52 [.ref 0] (ev_hp ev_I0 ev_J0 ev_R0 []) fun r h1 c1 k1 => G 15 4 [.ref 0] (r.toList ++ []) h1 (cz + c1) (kz + k1) := by
  intro G
  rfl
set_option maxRecDepth 100000 in
set_option maxHeartbeats 100000 in
theorem sp_z_76_crowded_r2 (X : ez_X)  (cz kz : Nat) : ∀ G : ez_F, fx_up X 8 G 15 4 [.ref 0] [.int 0] (ev_hp (ev_sI ev_I0 6 (upd (upd (ev_I0 6) 4 1) 3 1)) ev_J0 (ev_sR ev_R0 0 65) ([.inl (1, .inl (upd (fun _ => 0) 0 0))] : List ez_C)) cz kz = some (some (.int 0), (ev_hp (ev_sI ev_I0 6 (upd (upd (ev_I0 6) 4 1) 3 1)) ev_J0 (ev_sR ev_R0 0 65) ([.inl (1, .inl (upd (fun _ => 0) 0 0))] : List ez_C)), cz, kz) := by
  intro G
  rfl
theorem sp_z_76_crowded (X : ez_X) : ev_W X 15 0 (ez_lay [.ref 0]) [] (ev_hp ev_I0 ev_J0 ev_R0 []) 0 0 (fun r h1 c1 k1 => r = (some (.int 0)) ∧ h1 = (ev_hp (ev_sI ev_I0 6 (upd (upd (ev_I0 6) 4 1) 3 1)) ev_J0 (ev_sR ev_R0 0 65) ([.inl (1, .inl (upd (fun _ => 0) 0 0))] : List ez_C)) ∧ c1 = 1 ∧ k1 = 1) := by
  refine ev_call (sp_z_76_crowded_r1 X  _ _) (sp_z_77_tooMany X) ?_
  rintro _ _ _ _ ⟨rfl, rfl, rfl, rfl⟩
  refine ev_ret (sp_z_76_crowded_r2 X  _ _) ?_
  exact ⟨rfl, rfl, rfl, rfl⟩
set_option maxRecDepth 100000 in
set_option maxHeartbeats 100000 in
theorem ef_need_n_r1 (X : ez_X) (I : Nat → Nat → Int32) (J : Nat → Nat → Int64) (R : Nat → Nat) (T : List ez_C) (a : Int32) (cz kz : Nat) : ∀ G : ez_F, fx_up X 2 G 34 0 [.ref 0, .int a] [] (ev_hp ev_I0 ev_J0 ev_R0 []) cz kz = ev_C G 15 [.ref 0] (ev_hp ev_I0 ev_J0 ev_R0 []) fun r h1 c1 k1 => G 34 4 [.ref 0, .int a] (r.toList ++ []) h1 (cz + c1) (kz + k1) := by
  intro G
  rfl
set_option maxRecDepth 100000 in
set_option maxHeartbeats 100000 in
theorem ef_need_n_r2 (X : ez_X) (I : Nat → Nat → Int32) (J : Nat → Nat → Int64) (R : Nat → Nat) (T : List ez_C) (a : Int32) (cz kz : Nat) : ∀ G : ez_F, fx_up X 4 G 34 4 [.ref 0, .int a] [.int 0] (ev_hp (ev_sI ev_I0 6 (upd (upd (ev_I0 6) 4 1) 3 1)) ev_J0 (ev_sR ev_R0 0 65) ([.inl (1, .inl (upd (fun _ => 0) 0 0))] : List ez_C)) cz kz = ev_C G 23 [.ref 0, .int a] (ev_hp (ev_sI ev_I0 6 (upd (upd (ev_I0 6) 4 1) 3 1)) ev_J0 (ev_sR ev_R0 0 65) ([.inl (1, .inl (upd (fun _ => 0) 0 0))] : List ez_C)) fun r h1 c1 k1 => G 34 15 [.ref 0, .int a] (r.toList ++ []) h1 (cz + c1) (kz + k1) := by
  intro G
  rfl
set_option maxRecDepth 100000 in
set_option maxHeartbeats 100000 in
theorem ef_need_n_r3 (X : ez_X) (I : Nat → Nat → Int32) (J : Nat → Nat → Int64) (R : Nat → Nat) (T : List ez_C) (a : Int32) (q136 : Int32) (cz kz : Nat) : ∀ G : ez_F, fx_up X 1 G 34 15 [.ref 0, .int a] [.int q136] (ev_hp (ev_sI ev_I0 6 (upd (upd (ev_I0 6) 4 1) 3 1)) ev_J0 (ev_sR ev_R0 0 65) ([.inl (1, .inl (upd (fun _ => 0) 0 0))] : List ez_C)) cz kz = bif decide (¬ q136 = 0) then G 34 21 [.ref 0, .int a] [] (ev_hp (ev_sI ev_I0 6 (upd (upd (ev_I0 6) 4 1) 3 1)) ev_J0 (ev_sR ev_R0 0 65) ([.inl (1, .inl (upd (fun _ => 0) 0 0))] : List ez_C)) cz kz else G 34 18 [.ref 0, .int a] [] (ev_hp (ev_sI ev_I0 6 (upd (upd (ev_I0 6) 4 1) 3 1)) ev_J0 (ev_sR ev_R0 0 65) ([.inl (1, .inl (upd (fun _ => 0) 0 0))] : List ez_C)) cz kz := by
  intro G
  rfl
set_option maxRecDepth 100000 in
set_option maxHeartbeats 100000 in
theorem ef_need_n_r4 (X : ez_X) (I : Nat → Nat → Int32) (J : Nat → Nat → Int64) (R : Nat → Nat) (T : List ez_C) (a : Int32) (q136 : Int32) (cz kz : Nat) : ∀ G : ez_F, fx_up X 2 G 34 18 [.ref 0, .int a] [] (ev_hp (ev_sI ev_I0 6 (upd (upd (ev_I0 6) 4 1) 3 1)) ev_J0 (ev_sR ev_R0 0 65) ([.inl (1, .inl (upd (fun _ => 0) 0 0))] : List ez_C)) cz kz = some (some (.int (-2)), (ev_hp (ev_sI ev_I0 6 (upd (upd (ev_I0 6) 4 1) 3 1)) ev_J0 (ev_sR ev_R0 0 65) ([.inl (1, .inl (upd (fun _ => 0) 0 0))] : List ez_C)), cz, kz) := by
  intro G
  rfl
theorem ef_need_n (X : ez_X) (I : Nat → Nat → Int32) (J : Nat → Nat → Int64) (R : Nat → Nat) (T : List ez_C) (a : Int32) (ha : ev_wi a 0 0 = 0) : ev_W X 34 0 (ez_lay [.ref 0, .int a]) [] (ev_hp ev_I0 ev_J0 ev_R0 []) 0 0 (fun r h1 c1 k1 => ((¬ (¬ (((ev_wi a 0 ((1 : Int32) - (1 : Int32))))) = 0)) ∧ r = some (.int (-2)) ∧ h1 = (ev_hp (ev_sI ev_I0 6 (upd (upd (ev_I0 6) 4 1) 3 1)) ev_J0 (ev_sR ev_R0 0 65) ([.inl (1, .inl (upd (fun _ => 0) 0 0))] : List ez_C)) ∧ c1 = 1 ∧ k1 = 1)) := by
  refine ev_call (ef_need_n_r1 X I J R T a _ _) (sp_z_76_crowded X) ?_
  rintro _ _ _ _ ⟨rfl, rfl, rfl, rfl⟩
  refine ev_call (ef_need_n_r2 X I J R T a _ _) (eg_isLaying X (ev_sI ev_I0 6 (upd (upd (ev_I0 6) 4 1) 3 1)) ev_J0 (ev_sR ev_R0 0 65) ([.inl (1, .inl (upd (fun _ => 0) 0 0))] : List ez_C) a) ?_
  rintro r0 _ _ _ (⟨hr0, rfl, rfl, rfl⟩)
  obtain ⟨q136, hq136⟩ : ∃ z : Int32, ((ev_wi a 0 ((1 : Int32) - (1 : Int32)))) = z := ⟨_, rfl⟩
  have eq136 : r0 = some (.int q136) := hr0.trans (by subst hq136; rfl)
  subst eq136
  refine ev_if (ef_need_n_r3 X I J R T a q136 _ _) (fun b1 => ?_) (fun b1 => ?_)
  · replace b1 := of_decide_eq_true b1
    exact (b1 (by rw [← hq136]; exact ha)).elim
  · replace b1 := of_decide_eq_false b1
    refine ev_ret (ef_need_n_r4 X I J R T a q136 _ _) ?_
    subst hq136
    exact ⟨b1, rfl, rfl, rfl, rfl⟩
set_option maxRecDepth 100000 in
set_option maxHeartbeats 100000 in
theorem sp_z_102_areLaid_r1 (X : ez_X)  (cz kz : Nat) : ∀ G : ez_F, fx_up X 24 G 167 0 [.ref 35] [] (ev_hp (ev_sI ev_I0 6 (upd (upd (ev_I0 6) 4 1) 3 1)) ev_J0 (ev_sR ev_R0 0 65) ([.inl (1, .inl (upd (fun _ => 0) 0 0))] : List ez_C)) cz kz = G 167 83 [.ref 35, .long 1, ez_fill, .int 1] [] (ev_hp (ev_sI (ev_sI ev_I0 6 (upd (upd (ev_I0 6) 4 1) 3 1)) 35 (upd (ev_I0 35) 14 0)) ev_J0 (ev_sR ev_R0 0 65) ([.inl (1, .inl (upd (fun _ => 0) 0 0))] : List ez_C)) cz kz := by
  intro G
  rfl
set_option maxRecDepth 100000 in
set_option maxHeartbeats 100000 in
theorem sp_z_102_areLaid_r2 (X : ez_X)  (cz kz : Nat) : ∀ G : ez_F, fx_up X 24 G 167 83 [.ref 35, .long 1, ez_fill, .int 1] [] (ev_hp (ev_sI (ev_sI ev_I0 6 (upd (upd (ev_I0 6) 4 1) 3 1)) 35 (upd (ev_I0 35) 14 0)) ev_J0 (ev_sR ev_R0 0 65) ([.inl (1, .inl (upd (fun _ => 0) 0 0))] : List ez_C)) cz kz = G 167 162 [.ref 35, .long 1, ez_fill, .int 1, .int 1, .int 1, .int 0, .int 0] [.int 1] (ev_hp (ev_sI (ev_sI ev_I0 6 (upd (upd (ev_I0 6) 4 1) 3 1)) 35 (upd (ev_I0 35) 14 0)) ev_J0 (ev_sR ev_R0 0 65) ([.inl (1, .inl (upd (fun _ => 0) 0 0))] : List ez_C)) cz kz := by
  intro G
  rfl
set_option maxRecDepth 100000 in
set_option maxHeartbeats 100000 in
theorem sp_z_102_areLaid_r3 (X : ez_X)  (cz kz : Nat) : ∀ G : ez_F, fx_up X 24 G 167 162 [.ref 35, .long 1, ez_fill, .int 1, .int 1, .int 1, .int 0, .int 0] [.int 1] (ev_hp (ev_sI (ev_sI ev_I0 6 (upd (upd (ev_I0 6) 4 1) 3 1)) 35 (upd (ev_I0 35) 14 0)) ev_J0 (ev_sR ev_R0 0 65) ([.inl (1, .inl (upd (fun _ => 0) 0 0))] : List ez_C)) cz kz = G 167 258 [.ref 35, .long 1, ez_fill, .int 1, .int 1, .int 1, .int 0, .int 0, .int 1, .int 0] [.ref 35, .int 3, .ref 41] (ev_hp (ev_sI (ev_sI (ev_sI ev_I0 6 (upd (upd (ev_I0 6) 4 1) 3 1)) 35 (upd (ev_I0 35) 14 0)) 41 (upd (ev_I0 41) 0 0)) ev_J0 (ev_sR ev_R0 0 65) ([.inl (1, .inl (upd (fun _ => 0) 0 0))] : List ez_C)) cz kz := by
  intro G
  rfl
set_option maxRecDepth 100000 in
set_option maxHeartbeats 100000 in
theorem sp_z_102_areLaid_r4 (X : ez_X)  (cz kz : Nat) : ∀ G : ez_F, fx_up X 24 G 167 258 [.ref 35, .long 1, ez_fill, .int 1, .int 1, .int 1, .int 0, .int 0, .int 1, .int 0] [.ref 35, .int 3, .ref 41] (ev_hp (ev_sI (ev_sI (ev_sI ev_I0 6 (upd (upd (ev_I0 6) 4 1) 3 1)) 35 (upd (ev_I0 35) 14 0)) 41 (upd (ev_I0 41) 0 0)) ev_J0 (ev_sR ev_R0 0 65) ([.inl (1, .inl (upd (fun _ => 0) 0 0))] : List ez_C)) cz kz = G 167 167 [.ref 35, .long 1, ez_fill, .int 1, .int 1, .int 1, .int 0, .int 0, .int 1, .int 1] [] (ev_hp (ev_sI (ev_sI (ev_sI ev_I0 6 (upd (upd (ev_I0 6) 4 1) 3 1)) 35 (upd (ev_I0 35) 14 1)) 41 (upd (upd (upd (ev_I0 41) 0 0) 1 0) 2 0)) ev_J0 (ev_sR ev_R0 0 65) ([.inl (1, .inl (upd (fun _ => 0) 0 0))] : List ez_C)) cz kz := by
  intro G
  rfl
set_option maxRecDepth 100000 in
set_option maxHeartbeats 100000 in
theorem sp_z_102_areLaid_r5 (X : ez_X)  (cz kz : Nat) : ∀ G : ez_F, fx_up X 15 G 167 167 [.ref 35, .long 1, ez_fill, .int 1, .int 1, .int 1, .int 0, .int 0, .int 1, .int 1] [] (ev_hp (ev_sI (ev_sI (ev_sI ev_I0 6 (upd (upd (ev_I0 6) 4 1) 3 1)) 35 (upd (ev_I0 35) 14 1)) 41 (upd (upd (upd (ev_I0 41) 0 0) 1 0) 2 0)) ev_J0 (ev_sR ev_R0 0 65) ([.inl (1, .inl (upd (fun _ => 0) 0 0))] : List ez_C)) cz kz = some (some (.int 1), (ev_hp (ev_sI (ev_sI (ev_sI ev_I0 6 (upd (upd (ev_I0 6) 4 1) 3 1)) 35 (upd (ev_I0 35) 14 1)) 41 (upd (upd (upd (ev_I0 41) 0 0) 1 0) 2 0)) ev_J0 (ev_sR ev_R0 0 65) ([.inl (1, .inl (upd (fun _ => 0) 0 0))] : List ez_C)), cz, kz) := by
  intro G
  rfl
theorem sp_z_102_areLaid (X : ez_X) : ev_W X 167 0 (ez_lay [.ref 35]) [] (ev_hp (ev_sI ev_I0 6 (upd (upd (ev_I0 6) 4 1) 3 1)) ev_J0 (ev_sR ev_R0 0 65) ([.inl (1, .inl (upd (fun _ => 0) 0 0))] : List ez_C)) 0 0 (fun r h1 c1 k1 => r = (some (.int 1)) ∧ h1 = (ev_hp (ev_sI (ev_sI (ev_sI ev_I0 6 (upd (upd (ev_I0 6) 4 1) 3 1)) 35 (upd (ev_I0 35) 14 1)) 41 (upd (upd (upd (ev_I0 41) 0 0) 1 0) 2 0)) ev_J0 (ev_sR ev_R0 0 65) ([.inl (1, .inl (upd (fun _ => 0) 0 0))] : List ez_C)) ∧ c1 = 0 ∧ k1 = 0) := by
  refine ev_seg (sp_z_102_areLaid_r1 X  _ _) ?_
  refine ev_seg (sp_z_102_areLaid_r2 X  _ _) ?_
  refine ev_seg (sp_z_102_areLaid_r3 X  _ _) ?_
  refine ev_seg (sp_z_102_areLaid_r4 X  _ _) ?_
  refine ev_ret (sp_z_102_areLaid_r5 X  _ _) ?_
  exact ⟨rfl, rfl, rfl, rfl⟩
set_option maxRecDepth 100000 in
set_option maxHeartbeats 100000 in
theorem sp_z_101_isCrowded_r1 (X : ez_X)  (cz kz : Nat) : ∀ G : ez_F, fx_up X 2 G 201 0 [.ref 35] [] (ev_hp (ev_sI ev_I0 6 (upd (upd (ev_I0 6) 4 1) 3 1)) ev_J0 (ev_sR ev_R0 0 65) ([.inl (1, .inl (upd (fun _ => 0) 0 0))] : List ez_C)) cz kz = ev_C G 167 [.ref 35] (ev_hp (ev_sI ev_I0 6 (upd (upd (ev_I0 6) 4 1) 3 1)) ev_J0 (ev_sR ev_R0 0 65) ([.inl (1, .inl (upd (fun _ => 0) 0 0))] : List ez_C)) fun r h1 c1 k1 => G 201 4 [.ref 35] (r.toList ++ []) h1 (cz + c1) (kz + k1) := by
  intro G
  rfl
set_option maxRecDepth 100000 in
set_option maxHeartbeats 100000 in
theorem sp_z_101_isCrowded_r2 (X : ez_X)  (cz kz : Nat) : ∀ G : ez_F, fx_up X 7 G 201 4 [.ref 35] [.int 1] (ev_hp (ev_sI (ev_sI (ev_sI ev_I0 6 (upd (upd (ev_I0 6) 4 1) 3 1)) 35 (upd (ev_I0 35) 14 1)) 41 (upd (upd (upd (ev_I0 41) 0 0) 1 0) 2 0)) ev_J0 (ev_sR ev_R0 0 65) ([.inl (1, .inl (upd (fun _ => 0) 0 0))] : List ez_C)) cz kz = some (some (.int 0), (ev_hp (ev_sI (ev_sI (ev_sI ev_I0 6 (upd (upd (ev_I0 6) 4 1) 3 1)) 35 (upd (ev_I0 35) 14 1)) 41 (upd (upd (upd (ev_I0 41) 0 0) 1 0) 2 0)) ev_J0 (ev_sR ev_R0 0 65) ([.inl (1, .inl (upd (fun _ => 0) 0 0))] : List ez_C)), cz, kz) := by
  intro G
  rfl
theorem sp_z_101_isCrowded (X : ez_X) : ev_W X 201 0 (ez_lay [.ref 35]) [] (ev_hp (ev_sI ev_I0 6 (upd (upd (ev_I0 6) 4 1) 3 1)) ev_J0 (ev_sR ev_R0 0 65) ([.inl (1, .inl (upd (fun _ => 0) 0 0))] : List ez_C)) 0 0 (fun r h1 c1 k1 => r = (some (.int 0)) ∧ h1 = (ev_hp (ev_sI (ev_sI (ev_sI ev_I0 6 (upd (upd (ev_I0 6) 4 1) 3 1)) 35 (upd (ev_I0 35) 14 1)) 41 (upd (upd (upd (ev_I0 41) 0 0) 1 0) 2 0)) ev_J0 (ev_sR ev_R0 0 65) ([.inl (1, .inl (upd (fun _ => 0) 0 0))] : List ez_C)) ∧ c1 = 0 ∧ k1 = 0) := by
  refine ev_call (sp_z_101_isCrowded_r1 X  _ _) (sp_z_102_areLaid X) ?_
  rintro _ _ _ _ ⟨rfl, rfl, rfl, rfl⟩
  refine ev_ret (sp_z_101_isCrowded_r2 X  _ _) ?_
  exact ⟨rfl, rfl, rfl, rfl⟩
set_option maxRecDepth 100000 in
set_option maxHeartbeats 100000 in
theorem eh_need_n_r1 (X : ez_X) (I : Nat → Nat → Int32) (J : Nat → Nat → Int64) (R : Nat → Nat) (T : List ez_C) (a : Int32) (cz kz : Nat) : ∀ G : ez_F, fx_up X 2 G 212 0 [.ref 35, .int a] [] (ev_hp (ev_sI ev_I0 6 (upd (upd (ev_I0 6) 4 1) 3 1)) ev_J0 (ev_sR ev_R0 0 65) ([.inl (1, .inl (upd (fun _ => 0) 0 0))] : List ez_C)) cz kz = ev_C G 201 [.ref 35] (ev_hp (ev_sI ev_I0 6 (upd (upd (ev_I0 6) 4 1) 3 1)) ev_J0 (ev_sR ev_R0 0 65) ([.inl (1, .inl (upd (fun _ => 0) 0 0))] : List ez_C)) fun r h1 c1 k1 => G 212 4 [.ref 35, .int a] (r.toList ++ []) h1 (cz + c1) (kz + k1) := by
  intro G
  rfl
set_option maxRecDepth 100000 in
set_option maxHeartbeats 100000 in
theorem eh_need_n_r2 (X : ez_X) (I : Nat → Nat → Int32) (J : Nat → Nat → Int64) (R : Nat → Nat) (T : List ez_C) (a : Int32) (cz kz : Nat) : ∀ G : ez_F, fx_up X 4 G 212 4 [.ref 35, .int a] [.int 0] (ev_hp (ev_sI (ev_sI (ev_sI ev_I0 6 (upd (upd (ev_I0 6) 4 1) 3 1)) 35 (upd (ev_I0 35) 14 1)) 41 (upd (upd (upd (ev_I0 41) 0 0) 1 0) 2 0)) ev_J0 (ev_sR ev_R0 0 65) ([.inl (1, .inl (upd (fun _ => 0) 0 0))] : List ez_C)) cz kz = ev_C G 202 [.ref 35, .int a] (ev_hp (ev_sI (ev_sI (ev_sI ev_I0 6 (upd (upd (ev_I0 6) 4 1) 3 1)) 35 (upd (ev_I0 35) 14 1)) 41 (upd (upd (upd (ev_I0 41) 0 0) 1 0) 2 0)) ev_J0 (ev_sR ev_R0 0 65) ([.inl (1, .inl (upd (fun _ => 0) 0 0))] : List ez_C)) fun r h1 c1 k1 => G 212 15 [.ref 35, .int a] (r.toList ++ []) h1 (cz + c1) (kz + k1) := by
  intro G
  rfl
set_option maxRecDepth 100000 in
set_option maxHeartbeats 100000 in
theorem eh_need_n_r3 (X : ez_X) (I : Nat → Nat → Int32) (J : Nat → Nat → Int64) (R : Nat → Nat) (T : List ez_C) (a : Int32) (q137 : Int32) (cz kz : Nat) : ∀ G : ez_F, fx_up X 1 G 212 15 [.ref 35, .int a] [.int q137] (ev_hp (ev_sI (ev_sI (ev_sI ev_I0 6 (upd (upd (ev_I0 6) 4 1) 3 1)) 35 (upd (ev_I0 35) 14 1)) 41 (upd (upd (upd (ev_I0 41) 0 0) 1 0) 2 0)) ev_J0 (ev_sR ev_R0 0 65) ([.inl (1, .inl (upd (fun _ => 0) 0 0))] : List ez_C)) cz kz = bif decide (q137 = 0) then G 212 26 [.ref 35, .int a] [] (ev_hp (ev_sI (ev_sI (ev_sI ev_I0 6 (upd (upd (ev_I0 6) 4 1) 3 1)) 35 (upd (ev_I0 35) 14 1)) 41 (upd (upd (upd (ev_I0 41) 0 0) 1 0) 2 0)) ev_J0 (ev_sR ev_R0 0 65) ([.inl (1, .inl (upd (fun _ => 0) 0 0))] : List ez_C)) cz kz else G 212 18 [.ref 35, .int a] [] (ev_hp (ev_sI (ev_sI (ev_sI ev_I0 6 (upd (upd (ev_I0 6) 4 1) 3 1)) 35 (upd (ev_I0 35) 14 1)) 41 (upd (upd (upd (ev_I0 41) 0 0) 1 0) 2 0)) ev_J0 (ev_sR ev_R0 0 65) ([.inl (1, .inl (upd (fun _ => 0) 0 0))] : List ez_C)) cz kz := by
  intro G
  rfl
set_option maxRecDepth 100000 in
set_option maxHeartbeats 100000 in
theorem eh_need_n_r4 (X : ez_X) (I : Nat → Nat → Int32) (J : Nat → Nat → Int64) (R : Nat → Nat) (T : List ez_C) (a : Int32) (q137 : Int32) (cz kz : Nat) : ∀ G : ez_F, fx_up X 2 G 212 26 [.ref 35, .int a] [] (ev_hp (ev_sI (ev_sI (ev_sI ev_I0 6 (upd (upd (ev_I0 6) 4 1) 3 1)) 35 (upd (ev_I0 35) 14 1)) 41 (upd (upd (upd (ev_I0 41) 0 0) 1 0) 2 0)) ev_J0 (ev_sR ev_R0 0 65) ([.inl (1, .inl (upd (fun _ => 0) 0 0))] : List ez_C)) cz kz = some (some (.int (-2)), (ev_hp (ev_sI (ev_sI (ev_sI ev_I0 6 (upd (upd (ev_I0 6) 4 1) 3 1)) 35 (upd (ev_I0 35) 14 1)) 41 (upd (upd (upd (ev_I0 41) 0 0) 1 0) 2 0)) ev_J0 (ev_sR ev_R0 0 65) ([.inl (1, .inl (upd (fun _ => 0) 0 0))] : List ez_C)), cz, kz) := by
  intro G
  rfl
theorem eh_need_n (X : ez_X) (I : Nat → Nat → Int32) (J : Nat → Nat → Int64) (R : Nat → Nat) (T : List ez_C) (a : Int32) (ha : ev_wi a 0 0 = 0) : ev_W X 212 0 (ez_lay [.ref 35, .int a]) [] (ev_hp (ev_sI ev_I0 6 (upd (upd (ev_I0 6) 4 1) 3 1)) ev_J0 (ev_sR ev_R0 0 65) ([.inl (1, .inl (upd (fun _ => 0) 0 0))] : List ez_C)) 0 0 (fun r h1 c1 k1 => (((((ev_il (a.toInt64) 0 (((1 : Int32) - (1 : Int32)).toInt64)))) = 0) ∧ r = some (.int (-2)) ∧ h1 = (ev_hp (ev_sI (ev_sI (ev_sI ev_I0 6 (upd (upd (ev_I0 6) 4 1) 3 1)) 35 (upd (ev_I0 35) 14 1)) 41 (upd (upd (upd (ev_I0 41) 0 0) 1 0) 2 0)) ev_J0 (ev_sR ev_R0 0 65) ([.inl (1, .inl (upd (fun _ => 0) 0 0))] : List ez_C)) ∧ c1 = 0 ∧ k1 = 0)) := by
  refine ev_call (eh_need_n_r1 X I J R T a _ _) (sp_z_101_isCrowded X) ?_
  rintro _ _ _ _ ⟨rfl, rfl, rfl, rfl⟩
  refine ev_call (eh_need_n_r2 X I J R T a _ _) (em_isLaying X (ev_sI (ev_sI (ev_sI ev_I0 6 (upd (upd (ev_I0 6) 4 1) 3 1)) 35 (upd (ev_I0 35) 14 1)) 41 (upd (upd (upd (ev_I0 41) 0 0) 1 0) 2 0)) ev_J0 (ev_sR ev_R0 0 65) ([.inl (1, .inl (upd (fun _ => 0) 0 0))] : List ez_C) a) ?_
  rintro r0 _ _ _ (⟨hr0, rfl, rfl, rfl⟩)
  obtain ⟨q137, hq137⟩ : ∃ z : Int32, ((ev_il (a.toInt64) 0 (((1 : Int32) - (1 : Int32)).toInt64))) = z := ⟨_, rfl⟩
  have eq137 : r0 = some (.int q137) := hr0.trans (by subst hq137; rfl)
  subst eq137
  refine ev_if (eh_need_n_r3 X I J R T a q137 _ _) (fun b1 => ?_) (fun b1 => ?_)
  · replace b1 := of_decide_eq_true b1
    refine ev_ret (eh_need_n_r4 X I J R T a q137 _ _) ?_
    subst hq137
    exact ⟨b1, rfl, rfl, rfl, rfl⟩
  · replace b1 := of_decide_eq_false b1
    exact (b1 (by rw [← hq137]; exact ((ev_il_wi a 0 0).trans ha))).elim
set_option maxRecDepth 100000 in
set_option maxHeartbeats 100000 in
theorem eo_need_n_r1 (xs : Nat → Int32)  (cz kz : Nat) : ∀ G : ez_F, fx_up (4, xs) 2 G 241 809 [ez_scr, .ref 0, .ref 35, .int 0] [] (ev_hp ev_I0 ev_J0 ev_R0 []) cz kz = G 241 811 [ez_scr, .ref 0, .ref 35, .int 0] [ez_scr, .ref 0] (ev_hp ev_I0 ev_J0 ev_R0 []) cz kz := by
  intro G
  rfl
set_option maxRecDepth 100000 in
set_option maxHeartbeats 100000 in
theorem eo_need_n_r2 (xs : Nat → Int32)  (cz kz : Nat) : ∀ G : ez_F, fx_up (4, xs) 2 G 241 811 [ez_scr, .ref 0, .ref 35, .int 0] [ez_scr, .ref 0] (ev_hp ev_I0 ev_J0 ev_R0 []) cz kz = G 241 813 [ez_scr, .ref 0, .ref 35, .int 0] [.int 1, .int 0, ez_scr, .ref 0] (ev_hp ev_I0 ev_J0 ev_R0 []) cz kz := by
  intro G
  rfl
set_option maxRecDepth 100000 in
set_option maxHeartbeats 100000 in
theorem eo_need_n_r3 (xs : Nat → Int32)  (cz kz : Nat) : ∀ G : ez_F, fx_up (4, xs) 2 G 241 813 [ez_scr, .ref 0, .ref 35, .int 0] [.int 1, .int 0, ez_scr, .ref 0] (ev_hp ev_I0 ev_J0 ev_R0 []) cz kz = G 241 815 [ez_scr, .ref 0, .ref 35, .int 0] [.int (xs 1), .ref 0] (ev_hp ev_I0 ev_J0 ev_R0 []) cz kz := by
  intro G
  rfl
set_option maxRecDepth 100000 in
set_option maxHeartbeats 100000 in
theorem eo_need_n_r4 (xs : Nat → Int32)  (cz kz : Nat) : ∀ G : ez_F, fx_up (4, xs) 1 G 241 815 [ez_scr, .ref 0, .ref 35, .int 0] [.int (xs 1), .ref 0] (ev_hp ev_I0 ev_J0 ev_R0 []) cz kz = ev_C G 34 [.ref 0, .int (xs 1)] (ev_hp ev_I0 ev_J0 ev_R0 []) fun r h1 c1 k1 => G 241 818 [ez_scr, .ref 0, .ref 35, .int 0] (r.toList ++ []) h1 (cz + c1) (kz + k1) := by
  intro G
  rfl
set_option maxRecDepth 100000 in
set_option maxHeartbeats 100000 in
theorem eo_need_n_r5 (xs : Nat → Int32)  (cz kz : Nat) : ∀ G : ez_F, fx_up (4, xs) 2 G 241 818 [ez_scr, .ref 0, .ref 35, .int 0] [.int (-2)] (ev_hp (ev_sI ev_I0 6 (upd (upd (ev_I0 6) 4 1) 3 1)) ev_J0 (ev_sR ev_R0 0 65) ([.inl (1, .inl (upd (fun _ => 0) 0 0))] : List ez_C)) cz kz = G 241 820 [ez_scr, .ref 0, .ref 35, .int 0] [ez_scr, .ref 35, .int (-2)] (ev_hp (ev_sI ev_I0 6 (upd (upd (ev_I0 6) 4 1) 3 1)) ev_J0 (ev_sR ev_R0 0 65) ([.inl (1, .inl (upd (fun _ => 0) 0 0))] : List ez_C)) cz kz := by
  intro G
  rfl
set_option maxRecDepth 100000 in
set_option maxHeartbeats 100000 in
theorem eo_need_n_r6 (xs : Nat → Int32)  (cz kz : Nat) : ∀ G : ez_F, fx_up (4, xs) 2 G 241 820 [ez_scr, .ref 0, .ref 35, .int 0] [ez_scr, .ref 35, .int (-2)] (ev_hp (ev_sI ev_I0 6 (upd (upd (ev_I0 6) 4 1) 3 1)) ev_J0 (ev_sR ev_R0 0 65) ([.inl (1, .inl (upd (fun _ => 0) 0 0))] : List ez_C)) cz kz = G 241 822 [ez_scr, .ref 0, .ref 35, .int 0] [.int 1, .int 0, ez_scr, .ref 35, .int (-2)] (ev_hp (ev_sI ev_I0 6 (upd (upd (ev_I0 6) 4 1) 3 1)) ev_J0 (ev_sR ev_R0 0 65) ([.inl (1, .inl (upd (fun _ => 0) 0 0))] : List ez_C)) cz kz := by
  intro G
  rfl
set_option maxRecDepth 100000 in
set_option maxHeartbeats 100000 in
theorem eo_need_n_r7 (xs : Nat → Int32)  (cz kz : Nat) : ∀ G : ez_F, fx_up (4, xs) 2 G 241 822 [ez_scr, .ref 0, .ref 35, .int 0] [.int 1, .int 0, ez_scr, .ref 35, .int (-2)] (ev_hp (ev_sI ev_I0 6 (upd (upd (ev_I0 6) 4 1) 3 1)) ev_J0 (ev_sR ev_R0 0 65) ([.inl (1, .inl (upd (fun _ => 0) 0 0))] : List ez_C)) cz kz = G 241 824 [ez_scr, .ref 0, .ref 35, .int 0] [.int (xs 1), .ref 35, .int (-2)] (ev_hp (ev_sI ev_I0 6 (upd (upd (ev_I0 6) 4 1) 3 1)) ev_J0 (ev_sR ev_R0 0 65) ([.inl (1, .inl (upd (fun _ => 0) 0 0))] : List ez_C)) cz kz := by
  intro G
  rfl
set_option maxRecDepth 100000 in
set_option maxHeartbeats 100000 in
theorem eo_need_n_r8 (xs : Nat → Int32)  (cz kz : Nat) : ∀ G : ez_F, fx_up (4, xs) 1 G 241 824 [ez_scr, .ref 0, .ref 35, .int 0] [.int (xs 1), .ref 35, .int (-2)] (ev_hp (ev_sI ev_I0 6 (upd (upd (ev_I0 6) 4 1) 3 1)) ev_J0 (ev_sR ev_R0 0 65) ([.inl (1, .inl (upd (fun _ => 0) 0 0))] : List ez_C)) cz kz = ev_C G 212 [.ref 35, .int (xs 1)] (ev_hp (ev_sI ev_I0 6 (upd (upd (ev_I0 6) 4 1) 3 1)) ev_J0 (ev_sR ev_R0 0 65) ([.inl (1, .inl (upd (fun _ => 0) 0 0))] : List ez_C)) fun r h1 c1 k1 => G 241 827 [ez_scr, .ref 0, .ref 35, .int 0] (r.toList ++ [.int (-2)]) h1 (cz + c1) (kz + k1) := by
  intro G
  rfl
set_option maxRecDepth 100000 in
set_option maxHeartbeats 100000 in
theorem eo_need_n_r9 (xs : Nat → Int32)  (cz kz : Nat) : ∀ G : ez_F, fx_up (4, xs) 2 G 241 827 [ez_scr, .ref 0, .ref 35, .int 0] [.int (-2), .int (-2)] (ev_hp (ev_sI (ev_sI (ev_sI ev_I0 6 (upd (upd (ev_I0 6) 4 1) 3 1)) 35 (upd (ev_I0 35) 14 1)) 41 (upd (upd (upd (ev_I0 41) 0 0) 1 0) 2 0)) ev_J0 (ev_sR ev_R0 0 65) ([.inl (1, .inl (upd (fun _ => 0) 0 0))] : List ez_C)) cz kz = G 241 1078 [ez_scr, .ref 0, .ref 35, .int 4] [] (ev_hp (ev_sI (ev_sI (ev_sI ev_I0 6 (upd (upd (ev_I0 6) 4 1) 3 1)) 35 (upd (ev_I0 35) 14 1)) 41 (upd (upd (upd (ev_I0 41) 0 0) 1 0) 2 0)) ev_J0 (ev_sR ev_R0 0 65) ([.inl (1, .inl (upd (fun _ => 0) 0 0))] : List ez_C)) cz kz := by
  intro G
  rfl
set_option maxRecDepth 100000 in
set_option maxHeartbeats 100000 in
theorem eo_need_n_r10 (xs : Nat → Int32)  (cz kz : Nat) : ∀ G : ez_F, fx_up (4, xs) 2 G 241 1078 [ez_scr, .ref 0, .ref 35, .int 4] [] (ev_hp (ev_sI (ev_sI (ev_sI ev_I0 6 (upd (upd (ev_I0 6) 4 1) 3 1)) 35 (upd (ev_I0 35) 14 1)) 41 (upd (upd (upd (ev_I0 41) 0 0) 1 0) 2 0)) ev_J0 (ev_sR ev_R0 0 65) ([.inl (1, .inl (upd (fun _ => 0) 0 0))] : List ez_C)) cz kz = G 241 19 [ez_scr, .ref 0, .ref 35, .int 4] [.int 4] (ev_hp (ev_sI (ev_sI (ev_sI ev_I0 6 (upd (upd (ev_I0 6) 4 1) 3 1)) 35 (upd (ev_I0 35) 14 1)) 41 (upd (upd (upd (ev_I0 41) 0 0) 1 0) 2 0)) ev_J0 (ev_sR ev_R0 0 65) ([.inl (1, .inl (upd (fun _ => 0) 0 0))] : List ez_C)) cz kz := by
  intro G
  rfl
set_option maxRecDepth 100000 in
set_option maxHeartbeats 100000 in
theorem eo_need_n_r11 (xs : Nat → Int32)  (cz kz : Nat) : ∀ G : ez_F, fx_up (4, xs) 2 G 241 19 [ez_scr, .ref 0, .ref 35, .int 4] [.int 4] (ev_hp (ev_sI (ev_sI (ev_sI ev_I0 6 (upd (upd (ev_I0 6) 4 1) 3 1)) 35 (upd (ev_I0 35) 14 1)) 41 (upd (upd (upd (ev_I0 41) 0 0) 1 0) 2 0)) ev_J0 (ev_sR ev_R0 0 65) ([.inl (1, .inl (upd (fun _ => 0) 0 0))] : List ez_C)) cz kz = G 241 21 [ez_scr, .ref 0, .ref 35, .int 4] [.int 4, .int 4] (ev_hp (ev_sI (ev_sI (ev_sI ev_I0 6 (upd (upd (ev_I0 6) 4 1) 3 1)) 35 (upd (ev_I0 35) 14 1)) 41 (upd (upd (upd (ev_I0 41) 0 0) 1 0) 2 0)) ev_J0 (ev_sR ev_R0 0 65) ([.inl (1, .inl (upd (fun _ => 0) 0 0))] : List ez_C)) cz kz := by
  intro G
  rfl
set_option maxRecDepth 100000 in
set_option maxHeartbeats 100000 in
theorem eo_need_n_r12 (xs : Nat → Int32)  (cz kz : Nat) : ∀ G : ez_F, fx_up (4, xs) 2 G 241 21 [ez_scr, .ref 0, .ref 35, .int 4] [.int 4, .int 4] (ev_hp (ev_sI (ev_sI (ev_sI ev_I0 6 (upd (upd (ev_I0 6) 4 1) 3 1)) 35 (upd (ev_I0 35) 14 1)) 41 (upd (upd (upd (ev_I0 41) 0 0) 1 0) 2 0)) ev_J0 (ev_sR ev_R0 0 65) ([.inl (1, .inl (upd (fun _ => 0) 0 0))] : List ez_C)) cz kz = G 241 23 [ez_scr, .ref 0, .ref 35, .int 4] [.int 0, .int 4] (ev_hp (ev_sI (ev_sI (ev_sI ev_I0 6 (upd (upd (ev_I0 6) 4 1) 3 1)) 35 (upd (ev_I0 35) 14 1)) 41 (upd (upd (upd (ev_I0 41) 0 0) 1 0) 2 0)) ev_J0 (ev_sR ev_R0 0 65) ([.inl (1, .inl (upd (fun _ => 0) 0 0))] : List ez_C)) cz kz := by
  intro G
  rfl
set_option maxRecDepth 100000 in
set_option maxHeartbeats 100000 in
theorem eo_need_n_r13 (xs : Nat → Int32)  (cz kz : Nat) : ∀ G : ez_F, fx_up (4, xs) 2 G 241 23 [ez_scr, .ref 0, .ref 35, .int 4] [.int 0, .int 4] (ev_hp (ev_sI (ev_sI (ev_sI ev_I0 6 (upd (upd (ev_I0 6) 4 1) 3 1)) 35 (upd (ev_I0 35) 14 1)) 41 (upd (upd (upd (ev_I0 41) 0 0) 1 0) 2 0)) ev_J0 (ev_sR ev_R0 0 65) ([.inl (1, .inl (upd (fun _ => 0) 0 0))] : List ez_C)) cz kz = G 241 1082 [ez_scr, .ref 0, .ref 35, .int 4] [.int 1] (ev_hp (ev_sI (ev_sI (ev_sI ev_I0 6 (upd (upd (ev_I0 6) 4 1) 3 1)) 35 (upd (ev_I0 35) 14 1)) 41 (upd (upd (upd (ev_I0 41) 0 0) 1 0) 2 0)) ev_J0 (ev_sR ev_R0 0 65) ([.inl (1, .inl (upd (fun _ => 0) 0 0))] : List ez_C)) cz kz := by
  intro G
  rfl
set_option maxRecDepth 100000 in
set_option maxHeartbeats 100000 in
theorem eo_need_n_r14 (xs : Nat → Int32)  (cz kz : Nat) : ∀ G : ez_F, fx_up (4, xs) 1 G 241 1082 [ez_scr, .ref 0, .ref 35, .int 4] [.int 1] (ev_hp (ev_sI (ev_sI (ev_sI ev_I0 6 (upd (upd (ev_I0 6) 4 1) 3 1)) 35 (upd (ev_I0 35) 14 1)) 41 (upd (upd (upd (ev_I0 41) 0 0) 1 0) 2 0)) ev_J0 (ev_sR ev_R0 0 65) ([.inl (1, .inl (upd (fun _ => 0) 0 0))] : List ez_C)) cz kz = some (some (.int 1), (ev_hp (ev_sI (ev_sI (ev_sI ev_I0 6 (upd (upd (ev_I0 6) 4 1) 3 1)) 35 (upd (ev_I0 35) 14 1)) 41 (upd (upd (upd (ev_I0 41) 0 0) 1 0) 2 0)) ev_J0 (ev_sR ev_R0 0 65) ([.inl (1, .inl (upd (fun _ => 0) 0 0))] : List ez_C)), cz, kz) := by
  intro G
  rfl
theorem eo_need_n (xs : Nat → Int32) (ha : ev_wi (xs 1) 0 0 = 0) : ev_P1 (4, xs) 809 := by
  refine ev_seg (eo_need_n_r1 xs  _ _) ?_
  refine ev_seg (eo_need_n_r2 xs  _ _) ?_
  refine ev_seg (eo_need_n_r3 xs  _ _) ?_
  refine ev_call (eo_need_n_r4 xs  _ _) (ef_need_n (4, xs) ev_I0 ev_J0 ev_R0 [] (xs 1) ha) ?_
  rintro r0 _ _ _ (⟨d107, rfl, rfl, rfl, rfl⟩)
  refine ev_seg (eo_need_n_r5 xs  _ _) ?_
  refine ev_seg (eo_need_n_r6 xs  _ _) ?_
  refine ev_seg (eo_need_n_r7 xs  _ _) ?_
  refine ev_call (eo_need_n_r8 xs  _ _) (eh_need_n (4, xs) (ev_sI ev_I0 6 (upd (upd (ev_I0 6) 4 1) 3 1)) ev_J0 (ev_sR ev_R0 0 65) ([.inl (1, .inl (upd (fun _ => 0) 0 0))] : List ez_C) (xs 1) ha) ?_
  rintro r0 _ _ _ (⟨d108, rfl, rfl, rfl, rfl⟩)
  refine ev_seg (eo_need_n_r9 xs  _ _) ?_
  refine ev_seg (eo_need_n_r10 xs  _ _) ?_
  refine ev_seg (eo_need_n_r11 xs  _ _) ?_
  refine ev_seg (eo_need_n_r12 xs  _ _) ?_
  refine ev_seg (eo_need_n_r13 xs  _ _) ?_
  refine ev_ret (eo_need_n_r14 xs  _ _) ?_
  exact ⟨rfl, by omega, by omega⟩
set_option maxRecDepth 100000 in
set_option maxHeartbeats 100000 in
theorem sp_z_105_sizeOf_r1 (X : ez_X)  (cz kz : Nat) : ∀ G : ez_F, fx_up X 6 G 94 0 [.ref 3, .int 0] [] (ev_hp ev_I0 ev_J0 ev_R0 []) cz kz = some (some (.int 1), (ev_hp ev_I0 ev_J0 ev_R0 []), cz, kz) := by
  intro G
  rfl
theorem sp_z_105_sizeOf (X : ez_X) : ev_W X 94 0 (ez_lay [.ref 3, .int 0]) [] (ev_hp ev_I0 ev_J0 ev_R0 []) 0 0 (fun r h1 c1 k1 => r = (some (.int 1)) ∧ h1 = (ev_hp ev_I0 ev_J0 ev_R0 []) ∧ c1 = 0 ∧ k1 = 0) := by
  refine ev_ret (sp_z_105_sizeOf_r1 X  _ _) ?_
  exact ⟨rfl, rfl, rfl, rfl⟩
set_option maxRecDepth 100000 in
set_option maxHeartbeats 100000 in
theorem sp_z_106_sizeOf_r1 (X : ez_X)  (cz kz : Nat) : ∀ G : ez_F, fx_up X 6 G 94 0 [.ref 3, .int 1] [] (ev_hp ev_I0 ev_J0 ev_R0 []) cz kz = some (some (.int 1), (ev_hp ev_I0 ev_J0 ev_R0 []), cz, kz) := by
  intro G
  rfl
theorem sp_z_106_sizeOf (X : ez_X) : ev_W X 94 0 (ez_lay [.ref 3, .int 1]) [] (ev_hp ev_I0 ev_J0 ev_R0 []) 0 0 (fun r h1 c1 k1 => r = (some (.int 1)) ∧ h1 = (ev_hp ev_I0 ev_J0 ev_R0 []) ∧ c1 = 0 ∧ k1 = 0) := by
  refine ev_ret (sp_z_106_sizeOf_r1 X  _ _) ?_
  exact ⟨rfl, rfl, rfl, rfl⟩
set_option maxRecDepth 100000 in
set_option maxHeartbeats 100000 in
theorem sp_z_107_sizeOf_r1 (X : ez_X)  (cz kz : Nat) : ∀ G : ez_F, fx_up X 6 G 94 0 [.ref 3, .int 2] [] (ev_hp ev_I0 ev_J0 ev_R0 []) cz kz = some (some (.int 1), (ev_hp ev_I0 ev_J0 ev_R0 []), cz, kz) := by
  intro G
  rfl
theorem sp_z_107_sizeOf (X : ez_X) : ev_W X 94 0 (ez_lay [.ref 3, .int 2]) [] (ev_hp ev_I0 ev_J0 ev_R0 []) 0 0 (fun r h1 c1 k1 => r = (some (.int 1)) ∧ h1 = (ev_hp ev_I0 ev_J0 ev_R0 []) ∧ c1 = 0 ∧ k1 = 0) := by
  refine ev_ret (sp_z_107_sizeOf_r1 X  _ _) ?_
  exact ⟨rfl, rfl, rfl, rfl⟩
set_option maxRecDepth 100000 in
set_option maxHeartbeats 100000 in
theorem sp_z_104_combinations_r1 (X : ez_X)  (cz kz : Nat) : ∀ G : ez_F, fx_up X 3 G 89 0 [.ref 3] [] (ev_hp ev_I0 ev_J0 ev_R0 []) cz kz = ev_C G 94 [.ref 3, .int 0] (ev_hp ev_I0 ev_J0 ev_R0 []) fun r h1 c1 k1 => G 89 5 [.ref 3] (r.toList ++ []) h1 (cz + c1) (kz + k1) := by
  intro G
  rfl
set_option maxRecDepth 100000 in
set_option maxHeartbeats 100000 in
theorem sp_z_104_combinations_r2 (X : ez_X)  (cz kz : Nat) : ∀ G : ez_F, fx_up X 3 G 89 5 [.ref 3] [.int 1] (ev_hp ev_I0 ev_J0 ev_R0 []) cz kz = ev_C G 94 [.ref 3, .int 1] (ev_hp ev_I0 ev_J0 ev_R0 []) fun r h1 c1 k1 => G 89 10 [.ref 3] (r.toList ++ [.int 1]) h1 (cz + c1) (kz + k1) := by
  intro G
  rfl
set_option maxRecDepth 100000 in
set_option maxHeartbeats 100000 in
theorem sp_z_104_combinations_r3 (X : ez_X)  (cz kz : Nat) : ∀ G : ez_F, fx_up X 4 G 89 10 [.ref 3] [.int 1, .int 1] (ev_hp ev_I0 ev_J0 ev_R0 []) cz kz = ev_C G 94 [.ref 3, .int 2] (ev_hp ev_I0 ev_J0 ev_R0 []) fun r h1 c1 k1 => G 89 16 [.ref 3] (r.toList ++ [.int 1]) h1 (cz + c1) (kz + k1) := by
  intro G
  rfl
set_option maxRecDepth 100000 in
set_option maxHeartbeats 100000 in
theorem sp_z_104_combinations_r4 (X : ez_X)  (cz kz : Nat) : ∀ G : ez_F, fx_up X 2 G 89 16 [.ref 3] [.int 1, .int 1] (ev_hp ev_I0 ev_J0 ev_R0 []) cz kz = some (some (.int 1), (ev_hp ev_I0 ev_J0 ev_R0 []), cz, kz) := by
  intro G
  rfl
theorem sp_z_104_combinations (X : ez_X) : ev_W X 89 0 (ez_lay [.ref 3]) [] (ev_hp ev_I0 ev_J0 ev_R0 []) 0 0 (fun r h1 c1 k1 => r = (some (.int 1)) ∧ h1 = (ev_hp ev_I0 ev_J0 ev_R0 []) ∧ c1 = 0 ∧ k1 = 0) := by
  refine ev_call (sp_z_104_combinations_r1 X  _ _) (sp_z_105_sizeOf X) ?_
  rintro _ _ _ _ ⟨rfl, rfl, rfl, rfl⟩
  refine ev_call (sp_z_104_combinations_r2 X  _ _) (sp_z_106_sizeOf X) ?_
  rintro _ _ _ _ ⟨rfl, rfl, rfl, rfl⟩
  refine ev_call (sp_z_104_combinations_r3 X  _ _) (sp_z_107_sizeOf X) ?_
  rintro _ _ _ _ ⟨rfl, rfl, rfl, rfl⟩
  refine ev_ret (sp_z_104_combinations_r4 X  _ _) ?_
  exact ⟨rfl, rfl, rfl, rfl⟩
set_option maxRecDepth 100000 in
set_option maxHeartbeats 100000 in
theorem sp_z_110_sizeOf_r1 (X : ez_X)  (cz kz : Nat) : ∀ G : ez_F, fx_up X 6 G 94 0 [.ref 3, .int 0] [] (ev_hp ev_I0 ev_J0 ev_R0 []) cz kz = some (some (.int 1), (ev_hp ev_I0 ev_J0 ev_R0 []), cz, kz) := by
  intro G
  rfl
theorem sp_z_110_sizeOf (X : ez_X) : ev_W X 94 0 (ez_lay [.ref 3, .int 0]) [] (ev_hp ev_I0 ev_J0 ev_R0 []) 0 0 (fun r h1 c1 k1 => r = (some (.int 1)) ∧ h1 = (ev_hp ev_I0 ev_J0 ev_R0 []) ∧ c1 = 0 ∧ k1 = 0) := by
  refine ev_ret (sp_z_110_sizeOf_r1 X  _ _) ?_
  exact ⟨rfl, rfl, rfl, rfl⟩
set_option maxRecDepth 100000 in
set_option maxHeartbeats 100000 in
theorem sp_z_111_sizeOf_r1 (X : ez_X)  (cz kz : Nat) : ∀ G : ez_F, fx_up X 6 G 94 0 [.ref 3, .int 1] [] (ev_hp ev_I0 ev_J0 ev_R0 []) cz kz = some (some (.int 1), (ev_hp ev_I0 ev_J0 ev_R0 []), cz, kz) := by
  intro G
  rfl
theorem sp_z_111_sizeOf (X : ez_X) : ev_W X 94 0 (ez_lay [.ref 3, .int 1]) [] (ev_hp ev_I0 ev_J0 ev_R0 []) 0 0 (fun r h1 c1 k1 => r = (some (.int 1)) ∧ h1 = (ev_hp ev_I0 ev_J0 ev_R0 []) ∧ c1 = 0 ∧ k1 = 0) := by
  refine ev_ret (sp_z_111_sizeOf_r1 X  _ _) ?_
  exact ⟨rfl, rfl, rfl, rfl⟩
set_option maxRecDepth 100000 in
set_option maxHeartbeats 100000 in
theorem sp_z_112_sizeOf_r1 (X : ez_X)  (cz kz : Nat) : ∀ G : ez_F, fx_up X 6 G 94 0 [.ref 3, .int 2] [] (ev_hp ev_I0 ev_J0 ev_R0 []) cz kz = some (some (.int 1), (ev_hp ev_I0 ev_J0 ev_R0 []), cz, kz) := by
  intro G
  rfl
theorem sp_z_112_sizeOf (X : ez_X) : ev_W X 94 0 (ez_lay [.ref 3, .int 2]) [] (ev_hp ev_I0 ev_J0 ev_R0 []) 0 0 (fun r h1 c1 k1 => r = (some (.int 1)) ∧ h1 = (ev_hp ev_I0 ev_J0 ev_R0 []) ∧ c1 = 0 ∧ k1 = 0) := by
  refine ev_ret (sp_z_112_sizeOf_r1 X  _ _) ?_
  exact ⟨rfl, rfl, rfl, rfl⟩
set_option maxRecDepth 100000 in
set_option maxHeartbeats 100000 in
theorem sp_z_109_combinations_r1 (X : ez_X)  (cz kz : Nat) : ∀ G : ez_F, fx_up X 3 G 89 0 [.ref 3] [] (ev_hp ev_I0 ev_J0 ev_R0 []) cz kz = ev_C G 94 [.ref 3, .int 0] (ev_hp ev_I0 ev_J0 ev_R0 []) fun r h1 c1 k1 => G 89 5 [.ref 3] (r.toList ++ []) h1 (cz + c1) (kz + k1) := by
  intro G
  rfl
set_option maxRecDepth 100000 in
set_option maxHeartbeats 100000 in
theorem sp_z_109_combinations_r2 (X : ez_X)  (cz kz : Nat) : ∀ G : ez_F, fx_up X 3 G 89 5 [.ref 3] [.int 1] (ev_hp ev_I0 ev_J0 ev_R0 []) cz kz = ev_C G 94 [.ref 3, .int 1] (ev_hp ev_I0 ev_J0 ev_R0 []) fun r h1 c1 k1 => G 89 10 [.ref 3] (r.toList ++ [.int 1]) h1 (cz + c1) (kz + k1) := by
  intro G
  rfl
set_option maxRecDepth 100000 in
set_option maxHeartbeats 100000 in
theorem sp_z_109_combinations_r3 (X : ez_X)  (cz kz : Nat) : ∀ G : ez_F, fx_up X 4 G 89 10 [.ref 3] [.int 1, .int 1] (ev_hp ev_I0 ev_J0 ev_R0 []) cz kz = ev_C G 94 [.ref 3, .int 2] (ev_hp ev_I0 ev_J0 ev_R0 []) fun r h1 c1 k1 => G 89 16 [.ref 3] (r.toList ++ [.int 1]) h1 (cz + c1) (kz + k1) := by
  intro G
  rfl
set_option maxRecDepth 100000 in
set_option maxHeartbeats 100000 in
theorem sp_z_109_combinations_r4 (X : ez_X)  (cz kz : Nat) : ∀ G : ez_F, fx_up X 2 G 89 16 [.ref 3] [.int 1, .int 1] (ev_hp ev_I0 ev_J0 ev_R0 []) cz kz = some (some (.int 1), (ev_hp ev_I0 ev_J0 ev_R0 []), cz, kz) := by
  intro G
  rfl
theorem sp_z_109_combinations (X : ez_X) : ev_W X 89 0 (ez_lay [.ref 3]) [] (ev_hp ev_I0 ev_J0 ev_R0 []) 0 0 (fun r h1 c1 k1 => r = (some (.int 1)) ∧ h1 = (ev_hp ev_I0 ev_J0 ev_R0 []) ∧ c1 = 0 ∧ k1 = 0) := by
  refine ev_call (sp_z_109_combinations_r1 X  _ _) (sp_z_110_sizeOf X) ?_
  rintro _ _ _ _ ⟨rfl, rfl, rfl, rfl⟩
  refine ev_call (sp_z_109_combinations_r2 X  _ _) (sp_z_111_sizeOf X) ?_
  rintro _ _ _ _ ⟨rfl, rfl, rfl, rfl⟩
  refine ev_call (sp_z_109_combinations_r3 X  _ _) (sp_z_112_sizeOf X) ?_
  rintro _ _ _ _ ⟨rfl, rfl, rfl, rfl⟩
  refine ev_ret (sp_z_109_combinations_r4 X  _ _) ?_
  exact ⟨rfl, rfl, rfl, rfl⟩
set_option maxRecDepth 100000 in
set_option maxHeartbeats 100000 in
theorem sp_z_113_grown_r1 (X : ez_X)  (cz kz : Nat) : ∀ G : ez_F, fx_up X 10 G 19 0 [.int 0, .int 1] [] (ev_hp (ev_sI ev_I0 6 (upd (upd (ev_I0 6) 4 1) 3 0)) ev_J0 ev_R0 []) cz kz = some (some (.int 1), (ev_hp (ev_sI ev_I0 6 (upd (upd (ev_I0 6) 4 1) 3 0)) ev_J0 ev_R0 []), cz, kz) := by
  intro G
  rfl
theorem sp_z_113_grown (X : ez_X) : ev_W X 19 0 (ez_lay [.int 0, .int 1]) [] (ev_hp (ev_sI ev_I0 6 (upd (upd (ev_I0 6) 4 1) 3 0)) ev_J0 ev_R0 []) 0 0 (fun r h1 c1 k1 => r = (some (.int 1)) ∧ h1 = (ev_hp (ev_sI ev_I0 6 (upd (upd (ev_I0 6) 4 1) 3 0)) ev_J0 ev_R0 []) ∧ c1 = 0 ∧ k1 = 0) := by
  refine ev_ret (sp_z_113_grown_r1 X  _ _) ?_
  exact ⟨rfl, rfl, rfl, rfl⟩
set_option maxRecDepth 100000 in
set_option maxHeartbeats 100000 in
theorem sp_z_114_sizeOf_r1 (X : ez_X)  (cz kz : Nat) : ∀ G : ez_F, fx_up X 6 G 94 0 [.ref 3, .int 0] [] (ev_hp (ev_sI ev_I0 6 (upd (upd (ev_I0 6) 4 1) 3 0)) ev_J0 (ev_sR ev_R0 0 65) ([.inl (1, .inl (fun _ => 0))] : List ez_C)) cz kz = some (some (.int 1), (ev_hp (ev_sI ev_I0 6 (upd (upd (ev_I0 6) 4 1) 3 0)) ev_J0 (ev_sR ev_R0 0 65) ([.inl (1, .inl (fun _ => 0))] : List ez_C)), cz, kz) := by
  intro G
  rfl
theorem sp_z_114_sizeOf (X : ez_X) : ev_W X 94 0 (ez_lay [.ref 3, .int 0]) [] (ev_hp (ev_sI ev_I0 6 (upd (upd (ev_I0 6) 4 1) 3 0)) ev_J0 (ev_sR ev_R0 0 65) ([.inl (1, .inl (fun _ => 0))] : List ez_C)) 0 0 (fun r h1 c1 k1 => r = (some (.int 1)) ∧ h1 = (ev_hp (ev_sI ev_I0 6 (upd (upd (ev_I0 6) 4 1) 3 0)) ev_J0 (ev_sR ev_R0 0 65) ([.inl (1, .inl (fun _ => 0))] : List ez_C)) ∧ c1 = 0 ∧ k1 = 0) := by
  refine ev_ret (sp_z_114_sizeOf_r1 X  _ _) ?_
  exact ⟨rfl, rfl, rfl, rfl⟩
set_option maxRecDepth 100000 in
set_option maxHeartbeats 100000 in
theorem sp_z_115_cellsAt_r1 (X : ez_X)  (cz kz : Nat) : ∀ G : ez_F, fx_up X 12 G 86 0 [.ref 3, .int 0, .int 0] [] (ev_hp (ev_sI ev_I0 6 (upd (upd (ev_I0 6) 4 1) 3 0)) ev_J0 (ev_sR ev_R0 0 65) ([.inl (1, .inl (fun _ => 0))] : List ez_C)) cz kz = some (some (.long 0), (ev_hp (ev_sI ev_I0 6 (upd (upd (ev_I0 6) 4 1) 3 0)) ev_J0 (ev_sR ev_R0 0 65) ([.inl (1, .inl (fun _ => 0))] : List ez_C)), cz, kz) := by
  intro G
  rfl
theorem sp_z_115_cellsAt (X : ez_X) : ev_W X 86 0 (ez_lay [.ref 3, .int 0, .int 0]) [] (ev_hp (ev_sI ev_I0 6 (upd (upd (ev_I0 6) 4 1) 3 0)) ev_J0 (ev_sR ev_R0 0 65) ([.inl (1, .inl (fun _ => 0))] : List ez_C)) 0 0 (fun r h1 c1 k1 => r = (some (.long 0)) ∧ h1 = (ev_hp (ev_sI ev_I0 6 (upd (upd (ev_I0 6) 4 1) 3 0)) ev_J0 (ev_sR ev_R0 0 65) ([.inl (1, .inl (fun _ => 0))] : List ez_C)) ∧ c1 = 0 ∧ k1 = 0) := by
  refine ev_ret (sp_z_115_cellsAt_r1 X  _ _) ?_
  exact ⟨rfl, rfl, rfl, rfl⟩
set_option maxRecDepth 100000 in
set_option maxHeartbeats 100000 in
theorem sp_z_117_at_r1 (X : ez_X)  (cz kz : Nat) : ∀ G : ez_F, fx_up X 11 G 3 0 [.ref 2, .int 0] [] (ev_hp (ev_sI ev_I0 6 (upd (upd (ev_I0 6) 4 1) 3 0)) ev_J0 (ev_sR ev_R0 0 65) ([.inl (1, .inl (fun _ => 0))] : List ez_C)) cz kz = some (some (.int 0), (ev_hp (ev_sI ev_I0 6 (upd (upd (ev_I0 6) 4 1) 3 0)) ev_J0 (ev_sR ev_R0 0 65) ([.inl (1, .inl (fun _ => 0))] : List ez_C)), cz, kz) := by
  intro G
  rfl
theorem sp_z_117_at (X : ez_X) : ev_W X 3 0 (ez_lay [.ref 2, .int 0]) [] (ev_hp (ev_sI ev_I0 6 (upd (upd (ev_I0 6) 4 1) 3 0)) ev_J0 (ev_sR ev_R0 0 65) ([.inl (1, .inl (fun _ => 0))] : List ez_C)) 0 0 (fun r h1 c1 k1 => r = (some (.int 0)) ∧ h1 = (ev_hp (ev_sI ev_I0 6 (upd (upd (ev_I0 6) 4 1) 3 0)) ev_J0 (ev_sR ev_R0 0 65) ([.inl (1, .inl (fun _ => 0))] : List ez_C)) ∧ c1 = 0 ∧ k1 = 0) := by
  refine ev_ret (sp_z_117_at_r1 X  _ _) ?_
  exact ⟨rfl, rfl, rfl, rfl⟩
set_option maxRecDepth 100000 in
set_option maxHeartbeats 100000 in
theorem sp_z_116_around_r1 (X : ez_X)  (cz kz : Nat) : ∀ G : ez_F, fx_up X 4 G 144 0 [.ref 1, .long 0, ez_fill] [] (ev_hp (ev_sI ev_I0 6 (upd (upd (ev_I0 6) 4 1) 3 0)) ev_J0 (ev_sR ev_R0 0 65) ([.inl (1, .inl (fun _ => 0))] : List ez_C)) cz kz = ev_C G 3 [.ref 2, .int 0] (ev_hp (ev_sI ev_I0 6 (upd (upd (ev_I0 6) 4 1) 3 0)) ev_J0 (ev_sR ev_R0 0 65) ([.inl (1, .inl (fun _ => 0))] : List ez_C)) fun r h1 c1 k1 => G 144 8 [.ref 1, .long 0, ez_fill] (r.toList ++ []) h1 (cz + c1) (kz + k1) := by
  intro G
  rfl
set_option maxRecDepth 100000 in
set_option maxHeartbeats 100000 in
theorem sp_z_116_around_r2 (X : ez_X)  (cz kz : Nat) : ∀ G : ez_F, fx_up X 5 G 144 8 [.ref 1, .long 0, ez_fill] [.int 0] (ev_hp (ev_sI ev_I0 6 (upd (upd (ev_I0 6) 4 1) 3 0)) ev_J0 (ev_sR ev_R0 0 65) ([.inl (1, .inl (fun _ => 0))] : List ez_C)) cz kz = some (some (.long 0), (ev_hp (ev_sI ev_I0 6 (upd (upd (ev_I0 6) 4 1) 3 0)) ev_J0 (ev_sR ev_R0 0 65) ([.inl (1, .inl (fun _ => 0))] : List ez_C)), cz, kz) := by
  intro G
  rfl
theorem sp_z_116_around (X : ez_X) : ev_W X 144 0 (ez_lay [.ref 1, .long 0]) [] (ev_hp (ev_sI ev_I0 6 (upd (upd (ev_I0 6) 4 1) 3 0)) ev_J0 (ev_sR ev_R0 0 65) ([.inl (1, .inl (fun _ => 0))] : List ez_C)) 0 0 (fun r h1 c1 k1 => r = (some (.long 0)) ∧ h1 = (ev_hp (ev_sI ev_I0 6 (upd (upd (ev_I0 6) 4 1) 3 0)) ev_J0 (ev_sR ev_R0 0 65) ([.inl (1, .inl (fun _ => 0))] : List ez_C)) ∧ c1 = 0 ∧ k1 = 0) := by
  refine ev_call (sp_z_116_around_r1 X  _ _) (sp_z_117_at X) ?_
  rintro _ _ _ _ ⟨rfl, rfl, rfl, rfl⟩
  refine ev_ret (sp_z_116_around_r2 X  _ _) ?_
  exact ⟨rfl, rfl, rfl, rfl⟩
set_option maxRecDepth 100000 in
set_option maxHeartbeats 100000 in
theorem sp_z_119_sizeOf_r1 (X : ez_X)  (cz kz : Nat) : ∀ G : ez_F, fx_up X 6 G 94 0 [.ref 3, .int 1] [] (ev_hp (ev_sI ev_I0 6 (upd (upd (ev_I0 6) 4 1) 3 0)) ev_J0 (ev_sR ev_R0 0 65) ([.inl (1, .inl (fun _ => 0))] : List ez_C)) cz kz = some (some (.int 1), (ev_hp (ev_sI ev_I0 6 (upd (upd (ev_I0 6) 4 1) 3 0)) ev_J0 (ev_sR ev_R0 0 65) ([.inl (1, .inl (fun _ => 0))] : List ez_C)), cz, kz) := by
  intro G
  rfl
theorem sp_z_119_sizeOf (X : ez_X) : ev_W X 94 0 (ez_lay [.ref 3, .int 1]) [] (ev_hp (ev_sI ev_I0 6 (upd (upd (ev_I0 6) 4 1) 3 0)) ev_J0 (ev_sR ev_R0 0 65) ([.inl (1, .inl (fun _ => 0))] : List ez_C)) 0 0 (fun r h1 c1 k1 => r = (some (.int 1)) ∧ h1 = (ev_hp (ev_sI ev_I0 6 (upd (upd (ev_I0 6) 4 1) 3 0)) ev_J0 (ev_sR ev_R0 0 65) ([.inl (1, .inl (fun _ => 0))] : List ez_C)) ∧ c1 = 0 ∧ k1 = 0) := by
  refine ev_ret (sp_z_119_sizeOf_r1 X  _ _) ?_
  exact ⟨rfl, rfl, rfl, rfl⟩
set_option maxRecDepth 100000 in
set_option maxHeartbeats 100000 in
theorem sp_z_120_cellsAt_r1 (X : ez_X)  (cz kz : Nat) : ∀ G : ez_F, fx_up X 12 G 86 0 [.ref 3, .int 1, .int 0] [] (ev_hp (ev_sI ev_I0 6 (upd (upd (ev_I0 6) 4 1) 3 0)) ev_J0 (ev_sR ev_R0 0 65) ([.inl (1, .inl (fun _ => 0))] : List ez_C)) cz kz = some (some (.long 0), (ev_hp (ev_sI ev_I0 6 (upd (upd (ev_I0 6) 4 1) 3 0)) ev_J0 (ev_sR ev_R0 0 65) ([.inl (1, .inl (fun _ => 0))] : List ez_C)), cz, kz) := by
  intro G
  rfl
theorem sp_z_120_cellsAt (X : ez_X) : ev_W X 86 0 (ez_lay [.ref 3, .int 1, .int 0]) [] (ev_hp (ev_sI ev_I0 6 (upd (upd (ev_I0 6) 4 1) 3 0)) ev_J0 (ev_sR ev_R0 0 65) ([.inl (1, .inl (fun _ => 0))] : List ez_C)) 0 0 (fun r h1 c1 k1 => r = (some (.long 0)) ∧ h1 = (ev_hp (ev_sI ev_I0 6 (upd (upd (ev_I0 6) 4 1) 3 0)) ev_J0 (ev_sR ev_R0 0 65) ([.inl (1, .inl (fun _ => 0))] : List ez_C)) ∧ c1 = 0 ∧ k1 = 0) := by
  refine ev_ret (sp_z_120_cellsAt_r1 X  _ _) ?_
  exact ⟨rfl, rfl, rfl, rfl⟩
set_option maxRecDepth 100000 in
set_option maxHeartbeats 100000 in
theorem sp_z_122_at_r1 (X : ez_X)  (cz kz : Nat) : ∀ G : ez_F, fx_up X 11 G 3 0 [.ref 2, .int 0] [] (ev_hp (ev_sI ev_I0 6 (upd (upd (ev_I0 6) 4 1) 3 0)) ev_J0 (ev_sR ev_R0 0 65) ([.inl (1, .inl (fun _ => 0))] : List ez_C)) cz kz = some (some (.int 0), (ev_hp (ev_sI ev_I0 6 (upd (upd (ev_I0 6) 4 1) 3 0)) ev_J0 (ev_sR ev_R0 0 65) ([.inl (1, .inl (fun _ => 0))] : List ez_C)), cz, kz) := by
  intro G
  rfl
theorem sp_z_122_at (X : ez_X) : ev_W X 3 0 (ez_lay [.ref 2, .int 0]) [] (ev_hp (ev_sI ev_I0 6 (upd (upd (ev_I0 6) 4 1) 3 0)) ev_J0 (ev_sR ev_R0 0 65) ([.inl (1, .inl (fun _ => 0))] : List ez_C)) 0 0 (fun r h1 c1 k1 => r = (some (.int 0)) ∧ h1 = (ev_hp (ev_sI ev_I0 6 (upd (upd (ev_I0 6) 4 1) 3 0)) ev_J0 (ev_sR ev_R0 0 65) ([.inl (1, .inl (fun _ => 0))] : List ez_C)) ∧ c1 = 0 ∧ k1 = 0) := by
  refine ev_ret (sp_z_122_at_r1 X  _ _) ?_
  exact ⟨rfl, rfl, rfl, rfl⟩
set_option maxRecDepth 100000 in
set_option maxHeartbeats 100000 in
theorem sp_z_121_around_r1 (X : ez_X)  (cz kz : Nat) : ∀ G : ez_F, fx_up X 4 G 144 0 [.ref 1, .long 0, ez_fill] [] (ev_hp (ev_sI ev_I0 6 (upd (upd (ev_I0 6) 4 1) 3 0)) ev_J0 (ev_sR ev_R0 0 65) ([.inl (1, .inl (fun _ => 0))] : List ez_C)) cz kz = ev_C G 3 [.ref 2, .int 0] (ev_hp (ev_sI ev_I0 6 (upd (upd (ev_I0 6) 4 1) 3 0)) ev_J0 (ev_sR ev_R0 0 65) ([.inl (1, .inl (fun _ => 0))] : List ez_C)) fun r h1 c1 k1 => G 144 8 [.ref 1, .long 0, ez_fill] (r.toList ++ []) h1 (cz + c1) (kz + k1) := by
  intro G
  rfl
set_option maxRecDepth 100000 in
set_option maxHeartbeats 100000 in
theorem sp_z_121_around_r2 (X : ez_X)  (cz kz : Nat) : ∀ G : ez_F, fx_up X 5 G 144 8 [.ref 1, .long 0, ez_fill] [.int 0] (ev_hp (ev_sI ev_I0 6 (upd (upd (ev_I0 6) 4 1) 3 0)) ev_J0 (ev_sR ev_R0 0 65) ([.inl (1, .inl (fun _ => 0))] : List ez_C)) cz kz = some (some (.long 0), (ev_hp (ev_sI ev_I0 6 (upd (upd (ev_I0 6) 4 1) 3 0)) ev_J0 (ev_sR ev_R0 0 65) ([.inl (1, .inl (fun _ => 0))] : List ez_C)), cz, kz) := by
  intro G
  rfl
theorem sp_z_121_around (X : ez_X) : ev_W X 144 0 (ez_lay [.ref 1, .long 0]) [] (ev_hp (ev_sI ev_I0 6 (upd (upd (ev_I0 6) 4 1) 3 0)) ev_J0 (ev_sR ev_R0 0 65) ([.inl (1, .inl (fun _ => 0))] : List ez_C)) 0 0 (fun r h1 c1 k1 => r = (some (.long 0)) ∧ h1 = (ev_hp (ev_sI ev_I0 6 (upd (upd (ev_I0 6) 4 1) 3 0)) ev_J0 (ev_sR ev_R0 0 65) ([.inl (1, .inl (fun _ => 0))] : List ez_C)) ∧ c1 = 0 ∧ k1 = 0) := by
  refine ev_call (sp_z_121_around_r1 X  _ _) (sp_z_122_at X) ?_
  rintro _ _ _ _ ⟨rfl, rfl, rfl, rfl⟩
  refine ev_ret (sp_z_121_around_r2 X  _ _) ?_
  exact ⟨rfl, rfl, rfl, rfl⟩
set_option maxRecDepth 100000 in
set_option maxHeartbeats 100000 in
theorem sp_z_124_sizeOf_r1 (X : ez_X)  (cz kz : Nat) : ∀ G : ez_F, fx_up X 6 G 94 0 [.ref 3, .int 2] [] (ev_hp (ev_sI ev_I0 6 (upd (upd (ev_I0 6) 4 1) 3 0)) ev_J0 (ev_sR ev_R0 0 65) ([.inl (1, .inl (fun _ => 0))] : List ez_C)) cz kz = some (some (.int 1), (ev_hp (ev_sI ev_I0 6 (upd (upd (ev_I0 6) 4 1) 3 0)) ev_J0 (ev_sR ev_R0 0 65) ([.inl (1, .inl (fun _ => 0))] : List ez_C)), cz, kz) := by
  intro G
  rfl
theorem sp_z_124_sizeOf (X : ez_X) : ev_W X 94 0 (ez_lay [.ref 3, .int 2]) [] (ev_hp (ev_sI ev_I0 6 (upd (upd (ev_I0 6) 4 1) 3 0)) ev_J0 (ev_sR ev_R0 0 65) ([.inl (1, .inl (fun _ => 0))] : List ez_C)) 0 0 (fun r h1 c1 k1 => r = (some (.int 1)) ∧ h1 = (ev_hp (ev_sI ev_I0 6 (upd (upd (ev_I0 6) 4 1) 3 0)) ev_J0 (ev_sR ev_R0 0 65) ([.inl (1, .inl (fun _ => 0))] : List ez_C)) ∧ c1 = 0 ∧ k1 = 0) := by
  refine ev_ret (sp_z_124_sizeOf_r1 X  _ _) ?_
  exact ⟨rfl, rfl, rfl, rfl⟩
set_option maxRecDepth 100000 in
set_option maxHeartbeats 100000 in
theorem sp_z_125_cellsAt_r1 (X : ez_X)  (cz kz : Nat) : ∀ G : ez_F, fx_up X 12 G 86 0 [.ref 3, .int 2, .int 0] [] (ev_hp (ev_sI ev_I0 6 (upd (upd (ev_I0 6) 4 1) 3 0)) ev_J0 (ev_sR ev_R0 0 65) ([.inl (1, .inl (fun _ => 0))] : List ez_C)) cz kz = some (some (.long 0), (ev_hp (ev_sI ev_I0 6 (upd (upd (ev_I0 6) 4 1) 3 0)) ev_J0 (ev_sR ev_R0 0 65) ([.inl (1, .inl (fun _ => 0))] : List ez_C)), cz, kz) := by
  intro G
  rfl
theorem sp_z_125_cellsAt (X : ez_X) : ev_W X 86 0 (ez_lay [.ref 3, .int 2, .int 0]) [] (ev_hp (ev_sI ev_I0 6 (upd (upd (ev_I0 6) 4 1) 3 0)) ev_J0 (ev_sR ev_R0 0 65) ([.inl (1, .inl (fun _ => 0))] : List ez_C)) 0 0 (fun r h1 c1 k1 => r = (some (.long 0)) ∧ h1 = (ev_hp (ev_sI ev_I0 6 (upd (upd (ev_I0 6) 4 1) 3 0)) ev_J0 (ev_sR ev_R0 0 65) ([.inl (1, .inl (fun _ => 0))] : List ez_C)) ∧ c1 = 0 ∧ k1 = 0) := by
  refine ev_ret (sp_z_125_cellsAt_r1 X  _ _) ?_
  exact ⟨rfl, rfl, rfl, rfl⟩
set_option maxRecDepth 100000 in
set_option maxHeartbeats 100000 in
theorem sp_z_126_put_r1 (X : ez_X)  (cz kz : Nat) : ∀ G : ez_F, fx_up X 11 G 38 0 [.ref 65, .int 0, .int 0] [] (ev_hp (ev_sI ev_I0 6 (upd (upd (ev_I0 6) 4 1) 3 0)) ev_J0 (ev_sR ev_R0 0 65) ([.inl (1, .inl (fun _ => 0))] : List ez_C)) cz kz = some (none, (ev_hp (ev_sI ev_I0 6 (upd (upd (ev_I0 6) 4 1) 3 0)) ev_J0 (ev_sR ev_R0 0 65) ([.inl (1, .inl (upd (fun _ => 0) 0 0))] : List ez_C)), cz, kz) := by
  intro G
  rfl
theorem sp_z_126_put (X : ez_X) : ev_W X 38 0 (ez_lay [.ref 65, .int 0, .int 0]) [] (ev_hp (ev_sI ev_I0 6 (upd (upd (ev_I0 6) 4 1) 3 0)) ev_J0 (ev_sR ev_R0 0 65) ([.inl (1, .inl (fun _ => 0))] : List ez_C)) 0 0 (fun r h1 c1 k1 => r = none ∧ h1 = (ev_hp (ev_sI ev_I0 6 (upd (upd (ev_I0 6) 4 1) 3 0)) ev_J0 (ev_sR ev_R0 0 65) ([.inl (1, .inl (upd (fun _ => 0) 0 0))] : List ez_C)) ∧ c1 = 0 ∧ k1 = 0) := by
  refine ev_ret (sp_z_126_put_r1 X  _ _) ?_
  exact ⟨rfl, rfl, rfl, rfl⟩
set_option maxRecDepth 100000 in
set_option maxHeartbeats 100000 in
theorem sp_z_123_searchThird_r1 (X : ez_X)  (cz kz : Nat) : ∀ G : ez_F, fx_up X 4 G 142 0 [.ref 6, .int 0, .long 0, ez_fill] [] (ev_hp (ev_sI ev_I0 6 (upd (upd (ev_I0 6) 4 1) 3 0)) ev_J0 (ev_sR ev_R0 0 65) ([.inl (1, .inl (fun _ => 0))] : List ez_C)) cz kz = ev_C G 94 [.ref 3, .int 2] (ev_hp (ev_sI ev_I0 6 (upd (upd (ev_I0 6) 4 1) 3 0)) ev_J0 (ev_sR ev_R0 0 65) ([.inl (1, .inl (fun _ => 0))] : List ez_C)) fun r h1 c1 k1 => G 142 8 [.ref 6, .int 0, .long 0, ez_fill] (r.toList ++ []) h1 (cz + c1) (kz + k1) := by
  intro G
  rfl
set_option maxRecDepth 100000 in
set_option maxHeartbeats 100000 in
theorem sp_z_123_searchThird_r2 (X : ez_X)  (cz kz : Nat) : ∀ G : ez_F, fx_up X 11 G 142 8 [.ref 6, .int 0, .long 0, ez_fill] [.int 1] (ev_hp (ev_sI ev_I0 6 (upd (upd (ev_I0 6) 4 1) 3 0)) ev_J0 (ev_sR ev_R0 0 65) ([.inl (1, .inl (fun _ => 0))] : List ez_C)) cz kz = ev_C G 86 [.ref 3, .int 2, .int 0] (ev_hp (ev_sI ev_I0 6 (upd (upd (ev_I0 6) 4 1) 3 0)) ev_J0 (ev_sR ev_R0 0 65) ([.inl (1, .inl (fun _ => 0))] : List ez_C)) fun r h1 c1 k1 => G 142 30 [.ref 6, .int 0, .long 0, ez_fill, .int 1, .int 0] (r.toList ++ []) h1 (cz + c1) (kz + k1) := by
  intro G
  rfl
set_option maxRecDepth 100000 in
set_option maxHeartbeats 100000 in
theorem sp_z_123_searchThird_r3 (X : ez_X)  (cz kz : Nat) : ∀ G : ez_F, fx_up X 15 G 142 30 [.ref 6, .int 0, .long 0, ez_fill, .int 1, .int 0] [.long 0] (ev_hp (ev_sI ev_I0 6 (upd (upd (ev_I0 6) 4 1) 3 0)) ev_J0 (ev_sR ev_R0 0 65) ([.inl (1, .inl (fun _ => 0))] : List ez_C)) cz kz = ev_C G 38 [.ref 65, .int 0, .int 0] (ev_hp (ev_sI ev_I0 6 (upd (upd (ev_I0 6) 4 1) 3 0)) ev_J0 (ev_sR ev_R0 0 65) ([.inl (1, .inl (fun _ => 0))] : List ez_C)) fun r h1 c1 k1 => G 142 55 [.ref 6, .int 0, .long 0, ez_fill, .int 1, .int 0] (r.toList ++ []) h1 (cz + c1) (kz + k1) := by
  intro G
  rfl
set_option maxRecDepth 100000 in
set_option maxHeartbeats 100000 in
theorem sp_z_123_searchThird_r4 (X : ez_X)  (cz kz : Nat) : ∀ G : ez_F, fx_up X 12 G 142 55 [.ref 6, .int 0, .long 0, ez_fill, .int 1, .int 0] [] (ev_hp (ev_sI ev_I0 6 (upd (upd (ev_I0 6) 4 1) 3 0)) ev_J0 (ev_sR ev_R0 0 65) ([.inl (1, .inl (upd (fun _ => 0) 0 0))] : List ez_C)) cz kz = some (none, (ev_hp (ev_sI ev_I0 6 (upd (upd (ev_I0 6) 4 1) 3 1)) ev_J0 (ev_sR ev_R0 0 65) ([.inl (1, .inl (upd (fun _ => 0) 0 0))] : List ez_C)), cz, kz) := by
  intro G
  rfl
theorem sp_z_123_searchThird (X : ez_X) : ev_W X 142 0 (ez_lay [.ref 6, .int 0, .long 0]) [] (ev_hp (ev_sI ev_I0 6 (upd (upd (ev_I0 6) 4 1) 3 0)) ev_J0 (ev_sR ev_R0 0 65) ([.inl (1, .inl (fun _ => 0))] : List ez_C)) 0 0 (fun r h1 c1 k1 => r = none ∧ h1 = (ev_hp (ev_sI ev_I0 6 (upd (upd (ev_I0 6) 4 1) 3 1)) ev_J0 (ev_sR ev_R0 0 65) ([.inl (1, .inl (upd (fun _ => 0) 0 0))] : List ez_C)) ∧ c1 = 0 ∧ k1 = 0) := by
  refine ev_call (sp_z_123_searchThird_r1 X  _ _) (sp_z_124_sizeOf X) ?_
  rintro _ _ _ _ ⟨rfl, rfl, rfl, rfl⟩
  refine ev_call (sp_z_123_searchThird_r2 X  _ _) (sp_z_125_cellsAt X) ?_
  rintro _ _ _ _ ⟨rfl, rfl, rfl, rfl⟩
  refine ev_call (sp_z_123_searchThird_r3 X  _ _) (sp_z_126_put X) ?_
  rintro _ _ _ _ ⟨rfl, rfl, rfl, rfl⟩
  refine ev_ret (sp_z_123_searchThird_r4 X  _ _) ?_
  exact ⟨rfl, rfl, rfl, rfl⟩
set_option maxRecDepth 100000 in
set_option maxHeartbeats 100000 in
theorem sp_z_118_searchSecond_r1 (X : ez_X)  (cz kz : Nat) : ∀ G : ez_F, fx_up X 4 G 141 0 [.ref 6, .int 0, .long 0, ez_fill] [] (ev_hp (ev_sI ev_I0 6 (upd (upd (ev_I0 6) 4 1) 3 0)) ev_J0 (ev_sR ev_R0 0 65) ([.inl (1, .inl (fun _ => 0))] : List ez_C)) cz kz = ev_C G 94 [.ref 3, .int 1] (ev_hp (ev_sI ev_I0 6 (upd (upd (ev_I0 6) 4 1) 3 0)) ev_J0 (ev_sR ev_R0 0 65) ([.inl (1, .inl (fun _ => 0))] : List ez_C)) fun r h1 c1 k1 => G 141 8 [.ref 6, .int 0, .long 0, ez_fill] (r.toList ++ []) h1 (cz + c1) (kz + k1) := by
  intro G
  rfl
set_option maxRecDepth 100000 in
set_option maxHeartbeats 100000 in
theorem sp_z_118_searchSecond_r2 (X : ez_X)  (cz kz : Nat) : ∀ G : ez_F, fx_up X 11 G 141 8 [.ref 6, .int 0, .long 0, ez_fill] [.int 1] (ev_hp (ev_sI ev_I0 6 (upd (upd (ev_I0 6) 4 1) 3 0)) ev_J0 (ev_sR ev_R0 0 65) ([.inl (1, .inl (fun _ => 0))] : List ez_C)) cz kz = ev_C G 86 [.ref 3, .int 1, .int 0] (ev_hp (ev_sI ev_I0 6 (upd (upd (ev_I0 6) 4 1) 3 0)) ev_J0 (ev_sR ev_R0 0 65) ([.inl (1, .inl (fun _ => 0))] : List ez_C)) fun r h1 c1 k1 => G 141 30 [.ref 6, .int 0, .long 0, ez_fill, .int 1, .int 0] (r.toList ++ []) h1 (cz + c1) (kz + k1) := by
  intro G
  rfl
set_option maxRecDepth 100000 in
set_option maxHeartbeats 100000 in
theorem sp_z_118_searchSecond_r3 (X : ez_X)  (cz kz : Nat) : ∀ G : ez_F, fx_up X 18 G 141 30 [.ref 6, .int 0, .long 0, ez_fill, .int 1, .int 0] [.long 0] (ev_hp (ev_sI ev_I0 6 (upd (upd (ev_I0 6) 4 1) 3 0)) ev_J0 (ev_sR ev_R0 0 65) ([.inl (1, .inl (fun _ => 0))] : List ez_C)) cz kz = ev_C G 144 [.ref 1, .long 0] (ev_hp (ev_sI ev_I0 6 (upd (upd (ev_I0 6) 4 1) 3 0)) ev_J0 (ev_sR ev_R0 0 65) ([.inl (1, .inl (fun _ => 0))] : List ez_C)) fun r h1 c1 k1 => G 141 59 [.ref 6, .int 0, .long 0, ez_fill, .int 1, .int 0, .long 0, ez_fill] (r.toList ++ [.long 0, .int 0, .ref 6]) h1 (cz + c1) (kz + k1) := by
  intro G
  rfl
set_option maxRecDepth 100000 in
set_option maxHeartbeats 100000 in
theorem sp_z_118_searchSecond_r4 (X : ez_X)  (cz kz : Nat) : ∀ G : ez_F, fx_up X 2 G 141 59 [.ref 6, .int 0, .long 0, ez_fill, .int 1, .int 0, .long 0, ez_fill] [.long 0, .long 0, .int 0, .ref 6] (ev_hp (ev_sI ev_I0 6 (upd (upd (ev_I0 6) 4 1) 3 0)) ev_J0 (ev_sR ev_R0 0 65) ([.inl (1, .inl (fun _ => 0))] : List ez_C)) cz kz = ev_C G 142 [.ref 6, .int 0, .long 0] (ev_hp (ev_sI ev_I0 6 (upd (upd (ev_I0 6) 4 1) 3 0)) ev_J0 (ev_sR ev_R0 0 65) ([.inl (1, .inl (fun _ => 0))] : List ez_C)) fun r h1 c1 k1 => G 141 63 [.ref 6, .int 0, .long 0, ez_fill, .int 1, .int 0, .long 0, ez_fill] (r.toList ++ []) h1 (cz + c1) (kz + k1) := by
  intro G
  rfl
set_option maxRecDepth 100000 in
set_option maxHeartbeats 100000 in
theorem sp_z_118_searchSecond_r5 (X : ez_X)  (cz kz : Nat) : ∀ G : ez_F, fx_up X 6 G 141 63 [.ref 6, .int 0, .long 0, ez_fill, .int 1, .int 0, .long 0, ez_fill] [] (ev_hp (ev_sI ev_I0 6 (upd (upd (ev_I0 6) 4 1) 3 1)) ev_J0 (ev_sR ev_R0 0 65) ([.inl (1, .inl (upd (fun _ => 0) 0 0))] : List ez_C)) cz kz = some (none, (ev_hp (ev_sI ev_I0 6 (upd (upd (ev_I0 6) 4 1) 3 1)) ev_J0 (ev_sR ev_R0 0 65) ([.inl (1, .inl (upd (fun _ => 0) 0 0))] : List ez_C)), cz, kz) := by
  intro G
  rfl
theorem sp_z_118_searchSecond (X : ez_X) : ev_W X 141 0 (ez_lay [.ref 6, .int 0, .long 0]) [] (ev_hp (ev_sI ev_I0 6 (upd (upd (ev_I0 6) 4 1) 3 0)) ev_J0 (ev_sR ev_R0 0 65) ([.inl (1, .inl (fun _ => 0))] : List ez_C)) 0 0 (fun r h1 c1 k1 => r = none ∧ h1 = (ev_hp (ev_sI ev_I0 6 (upd (upd (ev_I0 6) 4 1) 3 1)) ev_J0 (ev_sR ev_R0 0 65) ([.inl (1, .inl (upd (fun _ => 0) 0 0))] : List ez_C)) ∧ c1 = 0 ∧ k1 = 0) := by
  refine ev_call (sp_z_118_searchSecond_r1 X  _ _) (sp_z_119_sizeOf X) ?_
  rintro _ _ _ _ ⟨rfl, rfl, rfl, rfl⟩
  refine ev_call (sp_z_118_searchSecond_r2 X  _ _) (sp_z_120_cellsAt X) ?_
  rintro _ _ _ _ ⟨rfl, rfl, rfl, rfl⟩
  refine ev_call (sp_z_118_searchSecond_r3 X  _ _) (sp_z_121_around X) ?_
  rintro _ _ _ _ ⟨rfl, rfl, rfl, rfl⟩
  refine ev_call (sp_z_118_searchSecond_r4 X  _ _) (sp_z_123_searchThird X) ?_
  rintro _ _ _ _ ⟨rfl, rfl, rfl, rfl⟩
  refine ev_ret (sp_z_118_searchSecond_r5 X  _ _) ?_
  exact ⟨rfl, rfl, rfl, rfl⟩
set_option maxRecDepth 100000 in
set_option maxHeartbeats 100000 in
theorem sp_z_108_search_r1 (X : ez_X)  (cz kz : Nat) : ∀ G : ez_F, fx_up X 3 G 140 0 [.ref 6] [] (ev_hp ev_I0 ev_J0 ev_R0 []) cz kz = ev_C G 89 [.ref 3] (ev_hp ev_I0 ev_J0 ev_R0 []) fun r h1 c1 k1 => G 140 7 [.ref 6] (r.toList ++ []) h1 (cz + c1) (kz + k1) := by
  intro G
  rfl
set_option maxRecDepth 100000 in
set_option maxHeartbeats 100000 in
theorem sp_z_108_search_r2 (X : ez_X)  (cz kz : Nat) : ∀ G : ez_F, fx_up X 24 G 140 7 [.ref 6] [.int 1] (ev_hp ev_I0 ev_J0 ev_R0 []) cz kz = ev_C G 19 [.int 0, .int 1] (ev_hp (ev_sI ev_I0 6 (upd (upd (ev_I0 6) 4 1) 3 0)) ev_J0 ev_R0 []) fun r h1 c1 k1 => G 140 52 [.ref 6, .int 1] (r.toList ++ [.ref 6]) h1 (cz + c1) (kz + k1) := by
  intro G
  rfl
set_option maxRecDepth 100000 in
set_option maxHeartbeats 100000 in
theorem sp_z_108_search_r3 (X : ez_X)  (cz kz : Nat) : ∀ G : ez_F, fx_up X 6 G 140 52 [.ref 6, .int 1] [.int 1, .ref 6] (ev_hp (ev_sI ev_I0 6 (upd (upd (ev_I0 6) 4 1) 3 0)) ev_J0 ev_R0 []) cz kz = ev_C G 94 [.ref 3, .int 0] (ev_hp (ev_sI ev_I0 6 (upd (upd (ev_I0 6) 4 1) 3 0)) ev_J0 (ev_sR ev_R0 0 65) ([.inl (1, .inl (fun _ => 0))] : List ez_C)) fun r h1 c1 k1 => G 140 65 [.ref 6, .int 1] (r.toList ++ []) h1 ((cz + 1) + c1) ((kz + 1) + k1) := by
  intro G
  rfl
set_option maxRecDepth 100000 in
set_option maxHeartbeats 100000 in
theorem sp_z_108_search_r4 (X : ez_X)  (cz kz : Nat) : ∀ G : ez_F, fx_up X 15 G 140 65 [.ref 6, .int 1] [.int 1] (ev_hp (ev_sI ev_I0 6 (upd (upd (ev_I0 6) 4 1) 3 0)) ev_J0 (ev_sR ev_R0 0 65) ([.inl (1, .inl (fun _ => 0))] : List ez_C)) cz kz = ev_C G 86 [.ref 3, .int 0, .int 0] (ev_hp (ev_sI ev_I0 6 (upd (upd (ev_I0 6) 4 1) 3 0)) ev_J0 (ev_sR ev_R0 0 65) ([.inl (1, .inl (fun _ => 0))] : List ez_C)) fun r h1 c1 k1 => G 140 88 [.ref 6, .int 1, .int 1, .int 0] (r.toList ++ [.ref 1, .int 0, .ref 6]) h1 (cz + c1) (kz + k1) := by
  intro G
  rfl
set_option maxRecDepth 100000 in
set_option maxHeartbeats 100000 in
theorem sp_z_108_search_r5 (X : ez_X)  (cz kz : Nat) : ∀ G : ez_F, fx_up X 1 G 140 88 [.ref 6, .int 1, .int 1, .int 0] [.long 0, .ref 1, .int 0, .ref 6] (ev_hp (ev_sI ev_I0 6 (upd (upd (ev_I0 6) 4 1) 3 0)) ev_J0 (ev_sR ev_R0 0 65) ([.inl (1, .inl (fun _ => 0))] : List ez_C)) cz kz = ev_C G 144 [.ref 1, .long 0] (ev_hp (ev_sI ev_I0 6 (upd (upd (ev_I0 6) 4 1) 3 0)) ev_J0 (ev_sR ev_R0 0 65) ([.inl (1, .inl (fun _ => 0))] : List ez_C)) fun r h1 c1 k1 => G 140 91 [.ref 6, .int 1, .int 1, .int 0] (r.toList ++ [.int 0, .ref 6]) h1 (cz + c1) (kz + k1) := by
  intro G
  rfl
set_option maxRecDepth 100000 in
set_option maxHeartbeats 100000 in
theorem sp_z_108_search_r6 (X : ez_X)  (cz kz : Nat) : ∀ G : ez_F, fx_up X 1 G 140 91 [.ref 6, .int 1, .int 1, .int 0] [.long 0, .int 0, .ref 6] (ev_hp (ev_sI ev_I0 6 (upd (upd (ev_I0 6) 4 1) 3 0)) ev_J0 (ev_sR ev_R0 0 65) ([.inl (1, .inl (fun _ => 0))] : List ez_C)) cz kz = ev_C G 141 [.ref 6, .int 0, .long 0] (ev_hp (ev_sI ev_I0 6 (upd (upd (ev_I0 6) 4 1) 3 0)) ev_J0 (ev_sR ev_R0 0 65) ([.inl (1, .inl (fun _ => 0))] : List ez_C)) fun r h1 c1 k1 => G 140 94 [.ref 6, .int 1, .int 1, .int 0] (r.toList ++ []) h1 (cz + c1) (kz + k1) := by
  intro G
  rfl
set_option maxRecDepth 100000 in
set_option maxHeartbeats 100000 in
theorem sp_z_108_search_r7 (X : ez_X)  (cz kz : Nat) : ∀ G : ez_F, fx_up X 6 G 140 94 [.ref 6, .int 1, .int 1, .int 0] [] (ev_hp (ev_sI ev_I0 6 (upd (upd (ev_I0 6) 4 1) 3 1)) ev_J0 (ev_sR ev_R0 0 65) ([.inl (1, .inl (upd (fun _ => 0) 0 0))] : List ez_C)) cz kz = some (none, (ev_hp (ev_sI ev_I0 6 (upd (upd (ev_I0 6) 4 1) 3 1)) ev_J0 (ev_sR ev_R0 0 65) ([.inl (1, .inl (upd (fun _ => 0) 0 0))] : List ez_C)), cz, kz) := by
  intro G
  rfl
theorem sp_z_108_search (X : ez_X) : ev_W X 140 0 (ez_lay [.ref 6]) [] (ev_hp ev_I0 ev_J0 ev_R0 []) 0 0 (fun r h1 c1 k1 => r = none ∧ h1 = (ev_hp (ev_sI ev_I0 6 (upd (upd (ev_I0 6) 4 1) 3 1)) ev_J0 (ev_sR ev_R0 0 65) ([.inl (1, .inl (upd (fun _ => 0) 0 0))] : List ez_C)) ∧ c1 = 1 ∧ k1 = 1) := by
  refine ev_call (sp_z_108_search_r1 X  _ _) (sp_z_109_combinations X) ?_
  rintro _ _ _ _ ⟨rfl, rfl, rfl, rfl⟩
  refine ev_call (sp_z_108_search_r2 X  _ _) (sp_z_113_grown X) ?_
  rintro _ _ _ _ ⟨rfl, rfl, rfl, rfl⟩
  refine ev_call (sp_z_108_search_r3 X  _ _) (sp_z_114_sizeOf X) ?_
  rintro _ _ _ _ ⟨rfl, rfl, rfl, rfl⟩
  refine ev_call (sp_z_108_search_r4 X  _ _) (sp_z_115_cellsAt X) ?_
  rintro _ _ _ _ ⟨rfl, rfl, rfl, rfl⟩
  refine ev_call (sp_z_108_search_r5 X  _ _) (sp_z_116_around X) ?_
  rintro _ _ _ _ ⟨rfl, rfl, rfl, rfl⟩
  refine ev_call (sp_z_108_search_r6 X  _ _) (sp_z_118_searchSecond X) ?_
  rintro _ _ _ _ ⟨rfl, rfl, rfl, rfl⟩
  refine ev_ret (sp_z_108_search_r7 X  _ _) ?_
  exact ⟨rfl, rfl, rfl, rfl⟩
set_option maxRecDepth 100000 in
set_option maxHeartbeats 100000 in
theorem sp_z_103_tooMany_r1 (X : ez_X)  (cz kz : Nat) : ∀ G : ez_F, fx_up X 3 G 52 0 [.ref 0] [] (ev_hp ev_I0 ev_J0 ev_R0 []) cz kz = ev_C G 89 [.ref 3] (ev_hp ev_I0 ev_J0 ev_R0 []) fun r h1 c1 k1 => G 52 7 [.ref 0] (r.toList ++ []) h1 (cz + c1) (kz + k1) := by
  intro G
  rfl
set_option maxRecDepth 100000 in
set_option maxHeartbeats 100000 in
theorem sp_z_103_tooMany_r2 (X : ez_X)  (cz kz : Nat) : ∀ G : ez_F, fx_up X 5 G 52 7 [.ref 0] [.int 1] (ev_hp ev_I0 ev_J0 ev_R0 []) cz kz = ev_C G 140 [.ref 6] (ev_hp ev_I0 ev_J0 ev_R0 []) fun r h1 c1 k1 => G 52 22 [.ref 0] (r.toList ++ []) h1 (cz + c1) (kz + k1) := by
  intro G
  rfl
set_option maxRecDepth 100000 in
set_option maxHeartbeats 100000 in
theorem sp_z_103_tooMany_r3 (X : ez_X)  (cz kz : Nat) : ∀ G : ez_F, fx_up X 2 G 52 22 [.ref 0] [] (ev_hp (ev_sI ev_I0 6 (upd (upd (ev_I0 6) 4 1) 3 1)) ev_J0 (ev_sR ev_R0 0 65) ([.inl (1, .inl (upd (fun _ => 0) 0 0))] : List ez_C)) cz kz = some (some (.int 0), (ev_hp (ev_sI ev_I0 6 (upd (upd (ev_I0 6) 4 1) 3 1)) ev_J0 (ev_sR ev_R0 0 65) ([.inl (1, .inl (upd (fun _ => 0) 0 0))] : List ez_C)), cz, kz) := by
  intro G
  rfl
theorem sp_z_103_tooMany (X : ez_X) : ev_W X 52 0 (ez_lay [.ref 0]) [] (ev_hp ev_I0 ev_J0 ev_R0 []) 0 0 (fun r h1 c1 k1 => r = (some (.int 0)) ∧ h1 = (ev_hp (ev_sI ev_I0 6 (upd (upd (ev_I0 6) 4 1) 3 1)) ev_J0 (ev_sR ev_R0 0 65) ([.inl (1, .inl (upd (fun _ => 0) 0 0))] : List ez_C)) ∧ c1 = 1 ∧ k1 = 1) := by
  refine ev_call (sp_z_103_tooMany_r1 X  _ _) (sp_z_104_combinations X) ?_
  rintro _ _ _ _ ⟨rfl, rfl, rfl, rfl⟩
  refine ev_call (sp_z_103_tooMany_r2 X  _ _) (sp_z_108_search X) ?_
  rintro _ _ _ _ ⟨rfl, rfl, rfl, rfl⟩
  refine ev_ret (sp_z_103_tooMany_r3 X  _ _) ?_
  exact ⟨rfl, rfl, rfl, rfl⟩
set_option maxRecDepth 100000 in
set_option maxHeartbeats 100000 in
theorem ef_calls_n_r1 (X : ez_X) (I : Nat → Nat → Int32) (J : Nat → Nat → Int64) (R : Nat → Nat) (T : List ez_C) (a : Int32) (b : Int32) (cz kz : Nat) : ∀ G : ez_F, fx_up X 2 G 11 0 [.ref 0, .int a, .int b] [] (ev_hp ev_I0 ev_J0 ev_R0 []) cz kz = bif decide (0 ≤ b) then G 11 7 [.ref 0, .int a, .int b] [] (ev_hp ev_I0 ev_J0 ev_R0 []) cz kz else G 11 4 [.ref 0, .int a, .int b] [] (ev_hp ev_I0 ev_J0 ev_R0 []) cz kz := by
  intro G
  rfl
set_option maxRecDepth 100000 in
set_option maxHeartbeats 100000 in
theorem ef_calls_n_r2 (X : ez_X) (I : Nat → Nat → Int32) (J : Nat → Nat → Int64) (R : Nat → Nat) (T : List ez_C) (a : Int32) (b : Int32) (cz kz : Nat) : ∀ G : ez_F, fx_up X 2 G 11 7 [.ref 0, .int a, .int b] [] (ev_hp ev_I0 ev_J0 ev_R0 []) cz kz = ev_C G 52 [.ref 0] (ev_hp ev_I0 ev_J0 ev_R0 []) fun r h1 c1 k1 => G 11 11 [.ref 0, .int a, .int b] (r.toList ++ []) h1 (cz + c1) (kz + k1) := by
  intro G
  rfl
set_option maxRecDepth 100000 in
set_option maxHeartbeats 100000 in
theorem ef_calls_n_r3 (X : ez_X) (I : Nat → Nat → Int32) (J : Nat → Nat → Int64) (R : Nat → Nat) (T : List ez_C) (a : Int32) (b : Int32) (cz kz : Nat) : ∀ G : ez_F, fx_up X 4 G 11 11 [.ref 0, .int a, .int b] [.int 0] (ev_hp (ev_sI ev_I0 6 (upd (upd (ev_I0 6) 4 1) 3 1)) ev_J0 (ev_sR ev_R0 0 65) ([.inl (1, .inl (upd (fun _ => 0) 0 0))] : List ez_C)) cz kz = ev_C G 23 [.ref 0, .int a] (ev_hp (ev_sI ev_I0 6 (upd (upd (ev_I0 6) 4 1) 3 1)) ev_J0 (ev_sR ev_R0 0 65) ([.inl (1, .inl (upd (fun _ => 0) 0 0))] : List ez_C)) fun r h1 c1 k1 => G 11 22 [.ref 0, .int a, .int b] (r.toList ++ []) h1 (cz + c1) (kz + k1) := by
  intro G
  rfl
set_option maxRecDepth 100000 in
set_option maxHeartbeats 100000 in
theorem ef_calls_n_r4 (X : ez_X) (I : Nat → Nat → Int32) (J : Nat → Nat → Int64) (R : Nat → Nat) (T : List ez_C) (a : Int32) (b : Int32) (q138 : Int32) (cz kz : Nat) : ∀ G : ez_F, fx_up X 1 G 11 22 [.ref 0, .int a, .int b] [.int q138] (ev_hp (ev_sI ev_I0 6 (upd (upd (ev_I0 6) 4 1) 3 1)) ev_J0 (ev_sR ev_R0 0 65) ([.inl (1, .inl (upd (fun _ => 0) 0 0))] : List ez_C)) cz kz = bif decide (¬ q138 = 0) then G 11 28 [.ref 0, .int a, .int b] [] (ev_hp (ev_sI ev_I0 6 (upd (upd (ev_I0 6) 4 1) 3 1)) ev_J0 (ev_sR ev_R0 0 65) ([.inl (1, .inl (upd (fun _ => 0) 0 0))] : List ez_C)) cz kz else G 11 25 [.ref 0, .int a, .int b] [] (ev_hp (ev_sI ev_I0 6 (upd (upd (ev_I0 6) 4 1) 3 1)) ev_J0 (ev_sR ev_R0 0 65) ([.inl (1, .inl (upd (fun _ => 0) 0 0))] : List ez_C)) cz kz := by
  intro G
  rfl
set_option maxRecDepth 100000 in
set_option maxHeartbeats 100000 in
theorem ef_calls_n_r5 (X : ez_X) (I : Nat → Nat → Int32) (J : Nat → Nat → Int64) (R : Nat → Nat) (T : List ez_C) (a : Int32) (b : Int32) (q138 : Int32) (cz kz : Nat) : ∀ G : ez_F, fx_up X 2 G 11 25 [.ref 0, .int a, .int b] [] (ev_hp (ev_sI ev_I0 6 (upd (upd (ev_I0 6) 4 1) 3 1)) ev_J0 (ev_sR ev_R0 0 65) ([.inl (1, .inl (upd (fun _ => 0) 0 0))] : List ez_C)) cz kz = some (some (.int (-2)), (ev_hp (ev_sI ev_I0 6 (upd (upd (ev_I0 6) 4 1) 3 1)) ev_J0 (ev_sR ev_R0 0 65) ([.inl (1, .inl (upd (fun _ => 0) 0 0))] : List ez_C)), cz, kz) := by
  intro G
  rfl
theorem ef_calls_n (X : ez_X) (I : Nat → Nat → Int32) (J : Nat → Nat → Int64) (R : Nat → Nat) (T : List ez_C) (a : Int32) (b : Int32) (hb : ¬ b < 0) (ha : ev_wi a 0 0 = 0) : ev_W X 11 0 (ez_lay [.ref 0, .int a, .int b]) [] (ev_hp ev_I0 ev_J0 ev_R0 []) 0 0 (fun r h1 c1 k1 => ((0 ≤ b) ∧ (¬ (¬ (((ev_wi a 0 ((1 : Int32) - (1 : Int32))))) = 0)) ∧ r = some (.int (-2)) ∧ h1 = (ev_hp (ev_sI ev_I0 6 (upd (upd (ev_I0 6) 4 1) 3 1)) ev_J0 (ev_sR ev_R0 0 65) ([.inl (1, .inl (upd (fun _ => 0) 0 0))] : List ez_C)) ∧ c1 = 1 ∧ k1 = 1)) := by
  refine ev_if (ef_calls_n_r1 X I J R T a b _ _) (fun b1 => ?_) (fun b1 => ?_)
  · replace b1 := of_decide_eq_true b1
    refine ev_call (ef_calls_n_r2 X I J R T a b _ _) (sp_z_103_tooMany X) ?_
    rintro _ _ _ _ ⟨rfl, rfl, rfl, rfl⟩
    refine ev_call (ef_calls_n_r3 X I J R T a b _ _) (eg_isLaying X (ev_sI ev_I0 6 (upd (upd (ev_I0 6) 4 1) 3 1)) ev_J0 (ev_sR ev_R0 0 65) ([.inl (1, .inl (upd (fun _ => 0) 0 0))] : List ez_C) a) ?_
    rintro r0 _ _ _ (⟨hr0, rfl, rfl, rfl⟩)
    obtain ⟨q138, hq138⟩ : ∃ z : Int32, ((ev_wi a 0 ((1 : Int32) - (1 : Int32)))) = z := ⟨_, rfl⟩
    have eq138 : r0 = some (.int q138) := hr0.trans (by subst hq138; rfl)
    subst eq138
    refine ev_if (ef_calls_n_r4 X I J R T a b q138 _ _) (fun b2 => ?_) (fun b2 => ?_)
    · replace b2 := of_decide_eq_true b2
      exact (b2 (by rw [← hq138]; exact ha)).elim
    · replace b2 := of_decide_eq_false b2
      refine ev_ret (ef_calls_n_r5 X I J R T a b q138 _ _) ?_
      subst hq138
      exact ⟨b1, b2, rfl, rfl, rfl, rfl⟩
  · replace b1 := of_decide_eq_false b1
    exact absurd (Int32.not_lt.mp hb) b1
set_option maxRecDepth 100000 in
set_option maxHeartbeats 100000 in
theorem sp_z_128_areLaid_r1 (X : ez_X)  (cz kz : Nat) : ∀ G : ez_F, fx_up X 24 G 167 0 [.ref 35] [] (ev_hp (ev_sI ev_I0 6 (upd (upd (ev_I0 6) 4 1) 3 1)) ev_J0 (ev_sR ev_R0 0 65) ([.inl (1, .inl (upd (fun _ => 0) 0 0))] : List ez_C)) cz kz = G 167 83 [.ref 35, .long 1, ez_fill, .int 1] [] (ev_hp (ev_sI (ev_sI ev_I0 6 (upd (upd (ev_I0 6) 4 1) 3 1)) 35 (upd (ev_I0 35) 14 0)) ev_J0 (ev_sR ev_R0 0 65) ([.inl (1, .inl (upd (fun _ => 0) 0 0))] : List ez_C)) cz kz := by
  intro G
  rfl
set_option maxRecDepth 100000 in
set_option maxHeartbeats 100000 in
theorem sp_z_128_areLaid_r2 (X : ez_X)  (cz kz : Nat) : ∀ G : ez_F, fx_up X 24 G 167 83 [.ref 35, .long 1, ez_fill, .int 1] [] (ev_hp (ev_sI (ev_sI ev_I0 6 (upd (upd (ev_I0 6) 4 1) 3 1)) 35 (upd (ev_I0 35) 14 0)) ev_J0 (ev_sR ev_R0 0 65) ([.inl (1, .inl (upd (fun _ => 0) 0 0))] : List ez_C)) cz kz = G 167 162 [.ref 35, .long 1, ez_fill, .int 1, .int 1, .int 1, .int 0, .int 0] [.int 1] (ev_hp (ev_sI (ev_sI ev_I0 6 (upd (upd (ev_I0 6) 4 1) 3 1)) 35 (upd (ev_I0 35) 14 0)) ev_J0 (ev_sR ev_R0 0 65) ([.inl (1, .inl (upd (fun _ => 0) 0 0))] : List ez_C)) cz kz := by
  intro G
  rfl
set_option maxRecDepth 100000 in
set_option maxHeartbeats 100000 in
theorem sp_z_128_areLaid_r3 (X : ez_X)  (cz kz : Nat) : ∀ G : ez_F, fx_up X 24 G 167 162 [.ref 35, .long 1, ez_fill, .int 1, .int 1, .int 1, .int 0, .int 0] [.int 1] (ev_hp (ev_sI (ev_sI ev_I0 6 (upd (upd (ev_I0 6) 4 1) 3 1)) 35 (upd (ev_I0 35) 14 0)) ev_J0 (ev_sR ev_R0 0 65) ([.inl (1, .inl (upd (fun _ => 0) 0 0))] : List ez_C)) cz kz = G 167 258 [.ref 35, .long 1, ez_fill, .int 1, .int 1, .int 1, .int 0, .int 0, .int 1, .int 0] [.ref 35, .int 3, .ref 41] (ev_hp (ev_sI (ev_sI (ev_sI ev_I0 6 (upd (upd (ev_I0 6) 4 1) 3 1)) 35 (upd (ev_I0 35) 14 0)) 41 (upd (ev_I0 41) 0 0)) ev_J0 (ev_sR ev_R0 0 65) ([.inl (1, .inl (upd (fun _ => 0) 0 0))] : List ez_C)) cz kz := by
  intro G
  rfl
set_option maxRecDepth 100000 in
set_option maxHeartbeats 100000 in
theorem sp_z_128_areLaid_r4 (X : ez_X)  (cz kz : Nat) : ∀ G : ez_F, fx_up X 24 G 167 258 [.ref 35, .long 1, ez_fill, .int 1, .int 1, .int 1, .int 0, .int 0, .int 1, .int 0] [.ref 35, .int 3, .ref 41] (ev_hp (ev_sI (ev_sI (ev_sI ev_I0 6 (upd (upd (ev_I0 6) 4 1) 3 1)) 35 (upd (ev_I0 35) 14 0)) 41 (upd (ev_I0 41) 0 0)) ev_J0 (ev_sR ev_R0 0 65) ([.inl (1, .inl (upd (fun _ => 0) 0 0))] : List ez_C)) cz kz = G 167 167 [.ref 35, .long 1, ez_fill, .int 1, .int 1, .int 1, .int 0, .int 0, .int 1, .int 1] [] (ev_hp (ev_sI (ev_sI (ev_sI ev_I0 6 (upd (upd (ev_I0 6) 4 1) 3 1)) 35 (upd (ev_I0 35) 14 1)) 41 (upd (upd (upd (ev_I0 41) 0 0) 1 0) 2 0)) ev_J0 (ev_sR ev_R0 0 65) ([.inl (1, .inl (upd (fun _ => 0) 0 0))] : List ez_C)) cz kz := by
  intro G
  rfl
set_option maxRecDepth 100000 in
set_option maxHeartbeats 100000 in
theorem sp_z_128_areLaid_r5 (X : ez_X)  (cz kz : Nat) : ∀ G : ez_F, fx_up X 15 G 167 167 [.ref 35, .long 1, ez_fill, .int 1, .int 1, .int 1, .int 0, .int 0, .int 1, .int 1] [] (ev_hp (ev_sI (ev_sI (ev_sI ev_I0 6 (upd (upd (ev_I0 6) 4 1) 3 1)) 35 (upd (ev_I0 35) 14 1)) 41 (upd (upd (upd (ev_I0 41) 0 0) 1 0) 2 0)) ev_J0 (ev_sR ev_R0 0 65) ([.inl (1, .inl (upd (fun _ => 0) 0 0))] : List ez_C)) cz kz = some (some (.int 1), (ev_hp (ev_sI (ev_sI (ev_sI ev_I0 6 (upd (upd (ev_I0 6) 4 1) 3 1)) 35 (upd (ev_I0 35) 14 1)) 41 (upd (upd (upd (ev_I0 41) 0 0) 1 0) 2 0)) ev_J0 (ev_sR ev_R0 0 65) ([.inl (1, .inl (upd (fun _ => 0) 0 0))] : List ez_C)), cz, kz) := by
  intro G
  rfl
theorem sp_z_128_areLaid (X : ez_X) : ev_W X 167 0 (ez_lay [.ref 35]) [] (ev_hp (ev_sI ev_I0 6 (upd (upd (ev_I0 6) 4 1) 3 1)) ev_J0 (ev_sR ev_R0 0 65) ([.inl (1, .inl (upd (fun _ => 0) 0 0))] : List ez_C)) 0 0 (fun r h1 c1 k1 => r = (some (.int 1)) ∧ h1 = (ev_hp (ev_sI (ev_sI (ev_sI ev_I0 6 (upd (upd (ev_I0 6) 4 1) 3 1)) 35 (upd (ev_I0 35) 14 1)) 41 (upd (upd (upd (ev_I0 41) 0 0) 1 0) 2 0)) ev_J0 (ev_sR ev_R0 0 65) ([.inl (1, .inl (upd (fun _ => 0) 0 0))] : List ez_C)) ∧ c1 = 0 ∧ k1 = 0) := by
  refine ev_seg (sp_z_128_areLaid_r1 X  _ _) ?_
  refine ev_seg (sp_z_128_areLaid_r2 X  _ _) ?_
  refine ev_seg (sp_z_128_areLaid_r3 X  _ _) ?_
  refine ev_seg (sp_z_128_areLaid_r4 X  _ _) ?_
  refine ev_ret (sp_z_128_areLaid_r5 X  _ _) ?_
  exact ⟨rfl, rfl, rfl, rfl⟩
set_option maxRecDepth 100000 in
set_option maxHeartbeats 100000 in
theorem sp_z_127_isCrowded_r1 (X : ez_X)  (cz kz : Nat) : ∀ G : ez_F, fx_up X 2 G 201 0 [.ref 35] [] (ev_hp (ev_sI ev_I0 6 (upd (upd (ev_I0 6) 4 1) 3 1)) ev_J0 (ev_sR ev_R0 0 65) ([.inl (1, .inl (upd (fun _ => 0) 0 0))] : List ez_C)) cz kz = ev_C G 167 [.ref 35] (ev_hp (ev_sI ev_I0 6 (upd (upd (ev_I0 6) 4 1) 3 1)) ev_J0 (ev_sR ev_R0 0 65) ([.inl (1, .inl (upd (fun _ => 0) 0 0))] : List ez_C)) fun r h1 c1 k1 => G 201 4 [.ref 35] (r.toList ++ []) h1 (cz + c1) (kz + k1) := by
  intro G
  rfl
set_option maxRecDepth 100000 in
set_option maxHeartbeats 100000 in
theorem sp_z_127_isCrowded_r2 (X : ez_X)  (cz kz : Nat) : ∀ G : ez_F, fx_up X 7 G 201 4 [.ref 35] [.int 1] (ev_hp (ev_sI (ev_sI (ev_sI ev_I0 6 (upd (upd (ev_I0 6) 4 1) 3 1)) 35 (upd (ev_I0 35) 14 1)) 41 (upd (upd (upd (ev_I0 41) 0 0) 1 0) 2 0)) ev_J0 (ev_sR ev_R0 0 65) ([.inl (1, .inl (upd (fun _ => 0) 0 0))] : List ez_C)) cz kz = some (some (.int 0), (ev_hp (ev_sI (ev_sI (ev_sI ev_I0 6 (upd (upd (ev_I0 6) 4 1) 3 1)) 35 (upd (ev_I0 35) 14 1)) 41 (upd (upd (upd (ev_I0 41) 0 0) 1 0) 2 0)) ev_J0 (ev_sR ev_R0 0 65) ([.inl (1, .inl (upd (fun _ => 0) 0 0))] : List ez_C)), cz, kz) := by
  intro G
  rfl
theorem sp_z_127_isCrowded (X : ez_X) : ev_W X 201 0 (ez_lay [.ref 35]) [] (ev_hp (ev_sI ev_I0 6 (upd (upd (ev_I0 6) 4 1) 3 1)) ev_J0 (ev_sR ev_R0 0 65) ([.inl (1, .inl (upd (fun _ => 0) 0 0))] : List ez_C)) 0 0 (fun r h1 c1 k1 => r = (some (.int 0)) ∧ h1 = (ev_hp (ev_sI (ev_sI (ev_sI ev_I0 6 (upd (upd (ev_I0 6) 4 1) 3 1)) 35 (upd (ev_I0 35) 14 1)) 41 (upd (upd (upd (ev_I0 41) 0 0) 1 0) 2 0)) ev_J0 (ev_sR ev_R0 0 65) ([.inl (1, .inl (upd (fun _ => 0) 0 0))] : List ez_C)) ∧ c1 = 0 ∧ k1 = 0) := by
  refine ev_call (sp_z_127_isCrowded_r1 X  _ _) (sp_z_128_areLaid X) ?_
  rintro _ _ _ _ ⟨rfl, rfl, rfl, rfl⟩
  refine ev_ret (sp_z_127_isCrowded_r2 X  _ _) ?_
  exact ⟨rfl, rfl, rfl, rfl⟩
set_option maxRecDepth 100000 in
set_option maxHeartbeats 100000 in
theorem eh_calls_n_r1 (X : ez_X) (I : Nat → Nat → Int32) (J : Nat → Nat → Int64) (R : Nat → Nat) (T : List ez_C) (a : Int32) (b : Int32) (cz kz : Nat) : ∀ G : ez_F, fx_up X 2 G 178 0 [.ref 35, .int a, .int b] [] (ev_hp (ev_sI ev_I0 6 (upd (upd (ev_I0 6) 4 1) 3 1)) ev_J0 (ev_sR ev_R0 0 65) ([.inl (1, .inl (upd (fun _ => 0) 0 0))] : List ez_C)) cz kz = bif decide (0 ≤ b) then G 178 7 [.ref 35, .int a, .int b] [] (ev_hp (ev_sI ev_I0 6 (upd (upd (ev_I0 6) 4 1) 3 1)) ev_J0 (ev_sR ev_R0 0 65) ([.inl (1, .inl (upd (fun _ => 0) 0 0))] : List ez_C)) cz kz else G 178 4 [.ref 35, .int a, .int b] [] (ev_hp (ev_sI ev_I0 6 (upd (upd (ev_I0 6) 4 1) 3 1)) ev_J0 (ev_sR ev_R0 0 65) ([.inl (1, .inl (upd (fun _ => 0) 0 0))] : List ez_C)) cz kz := by
  intro G
  rfl
set_option maxRecDepth 100000 in
set_option maxHeartbeats 100000 in
theorem eh_calls_n_r2 (X : ez_X) (I : Nat → Nat → Int32) (J : Nat → Nat → Int64) (R : Nat → Nat) (T : List ez_C) (a : Int32) (b : Int32) (cz kz : Nat) : ∀ G : ez_F, fx_up X 2 G 178 7 [.ref 35, .int a, .int b] [] (ev_hp (ev_sI ev_I0 6 (upd (upd (ev_I0 6) 4 1) 3 1)) ev_J0 (ev_sR ev_R0 0 65) ([.inl (1, .inl (upd (fun _ => 0) 0 0))] : List ez_C)) cz kz = ev_C G 201 [.ref 35] (ev_hp (ev_sI ev_I0 6 (upd (upd (ev_I0 6) 4 1) 3 1)) ev_J0 (ev_sR ev_R0 0 65) ([.inl (1, .inl (upd (fun _ => 0) 0 0))] : List ez_C)) fun r h1 c1 k1 => G 178 11 [.ref 35, .int a, .int b] (r.toList ++ []) h1 (cz + c1) (kz + k1) := by
  intro G
  rfl
set_option maxRecDepth 100000 in
set_option maxHeartbeats 100000 in
theorem eh_calls_n_r3 (X : ez_X) (I : Nat → Nat → Int32) (J : Nat → Nat → Int64) (R : Nat → Nat) (T : List ez_C) (a : Int32) (b : Int32) (cz kz : Nat) : ∀ G : ez_F, fx_up X 4 G 178 11 [.ref 35, .int a, .int b] [.int 0] (ev_hp (ev_sI (ev_sI (ev_sI ev_I0 6 (upd (upd (ev_I0 6) 4 1) 3 1)) 35 (upd (ev_I0 35) 14 1)) 41 (upd (upd (upd (ev_I0 41) 0 0) 1 0) 2 0)) ev_J0 (ev_sR ev_R0 0 65) ([.inl (1, .inl (upd (fun _ => 0) 0 0))] : List ez_C)) cz kz = ev_C G 202 [.ref 35, .int a] (ev_hp (ev_sI (ev_sI (ev_sI ev_I0 6 (upd (upd (ev_I0 6) 4 1) 3 1)) 35 (upd (ev_I0 35) 14 1)) 41 (upd (upd (upd (ev_I0 41) 0 0) 1 0) 2 0)) ev_J0 (ev_sR ev_R0 0 65) ([.inl (1, .inl (upd (fun _ => 0) 0 0))] : List ez_C)) fun r h1 c1 k1 => G 178 22 [.ref 35, .int a, .int b] (r.toList ++ []) h1 (cz + c1) (kz + k1) := by
  intro G
  rfl
set_option maxRecDepth 100000 in
set_option maxHeartbeats 100000 in
theorem eh_calls_n_r4 (X : ez_X) (I : Nat → Nat → Int32) (J : Nat → Nat → Int64) (R : Nat → Nat) (T : List ez_C) (a : Int32) (b : Int32) (q139 : Int32) (cz kz : Nat) : ∀ G : ez_F, fx_up X 1 G 178 22 [.ref 35, .int a, .int b] [.int q139] (ev_hp (ev_sI (ev_sI (ev_sI ev_I0 6 (upd (upd (ev_I0 6) 4 1) 3 1)) 35 (upd (ev_I0 35) 14 1)) 41 (upd (upd (upd (ev_I0 41) 0 0) 1 0) 2 0)) ev_J0 (ev_sR ev_R0 0 65) ([.inl (1, .inl (upd (fun _ => 0) 0 0))] : List ez_C)) cz kz = bif decide (¬ q139 = 0) then G 178 28 [.ref 35, .int a, .int b] [] (ev_hp (ev_sI (ev_sI (ev_sI ev_I0 6 (upd (upd (ev_I0 6) 4 1) 3 1)) 35 (upd (ev_I0 35) 14 1)) 41 (upd (upd (upd (ev_I0 41) 0 0) 1 0) 2 0)) ev_J0 (ev_sR ev_R0 0 65) ([.inl (1, .inl (upd (fun _ => 0) 0 0))] : List ez_C)) cz kz else G 178 25 [.ref 35, .int a, .int b] [] (ev_hp (ev_sI (ev_sI (ev_sI ev_I0 6 (upd (upd (ev_I0 6) 4 1) 3 1)) 35 (upd (ev_I0 35) 14 1)) 41 (upd (upd (upd (ev_I0 41) 0 0) 1 0) 2 0)) ev_J0 (ev_sR ev_R0 0 65) ([.inl (1, .inl (upd (fun _ => 0) 0 0))] : List ez_C)) cz kz := by
  intro G
  rfl
set_option maxRecDepth 100000 in
set_option maxHeartbeats 100000 in
theorem eh_calls_n_r5 (X : ez_X) (I : Nat → Nat → Int32) (J : Nat → Nat → Int64) (R : Nat → Nat) (T : List ez_C) (a : Int32) (b : Int32) (q139 : Int32) (cz kz : Nat) : ∀ G : ez_F, fx_up X 2 G 178 25 [.ref 35, .int a, .int b] [] (ev_hp (ev_sI (ev_sI (ev_sI ev_I0 6 (upd (upd (ev_I0 6) 4 1) 3 1)) 35 (upd (ev_I0 35) 14 1)) 41 (upd (upd (upd (ev_I0 41) 0 0) 1 0) 2 0)) ev_J0 (ev_sR ev_R0 0 65) ([.inl (1, .inl (upd (fun _ => 0) 0 0))] : List ez_C)) cz kz = some (some (.int (-2)), (ev_hp (ev_sI (ev_sI (ev_sI ev_I0 6 (upd (upd (ev_I0 6) 4 1) 3 1)) 35 (upd (ev_I0 35) 14 1)) 41 (upd (upd (upd (ev_I0 41) 0 0) 1 0) 2 0)) ev_J0 (ev_sR ev_R0 0 65) ([.inl (1, .inl (upd (fun _ => 0) 0 0))] : List ez_C)), cz, kz) := by
  intro G
  rfl
theorem eh_calls_n (X : ez_X) (I : Nat → Nat → Int32) (J : Nat → Nat → Int64) (R : Nat → Nat) (T : List ez_C) (a : Int32) (b : Int32) (hb : ¬ b < 0) (ha : ev_wi a 0 0 = 0) : ev_W X 178 0 (ez_lay [.ref 35, .int a, .int b]) [] (ev_hp (ev_sI ev_I0 6 (upd (upd (ev_I0 6) 4 1) 3 1)) ev_J0 (ev_sR ev_R0 0 65) ([.inl (1, .inl (upd (fun _ => 0) 0 0))] : List ez_C)) 0 0 (fun r h1 c1 k1 => ((0 ≤ b) ∧ (¬ (¬ (((ev_il (a.toInt64) 0 (((1 : Int32) - (1 : Int32)).toInt64)))) = 0)) ∧ r = some (.int (-2)) ∧ h1 = (ev_hp (ev_sI (ev_sI (ev_sI ev_I0 6 (upd (upd (ev_I0 6) 4 1) 3 1)) 35 (upd (ev_I0 35) 14 1)) 41 (upd (upd (upd (ev_I0 41) 0 0) 1 0) 2 0)) ev_J0 (ev_sR ev_R0 0 65) ([.inl (1, .inl (upd (fun _ => 0) 0 0))] : List ez_C)) ∧ c1 = 0 ∧ k1 = 0)) := by
  refine ev_if (eh_calls_n_r1 X I J R T a b _ _) (fun b1 => ?_) (fun b1 => ?_)
  · replace b1 := of_decide_eq_true b1
    refine ev_call (eh_calls_n_r2 X I J R T a b _ _) (sp_z_127_isCrowded X) ?_
    rintro _ _ _ _ ⟨rfl, rfl, rfl, rfl⟩
    refine ev_call (eh_calls_n_r3 X I J R T a b _ _) (em_isLaying X (ev_sI (ev_sI (ev_sI ev_I0 6 (upd (upd (ev_I0 6) 4 1) 3 1)) 35 (upd (ev_I0 35) 14 1)) 41 (upd (upd (upd (ev_I0 41) 0 0) 1 0) 2 0)) ev_J0 (ev_sR ev_R0 0 65) ([.inl (1, .inl (upd (fun _ => 0) 0 0))] : List ez_C) a) ?_
    rintro r0 _ _ _ (⟨hr0, rfl, rfl, rfl⟩)
    obtain ⟨q139, hq139⟩ : ∃ z : Int32, ((ev_il (a.toInt64) 0 (((1 : Int32) - (1 : Int32)).toInt64))) = z := ⟨_, rfl⟩
    have eq139 : r0 = some (.int q139) := hr0.trans (by subst hq139; rfl)
    subst eq139
    refine ev_if (eh_calls_n_r4 X I J R T a b q139 _ _) (fun b2 => ?_) (fun b2 => ?_)
    · replace b2 := of_decide_eq_true b2
      exact (b2 (by rw [← hq139]; exact ((ev_il_wi a 0 0).trans ha))).elim
    · replace b2 := of_decide_eq_false b2
      refine ev_ret (eh_calls_n_r5 X I J R T a b q139 _ _) ?_
      subst hq139
      exact ⟨b1, b2, rfl, rfl, rfl, rfl⟩
  · replace b1 := of_decide_eq_false b1
    exact absurd (Int32.not_lt.mp hb) b1
set_option maxRecDepth 100000 in
set_option maxHeartbeats 100000 in
theorem eo_calls_n_r1 (xs : Nat → Int32)  (cz kz : Nat) : ∀ G : ez_F, fx_up (4, xs) 2 G 241 832 [ez_scr, .ref 0, .ref 35, .int 0] [] (ev_hp ev_I0 ev_J0 ev_R0 []) cz kz = G 241 834 [ez_scr, .ref 0, .ref 35, .int 0] [ez_scr, .ref 0] (ev_hp ev_I0 ev_J0 ev_R0 []) cz kz := by
  intro G
  rfl
set_option maxRecDepth 100000 in
set_option maxHeartbeats 100000 in
theorem eo_calls_n_r2 (xs : Nat → Int32)  (cz kz : Nat) : ∀ G : ez_F, fx_up (4, xs) 2 G 241 834 [ez_scr, .ref 0, .ref 35, .int 0] [ez_scr, .ref 0] (ev_hp ev_I0 ev_J0 ev_R0 []) cz kz = G 241 836 [ez_scr, .ref 0, .ref 35, .int 0] [.int 1, .int 0, ez_scr, .ref 0] (ev_hp ev_I0 ev_J0 ev_R0 []) cz kz := by
  intro G
  rfl
set_option maxRecDepth 100000 in
set_option maxHeartbeats 100000 in
theorem eo_calls_n_r3 (xs : Nat → Int32)  (cz kz : Nat) : ∀ G : ez_F, fx_up (4, xs) 2 G 241 836 [ez_scr, .ref 0, .ref 35, .int 0] [.int 1, .int 0, ez_scr, .ref 0] (ev_hp ev_I0 ev_J0 ev_R0 []) cz kz = G 241 838 [ez_scr, .ref 0, .ref 35, .int 0] [.int (xs 1), .ref 0] (ev_hp ev_I0 ev_J0 ev_R0 []) cz kz := by
  intro G
  rfl
set_option maxRecDepth 100000 in
set_option maxHeartbeats 100000 in
theorem eo_calls_n_r4 (xs : Nat → Int32)  (cz kz : Nat) : ∀ G : ez_F, fx_up (4, xs) 2 G 241 838 [ez_scr, .ref 0, .ref 35, .int 0] [.int (xs 1), .ref 0] (ev_hp ev_I0 ev_J0 ev_R0 []) cz kz = G 241 840 [ez_scr, .ref 0, .ref 35, .int 0] [.int 0, ez_scr, .int (xs 1), .ref 0] (ev_hp ev_I0 ev_J0 ev_R0 []) cz kz := by
  intro G
  rfl
set_option maxRecDepth 100000 in
set_option maxHeartbeats 100000 in
theorem eo_calls_n_r5 (xs : Nat → Int32)  (cz kz : Nat) : ∀ G : ez_F, fx_up (4, xs) 2 G 241 840 [ez_scr, .ref 0, .ref 35, .int 0] [.int 0, ez_scr, .int (xs 1), .ref 0] (ev_hp ev_I0 ev_J0 ev_R0 []) cz kz = G 241 842 [ez_scr, .ref 0, .ref 35, .int 0] [.int 2, ez_scr, .int (xs 1), .ref 0] (ev_hp ev_I0 ev_J0 ev_R0 []) cz kz := by
  intro G
  rfl
set_option maxRecDepth 100000 in
set_option maxHeartbeats 100000 in
theorem eo_calls_n_r6 (xs : Nat → Int32)  (cz kz : Nat) : ∀ G : ez_F, fx_up (4, xs) 2 G 241 842 [ez_scr, .ref 0, .ref 35, .int 0] [.int 2, ez_scr, .int (xs 1), .ref 0] (ev_hp ev_I0 ev_J0 ev_R0 []) cz kz = ev_C G 11 [.ref 0, .int (xs 1), .int (xs 2)] (ev_hp ev_I0 ev_J0 ev_R0 []) fun r h1 c1 k1 => G 241 846 [ez_scr, .ref 0, .ref 35, .int 0] (r.toList ++ []) h1 (cz + c1) (kz + k1) := by
  intro G
  rfl
set_option maxRecDepth 100000 in
set_option maxHeartbeats 100000 in
theorem eo_calls_n_r7 (xs : Nat → Int32)  (cz kz : Nat) : ∀ G : ez_F, fx_up (4, xs) 2 G 241 846 [ez_scr, .ref 0, .ref 35, .int 0] [.int (-2)] (ev_hp (ev_sI ev_I0 6 (upd (upd (ev_I0 6) 4 1) 3 1)) ev_J0 (ev_sR ev_R0 0 65) ([.inl (1, .inl (upd (fun _ => 0) 0 0))] : List ez_C)) cz kz = G 241 848 [ez_scr, .ref 0, .ref 35, .int 0] [ez_scr, .ref 35, .int (-2)] (ev_hp (ev_sI ev_I0 6 (upd (upd (ev_I0 6) 4 1) 3 1)) ev_J0 (ev_sR ev_R0 0 65) ([.inl (1, .inl (upd (fun _ => 0) 0 0))] : List ez_C)) cz kz := by
  intro G
  rfl
set_option maxRecDepth 100000 in
set_option maxHeartbeats 100000 in
theorem eo_calls_n_r8 (xs : Nat → Int32)  (cz kz : Nat) : ∀ G : ez_F, fx_up (4, xs) 2 G 241 848 [ez_scr, .ref 0, .ref 35, .int 0] [ez_scr, .ref 35, .int (-2)] (ev_hp (ev_sI ev_I0 6 (upd (upd (ev_I0 6) 4 1) 3 1)) ev_J0 (ev_sR ev_R0 0 65) ([.inl (1, .inl (upd (fun _ => 0) 0 0))] : List ez_C)) cz kz = G 241 850 [ez_scr, .ref 0, .ref 35, .int 0] [.int 1, .int 0, ez_scr, .ref 35, .int (-2)] (ev_hp (ev_sI ev_I0 6 (upd (upd (ev_I0 6) 4 1) 3 1)) ev_J0 (ev_sR ev_R0 0 65) ([.inl (1, .inl (upd (fun _ => 0) 0 0))] : List ez_C)) cz kz := by
  intro G
  rfl
set_option maxRecDepth 100000 in
set_option maxHeartbeats 100000 in
theorem eo_calls_n_r9 (xs : Nat → Int32)  (cz kz : Nat) : ∀ G : ez_F, fx_up (4, xs) 2 G 241 850 [ez_scr, .ref 0, .ref 35, .int 0] [.int 1, .int 0, ez_scr, .ref 35, .int (-2)] (ev_hp (ev_sI ev_I0 6 (upd (upd (ev_I0 6) 4 1) 3 1)) ev_J0 (ev_sR ev_R0 0 65) ([.inl (1, .inl (upd (fun _ => 0) 0 0))] : List ez_C)) cz kz = G 241 852 [ez_scr, .ref 0, .ref 35, .int 0] [.int (xs 1), .ref 35, .int (-2)] (ev_hp (ev_sI ev_I0 6 (upd (upd (ev_I0 6) 4 1) 3 1)) ev_J0 (ev_sR ev_R0 0 65) ([.inl (1, .inl (upd (fun _ => 0) 0 0))] : List ez_C)) cz kz := by
  intro G
  rfl
set_option maxRecDepth 100000 in
set_option maxHeartbeats 100000 in
theorem eo_calls_n_r10 (xs : Nat → Int32)  (cz kz : Nat) : ∀ G : ez_F, fx_up (4, xs) 2 G 241 852 [ez_scr, .ref 0, .ref 35, .int 0] [.int (xs 1), .ref 35, .int (-2)] (ev_hp (ev_sI ev_I0 6 (upd (upd (ev_I0 6) 4 1) 3 1)) ev_J0 (ev_sR ev_R0 0 65) ([.inl (1, .inl (upd (fun _ => 0) 0 0))] : List ez_C)) cz kz = G 241 854 [ez_scr, .ref 0, .ref 35, .int 0] [.int 0, ez_scr, .int (xs 1), .ref 35, .int (-2)] (ev_hp (ev_sI ev_I0 6 (upd (upd (ev_I0 6) 4 1) 3 1)) ev_J0 (ev_sR ev_R0 0 65) ([.inl (1, .inl (upd (fun _ => 0) 0 0))] : List ez_C)) cz kz := by
  intro G
  rfl
set_option maxRecDepth 100000 in
set_option maxHeartbeats 100000 in
theorem eo_calls_n_r11 (xs : Nat → Int32)  (cz kz : Nat) : ∀ G : ez_F, fx_up (4, xs) 2 G 241 854 [ez_scr, .ref 0, .ref 35, .int 0] [.int 0, ez_scr, .int (xs 1), .ref 35, .int (-2)] (ev_hp (ev_sI ev_I0 6 (upd (upd (ev_I0 6) 4 1) 3 1)) ev_J0 (ev_sR ev_R0 0 65) ([.inl (1, .inl (upd (fun _ => 0) 0 0))] : List ez_C)) cz kz = G 241 856 [ez_scr, .ref 0, .ref 35, .int 0] [.int 2, ez_scr, .int (xs 1), .ref 35, .int (-2)] (ev_hp (ev_sI ev_I0 6 (upd (upd (ev_I0 6) 4 1) 3 1)) ev_J0 (ev_sR ev_R0 0 65) ([.inl (1, .inl (upd (fun _ => 0) 0 0))] : List ez_C)) cz kz := by
  intro G
  rfl
set_option maxRecDepth 100000 in
set_option maxHeartbeats 100000 in
theorem eo_calls_n_r12 (xs : Nat → Int32)  (cz kz : Nat) : ∀ G : ez_F, fx_up (4, xs) 2 G 241 856 [ez_scr, .ref 0, .ref 35, .int 0] [.int 2, ez_scr, .int (xs 1), .ref 35, .int (-2)] (ev_hp (ev_sI ev_I0 6 (upd (upd (ev_I0 6) 4 1) 3 1)) ev_J0 (ev_sR ev_R0 0 65) ([.inl (1, .inl (upd (fun _ => 0) 0 0))] : List ez_C)) cz kz = ev_C G 178 [.ref 35, .int (xs 1), .int (xs 2)] (ev_hp (ev_sI ev_I0 6 (upd (upd (ev_I0 6) 4 1) 3 1)) ev_J0 (ev_sR ev_R0 0 65) ([.inl (1, .inl (upd (fun _ => 0) 0 0))] : List ez_C)) fun r h1 c1 k1 => G 241 860 [ez_scr, .ref 0, .ref 35, .int 0] (r.toList ++ [.int (-2)]) h1 (cz + c1) (kz + k1) := by
  intro G
  rfl
set_option maxRecDepth 100000 in
set_option maxHeartbeats 100000 in
theorem eo_calls_n_r13 (xs : Nat → Int32)  (cz kz : Nat) : ∀ G : ez_F, fx_up (4, xs) 2 G 241 860 [ez_scr, .ref 0, .ref 35, .int 0] [.int (-2), .int (-2)] (ev_hp (ev_sI (ev_sI (ev_sI ev_I0 6 (upd (upd (ev_I0 6) 4 1) 3 1)) 35 (upd (ev_I0 35) 14 1)) 41 (upd (upd (upd (ev_I0 41) 0 0) 1 0) 2 0)) ev_J0 (ev_sR ev_R0 0 65) ([.inl (1, .inl (upd (fun _ => 0) 0 0))] : List ez_C)) cz kz = G 241 1078 [ez_scr, .ref 0, .ref 35, .int 4] [] (ev_hp (ev_sI (ev_sI (ev_sI ev_I0 6 (upd (upd (ev_I0 6) 4 1) 3 1)) 35 (upd (ev_I0 35) 14 1)) 41 (upd (upd (upd (ev_I0 41) 0 0) 1 0) 2 0)) ev_J0 (ev_sR ev_R0 0 65) ([.inl (1, .inl (upd (fun _ => 0) 0 0))] : List ez_C)) cz kz := by
  intro G
  rfl
set_option maxRecDepth 100000 in
set_option maxHeartbeats 100000 in
theorem eo_calls_n_r14 (xs : Nat → Int32)  (cz kz : Nat) : ∀ G : ez_F, fx_up (4, xs) 2 G 241 1078 [ez_scr, .ref 0, .ref 35, .int 4] [] (ev_hp (ev_sI (ev_sI (ev_sI ev_I0 6 (upd (upd (ev_I0 6) 4 1) 3 1)) 35 (upd (ev_I0 35) 14 1)) 41 (upd (upd (upd (ev_I0 41) 0 0) 1 0) 2 0)) ev_J0 (ev_sR ev_R0 0 65) ([.inl (1, .inl (upd (fun _ => 0) 0 0))] : List ez_C)) cz kz = G 241 19 [ez_scr, .ref 0, .ref 35, .int 4] [.int 4] (ev_hp (ev_sI (ev_sI (ev_sI ev_I0 6 (upd (upd (ev_I0 6) 4 1) 3 1)) 35 (upd (ev_I0 35) 14 1)) 41 (upd (upd (upd (ev_I0 41) 0 0) 1 0) 2 0)) ev_J0 (ev_sR ev_R0 0 65) ([.inl (1, .inl (upd (fun _ => 0) 0 0))] : List ez_C)) cz kz := by
  intro G
  rfl
set_option maxRecDepth 100000 in
set_option maxHeartbeats 100000 in
theorem eo_calls_n_r15 (xs : Nat → Int32)  (cz kz : Nat) : ∀ G : ez_F, fx_up (4, xs) 2 G 241 19 [ez_scr, .ref 0, .ref 35, .int 4] [.int 4] (ev_hp (ev_sI (ev_sI (ev_sI ev_I0 6 (upd (upd (ev_I0 6) 4 1) 3 1)) 35 (upd (ev_I0 35) 14 1)) 41 (upd (upd (upd (ev_I0 41) 0 0) 1 0) 2 0)) ev_J0 (ev_sR ev_R0 0 65) ([.inl (1, .inl (upd (fun _ => 0) 0 0))] : List ez_C)) cz kz = G 241 21 [ez_scr, .ref 0, .ref 35, .int 4] [.int 4, .int 4] (ev_hp (ev_sI (ev_sI (ev_sI ev_I0 6 (upd (upd (ev_I0 6) 4 1) 3 1)) 35 (upd (ev_I0 35) 14 1)) 41 (upd (upd (upd (ev_I0 41) 0 0) 1 0) 2 0)) ev_J0 (ev_sR ev_R0 0 65) ([.inl (1, .inl (upd (fun _ => 0) 0 0))] : List ez_C)) cz kz := by
  intro G
  rfl
set_option maxRecDepth 100000 in
set_option maxHeartbeats 100000 in
theorem eo_calls_n_r16 (xs : Nat → Int32)  (cz kz : Nat) : ∀ G : ez_F, fx_up (4, xs) 2 G 241 21 [ez_scr, .ref 0, .ref 35, .int 4] [.int 4, .int 4] (ev_hp (ev_sI (ev_sI (ev_sI ev_I0 6 (upd (upd (ev_I0 6) 4 1) 3 1)) 35 (upd (ev_I0 35) 14 1)) 41 (upd (upd (upd (ev_I0 41) 0 0) 1 0) 2 0)) ev_J0 (ev_sR ev_R0 0 65) ([.inl (1, .inl (upd (fun _ => 0) 0 0))] : List ez_C)) cz kz = G 241 23 [ez_scr, .ref 0, .ref 35, .int 4] [.int 0, .int 4] (ev_hp (ev_sI (ev_sI (ev_sI ev_I0 6 (upd (upd (ev_I0 6) 4 1) 3 1)) 35 (upd (ev_I0 35) 14 1)) 41 (upd (upd (upd (ev_I0 41) 0 0) 1 0) 2 0)) ev_J0 (ev_sR ev_R0 0 65) ([.inl (1, .inl (upd (fun _ => 0) 0 0))] : List ez_C)) cz kz := by
  intro G
  rfl
set_option maxRecDepth 100000 in
set_option maxHeartbeats 100000 in
theorem eo_calls_n_r17 (xs : Nat → Int32)  (cz kz : Nat) : ∀ G : ez_F, fx_up (4, xs) 2 G 241 23 [ez_scr, .ref 0, .ref 35, .int 4] [.int 0, .int 4] (ev_hp (ev_sI (ev_sI (ev_sI ev_I0 6 (upd (upd (ev_I0 6) 4 1) 3 1)) 35 (upd (ev_I0 35) 14 1)) 41 (upd (upd (upd (ev_I0 41) 0 0) 1 0) 2 0)) ev_J0 (ev_sR ev_R0 0 65) ([.inl (1, .inl (upd (fun _ => 0) 0 0))] : List ez_C)) cz kz = G 241 1082 [ez_scr, .ref 0, .ref 35, .int 4] [.int 1] (ev_hp (ev_sI (ev_sI (ev_sI ev_I0 6 (upd (upd (ev_I0 6) 4 1) 3 1)) 35 (upd (ev_I0 35) 14 1)) 41 (upd (upd (upd (ev_I0 41) 0 0) 1 0) 2 0)) ev_J0 (ev_sR ev_R0 0 65) ([.inl (1, .inl (upd (fun _ => 0) 0 0))] : List ez_C)) cz kz := by
  intro G
  rfl
set_option maxRecDepth 100000 in
set_option maxHeartbeats 100000 in
theorem eo_calls_n_r18 (xs : Nat → Int32)  (cz kz : Nat) : ∀ G : ez_F, fx_up (4, xs) 1 G 241 1082 [ez_scr, .ref 0, .ref 35, .int 4] [.int 1] (ev_hp (ev_sI (ev_sI (ev_sI ev_I0 6 (upd (upd (ev_I0 6) 4 1) 3 1)) 35 (upd (ev_I0 35) 14 1)) 41 (upd (upd (upd (ev_I0 41) 0 0) 1 0) 2 0)) ev_J0 (ev_sR ev_R0 0 65) ([.inl (1, .inl (upd (fun _ => 0) 0 0))] : List ez_C)) cz kz = some (some (.int 1), (ev_hp (ev_sI (ev_sI (ev_sI ev_I0 6 (upd (upd (ev_I0 6) 4 1) 3 1)) 35 (upd (ev_I0 35) 14 1)) 41 (upd (upd (upd (ev_I0 41) 0 0) 1 0) 2 0)) ev_J0 (ev_sR ev_R0 0 65) ([.inl (1, .inl (upd (fun _ => 0) 0 0))] : List ez_C)), cz, kz) := by
  intro G
  rfl
theorem eo_calls_n (xs : Nat → Int32) (hb : ¬ xs 2 < 0) (ha : ev_wi (xs 1) 0 0 = 0) : ev_P1 (4, xs) 832 := by
  refine ev_seg (eo_calls_n_r1 xs  _ _) ?_
  refine ev_seg (eo_calls_n_r2 xs  _ _) ?_
  refine ev_seg (eo_calls_n_r3 xs  _ _) ?_
  refine ev_seg (eo_calls_n_r4 xs  _ _) ?_
  refine ev_seg (eo_calls_n_r5 xs  _ _) ?_
  refine ev_call (eo_calls_n_r6 xs  _ _) (ef_calls_n (4, xs) ev_I0 ev_J0 ev_R0 [] (xs 1) (xs 2) hb ha) ?_
  rintro r0 _ _ _ (⟨d109, d110, rfl, rfl, rfl, rfl⟩)
  refine ev_seg (eo_calls_n_r7 xs  _ _) ?_
  refine ev_seg (eo_calls_n_r8 xs  _ _) ?_
  refine ev_seg (eo_calls_n_r9 xs  _ _) ?_
  refine ev_seg (eo_calls_n_r10 xs  _ _) ?_
  refine ev_seg (eo_calls_n_r11 xs  _ _) ?_
  refine ev_call (eo_calls_n_r12 xs  _ _) (eh_calls_n (4, xs) (ev_sI ev_I0 6 (upd (upd (ev_I0 6) 4 1) 3 1)) ev_J0 (ev_sR ev_R0 0 65) ([.inl (1, .inl (upd (fun _ => 0) 0 0))] : List ez_C) (xs 1) (xs 2) hb ha) ?_
  rintro r0 _ _ _ (⟨d111, d112, rfl, rfl, rfl, rfl⟩)
  refine ev_seg (eo_calls_n_r13 xs  _ _) ?_
  refine ev_seg (eo_calls_n_r14 xs  _ _) ?_
  refine ev_seg (eo_calls_n_r15 xs  _ _) ?_
  refine ev_seg (eo_calls_n_r16 xs  _ _) ?_
  refine ev_seg (eo_calls_n_r17 xs  _ _) ?_
  refine ev_ret (eo_calls_n_r18 xs  _ _) ?_
  exact ⟨rfl, by omega, by omega⟩
set_option maxRecDepth 100000 in
set_option maxHeartbeats 100000 in
theorem sp_z_131_sizeOf_r1 (X : ez_X)  (cz kz : Nat) : ∀ G : ez_F, fx_up X 6 G 94 0 [.ref 3, .int 0] [] (ev_hp ev_I0 ev_J0 ev_R0 []) cz kz = some (some (.int 1), (ev_hp ev_I0 ev_J0 ev_R0 []), cz, kz) := by
  intro G
  rfl
theorem sp_z_131_sizeOf (X : ez_X) : ev_W X 94 0 (ez_lay [.ref 3, .int 0]) [] (ev_hp ev_I0 ev_J0 ev_R0 []) 0 0 (fun r h1 c1 k1 => r = (some (.int 1)) ∧ h1 = (ev_hp ev_I0 ev_J0 ev_R0 []) ∧ c1 = 0 ∧ k1 = 0) := by
  refine ev_ret (sp_z_131_sizeOf_r1 X  _ _) ?_
  exact ⟨rfl, rfl, rfl, rfl⟩
set_option maxRecDepth 100000 in
set_option maxHeartbeats 100000 in
theorem sp_z_132_sizeOf_r1 (X : ez_X)  (cz kz : Nat) : ∀ G : ez_F, fx_up X 6 G 94 0 [.ref 3, .int 1] [] (ev_hp ev_I0 ev_J0 ev_R0 []) cz kz = some (some (.int 1), (ev_hp ev_I0 ev_J0 ev_R0 []), cz, kz) := by
  intro G
  rfl
theorem sp_z_132_sizeOf (X : ez_X) : ev_W X 94 0 (ez_lay [.ref 3, .int 1]) [] (ev_hp ev_I0 ev_J0 ev_R0 []) 0 0 (fun r h1 c1 k1 => r = (some (.int 1)) ∧ h1 = (ev_hp ev_I0 ev_J0 ev_R0 []) ∧ c1 = 0 ∧ k1 = 0) := by
  refine ev_ret (sp_z_132_sizeOf_r1 X  _ _) ?_
  exact ⟨rfl, rfl, rfl, rfl⟩
set_option maxRecDepth 100000 in
set_option maxHeartbeats 100000 in
theorem sp_z_133_sizeOf_r1 (X : ez_X)  (cz kz : Nat) : ∀ G : ez_F, fx_up X 6 G 94 0 [.ref 3, .int 2] [] (ev_hp ev_I0 ev_J0 ev_R0 []) cz kz = some (some (.int 1), (ev_hp ev_I0 ev_J0 ev_R0 []), cz, kz) := by
  intro G
  rfl
theorem sp_z_133_sizeOf (X : ez_X) : ev_W X 94 0 (ez_lay [.ref 3, .int 2]) [] (ev_hp ev_I0 ev_J0 ev_R0 []) 0 0 (fun r h1 c1 k1 => r = (some (.int 1)) ∧ h1 = (ev_hp ev_I0 ev_J0 ev_R0 []) ∧ c1 = 0 ∧ k1 = 0) := by
  refine ev_ret (sp_z_133_sizeOf_r1 X  _ _) ?_
  exact ⟨rfl, rfl, rfl, rfl⟩
set_option maxRecDepth 100000 in
set_option maxHeartbeats 100000 in
theorem sp_z_130_combinations_r1 (X : ez_X)  (cz kz : Nat) : ∀ G : ez_F, fx_up X 3 G 89 0 [.ref 3] [] (ev_hp ev_I0 ev_J0 ev_R0 []) cz kz = ev_C G 94 [.ref 3, .int 0] (ev_hp ev_I0 ev_J0 ev_R0 []) fun r h1 c1 k1 => G 89 5 [.ref 3] (r.toList ++ []) h1 (cz + c1) (kz + k1) := by
  intro G
  rfl
set_option maxRecDepth 100000 in
set_option maxHeartbeats 100000 in
theorem sp_z_130_combinations_r2 (X : ez_X)  (cz kz : Nat) : ∀ G : ez_F, fx_up X 3 G 89 5 [.ref 3] [.int 1] (ev_hp ev_I0 ev_J0 ev_R0 []) cz kz = ev_C G 94 [.ref 3, .int 1] (ev_hp ev_I0 ev_J0 ev_R0 []) fun r h1 c1 k1 => G 89 10 [.ref 3] (r.toList ++ [.int 1]) h1 (cz + c1) (kz + k1) := by
  intro G
  rfl
set_option maxRecDepth 100000 in
set_option maxHeartbeats 100000 in
theorem sp_z_130_combinations_r3 (X : ez_X)  (cz kz : Nat) : ∀ G : ez_F, fx_up X 4 G 89 10 [.ref 3] [.int 1, .int 1] (ev_hp ev_I0 ev_J0 ev_R0 []) cz kz = ev_C G 94 [.ref 3, .int 2] (ev_hp ev_I0 ev_J0 ev_R0 []) fun r h1 c1 k1 => G 89 16 [.ref 3] (r.toList ++ [.int 1]) h1 (cz + c1) (kz + k1) := by
  intro G
  rfl
set_option maxRecDepth 100000 in
set_option maxHeartbeats 100000 in
theorem sp_z_130_combinations_r4 (X : ez_X)  (cz kz : Nat) : ∀ G : ez_F, fx_up X 2 G 89 16 [.ref 3] [.int 1, .int 1] (ev_hp ev_I0 ev_J0 ev_R0 []) cz kz = some (some (.int 1), (ev_hp ev_I0 ev_J0 ev_R0 []), cz, kz) := by
  intro G
  rfl
theorem sp_z_130_combinations (X : ez_X) : ev_W X 89 0 (ez_lay [.ref 3]) [] (ev_hp ev_I0 ev_J0 ev_R0 []) 0 0 (fun r h1 c1 k1 => r = (some (.int 1)) ∧ h1 = (ev_hp ev_I0 ev_J0 ev_R0 []) ∧ c1 = 0 ∧ k1 = 0) := by
  refine ev_call (sp_z_130_combinations_r1 X  _ _) (sp_z_131_sizeOf X) ?_
  rintro _ _ _ _ ⟨rfl, rfl, rfl, rfl⟩
  refine ev_call (sp_z_130_combinations_r2 X  _ _) (sp_z_132_sizeOf X) ?_
  rintro _ _ _ _ ⟨rfl, rfl, rfl, rfl⟩
  refine ev_call (sp_z_130_combinations_r3 X  _ _) (sp_z_133_sizeOf X) ?_
  rintro _ _ _ _ ⟨rfl, rfl, rfl, rfl⟩
  refine ev_ret (sp_z_130_combinations_r4 X  _ _) ?_
  exact ⟨rfl, rfl, rfl, rfl⟩
set_option maxRecDepth 100000 in
set_option maxHeartbeats 100000 in
theorem sp_z_136_sizeOf_r1 (X : ez_X)  (cz kz : Nat) : ∀ G : ez_F, fx_up X 6 G 94 0 [.ref 3, .int 0] [] (ev_hp ev_I0 ev_J0 ev_R0 []) cz kz = some (some (.int 1), (ev_hp ev_I0 ev_J0 ev_R0 []), cz, kz) := by
  intro G
  rfl
theorem sp_z_136_sizeOf (X : ez_X) : ev_W X 94 0 (ez_lay [.ref 3, .int 0]) [] (ev_hp ev_I0 ev_J0 ev_R0 []) 0 0 (fun r h1 c1 k1 => r = (some (.int 1)) ∧ h1 = (ev_hp ev_I0 ev_J0 ev_R0 []) ∧ c1 = 0 ∧ k1 = 0) := by
  refine ev_ret (sp_z_136_sizeOf_r1 X  _ _) ?_
  exact ⟨rfl, rfl, rfl, rfl⟩
set_option maxRecDepth 100000 in
set_option maxHeartbeats 100000 in
theorem sp_z_137_sizeOf_r1 (X : ez_X)  (cz kz : Nat) : ∀ G : ez_F, fx_up X 6 G 94 0 [.ref 3, .int 1] [] (ev_hp ev_I0 ev_J0 ev_R0 []) cz kz = some (some (.int 1), (ev_hp ev_I0 ev_J0 ev_R0 []), cz, kz) := by
  intro G
  rfl
theorem sp_z_137_sizeOf (X : ez_X) : ev_W X 94 0 (ez_lay [.ref 3, .int 1]) [] (ev_hp ev_I0 ev_J0 ev_R0 []) 0 0 (fun r h1 c1 k1 => r = (some (.int 1)) ∧ h1 = (ev_hp ev_I0 ev_J0 ev_R0 []) ∧ c1 = 0 ∧ k1 = 0) := by
  refine ev_ret (sp_z_137_sizeOf_r1 X  _ _) ?_
  exact ⟨rfl, rfl, rfl, rfl⟩
set_option maxRecDepth 100000 in
set_option maxHeartbeats 100000 in
theorem sp_z_138_sizeOf_r1 (X : ez_X)  (cz kz : Nat) : ∀ G : ez_F, fx_up X 6 G 94 0 [.ref 3, .int 2] [] (ev_hp ev_I0 ev_J0 ev_R0 []) cz kz = some (some (.int 1), (ev_hp ev_I0 ev_J0 ev_R0 []), cz, kz) := by
  intro G
  rfl
theorem sp_z_138_sizeOf (X : ez_X) : ev_W X 94 0 (ez_lay [.ref 3, .int 2]) [] (ev_hp ev_I0 ev_J0 ev_R0 []) 0 0 (fun r h1 c1 k1 => r = (some (.int 1)) ∧ h1 = (ev_hp ev_I0 ev_J0 ev_R0 []) ∧ c1 = 0 ∧ k1 = 0) := by
  refine ev_ret (sp_z_138_sizeOf_r1 X  _ _) ?_
  exact ⟨rfl, rfl, rfl, rfl⟩
set_option maxRecDepth 100000 in
set_option maxHeartbeats 100000 in
theorem sp_z_135_combinations_r1 (X : ez_X)  (cz kz : Nat) : ∀ G : ez_F, fx_up X 3 G 89 0 [.ref 3] [] (ev_hp ev_I0 ev_J0 ev_R0 []) cz kz = ev_C G 94 [.ref 3, .int 0] (ev_hp ev_I0 ev_J0 ev_R0 []) fun r h1 c1 k1 => G 89 5 [.ref 3] (r.toList ++ []) h1 (cz + c1) (kz + k1) := by
  intro G
  rfl
set_option maxRecDepth 100000 in
set_option maxHeartbeats 100000 in
theorem sp_z_135_combinations_r2 (X : ez_X)  (cz kz : Nat) : ∀ G : ez_F, fx_up X 3 G 89 5 [.ref 3] [.int 1] (ev_hp ev_I0 ev_J0 ev_R0 []) cz kz = ev_C G 94 [.ref 3, .int 1] (ev_hp ev_I0 ev_J0 ev_R0 []) fun r h1 c1 k1 => G 89 10 [.ref 3] (r.toList ++ [.int 1]) h1 (cz + c1) (kz + k1) := by
  intro G
  rfl
set_option maxRecDepth 100000 in
set_option maxHeartbeats 100000 in
theorem sp_z_135_combinations_r3 (X : ez_X)  (cz kz : Nat) : ∀ G : ez_F, fx_up X 4 G 89 10 [.ref 3] [.int 1, .int 1] (ev_hp ev_I0 ev_J0 ev_R0 []) cz kz = ev_C G 94 [.ref 3, .int 2] (ev_hp ev_I0 ev_J0 ev_R0 []) fun r h1 c1 k1 => G 89 16 [.ref 3] (r.toList ++ [.int 1]) h1 (cz + c1) (kz + k1) := by
  intro G
  rfl
set_option maxRecDepth 100000 in
set_option maxHeartbeats 100000 in
theorem sp_z_135_combinations_r4 (X : ez_X)  (cz kz : Nat) : ∀ G : ez_F, fx_up X 2 G 89 16 [.ref 3] [.int 1, .int 1] (ev_hp ev_I0 ev_J0 ev_R0 []) cz kz = some (some (.int 1), (ev_hp ev_I0 ev_J0 ev_R0 []), cz, kz) := by
  intro G
  rfl
theorem sp_z_135_combinations (X : ez_X) : ev_W X 89 0 (ez_lay [.ref 3]) [] (ev_hp ev_I0 ev_J0 ev_R0 []) 0 0 (fun r h1 c1 k1 => r = (some (.int 1)) ∧ h1 = (ev_hp ev_I0 ev_J0 ev_R0 []) ∧ c1 = 0 ∧ k1 = 0) := by
  refine ev_call (sp_z_135_combinations_r1 X  _ _) (sp_z_136_sizeOf X) ?_
  rintro _ _ _ _ ⟨rfl, rfl, rfl, rfl⟩
  refine ev_call (sp_z_135_combinations_r2 X  _ _) (sp_z_137_sizeOf X) ?_
  rintro _ _ _ _ ⟨rfl, rfl, rfl, rfl⟩
  refine ev_call (sp_z_135_combinations_r3 X  _ _) (sp_z_138_sizeOf X) ?_
  rintro _ _ _ _ ⟨rfl, rfl, rfl, rfl⟩
  refine ev_ret (sp_z_135_combinations_r4 X  _ _) ?_
  exact ⟨rfl, rfl, rfl, rfl⟩
set_option maxRecDepth 100000 in
set_option maxHeartbeats 100000 in
theorem sp_z_139_grown_r1 (X : ez_X)  (cz kz : Nat) : ∀ G : ez_F, fx_up X 10 G 19 0 [.int 0, .int 1] [] (ev_hp (ev_sI ev_I0 6 (upd (upd (ev_I0 6) 4 1) 3 0)) ev_J0 ev_R0 []) cz kz = some (some (.int 1), (ev_hp (ev_sI ev_I0 6 (upd (upd (ev_I0 6) 4 1) 3 0)) ev_J0 ev_R0 []), cz, kz) := by
  intro G
  rfl
theorem sp_z_139_grown (X : ez_X) : ev_W X 19 0 (ez_lay [.int 0, .int 1]) [] (ev_hp (ev_sI ev_I0 6 (upd (upd (ev_I0 6) 4 1) 3 0)) ev_J0 ev_R0 []) 0 0 (fun r h1 c1 k1 => r = (some (.int 1)) ∧ h1 = (ev_hp (ev_sI ev_I0 6 (upd (upd (ev_I0 6) 4 1) 3 0)) ev_J0 ev_R0 []) ∧ c1 = 0 ∧ k1 = 0) := by
  refine ev_ret (sp_z_139_grown_r1 X  _ _) ?_
  exact ⟨rfl, rfl, rfl, rfl⟩
set_option maxRecDepth 100000 in
set_option maxHeartbeats 100000 in
theorem sp_z_140_sizeOf_r1 (X : ez_X)  (cz kz : Nat) : ∀ G : ez_F, fx_up X 6 G 94 0 [.ref 3, .int 0] [] (ev_hp (ev_sI ev_I0 6 (upd (upd (ev_I0 6) 4 1) 3 0)) ev_J0 (ev_sR ev_R0 0 65) ([.inl (1, .inl (fun _ => 0))] : List ez_C)) cz kz = some (some (.int 1), (ev_hp (ev_sI ev_I0 6 (upd (upd (ev_I0 6) 4 1) 3 0)) ev_J0 (ev_sR ev_R0 0 65) ([.inl (1, .inl (fun _ => 0))] : List ez_C)), cz, kz) := by
  intro G
  rfl
theorem sp_z_140_sizeOf (X : ez_X) : ev_W X 94 0 (ez_lay [.ref 3, .int 0]) [] (ev_hp (ev_sI ev_I0 6 (upd (upd (ev_I0 6) 4 1) 3 0)) ev_J0 (ev_sR ev_R0 0 65) ([.inl (1, .inl (fun _ => 0))] : List ez_C)) 0 0 (fun r h1 c1 k1 => r = (some (.int 1)) ∧ h1 = (ev_hp (ev_sI ev_I0 6 (upd (upd (ev_I0 6) 4 1) 3 0)) ev_J0 (ev_sR ev_R0 0 65) ([.inl (1, .inl (fun _ => 0))] : List ez_C)) ∧ c1 = 0 ∧ k1 = 0) := by
  refine ev_ret (sp_z_140_sizeOf_r1 X  _ _) ?_
  exact ⟨rfl, rfl, rfl, rfl⟩
set_option maxRecDepth 100000 in
set_option maxHeartbeats 100000 in
theorem sp_z_141_cellsAt_r1 (X : ez_X)  (cz kz : Nat) : ∀ G : ez_F, fx_up X 12 G 86 0 [.ref 3, .int 0, .int 0] [] (ev_hp (ev_sI ev_I0 6 (upd (upd (ev_I0 6) 4 1) 3 0)) ev_J0 (ev_sR ev_R0 0 65) ([.inl (1, .inl (fun _ => 0))] : List ez_C)) cz kz = some (some (.long 0), (ev_hp (ev_sI ev_I0 6 (upd (upd (ev_I0 6) 4 1) 3 0)) ev_J0 (ev_sR ev_R0 0 65) ([.inl (1, .inl (fun _ => 0))] : List ez_C)), cz, kz) := by
  intro G
  rfl
theorem sp_z_141_cellsAt (X : ez_X) : ev_W X 86 0 (ez_lay [.ref 3, .int 0, .int 0]) [] (ev_hp (ev_sI ev_I0 6 (upd (upd (ev_I0 6) 4 1) 3 0)) ev_J0 (ev_sR ev_R0 0 65) ([.inl (1, .inl (fun _ => 0))] : List ez_C)) 0 0 (fun r h1 c1 k1 => r = (some (.long 0)) ∧ h1 = (ev_hp (ev_sI ev_I0 6 (upd (upd (ev_I0 6) 4 1) 3 0)) ev_J0 (ev_sR ev_R0 0 65) ([.inl (1, .inl (fun _ => 0))] : List ez_C)) ∧ c1 = 0 ∧ k1 = 0) := by
  refine ev_ret (sp_z_141_cellsAt_r1 X  _ _) ?_
  exact ⟨rfl, rfl, rfl, rfl⟩
set_option maxRecDepth 100000 in
set_option maxHeartbeats 100000 in
theorem sp_z_143_at_r1 (X : ez_X)  (cz kz : Nat) : ∀ G : ez_F, fx_up X 11 G 3 0 [.ref 2, .int 0] [] (ev_hp (ev_sI ev_I0 6 (upd (upd (ev_I0 6) 4 1) 3 0)) ev_J0 (ev_sR ev_R0 0 65) ([.inl (1, .inl (fun _ => 0))] : List ez_C)) cz kz = some (some (.int 0), (ev_hp (ev_sI ev_I0 6 (upd (upd (ev_I0 6) 4 1) 3 0)) ev_J0 (ev_sR ev_R0 0 65) ([.inl (1, .inl (fun _ => 0))] : List ez_C)), cz, kz) := by
  intro G
  rfl
theorem sp_z_143_at (X : ez_X) : ev_W X 3 0 (ez_lay [.ref 2, .int 0]) [] (ev_hp (ev_sI ev_I0 6 (upd (upd (ev_I0 6) 4 1) 3 0)) ev_J0 (ev_sR ev_R0 0 65) ([.inl (1, .inl (fun _ => 0))] : List ez_C)) 0 0 (fun r h1 c1 k1 => r = (some (.int 0)) ∧ h1 = (ev_hp (ev_sI ev_I0 6 (upd (upd (ev_I0 6) 4 1) 3 0)) ev_J0 (ev_sR ev_R0 0 65) ([.inl (1, .inl (fun _ => 0))] : List ez_C)) ∧ c1 = 0 ∧ k1 = 0) := by
  refine ev_ret (sp_z_143_at_r1 X  _ _) ?_
  exact ⟨rfl, rfl, rfl, rfl⟩
set_option maxRecDepth 100000 in
set_option maxHeartbeats 100000 in
theorem sp_z_142_around_r1 (X : ez_X)  (cz kz : Nat) : ∀ G : ez_F, fx_up X 4 G 144 0 [.ref 1, .long 0, ez_fill] [] (ev_hp (ev_sI ev_I0 6 (upd (upd (ev_I0 6) 4 1) 3 0)) ev_J0 (ev_sR ev_R0 0 65) ([.inl (1, .inl (fun _ => 0))] : List ez_C)) cz kz = ev_C G 3 [.ref 2, .int 0] (ev_hp (ev_sI ev_I0 6 (upd (upd (ev_I0 6) 4 1) 3 0)) ev_J0 (ev_sR ev_R0 0 65) ([.inl (1, .inl (fun _ => 0))] : List ez_C)) fun r h1 c1 k1 => G 144 8 [.ref 1, .long 0, ez_fill] (r.toList ++ []) h1 (cz + c1) (kz + k1) := by
  intro G
  rfl
set_option maxRecDepth 100000 in
set_option maxHeartbeats 100000 in
theorem sp_z_142_around_r2 (X : ez_X)  (cz kz : Nat) : ∀ G : ez_F, fx_up X 5 G 144 8 [.ref 1, .long 0, ez_fill] [.int 0] (ev_hp (ev_sI ev_I0 6 (upd (upd (ev_I0 6) 4 1) 3 0)) ev_J0 (ev_sR ev_R0 0 65) ([.inl (1, .inl (fun _ => 0))] : List ez_C)) cz kz = some (some (.long 0), (ev_hp (ev_sI ev_I0 6 (upd (upd (ev_I0 6) 4 1) 3 0)) ev_J0 (ev_sR ev_R0 0 65) ([.inl (1, .inl (fun _ => 0))] : List ez_C)), cz, kz) := by
  intro G
  rfl
theorem sp_z_142_around (X : ez_X) : ev_W X 144 0 (ez_lay [.ref 1, .long 0]) [] (ev_hp (ev_sI ev_I0 6 (upd (upd (ev_I0 6) 4 1) 3 0)) ev_J0 (ev_sR ev_R0 0 65) ([.inl (1, .inl (fun _ => 0))] : List ez_C)) 0 0 (fun r h1 c1 k1 => r = (some (.long 0)) ∧ h1 = (ev_hp (ev_sI ev_I0 6 (upd (upd (ev_I0 6) 4 1) 3 0)) ev_J0 (ev_sR ev_R0 0 65) ([.inl (1, .inl (fun _ => 0))] : List ez_C)) ∧ c1 = 0 ∧ k1 = 0) := by
  refine ev_call (sp_z_142_around_r1 X  _ _) (sp_z_143_at X) ?_
  rintro _ _ _ _ ⟨rfl, rfl, rfl, rfl⟩
  refine ev_ret (sp_z_142_around_r2 X  _ _) ?_
  exact ⟨rfl, rfl, rfl, rfl⟩
set_option maxRecDepth 100000 in
set_option maxHeartbeats 100000 in
theorem sp_z_145_sizeOf_r1 (X : ez_X)  (cz kz : Nat) : ∀ G : ez_F, fx_up X 6 G 94 0 [.ref 3, .int 1] [] (ev_hp (ev_sI ev_I0 6 (upd (upd (ev_I0 6) 4 1) 3 0)) ev_J0 (ev_sR ev_R0 0 65) ([.inl (1, .inl (fun _ => 0))] : List ez_C)) cz kz = some (some (.int 1), (ev_hp (ev_sI ev_I0 6 (upd (upd (ev_I0 6) 4 1) 3 0)) ev_J0 (ev_sR ev_R0 0 65) ([.inl (1, .inl (fun _ => 0))] : List ez_C)), cz, kz) := by
  intro G
  rfl
theorem sp_z_145_sizeOf (X : ez_X) : ev_W X 94 0 (ez_lay [.ref 3, .int 1]) [] (ev_hp (ev_sI ev_I0 6 (upd (upd (ev_I0 6) 4 1) 3 0)) ev_J0 (ev_sR ev_R0 0 65) ([.inl (1, .inl (fun _ => 0))] : List ez_C)) 0 0 (fun r h1 c1 k1 => r = (some (.int 1)) ∧ h1 = (ev_hp (ev_sI ev_I0 6 (upd (upd (ev_I0 6) 4 1) 3 0)) ev_J0 (ev_sR ev_R0 0 65) ([.inl (1, .inl (fun _ => 0))] : List ez_C)) ∧ c1 = 0 ∧ k1 = 0) := by
  refine ev_ret (sp_z_145_sizeOf_r1 X  _ _) ?_
  exact ⟨rfl, rfl, rfl, rfl⟩
set_option maxRecDepth 100000 in
set_option maxHeartbeats 100000 in
theorem sp_z_146_cellsAt_r1 (X : ez_X)  (cz kz : Nat) : ∀ G : ez_F, fx_up X 12 G 86 0 [.ref 3, .int 1, .int 0] [] (ev_hp (ev_sI ev_I0 6 (upd (upd (ev_I0 6) 4 1) 3 0)) ev_J0 (ev_sR ev_R0 0 65) ([.inl (1, .inl (fun _ => 0))] : List ez_C)) cz kz = some (some (.long 0), (ev_hp (ev_sI ev_I0 6 (upd (upd (ev_I0 6) 4 1) 3 0)) ev_J0 (ev_sR ev_R0 0 65) ([.inl (1, .inl (fun _ => 0))] : List ez_C)), cz, kz) := by
  intro G
  rfl
theorem sp_z_146_cellsAt (X : ez_X) : ev_W X 86 0 (ez_lay [.ref 3, .int 1, .int 0]) [] (ev_hp (ev_sI ev_I0 6 (upd (upd (ev_I0 6) 4 1) 3 0)) ev_J0 (ev_sR ev_R0 0 65) ([.inl (1, .inl (fun _ => 0))] : List ez_C)) 0 0 (fun r h1 c1 k1 => r = (some (.long 0)) ∧ h1 = (ev_hp (ev_sI ev_I0 6 (upd (upd (ev_I0 6) 4 1) 3 0)) ev_J0 (ev_sR ev_R0 0 65) ([.inl (1, .inl (fun _ => 0))] : List ez_C)) ∧ c1 = 0 ∧ k1 = 0) := by
  refine ev_ret (sp_z_146_cellsAt_r1 X  _ _) ?_
  exact ⟨rfl, rfl, rfl, rfl⟩
set_option maxRecDepth 100000 in
set_option maxHeartbeats 100000 in
theorem sp_z_148_at_r1 (X : ez_X)  (cz kz : Nat) : ∀ G : ez_F, fx_up X 11 G 3 0 [.ref 2, .int 0] [] (ev_hp (ev_sI ev_I0 6 (upd (upd (ev_I0 6) 4 1) 3 0)) ev_J0 (ev_sR ev_R0 0 65) ([.inl (1, .inl (fun _ => 0))] : List ez_C)) cz kz = some (some (.int 0), (ev_hp (ev_sI ev_I0 6 (upd (upd (ev_I0 6) 4 1) 3 0)) ev_J0 (ev_sR ev_R0 0 65) ([.inl (1, .inl (fun _ => 0))] : List ez_C)), cz, kz) := by
  intro G
  rfl
theorem sp_z_148_at (X : ez_X) : ev_W X 3 0 (ez_lay [.ref 2, .int 0]) [] (ev_hp (ev_sI ev_I0 6 (upd (upd (ev_I0 6) 4 1) 3 0)) ev_J0 (ev_sR ev_R0 0 65) ([.inl (1, .inl (fun _ => 0))] : List ez_C)) 0 0 (fun r h1 c1 k1 => r = (some (.int 0)) ∧ h1 = (ev_hp (ev_sI ev_I0 6 (upd (upd (ev_I0 6) 4 1) 3 0)) ev_J0 (ev_sR ev_R0 0 65) ([.inl (1, .inl (fun _ => 0))] : List ez_C)) ∧ c1 = 0 ∧ k1 = 0) := by
  refine ev_ret (sp_z_148_at_r1 X  _ _) ?_
  exact ⟨rfl, rfl, rfl, rfl⟩
set_option maxRecDepth 100000 in
set_option maxHeartbeats 100000 in
theorem sp_z_147_around_r1 (X : ez_X)  (cz kz : Nat) : ∀ G : ez_F, fx_up X 4 G 144 0 [.ref 1, .long 0, ez_fill] [] (ev_hp (ev_sI ev_I0 6 (upd (upd (ev_I0 6) 4 1) 3 0)) ev_J0 (ev_sR ev_R0 0 65) ([.inl (1, .inl (fun _ => 0))] : List ez_C)) cz kz = ev_C G 3 [.ref 2, .int 0] (ev_hp (ev_sI ev_I0 6 (upd (upd (ev_I0 6) 4 1) 3 0)) ev_J0 (ev_sR ev_R0 0 65) ([.inl (1, .inl (fun _ => 0))] : List ez_C)) fun r h1 c1 k1 => G 144 8 [.ref 1, .long 0, ez_fill] (r.toList ++ []) h1 (cz + c1) (kz + k1) := by
  intro G
  rfl
set_option maxRecDepth 100000 in
set_option maxHeartbeats 100000 in
theorem sp_z_147_around_r2 (X : ez_X)  (cz kz : Nat) : ∀ G : ez_F, fx_up X 5 G 144 8 [.ref 1, .long 0, ez_fill] [.int 0] (ev_hp (ev_sI ev_I0 6 (upd (upd (ev_I0 6) 4 1) 3 0)) ev_J0 (ev_sR ev_R0 0 65) ([.inl (1, .inl (fun _ => 0))] : List ez_C)) cz kz = some (some (.long 0), (ev_hp (ev_sI ev_I0 6 (upd (upd (ev_I0 6) 4 1) 3 0)) ev_J0 (ev_sR ev_R0 0 65) ([.inl (1, .inl (fun _ => 0))] : List ez_C)), cz, kz) := by
  intro G
  rfl
theorem sp_z_147_around (X : ez_X) : ev_W X 144 0 (ez_lay [.ref 1, .long 0]) [] (ev_hp (ev_sI ev_I0 6 (upd (upd (ev_I0 6) 4 1) 3 0)) ev_J0 (ev_sR ev_R0 0 65) ([.inl (1, .inl (fun _ => 0))] : List ez_C)) 0 0 (fun r h1 c1 k1 => r = (some (.long 0)) ∧ h1 = (ev_hp (ev_sI ev_I0 6 (upd (upd (ev_I0 6) 4 1) 3 0)) ev_J0 (ev_sR ev_R0 0 65) ([.inl (1, .inl (fun _ => 0))] : List ez_C)) ∧ c1 = 0 ∧ k1 = 0) := by
  refine ev_call (sp_z_147_around_r1 X  _ _) (sp_z_148_at X) ?_
  rintro _ _ _ _ ⟨rfl, rfl, rfl, rfl⟩
  refine ev_ret (sp_z_147_around_r2 X  _ _) ?_
  exact ⟨rfl, rfl, rfl, rfl⟩
set_option maxRecDepth 100000 in
set_option maxHeartbeats 100000 in
theorem sp_z_150_sizeOf_r1 (X : ez_X)  (cz kz : Nat) : ∀ G : ez_F, fx_up X 6 G 94 0 [.ref 3, .int 2] [] (ev_hp (ev_sI ev_I0 6 (upd (upd (ev_I0 6) 4 1) 3 0)) ev_J0 (ev_sR ev_R0 0 65) ([.inl (1, .inl (fun _ => 0))] : List ez_C)) cz kz = some (some (.int 1), (ev_hp (ev_sI ev_I0 6 (upd (upd (ev_I0 6) 4 1) 3 0)) ev_J0 (ev_sR ev_R0 0 65) ([.inl (1, .inl (fun _ => 0))] : List ez_C)), cz, kz) := by
  intro G
  rfl
theorem sp_z_150_sizeOf (X : ez_X) : ev_W X 94 0 (ez_lay [.ref 3, .int 2]) [] (ev_hp (ev_sI ev_I0 6 (upd (upd (ev_I0 6) 4 1) 3 0)) ev_J0 (ev_sR ev_R0 0 65) ([.inl (1, .inl (fun _ => 0))] : List ez_C)) 0 0 (fun r h1 c1 k1 => r = (some (.int 1)) ∧ h1 = (ev_hp (ev_sI ev_I0 6 (upd (upd (ev_I0 6) 4 1) 3 0)) ev_J0 (ev_sR ev_R0 0 65) ([.inl (1, .inl (fun _ => 0))] : List ez_C)) ∧ c1 = 0 ∧ k1 = 0) := by
  refine ev_ret (sp_z_150_sizeOf_r1 X  _ _) ?_
  exact ⟨rfl, rfl, rfl, rfl⟩
set_option maxRecDepth 100000 in
set_option maxHeartbeats 100000 in
theorem sp_z_151_cellsAt_r1 (X : ez_X)  (cz kz : Nat) : ∀ G : ez_F, fx_up X 12 G 86 0 [.ref 3, .int 2, .int 0] [] (ev_hp (ev_sI ev_I0 6 (upd (upd (ev_I0 6) 4 1) 3 0)) ev_J0 (ev_sR ev_R0 0 65) ([.inl (1, .inl (fun _ => 0))] : List ez_C)) cz kz = some (some (.long 0), (ev_hp (ev_sI ev_I0 6 (upd (upd (ev_I0 6) 4 1) 3 0)) ev_J0 (ev_sR ev_R0 0 65) ([.inl (1, .inl (fun _ => 0))] : List ez_C)), cz, kz) := by
  intro G
  rfl
theorem sp_z_151_cellsAt (X : ez_X) : ev_W X 86 0 (ez_lay [.ref 3, .int 2, .int 0]) [] (ev_hp (ev_sI ev_I0 6 (upd (upd (ev_I0 6) 4 1) 3 0)) ev_J0 (ev_sR ev_R0 0 65) ([.inl (1, .inl (fun _ => 0))] : List ez_C)) 0 0 (fun r h1 c1 k1 => r = (some (.long 0)) ∧ h1 = (ev_hp (ev_sI ev_I0 6 (upd (upd (ev_I0 6) 4 1) 3 0)) ev_J0 (ev_sR ev_R0 0 65) ([.inl (1, .inl (fun _ => 0))] : List ez_C)) ∧ c1 = 0 ∧ k1 = 0) := by
  refine ev_ret (sp_z_151_cellsAt_r1 X  _ _) ?_
  exact ⟨rfl, rfl, rfl, rfl⟩
set_option maxRecDepth 100000 in
set_option maxHeartbeats 100000 in
theorem sp_z_152_put_r1 (X : ez_X)  (cz kz : Nat) : ∀ G : ez_F, fx_up X 11 G 38 0 [.ref 65, .int 0, .int 0] [] (ev_hp (ev_sI ev_I0 6 (upd (upd (ev_I0 6) 4 1) 3 0)) ev_J0 (ev_sR ev_R0 0 65) ([.inl (1, .inl (fun _ => 0))] : List ez_C)) cz kz = some (none, (ev_hp (ev_sI ev_I0 6 (upd (upd (ev_I0 6) 4 1) 3 0)) ev_J0 (ev_sR ev_R0 0 65) ([.inl (1, .inl (upd (fun _ => 0) 0 0))] : List ez_C)), cz, kz) := by
  intro G
  rfl
theorem sp_z_152_put (X : ez_X) : ev_W X 38 0 (ez_lay [.ref 65, .int 0, .int 0]) [] (ev_hp (ev_sI ev_I0 6 (upd (upd (ev_I0 6) 4 1) 3 0)) ev_J0 (ev_sR ev_R0 0 65) ([.inl (1, .inl (fun _ => 0))] : List ez_C)) 0 0 (fun r h1 c1 k1 => r = none ∧ h1 = (ev_hp (ev_sI ev_I0 6 (upd (upd (ev_I0 6) 4 1) 3 0)) ev_J0 (ev_sR ev_R0 0 65) ([.inl (1, .inl (upd (fun _ => 0) 0 0))] : List ez_C)) ∧ c1 = 0 ∧ k1 = 0) := by
  refine ev_ret (sp_z_152_put_r1 X  _ _) ?_
  exact ⟨rfl, rfl, rfl, rfl⟩
set_option maxRecDepth 100000 in
set_option maxHeartbeats 100000 in
theorem sp_z_149_searchThird_r1 (X : ez_X)  (cz kz : Nat) : ∀ G : ez_F, fx_up X 4 G 142 0 [.ref 6, .int 0, .long 0, ez_fill] [] (ev_hp (ev_sI ev_I0 6 (upd (upd (ev_I0 6) 4 1) 3 0)) ev_J0 (ev_sR ev_R0 0 65) ([.inl (1, .inl (fun _ => 0))] : List ez_C)) cz kz = ev_C G 94 [.ref 3, .int 2] (ev_hp (ev_sI ev_I0 6 (upd (upd (ev_I0 6) 4 1) 3 0)) ev_J0 (ev_sR ev_R0 0 65) ([.inl (1, .inl (fun _ => 0))] : List ez_C)) fun r h1 c1 k1 => G 142 8 [.ref 6, .int 0, .long 0, ez_fill] (r.toList ++ []) h1 (cz + c1) (kz + k1) := by
  intro G
  rfl
set_option maxRecDepth 100000 in
set_option maxHeartbeats 100000 in
theorem sp_z_149_searchThird_r2 (X : ez_X)  (cz kz : Nat) : ∀ G : ez_F, fx_up X 11 G 142 8 [.ref 6, .int 0, .long 0, ez_fill] [.int 1] (ev_hp (ev_sI ev_I0 6 (upd (upd (ev_I0 6) 4 1) 3 0)) ev_J0 (ev_sR ev_R0 0 65) ([.inl (1, .inl (fun _ => 0))] : List ez_C)) cz kz = ev_C G 86 [.ref 3, .int 2, .int 0] (ev_hp (ev_sI ev_I0 6 (upd (upd (ev_I0 6) 4 1) 3 0)) ev_J0 (ev_sR ev_R0 0 65) ([.inl (1, .inl (fun _ => 0))] : List ez_C)) fun r h1 c1 k1 => G 142 30 [.ref 6, .int 0, .long 0, ez_fill, .int 1, .int 0] (r.toList ++ []) h1 (cz + c1) (kz + k1) := by
  intro G
  rfl
set_option maxRecDepth 100000 in
set_option maxHeartbeats 100000 in
theorem sp_z_149_searchThird_r3 (X : ez_X)  (cz kz : Nat) : ∀ G : ez_F, fx_up X 15 G 142 30 [.ref 6, .int 0, .long 0, ez_fill, .int 1, .int 0] [.long 0] (ev_hp (ev_sI ev_I0 6 (upd (upd (ev_I0 6) 4 1) 3 0)) ev_J0 (ev_sR ev_R0 0 65) ([.inl (1, .inl (fun _ => 0))] : List ez_C)) cz kz = ev_C G 38 [.ref 65, .int 0, .int 0] (ev_hp (ev_sI ev_I0 6 (upd (upd (ev_I0 6) 4 1) 3 0)) ev_J0 (ev_sR ev_R0 0 65) ([.inl (1, .inl (fun _ => 0))] : List ez_C)) fun r h1 c1 k1 => G 142 55 [.ref 6, .int 0, .long 0, ez_fill, .int 1, .int 0] (r.toList ++ []) h1 (cz + c1) (kz + k1) := by
  intro G
  rfl
set_option maxRecDepth 100000 in
set_option maxHeartbeats 100000 in
theorem sp_z_149_searchThird_r4 (X : ez_X)  (cz kz : Nat) : ∀ G : ez_F, fx_up X 12 G 142 55 [.ref 6, .int 0, .long 0, ez_fill, .int 1, .int 0] [] (ev_hp (ev_sI ev_I0 6 (upd (upd (ev_I0 6) 4 1) 3 0)) ev_J0 (ev_sR ev_R0 0 65) ([.inl (1, .inl (upd (fun _ => 0) 0 0))] : List ez_C)) cz kz = some (none, (ev_hp (ev_sI ev_I0 6 (upd (upd (ev_I0 6) 4 1) 3 1)) ev_J0 (ev_sR ev_R0 0 65) ([.inl (1, .inl (upd (fun _ => 0) 0 0))] : List ez_C)), cz, kz) := by
  intro G
  rfl
theorem sp_z_149_searchThird (X : ez_X) : ev_W X 142 0 (ez_lay [.ref 6, .int 0, .long 0]) [] (ev_hp (ev_sI ev_I0 6 (upd (upd (ev_I0 6) 4 1) 3 0)) ev_J0 (ev_sR ev_R0 0 65) ([.inl (1, .inl (fun _ => 0))] : List ez_C)) 0 0 (fun r h1 c1 k1 => r = none ∧ h1 = (ev_hp (ev_sI ev_I0 6 (upd (upd (ev_I0 6) 4 1) 3 1)) ev_J0 (ev_sR ev_R0 0 65) ([.inl (1, .inl (upd (fun _ => 0) 0 0))] : List ez_C)) ∧ c1 = 0 ∧ k1 = 0) := by
  refine ev_call (sp_z_149_searchThird_r1 X  _ _) (sp_z_150_sizeOf X) ?_
  rintro _ _ _ _ ⟨rfl, rfl, rfl, rfl⟩
  refine ev_call (sp_z_149_searchThird_r2 X  _ _) (sp_z_151_cellsAt X) ?_
  rintro _ _ _ _ ⟨rfl, rfl, rfl, rfl⟩
  refine ev_call (sp_z_149_searchThird_r3 X  _ _) (sp_z_152_put X) ?_
  rintro _ _ _ _ ⟨rfl, rfl, rfl, rfl⟩
  refine ev_ret (sp_z_149_searchThird_r4 X  _ _) ?_
  exact ⟨rfl, rfl, rfl, rfl⟩
set_option maxRecDepth 100000 in
set_option maxHeartbeats 100000 in
theorem sp_z_144_searchSecond_r1 (X : ez_X)  (cz kz : Nat) : ∀ G : ez_F, fx_up X 4 G 141 0 [.ref 6, .int 0, .long 0, ez_fill] [] (ev_hp (ev_sI ev_I0 6 (upd (upd (ev_I0 6) 4 1) 3 0)) ev_J0 (ev_sR ev_R0 0 65) ([.inl (1, .inl (fun _ => 0))] : List ez_C)) cz kz = ev_C G 94 [.ref 3, .int 1] (ev_hp (ev_sI ev_I0 6 (upd (upd (ev_I0 6) 4 1) 3 0)) ev_J0 (ev_sR ev_R0 0 65) ([.inl (1, .inl (fun _ => 0))] : List ez_C)) fun r h1 c1 k1 => G 141 8 [.ref 6, .int 0, .long 0, ez_fill] (r.toList ++ []) h1 (cz + c1) (kz + k1) := by
  intro G
  rfl
set_option maxRecDepth 100000 in
set_option maxHeartbeats 100000 in
theorem sp_z_144_searchSecond_r2 (X : ez_X)  (cz kz : Nat) : ∀ G : ez_F, fx_up X 11 G 141 8 [.ref 6, .int 0, .long 0, ez_fill] [.int 1] (ev_hp (ev_sI ev_I0 6 (upd (upd (ev_I0 6) 4 1) 3 0)) ev_J0 (ev_sR ev_R0 0 65) ([.inl (1, .inl (fun _ => 0))] : List ez_C)) cz kz = ev_C G 86 [.ref 3, .int 1, .int 0] (ev_hp (ev_sI ev_I0 6 (upd (upd (ev_I0 6) 4 1) 3 0)) ev_J0 (ev_sR ev_R0 0 65) ([.inl (1, .inl (fun _ => 0))] : List ez_C)) fun r h1 c1 k1 => G 141 30 [.ref 6, .int 0, .long 0, ez_fill, .int 1, .int 0] (r.toList ++ []) h1 (cz + c1) (kz + k1) := by
  intro G
  rfl
set_option maxRecDepth 100000 in
set_option maxHeartbeats 100000 in
theorem sp_z_144_searchSecond_r3 (X : ez_X)  (cz kz : Nat) : ∀ G : ez_F, fx_up X 18 G 141 30 [.ref 6, .int 0, .long 0, ez_fill, .int 1, .int 0] [.long 0] (ev_hp (ev_sI ev_I0 6 (upd (upd (ev_I0 6) 4 1) 3 0)) ev_J0 (ev_sR ev_R0 0 65) ([.inl (1, .inl (fun _ => 0))] : List ez_C)) cz kz = ev_C G 144 [.ref 1, .long 0] (ev_hp (ev_sI ev_I0 6 (upd (upd (ev_I0 6) 4 1) 3 0)) ev_J0 (ev_sR ev_R0 0 65) ([.inl (1, .inl (fun _ => 0))] : List ez_C)) fun r h1 c1 k1 => G 141 59 [.ref 6, .int 0, .long 0, ez_fill, .int 1, .int 0, .long 0, ez_fill] (r.toList ++ [.long 0, .int 0, .ref 6]) h1 (cz + c1) (kz + k1) := by
  intro G
  rfl
set_option maxRecDepth 100000 in
set_option maxHeartbeats 100000 in
theorem sp_z_144_searchSecond_r4 (X : ez_X)  (cz kz : Nat) : ∀ G : ez_F, fx_up X 2 G 141 59 [.ref 6, .int 0, .long 0, ez_fill, .int 1, .int 0, .long 0, ez_fill] [.long 0, .long 0, .int 0, .ref 6] (ev_hp (ev_sI ev_I0 6 (upd (upd (ev_I0 6) 4 1) 3 0)) ev_J0 (ev_sR ev_R0 0 65) ([.inl (1, .inl (fun _ => 0))] : List ez_C)) cz kz = ev_C G 142 [.ref 6, .int 0, .long 0] (ev_hp (ev_sI ev_I0 6 (upd (upd (ev_I0 6) 4 1) 3 0)) ev_J0 (ev_sR ev_R0 0 65) ([.inl (1, .inl (fun _ => 0))] : List ez_C)) fun r h1 c1 k1 => G 141 63 [.ref 6, .int 0, .long 0, ez_fill, .int 1, .int 0, .long 0, ez_fill] (r.toList ++ []) h1 (cz + c1) (kz + k1) := by
  intro G
  rfl
set_option maxRecDepth 100000 in
set_option maxHeartbeats 100000 in
theorem sp_z_144_searchSecond_r5 (X : ez_X)  (cz kz : Nat) : ∀ G : ez_F, fx_up X 6 G 141 63 [.ref 6, .int 0, .long 0, ez_fill, .int 1, .int 0, .long 0, ez_fill] [] (ev_hp (ev_sI ev_I0 6 (upd (upd (ev_I0 6) 4 1) 3 1)) ev_J0 (ev_sR ev_R0 0 65) ([.inl (1, .inl (upd (fun _ => 0) 0 0))] : List ez_C)) cz kz = some (none, (ev_hp (ev_sI ev_I0 6 (upd (upd (ev_I0 6) 4 1) 3 1)) ev_J0 (ev_sR ev_R0 0 65) ([.inl (1, .inl (upd (fun _ => 0) 0 0))] : List ez_C)), cz, kz) := by
  intro G
  rfl
theorem sp_z_144_searchSecond (X : ez_X) : ev_W X 141 0 (ez_lay [.ref 6, .int 0, .long 0]) [] (ev_hp (ev_sI ev_I0 6 (upd (upd (ev_I0 6) 4 1) 3 0)) ev_J0 (ev_sR ev_R0 0 65) ([.inl (1, .inl (fun _ => 0))] : List ez_C)) 0 0 (fun r h1 c1 k1 => r = none ∧ h1 = (ev_hp (ev_sI ev_I0 6 (upd (upd (ev_I0 6) 4 1) 3 1)) ev_J0 (ev_sR ev_R0 0 65) ([.inl (1, .inl (upd (fun _ => 0) 0 0))] : List ez_C)) ∧ c1 = 0 ∧ k1 = 0) := by
  refine ev_call (sp_z_144_searchSecond_r1 X  _ _) (sp_z_145_sizeOf X) ?_
  rintro _ _ _ _ ⟨rfl, rfl, rfl, rfl⟩
  refine ev_call (sp_z_144_searchSecond_r2 X  _ _) (sp_z_146_cellsAt X) ?_
  rintro _ _ _ _ ⟨rfl, rfl, rfl, rfl⟩
  refine ev_call (sp_z_144_searchSecond_r3 X  _ _) (sp_z_147_around X) ?_
  rintro _ _ _ _ ⟨rfl, rfl, rfl, rfl⟩
  refine ev_call (sp_z_144_searchSecond_r4 X  _ _) (sp_z_149_searchThird X) ?_
  rintro _ _ _ _ ⟨rfl, rfl, rfl, rfl⟩
  refine ev_ret (sp_z_144_searchSecond_r5 X  _ _) ?_
  exact ⟨rfl, rfl, rfl, rfl⟩
set_option maxRecDepth 100000 in
set_option maxHeartbeats 100000 in
theorem sp_z_134_search_r1 (X : ez_X)  (cz kz : Nat) : ∀ G : ez_F, fx_up X 3 G 140 0 [.ref 6] [] (ev_hp ev_I0 ev_J0 ev_R0 []) cz kz = ev_C G 89 [.ref 3] (ev_hp ev_I0 ev_J0 ev_R0 []) fun r h1 c1 k1 => G 140 7 [.ref 6] (r.toList ++ []) h1 (cz + c1) (kz + k1) := by
  intro G
  rfl
set_option maxRecDepth 100000 in
set_option maxHeartbeats 100000 in
theorem sp_z_134_search_r2 (X : ez_X)  (cz kz : Nat) : ∀ G : ez_F, fx_up X 24 G 140 7 [.ref 6] [.int 1] (ev_hp ev_I0 ev_J0 ev_R0 []) cz kz = ev_C G 19 [.int 0, .int 1] (ev_hp (ev_sI ev_I0 6 (upd (upd (ev_I0 6) 4 1) 3 0)) ev_J0 ev_R0 []) fun r h1 c1 k1 => G 140 52 [.ref 6, .int 1] (r.toList ++ [.ref 6]) h1 (cz + c1) (kz + k1) := by
  intro G
  rfl
set_option maxRecDepth 100000 in
set_option maxHeartbeats 100000 in
theorem sp_z_134_search_r3 (X : ez_X)  (cz kz : Nat) : ∀ G : ez_F, fx_up X 6 G 140 52 [.ref 6, .int 1] [.int 1, .ref 6] (ev_hp (ev_sI ev_I0 6 (upd (upd (ev_I0 6) 4 1) 3 0)) ev_J0 ev_R0 []) cz kz = ev_C G 94 [.ref 3, .int 0] (ev_hp (ev_sI ev_I0 6 (upd (upd (ev_I0 6) 4 1) 3 0)) ev_J0 (ev_sR ev_R0 0 65) ([.inl (1, .inl (fun _ => 0))] : List ez_C)) fun r h1 c1 k1 => G 140 65 [.ref 6, .int 1] (r.toList ++ []) h1 ((cz + 1) + c1) ((kz + 1) + k1) := by
  intro G
  rfl
set_option maxRecDepth 100000 in
set_option maxHeartbeats 100000 in
theorem sp_z_134_search_r4 (X : ez_X)  (cz kz : Nat) : ∀ G : ez_F, fx_up X 15 G 140 65 [.ref 6, .int 1] [.int 1] (ev_hp (ev_sI ev_I0 6 (upd (upd (ev_I0 6) 4 1) 3 0)) ev_J0 (ev_sR ev_R0 0 65) ([.inl (1, .inl (fun _ => 0))] : List ez_C)) cz kz = ev_C G 86 [.ref 3, .int 0, .int 0] (ev_hp (ev_sI ev_I0 6 (upd (upd (ev_I0 6) 4 1) 3 0)) ev_J0 (ev_sR ev_R0 0 65) ([.inl (1, .inl (fun _ => 0))] : List ez_C)) fun r h1 c1 k1 => G 140 88 [.ref 6, .int 1, .int 1, .int 0] (r.toList ++ [.ref 1, .int 0, .ref 6]) h1 (cz + c1) (kz + k1) := by
  intro G
  rfl
set_option maxRecDepth 100000 in
set_option maxHeartbeats 100000 in
theorem sp_z_134_search_r5 (X : ez_X)  (cz kz : Nat) : ∀ G : ez_F, fx_up X 1 G 140 88 [.ref 6, .int 1, .int 1, .int 0] [.long 0, .ref 1, .int 0, .ref 6] (ev_hp (ev_sI ev_I0 6 (upd (upd (ev_I0 6) 4 1) 3 0)) ev_J0 (ev_sR ev_R0 0 65) ([.inl (1, .inl (fun _ => 0))] : List ez_C)) cz kz = ev_C G 144 [.ref 1, .long 0] (ev_hp (ev_sI ev_I0 6 (upd (upd (ev_I0 6) 4 1) 3 0)) ev_J0 (ev_sR ev_R0 0 65) ([.inl (1, .inl (fun _ => 0))] : List ez_C)) fun r h1 c1 k1 => G 140 91 [.ref 6, .int 1, .int 1, .int 0] (r.toList ++ [.int 0, .ref 6]) h1 (cz + c1) (kz + k1) := by
  intro G
  rfl
set_option maxRecDepth 100000 in
set_option maxHeartbeats 100000 in
theorem sp_z_134_search_r6 (X : ez_X)  (cz kz : Nat) : ∀ G : ez_F, fx_up X 1 G 140 91 [.ref 6, .int 1, .int 1, .int 0] [.long 0, .int 0, .ref 6] (ev_hp (ev_sI ev_I0 6 (upd (upd (ev_I0 6) 4 1) 3 0)) ev_J0 (ev_sR ev_R0 0 65) ([.inl (1, .inl (fun _ => 0))] : List ez_C)) cz kz = ev_C G 141 [.ref 6, .int 0, .long 0] (ev_hp (ev_sI ev_I0 6 (upd (upd (ev_I0 6) 4 1) 3 0)) ev_J0 (ev_sR ev_R0 0 65) ([.inl (1, .inl (fun _ => 0))] : List ez_C)) fun r h1 c1 k1 => G 140 94 [.ref 6, .int 1, .int 1, .int 0] (r.toList ++ []) h1 (cz + c1) (kz + k1) := by
  intro G
  rfl
set_option maxRecDepth 100000 in
set_option maxHeartbeats 100000 in
theorem sp_z_134_search_r7 (X : ez_X)  (cz kz : Nat) : ∀ G : ez_F, fx_up X 6 G 140 94 [.ref 6, .int 1, .int 1, .int 0] [] (ev_hp (ev_sI ev_I0 6 (upd (upd (ev_I0 6) 4 1) 3 1)) ev_J0 (ev_sR ev_R0 0 65) ([.inl (1, .inl (upd (fun _ => 0) 0 0))] : List ez_C)) cz kz = some (none, (ev_hp (ev_sI ev_I0 6 (upd (upd (ev_I0 6) 4 1) 3 1)) ev_J0 (ev_sR ev_R0 0 65) ([.inl (1, .inl (upd (fun _ => 0) 0 0))] : List ez_C)), cz, kz) := by
  intro G
  rfl
theorem sp_z_134_search (X : ez_X) : ev_W X 140 0 (ez_lay [.ref 6]) [] (ev_hp ev_I0 ev_J0 ev_R0 []) 0 0 (fun r h1 c1 k1 => r = none ∧ h1 = (ev_hp (ev_sI ev_I0 6 (upd (upd (ev_I0 6) 4 1) 3 1)) ev_J0 (ev_sR ev_R0 0 65) ([.inl (1, .inl (upd (fun _ => 0) 0 0))] : List ez_C)) ∧ c1 = 1 ∧ k1 = 1) := by
  refine ev_call (sp_z_134_search_r1 X  _ _) (sp_z_135_combinations X) ?_
  rintro _ _ _ _ ⟨rfl, rfl, rfl, rfl⟩
  refine ev_call (sp_z_134_search_r2 X  _ _) (sp_z_139_grown X) ?_
  rintro _ _ _ _ ⟨rfl, rfl, rfl, rfl⟩
  refine ev_call (sp_z_134_search_r3 X  _ _) (sp_z_140_sizeOf X) ?_
  rintro _ _ _ _ ⟨rfl, rfl, rfl, rfl⟩
  refine ev_call (sp_z_134_search_r4 X  _ _) (sp_z_141_cellsAt X) ?_
  rintro _ _ _ _ ⟨rfl, rfl, rfl, rfl⟩
  refine ev_call (sp_z_134_search_r5 X  _ _) (sp_z_142_around X) ?_
  rintro _ _ _ _ ⟨rfl, rfl, rfl, rfl⟩
  refine ev_call (sp_z_134_search_r6 X  _ _) (sp_z_144_searchSecond X) ?_
  rintro _ _ _ _ ⟨rfl, rfl, rfl, rfl⟩
  refine ev_ret (sp_z_134_search_r7 X  _ _) ?_
  exact ⟨rfl, rfl, rfl, rfl⟩
set_option maxRecDepth 100000 in
set_option maxHeartbeats 100000 in
theorem sp_z_129_tooMany_r1 (X : ez_X)  (cz kz : Nat) : ∀ G : ez_F, fx_up X 3 G 52 0 [.ref 0] [] (ev_hp ev_I0 ev_J0 ev_R0 []) cz kz = ev_C G 89 [.ref 3] (ev_hp ev_I0 ev_J0 ev_R0 []) fun r h1 c1 k1 => G 52 7 [.ref 0] (r.toList ++ []) h1 (cz + c1) (kz + k1) := by
  intro G
  rfl
set_option maxRecDepth 100000 in
set_option maxHeartbeats 100000 in
theorem sp_z_129_tooMany_r2 (X : ez_X)  (cz kz : Nat) : ∀ G : ez_F, fx_up X 5 G 52 7 [.ref 0] [.int 1] (ev_hp ev_I0 ev_J0 ev_R0 []) cz kz = ev_C G 140 [.ref 6] (ev_hp ev_I0 ev_J0 ev_R0 []) fun r h1 c1 k1 => G 52 22 [.ref 0] (r.toList ++ []) h1 (cz + c1) (kz + k1) := by
  intro G
  rfl
set_option maxRecDepth 100000 in
set_option maxHeartbeats 100000 in
theorem sp_z_129_tooMany_r3 (X : ez_X)  (cz kz : Nat) : ∀ G : ez_F, fx_up X 2 G 52 22 [.ref 0] [] (ev_hp (ev_sI ev_I0 6 (upd (upd (ev_I0 6) 4 1) 3 1)) ev_J0 (ev_sR ev_R0 0 65) ([.inl (1, .inl (upd (fun _ => 0) 0 0))] : List ez_C)) cz kz = some (some (.int 0), (ev_hp (ev_sI ev_I0 6 (upd (upd (ev_I0 6) 4 1) 3 1)) ev_J0 (ev_sR ev_R0 0 65) ([.inl (1, .inl (upd (fun _ => 0) 0 0))] : List ez_C)), cz, kz) := by
  intro G
  rfl
theorem sp_z_129_tooMany (X : ez_X) : ev_W X 52 0 (ez_lay [.ref 0]) [] (ev_hp ev_I0 ev_J0 ev_R0 []) 0 0 (fun r h1 c1 k1 => r = (some (.int 0)) ∧ h1 = (ev_hp (ev_sI ev_I0 6 (upd (upd (ev_I0 6) 4 1) 3 1)) ev_J0 (ev_sR ev_R0 0 65) ([.inl (1, .inl (upd (fun _ => 0) 0 0))] : List ez_C)) ∧ c1 = 1 ∧ k1 = 1) := by
  refine ev_call (sp_z_129_tooMany_r1 X  _ _) (sp_z_130_combinations X) ?_
  rintro _ _ _ _ ⟨rfl, rfl, rfl, rfl⟩
  refine ev_call (sp_z_129_tooMany_r2 X  _ _) (sp_z_134_search X) ?_
  rintro _ _ _ _ ⟨rfl, rfl, rfl, rfl⟩
  refine ev_ret (sp_z_129_tooMany_r3 X  _ _) ?_
  exact ⟨rfl, rfl, rfl, rfl⟩
set_option maxRecDepth 100000 in
set_option maxHeartbeats 100000 in
theorem sp_z_154_within_r1 (X : ez_X)  (cz kz : Nat) : ∀ G : ez_F, fx_up X 9 G 55 0 [.int 0, .int 0, .int 0] [] (ev_hp (ev_sI ev_I0 6 (upd (upd (ev_I0 6) 4 1) 3 1)) ev_J0 (ev_sR ev_R0 0 65) ([.inl (1, .inl (upd (fun _ => 0) 0 0))] : List ez_C)) cz kz = some (some (.int 1), (ev_hp (ev_sI ev_I0 6 (upd (upd (ev_I0 6) 4 1) 3 1)) ev_J0 (ev_sR ev_R0 0 65) ([.inl (1, .inl (upd (fun _ => 0) 0 0))] : List ez_C)), cz, kz) := by
  intro G
  rfl
theorem sp_z_154_within (X : ez_X) : ev_W X 55 0 (ez_lay [.int 0, .int 0, .int 0]) [] (ev_hp (ev_sI ev_I0 6 (upd (upd (ev_I0 6) 4 1) 3 1)) ev_J0 (ev_sR ev_R0 0 65) ([.inl (1, .inl (upd (fun _ => 0) 0 0))] : List ez_C)) 0 0 (fun r h1 c1 k1 => r = (some (.int 1)) ∧ h1 = (ev_hp (ev_sI ev_I0 6 (upd (upd (ev_I0 6) 4 1) 3 1)) ev_J0 (ev_sR ev_R0 0 65) ([.inl (1, .inl (upd (fun _ => 0) 0 0))] : List ez_C)) ∧ c1 = 0 ∧ k1 = 0) := by
  refine ev_ret (sp_z_154_within_r1 X  _ _) ?_
  exact ⟨rfl, rfl, rfl, rfl⟩
set_option maxRecDepth 100000 in
set_option maxHeartbeats 100000 in
theorem sp_z_153_isLaying_r1 (X : ez_X)  (cz kz : Nat) : ∀ G : ez_F, fx_up X 8 G 23 0 [.ref 0, .int 0] [] (ev_hp (ev_sI ev_I0 6 (upd (upd (ev_I0 6) 4 1) 3 1)) ev_J0 (ev_sR ev_R0 0 65) ([.inl (1, .inl (upd (fun _ => 0) 0 0))] : List ez_C)) cz kz = ev_C G 55 [.int 0, .int 0, .int 0] (ev_hp (ev_sI ev_I0 6 (upd (upd (ev_I0 6) 4 1) 3 1)) ev_J0 (ev_sR ev_R0 0 65) ([.inl (1, .inl (upd (fun _ => 0) 0 0))] : List ez_C)) fun r h1 c1 k1 => G 23 14 [.ref 0, .int 0] (r.toList ++ []) h1 (cz + c1) (kz + k1) := by
  intro G
  rfl
set_option maxRecDepth 100000 in
set_option maxHeartbeats 100000 in
theorem sp_z_153_isLaying_r2 (X : ez_X)  (cz kz : Nat) : ∀ G : ez_F, fx_up X 1 G 23 14 [.ref 0, .int 0] [.int 1] (ev_hp (ev_sI ev_I0 6 (upd (upd (ev_I0 6) 4 1) 3 1)) ev_J0 (ev_sR ev_R0 0 65) ([.inl (1, .inl (upd (fun _ => 0) 0 0))] : List ez_C)) cz kz = some (some (.int 1), (ev_hp (ev_sI ev_I0 6 (upd (upd (ev_I0 6) 4 1) 3 1)) ev_J0 (ev_sR ev_R0 0 65) ([.inl (1, .inl (upd (fun _ => 0) 0 0))] : List ez_C)), cz, kz) := by
  intro G
  rfl
theorem sp_z_153_isLaying (X : ez_X) : ev_W X 23 0 (ez_lay [.ref 0, .int 0]) [] (ev_hp (ev_sI ev_I0 6 (upd (upd (ev_I0 6) 4 1) 3 1)) ev_J0 (ev_sR ev_R0 0 65) ([.inl (1, .inl (upd (fun _ => 0) 0 0))] : List ez_C)) 0 0 (fun r h1 c1 k1 => r = (some (.int 1)) ∧ h1 = (ev_hp (ev_sI ev_I0 6 (upd (upd (ev_I0 6) 4 1) 3 1)) ev_J0 (ev_sR ev_R0 0 65) ([.inl (1, .inl (upd (fun _ => 0) 0 0))] : List ez_C)) ∧ c1 = 0 ∧ k1 = 0) := by
  refine ev_call (sp_z_153_isLaying_r1 X  _ _) (sp_z_154_within X) ?_
  rintro _ _ _ _ ⟨rfl, rfl, rfl, rfl⟩
  refine ev_ret (sp_z_153_isLaying_r2 X  _ _) ?_
  exact ⟨rfl, rfl, rfl, rfl⟩
set_option maxRecDepth 100000 in
set_option maxHeartbeats 100000 in
theorem sp_z_157_grown_r1 (X : ez_X)  (cz kz : Nat) : ∀ G : ez_F, fx_up X 10 G 19 0 [.int 0, .int 1] [] (ev_hp (ev_sI ev_I0 6 (upd (upd (ev_I0 6) 4 1) 3 1)) ev_J0 (ev_sR ev_R0 0 65) ([.inl (1, .inl (upd (fun _ => 0) 0 0))] : List ez_C)) cz kz = some (some (.int 1), (ev_hp (ev_sI ev_I0 6 (upd (upd (ev_I0 6) 4 1) 3 1)) ev_J0 (ev_sR ev_R0 0 65) ([.inl (1, .inl (upd (fun _ => 0) 0 0))] : List ez_C)), cz, kz) := by
  intro G
  rfl
theorem sp_z_157_grown (X : ez_X) : ev_W X 19 0 (ez_lay [.int 0, .int 1]) [] (ev_hp (ev_sI ev_I0 6 (upd (upd (ev_I0 6) 4 1) 3 1)) ev_J0 (ev_sR ev_R0 0 65) ([.inl (1, .inl (upd (fun _ => 0) 0 0))] : List ez_C)) 0 0 (fun r h1 c1 k1 => r = (some (.int 1)) ∧ h1 = (ev_hp (ev_sI ev_I0 6 (upd (upd (ev_I0 6) 4 1) 3 1)) ev_J0 (ev_sR ev_R0 0 65) ([.inl (1, .inl (upd (fun _ => 0) 0 0))] : List ez_C)) ∧ c1 = 0 ∧ k1 = 0) := by
  refine ev_ret (sp_z_157_grown_r1 X  _ _) ?_
  exact ⟨rfl, rfl, rfl, rfl⟩
set_option maxRecDepth 100000 in
set_option maxHeartbeats 100000 in
theorem sp_z_158_put_r1 (X : ez_X)  (cz kz : Nat) : ∀ G : ez_F, fx_up X 11 G 38 0 [.ref 66, .int 0, .int 0] [] (ev_hp (ev_sI ev_I0 6 (upd (upd (ev_I0 6) 4 1) 3 1)) ev_J0 (ev_sR (ev_sR ev_R0 0 65) 4 66) ([.inl (1, .inl (upd (fun _ => 0) 0 0)), .inl (1, .inl (fun _ => 0))] : List ez_C)) cz kz = some (none, (ev_hp (ev_sI ev_I0 6 (upd (upd (ev_I0 6) 4 1) 3 1)) ev_J0 (ev_sR (ev_sR ev_R0 0 65) 4 66) ([.inl (1, .inl (upd (fun _ => 0) 0 0)), .inl (1, .inl (upd (fun _ => 0) 0 0))] : List ez_C)), cz, kz) := by
  intro G
  rfl
theorem sp_z_158_put (X : ez_X) : ev_W X 38 0 (ez_lay [.ref 66, .int 0, .int 0]) [] (ev_hp (ev_sI ev_I0 6 (upd (upd (ev_I0 6) 4 1) 3 1)) ev_J0 (ev_sR (ev_sR ev_R0 0 65) 4 66) ([.inl (1, .inl (upd (fun _ => 0) 0 0)), .inl (1, .inl (fun _ => 0))] : List ez_C)) 0 0 (fun r h1 c1 k1 => r = none ∧ h1 = (ev_hp (ev_sI ev_I0 6 (upd (upd (ev_I0 6) 4 1) 3 1)) ev_J0 (ev_sR (ev_sR ev_R0 0 65) 4 66) ([.inl (1, .inl (upd (fun _ => 0) 0 0)), .inl (1, .inl (upd (fun _ => 0) 0 0))] : List ez_C)) ∧ c1 = 0 ∧ k1 = 0) := by
  refine ev_ret (sp_z_158_put_r1 X  _ _) ?_
  exact ⟨rfl, rfl, rfl, rfl⟩
set_option maxRecDepth 100000 in
set_option maxHeartbeats 100000 in
theorem sp_z_156_putInOrder_r1 (X : ez_X)  (cz kz : Nat) : ∀ G : ez_F, fx_up X 15 G 66 0 [.ref 22] [] (ev_hp (ev_sI ev_I0 6 (upd (upd (ev_I0 6) 4 1) 3 1)) ev_J0 (ev_sR ev_R0 0 65) ([.inl (1, .inl (upd (fun _ => 0) 0 0))] : List ez_C)) cz kz = ev_C G 19 [.int 0, .int 1] (ev_hp (ev_sI ev_I0 6 (upd (upd (ev_I0 6) 4 1) 3 1)) ev_J0 (ev_sR ev_R0 0 65) ([.inl (1, .inl (upd (fun _ => 0) 0 0))] : List ez_C)) fun r h1 c1 k1 => G 66 27 [.ref 22, .int 1] (r.toList ++ [.ref 22]) h1 (cz + c1) (kz + k1) := by
  intro G
  rfl
set_option maxRecDepth 100000 in
set_option maxHeartbeats 100000 in
theorem sp_z_156_putInOrder_r2 (X : ez_X)  (cz kz : Nat) : ∀ G : ez_F, fx_up X 12 G 66 27 [.ref 22, .int 1] [.int 1, .ref 22] (ev_hp (ev_sI ev_I0 6 (upd (upd (ev_I0 6) 4 1) 3 1)) ev_J0 (ev_sR ev_R0 0 65) ([.inl (1, .inl (upd (fun _ => 0) 0 0))] : List ez_C)) cz kz = ev_C G 38 [.ref 66, .int 0, .int 0] (ev_hp (ev_sI ev_I0 6 (upd (upd (ev_I0 6) 4 1) 3 1)) ev_J0 (ev_sR (ev_sR ev_R0 0 65) 4 66) ([.inl (1, .inl (upd (fun _ => 0) 0 0)), .inl (1, .inl (fun _ => 0))] : List ez_C)) fun r h1 c1 k1 => G 66 48 [.ref 22, .int 1, .int 0] (r.toList ++ []) h1 ((cz + 1) + c1) ((kz + 1) + k1) := by
  intro G
  rfl
set_option maxRecDepth 100000 in
set_option maxHeartbeats 100000 in
theorem sp_z_156_putInOrder_r3 (X : ez_X)  (cz kz : Nat) : ∀ G : ez_F, fx_up X 6 G 66 48 [.ref 22, .int 1, .int 0] [] (ev_hp (ev_sI ev_I0 6 (upd (upd (ev_I0 6) 4 1) 3 1)) ev_J0 (ev_sR (ev_sR ev_R0 0 65) 4 66) ([.inl (1, .inl (upd (fun _ => 0) 0 0)), .inl (1, .inl (upd (fun _ => 0) 0 0))] : List ez_C)) cz kz = some (none, (ev_hp (ev_sI ev_I0 6 (upd (upd (ev_I0 6) 4 1) 3 1)) ev_J0 (ev_sR (ev_sR ev_R0 0 65) 4 66) ([.inl (1, .inl (upd (fun _ => 0) 0 0)), .inl (1, .inl (upd (fun _ => 0) 0 0))] : List ez_C)), cz, kz) := by
  intro G
  rfl
theorem sp_z_156_putInOrder (X : ez_X) : ev_W X 66 0 (ez_lay [.ref 22]) [] (ev_hp (ev_sI ev_I0 6 (upd (upd (ev_I0 6) 4 1) 3 1)) ev_J0 (ev_sR ev_R0 0 65) ([.inl (1, .inl (upd (fun _ => 0) 0 0))] : List ez_C)) 0 0 (fun r h1 c1 k1 => r = none ∧ h1 = (ev_hp (ev_sI ev_I0 6 (upd (upd (ev_I0 6) 4 1) 3 1)) ev_J0 (ev_sR (ev_sR ev_R0 0 65) 4 66) ([.inl (1, .inl (upd (fun _ => 0) 0 0)), .inl (1, .inl (upd (fun _ => 0) 0 0))] : List ez_C)) ∧ c1 = 1 ∧ k1 = 1) := by
  refine ev_call (sp_z_156_putInOrder_r1 X  _ _) (sp_z_157_grown X) ?_
  rintro _ _ _ _ ⟨rfl, rfl, rfl, rfl⟩
  refine ev_call (sp_z_156_putInOrder_r2 X  _ _) (sp_z_158_put X) ?_
  rintro _ _ _ _ ⟨rfl, rfl, rfl, rfl⟩
  refine ev_ret (sp_z_156_putInOrder_r3 X  _ _) ?_
  exact ⟨rfl, rfl, rfl, rfl⟩
set_option maxRecDepth 100000 in
set_option maxHeartbeats 100000 in
theorem sp_z_159_chosen_r1 (X : ez_X)  (cz kz : Nat) : ∀ G : ez_F, fx_up X 7 G 61 0 [.ref 22, .int 0, .int 1, .long 0, ez_fill] [] (ev_hp (ev_sI (ev_sI ev_I0 6 (upd (upd (ev_I0 6) 4 1) 3 1)) 22 (upd (upd (ev_I0 22) 11 0) 10 0)) ev_J0 (ev_sR (ev_sR ev_R0 0 65) 4 66) ([.inl (1, .inl (upd (fun _ => 0) 0 0)), .inl (1, .inl (upd (fun _ => 0) 0 0))] : List ez_C)) cz kz = some (some (.int (-1)), (ev_hp (ev_sI (ev_sI ev_I0 6 (upd (upd (ev_I0 6) 4 1) 3 1)) 22 (upd (upd (ev_I0 22) 11 0) 10 0)) ev_J0 (ev_sR (ev_sR ev_R0 0 65) 4 66) ([.inl (1, .inl (upd (fun _ => 0) 0 0)), .inl (1, .inl (upd (fun _ => 0) 0 0))] : List ez_C)), cz, kz) := by
  intro G
  rfl
theorem sp_z_159_chosen (X : ez_X) : ev_W X 61 0 (ez_lay [.ref 22, .int 0, .int 1, .long 0]) [] (ev_hp (ev_sI (ev_sI ev_I0 6 (upd (upd (ev_I0 6) 4 1) 3 1)) 22 (upd (upd (ev_I0 22) 11 0) 10 0)) ev_J0 (ev_sR (ev_sR ev_R0 0 65) 4 66) ([.inl (1, .inl (upd (fun _ => 0) 0 0)), .inl (1, .inl (upd (fun _ => 0) 0 0))] : List ez_C)) 0 0 (fun r h1 c1 k1 => r = (some (.int (-1))) ∧ h1 = (ev_hp (ev_sI (ev_sI ev_I0 6 (upd (upd (ev_I0 6) 4 1) 3 1)) 22 (upd (upd (ev_I0 22) 11 0) 10 0)) ev_J0 (ev_sR (ev_sR ev_R0 0 65) 4 66) ([.inl (1, .inl (upd (fun _ => 0) 0 0)), .inl (1, .inl (upd (fun _ => 0) 0 0))] : List ez_C)) ∧ c1 = 0 ∧ k1 = 0) := by
  refine ev_ret (sp_z_159_chosen_r1 X  _ _) ?_
  exact ⟨rfl, rfl, rfl, rfl⟩
set_option maxRecDepth 100000 in
set_option maxHeartbeats 100000 in
theorem sp_z_155_trace_r1 (X : ez_X)  (cz kz : Nat) : ∀ G : ez_F, fx_up X 6 G 70 0 [.ref 22, .int 0] [] (ev_hp (ev_sI ev_I0 6 (upd (upd (ev_I0 6) 4 1) 3 1)) ev_J0 (ev_sR ev_R0 0 65) ([.inl (1, .inl (upd (fun _ => 0) 0 0))] : List ez_C)) cz kz = ev_C G 66 [.ref 22] (ev_hp (ev_sI ev_I0 6 (upd (upd (ev_I0 6) 4 1) 3 1)) ev_J0 (ev_sR ev_R0 0 65) ([.inl (1, .inl (upd (fun _ => 0) 0 0))] : List ez_C)) fun r h1 c1 k1 => G 70 13 [.ref 22, .int 0] (r.toList ++ []) h1 (cz + c1) (kz + k1) := by
  intro G
  rfl
set_option maxRecDepth 100000 in
set_option maxHeartbeats 100000 in
theorem sp_z_155_trace_r2 (X : ez_X)  (cz kz : Nat) : ∀ G : ez_F, fx_up X 22 G 70 13 [.ref 22, .int 0] [] (ev_hp (ev_sI ev_I0 6 (upd (upd (ev_I0 6) 4 1) 3 1)) ev_J0 (ev_sR (ev_sR ev_R0 0 65) 4 66) ([.inl (1, .inl (upd (fun _ => 0) 0 0)), .inl (1, .inl (upd (fun _ => 0) 0 0))] : List ez_C)) cz kz = ev_C G 61 [.ref 22, .int 0, .int 1, .long 0] (ev_hp (ev_sI (ev_sI ev_I0 6 (upd (upd (ev_I0 6) 4 1) 3 1)) 22 (upd (upd (ev_I0 22) 11 0) 10 0)) ev_J0 (ev_sR (ev_sR ev_R0 0 65) 4 66) ([.inl (1, .inl (upd (fun _ => 0) 0 0)), .inl (1, .inl (upd (fun _ => 0) 0 0))] : List ez_C)) fun r h1 c1 k1 => G 70 50 [.ref 22, .int 0, .int 1, .long 0, ez_fill, .int 0] (r.toList ++ []) h1 (cz + c1) (kz + k1) := by
  intro G
  rfl
set_option maxRecDepth 100000 in
set_option maxHeartbeats 100000 in
theorem sp_z_155_trace_r3 (X : ez_X)  (cz kz : Nat) : ∀ G : ez_F, fx_up X 5 G 70 50 [.ref 22, .int 0, .int 1, .long 0, ez_fill, .int 0] [.int (-1)] (ev_hp (ev_sI (ev_sI ev_I0 6 (upd (upd (ev_I0 6) 4 1) 3 1)) 22 (upd (upd (ev_I0 22) 11 0) 10 0)) ev_J0 (ev_sR (ev_sR ev_R0 0 65) 4 66) ([.inl (1, .inl (upd (fun _ => 0) 0 0)), .inl (1, .inl (upd (fun _ => 0) 0 0))] : List ez_C)) cz kz = some (none, (ev_hp (ev_sI (ev_sI ev_I0 6 (upd (upd (ev_I0 6) 4 1) 3 1)) 22 (upd (upd (ev_I0 22) 11 0) 10 0)) ev_J0 (ev_sR (ev_sR ev_R0 0 65) 4 66) ([.inl (1, .inl (upd (fun _ => 0) 0 0)), .inl (1, .inl (upd (fun _ => 0) 0 0))] : List ez_C)), cz, kz) := by
  intro G
  rfl
theorem sp_z_155_trace (X : ez_X) : ev_W X 70 0 (ez_lay [.ref 22, .int 0]) [] (ev_hp (ev_sI ev_I0 6 (upd (upd (ev_I0 6) 4 1) 3 1)) ev_J0 (ev_sR ev_R0 0 65) ([.inl (1, .inl (upd (fun _ => 0) 0 0))] : List ez_C)) 0 0 (fun r h1 c1 k1 => r = none ∧ h1 = (ev_hp (ev_sI (ev_sI ev_I0 6 (upd (upd (ev_I0 6) 4 1) 3 1)) 22 (upd (upd (ev_I0 22) 11 0) 10 0)) ev_J0 (ev_sR (ev_sR ev_R0 0 65) 4 66) ([.inl (1, .inl (upd (fun _ => 0) 0 0)), .inl (1, .inl (upd (fun _ => 0) 0 0))] : List ez_C)) ∧ c1 = 1 ∧ k1 = 1) := by
  refine ev_call (sp_z_155_trace_r1 X  _ _) (sp_z_156_putInOrder X) ?_
  rintro _ _ _ _ ⟨rfl, rfl, rfl, rfl⟩
  refine ev_call (sp_z_155_trace_r2 X  _ _) (sp_z_159_chosen X) ?_
  rintro _ _ _ _ ⟨rfl, rfl, rfl, rfl⟩
  refine ev_ret (sp_z_155_trace_r3 X  _ _) ?_
  exact ⟨rfl, rfl, rfl, rfl⟩
set_option maxRecDepth 100000 in
set_option maxHeartbeats 100000 in
theorem sq_2_cellAt_r1 (X : ez_X) (I : Nat → Nat → Int32) (J : Nat → Nat → Int64) (R : Nat → Nat) (T : List ez_C) (b : Int32) (cz kz : Nat) : ∀ G : ez_F, fx_up X 4 G 60 0 [.ref 22, .int b] [] (ev_hp (ev_sI (ev_sI ev_I0 6 (upd (upd (ev_I0 6) 4 1) 3 1)) 22 (upd (upd (ev_I0 22) 11 0) 10 0)) ev_J0 (ev_sR (ev_sR ev_R0 0 65) 4 66) ([.inl (1, .inl (upd (fun _ => 0) 0 0)), .inl (1, .inl (upd (fun _ => 0) 0 0))] : List ez_C)) cz kz = bif decide (0 ≤ b) then G 60 19 [.ref 22, .int b] [] (ev_hp (ev_sI (ev_sI ev_I0 6 (upd (upd (ev_I0 6) 4 1) 3 1)) 22 (upd (upd (ev_I0 22) 11 0) 10 0)) ev_J0 (ev_sR (ev_sR ev_R0 0 65) 4 66) ([.inl (1, .inl (upd (fun _ => 0) 0 0)), .inl (1, .inl (upd (fun _ => 0) 0 0))] : List ez_C)) cz kz else G 60 8 [.ref 22, .int b] [] (ev_hp (ev_sI (ev_sI ev_I0 6 (upd (upd (ev_I0 6) 4 1) 3 1)) 22 (upd (upd (ev_I0 22) 11 0) 10 0)) ev_J0 (ev_sR (ev_sR ev_R0 0 65) 4 66) ([.inl (1, .inl (upd (fun _ => 0) 0 0)), .inl (1, .inl (upd (fun _ => 0) 0 0))] : List ez_C)) cz kz := by
  intro G
  rfl
set_option maxRecDepth 100000 in
set_option maxHeartbeats 100000 in
theorem sq_2_cellAt_r2 (X : ez_X) (I : Nat → Nat → Int32) (J : Nat → Nat → Int64) (R : Nat → Nat) (T : List ez_C) (b : Int32) (cz kz : Nat) : ∀ G : ez_F, fx_up X 2 G 60 19 [.ref 22, .int b] [] (ev_hp (ev_sI (ev_sI ev_I0 6 (upd (upd (ev_I0 6) 4 1) 3 1)) 22 (upd (upd (ev_I0 22) 11 0) 10 0)) ev_J0 (ev_sR (ev_sR ev_R0 0 65) 4 66) ([.inl (1, .inl (upd (fun _ => 0) 0 0)), .inl (1, .inl (upd (fun _ => 0) 0 0))] : List ez_C)) cz kz = some (some (.int (-1)), (ev_hp (ev_sI (ev_sI ev_I0 6 (upd (upd (ev_I0 6) 4 1) 3 1)) 22 (upd (upd (ev_I0 22) 11 0) 10 0)) ev_J0 (ev_sR (ev_sR ev_R0 0 65) 4 66) ([.inl (1, .inl (upd (fun _ => 0) 0 0)), .inl (1, .inl (upd (fun _ => 0) 0 0))] : List ez_C)), cz, kz) := by
  intro G
  rfl
theorem sq_2_cellAt (X : ez_X) (I : Nat → Nat → Int32) (J : Nat → Nat → Int64) (R : Nat → Nat) (T : List ez_C) (b : Int32) (hb : ¬ b < 0) : ev_W X 60 0 (ez_lay [.ref 22, .int b]) [] (ev_hp (ev_sI (ev_sI ev_I0 6 (upd (upd (ev_I0 6) 4 1) 3 1)) 22 (upd (upd (ev_I0 22) 11 0) 10 0)) ev_J0 (ev_sR (ev_sR ev_R0 0 65) 4 66) ([.inl (1, .inl (upd (fun _ => 0) 0 0)), .inl (1, .inl (upd (fun _ => 0) 0 0))] : List ez_C)) 0 0 (fun r h1 c1 k1 => ((0 ≤ b) ∧ r = some (.int (-1)) ∧ h1 = (ev_hp (ev_sI (ev_sI ev_I0 6 (upd (upd (ev_I0 6) 4 1) 3 1)) 22 (upd (upd (ev_I0 22) 11 0) 10 0)) ev_J0 (ev_sR (ev_sR ev_R0 0 65) 4 66) ([.inl (1, .inl (upd (fun _ => 0) 0 0)), .inl (1, .inl (upd (fun _ => 0) 0 0))] : List ez_C)) ∧ c1 = 0 ∧ k1 = 0)) := by
  refine ev_if (sq_2_cellAt_r1 X I J R T b _ _) (fun b1 => ?_) (fun b1 => ?_)
  · replace b1 := of_decide_eq_true b1
    refine ev_ret (sq_2_cellAt_r2 X I J R T b _ _) ?_
    exact ⟨b1, rfl, rfl, rfl, rfl⟩
  · replace b1 := of_decide_eq_false b1
    exact absurd (Int32.not_lt.mp hb) b1
set_option maxRecDepth 100000 in
set_option maxHeartbeats 100000 in
theorem ef_calls_o_r1 (X : ez_X) (I : Nat → Nat → Int32) (J : Nat → Nat → Int64) (R : Nat → Nat) (T : List ez_C) (b : Int32) (cz kz : Nat) : ∀ G : ez_F, fx_up X 2 G 11 0 [.ref 0, .int 0, .int b] [] (ev_hp ev_I0 ev_J0 ev_R0 []) cz kz = bif decide (0 ≤ b) then G 11 7 [.ref 0, .int 0, .int b] [] (ev_hp ev_I0 ev_J0 ev_R0 []) cz kz else G 11 4 [.ref 0, .int 0, .int b] [] (ev_hp ev_I0 ev_J0 ev_R0 []) cz kz := by
  intro G
  rfl
set_option maxRecDepth 100000 in
set_option maxHeartbeats 100000 in
theorem ef_calls_o_r2 (X : ez_X) (I : Nat → Nat → Int32) (J : Nat → Nat → Int64) (R : Nat → Nat) (T : List ez_C) (b : Int32) (cz kz : Nat) : ∀ G : ez_F, fx_up X 2 G 11 7 [.ref 0, .int 0, .int b] [] (ev_hp ev_I0 ev_J0 ev_R0 []) cz kz = ev_C G 52 [.ref 0] (ev_hp ev_I0 ev_J0 ev_R0 []) fun r h1 c1 k1 => G 11 11 [.ref 0, .int 0, .int b] (r.toList ++ []) h1 (cz + c1) (kz + k1) := by
  intro G
  rfl
set_option maxRecDepth 100000 in
set_option maxHeartbeats 100000 in
theorem ef_calls_o_r3 (X : ez_X) (I : Nat → Nat → Int32) (J : Nat → Nat → Int64) (R : Nat → Nat) (T : List ez_C) (b : Int32) (cz kz : Nat) : ∀ G : ez_F, fx_up X 4 G 11 11 [.ref 0, .int 0, .int b] [.int 0] (ev_hp (ev_sI ev_I0 6 (upd (upd (ev_I0 6) 4 1) 3 1)) ev_J0 (ev_sR ev_R0 0 65) ([.inl (1, .inl (upd (fun _ => 0) 0 0))] : List ez_C)) cz kz = ev_C G 23 [.ref 0, .int 0] (ev_hp (ev_sI ev_I0 6 (upd (upd (ev_I0 6) 4 1) 3 1)) ev_J0 (ev_sR ev_R0 0 65) ([.inl (1, .inl (upd (fun _ => 0) 0 0))] : List ez_C)) fun r h1 c1 k1 => G 11 22 [.ref 0, .int 0, .int b] (r.toList ++ []) h1 (cz + c1) (kz + k1) := by
  intro G
  rfl
set_option maxRecDepth 100000 in
set_option maxHeartbeats 100000 in
theorem ef_calls_o_r4 (X : ez_X) (I : Nat → Nat → Int32) (J : Nat → Nat → Int64) (R : Nat → Nat) (T : List ez_C) (b : Int32) (cz kz : Nat) : ∀ G : ez_F, fx_up X 5 G 11 22 [.ref 0, .int 0, .int b] [.int 1] (ev_hp (ev_sI ev_I0 6 (upd (upd (ev_I0 6) 4 1) 3 1)) ev_J0 (ev_sR ev_R0 0 65) ([.inl (1, .inl (upd (fun _ => 0) 0 0))] : List ez_C)) cz kz = ev_C G 70 [.ref 22, .int 0] (ev_hp (ev_sI ev_I0 6 (upd (upd (ev_I0 6) 4 1) 3 1)) ev_J0 (ev_sR ev_R0 0 65) ([.inl (1, .inl (upd (fun _ => 0) 0 0))] : List ez_C)) fun r h1 c1 k1 => G 11 36 [.ref 0, .int 0, .int b] (r.toList ++ []) h1 (cz + c1) (kz + k1) := by
  intro G
  rfl
set_option maxRecDepth 100000 in
set_option maxHeartbeats 100000 in
theorem ef_calls_o_r5 (X : ez_X) (I : Nat → Nat → Int32) (J : Nat → Nat → Int64) (R : Nat → Nat) (T : List ez_C) (b : Int32) (cz kz : Nat) : ∀ G : ez_F, fx_up X 4 G 11 36 [.ref 0, .int 0, .int b] [] (ev_hp (ev_sI (ev_sI ev_I0 6 (upd (upd (ev_I0 6) 4 1) 3 1)) 22 (upd (upd (ev_I0 22) 11 0) 10 0)) ev_J0 (ev_sR (ev_sR ev_R0 0 65) 4 66) ([.inl (1, .inl (upd (fun _ => 0) 0 0)), .inl (1, .inl (upd (fun _ => 0) 0 0))] : List ez_C)) cz kz = ev_C G 60 [.ref 22, .int b] (ev_hp (ev_sI (ev_sI ev_I0 6 (upd (upd (ev_I0 6) 4 1) 3 1)) 22 (upd (upd (ev_I0 22) 11 0) 10 0)) ev_J0 (ev_sR (ev_sR ev_R0 0 65) 4 66) ([.inl (1, .inl (upd (fun _ => 0) 0 0)), .inl (1, .inl (upd (fun _ => 0) 0 0))] : List ez_C)) fun r h1 c1 k1 => G 11 44 [.ref 0, .int 0, .int b] (r.toList ++ []) h1 (cz + c1) (kz + k1) := by
  intro G
  rfl
set_option maxRecDepth 100000 in
set_option maxHeartbeats 100000 in
theorem ef_calls_o_r6 (X : ez_X) (I : Nat → Nat → Int32) (J : Nat → Nat → Int64) (R : Nat → Nat) (T : List ez_C) (b : Int32) (cz kz : Nat) : ∀ G : ez_F, fx_up X 1 G 11 44 [.ref 0, .int 0, .int b] [.int (-1)] (ev_hp (ev_sI (ev_sI ev_I0 6 (upd (upd (ev_I0 6) 4 1) 3 1)) 22 (upd (upd (ev_I0 22) 11 0) 10 0)) ev_J0 (ev_sR (ev_sR ev_R0 0 65) 4 66) ([.inl (1, .inl (upd (fun _ => 0) 0 0)), .inl (1, .inl (upd (fun _ => 0) 0 0))] : List ez_C)) cz kz = some (some (.int (-1)), (ev_hp (ev_sI (ev_sI ev_I0 6 (upd (upd (ev_I0 6) 4 1) 3 1)) 22 (upd (upd (ev_I0 22) 11 0) 10 0)) ev_J0 (ev_sR (ev_sR ev_R0 0 65) 4 66) ([.inl (1, .inl (upd (fun _ => 0) 0 0)), .inl (1, .inl (upd (fun _ => 0) 0 0))] : List ez_C)), cz, kz) := by
  intro G
  rfl
theorem ef_calls_o (X : ez_X) (I : Nat → Nat → Int32) (J : Nat → Nat → Int64) (R : Nat → Nat) (T : List ez_C) (b : Int32) (hb : ¬ b < 0) : ev_W X 11 0 (ez_lay [.ref 0, .int 0, .int b]) [] (ev_hp ev_I0 ev_J0 ev_R0 []) 0 0 (fun r h1 c1 k1 => ((0 ≤ b) ∧ ((0 ≤ b)) ∧ r = some (.int (-1)) ∧ h1 = (ev_hp (ev_sI (ev_sI ev_I0 6 (upd (upd (ev_I0 6) 4 1) 3 1)) 22 (upd (upd (ev_I0 22) 11 0) 10 0)) ev_J0 (ev_sR (ev_sR ev_R0 0 65) 4 66) ([.inl (1, .inl (upd (fun _ => 0) 0 0)), .inl (1, .inl (upd (fun _ => 0) 0 0))] : List ez_C)) ∧ c1 = 2 ∧ k1 = 2)) := by
  refine ev_if (ef_calls_o_r1 X I J R T b _ _) (fun b1 => ?_) (fun b1 => ?_)
  · replace b1 := of_decide_eq_true b1
    refine ev_call (ef_calls_o_r2 X I J R T b _ _) (sp_z_129_tooMany X) ?_
    rintro _ _ _ _ ⟨rfl, rfl, rfl, rfl⟩
    refine ev_call (ef_calls_o_r3 X I J R T b _ _) (sp_z_153_isLaying X) ?_
    rintro _ _ _ _ ⟨rfl, rfl, rfl, rfl⟩
    refine ev_call (ef_calls_o_r4 X I J R T b _ _) (sp_z_155_trace X) ?_
    rintro _ _ _ _ ⟨rfl, rfl, rfl, rfl⟩
    refine ev_call (ef_calls_o_r5 X I J R T b _ _) (sq_2_cellAt X (ev_sI (ev_sI ev_I0 6 (upd (upd (ev_I0 6) 4 1) 3 1)) 22 (upd (upd (ev_I0 22) 11 0) 10 0)) ev_J0 (ev_sR (ev_sR ev_R0 0 65) 4 66) ([.inl (1, .inl (upd (fun _ => 0) 0 0)), .inl (1, .inl (upd (fun _ => 0) 0 0))] : List ez_C) b hb) ?_
    rintro r0 _ _ _ (⟨d113, rfl, rfl, rfl, rfl⟩)
    refine ev_ret (ef_calls_o_r6 X I J R T b _ _) ?_
    exact ⟨b1, d113, rfl, rfl, rfl, rfl⟩
  · replace b1 := of_decide_eq_false b1
    exact absurd (Int32.not_lt.mp hb) b1
set_option maxRecDepth 100000 in
set_option maxHeartbeats 100000 in
theorem sp_z_161_areLaid_r1 (X : ez_X)  (cz kz : Nat) : ∀ G : ez_F, fx_up X 24 G 167 0 [.ref 35] [] (ev_hp (ev_sI (ev_sI ev_I0 6 (upd (upd (ev_I0 6) 4 1) 3 1)) 22 (upd (upd (ev_I0 22) 11 0) 10 0)) ev_J0 (ev_sR (ev_sR ev_R0 0 65) 4 66) ([.inl (1, .inl (upd (fun _ => 0) 0 0)), .inl (1, .inl (upd (fun _ => 0) 0 0))] : List ez_C)) cz kz = G 167 83 [.ref 35, .long 1, ez_fill, .int 1] [] (ev_hp (ev_sI (ev_sI (ev_sI ev_I0 6 (upd (upd (ev_I0 6) 4 1) 3 1)) 22 (upd (upd (ev_I0 22) 11 0) 10 0)) 35 (upd (ev_I0 35) 14 0)) ev_J0 (ev_sR (ev_sR ev_R0 0 65) 4 66) ([.inl (1, .inl (upd (fun _ => 0) 0 0)), .inl (1, .inl (upd (fun _ => 0) 0 0))] : List ez_C)) cz kz := by
  intro G
  rfl
set_option maxRecDepth 100000 in
set_option maxHeartbeats 100000 in
theorem sp_z_161_areLaid_r2 (X : ez_X)  (cz kz : Nat) : ∀ G : ez_F, fx_up X 24 G 167 83 [.ref 35, .long 1, ez_fill, .int 1] [] (ev_hp (ev_sI (ev_sI (ev_sI ev_I0 6 (upd (upd (ev_I0 6) 4 1) 3 1)) 22 (upd (upd (ev_I0 22) 11 0) 10 0)) 35 (upd (ev_I0 35) 14 0)) ev_J0 (ev_sR (ev_sR ev_R0 0 65) 4 66) ([.inl (1, .inl (upd (fun _ => 0) 0 0)), .inl (1, .inl (upd (fun _ => 0) 0 0))] : List ez_C)) cz kz = G 167 162 [.ref 35, .long 1, ez_fill, .int 1, .int 1, .int 1, .int 0, .int 0] [.int 1] (ev_hp (ev_sI (ev_sI (ev_sI ev_I0 6 (upd (upd (ev_I0 6) 4 1) 3 1)) 22 (upd (upd (ev_I0 22) 11 0) 10 0)) 35 (upd (ev_I0 35) 14 0)) ev_J0 (ev_sR (ev_sR ev_R0 0 65) 4 66) ([.inl (1, .inl (upd (fun _ => 0) 0 0)), .inl (1, .inl (upd (fun _ => 0) 0 0))] : List ez_C)) cz kz := by
  intro G
  rfl
set_option maxRecDepth 100000 in
set_option maxHeartbeats 100000 in
theorem sp_z_161_areLaid_r3 (X : ez_X)  (cz kz : Nat) : ∀ G : ez_F, fx_up X 24 G 167 162 [.ref 35, .long 1, ez_fill, .int 1, .int 1, .int 1, .int 0, .int 0] [.int 1] (ev_hp (ev_sI (ev_sI (ev_sI ev_I0 6 (upd (upd (ev_I0 6) 4 1) 3 1)) 22 (upd (upd (ev_I0 22) 11 0) 10 0)) 35 (upd (ev_I0 35) 14 0)) ev_J0 (ev_sR (ev_sR ev_R0 0 65) 4 66) ([.inl (1, .inl (upd (fun _ => 0) 0 0)), .inl (1, .inl (upd (fun _ => 0) 0 0))] : List ez_C)) cz kz = G 167 258 [.ref 35, .long 1, ez_fill, .int 1, .int 1, .int 1, .int 0, .int 0, .int 1, .int 0] [.ref 35, .int 3, .ref 41] (ev_hp (ev_sI (ev_sI (ev_sI (ev_sI ev_I0 6 (upd (upd (ev_I0 6) 4 1) 3 1)) 22 (upd (upd (ev_I0 22) 11 0) 10 0)) 35 (upd (ev_I0 35) 14 0)) 41 (upd (ev_I0 41) 0 0)) ev_J0 (ev_sR (ev_sR ev_R0 0 65) 4 66) ([.inl (1, .inl (upd (fun _ => 0) 0 0)), .inl (1, .inl (upd (fun _ => 0) 0 0))] : List ez_C)) cz kz := by
  intro G
  rfl
set_option maxRecDepth 100000 in
set_option maxHeartbeats 100000 in
theorem sp_z_161_areLaid_r4 (X : ez_X)  (cz kz : Nat) : ∀ G : ez_F, fx_up X 24 G 167 258 [.ref 35, .long 1, ez_fill, .int 1, .int 1, .int 1, .int 0, .int 0, .int 1, .int 0] [.ref 35, .int 3, .ref 41] (ev_hp (ev_sI (ev_sI (ev_sI (ev_sI ev_I0 6 (upd (upd (ev_I0 6) 4 1) 3 1)) 22 (upd (upd (ev_I0 22) 11 0) 10 0)) 35 (upd (ev_I0 35) 14 0)) 41 (upd (ev_I0 41) 0 0)) ev_J0 (ev_sR (ev_sR ev_R0 0 65) 4 66) ([.inl (1, .inl (upd (fun _ => 0) 0 0)), .inl (1, .inl (upd (fun _ => 0) 0 0))] : List ez_C)) cz kz = G 167 167 [.ref 35, .long 1, ez_fill, .int 1, .int 1, .int 1, .int 0, .int 0, .int 1, .int 1] [] (ev_hp (ev_sI (ev_sI (ev_sI (ev_sI ev_I0 6 (upd (upd (ev_I0 6) 4 1) 3 1)) 22 (upd (upd (ev_I0 22) 11 0) 10 0)) 35 (upd (ev_I0 35) 14 1)) 41 (upd (upd (upd (ev_I0 41) 0 0) 1 0) 2 0)) ev_J0 (ev_sR (ev_sR ev_R0 0 65) 4 66) ([.inl (1, .inl (upd (fun _ => 0) 0 0)), .inl (1, .inl (upd (fun _ => 0) 0 0))] : List ez_C)) cz kz := by
  intro G
  rfl
set_option maxRecDepth 100000 in
set_option maxHeartbeats 100000 in
theorem sp_z_161_areLaid_r5 (X : ez_X)  (cz kz : Nat) : ∀ G : ez_F, fx_up X 15 G 167 167 [.ref 35, .long 1, ez_fill, .int 1, .int 1, .int 1, .int 0, .int 0, .int 1, .int 1] [] (ev_hp (ev_sI (ev_sI (ev_sI (ev_sI ev_I0 6 (upd (upd (ev_I0 6) 4 1) 3 1)) 22 (upd (upd (ev_I0 22) 11 0) 10 0)) 35 (upd (ev_I0 35) 14 1)) 41 (upd (upd (upd (ev_I0 41) 0 0) 1 0) 2 0)) ev_J0 (ev_sR (ev_sR ev_R0 0 65) 4 66) ([.inl (1, .inl (upd (fun _ => 0) 0 0)), .inl (1, .inl (upd (fun _ => 0) 0 0))] : List ez_C)) cz kz = some (some (.int 1), (ev_hp (ev_sI (ev_sI (ev_sI (ev_sI ev_I0 6 (upd (upd (ev_I0 6) 4 1) 3 1)) 22 (upd (upd (ev_I0 22) 11 0) 10 0)) 35 (upd (ev_I0 35) 14 1)) 41 (upd (upd (upd (ev_I0 41) 0 0) 1 0) 2 0)) ev_J0 (ev_sR (ev_sR ev_R0 0 65) 4 66) ([.inl (1, .inl (upd (fun _ => 0) 0 0)), .inl (1, .inl (upd (fun _ => 0) 0 0))] : List ez_C)), cz, kz) := by
  intro G
  rfl
theorem sp_z_161_areLaid (X : ez_X) : ev_W X 167 0 (ez_lay [.ref 35]) [] (ev_hp (ev_sI (ev_sI ev_I0 6 (upd (upd (ev_I0 6) 4 1) 3 1)) 22 (upd (upd (ev_I0 22) 11 0) 10 0)) ev_J0 (ev_sR (ev_sR ev_R0 0 65) 4 66) ([.inl (1, .inl (upd (fun _ => 0) 0 0)), .inl (1, .inl (upd (fun _ => 0) 0 0))] : List ez_C)) 0 0 (fun r h1 c1 k1 => r = (some (.int 1)) ∧ h1 = (ev_hp (ev_sI (ev_sI (ev_sI (ev_sI ev_I0 6 (upd (upd (ev_I0 6) 4 1) 3 1)) 22 (upd (upd (ev_I0 22) 11 0) 10 0)) 35 (upd (ev_I0 35) 14 1)) 41 (upd (upd (upd (ev_I0 41) 0 0) 1 0) 2 0)) ev_J0 (ev_sR (ev_sR ev_R0 0 65) 4 66) ([.inl (1, .inl (upd (fun _ => 0) 0 0)), .inl (1, .inl (upd (fun _ => 0) 0 0))] : List ez_C)) ∧ c1 = 0 ∧ k1 = 0) := by
  refine ev_seg (sp_z_161_areLaid_r1 X  _ _) ?_
  refine ev_seg (sp_z_161_areLaid_r2 X  _ _) ?_
  refine ev_seg (sp_z_161_areLaid_r3 X  _ _) ?_
  refine ev_seg (sp_z_161_areLaid_r4 X  _ _) ?_
  refine ev_ret (sp_z_161_areLaid_r5 X  _ _) ?_
  exact ⟨rfl, rfl, rfl, rfl⟩
set_option maxRecDepth 100000 in
set_option maxHeartbeats 100000 in
theorem sp_z_160_isCrowded_r1 (X : ez_X)  (cz kz : Nat) : ∀ G : ez_F, fx_up X 2 G 201 0 [.ref 35] [] (ev_hp (ev_sI (ev_sI ev_I0 6 (upd (upd (ev_I0 6) 4 1) 3 1)) 22 (upd (upd (ev_I0 22) 11 0) 10 0)) ev_J0 (ev_sR (ev_sR ev_R0 0 65) 4 66) ([.inl (1, .inl (upd (fun _ => 0) 0 0)), .inl (1, .inl (upd (fun _ => 0) 0 0))] : List ez_C)) cz kz = ev_C G 167 [.ref 35] (ev_hp (ev_sI (ev_sI ev_I0 6 (upd (upd (ev_I0 6) 4 1) 3 1)) 22 (upd (upd (ev_I0 22) 11 0) 10 0)) ev_J0 (ev_sR (ev_sR ev_R0 0 65) 4 66) ([.inl (1, .inl (upd (fun _ => 0) 0 0)), .inl (1, .inl (upd (fun _ => 0) 0 0))] : List ez_C)) fun r h1 c1 k1 => G 201 4 [.ref 35] (r.toList ++ []) h1 (cz + c1) (kz + k1) := by
  intro G
  rfl
set_option maxRecDepth 100000 in
set_option maxHeartbeats 100000 in
theorem sp_z_160_isCrowded_r2 (X : ez_X)  (cz kz : Nat) : ∀ G : ez_F, fx_up X 7 G 201 4 [.ref 35] [.int 1] (ev_hp (ev_sI (ev_sI (ev_sI (ev_sI ev_I0 6 (upd (upd (ev_I0 6) 4 1) 3 1)) 22 (upd (upd (ev_I0 22) 11 0) 10 0)) 35 (upd (ev_I0 35) 14 1)) 41 (upd (upd (upd (ev_I0 41) 0 0) 1 0) 2 0)) ev_J0 (ev_sR (ev_sR ev_R0 0 65) 4 66) ([.inl (1, .inl (upd (fun _ => 0) 0 0)), .inl (1, .inl (upd (fun _ => 0) 0 0))] : List ez_C)) cz kz = some (some (.int 0), (ev_hp (ev_sI (ev_sI (ev_sI (ev_sI ev_I0 6 (upd (upd (ev_I0 6) 4 1) 3 1)) 22 (upd (upd (ev_I0 22) 11 0) 10 0)) 35 (upd (ev_I0 35) 14 1)) 41 (upd (upd (upd (ev_I0 41) 0 0) 1 0) 2 0)) ev_J0 (ev_sR (ev_sR ev_R0 0 65) 4 66) ([.inl (1, .inl (upd (fun _ => 0) 0 0)), .inl (1, .inl (upd (fun _ => 0) 0 0))] : List ez_C)), cz, kz) := by
  intro G
  rfl
theorem sp_z_160_isCrowded (X : ez_X) : ev_W X 201 0 (ez_lay [.ref 35]) [] (ev_hp (ev_sI (ev_sI ev_I0 6 (upd (upd (ev_I0 6) 4 1) 3 1)) 22 (upd (upd (ev_I0 22) 11 0) 10 0)) ev_J0 (ev_sR (ev_sR ev_R0 0 65) 4 66) ([.inl (1, .inl (upd (fun _ => 0) 0 0)), .inl (1, .inl (upd (fun _ => 0) 0 0))] : List ez_C)) 0 0 (fun r h1 c1 k1 => r = (some (.int 0)) ∧ h1 = (ev_hp (ev_sI (ev_sI (ev_sI (ev_sI ev_I0 6 (upd (upd (ev_I0 6) 4 1) 3 1)) 22 (upd (upd (ev_I0 22) 11 0) 10 0)) 35 (upd (ev_I0 35) 14 1)) 41 (upd (upd (upd (ev_I0 41) 0 0) 1 0) 2 0)) ev_J0 (ev_sR (ev_sR ev_R0 0 65) 4 66) ([.inl (1, .inl (upd (fun _ => 0) 0 0)), .inl (1, .inl (upd (fun _ => 0) 0 0))] : List ez_C)) ∧ c1 = 0 ∧ k1 = 0) := by
  refine ev_call (sp_z_160_isCrowded_r1 X  _ _) (sp_z_161_areLaid X) ?_
  rintro _ _ _ _ ⟨rfl, rfl, rfl, rfl⟩
  refine ev_ret (sp_z_160_isCrowded_r2 X  _ _) ?_
  exact ⟨rfl, rfl, rfl, rfl⟩
set_option maxRecDepth 100000 in
set_option maxHeartbeats 100000 in
theorem sp_z_163_in_r1 (X : ez_X)  (cz kz : Nat) : ∀ G : ez_F, fx_up X 11 G 198 0 [.long 0, ez_fill, .long 0, ez_fill, .long 0, ez_fill] [] (ev_hp (ev_sI (ev_sI (ev_sI (ev_sI ev_I0 6 (upd (upd (ev_I0 6) 4 1) 3 1)) 22 (upd (upd (ev_I0 22) 11 0) 10 0)) 35 (upd (ev_I0 35) 14 1)) 41 (upd (upd (upd (ev_I0 41) 0 0) 1 0) 2 0)) ev_J0 (ev_sR (ev_sR ev_R0 0 65) 4 66) ([.inl (1, .inl (upd (fun _ => 0) 0 0)), .inl (1, .inl (upd (fun _ => 0) 0 0))] : List ez_C)) cz kz = some (some (.int 1), (ev_hp (ev_sI (ev_sI (ev_sI (ev_sI ev_I0 6 (upd (upd (ev_I0 6) 4 1) 3 1)) 22 (upd (upd (ev_I0 22) 11 0) 10 0)) 35 (upd (ev_I0 35) 14 1)) 41 (upd (upd (upd (ev_I0 41) 0 0) 1 0) 2 0)) ev_J0 (ev_sR (ev_sR ev_R0 0 65) 4 66) ([.inl (1, .inl (upd (fun _ => 0) 0 0)), .inl (1, .inl (upd (fun _ => 0) 0 0))] : List ez_C)), cz, kz) := by
  intro G
  rfl
theorem sp_z_163_in (X : ez_X) : ev_W X 198 0 (ez_lay [.long 0, .long 0, .long 0]) [] (ev_hp (ev_sI (ev_sI (ev_sI (ev_sI ev_I0 6 (upd (upd (ev_I0 6) 4 1) 3 1)) 22 (upd (upd (ev_I0 22) 11 0) 10 0)) 35 (upd (ev_I0 35) 14 1)) 41 (upd (upd (upd (ev_I0 41) 0 0) 1 0) 2 0)) ev_J0 (ev_sR (ev_sR ev_R0 0 65) 4 66) ([.inl (1, .inl (upd (fun _ => 0) 0 0)), .inl (1, .inl (upd (fun _ => 0) 0 0))] : List ez_C)) 0 0 (fun r h1 c1 k1 => r = (some (.int 1)) ∧ h1 = (ev_hp (ev_sI (ev_sI (ev_sI (ev_sI ev_I0 6 (upd (upd (ev_I0 6) 4 1) 3 1)) 22 (upd (upd (ev_I0 22) 11 0) 10 0)) 35 (upd (ev_I0 35) 14 1)) 41 (upd (upd (upd (ev_I0 41) 0 0) 1 0) 2 0)) ev_J0 (ev_sR (ev_sR ev_R0 0 65) 4 66) ([.inl (1, .inl (upd (fun _ => 0) 0 0)), .inl (1, .inl (upd (fun _ => 0) 0 0))] : List ez_C)) ∧ c1 = 0 ∧ k1 = 0) := by
  refine ev_ret (sp_z_163_in_r1 X  _ _) ?_
  exact ⟨rfl, rfl, rfl, rfl⟩
set_option maxRecDepth 100000 in
set_option maxHeartbeats 100000 in
theorem sp_z_162_isLaying_r1 (X : ez_X)  (cz kz : Nat) : ∀ G : ez_F, fx_up X 9 G 202 0 [.ref 35, .int 0] [] (ev_hp (ev_sI (ev_sI (ev_sI (ev_sI ev_I0 6 (upd (upd (ev_I0 6) 4 1) 3 1)) 22 (upd (upd (ev_I0 22) 11 0) 10 0)) 35 (upd (ev_I0 35) 14 1)) 41 (upd (upd (upd (ev_I0 41) 0 0) 1 0) 2 0)) ev_J0 (ev_sR (ev_sR ev_R0 0 65) 4 66) ([.inl (1, .inl (upd (fun _ => 0) 0 0)), .inl (1, .inl (upd (fun _ => 0) 0 0))] : List ez_C)) cz kz = ev_C G 198 [.long 0, .long 0, .long 0] (ev_hp (ev_sI (ev_sI (ev_sI (ev_sI ev_I0 6 (upd (upd (ev_I0 6) 4 1) 3 1)) 22 (upd (upd (ev_I0 22) 11 0) 10 0)) 35 (upd (ev_I0 35) 14 1)) 41 (upd (upd (upd (ev_I0 41) 0 0) 1 0) 2 0)) ev_J0 (ev_sR (ev_sR ev_R0 0 65) 4 66) ([.inl (1, .inl (upd (fun _ => 0) 0 0)), .inl (1, .inl (upd (fun _ => 0) 0 0))] : List ez_C)) fun r h1 c1 k1 => G 202 13 [.ref 35, .int 0] (r.toList ++ []) h1 (cz + c1) (kz + k1) := by
  intro G
  rfl
set_option maxRecDepth 100000 in
set_option maxHeartbeats 100000 in
theorem sp_z_162_isLaying_r2 (X : ez_X)  (cz kz : Nat) : ∀ G : ez_F, fx_up X 1 G 202 13 [.ref 35, .int 0] [.int 1] (ev_hp (ev_sI (ev_sI (ev_sI (ev_sI ev_I0 6 (upd (upd (ev_I0 6) 4 1) 3 1)) 22 (upd (upd (ev_I0 22) 11 0) 10 0)) 35 (upd (ev_I0 35) 14 1)) 41 (upd (upd (upd (ev_I0 41) 0 0) 1 0) 2 0)) ev_J0 (ev_sR (ev_sR ev_R0 0 65) 4 66) ([.inl (1, .inl (upd (fun _ => 0) 0 0)), .inl (1, .inl (upd (fun _ => 0) 0 0))] : List ez_C)) cz kz = some (some (.int 1), (ev_hp (ev_sI (ev_sI (ev_sI (ev_sI ev_I0 6 (upd (upd (ev_I0 6) 4 1) 3 1)) 22 (upd (upd (ev_I0 22) 11 0) 10 0)) 35 (upd (ev_I0 35) 14 1)) 41 (upd (upd (upd (ev_I0 41) 0 0) 1 0) 2 0)) ev_J0 (ev_sR (ev_sR ev_R0 0 65) 4 66) ([.inl (1, .inl (upd (fun _ => 0) 0 0)), .inl (1, .inl (upd (fun _ => 0) 0 0))] : List ez_C)), cz, kz) := by
  intro G
  rfl
theorem sp_z_162_isLaying (X : ez_X) : ev_W X 202 0 (ez_lay [.ref 35, .int 0]) [] (ev_hp (ev_sI (ev_sI (ev_sI (ev_sI ev_I0 6 (upd (upd (ev_I0 6) 4 1) 3 1)) 22 (upd (upd (ev_I0 22) 11 0) 10 0)) 35 (upd (ev_I0 35) 14 1)) 41 (upd (upd (upd (ev_I0 41) 0 0) 1 0) 2 0)) ev_J0 (ev_sR (ev_sR ev_R0 0 65) 4 66) ([.inl (1, .inl (upd (fun _ => 0) 0 0)), .inl (1, .inl (upd (fun _ => 0) 0 0))] : List ez_C)) 0 0 (fun r h1 c1 k1 => r = (some (.int 1)) ∧ h1 = (ev_hp (ev_sI (ev_sI (ev_sI (ev_sI ev_I0 6 (upd (upd (ev_I0 6) 4 1) 3 1)) 22 (upd (upd (ev_I0 22) 11 0) 10 0)) 35 (upd (ev_I0 35) 14 1)) 41 (upd (upd (upd (ev_I0 41) 0 0) 1 0) 2 0)) ev_J0 (ev_sR (ev_sR ev_R0 0 65) 4 66) ([.inl (1, .inl (upd (fun _ => 0) 0 0)), .inl (1, .inl (upd (fun _ => 0) 0 0))] : List ez_C)) ∧ c1 = 0 ∧ k1 = 0) := by
  refine ev_call (sp_z_162_isLaying_r1 X  _ _) (sp_z_163_in X) ?_
  rintro _ _ _ _ ⟨rfl, rfl, rfl, rfl⟩
  refine ev_ret (sp_z_162_isLaying_r2 X  _ _) ?_
  exact ⟨rfl, rfl, rfl, rfl⟩
set_option maxRecDepth 100000 in
set_option maxHeartbeats 100000 in
theorem sp_z_164_needOf_r1 (X : ez_X)  (cz kz : Nat) : ∀ G : ez_F, fx_up X 24 G 213 0 [.ref 35, .int 0] [] (ev_hp (ev_sI (ev_sI (ev_sI (ev_sI ev_I0 6 (upd (upd (ev_I0 6) 4 1) 3 1)) 22 (upd (upd (ev_I0 22) 11 0) 10 0)) 35 (upd (ev_I0 35) 14 1)) 41 (upd (upd (upd (ev_I0 41) 0 0) 1 0) 2 0)) ev_J0 (ev_sR (ev_sR ev_R0 0 65) 4 66) ([.inl (1, .inl (upd (fun _ => 0) 0 0)), .inl (1, .inl (upd (fun _ => 0) 0 0))] : List ez_C)) cz kz = G 213 33 [.ref 35, .int 0, .int 1, .long 0, ez_fill] [.int 1] (ev_hp (ev_sI (ev_sI (ev_sI (ev_sI (ev_sI ev_I0 6 (upd (upd (ev_I0 6) 4 1) 3 1)) 22 (upd (upd (ev_I0 22) 11 0) 10 0)) 35 (upd (upd (ev_I0 35) 14 1) 36 0)) 41 (upd (upd (upd (ev_I0 41) 0 0) 1 0) 2 0)) 59 (upd (ev_I0 59) 0 0)) ev_J0 (ev_sR (ev_sR ev_R0 0 65) 4 66) ([.inl (1, .inl (upd (fun _ => 0) 0 0)), .inl (1, .inl (upd (fun _ => 0) 0 0))] : List ez_C)) cz kz := by
  intro G
  rfl
set_option maxRecDepth 100000 in
set_option maxHeartbeats 100000 in
theorem sp_z_164_needOf_r2 (X : ez_X)  (cz kz : Nat) : ∀ G : ez_F, fx_up X 9 G 213 33 [.ref 35, .int 0, .int 1, .long 0, ez_fill] [.int 1] (ev_hp (ev_sI (ev_sI (ev_sI (ev_sI (ev_sI ev_I0 6 (upd (upd (ev_I0 6) 4 1) 3 1)) 22 (upd (upd (ev_I0 22) 11 0) 10 0)) 35 (upd (upd (ev_I0 35) 14 1) 36 0)) 41 (upd (upd (upd (ev_I0 41) 0 0) 1 0) 2 0)) 59 (upd (ev_I0 59) 0 0)) ev_J0 (ev_sR (ev_sR ev_R0 0 65) 4 66) ([.inl (1, .inl (upd (fun _ => 0) 0 0)), .inl (1, .inl (upd (fun _ => 0) 0 0))] : List ez_C)) cz kz = some (some (.int 0), (ev_hp (ev_sI (ev_sI (ev_sI (ev_sI (ev_sI ev_I0 6 (upd (upd (ev_I0 6) 4 1) 3 1)) 22 (upd (upd (ev_I0 22) 11 0) 10 0)) 35 (upd (upd (ev_I0 35) 14 1) 36 0)) 41 (upd (upd (upd (ev_I0 41) 0 0) 1 0) 2 0)) 59 (upd (ev_I0 59) 0 0)) ev_J0 (ev_sR (ev_sR ev_R0 0 65) 4 66) ([.inl (1, .inl (upd (fun _ => 0) 0 0)), .inl (1, .inl (upd (fun _ => 0) 0 0))] : List ez_C)), cz, kz) := by
  intro G
  rfl
theorem sp_z_164_needOf (X : ez_X) : ev_W X 213 0 (ez_lay [.ref 35, .int 0]) [] (ev_hp (ev_sI (ev_sI (ev_sI (ev_sI ev_I0 6 (upd (upd (ev_I0 6) 4 1) 3 1)) 22 (upd (upd (ev_I0 22) 11 0) 10 0)) 35 (upd (ev_I0 35) 14 1)) 41 (upd (upd (upd (ev_I0 41) 0 0) 1 0) 2 0)) ev_J0 (ev_sR (ev_sR ev_R0 0 65) 4 66) ([.inl (1, .inl (upd (fun _ => 0) 0 0)), .inl (1, .inl (upd (fun _ => 0) 0 0))] : List ez_C)) 0 0 (fun r h1 c1 k1 => r = (some (.int 0)) ∧ h1 = (ev_hp (ev_sI (ev_sI (ev_sI (ev_sI (ev_sI ev_I0 6 (upd (upd (ev_I0 6) 4 1) 3 1)) 22 (upd (upd (ev_I0 22) 11 0) 10 0)) 35 (upd (upd (ev_I0 35) 14 1) 36 0)) 41 (upd (upd (upd (ev_I0 41) 0 0) 1 0) 2 0)) 59 (upd (ev_I0 59) 0 0)) ev_J0 (ev_sR (ev_sR ev_R0 0 65) 4 66) ([.inl (1, .inl (upd (fun _ => 0) 0 0)), .inl (1, .inl (upd (fun _ => 0) 0 0))] : List ez_C)) ∧ c1 = 0 ∧ k1 = 0) := by
  refine ev_seg (sp_z_164_needOf_r1 X  _ _) ?_
  refine ev_ret (sp_z_164_needOf_r2 X  _ _) ?_
  exact ⟨rfl, rfl, rfl, rfl⟩
set_option maxRecDepth 100000 in
set_option maxHeartbeats 100000 in
theorem eh_calls_o_r1 (X : ez_X) (I : Nat → Nat → Int32) (J : Nat → Nat → Int64) (R : Nat → Nat) (T : List ez_C) (b : Int32) (cz kz : Nat) : ∀ G : ez_F, fx_up X 2 G 178 0 [.ref 35, .int 0, .int b] [] (ev_hp (ev_sI (ev_sI ev_I0 6 (upd (upd (ev_I0 6) 4 1) 3 1)) 22 (upd (upd (ev_I0 22) 11 0) 10 0)) ev_J0 (ev_sR (ev_sR ev_R0 0 65) 4 66) ([.inl (1, .inl (upd (fun _ => 0) 0 0)), .inl (1, .inl (upd (fun _ => 0) 0 0))] : List ez_C)) cz kz = bif decide (0 ≤ b) then G 178 7 [.ref 35, .int 0, .int b] [] (ev_hp (ev_sI (ev_sI ev_I0 6 (upd (upd (ev_I0 6) 4 1) 3 1)) 22 (upd (upd (ev_I0 22) 11 0) 10 0)) ev_J0 (ev_sR (ev_sR ev_R0 0 65) 4 66) ([.inl (1, .inl (upd (fun _ => 0) 0 0)), .inl (1, .inl (upd (fun _ => 0) 0 0))] : List ez_C)) cz kz else G 178 4 [.ref 35, .int 0, .int b] [] (ev_hp (ev_sI (ev_sI ev_I0 6 (upd (upd (ev_I0 6) 4 1) 3 1)) 22 (upd (upd (ev_I0 22) 11 0) 10 0)) ev_J0 (ev_sR (ev_sR ev_R0 0 65) 4 66) ([.inl (1, .inl (upd (fun _ => 0) 0 0)), .inl (1, .inl (upd (fun _ => 0) 0 0))] : List ez_C)) cz kz := by
  intro G
  rfl
set_option maxRecDepth 100000 in
set_option maxHeartbeats 100000 in
theorem eh_calls_o_r2 (X : ez_X) (I : Nat → Nat → Int32) (J : Nat → Nat → Int64) (R : Nat → Nat) (T : List ez_C) (b : Int32) (cz kz : Nat) : ∀ G : ez_F, fx_up X 2 G 178 7 [.ref 35, .int 0, .int b] [] (ev_hp (ev_sI (ev_sI ev_I0 6 (upd (upd (ev_I0 6) 4 1) 3 1)) 22 (upd (upd (ev_I0 22) 11 0) 10 0)) ev_J0 (ev_sR (ev_sR ev_R0 0 65) 4 66) ([.inl (1, .inl (upd (fun _ => 0) 0 0)), .inl (1, .inl (upd (fun _ => 0) 0 0))] : List ez_C)) cz kz = ev_C G 201 [.ref 35] (ev_hp (ev_sI (ev_sI ev_I0 6 (upd (upd (ev_I0 6) 4 1) 3 1)) 22 (upd (upd (ev_I0 22) 11 0) 10 0)) ev_J0 (ev_sR (ev_sR ev_R0 0 65) 4 66) ([.inl (1, .inl (upd (fun _ => 0) 0 0)), .inl (1, .inl (upd (fun _ => 0) 0 0))] : List ez_C)) fun r h1 c1 k1 => G 178 11 [.ref 35, .int 0, .int b] (r.toList ++ []) h1 (cz + c1) (kz + k1) := by
  intro G
  rfl
set_option maxRecDepth 100000 in
set_option maxHeartbeats 100000 in
theorem eh_calls_o_r3 (X : ez_X) (I : Nat → Nat → Int32) (J : Nat → Nat → Int64) (R : Nat → Nat) (T : List ez_C) (b : Int32) (cz kz : Nat) : ∀ G : ez_F, fx_up X 4 G 178 11 [.ref 35, .int 0, .int b] [.int 0] (ev_hp (ev_sI (ev_sI (ev_sI (ev_sI ev_I0 6 (upd (upd (ev_I0 6) 4 1) 3 1)) 22 (upd (upd (ev_I0 22) 11 0) 10 0)) 35 (upd (ev_I0 35) 14 1)) 41 (upd (upd (upd (ev_I0 41) 0 0) 1 0) 2 0)) ev_J0 (ev_sR (ev_sR ev_R0 0 65) 4 66) ([.inl (1, .inl (upd (fun _ => 0) 0 0)), .inl (1, .inl (upd (fun _ => 0) 0 0))] : List ez_C)) cz kz = ev_C G 202 [.ref 35, .int 0] (ev_hp (ev_sI (ev_sI (ev_sI (ev_sI ev_I0 6 (upd (upd (ev_I0 6) 4 1) 3 1)) 22 (upd (upd (ev_I0 22) 11 0) 10 0)) 35 (upd (ev_I0 35) 14 1)) 41 (upd (upd (upd (ev_I0 41) 0 0) 1 0) 2 0)) ev_J0 (ev_sR (ev_sR ev_R0 0 65) 4 66) ([.inl (1, .inl (upd (fun _ => 0) 0 0)), .inl (1, .inl (upd (fun _ => 0) 0 0))] : List ez_C)) fun r h1 c1 k1 => G 178 22 [.ref 35, .int 0, .int b] (r.toList ++ []) h1 (cz + c1) (kz + k1) := by
  intro G
  rfl
set_option maxRecDepth 100000 in
set_option maxHeartbeats 100000 in
theorem eh_calls_o_r4 (X : ez_X) (I : Nat → Nat → Int32) (J : Nat → Nat → Int64) (R : Nat → Nat) (T : List ez_C) (b : Int32) (cz kz : Nat) : ∀ G : ez_F, fx_up X 5 G 178 22 [.ref 35, .int 0, .int b] [.int 1] (ev_hp (ev_sI (ev_sI (ev_sI (ev_sI ev_I0 6 (upd (upd (ev_I0 6) 4 1) 3 1)) 22 (upd (upd (ev_I0 22) 11 0) 10 0)) 35 (upd (ev_I0 35) 14 1)) 41 (upd (upd (upd (ev_I0 41) 0 0) 1 0) 2 0)) ev_J0 (ev_sR (ev_sR ev_R0 0 65) 4 66) ([.inl (1, .inl (upd (fun _ => 0) 0 0)), .inl (1, .inl (upd (fun _ => 0) 0 0))] : List ez_C)) cz kz = ev_C G 213 [.ref 35, .int 0] (ev_hp (ev_sI (ev_sI (ev_sI (ev_sI ev_I0 6 (upd (upd (ev_I0 6) 4 1) 3 1)) 22 (upd (upd (ev_I0 22) 11 0) 10 0)) 35 (upd (ev_I0 35) 14 1)) 41 (upd (upd (upd (ev_I0 41) 0 0) 1 0) 2 0)) ev_J0 (ev_sR (ev_sR ev_R0 0 65) 4 66) ([.inl (1, .inl (upd (fun _ => 0) 0 0)), .inl (1, .inl (upd (fun _ => 0) 0 0))] : List ez_C)) fun r h1 c1 k1 => G 178 34 [.ref 35, .int 0, .int b] (r.toList ++ [.int b]) h1 (cz + c1) (kz + k1) := by
  intro G
  rfl
set_option maxRecDepth 100000 in
set_option maxHeartbeats 100000 in
theorem eh_calls_o_r5 (X : ez_X) (I : Nat → Nat → Int32) (J : Nat → Nat → Int64) (R : Nat → Nat) (T : List ez_C) (b : Int32) (cz kz : Nat) : ∀ G : ez_F, fx_up X 1 G 178 34 [.ref 35, .int 0, .int b] [.int 0, .int b] (ev_hp (ev_sI (ev_sI (ev_sI (ev_sI (ev_sI ev_I0 6 (upd (upd (ev_I0 6) 4 1) 3 1)) 22 (upd (upd (ev_I0 22) 11 0) 10 0)) 35 (upd (upd (ev_I0 35) 14 1) 36 0)) 41 (upd (upd (upd (ev_I0 41) 0 0) 1 0) 2 0)) 59 (upd (ev_I0 59) 0 0)) ev_J0 (ev_sR (ev_sR ev_R0 0 65) 4 66) ([.inl (1, .inl (upd (fun _ => 0) 0 0)), .inl (1, .inl (upd (fun _ => 0) 0 0))] : List ez_C)) cz kz = bif decide (0 ≤ b) then G 178 46 [.ref 35, .int 0, .int b] [] (ev_hp (ev_sI (ev_sI (ev_sI (ev_sI (ev_sI ev_I0 6 (upd (upd (ev_I0 6) 4 1) 3 1)) 22 (upd (upd (ev_I0 22) 11 0) 10 0)) 35 (upd (upd (ev_I0 35) 14 1) 36 0)) 41 (upd (upd (upd (ev_I0 41) 0 0) 1 0) 2 0)) 59 (upd (ev_I0 59) 0 0)) ev_J0 (ev_sR (ev_sR ev_R0 0 65) 4 66) ([.inl (1, .inl (upd (fun _ => 0) 0 0)), .inl (1, .inl (upd (fun _ => 0) 0 0))] : List ez_C)) cz kz else G 178 37 [.ref 35, .int 0, .int b] [] (ev_hp (ev_sI (ev_sI (ev_sI (ev_sI (ev_sI ev_I0 6 (upd (upd (ev_I0 6) 4 1) 3 1)) 22 (upd (upd (ev_I0 22) 11 0) 10 0)) 35 (upd (upd (ev_I0 35) 14 1) 36 0)) 41 (upd (upd (upd (ev_I0 41) 0 0) 1 0) 2 0)) 59 (upd (ev_I0 59) 0 0)) ev_J0 (ev_sR (ev_sR ev_R0 0 65) 4 66) ([.inl (1, .inl (upd (fun _ => 0) 0 0)), .inl (1, .inl (upd (fun _ => 0) 0 0))] : List ez_C)) cz kz := by
  intro G
  rfl
set_option maxRecDepth 100000 in
set_option maxHeartbeats 100000 in
theorem eh_calls_o_r6 (X : ez_X) (I : Nat → Nat → Int32) (J : Nat → Nat → Int64) (R : Nat → Nat) (T : List ez_C) (b : Int32) (cz kz : Nat) : ∀ G : ez_F, fx_up X 2 G 178 46 [.ref 35, .int 0, .int b] [] (ev_hp (ev_sI (ev_sI (ev_sI (ev_sI (ev_sI ev_I0 6 (upd (upd (ev_I0 6) 4 1) 3 1)) 22 (upd (upd (ev_I0 22) 11 0) 10 0)) 35 (upd (upd (ev_I0 35) 14 1) 36 0)) 41 (upd (upd (upd (ev_I0 41) 0 0) 1 0) 2 0)) 59 (upd (ev_I0 59) 0 0)) ev_J0 (ev_sR (ev_sR ev_R0 0 65) 4 66) ([.inl (1, .inl (upd (fun _ => 0) 0 0)), .inl (1, .inl (upd (fun _ => 0) 0 0))] : List ez_C)) cz kz = some (some (.int (-1)), (ev_hp (ev_sI (ev_sI (ev_sI (ev_sI (ev_sI ev_I0 6 (upd (upd (ev_I0 6) 4 1) 3 1)) 22 (upd (upd (ev_I0 22) 11 0) 10 0)) 35 (upd (upd (ev_I0 35) 14 1) 36 0)) 41 (upd (upd (upd (ev_I0 41) 0 0) 1 0) 2 0)) 59 (upd (ev_I0 59) 0 0)) ev_J0 (ev_sR (ev_sR ev_R0 0 65) 4 66) ([.inl (1, .inl (upd (fun _ => 0) 0 0)), .inl (1, .inl (upd (fun _ => 0) 0 0))] : List ez_C)), cz, kz) := by
  intro G
  rfl
theorem eh_calls_o (X : ez_X) (I : Nat → Nat → Int32) (J : Nat → Nat → Int64) (R : Nat → Nat) (T : List ez_C) (b : Int32) (hb : ¬ b < 0) : ev_W X 178 0 (ez_lay [.ref 35, .int 0, .int b]) [] (ev_hp (ev_sI (ev_sI ev_I0 6 (upd (upd (ev_I0 6) 4 1) 3 1)) 22 (upd (upd (ev_I0 22) 11 0) 10 0)) ev_J0 (ev_sR (ev_sR ev_R0 0 65) 4 66) ([.inl (1, .inl (upd (fun _ => 0) 0 0)), .inl (1, .inl (upd (fun _ => 0) 0 0))] : List ez_C)) 0 0 (fun r h1 c1 k1 => ((0 ≤ b) ∧ (0 ≤ b) ∧ r = some (.int (-1)) ∧ h1 = (ev_hp (ev_sI (ev_sI (ev_sI (ev_sI (ev_sI ev_I0 6 (upd (upd (ev_I0 6) 4 1) 3 1)) 22 (upd (upd (ev_I0 22) 11 0) 10 0)) 35 (upd (upd (ev_I0 35) 14 1) 36 0)) 41 (upd (upd (upd (ev_I0 41) 0 0) 1 0) 2 0)) 59 (upd (ev_I0 59) 0 0)) ev_J0 (ev_sR (ev_sR ev_R0 0 65) 4 66) ([.inl (1, .inl (upd (fun _ => 0) 0 0)), .inl (1, .inl (upd (fun _ => 0) 0 0))] : List ez_C)) ∧ c1 = 0 ∧ k1 = 0)) := by
  refine ev_if (eh_calls_o_r1 X I J R T b _ _) (fun b1 => ?_) (fun b1 => ?_)
  · replace b1 := of_decide_eq_true b1
    refine ev_call (eh_calls_o_r2 X I J R T b _ _) (sp_z_160_isCrowded X) ?_
    rintro _ _ _ _ ⟨rfl, rfl, rfl, rfl⟩
    refine ev_call (eh_calls_o_r3 X I J R T b _ _) (sp_z_162_isLaying X) ?_
    rintro _ _ _ _ ⟨rfl, rfl, rfl, rfl⟩
    refine ev_call (eh_calls_o_r4 X I J R T b _ _) (sp_z_164_needOf X) ?_
    rintro _ _ _ _ ⟨rfl, rfl, rfl, rfl⟩
    refine ev_if (eh_calls_o_r5 X I J R T b _ _) (fun b2 => ?_) (fun b2 => ?_)
    · replace b2 := of_decide_eq_true b2
      refine ev_ret (eh_calls_o_r6 X I J R T b _ _) ?_
      exact ⟨b1, b2, rfl, rfl, rfl, rfl⟩
    · replace b2 := of_decide_eq_false b2
      exact absurd (Int32.not_lt.mp hb) b2
  · replace b1 := of_decide_eq_false b1
    exact absurd (Int32.not_lt.mp hb) b1
set_option maxRecDepth 100000 in
set_option maxHeartbeats 100000 in
theorem eo_calls_o_r1 (xs : Nat → Int32)  (cz kz : Nat) : ∀ G : ez_F, fx_up (ev_x1 xs 0) 2 G 241 832 [ez_scr, .ref 0, .ref 35, .int 0] [] (ev_hp ev_I0 ev_J0 ev_R0 []) cz kz = G 241 834 [ez_scr, .ref 0, .ref 35, .int 0] [ez_scr, .ref 0] (ev_hp ev_I0 ev_J0 ev_R0 []) cz kz := by
  intro G
  rfl
set_option maxRecDepth 100000 in
set_option maxHeartbeats 100000 in
theorem eo_calls_o_r2 (xs : Nat → Int32)  (cz kz : Nat) : ∀ G : ez_F, fx_up (ev_x1 xs 0) 2 G 241 834 [ez_scr, .ref 0, .ref 35, .int 0] [ez_scr, .ref 0] (ev_hp ev_I0 ev_J0 ev_R0 []) cz kz = G 241 836 [ez_scr, .ref 0, .ref 35, .int 0] [.int 1, .int 0, ez_scr, .ref 0] (ev_hp ev_I0 ev_J0 ev_R0 []) cz kz := by
  intro G
  rfl
set_option maxRecDepth 100000 in
set_option maxHeartbeats 100000 in
theorem eo_calls_o_r3 (xs : Nat → Int32)  (cz kz : Nat) : ∀ G : ez_F, fx_up (ev_x1 xs 0) 2 G 241 836 [ez_scr, .ref 0, .ref 35, .int 0] [.int 1, .int 0, ez_scr, .ref 0] (ev_hp ev_I0 ev_J0 ev_R0 []) cz kz = G 241 838 [ez_scr, .ref 0, .ref 35, .int 0] [.int 0, .ref 0] (ev_hp ev_I0 ev_J0 ev_R0 []) cz kz := by
  intro G
  rfl
set_option maxRecDepth 100000 in
set_option maxHeartbeats 100000 in
theorem eo_calls_o_r4 (xs : Nat → Int32)  (cz kz : Nat) : ∀ G : ez_F, fx_up (ev_x1 xs 0) 2 G 241 838 [ez_scr, .ref 0, .ref 35, .int 0] [.int 0, .ref 0] (ev_hp ev_I0 ev_J0 ev_R0 []) cz kz = G 241 840 [ez_scr, .ref 0, .ref 35, .int 0] [.int 0, ez_scr, .int 0, .ref 0] (ev_hp ev_I0 ev_J0 ev_R0 []) cz kz := by
  intro G
  rfl
set_option maxRecDepth 100000 in
set_option maxHeartbeats 100000 in
theorem eo_calls_o_r5 (xs : Nat → Int32)  (cz kz : Nat) : ∀ G : ez_F, fx_up (ev_x1 xs 0) 2 G 241 840 [ez_scr, .ref 0, .ref 35, .int 0] [.int 0, ez_scr, .int 0, .ref 0] (ev_hp ev_I0 ev_J0 ev_R0 []) cz kz = G 241 842 [ez_scr, .ref 0, .ref 35, .int 0] [.int 2, ez_scr, .int 0, .ref 0] (ev_hp ev_I0 ev_J0 ev_R0 []) cz kz := by
  intro G
  rfl
set_option maxRecDepth 100000 in
set_option maxHeartbeats 100000 in
theorem eo_calls_o_r6 (xs : Nat → Int32)  (cz kz : Nat) : ∀ G : ez_F, fx_up (ev_x1 xs 0) 2 G 241 842 [ez_scr, .ref 0, .ref 35, .int 0] [.int 2, ez_scr, .int 0, .ref 0] (ev_hp ev_I0 ev_J0 ev_R0 []) cz kz = ev_C G 11 [.ref 0, .int 0, .int (xs 2)] (ev_hp ev_I0 ev_J0 ev_R0 []) fun r h1 c1 k1 => G 241 846 [ez_scr, .ref 0, .ref 35, .int 0] (r.toList ++ []) h1 (cz + c1) (kz + k1) := by
  intro G
  rfl
set_option maxRecDepth 100000 in
set_option maxHeartbeats 100000 in
theorem eo_calls_o_r7 (xs : Nat → Int32)  (cz kz : Nat) : ∀ G : ez_F, fx_up (ev_x1 xs 0) 2 G 241 846 [ez_scr, .ref 0, .ref 35, .int 0] [.int (-1)] (ev_hp (ev_sI (ev_sI ev_I0 6 (upd (upd (ev_I0 6) 4 1) 3 1)) 22 (upd (upd (ev_I0 22) 11 0) 10 0)) ev_J0 (ev_sR (ev_sR ev_R0 0 65) 4 66) ([.inl (1, .inl (upd (fun _ => 0) 0 0)), .inl (1, .inl (upd (fun _ => 0) 0 0))] : List ez_C)) cz kz = G 241 848 [ez_scr, .ref 0, .ref 35, .int 0] [ez_scr, .ref 35, .int (-1)] (ev_hp (ev_sI (ev_sI ev_I0 6 (upd (upd (ev_I0 6) 4 1) 3 1)) 22 (upd (upd (ev_I0 22) 11 0) 10 0)) ev_J0 (ev_sR (ev_sR ev_R0 0 65) 4 66) ([.inl (1, .inl (upd (fun _ => 0) 0 0)), .inl (1, .inl (upd (fun _ => 0) 0 0))] : List ez_C)) cz kz := by
  intro G
  rfl
set_option maxRecDepth 100000 in
set_option maxHeartbeats 100000 in
theorem eo_calls_o_r8 (xs : Nat → Int32)  (cz kz : Nat) : ∀ G : ez_F, fx_up (ev_x1 xs 0) 2 G 241 848 [ez_scr, .ref 0, .ref 35, .int 0] [ez_scr, .ref 35, .int (-1)] (ev_hp (ev_sI (ev_sI ev_I0 6 (upd (upd (ev_I0 6) 4 1) 3 1)) 22 (upd (upd (ev_I0 22) 11 0) 10 0)) ev_J0 (ev_sR (ev_sR ev_R0 0 65) 4 66) ([.inl (1, .inl (upd (fun _ => 0) 0 0)), .inl (1, .inl (upd (fun _ => 0) 0 0))] : List ez_C)) cz kz = G 241 850 [ez_scr, .ref 0, .ref 35, .int 0] [.int 1, .int 0, ez_scr, .ref 35, .int (-1)] (ev_hp (ev_sI (ev_sI ev_I0 6 (upd (upd (ev_I0 6) 4 1) 3 1)) 22 (upd (upd (ev_I0 22) 11 0) 10 0)) ev_J0 (ev_sR (ev_sR ev_R0 0 65) 4 66) ([.inl (1, .inl (upd (fun _ => 0) 0 0)), .inl (1, .inl (upd (fun _ => 0) 0 0))] : List ez_C)) cz kz := by
  intro G
  rfl
set_option maxRecDepth 100000 in
set_option maxHeartbeats 100000 in
theorem eo_calls_o_r9 (xs : Nat → Int32)  (cz kz : Nat) : ∀ G : ez_F, fx_up (ev_x1 xs 0) 2 G 241 850 [ez_scr, .ref 0, .ref 35, .int 0] [.int 1, .int 0, ez_scr, .ref 35, .int (-1)] (ev_hp (ev_sI (ev_sI ev_I0 6 (upd (upd (ev_I0 6) 4 1) 3 1)) 22 (upd (upd (ev_I0 22) 11 0) 10 0)) ev_J0 (ev_sR (ev_sR ev_R0 0 65) 4 66) ([.inl (1, .inl (upd (fun _ => 0) 0 0)), .inl (1, .inl (upd (fun _ => 0) 0 0))] : List ez_C)) cz kz = G 241 852 [ez_scr, .ref 0, .ref 35, .int 0] [.int 0, .ref 35, .int (-1)] (ev_hp (ev_sI (ev_sI ev_I0 6 (upd (upd (ev_I0 6) 4 1) 3 1)) 22 (upd (upd (ev_I0 22) 11 0) 10 0)) ev_J0 (ev_sR (ev_sR ev_R0 0 65) 4 66) ([.inl (1, .inl (upd (fun _ => 0) 0 0)), .inl (1, .inl (upd (fun _ => 0) 0 0))] : List ez_C)) cz kz := by
  intro G
  rfl
set_option maxRecDepth 100000 in
set_option maxHeartbeats 100000 in
theorem eo_calls_o_r10 (xs : Nat → Int32)  (cz kz : Nat) : ∀ G : ez_F, fx_up (ev_x1 xs 0) 2 G 241 852 [ez_scr, .ref 0, .ref 35, .int 0] [.int 0, .ref 35, .int (-1)] (ev_hp (ev_sI (ev_sI ev_I0 6 (upd (upd (ev_I0 6) 4 1) 3 1)) 22 (upd (upd (ev_I0 22) 11 0) 10 0)) ev_J0 (ev_sR (ev_sR ev_R0 0 65) 4 66) ([.inl (1, .inl (upd (fun _ => 0) 0 0)), .inl (1, .inl (upd (fun _ => 0) 0 0))] : List ez_C)) cz kz = G 241 854 [ez_scr, .ref 0, .ref 35, .int 0] [.int 0, ez_scr, .int 0, .ref 35, .int (-1)] (ev_hp (ev_sI (ev_sI ev_I0 6 (upd (upd (ev_I0 6) 4 1) 3 1)) 22 (upd (upd (ev_I0 22) 11 0) 10 0)) ev_J0 (ev_sR (ev_sR ev_R0 0 65) 4 66) ([.inl (1, .inl (upd (fun _ => 0) 0 0)), .inl (1, .inl (upd (fun _ => 0) 0 0))] : List ez_C)) cz kz := by
  intro G
  rfl
set_option maxRecDepth 100000 in
set_option maxHeartbeats 100000 in
theorem eo_calls_o_r11 (xs : Nat → Int32)  (cz kz : Nat) : ∀ G : ez_F, fx_up (ev_x1 xs 0) 2 G 241 854 [ez_scr, .ref 0, .ref 35, .int 0] [.int 0, ez_scr, .int 0, .ref 35, .int (-1)] (ev_hp (ev_sI (ev_sI ev_I0 6 (upd (upd (ev_I0 6) 4 1) 3 1)) 22 (upd (upd (ev_I0 22) 11 0) 10 0)) ev_J0 (ev_sR (ev_sR ev_R0 0 65) 4 66) ([.inl (1, .inl (upd (fun _ => 0) 0 0)), .inl (1, .inl (upd (fun _ => 0) 0 0))] : List ez_C)) cz kz = G 241 856 [ez_scr, .ref 0, .ref 35, .int 0] [.int 2, ez_scr, .int 0, .ref 35, .int (-1)] (ev_hp (ev_sI (ev_sI ev_I0 6 (upd (upd (ev_I0 6) 4 1) 3 1)) 22 (upd (upd (ev_I0 22) 11 0) 10 0)) ev_J0 (ev_sR (ev_sR ev_R0 0 65) 4 66) ([.inl (1, .inl (upd (fun _ => 0) 0 0)), .inl (1, .inl (upd (fun _ => 0) 0 0))] : List ez_C)) cz kz := by
  intro G
  rfl
set_option maxRecDepth 100000 in
set_option maxHeartbeats 100000 in
theorem eo_calls_o_r12 (xs : Nat → Int32)  (cz kz : Nat) : ∀ G : ez_F, fx_up (ev_x1 xs 0) 2 G 241 856 [ez_scr, .ref 0, .ref 35, .int 0] [.int 2, ez_scr, .int 0, .ref 35, .int (-1)] (ev_hp (ev_sI (ev_sI ev_I0 6 (upd (upd (ev_I0 6) 4 1) 3 1)) 22 (upd (upd (ev_I0 22) 11 0) 10 0)) ev_J0 (ev_sR (ev_sR ev_R0 0 65) 4 66) ([.inl (1, .inl (upd (fun _ => 0) 0 0)), .inl (1, .inl (upd (fun _ => 0) 0 0))] : List ez_C)) cz kz = ev_C G 178 [.ref 35, .int 0, .int (xs 2)] (ev_hp (ev_sI (ev_sI ev_I0 6 (upd (upd (ev_I0 6) 4 1) 3 1)) 22 (upd (upd (ev_I0 22) 11 0) 10 0)) ev_J0 (ev_sR (ev_sR ev_R0 0 65) 4 66) ([.inl (1, .inl (upd (fun _ => 0) 0 0)), .inl (1, .inl (upd (fun _ => 0) 0 0))] : List ez_C)) fun r h1 c1 k1 => G 241 860 [ez_scr, .ref 0, .ref 35, .int 0] (r.toList ++ [.int (-1)]) h1 (cz + c1) (kz + k1) := by
  intro G
  rfl
set_option maxRecDepth 100000 in
set_option maxHeartbeats 100000 in
theorem eo_calls_o_r13 (xs : Nat → Int32)  (cz kz : Nat) : ∀ G : ez_F, fx_up (ev_x1 xs 0) 2 G 241 860 [ez_scr, .ref 0, .ref 35, .int 0] [.int (-1), .int (-1)] (ev_hp (ev_sI (ev_sI (ev_sI (ev_sI (ev_sI ev_I0 6 (upd (upd (ev_I0 6) 4 1) 3 1)) 22 (upd (upd (ev_I0 22) 11 0) 10 0)) 35 (upd (upd (ev_I0 35) 14 1) 36 0)) 41 (upd (upd (upd (ev_I0 41) 0 0) 1 0) 2 0)) 59 (upd (ev_I0 59) 0 0)) ev_J0 (ev_sR (ev_sR ev_R0 0 65) 4 66) ([.inl (1, .inl (upd (fun _ => 0) 0 0)), .inl (1, .inl (upd (fun _ => 0) 0 0))] : List ez_C)) cz kz = G 241 1078 [ez_scr, .ref 0, .ref 35, .int 4] [] (ev_hp (ev_sI (ev_sI (ev_sI (ev_sI (ev_sI ev_I0 6 (upd (upd (ev_I0 6) 4 1) 3 1)) 22 (upd (upd (ev_I0 22) 11 0) 10 0)) 35 (upd (upd (ev_I0 35) 14 1) 36 0)) 41 (upd (upd (upd (ev_I0 41) 0 0) 1 0) 2 0)) 59 (upd (ev_I0 59) 0 0)) ev_J0 (ev_sR (ev_sR ev_R0 0 65) 4 66) ([.inl (1, .inl (upd (fun _ => 0) 0 0)), .inl (1, .inl (upd (fun _ => 0) 0 0))] : List ez_C)) cz kz := by
  intro G
  rfl
set_option maxRecDepth 100000 in
set_option maxHeartbeats 100000 in
theorem eo_calls_o_r14 (xs : Nat → Int32)  (cz kz : Nat) : ∀ G : ez_F, fx_up (ev_x1 xs 0) 2 G 241 1078 [ez_scr, .ref 0, .ref 35, .int 4] [] (ev_hp (ev_sI (ev_sI (ev_sI (ev_sI (ev_sI ev_I0 6 (upd (upd (ev_I0 6) 4 1) 3 1)) 22 (upd (upd (ev_I0 22) 11 0) 10 0)) 35 (upd (upd (ev_I0 35) 14 1) 36 0)) 41 (upd (upd (upd (ev_I0 41) 0 0) 1 0) 2 0)) 59 (upd (ev_I0 59) 0 0)) ev_J0 (ev_sR (ev_sR ev_R0 0 65) 4 66) ([.inl (1, .inl (upd (fun _ => 0) 0 0)), .inl (1, .inl (upd (fun _ => 0) 0 0))] : List ez_C)) cz kz = G 241 19 [ez_scr, .ref 0, .ref 35, .int 4] [.int 4] (ev_hp (ev_sI (ev_sI (ev_sI (ev_sI (ev_sI ev_I0 6 (upd (upd (ev_I0 6) 4 1) 3 1)) 22 (upd (upd (ev_I0 22) 11 0) 10 0)) 35 (upd (upd (ev_I0 35) 14 1) 36 0)) 41 (upd (upd (upd (ev_I0 41) 0 0) 1 0) 2 0)) 59 (upd (ev_I0 59) 0 0)) ev_J0 (ev_sR (ev_sR ev_R0 0 65) 4 66) ([.inl (1, .inl (upd (fun _ => 0) 0 0)), .inl (1, .inl (upd (fun _ => 0) 0 0))] : List ez_C)) cz kz := by
  intro G
  rfl
set_option maxRecDepth 100000 in
set_option maxHeartbeats 100000 in
theorem eo_calls_o_r15 (xs : Nat → Int32)  (cz kz : Nat) : ∀ G : ez_F, fx_up (ev_x1 xs 0) 2 G 241 19 [ez_scr, .ref 0, .ref 35, .int 4] [.int 4] (ev_hp (ev_sI (ev_sI (ev_sI (ev_sI (ev_sI ev_I0 6 (upd (upd (ev_I0 6) 4 1) 3 1)) 22 (upd (upd (ev_I0 22) 11 0) 10 0)) 35 (upd (upd (ev_I0 35) 14 1) 36 0)) 41 (upd (upd (upd (ev_I0 41) 0 0) 1 0) 2 0)) 59 (upd (ev_I0 59) 0 0)) ev_J0 (ev_sR (ev_sR ev_R0 0 65) 4 66) ([.inl (1, .inl (upd (fun _ => 0) 0 0)), .inl (1, .inl (upd (fun _ => 0) 0 0))] : List ez_C)) cz kz = G 241 21 [ez_scr, .ref 0, .ref 35, .int 4] [.int 4, .int 4] (ev_hp (ev_sI (ev_sI (ev_sI (ev_sI (ev_sI ev_I0 6 (upd (upd (ev_I0 6) 4 1) 3 1)) 22 (upd (upd (ev_I0 22) 11 0) 10 0)) 35 (upd (upd (ev_I0 35) 14 1) 36 0)) 41 (upd (upd (upd (ev_I0 41) 0 0) 1 0) 2 0)) 59 (upd (ev_I0 59) 0 0)) ev_J0 (ev_sR (ev_sR ev_R0 0 65) 4 66) ([.inl (1, .inl (upd (fun _ => 0) 0 0)), .inl (1, .inl (upd (fun _ => 0) 0 0))] : List ez_C)) cz kz := by
  intro G
  rfl
set_option maxRecDepth 100000 in
set_option maxHeartbeats 100000 in
theorem eo_calls_o_r16 (xs : Nat → Int32)  (cz kz : Nat) : ∀ G : ez_F, fx_up (ev_x1 xs 0) 2 G 241 21 [ez_scr, .ref 0, .ref 35, .int 4] [.int 4, .int 4] (ev_hp (ev_sI (ev_sI (ev_sI (ev_sI (ev_sI ev_I0 6 (upd (upd (ev_I0 6) 4 1) 3 1)) 22 (upd (upd (ev_I0 22) 11 0) 10 0)) 35 (upd (upd (ev_I0 35) 14 1) 36 0)) 41 (upd (upd (upd (ev_I0 41) 0 0) 1 0) 2 0)) 59 (upd (ev_I0 59) 0 0)) ev_J0 (ev_sR (ev_sR ev_R0 0 65) 4 66) ([.inl (1, .inl (upd (fun _ => 0) 0 0)), .inl (1, .inl (upd (fun _ => 0) 0 0))] : List ez_C)) cz kz = G 241 23 [ez_scr, .ref 0, .ref 35, .int 4] [.int 0, .int 4] (ev_hp (ev_sI (ev_sI (ev_sI (ev_sI (ev_sI ev_I0 6 (upd (upd (ev_I0 6) 4 1) 3 1)) 22 (upd (upd (ev_I0 22) 11 0) 10 0)) 35 (upd (upd (ev_I0 35) 14 1) 36 0)) 41 (upd (upd (upd (ev_I0 41) 0 0) 1 0) 2 0)) 59 (upd (ev_I0 59) 0 0)) ev_J0 (ev_sR (ev_sR ev_R0 0 65) 4 66) ([.inl (1, .inl (upd (fun _ => 0) 0 0)), .inl (1, .inl (upd (fun _ => 0) 0 0))] : List ez_C)) cz kz := by
  intro G
  rfl
set_option maxRecDepth 100000 in
set_option maxHeartbeats 100000 in
theorem eo_calls_o_r17 (xs : Nat → Int32)  (cz kz : Nat) : ∀ G : ez_F, fx_up (ev_x1 xs 0) 2 G 241 23 [ez_scr, .ref 0, .ref 35, .int 4] [.int 0, .int 4] (ev_hp (ev_sI (ev_sI (ev_sI (ev_sI (ev_sI ev_I0 6 (upd (upd (ev_I0 6) 4 1) 3 1)) 22 (upd (upd (ev_I0 22) 11 0) 10 0)) 35 (upd (upd (ev_I0 35) 14 1) 36 0)) 41 (upd (upd (upd (ev_I0 41) 0 0) 1 0) 2 0)) 59 (upd (ev_I0 59) 0 0)) ev_J0 (ev_sR (ev_sR ev_R0 0 65) 4 66) ([.inl (1, .inl (upd (fun _ => 0) 0 0)), .inl (1, .inl (upd (fun _ => 0) 0 0))] : List ez_C)) cz kz = G 241 1082 [ez_scr, .ref 0, .ref 35, .int 4] [.int 1] (ev_hp (ev_sI (ev_sI (ev_sI (ev_sI (ev_sI ev_I0 6 (upd (upd (ev_I0 6) 4 1) 3 1)) 22 (upd (upd (ev_I0 22) 11 0) 10 0)) 35 (upd (upd (ev_I0 35) 14 1) 36 0)) 41 (upd (upd (upd (ev_I0 41) 0 0) 1 0) 2 0)) 59 (upd (ev_I0 59) 0 0)) ev_J0 (ev_sR (ev_sR ev_R0 0 65) 4 66) ([.inl (1, .inl (upd (fun _ => 0) 0 0)), .inl (1, .inl (upd (fun _ => 0) 0 0))] : List ez_C)) cz kz := by
  intro G
  rfl
set_option maxRecDepth 100000 in
set_option maxHeartbeats 100000 in
theorem eo_calls_o_r18 (xs : Nat → Int32)  (cz kz : Nat) : ∀ G : ez_F, fx_up (ev_x1 xs 0) 1 G 241 1082 [ez_scr, .ref 0, .ref 35, .int 4] [.int 1] (ev_hp (ev_sI (ev_sI (ev_sI (ev_sI (ev_sI ev_I0 6 (upd (upd (ev_I0 6) 4 1) 3 1)) 22 (upd (upd (ev_I0 22) 11 0) 10 0)) 35 (upd (upd (ev_I0 35) 14 1) 36 0)) 41 (upd (upd (upd (ev_I0 41) 0 0) 1 0) 2 0)) 59 (upd (ev_I0 59) 0 0)) ev_J0 (ev_sR (ev_sR ev_R0 0 65) 4 66) ([.inl (1, .inl (upd (fun _ => 0) 0 0)), .inl (1, .inl (upd (fun _ => 0) 0 0))] : List ez_C)) cz kz = some (some (.int 1), (ev_hp (ev_sI (ev_sI (ev_sI (ev_sI (ev_sI ev_I0 6 (upd (upd (ev_I0 6) 4 1) 3 1)) 22 (upd (upd (ev_I0 22) 11 0) 10 0)) 35 (upd (upd (ev_I0 35) 14 1) 36 0)) 41 (upd (upd (upd (ev_I0 41) 0 0) 1 0) 2 0)) 59 (upd (ev_I0 59) 0 0)) ev_J0 (ev_sR (ev_sR ev_R0 0 65) 4 66) ([.inl (1, .inl (upd (fun _ => 0) 0 0)), .inl (1, .inl (upd (fun _ => 0) 0 0))] : List ez_C)), cz, kz) := by
  intro G
  rfl
theorem eo_calls_o (xs : Nat → Int32) (hb : ¬ xs 2 < 0) : ev_P1 (ev_x1 xs 0) 832 := by
  refine ev_seg (eo_calls_o_r1 xs  _ _) ?_
  refine ev_seg (eo_calls_o_r2 xs  _ _) ?_
  refine ev_seg (eo_calls_o_r3 xs  _ _) ?_
  refine ev_seg (eo_calls_o_r4 xs  _ _) ?_
  refine ev_seg (eo_calls_o_r5 xs  _ _) ?_
  refine ev_call (eo_calls_o_r6 xs  _ _) (ef_calls_o (ev_x1 xs 0) ev_I0 ev_J0 ev_R0 [] (xs 2) hb) ?_
  rintro r0 _ _ _ (⟨d114, d115, rfl, rfl, rfl, rfl⟩)
  refine ev_seg (eo_calls_o_r7 xs  _ _) ?_
  refine ev_seg (eo_calls_o_r8 xs  _ _) ?_
  refine ev_seg (eo_calls_o_r9 xs  _ _) ?_
  refine ev_seg (eo_calls_o_r10 xs  _ _) ?_
  refine ev_seg (eo_calls_o_r11 xs  _ _) ?_
  refine ev_call (eo_calls_o_r12 xs  _ _) (eh_calls_o (ev_x1 xs 0) (ev_sI (ev_sI ev_I0 6 (upd (upd (ev_I0 6) 4 1) 3 1)) 22 (upd (upd (ev_I0 22) 11 0) 10 0)) ev_J0 (ev_sR (ev_sR ev_R0 0 65) 4 66) ([.inl (1, .inl (upd (fun _ => 0) 0 0)), .inl (1, .inl (upd (fun _ => 0) 0 0))] : List ez_C) (xs 2) hb) ?_
  rintro r0 _ _ _ (⟨d116, d117, rfl, rfl, rfl, rfl⟩)
  refine ev_seg (eo_calls_o_r13 xs  _ _) ?_
  refine ev_seg (eo_calls_o_r14 xs  _ _) ?_
  refine ev_seg (eo_calls_o_r15 xs  _ _) ?_
  refine ev_seg (eo_calls_o_r16 xs  _ _) ?_
  refine ev_seg (eo_calls_o_r17 xs  _ _) ?_
  refine ev_ret (eo_calls_o_r18 xs  _ _) ?_
  exact ⟨rfl, by omega, by omega⟩
set_option maxRecDepth 100000 in
set_option maxHeartbeats 100000 in
theorem sp_z_167_sizeOf_r1 (X : ez_X)  (cz kz : Nat) : ∀ G : ez_F, fx_up X 6 G 94 0 [.ref 3, .int 0] [] (ev_hp ev_I0 ev_J0 ev_R0 []) cz kz = some (some (.int 1), (ev_hp ev_I0 ev_J0 ev_R0 []), cz, kz) := by
  intro G
  rfl
theorem sp_z_167_sizeOf (X : ez_X) : ev_W X 94 0 (ez_lay [.ref 3, .int 0]) [] (ev_hp ev_I0 ev_J0 ev_R0 []) 0 0 (fun r h1 c1 k1 => r = (some (.int 1)) ∧ h1 = (ev_hp ev_I0 ev_J0 ev_R0 []) ∧ c1 = 0 ∧ k1 = 0) := by
  refine ev_ret (sp_z_167_sizeOf_r1 X  _ _) ?_
  exact ⟨rfl, rfl, rfl, rfl⟩
set_option maxRecDepth 100000 in
set_option maxHeartbeats 100000 in
theorem sp_z_168_sizeOf_r1 (X : ez_X)  (cz kz : Nat) : ∀ G : ez_F, fx_up X 6 G 94 0 [.ref 3, .int 1] [] (ev_hp ev_I0 ev_J0 ev_R0 []) cz kz = some (some (.int 1), (ev_hp ev_I0 ev_J0 ev_R0 []), cz, kz) := by
  intro G
  rfl
theorem sp_z_168_sizeOf (X : ez_X) : ev_W X 94 0 (ez_lay [.ref 3, .int 1]) [] (ev_hp ev_I0 ev_J0 ev_R0 []) 0 0 (fun r h1 c1 k1 => r = (some (.int 1)) ∧ h1 = (ev_hp ev_I0 ev_J0 ev_R0 []) ∧ c1 = 0 ∧ k1 = 0) := by
  refine ev_ret (sp_z_168_sizeOf_r1 X  _ _) ?_
  exact ⟨rfl, rfl, rfl, rfl⟩
set_option maxRecDepth 100000 in
set_option maxHeartbeats 100000 in
theorem sp_z_169_sizeOf_r1 (X : ez_X)  (cz kz : Nat) : ∀ G : ez_F, fx_up X 6 G 94 0 [.ref 3, .int 2] [] (ev_hp ev_I0 ev_J0 ev_R0 []) cz kz = some (some (.int 1), (ev_hp ev_I0 ev_J0 ev_R0 []), cz, kz) := by
  intro G
  rfl
theorem sp_z_169_sizeOf (X : ez_X) : ev_W X 94 0 (ez_lay [.ref 3, .int 2]) [] (ev_hp ev_I0 ev_J0 ev_R0 []) 0 0 (fun r h1 c1 k1 => r = (some (.int 1)) ∧ h1 = (ev_hp ev_I0 ev_J0 ev_R0 []) ∧ c1 = 0 ∧ k1 = 0) := by
  refine ev_ret (sp_z_169_sizeOf_r1 X  _ _) ?_
  exact ⟨rfl, rfl, rfl, rfl⟩
set_option maxRecDepth 100000 in
set_option maxHeartbeats 100000 in
theorem sp_z_166_combinations_r1 (X : ez_X)  (cz kz : Nat) : ∀ G : ez_F, fx_up X 3 G 89 0 [.ref 3] [] (ev_hp ev_I0 ev_J0 ev_R0 []) cz kz = ev_C G 94 [.ref 3, .int 0] (ev_hp ev_I0 ev_J0 ev_R0 []) fun r h1 c1 k1 => G 89 5 [.ref 3] (r.toList ++ []) h1 (cz + c1) (kz + k1) := by
  intro G
  rfl
set_option maxRecDepth 100000 in
set_option maxHeartbeats 100000 in
theorem sp_z_166_combinations_r2 (X : ez_X)  (cz kz : Nat) : ∀ G : ez_F, fx_up X 3 G 89 5 [.ref 3] [.int 1] (ev_hp ev_I0 ev_J0 ev_R0 []) cz kz = ev_C G 94 [.ref 3, .int 1] (ev_hp ev_I0 ev_J0 ev_R0 []) fun r h1 c1 k1 => G 89 10 [.ref 3] (r.toList ++ [.int 1]) h1 (cz + c1) (kz + k1) := by
  intro G
  rfl
set_option maxRecDepth 100000 in
set_option maxHeartbeats 100000 in
theorem sp_z_166_combinations_r3 (X : ez_X)  (cz kz : Nat) : ∀ G : ez_F, fx_up X 4 G 89 10 [.ref 3] [.int 1, .int 1] (ev_hp ev_I0 ev_J0 ev_R0 []) cz kz = ev_C G 94 [.ref 3, .int 2] (ev_hp ev_I0 ev_J0 ev_R0 []) fun r h1 c1 k1 => G 89 16 [.ref 3] (r.toList ++ [.int 1]) h1 (cz + c1) (kz + k1) := by
  intro G
  rfl
set_option maxRecDepth 100000 in
set_option maxHeartbeats 100000 in
theorem sp_z_166_combinations_r4 (X : ez_X)  (cz kz : Nat) : ∀ G : ez_F, fx_up X 2 G 89 16 [.ref 3] [.int 1, .int 1] (ev_hp ev_I0 ev_J0 ev_R0 []) cz kz = some (some (.int 1), (ev_hp ev_I0 ev_J0 ev_R0 []), cz, kz) := by
  intro G
  rfl
theorem sp_z_166_combinations (X : ez_X) : ev_W X 89 0 (ez_lay [.ref 3]) [] (ev_hp ev_I0 ev_J0 ev_R0 []) 0 0 (fun r h1 c1 k1 => r = (some (.int 1)) ∧ h1 = (ev_hp ev_I0 ev_J0 ev_R0 []) ∧ c1 = 0 ∧ k1 = 0) := by
  refine ev_call (sp_z_166_combinations_r1 X  _ _) (sp_z_167_sizeOf X) ?_
  rintro _ _ _ _ ⟨rfl, rfl, rfl, rfl⟩
  refine ev_call (sp_z_166_combinations_r2 X  _ _) (sp_z_168_sizeOf X) ?_
  rintro _ _ _ _ ⟨rfl, rfl, rfl, rfl⟩
  refine ev_call (sp_z_166_combinations_r3 X  _ _) (sp_z_169_sizeOf X) ?_
  rintro _ _ _ _ ⟨rfl, rfl, rfl, rfl⟩
  refine ev_ret (sp_z_166_combinations_r4 X  _ _) ?_
  exact ⟨rfl, rfl, rfl, rfl⟩
set_option maxRecDepth 100000 in
set_option maxHeartbeats 100000 in
theorem sp_z_172_sizeOf_r1 (X : ez_X)  (cz kz : Nat) : ∀ G : ez_F, fx_up X 6 G 94 0 [.ref 3, .int 0] [] (ev_hp ev_I0 ev_J0 ev_R0 []) cz kz = some (some (.int 1), (ev_hp ev_I0 ev_J0 ev_R0 []), cz, kz) := by
  intro G
  rfl
theorem sp_z_172_sizeOf (X : ez_X) : ev_W X 94 0 (ez_lay [.ref 3, .int 0]) [] (ev_hp ev_I0 ev_J0 ev_R0 []) 0 0 (fun r h1 c1 k1 => r = (some (.int 1)) ∧ h1 = (ev_hp ev_I0 ev_J0 ev_R0 []) ∧ c1 = 0 ∧ k1 = 0) := by
  refine ev_ret (sp_z_172_sizeOf_r1 X  _ _) ?_
  exact ⟨rfl, rfl, rfl, rfl⟩
set_option maxRecDepth 100000 in
set_option maxHeartbeats 100000 in
theorem sp_z_173_sizeOf_r1 (X : ez_X)  (cz kz : Nat) : ∀ G : ez_F, fx_up X 6 G 94 0 [.ref 3, .int 1] [] (ev_hp ev_I0 ev_J0 ev_R0 []) cz kz = some (some (.int 1), (ev_hp ev_I0 ev_J0 ev_R0 []), cz, kz) := by
  intro G
  rfl
theorem sp_z_173_sizeOf (X : ez_X) : ev_W X 94 0 (ez_lay [.ref 3, .int 1]) [] (ev_hp ev_I0 ev_J0 ev_R0 []) 0 0 (fun r h1 c1 k1 => r = (some (.int 1)) ∧ h1 = (ev_hp ev_I0 ev_J0 ev_R0 []) ∧ c1 = 0 ∧ k1 = 0) := by
  refine ev_ret (sp_z_173_sizeOf_r1 X  _ _) ?_
  exact ⟨rfl, rfl, rfl, rfl⟩
set_option maxRecDepth 100000 in
set_option maxHeartbeats 100000 in
theorem sp_z_174_sizeOf_r1 (X : ez_X)  (cz kz : Nat) : ∀ G : ez_F, fx_up X 6 G 94 0 [.ref 3, .int 2] [] (ev_hp ev_I0 ev_J0 ev_R0 []) cz kz = some (some (.int 1), (ev_hp ev_I0 ev_J0 ev_R0 []), cz, kz) := by
  intro G
  rfl
theorem sp_z_174_sizeOf (X : ez_X) : ev_W X 94 0 (ez_lay [.ref 3, .int 2]) [] (ev_hp ev_I0 ev_J0 ev_R0 []) 0 0 (fun r h1 c1 k1 => r = (some (.int 1)) ∧ h1 = (ev_hp ev_I0 ev_J0 ev_R0 []) ∧ c1 = 0 ∧ k1 = 0) := by
  refine ev_ret (sp_z_174_sizeOf_r1 X  _ _) ?_
  exact ⟨rfl, rfl, rfl, rfl⟩
set_option maxRecDepth 100000 in
set_option maxHeartbeats 100000 in
theorem sp_z_171_combinations_r1 (X : ez_X)  (cz kz : Nat) : ∀ G : ez_F, fx_up X 3 G 89 0 [.ref 3] [] (ev_hp ev_I0 ev_J0 ev_R0 []) cz kz = ev_C G 94 [.ref 3, .int 0] (ev_hp ev_I0 ev_J0 ev_R0 []) fun r h1 c1 k1 => G 89 5 [.ref 3] (r.toList ++ []) h1 (cz + c1) (kz + k1) := by
  intro G
  rfl
set_option maxRecDepth 100000 in
set_option maxHeartbeats 100000 in
theorem sp_z_171_combinations_r2 (X : ez_X)  (cz kz : Nat) : ∀ G : ez_F, fx_up X 3 G 89 5 [.ref 3] [.int 1] (ev_hp ev_I0 ev_J0 ev_R0 []) cz kz = ev_C G 94 [.ref 3, .int 1] (ev_hp ev_I0 ev_J0 ev_R0 []) fun r h1 c1 k1 => G 89 10 [.ref 3] (r.toList ++ [.int 1]) h1 (cz + c1) (kz + k1) := by
  intro G
  rfl
set_option maxRecDepth 100000 in
set_option maxHeartbeats 100000 in
theorem sp_z_171_combinations_r3 (X : ez_X)  (cz kz : Nat) : ∀ G : ez_F, fx_up X 4 G 89 10 [.ref 3] [.int 1, .int 1] (ev_hp ev_I0 ev_J0 ev_R0 []) cz kz = ev_C G 94 [.ref 3, .int 2] (ev_hp ev_I0 ev_J0 ev_R0 []) fun r h1 c1 k1 => G 89 16 [.ref 3] (r.toList ++ [.int 1]) h1 (cz + c1) (kz + k1) := by
  intro G
  rfl
set_option maxRecDepth 100000 in
set_option maxHeartbeats 100000 in
theorem sp_z_171_combinations_r4 (X : ez_X)  (cz kz : Nat) : ∀ G : ez_F, fx_up X 2 G 89 16 [.ref 3] [.int 1, .int 1] (ev_hp ev_I0 ev_J0 ev_R0 []) cz kz = some (some (.int 1), (ev_hp ev_I0 ev_J0 ev_R0 []), cz, kz) := by
  intro G
  rfl
theorem sp_z_171_combinations (X : ez_X) : ev_W X 89 0 (ez_lay [.ref 3]) [] (ev_hp ev_I0 ev_J0 ev_R0 []) 0 0 (fun r h1 c1 k1 => r = (some (.int 1)) ∧ h1 = (ev_hp ev_I0 ev_J0 ev_R0 []) ∧ c1 = 0 ∧ k1 = 0) := by
  refine ev_call (sp_z_171_combinations_r1 X  _ _) (sp_z_172_sizeOf X) ?_
  rintro _ _ _ _ ⟨rfl, rfl, rfl, rfl⟩
  refine ev_call (sp_z_171_combinations_r2 X  _ _) (sp_z_173_sizeOf X) ?_
  rintro _ _ _ _ ⟨rfl, rfl, rfl, rfl⟩
  refine ev_call (sp_z_171_combinations_r3 X  _ _) (sp_z_174_sizeOf X) ?_
  rintro _ _ _ _ ⟨rfl, rfl, rfl, rfl⟩
  refine ev_ret (sp_z_171_combinations_r4 X  _ _) ?_
  exact ⟨rfl, rfl, rfl, rfl⟩
set_option maxRecDepth 100000 in
set_option maxHeartbeats 100000 in
theorem sp_z_175_grown_r1 (X : ez_X)  (cz kz : Nat) : ∀ G : ez_F, fx_up X 10 G 19 0 [.int 0, .int 1] [] (ev_hp (ev_sI ev_I0 6 (upd (upd (ev_I0 6) 4 1) 3 0)) ev_J0 ev_R0 []) cz kz = some (some (.int 1), (ev_hp (ev_sI ev_I0 6 (upd (upd (ev_I0 6) 4 1) 3 0)) ev_J0 ev_R0 []), cz, kz) := by
  intro G
  rfl
theorem sp_z_175_grown (X : ez_X) : ev_W X 19 0 (ez_lay [.int 0, .int 1]) [] (ev_hp (ev_sI ev_I0 6 (upd (upd (ev_I0 6) 4 1) 3 0)) ev_J0 ev_R0 []) 0 0 (fun r h1 c1 k1 => r = (some (.int 1)) ∧ h1 = (ev_hp (ev_sI ev_I0 6 (upd (upd (ev_I0 6) 4 1) 3 0)) ev_J0 ev_R0 []) ∧ c1 = 0 ∧ k1 = 0) := by
  refine ev_ret (sp_z_175_grown_r1 X  _ _) ?_
  exact ⟨rfl, rfl, rfl, rfl⟩
set_option maxRecDepth 100000 in
set_option maxHeartbeats 100000 in
theorem sp_z_176_sizeOf_r1 (X : ez_X)  (cz kz : Nat) : ∀ G : ez_F, fx_up X 6 G 94 0 [.ref 3, .int 0] [] (ev_hp (ev_sI ev_I0 6 (upd (upd (ev_I0 6) 4 1) 3 0)) ev_J0 (ev_sR ev_R0 0 65) ([.inl (1, .inl (fun _ => 0))] : List ez_C)) cz kz = some (some (.int 1), (ev_hp (ev_sI ev_I0 6 (upd (upd (ev_I0 6) 4 1) 3 0)) ev_J0 (ev_sR ev_R0 0 65) ([.inl (1, .inl (fun _ => 0))] : List ez_C)), cz, kz) := by
  intro G
  rfl
theorem sp_z_176_sizeOf (X : ez_X) : ev_W X 94 0 (ez_lay [.ref 3, .int 0]) [] (ev_hp (ev_sI ev_I0 6 (upd (upd (ev_I0 6) 4 1) 3 0)) ev_J0 (ev_sR ev_R0 0 65) ([.inl (1, .inl (fun _ => 0))] : List ez_C)) 0 0 (fun r h1 c1 k1 => r = (some (.int 1)) ∧ h1 = (ev_hp (ev_sI ev_I0 6 (upd (upd (ev_I0 6) 4 1) 3 0)) ev_J0 (ev_sR ev_R0 0 65) ([.inl (1, .inl (fun _ => 0))] : List ez_C)) ∧ c1 = 0 ∧ k1 = 0) := by
  refine ev_ret (sp_z_176_sizeOf_r1 X  _ _) ?_
  exact ⟨rfl, rfl, rfl, rfl⟩
set_option maxRecDepth 100000 in
set_option maxHeartbeats 100000 in
theorem sp_z_177_cellsAt_r1 (X : ez_X)  (cz kz : Nat) : ∀ G : ez_F, fx_up X 12 G 86 0 [.ref 3, .int 0, .int 0] [] (ev_hp (ev_sI ev_I0 6 (upd (upd (ev_I0 6) 4 1) 3 0)) ev_J0 (ev_sR ev_R0 0 65) ([.inl (1, .inl (fun _ => 0))] : List ez_C)) cz kz = some (some (.long 0), (ev_hp (ev_sI ev_I0 6 (upd (upd (ev_I0 6) 4 1) 3 0)) ev_J0 (ev_sR ev_R0 0 65) ([.inl (1, .inl (fun _ => 0))] : List ez_C)), cz, kz) := by
  intro G
  rfl
theorem sp_z_177_cellsAt (X : ez_X) : ev_W X 86 0 (ez_lay [.ref 3, .int 0, .int 0]) [] (ev_hp (ev_sI ev_I0 6 (upd (upd (ev_I0 6) 4 1) 3 0)) ev_J0 (ev_sR ev_R0 0 65) ([.inl (1, .inl (fun _ => 0))] : List ez_C)) 0 0 (fun r h1 c1 k1 => r = (some (.long 0)) ∧ h1 = (ev_hp (ev_sI ev_I0 6 (upd (upd (ev_I0 6) 4 1) 3 0)) ev_J0 (ev_sR ev_R0 0 65) ([.inl (1, .inl (fun _ => 0))] : List ez_C)) ∧ c1 = 0 ∧ k1 = 0) := by
  refine ev_ret (sp_z_177_cellsAt_r1 X  _ _) ?_
  exact ⟨rfl, rfl, rfl, rfl⟩
set_option maxRecDepth 100000 in
set_option maxHeartbeats 100000 in
theorem sp_z_179_at_r1 (X : ez_X)  (cz kz : Nat) : ∀ G : ez_F, fx_up X 11 G 3 0 [.ref 2, .int 0] [] (ev_hp (ev_sI ev_I0 6 (upd (upd (ev_I0 6) 4 1) 3 0)) ev_J0 (ev_sR ev_R0 0 65) ([.inl (1, .inl (fun _ => 0))] : List ez_C)) cz kz = some (some (.int 0), (ev_hp (ev_sI ev_I0 6 (upd (upd (ev_I0 6) 4 1) 3 0)) ev_J0 (ev_sR ev_R0 0 65) ([.inl (1, .inl (fun _ => 0))] : List ez_C)), cz, kz) := by
  intro G
  rfl
theorem sp_z_179_at (X : ez_X) : ev_W X 3 0 (ez_lay [.ref 2, .int 0]) [] (ev_hp (ev_sI ev_I0 6 (upd (upd (ev_I0 6) 4 1) 3 0)) ev_J0 (ev_sR ev_R0 0 65) ([.inl (1, .inl (fun _ => 0))] : List ez_C)) 0 0 (fun r h1 c1 k1 => r = (some (.int 0)) ∧ h1 = (ev_hp (ev_sI ev_I0 6 (upd (upd (ev_I0 6) 4 1) 3 0)) ev_J0 (ev_sR ev_R0 0 65) ([.inl (1, .inl (fun _ => 0))] : List ez_C)) ∧ c1 = 0 ∧ k1 = 0) := by
  refine ev_ret (sp_z_179_at_r1 X  _ _) ?_
  exact ⟨rfl, rfl, rfl, rfl⟩
set_option maxRecDepth 100000 in
set_option maxHeartbeats 100000 in
theorem sp_z_178_around_r1 (X : ez_X)  (cz kz : Nat) : ∀ G : ez_F, fx_up X 4 G 144 0 [.ref 1, .long 0, ez_fill] [] (ev_hp (ev_sI ev_I0 6 (upd (upd (ev_I0 6) 4 1) 3 0)) ev_J0 (ev_sR ev_R0 0 65) ([.inl (1, .inl (fun _ => 0))] : List ez_C)) cz kz = ev_C G 3 [.ref 2, .int 0] (ev_hp (ev_sI ev_I0 6 (upd (upd (ev_I0 6) 4 1) 3 0)) ev_J0 (ev_sR ev_R0 0 65) ([.inl (1, .inl (fun _ => 0))] : List ez_C)) fun r h1 c1 k1 => G 144 8 [.ref 1, .long 0, ez_fill] (r.toList ++ []) h1 (cz + c1) (kz + k1) := by
  intro G
  rfl
set_option maxRecDepth 100000 in
set_option maxHeartbeats 100000 in
theorem sp_z_178_around_r2 (X : ez_X)  (cz kz : Nat) : ∀ G : ez_F, fx_up X 5 G 144 8 [.ref 1, .long 0, ez_fill] [.int 0] (ev_hp (ev_sI ev_I0 6 (upd (upd (ev_I0 6) 4 1) 3 0)) ev_J0 (ev_sR ev_R0 0 65) ([.inl (1, .inl (fun _ => 0))] : List ez_C)) cz kz = some (some (.long 0), (ev_hp (ev_sI ev_I0 6 (upd (upd (ev_I0 6) 4 1) 3 0)) ev_J0 (ev_sR ev_R0 0 65) ([.inl (1, .inl (fun _ => 0))] : List ez_C)), cz, kz) := by
  intro G
  rfl
theorem sp_z_178_around (X : ez_X) : ev_W X 144 0 (ez_lay [.ref 1, .long 0]) [] (ev_hp (ev_sI ev_I0 6 (upd (upd (ev_I0 6) 4 1) 3 0)) ev_J0 (ev_sR ev_R0 0 65) ([.inl (1, .inl (fun _ => 0))] : List ez_C)) 0 0 (fun r h1 c1 k1 => r = (some (.long 0)) ∧ h1 = (ev_hp (ev_sI ev_I0 6 (upd (upd (ev_I0 6) 4 1) 3 0)) ev_J0 (ev_sR ev_R0 0 65) ([.inl (1, .inl (fun _ => 0))] : List ez_C)) ∧ c1 = 0 ∧ k1 = 0) := by
  refine ev_call (sp_z_178_around_r1 X  _ _) (sp_z_179_at X) ?_
  rintro _ _ _ _ ⟨rfl, rfl, rfl, rfl⟩
  refine ev_ret (sp_z_178_around_r2 X  _ _) ?_
  exact ⟨rfl, rfl, rfl, rfl⟩
set_option maxRecDepth 100000 in
set_option maxHeartbeats 100000 in
theorem sp_z_181_sizeOf_r1 (X : ez_X)  (cz kz : Nat) : ∀ G : ez_F, fx_up X 6 G 94 0 [.ref 3, .int 1] [] (ev_hp (ev_sI ev_I0 6 (upd (upd (ev_I0 6) 4 1) 3 0)) ev_J0 (ev_sR ev_R0 0 65) ([.inl (1, .inl (fun _ => 0))] : List ez_C)) cz kz = some (some (.int 1), (ev_hp (ev_sI ev_I0 6 (upd (upd (ev_I0 6) 4 1) 3 0)) ev_J0 (ev_sR ev_R0 0 65) ([.inl (1, .inl (fun _ => 0))] : List ez_C)), cz, kz) := by
  intro G
  rfl
theorem sp_z_181_sizeOf (X : ez_X) : ev_W X 94 0 (ez_lay [.ref 3, .int 1]) [] (ev_hp (ev_sI ev_I0 6 (upd (upd (ev_I0 6) 4 1) 3 0)) ev_J0 (ev_sR ev_R0 0 65) ([.inl (1, .inl (fun _ => 0))] : List ez_C)) 0 0 (fun r h1 c1 k1 => r = (some (.int 1)) ∧ h1 = (ev_hp (ev_sI ev_I0 6 (upd (upd (ev_I0 6) 4 1) 3 0)) ev_J0 (ev_sR ev_R0 0 65) ([.inl (1, .inl (fun _ => 0))] : List ez_C)) ∧ c1 = 0 ∧ k1 = 0) := by
  refine ev_ret (sp_z_181_sizeOf_r1 X  _ _) ?_
  exact ⟨rfl, rfl, rfl, rfl⟩
set_option maxRecDepth 100000 in
set_option maxHeartbeats 100000 in
theorem sp_z_182_cellsAt_r1 (X : ez_X)  (cz kz : Nat) : ∀ G : ez_F, fx_up X 12 G 86 0 [.ref 3, .int 1, .int 0] [] (ev_hp (ev_sI ev_I0 6 (upd (upd (ev_I0 6) 4 1) 3 0)) ev_J0 (ev_sR ev_R0 0 65) ([.inl (1, .inl (fun _ => 0))] : List ez_C)) cz kz = some (some (.long 0), (ev_hp (ev_sI ev_I0 6 (upd (upd (ev_I0 6) 4 1) 3 0)) ev_J0 (ev_sR ev_R0 0 65) ([.inl (1, .inl (fun _ => 0))] : List ez_C)), cz, kz) := by
  intro G
  rfl
theorem sp_z_182_cellsAt (X : ez_X) : ev_W X 86 0 (ez_lay [.ref 3, .int 1, .int 0]) [] (ev_hp (ev_sI ev_I0 6 (upd (upd (ev_I0 6) 4 1) 3 0)) ev_J0 (ev_sR ev_R0 0 65) ([.inl (1, .inl (fun _ => 0))] : List ez_C)) 0 0 (fun r h1 c1 k1 => r = (some (.long 0)) ∧ h1 = (ev_hp (ev_sI ev_I0 6 (upd (upd (ev_I0 6) 4 1) 3 0)) ev_J0 (ev_sR ev_R0 0 65) ([.inl (1, .inl (fun _ => 0))] : List ez_C)) ∧ c1 = 0 ∧ k1 = 0) := by
  refine ev_ret (sp_z_182_cellsAt_r1 X  _ _) ?_
  exact ⟨rfl, rfl, rfl, rfl⟩
set_option maxRecDepth 100000 in
set_option maxHeartbeats 100000 in
theorem sp_z_184_at_r1 (X : ez_X)  (cz kz : Nat) : ∀ G : ez_F, fx_up X 11 G 3 0 [.ref 2, .int 0] [] (ev_hp (ev_sI ev_I0 6 (upd (upd (ev_I0 6) 4 1) 3 0)) ev_J0 (ev_sR ev_R0 0 65) ([.inl (1, .inl (fun _ => 0))] : List ez_C)) cz kz = some (some (.int 0), (ev_hp (ev_sI ev_I0 6 (upd (upd (ev_I0 6) 4 1) 3 0)) ev_J0 (ev_sR ev_R0 0 65) ([.inl (1, .inl (fun _ => 0))] : List ez_C)), cz, kz) := by
  intro G
  rfl
theorem sp_z_184_at (X : ez_X) : ev_W X 3 0 (ez_lay [.ref 2, .int 0]) [] (ev_hp (ev_sI ev_I0 6 (upd (upd (ev_I0 6) 4 1) 3 0)) ev_J0 (ev_sR ev_R0 0 65) ([.inl (1, .inl (fun _ => 0))] : List ez_C)) 0 0 (fun r h1 c1 k1 => r = (some (.int 0)) ∧ h1 = (ev_hp (ev_sI ev_I0 6 (upd (upd (ev_I0 6) 4 1) 3 0)) ev_J0 (ev_sR ev_R0 0 65) ([.inl (1, .inl (fun _ => 0))] : List ez_C)) ∧ c1 = 0 ∧ k1 = 0) := by
  refine ev_ret (sp_z_184_at_r1 X  _ _) ?_
  exact ⟨rfl, rfl, rfl, rfl⟩
set_option maxRecDepth 100000 in
set_option maxHeartbeats 100000 in
theorem sp_z_183_around_r1 (X : ez_X)  (cz kz : Nat) : ∀ G : ez_F, fx_up X 4 G 144 0 [.ref 1, .long 0, ez_fill] [] (ev_hp (ev_sI ev_I0 6 (upd (upd (ev_I0 6) 4 1) 3 0)) ev_J0 (ev_sR ev_R0 0 65) ([.inl (1, .inl (fun _ => 0))] : List ez_C)) cz kz = ev_C G 3 [.ref 2, .int 0] (ev_hp (ev_sI ev_I0 6 (upd (upd (ev_I0 6) 4 1) 3 0)) ev_J0 (ev_sR ev_R0 0 65) ([.inl (1, .inl (fun _ => 0))] : List ez_C)) fun r h1 c1 k1 => G 144 8 [.ref 1, .long 0, ez_fill] (r.toList ++ []) h1 (cz + c1) (kz + k1) := by
  intro G
  rfl
set_option maxRecDepth 100000 in
set_option maxHeartbeats 100000 in
theorem sp_z_183_around_r2 (X : ez_X)  (cz kz : Nat) : ∀ G : ez_F, fx_up X 5 G 144 8 [.ref 1, .long 0, ez_fill] [.int 0] (ev_hp (ev_sI ev_I0 6 (upd (upd (ev_I0 6) 4 1) 3 0)) ev_J0 (ev_sR ev_R0 0 65) ([.inl (1, .inl (fun _ => 0))] : List ez_C)) cz kz = some (some (.long 0), (ev_hp (ev_sI ev_I0 6 (upd (upd (ev_I0 6) 4 1) 3 0)) ev_J0 (ev_sR ev_R0 0 65) ([.inl (1, .inl (fun _ => 0))] : List ez_C)), cz, kz) := by
  intro G
  rfl
theorem sp_z_183_around (X : ez_X) : ev_W X 144 0 (ez_lay [.ref 1, .long 0]) [] (ev_hp (ev_sI ev_I0 6 (upd (upd (ev_I0 6) 4 1) 3 0)) ev_J0 (ev_sR ev_R0 0 65) ([.inl (1, .inl (fun _ => 0))] : List ez_C)) 0 0 (fun r h1 c1 k1 => r = (some (.long 0)) ∧ h1 = (ev_hp (ev_sI ev_I0 6 (upd (upd (ev_I0 6) 4 1) 3 0)) ev_J0 (ev_sR ev_R0 0 65) ([.inl (1, .inl (fun _ => 0))] : List ez_C)) ∧ c1 = 0 ∧ k1 = 0) := by
  refine ev_call (sp_z_183_around_r1 X  _ _) (sp_z_184_at X) ?_
  rintro _ _ _ _ ⟨rfl, rfl, rfl, rfl⟩
  refine ev_ret (sp_z_183_around_r2 X  _ _) ?_
  exact ⟨rfl, rfl, rfl, rfl⟩
set_option maxRecDepth 100000 in
set_option maxHeartbeats 100000 in
theorem sp_z_186_sizeOf_r1 (X : ez_X)  (cz kz : Nat) : ∀ G : ez_F, fx_up X 6 G 94 0 [.ref 3, .int 2] [] (ev_hp (ev_sI ev_I0 6 (upd (upd (ev_I0 6) 4 1) 3 0)) ev_J0 (ev_sR ev_R0 0 65) ([.inl (1, .inl (fun _ => 0))] : List ez_C)) cz kz = some (some (.int 1), (ev_hp (ev_sI ev_I0 6 (upd (upd (ev_I0 6) 4 1) 3 0)) ev_J0 (ev_sR ev_R0 0 65) ([.inl (1, .inl (fun _ => 0))] : List ez_C)), cz, kz) := by
  intro G
  rfl
theorem sp_z_186_sizeOf (X : ez_X) : ev_W X 94 0 (ez_lay [.ref 3, .int 2]) [] (ev_hp (ev_sI ev_I0 6 (upd (upd (ev_I0 6) 4 1) 3 0)) ev_J0 (ev_sR ev_R0 0 65) ([.inl (1, .inl (fun _ => 0))] : List ez_C)) 0 0 (fun r h1 c1 k1 => r = (some (.int 1)) ∧ h1 = (ev_hp (ev_sI ev_I0 6 (upd (upd (ev_I0 6) 4 1) 3 0)) ev_J0 (ev_sR ev_R0 0 65) ([.inl (1, .inl (fun _ => 0))] : List ez_C)) ∧ c1 = 0 ∧ k1 = 0) := by
  refine ev_ret (sp_z_186_sizeOf_r1 X  _ _) ?_
  exact ⟨rfl, rfl, rfl, rfl⟩
set_option maxRecDepth 100000 in
set_option maxHeartbeats 100000 in
theorem sp_z_187_cellsAt_r1 (X : ez_X)  (cz kz : Nat) : ∀ G : ez_F, fx_up X 12 G 86 0 [.ref 3, .int 2, .int 0] [] (ev_hp (ev_sI ev_I0 6 (upd (upd (ev_I0 6) 4 1) 3 0)) ev_J0 (ev_sR ev_R0 0 65) ([.inl (1, .inl (fun _ => 0))] : List ez_C)) cz kz = some (some (.long 0), (ev_hp (ev_sI ev_I0 6 (upd (upd (ev_I0 6) 4 1) 3 0)) ev_J0 (ev_sR ev_R0 0 65) ([.inl (1, .inl (fun _ => 0))] : List ez_C)), cz, kz) := by
  intro G
  rfl
theorem sp_z_187_cellsAt (X : ez_X) : ev_W X 86 0 (ez_lay [.ref 3, .int 2, .int 0]) [] (ev_hp (ev_sI ev_I0 6 (upd (upd (ev_I0 6) 4 1) 3 0)) ev_J0 (ev_sR ev_R0 0 65) ([.inl (1, .inl (fun _ => 0))] : List ez_C)) 0 0 (fun r h1 c1 k1 => r = (some (.long 0)) ∧ h1 = (ev_hp (ev_sI ev_I0 6 (upd (upd (ev_I0 6) 4 1) 3 0)) ev_J0 (ev_sR ev_R0 0 65) ([.inl (1, .inl (fun _ => 0))] : List ez_C)) ∧ c1 = 0 ∧ k1 = 0) := by
  refine ev_ret (sp_z_187_cellsAt_r1 X  _ _) ?_
  exact ⟨rfl, rfl, rfl, rfl⟩
set_option maxRecDepth 100000 in
set_option maxHeartbeats 100000 in
theorem sp_z_188_put_r1 (X : ez_X)  (cz kz : Nat) : ∀ G : ez_F, fx_up X 11 G 38 0 [.ref 65, .int 0, .int 0] [] (ev_hp (ev_sI ev_I0 6 (upd (upd (ev_I0 6) 4 1) 3 0)) ev_J0 (ev_sR ev_R0 0 65) ([.inl (1, .inl (fun _ => 0))] : List ez_C)) cz kz = some (none, (ev_hp (ev_sI ev_I0 6 (upd (upd (ev_I0 6) 4 1) 3 0)) ev_J0 (ev_sR ev_R0 0 65) ([.inl (1, .inl (upd (fun _ => 0) 0 0))] : List ez_C)), cz, kz) := by
  intro G
  rfl
theorem sp_z_188_put (X : ez_X) : ev_W X 38 0 (ez_lay [.ref 65, .int 0, .int 0]) [] (ev_hp (ev_sI ev_I0 6 (upd (upd (ev_I0 6) 4 1) 3 0)) ev_J0 (ev_sR ev_R0 0 65) ([.inl (1, .inl (fun _ => 0))] : List ez_C)) 0 0 (fun r h1 c1 k1 => r = none ∧ h1 = (ev_hp (ev_sI ev_I0 6 (upd (upd (ev_I0 6) 4 1) 3 0)) ev_J0 (ev_sR ev_R0 0 65) ([.inl (1, .inl (upd (fun _ => 0) 0 0))] : List ez_C)) ∧ c1 = 0 ∧ k1 = 0) := by
  refine ev_ret (sp_z_188_put_r1 X  _ _) ?_
  exact ⟨rfl, rfl, rfl, rfl⟩
set_option maxRecDepth 100000 in
set_option maxHeartbeats 100000 in
theorem sp_z_185_searchThird_r1 (X : ez_X)  (cz kz : Nat) : ∀ G : ez_F, fx_up X 4 G 142 0 [.ref 6, .int 0, .long 0, ez_fill] [] (ev_hp (ev_sI ev_I0 6 (upd (upd (ev_I0 6) 4 1) 3 0)) ev_J0 (ev_sR ev_R0 0 65) ([.inl (1, .inl (fun _ => 0))] : List ez_C)) cz kz = ev_C G 94 [.ref 3, .int 2] (ev_hp (ev_sI ev_I0 6 (upd (upd (ev_I0 6) 4 1) 3 0)) ev_J0 (ev_sR ev_R0 0 65) ([.inl (1, .inl (fun _ => 0))] : List ez_C)) fun r h1 c1 k1 => G 142 8 [.ref 6, .int 0, .long 0, ez_fill] (r.toList ++ []) h1 (cz + c1) (kz + k1) := by
  intro G
  rfl
set_option maxRecDepth 100000 in
set_option maxHeartbeats 100000 in
theorem sp_z_185_searchThird_r2 (X : ez_X)  (cz kz : Nat) : ∀ G : ez_F, fx_up X 11 G 142 8 [.ref 6, .int 0, .long 0, ez_fill] [.int 1] (ev_hp (ev_sI ev_I0 6 (upd (upd (ev_I0 6) 4 1) 3 0)) ev_J0 (ev_sR ev_R0 0 65) ([.inl (1, .inl (fun _ => 0))] : List ez_C)) cz kz = ev_C G 86 [.ref 3, .int 2, .int 0] (ev_hp (ev_sI ev_I0 6 (upd (upd (ev_I0 6) 4 1) 3 0)) ev_J0 (ev_sR ev_R0 0 65) ([.inl (1, .inl (fun _ => 0))] : List ez_C)) fun r h1 c1 k1 => G 142 30 [.ref 6, .int 0, .long 0, ez_fill, .int 1, .int 0] (r.toList ++ []) h1 (cz + c1) (kz + k1) := by
  intro G
  rfl
set_option maxRecDepth 100000 in
set_option maxHeartbeats 100000 in
theorem sp_z_185_searchThird_r3 (X : ez_X)  (cz kz : Nat) : ∀ G : ez_F, fx_up X 15 G 142 30 [.ref 6, .int 0, .long 0, ez_fill, .int 1, .int 0] [.long 0] (ev_hp (ev_sI ev_I0 6 (upd (upd (ev_I0 6) 4 1) 3 0)) ev_J0 (ev_sR ev_R0 0 65) ([.inl (1, .inl (fun _ => 0))] : List ez_C)) cz kz = ev_C G 38 [.ref 65, .int 0, .int 0] (ev_hp (ev_sI ev_I0 6 (upd (upd (ev_I0 6) 4 1) 3 0)) ev_J0 (ev_sR ev_R0 0 65) ([.inl (1, .inl (fun _ => 0))] : List ez_C)) fun r h1 c1 k1 => G 142 55 [.ref 6, .int 0, .long 0, ez_fill, .int 1, .int 0] (r.toList ++ []) h1 (cz + c1) (kz + k1) := by
  intro G
  rfl
set_option maxRecDepth 100000 in
set_option maxHeartbeats 100000 in
theorem sp_z_185_searchThird_r4 (X : ez_X)  (cz kz : Nat) : ∀ G : ez_F, fx_up X 12 G 142 55 [.ref 6, .int 0, .long 0, ez_fill, .int 1, .int 0] [] (ev_hp (ev_sI ev_I0 6 (upd (upd (ev_I0 6) 4 1) 3 0)) ev_J0 (ev_sR ev_R0 0 65) ([.inl (1, .inl (upd (fun _ => 0) 0 0))] : List ez_C)) cz kz = some (none, (ev_hp (ev_sI ev_I0 6 (upd (upd (ev_I0 6) 4 1) 3 1)) ev_J0 (ev_sR ev_R0 0 65) ([.inl (1, .inl (upd (fun _ => 0) 0 0))] : List ez_C)), cz, kz) := by
  intro G
  rfl
theorem sp_z_185_searchThird (X : ez_X) : ev_W X 142 0 (ez_lay [.ref 6, .int 0, .long 0]) [] (ev_hp (ev_sI ev_I0 6 (upd (upd (ev_I0 6) 4 1) 3 0)) ev_J0 (ev_sR ev_R0 0 65) ([.inl (1, .inl (fun _ => 0))] : List ez_C)) 0 0 (fun r h1 c1 k1 => r = none ∧ h1 = (ev_hp (ev_sI ev_I0 6 (upd (upd (ev_I0 6) 4 1) 3 1)) ev_J0 (ev_sR ev_R0 0 65) ([.inl (1, .inl (upd (fun _ => 0) 0 0))] : List ez_C)) ∧ c1 = 0 ∧ k1 = 0) := by
  refine ev_call (sp_z_185_searchThird_r1 X  _ _) (sp_z_186_sizeOf X) ?_
  rintro _ _ _ _ ⟨rfl, rfl, rfl, rfl⟩
  refine ev_call (sp_z_185_searchThird_r2 X  _ _) (sp_z_187_cellsAt X) ?_
  rintro _ _ _ _ ⟨rfl, rfl, rfl, rfl⟩
  refine ev_call (sp_z_185_searchThird_r3 X  _ _) (sp_z_188_put X) ?_
  rintro _ _ _ _ ⟨rfl, rfl, rfl, rfl⟩
  refine ev_ret (sp_z_185_searchThird_r4 X  _ _) ?_
  exact ⟨rfl, rfl, rfl, rfl⟩
set_option maxRecDepth 100000 in
set_option maxHeartbeats 100000 in
theorem sp_z_180_searchSecond_r1 (X : ez_X)  (cz kz : Nat) : ∀ G : ez_F, fx_up X 4 G 141 0 [.ref 6, .int 0, .long 0, ez_fill] [] (ev_hp (ev_sI ev_I0 6 (upd (upd (ev_I0 6) 4 1) 3 0)) ev_J0 (ev_sR ev_R0 0 65) ([.inl (1, .inl (fun _ => 0))] : List ez_C)) cz kz = ev_C G 94 [.ref 3, .int 1] (ev_hp (ev_sI ev_I0 6 (upd (upd (ev_I0 6) 4 1) 3 0)) ev_J0 (ev_sR ev_R0 0 65) ([.inl (1, .inl (fun _ => 0))] : List ez_C)) fun r h1 c1 k1 => G 141 8 [.ref 6, .int 0, .long 0, ez_fill] (r.toList ++ []) h1 (cz + c1) (kz + k1) := by
  intro G
  rfl
set_option maxRecDepth 100000 in
set_option maxHeartbeats 100000 in
theorem sp_z_180_searchSecond_r2 (X : ez_X)  (cz kz : Nat) : ∀ G : ez_F, fx_up X 11 G 141 8 [.ref 6, .int 0, .long 0, ez_fill] [.int 1] (ev_hp (ev_sI ev_I0 6 (upd (upd (ev_I0 6) 4 1) 3 0)) ev_J0 (ev_sR ev_R0 0 65) ([.inl (1, .inl (fun _ => 0))] : List ez_C)) cz kz = ev_C G 86 [.ref 3, .int 1, .int 0] (ev_hp (ev_sI ev_I0 6 (upd (upd (ev_I0 6) 4 1) 3 0)) ev_J0 (ev_sR ev_R0 0 65) ([.inl (1, .inl (fun _ => 0))] : List ez_C)) fun r h1 c1 k1 => G 141 30 [.ref 6, .int 0, .long 0, ez_fill, .int 1, .int 0] (r.toList ++ []) h1 (cz + c1) (kz + k1) := by
  intro G
  rfl
set_option maxRecDepth 100000 in
set_option maxHeartbeats 100000 in
theorem sp_z_180_searchSecond_r3 (X : ez_X)  (cz kz : Nat) : ∀ G : ez_F, fx_up X 18 G 141 30 [.ref 6, .int 0, .long 0, ez_fill, .int 1, .int 0] [.long 0] (ev_hp (ev_sI ev_I0 6 (upd (upd (ev_I0 6) 4 1) 3 0)) ev_J0 (ev_sR ev_R0 0 65) ([.inl (1, .inl (fun _ => 0))] : List ez_C)) cz kz = ev_C G 144 [.ref 1, .long 0] (ev_hp (ev_sI ev_I0 6 (upd (upd (ev_I0 6) 4 1) 3 0)) ev_J0 (ev_sR ev_R0 0 65) ([.inl (1, .inl (fun _ => 0))] : List ez_C)) fun r h1 c1 k1 => G 141 59 [.ref 6, .int 0, .long 0, ez_fill, .int 1, .int 0, .long 0, ez_fill] (r.toList ++ [.long 0, .int 0, .ref 6]) h1 (cz + c1) (kz + k1) := by
  intro G
  rfl
set_option maxRecDepth 100000 in
set_option maxHeartbeats 100000 in
theorem sp_z_180_searchSecond_r4 (X : ez_X)  (cz kz : Nat) : ∀ G : ez_F, fx_up X 2 G 141 59 [.ref 6, .int 0, .long 0, ez_fill, .int 1, .int 0, .long 0, ez_fill] [.long 0, .long 0, .int 0, .ref 6] (ev_hp (ev_sI ev_I0 6 (upd (upd (ev_I0 6) 4 1) 3 0)) ev_J0 (ev_sR ev_R0 0 65) ([.inl (1, .inl (fun _ => 0))] : List ez_C)) cz kz = ev_C G 142 [.ref 6, .int 0, .long 0] (ev_hp (ev_sI ev_I0 6 (upd (upd (ev_I0 6) 4 1) 3 0)) ev_J0 (ev_sR ev_R0 0 65) ([.inl (1, .inl (fun _ => 0))] : List ez_C)) fun r h1 c1 k1 => G 141 63 [.ref 6, .int 0, .long 0, ez_fill, .int 1, .int 0, .long 0, ez_fill] (r.toList ++ []) h1 (cz + c1) (kz + k1) := by
  intro G
  rfl
set_option maxRecDepth 100000 in
set_option maxHeartbeats 100000 in
theorem sp_z_180_searchSecond_r5 (X : ez_X)  (cz kz : Nat) : ∀ G : ez_F, fx_up X 6 G 141 63 [.ref 6, .int 0, .long 0, ez_fill, .int 1, .int 0, .long 0, ez_fill] [] (ev_hp (ev_sI ev_I0 6 (upd (upd (ev_I0 6) 4 1) 3 1)) ev_J0 (ev_sR ev_R0 0 65) ([.inl (1, .inl (upd (fun _ => 0) 0 0))] : List ez_C)) cz kz = some (none, (ev_hp (ev_sI ev_I0 6 (upd (upd (ev_I0 6) 4 1) 3 1)) ev_J0 (ev_sR ev_R0 0 65) ([.inl (1, .inl (upd (fun _ => 0) 0 0))] : List ez_C)), cz, kz) := by
  intro G
  rfl
theorem sp_z_180_searchSecond (X : ez_X) : ev_W X 141 0 (ez_lay [.ref 6, .int 0, .long 0]) [] (ev_hp (ev_sI ev_I0 6 (upd (upd (ev_I0 6) 4 1) 3 0)) ev_J0 (ev_sR ev_R0 0 65) ([.inl (1, .inl (fun _ => 0))] : List ez_C)) 0 0 (fun r h1 c1 k1 => r = none ∧ h1 = (ev_hp (ev_sI ev_I0 6 (upd (upd (ev_I0 6) 4 1) 3 1)) ev_J0 (ev_sR ev_R0 0 65) ([.inl (1, .inl (upd (fun _ => 0) 0 0))] : List ez_C)) ∧ c1 = 0 ∧ k1 = 0) := by
  refine ev_call (sp_z_180_searchSecond_r1 X  _ _) (sp_z_181_sizeOf X) ?_
  rintro _ _ _ _ ⟨rfl, rfl, rfl, rfl⟩
  refine ev_call (sp_z_180_searchSecond_r2 X  _ _) (sp_z_182_cellsAt X) ?_
  rintro _ _ _ _ ⟨rfl, rfl, rfl, rfl⟩
  refine ev_call (sp_z_180_searchSecond_r3 X  _ _) (sp_z_183_around X) ?_
  rintro _ _ _ _ ⟨rfl, rfl, rfl, rfl⟩
  refine ev_call (sp_z_180_searchSecond_r4 X  _ _) (sp_z_185_searchThird X) ?_
  rintro _ _ _ _ ⟨rfl, rfl, rfl, rfl⟩
  refine ev_ret (sp_z_180_searchSecond_r5 X  _ _) ?_
  exact ⟨rfl, rfl, rfl, rfl⟩
set_option maxRecDepth 100000 in
set_option maxHeartbeats 100000 in
theorem sp_z_170_search_r1 (X : ez_X)  (cz kz : Nat) : ∀ G : ez_F, fx_up X 3 G 140 0 [.ref 6] [] (ev_hp ev_I0 ev_J0 ev_R0 []) cz kz = ev_C G 89 [.ref 3] (ev_hp ev_I0 ev_J0 ev_R0 []) fun r h1 c1 k1 => G 140 7 [.ref 6] (r.toList ++ []) h1 (cz + c1) (kz + k1) := by
  intro G
  rfl
set_option maxRecDepth 100000 in
set_option maxHeartbeats 100000 in
theorem sp_z_170_search_r2 (X : ez_X)  (cz kz : Nat) : ∀ G : ez_F, fx_up X 24 G 140 7 [.ref 6] [.int 1] (ev_hp ev_I0 ev_J0 ev_R0 []) cz kz = ev_C G 19 [.int 0, .int 1] (ev_hp (ev_sI ev_I0 6 (upd (upd (ev_I0 6) 4 1) 3 0)) ev_J0 ev_R0 []) fun r h1 c1 k1 => G 140 52 [.ref 6, .int 1] (r.toList ++ [.ref 6]) h1 (cz + c1) (kz + k1) := by
  intro G
  rfl
set_option maxRecDepth 100000 in
set_option maxHeartbeats 100000 in
theorem sp_z_170_search_r3 (X : ez_X)  (cz kz : Nat) : ∀ G : ez_F, fx_up X 6 G 140 52 [.ref 6, .int 1] [.int 1, .ref 6] (ev_hp (ev_sI ev_I0 6 (upd (upd (ev_I0 6) 4 1) 3 0)) ev_J0 ev_R0 []) cz kz = ev_C G 94 [.ref 3, .int 0] (ev_hp (ev_sI ev_I0 6 (upd (upd (ev_I0 6) 4 1) 3 0)) ev_J0 (ev_sR ev_R0 0 65) ([.inl (1, .inl (fun _ => 0))] : List ez_C)) fun r h1 c1 k1 => G 140 65 [.ref 6, .int 1] (r.toList ++ []) h1 ((cz + 1) + c1) ((kz + 1) + k1) := by
  intro G
  rfl
set_option maxRecDepth 100000 in
set_option maxHeartbeats 100000 in
theorem sp_z_170_search_r4 (X : ez_X)  (cz kz : Nat) : ∀ G : ez_F, fx_up X 15 G 140 65 [.ref 6, .int 1] [.int 1] (ev_hp (ev_sI ev_I0 6 (upd (upd (ev_I0 6) 4 1) 3 0)) ev_J0 (ev_sR ev_R0 0 65) ([.inl (1, .inl (fun _ => 0))] : List ez_C)) cz kz = ev_C G 86 [.ref 3, .int 0, .int 0] (ev_hp (ev_sI ev_I0 6 (upd (upd (ev_I0 6) 4 1) 3 0)) ev_J0 (ev_sR ev_R0 0 65) ([.inl (1, .inl (fun _ => 0))] : List ez_C)) fun r h1 c1 k1 => G 140 88 [.ref 6, .int 1, .int 1, .int 0] (r.toList ++ [.ref 1, .int 0, .ref 6]) h1 (cz + c1) (kz + k1) := by
  intro G
  rfl
set_option maxRecDepth 100000 in
set_option maxHeartbeats 100000 in
theorem sp_z_170_search_r5 (X : ez_X)  (cz kz : Nat) : ∀ G : ez_F, fx_up X 1 G 140 88 [.ref 6, .int 1, .int 1, .int 0] [.long 0, .ref 1, .int 0, .ref 6] (ev_hp (ev_sI ev_I0 6 (upd (upd (ev_I0 6) 4 1) 3 0)) ev_J0 (ev_sR ev_R0 0 65) ([.inl (1, .inl (fun _ => 0))] : List ez_C)) cz kz = ev_C G 144 [.ref 1, .long 0] (ev_hp (ev_sI ev_I0 6 (upd (upd (ev_I0 6) 4 1) 3 0)) ev_J0 (ev_sR ev_R0 0 65) ([.inl (1, .inl (fun _ => 0))] : List ez_C)) fun r h1 c1 k1 => G 140 91 [.ref 6, .int 1, .int 1, .int 0] (r.toList ++ [.int 0, .ref 6]) h1 (cz + c1) (kz + k1) := by
  intro G
  rfl
set_option maxRecDepth 100000 in
set_option maxHeartbeats 100000 in
theorem sp_z_170_search_r6 (X : ez_X)  (cz kz : Nat) : ∀ G : ez_F, fx_up X 1 G 140 91 [.ref 6, .int 1, .int 1, .int 0] [.long 0, .int 0, .ref 6] (ev_hp (ev_sI ev_I0 6 (upd (upd (ev_I0 6) 4 1) 3 0)) ev_J0 (ev_sR ev_R0 0 65) ([.inl (1, .inl (fun _ => 0))] : List ez_C)) cz kz = ev_C G 141 [.ref 6, .int 0, .long 0] (ev_hp (ev_sI ev_I0 6 (upd (upd (ev_I0 6) 4 1) 3 0)) ev_J0 (ev_sR ev_R0 0 65) ([.inl (1, .inl (fun _ => 0))] : List ez_C)) fun r h1 c1 k1 => G 140 94 [.ref 6, .int 1, .int 1, .int 0] (r.toList ++ []) h1 (cz + c1) (kz + k1) := by
  intro G
  rfl
set_option maxRecDepth 100000 in
set_option maxHeartbeats 100000 in
theorem sp_z_170_search_r7 (X : ez_X)  (cz kz : Nat) : ∀ G : ez_F, fx_up X 6 G 140 94 [.ref 6, .int 1, .int 1, .int 0] [] (ev_hp (ev_sI ev_I0 6 (upd (upd (ev_I0 6) 4 1) 3 1)) ev_J0 (ev_sR ev_R0 0 65) ([.inl (1, .inl (upd (fun _ => 0) 0 0))] : List ez_C)) cz kz = some (none, (ev_hp (ev_sI ev_I0 6 (upd (upd (ev_I0 6) 4 1) 3 1)) ev_J0 (ev_sR ev_R0 0 65) ([.inl (1, .inl (upd (fun _ => 0) 0 0))] : List ez_C)), cz, kz) := by
  intro G
  rfl
theorem sp_z_170_search (X : ez_X) : ev_W X 140 0 (ez_lay [.ref 6]) [] (ev_hp ev_I0 ev_J0 ev_R0 []) 0 0 (fun r h1 c1 k1 => r = none ∧ h1 = (ev_hp (ev_sI ev_I0 6 (upd (upd (ev_I0 6) 4 1) 3 1)) ev_J0 (ev_sR ev_R0 0 65) ([.inl (1, .inl (upd (fun _ => 0) 0 0))] : List ez_C)) ∧ c1 = 1 ∧ k1 = 1) := by
  refine ev_call (sp_z_170_search_r1 X  _ _) (sp_z_171_combinations X) ?_
  rintro _ _ _ _ ⟨rfl, rfl, rfl, rfl⟩
  refine ev_call (sp_z_170_search_r2 X  _ _) (sp_z_175_grown X) ?_
  rintro _ _ _ _ ⟨rfl, rfl, rfl, rfl⟩
  refine ev_call (sp_z_170_search_r3 X  _ _) (sp_z_176_sizeOf X) ?_
  rintro _ _ _ _ ⟨rfl, rfl, rfl, rfl⟩
  refine ev_call (sp_z_170_search_r4 X  _ _) (sp_z_177_cellsAt X) ?_
  rintro _ _ _ _ ⟨rfl, rfl, rfl, rfl⟩
  refine ev_call (sp_z_170_search_r5 X  _ _) (sp_z_178_around X) ?_
  rintro _ _ _ _ ⟨rfl, rfl, rfl, rfl⟩
  refine ev_call (sp_z_170_search_r6 X  _ _) (sp_z_180_searchSecond X) ?_
  rintro _ _ _ _ ⟨rfl, rfl, rfl, rfl⟩
  refine ev_ret (sp_z_170_search_r7 X  _ _) ?_
  exact ⟨rfl, rfl, rfl, rfl⟩
set_option maxRecDepth 100000 in
set_option maxHeartbeats 100000 in
theorem sp_z_165_tooMany_r1 (X : ez_X)  (cz kz : Nat) : ∀ G : ez_F, fx_up X 3 G 52 0 [.ref 0] [] (ev_hp ev_I0 ev_J0 ev_R0 []) cz kz = ev_C G 89 [.ref 3] (ev_hp ev_I0 ev_J0 ev_R0 []) fun r h1 c1 k1 => G 52 7 [.ref 0] (r.toList ++ []) h1 (cz + c1) (kz + k1) := by
  intro G
  rfl
set_option maxRecDepth 100000 in
set_option maxHeartbeats 100000 in
theorem sp_z_165_tooMany_r2 (X : ez_X)  (cz kz : Nat) : ∀ G : ez_F, fx_up X 5 G 52 7 [.ref 0] [.int 1] (ev_hp ev_I0 ev_J0 ev_R0 []) cz kz = ev_C G 140 [.ref 6] (ev_hp ev_I0 ev_J0 ev_R0 []) fun r h1 c1 k1 => G 52 22 [.ref 0] (r.toList ++ []) h1 (cz + c1) (kz + k1) := by
  intro G
  rfl
set_option maxRecDepth 100000 in
set_option maxHeartbeats 100000 in
theorem sp_z_165_tooMany_r3 (X : ez_X)  (cz kz : Nat) : ∀ G : ez_F, fx_up X 2 G 52 22 [.ref 0] [] (ev_hp (ev_sI ev_I0 6 (upd (upd (ev_I0 6) 4 1) 3 1)) ev_J0 (ev_sR ev_R0 0 65) ([.inl (1, .inl (upd (fun _ => 0) 0 0))] : List ez_C)) cz kz = some (some (.int 0), (ev_hp (ev_sI ev_I0 6 (upd (upd (ev_I0 6) 4 1) 3 1)) ev_J0 (ev_sR ev_R0 0 65) ([.inl (1, .inl (upd (fun _ => 0) 0 0))] : List ez_C)), cz, kz) := by
  intro G
  rfl
theorem sp_z_165_tooMany (X : ez_X) : ev_W X 52 0 (ez_lay [.ref 0]) [] (ev_hp ev_I0 ev_J0 ev_R0 []) 0 0 (fun r h1 c1 k1 => r = (some (.int 0)) ∧ h1 = (ev_hp (ev_sI ev_I0 6 (upd (upd (ev_I0 6) 4 1) 3 1)) ev_J0 (ev_sR ev_R0 0 65) ([.inl (1, .inl (upd (fun _ => 0) 0 0))] : List ez_C)) ∧ c1 = 1 ∧ k1 = 1) := by
  refine ev_call (sp_z_165_tooMany_r1 X  _ _) (sp_z_166_combinations X) ?_
  rintro _ _ _ _ ⟨rfl, rfl, rfl, rfl⟩
  refine ev_call (sp_z_165_tooMany_r2 X  _ _) (sp_z_170_search X) ?_
  rintro _ _ _ _ ⟨rfl, rfl, rfl, rfl⟩
  refine ev_ret (sp_z_165_tooMany_r3 X  _ _) ?_
  exact ⟨rfl, rfl, rfl, rfl⟩
set_option maxRecDepth 100000 in
set_option maxHeartbeats 100000 in
theorem ef_rim_n_r1 (X : ez_X) (I : Nat → Nat → Int32) (J : Nat → Nat → Int64) (R : Nat → Nat) (T : List ez_C) (a : Int32) (b : Int32) (cz kz : Nat) : ∀ G : ez_F, fx_up X 3 G 40 0 [.ref 0, .int a, .int b] [] (ev_hp ev_I0 ev_J0 ev_R0 []) cz kz = ev_C G 24 [.ref 0, .int b] (ev_hp ev_I0 ev_J0 ev_R0 []) fun r h1 c1 k1 => G 40 5 [.ref 0, .int a, .int b] (r.toList ++ []) h1 (cz + c1) (kz + k1) := by
  intro G
  rfl
set_option maxRecDepth 100000 in
set_option maxHeartbeats 100000 in
theorem ef_rim_n_r2 (X : ez_X) (I : Nat → Nat → Int32) (J : Nat → Nat → Int64) (R : Nat → Nat) (T : List ez_C) (a : Int32) (b : Int32) (q140 : Int32) (cz kz : Nat) : ∀ G : ez_F, fx_up X 1 G 40 5 [.ref 0, .int a, .int b] [.int q140] (ev_hp ev_I0 ev_J0 ev_R0 []) cz kz = bif decide (¬ q140 = 0) then G 40 11 [.ref 0, .int a, .int b] [] (ev_hp ev_I0 ev_J0 ev_R0 []) cz kz else G 40 8 [.ref 0, .int a, .int b] [] (ev_hp ev_I0 ev_J0 ev_R0 []) cz kz := by
  intro G
  rfl
set_option maxRecDepth 100000 in
set_option maxHeartbeats 100000 in
theorem ef_rim_n_r3 (X : ez_X) (I : Nat → Nat → Int32) (J : Nat → Nat → Int64) (R : Nat → Nat) (T : List ez_C) (a : Int32) (b : Int32) (q140 : Int32) (cz kz : Nat) : ∀ G : ez_F, fx_up X 2 G 40 11 [.ref 0, .int a, .int b] [] (ev_hp ev_I0 ev_J0 ev_R0 []) cz kz = ev_C G 52 [.ref 0] (ev_hp ev_I0 ev_J0 ev_R0 []) fun r h1 c1 k1 => G 40 15 [.ref 0, .int a, .int b] (r.toList ++ []) h1 (cz + c1) (kz + k1) := by
  intro G
  rfl
set_option maxRecDepth 100000 in
set_option maxHeartbeats 100000 in
theorem ef_rim_n_r4 (X : ez_X) (I : Nat → Nat → Int32) (J : Nat → Nat → Int64) (R : Nat → Nat) (T : List ez_C) (a : Int32) (b : Int32) (q140 : Int32) (cz kz : Nat) : ∀ G : ez_F, fx_up X 4 G 40 15 [.ref 0, .int a, .int b] [.int 0] (ev_hp (ev_sI ev_I0 6 (upd (upd (ev_I0 6) 4 1) 3 1)) ev_J0 (ev_sR ev_R0 0 65) ([.inl (1, .inl (upd (fun _ => 0) 0 0))] : List ez_C)) cz kz = ev_C G 23 [.ref 0, .int a] (ev_hp (ev_sI ev_I0 6 (upd (upd (ev_I0 6) 4 1) 3 1)) ev_J0 (ev_sR ev_R0 0 65) ([.inl (1, .inl (upd (fun _ => 0) 0 0))] : List ez_C)) fun r h1 c1 k1 => G 40 26 [.ref 0, .int a, .int b] (r.toList ++ []) h1 (cz + c1) (kz + k1) := by
  intro G
  rfl
set_option maxRecDepth 100000 in
set_option maxHeartbeats 100000 in
theorem ef_rim_n_r5 (X : ez_X) (I : Nat → Nat → Int32) (J : Nat → Nat → Int64) (R : Nat → Nat) (T : List ez_C) (a : Int32) (b : Int32) (q140 : Int32) (q141 : Int32) (cz kz : Nat) : ∀ G : ez_F, fx_up X 1 G 40 26 [.ref 0, .int a, .int b] [.int q141] (ev_hp (ev_sI ev_I0 6 (upd (upd (ev_I0 6) 4 1) 3 1)) ev_J0 (ev_sR ev_R0 0 65) ([.inl (1, .inl (upd (fun _ => 0) 0 0))] : List ez_C)) cz kz = bif decide (q141 = 0) then G 40 48 [.ref 0, .int a, .int b] [] (ev_hp (ev_sI ev_I0 6 (upd (upd (ev_I0 6) 4 1) 3 1)) ev_J0 (ev_sR ev_R0 0 65) ([.inl (1, .inl (upd (fun _ => 0) 0 0))] : List ez_C)) cz kz else G 40 29 [.ref 0, .int a, .int b] [] (ev_hp (ev_sI ev_I0 6 (upd (upd (ev_I0 6) 4 1) 3 1)) ev_J0 (ev_sR ev_R0 0 65) ([.inl (1, .inl (upd (fun _ => 0) 0 0))] : List ez_C)) cz kz := by
  intro G
  rfl
set_option maxRecDepth 100000 in
set_option maxHeartbeats 100000 in
theorem ef_rim_n_r6 (X : ez_X) (I : Nat → Nat → Int32) (J : Nat → Nat → Int64) (R : Nat → Nat) (T : List ez_C) (a : Int32) (b : Int32) (q140 : Int32) (q141 : Int32) (cz kz : Nat) : ∀ G : ez_F, fx_up X 2 G 40 48 [.ref 0, .int a, .int b] [] (ev_hp (ev_sI ev_I0 6 (upd (upd (ev_I0 6) 4 1) 3 1)) ev_J0 (ev_sR ev_R0 0 65) ([.inl (1, .inl (upd (fun _ => 0) 0 0))] : List ez_C)) cz kz = some (some (.int (-2)), (ev_hp (ev_sI ev_I0 6 (upd (upd (ev_I0 6) 4 1) 3 1)) ev_J0 (ev_sR ev_R0 0 65) ([.inl (1, .inl (upd (fun _ => 0) 0 0))] : List ez_C)), cz, kz) := by
  intro G
  rfl
theorem ef_rim_n (X : ez_X) (I : Nat → Nat → Int32) (J : Nat → Nat → Int64) (R : Nat → Nat) (T : List ez_C) (a : Int32) (b : Int32) (ha : ev_wi a 0 0 = 0) (hb : ¬ ev_wi b 0 9 = 0) : ev_W X 40 0 (ez_lay [.ref 0, .int a, .int b]) [] (ev_hp ev_I0 ev_J0 ev_R0 []) 0 0 (fun r h1 c1 k1 => ((¬ (((ev_wi b 0 ((((5 : Int32) + (5 : Int32))) - (1 : Int32))))) = 0) ∧ ((((ev_wi a 0 ((1 : Int32) - (1 : Int32))))) = 0) ∧ r = some (.int (-2)) ∧ h1 = (ev_hp (ev_sI ev_I0 6 (upd (upd (ev_I0 6) 4 1) 3 1)) ev_J0 (ev_sR ev_R0 0 65) ([.inl (1, .inl (upd (fun _ => 0) 0 0))] : List ez_C)) ∧ c1 = 1 ∧ k1 = 1)) := by
  refine ev_call (ef_rim_n_r1 X I J R T a b _ _) (eg_isRim X ev_I0 ev_J0 ev_R0 [] b) ?_
  rintro r0 _ _ _ (⟨hr0, rfl, rfl, rfl⟩)
  obtain ⟨q140, hq140⟩ : ∃ z : Int32, ((ev_wi b 0 ((((5 : Int32) + (5 : Int32))) - (1 : Int32)))) = z := ⟨_, rfl⟩
  have eq140 : r0 = some (.int q140) := hr0.trans (by subst hq140; rfl)
  subst eq140
  refine ev_if (ef_rim_n_r2 X I J R T a b q140 _ _) (fun b1 => ?_) (fun b1 => ?_)
  · replace b1 := of_decide_eq_true b1
    refine ev_call (ef_rim_n_r3 X I J R T a b q140 _ _) (sp_z_165_tooMany X) ?_
    rintro _ _ _ _ ⟨rfl, rfl, rfl, rfl⟩
    refine ev_call (ef_rim_n_r4 X I J R T a b q140 _ _) (eg_isLaying X (ev_sI ev_I0 6 (upd (upd (ev_I0 6) 4 1) 3 1)) ev_J0 (ev_sR ev_R0 0 65) ([.inl (1, .inl (upd (fun _ => 0) 0 0))] : List ez_C) a) ?_
    rintro r0 _ _ _ (⟨hr0, rfl, rfl, rfl⟩)
    obtain ⟨q141, hq141⟩ : ∃ z : Int32, ((ev_wi a 0 ((1 : Int32) - (1 : Int32)))) = z := ⟨_, rfl⟩
    have eq141 : r0 = some (.int q141) := hr0.trans (by subst hq141; rfl)
    subst eq141
    refine ev_if (ef_rim_n_r5 X I J R T a b q140 q141 _ _) (fun b2 => ?_) (fun b2 => ?_)
    · replace b2 := of_decide_eq_true b2
      refine ev_ret (ef_rim_n_r6 X I J R T a b q140 q141 _ _) ?_
      subst hq141
      subst hq140
      exact ⟨b1, b2, rfl, rfl, rfl, rfl⟩
    · replace b2 := of_decide_eq_false b2
      exact (b2 (by rw [← hq141]; exact ha)).elim
  · replace b1 := of_decide_eq_false b1
    exact (b1 (fun hz => hb (hq140.trans hz))).elim
set_option maxRecDepth 100000 in
set_option maxHeartbeats 100000 in
theorem sp_z_189_areLaid_r1 (X : ez_X)  (cz kz : Nat) : ∀ G : ez_F, fx_up X 24 G 167 0 [.ref 35] [] (ev_hp (ev_sI ev_I0 6 (upd (upd (ev_I0 6) 4 1) 3 1)) ev_J0 (ev_sR ev_R0 0 65) ([.inl (1, .inl (upd (fun _ => 0) 0 0))] : List ez_C)) cz kz = G 167 83 [.ref 35, .long 1, ez_fill, .int 1] [] (ev_hp (ev_sI (ev_sI ev_I0 6 (upd (upd (ev_I0 6) 4 1) 3 1)) 35 (upd (ev_I0 35) 14 0)) ev_J0 (ev_sR ev_R0 0 65) ([.inl (1, .inl (upd (fun _ => 0) 0 0))] : List ez_C)) cz kz := by
  intro G
  rfl
set_option maxRecDepth 100000 in
set_option maxHeartbeats 100000 in
theorem sp_z_189_areLaid_r2 (X : ez_X)  (cz kz : Nat) : ∀ G : ez_F, fx_up X 24 G 167 83 [.ref 35, .long 1, ez_fill, .int 1] [] (ev_hp (ev_sI (ev_sI ev_I0 6 (upd (upd (ev_I0 6) 4 1) 3 1)) 35 (upd (ev_I0 35) 14 0)) ev_J0 (ev_sR ev_R0 0 65) ([.inl (1, .inl (upd (fun _ => 0) 0 0))] : List ez_C)) cz kz = G 167 162 [.ref 35, .long 1, ez_fill, .int 1, .int 1, .int 1, .int 0, .int 0] [.int 1] (ev_hp (ev_sI (ev_sI ev_I0 6 (upd (upd (ev_I0 6) 4 1) 3 1)) 35 (upd (ev_I0 35) 14 0)) ev_J0 (ev_sR ev_R0 0 65) ([.inl (1, .inl (upd (fun _ => 0) 0 0))] : List ez_C)) cz kz := by
  intro G
  rfl
set_option maxRecDepth 100000 in
set_option maxHeartbeats 100000 in
theorem sp_z_189_areLaid_r3 (X : ez_X)  (cz kz : Nat) : ∀ G : ez_F, fx_up X 24 G 167 162 [.ref 35, .long 1, ez_fill, .int 1, .int 1, .int 1, .int 0, .int 0] [.int 1] (ev_hp (ev_sI (ev_sI ev_I0 6 (upd (upd (ev_I0 6) 4 1) 3 1)) 35 (upd (ev_I0 35) 14 0)) ev_J0 (ev_sR ev_R0 0 65) ([.inl (1, .inl (upd (fun _ => 0) 0 0))] : List ez_C)) cz kz = G 167 258 [.ref 35, .long 1, ez_fill, .int 1, .int 1, .int 1, .int 0, .int 0, .int 1, .int 0] [.ref 35, .int 3, .ref 41] (ev_hp (ev_sI (ev_sI (ev_sI ev_I0 6 (upd (upd (ev_I0 6) 4 1) 3 1)) 35 (upd (ev_I0 35) 14 0)) 41 (upd (ev_I0 41) 0 0)) ev_J0 (ev_sR ev_R0 0 65) ([.inl (1, .inl (upd (fun _ => 0) 0 0))] : List ez_C)) cz kz := by
  intro G
  rfl
set_option maxRecDepth 100000 in
set_option maxHeartbeats 100000 in
theorem sp_z_189_areLaid_r4 (X : ez_X)  (cz kz : Nat) : ∀ G : ez_F, fx_up X 24 G 167 258 [.ref 35, .long 1, ez_fill, .int 1, .int 1, .int 1, .int 0, .int 0, .int 1, .int 0] [.ref 35, .int 3, .ref 41] (ev_hp (ev_sI (ev_sI (ev_sI ev_I0 6 (upd (upd (ev_I0 6) 4 1) 3 1)) 35 (upd (ev_I0 35) 14 0)) 41 (upd (ev_I0 41) 0 0)) ev_J0 (ev_sR ev_R0 0 65) ([.inl (1, .inl (upd (fun _ => 0) 0 0))] : List ez_C)) cz kz = G 167 167 [.ref 35, .long 1, ez_fill, .int 1, .int 1, .int 1, .int 0, .int 0, .int 1, .int 1] [] (ev_hp (ev_sI (ev_sI (ev_sI ev_I0 6 (upd (upd (ev_I0 6) 4 1) 3 1)) 35 (upd (ev_I0 35) 14 1)) 41 (upd (upd (upd (ev_I0 41) 0 0) 1 0) 2 0)) ev_J0 (ev_sR ev_R0 0 65) ([.inl (1, .inl (upd (fun _ => 0) 0 0))] : List ez_C)) cz kz := by
  intro G
  rfl
set_option maxRecDepth 100000 in
set_option maxHeartbeats 100000 in
theorem sp_z_189_areLaid_r5 (X : ez_X)  (cz kz : Nat) : ∀ G : ez_F, fx_up X 15 G 167 167 [.ref 35, .long 1, ez_fill, .int 1, .int 1, .int 1, .int 0, .int 0, .int 1, .int 1] [] (ev_hp (ev_sI (ev_sI (ev_sI ev_I0 6 (upd (upd (ev_I0 6) 4 1) 3 1)) 35 (upd (ev_I0 35) 14 1)) 41 (upd (upd (upd (ev_I0 41) 0 0) 1 0) 2 0)) ev_J0 (ev_sR ev_R0 0 65) ([.inl (1, .inl (upd (fun _ => 0) 0 0))] : List ez_C)) cz kz = some (some (.int 1), (ev_hp (ev_sI (ev_sI (ev_sI ev_I0 6 (upd (upd (ev_I0 6) 4 1) 3 1)) 35 (upd (ev_I0 35) 14 1)) 41 (upd (upd (upd (ev_I0 41) 0 0) 1 0) 2 0)) ev_J0 (ev_sR ev_R0 0 65) ([.inl (1, .inl (upd (fun _ => 0) 0 0))] : List ez_C)), cz, kz) := by
  intro G
  rfl
theorem sp_z_189_areLaid (X : ez_X) : ev_W X 167 0 (ez_lay [.ref 35]) [] (ev_hp (ev_sI ev_I0 6 (upd (upd (ev_I0 6) 4 1) 3 1)) ev_J0 (ev_sR ev_R0 0 65) ([.inl (1, .inl (upd (fun _ => 0) 0 0))] : List ez_C)) 0 0 (fun r h1 c1 k1 => r = (some (.int 1)) ∧ h1 = (ev_hp (ev_sI (ev_sI (ev_sI ev_I0 6 (upd (upd (ev_I0 6) 4 1) 3 1)) 35 (upd (ev_I0 35) 14 1)) 41 (upd (upd (upd (ev_I0 41) 0 0) 1 0) 2 0)) ev_J0 (ev_sR ev_R0 0 65) ([.inl (1, .inl (upd (fun _ => 0) 0 0))] : List ez_C)) ∧ c1 = 0 ∧ k1 = 0) := by
  refine ev_seg (sp_z_189_areLaid_r1 X  _ _) ?_
  refine ev_seg (sp_z_189_areLaid_r2 X  _ _) ?_
  refine ev_seg (sp_z_189_areLaid_r3 X  _ _) ?_
  refine ev_seg (sp_z_189_areLaid_r4 X  _ _) ?_
  refine ev_ret (sp_z_189_areLaid_r5 X  _ _) ?_
  exact ⟨rfl, rfl, rfl, rfl⟩
set_option maxRecDepth 100000 in
set_option maxHeartbeats 100000 in
theorem eh_rim_n_r1 (X : ez_X) (I : Nat → Nat → Int32) (J : Nat → Nat → Int64) (R : Nat → Nat) (T : List ez_C) (a : Int32) (b : Int32) (cz kz : Nat) : ∀ G : ez_F, fx_up X 3 G 217 0 [.ref 35, .int a, .int b] [] (ev_hp (ev_sI ev_I0 6 (upd (upd (ev_I0 6) 4 1) 3 1)) ev_J0 (ev_sR ev_R0 0 65) ([.inl (1, .inl (upd (fun _ => 0) 0 0))] : List ez_C)) cz kz = ev_C G 203 [.ref 35, .int b] (ev_hp (ev_sI ev_I0 6 (upd (upd (ev_I0 6) 4 1) 3 1)) ev_J0 (ev_sR ev_R0 0 65) ([.inl (1, .inl (upd (fun _ => 0) 0 0))] : List ez_C)) fun r h1 c1 k1 => G 217 5 [.ref 35, .int a, .int b] (r.toList ++ []) h1 (cz + c1) (kz + k1) := by
  intro G
  rfl
set_option maxRecDepth 100000 in
set_option maxHeartbeats 100000 in
theorem eh_rim_n_r2 (X : ez_X) (I : Nat → Nat → Int32) (J : Nat → Nat → Int64) (R : Nat → Nat) (T : List ez_C) (a : Int32) (b : Int32) (q142 : Int32) (cz kz : Nat) : ∀ G : ez_F, fx_up X 1 G 217 5 [.ref 35, .int a, .int b] [.int q142] (ev_hp (ev_sI ev_I0 6 (upd (upd (ev_I0 6) 4 1) 3 1)) ev_J0 (ev_sR ev_R0 0 65) ([.inl (1, .inl (upd (fun _ => 0) 0 0))] : List ez_C)) cz kz = bif decide (¬ q142 = 0) then G 217 11 [.ref 35, .int a, .int b] [] (ev_hp (ev_sI ev_I0 6 (upd (upd (ev_I0 6) 4 1) 3 1)) ev_J0 (ev_sR ev_R0 0 65) ([.inl (1, .inl (upd (fun _ => 0) 0 0))] : List ez_C)) cz kz else G 217 8 [.ref 35, .int a, .int b] [] (ev_hp (ev_sI ev_I0 6 (upd (upd (ev_I0 6) 4 1) 3 1)) ev_J0 (ev_sR ev_R0 0 65) ([.inl (1, .inl (upd (fun _ => 0) 0 0))] : List ez_C)) cz kz := by
  intro G
  rfl
set_option maxRecDepth 100000 in
set_option maxHeartbeats 100000 in
theorem eh_rim_n_r3 (X : ez_X) (I : Nat → Nat → Int32) (J : Nat → Nat → Int64) (R : Nat → Nat) (T : List ez_C) (a : Int32) (b : Int32) (q142 : Int32) (cz kz : Nat) : ∀ G : ez_F, fx_up X 2 G 217 11 [.ref 35, .int a, .int b] [] (ev_hp (ev_sI ev_I0 6 (upd (upd (ev_I0 6) 4 1) 3 1)) ev_J0 (ev_sR ev_R0 0 65) ([.inl (1, .inl (upd (fun _ => 0) 0 0))] : List ez_C)) cz kz = ev_C G 167 [.ref 35] (ev_hp (ev_sI ev_I0 6 (upd (upd (ev_I0 6) 4 1) 3 1)) ev_J0 (ev_sR ev_R0 0 65) ([.inl (1, .inl (upd (fun _ => 0) 0 0))] : List ez_C)) fun r h1 c1 k1 => G 217 15 [.ref 35, .int a, .int b] (r.toList ++ []) h1 (cz + c1) (kz + k1) := by
  intro G
  rfl
set_option maxRecDepth 100000 in
set_option maxHeartbeats 100000 in
theorem eh_rim_n_r4 (X : ez_X) (I : Nat → Nat → Int32) (J : Nat → Nat → Int64) (R : Nat → Nat) (T : List ez_C) (a : Int32) (b : Int32) (q142 : Int32) (cz kz : Nat) : ∀ G : ez_F, fx_up X 4 G 217 15 [.ref 35, .int a, .int b] [.int 1] (ev_hp (ev_sI (ev_sI (ev_sI ev_I0 6 (upd (upd (ev_I0 6) 4 1) 3 1)) 35 (upd (ev_I0 35) 14 1)) 41 (upd (upd (upd (ev_I0 41) 0 0) 1 0) 2 0)) ev_J0 (ev_sR ev_R0 0 65) ([.inl (1, .inl (upd (fun _ => 0) 0 0))] : List ez_C)) cz kz = ev_C G 202 [.ref 35, .int a] (ev_hp (ev_sI (ev_sI (ev_sI ev_I0 6 (upd (upd (ev_I0 6) 4 1) 3 1)) 35 (upd (ev_I0 35) 14 1)) 41 (upd (upd (upd (ev_I0 41) 0 0) 1 0) 2 0)) ev_J0 (ev_sR ev_R0 0 65) ([.inl (1, .inl (upd (fun _ => 0) 0 0))] : List ez_C)) fun r h1 c1 k1 => G 217 26 [.ref 35, .int a, .int b] (r.toList ++ []) h1 (cz + c1) (kz + k1) := by
  intro G
  rfl
set_option maxRecDepth 100000 in
set_option maxHeartbeats 100000 in
theorem eh_rim_n_r5 (X : ez_X) (I : Nat → Nat → Int32) (J : Nat → Nat → Int64) (R : Nat → Nat) (T : List ez_C) (a : Int32) (b : Int32) (q142 : Int32) (q143 : Int32) (cz kz : Nat) : ∀ G : ez_F, fx_up X 1 G 217 26 [.ref 35, .int a, .int b] [.int q143] (ev_hp (ev_sI (ev_sI (ev_sI ev_I0 6 (upd (upd (ev_I0 6) 4 1) 3 1)) 35 (upd (ev_I0 35) 14 1)) 41 (upd (upd (upd (ev_I0 41) 0 0) 1 0) 2 0)) ev_J0 (ev_sR ev_R0 0 65) ([.inl (1, .inl (upd (fun _ => 0) 0 0))] : List ez_C)) cz kz = bif decide (q143 = 0) then G 217 42 [.ref 35, .int a, .int b] [] (ev_hp (ev_sI (ev_sI (ev_sI ev_I0 6 (upd (upd (ev_I0 6) 4 1) 3 1)) 35 (upd (ev_I0 35) 14 1)) 41 (upd (upd (upd (ev_I0 41) 0 0) 1 0) 2 0)) ev_J0 (ev_sR ev_R0 0 65) ([.inl (1, .inl (upd (fun _ => 0) 0 0))] : List ez_C)) cz kz else G 217 29 [.ref 35, .int a, .int b] [] (ev_hp (ev_sI (ev_sI (ev_sI ev_I0 6 (upd (upd (ev_I0 6) 4 1) 3 1)) 35 (upd (ev_I0 35) 14 1)) 41 (upd (upd (upd (ev_I0 41) 0 0) 1 0) 2 0)) ev_J0 (ev_sR ev_R0 0 65) ([.inl (1, .inl (upd (fun _ => 0) 0 0))] : List ez_C)) cz kz := by
  intro G
  rfl
set_option maxRecDepth 100000 in
set_option maxHeartbeats 100000 in
theorem eh_rim_n_r6 (X : ez_X) (I : Nat → Nat → Int32) (J : Nat → Nat → Int64) (R : Nat → Nat) (T : List ez_C) (a : Int32) (b : Int32) (q142 : Int32) (q143 : Int32) (cz kz : Nat) : ∀ G : ez_F, fx_up X 2 G 217 42 [.ref 35, .int a, .int b] [] (ev_hp (ev_sI (ev_sI (ev_sI ev_I0 6 (upd (upd (ev_I0 6) 4 1) 3 1)) 35 (upd (ev_I0 35) 14 1)) 41 (upd (upd (upd (ev_I0 41) 0 0) 1 0) 2 0)) ev_J0 (ev_sR ev_R0 0 65) ([.inl (1, .inl (upd (fun _ => 0) 0 0))] : List ez_C)) cz kz = some (some (.int (-2)), (ev_hp (ev_sI (ev_sI (ev_sI ev_I0 6 (upd (upd (ev_I0 6) 4 1) 3 1)) 35 (upd (ev_I0 35) 14 1)) 41 (upd (upd (upd (ev_I0 41) 0 0) 1 0) 2 0)) ev_J0 (ev_sR ev_R0 0 65) ([.inl (1, .inl (upd (fun _ => 0) 0 0))] : List ez_C)), cz, kz) := by
  intro G
  rfl
theorem eh_rim_n (X : ez_X) (I : Nat → Nat → Int32) (J : Nat → Nat → Int64) (R : Nat → Nat) (T : List ez_C) (a : Int32) (b : Int32) (ha : ev_wi a 0 0 = 0) (hb : ¬ ev_wi b 0 9 = 0) : ev_W X 217 0 (ez_lay [.ref 35, .int a, .int b]) [] (ev_hp (ev_sI ev_I0 6 (upd (upd (ev_I0 6) 4 1) 3 1)) ev_J0 (ev_sR ev_R0 0 65) ([.inl (1, .inl (upd (fun _ => 0) 0 0))] : List ez_C)) 0 0 (fun r h1 c1 k1 => ((¬ (((ev_il (b.toInt64) 0 ((((5 : Int32) + (5 : Int32)) - (1 : Int32)).toInt64)))) = 0) ∧ ((((ev_il (a.toInt64) 0 (((1 : Int32) - (1 : Int32)).toInt64)))) = 0) ∧ r = some (.int (-2)) ∧ h1 = (ev_hp (ev_sI (ev_sI (ev_sI ev_I0 6 (upd (upd (ev_I0 6) 4 1) 3 1)) 35 (upd (ev_I0 35) 14 1)) 41 (upd (upd (upd (ev_I0 41) 0 0) 1 0) 2 0)) ev_J0 (ev_sR ev_R0 0 65) ([.inl (1, .inl (upd (fun _ => 0) 0 0))] : List ez_C)) ∧ c1 = 0 ∧ k1 = 0)) := by
  refine ev_call (eh_rim_n_r1 X I J R T a b _ _) (em_isRim X (ev_sI ev_I0 6 (upd (upd (ev_I0 6) 4 1) 3 1)) ev_J0 (ev_sR ev_R0 0 65) ([.inl (1, .inl (upd (fun _ => 0) 0 0))] : List ez_C) b) ?_
  rintro r0 _ _ _ (⟨hr0, rfl, rfl, rfl⟩)
  obtain ⟨q142, hq142⟩ : ∃ z : Int32, ((ev_il (b.toInt64) 0 ((((5 : Int32) + (5 : Int32)) - (1 : Int32)).toInt64))) = z := ⟨_, rfl⟩
  have eq142 : r0 = some (.int q142) := hr0.trans (by subst hq142; rfl)
  subst eq142
  refine ev_if (eh_rim_n_r2 X I J R T a b q142 _ _) (fun b1 => ?_) (fun b1 => ?_)
  · replace b1 := of_decide_eq_true b1
    refine ev_call (eh_rim_n_r3 X I J R T a b q142 _ _) (sp_z_189_areLaid X) ?_
    rintro _ _ _ _ ⟨rfl, rfl, rfl, rfl⟩
    refine ev_call (eh_rim_n_r4 X I J R T a b q142 _ _) (em_isLaying X (ev_sI (ev_sI (ev_sI ev_I0 6 (upd (upd (ev_I0 6) 4 1) 3 1)) 35 (upd (ev_I0 35) 14 1)) 41 (upd (upd (upd (ev_I0 41) 0 0) 1 0) 2 0)) ev_J0 (ev_sR ev_R0 0 65) ([.inl (1, .inl (upd (fun _ => 0) 0 0))] : List ez_C) a) ?_
    rintro r0 _ _ _ (⟨hr0, rfl, rfl, rfl⟩)
    obtain ⟨q143, hq143⟩ : ∃ z : Int32, ((ev_il (a.toInt64) 0 (((1 : Int32) - (1 : Int32)).toInt64))) = z := ⟨_, rfl⟩
    have eq143 : r0 = some (.int q143) := hr0.trans (by subst hq143; rfl)
    subst eq143
    refine ev_if (eh_rim_n_r5 X I J R T a b q142 q143 _ _) (fun b2 => ?_) (fun b2 => ?_)
    · replace b2 := of_decide_eq_true b2
      refine ev_ret (eh_rim_n_r6 X I J R T a b q142 q143 _ _) ?_
      subst hq143
      subst hq142
      exact ⟨b1, b2, rfl, rfl, rfl, rfl⟩
    · replace b2 := of_decide_eq_false b2
      exact (b2 (by rw [← hq143]; exact ((ev_il_wi a 0 0).trans ha))).elim
  · replace b1 := of_decide_eq_false b1
    exact (b1 (fun hz => (fun hz => hb ((ev_il_wi b 0 9).symm.trans hz)) (hq142.trans hz))).elim
set_option maxRecDepth 100000 in
set_option maxHeartbeats 100000 in
theorem eo_rim_n_r1 (xs : Nat → Int32)  (cz kz : Nat) : ∀ G : ez_F, fx_up (4, xs) 2 G 241 983 [ez_scr, .ref 0, .ref 35, .int 0] [] (ev_hp ev_I0 ev_J0 ev_R0 []) cz kz = G 241 985 [ez_scr, .ref 0, .ref 35, .int 0] [ez_scr, .ref 0] (ev_hp ev_I0 ev_J0 ev_R0 []) cz kz := by
  intro G
  rfl
set_option maxRecDepth 100000 in
set_option maxHeartbeats 100000 in
theorem eo_rim_n_r2 (xs : Nat → Int32)  (cz kz : Nat) : ∀ G : ez_F, fx_up (4, xs) 2 G 241 985 [ez_scr, .ref 0, .ref 35, .int 0] [ez_scr, .ref 0] (ev_hp ev_I0 ev_J0 ev_R0 []) cz kz = G 241 987 [ez_scr, .ref 0, .ref 35, .int 0] [.int 1, .int 0, ez_scr, .ref 0] (ev_hp ev_I0 ev_J0 ev_R0 []) cz kz := by
  intro G
  rfl
set_option maxRecDepth 100000 in
set_option maxHeartbeats 100000 in
theorem eo_rim_n_r3 (xs : Nat → Int32)  (cz kz : Nat) : ∀ G : ez_F, fx_up (4, xs) 2 G 241 987 [ez_scr, .ref 0, .ref 35, .int 0] [.int 1, .int 0, ez_scr, .ref 0] (ev_hp ev_I0 ev_J0 ev_R0 []) cz kz = G 241 989 [ez_scr, .ref 0, .ref 35, .int 0] [.int (xs 1), .ref 0] (ev_hp ev_I0 ev_J0 ev_R0 []) cz kz := by
  intro G
  rfl
set_option maxRecDepth 100000 in
set_option maxHeartbeats 100000 in
theorem eo_rim_n_r4 (xs : Nat → Int32)  (cz kz : Nat) : ∀ G : ez_F, fx_up (4, xs) 2 G 241 989 [ez_scr, .ref 0, .ref 35, .int 0] [.int (xs 1), .ref 0] (ev_hp ev_I0 ev_J0 ev_R0 []) cz kz = G 241 991 [ez_scr, .ref 0, .ref 35, .int 0] [.int 0, ez_scr, .int (xs 1), .ref 0] (ev_hp ev_I0 ev_J0 ev_R0 []) cz kz := by
  intro G
  rfl
set_option maxRecDepth 100000 in
set_option maxHeartbeats 100000 in
theorem eo_rim_n_r5 (xs : Nat → Int32)  (cz kz : Nat) : ∀ G : ez_F, fx_up (4, xs) 2 G 241 991 [ez_scr, .ref 0, .ref 35, .int 0] [.int 0, ez_scr, .int (xs 1), .ref 0] (ev_hp ev_I0 ev_J0 ev_R0 []) cz kz = G 241 993 [ez_scr, .ref 0, .ref 35, .int 0] [.int 2, ez_scr, .int (xs 1), .ref 0] (ev_hp ev_I0 ev_J0 ev_R0 []) cz kz := by
  intro G
  rfl
set_option maxRecDepth 100000 in
set_option maxHeartbeats 100000 in
theorem eo_rim_n_r6 (xs : Nat → Int32)  (cz kz : Nat) : ∀ G : ez_F, fx_up (4, xs) 2 G 241 993 [ez_scr, .ref 0, .ref 35, .int 0] [.int 2, ez_scr, .int (xs 1), .ref 0] (ev_hp ev_I0 ev_J0 ev_R0 []) cz kz = ev_C G 40 [.ref 0, .int (xs 1), .int (xs 2)] (ev_hp ev_I0 ev_J0 ev_R0 []) fun r h1 c1 k1 => G 241 997 [ez_scr, .ref 0, .ref 35, .int 0] (r.toList ++ []) h1 (cz + c1) (kz + k1) := by
  intro G
  rfl
set_option maxRecDepth 100000 in
set_option maxHeartbeats 100000 in
theorem eo_rim_n_r7 (xs : Nat → Int32)  (cz kz : Nat) : ∀ G : ez_F, fx_up (4, xs) 2 G 241 997 [ez_scr, .ref 0, .ref 35, .int 0] [.int (-2)] (ev_hp (ev_sI ev_I0 6 (upd (upd (ev_I0 6) 4 1) 3 1)) ev_J0 (ev_sR ev_R0 0 65) ([.inl (1, .inl (upd (fun _ => 0) 0 0))] : List ez_C)) cz kz = G 241 999 [ez_scr, .ref 0, .ref 35, .int 0] [ez_scr, .ref 35, .int (-2)] (ev_hp (ev_sI ev_I0 6 (upd (upd (ev_I0 6) 4 1) 3 1)) ev_J0 (ev_sR ev_R0 0 65) ([.inl (1, .inl (upd (fun _ => 0) 0 0))] : List ez_C)) cz kz := by
  intro G
  rfl
set_option maxRecDepth 100000 in
set_option maxHeartbeats 100000 in
theorem eo_rim_n_r8 (xs : Nat → Int32)  (cz kz : Nat) : ∀ G : ez_F, fx_up (4, xs) 2 G 241 999 [ez_scr, .ref 0, .ref 35, .int 0] [ez_scr, .ref 35, .int (-2)] (ev_hp (ev_sI ev_I0 6 (upd (upd (ev_I0 6) 4 1) 3 1)) ev_J0 (ev_sR ev_R0 0 65) ([.inl (1, .inl (upd (fun _ => 0) 0 0))] : List ez_C)) cz kz = G 241 1001 [ez_scr, .ref 0, .ref 35, .int 0] [.int 1, .int 0, ez_scr, .ref 35, .int (-2)] (ev_hp (ev_sI ev_I0 6 (upd (upd (ev_I0 6) 4 1) 3 1)) ev_J0 (ev_sR ev_R0 0 65) ([.inl (1, .inl (upd (fun _ => 0) 0 0))] : List ez_C)) cz kz := by
  intro G
  rfl
set_option maxRecDepth 100000 in
set_option maxHeartbeats 100000 in
theorem eo_rim_n_r9 (xs : Nat → Int32)  (cz kz : Nat) : ∀ G : ez_F, fx_up (4, xs) 2 G 241 1001 [ez_scr, .ref 0, .ref 35, .int 0] [.int 1, .int 0, ez_scr, .ref 35, .int (-2)] (ev_hp (ev_sI ev_I0 6 (upd (upd (ev_I0 6) 4 1) 3 1)) ev_J0 (ev_sR ev_R0 0 65) ([.inl (1, .inl (upd (fun _ => 0) 0 0))] : List ez_C)) cz kz = G 241 1003 [ez_scr, .ref 0, .ref 35, .int 0] [.int (xs 1), .ref 35, .int (-2)] (ev_hp (ev_sI ev_I0 6 (upd (upd (ev_I0 6) 4 1) 3 1)) ev_J0 (ev_sR ev_R0 0 65) ([.inl (1, .inl (upd (fun _ => 0) 0 0))] : List ez_C)) cz kz := by
  intro G
  rfl
set_option maxRecDepth 100000 in
set_option maxHeartbeats 100000 in
theorem eo_rim_n_r10 (xs : Nat → Int32)  (cz kz : Nat) : ∀ G : ez_F, fx_up (4, xs) 2 G 241 1003 [ez_scr, .ref 0, .ref 35, .int 0] [.int (xs 1), .ref 35, .int (-2)] (ev_hp (ev_sI ev_I0 6 (upd (upd (ev_I0 6) 4 1) 3 1)) ev_J0 (ev_sR ev_R0 0 65) ([.inl (1, .inl (upd (fun _ => 0) 0 0))] : List ez_C)) cz kz = G 241 1005 [ez_scr, .ref 0, .ref 35, .int 0] [.int 0, ez_scr, .int (xs 1), .ref 35, .int (-2)] (ev_hp (ev_sI ev_I0 6 (upd (upd (ev_I0 6) 4 1) 3 1)) ev_J0 (ev_sR ev_R0 0 65) ([.inl (1, .inl (upd (fun _ => 0) 0 0))] : List ez_C)) cz kz := by
  intro G
  rfl
set_option maxRecDepth 100000 in
set_option maxHeartbeats 100000 in
theorem eo_rim_n_r11 (xs : Nat → Int32)  (cz kz : Nat) : ∀ G : ez_F, fx_up (4, xs) 2 G 241 1005 [ez_scr, .ref 0, .ref 35, .int 0] [.int 0, ez_scr, .int (xs 1), .ref 35, .int (-2)] (ev_hp (ev_sI ev_I0 6 (upd (upd (ev_I0 6) 4 1) 3 1)) ev_J0 (ev_sR ev_R0 0 65) ([.inl (1, .inl (upd (fun _ => 0) 0 0))] : List ez_C)) cz kz = G 241 1007 [ez_scr, .ref 0, .ref 35, .int 0] [.int 2, ez_scr, .int (xs 1), .ref 35, .int (-2)] (ev_hp (ev_sI ev_I0 6 (upd (upd (ev_I0 6) 4 1) 3 1)) ev_J0 (ev_sR ev_R0 0 65) ([.inl (1, .inl (upd (fun _ => 0) 0 0))] : List ez_C)) cz kz := by
  intro G
  rfl
set_option maxRecDepth 100000 in
set_option maxHeartbeats 100000 in
theorem eo_rim_n_r12 (xs : Nat → Int32)  (cz kz : Nat) : ∀ G : ez_F, fx_up (4, xs) 2 G 241 1007 [ez_scr, .ref 0, .ref 35, .int 0] [.int 2, ez_scr, .int (xs 1), .ref 35, .int (-2)] (ev_hp (ev_sI ev_I0 6 (upd (upd (ev_I0 6) 4 1) 3 1)) ev_J0 (ev_sR ev_R0 0 65) ([.inl (1, .inl (upd (fun _ => 0) 0 0))] : List ez_C)) cz kz = ev_C G 217 [.ref 35, .int (xs 1), .int (xs 2)] (ev_hp (ev_sI ev_I0 6 (upd (upd (ev_I0 6) 4 1) 3 1)) ev_J0 (ev_sR ev_R0 0 65) ([.inl (1, .inl (upd (fun _ => 0) 0 0))] : List ez_C)) fun r h1 c1 k1 => G 241 1011 [ez_scr, .ref 0, .ref 35, .int 0] (r.toList ++ [.int (-2)]) h1 (cz + c1) (kz + k1) := by
  intro G
  rfl
set_option maxRecDepth 100000 in
set_option maxHeartbeats 100000 in
theorem eo_rim_n_r13 (xs : Nat → Int32)  (cz kz : Nat) : ∀ G : ez_F, fx_up (4, xs) 2 G 241 1011 [ez_scr, .ref 0, .ref 35, .int 0] [.int (-2), .int (-2)] (ev_hp (ev_sI (ev_sI (ev_sI ev_I0 6 (upd (upd (ev_I0 6) 4 1) 3 1)) 35 (upd (ev_I0 35) 14 1)) 41 (upd (upd (upd (ev_I0 41) 0 0) 1 0) 2 0)) ev_J0 (ev_sR ev_R0 0 65) ([.inl (1, .inl (upd (fun _ => 0) 0 0))] : List ez_C)) cz kz = G 241 1078 [ez_scr, .ref 0, .ref 35, .int 4] [] (ev_hp (ev_sI (ev_sI (ev_sI ev_I0 6 (upd (upd (ev_I0 6) 4 1) 3 1)) 35 (upd (ev_I0 35) 14 1)) 41 (upd (upd (upd (ev_I0 41) 0 0) 1 0) 2 0)) ev_J0 (ev_sR ev_R0 0 65) ([.inl (1, .inl (upd (fun _ => 0) 0 0))] : List ez_C)) cz kz := by
  intro G
  rfl
set_option maxRecDepth 100000 in
set_option maxHeartbeats 100000 in
theorem eo_rim_n_r14 (xs : Nat → Int32)  (cz kz : Nat) : ∀ G : ez_F, fx_up (4, xs) 2 G 241 1078 [ez_scr, .ref 0, .ref 35, .int 4] [] (ev_hp (ev_sI (ev_sI (ev_sI ev_I0 6 (upd (upd (ev_I0 6) 4 1) 3 1)) 35 (upd (ev_I0 35) 14 1)) 41 (upd (upd (upd (ev_I0 41) 0 0) 1 0) 2 0)) ev_J0 (ev_sR ev_R0 0 65) ([.inl (1, .inl (upd (fun _ => 0) 0 0))] : List ez_C)) cz kz = G 241 19 [ez_scr, .ref 0, .ref 35, .int 4] [.int 4] (ev_hp (ev_sI (ev_sI (ev_sI ev_I0 6 (upd (upd (ev_I0 6) 4 1) 3 1)) 35 (upd (ev_I0 35) 14 1)) 41 (upd (upd (upd (ev_I0 41) 0 0) 1 0) 2 0)) ev_J0 (ev_sR ev_R0 0 65) ([.inl (1, .inl (upd (fun _ => 0) 0 0))] : List ez_C)) cz kz := by
  intro G
  rfl
set_option maxRecDepth 100000 in
set_option maxHeartbeats 100000 in
theorem eo_rim_n_r15 (xs : Nat → Int32)  (cz kz : Nat) : ∀ G : ez_F, fx_up (4, xs) 2 G 241 19 [ez_scr, .ref 0, .ref 35, .int 4] [.int 4] (ev_hp (ev_sI (ev_sI (ev_sI ev_I0 6 (upd (upd (ev_I0 6) 4 1) 3 1)) 35 (upd (ev_I0 35) 14 1)) 41 (upd (upd (upd (ev_I0 41) 0 0) 1 0) 2 0)) ev_J0 (ev_sR ev_R0 0 65) ([.inl (1, .inl (upd (fun _ => 0) 0 0))] : List ez_C)) cz kz = G 241 21 [ez_scr, .ref 0, .ref 35, .int 4] [.int 4, .int 4] (ev_hp (ev_sI (ev_sI (ev_sI ev_I0 6 (upd (upd (ev_I0 6) 4 1) 3 1)) 35 (upd (ev_I0 35) 14 1)) 41 (upd (upd (upd (ev_I0 41) 0 0) 1 0) 2 0)) ev_J0 (ev_sR ev_R0 0 65) ([.inl (1, .inl (upd (fun _ => 0) 0 0))] : List ez_C)) cz kz := by
  intro G
  rfl
set_option maxRecDepth 100000 in
set_option maxHeartbeats 100000 in
theorem eo_rim_n_r16 (xs : Nat → Int32)  (cz kz : Nat) : ∀ G : ez_F, fx_up (4, xs) 2 G 241 21 [ez_scr, .ref 0, .ref 35, .int 4] [.int 4, .int 4] (ev_hp (ev_sI (ev_sI (ev_sI ev_I0 6 (upd (upd (ev_I0 6) 4 1) 3 1)) 35 (upd (ev_I0 35) 14 1)) 41 (upd (upd (upd (ev_I0 41) 0 0) 1 0) 2 0)) ev_J0 (ev_sR ev_R0 0 65) ([.inl (1, .inl (upd (fun _ => 0) 0 0))] : List ez_C)) cz kz = G 241 23 [ez_scr, .ref 0, .ref 35, .int 4] [.int 0, .int 4] (ev_hp (ev_sI (ev_sI (ev_sI ev_I0 6 (upd (upd (ev_I0 6) 4 1) 3 1)) 35 (upd (ev_I0 35) 14 1)) 41 (upd (upd (upd (ev_I0 41) 0 0) 1 0) 2 0)) ev_J0 (ev_sR ev_R0 0 65) ([.inl (1, .inl (upd (fun _ => 0) 0 0))] : List ez_C)) cz kz := by
  intro G
  rfl
set_option maxRecDepth 100000 in
set_option maxHeartbeats 100000 in
theorem eo_rim_n_r17 (xs : Nat → Int32)  (cz kz : Nat) : ∀ G : ez_F, fx_up (4, xs) 2 G 241 23 [ez_scr, .ref 0, .ref 35, .int 4] [.int 0, .int 4] (ev_hp (ev_sI (ev_sI (ev_sI ev_I0 6 (upd (upd (ev_I0 6) 4 1) 3 1)) 35 (upd (ev_I0 35) 14 1)) 41 (upd (upd (upd (ev_I0 41) 0 0) 1 0) 2 0)) ev_J0 (ev_sR ev_R0 0 65) ([.inl (1, .inl (upd (fun _ => 0) 0 0))] : List ez_C)) cz kz = G 241 1082 [ez_scr, .ref 0, .ref 35, .int 4] [.int 1] (ev_hp (ev_sI (ev_sI (ev_sI ev_I0 6 (upd (upd (ev_I0 6) 4 1) 3 1)) 35 (upd (ev_I0 35) 14 1)) 41 (upd (upd (upd (ev_I0 41) 0 0) 1 0) 2 0)) ev_J0 (ev_sR ev_R0 0 65) ([.inl (1, .inl (upd (fun _ => 0) 0 0))] : List ez_C)) cz kz := by
  intro G
  rfl
set_option maxRecDepth 100000 in
set_option maxHeartbeats 100000 in
theorem eo_rim_n_r18 (xs : Nat → Int32)  (cz kz : Nat) : ∀ G : ez_F, fx_up (4, xs) 1 G 241 1082 [ez_scr, .ref 0, .ref 35, .int 4] [.int 1] (ev_hp (ev_sI (ev_sI (ev_sI ev_I0 6 (upd (upd (ev_I0 6) 4 1) 3 1)) 35 (upd (ev_I0 35) 14 1)) 41 (upd (upd (upd (ev_I0 41) 0 0) 1 0) 2 0)) ev_J0 (ev_sR ev_R0 0 65) ([.inl (1, .inl (upd (fun _ => 0) 0 0))] : List ez_C)) cz kz = some (some (.int 1), (ev_hp (ev_sI (ev_sI (ev_sI ev_I0 6 (upd (upd (ev_I0 6) 4 1) 3 1)) 35 (upd (ev_I0 35) 14 1)) 41 (upd (upd (upd (ev_I0 41) 0 0) 1 0) 2 0)) ev_J0 (ev_sR ev_R0 0 65) ([.inl (1, .inl (upd (fun _ => 0) 0 0))] : List ez_C)), cz, kz) := by
  intro G
  rfl
theorem eo_rim_n (xs : Nat → Int32) (ha : ev_wi (xs 1) 0 0 = 0) (hb : ¬ ev_wi (xs 2) 0 9 = 0) : ev_P1 (4, xs) 983 := by
  refine ev_seg (eo_rim_n_r1 xs  _ _) ?_
  refine ev_seg (eo_rim_n_r2 xs  _ _) ?_
  refine ev_seg (eo_rim_n_r3 xs  _ _) ?_
  refine ev_seg (eo_rim_n_r4 xs  _ _) ?_
  refine ev_seg (eo_rim_n_r5 xs  _ _) ?_
  refine ev_call (eo_rim_n_r6 xs  _ _) (ef_rim_n (4, xs) ev_I0 ev_J0 ev_R0 [] (xs 1) (xs 2) ha hb) ?_
  rintro r0 _ _ _ (⟨d118, d119, rfl, rfl, rfl, rfl⟩)
  refine ev_seg (eo_rim_n_r7 xs  _ _) ?_
  refine ev_seg (eo_rim_n_r8 xs  _ _) ?_
  refine ev_seg (eo_rim_n_r9 xs  _ _) ?_
  refine ev_seg (eo_rim_n_r10 xs  _ _) ?_
  refine ev_seg (eo_rim_n_r11 xs  _ _) ?_
  refine ev_call (eo_rim_n_r12 xs  _ _) (eh_rim_n (4, xs) (ev_sI ev_I0 6 (upd (upd (ev_I0 6) 4 1) 3 1)) ev_J0 (ev_sR ev_R0 0 65) ([.inl (1, .inl (upd (fun _ => 0) 0 0))] : List ez_C) (xs 1) (xs 2) ha hb) ?_
  rintro r0 _ _ _ (⟨d120, d121, rfl, rfl, rfl, rfl⟩)
  refine ev_seg (eo_rim_n_r13 xs  _ _) ?_
  refine ev_seg (eo_rim_n_r14 xs  _ _) ?_
  refine ev_seg (eo_rim_n_r15 xs  _ _) ?_
  refine ev_seg (eo_rim_n_r16 xs  _ _) ?_
  refine ev_seg (eo_rim_n_r17 xs  _ _) ?_
  refine ev_ret (eo_rim_n_r18 xs  _ _) ?_
  exact ⟨rfl, by omega, by omega⟩
set_option maxRecDepth 100000 in
set_option maxHeartbeats 100000 in
theorem sp_z_193_sizeOf_r1 (X : ez_X)  (cz kz : Nat) : ∀ G : ez_F, fx_up X 6 G 94 0 [.ref 3, .int 0] [] (ev_hp ev_I0 ev_J0 ev_R0 []) cz kz = some (some (.int 1), (ev_hp ev_I0 ev_J0 ev_R0 []), cz, kz) := by
  intro G
  rfl
theorem sp_z_193_sizeOf (X : ez_X) : ev_W X 94 0 (ez_lay [.ref 3, .int 0]) [] (ev_hp ev_I0 ev_J0 ev_R0 []) 0 0 (fun r h1 c1 k1 => r = (some (.int 1)) ∧ h1 = (ev_hp ev_I0 ev_J0 ev_R0 []) ∧ c1 = 0 ∧ k1 = 0) := by
  refine ev_ret (sp_z_193_sizeOf_r1 X  _ _) ?_
  exact ⟨rfl, rfl, rfl, rfl⟩
set_option maxRecDepth 100000 in
set_option maxHeartbeats 100000 in
theorem sp_z_194_sizeOf_r1 (X : ez_X)  (cz kz : Nat) : ∀ G : ez_F, fx_up X 6 G 94 0 [.ref 3, .int 1] [] (ev_hp ev_I0 ev_J0 ev_R0 []) cz kz = some (some (.int 1), (ev_hp ev_I0 ev_J0 ev_R0 []), cz, kz) := by
  intro G
  rfl
theorem sp_z_194_sizeOf (X : ez_X) : ev_W X 94 0 (ez_lay [.ref 3, .int 1]) [] (ev_hp ev_I0 ev_J0 ev_R0 []) 0 0 (fun r h1 c1 k1 => r = (some (.int 1)) ∧ h1 = (ev_hp ev_I0 ev_J0 ev_R0 []) ∧ c1 = 0 ∧ k1 = 0) := by
  refine ev_ret (sp_z_194_sizeOf_r1 X  _ _) ?_
  exact ⟨rfl, rfl, rfl, rfl⟩
set_option maxRecDepth 100000 in
set_option maxHeartbeats 100000 in
theorem sp_z_195_sizeOf_r1 (X : ez_X)  (cz kz : Nat) : ∀ G : ez_F, fx_up X 6 G 94 0 [.ref 3, .int 2] [] (ev_hp ev_I0 ev_J0 ev_R0 []) cz kz = some (some (.int 1), (ev_hp ev_I0 ev_J0 ev_R0 []), cz, kz) := by
  intro G
  rfl
theorem sp_z_195_sizeOf (X : ez_X) : ev_W X 94 0 (ez_lay [.ref 3, .int 2]) [] (ev_hp ev_I0 ev_J0 ev_R0 []) 0 0 (fun r h1 c1 k1 => r = (some (.int 1)) ∧ h1 = (ev_hp ev_I0 ev_J0 ev_R0 []) ∧ c1 = 0 ∧ k1 = 0) := by
  refine ev_ret (sp_z_195_sizeOf_r1 X  _ _) ?_
  exact ⟨rfl, rfl, rfl, rfl⟩
set_option maxRecDepth 100000 in
set_option maxHeartbeats 100000 in
theorem sp_z_192_combinations_r1 (X : ez_X)  (cz kz : Nat) : ∀ G : ez_F, fx_up X 3 G 89 0 [.ref 3] [] (ev_hp ev_I0 ev_J0 ev_R0 []) cz kz = ev_C G 94 [.ref 3, .int 0] (ev_hp ev_I0 ev_J0 ev_R0 []) fun r h1 c1 k1 => G 89 5 [.ref 3] (r.toList ++ []) h1 (cz + c1) (kz + k1) := by
  intro G
  rfl
set_option maxRecDepth 100000 in
set_option maxHeartbeats 100000 in
theorem sp_z_192_combinations_r2 (X : ez_X)  (cz kz : Nat) : ∀ G : ez_F, fx_up X 3 G 89 5 [.ref 3] [.int 1] (ev_hp ev_I0 ev_J0 ev_R0 []) cz kz = ev_C G 94 [.ref 3, .int 1] (ev_hp ev_I0 ev_J0 ev_R0 []) fun r h1 c1 k1 => G 89 10 [.ref 3] (r.toList ++ [.int 1]) h1 (cz + c1) (kz + k1) := by
  intro G
  rfl
set_option maxRecDepth 100000 in
set_option maxHeartbeats 100000 in
theorem sp_z_192_combinations_r3 (X : ez_X)  (cz kz : Nat) : ∀ G : ez_F, fx_up X 4 G 89 10 [.ref 3] [.int 1, .int 1] (ev_hp ev_I0 ev_J0 ev_R0 []) cz kz = ev_C G 94 [.ref 3, .int 2] (ev_hp ev_I0 ev_J0 ev_R0 []) fun r h1 c1 k1 => G 89 16 [.ref 3] (r.toList ++ [.int 1]) h1 (cz + c1) (kz + k1) := by
  intro G
  rfl
set_option maxRecDepth 100000 in
set_option maxHeartbeats 100000 in
theorem sp_z_192_combinations_r4 (X : ez_X)  (cz kz : Nat) : ∀ G : ez_F, fx_up X 2 G 89 16 [.ref 3] [.int 1, .int 1] (ev_hp ev_I0 ev_J0 ev_R0 []) cz kz = some (some (.int 1), (ev_hp ev_I0 ev_J0 ev_R0 []), cz, kz) := by
  intro G
  rfl
theorem sp_z_192_combinations (X : ez_X) : ev_W X 89 0 (ez_lay [.ref 3]) [] (ev_hp ev_I0 ev_J0 ev_R0 []) 0 0 (fun r h1 c1 k1 => r = (some (.int 1)) ∧ h1 = (ev_hp ev_I0 ev_J0 ev_R0 []) ∧ c1 = 0 ∧ k1 = 0) := by
  refine ev_call (sp_z_192_combinations_r1 X  _ _) (sp_z_193_sizeOf X) ?_
  rintro _ _ _ _ ⟨rfl, rfl, rfl, rfl⟩
  refine ev_call (sp_z_192_combinations_r2 X  _ _) (sp_z_194_sizeOf X) ?_
  rintro _ _ _ _ ⟨rfl, rfl, rfl, rfl⟩
  refine ev_call (sp_z_192_combinations_r3 X  _ _) (sp_z_195_sizeOf X) ?_
  rintro _ _ _ _ ⟨rfl, rfl, rfl, rfl⟩
  refine ev_ret (sp_z_192_combinations_r4 X  _ _) ?_
  exact ⟨rfl, rfl, rfl, rfl⟩
set_option maxRecDepth 100000 in
set_option maxHeartbeats 100000 in
theorem sp_z_198_sizeOf_r1 (X : ez_X)  (cz kz : Nat) : ∀ G : ez_F, fx_up X 6 G 94 0 [.ref 3, .int 0] [] (ev_hp ev_I0 ev_J0 ev_R0 []) cz kz = some (some (.int 1), (ev_hp ev_I0 ev_J0 ev_R0 []), cz, kz) := by
  intro G
  rfl
theorem sp_z_198_sizeOf (X : ez_X) : ev_W X 94 0 (ez_lay [.ref 3, .int 0]) [] (ev_hp ev_I0 ev_J0 ev_R0 []) 0 0 (fun r h1 c1 k1 => r = (some (.int 1)) ∧ h1 = (ev_hp ev_I0 ev_J0 ev_R0 []) ∧ c1 = 0 ∧ k1 = 0) := by
  refine ev_ret (sp_z_198_sizeOf_r1 X  _ _) ?_
  exact ⟨rfl, rfl, rfl, rfl⟩
set_option maxRecDepth 100000 in
set_option maxHeartbeats 100000 in
theorem sp_z_199_sizeOf_r1 (X : ez_X)  (cz kz : Nat) : ∀ G : ez_F, fx_up X 6 G 94 0 [.ref 3, .int 1] [] (ev_hp ev_I0 ev_J0 ev_R0 []) cz kz = some (some (.int 1), (ev_hp ev_I0 ev_J0 ev_R0 []), cz, kz) := by
  intro G
  rfl
theorem sp_z_199_sizeOf (X : ez_X) : ev_W X 94 0 (ez_lay [.ref 3, .int 1]) [] (ev_hp ev_I0 ev_J0 ev_R0 []) 0 0 (fun r h1 c1 k1 => r = (some (.int 1)) ∧ h1 = (ev_hp ev_I0 ev_J0 ev_R0 []) ∧ c1 = 0 ∧ k1 = 0) := by
  refine ev_ret (sp_z_199_sizeOf_r1 X  _ _) ?_
  exact ⟨rfl, rfl, rfl, rfl⟩
set_option maxRecDepth 100000 in
set_option maxHeartbeats 100000 in
theorem sp_z_200_sizeOf_r1 (X : ez_X)  (cz kz : Nat) : ∀ G : ez_F, fx_up X 6 G 94 0 [.ref 3, .int 2] [] (ev_hp ev_I0 ev_J0 ev_R0 []) cz kz = some (some (.int 1), (ev_hp ev_I0 ev_J0 ev_R0 []), cz, kz) := by
  intro G
  rfl
theorem sp_z_200_sizeOf (X : ez_X) : ev_W X 94 0 (ez_lay [.ref 3, .int 2]) [] (ev_hp ev_I0 ev_J0 ev_R0 []) 0 0 (fun r h1 c1 k1 => r = (some (.int 1)) ∧ h1 = (ev_hp ev_I0 ev_J0 ev_R0 []) ∧ c1 = 0 ∧ k1 = 0) := by
  refine ev_ret (sp_z_200_sizeOf_r1 X  _ _) ?_
  exact ⟨rfl, rfl, rfl, rfl⟩
set_option maxRecDepth 100000 in
set_option maxHeartbeats 100000 in
theorem sp_z_197_combinations_r1 (X : ez_X)  (cz kz : Nat) : ∀ G : ez_F, fx_up X 3 G 89 0 [.ref 3] [] (ev_hp ev_I0 ev_J0 ev_R0 []) cz kz = ev_C G 94 [.ref 3, .int 0] (ev_hp ev_I0 ev_J0 ev_R0 []) fun r h1 c1 k1 => G 89 5 [.ref 3] (r.toList ++ []) h1 (cz + c1) (kz + k1) := by
  intro G
  rfl
set_option maxRecDepth 100000 in
set_option maxHeartbeats 100000 in
theorem sp_z_197_combinations_r2 (X : ez_X)  (cz kz : Nat) : ∀ G : ez_F, fx_up X 3 G 89 5 [.ref 3] [.int 1] (ev_hp ev_I0 ev_J0 ev_R0 []) cz kz = ev_C G 94 [.ref 3, .int 1] (ev_hp ev_I0 ev_J0 ev_R0 []) fun r h1 c1 k1 => G 89 10 [.ref 3] (r.toList ++ [.int 1]) h1 (cz + c1) (kz + k1) := by
  intro G
  rfl
set_option maxRecDepth 100000 in
set_option maxHeartbeats 100000 in
theorem sp_z_197_combinations_r3 (X : ez_X)  (cz kz : Nat) : ∀ G : ez_F, fx_up X 4 G 89 10 [.ref 3] [.int 1, .int 1] (ev_hp ev_I0 ev_J0 ev_R0 []) cz kz = ev_C G 94 [.ref 3, .int 2] (ev_hp ev_I0 ev_J0 ev_R0 []) fun r h1 c1 k1 => G 89 16 [.ref 3] (r.toList ++ [.int 1]) h1 (cz + c1) (kz + k1) := by
  intro G
  rfl
set_option maxRecDepth 100000 in
set_option maxHeartbeats 100000 in
theorem sp_z_197_combinations_r4 (X : ez_X)  (cz kz : Nat) : ∀ G : ez_F, fx_up X 2 G 89 16 [.ref 3] [.int 1, .int 1] (ev_hp ev_I0 ev_J0 ev_R0 []) cz kz = some (some (.int 1), (ev_hp ev_I0 ev_J0 ev_R0 []), cz, kz) := by
  intro G
  rfl
theorem sp_z_197_combinations (X : ez_X) : ev_W X 89 0 (ez_lay [.ref 3]) [] (ev_hp ev_I0 ev_J0 ev_R0 []) 0 0 (fun r h1 c1 k1 => r = (some (.int 1)) ∧ h1 = (ev_hp ev_I0 ev_J0 ev_R0 []) ∧ c1 = 0 ∧ k1 = 0) := by
  refine ev_call (sp_z_197_combinations_r1 X  _ _) (sp_z_198_sizeOf X) ?_
  rintro _ _ _ _ ⟨rfl, rfl, rfl, rfl⟩
  refine ev_call (sp_z_197_combinations_r2 X  _ _) (sp_z_199_sizeOf X) ?_
  rintro _ _ _ _ ⟨rfl, rfl, rfl, rfl⟩
  refine ev_call (sp_z_197_combinations_r3 X  _ _) (sp_z_200_sizeOf X) ?_
  rintro _ _ _ _ ⟨rfl, rfl, rfl, rfl⟩
  refine ev_ret (sp_z_197_combinations_r4 X  _ _) ?_
  exact ⟨rfl, rfl, rfl, rfl⟩
set_option maxRecDepth 100000 in
set_option maxHeartbeats 100000 in
theorem sp_z_201_grown_r1 (X : ez_X)  (cz kz : Nat) : ∀ G : ez_F, fx_up X 10 G 19 0 [.int 0, .int 1] [] (ev_hp (ev_sI ev_I0 6 (upd (upd (ev_I0 6) 4 1) 3 0)) ev_J0 ev_R0 []) cz kz = some (some (.int 1), (ev_hp (ev_sI ev_I0 6 (upd (upd (ev_I0 6) 4 1) 3 0)) ev_J0 ev_R0 []), cz, kz) := by
  intro G
  rfl
theorem sp_z_201_grown (X : ez_X) : ev_W X 19 0 (ez_lay [.int 0, .int 1]) [] (ev_hp (ev_sI ev_I0 6 (upd (upd (ev_I0 6) 4 1) 3 0)) ev_J0 ev_R0 []) 0 0 (fun r h1 c1 k1 => r = (some (.int 1)) ∧ h1 = (ev_hp (ev_sI ev_I0 6 (upd (upd (ev_I0 6) 4 1) 3 0)) ev_J0 ev_R0 []) ∧ c1 = 0 ∧ k1 = 0) := by
  refine ev_ret (sp_z_201_grown_r1 X  _ _) ?_
  exact ⟨rfl, rfl, rfl, rfl⟩
set_option maxRecDepth 100000 in
set_option maxHeartbeats 100000 in
theorem sp_z_202_sizeOf_r1 (X : ez_X)  (cz kz : Nat) : ∀ G : ez_F, fx_up X 6 G 94 0 [.ref 3, .int 0] [] (ev_hp (ev_sI ev_I0 6 (upd (upd (ev_I0 6) 4 1) 3 0)) ev_J0 (ev_sR ev_R0 0 65) ([.inl (1, .inl (fun _ => 0))] : List ez_C)) cz kz = some (some (.int 1), (ev_hp (ev_sI ev_I0 6 (upd (upd (ev_I0 6) 4 1) 3 0)) ev_J0 (ev_sR ev_R0 0 65) ([.inl (1, .inl (fun _ => 0))] : List ez_C)), cz, kz) := by
  intro G
  rfl
theorem sp_z_202_sizeOf (X : ez_X) : ev_W X 94 0 (ez_lay [.ref 3, .int 0]) [] (ev_hp (ev_sI ev_I0 6 (upd (upd (ev_I0 6) 4 1) 3 0)) ev_J0 (ev_sR ev_R0 0 65) ([.inl (1, .inl (fun _ => 0))] : List ez_C)) 0 0 (fun r h1 c1 k1 => r = (some (.int 1)) ∧ h1 = (ev_hp (ev_sI ev_I0 6 (upd (upd (ev_I0 6) 4 1) 3 0)) ev_J0 (ev_sR ev_R0 0 65) ([.inl (1, .inl (fun _ => 0))] : List ez_C)) ∧ c1 = 0 ∧ k1 = 0) := by
  refine ev_ret (sp_z_202_sizeOf_r1 X  _ _) ?_
  exact ⟨rfl, rfl, rfl, rfl⟩
set_option maxRecDepth 100000 in
set_option maxHeartbeats 100000 in
theorem sp_z_203_cellsAt_r1 (X : ez_X)  (cz kz : Nat) : ∀ G : ez_F, fx_up X 12 G 86 0 [.ref 3, .int 0, .int 0] [] (ev_hp (ev_sI ev_I0 6 (upd (upd (ev_I0 6) 4 1) 3 0)) ev_J0 (ev_sR ev_R0 0 65) ([.inl (1, .inl (fun _ => 0))] : List ez_C)) cz kz = some (some (.long 0), (ev_hp (ev_sI ev_I0 6 (upd (upd (ev_I0 6) 4 1) 3 0)) ev_J0 (ev_sR ev_R0 0 65) ([.inl (1, .inl (fun _ => 0))] : List ez_C)), cz, kz) := by
  intro G
  rfl
theorem sp_z_203_cellsAt (X : ez_X) : ev_W X 86 0 (ez_lay [.ref 3, .int 0, .int 0]) [] (ev_hp (ev_sI ev_I0 6 (upd (upd (ev_I0 6) 4 1) 3 0)) ev_J0 (ev_sR ev_R0 0 65) ([.inl (1, .inl (fun _ => 0))] : List ez_C)) 0 0 (fun r h1 c1 k1 => r = (some (.long 0)) ∧ h1 = (ev_hp (ev_sI ev_I0 6 (upd (upd (ev_I0 6) 4 1) 3 0)) ev_J0 (ev_sR ev_R0 0 65) ([.inl (1, .inl (fun _ => 0))] : List ez_C)) ∧ c1 = 0 ∧ k1 = 0) := by
  refine ev_ret (sp_z_203_cellsAt_r1 X  _ _) ?_
  exact ⟨rfl, rfl, rfl, rfl⟩
set_option maxRecDepth 100000 in
set_option maxHeartbeats 100000 in
theorem sp_z_205_at_r1 (X : ez_X)  (cz kz : Nat) : ∀ G : ez_F, fx_up X 11 G 3 0 [.ref 2, .int 0] [] (ev_hp (ev_sI ev_I0 6 (upd (upd (ev_I0 6) 4 1) 3 0)) ev_J0 (ev_sR ev_R0 0 65) ([.inl (1, .inl (fun _ => 0))] : List ez_C)) cz kz = some (some (.int 0), (ev_hp (ev_sI ev_I0 6 (upd (upd (ev_I0 6) 4 1) 3 0)) ev_J0 (ev_sR ev_R0 0 65) ([.inl (1, .inl (fun _ => 0))] : List ez_C)), cz, kz) := by
  intro G
  rfl
theorem sp_z_205_at (X : ez_X) : ev_W X 3 0 (ez_lay [.ref 2, .int 0]) [] (ev_hp (ev_sI ev_I0 6 (upd (upd (ev_I0 6) 4 1) 3 0)) ev_J0 (ev_sR ev_R0 0 65) ([.inl (1, .inl (fun _ => 0))] : List ez_C)) 0 0 (fun r h1 c1 k1 => r = (some (.int 0)) ∧ h1 = (ev_hp (ev_sI ev_I0 6 (upd (upd (ev_I0 6) 4 1) 3 0)) ev_J0 (ev_sR ev_R0 0 65) ([.inl (1, .inl (fun _ => 0))] : List ez_C)) ∧ c1 = 0 ∧ k1 = 0) := by
  refine ev_ret (sp_z_205_at_r1 X  _ _) ?_
  exact ⟨rfl, rfl, rfl, rfl⟩
set_option maxRecDepth 100000 in
set_option maxHeartbeats 100000 in
theorem sp_z_204_around_r1 (X : ez_X)  (cz kz : Nat) : ∀ G : ez_F, fx_up X 4 G 144 0 [.ref 1, .long 0, ez_fill] [] (ev_hp (ev_sI ev_I0 6 (upd (upd (ev_I0 6) 4 1) 3 0)) ev_J0 (ev_sR ev_R0 0 65) ([.inl (1, .inl (fun _ => 0))] : List ez_C)) cz kz = ev_C G 3 [.ref 2, .int 0] (ev_hp (ev_sI ev_I0 6 (upd (upd (ev_I0 6) 4 1) 3 0)) ev_J0 (ev_sR ev_R0 0 65) ([.inl (1, .inl (fun _ => 0))] : List ez_C)) fun r h1 c1 k1 => G 144 8 [.ref 1, .long 0, ez_fill] (r.toList ++ []) h1 (cz + c1) (kz + k1) := by
  intro G
  rfl
set_option maxRecDepth 100000 in
set_option maxHeartbeats 100000 in
theorem sp_z_204_around_r2 (X : ez_X)  (cz kz : Nat) : ∀ G : ez_F, fx_up X 5 G 144 8 [.ref 1, .long 0, ez_fill] [.int 0] (ev_hp (ev_sI ev_I0 6 (upd (upd (ev_I0 6) 4 1) 3 0)) ev_J0 (ev_sR ev_R0 0 65) ([.inl (1, .inl (fun _ => 0))] : List ez_C)) cz kz = some (some (.long 0), (ev_hp (ev_sI ev_I0 6 (upd (upd (ev_I0 6) 4 1) 3 0)) ev_J0 (ev_sR ev_R0 0 65) ([.inl (1, .inl (fun _ => 0))] : List ez_C)), cz, kz) := by
  intro G
  rfl
theorem sp_z_204_around (X : ez_X) : ev_W X 144 0 (ez_lay [.ref 1, .long 0]) [] (ev_hp (ev_sI ev_I0 6 (upd (upd (ev_I0 6) 4 1) 3 0)) ev_J0 (ev_sR ev_R0 0 65) ([.inl (1, .inl (fun _ => 0))] : List ez_C)) 0 0 (fun r h1 c1 k1 => r = (some (.long 0)) ∧ h1 = (ev_hp (ev_sI ev_I0 6 (upd (upd (ev_I0 6) 4 1) 3 0)) ev_J0 (ev_sR ev_R0 0 65) ([.inl (1, .inl (fun _ => 0))] : List ez_C)) ∧ c1 = 0 ∧ k1 = 0) := by
  refine ev_call (sp_z_204_around_r1 X  _ _) (sp_z_205_at X) ?_
  rintro _ _ _ _ ⟨rfl, rfl, rfl, rfl⟩
  refine ev_ret (sp_z_204_around_r2 X  _ _) ?_
  exact ⟨rfl, rfl, rfl, rfl⟩
set_option maxRecDepth 100000 in
set_option maxHeartbeats 100000 in
theorem sp_z_207_sizeOf_r1 (X : ez_X)  (cz kz : Nat) : ∀ G : ez_F, fx_up X 6 G 94 0 [.ref 3, .int 1] [] (ev_hp (ev_sI ev_I0 6 (upd (upd (ev_I0 6) 4 1) 3 0)) ev_J0 (ev_sR ev_R0 0 65) ([.inl (1, .inl (fun _ => 0))] : List ez_C)) cz kz = some (some (.int 1), (ev_hp (ev_sI ev_I0 6 (upd (upd (ev_I0 6) 4 1) 3 0)) ev_J0 (ev_sR ev_R0 0 65) ([.inl (1, .inl (fun _ => 0))] : List ez_C)), cz, kz) := by
  intro G
  rfl
theorem sp_z_207_sizeOf (X : ez_X) : ev_W X 94 0 (ez_lay [.ref 3, .int 1]) [] (ev_hp (ev_sI ev_I0 6 (upd (upd (ev_I0 6) 4 1) 3 0)) ev_J0 (ev_sR ev_R0 0 65) ([.inl (1, .inl (fun _ => 0))] : List ez_C)) 0 0 (fun r h1 c1 k1 => r = (some (.int 1)) ∧ h1 = (ev_hp (ev_sI ev_I0 6 (upd (upd (ev_I0 6) 4 1) 3 0)) ev_J0 (ev_sR ev_R0 0 65) ([.inl (1, .inl (fun _ => 0))] : List ez_C)) ∧ c1 = 0 ∧ k1 = 0) := by
  refine ev_ret (sp_z_207_sizeOf_r1 X  _ _) ?_
  exact ⟨rfl, rfl, rfl, rfl⟩
set_option maxRecDepth 100000 in
set_option maxHeartbeats 100000 in
theorem sp_z_208_cellsAt_r1 (X : ez_X)  (cz kz : Nat) : ∀ G : ez_F, fx_up X 12 G 86 0 [.ref 3, .int 1, .int 0] [] (ev_hp (ev_sI ev_I0 6 (upd (upd (ev_I0 6) 4 1) 3 0)) ev_J0 (ev_sR ev_R0 0 65) ([.inl (1, .inl (fun _ => 0))] : List ez_C)) cz kz = some (some (.long 0), (ev_hp (ev_sI ev_I0 6 (upd (upd (ev_I0 6) 4 1) 3 0)) ev_J0 (ev_sR ev_R0 0 65) ([.inl (1, .inl (fun _ => 0))] : List ez_C)), cz, kz) := by
  intro G
  rfl
theorem sp_z_208_cellsAt (X : ez_X) : ev_W X 86 0 (ez_lay [.ref 3, .int 1, .int 0]) [] (ev_hp (ev_sI ev_I0 6 (upd (upd (ev_I0 6) 4 1) 3 0)) ev_J0 (ev_sR ev_R0 0 65) ([.inl (1, .inl (fun _ => 0))] : List ez_C)) 0 0 (fun r h1 c1 k1 => r = (some (.long 0)) ∧ h1 = (ev_hp (ev_sI ev_I0 6 (upd (upd (ev_I0 6) 4 1) 3 0)) ev_J0 (ev_sR ev_R0 0 65) ([.inl (1, .inl (fun _ => 0))] : List ez_C)) ∧ c1 = 0 ∧ k1 = 0) := by
  refine ev_ret (sp_z_208_cellsAt_r1 X  _ _) ?_
  exact ⟨rfl, rfl, rfl, rfl⟩
set_option maxRecDepth 100000 in
set_option maxHeartbeats 100000 in
theorem sp_z_210_at_r1 (X : ez_X)  (cz kz : Nat) : ∀ G : ez_F, fx_up X 11 G 3 0 [.ref 2, .int 0] [] (ev_hp (ev_sI ev_I0 6 (upd (upd (ev_I0 6) 4 1) 3 0)) ev_J0 (ev_sR ev_R0 0 65) ([.inl (1, .inl (fun _ => 0))] : List ez_C)) cz kz = some (some (.int 0), (ev_hp (ev_sI ev_I0 6 (upd (upd (ev_I0 6) 4 1) 3 0)) ev_J0 (ev_sR ev_R0 0 65) ([.inl (1, .inl (fun _ => 0))] : List ez_C)), cz, kz) := by
  intro G
  rfl
theorem sp_z_210_at (X : ez_X) : ev_W X 3 0 (ez_lay [.ref 2, .int 0]) [] (ev_hp (ev_sI ev_I0 6 (upd (upd (ev_I0 6) 4 1) 3 0)) ev_J0 (ev_sR ev_R0 0 65) ([.inl (1, .inl (fun _ => 0))] : List ez_C)) 0 0 (fun r h1 c1 k1 => r = (some (.int 0)) ∧ h1 = (ev_hp (ev_sI ev_I0 6 (upd (upd (ev_I0 6) 4 1) 3 0)) ev_J0 (ev_sR ev_R0 0 65) ([.inl (1, .inl (fun _ => 0))] : List ez_C)) ∧ c1 = 0 ∧ k1 = 0) := by
  refine ev_ret (sp_z_210_at_r1 X  _ _) ?_
  exact ⟨rfl, rfl, rfl, rfl⟩
set_option maxRecDepth 100000 in
set_option maxHeartbeats 100000 in
theorem sp_z_209_around_r1 (X : ez_X)  (cz kz : Nat) : ∀ G : ez_F, fx_up X 4 G 144 0 [.ref 1, .long 0, ez_fill] [] (ev_hp (ev_sI ev_I0 6 (upd (upd (ev_I0 6) 4 1) 3 0)) ev_J0 (ev_sR ev_R0 0 65) ([.inl (1, .inl (fun _ => 0))] : List ez_C)) cz kz = ev_C G 3 [.ref 2, .int 0] (ev_hp (ev_sI ev_I0 6 (upd (upd (ev_I0 6) 4 1) 3 0)) ev_J0 (ev_sR ev_R0 0 65) ([.inl (1, .inl (fun _ => 0))] : List ez_C)) fun r h1 c1 k1 => G 144 8 [.ref 1, .long 0, ez_fill] (r.toList ++ []) h1 (cz + c1) (kz + k1) := by
  intro G
  rfl
set_option maxRecDepth 100000 in
set_option maxHeartbeats 100000 in
theorem sp_z_209_around_r2 (X : ez_X)  (cz kz : Nat) : ∀ G : ez_F, fx_up X 5 G 144 8 [.ref 1, .long 0, ez_fill] [.int 0] (ev_hp (ev_sI ev_I0 6 (upd (upd (ev_I0 6) 4 1) 3 0)) ev_J0 (ev_sR ev_R0 0 65) ([.inl (1, .inl (fun _ => 0))] : List ez_C)) cz kz = some (some (.long 0), (ev_hp (ev_sI ev_I0 6 (upd (upd (ev_I0 6) 4 1) 3 0)) ev_J0 (ev_sR ev_R0 0 65) ([.inl (1, .inl (fun _ => 0))] : List ez_C)), cz, kz) := by
  intro G
  rfl
theorem sp_z_209_around (X : ez_X) : ev_W X 144 0 (ez_lay [.ref 1, .long 0]) [] (ev_hp (ev_sI ev_I0 6 (upd (upd (ev_I0 6) 4 1) 3 0)) ev_J0 (ev_sR ev_R0 0 65) ([.inl (1, .inl (fun _ => 0))] : List ez_C)) 0 0 (fun r h1 c1 k1 => r = (some (.long 0)) ∧ h1 = (ev_hp (ev_sI ev_I0 6 (upd (upd (ev_I0 6) 4 1) 3 0)) ev_J0 (ev_sR ev_R0 0 65) ([.inl (1, .inl (fun _ => 0))] : List ez_C)) ∧ c1 = 0 ∧ k1 = 0) := by
  refine ev_call (sp_z_209_around_r1 X  _ _) (sp_z_210_at X) ?_
  rintro _ _ _ _ ⟨rfl, rfl, rfl, rfl⟩
  refine ev_ret (sp_z_209_around_r2 X  _ _) ?_
  exact ⟨rfl, rfl, rfl, rfl⟩
set_option maxRecDepth 100000 in
set_option maxHeartbeats 100000 in
theorem sp_z_212_sizeOf_r1 (X : ez_X)  (cz kz : Nat) : ∀ G : ez_F, fx_up X 6 G 94 0 [.ref 3, .int 2] [] (ev_hp (ev_sI ev_I0 6 (upd (upd (ev_I0 6) 4 1) 3 0)) ev_J0 (ev_sR ev_R0 0 65) ([.inl (1, .inl (fun _ => 0))] : List ez_C)) cz kz = some (some (.int 1), (ev_hp (ev_sI ev_I0 6 (upd (upd (ev_I0 6) 4 1) 3 0)) ev_J0 (ev_sR ev_R0 0 65) ([.inl (1, .inl (fun _ => 0))] : List ez_C)), cz, kz) := by
  intro G
  rfl
theorem sp_z_212_sizeOf (X : ez_X) : ev_W X 94 0 (ez_lay [.ref 3, .int 2]) [] (ev_hp (ev_sI ev_I0 6 (upd (upd (ev_I0 6) 4 1) 3 0)) ev_J0 (ev_sR ev_R0 0 65) ([.inl (1, .inl (fun _ => 0))] : List ez_C)) 0 0 (fun r h1 c1 k1 => r = (some (.int 1)) ∧ h1 = (ev_hp (ev_sI ev_I0 6 (upd (upd (ev_I0 6) 4 1) 3 0)) ev_J0 (ev_sR ev_R0 0 65) ([.inl (1, .inl (fun _ => 0))] : List ez_C)) ∧ c1 = 0 ∧ k1 = 0) := by
  refine ev_ret (sp_z_212_sizeOf_r1 X  _ _) ?_
  exact ⟨rfl, rfl, rfl, rfl⟩
set_option maxRecDepth 100000 in
set_option maxHeartbeats 100000 in
theorem sp_z_213_cellsAt_r1 (X : ez_X)  (cz kz : Nat) : ∀ G : ez_F, fx_up X 12 G 86 0 [.ref 3, .int 2, .int 0] [] (ev_hp (ev_sI ev_I0 6 (upd (upd (ev_I0 6) 4 1) 3 0)) ev_J0 (ev_sR ev_R0 0 65) ([.inl (1, .inl (fun _ => 0))] : List ez_C)) cz kz = some (some (.long 0), (ev_hp (ev_sI ev_I0 6 (upd (upd (ev_I0 6) 4 1) 3 0)) ev_J0 (ev_sR ev_R0 0 65) ([.inl (1, .inl (fun _ => 0))] : List ez_C)), cz, kz) := by
  intro G
  rfl
theorem sp_z_213_cellsAt (X : ez_X) : ev_W X 86 0 (ez_lay [.ref 3, .int 2, .int 0]) [] (ev_hp (ev_sI ev_I0 6 (upd (upd (ev_I0 6) 4 1) 3 0)) ev_J0 (ev_sR ev_R0 0 65) ([.inl (1, .inl (fun _ => 0))] : List ez_C)) 0 0 (fun r h1 c1 k1 => r = (some (.long 0)) ∧ h1 = (ev_hp (ev_sI ev_I0 6 (upd (upd (ev_I0 6) 4 1) 3 0)) ev_J0 (ev_sR ev_R0 0 65) ([.inl (1, .inl (fun _ => 0))] : List ez_C)) ∧ c1 = 0 ∧ k1 = 0) := by
  refine ev_ret (sp_z_213_cellsAt_r1 X  _ _) ?_
  exact ⟨rfl, rfl, rfl, rfl⟩
set_option maxRecDepth 100000 in
set_option maxHeartbeats 100000 in
theorem sp_z_214_put_r1 (X : ez_X)  (cz kz : Nat) : ∀ G : ez_F, fx_up X 11 G 38 0 [.ref 65, .int 0, .int 0] [] (ev_hp (ev_sI ev_I0 6 (upd (upd (ev_I0 6) 4 1) 3 0)) ev_J0 (ev_sR ev_R0 0 65) ([.inl (1, .inl (fun _ => 0))] : List ez_C)) cz kz = some (none, (ev_hp (ev_sI ev_I0 6 (upd (upd (ev_I0 6) 4 1) 3 0)) ev_J0 (ev_sR ev_R0 0 65) ([.inl (1, .inl (upd (fun _ => 0) 0 0))] : List ez_C)), cz, kz) := by
  intro G
  rfl
theorem sp_z_214_put (X : ez_X) : ev_W X 38 0 (ez_lay [.ref 65, .int 0, .int 0]) [] (ev_hp (ev_sI ev_I0 6 (upd (upd (ev_I0 6) 4 1) 3 0)) ev_J0 (ev_sR ev_R0 0 65) ([.inl (1, .inl (fun _ => 0))] : List ez_C)) 0 0 (fun r h1 c1 k1 => r = none ∧ h1 = (ev_hp (ev_sI ev_I0 6 (upd (upd (ev_I0 6) 4 1) 3 0)) ev_J0 (ev_sR ev_R0 0 65) ([.inl (1, .inl (upd (fun _ => 0) 0 0))] : List ez_C)) ∧ c1 = 0 ∧ k1 = 0) := by
  refine ev_ret (sp_z_214_put_r1 X  _ _) ?_
  exact ⟨rfl, rfl, rfl, rfl⟩
set_option maxRecDepth 100000 in
set_option maxHeartbeats 100000 in
theorem sp_z_211_searchThird_r1 (X : ez_X)  (cz kz : Nat) : ∀ G : ez_F, fx_up X 4 G 142 0 [.ref 6, .int 0, .long 0, ez_fill] [] (ev_hp (ev_sI ev_I0 6 (upd (upd (ev_I0 6) 4 1) 3 0)) ev_J0 (ev_sR ev_R0 0 65) ([.inl (1, .inl (fun _ => 0))] : List ez_C)) cz kz = ev_C G 94 [.ref 3, .int 2] (ev_hp (ev_sI ev_I0 6 (upd (upd (ev_I0 6) 4 1) 3 0)) ev_J0 (ev_sR ev_R0 0 65) ([.inl (1, .inl (fun _ => 0))] : List ez_C)) fun r h1 c1 k1 => G 142 8 [.ref 6, .int 0, .long 0, ez_fill] (r.toList ++ []) h1 (cz + c1) (kz + k1) := by
  intro G
  rfl
set_option maxRecDepth 100000 in
set_option maxHeartbeats 100000 in
theorem sp_z_211_searchThird_r2 (X : ez_X)  (cz kz : Nat) : ∀ G : ez_F, fx_up X 11 G 142 8 [.ref 6, .int 0, .long 0, ez_fill] [.int 1] (ev_hp (ev_sI ev_I0 6 (upd (upd (ev_I0 6) 4 1) 3 0)) ev_J0 (ev_sR ev_R0 0 65) ([.inl (1, .inl (fun _ => 0))] : List ez_C)) cz kz = ev_C G 86 [.ref 3, .int 2, .int 0] (ev_hp (ev_sI ev_I0 6 (upd (upd (ev_I0 6) 4 1) 3 0)) ev_J0 (ev_sR ev_R0 0 65) ([.inl (1, .inl (fun _ => 0))] : List ez_C)) fun r h1 c1 k1 => G 142 30 [.ref 6, .int 0, .long 0, ez_fill, .int 1, .int 0] (r.toList ++ []) h1 (cz + c1) (kz + k1) := by
  intro G
  rfl
set_option maxRecDepth 100000 in
set_option maxHeartbeats 100000 in
theorem sp_z_211_searchThird_r3 (X : ez_X)  (cz kz : Nat) : ∀ G : ez_F, fx_up X 15 G 142 30 [.ref 6, .int 0, .long 0, ez_fill, .int 1, .int 0] [.long 0] (ev_hp (ev_sI ev_I0 6 (upd (upd (ev_I0 6) 4 1) 3 0)) ev_J0 (ev_sR ev_R0 0 65) ([.inl (1, .inl (fun _ => 0))] : List ez_C)) cz kz = ev_C G 38 [.ref 65, .int 0, .int 0] (ev_hp (ev_sI ev_I0 6 (upd (upd (ev_I0 6) 4 1) 3 0)) ev_J0 (ev_sR ev_R0 0 65) ([.inl (1, .inl (fun _ => 0))] : List ez_C)) fun r h1 c1 k1 => G 142 55 [.ref 6, .int 0, .long 0, ez_fill, .int 1, .int 0] (r.toList ++ []) h1 (cz + c1) (kz + k1) := by
  intro G
  rfl
set_option maxRecDepth 100000 in
set_option maxHeartbeats 100000 in
theorem sp_z_211_searchThird_r4 (X : ez_X)  (cz kz : Nat) : ∀ G : ez_F, fx_up X 12 G 142 55 [.ref 6, .int 0, .long 0, ez_fill, .int 1, .int 0] [] (ev_hp (ev_sI ev_I0 6 (upd (upd (ev_I0 6) 4 1) 3 0)) ev_J0 (ev_sR ev_R0 0 65) ([.inl (1, .inl (upd (fun _ => 0) 0 0))] : List ez_C)) cz kz = some (none, (ev_hp (ev_sI ev_I0 6 (upd (upd (ev_I0 6) 4 1) 3 1)) ev_J0 (ev_sR ev_R0 0 65) ([.inl (1, .inl (upd (fun _ => 0) 0 0))] : List ez_C)), cz, kz) := by
  intro G
  rfl
theorem sp_z_211_searchThird (X : ez_X) : ev_W X 142 0 (ez_lay [.ref 6, .int 0, .long 0]) [] (ev_hp (ev_sI ev_I0 6 (upd (upd (ev_I0 6) 4 1) 3 0)) ev_J0 (ev_sR ev_R0 0 65) ([.inl (1, .inl (fun _ => 0))] : List ez_C)) 0 0 (fun r h1 c1 k1 => r = none ∧ h1 = (ev_hp (ev_sI ev_I0 6 (upd (upd (ev_I0 6) 4 1) 3 1)) ev_J0 (ev_sR ev_R0 0 65) ([.inl (1, .inl (upd (fun _ => 0) 0 0))] : List ez_C)) ∧ c1 = 0 ∧ k1 = 0) := by
  refine ev_call (sp_z_211_searchThird_r1 X  _ _) (sp_z_212_sizeOf X) ?_
  rintro _ _ _ _ ⟨rfl, rfl, rfl, rfl⟩
  refine ev_call (sp_z_211_searchThird_r2 X  _ _) (sp_z_213_cellsAt X) ?_
  rintro _ _ _ _ ⟨rfl, rfl, rfl, rfl⟩
  refine ev_call (sp_z_211_searchThird_r3 X  _ _) (sp_z_214_put X) ?_
  rintro _ _ _ _ ⟨rfl, rfl, rfl, rfl⟩
  refine ev_ret (sp_z_211_searchThird_r4 X  _ _) ?_
  exact ⟨rfl, rfl, rfl, rfl⟩
set_option maxRecDepth 100000 in
set_option maxHeartbeats 100000 in
theorem sp_z_206_searchSecond_r1 (X : ez_X)  (cz kz : Nat) : ∀ G : ez_F, fx_up X 4 G 141 0 [.ref 6, .int 0, .long 0, ez_fill] [] (ev_hp (ev_sI ev_I0 6 (upd (upd (ev_I0 6) 4 1) 3 0)) ev_J0 (ev_sR ev_R0 0 65) ([.inl (1, .inl (fun _ => 0))] : List ez_C)) cz kz = ev_C G 94 [.ref 3, .int 1] (ev_hp (ev_sI ev_I0 6 (upd (upd (ev_I0 6) 4 1) 3 0)) ev_J0 (ev_sR ev_R0 0 65) ([.inl (1, .inl (fun _ => 0))] : List ez_C)) fun r h1 c1 k1 => G 141 8 [.ref 6, .int 0, .long 0, ez_fill] (r.toList ++ []) h1 (cz + c1) (kz + k1) := by
  intro G
  rfl
set_option maxRecDepth 100000 in
set_option maxHeartbeats 100000 in
theorem sp_z_206_searchSecond_r2 (X : ez_X)  (cz kz : Nat) : ∀ G : ez_F, fx_up X 11 G 141 8 [.ref 6, .int 0, .long 0, ez_fill] [.int 1] (ev_hp (ev_sI ev_I0 6 (upd (upd (ev_I0 6) 4 1) 3 0)) ev_J0 (ev_sR ev_R0 0 65) ([.inl (1, .inl (fun _ => 0))] : List ez_C)) cz kz = ev_C G 86 [.ref 3, .int 1, .int 0] (ev_hp (ev_sI ev_I0 6 (upd (upd (ev_I0 6) 4 1) 3 0)) ev_J0 (ev_sR ev_R0 0 65) ([.inl (1, .inl (fun _ => 0))] : List ez_C)) fun r h1 c1 k1 => G 141 30 [.ref 6, .int 0, .long 0, ez_fill, .int 1, .int 0] (r.toList ++ []) h1 (cz + c1) (kz + k1) := by
  intro G
  rfl
set_option maxRecDepth 100000 in
set_option maxHeartbeats 100000 in
theorem sp_z_206_searchSecond_r3 (X : ez_X)  (cz kz : Nat) : ∀ G : ez_F, fx_up X 18 G 141 30 [.ref 6, .int 0, .long 0, ez_fill, .int 1, .int 0] [.long 0] (ev_hp (ev_sI ev_I0 6 (upd (upd (ev_I0 6) 4 1) 3 0)) ev_J0 (ev_sR ev_R0 0 65) ([.inl (1, .inl (fun _ => 0))] : List ez_C)) cz kz = ev_C G 144 [.ref 1, .long 0] (ev_hp (ev_sI ev_I0 6 (upd (upd (ev_I0 6) 4 1) 3 0)) ev_J0 (ev_sR ev_R0 0 65) ([.inl (1, .inl (fun _ => 0))] : List ez_C)) fun r h1 c1 k1 => G 141 59 [.ref 6, .int 0, .long 0, ez_fill, .int 1, .int 0, .long 0, ez_fill] (r.toList ++ [.long 0, .int 0, .ref 6]) h1 (cz + c1) (kz + k1) := by
  intro G
  rfl
set_option maxRecDepth 100000 in
set_option maxHeartbeats 100000 in
theorem sp_z_206_searchSecond_r4 (X : ez_X)  (cz kz : Nat) : ∀ G : ez_F, fx_up X 2 G 141 59 [.ref 6, .int 0, .long 0, ez_fill, .int 1, .int 0, .long 0, ez_fill] [.long 0, .long 0, .int 0, .ref 6] (ev_hp (ev_sI ev_I0 6 (upd (upd (ev_I0 6) 4 1) 3 0)) ev_J0 (ev_sR ev_R0 0 65) ([.inl (1, .inl (fun _ => 0))] : List ez_C)) cz kz = ev_C G 142 [.ref 6, .int 0, .long 0] (ev_hp (ev_sI ev_I0 6 (upd (upd (ev_I0 6) 4 1) 3 0)) ev_J0 (ev_sR ev_R0 0 65) ([.inl (1, .inl (fun _ => 0))] : List ez_C)) fun r h1 c1 k1 => G 141 63 [.ref 6, .int 0, .long 0, ez_fill, .int 1, .int 0, .long 0, ez_fill] (r.toList ++ []) h1 (cz + c1) (kz + k1) := by
  intro G
  rfl
set_option maxRecDepth 100000 in
set_option maxHeartbeats 100000 in
theorem sp_z_206_searchSecond_r5 (X : ez_X)  (cz kz : Nat) : ∀ G : ez_F, fx_up X 6 G 141 63 [.ref 6, .int 0, .long 0, ez_fill, .int 1, .int 0, .long 0, ez_fill] [] (ev_hp (ev_sI ev_I0 6 (upd (upd (ev_I0 6) 4 1) 3 1)) ev_J0 (ev_sR ev_R0 0 65) ([.inl (1, .inl (upd (fun _ => 0) 0 0))] : List ez_C)) cz kz = some (none, (ev_hp (ev_sI ev_I0 6 (upd (upd (ev_I0 6) 4 1) 3 1)) ev_J0 (ev_sR ev_R0 0 65) ([.inl (1, .inl (upd (fun _ => 0) 0 0))] : List ez_C)), cz, kz) := by
  intro G
  rfl
theorem sp_z_206_searchSecond (X : ez_X) : ev_W X 141 0 (ez_lay [.ref 6, .int 0, .long 0]) [] (ev_hp (ev_sI ev_I0 6 (upd (upd (ev_I0 6) 4 1) 3 0)) ev_J0 (ev_sR ev_R0 0 65) ([.inl (1, .inl (fun _ => 0))] : List ez_C)) 0 0 (fun r h1 c1 k1 => r = none ∧ h1 = (ev_hp (ev_sI ev_I0 6 (upd (upd (ev_I0 6) 4 1) 3 1)) ev_J0 (ev_sR ev_R0 0 65) ([.inl (1, .inl (upd (fun _ => 0) 0 0))] : List ez_C)) ∧ c1 = 0 ∧ k1 = 0) := by
  refine ev_call (sp_z_206_searchSecond_r1 X  _ _) (sp_z_207_sizeOf X) ?_
  rintro _ _ _ _ ⟨rfl, rfl, rfl, rfl⟩
  refine ev_call (sp_z_206_searchSecond_r2 X  _ _) (sp_z_208_cellsAt X) ?_
  rintro _ _ _ _ ⟨rfl, rfl, rfl, rfl⟩
  refine ev_call (sp_z_206_searchSecond_r3 X  _ _) (sp_z_209_around X) ?_
  rintro _ _ _ _ ⟨rfl, rfl, rfl, rfl⟩
  refine ev_call (sp_z_206_searchSecond_r4 X  _ _) (sp_z_211_searchThird X) ?_
  rintro _ _ _ _ ⟨rfl, rfl, rfl, rfl⟩
  refine ev_ret (sp_z_206_searchSecond_r5 X  _ _) ?_
  exact ⟨rfl, rfl, rfl, rfl⟩
set_option maxRecDepth 100000 in
set_option maxHeartbeats 100000 in
theorem sp_z_196_search_r1 (X : ez_X)  (cz kz : Nat) : ∀ G : ez_F, fx_up X 3 G 140 0 [.ref 6] [] (ev_hp ev_I0 ev_J0 ev_R0 []) cz kz = ev_C G 89 [.ref 3] (ev_hp ev_I0 ev_J0 ev_R0 []) fun r h1 c1 k1 => G 140 7 [.ref 6] (r.toList ++ []) h1 (cz + c1) (kz + k1) := by
  intro G
  rfl
set_option maxRecDepth 100000 in
set_option maxHeartbeats 100000 in
theorem sp_z_196_search_r2 (X : ez_X)  (cz kz : Nat) : ∀ G : ez_F, fx_up X 24 G 140 7 [.ref 6] [.int 1] (ev_hp ev_I0 ev_J0 ev_R0 []) cz kz = ev_C G 19 [.int 0, .int 1] (ev_hp (ev_sI ev_I0 6 (upd (upd (ev_I0 6) 4 1) 3 0)) ev_J0 ev_R0 []) fun r h1 c1 k1 => G 140 52 [.ref 6, .int 1] (r.toList ++ [.ref 6]) h1 (cz + c1) (kz + k1) := by
  intro G
  rfl
set_option maxRecDepth 100000 in
set_option maxHeartbeats 100000 in
theorem sp_z_196_search_r3 (X : ez_X)  (cz kz : Nat) : ∀ G : ez_F, fx_up X 6 G 140 52 [.ref 6, .int 1] [.int 1, .ref 6] (ev_hp (ev_sI ev_I0 6 (upd (upd (ev_I0 6) 4 1) 3 0)) ev_J0 ev_R0 []) cz kz = ev_C G 94 [.ref 3, .int 0] (ev_hp (ev_sI ev_I0 6 (upd (upd (ev_I0 6) 4 1) 3 0)) ev_J0 (ev_sR ev_R0 0 65) ([.inl (1, .inl (fun _ => 0))] : List ez_C)) fun r h1 c1 k1 => G 140 65 [.ref 6, .int 1] (r.toList ++ []) h1 ((cz + 1) + c1) ((kz + 1) + k1) := by
  intro G
  rfl
set_option maxRecDepth 100000 in
set_option maxHeartbeats 100000 in
theorem sp_z_196_search_r4 (X : ez_X)  (cz kz : Nat) : ∀ G : ez_F, fx_up X 15 G 140 65 [.ref 6, .int 1] [.int 1] (ev_hp (ev_sI ev_I0 6 (upd (upd (ev_I0 6) 4 1) 3 0)) ev_J0 (ev_sR ev_R0 0 65) ([.inl (1, .inl (fun _ => 0))] : List ez_C)) cz kz = ev_C G 86 [.ref 3, .int 0, .int 0] (ev_hp (ev_sI ev_I0 6 (upd (upd (ev_I0 6) 4 1) 3 0)) ev_J0 (ev_sR ev_R0 0 65) ([.inl (1, .inl (fun _ => 0))] : List ez_C)) fun r h1 c1 k1 => G 140 88 [.ref 6, .int 1, .int 1, .int 0] (r.toList ++ [.ref 1, .int 0, .ref 6]) h1 (cz + c1) (kz + k1) := by
  intro G
  rfl
set_option maxRecDepth 100000 in
set_option maxHeartbeats 100000 in
theorem sp_z_196_search_r5 (X : ez_X)  (cz kz : Nat) : ∀ G : ez_F, fx_up X 1 G 140 88 [.ref 6, .int 1, .int 1, .int 0] [.long 0, .ref 1, .int 0, .ref 6] (ev_hp (ev_sI ev_I0 6 (upd (upd (ev_I0 6) 4 1) 3 0)) ev_J0 (ev_sR ev_R0 0 65) ([.inl (1, .inl (fun _ => 0))] : List ez_C)) cz kz = ev_C G 144 [.ref 1, .long 0] (ev_hp (ev_sI ev_I0 6 (upd (upd (ev_I0 6) 4 1) 3 0)) ev_J0 (ev_sR ev_R0 0 65) ([.inl (1, .inl (fun _ => 0))] : List ez_C)) fun r h1 c1 k1 => G 140 91 [.ref 6, .int 1, .int 1, .int 0] (r.toList ++ [.int 0, .ref 6]) h1 (cz + c1) (kz + k1) := by
  intro G
  rfl
set_option maxRecDepth 100000 in
set_option maxHeartbeats 100000 in
theorem sp_z_196_search_r6 (X : ez_X)  (cz kz : Nat) : ∀ G : ez_F, fx_up X 1 G 140 91 [.ref 6, .int 1, .int 1, .int 0] [.long 0, .int 0, .ref 6] (ev_hp (ev_sI ev_I0 6 (upd (upd (ev_I0 6) 4 1) 3 0)) ev_J0 (ev_sR ev_R0 0 65) ([.inl (1, .inl (fun _ => 0))] : List ez_C)) cz kz = ev_C G 141 [.ref 6, .int 0, .long 0] (ev_hp (ev_sI ev_I0 6 (upd (upd (ev_I0 6) 4 1) 3 0)) ev_J0 (ev_sR ev_R0 0 65) ([.inl (1, .inl (fun _ => 0))] : List ez_C)) fun r h1 c1 k1 => G 140 94 [.ref 6, .int 1, .int 1, .int 0] (r.toList ++ []) h1 (cz + c1) (kz + k1) := by
  intro G
  rfl
set_option maxRecDepth 100000 in
set_option maxHeartbeats 100000 in
theorem sp_z_196_search_r7 (X : ez_X)  (cz kz : Nat) : ∀ G : ez_F, fx_up X 6 G 140 94 [.ref 6, .int 1, .int 1, .int 0] [] (ev_hp (ev_sI ev_I0 6 (upd (upd (ev_I0 6) 4 1) 3 1)) ev_J0 (ev_sR ev_R0 0 65) ([.inl (1, .inl (upd (fun _ => 0) 0 0))] : List ez_C)) cz kz = some (none, (ev_hp (ev_sI ev_I0 6 (upd (upd (ev_I0 6) 4 1) 3 1)) ev_J0 (ev_sR ev_R0 0 65) ([.inl (1, .inl (upd (fun _ => 0) 0 0))] : List ez_C)), cz, kz) := by
  intro G
  rfl
theorem sp_z_196_search (X : ez_X) : ev_W X 140 0 (ez_lay [.ref 6]) [] (ev_hp ev_I0 ev_J0 ev_R0 []) 0 0 (fun r h1 c1 k1 => r = none ∧ h1 = (ev_hp (ev_sI ev_I0 6 (upd (upd (ev_I0 6) 4 1) 3 1)) ev_J0 (ev_sR ev_R0 0 65) ([.inl (1, .inl (upd (fun _ => 0) 0 0))] : List ez_C)) ∧ c1 = 1 ∧ k1 = 1) := by
  refine ev_call (sp_z_196_search_r1 X  _ _) (sp_z_197_combinations X) ?_
  rintro _ _ _ _ ⟨rfl, rfl, rfl, rfl⟩
  refine ev_call (sp_z_196_search_r2 X  _ _) (sp_z_201_grown X) ?_
  rintro _ _ _ _ ⟨rfl, rfl, rfl, rfl⟩
  refine ev_call (sp_z_196_search_r3 X  _ _) (sp_z_202_sizeOf X) ?_
  rintro _ _ _ _ ⟨rfl, rfl, rfl, rfl⟩
  refine ev_call (sp_z_196_search_r4 X  _ _) (sp_z_203_cellsAt X) ?_
  rintro _ _ _ _ ⟨rfl, rfl, rfl, rfl⟩
  refine ev_call (sp_z_196_search_r5 X  _ _) (sp_z_204_around X) ?_
  rintro _ _ _ _ ⟨rfl, rfl, rfl, rfl⟩
  refine ev_call (sp_z_196_search_r6 X  _ _) (sp_z_206_searchSecond X) ?_
  rintro _ _ _ _ ⟨rfl, rfl, rfl, rfl⟩
  refine ev_ret (sp_z_196_search_r7 X  _ _) ?_
  exact ⟨rfl, rfl, rfl, rfl⟩
set_option maxRecDepth 100000 in
set_option maxHeartbeats 100000 in
theorem sp_z_191_tooMany_r1 (X : ez_X)  (cz kz : Nat) : ∀ G : ez_F, fx_up X 3 G 52 0 [.ref 0] [] (ev_hp ev_I0 ev_J0 ev_R0 []) cz kz = ev_C G 89 [.ref 3] (ev_hp ev_I0 ev_J0 ev_R0 []) fun r h1 c1 k1 => G 52 7 [.ref 0] (r.toList ++ []) h1 (cz + c1) (kz + k1) := by
  intro G
  rfl
set_option maxRecDepth 100000 in
set_option maxHeartbeats 100000 in
theorem sp_z_191_tooMany_r2 (X : ez_X)  (cz kz : Nat) : ∀ G : ez_F, fx_up X 5 G 52 7 [.ref 0] [.int 1] (ev_hp ev_I0 ev_J0 ev_R0 []) cz kz = ev_C G 140 [.ref 6] (ev_hp ev_I0 ev_J0 ev_R0 []) fun r h1 c1 k1 => G 52 22 [.ref 0] (r.toList ++ []) h1 (cz + c1) (kz + k1) := by
  intro G
  rfl
set_option maxRecDepth 100000 in
set_option maxHeartbeats 100000 in
theorem sp_z_191_tooMany_r3 (X : ez_X)  (cz kz : Nat) : ∀ G : ez_F, fx_up X 2 G 52 22 [.ref 0] [] (ev_hp (ev_sI ev_I0 6 (upd (upd (ev_I0 6) 4 1) 3 1)) ev_J0 (ev_sR ev_R0 0 65) ([.inl (1, .inl (upd (fun _ => 0) 0 0))] : List ez_C)) cz kz = some (some (.int 0), (ev_hp (ev_sI ev_I0 6 (upd (upd (ev_I0 6) 4 1) 3 1)) ev_J0 (ev_sR ev_R0 0 65) ([.inl (1, .inl (upd (fun _ => 0) 0 0))] : List ez_C)), cz, kz) := by
  intro G
  rfl
theorem sp_z_191_tooMany (X : ez_X) : ev_W X 52 0 (ez_lay [.ref 0]) [] (ev_hp ev_I0 ev_J0 ev_R0 []) 0 0 (fun r h1 c1 k1 => r = (some (.int 0)) ∧ h1 = (ev_hp (ev_sI ev_I0 6 (upd (upd (ev_I0 6) 4 1) 3 1)) ev_J0 (ev_sR ev_R0 0 65) ([.inl (1, .inl (upd (fun _ => 0) 0 0))] : List ez_C)) ∧ c1 = 1 ∧ k1 = 1) := by
  refine ev_call (sp_z_191_tooMany_r1 X  _ _) (sp_z_192_combinations X) ?_
  rintro _ _ _ _ ⟨rfl, rfl, rfl, rfl⟩
  refine ev_call (sp_z_191_tooMany_r2 X  _ _) (sp_z_196_search X) ?_
  rintro _ _ _ _ ⟨rfl, rfl, rfl, rfl⟩
  refine ev_ret (sp_z_191_tooMany_r3 X  _ _) ?_
  exact ⟨rfl, rfl, rfl, rfl⟩
set_option maxRecDepth 100000 in
set_option maxHeartbeats 100000 in
theorem sp_z_190_crowded_r1 (X : ez_X)  (cz kz : Nat) : ∀ G : ez_F, fx_up X 2 G 15 0 [.ref 0] [] (ev_hp ev_I0 ev_J0 ev_R0 []) cz kz = ev_C G 52 [.ref 0] (ev_hp ev_I0 ev_J0 ev_R0 []) fun r h1 c1 k1 => G 15 4 [.ref 0] (r.toList ++ []) h1 (cz + c1) (kz + k1) := by
  intro G
  rfl
set_option maxRecDepth 100000 in
set_option maxHeartbeats 100000 in
theorem sp_z_190_crowded_r2 (X : ez_X)  (cz kz : Nat) : ∀ G : ez_F, fx_up X 8 G 15 4 [.ref 0] [.int 0] (ev_hp (ev_sI ev_I0 6 (upd (upd (ev_I0 6) 4 1) 3 1)) ev_J0 (ev_sR ev_R0 0 65) ([.inl (1, .inl (upd (fun _ => 0) 0 0))] : List ez_C)) cz kz = some (some (.int 0), (ev_hp (ev_sI ev_I0 6 (upd (upd (ev_I0 6) 4 1) 3 1)) ev_J0 (ev_sR ev_R0 0 65) ([.inl (1, .inl (upd (fun _ => 0) 0 0))] : List ez_C)), cz, kz) := by
  intro G
  rfl
theorem sp_z_190_crowded (X : ez_X) : ev_W X 15 0 (ez_lay [.ref 0]) [] (ev_hp ev_I0 ev_J0 ev_R0 []) 0 0 (fun r h1 c1 k1 => r = (some (.int 0)) ∧ h1 = (ev_hp (ev_sI ev_I0 6 (upd (upd (ev_I0 6) 4 1) 3 1)) ev_J0 (ev_sR ev_R0 0 65) ([.inl (1, .inl (upd (fun _ => 0) 0 0))] : List ez_C)) ∧ c1 = 1 ∧ k1 = 1) := by
  refine ev_call (sp_z_190_crowded_r1 X  _ _) (sp_z_191_tooMany X) ?_
  rintro _ _ _ _ ⟨rfl, rfl, rfl, rfl⟩
  refine ev_ret (sp_z_190_crowded_r2 X  _ _) ?_
  exact ⟨rfl, rfl, rfl, rfl⟩
set_option maxRecDepth 100000 in
set_option maxHeartbeats 100000 in
theorem ef_clues_n_r1 (X : ez_X) (I : Nat → Nat → Int32) (J : Nat → Nat → Int64) (R : Nat → Nat) (T : List ez_C) (a : Int32) (cz kz : Nat) : ∀ G : ez_F, fx_up X 2 G 13 0 [.ref 0, .int a] [] (ev_hp ev_I0 ev_J0 ev_R0 []) cz kz = ev_C G 15 [.ref 0] (ev_hp ev_I0 ev_J0 ev_R0 []) fun r h1 c1 k1 => G 13 4 [.ref 0, .int a] (r.toList ++ []) h1 (cz + c1) (kz + k1) := by
  intro G
  rfl
set_option maxRecDepth 100000 in
set_option maxHeartbeats 100000 in
theorem ef_clues_n_r2 (X : ez_X) (I : Nat → Nat → Int32) (J : Nat → Nat → Int64) (R : Nat → Nat) (T : List ez_C) (a : Int32) (cz kz : Nat) : ∀ G : ez_F, fx_up X 4 G 13 4 [.ref 0, .int a] [.int 0] (ev_hp (ev_sI ev_I0 6 (upd (upd (ev_I0 6) 4 1) 3 1)) ev_J0 (ev_sR ev_R0 0 65) ([.inl (1, .inl (upd (fun _ => 0) 0 0))] : List ez_C)) cz kz = ev_C G 23 [.ref 0, .int a] (ev_hp (ev_sI ev_I0 6 (upd (upd (ev_I0 6) 4 1) 3 1)) ev_J0 (ev_sR ev_R0 0 65) ([.inl (1, .inl (upd (fun _ => 0) 0 0))] : List ez_C)) fun r h1 c1 k1 => G 13 15 [.ref 0, .int a] (r.toList ++ []) h1 (cz + c1) (kz + k1) := by
  intro G
  rfl
set_option maxRecDepth 100000 in
set_option maxHeartbeats 100000 in
theorem ef_clues_n_r3 (X : ez_X) (I : Nat → Nat → Int32) (J : Nat → Nat → Int64) (R : Nat → Nat) (T : List ez_C) (a : Int32) (q144 : Int32) (cz kz : Nat) : ∀ G : ez_F, fx_up X 1 G 13 15 [.ref 0, .int a] [.int q144] (ev_hp (ev_sI ev_I0 6 (upd (upd (ev_I0 6) 4 1) 3 1)) ev_J0 (ev_sR ev_R0 0 65) ([.inl (1, .inl (upd (fun _ => 0) 0 0))] : List ez_C)) cz kz = bif decide (q144 = 0) then G 13 29 [.ref 0, .int a] [] (ev_hp (ev_sI ev_I0 6 (upd (upd (ev_I0 6) 4 1) 3 1)) ev_J0 (ev_sR ev_R0 0 65) ([.inl (1, .inl (upd (fun _ => 0) 0 0))] : List ez_C)) cz kz else G 13 18 [.ref 0, .int a] [] (ev_hp (ev_sI ev_I0 6 (upd (upd (ev_I0 6) 4 1) 3 1)) ev_J0 (ev_sR ev_R0 0 65) ([.inl (1, .inl (upd (fun _ => 0) 0 0))] : List ez_C)) cz kz := by
  intro G
  rfl
set_option maxRecDepth 100000 in
set_option maxHeartbeats 100000 in
theorem ef_clues_n_r4 (X : ez_X) (I : Nat → Nat → Int32) (J : Nat → Nat → Int64) (R : Nat → Nat) (T : List ez_C) (a : Int32) (q144 : Int32) (cz kz : Nat) : ∀ G : ez_F, fx_up X 2 G 13 29 [.ref 0, .int a] [] (ev_hp (ev_sI ev_I0 6 (upd (upd (ev_I0 6) 4 1) 3 1)) ev_J0 (ev_sR ev_R0 0 65) ([.inl (1, .inl (upd (fun _ => 0) 0 0))] : List ez_C)) cz kz = some (some (.int (-2)), (ev_hp (ev_sI ev_I0 6 (upd (upd (ev_I0 6) 4 1) 3 1)) ev_J0 (ev_sR ev_R0 0 65) ([.inl (1, .inl (upd (fun _ => 0) 0 0))] : List ez_C)), cz, kz) := by
  intro G
  rfl
theorem ef_clues_n (X : ez_X) (I : Nat → Nat → Int32) (J : Nat → Nat → Int64) (R : Nat → Nat) (T : List ez_C) (a : Int32) (ha : ev_wi a 0 0 = 0) : ev_W X 13 0 (ez_lay [.ref 0, .int a]) [] (ev_hp ev_I0 ev_J0 ev_R0 []) 0 0 (fun r h1 c1 k1 => (((((ev_wi a 0 ((1 : Int32) - (1 : Int32))))) = 0) ∧ r = some (.int (-2)) ∧ h1 = (ev_hp (ev_sI ev_I0 6 (upd (upd (ev_I0 6) 4 1) 3 1)) ev_J0 (ev_sR ev_R0 0 65) ([.inl (1, .inl (upd (fun _ => 0) 0 0))] : List ez_C)) ∧ c1 = 1 ∧ k1 = 1)) := by
  refine ev_call (ef_clues_n_r1 X I J R T a _ _) (sp_z_190_crowded X) ?_
  rintro _ _ _ _ ⟨rfl, rfl, rfl, rfl⟩
  refine ev_call (ef_clues_n_r2 X I J R T a _ _) (eg_isLaying X (ev_sI ev_I0 6 (upd (upd (ev_I0 6) 4 1) 3 1)) ev_J0 (ev_sR ev_R0 0 65) ([.inl (1, .inl (upd (fun _ => 0) 0 0))] : List ez_C) a) ?_
  rintro r0 _ _ _ (⟨hr0, rfl, rfl, rfl⟩)
  obtain ⟨q144, hq144⟩ : ∃ z : Int32, ((ev_wi a 0 ((1 : Int32) - (1 : Int32)))) = z := ⟨_, rfl⟩
  have eq144 : r0 = some (.int q144) := hr0.trans (by subst hq144; rfl)
  subst eq144
  refine ev_if (ef_clues_n_r3 X I J R T a q144 _ _) (fun b1 => ?_) (fun b1 => ?_)
  · replace b1 := of_decide_eq_true b1
    refine ev_ret (ef_clues_n_r4 X I J R T a q144 _ _) ?_
    subst hq144
    exact ⟨b1, rfl, rfl, rfl, rfl⟩
  · replace b1 := of_decide_eq_false b1
    exact (b1 (by rw [← hq144]; exact ha)).elim
set_option maxRecDepth 100000 in
set_option maxHeartbeats 100000 in
theorem sp_z_216_areLaid_r1 (X : ez_X)  (cz kz : Nat) : ∀ G : ez_F, fx_up X 24 G 167 0 [.ref 35] [] (ev_hp (ev_sI ev_I0 6 (upd (upd (ev_I0 6) 4 1) 3 1)) ev_J0 (ev_sR ev_R0 0 65) ([.inl (1, .inl (upd (fun _ => 0) 0 0))] : List ez_C)) cz kz = G 167 83 [.ref 35, .long 1, ez_fill, .int 1] [] (ev_hp (ev_sI (ev_sI ev_I0 6 (upd (upd (ev_I0 6) 4 1) 3 1)) 35 (upd (ev_I0 35) 14 0)) ev_J0 (ev_sR ev_R0 0 65) ([.inl (1, .inl (upd (fun _ => 0) 0 0))] : List ez_C)) cz kz := by
  intro G
  rfl
set_option maxRecDepth 100000 in
set_option maxHeartbeats 100000 in
theorem sp_z_216_areLaid_r2 (X : ez_X)  (cz kz : Nat) : ∀ G : ez_F, fx_up X 24 G 167 83 [.ref 35, .long 1, ez_fill, .int 1] [] (ev_hp (ev_sI (ev_sI ev_I0 6 (upd (upd (ev_I0 6) 4 1) 3 1)) 35 (upd (ev_I0 35) 14 0)) ev_J0 (ev_sR ev_R0 0 65) ([.inl (1, .inl (upd (fun _ => 0) 0 0))] : List ez_C)) cz kz = G 167 162 [.ref 35, .long 1, ez_fill, .int 1, .int 1, .int 1, .int 0, .int 0] [.int 1] (ev_hp (ev_sI (ev_sI ev_I0 6 (upd (upd (ev_I0 6) 4 1) 3 1)) 35 (upd (ev_I0 35) 14 0)) ev_J0 (ev_sR ev_R0 0 65) ([.inl (1, .inl (upd (fun _ => 0) 0 0))] : List ez_C)) cz kz := by
  intro G
  rfl
set_option maxRecDepth 100000 in
set_option maxHeartbeats 100000 in
theorem sp_z_216_areLaid_r3 (X : ez_X)  (cz kz : Nat) : ∀ G : ez_F, fx_up X 24 G 167 162 [.ref 35, .long 1, ez_fill, .int 1, .int 1, .int 1, .int 0, .int 0] [.int 1] (ev_hp (ev_sI (ev_sI ev_I0 6 (upd (upd (ev_I0 6) 4 1) 3 1)) 35 (upd (ev_I0 35) 14 0)) ev_J0 (ev_sR ev_R0 0 65) ([.inl (1, .inl (upd (fun _ => 0) 0 0))] : List ez_C)) cz kz = G 167 258 [.ref 35, .long 1, ez_fill, .int 1, .int 1, .int 1, .int 0, .int 0, .int 1, .int 0] [.ref 35, .int 3, .ref 41] (ev_hp (ev_sI (ev_sI (ev_sI ev_I0 6 (upd (upd (ev_I0 6) 4 1) 3 1)) 35 (upd (ev_I0 35) 14 0)) 41 (upd (ev_I0 41) 0 0)) ev_J0 (ev_sR ev_R0 0 65) ([.inl (1, .inl (upd (fun _ => 0) 0 0))] : List ez_C)) cz kz := by
  intro G
  rfl
set_option maxRecDepth 100000 in
set_option maxHeartbeats 100000 in
theorem sp_z_216_areLaid_r4 (X : ez_X)  (cz kz : Nat) : ∀ G : ez_F, fx_up X 24 G 167 258 [.ref 35, .long 1, ez_fill, .int 1, .int 1, .int 1, .int 0, .int 0, .int 1, .int 0] [.ref 35, .int 3, .ref 41] (ev_hp (ev_sI (ev_sI (ev_sI ev_I0 6 (upd (upd (ev_I0 6) 4 1) 3 1)) 35 (upd (ev_I0 35) 14 0)) 41 (upd (ev_I0 41) 0 0)) ev_J0 (ev_sR ev_R0 0 65) ([.inl (1, .inl (upd (fun _ => 0) 0 0))] : List ez_C)) cz kz = G 167 167 [.ref 35, .long 1, ez_fill, .int 1, .int 1, .int 1, .int 0, .int 0, .int 1, .int 1] [] (ev_hp (ev_sI (ev_sI (ev_sI ev_I0 6 (upd (upd (ev_I0 6) 4 1) 3 1)) 35 (upd (ev_I0 35) 14 1)) 41 (upd (upd (upd (ev_I0 41) 0 0) 1 0) 2 0)) ev_J0 (ev_sR ev_R0 0 65) ([.inl (1, .inl (upd (fun _ => 0) 0 0))] : List ez_C)) cz kz := by
  intro G
  rfl
set_option maxRecDepth 100000 in
set_option maxHeartbeats 100000 in
theorem sp_z_216_areLaid_r5 (X : ez_X)  (cz kz : Nat) : ∀ G : ez_F, fx_up X 15 G 167 167 [.ref 35, .long 1, ez_fill, .int 1, .int 1, .int 1, .int 0, .int 0, .int 1, .int 1] [] (ev_hp (ev_sI (ev_sI (ev_sI ev_I0 6 (upd (upd (ev_I0 6) 4 1) 3 1)) 35 (upd (ev_I0 35) 14 1)) 41 (upd (upd (upd (ev_I0 41) 0 0) 1 0) 2 0)) ev_J0 (ev_sR ev_R0 0 65) ([.inl (1, .inl (upd (fun _ => 0) 0 0))] : List ez_C)) cz kz = some (some (.int 1), (ev_hp (ev_sI (ev_sI (ev_sI ev_I0 6 (upd (upd (ev_I0 6) 4 1) 3 1)) 35 (upd (ev_I0 35) 14 1)) 41 (upd (upd (upd (ev_I0 41) 0 0) 1 0) 2 0)) ev_J0 (ev_sR ev_R0 0 65) ([.inl (1, .inl (upd (fun _ => 0) 0 0))] : List ez_C)), cz, kz) := by
  intro G
  rfl
theorem sp_z_216_areLaid (X : ez_X) : ev_W X 167 0 (ez_lay [.ref 35]) [] (ev_hp (ev_sI ev_I0 6 (upd (upd (ev_I0 6) 4 1) 3 1)) ev_J0 (ev_sR ev_R0 0 65) ([.inl (1, .inl (upd (fun _ => 0) 0 0))] : List ez_C)) 0 0 (fun r h1 c1 k1 => r = (some (.int 1)) ∧ h1 = (ev_hp (ev_sI (ev_sI (ev_sI ev_I0 6 (upd (upd (ev_I0 6) 4 1) 3 1)) 35 (upd (ev_I0 35) 14 1)) 41 (upd (upd (upd (ev_I0 41) 0 0) 1 0) 2 0)) ev_J0 (ev_sR ev_R0 0 65) ([.inl (1, .inl (upd (fun _ => 0) 0 0))] : List ez_C)) ∧ c1 = 0 ∧ k1 = 0) := by
  refine ev_seg (sp_z_216_areLaid_r1 X  _ _) ?_
  refine ev_seg (sp_z_216_areLaid_r2 X  _ _) ?_
  refine ev_seg (sp_z_216_areLaid_r3 X  _ _) ?_
  refine ev_seg (sp_z_216_areLaid_r4 X  _ _) ?_
  refine ev_ret (sp_z_216_areLaid_r5 X  _ _) ?_
  exact ⟨rfl, rfl, rfl, rfl⟩
set_option maxRecDepth 100000 in
set_option maxHeartbeats 100000 in
theorem sp_z_215_isCrowded_r1 (X : ez_X)  (cz kz : Nat) : ∀ G : ez_F, fx_up X 2 G 201 0 [.ref 35] [] (ev_hp (ev_sI ev_I0 6 (upd (upd (ev_I0 6) 4 1) 3 1)) ev_J0 (ev_sR ev_R0 0 65) ([.inl (1, .inl (upd (fun _ => 0) 0 0))] : List ez_C)) cz kz = ev_C G 167 [.ref 35] (ev_hp (ev_sI ev_I0 6 (upd (upd (ev_I0 6) 4 1) 3 1)) ev_J0 (ev_sR ev_R0 0 65) ([.inl (1, .inl (upd (fun _ => 0) 0 0))] : List ez_C)) fun r h1 c1 k1 => G 201 4 [.ref 35] (r.toList ++ []) h1 (cz + c1) (kz + k1) := by
  intro G
  rfl
set_option maxRecDepth 100000 in
set_option maxHeartbeats 100000 in
theorem sp_z_215_isCrowded_r2 (X : ez_X)  (cz kz : Nat) : ∀ G : ez_F, fx_up X 7 G 201 4 [.ref 35] [.int 1] (ev_hp (ev_sI (ev_sI (ev_sI ev_I0 6 (upd (upd (ev_I0 6) 4 1) 3 1)) 35 (upd (ev_I0 35) 14 1)) 41 (upd (upd (upd (ev_I0 41) 0 0) 1 0) 2 0)) ev_J0 (ev_sR ev_R0 0 65) ([.inl (1, .inl (upd (fun _ => 0) 0 0))] : List ez_C)) cz kz = some (some (.int 0), (ev_hp (ev_sI (ev_sI (ev_sI ev_I0 6 (upd (upd (ev_I0 6) 4 1) 3 1)) 35 (upd (ev_I0 35) 14 1)) 41 (upd (upd (upd (ev_I0 41) 0 0) 1 0) 2 0)) ev_J0 (ev_sR ev_R0 0 65) ([.inl (1, .inl (upd (fun _ => 0) 0 0))] : List ez_C)), cz, kz) := by
  intro G
  rfl
theorem sp_z_215_isCrowded (X : ez_X) : ev_W X 201 0 (ez_lay [.ref 35]) [] (ev_hp (ev_sI ev_I0 6 (upd (upd (ev_I0 6) 4 1) 3 1)) ev_J0 (ev_sR ev_R0 0 65) ([.inl (1, .inl (upd (fun _ => 0) 0 0))] : List ez_C)) 0 0 (fun r h1 c1 k1 => r = (some (.int 0)) ∧ h1 = (ev_hp (ev_sI (ev_sI (ev_sI ev_I0 6 (upd (upd (ev_I0 6) 4 1) 3 1)) 35 (upd (ev_I0 35) 14 1)) 41 (upd (upd (upd (ev_I0 41) 0 0) 1 0) 2 0)) ev_J0 (ev_sR ev_R0 0 65) ([.inl (1, .inl (upd (fun _ => 0) 0 0))] : List ez_C)) ∧ c1 = 0 ∧ k1 = 0) := by
  refine ev_call (sp_z_215_isCrowded_r1 X  _ _) (sp_z_216_areLaid X) ?_
  rintro _ _ _ _ ⟨rfl, rfl, rfl, rfl⟩
  refine ev_ret (sp_z_215_isCrowded_r2 X  _ _) ?_
  exact ⟨rfl, rfl, rfl, rfl⟩
set_option maxRecDepth 100000 in
set_option maxHeartbeats 100000 in
theorem eh_clues_n_r1 (X : ez_X) (I : Nat → Nat → Int32) (J : Nat → Nat → Int64) (R : Nat → Nat) (T : List ez_C) (a : Int32) (cz kz : Nat) : ∀ G : ez_F, fx_up X 2 G 181 0 [.ref 35, .int a] [] (ev_hp (ev_sI ev_I0 6 (upd (upd (ev_I0 6) 4 1) 3 1)) ev_J0 (ev_sR ev_R0 0 65) ([.inl (1, .inl (upd (fun _ => 0) 0 0))] : List ez_C)) cz kz = ev_C G 201 [.ref 35] (ev_hp (ev_sI ev_I0 6 (upd (upd (ev_I0 6) 4 1) 3 1)) ev_J0 (ev_sR ev_R0 0 65) ([.inl (1, .inl (upd (fun _ => 0) 0 0))] : List ez_C)) fun r h1 c1 k1 => G 181 4 [.ref 35, .int a] (r.toList ++ []) h1 (cz + c1) (kz + k1) := by
  intro G
  rfl
set_option maxRecDepth 100000 in
set_option maxHeartbeats 100000 in
theorem eh_clues_n_r2 (X : ez_X) (I : Nat → Nat → Int32) (J : Nat → Nat → Int64) (R : Nat → Nat) (T : List ez_C) (a : Int32) (cz kz : Nat) : ∀ G : ez_F, fx_up X 4 G 181 4 [.ref 35, .int a] [.int 0] (ev_hp (ev_sI (ev_sI (ev_sI ev_I0 6 (upd (upd (ev_I0 6) 4 1) 3 1)) 35 (upd (ev_I0 35) 14 1)) 41 (upd (upd (upd (ev_I0 41) 0 0) 1 0) 2 0)) ev_J0 (ev_sR ev_R0 0 65) ([.inl (1, .inl (upd (fun _ => 0) 0 0))] : List ez_C)) cz kz = ev_C G 202 [.ref 35, .int a] (ev_hp (ev_sI (ev_sI (ev_sI ev_I0 6 (upd (upd (ev_I0 6) 4 1) 3 1)) 35 (upd (ev_I0 35) 14 1)) 41 (upd (upd (upd (ev_I0 41) 0 0) 1 0) 2 0)) ev_J0 (ev_sR ev_R0 0 65) ([.inl (1, .inl (upd (fun _ => 0) 0 0))] : List ez_C)) fun r h1 c1 k1 => G 181 15 [.ref 35, .int a] (r.toList ++ []) h1 (cz + c1) (kz + k1) := by
  intro G
  rfl
set_option maxRecDepth 100000 in
set_option maxHeartbeats 100000 in
theorem eh_clues_n_r3 (X : ez_X) (I : Nat → Nat → Int32) (J : Nat → Nat → Int64) (R : Nat → Nat) (T : List ez_C) (a : Int32) (q145 : Int32) (cz kz : Nat) : ∀ G : ez_F, fx_up X 1 G 181 15 [.ref 35, .int a] [.int q145] (ev_hp (ev_sI (ev_sI (ev_sI ev_I0 6 (upd (upd (ev_I0 6) 4 1) 3 1)) 35 (upd (ev_I0 35) 14 1)) 41 (upd (upd (upd (ev_I0 41) 0 0) 1 0) 2 0)) ev_J0 (ev_sR ev_R0 0 65) ([.inl (1, .inl (upd (fun _ => 0) 0 0))] : List ez_C)) cz kz = bif decide (¬ q145 = 0) then G 181 21 [.ref 35, .int a] [] (ev_hp (ev_sI (ev_sI (ev_sI ev_I0 6 (upd (upd (ev_I0 6) 4 1) 3 1)) 35 (upd (ev_I0 35) 14 1)) 41 (upd (upd (upd (ev_I0 41) 0 0) 1 0) 2 0)) ev_J0 (ev_sR ev_R0 0 65) ([.inl (1, .inl (upd (fun _ => 0) 0 0))] : List ez_C)) cz kz else G 181 18 [.ref 35, .int a] [] (ev_hp (ev_sI (ev_sI (ev_sI ev_I0 6 (upd (upd (ev_I0 6) 4 1) 3 1)) 35 (upd (ev_I0 35) 14 1)) 41 (upd (upd (upd (ev_I0 41) 0 0) 1 0) 2 0)) ev_J0 (ev_sR ev_R0 0 65) ([.inl (1, .inl (upd (fun _ => 0) 0 0))] : List ez_C)) cz kz := by
  intro G
  rfl
set_option maxRecDepth 100000 in
set_option maxHeartbeats 100000 in
theorem eh_clues_n_r4 (X : ez_X) (I : Nat → Nat → Int32) (J : Nat → Nat → Int64) (R : Nat → Nat) (T : List ez_C) (a : Int32) (q145 : Int32) (cz kz : Nat) : ∀ G : ez_F, fx_up X 2 G 181 18 [.ref 35, .int a] [] (ev_hp (ev_sI (ev_sI (ev_sI ev_I0 6 (upd (upd (ev_I0 6) 4 1) 3 1)) 35 (upd (ev_I0 35) 14 1)) 41 (upd (upd (upd (ev_I0 41) 0 0) 1 0) 2 0)) ev_J0 (ev_sR ev_R0 0 65) ([.inl (1, .inl (upd (fun _ => 0) 0 0))] : List ez_C)) cz kz = some (some (.int (-2)), (ev_hp (ev_sI (ev_sI (ev_sI ev_I0 6 (upd (upd (ev_I0 6) 4 1) 3 1)) 35 (upd (ev_I0 35) 14 1)) 41 (upd (upd (upd (ev_I0 41) 0 0) 1 0) 2 0)) ev_J0 (ev_sR ev_R0 0 65) ([.inl (1, .inl (upd (fun _ => 0) 0 0))] : List ez_C)), cz, kz) := by
  intro G
  rfl
theorem eh_clues_n (X : ez_X) (I : Nat → Nat → Int32) (J : Nat → Nat → Int64) (R : Nat → Nat) (T : List ez_C) (a : Int32) (ha : ev_wi a 0 0 = 0) : ev_W X 181 0 (ez_lay [.ref 35, .int a]) [] (ev_hp (ev_sI ev_I0 6 (upd (upd (ev_I0 6) 4 1) 3 1)) ev_J0 (ev_sR ev_R0 0 65) ([.inl (1, .inl (upd (fun _ => 0) 0 0))] : List ez_C)) 0 0 (fun r h1 c1 k1 => ((¬ (¬ (((ev_il (a.toInt64) 0 (((1 : Int32) - (1 : Int32)).toInt64)))) = 0)) ∧ r = some (.int (-2)) ∧ h1 = (ev_hp (ev_sI (ev_sI (ev_sI ev_I0 6 (upd (upd (ev_I0 6) 4 1) 3 1)) 35 (upd (ev_I0 35) 14 1)) 41 (upd (upd (upd (ev_I0 41) 0 0) 1 0) 2 0)) ev_J0 (ev_sR ev_R0 0 65) ([.inl (1, .inl (upd (fun _ => 0) 0 0))] : List ez_C)) ∧ c1 = 0 ∧ k1 = 0)) := by
  refine ev_call (eh_clues_n_r1 X I J R T a _ _) (sp_z_215_isCrowded X) ?_
  rintro _ _ _ _ ⟨rfl, rfl, rfl, rfl⟩
  refine ev_call (eh_clues_n_r2 X I J R T a _ _) (em_isLaying X (ev_sI (ev_sI (ev_sI ev_I0 6 (upd (upd (ev_I0 6) 4 1) 3 1)) 35 (upd (ev_I0 35) 14 1)) 41 (upd (upd (upd (ev_I0 41) 0 0) 1 0) 2 0)) ev_J0 (ev_sR ev_R0 0 65) ([.inl (1, .inl (upd (fun _ => 0) 0 0))] : List ez_C) a) ?_
  rintro r0 _ _ _ (⟨hr0, rfl, rfl, rfl⟩)
  obtain ⟨q145, hq145⟩ : ∃ z : Int32, ((ev_il (a.toInt64) 0 (((1 : Int32) - (1 : Int32)).toInt64))) = z := ⟨_, rfl⟩
  have eq145 : r0 = some (.int q145) := hr0.trans (by subst hq145; rfl)
  subst eq145
  refine ev_if (eh_clues_n_r3 X I J R T a q145 _ _) (fun b1 => ?_) (fun b1 => ?_)
  · replace b1 := of_decide_eq_true b1
    exact (b1 (by rw [← hq145]; exact ((ev_il_wi a 0 0).trans ha))).elim
  · replace b1 := of_decide_eq_false b1
    refine ev_ret (eh_clues_n_r4 X I J R T a q145 _ _) ?_
    subst hq145
    exact ⟨b1, rfl, rfl, rfl, rfl⟩
set_option maxRecDepth 100000 in
set_option maxHeartbeats 100000 in
theorem eo_clues_n_r1 (xs : Nat → Int32)  (cz kz : Nat) : ∀ G : ez_F, fx_up (4, xs) 2 G 241 1029 [ez_scr, .ref 0, .ref 35, .int 0] [] (ev_hp ev_I0 ev_J0 ev_R0 []) cz kz = G 241 1031 [ez_scr, .ref 0, .ref 35, .int 0] [ez_scr, .ref 0] (ev_hp ev_I0 ev_J0 ev_R0 []) cz kz := by
  intro G
  rfl
set_option maxRecDepth 100000 in
set_option maxHeartbeats 100000 in
theorem eo_clues_n_r2 (xs : Nat → Int32)  (cz kz : Nat) : ∀ G : ez_F, fx_up (4, xs) 2 G 241 1031 [ez_scr, .ref 0, .ref 35, .int 0] [ez_scr, .ref 0] (ev_hp ev_I0 ev_J0 ev_R0 []) cz kz = G 241 1033 [ez_scr, .ref 0, .ref 35, .int 0] [.int 1, .int 0, ez_scr, .ref 0] (ev_hp ev_I0 ev_J0 ev_R0 []) cz kz := by
  intro G
  rfl
set_option maxRecDepth 100000 in
set_option maxHeartbeats 100000 in
theorem eo_clues_n_r3 (xs : Nat → Int32)  (cz kz : Nat) : ∀ G : ez_F, fx_up (4, xs) 2 G 241 1033 [ez_scr, .ref 0, .ref 35, .int 0] [.int 1, .int 0, ez_scr, .ref 0] (ev_hp ev_I0 ev_J0 ev_R0 []) cz kz = G 241 1035 [ez_scr, .ref 0, .ref 35, .int 0] [.int (xs 1), .ref 0] (ev_hp ev_I0 ev_J0 ev_R0 []) cz kz := by
  intro G
  rfl
set_option maxRecDepth 100000 in
set_option maxHeartbeats 100000 in
theorem eo_clues_n_r4 (xs : Nat → Int32)  (cz kz : Nat) : ∀ G : ez_F, fx_up (4, xs) 1 G 241 1035 [ez_scr, .ref 0, .ref 35, .int 0] [.int (xs 1), .ref 0] (ev_hp ev_I0 ev_J0 ev_R0 []) cz kz = ev_C G 13 [.ref 0, .int (xs 1)] (ev_hp ev_I0 ev_J0 ev_R0 []) fun r h1 c1 k1 => G 241 1038 [ez_scr, .ref 0, .ref 35, .int 0] (r.toList ++ []) h1 (cz + c1) (kz + k1) := by
  intro G
  rfl
set_option maxRecDepth 100000 in
set_option maxHeartbeats 100000 in
theorem eo_clues_n_r5 (xs : Nat → Int32)  (cz kz : Nat) : ∀ G : ez_F, fx_up (4, xs) 2 G 241 1038 [ez_scr, .ref 0, .ref 35, .int 0] [.int (-2)] (ev_hp (ev_sI ev_I0 6 (upd (upd (ev_I0 6) 4 1) 3 1)) ev_J0 (ev_sR ev_R0 0 65) ([.inl (1, .inl (upd (fun _ => 0) 0 0))] : List ez_C)) cz kz = G 241 1040 [ez_scr, .ref 0, .ref 35, .int 0] [ez_scr, .ref 35, .int (-2)] (ev_hp (ev_sI ev_I0 6 (upd (upd (ev_I0 6) 4 1) 3 1)) ev_J0 (ev_sR ev_R0 0 65) ([.inl (1, .inl (upd (fun _ => 0) 0 0))] : List ez_C)) cz kz := by
  intro G
  rfl
set_option maxRecDepth 100000 in
set_option maxHeartbeats 100000 in
theorem eo_clues_n_r6 (xs : Nat → Int32)  (cz kz : Nat) : ∀ G : ez_F, fx_up (4, xs) 2 G 241 1040 [ez_scr, .ref 0, .ref 35, .int 0] [ez_scr, .ref 35, .int (-2)] (ev_hp (ev_sI ev_I0 6 (upd (upd (ev_I0 6) 4 1) 3 1)) ev_J0 (ev_sR ev_R0 0 65) ([.inl (1, .inl (upd (fun _ => 0) 0 0))] : List ez_C)) cz kz = G 241 1042 [ez_scr, .ref 0, .ref 35, .int 0] [.int 1, .int 0, ez_scr, .ref 35, .int (-2)] (ev_hp (ev_sI ev_I0 6 (upd (upd (ev_I0 6) 4 1) 3 1)) ev_J0 (ev_sR ev_R0 0 65) ([.inl (1, .inl (upd (fun _ => 0) 0 0))] : List ez_C)) cz kz := by
  intro G
  rfl
set_option maxRecDepth 100000 in
set_option maxHeartbeats 100000 in
theorem eo_clues_n_r7 (xs : Nat → Int32)  (cz kz : Nat) : ∀ G : ez_F, fx_up (4, xs) 2 G 241 1042 [ez_scr, .ref 0, .ref 35, .int 0] [.int 1, .int 0, ez_scr, .ref 35, .int (-2)] (ev_hp (ev_sI ev_I0 6 (upd (upd (ev_I0 6) 4 1) 3 1)) ev_J0 (ev_sR ev_R0 0 65) ([.inl (1, .inl (upd (fun _ => 0) 0 0))] : List ez_C)) cz kz = G 241 1044 [ez_scr, .ref 0, .ref 35, .int 0] [.int (xs 1), .ref 35, .int (-2)] (ev_hp (ev_sI ev_I0 6 (upd (upd (ev_I0 6) 4 1) 3 1)) ev_J0 (ev_sR ev_R0 0 65) ([.inl (1, .inl (upd (fun _ => 0) 0 0))] : List ez_C)) cz kz := by
  intro G
  rfl
set_option maxRecDepth 100000 in
set_option maxHeartbeats 100000 in
theorem eo_clues_n_r8 (xs : Nat → Int32)  (cz kz : Nat) : ∀ G : ez_F, fx_up (4, xs) 1 G 241 1044 [ez_scr, .ref 0, .ref 35, .int 0] [.int (xs 1), .ref 35, .int (-2)] (ev_hp (ev_sI ev_I0 6 (upd (upd (ev_I0 6) 4 1) 3 1)) ev_J0 (ev_sR ev_R0 0 65) ([.inl (1, .inl (upd (fun _ => 0) 0 0))] : List ez_C)) cz kz = ev_C G 181 [.ref 35, .int (xs 1)] (ev_hp (ev_sI ev_I0 6 (upd (upd (ev_I0 6) 4 1) 3 1)) ev_J0 (ev_sR ev_R0 0 65) ([.inl (1, .inl (upd (fun _ => 0) 0 0))] : List ez_C)) fun r h1 c1 k1 => G 241 1047 [ez_scr, .ref 0, .ref 35, .int 0] (r.toList ++ [.int (-2)]) h1 (cz + c1) (kz + k1) := by
  intro G
  rfl
set_option maxRecDepth 100000 in
set_option maxHeartbeats 100000 in
theorem eo_clues_n_r9 (xs : Nat → Int32)  (cz kz : Nat) : ∀ G : ez_F, fx_up (4, xs) 2 G 241 1047 [ez_scr, .ref 0, .ref 35, .int 0] [.int (-2), .int (-2)] (ev_hp (ev_sI (ev_sI (ev_sI ev_I0 6 (upd (upd (ev_I0 6) 4 1) 3 1)) 35 (upd (ev_I0 35) 14 1)) 41 (upd (upd (upd (ev_I0 41) 0 0) 1 0) 2 0)) ev_J0 (ev_sR ev_R0 0 65) ([.inl (1, .inl (upd (fun _ => 0) 0 0))] : List ez_C)) cz kz = G 241 1078 [ez_scr, .ref 0, .ref 35, .int 4] [] (ev_hp (ev_sI (ev_sI (ev_sI ev_I0 6 (upd (upd (ev_I0 6) 4 1) 3 1)) 35 (upd (ev_I0 35) 14 1)) 41 (upd (upd (upd (ev_I0 41) 0 0) 1 0) 2 0)) ev_J0 (ev_sR ev_R0 0 65) ([.inl (1, .inl (upd (fun _ => 0) 0 0))] : List ez_C)) cz kz := by
  intro G
  rfl
set_option maxRecDepth 100000 in
set_option maxHeartbeats 100000 in
theorem eo_clues_n_r10 (xs : Nat → Int32)  (cz kz : Nat) : ∀ G : ez_F, fx_up (4, xs) 2 G 241 1078 [ez_scr, .ref 0, .ref 35, .int 4] [] (ev_hp (ev_sI (ev_sI (ev_sI ev_I0 6 (upd (upd (ev_I0 6) 4 1) 3 1)) 35 (upd (ev_I0 35) 14 1)) 41 (upd (upd (upd (ev_I0 41) 0 0) 1 0) 2 0)) ev_J0 (ev_sR ev_R0 0 65) ([.inl (1, .inl (upd (fun _ => 0) 0 0))] : List ez_C)) cz kz = G 241 19 [ez_scr, .ref 0, .ref 35, .int 4] [.int 4] (ev_hp (ev_sI (ev_sI (ev_sI ev_I0 6 (upd (upd (ev_I0 6) 4 1) 3 1)) 35 (upd (ev_I0 35) 14 1)) 41 (upd (upd (upd (ev_I0 41) 0 0) 1 0) 2 0)) ev_J0 (ev_sR ev_R0 0 65) ([.inl (1, .inl (upd (fun _ => 0) 0 0))] : List ez_C)) cz kz := by
  intro G
  rfl
set_option maxRecDepth 100000 in
set_option maxHeartbeats 100000 in
theorem eo_clues_n_r11 (xs : Nat → Int32)  (cz kz : Nat) : ∀ G : ez_F, fx_up (4, xs) 2 G 241 19 [ez_scr, .ref 0, .ref 35, .int 4] [.int 4] (ev_hp (ev_sI (ev_sI (ev_sI ev_I0 6 (upd (upd (ev_I0 6) 4 1) 3 1)) 35 (upd (ev_I0 35) 14 1)) 41 (upd (upd (upd (ev_I0 41) 0 0) 1 0) 2 0)) ev_J0 (ev_sR ev_R0 0 65) ([.inl (1, .inl (upd (fun _ => 0) 0 0))] : List ez_C)) cz kz = G 241 21 [ez_scr, .ref 0, .ref 35, .int 4] [.int 4, .int 4] (ev_hp (ev_sI (ev_sI (ev_sI ev_I0 6 (upd (upd (ev_I0 6) 4 1) 3 1)) 35 (upd (ev_I0 35) 14 1)) 41 (upd (upd (upd (ev_I0 41) 0 0) 1 0) 2 0)) ev_J0 (ev_sR ev_R0 0 65) ([.inl (1, .inl (upd (fun _ => 0) 0 0))] : List ez_C)) cz kz := by
  intro G
  rfl
set_option maxRecDepth 100000 in
set_option maxHeartbeats 100000 in
theorem eo_clues_n_r12 (xs : Nat → Int32)  (cz kz : Nat) : ∀ G : ez_F, fx_up (4, xs) 2 G 241 21 [ez_scr, .ref 0, .ref 35, .int 4] [.int 4, .int 4] (ev_hp (ev_sI (ev_sI (ev_sI ev_I0 6 (upd (upd (ev_I0 6) 4 1) 3 1)) 35 (upd (ev_I0 35) 14 1)) 41 (upd (upd (upd (ev_I0 41) 0 0) 1 0) 2 0)) ev_J0 (ev_sR ev_R0 0 65) ([.inl (1, .inl (upd (fun _ => 0) 0 0))] : List ez_C)) cz kz = G 241 23 [ez_scr, .ref 0, .ref 35, .int 4] [.int 0, .int 4] (ev_hp (ev_sI (ev_sI (ev_sI ev_I0 6 (upd (upd (ev_I0 6) 4 1) 3 1)) 35 (upd (ev_I0 35) 14 1)) 41 (upd (upd (upd (ev_I0 41) 0 0) 1 0) 2 0)) ev_J0 (ev_sR ev_R0 0 65) ([.inl (1, .inl (upd (fun _ => 0) 0 0))] : List ez_C)) cz kz := by
  intro G
  rfl
set_option maxRecDepth 100000 in
set_option maxHeartbeats 100000 in
theorem eo_clues_n_r13 (xs : Nat → Int32)  (cz kz : Nat) : ∀ G : ez_F, fx_up (4, xs) 2 G 241 23 [ez_scr, .ref 0, .ref 35, .int 4] [.int 0, .int 4] (ev_hp (ev_sI (ev_sI (ev_sI ev_I0 6 (upd (upd (ev_I0 6) 4 1) 3 1)) 35 (upd (ev_I0 35) 14 1)) 41 (upd (upd (upd (ev_I0 41) 0 0) 1 0) 2 0)) ev_J0 (ev_sR ev_R0 0 65) ([.inl (1, .inl (upd (fun _ => 0) 0 0))] : List ez_C)) cz kz = G 241 1082 [ez_scr, .ref 0, .ref 35, .int 4] [.int 1] (ev_hp (ev_sI (ev_sI (ev_sI ev_I0 6 (upd (upd (ev_I0 6) 4 1) 3 1)) 35 (upd (ev_I0 35) 14 1)) 41 (upd (upd (upd (ev_I0 41) 0 0) 1 0) 2 0)) ev_J0 (ev_sR ev_R0 0 65) ([.inl (1, .inl (upd (fun _ => 0) 0 0))] : List ez_C)) cz kz := by
  intro G
  rfl
set_option maxRecDepth 100000 in
set_option maxHeartbeats 100000 in
theorem eo_clues_n_r14 (xs : Nat → Int32)  (cz kz : Nat) : ∀ G : ez_F, fx_up (4, xs) 1 G 241 1082 [ez_scr, .ref 0, .ref 35, .int 4] [.int 1] (ev_hp (ev_sI (ev_sI (ev_sI ev_I0 6 (upd (upd (ev_I0 6) 4 1) 3 1)) 35 (upd (ev_I0 35) 14 1)) 41 (upd (upd (upd (ev_I0 41) 0 0) 1 0) 2 0)) ev_J0 (ev_sR ev_R0 0 65) ([.inl (1, .inl (upd (fun _ => 0) 0 0))] : List ez_C)) cz kz = some (some (.int 1), (ev_hp (ev_sI (ev_sI (ev_sI ev_I0 6 (upd (upd (ev_I0 6) 4 1) 3 1)) 35 (upd (ev_I0 35) 14 1)) 41 (upd (upd (upd (ev_I0 41) 0 0) 1 0) 2 0)) ev_J0 (ev_sR ev_R0 0 65) ([.inl (1, .inl (upd (fun _ => 0) 0 0))] : List ez_C)), cz, kz) := by
  intro G
  rfl
theorem eo_clues_n (xs : Nat → Int32) (ha : ev_wi (xs 1) 0 0 = 0) : ev_P1 (4, xs) 1029 := by
  refine ev_seg (eo_clues_n_r1 xs  _ _) ?_
  refine ev_seg (eo_clues_n_r2 xs  _ _) ?_
  refine ev_seg (eo_clues_n_r3 xs  _ _) ?_
  refine ev_call (eo_clues_n_r4 xs  _ _) (ef_clues_n (4, xs) ev_I0 ev_J0 ev_R0 [] (xs 1) ha) ?_
  rintro r0 _ _ _ (⟨d122, rfl, rfl, rfl, rfl⟩)
  refine ev_seg (eo_clues_n_r5 xs  _ _) ?_
  refine ev_seg (eo_clues_n_r6 xs  _ _) ?_
  refine ev_seg (eo_clues_n_r7 xs  _ _) ?_
  refine ev_call (eo_clues_n_r8 xs  _ _) (eh_clues_n (4, xs) (ev_sI ev_I0 6 (upd (upd (ev_I0 6) 4 1) 3 1)) ev_J0 (ev_sR ev_R0 0 65) ([.inl (1, .inl (upd (fun _ => 0) 0 0))] : List ez_C) (xs 1) ha) ?_
  rintro r0 _ _ _ (⟨d123, rfl, rfl, rfl, rfl⟩)
  refine ev_seg (eo_clues_n_r9 xs  _ _) ?_
  refine ev_seg (eo_clues_n_r10 xs  _ _) ?_
  refine ev_seg (eo_clues_n_r11 xs  _ _) ?_
  refine ev_seg (eo_clues_n_r12 xs  _ _) ?_
  refine ev_seg (eo_clues_n_r13 xs  _ _) ?_
  refine ev_ret (eo_clues_n_r14 xs  _ _) ?_
  exact ⟨rfl, by omega, by omega⟩
set_option maxRecDepth 100000 in
set_option maxHeartbeats 100000 in
theorem eo_grid_a_r1 (xs : Nat → Int32)  (cz kz : Nat) : ∀ G : ez_F, fx_up (4, xs) 2 G 241 184 [ez_scr, .ref 0, .ref 35, .int 0] [] (ev_hp ev_I0 ev_J0 ev_R0 []) cz kz = G 241 186 [ez_scr, .ref 0, .ref 35, .int 0] [ez_scr, .ref 0] (ev_hp ev_I0 ev_J0 ev_R0 []) cz kz := by
  intro G
  rfl
set_option maxRecDepth 100000 in
set_option maxHeartbeats 100000 in
theorem eo_grid_a_r2 (xs : Nat → Int32)  (cz kz : Nat) : ∀ G : ez_F, fx_up (4, xs) 2 G 241 186 [ez_scr, .ref 0, .ref 35, .int 0] [ez_scr, .ref 0] (ev_hp ev_I0 ev_J0 ev_R0 []) cz kz = G 241 188 [ez_scr, .ref 0, .ref 35, .int 0] [.int 1, .int 0, ez_scr, .ref 0] (ev_hp ev_I0 ev_J0 ev_R0 []) cz kz := by
  intro G
  rfl
set_option maxRecDepth 100000 in
set_option maxHeartbeats 100000 in
theorem eo_grid_a_r3 (xs : Nat → Int32)  (cz kz : Nat) : ∀ G : ez_F, fx_up (4, xs) 2 G 241 188 [ez_scr, .ref 0, .ref 35, .int 0] [.int 1, .int 0, ez_scr, .ref 0] (ev_hp ev_I0 ev_J0 ev_R0 []) cz kz = G 241 190 [ez_scr, .ref 0, .ref 35, .int 0] [.int (xs 1), .ref 0] (ev_hp ev_I0 ev_J0 ev_R0 []) cz kz := by
  intro G
  rfl
set_option maxRecDepth 100000 in
set_option maxHeartbeats 100000 in
theorem eo_grid_a_r4 (xs : Nat → Int32)  (cz kz : Nat) : ∀ G : ez_F, fx_up (4, xs) 2 G 241 190 [ez_scr, .ref 0, .ref 35, .int 0] [.int (xs 1), .ref 0] (ev_hp ev_I0 ev_J0 ev_R0 []) cz kz = G 241 192 [ez_scr, .ref 0, .ref 35, .int 0] [.int 0, ez_scr, .int (xs 1), .ref 0] (ev_hp ev_I0 ev_J0 ev_R0 []) cz kz := by
  intro G
  rfl
set_option maxRecDepth 100000 in
set_option maxHeartbeats 100000 in
theorem eo_grid_a_r5 (xs : Nat → Int32)  (cz kz : Nat) : ∀ G : ez_F, fx_up (4, xs) 2 G 241 192 [ez_scr, .ref 0, .ref 35, .int 0] [.int 0, ez_scr, .int (xs 1), .ref 0] (ev_hp ev_I0 ev_J0 ev_R0 []) cz kz = G 241 194 [ez_scr, .ref 0, .ref 35, .int 0] [.int 2, ez_scr, .int (xs 1), .ref 0] (ev_hp ev_I0 ev_J0 ev_R0 []) cz kz := by
  intro G
  rfl
set_option maxRecDepth 100000 in
set_option maxHeartbeats 100000 in
theorem eo_grid_a_r6 (xs : Nat → Int32)  (cz kz : Nat) : ∀ G : ez_F, fx_up (4, xs) 2 G 241 194 [ez_scr, .ref 0, .ref 35, .int 0] [.int 2, ez_scr, .int (xs 1), .ref 0] (ev_hp ev_I0 ev_J0 ev_R0 []) cz kz = G 241 196 [ez_scr, .ref 0, .ref 35, .int 0] [ez_scr, .int (xs 2), .int (xs 1), .ref 0] (ev_hp ev_I0 ev_J0 ev_R0 []) cz kz := by
  intro G
  rfl
set_option maxRecDepth 100000 in
set_option maxHeartbeats 100000 in
theorem eo_grid_a_r7 (xs : Nat → Int32)  (cz kz : Nat) : ∀ G : ez_F, fx_up (4, xs) 2 G 241 196 [ez_scr, .ref 0, .ref 35, .int 0] [ez_scr, .int (xs 2), .int (xs 1), .ref 0] (ev_hp ev_I0 ev_J0 ev_R0 []) cz kz = G 241 198 [ez_scr, .ref 0, .ref 35, .int 0] [.int 3, .int 0, ez_scr, .int (xs 2), .int (xs 1), .ref 0] (ev_hp ev_I0 ev_J0 ev_R0 []) cz kz := by
  intro G
  rfl
set_option maxRecDepth 100000 in
set_option maxHeartbeats 100000 in
theorem eo_grid_a_r8 (xs : Nat → Int32)  (cz kz : Nat) : ∀ G : ez_F, fx_up (4, xs) 2 G 241 198 [ez_scr, .ref 0, .ref 35, .int 0] [.int 3, .int 0, ez_scr, .int (xs 2), .int (xs 1), .ref 0] (ev_hp ev_I0 ev_J0 ev_R0 []) cz kz = G 241 200 [ez_scr, .ref 0, .ref 35, .int 0] [.int (xs 3), .int (xs 2), .int (xs 1), .ref 0] (ev_hp ev_I0 ev_J0 ev_R0 []) cz kz := by
  intro G
  rfl
set_option maxRecDepth 100000 in
set_option maxHeartbeats 100000 in
theorem eo_grid_a_r9 (xs : Nat → Int32)  (cz kz : Nat) : ∀ G : ez_F, fx_up (4, xs) 1 G 241 200 [ez_scr, .ref 0, .ref 35, .int 0] [.int (xs 3), .int (xs 2), .int (xs 1), .ref 0] (ev_hp ev_I0 ev_J0 ev_R0 []) cz kz = bif decide ((xs 3) = 0) then G 241 207 [ez_scr, .ref 0, .ref 35, .int 0] [.int (xs 2), .int (xs 1), .ref 0] (ev_hp ev_I0 ev_J0 ev_R0 []) cz kz else G 241 203 [ez_scr, .ref 0, .ref 35, .int 0] [.int (xs 2), .int (xs 1), .ref 0] (ev_hp ev_I0 ev_J0 ev_R0 []) cz kz := by
  intro G
  rfl
set_option maxRecDepth 100000 in
set_option maxHeartbeats 100000 in
theorem eo_grid_a_r10 (xs : Nat → Int32)  (cz kz : Nat) : ∀ G : ez_F, fx_up (4, xs) 2 G 241 207 [ez_scr, .ref 0, .ref 35, .int 0] [.int (xs 2), .int (xs 1), .ref 0] (ev_hp ev_I0 ev_J0 ev_R0 []) cz kz = ev_C G 18 [.ref 0, .int (xs 1), .int (xs 2), .int 0] (ev_hp ev_I0 ev_J0 ev_R0 []) fun r h1 c1 k1 => G 241 211 [ez_scr, .ref 0, .ref 35, .int 0] (r.toList ++ []) h1 (cz + c1) (kz + k1) := by
  intro G
  rfl
set_option maxRecDepth 100000 in
set_option maxHeartbeats 100000 in
theorem eo_grid_a_r11 (xs : Nat → Int32)  (cz kz : Nat) : ∀ G : ez_F, fx_up (4, xs) 2 G 241 211 [ez_scr, .ref 0, .ref 35, .int 0] [.int (-3)] (ev_hp ev_I0 ev_J0 ev_R0 []) cz kz = G 241 213 [ez_scr, .ref 0, .ref 35, .int 0] [ez_scr, .ref 35, .int (-3)] (ev_hp ev_I0 ev_J0 ev_R0 []) cz kz := by
  intro G
  rfl
set_option maxRecDepth 100000 in
set_option maxHeartbeats 100000 in
theorem eo_grid_a_r12 (xs : Nat → Int32)  (cz kz : Nat) : ∀ G : ez_F, fx_up (4, xs) 2 G 241 213 [ez_scr, .ref 0, .ref 35, .int 0] [ez_scr, .ref 35, .int (-3)] (ev_hp ev_I0 ev_J0 ev_R0 []) cz kz = G 241 215 [ez_scr, .ref 0, .ref 35, .int 0] [.int 1, .int 0, ez_scr, .ref 35, .int (-3)] (ev_hp ev_I0 ev_J0 ev_R0 []) cz kz := by
  intro G
  rfl
set_option maxRecDepth 100000 in
set_option maxHeartbeats 100000 in
theorem eo_grid_a_r13 (xs : Nat → Int32)  (cz kz : Nat) : ∀ G : ez_F, fx_up (4, xs) 2 G 241 215 [ez_scr, .ref 0, .ref 35, .int 0] [.int 1, .int 0, ez_scr, .ref 35, .int (-3)] (ev_hp ev_I0 ev_J0 ev_R0 []) cz kz = G 241 217 [ez_scr, .ref 0, .ref 35, .int 0] [.int (xs 1), .ref 35, .int (-3)] (ev_hp ev_I0 ev_J0 ev_R0 []) cz kz := by
  intro G
  rfl
set_option maxRecDepth 100000 in
set_option maxHeartbeats 100000 in
theorem eo_grid_a_r14 (xs : Nat → Int32)  (cz kz : Nat) : ∀ G : ez_F, fx_up (4, xs) 2 G 241 217 [ez_scr, .ref 0, .ref 35, .int 0] [.int (xs 1), .ref 35, .int (-3)] (ev_hp ev_I0 ev_J0 ev_R0 []) cz kz = G 241 219 [ez_scr, .ref 0, .ref 35, .int 0] [.int 0, ez_scr, .int (xs 1), .ref 35, .int (-3)] (ev_hp ev_I0 ev_J0 ev_R0 []) cz kz := by
  intro G
  rfl
set_option maxRecDepth 100000 in
set_option maxHeartbeats 100000 in
theorem eo_grid_a_r15 (xs : Nat → Int32)  (cz kz : Nat) : ∀ G : ez_F, fx_up (4, xs) 2 G 241 219 [ez_scr, .ref 0, .ref 35, .int 0] [.int 0, ez_scr, .int (xs 1), .ref 35, .int (-3)] (ev_hp ev_I0 ev_J0 ev_R0 []) cz kz = G 241 221 [ez_scr, .ref 0, .ref 35, .int 0] [.int 2, ez_scr, .int (xs 1), .ref 35, .int (-3)] (ev_hp ev_I0 ev_J0 ev_R0 []) cz kz := by
  intro G
  rfl
set_option maxRecDepth 100000 in
set_option maxHeartbeats 100000 in
theorem eo_grid_a_r16 (xs : Nat → Int32)  (cz kz : Nat) : ∀ G : ez_F, fx_up (4, xs) 2 G 241 221 [ez_scr, .ref 0, .ref 35, .int 0] [.int 2, ez_scr, .int (xs 1), .ref 35, .int (-3)] (ev_hp ev_I0 ev_J0 ev_R0 []) cz kz = G 241 223 [ez_scr, .ref 0, .ref 35, .int 0] [ez_scr, .int (xs 2), .int (xs 1), .ref 35, .int (-3)] (ev_hp ev_I0 ev_J0 ev_R0 []) cz kz := by
  intro G
  rfl
set_option maxRecDepth 100000 in
set_option maxHeartbeats 100000 in
theorem eo_grid_a_r17 (xs : Nat → Int32)  (cz kz : Nat) : ∀ G : ez_F, fx_up (4, xs) 2 G 241 223 [ez_scr, .ref 0, .ref 35, .int 0] [ez_scr, .int (xs 2), .int (xs 1), .ref 35, .int (-3)] (ev_hp ev_I0 ev_J0 ev_R0 []) cz kz = G 241 225 [ez_scr, .ref 0, .ref 35, .int 0] [.int 3, .int 0, ez_scr, .int (xs 2), .int (xs 1), .ref 35, .int (-3)] (ev_hp ev_I0 ev_J0 ev_R0 []) cz kz := by
  intro G
  rfl
set_option maxRecDepth 100000 in
set_option maxHeartbeats 100000 in
theorem eo_grid_a_r18 (xs : Nat → Int32)  (cz kz : Nat) : ∀ G : ez_F, fx_up (4, xs) 2 G 241 225 [ez_scr, .ref 0, .ref 35, .int 0] [.int 3, .int 0, ez_scr, .int (xs 2), .int (xs 1), .ref 35, .int (-3)] (ev_hp ev_I0 ev_J0 ev_R0 []) cz kz = G 241 227 [ez_scr, .ref 0, .ref 35, .int 0] [.int (xs 3), .int (xs 2), .int (xs 1), .ref 35, .int (-3)] (ev_hp ev_I0 ev_J0 ev_R0 []) cz kz := by
  intro G
  rfl
set_option maxRecDepth 100000 in
set_option maxHeartbeats 100000 in
theorem eo_grid_a_r19 (xs : Nat → Int32)  (cz kz : Nat) : ∀ G : ez_F, fx_up (4, xs) 1 G 241 227 [ez_scr, .ref 0, .ref 35, .int 0] [.int (xs 3), .int (xs 2), .int (xs 1), .ref 35, .int (-3)] (ev_hp ev_I0 ev_J0 ev_R0 []) cz kz = bif decide ((xs 3) = 0) then G 241 234 [ez_scr, .ref 0, .ref 35, .int 0] [.int (xs 2), .int (xs 1), .ref 35, .int (-3)] (ev_hp ev_I0 ev_J0 ev_R0 []) cz kz else G 241 230 [ez_scr, .ref 0, .ref 35, .int 0] [.int (xs 2), .int (xs 1), .ref 35, .int (-3)] (ev_hp ev_I0 ev_J0 ev_R0 []) cz kz := by
  intro G
  rfl
set_option maxRecDepth 100000 in
set_option maxHeartbeats 100000 in
theorem eo_grid_a_r20 (xs : Nat → Int32)  (cz kz : Nat) : ∀ G : ez_F, fx_up (4, xs) 2 G 241 234 [ez_scr, .ref 0, .ref 35, .int 0] [.int (xs 2), .int (xs 1), .ref 35, .int (-3)] (ev_hp ev_I0 ev_J0 ev_R0 []) cz kz = ev_C G 195 [.ref 35, .int (xs 1), .int (xs 2), .int 0] (ev_hp ev_I0 ev_J0 ev_R0 []) fun r h1 c1 k1 => G 241 238 [ez_scr, .ref 0, .ref 35, .int 0] (r.toList ++ [.int (-3)]) h1 (cz + c1) (kz + k1) := by
  intro G
  rfl
set_option maxRecDepth 100000 in
set_option maxHeartbeats 100000 in
theorem eo_grid_a_r21 (xs : Nat → Int32)  (cz kz : Nat) : ∀ G : ez_F, fx_up (4, xs) 2 G 241 238 [ez_scr, .ref 0, .ref 35, .int 0] [.int (-3), .int (-3)] (ev_hp ev_I0 ev_J0 ev_R0 []) cz kz = G 241 1078 [ez_scr, .ref 0, .ref 35, .int 4] [] (ev_hp ev_I0 ev_J0 ev_R0 []) cz kz := by
  intro G
  rfl
set_option maxRecDepth 100000 in
set_option maxHeartbeats 100000 in
theorem eo_grid_a_r22 (xs : Nat → Int32)  (cz kz : Nat) : ∀ G : ez_F, fx_up (4, xs) 2 G 241 1078 [ez_scr, .ref 0, .ref 35, .int 4] [] (ev_hp ev_I0 ev_J0 ev_R0 []) cz kz = G 241 19 [ez_scr, .ref 0, .ref 35, .int 4] [.int 4] (ev_hp ev_I0 ev_J0 ev_R0 []) cz kz := by
  intro G
  rfl
set_option maxRecDepth 100000 in
set_option maxHeartbeats 100000 in
theorem eo_grid_a_r23 (xs : Nat → Int32)  (cz kz : Nat) : ∀ G : ez_F, fx_up (4, xs) 2 G 241 19 [ez_scr, .ref 0, .ref 35, .int 4] [.int 4] (ev_hp ev_I0 ev_J0 ev_R0 []) cz kz = G 241 21 [ez_scr, .ref 0, .ref 35, .int 4] [.int 4, .int 4] (ev_hp ev_I0 ev_J0 ev_R0 []) cz kz := by
  intro G
  rfl
set_option maxRecDepth 100000 in
set_option maxHeartbeats 100000 in
theorem eo_grid_a_r24 (xs : Nat → Int32)  (cz kz : Nat) : ∀ G : ez_F, fx_up (4, xs) 2 G 241 21 [ez_scr, .ref 0, .ref 35, .int 4] [.int 4, .int 4] (ev_hp ev_I0 ev_J0 ev_R0 []) cz kz = G 241 23 [ez_scr, .ref 0, .ref 35, .int 4] [.int 0, .int 4] (ev_hp ev_I0 ev_J0 ev_R0 []) cz kz := by
  intro G
  rfl
set_option maxRecDepth 100000 in
set_option maxHeartbeats 100000 in
theorem eo_grid_a_r25 (xs : Nat → Int32)  (cz kz : Nat) : ∀ G : ez_F, fx_up (4, xs) 2 G 241 23 [ez_scr, .ref 0, .ref 35, .int 4] [.int 0, .int 4] (ev_hp ev_I0 ev_J0 ev_R0 []) cz kz = G 241 1082 [ez_scr, .ref 0, .ref 35, .int 4] [.int 1] (ev_hp ev_I0 ev_J0 ev_R0 []) cz kz := by
  intro G
  rfl
set_option maxRecDepth 100000 in
set_option maxHeartbeats 100000 in
theorem eo_grid_a_r26 (xs : Nat → Int32)  (cz kz : Nat) : ∀ G : ez_F, fx_up (4, xs) 1 G 241 1082 [ez_scr, .ref 0, .ref 35, .int 4] [.int 1] (ev_hp ev_I0 ev_J0 ev_R0 []) cz kz = some (some (.int 1), (ev_hp ev_I0 ev_J0 ev_R0 []), cz, kz) := by
  intro G
  rfl
set_option maxRecDepth 100000 in
set_option maxHeartbeats 100000 in
theorem eo_grid_a_r27 (xs : Nat → Int32) (q147 : Int32) (cz kz : Nat) : ∀ G : ez_F, fx_up (4, xs) 1 G 241 238 [ez_scr, .ref 0, .ref 35, .int 0] [.int q147, .int (-3)] (ev_hp (ev_sI (ev_sI ev_I0 35 (upd (upd (upd (upd (upd (upd (upd (ev_I0 35) 0 (xs 1)) 1 (xs 2)) 2 0) 3 0) 16 0) 9 0) 10 0)) 61 (upd (upd (upd (upd (upd (upd (upd (upd (upd (upd (upd (upd (ev_I0 61) 0 (-1)) 1 (-1)) 2 (-1)) 3 (-1)) 4 (-1)) 5 (-1)) 6 (-1)) 7 (-1)) 8 (-1)) 9 (-1)) 10 (-1)) 11 (-1))) ev_J0 ev_R0 []) cz kz = bif decide (((-3) : Int32) = q147) then G 241 1075 [ez_scr, .ref 0, .ref 35, .int 0] [] (ev_hp (ev_sI (ev_sI ev_I0 35 (upd (upd (upd (upd (upd (upd (upd (ev_I0 35) 0 (xs 1)) 1 (xs 2)) 2 0) 3 0) 16 0) 9 0) 10 0)) 61 (upd (upd (upd (upd (upd (upd (upd (upd (upd (upd (upd (upd (ev_I0 61) 0 (-1)) 1 (-1)) 2 (-1)) 3 (-1)) 4 (-1)) 5 (-1)) 6 (-1)) 7 (-1)) 8 (-1)) 9 (-1)) 10 (-1)) 11 (-1))) ev_J0 ev_R0 []) cz kz else G 241 241 [ez_scr, .ref 0, .ref 35, .int 0] [] (ev_hp (ev_sI (ev_sI ev_I0 35 (upd (upd (upd (upd (upd (upd (upd (ev_I0 35) 0 (xs 1)) 1 (xs 2)) 2 0) 3 0) 16 0) 9 0) 10 0)) 61 (upd (upd (upd (upd (upd (upd (upd (upd (upd (upd (upd (upd (ev_I0 61) 0 (-1)) 1 (-1)) 2 (-1)) 3 (-1)) 4 (-1)) 5 (-1)) 6 (-1)) 7 (-1)) 8 (-1)) 9 (-1)) 10 (-1)) 11 (-1))) ev_J0 ev_R0 []) cz kz := by
  intro G
  rfl
set_option maxRecDepth 100000 in
set_option maxHeartbeats 100000 in
theorem eo_grid_a_r28 (xs : Nat → Int32) (q147 : Int32) (cz kz : Nat) : ∀ G : ez_F, fx_up (4, xs) 2 G 241 1075 [ez_scr, .ref 0, .ref 35, .int 0] [] (ev_hp (ev_sI (ev_sI ev_I0 35 (upd (upd (upd (upd (upd (upd (upd (ev_I0 35) 0 (xs 1)) 1 (xs 2)) 2 0) 3 0) 16 0) 9 0) 10 0)) 61 (upd (upd (upd (upd (upd (upd (upd (upd (upd (upd (upd (upd (ev_I0 61) 0 (-1)) 1 (-1)) 2 (-1)) 3 (-1)) 4 (-1)) 5 (-1)) 6 (-1)) 7 (-1)) 8 (-1)) 9 (-1)) 10 (-1)) 11 (-1))) ev_J0 ev_R0 []) cz kz = G 241 18 [ez_scr, .ref 0, .ref 35, .int 4] [] (ev_hp (ev_sI (ev_sI ev_I0 35 (upd (upd (upd (upd (upd (upd (upd (ev_I0 35) 0 (xs 1)) 1 (xs 2)) 2 0) 3 0) 16 0) 9 0) 10 0)) 61 (upd (upd (upd (upd (upd (upd (upd (upd (upd (upd (upd (upd (ev_I0 61) 0 (-1)) 1 (-1)) 2 (-1)) 3 (-1)) 4 (-1)) 5 (-1)) 6 (-1)) 7 (-1)) 8 (-1)) 9 (-1)) 10 (-1)) 11 (-1))) ev_J0 ev_R0 []) cz kz := by
  intro G
  rfl
set_option maxRecDepth 100000 in
set_option maxHeartbeats 100000 in
theorem eo_grid_a_r29 (xs : Nat → Int32) (q147 : Int32) (cz kz : Nat) : ∀ G : ez_F, fx_up (4, xs) 2 G 241 18 [ez_scr, .ref 0, .ref 35, .int 4] [] (ev_hp (ev_sI (ev_sI ev_I0 35 (upd (upd (upd (upd (upd (upd (upd (ev_I0 35) 0 (xs 1)) 1 (xs 2)) 2 0) 3 0) 16 0) 9 0) 10 0)) 61 (upd (upd (upd (upd (upd (upd (upd (upd (upd (upd (upd (upd (ev_I0 61) 0 (-1)) 1 (-1)) 2 (-1)) 3 (-1)) 4 (-1)) 5 (-1)) 6 (-1)) 7 (-1)) 8 (-1)) 9 (-1)) 10 (-1)) 11 (-1))) ev_J0 ev_R0 []) cz kz = G 241 20 [ez_scr, .ref 0, .ref 35, .int 4] [ez_scr, .int 4] (ev_hp (ev_sI (ev_sI ev_I0 35 (upd (upd (upd (upd (upd (upd (upd (ev_I0 35) 0 (xs 1)) 1 (xs 2)) 2 0) 3 0) 16 0) 9 0) 10 0)) 61 (upd (upd (upd (upd (upd (upd (upd (upd (upd (upd (upd (upd (ev_I0 61) 0 (-1)) 1 (-1)) 2 (-1)) 3 (-1)) 4 (-1)) 5 (-1)) 6 (-1)) 7 (-1)) 8 (-1)) 9 (-1)) 10 (-1)) 11 (-1))) ev_J0 ev_R0 []) cz kz := by
  intro G
  rfl
set_option maxRecDepth 100000 in
set_option maxHeartbeats 100000 in
theorem eo_grid_a_r30 (xs : Nat → Int32) (q147 : Int32) (cz kz : Nat) : ∀ G : ez_F, fx_up (4, xs) 2 G 241 20 [ez_scr, .ref 0, .ref 35, .int 4] [ez_scr, .int 4] (ev_hp (ev_sI (ev_sI ev_I0 35 (upd (upd (upd (upd (upd (upd (upd (ev_I0 35) 0 (xs 1)) 1 (xs 2)) 2 0) 3 0) 16 0) 9 0) 10 0)) 61 (upd (upd (upd (upd (upd (upd (upd (upd (upd (upd (upd (upd (ev_I0 61) 0 (-1)) 1 (-1)) 2 (-1)) 3 (-1)) 4 (-1)) 5 (-1)) 6 (-1)) 7 (-1)) 8 (-1)) 9 (-1)) 10 (-1)) 11 (-1))) ev_J0 ev_R0 []) cz kz = G 241 22 [ez_scr, .ref 0, .ref 35, .int 4] [.int 4, .int 4, .int 4] (ev_hp (ev_sI (ev_sI ev_I0 35 (upd (upd (upd (upd (upd (upd (upd (ev_I0 35) 0 (xs 1)) 1 (xs 2)) 2 0) 3 0) 16 0) 9 0) 10 0)) 61 (upd (upd (upd (upd (upd (upd (upd (upd (upd (upd (upd (upd (ev_I0 61) 0 (-1)) 1 (-1)) 2 (-1)) 3 (-1)) 4 (-1)) 5 (-1)) 6 (-1)) 7 (-1)) 8 (-1)) 9 (-1)) 10 (-1)) 11 (-1))) ev_J0 ev_R0 []) cz kz := by
  intro G
  rfl
set_option maxRecDepth 100000 in
set_option maxHeartbeats 100000 in
theorem eo_grid_a_r31 (xs : Nat → Int32) (q147 : Int32) (cz kz : Nat) : ∀ G : ez_F, fx_up (4, xs) 2 G 241 22 [ez_scr, .ref 0, .ref 35, .int 4] [.int 4, .int 4, .int 4] (ev_hp (ev_sI (ev_sI ev_I0 35 (upd (upd (upd (upd (upd (upd (upd (ev_I0 35) 0 (xs 1)) 1 (xs 2)) 2 0) 3 0) 16 0) 9 0) 10 0)) 61 (upd (upd (upd (upd (upd (upd (upd (upd (upd (upd (upd (upd (ev_I0 61) 0 (-1)) 1 (-1)) 2 (-1)) 3 (-1)) 4 (-1)) 5 (-1)) 6 (-1)) 7 (-1)) 8 (-1)) 9 (-1)) 10 (-1)) 11 (-1))) ev_J0 ev_R0 []) cz kz = G 241 1081 [ez_scr, .ref 0, .ref 35, .int 4] [] (ev_hp (ev_sI (ev_sI ev_I0 35 (upd (upd (upd (upd (upd (upd (upd (ev_I0 35) 0 (xs 1)) 1 (xs 2)) 2 0) 3 0) 16 0) 9 0) 10 0)) 61 (upd (upd (upd (upd (upd (upd (upd (upd (upd (upd (upd (upd (ev_I0 61) 0 (-1)) 1 (-1)) 2 (-1)) 3 (-1)) 4 (-1)) 5 (-1)) 6 (-1)) 7 (-1)) 8 (-1)) 9 (-1)) 10 (-1)) 11 (-1))) ev_J0 ev_R0 []) cz kz := by
  intro G
  rfl
set_option maxRecDepth 100000 in
set_option maxHeartbeats 100000 in
theorem eo_grid_a_r32 (xs : Nat → Int32) (q147 : Int32) (cz kz : Nat) : ∀ G : ez_F, fx_up (4, xs) 2 G 241 1081 [ez_scr, .ref 0, .ref 35, .int 4] [] (ev_hp (ev_sI (ev_sI ev_I0 35 (upd (upd (upd (upd (upd (upd (upd (ev_I0 35) 0 (xs 1)) 1 (xs 2)) 2 0) 3 0) 16 0) 9 0) 10 0)) 61 (upd (upd (upd (upd (upd (upd (upd (upd (upd (upd (upd (upd (ev_I0 61) 0 (-1)) 1 (-1)) 2 (-1)) 3 (-1)) 4 (-1)) 5 (-1)) 6 (-1)) 7 (-1)) 8 (-1)) 9 (-1)) 10 (-1)) 11 (-1))) ev_J0 ev_R0 []) cz kz = some (some (.int 1), (ev_hp (ev_sI (ev_sI ev_I0 35 (upd (upd (upd (upd (upd (upd (upd (ev_I0 35) 0 (xs 1)) 1 (xs 2)) 2 0) 3 0) 16 0) 9 0) 10 0)) 61 (upd (upd (upd (upd (upd (upd (upd (upd (upd (upd (upd (upd (ev_I0 61) 0 (-1)) 1 (-1)) 2 (-1)) 3 (-1)) 4 (-1)) 5 (-1)) 6 (-1)) 7 (-1)) 8 (-1)) 9 (-1)) 10 (-1)) 11 (-1))) ev_J0 ev_R0 []), cz, kz) := by
  intro G
  rfl
set_option maxRecDepth 100000 in
set_option maxHeartbeats 100000 in
theorem eo_grid_a_r33 (xs : Nat → Int32)  (cz kz : Nat) : ∀ G : ez_F, fx_up (4, xs) 2 G 241 238 [ez_scr, .ref 0, .ref 35, .int 0] [.int (-3), .int (-3)] (ev_hp ev_I0 ev_J0 ev_R0 []) cz kz = G 241 1078 [ez_scr, .ref 0, .ref 35, .int 4] [] (ev_hp ev_I0 ev_J0 ev_R0 []) cz kz := by
  intro G
  rfl
set_option maxRecDepth 100000 in
set_option maxHeartbeats 100000 in
theorem eo_grid_a_r34 (xs : Nat → Int32)  (cz kz : Nat) : ∀ G : ez_F, fx_up (4, xs) 2 G 241 1078 [ez_scr, .ref 0, .ref 35, .int 4] [] (ev_hp ev_I0 ev_J0 ev_R0 []) cz kz = G 241 19 [ez_scr, .ref 0, .ref 35, .int 4] [.int 4] (ev_hp ev_I0 ev_J0 ev_R0 []) cz kz := by
  intro G
  rfl
set_option maxRecDepth 100000 in
set_option maxHeartbeats 100000 in
theorem eo_grid_a_r35 (xs : Nat → Int32)  (cz kz : Nat) : ∀ G : ez_F, fx_up (4, xs) 2 G 241 19 [ez_scr, .ref 0, .ref 35, .int 4] [.int 4] (ev_hp ev_I0 ev_J0 ev_R0 []) cz kz = G 241 21 [ez_scr, .ref 0, .ref 35, .int 4] [.int 4, .int 4] (ev_hp ev_I0 ev_J0 ev_R0 []) cz kz := by
  intro G
  rfl
set_option maxRecDepth 100000 in
set_option maxHeartbeats 100000 in
theorem eo_grid_a_r36 (xs : Nat → Int32)  (cz kz : Nat) : ∀ G : ez_F, fx_up (4, xs) 2 G 241 21 [ez_scr, .ref 0, .ref 35, .int 4] [.int 4, .int 4] (ev_hp ev_I0 ev_J0 ev_R0 []) cz kz = G 241 23 [ez_scr, .ref 0, .ref 35, .int 4] [.int 0, .int 4] (ev_hp ev_I0 ev_J0 ev_R0 []) cz kz := by
  intro G
  rfl
set_option maxRecDepth 100000 in
set_option maxHeartbeats 100000 in
theorem eo_grid_a_r37 (xs : Nat → Int32)  (cz kz : Nat) : ∀ G : ez_F, fx_up (4, xs) 2 G 241 23 [ez_scr, .ref 0, .ref 35, .int 4] [.int 0, .int 4] (ev_hp ev_I0 ev_J0 ev_R0 []) cz kz = G 241 1082 [ez_scr, .ref 0, .ref 35, .int 4] [.int 1] (ev_hp ev_I0 ev_J0 ev_R0 []) cz kz := by
  intro G
  rfl
set_option maxRecDepth 100000 in
set_option maxHeartbeats 100000 in
theorem eo_grid_a_r38 (xs : Nat → Int32)  (cz kz : Nat) : ∀ G : ez_F, fx_up (4, xs) 1 G 241 1082 [ez_scr, .ref 0, .ref 35, .int 4] [.int 1] (ev_hp ev_I0 ev_J0 ev_R0 []) cz kz = some (some (.int 1), (ev_hp ev_I0 ev_J0 ev_R0 []), cz, kz) := by
  intro G
  rfl
set_option maxRecDepth 100000 in
set_option maxHeartbeats 100000 in
theorem eo_grid_a_r39 (xs : Nat → Int32)  (cz kz : Nat) : ∀ G : ez_F, fx_up (4, xs) 2 G 241 230 [ez_scr, .ref 0, .ref 35, .int 0] [.int (xs 2), .int (xs 1), .ref 35, .int (-3)] (ev_hp ev_I0 ev_J0 ev_R0 []) cz kz = G 241 235 [ez_scr, .ref 0, .ref 35, .int 0] [.int 1, .int (xs 2), .int (xs 1), .ref 35, .int (-3)] (ev_hp ev_I0 ev_J0 ev_R0 []) cz kz := by
  intro G
  rfl
set_option maxRecDepth 100000 in
set_option maxHeartbeats 100000 in
theorem eo_grid_a_r40 (xs : Nat → Int32)  (cz kz : Nat) : ∀ G : ez_F, fx_up (4, xs) 1 G 241 235 [ez_scr, .ref 0, .ref 35, .int 0] [.int 1, .int (xs 2), .int (xs 1), .ref 35, .int (-3)] (ev_hp ev_I0 ev_J0 ev_R0 []) cz kz = ev_C G 195 [.ref 35, .int (xs 1), .int (xs 2), .int 1] (ev_hp ev_I0 ev_J0 ev_R0 []) fun r h1 c1 k1 => G 241 238 [ez_scr, .ref 0, .ref 35, .int 0] (r.toList ++ [.int (-3)]) h1 (cz + c1) (kz + k1) := by
  intro G
  rfl
set_option maxRecDepth 100000 in
set_option maxHeartbeats 100000 in
theorem eo_grid_a_r41 (xs : Nat → Int32)  (cz kz : Nat) : ∀ G : ez_F, fx_up (4, xs) 2 G 241 238 [ez_scr, .ref 0, .ref 35, .int 0] [.int (-3), .int (-3)] (ev_hp ev_I0 ev_J0 ev_R0 []) cz kz = G 241 1078 [ez_scr, .ref 0, .ref 35, .int 4] [] (ev_hp ev_I0 ev_J0 ev_R0 []) cz kz := by
  intro G
  rfl
set_option maxRecDepth 100000 in
set_option maxHeartbeats 100000 in
theorem eo_grid_a_r42 (xs : Nat → Int32)  (cz kz : Nat) : ∀ G : ez_F, fx_up (4, xs) 2 G 241 1078 [ez_scr, .ref 0, .ref 35, .int 4] [] (ev_hp ev_I0 ev_J0 ev_R0 []) cz kz = G 241 19 [ez_scr, .ref 0, .ref 35, .int 4] [.int 4] (ev_hp ev_I0 ev_J0 ev_R0 []) cz kz := by
  intro G
  rfl
set_option maxRecDepth 100000 in
set_option maxHeartbeats 100000 in
theorem eo_grid_a_r43 (xs : Nat → Int32)  (cz kz : Nat) : ∀ G : ez_F, fx_up (4, xs) 2 G 241 19 [ez_scr, .ref 0, .ref 35, .int 4] [.int 4] (ev_hp ev_I0 ev_J0 ev_R0 []) cz kz = G 241 21 [ez_scr, .ref 0, .ref 35, .int 4] [.int 4, .int 4] (ev_hp ev_I0 ev_J0 ev_R0 []) cz kz := by
  intro G
  rfl
set_option maxRecDepth 100000 in
set_option maxHeartbeats 100000 in
theorem eo_grid_a_r44 (xs : Nat → Int32)  (cz kz : Nat) : ∀ G : ez_F, fx_up (4, xs) 2 G 241 21 [ez_scr, .ref 0, .ref 35, .int 4] [.int 4, .int 4] (ev_hp ev_I0 ev_J0 ev_R0 []) cz kz = G 241 23 [ez_scr, .ref 0, .ref 35, .int 4] [.int 0, .int 4] (ev_hp ev_I0 ev_J0 ev_R0 []) cz kz := by
  intro G
  rfl
set_option maxRecDepth 100000 in
set_option maxHeartbeats 100000 in
theorem eo_grid_a_r45 (xs : Nat → Int32)  (cz kz : Nat) : ∀ G : ez_F, fx_up (4, xs) 2 G 241 23 [ez_scr, .ref 0, .ref 35, .int 4] [.int 0, .int 4] (ev_hp ev_I0 ev_J0 ev_R0 []) cz kz = G 241 1082 [ez_scr, .ref 0, .ref 35, .int 4] [.int 1] (ev_hp ev_I0 ev_J0 ev_R0 []) cz kz := by
  intro G
  rfl
set_option maxRecDepth 100000 in
set_option maxHeartbeats 100000 in
theorem eo_grid_a_r46 (xs : Nat → Int32)  (cz kz : Nat) : ∀ G : ez_F, fx_up (4, xs) 1 G 241 1082 [ez_scr, .ref 0, .ref 35, .int 4] [.int 1] (ev_hp ev_I0 ev_J0 ev_R0 []) cz kz = some (some (.int 1), (ev_hp ev_I0 ev_J0 ev_R0 []), cz, kz) := by
  intro G
  rfl
set_option maxRecDepth 100000 in
set_option maxHeartbeats 100000 in
theorem eo_grid_a_r47 (xs : Nat → Int32) (q148 : Int32) (cz kz : Nat) : ∀ G : ez_F, fx_up (4, xs) 1 G 241 238 [ez_scr, .ref 0, .ref 35, .int 0] [.int q148, .int (-3)] (ev_hp (ev_sI (ev_sI ev_I0 35 (upd (upd (upd (upd (upd (upd (upd (ev_I0 35) 0 (xs 1)) 1 (xs 2)) 2 1) 3 0) 16 0) 9 0) 10 0)) 61 (upd (upd (upd (upd (upd (upd (upd (upd (upd (upd (upd (upd (ev_I0 61) 0 (-1)) 1 (-1)) 2 (-1)) 3 (-1)) 4 (-1)) 5 (-1)) 6 (-1)) 7 (-1)) 8 (-1)) 9 (-1)) 10 (-1)) 11 (-1))) ev_J0 ev_R0 []) cz kz = bif decide (((-3) : Int32) = q148) then G 241 1075 [ez_scr, .ref 0, .ref 35, .int 0] [] (ev_hp (ev_sI (ev_sI ev_I0 35 (upd (upd (upd (upd (upd (upd (upd (ev_I0 35) 0 (xs 1)) 1 (xs 2)) 2 1) 3 0) 16 0) 9 0) 10 0)) 61 (upd (upd (upd (upd (upd (upd (upd (upd (upd (upd (upd (upd (ev_I0 61) 0 (-1)) 1 (-1)) 2 (-1)) 3 (-1)) 4 (-1)) 5 (-1)) 6 (-1)) 7 (-1)) 8 (-1)) 9 (-1)) 10 (-1)) 11 (-1))) ev_J0 ev_R0 []) cz kz else G 241 241 [ez_scr, .ref 0, .ref 35, .int 0] [] (ev_hp (ev_sI (ev_sI ev_I0 35 (upd (upd (upd (upd (upd (upd (upd (ev_I0 35) 0 (xs 1)) 1 (xs 2)) 2 1) 3 0) 16 0) 9 0) 10 0)) 61 (upd (upd (upd (upd (upd (upd (upd (upd (upd (upd (upd (upd (ev_I0 61) 0 (-1)) 1 (-1)) 2 (-1)) 3 (-1)) 4 (-1)) 5 (-1)) 6 (-1)) 7 (-1)) 8 (-1)) 9 (-1)) 10 (-1)) 11 (-1))) ev_J0 ev_R0 []) cz kz := by
  intro G
  rfl
set_option maxRecDepth 100000 in
set_option maxHeartbeats 100000 in
theorem eo_grid_a_r48 (xs : Nat → Int32) (q148 : Int32) (cz kz : Nat) : ∀ G : ez_F, fx_up (4, xs) 2 G 241 1075 [ez_scr, .ref 0, .ref 35, .int 0] [] (ev_hp (ev_sI (ev_sI ev_I0 35 (upd (upd (upd (upd (upd (upd (upd (ev_I0 35) 0 (xs 1)) 1 (xs 2)) 2 1) 3 0) 16 0) 9 0) 10 0)) 61 (upd (upd (upd (upd (upd (upd (upd (upd (upd (upd (upd (upd (ev_I0 61) 0 (-1)) 1 (-1)) 2 (-1)) 3 (-1)) 4 (-1)) 5 (-1)) 6 (-1)) 7 (-1)) 8 (-1)) 9 (-1)) 10 (-1)) 11 (-1))) ev_J0 ev_R0 []) cz kz = G 241 18 [ez_scr, .ref 0, .ref 35, .int 4] [] (ev_hp (ev_sI (ev_sI ev_I0 35 (upd (upd (upd (upd (upd (upd (upd (ev_I0 35) 0 (xs 1)) 1 (xs 2)) 2 1) 3 0) 16 0) 9 0) 10 0)) 61 (upd (upd (upd (upd (upd (upd (upd (upd (upd (upd (upd (upd (ev_I0 61) 0 (-1)) 1 (-1)) 2 (-1)) 3 (-1)) 4 (-1)) 5 (-1)) 6 (-1)) 7 (-1)) 8 (-1)) 9 (-1)) 10 (-1)) 11 (-1))) ev_J0 ev_R0 []) cz kz := by
  intro G
  rfl
set_option maxRecDepth 100000 in
set_option maxHeartbeats 100000 in
theorem eo_grid_a_r49 (xs : Nat → Int32) (q148 : Int32) (cz kz : Nat) : ∀ G : ez_F, fx_up (4, xs) 2 G 241 18 [ez_scr, .ref 0, .ref 35, .int 4] [] (ev_hp (ev_sI (ev_sI ev_I0 35 (upd (upd (upd (upd (upd (upd (upd (ev_I0 35) 0 (xs 1)) 1 (xs 2)) 2 1) 3 0) 16 0) 9 0) 10 0)) 61 (upd (upd (upd (upd (upd (upd (upd (upd (upd (upd (upd (upd (ev_I0 61) 0 (-1)) 1 (-1)) 2 (-1)) 3 (-1)) 4 (-1)) 5 (-1)) 6 (-1)) 7 (-1)) 8 (-1)) 9 (-1)) 10 (-1)) 11 (-1))) ev_J0 ev_R0 []) cz kz = G 241 20 [ez_scr, .ref 0, .ref 35, .int 4] [ez_scr, .int 4] (ev_hp (ev_sI (ev_sI ev_I0 35 (upd (upd (upd (upd (upd (upd (upd (ev_I0 35) 0 (xs 1)) 1 (xs 2)) 2 1) 3 0) 16 0) 9 0) 10 0)) 61 (upd (upd (upd (upd (upd (upd (upd (upd (upd (upd (upd (upd (ev_I0 61) 0 (-1)) 1 (-1)) 2 (-1)) 3 (-1)) 4 (-1)) 5 (-1)) 6 (-1)) 7 (-1)) 8 (-1)) 9 (-1)) 10 (-1)) 11 (-1))) ev_J0 ev_R0 []) cz kz := by
  intro G
  rfl
set_option maxRecDepth 100000 in
set_option maxHeartbeats 100000 in
theorem eo_grid_a_r50 (xs : Nat → Int32) (q148 : Int32) (cz kz : Nat) : ∀ G : ez_F, fx_up (4, xs) 2 G 241 20 [ez_scr, .ref 0, .ref 35, .int 4] [ez_scr, .int 4] (ev_hp (ev_sI (ev_sI ev_I0 35 (upd (upd (upd (upd (upd (upd (upd (ev_I0 35) 0 (xs 1)) 1 (xs 2)) 2 1) 3 0) 16 0) 9 0) 10 0)) 61 (upd (upd (upd (upd (upd (upd (upd (upd (upd (upd (upd (upd (ev_I0 61) 0 (-1)) 1 (-1)) 2 (-1)) 3 (-1)) 4 (-1)) 5 (-1)) 6 (-1)) 7 (-1)) 8 (-1)) 9 (-1)) 10 (-1)) 11 (-1))) ev_J0 ev_R0 []) cz kz = G 241 22 [ez_scr, .ref 0, .ref 35, .int 4] [.int 4, .int 4, .int 4] (ev_hp (ev_sI (ev_sI ev_I0 35 (upd (upd (upd (upd (upd (upd (upd (ev_I0 35) 0 (xs 1)) 1 (xs 2)) 2 1) 3 0) 16 0) 9 0) 10 0)) 61 (upd (upd (upd (upd (upd (upd (upd (upd (upd (upd (upd (upd (ev_I0 61) 0 (-1)) 1 (-1)) 2 (-1)) 3 (-1)) 4 (-1)) 5 (-1)) 6 (-1)) 7 (-1)) 8 (-1)) 9 (-1)) 10 (-1)) 11 (-1))) ev_J0 ev_R0 []) cz kz := by
  intro G
  rfl
set_option maxRecDepth 100000 in
set_option maxHeartbeats 100000 in
theorem eo_grid_a_r51 (xs : Nat → Int32) (q148 : Int32) (cz kz : Nat) : ∀ G : ez_F, fx_up (4, xs) 2 G 241 22 [ez_scr, .ref 0, .ref 35, .int 4] [.int 4, .int 4, .int 4] (ev_hp (ev_sI (ev_sI ev_I0 35 (upd (upd (upd (upd (upd (upd (upd (ev_I0 35) 0 (xs 1)) 1 (xs 2)) 2 1) 3 0) 16 0) 9 0) 10 0)) 61 (upd (upd (upd (upd (upd (upd (upd (upd (upd (upd (upd (upd (ev_I0 61) 0 (-1)) 1 (-1)) 2 (-1)) 3 (-1)) 4 (-1)) 5 (-1)) 6 (-1)) 7 (-1)) 8 (-1)) 9 (-1)) 10 (-1)) 11 (-1))) ev_J0 ev_R0 []) cz kz = G 241 1081 [ez_scr, .ref 0, .ref 35, .int 4] [] (ev_hp (ev_sI (ev_sI ev_I0 35 (upd (upd (upd (upd (upd (upd (upd (ev_I0 35) 0 (xs 1)) 1 (xs 2)) 2 1) 3 0) 16 0) 9 0) 10 0)) 61 (upd (upd (upd (upd (upd (upd (upd (upd (upd (upd (upd (upd (ev_I0 61) 0 (-1)) 1 (-1)) 2 (-1)) 3 (-1)) 4 (-1)) 5 (-1)) 6 (-1)) 7 (-1)) 8 (-1)) 9 (-1)) 10 (-1)) 11 (-1))) ev_J0 ev_R0 []) cz kz := by
  intro G
  rfl
set_option maxRecDepth 100000 in
set_option maxHeartbeats 100000 in
theorem eo_grid_a_r52 (xs : Nat → Int32) (q148 : Int32) (cz kz : Nat) : ∀ G : ez_F, fx_up (4, xs) 2 G 241 1081 [ez_scr, .ref 0, .ref 35, .int 4] [] (ev_hp (ev_sI (ev_sI ev_I0 35 (upd (upd (upd (upd (upd (upd (upd (ev_I0 35) 0 (xs 1)) 1 (xs 2)) 2 1) 3 0) 16 0) 9 0) 10 0)) 61 (upd (upd (upd (upd (upd (upd (upd (upd (upd (upd (upd (upd (ev_I0 61) 0 (-1)) 1 (-1)) 2 (-1)) 3 (-1)) 4 (-1)) 5 (-1)) 6 (-1)) 7 (-1)) 8 (-1)) 9 (-1)) 10 (-1)) 11 (-1))) ev_J0 ev_R0 []) cz kz = some (some (.int 1), (ev_hp (ev_sI (ev_sI ev_I0 35 (upd (upd (upd (upd (upd (upd (upd (ev_I0 35) 0 (xs 1)) 1 (xs 2)) 2 1) 3 0) 16 0) 9 0) 10 0)) 61 (upd (upd (upd (upd (upd (upd (upd (upd (upd (upd (upd (upd (ev_I0 61) 0 (-1)) 1 (-1)) 2 (-1)) 3 (-1)) 4 (-1)) 5 (-1)) 6 (-1)) 7 (-1)) 8 (-1)) 9 (-1)) 10 (-1)) 11 (-1))) ev_J0 ev_R0 []), cz, kz) := by
  intro G
  rfl
set_option maxRecDepth 100000 in
set_option maxHeartbeats 100000 in
theorem eo_grid_a_r53 (xs : Nat → Int32)  (cz kz : Nat) : ∀ G : ez_F, fx_up (4, xs) 2 G 241 238 [ez_scr, .ref 0, .ref 35, .int 0] [.int (-3), .int (-3)] (ev_hp ev_I0 ev_J0 ev_R0 []) cz kz = G 241 1078 [ez_scr, .ref 0, .ref 35, .int 4] [] (ev_hp ev_I0 ev_J0 ev_R0 []) cz kz := by
  intro G
  rfl
set_option maxRecDepth 100000 in
set_option maxHeartbeats 100000 in
theorem eo_grid_a_r54 (xs : Nat → Int32)  (cz kz : Nat) : ∀ G : ez_F, fx_up (4, xs) 2 G 241 1078 [ez_scr, .ref 0, .ref 35, .int 4] [] (ev_hp ev_I0 ev_J0 ev_R0 []) cz kz = G 241 19 [ez_scr, .ref 0, .ref 35, .int 4] [.int 4] (ev_hp ev_I0 ev_J0 ev_R0 []) cz kz := by
  intro G
  rfl
set_option maxRecDepth 100000 in
set_option maxHeartbeats 100000 in
theorem eo_grid_a_r55 (xs : Nat → Int32)  (cz kz : Nat) : ∀ G : ez_F, fx_up (4, xs) 2 G 241 19 [ez_scr, .ref 0, .ref 35, .int 4] [.int 4] (ev_hp ev_I0 ev_J0 ev_R0 []) cz kz = G 241 21 [ez_scr, .ref 0, .ref 35, .int 4] [.int 4, .int 4] (ev_hp ev_I0 ev_J0 ev_R0 []) cz kz := by
  intro G
  rfl
set_option maxRecDepth 100000 in
set_option maxHeartbeats 100000 in
theorem eo_grid_a_r56 (xs : Nat → Int32)  (cz kz : Nat) : ∀ G : ez_F, fx_up (4, xs) 2 G 241 21 [ez_scr, .ref 0, .ref 35, .int 4] [.int 4, .int 4] (ev_hp ev_I0 ev_J0 ev_R0 []) cz kz = G 241 23 [ez_scr, .ref 0, .ref 35, .int 4] [.int 0, .int 4] (ev_hp ev_I0 ev_J0 ev_R0 []) cz kz := by
  intro G
  rfl
set_option maxRecDepth 100000 in
set_option maxHeartbeats 100000 in
theorem eo_grid_a_r57 (xs : Nat → Int32)  (cz kz : Nat) : ∀ G : ez_F, fx_up (4, xs) 2 G 241 23 [ez_scr, .ref 0, .ref 35, .int 4] [.int 0, .int 4] (ev_hp ev_I0 ev_J0 ev_R0 []) cz kz = G 241 1082 [ez_scr, .ref 0, .ref 35, .int 4] [.int 1] (ev_hp ev_I0 ev_J0 ev_R0 []) cz kz := by
  intro G
  rfl
set_option maxRecDepth 100000 in
set_option maxHeartbeats 100000 in
theorem eo_grid_a_r58 (xs : Nat → Int32)  (cz kz : Nat) : ∀ G : ez_F, fx_up (4, xs) 1 G 241 1082 [ez_scr, .ref 0, .ref 35, .int 4] [.int 1] (ev_hp ev_I0 ev_J0 ev_R0 []) cz kz = some (some (.int 1), (ev_hp ev_I0 ev_J0 ev_R0 []), cz, kz) := by
  intro G
  rfl
set_option maxRecDepth 100000 in
set_option maxHeartbeats 100000 in
theorem eo_grid_a_r59 (xs : Nat → Int32) (x125 : Int64) (x126 : Int64) (x127 : Nat → Int32) (q146 : Int32) (cz kz : Nat) : ∀ G : ez_F, fx_up (4, xs) 2 G 241 211 [ez_scr, .ref 0, .ref 35, .int 0] [.int q146] (ev_hp (ev_sI (ev_sI (ev_sI (ev_sI (ev_sI (ev_sI (ev_sI (ev_sI ev_I0 1 (upd (upd (upd (upd (upd (upd (ev_I0 1) 3 (xs 1)) 4 (xs 2)) 5 0) 6 ((xs 1) * (xs 2))) 1 0) 2 0)) 3 (upd (ev_I0 3) 3 0)) 6 (upd (ev_I0 6) 4 0)) 8 (upd (ev_I0 8) 1 0)) 13 (upd (upd (ev_I0 13) 8 0) 9 0)) 20 (upd (ev_I0 20) 3 0)) 22 (upd (upd (ev_I0 22) 8 0) 11 (-1))) 33 x127) (ev_sJ (ev_sJ ev_J0 1 (vp_updL (vp_updL (vp_updL (ev_J0 1) 7 (((1 : Int64) <<< (((xs 1) * (xs 2)).toInt64 &&& 63)) - (1 : Int64))) 8 x125) 9 x126)) 8 (vp_updL (vp_updL (ev_J0 8) 2 0) 3 0)) ev_R0 []) cz kz = G 241 213 [ez_scr, .ref 0, .ref 35, .int 0] [ez_scr, .ref 35, .int q146] (ev_hp (ev_sI (ev_sI (ev_sI (ev_sI (ev_sI (ev_sI (ev_sI (ev_sI ev_I0 1 (upd (upd (upd (upd (upd (upd (ev_I0 1) 3 (xs 1)) 4 (xs 2)) 5 0) 6 ((xs 1) * (xs 2))) 1 0) 2 0)) 3 (upd (ev_I0 3) 3 0)) 6 (upd (ev_I0 6) 4 0)) 8 (upd (ev_I0 8) 1 0)) 13 (upd (upd (ev_I0 13) 8 0) 9 0)) 20 (upd (ev_I0 20) 3 0)) 22 (upd (upd (ev_I0 22) 8 0) 11 (-1))) 33 x127) (ev_sJ (ev_sJ ev_J0 1 (vp_updL (vp_updL (vp_updL (ev_J0 1) 7 (((1 : Int64) <<< (((xs 1) * (xs 2)).toInt64 &&& 63)) - (1 : Int64))) 8 x125) 9 x126)) 8 (vp_updL (vp_updL (ev_J0 8) 2 0) 3 0)) ev_R0 []) cz kz := by
  intro G
  rfl
set_option maxRecDepth 100000 in
set_option maxHeartbeats 100000 in
theorem eo_grid_a_r60 (xs : Nat → Int32) (x125 : Int64) (x126 : Int64) (x127 : Nat → Int32) (q146 : Int32) (cz kz : Nat) : ∀ G : ez_F, fx_up (4, xs) 2 G 241 213 [ez_scr, .ref 0, .ref 35, .int 0] [ez_scr, .ref 35, .int q146] (ev_hp (ev_sI (ev_sI (ev_sI (ev_sI (ev_sI (ev_sI (ev_sI (ev_sI ev_I0 1 (upd (upd (upd (upd (upd (upd (ev_I0 1) 3 (xs 1)) 4 (xs 2)) 5 0) 6 ((xs 1) * (xs 2))) 1 0) 2 0)) 3 (upd (ev_I0 3) 3 0)) 6 (upd (ev_I0 6) 4 0)) 8 (upd (ev_I0 8) 1 0)) 13 (upd (upd (ev_I0 13) 8 0) 9 0)) 20 (upd (ev_I0 20) 3 0)) 22 (upd (upd (ev_I0 22) 8 0) 11 (-1))) 33 x127) (ev_sJ (ev_sJ ev_J0 1 (vp_updL (vp_updL (vp_updL (ev_J0 1) 7 (((1 : Int64) <<< (((xs 1) * (xs 2)).toInt64 &&& 63)) - (1 : Int64))) 8 x125) 9 x126)) 8 (vp_updL (vp_updL (ev_J0 8) 2 0) 3 0)) ev_R0 []) cz kz = G 241 215 [ez_scr, .ref 0, .ref 35, .int 0] [.int 1, .int 0, ez_scr, .ref 35, .int q146] (ev_hp (ev_sI (ev_sI (ev_sI (ev_sI (ev_sI (ev_sI (ev_sI (ev_sI ev_I0 1 (upd (upd (upd (upd (upd (upd (ev_I0 1) 3 (xs 1)) 4 (xs 2)) 5 0) 6 ((xs 1) * (xs 2))) 1 0) 2 0)) 3 (upd (ev_I0 3) 3 0)) 6 (upd (ev_I0 6) 4 0)) 8 (upd (ev_I0 8) 1 0)) 13 (upd (upd (ev_I0 13) 8 0) 9 0)) 20 (upd (ev_I0 20) 3 0)) 22 (upd (upd (ev_I0 22) 8 0) 11 (-1))) 33 x127) (ev_sJ (ev_sJ ev_J0 1 (vp_updL (vp_updL (vp_updL (ev_J0 1) 7 (((1 : Int64) <<< (((xs 1) * (xs 2)).toInt64 &&& 63)) - (1 : Int64))) 8 x125) 9 x126)) 8 (vp_updL (vp_updL (ev_J0 8) 2 0) 3 0)) ev_R0 []) cz kz := by
  intro G
  rfl
set_option maxRecDepth 100000 in
set_option maxHeartbeats 100000 in
theorem eo_grid_a_r61 (xs : Nat → Int32) (x125 : Int64) (x126 : Int64) (x127 : Nat → Int32) (q146 : Int32) (cz kz : Nat) : ∀ G : ez_F, fx_up (4, xs) 2 G 241 215 [ez_scr, .ref 0, .ref 35, .int 0] [.int 1, .int 0, ez_scr, .ref 35, .int q146] (ev_hp (ev_sI (ev_sI (ev_sI (ev_sI (ev_sI (ev_sI (ev_sI (ev_sI ev_I0 1 (upd (upd (upd (upd (upd (upd (ev_I0 1) 3 (xs 1)) 4 (xs 2)) 5 0) 6 ((xs 1) * (xs 2))) 1 0) 2 0)) 3 (upd (ev_I0 3) 3 0)) 6 (upd (ev_I0 6) 4 0)) 8 (upd (ev_I0 8) 1 0)) 13 (upd (upd (ev_I0 13) 8 0) 9 0)) 20 (upd (ev_I0 20) 3 0)) 22 (upd (upd (ev_I0 22) 8 0) 11 (-1))) 33 x127) (ev_sJ (ev_sJ ev_J0 1 (vp_updL (vp_updL (vp_updL (ev_J0 1) 7 (((1 : Int64) <<< (((xs 1) * (xs 2)).toInt64 &&& 63)) - (1 : Int64))) 8 x125) 9 x126)) 8 (vp_updL (vp_updL (ev_J0 8) 2 0) 3 0)) ev_R0 []) cz kz = G 241 217 [ez_scr, .ref 0, .ref 35, .int 0] [.int (xs 1), .ref 35, .int q146] (ev_hp (ev_sI (ev_sI (ev_sI (ev_sI (ev_sI (ev_sI (ev_sI (ev_sI ev_I0 1 (upd (upd (upd (upd (upd (upd (ev_I0 1) 3 (xs 1)) 4 (xs 2)) 5 0) 6 ((xs 1) * (xs 2))) 1 0) 2 0)) 3 (upd (ev_I0 3) 3 0)) 6 (upd (ev_I0 6) 4 0)) 8 (upd (ev_I0 8) 1 0)) 13 (upd (upd (ev_I0 13) 8 0) 9 0)) 20 (upd (ev_I0 20) 3 0)) 22 (upd (upd (ev_I0 22) 8 0) 11 (-1))) 33 x127) (ev_sJ (ev_sJ ev_J0 1 (vp_updL (vp_updL (vp_updL (ev_J0 1) 7 (((1 : Int64) <<< (((xs 1) * (xs 2)).toInt64 &&& 63)) - (1 : Int64))) 8 x125) 9 x126)) 8 (vp_updL (vp_updL (ev_J0 8) 2 0) 3 0)) ev_R0 []) cz kz := by
  intro G
  rfl
set_option maxRecDepth 100000 in
set_option maxHeartbeats 100000 in
theorem eo_grid_a_r62 (xs : Nat → Int32) (x125 : Int64) (x126 : Int64) (x127 : Nat → Int32) (q146 : Int32) (cz kz : Nat) : ∀ G : ez_F, fx_up (4, xs) 2 G 241 217 [ez_scr, .ref 0, .ref 35, .int 0] [.int (xs 1), .ref 35, .int q146] (ev_hp (ev_sI (ev_sI (ev_sI (ev_sI (ev_sI (ev_sI (ev_sI (ev_sI ev_I0 1 (upd (upd (upd (upd (upd (upd (ev_I0 1) 3 (xs 1)) 4 (xs 2)) 5 0) 6 ((xs 1) * (xs 2))) 1 0) 2 0)) 3 (upd (ev_I0 3) 3 0)) 6 (upd (ev_I0 6) 4 0)) 8 (upd (ev_I0 8) 1 0)) 13 (upd (upd (ev_I0 13) 8 0) 9 0)) 20 (upd (ev_I0 20) 3 0)) 22 (upd (upd (ev_I0 22) 8 0) 11 (-1))) 33 x127) (ev_sJ (ev_sJ ev_J0 1 (vp_updL (vp_updL (vp_updL (ev_J0 1) 7 (((1 : Int64) <<< (((xs 1) * (xs 2)).toInt64 &&& 63)) - (1 : Int64))) 8 x125) 9 x126)) 8 (vp_updL (vp_updL (ev_J0 8) 2 0) 3 0)) ev_R0 []) cz kz = G 241 219 [ez_scr, .ref 0, .ref 35, .int 0] [.int 0, ez_scr, .int (xs 1), .ref 35, .int q146] (ev_hp (ev_sI (ev_sI (ev_sI (ev_sI (ev_sI (ev_sI (ev_sI (ev_sI ev_I0 1 (upd (upd (upd (upd (upd (upd (ev_I0 1) 3 (xs 1)) 4 (xs 2)) 5 0) 6 ((xs 1) * (xs 2))) 1 0) 2 0)) 3 (upd (ev_I0 3) 3 0)) 6 (upd (ev_I0 6) 4 0)) 8 (upd (ev_I0 8) 1 0)) 13 (upd (upd (ev_I0 13) 8 0) 9 0)) 20 (upd (ev_I0 20) 3 0)) 22 (upd (upd (ev_I0 22) 8 0) 11 (-1))) 33 x127) (ev_sJ (ev_sJ ev_J0 1 (vp_updL (vp_updL (vp_updL (ev_J0 1) 7 (((1 : Int64) <<< (((xs 1) * (xs 2)).toInt64 &&& 63)) - (1 : Int64))) 8 x125) 9 x126)) 8 (vp_updL (vp_updL (ev_J0 8) 2 0) 3 0)) ev_R0 []) cz kz := by
  intro G
  rfl
set_option maxRecDepth 100000 in
set_option maxHeartbeats 100000 in
theorem eo_grid_a_r63 (xs : Nat → Int32) (x125 : Int64) (x126 : Int64) (x127 : Nat → Int32) (q146 : Int32) (cz kz : Nat) : ∀ G : ez_F, fx_up (4, xs) 2 G 241 219 [ez_scr, .ref 0, .ref 35, .int 0] [.int 0, ez_scr, .int (xs 1), .ref 35, .int q146] (ev_hp (ev_sI (ev_sI (ev_sI (ev_sI (ev_sI (ev_sI (ev_sI (ev_sI ev_I0 1 (upd (upd (upd (upd (upd (upd (ev_I0 1) 3 (xs 1)) 4 (xs 2)) 5 0) 6 ((xs 1) * (xs 2))) 1 0) 2 0)) 3 (upd (ev_I0 3) 3 0)) 6 (upd (ev_I0 6) 4 0)) 8 (upd (ev_I0 8) 1 0)) 13 (upd (upd (ev_I0 13) 8 0) 9 0)) 20 (upd (ev_I0 20) 3 0)) 22 (upd (upd (ev_I0 22) 8 0) 11 (-1))) 33 x127) (ev_sJ (ev_sJ ev_J0 1 (vp_updL (vp_updL (vp_updL (ev_J0 1) 7 (((1 : Int64) <<< (((xs 1) * (xs 2)).toInt64 &&& 63)) - (1 : Int64))) 8 x125) 9 x126)) 8 (vp_updL (vp_updL (ev_J0 8) 2 0) 3 0)) ev_R0 []) cz kz = G 241 221 [ez_scr, .ref 0, .ref 35, .int 0] [.int 2, ez_scr, .int (xs 1), .ref 35, .int q146] (ev_hp (ev_sI (ev_sI (ev_sI (ev_sI (ev_sI (ev_sI (ev_sI (ev_sI ev_I0 1 (upd (upd (upd (upd (upd (upd (ev_I0 1) 3 (xs 1)) 4 (xs 2)) 5 0) 6 ((xs 1) * (xs 2))) 1 0) 2 0)) 3 (upd (ev_I0 3) 3 0)) 6 (upd (ev_I0 6) 4 0)) 8 (upd (ev_I0 8) 1 0)) 13 (upd (upd (ev_I0 13) 8 0) 9 0)) 20 (upd (ev_I0 20) 3 0)) 22 (upd (upd (ev_I0 22) 8 0) 11 (-1))) 33 x127) (ev_sJ (ev_sJ ev_J0 1 (vp_updL (vp_updL (vp_updL (ev_J0 1) 7 (((1 : Int64) <<< (((xs 1) * (xs 2)).toInt64 &&& 63)) - (1 : Int64))) 8 x125) 9 x126)) 8 (vp_updL (vp_updL (ev_J0 8) 2 0) 3 0)) ev_R0 []) cz kz := by
  intro G
  rfl
set_option maxRecDepth 100000 in
set_option maxHeartbeats 100000 in
theorem eo_grid_a_r64 (xs : Nat → Int32) (x125 : Int64) (x126 : Int64) (x127 : Nat → Int32) (q146 : Int32) (cz kz : Nat) : ∀ G : ez_F, fx_up (4, xs) 2 G 241 221 [ez_scr, .ref 0, .ref 35, .int 0] [.int 2, ez_scr, .int (xs 1), .ref 35, .int q146] (ev_hp (ev_sI (ev_sI (ev_sI (ev_sI (ev_sI (ev_sI (ev_sI (ev_sI ev_I0 1 (upd (upd (upd (upd (upd (upd (ev_I0 1) 3 (xs 1)) 4 (xs 2)) 5 0) 6 ((xs 1) * (xs 2))) 1 0) 2 0)) 3 (upd (ev_I0 3) 3 0)) 6 (upd (ev_I0 6) 4 0)) 8 (upd (ev_I0 8) 1 0)) 13 (upd (upd (ev_I0 13) 8 0) 9 0)) 20 (upd (ev_I0 20) 3 0)) 22 (upd (upd (ev_I0 22) 8 0) 11 (-1))) 33 x127) (ev_sJ (ev_sJ ev_J0 1 (vp_updL (vp_updL (vp_updL (ev_J0 1) 7 (((1 : Int64) <<< (((xs 1) * (xs 2)).toInt64 &&& 63)) - (1 : Int64))) 8 x125) 9 x126)) 8 (vp_updL (vp_updL (ev_J0 8) 2 0) 3 0)) ev_R0 []) cz kz = G 241 223 [ez_scr, .ref 0, .ref 35, .int 0] [ez_scr, .int (xs 2), .int (xs 1), .ref 35, .int q146] (ev_hp (ev_sI (ev_sI (ev_sI (ev_sI (ev_sI (ev_sI (ev_sI (ev_sI ev_I0 1 (upd (upd (upd (upd (upd (upd (ev_I0 1) 3 (xs 1)) 4 (xs 2)) 5 0) 6 ((xs 1) * (xs 2))) 1 0) 2 0)) 3 (upd (ev_I0 3) 3 0)) 6 (upd (ev_I0 6) 4 0)) 8 (upd (ev_I0 8) 1 0)) 13 (upd (upd (ev_I0 13) 8 0) 9 0)) 20 (upd (ev_I0 20) 3 0)) 22 (upd (upd (ev_I0 22) 8 0) 11 (-1))) 33 x127) (ev_sJ (ev_sJ ev_J0 1 (vp_updL (vp_updL (vp_updL (ev_J0 1) 7 (((1 : Int64) <<< (((xs 1) * (xs 2)).toInt64 &&& 63)) - (1 : Int64))) 8 x125) 9 x126)) 8 (vp_updL (vp_updL (ev_J0 8) 2 0) 3 0)) ev_R0 []) cz kz := by
  intro G
  rfl
set_option maxRecDepth 100000 in
set_option maxHeartbeats 100000 in
theorem eo_grid_a_r65 (xs : Nat → Int32) (x125 : Int64) (x126 : Int64) (x127 : Nat → Int32) (q146 : Int32) (cz kz : Nat) : ∀ G : ez_F, fx_up (4, xs) 2 G 241 223 [ez_scr, .ref 0, .ref 35, .int 0] [ez_scr, .int (xs 2), .int (xs 1), .ref 35, .int q146] (ev_hp (ev_sI (ev_sI (ev_sI (ev_sI (ev_sI (ev_sI (ev_sI (ev_sI ev_I0 1 (upd (upd (upd (upd (upd (upd (ev_I0 1) 3 (xs 1)) 4 (xs 2)) 5 0) 6 ((xs 1) * (xs 2))) 1 0) 2 0)) 3 (upd (ev_I0 3) 3 0)) 6 (upd (ev_I0 6) 4 0)) 8 (upd (ev_I0 8) 1 0)) 13 (upd (upd (ev_I0 13) 8 0) 9 0)) 20 (upd (ev_I0 20) 3 0)) 22 (upd (upd (ev_I0 22) 8 0) 11 (-1))) 33 x127) (ev_sJ (ev_sJ ev_J0 1 (vp_updL (vp_updL (vp_updL (ev_J0 1) 7 (((1 : Int64) <<< (((xs 1) * (xs 2)).toInt64 &&& 63)) - (1 : Int64))) 8 x125) 9 x126)) 8 (vp_updL (vp_updL (ev_J0 8) 2 0) 3 0)) ev_R0 []) cz kz = G 241 225 [ez_scr, .ref 0, .ref 35, .int 0] [.int 3, .int 0, ez_scr, .int (xs 2), .int (xs 1), .ref 35, .int q146] (ev_hp (ev_sI (ev_sI (ev_sI (ev_sI (ev_sI (ev_sI (ev_sI (ev_sI ev_I0 1 (upd (upd (upd (upd (upd (upd (ev_I0 1) 3 (xs 1)) 4 (xs 2)) 5 0) 6 ((xs 1) * (xs 2))) 1 0) 2 0)) 3 (upd (ev_I0 3) 3 0)) 6 (upd (ev_I0 6) 4 0)) 8 (upd (ev_I0 8) 1 0)) 13 (upd (upd (ev_I0 13) 8 0) 9 0)) 20 (upd (ev_I0 20) 3 0)) 22 (upd (upd (ev_I0 22) 8 0) 11 (-1))) 33 x127) (ev_sJ (ev_sJ ev_J0 1 (vp_updL (vp_updL (vp_updL (ev_J0 1) 7 (((1 : Int64) <<< (((xs 1) * (xs 2)).toInt64 &&& 63)) - (1 : Int64))) 8 x125) 9 x126)) 8 (vp_updL (vp_updL (ev_J0 8) 2 0) 3 0)) ev_R0 []) cz kz := by
  intro G
  rfl
set_option maxRecDepth 100000 in
set_option maxHeartbeats 100000 in
theorem eo_grid_a_r66 (xs : Nat → Int32) (x125 : Int64) (x126 : Int64) (x127 : Nat → Int32) (q146 : Int32) (cz kz : Nat) : ∀ G : ez_F, fx_up (4, xs) 2 G 241 225 [ez_scr, .ref 0, .ref 35, .int 0] [.int 3, .int 0, ez_scr, .int (xs 2), .int (xs 1), .ref 35, .int q146] (ev_hp (ev_sI (ev_sI (ev_sI (ev_sI (ev_sI (ev_sI (ev_sI (ev_sI ev_I0 1 (upd (upd (upd (upd (upd (upd (ev_I0 1) 3 (xs 1)) 4 (xs 2)) 5 0) 6 ((xs 1) * (xs 2))) 1 0) 2 0)) 3 (upd (ev_I0 3) 3 0)) 6 (upd (ev_I0 6) 4 0)) 8 (upd (ev_I0 8) 1 0)) 13 (upd (upd (ev_I0 13) 8 0) 9 0)) 20 (upd (ev_I0 20) 3 0)) 22 (upd (upd (ev_I0 22) 8 0) 11 (-1))) 33 x127) (ev_sJ (ev_sJ ev_J0 1 (vp_updL (vp_updL (vp_updL (ev_J0 1) 7 (((1 : Int64) <<< (((xs 1) * (xs 2)).toInt64 &&& 63)) - (1 : Int64))) 8 x125) 9 x126)) 8 (vp_updL (vp_updL (ev_J0 8) 2 0) 3 0)) ev_R0 []) cz kz = G 241 227 [ez_scr, .ref 0, .ref 35, .int 0] [.int (xs 3), .int (xs 2), .int (xs 1), .ref 35, .int q146] (ev_hp (ev_sI (ev_sI (ev_sI (ev_sI (ev_sI (ev_sI (ev_sI (ev_sI ev_I0 1 (upd (upd (upd (upd (upd (upd (ev_I0 1) 3 (xs 1)) 4 (xs 2)) 5 0) 6 ((xs 1) * (xs 2))) 1 0) 2 0)) 3 (upd (ev_I0 3) 3 0)) 6 (upd (ev_I0 6) 4 0)) 8 (upd (ev_I0 8) 1 0)) 13 (upd (upd (ev_I0 13) 8 0) 9 0)) 20 (upd (ev_I0 20) 3 0)) 22 (upd (upd (ev_I0 22) 8 0) 11 (-1))) 33 x127) (ev_sJ (ev_sJ ev_J0 1 (vp_updL (vp_updL (vp_updL (ev_J0 1) 7 (((1 : Int64) <<< (((xs 1) * (xs 2)).toInt64 &&& 63)) - (1 : Int64))) 8 x125) 9 x126)) 8 (vp_updL (vp_updL (ev_J0 8) 2 0) 3 0)) ev_R0 []) cz kz := by
  intro G
  rfl
set_option maxRecDepth 100000 in
set_option maxHeartbeats 100000 in
theorem eo_grid_a_r67 (xs : Nat → Int32) (x125 : Int64) (x126 : Int64) (x127 : Nat → Int32) (q146 : Int32) (cz kz : Nat) : ∀ G : ez_F, fx_up (4, xs) 1 G 241 227 [ez_scr, .ref 0, .ref 35, .int 0] [.int (xs 3), .int (xs 2), .int (xs 1), .ref 35, .int q146] (ev_hp (ev_sI (ev_sI (ev_sI (ev_sI (ev_sI (ev_sI (ev_sI (ev_sI ev_I0 1 (upd (upd (upd (upd (upd (upd (ev_I0 1) 3 (xs 1)) 4 (xs 2)) 5 0) 6 ((xs 1) * (xs 2))) 1 0) 2 0)) 3 (upd (ev_I0 3) 3 0)) 6 (upd (ev_I0 6) 4 0)) 8 (upd (ev_I0 8) 1 0)) 13 (upd (upd (ev_I0 13) 8 0) 9 0)) 20 (upd (ev_I0 20) 3 0)) 22 (upd (upd (ev_I0 22) 8 0) 11 (-1))) 33 x127) (ev_sJ (ev_sJ ev_J0 1 (vp_updL (vp_updL (vp_updL (ev_J0 1) 7 (((1 : Int64) <<< (((xs 1) * (xs 2)).toInt64 &&& 63)) - (1 : Int64))) 8 x125) 9 x126)) 8 (vp_updL (vp_updL (ev_J0 8) 2 0) 3 0)) ev_R0 []) cz kz = bif decide ((xs 3) = 0) then G 241 234 [ez_scr, .ref 0, .ref 35, .int 0] [.int (xs 2), .int (xs 1), .ref 35, .int q146] (ev_hp (ev_sI (ev_sI (ev_sI (ev_sI (ev_sI (ev_sI (ev_sI (ev_sI ev_I0 1 (upd (upd (upd (upd (upd (upd (ev_I0 1) 3 (xs 1)) 4 (xs 2)) 5 0) 6 ((xs 1) * (xs 2))) 1 0) 2 0)) 3 (upd (ev_I0 3) 3 0)) 6 (upd (ev_I0 6) 4 0)) 8 (upd (ev_I0 8) 1 0)) 13 (upd (upd (ev_I0 13) 8 0) 9 0)) 20 (upd (ev_I0 20) 3 0)) 22 (upd (upd (ev_I0 22) 8 0) 11 (-1))) 33 x127) (ev_sJ (ev_sJ ev_J0 1 (vp_updL (vp_updL (vp_updL (ev_J0 1) 7 (((1 : Int64) <<< (((xs 1) * (xs 2)).toInt64 &&& 63)) - (1 : Int64))) 8 x125) 9 x126)) 8 (vp_updL (vp_updL (ev_J0 8) 2 0) 3 0)) ev_R0 []) cz kz else G 241 230 [ez_scr, .ref 0, .ref 35, .int 0] [.int (xs 2), .int (xs 1), .ref 35, .int q146] (ev_hp (ev_sI (ev_sI (ev_sI (ev_sI (ev_sI (ev_sI (ev_sI (ev_sI ev_I0 1 (upd (upd (upd (upd (upd (upd (ev_I0 1) 3 (xs 1)) 4 (xs 2)) 5 0) 6 ((xs 1) * (xs 2))) 1 0) 2 0)) 3 (upd (ev_I0 3) 3 0)) 6 (upd (ev_I0 6) 4 0)) 8 (upd (ev_I0 8) 1 0)) 13 (upd (upd (ev_I0 13) 8 0) 9 0)) 20 (upd (ev_I0 20) 3 0)) 22 (upd (upd (ev_I0 22) 8 0) 11 (-1))) 33 x127) (ev_sJ (ev_sJ ev_J0 1 (vp_updL (vp_updL (vp_updL (ev_J0 1) 7 (((1 : Int64) <<< (((xs 1) * (xs 2)).toInt64 &&& 63)) - (1 : Int64))) 8 x125) 9 x126)) 8 (vp_updL (vp_updL (ev_J0 8) 2 0) 3 0)) ev_R0 []) cz kz := by
  intro G
  rfl
set_option maxRecDepth 100000 in
set_option maxHeartbeats 100000 in
theorem eo_grid_a_r68 (xs : Nat → Int32) (x125 : Int64) (x126 : Int64) (x127 : Nat → Int32) (q146 : Int32) (cz kz : Nat) : ∀ G : ez_F, fx_up (4, xs) 2 G 241 234 [ez_scr, .ref 0, .ref 35, .int 0] [.int (xs 2), .int (xs 1), .ref 35, .int q146] (ev_hp (ev_sI (ev_sI (ev_sI (ev_sI (ev_sI (ev_sI (ev_sI (ev_sI ev_I0 1 (upd (upd (upd (upd (upd (upd (ev_I0 1) 3 (xs 1)) 4 (xs 2)) 5 0) 6 ((xs 1) * (xs 2))) 1 0) 2 0)) 3 (upd (ev_I0 3) 3 0)) 6 (upd (ev_I0 6) 4 0)) 8 (upd (ev_I0 8) 1 0)) 13 (upd (upd (ev_I0 13) 8 0) 9 0)) 20 (upd (ev_I0 20) 3 0)) 22 (upd (upd (ev_I0 22) 8 0) 11 (-1))) 33 x127) (ev_sJ (ev_sJ ev_J0 1 (vp_updL (vp_updL (vp_updL (ev_J0 1) 7 (((1 : Int64) <<< (((xs 1) * (xs 2)).toInt64 &&& 63)) - (1 : Int64))) 8 x125) 9 x126)) 8 (vp_updL (vp_updL (ev_J0 8) 2 0) 3 0)) ev_R0 []) cz kz = ev_C G 195 [.ref 35, .int (xs 1), .int (xs 2), .int 0] (ev_hp (ev_sI (ev_sI (ev_sI (ev_sI (ev_sI (ev_sI (ev_sI (ev_sI ev_I0 1 (upd (upd (upd (upd (upd (upd (ev_I0 1) 3 (xs 1)) 4 (xs 2)) 5 0) 6 ((xs 1) * (xs 2))) 1 0) 2 0)) 3 (upd (ev_I0 3) 3 0)) 6 (upd (ev_I0 6) 4 0)) 8 (upd (ev_I0 8) 1 0)) 13 (upd (upd (ev_I0 13) 8 0) 9 0)) 20 (upd (ev_I0 20) 3 0)) 22 (upd (upd (ev_I0 22) 8 0) 11 (-1))) 33 x127) (ev_sJ (ev_sJ ev_J0 1 (vp_updL (vp_updL (vp_updL (ev_J0 1) 7 (((1 : Int64) <<< (((xs 1) * (xs 2)).toInt64 &&& 63)) - (1 : Int64))) 8 x125) 9 x126)) 8 (vp_updL (vp_updL (ev_J0 8) 2 0) 3 0)) ev_R0 []) fun r h1 c1 k1 => G 241 238 [ez_scr, .ref 0, .ref 35, .int 0] (r.toList ++ [.int q146]) h1 (cz + c1) (kz + k1) := by
  intro G
  rfl
set_option maxRecDepth 100000 in
set_option maxHeartbeats 100000 in
theorem eo_grid_a_r69 (xs : Nat → Int32) (x125 : Int64) (x126 : Int64) (x127 : Nat → Int32) (q146 : Int32) (cz kz : Nat) : ∀ G : ez_F, fx_up (4, xs) 1 G 241 238 [ez_scr, .ref 0, .ref 35, .int 0] [.int (-3), .int q146] (ev_hp (ev_sI (ev_sI (ev_sI (ev_sI (ev_sI (ev_sI (ev_sI (ev_sI ev_I0 1 (upd (upd (upd (upd (upd (upd (ev_I0 1) 3 (xs 1)) 4 (xs 2)) 5 0) 6 ((xs 1) * (xs 2))) 1 0) 2 0)) 3 (upd (ev_I0 3) 3 0)) 6 (upd (ev_I0 6) 4 0)) 8 (upd (ev_I0 8) 1 0)) 13 (upd (upd (ev_I0 13) 8 0) 9 0)) 20 (upd (ev_I0 20) 3 0)) 22 (upd (upd (ev_I0 22) 8 0) 11 (-1))) 33 x127) (ev_sJ (ev_sJ ev_J0 1 (vp_updL (vp_updL (vp_updL (ev_J0 1) 7 (((1 : Int64) <<< (((xs 1) * (xs 2)).toInt64 &&& 63)) - (1 : Int64))) 8 x125) 9 x126)) 8 (vp_updL (vp_updL (ev_J0 8) 2 0) 3 0)) ev_R0 []) cz kz = bif decide (q146 = (-3)) then G 241 1075 [ez_scr, .ref 0, .ref 35, .int 0] [] (ev_hp (ev_sI (ev_sI (ev_sI (ev_sI (ev_sI (ev_sI (ev_sI (ev_sI ev_I0 1 (upd (upd (upd (upd (upd (upd (ev_I0 1) 3 (xs 1)) 4 (xs 2)) 5 0) 6 ((xs 1) * (xs 2))) 1 0) 2 0)) 3 (upd (ev_I0 3) 3 0)) 6 (upd (ev_I0 6) 4 0)) 8 (upd (ev_I0 8) 1 0)) 13 (upd (upd (ev_I0 13) 8 0) 9 0)) 20 (upd (ev_I0 20) 3 0)) 22 (upd (upd (ev_I0 22) 8 0) 11 (-1))) 33 x127) (ev_sJ (ev_sJ ev_J0 1 (vp_updL (vp_updL (vp_updL (ev_J0 1) 7 (((1 : Int64) <<< (((xs 1) * (xs 2)).toInt64 &&& 63)) - (1 : Int64))) 8 x125) 9 x126)) 8 (vp_updL (vp_updL (ev_J0 8) 2 0) 3 0)) ev_R0 []) cz kz else G 241 241 [ez_scr, .ref 0, .ref 35, .int 0] [] (ev_hp (ev_sI (ev_sI (ev_sI (ev_sI (ev_sI (ev_sI (ev_sI (ev_sI ev_I0 1 (upd (upd (upd (upd (upd (upd (ev_I0 1) 3 (xs 1)) 4 (xs 2)) 5 0) 6 ((xs 1) * (xs 2))) 1 0) 2 0)) 3 (upd (ev_I0 3) 3 0)) 6 (upd (ev_I0 6) 4 0)) 8 (upd (ev_I0 8) 1 0)) 13 (upd (upd (ev_I0 13) 8 0) 9 0)) 20 (upd (ev_I0 20) 3 0)) 22 (upd (upd (ev_I0 22) 8 0) 11 (-1))) 33 x127) (ev_sJ (ev_sJ ev_J0 1 (vp_updL (vp_updL (vp_updL (ev_J0 1) 7 (((1 : Int64) <<< (((xs 1) * (xs 2)).toInt64 &&& 63)) - (1 : Int64))) 8 x125) 9 x126)) 8 (vp_updL (vp_updL (ev_J0 8) 2 0) 3 0)) ev_R0 []) cz kz := by
  intro G
  rfl
set_option maxRecDepth 100000 in
set_option maxHeartbeats 100000 in
theorem eo_grid_a_r70 (xs : Nat → Int32) (x125 : Int64) (x126 : Int64) (x127 : Nat → Int32) (q146 : Int32) (cz kz : Nat) : ∀ G : ez_F, fx_up (4, xs) 2 G 241 1075 [ez_scr, .ref 0, .ref 35, .int 0] [] (ev_hp (ev_sI (ev_sI (ev_sI (ev_sI (ev_sI (ev_sI (ev_sI (ev_sI ev_I0 1 (upd (upd (upd (upd (upd (upd (ev_I0 1) 3 (xs 1)) 4 (xs 2)) 5 0) 6 ((xs 1) * (xs 2))) 1 0) 2 0)) 3 (upd (ev_I0 3) 3 0)) 6 (upd (ev_I0 6) 4 0)) 8 (upd (ev_I0 8) 1 0)) 13 (upd (upd (ev_I0 13) 8 0) 9 0)) 20 (upd (ev_I0 20) 3 0)) 22 (upd (upd (ev_I0 22) 8 0) 11 (-1))) 33 x127) (ev_sJ (ev_sJ ev_J0 1 (vp_updL (vp_updL (vp_updL (ev_J0 1) 7 (((1 : Int64) <<< (((xs 1) * (xs 2)).toInt64 &&& 63)) - (1 : Int64))) 8 x125) 9 x126)) 8 (vp_updL (vp_updL (ev_J0 8) 2 0) 3 0)) ev_R0 []) cz kz = G 241 18 [ez_scr, .ref 0, .ref 35, .int 4] [] (ev_hp (ev_sI (ev_sI (ev_sI (ev_sI (ev_sI (ev_sI (ev_sI (ev_sI ev_I0 1 (upd (upd (upd (upd (upd (upd (ev_I0 1) 3 (xs 1)) 4 (xs 2)) 5 0) 6 ((xs 1) * (xs 2))) 1 0) 2 0)) 3 (upd (ev_I0 3) 3 0)) 6 (upd (ev_I0 6) 4 0)) 8 (upd (ev_I0 8) 1 0)) 13 (upd (upd (ev_I0 13) 8 0) 9 0)) 20 (upd (ev_I0 20) 3 0)) 22 (upd (upd (ev_I0 22) 8 0) 11 (-1))) 33 x127) (ev_sJ (ev_sJ ev_J0 1 (vp_updL (vp_updL (vp_updL (ev_J0 1) 7 (((1 : Int64) <<< (((xs 1) * (xs 2)).toInt64 &&& 63)) - (1 : Int64))) 8 x125) 9 x126)) 8 (vp_updL (vp_updL (ev_J0 8) 2 0) 3 0)) ev_R0 []) cz kz := by
  intro G
  rfl
set_option maxRecDepth 100000 in
set_option maxHeartbeats 100000 in
theorem eo_grid_a_r71 (xs : Nat → Int32) (x125 : Int64) (x126 : Int64) (x127 : Nat → Int32) (q146 : Int32) (cz kz : Nat) : ∀ G : ez_F, fx_up (4, xs) 2 G 241 18 [ez_scr, .ref 0, .ref 35, .int 4] [] (ev_hp (ev_sI (ev_sI (ev_sI (ev_sI (ev_sI (ev_sI (ev_sI (ev_sI ev_I0 1 (upd (upd (upd (upd (upd (upd (ev_I0 1) 3 (xs 1)) 4 (xs 2)) 5 0) 6 ((xs 1) * (xs 2))) 1 0) 2 0)) 3 (upd (ev_I0 3) 3 0)) 6 (upd (ev_I0 6) 4 0)) 8 (upd (ev_I0 8) 1 0)) 13 (upd (upd (ev_I0 13) 8 0) 9 0)) 20 (upd (ev_I0 20) 3 0)) 22 (upd (upd (ev_I0 22) 8 0) 11 (-1))) 33 x127) (ev_sJ (ev_sJ ev_J0 1 (vp_updL (vp_updL (vp_updL (ev_J0 1) 7 (((1 : Int64) <<< (((xs 1) * (xs 2)).toInt64 &&& 63)) - (1 : Int64))) 8 x125) 9 x126)) 8 (vp_updL (vp_updL (ev_J0 8) 2 0) 3 0)) ev_R0 []) cz kz = G 241 20 [ez_scr, .ref 0, .ref 35, .int 4] [ez_scr, .int 4] (ev_hp (ev_sI (ev_sI (ev_sI (ev_sI (ev_sI (ev_sI (ev_sI (ev_sI ev_I0 1 (upd (upd (upd (upd (upd (upd (ev_I0 1) 3 (xs 1)) 4 (xs 2)) 5 0) 6 ((xs 1) * (xs 2))) 1 0) 2 0)) 3 (upd (ev_I0 3) 3 0)) 6 (upd (ev_I0 6) 4 0)) 8 (upd (ev_I0 8) 1 0)) 13 (upd (upd (ev_I0 13) 8 0) 9 0)) 20 (upd (ev_I0 20) 3 0)) 22 (upd (upd (ev_I0 22) 8 0) 11 (-1))) 33 x127) (ev_sJ (ev_sJ ev_J0 1 (vp_updL (vp_updL (vp_updL (ev_J0 1) 7 (((1 : Int64) <<< (((xs 1) * (xs 2)).toInt64 &&& 63)) - (1 : Int64))) 8 x125) 9 x126)) 8 (vp_updL (vp_updL (ev_J0 8) 2 0) 3 0)) ev_R0 []) cz kz := by
  intro G
  rfl
set_option maxRecDepth 100000 in
set_option maxHeartbeats 100000 in
theorem eo_grid_a_r72 (xs : Nat → Int32) (x125 : Int64) (x126 : Int64) (x127 : Nat → Int32) (q146 : Int32) (cz kz : Nat) : ∀ G : ez_F, fx_up (4, xs) 2 G 241 20 [ez_scr, .ref 0, .ref 35, .int 4] [ez_scr, .int 4] (ev_hp (ev_sI (ev_sI (ev_sI (ev_sI (ev_sI (ev_sI (ev_sI (ev_sI ev_I0 1 (upd (upd (upd (upd (upd (upd (ev_I0 1) 3 (xs 1)) 4 (xs 2)) 5 0) 6 ((xs 1) * (xs 2))) 1 0) 2 0)) 3 (upd (ev_I0 3) 3 0)) 6 (upd (ev_I0 6) 4 0)) 8 (upd (ev_I0 8) 1 0)) 13 (upd (upd (ev_I0 13) 8 0) 9 0)) 20 (upd (ev_I0 20) 3 0)) 22 (upd (upd (ev_I0 22) 8 0) 11 (-1))) 33 x127) (ev_sJ (ev_sJ ev_J0 1 (vp_updL (vp_updL (vp_updL (ev_J0 1) 7 (((1 : Int64) <<< (((xs 1) * (xs 2)).toInt64 &&& 63)) - (1 : Int64))) 8 x125) 9 x126)) 8 (vp_updL (vp_updL (ev_J0 8) 2 0) 3 0)) ev_R0 []) cz kz = G 241 22 [ez_scr, .ref 0, .ref 35, .int 4] [.int 4, .int 4, .int 4] (ev_hp (ev_sI (ev_sI (ev_sI (ev_sI (ev_sI (ev_sI (ev_sI (ev_sI ev_I0 1 (upd (upd (upd (upd (upd (upd (ev_I0 1) 3 (xs 1)) 4 (xs 2)) 5 0) 6 ((xs 1) * (xs 2))) 1 0) 2 0)) 3 (upd (ev_I0 3) 3 0)) 6 (upd (ev_I0 6) 4 0)) 8 (upd (ev_I0 8) 1 0)) 13 (upd (upd (ev_I0 13) 8 0) 9 0)) 20 (upd (ev_I0 20) 3 0)) 22 (upd (upd (ev_I0 22) 8 0) 11 (-1))) 33 x127) (ev_sJ (ev_sJ ev_J0 1 (vp_updL (vp_updL (vp_updL (ev_J0 1) 7 (((1 : Int64) <<< (((xs 1) * (xs 2)).toInt64 &&& 63)) - (1 : Int64))) 8 x125) 9 x126)) 8 (vp_updL (vp_updL (ev_J0 8) 2 0) 3 0)) ev_R0 []) cz kz := by
  intro G
  rfl
set_option maxRecDepth 100000 in
set_option maxHeartbeats 100000 in
theorem eo_grid_a_r73 (xs : Nat → Int32) (x125 : Int64) (x126 : Int64) (x127 : Nat → Int32) (q146 : Int32) (cz kz : Nat) : ∀ G : ez_F, fx_up (4, xs) 2 G 241 22 [ez_scr, .ref 0, .ref 35, .int 4] [.int 4, .int 4, .int 4] (ev_hp (ev_sI (ev_sI (ev_sI (ev_sI (ev_sI (ev_sI (ev_sI (ev_sI ev_I0 1 (upd (upd (upd (upd (upd (upd (ev_I0 1) 3 (xs 1)) 4 (xs 2)) 5 0) 6 ((xs 1) * (xs 2))) 1 0) 2 0)) 3 (upd (ev_I0 3) 3 0)) 6 (upd (ev_I0 6) 4 0)) 8 (upd (ev_I0 8) 1 0)) 13 (upd (upd (ev_I0 13) 8 0) 9 0)) 20 (upd (ev_I0 20) 3 0)) 22 (upd (upd (ev_I0 22) 8 0) 11 (-1))) 33 x127) (ev_sJ (ev_sJ ev_J0 1 (vp_updL (vp_updL (vp_updL (ev_J0 1) 7 (((1 : Int64) <<< (((xs 1) * (xs 2)).toInt64 &&& 63)) - (1 : Int64))) 8 x125) 9 x126)) 8 (vp_updL (vp_updL (ev_J0 8) 2 0) 3 0)) ev_R0 []) cz kz = G 241 1081 [ez_scr, .ref 0, .ref 35, .int 4] [] (ev_hp (ev_sI (ev_sI (ev_sI (ev_sI (ev_sI (ev_sI (ev_sI (ev_sI ev_I0 1 (upd (upd (upd (upd (upd (upd (ev_I0 1) 3 (xs 1)) 4 (xs 2)) 5 0) 6 ((xs 1) * (xs 2))) 1 0) 2 0)) 3 (upd (ev_I0 3) 3 0)) 6 (upd (ev_I0 6) 4 0)) 8 (upd (ev_I0 8) 1 0)) 13 (upd (upd (ev_I0 13) 8 0) 9 0)) 20 (upd (ev_I0 20) 3 0)) 22 (upd (upd (ev_I0 22) 8 0) 11 (-1))) 33 x127) (ev_sJ (ev_sJ ev_J0 1 (vp_updL (vp_updL (vp_updL (ev_J0 1) 7 (((1 : Int64) <<< (((xs 1) * (xs 2)).toInt64 &&& 63)) - (1 : Int64))) 8 x125) 9 x126)) 8 (vp_updL (vp_updL (ev_J0 8) 2 0) 3 0)) ev_R0 []) cz kz := by
  intro G
  rfl
set_option maxRecDepth 100000 in
set_option maxHeartbeats 100000 in
theorem eo_grid_a_r74 (xs : Nat → Int32) (x125 : Int64) (x126 : Int64) (x127 : Nat → Int32) (q146 : Int32) (cz kz : Nat) : ∀ G : ez_F, fx_up (4, xs) 2 G 241 1081 [ez_scr, .ref 0, .ref 35, .int 4] [] (ev_hp (ev_sI (ev_sI (ev_sI (ev_sI (ev_sI (ev_sI (ev_sI (ev_sI ev_I0 1 (upd (upd (upd (upd (upd (upd (ev_I0 1) 3 (xs 1)) 4 (xs 2)) 5 0) 6 ((xs 1) * (xs 2))) 1 0) 2 0)) 3 (upd (ev_I0 3) 3 0)) 6 (upd (ev_I0 6) 4 0)) 8 (upd (ev_I0 8) 1 0)) 13 (upd (upd (ev_I0 13) 8 0) 9 0)) 20 (upd (ev_I0 20) 3 0)) 22 (upd (upd (ev_I0 22) 8 0) 11 (-1))) 33 x127) (ev_sJ (ev_sJ ev_J0 1 (vp_updL (vp_updL (vp_updL (ev_J0 1) 7 (((1 : Int64) <<< (((xs 1) * (xs 2)).toInt64 &&& 63)) - (1 : Int64))) 8 x125) 9 x126)) 8 (vp_updL (vp_updL (ev_J0 8) 2 0) 3 0)) ev_R0 []) cz kz = some (some (.int 1), (ev_hp (ev_sI (ev_sI (ev_sI (ev_sI (ev_sI (ev_sI (ev_sI (ev_sI ev_I0 1 (upd (upd (upd (upd (upd (upd (ev_I0 1) 3 (xs 1)) 4 (xs 2)) 5 0) 6 ((xs 1) * (xs 2))) 1 0) 2 0)) 3 (upd (ev_I0 3) 3 0)) 6 (upd (ev_I0 6) 4 0)) 8 (upd (ev_I0 8) 1 0)) 13 (upd (upd (ev_I0 13) 8 0) 9 0)) 20 (upd (ev_I0 20) 3 0)) 22 (upd (upd (ev_I0 22) 8 0) 11 (-1))) 33 x127) (ev_sJ (ev_sJ ev_J0 1 (vp_updL (vp_updL (vp_updL (ev_J0 1) 7 (((1 : Int64) <<< (((xs 1) * (xs 2)).toInt64 &&& 63)) - (1 : Int64))) 8 x125) 9 x126)) 8 (vp_updL (vp_updL (ev_J0 8) 2 0) 3 0)) ev_R0 []), cz, kz) := by
  intro G
  rfl
set_option maxRecDepth 100000 in
set_option maxHeartbeats 100000 in
theorem eo_grid_a_r75 (xs : Nat → Int32) (x125 : Int64) (x126 : Int64) (x127 : Nat → Int32) (q146 : Int32) (q149 : Int32) (cz kz : Nat) : ∀ G : ez_F, fx_up (4, xs) 1 G 241 238 [ez_scr, .ref 0, .ref 35, .int 0] [.int q149, .int q146] (ev_hp (ev_sI (ev_sI (ev_sI (ev_sI (ev_sI (ev_sI (ev_sI (ev_sI (ev_sI (ev_sI ev_I0 1 (upd (upd (upd (upd (upd (upd (ev_I0 1) 3 (xs 1)) 4 (xs 2)) 5 0) 6 ((xs 1) * (xs 2))) 1 0) 2 0)) 3 (upd (ev_I0 3) 3 0)) 6 (upd (ev_I0 6) 4 0)) 8 (upd (ev_I0 8) 1 0)) 13 (upd (upd (ev_I0 13) 8 0) 9 0)) 20 (upd (ev_I0 20) 3 0)) 22 (upd (upd (ev_I0 22) 8 0) 11 (-1))) 33 x127) 35 (upd (upd (upd (upd (upd (upd (upd (ev_I0 35) 0 (xs 1)) 1 (xs 2)) 2 0) 3 0) 16 0) 9 0) 10 0)) 61 (upd (upd (upd (upd (upd (upd (upd (upd (upd (upd (upd (upd (ev_I0 61) 0 (-1)) 1 (-1)) 2 (-1)) 3 (-1)) 4 (-1)) 5 (-1)) 6 (-1)) 7 (-1)) 8 (-1)) 9 (-1)) 10 (-1)) 11 (-1))) (ev_sJ (ev_sJ ev_J0 1 (vp_updL (vp_updL (vp_updL (ev_J0 1) 7 (((1 : Int64) <<< (((xs 1) * (xs 2)).toInt64 &&& 63)) - (1 : Int64))) 8 x125) 9 x126)) 8 (vp_updL (vp_updL (ev_J0 8) 2 0) 3 0)) ev_R0 []) cz kz = bif decide (q146 = q149) then G 241 1075 [ez_scr, .ref 0, .ref 35, .int 0] [] (ev_hp (ev_sI (ev_sI (ev_sI (ev_sI (ev_sI (ev_sI (ev_sI (ev_sI (ev_sI (ev_sI ev_I0 1 (upd (upd (upd (upd (upd (upd (ev_I0 1) 3 (xs 1)) 4 (xs 2)) 5 0) 6 ((xs 1) * (xs 2))) 1 0) 2 0)) 3 (upd (ev_I0 3) 3 0)) 6 (upd (ev_I0 6) 4 0)) 8 (upd (ev_I0 8) 1 0)) 13 (upd (upd (ev_I0 13) 8 0) 9 0)) 20 (upd (ev_I0 20) 3 0)) 22 (upd (upd (ev_I0 22) 8 0) 11 (-1))) 33 x127) 35 (upd (upd (upd (upd (upd (upd (upd (ev_I0 35) 0 (xs 1)) 1 (xs 2)) 2 0) 3 0) 16 0) 9 0) 10 0)) 61 (upd (upd (upd (upd (upd (upd (upd (upd (upd (upd (upd (upd (ev_I0 61) 0 (-1)) 1 (-1)) 2 (-1)) 3 (-1)) 4 (-1)) 5 (-1)) 6 (-1)) 7 (-1)) 8 (-1)) 9 (-1)) 10 (-1)) 11 (-1))) (ev_sJ (ev_sJ ev_J0 1 (vp_updL (vp_updL (vp_updL (ev_J0 1) 7 (((1 : Int64) <<< (((xs 1) * (xs 2)).toInt64 &&& 63)) - (1 : Int64))) 8 x125) 9 x126)) 8 (vp_updL (vp_updL (ev_J0 8) 2 0) 3 0)) ev_R0 []) cz kz else G 241 241 [ez_scr, .ref 0, .ref 35, .int 0] [] (ev_hp (ev_sI (ev_sI (ev_sI (ev_sI (ev_sI (ev_sI (ev_sI (ev_sI (ev_sI (ev_sI ev_I0 1 (upd (upd (upd (upd (upd (upd (ev_I0 1) 3 (xs 1)) 4 (xs 2)) 5 0) 6 ((xs 1) * (xs 2))) 1 0) 2 0)) 3 (upd (ev_I0 3) 3 0)) 6 (upd (ev_I0 6) 4 0)) 8 (upd (ev_I0 8) 1 0)) 13 (upd (upd (ev_I0 13) 8 0) 9 0)) 20 (upd (ev_I0 20) 3 0)) 22 (upd (upd (ev_I0 22) 8 0) 11 (-1))) 33 x127) 35 (upd (upd (upd (upd (upd (upd (upd (ev_I0 35) 0 (xs 1)) 1 (xs 2)) 2 0) 3 0) 16 0) 9 0) 10 0)) 61 (upd (upd (upd (upd (upd (upd (upd (upd (upd (upd (upd (upd (ev_I0 61) 0 (-1)) 1 (-1)) 2 (-1)) 3 (-1)) 4 (-1)) 5 (-1)) 6 (-1)) 7 (-1)) 8 (-1)) 9 (-1)) 10 (-1)) 11 (-1))) (ev_sJ (ev_sJ ev_J0 1 (vp_updL (vp_updL (vp_updL (ev_J0 1) 7 (((1 : Int64) <<< (((xs 1) * (xs 2)).toInt64 &&& 63)) - (1 : Int64))) 8 x125) 9 x126)) 8 (vp_updL (vp_updL (ev_J0 8) 2 0) 3 0)) ev_R0 []) cz kz := by
  intro G
  rfl
set_option maxRecDepth 100000 in
set_option maxHeartbeats 100000 in
theorem eo_grid_a_r76 (xs : Nat → Int32) (x125 : Int64) (x126 : Int64) (x127 : Nat → Int32) (q146 : Int32) (q149 : Int32) (cz kz : Nat) : ∀ G : ez_F, fx_up (4, xs) 2 G 241 1075 [ez_scr, .ref 0, .ref 35, .int 0] [] (ev_hp (ev_sI (ev_sI (ev_sI (ev_sI (ev_sI (ev_sI (ev_sI (ev_sI (ev_sI (ev_sI ev_I0 1 (upd (upd (upd (upd (upd (upd (ev_I0 1) 3 (xs 1)) 4 (xs 2)) 5 0) 6 ((xs 1) * (xs 2))) 1 0) 2 0)) 3 (upd (ev_I0 3) 3 0)) 6 (upd (ev_I0 6) 4 0)) 8 (upd (ev_I0 8) 1 0)) 13 (upd (upd (ev_I0 13) 8 0) 9 0)) 20 (upd (ev_I0 20) 3 0)) 22 (upd (upd (ev_I0 22) 8 0) 11 (-1))) 33 x127) 35 (upd (upd (upd (upd (upd (upd (upd (ev_I0 35) 0 (xs 1)) 1 (xs 2)) 2 0) 3 0) 16 0) 9 0) 10 0)) 61 (upd (upd (upd (upd (upd (upd (upd (upd (upd (upd (upd (upd (ev_I0 61) 0 (-1)) 1 (-1)) 2 (-1)) 3 (-1)) 4 (-1)) 5 (-1)) 6 (-1)) 7 (-1)) 8 (-1)) 9 (-1)) 10 (-1)) 11 (-1))) (ev_sJ (ev_sJ ev_J0 1 (vp_updL (vp_updL (vp_updL (ev_J0 1) 7 (((1 : Int64) <<< (((xs 1) * (xs 2)).toInt64 &&& 63)) - (1 : Int64))) 8 x125) 9 x126)) 8 (vp_updL (vp_updL (ev_J0 8) 2 0) 3 0)) ev_R0 []) cz kz = G 241 18 [ez_scr, .ref 0, .ref 35, .int 4] [] (ev_hp (ev_sI (ev_sI (ev_sI (ev_sI (ev_sI (ev_sI (ev_sI (ev_sI (ev_sI (ev_sI ev_I0 1 (upd (upd (upd (upd (upd (upd (ev_I0 1) 3 (xs 1)) 4 (xs 2)) 5 0) 6 ((xs 1) * (xs 2))) 1 0) 2 0)) 3 (upd (ev_I0 3) 3 0)) 6 (upd (ev_I0 6) 4 0)) 8 (upd (ev_I0 8) 1 0)) 13 (upd (upd (ev_I0 13) 8 0) 9 0)) 20 (upd (ev_I0 20) 3 0)) 22 (upd (upd (ev_I0 22) 8 0) 11 (-1))) 33 x127) 35 (upd (upd (upd (upd (upd (upd (upd (ev_I0 35) 0 (xs 1)) 1 (xs 2)) 2 0) 3 0) 16 0) 9 0) 10 0)) 61 (upd (upd (upd (upd (upd (upd (upd (upd (upd (upd (upd (upd (ev_I0 61) 0 (-1)) 1 (-1)) 2 (-1)) 3 (-1)) 4 (-1)) 5 (-1)) 6 (-1)) 7 (-1)) 8 (-1)) 9 (-1)) 10 (-1)) 11 (-1))) (ev_sJ (ev_sJ ev_J0 1 (vp_updL (vp_updL (vp_updL (ev_J0 1) 7 (((1 : Int64) <<< (((xs 1) * (xs 2)).toInt64 &&& 63)) - (1 : Int64))) 8 x125) 9 x126)) 8 (vp_updL (vp_updL (ev_J0 8) 2 0) 3 0)) ev_R0 []) cz kz := by
  intro G
  rfl
set_option maxRecDepth 100000 in
set_option maxHeartbeats 100000 in
theorem eo_grid_a_r77 (xs : Nat → Int32) (x125 : Int64) (x126 : Int64) (x127 : Nat → Int32) (q146 : Int32) (q149 : Int32) (cz kz : Nat) : ∀ G : ez_F, fx_up (4, xs) 2 G 241 18 [ez_scr, .ref 0, .ref 35, .int 4] [] (ev_hp (ev_sI (ev_sI (ev_sI (ev_sI (ev_sI (ev_sI (ev_sI (ev_sI (ev_sI (ev_sI ev_I0 1 (upd (upd (upd (upd (upd (upd (ev_I0 1) 3 (xs 1)) 4 (xs 2)) 5 0) 6 ((xs 1) * (xs 2))) 1 0) 2 0)) 3 (upd (ev_I0 3) 3 0)) 6 (upd (ev_I0 6) 4 0)) 8 (upd (ev_I0 8) 1 0)) 13 (upd (upd (ev_I0 13) 8 0) 9 0)) 20 (upd (ev_I0 20) 3 0)) 22 (upd (upd (ev_I0 22) 8 0) 11 (-1))) 33 x127) 35 (upd (upd (upd (upd (upd (upd (upd (ev_I0 35) 0 (xs 1)) 1 (xs 2)) 2 0) 3 0) 16 0) 9 0) 10 0)) 61 (upd (upd (upd (upd (upd (upd (upd (upd (upd (upd (upd (upd (ev_I0 61) 0 (-1)) 1 (-1)) 2 (-1)) 3 (-1)) 4 (-1)) 5 (-1)) 6 (-1)) 7 (-1)) 8 (-1)) 9 (-1)) 10 (-1)) 11 (-1))) (ev_sJ (ev_sJ ev_J0 1 (vp_updL (vp_updL (vp_updL (ev_J0 1) 7 (((1 : Int64) <<< (((xs 1) * (xs 2)).toInt64 &&& 63)) - (1 : Int64))) 8 x125) 9 x126)) 8 (vp_updL (vp_updL (ev_J0 8) 2 0) 3 0)) ev_R0 []) cz kz = G 241 20 [ez_scr, .ref 0, .ref 35, .int 4] [ez_scr, .int 4] (ev_hp (ev_sI (ev_sI (ev_sI (ev_sI (ev_sI (ev_sI (ev_sI (ev_sI (ev_sI (ev_sI ev_I0 1 (upd (upd (upd (upd (upd (upd (ev_I0 1) 3 (xs 1)) 4 (xs 2)) 5 0) 6 ((xs 1) * (xs 2))) 1 0) 2 0)) 3 (upd (ev_I0 3) 3 0)) 6 (upd (ev_I0 6) 4 0)) 8 (upd (ev_I0 8) 1 0)) 13 (upd (upd (ev_I0 13) 8 0) 9 0)) 20 (upd (ev_I0 20) 3 0)) 22 (upd (upd (ev_I0 22) 8 0) 11 (-1))) 33 x127) 35 (upd (upd (upd (upd (upd (upd (upd (ev_I0 35) 0 (xs 1)) 1 (xs 2)) 2 0) 3 0) 16 0) 9 0) 10 0)) 61 (upd (upd (upd (upd (upd (upd (upd (upd (upd (upd (upd (upd (ev_I0 61) 0 (-1)) 1 (-1)) 2 (-1)) 3 (-1)) 4 (-1)) 5 (-1)) 6 (-1)) 7 (-1)) 8 (-1)) 9 (-1)) 10 (-1)) 11 (-1))) (ev_sJ (ev_sJ ev_J0 1 (vp_updL (vp_updL (vp_updL (ev_J0 1) 7 (((1 : Int64) <<< (((xs 1) * (xs 2)).toInt64 &&& 63)) - (1 : Int64))) 8 x125) 9 x126)) 8 (vp_updL (vp_updL (ev_J0 8) 2 0) 3 0)) ev_R0 []) cz kz := by
  intro G
  rfl
set_option maxRecDepth 100000 in
set_option maxHeartbeats 100000 in
theorem eo_grid_a_r78 (xs : Nat → Int32) (x125 : Int64) (x126 : Int64) (x127 : Nat → Int32) (q146 : Int32) (q149 : Int32) (cz kz : Nat) : ∀ G : ez_F, fx_up (4, xs) 2 G 241 20 [ez_scr, .ref 0, .ref 35, .int 4] [ez_scr, .int 4] (ev_hp (ev_sI (ev_sI (ev_sI (ev_sI (ev_sI (ev_sI (ev_sI (ev_sI (ev_sI (ev_sI ev_I0 1 (upd (upd (upd (upd (upd (upd (ev_I0 1) 3 (xs 1)) 4 (xs 2)) 5 0) 6 ((xs 1) * (xs 2))) 1 0) 2 0)) 3 (upd (ev_I0 3) 3 0)) 6 (upd (ev_I0 6) 4 0)) 8 (upd (ev_I0 8) 1 0)) 13 (upd (upd (ev_I0 13) 8 0) 9 0)) 20 (upd (ev_I0 20) 3 0)) 22 (upd (upd (ev_I0 22) 8 0) 11 (-1))) 33 x127) 35 (upd (upd (upd (upd (upd (upd (upd (ev_I0 35) 0 (xs 1)) 1 (xs 2)) 2 0) 3 0) 16 0) 9 0) 10 0)) 61 (upd (upd (upd (upd (upd (upd (upd (upd (upd (upd (upd (upd (ev_I0 61) 0 (-1)) 1 (-1)) 2 (-1)) 3 (-1)) 4 (-1)) 5 (-1)) 6 (-1)) 7 (-1)) 8 (-1)) 9 (-1)) 10 (-1)) 11 (-1))) (ev_sJ (ev_sJ ev_J0 1 (vp_updL (vp_updL (vp_updL (ev_J0 1) 7 (((1 : Int64) <<< (((xs 1) * (xs 2)).toInt64 &&& 63)) - (1 : Int64))) 8 x125) 9 x126)) 8 (vp_updL (vp_updL (ev_J0 8) 2 0) 3 0)) ev_R0 []) cz kz = G 241 22 [ez_scr, .ref 0, .ref 35, .int 4] [.int 4, .int 4, .int 4] (ev_hp (ev_sI (ev_sI (ev_sI (ev_sI (ev_sI (ev_sI (ev_sI (ev_sI (ev_sI (ev_sI ev_I0 1 (upd (upd (upd (upd (upd (upd (ev_I0 1) 3 (xs 1)) 4 (xs 2)) 5 0) 6 ((xs 1) * (xs 2))) 1 0) 2 0)) 3 (upd (ev_I0 3) 3 0)) 6 (upd (ev_I0 6) 4 0)) 8 (upd (ev_I0 8) 1 0)) 13 (upd (upd (ev_I0 13) 8 0) 9 0)) 20 (upd (ev_I0 20) 3 0)) 22 (upd (upd (ev_I0 22) 8 0) 11 (-1))) 33 x127) 35 (upd (upd (upd (upd (upd (upd (upd (ev_I0 35) 0 (xs 1)) 1 (xs 2)) 2 0) 3 0) 16 0) 9 0) 10 0)) 61 (upd (upd (upd (upd (upd (upd (upd (upd (upd (upd (upd (upd (ev_I0 61) 0 (-1)) 1 (-1)) 2 (-1)) 3 (-1)) 4 (-1)) 5 (-1)) 6 (-1)) 7 (-1)) 8 (-1)) 9 (-1)) 10 (-1)) 11 (-1))) (ev_sJ (ev_sJ ev_J0 1 (vp_updL (vp_updL (vp_updL (ev_J0 1) 7 (((1 : Int64) <<< (((xs 1) * (xs 2)).toInt64 &&& 63)) - (1 : Int64))) 8 x125) 9 x126)) 8 (vp_updL (vp_updL (ev_J0 8) 2 0) 3 0)) ev_R0 []) cz kz := by
  intro G
  rfl
set_option maxRecDepth 100000 in
set_option maxHeartbeats 100000 in
theorem eo_grid_a_r79 (xs : Nat → Int32) (x125 : Int64) (x126 : Int64) (x127 : Nat → Int32) (q146 : Int32) (q149 : Int32) (cz kz : Nat) : ∀ G : ez_F, fx_up (4, xs) 2 G 241 22 [ez_scr, .ref 0, .ref 35, .int 4] [.int 4, .int 4, .int 4] (ev_hp (ev_sI (ev_sI (ev_sI (ev_sI (ev_sI (ev_sI (ev_sI (ev_sI (ev_sI (ev_sI ev_I0 1 (upd (upd (upd (upd (upd (upd (ev_I0 1) 3 (xs 1)) 4 (xs 2)) 5 0) 6 ((xs 1) * (xs 2))) 1 0) 2 0)) 3 (upd (ev_I0 3) 3 0)) 6 (upd (ev_I0 6) 4 0)) 8 (upd (ev_I0 8) 1 0)) 13 (upd (upd (ev_I0 13) 8 0) 9 0)) 20 (upd (ev_I0 20) 3 0)) 22 (upd (upd (ev_I0 22) 8 0) 11 (-1))) 33 x127) 35 (upd (upd (upd (upd (upd (upd (upd (ev_I0 35) 0 (xs 1)) 1 (xs 2)) 2 0) 3 0) 16 0) 9 0) 10 0)) 61 (upd (upd (upd (upd (upd (upd (upd (upd (upd (upd (upd (upd (ev_I0 61) 0 (-1)) 1 (-1)) 2 (-1)) 3 (-1)) 4 (-1)) 5 (-1)) 6 (-1)) 7 (-1)) 8 (-1)) 9 (-1)) 10 (-1)) 11 (-1))) (ev_sJ (ev_sJ ev_J0 1 (vp_updL (vp_updL (vp_updL (ev_J0 1) 7 (((1 : Int64) <<< (((xs 1) * (xs 2)).toInt64 &&& 63)) - (1 : Int64))) 8 x125) 9 x126)) 8 (vp_updL (vp_updL (ev_J0 8) 2 0) 3 0)) ev_R0 []) cz kz = G 241 1081 [ez_scr, .ref 0, .ref 35, .int 4] [] (ev_hp (ev_sI (ev_sI (ev_sI (ev_sI (ev_sI (ev_sI (ev_sI (ev_sI (ev_sI (ev_sI ev_I0 1 (upd (upd (upd (upd (upd (upd (ev_I0 1) 3 (xs 1)) 4 (xs 2)) 5 0) 6 ((xs 1) * (xs 2))) 1 0) 2 0)) 3 (upd (ev_I0 3) 3 0)) 6 (upd (ev_I0 6) 4 0)) 8 (upd (ev_I0 8) 1 0)) 13 (upd (upd (ev_I0 13) 8 0) 9 0)) 20 (upd (ev_I0 20) 3 0)) 22 (upd (upd (ev_I0 22) 8 0) 11 (-1))) 33 x127) 35 (upd (upd (upd (upd (upd (upd (upd (ev_I0 35) 0 (xs 1)) 1 (xs 2)) 2 0) 3 0) 16 0) 9 0) 10 0)) 61 (upd (upd (upd (upd (upd (upd (upd (upd (upd (upd (upd (upd (ev_I0 61) 0 (-1)) 1 (-1)) 2 (-1)) 3 (-1)) 4 (-1)) 5 (-1)) 6 (-1)) 7 (-1)) 8 (-1)) 9 (-1)) 10 (-1)) 11 (-1))) (ev_sJ (ev_sJ ev_J0 1 (vp_updL (vp_updL (vp_updL (ev_J0 1) 7 (((1 : Int64) <<< (((xs 1) * (xs 2)).toInt64 &&& 63)) - (1 : Int64))) 8 x125) 9 x126)) 8 (vp_updL (vp_updL (ev_J0 8) 2 0) 3 0)) ev_R0 []) cz kz := by
  intro G
  rfl
set_option maxRecDepth 100000 in
set_option maxHeartbeats 100000 in
theorem eo_grid_a_r80 (xs : Nat → Int32) (x125 : Int64) (x126 : Int64) (x127 : Nat → Int32) (q146 : Int32) (q149 : Int32) (cz kz : Nat) : ∀ G : ez_F, fx_up (4, xs) 2 G 241 1081 [ez_scr, .ref 0, .ref 35, .int 4] [] (ev_hp (ev_sI (ev_sI (ev_sI (ev_sI (ev_sI (ev_sI (ev_sI (ev_sI (ev_sI (ev_sI ev_I0 1 (upd (upd (upd (upd (upd (upd (ev_I0 1) 3 (xs 1)) 4 (xs 2)) 5 0) 6 ((xs 1) * (xs 2))) 1 0) 2 0)) 3 (upd (ev_I0 3) 3 0)) 6 (upd (ev_I0 6) 4 0)) 8 (upd (ev_I0 8) 1 0)) 13 (upd (upd (ev_I0 13) 8 0) 9 0)) 20 (upd (ev_I0 20) 3 0)) 22 (upd (upd (ev_I0 22) 8 0) 11 (-1))) 33 x127) 35 (upd (upd (upd (upd (upd (upd (upd (ev_I0 35) 0 (xs 1)) 1 (xs 2)) 2 0) 3 0) 16 0) 9 0) 10 0)) 61 (upd (upd (upd (upd (upd (upd (upd (upd (upd (upd (upd (upd (ev_I0 61) 0 (-1)) 1 (-1)) 2 (-1)) 3 (-1)) 4 (-1)) 5 (-1)) 6 (-1)) 7 (-1)) 8 (-1)) 9 (-1)) 10 (-1)) 11 (-1))) (ev_sJ (ev_sJ ev_J0 1 (vp_updL (vp_updL (vp_updL (ev_J0 1) 7 (((1 : Int64) <<< (((xs 1) * (xs 2)).toInt64 &&& 63)) - (1 : Int64))) 8 x125) 9 x126)) 8 (vp_updL (vp_updL (ev_J0 8) 2 0) 3 0)) ev_R0 []) cz kz = some (some (.int 1), (ev_hp (ev_sI (ev_sI (ev_sI (ev_sI (ev_sI (ev_sI (ev_sI (ev_sI (ev_sI (ev_sI ev_I0 1 (upd (upd (upd (upd (upd (upd (ev_I0 1) 3 (xs 1)) 4 (xs 2)) 5 0) 6 ((xs 1) * (xs 2))) 1 0) 2 0)) 3 (upd (ev_I0 3) 3 0)) 6 (upd (ev_I0 6) 4 0)) 8 (upd (ev_I0 8) 1 0)) 13 (upd (upd (ev_I0 13) 8 0) 9 0)) 20 (upd (ev_I0 20) 3 0)) 22 (upd (upd (ev_I0 22) 8 0) 11 (-1))) 33 x127) 35 (upd (upd (upd (upd (upd (upd (upd (ev_I0 35) 0 (xs 1)) 1 (xs 2)) 2 0) 3 0) 16 0) 9 0) 10 0)) 61 (upd (upd (upd (upd (upd (upd (upd (upd (upd (upd (upd (upd (ev_I0 61) 0 (-1)) 1 (-1)) 2 (-1)) 3 (-1)) 4 (-1)) 5 (-1)) 6 (-1)) 7 (-1)) 8 (-1)) 9 (-1)) 10 (-1)) 11 (-1))) (ev_sJ (ev_sJ ev_J0 1 (vp_updL (vp_updL (vp_updL (ev_J0 1) 7 (((1 : Int64) <<< (((xs 1) * (xs 2)).toInt64 &&& 63)) - (1 : Int64))) 8 x125) 9 x126)) 8 (vp_updL (vp_updL (ev_J0 8) 2 0) 3 0)) ev_R0 []), cz, kz) := by
  intro G
  rfl
set_option maxRecDepth 100000 in
set_option maxHeartbeats 100000 in
theorem eo_grid_a_r81 (xs : Nat → Int32) (x125 : Int64) (x126 : Int64) (x127 : Nat → Int32) (q146 : Int32) (cz kz : Nat) : ∀ G : ez_F, fx_up (4, xs) 1 G 241 238 [ez_scr, .ref 0, .ref 35, .int 0] [.int (-3), .int q146] (ev_hp (ev_sI (ev_sI (ev_sI (ev_sI (ev_sI (ev_sI (ev_sI (ev_sI ev_I0 1 (upd (upd (upd (upd (upd (upd (ev_I0 1) 3 (xs 1)) 4 (xs 2)) 5 0) 6 ((xs 1) * (xs 2))) 1 0) 2 0)) 3 (upd (ev_I0 3) 3 0)) 6 (upd (ev_I0 6) 4 0)) 8 (upd (ev_I0 8) 1 0)) 13 (upd (upd (ev_I0 13) 8 0) 9 0)) 20 (upd (ev_I0 20) 3 0)) 22 (upd (upd (ev_I0 22) 8 0) 11 (-1))) 33 x127) (ev_sJ (ev_sJ ev_J0 1 (vp_updL (vp_updL (vp_updL (ev_J0 1) 7 (((1 : Int64) <<< (((xs 1) * (xs 2)).toInt64 &&& 63)) - (1 : Int64))) 8 x125) 9 x126)) 8 (vp_updL (vp_updL (ev_J0 8) 2 0) 3 0)) ev_R0 []) cz kz = bif decide (q146 = (-3)) then G 241 1075 [ez_scr, .ref 0, .ref 35, .int 0] [] (ev_hp (ev_sI (ev_sI (ev_sI (ev_sI (ev_sI (ev_sI (ev_sI (ev_sI ev_I0 1 (upd (upd (upd (upd (upd (upd (ev_I0 1) 3 (xs 1)) 4 (xs 2)) 5 0) 6 ((xs 1) * (xs 2))) 1 0) 2 0)) 3 (upd (ev_I0 3) 3 0)) 6 (upd (ev_I0 6) 4 0)) 8 (upd (ev_I0 8) 1 0)) 13 (upd (upd (ev_I0 13) 8 0) 9 0)) 20 (upd (ev_I0 20) 3 0)) 22 (upd (upd (ev_I0 22) 8 0) 11 (-1))) 33 x127) (ev_sJ (ev_sJ ev_J0 1 (vp_updL (vp_updL (vp_updL (ev_J0 1) 7 (((1 : Int64) <<< (((xs 1) * (xs 2)).toInt64 &&& 63)) - (1 : Int64))) 8 x125) 9 x126)) 8 (vp_updL (vp_updL (ev_J0 8) 2 0) 3 0)) ev_R0 []) cz kz else G 241 241 [ez_scr, .ref 0, .ref 35, .int 0] [] (ev_hp (ev_sI (ev_sI (ev_sI (ev_sI (ev_sI (ev_sI (ev_sI (ev_sI ev_I0 1 (upd (upd (upd (upd (upd (upd (ev_I0 1) 3 (xs 1)) 4 (xs 2)) 5 0) 6 ((xs 1) * (xs 2))) 1 0) 2 0)) 3 (upd (ev_I0 3) 3 0)) 6 (upd (ev_I0 6) 4 0)) 8 (upd (ev_I0 8) 1 0)) 13 (upd (upd (ev_I0 13) 8 0) 9 0)) 20 (upd (ev_I0 20) 3 0)) 22 (upd (upd (ev_I0 22) 8 0) 11 (-1))) 33 x127) (ev_sJ (ev_sJ ev_J0 1 (vp_updL (vp_updL (vp_updL (ev_J0 1) 7 (((1 : Int64) <<< (((xs 1) * (xs 2)).toInt64 &&& 63)) - (1 : Int64))) 8 x125) 9 x126)) 8 (vp_updL (vp_updL (ev_J0 8) 2 0) 3 0)) ev_R0 []) cz kz := by
  intro G
  rfl
set_option maxRecDepth 100000 in
set_option maxHeartbeats 100000 in
theorem eo_grid_a_r82 (xs : Nat → Int32) (x125 : Int64) (x126 : Int64) (x127 : Nat → Int32) (q146 : Int32) (cz kz : Nat) : ∀ G : ez_F, fx_up (4, xs) 2 G 241 1075 [ez_scr, .ref 0, .ref 35, .int 0] [] (ev_hp (ev_sI (ev_sI (ev_sI (ev_sI (ev_sI (ev_sI (ev_sI (ev_sI ev_I0 1 (upd (upd (upd (upd (upd (upd (ev_I0 1) 3 (xs 1)) 4 (xs 2)) 5 0) 6 ((xs 1) * (xs 2))) 1 0) 2 0)) 3 (upd (ev_I0 3) 3 0)) 6 (upd (ev_I0 6) 4 0)) 8 (upd (ev_I0 8) 1 0)) 13 (upd (upd (ev_I0 13) 8 0) 9 0)) 20 (upd (ev_I0 20) 3 0)) 22 (upd (upd (ev_I0 22) 8 0) 11 (-1))) 33 x127) (ev_sJ (ev_sJ ev_J0 1 (vp_updL (vp_updL (vp_updL (ev_J0 1) 7 (((1 : Int64) <<< (((xs 1) * (xs 2)).toInt64 &&& 63)) - (1 : Int64))) 8 x125) 9 x126)) 8 (vp_updL (vp_updL (ev_J0 8) 2 0) 3 0)) ev_R0 []) cz kz = G 241 18 [ez_scr, .ref 0, .ref 35, .int 4] [] (ev_hp (ev_sI (ev_sI (ev_sI (ev_sI (ev_sI (ev_sI (ev_sI (ev_sI ev_I0 1 (upd (upd (upd (upd (upd (upd (ev_I0 1) 3 (xs 1)) 4 (xs 2)) 5 0) 6 ((xs 1) * (xs 2))) 1 0) 2 0)) 3 (upd (ev_I0 3) 3 0)) 6 (upd (ev_I0 6) 4 0)) 8 (upd (ev_I0 8) 1 0)) 13 (upd (upd (ev_I0 13) 8 0) 9 0)) 20 (upd (ev_I0 20) 3 0)) 22 (upd (upd (ev_I0 22) 8 0) 11 (-1))) 33 x127) (ev_sJ (ev_sJ ev_J0 1 (vp_updL (vp_updL (vp_updL (ev_J0 1) 7 (((1 : Int64) <<< (((xs 1) * (xs 2)).toInt64 &&& 63)) - (1 : Int64))) 8 x125) 9 x126)) 8 (vp_updL (vp_updL (ev_J0 8) 2 0) 3 0)) ev_R0 []) cz kz := by
  intro G
  rfl
set_option maxRecDepth 100000 in
set_option maxHeartbeats 100000 in
theorem eo_grid_a_r83 (xs : Nat → Int32) (x125 : Int64) (x126 : Int64) (x127 : Nat → Int32) (q146 : Int32) (cz kz : Nat) : ∀ G : ez_F, fx_up (4, xs) 2 G 241 18 [ez_scr, .ref 0, .ref 35, .int 4] [] (ev_hp (ev_sI (ev_sI (ev_sI (ev_sI (ev_sI (ev_sI (ev_sI (ev_sI ev_I0 1 (upd (upd (upd (upd (upd (upd (ev_I0 1) 3 (xs 1)) 4 (xs 2)) 5 0) 6 ((xs 1) * (xs 2))) 1 0) 2 0)) 3 (upd (ev_I0 3) 3 0)) 6 (upd (ev_I0 6) 4 0)) 8 (upd (ev_I0 8) 1 0)) 13 (upd (upd (ev_I0 13) 8 0) 9 0)) 20 (upd (ev_I0 20) 3 0)) 22 (upd (upd (ev_I0 22) 8 0) 11 (-1))) 33 x127) (ev_sJ (ev_sJ ev_J0 1 (vp_updL (vp_updL (vp_updL (ev_J0 1) 7 (((1 : Int64) <<< (((xs 1) * (xs 2)).toInt64 &&& 63)) - (1 : Int64))) 8 x125) 9 x126)) 8 (vp_updL (vp_updL (ev_J0 8) 2 0) 3 0)) ev_R0 []) cz kz = G 241 20 [ez_scr, .ref 0, .ref 35, .int 4] [ez_scr, .int 4] (ev_hp (ev_sI (ev_sI (ev_sI (ev_sI (ev_sI (ev_sI (ev_sI (ev_sI ev_I0 1 (upd (upd (upd (upd (upd (upd (ev_I0 1) 3 (xs 1)) 4 (xs 2)) 5 0) 6 ((xs 1) * (xs 2))) 1 0) 2 0)) 3 (upd (ev_I0 3) 3 0)) 6 (upd (ev_I0 6) 4 0)) 8 (upd (ev_I0 8) 1 0)) 13 (upd (upd (ev_I0 13) 8 0) 9 0)) 20 (upd (ev_I0 20) 3 0)) 22 (upd (upd (ev_I0 22) 8 0) 11 (-1))) 33 x127) (ev_sJ (ev_sJ ev_J0 1 (vp_updL (vp_updL (vp_updL (ev_J0 1) 7 (((1 : Int64) <<< (((xs 1) * (xs 2)).toInt64 &&& 63)) - (1 : Int64))) 8 x125) 9 x126)) 8 (vp_updL (vp_updL (ev_J0 8) 2 0) 3 0)) ev_R0 []) cz kz := by
  intro G
  rfl
set_option maxRecDepth 100000 in
set_option maxHeartbeats 100000 in
theorem eo_grid_a_r84 (xs : Nat → Int32) (x125 : Int64) (x126 : Int64) (x127 : Nat → Int32) (q146 : Int32) (cz kz : Nat) : ∀ G : ez_F, fx_up (4, xs) 2 G 241 20 [ez_scr, .ref 0, .ref 35, .int 4] [ez_scr, .int 4] (ev_hp (ev_sI (ev_sI (ev_sI (ev_sI (ev_sI (ev_sI (ev_sI (ev_sI ev_I0 1 (upd (upd (upd (upd (upd (upd (ev_I0 1) 3 (xs 1)) 4 (xs 2)) 5 0) 6 ((xs 1) * (xs 2))) 1 0) 2 0)) 3 (upd (ev_I0 3) 3 0)) 6 (upd (ev_I0 6) 4 0)) 8 (upd (ev_I0 8) 1 0)) 13 (upd (upd (ev_I0 13) 8 0) 9 0)) 20 (upd (ev_I0 20) 3 0)) 22 (upd (upd (ev_I0 22) 8 0) 11 (-1))) 33 x127) (ev_sJ (ev_sJ ev_J0 1 (vp_updL (vp_updL (vp_updL (ev_J0 1) 7 (((1 : Int64) <<< (((xs 1) * (xs 2)).toInt64 &&& 63)) - (1 : Int64))) 8 x125) 9 x126)) 8 (vp_updL (vp_updL (ev_J0 8) 2 0) 3 0)) ev_R0 []) cz kz = G 241 22 [ez_scr, .ref 0, .ref 35, .int 4] [.int 4, .int 4, .int 4] (ev_hp (ev_sI (ev_sI (ev_sI (ev_sI (ev_sI (ev_sI (ev_sI (ev_sI ev_I0 1 (upd (upd (upd (upd (upd (upd (ev_I0 1) 3 (xs 1)) 4 (xs 2)) 5 0) 6 ((xs 1) * (xs 2))) 1 0) 2 0)) 3 (upd (ev_I0 3) 3 0)) 6 (upd (ev_I0 6) 4 0)) 8 (upd (ev_I0 8) 1 0)) 13 (upd (upd (ev_I0 13) 8 0) 9 0)) 20 (upd (ev_I0 20) 3 0)) 22 (upd (upd (ev_I0 22) 8 0) 11 (-1))) 33 x127) (ev_sJ (ev_sJ ev_J0 1 (vp_updL (vp_updL (vp_updL (ev_J0 1) 7 (((1 : Int64) <<< (((xs 1) * (xs 2)).toInt64 &&& 63)) - (1 : Int64))) 8 x125) 9 x126)) 8 (vp_updL (vp_updL (ev_J0 8) 2 0) 3 0)) ev_R0 []) cz kz := by
  intro G
  rfl
set_option maxRecDepth 100000 in
set_option maxHeartbeats 100000 in
theorem eo_grid_a_r85 (xs : Nat → Int32) (x125 : Int64) (x126 : Int64) (x127 : Nat → Int32) (q146 : Int32) (cz kz : Nat) : ∀ G : ez_F, fx_up (4, xs) 2 G 241 22 [ez_scr, .ref 0, .ref 35, .int 4] [.int 4, .int 4, .int 4] (ev_hp (ev_sI (ev_sI (ev_sI (ev_sI (ev_sI (ev_sI (ev_sI (ev_sI ev_I0 1 (upd (upd (upd (upd (upd (upd (ev_I0 1) 3 (xs 1)) 4 (xs 2)) 5 0) 6 ((xs 1) * (xs 2))) 1 0) 2 0)) 3 (upd (ev_I0 3) 3 0)) 6 (upd (ev_I0 6) 4 0)) 8 (upd (ev_I0 8) 1 0)) 13 (upd (upd (ev_I0 13) 8 0) 9 0)) 20 (upd (ev_I0 20) 3 0)) 22 (upd (upd (ev_I0 22) 8 0) 11 (-1))) 33 x127) (ev_sJ (ev_sJ ev_J0 1 (vp_updL (vp_updL (vp_updL (ev_J0 1) 7 (((1 : Int64) <<< (((xs 1) * (xs 2)).toInt64 &&& 63)) - (1 : Int64))) 8 x125) 9 x126)) 8 (vp_updL (vp_updL (ev_J0 8) 2 0) 3 0)) ev_R0 []) cz kz = G 241 1081 [ez_scr, .ref 0, .ref 35, .int 4] [] (ev_hp (ev_sI (ev_sI (ev_sI (ev_sI (ev_sI (ev_sI (ev_sI (ev_sI ev_I0 1 (upd (upd (upd (upd (upd (upd (ev_I0 1) 3 (xs 1)) 4 (xs 2)) 5 0) 6 ((xs 1) * (xs 2))) 1 0) 2 0)) 3 (upd (ev_I0 3) 3 0)) 6 (upd (ev_I0 6) 4 0)) 8 (upd (ev_I0 8) 1 0)) 13 (upd (upd (ev_I0 13) 8 0) 9 0)) 20 (upd (ev_I0 20) 3 0)) 22 (upd (upd (ev_I0 22) 8 0) 11 (-1))) 33 x127) (ev_sJ (ev_sJ ev_J0 1 (vp_updL (vp_updL (vp_updL (ev_J0 1) 7 (((1 : Int64) <<< (((xs 1) * (xs 2)).toInt64 &&& 63)) - (1 : Int64))) 8 x125) 9 x126)) 8 (vp_updL (vp_updL (ev_J0 8) 2 0) 3 0)) ev_R0 []) cz kz := by
  intro G
  rfl
set_option maxRecDepth 100000 in
set_option maxHeartbeats 100000 in
theorem eo_grid_a_r86 (xs : Nat → Int32) (x125 : Int64) (x126 : Int64) (x127 : Nat → Int32) (q146 : Int32) (cz kz : Nat) : ∀ G : ez_F, fx_up (4, xs) 2 G 241 1081 [ez_scr, .ref 0, .ref 35, .int 4] [] (ev_hp (ev_sI (ev_sI (ev_sI (ev_sI (ev_sI (ev_sI (ev_sI (ev_sI ev_I0 1 (upd (upd (upd (upd (upd (upd (ev_I0 1) 3 (xs 1)) 4 (xs 2)) 5 0) 6 ((xs 1) * (xs 2))) 1 0) 2 0)) 3 (upd (ev_I0 3) 3 0)) 6 (upd (ev_I0 6) 4 0)) 8 (upd (ev_I0 8) 1 0)) 13 (upd (upd (ev_I0 13) 8 0) 9 0)) 20 (upd (ev_I0 20) 3 0)) 22 (upd (upd (ev_I0 22) 8 0) 11 (-1))) 33 x127) (ev_sJ (ev_sJ ev_J0 1 (vp_updL (vp_updL (vp_updL (ev_J0 1) 7 (((1 : Int64) <<< (((xs 1) * (xs 2)).toInt64 &&& 63)) - (1 : Int64))) 8 x125) 9 x126)) 8 (vp_updL (vp_updL (ev_J0 8) 2 0) 3 0)) ev_R0 []) cz kz = some (some (.int 1), (ev_hp (ev_sI (ev_sI (ev_sI (ev_sI (ev_sI (ev_sI (ev_sI (ev_sI ev_I0 1 (upd (upd (upd (upd (upd (upd (ev_I0 1) 3 (xs 1)) 4 (xs 2)) 5 0) 6 ((xs 1) * (xs 2))) 1 0) 2 0)) 3 (upd (ev_I0 3) 3 0)) 6 (upd (ev_I0 6) 4 0)) 8 (upd (ev_I0 8) 1 0)) 13 (upd (upd (ev_I0 13) 8 0) 9 0)) 20 (upd (ev_I0 20) 3 0)) 22 (upd (upd (ev_I0 22) 8 0) 11 (-1))) 33 x127) (ev_sJ (ev_sJ ev_J0 1 (vp_updL (vp_updL (vp_updL (ev_J0 1) 7 (((1 : Int64) <<< (((xs 1) * (xs 2)).toInt64 &&& 63)) - (1 : Int64))) 8 x125) 9 x126)) 8 (vp_updL (vp_updL (ev_J0 8) 2 0) 3 0)) ev_R0 []), cz, kz) := by
  intro G
  rfl
set_option maxRecDepth 100000 in
set_option maxHeartbeats 100000 in
theorem eo_grid_a_r87 (xs : Nat → Int32) (x125 : Int64) (x126 : Int64) (x127 : Nat → Int32) (q146 : Int32) (cz kz : Nat) : ∀ G : ez_F, fx_up (4, xs) 2 G 241 230 [ez_scr, .ref 0, .ref 35, .int 0] [.int (xs 2), .int (xs 1), .ref 35, .int q146] (ev_hp (ev_sI (ev_sI (ev_sI (ev_sI (ev_sI (ev_sI (ev_sI (ev_sI ev_I0 1 (upd (upd (upd (upd (upd (upd (ev_I0 1) 3 (xs 1)) 4 (xs 2)) 5 0) 6 ((xs 1) * (xs 2))) 1 0) 2 0)) 3 (upd (ev_I0 3) 3 0)) 6 (upd (ev_I0 6) 4 0)) 8 (upd (ev_I0 8) 1 0)) 13 (upd (upd (ev_I0 13) 8 0) 9 0)) 20 (upd (ev_I0 20) 3 0)) 22 (upd (upd (ev_I0 22) 8 0) 11 (-1))) 33 x127) (ev_sJ (ev_sJ ev_J0 1 (vp_updL (vp_updL (vp_updL (ev_J0 1) 7 (((1 : Int64) <<< (((xs 1) * (xs 2)).toInt64 &&& 63)) - (1 : Int64))) 8 x125) 9 x126)) 8 (vp_updL (vp_updL (ev_J0 8) 2 0) 3 0)) ev_R0 []) cz kz = G 241 235 [ez_scr, .ref 0, .ref 35, .int 0] [.int 1, .int (xs 2), .int (xs 1), .ref 35, .int q146] (ev_hp (ev_sI (ev_sI (ev_sI (ev_sI (ev_sI (ev_sI (ev_sI (ev_sI ev_I0 1 (upd (upd (upd (upd (upd (upd (ev_I0 1) 3 (xs 1)) 4 (xs 2)) 5 0) 6 ((xs 1) * (xs 2))) 1 0) 2 0)) 3 (upd (ev_I0 3) 3 0)) 6 (upd (ev_I0 6) 4 0)) 8 (upd (ev_I0 8) 1 0)) 13 (upd (upd (ev_I0 13) 8 0) 9 0)) 20 (upd (ev_I0 20) 3 0)) 22 (upd (upd (ev_I0 22) 8 0) 11 (-1))) 33 x127) (ev_sJ (ev_sJ ev_J0 1 (vp_updL (vp_updL (vp_updL (ev_J0 1) 7 (((1 : Int64) <<< (((xs 1) * (xs 2)).toInt64 &&& 63)) - (1 : Int64))) 8 x125) 9 x126)) 8 (vp_updL (vp_updL (ev_J0 8) 2 0) 3 0)) ev_R0 []) cz kz := by
  intro G
  rfl
set_option maxRecDepth 100000 in
set_option maxHeartbeats 100000 in
theorem eo_grid_a_r88 (xs : Nat → Int32) (x125 : Int64) (x126 : Int64) (x127 : Nat → Int32) (q146 : Int32) (cz kz : Nat) : ∀ G : ez_F, fx_up (4, xs) 1 G 241 235 [ez_scr, .ref 0, .ref 35, .int 0] [.int 1, .int (xs 2), .int (xs 1), .ref 35, .int q146] (ev_hp (ev_sI (ev_sI (ev_sI (ev_sI (ev_sI (ev_sI (ev_sI (ev_sI ev_I0 1 (upd (upd (upd (upd (upd (upd (ev_I0 1) 3 (xs 1)) 4 (xs 2)) 5 0) 6 ((xs 1) * (xs 2))) 1 0) 2 0)) 3 (upd (ev_I0 3) 3 0)) 6 (upd (ev_I0 6) 4 0)) 8 (upd (ev_I0 8) 1 0)) 13 (upd (upd (ev_I0 13) 8 0) 9 0)) 20 (upd (ev_I0 20) 3 0)) 22 (upd (upd (ev_I0 22) 8 0) 11 (-1))) 33 x127) (ev_sJ (ev_sJ ev_J0 1 (vp_updL (vp_updL (vp_updL (ev_J0 1) 7 (((1 : Int64) <<< (((xs 1) * (xs 2)).toInt64 &&& 63)) - (1 : Int64))) 8 x125) 9 x126)) 8 (vp_updL (vp_updL (ev_J0 8) 2 0) 3 0)) ev_R0 []) cz kz = ev_C G 195 [.ref 35, .int (xs 1), .int (xs 2), .int 1] (ev_hp (ev_sI (ev_sI (ev_sI (ev_sI (ev_sI (ev_sI (ev_sI (ev_sI ev_I0 1 (upd (upd (upd (upd (upd (upd (ev_I0 1) 3 (xs 1)) 4 (xs 2)) 5 0) 6 ((xs 1) * (xs 2))) 1 0) 2 0)) 3 (upd (ev_I0 3) 3 0)) 6 (upd (ev_I0 6) 4 0)) 8 (upd (ev_I0 8) 1 0)) 13 (upd (upd (ev_I0 13) 8 0) 9 0)) 20 (upd (ev_I0 20) 3 0)) 22 (upd (upd (ev_I0 22) 8 0) 11 (-1))) 33 x127) (ev_sJ (ev_sJ ev_J0 1 (vp_updL (vp_updL (vp_updL (ev_J0 1) 7 (((1 : Int64) <<< (((xs 1) * (xs 2)).toInt64 &&& 63)) - (1 : Int64))) 8 x125) 9 x126)) 8 (vp_updL (vp_updL (ev_J0 8) 2 0) 3 0)) ev_R0 []) fun r h1 c1 k1 => G 241 238 [ez_scr, .ref 0, .ref 35, .int 0] (r.toList ++ [.int q146]) h1 (cz + c1) (kz + k1) := by
  intro G
  rfl
set_option maxRecDepth 100000 in
set_option maxHeartbeats 100000 in
theorem eo_grid_a_r89 (xs : Nat → Int32) (x125 : Int64) (x126 : Int64) (x127 : Nat → Int32) (q146 : Int32) (cz kz : Nat) : ∀ G : ez_F, fx_up (4, xs) 1 G 241 238 [ez_scr, .ref 0, .ref 35, .int 0] [.int (-3), .int q146] (ev_hp (ev_sI (ev_sI (ev_sI (ev_sI (ev_sI (ev_sI (ev_sI (ev_sI ev_I0 1 (upd (upd (upd (upd (upd (upd (ev_I0 1) 3 (xs 1)) 4 (xs 2)) 5 0) 6 ((xs 1) * (xs 2))) 1 0) 2 0)) 3 (upd (ev_I0 3) 3 0)) 6 (upd (ev_I0 6) 4 0)) 8 (upd (ev_I0 8) 1 0)) 13 (upd (upd (ev_I0 13) 8 0) 9 0)) 20 (upd (ev_I0 20) 3 0)) 22 (upd (upd (ev_I0 22) 8 0) 11 (-1))) 33 x127) (ev_sJ (ev_sJ ev_J0 1 (vp_updL (vp_updL (vp_updL (ev_J0 1) 7 (((1 : Int64) <<< (((xs 1) * (xs 2)).toInt64 &&& 63)) - (1 : Int64))) 8 x125) 9 x126)) 8 (vp_updL (vp_updL (ev_J0 8) 2 0) 3 0)) ev_R0 []) cz kz = bif decide (q146 = (-3)) then G 241 1075 [ez_scr, .ref 0, .ref 35, .int 0] [] (ev_hp (ev_sI (ev_sI (ev_sI (ev_sI (ev_sI (ev_sI (ev_sI (ev_sI ev_I0 1 (upd (upd (upd (upd (upd (upd (ev_I0 1) 3 (xs 1)) 4 (xs 2)) 5 0) 6 ((xs 1) * (xs 2))) 1 0) 2 0)) 3 (upd (ev_I0 3) 3 0)) 6 (upd (ev_I0 6) 4 0)) 8 (upd (ev_I0 8) 1 0)) 13 (upd (upd (ev_I0 13) 8 0) 9 0)) 20 (upd (ev_I0 20) 3 0)) 22 (upd (upd (ev_I0 22) 8 0) 11 (-1))) 33 x127) (ev_sJ (ev_sJ ev_J0 1 (vp_updL (vp_updL (vp_updL (ev_J0 1) 7 (((1 : Int64) <<< (((xs 1) * (xs 2)).toInt64 &&& 63)) - (1 : Int64))) 8 x125) 9 x126)) 8 (vp_updL (vp_updL (ev_J0 8) 2 0) 3 0)) ev_R0 []) cz kz else G 241 241 [ez_scr, .ref 0, .ref 35, .int 0] [] (ev_hp (ev_sI (ev_sI (ev_sI (ev_sI (ev_sI (ev_sI (ev_sI (ev_sI ev_I0 1 (upd (upd (upd (upd (upd (upd (ev_I0 1) 3 (xs 1)) 4 (xs 2)) 5 0) 6 ((xs 1) * (xs 2))) 1 0) 2 0)) 3 (upd (ev_I0 3) 3 0)) 6 (upd (ev_I0 6) 4 0)) 8 (upd (ev_I0 8) 1 0)) 13 (upd (upd (ev_I0 13) 8 0) 9 0)) 20 (upd (ev_I0 20) 3 0)) 22 (upd (upd (ev_I0 22) 8 0) 11 (-1))) 33 x127) (ev_sJ (ev_sJ ev_J0 1 (vp_updL (vp_updL (vp_updL (ev_J0 1) 7 (((1 : Int64) <<< (((xs 1) * (xs 2)).toInt64 &&& 63)) - (1 : Int64))) 8 x125) 9 x126)) 8 (vp_updL (vp_updL (ev_J0 8) 2 0) 3 0)) ev_R0 []) cz kz := by
  intro G
  rfl
set_option maxRecDepth 100000 in
set_option maxHeartbeats 100000 in
theorem eo_grid_a_r90 (xs : Nat → Int32) (x125 : Int64) (x126 : Int64) (x127 : Nat → Int32) (q146 : Int32) (cz kz : Nat) : ∀ G : ez_F, fx_up (4, xs) 2 G 241 1075 [ez_scr, .ref 0, .ref 35, .int 0] [] (ev_hp (ev_sI (ev_sI (ev_sI (ev_sI (ev_sI (ev_sI (ev_sI (ev_sI ev_I0 1 (upd (upd (upd (upd (upd (upd (ev_I0 1) 3 (xs 1)) 4 (xs 2)) 5 0) 6 ((xs 1) * (xs 2))) 1 0) 2 0)) 3 (upd (ev_I0 3) 3 0)) 6 (upd (ev_I0 6) 4 0)) 8 (upd (ev_I0 8) 1 0)) 13 (upd (upd (ev_I0 13) 8 0) 9 0)) 20 (upd (ev_I0 20) 3 0)) 22 (upd (upd (ev_I0 22) 8 0) 11 (-1))) 33 x127) (ev_sJ (ev_sJ ev_J0 1 (vp_updL (vp_updL (vp_updL (ev_J0 1) 7 (((1 : Int64) <<< (((xs 1) * (xs 2)).toInt64 &&& 63)) - (1 : Int64))) 8 x125) 9 x126)) 8 (vp_updL (vp_updL (ev_J0 8) 2 0) 3 0)) ev_R0 []) cz kz = G 241 18 [ez_scr, .ref 0, .ref 35, .int 4] [] (ev_hp (ev_sI (ev_sI (ev_sI (ev_sI (ev_sI (ev_sI (ev_sI (ev_sI ev_I0 1 (upd (upd (upd (upd (upd (upd (ev_I0 1) 3 (xs 1)) 4 (xs 2)) 5 0) 6 ((xs 1) * (xs 2))) 1 0) 2 0)) 3 (upd (ev_I0 3) 3 0)) 6 (upd (ev_I0 6) 4 0)) 8 (upd (ev_I0 8) 1 0)) 13 (upd (upd (ev_I0 13) 8 0) 9 0)) 20 (upd (ev_I0 20) 3 0)) 22 (upd (upd (ev_I0 22) 8 0) 11 (-1))) 33 x127) (ev_sJ (ev_sJ ev_J0 1 (vp_updL (vp_updL (vp_updL (ev_J0 1) 7 (((1 : Int64) <<< (((xs 1) * (xs 2)).toInt64 &&& 63)) - (1 : Int64))) 8 x125) 9 x126)) 8 (vp_updL (vp_updL (ev_J0 8) 2 0) 3 0)) ev_R0 []) cz kz := by
  intro G
  rfl
set_option maxRecDepth 100000 in
set_option maxHeartbeats 100000 in
theorem eo_grid_a_r91 (xs : Nat → Int32) (x125 : Int64) (x126 : Int64) (x127 : Nat → Int32) (q146 : Int32) (cz kz : Nat) : ∀ G : ez_F, fx_up (4, xs) 2 G 241 18 [ez_scr, .ref 0, .ref 35, .int 4] [] (ev_hp (ev_sI (ev_sI (ev_sI (ev_sI (ev_sI (ev_sI (ev_sI (ev_sI ev_I0 1 (upd (upd (upd (upd (upd (upd (ev_I0 1) 3 (xs 1)) 4 (xs 2)) 5 0) 6 ((xs 1) * (xs 2))) 1 0) 2 0)) 3 (upd (ev_I0 3) 3 0)) 6 (upd (ev_I0 6) 4 0)) 8 (upd (ev_I0 8) 1 0)) 13 (upd (upd (ev_I0 13) 8 0) 9 0)) 20 (upd (ev_I0 20) 3 0)) 22 (upd (upd (ev_I0 22) 8 0) 11 (-1))) 33 x127) (ev_sJ (ev_sJ ev_J0 1 (vp_updL (vp_updL (vp_updL (ev_J0 1) 7 (((1 : Int64) <<< (((xs 1) * (xs 2)).toInt64 &&& 63)) - (1 : Int64))) 8 x125) 9 x126)) 8 (vp_updL (vp_updL (ev_J0 8) 2 0) 3 0)) ev_R0 []) cz kz = G 241 20 [ez_scr, .ref 0, .ref 35, .int 4] [ez_scr, .int 4] (ev_hp (ev_sI (ev_sI (ev_sI (ev_sI (ev_sI (ev_sI (ev_sI (ev_sI ev_I0 1 (upd (upd (upd (upd (upd (upd (ev_I0 1) 3 (xs 1)) 4 (xs 2)) 5 0) 6 ((xs 1) * (xs 2))) 1 0) 2 0)) 3 (upd (ev_I0 3) 3 0)) 6 (upd (ev_I0 6) 4 0)) 8 (upd (ev_I0 8) 1 0)) 13 (upd (upd (ev_I0 13) 8 0) 9 0)) 20 (upd (ev_I0 20) 3 0)) 22 (upd (upd (ev_I0 22) 8 0) 11 (-1))) 33 x127) (ev_sJ (ev_sJ ev_J0 1 (vp_updL (vp_updL (vp_updL (ev_J0 1) 7 (((1 : Int64) <<< (((xs 1) * (xs 2)).toInt64 &&& 63)) - (1 : Int64))) 8 x125) 9 x126)) 8 (vp_updL (vp_updL (ev_J0 8) 2 0) 3 0)) ev_R0 []) cz kz := by
  intro G
  rfl
set_option maxRecDepth 100000 in
set_option maxHeartbeats 100000 in
theorem eo_grid_a_r92 (xs : Nat → Int32) (x125 : Int64) (x126 : Int64) (x127 : Nat → Int32) (q146 : Int32) (cz kz : Nat) : ∀ G : ez_F, fx_up (4, xs) 2 G 241 20 [ez_scr, .ref 0, .ref 35, .int 4] [ez_scr, .int 4] (ev_hp (ev_sI (ev_sI (ev_sI (ev_sI (ev_sI (ev_sI (ev_sI (ev_sI ev_I0 1 (upd (upd (upd (upd (upd (upd (ev_I0 1) 3 (xs 1)) 4 (xs 2)) 5 0) 6 ((xs 1) * (xs 2))) 1 0) 2 0)) 3 (upd (ev_I0 3) 3 0)) 6 (upd (ev_I0 6) 4 0)) 8 (upd (ev_I0 8) 1 0)) 13 (upd (upd (ev_I0 13) 8 0) 9 0)) 20 (upd (ev_I0 20) 3 0)) 22 (upd (upd (ev_I0 22) 8 0) 11 (-1))) 33 x127) (ev_sJ (ev_sJ ev_J0 1 (vp_updL (vp_updL (vp_updL (ev_J0 1) 7 (((1 : Int64) <<< (((xs 1) * (xs 2)).toInt64 &&& 63)) - (1 : Int64))) 8 x125) 9 x126)) 8 (vp_updL (vp_updL (ev_J0 8) 2 0) 3 0)) ev_R0 []) cz kz = G 241 22 [ez_scr, .ref 0, .ref 35, .int 4] [.int 4, .int 4, .int 4] (ev_hp (ev_sI (ev_sI (ev_sI (ev_sI (ev_sI (ev_sI (ev_sI (ev_sI ev_I0 1 (upd (upd (upd (upd (upd (upd (ev_I0 1) 3 (xs 1)) 4 (xs 2)) 5 0) 6 ((xs 1) * (xs 2))) 1 0) 2 0)) 3 (upd (ev_I0 3) 3 0)) 6 (upd (ev_I0 6) 4 0)) 8 (upd (ev_I0 8) 1 0)) 13 (upd (upd (ev_I0 13) 8 0) 9 0)) 20 (upd (ev_I0 20) 3 0)) 22 (upd (upd (ev_I0 22) 8 0) 11 (-1))) 33 x127) (ev_sJ (ev_sJ ev_J0 1 (vp_updL (vp_updL (vp_updL (ev_J0 1) 7 (((1 : Int64) <<< (((xs 1) * (xs 2)).toInt64 &&& 63)) - (1 : Int64))) 8 x125) 9 x126)) 8 (vp_updL (vp_updL (ev_J0 8) 2 0) 3 0)) ev_R0 []) cz kz := by
  intro G
  rfl
set_option maxRecDepth 100000 in
set_option maxHeartbeats 100000 in
theorem eo_grid_a_r93 (xs : Nat → Int32) (x125 : Int64) (x126 : Int64) (x127 : Nat → Int32) (q146 : Int32) (cz kz : Nat) : ∀ G : ez_F, fx_up (4, xs) 2 G 241 22 [ez_scr, .ref 0, .ref 35, .int 4] [.int 4, .int 4, .int 4] (ev_hp (ev_sI (ev_sI (ev_sI (ev_sI (ev_sI (ev_sI (ev_sI (ev_sI ev_I0 1 (upd (upd (upd (upd (upd (upd (ev_I0 1) 3 (xs 1)) 4 (xs 2)) 5 0) 6 ((xs 1) * (xs 2))) 1 0) 2 0)) 3 (upd (ev_I0 3) 3 0)) 6 (upd (ev_I0 6) 4 0)) 8 (upd (ev_I0 8) 1 0)) 13 (upd (upd (ev_I0 13) 8 0) 9 0)) 20 (upd (ev_I0 20) 3 0)) 22 (upd (upd (ev_I0 22) 8 0) 11 (-1))) 33 x127) (ev_sJ (ev_sJ ev_J0 1 (vp_updL (vp_updL (vp_updL (ev_J0 1) 7 (((1 : Int64) <<< (((xs 1) * (xs 2)).toInt64 &&& 63)) - (1 : Int64))) 8 x125) 9 x126)) 8 (vp_updL (vp_updL (ev_J0 8) 2 0) 3 0)) ev_R0 []) cz kz = G 241 1081 [ez_scr, .ref 0, .ref 35, .int 4] [] (ev_hp (ev_sI (ev_sI (ev_sI (ev_sI (ev_sI (ev_sI (ev_sI (ev_sI ev_I0 1 (upd (upd (upd (upd (upd (upd (ev_I0 1) 3 (xs 1)) 4 (xs 2)) 5 0) 6 ((xs 1) * (xs 2))) 1 0) 2 0)) 3 (upd (ev_I0 3) 3 0)) 6 (upd (ev_I0 6) 4 0)) 8 (upd (ev_I0 8) 1 0)) 13 (upd (upd (ev_I0 13) 8 0) 9 0)) 20 (upd (ev_I0 20) 3 0)) 22 (upd (upd (ev_I0 22) 8 0) 11 (-1))) 33 x127) (ev_sJ (ev_sJ ev_J0 1 (vp_updL (vp_updL (vp_updL (ev_J0 1) 7 (((1 : Int64) <<< (((xs 1) * (xs 2)).toInt64 &&& 63)) - (1 : Int64))) 8 x125) 9 x126)) 8 (vp_updL (vp_updL (ev_J0 8) 2 0) 3 0)) ev_R0 []) cz kz := by
  intro G
  rfl
set_option maxRecDepth 100000 in
set_option maxHeartbeats 100000 in
theorem eo_grid_a_r94 (xs : Nat → Int32) (x125 : Int64) (x126 : Int64) (x127 : Nat → Int32) (q146 : Int32) (cz kz : Nat) : ∀ G : ez_F, fx_up (4, xs) 2 G 241 1081 [ez_scr, .ref 0, .ref 35, .int 4] [] (ev_hp (ev_sI (ev_sI (ev_sI (ev_sI (ev_sI (ev_sI (ev_sI (ev_sI ev_I0 1 (upd (upd (upd (upd (upd (upd (ev_I0 1) 3 (xs 1)) 4 (xs 2)) 5 0) 6 ((xs 1) * (xs 2))) 1 0) 2 0)) 3 (upd (ev_I0 3) 3 0)) 6 (upd (ev_I0 6) 4 0)) 8 (upd (ev_I0 8) 1 0)) 13 (upd (upd (ev_I0 13) 8 0) 9 0)) 20 (upd (ev_I0 20) 3 0)) 22 (upd (upd (ev_I0 22) 8 0) 11 (-1))) 33 x127) (ev_sJ (ev_sJ ev_J0 1 (vp_updL (vp_updL (vp_updL (ev_J0 1) 7 (((1 : Int64) <<< (((xs 1) * (xs 2)).toInt64 &&& 63)) - (1 : Int64))) 8 x125) 9 x126)) 8 (vp_updL (vp_updL (ev_J0 8) 2 0) 3 0)) ev_R0 []) cz kz = some (some (.int 1), (ev_hp (ev_sI (ev_sI (ev_sI (ev_sI (ev_sI (ev_sI (ev_sI (ev_sI ev_I0 1 (upd (upd (upd (upd (upd (upd (ev_I0 1) 3 (xs 1)) 4 (xs 2)) 5 0) 6 ((xs 1) * (xs 2))) 1 0) 2 0)) 3 (upd (ev_I0 3) 3 0)) 6 (upd (ev_I0 6) 4 0)) 8 (upd (ev_I0 8) 1 0)) 13 (upd (upd (ev_I0 13) 8 0) 9 0)) 20 (upd (ev_I0 20) 3 0)) 22 (upd (upd (ev_I0 22) 8 0) 11 (-1))) 33 x127) (ev_sJ (ev_sJ ev_J0 1 (vp_updL (vp_updL (vp_updL (ev_J0 1) 7 (((1 : Int64) <<< (((xs 1) * (xs 2)).toInt64 &&& 63)) - (1 : Int64))) 8 x125) 9 x126)) 8 (vp_updL (vp_updL (ev_J0 8) 2 0) 3 0)) ev_R0 []), cz, kz) := by
  intro G
  rfl
set_option maxRecDepth 100000 in
set_option maxHeartbeats 100000 in
theorem eo_grid_a_r95 (xs : Nat → Int32) (x125 : Int64) (x126 : Int64) (x127 : Nat → Int32) (q146 : Int32) (q150 : Int32) (cz kz : Nat) : ∀ G : ez_F, fx_up (4, xs) 1 G 241 238 [ez_scr, .ref 0, .ref 35, .int 0] [.int q150, .int q146] (ev_hp (ev_sI (ev_sI (ev_sI (ev_sI (ev_sI (ev_sI (ev_sI (ev_sI (ev_sI (ev_sI ev_I0 1 (upd (upd (upd (upd (upd (upd (ev_I0 1) 3 (xs 1)) 4 (xs 2)) 5 0) 6 ((xs 1) * (xs 2))) 1 0) 2 0)) 3 (upd (ev_I0 3) 3 0)) 6 (upd (ev_I0 6) 4 0)) 8 (upd (ev_I0 8) 1 0)) 13 (upd (upd (ev_I0 13) 8 0) 9 0)) 20 (upd (ev_I0 20) 3 0)) 22 (upd (upd (ev_I0 22) 8 0) 11 (-1))) 33 x127) 35 (upd (upd (upd (upd (upd (upd (upd (ev_I0 35) 0 (xs 1)) 1 (xs 2)) 2 1) 3 0) 16 0) 9 0) 10 0)) 61 (upd (upd (upd (upd (upd (upd (upd (upd (upd (upd (upd (upd (ev_I0 61) 0 (-1)) 1 (-1)) 2 (-1)) 3 (-1)) 4 (-1)) 5 (-1)) 6 (-1)) 7 (-1)) 8 (-1)) 9 (-1)) 10 (-1)) 11 (-1))) (ev_sJ (ev_sJ ev_J0 1 (vp_updL (vp_updL (vp_updL (ev_J0 1) 7 (((1 : Int64) <<< (((xs 1) * (xs 2)).toInt64 &&& 63)) - (1 : Int64))) 8 x125) 9 x126)) 8 (vp_updL (vp_updL (ev_J0 8) 2 0) 3 0)) ev_R0 []) cz kz = bif decide (q146 = q150) then G 241 1075 [ez_scr, .ref 0, .ref 35, .int 0] [] (ev_hp (ev_sI (ev_sI (ev_sI (ev_sI (ev_sI (ev_sI (ev_sI (ev_sI (ev_sI (ev_sI ev_I0 1 (upd (upd (upd (upd (upd (upd (ev_I0 1) 3 (xs 1)) 4 (xs 2)) 5 0) 6 ((xs 1) * (xs 2))) 1 0) 2 0)) 3 (upd (ev_I0 3) 3 0)) 6 (upd (ev_I0 6) 4 0)) 8 (upd (ev_I0 8) 1 0)) 13 (upd (upd (ev_I0 13) 8 0) 9 0)) 20 (upd (ev_I0 20) 3 0)) 22 (upd (upd (ev_I0 22) 8 0) 11 (-1))) 33 x127) 35 (upd (upd (upd (upd (upd (upd (upd (ev_I0 35) 0 (xs 1)) 1 (xs 2)) 2 1) 3 0) 16 0) 9 0) 10 0)) 61 (upd (upd (upd (upd (upd (upd (upd (upd (upd (upd (upd (upd (ev_I0 61) 0 (-1)) 1 (-1)) 2 (-1)) 3 (-1)) 4 (-1)) 5 (-1)) 6 (-1)) 7 (-1)) 8 (-1)) 9 (-1)) 10 (-1)) 11 (-1))) (ev_sJ (ev_sJ ev_J0 1 (vp_updL (vp_updL (vp_updL (ev_J0 1) 7 (((1 : Int64) <<< (((xs 1) * (xs 2)).toInt64 &&& 63)) - (1 : Int64))) 8 x125) 9 x126)) 8 (vp_updL (vp_updL (ev_J0 8) 2 0) 3 0)) ev_R0 []) cz kz else G 241 241 [ez_scr, .ref 0, .ref 35, .int 0] [] (ev_hp (ev_sI (ev_sI (ev_sI (ev_sI (ev_sI (ev_sI (ev_sI (ev_sI (ev_sI (ev_sI ev_I0 1 (upd (upd (upd (upd (upd (upd (ev_I0 1) 3 (xs 1)) 4 (xs 2)) 5 0) 6 ((xs 1) * (xs 2))) 1 0) 2 0)) 3 (upd (ev_I0 3) 3 0)) 6 (upd (ev_I0 6) 4 0)) 8 (upd (ev_I0 8) 1 0)) 13 (upd (upd (ev_I0 13) 8 0) 9 0)) 20 (upd (ev_I0 20) 3 0)) 22 (upd (upd (ev_I0 22) 8 0) 11 (-1))) 33 x127) 35 (upd (upd (upd (upd (upd (upd (upd (ev_I0 35) 0 (xs 1)) 1 (xs 2)) 2 1) 3 0) 16 0) 9 0) 10 0)) 61 (upd (upd (upd (upd (upd (upd (upd (upd (upd (upd (upd (upd (ev_I0 61) 0 (-1)) 1 (-1)) 2 (-1)) 3 (-1)) 4 (-1)) 5 (-1)) 6 (-1)) 7 (-1)) 8 (-1)) 9 (-1)) 10 (-1)) 11 (-1))) (ev_sJ (ev_sJ ev_J0 1 (vp_updL (vp_updL (vp_updL (ev_J0 1) 7 (((1 : Int64) <<< (((xs 1) * (xs 2)).toInt64 &&& 63)) - (1 : Int64))) 8 x125) 9 x126)) 8 (vp_updL (vp_updL (ev_J0 8) 2 0) 3 0)) ev_R0 []) cz kz := by
  intro G
  rfl
set_option maxRecDepth 100000 in
set_option maxHeartbeats 100000 in
theorem eo_grid_a_r96 (xs : Nat → Int32) (x125 : Int64) (x126 : Int64) (x127 : Nat → Int32) (q146 : Int32) (q150 : Int32) (cz kz : Nat) : ∀ G : ez_F, fx_up (4, xs) 2 G 241 1075 [ez_scr, .ref 0, .ref 35, .int 0] [] (ev_hp (ev_sI (ev_sI (ev_sI (ev_sI (ev_sI (ev_sI (ev_sI (ev_sI (ev_sI (ev_sI ev_I0 1 (upd (upd (upd (upd (upd (upd (ev_I0 1) 3 (xs 1)) 4 (xs 2)) 5 0) 6 ((xs 1) * (xs 2))) 1 0) 2 0)) 3 (upd (ev_I0 3) 3 0)) 6 (upd (ev_I0 6) 4 0)) 8 (upd (ev_I0 8) 1 0)) 13 (upd (upd (ev_I0 13) 8 0) 9 0)) 20 (upd (ev_I0 20) 3 0)) 22 (upd (upd (ev_I0 22) 8 0) 11 (-1))) 33 x127) 35 (upd (upd (upd (upd (upd (upd (upd (ev_I0 35) 0 (xs 1)) 1 (xs 2)) 2 1) 3 0) 16 0) 9 0) 10 0)) 61 (upd (upd (upd (upd (upd (upd (upd (upd (upd (upd (upd (upd (ev_I0 61) 0 (-1)) 1 (-1)) 2 (-1)) 3 (-1)) 4 (-1)) 5 (-1)) 6 (-1)) 7 (-1)) 8 (-1)) 9 (-1)) 10 (-1)) 11 (-1))) (ev_sJ (ev_sJ ev_J0 1 (vp_updL (vp_updL (vp_updL (ev_J0 1) 7 (((1 : Int64) <<< (((xs 1) * (xs 2)).toInt64 &&& 63)) - (1 : Int64))) 8 x125) 9 x126)) 8 (vp_updL (vp_updL (ev_J0 8) 2 0) 3 0)) ev_R0 []) cz kz = G 241 18 [ez_scr, .ref 0, .ref 35, .int 4] [] (ev_hp (ev_sI (ev_sI (ev_sI (ev_sI (ev_sI (ev_sI (ev_sI (ev_sI (ev_sI (ev_sI ev_I0 1 (upd (upd (upd (upd (upd (upd (ev_I0 1) 3 (xs 1)) 4 (xs 2)) 5 0) 6 ((xs 1) * (xs 2))) 1 0) 2 0)) 3 (upd (ev_I0 3) 3 0)) 6 (upd (ev_I0 6) 4 0)) 8 (upd (ev_I0 8) 1 0)) 13 (upd (upd (ev_I0 13) 8 0) 9 0)) 20 (upd (ev_I0 20) 3 0)) 22 (upd (upd (ev_I0 22) 8 0) 11 (-1))) 33 x127) 35 (upd (upd (upd (upd (upd (upd (upd (ev_I0 35) 0 (xs 1)) 1 (xs 2)) 2 1) 3 0) 16 0) 9 0) 10 0)) 61 (upd (upd (upd (upd (upd (upd (upd (upd (upd (upd (upd (upd (ev_I0 61) 0 (-1)) 1 (-1)) 2 (-1)) 3 (-1)) 4 (-1)) 5 (-1)) 6 (-1)) 7 (-1)) 8 (-1)) 9 (-1)) 10 (-1)) 11 (-1))) (ev_sJ (ev_sJ ev_J0 1 (vp_updL (vp_updL (vp_updL (ev_J0 1) 7 (((1 : Int64) <<< (((xs 1) * (xs 2)).toInt64 &&& 63)) - (1 : Int64))) 8 x125) 9 x126)) 8 (vp_updL (vp_updL (ev_J0 8) 2 0) 3 0)) ev_R0 []) cz kz := by
  intro G
  rfl
set_option maxRecDepth 100000 in
set_option maxHeartbeats 100000 in
theorem eo_grid_a_r97 (xs : Nat → Int32) (x125 : Int64) (x126 : Int64) (x127 : Nat → Int32) (q146 : Int32) (q150 : Int32) (cz kz : Nat) : ∀ G : ez_F, fx_up (4, xs) 2 G 241 18 [ez_scr, .ref 0, .ref 35, .int 4] [] (ev_hp (ev_sI (ev_sI (ev_sI (ev_sI (ev_sI (ev_sI (ev_sI (ev_sI (ev_sI (ev_sI ev_I0 1 (upd (upd (upd (upd (upd (upd (ev_I0 1) 3 (xs 1)) 4 (xs 2)) 5 0) 6 ((xs 1) * (xs 2))) 1 0) 2 0)) 3 (upd (ev_I0 3) 3 0)) 6 (upd (ev_I0 6) 4 0)) 8 (upd (ev_I0 8) 1 0)) 13 (upd (upd (ev_I0 13) 8 0) 9 0)) 20 (upd (ev_I0 20) 3 0)) 22 (upd (upd (ev_I0 22) 8 0) 11 (-1))) 33 x127) 35 (upd (upd (upd (upd (upd (upd (upd (ev_I0 35) 0 (xs 1)) 1 (xs 2)) 2 1) 3 0) 16 0) 9 0) 10 0)) 61 (upd (upd (upd (upd (upd (upd (upd (upd (upd (upd (upd (upd (ev_I0 61) 0 (-1)) 1 (-1)) 2 (-1)) 3 (-1)) 4 (-1)) 5 (-1)) 6 (-1)) 7 (-1)) 8 (-1)) 9 (-1)) 10 (-1)) 11 (-1))) (ev_sJ (ev_sJ ev_J0 1 (vp_updL (vp_updL (vp_updL (ev_J0 1) 7 (((1 : Int64) <<< (((xs 1) * (xs 2)).toInt64 &&& 63)) - (1 : Int64))) 8 x125) 9 x126)) 8 (vp_updL (vp_updL (ev_J0 8) 2 0) 3 0)) ev_R0 []) cz kz = G 241 20 [ez_scr, .ref 0, .ref 35, .int 4] [ez_scr, .int 4] (ev_hp (ev_sI (ev_sI (ev_sI (ev_sI (ev_sI (ev_sI (ev_sI (ev_sI (ev_sI (ev_sI ev_I0 1 (upd (upd (upd (upd (upd (upd (ev_I0 1) 3 (xs 1)) 4 (xs 2)) 5 0) 6 ((xs 1) * (xs 2))) 1 0) 2 0)) 3 (upd (ev_I0 3) 3 0)) 6 (upd (ev_I0 6) 4 0)) 8 (upd (ev_I0 8) 1 0)) 13 (upd (upd (ev_I0 13) 8 0) 9 0)) 20 (upd (ev_I0 20) 3 0)) 22 (upd (upd (ev_I0 22) 8 0) 11 (-1))) 33 x127) 35 (upd (upd (upd (upd (upd (upd (upd (ev_I0 35) 0 (xs 1)) 1 (xs 2)) 2 1) 3 0) 16 0) 9 0) 10 0)) 61 (upd (upd (upd (upd (upd (upd (upd (upd (upd (upd (upd (upd (ev_I0 61) 0 (-1)) 1 (-1)) 2 (-1)) 3 (-1)) 4 (-1)) 5 (-1)) 6 (-1)) 7 (-1)) 8 (-1)) 9 (-1)) 10 (-1)) 11 (-1))) (ev_sJ (ev_sJ ev_J0 1 (vp_updL (vp_updL (vp_updL (ev_J0 1) 7 (((1 : Int64) <<< (((xs 1) * (xs 2)).toInt64 &&& 63)) - (1 : Int64))) 8 x125) 9 x126)) 8 (vp_updL (vp_updL (ev_J0 8) 2 0) 3 0)) ev_R0 []) cz kz := by
  intro G
  rfl
set_option maxRecDepth 100000 in
set_option maxHeartbeats 100000 in
theorem eo_grid_a_r98 (xs : Nat → Int32) (x125 : Int64) (x126 : Int64) (x127 : Nat → Int32) (q146 : Int32) (q150 : Int32) (cz kz : Nat) : ∀ G : ez_F, fx_up (4, xs) 2 G 241 20 [ez_scr, .ref 0, .ref 35, .int 4] [ez_scr, .int 4] (ev_hp (ev_sI (ev_sI (ev_sI (ev_sI (ev_sI (ev_sI (ev_sI (ev_sI (ev_sI (ev_sI ev_I0 1 (upd (upd (upd (upd (upd (upd (ev_I0 1) 3 (xs 1)) 4 (xs 2)) 5 0) 6 ((xs 1) * (xs 2))) 1 0) 2 0)) 3 (upd (ev_I0 3) 3 0)) 6 (upd (ev_I0 6) 4 0)) 8 (upd (ev_I0 8) 1 0)) 13 (upd (upd (ev_I0 13) 8 0) 9 0)) 20 (upd (ev_I0 20) 3 0)) 22 (upd (upd (ev_I0 22) 8 0) 11 (-1))) 33 x127) 35 (upd (upd (upd (upd (upd (upd (upd (ev_I0 35) 0 (xs 1)) 1 (xs 2)) 2 1) 3 0) 16 0) 9 0) 10 0)) 61 (upd (upd (upd (upd (upd (upd (upd (upd (upd (upd (upd (upd (ev_I0 61) 0 (-1)) 1 (-1)) 2 (-1)) 3 (-1)) 4 (-1)) 5 (-1)) 6 (-1)) 7 (-1)) 8 (-1)) 9 (-1)) 10 (-1)) 11 (-1))) (ev_sJ (ev_sJ ev_J0 1 (vp_updL (vp_updL (vp_updL (ev_J0 1) 7 (((1 : Int64) <<< (((xs 1) * (xs 2)).toInt64 &&& 63)) - (1 : Int64))) 8 x125) 9 x126)) 8 (vp_updL (vp_updL (ev_J0 8) 2 0) 3 0)) ev_R0 []) cz kz = G 241 22 [ez_scr, .ref 0, .ref 35, .int 4] [.int 4, .int 4, .int 4] (ev_hp (ev_sI (ev_sI (ev_sI (ev_sI (ev_sI (ev_sI (ev_sI (ev_sI (ev_sI (ev_sI ev_I0 1 (upd (upd (upd (upd (upd (upd (ev_I0 1) 3 (xs 1)) 4 (xs 2)) 5 0) 6 ((xs 1) * (xs 2))) 1 0) 2 0)) 3 (upd (ev_I0 3) 3 0)) 6 (upd (ev_I0 6) 4 0)) 8 (upd (ev_I0 8) 1 0)) 13 (upd (upd (ev_I0 13) 8 0) 9 0)) 20 (upd (ev_I0 20) 3 0)) 22 (upd (upd (ev_I0 22) 8 0) 11 (-1))) 33 x127) 35 (upd (upd (upd (upd (upd (upd (upd (ev_I0 35) 0 (xs 1)) 1 (xs 2)) 2 1) 3 0) 16 0) 9 0) 10 0)) 61 (upd (upd (upd (upd (upd (upd (upd (upd (upd (upd (upd (upd (ev_I0 61) 0 (-1)) 1 (-1)) 2 (-1)) 3 (-1)) 4 (-1)) 5 (-1)) 6 (-1)) 7 (-1)) 8 (-1)) 9 (-1)) 10 (-1)) 11 (-1))) (ev_sJ (ev_sJ ev_J0 1 (vp_updL (vp_updL (vp_updL (ev_J0 1) 7 (((1 : Int64) <<< (((xs 1) * (xs 2)).toInt64 &&& 63)) - (1 : Int64))) 8 x125) 9 x126)) 8 (vp_updL (vp_updL (ev_J0 8) 2 0) 3 0)) ev_R0 []) cz kz := by
  intro G
  rfl
set_option maxRecDepth 100000 in
set_option maxHeartbeats 100000 in
theorem eo_grid_a_r99 (xs : Nat → Int32) (x125 : Int64) (x126 : Int64) (x127 : Nat → Int32) (q146 : Int32) (q150 : Int32) (cz kz : Nat) : ∀ G : ez_F, fx_up (4, xs) 2 G 241 22 [ez_scr, .ref 0, .ref 35, .int 4] [.int 4, .int 4, .int 4] (ev_hp (ev_sI (ev_sI (ev_sI (ev_sI (ev_sI (ev_sI (ev_sI (ev_sI (ev_sI (ev_sI ev_I0 1 (upd (upd (upd (upd (upd (upd (ev_I0 1) 3 (xs 1)) 4 (xs 2)) 5 0) 6 ((xs 1) * (xs 2))) 1 0) 2 0)) 3 (upd (ev_I0 3) 3 0)) 6 (upd (ev_I0 6) 4 0)) 8 (upd (ev_I0 8) 1 0)) 13 (upd (upd (ev_I0 13) 8 0) 9 0)) 20 (upd (ev_I0 20) 3 0)) 22 (upd (upd (ev_I0 22) 8 0) 11 (-1))) 33 x127) 35 (upd (upd (upd (upd (upd (upd (upd (ev_I0 35) 0 (xs 1)) 1 (xs 2)) 2 1) 3 0) 16 0) 9 0) 10 0)) 61 (upd (upd (upd (upd (upd (upd (upd (upd (upd (upd (upd (upd (ev_I0 61) 0 (-1)) 1 (-1)) 2 (-1)) 3 (-1)) 4 (-1)) 5 (-1)) 6 (-1)) 7 (-1)) 8 (-1)) 9 (-1)) 10 (-1)) 11 (-1))) (ev_sJ (ev_sJ ev_J0 1 (vp_updL (vp_updL (vp_updL (ev_J0 1) 7 (((1 : Int64) <<< (((xs 1) * (xs 2)).toInt64 &&& 63)) - (1 : Int64))) 8 x125) 9 x126)) 8 (vp_updL (vp_updL (ev_J0 8) 2 0) 3 0)) ev_R0 []) cz kz = G 241 1081 [ez_scr, .ref 0, .ref 35, .int 4] [] (ev_hp (ev_sI (ev_sI (ev_sI (ev_sI (ev_sI (ev_sI (ev_sI (ev_sI (ev_sI (ev_sI ev_I0 1 (upd (upd (upd (upd (upd (upd (ev_I0 1) 3 (xs 1)) 4 (xs 2)) 5 0) 6 ((xs 1) * (xs 2))) 1 0) 2 0)) 3 (upd (ev_I0 3) 3 0)) 6 (upd (ev_I0 6) 4 0)) 8 (upd (ev_I0 8) 1 0)) 13 (upd (upd (ev_I0 13) 8 0) 9 0)) 20 (upd (ev_I0 20) 3 0)) 22 (upd (upd (ev_I0 22) 8 0) 11 (-1))) 33 x127) 35 (upd (upd (upd (upd (upd (upd (upd (ev_I0 35) 0 (xs 1)) 1 (xs 2)) 2 1) 3 0) 16 0) 9 0) 10 0)) 61 (upd (upd (upd (upd (upd (upd (upd (upd (upd (upd (upd (upd (ev_I0 61) 0 (-1)) 1 (-1)) 2 (-1)) 3 (-1)) 4 (-1)) 5 (-1)) 6 (-1)) 7 (-1)) 8 (-1)) 9 (-1)) 10 (-1)) 11 (-1))) (ev_sJ (ev_sJ ev_J0 1 (vp_updL (vp_updL (vp_updL (ev_J0 1) 7 (((1 : Int64) <<< (((xs 1) * (xs 2)).toInt64 &&& 63)) - (1 : Int64))) 8 x125) 9 x126)) 8 (vp_updL (vp_updL (ev_J0 8) 2 0) 3 0)) ev_R0 []) cz kz := by
  intro G
  rfl
set_option maxRecDepth 100000 in
set_option maxHeartbeats 100000 in
theorem eo_grid_a_r100 (xs : Nat → Int32) (x125 : Int64) (x126 : Int64) (x127 : Nat → Int32) (q146 : Int32) (q150 : Int32) (cz kz : Nat) : ∀ G : ez_F, fx_up (4, xs) 2 G 241 1081 [ez_scr, .ref 0, .ref 35, .int 4] [] (ev_hp (ev_sI (ev_sI (ev_sI (ev_sI (ev_sI (ev_sI (ev_sI (ev_sI (ev_sI (ev_sI ev_I0 1 (upd (upd (upd (upd (upd (upd (ev_I0 1) 3 (xs 1)) 4 (xs 2)) 5 0) 6 ((xs 1) * (xs 2))) 1 0) 2 0)) 3 (upd (ev_I0 3) 3 0)) 6 (upd (ev_I0 6) 4 0)) 8 (upd (ev_I0 8) 1 0)) 13 (upd (upd (ev_I0 13) 8 0) 9 0)) 20 (upd (ev_I0 20) 3 0)) 22 (upd (upd (ev_I0 22) 8 0) 11 (-1))) 33 x127) 35 (upd (upd (upd (upd (upd (upd (upd (ev_I0 35) 0 (xs 1)) 1 (xs 2)) 2 1) 3 0) 16 0) 9 0) 10 0)) 61 (upd (upd (upd (upd (upd (upd (upd (upd (upd (upd (upd (upd (ev_I0 61) 0 (-1)) 1 (-1)) 2 (-1)) 3 (-1)) 4 (-1)) 5 (-1)) 6 (-1)) 7 (-1)) 8 (-1)) 9 (-1)) 10 (-1)) 11 (-1))) (ev_sJ (ev_sJ ev_J0 1 (vp_updL (vp_updL (vp_updL (ev_J0 1) 7 (((1 : Int64) <<< (((xs 1) * (xs 2)).toInt64 &&& 63)) - (1 : Int64))) 8 x125) 9 x126)) 8 (vp_updL (vp_updL (ev_J0 8) 2 0) 3 0)) ev_R0 []) cz kz = some (some (.int 1), (ev_hp (ev_sI (ev_sI (ev_sI (ev_sI (ev_sI (ev_sI (ev_sI (ev_sI (ev_sI (ev_sI ev_I0 1 (upd (upd (upd (upd (upd (upd (ev_I0 1) 3 (xs 1)) 4 (xs 2)) 5 0) 6 ((xs 1) * (xs 2))) 1 0) 2 0)) 3 (upd (ev_I0 3) 3 0)) 6 (upd (ev_I0 6) 4 0)) 8 (upd (ev_I0 8) 1 0)) 13 (upd (upd (ev_I0 13) 8 0) 9 0)) 20 (upd (ev_I0 20) 3 0)) 22 (upd (upd (ev_I0 22) 8 0) 11 (-1))) 33 x127) 35 (upd (upd (upd (upd (upd (upd (upd (ev_I0 35) 0 (xs 1)) 1 (xs 2)) 2 1) 3 0) 16 0) 9 0) 10 0)) 61 (upd (upd (upd (upd (upd (upd (upd (upd (upd (upd (upd (upd (ev_I0 61) 0 (-1)) 1 (-1)) 2 (-1)) 3 (-1)) 4 (-1)) 5 (-1)) 6 (-1)) 7 (-1)) 8 (-1)) 9 (-1)) 10 (-1)) 11 (-1))) (ev_sJ (ev_sJ ev_J0 1 (vp_updL (vp_updL (vp_updL (ev_J0 1) 7 (((1 : Int64) <<< (((xs 1) * (xs 2)).toInt64 &&& 63)) - (1 : Int64))) 8 x125) 9 x126)) 8 (vp_updL (vp_updL (ev_J0 8) 2 0) 3 0)) ev_R0 []), cz, kz) := by
  intro G
  rfl
set_option maxRecDepth 100000 in
set_option maxHeartbeats 100000 in
theorem eo_grid_a_r101 (xs : Nat → Int32) (x125 : Int64) (x126 : Int64) (x127 : Nat → Int32) (q146 : Int32) (cz kz : Nat) : ∀ G : ez_F, fx_up (4, xs) 1 G 241 238 [ez_scr, .ref 0, .ref 35, .int 0] [.int (-3), .int q146] (ev_hp (ev_sI (ev_sI (ev_sI (ev_sI (ev_sI (ev_sI (ev_sI (ev_sI ev_I0 1 (upd (upd (upd (upd (upd (upd (ev_I0 1) 3 (xs 1)) 4 (xs 2)) 5 0) 6 ((xs 1) * (xs 2))) 1 0) 2 0)) 3 (upd (ev_I0 3) 3 0)) 6 (upd (ev_I0 6) 4 0)) 8 (upd (ev_I0 8) 1 0)) 13 (upd (upd (ev_I0 13) 8 0) 9 0)) 20 (upd (ev_I0 20) 3 0)) 22 (upd (upd (ev_I0 22) 8 0) 11 (-1))) 33 x127) (ev_sJ (ev_sJ ev_J0 1 (vp_updL (vp_updL (vp_updL (ev_J0 1) 7 (((1 : Int64) <<< (((xs 1) * (xs 2)).toInt64 &&& 63)) - (1 : Int64))) 8 x125) 9 x126)) 8 (vp_updL (vp_updL (ev_J0 8) 2 0) 3 0)) ev_R0 []) cz kz = bif decide (q146 = (-3)) then G 241 1075 [ez_scr, .ref 0, .ref 35, .int 0] [] (ev_hp (ev_sI (ev_sI (ev_sI (ev_sI (ev_sI (ev_sI (ev_sI (ev_sI ev_I0 1 (upd (upd (upd (upd (upd (upd (ev_I0 1) 3 (xs 1)) 4 (xs 2)) 5 0) 6 ((xs 1) * (xs 2))) 1 0) 2 0)) 3 (upd (ev_I0 3) 3 0)) 6 (upd (ev_I0 6) 4 0)) 8 (upd (ev_I0 8) 1 0)) 13 (upd (upd (ev_I0 13) 8 0) 9 0)) 20 (upd (ev_I0 20) 3 0)) 22 (upd (upd (ev_I0 22) 8 0) 11 (-1))) 33 x127) (ev_sJ (ev_sJ ev_J0 1 (vp_updL (vp_updL (vp_updL (ev_J0 1) 7 (((1 : Int64) <<< (((xs 1) * (xs 2)).toInt64 &&& 63)) - (1 : Int64))) 8 x125) 9 x126)) 8 (vp_updL (vp_updL (ev_J0 8) 2 0) 3 0)) ev_R0 []) cz kz else G 241 241 [ez_scr, .ref 0, .ref 35, .int 0] [] (ev_hp (ev_sI (ev_sI (ev_sI (ev_sI (ev_sI (ev_sI (ev_sI (ev_sI ev_I0 1 (upd (upd (upd (upd (upd (upd (ev_I0 1) 3 (xs 1)) 4 (xs 2)) 5 0) 6 ((xs 1) * (xs 2))) 1 0) 2 0)) 3 (upd (ev_I0 3) 3 0)) 6 (upd (ev_I0 6) 4 0)) 8 (upd (ev_I0 8) 1 0)) 13 (upd (upd (ev_I0 13) 8 0) 9 0)) 20 (upd (ev_I0 20) 3 0)) 22 (upd (upd (ev_I0 22) 8 0) 11 (-1))) 33 x127) (ev_sJ (ev_sJ ev_J0 1 (vp_updL (vp_updL (vp_updL (ev_J0 1) 7 (((1 : Int64) <<< (((xs 1) * (xs 2)).toInt64 &&& 63)) - (1 : Int64))) 8 x125) 9 x126)) 8 (vp_updL (vp_updL (ev_J0 8) 2 0) 3 0)) ev_R0 []) cz kz := by
  intro G
  rfl
set_option maxRecDepth 100000 in
set_option maxHeartbeats 100000 in
theorem eo_grid_a_r102 (xs : Nat → Int32) (x125 : Int64) (x126 : Int64) (x127 : Nat → Int32) (q146 : Int32) (cz kz : Nat) : ∀ G : ez_F, fx_up (4, xs) 2 G 241 1075 [ez_scr, .ref 0, .ref 35, .int 0] [] (ev_hp (ev_sI (ev_sI (ev_sI (ev_sI (ev_sI (ev_sI (ev_sI (ev_sI ev_I0 1 (upd (upd (upd (upd (upd (upd (ev_I0 1) 3 (xs 1)) 4 (xs 2)) 5 0) 6 ((xs 1) * (xs 2))) 1 0) 2 0)) 3 (upd (ev_I0 3) 3 0)) 6 (upd (ev_I0 6) 4 0)) 8 (upd (ev_I0 8) 1 0)) 13 (upd (upd (ev_I0 13) 8 0) 9 0)) 20 (upd (ev_I0 20) 3 0)) 22 (upd (upd (ev_I0 22) 8 0) 11 (-1))) 33 x127) (ev_sJ (ev_sJ ev_J0 1 (vp_updL (vp_updL (vp_updL (ev_J0 1) 7 (((1 : Int64) <<< (((xs 1) * (xs 2)).toInt64 &&& 63)) - (1 : Int64))) 8 x125) 9 x126)) 8 (vp_updL (vp_updL (ev_J0 8) 2 0) 3 0)) ev_R0 []) cz kz = G 241 18 [ez_scr, .ref 0, .ref 35, .int 4] [] (ev_hp (ev_sI (ev_sI (ev_sI (ev_sI (ev_sI (ev_sI (ev_sI (ev_sI ev_I0 1 (upd (upd (upd (upd (upd (upd (ev_I0 1) 3 (xs 1)) 4 (xs 2)) 5 0) 6 ((xs 1) * (xs 2))) 1 0) 2 0)) 3 (upd (ev_I0 3) 3 0)) 6 (upd (ev_I0 6) 4 0)) 8 (upd (ev_I0 8) 1 0)) 13 (upd (upd (ev_I0 13) 8 0) 9 0)) 20 (upd (ev_I0 20) 3 0)) 22 (upd (upd (ev_I0 22) 8 0) 11 (-1))) 33 x127) (ev_sJ (ev_sJ ev_J0 1 (vp_updL (vp_updL (vp_updL (ev_J0 1) 7 (((1 : Int64) <<< (((xs 1) * (xs 2)).toInt64 &&& 63)) - (1 : Int64))) 8 x125) 9 x126)) 8 (vp_updL (vp_updL (ev_J0 8) 2 0) 3 0)) ev_R0 []) cz kz := by
  intro G
  rfl
set_option maxRecDepth 100000 in
set_option maxHeartbeats 100000 in
theorem eo_grid_a_r103 (xs : Nat → Int32) (x125 : Int64) (x126 : Int64) (x127 : Nat → Int32) (q146 : Int32) (cz kz : Nat) : ∀ G : ez_F, fx_up (4, xs) 2 G 241 18 [ez_scr, .ref 0, .ref 35, .int 4] [] (ev_hp (ev_sI (ev_sI (ev_sI (ev_sI (ev_sI (ev_sI (ev_sI (ev_sI ev_I0 1 (upd (upd (upd (upd (upd (upd (ev_I0 1) 3 (xs 1)) 4 (xs 2)) 5 0) 6 ((xs 1) * (xs 2))) 1 0) 2 0)) 3 (upd (ev_I0 3) 3 0)) 6 (upd (ev_I0 6) 4 0)) 8 (upd (ev_I0 8) 1 0)) 13 (upd (upd (ev_I0 13) 8 0) 9 0)) 20 (upd (ev_I0 20) 3 0)) 22 (upd (upd (ev_I0 22) 8 0) 11 (-1))) 33 x127) (ev_sJ (ev_sJ ev_J0 1 (vp_updL (vp_updL (vp_updL (ev_J0 1) 7 (((1 : Int64) <<< (((xs 1) * (xs 2)).toInt64 &&& 63)) - (1 : Int64))) 8 x125) 9 x126)) 8 (vp_updL (vp_updL (ev_J0 8) 2 0) 3 0)) ev_R0 []) cz kz = G 241 20 [ez_scr, .ref 0, .ref 35, .int 4] [ez_scr, .int 4] (ev_hp (ev_sI (ev_sI (ev_sI (ev_sI (ev_sI (ev_sI (ev_sI (ev_sI ev_I0 1 (upd (upd (upd (upd (upd (upd (ev_I0 1) 3 (xs 1)) 4 (xs 2)) 5 0) 6 ((xs 1) * (xs 2))) 1 0) 2 0)) 3 (upd (ev_I0 3) 3 0)) 6 (upd (ev_I0 6) 4 0)) 8 (upd (ev_I0 8) 1 0)) 13 (upd (upd (ev_I0 13) 8 0) 9 0)) 20 (upd (ev_I0 20) 3 0)) 22 (upd (upd (ev_I0 22) 8 0) 11 (-1))) 33 x127) (ev_sJ (ev_sJ ev_J0 1 (vp_updL (vp_updL (vp_updL (ev_J0 1) 7 (((1 : Int64) <<< (((xs 1) * (xs 2)).toInt64 &&& 63)) - (1 : Int64))) 8 x125) 9 x126)) 8 (vp_updL (vp_updL (ev_J0 8) 2 0) 3 0)) ev_R0 []) cz kz := by
  intro G
  rfl
set_option maxRecDepth 100000 in
set_option maxHeartbeats 100000 in
theorem eo_grid_a_r104 (xs : Nat → Int32) (x125 : Int64) (x126 : Int64) (x127 : Nat → Int32) (q146 : Int32) (cz kz : Nat) : ∀ G : ez_F, fx_up (4, xs) 2 G 241 20 [ez_scr, .ref 0, .ref 35, .int 4] [ez_scr, .int 4] (ev_hp (ev_sI (ev_sI (ev_sI (ev_sI (ev_sI (ev_sI (ev_sI (ev_sI ev_I0 1 (upd (upd (upd (upd (upd (upd (ev_I0 1) 3 (xs 1)) 4 (xs 2)) 5 0) 6 ((xs 1) * (xs 2))) 1 0) 2 0)) 3 (upd (ev_I0 3) 3 0)) 6 (upd (ev_I0 6) 4 0)) 8 (upd (ev_I0 8) 1 0)) 13 (upd (upd (ev_I0 13) 8 0) 9 0)) 20 (upd (ev_I0 20) 3 0)) 22 (upd (upd (ev_I0 22) 8 0) 11 (-1))) 33 x127) (ev_sJ (ev_sJ ev_J0 1 (vp_updL (vp_updL (vp_updL (ev_J0 1) 7 (((1 : Int64) <<< (((xs 1) * (xs 2)).toInt64 &&& 63)) - (1 : Int64))) 8 x125) 9 x126)) 8 (vp_updL (vp_updL (ev_J0 8) 2 0) 3 0)) ev_R0 []) cz kz = G 241 22 [ez_scr, .ref 0, .ref 35, .int 4] [.int 4, .int 4, .int 4] (ev_hp (ev_sI (ev_sI (ev_sI (ev_sI (ev_sI (ev_sI (ev_sI (ev_sI ev_I0 1 (upd (upd (upd (upd (upd (upd (ev_I0 1) 3 (xs 1)) 4 (xs 2)) 5 0) 6 ((xs 1) * (xs 2))) 1 0) 2 0)) 3 (upd (ev_I0 3) 3 0)) 6 (upd (ev_I0 6) 4 0)) 8 (upd (ev_I0 8) 1 0)) 13 (upd (upd (ev_I0 13) 8 0) 9 0)) 20 (upd (ev_I0 20) 3 0)) 22 (upd (upd (ev_I0 22) 8 0) 11 (-1))) 33 x127) (ev_sJ (ev_sJ ev_J0 1 (vp_updL (vp_updL (vp_updL (ev_J0 1) 7 (((1 : Int64) <<< (((xs 1) * (xs 2)).toInt64 &&& 63)) - (1 : Int64))) 8 x125) 9 x126)) 8 (vp_updL (vp_updL (ev_J0 8) 2 0) 3 0)) ev_R0 []) cz kz := by
  intro G
  rfl
set_option maxRecDepth 100000 in
set_option maxHeartbeats 100000 in
theorem eo_grid_a_r105 (xs : Nat → Int32) (x125 : Int64) (x126 : Int64) (x127 : Nat → Int32) (q146 : Int32) (cz kz : Nat) : ∀ G : ez_F, fx_up (4, xs) 2 G 241 22 [ez_scr, .ref 0, .ref 35, .int 4] [.int 4, .int 4, .int 4] (ev_hp (ev_sI (ev_sI (ev_sI (ev_sI (ev_sI (ev_sI (ev_sI (ev_sI ev_I0 1 (upd (upd (upd (upd (upd (upd (ev_I0 1) 3 (xs 1)) 4 (xs 2)) 5 0) 6 ((xs 1) * (xs 2))) 1 0) 2 0)) 3 (upd (ev_I0 3) 3 0)) 6 (upd (ev_I0 6) 4 0)) 8 (upd (ev_I0 8) 1 0)) 13 (upd (upd (ev_I0 13) 8 0) 9 0)) 20 (upd (ev_I0 20) 3 0)) 22 (upd (upd (ev_I0 22) 8 0) 11 (-1))) 33 x127) (ev_sJ (ev_sJ ev_J0 1 (vp_updL (vp_updL (vp_updL (ev_J0 1) 7 (((1 : Int64) <<< (((xs 1) * (xs 2)).toInt64 &&& 63)) - (1 : Int64))) 8 x125) 9 x126)) 8 (vp_updL (vp_updL (ev_J0 8) 2 0) 3 0)) ev_R0 []) cz kz = G 241 1081 [ez_scr, .ref 0, .ref 35, .int 4] [] (ev_hp (ev_sI (ev_sI (ev_sI (ev_sI (ev_sI (ev_sI (ev_sI (ev_sI ev_I0 1 (upd (upd (upd (upd (upd (upd (ev_I0 1) 3 (xs 1)) 4 (xs 2)) 5 0) 6 ((xs 1) * (xs 2))) 1 0) 2 0)) 3 (upd (ev_I0 3) 3 0)) 6 (upd (ev_I0 6) 4 0)) 8 (upd (ev_I0 8) 1 0)) 13 (upd (upd (ev_I0 13) 8 0) 9 0)) 20 (upd (ev_I0 20) 3 0)) 22 (upd (upd (ev_I0 22) 8 0) 11 (-1))) 33 x127) (ev_sJ (ev_sJ ev_J0 1 (vp_updL (vp_updL (vp_updL (ev_J0 1) 7 (((1 : Int64) <<< (((xs 1) * (xs 2)).toInt64 &&& 63)) - (1 : Int64))) 8 x125) 9 x126)) 8 (vp_updL (vp_updL (ev_J0 8) 2 0) 3 0)) ev_R0 []) cz kz := by
  intro G
  rfl
set_option maxRecDepth 100000 in
set_option maxHeartbeats 100000 in
theorem eo_grid_a_r106 (xs : Nat → Int32) (x125 : Int64) (x126 : Int64) (x127 : Nat → Int32) (q146 : Int32) (cz kz : Nat) : ∀ G : ez_F, fx_up (4, xs) 2 G 241 1081 [ez_scr, .ref 0, .ref 35, .int 4] [] (ev_hp (ev_sI (ev_sI (ev_sI (ev_sI (ev_sI (ev_sI (ev_sI (ev_sI ev_I0 1 (upd (upd (upd (upd (upd (upd (ev_I0 1) 3 (xs 1)) 4 (xs 2)) 5 0) 6 ((xs 1) * (xs 2))) 1 0) 2 0)) 3 (upd (ev_I0 3) 3 0)) 6 (upd (ev_I0 6) 4 0)) 8 (upd (ev_I0 8) 1 0)) 13 (upd (upd (ev_I0 13) 8 0) 9 0)) 20 (upd (ev_I0 20) 3 0)) 22 (upd (upd (ev_I0 22) 8 0) 11 (-1))) 33 x127) (ev_sJ (ev_sJ ev_J0 1 (vp_updL (vp_updL (vp_updL (ev_J0 1) 7 (((1 : Int64) <<< (((xs 1) * (xs 2)).toInt64 &&& 63)) - (1 : Int64))) 8 x125) 9 x126)) 8 (vp_updL (vp_updL (ev_J0 8) 2 0) 3 0)) ev_R0 []) cz kz = some (some (.int 1), (ev_hp (ev_sI (ev_sI (ev_sI (ev_sI (ev_sI (ev_sI (ev_sI (ev_sI ev_I0 1 (upd (upd (upd (upd (upd (upd (ev_I0 1) 3 (xs 1)) 4 (xs 2)) 5 0) 6 ((xs 1) * (xs 2))) 1 0) 2 0)) 3 (upd (ev_I0 3) 3 0)) 6 (upd (ev_I0 6) 4 0)) 8 (upd (ev_I0 8) 1 0)) 13 (upd (upd (ev_I0 13) 8 0) 9 0)) 20 (upd (ev_I0 20) 3 0)) 22 (upd (upd (ev_I0 22) 8 0) 11 (-1))) 33 x127) (ev_sJ (ev_sJ ev_J0 1 (vp_updL (vp_updL (vp_updL (ev_J0 1) 7 (((1 : Int64) <<< (((xs 1) * (xs 2)).toInt64 &&& 63)) - (1 : Int64))) 8 x125) 9 x126)) 8 (vp_updL (vp_updL (ev_J0 8) 2 0) 3 0)) ev_R0 []), cz, kz) := by
  intro G
  rfl
set_option maxRecDepth 100000 in
set_option maxHeartbeats 100000 in
theorem eo_grid_a_r107 (xs : Nat → Int32)  (cz kz : Nat) : ∀ G : ez_F, fx_up (4, xs) 2 G 241 211 [ez_scr, .ref 0, .ref 35, .int 0] [.int (-3)] (ev_hp ev_I0 ev_J0 ev_R0 []) cz kz = G 241 213 [ez_scr, .ref 0, .ref 35, .int 0] [ez_scr, .ref 35, .int (-3)] (ev_hp ev_I0 ev_J0 ev_R0 []) cz kz := by
  intro G
  rfl
set_option maxRecDepth 100000 in
set_option maxHeartbeats 100000 in
theorem eo_grid_a_r108 (xs : Nat → Int32)  (cz kz : Nat) : ∀ G : ez_F, fx_up (4, xs) 2 G 241 213 [ez_scr, .ref 0, .ref 35, .int 0] [ez_scr, .ref 35, .int (-3)] (ev_hp ev_I0 ev_J0 ev_R0 []) cz kz = G 241 215 [ez_scr, .ref 0, .ref 35, .int 0] [.int 1, .int 0, ez_scr, .ref 35, .int (-3)] (ev_hp ev_I0 ev_J0 ev_R0 []) cz kz := by
  intro G
  rfl
set_option maxRecDepth 100000 in
set_option maxHeartbeats 100000 in
theorem eo_grid_a_r109 (xs : Nat → Int32)  (cz kz : Nat) : ∀ G : ez_F, fx_up (4, xs) 2 G 241 215 [ez_scr, .ref 0, .ref 35, .int 0] [.int 1, .int 0, ez_scr, .ref 35, .int (-3)] (ev_hp ev_I0 ev_J0 ev_R0 []) cz kz = G 241 217 [ez_scr, .ref 0, .ref 35, .int 0] [.int (xs 1), .ref 35, .int (-3)] (ev_hp ev_I0 ev_J0 ev_R0 []) cz kz := by
  intro G
  rfl
set_option maxRecDepth 100000 in
set_option maxHeartbeats 100000 in
theorem eo_grid_a_r110 (xs : Nat → Int32)  (cz kz : Nat) : ∀ G : ez_F, fx_up (4, xs) 2 G 241 217 [ez_scr, .ref 0, .ref 35, .int 0] [.int (xs 1), .ref 35, .int (-3)] (ev_hp ev_I0 ev_J0 ev_R0 []) cz kz = G 241 219 [ez_scr, .ref 0, .ref 35, .int 0] [.int 0, ez_scr, .int (xs 1), .ref 35, .int (-3)] (ev_hp ev_I0 ev_J0 ev_R0 []) cz kz := by
  intro G
  rfl
set_option maxRecDepth 100000 in
set_option maxHeartbeats 100000 in
theorem eo_grid_a_r111 (xs : Nat → Int32)  (cz kz : Nat) : ∀ G : ez_F, fx_up (4, xs) 2 G 241 219 [ez_scr, .ref 0, .ref 35, .int 0] [.int 0, ez_scr, .int (xs 1), .ref 35, .int (-3)] (ev_hp ev_I0 ev_J0 ev_R0 []) cz kz = G 241 221 [ez_scr, .ref 0, .ref 35, .int 0] [.int 2, ez_scr, .int (xs 1), .ref 35, .int (-3)] (ev_hp ev_I0 ev_J0 ev_R0 []) cz kz := by
  intro G
  rfl
set_option maxRecDepth 100000 in
set_option maxHeartbeats 100000 in
theorem eo_grid_a_r112 (xs : Nat → Int32)  (cz kz : Nat) : ∀ G : ez_F, fx_up (4, xs) 2 G 241 221 [ez_scr, .ref 0, .ref 35, .int 0] [.int 2, ez_scr, .int (xs 1), .ref 35, .int (-3)] (ev_hp ev_I0 ev_J0 ev_R0 []) cz kz = G 241 223 [ez_scr, .ref 0, .ref 35, .int 0] [ez_scr, .int (xs 2), .int (xs 1), .ref 35, .int (-3)] (ev_hp ev_I0 ev_J0 ev_R0 []) cz kz := by
  intro G
  rfl
set_option maxRecDepth 100000 in
set_option maxHeartbeats 100000 in
theorem eo_grid_a_r113 (xs : Nat → Int32)  (cz kz : Nat) : ∀ G : ez_F, fx_up (4, xs) 2 G 241 223 [ez_scr, .ref 0, .ref 35, .int 0] [ez_scr, .int (xs 2), .int (xs 1), .ref 35, .int (-3)] (ev_hp ev_I0 ev_J0 ev_R0 []) cz kz = G 241 225 [ez_scr, .ref 0, .ref 35, .int 0] [.int 3, .int 0, ez_scr, .int (xs 2), .int (xs 1), .ref 35, .int (-3)] (ev_hp ev_I0 ev_J0 ev_R0 []) cz kz := by
  intro G
  rfl
set_option maxRecDepth 100000 in
set_option maxHeartbeats 100000 in
theorem eo_grid_a_r114 (xs : Nat → Int32)  (cz kz : Nat) : ∀ G : ez_F, fx_up (4, xs) 2 G 241 225 [ez_scr, .ref 0, .ref 35, .int 0] [.int 3, .int 0, ez_scr, .int (xs 2), .int (xs 1), .ref 35, .int (-3)] (ev_hp ev_I0 ev_J0 ev_R0 []) cz kz = G 241 227 [ez_scr, .ref 0, .ref 35, .int 0] [.int (xs 3), .int (xs 2), .int (xs 1), .ref 35, .int (-3)] (ev_hp ev_I0 ev_J0 ev_R0 []) cz kz := by
  intro G
  rfl
set_option maxRecDepth 100000 in
set_option maxHeartbeats 100000 in
theorem eo_grid_a_r115 (xs : Nat → Int32)  (cz kz : Nat) : ∀ G : ez_F, fx_up (4, xs) 1 G 241 227 [ez_scr, .ref 0, .ref 35, .int 0] [.int (xs 3), .int (xs 2), .int (xs 1), .ref 35, .int (-3)] (ev_hp ev_I0 ev_J0 ev_R0 []) cz kz = bif decide ((xs 3) = 0) then G 241 234 [ez_scr, .ref 0, .ref 35, .int 0] [.int (xs 2), .int (xs 1), .ref 35, .int (-3)] (ev_hp ev_I0 ev_J0 ev_R0 []) cz kz else G 241 230 [ez_scr, .ref 0, .ref 35, .int 0] [.int (xs 2), .int (xs 1), .ref 35, .int (-3)] (ev_hp ev_I0 ev_J0 ev_R0 []) cz kz := by
  intro G
  rfl
set_option maxRecDepth 100000 in
set_option maxHeartbeats 100000 in
theorem eo_grid_a_r116 (xs : Nat → Int32)  (cz kz : Nat) : ∀ G : ez_F, fx_up (4, xs) 2 G 241 234 [ez_scr, .ref 0, .ref 35, .int 0] [.int (xs 2), .int (xs 1), .ref 35, .int (-3)] (ev_hp ev_I0 ev_J0 ev_R0 []) cz kz = ev_C G 195 [.ref 35, .int (xs 1), .int (xs 2), .int 0] (ev_hp ev_I0 ev_J0 ev_R0 []) fun r h1 c1 k1 => G 241 238 [ez_scr, .ref 0, .ref 35, .int 0] (r.toList ++ [.int (-3)]) h1 (cz + c1) (kz + k1) := by
  intro G
  rfl
set_option maxRecDepth 100000 in
set_option maxHeartbeats 100000 in
theorem eo_grid_a_r117 (xs : Nat → Int32)  (cz kz : Nat) : ∀ G : ez_F, fx_up (4, xs) 2 G 241 238 [ez_scr, .ref 0, .ref 35, .int 0] [.int (-3), .int (-3)] (ev_hp ev_I0 ev_J0 ev_R0 []) cz kz = G 241 1078 [ez_scr, .ref 0, .ref 35, .int 4] [] (ev_hp ev_I0 ev_J0 ev_R0 []) cz kz := by
  intro G
  rfl
set_option maxRecDepth 100000 in
set_option maxHeartbeats 100000 in
theorem eo_grid_a_r118 (xs : Nat → Int32)  (cz kz : Nat) : ∀ G : ez_F, fx_up (4, xs) 2 G 241 1078 [ez_scr, .ref 0, .ref 35, .int 4] [] (ev_hp ev_I0 ev_J0 ev_R0 []) cz kz = G 241 19 [ez_scr, .ref 0, .ref 35, .int 4] [.int 4] (ev_hp ev_I0 ev_J0 ev_R0 []) cz kz := by
  intro G
  rfl
set_option maxRecDepth 100000 in
set_option maxHeartbeats 100000 in
theorem eo_grid_a_r119 (xs : Nat → Int32)  (cz kz : Nat) : ∀ G : ez_F, fx_up (4, xs) 2 G 241 19 [ez_scr, .ref 0, .ref 35, .int 4] [.int 4] (ev_hp ev_I0 ev_J0 ev_R0 []) cz kz = G 241 21 [ez_scr, .ref 0, .ref 35, .int 4] [.int 4, .int 4] (ev_hp ev_I0 ev_J0 ev_R0 []) cz kz := by
  intro G
  rfl
set_option maxRecDepth 100000 in
set_option maxHeartbeats 100000 in
theorem eo_grid_a_r120 (xs : Nat → Int32)  (cz kz : Nat) : ∀ G : ez_F, fx_up (4, xs) 2 G 241 21 [ez_scr, .ref 0, .ref 35, .int 4] [.int 4, .int 4] (ev_hp ev_I0 ev_J0 ev_R0 []) cz kz = G 241 23 [ez_scr, .ref 0, .ref 35, .int 4] [.int 0, .int 4] (ev_hp ev_I0 ev_J0 ev_R0 []) cz kz := by
  intro G
  rfl
set_option maxRecDepth 100000 in
set_option maxHeartbeats 100000 in
theorem eo_grid_a_r121 (xs : Nat → Int32)  (cz kz : Nat) : ∀ G : ez_F, fx_up (4, xs) 2 G 241 23 [ez_scr, .ref 0, .ref 35, .int 4] [.int 0, .int 4] (ev_hp ev_I0 ev_J0 ev_R0 []) cz kz = G 241 1082 [ez_scr, .ref 0, .ref 35, .int 4] [.int 1] (ev_hp ev_I0 ev_J0 ev_R0 []) cz kz := by
  intro G
  rfl
set_option maxRecDepth 100000 in
set_option maxHeartbeats 100000 in
theorem eo_grid_a_r122 (xs : Nat → Int32)  (cz kz : Nat) : ∀ G : ez_F, fx_up (4, xs) 1 G 241 1082 [ez_scr, .ref 0, .ref 35, .int 4] [.int 1] (ev_hp ev_I0 ev_J0 ev_R0 []) cz kz = some (some (.int 1), (ev_hp ev_I0 ev_J0 ev_R0 []), cz, kz) := by
  intro G
  rfl
set_option maxRecDepth 100000 in
set_option maxHeartbeats 100000 in
theorem eo_grid_a_r123 (xs : Nat → Int32) (q151 : Int32) (cz kz : Nat) : ∀ G : ez_F, fx_up (4, xs) 1 G 241 238 [ez_scr, .ref 0, .ref 35, .int 0] [.int q151, .int (-3)] (ev_hp (ev_sI (ev_sI ev_I0 35 (upd (upd (upd (upd (upd (upd (upd (ev_I0 35) 0 (xs 1)) 1 (xs 2)) 2 0) 3 0) 16 0) 9 0) 10 0)) 61 (upd (upd (upd (upd (upd (upd (upd (upd (upd (upd (upd (upd (ev_I0 61) 0 (-1)) 1 (-1)) 2 (-1)) 3 (-1)) 4 (-1)) 5 (-1)) 6 (-1)) 7 (-1)) 8 (-1)) 9 (-1)) 10 (-1)) 11 (-1))) ev_J0 ev_R0 []) cz kz = bif decide (((-3) : Int32) = q151) then G 241 1075 [ez_scr, .ref 0, .ref 35, .int 0] [] (ev_hp (ev_sI (ev_sI ev_I0 35 (upd (upd (upd (upd (upd (upd (upd (ev_I0 35) 0 (xs 1)) 1 (xs 2)) 2 0) 3 0) 16 0) 9 0) 10 0)) 61 (upd (upd (upd (upd (upd (upd (upd (upd (upd (upd (upd (upd (ev_I0 61) 0 (-1)) 1 (-1)) 2 (-1)) 3 (-1)) 4 (-1)) 5 (-1)) 6 (-1)) 7 (-1)) 8 (-1)) 9 (-1)) 10 (-1)) 11 (-1))) ev_J0 ev_R0 []) cz kz else G 241 241 [ez_scr, .ref 0, .ref 35, .int 0] [] (ev_hp (ev_sI (ev_sI ev_I0 35 (upd (upd (upd (upd (upd (upd (upd (ev_I0 35) 0 (xs 1)) 1 (xs 2)) 2 0) 3 0) 16 0) 9 0) 10 0)) 61 (upd (upd (upd (upd (upd (upd (upd (upd (upd (upd (upd (upd (ev_I0 61) 0 (-1)) 1 (-1)) 2 (-1)) 3 (-1)) 4 (-1)) 5 (-1)) 6 (-1)) 7 (-1)) 8 (-1)) 9 (-1)) 10 (-1)) 11 (-1))) ev_J0 ev_R0 []) cz kz := by
  intro G
  rfl
set_option maxRecDepth 100000 in
set_option maxHeartbeats 100000 in
theorem eo_grid_a_r124 (xs : Nat → Int32) (q151 : Int32) (cz kz : Nat) : ∀ G : ez_F, fx_up (4, xs) 2 G 241 1075 [ez_scr, .ref 0, .ref 35, .int 0] [] (ev_hp (ev_sI (ev_sI ev_I0 35 (upd (upd (upd (upd (upd (upd (upd (ev_I0 35) 0 (xs 1)) 1 (xs 2)) 2 0) 3 0) 16 0) 9 0) 10 0)) 61 (upd (upd (upd (upd (upd (upd (upd (upd (upd (upd (upd (upd (ev_I0 61) 0 (-1)) 1 (-1)) 2 (-1)) 3 (-1)) 4 (-1)) 5 (-1)) 6 (-1)) 7 (-1)) 8 (-1)) 9 (-1)) 10 (-1)) 11 (-1))) ev_J0 ev_R0 []) cz kz = G 241 18 [ez_scr, .ref 0, .ref 35, .int 4] [] (ev_hp (ev_sI (ev_sI ev_I0 35 (upd (upd (upd (upd (upd (upd (upd (ev_I0 35) 0 (xs 1)) 1 (xs 2)) 2 0) 3 0) 16 0) 9 0) 10 0)) 61 (upd (upd (upd (upd (upd (upd (upd (upd (upd (upd (upd (upd (ev_I0 61) 0 (-1)) 1 (-1)) 2 (-1)) 3 (-1)) 4 (-1)) 5 (-1)) 6 (-1)) 7 (-1)) 8 (-1)) 9 (-1)) 10 (-1)) 11 (-1))) ev_J0 ev_R0 []) cz kz := by
  intro G
  rfl
set_option maxRecDepth 100000 in
set_option maxHeartbeats 100000 in
theorem eo_grid_a_r125 (xs : Nat → Int32) (q151 : Int32) (cz kz : Nat) : ∀ G : ez_F, fx_up (4, xs) 2 G 241 18 [ez_scr, .ref 0, .ref 35, .int 4] [] (ev_hp (ev_sI (ev_sI ev_I0 35 (upd (upd (upd (upd (upd (upd (upd (ev_I0 35) 0 (xs 1)) 1 (xs 2)) 2 0) 3 0) 16 0) 9 0) 10 0)) 61 (upd (upd (upd (upd (upd (upd (upd (upd (upd (upd (upd (upd (ev_I0 61) 0 (-1)) 1 (-1)) 2 (-1)) 3 (-1)) 4 (-1)) 5 (-1)) 6 (-1)) 7 (-1)) 8 (-1)) 9 (-1)) 10 (-1)) 11 (-1))) ev_J0 ev_R0 []) cz kz = G 241 20 [ez_scr, .ref 0, .ref 35, .int 4] [ez_scr, .int 4] (ev_hp (ev_sI (ev_sI ev_I0 35 (upd (upd (upd (upd (upd (upd (upd (ev_I0 35) 0 (xs 1)) 1 (xs 2)) 2 0) 3 0) 16 0) 9 0) 10 0)) 61 (upd (upd (upd (upd (upd (upd (upd (upd (upd (upd (upd (upd (ev_I0 61) 0 (-1)) 1 (-1)) 2 (-1)) 3 (-1)) 4 (-1)) 5 (-1)) 6 (-1)) 7 (-1)) 8 (-1)) 9 (-1)) 10 (-1)) 11 (-1))) ev_J0 ev_R0 []) cz kz := by
  intro G
  rfl
set_option maxRecDepth 100000 in
set_option maxHeartbeats 100000 in
theorem eo_grid_a_r126 (xs : Nat → Int32) (q151 : Int32) (cz kz : Nat) : ∀ G : ez_F, fx_up (4, xs) 2 G 241 20 [ez_scr, .ref 0, .ref 35, .int 4] [ez_scr, .int 4] (ev_hp (ev_sI (ev_sI ev_I0 35 (upd (upd (upd (upd (upd (upd (upd (ev_I0 35) 0 (xs 1)) 1 (xs 2)) 2 0) 3 0) 16 0) 9 0) 10 0)) 61 (upd (upd (upd (upd (upd (upd (upd (upd (upd (upd (upd (upd (ev_I0 61) 0 (-1)) 1 (-1)) 2 (-1)) 3 (-1)) 4 (-1)) 5 (-1)) 6 (-1)) 7 (-1)) 8 (-1)) 9 (-1)) 10 (-1)) 11 (-1))) ev_J0 ev_R0 []) cz kz = G 241 22 [ez_scr, .ref 0, .ref 35, .int 4] [.int 4, .int 4, .int 4] (ev_hp (ev_sI (ev_sI ev_I0 35 (upd (upd (upd (upd (upd (upd (upd (ev_I0 35) 0 (xs 1)) 1 (xs 2)) 2 0) 3 0) 16 0) 9 0) 10 0)) 61 (upd (upd (upd (upd (upd (upd (upd (upd (upd (upd (upd (upd (ev_I0 61) 0 (-1)) 1 (-1)) 2 (-1)) 3 (-1)) 4 (-1)) 5 (-1)) 6 (-1)) 7 (-1)) 8 (-1)) 9 (-1)) 10 (-1)) 11 (-1))) ev_J0 ev_R0 []) cz kz := by
  intro G
  rfl
set_option maxRecDepth 100000 in
set_option maxHeartbeats 100000 in
theorem eo_grid_a_r127 (xs : Nat → Int32) (q151 : Int32) (cz kz : Nat) : ∀ G : ez_F, fx_up (4, xs) 2 G 241 22 [ez_scr, .ref 0, .ref 35, .int 4] [.int 4, .int 4, .int 4] (ev_hp (ev_sI (ev_sI ev_I0 35 (upd (upd (upd (upd (upd (upd (upd (ev_I0 35) 0 (xs 1)) 1 (xs 2)) 2 0) 3 0) 16 0) 9 0) 10 0)) 61 (upd (upd (upd (upd (upd (upd (upd (upd (upd (upd (upd (upd (ev_I0 61) 0 (-1)) 1 (-1)) 2 (-1)) 3 (-1)) 4 (-1)) 5 (-1)) 6 (-1)) 7 (-1)) 8 (-1)) 9 (-1)) 10 (-1)) 11 (-1))) ev_J0 ev_R0 []) cz kz = G 241 1081 [ez_scr, .ref 0, .ref 35, .int 4] [] (ev_hp (ev_sI (ev_sI ev_I0 35 (upd (upd (upd (upd (upd (upd (upd (ev_I0 35) 0 (xs 1)) 1 (xs 2)) 2 0) 3 0) 16 0) 9 0) 10 0)) 61 (upd (upd (upd (upd (upd (upd (upd (upd (upd (upd (upd (upd (ev_I0 61) 0 (-1)) 1 (-1)) 2 (-1)) 3 (-1)) 4 (-1)) 5 (-1)) 6 (-1)) 7 (-1)) 8 (-1)) 9 (-1)) 10 (-1)) 11 (-1))) ev_J0 ev_R0 []) cz kz := by
  intro G
  rfl
set_option maxRecDepth 100000 in
set_option maxHeartbeats 100000 in
theorem eo_grid_a_r128 (xs : Nat → Int32) (q151 : Int32) (cz kz : Nat) : ∀ G : ez_F, fx_up (4, xs) 2 G 241 1081 [ez_scr, .ref 0, .ref 35, .int 4] [] (ev_hp (ev_sI (ev_sI ev_I0 35 (upd (upd (upd (upd (upd (upd (upd (ev_I0 35) 0 (xs 1)) 1 (xs 2)) 2 0) 3 0) 16 0) 9 0) 10 0)) 61 (upd (upd (upd (upd (upd (upd (upd (upd (upd (upd (upd (upd (ev_I0 61) 0 (-1)) 1 (-1)) 2 (-1)) 3 (-1)) 4 (-1)) 5 (-1)) 6 (-1)) 7 (-1)) 8 (-1)) 9 (-1)) 10 (-1)) 11 (-1))) ev_J0 ev_R0 []) cz kz = some (some (.int 1), (ev_hp (ev_sI (ev_sI ev_I0 35 (upd (upd (upd (upd (upd (upd (upd (ev_I0 35) 0 (xs 1)) 1 (xs 2)) 2 0) 3 0) 16 0) 9 0) 10 0)) 61 (upd (upd (upd (upd (upd (upd (upd (upd (upd (upd (upd (upd (ev_I0 61) 0 (-1)) 1 (-1)) 2 (-1)) 3 (-1)) 4 (-1)) 5 (-1)) 6 (-1)) 7 (-1)) 8 (-1)) 9 (-1)) 10 (-1)) 11 (-1))) ev_J0 ev_R0 []), cz, kz) := by
  intro G
  rfl
set_option maxRecDepth 100000 in
set_option maxHeartbeats 100000 in
theorem eo_grid_a_r129 (xs : Nat → Int32)  (cz kz : Nat) : ∀ G : ez_F, fx_up (4, xs) 2 G 241 238 [ez_scr, .ref 0, .ref 35, .int 0] [.int (-3), .int (-3)] (ev_hp ev_I0 ev_J0 ev_R0 []) cz kz = G 241 1078 [ez_scr, .ref 0, .ref 35, .int 4] [] (ev_hp ev_I0 ev_J0 ev_R0 []) cz kz := by
  intro G
  rfl
set_option maxRecDepth 100000 in
set_option maxHeartbeats 100000 in
theorem eo_grid_a_r130 (xs : Nat → Int32)  (cz kz : Nat) : ∀ G : ez_F, fx_up (4, xs) 2 G 241 1078 [ez_scr, .ref 0, .ref 35, .int 4] [] (ev_hp ev_I0 ev_J0 ev_R0 []) cz kz = G 241 19 [ez_scr, .ref 0, .ref 35, .int 4] [.int 4] (ev_hp ev_I0 ev_J0 ev_R0 []) cz kz := by
  intro G
  rfl
set_option maxRecDepth 100000 in
set_option maxHeartbeats 100000 in
theorem eo_grid_a_r131 (xs : Nat → Int32)  (cz kz : Nat) : ∀ G : ez_F, fx_up (4, xs) 2 G 241 19 [ez_scr, .ref 0, .ref 35, .int 4] [.int 4] (ev_hp ev_I0 ev_J0 ev_R0 []) cz kz = G 241 21 [ez_scr, .ref 0, .ref 35, .int 4] [.int 4, .int 4] (ev_hp ev_I0 ev_J0 ev_R0 []) cz kz := by
  intro G
  rfl
set_option maxRecDepth 100000 in
set_option maxHeartbeats 100000 in
theorem eo_grid_a_r132 (xs : Nat → Int32)  (cz kz : Nat) : ∀ G : ez_F, fx_up (4, xs) 2 G 241 21 [ez_scr, .ref 0, .ref 35, .int 4] [.int 4, .int 4] (ev_hp ev_I0 ev_J0 ev_R0 []) cz kz = G 241 23 [ez_scr, .ref 0, .ref 35, .int 4] [.int 0, .int 4] (ev_hp ev_I0 ev_J0 ev_R0 []) cz kz := by
  intro G
  rfl
set_option maxRecDepth 100000 in
set_option maxHeartbeats 100000 in
theorem eo_grid_a_r133 (xs : Nat → Int32)  (cz kz : Nat) : ∀ G : ez_F, fx_up (4, xs) 2 G 241 23 [ez_scr, .ref 0, .ref 35, .int 4] [.int 0, .int 4] (ev_hp ev_I0 ev_J0 ev_R0 []) cz kz = G 241 1082 [ez_scr, .ref 0, .ref 35, .int 4] [.int 1] (ev_hp ev_I0 ev_J0 ev_R0 []) cz kz := by
  intro G
  rfl
set_option maxRecDepth 100000 in
set_option maxHeartbeats 100000 in
theorem eo_grid_a_r134 (xs : Nat → Int32)  (cz kz : Nat) : ∀ G : ez_F, fx_up (4, xs) 1 G 241 1082 [ez_scr, .ref 0, .ref 35, .int 4] [.int 1] (ev_hp ev_I0 ev_J0 ev_R0 []) cz kz = some (some (.int 1), (ev_hp ev_I0 ev_J0 ev_R0 []), cz, kz) := by
  intro G
  rfl
set_option maxRecDepth 100000 in
set_option maxHeartbeats 100000 in
theorem eo_grid_a_r135 (xs : Nat → Int32)  (cz kz : Nat) : ∀ G : ez_F, fx_up (4, xs) 2 G 241 230 [ez_scr, .ref 0, .ref 35, .int 0] [.int (xs 2), .int (xs 1), .ref 35, .int (-3)] (ev_hp ev_I0 ev_J0 ev_R0 []) cz kz = G 241 235 [ez_scr, .ref 0, .ref 35, .int 0] [.int 1, .int (xs 2), .int (xs 1), .ref 35, .int (-3)] (ev_hp ev_I0 ev_J0 ev_R0 []) cz kz := by
  intro G
  rfl
set_option maxRecDepth 100000 in
set_option maxHeartbeats 100000 in
theorem eo_grid_a_r136 (xs : Nat → Int32)  (cz kz : Nat) : ∀ G : ez_F, fx_up (4, xs) 1 G 241 235 [ez_scr, .ref 0, .ref 35, .int 0] [.int 1, .int (xs 2), .int (xs 1), .ref 35, .int (-3)] (ev_hp ev_I0 ev_J0 ev_R0 []) cz kz = ev_C G 195 [.ref 35, .int (xs 1), .int (xs 2), .int 1] (ev_hp ev_I0 ev_J0 ev_R0 []) fun r h1 c1 k1 => G 241 238 [ez_scr, .ref 0, .ref 35, .int 0] (r.toList ++ [.int (-3)]) h1 (cz + c1) (kz + k1) := by
  intro G
  rfl
set_option maxRecDepth 100000 in
set_option maxHeartbeats 100000 in
theorem eo_grid_a_r137 (xs : Nat → Int32)  (cz kz : Nat) : ∀ G : ez_F, fx_up (4, xs) 2 G 241 238 [ez_scr, .ref 0, .ref 35, .int 0] [.int (-3), .int (-3)] (ev_hp ev_I0 ev_J0 ev_R0 []) cz kz = G 241 1078 [ez_scr, .ref 0, .ref 35, .int 4] [] (ev_hp ev_I0 ev_J0 ev_R0 []) cz kz := by
  intro G
  rfl
set_option maxRecDepth 100000 in
set_option maxHeartbeats 100000 in
theorem eo_grid_a_r138 (xs : Nat → Int32)  (cz kz : Nat) : ∀ G : ez_F, fx_up (4, xs) 2 G 241 1078 [ez_scr, .ref 0, .ref 35, .int 4] [] (ev_hp ev_I0 ev_J0 ev_R0 []) cz kz = G 241 19 [ez_scr, .ref 0, .ref 35, .int 4] [.int 4] (ev_hp ev_I0 ev_J0 ev_R0 []) cz kz := by
  intro G
  rfl
set_option maxRecDepth 100000 in
set_option maxHeartbeats 100000 in
theorem eo_grid_a_r139 (xs : Nat → Int32)  (cz kz : Nat) : ∀ G : ez_F, fx_up (4, xs) 2 G 241 19 [ez_scr, .ref 0, .ref 35, .int 4] [.int 4] (ev_hp ev_I0 ev_J0 ev_R0 []) cz kz = G 241 21 [ez_scr, .ref 0, .ref 35, .int 4] [.int 4, .int 4] (ev_hp ev_I0 ev_J0 ev_R0 []) cz kz := by
  intro G
  rfl
set_option maxRecDepth 100000 in
set_option maxHeartbeats 100000 in
theorem eo_grid_a_r140 (xs : Nat → Int32)  (cz kz : Nat) : ∀ G : ez_F, fx_up (4, xs) 2 G 241 21 [ez_scr, .ref 0, .ref 35, .int 4] [.int 4, .int 4] (ev_hp ev_I0 ev_J0 ev_R0 []) cz kz = G 241 23 [ez_scr, .ref 0, .ref 35, .int 4] [.int 0, .int 4] (ev_hp ev_I0 ev_J0 ev_R0 []) cz kz := by
  intro G
  rfl
set_option maxRecDepth 100000 in
set_option maxHeartbeats 100000 in
theorem eo_grid_a_r141 (xs : Nat → Int32)  (cz kz : Nat) : ∀ G : ez_F, fx_up (4, xs) 2 G 241 23 [ez_scr, .ref 0, .ref 35, .int 4] [.int 0, .int 4] (ev_hp ev_I0 ev_J0 ev_R0 []) cz kz = G 241 1082 [ez_scr, .ref 0, .ref 35, .int 4] [.int 1] (ev_hp ev_I0 ev_J0 ev_R0 []) cz kz := by
  intro G
  rfl
set_option maxRecDepth 100000 in
set_option maxHeartbeats 100000 in
theorem eo_grid_a_r142 (xs : Nat → Int32)  (cz kz : Nat) : ∀ G : ez_F, fx_up (4, xs) 1 G 241 1082 [ez_scr, .ref 0, .ref 35, .int 4] [.int 1] (ev_hp ev_I0 ev_J0 ev_R0 []) cz kz = some (some (.int 1), (ev_hp ev_I0 ev_J0 ev_R0 []), cz, kz) := by
  intro G
  rfl
set_option maxRecDepth 100000 in
set_option maxHeartbeats 100000 in
theorem eo_grid_a_r143 (xs : Nat → Int32) (q152 : Int32) (cz kz : Nat) : ∀ G : ez_F, fx_up (4, xs) 1 G 241 238 [ez_scr, .ref 0, .ref 35, .int 0] [.int q152, .int (-3)] (ev_hp (ev_sI (ev_sI ev_I0 35 (upd (upd (upd (upd (upd (upd (upd (ev_I0 35) 0 (xs 1)) 1 (xs 2)) 2 1) 3 0) 16 0) 9 0) 10 0)) 61 (upd (upd (upd (upd (upd (upd (upd (upd (upd (upd (upd (upd (ev_I0 61) 0 (-1)) 1 (-1)) 2 (-1)) 3 (-1)) 4 (-1)) 5 (-1)) 6 (-1)) 7 (-1)) 8 (-1)) 9 (-1)) 10 (-1)) 11 (-1))) ev_J0 ev_R0 []) cz kz = bif decide (((-3) : Int32) = q152) then G 241 1075 [ez_scr, .ref 0, .ref 35, .int 0] [] (ev_hp (ev_sI (ev_sI ev_I0 35 (upd (upd (upd (upd (upd (upd (upd (ev_I0 35) 0 (xs 1)) 1 (xs 2)) 2 1) 3 0) 16 0) 9 0) 10 0)) 61 (upd (upd (upd (upd (upd (upd (upd (upd (upd (upd (upd (upd (ev_I0 61) 0 (-1)) 1 (-1)) 2 (-1)) 3 (-1)) 4 (-1)) 5 (-1)) 6 (-1)) 7 (-1)) 8 (-1)) 9 (-1)) 10 (-1)) 11 (-1))) ev_J0 ev_R0 []) cz kz else G 241 241 [ez_scr, .ref 0, .ref 35, .int 0] [] (ev_hp (ev_sI (ev_sI ev_I0 35 (upd (upd (upd (upd (upd (upd (upd (ev_I0 35) 0 (xs 1)) 1 (xs 2)) 2 1) 3 0) 16 0) 9 0) 10 0)) 61 (upd (upd (upd (upd (upd (upd (upd (upd (upd (upd (upd (upd (ev_I0 61) 0 (-1)) 1 (-1)) 2 (-1)) 3 (-1)) 4 (-1)) 5 (-1)) 6 (-1)) 7 (-1)) 8 (-1)) 9 (-1)) 10 (-1)) 11 (-1))) ev_J0 ev_R0 []) cz kz := by
  intro G
  rfl
set_option maxRecDepth 100000 in
set_option maxHeartbeats 100000 in
theorem eo_grid_a_r144 (xs : Nat → Int32) (q152 : Int32) (cz kz : Nat) : ∀ G : ez_F, fx_up (4, xs) 2 G 241 1075 [ez_scr, .ref 0, .ref 35, .int 0] [] (ev_hp (ev_sI (ev_sI ev_I0 35 (upd (upd (upd (upd (upd (upd (upd (ev_I0 35) 0 (xs 1)) 1 (xs 2)) 2 1) 3 0) 16 0) 9 0) 10 0)) 61 (upd (upd (upd (upd (upd (upd (upd (upd (upd (upd (upd (upd (ev_I0 61) 0 (-1)) 1 (-1)) 2 (-1)) 3 (-1)) 4 (-1)) 5 (-1)) 6 (-1)) 7 (-1)) 8 (-1)) 9 (-1)) 10 (-1)) 11 (-1))) ev_J0 ev_R0 []) cz kz = G 241 18 [ez_scr, .ref 0, .ref 35, .int 4] [] (ev_hp (ev_sI (ev_sI ev_I0 35 (upd (upd (upd (upd (upd (upd (upd (ev_I0 35) 0 (xs 1)) 1 (xs 2)) 2 1) 3 0) 16 0) 9 0) 10 0)) 61 (upd (upd (upd (upd (upd (upd (upd (upd (upd (upd (upd (upd (ev_I0 61) 0 (-1)) 1 (-1)) 2 (-1)) 3 (-1)) 4 (-1)) 5 (-1)) 6 (-1)) 7 (-1)) 8 (-1)) 9 (-1)) 10 (-1)) 11 (-1))) ev_J0 ev_R0 []) cz kz := by
  intro G
  rfl
set_option maxRecDepth 100000 in
set_option maxHeartbeats 100000 in
theorem eo_grid_a_r145 (xs : Nat → Int32) (q152 : Int32) (cz kz : Nat) : ∀ G : ez_F, fx_up (4, xs) 2 G 241 18 [ez_scr, .ref 0, .ref 35, .int 4] [] (ev_hp (ev_sI (ev_sI ev_I0 35 (upd (upd (upd (upd (upd (upd (upd (ev_I0 35) 0 (xs 1)) 1 (xs 2)) 2 1) 3 0) 16 0) 9 0) 10 0)) 61 (upd (upd (upd (upd (upd (upd (upd (upd (upd (upd (upd (upd (ev_I0 61) 0 (-1)) 1 (-1)) 2 (-1)) 3 (-1)) 4 (-1)) 5 (-1)) 6 (-1)) 7 (-1)) 8 (-1)) 9 (-1)) 10 (-1)) 11 (-1))) ev_J0 ev_R0 []) cz kz = G 241 20 [ez_scr, .ref 0, .ref 35, .int 4] [ez_scr, .int 4] (ev_hp (ev_sI (ev_sI ev_I0 35 (upd (upd (upd (upd (upd (upd (upd (ev_I0 35) 0 (xs 1)) 1 (xs 2)) 2 1) 3 0) 16 0) 9 0) 10 0)) 61 (upd (upd (upd (upd (upd (upd (upd (upd (upd (upd (upd (upd (ev_I0 61) 0 (-1)) 1 (-1)) 2 (-1)) 3 (-1)) 4 (-1)) 5 (-1)) 6 (-1)) 7 (-1)) 8 (-1)) 9 (-1)) 10 (-1)) 11 (-1))) ev_J0 ev_R0 []) cz kz := by
  intro G
  rfl
set_option maxRecDepth 100000 in
set_option maxHeartbeats 100000 in
theorem eo_grid_a_r146 (xs : Nat → Int32) (q152 : Int32) (cz kz : Nat) : ∀ G : ez_F, fx_up (4, xs) 2 G 241 20 [ez_scr, .ref 0, .ref 35, .int 4] [ez_scr, .int 4] (ev_hp (ev_sI (ev_sI ev_I0 35 (upd (upd (upd (upd (upd (upd (upd (ev_I0 35) 0 (xs 1)) 1 (xs 2)) 2 1) 3 0) 16 0) 9 0) 10 0)) 61 (upd (upd (upd (upd (upd (upd (upd (upd (upd (upd (upd (upd (ev_I0 61) 0 (-1)) 1 (-1)) 2 (-1)) 3 (-1)) 4 (-1)) 5 (-1)) 6 (-1)) 7 (-1)) 8 (-1)) 9 (-1)) 10 (-1)) 11 (-1))) ev_J0 ev_R0 []) cz kz = G 241 22 [ez_scr, .ref 0, .ref 35, .int 4] [.int 4, .int 4, .int 4] (ev_hp (ev_sI (ev_sI ev_I0 35 (upd (upd (upd (upd (upd (upd (upd (ev_I0 35) 0 (xs 1)) 1 (xs 2)) 2 1) 3 0) 16 0) 9 0) 10 0)) 61 (upd (upd (upd (upd (upd (upd (upd (upd (upd (upd (upd (upd (ev_I0 61) 0 (-1)) 1 (-1)) 2 (-1)) 3 (-1)) 4 (-1)) 5 (-1)) 6 (-1)) 7 (-1)) 8 (-1)) 9 (-1)) 10 (-1)) 11 (-1))) ev_J0 ev_R0 []) cz kz := by
  intro G
  rfl
set_option maxRecDepth 100000 in
set_option maxHeartbeats 100000 in
theorem eo_grid_a_r147 (xs : Nat → Int32) (q152 : Int32) (cz kz : Nat) : ∀ G : ez_F, fx_up (4, xs) 2 G 241 22 [ez_scr, .ref 0, .ref 35, .int 4] [.int 4, .int 4, .int 4] (ev_hp (ev_sI (ev_sI ev_I0 35 (upd (upd (upd (upd (upd (upd (upd (ev_I0 35) 0 (xs 1)) 1 (xs 2)) 2 1) 3 0) 16 0) 9 0) 10 0)) 61 (upd (upd (upd (upd (upd (upd (upd (upd (upd (upd (upd (upd (ev_I0 61) 0 (-1)) 1 (-1)) 2 (-1)) 3 (-1)) 4 (-1)) 5 (-1)) 6 (-1)) 7 (-1)) 8 (-1)) 9 (-1)) 10 (-1)) 11 (-1))) ev_J0 ev_R0 []) cz kz = G 241 1081 [ez_scr, .ref 0, .ref 35, .int 4] [] (ev_hp (ev_sI (ev_sI ev_I0 35 (upd (upd (upd (upd (upd (upd (upd (ev_I0 35) 0 (xs 1)) 1 (xs 2)) 2 1) 3 0) 16 0) 9 0) 10 0)) 61 (upd (upd (upd (upd (upd (upd (upd (upd (upd (upd (upd (upd (ev_I0 61) 0 (-1)) 1 (-1)) 2 (-1)) 3 (-1)) 4 (-1)) 5 (-1)) 6 (-1)) 7 (-1)) 8 (-1)) 9 (-1)) 10 (-1)) 11 (-1))) ev_J0 ev_R0 []) cz kz := by
  intro G
  rfl
set_option maxRecDepth 100000 in
set_option maxHeartbeats 100000 in
theorem eo_grid_a_r148 (xs : Nat → Int32) (q152 : Int32) (cz kz : Nat) : ∀ G : ez_F, fx_up (4, xs) 2 G 241 1081 [ez_scr, .ref 0, .ref 35, .int 4] [] (ev_hp (ev_sI (ev_sI ev_I0 35 (upd (upd (upd (upd (upd (upd (upd (ev_I0 35) 0 (xs 1)) 1 (xs 2)) 2 1) 3 0) 16 0) 9 0) 10 0)) 61 (upd (upd (upd (upd (upd (upd (upd (upd (upd (upd (upd (upd (ev_I0 61) 0 (-1)) 1 (-1)) 2 (-1)) 3 (-1)) 4 (-1)) 5 (-1)) 6 (-1)) 7 (-1)) 8 (-1)) 9 (-1)) 10 (-1)) 11 (-1))) ev_J0 ev_R0 []) cz kz = some (some (.int 1), (ev_hp (ev_sI (ev_sI ev_I0 35 (upd (upd (upd (upd (upd (upd (upd (ev_I0 35) 0 (xs 1)) 1 (xs 2)) 2 1) 3 0) 16 0) 9 0) 10 0)) 61 (upd (upd (upd (upd (upd (upd (upd (upd (upd (upd (upd (upd (ev_I0 61) 0 (-1)) 1 (-1)) 2 (-1)) 3 (-1)) 4 (-1)) 5 (-1)) 6 (-1)) 7 (-1)) 8 (-1)) 9 (-1)) 10 (-1)) 11 (-1))) ev_J0 ev_R0 []), cz, kz) := by
  intro G
  rfl
set_option maxRecDepth 100000 in
set_option maxHeartbeats 100000 in
theorem eo_grid_a_r149 (xs : Nat → Int32)  (cz kz : Nat) : ∀ G : ez_F, fx_up (4, xs) 2 G 241 238 [ez_scr, .ref 0, .ref 35, .int 0] [.int (-3), .int (-3)] (ev_hp ev_I0 ev_J0 ev_R0 []) cz kz = G 241 1078 [ez_scr, .ref 0, .ref 35, .int 4] [] (ev_hp ev_I0 ev_J0 ev_R0 []) cz kz := by
  intro G
  rfl
set_option maxRecDepth 100000 in
set_option maxHeartbeats 100000 in
theorem eo_grid_a_r150 (xs : Nat → Int32)  (cz kz : Nat) : ∀ G : ez_F, fx_up (4, xs) 2 G 241 1078 [ez_scr, .ref 0, .ref 35, .int 4] [] (ev_hp ev_I0 ev_J0 ev_R0 []) cz kz = G 241 19 [ez_scr, .ref 0, .ref 35, .int 4] [.int 4] (ev_hp ev_I0 ev_J0 ev_R0 []) cz kz := by
  intro G
  rfl
set_option maxRecDepth 100000 in
set_option maxHeartbeats 100000 in
theorem eo_grid_a_r151 (xs : Nat → Int32)  (cz kz : Nat) : ∀ G : ez_F, fx_up (4, xs) 2 G 241 19 [ez_scr, .ref 0, .ref 35, .int 4] [.int 4] (ev_hp ev_I0 ev_J0 ev_R0 []) cz kz = G 241 21 [ez_scr, .ref 0, .ref 35, .int 4] [.int 4, .int 4] (ev_hp ev_I0 ev_J0 ev_R0 []) cz kz := by
  intro G
  rfl
set_option maxRecDepth 100000 in
set_option maxHeartbeats 100000 in
theorem eo_grid_a_r152 (xs : Nat → Int32)  (cz kz : Nat) : ∀ G : ez_F, fx_up (4, xs) 2 G 241 21 [ez_scr, .ref 0, .ref 35, .int 4] [.int 4, .int 4] (ev_hp ev_I0 ev_J0 ev_R0 []) cz kz = G 241 23 [ez_scr, .ref 0, .ref 35, .int 4] [.int 0, .int 4] (ev_hp ev_I0 ev_J0 ev_R0 []) cz kz := by
  intro G
  rfl
set_option maxRecDepth 100000 in
set_option maxHeartbeats 100000 in
theorem eo_grid_a_r153 (xs : Nat → Int32)  (cz kz : Nat) : ∀ G : ez_F, fx_up (4, xs) 2 G 241 23 [ez_scr, .ref 0, .ref 35, .int 4] [.int 0, .int 4] (ev_hp ev_I0 ev_J0 ev_R0 []) cz kz = G 241 1082 [ez_scr, .ref 0, .ref 35, .int 4] [.int 1] (ev_hp ev_I0 ev_J0 ev_R0 []) cz kz := by
  intro G
  rfl
set_option maxRecDepth 100000 in
set_option maxHeartbeats 100000 in
theorem eo_grid_a_r154 (xs : Nat → Int32)  (cz kz : Nat) : ∀ G : ez_F, fx_up (4, xs) 1 G 241 1082 [ez_scr, .ref 0, .ref 35, .int 4] [.int 1] (ev_hp ev_I0 ev_J0 ev_R0 []) cz kz = some (some (.int 1), (ev_hp ev_I0 ev_J0 ev_R0 []), cz, kz) := by
  intro G
  rfl
set_option maxRecDepth 100000 in
set_option maxHeartbeats 100000 in
theorem eo_grid_a_r155 (xs : Nat → Int32)  (cz kz : Nat) : ∀ G : ez_F, fx_up (4, xs) 2 G 241 203 [ez_scr, .ref 0, .ref 35, .int 0] [.int (xs 2), .int (xs 1), .ref 0] (ev_hp ev_I0 ev_J0 ev_R0 []) cz kz = G 241 208 [ez_scr, .ref 0, .ref 35, .int 0] [.int 1, .int (xs 2), .int (xs 1), .ref 0] (ev_hp ev_I0 ev_J0 ev_R0 []) cz kz := by
  intro G
  rfl
set_option maxRecDepth 100000 in
set_option maxHeartbeats 100000 in
theorem eo_grid_a_r156 (xs : Nat → Int32)  (cz kz : Nat) : ∀ G : ez_F, fx_up (4, xs) 1 G 241 208 [ez_scr, .ref 0, .ref 35, .int 0] [.int 1, .int (xs 2), .int (xs 1), .ref 0] (ev_hp ev_I0 ev_J0 ev_R0 []) cz kz = ev_C G 18 [.ref 0, .int (xs 1), .int (xs 2), .int 1] (ev_hp ev_I0 ev_J0 ev_R0 []) fun r h1 c1 k1 => G 241 211 [ez_scr, .ref 0, .ref 35, .int 0] (r.toList ++ []) h1 (cz + c1) (kz + k1) := by
  intro G
  rfl
set_option maxRecDepth 100000 in
set_option maxHeartbeats 100000 in
theorem eo_grid_a_r157 (xs : Nat → Int32)  (cz kz : Nat) : ∀ G : ez_F, fx_up (4, xs) 2 G 241 211 [ez_scr, .ref 0, .ref 35, .int 0] [.int (-3)] (ev_hp ev_I0 ev_J0 ev_R0 []) cz kz = G 241 213 [ez_scr, .ref 0, .ref 35, .int 0] [ez_scr, .ref 35, .int (-3)] (ev_hp ev_I0 ev_J0 ev_R0 []) cz kz := by
  intro G
  rfl
set_option maxRecDepth 100000 in
set_option maxHeartbeats 100000 in
theorem eo_grid_a_r158 (xs : Nat → Int32)  (cz kz : Nat) : ∀ G : ez_F, fx_up (4, xs) 2 G 241 213 [ez_scr, .ref 0, .ref 35, .int 0] [ez_scr, .ref 35, .int (-3)] (ev_hp ev_I0 ev_J0 ev_R0 []) cz kz = G 241 215 [ez_scr, .ref 0, .ref 35, .int 0] [.int 1, .int 0, ez_scr, .ref 35, .int (-3)] (ev_hp ev_I0 ev_J0 ev_R0 []) cz kz := by
  intro G
  rfl
set_option maxRecDepth 100000 in
set_option maxHeartbeats 100000 in
theorem eo_grid_a_r159 (xs : Nat → Int32)  (cz kz : Nat) : ∀ G : ez_F, fx_up (4, xs) 2 G 241 215 [ez_scr, .ref 0, .ref 35, .int 0] [.int 1, .int 0, ez_scr, .ref 35, .int (-3)] (ev_hp ev_I0 ev_J0 ev_R0 []) cz kz = G 241 217 [ez_scr, .ref 0, .ref 35, .int 0] [.int (xs 1), .ref 35, .int (-3)] (ev_hp ev_I0 ev_J0 ev_R0 []) cz kz := by
  intro G
  rfl
set_option maxRecDepth 100000 in
set_option maxHeartbeats 100000 in
theorem eo_grid_a_r160 (xs : Nat → Int32)  (cz kz : Nat) : ∀ G : ez_F, fx_up (4, xs) 2 G 241 217 [ez_scr, .ref 0, .ref 35, .int 0] [.int (xs 1), .ref 35, .int (-3)] (ev_hp ev_I0 ev_J0 ev_R0 []) cz kz = G 241 219 [ez_scr, .ref 0, .ref 35, .int 0] [.int 0, ez_scr, .int (xs 1), .ref 35, .int (-3)] (ev_hp ev_I0 ev_J0 ev_R0 []) cz kz := by
  intro G
  rfl
set_option maxRecDepth 100000 in
set_option maxHeartbeats 100000 in
theorem eo_grid_a_r161 (xs : Nat → Int32)  (cz kz : Nat) : ∀ G : ez_F, fx_up (4, xs) 2 G 241 219 [ez_scr, .ref 0, .ref 35, .int 0] [.int 0, ez_scr, .int (xs 1), .ref 35, .int (-3)] (ev_hp ev_I0 ev_J0 ev_R0 []) cz kz = G 241 221 [ez_scr, .ref 0, .ref 35, .int 0] [.int 2, ez_scr, .int (xs 1), .ref 35, .int (-3)] (ev_hp ev_I0 ev_J0 ev_R0 []) cz kz := by
  intro G
  rfl
set_option maxRecDepth 100000 in
set_option maxHeartbeats 100000 in
theorem eo_grid_a_r162 (xs : Nat → Int32)  (cz kz : Nat) : ∀ G : ez_F, fx_up (4, xs) 2 G 241 221 [ez_scr, .ref 0, .ref 35, .int 0] [.int 2, ez_scr, .int (xs 1), .ref 35, .int (-3)] (ev_hp ev_I0 ev_J0 ev_R0 []) cz kz = G 241 223 [ez_scr, .ref 0, .ref 35, .int 0] [ez_scr, .int (xs 2), .int (xs 1), .ref 35, .int (-3)] (ev_hp ev_I0 ev_J0 ev_R0 []) cz kz := by
  intro G
  rfl
set_option maxRecDepth 100000 in
set_option maxHeartbeats 100000 in
theorem eo_grid_a_r163 (xs : Nat → Int32)  (cz kz : Nat) : ∀ G : ez_F, fx_up (4, xs) 2 G 241 223 [ez_scr, .ref 0, .ref 35, .int 0] [ez_scr, .int (xs 2), .int (xs 1), .ref 35, .int (-3)] (ev_hp ev_I0 ev_J0 ev_R0 []) cz kz = G 241 225 [ez_scr, .ref 0, .ref 35, .int 0] [.int 3, .int 0, ez_scr, .int (xs 2), .int (xs 1), .ref 35, .int (-3)] (ev_hp ev_I0 ev_J0 ev_R0 []) cz kz := by
  intro G
  rfl
set_option maxRecDepth 100000 in
set_option maxHeartbeats 100000 in
theorem eo_grid_a_r164 (xs : Nat → Int32)  (cz kz : Nat) : ∀ G : ez_F, fx_up (4, xs) 2 G 241 225 [ez_scr, .ref 0, .ref 35, .int 0] [.int 3, .int 0, ez_scr, .int (xs 2), .int (xs 1), .ref 35, .int (-3)] (ev_hp ev_I0 ev_J0 ev_R0 []) cz kz = G 241 227 [ez_scr, .ref 0, .ref 35, .int 0] [.int (xs 3), .int (xs 2), .int (xs 1), .ref 35, .int (-3)] (ev_hp ev_I0 ev_J0 ev_R0 []) cz kz := by
  intro G
  rfl
set_option maxRecDepth 100000 in
set_option maxHeartbeats 100000 in
theorem eo_grid_a_r165 (xs : Nat → Int32)  (cz kz : Nat) : ∀ G : ez_F, fx_up (4, xs) 1 G 241 227 [ez_scr, .ref 0, .ref 35, .int 0] [.int (xs 3), .int (xs 2), .int (xs 1), .ref 35, .int (-3)] (ev_hp ev_I0 ev_J0 ev_R0 []) cz kz = bif decide ((xs 3) = 0) then G 241 234 [ez_scr, .ref 0, .ref 35, .int 0] [.int (xs 2), .int (xs 1), .ref 35, .int (-3)] (ev_hp ev_I0 ev_J0 ev_R0 []) cz kz else G 241 230 [ez_scr, .ref 0, .ref 35, .int 0] [.int (xs 2), .int (xs 1), .ref 35, .int (-3)] (ev_hp ev_I0 ev_J0 ev_R0 []) cz kz := by
  intro G
  rfl
set_option maxRecDepth 100000 in
set_option maxHeartbeats 100000 in
theorem eo_grid_a_r166 (xs : Nat → Int32)  (cz kz : Nat) : ∀ G : ez_F, fx_up (4, xs) 2 G 241 234 [ez_scr, .ref 0, .ref 35, .int 0] [.int (xs 2), .int (xs 1), .ref 35, .int (-3)] (ev_hp ev_I0 ev_J0 ev_R0 []) cz kz = ev_C G 195 [.ref 35, .int (xs 1), .int (xs 2), .int 0] (ev_hp ev_I0 ev_J0 ev_R0 []) fun r h1 c1 k1 => G 241 238 [ez_scr, .ref 0, .ref 35, .int 0] (r.toList ++ [.int (-3)]) h1 (cz + c1) (kz + k1) := by
  intro G
  rfl
set_option maxRecDepth 100000 in
set_option maxHeartbeats 100000 in
theorem eo_grid_a_r167 (xs : Nat → Int32)  (cz kz : Nat) : ∀ G : ez_F, fx_up (4, xs) 2 G 241 238 [ez_scr, .ref 0, .ref 35, .int 0] [.int (-3), .int (-3)] (ev_hp ev_I0 ev_J0 ev_R0 []) cz kz = G 241 1078 [ez_scr, .ref 0, .ref 35, .int 4] [] (ev_hp ev_I0 ev_J0 ev_R0 []) cz kz := by
  intro G
  rfl
set_option maxRecDepth 100000 in
set_option maxHeartbeats 100000 in
theorem eo_grid_a_r168 (xs : Nat → Int32)  (cz kz : Nat) : ∀ G : ez_F, fx_up (4, xs) 2 G 241 1078 [ez_scr, .ref 0, .ref 35, .int 4] [] (ev_hp ev_I0 ev_J0 ev_R0 []) cz kz = G 241 19 [ez_scr, .ref 0, .ref 35, .int 4] [.int 4] (ev_hp ev_I0 ev_J0 ev_R0 []) cz kz := by
  intro G
  rfl
set_option maxRecDepth 100000 in
set_option maxHeartbeats 100000 in
theorem eo_grid_a_r169 (xs : Nat → Int32)  (cz kz : Nat) : ∀ G : ez_F, fx_up (4, xs) 2 G 241 19 [ez_scr, .ref 0, .ref 35, .int 4] [.int 4] (ev_hp ev_I0 ev_J0 ev_R0 []) cz kz = G 241 21 [ez_scr, .ref 0, .ref 35, .int 4] [.int 4, .int 4] (ev_hp ev_I0 ev_J0 ev_R0 []) cz kz := by
  intro G
  rfl
set_option maxRecDepth 100000 in
set_option maxHeartbeats 100000 in
theorem eo_grid_a_r170 (xs : Nat → Int32)  (cz kz : Nat) : ∀ G : ez_F, fx_up (4, xs) 2 G 241 21 [ez_scr, .ref 0, .ref 35, .int 4] [.int 4, .int 4] (ev_hp ev_I0 ev_J0 ev_R0 []) cz kz = G 241 23 [ez_scr, .ref 0, .ref 35, .int 4] [.int 0, .int 4] (ev_hp ev_I0 ev_J0 ev_R0 []) cz kz := by
  intro G
  rfl
set_option maxRecDepth 100000 in
set_option maxHeartbeats 100000 in
theorem eo_grid_a_r171 (xs : Nat → Int32)  (cz kz : Nat) : ∀ G : ez_F, fx_up (4, xs) 2 G 241 23 [ez_scr, .ref 0, .ref 35, .int 4] [.int 0, .int 4] (ev_hp ev_I0 ev_J0 ev_R0 []) cz kz = G 241 1082 [ez_scr, .ref 0, .ref 35, .int 4] [.int 1] (ev_hp ev_I0 ev_J0 ev_R0 []) cz kz := by
  intro G
  rfl
set_option maxRecDepth 100000 in
set_option maxHeartbeats 100000 in
theorem eo_grid_a_r172 (xs : Nat → Int32)  (cz kz : Nat) : ∀ G : ez_F, fx_up (4, xs) 1 G 241 1082 [ez_scr, .ref 0, .ref 35, .int 4] [.int 1] (ev_hp ev_I0 ev_J0 ev_R0 []) cz kz = some (some (.int 1), (ev_hp ev_I0 ev_J0 ev_R0 []), cz, kz) := by
  intro G
  rfl
set_option maxRecDepth 100000 in
set_option maxHeartbeats 100000 in
theorem eo_grid_a_r173 (xs : Nat → Int32) (q154 : Int32) (cz kz : Nat) : ∀ G : ez_F, fx_up (4, xs) 1 G 241 238 [ez_scr, .ref 0, .ref 35, .int 0] [.int q154, .int (-3)] (ev_hp (ev_sI (ev_sI ev_I0 35 (upd (upd (upd (upd (upd (upd (upd (ev_I0 35) 0 (xs 1)) 1 (xs 2)) 2 0) 3 0) 16 0) 9 0) 10 0)) 61 (upd (upd (upd (upd (upd (upd (upd (upd (upd (upd (upd (upd (ev_I0 61) 0 (-1)) 1 (-1)) 2 (-1)) 3 (-1)) 4 (-1)) 5 (-1)) 6 (-1)) 7 (-1)) 8 (-1)) 9 (-1)) 10 (-1)) 11 (-1))) ev_J0 ev_R0 []) cz kz = bif decide (((-3) : Int32) = q154) then G 241 1075 [ez_scr, .ref 0, .ref 35, .int 0] [] (ev_hp (ev_sI (ev_sI ev_I0 35 (upd (upd (upd (upd (upd (upd (upd (ev_I0 35) 0 (xs 1)) 1 (xs 2)) 2 0) 3 0) 16 0) 9 0) 10 0)) 61 (upd (upd (upd (upd (upd (upd (upd (upd (upd (upd (upd (upd (ev_I0 61) 0 (-1)) 1 (-1)) 2 (-1)) 3 (-1)) 4 (-1)) 5 (-1)) 6 (-1)) 7 (-1)) 8 (-1)) 9 (-1)) 10 (-1)) 11 (-1))) ev_J0 ev_R0 []) cz kz else G 241 241 [ez_scr, .ref 0, .ref 35, .int 0] [] (ev_hp (ev_sI (ev_sI ev_I0 35 (upd (upd (upd (upd (upd (upd (upd (ev_I0 35) 0 (xs 1)) 1 (xs 2)) 2 0) 3 0) 16 0) 9 0) 10 0)) 61 (upd (upd (upd (upd (upd (upd (upd (upd (upd (upd (upd (upd (ev_I0 61) 0 (-1)) 1 (-1)) 2 (-1)) 3 (-1)) 4 (-1)) 5 (-1)) 6 (-1)) 7 (-1)) 8 (-1)) 9 (-1)) 10 (-1)) 11 (-1))) ev_J0 ev_R0 []) cz kz := by
  intro G
  rfl
set_option maxRecDepth 100000 in
set_option maxHeartbeats 100000 in
theorem eo_grid_a_r174 (xs : Nat → Int32) (q154 : Int32) (cz kz : Nat) : ∀ G : ez_F, fx_up (4, xs) 2 G 241 1075 [ez_scr, .ref 0, .ref 35, .int 0] [] (ev_hp (ev_sI (ev_sI ev_I0 35 (upd (upd (upd (upd (upd (upd (upd (ev_I0 35) 0 (xs 1)) 1 (xs 2)) 2 0) 3 0) 16 0) 9 0) 10 0)) 61 (upd (upd (upd (upd (upd (upd (upd (upd (upd (upd (upd (upd (ev_I0 61) 0 (-1)) 1 (-1)) 2 (-1)) 3 (-1)) 4 (-1)) 5 (-1)) 6 (-1)) 7 (-1)) 8 (-1)) 9 (-1)) 10 (-1)) 11 (-1))) ev_J0 ev_R0 []) cz kz = G 241 18 [ez_scr, .ref 0, .ref 35, .int 4] [] (ev_hp (ev_sI (ev_sI ev_I0 35 (upd (upd (upd (upd (upd (upd (upd (ev_I0 35) 0 (xs 1)) 1 (xs 2)) 2 0) 3 0) 16 0) 9 0) 10 0)) 61 (upd (upd (upd (upd (upd (upd (upd (upd (upd (upd (upd (upd (ev_I0 61) 0 (-1)) 1 (-1)) 2 (-1)) 3 (-1)) 4 (-1)) 5 (-1)) 6 (-1)) 7 (-1)) 8 (-1)) 9 (-1)) 10 (-1)) 11 (-1))) ev_J0 ev_R0 []) cz kz := by
  intro G
  rfl
set_option maxRecDepth 100000 in
set_option maxHeartbeats 100000 in
theorem eo_grid_a_r175 (xs : Nat → Int32) (q154 : Int32) (cz kz : Nat) : ∀ G : ez_F, fx_up (4, xs) 2 G 241 18 [ez_scr, .ref 0, .ref 35, .int 4] [] (ev_hp (ev_sI (ev_sI ev_I0 35 (upd (upd (upd (upd (upd (upd (upd (ev_I0 35) 0 (xs 1)) 1 (xs 2)) 2 0) 3 0) 16 0) 9 0) 10 0)) 61 (upd (upd (upd (upd (upd (upd (upd (upd (upd (upd (upd (upd (ev_I0 61) 0 (-1)) 1 (-1)) 2 (-1)) 3 (-1)) 4 (-1)) 5 (-1)) 6 (-1)) 7 (-1)) 8 (-1)) 9 (-1)) 10 (-1)) 11 (-1))) ev_J0 ev_R0 []) cz kz = G 241 20 [ez_scr, .ref 0, .ref 35, .int 4] [ez_scr, .int 4] (ev_hp (ev_sI (ev_sI ev_I0 35 (upd (upd (upd (upd (upd (upd (upd (ev_I0 35) 0 (xs 1)) 1 (xs 2)) 2 0) 3 0) 16 0) 9 0) 10 0)) 61 (upd (upd (upd (upd (upd (upd (upd (upd (upd (upd (upd (upd (ev_I0 61) 0 (-1)) 1 (-1)) 2 (-1)) 3 (-1)) 4 (-1)) 5 (-1)) 6 (-1)) 7 (-1)) 8 (-1)) 9 (-1)) 10 (-1)) 11 (-1))) ev_J0 ev_R0 []) cz kz := by
  intro G
  rfl
set_option maxRecDepth 100000 in
set_option maxHeartbeats 100000 in
theorem eo_grid_a_r176 (xs : Nat → Int32) (q154 : Int32) (cz kz : Nat) : ∀ G : ez_F, fx_up (4, xs) 2 G 241 20 [ez_scr, .ref 0, .ref 35, .int 4] [ez_scr, .int 4] (ev_hp (ev_sI (ev_sI ev_I0 35 (upd (upd (upd (upd (upd (upd (upd (ev_I0 35) 0 (xs 1)) 1 (xs 2)) 2 0) 3 0) 16 0) 9 0) 10 0)) 61 (upd (upd (upd (upd (upd (upd (upd (upd (upd (upd (upd (upd (ev_I0 61) 0 (-1)) 1 (-1)) 2 (-1)) 3 (-1)) 4 (-1)) 5 (-1)) 6 (-1)) 7 (-1)) 8 (-1)) 9 (-1)) 10 (-1)) 11 (-1))) ev_J0 ev_R0 []) cz kz = G 241 22 [ez_scr, .ref 0, .ref 35, .int 4] [.int 4, .int 4, .int 4] (ev_hp (ev_sI (ev_sI ev_I0 35 (upd (upd (upd (upd (upd (upd (upd (ev_I0 35) 0 (xs 1)) 1 (xs 2)) 2 0) 3 0) 16 0) 9 0) 10 0)) 61 (upd (upd (upd (upd (upd (upd (upd (upd (upd (upd (upd (upd (ev_I0 61) 0 (-1)) 1 (-1)) 2 (-1)) 3 (-1)) 4 (-1)) 5 (-1)) 6 (-1)) 7 (-1)) 8 (-1)) 9 (-1)) 10 (-1)) 11 (-1))) ev_J0 ev_R0 []) cz kz := by
  intro G
  rfl
set_option maxRecDepth 100000 in
set_option maxHeartbeats 100000 in
theorem eo_grid_a_r177 (xs : Nat → Int32) (q154 : Int32) (cz kz : Nat) : ∀ G : ez_F, fx_up (4, xs) 2 G 241 22 [ez_scr, .ref 0, .ref 35, .int 4] [.int 4, .int 4, .int 4] (ev_hp (ev_sI (ev_sI ev_I0 35 (upd (upd (upd (upd (upd (upd (upd (ev_I0 35) 0 (xs 1)) 1 (xs 2)) 2 0) 3 0) 16 0) 9 0) 10 0)) 61 (upd (upd (upd (upd (upd (upd (upd (upd (upd (upd (upd (upd (ev_I0 61) 0 (-1)) 1 (-1)) 2 (-1)) 3 (-1)) 4 (-1)) 5 (-1)) 6 (-1)) 7 (-1)) 8 (-1)) 9 (-1)) 10 (-1)) 11 (-1))) ev_J0 ev_R0 []) cz kz = G 241 1081 [ez_scr, .ref 0, .ref 35, .int 4] [] (ev_hp (ev_sI (ev_sI ev_I0 35 (upd (upd (upd (upd (upd (upd (upd (ev_I0 35) 0 (xs 1)) 1 (xs 2)) 2 0) 3 0) 16 0) 9 0) 10 0)) 61 (upd (upd (upd (upd (upd (upd (upd (upd (upd (upd (upd (upd (ev_I0 61) 0 (-1)) 1 (-1)) 2 (-1)) 3 (-1)) 4 (-1)) 5 (-1)) 6 (-1)) 7 (-1)) 8 (-1)) 9 (-1)) 10 (-1)) 11 (-1))) ev_J0 ev_R0 []) cz kz := by
  intro G
  rfl
set_option maxRecDepth 100000 in
set_option maxHeartbeats 100000 in
theorem eo_grid_a_r178 (xs : Nat → Int32) (q154 : Int32) (cz kz : Nat) : ∀ G : ez_F, fx_up (4, xs) 2 G 241 1081 [ez_scr, .ref 0, .ref 35, .int 4] [] (ev_hp (ev_sI (ev_sI ev_I0 35 (upd (upd (upd (upd (upd (upd (upd (ev_I0 35) 0 (xs 1)) 1 (xs 2)) 2 0) 3 0) 16 0) 9 0) 10 0)) 61 (upd (upd (upd (upd (upd (upd (upd (upd (upd (upd (upd (upd (ev_I0 61) 0 (-1)) 1 (-1)) 2 (-1)) 3 (-1)) 4 (-1)) 5 (-1)) 6 (-1)) 7 (-1)) 8 (-1)) 9 (-1)) 10 (-1)) 11 (-1))) ev_J0 ev_R0 []) cz kz = some (some (.int 1), (ev_hp (ev_sI (ev_sI ev_I0 35 (upd (upd (upd (upd (upd (upd (upd (ev_I0 35) 0 (xs 1)) 1 (xs 2)) 2 0) 3 0) 16 0) 9 0) 10 0)) 61 (upd (upd (upd (upd (upd (upd (upd (upd (upd (upd (upd (upd (ev_I0 61) 0 (-1)) 1 (-1)) 2 (-1)) 3 (-1)) 4 (-1)) 5 (-1)) 6 (-1)) 7 (-1)) 8 (-1)) 9 (-1)) 10 (-1)) 11 (-1))) ev_J0 ev_R0 []), cz, kz) := by
  intro G
  rfl
set_option maxRecDepth 100000 in
set_option maxHeartbeats 100000 in
theorem eo_grid_a_r179 (xs : Nat → Int32)  (cz kz : Nat) : ∀ G : ez_F, fx_up (4, xs) 2 G 241 238 [ez_scr, .ref 0, .ref 35, .int 0] [.int (-3), .int (-3)] (ev_hp ev_I0 ev_J0 ev_R0 []) cz kz = G 241 1078 [ez_scr, .ref 0, .ref 35, .int 4] [] (ev_hp ev_I0 ev_J0 ev_R0 []) cz kz := by
  intro G
  rfl
set_option maxRecDepth 100000 in
set_option maxHeartbeats 100000 in
theorem eo_grid_a_r180 (xs : Nat → Int32)  (cz kz : Nat) : ∀ G : ez_F, fx_up (4, xs) 2 G 241 1078 [ez_scr, .ref 0, .ref 35, .int 4] [] (ev_hp ev_I0 ev_J0 ev_R0 []) cz kz = G 241 19 [ez_scr, .ref 0, .ref 35, .int 4] [.int 4] (ev_hp ev_I0 ev_J0 ev_R0 []) cz kz := by
  intro G
  rfl
set_option maxRecDepth 100000 in
set_option maxHeartbeats 100000 in
theorem eo_grid_a_r181 (xs : Nat → Int32)  (cz kz : Nat) : ∀ G : ez_F, fx_up (4, xs) 2 G 241 19 [ez_scr, .ref 0, .ref 35, .int 4] [.int 4] (ev_hp ev_I0 ev_J0 ev_R0 []) cz kz = G 241 21 [ez_scr, .ref 0, .ref 35, .int 4] [.int 4, .int 4] (ev_hp ev_I0 ev_J0 ev_R0 []) cz kz := by
  intro G
  rfl
set_option maxRecDepth 100000 in
set_option maxHeartbeats 100000 in
theorem eo_grid_a_r182 (xs : Nat → Int32)  (cz kz : Nat) : ∀ G : ez_F, fx_up (4, xs) 2 G 241 21 [ez_scr, .ref 0, .ref 35, .int 4] [.int 4, .int 4] (ev_hp ev_I0 ev_J0 ev_R0 []) cz kz = G 241 23 [ez_scr, .ref 0, .ref 35, .int 4] [.int 0, .int 4] (ev_hp ev_I0 ev_J0 ev_R0 []) cz kz := by
  intro G
  rfl
set_option maxRecDepth 100000 in
set_option maxHeartbeats 100000 in
theorem eo_grid_a_r183 (xs : Nat → Int32)  (cz kz : Nat) : ∀ G : ez_F, fx_up (4, xs) 2 G 241 23 [ez_scr, .ref 0, .ref 35, .int 4] [.int 0, .int 4] (ev_hp ev_I0 ev_J0 ev_R0 []) cz kz = G 241 1082 [ez_scr, .ref 0, .ref 35, .int 4] [.int 1] (ev_hp ev_I0 ev_J0 ev_R0 []) cz kz := by
  intro G
  rfl
set_option maxRecDepth 100000 in
set_option maxHeartbeats 100000 in
theorem eo_grid_a_r184 (xs : Nat → Int32)  (cz kz : Nat) : ∀ G : ez_F, fx_up (4, xs) 1 G 241 1082 [ez_scr, .ref 0, .ref 35, .int 4] [.int 1] (ev_hp ev_I0 ev_J0 ev_R0 []) cz kz = some (some (.int 1), (ev_hp ev_I0 ev_J0 ev_R0 []), cz, kz) := by
  intro G
  rfl
set_option maxRecDepth 100000 in
set_option maxHeartbeats 100000 in
theorem eo_grid_a_r185 (xs : Nat → Int32)  (cz kz : Nat) : ∀ G : ez_F, fx_up (4, xs) 2 G 241 230 [ez_scr, .ref 0, .ref 35, .int 0] [.int (xs 2), .int (xs 1), .ref 35, .int (-3)] (ev_hp ev_I0 ev_J0 ev_R0 []) cz kz = G 241 235 [ez_scr, .ref 0, .ref 35, .int 0] [.int 1, .int (xs 2), .int (xs 1), .ref 35, .int (-3)] (ev_hp ev_I0 ev_J0 ev_R0 []) cz kz := by
  intro G
  rfl
set_option maxRecDepth 100000 in
set_option maxHeartbeats 100000 in
theorem eo_grid_a_r186 (xs : Nat → Int32)  (cz kz : Nat) : ∀ G : ez_F, fx_up (4, xs) 1 G 241 235 [ez_scr, .ref 0, .ref 35, .int 0] [.int 1, .int (xs 2), .int (xs 1), .ref 35, .int (-3)] (ev_hp ev_I0 ev_J0 ev_R0 []) cz kz = ev_C G 195 [.ref 35, .int (xs 1), .int (xs 2), .int 1] (ev_hp ev_I0 ev_J0 ev_R0 []) fun r h1 c1 k1 => G 241 238 [ez_scr, .ref 0, .ref 35, .int 0] (r.toList ++ [.int (-3)]) h1 (cz + c1) (kz + k1) := by
  intro G
  rfl
set_option maxRecDepth 100000 in
set_option maxHeartbeats 100000 in
theorem eo_grid_a_r187 (xs : Nat → Int32)  (cz kz : Nat) : ∀ G : ez_F, fx_up (4, xs) 2 G 241 238 [ez_scr, .ref 0, .ref 35, .int 0] [.int (-3), .int (-3)] (ev_hp ev_I0 ev_J0 ev_R0 []) cz kz = G 241 1078 [ez_scr, .ref 0, .ref 35, .int 4] [] (ev_hp ev_I0 ev_J0 ev_R0 []) cz kz := by
  intro G
  rfl
set_option maxRecDepth 100000 in
set_option maxHeartbeats 100000 in
theorem eo_grid_a_r188 (xs : Nat → Int32)  (cz kz : Nat) : ∀ G : ez_F, fx_up (4, xs) 2 G 241 1078 [ez_scr, .ref 0, .ref 35, .int 4] [] (ev_hp ev_I0 ev_J0 ev_R0 []) cz kz = G 241 19 [ez_scr, .ref 0, .ref 35, .int 4] [.int 4] (ev_hp ev_I0 ev_J0 ev_R0 []) cz kz := by
  intro G
  rfl
set_option maxRecDepth 100000 in
set_option maxHeartbeats 100000 in
theorem eo_grid_a_r189 (xs : Nat → Int32)  (cz kz : Nat) : ∀ G : ez_F, fx_up (4, xs) 2 G 241 19 [ez_scr, .ref 0, .ref 35, .int 4] [.int 4] (ev_hp ev_I0 ev_J0 ev_R0 []) cz kz = G 241 21 [ez_scr, .ref 0, .ref 35, .int 4] [.int 4, .int 4] (ev_hp ev_I0 ev_J0 ev_R0 []) cz kz := by
  intro G
  rfl
set_option maxRecDepth 100000 in
set_option maxHeartbeats 100000 in
theorem eo_grid_a_r190 (xs : Nat → Int32)  (cz kz : Nat) : ∀ G : ez_F, fx_up (4, xs) 2 G 241 21 [ez_scr, .ref 0, .ref 35, .int 4] [.int 4, .int 4] (ev_hp ev_I0 ev_J0 ev_R0 []) cz kz = G 241 23 [ez_scr, .ref 0, .ref 35, .int 4] [.int 0, .int 4] (ev_hp ev_I0 ev_J0 ev_R0 []) cz kz := by
  intro G
  rfl
set_option maxRecDepth 100000 in
set_option maxHeartbeats 100000 in
theorem eo_grid_a_r191 (xs : Nat → Int32)  (cz kz : Nat) : ∀ G : ez_F, fx_up (4, xs) 2 G 241 23 [ez_scr, .ref 0, .ref 35, .int 4] [.int 0, .int 4] (ev_hp ev_I0 ev_J0 ev_R0 []) cz kz = G 241 1082 [ez_scr, .ref 0, .ref 35, .int 4] [.int 1] (ev_hp ev_I0 ev_J0 ev_R0 []) cz kz := by
  intro G
  rfl
set_option maxRecDepth 100000 in
set_option maxHeartbeats 100000 in
theorem eo_grid_a_r192 (xs : Nat → Int32)  (cz kz : Nat) : ∀ G : ez_F, fx_up (4, xs) 1 G 241 1082 [ez_scr, .ref 0, .ref 35, .int 4] [.int 1] (ev_hp ev_I0 ev_J0 ev_R0 []) cz kz = some (some (.int 1), (ev_hp ev_I0 ev_J0 ev_R0 []), cz, kz) := by
  intro G
  rfl
set_option maxRecDepth 100000 in
set_option maxHeartbeats 100000 in
theorem eo_grid_a_r193 (xs : Nat → Int32) (q155 : Int32) (cz kz : Nat) : ∀ G : ez_F, fx_up (4, xs) 1 G 241 238 [ez_scr, .ref 0, .ref 35, .int 0] [.int q155, .int (-3)] (ev_hp (ev_sI (ev_sI ev_I0 35 (upd (upd (upd (upd (upd (upd (upd (ev_I0 35) 0 (xs 1)) 1 (xs 2)) 2 1) 3 0) 16 0) 9 0) 10 0)) 61 (upd (upd (upd (upd (upd (upd (upd (upd (upd (upd (upd (upd (ev_I0 61) 0 (-1)) 1 (-1)) 2 (-1)) 3 (-1)) 4 (-1)) 5 (-1)) 6 (-1)) 7 (-1)) 8 (-1)) 9 (-1)) 10 (-1)) 11 (-1))) ev_J0 ev_R0 []) cz kz = bif decide (((-3) : Int32) = q155) then G 241 1075 [ez_scr, .ref 0, .ref 35, .int 0] [] (ev_hp (ev_sI (ev_sI ev_I0 35 (upd (upd (upd (upd (upd (upd (upd (ev_I0 35) 0 (xs 1)) 1 (xs 2)) 2 1) 3 0) 16 0) 9 0) 10 0)) 61 (upd (upd (upd (upd (upd (upd (upd (upd (upd (upd (upd (upd (ev_I0 61) 0 (-1)) 1 (-1)) 2 (-1)) 3 (-1)) 4 (-1)) 5 (-1)) 6 (-1)) 7 (-1)) 8 (-1)) 9 (-1)) 10 (-1)) 11 (-1))) ev_J0 ev_R0 []) cz kz else G 241 241 [ez_scr, .ref 0, .ref 35, .int 0] [] (ev_hp (ev_sI (ev_sI ev_I0 35 (upd (upd (upd (upd (upd (upd (upd (ev_I0 35) 0 (xs 1)) 1 (xs 2)) 2 1) 3 0) 16 0) 9 0) 10 0)) 61 (upd (upd (upd (upd (upd (upd (upd (upd (upd (upd (upd (upd (ev_I0 61) 0 (-1)) 1 (-1)) 2 (-1)) 3 (-1)) 4 (-1)) 5 (-1)) 6 (-1)) 7 (-1)) 8 (-1)) 9 (-1)) 10 (-1)) 11 (-1))) ev_J0 ev_R0 []) cz kz := by
  intro G
  rfl
set_option maxRecDepth 100000 in
set_option maxHeartbeats 100000 in
theorem eo_grid_a_r194 (xs : Nat → Int32) (q155 : Int32) (cz kz : Nat) : ∀ G : ez_F, fx_up (4, xs) 2 G 241 1075 [ez_scr, .ref 0, .ref 35, .int 0] [] (ev_hp (ev_sI (ev_sI ev_I0 35 (upd (upd (upd (upd (upd (upd (upd (ev_I0 35) 0 (xs 1)) 1 (xs 2)) 2 1) 3 0) 16 0) 9 0) 10 0)) 61 (upd (upd (upd (upd (upd (upd (upd (upd (upd (upd (upd (upd (ev_I0 61) 0 (-1)) 1 (-1)) 2 (-1)) 3 (-1)) 4 (-1)) 5 (-1)) 6 (-1)) 7 (-1)) 8 (-1)) 9 (-1)) 10 (-1)) 11 (-1))) ev_J0 ev_R0 []) cz kz = G 241 18 [ez_scr, .ref 0, .ref 35, .int 4] [] (ev_hp (ev_sI (ev_sI ev_I0 35 (upd (upd (upd (upd (upd (upd (upd (ev_I0 35) 0 (xs 1)) 1 (xs 2)) 2 1) 3 0) 16 0) 9 0) 10 0)) 61 (upd (upd (upd (upd (upd (upd (upd (upd (upd (upd (upd (upd (ev_I0 61) 0 (-1)) 1 (-1)) 2 (-1)) 3 (-1)) 4 (-1)) 5 (-1)) 6 (-1)) 7 (-1)) 8 (-1)) 9 (-1)) 10 (-1)) 11 (-1))) ev_J0 ev_R0 []) cz kz := by
  intro G
  rfl
set_option maxRecDepth 100000 in
set_option maxHeartbeats 100000 in
theorem eo_grid_a_r195 (xs : Nat → Int32) (q155 : Int32) (cz kz : Nat) : ∀ G : ez_F, fx_up (4, xs) 2 G 241 18 [ez_scr, .ref 0, .ref 35, .int 4] [] (ev_hp (ev_sI (ev_sI ev_I0 35 (upd (upd (upd (upd (upd (upd (upd (ev_I0 35) 0 (xs 1)) 1 (xs 2)) 2 1) 3 0) 16 0) 9 0) 10 0)) 61 (upd (upd (upd (upd (upd (upd (upd (upd (upd (upd (upd (upd (ev_I0 61) 0 (-1)) 1 (-1)) 2 (-1)) 3 (-1)) 4 (-1)) 5 (-1)) 6 (-1)) 7 (-1)) 8 (-1)) 9 (-1)) 10 (-1)) 11 (-1))) ev_J0 ev_R0 []) cz kz = G 241 20 [ez_scr, .ref 0, .ref 35, .int 4] [ez_scr, .int 4] (ev_hp (ev_sI (ev_sI ev_I0 35 (upd (upd (upd (upd (upd (upd (upd (ev_I0 35) 0 (xs 1)) 1 (xs 2)) 2 1) 3 0) 16 0) 9 0) 10 0)) 61 (upd (upd (upd (upd (upd (upd (upd (upd (upd (upd (upd (upd (ev_I0 61) 0 (-1)) 1 (-1)) 2 (-1)) 3 (-1)) 4 (-1)) 5 (-1)) 6 (-1)) 7 (-1)) 8 (-1)) 9 (-1)) 10 (-1)) 11 (-1))) ev_J0 ev_R0 []) cz kz := by
  intro G
  rfl
set_option maxRecDepth 100000 in
set_option maxHeartbeats 100000 in
theorem eo_grid_a_r196 (xs : Nat → Int32) (q155 : Int32) (cz kz : Nat) : ∀ G : ez_F, fx_up (4, xs) 2 G 241 20 [ez_scr, .ref 0, .ref 35, .int 4] [ez_scr, .int 4] (ev_hp (ev_sI (ev_sI ev_I0 35 (upd (upd (upd (upd (upd (upd (upd (ev_I0 35) 0 (xs 1)) 1 (xs 2)) 2 1) 3 0) 16 0) 9 0) 10 0)) 61 (upd (upd (upd (upd (upd (upd (upd (upd (upd (upd (upd (upd (ev_I0 61) 0 (-1)) 1 (-1)) 2 (-1)) 3 (-1)) 4 (-1)) 5 (-1)) 6 (-1)) 7 (-1)) 8 (-1)) 9 (-1)) 10 (-1)) 11 (-1))) ev_J0 ev_R0 []) cz kz = G 241 22 [ez_scr, .ref 0, .ref 35, .int 4] [.int 4, .int 4, .int 4] (ev_hp (ev_sI (ev_sI ev_I0 35 (upd (upd (upd (upd (upd (upd (upd (ev_I0 35) 0 (xs 1)) 1 (xs 2)) 2 1) 3 0) 16 0) 9 0) 10 0)) 61 (upd (upd (upd (upd (upd (upd (upd (upd (upd (upd (upd (upd (ev_I0 61) 0 (-1)) 1 (-1)) 2 (-1)) 3 (-1)) 4 (-1)) 5 (-1)) 6 (-1)) 7 (-1)) 8 (-1)) 9 (-1)) 10 (-1)) 11 (-1))) ev_J0 ev_R0 []) cz kz := by
  intro G
  rfl
set_option maxRecDepth 100000 in
set_option maxHeartbeats 100000 in
theorem eo_grid_a_r197 (xs : Nat → Int32) (q155 : Int32) (cz kz : Nat) : ∀ G : ez_F, fx_up (4, xs) 2 G 241 22 [ez_scr, .ref 0, .ref 35, .int 4] [.int 4, .int 4, .int 4] (ev_hp (ev_sI (ev_sI ev_I0 35 (upd (upd (upd (upd (upd (upd (upd (ev_I0 35) 0 (xs 1)) 1 (xs 2)) 2 1) 3 0) 16 0) 9 0) 10 0)) 61 (upd (upd (upd (upd (upd (upd (upd (upd (upd (upd (upd (upd (ev_I0 61) 0 (-1)) 1 (-1)) 2 (-1)) 3 (-1)) 4 (-1)) 5 (-1)) 6 (-1)) 7 (-1)) 8 (-1)) 9 (-1)) 10 (-1)) 11 (-1))) ev_J0 ev_R0 []) cz kz = G 241 1081 [ez_scr, .ref 0, .ref 35, .int 4] [] (ev_hp (ev_sI (ev_sI ev_I0 35 (upd (upd (upd (upd (upd (upd (upd (ev_I0 35) 0 (xs 1)) 1 (xs 2)) 2 1) 3 0) 16 0) 9 0) 10 0)) 61 (upd (upd (upd (upd (upd (upd (upd (upd (upd (upd (upd (upd (ev_I0 61) 0 (-1)) 1 (-1)) 2 (-1)) 3 (-1)) 4 (-1)) 5 (-1)) 6 (-1)) 7 (-1)) 8 (-1)) 9 (-1)) 10 (-1)) 11 (-1))) ev_J0 ev_R0 []) cz kz := by
  intro G
  rfl
set_option maxRecDepth 100000 in
set_option maxHeartbeats 100000 in
theorem eo_grid_a_r198 (xs : Nat → Int32) (q155 : Int32) (cz kz : Nat) : ∀ G : ez_F, fx_up (4, xs) 2 G 241 1081 [ez_scr, .ref 0, .ref 35, .int 4] [] (ev_hp (ev_sI (ev_sI ev_I0 35 (upd (upd (upd (upd (upd (upd (upd (ev_I0 35) 0 (xs 1)) 1 (xs 2)) 2 1) 3 0) 16 0) 9 0) 10 0)) 61 (upd (upd (upd (upd (upd (upd (upd (upd (upd (upd (upd (upd (ev_I0 61) 0 (-1)) 1 (-1)) 2 (-1)) 3 (-1)) 4 (-1)) 5 (-1)) 6 (-1)) 7 (-1)) 8 (-1)) 9 (-1)) 10 (-1)) 11 (-1))) ev_J0 ev_R0 []) cz kz = some (some (.int 1), (ev_hp (ev_sI (ev_sI ev_I0 35 (upd (upd (upd (upd (upd (upd (upd (ev_I0 35) 0 (xs 1)) 1 (xs 2)) 2 1) 3 0) 16 0) 9 0) 10 0)) 61 (upd (upd (upd (upd (upd (upd (upd (upd (upd (upd (upd (upd (ev_I0 61) 0 (-1)) 1 (-1)) 2 (-1)) 3 (-1)) 4 (-1)) 5 (-1)) 6 (-1)) 7 (-1)) 8 (-1)) 9 (-1)) 10 (-1)) 11 (-1))) ev_J0 ev_R0 []), cz, kz) := by
  intro G
  rfl
set_option maxRecDepth 100000 in
set_option maxHeartbeats 100000 in
theorem eo_grid_a_r199 (xs : Nat → Int32)  (cz kz : Nat) : ∀ G : ez_F, fx_up (4, xs) 2 G 241 238 [ez_scr, .ref 0, .ref 35, .int 0] [.int (-3), .int (-3)] (ev_hp ev_I0 ev_J0 ev_R0 []) cz kz = G 241 1078 [ez_scr, .ref 0, .ref 35, .int 4] [] (ev_hp ev_I0 ev_J0 ev_R0 []) cz kz := by
  intro G
  rfl
set_option maxRecDepth 100000 in
set_option maxHeartbeats 100000 in
theorem eo_grid_a_r200 (xs : Nat → Int32)  (cz kz : Nat) : ∀ G : ez_F, fx_up (4, xs) 2 G 241 1078 [ez_scr, .ref 0, .ref 35, .int 4] [] (ev_hp ev_I0 ev_J0 ev_R0 []) cz kz = G 241 19 [ez_scr, .ref 0, .ref 35, .int 4] [.int 4] (ev_hp ev_I0 ev_J0 ev_R0 []) cz kz := by
  intro G
  rfl
set_option maxRecDepth 100000 in
set_option maxHeartbeats 100000 in
theorem eo_grid_a_r201 (xs : Nat → Int32)  (cz kz : Nat) : ∀ G : ez_F, fx_up (4, xs) 2 G 241 19 [ez_scr, .ref 0, .ref 35, .int 4] [.int 4] (ev_hp ev_I0 ev_J0 ev_R0 []) cz kz = G 241 21 [ez_scr, .ref 0, .ref 35, .int 4] [.int 4, .int 4] (ev_hp ev_I0 ev_J0 ev_R0 []) cz kz := by
  intro G
  rfl
set_option maxRecDepth 100000 in
set_option maxHeartbeats 100000 in
theorem eo_grid_a_r202 (xs : Nat → Int32)  (cz kz : Nat) : ∀ G : ez_F, fx_up (4, xs) 2 G 241 21 [ez_scr, .ref 0, .ref 35, .int 4] [.int 4, .int 4] (ev_hp ev_I0 ev_J0 ev_R0 []) cz kz = G 241 23 [ez_scr, .ref 0, .ref 35, .int 4] [.int 0, .int 4] (ev_hp ev_I0 ev_J0 ev_R0 []) cz kz := by
  intro G
  rfl
set_option maxRecDepth 100000 in
set_option maxHeartbeats 100000 in
theorem eo_grid_a_r203 (xs : Nat → Int32)  (cz kz : Nat) : ∀ G : ez_F, fx_up (4, xs) 2 G 241 23 [ez_scr, .ref 0, .ref 35, .int 4] [.int 0, .int 4] (ev_hp ev_I0 ev_J0 ev_R0 []) cz kz = G 241 1082 [ez_scr, .ref 0, .ref 35, .int 4] [.int 1] (ev_hp ev_I0 ev_J0 ev_R0 []) cz kz := by
  intro G
  rfl
set_option maxRecDepth 100000 in
set_option maxHeartbeats 100000 in
theorem eo_grid_a_r204 (xs : Nat → Int32)  (cz kz : Nat) : ∀ G : ez_F, fx_up (4, xs) 1 G 241 1082 [ez_scr, .ref 0, .ref 35, .int 4] [.int 1] (ev_hp ev_I0 ev_J0 ev_R0 []) cz kz = some (some (.int 1), (ev_hp ev_I0 ev_J0 ev_R0 []), cz, kz) := by
  intro G
  rfl
set_option maxRecDepth 100000 in
set_option maxHeartbeats 100000 in
theorem eo_grid_a_r205 (xs : Nat → Int32) (x164 : Int64) (x165 : Int64) (x166 : Nat → Int32) (q153 : Int32) (cz kz : Nat) : ∀ G : ez_F, fx_up (4, xs) 2 G 241 211 [ez_scr, .ref 0, .ref 35, .int 0] [.int q153] (ev_hp (ev_sI (ev_sI (ev_sI (ev_sI (ev_sI (ev_sI (ev_sI (ev_sI ev_I0 1 (upd (upd (upd (upd (upd (upd (ev_I0 1) 3 (xs 1)) 4 (xs 2)) 5 1) 6 ((xs 1) * (xs 2))) 1 0) 2 0)) 3 (upd (ev_I0 3) 3 0)) 6 (upd (ev_I0 6) 4 0)) 8 (upd (ev_I0 8) 1 0)) 13 (upd (upd (ev_I0 13) 8 0) 9 0)) 20 (upd (ev_I0 20) 3 0)) 22 (upd (upd (ev_I0 22) 8 0) 11 (-1))) 33 x166) (ev_sJ (ev_sJ ev_J0 1 (vp_updL (vp_updL (vp_updL (ev_J0 1) 7 (((1 : Int64) <<< (((xs 1) * (xs 2)).toInt64 &&& 63)) - (1 : Int64))) 8 x164) 9 x165)) 8 (vp_updL (vp_updL (ev_J0 8) 2 0) 3 0)) ev_R0 []) cz kz = G 241 213 [ez_scr, .ref 0, .ref 35, .int 0] [ez_scr, .ref 35, .int q153] (ev_hp (ev_sI (ev_sI (ev_sI (ev_sI (ev_sI (ev_sI (ev_sI (ev_sI ev_I0 1 (upd (upd (upd (upd (upd (upd (ev_I0 1) 3 (xs 1)) 4 (xs 2)) 5 1) 6 ((xs 1) * (xs 2))) 1 0) 2 0)) 3 (upd (ev_I0 3) 3 0)) 6 (upd (ev_I0 6) 4 0)) 8 (upd (ev_I0 8) 1 0)) 13 (upd (upd (ev_I0 13) 8 0) 9 0)) 20 (upd (ev_I0 20) 3 0)) 22 (upd (upd (ev_I0 22) 8 0) 11 (-1))) 33 x166) (ev_sJ (ev_sJ ev_J0 1 (vp_updL (vp_updL (vp_updL (ev_J0 1) 7 (((1 : Int64) <<< (((xs 1) * (xs 2)).toInt64 &&& 63)) - (1 : Int64))) 8 x164) 9 x165)) 8 (vp_updL (vp_updL (ev_J0 8) 2 0) 3 0)) ev_R0 []) cz kz := by
  intro G
  rfl
set_option maxRecDepth 100000 in
set_option maxHeartbeats 100000 in
theorem eo_grid_a_r206 (xs : Nat → Int32) (x164 : Int64) (x165 : Int64) (x166 : Nat → Int32) (q153 : Int32) (cz kz : Nat) : ∀ G : ez_F, fx_up (4, xs) 2 G 241 213 [ez_scr, .ref 0, .ref 35, .int 0] [ez_scr, .ref 35, .int q153] (ev_hp (ev_sI (ev_sI (ev_sI (ev_sI (ev_sI (ev_sI (ev_sI (ev_sI ev_I0 1 (upd (upd (upd (upd (upd (upd (ev_I0 1) 3 (xs 1)) 4 (xs 2)) 5 1) 6 ((xs 1) * (xs 2))) 1 0) 2 0)) 3 (upd (ev_I0 3) 3 0)) 6 (upd (ev_I0 6) 4 0)) 8 (upd (ev_I0 8) 1 0)) 13 (upd (upd (ev_I0 13) 8 0) 9 0)) 20 (upd (ev_I0 20) 3 0)) 22 (upd (upd (ev_I0 22) 8 0) 11 (-1))) 33 x166) (ev_sJ (ev_sJ ev_J0 1 (vp_updL (vp_updL (vp_updL (ev_J0 1) 7 (((1 : Int64) <<< (((xs 1) * (xs 2)).toInt64 &&& 63)) - (1 : Int64))) 8 x164) 9 x165)) 8 (vp_updL (vp_updL (ev_J0 8) 2 0) 3 0)) ev_R0 []) cz kz = G 241 215 [ez_scr, .ref 0, .ref 35, .int 0] [.int 1, .int 0, ez_scr, .ref 35, .int q153] (ev_hp (ev_sI (ev_sI (ev_sI (ev_sI (ev_sI (ev_sI (ev_sI (ev_sI ev_I0 1 (upd (upd (upd (upd (upd (upd (ev_I0 1) 3 (xs 1)) 4 (xs 2)) 5 1) 6 ((xs 1) * (xs 2))) 1 0) 2 0)) 3 (upd (ev_I0 3) 3 0)) 6 (upd (ev_I0 6) 4 0)) 8 (upd (ev_I0 8) 1 0)) 13 (upd (upd (ev_I0 13) 8 0) 9 0)) 20 (upd (ev_I0 20) 3 0)) 22 (upd (upd (ev_I0 22) 8 0) 11 (-1))) 33 x166) (ev_sJ (ev_sJ ev_J0 1 (vp_updL (vp_updL (vp_updL (ev_J0 1) 7 (((1 : Int64) <<< (((xs 1) * (xs 2)).toInt64 &&& 63)) - (1 : Int64))) 8 x164) 9 x165)) 8 (vp_updL (vp_updL (ev_J0 8) 2 0) 3 0)) ev_R0 []) cz kz := by
  intro G
  rfl
set_option maxRecDepth 100000 in
set_option maxHeartbeats 100000 in
theorem eo_grid_a_r207 (xs : Nat → Int32) (x164 : Int64) (x165 : Int64) (x166 : Nat → Int32) (q153 : Int32) (cz kz : Nat) : ∀ G : ez_F, fx_up (4, xs) 2 G 241 215 [ez_scr, .ref 0, .ref 35, .int 0] [.int 1, .int 0, ez_scr, .ref 35, .int q153] (ev_hp (ev_sI (ev_sI (ev_sI (ev_sI (ev_sI (ev_sI (ev_sI (ev_sI ev_I0 1 (upd (upd (upd (upd (upd (upd (ev_I0 1) 3 (xs 1)) 4 (xs 2)) 5 1) 6 ((xs 1) * (xs 2))) 1 0) 2 0)) 3 (upd (ev_I0 3) 3 0)) 6 (upd (ev_I0 6) 4 0)) 8 (upd (ev_I0 8) 1 0)) 13 (upd (upd (ev_I0 13) 8 0) 9 0)) 20 (upd (ev_I0 20) 3 0)) 22 (upd (upd (ev_I0 22) 8 0) 11 (-1))) 33 x166) (ev_sJ (ev_sJ ev_J0 1 (vp_updL (vp_updL (vp_updL (ev_J0 1) 7 (((1 : Int64) <<< (((xs 1) * (xs 2)).toInt64 &&& 63)) - (1 : Int64))) 8 x164) 9 x165)) 8 (vp_updL (vp_updL (ev_J0 8) 2 0) 3 0)) ev_R0 []) cz kz = G 241 217 [ez_scr, .ref 0, .ref 35, .int 0] [.int (xs 1), .ref 35, .int q153] (ev_hp (ev_sI (ev_sI (ev_sI (ev_sI (ev_sI (ev_sI (ev_sI (ev_sI ev_I0 1 (upd (upd (upd (upd (upd (upd (ev_I0 1) 3 (xs 1)) 4 (xs 2)) 5 1) 6 ((xs 1) * (xs 2))) 1 0) 2 0)) 3 (upd (ev_I0 3) 3 0)) 6 (upd (ev_I0 6) 4 0)) 8 (upd (ev_I0 8) 1 0)) 13 (upd (upd (ev_I0 13) 8 0) 9 0)) 20 (upd (ev_I0 20) 3 0)) 22 (upd (upd (ev_I0 22) 8 0) 11 (-1))) 33 x166) (ev_sJ (ev_sJ ev_J0 1 (vp_updL (vp_updL (vp_updL (ev_J0 1) 7 (((1 : Int64) <<< (((xs 1) * (xs 2)).toInt64 &&& 63)) - (1 : Int64))) 8 x164) 9 x165)) 8 (vp_updL (vp_updL (ev_J0 8) 2 0) 3 0)) ev_R0 []) cz kz := by
  intro G
  rfl
set_option maxRecDepth 100000 in
set_option maxHeartbeats 100000 in
theorem eo_grid_a_r208 (xs : Nat → Int32) (x164 : Int64) (x165 : Int64) (x166 : Nat → Int32) (q153 : Int32) (cz kz : Nat) : ∀ G : ez_F, fx_up (4, xs) 2 G 241 217 [ez_scr, .ref 0, .ref 35, .int 0] [.int (xs 1), .ref 35, .int q153] (ev_hp (ev_sI (ev_sI (ev_sI (ev_sI (ev_sI (ev_sI (ev_sI (ev_sI ev_I0 1 (upd (upd (upd (upd (upd (upd (ev_I0 1) 3 (xs 1)) 4 (xs 2)) 5 1) 6 ((xs 1) * (xs 2))) 1 0) 2 0)) 3 (upd (ev_I0 3) 3 0)) 6 (upd (ev_I0 6) 4 0)) 8 (upd (ev_I0 8) 1 0)) 13 (upd (upd (ev_I0 13) 8 0) 9 0)) 20 (upd (ev_I0 20) 3 0)) 22 (upd (upd (ev_I0 22) 8 0) 11 (-1))) 33 x166) (ev_sJ (ev_sJ ev_J0 1 (vp_updL (vp_updL (vp_updL (ev_J0 1) 7 (((1 : Int64) <<< (((xs 1) * (xs 2)).toInt64 &&& 63)) - (1 : Int64))) 8 x164) 9 x165)) 8 (vp_updL (vp_updL (ev_J0 8) 2 0) 3 0)) ev_R0 []) cz kz = G 241 219 [ez_scr, .ref 0, .ref 35, .int 0] [.int 0, ez_scr, .int (xs 1), .ref 35, .int q153] (ev_hp (ev_sI (ev_sI (ev_sI (ev_sI (ev_sI (ev_sI (ev_sI (ev_sI ev_I0 1 (upd (upd (upd (upd (upd (upd (ev_I0 1) 3 (xs 1)) 4 (xs 2)) 5 1) 6 ((xs 1) * (xs 2))) 1 0) 2 0)) 3 (upd (ev_I0 3) 3 0)) 6 (upd (ev_I0 6) 4 0)) 8 (upd (ev_I0 8) 1 0)) 13 (upd (upd (ev_I0 13) 8 0) 9 0)) 20 (upd (ev_I0 20) 3 0)) 22 (upd (upd (ev_I0 22) 8 0) 11 (-1))) 33 x166) (ev_sJ (ev_sJ ev_J0 1 (vp_updL (vp_updL (vp_updL (ev_J0 1) 7 (((1 : Int64) <<< (((xs 1) * (xs 2)).toInt64 &&& 63)) - (1 : Int64))) 8 x164) 9 x165)) 8 (vp_updL (vp_updL (ev_J0 8) 2 0) 3 0)) ev_R0 []) cz kz := by
  intro G
  rfl
set_option maxRecDepth 100000 in
set_option maxHeartbeats 100000 in
theorem eo_grid_a_r209 (xs : Nat → Int32) (x164 : Int64) (x165 : Int64) (x166 : Nat → Int32) (q153 : Int32) (cz kz : Nat) : ∀ G : ez_F, fx_up (4, xs) 2 G 241 219 [ez_scr, .ref 0, .ref 35, .int 0] [.int 0, ez_scr, .int (xs 1), .ref 35, .int q153] (ev_hp (ev_sI (ev_sI (ev_sI (ev_sI (ev_sI (ev_sI (ev_sI (ev_sI ev_I0 1 (upd (upd (upd (upd (upd (upd (ev_I0 1) 3 (xs 1)) 4 (xs 2)) 5 1) 6 ((xs 1) * (xs 2))) 1 0) 2 0)) 3 (upd (ev_I0 3) 3 0)) 6 (upd (ev_I0 6) 4 0)) 8 (upd (ev_I0 8) 1 0)) 13 (upd (upd (ev_I0 13) 8 0) 9 0)) 20 (upd (ev_I0 20) 3 0)) 22 (upd (upd (ev_I0 22) 8 0) 11 (-1))) 33 x166) (ev_sJ (ev_sJ ev_J0 1 (vp_updL (vp_updL (vp_updL (ev_J0 1) 7 (((1 : Int64) <<< (((xs 1) * (xs 2)).toInt64 &&& 63)) - (1 : Int64))) 8 x164) 9 x165)) 8 (vp_updL (vp_updL (ev_J0 8) 2 0) 3 0)) ev_R0 []) cz kz = G 241 221 [ez_scr, .ref 0, .ref 35, .int 0] [.int 2, ez_scr, .int (xs 1), .ref 35, .int q153] (ev_hp (ev_sI (ev_sI (ev_sI (ev_sI (ev_sI (ev_sI (ev_sI (ev_sI ev_I0 1 (upd (upd (upd (upd (upd (upd (ev_I0 1) 3 (xs 1)) 4 (xs 2)) 5 1) 6 ((xs 1) * (xs 2))) 1 0) 2 0)) 3 (upd (ev_I0 3) 3 0)) 6 (upd (ev_I0 6) 4 0)) 8 (upd (ev_I0 8) 1 0)) 13 (upd (upd (ev_I0 13) 8 0) 9 0)) 20 (upd (ev_I0 20) 3 0)) 22 (upd (upd (ev_I0 22) 8 0) 11 (-1))) 33 x166) (ev_sJ (ev_sJ ev_J0 1 (vp_updL (vp_updL (vp_updL (ev_J0 1) 7 (((1 : Int64) <<< (((xs 1) * (xs 2)).toInt64 &&& 63)) - (1 : Int64))) 8 x164) 9 x165)) 8 (vp_updL (vp_updL (ev_J0 8) 2 0) 3 0)) ev_R0 []) cz kz := by
  intro G
  rfl
set_option maxRecDepth 100000 in
set_option maxHeartbeats 100000 in
theorem eo_grid_a_r210 (xs : Nat → Int32) (x164 : Int64) (x165 : Int64) (x166 : Nat → Int32) (q153 : Int32) (cz kz : Nat) : ∀ G : ez_F, fx_up (4, xs) 2 G 241 221 [ez_scr, .ref 0, .ref 35, .int 0] [.int 2, ez_scr, .int (xs 1), .ref 35, .int q153] (ev_hp (ev_sI (ev_sI (ev_sI (ev_sI (ev_sI (ev_sI (ev_sI (ev_sI ev_I0 1 (upd (upd (upd (upd (upd (upd (ev_I0 1) 3 (xs 1)) 4 (xs 2)) 5 1) 6 ((xs 1) * (xs 2))) 1 0) 2 0)) 3 (upd (ev_I0 3) 3 0)) 6 (upd (ev_I0 6) 4 0)) 8 (upd (ev_I0 8) 1 0)) 13 (upd (upd (ev_I0 13) 8 0) 9 0)) 20 (upd (ev_I0 20) 3 0)) 22 (upd (upd (ev_I0 22) 8 0) 11 (-1))) 33 x166) (ev_sJ (ev_sJ ev_J0 1 (vp_updL (vp_updL (vp_updL (ev_J0 1) 7 (((1 : Int64) <<< (((xs 1) * (xs 2)).toInt64 &&& 63)) - (1 : Int64))) 8 x164) 9 x165)) 8 (vp_updL (vp_updL (ev_J0 8) 2 0) 3 0)) ev_R0 []) cz kz = G 241 223 [ez_scr, .ref 0, .ref 35, .int 0] [ez_scr, .int (xs 2), .int (xs 1), .ref 35, .int q153] (ev_hp (ev_sI (ev_sI (ev_sI (ev_sI (ev_sI (ev_sI (ev_sI (ev_sI ev_I0 1 (upd (upd (upd (upd (upd (upd (ev_I0 1) 3 (xs 1)) 4 (xs 2)) 5 1) 6 ((xs 1) * (xs 2))) 1 0) 2 0)) 3 (upd (ev_I0 3) 3 0)) 6 (upd (ev_I0 6) 4 0)) 8 (upd (ev_I0 8) 1 0)) 13 (upd (upd (ev_I0 13) 8 0) 9 0)) 20 (upd (ev_I0 20) 3 0)) 22 (upd (upd (ev_I0 22) 8 0) 11 (-1))) 33 x166) (ev_sJ (ev_sJ ev_J0 1 (vp_updL (vp_updL (vp_updL (ev_J0 1) 7 (((1 : Int64) <<< (((xs 1) * (xs 2)).toInt64 &&& 63)) - (1 : Int64))) 8 x164) 9 x165)) 8 (vp_updL (vp_updL (ev_J0 8) 2 0) 3 0)) ev_R0 []) cz kz := by
  intro G
  rfl
set_option maxRecDepth 100000 in
set_option maxHeartbeats 100000 in
theorem eo_grid_a_r211 (xs : Nat → Int32) (x164 : Int64) (x165 : Int64) (x166 : Nat → Int32) (q153 : Int32) (cz kz : Nat) : ∀ G : ez_F, fx_up (4, xs) 2 G 241 223 [ez_scr, .ref 0, .ref 35, .int 0] [ez_scr, .int (xs 2), .int (xs 1), .ref 35, .int q153] (ev_hp (ev_sI (ev_sI (ev_sI (ev_sI (ev_sI (ev_sI (ev_sI (ev_sI ev_I0 1 (upd (upd (upd (upd (upd (upd (ev_I0 1) 3 (xs 1)) 4 (xs 2)) 5 1) 6 ((xs 1) * (xs 2))) 1 0) 2 0)) 3 (upd (ev_I0 3) 3 0)) 6 (upd (ev_I0 6) 4 0)) 8 (upd (ev_I0 8) 1 0)) 13 (upd (upd (ev_I0 13) 8 0) 9 0)) 20 (upd (ev_I0 20) 3 0)) 22 (upd (upd (ev_I0 22) 8 0) 11 (-1))) 33 x166) (ev_sJ (ev_sJ ev_J0 1 (vp_updL (vp_updL (vp_updL (ev_J0 1) 7 (((1 : Int64) <<< (((xs 1) * (xs 2)).toInt64 &&& 63)) - (1 : Int64))) 8 x164) 9 x165)) 8 (vp_updL (vp_updL (ev_J0 8) 2 0) 3 0)) ev_R0 []) cz kz = G 241 225 [ez_scr, .ref 0, .ref 35, .int 0] [.int 3, .int 0, ez_scr, .int (xs 2), .int (xs 1), .ref 35, .int q153] (ev_hp (ev_sI (ev_sI (ev_sI (ev_sI (ev_sI (ev_sI (ev_sI (ev_sI ev_I0 1 (upd (upd (upd (upd (upd (upd (ev_I0 1) 3 (xs 1)) 4 (xs 2)) 5 1) 6 ((xs 1) * (xs 2))) 1 0) 2 0)) 3 (upd (ev_I0 3) 3 0)) 6 (upd (ev_I0 6) 4 0)) 8 (upd (ev_I0 8) 1 0)) 13 (upd (upd (ev_I0 13) 8 0) 9 0)) 20 (upd (ev_I0 20) 3 0)) 22 (upd (upd (ev_I0 22) 8 0) 11 (-1))) 33 x166) (ev_sJ (ev_sJ ev_J0 1 (vp_updL (vp_updL (vp_updL (ev_J0 1) 7 (((1 : Int64) <<< (((xs 1) * (xs 2)).toInt64 &&& 63)) - (1 : Int64))) 8 x164) 9 x165)) 8 (vp_updL (vp_updL (ev_J0 8) 2 0) 3 0)) ev_R0 []) cz kz := by
  intro G
  rfl
set_option maxRecDepth 100000 in
set_option maxHeartbeats 100000 in
theorem eo_grid_a_r212 (xs : Nat → Int32) (x164 : Int64) (x165 : Int64) (x166 : Nat → Int32) (q153 : Int32) (cz kz : Nat) : ∀ G : ez_F, fx_up (4, xs) 2 G 241 225 [ez_scr, .ref 0, .ref 35, .int 0] [.int 3, .int 0, ez_scr, .int (xs 2), .int (xs 1), .ref 35, .int q153] (ev_hp (ev_sI (ev_sI (ev_sI (ev_sI (ev_sI (ev_sI (ev_sI (ev_sI ev_I0 1 (upd (upd (upd (upd (upd (upd (ev_I0 1) 3 (xs 1)) 4 (xs 2)) 5 1) 6 ((xs 1) * (xs 2))) 1 0) 2 0)) 3 (upd (ev_I0 3) 3 0)) 6 (upd (ev_I0 6) 4 0)) 8 (upd (ev_I0 8) 1 0)) 13 (upd (upd (ev_I0 13) 8 0) 9 0)) 20 (upd (ev_I0 20) 3 0)) 22 (upd (upd (ev_I0 22) 8 0) 11 (-1))) 33 x166) (ev_sJ (ev_sJ ev_J0 1 (vp_updL (vp_updL (vp_updL (ev_J0 1) 7 (((1 : Int64) <<< (((xs 1) * (xs 2)).toInt64 &&& 63)) - (1 : Int64))) 8 x164) 9 x165)) 8 (vp_updL (vp_updL (ev_J0 8) 2 0) 3 0)) ev_R0 []) cz kz = G 241 227 [ez_scr, .ref 0, .ref 35, .int 0] [.int (xs 3), .int (xs 2), .int (xs 1), .ref 35, .int q153] (ev_hp (ev_sI (ev_sI (ev_sI (ev_sI (ev_sI (ev_sI (ev_sI (ev_sI ev_I0 1 (upd (upd (upd (upd (upd (upd (ev_I0 1) 3 (xs 1)) 4 (xs 2)) 5 1) 6 ((xs 1) * (xs 2))) 1 0) 2 0)) 3 (upd (ev_I0 3) 3 0)) 6 (upd (ev_I0 6) 4 0)) 8 (upd (ev_I0 8) 1 0)) 13 (upd (upd (ev_I0 13) 8 0) 9 0)) 20 (upd (ev_I0 20) 3 0)) 22 (upd (upd (ev_I0 22) 8 0) 11 (-1))) 33 x166) (ev_sJ (ev_sJ ev_J0 1 (vp_updL (vp_updL (vp_updL (ev_J0 1) 7 (((1 : Int64) <<< (((xs 1) * (xs 2)).toInt64 &&& 63)) - (1 : Int64))) 8 x164) 9 x165)) 8 (vp_updL (vp_updL (ev_J0 8) 2 0) 3 0)) ev_R0 []) cz kz := by
  intro G
  rfl
set_option maxRecDepth 100000 in
set_option maxHeartbeats 100000 in
theorem eo_grid_a_r213 (xs : Nat → Int32) (x164 : Int64) (x165 : Int64) (x166 : Nat → Int32) (q153 : Int32) (cz kz : Nat) : ∀ G : ez_F, fx_up (4, xs) 1 G 241 227 [ez_scr, .ref 0, .ref 35, .int 0] [.int (xs 3), .int (xs 2), .int (xs 1), .ref 35, .int q153] (ev_hp (ev_sI (ev_sI (ev_sI (ev_sI (ev_sI (ev_sI (ev_sI (ev_sI ev_I0 1 (upd (upd (upd (upd (upd (upd (ev_I0 1) 3 (xs 1)) 4 (xs 2)) 5 1) 6 ((xs 1) * (xs 2))) 1 0) 2 0)) 3 (upd (ev_I0 3) 3 0)) 6 (upd (ev_I0 6) 4 0)) 8 (upd (ev_I0 8) 1 0)) 13 (upd (upd (ev_I0 13) 8 0) 9 0)) 20 (upd (ev_I0 20) 3 0)) 22 (upd (upd (ev_I0 22) 8 0) 11 (-1))) 33 x166) (ev_sJ (ev_sJ ev_J0 1 (vp_updL (vp_updL (vp_updL (ev_J0 1) 7 (((1 : Int64) <<< (((xs 1) * (xs 2)).toInt64 &&& 63)) - (1 : Int64))) 8 x164) 9 x165)) 8 (vp_updL (vp_updL (ev_J0 8) 2 0) 3 0)) ev_R0 []) cz kz = bif decide ((xs 3) = 0) then G 241 234 [ez_scr, .ref 0, .ref 35, .int 0] [.int (xs 2), .int (xs 1), .ref 35, .int q153] (ev_hp (ev_sI (ev_sI (ev_sI (ev_sI (ev_sI (ev_sI (ev_sI (ev_sI ev_I0 1 (upd (upd (upd (upd (upd (upd (ev_I0 1) 3 (xs 1)) 4 (xs 2)) 5 1) 6 ((xs 1) * (xs 2))) 1 0) 2 0)) 3 (upd (ev_I0 3) 3 0)) 6 (upd (ev_I0 6) 4 0)) 8 (upd (ev_I0 8) 1 0)) 13 (upd (upd (ev_I0 13) 8 0) 9 0)) 20 (upd (ev_I0 20) 3 0)) 22 (upd (upd (ev_I0 22) 8 0) 11 (-1))) 33 x166) (ev_sJ (ev_sJ ev_J0 1 (vp_updL (vp_updL (vp_updL (ev_J0 1) 7 (((1 : Int64) <<< (((xs 1) * (xs 2)).toInt64 &&& 63)) - (1 : Int64))) 8 x164) 9 x165)) 8 (vp_updL (vp_updL (ev_J0 8) 2 0) 3 0)) ev_R0 []) cz kz else G 241 230 [ez_scr, .ref 0, .ref 35, .int 0] [.int (xs 2), .int (xs 1), .ref 35, .int q153] (ev_hp (ev_sI (ev_sI (ev_sI (ev_sI (ev_sI (ev_sI (ev_sI (ev_sI ev_I0 1 (upd (upd (upd (upd (upd (upd (ev_I0 1) 3 (xs 1)) 4 (xs 2)) 5 1) 6 ((xs 1) * (xs 2))) 1 0) 2 0)) 3 (upd (ev_I0 3) 3 0)) 6 (upd (ev_I0 6) 4 0)) 8 (upd (ev_I0 8) 1 0)) 13 (upd (upd (ev_I0 13) 8 0) 9 0)) 20 (upd (ev_I0 20) 3 0)) 22 (upd (upd (ev_I0 22) 8 0) 11 (-1))) 33 x166) (ev_sJ (ev_sJ ev_J0 1 (vp_updL (vp_updL (vp_updL (ev_J0 1) 7 (((1 : Int64) <<< (((xs 1) * (xs 2)).toInt64 &&& 63)) - (1 : Int64))) 8 x164) 9 x165)) 8 (vp_updL (vp_updL (ev_J0 8) 2 0) 3 0)) ev_R0 []) cz kz := by
  intro G
  rfl
set_option maxRecDepth 100000 in
set_option maxHeartbeats 100000 in
theorem eo_grid_a_r214 (xs : Nat → Int32) (x164 : Int64) (x165 : Int64) (x166 : Nat → Int32) (q153 : Int32) (cz kz : Nat) : ∀ G : ez_F, fx_up (4, xs) 2 G 241 234 [ez_scr, .ref 0, .ref 35, .int 0] [.int (xs 2), .int (xs 1), .ref 35, .int q153] (ev_hp (ev_sI (ev_sI (ev_sI (ev_sI (ev_sI (ev_sI (ev_sI (ev_sI ev_I0 1 (upd (upd (upd (upd (upd (upd (ev_I0 1) 3 (xs 1)) 4 (xs 2)) 5 1) 6 ((xs 1) * (xs 2))) 1 0) 2 0)) 3 (upd (ev_I0 3) 3 0)) 6 (upd (ev_I0 6) 4 0)) 8 (upd (ev_I0 8) 1 0)) 13 (upd (upd (ev_I0 13) 8 0) 9 0)) 20 (upd (ev_I0 20) 3 0)) 22 (upd (upd (ev_I0 22) 8 0) 11 (-1))) 33 x166) (ev_sJ (ev_sJ ev_J0 1 (vp_updL (vp_updL (vp_updL (ev_J0 1) 7 (((1 : Int64) <<< (((xs 1) * (xs 2)).toInt64 &&& 63)) - (1 : Int64))) 8 x164) 9 x165)) 8 (vp_updL (vp_updL (ev_J0 8) 2 0) 3 0)) ev_R0 []) cz kz = ev_C G 195 [.ref 35, .int (xs 1), .int (xs 2), .int 0] (ev_hp (ev_sI (ev_sI (ev_sI (ev_sI (ev_sI (ev_sI (ev_sI (ev_sI ev_I0 1 (upd (upd (upd (upd (upd (upd (ev_I0 1) 3 (xs 1)) 4 (xs 2)) 5 1) 6 ((xs 1) * (xs 2))) 1 0) 2 0)) 3 (upd (ev_I0 3) 3 0)) 6 (upd (ev_I0 6) 4 0)) 8 (upd (ev_I0 8) 1 0)) 13 (upd (upd (ev_I0 13) 8 0) 9 0)) 20 (upd (ev_I0 20) 3 0)) 22 (upd (upd (ev_I0 22) 8 0) 11 (-1))) 33 x166) (ev_sJ (ev_sJ ev_J0 1 (vp_updL (vp_updL (vp_updL (ev_J0 1) 7 (((1 : Int64) <<< (((xs 1) * (xs 2)).toInt64 &&& 63)) - (1 : Int64))) 8 x164) 9 x165)) 8 (vp_updL (vp_updL (ev_J0 8) 2 0) 3 0)) ev_R0 []) fun r h1 c1 k1 => G 241 238 [ez_scr, .ref 0, .ref 35, .int 0] (r.toList ++ [.int q153]) h1 (cz + c1) (kz + k1) := by
  intro G
  rfl
set_option maxRecDepth 100000 in
set_option maxHeartbeats 100000 in
theorem eo_grid_a_r215 (xs : Nat → Int32) (x164 : Int64) (x165 : Int64) (x166 : Nat → Int32) (q153 : Int32) (cz kz : Nat) : ∀ G : ez_F, fx_up (4, xs) 1 G 241 238 [ez_scr, .ref 0, .ref 35, .int 0] [.int (-3), .int q153] (ev_hp (ev_sI (ev_sI (ev_sI (ev_sI (ev_sI (ev_sI (ev_sI (ev_sI ev_I0 1 (upd (upd (upd (upd (upd (upd (ev_I0 1) 3 (xs 1)) 4 (xs 2)) 5 1) 6 ((xs 1) * (xs 2))) 1 0) 2 0)) 3 (upd (ev_I0 3) 3 0)) 6 (upd (ev_I0 6) 4 0)) 8 (upd (ev_I0 8) 1 0)) 13 (upd (upd (ev_I0 13) 8 0) 9 0)) 20 (upd (ev_I0 20) 3 0)) 22 (upd (upd (ev_I0 22) 8 0) 11 (-1))) 33 x166) (ev_sJ (ev_sJ ev_J0 1 (vp_updL (vp_updL (vp_updL (ev_J0 1) 7 (((1 : Int64) <<< (((xs 1) * (xs 2)).toInt64 &&& 63)) - (1 : Int64))) 8 x164) 9 x165)) 8 (vp_updL (vp_updL (ev_J0 8) 2 0) 3 0)) ev_R0 []) cz kz = bif decide (q153 = (-3)) then G 241 1075 [ez_scr, .ref 0, .ref 35, .int 0] [] (ev_hp (ev_sI (ev_sI (ev_sI (ev_sI (ev_sI (ev_sI (ev_sI (ev_sI ev_I0 1 (upd (upd (upd (upd (upd (upd (ev_I0 1) 3 (xs 1)) 4 (xs 2)) 5 1) 6 ((xs 1) * (xs 2))) 1 0) 2 0)) 3 (upd (ev_I0 3) 3 0)) 6 (upd (ev_I0 6) 4 0)) 8 (upd (ev_I0 8) 1 0)) 13 (upd (upd (ev_I0 13) 8 0) 9 0)) 20 (upd (ev_I0 20) 3 0)) 22 (upd (upd (ev_I0 22) 8 0) 11 (-1))) 33 x166) (ev_sJ (ev_sJ ev_J0 1 (vp_updL (vp_updL (vp_updL (ev_J0 1) 7 (((1 : Int64) <<< (((xs 1) * (xs 2)).toInt64 &&& 63)) - (1 : Int64))) 8 x164) 9 x165)) 8 (vp_updL (vp_updL (ev_J0 8) 2 0) 3 0)) ev_R0 []) cz kz else G 241 241 [ez_scr, .ref 0, .ref 35, .int 0] [] (ev_hp (ev_sI (ev_sI (ev_sI (ev_sI (ev_sI (ev_sI (ev_sI (ev_sI ev_I0 1 (upd (upd (upd (upd (upd (upd (ev_I0 1) 3 (xs 1)) 4 (xs 2)) 5 1) 6 ((xs 1) * (xs 2))) 1 0) 2 0)) 3 (upd (ev_I0 3) 3 0)) 6 (upd (ev_I0 6) 4 0)) 8 (upd (ev_I0 8) 1 0)) 13 (upd (upd (ev_I0 13) 8 0) 9 0)) 20 (upd (ev_I0 20) 3 0)) 22 (upd (upd (ev_I0 22) 8 0) 11 (-1))) 33 x166) (ev_sJ (ev_sJ ev_J0 1 (vp_updL (vp_updL (vp_updL (ev_J0 1) 7 (((1 : Int64) <<< (((xs 1) * (xs 2)).toInt64 &&& 63)) - (1 : Int64))) 8 x164) 9 x165)) 8 (vp_updL (vp_updL (ev_J0 8) 2 0) 3 0)) ev_R0 []) cz kz := by
  intro G
  rfl
set_option maxRecDepth 100000 in
set_option maxHeartbeats 100000 in
theorem eo_grid_a_r216 (xs : Nat → Int32) (x164 : Int64) (x165 : Int64) (x166 : Nat → Int32) (q153 : Int32) (cz kz : Nat) : ∀ G : ez_F, fx_up (4, xs) 2 G 241 1075 [ez_scr, .ref 0, .ref 35, .int 0] [] (ev_hp (ev_sI (ev_sI (ev_sI (ev_sI (ev_sI (ev_sI (ev_sI (ev_sI ev_I0 1 (upd (upd (upd (upd (upd (upd (ev_I0 1) 3 (xs 1)) 4 (xs 2)) 5 1) 6 ((xs 1) * (xs 2))) 1 0) 2 0)) 3 (upd (ev_I0 3) 3 0)) 6 (upd (ev_I0 6) 4 0)) 8 (upd (ev_I0 8) 1 0)) 13 (upd (upd (ev_I0 13) 8 0) 9 0)) 20 (upd (ev_I0 20) 3 0)) 22 (upd (upd (ev_I0 22) 8 0) 11 (-1))) 33 x166) (ev_sJ (ev_sJ ev_J0 1 (vp_updL (vp_updL (vp_updL (ev_J0 1) 7 (((1 : Int64) <<< (((xs 1) * (xs 2)).toInt64 &&& 63)) - (1 : Int64))) 8 x164) 9 x165)) 8 (vp_updL (vp_updL (ev_J0 8) 2 0) 3 0)) ev_R0 []) cz kz = G 241 18 [ez_scr, .ref 0, .ref 35, .int 4] [] (ev_hp (ev_sI (ev_sI (ev_sI (ev_sI (ev_sI (ev_sI (ev_sI (ev_sI ev_I0 1 (upd (upd (upd (upd (upd (upd (ev_I0 1) 3 (xs 1)) 4 (xs 2)) 5 1) 6 ((xs 1) * (xs 2))) 1 0) 2 0)) 3 (upd (ev_I0 3) 3 0)) 6 (upd (ev_I0 6) 4 0)) 8 (upd (ev_I0 8) 1 0)) 13 (upd (upd (ev_I0 13) 8 0) 9 0)) 20 (upd (ev_I0 20) 3 0)) 22 (upd (upd (ev_I0 22) 8 0) 11 (-1))) 33 x166) (ev_sJ (ev_sJ ev_J0 1 (vp_updL (vp_updL (vp_updL (ev_J0 1) 7 (((1 : Int64) <<< (((xs 1) * (xs 2)).toInt64 &&& 63)) - (1 : Int64))) 8 x164) 9 x165)) 8 (vp_updL (vp_updL (ev_J0 8) 2 0) 3 0)) ev_R0 []) cz kz := by
  intro G
  rfl
set_option maxRecDepth 100000 in
set_option maxHeartbeats 100000 in
theorem eo_grid_a_r217 (xs : Nat → Int32) (x164 : Int64) (x165 : Int64) (x166 : Nat → Int32) (q153 : Int32) (cz kz : Nat) : ∀ G : ez_F, fx_up (4, xs) 2 G 241 18 [ez_scr, .ref 0, .ref 35, .int 4] [] (ev_hp (ev_sI (ev_sI (ev_sI (ev_sI (ev_sI (ev_sI (ev_sI (ev_sI ev_I0 1 (upd (upd (upd (upd (upd (upd (ev_I0 1) 3 (xs 1)) 4 (xs 2)) 5 1) 6 ((xs 1) * (xs 2))) 1 0) 2 0)) 3 (upd (ev_I0 3) 3 0)) 6 (upd (ev_I0 6) 4 0)) 8 (upd (ev_I0 8) 1 0)) 13 (upd (upd (ev_I0 13) 8 0) 9 0)) 20 (upd (ev_I0 20) 3 0)) 22 (upd (upd (ev_I0 22) 8 0) 11 (-1))) 33 x166) (ev_sJ (ev_sJ ev_J0 1 (vp_updL (vp_updL (vp_updL (ev_J0 1) 7 (((1 : Int64) <<< (((xs 1) * (xs 2)).toInt64 &&& 63)) - (1 : Int64))) 8 x164) 9 x165)) 8 (vp_updL (vp_updL (ev_J0 8) 2 0) 3 0)) ev_R0 []) cz kz = G 241 20 [ez_scr, .ref 0, .ref 35, .int 4] [ez_scr, .int 4] (ev_hp (ev_sI (ev_sI (ev_sI (ev_sI (ev_sI (ev_sI (ev_sI (ev_sI ev_I0 1 (upd (upd (upd (upd (upd (upd (ev_I0 1) 3 (xs 1)) 4 (xs 2)) 5 1) 6 ((xs 1) * (xs 2))) 1 0) 2 0)) 3 (upd (ev_I0 3) 3 0)) 6 (upd (ev_I0 6) 4 0)) 8 (upd (ev_I0 8) 1 0)) 13 (upd (upd (ev_I0 13) 8 0) 9 0)) 20 (upd (ev_I0 20) 3 0)) 22 (upd (upd (ev_I0 22) 8 0) 11 (-1))) 33 x166) (ev_sJ (ev_sJ ev_J0 1 (vp_updL (vp_updL (vp_updL (ev_J0 1) 7 (((1 : Int64) <<< (((xs 1) * (xs 2)).toInt64 &&& 63)) - (1 : Int64))) 8 x164) 9 x165)) 8 (vp_updL (vp_updL (ev_J0 8) 2 0) 3 0)) ev_R0 []) cz kz := by
  intro G
  rfl
set_option maxRecDepth 100000 in
set_option maxHeartbeats 100000 in
theorem eo_grid_a_r218 (xs : Nat → Int32) (x164 : Int64) (x165 : Int64) (x166 : Nat → Int32) (q153 : Int32) (cz kz : Nat) : ∀ G : ez_F, fx_up (4, xs) 2 G 241 20 [ez_scr, .ref 0, .ref 35, .int 4] [ez_scr, .int 4] (ev_hp (ev_sI (ev_sI (ev_sI (ev_sI (ev_sI (ev_sI (ev_sI (ev_sI ev_I0 1 (upd (upd (upd (upd (upd (upd (ev_I0 1) 3 (xs 1)) 4 (xs 2)) 5 1) 6 ((xs 1) * (xs 2))) 1 0) 2 0)) 3 (upd (ev_I0 3) 3 0)) 6 (upd (ev_I0 6) 4 0)) 8 (upd (ev_I0 8) 1 0)) 13 (upd (upd (ev_I0 13) 8 0) 9 0)) 20 (upd (ev_I0 20) 3 0)) 22 (upd (upd (ev_I0 22) 8 0) 11 (-1))) 33 x166) (ev_sJ (ev_sJ ev_J0 1 (vp_updL (vp_updL (vp_updL (ev_J0 1) 7 (((1 : Int64) <<< (((xs 1) * (xs 2)).toInt64 &&& 63)) - (1 : Int64))) 8 x164) 9 x165)) 8 (vp_updL (vp_updL (ev_J0 8) 2 0) 3 0)) ev_R0 []) cz kz = G 241 22 [ez_scr, .ref 0, .ref 35, .int 4] [.int 4, .int 4, .int 4] (ev_hp (ev_sI (ev_sI (ev_sI (ev_sI (ev_sI (ev_sI (ev_sI (ev_sI ev_I0 1 (upd (upd (upd (upd (upd (upd (ev_I0 1) 3 (xs 1)) 4 (xs 2)) 5 1) 6 ((xs 1) * (xs 2))) 1 0) 2 0)) 3 (upd (ev_I0 3) 3 0)) 6 (upd (ev_I0 6) 4 0)) 8 (upd (ev_I0 8) 1 0)) 13 (upd (upd (ev_I0 13) 8 0) 9 0)) 20 (upd (ev_I0 20) 3 0)) 22 (upd (upd (ev_I0 22) 8 0) 11 (-1))) 33 x166) (ev_sJ (ev_sJ ev_J0 1 (vp_updL (vp_updL (vp_updL (ev_J0 1) 7 (((1 : Int64) <<< (((xs 1) * (xs 2)).toInt64 &&& 63)) - (1 : Int64))) 8 x164) 9 x165)) 8 (vp_updL (vp_updL (ev_J0 8) 2 0) 3 0)) ev_R0 []) cz kz := by
  intro G
  rfl
set_option maxRecDepth 100000 in
set_option maxHeartbeats 100000 in
theorem eo_grid_a_r219 (xs : Nat → Int32) (x164 : Int64) (x165 : Int64) (x166 : Nat → Int32) (q153 : Int32) (cz kz : Nat) : ∀ G : ez_F, fx_up (4, xs) 2 G 241 22 [ez_scr, .ref 0, .ref 35, .int 4] [.int 4, .int 4, .int 4] (ev_hp (ev_sI (ev_sI (ev_sI (ev_sI (ev_sI (ev_sI (ev_sI (ev_sI ev_I0 1 (upd (upd (upd (upd (upd (upd (ev_I0 1) 3 (xs 1)) 4 (xs 2)) 5 1) 6 ((xs 1) * (xs 2))) 1 0) 2 0)) 3 (upd (ev_I0 3) 3 0)) 6 (upd (ev_I0 6) 4 0)) 8 (upd (ev_I0 8) 1 0)) 13 (upd (upd (ev_I0 13) 8 0) 9 0)) 20 (upd (ev_I0 20) 3 0)) 22 (upd (upd (ev_I0 22) 8 0) 11 (-1))) 33 x166) (ev_sJ (ev_sJ ev_J0 1 (vp_updL (vp_updL (vp_updL (ev_J0 1) 7 (((1 : Int64) <<< (((xs 1) * (xs 2)).toInt64 &&& 63)) - (1 : Int64))) 8 x164) 9 x165)) 8 (vp_updL (vp_updL (ev_J0 8) 2 0) 3 0)) ev_R0 []) cz kz = G 241 1081 [ez_scr, .ref 0, .ref 35, .int 4] [] (ev_hp (ev_sI (ev_sI (ev_sI (ev_sI (ev_sI (ev_sI (ev_sI (ev_sI ev_I0 1 (upd (upd (upd (upd (upd (upd (ev_I0 1) 3 (xs 1)) 4 (xs 2)) 5 1) 6 ((xs 1) * (xs 2))) 1 0) 2 0)) 3 (upd (ev_I0 3) 3 0)) 6 (upd (ev_I0 6) 4 0)) 8 (upd (ev_I0 8) 1 0)) 13 (upd (upd (ev_I0 13) 8 0) 9 0)) 20 (upd (ev_I0 20) 3 0)) 22 (upd (upd (ev_I0 22) 8 0) 11 (-1))) 33 x166) (ev_sJ (ev_sJ ev_J0 1 (vp_updL (vp_updL (vp_updL (ev_J0 1) 7 (((1 : Int64) <<< (((xs 1) * (xs 2)).toInt64 &&& 63)) - (1 : Int64))) 8 x164) 9 x165)) 8 (vp_updL (vp_updL (ev_J0 8) 2 0) 3 0)) ev_R0 []) cz kz := by
  intro G
  rfl
set_option maxRecDepth 100000 in
set_option maxHeartbeats 100000 in
theorem eo_grid_a_r220 (xs : Nat → Int32) (x164 : Int64) (x165 : Int64) (x166 : Nat → Int32) (q153 : Int32) (cz kz : Nat) : ∀ G : ez_F, fx_up (4, xs) 2 G 241 1081 [ez_scr, .ref 0, .ref 35, .int 4] [] (ev_hp (ev_sI (ev_sI (ev_sI (ev_sI (ev_sI (ev_sI (ev_sI (ev_sI ev_I0 1 (upd (upd (upd (upd (upd (upd (ev_I0 1) 3 (xs 1)) 4 (xs 2)) 5 1) 6 ((xs 1) * (xs 2))) 1 0) 2 0)) 3 (upd (ev_I0 3) 3 0)) 6 (upd (ev_I0 6) 4 0)) 8 (upd (ev_I0 8) 1 0)) 13 (upd (upd (ev_I0 13) 8 0) 9 0)) 20 (upd (ev_I0 20) 3 0)) 22 (upd (upd (ev_I0 22) 8 0) 11 (-1))) 33 x166) (ev_sJ (ev_sJ ev_J0 1 (vp_updL (vp_updL (vp_updL (ev_J0 1) 7 (((1 : Int64) <<< (((xs 1) * (xs 2)).toInt64 &&& 63)) - (1 : Int64))) 8 x164) 9 x165)) 8 (vp_updL (vp_updL (ev_J0 8) 2 0) 3 0)) ev_R0 []) cz kz = some (some (.int 1), (ev_hp (ev_sI (ev_sI (ev_sI (ev_sI (ev_sI (ev_sI (ev_sI (ev_sI ev_I0 1 (upd (upd (upd (upd (upd (upd (ev_I0 1) 3 (xs 1)) 4 (xs 2)) 5 1) 6 ((xs 1) * (xs 2))) 1 0) 2 0)) 3 (upd (ev_I0 3) 3 0)) 6 (upd (ev_I0 6) 4 0)) 8 (upd (ev_I0 8) 1 0)) 13 (upd (upd (ev_I0 13) 8 0) 9 0)) 20 (upd (ev_I0 20) 3 0)) 22 (upd (upd (ev_I0 22) 8 0) 11 (-1))) 33 x166) (ev_sJ (ev_sJ ev_J0 1 (vp_updL (vp_updL (vp_updL (ev_J0 1) 7 (((1 : Int64) <<< (((xs 1) * (xs 2)).toInt64 &&& 63)) - (1 : Int64))) 8 x164) 9 x165)) 8 (vp_updL (vp_updL (ev_J0 8) 2 0) 3 0)) ev_R0 []), cz, kz) := by
  intro G
  rfl
set_option maxRecDepth 100000 in
set_option maxHeartbeats 100000 in
theorem eo_grid_a_r221 (xs : Nat → Int32) (x164 : Int64) (x165 : Int64) (x166 : Nat → Int32) (q153 : Int32) (q156 : Int32) (cz kz : Nat) : ∀ G : ez_F, fx_up (4, xs) 1 G 241 238 [ez_scr, .ref 0, .ref 35, .int 0] [.int q156, .int q153] (ev_hp (ev_sI (ev_sI (ev_sI (ev_sI (ev_sI (ev_sI (ev_sI (ev_sI (ev_sI (ev_sI ev_I0 1 (upd (upd (upd (upd (upd (upd (ev_I0 1) 3 (xs 1)) 4 (xs 2)) 5 1) 6 ((xs 1) * (xs 2))) 1 0) 2 0)) 3 (upd (ev_I0 3) 3 0)) 6 (upd (ev_I0 6) 4 0)) 8 (upd (ev_I0 8) 1 0)) 13 (upd (upd (ev_I0 13) 8 0) 9 0)) 20 (upd (ev_I0 20) 3 0)) 22 (upd (upd (ev_I0 22) 8 0) 11 (-1))) 33 x166) 35 (upd (upd (upd (upd (upd (upd (upd (ev_I0 35) 0 (xs 1)) 1 (xs 2)) 2 0) 3 0) 16 0) 9 0) 10 0)) 61 (upd (upd (upd (upd (upd (upd (upd (upd (upd (upd (upd (upd (ev_I0 61) 0 (-1)) 1 (-1)) 2 (-1)) 3 (-1)) 4 (-1)) 5 (-1)) 6 (-1)) 7 (-1)) 8 (-1)) 9 (-1)) 10 (-1)) 11 (-1))) (ev_sJ (ev_sJ ev_J0 1 (vp_updL (vp_updL (vp_updL (ev_J0 1) 7 (((1 : Int64) <<< (((xs 1) * (xs 2)).toInt64 &&& 63)) - (1 : Int64))) 8 x164) 9 x165)) 8 (vp_updL (vp_updL (ev_J0 8) 2 0) 3 0)) ev_R0 []) cz kz = bif decide (q153 = q156) then G 241 1075 [ez_scr, .ref 0, .ref 35, .int 0] [] (ev_hp (ev_sI (ev_sI (ev_sI (ev_sI (ev_sI (ev_sI (ev_sI (ev_sI (ev_sI (ev_sI ev_I0 1 (upd (upd (upd (upd (upd (upd (ev_I0 1) 3 (xs 1)) 4 (xs 2)) 5 1) 6 ((xs 1) * (xs 2))) 1 0) 2 0)) 3 (upd (ev_I0 3) 3 0)) 6 (upd (ev_I0 6) 4 0)) 8 (upd (ev_I0 8) 1 0)) 13 (upd (upd (ev_I0 13) 8 0) 9 0)) 20 (upd (ev_I0 20) 3 0)) 22 (upd (upd (ev_I0 22) 8 0) 11 (-1))) 33 x166) 35 (upd (upd (upd (upd (upd (upd (upd (ev_I0 35) 0 (xs 1)) 1 (xs 2)) 2 0) 3 0) 16 0) 9 0) 10 0)) 61 (upd (upd (upd (upd (upd (upd (upd (upd (upd (upd (upd (upd (ev_I0 61) 0 (-1)) 1 (-1)) 2 (-1)) 3 (-1)) 4 (-1)) 5 (-1)) 6 (-1)) 7 (-1)) 8 (-1)) 9 (-1)) 10 (-1)) 11 (-1))) (ev_sJ (ev_sJ ev_J0 1 (vp_updL (vp_updL (vp_updL (ev_J0 1) 7 (((1 : Int64) <<< (((xs 1) * (xs 2)).toInt64 &&& 63)) - (1 : Int64))) 8 x164) 9 x165)) 8 (vp_updL (vp_updL (ev_J0 8) 2 0) 3 0)) ev_R0 []) cz kz else G 241 241 [ez_scr, .ref 0, .ref 35, .int 0] [] (ev_hp (ev_sI (ev_sI (ev_sI (ev_sI (ev_sI (ev_sI (ev_sI (ev_sI (ev_sI (ev_sI ev_I0 1 (upd (upd (upd (upd (upd (upd (ev_I0 1) 3 (xs 1)) 4 (xs 2)) 5 1) 6 ((xs 1) * (xs 2))) 1 0) 2 0)) 3 (upd (ev_I0 3) 3 0)) 6 (upd (ev_I0 6) 4 0)) 8 (upd (ev_I0 8) 1 0)) 13 (upd (upd (ev_I0 13) 8 0) 9 0)) 20 (upd (ev_I0 20) 3 0)) 22 (upd (upd (ev_I0 22) 8 0) 11 (-1))) 33 x166) 35 (upd (upd (upd (upd (upd (upd (upd (ev_I0 35) 0 (xs 1)) 1 (xs 2)) 2 0) 3 0) 16 0) 9 0) 10 0)) 61 (upd (upd (upd (upd (upd (upd (upd (upd (upd (upd (upd (upd (ev_I0 61) 0 (-1)) 1 (-1)) 2 (-1)) 3 (-1)) 4 (-1)) 5 (-1)) 6 (-1)) 7 (-1)) 8 (-1)) 9 (-1)) 10 (-1)) 11 (-1))) (ev_sJ (ev_sJ ev_J0 1 (vp_updL (vp_updL (vp_updL (ev_J0 1) 7 (((1 : Int64) <<< (((xs 1) * (xs 2)).toInt64 &&& 63)) - (1 : Int64))) 8 x164) 9 x165)) 8 (vp_updL (vp_updL (ev_J0 8) 2 0) 3 0)) ev_R0 []) cz kz := by
  intro G
  rfl
set_option maxRecDepth 100000 in
set_option maxHeartbeats 100000 in
theorem eo_grid_a_r222 (xs : Nat → Int32) (x164 : Int64) (x165 : Int64) (x166 : Nat → Int32) (q153 : Int32) (q156 : Int32) (cz kz : Nat) : ∀ G : ez_F, fx_up (4, xs) 2 G 241 1075 [ez_scr, .ref 0, .ref 35, .int 0] [] (ev_hp (ev_sI (ev_sI (ev_sI (ev_sI (ev_sI (ev_sI (ev_sI (ev_sI (ev_sI (ev_sI ev_I0 1 (upd (upd (upd (upd (upd (upd (ev_I0 1) 3 (xs 1)) 4 (xs 2)) 5 1) 6 ((xs 1) * (xs 2))) 1 0) 2 0)) 3 (upd (ev_I0 3) 3 0)) 6 (upd (ev_I0 6) 4 0)) 8 (upd (ev_I0 8) 1 0)) 13 (upd (upd (ev_I0 13) 8 0) 9 0)) 20 (upd (ev_I0 20) 3 0)) 22 (upd (upd (ev_I0 22) 8 0) 11 (-1))) 33 x166) 35 (upd (upd (upd (upd (upd (upd (upd (ev_I0 35) 0 (xs 1)) 1 (xs 2)) 2 0) 3 0) 16 0) 9 0) 10 0)) 61 (upd (upd (upd (upd (upd (upd (upd (upd (upd (upd (upd (upd (ev_I0 61) 0 (-1)) 1 (-1)) 2 (-1)) 3 (-1)) 4 (-1)) 5 (-1)) 6 (-1)) 7 (-1)) 8 (-1)) 9 (-1)) 10 (-1)) 11 (-1))) (ev_sJ (ev_sJ ev_J0 1 (vp_updL (vp_updL (vp_updL (ev_J0 1) 7 (((1 : Int64) <<< (((xs 1) * (xs 2)).toInt64 &&& 63)) - (1 : Int64))) 8 x164) 9 x165)) 8 (vp_updL (vp_updL (ev_J0 8) 2 0) 3 0)) ev_R0 []) cz kz = G 241 18 [ez_scr, .ref 0, .ref 35, .int 4] [] (ev_hp (ev_sI (ev_sI (ev_sI (ev_sI (ev_sI (ev_sI (ev_sI (ev_sI (ev_sI (ev_sI ev_I0 1 (upd (upd (upd (upd (upd (upd (ev_I0 1) 3 (xs 1)) 4 (xs 2)) 5 1) 6 ((xs 1) * (xs 2))) 1 0) 2 0)) 3 (upd (ev_I0 3) 3 0)) 6 (upd (ev_I0 6) 4 0)) 8 (upd (ev_I0 8) 1 0)) 13 (upd (upd (ev_I0 13) 8 0) 9 0)) 20 (upd (ev_I0 20) 3 0)) 22 (upd (upd (ev_I0 22) 8 0) 11 (-1))) 33 x166) 35 (upd (upd (upd (upd (upd (upd (upd (ev_I0 35) 0 (xs 1)) 1 (xs 2)) 2 0) 3 0) 16 0) 9 0) 10 0)) 61 (upd (upd (upd (upd (upd (upd (upd (upd (upd (upd (upd (upd (ev_I0 61) 0 (-1)) 1 (-1)) 2 (-1)) 3 (-1)) 4 (-1)) 5 (-1)) 6 (-1)) 7 (-1)) 8 (-1)) 9 (-1)) 10 (-1)) 11 (-1))) (ev_sJ (ev_sJ ev_J0 1 (vp_updL (vp_updL (vp_updL (ev_J0 1) 7 (((1 : Int64) <<< (((xs 1) * (xs 2)).toInt64 &&& 63)) - (1 : Int64))) 8 x164) 9 x165)) 8 (vp_updL (vp_updL (ev_J0 8) 2 0) 3 0)) ev_R0 []) cz kz := by
  intro G
  rfl
set_option maxRecDepth 100000 in
set_option maxHeartbeats 100000 in
theorem eo_grid_a_r223 (xs : Nat → Int32) (x164 : Int64) (x165 : Int64) (x166 : Nat → Int32) (q153 : Int32) (q156 : Int32) (cz kz : Nat) : ∀ G : ez_F, fx_up (4, xs) 2 G 241 18 [ez_scr, .ref 0, .ref 35, .int 4] [] (ev_hp (ev_sI (ev_sI (ev_sI (ev_sI (ev_sI (ev_sI (ev_sI (ev_sI (ev_sI (ev_sI ev_I0 1 (upd (upd (upd (upd (upd (upd (ev_I0 1) 3 (xs 1)) 4 (xs 2)) 5 1) 6 ((xs 1) * (xs 2))) 1 0) 2 0)) 3 (upd (ev_I0 3) 3 0)) 6 (upd (ev_I0 6) 4 0)) 8 (upd (ev_I0 8) 1 0)) 13 (upd (upd (ev_I0 13) 8 0) 9 0)) 20 (upd (ev_I0 20) 3 0)) 22 (upd (upd (ev_I0 22) 8 0) 11 (-1))) 33 x166) 35 (upd (upd (upd (upd (upd (upd (upd (ev_I0 35) 0 (xs 1)) 1 (xs 2)) 2 0) 3 0) 16 0) 9 0) 10 0)) 61 (upd (upd (upd (upd (upd (upd (upd (upd (upd (upd (upd (upd (ev_I0 61) 0 (-1)) 1 (-1)) 2 (-1)) 3 (-1)) 4 (-1)) 5 (-1)) 6 (-1)) 7 (-1)) 8 (-1)) 9 (-1)) 10 (-1)) 11 (-1))) (ev_sJ (ev_sJ ev_J0 1 (vp_updL (vp_updL (vp_updL (ev_J0 1) 7 (((1 : Int64) <<< (((xs 1) * (xs 2)).toInt64 &&& 63)) - (1 : Int64))) 8 x164) 9 x165)) 8 (vp_updL (vp_updL (ev_J0 8) 2 0) 3 0)) ev_R0 []) cz kz = G 241 20 [ez_scr, .ref 0, .ref 35, .int 4] [ez_scr, .int 4] (ev_hp (ev_sI (ev_sI (ev_sI (ev_sI (ev_sI (ev_sI (ev_sI (ev_sI (ev_sI (ev_sI ev_I0 1 (upd (upd (upd (upd (upd (upd (ev_I0 1) 3 (xs 1)) 4 (xs 2)) 5 1) 6 ((xs 1) * (xs 2))) 1 0) 2 0)) 3 (upd (ev_I0 3) 3 0)) 6 (upd (ev_I0 6) 4 0)) 8 (upd (ev_I0 8) 1 0)) 13 (upd (upd (ev_I0 13) 8 0) 9 0)) 20 (upd (ev_I0 20) 3 0)) 22 (upd (upd (ev_I0 22) 8 0) 11 (-1))) 33 x166) 35 (upd (upd (upd (upd (upd (upd (upd (ev_I0 35) 0 (xs 1)) 1 (xs 2)) 2 0) 3 0) 16 0) 9 0) 10 0)) 61 (upd (upd (upd (upd (upd (upd (upd (upd (upd (upd (upd (upd (ev_I0 61) 0 (-1)) 1 (-1)) 2 (-1)) 3 (-1)) 4 (-1)) 5 (-1)) 6 (-1)) 7 (-1)) 8 (-1)) 9 (-1)) 10 (-1)) 11 (-1))) (ev_sJ (ev_sJ ev_J0 1 (vp_updL (vp_updL (vp_updL (ev_J0 1) 7 (((1 : Int64) <<< (((xs 1) * (xs 2)).toInt64 &&& 63)) - (1 : Int64))) 8 x164) 9 x165)) 8 (vp_updL (vp_updL (ev_J0 8) 2 0) 3 0)) ev_R0 []) cz kz := by
  intro G
  rfl
set_option maxRecDepth 100000 in
set_option maxHeartbeats 100000 in
theorem eo_grid_a_r224 (xs : Nat → Int32) (x164 : Int64) (x165 : Int64) (x166 : Nat → Int32) (q153 : Int32) (q156 : Int32) (cz kz : Nat) : ∀ G : ez_F, fx_up (4, xs) 2 G 241 20 [ez_scr, .ref 0, .ref 35, .int 4] [ez_scr, .int 4] (ev_hp (ev_sI (ev_sI (ev_sI (ev_sI (ev_sI (ev_sI (ev_sI (ev_sI (ev_sI (ev_sI ev_I0 1 (upd (upd (upd (upd (upd (upd (ev_I0 1) 3 (xs 1)) 4 (xs 2)) 5 1) 6 ((xs 1) * (xs 2))) 1 0) 2 0)) 3 (upd (ev_I0 3) 3 0)) 6 (upd (ev_I0 6) 4 0)) 8 (upd (ev_I0 8) 1 0)) 13 (upd (upd (ev_I0 13) 8 0) 9 0)) 20 (upd (ev_I0 20) 3 0)) 22 (upd (upd (ev_I0 22) 8 0) 11 (-1))) 33 x166) 35 (upd (upd (upd (upd (upd (upd (upd (ev_I0 35) 0 (xs 1)) 1 (xs 2)) 2 0) 3 0) 16 0) 9 0) 10 0)) 61 (upd (upd (upd (upd (upd (upd (upd (upd (upd (upd (upd (upd (ev_I0 61) 0 (-1)) 1 (-1)) 2 (-1)) 3 (-1)) 4 (-1)) 5 (-1)) 6 (-1)) 7 (-1)) 8 (-1)) 9 (-1)) 10 (-1)) 11 (-1))) (ev_sJ (ev_sJ ev_J0 1 (vp_updL (vp_updL (vp_updL (ev_J0 1) 7 (((1 : Int64) <<< (((xs 1) * (xs 2)).toInt64 &&& 63)) - (1 : Int64))) 8 x164) 9 x165)) 8 (vp_updL (vp_updL (ev_J0 8) 2 0) 3 0)) ev_R0 []) cz kz = G 241 22 [ez_scr, .ref 0, .ref 35, .int 4] [.int 4, .int 4, .int 4] (ev_hp (ev_sI (ev_sI (ev_sI (ev_sI (ev_sI (ev_sI (ev_sI (ev_sI (ev_sI (ev_sI ev_I0 1 (upd (upd (upd (upd (upd (upd (ev_I0 1) 3 (xs 1)) 4 (xs 2)) 5 1) 6 ((xs 1) * (xs 2))) 1 0) 2 0)) 3 (upd (ev_I0 3) 3 0)) 6 (upd (ev_I0 6) 4 0)) 8 (upd (ev_I0 8) 1 0)) 13 (upd (upd (ev_I0 13) 8 0) 9 0)) 20 (upd (ev_I0 20) 3 0)) 22 (upd (upd (ev_I0 22) 8 0) 11 (-1))) 33 x166) 35 (upd (upd (upd (upd (upd (upd (upd (ev_I0 35) 0 (xs 1)) 1 (xs 2)) 2 0) 3 0) 16 0) 9 0) 10 0)) 61 (upd (upd (upd (upd (upd (upd (upd (upd (upd (upd (upd (upd (ev_I0 61) 0 (-1)) 1 (-1)) 2 (-1)) 3 (-1)) 4 (-1)) 5 (-1)) 6 (-1)) 7 (-1)) 8 (-1)) 9 (-1)) 10 (-1)) 11 (-1))) (ev_sJ (ev_sJ ev_J0 1 (vp_updL (vp_updL (vp_updL (ev_J0 1) 7 (((1 : Int64) <<< (((xs 1) * (xs 2)).toInt64 &&& 63)) - (1 : Int64))) 8 x164) 9 x165)) 8 (vp_updL (vp_updL (ev_J0 8) 2 0) 3 0)) ev_R0 []) cz kz := by
  intro G
  rfl
set_option maxRecDepth 100000 in
set_option maxHeartbeats 100000 in
theorem eo_grid_a_r225 (xs : Nat → Int32) (x164 : Int64) (x165 : Int64) (x166 : Nat → Int32) (q153 : Int32) (q156 : Int32) (cz kz : Nat) : ∀ G : ez_F, fx_up (4, xs) 2 G 241 22 [ez_scr, .ref 0, .ref 35, .int 4] [.int 4, .int 4, .int 4] (ev_hp (ev_sI (ev_sI (ev_sI (ev_sI (ev_sI (ev_sI (ev_sI (ev_sI (ev_sI (ev_sI ev_I0 1 (upd (upd (upd (upd (upd (upd (ev_I0 1) 3 (xs 1)) 4 (xs 2)) 5 1) 6 ((xs 1) * (xs 2))) 1 0) 2 0)) 3 (upd (ev_I0 3) 3 0)) 6 (upd (ev_I0 6) 4 0)) 8 (upd (ev_I0 8) 1 0)) 13 (upd (upd (ev_I0 13) 8 0) 9 0)) 20 (upd (ev_I0 20) 3 0)) 22 (upd (upd (ev_I0 22) 8 0) 11 (-1))) 33 x166) 35 (upd (upd (upd (upd (upd (upd (upd (ev_I0 35) 0 (xs 1)) 1 (xs 2)) 2 0) 3 0) 16 0) 9 0) 10 0)) 61 (upd (upd (upd (upd (upd (upd (upd (upd (upd (upd (upd (upd (ev_I0 61) 0 (-1)) 1 (-1)) 2 (-1)) 3 (-1)) 4 (-1)) 5 (-1)) 6 (-1)) 7 (-1)) 8 (-1)) 9 (-1)) 10 (-1)) 11 (-1))) (ev_sJ (ev_sJ ev_J0 1 (vp_updL (vp_updL (vp_updL (ev_J0 1) 7 (((1 : Int64) <<< (((xs 1) * (xs 2)).toInt64 &&& 63)) - (1 : Int64))) 8 x164) 9 x165)) 8 (vp_updL (vp_updL (ev_J0 8) 2 0) 3 0)) ev_R0 []) cz kz = G 241 1081 [ez_scr, .ref 0, .ref 35, .int 4] [] (ev_hp (ev_sI (ev_sI (ev_sI (ev_sI (ev_sI (ev_sI (ev_sI (ev_sI (ev_sI (ev_sI ev_I0 1 (upd (upd (upd (upd (upd (upd (ev_I0 1) 3 (xs 1)) 4 (xs 2)) 5 1) 6 ((xs 1) * (xs 2))) 1 0) 2 0)) 3 (upd (ev_I0 3) 3 0)) 6 (upd (ev_I0 6) 4 0)) 8 (upd (ev_I0 8) 1 0)) 13 (upd (upd (ev_I0 13) 8 0) 9 0)) 20 (upd (ev_I0 20) 3 0)) 22 (upd (upd (ev_I0 22) 8 0) 11 (-1))) 33 x166) 35 (upd (upd (upd (upd (upd (upd (upd (ev_I0 35) 0 (xs 1)) 1 (xs 2)) 2 0) 3 0) 16 0) 9 0) 10 0)) 61 (upd (upd (upd (upd (upd (upd (upd (upd (upd (upd (upd (upd (ev_I0 61) 0 (-1)) 1 (-1)) 2 (-1)) 3 (-1)) 4 (-1)) 5 (-1)) 6 (-1)) 7 (-1)) 8 (-1)) 9 (-1)) 10 (-1)) 11 (-1))) (ev_sJ (ev_sJ ev_J0 1 (vp_updL (vp_updL (vp_updL (ev_J0 1) 7 (((1 : Int64) <<< (((xs 1) * (xs 2)).toInt64 &&& 63)) - (1 : Int64))) 8 x164) 9 x165)) 8 (vp_updL (vp_updL (ev_J0 8) 2 0) 3 0)) ev_R0 []) cz kz := by
  intro G
  rfl
set_option maxRecDepth 100000 in
set_option maxHeartbeats 100000 in
theorem eo_grid_a_r226 (xs : Nat → Int32) (x164 : Int64) (x165 : Int64) (x166 : Nat → Int32) (q153 : Int32) (q156 : Int32) (cz kz : Nat) : ∀ G : ez_F, fx_up (4, xs) 2 G 241 1081 [ez_scr, .ref 0, .ref 35, .int 4] [] (ev_hp (ev_sI (ev_sI (ev_sI (ev_sI (ev_sI (ev_sI (ev_sI (ev_sI (ev_sI (ev_sI ev_I0 1 (upd (upd (upd (upd (upd (upd (ev_I0 1) 3 (xs 1)) 4 (xs 2)) 5 1) 6 ((xs 1) * (xs 2))) 1 0) 2 0)) 3 (upd (ev_I0 3) 3 0)) 6 (upd (ev_I0 6) 4 0)) 8 (upd (ev_I0 8) 1 0)) 13 (upd (upd (ev_I0 13) 8 0) 9 0)) 20 (upd (ev_I0 20) 3 0)) 22 (upd (upd (ev_I0 22) 8 0) 11 (-1))) 33 x166) 35 (upd (upd (upd (upd (upd (upd (upd (ev_I0 35) 0 (xs 1)) 1 (xs 2)) 2 0) 3 0) 16 0) 9 0) 10 0)) 61 (upd (upd (upd (upd (upd (upd (upd (upd (upd (upd (upd (upd (ev_I0 61) 0 (-1)) 1 (-1)) 2 (-1)) 3 (-1)) 4 (-1)) 5 (-1)) 6 (-1)) 7 (-1)) 8 (-1)) 9 (-1)) 10 (-1)) 11 (-1))) (ev_sJ (ev_sJ ev_J0 1 (vp_updL (vp_updL (vp_updL (ev_J0 1) 7 (((1 : Int64) <<< (((xs 1) * (xs 2)).toInt64 &&& 63)) - (1 : Int64))) 8 x164) 9 x165)) 8 (vp_updL (vp_updL (ev_J0 8) 2 0) 3 0)) ev_R0 []) cz kz = some (some (.int 1), (ev_hp (ev_sI (ev_sI (ev_sI (ev_sI (ev_sI (ev_sI (ev_sI (ev_sI (ev_sI (ev_sI ev_I0 1 (upd (upd (upd (upd (upd (upd (ev_I0 1) 3 (xs 1)) 4 (xs 2)) 5 1) 6 ((xs 1) * (xs 2))) 1 0) 2 0)) 3 (upd (ev_I0 3) 3 0)) 6 (upd (ev_I0 6) 4 0)) 8 (upd (ev_I0 8) 1 0)) 13 (upd (upd (ev_I0 13) 8 0) 9 0)) 20 (upd (ev_I0 20) 3 0)) 22 (upd (upd (ev_I0 22) 8 0) 11 (-1))) 33 x166) 35 (upd (upd (upd (upd (upd (upd (upd (ev_I0 35) 0 (xs 1)) 1 (xs 2)) 2 0) 3 0) 16 0) 9 0) 10 0)) 61 (upd (upd (upd (upd (upd (upd (upd (upd (upd (upd (upd (upd (ev_I0 61) 0 (-1)) 1 (-1)) 2 (-1)) 3 (-1)) 4 (-1)) 5 (-1)) 6 (-1)) 7 (-1)) 8 (-1)) 9 (-1)) 10 (-1)) 11 (-1))) (ev_sJ (ev_sJ ev_J0 1 (vp_updL (vp_updL (vp_updL (ev_J0 1) 7 (((1 : Int64) <<< (((xs 1) * (xs 2)).toInt64 &&& 63)) - (1 : Int64))) 8 x164) 9 x165)) 8 (vp_updL (vp_updL (ev_J0 8) 2 0) 3 0)) ev_R0 []), cz, kz) := by
  intro G
  rfl
set_option maxRecDepth 100000 in
set_option maxHeartbeats 100000 in
theorem eo_grid_a_r227 (xs : Nat → Int32) (x164 : Int64) (x165 : Int64) (x166 : Nat → Int32) (q153 : Int32) (cz kz : Nat) : ∀ G : ez_F, fx_up (4, xs) 1 G 241 238 [ez_scr, .ref 0, .ref 35, .int 0] [.int (-3), .int q153] (ev_hp (ev_sI (ev_sI (ev_sI (ev_sI (ev_sI (ev_sI (ev_sI (ev_sI ev_I0 1 (upd (upd (upd (upd (upd (upd (ev_I0 1) 3 (xs 1)) 4 (xs 2)) 5 1) 6 ((xs 1) * (xs 2))) 1 0) 2 0)) 3 (upd (ev_I0 3) 3 0)) 6 (upd (ev_I0 6) 4 0)) 8 (upd (ev_I0 8) 1 0)) 13 (upd (upd (ev_I0 13) 8 0) 9 0)) 20 (upd (ev_I0 20) 3 0)) 22 (upd (upd (ev_I0 22) 8 0) 11 (-1))) 33 x166) (ev_sJ (ev_sJ ev_J0 1 (vp_updL (vp_updL (vp_updL (ev_J0 1) 7 (((1 : Int64) <<< (((xs 1) * (xs 2)).toInt64 &&& 63)) - (1 : Int64))) 8 x164) 9 x165)) 8 (vp_updL (vp_updL (ev_J0 8) 2 0) 3 0)) ev_R0 []) cz kz = bif decide (q153 = (-3)) then G 241 1075 [ez_scr, .ref 0, .ref 35, .int 0] [] (ev_hp (ev_sI (ev_sI (ev_sI (ev_sI (ev_sI (ev_sI (ev_sI (ev_sI ev_I0 1 (upd (upd (upd (upd (upd (upd (ev_I0 1) 3 (xs 1)) 4 (xs 2)) 5 1) 6 ((xs 1) * (xs 2))) 1 0) 2 0)) 3 (upd (ev_I0 3) 3 0)) 6 (upd (ev_I0 6) 4 0)) 8 (upd (ev_I0 8) 1 0)) 13 (upd (upd (ev_I0 13) 8 0) 9 0)) 20 (upd (ev_I0 20) 3 0)) 22 (upd (upd (ev_I0 22) 8 0) 11 (-1))) 33 x166) (ev_sJ (ev_sJ ev_J0 1 (vp_updL (vp_updL (vp_updL (ev_J0 1) 7 (((1 : Int64) <<< (((xs 1) * (xs 2)).toInt64 &&& 63)) - (1 : Int64))) 8 x164) 9 x165)) 8 (vp_updL (vp_updL (ev_J0 8) 2 0) 3 0)) ev_R0 []) cz kz else G 241 241 [ez_scr, .ref 0, .ref 35, .int 0] [] (ev_hp (ev_sI (ev_sI (ev_sI (ev_sI (ev_sI (ev_sI (ev_sI (ev_sI ev_I0 1 (upd (upd (upd (upd (upd (upd (ev_I0 1) 3 (xs 1)) 4 (xs 2)) 5 1) 6 ((xs 1) * (xs 2))) 1 0) 2 0)) 3 (upd (ev_I0 3) 3 0)) 6 (upd (ev_I0 6) 4 0)) 8 (upd (ev_I0 8) 1 0)) 13 (upd (upd (ev_I0 13) 8 0) 9 0)) 20 (upd (ev_I0 20) 3 0)) 22 (upd (upd (ev_I0 22) 8 0) 11 (-1))) 33 x166) (ev_sJ (ev_sJ ev_J0 1 (vp_updL (vp_updL (vp_updL (ev_J0 1) 7 (((1 : Int64) <<< (((xs 1) * (xs 2)).toInt64 &&& 63)) - (1 : Int64))) 8 x164) 9 x165)) 8 (vp_updL (vp_updL (ev_J0 8) 2 0) 3 0)) ev_R0 []) cz kz := by
  intro G
  rfl
set_option maxRecDepth 100000 in
set_option maxHeartbeats 100000 in
theorem eo_grid_a_r228 (xs : Nat → Int32) (x164 : Int64) (x165 : Int64) (x166 : Nat → Int32) (q153 : Int32) (cz kz : Nat) : ∀ G : ez_F, fx_up (4, xs) 2 G 241 1075 [ez_scr, .ref 0, .ref 35, .int 0] [] (ev_hp (ev_sI (ev_sI (ev_sI (ev_sI (ev_sI (ev_sI (ev_sI (ev_sI ev_I0 1 (upd (upd (upd (upd (upd (upd (ev_I0 1) 3 (xs 1)) 4 (xs 2)) 5 1) 6 ((xs 1) * (xs 2))) 1 0) 2 0)) 3 (upd (ev_I0 3) 3 0)) 6 (upd (ev_I0 6) 4 0)) 8 (upd (ev_I0 8) 1 0)) 13 (upd (upd (ev_I0 13) 8 0) 9 0)) 20 (upd (ev_I0 20) 3 0)) 22 (upd (upd (ev_I0 22) 8 0) 11 (-1))) 33 x166) (ev_sJ (ev_sJ ev_J0 1 (vp_updL (vp_updL (vp_updL (ev_J0 1) 7 (((1 : Int64) <<< (((xs 1) * (xs 2)).toInt64 &&& 63)) - (1 : Int64))) 8 x164) 9 x165)) 8 (vp_updL (vp_updL (ev_J0 8) 2 0) 3 0)) ev_R0 []) cz kz = G 241 18 [ez_scr, .ref 0, .ref 35, .int 4] [] (ev_hp (ev_sI (ev_sI (ev_sI (ev_sI (ev_sI (ev_sI (ev_sI (ev_sI ev_I0 1 (upd (upd (upd (upd (upd (upd (ev_I0 1) 3 (xs 1)) 4 (xs 2)) 5 1) 6 ((xs 1) * (xs 2))) 1 0) 2 0)) 3 (upd (ev_I0 3) 3 0)) 6 (upd (ev_I0 6) 4 0)) 8 (upd (ev_I0 8) 1 0)) 13 (upd (upd (ev_I0 13) 8 0) 9 0)) 20 (upd (ev_I0 20) 3 0)) 22 (upd (upd (ev_I0 22) 8 0) 11 (-1))) 33 x166) (ev_sJ (ev_sJ ev_J0 1 (vp_updL (vp_updL (vp_updL (ev_J0 1) 7 (((1 : Int64) <<< (((xs 1) * (xs 2)).toInt64 &&& 63)) - (1 : Int64))) 8 x164) 9 x165)) 8 (vp_updL (vp_updL (ev_J0 8) 2 0) 3 0)) ev_R0 []) cz kz := by
  intro G
  rfl
set_option maxRecDepth 100000 in
set_option maxHeartbeats 100000 in
theorem eo_grid_a_r229 (xs : Nat → Int32) (x164 : Int64) (x165 : Int64) (x166 : Nat → Int32) (q153 : Int32) (cz kz : Nat) : ∀ G : ez_F, fx_up (4, xs) 2 G 241 18 [ez_scr, .ref 0, .ref 35, .int 4] [] (ev_hp (ev_sI (ev_sI (ev_sI (ev_sI (ev_sI (ev_sI (ev_sI (ev_sI ev_I0 1 (upd (upd (upd (upd (upd (upd (ev_I0 1) 3 (xs 1)) 4 (xs 2)) 5 1) 6 ((xs 1) * (xs 2))) 1 0) 2 0)) 3 (upd (ev_I0 3) 3 0)) 6 (upd (ev_I0 6) 4 0)) 8 (upd (ev_I0 8) 1 0)) 13 (upd (upd (ev_I0 13) 8 0) 9 0)) 20 (upd (ev_I0 20) 3 0)) 22 (upd (upd (ev_I0 22) 8 0) 11 (-1))) 33 x166) (ev_sJ (ev_sJ ev_J0 1 (vp_updL (vp_updL (vp_updL (ev_J0 1) 7 (((1 : Int64) <<< (((xs 1) * (xs 2)).toInt64 &&& 63)) - (1 : Int64))) 8 x164) 9 x165)) 8 (vp_updL (vp_updL (ev_J0 8) 2 0) 3 0)) ev_R0 []) cz kz = G 241 20 [ez_scr, .ref 0, .ref 35, .int 4] [ez_scr, .int 4] (ev_hp (ev_sI (ev_sI (ev_sI (ev_sI (ev_sI (ev_sI (ev_sI (ev_sI ev_I0 1 (upd (upd (upd (upd (upd (upd (ev_I0 1) 3 (xs 1)) 4 (xs 2)) 5 1) 6 ((xs 1) * (xs 2))) 1 0) 2 0)) 3 (upd (ev_I0 3) 3 0)) 6 (upd (ev_I0 6) 4 0)) 8 (upd (ev_I0 8) 1 0)) 13 (upd (upd (ev_I0 13) 8 0) 9 0)) 20 (upd (ev_I0 20) 3 0)) 22 (upd (upd (ev_I0 22) 8 0) 11 (-1))) 33 x166) (ev_sJ (ev_sJ ev_J0 1 (vp_updL (vp_updL (vp_updL (ev_J0 1) 7 (((1 : Int64) <<< (((xs 1) * (xs 2)).toInt64 &&& 63)) - (1 : Int64))) 8 x164) 9 x165)) 8 (vp_updL (vp_updL (ev_J0 8) 2 0) 3 0)) ev_R0 []) cz kz := by
  intro G
  rfl
set_option maxRecDepth 100000 in
set_option maxHeartbeats 100000 in
theorem eo_grid_a_r230 (xs : Nat → Int32) (x164 : Int64) (x165 : Int64) (x166 : Nat → Int32) (q153 : Int32) (cz kz : Nat) : ∀ G : ez_F, fx_up (4, xs) 2 G 241 20 [ez_scr, .ref 0, .ref 35, .int 4] [ez_scr, .int 4] (ev_hp (ev_sI (ev_sI (ev_sI (ev_sI (ev_sI (ev_sI (ev_sI (ev_sI ev_I0 1 (upd (upd (upd (upd (upd (upd (ev_I0 1) 3 (xs 1)) 4 (xs 2)) 5 1) 6 ((xs 1) * (xs 2))) 1 0) 2 0)) 3 (upd (ev_I0 3) 3 0)) 6 (upd (ev_I0 6) 4 0)) 8 (upd (ev_I0 8) 1 0)) 13 (upd (upd (ev_I0 13) 8 0) 9 0)) 20 (upd (ev_I0 20) 3 0)) 22 (upd (upd (ev_I0 22) 8 0) 11 (-1))) 33 x166) (ev_sJ (ev_sJ ev_J0 1 (vp_updL (vp_updL (vp_updL (ev_J0 1) 7 (((1 : Int64) <<< (((xs 1) * (xs 2)).toInt64 &&& 63)) - (1 : Int64))) 8 x164) 9 x165)) 8 (vp_updL (vp_updL (ev_J0 8) 2 0) 3 0)) ev_R0 []) cz kz = G 241 22 [ez_scr, .ref 0, .ref 35, .int 4] [.int 4, .int 4, .int 4] (ev_hp (ev_sI (ev_sI (ev_sI (ev_sI (ev_sI (ev_sI (ev_sI (ev_sI ev_I0 1 (upd (upd (upd (upd (upd (upd (ev_I0 1) 3 (xs 1)) 4 (xs 2)) 5 1) 6 ((xs 1) * (xs 2))) 1 0) 2 0)) 3 (upd (ev_I0 3) 3 0)) 6 (upd (ev_I0 6) 4 0)) 8 (upd (ev_I0 8) 1 0)) 13 (upd (upd (ev_I0 13) 8 0) 9 0)) 20 (upd (ev_I0 20) 3 0)) 22 (upd (upd (ev_I0 22) 8 0) 11 (-1))) 33 x166) (ev_sJ (ev_sJ ev_J0 1 (vp_updL (vp_updL (vp_updL (ev_J0 1) 7 (((1 : Int64) <<< (((xs 1) * (xs 2)).toInt64 &&& 63)) - (1 : Int64))) 8 x164) 9 x165)) 8 (vp_updL (vp_updL (ev_J0 8) 2 0) 3 0)) ev_R0 []) cz kz := by
  intro G
  rfl
set_option maxRecDepth 100000 in
set_option maxHeartbeats 100000 in
theorem eo_grid_a_r231 (xs : Nat → Int32) (x164 : Int64) (x165 : Int64) (x166 : Nat → Int32) (q153 : Int32) (cz kz : Nat) : ∀ G : ez_F, fx_up (4, xs) 2 G 241 22 [ez_scr, .ref 0, .ref 35, .int 4] [.int 4, .int 4, .int 4] (ev_hp (ev_sI (ev_sI (ev_sI (ev_sI (ev_sI (ev_sI (ev_sI (ev_sI ev_I0 1 (upd (upd (upd (upd (upd (upd (ev_I0 1) 3 (xs 1)) 4 (xs 2)) 5 1) 6 ((xs 1) * (xs 2))) 1 0) 2 0)) 3 (upd (ev_I0 3) 3 0)) 6 (upd (ev_I0 6) 4 0)) 8 (upd (ev_I0 8) 1 0)) 13 (upd (upd (ev_I0 13) 8 0) 9 0)) 20 (upd (ev_I0 20) 3 0)) 22 (upd (upd (ev_I0 22) 8 0) 11 (-1))) 33 x166) (ev_sJ (ev_sJ ev_J0 1 (vp_updL (vp_updL (vp_updL (ev_J0 1) 7 (((1 : Int64) <<< (((xs 1) * (xs 2)).toInt64 &&& 63)) - (1 : Int64))) 8 x164) 9 x165)) 8 (vp_updL (vp_updL (ev_J0 8) 2 0) 3 0)) ev_R0 []) cz kz = G 241 1081 [ez_scr, .ref 0, .ref 35, .int 4] [] (ev_hp (ev_sI (ev_sI (ev_sI (ev_sI (ev_sI (ev_sI (ev_sI (ev_sI ev_I0 1 (upd (upd (upd (upd (upd (upd (ev_I0 1) 3 (xs 1)) 4 (xs 2)) 5 1) 6 ((xs 1) * (xs 2))) 1 0) 2 0)) 3 (upd (ev_I0 3) 3 0)) 6 (upd (ev_I0 6) 4 0)) 8 (upd (ev_I0 8) 1 0)) 13 (upd (upd (ev_I0 13) 8 0) 9 0)) 20 (upd (ev_I0 20) 3 0)) 22 (upd (upd (ev_I0 22) 8 0) 11 (-1))) 33 x166) (ev_sJ (ev_sJ ev_J0 1 (vp_updL (vp_updL (vp_updL (ev_J0 1) 7 (((1 : Int64) <<< (((xs 1) * (xs 2)).toInt64 &&& 63)) - (1 : Int64))) 8 x164) 9 x165)) 8 (vp_updL (vp_updL (ev_J0 8) 2 0) 3 0)) ev_R0 []) cz kz := by
  intro G
  rfl
set_option maxRecDepth 100000 in
set_option maxHeartbeats 100000 in
theorem eo_grid_a_r232 (xs : Nat → Int32) (x164 : Int64) (x165 : Int64) (x166 : Nat → Int32) (q153 : Int32) (cz kz : Nat) : ∀ G : ez_F, fx_up (4, xs) 2 G 241 1081 [ez_scr, .ref 0, .ref 35, .int 4] [] (ev_hp (ev_sI (ev_sI (ev_sI (ev_sI (ev_sI (ev_sI (ev_sI (ev_sI ev_I0 1 (upd (upd (upd (upd (upd (upd (ev_I0 1) 3 (xs 1)) 4 (xs 2)) 5 1) 6 ((xs 1) * (xs 2))) 1 0) 2 0)) 3 (upd (ev_I0 3) 3 0)) 6 (upd (ev_I0 6) 4 0)) 8 (upd (ev_I0 8) 1 0)) 13 (upd (upd (ev_I0 13) 8 0) 9 0)) 20 (upd (ev_I0 20) 3 0)) 22 (upd (upd (ev_I0 22) 8 0) 11 (-1))) 33 x166) (ev_sJ (ev_sJ ev_J0 1 (vp_updL (vp_updL (vp_updL (ev_J0 1) 7 (((1 : Int64) <<< (((xs 1) * (xs 2)).toInt64 &&& 63)) - (1 : Int64))) 8 x164) 9 x165)) 8 (vp_updL (vp_updL (ev_J0 8) 2 0) 3 0)) ev_R0 []) cz kz = some (some (.int 1), (ev_hp (ev_sI (ev_sI (ev_sI (ev_sI (ev_sI (ev_sI (ev_sI (ev_sI ev_I0 1 (upd (upd (upd (upd (upd (upd (ev_I0 1) 3 (xs 1)) 4 (xs 2)) 5 1) 6 ((xs 1) * (xs 2))) 1 0) 2 0)) 3 (upd (ev_I0 3) 3 0)) 6 (upd (ev_I0 6) 4 0)) 8 (upd (ev_I0 8) 1 0)) 13 (upd (upd (ev_I0 13) 8 0) 9 0)) 20 (upd (ev_I0 20) 3 0)) 22 (upd (upd (ev_I0 22) 8 0) 11 (-1))) 33 x166) (ev_sJ (ev_sJ ev_J0 1 (vp_updL (vp_updL (vp_updL (ev_J0 1) 7 (((1 : Int64) <<< (((xs 1) * (xs 2)).toInt64 &&& 63)) - (1 : Int64))) 8 x164) 9 x165)) 8 (vp_updL (vp_updL (ev_J0 8) 2 0) 3 0)) ev_R0 []), cz, kz) := by
  intro G
  rfl
set_option maxRecDepth 100000 in
set_option maxHeartbeats 100000 in
theorem eo_grid_a_r233 (xs : Nat → Int32) (x164 : Int64) (x165 : Int64) (x166 : Nat → Int32) (q153 : Int32) (cz kz : Nat) : ∀ G : ez_F, fx_up (4, xs) 2 G 241 230 [ez_scr, .ref 0, .ref 35, .int 0] [.int (xs 2), .int (xs 1), .ref 35, .int q153] (ev_hp (ev_sI (ev_sI (ev_sI (ev_sI (ev_sI (ev_sI (ev_sI (ev_sI ev_I0 1 (upd (upd (upd (upd (upd (upd (ev_I0 1) 3 (xs 1)) 4 (xs 2)) 5 1) 6 ((xs 1) * (xs 2))) 1 0) 2 0)) 3 (upd (ev_I0 3) 3 0)) 6 (upd (ev_I0 6) 4 0)) 8 (upd (ev_I0 8) 1 0)) 13 (upd (upd (ev_I0 13) 8 0) 9 0)) 20 (upd (ev_I0 20) 3 0)) 22 (upd (upd (ev_I0 22) 8 0) 11 (-1))) 33 x166) (ev_sJ (ev_sJ ev_J0 1 (vp_updL (vp_updL (vp_updL (ev_J0 1) 7 (((1 : Int64) <<< (((xs 1) * (xs 2)).toInt64 &&& 63)) - (1 : Int64))) 8 x164) 9 x165)) 8 (vp_updL (vp_updL (ev_J0 8) 2 0) 3 0)) ev_R0 []) cz kz = G 241 235 [ez_scr, .ref 0, .ref 35, .int 0] [.int 1, .int (xs 2), .int (xs 1), .ref 35, .int q153] (ev_hp (ev_sI (ev_sI (ev_sI (ev_sI (ev_sI (ev_sI (ev_sI (ev_sI ev_I0 1 (upd (upd (upd (upd (upd (upd (ev_I0 1) 3 (xs 1)) 4 (xs 2)) 5 1) 6 ((xs 1) * (xs 2))) 1 0) 2 0)) 3 (upd (ev_I0 3) 3 0)) 6 (upd (ev_I0 6) 4 0)) 8 (upd (ev_I0 8) 1 0)) 13 (upd (upd (ev_I0 13) 8 0) 9 0)) 20 (upd (ev_I0 20) 3 0)) 22 (upd (upd (ev_I0 22) 8 0) 11 (-1))) 33 x166) (ev_sJ (ev_sJ ev_J0 1 (vp_updL (vp_updL (vp_updL (ev_J0 1) 7 (((1 : Int64) <<< (((xs 1) * (xs 2)).toInt64 &&& 63)) - (1 : Int64))) 8 x164) 9 x165)) 8 (vp_updL (vp_updL (ev_J0 8) 2 0) 3 0)) ev_R0 []) cz kz := by
  intro G
  rfl
set_option maxRecDepth 100000 in
set_option maxHeartbeats 100000 in
theorem eo_grid_a_r234 (xs : Nat → Int32) (x164 : Int64) (x165 : Int64) (x166 : Nat → Int32) (q153 : Int32) (cz kz : Nat) : ∀ G : ez_F, fx_up (4, xs) 1 G 241 235 [ez_scr, .ref 0, .ref 35, .int 0] [.int 1, .int (xs 2), .int (xs 1), .ref 35, .int q153] (ev_hp (ev_sI (ev_sI (ev_sI (ev_sI (ev_sI (ev_sI (ev_sI (ev_sI ev_I0 1 (upd (upd (upd (upd (upd (upd (ev_I0 1) 3 (xs 1)) 4 (xs 2)) 5 1) 6 ((xs 1) * (xs 2))) 1 0) 2 0)) 3 (upd (ev_I0 3) 3 0)) 6 (upd (ev_I0 6) 4 0)) 8 (upd (ev_I0 8) 1 0)) 13 (upd (upd (ev_I0 13) 8 0) 9 0)) 20 (upd (ev_I0 20) 3 0)) 22 (upd (upd (ev_I0 22) 8 0) 11 (-1))) 33 x166) (ev_sJ (ev_sJ ev_J0 1 (vp_updL (vp_updL (vp_updL (ev_J0 1) 7 (((1 : Int64) <<< (((xs 1) * (xs 2)).toInt64 &&& 63)) - (1 : Int64))) 8 x164) 9 x165)) 8 (vp_updL (vp_updL (ev_J0 8) 2 0) 3 0)) ev_R0 []) cz kz = ev_C G 195 [.ref 35, .int (xs 1), .int (xs 2), .int 1] (ev_hp (ev_sI (ev_sI (ev_sI (ev_sI (ev_sI (ev_sI (ev_sI (ev_sI ev_I0 1 (upd (upd (upd (upd (upd (upd (ev_I0 1) 3 (xs 1)) 4 (xs 2)) 5 1) 6 ((xs 1) * (xs 2))) 1 0) 2 0)) 3 (upd (ev_I0 3) 3 0)) 6 (upd (ev_I0 6) 4 0)) 8 (upd (ev_I0 8) 1 0)) 13 (upd (upd (ev_I0 13) 8 0) 9 0)) 20 (upd (ev_I0 20) 3 0)) 22 (upd (upd (ev_I0 22) 8 0) 11 (-1))) 33 x166) (ev_sJ (ev_sJ ev_J0 1 (vp_updL (vp_updL (vp_updL (ev_J0 1) 7 (((1 : Int64) <<< (((xs 1) * (xs 2)).toInt64 &&& 63)) - (1 : Int64))) 8 x164) 9 x165)) 8 (vp_updL (vp_updL (ev_J0 8) 2 0) 3 0)) ev_R0 []) fun r h1 c1 k1 => G 241 238 [ez_scr, .ref 0, .ref 35, .int 0] (r.toList ++ [.int q153]) h1 (cz + c1) (kz + k1) := by
  intro G
  rfl
set_option maxRecDepth 100000 in
set_option maxHeartbeats 100000 in
theorem eo_grid_a_r235 (xs : Nat → Int32) (x164 : Int64) (x165 : Int64) (x166 : Nat → Int32) (q153 : Int32) (cz kz : Nat) : ∀ G : ez_F, fx_up (4, xs) 1 G 241 238 [ez_scr, .ref 0, .ref 35, .int 0] [.int (-3), .int q153] (ev_hp (ev_sI (ev_sI (ev_sI (ev_sI (ev_sI (ev_sI (ev_sI (ev_sI ev_I0 1 (upd (upd (upd (upd (upd (upd (ev_I0 1) 3 (xs 1)) 4 (xs 2)) 5 1) 6 ((xs 1) * (xs 2))) 1 0) 2 0)) 3 (upd (ev_I0 3) 3 0)) 6 (upd (ev_I0 6) 4 0)) 8 (upd (ev_I0 8) 1 0)) 13 (upd (upd (ev_I0 13) 8 0) 9 0)) 20 (upd (ev_I0 20) 3 0)) 22 (upd (upd (ev_I0 22) 8 0) 11 (-1))) 33 x166) (ev_sJ (ev_sJ ev_J0 1 (vp_updL (vp_updL (vp_updL (ev_J0 1) 7 (((1 : Int64) <<< (((xs 1) * (xs 2)).toInt64 &&& 63)) - (1 : Int64))) 8 x164) 9 x165)) 8 (vp_updL (vp_updL (ev_J0 8) 2 0) 3 0)) ev_R0 []) cz kz = bif decide (q153 = (-3)) then G 241 1075 [ez_scr, .ref 0, .ref 35, .int 0] [] (ev_hp (ev_sI (ev_sI (ev_sI (ev_sI (ev_sI (ev_sI (ev_sI (ev_sI ev_I0 1 (upd (upd (upd (upd (upd (upd (ev_I0 1) 3 (xs 1)) 4 (xs 2)) 5 1) 6 ((xs 1) * (xs 2))) 1 0) 2 0)) 3 (upd (ev_I0 3) 3 0)) 6 (upd (ev_I0 6) 4 0)) 8 (upd (ev_I0 8) 1 0)) 13 (upd (upd (ev_I0 13) 8 0) 9 0)) 20 (upd (ev_I0 20) 3 0)) 22 (upd (upd (ev_I0 22) 8 0) 11 (-1))) 33 x166) (ev_sJ (ev_sJ ev_J0 1 (vp_updL (vp_updL (vp_updL (ev_J0 1) 7 (((1 : Int64) <<< (((xs 1) * (xs 2)).toInt64 &&& 63)) - (1 : Int64))) 8 x164) 9 x165)) 8 (vp_updL (vp_updL (ev_J0 8) 2 0) 3 0)) ev_R0 []) cz kz else G 241 241 [ez_scr, .ref 0, .ref 35, .int 0] [] (ev_hp (ev_sI (ev_sI (ev_sI (ev_sI (ev_sI (ev_sI (ev_sI (ev_sI ev_I0 1 (upd (upd (upd (upd (upd (upd (ev_I0 1) 3 (xs 1)) 4 (xs 2)) 5 1) 6 ((xs 1) * (xs 2))) 1 0) 2 0)) 3 (upd (ev_I0 3) 3 0)) 6 (upd (ev_I0 6) 4 0)) 8 (upd (ev_I0 8) 1 0)) 13 (upd (upd (ev_I0 13) 8 0) 9 0)) 20 (upd (ev_I0 20) 3 0)) 22 (upd (upd (ev_I0 22) 8 0) 11 (-1))) 33 x166) (ev_sJ (ev_sJ ev_J0 1 (vp_updL (vp_updL (vp_updL (ev_J0 1) 7 (((1 : Int64) <<< (((xs 1) * (xs 2)).toInt64 &&& 63)) - (1 : Int64))) 8 x164) 9 x165)) 8 (vp_updL (vp_updL (ev_J0 8) 2 0) 3 0)) ev_R0 []) cz kz := by
  intro G
  rfl
set_option maxRecDepth 100000 in
set_option maxHeartbeats 100000 in
theorem eo_grid_a_r236 (xs : Nat → Int32) (x164 : Int64) (x165 : Int64) (x166 : Nat → Int32) (q153 : Int32) (cz kz : Nat) : ∀ G : ez_F, fx_up (4, xs) 2 G 241 1075 [ez_scr, .ref 0, .ref 35, .int 0] [] (ev_hp (ev_sI (ev_sI (ev_sI (ev_sI (ev_sI (ev_sI (ev_sI (ev_sI ev_I0 1 (upd (upd (upd (upd (upd (upd (ev_I0 1) 3 (xs 1)) 4 (xs 2)) 5 1) 6 ((xs 1) * (xs 2))) 1 0) 2 0)) 3 (upd (ev_I0 3) 3 0)) 6 (upd (ev_I0 6) 4 0)) 8 (upd (ev_I0 8) 1 0)) 13 (upd (upd (ev_I0 13) 8 0) 9 0)) 20 (upd (ev_I0 20) 3 0)) 22 (upd (upd (ev_I0 22) 8 0) 11 (-1))) 33 x166) (ev_sJ (ev_sJ ev_J0 1 (vp_updL (vp_updL (vp_updL (ev_J0 1) 7 (((1 : Int64) <<< (((xs 1) * (xs 2)).toInt64 &&& 63)) - (1 : Int64))) 8 x164) 9 x165)) 8 (vp_updL (vp_updL (ev_J0 8) 2 0) 3 0)) ev_R0 []) cz kz = G 241 18 [ez_scr, .ref 0, .ref 35, .int 4] [] (ev_hp (ev_sI (ev_sI (ev_sI (ev_sI (ev_sI (ev_sI (ev_sI (ev_sI ev_I0 1 (upd (upd (upd (upd (upd (upd (ev_I0 1) 3 (xs 1)) 4 (xs 2)) 5 1) 6 ((xs 1) * (xs 2))) 1 0) 2 0)) 3 (upd (ev_I0 3) 3 0)) 6 (upd (ev_I0 6) 4 0)) 8 (upd (ev_I0 8) 1 0)) 13 (upd (upd (ev_I0 13) 8 0) 9 0)) 20 (upd (ev_I0 20) 3 0)) 22 (upd (upd (ev_I0 22) 8 0) 11 (-1))) 33 x166) (ev_sJ (ev_sJ ev_J0 1 (vp_updL (vp_updL (vp_updL (ev_J0 1) 7 (((1 : Int64) <<< (((xs 1) * (xs 2)).toInt64 &&& 63)) - (1 : Int64))) 8 x164) 9 x165)) 8 (vp_updL (vp_updL (ev_J0 8) 2 0) 3 0)) ev_R0 []) cz kz := by
  intro G
  rfl
set_option maxRecDepth 100000 in
set_option maxHeartbeats 100000 in
theorem eo_grid_a_r237 (xs : Nat → Int32) (x164 : Int64) (x165 : Int64) (x166 : Nat → Int32) (q153 : Int32) (cz kz : Nat) : ∀ G : ez_F, fx_up (4, xs) 2 G 241 18 [ez_scr, .ref 0, .ref 35, .int 4] [] (ev_hp (ev_sI (ev_sI (ev_sI (ev_sI (ev_sI (ev_sI (ev_sI (ev_sI ev_I0 1 (upd (upd (upd (upd (upd (upd (ev_I0 1) 3 (xs 1)) 4 (xs 2)) 5 1) 6 ((xs 1) * (xs 2))) 1 0) 2 0)) 3 (upd (ev_I0 3) 3 0)) 6 (upd (ev_I0 6) 4 0)) 8 (upd (ev_I0 8) 1 0)) 13 (upd (upd (ev_I0 13) 8 0) 9 0)) 20 (upd (ev_I0 20) 3 0)) 22 (upd (upd (ev_I0 22) 8 0) 11 (-1))) 33 x166) (ev_sJ (ev_sJ ev_J0 1 (vp_updL (vp_updL (vp_updL (ev_J0 1) 7 (((1 : Int64) <<< (((xs 1) * (xs 2)).toInt64 &&& 63)) - (1 : Int64))) 8 x164) 9 x165)) 8 (vp_updL (vp_updL (ev_J0 8) 2 0) 3 0)) ev_R0 []) cz kz = G 241 20 [ez_scr, .ref 0, .ref 35, .int 4] [ez_scr, .int 4] (ev_hp (ev_sI (ev_sI (ev_sI (ev_sI (ev_sI (ev_sI (ev_sI (ev_sI ev_I0 1 (upd (upd (upd (upd (upd (upd (ev_I0 1) 3 (xs 1)) 4 (xs 2)) 5 1) 6 ((xs 1) * (xs 2))) 1 0) 2 0)) 3 (upd (ev_I0 3) 3 0)) 6 (upd (ev_I0 6) 4 0)) 8 (upd (ev_I0 8) 1 0)) 13 (upd (upd (ev_I0 13) 8 0) 9 0)) 20 (upd (ev_I0 20) 3 0)) 22 (upd (upd (ev_I0 22) 8 0) 11 (-1))) 33 x166) (ev_sJ (ev_sJ ev_J0 1 (vp_updL (vp_updL (vp_updL (ev_J0 1) 7 (((1 : Int64) <<< (((xs 1) * (xs 2)).toInt64 &&& 63)) - (1 : Int64))) 8 x164) 9 x165)) 8 (vp_updL (vp_updL (ev_J0 8) 2 0) 3 0)) ev_R0 []) cz kz := by
  intro G
  rfl
set_option maxRecDepth 100000 in
set_option maxHeartbeats 100000 in
theorem eo_grid_a_r238 (xs : Nat → Int32) (x164 : Int64) (x165 : Int64) (x166 : Nat → Int32) (q153 : Int32) (cz kz : Nat) : ∀ G : ez_F, fx_up (4, xs) 2 G 241 20 [ez_scr, .ref 0, .ref 35, .int 4] [ez_scr, .int 4] (ev_hp (ev_sI (ev_sI (ev_sI (ev_sI (ev_sI (ev_sI (ev_sI (ev_sI ev_I0 1 (upd (upd (upd (upd (upd (upd (ev_I0 1) 3 (xs 1)) 4 (xs 2)) 5 1) 6 ((xs 1) * (xs 2))) 1 0) 2 0)) 3 (upd (ev_I0 3) 3 0)) 6 (upd (ev_I0 6) 4 0)) 8 (upd (ev_I0 8) 1 0)) 13 (upd (upd (ev_I0 13) 8 0) 9 0)) 20 (upd (ev_I0 20) 3 0)) 22 (upd (upd (ev_I0 22) 8 0) 11 (-1))) 33 x166) (ev_sJ (ev_sJ ev_J0 1 (vp_updL (vp_updL (vp_updL (ev_J0 1) 7 (((1 : Int64) <<< (((xs 1) * (xs 2)).toInt64 &&& 63)) - (1 : Int64))) 8 x164) 9 x165)) 8 (vp_updL (vp_updL (ev_J0 8) 2 0) 3 0)) ev_R0 []) cz kz = G 241 22 [ez_scr, .ref 0, .ref 35, .int 4] [.int 4, .int 4, .int 4] (ev_hp (ev_sI (ev_sI (ev_sI (ev_sI (ev_sI (ev_sI (ev_sI (ev_sI ev_I0 1 (upd (upd (upd (upd (upd (upd (ev_I0 1) 3 (xs 1)) 4 (xs 2)) 5 1) 6 ((xs 1) * (xs 2))) 1 0) 2 0)) 3 (upd (ev_I0 3) 3 0)) 6 (upd (ev_I0 6) 4 0)) 8 (upd (ev_I0 8) 1 0)) 13 (upd (upd (ev_I0 13) 8 0) 9 0)) 20 (upd (ev_I0 20) 3 0)) 22 (upd (upd (ev_I0 22) 8 0) 11 (-1))) 33 x166) (ev_sJ (ev_sJ ev_J0 1 (vp_updL (vp_updL (vp_updL (ev_J0 1) 7 (((1 : Int64) <<< (((xs 1) * (xs 2)).toInt64 &&& 63)) - (1 : Int64))) 8 x164) 9 x165)) 8 (vp_updL (vp_updL (ev_J0 8) 2 0) 3 0)) ev_R0 []) cz kz := by
  intro G
  rfl
set_option maxRecDepth 100000 in
set_option maxHeartbeats 100000 in
theorem eo_grid_a_r239 (xs : Nat → Int32) (x164 : Int64) (x165 : Int64) (x166 : Nat → Int32) (q153 : Int32) (cz kz : Nat) : ∀ G : ez_F, fx_up (4, xs) 2 G 241 22 [ez_scr, .ref 0, .ref 35, .int 4] [.int 4, .int 4, .int 4] (ev_hp (ev_sI (ev_sI (ev_sI (ev_sI (ev_sI (ev_sI (ev_sI (ev_sI ev_I0 1 (upd (upd (upd (upd (upd (upd (ev_I0 1) 3 (xs 1)) 4 (xs 2)) 5 1) 6 ((xs 1) * (xs 2))) 1 0) 2 0)) 3 (upd (ev_I0 3) 3 0)) 6 (upd (ev_I0 6) 4 0)) 8 (upd (ev_I0 8) 1 0)) 13 (upd (upd (ev_I0 13) 8 0) 9 0)) 20 (upd (ev_I0 20) 3 0)) 22 (upd (upd (ev_I0 22) 8 0) 11 (-1))) 33 x166) (ev_sJ (ev_sJ ev_J0 1 (vp_updL (vp_updL (vp_updL (ev_J0 1) 7 (((1 : Int64) <<< (((xs 1) * (xs 2)).toInt64 &&& 63)) - (1 : Int64))) 8 x164) 9 x165)) 8 (vp_updL (vp_updL (ev_J0 8) 2 0) 3 0)) ev_R0 []) cz kz = G 241 1081 [ez_scr, .ref 0, .ref 35, .int 4] [] (ev_hp (ev_sI (ev_sI (ev_sI (ev_sI (ev_sI (ev_sI (ev_sI (ev_sI ev_I0 1 (upd (upd (upd (upd (upd (upd (ev_I0 1) 3 (xs 1)) 4 (xs 2)) 5 1) 6 ((xs 1) * (xs 2))) 1 0) 2 0)) 3 (upd (ev_I0 3) 3 0)) 6 (upd (ev_I0 6) 4 0)) 8 (upd (ev_I0 8) 1 0)) 13 (upd (upd (ev_I0 13) 8 0) 9 0)) 20 (upd (ev_I0 20) 3 0)) 22 (upd (upd (ev_I0 22) 8 0) 11 (-1))) 33 x166) (ev_sJ (ev_sJ ev_J0 1 (vp_updL (vp_updL (vp_updL (ev_J0 1) 7 (((1 : Int64) <<< (((xs 1) * (xs 2)).toInt64 &&& 63)) - (1 : Int64))) 8 x164) 9 x165)) 8 (vp_updL (vp_updL (ev_J0 8) 2 0) 3 0)) ev_R0 []) cz kz := by
  intro G
  rfl
set_option maxRecDepth 100000 in
set_option maxHeartbeats 100000 in
theorem eo_grid_a_r240 (xs : Nat → Int32) (x164 : Int64) (x165 : Int64) (x166 : Nat → Int32) (q153 : Int32) (cz kz : Nat) : ∀ G : ez_F, fx_up (4, xs) 2 G 241 1081 [ez_scr, .ref 0, .ref 35, .int 4] [] (ev_hp (ev_sI (ev_sI (ev_sI (ev_sI (ev_sI (ev_sI (ev_sI (ev_sI ev_I0 1 (upd (upd (upd (upd (upd (upd (ev_I0 1) 3 (xs 1)) 4 (xs 2)) 5 1) 6 ((xs 1) * (xs 2))) 1 0) 2 0)) 3 (upd (ev_I0 3) 3 0)) 6 (upd (ev_I0 6) 4 0)) 8 (upd (ev_I0 8) 1 0)) 13 (upd (upd (ev_I0 13) 8 0) 9 0)) 20 (upd (ev_I0 20) 3 0)) 22 (upd (upd (ev_I0 22) 8 0) 11 (-1))) 33 x166) (ev_sJ (ev_sJ ev_J0 1 (vp_updL (vp_updL (vp_updL (ev_J0 1) 7 (((1 : Int64) <<< (((xs 1) * (xs 2)).toInt64 &&& 63)) - (1 : Int64))) 8 x164) 9 x165)) 8 (vp_updL (vp_updL (ev_J0 8) 2 0) 3 0)) ev_R0 []) cz kz = some (some (.int 1), (ev_hp (ev_sI (ev_sI (ev_sI (ev_sI (ev_sI (ev_sI (ev_sI (ev_sI ev_I0 1 (upd (upd (upd (upd (upd (upd (ev_I0 1) 3 (xs 1)) 4 (xs 2)) 5 1) 6 ((xs 1) * (xs 2))) 1 0) 2 0)) 3 (upd (ev_I0 3) 3 0)) 6 (upd (ev_I0 6) 4 0)) 8 (upd (ev_I0 8) 1 0)) 13 (upd (upd (ev_I0 13) 8 0) 9 0)) 20 (upd (ev_I0 20) 3 0)) 22 (upd (upd (ev_I0 22) 8 0) 11 (-1))) 33 x166) (ev_sJ (ev_sJ ev_J0 1 (vp_updL (vp_updL (vp_updL (ev_J0 1) 7 (((1 : Int64) <<< (((xs 1) * (xs 2)).toInt64 &&& 63)) - (1 : Int64))) 8 x164) 9 x165)) 8 (vp_updL (vp_updL (ev_J0 8) 2 0) 3 0)) ev_R0 []), cz, kz) := by
  intro G
  rfl
set_option maxRecDepth 100000 in
set_option maxHeartbeats 100000 in
theorem eo_grid_a_r241 (xs : Nat → Int32) (x164 : Int64) (x165 : Int64) (x166 : Nat → Int32) (q153 : Int32) (q157 : Int32) (cz kz : Nat) : ∀ G : ez_F, fx_up (4, xs) 1 G 241 238 [ez_scr, .ref 0, .ref 35, .int 0] [.int q157, .int q153] (ev_hp (ev_sI (ev_sI (ev_sI (ev_sI (ev_sI (ev_sI (ev_sI (ev_sI (ev_sI (ev_sI ev_I0 1 (upd (upd (upd (upd (upd (upd (ev_I0 1) 3 (xs 1)) 4 (xs 2)) 5 1) 6 ((xs 1) * (xs 2))) 1 0) 2 0)) 3 (upd (ev_I0 3) 3 0)) 6 (upd (ev_I0 6) 4 0)) 8 (upd (ev_I0 8) 1 0)) 13 (upd (upd (ev_I0 13) 8 0) 9 0)) 20 (upd (ev_I0 20) 3 0)) 22 (upd (upd (ev_I0 22) 8 0) 11 (-1))) 33 x166) 35 (upd (upd (upd (upd (upd (upd (upd (ev_I0 35) 0 (xs 1)) 1 (xs 2)) 2 1) 3 0) 16 0) 9 0) 10 0)) 61 (upd (upd (upd (upd (upd (upd (upd (upd (upd (upd (upd (upd (ev_I0 61) 0 (-1)) 1 (-1)) 2 (-1)) 3 (-1)) 4 (-1)) 5 (-1)) 6 (-1)) 7 (-1)) 8 (-1)) 9 (-1)) 10 (-1)) 11 (-1))) (ev_sJ (ev_sJ ev_J0 1 (vp_updL (vp_updL (vp_updL (ev_J0 1) 7 (((1 : Int64) <<< (((xs 1) * (xs 2)).toInt64 &&& 63)) - (1 : Int64))) 8 x164) 9 x165)) 8 (vp_updL (vp_updL (ev_J0 8) 2 0) 3 0)) ev_R0 []) cz kz = bif decide (q153 = q157) then G 241 1075 [ez_scr, .ref 0, .ref 35, .int 0] [] (ev_hp (ev_sI (ev_sI (ev_sI (ev_sI (ev_sI (ev_sI (ev_sI (ev_sI (ev_sI (ev_sI ev_I0 1 (upd (upd (upd (upd (upd (upd (ev_I0 1) 3 (xs 1)) 4 (xs 2)) 5 1) 6 ((xs 1) * (xs 2))) 1 0) 2 0)) 3 (upd (ev_I0 3) 3 0)) 6 (upd (ev_I0 6) 4 0)) 8 (upd (ev_I0 8) 1 0)) 13 (upd (upd (ev_I0 13) 8 0) 9 0)) 20 (upd (ev_I0 20) 3 0)) 22 (upd (upd (ev_I0 22) 8 0) 11 (-1))) 33 x166) 35 (upd (upd (upd (upd (upd (upd (upd (ev_I0 35) 0 (xs 1)) 1 (xs 2)) 2 1) 3 0) 16 0) 9 0) 10 0)) 61 (upd (upd (upd (upd (upd (upd (upd (upd (upd (upd (upd (upd (ev_I0 61) 0 (-1)) 1 (-1)) 2 (-1)) 3 (-1)) 4 (-1)) 5 (-1)) 6 (-1)) 7 (-1)) 8 (-1)) 9 (-1)) 10 (-1)) 11 (-1))) (ev_sJ (ev_sJ ev_J0 1 (vp_updL (vp_updL (vp_updL (ev_J0 1) 7 (((1 : Int64) <<< (((xs 1) * (xs 2)).toInt64 &&& 63)) - (1 : Int64))) 8 x164) 9 x165)) 8 (vp_updL (vp_updL (ev_J0 8) 2 0) 3 0)) ev_R0 []) cz kz else G 241 241 [ez_scr, .ref 0, .ref 35, .int 0] [] (ev_hp (ev_sI (ev_sI (ev_sI (ev_sI (ev_sI (ev_sI (ev_sI (ev_sI (ev_sI (ev_sI ev_I0 1 (upd (upd (upd (upd (upd (upd (ev_I0 1) 3 (xs 1)) 4 (xs 2)) 5 1) 6 ((xs 1) * (xs 2))) 1 0) 2 0)) 3 (upd (ev_I0 3) 3 0)) 6 (upd (ev_I0 6) 4 0)) 8 (upd (ev_I0 8) 1 0)) 13 (upd (upd (ev_I0 13) 8 0) 9 0)) 20 (upd (ev_I0 20) 3 0)) 22 (upd (upd (ev_I0 22) 8 0) 11 (-1))) 33 x166) 35 (upd (upd (upd (upd (upd (upd (upd (ev_I0 35) 0 (xs 1)) 1 (xs 2)) 2 1) 3 0) 16 0) 9 0) 10 0)) 61 (upd (upd (upd (upd (upd (upd (upd (upd (upd (upd (upd (upd (ev_I0 61) 0 (-1)) 1 (-1)) 2 (-1)) 3 (-1)) 4 (-1)) 5 (-1)) 6 (-1)) 7 (-1)) 8 (-1)) 9 (-1)) 10 (-1)) 11 (-1))) (ev_sJ (ev_sJ ev_J0 1 (vp_updL (vp_updL (vp_updL (ev_J0 1) 7 (((1 : Int64) <<< (((xs 1) * (xs 2)).toInt64 &&& 63)) - (1 : Int64))) 8 x164) 9 x165)) 8 (vp_updL (vp_updL (ev_J0 8) 2 0) 3 0)) ev_R0 []) cz kz := by
  intro G
  rfl
set_option maxRecDepth 100000 in
set_option maxHeartbeats 100000 in
theorem eo_grid_a_r242 (xs : Nat → Int32) (x164 : Int64) (x165 : Int64) (x166 : Nat → Int32) (q153 : Int32) (q157 : Int32) (cz kz : Nat) : ∀ G : ez_F, fx_up (4, xs) 2 G 241 1075 [ez_scr, .ref 0, .ref 35, .int 0] [] (ev_hp (ev_sI (ev_sI (ev_sI (ev_sI (ev_sI (ev_sI (ev_sI (ev_sI (ev_sI (ev_sI ev_I0 1 (upd (upd (upd (upd (upd (upd (ev_I0 1) 3 (xs 1)) 4 (xs 2)) 5 1) 6 ((xs 1) * (xs 2))) 1 0) 2 0)) 3 (upd (ev_I0 3) 3 0)) 6 (upd (ev_I0 6) 4 0)) 8 (upd (ev_I0 8) 1 0)) 13 (upd (upd (ev_I0 13) 8 0) 9 0)) 20 (upd (ev_I0 20) 3 0)) 22 (upd (upd (ev_I0 22) 8 0) 11 (-1))) 33 x166) 35 (upd (upd (upd (upd (upd (upd (upd (ev_I0 35) 0 (xs 1)) 1 (xs 2)) 2 1) 3 0) 16 0) 9 0) 10 0)) 61 (upd (upd (upd (upd (upd (upd (upd (upd (upd (upd (upd (upd (ev_I0 61) 0 (-1)) 1 (-1)) 2 (-1)) 3 (-1)) 4 (-1)) 5 (-1)) 6 (-1)) 7 (-1)) 8 (-1)) 9 (-1)) 10 (-1)) 11 (-1))) (ev_sJ (ev_sJ ev_J0 1 (vp_updL (vp_updL (vp_updL (ev_J0 1) 7 (((1 : Int64) <<< (((xs 1) * (xs 2)).toInt64 &&& 63)) - (1 : Int64))) 8 x164) 9 x165)) 8 (vp_updL (vp_updL (ev_J0 8) 2 0) 3 0)) ev_R0 []) cz kz = G 241 18 [ez_scr, .ref 0, .ref 35, .int 4] [] (ev_hp (ev_sI (ev_sI (ev_sI (ev_sI (ev_sI (ev_sI (ev_sI (ev_sI (ev_sI (ev_sI ev_I0 1 (upd (upd (upd (upd (upd (upd (ev_I0 1) 3 (xs 1)) 4 (xs 2)) 5 1) 6 ((xs 1) * (xs 2))) 1 0) 2 0)) 3 (upd (ev_I0 3) 3 0)) 6 (upd (ev_I0 6) 4 0)) 8 (upd (ev_I0 8) 1 0)) 13 (upd (upd (ev_I0 13) 8 0) 9 0)) 20 (upd (ev_I0 20) 3 0)) 22 (upd (upd (ev_I0 22) 8 0) 11 (-1))) 33 x166) 35 (upd (upd (upd (upd (upd (upd (upd (ev_I0 35) 0 (xs 1)) 1 (xs 2)) 2 1) 3 0) 16 0) 9 0) 10 0)) 61 (upd (upd (upd (upd (upd (upd (upd (upd (upd (upd (upd (upd (ev_I0 61) 0 (-1)) 1 (-1)) 2 (-1)) 3 (-1)) 4 (-1)) 5 (-1)) 6 (-1)) 7 (-1)) 8 (-1)) 9 (-1)) 10 (-1)) 11 (-1))) (ev_sJ (ev_sJ ev_J0 1 (vp_updL (vp_updL (vp_updL (ev_J0 1) 7 (((1 : Int64) <<< (((xs 1) * (xs 2)).toInt64 &&& 63)) - (1 : Int64))) 8 x164) 9 x165)) 8 (vp_updL (vp_updL (ev_J0 8) 2 0) 3 0)) ev_R0 []) cz kz := by
  intro G
  rfl
set_option maxRecDepth 100000 in
set_option maxHeartbeats 100000 in
theorem eo_grid_a_r243 (xs : Nat → Int32) (x164 : Int64) (x165 : Int64) (x166 : Nat → Int32) (q153 : Int32) (q157 : Int32) (cz kz : Nat) : ∀ G : ez_F, fx_up (4, xs) 2 G 241 18 [ez_scr, .ref 0, .ref 35, .int 4] [] (ev_hp (ev_sI (ev_sI (ev_sI (ev_sI (ev_sI (ev_sI (ev_sI (ev_sI (ev_sI (ev_sI ev_I0 1 (upd (upd (upd (upd (upd (upd (ev_I0 1) 3 (xs 1)) 4 (xs 2)) 5 1) 6 ((xs 1) * (xs 2))) 1 0) 2 0)) 3 (upd (ev_I0 3) 3 0)) 6 (upd (ev_I0 6) 4 0)) 8 (upd (ev_I0 8) 1 0)) 13 (upd (upd (ev_I0 13) 8 0) 9 0)) 20 (upd (ev_I0 20) 3 0)) 22 (upd (upd (ev_I0 22) 8 0) 11 (-1))) 33 x166) 35 (upd (upd (upd (upd (upd (upd (upd (ev_I0 35) 0 (xs 1)) 1 (xs 2)) 2 1) 3 0) 16 0) 9 0) 10 0)) 61 (upd (upd (upd (upd (upd (upd (upd (upd (upd (upd (upd (upd (ev_I0 61) 0 (-1)) 1 (-1)) 2 (-1)) 3 (-1)) 4 (-1)) 5 (-1)) 6 (-1)) 7 (-1)) 8 (-1)) 9 (-1)) 10 (-1)) 11 (-1))) (ev_sJ (ev_sJ ev_J0 1 (vp_updL (vp_updL (vp_updL (ev_J0 1) 7 (((1 : Int64) <<< (((xs 1) * (xs 2)).toInt64 &&& 63)) - (1 : Int64))) 8 x164) 9 x165)) 8 (vp_updL (vp_updL (ev_J0 8) 2 0) 3 0)) ev_R0 []) cz kz = G 241 20 [ez_scr, .ref 0, .ref 35, .int 4] [ez_scr, .int 4] (ev_hp (ev_sI (ev_sI (ev_sI (ev_sI (ev_sI (ev_sI (ev_sI (ev_sI (ev_sI (ev_sI ev_I0 1 (upd (upd (upd (upd (upd (upd (ev_I0 1) 3 (xs 1)) 4 (xs 2)) 5 1) 6 ((xs 1) * (xs 2))) 1 0) 2 0)) 3 (upd (ev_I0 3) 3 0)) 6 (upd (ev_I0 6) 4 0)) 8 (upd (ev_I0 8) 1 0)) 13 (upd (upd (ev_I0 13) 8 0) 9 0)) 20 (upd (ev_I0 20) 3 0)) 22 (upd (upd (ev_I0 22) 8 0) 11 (-1))) 33 x166) 35 (upd (upd (upd (upd (upd (upd (upd (ev_I0 35) 0 (xs 1)) 1 (xs 2)) 2 1) 3 0) 16 0) 9 0) 10 0)) 61 (upd (upd (upd (upd (upd (upd (upd (upd (upd (upd (upd (upd (ev_I0 61) 0 (-1)) 1 (-1)) 2 (-1)) 3 (-1)) 4 (-1)) 5 (-1)) 6 (-1)) 7 (-1)) 8 (-1)) 9 (-1)) 10 (-1)) 11 (-1))) (ev_sJ (ev_sJ ev_J0 1 (vp_updL (vp_updL (vp_updL (ev_J0 1) 7 (((1 : Int64) <<< (((xs 1) * (xs 2)).toInt64 &&& 63)) - (1 : Int64))) 8 x164) 9 x165)) 8 (vp_updL (vp_updL (ev_J0 8) 2 0) 3 0)) ev_R0 []) cz kz := by
  intro G
  rfl
set_option maxRecDepth 100000 in
set_option maxHeartbeats 100000 in
theorem eo_grid_a_r244 (xs : Nat → Int32) (x164 : Int64) (x165 : Int64) (x166 : Nat → Int32) (q153 : Int32) (q157 : Int32) (cz kz : Nat) : ∀ G : ez_F, fx_up (4, xs) 2 G 241 20 [ez_scr, .ref 0, .ref 35, .int 4] [ez_scr, .int 4] (ev_hp (ev_sI (ev_sI (ev_sI (ev_sI (ev_sI (ev_sI (ev_sI (ev_sI (ev_sI (ev_sI ev_I0 1 (upd (upd (upd (upd (upd (upd (ev_I0 1) 3 (xs 1)) 4 (xs 2)) 5 1) 6 ((xs 1) * (xs 2))) 1 0) 2 0)) 3 (upd (ev_I0 3) 3 0)) 6 (upd (ev_I0 6) 4 0)) 8 (upd (ev_I0 8) 1 0)) 13 (upd (upd (ev_I0 13) 8 0) 9 0)) 20 (upd (ev_I0 20) 3 0)) 22 (upd (upd (ev_I0 22) 8 0) 11 (-1))) 33 x166) 35 (upd (upd (upd (upd (upd (upd (upd (ev_I0 35) 0 (xs 1)) 1 (xs 2)) 2 1) 3 0) 16 0) 9 0) 10 0)) 61 (upd (upd (upd (upd (upd (upd (upd (upd (upd (upd (upd (upd (ev_I0 61) 0 (-1)) 1 (-1)) 2 (-1)) 3 (-1)) 4 (-1)) 5 (-1)) 6 (-1)) 7 (-1)) 8 (-1)) 9 (-1)) 10 (-1)) 11 (-1))) (ev_sJ (ev_sJ ev_J0 1 (vp_updL (vp_updL (vp_updL (ev_J0 1) 7 (((1 : Int64) <<< (((xs 1) * (xs 2)).toInt64 &&& 63)) - (1 : Int64))) 8 x164) 9 x165)) 8 (vp_updL (vp_updL (ev_J0 8) 2 0) 3 0)) ev_R0 []) cz kz = G 241 22 [ez_scr, .ref 0, .ref 35, .int 4] [.int 4, .int 4, .int 4] (ev_hp (ev_sI (ev_sI (ev_sI (ev_sI (ev_sI (ev_sI (ev_sI (ev_sI (ev_sI (ev_sI ev_I0 1 (upd (upd (upd (upd (upd (upd (ev_I0 1) 3 (xs 1)) 4 (xs 2)) 5 1) 6 ((xs 1) * (xs 2))) 1 0) 2 0)) 3 (upd (ev_I0 3) 3 0)) 6 (upd (ev_I0 6) 4 0)) 8 (upd (ev_I0 8) 1 0)) 13 (upd (upd (ev_I0 13) 8 0) 9 0)) 20 (upd (ev_I0 20) 3 0)) 22 (upd (upd (ev_I0 22) 8 0) 11 (-1))) 33 x166) 35 (upd (upd (upd (upd (upd (upd (upd (ev_I0 35) 0 (xs 1)) 1 (xs 2)) 2 1) 3 0) 16 0) 9 0) 10 0)) 61 (upd (upd (upd (upd (upd (upd (upd (upd (upd (upd (upd (upd (ev_I0 61) 0 (-1)) 1 (-1)) 2 (-1)) 3 (-1)) 4 (-1)) 5 (-1)) 6 (-1)) 7 (-1)) 8 (-1)) 9 (-1)) 10 (-1)) 11 (-1))) (ev_sJ (ev_sJ ev_J0 1 (vp_updL (vp_updL (vp_updL (ev_J0 1) 7 (((1 : Int64) <<< (((xs 1) * (xs 2)).toInt64 &&& 63)) - (1 : Int64))) 8 x164) 9 x165)) 8 (vp_updL (vp_updL (ev_J0 8) 2 0) 3 0)) ev_R0 []) cz kz := by
  intro G
  rfl
set_option maxRecDepth 100000 in
set_option maxHeartbeats 100000 in
theorem eo_grid_a_r245 (xs : Nat → Int32) (x164 : Int64) (x165 : Int64) (x166 : Nat → Int32) (q153 : Int32) (q157 : Int32) (cz kz : Nat) : ∀ G : ez_F, fx_up (4, xs) 2 G 241 22 [ez_scr, .ref 0, .ref 35, .int 4] [.int 4, .int 4, .int 4] (ev_hp (ev_sI (ev_sI (ev_sI (ev_sI (ev_sI (ev_sI (ev_sI (ev_sI (ev_sI (ev_sI ev_I0 1 (upd (upd (upd (upd (upd (upd (ev_I0 1) 3 (xs 1)) 4 (xs 2)) 5 1) 6 ((xs 1) * (xs 2))) 1 0) 2 0)) 3 (upd (ev_I0 3) 3 0)) 6 (upd (ev_I0 6) 4 0)) 8 (upd (ev_I0 8) 1 0)) 13 (upd (upd (ev_I0 13) 8 0) 9 0)) 20 (upd (ev_I0 20) 3 0)) 22 (upd (upd (ev_I0 22) 8 0) 11 (-1))) 33 x166) 35 (upd (upd (upd (upd (upd (upd (upd (ev_I0 35) 0 (xs 1)) 1 (xs 2)) 2 1) 3 0) 16 0) 9 0) 10 0)) 61 (upd (upd (upd (upd (upd (upd (upd (upd (upd (upd (upd (upd (ev_I0 61) 0 (-1)) 1 (-1)) 2 (-1)) 3 (-1)) 4 (-1)) 5 (-1)) 6 (-1)) 7 (-1)) 8 (-1)) 9 (-1)) 10 (-1)) 11 (-1))) (ev_sJ (ev_sJ ev_J0 1 (vp_updL (vp_updL (vp_updL (ev_J0 1) 7 (((1 : Int64) <<< (((xs 1) * (xs 2)).toInt64 &&& 63)) - (1 : Int64))) 8 x164) 9 x165)) 8 (vp_updL (vp_updL (ev_J0 8) 2 0) 3 0)) ev_R0 []) cz kz = G 241 1081 [ez_scr, .ref 0, .ref 35, .int 4] [] (ev_hp (ev_sI (ev_sI (ev_sI (ev_sI (ev_sI (ev_sI (ev_sI (ev_sI (ev_sI (ev_sI ev_I0 1 (upd (upd (upd (upd (upd (upd (ev_I0 1) 3 (xs 1)) 4 (xs 2)) 5 1) 6 ((xs 1) * (xs 2))) 1 0) 2 0)) 3 (upd (ev_I0 3) 3 0)) 6 (upd (ev_I0 6) 4 0)) 8 (upd (ev_I0 8) 1 0)) 13 (upd (upd (ev_I0 13) 8 0) 9 0)) 20 (upd (ev_I0 20) 3 0)) 22 (upd (upd (ev_I0 22) 8 0) 11 (-1))) 33 x166) 35 (upd (upd (upd (upd (upd (upd (upd (ev_I0 35) 0 (xs 1)) 1 (xs 2)) 2 1) 3 0) 16 0) 9 0) 10 0)) 61 (upd (upd (upd (upd (upd (upd (upd (upd (upd (upd (upd (upd (ev_I0 61) 0 (-1)) 1 (-1)) 2 (-1)) 3 (-1)) 4 (-1)) 5 (-1)) 6 (-1)) 7 (-1)) 8 (-1)) 9 (-1)) 10 (-1)) 11 (-1))) (ev_sJ (ev_sJ ev_J0 1 (vp_updL (vp_updL (vp_updL (ev_J0 1) 7 (((1 : Int64) <<< (((xs 1) * (xs 2)).toInt64 &&& 63)) - (1 : Int64))) 8 x164) 9 x165)) 8 (vp_updL (vp_updL (ev_J0 8) 2 0) 3 0)) ev_R0 []) cz kz := by
  intro G
  rfl
set_option maxRecDepth 100000 in
set_option maxHeartbeats 100000 in
theorem eo_grid_a_r246 (xs : Nat → Int32) (x164 : Int64) (x165 : Int64) (x166 : Nat → Int32) (q153 : Int32) (q157 : Int32) (cz kz : Nat) : ∀ G : ez_F, fx_up (4, xs) 2 G 241 1081 [ez_scr, .ref 0, .ref 35, .int 4] [] (ev_hp (ev_sI (ev_sI (ev_sI (ev_sI (ev_sI (ev_sI (ev_sI (ev_sI (ev_sI (ev_sI ev_I0 1 (upd (upd (upd (upd (upd (upd (ev_I0 1) 3 (xs 1)) 4 (xs 2)) 5 1) 6 ((xs 1) * (xs 2))) 1 0) 2 0)) 3 (upd (ev_I0 3) 3 0)) 6 (upd (ev_I0 6) 4 0)) 8 (upd (ev_I0 8) 1 0)) 13 (upd (upd (ev_I0 13) 8 0) 9 0)) 20 (upd (ev_I0 20) 3 0)) 22 (upd (upd (ev_I0 22) 8 0) 11 (-1))) 33 x166) 35 (upd (upd (upd (upd (upd (upd (upd (ev_I0 35) 0 (xs 1)) 1 (xs 2)) 2 1) 3 0) 16 0) 9 0) 10 0)) 61 (upd (upd (upd (upd (upd (upd (upd (upd (upd (upd (upd (upd (ev_I0 61) 0 (-1)) 1 (-1)) 2 (-1)) 3 (-1)) 4 (-1)) 5 (-1)) 6 (-1)) 7 (-1)) 8 (-1)) 9 (-1)) 10 (-1)) 11 (-1))) (ev_sJ (ev_sJ ev_J0 1 (vp_updL (vp_updL (vp_updL (ev_J0 1) 7 (((1 : Int64) <<< (((xs 1) * (xs 2)).toInt64 &&& 63)) - (1 : Int64))) 8 x164) 9 x165)) 8 (vp_updL (vp_updL (ev_J0 8) 2 0) 3 0)) ev_R0 []) cz kz = some (some (.int 1), (ev_hp (ev_sI (ev_sI (ev_sI (ev_sI (ev_sI (ev_sI (ev_sI (ev_sI (ev_sI (ev_sI ev_I0 1 (upd (upd (upd (upd (upd (upd (ev_I0 1) 3 (xs 1)) 4 (xs 2)) 5 1) 6 ((xs 1) * (xs 2))) 1 0) 2 0)) 3 (upd (ev_I0 3) 3 0)) 6 (upd (ev_I0 6) 4 0)) 8 (upd (ev_I0 8) 1 0)) 13 (upd (upd (ev_I0 13) 8 0) 9 0)) 20 (upd (ev_I0 20) 3 0)) 22 (upd (upd (ev_I0 22) 8 0) 11 (-1))) 33 x166) 35 (upd (upd (upd (upd (upd (upd (upd (ev_I0 35) 0 (xs 1)) 1 (xs 2)) 2 1) 3 0) 16 0) 9 0) 10 0)) 61 (upd (upd (upd (upd (upd (upd (upd (upd (upd (upd (upd (upd (ev_I0 61) 0 (-1)) 1 (-1)) 2 (-1)) 3 (-1)) 4 (-1)) 5 (-1)) 6 (-1)) 7 (-1)) 8 (-1)) 9 (-1)) 10 (-1)) 11 (-1))) (ev_sJ (ev_sJ ev_J0 1 (vp_updL (vp_updL (vp_updL (ev_J0 1) 7 (((1 : Int64) <<< (((xs 1) * (xs 2)).toInt64 &&& 63)) - (1 : Int64))) 8 x164) 9 x165)) 8 (vp_updL (vp_updL (ev_J0 8) 2 0) 3 0)) ev_R0 []), cz, kz) := by
  intro G
  rfl
set_option maxRecDepth 100000 in
set_option maxHeartbeats 100000 in
theorem eo_grid_a_r247 (xs : Nat → Int32) (x164 : Int64) (x165 : Int64) (x166 : Nat → Int32) (q153 : Int32) (cz kz : Nat) : ∀ G : ez_F, fx_up (4, xs) 1 G 241 238 [ez_scr, .ref 0, .ref 35, .int 0] [.int (-3), .int q153] (ev_hp (ev_sI (ev_sI (ev_sI (ev_sI (ev_sI (ev_sI (ev_sI (ev_sI ev_I0 1 (upd (upd (upd (upd (upd (upd (ev_I0 1) 3 (xs 1)) 4 (xs 2)) 5 1) 6 ((xs 1) * (xs 2))) 1 0) 2 0)) 3 (upd (ev_I0 3) 3 0)) 6 (upd (ev_I0 6) 4 0)) 8 (upd (ev_I0 8) 1 0)) 13 (upd (upd (ev_I0 13) 8 0) 9 0)) 20 (upd (ev_I0 20) 3 0)) 22 (upd (upd (ev_I0 22) 8 0) 11 (-1))) 33 x166) (ev_sJ (ev_sJ ev_J0 1 (vp_updL (vp_updL (vp_updL (ev_J0 1) 7 (((1 : Int64) <<< (((xs 1) * (xs 2)).toInt64 &&& 63)) - (1 : Int64))) 8 x164) 9 x165)) 8 (vp_updL (vp_updL (ev_J0 8) 2 0) 3 0)) ev_R0 []) cz kz = bif decide (q153 = (-3)) then G 241 1075 [ez_scr, .ref 0, .ref 35, .int 0] [] (ev_hp (ev_sI (ev_sI (ev_sI (ev_sI (ev_sI (ev_sI (ev_sI (ev_sI ev_I0 1 (upd (upd (upd (upd (upd (upd (ev_I0 1) 3 (xs 1)) 4 (xs 2)) 5 1) 6 ((xs 1) * (xs 2))) 1 0) 2 0)) 3 (upd (ev_I0 3) 3 0)) 6 (upd (ev_I0 6) 4 0)) 8 (upd (ev_I0 8) 1 0)) 13 (upd (upd (ev_I0 13) 8 0) 9 0)) 20 (upd (ev_I0 20) 3 0)) 22 (upd (upd (ev_I0 22) 8 0) 11 (-1))) 33 x166) (ev_sJ (ev_sJ ev_J0 1 (vp_updL (vp_updL (vp_updL (ev_J0 1) 7 (((1 : Int64) <<< (((xs 1) * (xs 2)).toInt64 &&& 63)) - (1 : Int64))) 8 x164) 9 x165)) 8 (vp_updL (vp_updL (ev_J0 8) 2 0) 3 0)) ev_R0 []) cz kz else G 241 241 [ez_scr, .ref 0, .ref 35, .int 0] [] (ev_hp (ev_sI (ev_sI (ev_sI (ev_sI (ev_sI (ev_sI (ev_sI (ev_sI ev_I0 1 (upd (upd (upd (upd (upd (upd (ev_I0 1) 3 (xs 1)) 4 (xs 2)) 5 1) 6 ((xs 1) * (xs 2))) 1 0) 2 0)) 3 (upd (ev_I0 3) 3 0)) 6 (upd (ev_I0 6) 4 0)) 8 (upd (ev_I0 8) 1 0)) 13 (upd (upd (ev_I0 13) 8 0) 9 0)) 20 (upd (ev_I0 20) 3 0)) 22 (upd (upd (ev_I0 22) 8 0) 11 (-1))) 33 x166) (ev_sJ (ev_sJ ev_J0 1 (vp_updL (vp_updL (vp_updL (ev_J0 1) 7 (((1 : Int64) <<< (((xs 1) * (xs 2)).toInt64 &&& 63)) - (1 : Int64))) 8 x164) 9 x165)) 8 (vp_updL (vp_updL (ev_J0 8) 2 0) 3 0)) ev_R0 []) cz kz := by
  intro G
  rfl
set_option maxRecDepth 100000 in
set_option maxHeartbeats 100000 in
theorem eo_grid_a_r248 (xs : Nat → Int32) (x164 : Int64) (x165 : Int64) (x166 : Nat → Int32) (q153 : Int32) (cz kz : Nat) : ∀ G : ez_F, fx_up (4, xs) 2 G 241 1075 [ez_scr, .ref 0, .ref 35, .int 0] [] (ev_hp (ev_sI (ev_sI (ev_sI (ev_sI (ev_sI (ev_sI (ev_sI (ev_sI ev_I0 1 (upd (upd (upd (upd (upd (upd (ev_I0 1) 3 (xs 1)) 4 (xs 2)) 5 1) 6 ((xs 1) * (xs 2))) 1 0) 2 0)) 3 (upd (ev_I0 3) 3 0)) 6 (upd (ev_I0 6) 4 0)) 8 (upd (ev_I0 8) 1 0)) 13 (upd (upd (ev_I0 13) 8 0) 9 0)) 20 (upd (ev_I0 20) 3 0)) 22 (upd (upd (ev_I0 22) 8 0) 11 (-1))) 33 x166) (ev_sJ (ev_sJ ev_J0 1 (vp_updL (vp_updL (vp_updL (ev_J0 1) 7 (((1 : Int64) <<< (((xs 1) * (xs 2)).toInt64 &&& 63)) - (1 : Int64))) 8 x164) 9 x165)) 8 (vp_updL (vp_updL (ev_J0 8) 2 0) 3 0)) ev_R0 []) cz kz = G 241 18 [ez_scr, .ref 0, .ref 35, .int 4] [] (ev_hp (ev_sI (ev_sI (ev_sI (ev_sI (ev_sI (ev_sI (ev_sI (ev_sI ev_I0 1 (upd (upd (upd (upd (upd (upd (ev_I0 1) 3 (xs 1)) 4 (xs 2)) 5 1) 6 ((xs 1) * (xs 2))) 1 0) 2 0)) 3 (upd (ev_I0 3) 3 0)) 6 (upd (ev_I0 6) 4 0)) 8 (upd (ev_I0 8) 1 0)) 13 (upd (upd (ev_I0 13) 8 0) 9 0)) 20 (upd (ev_I0 20) 3 0)) 22 (upd (upd (ev_I0 22) 8 0) 11 (-1))) 33 x166) (ev_sJ (ev_sJ ev_J0 1 (vp_updL (vp_updL (vp_updL (ev_J0 1) 7 (((1 : Int64) <<< (((xs 1) * (xs 2)).toInt64 &&& 63)) - (1 : Int64))) 8 x164) 9 x165)) 8 (vp_updL (vp_updL (ev_J0 8) 2 0) 3 0)) ev_R0 []) cz kz := by
  intro G
  rfl
set_option maxRecDepth 100000 in
set_option maxHeartbeats 100000 in
theorem eo_grid_a_r249 (xs : Nat → Int32) (x164 : Int64) (x165 : Int64) (x166 : Nat → Int32) (q153 : Int32) (cz kz : Nat) : ∀ G : ez_F, fx_up (4, xs) 2 G 241 18 [ez_scr, .ref 0, .ref 35, .int 4] [] (ev_hp (ev_sI (ev_sI (ev_sI (ev_sI (ev_sI (ev_sI (ev_sI (ev_sI ev_I0 1 (upd (upd (upd (upd (upd (upd (ev_I0 1) 3 (xs 1)) 4 (xs 2)) 5 1) 6 ((xs 1) * (xs 2))) 1 0) 2 0)) 3 (upd (ev_I0 3) 3 0)) 6 (upd (ev_I0 6) 4 0)) 8 (upd (ev_I0 8) 1 0)) 13 (upd (upd (ev_I0 13) 8 0) 9 0)) 20 (upd (ev_I0 20) 3 0)) 22 (upd (upd (ev_I0 22) 8 0) 11 (-1))) 33 x166) (ev_sJ (ev_sJ ev_J0 1 (vp_updL (vp_updL (vp_updL (ev_J0 1) 7 (((1 : Int64) <<< (((xs 1) * (xs 2)).toInt64 &&& 63)) - (1 : Int64))) 8 x164) 9 x165)) 8 (vp_updL (vp_updL (ev_J0 8) 2 0) 3 0)) ev_R0 []) cz kz = G 241 20 [ez_scr, .ref 0, .ref 35, .int 4] [ez_scr, .int 4] (ev_hp (ev_sI (ev_sI (ev_sI (ev_sI (ev_sI (ev_sI (ev_sI (ev_sI ev_I0 1 (upd (upd (upd (upd (upd (upd (ev_I0 1) 3 (xs 1)) 4 (xs 2)) 5 1) 6 ((xs 1) * (xs 2))) 1 0) 2 0)) 3 (upd (ev_I0 3) 3 0)) 6 (upd (ev_I0 6) 4 0)) 8 (upd (ev_I0 8) 1 0)) 13 (upd (upd (ev_I0 13) 8 0) 9 0)) 20 (upd (ev_I0 20) 3 0)) 22 (upd (upd (ev_I0 22) 8 0) 11 (-1))) 33 x166) (ev_sJ (ev_sJ ev_J0 1 (vp_updL (vp_updL (vp_updL (ev_J0 1) 7 (((1 : Int64) <<< (((xs 1) * (xs 2)).toInt64 &&& 63)) - (1 : Int64))) 8 x164) 9 x165)) 8 (vp_updL (vp_updL (ev_J0 8) 2 0) 3 0)) ev_R0 []) cz kz := by
  intro G
  rfl
set_option maxRecDepth 100000 in
set_option maxHeartbeats 100000 in
theorem eo_grid_a_r250 (xs : Nat → Int32) (x164 : Int64) (x165 : Int64) (x166 : Nat → Int32) (q153 : Int32) (cz kz : Nat) : ∀ G : ez_F, fx_up (4, xs) 2 G 241 20 [ez_scr, .ref 0, .ref 35, .int 4] [ez_scr, .int 4] (ev_hp (ev_sI (ev_sI (ev_sI (ev_sI (ev_sI (ev_sI (ev_sI (ev_sI ev_I0 1 (upd (upd (upd (upd (upd (upd (ev_I0 1) 3 (xs 1)) 4 (xs 2)) 5 1) 6 ((xs 1) * (xs 2))) 1 0) 2 0)) 3 (upd (ev_I0 3) 3 0)) 6 (upd (ev_I0 6) 4 0)) 8 (upd (ev_I0 8) 1 0)) 13 (upd (upd (ev_I0 13) 8 0) 9 0)) 20 (upd (ev_I0 20) 3 0)) 22 (upd (upd (ev_I0 22) 8 0) 11 (-1))) 33 x166) (ev_sJ (ev_sJ ev_J0 1 (vp_updL (vp_updL (vp_updL (ev_J0 1) 7 (((1 : Int64) <<< (((xs 1) * (xs 2)).toInt64 &&& 63)) - (1 : Int64))) 8 x164) 9 x165)) 8 (vp_updL (vp_updL (ev_J0 8) 2 0) 3 0)) ev_R0 []) cz kz = G 241 22 [ez_scr, .ref 0, .ref 35, .int 4] [.int 4, .int 4, .int 4] (ev_hp (ev_sI (ev_sI (ev_sI (ev_sI (ev_sI (ev_sI (ev_sI (ev_sI ev_I0 1 (upd (upd (upd (upd (upd (upd (ev_I0 1) 3 (xs 1)) 4 (xs 2)) 5 1) 6 ((xs 1) * (xs 2))) 1 0) 2 0)) 3 (upd (ev_I0 3) 3 0)) 6 (upd (ev_I0 6) 4 0)) 8 (upd (ev_I0 8) 1 0)) 13 (upd (upd (ev_I0 13) 8 0) 9 0)) 20 (upd (ev_I0 20) 3 0)) 22 (upd (upd (ev_I0 22) 8 0) 11 (-1))) 33 x166) (ev_sJ (ev_sJ ev_J0 1 (vp_updL (vp_updL (vp_updL (ev_J0 1) 7 (((1 : Int64) <<< (((xs 1) * (xs 2)).toInt64 &&& 63)) - (1 : Int64))) 8 x164) 9 x165)) 8 (vp_updL (vp_updL (ev_J0 8) 2 0) 3 0)) ev_R0 []) cz kz := by
  intro G
  rfl
set_option maxRecDepth 100000 in
set_option maxHeartbeats 100000 in
theorem eo_grid_a_r251 (xs : Nat → Int32) (x164 : Int64) (x165 : Int64) (x166 : Nat → Int32) (q153 : Int32) (cz kz : Nat) : ∀ G : ez_F, fx_up (4, xs) 2 G 241 22 [ez_scr, .ref 0, .ref 35, .int 4] [.int 4, .int 4, .int 4] (ev_hp (ev_sI (ev_sI (ev_sI (ev_sI (ev_sI (ev_sI (ev_sI (ev_sI ev_I0 1 (upd (upd (upd (upd (upd (upd (ev_I0 1) 3 (xs 1)) 4 (xs 2)) 5 1) 6 ((xs 1) * (xs 2))) 1 0) 2 0)) 3 (upd (ev_I0 3) 3 0)) 6 (upd (ev_I0 6) 4 0)) 8 (upd (ev_I0 8) 1 0)) 13 (upd (upd (ev_I0 13) 8 0) 9 0)) 20 (upd (ev_I0 20) 3 0)) 22 (upd (upd (ev_I0 22) 8 0) 11 (-1))) 33 x166) (ev_sJ (ev_sJ ev_J0 1 (vp_updL (vp_updL (vp_updL (ev_J0 1) 7 (((1 : Int64) <<< (((xs 1) * (xs 2)).toInt64 &&& 63)) - (1 : Int64))) 8 x164) 9 x165)) 8 (vp_updL (vp_updL (ev_J0 8) 2 0) 3 0)) ev_R0 []) cz kz = G 241 1081 [ez_scr, .ref 0, .ref 35, .int 4] [] (ev_hp (ev_sI (ev_sI (ev_sI (ev_sI (ev_sI (ev_sI (ev_sI (ev_sI ev_I0 1 (upd (upd (upd (upd (upd (upd (ev_I0 1) 3 (xs 1)) 4 (xs 2)) 5 1) 6 ((xs 1) * (xs 2))) 1 0) 2 0)) 3 (upd (ev_I0 3) 3 0)) 6 (upd (ev_I0 6) 4 0)) 8 (upd (ev_I0 8) 1 0)) 13 (upd (upd (ev_I0 13) 8 0) 9 0)) 20 (upd (ev_I0 20) 3 0)) 22 (upd (upd (ev_I0 22) 8 0) 11 (-1))) 33 x166) (ev_sJ (ev_sJ ev_J0 1 (vp_updL (vp_updL (vp_updL (ev_J0 1) 7 (((1 : Int64) <<< (((xs 1) * (xs 2)).toInt64 &&& 63)) - (1 : Int64))) 8 x164) 9 x165)) 8 (vp_updL (vp_updL (ev_J0 8) 2 0) 3 0)) ev_R0 []) cz kz := by
  intro G
  rfl
set_option maxRecDepth 100000 in
set_option maxHeartbeats 100000 in
theorem eo_grid_a_r252 (xs : Nat → Int32) (x164 : Int64) (x165 : Int64) (x166 : Nat → Int32) (q153 : Int32) (cz kz : Nat) : ∀ G : ez_F, fx_up (4, xs) 2 G 241 1081 [ez_scr, .ref 0, .ref 35, .int 4] [] (ev_hp (ev_sI (ev_sI (ev_sI (ev_sI (ev_sI (ev_sI (ev_sI (ev_sI ev_I0 1 (upd (upd (upd (upd (upd (upd (ev_I0 1) 3 (xs 1)) 4 (xs 2)) 5 1) 6 ((xs 1) * (xs 2))) 1 0) 2 0)) 3 (upd (ev_I0 3) 3 0)) 6 (upd (ev_I0 6) 4 0)) 8 (upd (ev_I0 8) 1 0)) 13 (upd (upd (ev_I0 13) 8 0) 9 0)) 20 (upd (ev_I0 20) 3 0)) 22 (upd (upd (ev_I0 22) 8 0) 11 (-1))) 33 x166) (ev_sJ (ev_sJ ev_J0 1 (vp_updL (vp_updL (vp_updL (ev_J0 1) 7 (((1 : Int64) <<< (((xs 1) * (xs 2)).toInt64 &&& 63)) - (1 : Int64))) 8 x164) 9 x165)) 8 (vp_updL (vp_updL (ev_J0 8) 2 0) 3 0)) ev_R0 []) cz kz = some (some (.int 1), (ev_hp (ev_sI (ev_sI (ev_sI (ev_sI (ev_sI (ev_sI (ev_sI (ev_sI ev_I0 1 (upd (upd (upd (upd (upd (upd (ev_I0 1) 3 (xs 1)) 4 (xs 2)) 5 1) 6 ((xs 1) * (xs 2))) 1 0) 2 0)) 3 (upd (ev_I0 3) 3 0)) 6 (upd (ev_I0 6) 4 0)) 8 (upd (ev_I0 8) 1 0)) 13 (upd (upd (ev_I0 13) 8 0) 9 0)) 20 (upd (ev_I0 20) 3 0)) 22 (upd (upd (ev_I0 22) 8 0) 11 (-1))) 33 x166) (ev_sJ (ev_sJ ev_J0 1 (vp_updL (vp_updL (vp_updL (ev_J0 1) 7 (((1 : Int64) <<< (((xs 1) * (xs 2)).toInt64 &&& 63)) - (1 : Int64))) 8 x164) 9 x165)) 8 (vp_updL (vp_updL (ev_J0 8) 2 0) 3 0)) ev_R0 []), cz, kz) := by
  intro G
  rfl
set_option maxRecDepth 100000 in
set_option maxHeartbeats 100000 in
theorem eo_grid_a_r253 (xs : Nat → Int32)  (cz kz : Nat) : ∀ G : ez_F, fx_up (4, xs) 2 G 241 211 [ez_scr, .ref 0, .ref 35, .int 0] [.int (-3)] (ev_hp ev_I0 ev_J0 ev_R0 []) cz kz = G 241 213 [ez_scr, .ref 0, .ref 35, .int 0] [ez_scr, .ref 35, .int (-3)] (ev_hp ev_I0 ev_J0 ev_R0 []) cz kz := by
  intro G
  rfl
set_option maxRecDepth 100000 in
set_option maxHeartbeats 100000 in
theorem eo_grid_a_r254 (xs : Nat → Int32)  (cz kz : Nat) : ∀ G : ez_F, fx_up (4, xs) 2 G 241 213 [ez_scr, .ref 0, .ref 35, .int 0] [ez_scr, .ref 35, .int (-3)] (ev_hp ev_I0 ev_J0 ev_R0 []) cz kz = G 241 215 [ez_scr, .ref 0, .ref 35, .int 0] [.int 1, .int 0, ez_scr, .ref 35, .int (-3)] (ev_hp ev_I0 ev_J0 ev_R0 []) cz kz := by
  intro G
  rfl
set_option maxRecDepth 100000 in
set_option maxHeartbeats 100000 in
theorem eo_grid_a_r255 (xs : Nat → Int32)  (cz kz : Nat) : ∀ G : ez_F, fx_up (4, xs) 2 G 241 215 [ez_scr, .ref 0, .ref 35, .int 0] [.int 1, .int 0, ez_scr, .ref 35, .int (-3)] (ev_hp ev_I0 ev_J0 ev_R0 []) cz kz = G 241 217 [ez_scr, .ref 0, .ref 35, .int 0] [.int (xs 1), .ref 35, .int (-3)] (ev_hp ev_I0 ev_J0 ev_R0 []) cz kz := by
  intro G
  rfl
set_option maxRecDepth 100000 in
set_option maxHeartbeats 100000 in
theorem eo_grid_a_r256 (xs : Nat → Int32)  (cz kz : Nat) : ∀ G : ez_F, fx_up (4, xs) 2 G 241 217 [ez_scr, .ref 0, .ref 35, .int 0] [.int (xs 1), .ref 35, .int (-3)] (ev_hp ev_I0 ev_J0 ev_R0 []) cz kz = G 241 219 [ez_scr, .ref 0, .ref 35, .int 0] [.int 0, ez_scr, .int (xs 1), .ref 35, .int (-3)] (ev_hp ev_I0 ev_J0 ev_R0 []) cz kz := by
  intro G
  rfl
set_option maxRecDepth 100000 in
set_option maxHeartbeats 100000 in
theorem eo_grid_a_r257 (xs : Nat → Int32)  (cz kz : Nat) : ∀ G : ez_F, fx_up (4, xs) 2 G 241 219 [ez_scr, .ref 0, .ref 35, .int 0] [.int 0, ez_scr, .int (xs 1), .ref 35, .int (-3)] (ev_hp ev_I0 ev_J0 ev_R0 []) cz kz = G 241 221 [ez_scr, .ref 0, .ref 35, .int 0] [.int 2, ez_scr, .int (xs 1), .ref 35, .int (-3)] (ev_hp ev_I0 ev_J0 ev_R0 []) cz kz := by
  intro G
  rfl
set_option maxRecDepth 100000 in
set_option maxHeartbeats 100000 in
theorem eo_grid_a_r258 (xs : Nat → Int32)  (cz kz : Nat) : ∀ G : ez_F, fx_up (4, xs) 2 G 241 221 [ez_scr, .ref 0, .ref 35, .int 0] [.int 2, ez_scr, .int (xs 1), .ref 35, .int (-3)] (ev_hp ev_I0 ev_J0 ev_R0 []) cz kz = G 241 223 [ez_scr, .ref 0, .ref 35, .int 0] [ez_scr, .int (xs 2), .int (xs 1), .ref 35, .int (-3)] (ev_hp ev_I0 ev_J0 ev_R0 []) cz kz := by
  intro G
  rfl
set_option maxRecDepth 100000 in
set_option maxHeartbeats 100000 in
theorem eo_grid_a_r259 (xs : Nat → Int32)  (cz kz : Nat) : ∀ G : ez_F, fx_up (4, xs) 2 G 241 223 [ez_scr, .ref 0, .ref 35, .int 0] [ez_scr, .int (xs 2), .int (xs 1), .ref 35, .int (-3)] (ev_hp ev_I0 ev_J0 ev_R0 []) cz kz = G 241 225 [ez_scr, .ref 0, .ref 35, .int 0] [.int 3, .int 0, ez_scr, .int (xs 2), .int (xs 1), .ref 35, .int (-3)] (ev_hp ev_I0 ev_J0 ev_R0 []) cz kz := by
  intro G
  rfl
set_option maxRecDepth 100000 in
set_option maxHeartbeats 100000 in
theorem eo_grid_a_r260 (xs : Nat → Int32)  (cz kz : Nat) : ∀ G : ez_F, fx_up (4, xs) 2 G 241 225 [ez_scr, .ref 0, .ref 35, .int 0] [.int 3, .int 0, ez_scr, .int (xs 2), .int (xs 1), .ref 35, .int (-3)] (ev_hp ev_I0 ev_J0 ev_R0 []) cz kz = G 241 227 [ez_scr, .ref 0, .ref 35, .int 0] [.int (xs 3), .int (xs 2), .int (xs 1), .ref 35, .int (-3)] (ev_hp ev_I0 ev_J0 ev_R0 []) cz kz := by
  intro G
  rfl
set_option maxRecDepth 100000 in
set_option maxHeartbeats 100000 in
theorem eo_grid_a_r261 (xs : Nat → Int32)  (cz kz : Nat) : ∀ G : ez_F, fx_up (4, xs) 1 G 241 227 [ez_scr, .ref 0, .ref 35, .int 0] [.int (xs 3), .int (xs 2), .int (xs 1), .ref 35, .int (-3)] (ev_hp ev_I0 ev_J0 ev_R0 []) cz kz = bif decide ((xs 3) = 0) then G 241 234 [ez_scr, .ref 0, .ref 35, .int 0] [.int (xs 2), .int (xs 1), .ref 35, .int (-3)] (ev_hp ev_I0 ev_J0 ev_R0 []) cz kz else G 241 230 [ez_scr, .ref 0, .ref 35, .int 0] [.int (xs 2), .int (xs 1), .ref 35, .int (-3)] (ev_hp ev_I0 ev_J0 ev_R0 []) cz kz := by
  intro G
  rfl
set_option maxRecDepth 100000 in
set_option maxHeartbeats 100000 in
theorem eo_grid_a_r262 (xs : Nat → Int32)  (cz kz : Nat) : ∀ G : ez_F, fx_up (4, xs) 2 G 241 234 [ez_scr, .ref 0, .ref 35, .int 0] [.int (xs 2), .int (xs 1), .ref 35, .int (-3)] (ev_hp ev_I0 ev_J0 ev_R0 []) cz kz = ev_C G 195 [.ref 35, .int (xs 1), .int (xs 2), .int 0] (ev_hp ev_I0 ev_J0 ev_R0 []) fun r h1 c1 k1 => G 241 238 [ez_scr, .ref 0, .ref 35, .int 0] (r.toList ++ [.int (-3)]) h1 (cz + c1) (kz + k1) := by
  intro G
  rfl
set_option maxRecDepth 100000 in
set_option maxHeartbeats 100000 in
theorem eo_grid_a_r263 (xs : Nat → Int32)  (cz kz : Nat) : ∀ G : ez_F, fx_up (4, xs) 2 G 241 238 [ez_scr, .ref 0, .ref 35, .int 0] [.int (-3), .int (-3)] (ev_hp ev_I0 ev_J0 ev_R0 []) cz kz = G 241 1078 [ez_scr, .ref 0, .ref 35, .int 4] [] (ev_hp ev_I0 ev_J0 ev_R0 []) cz kz := by
  intro G
  rfl
set_option maxRecDepth 100000 in
set_option maxHeartbeats 100000 in
theorem eo_grid_a_r264 (xs : Nat → Int32)  (cz kz : Nat) : ∀ G : ez_F, fx_up (4, xs) 2 G 241 1078 [ez_scr, .ref 0, .ref 35, .int 4] [] (ev_hp ev_I0 ev_J0 ev_R0 []) cz kz = G 241 19 [ez_scr, .ref 0, .ref 35, .int 4] [.int 4] (ev_hp ev_I0 ev_J0 ev_R0 []) cz kz := by
  intro G
  rfl
set_option maxRecDepth 100000 in
set_option maxHeartbeats 100000 in
theorem eo_grid_a_r265 (xs : Nat → Int32)  (cz kz : Nat) : ∀ G : ez_F, fx_up (4, xs) 2 G 241 19 [ez_scr, .ref 0, .ref 35, .int 4] [.int 4] (ev_hp ev_I0 ev_J0 ev_R0 []) cz kz = G 241 21 [ez_scr, .ref 0, .ref 35, .int 4] [.int 4, .int 4] (ev_hp ev_I0 ev_J0 ev_R0 []) cz kz := by
  intro G
  rfl
set_option maxRecDepth 100000 in
set_option maxHeartbeats 100000 in
theorem eo_grid_a_r266 (xs : Nat → Int32)  (cz kz : Nat) : ∀ G : ez_F, fx_up (4, xs) 2 G 241 21 [ez_scr, .ref 0, .ref 35, .int 4] [.int 4, .int 4] (ev_hp ev_I0 ev_J0 ev_R0 []) cz kz = G 241 23 [ez_scr, .ref 0, .ref 35, .int 4] [.int 0, .int 4] (ev_hp ev_I0 ev_J0 ev_R0 []) cz kz := by
  intro G
  rfl
set_option maxRecDepth 100000 in
set_option maxHeartbeats 100000 in
theorem eo_grid_a_r267 (xs : Nat → Int32)  (cz kz : Nat) : ∀ G : ez_F, fx_up (4, xs) 2 G 241 23 [ez_scr, .ref 0, .ref 35, .int 4] [.int 0, .int 4] (ev_hp ev_I0 ev_J0 ev_R0 []) cz kz = G 241 1082 [ez_scr, .ref 0, .ref 35, .int 4] [.int 1] (ev_hp ev_I0 ev_J0 ev_R0 []) cz kz := by
  intro G
  rfl
set_option maxRecDepth 100000 in
set_option maxHeartbeats 100000 in
theorem eo_grid_a_r268 (xs : Nat → Int32)  (cz kz : Nat) : ∀ G : ez_F, fx_up (4, xs) 1 G 241 1082 [ez_scr, .ref 0, .ref 35, .int 4] [.int 1] (ev_hp ev_I0 ev_J0 ev_R0 []) cz kz = some (some (.int 1), (ev_hp ev_I0 ev_J0 ev_R0 []), cz, kz) := by
  intro G
  rfl
set_option maxRecDepth 100000 in
set_option maxHeartbeats 100000 in
theorem eo_grid_a_r269 (xs : Nat → Int32) (q158 : Int32) (cz kz : Nat) : ∀ G : ez_F, fx_up (4, xs) 1 G 241 238 [ez_scr, .ref 0, .ref 35, .int 0] [.int q158, .int (-3)] (ev_hp (ev_sI (ev_sI ev_I0 35 (upd (upd (upd (upd (upd (upd (upd (ev_I0 35) 0 (xs 1)) 1 (xs 2)) 2 0) 3 0) 16 0) 9 0) 10 0)) 61 (upd (upd (upd (upd (upd (upd (upd (upd (upd (upd (upd (upd (ev_I0 61) 0 (-1)) 1 (-1)) 2 (-1)) 3 (-1)) 4 (-1)) 5 (-1)) 6 (-1)) 7 (-1)) 8 (-1)) 9 (-1)) 10 (-1)) 11 (-1))) ev_J0 ev_R0 []) cz kz = bif decide (((-3) : Int32) = q158) then G 241 1075 [ez_scr, .ref 0, .ref 35, .int 0] [] (ev_hp (ev_sI (ev_sI ev_I0 35 (upd (upd (upd (upd (upd (upd (upd (ev_I0 35) 0 (xs 1)) 1 (xs 2)) 2 0) 3 0) 16 0) 9 0) 10 0)) 61 (upd (upd (upd (upd (upd (upd (upd (upd (upd (upd (upd (upd (ev_I0 61) 0 (-1)) 1 (-1)) 2 (-1)) 3 (-1)) 4 (-1)) 5 (-1)) 6 (-1)) 7 (-1)) 8 (-1)) 9 (-1)) 10 (-1)) 11 (-1))) ev_J0 ev_R0 []) cz kz else G 241 241 [ez_scr, .ref 0, .ref 35, .int 0] [] (ev_hp (ev_sI (ev_sI ev_I0 35 (upd (upd (upd (upd (upd (upd (upd (ev_I0 35) 0 (xs 1)) 1 (xs 2)) 2 0) 3 0) 16 0) 9 0) 10 0)) 61 (upd (upd (upd (upd (upd (upd (upd (upd (upd (upd (upd (upd (ev_I0 61) 0 (-1)) 1 (-1)) 2 (-1)) 3 (-1)) 4 (-1)) 5 (-1)) 6 (-1)) 7 (-1)) 8 (-1)) 9 (-1)) 10 (-1)) 11 (-1))) ev_J0 ev_R0 []) cz kz := by
  intro G
  rfl
set_option maxRecDepth 100000 in
set_option maxHeartbeats 100000 in
theorem eo_grid_a_r270 (xs : Nat → Int32) (q158 : Int32) (cz kz : Nat) : ∀ G : ez_F, fx_up (4, xs) 2 G 241 1075 [ez_scr, .ref 0, .ref 35, .int 0] [] (ev_hp (ev_sI (ev_sI ev_I0 35 (upd (upd (upd (upd (upd (upd (upd (ev_I0 35) 0 (xs 1)) 1 (xs 2)) 2 0) 3 0) 16 0) 9 0) 10 0)) 61 (upd (upd (upd (upd (upd (upd (upd (upd (upd (upd (upd (upd (ev_I0 61) 0 (-1)) 1 (-1)) 2 (-1)) 3 (-1)) 4 (-1)) 5 (-1)) 6 (-1)) 7 (-1)) 8 (-1)) 9 (-1)) 10 (-1)) 11 (-1))) ev_J0 ev_R0 []) cz kz = G 241 18 [ez_scr, .ref 0, .ref 35, .int 4] [] (ev_hp (ev_sI (ev_sI ev_I0 35 (upd (upd (upd (upd (upd (upd (upd (ev_I0 35) 0 (xs 1)) 1 (xs 2)) 2 0) 3 0) 16 0) 9 0) 10 0)) 61 (upd (upd (upd (upd (upd (upd (upd (upd (upd (upd (upd (upd (ev_I0 61) 0 (-1)) 1 (-1)) 2 (-1)) 3 (-1)) 4 (-1)) 5 (-1)) 6 (-1)) 7 (-1)) 8 (-1)) 9 (-1)) 10 (-1)) 11 (-1))) ev_J0 ev_R0 []) cz kz := by
  intro G
  rfl
set_option maxRecDepth 100000 in
set_option maxHeartbeats 100000 in
theorem eo_grid_a_r271 (xs : Nat → Int32) (q158 : Int32) (cz kz : Nat) : ∀ G : ez_F, fx_up (4, xs) 2 G 241 18 [ez_scr, .ref 0, .ref 35, .int 4] [] (ev_hp (ev_sI (ev_sI ev_I0 35 (upd (upd (upd (upd (upd (upd (upd (ev_I0 35) 0 (xs 1)) 1 (xs 2)) 2 0) 3 0) 16 0) 9 0) 10 0)) 61 (upd (upd (upd (upd (upd (upd (upd (upd (upd (upd (upd (upd (ev_I0 61) 0 (-1)) 1 (-1)) 2 (-1)) 3 (-1)) 4 (-1)) 5 (-1)) 6 (-1)) 7 (-1)) 8 (-1)) 9 (-1)) 10 (-1)) 11 (-1))) ev_J0 ev_R0 []) cz kz = G 241 20 [ez_scr, .ref 0, .ref 35, .int 4] [ez_scr, .int 4] (ev_hp (ev_sI (ev_sI ev_I0 35 (upd (upd (upd (upd (upd (upd (upd (ev_I0 35) 0 (xs 1)) 1 (xs 2)) 2 0) 3 0) 16 0) 9 0) 10 0)) 61 (upd (upd (upd (upd (upd (upd (upd (upd (upd (upd (upd (upd (ev_I0 61) 0 (-1)) 1 (-1)) 2 (-1)) 3 (-1)) 4 (-1)) 5 (-1)) 6 (-1)) 7 (-1)) 8 (-1)) 9 (-1)) 10 (-1)) 11 (-1))) ev_J0 ev_R0 []) cz kz := by
  intro G
  rfl
set_option maxRecDepth 100000 in
set_option maxHeartbeats 100000 in
theorem eo_grid_a_r272 (xs : Nat → Int32) (q158 : Int32) (cz kz : Nat) : ∀ G : ez_F, fx_up (4, xs) 2 G 241 20 [ez_scr, .ref 0, .ref 35, .int 4] [ez_scr, .int 4] (ev_hp (ev_sI (ev_sI ev_I0 35 (upd (upd (upd (upd (upd (upd (upd (ev_I0 35) 0 (xs 1)) 1 (xs 2)) 2 0) 3 0) 16 0) 9 0) 10 0)) 61 (upd (upd (upd (upd (upd (upd (upd (upd (upd (upd (upd (upd (ev_I0 61) 0 (-1)) 1 (-1)) 2 (-1)) 3 (-1)) 4 (-1)) 5 (-1)) 6 (-1)) 7 (-1)) 8 (-1)) 9 (-1)) 10 (-1)) 11 (-1))) ev_J0 ev_R0 []) cz kz = G 241 22 [ez_scr, .ref 0, .ref 35, .int 4] [.int 4, .int 4, .int 4] (ev_hp (ev_sI (ev_sI ev_I0 35 (upd (upd (upd (upd (upd (upd (upd (ev_I0 35) 0 (xs 1)) 1 (xs 2)) 2 0) 3 0) 16 0) 9 0) 10 0)) 61 (upd (upd (upd (upd (upd (upd (upd (upd (upd (upd (upd (upd (ev_I0 61) 0 (-1)) 1 (-1)) 2 (-1)) 3 (-1)) 4 (-1)) 5 (-1)) 6 (-1)) 7 (-1)) 8 (-1)) 9 (-1)) 10 (-1)) 11 (-1))) ev_J0 ev_R0 []) cz kz := by
  intro G
  rfl
set_option maxRecDepth 100000 in
set_option maxHeartbeats 100000 in
theorem eo_grid_a_r273 (xs : Nat → Int32) (q158 : Int32) (cz kz : Nat) : ∀ G : ez_F, fx_up (4, xs) 2 G 241 22 [ez_scr, .ref 0, .ref 35, .int 4] [.int 4, .int 4, .int 4] (ev_hp (ev_sI (ev_sI ev_I0 35 (upd (upd (upd (upd (upd (upd (upd (ev_I0 35) 0 (xs 1)) 1 (xs 2)) 2 0) 3 0) 16 0) 9 0) 10 0)) 61 (upd (upd (upd (upd (upd (upd (upd (upd (upd (upd (upd (upd (ev_I0 61) 0 (-1)) 1 (-1)) 2 (-1)) 3 (-1)) 4 (-1)) 5 (-1)) 6 (-1)) 7 (-1)) 8 (-1)) 9 (-1)) 10 (-1)) 11 (-1))) ev_J0 ev_R0 []) cz kz = G 241 1081 [ez_scr, .ref 0, .ref 35, .int 4] [] (ev_hp (ev_sI (ev_sI ev_I0 35 (upd (upd (upd (upd (upd (upd (upd (ev_I0 35) 0 (xs 1)) 1 (xs 2)) 2 0) 3 0) 16 0) 9 0) 10 0)) 61 (upd (upd (upd (upd (upd (upd (upd (upd (upd (upd (upd (upd (ev_I0 61) 0 (-1)) 1 (-1)) 2 (-1)) 3 (-1)) 4 (-1)) 5 (-1)) 6 (-1)) 7 (-1)) 8 (-1)) 9 (-1)) 10 (-1)) 11 (-1))) ev_J0 ev_R0 []) cz kz := by
  intro G
  rfl
set_option maxRecDepth 100000 in
set_option maxHeartbeats 100000 in
theorem eo_grid_a_r274 (xs : Nat → Int32) (q158 : Int32) (cz kz : Nat) : ∀ G : ez_F, fx_up (4, xs) 2 G 241 1081 [ez_scr, .ref 0, .ref 35, .int 4] [] (ev_hp (ev_sI (ev_sI ev_I0 35 (upd (upd (upd (upd (upd (upd (upd (ev_I0 35) 0 (xs 1)) 1 (xs 2)) 2 0) 3 0) 16 0) 9 0) 10 0)) 61 (upd (upd (upd (upd (upd (upd (upd (upd (upd (upd (upd (upd (ev_I0 61) 0 (-1)) 1 (-1)) 2 (-1)) 3 (-1)) 4 (-1)) 5 (-1)) 6 (-1)) 7 (-1)) 8 (-1)) 9 (-1)) 10 (-1)) 11 (-1))) ev_J0 ev_R0 []) cz kz = some (some (.int 1), (ev_hp (ev_sI (ev_sI ev_I0 35 (upd (upd (upd (upd (upd (upd (upd (ev_I0 35) 0 (xs 1)) 1 (xs 2)) 2 0) 3 0) 16 0) 9 0) 10 0)) 61 (upd (upd (upd (upd (upd (upd (upd (upd (upd (upd (upd (upd (ev_I0 61) 0 (-1)) 1 (-1)) 2 (-1)) 3 (-1)) 4 (-1)) 5 (-1)) 6 (-1)) 7 (-1)) 8 (-1)) 9 (-1)) 10 (-1)) 11 (-1))) ev_J0 ev_R0 []), cz, kz) := by
  intro G
  rfl
set_option maxRecDepth 100000 in
set_option maxHeartbeats 100000 in
theorem eo_grid_a_r275 (xs : Nat → Int32)  (cz kz : Nat) : ∀ G : ez_F, fx_up (4, xs) 2 G 241 238 [ez_scr, .ref 0, .ref 35, .int 0] [.int (-3), .int (-3)] (ev_hp ev_I0 ev_J0 ev_R0 []) cz kz = G 241 1078 [ez_scr, .ref 0, .ref 35, .int 4] [] (ev_hp ev_I0 ev_J0 ev_R0 []) cz kz := by
  intro G
  rfl
set_option maxRecDepth 100000 in
set_option maxHeartbeats 100000 in
theorem eo_grid_a_r276 (xs : Nat → Int32)  (cz kz : Nat) : ∀ G : ez_F, fx_up (4, xs) 2 G 241 1078 [ez_scr, .ref 0, .ref 35, .int 4] [] (ev_hp ev_I0 ev_J0 ev_R0 []) cz kz = G 241 19 [ez_scr, .ref 0, .ref 35, .int 4] [.int 4] (ev_hp ev_I0 ev_J0 ev_R0 []) cz kz := by
  intro G
  rfl
set_option maxRecDepth 100000 in
set_option maxHeartbeats 100000 in
theorem eo_grid_a_r277 (xs : Nat → Int32)  (cz kz : Nat) : ∀ G : ez_F, fx_up (4, xs) 2 G 241 19 [ez_scr, .ref 0, .ref 35, .int 4] [.int 4] (ev_hp ev_I0 ev_J0 ev_R0 []) cz kz = G 241 21 [ez_scr, .ref 0, .ref 35, .int 4] [.int 4, .int 4] (ev_hp ev_I0 ev_J0 ev_R0 []) cz kz := by
  intro G
  rfl
set_option maxRecDepth 100000 in
set_option maxHeartbeats 100000 in
theorem eo_grid_a_r278 (xs : Nat → Int32)  (cz kz : Nat) : ∀ G : ez_F, fx_up (4, xs) 2 G 241 21 [ez_scr, .ref 0, .ref 35, .int 4] [.int 4, .int 4] (ev_hp ev_I0 ev_J0 ev_R0 []) cz kz = G 241 23 [ez_scr, .ref 0, .ref 35, .int 4] [.int 0, .int 4] (ev_hp ev_I0 ev_J0 ev_R0 []) cz kz := by
  intro G
  rfl
set_option maxRecDepth 100000 in
set_option maxHeartbeats 100000 in
theorem eo_grid_a_r279 (xs : Nat → Int32)  (cz kz : Nat) : ∀ G : ez_F, fx_up (4, xs) 2 G 241 23 [ez_scr, .ref 0, .ref 35, .int 4] [.int 0, .int 4] (ev_hp ev_I0 ev_J0 ev_R0 []) cz kz = G 241 1082 [ez_scr, .ref 0, .ref 35, .int 4] [.int 1] (ev_hp ev_I0 ev_J0 ev_R0 []) cz kz := by
  intro G
  rfl
set_option maxRecDepth 100000 in
set_option maxHeartbeats 100000 in
theorem eo_grid_a_r280 (xs : Nat → Int32)  (cz kz : Nat) : ∀ G : ez_F, fx_up (4, xs) 1 G 241 1082 [ez_scr, .ref 0, .ref 35, .int 4] [.int 1] (ev_hp ev_I0 ev_J0 ev_R0 []) cz kz = some (some (.int 1), (ev_hp ev_I0 ev_J0 ev_R0 []), cz, kz) := by
  intro G
  rfl
set_option maxRecDepth 100000 in
set_option maxHeartbeats 100000 in
theorem eo_grid_a_r281 (xs : Nat → Int32)  (cz kz : Nat) : ∀ G : ez_F, fx_up (4, xs) 2 G 241 230 [ez_scr, .ref 0, .ref 35, .int 0] [.int (xs 2), .int (xs 1), .ref 35, .int (-3)] (ev_hp ev_I0 ev_J0 ev_R0 []) cz kz = G 241 235 [ez_scr, .ref 0, .ref 35, .int 0] [.int 1, .int (xs 2), .int (xs 1), .ref 35, .int (-3)] (ev_hp ev_I0 ev_J0 ev_R0 []) cz kz := by
  intro G
  rfl
set_option maxRecDepth 100000 in
set_option maxHeartbeats 100000 in
theorem eo_grid_a_r282 (xs : Nat → Int32)  (cz kz : Nat) : ∀ G : ez_F, fx_up (4, xs) 1 G 241 235 [ez_scr, .ref 0, .ref 35, .int 0] [.int 1, .int (xs 2), .int (xs 1), .ref 35, .int (-3)] (ev_hp ev_I0 ev_J0 ev_R0 []) cz kz = ev_C G 195 [.ref 35, .int (xs 1), .int (xs 2), .int 1] (ev_hp ev_I0 ev_J0 ev_R0 []) fun r h1 c1 k1 => G 241 238 [ez_scr, .ref 0, .ref 35, .int 0] (r.toList ++ [.int (-3)]) h1 (cz + c1) (kz + k1) := by
  intro G
  rfl
set_option maxRecDepth 100000 in
set_option maxHeartbeats 100000 in
theorem eo_grid_a_r283 (xs : Nat → Int32)  (cz kz : Nat) : ∀ G : ez_F, fx_up (4, xs) 2 G 241 238 [ez_scr, .ref 0, .ref 35, .int 0] [.int (-3), .int (-3)] (ev_hp ev_I0 ev_J0 ev_R0 []) cz kz = G 241 1078 [ez_scr, .ref 0, .ref 35, .int 4] [] (ev_hp ev_I0 ev_J0 ev_R0 []) cz kz := by
  intro G
  rfl
set_option maxRecDepth 100000 in
set_option maxHeartbeats 100000 in
theorem eo_grid_a_r284 (xs : Nat → Int32)  (cz kz : Nat) : ∀ G : ez_F, fx_up (4, xs) 2 G 241 1078 [ez_scr, .ref 0, .ref 35, .int 4] [] (ev_hp ev_I0 ev_J0 ev_R0 []) cz kz = G 241 19 [ez_scr, .ref 0, .ref 35, .int 4] [.int 4] (ev_hp ev_I0 ev_J0 ev_R0 []) cz kz := by
  intro G
  rfl
set_option maxRecDepth 100000 in
set_option maxHeartbeats 100000 in
theorem eo_grid_a_r285 (xs : Nat → Int32)  (cz kz : Nat) : ∀ G : ez_F, fx_up (4, xs) 2 G 241 19 [ez_scr, .ref 0, .ref 35, .int 4] [.int 4] (ev_hp ev_I0 ev_J0 ev_R0 []) cz kz = G 241 21 [ez_scr, .ref 0, .ref 35, .int 4] [.int 4, .int 4] (ev_hp ev_I0 ev_J0 ev_R0 []) cz kz := by
  intro G
  rfl
set_option maxRecDepth 100000 in
set_option maxHeartbeats 100000 in
theorem eo_grid_a_r286 (xs : Nat → Int32)  (cz kz : Nat) : ∀ G : ez_F, fx_up (4, xs) 2 G 241 21 [ez_scr, .ref 0, .ref 35, .int 4] [.int 4, .int 4] (ev_hp ev_I0 ev_J0 ev_R0 []) cz kz = G 241 23 [ez_scr, .ref 0, .ref 35, .int 4] [.int 0, .int 4] (ev_hp ev_I0 ev_J0 ev_R0 []) cz kz := by
  intro G
  rfl
set_option maxRecDepth 100000 in
set_option maxHeartbeats 100000 in
theorem eo_grid_a_r287 (xs : Nat → Int32)  (cz kz : Nat) : ∀ G : ez_F, fx_up (4, xs) 2 G 241 23 [ez_scr, .ref 0, .ref 35, .int 4] [.int 0, .int 4] (ev_hp ev_I0 ev_J0 ev_R0 []) cz kz = G 241 1082 [ez_scr, .ref 0, .ref 35, .int 4] [.int 1] (ev_hp ev_I0 ev_J0 ev_R0 []) cz kz := by
  intro G
  rfl
set_option maxRecDepth 100000 in
set_option maxHeartbeats 100000 in
theorem eo_grid_a_r288 (xs : Nat → Int32)  (cz kz : Nat) : ∀ G : ez_F, fx_up (4, xs) 1 G 241 1082 [ez_scr, .ref 0, .ref 35, .int 4] [.int 1] (ev_hp ev_I0 ev_J0 ev_R0 []) cz kz = some (some (.int 1), (ev_hp ev_I0 ev_J0 ev_R0 []), cz, kz) := by
  intro G
  rfl
set_option maxRecDepth 100000 in
set_option maxHeartbeats 100000 in
theorem eo_grid_a_r289 (xs : Nat → Int32) (q159 : Int32) (cz kz : Nat) : ∀ G : ez_F, fx_up (4, xs) 1 G 241 238 [ez_scr, .ref 0, .ref 35, .int 0] [.int q159, .int (-3)] (ev_hp (ev_sI (ev_sI ev_I0 35 (upd (upd (upd (upd (upd (upd (upd (ev_I0 35) 0 (xs 1)) 1 (xs 2)) 2 1) 3 0) 16 0) 9 0) 10 0)) 61 (upd (upd (upd (upd (upd (upd (upd (upd (upd (upd (upd (upd (ev_I0 61) 0 (-1)) 1 (-1)) 2 (-1)) 3 (-1)) 4 (-1)) 5 (-1)) 6 (-1)) 7 (-1)) 8 (-1)) 9 (-1)) 10 (-1)) 11 (-1))) ev_J0 ev_R0 []) cz kz = bif decide (((-3) : Int32) = q159) then G 241 1075 [ez_scr, .ref 0, .ref 35, .int 0] [] (ev_hp (ev_sI (ev_sI ev_I0 35 (upd (upd (upd (upd (upd (upd (upd (ev_I0 35) 0 (xs 1)) 1 (xs 2)) 2 1) 3 0) 16 0) 9 0) 10 0)) 61 (upd (upd (upd (upd (upd (upd (upd (upd (upd (upd (upd (upd (ev_I0 61) 0 (-1)) 1 (-1)) 2 (-1)) 3 (-1)) 4 (-1)) 5 (-1)) 6 (-1)) 7 (-1)) 8 (-1)) 9 (-1)) 10 (-1)) 11 (-1))) ev_J0 ev_R0 []) cz kz else G 241 241 [ez_scr, .ref 0, .ref 35, .int 0] [] (ev_hp (ev_sI (ev_sI ev_I0 35 (upd (upd (upd (upd (upd (upd (upd (ev_I0 35) 0 (xs 1)) 1 (xs 2)) 2 1) 3 0) 16 0) 9 0) 10 0)) 61 (upd (upd (upd (upd (upd (upd (upd (upd (upd (upd (upd (upd (ev_I0 61) 0 (-1)) 1 (-1)) 2 (-1)) 3 (-1)) 4 (-1)) 5 (-1)) 6 (-1)) 7 (-1)) 8 (-1)) 9 (-1)) 10 (-1)) 11 (-1))) ev_J0 ev_R0 []) cz kz := by
  intro G
  rfl
set_option maxRecDepth 100000 in
set_option maxHeartbeats 100000 in
theorem eo_grid_a_r290 (xs : Nat → Int32) (q159 : Int32) (cz kz : Nat) : ∀ G : ez_F, fx_up (4, xs) 2 G 241 1075 [ez_scr, .ref 0, .ref 35, .int 0] [] (ev_hp (ev_sI (ev_sI ev_I0 35 (upd (upd (upd (upd (upd (upd (upd (ev_I0 35) 0 (xs 1)) 1 (xs 2)) 2 1) 3 0) 16 0) 9 0) 10 0)) 61 (upd (upd (upd (upd (upd (upd (upd (upd (upd (upd (upd (upd (ev_I0 61) 0 (-1)) 1 (-1)) 2 (-1)) 3 (-1)) 4 (-1)) 5 (-1)) 6 (-1)) 7 (-1)) 8 (-1)) 9 (-1)) 10 (-1)) 11 (-1))) ev_J0 ev_R0 []) cz kz = G 241 18 [ez_scr, .ref 0, .ref 35, .int 4] [] (ev_hp (ev_sI (ev_sI ev_I0 35 (upd (upd (upd (upd (upd (upd (upd (ev_I0 35) 0 (xs 1)) 1 (xs 2)) 2 1) 3 0) 16 0) 9 0) 10 0)) 61 (upd (upd (upd (upd (upd (upd (upd (upd (upd (upd (upd (upd (ev_I0 61) 0 (-1)) 1 (-1)) 2 (-1)) 3 (-1)) 4 (-1)) 5 (-1)) 6 (-1)) 7 (-1)) 8 (-1)) 9 (-1)) 10 (-1)) 11 (-1))) ev_J0 ev_R0 []) cz kz := by
  intro G
  rfl
set_option maxRecDepth 100000 in
set_option maxHeartbeats 100000 in
theorem eo_grid_a_r291 (xs : Nat → Int32) (q159 : Int32) (cz kz : Nat) : ∀ G : ez_F, fx_up (4, xs) 2 G 241 18 [ez_scr, .ref 0, .ref 35, .int 4] [] (ev_hp (ev_sI (ev_sI ev_I0 35 (upd (upd (upd (upd (upd (upd (upd (ev_I0 35) 0 (xs 1)) 1 (xs 2)) 2 1) 3 0) 16 0) 9 0) 10 0)) 61 (upd (upd (upd (upd (upd (upd (upd (upd (upd (upd (upd (upd (ev_I0 61) 0 (-1)) 1 (-1)) 2 (-1)) 3 (-1)) 4 (-1)) 5 (-1)) 6 (-1)) 7 (-1)) 8 (-1)) 9 (-1)) 10 (-1)) 11 (-1))) ev_J0 ev_R0 []) cz kz = G 241 20 [ez_scr, .ref 0, .ref 35, .int 4] [ez_scr, .int 4] (ev_hp (ev_sI (ev_sI ev_I0 35 (upd (upd (upd (upd (upd (upd (upd (ev_I0 35) 0 (xs 1)) 1 (xs 2)) 2 1) 3 0) 16 0) 9 0) 10 0)) 61 (upd (upd (upd (upd (upd (upd (upd (upd (upd (upd (upd (upd (ev_I0 61) 0 (-1)) 1 (-1)) 2 (-1)) 3 (-1)) 4 (-1)) 5 (-1)) 6 (-1)) 7 (-1)) 8 (-1)) 9 (-1)) 10 (-1)) 11 (-1))) ev_J0 ev_R0 []) cz kz := by
  intro G
  rfl
set_option maxRecDepth 100000 in
set_option maxHeartbeats 100000 in
theorem eo_grid_a_r292 (xs : Nat → Int32) (q159 : Int32) (cz kz : Nat) : ∀ G : ez_F, fx_up (4, xs) 2 G 241 20 [ez_scr, .ref 0, .ref 35, .int 4] [ez_scr, .int 4] (ev_hp (ev_sI (ev_sI ev_I0 35 (upd (upd (upd (upd (upd (upd (upd (ev_I0 35) 0 (xs 1)) 1 (xs 2)) 2 1) 3 0) 16 0) 9 0) 10 0)) 61 (upd (upd (upd (upd (upd (upd (upd (upd (upd (upd (upd (upd (ev_I0 61) 0 (-1)) 1 (-1)) 2 (-1)) 3 (-1)) 4 (-1)) 5 (-1)) 6 (-1)) 7 (-1)) 8 (-1)) 9 (-1)) 10 (-1)) 11 (-1))) ev_J0 ev_R0 []) cz kz = G 241 22 [ez_scr, .ref 0, .ref 35, .int 4] [.int 4, .int 4, .int 4] (ev_hp (ev_sI (ev_sI ev_I0 35 (upd (upd (upd (upd (upd (upd (upd (ev_I0 35) 0 (xs 1)) 1 (xs 2)) 2 1) 3 0) 16 0) 9 0) 10 0)) 61 (upd (upd (upd (upd (upd (upd (upd (upd (upd (upd (upd (upd (ev_I0 61) 0 (-1)) 1 (-1)) 2 (-1)) 3 (-1)) 4 (-1)) 5 (-1)) 6 (-1)) 7 (-1)) 8 (-1)) 9 (-1)) 10 (-1)) 11 (-1))) ev_J0 ev_R0 []) cz kz := by
  intro G
  rfl
set_option maxRecDepth 100000 in
set_option maxHeartbeats 100000 in
theorem eo_grid_a_r293 (xs : Nat → Int32) (q159 : Int32) (cz kz : Nat) : ∀ G : ez_F, fx_up (4, xs) 2 G 241 22 [ez_scr, .ref 0, .ref 35, .int 4] [.int 4, .int 4, .int 4] (ev_hp (ev_sI (ev_sI ev_I0 35 (upd (upd (upd (upd (upd (upd (upd (ev_I0 35) 0 (xs 1)) 1 (xs 2)) 2 1) 3 0) 16 0) 9 0) 10 0)) 61 (upd (upd (upd (upd (upd (upd (upd (upd (upd (upd (upd (upd (ev_I0 61) 0 (-1)) 1 (-1)) 2 (-1)) 3 (-1)) 4 (-1)) 5 (-1)) 6 (-1)) 7 (-1)) 8 (-1)) 9 (-1)) 10 (-1)) 11 (-1))) ev_J0 ev_R0 []) cz kz = G 241 1081 [ez_scr, .ref 0, .ref 35, .int 4] [] (ev_hp (ev_sI (ev_sI ev_I0 35 (upd (upd (upd (upd (upd (upd (upd (ev_I0 35) 0 (xs 1)) 1 (xs 2)) 2 1) 3 0) 16 0) 9 0) 10 0)) 61 (upd (upd (upd (upd (upd (upd (upd (upd (upd (upd (upd (upd (ev_I0 61) 0 (-1)) 1 (-1)) 2 (-1)) 3 (-1)) 4 (-1)) 5 (-1)) 6 (-1)) 7 (-1)) 8 (-1)) 9 (-1)) 10 (-1)) 11 (-1))) ev_J0 ev_R0 []) cz kz := by
  intro G
  rfl
set_option maxRecDepth 100000 in
set_option maxHeartbeats 100000 in
theorem eo_grid_a_r294 (xs : Nat → Int32) (q159 : Int32) (cz kz : Nat) : ∀ G : ez_F, fx_up (4, xs) 2 G 241 1081 [ez_scr, .ref 0, .ref 35, .int 4] [] (ev_hp (ev_sI (ev_sI ev_I0 35 (upd (upd (upd (upd (upd (upd (upd (ev_I0 35) 0 (xs 1)) 1 (xs 2)) 2 1) 3 0) 16 0) 9 0) 10 0)) 61 (upd (upd (upd (upd (upd (upd (upd (upd (upd (upd (upd (upd (ev_I0 61) 0 (-1)) 1 (-1)) 2 (-1)) 3 (-1)) 4 (-1)) 5 (-1)) 6 (-1)) 7 (-1)) 8 (-1)) 9 (-1)) 10 (-1)) 11 (-1))) ev_J0 ev_R0 []) cz kz = some (some (.int 1), (ev_hp (ev_sI (ev_sI ev_I0 35 (upd (upd (upd (upd (upd (upd (upd (ev_I0 35) 0 (xs 1)) 1 (xs 2)) 2 1) 3 0) 16 0) 9 0) 10 0)) 61 (upd (upd (upd (upd (upd (upd (upd (upd (upd (upd (upd (upd (ev_I0 61) 0 (-1)) 1 (-1)) 2 (-1)) 3 (-1)) 4 (-1)) 5 (-1)) 6 (-1)) 7 (-1)) 8 (-1)) 9 (-1)) 10 (-1)) 11 (-1))) ev_J0 ev_R0 []), cz, kz) := by
  intro G
  rfl
set_option maxRecDepth 100000 in
set_option maxHeartbeats 100000 in
theorem eo_grid_a_r295 (xs : Nat → Int32)  (cz kz : Nat) : ∀ G : ez_F, fx_up (4, xs) 2 G 241 238 [ez_scr, .ref 0, .ref 35, .int 0] [.int (-3), .int (-3)] (ev_hp ev_I0 ev_J0 ev_R0 []) cz kz = G 241 1078 [ez_scr, .ref 0, .ref 35, .int 4] [] (ev_hp ev_I0 ev_J0 ev_R0 []) cz kz := by
  intro G
  rfl
set_option maxRecDepth 100000 in
set_option maxHeartbeats 100000 in
theorem eo_grid_a_r296 (xs : Nat → Int32)  (cz kz : Nat) : ∀ G : ez_F, fx_up (4, xs) 2 G 241 1078 [ez_scr, .ref 0, .ref 35, .int 4] [] (ev_hp ev_I0 ev_J0 ev_R0 []) cz kz = G 241 19 [ez_scr, .ref 0, .ref 35, .int 4] [.int 4] (ev_hp ev_I0 ev_J0 ev_R0 []) cz kz := by
  intro G
  rfl
set_option maxRecDepth 100000 in
set_option maxHeartbeats 100000 in
theorem eo_grid_a_r297 (xs : Nat → Int32)  (cz kz : Nat) : ∀ G : ez_F, fx_up (4, xs) 2 G 241 19 [ez_scr, .ref 0, .ref 35, .int 4] [.int 4] (ev_hp ev_I0 ev_J0 ev_R0 []) cz kz = G 241 21 [ez_scr, .ref 0, .ref 35, .int 4] [.int 4, .int 4] (ev_hp ev_I0 ev_J0 ev_R0 []) cz kz := by
  intro G
  rfl
set_option maxRecDepth 100000 in
set_option maxHeartbeats 100000 in
theorem eo_grid_a_r298 (xs : Nat → Int32)  (cz kz : Nat) : ∀ G : ez_F, fx_up (4, xs) 2 G 241 21 [ez_scr, .ref 0, .ref 35, .int 4] [.int 4, .int 4] (ev_hp ev_I0 ev_J0 ev_R0 []) cz kz = G 241 23 [ez_scr, .ref 0, .ref 35, .int 4] [.int 0, .int 4] (ev_hp ev_I0 ev_J0 ev_R0 []) cz kz := by
  intro G
  rfl
set_option maxRecDepth 100000 in
set_option maxHeartbeats 100000 in
theorem eo_grid_a_r299 (xs : Nat → Int32)  (cz kz : Nat) : ∀ G : ez_F, fx_up (4, xs) 2 G 241 23 [ez_scr, .ref 0, .ref 35, .int 4] [.int 0, .int 4] (ev_hp ev_I0 ev_J0 ev_R0 []) cz kz = G 241 1082 [ez_scr, .ref 0, .ref 35, .int 4] [.int 1] (ev_hp ev_I0 ev_J0 ev_R0 []) cz kz := by
  intro G
  rfl
set_option maxRecDepth 100000 in
set_option maxHeartbeats 100000 in
theorem eo_grid_a_r300 (xs : Nat → Int32)  (cz kz : Nat) : ∀ G : ez_F, fx_up (4, xs) 1 G 241 1082 [ez_scr, .ref 0, .ref 35, .int 4] [.int 1] (ev_hp ev_I0 ev_J0 ev_R0 []) cz kz = some (some (.int 1), (ev_hp ev_I0 ev_J0 ev_R0 []), cz, kz) := by
  intro G
  rfl
theorem eo_grid_a (xs : Nat → Int32)  : ev_P1 (4, xs) 184 := by
  refine ev_seg (eo_grid_a_r1 xs  _ _) ?_
  refine ev_seg (eo_grid_a_r2 xs  _ _) ?_
  refine ev_seg (eo_grid_a_r3 xs  _ _) ?_
  refine ev_seg (eo_grid_a_r4 xs  _ _) ?_
  refine ev_seg (eo_grid_a_r5 xs  _ _) ?_
  refine ev_seg (eo_grid_a_r6 xs  _ _) ?_
  refine ev_seg (eo_grid_a_r7 xs  _ _) ?_
  refine ev_seg (eo_grid_a_r8 xs  _ _) ?_
  refine ev_if (eo_grid_a_r9 xs  _ _) (fun b1 => ?_) (fun b1 => ?_)
  · replace b1 := of_decide_eq_true b1
    refine ev_call (eo_grid_a_r10 xs  _ _) (eg_grid0 (4, xs) ev_I0 ev_J0 ev_R0 [] (xs 1) (xs 2)) ?_
    rintro r0 _ _ _ (⟨d124, rfl, rfl, rfl, rfl⟩ | ⟨x125, x126, x127, hx127, d129, d130, hr0, rfl, rfl, rfl⟩ | ⟨d131, d132, rfl, rfl, rfl, rfl⟩)
    · skip
      refine ev_seg (eo_grid_a_r11 xs  _ _) ?_
      refine ev_seg (eo_grid_a_r12 xs  _ _) ?_
      refine ev_seg (eo_grid_a_r13 xs  _ _) ?_
      refine ev_seg (eo_grid_a_r14 xs  _ _) ?_
      refine ev_seg (eo_grid_a_r15 xs  _ _) ?_
      refine ev_seg (eo_grid_a_r16 xs  _ _) ?_
      refine ev_seg (eo_grid_a_r17 xs  _ _) ?_
      refine ev_seg (eo_grid_a_r18 xs  _ _) ?_
      refine ev_if (eo_grid_a_r19 xs  _ _) (fun b2 => ?_) (fun b2 => ?_)
      · replace b2 := of_decide_eq_true b2
        refine ev_call (eo_grid_a_r20 xs  _ _) (em_grid0 (4, xs) ev_I0 ev_J0 ev_R0 [] (xs 1) (xs 2)) ?_
        rintro r0 _ _ _ (⟨d133, rfl, rfl, rfl, rfl⟩ | ⟨d134, d135, hr0, rfl, rfl, rfl⟩ | ⟨d136, d137, rfl, rfl, rfl, rfl⟩)
        · skip
          refine ev_seg (eo_grid_a_r21 xs  _ _) ?_
          refine ev_seg (eo_grid_a_r22 xs  _ _) ?_
          refine ev_seg (eo_grid_a_r23 xs  _ _) ?_
          refine ev_seg (eo_grid_a_r24 xs  _ _) ?_
          refine ev_seg (eo_grid_a_r25 xs  _ _) ?_
          refine ev_ret (eo_grid_a_r26 xs  _ _) ?_
          exact ⟨rfl, by omega, by omega⟩
        · skip
          obtain ⟨q147, hq147⟩ : ∃ z : Int32, (((xs 1) * (xs 2))) = z := ⟨_, rfl⟩
          have eq147 : r0 = some (.int q147) := hr0.trans (by subst hq147; rfl)
          subst eq147
          refine ev_if (eo_grid_a_r27 xs q147 _ _) (fun b3 => ?_) (fun b3 => ?_)
          · replace b3 := of_decide_eq_true b3
            refine ev_seg (eo_grid_a_r28 xs q147 _ _) ?_
            refine ev_seg (eo_grid_a_r29 xs q147 _ _) ?_
            refine ev_seg (eo_grid_a_r30 xs q147 _ _) ?_
            refine ev_seg (eo_grid_a_r31 xs q147 _ _) ?_
            refine ev_ret (eo_grid_a_r32 xs q147 _ _) ?_
            exact ⟨rfl, by omega, by omega⟩
          · replace b3 := of_decide_eq_false b3
            exfalso
            have e1 : ev_il (xs 1).toInt64 2 6 = ev_wi (xs 1) 2 6 := ev_il_wi _ 2 6
            have e2 : ev_il (xs 2).toInt64 2 6 = ev_wi (xs 2) 2 6 := ev_il_wi _ 2 6
            first | exact b3 rfl | (subst_vars; exact b3 rfl) | (simp_all; done)
        · skip
          refine ev_seg (eo_grid_a_r33 xs  _ _) ?_
          refine ev_seg (eo_grid_a_r34 xs  _ _) ?_
          refine ev_seg (eo_grid_a_r35 xs  _ _) ?_
          refine ev_seg (eo_grid_a_r36 xs  _ _) ?_
          refine ev_seg (eo_grid_a_r37 xs  _ _) ?_
          refine ev_ret (eo_grid_a_r38 xs  _ _) ?_
          exact ⟨rfl, by omega, by omega⟩
      · replace b2 := of_decide_eq_false b2
        refine ev_seg (eo_grid_a_r39 xs  _ _) ?_
        refine ev_call (eo_grid_a_r40 xs  _ _) (em_grid1 (4, xs) ev_I0 ev_J0 ev_R0 [] (xs 1) (xs 2)) ?_
        rintro r0 _ _ _ (⟨d138, rfl, rfl, rfl, rfl⟩ | ⟨d139, d140, hr0, rfl, rfl, rfl⟩ | ⟨d141, d142, rfl, rfl, rfl, rfl⟩)
        · skip
          refine ev_seg (eo_grid_a_r41 xs  _ _) ?_
          refine ev_seg (eo_grid_a_r42 xs  _ _) ?_
          refine ev_seg (eo_grid_a_r43 xs  _ _) ?_
          refine ev_seg (eo_grid_a_r44 xs  _ _) ?_
          refine ev_seg (eo_grid_a_r45 xs  _ _) ?_
          refine ev_ret (eo_grid_a_r46 xs  _ _) ?_
          exact ⟨rfl, by omega, by omega⟩
        · skip
          obtain ⟨q148, hq148⟩ : ∃ z : Int32, (((xs 1) * (xs 2))) = z := ⟨_, rfl⟩
          have eq148 : r0 = some (.int q148) := hr0.trans (by subst hq148; rfl)
          subst eq148
          refine ev_if (eo_grid_a_r47 xs q148 _ _) (fun b4 => ?_) (fun b4 => ?_)
          · replace b4 := of_decide_eq_true b4
            refine ev_seg (eo_grid_a_r48 xs q148 _ _) ?_
            refine ev_seg (eo_grid_a_r49 xs q148 _ _) ?_
            refine ev_seg (eo_grid_a_r50 xs q148 _ _) ?_
            refine ev_seg (eo_grid_a_r51 xs q148 _ _) ?_
            refine ev_ret (eo_grid_a_r52 xs q148 _ _) ?_
            exact ⟨rfl, by omega, by omega⟩
          · replace b4 := of_decide_eq_false b4
            exfalso
            have e1 : ev_il (xs 1).toInt64 2 6 = ev_wi (xs 1) 2 6 := ev_il_wi _ 2 6
            have e2 : ev_il (xs 2).toInt64 2 6 = ev_wi (xs 2) 2 6 := ev_il_wi _ 2 6
            first | exact b4 rfl | (subst_vars; exact b4 rfl) | (simp_all; done)
        · skip
          refine ev_seg (eo_grid_a_r53 xs  _ _) ?_
          refine ev_seg (eo_grid_a_r54 xs  _ _) ?_
          refine ev_seg (eo_grid_a_r55 xs  _ _) ?_
          refine ev_seg (eo_grid_a_r56 xs  _ _) ?_
          refine ev_seg (eo_grid_a_r57 xs  _ _) ?_
          refine ev_ret (eo_grid_a_r58 xs  _ _) ?_
          exact ⟨rfl, by omega, by omega⟩
    · skip
      obtain ⟨q146, hq146⟩ : ∃ z : Int32, ((xs 1) * (xs 2)) = z := ⟨_, rfl⟩
      have eq146 : r0 = some (.int q146) := hr0.trans (by subst hq146; rfl)
      subst eq146
      refine ev_seg (eo_grid_a_r59 xs x125 x126 x127 q146 _ _) ?_
      refine ev_seg (eo_grid_a_r60 xs x125 x126 x127 q146 _ _) ?_
      refine ev_seg (eo_grid_a_r61 xs x125 x126 x127 q146 _ _) ?_
      refine ev_seg (eo_grid_a_r62 xs x125 x126 x127 q146 _ _) ?_
      refine ev_seg (eo_grid_a_r63 xs x125 x126 x127 q146 _ _) ?_
      refine ev_seg (eo_grid_a_r64 xs x125 x126 x127 q146 _ _) ?_
      refine ev_seg (eo_grid_a_r65 xs x125 x126 x127 q146 _ _) ?_
      refine ev_seg (eo_grid_a_r66 xs x125 x126 x127 q146 _ _) ?_
      refine ev_if (eo_grid_a_r67 xs x125 x126 x127 q146 _ _) (fun b5 => ?_) (fun b5 => ?_)
      · replace b5 := of_decide_eq_true b5
        refine ev_call (eo_grid_a_r68 xs x125 x126 x127 q146 _ _) (em_grid0 (4, xs) (ev_sI (ev_sI (ev_sI (ev_sI (ev_sI (ev_sI (ev_sI (ev_sI ev_I0 1 (upd (upd (upd (upd (upd (upd (ev_I0 1) 3 (xs 1)) 4 (xs 2)) 5 0) 6 ((xs 1) * (xs 2))) 1 0) 2 0)) 3 (upd (ev_I0 3) 3 0)) 6 (upd (ev_I0 6) 4 0)) 8 (upd (ev_I0 8) 1 0)) 13 (upd (upd (ev_I0 13) 8 0) 9 0)) 20 (upd (ev_I0 20) 3 0)) 22 (upd (upd (ev_I0 22) 8 0) 11 (-1))) 33 x127) (ev_sJ (ev_sJ ev_J0 1 (vp_updL (vp_updL (vp_updL (ev_J0 1) 7 (((1 : Int64) <<< (((xs 1) * (xs 2)).toInt64 &&& 63)) - (1 : Int64))) 8 x125) 9 x126)) 8 (vp_updL (vp_updL (ev_J0 8) 2 0) 3 0)) ev_R0 [] (xs 1) (xs 2)) ?_
        rintro r0 _ _ _ (⟨d143, rfl, rfl, rfl, rfl⟩ | ⟨d144, d145, hr0, rfl, rfl, rfl⟩ | ⟨d146, d147, rfl, rfl, rfl, rfl⟩)
        · skip
          refine ev_if (eo_grid_a_r69 xs x125 x126 x127 q146 _ _) (fun b6 => ?_) (fun b6 => ?_)
          · replace b6 := of_decide_eq_true b6
            refine ev_seg (eo_grid_a_r70 xs x125 x126 x127 q146 _ _) ?_
            refine ev_seg (eo_grid_a_r71 xs x125 x126 x127 q146 _ _) ?_
            refine ev_seg (eo_grid_a_r72 xs x125 x126 x127 q146 _ _) ?_
            refine ev_seg (eo_grid_a_r73 xs x125 x126 x127 q146 _ _) ?_
            refine ev_ret (eo_grid_a_r74 xs x125 x126 x127 q146 _ _) ?_
            exact ⟨rfl, by omega, by omega⟩
          · replace b6 := of_decide_eq_false b6
            exfalso
            have e1 : ev_il (xs 1).toInt64 2 6 = ev_wi (xs 1) 2 6 := ev_il_wi _ 2 6
            have e2 : ev_il (xs 2).toInt64 2 6 = ev_wi (xs 2) 2 6 := ev_il_wi _ 2 6
            first | exact b6 rfl | (subst_vars; exact b6 rfl) | (simp_all; done)
        · skip
          obtain ⟨q149, hq149⟩ : ∃ z : Int32, (((xs 1) * (xs 2))) = z := ⟨_, rfl⟩
          have eq149 : r0 = some (.int q149) := hr0.trans (by subst hq149; rfl)
          subst eq149
          refine ev_if (eo_grid_a_r75 xs x125 x126 x127 q146 q149 _ _) (fun b7 => ?_) (fun b7 => ?_)
          · replace b7 := of_decide_eq_true b7
            refine ev_seg (eo_grid_a_r76 xs x125 x126 x127 q146 q149 _ _) ?_
            refine ev_seg (eo_grid_a_r77 xs x125 x126 x127 q146 q149 _ _) ?_
            refine ev_seg (eo_grid_a_r78 xs x125 x126 x127 q146 q149 _ _) ?_
            refine ev_seg (eo_grid_a_r79 xs x125 x126 x127 q146 q149 _ _) ?_
            refine ev_ret (eo_grid_a_r80 xs x125 x126 x127 q146 q149 _ _) ?_
            exact ⟨rfl, by omega, by omega⟩
          · replace b7 := of_decide_eq_false b7
            exfalso
            have e1 : ev_il (xs 1).toInt64 2 6 = ev_wi (xs 1) 2 6 := ev_il_wi _ 2 6
            have e2 : ev_il (xs 2).toInt64 2 6 = ev_wi (xs 2) 2 6 := ev_il_wi _ 2 6
            first | exact b7 rfl | (subst_vars; exact b7 rfl) | (simp_all; done)
        · skip
          refine ev_if (eo_grid_a_r81 xs x125 x126 x127 q146 _ _) (fun b8 => ?_) (fun b8 => ?_)
          · replace b8 := of_decide_eq_true b8
            refine ev_seg (eo_grid_a_r82 xs x125 x126 x127 q146 _ _) ?_
            refine ev_seg (eo_grid_a_r83 xs x125 x126 x127 q146 _ _) ?_
            refine ev_seg (eo_grid_a_r84 xs x125 x126 x127 q146 _ _) ?_
            refine ev_seg (eo_grid_a_r85 xs x125 x126 x127 q146 _ _) ?_
            refine ev_ret (eo_grid_a_r86 xs x125 x126 x127 q146 _ _) ?_
            exact ⟨rfl, by omega, by omega⟩
          · replace b8 := of_decide_eq_false b8
            exfalso
            have e1 : ev_il (xs 1).toInt64 2 6 = ev_wi (xs 1) 2 6 := ev_il_wi _ 2 6
            have e2 : ev_il (xs 2).toInt64 2 6 = ev_wi (xs 2) 2 6 := ev_il_wi _ 2 6
            first | exact b8 rfl | (subst_vars; exact b8 rfl) | (simp_all; done)
      · replace b5 := of_decide_eq_false b5
        refine ev_seg (eo_grid_a_r87 xs x125 x126 x127 q146 _ _) ?_
        refine ev_call (eo_grid_a_r88 xs x125 x126 x127 q146 _ _) (em_grid1 (4, xs) (ev_sI (ev_sI (ev_sI (ev_sI (ev_sI (ev_sI (ev_sI (ev_sI ev_I0 1 (upd (upd (upd (upd (upd (upd (ev_I0 1) 3 (xs 1)) 4 (xs 2)) 5 0) 6 ((xs 1) * (xs 2))) 1 0) 2 0)) 3 (upd (ev_I0 3) 3 0)) 6 (upd (ev_I0 6) 4 0)) 8 (upd (ev_I0 8) 1 0)) 13 (upd (upd (ev_I0 13) 8 0) 9 0)) 20 (upd (ev_I0 20) 3 0)) 22 (upd (upd (ev_I0 22) 8 0) 11 (-1))) 33 x127) (ev_sJ (ev_sJ ev_J0 1 (vp_updL (vp_updL (vp_updL (ev_J0 1) 7 (((1 : Int64) <<< (((xs 1) * (xs 2)).toInt64 &&& 63)) - (1 : Int64))) 8 x125) 9 x126)) 8 (vp_updL (vp_updL (ev_J0 8) 2 0) 3 0)) ev_R0 [] (xs 1) (xs 2)) ?_
        rintro r0 _ _ _ (⟨d148, rfl, rfl, rfl, rfl⟩ | ⟨d149, d150, hr0, rfl, rfl, rfl⟩ | ⟨d151, d152, rfl, rfl, rfl, rfl⟩)
        · skip
          refine ev_if (eo_grid_a_r89 xs x125 x126 x127 q146 _ _) (fun b9 => ?_) (fun b9 => ?_)
          · replace b9 := of_decide_eq_true b9
            refine ev_seg (eo_grid_a_r90 xs x125 x126 x127 q146 _ _) ?_
            refine ev_seg (eo_grid_a_r91 xs x125 x126 x127 q146 _ _) ?_
            refine ev_seg (eo_grid_a_r92 xs x125 x126 x127 q146 _ _) ?_
            refine ev_seg (eo_grid_a_r93 xs x125 x126 x127 q146 _ _) ?_
            refine ev_ret (eo_grid_a_r94 xs x125 x126 x127 q146 _ _) ?_
            exact ⟨rfl, by omega, by omega⟩
          · replace b9 := of_decide_eq_false b9
            exfalso
            have e1 : ev_il (xs 1).toInt64 2 6 = ev_wi (xs 1) 2 6 := ev_il_wi _ 2 6
            have e2 : ev_il (xs 2).toInt64 2 6 = ev_wi (xs 2) 2 6 := ev_il_wi _ 2 6
            first | exact b9 rfl | (subst_vars; exact b9 rfl) | (simp_all; done)
        · skip
          obtain ⟨q150, hq150⟩ : ∃ z : Int32, (((xs 1) * (xs 2))) = z := ⟨_, rfl⟩
          have eq150 : r0 = some (.int q150) := hr0.trans (by subst hq150; rfl)
          subst eq150
          refine ev_if (eo_grid_a_r95 xs x125 x126 x127 q146 q150 _ _) (fun b10 => ?_) (fun b10 => ?_)
          · replace b10 := of_decide_eq_true b10
            refine ev_seg (eo_grid_a_r96 xs x125 x126 x127 q146 q150 _ _) ?_
            refine ev_seg (eo_grid_a_r97 xs x125 x126 x127 q146 q150 _ _) ?_
            refine ev_seg (eo_grid_a_r98 xs x125 x126 x127 q146 q150 _ _) ?_
            refine ev_seg (eo_grid_a_r99 xs x125 x126 x127 q146 q150 _ _) ?_
            refine ev_ret (eo_grid_a_r100 xs x125 x126 x127 q146 q150 _ _) ?_
            exact ⟨rfl, by omega, by omega⟩
          · replace b10 := of_decide_eq_false b10
            exfalso
            have e1 : ev_il (xs 1).toInt64 2 6 = ev_wi (xs 1) 2 6 := ev_il_wi _ 2 6
            have e2 : ev_il (xs 2).toInt64 2 6 = ev_wi (xs 2) 2 6 := ev_il_wi _ 2 6
            first | exact b10 rfl | (subst_vars; exact b10 rfl) | (simp_all; done)
        · skip
          refine ev_if (eo_grid_a_r101 xs x125 x126 x127 q146 _ _) (fun b11 => ?_) (fun b11 => ?_)
          · replace b11 := of_decide_eq_true b11
            refine ev_seg (eo_grid_a_r102 xs x125 x126 x127 q146 _ _) ?_
            refine ev_seg (eo_grid_a_r103 xs x125 x126 x127 q146 _ _) ?_
            refine ev_seg (eo_grid_a_r104 xs x125 x126 x127 q146 _ _) ?_
            refine ev_seg (eo_grid_a_r105 xs x125 x126 x127 q146 _ _) ?_
            refine ev_ret (eo_grid_a_r106 xs x125 x126 x127 q146 _ _) ?_
            exact ⟨rfl, by omega, by omega⟩
          · replace b11 := of_decide_eq_false b11
            exfalso
            have e1 : ev_il (xs 1).toInt64 2 6 = ev_wi (xs 1) 2 6 := ev_il_wi _ 2 6
            have e2 : ev_il (xs 2).toInt64 2 6 = ev_wi (xs 2) 2 6 := ev_il_wi _ 2 6
            first | exact b11 rfl | (subst_vars; exact b11 rfl) | (simp_all; done)
    · skip
      refine ev_seg (eo_grid_a_r107 xs  _ _) ?_
      refine ev_seg (eo_grid_a_r108 xs  _ _) ?_
      refine ev_seg (eo_grid_a_r109 xs  _ _) ?_
      refine ev_seg (eo_grid_a_r110 xs  _ _) ?_
      refine ev_seg (eo_grid_a_r111 xs  _ _) ?_
      refine ev_seg (eo_grid_a_r112 xs  _ _) ?_
      refine ev_seg (eo_grid_a_r113 xs  _ _) ?_
      refine ev_seg (eo_grid_a_r114 xs  _ _) ?_
      refine ev_if (eo_grid_a_r115 xs  _ _) (fun b12 => ?_) (fun b12 => ?_)
      · replace b12 := of_decide_eq_true b12
        refine ev_call (eo_grid_a_r116 xs  _ _) (em_grid0 (4, xs) ev_I0 ev_J0 ev_R0 [] (xs 1) (xs 2)) ?_
        rintro r0 _ _ _ (⟨d153, rfl, rfl, rfl, rfl⟩ | ⟨d154, d155, hr0, rfl, rfl, rfl⟩ | ⟨d156, d157, rfl, rfl, rfl, rfl⟩)
        · skip
          refine ev_seg (eo_grid_a_r117 xs  _ _) ?_
          refine ev_seg (eo_grid_a_r118 xs  _ _) ?_
          refine ev_seg (eo_grid_a_r119 xs  _ _) ?_
          refine ev_seg (eo_grid_a_r120 xs  _ _) ?_
          refine ev_seg (eo_grid_a_r121 xs  _ _) ?_
          refine ev_ret (eo_grid_a_r122 xs  _ _) ?_
          exact ⟨rfl, by omega, by omega⟩
        · skip
          obtain ⟨q151, hq151⟩ : ∃ z : Int32, (((xs 1) * (xs 2))) = z := ⟨_, rfl⟩
          have eq151 : r0 = some (.int q151) := hr0.trans (by subst hq151; rfl)
          subst eq151
          refine ev_if (eo_grid_a_r123 xs q151 _ _) (fun b13 => ?_) (fun b13 => ?_)
          · replace b13 := of_decide_eq_true b13
            refine ev_seg (eo_grid_a_r124 xs q151 _ _) ?_
            refine ev_seg (eo_grid_a_r125 xs q151 _ _) ?_
            refine ev_seg (eo_grid_a_r126 xs q151 _ _) ?_
            refine ev_seg (eo_grid_a_r127 xs q151 _ _) ?_
            refine ev_ret (eo_grid_a_r128 xs q151 _ _) ?_
            exact ⟨rfl, by omega, by omega⟩
          · replace b13 := of_decide_eq_false b13
            exfalso
            have e1 : ev_il (xs 1).toInt64 2 6 = ev_wi (xs 1) 2 6 := ev_il_wi _ 2 6
            have e2 : ev_il (xs 2).toInt64 2 6 = ev_wi (xs 2) 2 6 := ev_il_wi _ 2 6
            first | exact b13 rfl | (subst_vars; exact b13 rfl) | (simp_all; done)
        · skip
          refine ev_seg (eo_grid_a_r129 xs  _ _) ?_
          refine ev_seg (eo_grid_a_r130 xs  _ _) ?_
          refine ev_seg (eo_grid_a_r131 xs  _ _) ?_
          refine ev_seg (eo_grid_a_r132 xs  _ _) ?_
          refine ev_seg (eo_grid_a_r133 xs  _ _) ?_
          refine ev_ret (eo_grid_a_r134 xs  _ _) ?_
          exact ⟨rfl, by omega, by omega⟩
      · replace b12 := of_decide_eq_false b12
        refine ev_seg (eo_grid_a_r135 xs  _ _) ?_
        refine ev_call (eo_grid_a_r136 xs  _ _) (em_grid1 (4, xs) ev_I0 ev_J0 ev_R0 [] (xs 1) (xs 2)) ?_
        rintro r0 _ _ _ (⟨d158, rfl, rfl, rfl, rfl⟩ | ⟨d159, d160, hr0, rfl, rfl, rfl⟩ | ⟨d161, d162, rfl, rfl, rfl, rfl⟩)
        · skip
          refine ev_seg (eo_grid_a_r137 xs  _ _) ?_
          refine ev_seg (eo_grid_a_r138 xs  _ _) ?_
          refine ev_seg (eo_grid_a_r139 xs  _ _) ?_
          refine ev_seg (eo_grid_a_r140 xs  _ _) ?_
          refine ev_seg (eo_grid_a_r141 xs  _ _) ?_
          refine ev_ret (eo_grid_a_r142 xs  _ _) ?_
          exact ⟨rfl, by omega, by omega⟩
        · skip
          obtain ⟨q152, hq152⟩ : ∃ z : Int32, (((xs 1) * (xs 2))) = z := ⟨_, rfl⟩
          have eq152 : r0 = some (.int q152) := hr0.trans (by subst hq152; rfl)
          subst eq152
          refine ev_if (eo_grid_a_r143 xs q152 _ _) (fun b14 => ?_) (fun b14 => ?_)
          · replace b14 := of_decide_eq_true b14
            refine ev_seg (eo_grid_a_r144 xs q152 _ _) ?_
            refine ev_seg (eo_grid_a_r145 xs q152 _ _) ?_
            refine ev_seg (eo_grid_a_r146 xs q152 _ _) ?_
            refine ev_seg (eo_grid_a_r147 xs q152 _ _) ?_
            refine ev_ret (eo_grid_a_r148 xs q152 _ _) ?_
            exact ⟨rfl, by omega, by omega⟩
          · replace b14 := of_decide_eq_false b14
            exfalso
            have e1 : ev_il (xs 1).toInt64 2 6 = ev_wi (xs 1) 2 6 := ev_il_wi _ 2 6
            have e2 : ev_il (xs 2).toInt64 2 6 = ev_wi (xs 2) 2 6 := ev_il_wi _ 2 6
            first | exact b14 rfl | (subst_vars; exact b14 rfl) | (simp_all; done)
        · skip
          refine ev_seg (eo_grid_a_r149 xs  _ _) ?_
          refine ev_seg (eo_grid_a_r150 xs  _ _) ?_
          refine ev_seg (eo_grid_a_r151 xs  _ _) ?_
          refine ev_seg (eo_grid_a_r152 xs  _ _) ?_
          refine ev_seg (eo_grid_a_r153 xs  _ _) ?_
          refine ev_ret (eo_grid_a_r154 xs  _ _) ?_
          exact ⟨rfl, by omega, by omega⟩
  · replace b1 := of_decide_eq_false b1
    refine ev_seg (eo_grid_a_r155 xs  _ _) ?_
    refine ev_call (eo_grid_a_r156 xs  _ _) (eg_grid1 (4, xs) ev_I0 ev_J0 ev_R0 [] (xs 1) (xs 2)) ?_
    rintro r0 _ _ _ (⟨d163, rfl, rfl, rfl, rfl⟩ | ⟨x164, x165, x166, hx166, d168, d169, hr0, rfl, rfl, rfl⟩ | ⟨d170, d171, rfl, rfl, rfl, rfl⟩)
    · skip
      refine ev_seg (eo_grid_a_r157 xs  _ _) ?_
      refine ev_seg (eo_grid_a_r158 xs  _ _) ?_
      refine ev_seg (eo_grid_a_r159 xs  _ _) ?_
      refine ev_seg (eo_grid_a_r160 xs  _ _) ?_
      refine ev_seg (eo_grid_a_r161 xs  _ _) ?_
      refine ev_seg (eo_grid_a_r162 xs  _ _) ?_
      refine ev_seg (eo_grid_a_r163 xs  _ _) ?_
      refine ev_seg (eo_grid_a_r164 xs  _ _) ?_
      refine ev_if (eo_grid_a_r165 xs  _ _) (fun b15 => ?_) (fun b15 => ?_)
      · replace b15 := of_decide_eq_true b15
        refine ev_call (eo_grid_a_r166 xs  _ _) (em_grid0 (4, xs) ev_I0 ev_J0 ev_R0 [] (xs 1) (xs 2)) ?_
        rintro r0 _ _ _ (⟨d172, rfl, rfl, rfl, rfl⟩ | ⟨d173, d174, hr0, rfl, rfl, rfl⟩ | ⟨d175, d176, rfl, rfl, rfl, rfl⟩)
        · skip
          refine ev_seg (eo_grid_a_r167 xs  _ _) ?_
          refine ev_seg (eo_grid_a_r168 xs  _ _) ?_
          refine ev_seg (eo_grid_a_r169 xs  _ _) ?_
          refine ev_seg (eo_grid_a_r170 xs  _ _) ?_
          refine ev_seg (eo_grid_a_r171 xs  _ _) ?_
          refine ev_ret (eo_grid_a_r172 xs  _ _) ?_
          exact ⟨rfl, by omega, by omega⟩
        · skip
          obtain ⟨q154, hq154⟩ : ∃ z : Int32, (((xs 1) * (xs 2))) = z := ⟨_, rfl⟩
          have eq154 : r0 = some (.int q154) := hr0.trans (by subst hq154; rfl)
          subst eq154
          refine ev_if (eo_grid_a_r173 xs q154 _ _) (fun b16 => ?_) (fun b16 => ?_)
          · replace b16 := of_decide_eq_true b16
            refine ev_seg (eo_grid_a_r174 xs q154 _ _) ?_
            refine ev_seg (eo_grid_a_r175 xs q154 _ _) ?_
            refine ev_seg (eo_grid_a_r176 xs q154 _ _) ?_
            refine ev_seg (eo_grid_a_r177 xs q154 _ _) ?_
            refine ev_ret (eo_grid_a_r178 xs q154 _ _) ?_
            exact ⟨rfl, by omega, by omega⟩
          · replace b16 := of_decide_eq_false b16
            exfalso
            have e1 : ev_il (xs 1).toInt64 2 6 = ev_wi (xs 1) 2 6 := ev_il_wi _ 2 6
            have e2 : ev_il (xs 2).toInt64 2 6 = ev_wi (xs 2) 2 6 := ev_il_wi _ 2 6
            first | exact b16 rfl | (subst_vars; exact b16 rfl) | (simp_all; done)
        · skip
          refine ev_seg (eo_grid_a_r179 xs  _ _) ?_
          refine ev_seg (eo_grid_a_r180 xs  _ _) ?_
          refine ev_seg (eo_grid_a_r181 xs  _ _) ?_
          refine ev_seg (eo_grid_a_r182 xs  _ _) ?_
          refine ev_seg (eo_grid_a_r183 xs  _ _) ?_
          refine ev_ret (eo_grid_a_r184 xs  _ _) ?_
          exact ⟨rfl, by omega, by omega⟩
      · replace b15 := of_decide_eq_false b15
        refine ev_seg (eo_grid_a_r185 xs  _ _) ?_
        refine ev_call (eo_grid_a_r186 xs  _ _) (em_grid1 (4, xs) ev_I0 ev_J0 ev_R0 [] (xs 1) (xs 2)) ?_
        rintro r0 _ _ _ (⟨d177, rfl, rfl, rfl, rfl⟩ | ⟨d178, d179, hr0, rfl, rfl, rfl⟩ | ⟨d180, d181, rfl, rfl, rfl, rfl⟩)
        · skip
          refine ev_seg (eo_grid_a_r187 xs  _ _) ?_
          refine ev_seg (eo_grid_a_r188 xs  _ _) ?_
          refine ev_seg (eo_grid_a_r189 xs  _ _) ?_
          refine ev_seg (eo_grid_a_r190 xs  _ _) ?_
          refine ev_seg (eo_grid_a_r191 xs  _ _) ?_
          refine ev_ret (eo_grid_a_r192 xs  _ _) ?_
          exact ⟨rfl, by omega, by omega⟩
        · skip
          obtain ⟨q155, hq155⟩ : ∃ z : Int32, (((xs 1) * (xs 2))) = z := ⟨_, rfl⟩
          have eq155 : r0 = some (.int q155) := hr0.trans (by subst hq155; rfl)
          subst eq155
          refine ev_if (eo_grid_a_r193 xs q155 _ _) (fun b17 => ?_) (fun b17 => ?_)
          · replace b17 := of_decide_eq_true b17
            refine ev_seg (eo_grid_a_r194 xs q155 _ _) ?_
            refine ev_seg (eo_grid_a_r195 xs q155 _ _) ?_
            refine ev_seg (eo_grid_a_r196 xs q155 _ _) ?_
            refine ev_seg (eo_grid_a_r197 xs q155 _ _) ?_
            refine ev_ret (eo_grid_a_r198 xs q155 _ _) ?_
            exact ⟨rfl, by omega, by omega⟩
          · replace b17 := of_decide_eq_false b17
            exfalso
            have e1 : ev_il (xs 1).toInt64 2 6 = ev_wi (xs 1) 2 6 := ev_il_wi _ 2 6
            have e2 : ev_il (xs 2).toInt64 2 6 = ev_wi (xs 2) 2 6 := ev_il_wi _ 2 6
            first | exact b17 rfl | (subst_vars; exact b17 rfl) | (simp_all; done)
        · skip
          refine ev_seg (eo_grid_a_r199 xs  _ _) ?_
          refine ev_seg (eo_grid_a_r200 xs  _ _) ?_
          refine ev_seg (eo_grid_a_r201 xs  _ _) ?_
          refine ev_seg (eo_grid_a_r202 xs  _ _) ?_
          refine ev_seg (eo_grid_a_r203 xs  _ _) ?_
          refine ev_ret (eo_grid_a_r204 xs  _ _) ?_
          exact ⟨rfl, by omega, by omega⟩
    · skip
      obtain ⟨q153, hq153⟩ : ∃ z : Int32, ((xs 1) * (xs 2)) = z := ⟨_, rfl⟩
      have eq153 : r0 = some (.int q153) := hr0.trans (by subst hq153; rfl)
      subst eq153
      refine ev_seg (eo_grid_a_r205 xs x164 x165 x166 q153 _ _) ?_
      refine ev_seg (eo_grid_a_r206 xs x164 x165 x166 q153 _ _) ?_
      refine ev_seg (eo_grid_a_r207 xs x164 x165 x166 q153 _ _) ?_
      refine ev_seg (eo_grid_a_r208 xs x164 x165 x166 q153 _ _) ?_
      refine ev_seg (eo_grid_a_r209 xs x164 x165 x166 q153 _ _) ?_
      refine ev_seg (eo_grid_a_r210 xs x164 x165 x166 q153 _ _) ?_
      refine ev_seg (eo_grid_a_r211 xs x164 x165 x166 q153 _ _) ?_
      refine ev_seg (eo_grid_a_r212 xs x164 x165 x166 q153 _ _) ?_
      refine ev_if (eo_grid_a_r213 xs x164 x165 x166 q153 _ _) (fun b18 => ?_) (fun b18 => ?_)
      · replace b18 := of_decide_eq_true b18
        refine ev_call (eo_grid_a_r214 xs x164 x165 x166 q153 _ _) (em_grid0 (4, xs) (ev_sI (ev_sI (ev_sI (ev_sI (ev_sI (ev_sI (ev_sI (ev_sI ev_I0 1 (upd (upd (upd (upd (upd (upd (ev_I0 1) 3 (xs 1)) 4 (xs 2)) 5 1) 6 ((xs 1) * (xs 2))) 1 0) 2 0)) 3 (upd (ev_I0 3) 3 0)) 6 (upd (ev_I0 6) 4 0)) 8 (upd (ev_I0 8) 1 0)) 13 (upd (upd (ev_I0 13) 8 0) 9 0)) 20 (upd (ev_I0 20) 3 0)) 22 (upd (upd (ev_I0 22) 8 0) 11 (-1))) 33 x166) (ev_sJ (ev_sJ ev_J0 1 (vp_updL (vp_updL (vp_updL (ev_J0 1) 7 (((1 : Int64) <<< (((xs 1) * (xs 2)).toInt64 &&& 63)) - (1 : Int64))) 8 x164) 9 x165)) 8 (vp_updL (vp_updL (ev_J0 8) 2 0) 3 0)) ev_R0 [] (xs 1) (xs 2)) ?_
        rintro r0 _ _ _ (⟨d182, rfl, rfl, rfl, rfl⟩ | ⟨d183, d184, hr0, rfl, rfl, rfl⟩ | ⟨d185, d186, rfl, rfl, rfl, rfl⟩)
        · skip
          refine ev_if (eo_grid_a_r215 xs x164 x165 x166 q153 _ _) (fun b19 => ?_) (fun b19 => ?_)
          · replace b19 := of_decide_eq_true b19
            refine ev_seg (eo_grid_a_r216 xs x164 x165 x166 q153 _ _) ?_
            refine ev_seg (eo_grid_a_r217 xs x164 x165 x166 q153 _ _) ?_
            refine ev_seg (eo_grid_a_r218 xs x164 x165 x166 q153 _ _) ?_
            refine ev_seg (eo_grid_a_r219 xs x164 x165 x166 q153 _ _) ?_
            refine ev_ret (eo_grid_a_r220 xs x164 x165 x166 q153 _ _) ?_
            exact ⟨rfl, by omega, by omega⟩
          · replace b19 := of_decide_eq_false b19
            exfalso
            have e1 : ev_il (xs 1).toInt64 2 6 = ev_wi (xs 1) 2 6 := ev_il_wi _ 2 6
            have e2 : ev_il (xs 2).toInt64 2 6 = ev_wi (xs 2) 2 6 := ev_il_wi _ 2 6
            first | exact b19 rfl | (subst_vars; exact b19 rfl) | (simp_all; done)
        · skip
          obtain ⟨q156, hq156⟩ : ∃ z : Int32, (((xs 1) * (xs 2))) = z := ⟨_, rfl⟩
          have eq156 : r0 = some (.int q156) := hr0.trans (by subst hq156; rfl)
          subst eq156
          refine ev_if (eo_grid_a_r221 xs x164 x165 x166 q153 q156 _ _) (fun b20 => ?_) (fun b20 => ?_)
          · replace b20 := of_decide_eq_true b20
            refine ev_seg (eo_grid_a_r222 xs x164 x165 x166 q153 q156 _ _) ?_
            refine ev_seg (eo_grid_a_r223 xs x164 x165 x166 q153 q156 _ _) ?_
            refine ev_seg (eo_grid_a_r224 xs x164 x165 x166 q153 q156 _ _) ?_
            refine ev_seg (eo_grid_a_r225 xs x164 x165 x166 q153 q156 _ _) ?_
            refine ev_ret (eo_grid_a_r226 xs x164 x165 x166 q153 q156 _ _) ?_
            exact ⟨rfl, by omega, by omega⟩
          · replace b20 := of_decide_eq_false b20
            exfalso
            have e1 : ev_il (xs 1).toInt64 2 6 = ev_wi (xs 1) 2 6 := ev_il_wi _ 2 6
            have e2 : ev_il (xs 2).toInt64 2 6 = ev_wi (xs 2) 2 6 := ev_il_wi _ 2 6
            first | exact b20 rfl | (subst_vars; exact b20 rfl) | (simp_all; done)
        · skip
          refine ev_if (eo_grid_a_r227 xs x164 x165 x166 q153 _ _) (fun b21 => ?_) (fun b21 => ?_)
          · replace b21 := of_decide_eq_true b21
            refine ev_seg (eo_grid_a_r228 xs x164 x165 x166 q153 _ _) ?_
            refine ev_seg (eo_grid_a_r229 xs x164 x165 x166 q153 _ _) ?_
            refine ev_seg (eo_grid_a_r230 xs x164 x165 x166 q153 _ _) ?_
            refine ev_seg (eo_grid_a_r231 xs x164 x165 x166 q153 _ _) ?_
            refine ev_ret (eo_grid_a_r232 xs x164 x165 x166 q153 _ _) ?_
            exact ⟨rfl, by omega, by omega⟩
          · replace b21 := of_decide_eq_false b21
            exfalso
            have e1 : ev_il (xs 1).toInt64 2 6 = ev_wi (xs 1) 2 6 := ev_il_wi _ 2 6
            have e2 : ev_il (xs 2).toInt64 2 6 = ev_wi (xs 2) 2 6 := ev_il_wi _ 2 6
            first | exact b21 rfl | (subst_vars; exact b21 rfl) | (simp_all; done)
      · replace b18 := of_decide_eq_false b18
        refine ev_seg (eo_grid_a_r233 xs x164 x165 x166 q153 _ _) ?_
        refine ev_call (eo_grid_a_r234 xs x164 x165 x166 q153 _ _) (em_grid1 (4, xs) (ev_sI (ev_sI (ev_sI (ev_sI (ev_sI (ev_sI (ev_sI (ev_sI ev_I0 1 (upd (upd (upd (upd (upd (upd (ev_I0 1) 3 (xs 1)) 4 (xs 2)) 5 1) 6 ((xs 1) * (xs 2))) 1 0) 2 0)) 3 (upd (ev_I0 3) 3 0)) 6 (upd (ev_I0 6) 4 0)) 8 (upd (ev_I0 8) 1 0)) 13 (upd (upd (ev_I0 13) 8 0) 9 0)) 20 (upd (ev_I0 20) 3 0)) 22 (upd (upd (ev_I0 22) 8 0) 11 (-1))) 33 x166) (ev_sJ (ev_sJ ev_J0 1 (vp_updL (vp_updL (vp_updL (ev_J0 1) 7 (((1 : Int64) <<< (((xs 1) * (xs 2)).toInt64 &&& 63)) - (1 : Int64))) 8 x164) 9 x165)) 8 (vp_updL (vp_updL (ev_J0 8) 2 0) 3 0)) ev_R0 [] (xs 1) (xs 2)) ?_
        rintro r0 _ _ _ (⟨d187, rfl, rfl, rfl, rfl⟩ | ⟨d188, d189, hr0, rfl, rfl, rfl⟩ | ⟨d190, d191, rfl, rfl, rfl, rfl⟩)
        · skip
          refine ev_if (eo_grid_a_r235 xs x164 x165 x166 q153 _ _) (fun b22 => ?_) (fun b22 => ?_)
          · replace b22 := of_decide_eq_true b22
            refine ev_seg (eo_grid_a_r236 xs x164 x165 x166 q153 _ _) ?_
            refine ev_seg (eo_grid_a_r237 xs x164 x165 x166 q153 _ _) ?_
            refine ev_seg (eo_grid_a_r238 xs x164 x165 x166 q153 _ _) ?_
            refine ev_seg (eo_grid_a_r239 xs x164 x165 x166 q153 _ _) ?_
            refine ev_ret (eo_grid_a_r240 xs x164 x165 x166 q153 _ _) ?_
            exact ⟨rfl, by omega, by omega⟩
          · replace b22 := of_decide_eq_false b22
            exfalso
            have e1 : ev_il (xs 1).toInt64 2 6 = ev_wi (xs 1) 2 6 := ev_il_wi _ 2 6
            have e2 : ev_il (xs 2).toInt64 2 6 = ev_wi (xs 2) 2 6 := ev_il_wi _ 2 6
            first | exact b22 rfl | (subst_vars; exact b22 rfl) | (simp_all; done)
        · skip
          obtain ⟨q157, hq157⟩ : ∃ z : Int32, (((xs 1) * (xs 2))) = z := ⟨_, rfl⟩
          have eq157 : r0 = some (.int q157) := hr0.trans (by subst hq157; rfl)
          subst eq157
          refine ev_if (eo_grid_a_r241 xs x164 x165 x166 q153 q157 _ _) (fun b23 => ?_) (fun b23 => ?_)
          · replace b23 := of_decide_eq_true b23
            refine ev_seg (eo_grid_a_r242 xs x164 x165 x166 q153 q157 _ _) ?_
            refine ev_seg (eo_grid_a_r243 xs x164 x165 x166 q153 q157 _ _) ?_
            refine ev_seg (eo_grid_a_r244 xs x164 x165 x166 q153 q157 _ _) ?_
            refine ev_seg (eo_grid_a_r245 xs x164 x165 x166 q153 q157 _ _) ?_
            refine ev_ret (eo_grid_a_r246 xs x164 x165 x166 q153 q157 _ _) ?_
            exact ⟨rfl, by omega, by omega⟩
          · replace b23 := of_decide_eq_false b23
            exfalso
            have e1 : ev_il (xs 1).toInt64 2 6 = ev_wi (xs 1) 2 6 := ev_il_wi _ 2 6
            have e2 : ev_il (xs 2).toInt64 2 6 = ev_wi (xs 2) 2 6 := ev_il_wi _ 2 6
            first | exact b23 rfl | (subst_vars; exact b23 rfl) | (simp_all; done)
        · skip
          refine ev_if (eo_grid_a_r247 xs x164 x165 x166 q153 _ _) (fun b24 => ?_) (fun b24 => ?_)
          · replace b24 := of_decide_eq_true b24
            refine ev_seg (eo_grid_a_r248 xs x164 x165 x166 q153 _ _) ?_
            refine ev_seg (eo_grid_a_r249 xs x164 x165 x166 q153 _ _) ?_
            refine ev_seg (eo_grid_a_r250 xs x164 x165 x166 q153 _ _) ?_
            refine ev_seg (eo_grid_a_r251 xs x164 x165 x166 q153 _ _) ?_
            refine ev_ret (eo_grid_a_r252 xs x164 x165 x166 q153 _ _) ?_
            exact ⟨rfl, by omega, by omega⟩
          · replace b24 := of_decide_eq_false b24
            exfalso
            have e1 : ev_il (xs 1).toInt64 2 6 = ev_wi (xs 1) 2 6 := ev_il_wi _ 2 6
            have e2 : ev_il (xs 2).toInt64 2 6 = ev_wi (xs 2) 2 6 := ev_il_wi _ 2 6
            first | exact b24 rfl | (subst_vars; exact b24 rfl) | (simp_all; done)
    · skip
      refine ev_seg (eo_grid_a_r253 xs  _ _) ?_
      refine ev_seg (eo_grid_a_r254 xs  _ _) ?_
      refine ev_seg (eo_grid_a_r255 xs  _ _) ?_
      refine ev_seg (eo_grid_a_r256 xs  _ _) ?_
      refine ev_seg (eo_grid_a_r257 xs  _ _) ?_
      refine ev_seg (eo_grid_a_r258 xs  _ _) ?_
      refine ev_seg (eo_grid_a_r259 xs  _ _) ?_
      refine ev_seg (eo_grid_a_r260 xs  _ _) ?_
      refine ev_if (eo_grid_a_r261 xs  _ _) (fun b25 => ?_) (fun b25 => ?_)
      · replace b25 := of_decide_eq_true b25
        refine ev_call (eo_grid_a_r262 xs  _ _) (em_grid0 (4, xs) ev_I0 ev_J0 ev_R0 [] (xs 1) (xs 2)) ?_
        rintro r0 _ _ _ (⟨d192, rfl, rfl, rfl, rfl⟩ | ⟨d193, d194, hr0, rfl, rfl, rfl⟩ | ⟨d195, d196, rfl, rfl, rfl, rfl⟩)
        · skip
          refine ev_seg (eo_grid_a_r263 xs  _ _) ?_
          refine ev_seg (eo_grid_a_r264 xs  _ _) ?_
          refine ev_seg (eo_grid_a_r265 xs  _ _) ?_
          refine ev_seg (eo_grid_a_r266 xs  _ _) ?_
          refine ev_seg (eo_grid_a_r267 xs  _ _) ?_
          refine ev_ret (eo_grid_a_r268 xs  _ _) ?_
          exact ⟨rfl, by omega, by omega⟩
        · skip
          obtain ⟨q158, hq158⟩ : ∃ z : Int32, (((xs 1) * (xs 2))) = z := ⟨_, rfl⟩
          have eq158 : r0 = some (.int q158) := hr0.trans (by subst hq158; rfl)
          subst eq158
          refine ev_if (eo_grid_a_r269 xs q158 _ _) (fun b26 => ?_) (fun b26 => ?_)
          · replace b26 := of_decide_eq_true b26
            refine ev_seg (eo_grid_a_r270 xs q158 _ _) ?_
            refine ev_seg (eo_grid_a_r271 xs q158 _ _) ?_
            refine ev_seg (eo_grid_a_r272 xs q158 _ _) ?_
            refine ev_seg (eo_grid_a_r273 xs q158 _ _) ?_
            refine ev_ret (eo_grid_a_r274 xs q158 _ _) ?_
            exact ⟨rfl, by omega, by omega⟩
          · replace b26 := of_decide_eq_false b26
            exfalso
            have e1 : ev_il (xs 1).toInt64 2 6 = ev_wi (xs 1) 2 6 := ev_il_wi _ 2 6
            have e2 : ev_il (xs 2).toInt64 2 6 = ev_wi (xs 2) 2 6 := ev_il_wi _ 2 6
            first | exact b26 rfl | (subst_vars; exact b26 rfl) | (simp_all; done)
        · skip
          refine ev_seg (eo_grid_a_r275 xs  _ _) ?_
          refine ev_seg (eo_grid_a_r276 xs  _ _) ?_
          refine ev_seg (eo_grid_a_r277 xs  _ _) ?_
          refine ev_seg (eo_grid_a_r278 xs  _ _) ?_
          refine ev_seg (eo_grid_a_r279 xs  _ _) ?_
          refine ev_ret (eo_grid_a_r280 xs  _ _) ?_
          exact ⟨rfl, by omega, by omega⟩
      · replace b25 := of_decide_eq_false b25
        refine ev_seg (eo_grid_a_r281 xs  _ _) ?_
        refine ev_call (eo_grid_a_r282 xs  _ _) (em_grid1 (4, xs) ev_I0 ev_J0 ev_R0 [] (xs 1) (xs 2)) ?_
        rintro r0 _ _ _ (⟨d197, rfl, rfl, rfl, rfl⟩ | ⟨d198, d199, hr0, rfl, rfl, rfl⟩ | ⟨d200, d201, rfl, rfl, rfl, rfl⟩)
        · skip
          refine ev_seg (eo_grid_a_r283 xs  _ _) ?_
          refine ev_seg (eo_grid_a_r284 xs  _ _) ?_
          refine ev_seg (eo_grid_a_r285 xs  _ _) ?_
          refine ev_seg (eo_grid_a_r286 xs  _ _) ?_
          refine ev_seg (eo_grid_a_r287 xs  _ _) ?_
          refine ev_ret (eo_grid_a_r288 xs  _ _) ?_
          exact ⟨rfl, by omega, by omega⟩
        · skip
          obtain ⟨q159, hq159⟩ : ∃ z : Int32, (((xs 1) * (xs 2))) = z := ⟨_, rfl⟩
          have eq159 : r0 = some (.int q159) := hr0.trans (by subst hq159; rfl)
          subst eq159
          refine ev_if (eo_grid_a_r289 xs q159 _ _) (fun b27 => ?_) (fun b27 => ?_)
          · replace b27 := of_decide_eq_true b27
            refine ev_seg (eo_grid_a_r290 xs q159 _ _) ?_
            refine ev_seg (eo_grid_a_r291 xs q159 _ _) ?_
            refine ev_seg (eo_grid_a_r292 xs q159 _ _) ?_
            refine ev_seg (eo_grid_a_r293 xs q159 _ _) ?_
            refine ev_ret (eo_grid_a_r294 xs q159 _ _) ?_
            exact ⟨rfl, by omega, by omega⟩
          · replace b27 := of_decide_eq_false b27
            exfalso
            have e1 : ev_il (xs 1).toInt64 2 6 = ev_wi (xs 1) 2 6 := ev_il_wi _ 2 6
            have e2 : ev_il (xs 2).toInt64 2 6 = ev_wi (xs 2) 2 6 := ev_il_wi _ 2 6
            first | exact b27 rfl | (subst_vars; exact b27 rfl) | (simp_all; done)
        · skip
          refine ev_seg (eo_grid_a_r295 xs  _ _) ?_
          refine ev_seg (eo_grid_a_r296 xs  _ _) ?_
          refine ev_seg (eo_grid_a_r297 xs  _ _) ?_
          refine ev_seg (eo_grid_a_r298 xs  _ _) ?_
          refine ev_seg (eo_grid_a_r299 xs  _ _) ?_
          refine ev_ret (eo_grid_a_r300 xs  _ _) ?_
          exact ⟨rfl, by omega, by omega⟩
