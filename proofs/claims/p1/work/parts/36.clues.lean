/-! Clues of the one empty laying of new objects. -/
theorem ev_at_z {g : Nat → Int64} (hg : ∀ j, g j = 0) {n : Nat} {i : Int32} : ev_atJ n g i = 0 := by
  unfold ev_atJ
  split
  · rfl
  · split
    · rfl
    · exact hg _
theorem ev_updz {g : Nat → Int64} (hg : ∀ j, g j = 0) {k : Nat} (j : Nat) : vp_updL g k 0 j = 0 := by
  unfold vp_updL
  split
  · rfl
  · exact hg j
theorem ev_hid0 (y : UInt64) : lg_cmp ((((0 : Int64).toUInt64 >>> y).toInt64) &&& (1 : Int64)) 0 = 0 := by
  rw [show (0 : Int64).toUInt64 = 0 from rfl, UInt64.zero_shiftRight]
  decide +kernel
theorem ev_nn {i b : Int32} (h0 : 0 ≤ i) (h : ¬ b ≤ i) : 0 ≤ i + 1 := by
  have h1 := Int32.le_iff_toInt_le.mp h0
  have e0 : (0 : Int32).toInt = 0 := by decide
  exact Int32.le_iff_toInt_le.mpr (by rw [ev_inc (Int32.not_le.mp h)]; omega)
theorem ev_bc63 (y : Int32) : 0 ≤ y &&& (63 : Int32) := by
  obtain ⟨n, hn⟩ : ∃ n : Nat, y = Int32.ofNat n := ⟨y.toBitVec.toNat, Int32.toBitVec_inj.mp (by show _ = BitVec.ofNat 32 _; simp)⟩
  rw [hn, show (63 : Int32) = Int32.ofNat 63 from rfl, sb_and]
  have h : n &&& 63 ≤ 63 := Nat.and_le_right
  have e0 : (0 : Int32).toInt = 0 := by decide
  exact Int32.le_iff_toInt_le.mpr (by rw [Int32.toInt_ofNat_of_lt (by omega)]; omega)
theorem ev_bc0 (x : Int32) : ev_bcI 0 ≤ ev_bcI x := by
  rw [show ev_bcI 0 = 0 from by decide +kernel]
  unfold ev_bcI
  exact ev_bc63 _
theorem ev_bc0z (x : Int32) : 0 ≤ ev_bcI x := by
  unfold ev_bcI
  exact ev_bc63 _
theorem ev_bitsF_nn (s : Int64) : ∀ (r : Nat) (k n : Int32), 0 ≤ n.toInt → n.toInt + r ≤ 36 → 0 ≤ (ev_bitsF s r k n).toInt := by
  intro r
  induction r with
  | zero => intro k n h _; exact h
  | succ r ih =>
    intro k n h h2
    show 0 ≤ (ev_bitsF s r (k + 1) (n + ev_has s k)).toInt
    have e0 : (0 : Int32).toInt = 0 := by decide
    have e1 : (1 : Int32).toInt = 1 := by decide
    have e2 : (n + ev_has s k).toInt = n.toInt + (ev_has s k).toInt := Jvm.Kit.i32_add (by rcases ev_has_01 s k with hz | hz <;> rw [hz] <;> omega) (by rcases ev_has_01 s k with hz | hz <;> rw [hz] <;> omega)
    refine ih _ _ ?_ ?_ <;> rw [e2] <;> rcases ev_has_01 s k with hz | hz <;> rw [hz] <;> omega
theorem ev_bits0 (x : Int64) : ev_bits 0 ≤ ev_bits x := by
  rw [show ev_bits 0 = 0 from by decide +kernel]
  have e0 : (0 : Int32).toInt = 0 := by decide
  exact Int32.le_iff_toInt_le.mpr (by rw [e0]; exact ev_bitsF_nn x 36 0 0 (by decide) (by decide))
theorem ev_bits0z (x : Int64) : 0 ≤ ev_bits x := by
  have h := ev_bits0 x
  rwa [show ev_bits 0 = 0 from by decide +kernel] at h
set_option maxRecDepth 100000 in
set_option maxHeartbeats 100000 in
theorem sp_c_220_sizeOf_r1 (X : ez_X)  (cz kz : Nat) : ∀ G : ez_F, fx_up X 6 G 94 0 [.ref 3, .int 0] [] (ev_hp ev_I0 ev_J0 ev_R0 []) cz kz = some (some (.int 1), (ev_hp ev_I0 ev_J0 ev_R0 []), cz, kz) := by
  intro G
  rfl
theorem sp_c_220_sizeOf (X : ez_X)  : ev_W X 94 0 (ez_lay [.ref 3, .int 0]) [] (ev_hp ev_I0 ev_J0 ev_R0 []) 0 0 (fun r h1 c1 k1 => r = (some (.int 1)) ∧ h1 = (ev_hp ev_I0 ev_J0 ev_R0 []) ∧ c1 = 0 ∧ k1 = 0) := by
  refine ev_ret (sp_c_220_sizeOf_r1 X  _ _) ?_
  exact ⟨rfl, rfl, rfl, rfl⟩
set_option maxRecDepth 100000 in
set_option maxHeartbeats 100000 in
theorem sp_c_221_sizeOf_r1 (X : ez_X)  (cz kz : Nat) : ∀ G : ez_F, fx_up X 6 G 94 0 [.ref 3, .int 1] [] (ev_hp ev_I0 ev_J0 ev_R0 []) cz kz = some (some (.int 1), (ev_hp ev_I0 ev_J0 ev_R0 []), cz, kz) := by
  intro G
  rfl
theorem sp_c_221_sizeOf (X : ez_X)  : ev_W X 94 0 (ez_lay [.ref 3, .int 1]) [] (ev_hp ev_I0 ev_J0 ev_R0 []) 0 0 (fun r h1 c1 k1 => r = (some (.int 1)) ∧ h1 = (ev_hp ev_I0 ev_J0 ev_R0 []) ∧ c1 = 0 ∧ k1 = 0) := by
  refine ev_ret (sp_c_221_sizeOf_r1 X  _ _) ?_
  exact ⟨rfl, rfl, rfl, rfl⟩
set_option maxRecDepth 100000 in
set_option maxHeartbeats 100000 in
theorem sp_c_222_sizeOf_r1 (X : ez_X)  (cz kz : Nat) : ∀ G : ez_F, fx_up X 6 G 94 0 [.ref 3, .int 2] [] (ev_hp ev_I0 ev_J0 ev_R0 []) cz kz = some (some (.int 1), (ev_hp ev_I0 ev_J0 ev_R0 []), cz, kz) := by
  intro G
  rfl
theorem sp_c_222_sizeOf (X : ez_X)  : ev_W X 94 0 (ez_lay [.ref 3, .int 2]) [] (ev_hp ev_I0 ev_J0 ev_R0 []) 0 0 (fun r h1 c1 k1 => r = (some (.int 1)) ∧ h1 = (ev_hp ev_I0 ev_J0 ev_R0 []) ∧ c1 = 0 ∧ k1 = 0) := by
  refine ev_ret (sp_c_222_sizeOf_r1 X  _ _) ?_
  exact ⟨rfl, rfl, rfl, rfl⟩
set_option maxRecDepth 100000 in
set_option maxHeartbeats 100000 in
theorem sp_c_219_combinations_r1 (X : ez_X)  (cz kz : Nat) : ∀ G : ez_F, fx_up X 3 G 89 0 [.ref 3] [] (ev_hp ev_I0 ev_J0 ev_R0 []) cz kz = ev_C G 94 [.ref 3, .int 0] (ev_hp ev_I0 ev_J0 ev_R0 []) fun r h1 c1 k1 => G 89 5 [.ref 3] (r.toList ++ []) h1 (cz + c1) (kz + k1) := by
  intro G
  rfl
set_option maxRecDepth 100000 in
set_option maxHeartbeats 100000 in
theorem sp_c_219_combinations_r2 (X : ez_X)  (cz kz : Nat) : ∀ G : ez_F, fx_up X 3 G 89 5 [.ref 3] [.int 1] (ev_hp ev_I0 ev_J0 ev_R0 []) cz kz = ev_C G 94 [.ref 3, .int 1] (ev_hp ev_I0 ev_J0 ev_R0 []) fun r h1 c1 k1 => G 89 10 [.ref 3] (r.toList ++ [.int 1]) h1 (cz + c1) (kz + k1) := by
  intro G
  rfl
set_option maxRecDepth 100000 in
set_option maxHeartbeats 100000 in
theorem sp_c_219_combinations_r3 (X : ez_X)  (cz kz : Nat) : ∀ G : ez_F, fx_up X 4 G 89 10 [.ref 3] [.int 1, .int 1] (ev_hp ev_I0 ev_J0 ev_R0 []) cz kz = ev_C G 94 [.ref 3, .int 2] (ev_hp ev_I0 ev_J0 ev_R0 []) fun r h1 c1 k1 => G 89 16 [.ref 3] (r.toList ++ [.int 1]) h1 (cz + c1) (kz + k1) := by
  intro G
  rfl
set_option maxRecDepth 100000 in
set_option maxHeartbeats 100000 in
theorem sp_c_219_combinations_r4 (X : ez_X)  (cz kz : Nat) : ∀ G : ez_F, fx_up X 2 G 89 16 [.ref 3] [.int 1, .int 1] (ev_hp ev_I0 ev_J0 ev_R0 []) cz kz = some (some (.int 1), (ev_hp ev_I0 ev_J0 ev_R0 []), cz, kz) := by
  intro G
  rfl
theorem sp_c_219_combinations (X : ez_X)  : ev_W X 89 0 (ez_lay [.ref 3]) [] (ev_hp ev_I0 ev_J0 ev_R0 []) 0 0 (fun r h1 c1 k1 => r = (some (.int 1)) ∧ h1 = (ev_hp ev_I0 ev_J0 ev_R0 []) ∧ c1 = 0 ∧ k1 = 0) := by
  refine ev_call (sp_c_219_combinations_r1 X  _ _) (sp_c_220_sizeOf X) ?_
  rintro _ _ _ _ ⟨rfl, rfl, rfl, rfl⟩
  refine ev_call (sp_c_219_combinations_r2 X  _ _) (sp_c_221_sizeOf X) ?_
  rintro _ _ _ _ ⟨rfl, rfl, rfl, rfl⟩
  refine ev_call (sp_c_219_combinations_r3 X  _ _) (sp_c_222_sizeOf X) ?_
  rintro _ _ _ _ ⟨rfl, rfl, rfl, rfl⟩
  refine ev_ret (sp_c_219_combinations_r4 X  _ _) ?_
  exact ⟨rfl, rfl, rfl, rfl⟩
set_option maxRecDepth 100000 in
set_option maxHeartbeats 100000 in
theorem sp_c_225_sizeOf_r1 (X : ez_X)  (cz kz : Nat) : ∀ G : ez_F, fx_up X 6 G 94 0 [.ref 3, .int 0] [] (ev_hp ev_I0 ev_J0 ev_R0 []) cz kz = some (some (.int 1), (ev_hp ev_I0 ev_J0 ev_R0 []), cz, kz) := by
  intro G
  rfl
theorem sp_c_225_sizeOf (X : ez_X)  : ev_W X 94 0 (ez_lay [.ref 3, .int 0]) [] (ev_hp ev_I0 ev_J0 ev_R0 []) 0 0 (fun r h1 c1 k1 => r = (some (.int 1)) ∧ h1 = (ev_hp ev_I0 ev_J0 ev_R0 []) ∧ c1 = 0 ∧ k1 = 0) := by
  refine ev_ret (sp_c_225_sizeOf_r1 X  _ _) ?_
  exact ⟨rfl, rfl, rfl, rfl⟩
set_option maxRecDepth 100000 in
set_option maxHeartbeats 100000 in
theorem sp_c_226_sizeOf_r1 (X : ez_X)  (cz kz : Nat) : ∀ G : ez_F, fx_up X 6 G 94 0 [.ref 3, .int 1] [] (ev_hp ev_I0 ev_J0 ev_R0 []) cz kz = some (some (.int 1), (ev_hp ev_I0 ev_J0 ev_R0 []), cz, kz) := by
  intro G
  rfl
theorem sp_c_226_sizeOf (X : ez_X)  : ev_W X 94 0 (ez_lay [.ref 3, .int 1]) [] (ev_hp ev_I0 ev_J0 ev_R0 []) 0 0 (fun r h1 c1 k1 => r = (some (.int 1)) ∧ h1 = (ev_hp ev_I0 ev_J0 ev_R0 []) ∧ c1 = 0 ∧ k1 = 0) := by
  refine ev_ret (sp_c_226_sizeOf_r1 X  _ _) ?_
  exact ⟨rfl, rfl, rfl, rfl⟩
set_option maxRecDepth 100000 in
set_option maxHeartbeats 100000 in
theorem sp_c_227_sizeOf_r1 (X : ez_X)  (cz kz : Nat) : ∀ G : ez_F, fx_up X 6 G 94 0 [.ref 3, .int 2] [] (ev_hp ev_I0 ev_J0 ev_R0 []) cz kz = some (some (.int 1), (ev_hp ev_I0 ev_J0 ev_R0 []), cz, kz) := by
  intro G
  rfl
theorem sp_c_227_sizeOf (X : ez_X)  : ev_W X 94 0 (ez_lay [.ref 3, .int 2]) [] (ev_hp ev_I0 ev_J0 ev_R0 []) 0 0 (fun r h1 c1 k1 => r = (some (.int 1)) ∧ h1 = (ev_hp ev_I0 ev_J0 ev_R0 []) ∧ c1 = 0 ∧ k1 = 0) := by
  refine ev_ret (sp_c_227_sizeOf_r1 X  _ _) ?_
  exact ⟨rfl, rfl, rfl, rfl⟩
set_option maxRecDepth 100000 in
set_option maxHeartbeats 100000 in
theorem sp_c_224_combinations_r1 (X : ez_X)  (cz kz : Nat) : ∀ G : ez_F, fx_up X 3 G 89 0 [.ref 3] [] (ev_hp ev_I0 ev_J0 ev_R0 []) cz kz = ev_C G 94 [.ref 3, .int 0] (ev_hp ev_I0 ev_J0 ev_R0 []) fun r h1 c1 k1 => G 89 5 [.ref 3] (r.toList ++ []) h1 (cz + c1) (kz + k1) := by
  intro G
  rfl
set_option maxRecDepth 100000 in
set_option maxHeartbeats 100000 in
theorem sp_c_224_combinations_r2 (X : ez_X)  (cz kz : Nat) : ∀ G : ez_F, fx_up X 3 G 89 5 [.ref 3] [.int 1] (ev_hp ev_I0 ev_J0 ev_R0 []) cz kz = ev_C G 94 [.ref 3, .int 1] (ev_hp ev_I0 ev_J0 ev_R0 []) fun r h1 c1 k1 => G 89 10 [.ref 3] (r.toList ++ [.int 1]) h1 (cz + c1) (kz + k1) := by
  intro G
  rfl
set_option maxRecDepth 100000 in
set_option maxHeartbeats 100000 in
theorem sp_c_224_combinations_r3 (X : ez_X)  (cz kz : Nat) : ∀ G : ez_F, fx_up X 4 G 89 10 [.ref 3] [.int 1, .int 1] (ev_hp ev_I0 ev_J0 ev_R0 []) cz kz = ev_C G 94 [.ref 3, .int 2] (ev_hp ev_I0 ev_J0 ev_R0 []) fun r h1 c1 k1 => G 89 16 [.ref 3] (r.toList ++ [.int 1]) h1 (cz + c1) (kz + k1) := by
  intro G
  rfl
set_option maxRecDepth 100000 in
set_option maxHeartbeats 100000 in
theorem sp_c_224_combinations_r4 (X : ez_X)  (cz kz : Nat) : ∀ G : ez_F, fx_up X 2 G 89 16 [.ref 3] [.int 1, .int 1] (ev_hp ev_I0 ev_J0 ev_R0 []) cz kz = some (some (.int 1), (ev_hp ev_I0 ev_J0 ev_R0 []), cz, kz) := by
  intro G
  rfl
theorem sp_c_224_combinations (X : ez_X)  : ev_W X 89 0 (ez_lay [.ref 3]) [] (ev_hp ev_I0 ev_J0 ev_R0 []) 0 0 (fun r h1 c1 k1 => r = (some (.int 1)) ∧ h1 = (ev_hp ev_I0 ev_J0 ev_R0 []) ∧ c1 = 0 ∧ k1 = 0) := by
  refine ev_call (sp_c_224_combinations_r1 X  _ _) (sp_c_225_sizeOf X) ?_
  rintro _ _ _ _ ⟨rfl, rfl, rfl, rfl⟩
  refine ev_call (sp_c_224_combinations_r2 X  _ _) (sp_c_226_sizeOf X) ?_
  rintro _ _ _ _ ⟨rfl, rfl, rfl, rfl⟩
  refine ev_call (sp_c_224_combinations_r3 X  _ _) (sp_c_227_sizeOf X) ?_
  rintro _ _ _ _ ⟨rfl, rfl, rfl, rfl⟩
  refine ev_ret (sp_c_224_combinations_r4 X  _ _) ?_
  exact ⟨rfl, rfl, rfl, rfl⟩
set_option maxRecDepth 100000 in
set_option maxHeartbeats 100000 in
theorem sp_c_228_grown_r1 (X : ez_X)  (cz kz : Nat) : ∀ G : ez_F, fx_up X 10 G 19 0 [.int 0, .int 1] [] (ev_hp (ev_sI ev_I0 6 (upd (upd (ev_I0 6) 4 1) 3 0)) ev_J0 ev_R0 []) cz kz = some (some (.int 1), (ev_hp (ev_sI ev_I0 6 (upd (upd (ev_I0 6) 4 1) 3 0)) ev_J0 ev_R0 []), cz, kz) := by
  intro G
  rfl
theorem sp_c_228_grown (X : ez_X)  : ev_W X 19 0 (ez_lay [.int 0, .int 1]) [] (ev_hp (ev_sI ev_I0 6 (upd (upd (ev_I0 6) 4 1) 3 0)) ev_J0 ev_R0 []) 0 0 (fun r h1 c1 k1 => r = (some (.int 1)) ∧ h1 = (ev_hp (ev_sI ev_I0 6 (upd (upd (ev_I0 6) 4 1) 3 0)) ev_J0 ev_R0 []) ∧ c1 = 0 ∧ k1 = 0) := by
  refine ev_ret (sp_c_228_grown_r1 X  _ _) ?_
  exact ⟨rfl, rfl, rfl, rfl⟩
set_option maxRecDepth 100000 in
set_option maxHeartbeats 100000 in
theorem sp_c_229_sizeOf_r1 (X : ez_X)  (cz kz : Nat) : ∀ G : ez_F, fx_up X 6 G 94 0 [.ref 3, .int 0] [] (ev_hp (ev_sI ev_I0 6 (upd (upd (ev_I0 6) 4 1) 3 0)) ev_J0 (ev_sR ev_R0 0 65) ([.inl (1, .inl (fun _ => 0))] : List ez_C)) cz kz = some (some (.int 1), (ev_hp (ev_sI ev_I0 6 (upd (upd (ev_I0 6) 4 1) 3 0)) ev_J0 (ev_sR ev_R0 0 65) ([.inl (1, .inl (fun _ => 0))] : List ez_C)), cz, kz) := by
  intro G
  rfl
theorem sp_c_229_sizeOf (X : ez_X)  : ev_W X 94 0 (ez_lay [.ref 3, .int 0]) [] (ev_hp (ev_sI ev_I0 6 (upd (upd (ev_I0 6) 4 1) 3 0)) ev_J0 (ev_sR ev_R0 0 65) ([.inl (1, .inl (fun _ => 0))] : List ez_C)) 0 0 (fun r h1 c1 k1 => r = (some (.int 1)) ∧ h1 = (ev_hp (ev_sI ev_I0 6 (upd (upd (ev_I0 6) 4 1) 3 0)) ev_J0 (ev_sR ev_R0 0 65) ([.inl (1, .inl (fun _ => 0))] : List ez_C)) ∧ c1 = 0 ∧ k1 = 0) := by
  refine ev_ret (sp_c_229_sizeOf_r1 X  _ _) ?_
  exact ⟨rfl, rfl, rfl, rfl⟩
set_option maxRecDepth 100000 in
set_option maxHeartbeats 100000 in
theorem sp_c_230_cellsAt_r1 (X : ez_X)  (cz kz : Nat) : ∀ G : ez_F, fx_up X 12 G 86 0 [.ref 3, .int 0, .int 0] [] (ev_hp (ev_sI ev_I0 6 (upd (upd (ev_I0 6) 4 1) 3 0)) ev_J0 (ev_sR ev_R0 0 65) ([.inl (1, .inl (fun _ => 0))] : List ez_C)) cz kz = some (some (.long 0), (ev_hp (ev_sI ev_I0 6 (upd (upd (ev_I0 6) 4 1) 3 0)) ev_J0 (ev_sR ev_R0 0 65) ([.inl (1, .inl (fun _ => 0))] : List ez_C)), cz, kz) := by
  intro G
  rfl
theorem sp_c_230_cellsAt (X : ez_X)  : ev_W X 86 0 (ez_lay [.ref 3, .int 0, .int 0]) [] (ev_hp (ev_sI ev_I0 6 (upd (upd (ev_I0 6) 4 1) 3 0)) ev_J0 (ev_sR ev_R0 0 65) ([.inl (1, .inl (fun _ => 0))] : List ez_C)) 0 0 (fun r h1 c1 k1 => r = (some (.long 0)) ∧ h1 = (ev_hp (ev_sI ev_I0 6 (upd (upd (ev_I0 6) 4 1) 3 0)) ev_J0 (ev_sR ev_R0 0 65) ([.inl (1, .inl (fun _ => 0))] : List ez_C)) ∧ c1 = 0 ∧ k1 = 0) := by
  refine ev_ret (sp_c_230_cellsAt_r1 X  _ _) ?_
  exact ⟨rfl, rfl, rfl, rfl⟩
set_option maxRecDepth 100000 in
set_option maxHeartbeats 100000 in
theorem sp_c_232_at_r1 (X : ez_X)  (cz kz : Nat) : ∀ G : ez_F, fx_up X 11 G 3 0 [.ref 2, .int 0] [] (ev_hp (ev_sI ev_I0 6 (upd (upd (ev_I0 6) 4 1) 3 0)) ev_J0 (ev_sR ev_R0 0 65) ([.inl (1, .inl (fun _ => 0))] : List ez_C)) cz kz = some (some (.int 0), (ev_hp (ev_sI ev_I0 6 (upd (upd (ev_I0 6) 4 1) 3 0)) ev_J0 (ev_sR ev_R0 0 65) ([.inl (1, .inl (fun _ => 0))] : List ez_C)), cz, kz) := by
  intro G
  rfl
theorem sp_c_232_at (X : ez_X)  : ev_W X 3 0 (ez_lay [.ref 2, .int 0]) [] (ev_hp (ev_sI ev_I0 6 (upd (upd (ev_I0 6) 4 1) 3 0)) ev_J0 (ev_sR ev_R0 0 65) ([.inl (1, .inl (fun _ => 0))] : List ez_C)) 0 0 (fun r h1 c1 k1 => r = (some (.int 0)) ∧ h1 = (ev_hp (ev_sI ev_I0 6 (upd (upd (ev_I0 6) 4 1) 3 0)) ev_J0 (ev_sR ev_R0 0 65) ([.inl (1, .inl (fun _ => 0))] : List ez_C)) ∧ c1 = 0 ∧ k1 = 0) := by
  refine ev_ret (sp_c_232_at_r1 X  _ _) ?_
  exact ⟨rfl, rfl, rfl, rfl⟩
set_option maxRecDepth 100000 in
set_option maxHeartbeats 100000 in
theorem sp_c_231_around_r1 (X : ez_X)  (cz kz : Nat) : ∀ G : ez_F, fx_up X 4 G 144 0 [.ref 1, .long 0, ez_fill] [] (ev_hp (ev_sI ev_I0 6 (upd (upd (ev_I0 6) 4 1) 3 0)) ev_J0 (ev_sR ev_R0 0 65) ([.inl (1, .inl (fun _ => 0))] : List ez_C)) cz kz = ev_C G 3 [.ref 2, .int 0] (ev_hp (ev_sI ev_I0 6 (upd (upd (ev_I0 6) 4 1) 3 0)) ev_J0 (ev_sR ev_R0 0 65) ([.inl (1, .inl (fun _ => 0))] : List ez_C)) fun r h1 c1 k1 => G 144 8 [.ref 1, .long 0, ez_fill] (r.toList ++ []) h1 (cz + c1) (kz + k1) := by
  intro G
  rfl
set_option maxRecDepth 100000 in
set_option maxHeartbeats 100000 in
theorem sp_c_231_around_r2 (X : ez_X)  (cz kz : Nat) : ∀ G : ez_F, fx_up X 5 G 144 8 [.ref 1, .long 0, ez_fill] [.int 0] (ev_hp (ev_sI ev_I0 6 (upd (upd (ev_I0 6) 4 1) 3 0)) ev_J0 (ev_sR ev_R0 0 65) ([.inl (1, .inl (fun _ => 0))] : List ez_C)) cz kz = some (some (.long 0), (ev_hp (ev_sI ev_I0 6 (upd (upd (ev_I0 6) 4 1) 3 0)) ev_J0 (ev_sR ev_R0 0 65) ([.inl (1, .inl (fun _ => 0))] : List ez_C)), cz, kz) := by
  intro G
  rfl
theorem sp_c_231_around (X : ez_X)  : ev_W X 144 0 (ez_lay [.ref 1, .long 0]) [] (ev_hp (ev_sI ev_I0 6 (upd (upd (ev_I0 6) 4 1) 3 0)) ev_J0 (ev_sR ev_R0 0 65) ([.inl (1, .inl (fun _ => 0))] : List ez_C)) 0 0 (fun r h1 c1 k1 => r = (some (.long 0)) ∧ h1 = (ev_hp (ev_sI ev_I0 6 (upd (upd (ev_I0 6) 4 1) 3 0)) ev_J0 (ev_sR ev_R0 0 65) ([.inl (1, .inl (fun _ => 0))] : List ez_C)) ∧ c1 = 0 ∧ k1 = 0) := by
  refine ev_call (sp_c_231_around_r1 X  _ _) (sp_c_232_at X) ?_
  rintro _ _ _ _ ⟨rfl, rfl, rfl, rfl⟩
  refine ev_ret (sp_c_231_around_r2 X  _ _) ?_
  exact ⟨rfl, rfl, rfl, rfl⟩
set_option maxRecDepth 100000 in
set_option maxHeartbeats 100000 in
theorem sp_c_234_sizeOf_r1 (X : ez_X)  (cz kz : Nat) : ∀ G : ez_F, fx_up X 6 G 94 0 [.ref 3, .int 1] [] (ev_hp (ev_sI ev_I0 6 (upd (upd (ev_I0 6) 4 1) 3 0)) ev_J0 (ev_sR ev_R0 0 65) ([.inl (1, .inl (fun _ => 0))] : List ez_C)) cz kz = some (some (.int 1), (ev_hp (ev_sI ev_I0 6 (upd (upd (ev_I0 6) 4 1) 3 0)) ev_J0 (ev_sR ev_R0 0 65) ([.inl (1, .inl (fun _ => 0))] : List ez_C)), cz, kz) := by
  intro G
  rfl
theorem sp_c_234_sizeOf (X : ez_X)  : ev_W X 94 0 (ez_lay [.ref 3, .int 1]) [] (ev_hp (ev_sI ev_I0 6 (upd (upd (ev_I0 6) 4 1) 3 0)) ev_J0 (ev_sR ev_R0 0 65) ([.inl (1, .inl (fun _ => 0))] : List ez_C)) 0 0 (fun r h1 c1 k1 => r = (some (.int 1)) ∧ h1 = (ev_hp (ev_sI ev_I0 6 (upd (upd (ev_I0 6) 4 1) 3 0)) ev_J0 (ev_sR ev_R0 0 65) ([.inl (1, .inl (fun _ => 0))] : List ez_C)) ∧ c1 = 0 ∧ k1 = 0) := by
  refine ev_ret (sp_c_234_sizeOf_r1 X  _ _) ?_
  exact ⟨rfl, rfl, rfl, rfl⟩
set_option maxRecDepth 100000 in
set_option maxHeartbeats 100000 in
theorem sp_c_235_cellsAt_r1 (X : ez_X)  (cz kz : Nat) : ∀ G : ez_F, fx_up X 12 G 86 0 [.ref 3, .int 1, .int 0] [] (ev_hp (ev_sI ev_I0 6 (upd (upd (ev_I0 6) 4 1) 3 0)) ev_J0 (ev_sR ev_R0 0 65) ([.inl (1, .inl (fun _ => 0))] : List ez_C)) cz kz = some (some (.long 0), (ev_hp (ev_sI ev_I0 6 (upd (upd (ev_I0 6) 4 1) 3 0)) ev_J0 (ev_sR ev_R0 0 65) ([.inl (1, .inl (fun _ => 0))] : List ez_C)), cz, kz) := by
  intro G
  rfl
theorem sp_c_235_cellsAt (X : ez_X)  : ev_W X 86 0 (ez_lay [.ref 3, .int 1, .int 0]) [] (ev_hp (ev_sI ev_I0 6 (upd (upd (ev_I0 6) 4 1) 3 0)) ev_J0 (ev_sR ev_R0 0 65) ([.inl (1, .inl (fun _ => 0))] : List ez_C)) 0 0 (fun r h1 c1 k1 => r = (some (.long 0)) ∧ h1 = (ev_hp (ev_sI ev_I0 6 (upd (upd (ev_I0 6) 4 1) 3 0)) ev_J0 (ev_sR ev_R0 0 65) ([.inl (1, .inl (fun _ => 0))] : List ez_C)) ∧ c1 = 0 ∧ k1 = 0) := by
  refine ev_ret (sp_c_235_cellsAt_r1 X  _ _) ?_
  exact ⟨rfl, rfl, rfl, rfl⟩
set_option maxRecDepth 100000 in
set_option maxHeartbeats 100000 in
theorem sp_c_237_at_r1 (X : ez_X)  (cz kz : Nat) : ∀ G : ez_F, fx_up X 11 G 3 0 [.ref 2, .int 0] [] (ev_hp (ev_sI ev_I0 6 (upd (upd (ev_I0 6) 4 1) 3 0)) ev_J0 (ev_sR ev_R0 0 65) ([.inl (1, .inl (fun _ => 0))] : List ez_C)) cz kz = some (some (.int 0), (ev_hp (ev_sI ev_I0 6 (upd (upd (ev_I0 6) 4 1) 3 0)) ev_J0 (ev_sR ev_R0 0 65) ([.inl (1, .inl (fun _ => 0))] : List ez_C)), cz, kz) := by
  intro G
  rfl
theorem sp_c_237_at (X : ez_X)  : ev_W X 3 0 (ez_lay [.ref 2, .int 0]) [] (ev_hp (ev_sI ev_I0 6 (upd (upd (ev_I0 6) 4 1) 3 0)) ev_J0 (ev_sR ev_R0 0 65) ([.inl (1, .inl (fun _ => 0))] : List ez_C)) 0 0 (fun r h1 c1 k1 => r = (some (.int 0)) ∧ h1 = (ev_hp (ev_sI ev_I0 6 (upd (upd (ev_I0 6) 4 1) 3 0)) ev_J0 (ev_sR ev_R0 0 65) ([.inl (1, .inl (fun _ => 0))] : List ez_C)) ∧ c1 = 0 ∧ k1 = 0) := by
  refine ev_ret (sp_c_237_at_r1 X  _ _) ?_
  exact ⟨rfl, rfl, rfl, rfl⟩
set_option maxRecDepth 100000 in
set_option maxHeartbeats 100000 in
theorem sp_c_236_around_r1 (X : ez_X)  (cz kz : Nat) : ∀ G : ez_F, fx_up X 4 G 144 0 [.ref 1, .long 0, ez_fill] [] (ev_hp (ev_sI ev_I0 6 (upd (upd (ev_I0 6) 4 1) 3 0)) ev_J0 (ev_sR ev_R0 0 65) ([.inl (1, .inl (fun _ => 0))] : List ez_C)) cz kz = ev_C G 3 [.ref 2, .int 0] (ev_hp (ev_sI ev_I0 6 (upd (upd (ev_I0 6) 4 1) 3 0)) ev_J0 (ev_sR ev_R0 0 65) ([.inl (1, .inl (fun _ => 0))] : List ez_C)) fun r h1 c1 k1 => G 144 8 [.ref 1, .long 0, ez_fill] (r.toList ++ []) h1 (cz + c1) (kz + k1) := by
  intro G
  rfl
set_option maxRecDepth 100000 in
set_option maxHeartbeats 100000 in
theorem sp_c_236_around_r2 (X : ez_X)  (cz kz : Nat) : ∀ G : ez_F, fx_up X 5 G 144 8 [.ref 1, .long 0, ez_fill] [.int 0] (ev_hp (ev_sI ev_I0 6 (upd (upd (ev_I0 6) 4 1) 3 0)) ev_J0 (ev_sR ev_R0 0 65) ([.inl (1, .inl (fun _ => 0))] : List ez_C)) cz kz = some (some (.long 0), (ev_hp (ev_sI ev_I0 6 (upd (upd (ev_I0 6) 4 1) 3 0)) ev_J0 (ev_sR ev_R0 0 65) ([.inl (1, .inl (fun _ => 0))] : List ez_C)), cz, kz) := by
  intro G
  rfl
theorem sp_c_236_around (X : ez_X)  : ev_W X 144 0 (ez_lay [.ref 1, .long 0]) [] (ev_hp (ev_sI ev_I0 6 (upd (upd (ev_I0 6) 4 1) 3 0)) ev_J0 (ev_sR ev_R0 0 65) ([.inl (1, .inl (fun _ => 0))] : List ez_C)) 0 0 (fun r h1 c1 k1 => r = (some (.long 0)) ∧ h1 = (ev_hp (ev_sI ev_I0 6 (upd (upd (ev_I0 6) 4 1) 3 0)) ev_J0 (ev_sR ev_R0 0 65) ([.inl (1, .inl (fun _ => 0))] : List ez_C)) ∧ c1 = 0 ∧ k1 = 0) := by
  refine ev_call (sp_c_236_around_r1 X  _ _) (sp_c_237_at X) ?_
  rintro _ _ _ _ ⟨rfl, rfl, rfl, rfl⟩
  refine ev_ret (sp_c_236_around_r2 X  _ _) ?_
  exact ⟨rfl, rfl, rfl, rfl⟩
set_option maxRecDepth 100000 in
set_option maxHeartbeats 100000 in
theorem sp_c_239_sizeOf_r1 (X : ez_X)  (cz kz : Nat) : ∀ G : ez_F, fx_up X 6 G 94 0 [.ref 3, .int 2] [] (ev_hp (ev_sI ev_I0 6 (upd (upd (ev_I0 6) 4 1) 3 0)) ev_J0 (ev_sR ev_R0 0 65) ([.inl (1, .inl (fun _ => 0))] : List ez_C)) cz kz = some (some (.int 1), (ev_hp (ev_sI ev_I0 6 (upd (upd (ev_I0 6) 4 1) 3 0)) ev_J0 (ev_sR ev_R0 0 65) ([.inl (1, .inl (fun _ => 0))] : List ez_C)), cz, kz) := by
  intro G
  rfl
theorem sp_c_239_sizeOf (X : ez_X)  : ev_W X 94 0 (ez_lay [.ref 3, .int 2]) [] (ev_hp (ev_sI ev_I0 6 (upd (upd (ev_I0 6) 4 1) 3 0)) ev_J0 (ev_sR ev_R0 0 65) ([.inl (1, .inl (fun _ => 0))] : List ez_C)) 0 0 (fun r h1 c1 k1 => r = (some (.int 1)) ∧ h1 = (ev_hp (ev_sI ev_I0 6 (upd (upd (ev_I0 6) 4 1) 3 0)) ev_J0 (ev_sR ev_R0 0 65) ([.inl (1, .inl (fun _ => 0))] : List ez_C)) ∧ c1 = 0 ∧ k1 = 0) := by
  refine ev_ret (sp_c_239_sizeOf_r1 X  _ _) ?_
  exact ⟨rfl, rfl, rfl, rfl⟩
set_option maxRecDepth 100000 in
set_option maxHeartbeats 100000 in
theorem sp_c_240_cellsAt_r1 (X : ez_X)  (cz kz : Nat) : ∀ G : ez_F, fx_up X 12 G 86 0 [.ref 3, .int 2, .int 0] [] (ev_hp (ev_sI ev_I0 6 (upd (upd (ev_I0 6) 4 1) 3 0)) ev_J0 (ev_sR ev_R0 0 65) ([.inl (1, .inl (fun _ => 0))] : List ez_C)) cz kz = some (some (.long 0), (ev_hp (ev_sI ev_I0 6 (upd (upd (ev_I0 6) 4 1) 3 0)) ev_J0 (ev_sR ev_R0 0 65) ([.inl (1, .inl (fun _ => 0))] : List ez_C)), cz, kz) := by
  intro G
  rfl
theorem sp_c_240_cellsAt (X : ez_X)  : ev_W X 86 0 (ez_lay [.ref 3, .int 2, .int 0]) [] (ev_hp (ev_sI ev_I0 6 (upd (upd (ev_I0 6) 4 1) 3 0)) ev_J0 (ev_sR ev_R0 0 65) ([.inl (1, .inl (fun _ => 0))] : List ez_C)) 0 0 (fun r h1 c1 k1 => r = (some (.long 0)) ∧ h1 = (ev_hp (ev_sI ev_I0 6 (upd (upd (ev_I0 6) 4 1) 3 0)) ev_J0 (ev_sR ev_R0 0 65) ([.inl (1, .inl (fun _ => 0))] : List ez_C)) ∧ c1 = 0 ∧ k1 = 0) := by
  refine ev_ret (sp_c_240_cellsAt_r1 X  _ _) ?_
  exact ⟨rfl, rfl, rfl, rfl⟩
set_option maxRecDepth 100000 in
set_option maxHeartbeats 100000 in
theorem sp_c_241_put_r1 (X : ez_X)  (cz kz : Nat) : ∀ G : ez_F, fx_up X 11 G 38 0 [.ref 65, .int 0, .int 0] [] (ev_hp (ev_sI ev_I0 6 (upd (upd (ev_I0 6) 4 1) 3 0)) ev_J0 (ev_sR ev_R0 0 65) ([.inl (1, .inl (fun _ => 0))] : List ez_C)) cz kz = some (none, (ev_hp (ev_sI ev_I0 6 (upd (upd (ev_I0 6) 4 1) 3 0)) ev_J0 (ev_sR ev_R0 0 65) ([.inl (1, .inl (upd (fun _ => 0) 0 0))] : List ez_C)), cz, kz) := by
  intro G
  rfl
theorem sp_c_241_put (X : ez_X)  : ev_W X 38 0 (ez_lay [.ref 65, .int 0, .int 0]) [] (ev_hp (ev_sI ev_I0 6 (upd (upd (ev_I0 6) 4 1) 3 0)) ev_J0 (ev_sR ev_R0 0 65) ([.inl (1, .inl (fun _ => 0))] : List ez_C)) 0 0 (fun r h1 c1 k1 => r = none ∧ h1 = (ev_hp (ev_sI ev_I0 6 (upd (upd (ev_I0 6) 4 1) 3 0)) ev_J0 (ev_sR ev_R0 0 65) ([.inl (1, .inl (upd (fun _ => 0) 0 0))] : List ez_C)) ∧ c1 = 0 ∧ k1 = 0) := by
  refine ev_ret (sp_c_241_put_r1 X  _ _) ?_
  exact ⟨rfl, rfl, rfl, rfl⟩
set_option maxRecDepth 100000 in
set_option maxHeartbeats 100000 in
theorem sp_c_238_searchThird_r1 (X : ez_X)  (cz kz : Nat) : ∀ G : ez_F, fx_up X 4 G 142 0 [.ref 6, .int 0, .long 0, ez_fill] [] (ev_hp (ev_sI ev_I0 6 (upd (upd (ev_I0 6) 4 1) 3 0)) ev_J0 (ev_sR ev_R0 0 65) ([.inl (1, .inl (fun _ => 0))] : List ez_C)) cz kz = ev_C G 94 [.ref 3, .int 2] (ev_hp (ev_sI ev_I0 6 (upd (upd (ev_I0 6) 4 1) 3 0)) ev_J0 (ev_sR ev_R0 0 65) ([.inl (1, .inl (fun _ => 0))] : List ez_C)) fun r h1 c1 k1 => G 142 8 [.ref 6, .int 0, .long 0, ez_fill] (r.toList ++ []) h1 (cz + c1) (kz + k1) := by
  intro G
  rfl
set_option maxRecDepth 100000 in
set_option maxHeartbeats 100000 in
theorem sp_c_238_searchThird_r2 (X : ez_X)  (cz kz : Nat) : ∀ G : ez_F, fx_up X 11 G 142 8 [.ref 6, .int 0, .long 0, ez_fill] [.int 1] (ev_hp (ev_sI ev_I0 6 (upd (upd (ev_I0 6) 4 1) 3 0)) ev_J0 (ev_sR ev_R0 0 65) ([.inl (1, .inl (fun _ => 0))] : List ez_C)) cz kz = ev_C G 86 [.ref 3, .int 2, .int 0] (ev_hp (ev_sI ev_I0 6 (upd (upd (ev_I0 6) 4 1) 3 0)) ev_J0 (ev_sR ev_R0 0 65) ([.inl (1, .inl (fun _ => 0))] : List ez_C)) fun r h1 c1 k1 => G 142 30 [.ref 6, .int 0, .long 0, ez_fill, .int 1, .int 0] (r.toList ++ []) h1 (cz + c1) (kz + k1) := by
  intro G
  rfl
set_option maxRecDepth 100000 in
set_option maxHeartbeats 100000 in
theorem sp_c_238_searchThird_r3 (X : ez_X)  (cz kz : Nat) : ∀ G : ez_F, fx_up X 15 G 142 30 [.ref 6, .int 0, .long 0, ez_fill, .int 1, .int 0] [.long 0] (ev_hp (ev_sI ev_I0 6 (upd (upd (ev_I0 6) 4 1) 3 0)) ev_J0 (ev_sR ev_R0 0 65) ([.inl (1, .inl (fun _ => 0))] : List ez_C)) cz kz = ev_C G 38 [.ref 65, .int 0, .int 0] (ev_hp (ev_sI ev_I0 6 (upd (upd (ev_I0 6) 4 1) 3 0)) ev_J0 (ev_sR ev_R0 0 65) ([.inl (1, .inl (fun _ => 0))] : List ez_C)) fun r h1 c1 k1 => G 142 55 [.ref 6, .int 0, .long 0, ez_fill, .int 1, .int 0] (r.toList ++ []) h1 (cz + c1) (kz + k1) := by
  intro G
  rfl
set_option maxRecDepth 100000 in
set_option maxHeartbeats 100000 in
theorem sp_c_238_searchThird_r4 (X : ez_X)  (cz kz : Nat) : ∀ G : ez_F, fx_up X 12 G 142 55 [.ref 6, .int 0, .long 0, ez_fill, .int 1, .int 0] [] (ev_hp (ev_sI ev_I0 6 (upd (upd (ev_I0 6) 4 1) 3 0)) ev_J0 (ev_sR ev_R0 0 65) ([.inl (1, .inl (upd (fun _ => 0) 0 0))] : List ez_C)) cz kz = some (none, (ev_hp (ev_sI ev_I0 6 (upd (upd (ev_I0 6) 4 1) 3 1)) ev_J0 (ev_sR ev_R0 0 65) ([.inl (1, .inl (upd (fun _ => 0) 0 0))] : List ez_C)), cz, kz) := by
  intro G
  rfl
theorem sp_c_238_searchThird (X : ez_X)  : ev_W X 142 0 (ez_lay [.ref 6, .int 0, .long 0]) [] (ev_hp (ev_sI ev_I0 6 (upd (upd (ev_I0 6) 4 1) 3 0)) ev_J0 (ev_sR ev_R0 0 65) ([.inl (1, .inl (fun _ => 0))] : List ez_C)) 0 0 (fun r h1 c1 k1 => r = none ∧ h1 = (ev_hp (ev_sI ev_I0 6 (upd (upd (ev_I0 6) 4 1) 3 1)) ev_J0 (ev_sR ev_R0 0 65) ([.inl (1, .inl (upd (fun _ => 0) 0 0))] : List ez_C)) ∧ c1 = 0 ∧ k1 = 0) := by
  refine ev_call (sp_c_238_searchThird_r1 X  _ _) (sp_c_239_sizeOf X) ?_
  rintro _ _ _ _ ⟨rfl, rfl, rfl, rfl⟩
  refine ev_call (sp_c_238_searchThird_r2 X  _ _) (sp_c_240_cellsAt X) ?_
  rintro _ _ _ _ ⟨rfl, rfl, rfl, rfl⟩
  refine ev_call (sp_c_238_searchThird_r3 X  _ _) (sp_c_241_put X) ?_
  rintro _ _ _ _ ⟨rfl, rfl, rfl, rfl⟩
  refine ev_ret (sp_c_238_searchThird_r4 X  _ _) ?_
  exact ⟨rfl, rfl, rfl, rfl⟩
set_option maxRecDepth 100000 in
set_option maxHeartbeats 100000 in
theorem sp_c_233_searchSecond_r1 (X : ez_X)  (cz kz : Nat) : ∀ G : ez_F, fx_up X 4 G 141 0 [.ref 6, .int 0, .long 0, ez_fill] [] (ev_hp (ev_sI ev_I0 6 (upd (upd (ev_I0 6) 4 1) 3 0)) ev_J0 (ev_sR ev_R0 0 65) ([.inl (1, .inl (fun _ => 0))] : List ez_C)) cz kz = ev_C G 94 [.ref 3, .int 1] (ev_hp (ev_sI ev_I0 6 (upd (upd (ev_I0 6) 4 1) 3 0)) ev_J0 (ev_sR ev_R0 0 65) ([.inl (1, .inl (fun _ => 0))] : List ez_C)) fun r h1 c1 k1 => G 141 8 [.ref 6, .int 0, .long 0, ez_fill] (r.toList ++ []) h1 (cz + c1) (kz + k1) := by
  intro G
  rfl
set_option maxRecDepth 100000 in
set_option maxHeartbeats 100000 in
theorem sp_c_233_searchSecond_r2 (X : ez_X)  (cz kz : Nat) : ∀ G : ez_F, fx_up X 11 G 141 8 [.ref 6, .int 0, .long 0, ez_fill] [.int 1] (ev_hp (ev_sI ev_I0 6 (upd (upd (ev_I0 6) 4 1) 3 0)) ev_J0 (ev_sR ev_R0 0 65) ([.inl (1, .inl (fun _ => 0))] : List ez_C)) cz kz = ev_C G 86 [.ref 3, .int 1, .int 0] (ev_hp (ev_sI ev_I0 6 (upd (upd (ev_I0 6) 4 1) 3 0)) ev_J0 (ev_sR ev_R0 0 65) ([.inl (1, .inl (fun _ => 0))] : List ez_C)) fun r h1 c1 k1 => G 141 30 [.ref 6, .int 0, .long 0, ez_fill, .int 1, .int 0] (r.toList ++ []) h1 (cz + c1) (kz + k1) := by
  intro G
  rfl
set_option maxRecDepth 100000 in
set_option maxHeartbeats 100000 in
theorem sp_c_233_searchSecond_r3 (X : ez_X)  (cz kz : Nat) : ∀ G : ez_F, fx_up X 18 G 141 30 [.ref 6, .int 0, .long 0, ez_fill, .int 1, .int 0] [.long 0] (ev_hp (ev_sI ev_I0 6 (upd (upd (ev_I0 6) 4 1) 3 0)) ev_J0 (ev_sR ev_R0 0 65) ([.inl (1, .inl (fun _ => 0))] : List ez_C)) cz kz = ev_C G 144 [.ref 1, .long 0] (ev_hp (ev_sI ev_I0 6 (upd (upd (ev_I0 6) 4 1) 3 0)) ev_J0 (ev_sR ev_R0 0 65) ([.inl (1, .inl (fun _ => 0))] : List ez_C)) fun r h1 c1 k1 => G 141 59 [.ref 6, .int 0, .long 0, ez_fill, .int 1, .int 0, .long 0, ez_fill] (r.toList ++ [.long 0, .int 0, .ref 6]) h1 (cz + c1) (kz + k1) := by
  intro G
  rfl
set_option maxRecDepth 100000 in
set_option maxHeartbeats 100000 in
theorem sp_c_233_searchSecond_r4 (X : ez_X)  (cz kz : Nat) : ∀ G : ez_F, fx_up X 2 G 141 59 [.ref 6, .int 0, .long 0, ez_fill, .int 1, .int 0, .long 0, ez_fill] [.long 0, .long 0, .int 0, .ref 6] (ev_hp (ev_sI ev_I0 6 (upd (upd (ev_I0 6) 4 1) 3 0)) ev_J0 (ev_sR ev_R0 0 65) ([.inl (1, .inl (fun _ => 0))] : List ez_C)) cz kz = ev_C G 142 [.ref 6, .int 0, .long 0] (ev_hp (ev_sI ev_I0 6 (upd (upd (ev_I0 6) 4 1) 3 0)) ev_J0 (ev_sR ev_R0 0 65) ([.inl (1, .inl (fun _ => 0))] : List ez_C)) fun r h1 c1 k1 => G 141 63 [.ref 6, .int 0, .long 0, ez_fill, .int 1, .int 0, .long 0, ez_fill] (r.toList ++ []) h1 (cz + c1) (kz + k1) := by
  intro G
  rfl
set_option maxRecDepth 100000 in
set_option maxHeartbeats 100000 in
theorem sp_c_233_searchSecond_r5 (X : ez_X)  (cz kz : Nat) : ∀ G : ez_F, fx_up X 6 G 141 63 [.ref 6, .int 0, .long 0, ez_fill, .int 1, .int 0, .long 0, ez_fill] [] (ev_hp (ev_sI ev_I0 6 (upd (upd (ev_I0 6) 4 1) 3 1)) ev_J0 (ev_sR ev_R0 0 65) ([.inl (1, .inl (upd (fun _ => 0) 0 0))] : List ez_C)) cz kz = some (none, (ev_hp (ev_sI ev_I0 6 (upd (upd (ev_I0 6) 4 1) 3 1)) ev_J0 (ev_sR ev_R0 0 65) ([.inl (1, .inl (upd (fun _ => 0) 0 0))] : List ez_C)), cz, kz) := by
  intro G
  rfl
theorem sp_c_233_searchSecond (X : ez_X)  : ev_W X 141 0 (ez_lay [.ref 6, .int 0, .long 0]) [] (ev_hp (ev_sI ev_I0 6 (upd (upd (ev_I0 6) 4 1) 3 0)) ev_J0 (ev_sR ev_R0 0 65) ([.inl (1, .inl (fun _ => 0))] : List ez_C)) 0 0 (fun r h1 c1 k1 => r = none ∧ h1 = (ev_hp (ev_sI ev_I0 6 (upd (upd (ev_I0 6) 4 1) 3 1)) ev_J0 (ev_sR ev_R0 0 65) ([.inl (1, .inl (upd (fun _ => 0) 0 0))] : List ez_C)) ∧ c1 = 0 ∧ k1 = 0) := by
  refine ev_call (sp_c_233_searchSecond_r1 X  _ _) (sp_c_234_sizeOf X) ?_
  rintro _ _ _ _ ⟨rfl, rfl, rfl, rfl⟩
  refine ev_call (sp_c_233_searchSecond_r2 X  _ _) (sp_c_235_cellsAt X) ?_
  rintro _ _ _ _ ⟨rfl, rfl, rfl, rfl⟩
  refine ev_call (sp_c_233_searchSecond_r3 X  _ _) (sp_c_236_around X) ?_
  rintro _ _ _ _ ⟨rfl, rfl, rfl, rfl⟩
  refine ev_call (sp_c_233_searchSecond_r4 X  _ _) (sp_c_238_searchThird X) ?_
  rintro _ _ _ _ ⟨rfl, rfl, rfl, rfl⟩
  refine ev_ret (sp_c_233_searchSecond_r5 X  _ _) ?_
  exact ⟨rfl, rfl, rfl, rfl⟩
set_option maxRecDepth 100000 in
set_option maxHeartbeats 100000 in
theorem sp_c_223_search_r1 (X : ez_X)  (cz kz : Nat) : ∀ G : ez_F, fx_up X 3 G 140 0 [.ref 6] [] (ev_hp ev_I0 ev_J0 ev_R0 []) cz kz = ev_C G 89 [.ref 3] (ev_hp ev_I0 ev_J0 ev_R0 []) fun r h1 c1 k1 => G 140 7 [.ref 6] (r.toList ++ []) h1 (cz + c1) (kz + k1) := by
  intro G
  rfl
set_option maxRecDepth 100000 in
set_option maxHeartbeats 100000 in
theorem sp_c_223_search_r2 (X : ez_X)  (cz kz : Nat) : ∀ G : ez_F, fx_up X 24 G 140 7 [.ref 6] [.int 1] (ev_hp ev_I0 ev_J0 ev_R0 []) cz kz = ev_C G 19 [.int 0, .int 1] (ev_hp (ev_sI ev_I0 6 (upd (upd (ev_I0 6) 4 1) 3 0)) ev_J0 ev_R0 []) fun r h1 c1 k1 => G 140 52 [.ref 6, .int 1] (r.toList ++ [.ref 6]) h1 (cz + c1) (kz + k1) := by
  intro G
  rfl
set_option maxRecDepth 100000 in
set_option maxHeartbeats 100000 in
theorem sp_c_223_search_r3 (X : ez_X)  (cz kz : Nat) : ∀ G : ez_F, fx_up X 6 G 140 52 [.ref 6, .int 1] [.int 1, .ref 6] (ev_hp (ev_sI ev_I0 6 (upd (upd (ev_I0 6) 4 1) 3 0)) ev_J0 ev_R0 []) cz kz = ev_C G 94 [.ref 3, .int 0] (ev_hp (ev_sI ev_I0 6 (upd (upd (ev_I0 6) 4 1) 3 0)) ev_J0 (ev_sR ev_R0 0 65) ([.inl (1, .inl (fun _ => 0))] : List ez_C)) fun r h1 c1 k1 => G 140 65 [.ref 6, .int 1] (r.toList ++ []) h1 ((cz + 1) + c1) ((kz + 1) + k1) := by
  intro G
  rfl
set_option maxRecDepth 100000 in
set_option maxHeartbeats 100000 in
theorem sp_c_223_search_r4 (X : ez_X)  (cz kz : Nat) : ∀ G : ez_F, fx_up X 15 G 140 65 [.ref 6, .int 1] [.int 1] (ev_hp (ev_sI ev_I0 6 (upd (upd (ev_I0 6) 4 1) 3 0)) ev_J0 (ev_sR ev_R0 0 65) ([.inl (1, .inl (fun _ => 0))] : List ez_C)) cz kz = ev_C G 86 [.ref 3, .int 0, .int 0] (ev_hp (ev_sI ev_I0 6 (upd (upd (ev_I0 6) 4 1) 3 0)) ev_J0 (ev_sR ev_R0 0 65) ([.inl (1, .inl (fun _ => 0))] : List ez_C)) fun r h1 c1 k1 => G 140 88 [.ref 6, .int 1, .int 1, .int 0] (r.toList ++ [.ref 1, .int 0, .ref 6]) h1 (cz + c1) (kz + k1) := by
  intro G
  rfl
set_option maxRecDepth 100000 in
set_option maxHeartbeats 100000 in
theorem sp_c_223_search_r5 (X : ez_X)  (cz kz : Nat) : ∀ G : ez_F, fx_up X 1 G 140 88 [.ref 6, .int 1, .int 1, .int 0] [.long 0, .ref 1, .int 0, .ref 6] (ev_hp (ev_sI ev_I0 6 (upd (upd (ev_I0 6) 4 1) 3 0)) ev_J0 (ev_sR ev_R0 0 65) ([.inl (1, .inl (fun _ => 0))] : List ez_C)) cz kz = ev_C G 144 [.ref 1, .long 0] (ev_hp (ev_sI ev_I0 6 (upd (upd (ev_I0 6) 4 1) 3 0)) ev_J0 (ev_sR ev_R0 0 65) ([.inl (1, .inl (fun _ => 0))] : List ez_C)) fun r h1 c1 k1 => G 140 91 [.ref 6, .int 1, .int 1, .int 0] (r.toList ++ [.int 0, .ref 6]) h1 (cz + c1) (kz + k1) := by
  intro G
  rfl
set_option maxRecDepth 100000 in
set_option maxHeartbeats 100000 in
theorem sp_c_223_search_r6 (X : ez_X)  (cz kz : Nat) : ∀ G : ez_F, fx_up X 1 G 140 91 [.ref 6, .int 1, .int 1, .int 0] [.long 0, .int 0, .ref 6] (ev_hp (ev_sI ev_I0 6 (upd (upd (ev_I0 6) 4 1) 3 0)) ev_J0 (ev_sR ev_R0 0 65) ([.inl (1, .inl (fun _ => 0))] : List ez_C)) cz kz = ev_C G 141 [.ref 6, .int 0, .long 0] (ev_hp (ev_sI ev_I0 6 (upd (upd (ev_I0 6) 4 1) 3 0)) ev_J0 (ev_sR ev_R0 0 65) ([.inl (1, .inl (fun _ => 0))] : List ez_C)) fun r h1 c1 k1 => G 140 94 [.ref 6, .int 1, .int 1, .int 0] (r.toList ++ []) h1 (cz + c1) (kz + k1) := by
  intro G
  rfl
set_option maxRecDepth 100000 in
set_option maxHeartbeats 100000 in
theorem sp_c_223_search_r7 (X : ez_X)  (cz kz : Nat) : ∀ G : ez_F, fx_up X 6 G 140 94 [.ref 6, .int 1, .int 1, .int 0] [] (ev_hp (ev_sI ev_I0 6 (upd (upd (ev_I0 6) 4 1) 3 1)) ev_J0 (ev_sR ev_R0 0 65) ([.inl (1, .inl (upd (fun _ => 0) 0 0))] : List ez_C)) cz kz = some (none, (ev_hp (ev_sI ev_I0 6 (upd (upd (ev_I0 6) 4 1) 3 1)) ev_J0 (ev_sR ev_R0 0 65) ([.inl (1, .inl (upd (fun _ => 0) 0 0))] : List ez_C)), cz, kz) := by
  intro G
  rfl
theorem sp_c_223_search (X : ez_X)  : ev_W X 140 0 (ez_lay [.ref 6]) [] (ev_hp ev_I0 ev_J0 ev_R0 []) 0 0 (fun r h1 c1 k1 => r = none ∧ h1 = (ev_hp (ev_sI ev_I0 6 (upd (upd (ev_I0 6) 4 1) 3 1)) ev_J0 (ev_sR ev_R0 0 65) ([.inl (1, .inl (upd (fun _ => 0) 0 0))] : List ez_C)) ∧ c1 = 1 ∧ k1 = 1) := by
  refine ev_call (sp_c_223_search_r1 X  _ _) (sp_c_224_combinations X) ?_
  rintro _ _ _ _ ⟨rfl, rfl, rfl, rfl⟩
  refine ev_call (sp_c_223_search_r2 X  _ _) (sp_c_228_grown X) ?_
  rintro _ _ _ _ ⟨rfl, rfl, rfl, rfl⟩
  refine ev_call (sp_c_223_search_r3 X  _ _) (sp_c_229_sizeOf X) ?_
  rintro _ _ _ _ ⟨rfl, rfl, rfl, rfl⟩
  refine ev_call (sp_c_223_search_r4 X  _ _) (sp_c_230_cellsAt X) ?_
  rintro _ _ _ _ ⟨rfl, rfl, rfl, rfl⟩
  refine ev_call (sp_c_223_search_r5 X  _ _) (sp_c_231_around X) ?_
  rintro _ _ _ _ ⟨rfl, rfl, rfl, rfl⟩
  refine ev_call (sp_c_223_search_r6 X  _ _) (sp_c_233_searchSecond X) ?_
  rintro _ _ _ _ ⟨rfl, rfl, rfl, rfl⟩
  refine ev_ret (sp_c_223_search_r7 X  _ _) ?_
  exact ⟨rfl, rfl, rfl, rfl⟩
set_option maxRecDepth 100000 in
set_option maxHeartbeats 100000 in
theorem sp_c_218_tooMany_r1 (X : ez_X)  (cz kz : Nat) : ∀ G : ez_F, fx_up X 3 G 52 0 [.ref 0] [] (ev_hp ev_I0 ev_J0 ev_R0 []) cz kz = ev_C G 89 [.ref 3] (ev_hp ev_I0 ev_J0 ev_R0 []) fun r h1 c1 k1 => G 52 7 [.ref 0] (r.toList ++ []) h1 (cz + c1) (kz + k1) := by
  intro G
  rfl
set_option maxRecDepth 100000 in
set_option maxHeartbeats 100000 in
theorem sp_c_218_tooMany_r2 (X : ez_X)  (cz kz : Nat) : ∀ G : ez_F, fx_up X 5 G 52 7 [.ref 0] [.int 1] (ev_hp ev_I0 ev_J0 ev_R0 []) cz kz = ev_C G 140 [.ref 6] (ev_hp ev_I0 ev_J0 ev_R0 []) fun r h1 c1 k1 => G 52 22 [.ref 0] (r.toList ++ []) h1 (cz + c1) (kz + k1) := by
  intro G
  rfl
set_option maxRecDepth 100000 in
set_option maxHeartbeats 100000 in
theorem sp_c_218_tooMany_r3 (X : ez_X)  (cz kz : Nat) : ∀ G : ez_F, fx_up X 2 G 52 22 [.ref 0] [] (ev_hp (ev_sI ev_I0 6 (upd (upd (ev_I0 6) 4 1) 3 1)) ev_J0 (ev_sR ev_R0 0 65) ([.inl (1, .inl (upd (fun _ => 0) 0 0))] : List ez_C)) cz kz = some (some (.int 0), (ev_hp (ev_sI ev_I0 6 (upd (upd (ev_I0 6) 4 1) 3 1)) ev_J0 (ev_sR ev_R0 0 65) ([.inl (1, .inl (upd (fun _ => 0) 0 0))] : List ez_C)), cz, kz) := by
  intro G
  rfl
theorem sp_c_218_tooMany (X : ez_X)  : ev_W X 52 0 (ez_lay [.ref 0]) [] (ev_hp ev_I0 ev_J0 ev_R0 []) 0 0 (fun r h1 c1 k1 => r = (some (.int 0)) ∧ h1 = (ev_hp (ev_sI ev_I0 6 (upd (upd (ev_I0 6) 4 1) 3 1)) ev_J0 (ev_sR ev_R0 0 65) ([.inl (1, .inl (upd (fun _ => 0) 0 0))] : List ez_C)) ∧ c1 = 1 ∧ k1 = 1) := by
  refine ev_call (sp_c_218_tooMany_r1 X  _ _) (sp_c_219_combinations X) ?_
  rintro _ _ _ _ ⟨rfl, rfl, rfl, rfl⟩
  refine ev_call (sp_c_218_tooMany_r2 X  _ _) (sp_c_223_search X) ?_
  rintro _ _ _ _ ⟨rfl, rfl, rfl, rfl⟩
  refine ev_ret (sp_c_218_tooMany_r3 X  _ _) ?_
  exact ⟨rfl, rfl, rfl, rfl⟩
set_option maxRecDepth 100000 in
set_option maxHeartbeats 100000 in
theorem sp_c_217_crowded_r1 (X : ez_X)  (cz kz : Nat) : ∀ G : ez_F, fx_up X 2 G 15 0 [.ref 0] [] (ev_hp ev_I0 ev_J0 ev_R0 []) cz kz = ev_C G 52 [.ref 0] (ev_hp ev_I0 ev_J0 ev_R0 []) fun r h1 c1 k1 => G 15 4 [.ref 0] (r.toList ++ []) h1 (cz + c1) (kz + k1) := by
  intro G
  rfl
set_option maxRecDepth 100000 in
set_option maxHeartbeats 100000 in
theorem sp_c_217_crowded_r2 (X : ez_X)  (cz kz : Nat) : ∀ G : ez_F, fx_up X 8 G 15 4 [.ref 0] [.int 0] (ev_hp (ev_sI ev_I0 6 (upd (upd (ev_I0 6) 4 1) 3 1)) ev_J0 (ev_sR ev_R0 0 65) ([.inl (1, .inl (upd (fun _ => 0) 0 0))] : List ez_C)) cz kz = some (some (.int 0), (ev_hp (ev_sI ev_I0 6 (upd (upd (ev_I0 6) 4 1) 3 1)) ev_J0 (ev_sR ev_R0 0 65) ([.inl (1, .inl (upd (fun _ => 0) 0 0))] : List ez_C)), cz, kz) := by
  intro G
  rfl
theorem sp_c_217_crowded (X : ez_X)  : ev_W X 15 0 (ez_lay [.ref 0]) [] (ev_hp ev_I0 ev_J0 ev_R0 []) 0 0 (fun r h1 c1 k1 => r = (some (.int 0)) ∧ h1 = (ev_hp (ev_sI ev_I0 6 (upd (upd (ev_I0 6) 4 1) 3 1)) ev_J0 (ev_sR ev_R0 0 65) ([.inl (1, .inl (upd (fun _ => 0) 0 0))] : List ez_C)) ∧ c1 = 1 ∧ k1 = 1) := by
  refine ev_call (sp_c_217_crowded_r1 X  _ _) (sp_c_218_tooMany X) ?_
  rintro _ _ _ _ ⟨rfl, rfl, rfl, rfl⟩
  refine ev_ret (sp_c_217_crowded_r2 X  _ _) ?_
  exact ⟨rfl, rfl, rfl, rfl⟩
set_option maxRecDepth 100000 in
set_option maxHeartbeats 100000 in
theorem ek_hid_r1 (X : ez_X) (s : Int32) (g : Nat → Int64) (cz kz : Nat) : ∀ G : ez_F, fx_up X 6 G 78 0 [.ref 32, .int s] [] (ev_hp (ev_sI ev_I0 6 (upd (upd (ev_I0 6) 4 1) 3 1)) (ev_sJ ev_J0 34 g) (ev_sR ev_R0 0 65) ([.inl (1, .inl (upd (fun _ => 0) 0 0))] : List ez_C)) cz kz = ev_C G 4 [.ref 34, .int (s >>> 6)] (ev_hp (ev_sI ev_I0 6 (upd (upd (ev_I0 6) 4 1) 3 1)) (ev_sJ ev_J0 34 g) (ev_sR ev_R0 0 65) ([.inl (1, .inl (upd (fun _ => 0) 0 0))] : List ez_C)) fun r h1 c1 k1 => G 78 11 [.ref 32, .int s] (r.toList ++ []) h1 (cz + c1) (kz + k1) := by
  intro G
  rfl
set_option maxRecDepth 100000 in
set_option maxHeartbeats 100000 in
theorem ek_hid_r2 (X : ez_X) (s : Int32) (g : Nat → Int64) (q160 : Int64) (cz kz : Nat) : ∀ G : ez_F, fx_up X 9 G 78 11 [.ref 32, .int s] [.long q160] (ev_hp (ev_sI ev_I0 6 (upd (upd (ev_I0 6) 4 1) 3 1)) (ev_sJ ev_J0 34 g) (ev_sR ev_R0 0 65) ([.inl (1, .inl (upd (fun _ => 0) 0 0))] : List ez_C)) cz kz = bif decide ((lg_cmp (((q160.toUInt64 >>> (((s &&& (63 : Int32)) : Int32).toInt64.toUInt64 &&& 63)).toInt64) &&& (1 : Int64)) 0) = 0) then G 78 27 [.ref 32, .int s] [] (ev_hp (ev_sI ev_I0 6 (upd (upd (ev_I0 6) 4 1) 3 1)) (ev_sJ ev_J0 34 g) (ev_sR ev_R0 0 65) ([.inl (1, .inl (upd (fun _ => 0) 0 0))] : List ez_C)) cz kz else G 78 23 [.ref 32, .int s] [] (ev_hp (ev_sI ev_I0 6 (upd (upd (ev_I0 6) 4 1) 3 1)) (ev_sJ ev_J0 34 g) (ev_sR ev_R0 0 65) ([.inl (1, .inl (upd (fun _ => 0) 0 0))] : List ez_C)) cz kz := by
  intro G
  rfl
set_option maxRecDepth 100000 in
set_option maxHeartbeats 100000 in
theorem ek_hid_r3 (X : ez_X) (s : Int32) (g : Nat → Int64) (q160 : Int64) (cz kz : Nat) : ∀ G : ez_F, fx_up X 2 G 78 27 [.ref 32, .int s] [] (ev_hp (ev_sI ev_I0 6 (upd (upd (ev_I0 6) 4 1) 3 1)) (ev_sJ ev_J0 34 g) (ev_sR ev_R0 0 65) ([.inl (1, .inl (upd (fun _ => 0) 0 0))] : List ez_C)) cz kz = some (some (.int 0), (ev_hp (ev_sI ev_I0 6 (upd (upd (ev_I0 6) 4 1) 3 1)) (ev_sJ ev_J0 34 g) (ev_sR ev_R0 0 65) ([.inl (1, .inl (upd (fun _ => 0) 0 0))] : List ez_C)), cz, kz) := by
  intro G
  rfl
theorem ek_hid (X : ez_X) (s : Int32) (g : Nat → Int64) (hg : ∀ j, g j = 0) : ev_W X 78 0 (ez_lay [.ref 32, .int s]) [] (ev_hp (ev_sI ev_I0 6 (upd (upd (ev_I0 6) 4 1) 3 1)) (ev_sJ ev_J0 34 g) (ev_sR ev_R0 0 65) ([.inl (1, .inl (upd (fun _ => 0) 0 0))] : List ez_C)) 0 0 (ev_is (some (.int 0)) (ev_hp (ev_sI ev_I0 6 (upd (upd (ev_I0 6) 4 1) 3 1)) (ev_sJ ev_J0 34 g) (ev_sR ev_R0 0 65) ([.inl (1, .inl (upd (fun _ => 0) 0 0))] : List ez_C))) := by
  refine ev_call (ek_hid_r1 X s g _ _) (ec_atJ X (ev_hp (ev_sI ev_I0 6 (upd (upd (ev_I0 6) 4 1) 3 1)) (ev_sJ ev_J0 34 g) (ev_sR ev_R0 0 65) ([.inl (1, .inl (upd (fun _ => 0) 0 0))] : List ez_C)) 64 34 (s >>> 6) g rfl (by decide)) ?_
  rintro _ _ _ _ ⟨rfl, rfl, rfl, rfl⟩
  generalize hq160 : ev_atJ 64 g (s >>> 6) = q160
  refine ev_if (ek_hid_r2 X s g q160 _ _) (fun b1 => ?_) (fun b1 => ?_)
  · replace b1 := of_decide_eq_true b1
    refine ev_ret (ek_hid_r3 X s g q160 _ _) ?_
    exact ⟨rfl, rfl, rfl, rfl⟩
  · replace b1 := of_decide_eq_false b1
    exact absurd (by rw [← hq160, ev_at_z hg]; exact ev_hid0 _) b1
set_option maxRecDepth 100000 in
set_option maxHeartbeats 100000 in
theorem sp_c_243_at_r1 (X : ez_X) (i : Int32) (g : Nat → Int64) (cz kz : Nat) : ∀ G : ez_F, fx_up X 11 G 3 0 [.ref 65, .int 0] [] (ev_hp (ev_sI ev_I0 6 (upd (upd (ev_I0 6) 4 1) 3 1)) (ev_sJ ev_J0 34 g) (ev_sR ev_R0 0 65) ([.inl (1, .inl (upd (fun _ => 0) 0 0))] : List ez_C)) cz kz = some (some (.int 0), (ev_hp (ev_sI ev_I0 6 (upd (upd (ev_I0 6) 4 1) 3 1)) (ev_sJ ev_J0 34 g) (ev_sR ev_R0 0 65) ([.inl (1, .inl (upd (fun _ => 0) 0 0))] : List ez_C)), cz, kz) := by
  intro G
  rfl
theorem sp_c_243_at (X : ez_X) (i : Int32) (g : Nat → Int64) : ev_W X 3 0 (ez_lay [.ref 65, .int 0]) [] (ev_hp (ev_sI ev_I0 6 (upd (upd (ev_I0 6) 4 1) 3 1)) (ev_sJ ev_J0 34 g) (ev_sR ev_R0 0 65) ([.inl (1, .inl (upd (fun _ => 0) 0 0))] : List ez_C)) 0 0 (fun r h1 c1 k1 => r = (some (.int 0)) ∧ h1 = (ev_hp (ev_sI ev_I0 6 (upd (upd (ev_I0 6) 4 1) 3 1)) (ev_sJ ev_J0 34 g) (ev_sR ev_R0 0 65) ([.inl (1, .inl (upd (fun _ => 0) 0 0))] : List ez_C)) ∧ c1 = 0 ∧ k1 = 0) := by
  refine ev_ret (sp_c_243_at_r1 X i g _ _) ?_
  exact ⟨rfl, rfl, rfl, rfl⟩
set_option maxRecDepth 100000 in
set_option maxHeartbeats 100000 in
theorem sp_c_245_spotIn_r1 (X : ez_X) (i : Int32) (g : Nat → Int64) (cz kz : Nat) : ∀ G : ez_F, fx_up X 10 G 45 0 [.int 0, .int 0] [] (ev_hp (ev_sI ev_I0 6 (upd (upd (ev_I0 6) 4 1) 3 1)) (ev_sJ ev_J0 34 g) (ev_sR ev_R0 0 65) ([.inl (1, .inl (upd (fun _ => 0) 0 0))] : List ez_C)) cz kz = some (some (.int 0), (ev_hp (ev_sI ev_I0 6 (upd (upd (ev_I0 6) 4 1) 3 1)) (ev_sJ ev_J0 34 g) (ev_sR ev_R0 0 65) ([.inl (1, .inl (upd (fun _ => 0) 0 0))] : List ez_C)), cz, kz) := by
  intro G
  rfl
theorem sp_c_245_spotIn (X : ez_X) (i : Int32) (g : Nat → Int64) : ev_W X 45 0 (ez_lay [.int 0, .int 0]) [] (ev_hp (ev_sI ev_I0 6 (upd (upd (ev_I0 6) 4 1) 3 1)) (ev_sJ ev_J0 34 g) (ev_sR ev_R0 0 65) ([.inl (1, .inl (upd (fun _ => 0) 0 0))] : List ez_C)) 0 0 (fun r h1 c1 k1 => r = (some (.int 0)) ∧ h1 = (ev_hp (ev_sI ev_I0 6 (upd (upd (ev_I0 6) 4 1) 3 1)) (ev_sJ ev_J0 34 g) (ev_sR ev_R0 0 65) ([.inl (1, .inl (upd (fun _ => 0) 0 0))] : List ez_C)) ∧ c1 = 0 ∧ k1 = 0) := by
  refine ev_ret (sp_c_245_spotIn_r1 X i g _ _) ?_
  exact ⟨rfl, rfl, rfl, rfl⟩
set_option maxRecDepth 100000 in
set_option maxHeartbeats 100000 in
theorem sp_c_244_cellsIn_r1 (X : ez_X) (i : Int32) (g : Nat → Int64) (cz kz : Nat) : ∀ G : ez_F, fx_up X 6 G 87 0 [.ref 3, .int 0, .int 0] [] (ev_hp (ev_sI ev_I0 6 (upd (upd (ev_I0 6) 4 1) 3 1)) (ev_sJ ev_J0 34 g) (ev_sR ev_R0 0 65) ([.inl (1, .inl (upd (fun _ => 0) 0 0))] : List ez_C)) cz kz = ev_C G 45 [.int 0, .int 0] (ev_hp (ev_sI ev_I0 6 (upd (upd (ev_I0 6) 4 1) 3 1)) (ev_sJ ev_J0 34 g) (ev_sR ev_R0 0 65) ([.inl (1, .inl (upd (fun _ => 0) 0 0))] : List ez_C)) fun r h1 c1 k1 => G 87 10 [.ref 3, .int 0, .int 0] (r.toList ++ [.int 0]) h1 (cz + c1) (kz + k1) := by
  intro G
  rfl
set_option maxRecDepth 100000 in
set_option maxHeartbeats 100000 in
theorem sp_c_244_cellsIn_r2 (X : ez_X) (i : Int32) (g : Nat → Int64) (cz kz : Nat) : ∀ G : ez_F, fx_up X 8 G 87 10 [.ref 3, .int 0, .int 0] [.int 0, .int 0] (ev_hp (ev_sI ev_I0 6 (upd (upd (ev_I0 6) 4 1) 3 1)) (ev_sJ ev_J0 34 g) (ev_sR ev_R0 0 65) ([.inl (1, .inl (upd (fun _ => 0) 0 0))] : List ez_C)) cz kz = some (some (.long 0), (ev_hp (ev_sI ev_I0 6 (upd (upd (ev_I0 6) 4 1) 3 1)) (ev_sJ ev_J0 34 g) (ev_sR ev_R0 0 65) ([.inl (1, .inl (upd (fun _ => 0) 0 0))] : List ez_C)), cz, kz) := by
  intro G
  rfl
theorem sp_c_244_cellsIn (X : ez_X) (i : Int32) (g : Nat → Int64) : ev_W X 87 0 (ez_lay [.ref 3, .int 0, .int 0]) [] (ev_hp (ev_sI ev_I0 6 (upd (upd (ev_I0 6) 4 1) 3 1)) (ev_sJ ev_J0 34 g) (ev_sR ev_R0 0 65) ([.inl (1, .inl (upd (fun _ => 0) 0 0))] : List ez_C)) 0 0 (fun r h1 c1 k1 => r = (some (.long 0)) ∧ h1 = (ev_hp (ev_sI ev_I0 6 (upd (upd (ev_I0 6) 4 1) 3 1)) (ev_sJ ev_J0 34 g) (ev_sR ev_R0 0 65) ([.inl (1, .inl (upd (fun _ => 0) 0 0))] : List ez_C)) ∧ c1 = 0 ∧ k1 = 0) := by
  refine ev_call (sp_c_244_cellsIn_r1 X i g _ _) (sp_c_245_spotIn X i g) ?_
  rintro _ _ _ _ ⟨rfl, rfl, rfl, rfl⟩
  refine ev_ret (sp_c_244_cellsIn_r2 X i g _ _) ?_
  exact ⟨rfl, rfl, rfl, rfl⟩
set_option maxRecDepth 100000 in
set_option maxHeartbeats 100000 in
theorem sp_c_247_spotIn_r1 (X : ez_X) (i : Int32) (g : Nat → Int64) (cz kz : Nat) : ∀ G : ez_F, fx_up X 10 G 45 0 [.int 0, .int 1] [] (ev_hp (ev_sI ev_I0 6 (upd (upd (ev_I0 6) 4 1) 3 1)) (ev_sJ ev_J0 34 g) (ev_sR ev_R0 0 65) ([.inl (1, .inl (upd (fun _ => 0) 0 0))] : List ez_C)) cz kz = some (some (.int 0), (ev_hp (ev_sI ev_I0 6 (upd (upd (ev_I0 6) 4 1) 3 1)) (ev_sJ ev_J0 34 g) (ev_sR ev_R0 0 65) ([.inl (1, .inl (upd (fun _ => 0) 0 0))] : List ez_C)), cz, kz) := by
  intro G
  rfl
theorem sp_c_247_spotIn (X : ez_X) (i : Int32) (g : Nat → Int64) : ev_W X 45 0 (ez_lay [.int 0, .int 1]) [] (ev_hp (ev_sI ev_I0 6 (upd (upd (ev_I0 6) 4 1) 3 1)) (ev_sJ ev_J0 34 g) (ev_sR ev_R0 0 65) ([.inl (1, .inl (upd (fun _ => 0) 0 0))] : List ez_C)) 0 0 (fun r h1 c1 k1 => r = (some (.int 0)) ∧ h1 = (ev_hp (ev_sI ev_I0 6 (upd (upd (ev_I0 6) 4 1) 3 1)) (ev_sJ ev_J0 34 g) (ev_sR ev_R0 0 65) ([.inl (1, .inl (upd (fun _ => 0) 0 0))] : List ez_C)) ∧ c1 = 0 ∧ k1 = 0) := by
  refine ev_ret (sp_c_247_spotIn_r1 X i g _ _) ?_
  exact ⟨rfl, rfl, rfl, rfl⟩
set_option maxRecDepth 100000 in
set_option maxHeartbeats 100000 in
theorem sp_c_246_cellsIn_r1 (X : ez_X) (i : Int32) (g : Nat → Int64) (cz kz : Nat) : ∀ G : ez_F, fx_up X 6 G 87 0 [.ref 3, .int 0, .int 1] [] (ev_hp (ev_sI ev_I0 6 (upd (upd (ev_I0 6) 4 1) 3 1)) (ev_sJ ev_J0 34 g) (ev_sR ev_R0 0 65) ([.inl (1, .inl (upd (fun _ => 0) 0 0))] : List ez_C)) cz kz = ev_C G 45 [.int 0, .int 1] (ev_hp (ev_sI ev_I0 6 (upd (upd (ev_I0 6) 4 1) 3 1)) (ev_sJ ev_J0 34 g) (ev_sR ev_R0 0 65) ([.inl (1, .inl (upd (fun _ => 0) 0 0))] : List ez_C)) fun r h1 c1 k1 => G 87 10 [.ref 3, .int 0, .int 1] (r.toList ++ [.int 288]) h1 (cz + c1) (kz + k1) := by
  intro G
  rfl
set_option maxRecDepth 100000 in
set_option maxHeartbeats 100000 in
theorem sp_c_246_cellsIn_r2 (X : ez_X) (i : Int32) (g : Nat → Int64) (cz kz : Nat) : ∀ G : ez_F, fx_up X 8 G 87 10 [.ref 3, .int 0, .int 1] [.int 0, .int 288] (ev_hp (ev_sI ev_I0 6 (upd (upd (ev_I0 6) 4 1) 3 1)) (ev_sJ ev_J0 34 g) (ev_sR ev_R0 0 65) ([.inl (1, .inl (upd (fun _ => 0) 0 0))] : List ez_C)) cz kz = some (some (.long 0), (ev_hp (ev_sI ev_I0 6 (upd (upd (ev_I0 6) 4 1) 3 1)) (ev_sJ ev_J0 34 g) (ev_sR ev_R0 0 65) ([.inl (1, .inl (upd (fun _ => 0) 0 0))] : List ez_C)), cz, kz) := by
  intro G
  rfl
theorem sp_c_246_cellsIn (X : ez_X) (i : Int32) (g : Nat → Int64) : ev_W X 87 0 (ez_lay [.ref 3, .int 0, .int 1]) [] (ev_hp (ev_sI ev_I0 6 (upd (upd (ev_I0 6) 4 1) 3 1)) (ev_sJ ev_J0 34 g) (ev_sR ev_R0 0 65) ([.inl (1, .inl (upd (fun _ => 0) 0 0))] : List ez_C)) 0 0 (fun r h1 c1 k1 => r = (some (.long 0)) ∧ h1 = (ev_hp (ev_sI ev_I0 6 (upd (upd (ev_I0 6) 4 1) 3 1)) (ev_sJ ev_J0 34 g) (ev_sR ev_R0 0 65) ([.inl (1, .inl (upd (fun _ => 0) 0 0))] : List ez_C)) ∧ c1 = 0 ∧ k1 = 0) := by
  refine ev_call (sp_c_246_cellsIn_r1 X i g _ _) (sp_c_247_spotIn X i g) ?_
  rintro _ _ _ _ ⟨rfl, rfl, rfl, rfl⟩
  refine ev_ret (sp_c_246_cellsIn_r2 X i g _ _) ?_
  exact ⟨rfl, rfl, rfl, rfl⟩
set_option maxRecDepth 100000 in
set_option maxHeartbeats 100000 in
theorem sp_c_249_spotIn_r1 (X : ez_X) (i : Int32) (g : Nat → Int64) (cz kz : Nat) : ∀ G : ez_F, fx_up X 10 G 45 0 [.int 0, .int 2] [] (ev_hp (ev_sI ev_I0 6 (upd (upd (ev_I0 6) 4 1) 3 1)) (ev_sJ ev_J0 34 g) (ev_sR ev_R0 0 65) ([.inl (1, .inl (upd (fun _ => 0) 0 0))] : List ez_C)) cz kz = some (some (.int 0), (ev_hp (ev_sI ev_I0 6 (upd (upd (ev_I0 6) 4 1) 3 1)) (ev_sJ ev_J0 34 g) (ev_sR ev_R0 0 65) ([.inl (1, .inl (upd (fun _ => 0) 0 0))] : List ez_C)), cz, kz) := by
  intro G
  rfl
theorem sp_c_249_spotIn (X : ez_X) (i : Int32) (g : Nat → Int64) : ev_W X 45 0 (ez_lay [.int 0, .int 2]) [] (ev_hp (ev_sI ev_I0 6 (upd (upd (ev_I0 6) 4 1) 3 1)) (ev_sJ ev_J0 34 g) (ev_sR ev_R0 0 65) ([.inl (1, .inl (upd (fun _ => 0) 0 0))] : List ez_C)) 0 0 (fun r h1 c1 k1 => r = (some (.int 0)) ∧ h1 = (ev_hp (ev_sI ev_I0 6 (upd (upd (ev_I0 6) 4 1) 3 1)) (ev_sJ ev_J0 34 g) (ev_sR ev_R0 0 65) ([.inl (1, .inl (upd (fun _ => 0) 0 0))] : List ez_C)) ∧ c1 = 0 ∧ k1 = 0) := by
  refine ev_ret (sp_c_249_spotIn_r1 X i g _ _) ?_
  exact ⟨rfl, rfl, rfl, rfl⟩
set_option maxRecDepth 100000 in
set_option maxHeartbeats 100000 in
theorem sp_c_248_cellsIn_r1 (X : ez_X) (i : Int32) (g : Nat → Int64) (cz kz : Nat) : ∀ G : ez_F, fx_up X 6 G 87 0 [.ref 3, .int 0, .int 2] [] (ev_hp (ev_sI ev_I0 6 (upd (upd (ev_I0 6) 4 1) 3 1)) (ev_sJ ev_J0 34 g) (ev_sR ev_R0 0 65) ([.inl (1, .inl (upd (fun _ => 0) 0 0))] : List ez_C)) cz kz = ev_C G 45 [.int 0, .int 2] (ev_hp (ev_sI ev_I0 6 (upd (upd (ev_I0 6) 4 1) 3 1)) (ev_sJ ev_J0 34 g) (ev_sR ev_R0 0 65) ([.inl (1, .inl (upd (fun _ => 0) 0 0))] : List ez_C)) fun r h1 c1 k1 => G 87 10 [.ref 3, .int 0, .int 2] (r.toList ++ [.int 576]) h1 (cz + c1) (kz + k1) := by
  intro G
  rfl
set_option maxRecDepth 100000 in
set_option maxHeartbeats 100000 in
theorem sp_c_248_cellsIn_r2 (X : ez_X) (i : Int32) (g : Nat → Int64) (cz kz : Nat) : ∀ G : ez_F, fx_up X 8 G 87 10 [.ref 3, .int 0, .int 2] [.int 0, .int 576] (ev_hp (ev_sI ev_I0 6 (upd (upd (ev_I0 6) 4 1) 3 1)) (ev_sJ ev_J0 34 g) (ev_sR ev_R0 0 65) ([.inl (1, .inl (upd (fun _ => 0) 0 0))] : List ez_C)) cz kz = some (some (.long 0), (ev_hp (ev_sI ev_I0 6 (upd (upd (ev_I0 6) 4 1) 3 1)) (ev_sJ ev_J0 34 g) (ev_sR ev_R0 0 65) ([.inl (1, .inl (upd (fun _ => 0) 0 0))] : List ez_C)), cz, kz) := by
  intro G
  rfl
theorem sp_c_248_cellsIn (X : ez_X) (i : Int32) (g : Nat → Int64) : ev_W X 87 0 (ez_lay [.ref 3, .int 0, .int 2]) [] (ev_hp (ev_sI ev_I0 6 (upd (upd (ev_I0 6) 4 1) 3 1)) (ev_sJ ev_J0 34 g) (ev_sR ev_R0 0 65) ([.inl (1, .inl (upd (fun _ => 0) 0 0))] : List ez_C)) 0 0 (fun r h1 c1 k1 => r = (some (.long 0)) ∧ h1 = (ev_hp (ev_sI ev_I0 6 (upd (upd (ev_I0 6) 4 1) 3 1)) (ev_sJ ev_J0 34 g) (ev_sR ev_R0 0 65) ([.inl (1, .inl (upd (fun _ => 0) 0 0))] : List ez_C)) ∧ c1 = 0 ∧ k1 = 0) := by
  refine ev_call (sp_c_248_cellsIn_r1 X i g _ _) (sp_c_249_spotIn X i g) ?_
  rintro _ _ _ _ ⟨rfl, rfl, rfl, rfl⟩
  refine ev_ret (sp_c_248_cellsIn_r2 X i g _ _) ?_
  exact ⟨rfl, rfl, rfl, rfl⟩
set_option maxRecDepth 100000 in
set_option maxHeartbeats 100000 in
theorem sp_c_242_cellsOf_r1 (X : ez_X) (i : Int32) (g : Nat → Int64) (cz kz : Nat) : ∀ G : ez_F, fx_up X 4 G 137 0 [.ref 6, .int 0] [] (ev_hp (ev_sI ev_I0 6 (upd (upd (ev_I0 6) 4 1) 3 1)) (ev_sJ ev_J0 34 g) (ev_sR ev_R0 0 65) ([.inl (1, .inl (upd (fun _ => 0) 0 0))] : List ez_C)) cz kz = ev_C G 3 [.ref 65, .int 0] (ev_hp (ev_sI ev_I0 6 (upd (upd (ev_I0 6) 4 1) 3 1)) (ev_sJ ev_J0 34 g) (ev_sR ev_R0 0 65) ([.inl (1, .inl (upd (fun _ => 0) 0 0))] : List ez_C)) fun r h1 c1 k1 => G 137 8 [.ref 6, .int 0] (r.toList ++ []) h1 (cz + c1) (kz + k1) := by
  intro G
  rfl
set_option maxRecDepth 100000 in
set_option maxHeartbeats 100000 in
theorem sp_c_242_cellsOf_r2 (X : ez_X) (i : Int32) (g : Nat → Int64) (cz kz : Nat) : ∀ G : ez_F, fx_up X 6 G 137 8 [.ref 6, .int 0] [.int 0] (ev_hp (ev_sI ev_I0 6 (upd (upd (ev_I0 6) 4 1) 3 1)) (ev_sJ ev_J0 34 g) (ev_sR ev_R0 0 65) ([.inl (1, .inl (upd (fun _ => 0) 0 0))] : List ez_C)) cz kz = ev_C G 87 [.ref 3, .int 0, .int 0] (ev_hp (ev_sI ev_I0 6 (upd (upd (ev_I0 6) 4 1) 3 1)) (ev_sJ ev_J0 34 g) (ev_sR ev_R0 0 65) ([.inl (1, .inl (upd (fun _ => 0) 0 0))] : List ez_C)) fun r h1 c1 k1 => G 137 18 [.ref 6, .int 0, .int 0] (r.toList ++ []) h1 (cz + c1) (kz + k1) := by
  intro G
  rfl
set_option maxRecDepth 100000 in
set_option maxHeartbeats 100000 in
theorem sp_c_242_cellsOf_r3 (X : ez_X) (i : Int32) (g : Nat → Int64) (cz kz : Nat) : ∀ G : ez_F, fx_up X 5 G 137 18 [.ref 6, .int 0, .int 0] [.long 0] (ev_hp (ev_sI ev_I0 6 (upd (upd (ev_I0 6) 4 1) 3 1)) (ev_sJ ev_J0 34 g) (ev_sR ev_R0 0 65) ([.inl (1, .inl (upd (fun _ => 0) 0 0))] : List ez_C)) cz kz = ev_C G 87 [.ref 3, .int 0, .int 1] (ev_hp (ev_sI ev_I0 6 (upd (upd (ev_I0 6) 4 1) 3 1)) (ev_sJ ev_J0 34 g) (ev_sR ev_R0 0 65) ([.inl (1, .inl (upd (fun _ => 0) 0 0))] : List ez_C)) fun r h1 c1 k1 => G 137 27 [.ref 6, .int 0, .int 0] (r.toList ++ [.long 0]) h1 (cz + c1) (kz + k1) := by
  intro G
  rfl
set_option maxRecDepth 100000 in
set_option maxHeartbeats 100000 in
theorem sp_c_242_cellsOf_r4 (X : ez_X) (i : Int32) (g : Nat → Int64) (cz kz : Nat) : ∀ G : ez_F, fx_up X 6 G 137 27 [.ref 6, .int 0, .int 0] [.long 0, .long 0] (ev_hp (ev_sI ev_I0 6 (upd (upd (ev_I0 6) 4 1) 3 1)) (ev_sJ ev_J0 34 g) (ev_sR ev_R0 0 65) ([.inl (1, .inl (upd (fun _ => 0) 0 0))] : List ez_C)) cz kz = ev_C G 87 [.ref 3, .int 0, .int 2] (ev_hp (ev_sI ev_I0 6 (upd (upd (ev_I0 6) 4 1) 3 1)) (ev_sJ ev_J0 34 g) (ev_sR ev_R0 0 65) ([.inl (1, .inl (upd (fun _ => 0) 0 0))] : List ez_C)) fun r h1 c1 k1 => G 137 37 [.ref 6, .int 0, .int 0] (r.toList ++ [.long 0]) h1 (cz + c1) (kz + k1) := by
  intro G
  rfl
set_option maxRecDepth 100000 in
set_option maxHeartbeats 100000 in
theorem sp_c_242_cellsOf_r5 (X : ez_X) (i : Int32) (g : Nat → Int64) (cz kz : Nat) : ∀ G : ez_F, fx_up X 2 G 137 37 [.ref 6, .int 0, .int 0] [.long 0, .long 0] (ev_hp (ev_sI ev_I0 6 (upd (upd (ev_I0 6) 4 1) 3 1)) (ev_sJ ev_J0 34 g) (ev_sR ev_R0 0 65) ([.inl (1, .inl (upd (fun _ => 0) 0 0))] : List ez_C)) cz kz = some (some (.long 0), (ev_hp (ev_sI ev_I0 6 (upd (upd (ev_I0 6) 4 1) 3 1)) (ev_sJ ev_J0 34 g) (ev_sR ev_R0 0 65) ([.inl (1, .inl (upd (fun _ => 0) 0 0))] : List ez_C)), cz, kz) := by
  intro G
  rfl
theorem sp_c_242_cellsOf (X : ez_X) (i : Int32) (g : Nat → Int64) : ev_W X 137 0 (ez_lay [.ref 6, .int 0]) [] (ev_hp (ev_sI ev_I0 6 (upd (upd (ev_I0 6) 4 1) 3 1)) (ev_sJ ev_J0 34 g) (ev_sR ev_R0 0 65) ([.inl (1, .inl (upd (fun _ => 0) 0 0))] : List ez_C)) 0 0 (fun r h1 c1 k1 => r = (some (.long 0)) ∧ h1 = (ev_hp (ev_sI ev_I0 6 (upd (upd (ev_I0 6) 4 1) 3 1)) (ev_sJ ev_J0 34 g) (ev_sR ev_R0 0 65) ([.inl (1, .inl (upd (fun _ => 0) 0 0))] : List ez_C)) ∧ c1 = 0 ∧ k1 = 0) := by
  refine ev_call (sp_c_242_cellsOf_r1 X i g _ _) (sp_c_243_at X i g) ?_
  rintro _ _ _ _ ⟨rfl, rfl, rfl, rfl⟩
  refine ev_call (sp_c_242_cellsOf_r2 X i g _ _) (sp_c_244_cellsIn X i g) ?_
  rintro _ _ _ _ ⟨rfl, rfl, rfl, rfl⟩
  refine ev_call (sp_c_242_cellsOf_r3 X i g _ _) (sp_c_246_cellsIn X i g) ?_
  rintro _ _ _ _ ⟨rfl, rfl, rfl, rfl⟩
  refine ev_call (sp_c_242_cellsOf_r4 X i g _ _) (sp_c_248_cellsIn X i g) ?_
  rintro _ _ _ _ ⟨rfl, rfl, rfl, rfl⟩
  refine ev_ret (sp_c_242_cellsOf_r5 X i g _ _) ?_
  exact ⟨rfl, rfl, rfl, rfl⟩
set_option maxRecDepth 100000 in
set_option maxHeartbeats 100000 in
theorem sp_c_251_at_r1 (X : ez_X) (i : Int32) (g : Nat → Int64) (cz kz : Nat) : ∀ G : ez_F, fx_up X 11 G 3 0 [.ref 65, .int 0] [] (ev_hp (ev_sI ev_I0 6 (upd (upd (ev_I0 6) 4 1) 3 1)) (ev_sJ ev_J0 34 g) (ev_sR ev_R0 0 65) ([.inl (1, .inl (upd (fun _ => 0) 0 0))] : List ez_C)) cz kz = some (some (.int 0), (ev_hp (ev_sI ev_I0 6 (upd (upd (ev_I0 6) 4 1) 3 1)) (ev_sJ ev_J0 34 g) (ev_sR ev_R0 0 65) ([.inl (1, .inl (upd (fun _ => 0) 0 0))] : List ez_C)), cz, kz) := by
  intro G
  rfl
theorem sp_c_251_at (X : ez_X) (i : Int32) (g : Nat → Int64) : ev_W X 3 0 (ez_lay [.ref 65, .int 0]) [] (ev_hp (ev_sI ev_I0 6 (upd (upd (ev_I0 6) 4 1) 3 1)) (ev_sJ ev_J0 34 g) (ev_sR ev_R0 0 65) ([.inl (1, .inl (upd (fun _ => 0) 0 0))] : List ez_C)) 0 0 (fun r h1 c1 k1 => r = (some (.int 0)) ∧ h1 = (ev_hp (ev_sI ev_I0 6 (upd (upd (ev_I0 6) 4 1) 3 1)) (ev_sJ ev_J0 34 g) (ev_sR ev_R0 0 65) ([.inl (1, .inl (upd (fun _ => 0) 0 0))] : List ez_C)) ∧ c1 = 0 ∧ k1 = 0) := by
  refine ev_ret (sp_c_251_at_r1 X i g _ _) ?_
  exact ⟨rfl, rfl, rfl, rfl⟩
set_option maxRecDepth 100000 in
set_option maxHeartbeats 100000 in
theorem sp_c_253_spotIn_r1 (X : ez_X) (i : Int32) (g : Nat → Int64) (cz kz : Nat) : ∀ G : ez_F, fx_up X 10 G 45 0 [.int 0, .int 0] [] (ev_hp (ev_sI ev_I0 6 (upd (upd (ev_I0 6) 4 1) 3 1)) (ev_sJ ev_J0 34 g) (ev_sR ev_R0 0 65) ([.inl (1, .inl (upd (fun _ => 0) 0 0))] : List ez_C)) cz kz = some (some (.int 0), (ev_hp (ev_sI ev_I0 6 (upd (upd (ev_I0 6) 4 1) 3 1)) (ev_sJ ev_J0 34 g) (ev_sR ev_R0 0 65) ([.inl (1, .inl (upd (fun _ => 0) 0 0))] : List ez_C)), cz, kz) := by
  intro G
  rfl
theorem sp_c_253_spotIn (X : ez_X) (i : Int32) (g : Nat → Int64) : ev_W X 45 0 (ez_lay [.int 0, .int 0]) [] (ev_hp (ev_sI ev_I0 6 (upd (upd (ev_I0 6) 4 1) 3 1)) (ev_sJ ev_J0 34 g) (ev_sR ev_R0 0 65) ([.inl (1, .inl (upd (fun _ => 0) 0 0))] : List ez_C)) 0 0 (fun r h1 c1 k1 => r = (some (.int 0)) ∧ h1 = (ev_hp (ev_sI ev_I0 6 (upd (upd (ev_I0 6) 4 1) 3 1)) (ev_sJ ev_J0 34 g) (ev_sR ev_R0 0 65) ([.inl (1, .inl (upd (fun _ => 0) 0 0))] : List ez_C)) ∧ c1 = 0 ∧ k1 = 0) := by
  refine ev_ret (sp_c_253_spotIn_r1 X i g _ _) ?_
  exact ⟨rfl, rfl, rfl, rfl⟩
set_option maxRecDepth 100000 in
set_option maxHeartbeats 100000 in
theorem sp_c_252_cellsIn_r1 (X : ez_X) (i : Int32) (g : Nat → Int64) (cz kz : Nat) : ∀ G : ez_F, fx_up X 6 G 87 0 [.ref 3, .int 0, .int 0] [] (ev_hp (ev_sI ev_I0 6 (upd (upd (ev_I0 6) 4 1) 3 1)) (ev_sJ ev_J0 34 g) (ev_sR ev_R0 0 65) ([.inl (1, .inl (upd (fun _ => 0) 0 0))] : List ez_C)) cz kz = ev_C G 45 [.int 0, .int 0] (ev_hp (ev_sI ev_I0 6 (upd (upd (ev_I0 6) 4 1) 3 1)) (ev_sJ ev_J0 34 g) (ev_sR ev_R0 0 65) ([.inl (1, .inl (upd (fun _ => 0) 0 0))] : List ez_C)) fun r h1 c1 k1 => G 87 10 [.ref 3, .int 0, .int 0] (r.toList ++ [.int 0]) h1 (cz + c1) (kz + k1) := by
  intro G
  rfl
set_option maxRecDepth 100000 in
set_option maxHeartbeats 100000 in
theorem sp_c_252_cellsIn_r2 (X : ez_X) (i : Int32) (g : Nat → Int64) (cz kz : Nat) : ∀ G : ez_F, fx_up X 8 G 87 10 [.ref 3, .int 0, .int 0] [.int 0, .int 0] (ev_hp (ev_sI ev_I0 6 (upd (upd (ev_I0 6) 4 1) 3 1)) (ev_sJ ev_J0 34 g) (ev_sR ev_R0 0 65) ([.inl (1, .inl (upd (fun _ => 0) 0 0))] : List ez_C)) cz kz = some (some (.long 0), (ev_hp (ev_sI ev_I0 6 (upd (upd (ev_I0 6) 4 1) 3 1)) (ev_sJ ev_J0 34 g) (ev_sR ev_R0 0 65) ([.inl (1, .inl (upd (fun _ => 0) 0 0))] : List ez_C)), cz, kz) := by
  intro G
  rfl
theorem sp_c_252_cellsIn (X : ez_X) (i : Int32) (g : Nat → Int64) : ev_W X 87 0 (ez_lay [.ref 3, .int 0, .int 0]) [] (ev_hp (ev_sI ev_I0 6 (upd (upd (ev_I0 6) 4 1) 3 1)) (ev_sJ ev_J0 34 g) (ev_sR ev_R0 0 65) ([.inl (1, .inl (upd (fun _ => 0) 0 0))] : List ez_C)) 0 0 (fun r h1 c1 k1 => r = (some (.long 0)) ∧ h1 = (ev_hp (ev_sI ev_I0 6 (upd (upd (ev_I0 6) 4 1) 3 1)) (ev_sJ ev_J0 34 g) (ev_sR ev_R0 0 65) ([.inl (1, .inl (upd (fun _ => 0) 0 0))] : List ez_C)) ∧ c1 = 0 ∧ k1 = 0) := by
  refine ev_call (sp_c_252_cellsIn_r1 X i g _ _) (sp_c_253_spotIn X i g) ?_
  rintro _ _ _ _ ⟨rfl, rfl, rfl, rfl⟩
  refine ev_ret (sp_c_252_cellsIn_r2 X i g _ _) ?_
  exact ⟨rfl, rfl, rfl, rfl⟩
set_option maxRecDepth 100000 in
set_option maxHeartbeats 100000 in
theorem sp_c_255_spotIn_r1 (X : ez_X) (i : Int32) (g : Nat → Int64) (cz kz : Nat) : ∀ G : ez_F, fx_up X 10 G 45 0 [.int 0, .int 1] [] (ev_hp (ev_sI ev_I0 6 (upd (upd (ev_I0 6) 4 1) 3 1)) (ev_sJ ev_J0 34 g) (ev_sR ev_R0 0 65) ([.inl (1, .inl (upd (fun _ => 0) 0 0))] : List ez_C)) cz kz = some (some (.int 0), (ev_hp (ev_sI ev_I0 6 (upd (upd (ev_I0 6) 4 1) 3 1)) (ev_sJ ev_J0 34 g) (ev_sR ev_R0 0 65) ([.inl (1, .inl (upd (fun _ => 0) 0 0))] : List ez_C)), cz, kz) := by
  intro G
  rfl
theorem sp_c_255_spotIn (X : ez_X) (i : Int32) (g : Nat → Int64) : ev_W X 45 0 (ez_lay [.int 0, .int 1]) [] (ev_hp (ev_sI ev_I0 6 (upd (upd (ev_I0 6) 4 1) 3 1)) (ev_sJ ev_J0 34 g) (ev_sR ev_R0 0 65) ([.inl (1, .inl (upd (fun _ => 0) 0 0))] : List ez_C)) 0 0 (fun r h1 c1 k1 => r = (some (.int 0)) ∧ h1 = (ev_hp (ev_sI ev_I0 6 (upd (upd (ev_I0 6) 4 1) 3 1)) (ev_sJ ev_J0 34 g) (ev_sR ev_R0 0 65) ([.inl (1, .inl (upd (fun _ => 0) 0 0))] : List ez_C)) ∧ c1 = 0 ∧ k1 = 0) := by
  refine ev_ret (sp_c_255_spotIn_r1 X i g _ _) ?_
  exact ⟨rfl, rfl, rfl, rfl⟩
set_option maxRecDepth 100000 in
set_option maxHeartbeats 100000 in
theorem sp_c_254_cellsIn_r1 (X : ez_X) (i : Int32) (g : Nat → Int64) (cz kz : Nat) : ∀ G : ez_F, fx_up X 6 G 87 0 [.ref 3, .int 0, .int 1] [] (ev_hp (ev_sI ev_I0 6 (upd (upd (ev_I0 6) 4 1) 3 1)) (ev_sJ ev_J0 34 g) (ev_sR ev_R0 0 65) ([.inl (1, .inl (upd (fun _ => 0) 0 0))] : List ez_C)) cz kz = ev_C G 45 [.int 0, .int 1] (ev_hp (ev_sI ev_I0 6 (upd (upd (ev_I0 6) 4 1) 3 1)) (ev_sJ ev_J0 34 g) (ev_sR ev_R0 0 65) ([.inl (1, .inl (upd (fun _ => 0) 0 0))] : List ez_C)) fun r h1 c1 k1 => G 87 10 [.ref 3, .int 0, .int 1] (r.toList ++ [.int 288]) h1 (cz + c1) (kz + k1) := by
  intro G
  rfl
set_option maxRecDepth 100000 in
set_option maxHeartbeats 100000 in
theorem sp_c_254_cellsIn_r2 (X : ez_X) (i : Int32) (g : Nat → Int64) (cz kz : Nat) : ∀ G : ez_F, fx_up X 8 G 87 10 [.ref 3, .int 0, .int 1] [.int 0, .int 288] (ev_hp (ev_sI ev_I0 6 (upd (upd (ev_I0 6) 4 1) 3 1)) (ev_sJ ev_J0 34 g) (ev_sR ev_R0 0 65) ([.inl (1, .inl (upd (fun _ => 0) 0 0))] : List ez_C)) cz kz = some (some (.long 0), (ev_hp (ev_sI ev_I0 6 (upd (upd (ev_I0 6) 4 1) 3 1)) (ev_sJ ev_J0 34 g) (ev_sR ev_R0 0 65) ([.inl (1, .inl (upd (fun _ => 0) 0 0))] : List ez_C)), cz, kz) := by
  intro G
  rfl
theorem sp_c_254_cellsIn (X : ez_X) (i : Int32) (g : Nat → Int64) : ev_W X 87 0 (ez_lay [.ref 3, .int 0, .int 1]) [] (ev_hp (ev_sI ev_I0 6 (upd (upd (ev_I0 6) 4 1) 3 1)) (ev_sJ ev_J0 34 g) (ev_sR ev_R0 0 65) ([.inl (1, .inl (upd (fun _ => 0) 0 0))] : List ez_C)) 0 0 (fun r h1 c1 k1 => r = (some (.long 0)) ∧ h1 = (ev_hp (ev_sI ev_I0 6 (upd (upd (ev_I0 6) 4 1) 3 1)) (ev_sJ ev_J0 34 g) (ev_sR ev_R0 0 65) ([.inl (1, .inl (upd (fun _ => 0) 0 0))] : List ez_C)) ∧ c1 = 0 ∧ k1 = 0) := by
  refine ev_call (sp_c_254_cellsIn_r1 X i g _ _) (sp_c_255_spotIn X i g) ?_
  rintro _ _ _ _ ⟨rfl, rfl, rfl, rfl⟩
  refine ev_ret (sp_c_254_cellsIn_r2 X i g _ _) ?_
  exact ⟨rfl, rfl, rfl, rfl⟩
set_option maxRecDepth 100000 in
set_option maxHeartbeats 100000 in
theorem sp_c_257_spotIn_r1 (X : ez_X) (i : Int32) (g : Nat → Int64) (cz kz : Nat) : ∀ G : ez_F, fx_up X 10 G 45 0 [.int 0, .int 2] [] (ev_hp (ev_sI ev_I0 6 (upd (upd (ev_I0 6) 4 1) 3 1)) (ev_sJ ev_J0 34 g) (ev_sR ev_R0 0 65) ([.inl (1, .inl (upd (fun _ => 0) 0 0))] : List ez_C)) cz kz = some (some (.int 0), (ev_hp (ev_sI ev_I0 6 (upd (upd (ev_I0 6) 4 1) 3 1)) (ev_sJ ev_J0 34 g) (ev_sR ev_R0 0 65) ([.inl (1, .inl (upd (fun _ => 0) 0 0))] : List ez_C)), cz, kz) := by
  intro G
  rfl
theorem sp_c_257_spotIn (X : ez_X) (i : Int32) (g : Nat → Int64) : ev_W X 45 0 (ez_lay [.int 0, .int 2]) [] (ev_hp (ev_sI ev_I0 6 (upd (upd (ev_I0 6) 4 1) 3 1)) (ev_sJ ev_J0 34 g) (ev_sR ev_R0 0 65) ([.inl (1, .inl (upd (fun _ => 0) 0 0))] : List ez_C)) 0 0 (fun r h1 c1 k1 => r = (some (.int 0)) ∧ h1 = (ev_hp (ev_sI ev_I0 6 (upd (upd (ev_I0 6) 4 1) 3 1)) (ev_sJ ev_J0 34 g) (ev_sR ev_R0 0 65) ([.inl (1, .inl (upd (fun _ => 0) 0 0))] : List ez_C)) ∧ c1 = 0 ∧ k1 = 0) := by
  refine ev_ret (sp_c_257_spotIn_r1 X i g _ _) ?_
  exact ⟨rfl, rfl, rfl, rfl⟩
set_option maxRecDepth 100000 in
set_option maxHeartbeats 100000 in
theorem sp_c_256_cellsIn_r1 (X : ez_X) (i : Int32) (g : Nat → Int64) (cz kz : Nat) : ∀ G : ez_F, fx_up X 6 G 87 0 [.ref 3, .int 0, .int 2] [] (ev_hp (ev_sI ev_I0 6 (upd (upd (ev_I0 6) 4 1) 3 1)) (ev_sJ ev_J0 34 g) (ev_sR ev_R0 0 65) ([.inl (1, .inl (upd (fun _ => 0) 0 0))] : List ez_C)) cz kz = ev_C G 45 [.int 0, .int 2] (ev_hp (ev_sI ev_I0 6 (upd (upd (ev_I0 6) 4 1) 3 1)) (ev_sJ ev_J0 34 g) (ev_sR ev_R0 0 65) ([.inl (1, .inl (upd (fun _ => 0) 0 0))] : List ez_C)) fun r h1 c1 k1 => G 87 10 [.ref 3, .int 0, .int 2] (r.toList ++ [.int 576]) h1 (cz + c1) (kz + k1) := by
  intro G
  rfl
set_option maxRecDepth 100000 in
set_option maxHeartbeats 100000 in
theorem sp_c_256_cellsIn_r2 (X : ez_X) (i : Int32) (g : Nat → Int64) (cz kz : Nat) : ∀ G : ez_F, fx_up X 8 G 87 10 [.ref 3, .int 0, .int 2] [.int 0, .int 576] (ev_hp (ev_sI ev_I0 6 (upd (upd (ev_I0 6) 4 1) 3 1)) (ev_sJ ev_J0 34 g) (ev_sR ev_R0 0 65) ([.inl (1, .inl (upd (fun _ => 0) 0 0))] : List ez_C)) cz kz = some (some (.long 0), (ev_hp (ev_sI ev_I0 6 (upd (upd (ev_I0 6) 4 1) 3 1)) (ev_sJ ev_J0 34 g) (ev_sR ev_R0 0 65) ([.inl (1, .inl (upd (fun _ => 0) 0 0))] : List ez_C)), cz, kz) := by
  intro G
  rfl
theorem sp_c_256_cellsIn (X : ez_X) (i : Int32) (g : Nat → Int64) : ev_W X 87 0 (ez_lay [.ref 3, .int 0, .int 2]) [] (ev_hp (ev_sI ev_I0 6 (upd (upd (ev_I0 6) 4 1) 3 1)) (ev_sJ ev_J0 34 g) (ev_sR ev_R0 0 65) ([.inl (1, .inl (upd (fun _ => 0) 0 0))] : List ez_C)) 0 0 (fun r h1 c1 k1 => r = (some (.long 0)) ∧ h1 = (ev_hp (ev_sI ev_I0 6 (upd (upd (ev_I0 6) 4 1) 3 1)) (ev_sJ ev_J0 34 g) (ev_sR ev_R0 0 65) ([.inl (1, .inl (upd (fun _ => 0) 0 0))] : List ez_C)) ∧ c1 = 0 ∧ k1 = 0) := by
  refine ev_call (sp_c_256_cellsIn_r1 X i g _ _) (sp_c_257_spotIn X i g) ?_
  rintro _ _ _ _ ⟨rfl, rfl, rfl, rfl⟩
  refine ev_ret (sp_c_256_cellsIn_r2 X i g _ _) ?_
  exact ⟨rfl, rfl, rfl, rfl⟩
set_option maxRecDepth 100000 in
set_option maxHeartbeats 100000 in
theorem sp_c_250_cellsOf_r1 (X : ez_X) (i : Int32) (g : Nat → Int64) (cz kz : Nat) : ∀ G : ez_F, fx_up X 4 G 137 0 [.ref 6, .int 0] [] (ev_hp (ev_sI ev_I0 6 (upd (upd (ev_I0 6) 4 1) 3 1)) (ev_sJ ev_J0 34 g) (ev_sR ev_R0 0 65) ([.inl (1, .inl (upd (fun _ => 0) 0 0))] : List ez_C)) cz kz = ev_C G 3 [.ref 65, .int 0] (ev_hp (ev_sI ev_I0 6 (upd (upd (ev_I0 6) 4 1) 3 1)) (ev_sJ ev_J0 34 g) (ev_sR ev_R0 0 65) ([.inl (1, .inl (upd (fun _ => 0) 0 0))] : List ez_C)) fun r h1 c1 k1 => G 137 8 [.ref 6, .int 0] (r.toList ++ []) h1 (cz + c1) (kz + k1) := by
  intro G
  rfl
set_option maxRecDepth 100000 in
set_option maxHeartbeats 100000 in
theorem sp_c_250_cellsOf_r2 (X : ez_X) (i : Int32) (g : Nat → Int64) (cz kz : Nat) : ∀ G : ez_F, fx_up X 6 G 137 8 [.ref 6, .int 0] [.int 0] (ev_hp (ev_sI ev_I0 6 (upd (upd (ev_I0 6) 4 1) 3 1)) (ev_sJ ev_J0 34 g) (ev_sR ev_R0 0 65) ([.inl (1, .inl (upd (fun _ => 0) 0 0))] : List ez_C)) cz kz = ev_C G 87 [.ref 3, .int 0, .int 0] (ev_hp (ev_sI ev_I0 6 (upd (upd (ev_I0 6) 4 1) 3 1)) (ev_sJ ev_J0 34 g) (ev_sR ev_R0 0 65) ([.inl (1, .inl (upd (fun _ => 0) 0 0))] : List ez_C)) fun r h1 c1 k1 => G 137 18 [.ref 6, .int 0, .int 0] (r.toList ++ []) h1 (cz + c1) (kz + k1) := by
  intro G
  rfl
set_option maxRecDepth 100000 in
set_option maxHeartbeats 100000 in
theorem sp_c_250_cellsOf_r3 (X : ez_X) (i : Int32) (g : Nat → Int64) (cz kz : Nat) : ∀ G : ez_F, fx_up X 5 G 137 18 [.ref 6, .int 0, .int 0] [.long 0] (ev_hp (ev_sI ev_I0 6 (upd (upd (ev_I0 6) 4 1) 3 1)) (ev_sJ ev_J0 34 g) (ev_sR ev_R0 0 65) ([.inl (1, .inl (upd (fun _ => 0) 0 0))] : List ez_C)) cz kz = ev_C G 87 [.ref 3, .int 0, .int 1] (ev_hp (ev_sI ev_I0 6 (upd (upd (ev_I0 6) 4 1) 3 1)) (ev_sJ ev_J0 34 g) (ev_sR ev_R0 0 65) ([.inl (1, .inl (upd (fun _ => 0) 0 0))] : List ez_C)) fun r h1 c1 k1 => G 137 27 [.ref 6, .int 0, .int 0] (r.toList ++ [.long 0]) h1 (cz + c1) (kz + k1) := by
  intro G
  rfl
set_option maxRecDepth 100000 in
set_option maxHeartbeats 100000 in
theorem sp_c_250_cellsOf_r4 (X : ez_X) (i : Int32) (g : Nat → Int64) (cz kz : Nat) : ∀ G : ez_F, fx_up X 6 G 137 27 [.ref 6, .int 0, .int 0] [.long 0, .long 0] (ev_hp (ev_sI ev_I0 6 (upd (upd (ev_I0 6) 4 1) 3 1)) (ev_sJ ev_J0 34 g) (ev_sR ev_R0 0 65) ([.inl (1, .inl (upd (fun _ => 0) 0 0))] : List ez_C)) cz kz = ev_C G 87 [.ref 3, .int 0, .int 2] (ev_hp (ev_sI ev_I0 6 (upd (upd (ev_I0 6) 4 1) 3 1)) (ev_sJ ev_J0 34 g) (ev_sR ev_R0 0 65) ([.inl (1, .inl (upd (fun _ => 0) 0 0))] : List ez_C)) fun r h1 c1 k1 => G 137 37 [.ref 6, .int 0, .int 0] (r.toList ++ [.long 0]) h1 (cz + c1) (kz + k1) := by
  intro G
  rfl
set_option maxRecDepth 100000 in
set_option maxHeartbeats 100000 in
theorem sp_c_250_cellsOf_r5 (X : ez_X) (i : Int32) (g : Nat → Int64) (cz kz : Nat) : ∀ G : ez_F, fx_up X 2 G 137 37 [.ref 6, .int 0, .int 0] [.long 0, .long 0] (ev_hp (ev_sI ev_I0 6 (upd (upd (ev_I0 6) 4 1) 3 1)) (ev_sJ ev_J0 34 g) (ev_sR ev_R0 0 65) ([.inl (1, .inl (upd (fun _ => 0) 0 0))] : List ez_C)) cz kz = some (some (.long 0), (ev_hp (ev_sI ev_I0 6 (upd (upd (ev_I0 6) 4 1) 3 1)) (ev_sJ ev_J0 34 g) (ev_sR ev_R0 0 65) ([.inl (1, .inl (upd (fun _ => 0) 0 0))] : List ez_C)), cz, kz) := by
  intro G
  rfl
theorem sp_c_250_cellsOf (X : ez_X) (i : Int32) (g : Nat → Int64) : ev_W X 137 0 (ez_lay [.ref 6, .int 0]) [] (ev_hp (ev_sI ev_I0 6 (upd (upd (ev_I0 6) 4 1) 3 1)) (ev_sJ ev_J0 34 g) (ev_sR ev_R0 0 65) ([.inl (1, .inl (upd (fun _ => 0) 0 0))] : List ez_C)) 0 0 (fun r h1 c1 k1 => r = (some (.long 0)) ∧ h1 = (ev_hp (ev_sI ev_I0 6 (upd (upd (ev_I0 6) 4 1) 3 1)) (ev_sJ ev_J0 34 g) (ev_sR ev_R0 0 65) ([.inl (1, .inl (upd (fun _ => 0) 0 0))] : List ez_C)) ∧ c1 = 0 ∧ k1 = 0) := by
  refine ev_call (sp_c_250_cellsOf_r1 X i g _ _) (sp_c_251_at X i g) ?_
  rintro _ _ _ _ ⟨rfl, rfl, rfl, rfl⟩
  refine ev_call (sp_c_250_cellsOf_r2 X i g _ _) (sp_c_252_cellsIn X i g) ?_
  rintro _ _ _ _ ⟨rfl, rfl, rfl, rfl⟩
  refine ev_call (sp_c_250_cellsOf_r3 X i g _ _) (sp_c_254_cellsIn X i g) ?_
  rintro _ _ _ _ ⟨rfl, rfl, rfl, rfl⟩
  refine ev_call (sp_c_250_cellsOf_r4 X i g _ _) (sp_c_256_cellsIn X i g) ?_
  rintro _ _ _ _ ⟨rfl, rfl, rfl, rfl⟩
  refine ev_ret (sp_c_250_cellsOf_r5 X i g _ _) ?_
  exact ⟨rfl, rfl, rfl, rfl⟩
set_option maxRecDepth 100000 in
set_option maxHeartbeats 100000 in
theorem ek_mu_r1 (X : ez_X) (i : Int32) (g : Nat → Int64) (cz kz : Nat) : ∀ G : ez_F, fx_up X 5 G 79 2 [.ref 32, .int 0, .int i] [] (ev_hp (ev_sI ev_I0 6 (upd (upd (ev_I0 6) 4 1) 3 1)) (ev_sJ ev_J0 34 g) (ev_sR ev_R0 0 65) ([.inl (1, .inl (upd (fun _ => 0) 0 0))] : List ez_C)) cz kz = bif decide (64 ≤ i) then G 79 24 [.ref 32, .int 0, .int i] [] (ev_hp (ev_sI ev_I0 6 (upd (upd (ev_I0 6) 4 1) 3 1)) (ev_sJ ev_J0 34 g) (ev_sR ev_R0 0 65) ([.inl (1, .inl (upd (fun _ => 0) 0 0))] : List ez_C)) cz kz else G 79 11 [.ref 32, .int 0, .int i] [] (ev_hp (ev_sI ev_I0 6 (upd (upd (ev_I0 6) 4 1) 3 1)) (ev_sJ ev_J0 34 g) (ev_sR ev_R0 0 65) ([.inl (1, .inl (upd (fun _ => 0) 0 0))] : List ez_C)) cz kz := by
  intro G
  rfl
set_option maxRecDepth 100000 in
set_option maxHeartbeats 100000 in
theorem ek_mu_r2 (X : ez_X) (i : Int32) (g : Nat → Int64) (cz kz : Nat) : ∀ G : ez_F, fx_up X 4 G 79 24 [.ref 32, .int 0, .int i] [] (ev_hp (ev_sI ev_I0 6 (upd (upd (ev_I0 6) 4 1) 3 1)) (ev_sJ ev_J0 34 g) (ev_sR ev_R0 0 65) ([.inl (1, .inl (upd (fun _ => 0) 0 0))] : List ez_C)) cz kz = ev_C G 137 [.ref 6, .int 0] (ev_hp (ev_sI ev_I0 6 (upd (upd (ev_I0 6) 4 1) 3 1)) (ev_sJ ev_J0 34 g) (ev_sR ev_R0 0 65) ([.inl (1, .inl (upd (fun _ => 0) 0 0))] : List ez_C)) fun r h1 c1 k1 => G 79 32 [.ref 32, .int 0, .int i] (r.toList ++ []) h1 (cz + c1) (kz + k1) := by
  intro G
  rfl
set_option maxRecDepth 100000 in
set_option maxHeartbeats 100000 in
theorem ek_mu_r3 (X : ez_X) (i : Int32) (g : Nat → Int64) (cz kz : Nat) : ∀ G : ez_F, fx_up X 14 G 79 32 [.ref 32, .int 0, .int i] [.long 0] (ev_hp (ev_sI ev_I0 6 (upd (upd (ev_I0 6) 4 1) 3 1)) (ev_sJ ev_J0 34 g) (ev_sR ev_R0 0 65) ([.inl (1, .inl (upd (fun _ => 0) 0 0))] : List ez_C)) cz kz = ev_C G 137 [.ref 6, .int 0] (ev_hp (ev_sI ev_I0 6 (upd (upd (ev_I0 6) 4 1) 3 1)) (ev_sJ ev_J0 34 g) (ev_sR ev_R0 0 65) ([.inl (1, .inl (upd (fun _ => 0) 0 0))] : List ez_C)) fun r h1 c1 k1 => G 79 61 [.ref 32, .int 0, .long 0, ez_fill, .int 1, .int 0] (r.toList ++ []) h1 (cz + c1) (kz + k1) := by
  intro G
  rfl
set_option maxRecDepth 100000 in
set_option maxHeartbeats 100000 in
theorem ek_mu_r4 (X : ez_X) (i : Int32) (g : Nat → Int64) (cz kz : Nat) : ∀ G : ez_F, fx_up X 11 G 79 61 [.ref 32, .int 0, .long 0, ez_fill, .int 1, .int 0] [.long 0] (ev_hp (ev_sI ev_I0 6 (upd (upd (ev_I0 6) 4 1) 3 1)) (ev_sJ ev_J0 34 g) (ev_sR ev_R0 0 65) ([.inl (1, .inl (upd (fun _ => 0) 0 0))] : List ez_C)) cz kz = some (none, (ev_hp (ev_sI ev_I0 6 (upd (upd (ev_I0 6) 4 1) 3 1)) (ev_sJ ev_J0 34 g) (ev_sR ev_R0 0 65) ([.inl (1, .inl (upd (fun _ => 0) 0 0))] : List ez_C)), cz, kz) := by
  intro G
  rfl
set_option maxRecDepth 100000 in
set_option maxHeartbeats 100000 in
theorem ek_mu_r5 (X : ez_X) (i : Int32) (g : Nat → Int64) (cz kz : Nat) : ∀ G : ez_F, fx_up X 4 G 79 11 [.ref 32, .int 0, .int i] [] (ev_hp (ev_sI ev_I0 6 (upd (upd (ev_I0 6) 4 1) 3 1)) (ev_sJ ev_J0 34 g) (ev_sR ev_R0 0 65) ([.inl (1, .inl (upd (fun _ => 0) 0 0))] : List ez_C)) cz kz = G 79 17 [.ref 32, .int 0, .int i] [.long 0, .int i, .ref 34] (ev_hp (ev_sI ev_I0 6 (upd (upd (ev_I0 6) 4 1) 3 1)) (ev_sJ ev_J0 34 g) (ev_sR ev_R0 0 65) ([.inl (1, .inl (upd (fun _ => 0) 0 0))] : List ez_C)) cz kz := by
  intro G
  rfl
set_option maxRecDepth 100000 in
set_option maxHeartbeats 100000 in
theorem ek_mu_r6 (X : ez_X) (i : Int32) (g : Nat → Int64) (cz kz : Nat) : ∀ G : ez_F, fx_up X 2 G 79 18 [.ref 32, .int 0, .int i] [] (ev_hp (ev_sI ev_I0 6 (upd (upd (ev_I0 6) 4 1) 3 1)) (ev_sJ ev_J0 34 (vp_updL g i.toNatClampNeg 0)) (ev_sR ev_R0 0 65) ([.inl (1, .inl (upd (fun _ => 0) 0 0))] : List ez_C)) cz kz = G 79 2 [.ref 32, .int 0, .int (i + (1 : Int32))] [] (ev_hp (ev_sI ev_I0 6 (upd (upd (ev_I0 6) 4 1) 3 1)) (ev_sJ ev_J0 34 (vp_updL g i.toNatClampNeg 0)) (ev_sR ev_R0 0 65) ([.inl (1, .inl (upd (fun _ => 0) 0 0))] : List ez_C)) cz kz := by
  intro G
  rfl
theorem ek_mu (X : ez_X)   : ∀ (n : Nat) (i : Int32) (g : Nat → Int64), ((64 : Int32).toInt - i.toInt).toNat < n → 0 ≤ i → (∀ j, g j = 0) → ev_W X 79 2 [.ref 32, .int 0, .int i] [] (ev_hp (ev_sI ev_I0 6 (upd (upd (ev_I0 6) 4 1) 3 1)) (ev_sJ ev_J0 34 g) (ev_sR ev_R0 0 65) ([.inl (1, .inl (upd (fun _ => 0) 0 0))] : List ez_C)) 0 0 (fun r h1 c1 k1 => r = none ∧ (∃ g : Nat → Int64, (∀ j, g j = 0) ∧ h1 = (ev_hp (ev_sI ev_I0 6 (upd (upd (ev_I0 6) 4 1) 3 1)) (ev_sJ ev_J0 34 g) (ev_sR ev_R0 0 65) ([.inl (1, .inl (upd (fun _ => 0) 0 0))] : List ez_C))) ∧ c1 = 0 ∧ k1 = 0) := by
  intro n
  induction n with
  | zero => intro i g hm; exact absurd hm (Nat.not_lt_zero _)
  | succ n ih =>
    intro i g hm h0 hg
    refine ev_if (ek_mu_r1 X i g _ _) (fun b1 => ?_) (fun b1 => ?_)
    · replace b1 := of_decide_eq_true b1
      refine ev_call (ek_mu_r2 X i g _ _) (sp_c_242_cellsOf X i g) ?_
      rintro _ _ _ _ ⟨rfl, rfl, rfl, rfl⟩
      refine ev_call (ek_mu_r3 X i g _ _) (sp_c_250_cellsOf X i g) ?_
      rintro _ _ _ _ ⟨rfl, rfl, rfl, rfl⟩
      refine ev_ret (ek_mu_r4 X i g _ _) ?_
      exact ⟨rfl, ⟨_, hg, rfl⟩, rfl, rfl⟩
    · replace b1 := of_decide_eq_false b1
      refine ev_seg (ek_mu_r5 X i g _ _) ?_
      refine ev_lastH (n := 64) (h2 := (ev_hp (ev_sI ev_I0 6 (upd (upd (ev_I0 6) 4 1) 3 1)) (ev_sJ ev_J0 34 (vp_updL g i.toNatClampNeg 0)) (ev_sR ev_R0 0 65) ([.inl (1, .inl (upd (fun _ => 0) 0 0))] : List ez_C))) (by rfl) (by rfl) (ev_ix_of (by decide) (Int32.not_lt.mpr h0) b1) (by rfl) ?_
      refine ev_seg (ek_mu_r6 X i g _ _) ?_
      exact ih _ _ (ev_up hm b1) (ev_nn h0 b1) (fun j => ev_updz hg j)
set_option maxRecDepth 100000 in
set_option maxHeartbeats 100000 in
theorem ek_mark_r1 (X : ez_X)  (cz kz : Nat) : ∀ G : ez_F, fx_up X 2 G 79 0 [.ref 32, .int 0] [] (ev_hp (ev_sI ev_I0 6 (upd (upd (ev_I0 6) 4 1) 3 1)) ev_J0 (ev_sR ev_R0 0 65) ([.inl (1, .inl (upd (fun _ => 0) 0 0))] : List ez_C)) cz kz = G 79 2 [.ref 32, .int 0, .int 0] [] (ev_hp (ev_sI ev_I0 6 (upd (upd (ev_I0 6) 4 1) 3 1)) ev_J0 (ev_sR ev_R0 0 65) ([.inl (1, .inl (upd (fun _ => 0) 0 0))] : List ez_C)) cz kz := by
  intro G
  rfl
theorem ek_mark (X : ez_X)   : ev_W X 79 0 (ez_lay [.ref 32, .int 0]) [] (ev_hp (ev_sI ev_I0 6 (upd (upd (ev_I0 6) 4 1) 3 1)) ev_J0 (ev_sR ev_R0 0 65) ([.inl (1, .inl (upd (fun _ => 0) 0 0))] : List ez_C)) 0 0 (fun r h1 c1 k1 => r = none ∧ (∃ g : Nat → Int64, (∀ j, g j = 0) ∧ h1 = (ev_hp (ev_sI ev_I0 6 (upd (upd (ev_I0 6) 4 1) 3 1)) (ev_sJ ev_J0 34 g) (ev_sR ev_R0 0 65) ([.inl (1, .inl (upd (fun _ => 0) 0 0))] : List ez_C))) ∧ c1 = 0 ∧ k1 = 0) := by
  refine ev_seg (ek_mark_r1 X  _ _) ?_
  exact ek_mu X _ _ (ev_J0 34) (Nat.lt_succ_self _) (by decide) (fun _ => rfl)
set_option maxRecDepth 100000 in
set_option maxHeartbeats 100000 in
theorem ek_sp_i_r1 (X : ez_X) (d : Int32) (b : Int32) (g : Nat → Int64) (i : Int32) (cz kz : Nat) : ∀ G : ez_F, fx_up X 3 G 80 15 [.ref 32, .int 1024, .int d, .int b, .int i] [] (ev_hp (ev_sI ev_I0 6 (upd (upd (ev_I0 6) 4 1) 3 1)) (ev_sJ ev_J0 34 g) (ev_sR ev_R0 0 65) ([.inl (1, .inl (upd (fun _ => 0) 0 0))] : List ez_C)) cz kz = bif decide (1024 ≤ i) then G 80 51 [.ref 32, .int 1024, .int d, .int b, .int i] [] (ev_hp (ev_sI ev_I0 6 (upd (upd (ev_I0 6) 4 1) 3 1)) (ev_sJ ev_J0 34 g) (ev_sR ev_R0 0 65) ([.inl (1, .inl (upd (fun _ => 0) 0 0))] : List ez_C)) cz kz else G 80 21 [.ref 32, .int 1024, .int d, .int b, .int i] [] (ev_hp (ev_sI ev_I0 6 (upd (upd (ev_I0 6) 4 1) 3 1)) (ev_sJ ev_J0 34 g) (ev_sR ev_R0 0 65) ([.inl (1, .inl (upd (fun _ => 0) 0 0))] : List ez_C)) cz kz := by
  intro G
  rfl
set_option maxRecDepth 100000 in
set_option maxHeartbeats 100000 in
theorem ek_sp_i_r2 (X : ez_X) (d : Int32) (b : Int32) (g : Nat → Int64) (i : Int32) (cz kz : Nat) : ∀ G : ez_F, fx_up X 2 G 80 51 [.ref 32, .int 1024, .int d, .int b, .int i] [] (ev_hp (ev_sI ev_I0 6 (upd (upd (ev_I0 6) 4 1) 3 1)) (ev_sJ ev_J0 34 g) (ev_sR ev_R0 0 65) ([.inl (1, .inl (upd (fun _ => 0) 0 0))] : List ez_C)) cz kz = G 80 2 [.ref 32, .int 1024, .int (d + (1 : Int32)), .int b, .int i] [] (ev_hp (ev_sI ev_I0 6 (upd (upd (ev_I0 6) 4 1) 3 1)) (ev_sJ ev_J0 34 g) (ev_sR ev_R0 0 65) ([.inl (1, .inl (upd (fun _ => 0) 0 0))] : List ez_C)) cz kz := by
  intro G
  rfl
set_option maxRecDepth 100000 in
set_option maxHeartbeats 100000 in
theorem ek_sp_i_r3 (X : ez_X) (d : Int32) (b : Int32) (g : Nat → Int64) (i : Int32) (cz kz : Nat) : ∀ G : ez_F, fx_up X 4 G 80 21 [.ref 32, .int 1024, .int d, .int b, .int i] [] (ev_hp (ev_sI ev_I0 6 (upd (upd (ev_I0 6) 4 1) 3 1)) (ev_sJ ev_J0 34 g) (ev_sR ev_R0 0 65) ([.inl (1, .inl (upd (fun _ => 0) 0 0))] : List ez_C)) cz kz = bif decide ((i &&& b) = 0) then G 80 45 [.ref 32, .int 1024, .int d, .int b, .int i] [] (ev_hp (ev_sI ev_I0 6 (upd (upd (ev_I0 6) 4 1) 3 1)) (ev_sJ ev_J0 34 g) (ev_sR ev_R0 0 65) ([.inl (1, .inl (upd (fun _ => 0) 0 0))] : List ez_C)) cz kz else G 80 28 [.ref 32, .int 1024, .int d, .int b, .int i] [] (ev_hp (ev_sI ev_I0 6 (upd (upd (ev_I0 6) 4 1) 3 1)) (ev_sJ ev_J0 34 g) (ev_sR ev_R0 0 65) ([.inl (1, .inl (upd (fun _ => 0) 0 0))] : List ez_C)) cz kz := by
  intro G
  rfl
set_option maxRecDepth 100000 in
set_option maxHeartbeats 100000 in
theorem ek_sp_i_r4 (X : ez_X) (d : Int32) (b : Int32) (g : Nat → Int64) (i : Int32) (cz kz : Nat) : ∀ G : ez_F, fx_up X 2 G 80 45 [.ref 32, .int 1024, .int d, .int b, .int i] [] (ev_hp (ev_sI ev_I0 6 (upd (upd (ev_I0 6) 4 1) 3 1)) (ev_sJ ev_J0 34 g) (ev_sR ev_R0 0 65) ([.inl (1, .inl (upd (fun _ => 0) 0 0))] : List ez_C)) cz kz = G 80 15 [.ref 32, .int 1024, .int d, .int b, .int (i + (1 : Int32))] [] (ev_hp (ev_sI ev_I0 6 (upd (upd (ev_I0 6) 4 1) 3 1)) (ev_sJ ev_J0 34 g) (ev_sR ev_R0 0 65) ([.inl (1, .inl (upd (fun _ => 0) 0 0))] : List ez_C)) cz kz := by
  intro G
  rfl
set_option maxRecDepth 100000 in
set_option maxHeartbeats 100000 in
theorem ek_sp_i_r5 (X : ez_X) (d : Int32) (b : Int32) (g : Nat → Int64) (i : Int32) (cz kz : Nat) : ∀ G : ez_F, fx_up X 5 G 80 28 [.ref 32, .int 1024, .int d, .int b, .int i] [] (ev_hp (ev_sI ev_I0 6 (upd (upd (ev_I0 6) 4 1) 3 1)) (ev_sJ ev_J0 34 g) (ev_sR ev_R0 0 65) ([.inl (1, .inl (upd (fun _ => 0) 0 0))] : List ez_C)) cz kz = ev_C G 78 [.ref 32, .int (i ^^^ b)] (ev_hp (ev_sI ev_I0 6 (upd (upd (ev_I0 6) 4 1) 3 1)) (ev_sJ ev_J0 34 g) (ev_sR ev_R0 0 65) ([.inl (1, .inl (upd (fun _ => 0) 0 0))] : List ez_C)) fun r h1 c1 k1 => G 80 36 [.ref 32, .int 1024, .int d, .int b, .int i] (r.toList ++ []) h1 (cz + c1) (kz + k1) := by
  intro G
  rfl
set_option maxRecDepth 100000 in
set_option maxHeartbeats 100000 in
theorem ek_sp_i_r6 (X : ez_X) (d : Int32) (b : Int32) (g : Nat → Int64) (i : Int32) (cz kz : Nat) : ∀ G : ez_F, fx_up X 3 G 80 36 [.ref 32, .int 1024, .int d, .int b, .int i] [.int 0] (ev_hp (ev_sI ev_I0 6 (upd (upd (ev_I0 6) 4 1) 3 1)) (ev_sJ ev_J0 34 g) (ev_sR ev_R0 0 65) ([.inl (1, .inl (upd (fun _ => 0) 0 0))] : List ez_C)) cz kz = G 80 15 [.ref 32, .int 1024, .int d, .int b, .int (i + (1 : Int32))] [] (ev_hp (ev_sI ev_I0 6 (upd (upd (ev_I0 6) 4 1) 3 1)) (ev_sJ ev_J0 34 g) (ev_sR ev_R0 0 65) ([.inl (1, .inl (upd (fun _ => 0) 0 0))] : List ez_C)) cz kz := by
  intro G
  rfl
theorem ek_sp_i (X : ez_X) (d : Int32) (b : Int32) (g : Nat → Int64) (hg : ∀ j, g j = 0) (kk : ev_W X 80 2 [.ref 32, .int 1024, .int (d + 1)] [] (ev_hp (ev_sI ev_I0 6 (upd (upd (ev_I0 6) 4 1) 3 1)) (ev_sJ ev_J0 34 g) (ev_sR ev_R0 0 65) ([.inl (1, .inl (upd (fun _ => 0) 0 0))] : List ez_C)) 0 0 (ev_is none (ev_hp (ev_sI ev_I0 6 (upd (upd (ev_I0 6) 4 1) 3 1)) (ev_sJ ev_J0 34 g) (ev_sR ev_R0 0 65) ([.inl (1, .inl (upd (fun _ => 0) 0 0))] : List ez_C)))) : ∀ (n : Nat) (i : Int32), ((1024 : Int32).toInt - i.toInt).toNat < n → ev_W X 80 15 [.ref 32, .int 1024, .int d, .int b, .int i] [] (ev_hp (ev_sI ev_I0 6 (upd (upd (ev_I0 6) 4 1) 3 1)) (ev_sJ ev_J0 34 g) (ev_sR ev_R0 0 65) ([.inl (1, .inl (upd (fun _ => 0) 0 0))] : List ez_C)) 0 0 (ev_is none (ev_hp (ev_sI ev_I0 6 (upd (upd (ev_I0 6) 4 1) 3 1)) (ev_sJ ev_J0 34 g) (ev_sR ev_R0 0 65) ([.inl (1, .inl (upd (fun _ => 0) 0 0))] : List ez_C))) := by
  intro n
  induction n with
  | zero => intro i hm; exact absurd hm (Nat.not_lt_zero _)
  | succ n ih =>
    intro i hm
    refine ev_if (ek_sp_i_r1 X d b g i _ _) (fun b1 => ?_) (fun b1 => ?_)
    · replace b1 := of_decide_eq_true b1
      refine ev_seg (ek_sp_i_r2 X d b g i _ _) ?_
      refine ev_cutl (by rfl) ?_
      exact kk
    · replace b1 := of_decide_eq_false b1
      refine ev_if (ek_sp_i_r3 X d b g i _ _) (fun b2 => ?_) (fun b2 => ?_)
      · replace b2 := of_decide_eq_true b2
        refine ev_seg (ek_sp_i_r4 X d b g i _ _) ?_
        exact ih _ (ev_up hm b1)
      · replace b2 := of_decide_eq_false b2
        refine ev_call (ek_sp_i_r5 X d b g i _ _) (ek_hid X (i ^^^ b) g hg) ?_
        rintro _ _ _ _ ⟨rfl, rfl, rfl, rfl⟩
        refine ev_seg (ek_sp_i_r6 X d b g i _ _) ?_
        exact ih _ (ev_up hm b1)
set_option maxRecDepth 100000 in
set_option maxHeartbeats 100000 in
theorem ek_sp_o_r1 (X : ez_X) (g : Nat → Int64) (i : Int32) (cz kz : Nat) : ∀ G : ez_F, fx_up X 3 G 80 2 [.ref 32, .int 1024, .int i] [] (ev_hp (ev_sI ev_I0 6 (upd (upd (ev_I0 6) 4 1) 3 1)) (ev_sJ ev_J0 34 g) (ev_sR ev_R0 0 65) ([.inl (1, .inl (upd (fun _ => 0) 0 0))] : List ez_C)) cz kz = bif decide (12 ≤ i) then G 80 57 [.ref 32, .int 1024, .int i] [] (ev_hp (ev_sI ev_I0 6 (upd (upd (ev_I0 6) 4 1) 3 1)) (ev_sJ ev_J0 34 g) (ev_sR ev_R0 0 65) ([.inl (1, .inl (upd (fun _ => 0) 0 0))] : List ez_C)) cz kz else G 80 8 [.ref 32, .int 1024, .int i] [] (ev_hp (ev_sI ev_I0 6 (upd (upd (ev_I0 6) 4 1) 3 1)) (ev_sJ ev_J0 34 g) (ev_sR ev_R0 0 65) ([.inl (1, .inl (upd (fun _ => 0) 0 0))] : List ez_C)) cz kz := by
  intro G
  rfl
set_option maxRecDepth 100000 in
set_option maxHeartbeats 100000 in
theorem ek_sp_o_r2 (X : ez_X) (g : Nat → Int64) (i : Int32) (cz kz : Nat) : ∀ G : ez_F, fx_up X 1 G 80 57 [.ref 32, .int 1024, .int i] [] (ev_hp (ev_sI ev_I0 6 (upd (upd (ev_I0 6) 4 1) 3 1)) (ev_sJ ev_J0 34 g) (ev_sR ev_R0 0 65) ([.inl (1, .inl (upd (fun _ => 0) 0 0))] : List ez_C)) cz kz = some (none, (ev_hp (ev_sI ev_I0 6 (upd (upd (ev_I0 6) 4 1) 3 1)) (ev_sJ ev_J0 34 g) (ev_sR ev_R0 0 65) ([.inl (1, .inl (upd (fun _ => 0) 0 0))] : List ez_C)), cz, kz) := by
  intro G
  rfl
set_option maxRecDepth 100000 in
set_option maxHeartbeats 100000 in
theorem ek_sp_o_r3 (X : ez_X) (g : Nat → Int64) (i : Int32) (cz kz : Nat) : ∀ G : ez_F, fx_up X 6 G 80 8 [.ref 32, .int 1024, .int i] [] (ev_hp (ev_sI ev_I0 6 (upd (upd (ev_I0 6) 4 1) 3 1)) (ev_sJ ev_J0 34 g) (ev_sR ev_R0 0 65) ([.inl (1, .inl (upd (fun _ => 0) 0 0))] : List ez_C)) cz kz = G 80 15 [.ref 32, .int 1024, .int i, .int ((1 : Int32) <<< (i &&& 31)), .int 0] [] (ev_hp (ev_sI ev_I0 6 (upd (upd (ev_I0 6) 4 1) 3 1)) (ev_sJ ev_J0 34 g) (ev_sR ev_R0 0 65) ([.inl (1, .inl (upd (fun _ => 0) 0 0))] : List ez_C)) cz kz := by
  intro G
  rfl
theorem ek_sp_o (X : ez_X) (g : Nat → Int64) (hg : ∀ j, g j = 0) : ∀ (n : Nat) (i : Int32), ((12 : Int32).toInt - i.toInt).toNat < n → ev_W X 80 2 [.ref 32, .int 1024, .int i] [] (ev_hp (ev_sI ev_I0 6 (upd (upd (ev_I0 6) 4 1) 3 1)) (ev_sJ ev_J0 34 g) (ev_sR ev_R0 0 65) ([.inl (1, .inl (upd (fun _ => 0) 0 0))] : List ez_C)) 0 0 (ev_is none (ev_hp (ev_sI ev_I0 6 (upd (upd (ev_I0 6) 4 1) 3 1)) (ev_sJ ev_J0 34 g) (ev_sR ev_R0 0 65) ([.inl (1, .inl (upd (fun _ => 0) 0 0))] : List ez_C))) := by
  intro n
  induction n with
  | zero => intro i hm; exact absurd hm (Nat.not_lt_zero _)
  | succ n ih =>
    intro i hm
    refine ev_if (ek_sp_o_r1 X g i _ _) (fun b1 => ?_) (fun b1 => ?_)
    · replace b1 := of_decide_eq_true b1
      refine ev_ret (ek_sp_o_r2 X g i _ _) ?_
      exact ⟨rfl, rfl, rfl, rfl⟩
    · replace b1 := of_decide_eq_false b1
      refine ev_seg (ek_sp_o_r3 X g i _ _) ?_
      exact ek_sp_i X i _ g hg (ih _ (ev_up hm b1)) _ _ (Nat.lt_succ_self _)
set_option maxRecDepth 100000 in
set_option maxHeartbeats 100000 in
theorem ek_spread_r1 (X : ez_X) (g : Nat → Int64) (cz kz : Nat) : ∀ G : ez_F, fx_up X 2 G 80 0 [.ref 32, .int 1024] [] (ev_hp (ev_sI ev_I0 6 (upd (upd (ev_I0 6) 4 1) 3 1)) (ev_sJ ev_J0 34 g) (ev_sR ev_R0 0 65) ([.inl (1, .inl (upd (fun _ => 0) 0 0))] : List ez_C)) cz kz = G 80 2 [.ref 32, .int 1024, .int 0] [] (ev_hp (ev_sI ev_I0 6 (upd (upd (ev_I0 6) 4 1) 3 1)) (ev_sJ ev_J0 34 g) (ev_sR ev_R0 0 65) ([.inl (1, .inl (upd (fun _ => 0) 0 0))] : List ez_C)) cz kz := by
  intro G
  rfl
theorem ek_spread (X : ez_X) (g : Nat → Int64) (hg : ∀ j, g j = 0) : ev_W X 80 0 (ez_lay [.ref 32, .int 1024]) [] (ev_hp (ev_sI ev_I0 6 (upd (upd (ev_I0 6) 4 1) 3 1)) (ev_sJ ev_J0 34 g) (ev_sR ev_R0 0 65) ([.inl (1, .inl (upd (fun _ => 0) 0 0))] : List ez_C)) 0 0 (ev_is none (ev_hp (ev_sI ev_I0 6 (upd (upd (ev_I0 6) 4 1) 3 1)) (ev_sJ ev_J0 34 g) (ev_sR ev_R0 0 65) ([.inl (1, .inl (upd (fun _ => 0) 0 0))] : List ez_C))) := by
  refine ev_seg (ek_spread_r1 X g _ _) ?_
  exact ek_sp_o X g hg _ _ (Nat.lt_succ_self _)
set_option maxRecDepth 100000 in
set_option maxHeartbeats 100000 in
theorem sp_c_258_bitCount_r1 (X : ez_X) (g : Nat → Int64) (i : Int32) (q161 : Int32) (cz kz : Nat) : ∀ G : ez_F, fx_up X 24 G 234 0 [.int 0] [] (ev_hp (ev_sI ev_I0 6 (upd (upd (ev_I0 6) 4 1) 3 1)) (ev_sJ ev_J0 34 g) (ev_sR ev_R0 0 65) ([.inl (1, .inl (upd (fun _ => 0) 0 0))] : List ez_C)) cz kz = G 234 32 [.int 0] [.int 252645135, .int 0] (ev_hp (ev_sI ev_I0 6 (upd (upd (ev_I0 6) 4 1) 3 1)) (ev_sJ ev_J0 34 g) (ev_sR ev_R0 0 65) ([.inl (1, .inl (upd (fun _ => 0) 0 0))] : List ez_C)) cz kz := by
  intro G
  rfl
set_option maxRecDepth 100000 in
set_option maxHeartbeats 100000 in
theorem sp_c_258_bitCount_r2 (X : ez_X) (g : Nat → Int64) (i : Int32) (q161 : Int32) (cz kz : Nat) : ∀ G : ez_F, fx_up X 18 G 234 32 [.int 0] [.int 252645135, .int 0] (ev_hp (ev_sI ev_I0 6 (upd (upd (ev_I0 6) 4 1) 3 1)) (ev_sJ ev_J0 34 g) (ev_sR ev_R0 0 65) ([.inl (1, .inl (upd (fun _ => 0) 0 0))] : List ez_C)) cz kz = some (some (.int 0), (ev_hp (ev_sI ev_I0 6 (upd (upd (ev_I0 6) 4 1) 3 1)) (ev_sJ ev_J0 34 g) (ev_sR ev_R0 0 65) ([.inl (1, .inl (upd (fun _ => 0) 0 0))] : List ez_C)), cz, kz) := by
  intro G
  rfl
theorem sp_c_258_bitCount (X : ez_X) (g : Nat → Int64) (i : Int32) (q161 : Int32) : ev_W X 234 0 (ez_lay [.int 0]) [] (ev_hp (ev_sI ev_I0 6 (upd (upd (ev_I0 6) 4 1) 3 1)) (ev_sJ ev_J0 34 g) (ev_sR ev_R0 0 65) ([.inl (1, .inl (upd (fun _ => 0) 0 0))] : List ez_C)) 0 0 (fun r h1 c1 k1 => r = (some (.int 0)) ∧ h1 = (ev_hp (ev_sI ev_I0 6 (upd (upd (ev_I0 6) 4 1) 3 1)) (ev_sJ ev_J0 34 g) (ev_sR ev_R0 0 65) ([.inl (1, .inl (upd (fun _ => 0) 0 0))] : List ez_C)) ∧ c1 = 0 ∧ k1 = 0) := by
  refine ev_seg (sp_c_258_bitCount_r1 X g i q161 _ _) ?_
  refine ev_ret (sp_c_258_bitCount_r2 X g i q161 _ _) ?_
  exact ⟨rfl, rfl, rfl, rfl⟩
set_option maxRecDepth 100000 in
set_option maxHeartbeats 100000 in
theorem ek_fr_l_r1 (X : ez_X) (g : Nat → Int64) (i : Int32) (cz kz : Nat) : ∀ G : ez_F, fx_up X 3 G 74 25 [.ref 32, .int 0, .int 1024, .int 0, .int i] [] (ev_hp (ev_sI ev_I0 6 (upd (upd (ev_I0 6) 4 1) 3 1)) (ev_sJ ev_J0 34 g) (ev_sR ev_R0 0 65) ([.inl (1, .inl (upd (fun _ => 0) 0 0))] : List ez_C)) cz kz = bif decide (1024 ≤ i) then G 74 82 [.ref 32, .int 0, .int 1024, .int 0, .int i] [] (ev_hp (ev_sI ev_I0 6 (upd (upd (ev_I0 6) 4 1) 3 1)) (ev_sJ ev_J0 34 g) (ev_sR ev_R0 0 65) ([.inl (1, .inl (upd (fun _ => 0) 0 0))] : List ez_C)) cz kz else G 74 31 [.ref 32, .int 0, .int 1024, .int 0, .int i] [] (ev_hp (ev_sI ev_I0 6 (upd (upd (ev_I0 6) 4 1) 3 1)) (ev_sJ ev_J0 34 g) (ev_sR ev_R0 0 65) ([.inl (1, .inl (upd (fun _ => 0) 0 0))] : List ez_C)) cz kz := by
  intro G
  rfl
set_option maxRecDepth 100000 in
set_option maxHeartbeats 100000 in
theorem ek_fr_l_r2 (X : ez_X) (g : Nat → Int64) (i : Int32) (cz kz : Nat) : ∀ G : ez_F, fx_up X 2 G 74 82 [.ref 32, .int 0, .int 1024, .int 0, .int i] [] (ev_hp (ev_sI ev_I0 6 (upd (upd (ev_I0 6) 4 1) 3 1)) (ev_sJ ev_J0 34 g) (ev_sR ev_R0 0 65) ([.inl (1, .inl (upd (fun _ => 0) 0 0))] : List ez_C)) cz kz = some (some (.int 0), (ev_hp (ev_sI ev_I0 6 (upd (upd (ev_I0 6) 4 1) 3 1)) (ev_sJ ev_J0 34 g) (ev_sR ev_R0 0 65) ([.inl (1, .inl (upd (fun _ => 0) 0 0))] : List ez_C)), cz, kz) := by
  intro G
  rfl
set_option maxRecDepth 100000 in
set_option maxHeartbeats 100000 in
theorem ek_fr_l_r3 (X : ez_X) (g : Nat → Int64) (i : Int32) (cz kz : Nat) : ∀ G : ez_F, fx_up X 5 G 74 31 [.ref 32, .int 0, .int 1024, .int 0, .int i] [] (ev_hp (ev_sI ev_I0 6 (upd (upd (ev_I0 6) 4 1) 3 1)) (ev_sJ ev_J0 34 g) (ev_sR ev_R0 0 65) ([.inl (1, .inl (upd (fun _ => 0) 0 0))] : List ez_C)) cz kz = ev_C G 234 [.int i] (ev_hp (ev_sI ev_I0 6 (upd (upd (ev_I0 6) 4 1) 3 1)) (ev_sJ ev_J0 34 g) (ev_sR ev_R0 0 65) ([.inl (1, .inl (upd (fun _ => 0) 0 0))] : List ez_C)) fun r h1 c1 k1 => G 74 41 [.ref 32, .int 0, .int 1024, .int 0, .int i] (r.toList ++ []) h1 (cz + c1) (kz + k1) := by
  intro G
  rfl
set_option maxRecDepth 100000 in
set_option maxHeartbeats 100000 in
theorem ek_fr_l_r4 (X : ez_X) (g : Nat → Int64) (i : Int32) (q161 : Int32) (cz kz : Nat) : ∀ G : ez_F, fx_up X 2 G 74 41 [.ref 32, .int 0, .int 1024, .int 0, .int i] [.int q161] (ev_hp (ev_sI ev_I0 6 (upd (upd (ev_I0 6) 4 1) 3 1)) (ev_sJ ev_J0 34 g) (ev_sR ev_R0 0 65) ([.inl (1, .inl (upd (fun _ => 0) 0 0))] : List ez_C)) cz kz = ev_C G 234 [.int 0] (ev_hp (ev_sI ev_I0 6 (upd (upd (ev_I0 6) 4 1) 3 1)) (ev_sJ ev_J0 34 g) (ev_sR ev_R0 0 65) ([.inl (1, .inl (upd (fun _ => 0) 0 0))] : List ez_C)) fun r h1 c1 k1 => G 74 45 [.ref 32, .int 0, .int 1024, .int 0, .int i] (r.toList ++ [.int q161]) h1 (cz + c1) (kz + k1) := by
  intro G
  rfl
set_option maxRecDepth 100000 in
set_option maxHeartbeats 100000 in
theorem ek_fr_l_r5 (X : ez_X) (g : Nat → Int64) (i : Int32) (q161 : Int32) (cz kz : Nat) : ∀ G : ez_F, fx_up X 1 G 74 45 [.ref 32, .int 0, .int 1024, .int 0, .int i] [.int 0, .int q161] (ev_hp (ev_sI ev_I0 6 (upd (upd (ev_I0 6) 4 1) 3 1)) (ev_sJ ev_J0 34 g) (ev_sR ev_R0 0 65) ([.inl (1, .inl (upd (fun _ => 0) 0 0))] : List ez_C)) cz kz = bif decide (0 ≤ q161) then G 74 52 [.ref 32, .int 0, .int 1024, .int 0, .int i] [] (ev_hp (ev_sI ev_I0 6 (upd (upd (ev_I0 6) 4 1) 3 1)) (ev_sJ ev_J0 34 g) (ev_sR ev_R0 0 65) ([.inl (1, .inl (upd (fun _ => 0) 0 0))] : List ez_C)) cz kz else G 74 48 [.ref 32, .int 0, .int 1024, .int 0, .int i] [] (ev_hp (ev_sI ev_I0 6 (upd (upd (ev_I0 6) 4 1) 3 1)) (ev_sJ ev_J0 34 g) (ev_sR ev_R0 0 65) ([.inl (1, .inl (upd (fun _ => 0) 0 0))] : List ez_C)) cz kz := by
  intro G
  rfl
set_option maxRecDepth 100000 in
set_option maxHeartbeats 100000 in
theorem ek_fr_l_r6 (X : ez_X) (g : Nat → Int64) (i : Int32) (q161 : Int32) (cz kz : Nat) : ∀ G : ez_F, fx_up X 6 G 74 52 [.ref 32, .int 0, .int 1024, .int 0, .int i] [] (ev_hp (ev_sI ev_I0 6 (upd (upd (ev_I0 6) 4 1) 3 1)) (ev_sJ ev_J0 34 g) (ev_sR ev_R0 0 65) ([.inl (1, .inl (upd (fun _ => 0) 0 0))] : List ez_C)) cz kz = G 74 25 [.ref 32, .int 0, .int 1024, .int 0, .int (i + (1 : Int32)), .int 0] [] (ev_hp (ev_sI ev_I0 6 (upd (upd (ev_I0 6) 4 1) 3 1)) (ev_sJ ev_J0 34 g) (ev_sR ev_R0 0 65) ([.inl (1, .inl (upd (fun _ => 0) 0 0))] : List ez_C)) cz kz := by
  intro G
  rfl
theorem ek_fr_l (X : ez_X) (g : Nat → Int64)  : ∀ (n : Nat) (i : Int32), ((1024 : Int32).toInt - i.toInt).toNat < n → ev_W X 74 25 [.ref 32, .int 0, .int 1024, .int 0, .int i] [] (ev_hp (ev_sI ev_I0 6 (upd (upd (ev_I0 6) 4 1) 3 1)) (ev_sJ ev_J0 34 g) (ev_sR ev_R0 0 65) ([.inl (1, .inl (upd (fun _ => 0) 0 0))] : List ez_C)) 0 0 (ev_is (some (.int 0)) (ev_hp (ev_sI ev_I0 6 (upd (upd (ev_I0 6) 4 1) 3 1)) (ev_sJ ev_J0 34 g) (ev_sR ev_R0 0 65) ([.inl (1, .inl (upd (fun _ => 0) 0 0))] : List ez_C))) := by
  intro n
  induction n with
  | zero => intro i hm; exact absurd hm (Nat.not_lt_zero _)
  | succ n ih =>
    intro i hm
    refine ev_if (ek_fr_l_r1 X g i _ _) (fun b1 => ?_) (fun b1 => ?_)
    · replace b1 := of_decide_eq_true b1
      refine ev_ret (ek_fr_l_r2 X g i _ _) ?_
      exact ⟨rfl, rfl, rfl, rfl⟩
    · replace b1 := of_decide_eq_false b1
      refine ev_call (ek_fr_l_r3 X g i _ _) (ec_bcI X (ev_hp (ev_sI ev_I0 6 (upd (upd (ev_I0 6) 4 1) 3 1)) (ev_sJ ev_J0 34 g) (ev_sR ev_R0 0 65) ([.inl (1, .inl (upd (fun _ => 0) 0 0))] : List ez_C)) i) ?_
      rintro _ _ _ _ ⟨rfl, rfl, rfl, rfl⟩
      generalize hq161 : (ev_bcI i) = q161
      refine ev_call (ek_fr_l_r4 X g i q161 _ _) (sp_c_258_bitCount X g i q161) ?_
      rintro _ _ _ _ ⟨rfl, rfl, rfl, rfl⟩
      refine ev_if (ek_fr_l_r5 X g i q161 _ _) (fun b2 => ?_) (fun b2 => ?_)
      · replace b2 := of_decide_eq_true b2
        refine ev_seg (ek_fr_l_r6 X g i q161 _ _) ?_
        refine ev_cutl (by rfl) ?_
        exact ih _ (ev_up hm b1)
      · replace b2 := of_decide_eq_false b2
        exact absurd (by rw [← hq161]; exact ev_bc0z _) b2
set_option maxRecDepth 100000 in
set_option maxHeartbeats 100000 in
theorem sp_c_259_rimTotal_r1 (X : ez_X)  (cz kz : Nat) : ∀ G : ez_F, fx_up X 6 G 151 0 [.ref 1] [] (ev_hp (ev_sI ev_I0 6 (upd (upd (ev_I0 6) 4 1) 3 1)) ev_J0 (ev_sR ev_R0 0 65) ([.inl (1, .inl (upd (fun _ => 0) 0 0))] : List ez_C)) cz kz = some (some (.int 10), (ev_hp (ev_sI ev_I0 6 (upd (upd (ev_I0 6) 4 1) 3 1)) ev_J0 (ev_sR ev_R0 0 65) ([.inl (1, .inl (upd (fun _ => 0) 0 0))] : List ez_C)), cz, kz) := by
  intro G
  rfl
theorem sp_c_259_rimTotal (X : ez_X)  : ev_W X 151 0 (ez_lay [.ref 1]) [] (ev_hp (ev_sI ev_I0 6 (upd (upd (ev_I0 6) 4 1) 3 1)) ev_J0 (ev_sR ev_R0 0 65) ([.inl (1, .inl (upd (fun _ => 0) 0 0))] : List ez_C)) 0 0 (fun r h1 c1 k1 => r = (some (.int 10)) ∧ h1 = (ev_hp (ev_sI ev_I0 6 (upd (upd (ev_I0 6) 4 1) 3 1)) ev_J0 (ev_sR ev_R0 0 65) ([.inl (1, .inl (upd (fun _ => 0) 0 0))] : List ez_C)) ∧ c1 = 0 ∧ k1 = 0) := by
  refine ev_ret (sp_c_259_rimTotal_r1 X  _ _) ?_
  exact ⟨rfl, rfl, rfl, rfl⟩
set_option maxRecDepth 100000 in
set_option maxHeartbeats 100000 in
theorem ek_few_r1 (X : ez_X)  (cz kz : Nat) : ∀ G : ez_F, fx_up X 4 G 74 0 [.ref 32, .int 0] [] (ev_hp (ev_sI ev_I0 6 (upd (upd (ev_I0 6) 4 1) 3 1)) ev_J0 (ev_sR ev_R0 0 65) ([.inl (1, .inl (upd (fun _ => 0) 0 0))] : List ez_C)) cz kz = ev_C G 151 [.ref 1] (ev_hp (ev_sI ev_I0 6 (upd (upd (ev_I0 6) 4 1) 3 1)) ev_J0 (ev_sR ev_R0 0 65) ([.inl (1, .inl (upd (fun _ => 0) 0 0))] : List ez_C)) fun r h1 c1 k1 => G 74 8 [.ref 32, .int 0] (r.toList ++ [.int 1]) h1 (cz + c1) (kz + k1) := by
  intro G
  rfl
set_option maxRecDepth 100000 in
set_option maxHeartbeats 100000 in
theorem ek_few_r2 (X : ez_X)  (cz kz : Nat) : ∀ G : ez_F, fx_up X 5 G 74 8 [.ref 32, .int 0] [.int 10, .int 1] (ev_hp (ev_sI ev_I0 6 (upd (upd (ev_I0 6) 4 1) 3 1)) ev_J0 (ev_sR ev_R0 0 65) ([.inl (1, .inl (upd (fun _ => 0) 0 0))] : List ez_C)) cz kz = ev_C G 79 [.ref 32, .int 0] (ev_hp (ev_sI ev_I0 6 (upd (upd (ev_I0 6) 4 1) 3 1)) ev_J0 (ev_sR ev_R0 0 65) ([.inl (1, .inl (upd (fun _ => 0) 0 0))] : List ez_C)) fun r h1 c1 k1 => G 74 15 [.ref 32, .int 0, .int 1024] (r.toList ++ []) h1 (cz + c1) (kz + k1) := by
  intro G
  rfl
set_option maxRecDepth 100000 in
set_option maxHeartbeats 100000 in
theorem ek_few_r3 (X : ez_X) (g : Nat → Int64) (cz kz : Nat) : ∀ G : ez_F, fx_up X 3 G 74 15 [.ref 32, .int 0, .int 1024] [] (ev_hp (ev_sI ev_I0 6 (upd (upd (ev_I0 6) 4 1) 3 1)) (ev_sJ ev_J0 34 g) (ev_sR ev_R0 0 65) ([.inl (1, .inl (upd (fun _ => 0) 0 0))] : List ez_C)) cz kz = ev_C G 80 [.ref 32, .int 1024] (ev_hp (ev_sI ev_I0 6 (upd (upd (ev_I0 6) 4 1) 3 1)) (ev_sJ ev_J0 34 g) (ev_sR ev_R0 0 65) ([.inl (1, .inl (upd (fun _ => 0) 0 0))] : List ez_C)) fun r h1 c1 k1 => G 74 20 [.ref 32, .int 0, .int 1024] (r.toList ++ []) h1 (cz + c1) (kz + k1) := by
  intro G
  rfl
set_option maxRecDepth 100000 in
set_option maxHeartbeats 100000 in
theorem ek_few_r4 (X : ez_X) (g : Nat → Int64) (cz kz : Nat) : ∀ G : ez_F, fx_up X 4 G 74 20 [.ref 32, .int 0, .int 1024] [] (ev_hp (ev_sI ev_I0 6 (upd (upd (ev_I0 6) 4 1) 3 1)) (ev_sJ ev_J0 34 g) (ev_sR ev_R0 0 65) ([.inl (1, .inl (upd (fun _ => 0) 0 0))] : List ez_C)) cz kz = G 74 25 [.ref 32, .int 0, .int 1024, .int (-1), .int 0] [] (ev_hp (ev_sI ev_I0 6 (upd (upd (ev_I0 6) 4 1) 3 1)) (ev_sJ ev_J0 34 g) (ev_sR ev_R0 0 65) ([.inl (1, .inl (upd (fun _ => 0) 0 0))] : List ez_C)) cz kz := by
  intro G
  rfl
set_option maxRecDepth 100000 in
set_option maxHeartbeats 100000 in
theorem ek_few_r5 (X : ez_X) (g : Nat → Int64) (cz kz : Nat) : ∀ G : ez_F, fx_up X 18 G 74 25 [.ref 32, .int 0, .int 1024, .int (-1), .int 0] [] (ev_hp (ev_sI ev_I0 6 (upd (upd (ev_I0 6) 4 1) 3 1)) (ev_sJ ev_J0 34 g) (ev_sR ev_R0 0 65) ([.inl (1, .inl (upd (fun _ => 0) 0 0))] : List ez_C)) cz kz = ev_C G 78 [.ref 32, .int 1023] (ev_hp (ev_sI ev_I0 6 (upd (upd (ev_I0 6) 4 1) 3 1)) (ev_sJ ev_J0 34 g) (ev_sR ev_R0 0 65) ([.inl (1, .inl (upd (fun _ => 0) 0 0))] : List ez_C)) fun r h1 c1 k1 => G 74 70 [.ref 32, .int 0, .int 1024, .int (-1), .int 0, .int 1] (r.toList ++ []) h1 (cz + c1) (kz + k1) := by
  intro G
  rfl
set_option maxRecDepth 100000 in
set_option maxHeartbeats 100000 in
theorem ek_few_r6 (X : ez_X) (g : Nat → Int64) (cz kz : Nat) : ∀ G : ez_F, fx_up X 5 G 74 70 [.ref 32, .int 0, .int 1024, .int (-1), .int 0, .int 1] [.int 0] (ev_hp (ev_sI ev_I0 6 (upd (upd (ev_I0 6) 4 1) 3 1)) (ev_sJ ev_J0 34 g) (ev_sR ev_R0 0 65) ([.inl (1, .inl (upd (fun _ => 0) 0 0))] : List ez_C)) cz kz = G 74 25 [.ref 32, .int 0, .int 1024, .int 0, .int 1, .int 1] [] (ev_hp (ev_sI ev_I0 6 (upd (upd (ev_I0 6) 4 1) 3 1)) (ev_sJ ev_J0 34 g) (ev_sR ev_R0 0 65) ([.inl (1, .inl (upd (fun _ => 0) 0 0))] : List ez_C)) cz kz := by
  intro G
  rfl
theorem ek_few (X : ez_X)   : ev_W X 74 0 (ez_lay [.ref 32, .int 0]) [] (ev_hp (ev_sI ev_I0 6 (upd (upd (ev_I0 6) 4 1) 3 1)) ev_J0 (ev_sR ev_R0 0 65) ([.inl (1, .inl (upd (fun _ => 0) 0 0))] : List ez_C)) 0 0 (fun r h1 c1 k1 => r = some (.int 0) ∧ (∃ g : Nat → Int64, (∀ j, g j = 0) ∧ h1 = (ev_hp (ev_sI ev_I0 6 (upd (upd (ev_I0 6) 4 1) 3 1)) (ev_sJ ev_J0 34 g) (ev_sR ev_R0 0 65) ([.inl (1, .inl (upd (fun _ => 0) 0 0))] : List ez_C))) ∧ c1 = 0 ∧ k1 = 0) := by
  refine ev_call (ek_few_r1 X  _ _) (sp_c_259_rimTotal X) ?_
  rintro _ _ _ _ ⟨rfl, rfl, rfl, rfl⟩
  refine ev_call (ek_few_r2 X  _ _) (ek_mark X) ?_
  rintro _ _ _ _ ⟨rfl, ⟨g, hg, rfl⟩, rfl, rfl⟩
  refine ev_call (ek_few_r3 X g _ _) (ek_spread X g hg) ?_
  rintro _ _ _ _ ⟨rfl, rfl, rfl, rfl⟩
  refine ev_seg (ek_few_r4 X g _ _) ?_
  refine ev_call (ek_few_r5 X g _ _) (ek_hid X 1023 g hg) ?_
  rintro _ _ _ _ ⟨rfl, rfl, rfl, rfl⟩
  refine ev_seg (ek_few_r6 X g _ _) ?_
  refine ev_cutl (by rfl) ?_
  exact ev_W.mono (ek_fr_l X g _ _ (Nat.lt_succ_self _)) (fun r h1 c1 k1 hz => ⟨hz.1, ⟨g, hg, hz.2.1⟩, hz.2.2⟩)
set_option maxRecDepth 100000 in
set_option maxHeartbeats 100000 in
theorem sp_c_261_within_r1 (X : ez_X)  (cz kz : Nat) : ∀ G : ez_F, fx_up X 9 G 55 0 [.int 0, .int 0, .int 0] [] (ev_hp (ev_sI ev_I0 6 (upd (upd (ev_I0 6) 4 1) 3 1)) ev_J0 (ev_sR ev_R0 0 65) ([.inl (1, .inl (upd (fun _ => 0) 0 0))] : List ez_C)) cz kz = some (some (.int 1), (ev_hp (ev_sI ev_I0 6 (upd (upd (ev_I0 6) 4 1) 3 1)) ev_J0 (ev_sR ev_R0 0 65) ([.inl (1, .inl (upd (fun _ => 0) 0 0))] : List ez_C)), cz, kz) := by
  intro G
  rfl
theorem sp_c_261_within (X : ez_X)  : ev_W X 55 0 (ez_lay [.int 0, .int 0, .int 0]) [] (ev_hp (ev_sI ev_I0 6 (upd (upd (ev_I0 6) 4 1) 3 1)) ev_J0 (ev_sR ev_R0 0 65) ([.inl (1, .inl (upd (fun _ => 0) 0 0))] : List ez_C)) 0 0 (fun r h1 c1 k1 => r = (some (.int 1)) ∧ h1 = (ev_hp (ev_sI ev_I0 6 (upd (upd (ev_I0 6) 4 1) 3 1)) ev_J0 (ev_sR ev_R0 0 65) ([.inl (1, .inl (upd (fun _ => 0) 0 0))] : List ez_C)) ∧ c1 = 0 ∧ k1 = 0) := by
  refine ev_ret (sp_c_261_within_r1 X  _ _) ?_
  exact ⟨rfl, rfl, rfl, rfl⟩
set_option maxRecDepth 100000 in
set_option maxHeartbeats 100000 in
theorem sp_c_260_isLaying_r1 (X : ez_X)  (cz kz : Nat) : ∀ G : ez_F, fx_up X 8 G 23 0 [.ref 0, .int 0] [] (ev_hp (ev_sI ev_I0 6 (upd (upd (ev_I0 6) 4 1) 3 1)) ev_J0 (ev_sR ev_R0 0 65) ([.inl (1, .inl (upd (fun _ => 0) 0 0))] : List ez_C)) cz kz = ev_C G 55 [.int 0, .int 0, .int 0] (ev_hp (ev_sI ev_I0 6 (upd (upd (ev_I0 6) 4 1) 3 1)) ev_J0 (ev_sR ev_R0 0 65) ([.inl (1, .inl (upd (fun _ => 0) 0 0))] : List ez_C)) fun r h1 c1 k1 => G 23 14 [.ref 0, .int 0] (r.toList ++ []) h1 (cz + c1) (kz + k1) := by
  intro G
  rfl
set_option maxRecDepth 100000 in
set_option maxHeartbeats 100000 in
theorem sp_c_260_isLaying_r2 (X : ez_X)  (cz kz : Nat) : ∀ G : ez_F, fx_up X 1 G 23 14 [.ref 0, .int 0] [.int 1] (ev_hp (ev_sI ev_I0 6 (upd (upd (ev_I0 6) 4 1) 3 1)) ev_J0 (ev_sR ev_R0 0 65) ([.inl (1, .inl (upd (fun _ => 0) 0 0))] : List ez_C)) cz kz = some (some (.int 1), (ev_hp (ev_sI ev_I0 6 (upd (upd (ev_I0 6) 4 1) 3 1)) ev_J0 (ev_sR ev_R0 0 65) ([.inl (1, .inl (upd (fun _ => 0) 0 0))] : List ez_C)), cz, kz) := by
  intro G
  rfl
theorem sp_c_260_isLaying (X : ez_X)  : ev_W X 23 0 (ez_lay [.ref 0, .int 0]) [] (ev_hp (ev_sI ev_I0 6 (upd (upd (ev_I0 6) 4 1) 3 1)) ev_J0 (ev_sR ev_R0 0 65) ([.inl (1, .inl (upd (fun _ => 0) 0 0))] : List ez_C)) 0 0 (fun r h1 c1 k1 => r = (some (.int 1)) ∧ h1 = (ev_hp (ev_sI ev_I0 6 (upd (upd (ev_I0 6) 4 1) 3 1)) ev_J0 (ev_sR ev_R0 0 65) ([.inl (1, .inl (upd (fun _ => 0) 0 0))] : List ez_C)) ∧ c1 = 0 ∧ k1 = 0) := by
  refine ev_call (sp_c_260_isLaying_r1 X  _ _) (sp_c_261_within X) ?_
  rintro _ _ _ _ ⟨rfl, rfl, rfl, rfl⟩
  refine ev_ret (sp_c_260_isLaying_r2 X  _ _) ?_
  exact ⟨rfl, rfl, rfl, rfl⟩
set_option maxRecDepth 100000 in
set_option maxHeartbeats 100000 in
theorem ek_clues_r1 (X : ez_X)  (cz kz : Nat) : ∀ G : ez_F, fx_up X 2 G 13 0 [.ref 0, .int 0] [] (ev_hp ev_I0 ev_J0 ev_R0 []) cz kz = ev_C G 15 [.ref 0] (ev_hp ev_I0 ev_J0 ev_R0 []) fun r h1 c1 k1 => G 13 4 [.ref 0, .int 0] (r.toList ++ []) h1 (cz + c1) (kz + k1) := by
  intro G
  rfl
set_option maxRecDepth 100000 in
set_option maxHeartbeats 100000 in
theorem ek_clues_r2 (X : ez_X)  (cz kz : Nat) : ∀ G : ez_F, fx_up X 4 G 13 4 [.ref 0, .int 0] [.int 0] (ev_hp (ev_sI ev_I0 6 (upd (upd (ev_I0 6) 4 1) 3 1)) ev_J0 (ev_sR ev_R0 0 65) ([.inl (1, .inl (upd (fun _ => 0) 0 0))] : List ez_C)) cz kz = ev_C G 23 [.ref 0, .int 0] (ev_hp (ev_sI ev_I0 6 (upd (upd (ev_I0 6) 4 1) 3 1)) ev_J0 (ev_sR ev_R0 0 65) ([.inl (1, .inl (upd (fun _ => 0) 0 0))] : List ez_C)) fun r h1 c1 k1 => G 13 15 [.ref 0, .int 0] (r.toList ++ []) h1 (cz + c1) (kz + k1) := by
  intro G
  rfl
set_option maxRecDepth 100000 in
set_option maxHeartbeats 100000 in
theorem ek_clues_r3 (X : ez_X)  (cz kz : Nat) : ∀ G : ez_F, fx_up X 5 G 13 15 [.ref 0, .int 0] [.int 1] (ev_hp (ev_sI ev_I0 6 (upd (upd (ev_I0 6) 4 1) 3 1)) ev_J0 (ev_sR ev_R0 0 65) ([.inl (1, .inl (upd (fun _ => 0) 0 0))] : List ez_C)) cz kz = ev_C G 74 [.ref 32, .int 0] (ev_hp (ev_sI ev_I0 6 (upd (upd (ev_I0 6) 4 1) 3 1)) ev_J0 (ev_sR ev_R0 0 65) ([.inl (1, .inl (upd (fun _ => 0) 0 0))] : List ez_C)) fun r h1 c1 k1 => G 13 26 [.ref 0, .int 0] (r.toList ++ []) h1 (cz + c1) (kz + k1) := by
  intro G
  rfl
set_option maxRecDepth 100000 in
set_option maxHeartbeats 100000 in
theorem ek_clues_r4 (X : ez_X) (g : Nat → Int64) (cz kz : Nat) : ∀ G : ez_F, fx_up X 2 G 13 26 [.ref 0, .int 0] [.int 0] (ev_hp (ev_sI ev_I0 6 (upd (upd (ev_I0 6) 4 1) 3 1)) (ev_sJ ev_J0 34 g) (ev_sR ev_R0 0 65) ([.inl (1, .inl (upd (fun _ => 0) 0 0))] : List ez_C)) cz kz = some (some (.int 0), (ev_hp (ev_sI ev_I0 6 (upd (upd (ev_I0 6) 4 1) 3 1)) (ev_sJ ev_J0 34 g) (ev_sR ev_R0 0 65) ([.inl (1, .inl (upd (fun _ => 0) 0 0))] : List ez_C)), cz, kz) := by
  intro G
  rfl
theorem ek_clues (X : ez_X)   : ev_W X 13 0 (ez_lay [.ref 0, .int 0]) [] (ev_hp ev_I0 ev_J0 ev_R0 []) 0 0 (fun r h1 c1 k1 => r = some (.int 0) ∧ (∃ g : Nat → Int64, (∀ j, g j = 0) ∧ h1 = (ev_hp (ev_sI ev_I0 6 (upd (upd (ev_I0 6) 4 1) 3 1)) (ev_sJ ev_J0 34 g) (ev_sR ev_R0 0 65) ([.inl (1, .inl (upd (fun _ => 0) 0 0))] : List ez_C))) ∧ c1 = 1 ∧ k1 = 1) := by
  refine ev_call (ek_clues_r1 X  _ _) (sp_c_217_crowded X) ?_
  rintro _ _ _ _ ⟨rfl, rfl, rfl, rfl⟩
  refine ev_call (ek_clues_r2 X  _ _) (sp_c_260_isLaying X) ?_
  rintro _ _ _ _ ⟨rfl, rfl, rfl, rfl⟩
  refine ev_call (ek_clues_r3 X  _ _) (ek_few X) ?_
  rintro _ _ _ _ ⟨rfl, ⟨g, hg, rfl⟩, rfl, rfl⟩
  refine ev_ret (ek_clues_r4 X g _ _) ?_
  exact ⟨rfl, ⟨_, hg, rfl⟩, rfl, rfl⟩
set_option maxRecDepth 100000 in
set_option maxHeartbeats 100000 in
theorem ek_mc_l_r1 (X : ez_X) (g : Nat → Int64) (i : Int32) (cz kz : Nat) : ∀ G : ez_F, fx_up X 9 G 181 144 [.ref 35, .int 0, .long 0, ez_fill, .int 0, .int 0, .int i] [] (ev_hp (ev_sI (ev_sI (ev_sI ev_I0 6 (upd (upd (ev_I0 6) 4 1) 3 1)) 35 (upd (ev_I0 35) 14 1)) 41 (upd (upd (upd (ev_I0 41) 0 0) 1 0) 2 0)) (ev_sJ ev_J0 34 g) (ev_sR ev_R0 0 65) ([.inl (1, .inl (upd (fun _ => 0) 0 0))] : List ez_C)) cz kz = bif decide (1024 ≤ i) then G 181 245 [.ref 35, .int 0, .long 0, ez_fill, .int 0, .int 0, .int i] [] (ev_hp (ev_sI (ev_sI (ev_sI ev_I0 6 (upd (upd (ev_I0 6) 4 1) 3 1)) 35 (upd (ev_I0 35) 14 1)) 41 (upd (upd (upd (ev_I0 41) 0 0) 1 0) 2 0)) (ev_sJ ev_J0 34 g) (ev_sR ev_R0 0 65) ([.inl (1, .inl (upd (fun _ => 0) 0 0))] : List ez_C)) cz kz else G 181 160 [.ref 35, .int 0, .long 0, ez_fill, .int 0, .int 0, .int i] [] (ev_hp (ev_sI (ev_sI (ev_sI ev_I0 6 (upd (upd (ev_I0 6) 4 1) 3 1)) 35 (upd (ev_I0 35) 14 1)) 41 (upd (upd (upd (ev_I0 41) 0 0) 1 0) 2 0)) (ev_sJ ev_J0 34 g) (ev_sR ev_R0 0 65) ([.inl (1, .inl (upd (fun _ => 0) 0 0))] : List ez_C)) cz kz := by
  intro G
  rfl
set_option maxRecDepth 100000 in
set_option maxHeartbeats 100000 in
theorem ek_mc_l_r2 (X : ez_X) (g : Nat → Int64) (i : Int32) (cz kz : Nat) : ∀ G : ez_F, fx_up X 2 G 181 245 [.ref 35, .int 0, .long 0, ez_fill, .int 0, .int 0, .int i] [] (ev_hp (ev_sI (ev_sI (ev_sI ev_I0 6 (upd (upd (ev_I0 6) 4 1) 3 1)) 35 (upd (ev_I0 35) 14 1)) 41 (upd (upd (upd (ev_I0 41) 0 0) 1 0) 2 0)) (ev_sJ ev_J0 34 g) (ev_sR ev_R0 0 65) ([.inl (1, .inl (upd (fun _ => 0) 0 0))] : List ez_C)) cz kz = some (some (.int 0), (ev_hp (ev_sI (ev_sI (ev_sI ev_I0 6 (upd (upd (ev_I0 6) 4 1) 3 1)) 35 (upd (ev_I0 35) 14 1)) 41 (upd (upd (upd (ev_I0 41) 0 0) 1 0) 2 0)) (ev_sJ ev_J0 34 g) (ev_sR ev_R0 0 65) ([.inl (1, .inl (upd (fun _ => 0) 0 0))] : List ez_C)), cz, kz) := by
  intro G
  rfl
set_option maxRecDepth 100000 in
set_option maxHeartbeats 100000 in
theorem ek_mc_l_r3 (X : ez_X) (g : Nat → Int64) (i : Int32) (cz kz : Nat) : ∀ G : ez_F, fx_up X 6 G 181 160 [.ref 35, .int 0, .long 0, ez_fill, .int 0, .int 0, .int i] [] (ev_hp (ev_sI (ev_sI (ev_sI ev_I0 6 (upd (upd (ev_I0 6) 4 1) 3 1)) 35 (upd (ev_I0 35) 14 1)) 41 (upd (upd (upd (ev_I0 41) 0 0) 1 0) 2 0)) (ev_sJ ev_J0 34 g) (ev_sR ev_R0 0 65) ([.inl (1, .inl (upd (fun _ => 0) 0 0))] : List ez_C)) cz kz = ev_C G 171 [.long (i.toInt64)] (ev_hp (ev_sI (ev_sI (ev_sI ev_I0 6 (upd (upd (ev_I0 6) 4 1) 3 1)) 35 (upd (ev_I0 35) 14 1)) 41 (upd (upd (upd (ev_I0 41) 0 0) 1 0) 2 0)) (ev_sJ ev_J0 34 g) (ev_sR ev_R0 0 65) ([.inl (1, .inl (upd (fun _ => 0) 0 0))] : List ez_C)) fun r h1 c1 k1 => G 181 172 [.ref 35, .int 0, .long 0, ez_fill, .int 0, .int 0, .int i] (r.toList ++ []) h1 (cz + c1) (kz + k1) := by
  intro G
  rfl
set_option maxRecDepth 100000 in
set_option maxHeartbeats 100000 in
theorem ek_mc_l_r4 (X : ez_X) (g : Nat → Int64) (i : Int32) (q162 : Int32) (cz kz : Nat) : ∀ G : ez_F, fx_up X 3 G 181 172 [.ref 35, .int 0, .long 0, ez_fill, .int 0, .int 0, .int i] [.int q162] (ev_hp (ev_sI (ev_sI (ev_sI ev_I0 6 (upd (upd (ev_I0 6) 4 1) 3 1)) 35 (upd (ev_I0 35) 14 1)) 41 (upd (upd (upd (ev_I0 41) 0 0) 1 0) 2 0)) (ev_sJ ev_J0 34 g) (ev_sR ev_R0 0 65) ([.inl (1, .inl (upd (fun _ => 0) 0 0))] : List ez_C)) cz kz = ev_C G 171 [.long 0] (ev_hp (ev_sI (ev_sI (ev_sI ev_I0 6 (upd (upd (ev_I0 6) 4 1) 3 1)) 35 (upd (ev_I0 35) 14 1)) 41 (upd (upd (upd (ev_I0 41) 0 0) 1 0) 2 0)) (ev_sJ ev_J0 34 g) (ev_sR ev_R0 0 65) ([.inl (1, .inl (upd (fun _ => 0) 0 0))] : List ez_C)) fun r h1 c1 k1 => G 181 178 [.ref 35, .int 0, .long 0, ez_fill, .int 0, .int 0, .int i] (r.toList ++ [.int q162]) h1 (cz + c1) (kz + k1) := by
  intro G
  rfl
set_option maxRecDepth 100000 in
set_option maxHeartbeats 100000 in
theorem ek_mc_l_r5 (X : ez_X) (g : Nat → Int64) (i : Int32) (q162 : Int32) (q163 : Int32) (cz kz : Nat) : ∀ G : ez_F, fx_up X 1 G 181 178 [.ref 35, .int 0, .long 0, ez_fill, .int 0, .int 0, .int i] [.int q163, .int q162] (ev_hp (ev_sI (ev_sI (ev_sI ev_I0 6 (upd (upd (ev_I0 6) 4 1) 3 1)) 35 (upd (ev_I0 35) 14 1)) 41 (upd (upd (upd (ev_I0 41) 0 0) 1 0) 2 0)) (ev_sJ ev_J0 34 g) (ev_sR ev_R0 0 65) ([.inl (1, .inl (upd (fun _ => 0) 0 0))] : List ez_C)) cz kz = bif decide (q163 ≤ q162) then G 181 239 [.ref 35, .int 0, .long 0, ez_fill, .int 0, .int 0, .int i] [] (ev_hp (ev_sI (ev_sI (ev_sI ev_I0 6 (upd (upd (ev_I0 6) 4 1) 3 1)) 35 (upd (ev_I0 35) 14 1)) 41 (upd (upd (upd (ev_I0 41) 0 0) 1 0) 2 0)) (ev_sJ ev_J0 34 g) (ev_sR ev_R0 0 65) ([.inl (1, .inl (upd (fun _ => 0) 0 0))] : List ez_C)) cz kz else G 181 181 [.ref 35, .int 0, .long 0, ez_fill, .int 0, .int 0, .int i] [] (ev_hp (ev_sI (ev_sI (ev_sI ev_I0 6 (upd (upd (ev_I0 6) 4 1) 3 1)) 35 (upd (ev_I0 35) 14 1)) 41 (upd (upd (upd (ev_I0 41) 0 0) 1 0) 2 0)) (ev_sJ ev_J0 34 g) (ev_sR ev_R0 0 65) ([.inl (1, .inl (upd (fun _ => 0) 0 0))] : List ez_C)) cz kz := by
  intro G
  rfl
set_option maxRecDepth 100000 in
set_option maxHeartbeats 100000 in
theorem ek_mc_l_r6 (X : ez_X) (g : Nat → Int64) (i : Int32) (q162 : Int32) (q163 : Int32) (cz kz : Nat) : ∀ G : ez_F, fx_up X 2 G 181 239 [.ref 35, .int 0, .long 0, ez_fill, .int 0, .int 0, .int i] [] (ev_hp (ev_sI (ev_sI (ev_sI ev_I0 6 (upd (upd (ev_I0 6) 4 1) 3 1)) 35 (upd (ev_I0 35) 14 1)) 41 (upd (upd (upd (ev_I0 41) 0 0) 1 0) 2 0)) (ev_sJ ev_J0 34 g) (ev_sR ev_R0 0 65) ([.inl (1, .inl (upd (fun _ => 0) 0 0))] : List ez_C)) cz kz = G 181 144 [.ref 35, .int 0, .long 0, ez_fill, .int 0, .int 0, .int (i + (1 : Int32))] [] (ev_hp (ev_sI (ev_sI (ev_sI ev_I0 6 (upd (upd (ev_I0 6) 4 1) 3 1)) 35 (upd (ev_I0 35) 14 1)) 41 (upd (upd (upd (ev_I0 41) 0 0) 1 0) 2 0)) (ev_sJ ev_J0 34 g) (ev_sR ev_R0 0 65) ([.inl (1, .inl (upd (fun _ => 0) 0 0))] : List ez_C)) cz kz := by
  intro G
  rfl
theorem ek_mc_l (X : ez_X) (g : Nat → Int64)  : ∀ (n : Nat) (i : Int32), ((1024 : Int32).toInt - i.toInt).toNat < n → ev_W X 181 144 [.ref 35, .int 0, .long 0, ez_fill, .int 0, .int 0, .int i] [] (ev_hp (ev_sI (ev_sI (ev_sI ev_I0 6 (upd (upd (ev_I0 6) 4 1) 3 1)) 35 (upd (ev_I0 35) 14 1)) 41 (upd (upd (upd (ev_I0 41) 0 0) 1 0) 2 0)) (ev_sJ ev_J0 34 g) (ev_sR ev_R0 0 65) ([.inl (1, .inl (upd (fun _ => 0) 0 0))] : List ez_C)) 0 0 (ev_is (some (.int 0)) (ev_hp (ev_sI (ev_sI (ev_sI ev_I0 6 (upd (upd (ev_I0 6) 4 1) 3 1)) 35 (upd (ev_I0 35) 14 1)) 41 (upd (upd (upd (ev_I0 41) 0 0) 1 0) 2 0)) (ev_sJ ev_J0 34 g) (ev_sR ev_R0 0 65) ([.inl (1, .inl (upd (fun _ => 0) 0 0))] : List ez_C))) := by
  intro n
  induction n with
  | zero => intro i hm; exact absurd hm (Nat.not_lt_zero _)
  | succ n ih =>
    intro i hm
    refine ev_if (ek_mc_l_r1 X g i _ _) (fun b1 => ?_) (fun b1 => ?_)
    · replace b1 := of_decide_eq_true b1
      refine ev_ret (ek_mc_l_r2 X g i _ _) ?_
      exact ⟨rfl, rfl, rfl, rfl⟩
    · replace b1 := of_decide_eq_false b1
      refine ev_call (ek_mc_l_r3 X g i _ _) (em_bits X (ev_hp (ev_sI (ev_sI (ev_sI ev_I0 6 (upd (upd (ev_I0 6) 4 1) 3 1)) 35 (upd (ev_I0 35) 14 1)) 41 (upd (upd (upd (ev_I0 41) 0 0) 1 0) 2 0)) (ev_sJ ev_J0 34 g) (ev_sR ev_R0 0 65) ([.inl (1, .inl (upd (fun _ => 0) 0 0))] : List ez_C)) (i.toInt64)) ?_
      rintro _ _ _ _ ⟨rfl, rfl, rfl, rfl⟩
      generalize hq162 : (ev_bits (i.toInt64)) = q162
      refine ev_call (ek_mc_l_r4 X g i q162 _ _) (em_bits X (ev_hp (ev_sI (ev_sI (ev_sI ev_I0 6 (upd (upd (ev_I0 6) 4 1) 3 1)) 35 (upd (ev_I0 35) 14 1)) 41 (upd (upd (upd (ev_I0 41) 0 0) 1 0) 2 0)) (ev_sJ ev_J0 34 g) (ev_sR ev_R0 0 65) ([.inl (1, .inl (upd (fun _ => 0) 0 0))] : List ez_C)) 0) ?_
      rintro _ _ _ _ ⟨rfl, rfl, rfl, rfl⟩
      generalize hq163 : (ev_bits 0) = q163
      refine ev_if (ek_mc_l_r5 X g i q162 q163 _ _) (fun b2 => ?_) (fun b2 => ?_)
      · replace b2 := of_decide_eq_true b2
        refine ev_seg (ek_mc_l_r6 X g i q162 q163 _ _) ?_
        exact ih _ (ev_up hm b1)
      · replace b2 := of_decide_eq_false b2
        exact absurd (by rw [← hq163, ← hq162]; exact ev_bits0 _) b2
set_option maxRecDepth 100000 in
set_option maxHeartbeats 100000 in
theorem sp_c_1269_areLaid_r1 (X : ez_X) (g : Nat → Int64) (cz kz : Nat) : ∀ G : ez_F, fx_up X 24 G 167 0 [.ref 35] [] (ev_hp (ev_sI ev_I0 6 (upd (upd (ev_I0 6) 4 1) 3 1)) (ev_sJ ev_J0 34 g) (ev_sR ev_R0 0 65) ([.inl (1, .inl (upd (fun _ => 0) 0 0))] : List ez_C)) cz kz = G 167 83 [.ref 35, .long 1, ez_fill, .int 1] [] (ev_hp (ev_sI (ev_sI ev_I0 6 (upd (upd (ev_I0 6) 4 1) 3 1)) 35 (upd (ev_I0 35) 14 0)) (ev_sJ ev_J0 34 g) (ev_sR ev_R0 0 65) ([.inl (1, .inl (upd (fun _ => 0) 0 0))] : List ez_C)) cz kz := by
  intro G
  rfl
set_option maxRecDepth 100000 in
set_option maxHeartbeats 100000 in
theorem sp_c_1269_areLaid_r2 (X : ez_X) (g : Nat → Int64) (cz kz : Nat) : ∀ G : ez_F, fx_up X 24 G 167 83 [.ref 35, .long 1, ez_fill, .int 1] [] (ev_hp (ev_sI (ev_sI ev_I0 6 (upd (upd (ev_I0 6) 4 1) 3 1)) 35 (upd (ev_I0 35) 14 0)) (ev_sJ ev_J0 34 g) (ev_sR ev_R0 0 65) ([.inl (1, .inl (upd (fun _ => 0) 0 0))] : List ez_C)) cz kz = G 167 162 [.ref 35, .long 1, ez_fill, .int 1, .int 1, .int 1, .int 0, .int 0] [.int 1] (ev_hp (ev_sI (ev_sI ev_I0 6 (upd (upd (ev_I0 6) 4 1) 3 1)) 35 (upd (ev_I0 35) 14 0)) (ev_sJ ev_J0 34 g) (ev_sR ev_R0 0 65) ([.inl (1, .inl (upd (fun _ => 0) 0 0))] : List ez_C)) cz kz := by
  intro G
  rfl
set_option maxRecDepth 100000 in
set_option maxHeartbeats 100000 in
theorem sp_c_1269_areLaid_r3 (X : ez_X) (g : Nat → Int64) (cz kz : Nat) : ∀ G : ez_F, fx_up X 24 G 167 162 [.ref 35, .long 1, ez_fill, .int 1, .int 1, .int 1, .int 0, .int 0] [.int 1] (ev_hp (ev_sI (ev_sI ev_I0 6 (upd (upd (ev_I0 6) 4 1) 3 1)) 35 (upd (ev_I0 35) 14 0)) (ev_sJ ev_J0 34 g) (ev_sR ev_R0 0 65) ([.inl (1, .inl (upd (fun _ => 0) 0 0))] : List ez_C)) cz kz = G 167 258 [.ref 35, .long 1, ez_fill, .int 1, .int 1, .int 1, .int 0, .int 0, .int 1, .int 0] [.ref 35, .int 3, .ref 41] (ev_hp (ev_sI (ev_sI (ev_sI ev_I0 6 (upd (upd (ev_I0 6) 4 1) 3 1)) 35 (upd (ev_I0 35) 14 0)) 41 (upd (ev_I0 41) 0 0)) (ev_sJ ev_J0 34 g) (ev_sR ev_R0 0 65) ([.inl (1, .inl (upd (fun _ => 0) 0 0))] : List ez_C)) cz kz := by
  intro G
  rfl
set_option maxRecDepth 100000 in
set_option maxHeartbeats 100000 in
theorem sp_c_1269_areLaid_r4 (X : ez_X) (g : Nat → Int64) (cz kz : Nat) : ∀ G : ez_F, fx_up X 24 G 167 258 [.ref 35, .long 1, ez_fill, .int 1, .int 1, .int 1, .int 0, .int 0, .int 1, .int 0] [.ref 35, .int 3, .ref 41] (ev_hp (ev_sI (ev_sI (ev_sI ev_I0 6 (upd (upd (ev_I0 6) 4 1) 3 1)) 35 (upd (ev_I0 35) 14 0)) 41 (upd (ev_I0 41) 0 0)) (ev_sJ ev_J0 34 g) (ev_sR ev_R0 0 65) ([.inl (1, .inl (upd (fun _ => 0) 0 0))] : List ez_C)) cz kz = G 167 167 [.ref 35, .long 1, ez_fill, .int 1, .int 1, .int 1, .int 0, .int 0, .int 1, .int 1] [] (ev_hp (ev_sI (ev_sI (ev_sI ev_I0 6 (upd (upd (ev_I0 6) 4 1) 3 1)) 35 (upd (ev_I0 35) 14 1)) 41 (upd (upd (upd (ev_I0 41) 0 0) 1 0) 2 0)) (ev_sJ ev_J0 34 g) (ev_sR ev_R0 0 65) ([.inl (1, .inl (upd (fun _ => 0) 0 0))] : List ez_C)) cz kz := by
  intro G
  rfl
set_option maxRecDepth 100000 in
set_option maxHeartbeats 100000 in
theorem sp_c_1269_areLaid_r5 (X : ez_X) (g : Nat → Int64) (cz kz : Nat) : ∀ G : ez_F, fx_up X 15 G 167 167 [.ref 35, .long 1, ez_fill, .int 1, .int 1, .int 1, .int 0, .int 0, .int 1, .int 1] [] (ev_hp (ev_sI (ev_sI (ev_sI ev_I0 6 (upd (upd (ev_I0 6) 4 1) 3 1)) 35 (upd (ev_I0 35) 14 1)) 41 (upd (upd (upd (ev_I0 41) 0 0) 1 0) 2 0)) (ev_sJ ev_J0 34 g) (ev_sR ev_R0 0 65) ([.inl (1, .inl (upd (fun _ => 0) 0 0))] : List ez_C)) cz kz = some (some (.int 1), (ev_hp (ev_sI (ev_sI (ev_sI ev_I0 6 (upd (upd (ev_I0 6) 4 1) 3 1)) 35 (upd (ev_I0 35) 14 1)) 41 (upd (upd (upd (ev_I0 41) 0 0) 1 0) 2 0)) (ev_sJ ev_J0 34 g) (ev_sR ev_R0 0 65) ([.inl (1, .inl (upd (fun _ => 0) 0 0))] : List ez_C)), cz, kz) := by
  intro G
  rfl
theorem sp_c_1269_areLaid (X : ez_X) (g : Nat → Int64) : ev_W X 167 0 (ez_lay [.ref 35]) [] (ev_hp (ev_sI ev_I0 6 (upd (upd (ev_I0 6) 4 1) 3 1)) (ev_sJ ev_J0 34 g) (ev_sR ev_R0 0 65) ([.inl (1, .inl (upd (fun _ => 0) 0 0))] : List ez_C)) 0 0 (fun r h1 c1 k1 => r = (some (.int 1)) ∧ h1 = (ev_hp (ev_sI (ev_sI (ev_sI ev_I0 6 (upd (upd (ev_I0 6) 4 1) 3 1)) 35 (upd (ev_I0 35) 14 1)) 41 (upd (upd (upd (ev_I0 41) 0 0) 1 0) 2 0)) (ev_sJ ev_J0 34 g) (ev_sR ev_R0 0 65) ([.inl (1, .inl (upd (fun _ => 0) 0 0))] : List ez_C)) ∧ c1 = 0 ∧ k1 = 0) := by
  refine ev_seg (sp_c_1269_areLaid_r1 X g _ _) ?_
  refine ev_seg (sp_c_1269_areLaid_r2 X g _ _) ?_
  refine ev_seg (sp_c_1269_areLaid_r3 X g _ _) ?_
  refine ev_seg (sp_c_1269_areLaid_r4 X g _ _) ?_
  refine ev_ret (sp_c_1269_areLaid_r5 X g _ _) ?_
  exact ⟨rfl, rfl, rfl, rfl⟩
set_option maxRecDepth 100000 in
set_option maxHeartbeats 100000 in
theorem sp_c_1268_isCrowded_r1 (X : ez_X) (g : Nat → Int64) (cz kz : Nat) : ∀ G : ez_F, fx_up X 2 G 201 0 [.ref 35] [] (ev_hp (ev_sI ev_I0 6 (upd (upd (ev_I0 6) 4 1) 3 1)) (ev_sJ ev_J0 34 g) (ev_sR ev_R0 0 65) ([.inl (1, .inl (upd (fun _ => 0) 0 0))] : List ez_C)) cz kz = ev_C G 167 [.ref 35] (ev_hp (ev_sI ev_I0 6 (upd (upd (ev_I0 6) 4 1) 3 1)) (ev_sJ ev_J0 34 g) (ev_sR ev_R0 0 65) ([.inl (1, .inl (upd (fun _ => 0) 0 0))] : List ez_C)) fun r h1 c1 k1 => G 201 4 [.ref 35] (r.toList ++ []) h1 (cz + c1) (kz + k1) := by
  intro G
  rfl
set_option maxRecDepth 100000 in
set_option maxHeartbeats 100000 in
theorem sp_c_1268_isCrowded_r2 (X : ez_X) (g : Nat → Int64) (cz kz : Nat) : ∀ G : ez_F, fx_up X 7 G 201 4 [.ref 35] [.int 1] (ev_hp (ev_sI (ev_sI (ev_sI ev_I0 6 (upd (upd (ev_I0 6) 4 1) 3 1)) 35 (upd (ev_I0 35) 14 1)) 41 (upd (upd (upd (ev_I0 41) 0 0) 1 0) 2 0)) (ev_sJ ev_J0 34 g) (ev_sR ev_R0 0 65) ([.inl (1, .inl (upd (fun _ => 0) 0 0))] : List ez_C)) cz kz = some (some (.int 0), (ev_hp (ev_sI (ev_sI (ev_sI ev_I0 6 (upd (upd (ev_I0 6) 4 1) 3 1)) 35 (upd (ev_I0 35) 14 1)) 41 (upd (upd (upd (ev_I0 41) 0 0) 1 0) 2 0)) (ev_sJ ev_J0 34 g) (ev_sR ev_R0 0 65) ([.inl (1, .inl (upd (fun _ => 0) 0 0))] : List ez_C)), cz, kz) := by
  intro G
  rfl
theorem sp_c_1268_isCrowded (X : ez_X) (g : Nat → Int64) : ev_W X 201 0 (ez_lay [.ref 35]) [] (ev_hp (ev_sI ev_I0 6 (upd (upd (ev_I0 6) 4 1) 3 1)) (ev_sJ ev_J0 34 g) (ev_sR ev_R0 0 65) ([.inl (1, .inl (upd (fun _ => 0) 0 0))] : List ez_C)) 0 0 (fun r h1 c1 k1 => r = (some (.int 0)) ∧ h1 = (ev_hp (ev_sI (ev_sI (ev_sI ev_I0 6 (upd (upd (ev_I0 6) 4 1) 3 1)) 35 (upd (ev_I0 35) 14 1)) 41 (upd (upd (upd (ev_I0 41) 0 0) 1 0) 2 0)) (ev_sJ ev_J0 34 g) (ev_sR ev_R0 0 65) ([.inl (1, .inl (upd (fun _ => 0) 0 0))] : List ez_C)) ∧ c1 = 0 ∧ k1 = 0) := by
  refine ev_call (sp_c_1268_isCrowded_r1 X g _ _) (sp_c_1269_areLaid X g) ?_
  rintro _ _ _ _ ⟨rfl, rfl, rfl, rfl⟩
  refine ev_ret (sp_c_1268_isCrowded_r2 X g _ _) ?_
  exact ⟨rfl, rfl, rfl, rfl⟩
set_option maxRecDepth 100000 in
set_option maxHeartbeats 100000 in
theorem sp_c_1271_in_r1 (X : ez_X) (g : Nat → Int64) (cz kz : Nat) : ∀ G : ez_F, fx_up X 11 G 198 0 [.long 0, ez_fill, .long 0, ez_fill, .long 0, ez_fill] [] (ev_hp (ev_sI (ev_sI (ev_sI ev_I0 6 (upd (upd (ev_I0 6) 4 1) 3 1)) 35 (upd (ev_I0 35) 14 1)) 41 (upd (upd (upd (ev_I0 41) 0 0) 1 0) 2 0)) (ev_sJ ev_J0 34 g) (ev_sR ev_R0 0 65) ([.inl (1, .inl (upd (fun _ => 0) 0 0))] : List ez_C)) cz kz = some (some (.int 1), (ev_hp (ev_sI (ev_sI (ev_sI ev_I0 6 (upd (upd (ev_I0 6) 4 1) 3 1)) 35 (upd (ev_I0 35) 14 1)) 41 (upd (upd (upd (ev_I0 41) 0 0) 1 0) 2 0)) (ev_sJ ev_J0 34 g) (ev_sR ev_R0 0 65) ([.inl (1, .inl (upd (fun _ => 0) 0 0))] : List ez_C)), cz, kz) := by
  intro G
  rfl
theorem sp_c_1271_in (X : ez_X) (g : Nat → Int64) : ev_W X 198 0 (ez_lay [.long 0, .long 0, .long 0]) [] (ev_hp (ev_sI (ev_sI (ev_sI ev_I0 6 (upd (upd (ev_I0 6) 4 1) 3 1)) 35 (upd (ev_I0 35) 14 1)) 41 (upd (upd (upd (ev_I0 41) 0 0) 1 0) 2 0)) (ev_sJ ev_J0 34 g) (ev_sR ev_R0 0 65) ([.inl (1, .inl (upd (fun _ => 0) 0 0))] : List ez_C)) 0 0 (fun r h1 c1 k1 => r = (some (.int 1)) ∧ h1 = (ev_hp (ev_sI (ev_sI (ev_sI ev_I0 6 (upd (upd (ev_I0 6) 4 1) 3 1)) 35 (upd (ev_I0 35) 14 1)) 41 (upd (upd (upd (ev_I0 41) 0 0) 1 0) 2 0)) (ev_sJ ev_J0 34 g) (ev_sR ev_R0 0 65) ([.inl (1, .inl (upd (fun _ => 0) 0 0))] : List ez_C)) ∧ c1 = 0 ∧ k1 = 0) := by
  refine ev_ret (sp_c_1271_in_r1 X g _ _) ?_
  exact ⟨rfl, rfl, rfl, rfl⟩
set_option maxRecDepth 100000 in
set_option maxHeartbeats 100000 in
theorem sp_c_1270_isLaying_r1 (X : ez_X) (g : Nat → Int64) (cz kz : Nat) : ∀ G : ez_F, fx_up X 9 G 202 0 [.ref 35, .int 0] [] (ev_hp (ev_sI (ev_sI (ev_sI ev_I0 6 (upd (upd (ev_I0 6) 4 1) 3 1)) 35 (upd (ev_I0 35) 14 1)) 41 (upd (upd (upd (ev_I0 41) 0 0) 1 0) 2 0)) (ev_sJ ev_J0 34 g) (ev_sR ev_R0 0 65) ([.inl (1, .inl (upd (fun _ => 0) 0 0))] : List ez_C)) cz kz = ev_C G 198 [.long 0, .long 0, .long 0] (ev_hp (ev_sI (ev_sI (ev_sI ev_I0 6 (upd (upd (ev_I0 6) 4 1) 3 1)) 35 (upd (ev_I0 35) 14 1)) 41 (upd (upd (upd (ev_I0 41) 0 0) 1 0) 2 0)) (ev_sJ ev_J0 34 g) (ev_sR ev_R0 0 65) ([.inl (1, .inl (upd (fun _ => 0) 0 0))] : List ez_C)) fun r h1 c1 k1 => G 202 13 [.ref 35, .int 0] (r.toList ++ []) h1 (cz + c1) (kz + k1) := by
  intro G
  rfl
set_option maxRecDepth 100000 in
set_option maxHeartbeats 100000 in
theorem sp_c_1270_isLaying_r2 (X : ez_X) (g : Nat → Int64) (cz kz : Nat) : ∀ G : ez_F, fx_up X 1 G 202 13 [.ref 35, .int 0] [.int 1] (ev_hp (ev_sI (ev_sI (ev_sI ev_I0 6 (upd (upd (ev_I0 6) 4 1) 3 1)) 35 (upd (ev_I0 35) 14 1)) 41 (upd (upd (upd (ev_I0 41) 0 0) 1 0) 2 0)) (ev_sJ ev_J0 34 g) (ev_sR ev_R0 0 65) ([.inl (1, .inl (upd (fun _ => 0) 0 0))] : List ez_C)) cz kz = some (some (.int 1), (ev_hp (ev_sI (ev_sI (ev_sI ev_I0 6 (upd (upd (ev_I0 6) 4 1) 3 1)) 35 (upd (ev_I0 35) 14 1)) 41 (upd (upd (upd (ev_I0 41) 0 0) 1 0) 2 0)) (ev_sJ ev_J0 34 g) (ev_sR ev_R0 0 65) ([.inl (1, .inl (upd (fun _ => 0) 0 0))] : List ez_C)), cz, kz) := by
  intro G
  rfl
theorem sp_c_1270_isLaying (X : ez_X) (g : Nat → Int64) : ev_W X 202 0 (ez_lay [.ref 35, .int 0]) [] (ev_hp (ev_sI (ev_sI (ev_sI ev_I0 6 (upd (upd (ev_I0 6) 4 1) 3 1)) 35 (upd (ev_I0 35) 14 1)) 41 (upd (upd (upd (ev_I0 41) 0 0) 1 0) 2 0)) (ev_sJ ev_J0 34 g) (ev_sR ev_R0 0 65) ([.inl (1, .inl (upd (fun _ => 0) 0 0))] : List ez_C)) 0 0 (fun r h1 c1 k1 => r = (some (.int 1)) ∧ h1 = (ev_hp (ev_sI (ev_sI (ev_sI ev_I0 6 (upd (upd (ev_I0 6) 4 1) 3 1)) 35 (upd (ev_I0 35) 14 1)) 41 (upd (upd (upd (ev_I0 41) 0 0) 1 0) 2 0)) (ev_sJ ev_J0 34 g) (ev_sR ev_R0 0 65) ([.inl (1, .inl (upd (fun _ => 0) 0 0))] : List ez_C)) ∧ c1 = 0 ∧ k1 = 0) := by
  refine ev_call (sp_c_1270_isLaying_r1 X g _ _) (sp_c_1271_in X g) ?_
  rintro _ _ _ _ ⟨rfl, rfl, rfl, rfl⟩
  refine ev_ret (sp_c_1270_isLaying_r2 X g _ _) ?_
  exact ⟨rfl, rfl, rfl, rfl⟩
set_option maxRecDepth 100000 in
set_option maxHeartbeats 100000 in
theorem sp_c_1272_cellsOf_r1 (X : ez_X) (g : Nat → Int64) (cz kz : Nat) : ∀ G : ez_F, fx_up X 10 G 180 0 [.ref 35, .int 0] [] (ev_hp (ev_sI (ev_sI (ev_sI ev_I0 6 (upd (upd (ev_I0 6) 4 1) 3 1)) 35 (upd (ev_I0 35) 14 1)) 41 (upd (upd (upd (ev_I0 41) 0 0) 1 0) 2 0)) (ev_sJ ev_J0 34 g) (ev_sR ev_R0 0 65) ([.inl (1, .inl (upd (fun _ => 0) 0 0))] : List ez_C)) cz kz = some (some (.long 0), (ev_hp (ev_sI (ev_sI (ev_sI ev_I0 6 (upd (upd (ev_I0 6) 4 1) 3 1)) 35 (upd (ev_I0 35) 14 1)) 41 (upd (upd (upd (ev_I0 41) 0 0) 1 0) 2 0)) (ev_sJ ev_J0 34 g) (ev_sR ev_R0 0 65) ([.inl (1, .inl (upd (fun _ => 0) 0 0))] : List ez_C)), cz, kz) := by
  intro G
  rfl
theorem sp_c_1272_cellsOf (X : ez_X) (g : Nat → Int64) : ev_W X 180 0 (ez_lay [.ref 35, .int 0]) [] (ev_hp (ev_sI (ev_sI (ev_sI ev_I0 6 (upd (upd (ev_I0 6) 4 1) 3 1)) 35 (upd (ev_I0 35) 14 1)) 41 (upd (upd (upd (ev_I0 41) 0 0) 1 0) 2 0)) (ev_sJ ev_J0 34 g) (ev_sR ev_R0 0 65) ([.inl (1, .inl (upd (fun _ => 0) 0 0))] : List ez_C)) 0 0 (fun r h1 c1 k1 => r = (some (.long 0)) ∧ h1 = (ev_hp (ev_sI (ev_sI (ev_sI ev_I0 6 (upd (upd (ev_I0 6) 4 1) 3 1)) 35 (upd (ev_I0 35) 14 1)) 41 (upd (upd (upd (ev_I0 41) 0 0) 1 0) 2 0)) (ev_sJ ev_J0 34 g) (ev_sR ev_R0 0 65) ([.inl (1, .inl (upd (fun _ => 0) 0 0))] : List ez_C)) ∧ c1 = 0 ∧ k1 = 0) := by
  refine ev_ret (sp_c_1272_cellsOf_r1 X g _ _) ?_
  exact ⟨rfl, rfl, rfl, rfl⟩
set_option maxRecDepth 100000 in
set_option maxHeartbeats 100000 in
theorem sp_c_1273_cellsOf_r1 (X : ez_X) (g : Nat → Int64) (cz kz : Nat) : ∀ G : ez_F, fx_up X 10 G 180 0 [.ref 35, .int 0] [] (ev_hp (ev_sI (ev_sI (ev_sI ev_I0 6 (upd (upd (ev_I0 6) 4 1) 3 1)) 35 (upd (ev_I0 35) 14 1)) 41 (upd (upd (upd (ev_I0 41) 0 0) 1 0) 2 0)) (ev_sJ ev_J0 34 g) (ev_sR ev_R0 0 65) ([.inl (1, .inl (upd (fun _ => 0) 0 0))] : List ez_C)) cz kz = some (some (.long 0), (ev_hp (ev_sI (ev_sI (ev_sI ev_I0 6 (upd (upd (ev_I0 6) 4 1) 3 1)) 35 (upd (ev_I0 35) 14 1)) 41 (upd (upd (upd (ev_I0 41) 0 0) 1 0) 2 0)) (ev_sJ ev_J0 34 g) (ev_sR ev_R0 0 65) ([.inl (1, .inl (upd (fun _ => 0) 0 0))] : List ez_C)), cz, kz) := by
  intro G
  rfl
theorem sp_c_1273_cellsOf (X : ez_X) (g : Nat → Int64) : ev_W X 180 0 (ez_lay [.ref 35, .int 0]) [] (ev_hp (ev_sI (ev_sI (ev_sI ev_I0 6 (upd (upd (ev_I0 6) 4 1) 3 1)) 35 (upd (ev_I0 35) 14 1)) 41 (upd (upd (upd (ev_I0 41) 0 0) 1 0) 2 0)) (ev_sJ ev_J0 34 g) (ev_sR ev_R0 0 65) ([.inl (1, .inl (upd (fun _ => 0) 0 0))] : List ez_C)) 0 0 (fun r h1 c1 k1 => r = (some (.long 0)) ∧ h1 = (ev_hp (ev_sI (ev_sI (ev_sI ev_I0 6 (upd (upd (ev_I0 6) 4 1) 3 1)) 35 (upd (ev_I0 35) 14 1)) 41 (upd (upd (upd (ev_I0 41) 0 0) 1 0) 2 0)) (ev_sJ ev_J0 34 g) (ev_sR ev_R0 0 65) ([.inl (1, .inl (upd (fun _ => 0) 0 0))] : List ez_C)) ∧ c1 = 0 ∧ k1 = 0) := by
  refine ev_ret (sp_c_1273_cellsOf_r1 X g _ _) ?_
  exact ⟨rfl, rfl, rfl, rfl⟩
set_option maxRecDepth 100000 in
set_option maxHeartbeats 100000 in
theorem ek_mclues_r1 (X : ez_X) (g : Nat → Int64) (cz kz : Nat) : ∀ G : ez_F, fx_up X 2 G 181 0 [.ref 35, .int 0] [] (ev_hp (ev_sI ev_I0 6 (upd (upd (ev_I0 6) 4 1) 3 1)) (ev_sJ ev_J0 34 g) (ev_sR ev_R0 0 65) ([.inl (1, .inl (upd (fun _ => 0) 0 0))] : List ez_C)) cz kz = ev_C G 201 [.ref 35] (ev_hp (ev_sI ev_I0 6 (upd (upd (ev_I0 6) 4 1) 3 1)) (ev_sJ ev_J0 34 g) (ev_sR ev_R0 0 65) ([.inl (1, .inl (upd (fun _ => 0) 0 0))] : List ez_C)) fun r h1 c1 k1 => G 181 4 [.ref 35, .int 0] (r.toList ++ []) h1 (cz + c1) (kz + k1) := by
  intro G
  rfl
set_option maxRecDepth 100000 in
set_option maxHeartbeats 100000 in
theorem ek_mclues_r2 (X : ez_X) (g : Nat → Int64) (cz kz : Nat) : ∀ G : ez_F, fx_up X 4 G 181 4 [.ref 35, .int 0] [.int 0] (ev_hp (ev_sI (ev_sI (ev_sI ev_I0 6 (upd (upd (ev_I0 6) 4 1) 3 1)) 35 (upd (ev_I0 35) 14 1)) 41 (upd (upd (upd (ev_I0 41) 0 0) 1 0) 2 0)) (ev_sJ ev_J0 34 g) (ev_sR ev_R0 0 65) ([.inl (1, .inl (upd (fun _ => 0) 0 0))] : List ez_C)) cz kz = ev_C G 202 [.ref 35, .int 0] (ev_hp (ev_sI (ev_sI (ev_sI ev_I0 6 (upd (upd (ev_I0 6) 4 1) 3 1)) 35 (upd (ev_I0 35) 14 1)) 41 (upd (upd (upd (ev_I0 41) 0 0) 1 0) 2 0)) (ev_sJ ev_J0 34 g) (ev_sR ev_R0 0 65) ([.inl (1, .inl (upd (fun _ => 0) 0 0))] : List ez_C)) fun r h1 c1 k1 => G 181 15 [.ref 35, .int 0] (r.toList ++ []) h1 (cz + c1) (kz + k1) := by
  intro G
  rfl
set_option maxRecDepth 100000 in
set_option maxHeartbeats 100000 in
theorem ek_mclues_r3 (X : ez_X) (g : Nat → Int64) (cz kz : Nat) : ∀ G : ez_F, fx_up X 4 G 181 15 [.ref 35, .int 0] [.int 1] (ev_hp (ev_sI (ev_sI (ev_sI ev_I0 6 (upd (upd (ev_I0 6) 4 1) 3 1)) 35 (upd (ev_I0 35) 14 1)) 41 (upd (upd (upd (ev_I0 41) 0 0) 1 0) 2 0)) (ev_sJ ev_J0 34 g) (ev_sR ev_R0 0 65) ([.inl (1, .inl (upd (fun _ => 0) 0 0))] : List ez_C)) cz kz = ev_C G 180 [.ref 35, .int 0] (ev_hp (ev_sI (ev_sI (ev_sI ev_I0 6 (upd (upd (ev_I0 6) 4 1) 3 1)) 35 (upd (ev_I0 35) 14 1)) 41 (upd (upd (upd (ev_I0 41) 0 0) 1 0) 2 0)) (ev_sJ ev_J0 34 g) (ev_sR ev_R0 0 65) ([.inl (1, .inl (upd (fun _ => 0) 0 0))] : List ez_C)) fun r h1 c1 k1 => G 181 26 [.ref 35, .int 0] (r.toList ++ []) h1 (cz + c1) (kz + k1) := by
  intro G
  rfl
set_option maxRecDepth 100000 in
set_option maxHeartbeats 100000 in
theorem ek_mclues_r4 (X : ez_X) (g : Nat → Int64) (cz kz : Nat) : ∀ G : ez_F, fx_up X 12 G 181 26 [.ref 35, .int 0] [.long 0] (ev_hp (ev_sI (ev_sI (ev_sI ev_I0 6 (upd (upd (ev_I0 6) 4 1) 3 1)) 35 (upd (ev_I0 35) 14 1)) 41 (upd (upd (upd (ev_I0 41) 0 0) 1 0) 2 0)) (ev_sJ ev_J0 34 g) (ev_sR ev_R0 0 65) ([.inl (1, .inl (upd (fun _ => 0) 0 0))] : List ez_C)) cz kz = ev_C G 180 [.ref 35, .int 0] (ev_hp (ev_sI (ev_sI (ev_sI ev_I0 6 (upd (upd (ev_I0 6) 4 1) 3 1)) 35 (upd (ev_I0 35) 14 1)) 41 (upd (upd (upd (ev_I0 41) 0 0) 1 0) 2 0)) (ev_sJ ev_J0 34 g) (ev_sR ev_R0 0 65) ([.inl (1, .inl (upd (fun _ => 0) 0 0))] : List ez_C)) fun r h1 c1 k1 => G 181 48 [.ref 35, .int 0, .long 0, ez_fill, .int 0, .int 0] (r.toList ++ []) h1 (cz + c1) (kz + k1) := by
  intro G
  rfl
set_option maxRecDepth 100000 in
set_option maxHeartbeats 100000 in
theorem ek_mclues_r5 (X : ez_X) (g : Nat → Int64) (cz kz : Nat) : ∀ G : ez_F, fx_up X 15 G 181 48 [.ref 35, .int 0, .long 0, ez_fill, .int 0, .int 0] [.long 0] (ev_hp (ev_sI (ev_sI (ev_sI ev_I0 6 (upd (upd (ev_I0 6) 4 1) 3 1)) 35 (upd (ev_I0 35) 14 1)) 41 (upd (upd (upd (ev_I0 41) 0 0) 1 0) 2 0)) (ev_sJ ev_J0 34 g) (ev_sR ev_R0 0 65) ([.inl (1, .inl (upd (fun _ => 0) 0 0))] : List ez_C)) cz kz = G 181 144 [.ref 35, .int 0, .long 0, ez_fill, .int 0, .int (-1), .int 0] [] (ev_hp (ev_sI (ev_sI (ev_sI ev_I0 6 (upd (upd (ev_I0 6) 4 1) 3 1)) 35 (upd (ev_I0 35) 14 1)) 41 (upd (upd (upd (ev_I0 41) 0 0) 1 0) 2 0)) (ev_sJ ev_J0 34 g) (ev_sR ev_R0 0 65) ([.inl (1, .inl (upd (fun _ => 0) 0 0))] : List ez_C)) cz kz := by
  intro G
  rfl
set_option maxRecDepth 100000 in
set_option maxHeartbeats 100000 in
theorem ek_mclues_r6 (X : ez_X) (g : Nat → Int64) (cz kz : Nat) : ∀ G : ez_F, fx_up X 24 G 181 144 [.ref 35, .int 0, .long 0, ez_fill, .int 0, .int (-1), .int 0] [] (ev_hp (ev_sI (ev_sI (ev_sI ev_I0 6 (upd (upd (ev_I0 6) 4 1) 3 1)) 35 (upd (ev_I0 35) 14 1)) 41 (upd (upd (upd (ev_I0 41) 0 0) 1 0) 2 0)) (ev_sJ ev_J0 34 g) (ev_sR ev_R0 0 65) ([.inl (1, .inl (upd (fun _ => 0) 0 0))] : List ez_C)) cz kz = G 181 239 [.ref 35, .int 0, .long 0, ez_fill, .int 0, .int 0, .int 0, .int 1, .int 0] [] (ev_hp (ev_sI (ev_sI (ev_sI ev_I0 6 (upd (upd (ev_I0 6) 4 1) 3 1)) 35 (upd (ev_I0 35) 14 1)) 41 (upd (upd (upd (ev_I0 41) 0 0) 1 0) 2 0)) (ev_sJ ev_J0 34 g) (ev_sR ev_R0 0 65) ([.inl (1, .inl (upd (fun _ => 0) 0 0))] : List ez_C)) cz kz := by
  intro G
  rfl
set_option maxRecDepth 100000 in
set_option maxHeartbeats 100000 in
theorem ek_mclues_r7 (X : ez_X) (g : Nat → Int64) (cz kz : Nat) : ∀ G : ez_F, fx_up X 2 G 181 239 [.ref 35, .int 0, .long 0, ez_fill, .int 0, .int 0, .int 0, .int 1, .int 0] [] (ev_hp (ev_sI (ev_sI (ev_sI ev_I0 6 (upd (upd (ev_I0 6) 4 1) 3 1)) 35 (upd (ev_I0 35) 14 1)) 41 (upd (upd (upd (ev_I0 41) 0 0) 1 0) 2 0)) (ev_sJ ev_J0 34 g) (ev_sR ev_R0 0 65) ([.inl (1, .inl (upd (fun _ => 0) 0 0))] : List ez_C)) cz kz = G 181 144 [.ref 35, .int 0, .long 0, ez_fill, .int 0, .int 0, .int 1] [] (ev_hp (ev_sI (ev_sI (ev_sI ev_I0 6 (upd (upd (ev_I0 6) 4 1) 3 1)) 35 (upd (ev_I0 35) 14 1)) 41 (upd (upd (upd (ev_I0 41) 0 0) 1 0) 2 0)) (ev_sJ ev_J0 34 g) (ev_sR ev_R0 0 65) ([.inl (1, .inl (upd (fun _ => 0) 0 0))] : List ez_C)) cz kz := by
  intro G
  rfl
theorem ek_mclues (X : ez_X) (g : Nat → Int64)  : ev_W X 181 0 (ez_lay [.ref 35, .int 0]) [] (ev_hp (ev_sI ev_I0 6 (upd (upd (ev_I0 6) 4 1) 3 1)) (ev_sJ ev_J0 34 g) (ev_sR ev_R0 0 65) ([.inl (1, .inl (upd (fun _ => 0) 0 0))] : List ez_C)) 0 0 (ev_is (some (.int 0)) (ev_hp (ev_sI (ev_sI (ev_sI ev_I0 6 (upd (upd (ev_I0 6) 4 1) 3 1)) 35 (upd (ev_I0 35) 14 1)) 41 (upd (upd (upd (ev_I0 41) 0 0) 1 0) 2 0)) (ev_sJ ev_J0 34 g) (ev_sR ev_R0 0 65) ([.inl (1, .inl (upd (fun _ => 0) 0 0))] : List ez_C))) := by
  refine ev_call (ek_mclues_r1 X g _ _) (sp_c_1268_isCrowded X g) ?_
  rintro _ _ _ _ ⟨rfl, rfl, rfl, rfl⟩
  refine ev_call (ek_mclues_r2 X g _ _) (sp_c_1270_isLaying X g) ?_
  rintro _ _ _ _ ⟨rfl, rfl, rfl, rfl⟩
  refine ev_call (ek_mclues_r3 X g _ _) (sp_c_1272_cellsOf X g) ?_
  rintro _ _ _ _ ⟨rfl, rfl, rfl, rfl⟩
  refine ev_call (ek_mclues_r4 X g _ _) (sp_c_1273_cellsOf X g) ?_
  rintro _ _ _ _ ⟨rfl, rfl, rfl, rfl⟩
  refine ev_seg (ek_mclues_r5 X g _ _) ?_
  refine ev_seg (ek_mclues_r6 X g _ _) ?_
  refine ev_seg (ek_mclues_r7 X g _ _) ?_
  exact ek_mc_l X g _ _ (Nat.lt_succ_self _)
set_option maxRecDepth 100000 in
set_option maxHeartbeats 100000 in
theorem eo_clues_o_r1 (xs : Nat → Int32)  (cz kz : Nat) : ∀ G : ez_F, fx_up (ev_x1 xs 0) 2 G 241 1029 [ez_scr, .ref 0, .ref 35, .int 0] [] (ev_hp ev_I0 ev_J0 ev_R0 []) cz kz = G 241 1031 [ez_scr, .ref 0, .ref 35, .int 0] [ez_scr, .ref 0] (ev_hp ev_I0 ev_J0 ev_R0 []) cz kz := by
  intro G
  rfl
set_option maxRecDepth 100000 in
set_option maxHeartbeats 100000 in
theorem eo_clues_o_r2 (xs : Nat → Int32)  (cz kz : Nat) : ∀ G : ez_F, fx_up (ev_x1 xs 0) 2 G 241 1031 [ez_scr, .ref 0, .ref 35, .int 0] [ez_scr, .ref 0] (ev_hp ev_I0 ev_J0 ev_R0 []) cz kz = G 241 1033 [ez_scr, .ref 0, .ref 35, .int 0] [.int 1, .int 0, ez_scr, .ref 0] (ev_hp ev_I0 ev_J0 ev_R0 []) cz kz := by
  intro G
  rfl
set_option maxRecDepth 100000 in
set_option maxHeartbeats 100000 in
theorem eo_clues_o_r3 (xs : Nat → Int32)  (cz kz : Nat) : ∀ G : ez_F, fx_up (ev_x1 xs 0) 2 G 241 1033 [ez_scr, .ref 0, .ref 35, .int 0] [.int 1, .int 0, ez_scr, .ref 0] (ev_hp ev_I0 ev_J0 ev_R0 []) cz kz = G 241 1035 [ez_scr, .ref 0, .ref 35, .int 0] [.int 0, .ref 0] (ev_hp ev_I0 ev_J0 ev_R0 []) cz kz := by
  intro G
  rfl
set_option maxRecDepth 100000 in
set_option maxHeartbeats 100000 in
theorem eo_clues_o_r4 (xs : Nat → Int32)  (cz kz : Nat) : ∀ G : ez_F, fx_up (ev_x1 xs 0) 1 G 241 1035 [ez_scr, .ref 0, .ref 35, .int 0] [.int 0, .ref 0] (ev_hp ev_I0 ev_J0 ev_R0 []) cz kz = ev_C G 13 [.ref 0, .int 0] (ev_hp ev_I0 ev_J0 ev_R0 []) fun r h1 c1 k1 => G 241 1038 [ez_scr, .ref 0, .ref 35, .int 0] (r.toList ++ []) h1 (cz + c1) (kz + k1) := by
  intro G
  rfl
set_option maxRecDepth 100000 in
set_option maxHeartbeats 100000 in
theorem eo_clues_o_r5 (xs : Nat → Int32) (g : Nat → Int64) (cz kz : Nat) : ∀ G : ez_F, fx_up (ev_x1 xs 0) 2 G 241 1038 [ez_scr, .ref 0, .ref 35, .int 0] [.int 0] (ev_hp (ev_sI ev_I0 6 (upd (upd (ev_I0 6) 4 1) 3 1)) (ev_sJ ev_J0 34 g) (ev_sR ev_R0 0 65) ([.inl (1, .inl (upd (fun _ => 0) 0 0))] : List ez_C)) cz kz = G 241 1040 [ez_scr, .ref 0, .ref 35, .int 0] [ez_scr, .ref 35, .int 0] (ev_hp (ev_sI ev_I0 6 (upd (upd (ev_I0 6) 4 1) 3 1)) (ev_sJ ev_J0 34 g) (ev_sR ev_R0 0 65) ([.inl (1, .inl (upd (fun _ => 0) 0 0))] : List ez_C)) cz kz := by
  intro G
  rfl
set_option maxRecDepth 100000 in
set_option maxHeartbeats 100000 in
theorem eo_clues_o_r6 (xs : Nat → Int32) (g : Nat → Int64) (cz kz : Nat) : ∀ G : ez_F, fx_up (ev_x1 xs 0) 2 G 241 1040 [ez_scr, .ref 0, .ref 35, .int 0] [ez_scr, .ref 35, .int 0] (ev_hp (ev_sI ev_I0 6 (upd (upd (ev_I0 6) 4 1) 3 1)) (ev_sJ ev_J0 34 g) (ev_sR ev_R0 0 65) ([.inl (1, .inl (upd (fun _ => 0) 0 0))] : List ez_C)) cz kz = G 241 1042 [ez_scr, .ref 0, .ref 35, .int 0] [.int 1, .int 0, ez_scr, .ref 35, .int 0] (ev_hp (ev_sI ev_I0 6 (upd (upd (ev_I0 6) 4 1) 3 1)) (ev_sJ ev_J0 34 g) (ev_sR ev_R0 0 65) ([.inl (1, .inl (upd (fun _ => 0) 0 0))] : List ez_C)) cz kz := by
  intro G
  rfl
set_option maxRecDepth 100000 in
set_option maxHeartbeats 100000 in
theorem eo_clues_o_r7 (xs : Nat → Int32) (g : Nat → Int64) (cz kz : Nat) : ∀ G : ez_F, fx_up (ev_x1 xs 0) 2 G 241 1042 [ez_scr, .ref 0, .ref 35, .int 0] [.int 1, .int 0, ez_scr, .ref 35, .int 0] (ev_hp (ev_sI ev_I0 6 (upd (upd (ev_I0 6) 4 1) 3 1)) (ev_sJ ev_J0 34 g) (ev_sR ev_R0 0 65) ([.inl (1, .inl (upd (fun _ => 0) 0 0))] : List ez_C)) cz kz = G 241 1044 [ez_scr, .ref 0, .ref 35, .int 0] [.int 0, .ref 35, .int 0] (ev_hp (ev_sI ev_I0 6 (upd (upd (ev_I0 6) 4 1) 3 1)) (ev_sJ ev_J0 34 g) (ev_sR ev_R0 0 65) ([.inl (1, .inl (upd (fun _ => 0) 0 0))] : List ez_C)) cz kz := by
  intro G
  rfl
set_option maxRecDepth 100000 in
set_option maxHeartbeats 100000 in
theorem eo_clues_o_r8 (xs : Nat → Int32) (g : Nat → Int64) (cz kz : Nat) : ∀ G : ez_F, fx_up (ev_x1 xs 0) 1 G 241 1044 [ez_scr, .ref 0, .ref 35, .int 0] [.int 0, .ref 35, .int 0] (ev_hp (ev_sI ev_I0 6 (upd (upd (ev_I0 6) 4 1) 3 1)) (ev_sJ ev_J0 34 g) (ev_sR ev_R0 0 65) ([.inl (1, .inl (upd (fun _ => 0) 0 0))] : List ez_C)) cz kz = ev_C G 181 [.ref 35, .int 0] (ev_hp (ev_sI ev_I0 6 (upd (upd (ev_I0 6) 4 1) 3 1)) (ev_sJ ev_J0 34 g) (ev_sR ev_R0 0 65) ([.inl (1, .inl (upd (fun _ => 0) 0 0))] : List ez_C)) fun r h1 c1 k1 => G 241 1047 [ez_scr, .ref 0, .ref 35, .int 0] (r.toList ++ [.int 0]) h1 (cz + c1) (kz + k1) := by
  intro G
  rfl
set_option maxRecDepth 100000 in
set_option maxHeartbeats 100000 in
theorem eo_clues_o_r9 (xs : Nat → Int32) (g : Nat → Int64) (cz kz : Nat) : ∀ G : ez_F, fx_up (ev_x1 xs 0) 2 G 241 1047 [ez_scr, .ref 0, .ref 35, .int 0] [.int 0, .int 0] (ev_hp (ev_sI (ev_sI (ev_sI ev_I0 6 (upd (upd (ev_I0 6) 4 1) 3 1)) 35 (upd (ev_I0 35) 14 1)) 41 (upd (upd (upd (ev_I0 41) 0 0) 1 0) 2 0)) (ev_sJ ev_J0 34 g) (ev_sR ev_R0 0 65) ([.inl (1, .inl (upd (fun _ => 0) 0 0))] : List ez_C)) cz kz = G 241 1078 [ez_scr, .ref 0, .ref 35, .int 4] [] (ev_hp (ev_sI (ev_sI (ev_sI ev_I0 6 (upd (upd (ev_I0 6) 4 1) 3 1)) 35 (upd (ev_I0 35) 14 1)) 41 (upd (upd (upd (ev_I0 41) 0 0) 1 0) 2 0)) (ev_sJ ev_J0 34 g) (ev_sR ev_R0 0 65) ([.inl (1, .inl (upd (fun _ => 0) 0 0))] : List ez_C)) cz kz := by
  intro G
  rfl
set_option maxRecDepth 100000 in
set_option maxHeartbeats 100000 in
theorem eo_clues_o_r10 (xs : Nat → Int32) (g : Nat → Int64) (cz kz : Nat) : ∀ G : ez_F, fx_up (ev_x1 xs 0) 2 G 241 1078 [ez_scr, .ref 0, .ref 35, .int 4] [] (ev_hp (ev_sI (ev_sI (ev_sI ev_I0 6 (upd (upd (ev_I0 6) 4 1) 3 1)) 35 (upd (ev_I0 35) 14 1)) 41 (upd (upd (upd (ev_I0 41) 0 0) 1 0) 2 0)) (ev_sJ ev_J0 34 g) (ev_sR ev_R0 0 65) ([.inl (1, .inl (upd (fun _ => 0) 0 0))] : List ez_C)) cz kz = G 241 19 [ez_scr, .ref 0, .ref 35, .int 4] [.int 4] (ev_hp (ev_sI (ev_sI (ev_sI ev_I0 6 (upd (upd (ev_I0 6) 4 1) 3 1)) 35 (upd (ev_I0 35) 14 1)) 41 (upd (upd (upd (ev_I0 41) 0 0) 1 0) 2 0)) (ev_sJ ev_J0 34 g) (ev_sR ev_R0 0 65) ([.inl (1, .inl (upd (fun _ => 0) 0 0))] : List ez_C)) cz kz := by
  intro G
  rfl
set_option maxRecDepth 100000 in
set_option maxHeartbeats 100000 in
theorem eo_clues_o_r11 (xs : Nat → Int32) (g : Nat → Int64) (cz kz : Nat) : ∀ G : ez_F, fx_up (ev_x1 xs 0) 2 G 241 19 [ez_scr, .ref 0, .ref 35, .int 4] [.int 4] (ev_hp (ev_sI (ev_sI (ev_sI ev_I0 6 (upd (upd (ev_I0 6) 4 1) 3 1)) 35 (upd (ev_I0 35) 14 1)) 41 (upd (upd (upd (ev_I0 41) 0 0) 1 0) 2 0)) (ev_sJ ev_J0 34 g) (ev_sR ev_R0 0 65) ([.inl (1, .inl (upd (fun _ => 0) 0 0))] : List ez_C)) cz kz = G 241 21 [ez_scr, .ref 0, .ref 35, .int 4] [.int 4, .int 4] (ev_hp (ev_sI (ev_sI (ev_sI ev_I0 6 (upd (upd (ev_I0 6) 4 1) 3 1)) 35 (upd (ev_I0 35) 14 1)) 41 (upd (upd (upd (ev_I0 41) 0 0) 1 0) 2 0)) (ev_sJ ev_J0 34 g) (ev_sR ev_R0 0 65) ([.inl (1, .inl (upd (fun _ => 0) 0 0))] : List ez_C)) cz kz := by
  intro G
  rfl
set_option maxRecDepth 100000 in
set_option maxHeartbeats 100000 in
theorem eo_clues_o_r12 (xs : Nat → Int32) (g : Nat → Int64) (cz kz : Nat) : ∀ G : ez_F, fx_up (ev_x1 xs 0) 2 G 241 21 [ez_scr, .ref 0, .ref 35, .int 4] [.int 4, .int 4] (ev_hp (ev_sI (ev_sI (ev_sI ev_I0 6 (upd (upd (ev_I0 6) 4 1) 3 1)) 35 (upd (ev_I0 35) 14 1)) 41 (upd (upd (upd (ev_I0 41) 0 0) 1 0) 2 0)) (ev_sJ ev_J0 34 g) (ev_sR ev_R0 0 65) ([.inl (1, .inl (upd (fun _ => 0) 0 0))] : List ez_C)) cz kz = G 241 23 [ez_scr, .ref 0, .ref 35, .int 4] [.int 0, .int 4] (ev_hp (ev_sI (ev_sI (ev_sI ev_I0 6 (upd (upd (ev_I0 6) 4 1) 3 1)) 35 (upd (ev_I0 35) 14 1)) 41 (upd (upd (upd (ev_I0 41) 0 0) 1 0) 2 0)) (ev_sJ ev_J0 34 g) (ev_sR ev_R0 0 65) ([.inl (1, .inl (upd (fun _ => 0) 0 0))] : List ez_C)) cz kz := by
  intro G
  rfl
set_option maxRecDepth 100000 in
set_option maxHeartbeats 100000 in
theorem eo_clues_o_r13 (xs : Nat → Int32) (g : Nat → Int64) (cz kz : Nat) : ∀ G : ez_F, fx_up (ev_x1 xs 0) 2 G 241 23 [ez_scr, .ref 0, .ref 35, .int 4] [.int 0, .int 4] (ev_hp (ev_sI (ev_sI (ev_sI ev_I0 6 (upd (upd (ev_I0 6) 4 1) 3 1)) 35 (upd (ev_I0 35) 14 1)) 41 (upd (upd (upd (ev_I0 41) 0 0) 1 0) 2 0)) (ev_sJ ev_J0 34 g) (ev_sR ev_R0 0 65) ([.inl (1, .inl (upd (fun _ => 0) 0 0))] : List ez_C)) cz kz = G 241 1082 [ez_scr, .ref 0, .ref 35, .int 4] [.int 1] (ev_hp (ev_sI (ev_sI (ev_sI ev_I0 6 (upd (upd (ev_I0 6) 4 1) 3 1)) 35 (upd (ev_I0 35) 14 1)) 41 (upd (upd (upd (ev_I0 41) 0 0) 1 0) 2 0)) (ev_sJ ev_J0 34 g) (ev_sR ev_R0 0 65) ([.inl (1, .inl (upd (fun _ => 0) 0 0))] : List ez_C)) cz kz := by
  intro G
  rfl
set_option maxRecDepth 100000 in
set_option maxHeartbeats 100000 in
theorem eo_clues_o_r14 (xs : Nat → Int32) (g : Nat → Int64) (cz kz : Nat) : ∀ G : ez_F, fx_up (ev_x1 xs 0) 1 G 241 1082 [ez_scr, .ref 0, .ref 35, .int 4] [.int 1] (ev_hp (ev_sI (ev_sI (ev_sI ev_I0 6 (upd (upd (ev_I0 6) 4 1) 3 1)) 35 (upd (ev_I0 35) 14 1)) 41 (upd (upd (upd (ev_I0 41) 0 0) 1 0) 2 0)) (ev_sJ ev_J0 34 g) (ev_sR ev_R0 0 65) ([.inl (1, .inl (upd (fun _ => 0) 0 0))] : List ez_C)) cz kz = some (some (.int 1), (ev_hp (ev_sI (ev_sI (ev_sI ev_I0 6 (upd (upd (ev_I0 6) 4 1) 3 1)) 35 (upd (ev_I0 35) 14 1)) 41 (upd (upd (upd (ev_I0 41) 0 0) 1 0) 2 0)) (ev_sJ ev_J0 34 g) (ev_sR ev_R0 0 65) ([.inl (1, .inl (upd (fun _ => 0) 0 0))] : List ez_C)), cz, kz) := by
  intro G
  rfl
theorem eo_clues_o (xs : Nat → Int32) : ev_P1 (ev_x1 xs 0) 1029 := by
  refine ev_seg (eo_clues_o_r1 xs  _ _) ?_
  refine ev_seg (eo_clues_o_r2 xs  _ _) ?_
  refine ev_seg (eo_clues_o_r3 xs  _ _) ?_
  refine ev_call (eo_clues_o_r4 xs  _ _) (ek_clues (ev_x1 xs 0)) ?_
  rintro _ _ _ _ ⟨rfl, ⟨g, hg, rfl⟩, rfl, rfl⟩
  refine ev_seg (eo_clues_o_r5 xs g _ _) ?_
  refine ev_seg (eo_clues_o_r6 xs g _ _) ?_
  refine ev_seg (eo_clues_o_r7 xs g _ _) ?_
  refine ev_call (eo_clues_o_r8 xs g _ _) (ek_mclues (ev_x1 xs 0) g) ?_
  rintro _ _ _ _ ⟨rfl, rfl, rfl, rfl⟩
  refine ev_seg (eo_clues_o_r9 xs g _ _) ?_
  refine ev_seg (eo_clues_o_r10 xs g _ _) ?_
  refine ev_seg (eo_clues_o_r11 xs g _ _) ?_
  refine ev_seg (eo_clues_o_r12 xs g _ _) ?_
  refine ev_seg (eo_clues_o_r13 xs g _ _) ?_
  refine ev_ret (eo_clues_o_r14 xs g _ _) ?_
  exact ⟨rfl, by omega, by omega⟩
