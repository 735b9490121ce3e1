/-! The easy calls, by all their ends. -/
set_option maxRecDepth 100000 in
set_option maxHeartbeats 100000 in
theorem ea_S_Fleet_clear_88_3_r1 (X : ez_X) (I : Nat → Nat → Int32) (J : Nat → Nat → Int64) (R : Nat → Nat) (T : List ez_C) (cz kz : Nat) : ∀ G : ez_F, fx_up X 4 G 88 0 [.ref 3] [] (ev_hp I J R T) cz kz = some (none, (ev_hp (ev_sI I 3 (upd (I 3) 3 0)) J R T), cz, kz) := by
  intro G
  rfl
theorem ea_S_Fleet_clear_88_3 (X : ez_X) (I : Nat → Nat → Int32) (J : Nat → Nat → Int64) (R : Nat → Nat) (T : List ez_C)  : ev_W X 88 0 (ez_lay [.ref 3]) [] (ev_hp I J R T) 0 0 (fun r h1 c1 k1 => (r = none ∧ h1 = (ev_hp (ev_sI I 3 (upd (I 3) 3 0)) J R T) ∧ c1 = 0 ∧ k1 = 0)) := by
  refine ev_ret (ea_S_Fleet_clear_88_3_r1 X I J R T _ _) ?_
  exact ⟨rfl, rfl, rfl, rfl⟩
set_option maxRecDepth 100000 in
set_option maxHeartbeats 100000 in
theorem ea_S_Paper_clear_122_8_r1 (X : ez_X) (I : Nat → Nat → Int32) (J : Nat → Nat → Int64) (R : Nat → Nat) (T : List ez_C) (cz kz : Nat) : ∀ G : ez_F, fx_up X 10 G 122 0 [.ref 8] [] (ev_hp I J R T) cz kz = some (none, (ev_hp (ev_sI I 8 (upd (I 8) 1 0)) (ev_sJ J 8 (vp_updL (vp_updL (J 8) 2 0) 3 0)) R T), cz, kz) := by
  intro G
  rfl
theorem ea_S_Paper_clear_122_8 (X : ez_X) (I : Nat → Nat → Int32) (J : Nat → Nat → Int64) (R : Nat → Nat) (T : List ez_C)  : ev_W X 122 0 (ez_lay [.ref 8]) [] (ev_hp I J R T) 0 0 (fun r h1 c1 k1 => (r = none ∧ h1 = (ev_hp (ev_sI I 8 (upd (I 8) 1 0)) (ev_sJ J 8 (vp_updL (vp_updL (J 8) 2 0) 3 0)) R T) ∧ c1 = 0 ∧ k1 = 0)) := by
  refine ev_ret (ea_S_Paper_clear_122_8_r1 X I J R T _ _) ?_
  exact ⟨rfl, rfl, rfl, rfl⟩
set_option maxRecDepth 100000 in
set_option maxHeartbeats 100000 in
theorem ea_S_Register_forget_139_6_r1 (X : ez_X) (I : Nat → Nat → Int32) (J : Nat → Nat → Int64) (R : Nat → Nat) (T : List ez_C) (cz kz : Nat) : ∀ G : ez_F, fx_up X 4 G 139 0 [.ref 6] [] (ev_hp I J R T) cz kz = some (none, (ev_hp (ev_sI I 6 (upd (I 6) 4 0)) J R T), cz, kz) := by
  intro G
  rfl
theorem ea_S_Register_forget_139_6 (X : ez_X) (I : Nat → Nat → Int32) (J : Nat → Nat → Int64) (R : Nat → Nat) (T : List ez_C)  : ev_W X 139 0 (ez_lay [.ref 6]) [] (ev_hp I J R T) 0 0 (fun r h1 c1 k1 => (r = none ∧ h1 = (ev_hp (ev_sI I 6 (upd (I 6) 4 0)) J R T) ∧ c1 = 0 ∧ k1 = 0)) := by
  refine ev_ret (ea_S_Register_forget_139_6_r1 X I J R T _ _) ?_
  exact ⟨rfl, rfl, rfl, rfl⟩
set_option maxRecDepth 100000 in
set_option maxHeartbeats 100000 in
theorem ea_S_Caller_forget_62_22_r1 (X : ez_X) (I : Nat → Nat → Int32) (J : Nat → Nat → Int64) (R : Nat → Nat) (T : List ez_C) (cz kz : Nat) : ∀ G : ez_F, fx_up X 7 G 62 0 [.ref 22] [] (ev_hp I J R T) cz kz = some (none, (ev_hp (ev_sI I 22 (upd (upd (I 22) 8 0) 11 (-1))) J R T), cz, kz) := by
  intro G
  rfl
theorem ea_S_Caller_forget_62_22 (X : ez_X) (I : Nat → Nat → Int32) (J : Nat → Nat → Int64) (R : Nat → Nat) (T : List ez_C)  : ev_W X 62 0 (ez_lay [.ref 22]) [] (ev_hp I J R T) 0 0 (fun r h1 c1 k1 => (r = none ∧ h1 = (ev_hp (ev_sI I 22 (upd (upd (I 22) 8 0) 11 (-1))) J R T) ∧ c1 = 0 ∧ k1 = 0)) := by
  refine ev_ret (ea_S_Caller_forget_62_22_r1 X I J R T _ _) ?_
  exact ⟨rfl, rfl, rfl, rfl⟩
set_option maxRecDepth 100000 in
set_option maxHeartbeats 100000 in
theorem ea_S_Ledger_forgetPlays_106_13_r1 (X : ez_X) (I : Nat → Nat → Int32) (J : Nat → Nat → Int64) (R : Nat → Nat) (T : List ez_C) (cz kz : Nat) : ∀ G : ez_F, fx_up X 4 G 106 0 [.ref 13] [] (ev_hp I J R T) cz kz = some (none, (ev_hp (ev_sI I 13 (upd (I 13) 8 0)) J R T), cz, kz) := by
  intro G
  rfl
theorem ea_S_Ledger_forgetPlays_106_13 (X : ez_X) (I : Nat → Nat → Int32) (J : Nat → Nat → Int64) (R : Nat → Nat) (T : List ez_C)  : ev_W X 106 0 (ez_lay [.ref 13]) [] (ev_hp I J R T) 0 0 (fun r h1 c1 k1 => (r = none ∧ h1 = (ev_hp (ev_sI I 13 (upd (I 13) 8 0)) J R T) ∧ c1 = 0 ∧ k1 = 0)) := by
  refine ev_ret (ea_S_Ledger_forgetPlays_106_13_r1 X I J R T _ _) ?_
  exact ⟨rfl, rfl, rfl, rfl⟩
set_option maxRecDepth 100000 in
set_option maxHeartbeats 100000 in
theorem ea_S_Ledger_forgetTally_107_13_r1 (X : ez_X) (I : Nat → Nat → Int32) (J : Nat → Nat → Int64) (R : Nat → Nat) (T : List ez_C) (cz kz : Nat) : ∀ G : ez_F, fx_up X 4 G 107 0 [.ref 13] [] (ev_hp I J R T) cz kz = some (none, (ev_hp (ev_sI I 13 (upd (I 13) 9 0)) J R T), cz, kz) := by
  intro G
  rfl
theorem ea_S_Ledger_forgetTally_107_13 (X : ez_X) (I : Nat → Nat → Int32) (J : Nat → Nat → Int64) (R : Nat → Nat) (T : List ez_C)  : ev_W X 107 0 (ez_lay [.ref 13]) [] (ev_hp I J R T) 0 0 (fun r h1 c1 k1 => (r = none ∧ h1 = (ev_hp (ev_sI I 13 (upd (I 13) 9 0)) J R T) ∧ c1 = 0 ∧ k1 = 0)) := by
  refine ev_ret (ea_S_Ledger_forgetTally_107_13_r1 X I J R T _ _) ?_
  exact ⟨rfl, rfl, rfl, rfl⟩
set_option maxRecDepth 100000 in
set_option maxHeartbeats 100000 in
theorem ea_S_Pairs_forget_117_20_r1 (X : ez_X) (I : Nat → Nat → Int32) (J : Nat → Nat → Int64) (R : Nat → Nat) (T : List ez_C) (cz kz : Nat) : ∀ G : ez_F, fx_up X 4 G 117 0 [.ref 20] [] (ev_hp I J R T) cz kz = some (none, (ev_hp (ev_sI I 20 (upd (I 20) 3 0)) J R T), cz, kz) := by
  intro G
  rfl
theorem ea_S_Pairs_forget_117_20 (X : ez_X) (I : Nat → Nat → Int32) (J : Nat → Nat → Int64) (R : Nat → Nat) (T : List ez_C)  : ev_W X 117 0 (ez_lay [.ref 20]) [] (ev_hp I J R T) 0 0 (fun r h1 c1 k1 => (r = none ∧ h1 = (ev_hp (ev_sI I 20 (upd (I 20) 3 0)) J R T) ∧ c1 = 0 ∧ k1 = 0)) := by
  refine ev_ret (ea_S_Pairs_forget_117_20_r1 X I J R T _ _) ?_
  exact ⟨rfl, rfl, rfl, rfl⟩
set_option maxRecDepth 100000 in
set_option maxHeartbeats 100000 in
theorem ea_S_answersChanged_2_0_r1 (X : ez_X) (I : Nat → Nat → Int32) (J : Nat → Nat → Int64) (R : Nat → Nat) (T : List ez_C) (cz kz : Nat) : ∀ G : ez_F, fx_up X 3 G 2 0 [.ref 0] [] (ev_hp I J R T) cz kz = ev_C G 107 [.ref 13] (ev_hp I J R T) fun r h1 c1 k1 => G 2 7 [.ref 0] (r.toList ++ []) h1 (cz + c1) (kz + k1) := by
  intro G
  rfl
set_option maxRecDepth 100000 in
set_option maxHeartbeats 100000 in
theorem ea_S_answersChanged_2_0_r2 (X : ez_X) (I : Nat → Nat → Int32) (J : Nat → Nat → Int64) (R : Nat → Nat) (T : List ez_C) (cz kz : Nat) : ∀ G : ez_F, fx_up X 3 G 2 7 [.ref 0] [] (ev_hp (ev_sI I 13 (upd (I 13) 9 0)) J R T) cz kz = ev_C G 117 [.ref 20] (ev_hp (ev_sI I 13 (upd (I 13) 9 0)) J R T) fun r h1 c1 k1 => G 2 14 [.ref 0] (r.toList ++ []) h1 (cz + c1) (kz + k1) := by
  intro G
  rfl
set_option maxRecDepth 100000 in
set_option maxHeartbeats 100000 in
theorem ea_S_answersChanged_2_0_r3 (X : ez_X) (I : Nat → Nat → Int32) (J : Nat → Nat → Int64) (R : Nat → Nat) (T : List ez_C) (cz kz : Nat) : ∀ G : ez_F, fx_up X 1 G 2 14 [.ref 0] [] (ev_hp (ev_sI (ev_sI I 13 (upd (I 13) 9 0)) 20 (upd (I 20) 3 0)) J R T) cz kz = some (none, (ev_hp (ev_sI (ev_sI I 13 (upd (I 13) 9 0)) 20 (upd (I 20) 3 0)) J R T), cz, kz) := by
  intro G
  rfl
theorem ea_S_answersChanged_2_0 (X : ez_X) (I : Nat → Nat → Int32) (J : Nat → Nat → Int64) (R : Nat → Nat) (T : List ez_C)  : ev_W X 2 0 (ez_lay [.ref 0]) [] (ev_hp I J R T) 0 0 (fun r h1 c1 k1 => (r = none ∧ h1 = (ev_hp (ev_sI (ev_sI I 13 (upd (I 13) 9 0)) 20 (upd (I 20) 3 0)) J R T) ∧ c1 = 0 ∧ k1 = 0)) := by
  refine ev_call (ea_S_answersChanged_2_0_r1 X I J R T _ _) (ea_S_Ledger_forgetTally_107_13 X I J R T) ?_
  rintro r0 _ _ _ (⟨rfl, rfl, rfl, rfl⟩)
  refine ev_call (ea_S_answersChanged_2_0_r2 X I J R T _ _) (ea_S_Pairs_forget_117_20 X (ev_sI I 13 (upd (I 13) 9 0)) J R T) ?_
  rintro r0 _ _ _ (⟨rfl, rfl, rfl, rfl⟩)
  refine ev_ret (ea_S_answersChanged_2_0_r3 X I J R T _ _) ?_
  exact ⟨rfl, rfl, rfl, rfl⟩
set_option maxRecDepth 100000 in
set_option maxHeartbeats 100000 in
theorem ea_S_callsChanged_12_0_r1 (X : ez_X) (I : Nat → Nat → Int32) (J : Nat → Nat → Int64) (R : Nat → Nat) (T : List ez_C) (cz kz : Nat) : ∀ G : ez_F, fx_up X 3 G 12 0 [.ref 0] [] (ev_hp I J R T) cz kz = ev_C G 106 [.ref 13] (ev_hp I J R T) fun r h1 c1 k1 => G 12 7 [.ref 0] (r.toList ++ []) h1 (cz + c1) (kz + k1) := by
  intro G
  rfl
set_option maxRecDepth 100000 in
set_option maxHeartbeats 100000 in
theorem ea_S_callsChanged_12_0_r2 (X : ez_X) (I : Nat → Nat → Int32) (J : Nat → Nat → Int64) (R : Nat → Nat) (T : List ez_C) (cz kz : Nat) : ∀ G : ez_F, fx_up X 2 G 12 7 [.ref 0] [] (ev_hp (ev_sI I 13 (upd (I 13) 8 0)) J R T) cz kz = ev_C G 2 [.ref 0] (ev_hp (ev_sI I 13 (upd (I 13) 8 0)) J R T) fun r h1 c1 k1 => G 12 11 [.ref 0] (r.toList ++ []) h1 (cz + c1) (kz + k1) := by
  intro G
  rfl
set_option maxRecDepth 100000 in
set_option maxHeartbeats 100000 in
theorem ea_S_callsChanged_12_0_r3 (X : ez_X) (I : Nat → Nat → Int32) (J : Nat → Nat → Int64) (R : Nat → Nat) (T : List ez_C) (cz kz : Nat) : ∀ G : ez_F, fx_up X 1 G 12 11 [.ref 0] [] (ev_hp (ev_sI (ev_sI I 13 (upd (upd (I 13) 8 0) 9 0)) 20 (upd (I 20) 3 0)) J R T) cz kz = some (none, (ev_hp (ev_sI (ev_sI I 13 (upd (upd (I 13) 8 0) 9 0)) 20 (upd (I 20) 3 0)) J R T), cz, kz) := by
  intro G
  rfl
theorem ea_S_callsChanged_12_0 (X : ez_X) (I : Nat → Nat → Int32) (J : Nat → Nat → Int64) (R : Nat → Nat) (T : List ez_C)  : ev_W X 12 0 (ez_lay [.ref 0]) [] (ev_hp I J R T) 0 0 (fun r h1 c1 k1 => (r = none ∧ h1 = (ev_hp (ev_sI (ev_sI I 13 (upd (upd (I 13) 8 0) 9 0)) 20 (upd (I 20) 3 0)) J R T) ∧ c1 = 0 ∧ k1 = 0)) := by
  refine ev_call (ea_S_callsChanged_12_0_r1 X I J R T _ _) (ea_S_Ledger_forgetPlays_106_13 X I J R T) ?_
  rintro r0 _ _ _ (⟨rfl, rfl, rfl, rfl⟩)
  refine ev_call (ea_S_callsChanged_12_0_r2 X I J R T _ _) (ea_S_answersChanged_2_0 X (ev_sI I 13 (upd (I 13) 8 0)) J R T) ?_
  rintro r0 _ _ _ (⟨rfl, rfl, rfl, rfl⟩)
  refine ev_ret (ea_S_callsChanged_12_0_r3 X I J R T _ _) ?_
  exact ⟨rfl, rfl, rfl, rfl⟩
set_option maxRecDepth 100000 in
set_option maxHeartbeats 100000 in
theorem ea_S_layingsChanged_28_0_r1 (X : ez_X) (I : Nat → Nat → Int32) (J : Nat → Nat → Int64) (R : Nat → Nat) (T : List ez_C) (cz kz : Nat) : ∀ G : ez_F, fx_up X 3 G 28 0 [.ref 0] [] (ev_hp I J R T) cz kz = ev_C G 139 [.ref 6] (ev_hp I J R T) fun r h1 c1 k1 => G 28 7 [.ref 0] (r.toList ++ []) h1 (cz + c1) (kz + k1) := by
  intro G
  rfl
set_option maxRecDepth 100000 in
set_option maxHeartbeats 100000 in
theorem ea_S_layingsChanged_28_0_r2 (X : ez_X) (I : Nat → Nat → Int32) (J : Nat → Nat → Int64) (R : Nat → Nat) (T : List ez_C) (cz kz : Nat) : ∀ G : ez_F, fx_up X 3 G 28 7 [.ref 0] [] (ev_hp (ev_sI I 6 (upd (I 6) 4 0)) J R T) cz kz = ev_C G 62 [.ref 22] (ev_hp (ev_sI I 6 (upd (I 6) 4 0)) J R T) fun r h1 c1 k1 => G 28 14 [.ref 0] (r.toList ++ []) h1 (cz + c1) (kz + k1) := by
  intro G
  rfl
set_option maxRecDepth 100000 in
set_option maxHeartbeats 100000 in
theorem ea_S_layingsChanged_28_0_r3 (X : ez_X) (I : Nat → Nat → Int32) (J : Nat → Nat → Int64) (R : Nat → Nat) (T : List ez_C) (cz kz : Nat) : ∀ G : ez_F, fx_up X 2 G 28 14 [.ref 0] [] (ev_hp (ev_sI (ev_sI I 6 (upd (I 6) 4 0)) 22 (upd (upd (I 22) 8 0) 11 (-1))) J R T) cz kz = ev_C G 12 [.ref 0] (ev_hp (ev_sI (ev_sI I 6 (upd (I 6) 4 0)) 22 (upd (upd (I 22) 8 0) 11 (-1))) J R T) fun r h1 c1 k1 => G 28 18 [.ref 0] (r.toList ++ []) h1 (cz + c1) (kz + k1) := by
  intro G
  rfl
set_option maxRecDepth 100000 in
set_option maxHeartbeats 100000 in
theorem ea_S_layingsChanged_28_0_r4 (X : ez_X) (I : Nat → Nat → Int32) (J : Nat → Nat → Int64) (R : Nat → Nat) (T : List ez_C) (cz kz : Nat) : ∀ G : ez_F, fx_up X 1 G 28 18 [.ref 0] [] (ev_hp (ev_sI (ev_sI (ev_sI (ev_sI I 6 (upd (I 6) 4 0)) 13 (upd (upd (I 13) 8 0) 9 0)) 20 (upd (I 20) 3 0)) 22 (upd (upd (I 22) 8 0) 11 (-1))) J R T) cz kz = some (none, (ev_hp (ev_sI (ev_sI (ev_sI (ev_sI I 6 (upd (I 6) 4 0)) 13 (upd (upd (I 13) 8 0) 9 0)) 20 (upd (I 20) 3 0)) 22 (upd (upd (I 22) 8 0) 11 (-1))) J R T), cz, kz) := by
  intro G
  rfl
theorem ea_S_layingsChanged_28_0 (X : ez_X) (I : Nat → Nat → Int32) (J : Nat → Nat → Int64) (R : Nat → Nat) (T : List ez_C)  : ev_W X 28 0 (ez_lay [.ref 0]) [] (ev_hp I J R T) 0 0 (fun r h1 c1 k1 => (r = none ∧ h1 = (ev_hp (ev_sI (ev_sI (ev_sI (ev_sI I 6 (upd (I 6) 4 0)) 13 (upd (upd (I 13) 8 0) 9 0)) 20 (upd (I 20) 3 0)) 22 (upd (upd (I 22) 8 0) 11 (-1))) J R T) ∧ c1 = 0 ∧ k1 = 0)) := by
  refine ev_call (ea_S_layingsChanged_28_0_r1 X I J R T _ _) (ea_S_Register_forget_139_6 X I J R T) ?_
  rintro r0 _ _ _ (⟨rfl, rfl, rfl, rfl⟩)
  refine ev_call (ea_S_layingsChanged_28_0_r2 X I J R T _ _) (ea_S_Caller_forget_62_22 X (ev_sI I 6 (upd (I 6) 4 0)) J R T) ?_
  rintro r0 _ _ _ (⟨rfl, rfl, rfl, rfl⟩)
  refine ev_call (ea_S_layingsChanged_28_0_r3 X I J R T _ _) (ea_S_callsChanged_12_0 X (ev_sI (ev_sI I 6 (upd (I 6) 4 0)) 22 (upd (upd (I 22) 8 0) 11 (-1))) J R T) ?_
  rintro r0 _ _ _ (⟨rfl, rfl, rfl, rfl⟩)
  refine ev_ret (ea_S_layingsChanged_28_0_r4 X I J R T _ _) ?_
  exact ⟨rfl, rfl, rfl, rfl⟩
set_option maxRecDepth 100000 in
set_option maxHeartbeats 100000 in
theorem ea_S_Sheet_changeRule_146_1_r1 (X : ez_X) (I : Nat → Nat → Int32) (J : Nat → Nat → Int64) (R : Nat → Nat) (T : List ez_C) (a1 : Int32) (a2 : Int32) (cz kz : Nat) : ∀ G : ez_F, fx_up X 4 G 146 0 [.ref 1, .int a1, .int a2] [] (ev_hp I J R T) cz kz = ev_C G 3 [.ref 2, .int a1] (ev_hp I J R T) fun r h1 c1 k1 => G 146 8 [.ref 1, .int a1, .int a2] (r.toList ++ []) h1 (cz + c1) (kz + k1) := by
  intro G
  rfl
set_option maxRecDepth 100000 in
set_option maxHeartbeats 100000 in
theorem ea_S_Sheet_changeRule_146_1_r2 (X : ez_X) (I : Nat → Nat → Int32) (J : Nat → Nat → Int64) (R : Nat → Nat) (T : List ez_C) (a1 : Int32) (a2 : Int32) (q16 : Int32) (cz kz : Nat) : ∀ G : ez_F, fx_up X 6 G 146 8 [.ref 1, .int a1, .int a2] [.int q16] (ev_hp I J R T) cz kz = ev_C G 38 [.ref 2, .int a1, .int a2] (ev_hp I J R T) fun r h1 c1 k1 => G 146 18 [.ref 1, .int a1, .int a2, .int q16] (r.toList ++ []) h1 (cz + c1) (kz + k1) := by
  intro G
  rfl
set_option maxRecDepth 100000 in
set_option maxHeartbeats 100000 in
theorem ea_S_Sheet_changeRule_146_1_r3 (X : ez_X) (I : Nat → Nat → Int32) (J : Nat → Nat → Int64) (R : Nat → Nat) (T : List ez_C) (a1 : Int32) (a2 : Int32) (q16 : Int32) (cz kz : Nat) : ∀ G : ez_F, fx_up X 2 G 146 18 [.ref 1, .int a1, .int a2, .int q16] [] (ev_hp (ev_sI I 2 (ev_put 3 (I 2) a1 a2)) J R T) cz kz = some (some (.int q16), (ev_hp (ev_sI I 2 (ev_put 3 (I 2) a1 a2)) J R T), cz, kz) := by
  intro G
  rfl
theorem ea_S_Sheet_changeRule_146_1 (X : ez_X) (I : Nat → Nat → Int32) (J : Nat → Nat → Int64) (R : Nat → Nat) (T : List ez_C) (a1 : Int32) (a2 : Int32)  : ev_W X 146 0 (ez_lay [.ref 1, .int a1, .int a2]) [] (ev_hp I J R T) 0 0 (fun r h1 c1 k1 => (r = some (.int (ev_at 3 (I 2) a1)) ∧ h1 = (ev_hp (ev_sI I 2 (ev_put 3 (I 2) a1 a2)) J R T) ∧ c1 = 0 ∧ k1 = 0)) := by
  refine ev_call (ea_S_Sheet_changeRule_146_1_r1 X I J R T a1 a2 _ _) (ec_at X (ev_hp I J R T) 3 2 a1 (I 2) rfl (by decide)) ?_
  rintro _ _ _ _ ⟨rfl, rfl, rfl, rfl⟩
  generalize hq16 : ev_at 3 (I 2) a1 = q16
  refine ev_call (ea_S_Sheet_changeRule_146_1_r2 X I J R T a1 a2 q16 _ _) (ec_put X (ev_hp I J R T) 3 2 a1 a2 (I 2) rfl (by decide)) ?_
  rintro _ _ _ _ ⟨rfl, rfl, rfl, rfl⟩
  refine ev_ret (ea_S_Sheet_changeRule_146_1_r3 X I J R T a1 a2 q16 _ _) ?_
  subst hq16
  exact ⟨rfl, rfl, rfl, rfl⟩
set_option maxRecDepth 100000 in
set_option maxHeartbeats 100000 in
theorem ea_S_Sheet_setDrift_153_1_r1 (X : ez_X) (I : Nat → Nat → Int32) (J : Nat → Nat → Int64) (R : Nat → Nat) (T : List ez_C) (a1 : Int32) (a2 : Int32) (cz kz : Nat) : ∀ G : ez_F, fx_up X 7 G 153 0 [.ref 1, .int a1, .int a2] [] (ev_hp I J R T) cz kz = some (none, (ev_hp (ev_sI I 1 (upd (upd (I 1) 1 a1) 2 a2)) J R T), cz, kz) := by
  intro G
  rfl
theorem ea_S_Sheet_setDrift_153_1 (X : ez_X) (I : Nat → Nat → Int32) (J : Nat → Nat → Int64) (R : Nat → Nat) (T : List ez_C) (a1 : Int32) (a2 : Int32)  : ev_W X 153 0 (ez_lay [.ref 1, .int a1, .int a2]) [] (ev_hp I J R T) 0 0 (fun r h1 c1 k1 => (r = none ∧ h1 = (ev_hp (ev_sI I 1 (upd (upd (I 1) 1 a1) 2 a2)) J R T) ∧ c1 = 0 ∧ k1 = 0)) := by
  refine ev_ret (ea_S_Sheet_setDrift_153_1_r1 X I J R T a1 a2 _ _) ?_
  exact ⟨rfl, rfl, rfl, rfl⟩
set_option maxRecDepth 100000 in
set_option maxHeartbeats 100000 in
theorem ea_S_Sheet_rimTotal_151_1_r1 (X : ez_X) (I : Nat → Nat → Int32) (J : Nat → Nat → Int64) (R : Nat → Nat) (T : List ez_C) (cz kz : Nat) : ∀ G : ez_F, fx_up X 6 G 151 0 [.ref 1] [] (ev_hp I J R T) cz kz = some (some (.int ((I 1 4) + (I 1 3))), (ev_hp I J R T), cz, kz) := by
  intro G
  rfl
theorem ea_S_Sheet_rimTotal_151_1 (X : ez_X) (I : Nat → Nat → Int32) (J : Nat → Nat → Int64) (R : Nat → Nat) (T : List ez_C)  : ev_W X 151 0 (ez_lay [.ref 1]) [] (ev_hp I J R T) 0 0 (fun r h1 c1 k1 => (r = some (.int ((I 1 4) + (I 1 3))) ∧ h1 = (ev_hp I J R T) ∧ c1 = 0 ∧ k1 = 0)) := by
  refine ev_ret (ea_S_Sheet_rimTotal_151_1_r1 X I J R T _ _) ?_
  exact ⟨rfl, rfl, rfl, rfl⟩
set_option maxRecDepth 100000 in
set_option maxHeartbeats 100000 in
theorem ea_S_Paper_add_121_8_r1 (X : ez_X) (I : Nat → Nat → Int32) (J : Nat → Nat → Int64) (R : Nat → Nat) (T : List ez_C) (a1 : Int64) (cz kz : Nat) : ∀ G : ez_F, fx_up X 6 G 121 0 [.ref 8, .long a1, ez_fill] [] (ev_hp I J R T) cz kz = ev_C G 39 [.ref 9, .int (I 8 1), .long a1] (ev_hp I J R T) fun r h1 c1 k1 => G 121 12 [.ref 8, .long a1, ez_fill] (r.toList ++ []) h1 (cz + c1) (kz + k1) := by
  intro G
  rfl
set_option maxRecDepth 100000 in
set_option maxHeartbeats 100000 in
theorem ea_S_Paper_add_121_8_r2 (X : ez_X) (I : Nat → Nat → Int32) (J : Nat → Nat → Int64) (R : Nat → Nat) (T : List ez_C) (a1 : Int64) (cz kz : Nat) : ∀ G : ez_F, fx_up X 11 G 121 12 [.ref 8, .long a1, ez_fill] [] (ev_hp I (ev_sJ J 9 (ev_putJ 30 (J 9) (I 8 1) a1)) R T) cz kz = some (some (.int (((I 8 1) + (1 : Int32)) - (1 : Int32))), (ev_hp (ev_sI I 8 (upd (I 8) 1 ((I 8 1) + (1 : Int32)))) (ev_sJ J 9 (ev_putJ 30 (J 9) (I 8 1) a1)) R T), cz, kz) := by
  intro G
  rfl
theorem ea_S_Paper_add_121_8 (X : ez_X) (I : Nat → Nat → Int32) (J : Nat → Nat → Int64) (R : Nat → Nat) (T : List ez_C) (a1 : Int64)  : ev_W X 121 0 (ez_lay [.ref 8, .long a1]) [] (ev_hp I J R T) 0 0 (fun r h1 c1 k1 => (r = some (.int (((I 8 1) + (1 : Int32)) - (1 : Int32))) ∧ h1 = (ev_hp (ev_sI I 8 (upd (I 8) 1 ((I 8 1) + (1 : Int32)))) (ev_sJ J 9 (ev_putJ 30 (J 9) (I 8 1) a1)) R T) ∧ c1 = 0 ∧ k1 = 0)) := by
  refine ev_call (ea_S_Paper_add_121_8_r1 X I J R T a1 _ _) (ec_putJ X (ev_hp I J R T) 30 9 (I 8 1) a1 (J 9) rfl (by decide)) ?_
  rintro _ _ _ _ ⟨rfl, rfl, rfl, rfl⟩
  refine ev_ret (ea_S_Paper_add_121_8_r2 X I J R T a1 _ _) ?_
  exact ⟨rfl, rfl, rfl, rfl⟩
set_option maxRecDepth 100000 in
set_option maxHeartbeats 100000 in
theorem ea_S_Paper_untell_127_8_r1 (X : ez_X) (I : Nat → Nat → Int32) (J : Nat → Nat → Int64) (R : Nat → Nat) (T : List ez_C) (a1 : Int32) (cz kz : Nat) : ∀ G : ez_F, fx_up X 24 G 127 0 [.ref 8, .int a1] [] (ev_hp I J R T) cz kz = G 127 38 [.ref 8, .int a1] [] (ev_hp I (ev_sJ J 8 (vp_updL (vp_updL (J 8) 2 ((J 8 2) &&& (((3 : Int64) <<< ((((2 : Int32) * a1) : Int32).toInt64 &&& 63)) ^^^ ((-1) : Int64)))) 3 ((J 8 3) &&& (((1 : Int64) <<< ((((2 : Int32) * a1) : Int32).toInt64 &&& 63)) ^^^ ((-1) : Int64))))) R T) cz kz := by
  intro G
  rfl
set_option maxRecDepth 100000 in
set_option maxHeartbeats 100000 in
theorem ea_S_Paper_untell_127_8_r2 (X : ez_X) (I : Nat → Nat → Int32) (J : Nat → Nat → Int64) (R : Nat → Nat) (T : List ez_C) (a1 : Int32) (cz kz : Nat) : ∀ G : ez_F, fx_up X 1 G 127 38 [.ref 8, .int a1] [] (ev_hp I (ev_sJ J 8 (vp_updL (vp_updL (J 8) 2 ((J 8 2) &&& (((3 : Int64) <<< ((((2 : Int32) * a1) : Int32).toInt64 &&& 63)) ^^^ ((-1) : Int64)))) 3 ((J 8 3) &&& (((1 : Int64) <<< ((((2 : Int32) * a1) : Int32).toInt64 &&& 63)) ^^^ ((-1) : Int64))))) R T) cz kz = some (none, (ev_hp I (ev_sJ J 8 (vp_updL (vp_updL (J 8) 2 ((J 8 2) &&& (((3 : Int64) <<< ((((2 : Int32) * a1) : Int32).toInt64 &&& 63)) ^^^ ((-1) : Int64)))) 3 ((J 8 3) &&& (((1 : Int64) <<< ((((2 : Int32) * a1) : Int32).toInt64 &&& 63)) ^^^ ((-1) : Int64))))) R T), cz, kz) := by
  intro G
  rfl
theorem ea_S_Paper_untell_127_8 (X : ez_X) (I : Nat → Nat → Int32) (J : Nat → Nat → Int64) (R : Nat → Nat) (T : List ez_C) (a1 : Int32)  : ev_W X 127 0 (ez_lay [.ref 8, .int a1]) [] (ev_hp I J R T) 0 0 (fun r h1 c1 k1 => (r = none ∧ h1 = (ev_hp I (ev_sJ J 8 (vp_updL (vp_updL (J 8) 2 ((J 8 2) &&& (((3 : Int64) <<< ((((2 : Int32) * a1) : Int32).toInt64 &&& 63)) ^^^ ((-1) : Int64)))) 3 ((J 8 3) &&& (((1 : Int64) <<< ((((2 : Int32) * a1) : Int32).toInt64 &&& 63)) ^^^ ((-1) : Int64))))) R T) ∧ c1 = 0 ∧ k1 = 0)) := by
  refine ev_seg (ea_S_Paper_untell_127_8_r1 X I J R T a1 _ _) ?_
  refine ev_ret (ea_S_Paper_untell_127_8_r2 X I J R T a1 _ _) ?_
  exact ⟨rfl, rfl, rfl, rfl⟩
set_option maxRecDepth 100000 in
set_option maxHeartbeats 100000 in
theorem ea_S_Paper_tell_125_8_r1 (X : ez_X) (I : Nat → Nat → Int32) (J : Nat → Nat → Int64) (R : Nat → Nat) (T : List ez_C) (a1 : Int32) (a2 : Int32) (cz kz : Nat) : ∀ G : ez_F, fx_up X 3 G 125 0 [.ref 8, .int a1, .int a2] [] (ev_hp I J R T) cz kz = ev_C G 127 [.ref 8, .int a1] (ev_hp I J R T) fun r h1 c1 k1 => G 125 5 [.ref 8, .int a1, .int a2] (r.toList ++ []) h1 (cz + c1) (kz + k1) := by
  intro G
  rfl
set_option maxRecDepth 100000 in
set_option maxHeartbeats 100000 in
theorem ea_S_Paper_tell_125_8_r2 (X : ez_X) (I : Nat → Nat → Int32) (J : Nat → Nat → Int64) (R : Nat → Nat) (T : List ez_C) (a1 : Int32) (a2 : Int32) (cz kz : Nat) : ∀ G : ez_F, fx_up X 22 G 125 5 [.ref 8, .int a1, .int a2] [] (ev_hp I (ev_sJ J 8 (vp_updL (vp_updL (J 8) 2 ((J 8 2) &&& (((3 : Int64) <<< ((((2 : Int32) * a1) : Int32).toInt64 &&& 63)) ^^^ ((-1) : Int64)))) 3 ((J 8 3) &&& (((1 : Int64) <<< ((((2 : Int32) * a1) : Int32).toInt64 &&& 63)) ^^^ ((-1) : Int64))))) R T) cz kz = some (none, (ev_hp I (ev_sJ J 8 (vp_updL (vp_updL (J 8) 2 (((J 8 2) &&& (((3 : Int64) <<< ((((2 : Int32) * a1) : Int32).toInt64 &&& 63)) ^^^ ((-1) : Int64))) ||| ((a2.toInt64) <<< ((((2 : Int32) * a1) : Int32).toInt64 &&& 63)))) 3 (((J 8 3) &&& (((1 : Int64) <<< ((((2 : Int32) * a1) : Int32).toInt64 &&& 63)) ^^^ ((-1) : Int64))) ||| ((1 : Int64) <<< ((((2 : Int32) * a1) : Int32).toInt64 &&& 63))))) R T), cz, kz) := by
  intro G
  rfl
theorem ea_S_Paper_tell_125_8 (X : ez_X) (I : Nat → Nat → Int32) (J : Nat → Nat → Int64) (R : Nat → Nat) (T : List ez_C) (a1 : Int32) (a2 : Int32)  : ev_W X 125 0 (ez_lay [.ref 8, .int a1, .int a2]) [] (ev_hp I J R T) 0 0 (fun r h1 c1 k1 => (r = none ∧ h1 = (ev_hp I (ev_sJ J 8 (vp_updL (vp_updL (J 8) 2 (((J 8 2) &&& (((3 : Int64) <<< ((((2 : Int32) * a1) : Int32).toInt64 &&& 63)) ^^^ ((-1) : Int64))) ||| ((a2.toInt64) <<< ((((2 : Int32) * a1) : Int32).toInt64 &&& 63)))) 3 (((J 8 3) &&& (((1 : Int64) <<< ((((2 : Int32) * a1) : Int32).toInt64 &&& 63)) ^^^ ((-1) : Int64))) ||| ((1 : Int64) <<< ((((2 : Int32) * a1) : Int32).toInt64 &&& 63))))) R T) ∧ c1 = 0 ∧ k1 = 0)) := by
  refine ev_call (ea_S_Paper_tell_125_8_r1 X I J R T a1 a2 _ _) (ea_S_Paper_untell_127_8 X I J R T a1) ?_
  rintro r0 _ _ _ (⟨rfl, rfl, rfl, rfl⟩)
  refine ev_ret (ea_S_Paper_tell_125_8_r2 X I J R T a1 a2 _ _) ?_
  exact ⟨rfl, rfl, rfl, rfl⟩
set_option maxRecDepth 100000 in
set_option maxHeartbeats 100000 in
theorem ea_S_Paper_dropLast_123_8_r1 (X : ez_X) (I : Nat → Nat → Int32) (J : Nat → Nat → Int64) (R : Nat → Nat) (T : List ez_C) (cz kz : Nat) : ∀ G : ez_F, fx_up X 3 G 123 0 [.ref 8] [] (ev_hp I J R T) cz kz = bif decide ((I 8 1) ≤ 0) then G 123 25 [.ref 8] [] (ev_hp I J R T) cz kz else G 123 7 [.ref 8] [] (ev_hp I J R T) cz kz := by
  intro G
  rfl
set_option maxRecDepth 100000 in
set_option maxHeartbeats 100000 in
theorem ea_S_Paper_dropLast_123_8_r2 (X : ez_X) (I : Nat → Nat → Int32) (J : Nat → Nat → Int64) (R : Nat → Nat) (T : List ez_C) (cz kz : Nat) : ∀ G : ez_F, fx_up X 1 G 123 25 [.ref 8] [] (ev_hp I J R T) cz kz = some (none, (ev_hp I J R T), cz, kz) := by
  intro G
  rfl
set_option maxRecDepth 100000 in
set_option maxHeartbeats 100000 in
theorem ea_S_Paper_dropLast_123_8_r3 (X : ez_X) (I : Nat → Nat → Int32) (J : Nat → Nat → Int64) (R : Nat → Nat) (T : List ez_C) (cz kz : Nat) : ∀ G : ez_F, fx_up X 10 G 123 7 [.ref 8] [] (ev_hp I J R T) cz kz = ev_C G 127 [.ref 8, .int ((I 8 1) - (1 : Int32))] (ev_hp (ev_sI I 8 (upd (I 8) 1 ((I 8 1) - (1 : Int32)))) J R T) fun r h1 c1 k1 => G 123 25 [.ref 8] (r.toList ++ []) h1 (cz + c1) (kz + k1) := by
  intro G
  rfl
set_option maxRecDepth 100000 in
set_option maxHeartbeats 100000 in
theorem ea_S_Paper_dropLast_123_8_r4 (X : ez_X) (I : Nat → Nat → Int32) (J : Nat → Nat → Int64) (R : Nat → Nat) (T : List ez_C) (cz kz : Nat) : ∀ G : ez_F, fx_up X 1 G 123 25 [.ref 8] [] (ev_hp (ev_sI I 8 (upd (I 8) 1 ((I 8 1) - (1 : Int32)))) (ev_sJ J 8 (vp_updL (vp_updL (J 8) 2 ((J 8 2) &&& (((3 : Int64) <<< ((((2 : Int32) * ((I 8 1) - (1 : Int32))) : Int32).toInt64 &&& 63)) ^^^ ((-1) : Int64)))) 3 ((J 8 3) &&& (((1 : Int64) <<< ((((2 : Int32) * ((I 8 1) - (1 : Int32))) : Int32).toInt64 &&& 63)) ^^^ ((-1) : Int64))))) R T) cz kz = some (none, (ev_hp (ev_sI I 8 (upd (I 8) 1 ((I 8 1) - (1 : Int32)))) (ev_sJ J 8 (vp_updL (vp_updL (J 8) 2 ((J 8 2) &&& (((3 : Int64) <<< ((((2 : Int32) * ((I 8 1) - (1 : Int32))) : Int32).toInt64 &&& 63)) ^^^ ((-1) : Int64)))) 3 ((J 8 3) &&& (((1 : Int64) <<< ((((2 : Int32) * ((I 8 1) - (1 : Int32))) : Int32).toInt64 &&& 63)) ^^^ ((-1) : Int64))))) R T), cz, kz) := by
  intro G
  rfl
theorem ea_S_Paper_dropLast_123_8 (X : ez_X) (I : Nat → Nat → Int32) (J : Nat → Nat → Int64) (R : Nat → Nat) (T : List ez_C)  : ev_W X 123 0 (ez_lay [.ref 8]) [] (ev_hp I J R T) 0 0 (fun r h1 c1 k1 => (((I 8 1) ≤ 0) ∧ r = none ∧ h1 = (ev_hp I J R T) ∧ c1 = 0 ∧ k1 = 0) ∨ ((¬ ((I 8 1) ≤ 0)) ∧ r = none ∧ h1 = (ev_hp (ev_sI I 8 (upd (I 8) 1 ((I 8 1) - (1 : Int32)))) (ev_sJ J 8 (vp_updL (vp_updL (J 8) 2 ((J 8 2) &&& (((3 : Int64) <<< ((((2 : Int32) * ((I 8 1) - (1 : Int32))) : Int32).toInt64 &&& 63)) ^^^ ((-1) : Int64)))) 3 ((J 8 3) &&& (((1 : Int64) <<< ((((2 : Int32) * ((I 8 1) - (1 : Int32))) : Int32).toInt64 &&& 63)) ^^^ ((-1) : Int64))))) R T) ∧ c1 = 0 ∧ k1 = 0)) := by
  refine ev_if (ea_S_Paper_dropLast_123_8_r1 X I J R T _ _) (fun b1 => ?_) (fun b1 => ?_)
  · replace b1 := of_decide_eq_true b1
    refine ev_ret (ea_S_Paper_dropLast_123_8_r2 X I J R T _ _) ?_
    exact Or.inl ⟨b1, rfl, rfl, rfl, rfl⟩
  · replace b1 := of_decide_eq_false b1
    refine ev_call (ea_S_Paper_dropLast_123_8_r3 X I J R T _ _) (ea_S_Paper_untell_127_8 X (ev_sI I 8 (upd (I 8) 1 ((I 8 1) - (1 : Int32)))) J R T ((I 8 1) - (1 : Int32))) ?_
    rintro r0 _ _ _ (⟨rfl, rfl, rfl, rfl⟩)
    refine ev_ret (ea_S_Paper_dropLast_123_8_r4 X I J R T _ _) ?_
    exact Or.inr (⟨b1, rfl, rfl, rfl, rfl⟩)
set_option maxRecDepth 100000 in
set_option maxHeartbeats 100000 in
theorem ea_S_Edges_tell_81_32_r1 (X : ez_X) (I : Nat → Nat → Int32) (J : Nat → Nat → Int64) (R : Nat → Nat) (T : List ez_C) (a1 : Int32) (a2 : Int32) (cz kz : Nat) : ∀ G : ez_F, fx_up X 4 G 81 0 [.ref 32, .int a1, .int a2] [] (ev_hp I J R T) cz kz = ev_C G 3 [.ref 33, .int a1] (ev_hp I J R T) fun r h1 c1 k1 => G 81 8 [.ref 32, .int a1, .int a2] (r.toList ++ []) h1 (cz + c1) (kz + k1) := by
  intro G
  rfl
set_option maxRecDepth 100000 in
set_option maxHeartbeats 100000 in
theorem ea_S_Edges_tell_81_32_r2 (X : ez_X) (I : Nat → Nat → Int32) (J : Nat → Nat → Int64) (R : Nat → Nat) (T : List ez_C) (a1 : Int32) (a2 : Int32) (q41 : Int32) (cz kz : Nat) : ∀ G : ez_F, fx_up X 6 G 81 8 [.ref 32, .int a1, .int a2] [.int q41] (ev_hp I J R T) cz kz = ev_C G 38 [.ref 33, .int a1, .int a2] (ev_hp I J R T) fun r h1 c1 k1 => G 81 18 [.ref 32, .int a1, .int a2, .int q41] (r.toList ++ []) h1 (cz + c1) (kz + k1) := by
  intro G
  rfl
set_option maxRecDepth 100000 in
set_option maxHeartbeats 100000 in
theorem ea_S_Edges_tell_81_32_r3 (X : ez_X) (I : Nat → Nat → Int32) (J : Nat → Nat → Int64) (R : Nat → Nat) (T : List ez_C) (a1 : Int32) (a2 : Int32) (q41 : Int32) (cz kz : Nat) : ∀ G : ez_F, fx_up X 2 G 81 18 [.ref 32, .int a1, .int a2, .int q41] [] (ev_hp (ev_sI I 33 (ev_put 12 (I 33) a1 a2)) J R T) cz kz = some (some (.int q41), (ev_hp (ev_sI I 33 (ev_put 12 (I 33) a1 a2)) J R T), cz, kz) := by
  intro G
  rfl
theorem ea_S_Edges_tell_81_32 (X : ez_X) (I : Nat → Nat → Int32) (J : Nat → Nat → Int64) (R : Nat → Nat) (T : List ez_C) (a1 : Int32) (a2 : Int32)  : ev_W X 81 0 (ez_lay [.ref 32, .int a1, .int a2]) [] (ev_hp I J R T) 0 0 (fun r h1 c1 k1 => (r = some (.int (ev_at 12 (I 33) a1)) ∧ h1 = (ev_hp (ev_sI I 33 (ev_put 12 (I 33) a1 a2)) J R T) ∧ c1 = 0 ∧ k1 = 0)) := by
  refine ev_call (ea_S_Edges_tell_81_32_r1 X I J R T a1 a2 _ _) (ec_at X (ev_hp I J R T) 12 33 a1 (I 33) rfl (by decide)) ?_
  rintro _ _ _ _ ⟨rfl, rfl, rfl, rfl⟩
  generalize hq41 : ev_at 12 (I 33) a1 = q41
  refine ev_call (ea_S_Edges_tell_81_32_r2 X I J R T a1 a2 q41 _ _) (ec_put X (ev_hp I J R T) 12 33 a1 a2 (I 33) rfl (by decide)) ?_
  rintro _ _ _ _ ⟨rfl, rfl, rfl, rfl⟩
  refine ev_ret (ea_S_Edges_tell_81_32_r3 X I J R T a1 a2 q41 _ _) ?_
  subst hq41
  exact ⟨rfl, rfl, rfl, rfl⟩
set_option maxRecDepth 100000 in
set_option maxHeartbeats 100000 in
theorem ec_become_l0_r1 (X : ez_X) (I : Nat → Nat → Int32) (J : Nat → Nat → Int64) (R : Nat → Nat) (T : List ez_C) (w : Int32) (h : Int32) (z : Int64) (y : Int32) (cz kz : Nat) : ∀ G : ez_F, fx_up X 3 G 145 52 [.ref 1, .int w, .int h, .int 0, .int y] [] (ev_hp (ev_sI I 1 (upd (upd (upd (upd (upd (upd (I 1) 3 w) 4 h) 5 0) 6 (w * h)) 1 0) 2 0)) (ev_sJ J 1 (vp_updL (vp_updL (J 1) 7 (((1 : Int64) <<< ((w * h).toInt64 &&& 63)) - (1 : Int64))) 8 z)) R T) cz kz = bif decide (h ≤ y) then G 145 79 [.ref 1, .int w, .int h, .int 0, .int y] [] (ev_hp (ev_sI I 1 (upd (upd (upd (upd (upd (upd (I 1) 3 w) 4 h) 5 0) 6 (w * h)) 1 0) 2 0)) (ev_sJ J 1 (vp_updL (vp_updL (J 1) 7 (((1 : Int64) <<< ((w * h).toInt64 &&& 63)) - (1 : Int64))) 8 z)) R T) cz kz else G 145 58 [.ref 1, .int w, .int h, .int 0, .int y] [] (ev_hp (ev_sI I 1 (upd (upd (upd (upd (upd (upd (I 1) 3 w) 4 h) 5 0) 6 (w * h)) 1 0) 2 0)) (ev_sJ J 1 (vp_updL (vp_updL (J 1) 7 (((1 : Int64) <<< ((w * h).toInt64 &&& 63)) - (1 : Int64))) 8 z)) R T) cz kz := by
  intro G
  rfl
set_option maxRecDepth 100000 in
set_option maxHeartbeats 100000 in
theorem ec_become_l0_r2 (X : ez_X) (I : Nat → Nat → Int32) (J : Nat → Nat → Int64) (R : Nat → Nat) (T : List ez_C) (w : Int32) (h : Int32) (z : Int64) (y : Int32) (cz kz : Nat) : ∀ G : ez_F, fx_up X 9 G 145 79 [.ref 1, .int w, .int h, .int 0, .int y] [] (ev_hp (ev_sI I 1 (upd (upd (upd (upd (upd (upd (I 1) 3 w) 4 h) 5 0) 6 (w * h)) 1 0) 2 0)) (ev_sJ J 1 (vp_updL (vp_updL (J 1) 7 (((1 : Int64) <<< ((w * h).toInt64 &&& 63)) - (1 : Int64))) 8 z)) R T) cz kz = some (none, (ev_hp (ev_sI I 1 (upd (upd (upd (upd (upd (upd (I 1) 3 w) 4 h) 5 0) 6 (w * h)) 1 0) 2 0)) (ev_sJ J 1 (vp_updL (vp_updL (vp_updL (J 1) 7 (((1 : Int64) <<< ((w * h).toInt64 &&& 63)) - (1 : Int64))) 8 z) 9 (z <<< (((w - (1 : Int32)) : Int32).toInt64 &&& 63)))) R T), cz, kz) := by
  intro G
  rfl
set_option maxRecDepth 100000 in
set_option maxHeartbeats 100000 in
theorem ec_become_l0_r3 (X : ez_X) (I : Nat → Nat → Int32) (J : Nat → Nat → Int64) (R : Nat → Nat) (T : List ez_C) (w : Int32) (h : Int32) (z : Int64) (y : Int32) (cz kz : Nat) : ∀ G : ez_F, fx_up X 12 G 145 58 [.ref 1, .int w, .int h, .int 0, .int y] [] (ev_hp (ev_sI I 1 (upd (upd (upd (upd (upd (upd (I 1) 3 w) 4 h) 5 0) 6 (w * h)) 1 0) 2 0)) (ev_sJ J 1 (vp_updL (vp_updL (J 1) 7 (((1 : Int64) <<< ((w * h).toInt64 &&& 63)) - (1 : Int64))) 8 z)) R T) cz kz = G 145 52 [.ref 1, .int w, .int h, .int 0, .int (y + (1 : Int32))] [] (ev_hp (ev_sI I 1 (upd (upd (upd (upd (upd (upd (I 1) 3 w) 4 h) 5 0) 6 (w * h)) 1 0) 2 0)) (ev_sJ J 1 (vp_updL (vp_updL (J 1) 7 (((1 : Int64) <<< ((w * h).toInt64 &&& 63)) - (1 : Int64))) 8 (z ||| ((1 : Int64) <<< (((w * y) : Int32).toInt64 &&& 63))))) R T) cz kz := by
  intro G
  rfl
theorem ec_become_l0 (X : ez_X) (I : Nat → Nat → Int32) (J : Nat → Nat → Int64) (R : Nat → Nat) (T : List ez_C) (w : Int32) (h : Int32)  : ∀ (n : Nat) (z : Int64) (y : Int32), (h.toInt - y.toInt).toNat < n → ev_W X 145 52 [.ref 1, .int w, .int h, .int 0, .int y] [] (ev_hp (ev_sI I 1 (upd (upd (upd (upd (upd (upd (I 1) 3 w) 4 h) 5 0) 6 (w * h)) 1 0) 2 0)) (ev_sJ J 1 (vp_updL (vp_updL (J 1) 7 (((1 : Int64) <<< ((w * h).toInt64 &&& 63)) - (1 : Int64))) 8 z)) R T) 0 0 (fun r0 h1 c1 k1 => r0 = none ∧ (∃ z y : Int64, h1 = ev_hp (ev_sI I 1 (upd (upd (upd (upd (upd (upd (I 1) 3 w) 4 h) 5 0) 6 (w * h)) 1 0) 2 0)) (ev_sJ J 1 (vp_updL (vp_updL (vp_updL (J 1) 7 (((1 : Int64) <<< ((w * h).toInt64 &&& 63)) - (1 : Int64))) 8 z) 9 y)) R T) ∧ c1 = 0 ∧ k1 = 0) := by
  intro n
  induction n with
  | zero => intro z y hm; exact absurd hm (Nat.not_lt_zero _)
  | succ n ih =>
    intro z y hm
    refine ev_if (ec_become_l0_r1 X I J R T w h z y _ _) (fun b1 => ?_) (fun b1 => ?_)
    · replace b1 := of_decide_eq_true b1
      refine ev_ret (ec_become_l0_r2 X I J R T w h z y _ _) ?_
      exact ⟨rfl, ⟨_, _, rfl⟩, rfl, rfl⟩
    · replace b1 := of_decide_eq_false b1
      refine ev_seg (ec_become_l0_r3 X I J R T w h z y _ _) ?_
      exact ih _ _ (ev_up hm b1)
set_option maxRecDepth 100000 in
set_option maxHeartbeats 100000 in
theorem ec_become0_r1 (X : ez_X) (I : Nat → Nat → Int32) (J : Nat → Nat → Int64) (R : Nat → Nat) (T : List ez_C) (w : Int32) (h : Int32) (cz kz : Nat) : ∀ G : ez_F, fx_up X 24 G 145 0 [.ref 1, .int w, .int h, .int 0] [] (ev_hp I J R T) cz kz = G 145 38 [.ref 1, .int w, .int h, .int 0] [.int (w * h), .long 1, .ref 1] (ev_hp (ev_sI I 1 (upd (upd (upd (upd (upd (upd (I 1) 3 w) 4 h) 5 0) 6 (w * h)) 1 0) 2 0)) J R T) cz kz := by
  intro G
  rfl
set_option maxRecDepth 100000 in
set_option maxHeartbeats 100000 in
theorem ec_become0_r2 (X : ez_X) (I : Nat → Nat → Int32) (J : Nat → Nat → Int64) (R : Nat → Nat) (T : List ez_C) (w : Int32) (h : Int32) (cz kz : Nat) : ∀ G : ez_F, fx_up X 9 G 145 38 [.ref 1, .int w, .int h, .int 0] [.int (w * h), .long 1, .ref 1] (ev_hp (ev_sI I 1 (upd (upd (upd (upd (upd (upd (I 1) 3 w) 4 h) 5 0) 6 (w * h)) 1 0) 2 0)) J R T) cz kz = G 145 52 [.ref 1, .int w, .int h, .int 0, .int 0] [] (ev_hp (ev_sI I 1 (upd (upd (upd (upd (upd (upd (I 1) 3 w) 4 h) 5 0) 6 (w * h)) 1 0) 2 0)) (ev_sJ J 1 (vp_updL (vp_updL (J 1) 7 (((1 : Int64) <<< (((w * h) : Int32).toInt64 &&& 63)) - (1 : Int64))) 8 0)) R T) cz kz := by
  intro G
  rfl
theorem ec_become0 (X : ez_X) (I : Nat → Nat → Int32) (J : Nat → Nat → Int64) (R : Nat → Nat) (T : List ez_C) (w : Int32) (h : Int32)  : ev_W X 145 0 (ez_lay [.ref 1, .int w, .int h, .int 0]) [] (ev_hp I J R T) 0 0 (fun r0 h1 c1 k1 => r0 = none ∧ (∃ z y : Int64, h1 = ev_hp (ev_sI I 1 (upd (upd (upd (upd (upd (upd (I 1) 3 w) 4 h) 5 0) 6 (w * h)) 1 0) 2 0)) (ev_sJ J 1 (vp_updL (vp_updL (vp_updL (J 1) 7 (((1 : Int64) <<< ((w * h).toInt64 &&& 63)) - (1 : Int64))) 8 z) 9 y)) R T) ∧ c1 = 0 ∧ k1 = 0) := by
  refine ev_seg (ec_become0_r1 X I J R T w h _ _) ?_
  refine ev_seg (ec_become0_r2 X I J R T w h _ _) ?_
  exact ec_become_l0 X I J R T w h _ _ _ (Nat.lt_succ_self _)
set_option maxRecDepth 100000 in
set_option maxHeartbeats 100000 in
theorem ec_become_l1_r1 (X : ez_X) (I : Nat → Nat → Int32) (J : Nat → Nat → Int64) (R : Nat → Nat) (T : List ez_C) (w : Int32) (h : Int32) (z : Int64) (y : Int32) (cz kz : Nat) : ∀ G : ez_F, fx_up X 3 G 145 52 [.ref 1, .int w, .int h, .int 1, .int y] [] (ev_hp (ev_sI I 1 (upd (upd (upd (upd (upd (upd (I 1) 3 w) 4 h) 5 1) 6 (w * h)) 1 0) 2 0)) (ev_sJ J 1 (vp_updL (vp_updL (J 1) 7 (((1 : Int64) <<< ((w * h).toInt64 &&& 63)) - (1 : Int64))) 8 z)) R T) cz kz = bif decide (h ≤ y) then G 145 79 [.ref 1, .int w, .int h, .int 1, .int y] [] (ev_hp (ev_sI I 1 (upd (upd (upd (upd (upd (upd (I 1) 3 w) 4 h) 5 1) 6 (w * h)) 1 0) 2 0)) (ev_sJ J 1 (vp_updL (vp_updL (J 1) 7 (((1 : Int64) <<< ((w * h).toInt64 &&& 63)) - (1 : Int64))) 8 z)) R T) cz kz else G 145 58 [.ref 1, .int w, .int h, .int 1, .int y] [] (ev_hp (ev_sI I 1 (upd (upd (upd (upd (upd (upd (I 1) 3 w) 4 h) 5 1) 6 (w * h)) 1 0) 2 0)) (ev_sJ J 1 (vp_updL (vp_updL (J 1) 7 (((1 : Int64) <<< ((w * h).toInt64 &&& 63)) - (1 : Int64))) 8 z)) R T) cz kz := by
  intro G
  rfl
set_option maxRecDepth 100000 in
set_option maxHeartbeats 100000 in
theorem ec_become_l1_r2 (X : ez_X) (I : Nat → Nat → Int32) (J : Nat → Nat → Int64) (R : Nat → Nat) (T : List ez_C) (w : Int32) (h : Int32) (z : Int64) (y : Int32) (cz kz : Nat) : ∀ G : ez_F, fx_up X 9 G 145 79 [.ref 1, .int w, .int h, .int 1, .int y] [] (ev_hp (ev_sI I 1 (upd (upd (upd (upd (upd (upd (I 1) 3 w) 4 h) 5 1) 6 (w * h)) 1 0) 2 0)) (ev_sJ J 1 (vp_updL (vp_updL (J 1) 7 (((1 : Int64) <<< ((w * h).toInt64 &&& 63)) - (1 : Int64))) 8 z)) R T) cz kz = some (none, (ev_hp (ev_sI I 1 (upd (upd (upd (upd (upd (upd (I 1) 3 w) 4 h) 5 1) 6 (w * h)) 1 0) 2 0)) (ev_sJ J 1 (vp_updL (vp_updL (vp_updL (J 1) 7 (((1 : Int64) <<< ((w * h).toInt64 &&& 63)) - (1 : Int64))) 8 z) 9 (z <<< (((w - (1 : Int32)) : Int32).toInt64 &&& 63)))) R T), cz, kz) := by
  intro G
  rfl
set_option maxRecDepth 100000 in
set_option maxHeartbeats 100000 in
theorem ec_become_l1_r3 (X : ez_X) (I : Nat → Nat → Int32) (J : Nat → Nat → Int64) (R : Nat → Nat) (T : List ez_C) (w : Int32) (h : Int32) (z : Int64) (y : Int32) (cz kz : Nat) : ∀ G : ez_F, fx_up X 12 G 145 58 [.ref 1, .int w, .int h, .int 1, .int y] [] (ev_hp (ev_sI I 1 (upd (upd (upd (upd (upd (upd (I 1) 3 w) 4 h) 5 1) 6 (w * h)) 1 0) 2 0)) (ev_sJ J 1 (vp_updL (vp_updL (J 1) 7 (((1 : Int64) <<< ((w * h).toInt64 &&& 63)) - (1 : Int64))) 8 z)) R T) cz kz = G 145 52 [.ref 1, .int w, .int h, .int 1, .int (y + (1 : Int32))] [] (ev_hp (ev_sI I 1 (upd (upd (upd (upd (upd (upd (I 1) 3 w) 4 h) 5 1) 6 (w * h)) 1 0) 2 0)) (ev_sJ J 1 (vp_updL (vp_updL (J 1) 7 (((1 : Int64) <<< ((w * h).toInt64 &&& 63)) - (1 : Int64))) 8 (z ||| ((1 : Int64) <<< (((w * y) : Int32).toInt64 &&& 63))))) R T) cz kz := by
  intro G
  rfl
theorem ec_become_l1 (X : ez_X) (I : Nat → Nat → Int32) (J : Nat → Nat → Int64) (R : Nat → Nat) (T : List ez_C) (w : Int32) (h : Int32)  : ∀ (n : Nat) (z : Int64) (y : Int32), (h.toInt - y.toInt).toNat < n → ev_W X 145 52 [.ref 1, .int w, .int h, .int 1, .int y] [] (ev_hp (ev_sI I 1 (upd (upd (upd (upd (upd (upd (I 1) 3 w) 4 h) 5 1) 6 (w * h)) 1 0) 2 0)) (ev_sJ J 1 (vp_updL (vp_updL (J 1) 7 (((1 : Int64) <<< ((w * h).toInt64 &&& 63)) - (1 : Int64))) 8 z)) R T) 0 0 (fun r0 h1 c1 k1 => r0 = none ∧ (∃ z y : Int64, h1 = ev_hp (ev_sI I 1 (upd (upd (upd (upd (upd (upd (I 1) 3 w) 4 h) 5 1) 6 (w * h)) 1 0) 2 0)) (ev_sJ J 1 (vp_updL (vp_updL (vp_updL (J 1) 7 (((1 : Int64) <<< ((w * h).toInt64 &&& 63)) - (1 : Int64))) 8 z) 9 y)) R T) ∧ c1 = 0 ∧ k1 = 0) := by
  intro n
  induction n with
  | zero => intro z y hm; exact absurd hm (Nat.not_lt_zero _)
  | succ n ih =>
    intro z y hm
    refine ev_if (ec_become_l1_r1 X I J R T w h z y _ _) (fun b1 => ?_) (fun b1 => ?_)
    · replace b1 := of_decide_eq_true b1
      refine ev_ret (ec_become_l1_r2 X I J R T w h z y _ _) ?_
      exact ⟨rfl, ⟨_, _, rfl⟩, rfl, rfl⟩
    · replace b1 := of_decide_eq_false b1
      refine ev_seg (ec_become_l1_r3 X I J R T w h z y _ _) ?_
      exact ih _ _ (ev_up hm b1)
set_option maxRecDepth 100000 in
set_option maxHeartbeats 100000 in
theorem ec_become1_r1 (X : ez_X) (I : Nat → Nat → Int32) (J : Nat → Nat → Int64) (R : Nat → Nat) (T : List ez_C) (w : Int32) (h : Int32) (cz kz : Nat) : ∀ G : ez_F, fx_up X 24 G 145 0 [.ref 1, .int w, .int h, .int 1] [] (ev_hp I J R T) cz kz = G 145 38 [.ref 1, .int w, .int h, .int 1] [.int (w * h), .long 1, .ref 1] (ev_hp (ev_sI I 1 (upd (upd (upd (upd (upd (upd (I 1) 3 w) 4 h) 5 1) 6 (w * h)) 1 0) 2 0)) J R T) cz kz := by
  intro G
  rfl
set_option maxRecDepth 100000 in
set_option maxHeartbeats 100000 in
theorem ec_become1_r2 (X : ez_X) (I : Nat → Nat → Int32) (J : Nat → Nat → Int64) (R : Nat → Nat) (T : List ez_C) (w : Int32) (h : Int32) (cz kz : Nat) : ∀ G : ez_F, fx_up X 9 G 145 38 [.ref 1, .int w, .int h, .int 1] [.int (w * h), .long 1, .ref 1] (ev_hp (ev_sI I 1 (upd (upd (upd (upd (upd (upd (I 1) 3 w) 4 h) 5 1) 6 (w * h)) 1 0) 2 0)) J R T) cz kz = G 145 52 [.ref 1, .int w, .int h, .int 1, .int 0] [] (ev_hp (ev_sI I 1 (upd (upd (upd (upd (upd (upd (I 1) 3 w) 4 h) 5 1) 6 (w * h)) 1 0) 2 0)) (ev_sJ J 1 (vp_updL (vp_updL (J 1) 7 (((1 : Int64) <<< (((w * h) : Int32).toInt64 &&& 63)) - (1 : Int64))) 8 0)) R T) cz kz := by
  intro G
  rfl
theorem ec_become1 (X : ez_X) (I : Nat → Nat → Int32) (J : Nat → Nat → Int64) (R : Nat → Nat) (T : List ez_C) (w : Int32) (h : Int32)  : ev_W X 145 0 (ez_lay [.ref 1, .int w, .int h, .int 1]) [] (ev_hp I J R T) 0 0 (fun r0 h1 c1 k1 => r0 = none ∧ (∃ z y : Int64, h1 = ev_hp (ev_sI I 1 (upd (upd (upd (upd (upd (upd (I 1) 3 w) 4 h) 5 1) 6 (w * h)) 1 0) 2 0)) (ev_sJ J 1 (vp_updL (vp_updL (vp_updL (J 1) 7 (((1 : Int64) <<< ((w * h).toInt64 &&& 63)) - (1 : Int64))) 8 z) 9 y)) R T) ∧ c1 = 0 ∧ k1 = 0) := by
  refine ev_seg (ec_become1_r1 X I J R T w h _ _) ?_
  refine ev_seg (ec_become1_r2 X I J R T w h _ _) ?_
  exact ec_become_l1 X I J R T w h _ _ _ (Nat.lt_succ_self _)
theorem ev_clr {f : Nat → Int32} {i : Int32} (h0 : 0 ≤ i.toInt) (hf : ∀ j : Nat, (j : Int) < i.toInt → f j = -1) (hi : ¬ 12 ≤ i) : 0 ≤ (i + 1).toInt ∧ ∀ j : Nat, (j : Int) < (i + 1).toInt → ev_put 12 f i (-1) j = -1 := by
  rw [ev_inc (Int32.not_le.mp hi)]
  refine ⟨by omega, fun j hj => ?_⟩
  have h3 : ¬ i < 0 := fun z => by
    have := Int32.lt_iff_toInt_lt.mp z
    have e : (0 : Int32).toInt = 0 := by decide
    omega
  unfold ev_put
  rw [if_neg h3, if_neg (show ¬ Int32.ofNat 12 ≤ i from hi)]
  unfold upd
  split
  · rfl
  · rename_i hne
    refine hf j ?_
    have e2 : i.toNatClampNeg = i.toInt.toNat := rfl
    omega
set_option maxRecDepth 100000 in
set_option maxHeartbeats 100000 in
theorem ec_eclear_l_r1 (X : ez_X) (I : Nat → Nat → Int32) (J : Nat → Nat → Int64) (R : Nat → Nat) (T : List ez_C) (i : Int32) (f : Nat → Int32) (cz kz : Nat) : ∀ G : ez_F, fx_up X 3 G 72 2 [.ref 32, .int i] [] (ev_hp (ev_sI I 33 f) J R T) cz kz = bif decide (12 ≤ i) then G 72 23 [.ref 32, .int i] [] (ev_hp (ev_sI I 33 f) J R T) cz kz else G 72 8 [.ref 32, .int i] [] (ev_hp (ev_sI I 33 f) J R T) cz kz := by
  intro G
  rfl
set_option maxRecDepth 100000 in
set_option maxHeartbeats 100000 in
theorem ec_eclear_l_r2 (X : ez_X) (I : Nat → Nat → Int32) (J : Nat → Nat → Int64) (R : Nat → Nat) (T : List ez_C) (i : Int32) (f : Nat → Int32) (cz kz : Nat) : ∀ G : ez_F, fx_up X 1 G 72 23 [.ref 32, .int i] [] (ev_hp (ev_sI I 33 f) J R T) cz kz = some (none, (ev_hp (ev_sI I 33 f) J R T), cz, kz) := by
  intro G
  rfl
set_option maxRecDepth 100000 in
set_option maxHeartbeats 100000 in
theorem ec_eclear_l_r3 (X : ez_X) (I : Nat → Nat → Int32) (J : Nat → Nat → Int64) (R : Nat → Nat) (T : List ez_C) (i : Int32) (f : Nat → Int32) (cz kz : Nat) : ∀ G : ez_F, fx_up X 5 G 72 8 [.ref 32, .int i] [] (ev_hp (ev_sI I 33 f) J R T) cz kz = ev_C G 38 [.ref 33, .int i, .int (-1)] (ev_hp (ev_sI I 33 f) J R T) fun r h1 c1 k1 => G 72 17 [.ref 32, .int i] (r.toList ++ []) h1 (cz + c1) (kz + k1) := by
  intro G
  rfl
set_option maxRecDepth 100000 in
set_option maxHeartbeats 100000 in
theorem ec_eclear_l_r4 (X : ez_X) (I : Nat → Nat → Int32) (J : Nat → Nat → Int64) (R : Nat → Nat) (T : List ez_C) (i : Int32) (f : Nat → Int32) (cz kz : Nat) : ∀ G : ez_F, fx_up X 2 G 72 17 [.ref 32, .int i] [] (ev_hp (ev_sI I 33 (ev_put 12 f i (-1))) J R T) cz kz = G 72 2 [.ref 32, .int (i + (1 : Int32))] [] (ev_hp (ev_sI I 33 (ev_put 12 f i (-1))) J R T) cz kz := by
  intro G
  rfl
theorem ec_eclear_l (X : ez_X) (I : Nat → Nat → Int32) (J : Nat → Nat → Int64) (R : Nat → Nat) (T : List ez_C)  : ∀ (n : Nat) (i : Int32) (f : Nat → Int32), ((12 : Int32).toInt - i.toInt).toNat < n → (0 ≤ i.toInt ∧ ∀ j : Nat, (j : Int) < i.toInt → f j = -1) → ev_W X 72 2 [.ref 32, .int i] [] (ev_hp (ev_sI I 33 f) J R T) 0 0 (fun r h1 c1 k1 => r = none ∧ (∃ f : Nat → Int32, (∀ j, j < 12 → f j = -1) ∧ h1 = ev_hp (ev_sI I 33 f) J R T) ∧ c1 = 0 ∧ k1 = 0) := by
  intro n
  induction n with
  | zero => intro i f hm; exact absurd hm (Nat.not_lt_zero _)
  | succ n ih =>
    intro i f hm h1
    refine ev_if (ec_eclear_l_r1 X I J R T i f _ _) (fun b1 => ?_) (fun b1 => ?_)
    · replace b1 := of_decide_eq_true b1
      refine ev_ret (ec_eclear_l_r2 X I J R T i f _ _) ?_
      refine ⟨rfl, ⟨_, fun j hj => h1.2 j ?_, rfl⟩, rfl, rfl⟩
      have := Int32.le_iff_toInt_le.mp b1
      have e : (12 : Int32).toInt = 12 := by decide
      omega
    · replace b1 := of_decide_eq_false b1
      refine ev_call (ec_eclear_l_r3 X I J R T i f _ _) (ec_put X (ev_hp (ev_sI I 33 f) J R T) 12 33 i (-1) f rfl (by decide)) ?_
      rintro _ _ _ _ ⟨rfl, rfl, rfl, rfl⟩
      refine ev_seg (ec_eclear_l_r4 X I J R T i f _ _) ?_
      exact ih _ _ (ev_up hm b1) (ev_clr h1.1 h1.2 b1)
set_option maxRecDepth 100000 in
set_option maxHeartbeats 100000 in
theorem ec_eclear_r1 (X : ez_X) (I : Nat → Nat → Int32) (J : Nat → Nat → Int64) (R : Nat → Nat) (T : List ez_C) (cz kz : Nat) : ∀ G : ez_F, fx_up X 2 G 72 0 [.ref 32] [] (ev_hp I J R T) cz kz = G 72 2 [.ref 32, .int 0] [] (ev_hp I J R T) cz kz := by
  intro G
  rfl
theorem ec_eclear (X : ez_X) (I : Nat → Nat → Int32) (J : Nat → Nat → Int64) (R : Nat → Nat) (T : List ez_C)  : ev_W X 72 0 (ez_lay [.ref 32]) [] (ev_hp I J R T) 0 0 (fun r h1 c1 k1 => r = none ∧ (∃ f : Nat → Int32, (∀ j, j < 12 → f j = -1) ∧ h1 = ev_hp (ev_sI I 33 f) J R T) ∧ c1 = 0 ∧ k1 = 0) := by
  refine ev_seg (ec_eclear_r1 X I J R T _ _) ?_
  exact ec_eclear_l X I J R T _ _ (I 33) (Nat.lt_succ_self _) ⟨by decide, fun j hj => absurd hj (Int.not_lt.mpr (Int.natCast_nonneg j))⟩
set_option maxRecDepth 100000 in
set_option maxHeartbeats 100000 in
theorem eg_grid0_r1 (X : ez_X) (I : Nat → Nat → Int32) (J : Nat → Nat → Int64) (R : Nat → Nat) (T : List ez_C) (w : Int32) (h : Int32) (cz kz : Nat) : ∀ G : ez_F, fx_up X 4 G 18 0 [.ref 0, .int w, .int h, .int 0] [] (ev_hp I J R T) cz kz = ev_C G 55 [.int w, .int 2, .int 6] (ev_hp I J R T) fun r h1 c1 k1 => G 18 7 [.ref 0, .int w, .int h, .int 0] (r.toList ++ []) h1 (cz + c1) (kz + k1) := by
  intro G
  rfl
set_option maxRecDepth 100000 in
set_option maxHeartbeats 100000 in
theorem eg_grid0_r2 (X : ez_X) (I : Nat → Nat → Int32) (J : Nat → Nat → Int64) (R : Nat → Nat) (T : List ez_C) (w : Int32) (h : Int32) (q10 : Int32) (cz kz : Nat) : ∀ G : ez_F, fx_up X 1 G 18 7 [.ref 0, .int w, .int h, .int 0] [.int q10] (ev_hp I J R T) cz kz = bif decide (q10 = 0) then G 18 20 [.ref 0, .int w, .int h, .int 0] [] (ev_hp I J R T) cz kz else G 18 10 [.ref 0, .int w, .int h, .int 0] [] (ev_hp I J R T) cz kz := by
  intro G
  rfl
set_option maxRecDepth 100000 in
set_option maxHeartbeats 100000 in
theorem eg_grid0_r3 (X : ez_X) (I : Nat → Nat → Int32) (J : Nat → Nat → Int64) (R : Nat → Nat) (T : List ez_C) (w : Int32) (h : Int32) (q10 : Int32) (cz kz : Nat) : ∀ G : ez_F, fx_up X 2 G 18 20 [.ref 0, .int w, .int h, .int 0] [] (ev_hp I J R T) cz kz = some (some (.int (-3)), (ev_hp I J R T), cz, kz) := by
  intro G
  rfl
set_option maxRecDepth 100000 in
set_option maxHeartbeats 100000 in
theorem eg_grid0_r4 (X : ez_X) (I : Nat → Nat → Int32) (J : Nat → Nat → Int64) (R : Nat → Nat) (T : List ez_C) (w : Int32) (h : Int32) (q10 : Int32) (cz kz : Nat) : ∀ G : ez_F, fx_up X 4 G 18 10 [.ref 0, .int w, .int h, .int 0] [] (ev_hp I J R T) cz kz = ev_C G 55 [.int h, .int 2, .int 6] (ev_hp I J R T) fun r h1 c1 k1 => G 18 17 [.ref 0, .int w, .int h, .int 0] (r.toList ++ []) h1 (cz + c1) (kz + k1) := by
  intro G
  rfl
set_option maxRecDepth 100000 in
set_option maxHeartbeats 100000 in
theorem eg_grid0_r5 (X : ez_X) (I : Nat → Nat → Int32) (J : Nat → Nat → Int64) (R : Nat → Nat) (T : List ez_C) (w : Int32) (h : Int32) (q10 : Int32) (q11 : Int32) (cz kz : Nat) : ∀ G : ez_F, fx_up X 1 G 18 17 [.ref 0, .int w, .int h, .int 0] [.int q11] (ev_hp I J R T) cz kz = bif decide (¬ q11 = 0) then G 18 23 [.ref 0, .int w, .int h, .int 0] [] (ev_hp I J R T) cz kz else G 18 20 [.ref 0, .int w, .int h, .int 0] [] (ev_hp I J R T) cz kz := by
  intro G
  rfl
set_option maxRecDepth 100000 in
set_option maxHeartbeats 100000 in
theorem eg_grid0_r6 (X : ez_X) (I : Nat → Nat → Int32) (J : Nat → Nat → Int64) (R : Nat → Nat) (T : List ez_C) (w : Int32) (h : Int32) (q10 : Int32) (q11 : Int32) (cz kz : Nat) : ∀ G : ez_F, fx_up X 6 G 18 23 [.ref 0, .int w, .int h, .int 0] [] (ev_hp I J R T) cz kz = ev_C G 145 [.ref 1, .int w, .int h, .int 0] (ev_hp I J R T) fun r h1 c1 k1 => G 18 33 [.ref 0, .int w, .int h, .int 0] (r.toList ++ []) h1 (cz + c1) (kz + k1) := by
  intro G
  rfl
set_option maxRecDepth 100000 in
set_option maxHeartbeats 100000 in
theorem eg_grid0_r7 (X : ez_X) (I : Nat → Nat → Int32) (J : Nat → Nat → Int64) (R : Nat → Nat) (T : List ez_C) (w : Int32) (h : Int32) (q10 : Int32) (q11 : Int32) (z15 : Int64) (y16 : Int64) (cz kz : Nat) : ∀ G : ez_F, fx_up X 3 G 18 33 [.ref 0, .int w, .int h, .int 0] [] (ev_hp (ev_sI I 1 (upd (upd (upd (upd (upd (upd (I 1) 3 w) 4 h) 5 0) 6 (w * h)) 1 0) 2 0)) (ev_sJ J 1 (vp_updL (vp_updL (vp_updL (J 1) 7 (((1 : Int64) <<< ((w * h).toInt64 &&& 63)) - (1 : Int64))) 8 z15) 9 y16)) R T) cz kz = ev_C G 88 [.ref 3] (ev_hp (ev_sI I 1 (upd (upd (upd (upd (upd (upd (I 1) 3 w) 4 h) 5 0) 6 (w * h)) 1 0) 2 0)) (ev_sJ J 1 (vp_updL (vp_updL (vp_updL (J 1) 7 (((1 : Int64) <<< ((w * h).toInt64 &&& 63)) - (1 : Int64))) 8 z15) 9 y16)) R T) fun r h1 c1 k1 => G 18 40 [.ref 0, .int w, .int h, .int 0] (r.toList ++ []) h1 (cz + c1) (kz + k1) := by
  intro G
  rfl
set_option maxRecDepth 100000 in
set_option maxHeartbeats 100000 in
theorem eg_grid0_r8 (X : ez_X) (I : Nat → Nat → Int32) (J : Nat → Nat → Int64) (R : Nat → Nat) (T : List ez_C) (w : Int32) (h : Int32) (q10 : Int32) (q11 : Int32) (z15 : Int64) (y16 : Int64) (cz kz : Nat) : ∀ G : ez_F, fx_up X 3 G 18 40 [.ref 0, .int w, .int h, .int 0] [] (ev_hp (ev_sI (ev_sI I 1 (upd (upd (upd (upd (upd (upd (I 1) 3 w) 4 h) 5 0) 6 (w * h)) 1 0) 2 0)) 3 (upd (I 3) 3 0)) (ev_sJ J 1 (vp_updL (vp_updL (vp_updL (J 1) 7 (((1 : Int64) <<< ((w * h).toInt64 &&& 63)) - (1 : Int64))) 8 z15) 9 y16)) R T) cz kz = ev_C G 122 [.ref 8] (ev_hp (ev_sI (ev_sI I 1 (upd (upd (upd (upd (upd (upd (I 1) 3 w) 4 h) 5 0) 6 (w * h)) 1 0) 2 0)) 3 (upd (I 3) 3 0)) (ev_sJ J 1 (vp_updL (vp_updL (vp_updL (J 1) 7 (((1 : Int64) <<< ((w * h).toInt64 &&& 63)) - (1 : Int64))) 8 z15) 9 y16)) R T) fun r h1 c1 k1 => G 18 47 [.ref 0, .int w, .int h, .int 0] (r.toList ++ []) h1 (cz + c1) (kz + k1) := by
  intro G
  rfl
set_option maxRecDepth 100000 in
set_option maxHeartbeats 100000 in
theorem eg_grid0_r9 (X : ez_X) (I : Nat → Nat → Int32) (J : Nat → Nat → Int64) (R : Nat → Nat) (T : List ez_C) (w : Int32) (h : Int32) (q10 : Int32) (q11 : Int32) (z15 : Int64) (y16 : Int64) (cz kz : Nat) : ∀ G : ez_F, fx_up X 3 G 18 47 [.ref 0, .int w, .int h, .int 0] [] (ev_hp (ev_sI (ev_sI (ev_sI I 1 (upd (upd (upd (upd (upd (upd (I 1) 3 w) 4 h) 5 0) 6 (w * h)) 1 0) 2 0)) 3 (upd (I 3) 3 0)) 8 (upd (I 8) 1 0)) (ev_sJ (ev_sJ J 1 (vp_updL (vp_updL (vp_updL (J 1) 7 (((1 : Int64) <<< ((w * h).toInt64 &&& 63)) - (1 : Int64))) 8 z15) 9 y16)) 8 (vp_updL (vp_updL (J 8) 2 0) 3 0)) R T) cz kz = ev_C G 72 [.ref 32] (ev_hp (ev_sI (ev_sI (ev_sI I 1 (upd (upd (upd (upd (upd (upd (I 1) 3 w) 4 h) 5 0) 6 (w * h)) 1 0) 2 0)) 3 (upd (I 3) 3 0)) 8 (upd (I 8) 1 0)) (ev_sJ (ev_sJ J 1 (vp_updL (vp_updL (vp_updL (J 1) 7 (((1 : Int64) <<< ((w * h).toInt64 &&& 63)) - (1 : Int64))) 8 z15) 9 y16)) 8 (vp_updL (vp_updL (J 8) 2 0) 3 0)) R T) fun r h1 c1 k1 => G 18 54 [.ref 0, .int w, .int h, .int 0] (r.toList ++ []) h1 (cz + c1) (kz + k1) := by
  intro G
  rfl
set_option maxRecDepth 100000 in
set_option maxHeartbeats 100000 in
theorem eg_grid0_r10 (X : ez_X) (I : Nat → Nat → Int32) (J : Nat → Nat → Int64) (R : Nat → Nat) (T : List ez_C) (w : Int32) (h : Int32) (q10 : Int32) (q11 : Int32) (z15 : Int64) (y16 : Int64) (f17 : Nat → Int32) (cz kz : Nat) : ∀ G : ez_F, fx_up X 2 G 18 54 [.ref 0, .int w, .int h, .int 0] [] (ev_hp (ev_sI (ev_sI (ev_sI (ev_sI I 1 (upd (upd (upd (upd (upd (upd (I 1) 3 w) 4 h) 5 0) 6 (w * h)) 1 0) 2 0)) 3 (upd (I 3) 3 0)) 8 (upd (I 8) 1 0)) 33 f17) (ev_sJ (ev_sJ J 1 (vp_updL (vp_updL (vp_updL (J 1) 7 (((1 : Int64) <<< ((w * h).toInt64 &&& 63)) - (1 : Int64))) 8 z15) 9 y16)) 8 (vp_updL (vp_updL (J 8) 2 0) 3 0)) R T) cz kz = ev_C G 28 [.ref 0] (ev_hp (ev_sI (ev_sI (ev_sI (ev_sI I 1 (upd (upd (upd (upd (upd (upd (I 1) 3 w) 4 h) 5 0) 6 (w * h)) 1 0) 2 0)) 3 (upd (I 3) 3 0)) 8 (upd (I 8) 1 0)) 33 f17) (ev_sJ (ev_sJ J 1 (vp_updL (vp_updL (vp_updL (J 1) 7 (((1 : Int64) <<< ((w * h).toInt64 &&& 63)) - (1 : Int64))) 8 z15) 9 y16)) 8 (vp_updL (vp_updL (J 8) 2 0) 3 0)) R T) fun r h1 c1 k1 => G 18 58 [.ref 0, .int w, .int h, .int 0] (r.toList ++ []) h1 (cz + c1) (kz + k1) := by
  intro G
  rfl
set_option maxRecDepth 100000 in
set_option maxHeartbeats 100000 in
theorem eg_grid0_r11 (X : ez_X) (I : Nat → Nat → Int32) (J : Nat → Nat → Int64) (R : Nat → Nat) (T : List ez_C) (w : Int32) (h : Int32) (q10 : Int32) (q11 : Int32) (z15 : Int64) (y16 : Int64) (f17 : Nat → Int32) (cz kz : Nat) : ∀ G : ez_F, fx_up X 4 G 18 58 [.ref 0, .int w, .int h, .int 0] [] (ev_hp (ev_sI (ev_sI (ev_sI (ev_sI (ev_sI (ev_sI (ev_sI (ev_sI I 1 (upd (upd (upd (upd (upd (upd (I 1) 3 w) 4 h) 5 0) 6 (w * h)) 1 0) 2 0)) 3 (upd (I 3) 3 0)) 6 (upd (I 6) 4 0)) 8 (upd (I 8) 1 0)) 13 (upd (upd (I 13) 8 0) 9 0)) 20 (upd (I 20) 3 0)) 22 (upd (upd (I 22) 8 0) 11 (-1))) 33 f17) (ev_sJ (ev_sJ J 1 (vp_updL (vp_updL (vp_updL (J 1) 7 (((1 : Int64) <<< ((w * h).toInt64 &&& 63)) - (1 : Int64))) 8 z15) 9 y16)) 8 (vp_updL (vp_updL (J 8) 2 0) 3 0)) R T) cz kz = some (some (.int (w * h)), (ev_hp (ev_sI (ev_sI (ev_sI (ev_sI (ev_sI (ev_sI (ev_sI (ev_sI I 1 (upd (upd (upd (upd (upd (upd (I 1) 3 w) 4 h) 5 0) 6 (w * h)) 1 0) 2 0)) 3 (upd (I 3) 3 0)) 6 (upd (I 6) 4 0)) 8 (upd (I 8) 1 0)) 13 (upd (upd (I 13) 8 0) 9 0)) 20 (upd (I 20) 3 0)) 22 (upd (upd (I 22) 8 0) 11 (-1))) 33 f17) (ev_sJ (ev_sJ J 1 (vp_updL (vp_updL (vp_updL (J 1) 7 (((1 : Int64) <<< ((w * h).toInt64 &&& 63)) - (1 : Int64))) 8 z15) 9 y16)) 8 (vp_updL (vp_updL (J 8) 2 0) 3 0)) R T), cz, kz) := by
  intro G
  rfl
set_option maxRecDepth 100000 in
set_option maxHeartbeats 100000 in
theorem eg_grid0_r12 (X : ez_X) (I : Nat → Nat → Int32) (J : Nat → Nat → Int64) (R : Nat → Nat) (T : List ez_C) (w : Int32) (h : Int32) (q10 : Int32) (q11 : Int32) (cz kz : Nat) : ∀ G : ez_F, fx_up X 2 G 18 20 [.ref 0, .int w, .int h, .int 0] [] (ev_hp I J R T) cz kz = some (some (.int (-3)), (ev_hp I J R T), cz, kz) := by
  intro G
  rfl
theorem eg_grid0 (X : ez_X) (I : Nat → Nat → Int32) (J : Nat → Nat → Int64) (R : Nat → Nat) (T : List ez_C) (w : Int32) (h : Int32)  : ev_W X 18 0 (ez_lay [.ref 0, .int w, .int h, .int 0]) [] (ev_hp I J R T) 0 0 (fun r h1 c1 k1 => ((((ev_wi w 2 6)) = 0) ∧ r = some (.int (-3)) ∧ h1 = (ev_hp I J R T) ∧ c1 = 0 ∧ k1 = 0) ∨ (∃ z15 : Int64, ∃ y16 : Int64, ∃ f17 : Nat → Int32, (∀ j, j < 12 → f17 j = -1) ∧ (¬ (((ev_wi w 2 6)) = 0)) ∧ (¬ ((ev_wi h 2 6)) = 0) ∧ r = some (.int (w * h)) ∧ h1 = (ev_hp (ev_sI (ev_sI (ev_sI (ev_sI (ev_sI (ev_sI (ev_sI (ev_sI I 1 (upd (upd (upd (upd (upd (upd (I 1) 3 w) 4 h) 5 0) 6 (w * h)) 1 0) 2 0)) 3 (upd (I 3) 3 0)) 6 (upd (I 6) 4 0)) 8 (upd (I 8) 1 0)) 13 (upd (upd (I 13) 8 0) 9 0)) 20 (upd (I 20) 3 0)) 22 (upd (upd (I 22) 8 0) 11 (-1))) 33 f17) (ev_sJ (ev_sJ J 1 (vp_updL (vp_updL (vp_updL (J 1) 7 (((1 : Int64) <<< ((w * h).toInt64 &&& 63)) - (1 : Int64))) 8 z15) 9 y16)) 8 (vp_updL (vp_updL (J 8) 2 0) 3 0)) R T) ∧ c1 = 0 ∧ k1 = 0) ∨ ((¬ (((ev_wi w 2 6)) = 0)) ∧ (¬ (¬ ((ev_wi h 2 6)) = 0)) ∧ r = some (.int (-3)) ∧ h1 = (ev_hp I J R T) ∧ c1 = 0 ∧ k1 = 0)) := by
  refine ev_call (eg_grid0_r1 X I J R T w h _ _) (ec_within X (ev_hp I J R T) w 2 6) ?_
  rintro _ _ _ _ ⟨rfl, rfl, rfl, rfl⟩
  generalize hq10 : (ev_wi w 2 6) = q10
  refine ev_if (eg_grid0_r2 X I J R T w h q10 _ _) (fun b1 => ?_) (fun b1 => ?_)
  · replace b1 := of_decide_eq_true b1
    refine ev_ret (eg_grid0_r3 X I J R T w h q10 _ _) ?_
    subst hq10
    exact Or.inl ⟨b1, rfl, rfl, rfl, rfl⟩
  · replace b1 := of_decide_eq_false b1
    refine ev_call (eg_grid0_r4 X I J R T w h q10 _ _) (ec_within X (ev_hp I J R T) h 2 6) ?_
    rintro _ _ _ _ ⟨rfl, rfl, rfl, rfl⟩
    generalize hq11 : (ev_wi h 2 6) = q11
    refine ev_if (eg_grid0_r5 X I J R T w h q10 q11 _ _) (fun b2 => ?_) (fun b2 => ?_)
    · replace b2 := of_decide_eq_true b2
      refine ev_call (eg_grid0_r6 X I J R T w h q10 q11 _ _) (ec_become0 X I J R T w h) ?_
      rintro _ _ _ _ ⟨rfl, ⟨z15, y16, rfl⟩, rfl, rfl⟩
      refine ev_call (eg_grid0_r7 X I J R T w h q10 q11 z15 y16 _ _) (ea_S_Fleet_clear_88_3 X (ev_sI I 1 (upd (upd (upd (upd (upd (upd (I 1) 3 w) 4 h) 5 0) 6 (w * h)) 1 0) 2 0)) (ev_sJ J 1 (vp_updL (vp_updL (vp_updL (J 1) 7 (((1 : Int64) <<< ((w * h).toInt64 &&& 63)) - (1 : Int64))) 8 z15) 9 y16)) R T) ?_
      rintro r0 _ _ _ (⟨rfl, rfl, rfl, rfl⟩)
      refine ev_call (eg_grid0_r8 X I J R T w h q10 q11 z15 y16 _ _) (ea_S_Paper_clear_122_8 X (ev_sI (ev_sI I 1 (upd (upd (upd (upd (upd (upd (I 1) 3 w) 4 h) 5 0) 6 (w * h)) 1 0) 2 0)) 3 (upd (I 3) 3 0)) (ev_sJ J 1 (vp_updL (vp_updL (vp_updL (J 1) 7 (((1 : Int64) <<< ((w * h).toInt64 &&& 63)) - (1 : Int64))) 8 z15) 9 y16)) R T) ?_
      rintro r0 _ _ _ (⟨rfl, rfl, rfl, rfl⟩)
      refine ev_call (eg_grid0_r9 X I J R T w h q10 q11 z15 y16 _ _) (ec_eclear X (ev_sI (ev_sI (ev_sI I 1 (upd (upd (upd (upd (upd (upd (I 1) 3 w) 4 h) 5 0) 6 (w * h)) 1 0) 2 0)) 3 (upd (I 3) 3 0)) 8 (upd (I 8) 1 0)) (ev_sJ (ev_sJ J 1 (vp_updL (vp_updL (vp_updL (J 1) 7 (((1 : Int64) <<< ((w * h).toInt64 &&& 63)) - (1 : Int64))) 8 z15) 9 y16)) 8 (vp_updL (vp_updL (J 8) 2 0) 3 0)) R T) ?_
      rintro _ _ _ _ ⟨rfl, ⟨f17, hf17, rfl⟩, rfl, rfl⟩
      refine ev_call (eg_grid0_r10 X I J R T w h q10 q11 z15 y16 f17 _ _) (ea_S_layingsChanged_28_0 X (ev_sI (ev_sI (ev_sI (ev_sI I 1 (upd (upd (upd (upd (upd (upd (I 1) 3 w) 4 h) 5 0) 6 (w * h)) 1 0) 2 0)) 3 (upd (I 3) 3 0)) 8 (upd (I 8) 1 0)) 33 f17) (ev_sJ (ev_sJ J 1 (vp_updL (vp_updL (vp_updL (J 1) 7 (((1 : Int64) <<< ((w * h).toInt64 &&& 63)) - (1 : Int64))) 8 z15) 9 y16)) 8 (vp_updL (vp_updL (J 8) 2 0) 3 0)) R T) ?_
      rintro r0 _ _ _ (⟨rfl, rfl, rfl, rfl⟩)
      refine ev_ret (eg_grid0_r11 X I J R T w h q10 q11 z15 y16 f17 _ _) ?_
      subst hq11
      subst hq10
      exact Or.inr (Or.inl ⟨z15, y16, f17, hf17, b1, b2, rfl, rfl, rfl, rfl⟩)
    · replace b2 := of_decide_eq_false b2
      refine ev_ret (eg_grid0_r12 X I J R T w h q10 q11 _ _) ?_
      subst hq11
      subst hq10
      exact Or.inr (Or.inr (⟨b1, b2, rfl, rfl, rfl, rfl⟩))
set_option maxRecDepth 100000 in
set_option maxHeartbeats 100000 in
theorem eg_grid1_r1 (X : ez_X) (I : Nat → Nat → Int32) (J : Nat → Nat → Int64) (R : Nat → Nat) (T : List ez_C) (w : Int32) (h : Int32) (cz kz : Nat) : ∀ G : ez_F, fx_up X 4 G 18 0 [.ref 0, .int w, .int h, .int 1] [] (ev_hp I J R T) cz kz = ev_C G 55 [.int w, .int 2, .int 6] (ev_hp I J R T) fun r h1 c1 k1 => G 18 7 [.ref 0, .int w, .int h, .int 1] (r.toList ++ []) h1 (cz + c1) (kz + k1) := by
  intro G
  rfl
set_option maxRecDepth 100000 in
set_option maxHeartbeats 100000 in
theorem eg_grid1_r2 (X : ez_X) (I : Nat → Nat → Int32) (J : Nat → Nat → Int64) (R : Nat → Nat) (T : List ez_C) (w : Int32) (h : Int32) (q12 : Int32) (cz kz : Nat) : ∀ G : ez_F, fx_up X 1 G 18 7 [.ref 0, .int w, .int h, .int 1] [.int q12] (ev_hp I J R T) cz kz = bif decide (q12 = 0) then G 18 20 [.ref 0, .int w, .int h, .int 1] [] (ev_hp I J R T) cz kz else G 18 10 [.ref 0, .int w, .int h, .int 1] [] (ev_hp I J R T) cz kz := by
  intro G
  rfl
set_option maxRecDepth 100000 in
set_option maxHeartbeats 100000 in
theorem eg_grid1_r3 (X : ez_X) (I : Nat → Nat → Int32) (J : Nat → Nat → Int64) (R : Nat → Nat) (T : List ez_C) (w : Int32) (h : Int32) (q12 : Int32) (cz kz : Nat) : ∀ G : ez_F, fx_up X 2 G 18 20 [.ref 0, .int w, .int h, .int 1] [] (ev_hp I J R T) cz kz = some (some (.int (-3)), (ev_hp I J R T), cz, kz) := by
  intro G
  rfl
set_option maxRecDepth 100000 in
set_option maxHeartbeats 100000 in
theorem eg_grid1_r4 (X : ez_X) (I : Nat → Nat → Int32) (J : Nat → Nat → Int64) (R : Nat → Nat) (T : List ez_C) (w : Int32) (h : Int32) (q12 : Int32) (cz kz : Nat) : ∀ G : ez_F, fx_up X 4 G 18 10 [.ref 0, .int w, .int h, .int 1] [] (ev_hp I J R T) cz kz = ev_C G 55 [.int h, .int 2, .int 6] (ev_hp I J R T) fun r h1 c1 k1 => G 18 17 [.ref 0, .int w, .int h, .int 1] (r.toList ++ []) h1 (cz + c1) (kz + k1) := by
  intro G
  rfl
set_option maxRecDepth 100000 in
set_option maxHeartbeats 100000 in
theorem eg_grid1_r5 (X : ez_X) (I : Nat → Nat → Int32) (J : Nat → Nat → Int64) (R : Nat → Nat) (T : List ez_C) (w : Int32) (h : Int32) (q12 : Int32) (q13 : Int32) (cz kz : Nat) : ∀ G : ez_F, fx_up X 1 G 18 17 [.ref 0, .int w, .int h, .int 1] [.int q13] (ev_hp I J R T) cz kz = bif decide (¬ q13 = 0) then G 18 23 [.ref 0, .int w, .int h, .int 1] [] (ev_hp I J R T) cz kz else G 18 20 [.ref 0, .int w, .int h, .int 1] [] (ev_hp I J R T) cz kz := by
  intro G
  rfl
set_option maxRecDepth 100000 in
set_option maxHeartbeats 100000 in
theorem eg_grid1_r6 (X : ez_X) (I : Nat → Nat → Int32) (J : Nat → Nat → Int64) (R : Nat → Nat) (T : List ez_C) (w : Int32) (h : Int32) (q12 : Int32) (q13 : Int32) (cz kz : Nat) : ∀ G : ez_F, fx_up X 6 G 18 23 [.ref 0, .int w, .int h, .int 1] [] (ev_hp I J R T) cz kz = ev_C G 145 [.ref 1, .int w, .int h, .int 1] (ev_hp I J R T) fun r h1 c1 k1 => G 18 33 [.ref 0, .int w, .int h, .int 1] (r.toList ++ []) h1 (cz + c1) (kz + k1) := by
  intro G
  rfl
set_option maxRecDepth 100000 in
set_option maxHeartbeats 100000 in
theorem eg_grid1_r7 (X : ez_X) (I : Nat → Nat → Int32) (J : Nat → Nat → Int64) (R : Nat → Nat) (T : List ez_C) (w : Int32) (h : Int32) (q12 : Int32) (q13 : Int32) (z18 : Int64) (y19 : Int64) (cz kz : Nat) : ∀ G : ez_F, fx_up X 3 G 18 33 [.ref 0, .int w, .int h, .int 1] [] (ev_hp (ev_sI I 1 (upd (upd (upd (upd (upd (upd (I 1) 3 w) 4 h) 5 1) 6 (w * h)) 1 0) 2 0)) (ev_sJ J 1 (vp_updL (vp_updL (vp_updL (J 1) 7 (((1 : Int64) <<< ((w * h).toInt64 &&& 63)) - (1 : Int64))) 8 z18) 9 y19)) R T) cz kz = ev_C G 88 [.ref 3] (ev_hp (ev_sI I 1 (upd (upd (upd (upd (upd (upd (I 1) 3 w) 4 h) 5 1) 6 (w * h)) 1 0) 2 0)) (ev_sJ J 1 (vp_updL (vp_updL (vp_updL (J 1) 7 (((1 : Int64) <<< ((w * h).toInt64 &&& 63)) - (1 : Int64))) 8 z18) 9 y19)) R T) fun r h1 c1 k1 => G 18 40 [.ref 0, .int w, .int h, .int 1] (r.toList ++ []) h1 (cz + c1) (kz + k1) := by
  intro G
  rfl
set_option maxRecDepth 100000 in
set_option maxHeartbeats 100000 in
theorem eg_grid1_r8 (X : ez_X) (I : Nat → Nat → Int32) (J : Nat → Nat → Int64) (R : Nat → Nat) (T : List ez_C) (w : Int32) (h : Int32) (q12 : Int32) (q13 : Int32) (z18 : Int64) (y19 : Int64) (cz kz : Nat) : ∀ G : ez_F, fx_up X 3 G 18 40 [.ref 0, .int w, .int h, .int 1] [] (ev_hp (ev_sI (ev_sI I 1 (upd (upd (upd (upd (upd (upd (I 1) 3 w) 4 h) 5 1) 6 (w * h)) 1 0) 2 0)) 3 (upd (I 3) 3 0)) (ev_sJ J 1 (vp_updL (vp_updL (vp_updL (J 1) 7 (((1 : Int64) <<< ((w * h).toInt64 &&& 63)) - (1 : Int64))) 8 z18) 9 y19)) R T) cz kz = ev_C G 122 [.ref 8] (ev_hp (ev_sI (ev_sI I 1 (upd (upd (upd (upd (upd (upd (I 1) 3 w) 4 h) 5 1) 6 (w * h)) 1 0) 2 0)) 3 (upd (I 3) 3 0)) (ev_sJ J 1 (vp_updL (vp_updL (vp_updL (J 1) 7 (((1 : Int64) <<< ((w * h).toInt64 &&& 63)) - (1 : Int64))) 8 z18) 9 y19)) R T) fun r h1 c1 k1 => G 18 47 [.ref 0, .int w, .int h, .int 1] (r.toList ++ []) h1 (cz + c1) (kz + k1) := by
  intro G
  rfl
set_option maxRecDepth 100000 in
set_option maxHeartbeats 100000 in
theorem eg_grid1_r9 (X : ez_X) (I : Nat → Nat → Int32) (J : Nat → Nat → Int64) (R : Nat → Nat) (T : List ez_C) (w : Int32) (h : Int32) (q12 : Int32) (q13 : Int32) (z18 : Int64) (y19 : Int64) (cz kz : Nat) : ∀ G : ez_F, fx_up X 3 G 18 47 [.ref 0, .int w, .int h, .int 1] [] (ev_hp (ev_sI (ev_sI (ev_sI I 1 (upd (upd (upd (upd (upd (upd (I 1) 3 w) 4 h) 5 1) 6 (w * h)) 1 0) 2 0)) 3 (upd (I 3) 3 0)) 8 (upd (I 8) 1 0)) (ev_sJ (ev_sJ J 1 (vp_updL (vp_updL (vp_updL (J 1) 7 (((1 : Int64) <<< ((w * h).toInt64 &&& 63)) - (1 : Int64))) 8 z18) 9 y19)) 8 (vp_updL (vp_updL (J 8) 2 0) 3 0)) R T) cz kz = ev_C G 72 [.ref 32] (ev_hp (ev_sI (ev_sI (ev_sI I 1 (upd (upd (upd (upd (upd (upd (I 1) 3 w) 4 h) 5 1) 6 (w * h)) 1 0) 2 0)) 3 (upd (I 3) 3 0)) 8 (upd (I 8) 1 0)) (ev_sJ (ev_sJ J 1 (vp_updL (vp_updL (vp_updL (J 1) 7 (((1 : Int64) <<< ((w * h).toInt64 &&& 63)) - (1 : Int64))) 8 z18) 9 y19)) 8 (vp_updL (vp_updL (J 8) 2 0) 3 0)) R T) fun r h1 c1 k1 => G 18 54 [.ref 0, .int w, .int h, .int 1] (r.toList ++ []) h1 (cz + c1) (kz + k1) := by
  intro G
  rfl
set_option maxRecDepth 100000 in
set_option maxHeartbeats 100000 in
theorem eg_grid1_r10 (X : ez_X) (I : Nat → Nat → Int32) (J : Nat → Nat → Int64) (R : Nat → Nat) (T : List ez_C) (w : Int32) (h : Int32) (q12 : Int32) (q13 : Int32) (z18 : Int64) (y19 : Int64) (f20 : Nat → Int32) (cz kz : Nat) : ∀ G : ez_F, fx_up X 2 G 18 54 [.ref 0, .int w, .int h, .int 1] [] (ev_hp (ev_sI (ev_sI (ev_sI (ev_sI I 1 (upd (upd (upd (upd (upd (upd (I 1) 3 w) 4 h) 5 1) 6 (w * h)) 1 0) 2 0)) 3 (upd (I 3) 3 0)) 8 (upd (I 8) 1 0)) 33 f20) (ev_sJ (ev_sJ J 1 (vp_updL (vp_updL (vp_updL (J 1) 7 (((1 : Int64) <<< ((w * h).toInt64 &&& 63)) - (1 : Int64))) 8 z18) 9 y19)) 8 (vp_updL (vp_updL (J 8) 2 0) 3 0)) R T) cz kz = ev_C G 28 [.ref 0] (ev_hp (ev_sI (ev_sI (ev_sI (ev_sI I 1 (upd (upd (upd (upd (upd (upd (I 1) 3 w) 4 h) 5 1) 6 (w * h)) 1 0) 2 0)) 3 (upd (I 3) 3 0)) 8 (upd (I 8) 1 0)) 33 f20) (ev_sJ (ev_sJ J 1 (vp_updL (vp_updL (vp_updL (J 1) 7 (((1 : Int64) <<< ((w * h).toInt64 &&& 63)) - (1 : Int64))) 8 z18) 9 y19)) 8 (vp_updL (vp_updL (J 8) 2 0) 3 0)) R T) fun r h1 c1 k1 => G 18 58 [.ref 0, .int w, .int h, .int 1] (r.toList ++ []) h1 (cz + c1) (kz + k1) := by
  intro G
  rfl
set_option maxRecDepth 100000 in
set_option maxHeartbeats 100000 in
theorem eg_grid1_r11 (X : ez_X) (I : Nat → Nat → Int32) (J : Nat → Nat → Int64) (R : Nat → Nat) (T : List ez_C) (w : Int32) (h : Int32) (q12 : Int32) (q13 : Int32) (z18 : Int64) (y19 : Int64) (f20 : Nat → Int32) (cz kz : Nat) : ∀ G : ez_F, fx_up X 4 G 18 58 [.ref 0, .int w, .int h, .int 1] [] (ev_hp (ev_sI (ev_sI (ev_sI (ev_sI (ev_sI (ev_sI (ev_sI (ev_sI I 1 (upd (upd (upd (upd (upd (upd (I 1) 3 w) 4 h) 5 1) 6 (w * h)) 1 0) 2 0)) 3 (upd (I 3) 3 0)) 6 (upd (I 6) 4 0)) 8 (upd (I 8) 1 0)) 13 (upd (upd (I 13) 8 0) 9 0)) 20 (upd (I 20) 3 0)) 22 (upd (upd (I 22) 8 0) 11 (-1))) 33 f20) (ev_sJ (ev_sJ J 1 (vp_updL (vp_updL (vp_updL (J 1) 7 (((1 : Int64) <<< ((w * h).toInt64 &&& 63)) - (1 : Int64))) 8 z18) 9 y19)) 8 (vp_updL (vp_updL (J 8) 2 0) 3 0)) R T) cz kz = some (some (.int (w * h)), (ev_hp (ev_sI (ev_sI (ev_sI (ev_sI (ev_sI (ev_sI (ev_sI (ev_sI I 1 (upd (upd (upd (upd (upd (upd (I 1) 3 w) 4 h) 5 1) 6 (w * h)) 1 0) 2 0)) 3 (upd (I 3) 3 0)) 6 (upd (I 6) 4 0)) 8 (upd (I 8) 1 0)) 13 (upd (upd (I 13) 8 0) 9 0)) 20 (upd (I 20) 3 0)) 22 (upd (upd (I 22) 8 0) 11 (-1))) 33 f20) (ev_sJ (ev_sJ J 1 (vp_updL (vp_updL (vp_updL (J 1) 7 (((1 : Int64) <<< ((w * h).toInt64 &&& 63)) - (1 : Int64))) 8 z18) 9 y19)) 8 (vp_updL (vp_updL (J 8) 2 0) 3 0)) R T), cz, kz) := by
  intro G
  rfl
set_option maxRecDepth 100000 in
set_option maxHeartbeats 100000 in
theorem eg_grid1_r12 (X : ez_X) (I : Nat → Nat → Int32) (J : Nat → Nat → Int64) (R : Nat → Nat) (T : List ez_C) (w : Int32) (h : Int32) (q12 : Int32) (q13 : Int32) (cz kz : Nat) : ∀ G : ez_F, fx_up X 2 G 18 20 [.ref 0, .int w, .int h, .int 1] [] (ev_hp I J R T) cz kz = some (some (.int (-3)), (ev_hp I J R T), cz, kz) := by
  intro G
  rfl
theorem eg_grid1 (X : ez_X) (I : Nat → Nat → Int32) (J : Nat → Nat → Int64) (R : Nat → Nat) (T : List ez_C) (w : Int32) (h : Int32)  : ev_W X 18 0 (ez_lay [.ref 0, .int w, .int h, .int 1]) [] (ev_hp I J R T) 0 0 (fun r h1 c1 k1 => ((((ev_wi w 2 6)) = 0) ∧ r = some (.int (-3)) ∧ h1 = (ev_hp I J R T) ∧ c1 = 0 ∧ k1 = 0) ∨ (∃ z18 : Int64, ∃ y19 : Int64, ∃ f20 : Nat → Int32, (∀ j, j < 12 → f20 j = -1) ∧ (¬ (((ev_wi w 2 6)) = 0)) ∧ (¬ ((ev_wi h 2 6)) = 0) ∧ r = some (.int (w * h)) ∧ h1 = (ev_hp (ev_sI (ev_sI (ev_sI (ev_sI (ev_sI (ev_sI (ev_sI (ev_sI I 1 (upd (upd (upd (upd (upd (upd (I 1) 3 w) 4 h) 5 1) 6 (w * h)) 1 0) 2 0)) 3 (upd (I 3) 3 0)) 6 (upd (I 6) 4 0)) 8 (upd (I 8) 1 0)) 13 (upd (upd (I 13) 8 0) 9 0)) 20 (upd (I 20) 3 0)) 22 (upd (upd (I 22) 8 0) 11 (-1))) 33 f20) (ev_sJ (ev_sJ J 1 (vp_updL (vp_updL (vp_updL (J 1) 7 (((1 : Int64) <<< ((w * h).toInt64 &&& 63)) - (1 : Int64))) 8 z18) 9 y19)) 8 (vp_updL (vp_updL (J 8) 2 0) 3 0)) R T) ∧ c1 = 0 ∧ k1 = 0) ∨ ((¬ (((ev_wi w 2 6)) = 0)) ∧ (¬ (¬ ((ev_wi h 2 6)) = 0)) ∧ r = some (.int (-3)) ∧ h1 = (ev_hp I J R T) ∧ c1 = 0 ∧ k1 = 0)) := by
  refine ev_call (eg_grid1_r1 X I J R T w h _ _) (ec_within X (ev_hp I J R T) w 2 6) ?_
  rintro _ _ _ _ ⟨rfl, rfl, rfl, rfl⟩
  generalize hq12 : (ev_wi w 2 6) = q12
  refine ev_if (eg_grid1_r2 X I J R T w h q12 _ _) (fun b1 => ?_) (fun b1 => ?_)
  · replace b1 := of_decide_eq_true b1
    refine ev_ret (eg_grid1_r3 X I J R T w h q12 _ _) ?_
    subst hq12
    exact Or.inl ⟨b1, rfl, rfl, rfl, rfl⟩
  · replace b1 := of_decide_eq_false b1
    refine ev_call (eg_grid1_r4 X I J R T w h q12 _ _) (ec_within X (ev_hp I J R T) h 2 6) ?_
    rintro _ _ _ _ ⟨rfl, rfl, rfl, rfl⟩
    generalize hq13 : (ev_wi h 2 6) = q13
    refine ev_if (eg_grid1_r5 X I J R T w h q12 q13 _ _) (fun b2 => ?_) (fun b2 => ?_)
    · replace b2 := of_decide_eq_true b2
      refine ev_call (eg_grid1_r6 X I J R T w h q12 q13 _ _) (ec_become1 X I J R T w h) ?_
      rintro _ _ _ _ ⟨rfl, ⟨z18, y19, rfl⟩, rfl, rfl⟩
      refine ev_call (eg_grid1_r7 X I J R T w h q12 q13 z18 y19 _ _) (ea_S_Fleet_clear_88_3 X (ev_sI I 1 (upd (upd (upd (upd (upd (upd (I 1) 3 w) 4 h) 5 1) 6 (w * h)) 1 0) 2 0)) (ev_sJ J 1 (vp_updL (vp_updL (vp_updL (J 1) 7 (((1 : Int64) <<< ((w * h).toInt64 &&& 63)) - (1 : Int64))) 8 z18) 9 y19)) R T) ?_
      rintro r0 _ _ _ (⟨rfl, rfl, rfl, rfl⟩)
      refine ev_call (eg_grid1_r8 X I J R T w h q12 q13 z18 y19 _ _) (ea_S_Paper_clear_122_8 X (ev_sI (ev_sI I 1 (upd (upd (upd (upd (upd (upd (I 1) 3 w) 4 h) 5 1) 6 (w * h)) 1 0) 2 0)) 3 (upd (I 3) 3 0)) (ev_sJ J 1 (vp_updL (vp_updL (vp_updL (J 1) 7 (((1 : Int64) <<< ((w * h).toInt64 &&& 63)) - (1 : Int64))) 8 z18) 9 y19)) R T) ?_
      rintro r0 _ _ _ (⟨rfl, rfl, rfl, rfl⟩)
      refine ev_call (eg_grid1_r9 X I J R T w h q12 q13 z18 y19 _ _) (ec_eclear X (ev_sI (ev_sI (ev_sI I 1 (upd (upd (upd (upd (upd (upd (I 1) 3 w) 4 h) 5 1) 6 (w * h)) 1 0) 2 0)) 3 (upd (I 3) 3 0)) 8 (upd (I 8) 1 0)) (ev_sJ (ev_sJ J 1 (vp_updL (vp_updL (vp_updL (J 1) 7 (((1 : Int64) <<< ((w * h).toInt64 &&& 63)) - (1 : Int64))) 8 z18) 9 y19)) 8 (vp_updL (vp_updL (J 8) 2 0) 3 0)) R T) ?_
      rintro _ _ _ _ ⟨rfl, ⟨f20, hf20, rfl⟩, rfl, rfl⟩
      refine ev_call (eg_grid1_r10 X I J R T w h q12 q13 z18 y19 f20 _ _) (ea_S_layingsChanged_28_0 X (ev_sI (ev_sI (ev_sI (ev_sI I 1 (upd (upd (upd (upd (upd (upd (I 1) 3 w) 4 h) 5 1) 6 (w * h)) 1 0) 2 0)) 3 (upd (I 3) 3 0)) 8 (upd (I 8) 1 0)) 33 f20) (ev_sJ (ev_sJ J 1 (vp_updL (vp_updL (vp_updL (J 1) 7 (((1 : Int64) <<< ((w * h).toInt64 &&& 63)) - (1 : Int64))) 8 z18) 9 y19)) 8 (vp_updL (vp_updL (J 8) 2 0) 3 0)) R T) ?_
      rintro r0 _ _ _ (⟨rfl, rfl, rfl, rfl⟩)
      refine ev_ret (eg_grid1_r11 X I J R T w h q12 q13 z18 y19 f20 _ _) ?_
      subst hq13
      subst hq12
      exact Or.inr (Or.inl ⟨z18, y19, f20, hf20, b1, b2, rfl, rfl, rfl, rfl⟩)
    · replace b2 := of_decide_eq_false b2
      refine ev_ret (eg_grid1_r12 X I J R T w h q12 q13 _ _) ?_
      subst hq13
      subst hq12
      exact Or.inr (Or.inr (⟨b1, b2, rfl, rfl, rfl, rfl⟩))
set_option maxRecDepth 100000 in
set_option maxHeartbeats 100000 in
theorem eg_set_r1 (X : ez_X) (I : Nat → Nat → Int32) (J : Nat → Nat → Int64) (R : Nat → Nat) (T : List ez_C) (a : Int32) (b : Int32) (cz kz : Nat) : ∀ G : ez_F, fx_up X 4 G 42 0 [.ref 0, .int a, .int b] [] (ev_hp I J R T) cz kz = ev_C G 55 [.int a, .int 0, .int 2] (ev_hp I J R T) fun r h1 c1 k1 => G 42 6 [.ref 0, .int a, .int b] (r.toList ++ []) h1 (cz + c1) (kz + k1) := by
  intro G
  rfl
set_option maxRecDepth 100000 in
set_option maxHeartbeats 100000 in
theorem eg_set_r2 (X : ez_X) (I : Nat → Nat → Int32) (J : Nat → Nat → Int64) (R : Nat → Nat) (T : List ez_C) (a : Int32) (b : Int32) (q14 : Int32) (cz kz : Nat) : ∀ G : ez_F, fx_up X 1 G 42 6 [.ref 0, .int a, .int b] [.int q14] (ev_hp I J R T) cz kz = bif decide (q14 = 0) then G 42 27 [.ref 0, .int a, .int b] [] (ev_hp I J R T) cz kz else G 42 9 [.ref 0, .int a, .int b] [] (ev_hp I J R T) cz kz := by
  intro G
  rfl
set_option maxRecDepth 100000 in
set_option maxHeartbeats 100000 in
theorem eg_set_r3 (X : ez_X) (I : Nat → Nat → Int32) (J : Nat → Nat → Int64) (R : Nat → Nat) (T : List ez_C) (a : Int32) (b : Int32) (q14 : Int32) (cz kz : Nat) : ∀ G : ez_F, fx_up X 2 G 42 27 [.ref 0, .int a, .int b] [] (ev_hp I J R T) cz kz = some (some (.int (-3)), (ev_hp I J R T), cz, kz) := by
  intro G
  rfl
set_option maxRecDepth 100000 in
set_option maxHeartbeats 100000 in
theorem eg_set_r4 (X : ez_X) (I : Nat → Nat → Int32) (J : Nat → Nat → Int64) (R : Nat → Nat) (T : List ez_C) (a : Int32) (b : Int32) (q14 : Int32) (cz kz : Nat) : ∀ G : ez_F, fx_up X 5 G 42 9 [.ref 0, .int a, .int b] [] (ev_hp I J R T) cz kz = bif decide (¬ a = 1) then G 42 20 [.ref 0, .int a, .int b] [.int 0, .int b] (ev_hp I J R T) cz kz else G 42 16 [.ref 0, .int a, .int b] [.int 0, .int b] (ev_hp I J R T) cz kz := by
  intro G
  rfl
set_option maxRecDepth 100000 in
set_option maxHeartbeats 100000 in
theorem eg_set_r5 (X : ez_X) (I : Nat → Nat → Int32) (J : Nat → Nat → Int64) (R : Nat → Nat) (T : List ez_C) (a : Int32) (b : Int32) (q14 : Int32) (cz kz : Nat) : ∀ G : ez_F, fx_up X 2 G 42 20 [.ref 0, .int a, .int b] [.int 0, .int b] (ev_hp I J R T) cz kz = ev_C G 55 [.int b, .int 0, .int 2] (ev_hp I J R T) fun r h1 c1 k1 => G 42 24 [.ref 0, .int a, .int b] (r.toList ++ []) h1 (cz + c1) (kz + k1) := by
  intro G
  rfl
set_option maxRecDepth 100000 in
set_option maxHeartbeats 100000 in
theorem eg_set_r6 (X : ez_X) (I : Nat → Nat → Int32) (J : Nat → Nat → Int64) (R : Nat → Nat) (T : List ez_C) (a : Int32) (b : Int32) (q14 : Int32) (q15 : Int32) (cz kz : Nat) : ∀ G : ez_F, fx_up X 1 G 42 24 [.ref 0, .int a, .int b] [.int q15] (ev_hp I J R T) cz kz = bif decide (¬ q15 = 0) then G 42 30 [.ref 0, .int a, .int b] [] (ev_hp I J R T) cz kz else G 42 27 [.ref 0, .int a, .int b] [] (ev_hp I J R T) cz kz := by
  intro G
  rfl
set_option maxRecDepth 100000 in
set_option maxHeartbeats 100000 in
theorem eg_set_r7 (X : ez_X) (I : Nat → Nat → Int32) (J : Nat → Nat → Int64) (R : Nat → Nat) (T : List ez_C) (a : Int32) (b : Int32) (q14 : Int32) (q15 : Int32) (cz kz : Nat) : ∀ G : ez_F, fx_up X 5 G 42 30 [.ref 0, .int a, .int b] [] (ev_hp I J R T) cz kz = ev_C G 146 [.ref 1, .int a, .int b] (ev_hp I J R T) fun r h1 c1 k1 => G 42 39 [.ref 0, .int a, .int b] (r.toList ++ []) h1 (cz + c1) (kz + k1) := by
  intro G
  rfl
set_option maxRecDepth 100000 in
set_option maxHeartbeats 100000 in
theorem eg_set_r8 (X : ez_X) (I : Nat → Nat → Int32) (J : Nat → Nat → Int64) (R : Nat → Nat) (T : List ez_C) (a : Int32) (b : Int32) (q14 : Int32) (q15 : Int32) (q17 : Int32) (cz kz : Nat) : ∀ G : ez_F, fx_up X 3 G 42 39 [.ref 0, .int a, .int b] [.int q17] (ev_hp (ev_sI I 2 (ev_put 3 (I 2) a b)) J R T) cz kz = bif decide (¬ a = 0) then G 42 51 [.ref 0, .int a, .int b, .int q17] [] (ev_hp (ev_sI I 2 (ev_put 3 (I 2) a b)) J R T) cz kz else G 42 44 [.ref 0, .int a, .int b, .int q17] [] (ev_hp (ev_sI I 2 (ev_put 3 (I 2) a b)) J R T) cz kz := by
  intro G
  rfl
set_option maxRecDepth 100000 in
set_option maxHeartbeats 100000 in
theorem eg_set_r9 (X : ez_X) (I : Nat → Nat → Int32) (J : Nat → Nat → Int64) (R : Nat → Nat) (T : List ez_C) (a : Int32) (b : Int32) (q14 : Int32) (q15 : Int32) (q17 : Int32) (cz kz : Nat) : ∀ G : ez_F, fx_up X 3 G 42 51 [.ref 0, .int a, .int b, .int q17] [] (ev_hp (ev_sI I 2 (ev_put 3 (I 2) a b)) J R T) cz kz = bif decide (¬ a = 1) then G 42 70 [.ref 0, .int a, .int b, .int q17] [] (ev_hp (ev_sI I 2 (ev_put 3 (I 2) a b)) J R T) cz kz else G 42 56 [.ref 0, .int a, .int b, .int q17] [] (ev_hp (ev_sI I 2 (ev_put 3 (I 2) a b)) J R T) cz kz := by
  intro G
  rfl
set_option maxRecDepth 100000 in
set_option maxHeartbeats 100000 in
theorem eg_set_r10 (X : ez_X) (I : Nat → Nat → Int32) (J : Nat → Nat → Int64) (R : Nat → Nat) (T : List ez_C) (a : Int32) (b : Int32) (q14 : Int32) (q15 : Int32) (q17 : Int32) (cz kz : Nat) : ∀ G : ez_F, fx_up X 2 G 42 70 [.ref 0, .int a, .int b, .int q17] [] (ev_hp (ev_sI I 2 (ev_put 3 (I 2) a b)) J R T) cz kz = ev_C G 2 [.ref 0] (ev_hp (ev_sI I 2 (ev_put 3 (I 2) a b)) J R T) fun r h1 c1 k1 => G 42 74 [.ref 0, .int a, .int b, .int q17] (r.toList ++ []) h1 (cz + c1) (kz + k1) := by
  intro G
  rfl
set_option maxRecDepth 100000 in
set_option maxHeartbeats 100000 in
theorem eg_set_r11 (X : ez_X) (I : Nat → Nat → Int32) (J : Nat → Nat → Int64) (R : Nat → Nat) (T : List ez_C) (a : Int32) (b : Int32) (q14 : Int32) (q15 : Int32) (q17 : Int32) (cz kz : Nat) : ∀ G : ez_F, fx_up X 2 G 42 74 [.ref 0, .int a, .int b, .int q17] [] (ev_hp (ev_sI (ev_sI (ev_sI I 2 (ev_put 3 (I 2) a b)) 13 (upd (I 13) 9 0)) 20 (upd (I 20) 3 0)) J R T) cz kz = some (some (.int q17), (ev_hp (ev_sI (ev_sI (ev_sI I 2 (ev_put 3 (I 2) a b)) 13 (upd (I 13) 9 0)) 20 (upd (I 20) 3 0)) J R T), cz, kz) := by
  intro G
  rfl
set_option maxRecDepth 100000 in
set_option maxHeartbeats 100000 in
theorem eg_set_r12 (X : ez_X) (I : Nat → Nat → Int32) (J : Nat → Nat → Int64) (R : Nat → Nat) (T : List ez_C) (a : Int32) (b : Int32) (q14 : Int32) (q15 : Int32) (q17 : Int32) (cz kz : Nat) : ∀ G : ez_F, fx_up X 3 G 42 56 [.ref 0, .int a, .int b, .int q17] [] (ev_hp (ev_sI I 2 (ev_put 3 (I 2) a b)) J R T) cz kz = ev_C G 62 [.ref 22] (ev_hp (ev_sI I 2 (ev_put 3 (I 2) a b)) J R T) fun r h1 c1 k1 => G 42 63 [.ref 0, .int a, .int b, .int q17] (r.toList ++ []) h1 (cz + c1) (kz + k1) := by
  intro G
  rfl
set_option maxRecDepth 100000 in
set_option maxHeartbeats 100000 in
theorem eg_set_r13 (X : ez_X) (I : Nat → Nat → Int32) (J : Nat → Nat → Int64) (R : Nat → Nat) (T : List ez_C) (a : Int32) (b : Int32) (q14 : Int32) (q15 : Int32) (q17 : Int32) (cz kz : Nat) : ∀ G : ez_F, fx_up X 2 G 42 63 [.ref 0, .int a, .int b, .int q17] [] (ev_hp (ev_sI (ev_sI I 2 (ev_put 3 (I 2) a b)) 22 (upd (upd (I 22) 8 0) 11 (-1))) J R T) cz kz = ev_C G 12 [.ref 0] (ev_hp (ev_sI (ev_sI I 2 (ev_put 3 (I 2) a b)) 22 (upd (upd (I 22) 8 0) 11 (-1))) J R T) fun r h1 c1 k1 => G 42 67 [.ref 0, .int a, .int b, .int q17] (r.toList ++ []) h1 (cz + c1) (kz + k1) := by
  intro G
  rfl
set_option maxRecDepth 100000 in
set_option maxHeartbeats 100000 in
theorem eg_set_r14 (X : ez_X) (I : Nat → Nat → Int32) (J : Nat → Nat → Int64) (R : Nat → Nat) (T : List ez_C) (a : Int32) (b : Int32) (q14 : Int32) (q15 : Int32) (q17 : Int32) (cz kz : Nat) : ∀ G : ez_F, fx_up X 3 G 42 67 [.ref 0, .int a, .int b, .int q17] [] (ev_hp (ev_sI (ev_sI (ev_sI (ev_sI I 2 (ev_put 3 (I 2) a b)) 13 (upd (upd (I 13) 8 0) 9 0)) 20 (upd (I 20) 3 0)) 22 (upd (upd (I 22) 8 0) 11 (-1))) J R T) cz kz = some (some (.int q17), (ev_hp (ev_sI (ev_sI (ev_sI (ev_sI I 2 (ev_put 3 (I 2) a b)) 13 (upd (upd (I 13) 8 0) 9 0)) 20 (upd (I 20) 3 0)) 22 (upd (upd (I 22) 8 0) 11 (-1))) J R T), cz, kz) := by
  intro G
  rfl
set_option maxRecDepth 100000 in
set_option maxHeartbeats 100000 in
theorem eg_set_r15 (X : ez_X) (I : Nat → Nat → Int32) (J : Nat → Nat → Int64) (R : Nat → Nat) (T : List ez_C) (a : Int32) (b : Int32) (q14 : Int32) (q15 : Int32) (q17 : Int32) (cz kz : Nat) : ∀ G : ez_F, fx_up X 2 G 42 44 [.ref 0, .int a, .int b, .int q17] [] (ev_hp (ev_sI I 2 (ev_put 3 (I 2) a b)) J R T) cz kz = ev_C G 28 [.ref 0] (ev_hp (ev_sI I 2 (ev_put 3 (I 2) a b)) J R T) fun r h1 c1 k1 => G 42 48 [.ref 0, .int a, .int b, .int q17] (r.toList ++ []) h1 (cz + c1) (kz + k1) := by
  intro G
  rfl
set_option maxRecDepth 100000 in
set_option maxHeartbeats 100000 in
theorem eg_set_r16 (X : ez_X) (I : Nat → Nat → Int32) (J : Nat → Nat → Int64) (R : Nat → Nat) (T : List ez_C) (a : Int32) (b : Int32) (q14 : Int32) (q15 : Int32) (q17 : Int32) (cz kz : Nat) : ∀ G : ez_F, fx_up X 3 G 42 48 [.ref 0, .int a, .int b, .int q17] [] (ev_hp (ev_sI (ev_sI (ev_sI (ev_sI (ev_sI I 2 (ev_put 3 (I 2) a b)) 6 (upd (I 6) 4 0)) 13 (upd (upd (I 13) 8 0) 9 0)) 20 (upd (I 20) 3 0)) 22 (upd (upd (I 22) 8 0) 11 (-1))) J R T) cz kz = some (some (.int q17), (ev_hp (ev_sI (ev_sI (ev_sI (ev_sI (ev_sI I 2 (ev_put 3 (I 2) a b)) 6 (upd (I 6) 4 0)) 13 (upd (upd (I 13) 8 0) 9 0)) 20 (upd (I 20) 3 0)) 22 (upd (upd (I 22) 8 0) 11 (-1))) J R T), cz, kz) := by
  intro G
  rfl
set_option maxRecDepth 100000 in
set_option maxHeartbeats 100000 in
theorem eg_set_r17 (X : ez_X) (I : Nat → Nat → Int32) (J : Nat → Nat → Int64) (R : Nat → Nat) (T : List ez_C) (a : Int32) (b : Int32) (q14 : Int32) (q15 : Int32) (cz kz : Nat) : ∀ G : ez_F, fx_up X 2 G 42 27 [.ref 0, .int a, .int b] [] (ev_hp I J R T) cz kz = some (some (.int (-3)), (ev_hp I J R T), cz, kz) := by
  intro G
  rfl
set_option maxRecDepth 100000 in
set_option maxHeartbeats 100000 in
theorem eg_set_r18 (X : ez_X) (I : Nat → Nat → Int32) (J : Nat → Nat → Int64) (R : Nat → Nat) (T : List ez_C) (a : Int32) (b : Int32) (q14 : Int32) (cz kz : Nat) : ∀ G : ez_F, fx_up X 3 G 42 16 [.ref 0, .int a, .int b] [.int 0, .int b] (ev_hp I J R T) cz kz = ev_C G 55 [.int b, .int 0, .int 1] (ev_hp I J R T) fun r h1 c1 k1 => G 42 24 [.ref 0, .int a, .int b] (r.toList ++ []) h1 (cz + c1) (kz + k1) := by
  intro G
  rfl
set_option maxRecDepth 100000 in
set_option maxHeartbeats 100000 in
theorem eg_set_r19 (X : ez_X) (I : Nat → Nat → Int32) (J : Nat → Nat → Int64) (R : Nat → Nat) (T : List ez_C) (a : Int32) (b : Int32) (q14 : Int32) (q18 : Int32) (cz kz : Nat) : ∀ G : ez_F, fx_up X 1 G 42 24 [.ref 0, .int a, .int b] [.int q18] (ev_hp I J R T) cz kz = bif decide (¬ q18 = 0) then G 42 30 [.ref 0, .int a, .int b] [] (ev_hp I J R T) cz kz else G 42 27 [.ref 0, .int a, .int b] [] (ev_hp I J R T) cz kz := by
  intro G
  rfl
set_option maxRecDepth 100000 in
set_option maxHeartbeats 100000 in
theorem eg_set_r20 (X : ez_X) (I : Nat → Nat → Int32) (J : Nat → Nat → Int64) (R : Nat → Nat) (T : List ez_C) (a : Int32) (b : Int32) (q14 : Int32) (q18 : Int32) (cz kz : Nat) : ∀ G : ez_F, fx_up X 5 G 42 30 [.ref 0, .int a, .int b] [] (ev_hp I J R T) cz kz = ev_C G 146 [.ref 1, .int a, .int b] (ev_hp I J R T) fun r h1 c1 k1 => G 42 39 [.ref 0, .int a, .int b] (r.toList ++ []) h1 (cz + c1) (kz + k1) := by
  intro G
  rfl
set_option maxRecDepth 100000 in
set_option maxHeartbeats 100000 in
theorem eg_set_r21 (X : ez_X) (I : Nat → Nat → Int32) (J : Nat → Nat → Int64) (R : Nat → Nat) (T : List ez_C) (a : Int32) (b : Int32) (q14 : Int32) (q18 : Int32) (q19 : Int32) (cz kz : Nat) : ∀ G : ez_F, fx_up X 3 G 42 39 [.ref 0, .int a, .int b] [.int q19] (ev_hp (ev_sI I 2 (ev_put 3 (I 2) a b)) J R T) cz kz = bif decide (¬ a = 0) then G 42 51 [.ref 0, .int a, .int b, .int q19] [] (ev_hp (ev_sI I 2 (ev_put 3 (I 2) a b)) J R T) cz kz else G 42 44 [.ref 0, .int a, .int b, .int q19] [] (ev_hp (ev_sI I 2 (ev_put 3 (I 2) a b)) J R T) cz kz := by
  intro G
  rfl
set_option maxRecDepth 100000 in
set_option maxHeartbeats 100000 in
theorem eg_set_r22 (X : ez_X) (I : Nat → Nat → Int32) (J : Nat → Nat → Int64) (R : Nat → Nat) (T : List ez_C) (a : Int32) (b : Int32) (q14 : Int32) (q18 : Int32) (q19 : Int32) (cz kz : Nat) : ∀ G : ez_F, fx_up X 3 G 42 51 [.ref 0, .int a, .int b, .int q19] [] (ev_hp (ev_sI I 2 (ev_put 3 (I 2) a b)) J R T) cz kz = bif decide (¬ a = 1) then G 42 70 [.ref 0, .int a, .int b, .int q19] [] (ev_hp (ev_sI I 2 (ev_put 3 (I 2) a b)) J R T) cz kz else G 42 56 [.ref 0, .int a, .int b, .int q19] [] (ev_hp (ev_sI I 2 (ev_put 3 (I 2) a b)) J R T) cz kz := by
  intro G
  rfl
set_option maxRecDepth 100000 in
set_option maxHeartbeats 100000 in
theorem eg_set_r23 (X : ez_X) (I : Nat → Nat → Int32) (J : Nat → Nat → Int64) (R : Nat → Nat) (T : List ez_C) (a : Int32) (b : Int32) (q14 : Int32) (q18 : Int32) (q19 : Int32) (cz kz : Nat) : ∀ G : ez_F, fx_up X 2 G 42 70 [.ref 0, .int a, .int b, .int q19] [] (ev_hp (ev_sI I 2 (ev_put 3 (I 2) a b)) J R T) cz kz = ev_C G 2 [.ref 0] (ev_hp (ev_sI I 2 (ev_put 3 (I 2) a b)) J R T) fun r h1 c1 k1 => G 42 74 [.ref 0, .int a, .int b, .int q19] (r.toList ++ []) h1 (cz + c1) (kz + k1) := by
  intro G
  rfl
set_option maxRecDepth 100000 in
set_option maxHeartbeats 100000 in
theorem eg_set_r24 (X : ez_X) (I : Nat → Nat → Int32) (J : Nat → Nat → Int64) (R : Nat → Nat) (T : List ez_C) (a : Int32) (b : Int32) (q14 : Int32) (q18 : Int32) (q19 : Int32) (cz kz : Nat) : ∀ G : ez_F, fx_up X 2 G 42 74 [.ref 0, .int a, .int b, .int q19] [] (ev_hp (ev_sI (ev_sI (ev_sI I 2 (ev_put 3 (I 2) a b)) 13 (upd (I 13) 9 0)) 20 (upd (I 20) 3 0)) J R T) cz kz = some (some (.int q19), (ev_hp (ev_sI (ev_sI (ev_sI I 2 (ev_put 3 (I 2) a b)) 13 (upd (I 13) 9 0)) 20 (upd (I 20) 3 0)) J R T), cz, kz) := by
  intro G
  rfl
set_option maxRecDepth 100000 in
set_option maxHeartbeats 100000 in
theorem eg_set_r25 (X : ez_X) (I : Nat → Nat → Int32) (J : Nat → Nat → Int64) (R : Nat → Nat) (T : List ez_C) (a : Int32) (b : Int32) (q14 : Int32) (q18 : Int32) (q19 : Int32) (cz kz : Nat) : ∀ G : ez_F, fx_up X 3 G 42 56 [.ref 0, .int a, .int b, .int q19] [] (ev_hp (ev_sI I 2 (ev_put 3 (I 2) a b)) J R T) cz kz = ev_C G 62 [.ref 22] (ev_hp (ev_sI I 2 (ev_put 3 (I 2) a b)) J R T) fun r h1 c1 k1 => G 42 63 [.ref 0, .int a, .int b, .int q19] (r.toList ++ []) h1 (cz + c1) (kz + k1) := by
  intro G
  rfl
set_option maxRecDepth 100000 in
set_option maxHeartbeats 100000 in
theorem eg_set_r26 (X : ez_X) (I : Nat → Nat → Int32) (J : Nat → Nat → Int64) (R : Nat → Nat) (T : List ez_C) (a : Int32) (b : Int32) (q14 : Int32) (q18 : Int32) (q19 : Int32) (cz kz : Nat) : ∀ G : ez_F, fx_up X 2 G 42 63 [.ref 0, .int a, .int b, .int q19] [] (ev_hp (ev_sI (ev_sI I 2 (ev_put 3 (I 2) a b)) 22 (upd (upd (I 22) 8 0) 11 (-1))) J R T) cz kz = ev_C G 12 [.ref 0] (ev_hp (ev_sI (ev_sI I 2 (ev_put 3 (I 2) a b)) 22 (upd (upd (I 22) 8 0) 11 (-1))) J R T) fun r h1 c1 k1 => G 42 67 [.ref 0, .int a, .int b, .int q19] (r.toList ++ []) h1 (cz + c1) (kz + k1) := by
  intro G
  rfl
set_option maxRecDepth 100000 in
set_option maxHeartbeats 100000 in
theorem eg_set_r27 (X : ez_X) (I : Nat → Nat → Int32) (J : Nat → Nat → Int64) (R : Nat → Nat) (T : List ez_C) (a : Int32) (b : Int32) (q14 : Int32) (q18 : Int32) (q19 : Int32) (cz kz : Nat) : ∀ G : ez_F, fx_up X 3 G 42 67 [.ref 0, .int a, .int b, .int q19] [] (ev_hp (ev_sI (ev_sI (ev_sI (ev_sI I 2 (ev_put 3 (I 2) a b)) 13 (upd (upd (I 13) 8 0) 9 0)) 20 (upd (I 20) 3 0)) 22 (upd (upd (I 22) 8 0) 11 (-1))) J R T) cz kz = some (some (.int q19), (ev_hp (ev_sI (ev_sI (ev_sI (ev_sI I 2 (ev_put 3 (I 2) a b)) 13 (upd (upd (I 13) 8 0) 9 0)) 20 (upd (I 20) 3 0)) 22 (upd (upd (I 22) 8 0) 11 (-1))) J R T), cz, kz) := by
  intro G
  rfl
set_option maxRecDepth 100000 in
set_option maxHeartbeats 100000 in
theorem eg_set_r28 (X : ez_X) (I : Nat → Nat → Int32) (J : Nat → Nat → Int64) (R : Nat → Nat) (T : List ez_C) (a : Int32) (b : Int32) (q14 : Int32) (q18 : Int32) (q19 : Int32) (cz kz : Nat) : ∀ G : ez_F, fx_up X 2 G 42 44 [.ref 0, .int a, .int b, .int q19] [] (ev_hp (ev_sI I 2 (ev_put 3 (I 2) a b)) J R T) cz kz = ev_C G 28 [.ref 0] (ev_hp (ev_sI I 2 (ev_put 3 (I 2) a b)) J R T) fun r h1 c1 k1 => G 42 48 [.ref 0, .int a, .int b, .int q19] (r.toList ++ []) h1 (cz + c1) (kz + k1) := by
  intro G
  rfl
set_option maxRecDepth 100000 in
set_option maxHeartbeats 100000 in
theorem eg_set_r29 (X : ez_X) (I : Nat → Nat → Int32) (J : Nat → Nat → Int64) (R : Nat → Nat) (T : List ez_C) (a : Int32) (b : Int32) (q14 : Int32) (q18 : Int32) (q19 : Int32) (cz kz : Nat) : ∀ G : ez_F, fx_up X 3 G 42 48 [.ref 0, .int a, .int b, .int q19] [] (ev_hp (ev_sI (ev_sI (ev_sI (ev_sI (ev_sI I 2 (ev_put 3 (I 2) a b)) 6 (upd (I 6) 4 0)) 13 (upd (upd (I 13) 8 0) 9 0)) 20 (upd (I 20) 3 0)) 22 (upd (upd (I 22) 8 0) 11 (-1))) J R T) cz kz = some (some (.int q19), (ev_hp (ev_sI (ev_sI (ev_sI (ev_sI (ev_sI I 2 (ev_put 3 (I 2) a b)) 6 (upd (I 6) 4 0)) 13 (upd (upd (I 13) 8 0) 9 0)) 20 (upd (I 20) 3 0)) 22 (upd (upd (I 22) 8 0) 11 (-1))) J R T), cz, kz) := by
  intro G
  rfl
set_option maxRecDepth 100000 in
set_option maxHeartbeats 100000 in
theorem eg_set_r30 (X : ez_X) (I : Nat → Nat → Int32) (J : Nat → Nat → Int64) (R : Nat → Nat) (T : List ez_C) (a : Int32) (b : Int32) (q14 : Int32) (q18 : Int32) (cz kz : Nat) : ∀ G : ez_F, fx_up X 2 G 42 27 [.ref 0, .int a, .int b] [] (ev_hp I J R T) cz kz = some (some (.int (-3)), (ev_hp I J R T), cz, kz) := by
  intro G
  rfl
theorem eg_set (X : ez_X) (I : Nat → Nat → Int32) (J : Nat → Nat → Int64) (R : Nat → Nat) (T : List ez_C) (a : Int32) (b : Int32)  : ev_W X 42 0 (ez_lay [.ref 0, .int a, .int b]) [] (ev_hp I J R T) 0 0 (fun r h1 c1 k1 => ((((ev_wi a 0 2)) = 0) ∧ r = some (.int (-3)) ∧ h1 = (ev_hp I J R T) ∧ c1 = 0 ∧ k1 = 0) ∨ ((¬ (((ev_wi a 0 2)) = 0)) ∧ (¬ a = 1) ∧ (¬ ((ev_wi b 0 2)) = 0) ∧ (¬ a = 0) ∧ (¬ a = 1) ∧ r = some (.int ((ev_at 3 (I 2) a))) ∧ h1 = (ev_hp (ev_sI (ev_sI (ev_sI I 2 (ev_put 3 (I 2) a b)) 13 (upd (I 13) 9 0)) 20 (upd (I 20) 3 0)) J R T) ∧ c1 = 0 ∧ k1 = 0) ∨ ((¬ (((ev_wi a 0 2)) = 0)) ∧ (¬ a = 1) ∧ (¬ ((ev_wi b 0 2)) = 0) ∧ (¬ a = 0) ∧ (¬ (¬ a = 1)) ∧ r = some (.int ((ev_at 3 (I 2) a))) ∧ h1 = (ev_hp (ev_sI (ev_sI (ev_sI (ev_sI I 2 (ev_put 3 (I 2) a b)) 13 (upd (upd (I 13) 8 0) 9 0)) 20 (upd (I 20) 3 0)) 22 (upd (upd (I 22) 8 0) 11 (-1))) J R T) ∧ c1 = 0 ∧ k1 = 0) ∨ ((¬ (((ev_wi a 0 2)) = 0)) ∧ (¬ a = 1) ∧ (¬ ((ev_wi b 0 2)) = 0) ∧ (¬ (¬ a = 0)) ∧ r = some (.int ((ev_at 3 (I 2) a))) ∧ h1 = (ev_hp (ev_sI (ev_sI (ev_sI (ev_sI (ev_sI I 2 (ev_put 3 (I 2) a b)) 6 (upd (I 6) 4 0)) 13 (upd (upd (I 13) 8 0) 9 0)) 20 (upd (I 20) 3 0)) 22 (upd (upd (I 22) 8 0) 11 (-1))) J R T) ∧ c1 = 0 ∧ k1 = 0) ∨ ((¬ (((ev_wi a 0 2)) = 0)) ∧ (¬ a = 1) ∧ (¬ (¬ ((ev_wi b 0 2)) = 0)) ∧ r = some (.int (-3)) ∧ h1 = (ev_hp I J R T) ∧ c1 = 0 ∧ k1 = 0) ∨ ((¬ (((ev_wi a 0 2)) = 0)) ∧ (¬ (¬ a = 1)) ∧ (¬ ((ev_wi b 0 1)) = 0) ∧ (¬ a = 0) ∧ (¬ a = 1) ∧ r = some (.int ((ev_at 3 (I 2) a))) ∧ h1 = (ev_hp (ev_sI (ev_sI (ev_sI I 2 (ev_put 3 (I 2) a b)) 13 (upd (I 13) 9 0)) 20 (upd (I 20) 3 0)) J R T) ∧ c1 = 0 ∧ k1 = 0) ∨ ((¬ (((ev_wi a 0 2)) = 0)) ∧ (¬ (¬ a = 1)) ∧ (¬ ((ev_wi b 0 1)) = 0) ∧ (¬ a = 0) ∧ (¬ (¬ a = 1)) ∧ r = some (.int ((ev_at 3 (I 2) a))) ∧ h1 = (ev_hp (ev_sI (ev_sI (ev_sI (ev_sI I 2 (ev_put 3 (I 2) a b)) 13 (upd (upd (I 13) 8 0) 9 0)) 20 (upd (I 20) 3 0)) 22 (upd (upd (I 22) 8 0) 11 (-1))) J R T) ∧ c1 = 0 ∧ k1 = 0) ∨ ((¬ (((ev_wi a 0 2)) = 0)) ∧ (¬ (¬ a = 1)) ∧ (¬ ((ev_wi b 0 1)) = 0) ∧ (¬ (¬ a = 0)) ∧ r = some (.int ((ev_at 3 (I 2) a))) ∧ h1 = (ev_hp (ev_sI (ev_sI (ev_sI (ev_sI (ev_sI I 2 (ev_put 3 (I 2) a b)) 6 (upd (I 6) 4 0)) 13 (upd (upd (I 13) 8 0) 9 0)) 20 (upd (I 20) 3 0)) 22 (upd (upd (I 22) 8 0) 11 (-1))) J R T) ∧ c1 = 0 ∧ k1 = 0) ∨ ((¬ (((ev_wi a 0 2)) = 0)) ∧ (¬ (¬ a = 1)) ∧ (¬ (¬ ((ev_wi b 0 1)) = 0)) ∧ r = some (.int (-3)) ∧ h1 = (ev_hp I J R T) ∧ c1 = 0 ∧ k1 = 0)) := by
  refine ev_call (eg_set_r1 X I J R T a b _ _) (ec_within X (ev_hp I J R T) a 0 2) ?_
  rintro _ _ _ _ ⟨rfl, rfl, rfl, rfl⟩
  generalize hq14 : (ev_wi a 0 2) = q14
  refine ev_if (eg_set_r2 X I J R T a b q14 _ _) (fun b1 => ?_) (fun b1 => ?_)
  · replace b1 := of_decide_eq_true b1
    refine ev_ret (eg_set_r3 X I J R T a b q14 _ _) ?_
    subst hq14
    exact Or.inl ⟨b1, rfl, rfl, rfl, rfl⟩
  · replace b1 := of_decide_eq_false b1
    refine ev_if (eg_set_r4 X I J R T a b q14 _ _) (fun b2 => ?_) (fun b2 => ?_)
    · replace b2 := of_decide_eq_true b2
      refine ev_call (eg_set_r5 X I J R T a b q14 _ _) (ec_within X (ev_hp I J R T) b 0 2) ?_
      rintro _ _ _ _ ⟨rfl, rfl, rfl, rfl⟩
      generalize hq15 : (ev_wi b 0 2) = q15
      refine ev_if (eg_set_r6 X I J R T a b q14 q15 _ _) (fun b3 => ?_) (fun b3 => ?_)
      · replace b3 := of_decide_eq_true b3
        refine ev_call (eg_set_r7 X I J R T a b q14 q15 _ _) (ea_S_Sheet_changeRule_146_1 X I J R T a b) ?_
        rintro r0 _ _ _ (⟨hr0, rfl, rfl, rfl⟩)
        obtain ⟨q17, hq17⟩ : ∃ z : Int32, (ev_at 3 (I 2) a) = z := ⟨_, rfl⟩
        have eq17 : r0 = some (.int q17) := hr0.trans (by subst hq17; rfl)
        subst eq17
        refine ev_if (eg_set_r8 X I J R T a b q14 q15 q17 _ _) (fun b4 => ?_) (fun b4 => ?_)
        · replace b4 := of_decide_eq_true b4
          refine ev_if (eg_set_r9 X I J R T a b q14 q15 q17 _ _) (fun b5 => ?_) (fun b5 => ?_)
          · replace b5 := of_decide_eq_true b5
            refine ev_call (eg_set_r10 X I J R T a b q14 q15 q17 _ _) (ea_S_answersChanged_2_0 X (ev_sI I 2 (ev_put 3 (I 2) a b)) J R T) ?_
            rintro r0 _ _ _ (⟨rfl, rfl, rfl, rfl⟩)
            refine ev_ret (eg_set_r11 X I J R T a b q14 q15 q17 _ _) ?_
            subst hq17
            subst hq15
            subst hq14
            exact Or.inr (Or.inl ⟨b1, b2, b3, b4, b5, rfl, rfl, rfl, rfl⟩)
          · replace b5 := of_decide_eq_false b5
            refine ev_call (eg_set_r12 X I J R T a b q14 q15 q17 _ _) (ea_S_Caller_forget_62_22 X (ev_sI I 2 (ev_put 3 (I 2) a b)) J R T) ?_
            rintro r0 _ _ _ (⟨rfl, rfl, rfl, rfl⟩)
            refine ev_call (eg_set_r13 X I J R T a b q14 q15 q17 _ _) (ea_S_callsChanged_12_0 X (ev_sI (ev_sI I 2 (ev_put 3 (I 2) a b)) 22 (upd (upd (I 22) 8 0) 11 (-1))) J R T) ?_
            rintro r0 _ _ _ (⟨rfl, rfl, rfl, rfl⟩)
            refine ev_ret (eg_set_r14 X I J R T a b q14 q15 q17 _ _) ?_
            subst hq17
            subst hq15
            subst hq14
            exact Or.inr (Or.inr (Or.inl ⟨b1, b2, b3, b4, b5, rfl, rfl, rfl, rfl⟩))
        · replace b4 := of_decide_eq_false b4
          refine ev_call (eg_set_r15 X I J R T a b q14 q15 q17 _ _) (ea_S_layingsChanged_28_0 X (ev_sI I 2 (ev_put 3 (I 2) a b)) J R T) ?_
          rintro r0 _ _ _ (⟨rfl, rfl, rfl, rfl⟩)
          refine ev_ret (eg_set_r16 X I J R T a b q14 q15 q17 _ _) ?_
          subst hq17
          subst hq15
          subst hq14
          exact Or.inr (Or.inr (Or.inr (Or.inl ⟨b1, b2, b3, b4, rfl, rfl, rfl, rfl⟩)))
      · replace b3 := of_decide_eq_false b3
        refine ev_ret (eg_set_r17 X I J R T a b q14 q15 _ _) ?_
        subst hq15
        subst hq14
        exact Or.inr (Or.inr (Or.inr (Or.inr (Or.inl ⟨b1, b2, b3, rfl, rfl, rfl, rfl⟩))))
    · replace b2 := of_decide_eq_false b2
      refine ev_call (eg_set_r18 X I J R T a b q14 _ _) (ec_within X (ev_hp I J R T) b 0 1) ?_
      rintro _ _ _ _ ⟨rfl, rfl, rfl, rfl⟩
      generalize hq18 : (ev_wi b 0 1) = q18
      refine ev_if (eg_set_r19 X I J R T a b q14 q18 _ _) (fun b6 => ?_) (fun b6 => ?_)
      · replace b6 := of_decide_eq_true b6
        refine ev_call (eg_set_r20 X I J R T a b q14 q18 _ _) (ea_S_Sheet_changeRule_146_1 X I J R T a b) ?_
        rintro r0 _ _ _ (⟨hr0, rfl, rfl, rfl⟩)
        obtain ⟨q19, hq19⟩ : ∃ z : Int32, (ev_at 3 (I 2) a) = z := ⟨_, rfl⟩
        have eq19 : r0 = some (.int q19) := hr0.trans (by subst hq19; rfl)
        subst eq19
        refine ev_if (eg_set_r21 X I J R T a b q14 q18 q19 _ _) (fun b7 => ?_) (fun b7 => ?_)
        · replace b7 := of_decide_eq_true b7
          refine ev_if (eg_set_r22 X I J R T a b q14 q18 q19 _ _) (fun b8 => ?_) (fun b8 => ?_)
          · replace b8 := of_decide_eq_true b8
            refine ev_call (eg_set_r23 X I J R T a b q14 q18 q19 _ _) (ea_S_answersChanged_2_0 X (ev_sI I 2 (ev_put 3 (I 2) a b)) J R T) ?_
            rintro r0 _ _ _ (⟨rfl, rfl, rfl, rfl⟩)
            refine ev_ret (eg_set_r24 X I J R T a b q14 q18 q19 _ _) ?_
            subst hq19
            subst hq18
            subst hq14
            exact Or.inr (Or.inr (Or.inr (Or.inr (Or.inr (Or.inl ⟨b1, b2, b6, b7, b8, rfl, rfl, rfl, rfl⟩)))))
          · replace b8 := of_decide_eq_false b8
            refine ev_call (eg_set_r25 X I J R T a b q14 q18 q19 _ _) (ea_S_Caller_forget_62_22 X (ev_sI I 2 (ev_put 3 (I 2) a b)) J R T) ?_
            rintro r0 _ _ _ (⟨rfl, rfl, rfl, rfl⟩)
            refine ev_call (eg_set_r26 X I J R T a b q14 q18 q19 _ _) (ea_S_callsChanged_12_0 X (ev_sI (ev_sI I 2 (ev_put 3 (I 2) a b)) 22 (upd (upd (I 22) 8 0) 11 (-1))) J R T) ?_
            rintro r0 _ _ _ (⟨rfl, rfl, rfl, rfl⟩)
            refine ev_ret (eg_set_r27 X I J R T a b q14 q18 q19 _ _) ?_
            subst hq19
            subst hq18
            subst hq14
            exact Or.inr (Or.inr (Or.inr (Or.inr (Or.inr (Or.inr (Or.inl ⟨b1, b2, b6, b7, b8, rfl, rfl, rfl, rfl⟩))))))
        · replace b7 := of_decide_eq_false b7
          refine ev_call (eg_set_r28 X I J R T a b q14 q18 q19 _ _) (ea_S_layingsChanged_28_0 X (ev_sI I 2 (ev_put 3 (I 2) a b)) J R T) ?_
          rintro r0 _ _ _ (⟨rfl, rfl, rfl, rfl⟩)
          refine ev_ret (eg_set_r29 X I J R T a b q14 q18 q19 _ _) ?_
          subst hq19
          subst hq18
          subst hq14
          exact Or.inr (Or.inr (Or.inr (Or.inr (Or.inr (Or.inr (Or.inr (Or.inl ⟨b1, b2, b6, b7, rfl, rfl, rfl, rfl⟩)))))))
      · replace b6 := of_decide_eq_false b6
        refine ev_ret (eg_set_r30 X I J R T a b q14 q18 _ _) ?_
        subst hq18
        subst hq14
        exact Or.inr (Or.inr (Or.inr (Or.inr (Or.inr (Or.inr (Or.inr (Or.inr (⟨b1, b2, b6, rfl, rfl, rfl, rfl⟩))))))))
set_option maxRecDepth 100000 in
set_option maxHeartbeats 100000 in
theorem eg_drift_r1 (X : ez_X) (I : Nat → Nat → Int32) (J : Nat → Nat → Int64) (R : Nat → Nat) (T : List ez_C) (a : Int32) (b : Int32) (cz kz : Nat) : ∀ G : ez_F, fx_up X 4 G 16 0 [.ref 0, .int a, .int b] [] (ev_hp I J R T) cz kz = ev_C G 55 [.int a, .int (-1), .int 1] (ev_hp I J R T) fun r h1 c1 k1 => G 16 6 [.ref 0, .int a, .int b] (r.toList ++ []) h1 (cz + c1) (kz + k1) := by
  intro G
  rfl
set_option maxRecDepth 100000 in
set_option maxHeartbeats 100000 in
theorem eg_drift_r2 (X : ez_X) (I : Nat → Nat → Int32) (J : Nat → Nat → Int64) (R : Nat → Nat) (T : List ez_C) (a : Int32) (b : Int32) (q20 : Int32) (cz kz : Nat) : ∀ G : ez_F, fx_up X 1 G 16 6 [.ref 0, .int a, .int b] [.int q20] (ev_hp I J R T) cz kz = bif decide (q20 = 0) then G 16 18 [.ref 0, .int a, .int b] [] (ev_hp I J R T) cz kz else G 16 9 [.ref 0, .int a, .int b] [] (ev_hp I J R T) cz kz := by
  intro G
  rfl
set_option maxRecDepth 100000 in
set_option maxHeartbeats 100000 in
theorem eg_drift_r3 (X : ez_X) (I : Nat → Nat → Int32) (J : Nat → Nat → Int64) (R : Nat → Nat) (T : List ez_C) (a : Int32) (b : Int32) (q20 : Int32) (cz kz : Nat) : ∀ G : ez_F, fx_up X 2 G 16 18 [.ref 0, .int a, .int b] [] (ev_hp I J R T) cz kz = some (some (.int (-3)), (ev_hp I J R T), cz, kz) := by
  intro G
  rfl
set_option maxRecDepth 100000 in
set_option maxHeartbeats 100000 in
theorem eg_drift_r4 (X : ez_X) (I : Nat → Nat → Int32) (J : Nat → Nat → Int64) (R : Nat → Nat) (T : List ez_C) (a : Int32) (b : Int32) (q20 : Int32) (cz kz : Nat) : ∀ G : ez_F, fx_up X 4 G 16 9 [.ref 0, .int a, .int b] [] (ev_hp I J R T) cz kz = ev_C G 55 [.int b, .int (-1), .int 1] (ev_hp I J R T) fun r h1 c1 k1 => G 16 15 [.ref 0, .int a, .int b] (r.toList ++ []) h1 (cz + c1) (kz + k1) := by
  intro G
  rfl
set_option maxRecDepth 100000 in
set_option maxHeartbeats 100000 in
theorem eg_drift_r5 (X : ez_X) (I : Nat → Nat → Int32) (J : Nat → Nat → Int64) (R : Nat → Nat) (T : List ez_C) (a : Int32) (b : Int32) (q20 : Int32) (q21 : Int32) (cz kz : Nat) : ∀ G : ez_F, fx_up X 1 G 16 15 [.ref 0, .int a, .int b] [.int q21] (ev_hp I J R T) cz kz = bif decide (¬ q21 = 0) then G 16 21 [.ref 0, .int a, .int b] [] (ev_hp I J R T) cz kz else G 16 18 [.ref 0, .int a, .int b] [] (ev_hp I J R T) cz kz := by
  intro G
  rfl
set_option maxRecDepth 100000 in
set_option maxHeartbeats 100000 in
theorem eg_drift_r6 (X : ez_X) (I : Nat → Nat → Int32) (J : Nat → Nat → Int64) (R : Nat → Nat) (T : List ez_C) (a : Int32) (b : Int32) (q20 : Int32) (q21 : Int32) (cz kz : Nat) : ∀ G : ez_F, fx_up X 4 G 16 21 [.ref 0, .int a, .int b] [] (ev_hp I J R T) cz kz = bif decide (¬ (I 1 5) = 0) then G 16 34 [.ref 0, .int a, .int b] [] (ev_hp I J R T) cz kz else G 16 31 [.ref 0, .int a, .int b] [] (ev_hp I J R T) cz kz := by
  intro G
  rfl
set_option maxRecDepth 100000 in
set_option maxHeartbeats 100000 in
theorem eg_drift_r7 (X : ez_X) (I : Nat → Nat → Int32) (J : Nat → Nat → Int64) (R : Nat → Nat) (T : List ez_C) (a : Int32) (b : Int32) (q20 : Int32) (q21 : Int32) (cz kz : Nat) : ∀ G : ez_F, fx_up X 5 G 16 34 [.ref 0, .int a, .int b] [] (ev_hp I J R T) cz kz = ev_C G 153 [.ref 1, .int a, .int b] (ev_hp I J R T) fun r h1 c1 k1 => G 16 43 [.ref 0, .int a, .int b] (r.toList ++ []) h1 (cz + c1) (kz + k1) := by
  intro G
  rfl
set_option maxRecDepth 100000 in
set_option maxHeartbeats 100000 in
theorem eg_drift_r8 (X : ez_X) (I : Nat → Nat → Int32) (J : Nat → Nat → Int64) (R : Nat → Nat) (T : List ez_C) (a : Int32) (b : Int32) (q20 : Int32) (q21 : Int32) (cz kz : Nat) : ∀ G : ez_F, fx_up X 2 G 16 43 [.ref 0, .int a, .int b] [] (ev_hp (ev_sI I 1 (upd (upd (I 1) 1 a) 2 b)) J R T) cz kz = ev_C G 12 [.ref 0] (ev_hp (ev_sI I 1 (upd (upd (I 1) 1 a) 2 b)) J R T) fun r h1 c1 k1 => G 16 47 [.ref 0, .int a, .int b] (r.toList ++ []) h1 (cz + c1) (kz + k1) := by
  intro G
  rfl
set_option maxRecDepth 100000 in
set_option maxHeartbeats 100000 in
theorem eg_drift_r9 (X : ez_X) (I : Nat → Nat → Int32) (J : Nat → Nat → Int64) (R : Nat → Nat) (T : List ez_C) (a : Int32) (b : Int32) (q20 : Int32) (q21 : Int32) (cz kz : Nat) : ∀ G : ez_F, fx_up X 2 G 16 47 [.ref 0, .int a, .int b] [] (ev_hp (ev_sI (ev_sI (ev_sI I 1 (upd (upd (I 1) 1 a) 2 b)) 13 (upd (upd (I 13) 8 0) 9 0)) 20 (upd (I 20) 3 0)) J R T) cz kz = some (some (.int 1), (ev_hp (ev_sI (ev_sI (ev_sI I 1 (upd (upd (I 1) 1 a) 2 b)) 13 (upd (upd (I 13) 8 0) 9 0)) 20 (upd (I 20) 3 0)) J R T), cz, kz) := by
  intro G
  rfl
set_option maxRecDepth 100000 in
set_option maxHeartbeats 100000 in
theorem eg_drift_r10 (X : ez_X) (I : Nat → Nat → Int32) (J : Nat → Nat → Int64) (R : Nat → Nat) (T : List ez_C) (a : Int32) (b : Int32) (q20 : Int32) (q21 : Int32) (cz kz : Nat) : ∀ G : ez_F, fx_up X 2 G 16 31 [.ref 0, .int a, .int b] [] (ev_hp I J R T) cz kz = some (some (.int (-4)), (ev_hp I J R T), cz, kz) := by
  intro G
  rfl
set_option maxRecDepth 100000 in
set_option maxHeartbeats 100000 in
theorem eg_drift_r11 (X : ez_X) (I : Nat → Nat → Int32) (J : Nat → Nat → Int64) (R : Nat → Nat) (T : List ez_C) (a : Int32) (b : Int32) (q20 : Int32) (q21 : Int32) (cz kz : Nat) : ∀ G : ez_F, fx_up X 2 G 16 18 [.ref 0, .int a, .int b] [] (ev_hp I J R T) cz kz = some (some (.int (-3)), (ev_hp I J R T), cz, kz) := by
  intro G
  rfl
theorem eg_drift (X : ez_X) (I : Nat → Nat → Int32) (J : Nat → Nat → Int64) (R : Nat → Nat) (T : List ez_C) (a : Int32) (b : Int32)  : ev_W X 16 0 (ez_lay [.ref 0, .int a, .int b]) [] (ev_hp I J R T) 0 0 (fun r h1 c1 k1 => ((((ev_wi a (-1) 1)) = 0) ∧ r = some (.int (-3)) ∧ h1 = (ev_hp I J R T) ∧ c1 = 0 ∧ k1 = 0) ∨ ((¬ (((ev_wi a (-1) 1)) = 0)) ∧ (¬ ((ev_wi b (-1) 1)) = 0) ∧ (¬ (I 1 5) = 0) ∧ r = some (.int 1) ∧ h1 = (ev_hp (ev_sI (ev_sI (ev_sI I 1 (upd (upd (I 1) 1 a) 2 b)) 13 (upd (upd (I 13) 8 0) 9 0)) 20 (upd (I 20) 3 0)) J R T) ∧ c1 = 0 ∧ k1 = 0) ∨ ((¬ (((ev_wi a (-1) 1)) = 0)) ∧ (¬ ((ev_wi b (-1) 1)) = 0) ∧ (¬ (¬ (I 1 5) = 0)) ∧ r = some (.int (-4)) ∧ h1 = (ev_hp I J R T) ∧ c1 = 0 ∧ k1 = 0) ∨ ((¬ (((ev_wi a (-1) 1)) = 0)) ∧ (¬ (¬ ((ev_wi b (-1) 1)) = 0)) ∧ r = some (.int (-3)) ∧ h1 = (ev_hp I J R T) ∧ c1 = 0 ∧ k1 = 0)) := by
  refine ev_call (eg_drift_r1 X I J R T a b _ _) (ec_within X (ev_hp I J R T) a (-1) 1) ?_
  rintro _ _ _ _ ⟨rfl, rfl, rfl, rfl⟩
  generalize hq20 : (ev_wi a (-1) 1) = q20
  refine ev_if (eg_drift_r2 X I J R T a b q20 _ _) (fun b1 => ?_) (fun b1 => ?_)
  · replace b1 := of_decide_eq_true b1
    refine ev_ret (eg_drift_r3 X I J R T a b q20 _ _) ?_
    subst hq20
    exact Or.inl ⟨b1, rfl, rfl, rfl, rfl⟩
  · replace b1 := of_decide_eq_false b1
    refine ev_call (eg_drift_r4 X I J R T a b q20 _ _) (ec_within X (ev_hp I J R T) b (-1) 1) ?_
    rintro _ _ _ _ ⟨rfl, rfl, rfl, rfl⟩
    generalize hq21 : (ev_wi b (-1) 1) = q21
    refine ev_if (eg_drift_r5 X I J R T a b q20 q21 _ _) (fun b2 => ?_) (fun b2 => ?_)
    · replace b2 := of_decide_eq_true b2
      refine ev_if (eg_drift_r6 X I J R T a b q20 q21 _ _) (fun b3 => ?_) (fun b3 => ?_)
      · replace b3 := of_decide_eq_true b3
        refine ev_call (eg_drift_r7 X I J R T a b q20 q21 _ _) (ea_S_Sheet_setDrift_153_1 X I J R T a b) ?_
        rintro r0 _ _ _ (⟨rfl, rfl, rfl, rfl⟩)
        refine ev_call (eg_drift_r8 X I J R T a b q20 q21 _ _) (ea_S_callsChanged_12_0 X (ev_sI I 1 (upd (upd (I 1) 1 a) 2 b)) J R T) ?_
        rintro r0 _ _ _ (⟨rfl, rfl, rfl, rfl⟩)
        refine ev_ret (eg_drift_r9 X I J R T a b q20 q21 _ _) ?_
        subst hq21
        subst hq20
        exact Or.inr (Or.inl ⟨b1, b2, b3, rfl, rfl, rfl, rfl⟩)
      · replace b3 := of_decide_eq_false b3
        refine ev_ret (eg_drift_r10 X I J R T a b q20 q21 _ _) ?_
        subst hq21
        subst hq20
        exact Or.inr (Or.inr (Or.inl ⟨b1, b2, b3, rfl, rfl, rfl, rfl⟩))
    · replace b2 := of_decide_eq_false b2
      refine ev_ret (eg_drift_r11 X I J R T a b q20 q21 _ _) ?_
      subst hq21
      subst hq20
      exact Or.inr (Or.inr (Or.inr (⟨b1, b2, rfl, rfl, rfl, rfl⟩)))
set_option maxRecDepth 100000 in
set_option maxHeartbeats 100000 in
theorem eg_isCell_r1 (X : ez_X) (I : Nat → Nat → Int32) (J : Nat → Nat → Int64) (R : Nat → Nat) (T : List ez_C) (a : Int32) (cz kz : Nat) : ∀ G : ez_F, fx_up X 8 G 22 0 [.ref 0, .int a] [] (ev_hp I J R T) cz kz = ev_C G 55 [.int a, .int 0, .int ((I 1 6) - (1 : Int32))] (ev_hp I J R T) fun r h1 c1 k1 => G 22 14 [.ref 0, .int a] (r.toList ++ []) h1 (cz + c1) (kz + k1) := by
  intro G
  rfl
theorem eg_isCell (X : ez_X) (I : Nat → Nat → Int32) (J : Nat → Nat → Int64) (R : Nat → Nat) (T : List ez_C) (a : Int32)  : ev_W X 22 0 (ez_lay [.ref 0, .int a]) [] (ev_hp I J R T) 0 0 (fun r h1 c1 k1 => (r = some (.int ((ev_wi a 0 ((I 1 6) - (1 : Int32))))) ∧ h1 = (ev_hp I J R T) ∧ c1 = 0 ∧ k1 = 0)) := by
  refine ev_call (eg_isCell_r1 X I J R T a _ _) (ec_within X (ev_hp I J R T) a 0 ((I 1 6) - (1 : Int32))) ?_
  rintro _ _ _ _ ⟨rfl, rfl, rfl, rfl⟩
  generalize hq22 : (ev_wi a 0 ((I 1 6) - (1 : Int32))) = q22
  refine ev_zret (by rfl) (by first | (rw [← hq22]; exact ev_wi_01 _ _ _) | (rw [← hq22]; exact ev_il_01 _ _ _) | assumption | exact ev_01 hq22) ?_
  subst hq22
  exact ⟨rfl, rfl, rfl, rfl⟩
set_option maxRecDepth 100000 in
set_option maxHeartbeats 100000 in
theorem eg_isShip_r1 (X : ez_X) (I : Nat → Nat → Int32) (J : Nat → Nat → Int64) (R : Nat → Nat) (T : List ez_C) (a : Int32) (cz kz : Nat) : ∀ G : ez_F, fx_up X 8 G 25 0 [.ref 0, .int a] [] (ev_hp I J R T) cz kz = ev_C G 55 [.int a, .int 0, .int ((I 3 3) - (1 : Int32))] (ev_hp I J R T) fun r h1 c1 k1 => G 25 14 [.ref 0, .int a] (r.toList ++ []) h1 (cz + c1) (kz + k1) := by
  intro G
  rfl
theorem eg_isShip (X : ez_X) (I : Nat → Nat → Int32) (J : Nat → Nat → Int64) (R : Nat → Nat) (T : List ez_C) (a : Int32)  : ev_W X 25 0 (ez_lay [.ref 0, .int a]) [] (ev_hp I J R T) 0 0 (fun r h1 c1 k1 => (r = some (.int ((ev_wi a 0 ((I 3 3) - (1 : Int32))))) ∧ h1 = (ev_hp I J R T) ∧ c1 = 0 ∧ k1 = 0)) := by
  refine ev_call (eg_isShip_r1 X I J R T a _ _) (ec_within X (ev_hp I J R T) a 0 ((I 3 3) - (1 : Int32))) ?_
  rintro _ _ _ _ ⟨rfl, rfl, rfl, rfl⟩
  generalize hq23 : (ev_wi a 0 ((I 3 3) - (1 : Int32))) = q23
  refine ev_zret (by rfl) (by first | (rw [← hq23]; exact ev_wi_01 _ _ _) | (rw [← hq23]; exact ev_il_01 _ _ _) | assumption | exact ev_01 hq23) ?_
  subst hq23
  exact ⟨rfl, rfl, rfl, rfl⟩
set_option maxRecDepth 100000 in
set_option maxHeartbeats 100000 in
theorem eg_isCall_r1 (X : ez_X) (I : Nat → Nat → Int32) (J : Nat → Nat → Int64) (R : Nat → Nat) (T : List ez_C) (a : Int32) (cz kz : Nat) : ∀ G : ez_F, fx_up X 8 G 21 0 [.ref 0, .int a] [] (ev_hp I J R T) cz kz = ev_C G 55 [.int a, .int 0, .int ((I 8 1) - (1 : Int32))] (ev_hp I J R T) fun r h1 c1 k1 => G 21 14 [.ref 0, .int a] (r.toList ++ []) h1 (cz + c1) (kz + k1) := by
  intro G
  rfl
theorem eg_isCall (X : ez_X) (I : Nat → Nat → Int32) (J : Nat → Nat → Int64) (R : Nat → Nat) (T : List ez_C) (a : Int32)  : ev_W X 21 0 (ez_lay [.ref 0, .int a]) [] (ev_hp I J R T) 0 0 (fun r h1 c1 k1 => (r = some (.int ((ev_wi a 0 ((I 8 1) - (1 : Int32))))) ∧ h1 = (ev_hp I J R T) ∧ c1 = 0 ∧ k1 = 0)) := by
  refine ev_call (eg_isCall_r1 X I J R T a _ _) (ec_within X (ev_hp I J R T) a 0 ((I 8 1) - (1 : Int32))) ?_
  rintro _ _ _ _ ⟨rfl, rfl, rfl, rfl⟩
  generalize hq24 : (ev_wi a 0 ((I 8 1) - (1 : Int32))) = q24
  refine ev_zret (by rfl) (by first | (rw [← hq24]; exact ev_wi_01 _ _ _) | (rw [← hq24]; exact ev_il_01 _ _ _) | assumption | exact ev_01 hq24) ?_
  subst hq24
  exact ⟨rfl, rfl, rfl, rfl⟩
set_option maxRecDepth 100000 in
set_option maxHeartbeats 100000 in
theorem eg_isRim_r1 (X : ez_X) (I : Nat → Nat → Int32) (J : Nat → Nat → Int64) (R : Nat → Nat) (T : List ez_C) (a : Int32) (cz kz : Nat) : ∀ G : ez_F, fx_up X 5 G 24 0 [.ref 0, .int a] [] (ev_hp I J R T) cz kz = ev_C G 151 [.ref 1] (ev_hp I J R T) fun r h1 c1 k1 => G 24 9 [.ref 0, .int a] (r.toList ++ [.int 0, .int a]) h1 (cz + c1) (kz + k1) := by
  intro G
  rfl
set_option maxRecDepth 100000 in
set_option maxHeartbeats 100000 in
theorem eg_isRim_r2 (X : ez_X) (I : Nat → Nat → Int32) (J : Nat → Nat → Int64) (R : Nat → Nat) (T : List ez_C) (a : Int32) (q25 : Int32) (cz kz : Nat) : ∀ G : ez_F, fx_up X 3 G 24 9 [.ref 0, .int a] [.int q25, .int 0, .int a] (ev_hp I J R T) cz kz = ev_C G 55 [.int a, .int 0, .int (q25 - (1 : Int32))] (ev_hp I J R T) fun r h1 c1 k1 => G 24 14 [.ref 0, .int a] (r.toList ++ []) h1 (cz + c1) (kz + k1) := by
  intro G
  rfl
theorem eg_isRim (X : ez_X) (I : Nat → Nat → Int32) (J : Nat → Nat → Int64) (R : Nat → Nat) (T : List ez_C) (a : Int32)  : ev_W X 24 0 (ez_lay [.ref 0, .int a]) [] (ev_hp I J R T) 0 0 (fun r h1 c1 k1 => (r = some (.int ((ev_wi a 0 ((((I 1 4) + (I 1 3))) - (1 : Int32))))) ∧ h1 = (ev_hp I J R T) ∧ c1 = 0 ∧ k1 = 0)) := by
  refine ev_call (eg_isRim_r1 X I J R T a _ _) (ea_S_Sheet_rimTotal_151_1 X I J R T) ?_
  rintro r0 _ _ _ (⟨hr0, rfl, rfl, rfl⟩)
  obtain ⟨q25, hq25⟩ : ∃ z : Int32, ((I 1 4) + (I 1 3)) = z := ⟨_, rfl⟩
  have eq25 : r0 = some (.int q25) := hr0.trans (by subst hq25; rfl)
  subst eq25
  refine ev_call (eg_isRim_r2 X I J R T a q25 _ _) (ec_within X (ev_hp I J R T) a 0 (q25 - (1 : Int32))) ?_
  rintro _ _ _ _ ⟨rfl, rfl, rfl, rfl⟩
  generalize hq26 : (ev_wi a 0 (q25 - (1 : Int32))) = q26
  refine ev_zret (by rfl) (by first | (rw [← hq26]; exact ev_wi_01 _ _ _) | (rw [← hq26]; exact ev_il_01 _ _ _) | assumption | exact ev_01 hq26) ?_
  subst hq26
  subst hq25
  exact ⟨rfl, rfl, rfl, rfl⟩
set_option maxRecDepth 100000 in
set_option maxHeartbeats 100000 in
theorem eg_isLaying_r1 (X : ez_X) (I : Nat → Nat → Int32) (J : Nat → Nat → Int64) (R : Nat → Nat) (T : List ez_C) (a : Int32) (cz kz : Nat) : ∀ G : ez_F, fx_up X 8 G 23 0 [.ref 0, .int a] [] (ev_hp I J R T) cz kz = ev_C G 55 [.int a, .int 0, .int ((I 6 3) - (1 : Int32))] (ev_hp I J R T) fun r h1 c1 k1 => G 23 14 [.ref 0, .int a] (r.toList ++ []) h1 (cz + c1) (kz + k1) := by
  intro G
  rfl
theorem eg_isLaying (X : ez_X) (I : Nat → Nat → Int32) (J : Nat → Nat → Int64) (R : Nat → Nat) (T : List ez_C) (a : Int32)  : ev_W X 23 0 (ez_lay [.ref 0, .int a]) [] (ev_hp I J R T) 0 0 (fun r h1 c1 k1 => (r = some (.int ((ev_wi a 0 ((I 6 3) - (1 : Int32))))) ∧ h1 = (ev_hp I J R T) ∧ c1 = 0 ∧ k1 = 0)) := by
  refine ev_call (eg_isLaying_r1 X I J R T a _ _) (ec_within X (ev_hp I J R T) a 0 ((I 6 3) - (1 : Int32))) ?_
  rintro _ _ _ _ ⟨rfl, rfl, rfl, rfl⟩
  generalize hq27 : (ev_wi a 0 ((I 6 3) - (1 : Int32))) = q27
  refine ev_zret (by rfl) (by first | (rw [← hq27]; exact ev_wi_01 _ _ _) | (rw [← hq27]; exact ev_il_01 _ _ _) | assumption | exact ev_01 hq27) ?_
  subst hq27
  exact ⟨rfl, rfl, rfl, rfl⟩
set_option maxRecDepth 100000 in
set_option maxHeartbeats 100000 in
theorem eg_noted_r1 (X : ez_X) (I : Nat → Nat → Int32) (J : Nat → Nat → Int64) (R : Nat → Nat) (T : List ez_C) (a : Int64) (cz kz : Nat) : ∀ G : ez_F, fx_up X 5 G 35 0 [.ref 0, .long a, ez_fill] [] (ev_hp I J R T) cz kz = bif decide ((I 8 1) < 30) then G 35 15 [.ref 0, .long a, ez_fill] [] (ev_hp I J R T) cz kz else G 35 12 [.ref 0, .long a, ez_fill] [] (ev_hp I J R T) cz kz := by
  intro G
  rfl
set_option maxRecDepth 100000 in
set_option maxHeartbeats 100000 in
theorem eg_noted_r2 (X : ez_X) (I : Nat → Nat → Int32) (J : Nat → Nat → Int64) (R : Nat → Nat) (T : List ez_C) (a : Int64) (cz kz : Nat) : ∀ G : ez_F, fx_up X 4 G 35 15 [.ref 0, .long a, ez_fill] [] (ev_hp I J R T) cz kz = ev_C G 121 [.ref 8, .long a] (ev_hp I J R T) fun r h1 c1 k1 => G 35 23 [.ref 0, .long a, ez_fill] (r.toList ++ []) h1 (cz + c1) (kz + k1) := by
  intro G
  rfl
set_option maxRecDepth 100000 in
set_option maxHeartbeats 100000 in
theorem eg_noted_r3 (X : ez_X) (I : Nat → Nat → Int32) (J : Nat → Nat → Int64) (R : Nat → Nat) (T : List ez_C) (a : Int64) (q28 : Int32) (cz kz : Nat) : ∀ G : ez_F, fx_up X 3 G 35 23 [.ref 0, .long a, ez_fill] [.int q28] (ev_hp (ev_sI I 8 (upd (I 8) 1 ((I 8 1) + (1 : Int32)))) (ev_sJ J 9 (ev_putJ 30 (J 9) (I 8 1) a)) R T) cz kz = ev_C G 12 [.ref 0] (ev_hp (ev_sI I 8 (upd (I 8) 1 ((I 8 1) + (1 : Int32)))) (ev_sJ J 9 (ev_putJ 30 (J 9) (I 8 1) a)) R T) fun r h1 c1 k1 => G 35 28 [.ref 0, .long a, ez_fill, .int q28] (r.toList ++ []) h1 (cz + c1) (kz + k1) := by
  intro G
  rfl
set_option maxRecDepth 100000 in
set_option maxHeartbeats 100000 in
theorem eg_noted_r4 (X : ez_X) (I : Nat → Nat → Int32) (J : Nat → Nat → Int64) (R : Nat → Nat) (T : List ez_C) (a : Int64) (q28 : Int32) (cz kz : Nat) : ∀ G : ez_F, fx_up X 2 G 35 28 [.ref 0, .long a, ez_fill, .int q28] [] (ev_hp (ev_sI (ev_sI (ev_sI I 8 (upd (I 8) 1 ((I 8 1) + (1 : Int32)))) 13 (upd (upd (I 13) 8 0) 9 0)) 20 (upd (I 20) 3 0)) (ev_sJ J 9 (ev_putJ 30 (J 9) (I 8 1) a)) R T) cz kz = some (some (.int q28), (ev_hp (ev_sI (ev_sI (ev_sI I 8 (upd (I 8) 1 ((I 8 1) + (1 : Int32)))) 13 (upd (upd (I 13) 8 0) 9 0)) 20 (upd (I 20) 3 0)) (ev_sJ J 9 (ev_putJ 30 (J 9) (I 8 1) a)) R T), cz, kz) := by
  intro G
  rfl
set_option maxRecDepth 100000 in
set_option maxHeartbeats 100000 in
theorem eg_noted_r5 (X : ez_X) (I : Nat → Nat → Int32) (J : Nat → Nat → Int64) (R : Nat → Nat) (T : List ez_C) (a : Int64) (cz kz : Nat) : ∀ G : ez_F, fx_up X 2 G 35 12 [.ref 0, .long a, ez_fill] [] (ev_hp I J R T) cz kz = some (some (.int (-5)), (ev_hp I J R T), cz, kz) := by
  intro G
  rfl
theorem eg_noted (X : ez_X) (I : Nat → Nat → Int32) (J : Nat → Nat → Int64) (R : Nat → Nat) (T : List ez_C) (a : Int64)  : ev_W X 35 0 (ez_lay [.ref 0, .long a]) [] (ev_hp I J R T) 0 0 (fun r h1 c1 k1 => (((I 8 1) < 30) ∧ r = some (.int ((((I 8 1) + (1 : Int32)) - (1 : Int32)))) ∧ h1 = (ev_hp (ev_sI (ev_sI (ev_sI I 8 (upd (I 8) 1 ((I 8 1) + (1 : Int32)))) 13 (upd (upd (I 13) 8 0) 9 0)) 20 (upd (I 20) 3 0)) (ev_sJ J 9 (ev_putJ 30 (J 9) (I 8 1) a)) R T) ∧ c1 = 0 ∧ k1 = 0) ∨ ((¬ ((I 8 1) < 30)) ∧ r = some (.int (-5)) ∧ h1 = (ev_hp I J R T) ∧ c1 = 0 ∧ k1 = 0)) := by
  refine ev_if (eg_noted_r1 X I J R T a _ _) (fun b1 => ?_) (fun b1 => ?_)
  · replace b1 := of_decide_eq_true b1
    refine ev_call (eg_noted_r2 X I J R T a _ _) (ea_S_Paper_add_121_8 X I J R T a) ?_
    rintro r0 _ _ _ (⟨hr0, rfl, rfl, rfl⟩)
    obtain ⟨q28, hq28⟩ : ∃ z : Int32, (((I 8 1) + (1 : Int32)) - (1 : Int32)) = z := ⟨_, rfl⟩
    have eq28 : r0 = some (.int q28) := hr0.trans (by subst hq28; rfl)
    subst eq28
    refine ev_call (eg_noted_r3 X I J R T a q28 _ _) (ea_S_callsChanged_12_0 X (ev_sI I 8 (upd (I 8) 1 ((I 8 1) + (1 : Int32)))) (ev_sJ J 9 (ev_putJ 30 (J 9) (I 8 1) a)) R T) ?_
    rintro r0 _ _ _ (⟨rfl, rfl, rfl, rfl⟩)
    refine ev_ret (eg_noted_r4 X I J R T a q28 _ _) ?_
    subst hq28
    exact Or.inl ⟨b1, rfl, rfl, rfl, rfl⟩
  · replace b1 := of_decide_eq_false b1
    refine ev_ret (eg_noted_r5 X I J R T a _ _) ?_
    exact Or.inr (⟨b1, rfl, rfl, rfl, rfl⟩)
set_option maxRecDepth 100000 in
set_option maxHeartbeats 100000 in
theorem eg_call_r1 (X : ez_X) (I : Nat → Nat → Int32) (J : Nat → Nat → Int64) (R : Nat → Nat) (T : List ez_C) (a : Int32) (cz kz : Nat) : ∀ G : ez_F, fx_up X 3 G 10 0 [.ref 0, .int a] [] (ev_hp I J R T) cz kz = ev_C G 22 [.ref 0, .int a] (ev_hp I J R T) fun r h1 c1 k1 => G 10 5 [.ref 0, .int a] (r.toList ++ []) h1 (cz + c1) (kz + k1) := by
  intro G
  rfl
set_option maxRecDepth 100000 in
set_option maxHeartbeats 100000 in
theorem eg_call_r2 (X : ez_X) (I : Nat → Nat → Int32) (J : Nat → Nat → Int64) (R : Nat → Nat) (T : List ez_C) (a : Int32) (q29 : Int32) (cz kz : Nat) : ∀ G : ez_F, fx_up X 1 G 10 5 [.ref 0, .int a] [.int q29] (ev_hp I J R T) cz kz = bif decide (q29 = 0) then G 10 18 [.ref 0, .int a] [] (ev_hp I J R T) cz kz else G 10 8 [.ref 0, .int a] [] (ev_hp I J R T) cz kz := by
  intro G
  rfl
set_option maxRecDepth 100000 in
set_option maxHeartbeats 100000 in
theorem eg_call_r3 (X : ez_X) (I : Nat → Nat → Int32) (J : Nat → Nat → Int64) (R : Nat → Nat) (T : List ez_C) (a : Int32) (q29 : Int32) (cz kz : Nat) : ∀ G : ez_F, fx_up X 2 G 10 18 [.ref 0, .int a] [] (ev_hp I J R T) cz kz = some (some (.int (-2)), (ev_hp I J R T), cz, kz) := by
  intro G
  rfl
set_option maxRecDepth 100000 in
set_option maxHeartbeats 100000 in
theorem eg_call_r4 (X : ez_X) (I : Nat → Nat → Int32) (J : Nat → Nat → Int64) (R : Nat → Nat) (T : List ez_C) (a : Int32) (q29 : Int32) (cz kz : Nat) : ∀ G : ez_F, fx_up X 5 G 10 8 [.ref 0, .int a] [] (ev_hp I J R T) cz kz = ev_C G 35 [.ref 0, .long ((1 : Int64) <<< ((a : Int32).toInt64 &&& 63))] (ev_hp I J R T) fun r h1 c1 k1 => G 10 15 [.ref 0, .int a] (r.toList ++ []) h1 (cz + c1) (kz + k1) := by
  intro G
  rfl
set_option maxRecDepth 100000 in
set_option maxHeartbeats 100000 in
theorem eg_call_r5 (X : ez_X) (I : Nat → Nat → Int32) (J : Nat → Nat → Int64) (R : Nat → Nat) (T : List ez_C) (a : Int32) (q29 : Int32) (q30 : Int32) (cz kz : Nat) : ∀ G : ez_F, fx_up X 2 G 10 15 [.ref 0, .int a] [.int q30] (ev_hp (ev_sI (ev_sI (ev_sI I 8 (upd (I 8) 1 ((I 8 1) + (1 : Int32)))) 13 (upd (upd (I 13) 8 0) 9 0)) 20 (upd (I 20) 3 0)) (ev_sJ J 9 (ev_putJ 30 (J 9) (I 8 1) ((1 : Int64) <<< ((a : Int32).toInt64 &&& 63)))) R T) cz kz = some (some (.int q30), (ev_hp (ev_sI (ev_sI (ev_sI I 8 (upd (I 8) 1 ((I 8 1) + (1 : Int32)))) 13 (upd (upd (I 13) 8 0) 9 0)) 20 (upd (I 20) 3 0)) (ev_sJ J 9 (ev_putJ 30 (J 9) (I 8 1) ((1 : Int64) <<< ((a : Int32).toInt64 &&& 63)))) R T), cz, kz) := by
  intro G
  rfl
set_option maxRecDepth 100000 in
set_option maxHeartbeats 100000 in
theorem eg_call_r6 (X : ez_X) (I : Nat → Nat → Int32) (J : Nat → Nat → Int64) (R : Nat → Nat) (T : List ez_C) (a : Int32) (q29 : Int32) (cz kz : Nat) : ∀ G : ez_F, fx_up X 2 G 10 15 [.ref 0, .int a] [.int (-5)] (ev_hp I J R T) cz kz = some (some (.int (-5)), (ev_hp I J R T), cz, kz) := by
  intro G
  rfl
theorem eg_call (X : ez_X) (I : Nat → Nat → Int32) (J : Nat → Nat → Int64) (R : Nat → Nat) (T : List ez_C) (a : Int32)  : ev_W X 10 0 (ez_lay [.ref 0, .int a]) [] (ev_hp I J R T) 0 0 (fun r h1 c1 k1 => (((((ev_wi a 0 ((I 1 6) - (1 : Int32))))) = 0) ∧ r = some (.int (-2)) ∧ h1 = (ev_hp I J R T) ∧ c1 = 0 ∧ k1 = 0) ∨ ((¬ ((((ev_wi a 0 ((I 1 6) - (1 : Int32))))) = 0)) ∧ (((I 8 1) < 30)) ∧ r = some (.int (((((I 8 1) + (1 : Int32)) - (1 : Int32))))) ∧ h1 = (ev_hp (ev_sI (ev_sI (ev_sI I 8 (upd (I 8) 1 ((I 8 1) + (1 : Int32)))) 13 (upd (upd (I 13) 8 0) 9 0)) 20 (upd (I 20) 3 0)) (ev_sJ J 9 (ev_putJ 30 (J 9) (I 8 1) ((1 : Int64) <<< ((a : Int32).toInt64 &&& 63)))) R T) ∧ c1 = 0 ∧ k1 = 0) ∨ ((¬ ((((ev_wi a 0 ((I 1 6) - (1 : Int32))))) = 0)) ∧ ((¬ ((I 8 1) < 30))) ∧ r = some (.int (-5)) ∧ h1 = (ev_hp I J R T) ∧ c1 = 0 ∧ k1 = 0)) := by
  refine ev_call (eg_call_r1 X I J R T a _ _) (eg_isCell X I J R T a) ?_
  rintro r0 _ _ _ (⟨hr0, rfl, rfl, rfl⟩)
  obtain ⟨q29, hq29⟩ : ∃ z : Int32, ((ev_wi a 0 ((I 1 6) - (1 : Int32)))) = z := ⟨_, rfl⟩
  have eq29 : r0 = some (.int q29) := hr0.trans (by subst hq29; rfl)
  subst eq29
  refine ev_if (eg_call_r2 X I J R T a q29 _ _) (fun b1 => ?_) (fun b1 => ?_)
  · replace b1 := of_decide_eq_true b1
    refine ev_ret (eg_call_r3 X I J R T a q29 _ _) ?_
    subst hq29
    exact Or.inl ⟨b1, rfl, rfl, rfl, rfl⟩
  · replace b1 := of_decide_eq_false b1
    refine ev_call (eg_call_r4 X I J R T a q29 _ _) (eg_noted X I J R T ((1 : Int64) <<< ((a : Int32).toInt64 &&& 63))) ?_
    rintro r0 _ _ _ (⟨d21, hr0, rfl, rfl, rfl⟩ | ⟨d22, rfl, rfl, rfl, rfl⟩)
    · skip
      obtain ⟨q30, hq30⟩ : ∃ z : Int32, ((((I 8 1) + (1 : Int32)) - (1 : Int32))) = z := ⟨_, rfl⟩
      have eq30 : r0 = some (.int q30) := hr0.trans (by subst hq30; rfl)
      subst eq30
      refine ev_ret (eg_call_r5 X I J R T a q29 q30 _ _) ?_
      subst hq30
      subst hq29
      exact Or.inr (Or.inl ⟨b1, d21, rfl, rfl, rfl, rfl⟩)
    · skip
      refine ev_ret (eg_call_r6 X I J R T a q29 _ _) ?_
      subst hq29
      exact Or.inr (Or.inr (⟨b1, d22, rfl, rfl, rfl, rfl⟩))
set_option maxRecDepth 100000 in
set_option maxHeartbeats 100000 in
theorem eg_salvo_r1 (X : ez_X) (I : Nat → Nat → Int32) (J : Nat → Nat → Int64) (R : Nat → Nat) (T : List ez_C) (a : Int32) (b : Int32) (cz kz : Nat) : ∀ G : ez_F, fx_up X 3 G 41 0 [.ref 0, .int a, .int b] [] (ev_hp I J R T) cz kz = ev_C G 22 [.ref 0, .int a] (ev_hp I J R T) fun r h1 c1 k1 => G 41 5 [.ref 0, .int a, .int b] (r.toList ++ []) h1 (cz + c1) (kz + k1) := by
  intro G
  rfl
set_option maxRecDepth 100000 in
set_option maxHeartbeats 100000 in
theorem eg_salvo_r2 (X : ez_X) (I : Nat → Nat → Int32) (J : Nat → Nat → Int64) (R : Nat → Nat) (T : List ez_C) (a : Int32) (b : Int32) (q31 : Int32) (cz kz : Nat) : ∀ G : ez_F, fx_up X 1 G 41 5 [.ref 0, .int a, .int b] [.int q31] (ev_hp I J R T) cz kz = bif decide (q31 = 0) then G 41 16 [.ref 0, .int a, .int b] [] (ev_hp I J R T) cz kz else G 41 8 [.ref 0, .int a, .int b] [] (ev_hp I J R T) cz kz := by
  intro G
  rfl
set_option maxRecDepth 100000 in
set_option maxHeartbeats 100000 in
theorem eg_salvo_r3 (X : ez_X) (I : Nat → Nat → Int32) (J : Nat → Nat → Int64) (R : Nat → Nat) (T : List ez_C) (a : Int32) (b : Int32) (q31 : Int32) (cz kz : Nat) : ∀ G : ez_F, fx_up X 2 G 41 16 [.ref 0, .int a, .int b] [] (ev_hp I J R T) cz kz = some (some (.int (-2)), (ev_hp I J R T), cz, kz) := by
  intro G
  rfl
set_option maxRecDepth 100000 in
set_option maxHeartbeats 100000 in
theorem eg_salvo_r4 (X : ez_X) (I : Nat → Nat → Int32) (J : Nat → Nat → Int64) (R : Nat → Nat) (T : List ez_C) (a : Int32) (b : Int32) (q31 : Int32) (cz kz : Nat) : ∀ G : ez_F, fx_up X 3 G 41 8 [.ref 0, .int a, .int b] [] (ev_hp I J R T) cz kz = ev_C G 22 [.ref 0, .int b] (ev_hp I J R T) fun r h1 c1 k1 => G 41 13 [.ref 0, .int a, .int b] (r.toList ++ []) h1 (cz + c1) (kz + k1) := by
  intro G
  rfl
set_option maxRecDepth 100000 in
set_option maxHeartbeats 100000 in
theorem eg_salvo_r5 (X : ez_X) (I : Nat → Nat → Int32) (J : Nat → Nat → Int64) (R : Nat → Nat) (T : List ez_C) (a : Int32) (b : Int32) (q31 : Int32) (q32 : Int32) (cz kz : Nat) : ∀ G : ez_F, fx_up X 1 G 41 13 [.ref 0, .int a, .int b] [.int q32] (ev_hp I J R T) cz kz = bif decide (¬ q32 = 0) then G 41 19 [.ref 0, .int a, .int b] [] (ev_hp I J R T) cz kz else G 41 16 [.ref 0, .int a, .int b] [] (ev_hp I J R T) cz kz := by
  intro G
  rfl
set_option maxRecDepth 100000 in
set_option maxHeartbeats 100000 in
theorem eg_salvo_r6 (X : ez_X) (I : Nat → Nat → Int32) (J : Nat → Nat → Int64) (R : Nat → Nat) (T : List ez_C) (a : Int32) (b : Int32) (q31 : Int32) (q32 : Int32) (cz kz : Nat) : ∀ G : ez_F, fx_up X 3 G 41 19 [.ref 0, .int a, .int b] [] (ev_hp I J R T) cz kz = bif decide (¬ a = b) then G 41 29 [.ref 0, .int a, .int b] [] (ev_hp I J R T) cz kz else G 41 24 [.ref 0, .int a, .int b] [] (ev_hp I J R T) cz kz := by
  intro G
  rfl
set_option maxRecDepth 100000 in
set_option maxHeartbeats 100000 in
theorem eg_salvo_r7 (X : ez_X) (I : Nat → Nat → Int32) (J : Nat → Nat → Int64) (R : Nat → Nat) (T : List ez_C) (a : Int32) (b : Int32) (q31 : Int32) (q32 : Int32) (cz kz : Nat) : ∀ G : ez_F, fx_up X 9 G 41 29 [.ref 0, .int a, .int b] [] (ev_hp I J R T) cz kz = ev_C G 35 [.ref 0, .long (((1 : Int64) <<< ((a : Int32).toInt64 &&& 63)) ||| ((1 : Int64) <<< ((b : Int32).toInt64 &&& 63)))] (ev_hp I J R T) fun r h1 c1 k1 => G 41 40 [.ref 0, .int a, .int b] (r.toList ++ []) h1 (cz + c1) (kz + k1) := by
  intro G
  rfl
set_option maxRecDepth 100000 in
set_option maxHeartbeats 100000 in
theorem eg_salvo_r8 (X : ez_X) (I : Nat → Nat → Int32) (J : Nat → Nat → Int64) (R : Nat → Nat) (T : List ez_C) (a : Int32) (b : Int32) (q31 : Int32) (q32 : Int32) (q33 : Int32) (cz kz : Nat) : ∀ G : ez_F, fx_up X 1 G 41 40 [.ref 0, .int a, .int b] [.int q33] (ev_hp (ev_sI (ev_sI (ev_sI I 8 (upd (I 8) 1 ((I 8 1) + (1 : Int32)))) 13 (upd (upd (I 13) 8 0) 9 0)) 20 (upd (I 20) 3 0)) (ev_sJ J 9 (ev_putJ 30 (J 9) (I 8 1) (((1 : Int64) <<< ((a : Int32).toInt64 &&& 63)) ||| ((1 : Int64) <<< ((b : Int32).toInt64 &&& 63))))) R T) cz kz = some (some (.int q33), (ev_hp (ev_sI (ev_sI (ev_sI I 8 (upd (I 8) 1 ((I 8 1) + (1 : Int32)))) 13 (upd (upd (I 13) 8 0) 9 0)) 20 (upd (I 20) 3 0)) (ev_sJ J 9 (ev_putJ 30 (J 9) (I 8 1) (((1 : Int64) <<< ((a : Int32).toInt64 &&& 63)) ||| ((1 : Int64) <<< ((b : Int32).toInt64 &&& 63))))) R T), cz, kz) := by
  intro G
  rfl
set_option maxRecDepth 100000 in
set_option maxHeartbeats 100000 in
theorem eg_salvo_r9 (X : ez_X) (I : Nat → Nat → Int32) (J : Nat → Nat → Int64) (R : Nat → Nat) (T : List ez_C) (a : Int32) (b : Int32) (q31 : Int32) (q32 : Int32) (cz kz : Nat) : ∀ G : ez_F, fx_up X 1 G 41 40 [.ref 0, .int a, .int b] [.int (-5)] (ev_hp I J R T) cz kz = some (some (.int (-5)), (ev_hp I J R T), cz, kz) := by
  intro G
  rfl
set_option maxRecDepth 100000 in
set_option maxHeartbeats 100000 in
theorem eg_salvo_r10 (X : ez_X) (I : Nat → Nat → Int32) (J : Nat → Nat → Int64) (R : Nat → Nat) (T : List ez_C) (a : Int32) (b : Int32) (q31 : Int32) (q32 : Int32) (cz kz : Nat) : ∀ G : ez_F, fx_up X 3 G 41 24 [.ref 0, .int a, .int b] [] (ev_hp I J R T) cz kz = some (some (.int (-3)), (ev_hp I J R T), cz, kz) := by
  intro G
  rfl
set_option maxRecDepth 100000 in
set_option maxHeartbeats 100000 in
theorem eg_salvo_r11 (X : ez_X) (I : Nat → Nat → Int32) (J : Nat → Nat → Int64) (R : Nat → Nat) (T : List ez_C) (a : Int32) (b : Int32) (q31 : Int32) (q32 : Int32) (cz kz : Nat) : ∀ G : ez_F, fx_up X 2 G 41 16 [.ref 0, .int a, .int b] [] (ev_hp I J R T) cz kz = some (some (.int (-2)), (ev_hp I J R T), cz, kz) := by
  intro G
  rfl
theorem eg_salvo (X : ez_X) (I : Nat → Nat → Int32) (J : Nat → Nat → Int64) (R : Nat → Nat) (T : List ez_C) (a : Int32) (b : Int32)  : ev_W X 41 0 (ez_lay [.ref 0, .int a, .int b]) [] (ev_hp I J R T) 0 0 (fun r h1 c1 k1 => (((((ev_wi a 0 ((I 1 6) - (1 : Int32))))) = 0) ∧ r = some (.int (-2)) ∧ h1 = (ev_hp I J R T) ∧ c1 = 0 ∧ k1 = 0) ∨ ((¬ ((((ev_wi a 0 ((I 1 6) - (1 : Int32))))) = 0)) ∧ (¬ (((ev_wi b 0 ((I 1 6) - (1 : Int32))))) = 0) ∧ (¬ a = b) ∧ (((I 8 1) < 30)) ∧ r = some (.int (((((I 8 1) + (1 : Int32)) - (1 : Int32))))) ∧ h1 = (ev_hp (ev_sI (ev_sI (ev_sI I 8 (upd (I 8) 1 ((I 8 1) + (1 : Int32)))) 13 (upd (upd (I 13) 8 0) 9 0)) 20 (upd (I 20) 3 0)) (ev_sJ J 9 (ev_putJ 30 (J 9) (I 8 1) (((1 : Int64) <<< ((a : Int32).toInt64 &&& 63)) ||| ((1 : Int64) <<< ((b : Int32).toInt64 &&& 63))))) R T) ∧ c1 = 0 ∧ k1 = 0) ∨ ((¬ ((((ev_wi a 0 ((I 1 6) - (1 : Int32))))) = 0)) ∧ (¬ (((ev_wi b 0 ((I 1 6) - (1 : Int32))))) = 0) ∧ (¬ a = b) ∧ ((¬ ((I 8 1) < 30))) ∧ r = some (.int (-5)) ∧ h1 = (ev_hp I J R T) ∧ c1 = 0 ∧ k1 = 0) ∨ ((¬ ((((ev_wi a 0 ((I 1 6) - (1 : Int32))))) = 0)) ∧ (¬ (((ev_wi b 0 ((I 1 6) - (1 : Int32))))) = 0) ∧ (¬ (¬ a = b)) ∧ r = some (.int (-3)) ∧ h1 = (ev_hp I J R T) ∧ c1 = 0 ∧ k1 = 0) ∨ ((¬ ((((ev_wi a 0 ((I 1 6) - (1 : Int32))))) = 0)) ∧ (¬ (¬ (((ev_wi b 0 ((I 1 6) - (1 : Int32))))) = 0)) ∧ r = some (.int (-2)) ∧ h1 = (ev_hp I J R T) ∧ c1 = 0 ∧ k1 = 0)) := by
  refine ev_call (eg_salvo_r1 X I J R T a b _ _) (eg_isCell X I J R T a) ?_
  rintro r0 _ _ _ (⟨hr0, rfl, rfl, rfl⟩)
  obtain ⟨q31, hq31⟩ : ∃ z : Int32, ((ev_wi a 0 ((I 1 6) - (1 : Int32)))) = z := ⟨_, rfl⟩
  have eq31 : r0 = some (.int q31) := hr0.trans (by subst hq31; rfl)
  subst eq31
  refine ev_if (eg_salvo_r2 X I J R T a b q31 _ _) (fun b1 => ?_) (fun b1 => ?_)
  · replace b1 := of_decide_eq_true b1
    refine ev_ret (eg_salvo_r3 X I J R T a b q31 _ _) ?_
    subst hq31
    exact Or.inl ⟨b1, rfl, rfl, rfl, rfl⟩
  · replace b1 := of_decide_eq_false b1
    refine ev_call (eg_salvo_r4 X I J R T a b q31 _ _) (eg_isCell X I J R T b) ?_
    rintro r0 _ _ _ (⟨hr0, rfl, rfl, rfl⟩)
    obtain ⟨q32, hq32⟩ : ∃ z : Int32, ((ev_wi b 0 ((I 1 6) - (1 : Int32)))) = z := ⟨_, rfl⟩
    have eq32 : r0 = some (.int q32) := hr0.trans (by subst hq32; rfl)
    subst eq32
    refine ev_if (eg_salvo_r5 X I J R T a b q31 q32 _ _) (fun b2 => ?_) (fun b2 => ?_)
    · replace b2 := of_decide_eq_true b2
      refine ev_if (eg_salvo_r6 X I J R T a b q31 q32 _ _) (fun b3 => ?_) (fun b3 => ?_)
      · replace b3 := of_decide_eq_true b3
        refine ev_call (eg_salvo_r7 X I J R T a b q31 q32 _ _) (eg_noted X I J R T (((1 : Int64) <<< ((a : Int32).toInt64 &&& 63)) ||| ((1 : Int64) <<< ((b : Int32).toInt64 &&& 63)))) ?_
        rintro r0 _ _ _ (⟨d23, hr0, rfl, rfl, rfl⟩ | ⟨d24, rfl, rfl, rfl, rfl⟩)
        · skip
          obtain ⟨q33, hq33⟩ : ∃ z : Int32, ((((I 8 1) + (1 : Int32)) - (1 : Int32))) = z := ⟨_, rfl⟩
          have eq33 : r0 = some (.int q33) := hr0.trans (by subst hq33; rfl)
          subst eq33
          refine ev_ret (eg_salvo_r8 X I J R T a b q31 q32 q33 _ _) ?_
          subst hq33
          subst hq32
          subst hq31
          exact Or.inr (Or.inl ⟨b1, b2, b3, d23, rfl, rfl, rfl, rfl⟩)
        · skip
          refine ev_ret (eg_salvo_r9 X I J R T a b q31 q32 _ _) ?_
          subst hq32
          subst hq31
          exact Or.inr (Or.inr (Or.inl ⟨b1, b2, b3, d24, rfl, rfl, rfl, rfl⟩))
      · replace b3 := of_decide_eq_false b3
        refine ev_ret (eg_salvo_r10 X I J R T a b q31 q32 _ _) ?_
        subst hq32
        subst hq31
        exact Or.inr (Or.inr (Or.inr (Or.inl ⟨b1, b2, b3, rfl, rfl, rfl, rfl⟩)))
    · replace b2 := of_decide_eq_false b2
      refine ev_ret (eg_salvo_r11 X I J R T a b q31 q32 _ _) ?_
      subst hq32
      subst hq31
      exact Or.inr (Or.inr (Or.inr (Or.inr (⟨b1, b2, rfl, rfl, rfl, rfl⟩))))
set_option maxRecDepth 100000 in
set_option maxHeartbeats 100000 in
theorem eg_toldAt_r1 (X : ez_X) (I : Nat → Nat → Int32) (J : Nat → Nat → Int64) (R : Nat → Nat) (T : List ez_C) (a : Int32) (cz kz : Nat) : ∀ G : ez_F, fx_up X 11 G 126 0 [.ref 8, .int a] [] (ev_hp I J R T) cz kz = bif decide (¬ (lg_cmp ((((J 8 3).toUInt64 >>> ((((2 : Int32) * a) : Int32).toInt64.toUInt64 &&& 63)).toInt64) &&& (1 : Int64)) 0) = 0) then G 126 17 [.ref 8, .int a] [] (ev_hp I J R T) cz kz else G 126 15 [.ref 8, .int a] [] (ev_hp I J R T) cz kz := by
  intro G
  rfl
set_option maxRecDepth 100000 in
set_option maxHeartbeats 100000 in
theorem eg_toldAt_r2 (X : ez_X) (I : Nat → Nat → Int32) (J : Nat → Nat → Int64) (R : Nat → Nat) (T : List ez_C) (a : Int32) (cz kz : Nat) : ∀ G : ez_F, fx_up X 10 G 126 17 [.ref 8, .int a] [] (ev_hp I J R T) cz kz = some (some (.int (((((J 8 2).toUInt64 >>> ((((2 : Int32) * a) : Int32).toInt64.toUInt64 &&& 63)).toInt64) &&& (3 : Int64)).toInt32)), (ev_hp I J R T), cz, kz) := by
  intro G
  rfl
set_option maxRecDepth 100000 in
set_option maxHeartbeats 100000 in
theorem eg_toldAt_r3 (X : ez_X) (I : Nat → Nat → Int32) (J : Nat → Nat → Int64) (R : Nat → Nat) (T : List ez_C) (a : Int32) (cz kz : Nat) : ∀ G : ez_F, fx_up X 2 G 126 15 [.ref 8, .int a] [] (ev_hp I J R T) cz kz = some (some (.int (-1)), (ev_hp I J R T), cz, kz) := by
  intro G
  rfl
theorem eg_toldAt (X : ez_X) (I : Nat → Nat → Int32) (J : Nat → Nat → Int64) (R : Nat → Nat) (T : List ez_C) (a : Int32)  : ev_W X 126 0 (ez_lay [.ref 8, .int a]) [] (ev_hp I J R T) 0 0 (fun r h1 c1 k1 => ((¬ (lg_cmp ((((J 8 3).toUInt64 >>> ((((2 : Int32) * a) : Int32).toInt64.toUInt64 &&& 63)).toInt64) &&& (1 : Int64)) 0) = 0) ∧ r = some (.int (((((J 8 2).toUInt64 >>> ((((2 : Int32) * a) : Int32).toInt64.toUInt64 &&& 63)).toInt64) &&& (3 : Int64)).toInt32)) ∧ h1 = (ev_hp I J R T) ∧ c1 = 0 ∧ k1 = 0) ∨ ((¬ (¬ (lg_cmp ((((J 8 3).toUInt64 >>> ((((2 : Int32) * a) : Int32).toInt64.toUInt64 &&& 63)).toInt64) &&& (1 : Int64)) 0) = 0)) ∧ r = some (.int (-1)) ∧ h1 = (ev_hp I J R T) ∧ c1 = 0 ∧ k1 = 0)) := by
  refine ev_if (eg_toldAt_r1 X I J R T a _ _) (fun b1 => ?_) (fun b1 => ?_)
  · replace b1 := of_decide_eq_true b1
    refine ev_ret (eg_toldAt_r2 X I J R T a _ _) ?_
    exact Or.inl ⟨b1, rfl, rfl, rfl, rfl⟩
  · replace b1 := of_decide_eq_false b1
    refine ev_ret (eg_toldAt_r3 X I J R T a _ _) ?_
    exact Or.inr (⟨b1, rfl, rfl, rfl, rfl⟩)
set_option maxRecDepth 100000 in
set_option maxHeartbeats 100000 in
theorem eg_answer_r1 (X : ez_X) (I : Nat → Nat → Int32) (J : Nat → Nat → Int64) (R : Nat → Nat) (T : List ez_C) (a : Int32) (b : Int32) (cz kz : Nat) : ∀ G : ez_F, fx_up X 3 G 1 0 [.ref 0, .int a, .int b] [] (ev_hp I J R T) cz kz = ev_C G 21 [.ref 0, .int a] (ev_hp I J R T) fun r h1 c1 k1 => G 1 5 [.ref 0, .int a, .int b] (r.toList ++ []) h1 (cz + c1) (kz + k1) := by
  intro G
  rfl
set_option maxRecDepth 100000 in
set_option maxHeartbeats 100000 in
theorem eg_answer_r2 (X : ez_X) (I : Nat → Nat → Int32) (J : Nat → Nat → Int64) (R : Nat → Nat) (T : List ez_C) (a : Int32) (b : Int32) (q34 : Int32) (cz kz : Nat) : ∀ G : ez_F, fx_up X 1 G 1 5 [.ref 0, .int a, .int b] [.int q34] (ev_hp I J R T) cz kz = bif decide (¬ q34 = 0) then G 1 11 [.ref 0, .int a, .int b] [] (ev_hp I J R T) cz kz else G 1 8 [.ref 0, .int a, .int b] [] (ev_hp I J R T) cz kz := by
  intro G
  rfl
set_option maxRecDepth 100000 in
set_option maxHeartbeats 100000 in
theorem eg_answer_r3 (X : ez_X) (I : Nat → Nat → Int32) (J : Nat → Nat → Int64) (R : Nat → Nat) (T : List ez_C) (a : Int32) (b : Int32) (q34 : Int32) (cz kz : Nat) : ∀ G : ez_F, fx_up X 4 G 1 11 [.ref 0, .int a, .int b] [] (ev_hp I J R T) cz kz = ev_C G 55 [.int b, .int 0, .int 2] (ev_hp I J R T) fun r h1 c1 k1 => G 1 17 [.ref 0, .int a, .int b] (r.toList ++ []) h1 (cz + c1) (kz + k1) := by
  intro G
  rfl
set_option maxRecDepth 100000 in
set_option maxHeartbeats 100000 in
theorem eg_answer_r4 (X : ez_X) (I : Nat → Nat → Int32) (J : Nat → Nat → Int64) (R : Nat → Nat) (T : List ez_C) (a : Int32) (b : Int32) (q34 : Int32) (q35 : Int32) (cz kz : Nat) : ∀ G : ez_F, fx_up X 1 G 1 17 [.ref 0, .int a, .int b] [.int q35] (ev_hp I J R T) cz kz = bif decide (¬ q35 = 0) then G 1 23 [.ref 0, .int a, .int b] [] (ev_hp I J R T) cz kz else G 1 20 [.ref 0, .int a, .int b] [] (ev_hp I J R T) cz kz := by
  intro G
  rfl
set_option maxRecDepth 100000 in
set_option maxHeartbeats 100000 in
theorem eg_answer_r5 (X : ez_X) (I : Nat → Nat → Int32) (J : Nat → Nat → Int64) (R : Nat → Nat) (T : List ez_C) (a : Int32) (b : Int32) (q34 : Int32) (q35 : Int32) (cz kz : Nat) : ∀ G : ez_F, fx_up X 4 G 1 23 [.ref 0, .int a, .int b] [] (ev_hp I J R T) cz kz = ev_C G 126 [.ref 8, .int a] (ev_hp I J R T) fun r h1 c1 k1 => G 1 31 [.ref 0, .int a, .int b] (r.toList ++ []) h1 (cz + c1) (kz + k1) := by
  intro G
  rfl
set_option maxRecDepth 100000 in
set_option maxHeartbeats 100000 in
theorem eg_answer_r6 (X : ez_X) (I : Nat → Nat → Int32) (J : Nat → Nat → Int64) (R : Nat → Nat) (T : List ez_C) (a : Int32) (b : Int32) (q34 : Int32) (q35 : Int32) (q36 : Int32) (cz kz : Nat) : ∀ G : ez_F, fx_up X 6 G 1 31 [.ref 0, .int a, .int b] [.int q36] (ev_hp I J R T) cz kz = ev_C G 125 [.ref 8, .int a, .int b] (ev_hp I J R T) fun r h1 c1 k1 => G 1 41 [.ref 0, .int a, .int b, .int q36] (r.toList ++ []) h1 (cz + c1) (kz + k1) := by
  intro G
  rfl
set_option maxRecDepth 100000 in
set_option maxHeartbeats 100000 in
theorem eg_answer_r7 (X : ez_X) (I : Nat → Nat → Int32) (J : Nat → Nat → Int64) (R : Nat → Nat) (T : List ez_C) (a : Int32) (b : Int32) (q34 : Int32) (q35 : Int32) (q36 : Int32) (cz kz : Nat) : ∀ G : ez_F, fx_up X 2 G 1 41 [.ref 0, .int a, .int b, .int q36] [] (ev_hp I (ev_sJ J 8 (vp_updL (vp_updL (J 8) 2 (((J 8 2) &&& (((3 : Int64) <<< ((((2 : Int32) * a) : Int32).toInt64 &&& 63)) ^^^ ((-1) : Int64))) ||| ((b.toInt64) <<< ((((2 : Int32) * a) : Int32).toInt64 &&& 63)))) 3 (((J 8 3) &&& (((1 : Int64) <<< ((((2 : Int32) * a) : Int32).toInt64 &&& 63)) ^^^ ((-1) : Int64))) ||| ((1 : Int64) <<< ((((2 : Int32) * a) : Int32).toInt64 &&& 63))))) R T) cz kz = ev_C G 2 [.ref 0] (ev_hp I (ev_sJ J 8 (vp_updL (vp_updL (J 8) 2 (((J 8 2) &&& (((3 : Int64) <<< ((((2 : Int32) * a) : Int32).toInt64 &&& 63)) ^^^ ((-1) : Int64))) ||| ((b.toInt64) <<< ((((2 : Int32) * a) : Int32).toInt64 &&& 63)))) 3 (((J 8 3) &&& (((1 : Int64) <<< ((((2 : Int32) * a) : Int32).toInt64 &&& 63)) ^^^ ((-1) : Int64))) ||| ((1 : Int64) <<< ((((2 : Int32) * a) : Int32).toInt64 &&& 63))))) R T) fun r h1 c1 k1 => G 1 45 [.ref 0, .int a, .int b, .int q36] (r.toList ++ []) h1 (cz + c1) (kz + k1) := by
  intro G
  rfl
set_option maxRecDepth 100000 in
set_option maxHeartbeats 100000 in
theorem eg_answer_r8 (X : ez_X) (I : Nat → Nat → Int32) (J : Nat → Nat → Int64) (R : Nat → Nat) (T : List ez_C) (a : Int32) (b : Int32) (q34 : Int32) (q35 : Int32) (q36 : Int32) (cz kz : Nat) : ∀ G : ez_F, fx_up X 2 G 1 45 [.ref 0, .int a, .int b, .int q36] [] (ev_hp (ev_sI (ev_sI I 13 (upd (I 13) 9 0)) 20 (upd (I 20) 3 0)) (ev_sJ J 8 (vp_updL (vp_updL (J 8) 2 (((J 8 2) &&& (((3 : Int64) <<< ((((2 : Int32) * a) : Int32).toInt64 &&& 63)) ^^^ ((-1) : Int64))) ||| ((b.toInt64) <<< ((((2 : Int32) * a) : Int32).toInt64 &&& 63)))) 3 (((J 8 3) &&& (((1 : Int64) <<< ((((2 : Int32) * a) : Int32).toInt64 &&& 63)) ^^^ ((-1) : Int64))) ||| ((1 : Int64) <<< ((((2 : Int32) * a) : Int32).toInt64 &&& 63))))) R T) cz kz = some (some (.int q36), (ev_hp (ev_sI (ev_sI I 13 (upd (I 13) 9 0)) 20 (upd (I 20) 3 0)) (ev_sJ J 8 (vp_updL (vp_updL (J 8) 2 (((J 8 2) &&& (((3 : Int64) <<< ((((2 : Int32) * a) : Int32).toInt64 &&& 63)) ^^^ ((-1) : Int64))) ||| ((b.toInt64) <<< ((((2 : Int32) * a) : Int32).toInt64 &&& 63)))) 3 (((J 8 3) &&& (((1 : Int64) <<< ((((2 : Int32) * a) : Int32).toInt64 &&& 63)) ^^^ ((-1) : Int64))) ||| ((1 : Int64) <<< ((((2 : Int32) * a) : Int32).toInt64 &&& 63))))) R T), cz, kz) := by
  intro G
  rfl
set_option maxRecDepth 100000 in
set_option maxHeartbeats 100000 in
theorem eg_answer_r9 (X : ez_X) (I : Nat → Nat → Int32) (J : Nat → Nat → Int64) (R : Nat → Nat) (T : List ez_C) (a : Int32) (b : Int32) (q34 : Int32) (q35 : Int32) (cz kz : Nat) : ∀ G : ez_F, fx_up X 6 G 1 31 [.ref 0, .int a, .int b] [.int (-1)] (ev_hp I J R T) cz kz = ev_C G 125 [.ref 8, .int a, .int b] (ev_hp I J R T) fun r h1 c1 k1 => G 1 41 [.ref 0, .int a, .int b, .int (-1)] (r.toList ++ []) h1 (cz + c1) (kz + k1) := by
  intro G
  rfl
set_option maxRecDepth 100000 in
set_option maxHeartbeats 100000 in
theorem eg_answer_r10 (X : ez_X) (I : Nat → Nat → Int32) (J : Nat → Nat → Int64) (R : Nat → Nat) (T : List ez_C) (a : Int32) (b : Int32) (q34 : Int32) (q35 : Int32) (cz kz : Nat) : ∀ G : ez_F, fx_up X 2 G 1 41 [.ref 0, .int a, .int b, .int (-1)] [] (ev_hp I (ev_sJ J 8 (vp_updL (vp_updL (J 8) 2 (((J 8 2) &&& (((3 : Int64) <<< ((((2 : Int32) * a) : Int32).toInt64 &&& 63)) ^^^ ((-1) : Int64))) ||| ((b.toInt64) <<< ((((2 : Int32) * a) : Int32).toInt64 &&& 63)))) 3 (((J 8 3) &&& (((1 : Int64) <<< ((((2 : Int32) * a) : Int32).toInt64 &&& 63)) ^^^ ((-1) : Int64))) ||| ((1 : Int64) <<< ((((2 : Int32) * a) : Int32).toInt64 &&& 63))))) R T) cz kz = ev_C G 2 [.ref 0] (ev_hp I (ev_sJ J 8 (vp_updL (vp_updL (J 8) 2 (((J 8 2) &&& (((3 : Int64) <<< ((((2 : Int32) * a) : Int32).toInt64 &&& 63)) ^^^ ((-1) : Int64))) ||| ((b.toInt64) <<< ((((2 : Int32) * a) : Int32).toInt64 &&& 63)))) 3 (((J 8 3) &&& (((1 : Int64) <<< ((((2 : Int32) * a) : Int32).toInt64 &&& 63)) ^^^ ((-1) : Int64))) ||| ((1 : Int64) <<< ((((2 : Int32) * a) : Int32).toInt64 &&& 63))))) R T) fun r h1 c1 k1 => G 1 45 [.ref 0, .int a, .int b, .int (-1)] (r.toList ++ []) h1 (cz + c1) (kz + k1) := by
  intro G
  rfl
set_option maxRecDepth 100000 in
set_option maxHeartbeats 100000 in
theorem eg_answer_r11 (X : ez_X) (I : Nat → Nat → Int32) (J : Nat → Nat → Int64) (R : Nat → Nat) (T : List ez_C) (a : Int32) (b : Int32) (q34 : Int32) (q35 : Int32) (cz kz : Nat) : ∀ G : ez_F, fx_up X 2 G 1 45 [.ref 0, .int a, .int b, .int (-1)] [] (ev_hp (ev_sI (ev_sI I 13 (upd (I 13) 9 0)) 20 (upd (I 20) 3 0)) (ev_sJ J 8 (vp_updL (vp_updL (J 8) 2 (((J 8 2) &&& (((3 : Int64) <<< ((((2 : Int32) * a) : Int32).toInt64 &&& 63)) ^^^ ((-1) : Int64))) ||| ((b.toInt64) <<< ((((2 : Int32) * a) : Int32).toInt64 &&& 63)))) 3 (((J 8 3) &&& (((1 : Int64) <<< ((((2 : Int32) * a) : Int32).toInt64 &&& 63)) ^^^ ((-1) : Int64))) ||| ((1 : Int64) <<< ((((2 : Int32) * a) : Int32).toInt64 &&& 63))))) R T) cz kz = some (some (.int (-1)), (ev_hp (ev_sI (ev_sI I 13 (upd (I 13) 9 0)) 20 (upd (I 20) 3 0)) (ev_sJ J 8 (vp_updL (vp_updL (J 8) 2 (((J 8 2) &&& (((3 : Int64) <<< ((((2 : Int32) * a) : Int32).toInt64 &&& 63)) ^^^ ((-1) : Int64))) ||| ((b.toInt64) <<< ((((2 : Int32) * a) : Int32).toInt64 &&& 63)))) 3 (((J 8 3) &&& (((1 : Int64) <<< ((((2 : Int32) * a) : Int32).toInt64 &&& 63)) ^^^ ((-1) : Int64))) ||| ((1 : Int64) <<< ((((2 : Int32) * a) : Int32).toInt64 &&& 63))))) R T), cz, kz) := by
  intro G
  rfl
set_option maxRecDepth 100000 in
set_option maxHeartbeats 100000 in
theorem eg_answer_r12 (X : ez_X) (I : Nat → Nat → Int32) (J : Nat → Nat → Int64) (R : Nat → Nat) (T : List ez_C) (a : Int32) (b : Int32) (q34 : Int32) (q35 : Int32) (cz kz : Nat) : ∀ G : ez_F, fx_up X 2 G 1 20 [.ref 0, .int a, .int b] [] (ev_hp I J R T) cz kz = some (some (.int (-3)), (ev_hp I J R T), cz, kz) := by
  intro G
  rfl
set_option maxRecDepth 100000 in
set_option maxHeartbeats 100000 in
theorem eg_answer_r13 (X : ez_X) (I : Nat → Nat → Int32) (J : Nat → Nat → Int64) (R : Nat → Nat) (T : List ez_C) (a : Int32) (b : Int32) (q34 : Int32) (cz kz : Nat) : ∀ G : ez_F, fx_up X 2 G 1 8 [.ref 0, .int a, .int b] [] (ev_hp I J R T) cz kz = some (some (.int (-2)), (ev_hp I J R T), cz, kz) := by
  intro G
  rfl
theorem eg_answer (X : ez_X) (I : Nat → Nat → Int32) (J : Nat → Nat → Int64) (R : Nat → Nat) (T : List ez_C) (a : Int32) (b : Int32)  : ev_W X 1 0 (ez_lay [.ref 0, .int a, .int b]) [] (ev_hp I J R T) 0 0 (fun r h1 c1 k1 => ((¬ (((ev_wi a 0 ((I 8 1) - (1 : Int32))))) = 0) ∧ (¬ ((ev_wi b 0 2)) = 0) ∧ ((¬ (lg_cmp ((((J 8 3).toUInt64 >>> ((((2 : Int32) * a) : Int32).toInt64.toUInt64 &&& 63)).toInt64) &&& (1 : Int64)) 0) = 0)) ∧ r = some (.int ((((((J 8 2).toUInt64 >>> ((((2 : Int32) * a) : Int32).toInt64.toUInt64 &&& 63)).toInt64) &&& (3 : Int64)).toInt32))) ∧ h1 = (ev_hp (ev_sI (ev_sI I 13 (upd (I 13) 9 0)) 20 (upd (I 20) 3 0)) (ev_sJ J 8 (vp_updL (vp_updL (J 8) 2 (((J 8 2) &&& (((3 : Int64) <<< ((((2 : Int32) * a) : Int32).toInt64 &&& 63)) ^^^ ((-1) : Int64))) ||| ((b.toInt64) <<< ((((2 : Int32) * a) : Int32).toInt64 &&& 63)))) 3 (((J 8 3) &&& (((1 : Int64) <<< ((((2 : Int32) * a) : Int32).toInt64 &&& 63)) ^^^ ((-1) : Int64))) ||| ((1 : Int64) <<< ((((2 : Int32) * a) : Int32).toInt64 &&& 63))))) R T) ∧ c1 = 0 ∧ k1 = 0) ∨ ((¬ (((ev_wi a 0 ((I 8 1) - (1 : Int32))))) = 0) ∧ (¬ ((ev_wi b 0 2)) = 0) ∧ ((¬ (¬ (lg_cmp ((((J 8 3).toUInt64 >>> ((((2 : Int32) * a) : Int32).toInt64.toUInt64 &&& 63)).toInt64) &&& (1 : Int64)) 0) = 0))) ∧ r = some (.int (-1)) ∧ h1 = (ev_hp (ev_sI (ev_sI I 13 (upd (I 13) 9 0)) 20 (upd (I 20) 3 0)) (ev_sJ J 8 (vp_updL (vp_updL (J 8) 2 (((J 8 2) &&& (((3 : Int64) <<< ((((2 : Int32) * a) : Int32).toInt64 &&& 63)) ^^^ ((-1) : Int64))) ||| ((b.toInt64) <<< ((((2 : Int32) * a) : Int32).toInt64 &&& 63)))) 3 (((J 8 3) &&& (((1 : Int64) <<< ((((2 : Int32) * a) : Int32).toInt64 &&& 63)) ^^^ ((-1) : Int64))) ||| ((1 : Int64) <<< ((((2 : Int32) * a) : Int32).toInt64 &&& 63))))) R T) ∧ c1 = 0 ∧ k1 = 0) ∨ ((¬ (((ev_wi a 0 ((I 8 1) - (1 : Int32))))) = 0) ∧ (¬ (¬ ((ev_wi b 0 2)) = 0)) ∧ r = some (.int (-3)) ∧ h1 = (ev_hp I J R T) ∧ c1 = 0 ∧ k1 = 0) ∨ ((¬ (¬ (((ev_wi a 0 ((I 8 1) - (1 : Int32))))) = 0)) ∧ r = some (.int (-2)) ∧ h1 = (ev_hp I J R T) ∧ c1 = 0 ∧ k1 = 0)) := by
  refine ev_call (eg_answer_r1 X I J R T a b _ _) (eg_isCall X I J R T a) ?_
  rintro r0 _ _ _ (⟨hr0, rfl, rfl, rfl⟩)
  obtain ⟨q34, hq34⟩ : ∃ z : Int32, ((ev_wi a 0 ((I 8 1) - (1 : Int32)))) = z := ⟨_, rfl⟩
  have eq34 : r0 = some (.int q34) := hr0.trans (by subst hq34; rfl)
  subst eq34
  refine ev_if (eg_answer_r2 X I J R T a b q34 _ _) (fun b1 => ?_) (fun b1 => ?_)
  · replace b1 := of_decide_eq_true b1
    refine ev_call (eg_answer_r3 X I J R T a b q34 _ _) (ec_within X (ev_hp I J R T) b 0 2) ?_
    rintro _ _ _ _ ⟨rfl, rfl, rfl, rfl⟩
    generalize hq35 : (ev_wi b 0 2) = q35
    refine ev_if (eg_answer_r4 X I J R T a b q34 q35 _ _) (fun b2 => ?_) (fun b2 => ?_)
    · replace b2 := of_decide_eq_true b2
      refine ev_call (eg_answer_r5 X I J R T a b q34 q35 _ _) (eg_toldAt X I J R T a) ?_
      rintro r0 _ _ _ (⟨d25, hr0, rfl, rfl, rfl⟩ | ⟨d26, rfl, rfl, rfl, rfl⟩)
      · skip
        obtain ⟨q36, hq36⟩ : ∃ z : Int32, (((((J 8 2).toUInt64 >>> ((((2 : Int32) * a) : Int32).toInt64.toUInt64 &&& 63)).toInt64) &&& (3 : Int64)).toInt32) = z := ⟨_, rfl⟩
        have eq36 : r0 = some (.int q36) := hr0.trans (by subst hq36; rfl)
        subst eq36
        refine ev_call (eg_answer_r6 X I J R T a b q34 q35 q36 _ _) (ea_S_Paper_tell_125_8 X I J R T a b) ?_
        rintro r0 _ _ _ (⟨rfl, rfl, rfl, rfl⟩)
        refine ev_call (eg_answer_r7 X I J R T a b q34 q35 q36 _ _) (ea_S_answersChanged_2_0 X I (ev_sJ J 8 (vp_updL (vp_updL (J 8) 2 (((J 8 2) &&& (((3 : Int64) <<< ((((2 : Int32) * a) : Int32).toInt64 &&& 63)) ^^^ ((-1) : Int64))) ||| ((b.toInt64) <<< ((((2 : Int32) * a) : Int32).toInt64 &&& 63)))) 3 (((J 8 3) &&& (((1 : Int64) <<< ((((2 : Int32) * a) : Int32).toInt64 &&& 63)) ^^^ ((-1) : Int64))) ||| ((1 : Int64) <<< ((((2 : Int32) * a) : Int32).toInt64 &&& 63))))) R T) ?_
        rintro r0 _ _ _ (⟨rfl, rfl, rfl, rfl⟩)
        refine ev_ret (eg_answer_r8 X I J R T a b q34 q35 q36 _ _) ?_
        subst hq36
        subst hq35
        subst hq34
        exact Or.inl ⟨b1, b2, d25, rfl, rfl, rfl, rfl⟩
      · skip
        refine ev_call (eg_answer_r9 X I J R T a b q34 q35 _ _) (ea_S_Paper_tell_125_8 X I J R T a b) ?_
        rintro r0 _ _ _ (⟨rfl, rfl, rfl, rfl⟩)
        refine ev_call (eg_answer_r10 X I J R T a b q34 q35 _ _) (ea_S_answersChanged_2_0 X I (ev_sJ J 8 (vp_updL (vp_updL (J 8) 2 (((J 8 2) &&& (((3 : Int64) <<< ((((2 : Int32) * a) : Int32).toInt64 &&& 63)) ^^^ ((-1) : Int64))) ||| ((b.toInt64) <<< ((((2 : Int32) * a) : Int32).toInt64 &&& 63)))) 3 (((J 8 3) &&& (((1 : Int64) <<< ((((2 : Int32) * a) : Int32).toInt64 &&& 63)) ^^^ ((-1) : Int64))) ||| ((1 : Int64) <<< ((((2 : Int32) * a) : Int32).toInt64 &&& 63))))) R T) ?_
        rintro r0 _ _ _ (⟨rfl, rfl, rfl, rfl⟩)
        refine ev_ret (eg_answer_r11 X I J R T a b q34 q35 _ _) ?_
        subst hq35
        subst hq34
        exact Or.inr (Or.inl ⟨b1, b2, d26, rfl, rfl, rfl, rfl⟩)
    · replace b2 := of_decide_eq_false b2
      refine ev_ret (eg_answer_r12 X I J R T a b q34 q35 _ _) ?_
      subst hq35
      subst hq34
      exact Or.inr (Or.inr (Or.inl ⟨b1, b2, rfl, rfl, rfl, rfl⟩))
  · replace b1 := of_decide_eq_false b1
    refine ev_ret (eg_answer_r13 X I J R T a b q34 _ _) ?_
    subst hq34
    exact Or.inr (Or.inr (Or.inr (⟨b1, rfl, rfl, rfl, rfl⟩)))
set_option maxRecDepth 100000 in
set_option maxHeartbeats 100000 in
theorem eg_lose_r1 (X : ez_X) (I : Nat → Nat → Int32) (J : Nat → Nat → Int64) (R : Nat → Nat) (T : List ez_C) (a : Int32) (cz kz : Nat) : ∀ G : ez_F, fx_up X 3 G 32 0 [.ref 0, .int a] [] (ev_hp I J R T) cz kz = ev_C G 21 [.ref 0, .int a] (ev_hp I J R T) fun r h1 c1 k1 => G 32 5 [.ref 0, .int a] (r.toList ++ []) h1 (cz + c1) (kz + k1) := by
  intro G
  rfl
set_option maxRecDepth 100000 in
set_option maxHeartbeats 100000 in
theorem eg_lose_r2 (X : ez_X) (I : Nat → Nat → Int32) (J : Nat → Nat → Int64) (R : Nat → Nat) (T : List ez_C) (a : Int32) (q37 : Int32) (cz kz : Nat) : ∀ G : ez_F, fx_up X 1 G 32 5 [.ref 0, .int a] [.int q37] (ev_hp I J R T) cz kz = bif decide (¬ q37 = 0) then G 32 11 [.ref 0, .int a] [] (ev_hp I J R T) cz kz else G 32 8 [.ref 0, .int a] [] (ev_hp I J R T) cz kz := by
  intro G
  rfl
set_option maxRecDepth 100000 in
set_option maxHeartbeats 100000 in
theorem eg_lose_r3 (X : ez_X) (I : Nat → Nat → Int32) (J : Nat → Nat → Int64) (R : Nat → Nat) (T : List ez_C) (a : Int32) (q37 : Int32) (cz kz : Nat) : ∀ G : ez_F, fx_up X 4 G 32 11 [.ref 0, .int a] [] (ev_hp I J R T) cz kz = ev_C G 126 [.ref 8, .int a] (ev_hp I J R T) fun r h1 c1 k1 => G 32 19 [.ref 0, .int a] (r.toList ++ []) h1 (cz + c1) (kz + k1) := by
  intro G
  rfl
set_option maxRecDepth 100000 in
set_option maxHeartbeats 100000 in
theorem eg_lose_r4 (X : ez_X) (I : Nat → Nat → Int32) (J : Nat → Nat → Int64) (R : Nat → Nat) (T : List ez_C) (a : Int32) (q37 : Int32) (q38 : Int32) (cz kz : Nat) : ∀ G : ez_F, fx_up X 2 G 32 19 [.ref 0, .int a] [.int q38] (ev_hp I J R T) cz kz = bif decide (¬ q38 = (-1)) then G 32 26 [.ref 0, .int a] [] (ev_hp I J R T) cz kz else G 32 23 [.ref 0, .int a] [] (ev_hp I J R T) cz kz := by
  intro G
  rfl
set_option maxRecDepth 100000 in
set_option maxHeartbeats 100000 in
theorem eg_lose_r5 (X : ez_X) (I : Nat → Nat → Int32) (J : Nat → Nat → Int64) (R : Nat → Nat) (T : List ez_C) (a : Int32) (q37 : Int32) (q38 : Int32) (cz kz : Nat) : ∀ G : ez_F, fx_up X 4 G 32 26 [.ref 0, .int a] [] (ev_hp I J R T) cz kz = ev_C G 127 [.ref 8, .int a] (ev_hp I J R T) fun r h1 c1 k1 => G 32 34 [.ref 0, .int a] (r.toList ++ []) h1 (cz + c1) (kz + k1) := by
  intro G
  rfl
set_option maxRecDepth 100000 in
set_option maxHeartbeats 100000 in
theorem eg_lose_r6 (X : ez_X) (I : Nat → Nat → Int32) (J : Nat → Nat → Int64) (R : Nat → Nat) (T : List ez_C) (a : Int32) (q37 : Int32) (q38 : Int32) (cz kz : Nat) : ∀ G : ez_F, fx_up X 2 G 32 34 [.ref 0, .int a] [] (ev_hp I (ev_sJ J 8 (vp_updL (vp_updL (J 8) 2 ((J 8 2) &&& (((3 : Int64) <<< ((((2 : Int32) * a) : Int32).toInt64 &&& 63)) ^^^ ((-1) : Int64)))) 3 ((J 8 3) &&& (((1 : Int64) <<< ((((2 : Int32) * a) : Int32).toInt64 &&& 63)) ^^^ ((-1) : Int64))))) R T) cz kz = ev_C G 2 [.ref 0] (ev_hp I (ev_sJ J 8 (vp_updL (vp_updL (J 8) 2 ((J 8 2) &&& (((3 : Int64) <<< ((((2 : Int32) * a) : Int32).toInt64 &&& 63)) ^^^ ((-1) : Int64)))) 3 ((J 8 3) &&& (((1 : Int64) <<< ((((2 : Int32) * a) : Int32).toInt64 &&& 63)) ^^^ ((-1) : Int64))))) R T) fun r h1 c1 k1 => G 32 38 [.ref 0, .int a] (r.toList ++ []) h1 (cz + c1) (kz + k1) := by
  intro G
  rfl
set_option maxRecDepth 100000 in
set_option maxHeartbeats 100000 in
theorem eg_lose_r7 (X : ez_X) (I : Nat → Nat → Int32) (J : Nat → Nat → Int64) (R : Nat → Nat) (T : List ez_C) (a : Int32) (q37 : Int32) (q38 : Int32) (cz kz : Nat) : ∀ G : ez_F, fx_up X 2 G 32 38 [.ref 0, .int a] [] (ev_hp (ev_sI (ev_sI I 13 (upd (I 13) 9 0)) 20 (upd (I 20) 3 0)) (ev_sJ J 8 (vp_updL (vp_updL (J 8) 2 ((J 8 2) &&& (((3 : Int64) <<< ((((2 : Int32) * a) : Int32).toInt64 &&& 63)) ^^^ ((-1) : Int64)))) 3 ((J 8 3) &&& (((1 : Int64) <<< ((((2 : Int32) * a) : Int32).toInt64 &&& 63)) ^^^ ((-1) : Int64))))) R T) cz kz = some (some (.int 1), (ev_hp (ev_sI (ev_sI I 13 (upd (I 13) 9 0)) 20 (upd (I 20) 3 0)) (ev_sJ J 8 (vp_updL (vp_updL (J 8) 2 ((J 8 2) &&& (((3 : Int64) <<< ((((2 : Int32) * a) : Int32).toInt64 &&& 63)) ^^^ ((-1) : Int64)))) 3 ((J 8 3) &&& (((1 : Int64) <<< ((((2 : Int32) * a) : Int32).toInt64 &&& 63)) ^^^ ((-1) : Int64))))) R T), cz, kz) := by
  intro G
  rfl
set_option maxRecDepth 100000 in
set_option maxHeartbeats 100000 in
theorem eg_lose_r8 (X : ez_X) (I : Nat → Nat → Int32) (J : Nat → Nat → Int64) (R : Nat → Nat) (T : List ez_C) (a : Int32) (q37 : Int32) (q38 : Int32) (cz kz : Nat) : ∀ G : ez_F, fx_up X 2 G 32 23 [.ref 0, .int a] [] (ev_hp I J R T) cz kz = some (some (.int (-4)), (ev_hp I J R T), cz, kz) := by
  intro G
  rfl
set_option maxRecDepth 100000 in
set_option maxHeartbeats 100000 in
theorem eg_lose_r9 (X : ez_X) (I : Nat → Nat → Int32) (J : Nat → Nat → Int64) (R : Nat → Nat) (T : List ez_C) (a : Int32) (q37 : Int32) (cz kz : Nat) : ∀ G : ez_F, fx_up X 4 G 32 19 [.ref 0, .int a] [.int (-1)] (ev_hp I J R T) cz kz = some (some (.int (-4)), (ev_hp I J R T), cz, kz) := by
  intro G
  rfl
set_option maxRecDepth 100000 in
set_option maxHeartbeats 100000 in
theorem eg_lose_r10 (X : ez_X) (I : Nat → Nat → Int32) (J : Nat → Nat → Int64) (R : Nat → Nat) (T : List ez_C) (a : Int32) (q37 : Int32) (cz kz : Nat) : ∀ G : ez_F, fx_up X 2 G 32 8 [.ref 0, .int a] [] (ev_hp I J R T) cz kz = some (some (.int (-2)), (ev_hp I J R T), cz, kz) := by
  intro G
  rfl
theorem eg_lose (X : ez_X) (I : Nat → Nat → Int32) (J : Nat → Nat → Int64) (R : Nat → Nat) (T : List ez_C) (a : Int32)  : ev_W X 32 0 (ez_lay [.ref 0, .int a]) [] (ev_hp I J R T) 0 0 (fun r h1 c1 k1 => ((¬ (((ev_wi a 0 ((I 8 1) - (1 : Int32))))) = 0) ∧ ((¬ (lg_cmp ((((J 8 3).toUInt64 >>> ((((2 : Int32) * a) : Int32).toInt64.toUInt64 &&& 63)).toInt64) &&& (1 : Int64)) 0) = 0)) ∧ (¬ ((((((J 8 2).toUInt64 >>> ((((2 : Int32) * a) : Int32).toInt64.toUInt64 &&& 63)).toInt64) &&& (3 : Int64)).toInt32)) = (-1)) ∧ r = some (.int 1) ∧ h1 = (ev_hp (ev_sI (ev_sI I 13 (upd (I 13) 9 0)) 20 (upd (I 20) 3 0)) (ev_sJ J 8 (vp_updL (vp_updL (J 8) 2 ((J 8 2) &&& (((3 : Int64) <<< ((((2 : Int32) * a) : Int32).toInt64 &&& 63)) ^^^ ((-1) : Int64)))) 3 ((J 8 3) &&& (((1 : Int64) <<< ((((2 : Int32) * a) : Int32).toInt64 &&& 63)) ^^^ ((-1) : Int64))))) R T) ∧ c1 = 0 ∧ k1 = 0) ∨ ((¬ (((ev_wi a 0 ((I 8 1) - (1 : Int32))))) = 0) ∧ ((¬ (lg_cmp ((((J 8 3).toUInt64 >>> ((((2 : Int32) * a) : Int32).toInt64.toUInt64 &&& 63)).toInt64) &&& (1 : Int64)) 0) = 0)) ∧ (¬ (¬ ((((((J 8 2).toUInt64 >>> ((((2 : Int32) * a) : Int32).toInt64.toUInt64 &&& 63)).toInt64) &&& (3 : Int64)).toInt32)) = (-1))) ∧ r = some (.int (-4)) ∧ h1 = (ev_hp I J R T) ∧ c1 = 0 ∧ k1 = 0) ∨ ((¬ (((ev_wi a 0 ((I 8 1) - (1 : Int32))))) = 0) ∧ ((¬ (¬ (lg_cmp ((((J 8 3).toUInt64 >>> ((((2 : Int32) * a) : Int32).toInt64.toUInt64 &&& 63)).toInt64) &&& (1 : Int64)) 0) = 0))) ∧ r = some (.int (-4)) ∧ h1 = (ev_hp I J R T) ∧ c1 = 0 ∧ k1 = 0) ∨ ((¬ (¬ (((ev_wi a 0 ((I 8 1) - (1 : Int32))))) = 0)) ∧ r = some (.int (-2)) ∧ h1 = (ev_hp I J R T) ∧ c1 = 0 ∧ k1 = 0)) := by
  refine ev_call (eg_lose_r1 X I J R T a _ _) (eg_isCall X I J R T a) ?_
  rintro r0 _ _ _ (⟨hr0, rfl, rfl, rfl⟩)
  obtain ⟨q37, hq37⟩ : ∃ z : Int32, ((ev_wi a 0 ((I 8 1) - (1 : Int32)))) = z := ⟨_, rfl⟩
  have eq37 : r0 = some (.int q37) := hr0.trans (by subst hq37; rfl)
  subst eq37
  refine ev_if (eg_lose_r2 X I J R T a q37 _ _) (fun b1 => ?_) (fun b1 => ?_)
  · replace b1 := of_decide_eq_true b1
    refine ev_call (eg_lose_r3 X I J R T a q37 _ _) (eg_toldAt X I J R T a) ?_
    rintro r0 _ _ _ (⟨d27, hr0, rfl, rfl, rfl⟩ | ⟨d28, rfl, rfl, rfl, rfl⟩)
    · skip
      obtain ⟨q38, hq38⟩ : ∃ z : Int32, (((((J 8 2).toUInt64 >>> ((((2 : Int32) * a) : Int32).toInt64.toUInt64 &&& 63)).toInt64) &&& (3 : Int64)).toInt32) = z := ⟨_, rfl⟩
      have eq38 : r0 = some (.int q38) := hr0.trans (by subst hq38; rfl)
      subst eq38
      refine ev_if (eg_lose_r4 X I J R T a q37 q38 _ _) (fun b2 => ?_) (fun b2 => ?_)
      · replace b2 := of_decide_eq_true b2
        refine ev_call (eg_lose_r5 X I J R T a q37 q38 _ _) (ea_S_Paper_untell_127_8 X I J R T a) ?_
        rintro r0 _ _ _ (⟨rfl, rfl, rfl, rfl⟩)
        refine ev_call (eg_lose_r6 X I J R T a q37 q38 _ _) (ea_S_answersChanged_2_0 X I (ev_sJ J 8 (vp_updL (vp_updL (J 8) 2 ((J 8 2) &&& (((3 : Int64) <<< ((((2 : Int32) * a) : Int32).toInt64 &&& 63)) ^^^ ((-1) : Int64)))) 3 ((J 8 3) &&& (((1 : Int64) <<< ((((2 : Int32) * a) : Int32).toInt64 &&& 63)) ^^^ ((-1) : Int64))))) R T) ?_
        rintro r0 _ _ _ (⟨rfl, rfl, rfl, rfl⟩)
        refine ev_ret (eg_lose_r7 X I J R T a q37 q38 _ _) ?_
        subst hq38
        subst hq37
        exact Or.inl ⟨b1, d27, b2, rfl, rfl, rfl, rfl⟩
      · replace b2 := of_decide_eq_false b2
        refine ev_ret (eg_lose_r8 X I J R T a q37 q38 _ _) ?_
        subst hq38
        subst hq37
        exact Or.inr (Or.inl ⟨b1, d27, b2, rfl, rfl, rfl, rfl⟩)
    · skip
      refine ev_ret (eg_lose_r9 X I J R T a q37 _ _) ?_
      subst hq37
      exact Or.inr (Or.inr (Or.inl ⟨b1, d28, rfl, rfl, rfl, rfl⟩))
  · replace b1 := of_decide_eq_false b1
    refine ev_ret (eg_lose_r10 X I J R T a q37 _ _) ?_
    subst hq37
    exact Or.inr (Or.inr (Or.inr (⟨b1, rfl, rfl, rfl, rfl⟩)))
set_option maxRecDepth 100000 in
set_option maxHeartbeats 100000 in
theorem eg_back_r1 (X : ez_X) (I : Nat → Nat → Int32) (J : Nat → Nat → Int64) (R : Nat → Nat) (T : List ez_C) (cz kz : Nat) : ∀ G : ez_F, fx_up X 5 G 5 0 [.ref 0] [] (ev_hp I J R T) cz kz = bif decide (1 ≤ (I 8 1)) then G 5 14 [.ref 0] [] (ev_hp I J R T) cz kz else G 5 11 [.ref 0] [] (ev_hp I J R T) cz kz := by
  intro G
  rfl
set_option maxRecDepth 100000 in
set_option maxHeartbeats 100000 in
theorem eg_back_r2 (X : ez_X) (I : Nat → Nat → Int32) (J : Nat → Nat → Int64) (R : Nat → Nat) (T : List ez_C) (cz kz : Nat) : ∀ G : ez_F, fx_up X 3 G 5 14 [.ref 0] [] (ev_hp I J R T) cz kz = ev_C G 123 [.ref 8] (ev_hp I J R T) fun r h1 c1 k1 => G 5 21 [.ref 0] (r.toList ++ []) h1 (cz + c1) (kz + k1) := by
  intro G
  rfl
set_option maxRecDepth 100000 in
set_option maxHeartbeats 100000 in
theorem eg_back_r3 (X : ez_X) (I : Nat → Nat → Int32) (J : Nat → Nat → Int64) (R : Nat → Nat) (T : List ez_C) (cz kz : Nat) : ∀ G : ez_F, fx_up X 2 G 5 21 [.ref 0] [] (ev_hp I J R T) cz kz = ev_C G 12 [.ref 0] (ev_hp I J R T) fun r h1 c1 k1 => G 5 25 [.ref 0] (r.toList ++ []) h1 (cz + c1) (kz + k1) := by
  intro G
  rfl
set_option maxRecDepth 100000 in
set_option maxHeartbeats 100000 in
theorem eg_back_r4 (X : ez_X) (I : Nat → Nat → Int32) (J : Nat → Nat → Int64) (R : Nat → Nat) (T : List ez_C) (cz kz : Nat) : ∀ G : ez_F, fx_up X 4 G 5 25 [.ref 0] [] (ev_hp (ev_sI (ev_sI I 13 (upd (upd (I 13) 8 0) 9 0)) 20 (upd (I 20) 3 0)) J R T) cz kz = some (some (.int (I 8 1)), (ev_hp (ev_sI (ev_sI I 13 (upd (upd (I 13) 8 0) 9 0)) 20 (upd (I 20) 3 0)) J R T), cz, kz) := by
  intro G
  rfl
set_option maxRecDepth 100000 in
set_option maxHeartbeats 100000 in
theorem eg_back_r5 (X : ez_X) (I : Nat → Nat → Int32) (J : Nat → Nat → Int64) (R : Nat → Nat) (T : List ez_C) (cz kz : Nat) : ∀ G : ez_F, fx_up X 2 G 5 21 [.ref 0] [] (ev_hp (ev_sI I 8 (upd (I 8) 1 ((I 8 1) - (1 : Int32)))) (ev_sJ J 8 (vp_updL (vp_updL (J 8) 2 ((J 8 2) &&& (((3 : Int64) <<< ((((2 : Int32) * ((I 8 1) - (1 : Int32))) : Int32).toInt64 &&& 63)) ^^^ ((-1) : Int64)))) 3 ((J 8 3) &&& (((1 : Int64) <<< ((((2 : Int32) * ((I 8 1) - (1 : Int32))) : Int32).toInt64 &&& 63)) ^^^ ((-1) : Int64))))) R T) cz kz = ev_C G 12 [.ref 0] (ev_hp (ev_sI I 8 (upd (I 8) 1 ((I 8 1) - (1 : Int32)))) (ev_sJ J 8 (vp_updL (vp_updL (J 8) 2 ((J 8 2) &&& (((3 : Int64) <<< ((((2 : Int32) * ((I 8 1) - (1 : Int32))) : Int32).toInt64 &&& 63)) ^^^ ((-1) : Int64)))) 3 ((J 8 3) &&& (((1 : Int64) <<< ((((2 : Int32) * ((I 8 1) - (1 : Int32))) : Int32).toInt64 &&& 63)) ^^^ ((-1) : Int64))))) R T) fun r h1 c1 k1 => G 5 25 [.ref 0] (r.toList ++ []) h1 (cz + c1) (kz + k1) := by
  intro G
  rfl
set_option maxRecDepth 100000 in
set_option maxHeartbeats 100000 in
theorem eg_back_r6 (X : ez_X) (I : Nat → Nat → Int32) (J : Nat → Nat → Int64) (R : Nat → Nat) (T : List ez_C) (cz kz : Nat) : ∀ G : ez_F, fx_up X 4 G 5 25 [.ref 0] [] (ev_hp (ev_sI (ev_sI (ev_sI I 8 (upd (I 8) 1 ((I 8 1) - (1 : Int32)))) 13 (upd (upd (I 13) 8 0) 9 0)) 20 (upd (I 20) 3 0)) (ev_sJ J 8 (vp_updL (vp_updL (J 8) 2 ((J 8 2) &&& (((3 : Int64) <<< ((((2 : Int32) * ((I 8 1) - (1 : Int32))) : Int32).toInt64 &&& 63)) ^^^ ((-1) : Int64)))) 3 ((J 8 3) &&& (((1 : Int64) <<< ((((2 : Int32) * ((I 8 1) - (1 : Int32))) : Int32).toInt64 &&& 63)) ^^^ ((-1) : Int64))))) R T) cz kz = some (some (.int ((I 8 1) - (1 : Int32))), (ev_hp (ev_sI (ev_sI (ev_sI I 8 (upd (I 8) 1 ((I 8 1) - (1 : Int32)))) 13 (upd (upd (I 13) 8 0) 9 0)) 20 (upd (I 20) 3 0)) (ev_sJ J 8 (vp_updL (vp_updL (J 8) 2 ((J 8 2) &&& (((3 : Int64) <<< ((((2 : Int32) * ((I 8 1) - (1 : Int32))) : Int32).toInt64 &&& 63)) ^^^ ((-1) : Int64)))) 3 ((J 8 3) &&& (((1 : Int64) <<< ((((2 : Int32) * ((I 8 1) - (1 : Int32))) : Int32).toInt64 &&& 63)) ^^^ ((-1) : Int64))))) R T), cz, kz) := by
  intro G
  rfl
set_option maxRecDepth 100000 in
set_option maxHeartbeats 100000 in
theorem eg_back_r7 (X : ez_X) (I : Nat → Nat → Int32) (J : Nat → Nat → Int64) (R : Nat → Nat) (T : List ez_C) (cz kz : Nat) : ∀ G : ez_F, fx_up X 2 G 5 11 [.ref 0] [] (ev_hp I J R T) cz kz = some (some (.int (-4)), (ev_hp I J R T), cz, kz) := by
  intro G
  rfl
theorem eg_back (X : ez_X) (I : Nat → Nat → Int32) (J : Nat → Nat → Int64) (R : Nat → Nat) (T : List ez_C)  : ev_W X 5 0 (ez_lay [.ref 0]) [] (ev_hp I J R T) 0 0 (fun r h1 c1 k1 => ((1 ≤ (I 8 1)) ∧ (((I 8 1) ≤ 0)) ∧ r = some (.int (I 8 1)) ∧ h1 = (ev_hp (ev_sI (ev_sI I 13 (upd (upd (I 13) 8 0) 9 0)) 20 (upd (I 20) 3 0)) J R T) ∧ c1 = 0 ∧ k1 = 0) ∨ ((1 ≤ (I 8 1)) ∧ ((¬ ((I 8 1) ≤ 0))) ∧ r = some (.int ((I 8 1) - (1 : Int32))) ∧ h1 = (ev_hp (ev_sI (ev_sI (ev_sI I 8 (upd (I 8) 1 ((I 8 1) - (1 : Int32)))) 13 (upd (upd (I 13) 8 0) 9 0)) 20 (upd (I 20) 3 0)) (ev_sJ J 8 (vp_updL (vp_updL (J 8) 2 ((J 8 2) &&& (((3 : Int64) <<< ((((2 : Int32) * ((I 8 1) - (1 : Int32))) : Int32).toInt64 &&& 63)) ^^^ ((-1) : Int64)))) 3 ((J 8 3) &&& (((1 : Int64) <<< ((((2 : Int32) * ((I 8 1) - (1 : Int32))) : Int32).toInt64 &&& 63)) ^^^ ((-1) : Int64))))) R T) ∧ c1 = 0 ∧ k1 = 0) ∨ ((¬ (1 ≤ (I 8 1))) ∧ r = some (.int (-4)) ∧ h1 = (ev_hp I J R T) ∧ c1 = 0 ∧ k1 = 0)) := by
  refine ev_if (eg_back_r1 X I J R T _ _) (fun b1 => ?_) (fun b1 => ?_)
  · replace b1 := of_decide_eq_true b1
    refine ev_call (eg_back_r2 X I J R T _ _) (ea_S_Paper_dropLast_123_8 X I J R T) ?_
    rintro r0 _ _ _ (⟨d29, rfl, rfl, rfl, rfl⟩ | ⟨d30, rfl, rfl, rfl, rfl⟩)
    · skip
      refine ev_call (eg_back_r3 X I J R T _ _) (ea_S_callsChanged_12_0 X I J R T) ?_
      rintro r0 _ _ _ (⟨rfl, rfl, rfl, rfl⟩)
      refine ev_ret (eg_back_r4 X I J R T _ _) ?_
      exact Or.inl ⟨b1, d29, rfl, rfl, rfl, rfl⟩
    · skip
      refine ev_call (eg_back_r5 X I J R T _ _) (ea_S_callsChanged_12_0 X (ev_sI I 8 (upd (I 8) 1 ((I 8 1) - (1 : Int32)))) (ev_sJ J 8 (vp_updL (vp_updL (J 8) 2 ((J 8 2) &&& (((3 : Int64) <<< ((((2 : Int32) * ((I 8 1) - (1 : Int32))) : Int32).toInt64 &&& 63)) ^^^ ((-1) : Int64)))) 3 ((J 8 3) &&& (((1 : Int64) <<< ((((2 : Int32) * ((I 8 1) - (1 : Int32))) : Int32).toInt64 &&& 63)) ^^^ ((-1) : Int64))))) R T) ?_
      rintro r0 _ _ _ (⟨rfl, rfl, rfl, rfl⟩)
      refine ev_ret (eg_back_r6 X I J R T _ _) ?_
      exact Or.inr (Or.inl ⟨b1, d30, rfl, rfl, rfl, rfl⟩)
  · replace b1 := of_decide_eq_false b1
    refine ev_ret (eg_back_r7 X I J R T _ _) ?_
    exact Or.inr (Or.inr (⟨b1, rfl, rfl, rfl, rfl⟩))
set_option maxRecDepth 100000 in
set_option maxHeartbeats 100000 in
theorem eg_count_r1 (X : ez_X) (I : Nat → Nat → Int32) (J : Nat → Nat → Int64) (R : Nat → Nat) (T : List ez_C) (a : Int32) (b : Int32) (cz kz : Nat) : ∀ G : ez_F, fx_up X 3 G 14 0 [.ref 0, .int a, .int b] [] (ev_hp I J R T) cz kz = ev_C G 24 [.ref 0, .int a] (ev_hp I J R T) fun r h1 c1 k1 => G 14 5 [.ref 0, .int a, .int b] (r.toList ++ []) h1 (cz + c1) (kz + k1) := by
  intro G
  rfl
set_option maxRecDepth 100000 in
set_option maxHeartbeats 100000 in
theorem eg_count_r2 (X : ez_X) (I : Nat → Nat → Int32) (J : Nat → Nat → Int64) (R : Nat → Nat) (T : List ez_C) (a : Int32) (b : Int32) (q39 : Int32) (cz kz : Nat) : ∀ G : ez_F, fx_up X 1 G 14 5 [.ref 0, .int a, .int b] [.int q39] (ev_hp I J R T) cz kz = bif decide (¬ q39 = 0) then G 14 11 [.ref 0, .int a, .int b] [] (ev_hp I J R T) cz kz else G 14 8 [.ref 0, .int a, .int b] [] (ev_hp I J R T) cz kz := by
  intro G
  rfl
set_option maxRecDepth 100000 in
set_option maxHeartbeats 100000 in
theorem eg_count_r3 (X : ez_X) (I : Nat → Nat → Int32) (J : Nat → Nat → Int64) (R : Nat → Nat) (T : List ez_C) (a : Int32) (b : Int32) (q39 : Int32) (cz kz : Nat) : ∀ G : ez_F, fx_up X 4 G 14 11 [.ref 0, .int a, .int b] [] (ev_hp I J R T) cz kz = ev_C G 55 [.int b, .int 0, .int 7] (ev_hp I J R T) fun r h1 c1 k1 => G 14 18 [.ref 0, .int a, .int b] (r.toList ++ []) h1 (cz + c1) (kz + k1) := by
  intro G
  rfl
set_option maxRecDepth 100000 in
set_option maxHeartbeats 100000 in
theorem eg_count_r4 (X : ez_X) (I : Nat → Nat → Int32) (J : Nat → Nat → Int64) (R : Nat → Nat) (T : List ez_C) (a : Int32) (b : Int32) (q39 : Int32) (q40 : Int32) (cz kz : Nat) : ∀ G : ez_F, fx_up X 1 G 14 18 [.ref 0, .int a, .int b] [.int q40] (ev_hp I J R T) cz kz = bif decide (q40 = 0) then G 14 43 [.ref 0, .int a, .int b] [] (ev_hp I J R T) cz kz else G 14 21 [.ref 0, .int a, .int b] [] (ev_hp I J R T) cz kz := by
  intro G
  rfl
set_option maxRecDepth 100000 in
set_option maxHeartbeats 100000 in
theorem eg_count_r5 (X : ez_X) (I : Nat → Nat → Int32) (J : Nat → Nat → Int64) (R : Nat → Nat) (T : List ez_C) (a : Int32) (b : Int32) (q39 : Int32) (q40 : Int32) (cz kz : Nat) : ∀ G : ez_F, fx_up X 2 G 14 43 [.ref 0, .int a, .int b] [] (ev_hp I J R T) cz kz = some (some (.int (-3)), (ev_hp I J R T), cz, kz) := by
  intro G
  rfl
set_option maxRecDepth 100000 in
set_option maxHeartbeats 100000 in
theorem eg_count_r6 (X : ez_X) (I : Nat → Nat → Int32) (J : Nat → Nat → Int64) (R : Nat → Nat) (T : List ez_C) (a : Int32) (b : Int32) (q39 : Int32) (q40 : Int32) (cz kz : Nat) : ∀ G : ez_F, fx_up X 6 G 14 21 [.ref 0, .int a, .int b] [] (ev_hp I J R T) cz kz = bif decide (¬ b = 7) then G 14 36 [.ref 0, .int a, .int b] [.int a, .ref 32] (ev_hp I J R T) cz kz else G 14 32 [.ref 0, .int a, .int b] [.int a, .ref 32] (ev_hp I J R T) cz kz := by
  intro G
  rfl
set_option maxRecDepth 100000 in
set_option maxHeartbeats 100000 in
theorem eg_count_r7 (X : ez_X) (I : Nat → Nat → Int32) (J : Nat → Nat → Int64) (R : Nat → Nat) (T : List ez_C) (a : Int32) (b : Int32) (q39 : Int32) (q40 : Int32) (cz kz : Nat) : ∀ G : ez_F, fx_up X 2 G 14 36 [.ref 0, .int a, .int b] [.int a, .ref 32] (ev_hp I J R T) cz kz = ev_C G 81 [.ref 32, .int a, .int b] (ev_hp I J R T) fun r h1 c1 k1 => G 14 40 [.ref 0, .int a, .int b] (r.toList ++ []) h1 (cz + c1) (kz + k1) := by
  intro G
  rfl
set_option maxRecDepth 100000 in
set_option maxHeartbeats 100000 in
theorem eg_count_r8 (X : ez_X) (I : Nat → Nat → Int32) (J : Nat → Nat → Int64) (R : Nat → Nat) (T : List ez_C) (a : Int32) (b : Int32) (q39 : Int32) (q40 : Int32) (q42 : Int32) (cz kz : Nat) : ∀ G : ez_F, fx_up X 2 G 14 40 [.ref 0, .int a, .int b] [.int q42] (ev_hp (ev_sI I 33 (ev_put 12 (I 33) a b)) J R T) cz kz = some (some (.int q42), (ev_hp (ev_sI I 33 (ev_put 12 (I 33) a b)) J R T), cz, kz) := by
  intro G
  rfl
set_option maxRecDepth 100000 in
set_option maxHeartbeats 100000 in
theorem eg_count_r9 (X : ez_X) (I : Nat → Nat → Int32) (J : Nat → Nat → Int64) (R : Nat → Nat) (T : List ez_C) (a : Int32) (b : Int32) (q39 : Int32) (q40 : Int32) (cz kz : Nat) : ∀ G : ez_F, fx_up X 3 G 14 32 [.ref 0, .int a, .int b] [.int a, .ref 32] (ev_hp I J R T) cz kz = ev_C G 81 [.ref 32, .int a, .int (-1)] (ev_hp I J R T) fun r h1 c1 k1 => G 14 40 [.ref 0, .int a, .int b] (r.toList ++ []) h1 (cz + c1) (kz + k1) := by
  intro G
  rfl
set_option maxRecDepth 100000 in
set_option maxHeartbeats 100000 in
theorem eg_count_r10 (X : ez_X) (I : Nat → Nat → Int32) (J : Nat → Nat → Int64) (R : Nat → Nat) (T : List ez_C) (a : Int32) (b : Int32) (q39 : Int32) (q40 : Int32) (q43 : Int32) (cz kz : Nat) : ∀ G : ez_F, fx_up X 2 G 14 40 [.ref 0, .int a, .int b] [.int q43] (ev_hp (ev_sI I 33 (ev_put 12 (I 33) a ((-1) : Int32))) J R T) cz kz = some (some (.int q43), (ev_hp (ev_sI I 33 (ev_put 12 (I 33) a ((-1) : Int32))) J R T), cz, kz) := by
  intro G
  rfl
set_option maxRecDepth 100000 in
set_option maxHeartbeats 100000 in
theorem eg_count_r11 (X : ez_X) (I : Nat → Nat → Int32) (J : Nat → Nat → Int64) (R : Nat → Nat) (T : List ez_C) (a : Int32) (b : Int32) (q39 : Int32) (cz kz : Nat) : ∀ G : ez_F, fx_up X 2 G 14 8 [.ref 0, .int a, .int b] [] (ev_hp I J R T) cz kz = some (some (.int (-2)), (ev_hp I J R T), cz, kz) := by
  intro G
  rfl
theorem eg_count (X : ez_X) (I : Nat → Nat → Int32) (J : Nat → Nat → Int64) (R : Nat → Nat) (T : List ez_C) (a : Int32) (b : Int32)  : ev_W X 14 0 (ez_lay [.ref 0, .int a, .int b]) [] (ev_hp I J R T) 0 0 (fun r h1 c1 k1 => ((¬ (((ev_wi a 0 ((((I 1 4) + (I 1 3))) - (1 : Int32))))) = 0) ∧ (((ev_wi b 0 7)) = 0) ∧ r = some (.int (-3)) ∧ h1 = (ev_hp I J R T) ∧ c1 = 0 ∧ k1 = 0) ∨ ((¬ (((ev_wi a 0 ((((I 1 4) + (I 1 3))) - (1 : Int32))))) = 0) ∧ (¬ (((ev_wi b 0 7)) = 0)) ∧ (¬ b = 7) ∧ r = some (.int ((ev_at 12 (I 33) a))) ∧ h1 = (ev_hp (ev_sI I 33 (ev_put 12 (I 33) a b)) J R T) ∧ c1 = 0 ∧ k1 = 0) ∨ ((¬ (((ev_wi a 0 ((((I 1 4) + (I 1 3))) - (1 : Int32))))) = 0) ∧ (¬ (((ev_wi b 0 7)) = 0)) ∧ (¬ (¬ b = 7)) ∧ r = some (.int ((ev_at 12 (I 33) a))) ∧ h1 = (ev_hp (ev_sI I 33 (ev_put 12 (I 33) a ((-1) : Int32))) J R T) ∧ c1 = 0 ∧ k1 = 0) ∨ ((¬ (¬ (((ev_wi a 0 ((((I 1 4) + (I 1 3))) - (1 : Int32))))) = 0)) ∧ r = some (.int (-2)) ∧ h1 = (ev_hp I J R T) ∧ c1 = 0 ∧ k1 = 0)) := by
  refine ev_call (eg_count_r1 X I J R T a b _ _) (eg_isRim X I J R T a) ?_
  rintro r0 _ _ _ (⟨hr0, rfl, rfl, rfl⟩)
  obtain ⟨q39, hq39⟩ : ∃ z : Int32, ((ev_wi a 0 ((((I 1 4) + (I 1 3))) - (1 : Int32)))) = z := ⟨_, rfl⟩
  have eq39 : r0 = some (.int q39) := hr0.trans (by subst hq39; rfl)
  subst eq39
  refine ev_if (eg_count_r2 X I J R T a b q39 _ _) (fun b1 => ?_) (fun b1 => ?_)
  · replace b1 := of_decide_eq_true b1
    refine ev_call (eg_count_r3 X I J R T a b q39 _ _) (ec_within X (ev_hp I J R T) b 0 7) ?_
    rintro _ _ _ _ ⟨rfl, rfl, rfl, rfl⟩
    generalize hq40 : (ev_wi b 0 7) = q40
    refine ev_if (eg_count_r4 X I J R T a b q39 q40 _ _) (fun b2 => ?_) (fun b2 => ?_)
    · replace b2 := of_decide_eq_true b2
      refine ev_ret (eg_count_r5 X I J R T a b q39 q40 _ _) ?_
      subst hq40
      subst hq39
      exact Or.inl ⟨b1, b2, rfl, rfl, rfl, rfl⟩
    · replace b2 := of_decide_eq_false b2
      refine ev_if (eg_count_r6 X I J R T a b q39 q40 _ _) (fun b3 => ?_) (fun b3 => ?_)
      · replace b3 := of_decide_eq_true b3
        refine ev_call (eg_count_r7 X I J R T a b q39 q40 _ _) (ea_S_Edges_tell_81_32 X I J R T a b) ?_
        rintro r0 _ _ _ (⟨hr0, rfl, rfl, rfl⟩)
        obtain ⟨q42, hq42⟩ : ∃ z : Int32, (ev_at 12 (I 33) a) = z := ⟨_, rfl⟩
        have eq42 : r0 = some (.int q42) := hr0.trans (by subst hq42; rfl)
        subst eq42
        refine ev_ret (eg_count_r8 X I J R T a b q39 q40 q42 _ _) ?_
        subst hq42
        subst hq40
        subst hq39
        exact Or.inr (Or.inl ⟨b1, b2, b3, rfl, rfl, rfl, rfl⟩)
      · replace b3 := of_decide_eq_false b3
        refine ev_call (eg_count_r9 X I J R T a b q39 q40 _ _) (ea_S_Edges_tell_81_32 X I J R T a ((-1) : Int32)) ?_
        rintro r0 _ _ _ (⟨hr0, rfl, rfl, rfl⟩)
        obtain ⟨q43, hq43⟩ : ∃ z : Int32, (ev_at 12 (I 33) a) = z := ⟨_, rfl⟩
        have eq43 : r0 = some (.int q43) := hr0.trans (by subst hq43; rfl)
        subst eq43
        refine ev_ret (eg_count_r10 X I J R T a b q39 q40 q43 _ _) ?_
        subst hq43
        subst hq40
        subst hq39
        exact Or.inr (Or.inr (Or.inl ⟨b1, b2, b3, rfl, rfl, rfl, rfl⟩))
  · replace b1 := of_decide_eq_false b1
    refine ev_ret (eg_count_r11 X I J R T a b q39 _ _) ?_
    subst hq39
    exact Or.inr (Or.inr (Or.inr (⟨b1, rfl, rfl, rfl, rfl⟩)))
