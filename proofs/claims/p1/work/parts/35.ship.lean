/-! A ship on new objects. -/

set_option maxRecDepth 100000 in
set_option maxHeartbeats 100000 in
theorem es_ship_S_r1 (X : ez_X) (I : Nat → Nat → Int32) (J : Nat → Nat → Int64) (R : Nat → Nat) (T : List ez_C) (a : Int32) (b : Int32) (cz kz : Nat) : ∀ G : ez_F, fx_up X 4 G 43 0 [.ref 0, .int a, .int b] [] (ev_hp ev_I0 ev_J0 ev_R0 []) cz kz = ev_C G 55 [.int a, .int 1, .int 65535] (ev_hp ev_I0 ev_J0 ev_R0 []) fun r h1 c1 k1 => G 43 7 [.ref 0, .int a, .int b] (r.toList ++ []) h1 (cz + c1) (kz + k1) := by
  intro G
  rfl
set_option maxRecDepth 100000 in
set_option maxHeartbeats 100000 in
theorem es_ship_S_r2 (X : ez_X) (I : Nat → Nat → Int32) (J : Nat → Nat → Int64) (R : Nat → Nat) (T : List ez_C) (a : Int32) (b : Int32) (q160 : Int32) (cz kz : Nat) : ∀ G : ez_F, fx_up X 1 G 43 7 [.ref 0, .int a, .int b] [.int q160] (ev_hp ev_I0 ev_J0 ev_R0 []) cz kz = bif decide (q160 = 0) then G 43 27 [.ref 0, .int a, .int b] [] (ev_hp ev_I0 ev_J0 ev_R0 []) cz kz else G 43 10 [.ref 0, .int a, .int b] [] (ev_hp ev_I0 ev_J0 ev_R0 []) cz kz := by
  intro G
  rfl
set_option maxRecDepth 100000 in
set_option maxHeartbeats 100000 in
theorem es_ship_S_r3 (X : ez_X) (I : Nat → Nat → Int32) (J : Nat → Nat → Int64) (R : Nat → Nat) (T : List ez_C) (a : Int32) (b : Int32) (q160 : Int32) (cz kz : Nat) : ∀ G : ez_F, fx_up X 2 G 43 27 [.ref 0, .int a, .int b] [] (ev_hp ev_I0 ev_J0 ev_R0 []) cz kz = some (some (.int (-3)), (ev_hp ev_I0 ev_J0 ev_R0 []), cz, kz) := by
  intro G
  rfl
set_option maxRecDepth 100000 in
set_option maxHeartbeats 100000 in
theorem es_ship_S_r4 (X : ez_X) (I : Nat → Nat → Int32) (J : Nat → Nat → Int64) (R : Nat → Nat) (T : List ez_C) (a : Int32) (b : Int32) (q160 : Int32) (cz kz : Nat) : ∀ G : ez_F, fx_up X 2 G 43 10 [.ref 0, .int a, .int b] [] (ev_hp ev_I0 ev_J0 ev_R0 []) cz kz = ev_C G 234 [.int a] (ev_hp ev_I0 ev_J0 ev_R0 []) fun r h1 c1 k1 => G 43 14 [.ref 0, .int a, .int b] (r.toList ++ []) h1 (cz + c1) (kz + k1) := by
  intro G
  rfl
set_option maxRecDepth 100000 in
set_option maxHeartbeats 100000 in
theorem es_ship_S_r5 (X : ez_X) (I : Nat → Nat → Int32) (J : Nat → Nat → Int64) (R : Nat → Nat) (T : List ez_C) (a : Int32) (b : Int32) (q160 : Int32) (q161 : Int32) (cz kz : Nat) : ∀ G : ez_F, fx_up X 2 G 43 14 [.ref 0, .int a, .int b] [.int q161] (ev_hp ev_I0 ev_J0 ev_R0 []) cz kz = bif decide (5 < q161) then G 43 27 [.ref 0, .int a, .int b] [] (ev_hp ev_I0 ev_J0 ev_R0 []) cz kz else G 43 18 [.ref 0, .int a, .int b] [] (ev_hp ev_I0 ev_J0 ev_R0 []) cz kz := by
  intro G
  rfl
set_option maxRecDepth 100000 in
set_option maxHeartbeats 100000 in
theorem es_ship_S_r6 (X : ez_X) (I : Nat → Nat → Int32) (J : Nat → Nat → Int64) (R : Nat → Nat) (T : List ez_C) (a : Int32) (b : Int32) (q160 : Int32) (q161 : Int32) (cz kz : Nat) : ∀ G : ez_F, fx_up X 2 G 43 27 [.ref 0, .int a, .int b] [] (ev_hp ev_I0 ev_J0 ev_R0 []) cz kz = some (some (.int (-3)), (ev_hp ev_I0 ev_J0 ev_R0 []), cz, kz) := by
  intro G
  rfl
set_option maxRecDepth 100000 in
set_option maxHeartbeats 100000 in
theorem es_ship_S_r7 (X : ez_X) (I : Nat → Nat → Int32) (J : Nat → Nat → Int64) (R : Nat → Nat) (T : List ez_C) (a : Int32) (b : Int32) (q160 : Int32) (q161 : Int32) (cz kz : Nat) : ∀ G : ez_F, fx_up X 4 G 43 18 [.ref 0, .int a, .int b] [] (ev_hp ev_I0 ev_J0 ev_R0 []) cz kz = ev_C G 55 [.int b, .int 0, .int 2] (ev_hp ev_I0 ev_J0 ev_R0 []) fun r h1 c1 k1 => G 43 24 [.ref 0, .int a, .int b] (r.toList ++ []) h1 (cz + c1) (kz + k1) := by
  intro G
  rfl
set_option maxRecDepth 100000 in
set_option maxHeartbeats 100000 in
theorem es_ship_S_r8 (X : ez_X) (I : Nat → Nat → Int32) (J : Nat → Nat → Int64) (R : Nat → Nat) (T : List ez_C) (a : Int32) (b : Int32) (q160 : Int32) (q161 : Int32) (q162 : Int32) (cz kz : Nat) : ∀ G : ez_F, fx_up X 1 G 43 24 [.ref 0, .int a, .int b] [.int q162] (ev_hp ev_I0 ev_J0 ev_R0 []) cz kz = bif decide (¬ q162 = 0) then G 43 30 [.ref 0, .int a, .int b] [] (ev_hp ev_I0 ev_J0 ev_R0 []) cz kz else G 43 27 [.ref 0, .int a, .int b] [] (ev_hp ev_I0 ev_J0 ev_R0 []) cz kz := by
  intro G
  rfl
set_option maxRecDepth 100000 in
set_option maxHeartbeats 100000 in
theorem es_ship_S_r9 (X : ez_X) (I : Nat → Nat → Int32) (J : Nat → Nat → Int64) (R : Nat → Nat) (T : List ez_C) (a : Int32) (b : Int32) (q160 : Int32) (q161 : Int32) (q162 : Int32) (cz kz : Nat) : ∀ G : ez_F, fx_up X 14 G 43 30 [.ref 0, .int a, .int b] [] (ev_hp ev_I0 ev_J0 ev_R0 []) cz kz = ev_C G 85 [.ref 3, .int a, .int b] (ev_hp ev_I0 ev_J0 ev_R0 []) fun r h1 c1 k1 => G 43 66 [.ref 0, .int a, .int b] (r.toList ++ []) h1 (cz + c1) (kz + k1) := by
  intro G
  rfl
set_option maxRecDepth 100000 in
set_option maxHeartbeats 100000 in
theorem es_ship_S_r10 (X : ez_X) (I : Nat → Nat → Int32) (J : Nat → Nat → Int64) (R : Nat → Nat) (T : List ez_C) (a : Int32) (b : Int32) (q160 : Int32) (q161 : Int32) (q162 : Int32) (f202 : Nat → Int32) (g203 : Nat → Int64) (cz kz : Nat) : ∀ G : ez_F, fx_up X 3 G 43 66 [.ref 0, .int a, .int b] [.int 0] (ev_hp (ev_sI (ev_sI ev_I0 3 (upd (ev_I0 3) 3 1)) 5 f202) (ev_sJ ev_J0 4 g203) ev_R0 []) cz kz = ev_C G 28 [.ref 0] (ev_hp (ev_sI (ev_sI ev_I0 3 (upd (ev_I0 3) 3 1)) 5 f202) (ev_sJ ev_J0 4 g203) ev_R0 []) fun r h1 c1 k1 => G 43 71 [.ref 0, .int a, .int b, .int 0] (r.toList ++ []) h1 (cz + c1) (kz + k1) := by
  intro G
  rfl
set_option maxRecDepth 100000 in
set_option maxHeartbeats 100000 in
theorem es_ship_S_r11 (X : ez_X) (I : Nat → Nat → Int32) (J : Nat → Nat → Int64) (R : Nat → Nat) (T : List ez_C) (a : Int32) (b : Int32) (q160 : Int32) (q161 : Int32) (q162 : Int32) (f202 : Nat → Int32) (g203 : Nat → Int64) (cz kz : Nat) : ∀ G : ez_F, fx_up X 2 G 43 71 [.ref 0, .int a, .int b, .int 0] [] (ev_hp (ev_sI (ev_sI (ev_sI (ev_sI (ev_sI (ev_sI ev_I0 3 (upd (ev_I0 3) 3 1)) 5 f202) 6 (upd (ev_I0 6) 4 0)) 13 (upd (upd (ev_I0 13) 8 0) 9 0)) 20 (upd (ev_I0 20) 3 0)) 22 (upd (upd (ev_I0 22) 8 0) 11 (-1))) (ev_sJ ev_J0 4 g203) ev_R0 []) cz kz = some (some (.int 0), (ev_hp (ev_sI (ev_sI (ev_sI (ev_sI (ev_sI (ev_sI ev_I0 3 (upd (ev_I0 3) 3 1)) 5 f202) 6 (upd (ev_I0 6) 4 0)) 13 (upd (upd (ev_I0 13) 8 0) 9 0)) 20 (upd (ev_I0 20) 3 0)) 22 (upd (upd (ev_I0 22) 8 0) 11 (-1))) (ev_sJ ev_J0 4 g203) ev_R0 []), cz, kz) := by
  intro G
  rfl
set_option maxRecDepth 100000 in
set_option maxHeartbeats 100000 in
theorem es_ship_S_r12 (X : ez_X) (I : Nat → Nat → Int32) (J : Nat → Nat → Int64) (R : Nat → Nat) (T : List ez_C) (a : Int32) (b : Int32) (q160 : Int32) (q161 : Int32) (q162 : Int32) (cz kz : Nat) : ∀ G : ez_F, fx_up X 2 G 43 27 [.ref 0, .int a, .int b] [] (ev_hp ev_I0 ev_J0 ev_R0 []) cz kz = some (some (.int (-3)), (ev_hp ev_I0 ev_J0 ev_R0 []), cz, kz) := by
  intro G
  rfl
theorem es_ship_S (X : ez_X) (I : Nat → Nat → Int32) (J : Nat → Nat → Int64) (R : Nat → Nat) (T : List ez_C) (a : Int32) (b : Int32)  : ev_W X 43 0 (ez_lay [.ref 0, .int a, .int b]) [] (ev_hp ev_I0 ev_J0 ev_R0 []) 0 0 (fun r h1 c1 k1 => ((((ev_wi a 1 65535)) = 0) ∧ r = some (.int (-3)) ∧ h1 = (ev_hp ev_I0 ev_J0 ev_R0 []) ∧ c1 = 0 ∧ k1 = 0) ∨ ((¬ (((ev_wi a 1 65535)) = 0)) ∧ (5 < ((ev_bcI a))) ∧ r = some (.int (-3)) ∧ h1 = (ev_hp ev_I0 ev_J0 ev_R0 []) ∧ c1 = 0 ∧ k1 = 0) ∨ (∃ f202 : Nat → Int32, ∃ g203 : Nat → Int64, (¬ (((ev_wi a 1 65535)) = 0)) ∧ (¬ (5 < ((ev_bcI a)))) ∧ (¬ ((ev_wi b 0 2)) = 0) ∧ r = some (.int 0) ∧ h1 = (ev_hp (ev_sI (ev_sI (ev_sI (ev_sI (ev_sI (ev_sI ev_I0 3 (upd (ev_I0 3) 3 1)) 5 f202) 6 (upd (ev_I0 6) 4 0)) 13 (upd (upd (ev_I0 13) 8 0) 9 0)) 20 (upd (ev_I0 20) 3 0)) 22 (upd (upd (ev_I0 22) 8 0) 11 (-1))) (ev_sJ ev_J0 4 g203) ev_R0 []) ∧ c1 = 0 ∧ k1 = 0) ∨ ((¬ (((ev_wi a 1 65535)) = 0)) ∧ (¬ (5 < ((ev_bcI a)))) ∧ (¬ (¬ ((ev_wi b 0 2)) = 0)) ∧ r = some (.int (-3)) ∧ h1 = (ev_hp ev_I0 ev_J0 ev_R0 []) ∧ c1 = 0 ∧ k1 = 0)) := by
  refine ev_call (es_ship_S_r1 X I J R T a b _ _) (ec_within X (ev_hp ev_I0 ev_J0 ev_R0 []) a 1 65535) ?_
  rintro _ _ _ _ ⟨rfl, rfl, rfl, rfl⟩
  generalize hq160 : (ev_wi a 1 65535) = q160
  refine ev_if (es_ship_S_r2 X I J R T a b q160 _ _) (fun b1 => ?_) (fun b1 => ?_)
  · replace b1 := of_decide_eq_true b1
    refine ev_ret (es_ship_S_r3 X I J R T a b q160 _ _) ?_
    subst hq160
    exact Or.inl ⟨b1, rfl, rfl, rfl, rfl⟩
  · replace b1 := of_decide_eq_false b1
    refine ev_call (es_ship_S_r4 X I J R T a b q160 _ _) (ec_bcI X (ev_hp ev_I0 ev_J0 ev_R0 []) a) ?_
    rintro _ _ _ _ ⟨rfl, rfl, rfl, rfl⟩
    generalize hq161 : (ev_bcI a) = q161
    refine ev_if (es_ship_S_r5 X I J R T a b q160 q161 _ _) (fun b2 => ?_) (fun b2 => ?_)
    · replace b2 := of_decide_eq_true b2
      refine ev_ret (es_ship_S_r6 X I J R T a b q160 q161 _ _) ?_
      subst hq161
      subst hq160
      exact Or.inr (Or.inl ⟨b1, b2, rfl, rfl, rfl, rfl⟩)
    · replace b2 := of_decide_eq_false b2
      refine ev_call (es_ship_S_r7 X I J R T a b q160 q161 _ _) (ec_within X (ev_hp ev_I0 ev_J0 ev_R0 []) b 0 2) ?_
      rintro _ _ _ _ ⟨rfl, rfl, rfl, rfl⟩
      generalize hq162 : (ev_wi b 0 2) = q162
      refine ev_if (es_ship_S_r8 X I J R T a b q160 q161 q162 _ _) (fun b3 => ?_) (fun b3 => ?_)
      · replace b3 := of_decide_eq_true b3
        refine ev_call (es_ship_S_r9 X I J R T a b q160 q161 q162 _ _) (ec_build X ev_I0 ev_J0 ev_R0 [] a b) ?_
        rintro _ _ _ _ ⟨rfl, ⟨f202, g203, rfl⟩, rfl, rfl⟩
        refine ev_call (es_ship_S_r10 X I J R T a b q160 q161 q162 f202 g203 _ _) (ea_S_layingsChanged_28_0 X (ev_sI (ev_sI ev_I0 3 (upd (ev_I0 3) 3 1)) 5 f202) (ev_sJ ev_J0 4 g203) ev_R0 []) ?_
        rintro r0 _ _ _ (⟨rfl, rfl, rfl, rfl⟩)
        refine ev_ret (es_ship_S_r11 X I J R T a b q160 q161 q162 f202 g203 _ _) ?_
        subst hq162
        subst hq161
        subst hq160
        exact Or.inr (Or.inr (Or.inl ⟨f202, g203, b1, b2, b3, rfl, rfl, rfl, rfl⟩))
      · replace b3 := of_decide_eq_false b3
        refine ev_ret (es_ship_S_r12 X I J R T a b q160 q161 q162 _ _) ?_
        subst hq162
        subst hq161
        subst hq160
        exact Or.inr (Or.inr (Or.inr (⟨b1, b2, b3, rfl, rfl, rfl, rfl⟩)))
set_option maxRecDepth 100000 in
set_option maxHeartbeats 100000 in
theorem es_ship_M_r1 (X : ez_X) (I : Nat → Nat → Int32) (J : Nat → Nat → Int64) (R : Nat → Nat) (T : List ez_C) (a : Int32) (b : Int32) (cz kz : Nat) : ∀ G : ez_F, fx_up X 5 G 220 0 [.ref 35, .int a, .int b] [] (ev_hp ev_I0 ev_J0 ev_R0 []) cz kz = ev_C G 198 [.long (a.toInt64), .long 1, .long 65535] (ev_hp ev_I0 ev_J0 ev_R0 []) fun r h1 c1 k1 => G 220 9 [.ref 35, .int a, .int b] (r.toList ++ []) h1 (cz + c1) (kz + k1) := by
  intro G
  rfl
set_option maxRecDepth 100000 in
set_option maxHeartbeats 100000 in
theorem es_ship_M_r2 (X : ez_X) (I : Nat → Nat → Int32) (J : Nat → Nat → Int64) (R : Nat → Nat) (T : List ez_C) (a : Int32) (b : Int32) (q163 : Int32) (cz kz : Nat) : ∀ G : ez_F, fx_up X 1 G 220 9 [.ref 35, .int a, .int b] [.int q163] (ev_hp ev_I0 ev_J0 ev_R0 []) cz kz = bif decide (q163 = 0) then G 220 33 [.ref 35, .int a, .int b] [] (ev_hp ev_I0 ev_J0 ev_R0 []) cz kz else G 220 12 [.ref 35, .int a, .int b] [] (ev_hp ev_I0 ev_J0 ev_R0 []) cz kz := by
  intro G
  rfl
set_option maxRecDepth 100000 in
set_option maxHeartbeats 100000 in
theorem es_ship_M_r3 (X : ez_X) (I : Nat → Nat → Int32) (J : Nat → Nat → Int64) (R : Nat → Nat) (T : List ez_C) (a : Int32) (b : Int32) (q163 : Int32) (cz kz : Nat) : ∀ G : ez_F, fx_up X 2 G 220 33 [.ref 35, .int a, .int b] [] (ev_hp ev_I0 ev_J0 ev_R0 []) cz kz = some (some (.int (-3)), (ev_hp ev_I0 ev_J0 ev_R0 []), cz, kz) := by
  intro G
  rfl
set_option maxRecDepth 100000 in
set_option maxHeartbeats 100000 in
theorem es_ship_M_r4 (X : ez_X) (I : Nat → Nat → Int32) (J : Nat → Nat → Int64) (R : Nat → Nat) (T : List ez_C) (a : Int32) (b : Int32) (q163 : Int32) (cz kz : Nat) : ∀ G : ez_F, fx_up X 3 G 220 12 [.ref 35, .int a, .int b] [] (ev_hp ev_I0 ev_J0 ev_R0 []) cz kz = ev_C G 171 [.long (a.toInt64)] (ev_hp ev_I0 ev_J0 ev_R0 []) fun r h1 c1 k1 => G 220 17 [.ref 35, .int a, .int b] (r.toList ++ []) h1 (cz + c1) (kz + k1) := by
  intro G
  rfl
set_option maxRecDepth 100000 in
set_option maxHeartbeats 100000 in
theorem es_ship_M_r5 (X : ez_X) (I : Nat → Nat → Int32) (J : Nat → Nat → Int64) (R : Nat → Nat) (T : List ez_C) (a : Int32) (b : Int32) (q163 : Int32) (q164 : Int32) (cz kz : Nat) : ∀ G : ez_F, fx_up X 2 G 220 17 [.ref 35, .int a, .int b] [.int q164] (ev_hp ev_I0 ev_J0 ev_R0 []) cz kz = bif decide (5 < q164) then G 220 33 [.ref 35, .int a, .int b] [] (ev_hp ev_I0 ev_J0 ev_R0 []) cz kz else G 220 21 [.ref 35, .int a, .int b] [] (ev_hp ev_I0 ev_J0 ev_R0 []) cz kz := by
  intro G
  rfl
set_option maxRecDepth 100000 in
set_option maxHeartbeats 100000 in
theorem es_ship_M_r6 (X : ez_X) (I : Nat → Nat → Int32) (J : Nat → Nat → Int64) (R : Nat → Nat) (T : List ez_C) (a : Int32) (b : Int32) (q163 : Int32) (q164 : Int32) (cz kz : Nat) : ∀ G : ez_F, fx_up X 2 G 220 33 [.ref 35, .int a, .int b] [] (ev_hp ev_I0 ev_J0 ev_R0 []) cz kz = some (some (.int (-3)), (ev_hp ev_I0 ev_J0 ev_R0 []), cz, kz) := by
  intro G
  rfl
set_option maxRecDepth 100000 in
set_option maxHeartbeats 100000 in
theorem es_ship_M_r7 (X : ez_X) (I : Nat → Nat → Int32) (J : Nat → Nat → Int64) (R : Nat → Nat) (T : List ez_C) (a : Int32) (b : Int32) (q163 : Int32) (q164 : Int32) (cz kz : Nat) : ∀ G : ez_F, fx_up X 5 G 220 21 [.ref 35, .int a, .int b] [] (ev_hp ev_I0 ev_J0 ev_R0 []) cz kz = ev_C G 198 [.long (b.toInt64), .long 0, .long 2] (ev_hp ev_I0 ev_J0 ev_R0 []) fun r h1 c1 k1 => G 220 30 [.ref 35, .int a, .int b] (r.toList ++ []) h1 (cz + c1) (kz + k1) := by
  intro G
  rfl
set_option maxRecDepth 100000 in
set_option maxHeartbeats 100000 in
theorem es_ship_M_r8 (X : ez_X) (I : Nat → Nat → Int32) (J : Nat → Nat → Int64) (R : Nat → Nat) (T : List ez_C) (a : Int32) (b : Int32) (q163 : Int32) (q164 : Int32) (q165 : Int32) (cz kz : Nat) : ∀ G : ez_F, fx_up X 1 G 220 30 [.ref 35, .int a, .int b] [.int q165] (ev_hp ev_I0 ev_J0 ev_R0 []) cz kz = bif decide (¬ q165 = 0) then G 220 36 [.ref 35, .int a, .int b] [] (ev_hp ev_I0 ev_J0 ev_R0 []) cz kz else G 220 33 [.ref 35, .int a, .int b] [] (ev_hp ev_I0 ev_J0 ev_R0 []) cz kz := by
  intro G
  rfl
set_option maxRecDepth 100000 in
set_option maxHeartbeats 100000 in
theorem es_ship_M_r9 (X : ez_X) (I : Nat → Nat → Int32) (J : Nat → Nat → Int64) (R : Nat → Nat) (T : List ez_C) (a : Int32) (b : Int32) (q163 : Int32) (q164 : Int32) (q165 : Int32) (cz kz : Nat) : ∀ G : ez_F, fx_up X 24 G 220 36 [.ref 35, .int a, .int b] [] (ev_hp ev_I0 ev_J0 ev_R0 []) cz kz = G 220 84 [.ref 35, .int a, .int b] [.int 1, .ref 35] (ev_hp (ev_sI (ev_sI ev_I0 36 (upd (ev_I0 36) 0 a)) 37 (upd (ev_I0 37) 0 b)) ev_J0 ev_R0 []) cz kz := by
  intro G
  rfl
set_option maxRecDepth 100000 in
set_option maxHeartbeats 100000 in
theorem es_ship_M_r10 (X : ez_X) (I : Nat → Nat → Int32) (J : Nat → Nat → Int64) (R : Nat → Nat) (T : List ez_C) (a : Int32) (b : Int32) (q163 : Int32) (q164 : Int32) (q165 : Int32) (cz kz : Nat) : ∀ G : ez_F, fx_up X 6 G 220 84 [.ref 35, .int a, .int b] [.int 1, .ref 35] (ev_hp (ev_sI (ev_sI ev_I0 36 (upd (ev_I0 36) 0 a)) 37 (upd (ev_I0 37) 0 b)) ev_J0 ev_R0 []) cz kz = some (some (.int 0), (ev_hp (ev_sI (ev_sI (ev_sI ev_I0 35 (upd (ev_I0 35) 3 1)) 36 (upd (ev_I0 36) 0 a)) 37 (upd (ev_I0 37) 0 b)) ev_J0 ev_R0 []), cz, kz) := by
  intro G
  rfl
set_option maxRecDepth 100000 in
set_option maxHeartbeats 100000 in
theorem es_ship_M_r11 (X : ez_X) (I : Nat → Nat → Int32) (J : Nat → Nat → Int64) (R : Nat → Nat) (T : List ez_C) (a : Int32) (b : Int32) (q163 : Int32) (q164 : Int32) (q165 : Int32) (cz kz : Nat) : ∀ G : ez_F, fx_up X 2 G 220 33 [.ref 35, .int a, .int b] [] (ev_hp ev_I0 ev_J0 ev_R0 []) cz kz = some (some (.int (-3)), (ev_hp ev_I0 ev_J0 ev_R0 []), cz, kz) := by
  intro G
  rfl
theorem es_ship_M (X : ez_X) (I : Nat → Nat → Int32) (J : Nat → Nat → Int64) (R : Nat → Nat) (T : List ez_C) (a : Int32) (b : Int32)  : ev_W X 220 0 (ez_lay [.ref 35, .int a, .int b]) [] (ev_hp ev_I0 ev_J0 ev_R0 []) 0 0 (fun r h1 c1 k1 => ((((ev_il (a.toInt64) 1 65535)) = 0) ∧ r = some (.int (-3)) ∧ h1 = (ev_hp ev_I0 ev_J0 ev_R0 []) ∧ c1 = 0 ∧ k1 = 0) ∨ ((¬ (((ev_il (a.toInt64) 1 65535)) = 0)) ∧ (5 < ((ev_bits (a.toInt64)))) ∧ r = some (.int (-3)) ∧ h1 = (ev_hp ev_I0 ev_J0 ev_R0 []) ∧ c1 = 0 ∧ k1 = 0) ∨ ((¬ (((ev_il (a.toInt64) 1 65535)) = 0)) ∧ (¬ (5 < ((ev_bits (a.toInt64))))) ∧ (¬ ((ev_il (b.toInt64) 0 2)) = 0) ∧ r = some (.int 0) ∧ h1 = (ev_hp (ev_sI (ev_sI (ev_sI ev_I0 35 (upd (ev_I0 35) 3 1)) 36 (upd (ev_I0 36) 0 a)) 37 (upd (ev_I0 37) 0 b)) ev_J0 ev_R0 []) ∧ c1 = 0 ∧ k1 = 0) ∨ ((¬ (((ev_il (a.toInt64) 1 65535)) = 0)) ∧ (¬ (5 < ((ev_bits (a.toInt64))))) ∧ (¬ (¬ ((ev_il (b.toInt64) 0 2)) = 0)) ∧ r = some (.int (-3)) ∧ h1 = (ev_hp ev_I0 ev_J0 ev_R0 []) ∧ c1 = 0 ∧ k1 = 0)) := by
  refine ev_call (es_ship_M_r1 X I J R T a b _ _) (ec_in X (ev_hp ev_I0 ev_J0 ev_R0 []) (a.toInt64) 1 65535) ?_
  rintro _ _ _ _ ⟨rfl, rfl, rfl, rfl⟩
  generalize hq163 : (ev_il (a.toInt64) 1 65535) = q163
  refine ev_if (es_ship_M_r2 X I J R T a b q163 _ _) (fun b1 => ?_) (fun b1 => ?_)
  · replace b1 := of_decide_eq_true b1
    refine ev_ret (es_ship_M_r3 X I J R T a b q163 _ _) ?_
    subst hq163
    exact Or.inl ⟨b1, rfl, rfl, rfl, rfl⟩
  · replace b1 := of_decide_eq_false b1
    refine ev_call (es_ship_M_r4 X I J R T a b q163 _ _) (em_bits X (ev_hp ev_I0 ev_J0 ev_R0 []) (a.toInt64)) ?_
    rintro _ _ _ _ ⟨rfl, rfl, rfl, rfl⟩
    generalize hq164 : (ev_bits (a.toInt64)) = q164
    refine ev_if (es_ship_M_r5 X I J R T a b q163 q164 _ _) (fun b2 => ?_) (fun b2 => ?_)
    · replace b2 := of_decide_eq_true b2
      refine ev_ret (es_ship_M_r6 X I J R T a b q163 q164 _ _) ?_
      subst hq164
      subst hq163
      exact Or.inr (Or.inl ⟨b1, b2, rfl, rfl, rfl, rfl⟩)
    · replace b2 := of_decide_eq_false b2
      refine ev_call (es_ship_M_r7 X I J R T a b q163 q164 _ _) (ec_in X (ev_hp ev_I0 ev_J0 ev_R0 []) (b.toInt64) 0 2) ?_
      rintro _ _ _ _ ⟨rfl, rfl, rfl, rfl⟩
      generalize hq165 : (ev_il (b.toInt64) 0 2) = q165
      refine ev_if (es_ship_M_r8 X I J R T a b q163 q164 q165 _ _) (fun b3 => ?_) (fun b3 => ?_)
      · replace b3 := of_decide_eq_true b3
        refine ev_seg (es_ship_M_r9 X I J R T a b q163 q164 q165 _ _) ?_
        refine ev_ret (es_ship_M_r10 X I J R T a b q163 q164 q165 _ _) ?_
        subst hq165
        subst hq164
        subst hq163
        exact Or.inr (Or.inr (Or.inl ⟨b1, b2, b3, rfl, rfl, rfl, rfl⟩))
      · replace b3 := of_decide_eq_false b3
        refine ev_ret (es_ship_M_r11 X I J R T a b q163 q164 q165 _ _) ?_
        subst hq165
        subst hq164
        subst hq163
        exact Or.inr (Or.inr (Or.inr (⟨b1, b2, b3, rfl, rfl, rfl, rfl⟩)))
theorem ev_ix03 : ev_ix 0 3 := ⟨by decide, by decide⟩
set_option maxRecDepth 100000 in
set_option maxHeartbeats 100000 in
theorem eo_ship_a_r1 (xs : Nat → Int32)  (cz kz : Nat) : ∀ G : ez_F, fx_up (4, xs) 2 G 241 243 [ez_scr, .ref 0, .ref 35, .int 0] [] (ev_hp ev_I0 ev_J0 ev_R0 []) cz kz = G 241 245 [ez_scr, .ref 0, .ref 35, .int 0] [ez_scr, .ref 0] (ev_hp ev_I0 ev_J0 ev_R0 []) cz kz := by
  intro G
  rfl
set_option maxRecDepth 100000 in
set_option maxHeartbeats 100000 in
theorem eo_ship_a_r2 (xs : Nat → Int32)  (cz kz : Nat) : ∀ G : ez_F, fx_up (4, xs) 2 G 241 245 [ez_scr, .ref 0, .ref 35, .int 0] [ez_scr, .ref 0] (ev_hp ev_I0 ev_J0 ev_R0 []) cz kz = G 241 247 [ez_scr, .ref 0, .ref 35, .int 0] [.int 1, .int 0, ez_scr, .ref 0] (ev_hp ev_I0 ev_J0 ev_R0 []) cz kz := by
  intro G
  rfl
set_option maxRecDepth 100000 in
set_option maxHeartbeats 100000 in
theorem eo_ship_a_r3 (xs : Nat → Int32)  (cz kz : Nat) : ∀ G : ez_F, fx_up (4, xs) 2 G 241 247 [ez_scr, .ref 0, .ref 35, .int 0] [.int 1, .int 0, ez_scr, .ref 0] (ev_hp ev_I0 ev_J0 ev_R0 []) cz kz = G 241 249 [ez_scr, .ref 0, .ref 35, .int 0] [.int (xs 1), .ref 0] (ev_hp ev_I0 ev_J0 ev_R0 []) cz kz := by
  intro G
  rfl
set_option maxRecDepth 100000 in
set_option maxHeartbeats 100000 in
theorem eo_ship_a_r4 (xs : Nat → Int32)  (cz kz : Nat) : ∀ G : ez_F, fx_up (4, xs) 2 G 241 249 [ez_scr, .ref 0, .ref 35, .int 0] [.int (xs 1), .ref 0] (ev_hp ev_I0 ev_J0 ev_R0 []) cz kz = G 241 251 [ez_scr, .ref 0, .ref 35, .int 0] [.int 0, ez_scr, .int (xs 1), .ref 0] (ev_hp ev_I0 ev_J0 ev_R0 []) cz kz := by
  intro G
  rfl
set_option maxRecDepth 100000 in
set_option maxHeartbeats 100000 in
theorem eo_ship_a_r5 (xs : Nat → Int32)  (cz kz : Nat) : ∀ G : ez_F, fx_up (4, xs) 2 G 241 251 [ez_scr, .ref 0, .ref 35, .int 0] [.int 0, ez_scr, .int (xs 1), .ref 0] (ev_hp ev_I0 ev_J0 ev_R0 []) cz kz = G 241 253 [ez_scr, .ref 0, .ref 35, .int 0] [.int 2, ez_scr, .int (xs 1), .ref 0] (ev_hp ev_I0 ev_J0 ev_R0 []) cz kz := by
  intro G
  rfl
set_option maxRecDepth 100000 in
set_option maxHeartbeats 100000 in
theorem eo_ship_a_r6 (xs : Nat → Int32)  (cz kz : Nat) : ∀ G : ez_F, fx_up (4, xs) 2 G 241 253 [ez_scr, .ref 0, .ref 35, .int 0] [.int 2, ez_scr, .int (xs 1), .ref 0] (ev_hp ev_I0 ev_J0 ev_R0 []) cz kz = ev_C G 43 [.ref 0, .int (xs 1), .int (xs 2)] (ev_hp ev_I0 ev_J0 ev_R0 []) fun r h1 c1 k1 => G 241 257 [ez_scr, .ref 0, .ref 35, .int 0] (r.toList ++ []) h1 (cz + c1) (kz + k1) := by
  intro G
  rfl
set_option maxRecDepth 100000 in
set_option maxHeartbeats 100000 in
theorem eo_ship_a_r7 (xs : Nat → Int32)  (cz kz : Nat) : ∀ G : ez_F, fx_up (4, xs) 2 G 241 257 [ez_scr, .ref 0, .ref 35, .int 0] [.int (-3)] (ev_hp ev_I0 ev_J0 ev_R0 []) cz kz = G 241 259 [ez_scr, .ref 0, .ref 35, .int 0] [ez_scr, .ref 35, .int (-3)] (ev_hp ev_I0 ev_J0 ev_R0 []) cz kz := by
  intro G
  rfl
set_option maxRecDepth 100000 in
set_option maxHeartbeats 100000 in
theorem eo_ship_a_r8 (xs : Nat → Int32)  (cz kz : Nat) : ∀ G : ez_F, fx_up (4, xs) 2 G 241 259 [ez_scr, .ref 0, .ref 35, .int 0] [ez_scr, .ref 35, .int (-3)] (ev_hp ev_I0 ev_J0 ev_R0 []) cz kz = G 241 261 [ez_scr, .ref 0, .ref 35, .int 0] [.int 1, .int 0, ez_scr, .ref 35, .int (-3)] (ev_hp ev_I0 ev_J0 ev_R0 []) cz kz := by
  intro G
  rfl
set_option maxRecDepth 100000 in
set_option maxHeartbeats 100000 in
theorem eo_ship_a_r9 (xs : Nat → Int32)  (cz kz : Nat) : ∀ G : ez_F, fx_up (4, xs) 2 G 241 261 [ez_scr, .ref 0, .ref 35, .int 0] [.int 1, .int 0, ez_scr, .ref 35, .int (-3)] (ev_hp ev_I0 ev_J0 ev_R0 []) cz kz = G 241 263 [ez_scr, .ref 0, .ref 35, .int 0] [.int (xs 1), .ref 35, .int (-3)] (ev_hp ev_I0 ev_J0 ev_R0 []) cz kz := by
  intro G
  rfl
set_option maxRecDepth 100000 in
set_option maxHeartbeats 100000 in
theorem eo_ship_a_r10 (xs : Nat → Int32)  (cz kz : Nat) : ∀ G : ez_F, fx_up (4, xs) 2 G 241 263 [ez_scr, .ref 0, .ref 35, .int 0] [.int (xs 1), .ref 35, .int (-3)] (ev_hp ev_I0 ev_J0 ev_R0 []) cz kz = G 241 265 [ez_scr, .ref 0, .ref 35, .int 0] [.int 0, ez_scr, .int (xs 1), .ref 35, .int (-3)] (ev_hp ev_I0 ev_J0 ev_R0 []) cz kz := by
  intro G
  rfl
set_option maxRecDepth 100000 in
set_option maxHeartbeats 100000 in
theorem eo_ship_a_r11 (xs : Nat → Int32)  (cz kz : Nat) : ∀ G : ez_F, fx_up (4, xs) 2 G 241 265 [ez_scr, .ref 0, .ref 35, .int 0] [.int 0, ez_scr, .int (xs 1), .ref 35, .int (-3)] (ev_hp ev_I0 ev_J0 ev_R0 []) cz kz = G 241 267 [ez_scr, .ref 0, .ref 35, .int 0] [.int 2, ez_scr, .int (xs 1), .ref 35, .int (-3)] (ev_hp ev_I0 ev_J0 ev_R0 []) cz kz := by
  intro G
  rfl
set_option maxRecDepth 100000 in
set_option maxHeartbeats 100000 in
theorem eo_ship_a_r12 (xs : Nat → Int32)  (cz kz : Nat) : ∀ G : ez_F, fx_up (4, xs) 2 G 241 267 [ez_scr, .ref 0, .ref 35, .int 0] [.int 2, ez_scr, .int (xs 1), .ref 35, .int (-3)] (ev_hp ev_I0 ev_J0 ev_R0 []) cz kz = ev_C G 220 [.ref 35, .int (xs 1), .int (xs 2)] (ev_hp ev_I0 ev_J0 ev_R0 []) fun r h1 c1 k1 => G 241 271 [ez_scr, .ref 0, .ref 35, .int 0] (r.toList ++ [.int (-3)]) h1 (cz + c1) (kz + k1) := by
  intro G
  rfl
set_option maxRecDepth 100000 in
set_option maxHeartbeats 100000 in
theorem eo_ship_a_r13 (xs : Nat → Int32)  (cz kz : Nat) : ∀ G : ez_F, fx_up (4, xs) 2 G 241 271 [ez_scr, .ref 0, .ref 35, .int 0] [.int (-3), .int (-3)] (ev_hp ev_I0 ev_J0 ev_R0 []) cz kz = G 241 1078 [ez_scr, .ref 0, .ref 35, .int 4] [] (ev_hp ev_I0 ev_J0 ev_R0 []) cz kz := by
  intro G
  rfl
set_option maxRecDepth 100000 in
set_option maxHeartbeats 100000 in
theorem eo_ship_a_r14 (xs : Nat → Int32)  (cz kz : Nat) : ∀ G : ez_F, fx_up (4, xs) 2 G 241 1078 [ez_scr, .ref 0, .ref 35, .int 4] [] (ev_hp ev_I0 ev_J0 ev_R0 []) cz kz = G 241 19 [ez_scr, .ref 0, .ref 35, .int 4] [.int 4] (ev_hp ev_I0 ev_J0 ev_R0 []) cz kz := by
  intro G
  rfl
set_option maxRecDepth 100000 in
set_option maxHeartbeats 100000 in
theorem eo_ship_a_r15 (xs : Nat → Int32)  (cz kz : Nat) : ∀ G : ez_F, fx_up (4, xs) 2 G 241 19 [ez_scr, .ref 0, .ref 35, .int 4] [.int 4] (ev_hp ev_I0 ev_J0 ev_R0 []) cz kz = G 241 21 [ez_scr, .ref 0, .ref 35, .int 4] [.int 4, .int 4] (ev_hp ev_I0 ev_J0 ev_R0 []) cz kz := by
  intro G
  rfl
set_option maxRecDepth 100000 in
set_option maxHeartbeats 100000 in
theorem eo_ship_a_r16 (xs : Nat → Int32)  (cz kz : Nat) : ∀ G : ez_F, fx_up (4, xs) 2 G 241 21 [ez_scr, .ref 0, .ref 35, .int 4] [.int 4, .int 4] (ev_hp ev_I0 ev_J0 ev_R0 []) cz kz = G 241 23 [ez_scr, .ref 0, .ref 35, .int 4] [.int 0, .int 4] (ev_hp ev_I0 ev_J0 ev_R0 []) cz kz := by
  intro G
  rfl
set_option maxRecDepth 100000 in
set_option maxHeartbeats 100000 in
theorem eo_ship_a_r17 (xs : Nat → Int32)  (cz kz : Nat) : ∀ G : ez_F, fx_up (4, xs) 2 G 241 23 [ez_scr, .ref 0, .ref 35, .int 4] [.int 0, .int 4] (ev_hp ev_I0 ev_J0 ev_R0 []) cz kz = G 241 1082 [ez_scr, .ref 0, .ref 35, .int 4] [.int 1] (ev_hp ev_I0 ev_J0 ev_R0 []) cz kz := by
  intro G
  rfl
set_option maxRecDepth 100000 in
set_option maxHeartbeats 100000 in
theorem eo_ship_a_r18 (xs : Nat → Int32)  (cz kz : Nat) : ∀ G : ez_F, fx_up (4, xs) 1 G 241 1082 [ez_scr, .ref 0, .ref 35, .int 4] [.int 1] (ev_hp ev_I0 ev_J0 ev_R0 []) cz kz = some (some (.int 1), (ev_hp ev_I0 ev_J0 ev_R0 []), cz, kz) := by
  intro G
  rfl
set_option maxRecDepth 100000 in
set_option maxHeartbeats 100000 in
theorem eo_ship_a_r19 (xs : Nat → Int32)  (cz kz : Nat) : ∀ G : ez_F, fx_up (4, xs) 2 G 241 271 [ez_scr, .ref 0, .ref 35, .int 0] [.int (-3), .int (-3)] (ev_hp ev_I0 ev_J0 ev_R0 []) cz kz = G 241 1078 [ez_scr, .ref 0, .ref 35, .int 4] [] (ev_hp ev_I0 ev_J0 ev_R0 []) cz kz := by
  intro G
  rfl
set_option maxRecDepth 100000 in
set_option maxHeartbeats 100000 in
theorem eo_ship_a_r20 (xs : Nat → Int32)  (cz kz : Nat) : ∀ G : ez_F, fx_up (4, xs) 2 G 241 1078 [ez_scr, .ref 0, .ref 35, .int 4] [] (ev_hp ev_I0 ev_J0 ev_R0 []) cz kz = G 241 19 [ez_scr, .ref 0, .ref 35, .int 4] [.int 4] (ev_hp ev_I0 ev_J0 ev_R0 []) cz kz := by
  intro G
  rfl
set_option maxRecDepth 100000 in
set_option maxHeartbeats 100000 in
theorem eo_ship_a_r21 (xs : Nat → Int32)  (cz kz : Nat) : ∀ G : ez_F, fx_up (4, xs) 2 G 241 19 [ez_scr, .ref 0, .ref 35, .int 4] [.int 4] (ev_hp ev_I0 ev_J0 ev_R0 []) cz kz = G 241 21 [ez_scr, .ref 0, .ref 35, .int 4] [.int 4, .int 4] (ev_hp ev_I0 ev_J0 ev_R0 []) cz kz := by
  intro G
  rfl
set_option maxRecDepth 100000 in
set_option maxHeartbeats 100000 in
theorem eo_ship_a_r22 (xs : Nat → Int32)  (cz kz : Nat) : ∀ G : ez_F, fx_up (4, xs) 2 G 241 21 [ez_scr, .ref 0, .ref 35, .int 4] [.int 4, .int 4] (ev_hp ev_I0 ev_J0 ev_R0 []) cz kz = G 241 23 [ez_scr, .ref 0, .ref 35, .int 4] [.int 0, .int 4] (ev_hp ev_I0 ev_J0 ev_R0 []) cz kz := by
  intro G
  rfl
set_option maxRecDepth 100000 in
set_option maxHeartbeats 100000 in
theorem eo_ship_a_r23 (xs : Nat → Int32)  (cz kz : Nat) : ∀ G : ez_F, fx_up (4, xs) 2 G 241 23 [ez_scr, .ref 0, .ref 35, .int 4] [.int 0, .int 4] (ev_hp ev_I0 ev_J0 ev_R0 []) cz kz = G 241 1082 [ez_scr, .ref 0, .ref 35, .int 4] [.int 1] (ev_hp ev_I0 ev_J0 ev_R0 []) cz kz := by
  intro G
  rfl
set_option maxRecDepth 100000 in
set_option maxHeartbeats 100000 in
theorem eo_ship_a_r24 (xs : Nat → Int32)  (cz kz : Nat) : ∀ G : ez_F, fx_up (4, xs) 1 G 241 1082 [ez_scr, .ref 0, .ref 35, .int 4] [.int 1] (ev_hp ev_I0 ev_J0 ev_R0 []) cz kz = some (some (.int 1), (ev_hp ev_I0 ev_J0 ev_R0 []), cz, kz) := by
  intro G
  rfl
set_option maxRecDepth 100000 in
set_option maxHeartbeats 100000 in
theorem eo_ship_a_r25 (xs : Nat → Int32) (q166 : Int32) (cz kz : Nat) : ∀ G : ez_F, fx_up (4, xs) 1 G 241 271 [ez_scr, .ref 0, .ref 35, .int 0] [.int q166, .int (-3)] (ev_hp (ev_sI (ev_sI (ev_sI ev_I0 35 (upd (ev_I0 35) 3 ((0 : Int32) + (1 : Int32)))) 36 (upd (ev_I0 36) (0 : Int32).toNatClampNeg (xs 1))) 37 (upd (ev_I0 37) (0 : Int32).toNatClampNeg (xs 2))) ev_J0 ev_R0 []) cz kz = bif decide (((-3) : Int32) = q166) then G 241 1075 [ez_scr, .ref 0, .ref 35, .int 0] [] (ev_hp (ev_sI (ev_sI (ev_sI ev_I0 35 (upd (ev_I0 35) 3 ((0 : Int32) + (1 : Int32)))) 36 (upd (ev_I0 36) (0 : Int32).toNatClampNeg (xs 1))) 37 (upd (ev_I0 37) (0 : Int32).toNatClampNeg (xs 2))) ev_J0 ev_R0 []) cz kz else G 241 274 [ez_scr, .ref 0, .ref 35, .int 0] [] (ev_hp (ev_sI (ev_sI (ev_sI ev_I0 35 (upd (ev_I0 35) 3 ((0 : Int32) + (1 : Int32)))) 36 (upd (ev_I0 36) (0 : Int32).toNatClampNeg (xs 1))) 37 (upd (ev_I0 37) (0 : Int32).toNatClampNeg (xs 2))) ev_J0 ev_R0 []) cz kz := by
  intro G
  rfl
set_option maxRecDepth 100000 in
set_option maxHeartbeats 100000 in
theorem eo_ship_a_r26 (xs : Nat → Int32) (q166 : Int32) (cz kz : Nat) : ∀ G : ez_F, fx_up (4, xs) 2 G 241 1075 [ez_scr, .ref 0, .ref 35, .int 0] [] (ev_hp (ev_sI (ev_sI (ev_sI ev_I0 35 (upd (ev_I0 35) 3 ((0 : Int32) + (1 : Int32)))) 36 (upd (ev_I0 36) (0 : Int32).toNatClampNeg (xs 1))) 37 (upd (ev_I0 37) (0 : Int32).toNatClampNeg (xs 2))) ev_J0 ev_R0 []) cz kz = G 241 18 [ez_scr, .ref 0, .ref 35, .int 4] [] (ev_hp (ev_sI (ev_sI (ev_sI ev_I0 35 (upd (ev_I0 35) 3 ((0 : Int32) + (1 : Int32)))) 36 (upd (ev_I0 36) (0 : Int32).toNatClampNeg (xs 1))) 37 (upd (ev_I0 37) (0 : Int32).toNatClampNeg (xs 2))) ev_J0 ev_R0 []) cz kz := by
  intro G
  rfl
set_option maxRecDepth 100000 in
set_option maxHeartbeats 100000 in
theorem eo_ship_a_r27 (xs : Nat → Int32) (q166 : Int32) (cz kz : Nat) : ∀ G : ez_F, fx_up (4, xs) 2 G 241 18 [ez_scr, .ref 0, .ref 35, .int 4] [] (ev_hp (ev_sI (ev_sI (ev_sI ev_I0 35 (upd (ev_I0 35) 3 ((0 : Int32) + (1 : Int32)))) 36 (upd (ev_I0 36) (0 : Int32).toNatClampNeg (xs 1))) 37 (upd (ev_I0 37) (0 : Int32).toNatClampNeg (xs 2))) ev_J0 ev_R0 []) cz kz = G 241 20 [ez_scr, .ref 0, .ref 35, .int 4] [ez_scr, .int 4] (ev_hp (ev_sI (ev_sI (ev_sI ev_I0 35 (upd (ev_I0 35) 3 ((0 : Int32) + (1 : Int32)))) 36 (upd (ev_I0 36) (0 : Int32).toNatClampNeg (xs 1))) 37 (upd (ev_I0 37) (0 : Int32).toNatClampNeg (xs 2))) ev_J0 ev_R0 []) cz kz := by
  intro G
  rfl
set_option maxRecDepth 100000 in
set_option maxHeartbeats 100000 in
theorem eo_ship_a_r28 (xs : Nat → Int32) (q166 : Int32) (cz kz : Nat) : ∀ G : ez_F, fx_up (4, xs) 2 G 241 20 [ez_scr, .ref 0, .ref 35, .int 4] [ez_scr, .int 4] (ev_hp (ev_sI (ev_sI (ev_sI ev_I0 35 (upd (ev_I0 35) 3 ((0 : Int32) + (1 : Int32)))) 36 (upd (ev_I0 36) (0 : Int32).toNatClampNeg (xs 1))) 37 (upd (ev_I0 37) (0 : Int32).toNatClampNeg (xs 2))) ev_J0 ev_R0 []) cz kz = G 241 22 [ez_scr, .ref 0, .ref 35, .int 4] [.int 4, .int 4, .int 4] (ev_hp (ev_sI (ev_sI (ev_sI ev_I0 35 (upd (ev_I0 35) 3 ((0 : Int32) + (1 : Int32)))) 36 (upd (ev_I0 36) (0 : Int32).toNatClampNeg (xs 1))) 37 (upd (ev_I0 37) (0 : Int32).toNatClampNeg (xs 2))) ev_J0 ev_R0 []) cz kz := by
  intro G
  rfl
set_option maxRecDepth 100000 in
set_option maxHeartbeats 100000 in
theorem eo_ship_a_r29 (xs : Nat → Int32) (q166 : Int32) (cz kz : Nat) : ∀ G : ez_F, fx_up (4, xs) 2 G 241 22 [ez_scr, .ref 0, .ref 35, .int 4] [.int 4, .int 4, .int 4] (ev_hp (ev_sI (ev_sI (ev_sI ev_I0 35 (upd (ev_I0 35) 3 ((0 : Int32) + (1 : Int32)))) 36 (upd (ev_I0 36) (0 : Int32).toNatClampNeg (xs 1))) 37 (upd (ev_I0 37) (0 : Int32).toNatClampNeg (xs 2))) ev_J0 ev_R0 []) cz kz = G 241 1081 [ez_scr, .ref 0, .ref 35, .int 4] [] (ev_hp (ev_sI (ev_sI (ev_sI ev_I0 35 (upd (ev_I0 35) 3 ((0 : Int32) + (1 : Int32)))) 36 (upd (ev_I0 36) (0 : Int32).toNatClampNeg (xs 1))) 37 (upd (ev_I0 37) (0 : Int32).toNatClampNeg (xs 2))) ev_J0 ev_R0 []) cz kz := by
  intro G
  rfl
set_option maxRecDepth 100000 in
set_option maxHeartbeats 100000 in
theorem eo_ship_a_r30 (xs : Nat → Int32) (q166 : Int32) (cz kz : Nat) : ∀ G : ez_F, fx_up (4, xs) 2 G 241 1081 [ez_scr, .ref 0, .ref 35, .int 4] [] (ev_hp (ev_sI (ev_sI (ev_sI ev_I0 35 (upd (ev_I0 35) 3 ((0 : Int32) + (1 : Int32)))) 36 (upd (ev_I0 36) (0 : Int32).toNatClampNeg (xs 1))) 37 (upd (ev_I0 37) (0 : Int32).toNatClampNeg (xs 2))) ev_J0 ev_R0 []) cz kz = some (some (.int 1), (ev_hp (ev_sI (ev_sI (ev_sI ev_I0 35 (upd (ev_I0 35) 3 ((0 : Int32) + (1 : Int32)))) 36 (upd (ev_I0 36) (0 : Int32).toNatClampNeg (xs 1))) 37 (upd (ev_I0 37) (0 : Int32).toNatClampNeg (xs 2))) ev_J0 ev_R0 []), cz, kz) := by
  intro G
  rfl
set_option maxRecDepth 100000 in
set_option maxHeartbeats 100000 in
theorem eo_ship_a_r31 (xs : Nat → Int32)  (cz kz : Nat) : ∀ G : ez_F, fx_up (4, xs) 2 G 241 271 [ez_scr, .ref 0, .ref 35, .int 0] [.int (-3), .int (-3)] (ev_hp ev_I0 ev_J0 ev_R0 []) cz kz = G 241 1078 [ez_scr, .ref 0, .ref 35, .int 4] [] (ev_hp ev_I0 ev_J0 ev_R0 []) cz kz := by
  intro G
  rfl
set_option maxRecDepth 100000 in
set_option maxHeartbeats 100000 in
theorem eo_ship_a_r32 (xs : Nat → Int32)  (cz kz : Nat) : ∀ G : ez_F, fx_up (4, xs) 2 G 241 1078 [ez_scr, .ref 0, .ref 35, .int 4] [] (ev_hp ev_I0 ev_J0 ev_R0 []) cz kz = G 241 19 [ez_scr, .ref 0, .ref 35, .int 4] [.int 4] (ev_hp ev_I0 ev_J0 ev_R0 []) cz kz := by
  intro G
  rfl
set_option maxRecDepth 100000 in
set_option maxHeartbeats 100000 in
theorem eo_ship_a_r33 (xs : Nat → Int32)  (cz kz : Nat) : ∀ G : ez_F, fx_up (4, xs) 2 G 241 19 [ez_scr, .ref 0, .ref 35, .int 4] [.int 4] (ev_hp ev_I0 ev_J0 ev_R0 []) cz kz = G 241 21 [ez_scr, .ref 0, .ref 35, .int 4] [.int 4, .int 4] (ev_hp ev_I0 ev_J0 ev_R0 []) cz kz := by
  intro G
  rfl
set_option maxRecDepth 100000 in
set_option maxHeartbeats 100000 in
theorem eo_ship_a_r34 (xs : Nat → Int32)  (cz kz : Nat) : ∀ G : ez_F, fx_up (4, xs) 2 G 241 21 [ez_scr, .ref 0, .ref 35, .int 4] [.int 4, .int 4] (ev_hp ev_I0 ev_J0 ev_R0 []) cz kz = G 241 23 [ez_scr, .ref 0, .ref 35, .int 4] [.int 0, .int 4] (ev_hp ev_I0 ev_J0 ev_R0 []) cz kz := by
  intro G
  rfl
set_option maxRecDepth 100000 in
set_option maxHeartbeats 100000 in
theorem eo_ship_a_r35 (xs : Nat → Int32)  (cz kz : Nat) : ∀ G : ez_F, fx_up (4, xs) 2 G 241 23 [ez_scr, .ref 0, .ref 35, .int 4] [.int 0, .int 4] (ev_hp ev_I0 ev_J0 ev_R0 []) cz kz = G 241 1082 [ez_scr, .ref 0, .ref 35, .int 4] [.int 1] (ev_hp ev_I0 ev_J0 ev_R0 []) cz kz := by
  intro G
  rfl
set_option maxRecDepth 100000 in
set_option maxHeartbeats 100000 in
theorem eo_ship_a_r36 (xs : Nat → Int32)  (cz kz : Nat) : ∀ G : ez_F, fx_up (4, xs) 1 G 241 1082 [ez_scr, .ref 0, .ref 35, .int 4] [.int 1] (ev_hp ev_I0 ev_J0 ev_R0 []) cz kz = some (some (.int 1), (ev_hp ev_I0 ev_J0 ev_R0 []), cz, kz) := by
  intro G
  rfl
set_option maxRecDepth 100000 in
set_option maxHeartbeats 100000 in
theorem eo_ship_a_r37 (xs : Nat → Int32)  (cz kz : Nat) : ∀ G : ez_F, fx_up (4, xs) 2 G 241 257 [ez_scr, .ref 0, .ref 35, .int 0] [.int (-3)] (ev_hp ev_I0 ev_J0 ev_R0 []) cz kz = G 241 259 [ez_scr, .ref 0, .ref 35, .int 0] [ez_scr, .ref 35, .int (-3)] (ev_hp ev_I0 ev_J0 ev_R0 []) cz kz := by
  intro G
  rfl
set_option maxRecDepth 100000 in
set_option maxHeartbeats 100000 in
theorem eo_ship_a_r38 (xs : Nat → Int32)  (cz kz : Nat) : ∀ G : ez_F, fx_up (4, xs) 2 G 241 259 [ez_scr, .ref 0, .ref 35, .int 0] [ez_scr, .ref 35, .int (-3)] (ev_hp ev_I0 ev_J0 ev_R0 []) cz kz = G 241 261 [ez_scr, .ref 0, .ref 35, .int 0] [.int 1, .int 0, ez_scr, .ref 35, .int (-3)] (ev_hp ev_I0 ev_J0 ev_R0 []) cz kz := by
  intro G
  rfl
set_option maxRecDepth 100000 in
set_option maxHeartbeats 100000 in
theorem eo_ship_a_r39 (xs : Nat → Int32)  (cz kz : Nat) : ∀ G : ez_F, fx_up (4, xs) 2 G 241 261 [ez_scr, .ref 0, .ref 35, .int 0] [.int 1, .int 0, ez_scr, .ref 35, .int (-3)] (ev_hp ev_I0 ev_J0 ev_R0 []) cz kz = G 241 263 [ez_scr, .ref 0, .ref 35, .int 0] [.int (xs 1), .ref 35, .int (-3)] (ev_hp ev_I0 ev_J0 ev_R0 []) cz kz := by
  intro G
  rfl
set_option maxRecDepth 100000 in
set_option maxHeartbeats 100000 in
theorem eo_ship_a_r40 (xs : Nat → Int32)  (cz kz : Nat) : ∀ G : ez_F, fx_up (4, xs) 2 G 241 263 [ez_scr, .ref 0, .ref 35, .int 0] [.int (xs 1), .ref 35, .int (-3)] (ev_hp ev_I0 ev_J0 ev_R0 []) cz kz = G 241 265 [ez_scr, .ref 0, .ref 35, .int 0] [.int 0, ez_scr, .int (xs 1), .ref 35, .int (-3)] (ev_hp ev_I0 ev_J0 ev_R0 []) cz kz := by
  intro G
  rfl
set_option maxRecDepth 100000 in
set_option maxHeartbeats 100000 in
theorem eo_ship_a_r41 (xs : Nat → Int32)  (cz kz : Nat) : ∀ G : ez_F, fx_up (4, xs) 2 G 241 265 [ez_scr, .ref 0, .ref 35, .int 0] [.int 0, ez_scr, .int (xs 1), .ref 35, .int (-3)] (ev_hp ev_I0 ev_J0 ev_R0 []) cz kz = G 241 267 [ez_scr, .ref 0, .ref 35, .int 0] [.int 2, ez_scr, .int (xs 1), .ref 35, .int (-3)] (ev_hp ev_I0 ev_J0 ev_R0 []) cz kz := by
  intro G
  rfl
set_option maxRecDepth 100000 in
set_option maxHeartbeats 100000 in
theorem eo_ship_a_r42 (xs : Nat → Int32)  (cz kz : Nat) : ∀ G : ez_F, fx_up (4, xs) 2 G 241 267 [ez_scr, .ref 0, .ref 35, .int 0] [.int 2, ez_scr, .int (xs 1), .ref 35, .int (-3)] (ev_hp ev_I0 ev_J0 ev_R0 []) cz kz = ev_C G 220 [.ref 35, .int (xs 1), .int (xs 2)] (ev_hp ev_I0 ev_J0 ev_R0 []) fun r h1 c1 k1 => G 241 271 [ez_scr, .ref 0, .ref 35, .int 0] (r.toList ++ [.int (-3)]) h1 (cz + c1) (kz + k1) := by
  intro G
  rfl
set_option maxRecDepth 100000 in
set_option maxHeartbeats 100000 in
theorem eo_ship_a_r43 (xs : Nat → Int32)  (cz kz : Nat) : ∀ G : ez_F, fx_up (4, xs) 2 G 241 271 [ez_scr, .ref 0, .ref 35, .int 0] [.int (-3), .int (-3)] (ev_hp ev_I0 ev_J0 ev_R0 []) cz kz = G 241 1078 [ez_scr, .ref 0, .ref 35, .int 4] [] (ev_hp ev_I0 ev_J0 ev_R0 []) cz kz := by
  intro G
  rfl
set_option maxRecDepth 100000 in
set_option maxHeartbeats 100000 in
theorem eo_ship_a_r44 (xs : Nat → Int32)  (cz kz : Nat) : ∀ G : ez_F, fx_up (4, xs) 2 G 241 1078 [ez_scr, .ref 0, .ref 35, .int 4] [] (ev_hp ev_I0 ev_J0 ev_R0 []) cz kz = G 241 19 [ez_scr, .ref 0, .ref 35, .int 4] [.int 4] (ev_hp ev_I0 ev_J0 ev_R0 []) cz kz := by
  intro G
  rfl
set_option maxRecDepth 100000 in
set_option maxHeartbeats 100000 in
theorem eo_ship_a_r45 (xs : Nat → Int32)  (cz kz : Nat) : ∀ G : ez_F, fx_up (4, xs) 2 G 241 19 [ez_scr, .ref 0, .ref 35, .int 4] [.int 4] (ev_hp ev_I0 ev_J0 ev_R0 []) cz kz = G 241 21 [ez_scr, .ref 0, .ref 35, .int 4] [.int 4, .int 4] (ev_hp ev_I0 ev_J0 ev_R0 []) cz kz := by
  intro G
  rfl
set_option maxRecDepth 100000 in
set_option maxHeartbeats 100000 in
theorem eo_ship_a_r46 (xs : Nat → Int32)  (cz kz : Nat) : ∀ G : ez_F, fx_up (4, xs) 2 G 241 21 [ez_scr, .ref 0, .ref 35, .int 4] [.int 4, .int 4] (ev_hp ev_I0 ev_J0 ev_R0 []) cz kz = G 241 23 [ez_scr, .ref 0, .ref 35, .int 4] [.int 0, .int 4] (ev_hp ev_I0 ev_J0 ev_R0 []) cz kz := by
  intro G
  rfl
set_option maxRecDepth 100000 in
set_option maxHeartbeats 100000 in
theorem eo_ship_a_r47 (xs : Nat → Int32)  (cz kz : Nat) : ∀ G : ez_F, fx_up (4, xs) 2 G 241 23 [ez_scr, .ref 0, .ref 35, .int 4] [.int 0, .int 4] (ev_hp ev_I0 ev_J0 ev_R0 []) cz kz = G 241 1082 [ez_scr, .ref 0, .ref 35, .int 4] [.int 1] (ev_hp ev_I0 ev_J0 ev_R0 []) cz kz := by
  intro G
  rfl
set_option maxRecDepth 100000 in
set_option maxHeartbeats 100000 in
theorem eo_ship_a_r48 (xs : Nat → Int32)  (cz kz : Nat) : ∀ G : ez_F, fx_up (4, xs) 1 G 241 1082 [ez_scr, .ref 0, .ref 35, .int 4] [.int 1] (ev_hp ev_I0 ev_J0 ev_R0 []) cz kz = some (some (.int 1), (ev_hp ev_I0 ev_J0 ev_R0 []), cz, kz) := by
  intro G
  rfl
set_option maxRecDepth 100000 in
set_option maxHeartbeats 100000 in
theorem eo_ship_a_r49 (xs : Nat → Int32)  (cz kz : Nat) : ∀ G : ez_F, fx_up (4, xs) 2 G 241 271 [ez_scr, .ref 0, .ref 35, .int 0] [.int (-3), .int (-3)] (ev_hp ev_I0 ev_J0 ev_R0 []) cz kz = G 241 1078 [ez_scr, .ref 0, .ref 35, .int 4] [] (ev_hp ev_I0 ev_J0 ev_R0 []) cz kz := by
  intro G
  rfl
set_option maxRecDepth 100000 in
set_option maxHeartbeats 100000 in
theorem eo_ship_a_r50 (xs : Nat → Int32)  (cz kz : Nat) : ∀ G : ez_F, fx_up (4, xs) 2 G 241 1078 [ez_scr, .ref 0, .ref 35, .int 4] [] (ev_hp ev_I0 ev_J0 ev_R0 []) cz kz = G 241 19 [ez_scr, .ref 0, .ref 35, .int 4] [.int 4] (ev_hp ev_I0 ev_J0 ev_R0 []) cz kz := by
  intro G
  rfl
set_option maxRecDepth 100000 in
set_option maxHeartbeats 100000 in
theorem eo_ship_a_r51 (xs : Nat → Int32)  (cz kz : Nat) : ∀ G : ez_F, fx_up (4, xs) 2 G 241 19 [ez_scr, .ref 0, .ref 35, .int 4] [.int 4] (ev_hp ev_I0 ev_J0 ev_R0 []) cz kz = G 241 21 [ez_scr, .ref 0, .ref 35, .int 4] [.int 4, .int 4] (ev_hp ev_I0 ev_J0 ev_R0 []) cz kz := by
  intro G
  rfl
set_option maxRecDepth 100000 in
set_option maxHeartbeats 100000 in
theorem eo_ship_a_r52 (xs : Nat → Int32)  (cz kz : Nat) : ∀ G : ez_F, fx_up (4, xs) 2 G 241 21 [ez_scr, .ref 0, .ref 35, .int 4] [.int 4, .int 4] (ev_hp ev_I0 ev_J0 ev_R0 []) cz kz = G 241 23 [ez_scr, .ref 0, .ref 35, .int 4] [.int 0, .int 4] (ev_hp ev_I0 ev_J0 ev_R0 []) cz kz := by
  intro G
  rfl
set_option maxRecDepth 100000 in
set_option maxHeartbeats 100000 in
theorem eo_ship_a_r53 (xs : Nat → Int32)  (cz kz : Nat) : ∀ G : ez_F, fx_up (4, xs) 2 G 241 23 [ez_scr, .ref 0, .ref 35, .int 4] [.int 0, .int 4] (ev_hp ev_I0 ev_J0 ev_R0 []) cz kz = G 241 1082 [ez_scr, .ref 0, .ref 35, .int 4] [.int 1] (ev_hp ev_I0 ev_J0 ev_R0 []) cz kz := by
  intro G
  rfl
set_option maxRecDepth 100000 in
set_option maxHeartbeats 100000 in
theorem eo_ship_a_r54 (xs : Nat → Int32)  (cz kz : Nat) : ∀ G : ez_F, fx_up (4, xs) 1 G 241 1082 [ez_scr, .ref 0, .ref 35, .int 4] [.int 1] (ev_hp ev_I0 ev_J0 ev_R0 []) cz kz = some (some (.int 1), (ev_hp ev_I0 ev_J0 ev_R0 []), cz, kz) := by
  intro G
  rfl
set_option maxRecDepth 100000 in
set_option maxHeartbeats 100000 in
theorem eo_ship_a_r55 (xs : Nat → Int32) (q167 : Int32) (cz kz : Nat) : ∀ G : ez_F, fx_up (4, xs) 1 G 241 271 [ez_scr, .ref 0, .ref 35, .int 0] [.int q167, .int (-3)] (ev_hp (ev_sI (ev_sI (ev_sI ev_I0 35 (upd (ev_I0 35) 3 ((0 : Int32) + (1 : Int32)))) 36 (upd (ev_I0 36) (0 : Int32).toNatClampNeg (xs 1))) 37 (upd (ev_I0 37) (0 : Int32).toNatClampNeg (xs 2))) ev_J0 ev_R0 []) cz kz = bif decide (((-3) : Int32) = q167) then G 241 1075 [ez_scr, .ref 0, .ref 35, .int 0] [] (ev_hp (ev_sI (ev_sI (ev_sI ev_I0 35 (upd (ev_I0 35) 3 ((0 : Int32) + (1 : Int32)))) 36 (upd (ev_I0 36) (0 : Int32).toNatClampNeg (xs 1))) 37 (upd (ev_I0 37) (0 : Int32).toNatClampNeg (xs 2))) ev_J0 ev_R0 []) cz kz else G 241 274 [ez_scr, .ref 0, .ref 35, .int 0] [] (ev_hp (ev_sI (ev_sI (ev_sI ev_I0 35 (upd (ev_I0 35) 3 ((0 : Int32) + (1 : Int32)))) 36 (upd (ev_I0 36) (0 : Int32).toNatClampNeg (xs 1))) 37 (upd (ev_I0 37) (0 : Int32).toNatClampNeg (xs 2))) ev_J0 ev_R0 []) cz kz := by
  intro G
  rfl
set_option maxRecDepth 100000 in
set_option maxHeartbeats 100000 in
theorem eo_ship_a_r56 (xs : Nat → Int32) (q167 : Int32) (cz kz : Nat) : ∀ G : ez_F, fx_up (4, xs) 2 G 241 1075 [ez_scr, .ref 0, .ref 35, .int 0] [] (ev_hp (ev_sI (ev_sI (ev_sI ev_I0 35 (upd (ev_I0 35) 3 ((0 : Int32) + (1 : Int32)))) 36 (upd (ev_I0 36) (0 : Int32).toNatClampNeg (xs 1))) 37 (upd (ev_I0 37) (0 : Int32).toNatClampNeg (xs 2))) ev_J0 ev_R0 []) cz kz = G 241 18 [ez_scr, .ref 0, .ref 35, .int 4] [] (ev_hp (ev_sI (ev_sI (ev_sI ev_I0 35 (upd (ev_I0 35) 3 ((0 : Int32) + (1 : Int32)))) 36 (upd (ev_I0 36) (0 : Int32).toNatClampNeg (xs 1))) 37 (upd (ev_I0 37) (0 : Int32).toNatClampNeg (xs 2))) ev_J0 ev_R0 []) cz kz := by
  intro G
  rfl
set_option maxRecDepth 100000 in
set_option maxHeartbeats 100000 in
theorem eo_ship_a_r57 (xs : Nat → Int32) (q167 : Int32) (cz kz : Nat) : ∀ G : ez_F, fx_up (4, xs) 2 G 241 18 [ez_scr, .ref 0, .ref 35, .int 4] [] (ev_hp (ev_sI (ev_sI (ev_sI ev_I0 35 (upd (ev_I0 35) 3 ((0 : Int32) + (1 : Int32)))) 36 (upd (ev_I0 36) (0 : Int32).toNatClampNeg (xs 1))) 37 (upd (ev_I0 37) (0 : Int32).toNatClampNeg (xs 2))) ev_J0 ev_R0 []) cz kz = G 241 20 [ez_scr, .ref 0, .ref 35, .int 4] [ez_scr, .int 4] (ev_hp (ev_sI (ev_sI (ev_sI ev_I0 35 (upd (ev_I0 35) 3 ((0 : Int32) + (1 : Int32)))) 36 (upd (ev_I0 36) (0 : Int32).toNatClampNeg (xs 1))) 37 (upd (ev_I0 37) (0 : Int32).toNatClampNeg (xs 2))) ev_J0 ev_R0 []) cz kz := by
  intro G
  rfl
set_option maxRecDepth 100000 in
set_option maxHeartbeats 100000 in
theorem eo_ship_a_r58 (xs : Nat → Int32) (q167 : Int32) (cz kz : Nat) : ∀ G : ez_F, fx_up (4, xs) 2 G 241 20 [ez_scr, .ref 0, .ref 35, .int 4] [ez_scr, .int 4] (ev_hp (ev_sI (ev_sI (ev_sI ev_I0 35 (upd (ev_I0 35) 3 ((0 : Int32) + (1 : Int32)))) 36 (upd (ev_I0 36) (0 : Int32).toNatClampNeg (xs 1))) 37 (upd (ev_I0 37) (0 : Int32).toNatClampNeg (xs 2))) ev_J0 ev_R0 []) cz kz = G 241 22 [ez_scr, .ref 0, .ref 35, .int 4] [.int 4, .int 4, .int 4] (ev_hp (ev_sI (ev_sI (ev_sI ev_I0 35 (upd (ev_I0 35) 3 ((0 : Int32) + (1 : Int32)))) 36 (upd (ev_I0 36) (0 : Int32).toNatClampNeg (xs 1))) 37 (upd (ev_I0 37) (0 : Int32).toNatClampNeg (xs 2))) ev_J0 ev_R0 []) cz kz := by
  intro G
  rfl
set_option maxRecDepth 100000 in
set_option maxHeartbeats 100000 in
theorem eo_ship_a_r59 (xs : Nat → Int32) (q167 : Int32) (cz kz : Nat) : ∀ G : ez_F, fx_up (4, xs) 2 G 241 22 [ez_scr, .ref 0, .ref 35, .int 4] [.int 4, .int 4, .int 4] (ev_hp (ev_sI (ev_sI (ev_sI ev_I0 35 (upd (ev_I0 35) 3 ((0 : Int32) + (1 : Int32)))) 36 (upd (ev_I0 36) (0 : Int32).toNatClampNeg (xs 1))) 37 (upd (ev_I0 37) (0 : Int32).toNatClampNeg (xs 2))) ev_J0 ev_R0 []) cz kz = G 241 1081 [ez_scr, .ref 0, .ref 35, .int 4] [] (ev_hp (ev_sI (ev_sI (ev_sI ev_I0 35 (upd (ev_I0 35) 3 ((0 : Int32) + (1 : Int32)))) 36 (upd (ev_I0 36) (0 : Int32).toNatClampNeg (xs 1))) 37 (upd (ev_I0 37) (0 : Int32).toNatClampNeg (xs 2))) ev_J0 ev_R0 []) cz kz := by
  intro G
  rfl
set_option maxRecDepth 100000 in
set_option maxHeartbeats 100000 in
theorem eo_ship_a_r60 (xs : Nat → Int32) (q167 : Int32) (cz kz : Nat) : ∀ G : ez_F, fx_up (4, xs) 2 G 241 1081 [ez_scr, .ref 0, .ref 35, .int 4] [] (ev_hp (ev_sI (ev_sI (ev_sI ev_I0 35 (upd (ev_I0 35) 3 ((0 : Int32) + (1 : Int32)))) 36 (upd (ev_I0 36) (0 : Int32).toNatClampNeg (xs 1))) 37 (upd (ev_I0 37) (0 : Int32).toNatClampNeg (xs 2))) ev_J0 ev_R0 []) cz kz = some (some (.int 1), (ev_hp (ev_sI (ev_sI (ev_sI ev_I0 35 (upd (ev_I0 35) 3 ((0 : Int32) + (1 : Int32)))) 36 (upd (ev_I0 36) (0 : Int32).toNatClampNeg (xs 1))) 37 (upd (ev_I0 37) (0 : Int32).toNatClampNeg (xs 2))) ev_J0 ev_R0 []), cz, kz) := by
  intro G
  rfl
set_option maxRecDepth 100000 in
set_option maxHeartbeats 100000 in
theorem eo_ship_a_r61 (xs : Nat → Int32)  (cz kz : Nat) : ∀ G : ez_F, fx_up (4, xs) 2 G 241 271 [ez_scr, .ref 0, .ref 35, .int 0] [.int (-3), .int (-3)] (ev_hp ev_I0 ev_J0 ev_R0 []) cz kz = G 241 1078 [ez_scr, .ref 0, .ref 35, .int 4] [] (ev_hp ev_I0 ev_J0 ev_R0 []) cz kz := by
  intro G
  rfl
set_option maxRecDepth 100000 in
set_option maxHeartbeats 100000 in
theorem eo_ship_a_r62 (xs : Nat → Int32)  (cz kz : Nat) : ∀ G : ez_F, fx_up (4, xs) 2 G 241 1078 [ez_scr, .ref 0, .ref 35, .int 4] [] (ev_hp ev_I0 ev_J0 ev_R0 []) cz kz = G 241 19 [ez_scr, .ref 0, .ref 35, .int 4] [.int 4] (ev_hp ev_I0 ev_J0 ev_R0 []) cz kz := by
  intro G
  rfl
set_option maxRecDepth 100000 in
set_option maxHeartbeats 100000 in
theorem eo_ship_a_r63 (xs : Nat → Int32)  (cz kz : Nat) : ∀ G : ez_F, fx_up (4, xs) 2 G 241 19 [ez_scr, .ref 0, .ref 35, .int 4] [.int 4] (ev_hp ev_I0 ev_J0 ev_R0 []) cz kz = G 241 21 [ez_scr, .ref 0, .ref 35, .int 4] [.int 4, .int 4] (ev_hp ev_I0 ev_J0 ev_R0 []) cz kz := by
  intro G
  rfl
set_option maxRecDepth 100000 in
set_option maxHeartbeats 100000 in
theorem eo_ship_a_r64 (xs : Nat → Int32)  (cz kz : Nat) : ∀ G : ez_F, fx_up (4, xs) 2 G 241 21 [ez_scr, .ref 0, .ref 35, .int 4] [.int 4, .int 4] (ev_hp ev_I0 ev_J0 ev_R0 []) cz kz = G 241 23 [ez_scr, .ref 0, .ref 35, .int 4] [.int 0, .int 4] (ev_hp ev_I0 ev_J0 ev_R0 []) cz kz := by
  intro G
  rfl
set_option maxRecDepth 100000 in
set_option maxHeartbeats 100000 in
theorem eo_ship_a_r65 (xs : Nat → Int32)  (cz kz : Nat) : ∀ G : ez_F, fx_up (4, xs) 2 G 241 23 [ez_scr, .ref 0, .ref 35, .int 4] [.int 0, .int 4] (ev_hp ev_I0 ev_J0 ev_R0 []) cz kz = G 241 1082 [ez_scr, .ref 0, .ref 35, .int 4] [.int 1] (ev_hp ev_I0 ev_J0 ev_R0 []) cz kz := by
  intro G
  rfl
set_option maxRecDepth 100000 in
set_option maxHeartbeats 100000 in
theorem eo_ship_a_r66 (xs : Nat → Int32)  (cz kz : Nat) : ∀ G : ez_F, fx_up (4, xs) 1 G 241 1082 [ez_scr, .ref 0, .ref 35, .int 4] [.int 1] (ev_hp ev_I0 ev_J0 ev_R0 []) cz kz = some (some (.int 1), (ev_hp ev_I0 ev_J0 ev_R0 []), cz, kz) := by
  intro G
  rfl
set_option maxRecDepth 100000 in
set_option maxHeartbeats 100000 in
theorem eo_ship_a_r67 (xs : Nat → Int32) (x207 : Nat → Int32) (x208 : Nat → Int64) (cz kz : Nat) : ∀ G : ez_F, fx_up (4, xs) 2 G 241 257 [ez_scr, .ref 0, .ref 35, .int 0] [.int 0] (ev_hp (ev_sI (ev_sI (ev_sI (ev_sI (ev_sI (ev_sI ev_I0 3 (upd (ev_I0 3) 3 1)) 5 x207) 6 (upd (ev_I0 6) 4 0)) 13 (upd (upd (ev_I0 13) 8 0) 9 0)) 20 (upd (ev_I0 20) 3 0)) 22 (upd (upd (ev_I0 22) 8 0) 11 (-1))) (ev_sJ ev_J0 4 x208) ev_R0 []) cz kz = G 241 259 [ez_scr, .ref 0, .ref 35, .int 0] [ez_scr, .ref 35, .int 0] (ev_hp (ev_sI (ev_sI (ev_sI (ev_sI (ev_sI (ev_sI ev_I0 3 (upd (ev_I0 3) 3 1)) 5 x207) 6 (upd (ev_I0 6) 4 0)) 13 (upd (upd (ev_I0 13) 8 0) 9 0)) 20 (upd (ev_I0 20) 3 0)) 22 (upd (upd (ev_I0 22) 8 0) 11 (-1))) (ev_sJ ev_J0 4 x208) ev_R0 []) cz kz := by
  intro G
  rfl
set_option maxRecDepth 100000 in
set_option maxHeartbeats 100000 in
theorem eo_ship_a_r68 (xs : Nat → Int32) (x207 : Nat → Int32) (x208 : Nat → Int64) (cz kz : Nat) : ∀ G : ez_F, fx_up (4, xs) 2 G 241 259 [ez_scr, .ref 0, .ref 35, .int 0] [ez_scr, .ref 35, .int 0] (ev_hp (ev_sI (ev_sI (ev_sI (ev_sI (ev_sI (ev_sI ev_I0 3 (upd (ev_I0 3) 3 1)) 5 x207) 6 (upd (ev_I0 6) 4 0)) 13 (upd (upd (ev_I0 13) 8 0) 9 0)) 20 (upd (ev_I0 20) 3 0)) 22 (upd (upd (ev_I0 22) 8 0) 11 (-1))) (ev_sJ ev_J0 4 x208) ev_R0 []) cz kz = G 241 261 [ez_scr, .ref 0, .ref 35, .int 0] [.int 1, .int 0, ez_scr, .ref 35, .int 0] (ev_hp (ev_sI (ev_sI (ev_sI (ev_sI (ev_sI (ev_sI ev_I0 3 (upd (ev_I0 3) 3 1)) 5 x207) 6 (upd (ev_I0 6) 4 0)) 13 (upd (upd (ev_I0 13) 8 0) 9 0)) 20 (upd (ev_I0 20) 3 0)) 22 (upd (upd (ev_I0 22) 8 0) 11 (-1))) (ev_sJ ev_J0 4 x208) ev_R0 []) cz kz := by
  intro G
  rfl
set_option maxRecDepth 100000 in
set_option maxHeartbeats 100000 in
theorem eo_ship_a_r69 (xs : Nat → Int32) (x207 : Nat → Int32) (x208 : Nat → Int64) (cz kz : Nat) : ∀ G : ez_F, fx_up (4, xs) 2 G 241 261 [ez_scr, .ref 0, .ref 35, .int 0] [.int 1, .int 0, ez_scr, .ref 35, .int 0] (ev_hp (ev_sI (ev_sI (ev_sI (ev_sI (ev_sI (ev_sI ev_I0 3 (upd (ev_I0 3) 3 1)) 5 x207) 6 (upd (ev_I0 6) 4 0)) 13 (upd (upd (ev_I0 13) 8 0) 9 0)) 20 (upd (ev_I0 20) 3 0)) 22 (upd (upd (ev_I0 22) 8 0) 11 (-1))) (ev_sJ ev_J0 4 x208) ev_R0 []) cz kz = G 241 263 [ez_scr, .ref 0, .ref 35, .int 0] [.int (xs 1), .ref 35, .int 0] (ev_hp (ev_sI (ev_sI (ev_sI (ev_sI (ev_sI (ev_sI ev_I0 3 (upd (ev_I0 3) 3 1)) 5 x207) 6 (upd (ev_I0 6) 4 0)) 13 (upd (upd (ev_I0 13) 8 0) 9 0)) 20 (upd (ev_I0 20) 3 0)) 22 (upd (upd (ev_I0 22) 8 0) 11 (-1))) (ev_sJ ev_J0 4 x208) ev_R0 []) cz kz := by
  intro G
  rfl
set_option maxRecDepth 100000 in
set_option maxHeartbeats 100000 in
theorem eo_ship_a_r70 (xs : Nat → Int32) (x207 : Nat → Int32) (x208 : Nat → Int64) (cz kz : Nat) : ∀ G : ez_F, fx_up (4, xs) 2 G 241 263 [ez_scr, .ref 0, .ref 35, .int 0] [.int (xs 1), .ref 35, .int 0] (ev_hp (ev_sI (ev_sI (ev_sI (ev_sI (ev_sI (ev_sI ev_I0 3 (upd (ev_I0 3) 3 1)) 5 x207) 6 (upd (ev_I0 6) 4 0)) 13 (upd (upd (ev_I0 13) 8 0) 9 0)) 20 (upd (ev_I0 20) 3 0)) 22 (upd (upd (ev_I0 22) 8 0) 11 (-1))) (ev_sJ ev_J0 4 x208) ev_R0 []) cz kz = G 241 265 [ez_scr, .ref 0, .ref 35, .int 0] [.int 0, ez_scr, .int (xs 1), .ref 35, .int 0] (ev_hp (ev_sI (ev_sI (ev_sI (ev_sI (ev_sI (ev_sI ev_I0 3 (upd (ev_I0 3) 3 1)) 5 x207) 6 (upd (ev_I0 6) 4 0)) 13 (upd (upd (ev_I0 13) 8 0) 9 0)) 20 (upd (ev_I0 20) 3 0)) 22 (upd (upd (ev_I0 22) 8 0) 11 (-1))) (ev_sJ ev_J0 4 x208) ev_R0 []) cz kz := by
  intro G
  rfl
set_option maxRecDepth 100000 in
set_option maxHeartbeats 100000 in
theorem eo_ship_a_r71 (xs : Nat → Int32) (x207 : Nat → Int32) (x208 : Nat → Int64) (cz kz : Nat) : ∀ G : ez_F, fx_up (4, xs) 2 G 241 265 [ez_scr, .ref 0, .ref 35, .int 0] [.int 0, ez_scr, .int (xs 1), .ref 35, .int 0] (ev_hp (ev_sI (ev_sI (ev_sI (ev_sI (ev_sI (ev_sI ev_I0 3 (upd (ev_I0 3) 3 1)) 5 x207) 6 (upd (ev_I0 6) 4 0)) 13 (upd (upd (ev_I0 13) 8 0) 9 0)) 20 (upd (ev_I0 20) 3 0)) 22 (upd (upd (ev_I0 22) 8 0) 11 (-1))) (ev_sJ ev_J0 4 x208) ev_R0 []) cz kz = G 241 267 [ez_scr, .ref 0, .ref 35, .int 0] [.int 2, ez_scr, .int (xs 1), .ref 35, .int 0] (ev_hp (ev_sI (ev_sI (ev_sI (ev_sI (ev_sI (ev_sI ev_I0 3 (upd (ev_I0 3) 3 1)) 5 x207) 6 (upd (ev_I0 6) 4 0)) 13 (upd (upd (ev_I0 13) 8 0) 9 0)) 20 (upd (ev_I0 20) 3 0)) 22 (upd (upd (ev_I0 22) 8 0) 11 (-1))) (ev_sJ ev_J0 4 x208) ev_R0 []) cz kz := by
  intro G
  rfl
set_option maxRecDepth 100000 in
set_option maxHeartbeats 100000 in
theorem eo_ship_a_r72 (xs : Nat → Int32) (x207 : Nat → Int32) (x208 : Nat → Int64) (cz kz : Nat) : ∀ G : ez_F, fx_up (4, xs) 2 G 241 267 [ez_scr, .ref 0, .ref 35, .int 0] [.int 2, ez_scr, .int (xs 1), .ref 35, .int 0] (ev_hp (ev_sI (ev_sI (ev_sI (ev_sI (ev_sI (ev_sI ev_I0 3 (upd (ev_I0 3) 3 1)) 5 x207) 6 (upd (ev_I0 6) 4 0)) 13 (upd (upd (ev_I0 13) 8 0) 9 0)) 20 (upd (ev_I0 20) 3 0)) 22 (upd (upd (ev_I0 22) 8 0) 11 (-1))) (ev_sJ ev_J0 4 x208) ev_R0 []) cz kz = ev_C G 220 [.ref 35, .int (xs 1), .int (xs 2)] (ev_hp (ev_sI (ev_sI (ev_sI (ev_sI (ev_sI (ev_sI ev_I0 3 (upd (ev_I0 3) 3 1)) 5 x207) 6 (upd (ev_I0 6) 4 0)) 13 (upd (upd (ev_I0 13) 8 0) 9 0)) 20 (upd (ev_I0 20) 3 0)) 22 (upd (upd (ev_I0 22) 8 0) 11 (-1))) (ev_sJ ev_J0 4 x208) ev_R0 []) fun r h1 c1 k1 => G 241 271 [ez_scr, .ref 0, .ref 35, .int 0] (r.toList ++ [.int 0]) h1 (cz + c1) (kz + k1) := by
  intro G
  rfl
set_option maxRecDepth 100000 in
set_option maxHeartbeats 100000 in
theorem eo_ship_a_r73 (xs : Nat → Int32) (x207 : Nat → Int32) (x208 : Nat → Int64) (cz kz : Nat) : ∀ G : ez_F, fx_up (4, xs) 2 G 241 271 [ez_scr, .ref 0, .ref 35, .int 0] [.int (-3), .int 0] (ev_hp (ev_sI (ev_sI (ev_sI (ev_sI (ev_sI (ev_sI ev_I0 3 (upd (ev_I0 3) 3 1)) 5 x207) 6 (upd (ev_I0 6) 4 0)) 13 (upd (upd (ev_I0 13) 8 0) 9 0)) 20 (upd (ev_I0 20) 3 0)) 22 (upd (upd (ev_I0 22) 8 0) 11 (-1))) (ev_sJ ev_J0 4 x208) ev_R0 []) cz kz = G 241 275 [ez_scr, .ref 0, .ref 35, .int 0] [.int 0] (ev_hp (ev_sI (ev_sI (ev_sI (ev_sI (ev_sI (ev_sI ev_I0 3 (upd (ev_I0 3) 3 1)) 5 x207) 6 (upd (ev_I0 6) 4 0)) 13 (upd (upd (ev_I0 13) 8 0) 9 0)) 20 (upd (ev_I0 20) 3 0)) 22 (upd (upd (ev_I0 22) 8 0) 11 (-1))) (ev_sJ ev_J0 4 x208) ev_R0 []) cz kz := by
  intro G
  rfl
set_option maxRecDepth 100000 in
set_option maxHeartbeats 100000 in
theorem eo_ship_a_r74 (xs : Nat → Int32) (x207 : Nat → Int32) (x208 : Nat → Int64) (cz kz : Nat) : ∀ G : ez_F, fx_up (4, xs) 1 G 241 275 [ez_scr, .ref 0, .ref 35, .int 0] [.int 0] (ev_hp (ev_sI (ev_sI (ev_sI (ev_sI (ev_sI (ev_sI ev_I0 3 (upd (ev_I0 3) 3 1)) 5 x207) 6 (upd (ev_I0 6) 4 0)) 13 (upd (upd (ev_I0 13) 8 0) 9 0)) 20 (upd (ev_I0 20) 3 0)) 22 (upd (upd (ev_I0 22) 8 0) 11 (-1))) (ev_sJ ev_J0 4 x208) ev_R0 []) cz kz = some (some (.int 0), (ev_hp (ev_sI (ev_sI (ev_sI (ev_sI (ev_sI (ev_sI ev_I0 3 (upd (ev_I0 3) 3 1)) 5 x207) 6 (upd (ev_I0 6) 4 0)) 13 (upd (upd (ev_I0 13) 8 0) 9 0)) 20 (upd (ev_I0 20) 3 0)) 22 (upd (upd (ev_I0 22) 8 0) 11 (-1))) (ev_sJ ev_J0 4 x208) ev_R0 []), cz, kz) := by
  intro G
  rfl
set_option maxRecDepth 100000 in
set_option maxHeartbeats 100000 in
theorem eo_ship_a_r75 (xs : Nat → Int32) (x207 : Nat → Int32) (x208 : Nat → Int64) (cz kz : Nat) : ∀ G : ez_F, fx_up (4, xs) 2 G 241 271 [ez_scr, .ref 0, .ref 35, .int 0] [.int (-3), .int 0] (ev_hp (ev_sI (ev_sI (ev_sI (ev_sI (ev_sI (ev_sI ev_I0 3 (upd (ev_I0 3) 3 1)) 5 x207) 6 (upd (ev_I0 6) 4 0)) 13 (upd (upd (ev_I0 13) 8 0) 9 0)) 20 (upd (ev_I0 20) 3 0)) 22 (upd (upd (ev_I0 22) 8 0) 11 (-1))) (ev_sJ ev_J0 4 x208) ev_R0 []) cz kz = G 241 275 [ez_scr, .ref 0, .ref 35, .int 0] [.int 0] (ev_hp (ev_sI (ev_sI (ev_sI (ev_sI (ev_sI (ev_sI ev_I0 3 (upd (ev_I0 3) 3 1)) 5 x207) 6 (upd (ev_I0 6) 4 0)) 13 (upd (upd (ev_I0 13) 8 0) 9 0)) 20 (upd (ev_I0 20) 3 0)) 22 (upd (upd (ev_I0 22) 8 0) 11 (-1))) (ev_sJ ev_J0 4 x208) ev_R0 []) cz kz := by
  intro G
  rfl
set_option maxRecDepth 100000 in
set_option maxHeartbeats 100000 in
theorem eo_ship_a_r76 (xs : Nat → Int32) (x207 : Nat → Int32) (x208 : Nat → Int64) (cz kz : Nat) : ∀ G : ez_F, fx_up (4, xs) 1 G 241 275 [ez_scr, .ref 0, .ref 35, .int 0] [.int 0] (ev_hp (ev_sI (ev_sI (ev_sI (ev_sI (ev_sI (ev_sI ev_I0 3 (upd (ev_I0 3) 3 1)) 5 x207) 6 (upd (ev_I0 6) 4 0)) 13 (upd (upd (ev_I0 13) 8 0) 9 0)) 20 (upd (ev_I0 20) 3 0)) 22 (upd (upd (ev_I0 22) 8 0) 11 (-1))) (ev_sJ ev_J0 4 x208) ev_R0 []) cz kz = some (some (.int 0), (ev_hp (ev_sI (ev_sI (ev_sI (ev_sI (ev_sI (ev_sI ev_I0 3 (upd (ev_I0 3) 3 1)) 5 x207) 6 (upd (ev_I0 6) 4 0)) 13 (upd (upd (ev_I0 13) 8 0) 9 0)) 20 (upd (ev_I0 20) 3 0)) 22 (upd (upd (ev_I0 22) 8 0) 11 (-1))) (ev_sJ ev_J0 4 x208) ev_R0 []), cz, kz) := by
  intro G
  rfl
set_option maxRecDepth 100000 in
set_option maxHeartbeats 100000 in
theorem eo_ship_a_r77 (xs : Nat → Int32) (x207 : Nat → Int32) (x208 : Nat → Int64) (q168 : Int32) (cz kz : Nat) : ∀ G : ez_F, fx_up (4, xs) 1 G 241 271 [ez_scr, .ref 0, .ref 35, .int 0] [.int q168, .int 0] (ev_hp (ev_sI (ev_sI (ev_sI (ev_sI (ev_sI (ev_sI (ev_sI (ev_sI (ev_sI ev_I0 3 (upd (ev_I0 3) 3 1)) 5 x207) 6 (upd (ev_I0 6) 4 0)) 13 (upd (upd (ev_I0 13) 8 0) 9 0)) 20 (upd (ev_I0 20) 3 0)) 22 (upd (upd (ev_I0 22) 8 0) 11 (-1))) 35 (upd (ev_I0 35) 3 ((0 : Int32) + (1 : Int32)))) 36 (upd (ev_I0 36) (0 : Int32).toNatClampNeg (xs 1))) 37 (upd (ev_I0 37) (0 : Int32).toNatClampNeg (xs 2))) (ev_sJ ev_J0 4 x208) ev_R0 []) cz kz = bif decide ((0 : Int32) = q168) then G 241 1075 [ez_scr, .ref 0, .ref 35, .int 0] [] (ev_hp (ev_sI (ev_sI (ev_sI (ev_sI (ev_sI (ev_sI (ev_sI (ev_sI (ev_sI ev_I0 3 (upd (ev_I0 3) 3 1)) 5 x207) 6 (upd (ev_I0 6) 4 0)) 13 (upd (upd (ev_I0 13) 8 0) 9 0)) 20 (upd (ev_I0 20) 3 0)) 22 (upd (upd (ev_I0 22) 8 0) 11 (-1))) 35 (upd (ev_I0 35) 3 ((0 : Int32) + (1 : Int32)))) 36 (upd (ev_I0 36) (0 : Int32).toNatClampNeg (xs 1))) 37 (upd (ev_I0 37) (0 : Int32).toNatClampNeg (xs 2))) (ev_sJ ev_J0 4 x208) ev_R0 []) cz kz else G 241 274 [ez_scr, .ref 0, .ref 35, .int 0] [] (ev_hp (ev_sI (ev_sI (ev_sI (ev_sI (ev_sI (ev_sI (ev_sI (ev_sI (ev_sI ev_I0 3 (upd (ev_I0 3) 3 1)) 5 x207) 6 (upd (ev_I0 6) 4 0)) 13 (upd (upd (ev_I0 13) 8 0) 9 0)) 20 (upd (ev_I0 20) 3 0)) 22 (upd (upd (ev_I0 22) 8 0) 11 (-1))) 35 (upd (ev_I0 35) 3 ((0 : Int32) + (1 : Int32)))) 36 (upd (ev_I0 36) (0 : Int32).toNatClampNeg (xs 1))) 37 (upd (ev_I0 37) (0 : Int32).toNatClampNeg (xs 2))) (ev_sJ ev_J0 4 x208) ev_R0 []) cz kz := by
  intro G
  rfl
set_option maxRecDepth 100000 in
set_option maxHeartbeats 100000 in
theorem eo_ship_a_r78 (xs : Nat → Int32) (x207 : Nat → Int32) (x208 : Nat → Int64) (q168 : Int32) (cz kz : Nat) : ∀ G : ez_F, fx_up (4, xs) 2 G 241 1075 [ez_scr, .ref 0, .ref 35, .int 0] [] (ev_hp (ev_sI (ev_sI (ev_sI (ev_sI (ev_sI (ev_sI (ev_sI (ev_sI (ev_sI ev_I0 3 (upd (ev_I0 3) 3 1)) 5 x207) 6 (upd (ev_I0 6) 4 0)) 13 (upd (upd (ev_I0 13) 8 0) 9 0)) 20 (upd (ev_I0 20) 3 0)) 22 (upd (upd (ev_I0 22) 8 0) 11 (-1))) 35 (upd (ev_I0 35) 3 ((0 : Int32) + (1 : Int32)))) 36 (upd (ev_I0 36) (0 : Int32).toNatClampNeg (xs 1))) 37 (upd (ev_I0 37) (0 : Int32).toNatClampNeg (xs 2))) (ev_sJ ev_J0 4 x208) ev_R0 []) cz kz = G 241 18 [ez_scr, .ref 0, .ref 35, .int 4] [] (ev_hp (ev_sI (ev_sI (ev_sI (ev_sI (ev_sI (ev_sI (ev_sI (ev_sI (ev_sI ev_I0 3 (upd (ev_I0 3) 3 1)) 5 x207) 6 (upd (ev_I0 6) 4 0)) 13 (upd (upd (ev_I0 13) 8 0) 9 0)) 20 (upd (ev_I0 20) 3 0)) 22 (upd (upd (ev_I0 22) 8 0) 11 (-1))) 35 (upd (ev_I0 35) 3 ((0 : Int32) + (1 : Int32)))) 36 (upd (ev_I0 36) (0 : Int32).toNatClampNeg (xs 1))) 37 (upd (ev_I0 37) (0 : Int32).toNatClampNeg (xs 2))) (ev_sJ ev_J0 4 x208) ev_R0 []) cz kz := by
  intro G
  rfl
set_option maxRecDepth 100000 in
set_option maxHeartbeats 100000 in
theorem eo_ship_a_r79 (xs : Nat → Int32) (x207 : Nat → Int32) (x208 : Nat → Int64) (q168 : Int32) (cz kz : Nat) : ∀ G : ez_F, fx_up (4, xs) 2 G 241 18 [ez_scr, .ref 0, .ref 35, .int 4] [] (ev_hp (ev_sI (ev_sI (ev_sI (ev_sI (ev_sI (ev_sI (ev_sI (ev_sI (ev_sI ev_I0 3 (upd (ev_I0 3) 3 1)) 5 x207) 6 (upd (ev_I0 6) 4 0)) 13 (upd (upd (ev_I0 13) 8 0) 9 0)) 20 (upd (ev_I0 20) 3 0)) 22 (upd (upd (ev_I0 22) 8 0) 11 (-1))) 35 (upd (ev_I0 35) 3 ((0 : Int32) + (1 : Int32)))) 36 (upd (ev_I0 36) (0 : Int32).toNatClampNeg (xs 1))) 37 (upd (ev_I0 37) (0 : Int32).toNatClampNeg (xs 2))) (ev_sJ ev_J0 4 x208) ev_R0 []) cz kz = G 241 20 [ez_scr, .ref 0, .ref 35, .int 4] [ez_scr, .int 4] (ev_hp (ev_sI (ev_sI (ev_sI (ev_sI (ev_sI (ev_sI (ev_sI (ev_sI (ev_sI ev_I0 3 (upd (ev_I0 3) 3 1)) 5 x207) 6 (upd (ev_I0 6) 4 0)) 13 (upd (upd (ev_I0 13) 8 0) 9 0)) 20 (upd (ev_I0 20) 3 0)) 22 (upd (upd (ev_I0 22) 8 0) 11 (-1))) 35 (upd (ev_I0 35) 3 ((0 : Int32) + (1 : Int32)))) 36 (upd (ev_I0 36) (0 : Int32).toNatClampNeg (xs 1))) 37 (upd (ev_I0 37) (0 : Int32).toNatClampNeg (xs 2))) (ev_sJ ev_J0 4 x208) ev_R0 []) cz kz := by
  intro G
  rfl
set_option maxRecDepth 100000 in
set_option maxHeartbeats 100000 in
theorem eo_ship_a_r80 (xs : Nat → Int32) (x207 : Nat → Int32) (x208 : Nat → Int64) (q168 : Int32) (cz kz : Nat) : ∀ G : ez_F, fx_up (4, xs) 2 G 241 20 [ez_scr, .ref 0, .ref 35, .int 4] [ez_scr, .int 4] (ev_hp (ev_sI (ev_sI (ev_sI (ev_sI (ev_sI (ev_sI (ev_sI (ev_sI (ev_sI ev_I0 3 (upd (ev_I0 3) 3 1)) 5 x207) 6 (upd (ev_I0 6) 4 0)) 13 (upd (upd (ev_I0 13) 8 0) 9 0)) 20 (upd (ev_I0 20) 3 0)) 22 (upd (upd (ev_I0 22) 8 0) 11 (-1))) 35 (upd (ev_I0 35) 3 ((0 : Int32) + (1 : Int32)))) 36 (upd (ev_I0 36) (0 : Int32).toNatClampNeg (xs 1))) 37 (upd (ev_I0 37) (0 : Int32).toNatClampNeg (xs 2))) (ev_sJ ev_J0 4 x208) ev_R0 []) cz kz = G 241 22 [ez_scr, .ref 0, .ref 35, .int 4] [.int 4, .int 4, .int 4] (ev_hp (ev_sI (ev_sI (ev_sI (ev_sI (ev_sI (ev_sI (ev_sI (ev_sI (ev_sI ev_I0 3 (upd (ev_I0 3) 3 1)) 5 x207) 6 (upd (ev_I0 6) 4 0)) 13 (upd (upd (ev_I0 13) 8 0) 9 0)) 20 (upd (ev_I0 20) 3 0)) 22 (upd (upd (ev_I0 22) 8 0) 11 (-1))) 35 (upd (ev_I0 35) 3 ((0 : Int32) + (1 : Int32)))) 36 (upd (ev_I0 36) (0 : Int32).toNatClampNeg (xs 1))) 37 (upd (ev_I0 37) (0 : Int32).toNatClampNeg (xs 2))) (ev_sJ ev_J0 4 x208) ev_R0 []) cz kz := by
  intro G
  rfl
set_option maxRecDepth 100000 in
set_option maxHeartbeats 100000 in
theorem eo_ship_a_r81 (xs : Nat → Int32) (x207 : Nat → Int32) (x208 : Nat → Int64) (q168 : Int32) (cz kz : Nat) : ∀ G : ez_F, fx_up (4, xs) 2 G 241 22 [ez_scr, .ref 0, .ref 35, .int 4] [.int 4, .int 4, .int 4] (ev_hp (ev_sI (ev_sI (ev_sI (ev_sI (ev_sI (ev_sI (ev_sI (ev_sI (ev_sI ev_I0 3 (upd (ev_I0 3) 3 1)) 5 x207) 6 (upd (ev_I0 6) 4 0)) 13 (upd (upd (ev_I0 13) 8 0) 9 0)) 20 (upd (ev_I0 20) 3 0)) 22 (upd (upd (ev_I0 22) 8 0) 11 (-1))) 35 (upd (ev_I0 35) 3 ((0 : Int32) + (1 : Int32)))) 36 (upd (ev_I0 36) (0 : Int32).toNatClampNeg (xs 1))) 37 (upd (ev_I0 37) (0 : Int32).toNatClampNeg (xs 2))) (ev_sJ ev_J0 4 x208) ev_R0 []) cz kz = G 241 1081 [ez_scr, .ref 0, .ref 35, .int 4] [] (ev_hp (ev_sI (ev_sI (ev_sI (ev_sI (ev_sI (ev_sI (ev_sI (ev_sI (ev_sI ev_I0 3 (upd (ev_I0 3) 3 1)) 5 x207) 6 (upd (ev_I0 6) 4 0)) 13 (upd (upd (ev_I0 13) 8 0) 9 0)) 20 (upd (ev_I0 20) 3 0)) 22 (upd (upd (ev_I0 22) 8 0) 11 (-1))) 35 (upd (ev_I0 35) 3 ((0 : Int32) + (1 : Int32)))) 36 (upd (ev_I0 36) (0 : Int32).toNatClampNeg (xs 1))) 37 (upd (ev_I0 37) (0 : Int32).toNatClampNeg (xs 2))) (ev_sJ ev_J0 4 x208) ev_R0 []) cz kz := by
  intro G
  rfl
set_option maxRecDepth 100000 in
set_option maxHeartbeats 100000 in
theorem eo_ship_a_r82 (xs : Nat → Int32) (x207 : Nat → Int32) (x208 : Nat → Int64) (q168 : Int32) (cz kz : Nat) : ∀ G : ez_F, fx_up (4, xs) 2 G 241 1081 [ez_scr, .ref 0, .ref 35, .int 4] [] (ev_hp (ev_sI (ev_sI (ev_sI (ev_sI (ev_sI (ev_sI (ev_sI (ev_sI (ev_sI ev_I0 3 (upd (ev_I0 3) 3 1)) 5 x207) 6 (upd (ev_I0 6) 4 0)) 13 (upd (upd (ev_I0 13) 8 0) 9 0)) 20 (upd (ev_I0 20) 3 0)) 22 (upd (upd (ev_I0 22) 8 0) 11 (-1))) 35 (upd (ev_I0 35) 3 ((0 : Int32) + (1 : Int32)))) 36 (upd (ev_I0 36) (0 : Int32).toNatClampNeg (xs 1))) 37 (upd (ev_I0 37) (0 : Int32).toNatClampNeg (xs 2))) (ev_sJ ev_J0 4 x208) ev_R0 []) cz kz = some (some (.int 1), (ev_hp (ev_sI (ev_sI (ev_sI (ev_sI (ev_sI (ev_sI (ev_sI (ev_sI (ev_sI ev_I0 3 (upd (ev_I0 3) 3 1)) 5 x207) 6 (upd (ev_I0 6) 4 0)) 13 (upd (upd (ev_I0 13) 8 0) 9 0)) 20 (upd (ev_I0 20) 3 0)) 22 (upd (upd (ev_I0 22) 8 0) 11 (-1))) 35 (upd (ev_I0 35) 3 ((0 : Int32) + (1 : Int32)))) 36 (upd (ev_I0 36) (0 : Int32).toNatClampNeg (xs 1))) 37 (upd (ev_I0 37) (0 : Int32).toNatClampNeg (xs 2))) (ev_sJ ev_J0 4 x208) ev_R0 []), cz, kz) := by
  intro G
  rfl
set_option maxRecDepth 100000 in
set_option maxHeartbeats 100000 in
theorem eo_ship_a_r83 (xs : Nat → Int32) (x207 : Nat → Int32) (x208 : Nat → Int64) (cz kz : Nat) : ∀ G : ez_F, fx_up (4, xs) 2 G 241 271 [ez_scr, .ref 0, .ref 35, .int 0] [.int (-3), .int 0] (ev_hp (ev_sI (ev_sI (ev_sI (ev_sI (ev_sI (ev_sI ev_I0 3 (upd (ev_I0 3) 3 1)) 5 x207) 6 (upd (ev_I0 6) 4 0)) 13 (upd (upd (ev_I0 13) 8 0) 9 0)) 20 (upd (ev_I0 20) 3 0)) 22 (upd (upd (ev_I0 22) 8 0) 11 (-1))) (ev_sJ ev_J0 4 x208) ev_R0 []) cz kz = G 241 275 [ez_scr, .ref 0, .ref 35, .int 0] [.int 0] (ev_hp (ev_sI (ev_sI (ev_sI (ev_sI (ev_sI (ev_sI ev_I0 3 (upd (ev_I0 3) 3 1)) 5 x207) 6 (upd (ev_I0 6) 4 0)) 13 (upd (upd (ev_I0 13) 8 0) 9 0)) 20 (upd (ev_I0 20) 3 0)) 22 (upd (upd (ev_I0 22) 8 0) 11 (-1))) (ev_sJ ev_J0 4 x208) ev_R0 []) cz kz := by
  intro G
  rfl
set_option maxRecDepth 100000 in
set_option maxHeartbeats 100000 in
theorem eo_ship_a_r84 (xs : Nat → Int32) (x207 : Nat → Int32) (x208 : Nat → Int64) (cz kz : Nat) : ∀ G : ez_F, fx_up (4, xs) 1 G 241 275 [ez_scr, .ref 0, .ref 35, .int 0] [.int 0] (ev_hp (ev_sI (ev_sI (ev_sI (ev_sI (ev_sI (ev_sI ev_I0 3 (upd (ev_I0 3) 3 1)) 5 x207) 6 (upd (ev_I0 6) 4 0)) 13 (upd (upd (ev_I0 13) 8 0) 9 0)) 20 (upd (ev_I0 20) 3 0)) 22 (upd (upd (ev_I0 22) 8 0) 11 (-1))) (ev_sJ ev_J0 4 x208) ev_R0 []) cz kz = some (some (.int 0), (ev_hp (ev_sI (ev_sI (ev_sI (ev_sI (ev_sI (ev_sI ev_I0 3 (upd (ev_I0 3) 3 1)) 5 x207) 6 (upd (ev_I0 6) 4 0)) 13 (upd (upd (ev_I0 13) 8 0) 9 0)) 20 (upd (ev_I0 20) 3 0)) 22 (upd (upd (ev_I0 22) 8 0) 11 (-1))) (ev_sJ ev_J0 4 x208) ev_R0 []), cz, kz) := by
  intro G
  rfl
set_option maxRecDepth 100000 in
set_option maxHeartbeats 100000 in
theorem eo_ship_a_r85 (xs : Nat → Int32)  (cz kz : Nat) : ∀ G : ez_F, fx_up (4, xs) 2 G 241 257 [ez_scr, .ref 0, .ref 35, .int 0] [.int (-3)] (ev_hp ev_I0 ev_J0 ev_R0 []) cz kz = G 241 259 [ez_scr, .ref 0, .ref 35, .int 0] [ez_scr, .ref 35, .int (-3)] (ev_hp ev_I0 ev_J0 ev_R0 []) cz kz := by
  intro G
  rfl
set_option maxRecDepth 100000 in
set_option maxHeartbeats 100000 in
theorem eo_ship_a_r86 (xs : Nat → Int32)  (cz kz : Nat) : ∀ G : ez_F, fx_up (4, xs) 2 G 241 259 [ez_scr, .ref 0, .ref 35, .int 0] [ez_scr, .ref 35, .int (-3)] (ev_hp ev_I0 ev_J0 ev_R0 []) cz kz = G 241 261 [ez_scr, .ref 0, .ref 35, .int 0] [.int 1, .int 0, ez_scr, .ref 35, .int (-3)] (ev_hp ev_I0 ev_J0 ev_R0 []) cz kz := by
  intro G
  rfl
set_option maxRecDepth 100000 in
set_option maxHeartbeats 100000 in
theorem eo_ship_a_r87 (xs : Nat → Int32)  (cz kz : Nat) : ∀ G : ez_F, fx_up (4, xs) 2 G 241 261 [ez_scr, .ref 0, .ref 35, .int 0] [.int 1, .int 0, ez_scr, .ref 35, .int (-3)] (ev_hp ev_I0 ev_J0 ev_R0 []) cz kz = G 241 263 [ez_scr, .ref 0, .ref 35, .int 0] [.int (xs 1), .ref 35, .int (-3)] (ev_hp ev_I0 ev_J0 ev_R0 []) cz kz := by
  intro G
  rfl
set_option maxRecDepth 100000 in
set_option maxHeartbeats 100000 in
theorem eo_ship_a_r88 (xs : Nat → Int32)  (cz kz : Nat) : ∀ G : ez_F, fx_up (4, xs) 2 G 241 263 [ez_scr, .ref 0, .ref 35, .int 0] [.int (xs 1), .ref 35, .int (-3)] (ev_hp ev_I0 ev_J0 ev_R0 []) cz kz = G 241 265 [ez_scr, .ref 0, .ref 35, .int 0] [.int 0, ez_scr, .int (xs 1), .ref 35, .int (-3)] (ev_hp ev_I0 ev_J0 ev_R0 []) cz kz := by
  intro G
  rfl
set_option maxRecDepth 100000 in
set_option maxHeartbeats 100000 in
theorem eo_ship_a_r89 (xs : Nat → Int32)  (cz kz : Nat) : ∀ G : ez_F, fx_up (4, xs) 2 G 241 265 [ez_scr, .ref 0, .ref 35, .int 0] [.int 0, ez_scr, .int (xs 1), .ref 35, .int (-3)] (ev_hp ev_I0 ev_J0 ev_R0 []) cz kz = G 241 267 [ez_scr, .ref 0, .ref 35, .int 0] [.int 2, ez_scr, .int (xs 1), .ref 35, .int (-3)] (ev_hp ev_I0 ev_J0 ev_R0 []) cz kz := by
  intro G
  rfl
set_option maxRecDepth 100000 in
set_option maxHeartbeats 100000 in
theorem eo_ship_a_r90 (xs : Nat → Int32)  (cz kz : Nat) : ∀ G : ez_F, fx_up (4, xs) 2 G 241 267 [ez_scr, .ref 0, .ref 35, .int 0] [.int 2, ez_scr, .int (xs 1), .ref 35, .int (-3)] (ev_hp ev_I0 ev_J0 ev_R0 []) cz kz = ev_C G 220 [.ref 35, .int (xs 1), .int (xs 2)] (ev_hp ev_I0 ev_J0 ev_R0 []) fun r h1 c1 k1 => G 241 271 [ez_scr, .ref 0, .ref 35, .int 0] (r.toList ++ [.int (-3)]) h1 (cz + c1) (kz + k1) := by
  intro G
  rfl
set_option maxRecDepth 100000 in
set_option maxHeartbeats 100000 in
theorem eo_ship_a_r91 (xs : Nat → Int32)  (cz kz : Nat) : ∀ G : ez_F, fx_up (4, xs) 2 G 241 271 [ez_scr, .ref 0, .ref 35, .int 0] [.int (-3), .int (-3)] (ev_hp ev_I0 ev_J0 ev_R0 []) cz kz = G 241 1078 [ez_scr, .ref 0, .ref 35, .int 4] [] (ev_hp ev_I0 ev_J0 ev_R0 []) cz kz := by
  intro G
  rfl
set_option maxRecDepth 100000 in
set_option maxHeartbeats 100000 in
theorem eo_ship_a_r92 (xs : Nat → Int32)  (cz kz : Nat) : ∀ G : ez_F, fx_up (4, xs) 2 G 241 1078 [ez_scr, .ref 0, .ref 35, .int 4] [] (ev_hp ev_I0 ev_J0 ev_R0 []) cz kz = G 241 19 [ez_scr, .ref 0, .ref 35, .int 4] [.int 4] (ev_hp ev_I0 ev_J0 ev_R0 []) cz kz := by
  intro G
  rfl
set_option maxRecDepth 100000 in
set_option maxHeartbeats 100000 in
theorem eo_ship_a_r93 (xs : Nat → Int32)  (cz kz : Nat) : ∀ G : ez_F, fx_up (4, xs) 2 G 241 19 [ez_scr, .ref 0, .ref 35, .int 4] [.int 4] (ev_hp ev_I0 ev_J0 ev_R0 []) cz kz = G 241 21 [ez_scr, .ref 0, .ref 35, .int 4] [.int 4, .int 4] (ev_hp ev_I0 ev_J0 ev_R0 []) cz kz := by
  intro G
  rfl
set_option maxRecDepth 100000 in
set_option maxHeartbeats 100000 in
theorem eo_ship_a_r94 (xs : Nat → Int32)  (cz kz : Nat) : ∀ G : ez_F, fx_up (4, xs) 2 G 241 21 [ez_scr, .ref 0, .ref 35, .int 4] [.int 4, .int 4] (ev_hp ev_I0 ev_J0 ev_R0 []) cz kz = G 241 23 [ez_scr, .ref 0, .ref 35, .int 4] [.int 0, .int 4] (ev_hp ev_I0 ev_J0 ev_R0 []) cz kz := by
  intro G
  rfl
set_option maxRecDepth 100000 in
set_option maxHeartbeats 100000 in
theorem eo_ship_a_r95 (xs : Nat → Int32)  (cz kz : Nat) : ∀ G : ez_F, fx_up (4, xs) 2 G 241 23 [ez_scr, .ref 0, .ref 35, .int 4] [.int 0, .int 4] (ev_hp ev_I0 ev_J0 ev_R0 []) cz kz = G 241 1082 [ez_scr, .ref 0, .ref 35, .int 4] [.int 1] (ev_hp ev_I0 ev_J0 ev_R0 []) cz kz := by
  intro G
  rfl
set_option maxRecDepth 100000 in
set_option maxHeartbeats 100000 in
theorem eo_ship_a_r96 (xs : Nat → Int32)  (cz kz : Nat) : ∀ G : ez_F, fx_up (4, xs) 1 G 241 1082 [ez_scr, .ref 0, .ref 35, .int 4] [.int 1] (ev_hp ev_I0 ev_J0 ev_R0 []) cz kz = some (some (.int 1), (ev_hp ev_I0 ev_J0 ev_R0 []), cz, kz) := by
  intro G
  rfl
set_option maxRecDepth 100000 in
set_option maxHeartbeats 100000 in
theorem eo_ship_a_r97 (xs : Nat → Int32)  (cz kz : Nat) : ∀ G : ez_F, fx_up (4, xs) 2 G 241 271 [ez_scr, .ref 0, .ref 35, .int 0] [.int (-3), .int (-3)] (ev_hp ev_I0 ev_J0 ev_R0 []) cz kz = G 241 1078 [ez_scr, .ref 0, .ref 35, .int 4] [] (ev_hp ev_I0 ev_J0 ev_R0 []) cz kz := by
  intro G
  rfl
set_option maxRecDepth 100000 in
set_option maxHeartbeats 100000 in
theorem eo_ship_a_r98 (xs : Nat → Int32)  (cz kz : Nat) : ∀ G : ez_F, fx_up (4, xs) 2 G 241 1078 [ez_scr, .ref 0, .ref 35, .int 4] [] (ev_hp ev_I0 ev_J0 ev_R0 []) cz kz = G 241 19 [ez_scr, .ref 0, .ref 35, .int 4] [.int 4] (ev_hp ev_I0 ev_J0 ev_R0 []) cz kz := by
  intro G
  rfl
set_option maxRecDepth 100000 in
set_option maxHeartbeats 100000 in
theorem eo_ship_a_r99 (xs : Nat → Int32)  (cz kz : Nat) : ∀ G : ez_F, fx_up (4, xs) 2 G 241 19 [ez_scr, .ref 0, .ref 35, .int 4] [.int 4] (ev_hp ev_I0 ev_J0 ev_R0 []) cz kz = G 241 21 [ez_scr, .ref 0, .ref 35, .int 4] [.int 4, .int 4] (ev_hp ev_I0 ev_J0 ev_R0 []) cz kz := by
  intro G
  rfl
set_option maxRecDepth 100000 in
set_option maxHeartbeats 100000 in
theorem eo_ship_a_r100 (xs : Nat → Int32)  (cz kz : Nat) : ∀ G : ez_F, fx_up (4, xs) 2 G 241 21 [ez_scr, .ref 0, .ref 35, .int 4] [.int 4, .int 4] (ev_hp ev_I0 ev_J0 ev_R0 []) cz kz = G 241 23 [ez_scr, .ref 0, .ref 35, .int 4] [.int 0, .int 4] (ev_hp ev_I0 ev_J0 ev_R0 []) cz kz := by
  intro G
  rfl
set_option maxRecDepth 100000 in
set_option maxHeartbeats 100000 in
theorem eo_ship_a_r101 (xs : Nat → Int32)  (cz kz : Nat) : ∀ G : ez_F, fx_up (4, xs) 2 G 241 23 [ez_scr, .ref 0, .ref 35, .int 4] [.int 0, .int 4] (ev_hp ev_I0 ev_J0 ev_R0 []) cz kz = G 241 1082 [ez_scr, .ref 0, .ref 35, .int 4] [.int 1] (ev_hp ev_I0 ev_J0 ev_R0 []) cz kz := by
  intro G
  rfl
set_option maxRecDepth 100000 in
set_option maxHeartbeats 100000 in
theorem eo_ship_a_r102 (xs : Nat → Int32)  (cz kz : Nat) : ∀ G : ez_F, fx_up (4, xs) 1 G 241 1082 [ez_scr, .ref 0, .ref 35, .int 4] [.int 1] (ev_hp ev_I0 ev_J0 ev_R0 []) cz kz = some (some (.int 1), (ev_hp ev_I0 ev_J0 ev_R0 []), cz, kz) := by
  intro G
  rfl
set_option maxRecDepth 100000 in
set_option maxHeartbeats 100000 in
theorem eo_ship_a_r103 (xs : Nat → Int32) (q169 : Int32) (cz kz : Nat) : ∀ G : ez_F, fx_up (4, xs) 1 G 241 271 [ez_scr, .ref 0, .ref 35, .int 0] [.int q169, .int (-3)] (ev_hp (ev_sI (ev_sI (ev_sI ev_I0 35 (upd (ev_I0 35) 3 ((0 : Int32) + (1 : Int32)))) 36 (upd (ev_I0 36) (0 : Int32).toNatClampNeg (xs 1))) 37 (upd (ev_I0 37) (0 : Int32).toNatClampNeg (xs 2))) ev_J0 ev_R0 []) cz kz = bif decide (((-3) : Int32) = q169) then G 241 1075 [ez_scr, .ref 0, .ref 35, .int 0] [] (ev_hp (ev_sI (ev_sI (ev_sI ev_I0 35 (upd (ev_I0 35) 3 ((0 : Int32) + (1 : Int32)))) 36 (upd (ev_I0 36) (0 : Int32).toNatClampNeg (xs 1))) 37 (upd (ev_I0 37) (0 : Int32).toNatClampNeg (xs 2))) ev_J0 ev_R0 []) cz kz else G 241 274 [ez_scr, .ref 0, .ref 35, .int 0] [] (ev_hp (ev_sI (ev_sI (ev_sI ev_I0 35 (upd (ev_I0 35) 3 ((0 : Int32) + (1 : Int32)))) 36 (upd (ev_I0 36) (0 : Int32).toNatClampNeg (xs 1))) 37 (upd (ev_I0 37) (0 : Int32).toNatClampNeg (xs 2))) ev_J0 ev_R0 []) cz kz := by
  intro G
  rfl
set_option maxRecDepth 100000 in
set_option maxHeartbeats 100000 in
theorem eo_ship_a_r104 (xs : Nat → Int32) (q169 : Int32) (cz kz : Nat) : ∀ G : ez_F, fx_up (4, xs) 2 G 241 1075 [ez_scr, .ref 0, .ref 35, .int 0] [] (ev_hp (ev_sI (ev_sI (ev_sI ev_I0 35 (upd (ev_I0 35) 3 ((0 : Int32) + (1 : Int32)))) 36 (upd (ev_I0 36) (0 : Int32).toNatClampNeg (xs 1))) 37 (upd (ev_I0 37) (0 : Int32).toNatClampNeg (xs 2))) ev_J0 ev_R0 []) cz kz = G 241 18 [ez_scr, .ref 0, .ref 35, .int 4] [] (ev_hp (ev_sI (ev_sI (ev_sI ev_I0 35 (upd (ev_I0 35) 3 ((0 : Int32) + (1 : Int32)))) 36 (upd (ev_I0 36) (0 : Int32).toNatClampNeg (xs 1))) 37 (upd (ev_I0 37) (0 : Int32).toNatClampNeg (xs 2))) ev_J0 ev_R0 []) cz kz := by
  intro G
  rfl
set_option maxRecDepth 100000 in
set_option maxHeartbeats 100000 in
theorem eo_ship_a_r105 (xs : Nat → Int32) (q169 : Int32) (cz kz : Nat) : ∀ G : ez_F, fx_up (4, xs) 2 G 241 18 [ez_scr, .ref 0, .ref 35, .int 4] [] (ev_hp (ev_sI (ev_sI (ev_sI ev_I0 35 (upd (ev_I0 35) 3 ((0 : Int32) + (1 : Int32)))) 36 (upd (ev_I0 36) (0 : Int32).toNatClampNeg (xs 1))) 37 (upd (ev_I0 37) (0 : Int32).toNatClampNeg (xs 2))) ev_J0 ev_R0 []) cz kz = G 241 20 [ez_scr, .ref 0, .ref 35, .int 4] [ez_scr, .int 4] (ev_hp (ev_sI (ev_sI (ev_sI ev_I0 35 (upd (ev_I0 35) 3 ((0 : Int32) + (1 : Int32)))) 36 (upd (ev_I0 36) (0 : Int32).toNatClampNeg (xs 1))) 37 (upd (ev_I0 37) (0 : Int32).toNatClampNeg (xs 2))) ev_J0 ev_R0 []) cz kz := by
  intro G
  rfl
set_option maxRecDepth 100000 in
set_option maxHeartbeats 100000 in
theorem eo_ship_a_r106 (xs : Nat → Int32) (q169 : Int32) (cz kz : Nat) : ∀ G : ez_F, fx_up (4, xs) 2 G 241 20 [ez_scr, .ref 0, .ref 35, .int 4] [ez_scr, .int 4] (ev_hp (ev_sI (ev_sI (ev_sI ev_I0 35 (upd (ev_I0 35) 3 ((0 : Int32) + (1 : Int32)))) 36 (upd (ev_I0 36) (0 : Int32).toNatClampNeg (xs 1))) 37 (upd (ev_I0 37) (0 : Int32).toNatClampNeg (xs 2))) ev_J0 ev_R0 []) cz kz = G 241 22 [ez_scr, .ref 0, .ref 35, .int 4] [.int 4, .int 4, .int 4] (ev_hp (ev_sI (ev_sI (ev_sI ev_I0 35 (upd (ev_I0 35) 3 ((0 : Int32) + (1 : Int32)))) 36 (upd (ev_I0 36) (0 : Int32).toNatClampNeg (xs 1))) 37 (upd (ev_I0 37) (0 : Int32).toNatClampNeg (xs 2))) ev_J0 ev_R0 []) cz kz := by
  intro G
  rfl
set_option maxRecDepth 100000 in
set_option maxHeartbeats 100000 in
theorem eo_ship_a_r107 (xs : Nat → Int32) (q169 : Int32) (cz kz : Nat) : ∀ G : ez_F, fx_up (4, xs) 2 G 241 22 [ez_scr, .ref 0, .ref 35, .int 4] [.int 4, .int 4, .int 4] (ev_hp (ev_sI (ev_sI (ev_sI ev_I0 35 (upd (ev_I0 35) 3 ((0 : Int32) + (1 : Int32)))) 36 (upd (ev_I0 36) (0 : Int32).toNatClampNeg (xs 1))) 37 (upd (ev_I0 37) (0 : Int32).toNatClampNeg (xs 2))) ev_J0 ev_R0 []) cz kz = G 241 1081 [ez_scr, .ref 0, .ref 35, .int 4] [] (ev_hp (ev_sI (ev_sI (ev_sI ev_I0 35 (upd (ev_I0 35) 3 ((0 : Int32) + (1 : Int32)))) 36 (upd (ev_I0 36) (0 : Int32).toNatClampNeg (xs 1))) 37 (upd (ev_I0 37) (0 : Int32).toNatClampNeg (xs 2))) ev_J0 ev_R0 []) cz kz := by
  intro G
  rfl
set_option maxRecDepth 100000 in
set_option maxHeartbeats 100000 in
theorem eo_ship_a_r108 (xs : Nat → Int32) (q169 : Int32) (cz kz : Nat) : ∀ G : ez_F, fx_up (4, xs) 2 G 241 1081 [ez_scr, .ref 0, .ref 35, .int 4] [] (ev_hp (ev_sI (ev_sI (ev_sI ev_I0 35 (upd (ev_I0 35) 3 ((0 : Int32) + (1 : Int32)))) 36 (upd (ev_I0 36) (0 : Int32).toNatClampNeg (xs 1))) 37 (upd (ev_I0 37) (0 : Int32).toNatClampNeg (xs 2))) ev_J0 ev_R0 []) cz kz = some (some (.int 1), (ev_hp (ev_sI (ev_sI (ev_sI ev_I0 35 (upd (ev_I0 35) 3 ((0 : Int32) + (1 : Int32)))) 36 (upd (ev_I0 36) (0 : Int32).toNatClampNeg (xs 1))) 37 (upd (ev_I0 37) (0 : Int32).toNatClampNeg (xs 2))) ev_J0 ev_R0 []), cz, kz) := by
  intro G
  rfl
set_option maxRecDepth 100000 in
set_option maxHeartbeats 100000 in
theorem eo_ship_a_r109 (xs : Nat → Int32)  (cz kz : Nat) : ∀ G : ez_F, fx_up (4, xs) 2 G 241 271 [ez_scr, .ref 0, .ref 35, .int 0] [.int (-3), .int (-3)] (ev_hp ev_I0 ev_J0 ev_R0 []) cz kz = G 241 1078 [ez_scr, .ref 0, .ref 35, .int 4] [] (ev_hp ev_I0 ev_J0 ev_R0 []) cz kz := by
  intro G
  rfl
set_option maxRecDepth 100000 in
set_option maxHeartbeats 100000 in
theorem eo_ship_a_r110 (xs : Nat → Int32)  (cz kz : Nat) : ∀ G : ez_F, fx_up (4, xs) 2 G 241 1078 [ez_scr, .ref 0, .ref 35, .int 4] [] (ev_hp ev_I0 ev_J0 ev_R0 []) cz kz = G 241 19 [ez_scr, .ref 0, .ref 35, .int 4] [.int 4] (ev_hp ev_I0 ev_J0 ev_R0 []) cz kz := by
  intro G
  rfl
set_option maxRecDepth 100000 in
set_option maxHeartbeats 100000 in
theorem eo_ship_a_r111 (xs : Nat → Int32)  (cz kz : Nat) : ∀ G : ez_F, fx_up (4, xs) 2 G 241 19 [ez_scr, .ref 0, .ref 35, .int 4] [.int 4] (ev_hp ev_I0 ev_J0 ev_R0 []) cz kz = G 241 21 [ez_scr, .ref 0, .ref 35, .int 4] [.int 4, .int 4] (ev_hp ev_I0 ev_J0 ev_R0 []) cz kz := by
  intro G
  rfl
set_option maxRecDepth 100000 in
set_option maxHeartbeats 100000 in
theorem eo_ship_a_r112 (xs : Nat → Int32)  (cz kz : Nat) : ∀ G : ez_F, fx_up (4, xs) 2 G 241 21 [ez_scr, .ref 0, .ref 35, .int 4] [.int 4, .int 4] (ev_hp ev_I0 ev_J0 ev_R0 []) cz kz = G 241 23 [ez_scr, .ref 0, .ref 35, .int 4] [.int 0, .int 4] (ev_hp ev_I0 ev_J0 ev_R0 []) cz kz := by
  intro G
  rfl
set_option maxRecDepth 100000 in
set_option maxHeartbeats 100000 in
theorem eo_ship_a_r113 (xs : Nat → Int32)  (cz kz : Nat) : ∀ G : ez_F, fx_up (4, xs) 2 G 241 23 [ez_scr, .ref 0, .ref 35, .int 4] [.int 0, .int 4] (ev_hp ev_I0 ev_J0 ev_R0 []) cz kz = G 241 1082 [ez_scr, .ref 0, .ref 35, .int 4] [.int 1] (ev_hp ev_I0 ev_J0 ev_R0 []) cz kz := by
  intro G
  rfl
set_option maxRecDepth 100000 in
set_option maxHeartbeats 100000 in
theorem eo_ship_a_r114 (xs : Nat → Int32)  (cz kz : Nat) : ∀ G : ez_F, fx_up (4, xs) 1 G 241 1082 [ez_scr, .ref 0, .ref 35, .int 4] [.int 1] (ev_hp ev_I0 ev_J0 ev_R0 []) cz kz = some (some (.int 1), (ev_hp ev_I0 ev_J0 ev_R0 []), cz, kz) := by
  intro G
  rfl
theorem eo_ship_a (xs : Nat → Int32) : ev_P1 (4, xs) 243 := by
  refine ev_seg (eo_ship_a_r1 xs  _ _) ?_
  refine ev_seg (eo_ship_a_r2 xs  _ _) ?_
  refine ev_seg (eo_ship_a_r3 xs  _ _) ?_
  refine ev_seg (eo_ship_a_r4 xs  _ _) ?_
  refine ev_seg (eo_ship_a_r5 xs  _ _) ?_
  refine ev_call (eo_ship_a_r6 xs  _ _) (es_ship_S (4, xs) ev_I0 ev_J0 ev_R0 [] (xs 1) (xs 2)) ?_
  rintro r0 _ _ _ (⟨d204, rfl, rfl, rfl, rfl⟩ | ⟨d205, d206, rfl, rfl, rfl, rfl⟩ | ⟨x207, x208, d209, d210, d211, rfl, rfl, rfl, rfl⟩ | ⟨d212, d213, d214, rfl, rfl, rfl, rfl⟩)
  · skip
    refine ev_seg (eo_ship_a_r7 xs  _ _) ?_
    refine ev_seg (eo_ship_a_r8 xs  _ _) ?_
    refine ev_seg (eo_ship_a_r9 xs  _ _) ?_
    refine ev_seg (eo_ship_a_r10 xs  _ _) ?_
    refine ev_seg (eo_ship_a_r11 xs  _ _) ?_
    refine ev_call (eo_ship_a_r12 xs  _ _) (em_ship (4, xs) ev_I0 ev_J0 ev_R0 [] (xs 1) (xs 2) (fun _ => ev_ix03)) ?_
    rintro r0 _ _ _ (⟨d215, rfl, rfl, rfl, rfl⟩ | ⟨d216, d217, rfl, rfl, rfl, rfl⟩ | ⟨d218, d219, d220, d221, d222, hr0, rfl, rfl, rfl⟩ | ⟨d223, d224, d225, d226, d227, rfl, rfl, rfl, rfl⟩ | ⟨d228, d229, d230, d231, rfl, rfl, rfl, rfl⟩ | ⟨d232, d233, d234, rfl, rfl, rfl, rfl⟩)
    · skip
      refine ev_seg (eo_ship_a_r13 xs  _ _) ?_
      refine ev_seg (eo_ship_a_r14 xs  _ _) ?_
      refine ev_seg (eo_ship_a_r15 xs  _ _) ?_
      refine ev_seg (eo_ship_a_r16 xs  _ _) ?_
      refine ev_seg (eo_ship_a_r17 xs  _ _) ?_
      refine ev_ret (eo_ship_a_r18 xs  _ _) ?_
      exact ⟨rfl, by omega, by omega⟩
    · skip
      refine ev_seg (eo_ship_a_r19 xs  _ _) ?_
      refine ev_seg (eo_ship_a_r20 xs  _ _) ?_
      refine ev_seg (eo_ship_a_r21 xs  _ _) ?_
      refine ev_seg (eo_ship_a_r22 xs  _ _) ?_
      refine ev_seg (eo_ship_a_r23 xs  _ _) ?_
      refine ev_ret (eo_ship_a_r24 xs  _ _) ?_
      exact ⟨rfl, by omega, by omega⟩
    · skip
      obtain ⟨q166, hq166⟩ : ∃ z : Int32, (((0 : Int32) + (1 : Int32)) - (1 : Int32)) = z := ⟨_, rfl⟩
      have eq166 : r0 = some (.int q166) := hr0.trans (by subst hq166; rfl)
      subst eq166
      refine ev_if (eo_ship_a_r25 xs q166 _ _) (fun b1 => ?_) (fun b1 => ?_)
      · replace b1 := of_decide_eq_true b1
        refine ev_seg (eo_ship_a_r26 xs q166 _ _) ?_
        refine ev_seg (eo_ship_a_r27 xs q166 _ _) ?_
        refine ev_seg (eo_ship_a_r28 xs q166 _ _) ?_
        refine ev_seg (eo_ship_a_r29 xs q166 _ _) ?_
        refine ev_ret (eo_ship_a_r30 xs q166 _ _) ?_
        exact ⟨rfl, by omega, by omega⟩
      · replace b1 := of_decide_eq_false b1
        exfalso
        have e1 : ev_il (xs 1).toInt64 1 65535 = ev_wi (xs 1) 1 65535 := ev_il_wi _ 1 65535
        have e2 : ev_il (xs 2).toInt64 0 2 = ev_wi (xs 2) 0 2 := ev_il_wi _ 0 2
        by_cases hw : ev_wi (xs 1) 1 65535 = 0
        · simp_all; done
        · have e3 := sb_bits hw
          simp_all; done
    · exact absurd d227 (of_decide_eq_true (by rfl))
    · exact absurd d231 (of_decide_eq_true (by rfl))
    · skip
      refine ev_seg (eo_ship_a_r31 xs  _ _) ?_
      refine ev_seg (eo_ship_a_r32 xs  _ _) ?_
      refine ev_seg (eo_ship_a_r33 xs  _ _) ?_
      refine ev_seg (eo_ship_a_r34 xs  _ _) ?_
      refine ev_seg (eo_ship_a_r35 xs  _ _) ?_
      refine ev_ret (eo_ship_a_r36 xs  _ _) ?_
      exact ⟨rfl, by omega, by omega⟩
  · skip
    refine ev_seg (eo_ship_a_r37 xs  _ _) ?_
    refine ev_seg (eo_ship_a_r38 xs  _ _) ?_
    refine ev_seg (eo_ship_a_r39 xs  _ _) ?_
    refine ev_seg (eo_ship_a_r40 xs  _ _) ?_
    refine ev_seg (eo_ship_a_r41 xs  _ _) ?_
    refine ev_call (eo_ship_a_r42 xs  _ _) (em_ship (4, xs) ev_I0 ev_J0 ev_R0 [] (xs 1) (xs 2) (fun _ => ev_ix03)) ?_
    rintro r0 _ _ _ (⟨d235, rfl, rfl, rfl, rfl⟩ | ⟨d236, d237, rfl, rfl, rfl, rfl⟩ | ⟨d238, d239, d240, d241, d242, hr0, rfl, rfl, rfl⟩ | ⟨d243, d244, d245, d246, d247, rfl, rfl, rfl, rfl⟩ | ⟨d248, d249, d250, d251, rfl, rfl, rfl, rfl⟩ | ⟨d252, d253, d254, rfl, rfl, rfl, rfl⟩)
    · skip
      refine ev_seg (eo_ship_a_r43 xs  _ _) ?_
      refine ev_seg (eo_ship_a_r44 xs  _ _) ?_
      refine ev_seg (eo_ship_a_r45 xs  _ _) ?_
      refine ev_seg (eo_ship_a_r46 xs  _ _) ?_
      refine ev_seg (eo_ship_a_r47 xs  _ _) ?_
      refine ev_ret (eo_ship_a_r48 xs  _ _) ?_
      exact ⟨rfl, by omega, by omega⟩
    · skip
      refine ev_seg (eo_ship_a_r49 xs  _ _) ?_
      refine ev_seg (eo_ship_a_r50 xs  _ _) ?_
      refine ev_seg (eo_ship_a_r51 xs  _ _) ?_
      refine ev_seg (eo_ship_a_r52 xs  _ _) ?_
      refine ev_seg (eo_ship_a_r53 xs  _ _) ?_
      refine ev_ret (eo_ship_a_r54 xs  _ _) ?_
      exact ⟨rfl, by omega, by omega⟩
    · skip
      obtain ⟨q167, hq167⟩ : ∃ z : Int32, (((0 : Int32) + (1 : Int32)) - (1 : Int32)) = z := ⟨_, rfl⟩
      have eq167 : r0 = some (.int q167) := hr0.trans (by subst hq167; rfl)
      subst eq167
      refine ev_if (eo_ship_a_r55 xs q167 _ _) (fun b2 => ?_) (fun b2 => ?_)
      · replace b2 := of_decide_eq_true b2
        refine ev_seg (eo_ship_a_r56 xs q167 _ _) ?_
        refine ev_seg (eo_ship_a_r57 xs q167 _ _) ?_
        refine ev_seg (eo_ship_a_r58 xs q167 _ _) ?_
        refine ev_seg (eo_ship_a_r59 xs q167 _ _) ?_
        refine ev_ret (eo_ship_a_r60 xs q167 _ _) ?_
        exact ⟨rfl, by omega, by omega⟩
      · replace b2 := of_decide_eq_false b2
        exfalso
        have e1 : ev_il (xs 1).toInt64 1 65535 = ev_wi (xs 1) 1 65535 := ev_il_wi _ 1 65535
        have e2 : ev_il (xs 2).toInt64 0 2 = ev_wi (xs 2) 0 2 := ev_il_wi _ 0 2
        by_cases hw : ev_wi (xs 1) 1 65535 = 0
        · simp_all; done
        · have e3 := sb_bits hw
          simp_all; done
    · exact absurd d247 (of_decide_eq_true (by rfl))
    · exact absurd d251 (of_decide_eq_true (by rfl))
    · skip
      refine ev_seg (eo_ship_a_r61 xs  _ _) ?_
      refine ev_seg (eo_ship_a_r62 xs  _ _) ?_
      refine ev_seg (eo_ship_a_r63 xs  _ _) ?_
      refine ev_seg (eo_ship_a_r64 xs  _ _) ?_
      refine ev_seg (eo_ship_a_r65 xs  _ _) ?_
      refine ev_ret (eo_ship_a_r66 xs  _ _) ?_
      exact ⟨rfl, by omega, by omega⟩
  · skip
    refine ev_seg (eo_ship_a_r67 xs x207 x208 _ _) ?_
    refine ev_seg (eo_ship_a_r68 xs x207 x208 _ _) ?_
    refine ev_seg (eo_ship_a_r69 xs x207 x208 _ _) ?_
    refine ev_seg (eo_ship_a_r70 xs x207 x208 _ _) ?_
    refine ev_seg (eo_ship_a_r71 xs x207 x208 _ _) ?_
    refine ev_call (eo_ship_a_r72 xs x207 x208 _ _) (em_ship (4, xs) (ev_sI (ev_sI (ev_sI (ev_sI (ev_sI (ev_sI ev_I0 3 (upd (ev_I0 3) 3 1)) 5 x207) 6 (upd (ev_I0 6) 4 0)) 13 (upd (upd (ev_I0 13) 8 0) 9 0)) 20 (upd (ev_I0 20) 3 0)) 22 (upd (upd (ev_I0 22) 8 0) 11 (-1))) (ev_sJ ev_J0 4 x208) ev_R0 [] (xs 1) (xs 2) (fun _ => ev_ix03)) ?_
    rintro r0 _ _ _ (⟨d255, rfl, rfl, rfl, rfl⟩ | ⟨d256, d257, rfl, rfl, rfl, rfl⟩ | ⟨d258, d259, d260, d261, d262, hr0, rfl, rfl, rfl⟩ | ⟨d263, d264, d265, d266, d267, rfl, rfl, rfl, rfl⟩ | ⟨d268, d269, d270, d271, rfl, rfl, rfl, rfl⟩ | ⟨d272, d273, d274, rfl, rfl, rfl, rfl⟩)
    · skip
      refine ev_seg (eo_ship_a_r73 xs x207 x208 _ _) ?_
      refine ev_ret (eo_ship_a_r74 xs x207 x208 _ _) ?_
      exfalso
      have e1 : ev_il (xs 1).toInt64 1 65535 = ev_wi (xs 1) 1 65535 := ev_il_wi _ 1 65535
      have e2 : ev_il (xs 2).toInt64 0 2 = ev_wi (xs 2) 0 2 := ev_il_wi _ 0 2
      by_cases hw : ev_wi (xs 1) 1 65535 = 0
      · simp_all; done
      · have e3 := sb_bits hw
        simp_all; done
    · skip
      refine ev_seg (eo_ship_a_r75 xs x207 x208 _ _) ?_
      refine ev_ret (eo_ship_a_r76 xs x207 x208 _ _) ?_
      exfalso
      have e1 : ev_il (xs 1).toInt64 1 65535 = ev_wi (xs 1) 1 65535 := ev_il_wi _ 1 65535
      have e2 : ev_il (xs 2).toInt64 0 2 = ev_wi (xs 2) 0 2 := ev_il_wi _ 0 2
      by_cases hw : ev_wi (xs 1) 1 65535 = 0
      · simp_all; done
      · have e3 := sb_bits hw
        simp_all; done
    · skip
      obtain ⟨q168, hq168⟩ : ∃ z : Int32, (((0 : Int32) + (1 : Int32)) - (1 : Int32)) = z := ⟨_, rfl⟩
      have eq168 : r0 = some (.int q168) := hr0.trans (by subst hq168; rfl)
      subst eq168
      refine ev_if (eo_ship_a_r77 xs x207 x208 q168 _ _) (fun b3 => ?_) (fun b3 => ?_)
      · replace b3 := of_decide_eq_true b3
        refine ev_seg (eo_ship_a_r78 xs x207 x208 q168 _ _) ?_
        refine ev_seg (eo_ship_a_r79 xs x207 x208 q168 _ _) ?_
        refine ev_seg (eo_ship_a_r80 xs x207 x208 q168 _ _) ?_
        refine ev_seg (eo_ship_a_r81 xs x207 x208 q168 _ _) ?_
        refine ev_ret (eo_ship_a_r82 xs x207 x208 q168 _ _) ?_
        exact ⟨rfl, by omega, by omega⟩
      · replace b3 := of_decide_eq_false b3
        exfalso
        have e1 : ev_il (xs 1).toInt64 1 65535 = ev_wi (xs 1) 1 65535 := ev_il_wi _ 1 65535
        have e2 : ev_il (xs 2).toInt64 0 2 = ev_wi (xs 2) 0 2 := ev_il_wi _ 0 2
        by_cases hw : ev_wi (xs 1) 1 65535 = 0
        · simp_all; done
        · have e3 := sb_bits hw
          simp_all; done
    · exact absurd d267 (of_decide_eq_true (by rfl))
    · exact absurd d271 (of_decide_eq_true (by rfl))
    · skip
      refine ev_seg (eo_ship_a_r83 xs x207 x208 _ _) ?_
      refine ev_ret (eo_ship_a_r84 xs x207 x208 _ _) ?_
      exfalso
      have e1 : ev_il (xs 1).toInt64 1 65535 = ev_wi (xs 1) 1 65535 := ev_il_wi _ 1 65535
      have e2 : ev_il (xs 2).toInt64 0 2 = ev_wi (xs 2) 0 2 := ev_il_wi _ 0 2
      by_cases hw : ev_wi (xs 1) 1 65535 = 0
      · simp_all; done
      · have e3 := sb_bits hw
        simp_all; done
  · skip
    refine ev_seg (eo_ship_a_r85 xs  _ _) ?_
    refine ev_seg (eo_ship_a_r86 xs  _ _) ?_
    refine ev_seg (eo_ship_a_r87 xs  _ _) ?_
    refine ev_seg (eo_ship_a_r88 xs  _ _) ?_
    refine ev_seg (eo_ship_a_r89 xs  _ _) ?_
    refine ev_call (eo_ship_a_r90 xs  _ _) (em_ship (4, xs) ev_I0 ev_J0 ev_R0 [] (xs 1) (xs 2) (fun _ => ev_ix03)) ?_
    rintro r0 _ _ _ (⟨d275, rfl, rfl, rfl, rfl⟩ | ⟨d276, d277, rfl, rfl, rfl, rfl⟩ | ⟨d278, d279, d280, d281, d282, hr0, rfl, rfl, rfl⟩ | ⟨d283, d284, d285, d286, d287, rfl, rfl, rfl, rfl⟩ | ⟨d288, d289, d290, d291, rfl, rfl, rfl, rfl⟩ | ⟨d292, d293, d294, rfl, rfl, rfl, rfl⟩)
    · skip
      refine ev_seg (eo_ship_a_r91 xs  _ _) ?_
      refine ev_seg (eo_ship_a_r92 xs  _ _) ?_
      refine ev_seg (eo_ship_a_r93 xs  _ _) ?_
      refine ev_seg (eo_ship_a_r94 xs  _ _) ?_
      refine ev_seg (eo_ship_a_r95 xs  _ _) ?_
      refine ev_ret (eo_ship_a_r96 xs  _ _) ?_
      exact ⟨rfl, by omega, by omega⟩
    · skip
      refine ev_seg (eo_ship_a_r97 xs  _ _) ?_
      refine ev_seg (eo_ship_a_r98 xs  _ _) ?_
      refine ev_seg (eo_ship_a_r99 xs  _ _) ?_
      refine ev_seg (eo_ship_a_r100 xs  _ _) ?_
      refine ev_seg (eo_ship_a_r101 xs  _ _) ?_
      refine ev_ret (eo_ship_a_r102 xs  _ _) ?_
      exact ⟨rfl, by omega, by omega⟩
    · skip
      obtain ⟨q169, hq169⟩ : ∃ z : Int32, (((0 : Int32) + (1 : Int32)) - (1 : Int32)) = z := ⟨_, rfl⟩
      have eq169 : r0 = some (.int q169) := hr0.trans (by subst hq169; rfl)
      subst eq169
      refine ev_if (eo_ship_a_r103 xs q169 _ _) (fun b4 => ?_) (fun b4 => ?_)
      · replace b4 := of_decide_eq_true b4
        refine ev_seg (eo_ship_a_r104 xs q169 _ _) ?_
        refine ev_seg (eo_ship_a_r105 xs q169 _ _) ?_
        refine ev_seg (eo_ship_a_r106 xs q169 _ _) ?_
        refine ev_seg (eo_ship_a_r107 xs q169 _ _) ?_
        refine ev_ret (eo_ship_a_r108 xs q169 _ _) ?_
        exact ⟨rfl, by omega, by omega⟩
      · replace b4 := of_decide_eq_false b4
        exfalso
        have e1 : ev_il (xs 1).toInt64 1 65535 = ev_wi (xs 1) 1 65535 := ev_il_wi _ 1 65535
        have e2 : ev_il (xs 2).toInt64 0 2 = ev_wi (xs 2) 0 2 := ev_il_wi _ 0 2
        by_cases hw : ev_wi (xs 1) 1 65535 = 0
        · simp_all; done
        · have e3 := sb_bits hw
          simp_all; done
    · exact absurd d287 (of_decide_eq_true (by rfl))
    · exact absurd d291 (of_decide_eq_true (by rfl))
    · skip
      refine ev_seg (eo_ship_a_r109 xs  _ _) ?_
      refine ev_seg (eo_ship_a_r110 xs  _ _) ?_
      refine ev_seg (eo_ship_a_r111 xs  _ _) ?_
      refine ev_seg (eo_ship_a_r112 xs  _ _) ?_
      refine ev_seg (eo_ship_a_r113 xs  _ _) ?_
      refine ev_ret (eo_ship_a_r114 xs  _ _) ?_
      exact ⟨rfl, by omega, by omega⟩
