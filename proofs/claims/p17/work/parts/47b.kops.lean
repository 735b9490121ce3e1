/-! The calls that change the key, as functions of it. -/
def kf_grid (w h b : Int32) (K : kt_K) : Int32 × kt_K := if ev_wi w 2 6 = 0 then (-3, K) else if ev_wi h 2 6 = 0 then (-3, K) else (w * h, (w, h, b, w * h, 0, 0, K.2.2.2.2.2.2.1, K.2.2.2.2.2.2.2.1, K.2.2.2.2.2.2.2.2.1, 0, 0, fun r => if r < 12 then -1 else 0))
/-- w, h, wraps, cells, dx, dy, touch, sunk, lie, ships, calls, counts -/
def kt_mk (K : kt_K) (dx dy t s l sh ca : Int32) (cn : Nat → Int32) : kt_K := (K.1, K.2.1, K.2.2.1, K.2.2.2.1, dx, dy, t, s, l, sh, ca, cn)
def kt_dx (K : kt_K) : Int32 := K.2.2.2.2.1
def kt_dy (K : kt_K) : Int32 := K.2.2.2.2.2.1
def kt_t (K : kt_K) : Int32 := K.2.2.2.2.2.2.1
def kt_s (K : kt_K) : Int32 := K.2.2.2.2.2.2.2.1
def kt_l (K : kt_K) : Int32 := K.2.2.2.2.2.2.2.2.1
def kt_sh (K : kt_K) : Int32 := K.2.2.2.2.2.2.2.2.2.1
def kt_ca (K : kt_K) : Int32 := K.2.2.2.2.2.2.2.2.2.2.1
def kt_cn (K : kt_K) : Nat → Int32 := K.2.2.2.2.2.2.2.2.2.2.2
def kf_set (a b : Int32) (K : kt_K) : Int32 × kt_K :=
  if a = 0 then (if ev_wi b 0 2 = 0 then (-3, K) else (kt_t K, kt_mk K (kt_dx K) (kt_dy K) b (kt_s K) (kt_l K) (kt_sh K) (kt_ca K) (kt_cn K)))
  else if a = 1 then (if ev_wi b 0 1 = 0 then (-3, K) else (kt_s K, kt_mk K (kt_dx K) (kt_dy K) (kt_t K) b (kt_l K) (kt_sh K) (kt_ca K) (kt_cn K)))
  else if a = 2 then (if ev_wi b 0 2 = 0 then (-3, K) else (kt_l K, kt_mk K (kt_dx K) (kt_dy K) (kt_t K) (kt_s K) b (kt_sh K) (kt_ca K) (kt_cn K))) else (-3, K)
def kf_drift (a b : Int32) (K : kt_K) : Int32 × kt_K := if ev_wi a (-1) 1 = 0 then (-3, K) else if ev_wi b (-1) 1 = 0 then (-3, K) else if K.2.2.1 = 0 then (-4, K) else (1, kt_mk K a b (kt_t K) (kt_s K) (kt_l K) (kt_sh K) (kt_ca K) (kt_cn K))
def kt_called (K : kt_K) (n : Int32) : kt_K := kt_mk K (kt_dx K) (kt_dy K) (kt_t K) (kt_s K) (kt_l K) (kt_sh K) n (kt_cn K)
def kf_call (a : Int32) (K : kt_K) : Int32 × kt_K := if ev_wi a 0 (K.2.2.2.1 - 1) = 0 then (-2, K) else if kt_ca K < 30 then (kt_ca K + 1 - 1, kt_called K (kt_ca K + 1)) else (-5, K)
def kf_salvo (a b : Int32) (K : kt_K) : Int32 × kt_K := if ev_wi a 0 (K.2.2.2.1 - 1) = 0 then (-2, K) else if ev_wi b 0 (K.2.2.2.1 - 1) = 0 then (-2, K) else if a = b then (-3, K) else if kt_ca K < 30 then (kt_ca K + 1 - 1, kt_called K (kt_ca K + 1)) else (-5, K)
def kf_back (K : kt_K) : Int32 × kt_K := if kt_ca K = 0 then (-4, K) else (kt_ca K - 1, kt_called K (kt_ca K - 1))
def kf_ship (a b : Int32) (K : kt_K) : Int32 × kt_K := if ev_wi a 1 65535 = 0 then (-3, K) else if 5 < ev_bcI a then (-3, K) else if ev_wi b 0 2 = 0 then (-3, K) else if kt_ca K ≤ 0 then (if kt_sh K < 3 then (kt_sh K, kt_mk K (kt_dx K) (kt_dy K) (kt_t K) (kt_s K) (kt_l K) (kt_sh K + 1) (kt_ca K) (kt_cn K)) else (-5, K)) else (-4, K)
def kf_count (a b : Int32) (K : kt_K) : Int32 × kt_K := if ev_wi a 0 (K.2.1 + K.1 - 1) = 0 then (-2, K) else if ev_wi b 0 7 = 0 then (-3, K) else (kt_cn K a.toNatClampNeg, kt_mk K (kt_dx K) (kt_dy K) (kt_t K) (kt_s K) (kt_l K) (kt_sh K) (kt_ca K) (upd (kt_cn K) a.toNatClampNeg (if b = 7 then -1 else b)))
theorem il_0 (a b : Int32) : ev_il a.toInt64 0 b.toInt64 = ev_wi a 0 b := by
  have h := ev_il_wi a 0 b
  rw [show (0 : Int32).toInt64 = 0 from by decide] at h
  exact h
theorem il_01 (b : Int32) : ev_il b.toInt64 0 1 = ev_wi b 0 1 := by
  have h := il_0 b 1
  rw [show (1 : Int32).toInt64 = 1 from by decide] at h
  exact h
theorem il_02 (b : Int32) : ev_il b.toInt64 0 2 = ev_wi b 0 2 := by
  have h := il_0 b 2
  rw [show (2 : Int32).toInt64 = 2 from by decide] at h
  exact h
theorem il_07 (b : Int32) : ev_il b.toInt64 0 7 = ev_wi b 0 7 := by
  have h := il_0 b 7
  rw [show (7 : Int32).toInt64 = 7 from by decide] at h
  exact h
theorem il_11 (b : Int32) : ev_il b.toInt64 (-1) 1 = ev_wi b (-1) 1 := by
  have h := ev_il_wi b (-1) 1
  rw [show (-1 : Int32).toInt64 = -1 from by decide, show (1 : Int32).toInt64 = 1 from by decide] at h
  exact h
theorem il_26 (b : Int32) : ev_il b.toInt64 2 6 = ev_wi b 2 6 := by
  have h := ev_il_wi b 2 6
  rw [show (2 : Int32).toInt64 = 2 from by decide, show (6 : Int32).toInt64 = 6 from by decide] at h
  exact h
theorem il_1s (b : Int32) : ev_il b.toInt64 1 65535 = ev_wi b 1 65535 := by
  have h := ev_il_wi b 1 65535
  rw [show (1 : Int32).toInt64 = 1 from by decide, show (65535 : Int32).toInt64 = 65535 from by decide] at h
  exact h
theorem at3_0 (f : Nat → Int32) : ev_at 3 f 0 = f 0 := by
  unfold ev_at
  rw [if_neg (by decide), if_neg (by decide), show (0 : Int32).toNatClampNeg = 0 from by decide]
theorem at3_1 (f : Nat → Int32) : ev_at 3 f 1 = f 1 := by
  unfold ev_at
  rw [if_neg (by decide), if_neg (by decide), show (1 : Int32).toNatClampNeg = 1 from by decide]
theorem at3_2 (f : Nat → Int32) : ev_at 3 f 2 = f 2 := by
  unfold ev_at
  rw [if_neg (by decide), if_neg (by decide), show (2 : Int32).toNatClampNeg = 2 from by decide]
theorem pu3_0 (f : Nat → Int32) (b : Int32) : ev_put 3 f 0 b = upd f 0 b := by
  unfold ev_put
  rw [if_neg (by decide), if_neg (by decide), show (0 : Int32).toNatClampNeg = 0 from by decide]
theorem pu3_1 (f : Nat → Int32) (b : Int32) : ev_put 3 f 1 b = upd f 1 b := by
  unfold ev_put
  rw [if_neg (by decide), if_neg (by decide), show (1 : Int32).toNatClampNeg = 1 from by decide]
theorem pu3_2 (f : Nat → Int32) (b : Int32) : ev_put 3 f 2 b = upd f 2 b := by
  unfold ev_put
  rw [if_neg (by decide), if_neg (by decide), show (2 : Int32).toNatClampNeg = 2 from by decide]
theorem wi_3 {a : Int32} (h : ¬ ev_wi a 0 2 = 0) (h0 : ¬ a = 0) (h1 : ¬ a = 1) : a = 2 := by
  obtain ⟨g1, g2⟩ := ev_wi_ne h
  have e0 : (0 : Int32).toInt = 0 := by decide
  have e1 : (1 : Int32).toInt = 1 := by decide
  have e2 : (2 : Int32).toInt = 2 := by decide
  rw [← Int32.toInt_inj] at h0 h1 ⊢
  omega
section
variable (X : ez_X) (I : Nat → Nat → Int32) (J : Nat → Nat → Int64) (R : Nat → Nat) (T : List ez_C)
theorem kc_set (a b : Int32) : ev_W X 42 0 (ez_lay [.ref 0, .int a, .int b]) [] (ev_hp I J R T) 0 0 (kp_E kx (kf_set a b) I) := by
  refine (eg_set X I J R T a b).mono ?_
  rintro r h1 c1 k1 (⟨a0, e, hh, -⟩ | ⟨a0, a1, a2, a3, a4, e, hh, -⟩ | ⟨a0, a1, a2, a3, a4, e, hh, -⟩ | ⟨a0, a1, a2, a3, e, hh, -⟩ | ⟨a0, a1, a2, e, hh, -⟩ | ⟨a0, a1, a2, a3, a4, e, hh, -⟩ | ⟨a0, a1, a2, a3, a4, e, hh, -⟩ | ⟨a0, a1, a2, a3, e, hh, -⟩ | ⟨a0, a1, a2, e, hh, -⟩)
  · refine ⟨_, I, J, R, T, e, hh, ?_⟩
    unfold kf_set
    rw [if_neg (fun z => by subst z; exact absurd a0 (by decide)), if_neg (fun z => by subst z; exact absurd a0 (by decide)), if_neg (fun z => by subst z; exact absurd a0 (by decide))]
  · obtain rfl := wi_3 a0 a3 a1
    refine ⟨_, _, _, _, _, e, hh, ?_⟩
    unfold kf_set
    rw [if_neg (by decide), if_neg (by decide), if_pos rfl, if_neg a2, at3_2, pu3_2]
    rfl
  · exact absurd (Classical.not_not.mp a4) a1
  · obtain rfl := Classical.not_not.mp a3
    refine ⟨_, _, _, _, _, e, hh, ?_⟩
    unfold kf_set
    rw [if_pos rfl, if_neg a2, at3_0, pu3_0]
    rfl
  · refine ⟨_, I, J, R, T, e, hh, ?_⟩
    unfold kf_set
    by_cases z : a = 0
    · rw [if_pos z, if_pos (Classical.not_not.mp a2)]
    · rw [if_neg z, if_neg a1, if_pos (wi_3 a0 z a1), if_pos (Classical.not_not.mp a2)]
  · exact absurd (Classical.not_not.mp a1) a4
  · obtain rfl := Classical.not_not.mp a4
    refine ⟨_, _, _, _, _, e, hh, ?_⟩
    unfold kf_set
    rw [if_neg (by decide), if_pos rfl, if_neg a2, at3_1, pu3_1]
    rfl
  · have z := (Classical.not_not.mp a1).symm.trans (Classical.not_not.mp a3)
    exact absurd z (by decide)
  · obtain rfl := Classical.not_not.mp a1
    refine ⟨_, I, J, R, T, e, hh, ?_⟩
    unfold kf_set
    rw [if_neg (by decide), if_pos rfl, if_pos (Classical.not_not.mp a2)]
theorem kd_set (a b : Int32) : ev_W X 219 0 (ez_lay [.ref 35, .int a, .int b]) [] (ev_hp I J R T) 0 0 (kp_E km (kf_set a b) I) := by
  refine (em_set X I J R T a b).mono ?_
  rw [il_01 b, il_02 b]
  rintro r h1 c1 k1 (⟨a0, a1, a2, e, hh, -⟩ | ⟨a0, a1, a2, a3, e, hh, -⟩ | ⟨a0, a1, a2, a3, e, hh, -⟩ | ⟨a0, a1, a2, a3, e, hh, -⟩ | ⟨a0, a1, a2, a3, a4, e, hh, -⟩ | ⟨a0, a1, a2, a3, a4, e, hh, -⟩ | ⟨a0, a1, a2, e, hh, -⟩ | ⟨a0, a1, a2, a3, e, hh, -⟩ | ⟨a0, a1, a2, a3, a4, e, hh, -⟩ | ⟨a0, a1, a2, a3, a4, e, hh, -⟩ | ⟨a0, a1, a2, a3, a4, e, hh, -⟩ | ⟨a0, a1, a2, a3, a4, a5, e, hh, -⟩ | ⟨a0, a1, a2, a3, a4, a5, e, hh, -⟩ | ⟨a0, a1, a2, a3, e, hh, -⟩ | ⟨a0, a1, e, hh, -⟩)
  · refine ⟨_, I, J, R, T, e, hh, ?_⟩
    unfold kf_set
    rw [if_neg a0, if_neg a1, if_neg a2]
  · obtain rfl := Classical.not_not.mp a2
    refine ⟨_, I, J, R, T, e, hh, ?_⟩
    unfold kf_set
    rw [if_neg (by decide), if_neg (by decide), if_pos rfl, if_pos a3]
  · obtain rfl := Classical.not_not.mp a2
    refine ⟨_, _, _, _, _, e, hh, ?_⟩
    unfold kf_set
    rw [if_neg (by decide), if_neg (by decide), if_pos rfl, if_neg a3]
    rfl
  · obtain rfl := Classical.not_not.mp a1
    refine ⟨_, I, J, R, T, e, hh, ?_⟩
    unfold kf_set
    rw [if_neg (by decide), if_pos rfl, if_pos a2]
  · have z := (Classical.not_not.mp a1).symm.trans (Classical.not_not.mp a3)
    exact absurd z (by decide)
  · have z := (Classical.not_not.mp a1).symm.trans (Classical.not_not.mp a3)
    exact absurd z (by decide)
  · obtain rfl := Classical.not_not.mp a1
    refine ⟨_, _, _, _, _, e, hh, ?_⟩
    unfold kf_set
    rw [if_neg (by decide), if_pos rfl, if_neg a2]
    rfl
  · obtain rfl := Classical.not_not.mp a0
    refine ⟨_, I, J, R, T, e, hh, ?_⟩
    unfold kf_set
    rw [if_pos rfl, if_pos a1]
  · have z := (Classical.not_not.mp a0).symm.trans (Classical.not_not.mp a3)
    exact absurd z (by decide)
  · have z := (Classical.not_not.mp a0).symm.trans (Classical.not_not.mp a3)
    exact absurd z (by decide)
  · have z := (Classical.not_not.mp a0).symm.trans (Classical.not_not.mp a2)
    exact absurd z (by decide)
  · have z := (Classical.not_not.mp a0).symm.trans (Classical.not_not.mp a2)
    exact absurd z (by decide)
  · have z := (Classical.not_not.mp a0).symm.trans (Classical.not_not.mp a2)
    exact absurd z (by decide)
  · have z := (Classical.not_not.mp a0).symm.trans (Classical.not_not.mp a2)
    exact absurd z (by decide)
  · obtain rfl := Classical.not_not.mp a0
    refine ⟨_, _, _, _, _, e, hh, ?_⟩
    unfold kf_set
    rw [if_pos rfl, if_neg a1]
    rfl
end
section
variable {X : ez_X} {I : Nat → Nat → Int32} {J : Nat → Nat → Int64} {R : Nat → Nat} {T : List ez_C} {cz kz : Nat}
theorem sp_r0 {a : Int32} {b : Int32} : ∀ G : ez_F, fx_up X 4 G 43 0 [.ref 0, .int a, .int b] [] (ev_hp I J R T) cz kz = ev_C G 55 [.int a, .int 1, .int 65535] (ev_hp I J R T) fun r h1 c1 k1 => G 43 7 [.ref 0, .int a, .int b] (r.toList ++ []) h1 (cz + c1) (kz + k1) := by
  intro G
  rfl
theorem sp_r1 {a : Int32} {b : Int32} {v : Int32} : ∀ G : ez_F, fx_up X 1 G 43 7 [.ref 0, .int a, .int b] [.int v] (ev_hp I J R T) cz kz = bif decide (v = (0 : Int32)) then G 43 27 [.ref 0, .int a, .int b] [] (ev_hp I J R T) cz kz else G 43 10 [.ref 0, .int a, .int b] [] (ev_hp I J R T) cz kz := by
  intro G
  rfl
theorem sp_r2 {a : Int32} {b : Int32} : ∀ G : ez_F, fx_up X 2 G 43 27 [.ref 0, .int a, .int b] [] (ev_hp I J R T) cz kz = some (some (.int (-3)), ev_hp I J R T, cz, kz) := by
  intro G
  rfl
theorem sp_r3 {a : Int32} {b : Int32} : ∀ G : ez_F, fx_up X 2 G 43 10 [.ref 0, .int a, .int b] [] (ev_hp I J R T) cz kz = ev_C G 234 [.int a] (ev_hp I J R T) fun r h1 c1 k1 => G 43 14 [.ref 0, .int a, .int b] (r.toList ++ []) h1 (cz + c1) (kz + k1) := by
  intro G
  rfl
theorem sp_r4 {a : Int32} {b : Int32} {v : Int32} : ∀ G : ez_F, fx_up X 2 G 43 14 [.ref 0, .int a, .int b] [.int v] (ev_hp I J R T) cz kz = bif decide ((5 : Int32) < v) then G 43 27 [.ref 0, .int a, .int b] [] (ev_hp I J R T) cz kz else G 43 18 [.ref 0, .int a, .int b] [] (ev_hp I J R T) cz kz := by
  intro G
  rfl
theorem sp_r5 {a : Int32} {b : Int32} : ∀ G : ez_F, fx_up X 4 G 43 18 [.ref 0, .int a, .int b] [] (ev_hp I J R T) cz kz = ev_C G 55 [.int b, .int 0, .int 2] (ev_hp I J R T) fun r h1 c1 k1 => G 43 24 [.ref 0, .int a, .int b] (r.toList ++ []) h1 (cz + c1) (kz + k1) := by
  intro G
  rfl
theorem sp_r6 {a : Int32} {b : Int32} {v : Int32} : ∀ G : ez_F, fx_up X 1 G 43 24 [.ref 0, .int a, .int b] [.int v] (ev_hp I J R T) cz kz = bif decide (¬ v = (0 : Int32)) then G 43 30 [.ref 0, .int a, .int b] [] (ev_hp I J R T) cz kz else G 43 27 [.ref 0, .int a, .int b] [] (ev_hp I J R T) cz kz := by
  intro G
  rfl
theorem sp_r7 {a : Int32} {b : Int32} : ∀ G : ez_F, fx_up X 4 G 43 30 [.ref 0, .int a, .int b] [] (ev_hp I J R T) cz kz = bif decide ((I 8 1) ≤ (0 : Int32)) then G 43 43 [.ref 0, .int a, .int b] [] (ev_hp I J R T) cz kz else G 43 40 [.ref 0, .int a, .int b] [] (ev_hp I J R T) cz kz := by
  intro G
  rfl
theorem sp_r8 {a : Int32} {b : Int32} : ∀ G : ez_F, fx_up X 2 G 43 40 [.ref 0, .int a, .int b] [] (ev_hp I J R T) cz kz = some (some (.int (-4)), ev_hp I J R T, cz, kz) := by
  intro G
  rfl
theorem sp_r9 {a : Int32} {b : Int32} : ∀ G : ez_F, fx_up X 5 G 43 43 [.ref 0, .int a, .int b] [] (ev_hp I J R T) cz kz = bif decide ((I 3 3) < (3 : Int32)) then G 43 57 [.ref 0, .int a, .int b] [] (ev_hp I J R T) cz kz else G 43 54 [.ref 0, .int a, .int b] [] (ev_hp I J R T) cz kz := by
  intro G
  rfl
theorem sp_r10 {a : Int32} {b : Int32} : ∀ G : ez_F, fx_up X 2 G 43 54 [.ref 0, .int a, .int b] [] (ev_hp I J R T) cz kz = some (some (.int (-5)), ev_hp I J R T, cz, kz) := by
  intro G
  rfl
theorem sp_r11 {a : Int32} {b : Int32} : ∀ G : ez_F, fx_up X 5 G 43 57 [.ref 0, .int a, .int b] [] (ev_hp I J R T) cz kz = ev_C G 85 [.ref 3, .int a, .int b] (ev_hp I J R T) fun r h1 c1 k1 => G 43 66 [.ref 0, .int a, .int b] (r.toList ++ []) h1 (cz + c1) (kz + k1) := by
  intro G
  rfl
theorem sp_r12 {a : Int32} {b : Int32} {v : Int32} : ∀ G : ez_F, fx_up X 3 G 43 66 [.ref 0, .int a, .int b] [.int v] (ev_hp I J R T) cz kz = ev_C G 28 [.ref 0] (ev_hp I J R T) fun r h1 c1 k1 => G 43 71 [.ref 0, .int a, .int b, .int v] (r.toList ++ []) h1 (cz + c1) (kz + k1) := by
  intro G
  rfl
theorem sp_r13 {a : Int32} {b : Int32} {v : Int32} : ∀ G : ez_F, fx_up X 2 G 43 71 [.ref 0, .int a, .int b, .int v] [] (ev_hp I J R T) cz kz = some (some (.int v), ev_hp I J R T, cz, kz) := by
  intro G
  rfl
end
section
variable {X : ez_X} {I : Nat → Nat → Int32} {J : Nat → Nat → Int64} {R : Nat → Nat} {T : List ez_C} {cz kz : Nat}
theorem bk_r0  : ∀ G : ez_F, fx_up X 3 G 168 0 [.ref 35] [] (ev_hp I J R T) cz kz = bif decide (¬ (I 35 16) = (0 : Int32)) then G 168 10 [.ref 35] [] (ev_hp I J R T) cz kz else G 168 7 [.ref 35] [] (ev_hp I J R T) cz kz := by
  intro G
  rfl
theorem bk_r1  : ∀ G : ez_F, fx_up X 2 G 168 7 [.ref 35] [] (ev_hp I J R T) cz kz = some (some (.int (-4)), ev_hp I J R T, cz, kz) := by
  intro G
  rfl
theorem bk_r2  : ∀ G : ez_F, fx_up X 3 G 168 10 [.ref 35] [] (ev_hp I J R T) cz kz = G 168 15 [.ref 35] [.int (I 35 16), .ref 35] (ev_hp I J R T) cz kz := by
  intro G
  rfl
theorem bk_r3 {x : Int32} : ∀ G : ez_F, fx_up X 3 G 168 15 [.ref 35] [.int x, .ref 35] (ev_hp I J R T) cz kz = G 168 20 [.ref 35] [] (ev_hp (ev_sI I 35 (upd (I 35) 16 (x - 1))) J R T) cz kz := by
  intro G
  rfl
theorem bk_r4  : ∀ G : ez_F, fx_up X 3 G 168 20 [.ref 35] [] (ev_hp I J R T) cz kz = some (some (.int (I 35 16)), ev_hp I J R T, cz, kz) := by
  intro G
  rfl
end
section
variable {X : ez_X} {I : Nat → Nat → Int32} {J : Nat → Nat → Int64} {R : Nat → Nat} {T : List ez_C} {cz kz : Nat}
theorem ct_r0 {a : Int32} {b : Int32} : ∀ G : ez_F, fx_up X 3 G 182 0 [.ref 35, .int a, .int b] [] (ev_hp I J R T) cz kz = ev_C G 203 [.ref 35, .int a] (ev_hp I J R T) fun r h1 c1 k1 => G 182 5 [.ref 35, .int a, .int b] (r.toList ++ []) h1 (cz + c1) (kz + k1) := by
  intro G
  rfl
theorem ct_r1 {a : Int32} {b : Int32} {v : Int32} : ∀ G : ez_F, fx_up X 1 G 182 5 [.ref 35, .int a, .int b] [.int v] (ev_hp I J R T) cz kz = bif decide (¬ v = (0 : Int32)) then G 182 11 [.ref 35, .int a, .int b] [] (ev_hp I J R T) cz kz else G 182 8 [.ref 35, .int a, .int b] [] (ev_hp I J R T) cz kz := by
  intro G
  rfl
theorem ct_r2 {a : Int32} {b : Int32} : ∀ G : ez_F, fx_up X 2 G 182 8 [.ref 35, .int a, .int b] [] (ev_hp I J R T) cz kz = some (some (.int (-2)), ev_hp I J R T, cz, kz) := by
  intro G
  rfl
theorem ct_r3 {a : Int32} {b : Int32} : ∀ G : ez_F, fx_up X 5 G 182 11 [.ref 35, .int a, .int b] [] (ev_hp I J R T) cz kz = ev_C G 198 [.long (b.toInt64), .long 0, .long 7] (ev_hp I J R T) fun r h1 c1 k1 => G 182 20 [.ref 35, .int a, .int b] (r.toList ++ []) h1 (cz + c1) (kz + k1) := by
  intro G
  rfl
theorem ct_r4 {a : Int32} {b : Int32} {v : Int32} : ∀ G : ez_F, fx_up X 1 G 182 20 [.ref 35, .int a, .int b] [.int v] (ev_hp I J R T) cz kz = bif decide (¬ v = (0 : Int32)) then G 182 26 [.ref 35, .int a, .int b] [] (ev_hp I J R T) cz kz else G 182 23 [.ref 35, .int a, .int b] [] (ev_hp I J R T) cz kz := by
  intro G
  rfl
theorem ct_r5 {a : Int32} {b : Int32} : ∀ G : ez_F, fx_up X 2 G 182 23 [.ref 35, .int a, .int b] [] (ev_hp I J R T) cz kz = some (some (.int (-3)), ev_hp I J R T, cz, kz) := by
  intro G
  rfl
theorem ct_r6 {a : Int32} {b : Int32} : ∀ G : ez_F, fx_up X 3 G 182 26 [.ref 35, .int a, .int b] [] (ev_hp I J R T) cz kz = G 182 31 [.ref 35, .int a, .int b] [.int a, .ref 61] (ev_hp I J R T) cz kz := by
  intro G
  rfl
theorem ct_r7 {a : Int32} {b : Int32} {x : Int32} : ∀ G : ez_F, fx_up X 7 G 182 32 [.ref 35, .int a, .int b] [.int x] (ev_hp I J R T) cz kz = bif decide (¬ b = (7 : Int32)) then G 182 48 [.ref 35, .int a, .int b, .int x] [.int a, .ref 61] (ev_hp I J R T) cz kz else G 182 44 [.ref 35, .int a, .int b, .int x] [.int a, .ref 61] (ev_hp I J R T) cz kz := by
  intro G
  rfl
theorem ct_r8 {a : Int32} {b : Int32} {x : Int32} : ∀ G : ez_F, fx_up X 2 G 182 44 [.ref 35, .int a, .int b, .int x] [.int a, .ref 61] (ev_hp I J R T) cz kz = G 182 49 [.ref 35, .int a, .int b, .int x] [.int (-1), .int a, .ref 61] (ev_hp I J R T) cz kz := by
  intro G
  rfl
theorem ct_r9 {a : Int32} {b : Int32} {x : Int32} : ∀ G : ez_F, fx_up X 1 G 182 48 [.ref 35, .int a, .int b, .int x] [.int a, .ref 61] (ev_hp I J R T) cz kz = G 182 49 [.ref 35, .int a, .int b, .int x] [.int b, .int a, .ref 61] (ev_hp I J R T) cz kz := by
  intro G
  rfl
theorem ct_r10 {a : Int32} {b : Int32} {x : Int32} : ∀ G : ez_F, fx_up X 2 G 182 50 [.ref 35, .int a, .int b, .int x] [] (ev_hp I J R T) cz kz = some (some (.int x), ev_hp I J R T, cz, kz) := by
  intro G
  rfl
end
theorem nn {p : Prop} (h : ¬ ¬ p) : p := Classical.not_not.mp h
theorem b_1 {I : Nat → Nat → Int32} (hh : cx_hB cx_B0 I) (k : Nat) (hk : k = 3 ∨ k = 4) : 2 ≤ (I 1 k).toInt ∧ (I 1 k).toInt ≤ 6 := by
  have h := hh 1 k
  rcases hk with rfl | rfl <;> exact h
theorem b_35 {I : Nat → Nat → Int32} (hh : cx_hB cx_B0 I) (k : Nat) (hk : k = 0 ∨ k = 1) : 2 ≤ (I 35 k).toInt ∧ (I 35 k).toInt ≤ 6 := by
  have h := hh 35 k
  rcases hk with rfl | rfl <;> exact h
theorem b_ca {I : Nat → Nat → Int32} (hh : cx_hB cx_B0 I) : (0 ≤ (I 8 1).toInt ∧ (I 8 1).toInt ≤ 30) ∧ (0 ≤ (I 35 16).toInt ∧ (I 35 16).toInt ≤ 30) := ⟨hh 8 1, hh 35 16⟩
theorem b_sh {I : Nat → Nat → Int32} (hh : cx_hB cx_B0 I) : (0 ≤ (I 3 3).toInt ∧ (I 3 3).toInt ≤ 3) ∧ (0 ≤ (I 35 3).toInt ∧ (I 35 3).toInt ≤ 3) := ⟨hh 3 3, hh 35 3⟩
theorem rim_lt {w h a : Int32} (hw : 2 ≤ w.toInt ∧ w.toInt ≤ 6) (hh : 2 ≤ h.toInt ∧ h.toInt ≤ 6) (ha : ¬ ev_wi a 0 (h + w - 1) = 0) : 0 ≤ a.toInt ∧ a.toInt < 12 := by
  obtain ⟨g1, g2⟩ := ev_wi_ne ha
  have e0 : (0 : Int32).toInt = 0 := by decide
  have e1 : (1 : Int32).toInt = 1 := by decide
  have es : (h + w).toInt = h.toInt + w.toInt := by
    rw [Int32.toInt_add, cx_bm32]
    simp only [cx_i32]
    omega
  have e2 : (h + w - 1).toInt = h.toInt + w.toInt - 1 := by
    rw [Int32.toInt_sub, es, e1, cx_bm32]
    simp only [cx_i32]
    omega
  omega
theorem at12 {a : Int32} (h : 0 ≤ a.toInt ∧ a.toInt < 12) (f : Nat → Int32) : ev_at 12 f a = f a.toNatClampNeg := by
  have e0 : (0 : Int32).toInt = 0 := by decide
  have e2 : (Int32.ofNat 12).toInt = 12 := by decide
  unfold ev_at
  rw [if_neg (fun z => by have := Int32.lt_iff_toInt_lt.mp z; omega), if_neg (fun z => by have := Int32.le_iff_toInt_le.mp z; omega)]
theorem pu12 {a : Int32} (h : 0 ≤ a.toInt ∧ a.toInt < 12) (f : Nat → Int32) (v : Int32) : ev_put 12 f a v = upd f a.toNatClampNeg v := by
  have e0 : (0 : Int32).toInt = 0 := by decide
  have e2 : (Int32.ofNat 12).toInt = 12 := by decide
  unfold ev_put
  rw [if_neg (fun z => by have := Int32.lt_iff_toInt_lt.mp z; omega), if_neg (fun z => by have := Int32.le_iff_toInt_le.mp z; omega)]
theorem cn_upd {k : Nat} (h : k < 12) (f : Nat → Int32) (v : Int32) : (fun r => if r < 12 then upd f k v r else 0) = upd (fun r => if r < 12 then f r else 0) k v := by
  funext r
  by_cases hr : r = k
  · subst hr
    rw [if_pos h, nd_upd_s, nd_upd_s]
  · by_cases h2 : r < 12
    · rw [if_pos h2, nd_upd_n _ _ hr, nd_upd_n _ _ hr, if_pos h2]
    · rw [if_neg h2, nd_upd_n _ _ hr, if_neg h2]
theorem i_lt {x y : Int32} (h : x.toInt < y.toInt) : x < y := Int32.lt_iff_toInt_lt.mpr h
theorem i_nlt {x y : Int32} (h : y.toInt ≤ x.toInt) : ¬ x < y := fun z => by
  have := Int32.lt_iff_toInt_lt.mp z
  omega
section
variable (X : ez_X) (I : Nat → Nat → Int32) (J : Nat → Nat → Int64) (R : Nat → Nat) (T : List ez_C)
theorem kc_grid (w h b : Int32) (hb : b = 0 ∨ b = 1) : ev_W X 18 0 (ez_lay [.ref 0, .int w, .int h, .int b]) [] (ev_hp I J R T) 0 0 (kp_E kx (kf_grid w h b) I) := by
  have hc : ∀ f : Nat → Int32, (∀ j, j < 12 → f j = -1) → (fun r => if r < 12 then f r else 0) = (fun r => if r < 12 then (-1 : Int32) else 0) := by
    intro f hf
    funext r
    split
    · rename_i hr
      exact hf r hr
    · rfl
  rcases hb with rfl | rfl
  · refine (eg_grid0 X I J R T w h).mono ?_
    rintro r h1 c1 k1 (⟨a, e, hh, -⟩ | ⟨z, y, f, hf, a, b, e, hh, -⟩ | ⟨a, b, e, hh, -⟩)
    · exact ⟨_, I, J, R, T, e, hh, (if_pos a).symm⟩
    · refine ⟨_, _, _, _, _, e, hh, Eq.trans ?_ ((if_neg a).trans (if_neg b)).symm⟩
      show (w * h, (w, h, (0 : Int32), w * h, (0 : Int32), (0 : Int32), I 2 0, I 2 1, I 2 2, (0 : Int32), (0 : Int32), fun r => if r < 12 then f r else 0)) = _
      rw [hc f hf]
      rfl
    · exact ⟨_, I, J, R, T, e, hh, ((if_neg a).trans (if_pos (nn b))).symm⟩
  · refine (eg_grid1 X I J R T w h).mono ?_
    rintro r h1 c1 k1 (⟨a, e, hh, -⟩ | ⟨z, y, f, hf, a, b, e, hh, -⟩ | ⟨a, b, e, hh, -⟩)
    · exact ⟨_, I, J, R, T, e, hh, (if_pos a).symm⟩
    · refine ⟨_, _, _, _, _, e, hh, Eq.trans ?_ ((if_neg a).trans (if_neg b)).symm⟩
      show (w * h, (w, h, (1 : Int32), w * h, (0 : Int32), (0 : Int32), I 2 0, I 2 1, I 2 2, (0 : Int32), (0 : Int32), fun r => if r < 12 then f r else 0)) = _
      rw [hc f hf]
      rfl
    · exact ⟨_, I, J, R, T, e, hh, ((if_neg a).trans (if_pos (nn b))).symm⟩
theorem kd_grid (w h b : Int32) (hb : b = 0 ∨ b = 1) : ev_W X 195 0 (ez_lay [.ref 35, .int w, .int h, .int b]) [] (ev_hp I J R T) 0 0 (kp_E km (kf_grid w h b) I) := by
  have hc : (fun r => if r < 12 then (upd (upd (upd (upd (upd (upd (upd (upd (upd (upd (upd (upd (I 61) 0 (-1)) 1 (-1)) 2 (-1)) 3 (-1)) 4 (-1)) 5 (-1)) 6 (-1)) 7 (-1)) 8 (-1)) 9 (-1)) 10 (-1)) 11 (-1)) r else 0) = (fun r => if r < 12 then (-1 : Int32) else 0) := by
    funext r
    by_cases hr : r < 12
    · rw [if_pos hr, if_pos hr]
      rcases (show r = 0 ∨ r = 1 ∨ r = 2 ∨ r = 3 ∨ r = 4 ∨ r = 5 ∨ r = 6 ∨ r = 7 ∨ r = 8 ∨ r = 9 ∨ r = 10 ∨ r = 11 by omega) with rfl | rfl | rfl | rfl | rfl | rfl | rfl | rfl | rfl | rfl | rfl | rfl <;> rfl
    · rw [if_neg hr, if_neg hr]
  rcases hb with rfl | rfl
  · refine (em_grid0 X I J R T w h).mono ?_
    rw [il_26 w, il_26 h]
    rintro r h1 c1 k1 (⟨a, e, hh, -⟩ | ⟨a, b, e, hh, -⟩ | ⟨a, b, e, hh, -⟩)
    · exact ⟨_, I, J, R, T, e, hh, (if_pos a).symm⟩
    · refine ⟨_, _, _, _, _, e, hh, Eq.trans ?_ ((if_neg a).trans (if_neg b)).symm⟩
      rw [← hc]
      rfl
    · exact ⟨_, I, J, R, T, e, hh, ((if_neg a).trans (if_pos (nn b))).symm⟩
  · refine (em_grid1 X I J R T w h).mono ?_
    rw [il_26 w, il_26 h]
    rintro r h1 c1 k1 (⟨a, e, hh, -⟩ | ⟨a, b, e, hh, -⟩ | ⟨a, b, e, hh, -⟩)
    · exact ⟨_, I, J, R, T, e, hh, (if_pos a).symm⟩
    · refine ⟨_, _, _, _, _, e, hh, Eq.trans ?_ ((if_neg a).trans (if_neg b)).symm⟩
      rw [← hc]
      rfl
    · exact ⟨_, I, J, R, T, e, hh, ((if_neg a).trans (if_pos (nn b))).symm⟩
theorem kc_drift (a b : Int32) : ev_W X 16 0 (ez_lay [.ref 0, .int a, .int b]) [] (ev_hp I J R T) 0 0 (kp_E kx (kf_drift a b) I) := by
  refine (eg_drift X I J R T a b).mono ?_
  rintro r h1 c1 k1 (⟨a0, e, hh, -⟩ | ⟨a0, a1, a2, e, hh, -⟩ | ⟨a0, a1, a2, e, hh, -⟩ | ⟨a0, a1, e, hh, -⟩)
  · exact ⟨_, I, J, R, T, e, hh, (if_pos a0).symm⟩
  · exact ⟨_, _, _, _, _, e, hh, ((if_neg a0).trans ((if_neg a1).trans (if_neg a2))).symm⟩
  · exact ⟨_, I, J, R, T, e, hh, ((if_neg a0).trans ((if_neg a1).trans (if_pos (nn a2)))).symm⟩
  · exact ⟨_, I, J, R, T, e, hh, ((if_neg a0).trans (if_pos (nn a1))).symm⟩
theorem kd_drift (a b : Int32) : ev_W X 185 0 (ez_lay [.ref 35, .int a, .int b]) [] (ev_hp I J R T) 0 0 (kp_E km (kf_drift a b) I) := by
  refine (em_drift X I J R T a b).mono ?_
  rw [il_11 a, il_11 b]
  rintro r h1 c1 k1 (⟨a0, e, hh, -⟩ | ⟨a0, a1, a2, e, hh, -⟩ | ⟨a0, a1, a2, e, hh, -⟩ | ⟨a0, a1, e, hh, -⟩)
  · exact ⟨_, I, J, R, T, e, hh, (if_pos a0).symm⟩
  · exact ⟨_, _, _, _, _, e, hh, ((if_neg a0).trans ((if_neg a1).trans (if_neg a2))).symm⟩
  · exact ⟨_, I, J, R, T, e, hh, ((if_neg a0).trans ((if_neg a1).trans (if_pos (nn a2)))).symm⟩
  · exact ⟨_, I, J, R, T, e, hh, ((if_neg a0).trans (if_pos (nn a1))).symm⟩
theorem kc_call (a : Int32) : ev_W X 10 0 (ez_lay [.ref 0, .int a]) [] (ev_hp I J R T) 0 0 (kp_E kx (kf_call a) I) := by
  refine (eg_call X I J R T a).mono ?_
  rintro r h1 c1 k1 (⟨a0, e, hh, -⟩ | ⟨a0, a1, e, hh, -⟩ | ⟨a0, a1, e, hh, -⟩)
  · exact ⟨_, I, J, R, T, e, hh, (if_pos a0).symm⟩
  · exact ⟨_, _, _, _, _, e, hh, ((if_neg a0).trans (if_pos a1)).symm⟩
  · exact ⟨_, I, J, R, T, e, hh, ((if_neg a0).trans (if_neg a1)).symm⟩
theorem ca_lt {x : Int32} (h : 0 ≤ x.toInt ∧ x.toInt ≤ 30) (hn : ¬ x = 30) : x < 30 := by
  have e : (30 : Int32).toInt = 30 := by decide
  rw [← Int32.toInt_inj] at hn
  exact i_lt (by omega)
theorem ca_ix {x : Int32} (h : 0 ≤ x.toInt ∧ x.toInt ≤ 30) (hn : ¬ x = 30) : ev_ix x 30 := by
  have e : (30 : Int32).toInt = 30 := by decide
  rw [← Int32.toInt_inj] at hn
  exact fs_ixs (by omega) (by omega)
theorem kd_call (hB : cx_hB cx_B0 I) (a : Int32) : ev_W X 175 0 (ez_lay [.ref 35, .int a]) [] (ev_hp I J R T) 0 0 (kp_E km (kf_call a) I) := by
  have hb := (b_ca hB).2
  refine (em_call X I J R T a (ca_ix hb)).mono ?_
  rw [il_0 a]
  rintro r h1 c1 k1 (⟨a0, a1, e, hh, -⟩ | ⟨a0, a1, e, hh, -⟩ | ⟨a0, e, hh, -⟩)
  · exact ⟨_, _, _, _, _, e, hh, ((if_neg a0).trans (if_pos (ca_lt hb a1))).symm⟩
  · exact ⟨_, I, J, R, T, e, hh, ((if_neg a0).trans (if_neg (show ¬ I 35 16 < 30 by rw [nn a1]; decide))).symm⟩
  · exact ⟨_, I, J, R, T, e, hh, (if_pos (nn a0)).symm⟩
theorem kc_salvo (a b : Int32) : ev_W X 41 0 (ez_lay [.ref 0, .int a, .int b]) [] (ev_hp I J R T) 0 0 (kp_E kx (kf_salvo a b) I) := by
  refine (eg_salvo X I J R T a b).mono ?_
  rintro r h1 c1 k1 (⟨a0, e, hh, -⟩ | ⟨a0, a1, a2, a3, e, hh, -⟩ | ⟨a0, a1, a2, a3, e, hh, -⟩ | ⟨a0, a1, a2, e, hh, -⟩ | ⟨a0, a1, e, hh, -⟩)
  · exact ⟨_, I, J, R, T, e, hh, (if_pos a0).symm⟩
  · exact ⟨_, _, _, _, _, e, hh, ((if_neg a0).trans ((if_neg a1).trans ((if_neg a2).trans (if_pos a3)))).symm⟩
  · exact ⟨_, I, J, R, T, e, hh, ((if_neg a0).trans ((if_neg a1).trans ((if_neg a2).trans (if_neg a3)))).symm⟩
  · exact ⟨_, I, J, R, T, e, hh, ((if_neg a0).trans ((if_neg a1).trans (if_pos (nn a2)))).symm⟩
  · exact ⟨_, I, J, R, T, e, hh, ((if_neg a0).trans (if_pos (nn a1))).symm⟩
theorem kd_salvo (hB : cx_hB cx_B0 I) (a b : Int32) : ev_W X 218 0 (ez_lay [.ref 35, .int a, .int b]) [] (ev_hp I J R T) 0 0 (kp_E km (kf_salvo a b) I) := by
  have hb := (b_ca hB).2
  refine (em_salvo X I J R T a b (ca_ix hb)).mono ?_
  rw [il_0 a, il_0 b]
  rintro r h1 c1 k1 (⟨a0, e, hh, -⟩ | ⟨a0, a1, a2, a3, e, hh, -⟩ | ⟨a0, a1, a2, a3, e, hh, -⟩ | ⟨a0, a1, a2, e, hh, -⟩ | ⟨a0, a1, e, hh, -⟩)
  · exact ⟨_, I, J, R, T, e, hh, (if_pos a0).symm⟩
  · exact ⟨_, _, _, _, _, e, hh, ((if_neg a0).trans ((if_neg a1).trans ((if_neg a2).trans (if_pos (ca_lt hb a3))))).symm⟩
  · exact ⟨_, I, J, R, T, e, hh, ((if_neg a0).trans ((if_neg a1).trans ((if_neg a2).trans (if_neg (show ¬ I 35 16 < 30 by rw [nn a3]; decide))))).symm⟩
  · exact ⟨_, I, J, R, T, e, hh, ((if_neg a0).trans ((if_neg a1).trans (if_pos (nn a2)))).symm⟩
  · exact ⟨_, I, J, R, T, e, hh, ((if_neg a0).trans (if_pos (nn a1))).symm⟩
theorem kc_back (hB : cx_hB cx_B0 I) : ev_W X 5 0 (ez_lay [.ref 0]) [] (ev_hp I J R T) 0 0 (kp_E kx kf_back I) := by
  have hb := (b_ca hB).1
  have e0 : (0 : Int32).toInt = 0 := by decide
  have e1 : (1 : Int32).toInt = 1 := by decide
  refine (eg_back X I J R T).mono ?_
  rintro r h1 c1 k1 (⟨a0, a1, e, hh, -⟩ | ⟨a0, a1, e, hh, -⟩ | ⟨a0, e, hh, -⟩)
  · have z0 := Int32.le_iff_toInt_le.mp a0
    have z1 := Int32.le_iff_toInt_le.mp a1
    omega
  · refine ⟨_, _, _, _, _, e, hh, (if_neg ?_).symm⟩
    show ¬ I 8 1 = 0
    intro z
    rw [z] at a1
    exact a1 (by decide)
  · refine ⟨_, I, J, R, T, e, hh, (if_pos ?_).symm⟩
    show I 8 1 = 0
    have z : ¬ (1 : Int32).toInt ≤ (I 8 1).toInt := fun y => a0 (Int32.le_iff_toInt_le.mpr y)
    rw [← Int32.toInt_inj]
    omega
theorem kd_back : ev_W X 168 0 (ez_lay [.ref 35]) [] (ev_hp I J R T) 0 0 (kp_E km kf_back I) := by
  refine ev_if bk_r0 (fun z => ?_) (fun z => ev_ret bk_r1 ⟨_, I, J, R, T, rfl, rfl, (if_pos (show I 35 16 = 0 from nn (of_decide_eq_false z))).symm⟩)
  refine ev_seg bk_r2 ?_
  refine ev_seg bk_r3 ?_
  exact ev_ret bk_r4 ⟨I 35 16 - 1, _, _, _, _, rfl, rfl, (if_neg (show ¬ I 35 16 = 0 from of_decide_eq_true z)).symm⟩
theorem kc_ship (hX2 : X.1 < 2 ^ 31) (hh : cx_hok cx_B0 I R T) (a b : Int32) : ev_W X 43 0 (ez_lay [.ref 0, .int a, .int b]) [] (ev_hp I J R T) 0 0 (kp_E kx (kf_ship a b) I) := by
  have hs := (b_sh hh.1).1
  have e3 : (3 : Int32).toInt = 3 := by decide
  refine ev_call sp_r0 (ec_within X _ a 1 65535) ?_
  rintro _ _ _ _ ⟨rfl, rfl, rfl, rfl⟩
  refine ev_if sp_r1 (fun x => ev_ret sp_r2 ⟨_, I, J, R, T, rfl, rfl, (if_pos (of_decide_eq_true x)).symm⟩) (fun x => ?_)
  have a0 := of_decide_eq_false x
  refine ev_call sp_r3 (ec_bcI X _ a) ?_
  rintro _ _ _ _ ⟨rfl, rfl, rfl, rfl⟩
  refine ev_if sp_r4 (fun y => ev_ret sp_r2 ⟨_, I, J, R, T, rfl, rfl, ((if_neg a0).trans (if_pos (of_decide_eq_true y))).symm⟩) (fun y => ?_)
  have a1 := of_decide_eq_false y
  refine ev_call sp_r5 (ec_within X _ b 0 2) ?_
  rintro _ _ _ _ ⟨rfl, rfl, rfl, rfl⟩
  refine ev_if sp_r6 (fun z => ?_) (fun z => ev_ret sp_r2 ⟨_, I, J, R, T, rfl, rfl, ((if_neg a0).trans ((if_neg a1).trans (if_pos (nn (of_decide_eq_false z))))).symm⟩)
  have a2 := of_decide_eq_true z
  refine ev_if sp_r7 (fun u => ?_) (fun u => ev_ret sp_r8 ⟨_, I, J, R, T, rfl, rfl, ((if_neg a0).trans ((if_neg a1).trans ((if_neg a2).trans (if_neg (of_decide_eq_false u))))).symm⟩)
  have a3 := of_decide_eq_true u
  refine ev_if sp_r9 (fun w => ?_) (fun w => ev_ret sp_r10 ⟨_, I, J, R, T, rfl, rfl, ((if_neg a0).trans ((if_neg a1).trans ((if_neg a2).trans ((if_pos a3).trans (if_neg (of_decide_eq_false w)))))).symm⟩)
  have a4 := of_decide_eq_true w
  have b4 := Int32.lt_iff_toInt_lt.mp a4
  refine ev_call sp_r11 ((ec_build X I J R T a b).both (cv_85_0 X [a.toInt, b.toInt, (I 3 3).toInt] _ I J R T hX2 hh ⟨⟨rfl, ⟨a, rfl, rfl⟩, ⟨b, rfl, rfl⟩, trivial⟩, trivial, cx_iv_cons (cx_full32 a) (cx_iv_cons (cx_full32 b) (cx_iv_cons (by simp only; omega) cx_iv_nil)), cx_nil, fun e he => by rw [List.mem_singleton.mp he]; rfl, fun e he => (by cases he)⟩)) ?_
  rintro r h1 c1 k1 ⟨⟨rfl, ⟨f, g, e1⟩, -, -⟩, I', J', R', T', e2, q2, q3, -⟩
  have ek := kx_hp (e1.symm.trans e2)
  subst e2
  refine ev_call sp_r12 (cv_28_0 X [] _ I' J' R' T' hX2 q2 ⟨⟨rfl, trivial⟩, trivial, cx_iv_nil, cx_nil, fun e he => (by cases he), fun e he => (by cases he)⟩) ?_
  rintro r h1 c1 k1 ⟨I2, J2, R2, T2, rfl, w2, w3, -, -, -, E, hE, τ, -, ho⟩
  have hE : E ∈ [(([], [], [], [], [], []) : cx_S)] := hE
  rw [List.mem_singleton.mp hE] at ho
  cases r with
  | some v => exact absurd ho.2.1 (by simp [cx_L])
  | none =>
    refine ev_ret sp_r13 ⟨I 3 3, I2, J2, R2, T2, rfl, rfl, ?_⟩
    rw [kx_fr (by rfl) w3, ← ek]
    exact ((if_neg a0).trans ((if_neg a1).trans ((if_neg a2).trans ((if_pos a3).trans (if_pos a4))))).symm
theorem kd_ship (hB : cx_hB cx_B0 I) (a b : Int32) : ev_W X 220 0 (ez_lay [.ref 35, .int a, .int b]) [] (ev_hp I J R T) 0 0 (kp_E km (kf_ship a b) I) := by
  have hs := (b_sh hB).2
  have e1 : (1 : Int32).toInt = 1 := by decide
  have e3 : (3 : Int32).toInt = 3 := by decide
  have es : I 35 3 + 1 - 1 = I 35 3 := by
    rw [← Int32.toInt_inj, Int32.toInt_sub, nd_inc (by omega) (by omega), e1, cx_bm32]
    · omega
    · simp only [cx_i32]; omega
  refine (em_ship X I J R T a b (fun hn => ?_)).mono ?_
  · rw [← Int32.toInt_inj] at hn
    exact fs_ixs (by omega) (by omega)
  rw [il_1s a, il_02 b]
  rintro r h1 c1 k1 (⟨a0, e, hh, -⟩ | ⟨a0, a1, e, hh, -⟩ | ⟨a0, a1, a2, a3, a4, e, hh, -⟩ | ⟨a0, a1, a2, a3, a4, e, hh, -⟩ | ⟨a0, a1, a2, a3, e, hh, -⟩ | ⟨a0, a1, a2, e, hh, -⟩)
  · exact ⟨_, I, J, R, T, e, hh, (if_pos a0).symm⟩
  · rw [← sb_bits a0] at a1
    exact ⟨_, I, J, R, T, e, hh, ((if_neg a0).trans (if_pos a1)).symm⟩
  · rw [← sb_bits a0] at a1
    rw [es] at e
    rw [← Int32.toInt_inj] at a4
    exact ⟨_, _, _, _, _, e, hh, ((if_neg a0).trans ((if_neg a1).trans ((if_neg a2).trans ((if_pos a3).trans (if_pos (show I 35 3 < 3 from i_lt (by omega))))))).symm⟩
  · rw [← sb_bits a0] at a1
    exact ⟨_, I, J, R, T, e, hh, ((if_neg a0).trans ((if_neg a1).trans ((if_neg a2).trans ((if_pos a3).trans (if_neg (show ¬ I 35 3 < 3 by rw [nn a4]; decide)))))).symm⟩
  · rw [← sb_bits a0] at a1
    exact ⟨_, I, J, R, T, e, hh, ((if_neg a0).trans ((if_neg a1).trans ((if_neg a2).trans (if_neg a3)))).symm⟩
  · rw [← sb_bits a0] at a1
    exact ⟨_, I, J, R, T, e, hh, ((if_neg a0).trans ((if_neg a1).trans (if_pos (nn a2)))).symm⟩
theorem kc_count (hB : cx_hB cx_B0 I) (a b : Int32) : ev_W X 14 0 (ez_lay [.ref 0, .int a, .int b]) [] (ev_hp I J R T) 0 0 (kp_E kx (kf_count a b) I) := by
  refine (eg_count X I J R T a b).mono ?_
  rintro r h1 c1 k1 (⟨a0, a1, e, hh, -⟩ | ⟨a0, a1, a2, e, hh, -⟩ | ⟨a0, a1, a2, e, hh, -⟩ | ⟨a0, e, hh, -⟩)
  · exact ⟨_, I, J, R, T, e, hh, ((if_neg a0).trans (if_pos a1)).symm⟩
  · have hr := rim_lt (b_1 hB 3 (Or.inl rfl)) (b_1 hB 4 (Or.inr rfl)) a0
    have hk : a.toNatClampNeg < 12 := by rw [nd_nat]; omega
    rw [at12 hr] at e
    rw [pu12 hr] at hh
    refine ⟨_, _, _, _, _, e, hh, Eq.trans ?_ ((if_neg a0).trans (if_neg a1)).symm⟩
    rw [if_neg a2]
    show (I 33 a.toNatClampNeg, (I 1 3, I 1 4, I 1 5, I 1 6, I 1 1, I 1 2, I 2 0, I 2 1, I 2 2, I 3 3, I 8 1, fun r => if r < 12 then upd (I 33) a.toNatClampNeg b r else 0)) = ((if a.toNatClampNeg < 12 then I 33 a.toNatClampNeg else 0), (I 1 3, I 1 4, I 1 5, I 1 6, I 1 1, I 1 2, I 2 0, I 2 1, I 2 2, I 3 3, I 8 1, upd (fun r => if r < 12 then I 33 r else 0) a.toNatClampNeg b))
    rw [if_pos hk, cn_upd hk]
  · have hr := rim_lt (b_1 hB 3 (Or.inl rfl)) (b_1 hB 4 (Or.inr rfl)) a0
    have hk : a.toNatClampNeg < 12 := by rw [nd_nat]; omega
    rw [at12 hr] at e
    rw [pu12 hr] at hh
    refine ⟨_, _, _, _, _, e, hh, Eq.trans ?_ ((if_neg a0).trans (if_neg a1)).symm⟩
    rw [if_pos (nn a2)]
    show (I 33 a.toNatClampNeg, (I 1 3, I 1 4, I 1 5, I 1 6, I 1 1, I 1 2, I 2 0, I 2 1, I 2 2, I 3 3, I 8 1, fun r => if r < 12 then upd (I 33) a.toNatClampNeg (-1) r else 0)) = ((if a.toNatClampNeg < 12 then I 33 a.toNatClampNeg else 0), (I 1 3, I 1 4, I 1 5, I 1 6, I 1 1, I 1 2, I 2 0, I 2 1, I 2 2, I 3 3, I 8 1, upd (fun r => if r < 12 then I 33 r else 0) a.toNatClampNeg (-1)))
    rw [if_pos hk, cn_upd hk]
  · exact ⟨_, I, J, R, T, e, hh, (if_pos (nn a0)).symm⟩
theorem kd_count (hB : cx_hB cx_B0 I) (a b : Int32) : ev_W X 182 0 (ez_lay [.ref 35, .int a, .int b]) [] (ev_hp I J R T) 0 0 (kp_E km (kf_count a b) I) := by
  refine ev_call ct_r0 (em_isRim X I J R T a) ?_
  rw [il_0 a, Int32.add_comm (I 35 0) (I 35 1)]
  rintro r h1 c1 k1 ⟨rfl, rfl, rfl, rfl⟩
  refine ev_if ct_r1 (fun x => ?_) (fun x => ev_ret ct_r2 ⟨_, I, J, R, T, rfl, rfl, (if_pos (nn (of_decide_eq_false x))).symm⟩)
  have a0 := of_decide_eq_true x
  refine ev_call ct_r3 (ec_in X _ b.toInt64 0 7) ?_
  rw [il_07 b]
  rintro _ _ _ _ ⟨rfl, rfl, rfl, rfl⟩
  refine ev_if ct_r4 (fun y => ?_) (fun y => ev_ret ct_r5 ⟨_, I, J, R, T, rfl, rfl, ((if_neg a0).trans (if_pos (nn (of_decide_eq_false y)))).symm⟩)
  have a1 := of_decide_eq_true y
  have hr := rim_lt (b_35 hB 0 (Or.inl rfl)) (b_35 hB 1 (Or.inr rfl)) a0
  have hk : a.toNatClampNeg < 12 := by rw [nd_nat]; omega
  refine ev_seg ct_r6 ?_
  refine ev_iald (by rfl) (cx_getI (show cx_Ds[61]? = some (0, 12, []) from rfl)) (fs_ixs hr.1 (by omega)) ?_
  refine ev_if ct_r7 (fun z => ?_) (fun z => ?_)
  · refine ev_seg ct_r9 ?_
    refine ev_iastH (by rfl) (cx_getI (show cx_Ds[61]? = some (0, 12, []) from rfl)) (fs_ixs hr.1 (by omega)) (cx_setI (show cx_Ds[61]? = some (0, 12, []) from rfl) _) ?_
    refine ev_ret ct_r10 ⟨_, _, _, _, _, rfl, rfl, Eq.trans ?_ ((if_neg a0).trans (if_neg a1)).symm⟩
    rw [if_neg (of_decide_eq_true z)]
    show (I 61 a.toNatClampNeg, (I 35 0, I 35 1, I 35 2, I 35 0 * I 35 1, I 35 9, I 35 10, I 35 6, I 35 7, I 35 8, I 35 3, I 35 16, fun r => if r < 12 then upd (I 61) a.toNatClampNeg b r else 0)) = ((if a.toNatClampNeg < 12 then I 61 a.toNatClampNeg else 0), (I 35 0, I 35 1, I 35 2, I 35 0 * I 35 1, I 35 9, I 35 10, I 35 6, I 35 7, I 35 8, I 35 3, I 35 16, upd (fun r => if r < 12 then I 61 r else 0) a.toNatClampNeg b))
    rw [if_pos hk, cn_upd hk]
  · refine ev_seg ct_r8 ?_
    refine ev_iastH (by rfl) (cx_getI (show cx_Ds[61]? = some (0, 12, []) from rfl)) (fs_ixs hr.1 (by omega)) (cx_setI (show cx_Ds[61]? = some (0, 12, []) from rfl) _) ?_
    refine ev_ret ct_r10 ⟨_, _, _, _, _, rfl, rfl, Eq.trans ?_ ((if_neg a0).trans (if_neg a1)).symm⟩
    rw [if_pos (nn (of_decide_eq_false z))]
    show (I 61 a.toNatClampNeg, (I 35 0, I 35 1, I 35 2, I 35 0 * I 35 1, I 35 9, I 35 10, I 35 6, I 35 7, I 35 8, I 35 3, I 35 16, fun r => if r < 12 then upd (I 61) a.toNatClampNeg (-1) r else 0)) = ((if a.toNatClampNeg < 12 then I 61 a.toNatClampNeg else 0), (I 35 0, I 35 1, I 35 2, I 35 0 * I 35 1, I 35 9, I 35 10, I 35 6, I 35 7, I 35 8, I 35 3, I 35 16, upd (fun r => if r < 12 then I 61 r else 0) a.toNatClampNeg (-1)))
    rw [if_pos hk, cn_upd hk]
end
