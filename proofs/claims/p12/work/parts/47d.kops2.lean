/-! The key with what is told. -/
section
variable {X : ez_X} {I : Nat → Nat → Int32} {J : Nat → Nat → Int64} {R : Nat → Nat} {T : List ez_C} {cz kz : Nat}
theorem an_r0 {a : Int32} {b : Int32} : ∀ G : ez_F, fx_up X 3 G 166 0 [.ref 35, .int a, .int b] [] (ev_hp I J R T) cz kz = ev_C G 199 [.ref 35, .int a] (ev_hp I J R T) fun r h1 c1 k1 => G 166 5 [.ref 35, .int a, .int b] (r.toList ++ []) h1 (cz + c1) (kz + k1) := by
  intro G
  rfl
theorem an_r1 {a : Int32} {b : Int32} {v : Int32} : ∀ G : ez_F, fx_up X 1 G 166 5 [.ref 35, .int a, .int b] [.int v] (ev_hp I J R T) cz kz = bif decide (¬ v = (0 : Int32)) then G 166 11 [.ref 35, .int a, .int b] [] (ev_hp I J R T) cz kz else G 166 8 [.ref 35, .int a, .int b] [] (ev_hp I J R T) cz kz := by
  intro G
  rfl
theorem an_r2 {a : Int32} {b : Int32} : ∀ G : ez_F, fx_up X 2 G 166 8 [.ref 35, .int a, .int b] [] (ev_hp I J R T) cz kz = some (some (.int (-2)), ev_hp I J R T, cz, kz) := by
  intro G
  rfl
theorem an_r3 {a : Int32} {b : Int32} : ∀ G : ez_F, fx_up X 5 G 166 11 [.ref 35, .int a, .int b] [] (ev_hp I J R T) cz kz = ev_C G 198 [.long (b.toInt64), .long 0, .long 2] (ev_hp I J R T) fun r h1 c1 k1 => G 166 20 [.ref 35, .int a, .int b] (r.toList ++ []) h1 (cz + c1) (kz + k1) := by
  intro G
  rfl
theorem an_r4 {a : Int32} {b : Int32} {v : Int32} : ∀ G : ez_F, fx_up X 1 G 166 20 [.ref 35, .int a, .int b] [.int v] (ev_hp I J R T) cz kz = bif decide (¬ v = (0 : Int32)) then G 166 26 [.ref 35, .int a, .int b] [] (ev_hp I J R T) cz kz else G 166 23 [.ref 35, .int a, .int b] [] (ev_hp I J R T) cz kz := by
  intro G
  rfl
theorem an_r5 {a : Int32} {b : Int32} : ∀ G : ez_F, fx_up X 2 G 166 23 [.ref 35, .int a, .int b] [] (ev_hp I J R T) cz kz = some (some (.int (-3)), ev_hp I J R T, cz, kz) := by
  intro G
  rfl
theorem an_r6 {a : Int32} {b : Int32} : ∀ G : ez_F, fx_up X 3 G 166 26 [.ref 35, .int a, .int b] [] (ev_hp I J R T) cz kz = G 166 31 [.ref 35, .int a, .int b] [.int a, .ref 44] (ev_hp I J R T) cz kz := by
  intro G
  rfl
theorem an_r7 {a : Int32} {b : Int32} {x : Int32} : ∀ G : ez_F, fx_up X 5 G 166 32 [.ref 35, .int a, .int b] [.int x] (ev_hp I J R T) cz kz = G 166 39 [.ref 35, .int a, .int b, .int x] [.int b, .int a, .ref 44] (ev_hp I J R T) cz kz := by
  intro G
  rfl
theorem an_r8 {a : Int32} {b : Int32} {x : Int32} : ∀ G : ez_F, fx_up X 2 G 166 40 [.ref 35, .int a, .int b, .int x] [] (ev_hp I J R T) cz kz = some (some (.int x), ev_hp I J R T, cz, kz) := by
  intro G
  rfl
end
section
variable {X : ez_X} {I : Nat → Nat → Int32} {J : Nat → Nat → Int64} {R : Nat → Nat} {T : List ez_C} {cz kz : Nat}
theorem lo_r0 {a : Int32} : ∀ G : ez_F, fx_up X 3 G 209 0 [.ref 35, .int a] [] (ev_hp I J R T) cz kz = ev_C G 199 [.ref 35, .int a] (ev_hp I J R T) fun r h1 c1 k1 => G 209 5 [.ref 35, .int a] (r.toList ++ []) h1 (cz + c1) (kz + k1) := by
  intro G
  rfl
theorem lo_r1 {a : Int32} {v : Int32} : ∀ G : ez_F, fx_up X 1 G 209 5 [.ref 35, .int a] [.int v] (ev_hp I J R T) cz kz = bif decide (¬ v = (0 : Int32)) then G 209 11 [.ref 35, .int a] [] (ev_hp I J R T) cz kz else G 209 8 [.ref 35, .int a] [] (ev_hp I J R T) cz kz := by
  intro G
  rfl
theorem lo_r2 {a : Int32} : ∀ G : ez_F, fx_up X 2 G 209 8 [.ref 35, .int a] [] (ev_hp I J R T) cz kz = some (some (.int (-2)), ev_hp I J R T, cz, kz) := by
  intro G
  rfl
theorem lo_r3 {a : Int32} : ∀ G : ez_F, fx_up X 3 G 209 11 [.ref 35, .int a] [] (ev_hp I J R T) cz kz = G 209 16 [.ref 35, .int a] [.int a, .ref 44] (ev_hp I J R T) cz kz := by
  intro G
  rfl
theorem lo_r4 {a : Int32} {x : Int32} : ∀ G : ez_F, fx_up X 2 G 209 17 [.ref 35, .int a] [.int x] (ev_hp I J R T) cz kz = bif decide (¬ x = (-1)) then G 209 24 [.ref 35, .int a] [] (ev_hp I J R T) cz kz else G 209 21 [.ref 35, .int a] [] (ev_hp I J R T) cz kz := by
  intro G
  rfl
theorem lo_r5 {a : Int32} : ∀ G : ez_F, fx_up X 2 G 209 21 [.ref 35, .int a] [] (ev_hp I J R T) cz kz = some (some (.int (-4)), ev_hp I J R T, cz, kz) := by
  intro G
  rfl
theorem lo_r6 {a : Int32} : ∀ G : ez_F, fx_up X 4 G 209 24 [.ref 35, .int a] [] (ev_hp I J R T) cz kz = G 209 30 [.ref 35, .int a] [.int (-1), .int a, .ref 44] (ev_hp I J R T) cz kz := by
  intro G
  rfl
theorem lo_r7 {a : Int32} : ∀ G : ez_F, fx_up X 2 G 209 31 [.ref 35, .int a] [] (ev_hp I J R T) cz kz = some (some (.int 1), ev_hp I J R T, cz, kz) := by
  intro G
  rfl
end
abbrev ku_K : Type := kt_K × (Nat → Int32)
def tk (J : Nat → Nat → Int64) : Nat → Int32 := fun c => if c < 30 then td_at (J 8 2) (J 8 3) c else 0
def tm (I : Nat → Nat → Int32) : Nat → Int32 := fun c => if c < 30 then (if (c : Int) < (I 35 16).toInt then I 44 c else -1) else 0
def ux (I : Nat → Nat → Int32) (J : Nat → Nat → Int64) : ku_K := (kx I, tk J)
def um (I : Nat → Nat → Int32) : ku_K := (km I, tm I)
def kq_x (md : List (Nat × Nat)) : Bool := !cx_may md 8 2 && !cx_may md 8 3
def kq_m (md : List (Nat × Nat)) : Bool := !cx_may md 35 16 && (List.range 30).all fun c => !cx_may md 44 c
section
variable {I I' : Nat → Nat → Int32} {J J' : Nat → Nat → Int64} {R R' : Nat → Nat} {T T' : List ez_C}
theorem tk_hp (e : ev_hp I J R T = ev_hp I' J' R' T') : tk J = tk J' := by
  have f2 : J 8 2 = J' 8 2 := hp_fldJ (n := 0) (show cx_Ds[8]? = some (0 + 2, _, _) from rfl) rfl e
  have f3 : J 8 3 = J' 8 3 := hp_fldJ (n := 0) (show cx_Ds[8]? = some (0 + 2, _, _) from rfl) rfl e
  unfold tk
  rw [f2, f3]
theorem tm_hp (e : ev_hp I J R T = ev_hp I' J' R' T') : tm I = tm I' := by
  have f1 : I 35 16 = I' 35 16 := hp_fld (n := 0) (show cx_Ds[35]? = some (0 + 2, _, _) from rfl) rfl e
  have f2 : I 44 = I' 44 := hp_row (show cx_Ds[44]? = some (0, _, _) from rfl) e
  unfold tm
  rw [f1, f2]
theorem tk_fr {md : List (Nat × Nat)} (h : kq_x md = true) (hf : cx_fr md I J I' J') : tk J' = tk J := by
  obtain ⟨h1, h2⟩ := Bool.and_eq_true_iff.mp h
  unfold tk
  rw [(hf 8 2 (by simpa using h1)).2, (hf 8 3 (by simpa using h2)).2]
theorem tm_fr {md : List (Nat × Nat)} (h : kq_m md = true) (hf : cx_fr md I J I' J') : tm I' = tm I := by
  obtain ⟨h1, h2⟩ := Bool.and_eq_true_iff.mp h
  unfold tm
  rw [(hf 35 16 (by simpa using h1)).1]
  funext c
  split
  · rename_i hc
    have h3 := List.all_eq_true.mp h2 c (List.mem_range.mpr hc)
    rw [(hf 44 c (by simpa using h3)).1]
  · rfl
end
def kl (f : kt_K → Int32 × kt_K) (K : ku_K) : Int32 × ku_K := ((f K.1).1, ((f K.1).2, K.2))
def ku_E (f : ku_K → Int32 × ku_K) (I : Nat → Nat → Int32) (J : Nat → Nat → Int64) : ev_Q := fun r h _ _ => ∃ (v : Int32) (I' : Nat → Nat → Int32) (J' : Nat → Nat → Int64) (R' : Nat → Nat) (T' : List ez_C), r = some (.int v) ∧ h = ev_hp I' J' R' T' ∧ (v, ux I' J') = f (ux I J)
def ku_F (f : ku_K → Int32 × ku_K) (I : Nat → Nat → Int32) : ev_Q := fun r h _ _ => ∃ (v : Int32) (I' : Nat → Nat → Int32) (J' : Nat → Nat → Int64) (R' : Nat → Nat) (T' : List ez_C), r = some (.int v) ∧ h = ev_hp I' J' R' T' ∧ (v, um I') = f (um I)
def ku_X (f : ku_K → Int32 × ku_K) (I : Nat → Nat → Int32) (J : Nat → Nat → Int64) (T : List ez_C) : ev_Q := fun r h c k => ∃ (v : Int32) (I' : Nat → Nat → Int32) (J' : Nat → Nat → Int64) (R' : Nat → Nat) (T' : List ez_C), r = some (.int v) ∧ h = ev_hp I' J' R' T' ∧ cx_hok cx_B0 I' R' T' ∧ c + T.length = T'.length ∧ k + cx_mem T = cx_mem T' ∧ (v, ux I' J') = f (ux I J) ∧ um I' = um I
def ku_M (f : ku_K → Int32 × ku_K) (I : Nat → Nat → Int32) (J : Nat → Nat → Int64) (T : List ez_C) : ev_Q := fun r h c k => ∃ (v : Int32) (I' : Nat → Nat → Int32) (J' : Nat → Nat → Int64) (R' : Nat → Nat) (T' : List ez_C), r = some (.int v) ∧ h = ev_hp I' J' R' T' ∧ cx_hok cx_B0 I' R' T' ∧ c + T.length = T'.length ∧ k + cx_mem T = cx_mem T' ∧ (v, um I') = f (um I) ∧ ux I' J' = ux I J
section
variable {X : ez_X} {m : Nat} {K : cx_K} {ls : List Value} {σ0 : List Int} {I : Nat → Nat → Int32} {J : Nat → Nat → Int64} {R : Nat → Nat} {T : List ez_C}
theorem um_fr {md : List (Nat × Nat)} {I' : Nat → Nat → Int32} {J' : Nat → Nat → Int64} (h : (kt_fm md && kq_m md) = true) (hf : cx_fr md I J I' J') : um I' = um I := by
  obtain ⟨h1, h2⟩ := Bool.and_eq_true_iff.mp h
  unfold um
  rw [km_fr h1 hf, tm_fr h2 hf]
theorem ux_fr {md : List (Nat × Nat)} {I' : Nat → Nat → Int32} {J' : Nat → Nat → Int64} (h : (kt_fx md && kq_x md) = true) (hf : cx_fr md I J I' J') : ux I' J' = ux I J := by
  obtain ⟨h1, h2⟩ := Bool.and_eq_true_iff.mp h
  unfold ux
  rw [kx_fr h1 hf, tk_fr h2 hf]
theorem ku_x {f : ku_K → Int32 × ku_K} (hv : cx_valid cx_B0 m K) (hf : (kt_fm K.2.1 && kq_m K.2.1) = true) (hX2 : X.1 < 2 ^ 31) (hh : cx_hok cx_B0 I R T) (hok : cx_ok σ0 K.1 ls [] I T) (he : ev_W X m 0 ls [] (ev_hp I J R T) 0 0 (ku_E f I J)) : ev_W X m 0 ls [] (ev_hp I J R T) 0 0 (ku_X f I J T) := by
  refine (he.both (hv X σ0 ls I J R T hX2 hh hok)).mono ?_
  rintro r h' c' k' ⟨⟨v, I1, J1, R1, T1, e1, e2, e3⟩, I', J', R', T', q1, q2, q3, q4, q5, q6, -⟩
  refine ⟨v, I', J', R', T', e1, q1, q2, by omega, by omega, ?_, um_fr hf q3⟩
  rw [← e3]
  unfold ux
  rw [kx_hp (e2.symm.trans q1), tk_hp (e2.symm.trans q1)]
theorem ku_xl {f : kt_K → Int32 × kt_K} (hv : cx_valid cx_B0 m K) (hf : (kt_fm K.2.1 && kq_m K.2.1) = true) (ht : kq_x K.2.1 = true) (hX2 : X.1 < 2 ^ 31) (hh : cx_hok cx_B0 I R T) (hok : cx_ok σ0 K.1 ls [] I T) (he : ev_W X m 0 ls [] (ev_hp I J R T) 0 0 (kp_E kx f I)) : ev_W X m 0 ls [] (ev_hp I J R T) 0 0 (ku_X (kl f) I J T) := by
  refine (he.both (hv X σ0 ls I J R T hX2 hh hok)).mono ?_
  rintro r h' c' k' ⟨⟨v, I1, J1, R1, T1, e1, e2, e3⟩, I', J', R', T', q1, q2, q3, q4, q5, q6, -⟩
  refine ⟨v, I', J', R', T', e1, q1, q2, by omega, by omega, ?_, um_fr hf q3⟩
  unfold ux kl
  rw [← kx_hp (e2.symm.trans q1), tk_fr ht q3]
  show (v, (kx I1, tk J)) = ((f (kx I)).1, ((f (kx I)).2, tk J))
  rw [← e3]
theorem ku_m {f : ku_K → Int32 × ku_K} (hv : cx_valid cx_B0 m K) (hf : (kt_fx K.2.1 && kq_x K.2.1) = true) (hX2 : X.1 < 2 ^ 31) (hh : cx_hok cx_B0 I R T) (hok : cx_ok σ0 K.1 ls [] I T) (he : ev_W X m 0 ls [] (ev_hp I J R T) 0 0 (ku_F f I)) : ev_W X m 0 ls [] (ev_hp I J R T) 0 0 (ku_M f I J T) := by
  refine (he.both (hv X σ0 ls I J R T hX2 hh hok)).mono ?_
  rintro r h' c' k' ⟨⟨v, I1, J1, R1, T1, e1, e2, e3⟩, I', J', R', T', q1, q2, q3, q4, q5, q6, -⟩
  refine ⟨v, I', J', R', T', e1, q1, q2, by omega, by omega, ?_, ux_fr hf q3⟩
  rw [← e3]
  unfold um
  rw [km_hp (e2.symm.trans q1), tm_hp (e2.symm.trans q1)]
theorem ku_ml {f : kt_K → Int32 × kt_K} (hv : cx_valid cx_B0 m K) (hf : (kt_fx K.2.1 && kq_x K.2.1) = true) (ht : kq_m K.2.1 = true) (hX2 : X.1 < 2 ^ 31) (hh : cx_hok cx_B0 I R T) (hok : cx_ok σ0 K.1 ls [] I T) (he : ev_W X m 0 ls [] (ev_hp I J R T) 0 0 (kp_E km f I)) : ev_W X m 0 ls [] (ev_hp I J R T) 0 0 (ku_M (kl f) I J T) := by
  refine (he.both (hv X σ0 ls I J R T hX2 hh hok)).mono ?_
  rintro r h' c' k' ⟨⟨v, I1, J1, R1, T1, e1, e2, e3⟩, I', J', R', T', q1, q2, q3, q4, q5, q6, -⟩
  refine ⟨v, I', J', R', T', e1, q1, q2, by omega, by omega, ?_, ux_fr hf q3⟩
  unfold um kl
  rw [← km_hp (e2.symm.trans q1), tm_fr ht q3]
  show (v, (km I1, tm I)) = ((f (km I)).1, ((f (km I)).2, tm I))
  rw [← e3]
end
/-! rows of what is told, as they change -/
theorem tm_call (f : Nat → Int32) {x : Int32} (h : 0 ≤ x.toInt ∧ x.toInt < 30) : (fun c : Nat => if c < 30 then (if (c : Int) < (x + 1).toInt then upd f x.toNatClampNeg (-1) c else -1) else 0) = (fun c : Nat => if c < 30 then (if (c : Int) < x.toInt then f c else -1) else 0) := by
  have e : (x + 1).toInt = x.toInt + 1 := nd_inc h.1 (by omega)
  have en : x.toNatClampNeg = x.toInt.toNat := rfl
  funext c
  by_cases hc : c < 30
  · rw [if_pos hc, if_pos hc]
    by_cases hx : c = x.toNatClampNeg
    · rw [if_pos (by omega), if_neg (by omega), hx, nd_upd_s]
    · by_cases h2 : (c : Int) < x.toInt
      · rw [if_pos (by omega), if_pos h2, nd_upd_n _ _ hx]
      · rw [if_neg (by omega), if_neg h2]
  · rw [if_neg hc, if_neg hc]
theorem tm_back (f : Nat → Int32) {x : Int32} (h : 1 ≤ x.toInt ∧ x.toInt ≤ 30) : (fun c : Nat => if c < 30 then (if (c : Int) < (x - 1).toInt then f c else -1) else 0) = upd (fun c : Nat => if c < 30 then (if (c : Int) < x.toInt then f c else -1) else 0) (x - 1).toNatClampNeg (-1) := by
  have e : (x - 1).toInt = x.toInt - 1 := by
    rw [Int32.toInt_sub, show (1 : Int32).toInt = 1 from by decide, cx_bm32]
    simp only [cx_i32]
    omega
  have en : (x - 1).toNatClampNeg = (x - 1).toInt.toNat := rfl
  funext c
  by_cases hx : c = (x - 1).toNatClampNeg
  · rw [hx, nd_upd_s, if_pos (by omega), if_neg (by omega)]
  · rw [nd_upd_n _ _ hx]
    by_cases hc : c < 30
    · rw [if_pos hc, if_pos hc]
      by_cases h2 : (c : Int) < x.toInt
      · rw [if_pos (by omega), if_pos h2]
      · rw [if_neg (by omega), if_neg h2]
    · rw [if_neg hc, if_neg hc]
theorem tm_upd (f : Nat → Int32) {n : Int} {k : Nat} (hk : k < 30) (h2 : (k : Int) < n) (v : Int32) : (fun c : Nat => if c < 30 then (if (c : Int) < n then upd f k v c else -1) else 0) = upd (fun c : Nat => if c < 30 then (if (c : Int) < n then f c else -1) else 0) k v := by
  funext c
  by_cases hx : c = k
  · rw [hx, nd_upd_s, nd_upd_s, if_pos hk, if_pos h2]
  · rw [nd_upd_n _ _ hx, nd_upd_n _ _ hx]
theorem tk_upd {A K A' K' : Int64} {k : Nat} (hk : k < 30) {v : Int32} (h : ∀ d, d < 30 → td_at A' K' d = if d = k then v else td_at A K d) : (fun c : Nat => if c < 30 then td_at A' K' c else 0) = upd (fun c : Nat => if c < 30 then td_at A K c else 0) k v := by
  funext c
  by_cases hx : c = k
  · rw [hx, nd_upd_s, if_pos hk, h k hk, if_pos rfl]
  · rw [nd_upd_n _ _ hx]
    by_cases hc : c < 30
    · rw [if_pos hc, if_pos hc, h c hc, if_neg hx]
    · rw [if_neg hc, if_neg hc]
/-! the calls that change what is told -/
def kg_none : Nat → Int32 := fun c => if c < 30 then -1 else 0
def kg_grid (w h b : Int32) (K : ku_K) : Int32 × ku_K := if ev_wi w 2 6 = 0 then (-3, K) else if ev_wi h 2 6 = 0 then (-3, K) else ((kf_grid w h b K.1).1, ((kf_grid w h b K.1).2, kg_none))
def kg_back (K : ku_K) : Int32 × ku_K := if kt_ca K.1 = 0 then (-4, K) else (kt_ca K.1 - 1, (kt_called K.1 (kt_ca K.1 - 1), upd K.2 (kt_ca K.1 - 1).toNatClampNeg (-1)))
def kg_answer (a b : Int32) (K : ku_K) : Int32 × ku_K := if ev_wi a 0 (kt_ca K.1 - 1) = 0 then (-2, K) else if ev_wi b 0 2 = 0 then (-3, K) else (K.2 a.toNatClampNeg, (K.1, upd K.2 a.toNatClampNeg b))
def kg_lose (a : Int32) (K : ku_K) : Int32 × ku_K := if ev_wi a 0 (kt_ca K.1 - 1) = 0 then (-2, K) else if K.2 a.toNatClampNeg = -1 then (-4, K) else (1, (K.1, upd K.2 a.toNatClampNeg (-1)))
theorem wi_012 {b : Int32} (h : ¬ ev_wi b 0 2 = 0) : b = 0 ∨ b = 1 ∨ b = 2 := by
  by_cases h0 : b = 0
  · exact Or.inl h0
  · by_cases h1 : b = 1
    · exact Or.inr (Or.inl h1)
    · exact Or.inr (Or.inr (wi_3 h h0 h1))
theorem ca_in {a x : Int32} (hx : 0 ≤ x.toInt ∧ x.toInt ≤ 30) (h : ¬ ev_wi a 0 (x - 1) = 0) : 0 ≤ a.toInt ∧ a.toInt < x.toInt := by
  obtain ⟨g1, g2⟩ := ev_wi_ne h
  have e0 : (0 : Int32).toInt = 0 := by decide
  have e : (x - 1).toInt = x.toInt - 1 := by
    rw [Int32.toInt_sub, show (1 : Int32).toInt = 1 from by decide, cx_bm32]
    simp only [cx_i32]
    omega
  omega
section
variable (X : ez_X) (I : Nat → Nat → Int32) (J : Nat → Nat → Int64) (R : Nat → Nat) (T : List ez_C)
theorem kc2_grid (w h b : Int32) (hb : b = 0 ∨ b = 1) : ev_W X 18 0 (ez_lay [.ref 0, .int w, .int h, .int b]) [] (ev_hp I J R T) 0 0 (ku_E (kg_grid w h b) I J) := by
  have hn : (fun c : Nat => if c < 30 then td_at 0 0 c else 0) = kg_none := by
    funext c
    unfold kg_none
    rw [td_none]
  refine ((kc_grid X I J R T w h b hb).both (show ev_W X 18 0 (ez_lay [.ref 0, .int w, .int h, .int b]) [] (ev_hp I J R T) 0 0 (fun r h1 _ _ => ∃ (I' : Nat → Nat → Int32) (J' : Nat → Nat → Int64), h1 = ev_hp I' J' R T ∧ tk J' = if ev_wi w 2 6 = 0 then tk J else if ev_wi h 2 6 = 0 then tk J else kg_none) from ?_)).mono ?_
  · rcases hb with rfl | rfl
    · refine (eg_grid0 X I J R T w h).mono ?_
      rintro r h1 c1 k1 (⟨a, e, hh, -⟩ | ⟨z, y, f, hf, a, b, e, hh, -⟩ | ⟨a, b, e, hh, -⟩)
      · exact ⟨I, J, hh, (if_pos a).symm⟩
      · refine ⟨_, _, hh, Eq.trans ?_ ((if_neg a).trans (if_neg b)).symm⟩
        rw [← hn]
        rfl
      · exact ⟨I, J, hh, ((if_neg a).trans (if_pos (nn b))).symm⟩
    · refine (eg_grid1 X I J R T w h).mono ?_
      rintro r h1 c1 k1 (⟨a, e, hh, -⟩ | ⟨z, y, f, hf, a, b, e, hh, -⟩ | ⟨a, b, e, hh, -⟩)
      · exact ⟨I, J, hh, (if_pos a).symm⟩
      · refine ⟨_, _, hh, Eq.trans ?_ ((if_neg a).trans (if_neg b)).symm⟩
        rw [← hn]
        rfl
      · exact ⟨I, J, hh, ((if_neg a).trans (if_pos (nn b))).symm⟩
  · rintro r h' c' k' ⟨⟨v, I1, J1, R1, T1, e1, e2, e3⟩, I2, J2, e4, e5⟩
    refine ⟨v, I1, J1, R1, T1, e1, e2, ?_⟩
    have et := tk_hp (e2.symm.trans e4)
    unfold ux kg_grid
    rw [et, e5]
    by_cases a : ev_wi w 2 6 = 0
    · rw [if_pos a, if_pos a]
      have e3 : (v, kx I1) = (-3, kx I) := e3.trans (if_pos a)
      rw [show v = -3 from congrArg Prod.fst e3, show kx I1 = kx I from congrArg Prod.snd e3]
    · by_cases a2 : ev_wi h 2 6 = 0
      · rw [if_neg a, if_pos a2, if_neg a, if_pos a2]
        have e3 : (v, kx I1) = (-3, kx I) := e3.trans ((if_neg a).trans (if_pos a2))
        rw [show v = -3 from congrArg Prod.fst e3, show kx I1 = kx I from congrArg Prod.snd e3]
      · rw [if_neg a, if_neg a2, if_neg a, if_neg a2]
        show (v, (kx I1, kg_none)) = ((kf_grid w h b (kx I)).1, ((kf_grid w h b (kx I)).2, kg_none))
        rw [← e3]
theorem kd2_grid (w h b : Int32) (hb : b = 0 ∨ b = 1) : ev_W X 195 0 (ez_lay [.ref 35, .int w, .int h, .int b]) [] (ev_hp I J R T) 0 0 (ku_F (kg_grid w h b) I) := by
  have hn : ∀ f : Nat → Int32, (fun c : Nat => if c < 30 then (if (c : Int) < (0 : Int32).toInt then f c else -1) else 0) = kg_none := by
    intro f
    funext c
    unfold kg_none
    split
    · rw [if_neg (by rw [show (0 : Int32).toInt = 0 from by decide]; omega)]
    · rfl
  refine ((kd_grid X I J R T w h b hb).both (show ev_W X 195 0 (ez_lay [.ref 35, .int w, .int h, .int b]) [] (ev_hp I J R T) 0 0 (fun r h1 _ _ => ∃ (I' : Nat → Nat → Int32) (J' : Nat → Nat → Int64), h1 = ev_hp I' J' R T ∧ tm I' = if ev_wi w 2 6 = 0 then tm I else if ev_wi h 2 6 = 0 then tm I else kg_none) from ?_)).mono ?_
  · rcases hb with rfl | rfl
    · refine (em_grid0 X I J R T w h).mono ?_
      rw [il_26 w, il_26 h]
      rintro r h1 c1 k1 (⟨a, e, hh, -⟩ | ⟨a, b, e, hh, -⟩ | ⟨a, b, e, hh, -⟩)
      · exact ⟨I, J, hh, (if_pos a).symm⟩
      · refine ⟨_, _, hh, Eq.trans ?_ ((if_neg a).trans (if_neg b)).symm⟩
        rw [← hn (I 44)]
        rfl
      · exact ⟨I, J, hh, ((if_neg a).trans (if_pos (nn b))).symm⟩
    · refine (em_grid1 X I J R T w h).mono ?_
      rw [il_26 w, il_26 h]
      rintro r h1 c1 k1 (⟨a, e, hh, -⟩ | ⟨a, b, e, hh, -⟩ | ⟨a, b, e, hh, -⟩)
      · exact ⟨I, J, hh, (if_pos a).symm⟩
      · refine ⟨_, _, hh, Eq.trans ?_ ((if_neg a).trans (if_neg b)).symm⟩
        rw [← hn (I 44)]
        rfl
      · exact ⟨I, J, hh, ((if_neg a).trans (if_pos (nn b))).symm⟩
  · rintro r h' c' k' ⟨⟨v, I1, J1, R1, T1, e1, e2, e3⟩, I2, J2, e4, e5⟩
    refine ⟨v, I1, J1, R1, T1, e1, e2, ?_⟩
    have et := tm_hp (e2.symm.trans e4)
    unfold um kg_grid
    rw [et, e5]
    by_cases a : ev_wi w 2 6 = 0
    · rw [if_pos a, if_pos a]
      have e3 : (v, km I1) = (-3, km I) := e3.trans (if_pos a)
      rw [show v = -3 from congrArg Prod.fst e3, show km I1 = km I from congrArg Prod.snd e3]
    · by_cases a2 : ev_wi h 2 6 = 0
      · rw [if_neg a, if_pos a2, if_neg a, if_pos a2]
        have e3 : (v, km I1) = (-3, km I) := e3.trans ((if_neg a).trans (if_pos a2))
        rw [show v = -3 from congrArg Prod.fst e3, show km I1 = km I from congrArg Prod.snd e3]
      · rw [if_neg a, if_neg a2, if_neg a, if_neg a2]
        show (v, (km I1, kg_none)) = ((kf_grid w h b (km I)).1, ((kf_grid w h b (km I)).2, kg_none))
        rw [← e3]
theorem kd2_call (hB : cx_hB cx_B0 I) (a : Int32) : ev_W X 175 0 (ez_lay [.ref 35, .int a]) [] (ev_hp I J R T) 0 0 (ku_F (kl (kf_call a)) I) := by
  have hb := (b_ca hB).2
  refine ((kd_call X I J R T hB a).both ((em_call X I J R T a (ca_ix hb)).mono (Q' := fun r h1 _ _ => ∃ (I' : Nat → Nat → Int32) (J' : Nat → Nat → Int64), h1 = ev_hp I' J' R T ∧ tm I' = tm I) ?_)).mono ?_
  · rintro r h1 c1 k1 (⟨a0, a1, e, hh, -⟩ | ⟨a0, a1, e, hh, -⟩ | ⟨a0, e, hh, -⟩)
    · exact ⟨_, _, hh, tm_call (I 44) ⟨hb.1, by have := Int32.lt_iff_toInt_lt.mp (ca_lt hb a1); rw [show (30 : Int32).toInt = 30 from by decide] at this; exact this⟩⟩
    · exact ⟨I, J, hh, rfl⟩
    · exact ⟨I, J, hh, rfl⟩
  · rintro r h' c' k' ⟨⟨v, I1, J1, R1, T1, e1, e2, e3⟩, I2, J2, e4, e5⟩
    refine ⟨v, I1, J1, R1, T1, e1, e2, ?_⟩
    unfold um kl
    rw [tm_hp (e2.symm.trans e4), e5]
    show (v, (km I1, tm I)) = ((kf_call a (km I)).1, ((kf_call a (km I)).2, tm I))
    rw [← e3]
theorem kd2_salvo (hB : cx_hB cx_B0 I) (a b : Int32) : ev_W X 218 0 (ez_lay [.ref 35, .int a, .int b]) [] (ev_hp I J R T) 0 0 (ku_F (kl (kf_salvo a b)) I) := by
  have hb := (b_ca hB).2
  refine ((kd_salvo X I J R T hB a b).both ((em_salvo X I J R T a b (ca_ix hb)).mono (Q' := fun r h1 _ _ => ∃ (I' : Nat → Nat → Int32) (J' : Nat → Nat → Int64), h1 = ev_hp I' J' R T ∧ tm I' = tm I) ?_)).mono ?_
  · rintro r h1 c1 k1 (⟨a0, e, hh, -⟩ | ⟨a0, a1, a2, a3, e, hh, -⟩ | ⟨a0, a1, a2, a3, e, hh, -⟩ | ⟨a0, a1, a2, e, hh, -⟩ | ⟨a0, a1, e, hh, -⟩)
    · exact ⟨I, J, hh, rfl⟩
    · exact ⟨_, _, hh, tm_call (I 44) ⟨hb.1, by have := Int32.lt_iff_toInt_lt.mp (ca_lt hb a3); rw [show (30 : Int32).toInt = 30 from by decide] at this; exact this⟩⟩
    · exact ⟨I, J, hh, rfl⟩
    · exact ⟨I, J, hh, rfl⟩
    · exact ⟨I, J, hh, rfl⟩
  · rintro r h' c' k' ⟨⟨v, I1, J1, R1, T1, e1, e2, e3⟩, I2, J2, e4, e5⟩
    refine ⟨v, I1, J1, R1, T1, e1, e2, ?_⟩
    unfold um kl
    rw [tm_hp (e2.symm.trans e4), e5]
    show (v, (km I1, tm I)) = ((kf_salvo a b (km I)).1, ((kf_salvo a b (km I)).2, tm I))
    rw [← e3]
theorem kc2_back (hB : cx_hB cx_B0 I) : ev_W X 5 0 (ez_lay [.ref 0]) [] (ev_hp I J R T) 0 0 (ku_E kg_back I J) := by
  have hb := (b_ca hB).1
  have e0 : (0 : Int32).toInt = 0 := by decide
  have e1 : (1 : Int32).toInt = 1 := by decide
  refine (eg_back X I J R T).mono ?_
  rintro r h1 c1 k1 (⟨a0, a1, e, hh, -⟩ | ⟨a0, a1, e, hh, -⟩ | ⟨a0, e, hh, -⟩)
  · have z0 := Int32.le_iff_toInt_le.mp a0
    have z1 := Int32.le_iff_toInt_le.mp a1
    omega
  · have z0 := Int32.le_iff_toInt_le.mp a0
    have es : (I 8 1 - 1).toInt = (I 8 1).toInt - 1 := by
      rw [Int32.toInt_sub, e1, cx_bm32]
      simp only [cx_i32]
      omega
    have ec : I 8 1 - 1 = Int32.ofNat (I 8 1 - 1).toNatClampNeg := (nd_ofNat (by omega)).symm
    have hk : (I 8 1 - 1).toNatClampNeg < 30 := by rw [nd_nat]; omega
    refine ⟨_, _, _, _, _, e, hh, Eq.trans ?_ (if_neg (show ¬ I 8 1 = 0 from fun z => by rw [z] at a1; exact a1 (by decide))).symm⟩
    have ht : ∀ d, d < 30 → td_at ((J 8 2) &&& (((3 : Int64) <<< ((((2 : Int32) * ((I 8 1) - (1 : Int32))) : Int32).toInt64 &&& 63)) ^^^ ((-1) : Int64))) ((J 8 3) &&& (((1 : Int64) <<< ((((2 : Int32) * ((I 8 1) - (1 : Int32))) : Int32).toInt64 &&& 63)) ^^^ ((-1) : Int64))) d = if d = (I 8 1 - 1).toNatClampNeg then -1 else td_at (J 8 2) (J 8 3) d := by
      intro d hd
      have h := td_untell (J 8 2) (J 8 3) hk hd
      unfold td_s at h
      rw [← ec] at h
      exact h
    show (_, (_, fun c : Nat => if c < 30 then td_at ((J 8 2) &&& (((3 : Int64) <<< ((((2 : Int32) * ((I 8 1) - (1 : Int32))) : Int32).toInt64 &&& 63)) ^^^ ((-1) : Int64))) ((J 8 3) &&& (((1 : Int64) <<< ((((2 : Int32) * ((I 8 1) - (1 : Int32))) : Int32).toInt64 &&& 63)) ^^^ ((-1) : Int64))) c else 0)) = _
    rw [tk_upd hk ht]
    rfl
  · refine ⟨_, I, J, R, T, e, hh, (if_pos ?_).symm⟩
    show I 8 1 = 0
    have z : ¬ (1 : Int32).toInt ≤ (I 8 1).toInt := fun y => a0 (Int32.le_iff_toInt_le.mpr y)
    rw [← Int32.toInt_inj]
    omega
theorem kd2_back (hB : cx_hB cx_B0 I) : ev_W X 168 0 (ez_lay [.ref 35]) [] (ev_hp I J R T) 0 0 (ku_F kg_back I) := by
  have hb := (b_ca hB).2
  have e0 : (0 : Int32).toInt = 0 := by decide
  refine ev_if bk_r0 (fun z => ?_) (fun z => ev_ret bk_r1 ⟨_, I, J, R, T, rfl, rfl, (if_pos (show I 35 16 = 0 from nn (of_decide_eq_false z))).symm⟩)
  have hz : ¬ I 35 16 = 0 := of_decide_eq_true z
  have hz2 : ¬ (I 35 16).toInt = 0 := fun y => hz (Int32.toInt_inj.mp (by rw [y, e0]))
  refine ev_seg bk_r2 ?_
  refine ev_seg bk_r3 ?_
  refine ev_ret bk_r4 ⟨I 35 16 - 1, _, _, _, _, rfl, rfl, Eq.trans ?_ (if_neg hz).symm⟩
  show (_, (_, fun c : Nat => if c < 30 then (if (c : Int) < (I 35 16 - 1).toInt then I 44 c else -1) else 0)) = _
  rw [tm_back (I 44) (x := I 35 16) (by omega)]
  rfl
theorem td_is (A K : Int64) {c : Nat} (hc : c < 30) (h : ¬ lg_cmp (((K.toUInt64 >>> td_u c).toInt64) &&& (1 : Int64)) 0 = 0) : td_at A K c = (((A.toUInt64 >>> td_u c).toInt64) &&& (3 : Int64)).toInt32 := by
  rw [td_known K hc] at h
  unfold td_at
  rw [td_two A hc]
  cases hb : kb K (2 * c) with
  | true => rfl
  | false => exact absurd hb h
theorem td_not (A K : Int64) {c : Nat} (hc : c < 30) (h : ¬ ¬ lg_cmp (((K.toUInt64 >>> td_u c).toInt64) &&& (1 : Int64)) 0 = 0) : td_at A K c = -1 := by
  have h := nn h
  rw [td_known K hc] at h
  unfold td_at
  rw [h]
  rfl
theorem kc2_answer (hB : cx_hB cx_B0 I) (a b : Int32) : ev_W X 1 0 (ez_lay [.ref 0, .int a, .int b]) [] (ev_hp I J R T) 0 0 (ku_E (kg_answer a b) I J) := by
  have hb := (b_ca hB).1
  refine (eg_answer X I J R T a b).mono ?_
  by_cases ha : ev_wi a 0 (I 8 1 - 1) = 0
  · rintro r h1 c1 k1 (⟨a0, -⟩ | ⟨a0, -⟩ | ⟨a0, -⟩ | ⟨a0, e, hh, -⟩)
    · exact absurd ha a0
    · exact absurd ha a0
    · exact absurd ha a0
    · exact ⟨_, I, J, R, T, e, hh, (if_pos ha).symm⟩
  obtain ⟨g0, g1⟩ := ca_in hb ha
  have hk : a.toNatClampNeg < 30 := by rw [nd_nat]; omega
  have ec : a = Int32.ofNat a.toNatClampNeg := (nd_ofNat g0).symm
  have known : ∀ h : ¬ lg_cmp ((((J 8 3).toUInt64 >>> ((((2 : Int32) * a) : Int32).toInt64.toUInt64 &&& 63)).toInt64) &&& (1 : Int64)) 0 = 0, td_at (J 8 2) (J 8 3) a.toNatClampNeg = ((((J 8 2).toUInt64 >>> ((((2 : Int32) * a) : Int32).toInt64.toUInt64 &&& 63)).toInt64) &&& (3 : Int64)).toInt32 := by
    intro h
    have e := td_is (J 8 2) (J 8 3) hk
    unfold td_u at e
    rw [← ec] at e
    exact e h
  have unknown : ∀ h : ¬ ¬ lg_cmp ((((J 8 3).toUInt64 >>> ((((2 : Int32) * a) : Int32).toInt64.toUInt64 &&& 63)).toInt64) &&& (1 : Int64)) 0 = 0, td_at (J 8 2) (J 8 3) a.toNatClampNeg = -1 := by
    intro h
    have e := td_not (J 8 2) (J 8 3) hk
    unfold td_u at e
    rw [← ec] at e
    exact e h
  have ht : ¬ ev_wi b 0 2 = 0 → ∀ d, d < 30 → td_at (((J 8 2) &&& (((3 : Int64) <<< ((((2 : Int32) * a) : Int32).toInt64 &&& 63)) ^^^ ((-1) : Int64))) ||| ((b.toInt64) <<< ((((2 : Int32) * a) : Int32).toInt64 &&& 63))) (((J 8 3) &&& (((1 : Int64) <<< ((((2 : Int32) * a) : Int32).toInt64 &&& 63)) ^^^ ((-1) : Int64))) ||| ((1 : Int64) <<< ((((2 : Int32) * a) : Int32).toInt64 &&& 63))) d = if d = a.toNatClampNeg then b else td_at (J 8 2) (J 8 3) d := by
    intro hb2 d hd
    have e := td_tell (J 8 2) (J 8 3) (wi_012 hb2) hk hd
    unfold td_s at e
    rw [← ec] at e
    exact e
  have hv : tk J a.toNatClampNeg = td_at (J 8 2) (J 8 3) a.toNatClampNeg := if_pos hk
  rintro r h1 c1 k1 (⟨a0, a1, a2, e, hh, -⟩ | ⟨a0, a1, a2, e, hh, -⟩ | ⟨a0, a1, e, hh, -⟩ | ⟨a0, -⟩)
  · rw [← known a2, ← hv] at e
    refine ⟨_, _, _, _, _, e, hh, Eq.trans ?_ ((if_neg ha).trans (if_neg a1)).symm⟩
    show (_, (_, fun c : Nat => if c < 30 then td_at (((J 8 2) &&& (((3 : Int64) <<< ((((2 : Int32) * a) : Int32).toInt64 &&& 63)) ^^^ ((-1) : Int64))) ||| ((b.toInt64) <<< ((((2 : Int32) * a) : Int32).toInt64 &&& 63))) (((J 8 3) &&& (((1 : Int64) <<< ((((2 : Int32) * a) : Int32).toInt64 &&& 63)) ^^^ ((-1) : Int64))) ||| ((1 : Int64) <<< ((((2 : Int32) * a) : Int32).toInt64 &&& 63))) c else 0)) = _
    rw [tk_upd hk (ht a1)]
    rfl
  · rw [← unknown a2, ← hv] at e
    refine ⟨_, _, _, _, _, e, hh, Eq.trans ?_ ((if_neg ha).trans (if_neg a1)).symm⟩
    show (_, (_, fun c : Nat => if c < 30 then td_at (((J 8 2) &&& (((3 : Int64) <<< ((((2 : Int32) * a) : Int32).toInt64 &&& 63)) ^^^ ((-1) : Int64))) ||| ((b.toInt64) <<< ((((2 : Int32) * a) : Int32).toInt64 &&& 63))) (((J 8 3) &&& (((1 : Int64) <<< ((((2 : Int32) * a) : Int32).toInt64 &&& 63)) ^^^ ((-1) : Int64))) ||| ((1 : Int64) <<< ((((2 : Int32) * a) : Int32).toInt64 &&& 63))) c else 0)) = _
    rw [tk_upd hk (ht a1)]
    rfl
  · exact ⟨_, I, J, R, T, e, hh, ((if_neg ha).trans (if_pos (nn a1))).symm⟩
  · exact absurd (nn a0) ha
theorem kc2_lose (hB : cx_hB cx_B0 I) (a : Int32) : ev_W X 32 0 (ez_lay [.ref 0, .int a]) [] (ev_hp I J R T) 0 0 (ku_E (kg_lose a) I J) := by
  have hb := (b_ca hB).1
  refine (eg_lose X I J R T a).mono ?_
  by_cases ha : ev_wi a 0 (I 8 1 - 1) = 0
  · rintro r h1 c1 k1 (⟨a0, -⟩ | ⟨a0, -⟩ | ⟨a0, -⟩ | ⟨a0, e, hh, -⟩)
    · exact absurd ha a0
    · exact absurd ha a0
    · exact absurd ha a0
    · exact ⟨_, I, J, R, T, e, hh, (if_pos ha).symm⟩
  obtain ⟨g0, g1⟩ := ca_in hb ha
  have hk : a.toNatClampNeg < 30 := by rw [nd_nat]; omega
  have ec : a = Int32.ofNat a.toNatClampNeg := (nd_ofNat g0).symm
  have known : ∀ h : ¬ lg_cmp ((((J 8 3).toUInt64 >>> ((((2 : Int32) * a) : Int32).toInt64.toUInt64 &&& 63)).toInt64) &&& (1 : Int64)) 0 = 0, td_at (J 8 2) (J 8 3) a.toNatClampNeg = ((((J 8 2).toUInt64 >>> ((((2 : Int32) * a) : Int32).toInt64.toUInt64 &&& 63)).toInt64) &&& (3 : Int64)).toInt32 := by
    intro h
    have e := td_is (J 8 2) (J 8 3) hk
    unfold td_u at e
    rw [← ec] at e
    exact e h
  have unknown : ∀ h : ¬ ¬ lg_cmp ((((J 8 3).toUInt64 >>> ((((2 : Int32) * a) : Int32).toInt64.toUInt64 &&& 63)).toInt64) &&& (1 : Int64)) 0 = 0, td_at (J 8 2) (J 8 3) a.toNatClampNeg = -1 := by
    intro h
    have e := td_not (J 8 2) (J 8 3) hk
    unfold td_u at e
    rw [← ec] at e
    exact e h
  have ht : ∀ d, d < 30 → td_at ((J 8 2) &&& (((3 : Int64) <<< ((((2 : Int32) * a) : Int32).toInt64 &&& 63)) ^^^ ((-1) : Int64))) ((J 8 3) &&& (((1 : Int64) <<< ((((2 : Int32) * a) : Int32).toInt64 &&& 63)) ^^^ ((-1) : Int64))) d = if d = a.toNatClampNeg then -1 else td_at (J 8 2) (J 8 3) d := by
    intro d hd
    have e := td_untell (J 8 2) (J 8 3) hk hd
    unfold td_s at e
    rw [← ec] at e
    exact e
  have hv : tk J a.toNatClampNeg = td_at (J 8 2) (J 8 3) a.toNatClampNeg := if_pos hk
  rintro r h1 c1 k1 (⟨a0, a1, a2, e, hh, -⟩ | ⟨a0, a1, a2, e, hh, -⟩ | ⟨a0, a1, e, hh, -⟩ | ⟨a0, -⟩)
  · rw [← known a1, ← hv] at a2
    refine ⟨_, _, _, _, _, e, hh, Eq.trans ?_ ((if_neg ha).trans (if_neg a2)).symm⟩
    show (_, (_, fun c : Nat => if c < 30 then td_at ((J 8 2) &&& (((3 : Int64) <<< ((((2 : Int32) * a) : Int32).toInt64 &&& 63)) ^^^ ((-1) : Int64))) ((J 8 3) &&& (((1 : Int64) <<< ((((2 : Int32) * a) : Int32).toInt64 &&& 63)) ^^^ ((-1) : Int64))) c else 0)) = _
    rw [tk_upd hk ht]
    rfl
  · rw [← known a1, ← hv] at a2
    exact ⟨_, I, J, R, T, e, hh, ((if_neg ha).trans (if_pos (nn a2))).symm⟩
  · exact ⟨_, I, J, R, T, e, hh, ((if_neg ha).trans (if_pos (show tk J a.toNatClampNeg = -1 by rw [hv, unknown a1]))).symm⟩
  · exact absurd (nn a0) ha
theorem kd2_answer (hB : cx_hB cx_B0 I) (a b : Int32) : ev_W X 166 0 (ez_lay [.ref 35, .int a, .int b]) [] (ev_hp I J R T) 0 0 (ku_F (kg_answer a b) I) := by
  have hb := (b_ca hB).2
  refine ev_call an_r0 (em_isCall X I J R T a) ?_
  rw [il_0 a]
  rintro r h1 c1 k1 ⟨rfl, rfl, rfl, rfl⟩
  refine ev_if an_r1 (fun x => ?_) (fun x => ev_ret an_r2 ⟨_, I, J, R, T, rfl, rfl, (if_pos (nn (of_decide_eq_false x))).symm⟩)
  have a0 := of_decide_eq_true x
  refine ev_call an_r3 (ec_in X _ b.toInt64 0 2) ?_
  rw [il_02 b]
  rintro _ _ _ _ ⟨rfl, rfl, rfl, rfl⟩
  refine ev_if an_r4 (fun y => ?_) (fun y => ev_ret an_r5 ⟨_, I, J, R, T, rfl, rfl, ((if_neg a0).trans (if_pos (nn (of_decide_eq_false y)))).symm⟩)
  have a1 := of_decide_eq_true y
  obtain ⟨g0, g1⟩ := ca_in hb a0
  have hk : a.toNatClampNeg < 30 := by rw [nd_nat]; omega
  have hk2 : (a.toNatClampNeg : Int) < (I 35 16).toInt := by rw [nd_nat]; omega
  have hv : tm I a.toNatClampNeg = I 44 a.toNatClampNeg := (if_pos hk).trans (if_pos hk2)
  refine ev_seg an_r6 ?_
  refine ev_iald (by rfl) (cx_getI (show cx_Ds[44]? = some (0, 30, []) from rfl)) (fs_ixs g0 (by omega)) ?_
  refine ev_seg an_r7 ?_
  refine ev_iastH (by rfl) (cx_getI (show cx_Ds[44]? = some (0, 30, []) from rfl)) (fs_ixs g0 (by omega)) (cx_setI (show cx_Ds[44]? = some (0, 30, []) from rfl) _) ?_
  rw [← hv]
  refine ev_ret an_r8 ⟨_, _, _, _, _, rfl, rfl, Eq.trans ?_ ((if_neg a0).trans (if_neg a1)).symm⟩
  show (_, (_, fun c : Nat => if c < 30 then (if (c : Int) < (I 35 16).toInt then upd (I 44) a.toNatClampNeg b c else -1) else 0)) = _
  rw [tm_upd (I 44) hk hk2 b]
  rfl
theorem kd2_lose (hB : cx_hB cx_B0 I) (a : Int32) : ev_W X 209 0 (ez_lay [.ref 35, .int a]) [] (ev_hp I J R T) 0 0 (ku_F (kg_lose a) I) := by
  have hb := (b_ca hB).2
  refine ev_call lo_r0 (em_isCall X I J R T a) ?_
  rw [il_0 a]
  rintro r h1 c1 k1 ⟨rfl, rfl, rfl, rfl⟩
  refine ev_if lo_r1 (fun x => ?_) (fun x => ev_ret lo_r2 ⟨_, I, J, R, T, rfl, rfl, (if_pos (nn (of_decide_eq_false x))).symm⟩)
  have a0 := of_decide_eq_true x
  obtain ⟨g0, g1⟩ := ca_in hb a0
  have hk : a.toNatClampNeg < 30 := by rw [nd_nat]; omega
  have hk2 : (a.toNatClampNeg : Int) < (I 35 16).toInt := by rw [nd_nat]; omega
  have hv : tm I a.toNatClampNeg = I 44 a.toNatClampNeg := (if_pos hk).trans (if_pos hk2)
  refine ev_seg lo_r3 ?_
  refine ev_iald (by rfl) (cx_getI (show cx_Ds[44]? = some (0, 30, []) from rfl)) (fs_ixs g0 (by omega)) ?_
  rw [← hv]
  refine ev_if lo_r4 (fun y => ?_) (fun y => ev_ret lo_r5 ⟨_, I, J, R, T, rfl, rfl, ((if_neg a0).trans (if_pos (nn (of_decide_eq_false y)))).symm⟩)
  have a1 := of_decide_eq_true y
  refine ev_seg lo_r6 ?_
  refine ev_iastH (by rfl) (cx_getI (show cx_Ds[44]? = some (0, 30, []) from rfl)) (fs_ixs g0 (by omega)) (cx_setI (show cx_Ds[44]? = some (0, 30, []) from rfl) _) ?_
  refine ev_ret lo_r7 ⟨_, _, _, _, _, rfl, rfl, Eq.trans ?_ ((if_neg a0).trans (if_neg a1)).symm⟩
  show (_, (_, fun c : Nat => if c < 30 then (if (c : Int) < (I 35 16).toInt then upd (I 44) a.toNatClampNeg (-1) c else -1) else 0)) = _
  rw [tm_upd (I 44) hk hk2 (-1)]
  rfl
end
