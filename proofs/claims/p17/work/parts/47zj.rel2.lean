/-! Relation 2: the ships the same on both sides, and what is known of the layings is right. Each call keeps it, on each side. -/
def rl2 (I : Nat → Nat → Int32) (J : Nat → Nat → Int64) (R : Nat → Nat) (T : List ez_C) : Prop := rl I J ∧ cp I J R T
def r2_M : Int32 → (Nat → Nat → Int32) → (Nat → Nat → Int64) → (Nat → Nat) → List ez_C → Prop := fun _ I J R T => rl2 I J R T
def r2_L : Int64 → (Nat → Nat → Int32) → (Nat → Nat → Int64) → (Nat → Nat) → List ez_C → Prop := fun _ I J R T => rl2 I J R T
def rt_k (b : Nat) (K : cx_K) : Bool := K.2.2.all fun E => match E.2.1 with
  | [(c, _)] => Nat.beq c b
  | _ => false
section
variable {X : ez_X} {N m : Nat} {K : cx_K} {as : List Value} {σ0 : List Int} {I I' A : Nat → Nat → Int32} {J J' B : Nat → Nat → Int64} {R R' : Nat → Nat} {T T' : List ez_C}
theorem rt_one {b : Nat} {r : Option Value} {τ : List Int} (h : rt_k b K = true) {E : cx_S} (hE : E ∈ K.2.2) (ho : cx_ok τ E [] r.toList I T) : ∃ v s, r = some v ∧ cx_v τ T (b, s) v := by
  have h1 := List.all_eq_true.mp h E hE
  obtain ⟨-, o2, -⟩ := ho
  cases hz : E.2.1 with
  | nil => rw [hz] at h1; cases h1
  | cons a t =>
    cases t with
    | cons a2 t2 => rw [hz] at h1; cases h1
    | nil =>
      obtain ⟨c, s⟩ := a
      rw [hz] at h1 o2
      obtain rfl := Nat.eq_of_beq_eq_true h1
      cases r with
      | none => simp [cx_L] at o2
      | some v => exact ⟨v, s, rfl, o2.1⟩
theorem rt_i {r : Option Value} {τ : List Int} (h : rt_k 0 K = true) {E : cx_S} (hE : E ∈ K.2.2) (ho : cx_ok τ E [] r.toList I T) : ∃ v : Int32, r = some (.int v) := by
  obtain ⟨v, s, e, x, hx, -⟩ := rt_one h hE ho
  exact ⟨x, by rw [e, hx]⟩
theorem rt_l {r : Option Value} {τ : List Int} (h : rt_k 1 K = true) {E : cx_S} (hE : E ∈ K.2.2) (ho : cx_ok τ E [] r.toList I T) : ∃ v : Int64, r = some (.long v) := by
  obtain ⟨v, s, e, x, hx, -⟩ := rt_one h hE ho
  exact ⟨x, by rw [e, hx]⟩
/-- a call outside the keys, told at its end -/
theorem r2_x {Q2 : ev_Q} (hv : cx_valid cx_B0 m K) (hf : (kt_fx K.2.1 && (kt_fm K.2.1 && fi_fr K.2.1)) = true) (hk : rt_k 0 K = true) (hX2 : X.1 < 2 ^ 31) (hh : cx_hok cx_B0 I R T) (hok : cx_ok σ0 K.1 (ez_lay as) [] I T) (hr : rl I J) (he : ev_W X m 0 (ez_lay as) [] (ev_hp I J R T) 0 0 Q2)
    (hc : ∀ (r : Option Value) (h : ez_H) (c k : Nat) I' J' R' T', Q2 r h c k → h = ev_hp I' J' R' T' → cx_fr K.2.1 I J I' J' → cx_hok cx_B0 I' R' T' → cp I' J' R' T') : ev_W X m 0 (ez_lay as) [] (ev_hp I J R T) 0 0 (lw_mid T r2_M) := by
  have h1 := (Bool.and_eq_true_iff.mp hf).1
  have h2 := (Bool.and_eq_true_iff.mp (Bool.and_eq_true_iff.mp hf).2).1
  have h3 := (Bool.and_eq_true_iff.mp (Bool.and_eq_true_iff.mp hf).2).2
  refine (he.both (hv X σ0 _ I J R T hX2 hh hok)).mono ?_
  rintro r h' c' k' ⟨hq, I', J', R', T', q1, q2, q3, q4, q5, q6, E, q7, τ, q8, q9⟩
  obtain ⟨v, e⟩ := rt_i hk q7 q9
  exact ⟨v, I', J', R', T', e, q1, q2, by omega, by omega, rl_fr h1 h2 h3 q3 hr, hc r h' c' k' I' J' R' T' hq q1 q3 q2⟩
theorem r2_xL {Q2 : ev_Q} (hv : cx_valid cx_B0 m K) (hf : (kt_fx K.2.1 && (kt_fm K.2.1 && fi_fr K.2.1)) = true) (hk : rt_k 1 K = true) (hX2 : X.1 < 2 ^ 31) (hh : cx_hok cx_B0 I R T) (hok : cx_ok σ0 K.1 (ez_lay as) [] I T) (hr : rl I J) (he : ev_W X m 0 (ez_lay as) [] (ev_hp I J R T) 0 0 Q2)
    (hc : ∀ (r : Option Value) (h : ez_H) (c k : Nat) I' J' R' T', Q2 r h c k → h = ev_hp I' J' R' T' → cx_fr K.2.1 I J I' J' → cx_hok cx_B0 I' R' T' → cp I' J' R' T') : ev_W X m 0 (ez_lay as) [] (ev_hp I J R T) 0 0 (lw_midL T r2_L) := by
  have h1 := (Bool.and_eq_true_iff.mp hf).1
  have h2 := (Bool.and_eq_true_iff.mp (Bool.and_eq_true_iff.mp hf).2).1
  have h3 := (Bool.and_eq_true_iff.mp (Bool.and_eq_true_iff.mp hf).2).2
  refine (he.both (hv X σ0 _ I J R T hX2 hh hok)).mono ?_
  rintro r h' c' k' ⟨hq, I', J', R', T', q1, q2, q3, q4, q5, q6, E, q7, τ, q8, q9⟩
  obtain ⟨v, e⟩ := rt_l hk q7 q9
  exact ⟨v, I', J', R', T', e, q1, q2, by omega, by omega, rl_fr h1 h2 h3 q3 hr, hc r h' c' k' I' J' R' T' hq q1 q3 q2⟩
theorem r2_pe {Q2 : pw_Q} (hv : cx_valid cx_B0 m K) (hX2 : X.1 < 2 ^ 31) (hh : cx_hok cx_B0 I R T) (hok : cx_ok σ0 K.1 (ez_lay as) [] I T) (hp : ∀ N, pe N X m as (ev_hp I J R T) Q2) : ev_W X m 0 (ez_lay as) [] (ev_hp I J R T) 0 0 (fun r h _ _ => Q2 r h) :=
  (W_pe (hv X σ0 _ I J R T hX2 hh hok) hp).mono fun _ _ _ _ h => h.2
/-- a call of the keys, told at its end -/
theorem r2_k {M : Int32 → (Nat → Nat → Int32) → (Nat → Nat → Int64) → (Nat → Nat) → List ez_C → Prop} {Q2 : ev_Q} (hl : ev_W X m 0 (ez_lay as) [] (ev_hp I J R T) 0 0 (lw_mid T M)) (he : ev_W X m 0 (ez_lay as) [] (ev_hp I J R T) 0 0 Q2)
    (hc : ∀ (v : Int32) (r : Option Value) (h : ez_H) (c k : Nat) I' J' R' T', Q2 r h c k → h = ev_hp I' J' R' T' → cx_hok cx_B0 I' R' T' → M v I' J' R' T' → cp I' J' R' T') : ev_W X m 0 (ez_lay as) [] (ev_hp I J R T) 0 0 (lw_mid T (fun v I1 J1 R1 T1 => M v I1 J1 R1 T1 ∧ cp I1 J1 R1 T1)) := by
  refine (he.both hl).mono ?_
  rintro r h' c' k' ⟨hq, v, I', J', R', T', e, q1, q2, q3, q4, q5⟩
  exact ⟨v, I', J', R', T', e, q1, q2, q3, q4, q5, hc v r h' c' k' I' J' R' T' hq q1 q2 q5⟩
theorem r2_kp {M : Int32 → (Nat → Nat → Int32) → (Nat → Nat → Int64) → (Nat → Nat) → List ez_C → Prop} {Q2 : pw_Q} (hl : ev_W X m 0 (ez_lay as) [] (ev_hp I J R T) 0 0 (lw_mid T M)) (hp : ∀ N, pe N X m as (ev_hp I J R T) Q2)
    (hc : ∀ (v : Int32) (r : Option Value) (h : ez_H) I' J' R' T', Q2 r h → h = ev_hp I' J' R' T' → cx_hok cx_B0 I' R' T' → M v I' J' R' T' → cp I' J' R' T') : ev_W X m 0 (ez_lay as) [] (ev_hp I J R T) 0 0 (lw_mid T (fun v I1 J1 R1 T1 => M v I1 J1 R1 T1 ∧ cp I1 J1 R1 T1)) := by
  refine (W_pe hl hp).mono ?_
  rintro r h' c' k' ⟨⟨v, I', J', R', T', e, q1, q2, q3, q4, q5⟩, hq⟩
  exact ⟨v, I', J', R', T', e, q1, q2, q3, q4, q5, hc v r h' I' J' R' T' hq q1 q2 q5⟩
/-- no cell that the layings rest on is another -/
theorem cp_m (hh : cx_rows R T) (hc : cp I J R T) (hs : ∀ p, (p < 35 ∨ 65 ≤ p) → p < 65 + T.length → (ev_hp I' J' R' T')[p]? = (ev_hp I J R T)[p]?) : cp I' J' R' T' := by
  obtain ⟨n, f, hx, -⟩ := rows_0 hh
  have hR : R' 4 = R 4 := h1_fR (n := 0) (k := 4) (show cx_Ds[22]? = some (0 + 2, _, _) from rfl) rfl (hs 22 (Or.inl (by decide)) (by omega))
  have h4 := hc.2.2.2.1
  have h5 := hc.2.2.2.2
  refine cp_same hc (Or.inr ⟨n, f, hx⟩) (fun p hp => ?_) (by rw [hR]; exact h4) (by rw [hR]; exact h5)
  rcases hp with hp | rfl
  · exact hs p (Or.inl (by omega)) (by omega)
  · exact hs (R 0) (hc.2.2.1.elim (fun e => Or.inl (by omega)) Or.inr) (rowT_x hx)
theorem keep_n {m : Nat} (h : (qm_G.any fun g => Nat.beq g.1 m && decide (g.2.1 = [37])) = true) {as : List Value} : pe N X m (.ref 35 :: as) (ev_hp I J R T) (fun _ h => ∀ p, (p < 35 ∨ 65 ≤ p) → p < 65 + T.length → h[p]? = (ev_hp I J R T)[p]?) := by
  obtain ⟨g, hg, h1⟩ := List.any_eq_true.mp h
  obtain ⟨h2, h3⟩ := Bool.and_eq_true_iff.mp h1
  obtain rfl := Nat.eq_of_beq_eq_true h2
  exact keep_m hg (of_decide_eq_true h3)
theorem cp_km (hh : cx_rows R T) (hc : cp I J R T) {h : ez_H} (q : ∀ p, (p < 35 ∨ 65 ≤ p) → p < 65 + T.length → h[p]? = (ev_hp I J R T)[p]?) (e : h = ev_hp I' J' R' T') : cp I' J' R' T' := cp_m hh hc fun p a b => by
  rw [← e]
  exact q p a b
theorem cp_AB {md : List (Nat × Nat)} (hm : cp_md md = true) (hc : cp I J R T) {h : ez_H} (q : ∃ A B, h = ev_hp A B R T) (e : h = ev_hp I' J' R' T') (hf : cx_fr md I J I' J') : cp I' J' R' T' := by
  obtain ⟨A, B, q⟩ := q
  obtain ⟨e1, e2, e3⟩ := RT_of (q.symm.trans e)
  exact cp_frm hm hc hf e1.symm e2.symm e3.symm
theorem mk_1 (hm : mk I J) (e : (ev_hp I' J' R' T')[1]? = (ev_hp I J R T)[1]?) : mk I' J' := by
  have e13 : I' 1 3 = I 1 3 := h1_f (n := 0) (show cx_Ds[1]? = some (0 + 2, _, _) from rfl) rfl e
  have e14 : I' 1 4 = I 1 4 := h1_f (n := 0) (show cx_Ds[1]? = some (0 + 2, _, _) from rfl) rfl e
  have e16 : I' 1 6 = I 1 6 := h1_f (n := 0) (show cx_Ds[1]? = some (0 + 2, _, _) from rfl) rfl e
  have e17 : J' 1 7 = J 1 7 := h1_fJ (n := 0) (show cx_Ds[1]? = some (0 + 2, _, _) from rfl) rfl e
  have e18 : J' 1 8 = J 1 8 := h1_fJ (n := 0) (show cx_Ds[1]? = some (0 + 2, _, _) from rfl) rfl e
  have e19 : J' 1 9 = J 1 9 := h1_fJ (n := 0) (show cx_Ds[1]? = some (0 + 2, _, _) from rfl) rfl e
  unfold mk
  rw [e13, e14, e16, e17, e18, e19]
  exact hm
theorem mk_2 (hm : mk I J) (e : A 1 = I 1) (e2 : B 1 = J 1) : mk A B := by
  unfold mk
  rw [e, e2]
  exact hm
theorem cp_st (hc : cp I J R T) (h : st_k I J A B) : cp A B R T := by
  rcases h with ⟨h1, h2, h3⟩ | ⟨h1, h2, h3, h4, h5, h6⟩
  · exact cp_no hc (mk_2 hc.1 h2 (by rw [h3])) h1 rfl rfl
  · exact cp_eq hc (by rw [h3]) (by rw [h3]) (by rw [h3]) (by rw [h3]) (by rw [h6]) (by rw [h6]) (by rw [h6]) h1 (by rw [h4]) h5 (by rw [h6]) (by rw [h2]) (by rw [h2]) rfl rfl rfl
theorem xr_grid (x y b : Int32) (hb : b = 0 ∨ b = 1) : ev_W X 18 0 (ez_lay [.ref 0, .int x, .int y, .int b]) [] (ev_hp I J R T) 0 0 (fun _ h _ _ => ∃ A B, h = ev_hp A B R T ∧ ((A = I ∧ B = J) ∨ A 6 4 = 0)) := by
  rcases hb with rfl | rfl
  · refine (eg_grid0 X I J R T x y).mono ?_
    intro r h c k hq
    rcases hq with ⟨-, -, e, -⟩ | ⟨_, _, _, -, -, -, -, e, -⟩ | ⟨-, -, -, e, -⟩
    · exact ⟨I, J, e, Or.inl ⟨rfl, rfl⟩⟩
    · exact ⟨_, _, e, Or.inr rfl⟩
    · exact ⟨I, J, e, Or.inl ⟨rfl, rfl⟩⟩
  · refine (eg_grid1 X I J R T x y).mono ?_
    intro r h c k hq
    rcases hq with ⟨-, -, e, -⟩ | ⟨_, _, _, -, -, -, -, e, -⟩ | ⟨-, -, -, e, -⟩
    · exact ⟨I, J, e, Or.inl ⟨rfl, rfl⟩⟩
    · exact ⟨_, _, e, Or.inr rfl⟩
    · exact ⟨I, J, e, Or.inl ⟨rfl, rfl⟩⟩
theorem l2x_grid (hX2 : X.1 < 2 ^ 31) (hh : cx_hok cx_B0 I R T) (hr : rl2 I J R T) (x y b : Int32) (hb : b = 0 ∨ b = 1) : ev_W X 18 0 (ez_lay [.ref 0, .int x, .int y, .int b]) [] (ev_hp I J R T) 0 0 (lw_mid T (fun v I1 J1 R1 T1 => mi_k ck_18_0.2.1 (kf_grid x y b) I J v I1 J1 R1 T1 ∧ cp I1 J1 R1 T1)) := by
  refine r2_k (lx_grid hX2 hh hr.1 x y b hb) (W_pe (xr_grid x y b hb) fun N => pe_grid (N := N) hr.2.1) ?_
  rintro v r h c k I' J' R' T' ⟨⟨A, B, q, qc⟩, A2, B2, m2, e2⟩ e hk -
  refine cp_hp hh.2 (?_ : cp A B R T) (q.symm.trans e)
  rcases qc with ⟨rfl, rfl⟩ | q0
  · exact hr.2
  · exact cp_no hr.2 (mk_1 m2 (by rw [← q]; exact e2)) q0 rfl rfl
theorem l2x_ship (hX2 : X.1 < 2 ^ 31) (hh : cx_hok cx_B0 I R T) (hr : rl2 I J R T) (x y : Int32) : ev_W X 43 0 (ez_lay [.ref 0, .int x, .int y]) [] (ev_hp I J R T) 0 0 (lw_mid T (fun v I1 J1 R1 T1 => (mi_k ck_43_0.2.1 (kf_ship x y) I J v I1 J1 R1 T1 ∧ mi_ship x y I J I1 J1) ∧ cp I1 J1 R1 T1)) := by
  refine r2_kp (lx_ship hX2 hh hr.1 x y) (fun N => pe_ship2 (N := N) hh.1) ?_
  rintro v r h I' J' R' T' ⟨A, B, q, qc⟩ e hk -
  refine cp_hp hh.2 (?_ : cp A B R T) (q.symm.trans e)
  rcases qc with ⟨rfl, rfl⟩ | ⟨q0, q1, q2⟩
  · exact hr.2
  · exact cp_no hr.2 (mk_2 hr.2.1 q1 q2) q0 rfl rfl
theorem l2x_set (hX2 : X.1 < 2 ^ 31) (hh : cx_hok cx_B0 I R T) (hr : rl2 I J R T) (x y : Int32) : ev_W X 42 0 (ez_lay [.ref 0, .int x, .int y]) [] (ev_hp I J R T) 0 0 (lw_mid T (fun v I1 J1 R1 T1 => mi_k ck_42_0.2.1 (kf_set x y) I J v I1 J1 R1 T1 ∧ cp I1 J1 R1 T1)) := by
  refine r2_k (lx_set hX2 hh hr.1 x y) (xr_set x y) ?_
  rintro v r h c k I' J' R' T' ⟨A, B, q, qc⟩ e hk -
  exact cp_hp hh.2 (cp_st hr.2 qc) (q.symm.trans e)
theorem l2_0 : cp ev_I0 ev_J0 ev_R0 [] := by
  refine ⟨?_, fun h => ?_, Or.inl (by decide), Or.inl (by decide), by decide⟩
  · refine ⟨by decide, by decide +kernel, by decide +kernel, by decide +kernel⟩
  · exact absurd h (by decide)
end

section
variable {X : ez_X} {I I1 : Nat → Nat → Int32} {J J1 : Nat → Nat → Int64} {R R1 : Nat → Nat} {T T1 : List ez_C} {v x y z : Int32}
theorem l2x_drift (hX2 : X.1 < 2 ^ 31) (hh : cx_hok cx_B0 I R T) (hr : rl2 I J R T) (x y : Int32) : ev_W X 16 0 (ez_lay [.ref 0, .int x, .int y]) [] (ev_hp I J R T) 0 0 (lw_mid T (fun v I1 J1 R1 T1 => mi_k ck_16_0.2.1 (kf_drift x y) I J v I1 J1 R1 T1 ∧ cp I1 J1 R1 T1)) := by
  refine r2_k (lx_drift hX2 hh hr.1 x y) (xr_drift x y) ?_
  rintro v r h c k I2 J2 R2 T2 q e hk hm
  exact cp_AB (by rfl) hr.2 q e hm.2.2
theorem l2x_call (hX2 : X.1 < 2 ^ 31) (hh : cx_hok cx_B0 I R T) (hr : rl2 I J R T) (x : Int32) : ev_W X 10 0 (ez_lay [.ref 0, .int x]) [] (ev_hp I J R T) 0 0 (lw_mid T (fun v I1 J1 R1 T1 => mi_k ck_10_0.2.1 (kf_call x) I J v I1 J1 R1 T1 ∧ cp I1 J1 R1 T1)) := by
  refine r2_k (lx_call hX2 hh hr.1 x) (xr_call x) ?_
  rintro v r h c k I2 J2 R2 T2 q e hk hm
  exact cp_AB (by rfl) hr.2 q e hm.2.2
theorem l2x_salvo (hX2 : X.1 < 2 ^ 31) (hh : cx_hok cx_B0 I R T) (hr : rl2 I J R T) (x y : Int32) : ev_W X 41 0 (ez_lay [.ref 0, .int x, .int y]) [] (ev_hp I J R T) 0 0 (lw_mid T (fun v I1 J1 R1 T1 => mi_k ck_41_0.2.1 (kf_salvo x y) I J v I1 J1 R1 T1 ∧ cp I1 J1 R1 T1)) := by
  refine r2_k (lx_salvo hX2 hh hr.1 x y) (xr_salvo x y) ?_
  rintro v r h c k I2 J2 R2 T2 q e hk hm
  exact cp_AB (by rfl) hr.2 q e hm.2.2
theorem l2x_back (hX2 : X.1 < 2 ^ 31) (hh : cx_hok cx_B0 I R T) (hr : rl2 I J R T) : ev_W X 5 0 (ez_lay [.ref 0]) [] (ev_hp I J R T) 0 0 (lw_mid T (fun v I1 J1 R1 T1 => mi_k ck_5_0.2.1 kf_back I J v I1 J1 R1 T1 ∧ cp I1 J1 R1 T1)) := by
  refine r2_k (lx_back hX2 hh hr.1) (xr_back) ?_
  rintro v r h c k I2 J2 R2 T2 q e hk hm
  exact cp_AB (by rfl) hr.2 q e hm.2.2
theorem l2x_count (hX2 : X.1 < 2 ^ 31) (hh : cx_hok cx_B0 I R T) (hr : rl2 I J R T) (x y : Int32) : ev_W X 14 0 (ez_lay [.ref 0, .int x, .int y]) [] (ev_hp I J R T) 0 0 (lw_mid T (fun v I1 J1 R1 T1 => mi_k ck_14_0.2.1 (kf_count x y) I J v I1 J1 R1 T1 ∧ cp I1 J1 R1 T1)) := by
  refine r2_k (lx_count hX2 hh hr.1 x y) (xr_count x y) ?_
  rintro v r h c k I2 J2 R2 T2 q e hk hm
  exact cp_AB (by rfl) hr.2 q e hm.2.2
theorem l2m_grid (hX2 : X.1 < 2 ^ 31) (hh : cx_hok cx_B0 I R T) (hr : rl2 I J R T) (x y z : Int32) (hz : z = 0 ∨ z = 1) (hh1 : cx_hok cx_B0 I1 R1 T1) (hm : mi_k ck_18_0.2.1 (kf_grid x y z) I J v I1 J1 R1 T1 ∧ cp I1 J1 R1 T1) : ev_W X 195 0 (ez_lay [.ref 35, .int x, .int y, .int z]) [] (ev_hp I1 J1 R1 T1) 0 0 (lw_mid T1 (fun u I2 J2 R2 T2 => u = v ∧ rl2 I2 J2 R2 T2)) := by
  refine (r2_kp (lm_grid hX2 hr.1 x y z hz hh1 hm.1) (fun N => keep_n (N := N) (by decide +kernel)) ?_).mono (lw_mono fun u I2 J2 R2 T2 h => ⟨h.1.1, h.1.2, h.2⟩)
  intro v r h I2 J2 R2 T2 q e hk hm2
  exact cp_km hh1.2 hm.2 q e
theorem l2m_ship (hX2 : X.1 < 2 ^ 31) (hh : cx_hok cx_B0 I R T) (hr : rl2 I J R T) (x y : Int32) (hh1 : cx_hok cx_B0 I1 R1 T1) (hm : (mi_k ck_43_0.2.1 (kf_ship x y) I J v I1 J1 R1 T1 ∧ mi_ship x y I J I1 J1) ∧ cp I1 J1 R1 T1) : ev_W X 220 0 (ez_lay [.ref 35, .int x, .int y]) [] (ev_hp I1 J1 R1 T1) 0 0 (lw_mid T1 (fun u I2 J2 R2 T2 => u = v ∧ rl2 I2 J2 R2 T2)) := by
  refine (r2_kp (lm_ship hX2 hh hr.1 x y hh1 hm.1) (fun N => keep_n (N := N) (by decide +kernel)) ?_).mono (lw_mono fun u I2 J2 R2 T2 h => ⟨h.1.1, h.1.2, h.2⟩)
  intro v r h I2 J2 R2 T2 q e hk hm2
  exact cp_km hh1.2 hm.2 q e
theorem l2m_set (hX2 : X.1 < 2 ^ 31) (hh : cx_hok cx_B0 I R T) (hr : rl2 I J R T) (x y : Int32) (hh1 : cx_hok cx_B0 I1 R1 T1) (hm : mi_k ck_42_0.2.1 (kf_set x y) I J v I1 J1 R1 T1 ∧ cp I1 J1 R1 T1) : ev_W X 219 0 (ez_lay [.ref 35, .int x, .int y]) [] (ev_hp I1 J1 R1 T1) 0 0 (lw_mid T1 (fun u I2 J2 R2 T2 => u = v ∧ rl2 I2 J2 R2 T2)) := by
  refine (r2_kp (lm_set hX2 hr.1 x y hh1 hm.1) (fun N => keep_n (N := N) (by decide +kernel)) ?_).mono (lw_mono fun u I2 J2 R2 T2 h => ⟨h.1.1, h.1.2, h.2⟩)
  intro v r h I2 J2 R2 T2 q e hk hm2
  exact cp_km hh1.2 hm.2 q e
theorem l2m_drift (hX2 : X.1 < 2 ^ 31) (hh : cx_hok cx_B0 I R T) (hr : rl2 I J R T) (x y : Int32) (hh1 : cx_hok cx_B0 I1 R1 T1) (hm : mi_k ck_16_0.2.1 (kf_drift x y) I J v I1 J1 R1 T1 ∧ cp I1 J1 R1 T1) : ev_W X 185 0 (ez_lay [.ref 35, .int x, .int y]) [] (ev_hp I1 J1 R1 T1) 0 0 (lw_mid T1 (fun u I2 J2 R2 T2 => u = v ∧ rl2 I2 J2 R2 T2)) := by
  refine (r2_kp (lm_drift hX2 hr.1 x y hh1 hm.1) (fun N => keep_n (N := N) (by decide +kernel)) ?_).mono (lw_mono fun u I2 J2 R2 T2 h => ⟨h.1.1, h.1.2, h.2⟩)
  intro v r h I2 J2 R2 T2 q e hk hm2
  exact cp_km hh1.2 hm.2 q e
theorem l2m_call (hX2 : X.1 < 2 ^ 31) (hh : cx_hok cx_B0 I R T) (hr : rl2 I J R T) (x : Int32) (hh1 : cx_hok cx_B0 I1 R1 T1) (hm : mi_k ck_10_0.2.1 (kf_call x) I J v I1 J1 R1 T1 ∧ cp I1 J1 R1 T1) : ev_W X 175 0 (ez_lay [.ref 35, .int x]) [] (ev_hp I1 J1 R1 T1) 0 0 (lw_mid T1 (fun u I2 J2 R2 T2 => u = v ∧ rl2 I2 J2 R2 T2)) := by
  refine (r2_kp (lm_call hX2 hr.1 x hh1 hm.1) (fun N => keep_n (N := N) (by decide +kernel)) ?_).mono (lw_mono fun u I2 J2 R2 T2 h => ⟨h.1.1, h.1.2, h.2⟩)
  intro v r h I2 J2 R2 T2 q e hk hm2
  exact cp_km hh1.2 hm.2 q e
theorem l2m_salvo (hX2 : X.1 < 2 ^ 31) (hh : cx_hok cx_B0 I R T) (hr : rl2 I J R T) (x y : Int32) (hh1 : cx_hok cx_B0 I1 R1 T1) (hm : mi_k ck_41_0.2.1 (kf_salvo x y) I J v I1 J1 R1 T1 ∧ cp I1 J1 R1 T1) : ev_W X 218 0 (ez_lay [.ref 35, .int x, .int y]) [] (ev_hp I1 J1 R1 T1) 0 0 (lw_mid T1 (fun u I2 J2 R2 T2 => u = v ∧ rl2 I2 J2 R2 T2)) := by
  refine (r2_kp (lm_salvo hX2 hr.1 x y hh1 hm.1) (fun N => keep_n (N := N) (by decide +kernel)) ?_).mono (lw_mono fun u I2 J2 R2 T2 h => ⟨h.1.1, h.1.2, h.2⟩)
  intro v r h I2 J2 R2 T2 q e hk hm2
  exact cp_km hh1.2 hm.2 q e
theorem l2m_back (hX2 : X.1 < 2 ^ 31) (hh : cx_hok cx_B0 I R T) (hr : rl2 I J R T) (hh1 : cx_hok cx_B0 I1 R1 T1) (hm : mi_k ck_5_0.2.1 kf_back I J v I1 J1 R1 T1 ∧ cp I1 J1 R1 T1) : ev_W X 168 0 (ez_lay [.ref 35]) [] (ev_hp I1 J1 R1 T1) 0 0 (lw_mid T1 (fun u I2 J2 R2 T2 => u = v ∧ rl2 I2 J2 R2 T2)) := by
  refine (r2_kp (lm_back hX2 hr.1 hh1 hm.1) (fun N => keep_n (N := N) (by decide +kernel)) ?_).mono (lw_mono fun u I2 J2 R2 T2 h => ⟨h.1.1, h.1.2, h.2⟩)
  intro v r h I2 J2 R2 T2 q e hk hm2
  exact cp_km hh1.2 hm.2 q e
theorem l2m_count (hX2 : X.1 < 2 ^ 31) (hh : cx_hok cx_B0 I R T) (hr : rl2 I J R T) (x y : Int32) (hh1 : cx_hok cx_B0 I1 R1 T1) (hm : mi_k ck_14_0.2.1 (kf_count x y) I J v I1 J1 R1 T1 ∧ cp I1 J1 R1 T1) : ev_W X 182 0 (ez_lay [.ref 35, .int x, .int y]) [] (ev_hp I1 J1 R1 T1) 0 0 (lw_mid T1 (fun u I2 J2 R2 T2 => u = v ∧ rl2 I2 J2 R2 T2)) := by
  refine (r2_kp (lm_count hX2 hr.1 x y hh1 hm.1) (fun N => keep_n (N := N) (by decide +kernel)) ?_).mono (lw_mono fun u I2 J2 R2 T2 h => ⟨h.1.1, h.1.2, h.2⟩)
  intro v r h I2 J2 R2 T2 q e hk hm2
  exact cp_km hh1.2 hm.2 q e
theorem l2x_spots (hX2 : X.1 < 2 ^ 31) (hh : cx_hok cx_B0 I R T) (hr : rl2 I J R T) (x : Int32) : ev_W X 46 0 (ez_lay [.ref 0, .int x]) [] (ev_hp I J R T) 0 0 (lw_mid T r2_M) := by
  refine r2_x cv_46_0 (by rfl) (by rfl) hX2 hh ao_1 hr.1 (r2_pe cv_46_0 hX2 hh ao_1 fun N => pe_spots (N := N) (n := in_n I) (io_nat (b_sh hh.1).1.1) (by have := (b_sh hh.1).1; omega) fun s h => (fi_n hr.1 h).1) ?_
  intro r h c k I2 J2 R2 T2 q e hf hk
  exact cp_hp hh.2 hr.2 (q.2.symm.trans e)
theorem l2m_spots (hX2 : X.1 < 2 ^ 31) (x : Int32) (hh1 : cx_hok cx_B0 I1 R1 T1) (hm : rl2 I1 J1 R1 T1) : ev_W X 223 0 (ez_lay [.ref 35, .int x]) [] (ev_hp I1 J1 R1 T1) 0 0 (lw_mid T1 r2_M) := by
  refine r2_x cv_223_0 (by rfl) (by rfl) hX2 hh1 ao_1 hm.1 (r2_pe cv_223_0 hX2 hh1 ao_1 fun N => keep_n (N := N) (by decide +kernel)) ?_
  intro r h c k I2 J2 R2 T2 q e hf hk
  exact cp_km hh1.2 hm.2 q e
theorem l2x_spot (hX2 : X.1 < 2 ^ 31) (hh : cx_hok cx_B0 I R T) (hr : rl2 I J R T) (x y : Int32) : ev_W X 44 0 (ez_lay [.ref 0, .int x, .int y]) [] (ev_hp I J R T) 0 0 (lw_midL T r2_L) := by
  refine r2_xL cv_44_0 (by rfl) (by rfl) hX2 hh ao_2 hr.1 (r2_pe cv_44_0 hX2 hh ao_2 fun N => pe_spot (N := N) (n := in_n I) (f := fun s k => J 4 (288 * s + k)) (io_nat (b_sh hh.1).1.1) (by have := (b_sh hh.1).1; omega) (fun s h => ⟨(fi_n hr.1 h).1, (fi_n hr.1 h).2.1⟩) fun s k _ _ => rfl) ?_
  intro r h c k I2 J2 R2 T2 q e hf hk
  exact cp_hp hh.2 hr.2 (q.2.symm.trans e)
theorem l2m_spot (hX2 : X.1 < 2 ^ 31) (x y : Int32) (hh1 : cx_hok cx_B0 I1 R1 T1) (hm : rl2 I1 J1 R1 T1) : ev_W X 222 0 (ez_lay [.ref 35, .int x, .int y]) [] (ev_hp I1 J1 R1 T1) 0 0 (lw_midL T1 r2_L) := by
  refine r2_xL cv_222_0 (by rfl) (by rfl) hX2 hh1 ao_2 hm.1 (r2_pe cv_222_0 hX2 hh1 ao_2 fun N => keep_n (N := N) (by decide +kernel)) ?_
  intro r h c k I2 J2 R2 T2 q e hf hk
  exact cp_km hh1.2 hm.2 q e
theorem l2x_layings (hX2 : X.1 < 2 ^ 31) (hh : cx_hok cx_B0 I R T) (hr : rl2 I J R T) : ev_W X 27 0 (ez_lay [.ref 0]) [] (ev_hp I J R T) 0 0 (lw_mid T r2_M) := by
  refine r2_x cv_27_0 (by rfl) (by rfl) hX2 hh ao_0 hr.1 (r2_pe cv_27_0 hX2 hh ao_0 fun N => xk_layings (N := N) hr.1 hh hr.2) ?_
  intro r h c k I2 J2 R2 T2 q e hf hk
  exact cpq_s q e hk.2
theorem l2m_layings (hX2 : X.1 < 2 ^ 31) (hh1 : cx_hok cx_B0 I1 R1 T1) (hm : rl2 I1 J1 R1 T1) : ev_W X 206 0 (ez_lay [.ref 35]) [] (ev_hp I1 J1 R1 T1) 0 0 (lw_mid T1 r2_M) := by
  refine r2_x cv_206_0 (by rfl) (by rfl) hX2 hh1 ao_0 hm.1 (r2_pe cv_206_0 hX2 hh1 ao_0 fun N => keep_n (N := N) (by decide +kernel)) ?_
  intro r h c k I2 J2 R2 T2 q e hf hk
  exact cp_km hh1.2 hm.2 q e
theorem l2x_laid (hX2 : X.1 < 2 ^ 31) (hh : cx_hok cx_B0 I R T) (hr : rl2 I J R T) (x y : Int32) : ev_W X 26 0 (ez_lay [.ref 0, .int x, .int y]) [] (ev_hp I J R T) 0 0 (lw_mid T r2_M) := by
  refine r2_x cv_26_0 (by rfl) (by rfl) hX2 hh ao_2 hr.1 (r2_pe cv_26_0 hX2 hh ao_2 fun N => xk_laid (N := N) hr.1 hh hr.2) ?_
  intro r h c k I2 J2 R2 T2 q e hf hk
  exact cpq_s q e hk.2
theorem l2m_laid (hX2 : X.1 < 2 ^ 31) (x y : Int32) (hh1 : cx_hok cx_B0 I1 R1 T1) (hm : rl2 I1 J1 R1 T1) : ev_W X 205 0 (ez_lay [.ref 35, .int x, .int y]) [] (ev_hp I1 J1 R1 T1) 0 0 (lw_mid T1 r2_M) := by
  refine r2_x cv_205_0 (by rfl) (by rfl) hX2 hh1 ao_2 hm.1 (r2_pe cv_205_0 hX2 hh1 ao_2 fun N => keep_n (N := N) (by decide +kernel)) ?_
  intro r h c k I2 J2 R2 T2 q e hf hk
  exact cp_km hh1.2 hm.2 q e
theorem l2x_answer (hX2 : X.1 < 2 ^ 31) (hh : cx_hok cx_B0 I R T) (hr : rl2 I J R T) (x y : Int32) : ev_W X 1 0 (ez_lay [.ref 0, .int x, .int y]) [] (ev_hp I J R T) 0 0 (lw_mid T r2_M) := by
  refine r2_x cv_1_0 (by rfl) (by rfl) hX2 hh ao_2 hr.1 (xr_answer x y) ?_
  intro r h c k I2 J2 R2 T2 q e hf hk
  exact cp_AB (by rfl) hr.2 q e hf
theorem l2m_answer (hX2 : X.1 < 2 ^ 31) (x y : Int32) (hh1 : cx_hok cx_B0 I1 R1 T1) (hm : rl2 I1 J1 R1 T1) : ev_W X 166 0 (ez_lay [.ref 35, .int x, .int y]) [] (ev_hp I1 J1 R1 T1) 0 0 (lw_mid T1 r2_M) := by
  refine r2_x cv_166_0 (by rfl) (by rfl) hX2 hh1 ao_2 hm.1 (r2_pe cv_166_0 hX2 hh1 ao_2 fun N => keep_n (N := N) (by decide +kernel)) ?_
  intro r h c k I2 J2 R2 T2 q e hf hk
  exact cp_km hh1.2 hm.2 q e
theorem l2x_lose (hX2 : X.1 < 2 ^ 31) (hh : cx_hok cx_B0 I R T) (hr : rl2 I J R T) (x : Int32) : ev_W X 32 0 (ez_lay [.ref 0, .int x]) [] (ev_hp I J R T) 0 0 (lw_mid T r2_M) := by
  refine r2_x cv_32_0 (by rfl) (by rfl) hX2 hh ao_1 hr.1 (xr_lose x) ?_
  intro r h c k I2 J2 R2 T2 q e hf hk
  exact cp_AB (by rfl) hr.2 q e hf
theorem l2m_lose (hX2 : X.1 < 2 ^ 31) (x : Int32) (hh1 : cx_hok cx_B0 I1 R1 T1) (hm : rl2 I1 J1 R1 T1) : ev_W X 209 0 (ez_lay [.ref 35, .int x]) [] (ev_hp I1 J1 R1 T1) 0 0 (lw_mid T1 r2_M) := by
  refine r2_x cv_209_0 (by rfl) (by rfl) hX2 hh1 ao_1 hm.1 (r2_pe cv_209_0 hX2 hh1 ao_1 fun N => keep_n (N := N) (by decide +kernel)) ?_
  intro r h c k I2 J2 R2 T2 q e hf hk
  exact cp_km hh1.2 hm.2 q e
theorem l2x_truth (hX2 : X.1 < 2 ^ 31) (hh : cx_hok cx_B0 I R T) (hr : rl2 I J R T) (x y : Int32) : ev_W X 53 0 (ez_lay [.ref 0, .int x, .int y]) [] (ev_hp I J R T) 0 0 (lw_mid T r2_M) := by
  refine r2_x cv_53_0 (by rfl) (by rfl) hX2 hh ao_2 hr.1 (r2_pe cv_53_0 hX2 hh ao_2 fun N => xk_truth (N := N) hr.1 hh hr.2) ?_
  intro r h c k I2 J2 R2 T2 q e hf hk
  exact cpq_s q e hk.2
theorem l2m_truth (hX2 : X.1 < 2 ^ 31) (x y : Int32) (hh1 : cx_hok cx_B0 I1 R1 T1) (hm : rl2 I1 J1 R1 T1) : ev_W X 229 0 (ez_lay [.ref 35, .int x, .int y]) [] (ev_hp I1 J1 R1 T1) 0 0 (lw_mid T1 r2_M) := by
  refine r2_x cv_229_0 (by rfl) (by rfl) hX2 hh1 ao_2 hm.1 (r2_pe cv_229_0 hX2 hh1 ao_2 fun N => keep_n (N := N) (by decide +kernel)) ?_
  intro r h c k I2 J2 R2 T2 q e hf hk
  exact cp_km hh1.2 hm.2 q e
theorem l2x_lies (hX2 : X.1 < 2 ^ 31) (hh : cx_hok cx_B0 I R T) (hr : rl2 I J R T) (x y z : Int32) : ev_W X 31 0 (ez_lay [.ref 0, .int x, .int y, .int z]) [] (ev_hp I J R T) 0 0 (lw_midL T r2_L) := by
  refine r2_xL cv_31_0 (by rfl) (by rfl) hX2 hh ao_3 hr.1 (r2_pe cv_31_0 hX2 hh ao_3 fun N => xk_lies (N := N) hr.1 hh hr.2) ?_
  intro r h c k I2 J2 R2 T2 q e hf hk
  exact cpq_s q e hk.2
theorem l2m_lies (hX2 : X.1 < 2 ^ 31) (x y z : Int32) (hh1 : cx_hok cx_B0 I1 R1 T1) (hm : rl2 I1 J1 R1 T1) : ev_W X 208 0 (ez_lay [.ref 35, .int x, .int y, .int z]) [] (ev_hp I1 J1 R1 T1) 0 0 (lw_midL T1 r2_L) := by
  refine r2_xL cv_208_0 (by rfl) (by rfl) hX2 hh1 ao_3 hm.1 (r2_pe cv_208_0 hX2 hh1 ao_3 fun N => keep_n (N := N) (by decide +kernel)) ?_
  intro r h c k I2 J2 R2 T2 q e hf hk
  exact cp_km hh1.2 hm.2 q e
theorem l2x_left (hX2 : X.1 < 2 ^ 31) (hh : cx_hok cx_B0 I R T) (hr : rl2 I J R T) : ev_W X 29 0 (ez_lay [.ref 0]) [] (ev_hp I J R T) 0 0 (lw_mid T r2_M) := by
  refine r2_x cv_29_0 (by rfl) (by rfl) hX2 hh ao_0 hr.1 (r2_pe cv_29_0 hX2 hh ao_0 fun N => xk_left (N := N) hr.1 hh hr.2) ?_
  intro r h c k I2 J2 R2 T2 q e hf hk
  exact cpq_s q e hk.2
theorem l2m_left (hX2 : X.1 < 2 ^ 31) (hh1 : cx_hok cx_B0 I1 R1 T1) (hm : rl2 I1 J1 R1 T1) : ev_W X 207 0 (ez_lay [.ref 35]) [] (ev_hp I1 J1 R1 T1) 0 0 (lw_mid T1 r2_M) := by
  refine r2_x cv_207_0 (by rfl) (by rfl) hX2 hh1 ao_0 hm.1 (r2_pe cv_207_0 hX2 hh1 ao_0 fun N => keep_n (N := N) (by decide +kernel)) ?_
  intro r h c k I2 J2 R2 T2 q e hf hk
  exact cp_km hh1.2 hm.2 q e
theorem l2x_which (hX2 : X.1 < 2 ^ 31) (hh : cx_hok cx_B0 I R T) (hr : rl2 I J R T) (x : Int32) : ev_W X 54 0 (ez_lay [.ref 0, .int x]) [] (ev_hp I J R T) 0 0 (lw_mid T r2_M) := by
  refine r2_x cv_54_0 (by rfl) (by rfl) hX2 hh ao_1 hr.1 (r2_pe cv_54_0 hX2 hh ao_1 fun N => xk_which (N := N) hr.1 hh hr.2) ?_
  intro r h c k I2 J2 R2 T2 q e hf hk
  exact cpq_s q e hk.2
theorem l2m_which (hX2 : X.1 < 2 ^ 31) (x : Int32) (hh1 : cx_hok cx_B0 I1 R1 T1) (hm : rl2 I1 J1 R1 T1) : ev_W X 232 0 (ez_lay [.ref 35, .int x]) [] (ev_hp I1 J1 R1 T1) 0 0 (lw_mid T1 r2_M) := by
  refine r2_x cv_232_0 (by rfl) (by rfl) hX2 hh1 ao_1 hm.1 (r2_pe cv_232_0 hX2 hh1 ao_1 fun N => keep_n (N := N) (by decide +kernel)) ?_
  intro r h c k I2 J2 R2 T2 q e hf hk
  exact cp_km hh1.2 hm.2 q e
theorem l2x_there (hX2 : X.1 < 2 ^ 31) (hh : cx_hok cx_B0 I R T) (hr : rl2 I J R T) (x : Int32) : ev_W X 51 0 (ez_lay [.ref 0, .int x]) [] (ev_hp I J R T) 0 0 (lw_mid T r2_M) := by
  refine r2_x cv_51_0 (by rfl) (by rfl) hX2 hh ao_1 hr.1 (r2_pe cv_51_0 hX2 hh ao_1 fun N => xk_there (N := N) hr.1 hh hr.2) ?_
  intro r h c k I2 J2 R2 T2 q e hf hk
  exact cpq_s q e hk.2
theorem l2m_there (hX2 : X.1 < 2 ^ 31) (x : Int32) (hh1 : cx_hok cx_B0 I1 R1 T1) (hm : rl2 I1 J1 R1 T1) : ev_W X 227 0 (ez_lay [.ref 35, .int x]) [] (ev_hp I1 J1 R1 T1) 0 0 (lw_mid T1 r2_M) := by
  refine r2_x cv_227_0 (by rfl) (by rfl) hX2 hh1 ao_1 hm.1 (r2_pe cv_227_0 hX2 hh1 ao_1 fun N => keep_n (N := N) (by decide +kernel)) ?_
  intro r h c k I2 J2 R2 T2 q e hf hk
  exact cp_km hh1.2 hm.2 q e
theorem l2x_sure (hX2 : X.1 < 2 ^ 31) (hh : cx_hok cx_B0 I R T) (hr : rl2 I J R T) (x : Int32) : ev_W X 48 0 (ez_lay [.ref 0, .int x]) [] (ev_hp I J R T) 0 0 (lw_midL T r2_L) := by
  refine r2_xL cv_48_0 (by rfl) (by rfl) hX2 hh ao_1 hr.1 (r2_pe cv_48_0 hX2 hh ao_1 fun N => xk_sure (N := N) hr.1 hh hr.2) ?_
  intro r h c k I2 J2 R2 T2 q e hf hk
  exact cpq_s q e hk.2
theorem l2m_sure (hX2 : X.1 < 2 ^ 31) (x : Int32) (hh1 : cx_hok cx_B0 I1 R1 T1) (hm : rl2 I1 J1 R1 T1) : ev_W X 225 0 (ez_lay [.ref 35, .int x]) [] (ev_hp I1 J1 R1 T1) 0 0 (lw_midL T1 r2_L) := by
  refine r2_xL cv_225_0 (by rfl) (by rfl) hX2 hh1 ao_1 hm.1 (r2_pe cv_225_0 hX2 hh1 ao_1 fun N => keep_n (N := N) (by decide +kernel)) ?_
  intro r h c k I2 J2 R2 T2 q e hf hk
  exact cp_km hh1.2 hm.2 q e
theorem l2x_part (hX2 : X.1 < 2 ^ 31) (hh : cx_hok cx_B0 I R T) (hr : rl2 I J R T) (x y : Int32) : ev_W X 37 0 (ez_lay [.ref 0, .int x, .int y]) [] (ev_hp I J R T) 0 0 (lw_mid T r2_M) := by
  refine r2_x cv_37_0 (by rfl) (by rfl) hX2 hh ao_2 hr.1 (r2_pe cv_37_0 hX2 hh ao_2 fun N => xk_part (N := N) hr.1 hh hr.2) ?_
  intro r h c k I2 J2 R2 T2 q e hf hk
  exact cpq_s q e hk.2
theorem l2m_part (hX2 : X.1 < 2 ^ 31) (x y : Int32) (hh1 : cx_hok cx_B0 I1 R1 T1) (hm : rl2 I1 J1 R1 T1) : ev_W X 214 0 (ez_lay [.ref 35, .int x, .int y]) [] (ev_hp I1 J1 R1 T1) 0 0 (lw_mid T1 r2_M) := by
  refine r2_x cv_214_0 (by rfl) (by rfl) hX2 hh1 ao_2 hm.1 (r2_pe cv_214_0 hX2 hh1 ao_2 fun N => keep_n (N := N) (by decide +kernel)) ?_
  intro r h c k I2 J2 R2 T2 q e hf hk
  exact cp_km hh1.2 hm.2 q e
theorem l2x_best (hX2 : X.1 < 2 ^ 31) (hh : cx_hok cx_B0 I R T) (hr : rl2 I J R T) (x : Int32) : ev_W X 6 0 (ez_lay [.ref 0, .int x]) [] (ev_hp I J R T) 0 0 (lw_mid T r2_M) := by
  refine r2_x cv_6_0 (by rfl) (by rfl) hX2 hh ao_1 hr.1 (r2_pe cv_6_0 hX2 hh ao_1 fun N => xk_best (N := N) hr.1 hh hr.2) ?_
  intro r h c k I2 J2 R2 T2 q e hf hk
  exact cpq_s q e hk.2
theorem l2m_best (hX2 : X.1 < 2 ^ 31) (x : Int32) (hh1 : cx_hok cx_B0 I1 R1 T1) (hm : rl2 I1 J1 R1 T1) : ev_W X 169 0 (ez_lay [.ref 35, .int x]) [] (ev_hp I1 J1 R1 T1) 0 0 (lw_mid T1 r2_M) := by
  refine r2_x cv_169_0 (by rfl) (by rfl) hX2 hh1 ao_1 hm.1 (r2_pe cv_169_0 hX2 hh1 ao_1 fun N => keep_n (N := N) (by decide +kernel)) ?_
  intro r h c k I2 J2 R2 T2 q e hf hk
  exact cp_km hh1.2 hm.2 q e
theorem l2x_bestSalvo (hX2 : X.1 < 2 ^ 31) (hh : cx_hok cx_B0 I R T) (hr : rl2 I J R T) (x : Int32) : ev_W X 7 0 (ez_lay [.ref 0, .int x]) [] (ev_hp I J R T) 0 0 (lw_mid T r2_M) := by
  refine r2_x cv_7_0 (by rfl) (by rfl) hX2 hh ao_1 hr.1 (r2_pe cv_7_0 hX2 hh ao_1 fun N => xk_bestSalvo (N := N) hr.1 hh hr.2) ?_
  intro r h c k I2 J2 R2 T2 q e hf hk
  exact cpq_s q e hk.2
theorem l2m_bestSalvo (hX2 : X.1 < 2 ^ 31) (x : Int32) (hh1 : cx_hok cx_B0 I1 R1 T1) (hm : rl2 I1 J1 R1 T1) : ev_W X 170 0 (ez_lay [.ref 35, .int x]) [] (ev_hp I1 J1 R1 T1) 0 0 (lw_mid T1 r2_M) := by
  refine r2_x cv_170_0 (by rfl) (by rfl) hX2 hh1 ao_1 hm.1 (r2_pe cv_170_0 hX2 hh1 ao_1 fun N => keep_n (N := N) (by decide +kernel)) ?_
  intro r h c k I2 J2 R2 T2 q e hf hk
  exact cp_km hh1.2 hm.2 q e
theorem l2x_need (hX2 : X.1 < 2 ^ 31) (hh : cx_hok cx_B0 I R T) (hr : rl2 I J R T) (x : Int32) : ev_W X 34 0 (ez_lay [.ref 0, .int x]) [] (ev_hp I J R T) 0 0 (lw_mid T r2_M) := by
  refine r2_x cv_34_0 (by rfl) (by rfl) hX2 hh ao_1 hr.1 (r2_pe cv_34_0 hX2 hh ao_1 fun N => xk_need (N := N) hr.1 hh hr.2) ?_
  intro r h c k I2 J2 R2 T2 q e hf hk
  exact cpq_s q e hk.2
theorem l2m_need (hX2 : X.1 < 2 ^ 31) (x : Int32) (hh1 : cx_hok cx_B0 I1 R1 T1) (hm : rl2 I1 J1 R1 T1) : ev_W X 212 0 (ez_lay [.ref 35, .int x]) [] (ev_hp I1 J1 R1 T1) 0 0 (lw_mid T1 r2_M) := by
  refine r2_x cv_212_0 (by rfl) (by rfl) hX2 hh1 ao_1 hm.1 (r2_pe cv_212_0 hX2 hh1 ao_1 fun N => keep_n (N := N) (by decide +kernel)) ?_
  intro r h c k I2 J2 R2 T2 q e hf hk
  exact cp_km hh1.2 hm.2 q e
theorem l2x_calls (hX2 : X.1 < 2 ^ 31) (hh : cx_hok cx_B0 I R T) (hr : rl2 I J R T) (x y : Int32) : ev_W X 11 0 (ez_lay [.ref 0, .int x, .int y]) [] (ev_hp I J R T) 0 0 (lw_mid T r2_M) := by
  refine r2_x cv_11_0 (by rfl) (by rfl) hX2 hh ao_2 hr.1 (r2_pe cv_11_0 hX2 hh ao_2 fun N => xk_calls (N := N) hr.1 hh hr.2) ?_
  intro r h c k I2 J2 R2 T2 q e hf hk
  exact cpq_s q e hk.2
theorem l2m_calls (hX2 : X.1 < 2 ^ 31) (x y : Int32) (hh1 : cx_hok cx_B0 I1 R1 T1) (hm : rl2 I1 J1 R1 T1) : ev_W X 178 0 (ez_lay [.ref 35, .int x, .int y]) [] (ev_hp I1 J1 R1 T1) 0 0 (lw_mid T1 r2_M) := by
  refine r2_x cv_178_0 (by rfl) (by rfl) hX2 hh1 ao_2 hm.1 (r2_pe cv_178_0 hX2 hh1 ao_2 fun N => keep_n (N := N) (by decide +kernel)) ?_
  intro r h c k I2 J2 R2 T2 q e hf hk
  exact cp_km hh1.2 hm.2 q e
theorem l2x_hardest (hX2 : X.1 < 2 ^ 31) (hh : cx_hok cx_B0 I R T) (hr : rl2 I J R T) (x : Int32) : ev_W X 20 0 (ez_lay [.ref 0, .int x]) [] (ev_hp I J R T) 0 0 (lw_mid T r2_M) := by
  refine r2_x cv_20_0 (by rfl) (by rfl) hX2 hh ao_1 hr.1 (r2_pe cv_20_0 hX2 hh ao_1 fun N => xk_hardest (N := N) hr.1 hh hr.2) ?_
  intro r h c k I2 J2 R2 T2 q e hf hk
  exact cpq_s q e hk.2
theorem l2m_hardest (hX2 : X.1 < 2 ^ 31) (x : Int32) (hh1 : cx_hok cx_B0 I1 R1 T1) (hm : rl2 I1 J1 R1 T1) : ev_W X 196 0 (ez_lay [.ref 35, .int x]) [] (ev_hp I1 J1 R1 T1) 0 0 (lw_mid T1 r2_M) := by
  refine r2_x cv_196_0 (by rfl) (by rfl) hX2 hh1 ao_1 hm.1 (r2_pe cv_196_0 hX2 hh1 ao_1 fun N => keep_n (N := N) (by decide +kernel)) ?_
  intro r h c k I2 J2 R2 T2 q e hf hk
  exact cp_km hh1.2 hm.2 q e
theorem l2x_stray (hX2 : X.1 < 2 ^ 31) (hh : cx_hok cx_B0 I R T) (hr : rl2 I J R T) : ev_W X 47 0 (ez_lay [.ref 0]) [] (ev_hp I J R T) 0 0 (lw_mid T r2_M) := by
  refine r2_x cv_47_0 (by rfl) (by rfl) hX2 hh ao_0 hr.1 (r2_pe cv_47_0 hX2 hh ao_0 fun N => xk_stray (N := N) hr.1 hh hr.2) ?_
  intro r h c k I2 J2 R2 T2 q e hf hk
  exact cpq_s q e hk.2
theorem l2m_stray (hX2 : X.1 < 2 ^ 31) (hh1 : cx_hok cx_B0 I1 R1 T1) (hm : rl2 I1 J1 R1 T1) : ev_W X 224 0 (ez_lay [.ref 35]) [] (ev_hp I1 J1 R1 T1) 0 0 (lw_mid T1 r2_M) := by
  refine r2_x cv_224_0 (by rfl) (by rfl) hX2 hh1 ao_0 hm.1 (r2_pe cv_224_0 hX2 hh1 ao_0 fun N => keep_n (N := N) (by decide +kernel)) ?_
  intro r h c k I2 J2 R2 T2 q e hf hk
  exact cp_km hh1.2 hm.2 q e
theorem l2x_blame (hX2 : X.1 < 2 ^ 31) (hh : cx_hok cx_B0 I R T) (hr : rl2 I J R T) : ev_W X 8 0 (ez_lay [.ref 0]) [] (ev_hp I J R T) 0 0 (lw_mid T r2_M) := by
  refine r2_x cv_8_0 (by rfl) (by rfl) hX2 hh ao_0 hr.1 (r2_pe cv_8_0 hX2 hh ao_0 fun N => xk_blame (N := N) hr.1 hh hr.2) ?_
  intro r h c k I2 J2 R2 T2 q e hf hk
  exact cpq_s q e hk.2
theorem l2m_blame (hX2 : X.1 < 2 ^ 31) (hh1 : cx_hok cx_B0 I1 R1 T1) (hm : rl2 I1 J1 R1 T1) : ev_W X 172 0 (ez_lay [.ref 35]) [] (ev_hp I1 J1 R1 T1) 0 0 (lw_mid T1 r2_M) := by
  refine r2_x cv_172_0 (by rfl) (by rfl) hX2 hh1 ao_0 hm.1 (r2_pe cv_172_0 hX2 hh1 ao_0 fun N => keep_n (N := N) (by decide +kernel)) ?_
  intro r h c k I2 J2 R2 T2 q e hf hk
  exact cp_km hh1.2 hm.2 q e
theorem l2x_blamed (hX2 : X.1 < 2 ^ 31) (hh : cx_hok cx_B0 I R T) (hr : rl2 I J R T) : ev_W X 9 0 (ez_lay [.ref 0]) [] (ev_hp I J R T) 0 0 (lw_mid T r2_M) := by
  refine r2_x cv_9_0 (by rfl) (by rfl) hX2 hh ao_0 hr.1 (r2_pe cv_9_0 hX2 hh ao_0 fun N => xk_blamed (N := N) hr.1 hh hr.2) ?_
  intro r h c k I2 J2 R2 T2 q e hf hk
  exact cpq_s q e hk.2
theorem l2m_blamed (hX2 : X.1 < 2 ^ 31) (hh1 : cx_hok cx_B0 I1 R1 T1) (hm : rl2 I1 J1 R1 T1) : ev_W X 174 0 (ez_lay [.ref 35]) [] (ev_hp I1 J1 R1 T1) 0 0 (lw_mid T1 r2_M) := by
  refine r2_x cv_174_0 (by rfl) (by rfl) hX2 hh1 ao_0 hm.1 (r2_pe cv_174_0 hX2 hh1 ao_0 fun N => keep_n (N := N) (by decide +kernel)) ?_
  intro r h c k I2 J2 R2 T2 q e hf hk
  exact cp_km hh1.2 hm.2 q e
theorem l2x_switched (hX2 : X.1 < 2 ^ 31) (hh : cx_hok cx_B0 I R T) (hr : rl2 I J R T) (x : Int32) : ev_W X 50 0 (ez_lay [.ref 0, .int x]) [] (ev_hp I J R T) 0 0 (lw_mid T r2_M) := by
  refine r2_x cv_50_0 (by rfl) (by rfl) hX2 hh ao_1 hr.1 (r2_pe cv_50_0 hX2 hh ao_1 fun N => xk_switched (N := N) hr.1 hh hr.2) ?_
  intro r h c k I2 J2 R2 T2 q e hf hk
  exact cpq_s q e hk.2
theorem l2m_switched (hX2 : X.1 < 2 ^ 31) (x : Int32) (hh1 : cx_hok cx_B0 I1 R1 T1) (hm : rl2 I1 J1 R1 T1) : ev_W X 226 0 (ez_lay [.ref 35, .int x]) [] (ev_hp I1 J1 R1 T1) 0 0 (lw_mid T1 r2_M) := by
  refine r2_x cv_226_0 (by rfl) (by rfl) hX2 hh1 ao_1 hm.1 (r2_pe cv_226_0 hX2 hh1 ao_1 fun N => keep_n (N := N) (by decide +kernel)) ?_
  intro r h c k I2 J2 R2 T2 q e hf hk
  exact cp_km hh1.2 hm.2 q e
theorem l2x_rim (hX2 : X.1 < 2 ^ 31) (hh : cx_hok cx_B0 I R T) (hr : rl2 I J R T) (x y : Int32) : ev_W X 40 0 (ez_lay [.ref 0, .int x, .int y]) [] (ev_hp I J R T) 0 0 (lw_mid T r2_M) := by
  refine r2_x cv_40_0 (by rfl) (by rfl) hX2 hh ao_2 hr.1 (r2_pe cv_40_0 hX2 hh ao_2 fun N => xk_rim (N := N) hr.1 hh hr.2) ?_
  intro r h c k I2 J2 R2 T2 q e hf hk
  exact cpq_s q e hk.2
theorem l2m_rim (hX2 : X.1 < 2 ^ 31) (x y : Int32) (hh1 : cx_hok cx_B0 I1 R1 T1) (hm : rl2 I1 J1 R1 T1) : ev_W X 217 0 (ez_lay [.ref 35, .int x, .int y]) [] (ev_hp I1 J1 R1 T1) 0 0 (lw_mid T1 r2_M) := by
  refine r2_x cv_217_0 (by rfl) (by rfl) hX2 hh1 ao_2 hm.1 (r2_pe cv_217_0 hX2 hh1 ao_2 fun N => keep_n (N := N) (by decide +kernel)) ?_
  intro r h c k I2 J2 R2 T2 q e hf hk
  exact cp_km hh1.2 hm.2 q e
theorem l2x_fitting (hX2 : X.1 < 2 ^ 31) (hh : cx_hok cx_B0 I R T) (hr : rl2 I J R T) : ev_W X 17 0 (ez_lay [.ref 0]) [] (ev_hp I J R T) 0 0 (lw_mid T r2_M) := by
  refine r2_x cv_17_0 (by rfl) (by rfl) hX2 hh ao_0 hr.1 (r2_pe cv_17_0 hX2 hh ao_0 fun N => xk_fitting (N := N) hr.1 hh hr.2) ?_
  intro r h c k I2 J2 R2 T2 q e hf hk
  exact cpq_s q e hk.2
theorem l2m_fitting (hX2 : X.1 < 2 ^ 31) (hh1 : cx_hok cx_B0 I1 R1 T1) (hm : rl2 I1 J1 R1 T1) : ev_W X 191 0 (ez_lay [.ref 35]) [] (ev_hp I1 J1 R1 T1) 0 0 (lw_mid T1 r2_M) := by
  refine r2_x cv_191_0 (by rfl) (by rfl) hX2 hh1 ao_0 hm.1 (r2_pe cv_191_0 hX2 hh1 ao_0 fun N => keep_n (N := N) (by decide +kernel)) ?_
  intro r h c k I2 J2 R2 T2 q e hf hk
  exact cp_km hh1.2 hm.2 q e
theorem l2x_clues (hX2 : X.1 < 2 ^ 31) (hh : cx_hok cx_B0 I R T) (hr : rl2 I J R T) (x : Int32) : ev_W X 13 0 (ez_lay [.ref 0, .int x]) [] (ev_hp I J R T) 0 0 (lw_mid T r2_M) := by
  refine r2_x cv_13_0 (by rfl) (by rfl) hX2 hh ao_1 hr.1 (r2_pe cv_13_0 hX2 hh ao_1 fun N => xk_clues (N := N) hr.1 hh hr.2) ?_
  intro r h c k I2 J2 R2 T2 q e hf hk
  exact cpq_s q e hk.2
theorem l2m_clues (hX2 : X.1 < 2 ^ 31) (x : Int32) (hh1 : cx_hok cx_B0 I1 R1 T1) (hm : rl2 I1 J1 R1 T1) : ev_W X 181 0 (ez_lay [.ref 35, .int x]) [] (ev_hp I1 J1 R1 T1) 0 0 (lw_mid T1 r2_M) := by
  refine r2_x cv_181_0 (by rfl) (by rfl) hX2 hh1 ao_1 hm.1 (r2_pe cv_181_0 hX2 hh1 ao_1 fun N => keep_n (N := N) (by decide +kernel)) ?_
  intro r h c k I2 J2 R2 T2 q e hf hk
  exact cp_km hh1.2 hm.2 q e
theorem l2x_many (hX2 : X.1 < 2 ^ 31) (hh : cx_hok cx_B0 I R T) (hr : rl2 I J R T) (x : Int32) : ev_W X 33 0 (ez_lay [.ref 0, .int x]) [] (ev_hp I J R T) 0 0 (lw_mid T r2_M) := by
  refine r2_x cv_33_0 (by rfl) (by rfl) hX2 hh ao_1 hr.1 (r2_pe cv_33_0 hX2 hh ao_1 fun N => pe_many (N := N)) ?_
  intro r h c k I2 J2 R2 T2 q e hf hk
  exact cp_km hh.2 hr.2 (fun p _ hp => q p hp) e
theorem l2m_many (hX2 : X.1 < 2 ^ 31) (x : Int32) (hh1 : cx_hok cx_B0 I1 R1 T1) (hm : rl2 I1 J1 R1 T1) : ev_W X 210 0 (ez_lay [.ref 35, .int x]) [] (ev_hp I1 J1 R1 T1) 0 0 (lw_mid T1 r2_M) := by
  refine r2_x cv_210_0 (by rfl) (by rfl) hX2 hh1 ao_1 hm.1 (r2_pe cv_210_0 hX2 hh1 ao_1 fun N => keep_n (N := N) (by decide +kernel)) ?_
  intro r h c k I2 J2 R2 T2 q e hf hk
  exact cp_km hh1.2 hm.2 q e
end
