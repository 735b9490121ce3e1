/-! The answers of layings, both sides. -/
section
variable {N : Nat} {X : ez_X} {I : Nat → Nat → Int32} {J : Nat → Nat → Int64} {R : Nat → Nat} {T : List ez_C} {Q : pw_Q} {cz kz : Nat}
set_option maxRecDepth 100000 in
theorem la_r0 {a0 : Int32} : ∀ G : ez_F, fx_up X 1 G 27 4 [.ref 0] [.int a0] (ev_hp I J R T) cz kz = bif decide (a0 = (0 : Int32)) then G 27 12 [.ref 0] [] (ev_hp I J R T) cz kz else G 27 7 [.ref 0] [] (ev_hp I J R T) cz kz := by
  intro G
  rfl
set_option maxRecDepth 100000 in
theorem la_r1  : ∀ G : ez_F, fx_up X 3 G 27 12 [.ref 0] [] (ev_hp I J R T) cz kz = G 27 19 [.ref 0] [.int (I 6 3)] (ev_hp I J R T) cz kz := by
  intro G
  rfl
set_option maxRecDepth 100000 in
theorem la_r2 {a0 : Int32} : ∀ G : ez_F, fx_up X 1 G 27 19 [.ref 0] [.int a0] (ev_hp I J R T) cz kz = some (some (.int a0), (ev_hp I J R T), cz, kz) := by
  intro G
  rfl
set_option maxRecDepth 100000 in
theorem la_r3  : ∀ G : ez_F, fx_up X 3 G 27 7 [.ref 0] [] (ev_hp I J R T) cz kz = some (some (.int (-6 : Int32)), (ev_hp I J R T), cz, kz) := by
  intro G
  rfl
theorem la_4 {v : Int32}
    (H : ((v = (0 : Int32) → Q (some (.int (I 6 3))) (ev_hp I J R T)) ∧ (¬ (v = (0 : Int32)) → Q (some (.int (-6 : Int32))) (ev_hp I J R T)))) : pw (N + 1) X 27 4 [.ref 0] [.int v] (ev_hp I J R T) Q := by
  refine pw_if (by decide) (fun _ _ => la_r0) (fun w1 => ?_) (fun w1 => ?_)
  · have h1 := H.1 w1
    refine pw_p (pw_seg (by decide) (fun _ _ => la_r1) ?_)
    exact pw_p (pw_ret (by decide) (fun _ _ => la_r2) h1)
  · have h1 := H.2 w1
    exact pw_p (pw_ret (by decide) (fun _ _ => la_r3) h1)
set_option maxRecDepth 100000 in
theorem la_r4  : ∀ G : ez_F, fx_up X 2 G 206 0 [.ref 35] [] (ev_hp I J R T) cz kz = ev_C G 167 [.ref 35] (ev_hp I J R T) fun r h1 c1 k1 => G 206 4 [.ref 35] (r.toList ++ []) h1 (cz + c1) (kz + k1) := by
  intro G
  rfl
theorem la_m0 
    (H : (∃ Q1 : pw_Q, pe N X 167 [.ref 35] (ev_hp I J R T) Q1 ∧ ∀ (r : Option Value) (h1 : ez_H), Q1 r h1 → pw N X 206 4 [.ref 35] (r.toList ++ []) h1 Q)) : pw (N + 1) X 206 0 [.ref 35] [] (ev_hp I J R T) Q := by
  obtain ⟨Q1, hc, hk⟩ := H
  exact pw_call (by decide) (fun _ _ => la_r4) hc hk
set_option maxRecDepth 100000 in
theorem la_r5 {a0 : Int32} : ∀ G : ez_F, fx_up X 1 G 206 4 [.ref 35] [.int a0] (ev_hp I J R T) cz kz = bif decide (a0 = (0 : Int32)) then G 206 14 [.ref 35] [] (ev_hp I J R T) cz kz else G 206 7 [.ref 35] [] (ev_hp I J R T) cz kz := by
  intro G
  rfl
set_option maxRecDepth 100000 in
theorem la_r6  : ∀ G : ez_F, fx_up X 2 G 206 14 [.ref 35] [] (ev_hp I J R T) cz kz = some (some (.int (-6 : Int32)), (ev_hp I J R T), cz, kz) := by
  intro G
  rfl
set_option maxRecDepth 100000 in
theorem la_r7  : ∀ G : ez_F, fx_up X 2 G 206 7 [.ref 35] [] (ev_hp I J R T) cz kz = G 206 11 [.ref 35] [.int (I 35 14)] (ev_hp I J R T) cz kz := by
  intro G
  rfl
set_option maxRecDepth 100000 in
theorem la_r8 {a0 : Int32} : ∀ G : ez_F, fx_up X 2 G 206 11 [.ref 35] [.int a0] (ev_hp I J R T) cz kz = some (some (.int a0), (ev_hp I J R T), cz, kz) := by
  intro G
  rfl
theorem la_m4 {v : Int32}
    (H : ((v = (0 : Int32) → Q (some (.int (-6 : Int32))) (ev_hp I J R T)) ∧ (¬ (v = (0 : Int32)) → Q (some (.int (I 35 14))) (ev_hp I J R T)))) : pw (N + 1) X 206 4 [.ref 35] [.int v] (ev_hp I J R T) Q := by
  refine pw_if (by decide) (fun _ _ => la_r5) (fun w1 => ?_) (fun w1 => ?_)
  · have h1 := H.1 w1
    exact pw_p (pw_ret (by decide) (fun _ _ => la_r6) h1)
  · have h1 := H.2 w1
    refine pw_p (pw_seg (by decide) (fun _ _ => la_r7) ?_)
    exact pw_p (pw_ret (by decide) (fun _ _ => la_r8) h1)
end
section
variable {N : Nat} {X : ez_X} {I I' I1 : Nat → Nat → Int32} {J J' J1 : Nat → Nat → Int64} {R R' R1 : Nat → Nat} {T T' T1 : List ez_C} {v : Int32} {f6 : Nat → Int32}
def v_lay (I : Nat → Nat → Int32) (J : Nat → Nat → Int64) : Int32 := if sn I 0 * (sn I 1 * sn I 2) ≤ 10000 then Int32.ofNat (ls I J).length else -6
theorem ls_hp (e : ev_hp I J R T = ev_hp I' J' R' T') : ls I' J' = ls I J ∧ ∀ s, sn I' s = sn I s := by
  have h : ∀ p : Nat, (ev_hp I' J' R' T')[p]? = (ev_hp I J R T)[p]? := fun p => by rw [e]
  have e13 : I' 1 3 = I 1 3 := h1_f (n := 0) (show cx_Ds[1]? = some (0 + 2, _, _) from rfl) rfl (h 1)
  have e15 : I' 1 5 = I 1 5 := h1_f (n := 0) (show cx_Ds[1]? = some (0 + 2, _, _) from rfl) rfl (h 1)
  have e16 : I' 1 6 = I 1 6 := h1_f (n := 0) (show cx_Ds[1]? = some (0 + 2, _, _) from rfl) rfl (h 1)
  have e17 : J' 1 7 = J 1 7 := h1_fJ (n := 0) (show cx_Ds[1]? = some (0 + 2, _, _) from rfl) rfl (h 1)
  have e18 : J' 1 8 = J 1 8 := h1_fJ (n := 0) (show cx_Ds[1]? = some (0 + 2, _, _) from rfl) rfl (h 1)
  have e19 : J' 1 9 = J 1 9 := h1_fJ (n := 0) (show cx_Ds[1]? = some (0 + 2, _, _) from rfl) rfl (h 1)
  have e2 : I' 2 = I 2 := h1_row (show cx_Ds[2]? = some (0, _, _) from rfl) (h 2)
  have e33 : I' 3 3 = I 3 3 := h1_f (n := 0) (show cx_Ds[3]? = some (0 + 2, _, _) from rfl) rfl (h 3)
  have e4 : J' 4 = J 4 := h1_rowJ (show cx_Ds[4]? = some (1, _, _) from rfl) (h 4)
  have e5 : I' 5 = I 5 := h1_row (show cx_Ds[5]? = some (0, _, _) from rfl) (h 5)
  exact ⟨ls_eq e33 e5 e4 e13 e15 e16 e17 e18 e19 (by rw [e2]), fun s => sn_eq e33 e5 s⟩
theorem ls_6 : ls (ev_sI I 6 f6) J = ls I J ∧ ∀ s, sn (ev_sI I 6 f6) s = sn I s := by
  have c1 : ev_sI I 6 f6 1 = I 1 := cx_sI_n _ _ (by decide)
  have c2 : ev_sI I 6 f6 2 = I 2 := cx_sI_n _ _ (by decide)
  have c3 : ev_sI I 6 f6 3 = I 3 := cx_sI_n _ _ (by decide)
  have c5 : ev_sI I 6 f6 5 = I 5 := cx_sI_n _ _ (by decide)
  exact ⟨ls_eq (by rw [c3]) c5 rfl (by rw [c1]) (by rw [c1]) (by rw [c1]) rfl rfl rfl (by rw [c2]), fun s => sn_eq (by rw [c3]) c5 s⟩
theorem v_lay_hp (e : ev_hp I J R T = ev_hp I' J' R' T') : v_lay I' J' = v_lay I J := by
  obtain ⟨h1, h2⟩ := ls_hp e
  unfold v_lay
  rw [h1, h2 0, h2 1, h2 2]
theorem v_lay_6 : v_lay (ev_sI I 6 f6) J = v_lay I J := by
  obtain ⟨h1, h2⟩ := ls_6 (I := I) (J := J) (f6 := f6)
  unfold v_lay
  rw [h1, h2 0, h2 1, h2 2]
/-- behind a call that may look for the layings: its heap is the one before, but for what is kept of them -/
def se_H (I : Nat → Nat → Int32) (J : Nat → Nat → Int64) (R : Nat → Nat) (T : List ez_C) (h : ez_H) : Prop := h = ev_hp I J R T ∨ ∃ f6 R' T', h = ev_hp (ev_sI I 6 f6) J R' T'
theorem ls_H (hs : se_H I J R T (ev_hp I' J' R' T')) : ls I' J' = ls I J ∧ ∀ s, sn I' s = sn I s := by
  rcases hs with e | ⟨f6, R2, T2, e⟩
  · exact ls_hp e.symm
  · obtain ⟨h1, h2⟩ := ls_hp e.symm
    obtain ⟨h3, h4⟩ := ls_6 (I := I) (J := J) (f6 := f6)
    exact ⟨h1.trans h3, fun s => (h2 s).trans (h4 s)⟩
theorem pe_layings (hr : rl I J) (hh : cx_hok cx_B0 I R T) (hc : cp I J R T) : pe N X 27 [.ref 0] (ev_hp I J R T) (fun r h => r = some (.int (v_lay I J)) ∧ se_H I J R T h) := by
  refine pe_of (pw_p (xo_layings ⟨_, pe_tm hr hh hc, ?_⟩))
  rintro r h (⟨h1, rfl, rfl⟩ | ⟨h1, rfl, h2⟩)
  · refine pw_p (la_4 ⟨fun z => absurd z (by decide), fun _ => ⟨?_, Or.inl rfl⟩⟩)
    unfold v_lay
    rw [if_neg (by omega)]
  · obtain ⟨f6, R', T', rfl, g1, g2, g3⟩ := h2
    refine pw_p (la_4 ⟨fun _ => ⟨?_, Or.inr ⟨f6, R', T', rfl⟩⟩, fun z => absurd rfl z⟩)
    unfold v_lay
    rw [if_pos h1, g2.1]
theorem lxc_layings (hX2 : X.1 < 2 ^ 31) (hh : cx_hok cx_B0 I R T) (hr : rl2 I J R T) : ev_W X 27 0 (ez_lay [.ref 0]) [] (ev_hp I J R T) 0 0 (lw_mid T (fun v I1 J1 R1 T1 => v = v_lay I1 J1 ∧ rl2 I1 J1 R1 T1)) := by
  refine (W_pe (l2x_layings hX2 hh hr) (fun N => pe_layings (N := N) hr.1 hh hr.2)).mono ?_
  rintro r h c k ⟨⟨v, I1, J1, R1, T1, e1, e2, e3, e4, e5, e6⟩, q1, q2⟩
  refine ⟨v, I1, J1, R1, T1, e1, e2, e3, e4, e5, ?_, e6⟩
  rw [e1] at q1
  injection q1 with q1
  injection q1 with q1
  rw [e2] at q2
  obtain ⟨h1, h2⟩ := ls_H q2
  rw [q1]
  unfold v_lay
  rw [h1, h2 0, h2 1, h2 2]
theorem pe_mlayings (hr : rl I J) (hm : mk I J) (hB : cx_hB cx_B0 I) : pe N X 206 [.ref 35] (ev_hp I J R T) (fun r _ => r = some (.int (v_lay I J))) := by
  refine pe_of (pw_p (la_m0 ⟨_, pe_laid hr hB N, ?_⟩))
  rintro r h ⟨I', J', -, ⟨h1, rfl, rfl⟩ | ⟨h1, rfl, w, rfl, -⟩⟩
  · refine pw_p (la_m4 ⟨fun _ => ?_, fun z => absurd rfl z⟩)
    unfold v_lay
    rw [pr_is hr hB, if_neg (by omega)]
  · refine pw_p (la_m4 ⟨fun z => absurd z (by decide), fun _ => ?_⟩)
    unfold v_lay
    rw [pr_is hr hB, if_pos h1, ls_is hr hm hB]
    unfold al_I
    rw [cx_sI_s, upd_s]
theorem lmc_layings (hX2 : X.1 < 2 ^ 31) (hh : cx_hok cx_B0 I R T) (hr : rl2 I J R T) (hh1 : cx_hok cx_B0 I1 R1 T1) (hm : v = v_lay I1 J1 ∧ rl2 I1 J1 R1 T1) : ev_W X 206 0 (ez_lay [.ref 35]) [] (ev_hp I1 J1 R1 T1) 0 0 (lw_mid T1 (fun u I2 J2 R2 T2 => u = v ∧ rl2 I2 J2 R2 T2)) := by
  refine (W_pe (l2m_layings hX2 hh1 hm.2) (fun N => pe_mlayings (N := N) hm.2.1 hm.2.2.1 hh1.1)).mono ?_
  rintro r h c k ⟨⟨u, I2, J2, R2, T2, e1, e2, e3, e4, e5, e6⟩, q1⟩
  refine ⟨u, I2, J2, R2, T2, e1, e2, e3, e4, e5, ?_, e6⟩
  rw [e1] at q1
  injection q1 with q1
  injection q1 with q1
  rw [q1]
  exact hm.1.symm
end
