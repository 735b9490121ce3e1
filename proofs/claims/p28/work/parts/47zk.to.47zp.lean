section
/-! The answers of layings, both sides. -/
section
variable {N : Nat} {X : ez_X} {I : Nat → Nat → Int32} {J : Nat → Nat → Int64} {R : Nat → Nat} {T : List ez_C} {Q : pw_Q} {cz kz : Nat}
set_option maxRecDepth 100000 in
theorem la_r0 {a0 : Int32} : ∀ G : ez_F, fx_up X 1 G 27 4 [.ref 0] [.int a0] (ev_hp I J R T) cz kz = bif decide (a0 = (0 : Int32)) then G 27 12 [.ref 0] [] (ev_hp I J R T) cz kz else G 27 7 [.ref 0] [] (ev_hp I J R T) cz kz := by
  intro G
  rfl
set_option maxRecDepth 100000 in
theorem la_r1  : ∀ G : ez_F, fx_up X 3 G 27 12 [.ref 0] [] (ev_hp I J R T) cz kz = G 27 19 [.ref 0] [.int (I 6 3)] (ev_hp I J R T) cz kz := by
  intro G
  rfl
set_option maxRecDepth 100000 in
theorem la_r2 {a0 : Int32} : ∀ G : ez_F, fx_up X 1 G 27 19 [.ref 0] [.int a0] (ev_hp I J R T) cz kz = some (some (.int a0), (ev_hp I J R T), cz, kz) := by
  intro G
  rfl
set_option maxRecDepth 100000 in
theorem la_r3  : ∀ G : ez_F, fx_up X 3 G 27 7 [.ref 0] [] (ev_hp I J R T) cz kz = some (some (.int (-6 : Int32)), (ev_hp I J R T), cz, kz) := by
  intro G
  rfl
theorem la_4 {v : Int32}
    (H : ((v = (0 : Int32) → Q (some (.int (I 6 3))) (ev_hp I J R T)) ∧ (¬ (v = (0 : Int32)) → Q (some (.int (-6 : Int32))) (ev_hp I J R T)))) : pw (N + 1) X 27 4 [.ref 0] [.int v] (ev_hp I J R T) Q := by
  refine pw_if (by decide) (fun _ _ => la_r0) (fun w1 => ?_) (fun w1 => ?_)
  · have h1 := H.1 w1
    refine pw_p (pw_seg (by decide) (fun _ _ => la_r1) ?_)
    exact pw_p (pw_ret (by decide) (fun _ _ => la_r2) h1)
  · have h1 := H.2 w1
    exact pw_p (pw_ret (by decide) (fun _ _ => la_r3) h1)
set_option maxRecDepth 100000 in
theorem la_r4  : ∀ G : ez_F, fx_up X 2 G 206 0 [.ref 35] [] (ev_hp I J R T) cz kz = ev_C G 167 [.ref 35] (ev_hp I J R T) fun r h1 c1 k1 => G 206 4 [.ref 35] (r.toList ++ []) h1 (cz + c1) (kz + k1) := by
  intro G
  rfl
theorem la_m0 
    (H : (∃ Q1 : pw_Q, pe N X 167 [.ref 35] (ev_hp I J R T) Q1 ∧ ∀ (r : Option Value) (h1 : ez_H), Q1 r h1 → pw N X 206 4 [.ref 35] (r.toList ++ []) h1 Q)) : pw (N + 1) X 206 0 [.ref 35] [] (ev_hp I J R T) Q := by
  obtain ⟨Q1, hc, hk⟩ := H
  exact pw_call (by decide) (fun _ _ => la_r4) hc hk
set_option maxRecDepth 100000 in
theorem la_r5 {a0 : Int32} : ∀ G : ez_F, fx_up X 1 G 206 4 [.ref 35] [.int a0] (ev_hp I J R T) cz kz = bif decide (a0 = (0 : Int32)) then G 206 14 [.ref 35] [] (ev_hp I J R T) cz kz else G 206 7 [.ref 35] [] (ev_hp I J R T) cz kz := by
  intro G
  rfl
set_option maxRecDepth 100000 in
theorem la_r6  : ∀ G : ez_F, fx_up X 2 G 206 14 [.ref 35] [] (ev_hp I J R T) cz kz = some (some (.int (-6 : Int32)), (ev_hp I J R T), cz, kz) := by
  intro G
  rfl
set_option maxRecDepth 100000 in
theorem la_r7  : ∀ G : ez_F, fx_up X 2 G 206 7 [.ref 35] [] (ev_hp I J R T) cz kz = G 206 11 [.ref 35] [.int (I 35 14)] (ev_hp I J R T) cz kz := by
  intro G
  rfl
set_option maxRecDepth 100000 in
theorem la_r8 {a0 : Int32} : ∀ G : ez_F, fx_up X 2 G 206 11 [.ref 35] [.int a0] (ev_hp I J R T) cz kz = some (some (.int a0), (ev_hp I J R T), cz, kz) := by
  intro G
  rfl
theorem la_m4 {v : Int32}
    (H : ((v = (0 : Int32) → Q (some (.int (-6 : Int32))) (ev_hp I J R T)) ∧ (¬ (v = (0 : Int32)) → Q (some (.int (I 35 14))) (ev_hp I J R T)))) : pw (N + 1) X 206 4 [.ref 35] [.int v] (ev_hp I J R T) Q := by
  refine pw_if (by decide) (fun _ _ => la_r5) (fun w1 => ?_) (fun w1 => ?_)
  · have h1 := H.1 w1
    exact pw_p (pw_ret (by decide) (fun _ _ => la_r6) h1)
  · have h1 := H.2 w1
    refine pw_p (pw_seg (by decide) (fun _ _ => la_r7) ?_)
    exact pw_p (pw_ret (by decide) (fun _ _ => la_r8) h1)
end
section
variable {N : Nat} {X : ez_X} {I I' I1 : Nat → Nat → Int32} {J J' J1 : Nat → Nat → Int64} {R R' R1 : Nat → Nat} {T T' T1 : List ez_C} {v : Int32} {f6 : Nat → Int32}
noncomputable def v_lay (I : Nat → Nat → Int32) (J : Nat → Nat → Int64) : Int32 := if sn I 0 * (sn I 1 * sn I 2) ≤ 10000 then Int32.ofNat (ls I J).length else -6
theorem ls_hp (e : ev_hp I J R T = ev_hp I' J' R' T') : ls I' J' = ls I J ∧ ∀ s, sn I' s = sn I s := by
  have h : ∀ p : Nat, (ev_hp I' J' R' T')[p]? = (ev_hp I J R T)[p]? := fun p => by rw [e]
  have e13 : I' 1 3 = I 1 3 := h1_f (n := 0) (show cx_Ds[1]? = some (0 + 2, _, _) from rfl) rfl (h 1)
  have e15 : I' 1 5 = I 1 5 := h1_f (n := 0) (show cx_Ds[1]? = some (0 + 2, _, _) from rfl) rfl (h 1)
  have e16 : I' 1 6 = I 1 6 := h1_f (n := 0) (show cx_Ds[1]? = some (0 + 2, _, _) from rfl) rfl (h 1)
  have e17 : J' 1 7 = J 1 7 := h1_fJ (n := 0) (show cx_Ds[1]? = some (0 + 2, _, _) from rfl) rfl (h 1)
  have e18 : J' 1 8 = J 1 8 := h1_fJ (n := 0) (show cx_Ds[1]? = some (0 + 2, _, _) from rfl) rfl (h 1)
  have e19 : J' 1 9 = J 1 9 := h1_fJ (n := 0) (show cx_Ds[1]? = some (0 + 2, _, _) from rfl) rfl (h 1)
  have e2 : I' 2 = I 2 := h1_row (show cx_Ds[2]? = some (0, _, _) from rfl) (h 2)
  have e33 : I' 3 3 = I 3 3 := h1_f (n := 0) (show cx_Ds[3]? = some (0 + 2, _, _) from rfl) rfl (h 3)
  have e4 : J' 4 = J 4 := h1_rowJ (show cx_Ds[4]? = some (1, _, _) from rfl) (h 4)
  have e5 : I' 5 = I 5 := h1_row (show cx_Ds[5]? = some (0, _, _) from rfl) (h 5)
  exact ⟨ls_eq e33 e5 e4 e13 e15 e16 e17 e18 e19 (by rw [e2]), fun s => sn_eq e33 e5 s⟩
theorem ls_6 : ls (ev_sI I 6 f6) J = ls I J ∧ ∀ s, sn (ev_sI I 6 f6) s = sn I s := by
  have c1 : ev_sI I 6 f6 1 = I 1 := cx_sI_n _ _ (by decide)
  have c2 : ev_sI I 6 f6 2 = I 2 := cx_sI_n _ _ (by decide)
  have c3 : ev_sI I 6 f6 3 = I 3 := cx_sI_n _ _ (by decide)
  have c5 : ev_sI I 6 f6 5 = I 5 := cx_sI_n _ _ (by decide)
  exact ⟨ls_eq (by rw [c3]) c5 rfl (by rw [c1]) (by rw [c1]) (by rw [c1]) rfl rfl rfl (by rw [c2]), fun s => sn_eq (by rw [c3]) c5 s⟩
theorem v_lay_hp (e : ev_hp I J R T = ev_hp I' J' R' T') : v_lay I' J' = v_lay I J := by
  obtain ⟨h1, h2⟩ := ls_hp e
  unfold v_lay
  rw [h1, h2 0, h2 1, h2 2]
theorem v_lay_6 : v_lay (ev_sI I 6 f6) J = v_lay I J := by
  obtain ⟨h1, h2⟩ := ls_6 (I := I) (J := J) (f6 := f6)
  unfold v_lay
  rw [h1, h2 0, h2 1, h2 2]
/-- behind a call that may look for the layings: its heap is the one before, but for what is kept of them -/
noncomputable def se_H (I : Nat → Nat → Int32) (J : Nat → Nat → Int64) (R : Nat → Nat) (T : List ez_C) (h : ez_H) : Prop := h = ev_hp I J R T ∨ ∃ f6 R' T', h = ev_hp (ev_sI I 6 f6) J R' T'
theorem ls_H (hs : se_H I J R T (ev_hp I' J' R' T')) : ls I' J' = ls I J ∧ ∀ s, sn I' s = sn I s := by
  rcases hs with e | ⟨f6, R2, T2, e⟩
  · exact ls_hp e.symm
  · obtain ⟨h1, h2⟩ := ls_hp e.symm
    obtain ⟨h3, h4⟩ := ls_6 (I := I) (J := J) (f6 := f6)
    exact ⟨h1.trans h3, fun s => (h2 s).trans (h4 s)⟩
theorem pe_layings (hr : rl I J) (hh : cx_hok cx_B0 I R T) (hc : cp I J R T) : pe N X 27 [.ref 0] (ev_hp I J R T) (fun r h => r = some (.int (v_lay I J)) ∧ se_H I J R T h) := by
  refine pe_of (pw_p (xo_layings ⟨_, pe_tm hr hh hc, ?_⟩))
  rintro r h (⟨h1, rfl, rfl⟩ | ⟨h1, rfl, h2⟩)
  · refine pw_p (la_4 ⟨fun z => absurd z (by decide), fun _ => ⟨?_, Or.inl rfl⟩⟩)
    unfold v_lay
    rw [if_neg (by omega)]
  · obtain ⟨f6, R', T', rfl, g1, g2, g3⟩ := h2
    refine pw_p (la_4 ⟨fun _ => ⟨?_, Or.inr ⟨f6, R', T', rfl⟩⟩, fun z => absurd rfl z⟩)
    unfold v_lay
    rw [if_pos h1, g2.1]
theorem lxc_layings (hX2 : X.1 < 2 ^ 31) (hh : cx_hok cx_B0 I R T) (hr : rl2 I J R T) : ev_W X 27 0 (ez_lay [.ref 0]) [] (ev_hp I J R T) 0 0 (lw_mid T (fun v I1 J1 R1 T1 => v = v_lay I1 J1 ∧ rl2 I1 J1 R1 T1)) := by
  refine (W_pe (l2x_layings hX2 hh hr) (fun N => pe_layings (N := N) hr.1 hh hr.2)).mono ?_
  rintro r h c k ⟨⟨v, I1, J1, R1, T1, e1, e2, e3, e4, e5, e6⟩, q1, q2⟩
  refine ⟨v, I1, J1, R1, T1, e1, e2, e3, e4, e5, ?_, e6⟩
  rw [e1] at q1
  injection q1 with q1
  injection q1 with q1
  rw [e2] at q2
  obtain ⟨h1, h2⟩ := ls_H q2
  rw [q1]
  unfold v_lay
  rw [h1, h2 0, h2 1, h2 2]
theorem pe_mlayings (hr : rl I J) (hm : mk I J) (hB : cx_hB cx_B0 I) : pe N X 206 [.ref 35] (ev_hp I J R T) (fun r _ => r = some (.int (v_lay I J))) := by
  refine pe_of (pw_p (la_m0 ⟨_, pe_laid hr hB N, ?_⟩))
  rintro r h ⟨I', J', -, ⟨h1, rfl, rfl⟩ | ⟨h1, rfl, w, rfl, -⟩⟩
  · refine pw_p (la_m4 ⟨fun _ => ?_, fun z => absurd rfl z⟩)
    unfold v_lay
    rw [pr_is hr hB, if_neg (by omega)]
  · refine pw_p (la_m4 ⟨fun z => absurd z (by decide), fun _ => ?_⟩)
    unfold v_lay
    rw [pr_is hr hB, if_pos h1, ls_is hr hm hB]
    unfold al_I
    rw [cx_sI_s, upd_s]
theorem lmc_layings (hX2 : X.1 < 2 ^ 31) (hh : cx_hok cx_B0 I R T) (hr : rl2 I J R T) (hh1 : cx_hok cx_B0 I1 R1 T1) (hm : v = v_lay I1 J1 ∧ rl2 I1 J1 R1 T1) : ev_W X 206 0 (ez_lay [.ref 35]) [] (ev_hp I1 J1 R1 T1) 0 0 (lw_mid T1 (fun u I2 J2 R2 T2 => u = v ∧ rl2 I2 J2 R2 T2)) := by
  refine (W_pe (l2m_layings hX2 hh1 hm.2) (fun N => pe_mlayings (N := N) hm.2.1 hm.2.2.1 hh1.1)).mono ?_
  rintro r h c k ⟨⟨u, I2, J2, R2, T2, e1, e2, e3, e4, e5, e6⟩, q1⟩
  refine ⟨u, I2, J2, R2, T2, e1, e2, e3, e4, e5, ?_, e6⟩
  rw [e1] at q1
  injection q1 with q1
  injection q1 with q1
  rw [q1]
  exact hm.1.symm
end
end
section
/-! A laying's code and its three numbers. -/
theorem ib_shl (a : Nat) : Int32.ofNat a <<< ((9 : Int32) &&& (31 : Int32)) = Int32.ofNat (a * 512) := by
  apply Int32.toBitVec_inj.mp
  rw [Int32.toBitVec_shiftLeft, show ((9 : Int32) &&& (31 : Int32)).toBitVec.smod 32 = 9#32 from by decide]
  apply BitVec.eq_of_toNat_eq
  rw [BitVec.shiftLeft_eq', BitVec.toNat_shiftLeft]
  show ((a % 2 ^ 32) <<< 9) % 2 ^ 32 = (a * 512) % 2 ^ 32
  rw [Nat.shiftLeft_eq]
  omega
theorem ib_or {a b : Nat} (hb : b < 512) (ha : a < 4194304) : Int32.ofNat (a * 512) ||| Int32.ofNat b = Int32.ofNat (a * 512 + b) := by
  apply Int32.toBitVec_inj.mp
  rw [Int32.toBitVec_or]
  apply BitVec.eq_of_toNat_eq
  rw [BitVec.toNat_or]
  show (a * 512) % 2 ^ 32 ||| b % 2 ^ 32 = (a * 512 + b) % 2 ^ 32
  rw [Nat.mod_eq_of_lt (by omega), Nat.mod_eq_of_lt (by omega), Nat.mod_eq_of_lt (by omega), Nat.mul_comm a 512]
  exact (Nat.two_pow_add_eq_or_of_lt (i := 9) hb a).symm
theorem ib_and (u : Nat) : Int32.ofNat u &&& (511 : Int32) = Int32.ofNat (u % 512) := by
  apply Int32.toBitVec_inj.mp
  rw [Int32.toBitVec_and]
  apply BitVec.eq_of_toNat_eq
  rw [BitVec.toNat_and]
  show (u % 2 ^ 32) &&& (2 ^ 9 - 1) = (u % 512) % 2 ^ 32
  rw [Nat.and_two_pow_sub_one_eq_mod]
  omega
theorem ib_shr {v : Nat} {s : Int32} {n : Nat} (hv : v < 2147483648) (hs : s.toBitVec.smod 32 = BitVec.ofNat 32 n) (hn : n < 32) : Int32.ofNat v >>> s = Int32.ofNat (v / 2 ^ n) := by
  have h2 : v / 2 ^ n ≤ v := Nat.div_le_self _ _
  apply Int32.toInt_inj.mp
  rw [io_ti (by omega)]
  show (Int32.ofNat v >>> s).toBitVec.toInt = _
  rw [Int32.toBitVec_shiftRight, hs]
  show ((Int32.ofNat v).toBitVec.sshiftRight (BitVec.ofNat 32 n).toNat).toInt = _
  rw [BitVec.toInt_sshiftRight, BitVec.toNat_ofNat, Nat.mod_eq_of_lt (by omega)]
  show (Int32.ofNat v).toInt >>> n = _
  rw [io_ti hv, Int.shiftRight_eq_div_pow]
  rfl
noncomputable def ly_at (t : ly_t) (s : Nat) : Nat := if s = 0 then t.1 else if s = 1 then t.2.1 else t.2.2
theorem ly_c_is {t : ly_t} (h1 : t.1 < 512) (h2 : t.2.1 < 512) (h3 : t.2.2 < 512) : ly_c t = Int32.ofNat ((t.1 * 512 + t.2.1) * 512 + t.2.2) := by
  unfold ly_c
  rw [ib_shl, ib_or h2 (by omega), ib_shl, ib_or h3 (by omega)]
theorem ly_spot {t : ly_t} {s : Nat} (h1 : t.1 < 512) (h2 : t.2.1 < 512) (h3 : t.2.2 < 512) (hs : s < 3) : ((ly_c t >>> (((9 : Int32) * ((2 : Int32) - Int32.ofNat s)) &&& (31 : Int32))) &&& (511 : Int32)) = Int32.ofNat (ly_at t s) := by
  rw [ly_c_is h1 h2 h3]
  have hh : s = 0 ∨ s = 1 ∨ s = 2 := by omega
  rcases hh with rfl | rfl | rfl
  · rw [ib_shr (n := 18) (by omega) (by decide) (by decide), ib_and]
    unfold ly_at
    rw [if_pos rfl]
    congr 1
    omega
  · rw [ib_shr (n := 9) (by omega) (by decide) (by decide), ib_and]
    unfold ly_at
    rw [if_neg (by decide), if_pos rfl]
    congr 1
    omega
  · rw [ib_shr (n := 0) (by omega) (by decide) (by decide), ib_and]
    unfold ly_at
    rw [if_neg (by decide), if_neg (by decide)]
    congr 1
    omega
/-- each laying's numbers lie below the rows' lengths -/
theorem ly_3b {q : Nat → Nat → Nat → Bool} {a b : Nat} : ∀ n t, t ∈ ly_3 q a b n → t.1 = a ∧ t.2.1 = b ∧ t.2.2 < n := by
  intro n
  induction n with
  | zero => intro t ht; cases ht
  | succ n ih =>
    intro t ht
    unfold ly_3 at ht
    rcases List.mem_append.mp ht with h | h
    · obtain ⟨h1, h2, h3⟩ := ih t h
      exact ⟨h1, h2, by omega⟩
    · cases hq : q a b n with
      | false => rw [hq] at h; cases h
      | true =>
        rw [hq] at h
        obtain rfl := List.mem_singleton.mp h
        exact ⟨rfl, rfl, Nat.lt_succ_self n⟩
theorem ly_2b {p : Nat → Nat → Bool} {q : Nat → Nat → Nat → Bool} {n2 a : Nat} : ∀ n t, t ∈ ly_2 p q n2 a n → t.1 = a ∧ t.2.1 < n ∧ t.2.2 < n2 := by
  intro n
  induction n with
  | zero => intro t ht; cases ht
  | succ n ih =>
    intro t ht
    unfold ly_2 at ht
    rcases List.mem_append.mp ht with h | h
    · obtain ⟨h1, h2, h3⟩ := ih t h
      exact ⟨h1, by omega, h3⟩
    · cases hq : p a n with
      | false => rw [hq] at h; cases h
      | true =>
        rw [hq] at h
        obtain ⟨h1, h2, h3⟩ := ly_3b n2 t h
        exact ⟨h1, by omega, h3⟩
theorem ly_1b {p : Nat → Nat → Bool} {q : Nat → Nat → Nat → Bool} {n1 n2 : Nat} : ∀ n t, t ∈ ly_1 p q n1 n2 n → t.1 < n ∧ t.2.1 < n1 ∧ t.2.2 < n2 := by
  intro n
  induction n with
  | zero => intro t ht; cases ht
  | succ n ih =>
    intro t ht
    unfold ly_1 at ht
    rcases List.mem_append.mp ht with h | h
    · obtain ⟨h1, h2, h3⟩ := ih t h
      exact ⟨by omega, h2, h3⟩
    · obtain ⟨h1, h2, h3⟩ := ly_2b n1 t h
      exact ⟨by omega, h2, h3⟩
end
section
/-! The answers of laid, both sides. -/
section
variable {N : Nat} {X : ez_X} {I : Nat → Nat → Int32} {J : Nat → Nat → Int64} {R : Nat → Nat} {T : List ez_C} {Q : pw_Q} {cz kz : Nat}
set_option maxRecDepth 100000 in
theorem lb_r0 {a0 : Int32} {a1 : Int32} {a2 : Int32} : ∀ G : ez_F, fx_up X 1 G 26 15 [.ref 0, .int a0, .int a1] [.int a2] (ev_hp I J R T) cz kz = bif decide (a2 = (0 : Int32)) then G 26 21 [.ref 0, .int a0, .int a1] [] (ev_hp I J R T) cz kz else G 26 18 [.ref 0, .int a0, .int a1] [] (ev_hp I J R T) cz kz := by
  intro G
  rfl
set_option maxRecDepth 100000 in
theorem lb_r1 {a0 : Int32} {a1 : Int32} : ∀ G : ez_F, fx_up X 3 G 26 21 [.ref 0, .int a0, .int a1] [] (ev_hp I J R T) cz kz = ev_C G 23 [.ref 0, .int a0] (ev_hp I J R T) fun r h1 c1 k1 => G 26 26 [.ref 0, .int a0, .int a1] (r.toList ++ []) h1 (cz + c1) (kz + k1) := by
  intro G
  rfl
set_option maxRecDepth 100000 in
theorem lb_r2 {a0 : Int32} {a1 : Int32} {a2 : Int32} : ∀ G : ez_F, fx_up X 1 G 26 26 [.ref 0, .int a0, .int a1] [.int a2] (ev_hp I J R T) cz kz = bif decide (a2 = (0 : Int32)) then G 26 44 [.ref 0, .int a0, .int a1] [] (ev_hp I J R T) cz kz else G 26 29 [.ref 0, .int a0, .int a1] [] (ev_hp I J R T) cz kz := by
  intro G
  rfl
set_option maxRecDepth 100000 in
theorem lb_r3 {a0 : Int32} {a1 : Int32} : ∀ G : ez_F, fx_up X 2 G 26 44 [.ref 0, .int a0, .int a1] [] (ev_hp I J R T) cz kz = some (some (.int (-2 : Int32)), (ev_hp I J R T), cz, kz) := by
  intro G
  rfl
set_option maxRecDepth 100000 in
theorem lb_r4 {a0 : Int32} {a1 : Int32} : ∀ G : ez_F, fx_up X 4 G 26 29 [.ref 0, .int a0, .int a1] [] (ev_hp I J R T) cz kz = ev_C G 138 [.ref 6, .int a0] (ev_hp I J R T) fun r h1 c1 k1 => G 26 37 [.ref 0, .int a0, .int a1] (r.toList ++ []) h1 (cz + c1) (kz + k1) := by
  intro G
  rfl
set_option maxRecDepth 100000 in
theorem lb_r5 {a0 : Int32} {a1 : Int32} : ∀ G : ez_F, fx_up X 2 G 26 18 [.ref 0, .int a0, .int a1] [] (ev_hp I J R T) cz kz = some (some (.int (-6 : Int32)), (ev_hp I J R T), cz, kz) := by
  intro G
  rfl
theorem lb_15 {v x y : Int32}
    (H : ((v = (0 : Int32) → (((ev_wi x (0 : Int32) ((I 6 3) - (1 : Int32))) = (0 : Int32) → Q (some (.int (-2 : Int32))) (ev_hp I J R T)) ∧ (¬ ((ev_wi x (0 : Int32) ((I 6 3) - (1 : Int32))) = (0 : Int32)) → (∃ Q1 : pw_Q, pe N X 138 [.ref 6, .int x] (ev_hp I J R T) Q1 ∧ ∀ (r : Option Value) (h1 : ez_H), Q1 r h1 → pw N X 26 37 [.ref 0, .int x, .int y] (r.toList ++ []) h1 Q)))) ∧ (¬ (v = (0 : Int32)) → Q (some (.int (-6 : Int32))) (ev_hp I J R T)))) : pw (N + 1) X 26 15 [.ref 0, .int x, .int y] [.int v] (ev_hp I J R T) Q := by
  refine pw_if (by decide) (fun _ _ => lb_r0) (fun w1 => ?_) (fun w1 => ?_)
  · have h1 := H.1 w1
    refine pw_p (pw_callp (by decide) (fun _ _ => lb_r1) (pe_is (eg_isLaying _ _ _ _ _ _)) ?_)
    refine pw_p (pw_if (by decide) (fun _ _ => lb_r2) (fun w2 => ?_) (fun w2 => ?_))
    · have h2 := h1.1 w2
      exact pw_p (pw_ret (by decide) (fun _ _ => lb_r3) h2)
    · have h2 := h1.2 w2
      obtain ⟨Q1, hc, hk⟩ := h2
      exact pw_p (pw_call (by decide) (fun _ _ => lb_r4) hc hk)
  · have h1 := H.2 w1
    exact pw_p (pw_ret (by decide) (fun _ _ => lb_r5) h1)
set_option maxRecDepth 100000 in
theorem lb_r6 {a0 : Int32} : ∀ G : ez_F, fx_up X 2 G 138 0 [.ref 6, .int a0] [] (ev_hp I J R T) cz kz = G 138 4 [.ref 6, .int a0] [.ref (R 0)] (ev_hp I J R T) cz kz := by
  intro G
  rfl
set_option maxRecDepth 100000 in
theorem lb_r7 {a0 : Int32} {a1 : Nat} : ∀ G : ez_F, fx_up X 2 G 138 4 [.ref 6, .int a0] [.ref a1] (ev_hp I J R T) cz kz = ev_C G 3 [.ref a1, .int a0] (ev_hp I J R T) fun r h1 c1 k1 => G 138 8 [.ref 6, .int a0] (r.toList ++ []) h1 (cz + c1) (kz + k1) := by
  intro G
  rfl
theorem lb_co {x : Int32}
    (H : (∃ Q1 : pw_Q, pe N X 3 [.ref (R 0), .int x] (ev_hp I J R T) Q1 ∧ ∀ (r : Option Value) (h1 : ez_H), Q1 r h1 → pw N X 138 8 [.ref 6, .int x] (r.toList ++ []) h1 Q)) : pw (N + 1) X 138 0 [.ref 6, .int x] [] (ev_hp I J R T) Q := by
  refine pw_seg (by decide) (fun _ _ => lb_r6) ?_
  obtain ⟨Q1, hc, hk⟩ := H
  exact pw_p (pw_call (by decide) (fun _ _ => lb_r7) hc hk)
set_option maxRecDepth 100000 in
theorem lb_r8 {a0 : Int32} {a1 : Int32} : ∀ G : ez_F, fx_up X 10 G 45 0 [.int a0, .int a1] [] (ev_hp I J R T) cz kz = some (some (.int ((a0 >>> (((9 : Int32) * ((2 : Int32) - a1)) &&& (31 : Int32))) &&& (511 : Int32))), (ev_hp I J R T), cz, kz) := by
  intro G
  rfl
theorem lb_sp {x y : Int32}
    (H : Q (some (.int ((x >>> (((9 : Int32) * ((2 : Int32) - y)) &&& (31 : Int32))) &&& (511 : Int32)))) (ev_hp I J R T)) : pw (N + 1) X 45 0 [.int x, .int y] [] (ev_hp I J R T) Q := by
  exact pw_ret (by decide) (fun _ _ => lb_r8) H
set_option maxRecDepth 100000 in
theorem lb_r9 {a0 : Int32} {a1 : Int32} {a2 : Int32} : ∀ G : ez_F, fx_up X 2 G 26 37 [.ref 0, .int a0, .int a1] [.int a2] (ev_hp I J R T) cz kz = ev_C G 45 [.int a2, .int a1] (ev_hp I J R T) fun r h1 c1 k1 => G 26 41 [.ref 0, .int a0, .int a1] (r.toList ++ []) h1 (cz + c1) (kz + k1) := by
  intro G
  rfl
theorem lb_37 {v x y : Int32}
    (H : (∃ Q1 : pw_Q, pe N X 45 [.int v, .int y] (ev_hp I J R T) Q1 ∧ ∀ (r : Option Value) (h1 : ez_H), Q1 r h1 → pw N X 26 41 [.ref 0, .int x, .int y] (r.toList ++ []) h1 Q)) : pw (N + 1) X 26 37 [.ref 0, .int x, .int y] [.int v] (ev_hp I J R T) Q := by
  obtain ⟨Q1, hc, hk⟩ := H
  exact pw_call (by decide) (fun _ _ => lb_r9) hc hk
set_option maxRecDepth 100000 in
theorem lb_r10 {a0 : Int32} {a1 : Int32} {a2 : Int32} : ∀ G : ez_F, fx_up X 2 G 26 41 [.ref 0, .int a0, .int a1] [.int a2] (ev_hp I J R T) cz kz = some (some (.int a2), (ev_hp I J R T), cz, kz) := by
  intro G
  rfl
theorem lb_41 {v x y : Int32}
    (H : Q (some (.int v)) (ev_hp I J R T)) : pw (N + 1) X 26 41 [.ref 0, .int x, .int y] [.int v] (ev_hp I J R T) Q := by
  exact pw_ret (by decide) (fun _ _ => lb_r10) H
set_option maxRecDepth 100000 in
theorem lb_r11 {a0 : Int32} {a1 : Int32} : ∀ G : ez_F, fx_up X 1 G 138 8 [.ref 6, .int a0] [.int a1] (ev_hp I J R T) cz kz = some (some (.int a1), (ev_hp I J R T), cz, kz) := by
  intro G
  rfl
theorem lb_c8 {v x : Int32}
    (H : Q (some (.int v)) (ev_hp I J R T)) : pw (N + 1) X 138 8 [.ref 6, .int x] [.int v] (ev_hp I J R T) Q := by
  exact pw_ret (by decide) (fun _ _ => lb_r11) H
set_option maxRecDepth 100000 in
theorem lb_r12 {a0 : Int32} {a1 : Int32} : ∀ G : ez_F, fx_up X 3 G 205 0 [.ref 35, .int a0, .int a1] [] (ev_hp I J R T) cz kz = ev_C G 204 [.ref 35, .int a1] (ev_hp I J R T) fun r h1 c1 k1 => G 205 5 [.ref 35, .int a0, .int a1] (r.toList ++ []) h1 (cz + c1) (kz + k1) := by
  intro G
  rfl
set_option maxRecDepth 100000 in
theorem lb_r13 {a0 : Int32} {a1 : Int32} {a2 : Int32} : ∀ G : ez_F, fx_up X 1 G 205 5 [.ref 35, .int a0, .int a1] [.int a2] (ev_hp I J R T) cz kz = bif decide (¬ a2 = (0 : Int32)) then G 205 11 [.ref 35, .int a0, .int a1] [] (ev_hp I J R T) cz kz else G 205 8 [.ref 35, .int a0, .int a1] [] (ev_hp I J R T) cz kz := by
  intro G
  rfl
set_option maxRecDepth 100000 in
theorem lb_r14 {a0 : Int32} {a1 : Int32} : ∀ G : ez_F, fx_up X 2 G 205 11 [.ref 35, .int a0, .int a1] [] (ev_hp I J R T) cz kz = ev_C G 167 [.ref 35] (ev_hp I J R T) fun r h1 c1 k1 => G 205 15 [.ref 35, .int a0, .int a1] (r.toList ++ []) h1 (cz + c1) (kz + k1) := by
  intro G
  rfl
set_option maxRecDepth 100000 in
theorem lb_r15 {a0 : Int32} {a1 : Int32} : ∀ G : ez_F, fx_up X 2 G 205 8 [.ref 35, .int a0, .int a1] [] (ev_hp I J R T) cz kz = some (some (.int (-2 : Int32)), (ev_hp I J R T), cz, kz) := by
  intro G
  rfl
theorem lb_m0 {x y : Int32}
    (H : ((¬ (ev_il (y.toInt64) 0 ((((I 35 3)) - (1 : Int32)).toInt64)) = (0 : Int32) → (∃ Q1 : pw_Q, pe N X 167 [.ref 35] (ev_hp I J R T) Q1 ∧ ∀ (r : Option Value) (h1 : ez_H), Q1 r h1 → pw N X 205 15 [.ref 35, .int x, .int y] (r.toList ++ []) h1 Q)) ∧ (¬ (¬ (ev_il (y.toInt64) 0 ((((I 35 3)) - (1 : Int32)).toInt64)) = (0 : Int32)) → Q (some (.int (-2 : Int32))) (ev_hp I J R T)))) : pw (N + 1) X 205 0 [.ref 35, .int x, .int y] [] (ev_hp I J R T) Q := by
  refine pw_callp (by decide) (fun _ _ => lb_r12) (pe_is (em_isShip _ _ _ _ _ _)) ?_
  refine pw_p (pw_if (by decide) (fun _ _ => lb_r13) (fun w1 => ?_) (fun w1 => ?_))
  · have h1 := H.1 w1
    obtain ⟨Q1, hc, hk⟩ := h1
    exact pw_p (pw_call (by decide) (fun _ _ => lb_r14) hc hk)
  · have h1 := H.2 w1
    exact pw_p (pw_ret (by decide) (fun _ _ => lb_r15) h1)
set_option maxRecDepth 100000 in
theorem lb_r16 {a0 : Int32} {a1 : Int32} {a2 : Int32} : ∀ G : ez_F, fx_up X 1 G 205 15 [.ref 35, .int a0, .int a1] [.int a2] (ev_hp I J R T) cz kz = bif decide (¬ a2 = (0 : Int32)) then G 205 21 [.ref 35, .int a0, .int a1] [] (ev_hp I J R T) cz kz else G 205 18 [.ref 35, .int a0, .int a1] [] (ev_hp I J R T) cz kz := by
  intro G
  rfl
set_option maxRecDepth 100000 in
theorem lb_r17 {a0 : Int32} {a1 : Int32} : ∀ G : ez_F, fx_up X 3 G 205 21 [.ref 35, .int a0, .int a1] [] (ev_hp I J R T) cz kz = ev_C G 202 [.ref 35, .int a0] (ev_hp I J R T) fun r h1 c1 k1 => G 205 26 [.ref 35, .int a0, .int a1] (r.toList ++ []) h1 (cz + c1) (kz + k1) := by
  intro G
  rfl
set_option maxRecDepth 100000 in
theorem lb_r18 {a0 : Int32} {a1 : Int32} {a2 : Int32} : ∀ G : ez_F, fx_up X 1 G 205 26 [.ref 35, .int a0, .int a1] [.int a2] (ev_hp I J R T) cz kz = bif decide (a2 = (0 : Int32)) then G 205 42 [.ref 35, .int a0, .int a1] [] (ev_hp I J R T) cz kz else G 205 29 [.ref 35, .int a0, .int a1] [] (ev_hp I J R T) cz kz := by
  intro G
  rfl
set_option maxRecDepth 100000 in
theorem lb_r19 {a0 : Int32} {a1 : Int32} : ∀ G : ez_F, fx_up X 2 G 205 42 [.ref 35, .int a0, .int a1] [] (ev_hp I J R T) cz kz = some (some (.int (-2 : Int32)), (ev_hp I J R T), cz, kz) := by
  intro G
  rfl
set_option maxRecDepth 100000 in
theorem lb_r20 {a0 : Int32} {a1 : Int32} : ∀ G : ez_F, fx_up X 7 G 205 29 [.ref 35, .int a0, .int a1] [] (ev_hp I J R T) cz kz = G 205 38 [.ref 35, .int a0, .int a1] [.int (((3 : Int32) * a0) + a1), .ref 41] (ev_hp I J R T) cz kz := by
  intro G
  rfl
set_option maxRecDepth 100000 in
theorem lb_r21 {a0 : Int32} {a1 : Int32} : ∀ G : ez_F, fx_up X 2 G 205 18 [.ref 35, .int a0, .int a1] [] (ev_hp I J R T) cz kz = some (some (.int (-6 : Int32)), (ev_hp I J R T), cz, kz) := by
  intro G
  rfl
theorem lb_m15 {v x y : Int32}
    (H : ((¬ v = (0 : Int32) → (((ev_il (x.toInt64) 0 ((((I 35 14)) - (1 : Int32)).toInt64)) = (0 : Int32) → Q (some (.int (-2 : Int32))) (ev_hp I J R T)) ∧ (¬ ((ev_il (x.toInt64) 0 ((((I 35 14)) - (1 : Int32)).toInt64)) = (0 : Int32)) → pw N X 205 38 [.ref 35, .int x, .int y] [.int (((3 : Int32) * x) + y), .ref 41] (ev_hp I J R T) Q))) ∧ (¬ (¬ v = (0 : Int32)) → Q (some (.int (-6 : Int32))) (ev_hp I J R T)))) : pw (N + 1) X 205 15 [.ref 35, .int x, .int y] [.int v] (ev_hp I J R T) Q := by
  refine pw_if (by decide) (fun _ _ => lb_r16) (fun w1 => ?_) (fun w1 => ?_)
  · have h1 := H.1 w1
    refine pw_p (pw_callp (by decide) (fun _ _ => lb_r17) (pe_is (em_isLaying _ _ _ _ _ _)) ?_)
    refine pw_p (pw_if (by decide) (fun _ _ => lb_r18) (fun w2 => ?_) (fun w2 => ?_))
    · have h2 := h1.1 w2
      exact pw_p (pw_ret (by decide) (fun _ _ => lb_r19) h2)
    · have h2 := h1.2 w2
      refine pw_p (pw_seg (by decide) (fun _ _ => lb_r20) ?_)
      exact h2
  · have h1 := H.2 w1
    exact pw_p (pw_ret (by decide) (fun _ _ => lb_r21) h1)
set_option maxRecDepth 100000 in
theorem lb_r22 {a0 : Int32} {a1 : Int32} {a2 : Int32} : ∀ G : ez_F, fx_up X 2 G 205 39 [.ref 35, .int a0, .int a1] [.int a2] (ev_hp I J R T) cz kz = some (some (.int a2), (ev_hp I J R T), cz, kz) := by
  intro G
  rfl
theorem lb_m39 {v x y : Int32}
    (H : Q (some (.int v)) (ev_hp I J R T)) : pw (N + 1) X 205 39 [.ref 35, .int x, .int y] [.int v] (ev_hp I J R T) Q := by
  exact pw_ret (by decide) (fun _ _ => lb_r22) H
end
section
variable {N : Nat} {X : ez_X} {I I' I1 : Nat → Nat → Int32} {J J' J1 : Nat → Nat → Int64} {R R' R1 : Nat → Nat} {T T' T1 : List ez_C} {v x y : Int32} {f6 : Nat → Int32}
noncomputable def v_laid (I : Nat → Nat → Int32) (J : Nat → Nat → Int64) (x y : Int32) : Int32 := if ev_wi y 0 (I 3 3 - 1) = 0 then -2 else if sn I 0 * (sn I 1 * sn I 2) ≤ 10000 then (if ev_wi x 0 (Int32.ofNat (ls I J).length - 1) = 0 then -2 else Int32.ofNat (ly_at ((ls I J).getD x.toInt.toNat (0, 0, 0)) y.toInt.toNat)) else -6
theorem ly_gd {L : List ly_t} {k : Nat} {d : ly_t} (h : k < L.length) : L.getD k d = L[k] := by
  rw [List.getD_eq_getElem?_getD, List.getElem?_eq_getElem h]
  rfl
theorem len1 {n : Nat} (hn : n < 2147483648) : (Int32.ofNat n - 1).toInt = (n : Int) - 1 := by
  rw [Int32.toInt_sub, io_ti hn, show (1 : Int32).toInt = 1 from by decide, cx_bm32]
  simp only [cx_i32]
  omega
theorem wi_len {n : Nat} {x : Int32} (hn : n < 2147483648) (h : ¬ ev_wi x 0 (Int32.ofNat n - 1) = 0) : ∃ k : Nat, x = Int32.ofNat k ∧ k < n := by
  have h1 := ev_wi_ne h
  rw [len1 hn, show (0 : Int32).toInt = 0 from by decide] at h1
  exact ⟨x.toInt.toNat, io_nat h1.1, by omega⟩
theorem at_k {n k : Nat} {f : Nat → Int32} (hk : k < n) (hn : n ≤ 10000) : ev_at n f (Int32.ofNat k) = f k := by
  unfold ev_at
  rw [if_neg, if_neg, io_cl (by omega)]
  · rw [io_le (by omega) (by omega)]
    omega
  · rw [show (0 : Int32) = Int32.ofNat 0 from rfl, io_lt (by omega) (by omega)]
    omega
theorem sn_512 (hr : rl I J) (hB : cx_hB cx_B0 I) (s : Nat) (hs : s < 3) : sn I s < 512 := by
  rw [sn_is hr hB s hs]
  have e3 : I 3 3 = I 35 3 := (km_0 hr.1).2.2.2
  unfold mm
  split
  · rename_i h
    have h2 : s < (I 3 3).toInt.toNat := by rw [e3]; exact h
    have := (fi_n hr h2).2.1
    omega
  · omega
theorem ls_512 (hr : rl I J) (hB : cx_hB cx_B0 I) {t : ly_t} (ht : t ∈ ls I J) : t.1 < 512 ∧ t.2.1 < 512 ∧ t.2.2 < 512 := by
  have h0 := sn_512 hr hB 0 (by decide)
  have h1 := sn_512 hr hB 1 (by decide)
  have h2 := sn_512 hr hB 2 (by decide)
  obtain ⟨g0, g1, g2⟩ := ly_1b _ t ht
  exact ⟨by omega, by omega, by omega⟩
theorem pe_code {n : Nat} {f : Nat → Int32} (h : rowT (R 0) T n f) (hn : n ≤ 10000) : pe N X 138 [.ref 6, .int x] (ev_hp I J R T) (fun r h => r = some (.int (ev_at n f x)) ∧ h = ev_hp I J R T) := by
  refine pe_of (pw_p (lb_co ⟨_, pe_atR h (by omega), ?_⟩))
  rintro r h ⟨rfl, rfl⟩
  exact pw_p (lb_c8 ⟨rfl, rfl⟩)
theorem pe_spotIn : pe N X 45 [.int x, .int y] (ev_hp I J R T) (fun r h => r = some (.int ((x >>> (((9 : Int32) * ((2 : Int32) - y)) &&& (31 : Int32))) &&& (511 : Int32))) ∧ h = ev_hp I J R T) := pe_of (pw_p (lb_sp ⟨rfl, rfl⟩))
theorem pe_xlaid (hr : rl I J) (hh : cx_hok cx_B0 I R T) (hc : cp I J R T) : pe N X 26 [.ref 0, .int x, .int y] (ev_hp I J R T) (fun r h => r = some (.int (v_laid I J x y)) ∧ se_H I J R T h) := by
  have hns := (b_sh hh.1).1
  refine pe_of (pw_p (xo_laid ⟨fun hy => ⟨_, pe_tm hr hh hc, ?_⟩, fun hy => ⟨?_, Or.inl rfl⟩⟩))
  · rintro r h (⟨h1, rfl, rfl⟩ | ⟨h1, rfl, h2⟩)
    · refine pw_p (lb_15 ⟨fun z => absurd z (by decide), fun _ => ⟨?_, Or.inl rfl⟩⟩)
      unfold v_laid
      rw [if_neg hy, if_neg (by omega)]
    · obtain ⟨f6, R', T', rfl, g1, ⟨g2, n, f, g3, g4, g5, g6⟩, g7⟩ := h2
      refine pw_p (lb_15 ⟨fun _ => ⟨fun hx => ⟨?_, Or.inr ⟨f6, R', T', rfl⟩⟩, fun hx => ⟨_, pe_code g3 g5, ?_⟩⟩, fun z => absurd rfl z⟩)
      · rw [g2] at hx
        unfold v_laid
        rw [if_neg hy, if_pos h1, if_pos hx]
      · rintro r h ⟨rfl, rfl⟩
        refine pw_p (lb_37 ⟨_, pe_spotIn, ?_⟩)
        rintro r h ⟨rfl, rfl⟩
        refine pw_p (lb_41 ⟨?_, Or.inr ⟨f6, R', T', rfl⟩⟩)
        rw [g2] at hx
        unfold v_laid
        rw [if_neg hy, if_pos h1, if_neg hx]
        obtain ⟨k, rfl, hk⟩ := wi_len (by omega) hx
        have hy2 := hy
        rw [io_nat hns.1] at hy2
        obtain ⟨s, rfl, hs⟩ := wi_len (by omega) hy2
        obtain ⟨b0, b1, b2⟩ := ls_512 hr hh.1 (List.getElem_mem hk)
        rw [at_k (by omega) g5, g6 k hk, ly_spot b0 b1 b2 (by omega), io_ti (by omega), io_ti (by omega), Int.toNat_natCast, Int.toNat_natCast, ly_gd hk]
  · unfold v_laid
    rw [if_pos (Classical.not_not.mp hy)]
theorem pe_mlaid (hr : rl I J) (hm : mk I J) (hB : cx_hB cx_B0 I) : pe N X 205 [.ref 35, .int x, .int y] (ev_hp I J R T) (fun r _ => r = some (.int (v_laid I J x y))) := by
  have hns := (b_sh hB).1
  have e3 : I 3 3 = I 35 3 := (km_0 hr.1).2.2.2
  refine pe_of (pw_p (lb_m0 ⟨fun hy => ⟨_, pe_laid hr hB N, ?_⟩, fun hy => ?_⟩))
  · rw [il_0, ← e3] at hy
    rintro r h ⟨I', J', -, ⟨h1, rfl, rfl⟩ | ⟨h1, rfl, w, rfl, hw⟩⟩
    · refine pw_p (lb_m15 ⟨fun z => absurd rfl z, fun _ => ?_⟩)
      unfold v_laid
      rw [if_neg hy, pr_is hr hB, if_neg (by omega)]
    · have hlen := ly_1l (lm_p (rf_n I) (rf_f J) (rf_g I J)) (lm_q (rf_n I) (rf_f J) (rf_g I J)) (mm (in_n I) (rf_n I) 1) (mm (in_n I) (rf_n I) 2) (mm (in_n I) (rf_n I) 0)
      have hlen2 : (lm_L (rf_n I) (in_n I) (rf_f J) (rf_g I J)).length ≤ 10000 := Nat.le_trans hlen (by rw [pr_mm _ (rf_ns hB).2]; exact h1)
      have e14 : al_I I' w (lm_L (rf_n I) (in_n I) (rf_f J) (rf_g I J)).length 35 14 = Int32.ofNat (lm_L (rf_n I) (in_n I) (rf_f J) (rf_g I J)).length := by
        unfold al_I
        rw [cx_sI_s, upd_s]
      have e41 : al_I I' w (lm_L (rf_n I) (in_n I) (rf_f J) (rf_g I J)).length 41 = w := by
        unfold al_I
        rw [cx_sI_n _ _ (by decide), cx_sI_s]
      refine pw_p (lb_m15 ⟨fun _ => ⟨fun hx => ?_, fun hx => ?_⟩, fun z => absurd (by decide) z⟩)
      · rw [e14, il_0] at hx
        unfold v_laid
        rw [if_neg hy, pr_is hr hB, if_pos h1, ls_is hr hm hB, if_pos hx]
      · rw [e14, il_0] at hx
        refine pw_p (pw_iald (by rfl) (cx_getI (show cx_Ds[41]? = some (0, 30003, []) from rfl)) (fun _ => pw_p (lb_m39 ?_)))
        unfold v_laid
        rw [if_neg hy, pr_is hr hB, if_pos h1, ls_is hr hm hB, if_neg hx, e41]
        obtain ⟨k, rfl, hk⟩ := wi_len (by omega) hx
        have hy2 := hy
        rw [io_nat hns.1] at hy2
        obtain ⟨s, rfl, hs⟩ := wi_len (by omega) hy2
        have hw2 := hw k hk
        rw [show (3 : Int32) = Int32.ofNat 3 from rfl, io_mul, io_add, io_cl (by omega), io_ti (by omega), io_ti (by omega), Int.toNat_natCast, Int.toNat_natCast, ly_gd hk]
        have hh : s = 0 ∨ s = 1 ∨ s = 2 := by omega
        rcases hh with rfl | rfl | rfl
        · rw [Nat.add_zero, hw2.1]; rfl
        · rw [hw2.2.1]; rfl
        · rw [hw2.2.2]; rfl
  · rw [il_0, ← e3] at hy
    unfold v_laid
    rw [if_pos (Classical.not_not.mp hy)]
theorem lxc_laid (hX2 : X.1 < 2 ^ 31) (hh : cx_hok cx_B0 I R T) (hr : rl2 I J R T) (x y : Int32) : ev_W X 26 0 (ez_lay [.ref 0, .int x, .int y]) [] (ev_hp I J R T) 0 0 (lw_mid T (fun v I1 J1 R1 T1 => v = v_laid I1 J1 x y ∧ rl2 I1 J1 R1 T1)) := by
  refine (W_pe (l2x_laid hX2 hh hr x y) (fun N => pe_xlaid (N := N) hr.1 hh hr.2)).mono ?_
  rintro r h c k ⟨⟨v, I1, J1, R1, T1, e1, e2, e3, e4, e5, e6⟩, q1, q2⟩
  refine ⟨v, I1, J1, R1, T1, e1, e2, e3, e4, e5, ?_, e6⟩
  rw [e1] at q1
  injection q1 with q1
  injection q1 with q1
  rw [e2] at q2
  obtain ⟨h1, h2⟩ := ls_H q2
  have h3 : I1 3 3 = I 3 3 := by
    rcases q2 with e | ⟨f6, R2, T2, e⟩
    · exact hp_fld (n := 0) (k := 3) (show cx_Ds[3]? = some (0 + 2, _, _) from rfl) rfl e
    · have e7 := hp_fld (n := 0) (k := 3) (show cx_Ds[3]? = some (0 + 2, _, _) from rfl) rfl e
      rw [e7, cx_sI_n _ _ (by decide)]
  rw [q1]
  unfold v_laid
  rw [h1, h2 0, h2 1, h2 2, h3]
theorem lmc_laid (hX2 : X.1 < 2 ^ 31) (hh : cx_hok cx_B0 I R T) (hr : rl2 I J R T) (x y : Int32) (hh1 : cx_hok cx_B0 I1 R1 T1) (hm : v = v_laid I1 J1 x y ∧ rl2 I1 J1 R1 T1) : ev_W X 205 0 (ez_lay [.ref 35, .int x, .int y]) [] (ev_hp I1 J1 R1 T1) 0 0 (lw_mid T1 (fun u I2 J2 R2 T2 => u = v ∧ rl2 I2 J2 R2 T2)) := by
  refine (W_pe (l2m_laid hX2 x y hh1 hm.2) (fun N => pe_mlaid (N := N) hm.2.1 hm.2.2.1 hh1.1)).mono ?_
  rintro r h c k ⟨⟨u, I2, J2, R2, T2, e1, e2, e3, e4, e5, e6⟩, q1⟩
  refine ⟨u, I2, J2, R2, T2, e1, e2, e3, e4, e5, ?_, e6⟩
  rw [e1] at q1
  injection q1 with q1
  injection q1 with q1
  rw [q1]
  exact hm.1.symm
end
end
section
/-! Where ships lie by a laying, both sides. -/
section
variable {N : Nat} {X : ez_X} {I : Nat → Nat → Int32} {J : Nat → Nat → Int64} {R : Nat → Nat} {T : List ez_C} {Q : pw_Q} {cz kz : Nat}
set_option maxRecDepth 100000 in
theorem lq_r0 {a0 : Int32} {a1 : Int32} : ∀ G : ez_F, fx_up X 6 G 87 0 [.ref 3, .int a0, .int a1] [] (ev_hp I J R T) cz kz = ev_C G 45 [.int a0, .int a1] (ev_hp I J R T) fun r h1 c1 k1 => G 87 10 [.ref 3, .int a0, .int a1] (r.toList ++ [.int ((288 : Int32) * a1)]) h1 (cz + c1) (kz + k1) := by
  intro G
  rfl
set_option maxRecDepth 100000 in
theorem lq_r1 {a0 : Int32} {a1 : Int32} {a2 : Int32} {a3 : Int32} : ∀ G : ez_F, fx_up X 5 G 87 10 [.ref 3, .int a0, .int a1] [.int a2, .int a3] (ev_hp I J R T) cz kz = G 87 17 [.ref 3, .int a0, .int a1, .int (a3 + a2)] [.int (I 3 3), .int a1] (ev_hp I J R T) cz kz := by
  intro G
  rfl
set_option maxRecDepth 100000 in
theorem lq_r2 {a0 : Int32} {a1 : Int32} {a2 : Int32} {a3 : Int32} {a4 : Int32} : ∀ G : ez_F, fx_up X 1 G 87 17 [.ref 3, .int a0, .int a1, .int a2] [.int a3, .int a4] (ev_hp I J R T) cz kz = bif decide (a3 ≤ a4) then G 87 42 [.ref 3, .int a0, .int a1, .int a2] [] (ev_hp I J R T) cz kz else G 87 20 [.ref 3, .int a0, .int a1, .int a2] [] (ev_hp I J R T) cz kz := by
  intro G
  rfl
set_option maxRecDepth 100000 in
theorem lq_r3 {a0 : Int32} {a1 : Int32} {a2 : Int32} : ∀ G : ez_F, fx_up X 2 G 87 42 [.ref 3, .int a0, .int a1, .int a2] [] (ev_hp I J R T) cz kz = some (some (.long (0 : Int64)), (ev_hp I J R T), cz, kz) := by
  intro G
  rfl
set_option maxRecDepth 100000 in
theorem lq_r4 {a0 : Int32} {a1 : Int32} {a2 : Int32} : ∀ G : ez_F, fx_up X 2 G 87 20 [.ref 3, .int a0, .int a1, .int a2] [] (ev_hp I J R T) cz kz = bif decide (a2 < (0 : Int32)) then G 87 42 [.ref 3, .int a0, .int a1, .int a2] [] (ev_hp I J R T) cz kz else G 87 24 [.ref 3, .int a0, .int a1, .int a2] [] (ev_hp I J R T) cz kz := by
  intro G
  rfl
set_option maxRecDepth 100000 in
theorem lq_r5 {a0 : Int32} {a1 : Int32} {a2 : Int32} : ∀ G : ez_F, fx_up X 3 G 87 24 [.ref 3, .int a0, .int a1, .int a2] [] (ev_hp I J R T) cz kz = G 87 29 [.ref 3, .int a0, .int a1, .int a2] [.ref 4, .int a2] (ev_hp I J R T) cz kz := by
  intro G
  rfl
set_option maxRecDepth 100000 in
theorem lq_r6 {a0 : Int32} {a1 : Int32} {a2 : Int32} {a3 : Int32} {a4 : Int32} : ∀ G : ez_F, fx_up X 1 G 87 30 [.ref 3, .int a0, .int a1, .int a2] [.int a3, .int a4] (ev_hp I J R T) cz kz = bif decide (a3 ≤ a4) then G 87 42 [.ref 3, .int a0, .int a1, .int a2] [] (ev_hp I J R T) cz kz else G 87 33 [.ref 3, .int a0, .int a1, .int a2] [] (ev_hp I J R T) cz kz := by
  intro G
  rfl
set_option maxRecDepth 100000 in
theorem lq_r7 {a0 : Int32} {a1 : Int32} {a2 : Int32} : ∀ G : ez_F, fx_up X 3 G 87 33 [.ref 3, .int a0, .int a1, .int a2] [] (ev_hp I J R T) cz kz = G 87 38 [.ref 3, .int a0, .int a1, .int a2] [.int a2, .ref 4] (ev_hp I J R T) cz kz := by
  intro G
  rfl
set_option maxRecDepth 100000 in
theorem lq_r8 {a0 : Int32} {a1 : Int32} {a2 : Int32} {a3 : Int64} : ∀ G : ez_F, fx_up X 2 G 87 39 [.ref 3, .int a0, .int a1, .int a2] [.long a3] (ev_hp I J R T) cz kz = some (some (.long a3), (ev_hp I J R T), cz, kz) := by
  intro G
  rfl
theorem lq_0 {x y : Int32}
    (H : (((I 3 3) ≤ y → Q (some (.long (0 : Int64))) (ev_hp I J R T)) ∧ (¬ ((I 3 3) ≤ y) → (((((288 : Int32) * y) + ((x >>> (((9 : Int32) * ((2 : Int32) - y)) &&& (31 : Int32))) &&& (511 : Int32))) < (0 : Int32) → Q (some (.long (0 : Int64))) (ev_hp I J R T)) ∧ (¬ ((((288 : Int32) * y) + ((x >>> (((9 : Int32) * ((2 : Int32) - y)) &&& (31 : Int32))) &&& (511 : Int32))) < (0 : Int32)) → (((Int32.ofNat 864) ≤ (((288 : Int32) * y) + ((x >>> (((9 : Int32) * ((2 : Int32) - y)) &&& (31 : Int32))) &&& (511 : Int32))) → Q (some (.long (0 : Int64))) (ev_hp I J R T)) ∧ (¬ ((Int32.ofNat 864) ≤ (((288 : Int32) * y) + ((x >>> (((9 : Int32) * ((2 : Int32) - y)) &&& (31 : Int32))) &&& (511 : Int32)))) → (ev_ix (((288 : Int32) * y) + ((x >>> (((9 : Int32) * ((2 : Int32) - y)) &&& (31 : Int32))) &&& (511 : Int32))) 864 → Q (some (.long (J 4 (((288 : Int32) * y) + ((x >>> (((9 : Int32) * ((2 : Int32) - y)) &&& (31 : Int32))) &&& (511 : Int32))).toNatClampNeg))) (ev_hp I J R T))))))))) : pw (N + 1) X 87 0 [.ref 3, .int x, .int y] [] (ev_hp I J R T) Q := by
  refine pw_callp (by decide) (fun _ _ => lq_r0) (pe_spotIn) ?_
  refine pw_p (pw_seg (by decide) (fun _ _ => lq_r1) ?_)
  refine pw_p (pw_if (by decide) (fun _ _ => lq_r2) (fun w1 => ?_) (fun w1 => ?_))
  · have h1 := H.1 w1
    exact pw_p (pw_ret (by decide) (fun _ _ => lq_r3) h1)
  · have h1 := H.2 w1
    refine pw_p (pw_if (by decide) (fun _ _ => lq_r4) (fun w2 => ?_) (fun w2 => ?_))
    · have h2 := h1.1 w2
      exact pw_p (pw_ret (by decide) (fun _ _ => lq_r3) h2)
    · have h2 := h1.2 w2
      refine pw_p (pw_seg (by decide) (fun _ _ => lq_r5) ?_)
      refine pw_p (pw_alenJ (by rfl) (cx_getJ (show cx_Ds[4]? = some (1, 864, []) from rfl)) ?_)
      refine pw_p (pw_if (by decide) (fun _ _ => lq_r6) (fun w3 => ?_) (fun w3 => ?_))
      · have h3 := h2.1 w3
        exact pw_p (pw_ret (by decide) (fun _ _ => lq_r3) h3)
      · have h3 := h2.2 w3
        refine pw_p (pw_seg (by decide) (fun _ _ => lq_r7) ?_)
        refine pw_p (pw_lald (by rfl) (cx_getJ (show cx_Ds[4]? = some (1, 864, []) from rfl)) (fun w4 => ?_))
        have h4 := h3 w4
        exact pw_p (pw_ret (by decide) (fun _ _ => lq_r8) h4)
set_option maxRecDepth 100000 in
theorem lq_r9 {a0 : Int32} : ∀ G : ez_F, fx_up X 2 G 137 0 [.ref 6, .int a0] [] (ev_hp I J R T) cz kz = G 137 4 [.ref 6, .int a0] [.ref (R 0)] (ev_hp I J R T) cz kz := by
  intro G
  rfl
set_option maxRecDepth 100000 in
theorem lq_r10 {a0 : Int32} {a1 : Nat} : ∀ G : ez_F, fx_up X 2 G 137 4 [.ref 6, .int a0] [.ref a1] (ev_hp I J R T) cz kz = ev_C G 3 [.ref a1, .int a0] (ev_hp I J R T) fun r h1 c1 k1 => G 137 8 [.ref 6, .int a0] (r.toList ++ []) h1 (cz + c1) (kz + k1) := by
  intro G
  rfl
theorem lo_0 {x : Int32}
    (H : (∃ Q1 : pw_Q, pe N X 3 [.ref (R 0), .int x] (ev_hp I J R T) Q1 ∧ ∀ (r : Option Value) (h1 : ez_H), Q1 r h1 → pw N X 137 8 [.ref 6, .int x] (r.toList ++ []) h1 Q)) : pw (N + 1) X 137 0 [.ref 6, .int x] [] (ev_hp I J R T) Q := by
  refine pw_seg (by decide) (fun _ _ => lq_r9) ?_
  obtain ⟨Q1, hc, hk⟩ := H
  exact pw_p (pw_call (by decide) (fun _ _ => lq_r10) hc hk)
set_option maxRecDepth 100000 in
theorem lq_r11 {a0 : Int32} {a1 : Int32} : ∀ G : ez_F, fx_up X 6 G 137 8 [.ref 6, .int a0] [.int a1] (ev_hp I J R T) cz kz = ev_C G 87 [.ref 3, .int a1, .int (0 : Int32)] (ev_hp I J R T) fun r h1 c1 k1 => G 137 18 [.ref 6, .int a0, .int a1] (r.toList ++ []) h1 (cz + c1) (kz + k1) := by
  intro G
  rfl
theorem lo_8 {x v : Int32}
    (H : (∃ Q1 : pw_Q, pe N X 87 [.ref 3, .int v, .int (0 : Int32)] (ev_hp I J R T) Q1 ∧ ∀ (r : Option Value) (h1 : ez_H), Q1 r h1 → pw N X 137 18 [.ref 6, .int x, .int v] (r.toList ++ []) h1 Q)) : pw (N + 1) X 137 8 [.ref 6, .int x] [.int v] (ev_hp I J R T) Q := by
  obtain ⟨Q1, hc, hk⟩ := H
  exact pw_call (by decide) (fun _ _ => lq_r11) hc hk
set_option maxRecDepth 100000 in
theorem lq_r12 {a0 : Int32} : ∀ G : ez_F, fx_up X 4 G 180 0 [.ref 35, .int a0] [] (ev_hp I J R T) cz kz = G 180 5 [.ref 35, .int a0, .long (0 : Int64), ez_fill, .int (0 : Int32)] [] (ev_hp I J R T) cz kz := by
  intro G
  rfl
theorem mo_0 {x : Int32}
    (H : pw N X 180 5 [.ref 35, .int x, .long (0 : Int64), ez_fill, .int (0 : Int32)] [] (ev_hp I J R T) Q) : pw (N + 1) X 180 0 [.ref 35, .int x] [] (ev_hp I J R T) Q := by
  refine pw_seg (by decide) (fun _ _ => lq_r12) ?_
  exact H
set_option maxRecDepth 100000 in
theorem lq_r13 {a0 : Int32} {a1 : Int32} {a2 : Int64} : ∀ G : ez_F, fx_up X 5 G 137 18 [.ref 6, .int a0, .int a1] [.long a2] (ev_hp I J R T) cz kz = ev_C G 87 [.ref 3, .int a1, .int (1 : Int32)] (ev_hp I J R T) fun r h1 c1 k1 => G 137 27 [.ref 6, .int a0, .int a1] (r.toList ++ [.long a2]) h1 (cz + c1) (kz + k1) := by
  intro G
  rfl
theorem lo_18 {x v : Int32} {u : Int64}
    (H : (∃ Q1 : pw_Q, pe N X 87 [.ref 3, .int v, .int (1 : Int32)] (ev_hp I J R T) Q1 ∧ ∀ (r : Option Value) (h1 : ez_H), Q1 r h1 → pw N X 137 27 [.ref 6, .int x, .int v] (r.toList ++ [.long u]) h1 Q)) : pw (N + 1) X 137 18 [.ref 6, .int x, .int v] [.long u] (ev_hp I J R T) Q := by
  obtain ⟨Q1, hc, hk⟩ := H
  exact pw_call (by decide) (fun _ _ => lq_r13) hc hk
set_option maxRecDepth 100000 in
theorem lq_r14 {a0 : Int32} {a1 : Int32} {a2 : Int64} {a3 : Int64} : ∀ G : ez_F, fx_up X 6 G 137 27 [.ref 6, .int a0, .int a1] [.long a2, .long a3] (ev_hp I J R T) cz kz = ev_C G 87 [.ref 3, .int a1, .int (2 : Int32)] (ev_hp I J R T) fun r h1 c1 k1 => G 137 37 [.ref 6, .int a0, .int a1] (r.toList ++ [.long (a3 ||| a2)]) h1 (cz + c1) (kz + k1) := by
  intro G
  rfl
theorem lo_27 {x v : Int32} {u w : Int64}
    (H : (∃ Q1 : pw_Q, pe N X 87 [.ref 3, .int v, .int (2 : Int32)] (ev_hp I J R T) Q1 ∧ ∀ (r : Option Value) (h1 : ez_H), Q1 r h1 → pw N X 137 37 [.ref 6, .int x, .int v] (r.toList ++ [.long (u ||| w)]) h1 Q)) : pw (N + 1) X 137 27 [.ref 6, .int x, .int v] [.long w, .long u] (ev_hp I J R T) Q := by
  obtain ⟨Q1, hc, hk⟩ := H
  exact pw_call (by decide) (fun _ _ => lq_r14) hc hk
set_option maxRecDepth 100000 in
theorem lq_r15 {a0 : Int32} {a1 : Int32} {a2 : Int64} {a3 : Int64} : ∀ G : ez_F, fx_up X 2 G 137 37 [.ref 6, .int a0, .int a1] [.long a2, .long a3] (ev_hp I J R T) cz kz = some (some (.long (a3 ||| a2)), (ev_hp I J R T), cz, kz) := by
  intro G
  rfl
theorem lo_37 {x v : Int32} {u w : Int64}
    (H : Q (some (.long (u ||| w))) (ev_hp I J R T)) : pw (N + 1) X 137 37 [.ref 6, .int x, .int v] [.long w, .long u] (ev_hp I J R T) Q := by
  exact pw_ret (by decide) (fun _ _ => lq_r15) H
set_option maxRecDepth 100000 in
theorem lq_r16 {a0 : Int32} {a1 : Int64} {a2 : Int32} : ∀ G : ez_F, fx_up X 3 G 180 5 [.ref 35, .int a0, .long a1, ez_fill, .int a2] [] (ev_hp I J R T) cz kz = G 180 11 [.ref 35, .int a0, .long a1, ez_fill, .int a2] [.int (I 35 3), .int a2] (ev_hp I J R T) cz kz := by
  intro G
  rfl
set_option maxRecDepth 100000 in
theorem lq_r17 {a0 : Int32} {a1 : Int64} {a2 : Int32} {a3 : Int32} {a4 : Int32} : ∀ G : ez_F, fx_up X 1 G 180 11 [.ref 35, .int a0, .long a1, ez_fill, .int a2] [.int a3, .int a4] (ev_hp I J R T) cz kz = bif decide (a3 ≤ a4) then G 180 46 [.ref 35, .int a0, .long a1, ez_fill, .int a2] [] (ev_hp I J R T) cz kz else G 180 14 [.ref 35, .int a0, .long a1, ez_fill, .int a2] [] (ev_hp I J R T) cz kz := by
  intro G
  rfl
set_option maxRecDepth 100000 in
theorem lq_r18 {a0 : Int32} {a1 : Int64} {a2 : Int32} : ∀ G : ez_F, fx_up X 2 G 180 46 [.ref 35, .int a0, .long a1, ez_fill, .int a2] [] (ev_hp I J R T) cz kz = some (some (.long a1), (ev_hp I J R T), cz, kz) := by
  intro G
  rfl
set_option maxRecDepth 100000 in
theorem lq_r19 {a0 : Int32} {a1 : Int64} {a2 : Int32} : ∀ G : ez_F, fx_up X 12 G 180 14 [.ref 35, .int a0, .long a1, ez_fill, .int a2] [] (ev_hp I J R T) cz kz = G 180 34 [.ref 35, .int a0, .long a1, ez_fill, .int a2] [.int a2, .int ((3 : Int32) * a0), .ref 41, .int ((300 : Int32) * a2), .ref 39, .long a1] (ev_hp I J R T) cz kz := by
  intro G
  rfl
set_option maxRecDepth 100000 in
theorem lq_r20 {a0 : Int32} {a1 : Int64} {a2 : Int32} {a3 : Int32} {a4 : Int32} {a5 : Int32} {a6 : Int64} : ∀ G : ez_F, fx_up X 1 G 180 34 [.ref 35, .int a0, .long a1, ez_fill, .int a2] [.int a3, .int a4, .ref 41, .int a5, .ref 39, .long a6] (ev_hp I J R T) cz kz = G 180 35 [.ref 35, .int a0, .long a1, ez_fill, .int a2] [.int (a4 + a3), .ref 41, .int a5, .ref 39, .long a6] (ev_hp I J R T) cz kz := by
  intro G
  rfl
set_option maxRecDepth 100000 in
theorem lq_r21 {a0 : Int32} {a1 : Int64} {a2 : Int32} {a3 : Int32} {a4 : Int32} {a5 : Int64} : ∀ G : ez_F, fx_up X 1 G 180 36 [.ref 35, .int a0, .long a1, ez_fill, .int a2] [.int a3, .int a4, .ref 39, .long a5] (ev_hp I J R T) cz kz = G 180 37 [.ref 35, .int a0, .long a1, ez_fill, .int a2] [.int (a4 + a3), .ref 39, .long a5] (ev_hp I J R T) cz kz := by
  intro G
  rfl
set_option maxRecDepth 100000 in
theorem lq_r22 {a0 : Int32} {a1 : Int64} {a2 : Int32} {a3 : Int64} {a4 : Int64} : ∀ G : ez_F, fx_up X 4 G 180 38 [.ref 35, .int a0, .long a1, ez_fill, .int a2] [.long a3, .long a4] (ev_hp I J R T) cz kz = G 180 5 [.ref 35, .int a0, .long (a4 ||| a3), ez_fill, .int (a2 + (1 : Int32))] [] (ev_hp I J R T) cz kz := by
  intro G
  rfl
theorem mo_5 {x y : Int32} {u : Int64}
    (H : (((I 35 3) ≤ y → Q (some (.long u)) (ev_hp I J R T)) ∧ (¬ ((I 35 3) ≤ y) → (ev_ix (((3 : Int32) * x) + y) 30003 → (ev_ix (((300 : Int32) * y) + (I 41 (((3 : Int32) * x) + y).toNatClampNeg)) 900 → pw N X 180 5 [.ref 35, .int x, .long (u ||| (J 39 (((300 : Int32) * y) + (I 41 (((3 : Int32) * x) + y).toNatClampNeg)).toNatClampNeg)), ez_fill, .int (y + (1 : Int32))] [] (ev_hp I J R T) Q))))) : pw (N + 1) X 180 5 [.ref 35, .int x, .long u, ez_fill, .int y] [] (ev_hp I J R T) Q := by
  refine pw_seg (by decide) (fun _ _ => lq_r16) ?_
  refine pw_p (pw_if (by decide) (fun _ _ => lq_r17) (fun w1 => ?_) (fun w1 => ?_))
  · have h1 := H.1 w1
    exact pw_p (pw_ret (by decide) (fun _ _ => lq_r18) h1)
  · have h1 := H.2 w1
    refine pw_p (pw_seg (by decide) (fun _ _ => lq_r19) ?_)
    refine pw_p (pw_seg (by decide) (fun _ _ => lq_r20) ?_)
    refine pw_p (pw_iald (by rfl) (cx_getI (show cx_Ds[41]? = some (0, 30003, []) from rfl)) (fun w2 => ?_))
    have h2 := h1 w2
    refine pw_p (pw_seg (by decide) (fun _ _ => lq_r21) ?_)
    refine pw_p (pw_lald (by rfl) (cx_getJ (show cx_Ds[39]? = some (1, 900, []) from rfl)) (fun w2 => ?_))
    have h2 := h2 w2
    refine pw_p (pw_seg (by decide) (fun _ _ => lq_r22) ?_)
    exact h2
end
section
variable {N : Nat} {X : ez_X} {I : Nat → Nat → Int32} {J : Nat → Nat → Int64} {R : Nat → Nat} {T : List ez_C} {x y : Int32} {t : ly_t}
noncomputable def ly_s (I : Nat → Nat → Int32) (J : Nat → Nat → Int64) (t : ly_t) (s : Nat) : Int64 := if s < (I 3 3).toInt.toNat then J 4 (288 * s + ly_at t s) else 0
noncomputable def ly_w (I : Nat → Nat → Int32) (J : Nat → Nat → Int64) (t : ly_t) : Int64 := (ly_s I J t 0 ||| ly_s I J t 1) ||| ly_s I J t 2
theorem ly_at_lt {s m : Nat} (h1 : t.1 < m) (h2 : t.2.1 < m) (h3 : t.2.2 < m) : ly_at t s < m := by
  unfold ly_at
  split
  · exact h1
  · split
    · exact h2
    · exact h3
theorem pe_cellsIn {s : Nat} (hy : y = Int32.ofNat s) (hns : 0 ≤ (I 3 3).toInt ∧ (I 3 3).toInt ≤ 3) (b0 : t.1 < 512) (b1 : t.2.1 < 512) (b2 : t.2.2 < 512) (hs : s < 3) (hin : s < (I 3 3).toInt.toNat → ly_at t s < 288) : pe N X 87 [.ref 3, .int (ly_c t), .int y] (ev_hp I J R T) (fun r h => r = some (.long (ly_s I J t s)) ∧ h = ev_hp I J R T) := by
  subst hy
  have hl := ly_at_lt (s := s) b0 b1 b2
  have e3 := io_nat hns.1
  refine pe_of (pw_p (lq_0 ?_))
  rw [ly_spot b0 b1 b2 hs, show (288 : Int32) = Int32.ofNat 288 from rfl, io_mul, io_add]
  refine ⟨fun h => ?_, fun h => ⟨fun h2 => ?_, fun h2 => ⟨fun h3 => ?_, fun h3 _ => ?_⟩⟩⟩
  · rw [e3, io_le (by omega) (by omega)] at h
    refine ⟨?_, rfl⟩
    unfold ly_s
    rw [if_neg (by omega)]
  · rw [show (0 : Int32) = Int32.ofNat 0 from rfl, io_lt (by omega) (by omega)] at h2
    omega
  · rw [e3, io_le (by omega) (by omega)] at h
    rw [io_le (by omega) (by omega)] at h3
    have := hin (by omega)
    omega
  · rw [e3, io_le (by omega) (by omega)] at h
    refine ⟨?_, rfl⟩
    unfold ly_s
    rw [if_pos (by omega), io_cl (by omega)]
/-- where ships lie, by the class -/
theorem pe_cellsOf {n : Nat} {f : Nat → Int32} (h : rowT (R 0) T n f) (hn : n ≤ 10000) (hf : ev_at n f x = ly_c t) (hns : 0 ≤ (I 3 3).toInt ∧ (I 3 3).toInt ≤ 3) (b0 : t.1 < 512) (b1 : t.2.1 < 512) (b2 : t.2.2 < 512) (hin : ∀ s, s < (I 3 3).toInt.toNat → ly_at t s < 288) : pe N X 137 [.ref 6, .int x] (ev_hp I J R T) (fun r h => r = some (.long (ly_w I J t)) ∧ h = ev_hp I J R T) := by
  refine pe_of (pw_p (lo_0 ⟨_, pe_atR h (by omega), ?_⟩))
  rintro r h ⟨rfl, rfl⟩
  rw [hf]
  refine pw_p (lo_8 ⟨_, pe_cellsIn (s := 0) rfl hns b0 b1 b2 (by decide) (hin 0), ?_⟩)
  rintro r h ⟨rfl, rfl⟩
  refine pw_p (lo_18 ⟨_, pe_cellsIn (s := 1) rfl hns b0 b1 b2 (by decide) (hin 1), ?_⟩)
  rintro r h ⟨rfl, rfl⟩
  refine pw_p (lo_27 ⟨_, pe_cellsIn (s := 2) rfl hns b0 b1 b2 (by decide) (hin 2), ?_⟩)
  rintro r h ⟨rfl, rfl⟩
  exact pw_p (lo_37 ⟨rfl, rfl⟩)
noncomputable def or_n (e : Nat → Int64) : Nat → Int64
  | 0 => 0
  | s + 1 => or_n e s ||| e s
/-- where ships lie, by the reference -/
theorem pe_mcells {ns k : Nat} {e : Nat → Int64} (hx : x = Int32.ofNat k) (hk : k < 10000) (h3 : I 35 3 = Int32.ofNat ns) (hn : ns ≤ 3) (hw : ∀ s, s < ns → I 41 (3 * k + s) = Int32.ofNat (ly_at t s)) (hl : ∀ s, s < ns → ly_at t s < 288) (he : ∀ s, s < ns → J 39 (300 * s + ly_at t s) = e s) : pe N X 180 [.ref 35, .int x] (ev_hp I J R T) (fun r h => r = some (.long (or_n e ns)) ∧ h = ev_hp I J R T) := by
  subst hx
  have loop : ∀ (r s : Nat), s + r = ns → ∀ N, pw N X 180 5 [.ref 35, .int (Int32.ofNat k), .long (or_n e s), ez_fill, .int (Int32.ofNat s)] [] (ev_hp I J R T) (fun r h => r = some (.long (or_n e ns)) ∧ h = ev_hp I J R T) := by
    intro r
    induction r with
    | zero =>
      intro s hs N
      obtain rfl : s = ns := by omega
      refine pw_p (mo_5 ⟨fun _ => ⟨rfl, rfl⟩, fun h => ?_⟩)
      rw [h3, io_le (by omega) (by omega)] at h
      omega
    | succ r ih =>
      intro s hs N
      refine pw_p (mo_5 ⟨fun h => ?_, fun _ => ?_⟩)
      · rw [h3, io_le (by omega) (by omega)] at h
        omega
      · have e1 : ((3 : Int32) * Int32.ofNat k + Int32.ofNat s).toNatClampNeg = 3 * k + s := by
          rw [show (3 : Int32) = Int32.ofNat 3 from rfl, io_mul, io_add, io_cl (by omega)]
        have hl2 := hl s (by omega)
        have e2 : ((300 : Int32) * Int32.ofNat s + Int32.ofNat (ly_at t s)).toNatClampNeg = 300 * s + ly_at t s := by
          rw [show (300 : Int32) = Int32.ofNat 300 from rfl, io_mul, io_add, io_cl (by omega)]
        intro _
        rw [e1, hw s (by omega)]
        intro _
        rw [e2, he s (by omega), io_1]
        exact ih (s + 1) (by omega) _
  exact pe_of (pw_p (mo_0 (loop ns 0 (by omega) _)))
theorem ly_w_or (hns : (I 3 3).toInt.toNat ≤ 3) : ly_w I J t = or_n (fun s => J 4 (288 * s + ly_at t s)) (I 3 3).toInt.toNat := by
  unfold ly_w ly_s
  generalize (I 3 3).toInt.toNat = ns at hns
  rcases (show ns = 0 ∨ ns = 1 ∨ ns = 2 ∨ ns = 3 by omega) with rfl | rfl | rfl | rfl
  all_goals simp [or_n]
end
end
section
/-! Marks at the rim, both sides. -/
section
variable {N : Nat} {X : ez_X} {I : Nat → Nat → Int32} {J : Nat → Nat → Int64} {R : Nat → Nat} {T : List ez_C} {Q : pw_Q} {cz kz : Nat}
set_option maxRecDepth 100000 in
theorem ri_r0 {a0 : Int32} : ∀ G : ez_F, fx_up X 3 G 150 0 [.ref 1, .int a0] [] (ev_hp I J R T) cz kz = G 150 5 [.ref 1, .int a0] [.int (I 1 4), .int a0] (ev_hp I J R T) cz kz := by
  intro G
  rfl
set_option maxRecDepth 100000 in
theorem ri_r1 {a0 : Int32} {a1 : Int32} {a2 : Int32} : ∀ G : ez_F, fx_up X 1 G 150 5 [.ref 1, .int a0] [.int a1, .int a2] (ev_hp I J R T) cz kz = bif decide (a1 ≤ a2) then G 150 24 [.ref 1, .int a0] [] (ev_hp I J R T) cz kz else G 150 8 [.ref 1, .int a0] [] (ev_hp I J R T) cz kz := by
  intro G
  rfl
set_option maxRecDepth 100000 in
theorem ri_r2 {a0 : Int32} : ∀ G : ez_F, fx_up X 2 G 150 24 [.ref 1, .int a0] [] (ev_hp I J R T) cz kz = G 150 28 [.ref 1, .int a0] [.long (J 1 8)] (ev_hp I J R T) cz kz := by
  intro G
  rfl
set_option maxRecDepth 100000 in
theorem ri_r3 {a0 : Int32} {a1 : Int64} : ∀ G : ez_F, fx_up X 3 G 150 28 [.ref 1, .int a0] [.long a1] (ev_hp I J R T) cz kz = G 150 33 [.ref 1, .int a0] [.int (I 1 4), .int a0, .long a1] (ev_hp I J R T) cz kz := by
  intro G
  rfl
set_option maxRecDepth 100000 in
theorem ri_r4 {a0 : Int32} {a1 : Int32} {a2 : Int32} {a3 : Int64} : ∀ G : ez_F, fx_up X 3 G 150 33 [.ref 1, .int a0] [.int a1, .int a2, .long a3] (ev_hp I J R T) cz kz = some (some (.long (a3 <<< ((a2 - a1).toInt64 &&& (63 : Int64)))), (ev_hp I J R T), cz, kz) := by
  intro G
  rfl
set_option maxRecDepth 100000 in
theorem ri_r5 {a0 : Int32} : ∀ G : ez_F, fx_up X 3 G 150 8 [.ref 1, .int a0] [] (ev_hp I J R T) cz kz = G 150 13 [.ref 1, .int a0] [.int (I 1 3), .long (1 : Int64)] (ev_hp I J R T) cz kz := by
  intro G
  rfl
set_option maxRecDepth 100000 in
theorem ri_r6 {a0 : Int32} {a1 : Int32} {a2 : Int64} : ∀ G : ez_F, fx_up X 5 G 150 13 [.ref 1, .int a0] [.int a1, .long a2] (ev_hp I J R T) cz kz = G 150 20 [.ref 1, .int a0] [.int (I 1 3), .long ((a2 <<< (a1.toInt64 &&& (63 : Int64))) - (1 : Int64))] (ev_hp I J R T) cz kz := by
  intro G
  rfl
set_option maxRecDepth 100000 in
theorem ri_r7 {a0 : Int32} {a1 : Int32} {a2 : Int64} : ∀ G : ez_F, fx_up X 4 G 150 20 [.ref 1, .int a0] [.int a1, .long a2] (ev_hp I J R T) cz kz = some (some (.long (a2 <<< ((a1 * a0).toInt64 &&& (63 : Int64)))), (ev_hp I J R T), cz, kz) := by
  intro G
  rfl
theorem ri_c0 {x : Int32}
    (H : (((I 1 4) ≤ x → Q (some (.long ((J 1 8) <<< ((x - (I 1 4)).toInt64 &&& (63 : Int64))))) (ev_hp I J R T)) ∧ (¬ ((I 1 4) ≤ x) → Q (some (.long ((((1 : Int64) <<< ((I 1 3).toInt64 &&& (63 : Int64))) - (1 : Int64)) <<< (((I 1 3) * x).toInt64 &&& (63 : Int64))))) (ev_hp I J R T)))) : pw (N + 1) X 150 0 [.ref 1, .int x] [] (ev_hp I J R T) Q := by
  refine pw_seg (by decide) (fun _ _ => ri_r0) ?_
  refine pw_p (pw_if (by decide) (fun _ _ => ri_r1) (fun w1 => ?_) (fun w1 => ?_))
  · have h1 := H.1 w1
    refine pw_p (pw_seg (by decide) (fun _ _ => ri_r2) ?_)
    refine pw_p (pw_seg (by decide) (fun _ _ => ri_r3) ?_)
    exact pw_p (pw_ret (by decide) (fun _ _ => ri_r4) h1)
  · have h1 := H.2 w1
    refine pw_p (pw_seg (by decide) (fun _ _ => ri_r5) ?_)
    refine pw_p (pw_seg (by decide) (fun _ _ => ri_r6) ?_)
    exact pw_p (pw_ret (by decide) (fun _ _ => ri_r7) h1)
set_option maxRecDepth 100000 in
theorem ri_r8  : ∀ G : ez_F, fx_up X 2 G 179 0 [.ref 35] [] (ev_hp I J R T) cz kz = G 179 4 [.ref 35] [.int (I 35 0)] (ev_hp I J R T) cz kz := by
  intro G
  rfl
set_option maxRecDepth 100000 in
theorem ri_r9 {a0 : Int32} : ∀ G : ez_F, fx_up X 2 G 179 4 [.ref 35] [.int a0] (ev_hp I J R T) cz kz = G 179 8 [.ref 35] [.int (I 35 1), .int a0] (ev_hp I J R T) cz kz := by
  intro G
  rfl
set_option maxRecDepth 100000 in
theorem ri_r10 {a0 : Int32} {a1 : Int32} : ∀ G : ez_F, fx_up X 2 G 179 8 [.ref 35] [.int a0, .int a1] (ev_hp I J R T) cz kz = some (some (.int (a1 * a0)), (ev_hp I J R T), cz, kz) := by
  intro G
  rfl
theorem ri_n0 
    (H : Q (some (.int ((I 35 0) * (I 35 1)))) (ev_hp I J R T)) : pw (N + 1) X 179 0 [.ref 35] [] (ev_hp I J R T) Q := by
  refine pw_seg (by decide) (fun _ _ => ri_r8) ?_
  refine pw_p (pw_seg (by decide) (fun _ _ => ri_r9) ?_)
  exact pw_p (pw_ret (by decide) (fun _ _ => ri_r10) H)
end
theorem pe_mcount {N : Nat} {X : ez_X} {I : Nat → Nat → Int32} {J : Nat → Nat → Int64} {R : Nat → Nat} {T : List ez_C} : pe N X 179 [.ref 35] (ev_hp I J R T) (fun r h => r = some (.int (I 35 0 * I 35 1)) ∧ h = ev_hp I J R T) := pe_of (pw_p (ri_n0 ⟨rfl, rfl⟩))
section
variable {N : Nat} {X : ez_X} {I : Nat → Nat → Int32} {J : Nat → Nat → Int64} {R : Nat → Nat} {T : List ez_C} {Q : pw_Q} {cz kz : Nat}
set_option maxRecDepth 100000 in
theorem rj_r0 {a0 : Int64} {a1 : Int32} : ∀ G : ez_F, fx_up X 4 G 183 0 [.ref 35, .long a0, ez_fill, .int a1] [] (ev_hp I J R T) cz kz = G 183 6 [.ref 35, .long a0, ez_fill, .int a1, .int (0 : Int32), .int (0 : Int32)] [] (ev_hp I J R T) cz kz := by
  intro G
  rfl
theorem rj_0 {x : Int32} {u : Int64}
    (H : pw N X 183 6 [.ref 35, .long u, ez_fill, .int x, .int (0 : Int32), .int (0 : Int32)] [] (ev_hp I J R T) Q) : pw (N + 1) X 183 0 [.ref 35, .long u, ez_fill, .int x] [] (ev_hp I J R T) Q := by
  refine pw_seg (by decide) (fun _ _ => rj_r0) ?_
  exact H
set_option maxRecDepth 100000 in
theorem rj_r1 {a0 : Int64} {a1 : Int32} {a2 : Int32} {a3 : Int32} : ∀ G : ez_F, fx_up X 3 G 183 6 [.ref 35, .long a0, ez_fill, .int a1, .int a2, .int a3] [] (ev_hp I J R T) cz kz = ev_C G 179 [.ref 35] (ev_hp I J R T) fun r h1 c1 k1 => G 183 12 [.ref 35, .long a0, ez_fill, .int a1, .int a2, .int a3] (r.toList ++ [.int a3]) h1 (cz + c1) (kz + k1) := by
  intro G
  rfl
set_option maxRecDepth 100000 in
theorem rj_r2 {a0 : Int64} {a1 : Int32} {a2 : Int32} {a3 : Int32} {a4 : Int32} {a5 : Int32} : ∀ G : ez_F, fx_up X 1 G 183 12 [.ref 35, .long a0, ez_fill, .int a1, .int a2, .int a3] [.int a4, .int a5] (ev_hp I J R T) cz kz = bif decide (a4 ≤ a5) then G 183 95 [.ref 35, .long a0, ez_fill, .int a1, .int a2, .int a3] [] (ev_hp I J R T) cz kz else G 183 15 [.ref 35, .long a0, ez_fill, .int a1, .int a2, .int a3] [] (ev_hp I J R T) cz kz := by
  intro G
  rfl
set_option maxRecDepth 100000 in
theorem rj_r3 {a0 : Int64} {a1 : Int32} {a2 : Int32} {a3 : Int32} : ∀ G : ez_F, fx_up X 2 G 183 95 [.ref 35, .long a0, ez_fill, .int a1, .int a2, .int a3] [] (ev_hp I J R T) cz kz = some (some (.int a2), (ev_hp I J R T), cz, kz) := by
  intro G
  rfl
set_option maxRecDepth 100000 in
theorem rj_r4 {a0 : Int64} {a1 : Int32} {a2 : Int32} {a3 : Int32} : ∀ G : ez_F, fx_up X 3 G 183 15 [.ref 35, .long a0, ez_fill, .int a1, .int a2, .int a3] [] (ev_hp I J R T) cz kz = G 183 20 [.ref 35, .long a0, ez_fill, .int a1, .int a2, .int a3] [.int (I 35 1), .int a1] (ev_hp I J R T) cz kz := by
  intro G
  rfl
set_option maxRecDepth 100000 in
theorem rj_r5 {a0 : Int64} {a1 : Int32} {a2 : Int32} {a3 : Int32} {a4 : Int32} {a5 : Int32} : ∀ G : ez_F, fx_up X 1 G 183 20 [.ref 35, .long a0, ez_fill, .int a1, .int a2, .int a3] [.int a4, .int a5] (ev_hp I J R T) cz kz = bif decide (a4 ≤ a5) then G 183 42 [.ref 35, .long a0, ez_fill, .int a1, .int a2, .int a3] [] (ev_hp I J R T) cz kz else G 183 23 [.ref 35, .long a0, ez_fill, .int a1, .int a2, .int a3] [] (ev_hp I J R T) cz kz := by
  intro G
  rfl
set_option maxRecDepth 100000 in
theorem rj_r6 {a0 : Int64} {a1 : Int32} {a2 : Int32} {a3 : Int32} : ∀ G : ez_F, fx_up X 3 G 183 42 [.ref 35, .long a0, ez_fill, .int a1, .int a2, .int a3] [] (ev_hp I J R T) cz kz = G 183 48 [.ref 35, .long a0, ez_fill, .int a1, .int a2, .int a3] [.int (I 35 0), .int a3] (ev_hp I J R T) cz kz := by
  intro G
  rfl
set_option maxRecDepth 100000 in
theorem rj_r7 {a0 : Int64} {a1 : Int32} {a2 : Int32} {a3 : Int32} {a4 : Int32} : ∀ G : ez_F, fx_up X 3 G 183 49 [.ref 35, .long a0, ez_fill, .int a1, .int a2, .int a3] [.int a4] (ev_hp I J R T) cz kz = G 183 54 [.ref 35, .long a0, ez_fill, .int a1, .int a2, .int a3] [.int (I 35 1), .int a1, .int a4] (ev_hp I J R T) cz kz := by
  intro G
  rfl
set_option maxRecDepth 100000 in
theorem rj_r8 {a0 : Int64} {a1 : Int32} {a2 : Int32} {a3 : Int32} {a4 : Int32} {a5 : Int32} {a6 : Int32} : ∀ G : ez_F, fx_up X 2 G 183 54 [.ref 35, .long a0, ez_fill, .int a1, .int a2, .int a3] [.int a4, .int a5, .int a6] (ev_hp I J R T) cz kz = bif decide (¬ a6 = (a5 - a4)) then G 183 62 [.ref 35, .long a0, ez_fill, .int a1, .int a2, .int a3] [] (ev_hp I J R T) cz kz else G 183 58 [.ref 35, .long a0, ez_fill, .int a1, .int a2, .int a3] [] (ev_hp I J R T) cz kz := by
  intro G
  rfl
set_option maxRecDepth 100000 in
theorem rj_r9 {a0 : Int64} {a1 : Int32} {a2 : Int32} {a3 : Int32} : ∀ G : ez_F, fx_up X 5 G 183 62 [.ref 35, .long a0, ez_fill, .int a1, .int a2, .int a3] [] (ev_hp I J R T) cz kz = bif decide ((0 : Int32) = (0 : Int32)) then G 183 85 [.ref 35, .long a0, ez_fill, .int a1, .int a2, .int a3, .int (0 : Int32)] [.int a2] (ev_hp I J R T) cz kz else G 183 72 [.ref 35, .long a0, ez_fill, .int a1, .int a2, .int a3, .int (0 : Int32)] [.int a2] (ev_hp I J R T) cz kz := by
  intro G
  rfl
set_option maxRecDepth 100000 in
theorem rj_r10 {a0 : Int64} {a1 : Int32} {a2 : Int32} {a3 : Int32} {a4 : Int32} {a5 : Int32} : ∀ G : ez_F, fx_up X 5 G 183 85 [.ref 35, .long a0, ez_fill, .int a1, .int a2, .int a3, .int a4] [.int a5] (ev_hp I J R T) cz kz = G 183 6 [.ref 35, .long a0, ez_fill, .int a1, .int (a5 + (0 : Int32)), .int (a3 + (1 : Int32)), .int a4] [] (ev_hp I J R T) cz kz := by
  intro G
  rfl
set_option maxRecDepth 100000 in
theorem rj_r11 {a0 : Int64} {a1 : Int32} {a2 : Int32} {a3 : Int32} : ∀ G : ez_F, fx_up X 6 G 183 58 [.ref 35, .long a0, ez_fill, .int a1, .int a2, .int a3] [] (ev_hp I J R T) cz kz = bif decide ((1 : Int32) = (0 : Int32)) then G 183 85 [.ref 35, .long a0, ez_fill, .int a1, .int a2, .int a3, .int (1 : Int32)] [.int a2] (ev_hp I J R T) cz kz else G 183 72 [.ref 35, .long a0, ez_fill, .int a1, .int a2, .int a3, .int (1 : Int32)] [.int a2] (ev_hp I J R T) cz kz := by
  intro G
  rfl
set_option maxRecDepth 100000 in
theorem rj_r12 {a0 : Int64} {a1 : Int32} {a2 : Int32} {a3 : Int32} {a4 : Int32} {a5 : Int32} : ∀ G : ez_F, fx_up X 3 G 183 72 [.ref 35, .long a0, ez_fill, .int a1, .int a2, .int a3, .int a4] [.int a5] (ev_hp I J R T) cz kz = ev_C G 197 [.long a0, .int a3] (ev_hp I J R T) fun r h1 c1 k1 => G 183 78 [.ref 35, .long a0, ez_fill, .int a1, .int a2, .int a3, .int a4] (r.toList ++ [.int a5]) h1 (cz + c1) (kz + k1) := by
  intro G
  rfl
set_option maxRecDepth 100000 in
theorem rj_r13 {a0 : Int64} {a1 : Int32} {a2 : Int32} {a3 : Int32} {a4 : Int32} {a5 : Int32} {a6 : Int32} : ∀ G : ez_F, fx_up X 1 G 183 78 [.ref 35, .long a0, ez_fill, .int a1, .int a2, .int a3, .int a4] [.int a5, .int a6] (ev_hp I J R T) cz kz = bif decide (a5 = (0 : Int32)) then G 183 85 [.ref 35, .long a0, ez_fill, .int a1, .int a2, .int a3, .int a4] [.int a6] (ev_hp I J R T) cz kz else G 183 81 [.ref 35, .long a0, ez_fill, .int a1, .int a2, .int a3, .int a4] [.int a6] (ev_hp I J R T) cz kz := by
  intro G
  rfl
set_option maxRecDepth 100000 in
theorem rj_r14 {a0 : Int64} {a1 : Int32} {a2 : Int32} {a3 : Int32} {a4 : Int32} {a5 : Int32} : ∀ G : ez_F, fx_up X 6 G 183 81 [.ref 35, .long a0, ez_fill, .int a1, .int a2, .int a3, .int a4] [.int a5] (ev_hp I J R T) cz kz = G 183 6 [.ref 35, .long a0, ez_fill, .int a1, .int (a5 + (1 : Int32)), .int (a3 + (1 : Int32)), .int a4] [] (ev_hp I J R T) cz kz := by
  intro G
  rfl
set_option maxRecDepth 100000 in
theorem rj_r15 {a0 : Int64} {a1 : Int32} {a2 : Int32} {a3 : Int32} : ∀ G : ez_F, fx_up X 3 G 183 23 [.ref 35, .long a0, ez_fill, .int a1, .int a2, .int a3] [] (ev_hp I J R T) cz kz = G 183 29 [.ref 35, .long a0, ez_fill, .int a1, .int a2, .int a3] [.int (I 35 0), .int a3] (ev_hp I J R T) cz kz := by
  intro G
  rfl
set_option maxRecDepth 100000 in
theorem rj_r16 {a0 : Int64} {a1 : Int32} {a2 : Int32} {a3 : Int32} {a4 : Int32} : ∀ G : ez_F, fx_up X 2 G 183 30 [.ref 35, .long a0, ez_fill, .int a1, .int a2, .int a3] [.int a4] (ev_hp I J R T) cz kz = bif decide (¬ a4 = a1) then G 183 38 [.ref 35, .long a0, ez_fill, .int a1, .int a2, .int a3] [] (ev_hp I J R T) cz kz else G 183 34 [.ref 35, .long a0, ez_fill, .int a1, .int a2, .int a3] [] (ev_hp I J R T) cz kz := by
  intro G
  rfl
set_option maxRecDepth 100000 in
theorem rj_r17 {a0 : Int64} {a1 : Int32} {a2 : Int32} {a3 : Int32} : ∀ G : ez_F, fx_up X 6 G 183 38 [.ref 35, .long a0, ez_fill, .int a1, .int a2, .int a3] [] (ev_hp I J R T) cz kz = bif decide ((0 : Int32) = (0 : Int32)) then G 183 85 [.ref 35, .long a0, ez_fill, .int a1, .int a2, .int a3, .int (0 : Int32)] [.int a2] (ev_hp I J R T) cz kz else G 183 72 [.ref 35, .long a0, ez_fill, .int a1, .int a2, .int a3, .int (0 : Int32)] [.int a2] (ev_hp I J R T) cz kz := by
  intro G
  rfl
set_option maxRecDepth 100000 in
theorem rj_r18 {a0 : Int64} {a1 : Int32} {a2 : Int32} {a3 : Int32} : ∀ G : ez_F, fx_up X 6 G 183 34 [.ref 35, .long a0, ez_fill, .int a1, .int a2, .int a3] [] (ev_hp I J R T) cz kz = bif decide ((1 : Int32) = (0 : Int32)) then G 183 85 [.ref 35, .long a0, ez_fill, .int a1, .int a2, .int a3, .int (1 : Int32)] [.int a2] (ev_hp I J R T) cz kz else G 183 72 [.ref 35, .long a0, ez_fill, .int a1, .int a2, .int a3, .int (1 : Int32)] [.int a2] (ev_hp I J R T) cz kz := by
  intro G
  rfl
theorem rj_6 {x y z : Int32} {u : Int64}
    (H : ((((I 35 0) * (I 35 1)) ≤ z → Q (some (.int y)) (ev_hp I J R T)) ∧ (¬ (((I 35 0) * (I 35 1)) ≤ z) → (((I 35 1) ≤ x → (¬ (I 35 0) = 0 → ((¬ (z - z / (I 35 0) * (I 35 0)) = (x - (I 35 1)) → pw N X 183 6 [.ref 35, .long u, ez_fill, .int x, .int (y + (0 : Int32)), .int (z + (1 : Int32))] [] (ev_hp I J R T) Q) ∧ (¬ (¬ (z - z / (I 35 0) * (I 35 0)) = (x - (I 35 1))) → (((ev_has u z) = (0 : Int32) → pw N X 183 6 [.ref 35, .long u, ez_fill, .int x, .int (y + (0 : Int32)), .int (z + (1 : Int32))] [] (ev_hp I J R T) Q) ∧ (¬ ((ev_has u z) = (0 : Int32)) → pw N X 183 6 [.ref 35, .long u, ez_fill, .int x, .int (y + (1 : Int32)), .int (z + (1 : Int32))] [] (ev_hp I J R T) Q)))))) ∧ (¬ ((I 35 1) ≤ x) → (¬ (I 35 0) = 0 → ((¬ (z / (I 35 0)) = x → pw N X 183 6 [.ref 35, .long u, ez_fill, .int x, .int (y + (0 : Int32)), .int (z + (1 : Int32))] [] (ev_hp I J R T) Q) ∧ (¬ (¬ (z / (I 35 0)) = x) → (((ev_has u z) = (0 : Int32) → pw N X 183 6 [.ref 35, .long u, ez_fill, .int x, .int (y + (0 : Int32)), .int (z + (1 : Int32))] [] (ev_hp I J R T) Q) ∧ (¬ ((ev_has u z) = (0 : Int32)) → pw N X 183 6 [.ref 35, .long u, ez_fill, .int x, .int (y + (1 : Int32)), .int (z + (1 : Int32))] [] (ev_hp I J R T) Q)))))))))) : pw (N + 1) X 183 6 [.ref 35, .long u, ez_fill, .int x, .int y, .int z] [] (ev_hp I J R T) Q := by
  refine pw_callp (by decide) (fun _ _ => rj_r1) (pe_mcount) ?_
  refine pw_p (pw_if (by decide) (fun _ _ => rj_r2) (fun w1 => ?_) (fun w1 => ?_))
  · have h1 := H.1 w1
    exact pw_p (pw_ret (by decide) (fun _ _ => rj_r3) h1)
  · have h1 := H.2 w1
    refine pw_p (pw_seg (by decide) (fun _ _ => rj_r4) ?_)
    refine pw_p (pw_if (by decide) (fun _ _ => rj_r5) (fun w2 => ?_) (fun w2 => ?_))
    · have h2 := h1.1 w2
      refine pw_p (pw_seg (by decide) (fun _ _ => rj_r6) ?_)
      refine pw_p (pw_irem (by rfl) (fun w3 => ?_))
      have h3 := h2 w3
      refine pw_p (pw_seg (by decide) (fun _ _ => rj_r7) ?_)
      refine pw_p (pw_if (by decide) (fun _ _ => rj_r8) (fun w3 => ?_) (fun w3 => ?_))
      · have h3 := h3.1 w3
        refine pw_p (pw_if (by decide) (fun _ _ => rj_r9) (fun w4 => ?_) (fun w4 => ?_))
        rotate_left
        · exact absurd (by decide) w4
        refine pw_p (pw_seg (by decide) (fun _ _ => rj_r10) ?_)
        refine pw_cutl (by rfl) ?_
        exact h3
      · have h3 := h3.2 w3
        refine pw_p (pw_if (by decide) (fun _ _ => rj_r11) (fun w4 => ?_) (fun w4 => ?_))
        · exact absurd w4 (by decide)
        refine pw_p (pw_callp (by decide) (fun _ _ => rj_r12) (pe_is (em_has _ _ _ _)) ?_)
        refine pw_p (pw_if (by decide) (fun _ _ => rj_r13) (fun w4 => ?_) (fun w4 => ?_))
        · have h4 := h3.1 w4
          refine pw_p (pw_seg (by decide) (fun _ _ => rj_r10) ?_)
          refine pw_cutl (by rfl) ?_
          exact h4
        · have h4 := h3.2 w4
          refine pw_p (pw_seg (by decide) (fun _ _ => rj_r14) ?_)
          refine pw_cutl (by rfl) ?_
          exact h4
    · have h2 := h1.2 w2
      refine pw_p (pw_seg (by decide) (fun _ _ => rj_r15) ?_)
      refine pw_p (pw_idiv (by rfl) (fun w3 => ?_))
      have h3 := h2 w3
      refine pw_p (pw_if (by decide) (fun _ _ => rj_r16) (fun w3 => ?_) (fun w3 => ?_))
      · have h3 := h3.1 w3
        refine pw_p (pw_if (by decide) (fun _ _ => rj_r17) (fun w4 => ?_) (fun w4 => ?_))
        rotate_left
        · exact absurd (by decide) w4
        refine pw_p (pw_seg (by decide) (fun _ _ => rj_r10) ?_)
        refine pw_cutl (by rfl) ?_
        exact h3
      · have h3 := h3.2 w3
        refine pw_p (pw_if (by decide) (fun _ _ => rj_r18) (fun w4 => ?_) (fun w4 => ?_))
        · exact absurd w4 (by decide)
        refine pw_p (pw_callp (by decide) (fun _ _ => rj_r12) (pe_is (em_has _ _ _ _)) ?_)
        refine pw_p (pw_if (by decide) (fun _ _ => rj_r13) (fun w4 => ?_) (fun w4 => ?_))
        · have h4 := h3.1 w4
          refine pw_p (pw_seg (by decide) (fun _ _ => rj_r10) ?_)
          refine pw_cutl (by rfl) ?_
          exact h4
        · have h4 := h3.2 w4
          refine pw_p (pw_seg (by decide) (fun _ _ => rj_r14) ?_)
          refine pw_cutl (by rfl) ?_
          exact h4
end
section
variable {N : Nat} {X : ez_X} {I : Nat → Nat → Int32} {J : Nat → Nat → Int64} {R : Nat → Nat} {T : List ez_C} {Q : pw_Q} {cz kz : Nat}
set_option maxRecDepth 100000 in
theorem rk_r0 {a0 : Int64} {a1 : Int32} : ∀ G : ez_F, fx_up X 5 G 73 0 [.ref 32, .long a0, ez_fill, .int a1] [] (ev_hp I J R T) cz kz = ev_C G 150 [.ref 1, .int a1] (ev_hp I J R T) fun r h1 c1 k1 => G 73 9 [.ref 32, .long a0, ez_fill, .int a1] (r.toList ++ [.long a0]) h1 (cz + c1) (kz + k1) := by
  intro G
  rfl
theorem rk_0 {x : Int32} {u : Int64}
    (H : (∃ Q1 : pw_Q, pe N X 150 [.ref 1, .int x] (ev_hp I J R T) Q1 ∧ ∀ (r : Option Value) (h1 : ez_H), Q1 r h1 → pw N X 73 9 [.ref 32, .long u, ez_fill, .int x] (r.toList ++ [.long u]) h1 Q)) : pw (N + 1) X 73 0 [.ref 32, .long u, ez_fill, .int x] [] (ev_hp I J R T) Q := by
  obtain ⟨Q1, hc, hk⟩ := H
  exact pw_call (by decide) (fun _ _ => rk_r0) hc hk
set_option maxRecDepth 100000 in
theorem rk_r1 {a0 : Int64} {a1 : Int32} {a2 : Int64} {a3 : Int64} : ∀ G : ez_F, fx_up X 2 G 73 9 [.ref 32, .long a0, ez_fill, .int a1] [.long a2, .long a3] (ev_hp I J R T) cz kz = ev_C G 237 [.long (a3 &&& a2)] (ev_hp I J R T) fun r h1 c1 k1 => G 73 13 [.ref 32, .long a0, ez_fill, .int a1] (r.toList ++ []) h1 (cz + c1) (kz + k1) := by
  intro G
  rfl
set_option maxRecDepth 100000 in
theorem rk_r2 {a0 : Int64} {a1 : Int32} {a2 : Int32} : ∀ G : ez_F, fx_up X 1 G 73 13 [.ref 32, .long a0, ez_fill, .int a1] [.int a2] (ev_hp I J R T) cz kz = some (some (.int a2), (ev_hp I J R T), cz, kz) := by
  intro G
  rfl
theorem rk_9 {x : Int32} {u v : Int64}
    (H : Q (some (.int (ev_bcJ (u &&& v)))) (ev_hp I J R T)) : pw (N + 1) X 73 9 [.ref 32, .long u, ez_fill, .int x] [.long v, .long u] (ev_hp I J R T) Q := by
  refine pw_callp (by decide) (fun _ _ => rk_r1) (pe_is (ec_bcJ _ _ _)) ?_
  exact pw_p (pw_ret (by decide) (fun _ _ => rk_r2) H)
end
noncomputable def cq (p : Nat → Bool) : Nat → Nat
  | 0 => 0
  | k + 1 => cq p k + (bif p k then 1 else 0)
theorem cq_c {p q : Nat → Bool} : ∀ k, (∀ i, i < k → p i = q i) → cq p k = cq q k := by
  intro k
  induction k with
  | zero => intro _; rfl
  | succ k ih =>
    intro h
    unfold cq
    rw [ih fun i hi => h i (by omega), h k (Nat.lt_succ_self k)]
theorem cq_pad {p : Nat → Bool} {k : Nat} (h : ∀ i, k ≤ i → p i = false) : ∀ d, cq p (k + d) = cq p k := by
  intro d
  induction d with
  | zero => rfl
  | succ d ih =>
    show cq p (k + d) + (bif p (k + d) then 1 else 0) = _
    rw [h (k + d) (by omega), ih]
    rfl
theorem cq_le (p : Nat → Bool) : ∀ k, cq p k ≤ k := by
  intro k
  induction k with
  | zero => exact Nat.le_refl 0
  | succ k ih =>
    unfold cq
    cases p k
    · simp only [cond_false]; omega
    · simp only [cond_true]; omega
theorem pc_cq (n : Nat) : ∀ k, pc k n = cq (fun i => n.testBit i) k := by
  intro k
  induction k with
  | zero => rfl
  | succ k ih => rw [pc_top, ih]; rfl
theorem pcJ_cq (z : Int64) : pcJ z = cq (kb z) 64 := pc_cq z.toBitVec.toNat 64
noncomputable def rmp (w h r i : Nat) : Bool := Nat.blt i (w * h) && (bif Nat.blt r h then Nat.beq (i / w) r else Nat.beq (i % w) (r - h))
noncomputable def rimF (W H : Int32) (F : Int64) (x : Int32) : Int64 := if H ≤ x then F <<< ((x - H).toInt64 &&& (63 : Int64)) else (((1 : Int64) <<< (W.toInt64 &&& (63 : Int64))) - (1 : Int64)) <<< ((W * x).toInt64 &&& (63 : Int64))
set_option maxRecDepth 100000 in
theorem rim_tab : ((List.range 5).all fun w => (List.range 5).all fun h => (List.range (w + h + 4)).all fun r => (List.range 64).all fun i => (kb (rimF (Int32.ofNat (w + 2)) (Int32.ofNat (h + 2)) (fc_F (Int32.ofNat (w + 2)) (Int32.ofNat (h + 2))) (Int32.ofNat r)) i) == rmp (w + 2) (h + 2) r i) = true := by decide +kernel
theorem rim_kb {w h r i : Nat} (hw : 2 ≤ w ∧ w ≤ 6) (hh : 2 ≤ h ∧ h ≤ 6) (hr : r < w + h) (hi : i < 64) : kb (rimF (Int32.ofNat w) (Int32.ofNat h) (fc_F (Int32.ofNat w) (Int32.ofNat h)) (Int32.ofNat r)) i = rmp w h r i := by
  have h1 := List.all_eq_true.mp rim_tab (w - 2) (List.mem_range.mpr (by omega))
  have h2 := List.all_eq_true.mp h1 (h - 2) (List.mem_range.mpr (by omega))
  have h3 := List.all_eq_true.mp h2 r (List.mem_range.mpr (by omega))
  have h4 := List.all_eq_true.mp h3 i (List.mem_range.mpr hi)
  rw [show w - 2 + 2 = w by omega, show h - 2 + 2 = h by omega] at h4
  exact eq_of_beq h4
theorem io_div {a b : Nat} (ha : a < 2147483648) (hb : b < 2147483648) : Int32.ofNat a / Int32.ofNat b = Int32.ofNat (a / b) := by
  have h : a / b ≤ a := Nat.div_le_self _ _
  apply Int32.toInt_inj.mp
  rw [Int32.toInt_div, io_ti ha, io_ti hb, io_ti (by omega), show ((a : Int).tdiv (b : Int)) = ((a / b : Nat) : Int) from rfl]
  generalize a / b = q at h ⊢
  rw [cx_bm32]
  simp only [cx_i32]
  omega
section
variable {N : Nat} {X : ez_X} {I : Nat → Nat → Int32} {J : Nat → Nat → Int64} {R : Nat → Nat} {T : List ez_C} {x : Int32} {u : Int64}
noncomputable def rq (w h r : Nat) (u : Int64) : Nat := cq (fun i => kb u i && rmp w h r i) 64
theorem pe_rimCells : pe N X 150 [.ref 1, .int x] (ev_hp I J R T) (fun r h => r = some (.long (rimF (I 1 3) (I 1 4) (J 1 8) x)) ∧ h = ev_hp I J R T) := by
  refine pe_of (pw_p (ri_c0 ⟨fun h => ⟨?_, rfl⟩, fun h => ⟨?_, rfl⟩⟩))
  · unfold rimF
    rw [if_pos h]
  · unfold rimF
    rw [if_neg h]
theorem pe_countIn {w h r : Nat} (e3 : I 1 3 = Int32.ofNat w) (e4 : I 1 4 = Int32.ofNat h) (e8 : J 1 8 = fc_F (I 1 3) (I 1 4)) (hw : 2 ≤ w ∧ w ≤ 6) (hh : 2 ≤ h ∧ h ≤ 6) (hr : r < w + h) (hx : x = Int32.ofNat r) : pe N X 73 [.ref 32, .long u, .int x] (ev_hp I J R T) (fun q hp => q = some (.int (Int32.ofNat (rq w h r u))) ∧ hp = ev_hp I J R T) := by
  refine pe_of (pw_p (rk_0 ⟨_, pe_rimCells, ?_⟩))
  rintro q hp ⟨rfl, rfl⟩
  refine pw_p (rk_9 ⟨?_, rfl⟩)
  rw [pcJ_bc, pcJ_cq, e8, e3, e4, hx]
  congr 3
  unfold rq
  exact cq_c 64 fun i hi => by rw [kb_and, rim_kb hw hh hr hi]
theorem pe_countOf {w h r : Nat} (e0 : I 35 0 = Int32.ofNat w) (e1 : I 35 1 = Int32.ofNat h) (hw : 2 ≤ w ∧ w ≤ 6) (hh : 2 ≤ h ∧ h ≤ 6) (hr : r < w + h) (hx : x = Int32.ofNat r) : pe N X 183 [.ref 35, .long u, .int x] (ev_hp I J R T) (fun q hp => q = some (.int (Int32.ofNat (rq w h r u))) ∧ hp = ev_hp I J R T) := by
  subst hx
  have hwh : w * h ≤ 36 := Nat.le_trans (Nat.mul_le_mul hw.2 hh.2) (by decide)
  have hend : rq w h r u = cq (fun i => kb u i && rmp w h r i) (w * h) := by
    unfold rq
    rw [show 64 = w * h + (64 - w * h) by omega]
    refine cq_pad (fun i hi => ?_) _
    unfold rmp
    rw [show Nat.blt i (w * h) = false from by
      cases hz : Nat.blt i (w * h) with
      | false => rfl
      | true => exact absurd (Nat.le_of_ble_eq_true hz) (by omega), Bool.false_and, Bool.and_false]
  have loop : ∀ (d i : Nat), i + d = w * h → ∀ N, pw N X 183 6 [.ref 35, .long u, ez_fill, .int (Int32.ofNat r), .int (Int32.ofNat (cq (fun i => kb u i && rmp w h r i) i)), .int (Int32.ofNat i)] [] (ev_hp I J R T) (fun q hp => q = some (.int (Int32.ofNat (rq w h r u))) ∧ hp = ev_hp I J R T) := by
    intro d
    induction d with
    | zero =>
      intro i hi N
      obtain rfl : i = w * h := by omega
      refine pw_p (rj_6 ⟨fun _ => ⟨by rw [hend], rfl⟩, fun g => ?_⟩)
      rw [e0, e1, io_mul] at g
      exact absurd (Int32.le_refl _) g
    | succ d ih =>
      intro i hi N
      have hb : Nat.blt i (w * h) = true := Nat.ble_eq_true_of_le (by omega)
      have hq : cq (fun i => kb u i && rmp w h r i) (i + 1) = cq (fun i => kb u i && rmp w h r i) i + (bif kb u i && rmp w h r i then 1 else 0) := rfl
      have hc := cq_le (fun i => kb u i && rmp w h r i) i
      have hdm := Nat.div_add_mod i w
      have hdl : i / w ≤ i := Nat.div_le_self _ _
      have hml : i % w < w := Nat.mod_lt _ (by omega)
      have next0 : rmp w h r i = false ∨ kb u i = false → pw N X 183 6 [.ref 35, .long u, ez_fill, .int (Int32.ofNat r), .int (Int32.ofNat (cq (fun i => kb u i && rmp w h r i) i) + (0 : Int32)), .int (Int32.ofNat i + (1 : Int32))] [] (ev_hp I J R T) (fun q hp => q = some (.int (Int32.ofNat (rq w h r u))) ∧ hp = ev_hp I J R T) := by
        intro g
        have hz : (kb u i && rmp w h r i) = false := by
          rcases g with g | g
          · rw [g, Bool.and_false]
          · rw [g, Bool.false_and]
        rw [hz] at hq
        have h5 := ih (i + 1) (by omega) N
        rw [hq] at h5
        rw [io_1, show (0 : Int32) = Int32.ofNat 0 from rfl, io_add]
        exact h5
      have next1 : rmp w h r i = true → kb u i = true → pw N X 183 6 [.ref 35, .long u, ez_fill, .int (Int32.ofNat r), .int (Int32.ofNat (cq (fun i => kb u i && rmp w h r i) i) + (1 : Int32)), .int (Int32.ofNat i + (1 : Int32))] [] (ev_hp I J R T) (fun q hp => q = some (.int (Int32.ofNat (rq w h r u))) ∧ hp = ev_hp I J R T) := by
        intro g1 g2
        rw [g1, g2] at hq
        have h5 := ih (i + 1) (by omega) N
        rw [hq] at h5
        rw [io_1, io_1]
        exact h5
      have hr1 : h ≤ r → rmp w h r i = Nat.beq (i % w) (r - h) := by
        intro g
        unfold rmp
        rw [hb, show Nat.blt r h = false from by
          cases hz : Nat.blt r h with
          | false => rfl
          | true => exact absurd (Nat.le_of_ble_eq_true hz) (by omega)]
        rfl
      have hr2 : ¬ h ≤ r → rmp w h r i = Nat.beq (i / w) r := by
        intro g
        unfold rmp
        rw [hb, show Nat.blt r h = true from Nat.ble_eq_true_of_le (by omega)]
        rfl
      have beqt : ∀ a b : Nat, a = b → Nat.beq a b = true := fun a b e => by rw [e]; exact Nat.beq_refl b
      have beqf : ∀ a b : Nat, ¬ a = b → Nat.beq a b = false := fun a b e => cx_beqf e
      have kbt : ¬ ev_has u (Int32.ofNat i) = 0 → kb u i = true := fun g => by
        cases hz : kb u i with
        | true => rfl
        | false => exact absurd ((has_kb u (by omega)).mpr hz) g
      have hmod : Int32.ofNat i - Int32.ofNat i / Int32.ofNat w * Int32.ofNat w = Int32.ofNat (i % w) := by
        rw [io_div (by omega) (by omega), io_mul, io_sub (by rw [Nat.mul_comm]; omega)]
        congr 1
        rw [Nat.mul_comm]
        omega
      refine pw_p (rj_6 ?_)
      rw [e0, e1, hmod, io_div (by omega) (by omega)]
      refine ⟨fun g => ?_, fun _ => ⟨fun g _ => ⟨fun g2 => ?_, fun g2 => ⟨fun g3 => ?_, fun g3 => ?_⟩⟩, fun g _ => ⟨fun g2 => ?_, fun g2 => ⟨fun g3 => ?_, fun g3 => ?_⟩⟩⟩⟩
      · rw [io_mul, io_le (by omega) (by omega)] at g
        omega
      · rw [io_le (by omega) (by omega)] at g
        rw [io_sub g, io_eq (by omega) (by omega)] at g2
        exact next0 (Or.inl ((hr1 g).trans (beqf _ _ g2)))
      · exact next0 (Or.inr ((has_kb u (by omega)).mp g3))
      · rw [io_le (by omega) (by omega)] at g
        rw [io_sub g, io_eq (by omega) (by omega)] at g2
        exact next1 ((hr1 g).trans (beqt _ _ (Classical.not_not.mp g2))) (kbt g3)
      · rw [io_le (by omega) (by omega)] at g
        rw [io_eq (by omega) (by omega)] at g2
        exact next0 (Or.inl ((hr2 g).trans (beqf _ _ g2)))
      · exact next0 (Or.inr ((has_kb u (by omega)).mp g3))
      · rw [io_le (by omega) (by omega)] at g
        rw [io_eq (by omega) (by omega)] at g2
        exact next1 ((hr2 g).trans (beqt _ _ (Classical.not_not.mp g2))) (kbt g3)
  exact pe_of (pw_p (rj_0 (loop (w * h) 0 (by omega) _)))
end
end
section
/-! The answers of rim, both sides. -/
section
variable {N : Nat} {X : ez_X} {I : Nat → Nat → Int32} {J : Nat → Nat → Int64} {R : Nat → Nat} {T : List ez_C} {Q : pw_Q} {cz kz : Nat}
set_option maxRecDepth 100000 in
theorem rm_r0 {a0 : Int32} {a1 : Int32} {a2 : Int32} : ∀ G : ez_F, fx_up X 1 G 40 15 [.ref 0, .int a0, .int a1] [.int a2] (ev_hp I J R T) cz kz = bif decide (a2 = (0 : Int32)) then G 40 21 [.ref 0, .int a0, .int a1] [] (ev_hp I J R T) cz kz else G 40 18 [.ref 0, .int a0, .int a1] [] (ev_hp I J R T) cz kz := by
  intro G
  rfl
set_option maxRecDepth 100000 in
theorem rm_r1 {a0 : Int32} {a1 : Int32} : ∀ G : ez_F, fx_up X 3 G 40 21 [.ref 0, .int a0, .int a1] [] (ev_hp I J R T) cz kz = ev_C G 23 [.ref 0, .int a0] (ev_hp I J R T) fun r h1 c1 k1 => G 40 26 [.ref 0, .int a0, .int a1] (r.toList ++ []) h1 (cz + c1) (kz + k1) := by
  intro G
  rfl
set_option maxRecDepth 100000 in
theorem rm_r2 {a0 : Int32} {a1 : Int32} {a2 : Int32} : ∀ G : ez_F, fx_up X 1 G 40 26 [.ref 0, .int a0, .int a1] [.int a2] (ev_hp I J R T) cz kz = bif decide (a2 = (0 : Int32)) then G 40 48 [.ref 0, .int a0, .int a1] [] (ev_hp I J R T) cz kz else G 40 29 [.ref 0, .int a0, .int a1] [] (ev_hp I J R T) cz kz := by
  intro G
  rfl
set_option maxRecDepth 100000 in
theorem rm_r3 {a0 : Int32} {a1 : Int32} : ∀ G : ez_F, fx_up X 2 G 40 48 [.ref 0, .int a0, .int a1] [] (ev_hp I J R T) cz kz = some (some (.int (-2 : Int32)), (ev_hp I J R T), cz, kz) := by
  intro G
  rfl
set_option maxRecDepth 100000 in
theorem rm_r4 {a0 : Int32} {a1 : Int32} : ∀ G : ez_F, fx_up X 6 G 40 29 [.ref 0, .int a0, .int a1] [] (ev_hp I J R T) cz kz = ev_C G 137 [.ref 6, .int a0] (ev_hp I J R T) fun r h1 c1 k1 => G 40 41 [.ref 0, .int a0, .int a1] (r.toList ++ [.ref 32]) h1 (cz + c1) (kz + k1) := by
  intro G
  rfl
set_option maxRecDepth 100000 in
theorem rm_r5 {a0 : Int32} {a1 : Int32} : ∀ G : ez_F, fx_up X 2 G 40 18 [.ref 0, .int a0, .int a1] [] (ev_hp I J R T) cz kz = some (some (.int (-6 : Int32)), (ev_hp I J R T), cz, kz) := by
  intro G
  rfl
theorem rm_15 {v x y : Int32}
    (H : ((v = (0 : Int32) → (((ev_wi x (0 : Int32) ((I 6 3) - (1 : Int32))) = (0 : Int32) → Q (some (.int (-2 : Int32))) (ev_hp I J R T)) ∧ (¬ ((ev_wi x (0 : Int32) ((I 6 3) - (1 : Int32))) = (0 : Int32)) → (∃ Q1 : pw_Q, pe N X 137 [.ref 6, .int x] (ev_hp I J R T) Q1 ∧ ∀ (r : Option Value) (h1 : ez_H), Q1 r h1 → pw N X 40 41 [.ref 0, .int x, .int y] (r.toList ++ [.ref 32]) h1 Q)))) ∧ (¬ (v = (0 : Int32)) → Q (some (.int (-6 : Int32))) (ev_hp I J R T)))) : pw (N + 1) X 40 15 [.ref 0, .int x, .int y] [.int v] (ev_hp I J R T) Q := by
  refine pw_if (by decide) (fun _ _ => rm_r0) (fun w1 => ?_) (fun w1 => ?_)
  · have h1 := H.1 w1
    refine pw_p (pw_callp (by decide) (fun _ _ => rm_r1) (pe_is (eg_isLaying _ _ _ _ _ _)) ?_)
    refine pw_p (pw_if (by decide) (fun _ _ => rm_r2) (fun w2 => ?_) (fun w2 => ?_))
    · have h2 := h1.1 w2
      exact pw_p (pw_ret (by decide) (fun _ _ => rm_r3) h2)
    · have h2 := h1.2 w2
      obtain ⟨Q1, hc, hk⟩ := h2
      exact pw_p (pw_call (by decide) (fun _ _ => rm_r4) hc hk)
  · have h1 := H.2 w1
    exact pw_p (pw_ret (by decide) (fun _ _ => rm_r5) h1)
set_option maxRecDepth 100000 in
theorem rm_r6 {a0 : Int32} {a1 : Int32} {a2 : Int64} : ∀ G : ez_F, fx_up X 2 G 40 41 [.ref 0, .int a0, .int a1] [.long a2, .ref 32] (ev_hp I J R T) cz kz = ev_C G 73 [.ref 32, .long a2, .int a1] (ev_hp I J R T) fun r h1 c1 k1 => G 40 45 [.ref 0, .int a0, .int a1] (r.toList ++ []) h1 (cz + c1) (kz + k1) := by
  intro G
  rfl
theorem rm_41 {x y : Int32} {u : Int64}
    (H : (∃ Q1 : pw_Q, pe N X 73 [.ref 32, .long u, .int y] (ev_hp I J R T) Q1 ∧ ∀ (r : Option Value) (h1 : ez_H), Q1 r h1 → pw N X 40 45 [.ref 0, .int x, .int y] (r.toList ++ []) h1 Q)) : pw (N + 1) X 40 41 [.ref 0, .int x, .int y] [.long u, .ref 32] (ev_hp I J R T) Q := by
  obtain ⟨Q1, hc, hk⟩ := H
  exact pw_call (by decide) (fun _ _ => rm_r6) hc hk
set_option maxRecDepth 100000 in
theorem rm_r7 {a0 : Int32} {a1 : Int32} {a2 : Int32} : ∀ G : ez_F, fx_up X 2 G 40 45 [.ref 0, .int a0, .int a1] [.int a2] (ev_hp I J R T) cz kz = some (some (.int a2), (ev_hp I J R T), cz, kz) := by
  intro G
  rfl
theorem rm_45 {v x y : Int32}
    (H : Q (some (.int v)) (ev_hp I J R T)) : pw (N + 1) X 40 45 [.ref 0, .int x, .int y] [.int v] (ev_hp I J R T) Q := by
  exact pw_ret (by decide) (fun _ _ => rm_r7) H
set_option maxRecDepth 100000 in
theorem rm_r8 {a0 : Int32} {a1 : Int32} : ∀ G : ez_F, fx_up X 3 G 217 0 [.ref 35, .int a0, .int a1] [] (ev_hp I J R T) cz kz = ev_C G 203 [.ref 35, .int a1] (ev_hp I J R T) fun r h1 c1 k1 => G 217 5 [.ref 35, .int a0, .int a1] (r.toList ++ []) h1 (cz + c1) (kz + k1) := by
  intro G
  rfl
set_option maxRecDepth 100000 in
theorem rm_r9 {a0 : Int32} {a1 : Int32} {a2 : Int32} : ∀ G : ez_F, fx_up X 1 G 217 5 [.ref 35, .int a0, .int a1] [.int a2] (ev_hp I J R T) cz kz = bif decide (¬ a2 = (0 : Int32)) then G 217 11 [.ref 35, .int a0, .int a1] [] (ev_hp I J R T) cz kz else G 217 8 [.ref 35, .int a0, .int a1] [] (ev_hp I J R T) cz kz := by
  intro G
  rfl
set_option maxRecDepth 100000 in
theorem rm_r10 {a0 : Int32} {a1 : Int32} : ∀ G : ez_F, fx_up X 2 G 217 11 [.ref 35, .int a0, .int a1] [] (ev_hp I J R T) cz kz = ev_C G 167 [.ref 35] (ev_hp I J R T) fun r h1 c1 k1 => G 217 15 [.ref 35, .int a0, .int a1] (r.toList ++ []) h1 (cz + c1) (kz + k1) := by
  intro G
  rfl
set_option maxRecDepth 100000 in
theorem rm_r11 {a0 : Int32} {a1 : Int32} : ∀ G : ez_F, fx_up X 2 G 217 8 [.ref 35, .int a0, .int a1] [] (ev_hp I J R T) cz kz = some (some (.int (-2 : Int32)), (ev_hp I J R T), cz, kz) := by
  intro G
  rfl
theorem rn_0 {x y : Int32}
    (H : ((¬ (ev_il (y.toInt64) 0 (((((I 35 0)) + ((I 35 1))) - (1 : Int32)).toInt64)) = (0 : Int32) → (∃ Q1 : pw_Q, pe N X 167 [.ref 35] (ev_hp I J R T) Q1 ∧ ∀ (r : Option Value) (h1 : ez_H), Q1 r h1 → pw N X 217 15 [.ref 35, .int x, .int y] (r.toList ++ []) h1 Q)) ∧ (¬ (¬ (ev_il (y.toInt64) 0 (((((I 35 0)) + ((I 35 1))) - (1 : Int32)).toInt64)) = (0 : Int32)) → Q (some (.int (-2 : Int32))) (ev_hp I J R T)))) : pw (N + 1) X 217 0 [.ref 35, .int x, .int y] [] (ev_hp I J R T) Q := by
  refine pw_callp (by decide) (fun _ _ => rm_r8) (pe_is (em_isRim _ _ _ _ _ _)) ?_
  refine pw_p (pw_if (by decide) (fun _ _ => rm_r9) (fun w1 => ?_) (fun w1 => ?_))
  · have h1 := H.1 w1
    obtain ⟨Q1, hc, hk⟩ := h1
    exact pw_p (pw_call (by decide) (fun _ _ => rm_r10) hc hk)
  · have h1 := H.2 w1
    exact pw_p (pw_ret (by decide) (fun _ _ => rm_r11) h1)
set_option maxRecDepth 100000 in
theorem rm_r12 {a0 : Int32} {a1 : Int32} {a2 : Int32} : ∀ G : ez_F, fx_up X 1 G 217 15 [.ref 35, .int a0, .int a1] [.int a2] (ev_hp I J R T) cz kz = bif decide (¬ a2 = (0 : Int32)) then G 217 21 [.ref 35, .int a0, .int a1] [] (ev_hp I J R T) cz kz else G 217 18 [.ref 35, .int a0, .int a1] [] (ev_hp I J R T) cz kz := by
  intro G
  rfl
set_option maxRecDepth 100000 in
theorem rm_r13 {a0 : Int32} {a1 : Int32} : ∀ G : ez_F, fx_up X 3 G 217 21 [.ref 35, .int a0, .int a1] [] (ev_hp I J R T) cz kz = ev_C G 202 [.ref 35, .int a0] (ev_hp I J R T) fun r h1 c1 k1 => G 217 26 [.ref 35, .int a0, .int a1] (r.toList ++ []) h1 (cz + c1) (kz + k1) := by
  intro G
  rfl
set_option maxRecDepth 100000 in
theorem rm_r14 {a0 : Int32} {a1 : Int32} {a2 : Int32} : ∀ G : ez_F, fx_up X 1 G 217 26 [.ref 35, .int a0, .int a1] [.int a2] (ev_hp I J R T) cz kz = bif decide (a2 = (0 : Int32)) then G 217 42 [.ref 35, .int a0, .int a1] [] (ev_hp I J R T) cz kz else G 217 29 [.ref 35, .int a0, .int a1] [] (ev_hp I J R T) cz kz := by
  intro G
  rfl
set_option maxRecDepth 100000 in
theorem rm_r15 {a0 : Int32} {a1 : Int32} : ∀ G : ez_F, fx_up X 2 G 217 42 [.ref 35, .int a0, .int a1] [] (ev_hp I J R T) cz kz = some (some (.int (-2 : Int32)), (ev_hp I J R T), cz, kz) := by
  intro G
  rfl
set_option maxRecDepth 100000 in
theorem rm_r16 {a0 : Int32} {a1 : Int32} : ∀ G : ez_F, fx_up X 4 G 217 29 [.ref 35, .int a0, .int a1] [] (ev_hp I J R T) cz kz = ev_C G 180 [.ref 35, .int a0] (ev_hp I J R T) fun r h1 c1 k1 => G 217 35 [.ref 35, .int a0, .int a1] (r.toList ++ [.ref 35]) h1 (cz + c1) (kz + k1) := by
  intro G
  rfl
set_option maxRecDepth 100000 in
theorem rm_r17 {a0 : Int32} {a1 : Int32} : ∀ G : ez_F, fx_up X 2 G 217 18 [.ref 35, .int a0, .int a1] [] (ev_hp I J R T) cz kz = some (some (.int (-6 : Int32)), (ev_hp I J R T), cz, kz) := by
  intro G
  rfl
theorem rn_15 {v x y : Int32}
    (H : ((¬ v = (0 : Int32) → (((ev_il (x.toInt64) 0 ((((I 35 14)) - (1 : Int32)).toInt64)) = (0 : Int32) → Q (some (.int (-2 : Int32))) (ev_hp I J R T)) ∧ (¬ ((ev_il (x.toInt64) 0 ((((I 35 14)) - (1 : Int32)).toInt64)) = (0 : Int32)) → (∃ Q1 : pw_Q, pe N X 180 [.ref 35, .int x] (ev_hp I J R T) Q1 ∧ ∀ (r : Option Value) (h1 : ez_H), Q1 r h1 → pw N X 217 35 [.ref 35, .int x, .int y] (r.toList ++ [.ref 35]) h1 Q)))) ∧ (¬ (¬ v = (0 : Int32)) → Q (some (.int (-6 : Int32))) (ev_hp I J R T)))) : pw (N + 1) X 217 15 [.ref 35, .int x, .int y] [.int v] (ev_hp I J R T) Q := by
  refine pw_if (by decide) (fun _ _ => rm_r12) (fun w1 => ?_) (fun w1 => ?_)
  · have h1 := H.1 w1
    refine pw_p (pw_callp (by decide) (fun _ _ => rm_r13) (pe_is (em_isLaying _ _ _ _ _ _)) ?_)
    refine pw_p (pw_if (by decide) (fun _ _ => rm_r14) (fun w2 => ?_) (fun w2 => ?_))
    · have h2 := h1.1 w2
      exact pw_p (pw_ret (by decide) (fun _ _ => rm_r15) h2)
    · have h2 := h1.2 w2
      obtain ⟨Q1, hc, hk⟩ := h2
      exact pw_p (pw_call (by decide) (fun _ _ => rm_r16) hc hk)
  · have h1 := H.2 w1
    exact pw_p (pw_ret (by decide) (fun _ _ => rm_r17) h1)
set_option maxRecDepth 100000 in
theorem rm_r18 {a0 : Int32} {a1 : Int32} {a2 : Int64} : ∀ G : ez_F, fx_up X 2 G 217 35 [.ref 35, .int a0, .int a1] [.long a2, .ref 35] (ev_hp I J R T) cz kz = ev_C G 183 [.ref 35, .long a2, .int a1] (ev_hp I J R T) fun r h1 c1 k1 => G 217 39 [.ref 35, .int a0, .int a1] (r.toList ++ []) h1 (cz + c1) (kz + k1) := by
  intro G
  rfl
theorem rn_35 {x y : Int32} {u : Int64}
    (H : (∃ Q1 : pw_Q, pe N X 183 [.ref 35, .long u, .int y] (ev_hp I J R T) Q1 ∧ ∀ (r : Option Value) (h1 : ez_H), Q1 r h1 → pw N X 217 39 [.ref 35, .int x, .int y] (r.toList ++ []) h1 Q)) : pw (N + 1) X 217 35 [.ref 35, .int x, .int y] [.long u, .ref 35] (ev_hp I J R T) Q := by
  obtain ⟨Q1, hc, hk⟩ := H
  exact pw_call (by decide) (fun _ _ => rm_r18) hc hk
set_option maxRecDepth 100000 in
theorem rm_r19 {a0 : Int32} {a1 : Int32} {a2 : Int32} : ∀ G : ez_F, fx_up X 2 G 217 39 [.ref 35, .int a0, .int a1] [.int a2] (ev_hp I J R T) cz kz = some (some (.int a2), (ev_hp I J R T), cz, kz) := by
  intro G
  rfl
theorem rn_39 {v x y : Int32}
    (H : Q (some (.int v)) (ev_hp I J R T)) : pw (N + 1) X 217 39 [.ref 35, .int x, .int y] [.int v] (ev_hp I J R T) Q := by
  exact pw_ret (by decide) (fun _ _ => rm_r19) H
end
section
variable {N : Nat} {X : ez_X} {I I' I1 : Nat → Nat → Int32} {J J' J1 : Nat → Nat → Int64} {R R' R1 : Nat → Nat} {T T' T1 : List ez_C} {v x y : Int32} {f6 : Nat → Int32} {t : ly_t}
noncomputable def v_rim (I : Nat → Nat → Int32) (J : Nat → Nat → Int64) (x y : Int32) : Int32 := if ev_wi y 0 (I 1 4 + I 1 3 - 1) = 0 then -2 else if sn I 0 * (sn I 1 * sn I 2) ≤ 10000 then (if ev_wi x 0 (Int32.ofNat (ls I J).length - 1) = 0 then -2 else Int32.ofNat (rq (I 1 3).toInt.toNat (I 1 4).toInt.toNat y.toInt.toNat (ly_w I J ((ls I J).getD x.toInt.toNat (0, 0, 0))))) else -6
theorem ly_in (hr : rl I J) (hB : cx_hB cx_B0 I) (ht : t ∈ ls I J) {s : Nat} (hs : s < (I 3 3).toInt.toNat) : ly_at t s < in_n I s := by
  have e3 : I 3 3 = I 35 3 := (km_0 hr.1).2.2.2
  have hns := (b_sh hB).1
  have key : ∀ s, s < 3 → s < (I 3 3).toInt.toNat → sn I s = in_n I s := by
    intro s h3 h
    rw [sn_is hr hB s h3]
    unfold mm
    rw [if_pos (show s < rf_n I from by unfold rf_n; rw [← e3]; exact h)]
  obtain ⟨g0, g1, g2⟩ := ly_1b _ t ht
  rcases (show s = 0 ∨ s = 1 ∨ s = 2 by omega) with rfl | rfl | rfl
  · rw [← key 0 (by omega) hs]
    exact g0
  · rw [← key 1 (by omega) hs]
    exact g1
  · rw [← key 2 (by omega) hs]
    exact g2
theorem ly_w_6 : ly_w (ev_sI I 6 f6) J t = ly_w I J t := by
  have c3 : ev_sI I 6 f6 3 = I 3 := cx_sI_n _ _ (by decide)
  unfold ly_w ly_s
  rw [c3]
theorem wh_is (hB : cx_hB cx_B0 I) : ∃ w h : Nat, I 1 3 = Int32.ofNat w ∧ I 1 4 = Int32.ofNat h ∧ (2 ≤ w ∧ w ≤ 6) ∧ (2 ≤ h ∧ h ≤ 6) := by
  have hW := hB 1 3
  have hH := hB 1 4
  rw [show cx_B0 1 3 = (2, 6) from rfl] at hW
  rw [show cx_B0 1 4 = (2, 6) from rfl] at hH
  simp only at hW hH
  exact ⟨(I 1 3).toInt.toNat, (I 1 4).toInt.toNat, io_nat (by omega), io_nat (by omega), by omega, by omega⟩
theorem pe_xrim (hr : rl I J) (hh : cx_hok cx_B0 I R T) (hc : cp I J R T) : pe N X 40 [.ref 0, .int x, .int y] (ev_hp I J R T) (fun r h => r = some (.int (v_rim I J x y)) ∧ se_H I J R T h) := by
  have hns := (b_sh hh.1).1
  obtain ⟨w, ht, ew, eh, hw, hhh⟩ := wh_is hh.1
  refine pe_of (pw_p (xo_rim ⟨fun hy => ⟨_, pe_tm hr hh hc, ?_⟩, fun hy => ⟨?_, Or.inl rfl⟩⟩))
  · rintro r h (⟨h1, rfl, rfl⟩ | ⟨h1, rfl, h2⟩)
    · refine pw_p (rm_15 ⟨fun z => absurd z (by decide), fun _ => ⟨?_, Or.inl rfl⟩⟩)
      unfold v_rim
      rw [if_neg hy, if_neg (by omega)]
    · obtain ⟨f6, R', T', rfl, g1, ⟨g2, n, f, g3, g4, g5, g6⟩, g7⟩ := h2
      have c1 : ev_sI I 6 f6 1 = I 1 := cx_sI_n _ _ (by decide)
      have c3 : ev_sI I 6 f6 3 = I 3 := cx_sI_n _ _ (by decide)
      have main : ¬ ev_wi x 0 (Int32.ofNat (ls I J).length - 1) = 0 → ∃ (k r : Nat) (hk : k < (ls I J).length), x = Int32.ofNat k ∧ y = Int32.ofNat r ∧ r < w + ht := by
        intro hx
        obtain ⟨k, e, hk⟩ := wi_len (by omega) hx
        have hy2 := hy
        rw [ew, eh, io_add] at hy2
        obtain ⟨r, e2, hr2⟩ := wi_len (by omega) hy2
        exact ⟨k, r, hk, e, e2, by omega⟩
      refine pw_p (rm_15 ⟨fun _ => ⟨fun hx => ⟨?_, Or.inr ⟨f6, R', T', rfl⟩⟩, fun hx => ?_⟩, fun z => absurd rfl z⟩)
      · rw [g2] at hx
        unfold v_rim
        rw [if_neg hy, if_pos h1, if_pos hx]
      · rw [g2] at hx
        obtain ⟨k, r, hk, rfl, rfl, hr2⟩ := main hx
        have hm := List.getElem_mem hk
        obtain ⟨b0, b1, b2⟩ := ls_512 hr hh.1 hm
        refine ⟨_, pe_cellsOf (t := (ls I J)[k]) g3 g5 (by rw [at_k (by omega) g5, g6 k hk]) (by rw [c3]; exact hns) b0 b1 b2 (fun s hs => ?_), ?_⟩
        · rw [c3] at hs
          have := ly_in hr hh.1 hm hs
          have := (fi_n hr hs).2.1
          omega
        · rintro q h ⟨rfl, rfl⟩
          refine pw_p (rm_41 ⟨_, pe_countIn (w := w) (h := ht) (r := r) (by rw [c1]; exact ew) (by rw [c1]; exact eh) (by rw [c1]; exact hc.1.2.2.1) hw hhh hr2 rfl, ?_⟩)
          rintro q h ⟨rfl, rfl⟩
          refine pw_p (rm_45 ⟨?_, Or.inr ⟨f6, R', T', rfl⟩⟩)
          unfold v_rim
          rw [if_neg hy, if_pos h1, if_neg hx, ly_w_6, ew, eh, io_ti (by omega), io_ti (by omega), io_ti (by omega), io_ti (by omega), Int.toNat_natCast, Int.toNat_natCast, Int.toNat_natCast, Int.toNat_natCast, ly_gd hk]
  · unfold v_rim
    rw [if_pos (Classical.not_not.mp hy)]
theorem pe_mrim (hr : rl I J) (hm : mk I J) (hB : cx_hB cx_B0 I) : pe N X 217 [.ref 35, .int x, .int y] (ev_hp I J R T) (fun r _ => r = some (.int (v_rim I J x y))) := by
  have hns := (b_sh hB).1
  obtain ⟨e0, e1, -, e3⟩ := km_0 hr.1
  obtain ⟨w, ht, ew, eh, hw, hhh⟩ := wh_is hB
  have esum : I 35 0 + I 35 1 - 1 = I 1 4 + I 1 3 - 1 := by rw [← e0, ← e1, ew, eh, io_add, io_add, Nat.add_comm]
  refine pe_of (pw_p (rn_0 ⟨fun hy => ⟨_, pe_laid hr hB N, ?_⟩, fun hy => ?_⟩))
  · rw [il_0, esum] at hy
    rintro r h ⟨I', J', ⟨fI, fJ, fE⟩, ⟨h1, rfl, rfl⟩ | ⟨h1, rfl, w', rfl, hw'⟩⟩
    · refine pw_p (rn_15 ⟨fun z => absurd rfl z, fun _ => ?_⟩)
      unfold v_rim
      rw [if_neg hy, pr_is hr hB, if_neg (by omega)]
    · have hlen := ly_1l (lm_p (rf_n I) (rf_f J) (rf_g I J)) (lm_q (rf_n I) (rf_f J) (rf_g I J)) (mm (in_n I) (rf_n I) 1) (mm (in_n I) (rf_n I) 2) (mm (in_n I) (rf_n I) 0)
      have hlen2 : (lm_L (rf_n I) (in_n I) (rf_f J) (rf_g I J)).length ≤ 10000 := Nat.le_trans hlen (by rw [pr_mm _ (rf_ns hB).2]; exact h1)
      rw [← ls_is hr hm hB] at hw' hlen2 ⊢
      have e14 : al_I I' w' (ls I J).length 35 14 = Int32.ofNat (ls I J).length := by
        unfold al_I
        rw [cx_sI_s, upd_s]
      have e41 : al_I I' w' (ls I J).length 41 = w' := by
        unfold al_I
        rw [cx_sI_n _ _ (by decide), cx_sI_s]
      have e35 : ∀ k, k ≠ 14 → al_I I' w' (ls I J).length 35 k = I 35 k := fun k hk => by
        unfold al_I
        rw [cx_sI_s, upd_n _ _ hk, fI 35 (by decide)]
      refine pw_p (rn_15 ⟨fun _ => ⟨fun hx => ?_, fun hx => ?_⟩, fun z => absurd (by decide) z⟩)
      · rw [e14, il_0] at hx
        unfold v_rim
        rw [if_neg hy, pr_is hr hB, if_pos h1, if_pos hx]
      · rw [e14, il_0] at hx
        obtain ⟨k, rfl, hk⟩ := wi_len (by omega) hx
        have hy2 := hy
        rw [ew, eh, io_add] at hy2
        obtain ⟨r, rfl, hr2⟩ := wi_len (by omega) hy2
        have hmem := List.getElem_mem hk
        have hw2 := hw' k hk
        refine ⟨_, pe_mcells (t := (ls I J)[k]) (k := k) (ns := rf_n I) (e := fun s => J 4 (288 * s + ly_at (ls I J)[k] s)) rfl (by omega) (by rw [e35 3 (by decide)]; exact (rf_ns hB).1) (rf_ns hB).2 (fun s hs => ?_) (fun s hs => ?_) (fun s hs => ?_), ?_⟩
        · rw [e41]
          have := (rf_ns hB).2
          rcases (show s = 0 ∨ s = 1 ∨ s = 2 by omega) with rfl | rfl | rfl
          · exact hw2.1
          · exact hw2.2.1
          · exact hw2.2.2
        · have hs' : s < (I 3 3).toInt.toNat := by rw [e3]; exact hs
          have := ly_in hr hB hmem hs'
          have := (fi_n hr hs').2.1
          omega
        · have hs' : s < (I 3 3).toInt.toNat := by rw [e3]; exact hs
          exact ((fE s hs).2 _ (ly_in hr hB hmem hs')).1
        · rintro q h ⟨rfl, rfl⟩
          refine pw_p (rn_35 ⟨_, pe_countOf (w := w) (h := ht) (r := r) (by rw [e35 0 (by decide), ← e0]; exact ew) (by rw [e35 1 (by decide), ← e1]; exact eh) hw hhh (by omega) rfl, ?_⟩)
          rintro q h ⟨rfl, rfl⟩
          refine pw_p (rn_39 ?_)
          have en : rf_n I = (I 3 3).toInt.toNat := by unfold rf_n; rw [e3]
          unfold v_rim
          rw [if_neg hy, pr_is hr hB, if_pos h1, if_neg hx, ew, eh, io_ti (by omega), io_ti (by omega), io_ti (by omega), io_ti (by omega), Int.toNat_natCast, Int.toNat_natCast, Int.toNat_natCast, Int.toNat_natCast, ly_gd hk, ly_w_or (by omega), en]
  · rw [il_0, esum] at hy
    unfold v_rim
    rw [if_pos (Classical.not_not.mp hy)]
theorem lxc_rim (hX2 : X.1 < 2 ^ 31) (hh : cx_hok cx_B0 I R T) (hr : rl2 I J R T) (x y : Int32) : ev_W X 40 0 (ez_lay [.ref 0, .int x, .int y]) [] (ev_hp I J R T) 0 0 (lw_mid T (fun v I1 J1 R1 T1 => v = v_rim I1 J1 x y ∧ rl2 I1 J1 R1 T1)) := by
  refine (W_pe (l2x_rim hX2 hh hr x y) (fun N => pe_xrim (N := N) hr.1 hh hr.2)).mono ?_
  rintro r h c k ⟨⟨v, I1, J1, R1, T1, e1, e2, e3, e4, e5, e6⟩, q1, q2⟩
  refine ⟨v, I1, J1, R1, T1, e1, e2, e3, e4, e5, ?_, e6⟩
  rw [e1] at q1
  injection q1 with q1
  injection q1 with q1
  rw [e2] at q2
  obtain ⟨h1, h2⟩ := ls_H q2
  have hf : ∀ (p n cc k q : Nat) (fl : List (Nat × Nat)), p ≠ 6 → cx_Ds[p]? = some (n + 2, cc, fl) → fl[k]? = some (0, q) → I1 p k = I p k := by
    intro p n cc k q fl hp hd hq
    rcases q2 with e | ⟨f6, R2, T2, e⟩
    · exact h1_f hd hq (by rw [e])
    · have e7 : I1 p k = ev_sI I 6 f6 p k := h1_f hd hq (by rw [e])
      rw [e7, cx_sI_n _ _ hp]
  have h4 : J1 4 = J 4 := by
    rcases q2 with e | ⟨f6, R2, T2, e⟩
    · exact hp_rowJ (show cx_Ds[4]? = some (1, _, _) from rfl) e
    · exact hp_rowJ (show cx_Ds[4]? = some (1, _, _) from rfl) e
  have h33 : I1 3 3 = I 3 3 := hf 3 0 _ 3 _ _ (by decide) (show cx_Ds[3]? = some (0 + 2, _, _) from rfl) rfl
  have h13 : I1 1 3 = I 1 3 := hf 1 0 _ 3 _ _ (by decide) (show cx_Ds[1]? = some (0 + 2, _, _) from rfl) rfl
  have h14 : I1 1 4 = I 1 4 := hf 1 0 _ 4 _ _ (by decide) (show cx_Ds[1]? = some (0 + 2, _, _) from rfl) rfl
  rw [q1]
  unfold v_rim ly_w ly_s
  rw [h1, h2 0, h2 1, h2 2, h33, h13, h14, h4]
theorem lmc_rim (hX2 : X.1 < 2 ^ 31) (hh : cx_hok cx_B0 I R T) (hr : rl2 I J R T) (x y : Int32) (hh1 : cx_hok cx_B0 I1 R1 T1) (hm : v = v_rim I1 J1 x y ∧ rl2 I1 J1 R1 T1) : ev_W X 217 0 (ez_lay [.ref 35, .int x, .int y]) [] (ev_hp I1 J1 R1 T1) 0 0 (lw_mid T1 (fun u I2 J2 R2 T2 => u = v ∧ rl2 I2 J2 R2 T2)) := by
  refine (W_pe (l2m_rim hX2 x y hh1 hm.2) (fun N => pe_mrim (N := N) hm.2.1 hm.2.2.1 hh1.1)).mono ?_
  rintro r h c k ⟨⟨u, I2, J2, R2, T2, e1, e2, e3, e4, e5, e6⟩, q1⟩
  refine ⟨u, I2, J2, R2, T2, e1, e2, e3, e4, e5, ?_, e6⟩
  rw [e1] at q1
  injection q1 with q1
  injection q1 with q1
  rw [q1]
  exact hm.1.symm
end
end
section
/-! The answers of fitting, both sides. -/
section
variable {N : Nat} {X : ez_X} {I : Nat → Nat → Int32} {J : Nat → Nat → Int64} {R : Nat → Nat} {T : List ez_C} {Q : pw_Q} {cz kz : Nat}
set_option maxRecDepth 100000 in
theorem fo_r0  : ∀ G : ez_F, fx_up X 2 G 151 0 [.ref 1] [] (ev_hp I J R T) cz kz = G 151 4 [.ref 1] [.int (I 1 4)] (ev_hp I J R T) cz kz := by
  intro G
  rfl
set_option maxRecDepth 100000 in
theorem fo_r1 {a0 : Int32} : ∀ G : ez_F, fx_up X 2 G 151 4 [.ref 1] [.int a0] (ev_hp I J R T) cz kz = G 151 8 [.ref 1] [.int (I 1 3), .int a0] (ev_hp I J R T) cz kz := by
  intro G
  rfl
set_option maxRecDepth 100000 in
theorem fo_r2 {a0 : Int32} {a1 : Int32} : ∀ G : ez_F, fx_up X 2 G 151 8 [.ref 1] [.int a0, .int a1] (ev_hp I J R T) cz kz = some (some (.int (a1 + a0)), (ev_hp I J R T), cz, kz) := by
  intro G
  rfl
theorem fo_0 
    (H : Q (some (.int ((I 1 4) + (I 1 3)))) (ev_hp I J R T)) : pw (N + 1) X 151 0 [.ref 1] [] (ev_hp I J R T) Q := by
  refine pw_seg (by decide) (fun _ _ => fo_r0) ?_
  refine pw_p (pw_seg (by decide) (fun _ _ => fo_r1) ?_)
  exact pw_p (pw_ret (by decide) (fun _ _ => fo_r2) H)
end
theorem pe_rimTotal {N : Nat} {X : ez_X} {I : Nat → Nat → Int32} {J : Nat → Nat → Int64} {R : Nat → Nat} {T : List ez_C} : pe N X 151 [.ref 1] (ev_hp I J R T) (fun r h => r = some (.int (I 1 4 + I 1 3)) ∧ h = ev_hp I J R T) := pe_of (pw_p (fo_0 ⟨rfl, rfl⟩))
section
variable {N : Nat} {X : ez_X} {I : Nat → Nat → Int32} {J : Nat → Nat → Int64} {R : Nat → Nat} {T : List ez_C} {Q : pw_Q} {cz kz : Nat}
set_option maxRecDepth 100000 in
theorem fp_r0 {a0 : Int64} : ∀ G : ez_F, fx_up X 3 G 75 0 [.ref 32, .long a0, ez_fill] [] (ev_hp I J R T) cz kz = ev_C G 151 [.ref 1] (ev_hp I J R T) fun r h1 c1 k1 => G 75 7 [.ref 32, .long a0, ez_fill] (r.toList ++ []) h1 (cz + c1) (kz + k1) := by
  intro G
  rfl
set_option maxRecDepth 100000 in
theorem fp_r1 {a0 : Int64} {a1 : Int32} : ∀ G : ez_F, fx_up X 3 G 75 7 [.ref 32, .long a0, ez_fill] [.int a1] (ev_hp I J R T) cz kz = G 75 11 [.ref 32, .long a0, ez_fill, .int a1, .int (0 : Int32)] [] (ev_hp I J R T) cz kz := by
  intro G
  rfl
theorem fa_0 {u : Int64}
    (H : pw N X 75 11 [.ref 32, .long u, ez_fill, .int ((I 1 4) + (I 1 3)), .int (0 : Int32)] [] (ev_hp I J R T) Q) : pw (N + 1) X 75 0 [.ref 32, .long u, ez_fill] [] (ev_hp I J R T) Q := by
  refine pw_callp (by decide) (fun _ _ => fp_r0) (pe_rimTotal) ?_
  refine pw_p (pw_seg (by decide) (fun _ _ => fp_r1) ?_)
  exact H
set_option maxRecDepth 100000 in
theorem fp_r2 {a0 : Int64} {a1 : Int32} {a2 : Int32} : ∀ G : ez_F, fx_up X 3 G 75 11 [.ref 32, .long a0, ez_fill, .int a1, .int a2] [] (ev_hp I J R T) cz kz = bif decide (a1 ≤ a2) then G 75 54 [.ref 32, .long a0, ez_fill, .int a1, .int a2] [] (ev_hp I J R T) cz kz else G 75 17 [.ref 32, .long a0, ez_fill, .int a1, .int a2] [] (ev_hp I J R T) cz kz := by
  intro G
  rfl
set_option maxRecDepth 100000 in
theorem fp_r3 {a0 : Int64} {a1 : Int32} {a2 : Int32} : ∀ G : ez_F, fx_up X 1 G 75 54 [.ref 32, .long a0, ez_fill, .int a1, .int a2] [] (ev_hp I J R T) cz kz = G 75 55 [.ref 32, .long a0, ez_fill, .int a1, .int a2] [.int (1 : Int32)] (ev_hp I J R T) cz kz := by
  intro G
  rfl
set_option maxRecDepth 100000 in
theorem fp_r4 {a0 : Int64} {a1 : Int32} {a2 : Int32} : ∀ G : ez_F, fx_up X 4 G 75 17 [.ref 32, .long a0, ez_fill, .int a1, .int a2] [] (ev_hp I J R T) cz kz = ev_C G 3 [.ref 33, .int a2] (ev_hp I J R T) fun r h1 c1 k1 => G 75 26 [.ref 32, .long a0, ez_fill, .int a1, .int a2] (r.toList ++ []) h1 (cz + c1) (kz + k1) := by
  intro G
  rfl
set_option maxRecDepth 100000 in
theorem fp_r5 {a0 : Int64} {a1 : Int32} {a2 : Int32} {a3 : Int32} : ∀ G : ez_F, fx_up X 4 G 75 26 [.ref 32, .long a0, ez_fill, .int a1, .int a2] [.int a3] (ev_hp I J R T) cz kz = bif decide (a3 = (-1 : Int32)) then G 75 48 [.ref 32, .long a0, ez_fill, .int a1, .int a2, .int a3] [] (ev_hp I J R T) cz kz else G 75 34 [.ref 32, .long a0, ez_fill, .int a1, .int a2, .int a3] [] (ev_hp I J R T) cz kz := by
  intro G
  rfl
set_option maxRecDepth 100000 in
theorem fp_r6 {a0 : Int64} {a1 : Int32} {a2 : Int32} {a3 : Int32} : ∀ G : ez_F, fx_up X 2 G 75 48 [.ref 32, .long a0, ez_fill, .int a1, .int a2, .int a3] [] (ev_hp I J R T) cz kz = G 75 11 [.ref 32, .long a0, ez_fill, .int a1, .int (a2 + (1 : Int32)), .int a3] [] (ev_hp I J R T) cz kz := by
  intro G
  rfl
set_option maxRecDepth 100000 in
theorem fp_r7 {a0 : Int64} {a1 : Int32} {a2 : Int32} {a3 : Int32} : ∀ G : ez_F, fx_up X 5 G 75 34 [.ref 32, .long a0, ez_fill, .int a1, .int a2, .int a3] [] (ev_hp I J R T) cz kz = ev_C G 73 [.ref 32, .long a0, .int a2] (ev_hp I J R T) fun r h1 c1 k1 => G 75 43 [.ref 32, .long a0, ez_fill, .int a1, .int a2, .int a3] (r.toList ++ [.int a3]) h1 (cz + c1) (kz + k1) := by
  intro G
  rfl
theorem fa_11 {n x : Int32} {u : Int64}
    (H : ((n ≤ x → ((1 : Int32) = 0 ∨ (1 : Int32) = 1 → Q (some (.int (1 : Int32))) (ev_hp I J R T))) ∧ (¬ (n ≤ x) → (((ev_at 12 (I 33) x) = (-1 : Int32) → pw N X 75 11 [.ref 32, .long u, ez_fill, .int n, .int (x + (1 : Int32))] [] (ev_hp I J R T) Q) ∧ (¬ ((ev_at 12 (I 33) x) = (-1 : Int32)) → (∃ Q1 : pw_Q, pe N X 73 [.ref 32, .long u, .int x] (ev_hp I J R T) Q1 ∧ ∀ (r : Option Value) (h1 : ez_H), Q1 r h1 → pw N X 75 43 [.ref 32, .long u, ez_fill, .int n, .int x, .int (ev_at 12 (I 33) x)] (r.toList ++ [.int (ev_at 12 (I 33) x)]) h1 Q)))))) : pw (N + 1) X 75 11 [.ref 32, .long u, ez_fill, .int n, .int x] [] (ev_hp I J R T) Q := by
  refine pw_if (by decide) (fun _ _ => fp_r2) (fun w1 => ?_) (fun w1 => ?_)
  · have h1 := H.1 w1
    refine pw_p (pw_seg (by decide) (fun _ _ => fp_r3) ?_)
    exact pw_p (pw_zret (by rfl) h1)
  · have h1 := H.2 w1
    refine pw_p (pw_callp (by decide) (fun _ _ => fp_r4) (pe_at (show cx_Ds[33]? = some (0, 12, []) from rfl) (by decide)) ?_)
    refine pw_p (pw_if (by decide) (fun _ _ => fp_r5) (fun w2 => ?_) (fun w2 => ?_))
    · have h2 := h1.1 w2
      refine pw_p (pw_seg (by decide) (fun _ _ => fp_r6) ?_)
      refine pw_cutl (by rfl) ?_
      exact h2
    · have h2 := h1.2 w2
      obtain ⟨Q1, hc, hk⟩ := h2
      exact pw_p (pw_call (by decide) (fun _ _ => fp_r7) hc hk)
set_option maxRecDepth 100000 in
theorem fp_r8 {a0 : Int64} {a1 : Int32} {a2 : Int32} {a3 : Int32} {a4 : Int32} {a5 : Int32} : ∀ G : ez_F, fx_up X 1 G 75 43 [.ref 32, .long a0, ez_fill, .int a1, .int a2, .int a3] [.int a4, .int a5] (ev_hp I J R T) cz kz = bif decide (a5 = a4) then G 75 48 [.ref 32, .long a0, ez_fill, .int a1, .int a2, .int a3] [] (ev_hp I J R T) cz kz else G 75 46 [.ref 32, .long a0, ez_fill, .int a1, .int a2, .int a3] [] (ev_hp I J R T) cz kz := by
  intro G
  rfl
set_option maxRecDepth 100000 in
theorem fp_r9 {a0 : Int64} {a1 : Int32} {a2 : Int32} {a3 : Int32} : ∀ G : ez_F, fx_up X 1 G 75 46 [.ref 32, .long a0, ez_fill, .int a1, .int a2, .int a3] [] (ev_hp I J R T) cz kz = G 75 47 [.ref 32, .long a0, ez_fill, .int a1, .int a2, .int a3] [.int (0 : Int32)] (ev_hp I J R T) cz kz := by
  intro G
  rfl
theorem fa_43 {n x d v : Int32} {u : Int64}
    (H : ((d = v → pw N X 75 11 [.ref 32, .long u, ez_fill, .int n, .int (x + (1 : Int32))] [] (ev_hp I J R T) Q) ∧ (¬ (d = v) → ((0 : Int32) = 0 ∨ (0 : Int32) = 1 → Q (some (.int (0 : Int32))) (ev_hp I J R T))))) : pw (N + 1) X 75 43 [.ref 32, .long u, ez_fill, .int n, .int x, .int d] [.int v, .int d] (ev_hp I J R T) Q := by
  refine pw_if (by decide) (fun _ _ => fp_r8) (fun w1 => ?_) (fun w1 => ?_)
  · have h1 := H.1 w1
    refine pw_p (pw_seg (by decide) (fun _ _ => fp_r6) ?_)
    refine pw_cutl (by rfl) ?_
    exact h1
  · have h1 := H.2 w1
    refine pw_p (pw_seg (by decide) (fun _ _ => fp_r9) ?_)
    exact pw_p (pw_zret (by rfl) h1)
set_option maxRecDepth 100000 in
theorem fp_r10  : ∀ G : ez_F, fx_up X 3 G 76 0 [.ref 32] [] (ev_hp I J R T) cz kz = G 76 7 [.ref 32] [.int (I 6 3)] (ev_hp I J R T) cz kz := by
  intro G
  rfl
set_option maxRecDepth 100000 in
theorem fp_r11 {a0 : Int32} : ∀ G : ez_F, fx_up X 5 G 76 7 [.ref 32] [.int a0] (ev_hp I J R T) cz kz = G 76 12 [.ref 32, .int a0, .int (0 : Int32), .int (0 : Int32)] [] (ev_hp I J R T) cz kz := by
  intro G
  rfl
theorem fb_0 
    (H : pw N X 76 12 [.ref 32, .int (I 6 3), .int (0 : Int32), .int (0 : Int32)] [] (ev_hp I J R T) Q) : pw (N + 1) X 76 0 [.ref 32] [] (ev_hp I J R T) Q := by
  refine pw_seg (by decide) (fun _ _ => fp_r10) ?_
  refine pw_p (pw_seg (by decide) (fun _ _ => fp_r11) ?_)
  exact H
set_option maxRecDepth 100000 in
theorem fp_r12 {a0 : Int32} {a1 : Int32} {a2 : Int32} : ∀ G : ez_F, fx_up X 3 G 76 12 [.ref 32, .int a0, .int a1, .int a2] [] (ev_hp I J R T) cz kz = bif decide (a0 ≤ a2) then G 76 41 [.ref 32, .int a0, .int a1, .int a2] [] (ev_hp I J R T) cz kz else G 76 17 [.ref 32, .int a0, .int a1, .int a2] [] (ev_hp I J R T) cz kz := by
  intro G
  rfl
set_option maxRecDepth 100000 in
theorem fp_r13 {a0 : Int32} {a1 : Int32} {a2 : Int32} : ∀ G : ez_F, fx_up X 2 G 76 41 [.ref 32, .int a0, .int a1, .int a2] [] (ev_hp I J R T) cz kz = some (some (.int a1), (ev_hp I J R T), cz, kz) := by
  intro G
  rfl
set_option maxRecDepth 100000 in
theorem fp_r14 {a0 : Int32} {a1 : Int32} {a2 : Int32} : ∀ G : ez_F, fx_up X 5 G 76 17 [.ref 32, .int a0, .int a1, .int a2] [] (ev_hp I J R T) cz kz = ev_C G 137 [.ref 6, .int a2] (ev_hp I J R T) fun r h1 c1 k1 => G 76 26 [.ref 32, .int a0, .int a1, .int a2] (r.toList ++ [.ref 32]) h1 (cz + c1) (kz + k1) := by
  intro G
  rfl
theorem fb_12 {t n k : Int32}
    (H : ((t ≤ k → Q (some (.int n)) (ev_hp I J R T)) ∧ (¬ (t ≤ k) → (∃ Q1 : pw_Q, pe N X 137 [.ref 6, .int k] (ev_hp I J R T) Q1 ∧ ∀ (r : Option Value) (h1 : ez_H), Q1 r h1 → pw N X 76 26 [.ref 32, .int t, .int n, .int k] (r.toList ++ [.ref 32]) h1 Q)))) : pw (N + 1) X 76 12 [.ref 32, .int t, .int n, .int k] [] (ev_hp I J R T) Q := by
  refine pw_if (by decide) (fun _ _ => fp_r12) (fun w1 => ?_) (fun w1 => ?_)
  · have h1 := H.1 w1
    exact pw_p (pw_ret (by decide) (fun _ _ => fp_r13) h1)
  · have h1 := H.2 w1
    obtain ⟨Q1, hc, hk⟩ := h1
    exact pw_p (pw_call (by decide) (fun _ _ => fp_r14) hc hk)
set_option maxRecDepth 100000 in
theorem fp_r15 {a0 : Int32} {a1 : Int32} {a2 : Int32} {a3 : Int64} : ∀ G : ez_F, fx_up X 1 G 76 26 [.ref 32, .int a0, .int a1, .int a2] [.long a3, .ref 32] (ev_hp I J R T) cz kz = ev_C G 75 [.ref 32, .long a3] (ev_hp I J R T) fun r h1 c1 k1 => G 76 29 [.ref 32, .int a0, .int a1, .int a2] (r.toList ++ []) h1 (cz + c1) (kz + k1) := by
  intro G
  rfl
theorem fb_26 {t n k : Int32} {u : Int64}
    (H : (∃ Q1 : pw_Q, pe N X 75 [.ref 32, .long u] (ev_hp I J R T) Q1 ∧ ∀ (r : Option Value) (h1 : ez_H), Q1 r h1 → pw N X 76 29 [.ref 32, .int t, .int n, .int k] (r.toList ++ []) h1 Q)) : pw (N + 1) X 76 26 [.ref 32, .int t, .int n, .int k] [.long u, .ref 32] (ev_hp I J R T) Q := by
  obtain ⟨Q1, hc, hk⟩ := H
  exact pw_call (by decide) (fun _ _ => fp_r15) hc hk
set_option maxRecDepth 100000 in
theorem fp_r16 {a0 : Int32} {a1 : Int32} {a2 : Int32} {a3 : Int32} : ∀ G : ez_F, fx_up X 1 G 76 29 [.ref 32, .int a0, .int a1, .int a2] [.int a3] (ev_hp I J R T) cz kz = bif decide (a3 = (0 : Int32)) then G 76 35 [.ref 32, .int a0, .int a1, .int a2] [] (ev_hp I J R T) cz kz else G 76 32 [.ref 32, .int a0, .int a1, .int a2] [] (ev_hp I J R T) cz kz := by
  intro G
  rfl
set_option maxRecDepth 100000 in
theorem fp_r17 {a0 : Int32} {a1 : Int32} {a2 : Int32} : ∀ G : ez_F, fx_up X 2 G 76 35 [.ref 32, .int a0, .int a1, .int a2] [] (ev_hp I J R T) cz kz = G 76 12 [.ref 32, .int a0, .int a1, .int (a2 + (1 : Int32))] [] (ev_hp I J R T) cz kz := by
  intro G
  rfl
set_option maxRecDepth 100000 in
theorem fp_r18 {a0 : Int32} {a1 : Int32} {a2 : Int32} : ∀ G : ez_F, fx_up X 3 G 76 32 [.ref 32, .int a0, .int a1, .int a2] [] (ev_hp I J R T) cz kz = G 76 12 [.ref 32, .int a0, .int (a1 + (1 : Int32)), .int (a2 + (1 : Int32))] [] (ev_hp I J R T) cz kz := by
  intro G
  rfl
theorem fb_29 {t n k v : Int32}
    (H : ((v = (0 : Int32) → pw N X 76 12 [.ref 32, .int t, .int n, .int (k + (1 : Int32))] [] (ev_hp I J R T) Q) ∧ (¬ (v = (0 : Int32)) → pw N X 76 12 [.ref 32, .int t, .int (n + (1 : Int32)), .int (k + (1 : Int32))] [] (ev_hp I J R T) Q))) : pw (N + 1) X 76 29 [.ref 32, .int t, .int n, .int k] [.int v] (ev_hp I J R T) Q := by
  refine pw_if (by decide) (fun _ _ => fp_r16) (fun w1 => ?_) (fun w1 => ?_)
  · have h1 := H.1 w1
    refine pw_p (pw_seg (by decide) (fun _ _ => fp_r17) ?_)
    exact h1
  · have h1 := H.2 w1
    refine pw_p (pw_seg (by decide) (fun _ _ => fp_r18) ?_)
    exact h1
set_option maxRecDepth 100000 in
theorem fp_r19 {a0 : Int32} : ∀ G : ez_F, fx_up X 1 G 17 4 [.ref 0] [.int a0] (ev_hp I J R T) cz kz = bif decide (a0 = (0 : Int32)) then G 17 12 [.ref 0] [] (ev_hp I J R T) cz kz else G 17 7 [.ref 0] [] (ev_hp I J R T) cz kz := by
  intro G
  rfl
set_option maxRecDepth 100000 in
theorem fp_r20  : ∀ G : ez_F, fx_up X 3 G 17 12 [.ref 0] [] (ev_hp I J R T) cz kz = ev_C G 76 [.ref 32] (ev_hp I J R T) fun r h1 c1 k1 => G 17 19 [.ref 0] (r.toList ++ []) h1 (cz + c1) (kz + k1) := by
  intro G
  rfl
set_option maxRecDepth 100000 in
theorem fp_r21  : ∀ G : ez_F, fx_up X 2 G 17 7 [.ref 0] [] (ev_hp I J R T) cz kz = G 17 19 [.ref 0] [.int (-6 : Int32)] (ev_hp I J R T) cz kz := by
  intro G
  rfl
theorem fc_4 {v : Int32}
    (H : ((v = (0 : Int32) → (∃ Q1 : pw_Q, pe N X 76 [.ref 32] (ev_hp I J R T) Q1 ∧ ∀ (r : Option Value) (h1 : ez_H), Q1 r h1 → pw N X 17 19 [.ref 0] (r.toList ++ []) h1 Q)) ∧ (¬ (v = (0 : Int32)) → pw N X 17 19 [.ref 0] [.int (-6 : Int32)] (ev_hp I J R T) Q))) : pw (N + 1) X 17 4 [.ref 0] [.int v] (ev_hp I J R T) Q := by
  refine pw_if (by decide) (fun _ _ => fp_r19) (fun w1 => ?_) (fun w1 => ?_)
  · have h1 := H.1 w1
    obtain ⟨Q1, hc, hk⟩ := h1
    exact pw_p (pw_call (by decide) (fun _ _ => fp_r20) hc hk)
  · have h1 := H.2 w1
    refine pw_p (pw_seg (by decide) (fun _ _ => fp_r21) ?_)
    exact h1
set_option maxRecDepth 100000 in
theorem fp_r22 {a0 : Int32} : ∀ G : ez_F, fx_up X 1 G 17 19 [.ref 0] [.int a0] (ev_hp I J R T) cz kz = some (some (.int a0), (ev_hp I J R T), cz, kz) := by
  intro G
  rfl
theorem fc_19 {v : Int32}
    (H : Q (some (.int v)) (ev_hp I J R T)) : pw (N + 1) X 17 19 [.ref 0] [.int v] (ev_hp I J R T) Q := by
  exact pw_ret (by decide) (fun _ _ => fp_r22) H
set_option maxRecDepth 100000 in
theorem fp_r23  : ∀ G : ez_F, fx_up X 2 G 191 0 [.ref 35] [] (ev_hp I J R T) cz kz = ev_C G 167 [.ref 35] (ev_hp I J R T) fun r h1 c1 k1 => G 191 4 [.ref 35] (r.toList ++ []) h1 (cz + c1) (kz + k1) := by
  intro G
  rfl
theorem fm_0 
    (H : (∃ Q1 : pw_Q, pe N X 167 [.ref 35] (ev_hp I J R T) Q1 ∧ ∀ (r : Option Value) (h1 : ez_H), Q1 r h1 → pw N X 191 4 [.ref 35] (r.toList ++ []) h1 Q)) : pw (N + 1) X 191 0 [.ref 35] [] (ev_hp I J R T) Q := by
  obtain ⟨Q1, hc, hk⟩ := H
  exact pw_call (by decide) (fun _ _ => fp_r23) hc hk
set_option maxRecDepth 100000 in
theorem fp_r24 {a0 : Int32} : ∀ G : ez_F, fx_up X 1 G 191 4 [.ref 35] [.int a0] (ev_hp I J R T) cz kz = bif decide (¬ a0 = (0 : Int32)) then G 191 10 [.ref 35] [] (ev_hp I J R T) cz kz else G 191 7 [.ref 35] [] (ev_hp I J R T) cz kz := by
  intro G
  rfl
set_option maxRecDepth 100000 in
theorem fp_r25  : ∀ G : ez_F, fx_up X 4 G 191 10 [.ref 35] [] (ev_hp I J R T) cz kz = G 191 14 [.ref 35, .int (0 : Int32), .int (0 : Int32)] [] (ev_hp I J R T) cz kz := by
  intro G
  rfl
set_option maxRecDepth 100000 in
theorem fp_r26  : ∀ G : ez_F, fx_up X 2 G 191 7 [.ref 35] [] (ev_hp I J R T) cz kz = some (some (.int (-6 : Int32)), (ev_hp I J R T), cz, kz) := by
  intro G
  rfl
theorem fm_4 {v : Int32}
    (H : ((¬ v = (0 : Int32) → pw N X 191 14 [.ref 35, .int (0 : Int32), .int (0 : Int32)] [] (ev_hp I J R T) Q) ∧ (¬ (¬ v = (0 : Int32)) → Q (some (.int (-6 : Int32))) (ev_hp I J R T)))) : pw (N + 1) X 191 4 [.ref 35] [.int v] (ev_hp I J R T) Q := by
  refine pw_if (by decide) (fun _ _ => fp_r24) (fun w1 => ?_) (fun w1 => ?_)
  · have h1 := H.1 w1
    refine pw_p (pw_seg (by decide) (fun _ _ => fp_r25) ?_)
    exact h1
  · have h1 := H.2 w1
    exact pw_p (pw_ret (by decide) (fun _ _ => fp_r26) h1)
set_option maxRecDepth 100000 in
theorem fp_r27 {a0 : Int32} {a1 : Int32} : ∀ G : ez_F, fx_up X 3 G 191 14 [.ref 35, .int a0, .int a1] [] (ev_hp I J R T) cz kz = G 191 19 [.ref 35, .int a0, .int a1] [.int (I 35 14), .int a1] (ev_hp I J R T) cz kz := by
  intro G
  rfl
set_option maxRecDepth 100000 in
theorem fp_r28 {a0 : Int32} {a1 : Int32} {a2 : Int32} {a3 : Int32} : ∀ G : ez_F, fx_up X 1 G 191 19 [.ref 35, .int a0, .int a1] [.int a2, .int a3] (ev_hp I J R T) cz kz = bif decide (a2 ≤ a3) then G 191 113 [.ref 35, .int a0, .int a1] [] (ev_hp I J R T) cz kz else G 191 22 [.ref 35, .int a0, .int a1] [] (ev_hp I J R T) cz kz := by
  intro G
  rfl
set_option maxRecDepth 100000 in
theorem fp_r29 {a0 : Int32} {a1 : Int32} : ∀ G : ez_F, fx_up X 2 G 191 113 [.ref 35, .int a0, .int a1] [] (ev_hp I J R T) cz kz = some (some (.int a0), (ev_hp I J R T), cz, kz) := by
  intro G
  rfl
set_option maxRecDepth 100000 in
theorem fp_r30 {a0 : Int32} {a1 : Int32} : ∀ G : ez_F, fx_up X 3 G 191 22 [.ref 35, .int a0, .int a1] [] (ev_hp I J R T) cz kz = ev_C G 180 [.ref 35, .int a1] (ev_hp I J R T) fun r h1 c1 k1 => G 191 27 [.ref 35, .int a0, .int a1] (r.toList ++ []) h1 (cz + c1) (kz + k1) := by
  intro G
  rfl
theorem fm_14 {n k : Int32}
    (H : (((I 35 14) ≤ k → Q (some (.int n)) (ev_hp I J R T)) ∧ (¬ ((I 35 14) ≤ k) → (∃ Q1 : pw_Q, pe N X 180 [.ref 35, .int k] (ev_hp I J R T) Q1 ∧ ∀ (r : Option Value) (h1 : ez_H), Q1 r h1 → pw N X 191 27 [.ref 35, .int n, .int k] (r.toList ++ []) h1 Q)))) : pw (N + 1) X 191 14 [.ref 35, .int n, .int k] [] (ev_hp I J R T) Q := by
  refine pw_seg (by decide) (fun _ _ => fp_r27) ?_
  refine pw_p (pw_if (by decide) (fun _ _ => fp_r28) (fun w1 => ?_) (fun w1 => ?_))
  · have h1 := H.1 w1
    exact pw_p (pw_ret (by decide) (fun _ _ => fp_r29) h1)
  · have h1 := H.2 w1
    obtain ⟨Q1, hc, hk⟩ := h1
    exact pw_p (pw_call (by decide) (fun _ _ => fp_r30) hc hk)
set_option maxRecDepth 100000 in
theorem fp_r31 {a0 : Int32} {a1 : Int32} {a2 : Int64} : ∀ G : ez_F, fx_up X 5 G 191 27 [.ref 35, .int a0, .int a1] [.long a2] (ev_hp I J R T) cz kz = G 191 34 [.ref 35, .int a0, .int a1, .long a2, ez_fill, .int (1 : Int32), .int (0 : Int32)] [] (ev_hp I J R T) cz kz := by
  intro G
  rfl
theorem fm_27 {n k : Int32} {u : Int64}
    (H : pw N X 191 34 [.ref 35, .int n, .int k, .long u, ez_fill, .int (1 : Int32), .int (0 : Int32)] [] (ev_hp I J R T) Q) : pw (N + 1) X 191 27 [.ref 35, .int n, .int k] [.long u] (ev_hp I J R T) Q := by
  refine pw_seg (by decide) (fun _ _ => fp_r31) ?_
  exact H
set_option maxRecDepth 100000 in
theorem fp_r32 {a0 : Int32} {a1 : Int32} {a2 : Int64} {a3 : Int32} {a4 : Int32} : ∀ G : ez_F, fx_up X 3 G 191 34 [.ref 35, .int a0, .int a1, .long a2, ez_fill, .int a3, .int a4] [] (ev_hp I J R T) cz kz = G 191 40 [.ref 35, .int a0, .int a1, .long a2, ez_fill, .int a3, .int a4] [.int (I 35 0), .int a4] (ev_hp I J R T) cz kz := by
  intro G
  rfl
set_option maxRecDepth 100000 in
theorem fp_r33 {a0 : Int32} {a1 : Int32} {a2 : Int64} {a3 : Int32} {a4 : Int32} {a5 : Int32} {a6 : Int32} : ∀ G : ez_F, fx_up X 2 G 191 40 [.ref 35, .int a0, .int a1, .long a2, ez_fill, .int a3, .int a4] [.int a5, .int a6] (ev_hp I J R T) cz kz = G 191 44 [.ref 35, .int a0, .int a1, .long a2, ez_fill, .int a3, .int a4] [.int (I 35 1), .int a5, .int a6] (ev_hp I J R T) cz kz := by
  intro G
  rfl
set_option maxRecDepth 100000 in
theorem fp_r34 {a0 : Int32} {a1 : Int32} {a2 : Int64} {a3 : Int32} {a4 : Int32} {a5 : Int32} {a6 : Int32} {a7 : Int32} : ∀ G : ez_F, fx_up X 2 G 191 44 [.ref 35, .int a0, .int a1, .long a2, ez_fill, .int a3, .int a4] [.int a5, .int a6, .int a7] (ev_hp I J R T) cz kz = bif decide ((a6 + a5) ≤ a7) then G 191 94 [.ref 35, .int a0, .int a1, .long a2, ez_fill, .int a3, .int a4] [] (ev_hp I J R T) cz kz else G 191 48 [.ref 35, .int a0, .int a1, .long a2, ez_fill, .int a3, .int a4] [] (ev_hp I J R T) cz kz := by
  intro G
  rfl
set_option maxRecDepth 100000 in
theorem fp_r35 {a0 : Int32} {a1 : Int32} {a2 : Int64} {a3 : Int32} {a4 : Int32} : ∀ G : ez_F, fx_up X 2 G 191 48 [.ref 35, .int a0, .int a1, .long a2, ez_fill, .int a3, .int a4] [] (ev_hp I J R T) cz kz = bif decide (a3 = (0 : Int32)) then G 191 94 [.ref 35, .int a0, .int a1, .long a2, ez_fill, .int a3, .int a4] [] (ev_hp I J R T) cz kz else G 191 53 [.ref 35, .int a0, .int a1, .long a2, ez_fill, .int a3, .int a4] [] (ev_hp I J R T) cz kz := by
  intro G
  rfl
set_option maxRecDepth 100000 in
theorem fp_r36 {a0 : Int32} {a1 : Int32} {a2 : Int64} {a3 : Int32} {a4 : Int32} : ∀ G : ez_F, fx_up X 3 G 191 53 [.ref 35, .int a0, .int a1, .long a2, ez_fill, .int a3, .int a4] [] (ev_hp I J R T) cz kz = G 191 59 [.ref 35, .int a0, .int a1, .long a2, ez_fill, .int a3, .int a4] [.int a4, .ref 61] (ev_hp I J R T) cz kz := by
  intro G
  rfl
set_option maxRecDepth 100000 in
theorem fp_r37 {a0 : Int32} {a1 : Int32} {a2 : Int64} {a3 : Int32} {a4 : Int32} {a5 : Int32} : ∀ G : ez_F, fx_up X 2 G 191 60 [.ref 35, .int a0, .int a1, .long a2, ez_fill, .int a3, .int a4] [.int a5] (ev_hp I J R T) cz kz = bif decide (a5 = (-1 : Int32)) then G 191 81 [.ref 35, .int a0, .int a1, .long a2, ez_fill, .int a3, .int a4] [] (ev_hp I J R T) cz kz else G 191 64 [.ref 35, .int a0, .int a1, .long a2, ez_fill, .int a3, .int a4] [] (ev_hp I J R T) cz kz := by
  intro G
  rfl
set_option maxRecDepth 100000 in
theorem fp_r38 {a0 : Int32} {a1 : Int32} {a2 : Int64} {a3 : Int32} {a4 : Int32} : ∀ G : ez_F, fx_up X 5 G 191 81 [.ref 35, .int a0, .int a1, .long a2, ez_fill, .int a3, .int a4] [] (ev_hp I J R T) cz kz = G 191 34 [.ref 35, .int a0, .int a1, .long a2, ez_fill, .int (1 : Int32), .int (a4 + (1 : Int32))] [] (ev_hp I J R T) cz kz := by
  intro G
  rfl
set_option maxRecDepth 100000 in
theorem fp_r39 {a0 : Int32} {a1 : Int32} {a2 : Int64} {a3 : Int32} {a4 : Int32} : ∀ G : ez_F, fx_up X 3 G 191 64 [.ref 35, .int a0, .int a1, .long a2, ez_fill, .int a3, .int a4] [] (ev_hp I J R T) cz kz = G 191 70 [.ref 35, .int a0, .int a1, .long a2, ez_fill, .int a3, .int a4] [.int a4, .ref 61] (ev_hp I J R T) cz kz := by
  intro G
  rfl
set_option maxRecDepth 100000 in
theorem fp_r40 {a0 : Int32} {a1 : Int32} {a2 : Int64} {a3 : Int32} {a4 : Int32} {a5 : Int32} : ∀ G : ez_F, fx_up X 4 G 191 71 [.ref 35, .int a0, .int a1, .long a2, ez_fill, .int a3, .int a4] [.int a5] (ev_hp I J R T) cz kz = ev_C G 183 [.ref 35, .long a2, .int a4] (ev_hp I J R T) fun r h1 c1 k1 => G 191 78 [.ref 35, .int a0, .int a1, .long a2, ez_fill, .int a3, .int a4] (r.toList ++ [.int a5]) h1 (cz + c1) (kz + k1) := by
  intro G
  rfl
theorem fm_34 {n k b e : Int32} {u : Int64}
    (H : ((((I 35 0) + (I 35 1)) ≤ e → pw N X 191 94 [.ref 35, .int n, .int k, .long u, ez_fill, .int b, .int e] [] (ev_hp I J R T) Q) ∧ (¬ (((I 35 0) + (I 35 1)) ≤ e) → ((b = (0 : Int32) → pw N X 191 94 [.ref 35, .int n, .int k, .long u, ez_fill, .int b, .int e] [] (ev_hp I J R T) Q) ∧ (¬ (b = (0 : Int32)) → (ev_ix e 12 → (((I 61 e.toNatClampNeg) = (-1 : Int32) → pw N X 191 34 [.ref 35, .int n, .int k, .long u, ez_fill, .int (1 : Int32), .int (e + (1 : Int32))] [] (ev_hp I J R T) Q) ∧ (¬ ((I 61 e.toNatClampNeg) = (-1 : Int32)) → (ev_ix e 12 → (∃ Q1 : pw_Q, pe N X 183 [.ref 35, .long u, .int e] (ev_hp I J R T) Q1 ∧ ∀ (r : Option Value) (h1 : ez_H), Q1 r h1 → pw N X 191 78 [.ref 35, .int n, .int k, .long u, ez_fill, .int b, .int e] (r.toList ++ [.int (I 61 e.toNatClampNeg)]) h1 Q)))))))))) : pw (N + 1) X 191 34 [.ref 35, .int n, .int k, .long u, ez_fill, .int b, .int e] [] (ev_hp I J R T) Q := by
  refine pw_seg (by decide) (fun _ _ => fp_r32) ?_
  refine pw_p (pw_seg (by decide) (fun _ _ => fp_r33) ?_)
  refine pw_p (pw_if (by decide) (fun _ _ => fp_r34) (fun w1 => ?_) (fun w1 => ?_))
  · have h1 := H.1 w1
    exact h1
  · have h1 := H.2 w1
    refine pw_p (pw_if (by decide) (fun _ _ => fp_r35) (fun w2 => ?_) (fun w2 => ?_))
    · have h2 := h1.1 w2
      exact h2
    · have h2 := h1.2 w2
      refine pw_p (pw_seg (by decide) (fun _ _ => fp_r36) ?_)
      refine pw_p (pw_iald (by rfl) (cx_getI (show cx_Ds[61]? = some (0, 12, []) from rfl)) (fun w3 => ?_))
      have h3 := h2 w3
      refine pw_p (pw_if (by decide) (fun _ _ => fp_r37) (fun w3 => ?_) (fun w3 => ?_))
      · have h3 := h3.1 w3
        refine pw_p (pw_seg (by decide) (fun _ _ => fp_r38) ?_)
        exact h3
      · have h3 := h3.2 w3
        refine pw_p (pw_seg (by decide) (fun _ _ => fp_r39) ?_)
        refine pw_p (pw_iald (by rfl) (cx_getI (show cx_Ds[61]? = some (0, 12, []) from rfl)) (fun w4 => ?_))
        have h4 := h3 w4
        obtain ⟨Q1, hc, hk⟩ := h4
        exact pw_p (pw_call (by decide) (fun _ _ => fp_r40) hc hk)
set_option maxRecDepth 100000 in
theorem fp_r41 {a0 : Int32} {a1 : Int32} {a2 : Int64} {a3 : Int32} {a4 : Int32} {a5 : Int32} {a6 : Int32} : ∀ G : ez_F, fx_up X 1 G 191 78 [.ref 35, .int a0, .int a1, .long a2, ez_fill, .int a3, .int a4] [.int a5, .int a6] (ev_hp I J R T) cz kz = bif decide (¬ a6 = a5) then G 191 85 [.ref 35, .int a0, .int a1, .long a2, ez_fill, .int a3, .int a4] [] (ev_hp I J R T) cz kz else G 191 81 [.ref 35, .int a0, .int a1, .long a2, ez_fill, .int a3, .int a4] [] (ev_hp I J R T) cz kz := by
  intro G
  rfl
set_option maxRecDepth 100000 in
theorem fp_r42 {a0 : Int32} {a1 : Int32} {a2 : Int64} {a3 : Int32} {a4 : Int32} : ∀ G : ez_F, fx_up X 4 G 191 85 [.ref 35, .int a0, .int a1, .long a2, ez_fill, .int a3, .int a4] [] (ev_hp I J R T) cz kz = G 191 34 [.ref 35, .int a0, .int a1, .long a2, ez_fill, .int (0 : Int32), .int (a4 + (1 : Int32))] [] (ev_hp I J R T) cz kz := by
  intro G
  rfl
set_option maxRecDepth 100000 in
theorem fp_r43 {a0 : Int32} {a1 : Int32} {a2 : Int64} {a3 : Int32} {a4 : Int32} : ∀ G : ez_F, fx_up X 5 G 191 81 [.ref 35, .int a0, .int a1, .long a2, ez_fill, .int a3, .int a4] [] (ev_hp I J R T) cz kz = G 191 34 [.ref 35, .int a0, .int a1, .long a2, ez_fill, .int (1 : Int32), .int (a4 + (1 : Int32))] [] (ev_hp I J R T) cz kz := by
  intro G
  rfl
theorem fm_78 {n k b e v c : Int32} {u : Int64}
    (H : ((¬ c = v → pw N X 191 34 [.ref 35, .int n, .int k, .long u, ez_fill, .int (0 : Int32), .int (e + (1 : Int32))] [] (ev_hp I J R T) Q) ∧ (¬ (¬ c = v) → pw N X 191 34 [.ref 35, .int n, .int k, .long u, ez_fill, .int (1 : Int32), .int (e + (1 : Int32))] [] (ev_hp I J R T) Q))) : pw (N + 1) X 191 78 [.ref 35, .int n, .int k, .long u, ez_fill, .int b, .int e] [.int v, .int c] (ev_hp I J R T) Q := by
  refine pw_if (by decide) (fun _ _ => fp_r41) (fun w1 => ?_) (fun w1 => ?_)
  · have h1 := H.1 w1
    refine pw_p (pw_seg (by decide) (fun _ _ => fp_r42) ?_)
    exact h1
  · have h1 := H.2 w1
    refine pw_p (pw_seg (by decide) (fun _ _ => fp_r43) ?_)
    exact h1
set_option maxRecDepth 100000 in
theorem fp_r44 {a0 : Int32} {a1 : Int32} {a2 : Int64} {a3 : Int32} {a4 : Int32} : ∀ G : ez_F, fx_up X 3 G 191 94 [.ref 35, .int a0, .int a1, .long a2, ez_fill, .int a3, .int a4] [] (ev_hp I J R T) cz kz = bif decide (a3 = (0 : Int32)) then G 191 104 [.ref 35, .int a0, .int a1, .long a2, ez_fill, .int a3, .int a4] [.int a0] (ev_hp I J R T) cz kz else G 191 100 [.ref 35, .int a0, .int a1, .long a2, ez_fill, .int a3, .int a4] [.int a0] (ev_hp I J R T) cz kz := by
  intro G
  rfl
set_option maxRecDepth 100000 in
theorem fp_r45 {a0 : Int32} {a1 : Int32} {a2 : Int64} {a3 : Int32} {a4 : Int32} {a5 : Int32} : ∀ G : ez_F, fx_up X 5 G 191 104 [.ref 35, .int a0, .int a1, .long a2, ez_fill, .int a3, .int a4] [.int a5] (ev_hp I J R T) cz kz = G 191 14 [.ref 35, .int (a5 + (0 : Int32)), .int (a1 + (1 : Int32)), .long a2, ez_fill, .int a3, .int a4] [] (ev_hp I J R T) cz kz := by
  intro G
  rfl
set_option maxRecDepth 100000 in
theorem fp_r46 {a0 : Int32} {a1 : Int32} {a2 : Int64} {a3 : Int32} {a4 : Int32} {a5 : Int32} : ∀ G : ez_F, fx_up X 6 G 191 100 [.ref 35, .int a0, .int a1, .long a2, ez_fill, .int a3, .int a4] [.int a5] (ev_hp I J R T) cz kz = G 191 14 [.ref 35, .int (a5 + (1 : Int32)), .int (a1 + (1 : Int32)), .long a2, ez_fill, .int a3, .int a4] [] (ev_hp I J R T) cz kz := by
  intro G
  rfl
theorem fm_94 {n k b e : Int32} {u : Int64}
    (H : ((b = (0 : Int32) → pw N X 191 14 [.ref 35, .int (n + (0 : Int32)), .int (k + (1 : Int32))] [] (ev_hp I J R T) Q) ∧ (¬ (b = (0 : Int32)) → pw N X 191 14 [.ref 35, .int (n + (1 : Int32)), .int (k + (1 : Int32))] [] (ev_hp I J R T) Q))) : pw (N + 1) X 191 94 [.ref 35, .int n, .int k, .long u, ez_fill, .int b, .int e] [] (ev_hp I J R T) Q := by
  refine pw_if (by decide) (fun _ _ => fp_r44) (fun w1 => ?_) (fun w1 => ?_)
  · have h1 := H.1 w1
    refine pw_p (pw_seg (by decide) (fun _ _ => fp_r45) ?_)
    refine pw_cutl (by rfl) ?_
    exact h1
  · have h1 := H.2 w1
    refine pw_p (pw_seg (by decide) (fun _ _ => fp_r46) ?_)
    refine pw_cutl (by rfl) ?_
    exact h1
end
noncomputable def fal (p : Nat → Bool) : Nat → Bool
  | 0 => true
  | k + 1 => fal p k && p k
theorem fal_le {p : Nat → Bool} {k : Nat} (h : fal p k = false) : ∀ d, fal p (k + d) = false := by
  intro d
  induction d with
  | zero => exact h
  | succ d ih =>
    show (fal p (k + d) && p (k + d)) = false
    rw [ih]
    rfl
theorem fal_f {p : Nat → Bool} {k m : Nat} (hk : k < m) (h : p k = false) : fal p m = false := by
  have h1 : fal p (k + 1) = false := by
    show (fal p k && p k) = false
    rw [h, Bool.and_false]
  have h2 := fal_le h1 (m - (k + 1))
  rw [show k + 1 + (m - (k + 1)) = m by omega] at h2
  exact h2
theorem fal_c {p q : Nat → Bool} : ∀ k, (∀ i, i < k → p i = q i) → fal p k = fal q k := by
  intro k
  induction k with
  | zero => intro _; rfl
  | succ k ih =>
    intro h
    unfold fal
    rw [ih fun i hi => h i (by omega), h k (Nat.lt_succ_self k)]
noncomputable def ftq (c : Nat → Int32) (w h : Nat) (u : Int64) (r : Nat) : Bool := decide (c r = -1) || decide (c r = Int32.ofNat (rq w h r u))
noncomputable abbrev fit1 (c : Nat → Int32) (w h : Nat) (u : Int64) : Bool := fal (ftq c w h u) (w + h)
section
variable {N : Nat} {X : ez_X} {I I' I1 : Nat → Nat → Int32} {J J' J1 : Nat → Nat → Int64} {R R' R1 : Nat → Nat} {T T' T1 : List ez_C} {v x y : Int32} {f6 : Nat → Int32} {t : ly_t} {u : Int64} {w h : Nat}
theorem pe_fits (e3 : I 1 3 = Int32.ofNat w) (e4 : I 1 4 = Int32.ofNat h) (e8 : J 1 8 = fc_F (I 1 3) (I 1 4)) (hw : 2 ≤ w ∧ w ≤ 6) (hh : 2 ≤ h ∧ h ≤ 6) : pe N X 75 [.ref 32, .long u] (ev_hp I J R T) (fun q hp => q = some (.int (bif fit1 (I 33) w h u then 1 else 0)) ∧ hp = ev_hp I J R T) := by
  have loop : ∀ (d r : Nat), r + d = w + h → fal (ftq (I 33) w h u) r = true → ∀ N, pw N X 75 11 [.ref 32, .long u, ez_fill, .int (Int32.ofNat (w + h)), .int (Int32.ofNat r)] [] (ev_hp I J R T) (fun q hp => q = some (.int (bif fit1 (I 33) w h u then 1 else 0)) ∧ hp = ev_hp I J R T) := by
    intro d
    induction d with
    | zero =>
      intro r hr hf N
      obtain rfl : r = w + h := by omega
      exact pw_p (fa_11 ⟨fun _ _ => ⟨by unfold fit1; rw [hf]; rfl, rfl⟩, fun g => absurd (Int32.le_refl _) g⟩)
    | succ d ih =>
      intro r hr hf N
      have next : ftq (I 33) w h u r = true → pw N X 75 11 [.ref 32, .long u, ez_fill, .int (Int32.ofNat (w + h)), .int (Int32.ofNat r + (1 : Int32))] [] (ev_hp I J R T) (fun q hp => q = some (.int (bif fit1 (I 33) w h u then 1 else 0)) ∧ hp = ev_hp I J R T) := by
        intro g
        rw [io_1]
        refine ih (r + 1) (by omega) ?_ N
        show (fal (ftq (I 33) w h u) r && ftq (I 33) w h u r) = true
        rw [hf, g]
        rfl
      refine pw_p (fa_11 ?_)
      rw [at_in (by omega) (by decide)]
      refine ⟨fun g => ?_, fun _ => ⟨fun g => next ?_, fun g => ⟨_, pe_countIn (r := r) e3 e4 e8 hw hh (by omega) rfl, ?_⟩⟩⟩
      · rw [io_le (by omega) (by omega)] at g
        omega
      · unfold ftq
        rw [decide_eq_true g]
        rfl
      · rintro q hp ⟨rfl, rfl⟩
        refine pw_p (fa_43 ⟨fun g2 => next ?_, fun g2 _ => ⟨?_, rfl⟩⟩)
        · unfold ftq
          rw [decide_eq_true g2, Bool.or_true]
        · have hz : ftq (I 33) w h u r = false := by
            unfold ftq
            rw [decide_eq_false g, decide_eq_false g2]
            rfl
          unfold fit1
          rw [fal_f (k := r) (by omega) hz]
          rfl
  refine pe_of (pw_p (fa_0 ?_))
  rw [e3, e4, io_add, Nat.add_comm h w]
  exact loop (w + h) 0 (by omega) rfl N
noncomputable def fitP (c : Nat → Int32) (w h : Nat) (I : Nat → Nat → Int32) (J : Nat → Nat → Int64) (L : List ly_t) (k : Nat) : Bool := fit1 c w h (ly_w I J (L.getD k (0, 0, 0)))
theorem pe_fitL {L : List ly_t} {n : Nat} {f : Nat → Int32} (g2 : I 6 3 = Int32.ofNat L.length) (g3 : rowT (R 0) T n f) (g4 : L.length ≤ n) (g5 : n ≤ 10000) (g6 : ∀ (k : Nat) (hk : k < L.length), f k = ly_c L[k]) (hns : 0 ≤ (I 3 3).toInt ∧ (I 3 3).toInt ≤ 3) (hb : ∀ t, t ∈ L → t.1 < 512 ∧ t.2.1 < 512 ∧ t.2.2 < 512) (hin : ∀ t, t ∈ L → ∀ s, s < (I 3 3).toInt.toNat → ly_at t s < 288) (e3 : I 1 3 = Int32.ofNat w) (e4 : I 1 4 = Int32.ofNat h) (e8 : J 1 8 = fc_F (I 1 3) (I 1 4)) (hw : 2 ≤ w ∧ w ≤ 6) (hh : 2 ≤ h ∧ h ≤ 6) : pe N X 76 [.ref 32] (ev_hp I J R T) (fun q hp => q = some (.int (Int32.ofNat (cq (fitP (I 33) w h I J L) L.length))) ∧ hp = ev_hp I J R T) := by
  have loop : ∀ (d k : Nat), k + d = L.length → ∀ N, pw N X 76 12 [.ref 32, .int (Int32.ofNat L.length), .int (Int32.ofNat (cq (fitP (I 33) w h I J L) k)), .int (Int32.ofNat k)] [] (ev_hp I J R T) (fun q hp => q = some (.int (Int32.ofNat (cq (fitP (I 33) w h I J L) L.length))) ∧ hp = ev_hp I J R T) := by
    intro d
    induction d with
    | zero =>
      intro k hk N
      obtain rfl : k = L.length := by omega
      exact pw_p (fb_12 ⟨fun _ => ⟨rfl, rfl⟩, fun g => absurd (Int32.le_refl _) g⟩)
    | succ d ih =>
      intro k hkd N
      have hk : k < L.length := by omega
      have hm := List.getElem_mem hk
      obtain ⟨b0, b1, b2⟩ := hb _ hm
      refine pw_p (fb_12 ⟨fun g => ?_, fun _ => ⟨_, pe_cellsOf (t := L[k]) g3 g5 (by rw [at_k (by omega) g5, g6 k hk]) hns b0 b1 b2 (hin _ hm), ?_⟩⟩)
      · rw [io_le (by omega) (by omega)] at g
        omega
      · rintro q hp ⟨rfl, rfl⟩
        refine pw_p (fb_26 ⟨_, pe_fits e3 e4 e8 hw hh, ?_⟩)
        rintro q hp ⟨rfl, rfl⟩
        have hq : cq (fitP (I 33) w h I J L) (k + 1) = cq (fitP (I 33) w h I J L) k + (bif fitP (I 33) w h I J L k then 1 else 0) := rfl
        have hP : fitP (I 33) w h I J L k = fit1 (I 33) w h (ly_w I J L[k]) := by
          unfold fitP
          rw [ly_gd hk]
        rw [hP] at hq
        have h5 := ih (k + 1) (by omega) N
        rw [hq] at h5
        cases hz : fit1 (I 33) w h (ly_w I J L[k])
        · rw [hz] at h5
          refine pw_p (fb_29 ⟨fun _ => ?_, fun g => absurd rfl g⟩)
          rw [io_1]
          exact h5
        · rw [hz] at h5
          refine pw_p (fb_29 ⟨fun g => absurd g (by decide), fun _ => ?_⟩)
          rw [io_1, io_1]
          exact h5
  refine pe_of (pw_p (fb_0 ?_))
  rw [g2]
  exact loop L.length 0 (by omega) N
noncomputable def v_fit (I : Nat → Nat → Int32) (J : Nat → Nat → Int64) : Int32 := if sn I 0 * (sn I 1 * sn I 2) ≤ 10000 then Int32.ofNat (cq (fitP (I 33) (I 1 3).toInt.toNat (I 1 4).toInt.toNat I J (ls I J)) (ls I J).length) else -6
theorem pe_xfit (hr : rl I J) (hh : cx_hok cx_B0 I R T) (hc : cp I J R T) : pe N X 17 [.ref 0] (ev_hp I J R T) (fun r h => r = some (.int (v_fit I J)) ∧ se_H I J R T h) := by
  have hns := (b_sh hh.1).1
  obtain ⟨w, ht, ew, eh, hw, hhh⟩ := wh_is hh.1
  refine pe_of (pw_p (xo_fitting ⟨_, pe_tm hr hh hc, ?_⟩))
  rintro r h (⟨h1, rfl, rfl⟩ | ⟨h1, rfl, h2⟩)
  · refine pw_p (fc_4 ⟨fun z => absurd z (by decide), fun _ => pw_p (fc_19 ⟨?_, Or.inl rfl⟩)⟩)
    unfold v_fit
    rw [if_neg (by omega)]
  · obtain ⟨f6, R', T', rfl, g1, ⟨g2, n, f, g3, g4, g5, g6⟩, g7⟩ := h2
    have c1 : ev_sI I 6 f6 1 = I 1 := cx_sI_n _ _ (by decide)
    have c3 : ev_sI I 6 f6 3 = I 3 := cx_sI_n _ _ (by decide)
    have c33 : ev_sI I 6 f6 33 = I 33 := cx_sI_n _ _ (by decide)
    refine pw_p (fc_4 ⟨fun _ => ⟨_, pe_fitL (w := w) (h := ht) g2 g3 g4 g5 g6 (by rw [c3]; exact hns) (fun t ht => ls_512 hr hh.1 ht) (fun t ht s hs => ?_) (by rw [c1]; exact ew) (by rw [c1]; exact eh) (by rw [c1]; exact hc.1.2.2.1) hw hhh, ?_⟩, fun z => absurd rfl z⟩)
    · rw [c3] at hs
      have := ly_in hr hh.1 ht hs
      have := (fi_n hr hs).2.1
      omega
    · rintro q h ⟨rfl, rfl⟩
      refine pw_p (fc_19 ⟨?_, Or.inr ⟨f6, R', T', rfl⟩⟩)
      unfold v_fit
      rw [if_pos h1, c33, ew, eh, io_ti (by omega), io_ti (by omega), Int.toNat_natCast, Int.toNat_natCast]
      congr 3
theorem km_c (e : kx I = km I) {r : Nat} (hr : r < 12) : I 33 r = I 61 r := by
  have h : (if r < 12 then I 33 r else 0) = (if r < 12 then I 61 r else 0) := congrFun (congrArg (fun K : kt_K => K.2.2.2.2.2.2.2.2.2.2.2) e) r
  rw [if_pos hr, if_pos hr] at h
  exact h
theorem pw_mfits {n k : Int32} {Q : pw_Q} (e0 : I 35 0 = Int32.ofNat w) (e1 : I 35 1 = Int32.ofNat h) (hw : 2 ≤ w ∧ w ≤ 6) (hh : 2 ≤ h ∧ h ≤ 6) (H : ∀ (r : Int32) (N : Nat), pw N X 191 94 [.ref 35, .int n, .int k, .long u, ez_fill, .int (bif fit1 (I 61) w h u then 1 else 0), .int r] [] (ev_hp I J R T) Q) : ∀ N, pw N X 191 34 [.ref 35, .int n, .int k, .long u, ez_fill, .int (1 : Int32), .int (0 : Int32)] [] (ev_hp I J R T) Q := by
  have loop : ∀ (d r : Nat), r + d = w + h → ∀ N, pw N X 191 34 [.ref 35, .int n, .int k, .long u, ez_fill, .int (bif fal (ftq (I 61) w h u) r then 1 else 0), .int (Int32.ofNat r)] [] (ev_hp I J R T) Q := by
    intro d
    induction d with
    | zero =>
      intro r hr N
      obtain rfl : r = w + h := by omega
      refine pw_p (fm_34 ⟨fun _ => H _ _, fun g => ?_⟩)
      rw [e0, e1, io_add] at g
      exact absurd (Int32.le_refl _) g
    | succ d ih =>
      intro r hr N
      have hs : fal (ftq (I 61) w h u) (r + 1) = (fal (ftq (I 61) w h u) r && ftq (I 61) w h u r) := rfl
      have h5 := ih (r + 1) (by omega) N
      rw [hs] at h5
      refine pw_p (fm_34 ?_)
      rw [e0, e1, io_add, io_cl (by omega)]
      refine ⟨fun g => ?_, fun _ => ⟨fun g => ?_, fun g _ => ⟨fun g2 => ?_, fun g2 _ => ⟨_, pe_countOf (r := r) e0 e1 hw hh (by omega) rfl, ?_⟩⟩⟩⟩
      · rw [io_le (by omega) (by omega)] at g
        omega
      · cases hz : fal (ftq (I 61) w h u) r
        · have h6 := H (Int32.ofNat r) N
          have h7 := fal_le hz (w + h - r)
          rw [show r + (w + h - r) = w + h by omega] at h7
          unfold fit1 at h6
          rw [h7] at h6
          exact h6
        · rw [hz] at g
          exact absurd g (by decide)
      · have hz : fal (ftq (I 61) w h u) r = true := by
          cases hz : fal (ftq (I 61) w h u) r
          · rw [hz] at g
            exact absurd rfl g
          · rfl
        have hf : ftq (I 61) w h u r = true := by
          unfold ftq
          rw [decide_eq_true g2]
          rfl
        rw [hz, hf] at h5
        rw [io_1]
        exact h5
      · have hz : fal (ftq (I 61) w h u) r = true := by
          cases hz : fal (ftq (I 61) w h u) r
          · rw [hz] at g
            exact absurd rfl g
          · rfl
        rintro q hp ⟨rfl, rfl⟩
        refine pw_p (fm_78 ⟨fun g3 => ?_, fun g3 => ?_⟩)
        · have hf : ftq (I 61) w h u r = false := by
            unfold ftq
            rw [decide_eq_false g2, decide_eq_false g3]
            rfl
          rw [hz, hf] at h5
          rw [io_1]
          exact h5
        · have hf : ftq (I 61) w h u r = true := by
            unfold ftq
            rw [decide_eq_true (Classical.not_not.mp g3), Bool.or_true]
          rw [hz, hf] at h5
          rw [io_1]
          exact h5
  exact loop (w + h) 0 (by omega)
theorem pe_mfit (hr : rl I J) (hm : mk I J) (hB : cx_hB cx_B0 I) : pe N X 191 [.ref 35] (ev_hp I J R T) (fun r _ => r = some (.int (v_fit I J))) := by
  have hns := (b_sh hB).1
  obtain ⟨e0, e1, -, e3⟩ := km_0 hr.1
  obtain ⟨w, ht, ew, eh, hw, hhh⟩ := wh_is hB
  refine pe_of (pw_p (fm_0 ⟨_, pe_laid hr hB N, ?_⟩))
  rintro r h ⟨I', J', ⟨fI, fJ, fE⟩, ⟨h1, rfl, rfl⟩ | ⟨h1, rfl, w', rfl, hw'⟩⟩
  · refine pw_p (fm_4 ⟨fun z => absurd rfl z, fun _ => ?_⟩)
    unfold v_fit
    rw [pr_is hr hB, if_neg (by omega)]
  · have hlen := ly_1l (lm_p (rf_n I) (rf_f J) (rf_g I J)) (lm_q (rf_n I) (rf_f J) (rf_g I J)) (mm (in_n I) (rf_n I) 1) (mm (in_n I) (rf_n I) 2) (mm (in_n I) (rf_n I) 0)
    have hlen2 : (lm_L (rf_n I) (in_n I) (rf_f J) (rf_g I J)).length ≤ 10000 := Nat.le_trans hlen (by rw [pr_mm _ (rf_ns hB).2]; exact h1)
    rw [← ls_is hr hm hB] at hw' hlen2 ⊢
    have e14 : al_I I' w' (ls I J).length 35 14 = Int32.ofNat (ls I J).length := by
      unfold al_I
      rw [cx_sI_s, upd_s]
    have e41 : al_I I' w' (ls I J).length 41 = w' := by
      unfold al_I
      rw [cx_sI_n _ _ (by decide), cx_sI_s]
    have e61 : al_I I' w' (ls I J).length 61 = I 61 := by
      unfold al_I
      rw [cx_sI_n _ _ (by decide), cx_sI_n _ _ (by decide), fI 61 (by decide)]
    have e35 : ∀ k, k ≠ 14 → al_I I' w' (ls I J).length 35 k = I 35 k := fun k hk => by
      unfold al_I
      rw [cx_sI_s, upd_n _ _ hk, fI 35 (by decide)]
    have hfit : ∀ u, fit1 (I 61) w ht u = fit1 (I 33) w ht u := fun u => fal_c _ fun r hr2 => by
      unfold ftq
      rw [km_c hr.1 (show r < 12 by omega)]
    have loop : ∀ (d k : Nat), k + d = (ls I J).length → ∀ N, pw N X 191 14 [.ref 35, .int (Int32.ofNat (cq (fitP (I 33) w ht I J (ls I J)) k)), .int (Int32.ofNat k)] [] (ev_hp (al_I I' w' (ls I J).length) J' R T) (fun r _ => r = some (.int (Int32.ofNat (cq (fitP (I 33) w ht I J (ls I J)) (ls I J).length)))) := by
      intro d
      induction d with
      | zero =>
        intro k hk N
        obtain rfl : k = (ls I J).length := by omega
        refine pw_p (fm_14 ⟨fun _ => rfl, fun g => ?_⟩)
        rw [e14] at g
        exact absurd (Int32.le_refl _) g
      | succ d ih =>
        intro k hkd N
        have hk : k < (ls I J).length := by omega
        have hmem := List.getElem_mem hk
        have hw2 := hw' k hk
        refine pw_p (fm_14 ⟨fun g => ?_, fun _ => ⟨_, pe_mcells (t := (ls I J)[k]) (k := k) (ns := rf_n I) (e := fun s => J 4 (288 * s + ly_at (ls I J)[k] s)) rfl (by omega) (by rw [e35 3 (by decide)]; exact (rf_ns hB).1) (rf_ns hB).2 (fun s hs => ?_) (fun s hs => ?_) (fun s hs => ?_), ?_⟩⟩)
        · rw [e14, io_le (by omega) (by omega)] at g
          omega
        · rw [e41]
          have := (rf_ns hB).2
          rcases (show s = 0 ∨ s = 1 ∨ s = 2 by omega) with rfl | rfl | rfl
          · exact hw2.1
          · exact hw2.2.1
          · exact hw2.2.2
        · have hs' : s < (I 3 3).toInt.toNat := by rw [e3]; exact hs
          have := ly_in hr hB hmem hs'
          have := (fi_n hr hs').2.1
          omega
        · have hs' : s < (I 3 3).toInt.toNat := by rw [e3]; exact hs
          exact ((fE s hs).2 _ (ly_in hr hB hmem hs')).1
        · rintro q h ⟨rfl, rfl⟩
          refine pw_p (fm_27 (pw_mfits (w := w) (h := ht) (by rw [e35 0 (by decide), ← e0]; exact ew) (by rw [e35 1 (by decide), ← e1]; exact eh) hw hhh (fun r N => ?_) _))
          have en : rf_n I = (I 3 3).toInt.toNat := by unfold rf_n; rw [e3]
          rw [e61, hfit, en, ← ly_w_or (by omega)]
          have hq : cq (fitP (I 33) w ht I J (ls I J)) (k + 1) = cq (fitP (I 33) w ht I J (ls I J)) k + (bif fitP (I 33) w ht I J (ls I J) k then 1 else 0) := rfl
          have hP : fitP (I 33) w ht I J (ls I J) k = fit1 (I 33) w ht (ly_w I J (ls I J)[k]) := by
            unfold fitP
            rw [ly_gd hk]
          rw [hP] at hq
          have h5 := ih (k + 1) (by omega) N
          rw [hq] at h5
          cases hz : fit1 (I 33) w ht (ly_w I J (ls I J)[k])
          · rw [hz] at h5
            refine pw_p (fm_94 ⟨fun _ => ?_, fun g => absurd rfl g⟩)
            rw [io_1, Int32.add_zero]
            exact h5
          · rw [hz] at h5
            refine pw_p (fm_94 ⟨fun g => absurd g (by decide), fun _ => ?_⟩)
            rw [io_1, io_1]
            exact h5
    refine pw_p (fm_4 ⟨fun _ => ?_, fun z => absurd (by decide) z⟩)
    unfold v_fit
    rw [pr_is hr hB, if_pos h1, ew, eh, io_ti (by omega), io_ti (by omega), Int.toNat_natCast, Int.toNat_natCast]
    exact loop (ls I J).length 0 (by omega) N
theorem lxc_fitting (hX2 : X.1 < 2 ^ 31) (hh : cx_hok cx_B0 I R T) (hr : rl2 I J R T) : ev_W X 17 0 (ez_lay [.ref 0]) [] (ev_hp I J R T) 0 0 (lw_mid T (fun v I1 J1 R1 T1 => v = v_fit I1 J1 ∧ rl2 I1 J1 R1 T1)) := by
  refine (W_pe (l2x_fitting hX2 hh hr) (fun N => pe_xfit (N := N) hr.1 hh hr.2)).mono ?_
  rintro r h c k ⟨⟨v, I1, J1, R1, T1, e1, e2, e3, e4, e5, e6⟩, q1, q2⟩
  refine ⟨v, I1, J1, R1, T1, e1, e2, e3, e4, e5, ?_, e6⟩
  rw [e1] at q1
  injection q1 with q1
  injection q1 with q1
  rw [e2] at q2
  obtain ⟨h1, h2⟩ := ls_H q2
  have hf : ∀ (p n cc k q : Nat) (fl : List (Nat × Nat)), p ≠ 6 → cx_Ds[p]? = some (n + 2, cc, fl) → fl[k]? = some (0, q) → I1 p k = I p k := by
    intro p n cc k q fl hp hd hq
    rcases q2 with e | ⟨f6, R2, T2, e⟩
    · exact h1_f hd hq (by rw [e])
    · have e7 : I1 p k = ev_sI I 6 f6 p k := h1_f hd hq (by rw [e])
      rw [e7, cx_sI_n _ _ hp]
  have h4 : J1 4 = J 4 := by
    rcases q2 with e | ⟨f6, R2, T2, e⟩
    · exact hp_rowJ (show cx_Ds[4]? = some (1, _, _) from rfl) e
    · exact hp_rowJ (show cx_Ds[4]? = some (1, _, _) from rfl) e
  have h33r : I1 33 = I 33 := by
    rcases q2 with e | ⟨f6, R2, T2, e⟩
    · exact hp_row (show cx_Ds[33]? = some (0, _, _) from rfl) e
    · have e7 : I1 33 = ev_sI I 6 f6 33 := hp_row (show cx_Ds[33]? = some (0, _, _) from rfl) e
      rw [e7, cx_sI_n _ _ (by decide)]
  have h33 : I1 3 3 = I 3 3 := hf 3 0 _ 3 _ _ (by decide) (show cx_Ds[3]? = some (0 + 2, _, _) from rfl) rfl
  have h13 : I1 1 3 = I 1 3 := hf 1 0 _ 3 _ _ (by decide) (show cx_Ds[1]? = some (0 + 2, _, _) from rfl) rfl
  have h14 : I1 1 4 = I 1 4 := hf 1 0 _ 4 _ _ (by decide) (show cx_Ds[1]? = some (0 + 2, _, _) from rfl) rfl
  have hP : fitP (I1 33) (I1 1 3).toInt.toNat (I1 1 4).toInt.toNat I1 J1 (ls I1 J1) = fitP (I 33) (I 1 3).toInt.toNat (I 1 4).toInt.toNat I J (ls I J) := funext fun k => by
    unfold fitP ly_w ly_s
    rw [h1, h33r, h33, h13, h14, h4]
  rw [q1]
  unfold v_fit
  rw [hP, h1, h2 0, h2 1, h2 2]
theorem lmc_fitting (hX2 : X.1 < 2 ^ 31) (hh : cx_hok cx_B0 I R T) (hr : rl2 I J R T) (hh1 : cx_hok cx_B0 I1 R1 T1) (hm : v = v_fit I1 J1 ∧ rl2 I1 J1 R1 T1) : ev_W X 191 0 (ez_lay [.ref 35]) [] (ev_hp I1 J1 R1 T1) 0 0 (lw_mid T1 (fun u I2 J2 R2 T2 => u = v ∧ rl2 I2 J2 R2 T2)) := by
  refine (W_pe (l2m_fitting hX2 hh1 hm.2) (fun N => pe_mfit (N := N) hm.2.1 hm.2.2.1 hh1.1)).mono ?_
  rintro r h c k ⟨⟨u, I2, J2, R2, T2, e1, e2, e3, e4, e5, e6⟩, q1⟩
  refine ⟨u, I2, J2, R2, T2, e1, e2, e3, e4, e5, ?_, e6⟩
  rw [e1] at q1
  injection q1 with q1
  injection q1 with q1
  rw [q1]
  exact hm.1.symm
end
end
