/-! The calls that the law makes, one on each side. -/
theorem lw_mono {T : List ez_C} {M M2 : Int32 → (Nat → Nat → Int32) → (Nat → Nat → Int64) → (Nat → Nat) → List ez_C → Prop} (h : ∀ v I J R T, M v I J R T → M2 v I J R T) : ∀ r h1 c k, lw_mid T M r h1 c k → lw_mid T M2 r h1 c k := fun r h1 c k ⟨v, I, J, R, T, e1, e2, e3, e4, e5, e6⟩ => ⟨v, I, J, R, T, e1, e2, e3, e4, e5, h _ _ _ _ _ e6⟩
section
variable {X : ez_X} {I I1 : Nat → Nat → Int32} {J J1 : Nat → Nat → Int64} {R R1 : Nat → Nat} {T T1 : List ez_C} {v : Int32}
theorem lx_set (hX2 : X.1 < 2 ^ 31) (hh : cx_hok cx_B0 I R T) (hr : rl I J) (x y : Int32) : ev_W X 42 0 (ez_lay [.ref 0, .int x, .int y]) [] (ev_hp I J R T) 0 0 (lw_mid T (mi_k ck_42_0.2.1 (kf_set x y) I J)) :=
  lx_k cv_42_0 (by rfl) hX2 hh ao_2 (kc_set X I J R T x y)
theorem lm_set (hX2 : X.1 < 2 ^ 31) (hr : rl I J) (x y : Int32) (hh1 : cx_hok cx_B0 I1 R1 T1) (hm : mi_k ck_42_0.2.1 (kf_set x y) I J v I1 J1 R1 T1) : ev_W X 219 0 (ez_lay [.ref 35, .int x, .int y]) [] (ev_hp I1 J1 R1 T1) 0 0 (lw_mid T1 (fun u I2 J2 _ _ => u = v ∧ rl I2 J2)) :=
  (lm_k cv_219_0 (by rfl) hX2 hh1 ao_2 (kd_set X I1 J1 R1 T1 x y)).mono (lw_mono fun u I2 J2 R2 T2 h => rl_k (by rfl) (by rfl) hr hm h)
theorem lx_drift (hX2 : X.1 < 2 ^ 31) (hh : cx_hok cx_B0 I R T) (hr : rl I J) (x y : Int32) : ev_W X 16 0 (ez_lay [.ref 0, .int x, .int y]) [] (ev_hp I J R T) 0 0 (lw_mid T (mi_k ck_16_0.2.1 (kf_drift x y) I J)) :=
  lx_k cv_16_0 (by rfl) hX2 hh ao_2 (kc_drift X I J R T x y)
theorem lm_drift (hX2 : X.1 < 2 ^ 31) (hr : rl I J) (x y : Int32) (hh1 : cx_hok cx_B0 I1 R1 T1) (hm : mi_k ck_16_0.2.1 (kf_drift x y) I J v I1 J1 R1 T1) : ev_W X 185 0 (ez_lay [.ref 35, .int x, .int y]) [] (ev_hp I1 J1 R1 T1) 0 0 (lw_mid T1 (fun u I2 J2 _ _ => u = v ∧ rl I2 J2)) :=
  (lm_k cv_185_0 (by rfl) hX2 hh1 ao_2 (kd_drift X I1 J1 R1 T1 x y)).mono (lw_mono fun u I2 J2 R2 T2 h => rl_k (by rfl) (by rfl) hr hm h)
theorem lx_call (hX2 : X.1 < 2 ^ 31) (hh : cx_hok cx_B0 I R T) (hr : rl I J) (x : Int32) : ev_W X 10 0 (ez_lay [.ref 0, .int x]) [] (ev_hp I J R T) 0 0 (lw_mid T (mi_k ck_10_0.2.1 (kf_call x) I J)) :=
  lx_k cv_10_0 (by rfl) hX2 hh ao_1 (kc_call X I J R T x)
theorem lm_call (hX2 : X.1 < 2 ^ 31) (hr : rl I J) (x : Int32) (hh1 : cx_hok cx_B0 I1 R1 T1) (hm : mi_k ck_10_0.2.1 (kf_call x) I J v I1 J1 R1 T1) : ev_W X 175 0 (ez_lay [.ref 35, .int x]) [] (ev_hp I1 J1 R1 T1) 0 0 (lw_mid T1 (fun u I2 J2 _ _ => u = v ∧ rl I2 J2)) :=
  (lm_k cv_175_0 (by rfl) hX2 hh1 ao_1 (kd_call X I1 J1 R1 T1 hh1.1 x)).mono (lw_mono fun u I2 J2 R2 T2 h => rl_k (by rfl) (by rfl) hr hm h)
theorem lx_salvo (hX2 : X.1 < 2 ^ 31) (hh : cx_hok cx_B0 I R T) (hr : rl I J) (x y : Int32) : ev_W X 41 0 (ez_lay [.ref 0, .int x, .int y]) [] (ev_hp I J R T) 0 0 (lw_mid T (mi_k ck_41_0.2.1 (kf_salvo x y) I J)) :=
  lx_k cv_41_0 (by rfl) hX2 hh ao_2 (kc_salvo X I J R T x y)
theorem lm_salvo (hX2 : X.1 < 2 ^ 31) (hr : rl I J) (x y : Int32) (hh1 : cx_hok cx_B0 I1 R1 T1) (hm : mi_k ck_41_0.2.1 (kf_salvo x y) I J v I1 J1 R1 T1) : ev_W X 218 0 (ez_lay [.ref 35, .int x, .int y]) [] (ev_hp I1 J1 R1 T1) 0 0 (lw_mid T1 (fun u I2 J2 _ _ => u = v ∧ rl I2 J2)) :=
  (lm_k cv_218_0 (by rfl) hX2 hh1 ao_2 (kd_salvo X I1 J1 R1 T1 hh1.1 x y)).mono (lw_mono fun u I2 J2 R2 T2 h => rl_k (by rfl) (by rfl) hr hm h)
theorem lx_back (hX2 : X.1 < 2 ^ 31) (hh : cx_hok cx_B0 I R T) (hr : rl I J) : ev_W X 5 0 (ez_lay [.ref 0]) [] (ev_hp I J R T) 0 0 (lw_mid T (mi_k ck_5_0.2.1 kf_back I J)) :=
  lx_k cv_5_0 (by rfl) hX2 hh ao_0 (kc_back X I J R T hh.1)
theorem lm_back (hX2 : X.1 < 2 ^ 31) (hr : rl I J) (hh1 : cx_hok cx_B0 I1 R1 T1) (hm : mi_k ck_5_0.2.1 kf_back I J v I1 J1 R1 T1) : ev_W X 168 0 (ez_lay [.ref 35]) [] (ev_hp I1 J1 R1 T1) 0 0 (lw_mid T1 (fun u I2 J2 _ _ => u = v ∧ rl I2 J2)) :=
  (lm_k cv_168_0 (by rfl) hX2 hh1 ao_0 (kd_back X I1 J1 R1 T1)).mono (lw_mono fun u I2 J2 R2 T2 h => rl_k (by rfl) (by rfl) hr hm h)
theorem lx_count (hX2 : X.1 < 2 ^ 31) (hh : cx_hok cx_B0 I R T) (hr : rl I J) (x y : Int32) : ev_W X 14 0 (ez_lay [.ref 0, .int x, .int y]) [] (ev_hp I J R T) 0 0 (lw_mid T (mi_k ck_14_0.2.1 (kf_count x y) I J)) :=
  lx_k cv_14_0 (by rfl) hX2 hh ao_2 (kc_count X I J R T hh.1 x y)
theorem lm_count (hX2 : X.1 < 2 ^ 31) (hr : rl I J) (x y : Int32) (hh1 : cx_hok cx_B0 I1 R1 T1) (hm : mi_k ck_14_0.2.1 (kf_count x y) I J v I1 J1 R1 T1) : ev_W X 182 0 (ez_lay [.ref 35, .int x, .int y]) [] (ev_hp I1 J1 R1 T1) 0 0 (lw_mid T1 (fun u I2 J2 _ _ => u = v ∧ rl I2 J2)) :=
  (lm_k cv_182_0 (by rfl) hX2 hh1 ao_2 (kd_count X I1 J1 R1 T1 hh1.1 x y)).mono (lw_mono fun u I2 J2 R2 T2 h => rl_k (by rfl) (by rfl) hr hm h)
end
section
variable {X : ez_X} {I I1 : Nat → Nat → Int32} {J J1 : Nat → Nat → Int64} {R R1 : Nat → Nat} {T T1 : List ez_C} {v x y z : Int32}
theorem lx_grid (hX2 : X.1 < 2 ^ 31) (hh : cx_hok cx_B0 I R T) (hr : rl I J) (x y b : Int32) (hb : b = 0 ∨ b = 1) : ev_W X 18 0 (ez_lay [.ref 0, .int x, .int y, .int b]) [] (ev_hp I J R T) 0 0 (lw_mid T (mi_k ck_18_0.2.1 (kf_grid x y b) I J)) :=
  lx_k cv_18_0 (by rfl) hX2 hh (ao_g hb) (kc_grid X I J R T x y b hb)
theorem lm_grid (hX2 : X.1 < 2 ^ 31) (hr : rl I J) (x y b : Int32) (hb : b = 0 ∨ b = 1) (hh1 : cx_hok cx_B0 I1 R1 T1) (hm : mi_k ck_18_0.2.1 (kf_grid x y b) I J v I1 J1 R1 T1) : ev_W X 195 0 (ez_lay [.ref 35, .int x, .int y, .int b]) [] (ev_hp I1 J1 R1 T1) 0 0 (lw_mid T1 (fun u I2 J2 _ _ => u = v ∧ rl I2 J2)) := by
  refine (lm_k cv_195_0 (by rfl) hX2 hh1 (ao_g hb) (kd_grid X I1 J1 R1 T1 x y b hb)).mono (lw_mono fun u I2 J2 R2 T2 h => ?_)
  obtain ⟨x1, x2, x3⟩ := hm
  obtain ⟨m1, m2, m3⟩ := h
  rw [x2] at m1
  have m1' := m1
  rw [← hr.1] at m1
  have huv := x1.trans m1.symm
  refine ⟨(congrArg Prod.fst huv).symm, by rw [m2]; exact congrArg Prod.snd huv, ?_⟩
  have ek := congrArg Prod.snd m1'
  simp only at ek
  unfold kf_grid at ek
  have same : km I2 = km I → fi I2 J2 := fun e => fi_same hr.2 (congrArg (fun K => kt_sh K) e) (congrArg (fun K => K.1) e) (congrArg (fun K => K.2.1) e) (congrArg (fun K => K.2.2.1) e)
    ((fr_I (by rfl) m3).trans (fr_I (by rfl) x3)) ((fr_I (by rfl) m3).trans (fr_I (by rfl) x3)) ((fr_I (by rfl) m3).trans (fr_I (by rfl) x3)) ((fr_J (by rfl) m3).trans (fr_J (by rfl) x3))
  split at ek
  · exact same ek
  · split at ek
    · exact same ek
    · exact fi_none (congrArg (fun K => kt_sh K) ek)
theorem srt_congr {f g : Nat → Int64} {B C n : Nat} (e : ∀ a, a < n → f (B + a) = g (C + a)) (h : srt g C n) : srt f B n := fun a b hab hb => by
  rw [e a (by omega), e b hb]
  exact h a b hab hb
theorem in_congr {f g : Nat → Int64} {B C n : Nat} (e : ∀ a, a < n → f (B + a) = g (C + a)) (w : Int64) : inrow f B n w ↔ inrow g C n w := by
  constructor
  · rintro ⟨a, ha, h⟩
    exact ⟨a, ha, by rw [← e a ha]; exact h⟩
  · rintro ⟨a, ha, h⟩
    exact ⟨a, ha, by rw [e a ha]; exact h⟩
/-- what the class's ship leaves -/
def mi_ship (x y : Int32) (I : Nat → Nat → Int32) (J : Nat → Nat → Int64) (I1 : Nat → Nat → Int32) (J1 : Nat → Nat → Int64) : Prop := (I1 5 = I 5 ∧ J1 4 = J 4 ∧ I1 3 3 = I 3 3) ∨
  ∃ sh tn ns : Nat, x = Int32.ofNat sh ∧ sh < 65536 ∧ y = Int32.ofNat tn ∧ tn < 3 ∧ ns < 3 ∧ I 3 3 = Int32.ofNat ns ∧ I1 3 3 = Int32.ofNat (ns + 1) ∧ ∃ I2 J2, fl I J ns (sp_M (I 1 3) (I 1 4) (I 1 5) sh (sp_k tn)) I2 J2 ∧ I1 5 = I2 5 ∧ J1 4 = J2 4
theorem lx_ship (hX2 : X.1 < 2 ^ 31) (hh : cx_hok cx_B0 I R T) (hr : rl I J) (x y : Int32) : ev_W X 43 0 (ez_lay [.ref 0, .int x, .int y]) [] (ev_hp I J R T) 0 0 (lw_mid T (fun v I1 J1 R1 T1 => mi_k ck_43_0.2.1 (kf_ship x y) I J v I1 J1 R1 T1 ∧ mi_ship x y I J I1 J1)) := by
  refine (W_pe (lx_k cv_43_0 (by rfl) hX2 hh ao_2 (kc_ship X I J R T hX2 hh x y)) (fun N => pe_ship (N := N) hh.1)).mono ?_
  rintro r h c k ⟨⟨v, I1, J1, R1, T1, e1, e2, e3, e4, e5, e6⟩, I', J', R', T', q1, q2⟩
  have e := e2.symm.trans q1
  have r5 := hp_row (show cx_Ds[5]? = some (0, _, _) from rfl) e
  have r4 := hp_rowJ (show cx_Ds[4]? = some (1, _, _) from rfl) e
  have r3 := hp_fld (n := 0) (k := 3) (show cx_Ds[3]? = some (0 + 2, _, _) from rfl) rfl e
  refine ⟨v, I1, J1, R1, T1, e1, e2, e3, e4, e5, e6, ?_⟩
  unfold mi_ship
  rw [r5, r4, r3]
  exact q2
theorem fi_hp {I I' : Nat → Nat → Int32} {J J' : Nat → Nat → Int64} {R R' : Nat → Nat} {T T' : List ez_C} (e : ev_hp I J R T = ev_hp I' J' R' T') (h : fi I J) : fi I' J' := by
  have f : ∀ k, (k = 0 ∨ k = 1 ∨ k = 2 ∨ k = 3) → I' 35 k = I 35 k := by
    intro k hk
    rcases hk with rfl | rfl | rfl | rfl <;> exact (hp_fld (n := 0) (show cx_Ds[35]? = some (0 + 2, _, _) from rfl) rfl e).symm
  exact fi_same h (f 3 (by decide)) (f 0 (by decide)) (f 1 (by decide)) (f 2 (by decide)) (hp_row (show cx_Ds[36]? = some (0, _, _) from rfl) e).symm (hp_row (show cx_Ds[37]? = some (0, _, _) from rfl) e).symm (hp_row (show cx_Ds[5]? = some (0, _, _) from rfl) e).symm (hp_rowJ (show cx_Ds[4]? = some (1, _, _) from rfl) e).symm
theorem io_ne1 {n : Nat} (h : n < 1000) : ¬ Int32.ofNat n = Int32.ofNat n + 1 := fun e => by
  rw [io_1, io_eq (by omega) (by omega)] at e
  omega
theorem lm_ship (hX2 : X.1 < 2 ^ 31) (hh : cx_hok cx_B0 I R T) (hr : rl I J) (x y : Int32) (hh1 : cx_hok cx_B0 I1 R1 T1) (hm : mi_k ck_43_0.2.1 (kf_ship x y) I J v I1 J1 R1 T1 ∧ mi_ship x y I J I1 J1) : ev_W X 220 0 (ez_lay [.ref 35, .int x, .int y]) [] (ev_hp I1 J1 R1 T1) 0 0 (lw_mid T1 (fun u I2 J2 _ _ => u = v ∧ rl I2 J2)) := by
  have hs1 := (b_sh hh1.1).2
  have hix : ¬ I1 35 3 = 3 → ev_ix (I1 35 3) 3 := fun hn => fs_ixs hs1.1 (by
    have : ¬ (I1 35 3).toInt = 3 := fun e => hn (cx_i32_eq (by rw [e]; decide))
    omega)
  refine ((lm_k cv_220_0 (by rfl) hX2 hh1 ao_2 (kd_ship X I1 J1 R1 T1 hh1.1 x y)).both (em_ship X I1 J1 R1 T1 x y hix)).mono ?_
  rintro r h c k ⟨⟨u, I2, J2, R2, T2, e1, e2, e3, e4, e5, m1, m2, m3⟩, hc⟩
  obtain ⟨⟨x1, x2, x3⟩, hsh⟩ := hm
  have kIJ := km_0 hr.1
  rw [x2, ← hr.1] at m1
  have huv := x1.trans m1.symm
  have hk2 : kx I2 = km I2 := by rw [m2]; exact congrArg Prod.snd huv
  have s2 : I2 3 3 = I1 3 3 := congrArg (fun K => kt_sh K) m2
  have s3 := (km_0 hk2).2.2.2
  have a0 : I1 35 0 = I 35 0 := congrArg (fun K => K.1) x2
  have a1 : I1 35 1 = I 35 1 := congrArg (fun K => K.2.1) x2
  have a2 : I1 35 2 = I 35 2 := congrArg (fun K => K.2.2.1) x2
  have a3 : I1 35 3 = I 35 3 := congrArg (fun K => kt_sh K) x2
  have a36 : I1 36 = I 36 := fr_I (by rfl) x3
  have a37 : I1 37 = I 37 := fr_I (by rfl) x3
  have hs0 := (b_sh hh.1).1
  -- refused
  have old : h = ev_hp I1 J1 R1 T1 → fi I2 J2 := fun he => by
    have e := he.symm.trans e2
    refine fi_hp e ?_
    have e33 : I1 3 3 = I 3 3 := by
      have : I2 35 3 = I1 35 3 := congrArg (fun K => kt_sh K) (km_hp e).symm
      rw [← s2, s3, this, a3, kIJ.2.2.2]
    rcases hsh with ⟨h5, h4, -⟩ | ⟨sh, tn, ns, -, -, -, -, n1, n2, n3, -⟩
    · exact fi_same hr.2 a3 a0 a1 a2 a36 a37 h5 h4
    · rw [e33, n2, io_eq (by omega) (by omega)] at n3
      omega
  have new : h = ev_hp (ev_sI (ev_sI (ev_sI I1 35 (upd (I1 35) 3 ((I1 35 3) + (1 : Int32)))) 36 (upd (I1 36) (I1 35 3).toNatClampNeg x)) 37 (upd (I1 37) (I1 35 3).toNatClampNeg y)) J1 R1 T1 → fi I2 J2 := fun he => by
    have e := he.symm.trans e2
    refine fi_hp e ?_
    have s4 : I2 35 3 = I1 35 3 + 1 := by
      have := congrArg (fun K => kt_sh K) (km_hp e).symm
      exact this
    rcases hsh with ⟨-, -, h3⟩ | ⟨sh, tn, ns, rfl, n0, rfl, n1, n2, n3, n4, I3, J3, ⟨n, f, g1, g2, g3, g4, g5, g6⟩, h5, h4⟩
    · exfalso
      rw [← s2, s3, s4, a3, ← kIJ.2.2.2] at h3
      rw [io_nat hs0.1] at h3
      exact io_ne1 (by omega) h3.symm
    · have e3 : I1 35 3 = Int32.ofNat ns := by rw [a3, ← kIJ.2.2.2, n3]
      rw [g1, cx_sI_s] at h5
      rw [g2, cx_sJ_s] at h4
      rw [e3, ix_cl (by omega), io_1]
      intro s hs
      rw [cx_sI_n _ _ (show (35 : Nat) ≠ 37 by decide), cx_sI_n _ _ (show (35 : Nat) ≠ 36 by decide), cx_sI_s, upd_s, io_ti (by omega)] at hs
      rw [cx_sI_n _ _ (show (35 : Nat) ≠ 37 by decide), cx_sI_n _ _ (show (35 : Nat) ≠ 36 by decide), cx_sI_s, cx_sI_n _ _ (show (5 : Nat) ≠ 37 by decide), cx_sI_n _ _ (show (5 : Nat) ≠ 36 by decide), cx_sI_n _ _ (show (5 : Nat) ≠ 35 by decide),
        upd_n _ _ (show (0 : Nat) ≠ 3 by decide), upd_n _ _ (show (1 : Nat) ≠ 3 by decide), upd_n _ _ (show (2 : Nat) ≠ 3 by decide), a0, a1, a2, h5, h4]
      have fq : ∀ sh' tn', fi1 (ev_sI (ev_sI (ev_sI I1 35 (upd (I1 35) 3 (Int32.ofNat (ns + 1)))) 36 (upd (I1 36) ns (Int32.ofNat sh))) 37 (upd (I1 37) ns (Int32.ofNat tn))) s sh' tn' ↔ sh' < 65536 ∧ tn' < 3 ∧ upd (I 36) ns (Int32.ofNat sh) s = Int32.ofNat sh' ∧ upd (I 37) ns (Int32.ofNat tn) s = Int32.ofNat tn' := by
        intro sh' tn'
        unfold fi1
        rw [cx_sI_s, cx_sI_n _ _ (show (36 : Nat) ≠ 37 by decide), cx_sI_s, a36, a37]
      by_cases hsn : s = ns
      · subst hsn
        refine ⟨n, sh, tn, (fq sh tn).mpr ⟨n0, n1, upd_s _ _ _, upd_s _ _ _⟩, upd_s _ _ _, g3, g4, fun w => ?_⟩
        rw [g5 w, kIJ.1, kIJ.2.1, kIJ.2.2.1]
      · obtain ⟨n', sh', tn', ⟨b1, b2, b3, b4⟩, b5, b6, b7, b8⟩ := hr.2 s (by rw [← a3, e3, io_ti (by omega)]; omega)
        have ef : ∀ a, a < n' → f (288 * s + a) = J 4 (288 * s + a) := fun a ha => g6 _ (by omega)
        exact ⟨n', sh', tn', (fq sh' tn').mpr ⟨b1, b2, by rw [upd_n _ _ hsn]; exact b3, by rw [upd_n _ _ hsn]; exact b4⟩, by rw [upd_n _ _ hsn]; exact b5, srt_congr ef b6, b7, fun w => (in_congr ef w).trans (b8 w)⟩
  refine ⟨u, I2, J2, R2, T2, e1, e2, e3, e4, e5, (congrArg Prod.fst huv).symm, hk2, ?_⟩
  rcases hc with ⟨_, _, he, -⟩ | ⟨_, _, _, he, -⟩ | ⟨_, _, _, _, _, _, he, -⟩ | ⟨_, _, _, _, _, _, he, -⟩ | ⟨_, _, _, _, _, he, -⟩ | ⟨_, _, _, _, he, -⟩
  · exact old he
  · exact old he
  · exact new he
  · exact old he
  · exact old he
  · exact old he
/-! the spots -/
def in_n (I : Nat → Nat → Int32) (s : Nat) : Nat := (I 5 s).toInt.toNat
theorem fi_n (hr : rl I J) {s : Nat} (hs : s < (I 3 3).toInt.toNat) : I 5 s = Int32.ofNat (in_n I s) ∧ in_n I s ≤ 288 ∧ mr_row I s (in_n I s) (fun k => J 4 (288 * s + k)) := by
  rw [(km_0 hr.1).2.2.2] at hs
  obtain ⟨n, sh, tn, f1, f2, f3, f4, f5⟩ := hr.2 s hs
  have e : in_n I s = n := by
    unfold in_n
    rw [f2, io_ti (by omega)]
    omega
  rw [e]
  have ef : ∀ a, a < n → (fun k => J 4 (288 * s + k)) (0 + a) = J 4 (288 * s + a) := fun a _ => by
    show J 4 (288 * s + (0 + a)) = _
    rw [Nat.zero_add]
  exact ⟨f2, f4, sh, tn, f1, srt_congr ef f3, f4, fun w => (in_congr ef w).trans (f5 w)⟩
theorem lx_spots (hX2 : X.1 < 2 ^ 31) (hh : cx_hok cx_B0 I R T) (hr : rl I J) (x : Int32) : ev_W X 46 0 (ez_lay [.ref 0, .int x]) [] (ev_hp I J R T) 0 0 (lw_mid T (fun v I1 J1 _ _ => v = mi_spots (in_n I) (I 3 3).toInt.toNat x ∧ I1 = I ∧ J1 = J)) := by
  have hs := (b_sh hh.1).1
  refine lx_p cv_46_0 hX2 hh ao_1 (fun N => pe_spots (N := N) (n := in_n I) (io_nat hs.1) (by omega) fun s h => (fi_n hr h).1) ?_
  rintro r h1 I' J' R' T' ⟨rfl, -⟩ - hf -
  obtain ⟨rfl, rfl⟩ := cx_fr_nil hf
  exact ⟨_, rfl, rfl, rfl, rfl⟩
theorem rl_fr {md : List (Nat × Nat)} {I2 : Nat → Nat → Int32} {J2 : Nat → Nat → Int64} (h1 : kt_fx md = true) (h2 : kt_fm md = true) (h3 : fi_fr md = true) (hf : cx_fr md I J I2 J2) (hr : rl I J) : rl I2 J2 := ⟨by rw [kx_fr h1 hf, km_fr h2 hf]; exact hr.1, fi_fr_s h3 hf hr.2⟩
theorem lm_spots (hX2 : X.1 < 2 ^ 31) (hr : rl I J) (x : Int32) (hh1 : cx_hok cx_B0 I1 R1 T1) (hm : v = mi_spots (in_n I) (I 3 3).toInt.toNat x ∧ I1 = I ∧ J1 = J) : ev_W X 223 0 (ez_lay [.ref 35, .int x]) [] (ev_hp I1 J1 R1 T1) 0 0 (lw_mid T1 (fun u I2 J2 _ _ => u = v ∧ rl I2 J2)) := by
  obtain ⟨rfl, rfl, rfl⟩ := hm
  have hs := (b_sh hh1.1).1
  refine lx_p cv_223_0 hX2 hh1 ao_1 (fun N => pe_mspots (N := N) (n := in_n I1) (f := fun s k => J1 4 (288 * s + k)) (ns := (I1 3 3).toInt.toNat) hh1.1 (by rw [← (km_0 hr.1).2.2.2]; exact io_nat hs.1) (by omega) fun s h => (fi_n hr h).2.2) ?_
  rintro r h1 I' J' R' T' rfl - hf -
  exact ⟨_, rfl, rfl, rl_fr (by rfl) (by rfl) (by rfl) hf hr⟩
theorem lx_spot (hX2 : X.1 < 2 ^ 31) (hh : cx_hok cx_B0 I R T) (hr : rl I J) (x y : Int32) : ev_W X 44 0 (ez_lay [.ref 0, .int x, .int y]) [] (ev_hp I J R T) 0 0 (lw_midL T (fun v I1 J1 _ _ => v = mi_spot (in_n I) (fun s k => J 4 (288 * s + k)) (I 3 3).toInt.toNat x y ∧ I1 = I ∧ J1 = J)) := by
  have hs := (b_sh hh.1).1
  refine lx_pL cv_44_0 hX2 hh ao_2 (fun N => pe_spot (N := N) (n := in_n I) (f := fun s k => J 4 (288 * s + k)) (io_nat hs.1) (by omega) (fun s h => ⟨(fi_n hr h).1, (fi_n hr h).2.1⟩) fun s k _ _ => rfl) ?_
  rintro r h1 I' J' R' T' ⟨rfl, -⟩ - hf -
  obtain ⟨rfl, rfl⟩ := cx_fr_nil hf
  exact ⟨_, rfl, rfl, rfl, rfl⟩
theorem lm_spot {v : Int64} (hX2 : X.1 < 2 ^ 31) (hr : rl I J) (x y : Int32) (hh1 : cx_hok cx_B0 I1 R1 T1) (hm : v = mi_spot (in_n I) (fun s k => J 4 (288 * s + k)) (I 3 3).toInt.toNat x y ∧ I1 = I ∧ J1 = J) : ev_W X 222 0 (ez_lay [.ref 35, .int x, .int y]) [] (ev_hp I1 J1 R1 T1) 0 0 (lw_midL T1 (fun u I2 J2 _ _ => u = v ∧ rl I2 J2)) := by
  obtain ⟨rfl, rfl, rfl⟩ := hm
  have hs := (b_sh hh1.1).1
  refine lx_pL cv_222_0 hX2 hh1 ao_2 (fun N => pe_mspot (N := N) (n := in_n I1) (f := fun s k => J1 4 (288 * s + k)) (ns := (I1 3 3).toInt.toNat) hh1.1 (by rw [← (km_0 hr.1).2.2.2]; exact io_nat hs.1) (by omega) fun s h => (fi_n hr h).2.2) ?_
  rintro r h1 I' J' R' T' rfl - hf -
  exact ⟨_, rfl, rfl, rl_fr (by rfl) (by rfl) (by rfl) hf hr⟩
end
