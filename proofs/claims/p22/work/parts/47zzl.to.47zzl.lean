section
/-! left, which, there, part, sure, best, both sides. -/
section
variable {N : Nat} {X : ez_X} {I I' I1 : Nat → Nat → Int32} {J J' J1 : Nat → Nat → Int64} {R R1 : Nat → Nat} {T T1 : List ez_C} {v x y : Int32} {u : Int64}
theorem lk_b (e : bk I' J' = bk I J) : lkf I' J' = lkf I J ∧ tN I' J' = tN I J ∧ (∀ c, tS I' J' c = tS I J c) ∧ (∀ c, tK I' J' c = tK I J c) := by
  obtain ⟨b, e22, e82, e83⟩ := b4_bk e
  obtain ⟨l1, l2, l3, l4, l5, l6⟩ := b4_use b
  have hlf : ∀ z, lfB I' J' z = lfB I J z := fun z => by
    unfold lfB
    rw [e22, e82, e83]
  have hk : lkf I' J' = lkf I J := funext fun k => by
    unfold lkf
    rw [hlf, l1, l2, l4]
  refine ⟨hk, ?_, fun c => ?_, fun c => ?_⟩
  · unfold tN
    rw [hk, l1]
  · unfold tS
    rw [hk, l1, l2]
    exact cq_c _ fun k _ => by rw [l5]
  · unfold tK
    rw [hk, l1, l2]
    exact cq_c _ fun k _ => by rw [l6]
theorem ip_b (e : bk I' J' = bk I J) (c : Nat) (v : Int32) : ipN I' J' c v = ipN I J c v := by
  obtain ⟨-, h1, h2, h3⟩ := lk_b e
  unfold ipN
  rw [h1, h2, h3]
theorem gt_b (e : bk I' J' = bk I J) : gtN I' J' = gtN I J := funext fun c => by
  unfold gtN
  rw [ip_b e, ip_b e, ip_b e]
theorem c6_b (e : bk I' J' = bk I J) : I' 1 6 = I 1 6 := (bk_at e).2.2.2.2.2.2.2.2.2.2.2.1
theorem v_left_b (e : bk I' J' = bk I J) : v_left I' J' = v_left I J := by
  obtain ⟨h1, h2⟩ := bk_ls e
  unfold v_left
  rw [h2 0, h2 1, h2 2, (lk_b e).2.1]
theorem v_which_b (e : bk I' J' = bk I J) : v_which I' J' x = v_which I J x := by
  obtain ⟨h1, h2⟩ := bk_ls e
  unfold v_which
  rw [h1, h2 0, h2 1, h2 2, (lk_b e).1]
theorem v_there_b (e : bk I' J' = bk I J) : v_there I' J' x = v_there I J x := by
  obtain ⟨h1, h2⟩ := bk_ls e
  unfold v_there
  rw [h2 0, h2 1, h2 2, (lk_b e).2.2.1, c6_b e]
theorem v_part_b (e : bk I' J' = bk I J) : v_part I' J' x y = v_part I J x y := by
  obtain ⟨h1, h2⟩ := bk_ls e
  unfold v_part
  rw [h2 0, h2 1, h2 2, ip_b e, c6_b e]
theorem v_sure_b (e : bk I' J' = bk I J) : v_sure I' J' x = v_sure I J x := by
  obtain ⟨h1, h2⟩ := bk_ls e
  obtain ⟨-, hN, hS, -⟩ := lk_b e
  unfold v_sure
  rw [h2 0, h2 1, h2 2, c6_b e, hN]
  simp only [hS]
theorem v_best_b (e : bk I' J' = bk I J) : v_best I' J' x = v_best I J x := by
  obtain ⟨h1, h2⟩ := bk_ls e
  unfold v_best
  rw [h2 0, h2 1, h2 2, c6_b e, (lk_b e).2.1, gt_b e]
theorem lxc_left (hX2 : X.1 < 2 ^ 31) (hh : cx_hok cx_B0 I R T) (hr : rl4 I J R T) : ev_W X 29 0 (ez_lay [.ref 0]) [] (ev_hp I J R T) 0 0 (lw_mid T (fun v I1 J1 R1 T1 => v = v_left I1 J1 ∧ rl4 I1 J1 R1 T1)) := by
  refine (lxc_of (l4x_left hX2 hh hr) (fun N => pe_mono (pe_xleft (N := N) hr.1 hr.2 hh) fun _ _ q => q.1) (by rfl) cv_29_0 hX2 hh ao_0).mono (lw_mono fun v I1 J1 R1 T1 q => ⟨?_, q.2.2⟩)
  rw [q.1, v_left_b q.2.1]
theorem lmc_left (hX2 : X.1 < 2 ^ 31) (hh : cx_hok cx_B0 I R T) (hr : rl4 I J R T) (hh1 : cx_hok cx_B0 I1 R1 T1) (hm : v = v_left I1 J1 ∧ rl4 I1 J1 R1 T1) : ev_W X 207 0 (ez_lay [.ref 35]) [] (ev_hp I1 J1 R1 T1) 0 0 (lw_mid T1 (fun w I2 J2 R2 T2 => w = v ∧ rl4 I2 J2 R2 T2)) := by
  refine (lmc_of (l4m_left hX2 hh hr hh1 hm.2) (fun N => pe_mleft (N := N) hm.2.1 hh1.1)).mono (lw_mono fun u I2 J2 R2 T2 q => ⟨?_, q.2⟩)
  rw [q.1, hm.1]
theorem lxc_which (hX2 : X.1 < 2 ^ 31) (hh : cx_hok cx_B0 I R T) (hr : rl4 I J R T) (x : Int32) : ev_W X 54 0 (ez_lay [.ref 0, .int x]) [] (ev_hp I J R T) 0 0 (lw_mid T (fun v I1 J1 R1 T1 => v = v_which I1 J1 x ∧ rl4 I1 J1 R1 T1)) := by
  refine (lxc_of (l4x_which hX2 hh hr x) (fun N => pe_mono (pe_xwhich (N := N) hr.1 hr.2 hh) fun _ _ q => q.1) (by rfl) cv_54_0 hX2 hh ao_1).mono (lw_mono fun v I1 J1 R1 T1 q => ⟨?_, q.2.2⟩)
  rw [q.1, v_which_b q.2.1]
theorem lmc_which (hX2 : X.1 < 2 ^ 31) (hh : cx_hok cx_B0 I R T) (hr : rl4 I J R T) (x : Int32) (hh1 : cx_hok cx_B0 I1 R1 T1) (hm : v = v_which I1 J1 x ∧ rl4 I1 J1 R1 T1) : ev_W X 232 0 (ez_lay [.ref 35, .int x]) [] (ev_hp I1 J1 R1 T1) 0 0 (lw_mid T1 (fun w I2 J2 R2 T2 => w = v ∧ rl4 I2 J2 R2 T2)) := by
  refine (lmc_of (l4m_which hX2 hh hr x hh1 hm.2) (fun N => pe_mwhich (N := N) hm.2.1 hh1.1)).mono (lw_mono fun u I2 J2 R2 T2 q => ⟨?_, q.2⟩)
  rw [q.1, hm.1]
theorem lxc_there (hX2 : X.1 < 2 ^ 31) (hh : cx_hok cx_B0 I R T) (hr : rl4 I J R T) (x : Int32) : ev_W X 51 0 (ez_lay [.ref 0, .int x]) [] (ev_hp I J R T) 0 0 (lw_mid T (fun v I1 J1 R1 T1 => v = v_there I1 J1 x ∧ rl4 I1 J1 R1 T1)) := by
  refine (lxc_of (l4x_there hX2 hh hr x) (fun N => pe_mono (pe_xthere (N := N) hr.1 hr.2 hh) fun _ _ q => q.1) (by rfl) cv_51_0 hX2 hh ao_1).mono (lw_mono fun v I1 J1 R1 T1 q => ⟨?_, q.2.2⟩)
  rw [q.1, v_there_b q.2.1]
theorem lmc_there (hX2 : X.1 < 2 ^ 31) (hh : cx_hok cx_B0 I R T) (hr : rl4 I J R T) (x : Int32) (hh1 : cx_hok cx_B0 I1 R1 T1) (hm : v = v_there I1 J1 x ∧ rl4 I1 J1 R1 T1) : ev_W X 227 0 (ez_lay [.ref 35, .int x]) [] (ev_hp I1 J1 R1 T1) 0 0 (lw_mid T1 (fun w I2 J2 R2 T2 => w = v ∧ rl4 I2 J2 R2 T2)) := by
  refine (lmc_of (l4m_there hX2 hh hr x hh1 hm.2) (fun N => pe_mthere (N := N) hm.2.1 hh1.1)).mono (lw_mono fun u I2 J2 R2 T2 q => ⟨?_, q.2⟩)
  rw [q.1, hm.1]
theorem lxc_part (hX2 : X.1 < 2 ^ 31) (hh : cx_hok cx_B0 I R T) (hr : rl4 I J R T) (x y : Int32) : ev_W X 37 0 (ez_lay [.ref 0, .int x, .int y]) [] (ev_hp I J R T) 0 0 (lw_mid T (fun v I1 J1 R1 T1 => v = v_part I1 J1 x y ∧ rl4 I1 J1 R1 T1)) := by
  refine (lxc_of (l4x_part hX2 hh hr x y) (fun N => pe_mono (pe_xpart (N := N) hr.1 hr.2 hh) fun _ _ q => q.1) (by rfl) cv_37_0 hX2 hh ao_2).mono (lw_mono fun v I1 J1 R1 T1 q => ⟨?_, q.2.2⟩)
  rw [q.1, v_part_b q.2.1]
theorem lmc_part (hX2 : X.1 < 2 ^ 31) (hh : cx_hok cx_B0 I R T) (hr : rl4 I J R T) (x y : Int32) (hh1 : cx_hok cx_B0 I1 R1 T1) (hm : v = v_part I1 J1 x y ∧ rl4 I1 J1 R1 T1) : ev_W X 214 0 (ez_lay [.ref 35, .int x, .int y]) [] (ev_hp I1 J1 R1 T1) 0 0 (lw_mid T1 (fun w I2 J2 R2 T2 => w = v ∧ rl4 I2 J2 R2 T2)) := by
  refine (lmc_of (l4m_part hX2 hh hr x y hh1 hm.2) (fun N => pe_mpart (N := N) hm.2.1 hh1.1)).mono (lw_mono fun u I2 J2 R2 T2 q => ⟨?_, q.2⟩)
  rw [q.1, hm.1]
theorem lxc_sure (hX2 : X.1 < 2 ^ 31) (hh : cx_hok cx_B0 I R T) (hr : rl4 I J R T) (x : Int32) : ev_W X 48 0 (ez_lay [.ref 0, .int x]) [] (ev_hp I J R T) 0 0 (lw_midL T (fun v I1 J1 R1 T1 => v = v_sure I1 J1 x ∧ rl4 I1 J1 R1 T1)) := by
  refine (lxc_ofL (l4x_sure hX2 hh hr x) (fun N => pe_mono (pe_xsure (N := N) hr.1 hr.2 hh) fun _ _ q => q.1) (by rfl) cv_48_0 hX2 hh ao_1).mono (lw_monoL fun v I1 J1 R1 T1 q => ⟨?_, q.2.2⟩)
  rw [q.1, v_sure_b q.2.1]
theorem lmc_sure (hX2 : X.1 < 2 ^ 31) (hh : cx_hok cx_B0 I R T) (hr : rl4 I J R T) (x : Int32) (hh1 : cx_hok cx_B0 I1 R1 T1) (hm : u = v_sure I1 J1 x ∧ rl4 I1 J1 R1 T1) : ev_W X 225 0 (ez_lay [.ref 35, .int x]) [] (ev_hp I1 J1 R1 T1) 0 0 (lw_midL T1 (fun w I2 J2 R2 T2 => w = u ∧ rl4 I2 J2 R2 T2)) := by
  refine (lmc_ofL (l4m_sure hX2 hh hr x hh1 hm.2) (fun N => pe_msure (N := N) hm.2.1 hh1.1)).mono (lw_monoL fun u I2 J2 R2 T2 q => ⟨?_, q.2⟩)
  rw [q.1, hm.1]
theorem lxc_best (hX2 : X.1 < 2 ^ 31) (hh : cx_hok cx_B0 I R T) (hr : rl4 I J R T) (x : Int32) : ev_W X 6 0 (ez_lay [.ref 0, .int x]) [] (ev_hp I J R T) 0 0 (lw_mid T (fun v I1 J1 R1 T1 => v = v_best I1 J1 x ∧ rl4 I1 J1 R1 T1)) := by
  refine (lxc_of (l4x_best hX2 hh hr x) (fun N => pe_mono (pe_xbest (N := N) hr.1 hr.2 hh) fun _ _ q => q.1) (by rfl) cv_6_0 hX2 hh ao_1).mono (lw_mono fun v I1 J1 R1 T1 q => ⟨?_, q.2.2⟩)
  rw [q.1, v_best_b q.2.1]
theorem lmc_best (hX2 : X.1 < 2 ^ 31) (hh : cx_hok cx_B0 I R T) (hr : rl4 I J R T) (x : Int32) (hh1 : cx_hok cx_B0 I1 R1 T1) (hm : v = v_best I1 J1 x ∧ rl4 I1 J1 R1 T1) : ev_W X 169 0 (ez_lay [.ref 35, .int x]) [] (ev_hp I1 J1 R1 T1) 0 0 (lw_mid T1 (fun w I2 J2 R2 T2 => w = v ∧ rl4 I2 J2 R2 T2)) := by
  refine (lmc_of (l4m_best hX2 hh hr x hh1 hm.2) (fun N => pe_mbest (N := N) hm.2.1 hh1.1)).mono (lw_mono fun u I2 J2 R2 T2 q => ⟨?_, q.2⟩)
  rw [q.1, hm.1]
end
end
