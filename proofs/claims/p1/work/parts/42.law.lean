/-! The law. -/
theorem ev_swk {X : ez_X} {m pc a b cut w d len q : Nat} {ls st : List Value} {h : ez_H} {c k : Nat} {Q : ev_Q} {dflt lo hi : Int} {offs : Array Int} {v : Int32} (hP : ez_P0 m pc = some (.tableswitch dflt lo hi offs, len, a, b, cut, w, d)) (hq : ez_sw dflt lo hi offs pc v = some q)
    (e : ev_W X m q (ez_cut cut ls) st h c k Q) : ev_W X m pc ls (.int v :: st) h c k Q := by
  refine ev_seg (a := 1) (fun G => ?_) e
  rw [ev_up1]
  unfold ez_stp
  rw [hP]
  simp only [hq]
theorem ev_and63 (y : Int32) : 0 ≤ (y &&& (63 : Int32)).toInt ∧ (y &&& (63 : Int32)).toInt ≤ 63 := by
  obtain ⟨n, hn⟩ : ∃ n : Nat, y = Int32.ofNat n := ⟨y.toBitVec.toNat, Int32.toBitVec_inj.mp (by show _ = BitVec.ofNat 32 _; simp)⟩
  rw [hn, show (63 : Int32) = Int32.ofNat 63 from rfl, sb_and]
  have h : n &&& 63 ≤ 63 := Nat.and_le_right
  rw [Int32.toInt_ofNat_of_lt (by omega)]
  omega
set_option maxRecDepth 100000 in
theorem el_head1 (xs : Nat → Int32) (cz kz : Nat) : ∀ G : ez_F, fx_up (4, xs) 3 G 241 18 [ez_scr, .ref 0, .ref 35, .int 0] [] (ev_hp ev_I0 ev_J0 ev_R0 []) cz kz = G 241 21 [ez_scr, .ref 0, .ref 35, .int 0] [.int 4, .int 0] (ev_hp ev_I0 ev_J0 ev_R0 []) cz kz := by
  intro G
  rfl
set_option maxRecDepth 100000 in
theorem el_head2 (X : ez_X) (h : ez_H) (cz kz : Nat) : ∀ G : ez_F, fx_up X 3 G 241 21 [ez_scr, .ref 0, .ref 35, .int 0] [.int 4, .int 0] h cz kz = G 241 26 [ez_scr, .ref 0, .ref 35, .int 0] [] h cz kz := by
  intro G
  rfl
theorem el_sw : ez_P0 241 32 = some (.tableswitch 1043 0 33 #[152, 211, 244, 277, 310, 333, 367, 380, 413, 436, 469, 502, 525, 538, 571, 615, 628, 651, 674, 698, 731, 754, 777, 800, 833, 856, 869, 882, 895, 918, 951, 984, 997, 1020], 152, 0, 0, 200, 0, 0) := by rfl
set_option maxRecDepth 100000 in
theorem el_op (xs : Nat → Int32) (cz kz : Nat) : ∀ G : ez_F, fx_up (4, xs) 5 G 241 26 [ez_scr, .ref 0, .ref 35, .int 0] [] (ev_hp ev_I0 ev_J0 ev_R0 []) cz kz = G 241 32 [ez_scr, .ref 0, .ref 35, .int 0] [.int ((xs 0) &&& 63)] (ev_hp ev_I0 ev_J0 ev_R0 []) cz kz := by
  intro G
  rfl
theorem el_four (xs : Nat → Int32) : ev_W (4, xs) 241 18 [ez_scr, .ref 0, .ref 35, .int 0] [] (ev_hp ev_I0 ev_J0 ev_R0 []) 65 121826 (fun r _ c k => r = some (.int 1) ∧ c ≤ 600000 ∧ k ≤ 7302250) := by
  refine ev_seg (el_head1 xs _ _) ?_
  refine ev_seg (el_head2 _ _ _ _) ?_
  refine ev_seg (el_op xs _ _) ?_
  obtain ⟨h1, h2⟩ := ev_and63 (xs 0)
  generalize (xs 0) &&& 63 = v at h1 h2 ⊢
  by_cases c0 : v.toInt = 0
  · obtain rfl := ev_lit c0
    exact ev_swk (q := 184) (cut := 200) el_sw (by rfl) (ep_grid xs)
  by_cases c1 : v.toInt = 1
  · obtain rfl := ev_lit c1
    exact ev_swk (q := 243) (cut := 200) el_sw (by rfl) (ep_ship xs)
  by_cases c2 : v.toInt = 2
  · obtain rfl := ev_lit c2
    exact ev_swk (q := 276) (cut := 200) el_sw (by rfl) (ep_set xs)
  by_cases c3 : v.toInt = 3
  · obtain rfl := ev_lit c3
    exact ev_swk (q := 309) (cut := 200) el_sw (by rfl) (ep_drift xs)
  by_cases c4 : v.toInt = 4
  · obtain rfl := ev_lit c4
    exact ev_swk (q := 342) (cut := 200) el_sw (by rfl) (ep_spots xs)
  by_cases c5 : v.toInt = 5
  · obtain rfl := ev_lit c5
    exact ev_swk (q := 365) (cut := 200) el_sw (by rfl) (ep_spot xs)
  by_cases c6 : v.toInt = 6
  · obtain rfl := ev_lit c6
    exact ev_swk (q := 399) (cut := 200) el_sw (by rfl) (ep_layings xs)
  by_cases c7 : v.toInt = 7
  · obtain rfl := ev_lit c7
    exact ev_swk (q := 412) (cut := 200) el_sw (by rfl) (ep_laid xs)
  by_cases c8 : v.toInt = 8
  · obtain rfl := ev_lit c8
    exact ev_swk (q := 445) (cut := 200) el_sw (by rfl) (ep_call xs)
  by_cases c9 : v.toInt = 9
  · obtain rfl := ev_lit c9
    exact ev_swk (q := 468) (cut := 200) el_sw (by rfl) (ep_salvo xs)
  by_cases c10 : v.toInt = 10
  · obtain rfl := ev_lit c10
    exact ev_swk (q := 501) (cut := 200) el_sw (by rfl) (ep_answer xs)
  by_cases c11 : v.toInt = 11
  · obtain rfl := ev_lit c11
    exact ev_swk (q := 534) (cut := 200) el_sw (by rfl) (ep_lose xs)
  by_cases c12 : v.toInt = 12
  · obtain rfl := ev_lit c12
    exact ev_swk (q := 557) (cut := 200) el_sw (by rfl) (ep_back xs)
  by_cases c13 : v.toInt = 13
  · obtain rfl := ev_lit c13
    exact ev_swk (q := 570) (cut := 200) el_sw (by rfl) (ep_truth xs)
  by_cases c14 : v.toInt = 14
  · obtain rfl := ev_lit c14
    exact ev_swk (q := 603) (cut := 200) el_sw (by rfl) (ep_lies xs)
  by_cases c15 : v.toInt = 15
  · obtain rfl := ev_lit c15
    exact ev_swk (q := 647) (cut := 200) el_sw (by rfl) (ep_left xs)
  by_cases c16 : v.toInt = 16
  · obtain rfl := ev_lit c16
    exact ev_swk (q := 660) (cut := 200) el_sw (by rfl) (ep_which xs)
  by_cases c17 : v.toInt = 17
  · obtain rfl := ev_lit c17
    exact ev_swk (q := 683) (cut := 200) el_sw (by rfl) (ep_there xs)
  by_cases c18 : v.toInt = 18
  · obtain rfl := ev_lit c18
    exact ev_swk (q := 706) (cut := 200) el_sw (by rfl) (ep_sure xs)
  by_cases c19 : v.toInt = 19
  · obtain rfl := ev_lit c19
    exact ev_swk (q := 730) (cut := 200) el_sw (by rfl) (ep_part xs)
  by_cases c20 : v.toInt = 20
  · obtain rfl := ev_lit c20
    exact ev_swk (q := 763) (cut := 200) el_sw (by rfl) (ep_best xs)
  by_cases c21 : v.toInt = 21
  · obtain rfl := ev_lit c21
    exact ev_swk (q := 786) (cut := 200) el_sw (by rfl) (ep_bestSalvo xs)
  by_cases c22 : v.toInt = 22
  · obtain rfl := ev_lit c22
    exact ev_swk (q := 809) (cut := 200) el_sw (by rfl) (ep_need xs)
  by_cases c23 : v.toInt = 23
  · obtain rfl := ev_lit c23
    exact ev_swk (q := 832) (cut := 200) el_sw (by rfl) (ep_calls xs)
  by_cases c24 : v.toInt = 24
  · obtain rfl := ev_lit c24
    exact ev_swk (q := 865) (cut := 200) el_sw (by rfl) (ep_hardest xs)
  by_cases c25 : v.toInt = 25
  · obtain rfl := ev_lit c25
    exact ev_swk (q := 888) (cut := 200) el_sw (by rfl) (ep_stray xs)
  by_cases c26 : v.toInt = 26
  · obtain rfl := ev_lit c26
    exact ev_swk (q := 901) (cut := 200) el_sw (by rfl) (ep_blame xs)
  by_cases c27 : v.toInt = 27
  · obtain rfl := ev_lit c27
    exact ev_swk (q := 914) (cut := 200) el_sw (by rfl) (ep_blamed xs)
  by_cases c28 : v.toInt = 28
  · obtain rfl := ev_lit c28
    exact ev_swk (q := 927) (cut := 200) el_sw (by rfl) (ep_switched xs)
  by_cases c29 : v.toInt = 29
  · obtain rfl := ev_lit c29
    exact ev_swk (q := 950) (cut := 200) el_sw (by rfl) (ep_count xs)
  by_cases c30 : v.toInt = 30
  · obtain rfl := ev_lit c30
    exact ev_swk (q := 983) (cut := 200) el_sw (by rfl) (ep_rim xs)
  by_cases c31 : v.toInt = 31
  · obtain rfl := ev_lit c31
    exact ev_swk (q := 1016) (cut := 200) el_sw (by rfl) (ep_fitting xs)
  by_cases c32 : v.toInt = 32
  · obtain rfl := ev_lit c32
    exact ev_swk (q := 1029) (cut := 200) el_sw (by rfl) (ep_clues xs)
  by_cases c33 : v.toInt = 33
  · obtain rfl := ev_lit c33
    exact ev_swk (q := 1052) (cut := 200) el_sw (by rfl) (ep_many xs)
  exact ev_swd (q := 1075) (cut := 200) el_sw (by omega) (by rfl) (ep_none xs)
noncomputable def ev_chk0 (X : ez_X) : Bool := match ev_R X 3000 241 18 [ez_scr, .ref 0, .ref 35, .int 0] [] (ev_hp ev_I0 ev_J0 ev_R0 []) 65 121826 with
  | some (some (.int v), _, c, k) => decide (v = 1) && (Nat.ble c 600000 && Nat.ble k 7302250)
  | _ => false
theorem ev_chk0_s {X : ez_X} (hz : ev_chk0 X = true) : ev_W X 241 18 [ez_scr, .ref 0, .ref 35, .int 0] [] (ev_hp ev_I0 ev_J0 ev_R0 []) 65 121826 (fun r _ c k => r = some (.int 1) ∧ c ≤ 600000 ∧ k ≤ 7302250) := by
  unfold ev_chk0 at hz
  split at hz
  · rename_i v h' c' k' he
    obtain ⟨h1, h2⟩ := Bool.and_eq_true_iff.mp hz
    obtain ⟨h2, h3⟩ := Bool.and_eq_true_iff.mp h2
    exact ⟨_, h', c', k', ⟨by rw [of_decide_eq_true h1], Nat.le_of_ble_eq_true h2, Nat.le_of_ble_eq_true h3⟩, 3000, fun n => ev_mono X 3000 n he⟩
  · cases hz
theorem el_short : ∀ xs, (([0, 1, 2, 3] : List Nat).all fun L => ev_chk0 (L, xs)) = true := ev_all (fun xs => ([0, 1, 2, 3] : List Nat).all fun L => ev_chk0 (L, xs)) (by decide +kernel)
theorem el_run (L : Nat) (xs : Nat → Int32) (hL : L ≤ 4) : ev_W (L, xs) 241 0 [ez_scr] [] [] 0 0 (fun r _ c k => r = some (.int 1) ∧ c ≤ 600000 ∧ k ≤ 7302250) := by
  refine rw_start (L, xs) ?_
  by_cases h : L = 4
  · rw [h]; exact el_four xs
  · exact ev_chk0_s (List.all_eq_true.mp (el_short xs) L (by simp; omega))
