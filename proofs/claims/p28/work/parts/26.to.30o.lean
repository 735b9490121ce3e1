section
/-! More fuel does no harm; numbers of the checks. -/
theorem ev_go_mono {mL : Nat → Nat} {ih ih' : ez_F} (hm : ∀ m pc ls st h c k x, ih m pc ls st h c k = some x → ih' m pc ls st h c k = some x) {m pc a n : Nat} {ls st : List Value} {h : ez_H} {c k : Nat} {x : Option Value × ez_H × Nat × Nat}
    (hz : ez_go mL ih m pc a n ls st h c k = some x) : ez_go mL ih' m pc a n ls st h c k = some x := by
  unfold ez_go at hz ⊢
  obtain ⟨h1, hz⟩ := ez_bif hz
  rw [h1]
  split at hz
  · rename_i r h' c1 k1 h2
    rw [hm _ _ _ _ _ _ _ _ h2]
    exact hm _ _ _ _ _ _ _ _ hz
  · cases hz
theorem ev_stp_mono {P : ez_P} {X : ez_X} {ty : Nat → Nat → FieldType} {nw : Nat → List Value} {mL : Nat → Nat} {ih ih' : ez_F} (hm : ∀ m pc ls st h c k x, ih m pc ls st h c k = some x → ih' m pc ls st h c k = some x) {m pc : Nat} {ls st : List Value} {h : ez_H} {c k : Nat} {x : Option Value × ez_H × Nat × Nat}
    (hz : ez_stp P X ty nw mL ih m pc ls st h c k = some x) : ez_stp P X ty nw mL ih' m pc ls st h c k = some x := by
  unfold ez_stp at hz ⊢
  cases hP : P m pc with
  | none => rw [hP] at hz; cases hz
  | some y =>
    obtain ⟨i, len, a, b, cut, w, d⟩ := y
    rw [hP] at hz
    dsimp only at hz ⊢
    split at hz
    · exact hm _ _ _ _ _ _ _ _ hz
    · cases hi : ez_icmp ‹_› st with
      | none => rw [hi] at hz; cases hz
      | some t =>
        obtain ⟨t, r⟩ := t
        rw [hi] at hz
        cases t with
        | true => simp only [cond_true] at hz; simp only [hi, cond_true]; exact hm _ _ _ _ _ _ _ _ hz
        | false => simp only [cond_false] at hz; simp only [hi, cond_false]; exact hm _ _ _ _ _ _ _ _ hz
    · cases hi : ez_ifc ‹_› st with
      | none => rw [hi] at hz; cases hz
      | some t =>
        obtain ⟨t, r⟩ := t
        rw [hi] at hz
        cases t with
        | true => simp only [cond_true] at hz; simp only [hi, cond_true]; exact hm _ _ _ _ _ _ _ _ hz
        | false => simp only [cond_false] at hz; simp only [hi, cond_false]; exact hm _ _ _ _ _ _ _ _ hz
    · split at hz
      · split at hz
        · exact hm _ _ _ _ _ _ _ _ hz
        · cases hz
      · cases hz
    · exact hz
    · exact hz
    · exact hz
    · exact hz
    · exact hm _ _ _ _ _ _ _ _ hz
    · split at hz
      · obtain ⟨h1, hz⟩ := ez_bifN hz
        simp only [h1, cond_false]
        split at hz
        · exact hm _ _ _ _ _ _ _ _ hz
        · exact hm _ _ _ _ _ _ _ _ hz
        · cases hz
      · cases hz
    · obtain ⟨h1, hz⟩ := ez_bif hz
      simp only [h1, cond_true]
      exact ev_go_mono hm hz
    · cases h1 : Nat.beq a 901 with
      | true =>
        rw [h1] at hz
        simp only [cond_true] at hz ⊢
        split at hz
        · obtain ⟨h2, hz⟩ := ez_bif hz
          simp only [h2, cond_true]
          exact hm _ _ _ _ _ _ _ _ hz
        · cases hz
      | false =>
        rw [h1] at hz
        simp only [cond_false] at hz ⊢
        cases h3 : Nat.beq a 902 with
        | true =>
          rw [h3] at hz
          simp only [cond_true] at hz ⊢
          split at hz
          · obtain ⟨h2, hz⟩ := ez_bif hz
            simp only [h2, cond_true]
            exact hm _ _ _ _ _ _ _ _ hz
          · cases hz
        | false =>
          rw [h3] at hz
          simp only [cond_false] at hz ⊢
          exact ev_go_mono hm hz
    · cases h1 : Nat.beq a 900 with
      | true =>
        rw [h1] at hz
        simp only [cond_true] at hz ⊢
        split at hz
        · obtain ⟨h2, hz⟩ := ez_bif hz
          simp only [h2, cond_true]
          exact hm _ _ _ _ _ _ _ _ hz
        · cases hz
      | false =>
        rw [h1] at hz
        simp only [cond_false] at hz ⊢
        obtain ⟨h2, hz⟩ := ez_bif hz
        simp only [h2, cond_true]
        exact ev_go_mono hm hz
    · cases hb : ez_b X ty i a b (ez_cut cut ls) st h with
      | none => rw [hb] at hz; cases hz
      | some z =>
        rw [hb] at hz
        exact hm _ _ _ _ _ _ _ _ hz
theorem ev_mono (X : ez_X) (F n : Nat) {m pc : Nat} {ls st : List Value} {h : ez_H} {c k : Nat} {x : Option Value × ez_H × Nat × Nat} (hz : ev_R X F m pc ls st h c k = some x) : ev_R X (F + n) m pc ls st h c k = some x := by
  have key : ∀ F m pc ls st h c k x, ev_R X F m pc ls st h c k = some x → ev_R X (F + 1) m pc ls st h c k = some x := by
    intro F
    induction F with
    | zero => intro m pc ls st h c k x hz; cases hz
    | succ F ih =>
      intro m pc ls st h c k x hz
      have e1 : ∀ F, ev_R X (F + 1) = ez_stp ez_P0 X ez_ty0 ez_nw0 (ez_mL ez_M0) (ev_R X F) := fun F => by rw [← ev_up1, fx_up_ev]
      rw [e1] at hz ⊢
      exact ev_stp_mono ih hz
  induction n with
  | zero => exact hz
  | succ n ih => exact key _ _ _ _ _ _ _ _ _ ih
theorem ev_chk_s {X : ez_X} {pc : Nat} (hz : ev_chk X pc = true) : ev_P1 X pc := by
  unfold ev_chk at hz
  split at hz
  · rename_i v h' c' k' he
    obtain ⟨h1, h2⟩ := Bool.and_eq_true_iff.mp hz
    obtain ⟨h2, h3⟩ := Bool.and_eq_true_iff.mp h2
    exact ⟨_, h', c', k', ⟨by rw [of_decide_eq_true h1], Nat.le_of_ble_eq_true h2, Nat.le_of_ble_eq_true h3⟩, 3000, fun n => ev_mono X 3000 n he⟩
  · cases hz
theorem ev_x1_is {xs : Nat → Int32} {a : Int} (h : xs 1 = Int32.ofInt a) : ev_x1 xs a = (4, xs) := by
  unfold ev_x1
  congr 1
  funext j
  cases hj : Nat.beq j 1 with
  | true => rw [Nat.eq_of_beq_eq_true hj]; exact h.symm
  | false => rfl
theorem ev_x2_is {xs : Nat → Int32} {a b : Int} (h : xs 1 = Int32.ofInt a) (h2 : xs 2 = Int32.ofInt b) : ev_x2 xs a b = (4, xs) := by
  unfold ev_x2
  congr 1
  funext j
  cases hj : Nat.beq j 1 with
  | true => rw [Nat.eq_of_beq_eq_true hj]; exact h.symm
  | false =>
    cases hk : Nat.beq j 2 with
    | true => rw [Nat.eq_of_beq_eq_true hk]; exact h2.symm
    | false => rfl
theorem ev_wi_ne {v a b : Int32} (h : ¬ ev_wi v a b = 0) : a.toInt ≤ v.toInt ∧ v.toInt ≤ b.toInt := by
  unfold ev_wi at h
  split at h
  · exact absurd rfl h
  · rename_i h1
    split at h
    · exact absurd rfl h
    · rename_i h2
      exact ⟨Int32.le_iff_toInt_le.mp (Int32.not_lt.mp h1), Int32.le_iff_toInt_le.mp (Int32.not_lt.mp h2)⟩
theorem ev_ofInt (v : Int32) : v = Int32.ofInt v.toInt := by rw [Int32.ofInt_toInt]
theorem ev_cmp_lt (x y : Int32) : lg_cmp x.toInt64 y.toInt64 < 0 ↔ x < y := by
  unfold lg_cmp
  have e1 : x.toInt64 > y.toInt64 ↔ y < x := Int32.toInt64_lt
  have h1 := @Int32.lt_iff_toInt_lt x y
  have h2 := @Int32.lt_iff_toInt_lt y x
  have e2 : x.toInt64 = y.toInt64 ↔ x.toInt = y.toInt := by
    rw [← Int64.toInt_inj, Int32.toInt_toInt64, Int32.toInt_toInt64]
  split
  · rename_i h
    have h3 := h2.mp (e1.mp h)
    exact ⟨fun z => absurd z (by decide), fun z => by have := h1.mp z; omega⟩
  · rename_i h
    split
    · rename_i h'
      have h3 := e2.mp h'
      exact ⟨fun z => absurd z (by decide), fun z => by have := h1.mp z; omega⟩
    · rename_i h'
      have a1 : ¬ y.toInt < x.toInt := fun z => h (e1.mpr (h2.mpr z))
      have a2 : ¬ x.toInt = y.toInt := fun z => h' (e2.mpr z)
      exact ⟨fun _ => h1.mpr (by omega), fun _ => by decide⟩
theorem ev_cmp_gt (x y : Int32) : 0 < lg_cmp x.toInt64 y.toInt64 ↔ y < x := by
  unfold lg_cmp
  have e1 : x.toInt64 > y.toInt64 ↔ y < x := Int32.toInt64_lt
  split
  · rename_i h
    exact ⟨fun _ => e1.mp h, fun _ => by decide⟩
  · rename_i h
    split
    · exact ⟨fun z => absurd z (by decide), fun z => absurd (e1.mpr z) h⟩
    · exact ⟨fun z => absurd z (by decide), fun z => absurd (e1.mpr z) h⟩
theorem ev_il_wi (v a b : Int32) : ev_il v.toInt64 a.toInt64 b.toInt64 = ev_wi v a b := by
  unfold ev_il ev_wi
  simp only [ev_cmp_lt, ev_cmp_gt]
end
section
/-! Methods that keep what is asked: those that need no proof by hand. -/
set_option maxRecDepth 1000000 in
theorem cv_3_0 : cx_valid cx_B0 3 ck_3_0 := cx_chk_s (G := []) (An := []) (n := 14) cx_hA0 cx_Gn (by decide +kernel)
set_option maxRecDepth 1000000 in
theorem cv_147_0 : cx_valid cx_B0 147 ck_147_0 := cx_chk_s (G := []) (An := []) (n := 36) cx_hA0 cx_Gn (by decide +kernel)
set_option maxRecDepth 1000000 in
theorem cv_148_0 : cx_valid cx_B0 148 ck_148_0 := cx_chk_s (G := []) (An := []) (n := 29) cx_hA0 cx_Gn (by decide +kernel)
set_option maxRecDepth 1000000 in
theorem cv_144_0 : cx_valid cx_B0 144 ck_144_0 := cx_chk_s (G := [(3, ck_3_0), (147, ck_147_0), (148, ck_148_0)]) (An := []) (n := 40) cx_hA0 (cx_Gc cv_3_0 (cx_Gc cv_147_0 (cx_Gc cv_148_0 cx_Gn))) (by decide +kernel)
set_option maxRecDepth 1000000 in
theorem cv_197_0 : cx_valid cx_B0 197 ck_197_0 := cx_chk_s (G := []) (An := []) (n := 14) cx_hA0 cx_Gn (by decide +kernel)
set_option maxRecDepth 1000000 in
theorem cv_230_0 : cx_valid cx_B0 230 ck_230_0 := cx_chk_s (G := [(197, ck_197_0)]) (An := [(4, ([(0, 0), (0, 1), (0, 2), (0, 3)], [], [cx_i32, cx_i32, cx_i32, (0, 30)], [], [], []), [(0, 99996), (1, 3), (0, 300000), (0, 0)]), (45, ([(0, 0), (0, 1), (0, 2), (0, 3), (0, 4), (0, 5), (0, 6)], [], [cx_i32, cx_i32, cx_i32, (0, 29), cx_i32, cx_i32, (0, 2147483647)], [], [], []), [(0, 99996), (1, 3), (0, 99955), (1, 6)])]) (n := 28) cx_hA0 (cx_Gc cv_197_0 cx_Gn) (by decide +kernel)
set_option maxRecDepth 1000000 in
theorem cv_179_0 : cx_valid cx_B0 179 ck_179_0 := cx_chk_s (G := []) (An := []) (n := 9) cx_hA0 cx_Gn (by decide +kernel)
set_option maxRecDepth 1000000 in
theorem cv_198_0 : cx_valid cx_B0 198 ck_198_0 := cx_chk_s (G := []) (An := []) (n := 14) cx_hA0 cx_Gn (by decide +kernel)
set_option maxRecDepth 1000000 in
theorem cv_165_0 : cx_valid cx_B0 165 ck_165_0 := cx_chk_s (G := [(179, ck_179_0), (197, ck_197_0), (198, ck_198_0)]) (An := [(6, ([(2, 35), (1, 0), (4, 0), (0, 1), (1, 2), (4, 0), (0, 3)], [], [cx_i64, cx_i32, cx_i64, (0, 36)], [], [], []), [(0, 99994), (1, 3), (0, 300000), (0, 0)]), (31, ([(2, 35), (1, 0), (4, 0), (0, 1), (1, 2), (4, 0), (0, 3), (0, 4)], [], [cx_i64, cx_i32, cx_i64, (0, 35), (0, 29)], [], [], []), [(0, 99994), (1, 3), (0, 99969), (1, 4)])]) (n := 92) cx_hA0 (cx_Gc cv_179_0 (cx_Gc cv_197_0 (cx_Gc cv_198_0 cx_Gn))) (by decide +kernel)
set_option maxRecDepth 1000000 in
theorem cv_216_0 : cx_valid cx_B0 216 ck_216_0 := cx_chk_s (G := [(197, ck_197_0)]) (An := [(3, ([(2, 35), (0, 0), (0, 1), (1, 2), (4, 0), (0, 3)], [], [(0, 9999), cx_i32, cx_i64, (0, 3)], [], [], []), [(0, 99997), (1, 3)])]) (n := 55) cx_hA0 (cx_Gc cv_197_0 cx_Gn) (by decide +kernel)
set_option maxRecDepth 1000000 in
theorem cv_177_0 : cx_valid cx_B0 177 ck_177_0 := cx_chk_s (G := [(179, ck_179_0), (216, ck_216_0)]) (An := [(11, ([(2, 35), (0, 0), (0, 1), (1, 2), (4, 0), (0, 3), (0, 4), (0, 5)], [], [(0, 400), (0, 400), cx_i64, (-1, 35), (-2147483648, 400), (0, 36)], [], [], []), [(0, 99989), (1, 5), (0, 300000), (0, 0)]), (44, ([(2, 35), (0, 0), (0, 1), (1, 2), (4, 0), (0, 3), (0, 4), (0, 5), (0, 6)], [], [(0, 400), (0, 400), cx_i64, (-1, 35), (-2147483648, 400), (0, 35), (0, 400)], [], [], []), [(0, 99989), (1, 5), (0, 99956), (1, 6)])]) (n := 48) cx_hA0 (cx_Gc cv_179_0 (cx_Gc cv_216_0 cx_Gn)) (by decide +kernel)
set_option maxRecDepth 1000000 in
theorem cv_55_0 : cx_valid cx_B0 55 ck_55_0 := cx_chk_s (G := []) (An := []) (n := 12) cx_hA0 cx_Gn (by decide +kernel)
set_option maxRecDepth 1000000 in
theorem cv_145_0 : cx_valid cx_B0 145 ck_145_0 := cx_chk_s (G := []) (An := [(52, ([(2, 1), (0, 0), (0, 1), (0, 2), (0, 3)], [], [(2, 6), (2, 6), (0, 1), (0, 29), (0, 0), (0, 0), (4, 36)], [], [(1, 2, 4), (1, 1, 5), (1, 6, 6), (1, 5, 2), (1, 4, 1), (1, 3, 0)], []), [(0, 99948), (1, 3)])]) (n := 37) cx_hA0 cx_Gn (by decide +kernel)
set_option maxRecDepth 1000000 in
theorem cv_88_0 : cx_valid cx_B0 88 ck_88_0 := cx_chk_s (G := []) (An := []) (n := 7) cx_hA0 cx_Gn (by decide +kernel)
set_option maxRecDepth 1000000 in
theorem cv_122_0 : cx_valid cx_B0 122 ck_122_0 := cx_chk_s (G := []) (An := []) (n := 13) cx_hA0 cx_Gn (by decide +kernel)
set_option maxRecDepth 1000000 in
theorem cv_38_0 : cx_valid cx_B0 38 ck_38_0 := cx_chk_s (G := []) (An := []) (n := 14) cx_hA0 cx_Gn (by decide +kernel)
set_option maxRecDepth 1000000 in
theorem cv_72_0 : cx_valid cx_B0 72 ck_72_0 := cx_chk_s (G := [(38, ck_38_0)]) (An := [(2, ([(2, 32), (0, 0)], [], [(0, 29)], [], [], []), [(0, 99998), (1, 0)])]) (n := 14) cx_hA0 (cx_Gc cv_38_0 cx_Gn) (by decide +kernel)
set_option maxRecDepth 1000000 in
theorem cv_139_0 : cx_valid cx_B0 139 ck_139_0 := cx_chk_s (G := []) (An := []) (n := 7) cx_hA0 cx_Gn (by decide +kernel)
set_option maxRecDepth 1000000 in
theorem cv_62_0 : cx_valid cx_B0 62 ck_62_0 := cx_chk_s (G := []) (An := []) (n := 10) cx_hA0 cx_Gn (by decide +kernel)
set_option maxRecDepth 1000000 in
theorem cv_106_0 : cx_valid cx_B0 106 ck_106_0 := cx_chk_s (G := []) (An := []) (n := 7) cx_hA0 cx_Gn (by decide +kernel)
set_option maxRecDepth 1000000 in
theorem cv_107_0 : cx_valid cx_B0 107 ck_107_0 := cx_chk_s (G := []) (An := []) (n := 7) cx_hA0 cx_Gn (by decide +kernel)
set_option maxRecDepth 1000000 in
theorem cv_117_0 : cx_valid cx_B0 117 ck_117_0 := cx_chk_s (G := []) (An := []) (n := 7) cx_hA0 cx_Gn (by decide +kernel)
set_option maxRecDepth 1000000 in
theorem cv_2_0 : cx_valid cx_B0 2 ck_2_0 := cx_chk_s (G := [(107, ck_107_0), (117, ck_117_0)]) (An := []) (n := 10) cx_hA0 (cx_Gc cv_107_0 (cx_Gc cv_117_0 cx_Gn)) (by decide +kernel)
set_option maxRecDepth 1000000 in
theorem cv_12_0 : cx_valid cx_B0 12 ck_12_0 := cx_chk_s (G := [(106, ck_106_0), (2, ck_2_0)]) (An := []) (n := 9) cx_hA0 (cx_Gc cv_106_0 (cx_Gc cv_2_0 cx_Gn)) (by decide +kernel)
set_option maxRecDepth 1000000 in
theorem cv_28_0 : cx_valid cx_B0 28 ck_28_0 := cx_chk_s (G := [(139, ck_139_0), (62, ck_62_0), (12, ck_12_0)]) (An := []) (n := 12) cx_hA0 (cx_Gc cv_139_0 (cx_Gc cv_62_0 (cx_Gc cv_12_0 cx_Gn))) (by decide +kernel)
set_option maxRecDepth 1000000 in
theorem cv_18_0 : cx_valid cx_B0 18 ck_18_0 := cx_chk_s (G := [(55, ck_55_0), (145, ck_145_0), (88, ck_88_0), (122, ck_122_0), (72, ck_72_0), (28, ck_28_0)]) (An := []) (n := 34) cx_hA0 (cx_Gc cv_55_0 (cx_Gc cv_145_0 (cx_Gc cv_88_0 (cx_Gc cv_122_0 (cx_Gc cv_72_0 (cx_Gc cv_28_0 cx_Gn)))))) (by decide +kernel)
set_option maxRecDepth 1000000 in
theorem cv_234_0 : cx_valid cx_B0 234 ck_234_0 := cx_chk_s (G := []) (An := []) (n := 45) cx_hA0 cx_Gn (by decide +kernel)
set_option maxRecDepth 1000000 in
theorem cv_38_1 : cx_valid cx_B0 38 ck_38_1 := cx_chk_s (G := []) (An := []) (n := 14) cx_hA0 cx_Gn (by decide +kernel)
set_option maxRecDepth 1000000 in
theorem cv_240_0 : cx_valid cx_B0 240 ck_240_0 := cx_chk_s (G := []) (An := []) (n := 17) cx_hA0 cx_Gn (by decide +kernel)
set_option maxRecDepth 1000000 in
theorem cv_154_0 : cx_valid cx_B0 154 ck_154_0 := cx_chk_s (G := [(240, ck_240_0)]) (An := []) (n := 13) cx_hA0 (cx_Gc cv_240_0 cx_Gn) (by decide +kernel)
set_option maxRecDepth 1000000 in
theorem cv_237_0 : cx_valid cx_B0 237 ck_237_0 := cx_chk_s (G := []) (An := []) (n := 52) cx_hA0 cx_Gn (by decide +kernel)
set_option maxRecDepth 1000000 in
theorem cv_149_0 : cx_valid cx_B0 149 ck_149_0 := cx_chk_s (G := [(237, ck_237_0), (234, ck_234_0), (154, ck_154_0), (55, ck_55_0)]) (An := [(6, ([(2, 1), (0, 0), (0, 1), (0, 2), (1, 3), (4, 0), (0, 4)], [], [cx_i32, cx_i32, cx_i32, cx_i64, (0, 29)], [], [], []), [(0, 99994), (1, 4)])]) (n := 62) cx_hA0 (cx_Gc cv_237_0 (cx_Gc cv_234_0 (cx_Gc cv_154_0 (cx_Gc cv_55_0 cx_Gn)))) (by decide +kernel)
set_option maxRecDepth 1000000 in
theorem cv_3_1 : cx_valid cx_B0 3 ck_3_1 := cx_chk_s (G := []) (An := []) (n := 14) cx_hA0 cx_Gn (by decide +kernel)
set_option maxRecDepth 1000000 in
theorem cv_4_0 : cx_valid cx_B0 4 ck_4_0 := cx_chk_s (G := []) (An := []) (n := 14) cx_hA0 cx_Gn (by decide +kernel)
set_option maxRecDepth 1000000 in
theorem cv_39_0 : cx_valid cx_B0 39 ck_39_0 := cx_chk_s (G := []) (An := []) (n := 14) cx_hA0 cx_Gn (by decide +kernel)
set_option maxRecDepth 1000000 in
theorem cv_91_0 : cx_valid cx_B0 91 ck_91_0 := cx_chk_s (G := [(3, ck_3_1), (4, ck_4_0), (39, ck_39_0), (38, ck_38_1)]) (An := [(21, ([(2, 3), (0, 0), (1, 1), (4, 0), (0, 2), (0, 3), (0, 4)], [], [cx_i32, cx_i64, cx_i32, (0, 288), (0, 288)], [], [], []), [(0, 99979), (2, 4)]), (100, ([(2, 3), (0, 0), (1, 1), (4, 0), (0, 2), (0, 3), (0, 4), (0, 5), (0, 6)], [], [cx_i32, cx_i64, cx_i32, (0, 287), (0, 288), (0, 0), (0, 287)], [], [], []), [(0, 99900), (2, 6)])]) (n := 38) cx_hA0 (cx_Gc cv_3_1 (cx_Gc cv_4_0 (cx_Gc cv_39_0 (cx_Gc cv_38_1 cx_Gn)))) (by decide +kernel)
set_option maxRecDepth 1000000 in
theorem cv_92_0 : cx_valid cx_B0 92 ck_92_0 := cx_chk_s (G := [(149, ck_149_0), (91, ck_91_0)]) (An := [(3, ([(2, 3), (0, 0), (0, 1), (0, 2)], [], [cx_i32, cx_i32, (-3, 30)], [], [], []), [(0, 99997), (1, 2), (0, 300000), (0, 0)]), (18, ([(2, 3), (0, 0), (0, 1), (0, 2), (0, 3)], [], [cx_i32, cx_i32, (-3, 29), (-3, 29), (2, 6)], [], [(1, 4, 4)], []), [(0, 99997), (1, 2), (0, 99982), (1, 3)])]) (n := 26) cx_hA0 (cx_Gc cv_149_0 (cx_Gc cv_91_0 cx_Gn)) (by decide +kernel)
set_option maxRecDepth 1000000 in
theorem cv_93_0 : cx_valid cx_B0 93 ck_93_0 := cx_chk_s (G := []) (An := [(4, ([(0, 0), (0, 1), (0, 2)], [], [cx_i32, cx_i32, (0, 29)], [], [], []), [(0, 99996), (1, 2)])]) (n := 31) cx_hA0 cx_Gn (by decide +kernel)
set_option maxRecDepth 1000000 in
theorem cv_90_0 : cx_valid cx_B0 90 ck_90_0 := cx_chk_s (G := []) (An := [(4, ([(0, 0), (0, 1), (0, 2)], [], [cx_i32, cx_i32, (0, 29)], [], [], []), [(0, 99996), (1, 2)])]) (n := 21) cx_hA0 cx_Gn (by decide +kernel)
set_option maxRecDepth 1000000 in
theorem cv_85_0 : cx_valid cx_B0 85 ck_85_0 := cx_chk_s (G := [(38, ck_38_1), (90, ck_90_0), (92, ck_92_0), (93, ck_93_0)]) (An := [(20, ([(2, 3), (0, 0), (0, 1), (0, 2), (0, 3), (0, 4)], [], [cx_i32, cx_i32, (0, 2), cx_i32, (0, 2)], [], [(3, 3, 2)], []), [(0, 99980), (1, 4), (0, 300000), (0, 0)]), (38, ([(2, 3), (0, 0), (0, 1), (0, 2), (0, 3), (0, 4), (0, 5)], [], [cx_i32, cx_i32, (0, 2), cx_i32, (0, 1), (0, 29)], [], [(3, 3, 2)], []), [(0, 99980), (1, 4), (0, 99962), (1, 5)])]) (n := 19) cx_hA0 (cx_Gc cv_38_1 (cx_Gc cv_90_0 (cx_Gc cv_92_0 (cx_Gc cv_93_0 cx_Gn)))) (by decide +kernel)
set_option maxRecDepth 1000000 in
theorem cv_43_0 : cx_valid cx_B0 43 ck_43_0 := cx_chk_s (G := [(55, ck_55_0), (234, ck_234_0), (85, ck_85_0), (28, ck_28_0)]) (An := []) (n := 36) cx_hA0 (cx_Gc cv_55_0 (cx_Gc cv_234_0 (cx_Gc cv_85_0 (cx_Gc cv_28_0 cx_Gn)))) (by decide +kernel)
set_option maxRecDepth 1000000 in
theorem cv_38_2 : cx_valid cx_B0 38 ck_38_2 := cx_chk_s (G := []) (An := []) (n := 14) cx_hA0 cx_Gn (by decide +kernel)
set_option maxRecDepth 1000000 in
theorem cv_146_0 : cx_valid cx_B0 146 ck_146_0 := cx_chk_s (G := [(3, ck_3_0), (38, ck_38_2)]) (An := []) (n := 15) cx_hA0 (cx_Gc cv_3_0 (cx_Gc cv_38_2 cx_Gn)) (by decide +kernel)
set_option maxRecDepth 1000000 in
theorem cv_42_0 : cx_valid cx_B0 42 ck_42_0 := cx_chk_s (G := [(55, ck_55_0), (146, ck_146_0), (2, ck_2_0), (62, ck_62_0), (12, ck_12_0), (28, ck_28_0)]) (An := []) (n := 36) cx_hA0 (cx_Gc cv_55_0 (cx_Gc cv_146_0 (cx_Gc cv_2_0 (cx_Gc cv_62_0 (cx_Gc cv_12_0 (cx_Gc cv_28_0 cx_Gn)))))) (by decide +kernel)
set_option maxRecDepth 1000000 in
theorem cv_153_0 : cx_valid cx_B0 153 ck_153_0 := cx_chk_s (G := []) (An := []) (n := 10) cx_hA0 cx_Gn (by decide +kernel)
set_option maxRecDepth 1000000 in
theorem cv_16_0 : cx_valid cx_B0 16 ck_16_0 := cx_chk_s (G := [(55, ck_55_0), (153, ck_153_0), (12, ck_12_0)]) (An := []) (n := 26) cx_hA0 (cx_Gc cv_55_0 (cx_Gc cv_153_0 (cx_Gc cv_12_0 cx_Gn))) (by decide +kernel)
set_option maxRecDepth 1000000 in
theorem cv_25_0 : cx_valid cx_B0 25 ck_25_0 := cx_chk_s (G := [(55, ck_55_0)]) (An := []) (n := 12) cx_hA0 (cx_Gc cv_55_0 cx_Gn) (by decide +kernel)
set_option maxRecDepth 1000000 in
theorem cv_94_0 : cx_valid cx_B0 94 ck_94_0 := cx_chk_s (G := [(3, ck_3_1)]) (An := []) (n := 13) cx_hA0 (cx_Gc cv_3_1 cx_Gn) (by decide +kernel)
set_option maxRecDepth 1000000 in
theorem cv_46_0 : cx_valid cx_B0 46 ck_46_0 := cx_chk_s (G := [(25, ck_25_0), (94, ck_94_0)]) (An := []) (n := 13) cx_hA0 (cx_Gc cv_25_0 (cx_Gc cv_94_0 cx_Gn)) (by decide +kernel)
set_option maxRecDepth 1000000 in
theorem cv_86_0 : cx_valid cx_B0 86 ck_86_0 := cx_chk_s (G := []) (An := []) (n := 26) cx_hA0 cx_Gn (by decide +kernel)
set_option maxRecDepth 1000000 in
theorem cv_44_0 : cx_valid cx_B0 44 ck_44_0 := cx_chk_s (G := [(25, ck_25_0), (94, ck_94_0), (55, ck_55_0), (86, ck_86_0)]) (An := []) (n := 24) cx_hA0 (cx_Gc cv_25_0 (cx_Gc cv_94_0 (cx_Gc cv_55_0 (cx_Gc cv_86_0 cx_Gn)))) (by decide +kernel)
set_option maxRecDepth 1000000 in
theorem cv_89_0 : cx_valid cx_B0 89 ck_89_0 := cx_chk_s (G := [(94, ck_94_0)]) (An := []) (n := 15) cx_hA0 (cx_Gc cv_94_0 cx_Gn) (by decide +kernel)
set_option maxRecDepth 1000000 in
theorem cv_23_0 : cx_valid cx_B0 23 ck_23_0 := cx_chk_s (G := [(55, ck_55_0)]) (An := []) (n := 12) cx_hA0 (cx_Gc cv_55_0 cx_Gn) (by decide +kernel)
set_option maxRecDepth 1000000 in
theorem cv_138_0 : cx_valid cx_B0 138 ck_138_0 := cx_chk_s (G := [(3, ck_atI)]) (An := []) (n := 8) cx_hA0 (cx_Gc cv_atI cx_Gn) (by decide +kernel)
set_option maxRecDepth 1000000 in
theorem cv_45_0 : cx_valid cx_B0 45 ck_45_0 := cx_chk_s (G := []) (An := []) (n := 13) cx_hA0 cx_Gn (by decide +kernel)
set_option maxRecDepth 1000000 in
theorem cv_22_0 : cx_valid cx_B0 22 ck_22_0 := cx_chk_s (G := [(55, ck_55_0)]) (An := []) (n := 12) cx_hA0 (cx_Gc cv_55_0 cx_Gn) (by decide +kernel)
set_option maxRecDepth 1000000 in
theorem cv_39_1 : cx_valid cx_B0 39 ck_39_1 := cx_chk_s (G := []) (An := []) (n := 14) cx_hA0 cx_Gn (by decide +kernel)
set_option maxRecDepth 1000000 in
theorem cv_121_0 : cx_valid cx_B0 121 ck_121_0 := cx_chk_s (G := [(39, ck_39_1)]) (An := []) (n := 20) cx_hA0 (cx_Gc cv_39_1 cx_Gn) (by decide +kernel)
set_option maxRecDepth 1000000 in
theorem cv_35_0 : cx_valid cx_B0 35 ck_35_0 := cx_chk_s (G := [(121, ck_121_0), (12, ck_12_0)]) (An := []) (n := 17) cx_hA0 (cx_Gc cv_121_0 (cx_Gc cv_12_0 cx_Gn)) (by decide +kernel)
set_option maxRecDepth 1000000 in
theorem cv_10_0 : cx_valid cx_B0 10 ck_10_0 := cx_chk_s (G := [(22, ck_22_0), (35, ck_35_0)]) (An := []) (n := 14) cx_hA0 (cx_Gc cv_22_0 (cx_Gc cv_35_0 cx_Gn)) (by decide +kernel)
set_option maxRecDepth 1000000 in
theorem cv_41_0 : cx_valid cx_B0 41 ck_41_0 := cx_chk_s (G := [(22, ck_22_0), (35, ck_35_0)]) (An := []) (n := 24) cx_hA0 (cx_Gc cv_22_0 (cx_Gc cv_35_0 cx_Gn)) (by decide +kernel)
set_option maxRecDepth 1000000 in
theorem cv_21_0 : cx_valid cx_B0 21 ck_21_0 := cx_chk_s (G := [(55, ck_55_0)]) (An := []) (n := 12) cx_hA0 (cx_Gc cv_55_0 cx_Gn) (by decide +kernel)
set_option maxRecDepth 1000000 in
theorem cv_126_0 : cx_valid cx_B0 126 ck_126_0 := cx_chk_s (G := []) (An := []) (n := 24) cx_hA0 cx_Gn (by decide +kernel)
set_option maxRecDepth 1000000 in
theorem cv_127_0 : cx_valid cx_B0 127 ck_127_0 := cx_chk_s (G := []) (An := []) (n := 28) cx_hA0 cx_Gn (by decide +kernel)
set_option maxRecDepth 1000000 in
theorem cv_125_0 : cx_valid cx_B0 125 ck_125_0 := cx_chk_s (G := [(127, ck_127_0)]) (An := []) (n := 28) cx_hA0 (cx_Gc cv_127_0 cx_Gn) (by decide +kernel)
set_option maxRecDepth 1000000 in
theorem cv_1_0 : cx_valid cx_B0 1 ck_1_0 := cx_chk_s (G := [(21, ck_21_0), (55, ck_55_0), (126, ck_126_0), (125, ck_125_0), (2, ck_2_0)]) (An := []) (n := 26) cx_hA0 (cx_Gc cv_21_0 (cx_Gc cv_55_0 (cx_Gc cv_126_0 (cx_Gc cv_125_0 (cx_Gc cv_2_0 cx_Gn))))) (by decide +kernel)
set_option maxRecDepth 1000000 in
theorem cv_32_0 : cx_valid cx_B0 32 ck_32_0 := cx_chk_s (G := [(21, ck_21_0), (126, ck_126_0), (127, ck_127_0), (2, ck_2_0)]) (An := []) (n := 21) cx_hA0 (cx_Gc cv_21_0 (cx_Gc cv_126_0 (cx_Gc cv_127_0 (cx_Gc cv_2_0 cx_Gn)))) (by decide +kernel)
set_option maxRecDepth 1000000 in
theorem cv_123_0 : cx_valid cx_B0 123 ck_123_0 := cx_chk_s (G := [(127, ck_127_0)]) (An := []) (n := 17) cx_hA0 (cx_Gc cv_127_0 cx_Gn) (by decide +kernel)
set_option maxRecDepth 1000000 in
theorem cv_5_0 : cx_valid cx_B0 5 ck_5_0 := cx_chk_s (G := [(123, ck_123_0), (12, ck_12_0)]) (An := []) (n := 17) cx_hA0 (cx_Gc cv_123_0 (cx_Gc cv_12_0 cx_Gn)) (by decide +kernel)
set_option maxRecDepth 1000000 in
theorem cv_87_0 : cx_valid cx_B0 87 ck_87_0 := cx_chk_s (G := [(45, ck_45_0)]) (An := []) (n := 28) cx_hA0 (cx_Gc cv_45_0 cx_Gn) (by decide +kernel)
set_option maxRecDepth 1000000 in
theorem cv_39_2 : cx_valid cx_B0 39 ck_39_2 := cx_chk_s (G := []) (An := []) (n := 14) cx_hA0 cx_Gn (by decide +kernel)
set_option maxRecDepth 1000000 in
theorem cv_39_3 : cx_valid cx_B0 39 ck_39_3 := cx_chk_s (G := []) (An := []) (n := 14) cx_hA0 cx_Gn (by decide +kernel)
set_option maxRecDepth 1000000 in
theorem cv_4_1 : cx_valid cx_B0 4 ck_4_1 := cx_chk_s (G := []) (An := []) (n := 14) cx_hA0 cx_Gn (by decide +kernel)
set_option maxRecDepth 1000000 in
theorem cv_124_0 : cx_valid cx_B0 124 ck_124_0 := cx_chk_s (G := [(4, ck_4_1)]) (An := []) (n := 8) cx_hA0 (cx_Gc cv_4_1 cx_Gn) (by decide +kernel)
set_option maxRecDepth 1000000 in
theorem cv_4_2 : cx_valid cx_B0 4 ck_4_2 := cx_chk_s (G := []) (An := []) (n := 14) cx_hA0 cx_Gn (by decide +kernel)
set_option maxRecDepth 1000000 in
theorem cv_4_3 : cx_valid cx_B0 4 ck_4_3 := cx_chk_s (G := []) (An := []) (n := 14) cx_hA0 cx_Gn (by decide +kernel)
set_option maxRecDepth 1000000 in
theorem cv_152_0 : cx_valid cx_B0 152 ck_152_0 := cx_chk_s (G := [(3, ck_3_0)]) (An := []) (n := 8) cx_hA0 (cx_Gc cv_3_0 cx_Gn) (by decide +kernel)
set_option maxRecDepth 1000000 in
theorem cv_130_0 : cx_valid cx_B0 130 ck_130_0 := cx_chk_s (G := [(237, ck_237_0), (152, ck_152_0), (4, ck_4_2), (4, ck_4_3), (39, ck_39_3)]) (An := [(8, ([(2, 10), (1, 0), (4, 0), (0, 1), (0, 2), (0, 3)], [], [cx_i64, cx_i32, (0, 1), (0, 3)], [], [], []), [(0, 99992), (1, 3)])]) (n := 54) cx_hA0 (cx_Gc cv_237_0 (cx_Gc cv_152_0 (cx_Gc cv_4_2 (cx_Gc cv_4_3 (cx_Gc cv_39_3 cx_Gn))))) (by decide +kernel)
set_option maxRecDepth 1000000 in
theorem cv_132_0 : cx_valid cx_B0 132 ck_132_0 := cx_chk_s (G := [(4, ck_4_2), (4, ck_4_3), (147, ck_147_0), (148, ck_148_0)]) (An := []) (n := 29) cx_hA0 (cx_Gc cv_4_2 (cx_Gc cv_4_3 (cx_Gc cv_147_0 (cx_Gc cv_148_0 cx_Gn)))) (by decide +kernel)
set_option maxRecDepth 1000000 in
theorem cv_131_0 : cx_valid cx_B0 131 ck_131_0 := cx_chk_s (G := [(132, ck_132_0), (39, ck_39_2)]) (An := []) (n := 45) cx_hA0 (cx_Gc cv_132_0 (cx_Gc cv_39_2 cx_Gn)) (by decide +kernel)
set_option maxRecDepth 1000000 in
theorem cv_135_0 : cx_valid cx_B0 135 ck_135_0 := cx_chk_s (G := [(138, ck_138_0), (87, ck_87_0), (39, ck_39_2), (39, ck_39_3), (124, ck_124_0), (130, ck_130_0), (131, ck_131_0)]) (An := [(12, ([(2, 10), (0, 0), (0, 1), (0, 2), (0, 3)], [], [cx_i32, cx_i32, cx_i32, (0, 3)], [], [], []), [(0, 99988), (1, 3)]), (86, ([(2, 10), (0, 0), (0, 1), (0, 2), (0, 3), (1, 4), (4, 0), (0, 5)], [], [cx_i32, cx_i32, cx_i32, (0, 1), cx_i64, (0, 2147483647), (-1, 1)], [], [(1, 1, 6)], []), [(0, 99914), (1, 5)])]) (n := 33) cx_hA0 (cx_Gc cv_138_0 (cx_Gc cv_87_0 (cx_Gc cv_39_2 (cx_Gc cv_39_3 (cx_Gc cv_124_0 (cx_Gc cv_130_0 (cx_Gc cv_131_0 cx_Gn))))))) (by decide +kernel)
set_option maxRecDepth 1000000 in
theorem cv_133_0 : cx_valid cx_B0 133 ck_133_0 := cx_chk_s (G := [(4, ck_4_2)]) (An := []) (n := 8) cx_hA0 (cx_Gc cv_4_2 cx_Gn) (by decide +kernel)
set_option maxRecDepth 1000000 in
theorem cv_129_0 : cx_valid cx_B0 129 ck_129_0 := cx_chk_s (G := [(4, ck_4_2)]) (An := []) (n := 18) cx_hA0 (cx_Gc cv_4_2 cx_Gn) (by decide +kernel)
set_option maxRecDepth 1000000 in
theorem cv_36_0 : cx_valid cx_B0 36 ck_36_0 := cx_chk_s (G := [(237, ck_237_0)]) (An := []) (n := 10) cx_hA0 (cx_Gc cv_237_0 cx_Gn) (by decide +kernel)
set_option maxRecDepth 1000000 in
theorem cv_134_0 : cx_valid cx_B0 134 ck_134_0 := cx_chk_s (G := [(4, ck_4_2), (4, ck_4_3), (36, ck_36_0)]) (An := [(4, ([(2, 10), (1, 0), (4, 0), (0, 1)], [], [cx_i64, (0, 3)], [], [], []), [(0, 99996), (1, 1)])]) (n := 24) cx_hA0 (cx_Gc cv_4_2 (cx_Gc cv_4_3 (cx_Gc cv_36_0 cx_Gn))) (by decide +kernel)
set_option maxRecDepth 1000000 in
theorem cv_38_3 : cx_valid cx_B0 38 ck_38_3 := cx_chk_s (G := []) (An := []) (n := 14) cx_hA0 cx_Gn (by decide +kernel)
set_option maxRecDepth 1000000 in
theorem cv_38_4 : cx_valid cx_B0 38 ck_38_4 := cx_chk_s (G := []) (An := []) (n := 14) cx_hA0 cx_Gn (by decide +kernel)
set_option maxRecDepth 1000000 in
theorem cv_159_0 : cx_valid cx_B0 159 ck_159_0 := cx_chk_s (G := [(38, ck_38_3), (38, ck_38_4)]) (An := [(7, ([(2, 14), (0, 0)], [], [(0, 36), (0, 0)], [], [(14, 2, 1)], []), [(0, 99993), (1, 0)])]) (n := 19) cx_hA0 (cx_Gc cv_38_3 (cx_Gc cv_38_4 cx_Gn)) (by decide +kernel)
set_option maxRecDepth 1000000 in
theorem cv_113_0 : cx_valid cx_B0 113 ck_113_0 := cx_chk_s (G := [(4, ck_atJ)]) (An := []) (n := 22) cx_hA0 (cx_Gc cv_atJ cx_Gn) (by decide +kernel)
set_option maxRecDepth 1000000 in
theorem cv_109_0 : cx_valid cx_B0 109 ck_109_0 := cx_chk_s (G := [(113, ck_113_0), (237, ck_237_0), (152, ck_152_0)]) (An := []) (n := 15) cx_hA0 (cx_Gc cv_113_0 (cx_Gc cv_237_0 (cx_Gc cv_152_0 cx_Gn))) (by decide +kernel)
set_option maxRecDepth 1000000 in
theorem cv_236_0 : cx_valid cx_B0 236 ck_236_0 := cx_chk_s (G := []) (An := []) (n := 53) cx_hA0 cx_Gn (by decide +kernel)
set_option maxRecDepth 1000000 in
theorem cv_239_0 : cx_valid cx_B0 239 ck_239_0 := cx_chk_s (G := [(236, ck_236_0)]) (An := []) (n := 17) cx_hA0 (cx_Gc cv_236_0 cx_Gn) (by decide +kernel)
set_option maxRecDepth 1000000 in
theorem cv_3_3 : cx_valid cx_B0 3 ck_3_3 := cx_chk_s (G := []) (An := []) (n := 14) cx_hA0 cx_Gn (by decide +kernel)
set_option maxRecDepth 1000000 in
theorem cv_160_0 : cx_valid cx_B0 160 ck_160_0 := cx_chk_s (G := [(239, ck_239_0), (3, ck_3_3), (38, ck_38_3)]) (An := [(5, ([(2, 15), (1, 0), (4, 0), (1, 1), (4, 0), (0, 2)], [], [cx_i64, cx_i64, (0, 36)], [], [], []), [(0, 99995), (1, 2)])]) (n := 30) cx_hA0 (cx_Gc cv_239_0 (cx_Gc cv_3_3 (cx_Gc cv_38_3 cx_Gn))) (by decide +kernel)
set_option maxRecDepth 1000000 in
theorem cv_3_4 : cx_valid cx_B0 3 ck_3_4 := cx_chk_s (G := []) (An := []) (n := 14) cx_hA0 cx_Gn (by decide +kernel)
set_option maxRecDepth 1000000 in
theorem cv_160_1 : cx_valid cx_B0 160 ck_160_1 := cx_chk_s (G := [(239, ck_239_0), (3, ck_3_4), (38, ck_38_4)]) (An := [(5, ([(2, 16), (1, 0), (4, 0), (1, 1), (4, 0), (0, 2)], [], [cx_i64, cx_i64, (0, 36)], [], [], []), [(0, 99995), (1, 2)])]) (n := 30) cx_hA0 (cx_Gc cv_239_0 (cx_Gc cv_3_4 (cx_Gc cv_38_4 cx_Gn))) (by decide +kernel)
set_option maxRecDepth 1000000 in
theorem cv_156_0 : cx_valid cx_B0 156 ck_156_0 := cx_chk_s (G := [(160, ck_160_0), (160, ck_160_1)]) (An := []) (n := 18) cx_hA0 (cx_Gc cv_160_0 (cx_Gc cv_160_1 cx_Gn)) (by decide +kernel)
set_option maxRecDepth 1000000 in
theorem cv_105_0 : cx_valid cx_B0 105 ck_105_0 := cx_chk_s (G := [(159, ck_159_0), (109, ck_109_0), (4, ck_atJ), (156, ck_156_0)]) (An := [(17, ([(2, 13), (0, 0)], [], [(0, 10000), (0, 0)], [], [(13, 9, 1)], []), [(0, 99983), (1, 0)])]) (n := 26) cx_hA0 (cx_Gc cv_159_0 (cx_Gc cv_109_0 (cx_Gc cv_atJ (cx_Gc cv_156_0 cx_Gn)))) (by decide +kernel)
set_option maxRecDepth 1000000 in
theorem cv_110_0 : cx_valid cx_B0 110 ck_110_0 := cx_chk_s (G := [(109, ck_109_0)]) (An := [(4, ([(2, 13), (0, 0), (0, 1), (0, 2)], [], [cx_i32, cx_i32, (0, 10000)], [], [], []), [(0, 99996), (1, 2)])]) (n := 19) cx_hA0 (cx_Gc cv_109_0 cx_Gn) (by decide +kernel)
set_option maxRecDepth 1000000 in
theorem cv_163_0 : cx_valid cx_B0 163 ck_163_0 := cx_chk_s (G := [(3, ck_3_3)]) (An := []) (n := 8) cx_hA0 (cx_Gc cv_3_3 cx_Gn) (by decide +kernel)
set_option maxRecDepth 1000000 in
theorem cv_158_0 : cx_valid cx_B0 158 ck_158_0 := cx_chk_s (G := [(3, ck_3_3)]) (An := [(5, ([(2, 14), (0, 0), (0, 1), (1, 2), (4, 0), (0, 3)], [], [cx_i32, cx_i32, cx_i64, (0, 2147483647)], [], [], []), [(0, 99995), (1, 3)])]) (n := 21) cx_hA0 (cx_Gc cv_3_3 cx_Gn) (by decide +kernel)
set_option maxRecDepth 1000000 in
theorem cv_162_0 : cx_valid cx_B0 162 ck_162_0 := cx_chk_s (G := [(3, ck_3_4), (3, ck_3_3)]) (An := []) (n := 19) cx_hA0 (cx_Gc cv_3_4 (cx_Gc cv_3_3 cx_Gn)) (by decide +kernel)
set_option maxRecDepth 1000000 in
theorem cv_161_0 : cx_valid cx_B0 161 ck_161_0 := cx_chk_s (G := [(162, ck_162_0)]) (An := []) (n := 18) cx_hA0 (cx_Gc cv_162_0 cx_Gn) (by decide +kernel)
set_option maxRecDepth 1000000 in
theorem cv_157_0 : cx_valid cx_B0 157 ck_157_0 := cx_chk_s (G := [(161, ck_161_0)]) (An := [(4, ([(2, 14), (0, 0), (0, 1), (0, 2)], [], [cx_i32, (0, 2147483646), (1, 2147483647)], [], [], []), [(0, 99996), (1, 2)])]) (n := 18) cx_hA0 (cx_Gc cv_161_0 cx_Gn) (by decide +kernel)
set_option maxRecDepth 1000000 in
theorem cv_111_0 : cx_valid cx_B0 111 ck_111_0 := cx_chk_s (G := [(4, ck_atJ)]) (An := []) (n := 8) cx_hA0 (cx_Gc cv_atJ cx_Gn) (by decide +kernel)
set_option maxRecDepth 1000000 in
theorem cv_3_5 : cx_valid cx_B0 3 ck_3_5 := cx_chk_s (G := []) (An := []) (n := 14) cx_hA0 cx_Gn (by decide +kernel)
set_option maxRecDepth 1000000 in
theorem cv_38_5 : cx_valid cx_B0 38 ck_38_5 := cx_chk_s (G := []) (An := []) (n := 14) cx_hA0 cx_Gn (by decide +kernel)
set_option maxRecDepth 1000000 in
theorem cv_116_0 : cx_valid cx_B0 116 ck_116_0 := cx_chk_s (G := [(239, ck_239_0), (3, ck_3_5), (38, ck_38_5)]) (An := [(5, ([(2, 20), (1, 0), (4, 0), (1, 1), (4, 0), (0, 2)], [], [cx_i64, cx_i64, (0, 36)], [], [], []), [(0, 99995), (1, 2), (0, 300000), (0, 0)]), (36, ([(2, 20), (1, 0), (4, 0), (1, 1), (4, 0), (0, 2), (0, 3), (1, 4), (4, 0), (0, 5)], [], [cx_i64, cx_i64, (0, 35), cx_i32, cx_i64, (0, 36)], [], [], []), [(0, 99995), (1, 2), (0, 99964), (1, 5)])]) (n := 36) cx_hA0 (cx_Gc cv_239_0 (cx_Gc cv_3_5 (cx_Gc cv_38_5 cx_Gn))) (by decide +kernel)
set_option maxRecDepth 1000000 in
theorem cv_115_0 : cx_valid cx_B0 115 ck_115_0 := cx_chk_s (G := [(109, ck_109_0), (111, ck_111_0), (116, ck_116_0)]) (An := [(2, ([(2, 20), (0, 0)], [], [(0, 9999)], [], [], []), [(0, 99998), (1, 0)]), (26, ([(2, 20), (0, 0)], [], [(0, 10000)], [], [], []), [(0, 99974), (1, 0)])]) (n := 22) cx_hA0 (cx_Gc cv_109_0 (cx_Gc cv_111_0 (cx_Gc cv_116_0 cx_Gn))) (by decide +kernel)
set_option maxRecDepth 1000000 in
theorem cv_118_0 : cx_valid cx_B0 118 ck_118_0 := cx_chk_s (G := [(3, ck_3_5), (163, ck_163_0)]) (An := []) (n := 35) cx_hA0 (cx_Gc cv_3_5 (cx_Gc cv_163_0 cx_Gn)) (by decide +kernel)
set_option maxRecDepth 1000000 in
theorem cv_119_0 : cx_valid cx_B0 119 ck_119_0 := cx_chk_s (G := [(115, ck_115_0), (118, ck_118_0)]) (An := [(24, ([(2, 20), (2, 14), (0, 0), (0, 1)], [], [(4, 36), (0, 36), cx_i32, cx_i32, (0, 0)], [], [(20, 6, 2), (14, 2, 3), (20, 3, 4)], []), [(0, 99976), (1, 1), (0, 300000), (0, 0)]), (34, ([(2, 20), (2, 14), (0, 0), (0, 1), (0, 2)], [], [(4, 36), (0, 35), (1, 36), cx_i32, cx_i32, (0, 0)], [], [(20, 6, 3), (14, 2, 4), (20, 3, 5)], []), [(0, 99976), (1, 1), (0, 99966), (1, 2)])]) (n := 28) cx_hA0 (cx_Gc cv_115_0 (cx_Gc cv_118_0 cx_Gn)) (by decide +kernel)
set_option maxRecDepth 1000000 in
theorem cv_38_6 : cx_valid cx_B0 38 ck_38_6 := cx_chk_s (G := []) (An := []) (n := 14) cx_hA0 cx_Gn (by decide +kernel)
set_option maxRecDepth 1000000 in
theorem cv_38_7 : cx_valid cx_B0 38 ck_38_7 := cx_chk_s (G := []) (An := []) (n := 14) cx_hA0 cx_Gn (by decide +kernel)
set_option maxRecDepth 1000000 in
theorem cv_39_5 : cx_valid cx_B0 39 ck_39_5 := cx_chk_s (G := []) (An := []) (n := 14) cx_hA0 cx_Gn (by decide +kernel)
set_option maxRecDepth 1000000 in
theorem cv_3_6 : cx_valid cx_B0 3 ck_3_6 := cx_chk_s (G := []) (An := []) (n := 14) cx_hA0 cx_Gn (by decide +kernel)
set_option maxRecDepth 1000000 in
theorem cv_4_5 : cx_valid cx_B0 4 ck_4_5 := cx_chk_s (G := []) (An := []) (n := 14) cx_hA0 cx_Gn (by decide +kernel)
set_option maxRecDepth 1000000 in
theorem cv_38_8 : cx_valid cx_B0 38 ck_38_8 := cx_chk_s (G := []) (An := []) (n := 14) cx_hA0 cx_Gn (by decide +kernel)
set_option maxRecDepth 1000000 in
theorem cv_38_9 : cx_valid cx_B0 38 ck_38_9 := cx_chk_s (G := []) (An := []) (n := 14) cx_hA0 cx_Gn (by decide +kernel)
set_option maxRecDepth 1000000 in
theorem cv_159_1 : cx_valid cx_B0 159 ck_159_1 := cx_chk_s (G := [(38, ck_38_8), (38, ck_38_9)]) (An := [(7, ([(2, 23), (0, 0)], [], [(0, 36), (0, 0)], [], [(23, 2, 1)], []), [(0, 99993), (1, 0)])]) (n := 19) cx_hA0 (cx_Gc cv_38_8 (cx_Gc cv_38_9 cx_Gn)) (by decide +kernel)
set_option maxRecDepth 1000000 in
theorem cv_3_7 : cx_valid cx_B0 3 ck_3_7 := cx_chk_s (G := []) (An := []) (n := 14) cx_hA0 cx_Gn (by decide +kernel)
set_option maxRecDepth 1000000 in
theorem cv_3_8 : cx_valid cx_B0 3 ck_3_8 := cx_chk_s (G := []) (An := []) (n := 14) cx_hA0 cx_Gn (by decide +kernel)
set_option maxRecDepth 1000000 in
theorem cv_162_1 : cx_valid cx_B0 162 ck_162_1 := cx_chk_s (G := [(3, ck_3_7), (3, ck_3_8)]) (An := []) (n := 19) cx_hA0 (cx_Gc cv_3_7 (cx_Gc cv_3_8 cx_Gn)) (by decide +kernel)
set_option maxRecDepth 1000000 in
theorem cv_161_1 : cx_valid cx_B0 161 ck_161_1 := cx_chk_s (G := [(162, ck_162_1)]) (An := []) (n := 18) cx_hA0 (cx_Gc cv_162_1 cx_Gn) (by decide +kernel)
set_option maxRecDepth 1000000 in
theorem cv_157_1 : cx_valid cx_B0 157 ck_157_1 := cx_chk_s (G := [(161, ck_161_1)]) (An := [(4, ([(2, 23), (0, 0), (0, 1), (0, 2)], [], [cx_i32, (0, 2147483646), (1, 2147483647)], [], [], []), [(0, 99996), (1, 2)])]) (n := 18) cx_hA0 (cx_Gc cv_161_1 cx_Gn) (by decide +kernel)
set_option maxRecDepth 1000000 in
theorem cv_137_0 : cx_valid cx_B0 137 ck_137_0 := cx_chk_s (G := [(3, ck_atI), (87, ck_87_0)]) (An := []) (n := 26) cx_hA0 (cx_Gc cv_atI (cx_Gc cv_87_0 cx_Gn)) (by decide +kernel)
set_option maxRecDepth 1000000 in
theorem cv_68_0 : cx_valid cx_B0 68 ck_68_0 := cx_chk_s (G := [(152, ck_152_0), (138, ck_138_0), (87, ck_87_0), (36, ck_36_0)]) (An := [(29, ([(2, 22), (0, 0), (1, 1), (4, 0), (0, 2), (1, 3), (4, 0), (0, 4)], [], [cx_i32, cx_i64, cx_i32, cx_i64, (0, 3)], [], [], []), [(0, 99971), (1, 4)])]) (n := 22) cx_hA0 (cx_Gc cv_152_0 (cx_Gc cv_138_0 (cx_Gc cv_87_0 (cx_Gc cv_36_0 cx_Gn)))) (by decide +kernel)
set_option maxRecDepth 1000000 in
theorem cv_160_2 : cx_valid cx_B0 160 ck_160_2 := cx_chk_s (G := [(239, ck_239_0), (3, ck_3_8), (38, ck_38_8)]) (An := [(5, ([(2, 24), (1, 0), (4, 0), (1, 1), (4, 0), (0, 2)], [], [cx_i64, cx_i64, (0, 36)], [], [], []), [(0, 99995), (1, 2)])]) (n := 30) cx_hA0 (cx_Gc cv_239_0 (cx_Gc cv_3_8 (cx_Gc cv_38_8 cx_Gn))) (by decide +kernel)
set_option maxRecDepth 1000000 in
theorem cv_160_3 : cx_valid cx_B0 160 ck_160_3 := cx_chk_s (G := [(239, ck_239_0), (3, ck_3_7), (38, ck_38_9)]) (An := [(5, ([(2, 25), (1, 0), (4, 0), (1, 1), (4, 0), (0, 2)], [], [cx_i64, cx_i64, (0, 36)], [], [], []), [(0, 99995), (1, 2)])]) (n := 30) cx_hA0 (cx_Gc cv_239_0 (cx_Gc cv_3_7 (cx_Gc cv_38_9 cx_Gn))) (by decide +kernel)
set_option maxRecDepth 1000000 in
theorem cv_156_1 : cx_valid cx_B0 156 ck_156_1 := cx_chk_s (G := [(160, ck_160_2), (160, ck_160_3)]) (An := []) (n := 18) cx_hA0 (cx_Gc cv_160_2 (cx_Gc cv_160_3 cx_Gn)) (by decide +kernel)
set_option maxRecDepth 1000000 in
theorem cv_61_0 : cx_valid cx_B0 61 ck_61_0 := cx_chk_s (G := [(159, ck_159_1), (157, ck_157_1), (161, ck_161_1), (3, ck_atI), (137, ck_137_0), (68, ck_68_0), (156, ck_156_1)]) (An := [(19, ([(2, 22), (0, 0), (0, 1), (1, 2), (4, 0), (0, 3)], [], [cx_i32, cx_i32, cx_i64, cx_i32], [], [], []), [(0, 99981), (1, 3)])]) (n := 25) cx_hA0 (cx_Gc cv_159_1 (cx_Gc cv_157_1 (cx_Gc cv_161_1 (cx_Gc cv_atI (cx_Gc cv_137_0 (cx_Gc cv_68_0 (cx_Gc cv_156_1 cx_Gn))))))) (by decide +kernel)
set_option maxRecDepth 1000000 in
theorem cv_58_0 : cx_valid cx_B0 58 ck_58_0 := cx_chk_s (G := [(137, ck_137_0), (68, ck_68_0)]) (An := []) (n := 28) cx_hA0 (cx_Gc cv_137_0 (cx_Gc cv_68_0 cx_Gn)) (by decide +kernel)
set_option maxRecDepth 1000000 in
theorem cv_49_0 : cx_valid cx_B0 49 ck_49_0 := cx_chk_s (G := [(3, ck_atI), (38, ck_puI)]) (An := []) (n := 18) cx_hA0 (cx_Gc cv_atI (cx_Gc cv_puI cx_Gn)) (by decide +kernel)
set_option maxRecDepth 1000000 in
theorem cv_63_0 : cx_valid cx_B0 63 ck_63_0 := cx_chk_s (G := [(3, ck_atI), (58, ck_58_0), (49, ck_49_0)]) (An := [(6, ([(2, 22), (0, 0), (0, 1), (0, 2), (1, 3), (4, 0), (0, 4), (0, 5), (0, 6)], [], [cx_i32, cx_i32, cx_i32, cx_i64, cx_i32, cx_i32, cx_i32], [], [], []), [(0, 99994), (1, 6)])]) (n := 25) cx_hA0 (cx_Gc cv_atI (cx_Gc cv_58_0 (cx_Gc cv_49_0 cx_Gn))) (by decide +kernel)
set_option maxRecDepth 1000000 in
theorem cv_59_0 : cx_valid cx_B0 59 ck_59_0 := cx_chk_s (G := [(38, ck_38_6)]) (An := []) (n := 12) cx_hA0 (cx_Gc cv_38_6 cx_Gn) (by decide +kernel)
set_option maxRecDepth 1000000 in
theorem cv_3_9 : cx_valid cx_B0 3 ck_3_9 := cx_chk_s (G := []) (An := []) (n := 14) cx_hA0 cx_Gn (by decide +kernel)
set_option maxRecDepth 1000000 in
theorem cv_69_0 : cx_valid cx_B0 69 ck_69_0 := cx_chk_s (G := [(3, ck_atI), (4, ck_4_5), (61, ck_61_0), (63, ck_63_0), (59, ck_59_0), (3, ck_3_9), (38, ck_38_7), (39, ck_39_5)]) (An := [(61, ([(2, 22), (0, 0), (0, 1), (1, 2), (4, 0), (0, 3), (0, 4), (0, 5), (0, 6)], [], [cx_i32, cx_i32, cx_i64, (0, 2147483646), cx_i32, cx_i32, cx_i32], [], [], []), [(0, 99939), (1, 6)])]) (n := 39) cx_hA0 (cx_Gc cv_atI (cx_Gc cv_4_5 (cx_Gc cv_61_0 (cx_Gc cv_63_0 (cx_Gc cv_59_0 (cx_Gc cv_3_9 (cx_Gc cv_38_7 (cx_Gc cv_39_5 cx_Gn)))))))) (by decide +kernel)
set_option maxRecDepth 1000000 in
theorem cv_65_0 : cx_valid cx_B0 65 ck_65_0 := cx_chk_s (G := [(3, ck_3_9)]) (An := []) (n := 8) cx_hA0 (cx_Gc cv_3_9 cx_Gn) (by decide +kernel)
set_option maxRecDepth 1000000 in
theorem cv_38_11 : cx_valid cx_B0 38 ck_38_11 := cx_chk_s (G := []) (An := []) (n := 14) cx_hA0 cx_Gn (by decide +kernel)
set_option maxRecDepth 1000000 in
theorem cv_3_10 : cx_valid cx_B0 3 ck_3_10 := cx_chk_s (G := []) (An := []) (n := 14) cx_hA0 cx_Gn (by decide +kernel)
set_option maxRecDepth 1000000 in
theorem cv_60_0 : cx_valid cx_B0 60 ck_60_0 := cx_chk_s (G := [(3, ck_3_10)]) (An := []) (n := 13) cx_hA0 (cx_Gc cv_3_10 cx_Gn) (by decide +kernel)
set_option maxRecDepth 1000000 in
theorem cv_64_0 : cx_valid cx_B0 64 ck_64_0 := cx_chk_s (G := [(3, ck_3_9)]) (An := [(4, ([(2, 22), (0, 0), (0, 1)], [], [(0, 9999), (1, 10000)], [], [], []), [(0, 99996), (1, 1)])]) (n := 22) cx_hA0 (cx_Gc cv_3_9 cx_Gn) (by decide +kernel)
set_option maxRecDepth 1000000 in
theorem cv_57_0 : cx_valid cx_B0 57 ck_57_0 := cx_chk_s (G := [(3, ck_3_9)]) (An := [(4, ([(2, 22), (0, 0), (0, 1)], [], [cx_i32, (0, 10000)], [], [], []), [(0, 99996), (1, 1)])]) (n := 18) cx_hA0 (cx_Gc cv_3_9 cx_Gn) (by decide +kernel)
set_option maxRecDepth 1000000 in
theorem cv_97_0 : cx_valid cx_B0 97 ck_97_0 := cx_chk_s (G := [(239, ck_239_0)]) (An := []) (n := 8) cx_hA0 (cx_Gc cv_239_0 cx_Gn) (by decide +kernel)
set_option maxRecDepth 1000000 in
theorem cv_98_0 : cx_valid cx_B0 98 ck_98_0 := cx_chk_s (G := [(97, ck_97_0), (113, ck_113_0)]) (An := [(43, ([(2, 31), (0, 0), (0, 1), (0, 2)], [], [(1, 10000), (-1, 2147483647), (0, 10000), (1, 10000)], [], [(6, 3, 3)], []), [(0, 99957), (1, 2)])]) (n := 23) cx_hA0 (cx_Gc cv_97_0 (cx_Gc cv_113_0 cx_Gn)) (by decide +kernel)
set_option maxRecDepth 1000000 in
theorem cv_100_0 : cx_valid cx_B0 100 ck_100_0 := cx_chk_s (G := [(113, ck_113_0), (237, ck_237_0)]) (An := [(16, ([(2, 31), (0, 0), (0, 1), (0, 2), (0, 3)], [], [(0, 10000), (-1, 9999), (0, 31), (0, 10000), (0, 10000)], [], [(6, 3, 4)], []), [(0, 99984), (1, 3)])]) (n := 22) cx_hA0 (cx_Gc cv_113_0 (cx_Gc cv_237_0 cx_Gn)) (by decide +kernel)
set_option maxRecDepth 1000000 in
theorem cv_103_0 : cx_valid cx_B0 103 ck_103_0 := cx_chk_s (G := [(113, ck_113_0)]) (An := [(15, ([(2, 31), (0, 0), (1, 1), (4, 0), (0, 2), (0, 3)], [], [cx_i32, cx_i64, cx_i32, (0, 30)], [], [], []), [(0, 99985), (1, 3)])]) (n := 25) cx_hA0 (cx_Gc cv_113_0 cx_Gn) (by decide +kernel)
set_option maxRecDepth 1000000 in
theorem cv_102_0 : cx_valid cx_B0 102 ck_102_0 := cx_chk_s (G := [(100, ck_100_0), (113, ck_113_0)]) (An := []) (n := 19) cx_hA0 (cx_Gc cv_100_0 (cx_Gc cv_113_0 cx_Gn)) (by decide +kernel)
set_option maxRecDepth 1000000 in
theorem cv_235_0 : cx_valid cx_B0 235 ck_235_0 := cx_chk_s (G := []) (An := []) (n := 45) cx_hA0 cx_Gn (by decide +kernel)
set_option maxRecDepth 1000000 in
theorem cv_238_0 : cx_valid cx_B0 238 ck_238_0 := cx_chk_s (G := [(235, ck_235_0)]) (An := []) (n := 17) cx_hA0 (cx_Gc cv_235_0 cx_Gn) (by decide +kernel)
set_option maxRecDepth 1000000 in
theorem cv_99_0 : cx_valid cx_B0 99 ck_99_0 := cx_chk_s (G := [(238, ck_238_0)]) (An := []) (n := 10) cx_hA0 (cx_Gc cv_238_0 cx_Gn) (by decide +kernel)
set_option maxRecDepth 1000000 in
theorem cv_96_0 : cx_valid cx_B0 96 ck_96_0 := cx_chk_s (G := [(138, ck_138_0), (113, ck_113_0), (97, ck_97_0)]) (An := [(25, ([(2, 31), (0, 0), (0, 1), (0, 2), (0, 3), (0, 4), (0, 5), (0, 6)], [], [cx_i32, cx_i32, cx_i32, cx_i32, cx_i32, cx_i32, (0, 2147483647)], [], [], []), [(0, 99975), (1, 6)])]) (n := 36) cx_hA0 (cx_Gc cv_138_0 (cx_Gc cv_113_0 (cx_Gc cv_97_0 cx_Gn))) (by decide +kernel)
set_option maxRecDepth 1000000 in
theorem cv_101_0 : cx_valid cx_B0 101 ck_101_0 := cx_chk_s (G := [(113, ck_113_0), (99, ck_99_0), (96, ck_96_0)]) (An := [(20, ([(2, 31), (0, 0), (0, 1)], [], [(0, 10000), (0, 3), (-1, 2), cx_i32, (0, 10000)], [], [(31, 5, 2), (31, 4, 3), (6, 3, 4)], []), [(0, 99980), (1, 1), (0, 300000), (0, 0)]), (33, ([(2, 31), (0, 0), (0, 1), (0, 2)], [], [(0, 10000), (0, 2), (0, 10000), (1, 3), (-1, 2), cx_i32, (0, 10000)], [], [(3, 3, 3), (31, 5, 4), (31, 4, 5), (6, 3, 6)], []), [(0, 99980), (1, 1), (0, 99967), (1, 2)])]) (n := 43) cx_hA0 (cx_Gc cv_113_0 (cx_Gc cv_99_0 (cx_Gc cv_96_0 cx_Gn))) (by decide +kernel)
set_option maxRecDepth 1000000 in
theorem cv_151_0 : cx_valid cx_B0 151 ck_151_0 := cx_chk_s (G := []) (An := []) (n := 9) cx_hA0 cx_Gn (by decide +kernel)
set_option maxRecDepth 1000000 in
theorem cv_24_0 : cx_valid cx_B0 24 ck_24_0 := cx_chk_s (G := [(151, ck_151_0), (55, ck_55_0)]) (An := []) (n := 12) cx_hA0 (cx_Gc cv_151_0 (cx_Gc cv_55_0 cx_Gn)) (by decide +kernel)
set_option maxRecDepth 1000000 in
theorem cv_3_11 : cx_valid cx_B0 3 ck_3_11 := cx_chk_s (G := []) (An := []) (n := 14) cx_hA0 cx_Gn (by decide +kernel)
set_option maxRecDepth 1000000 in
theorem cv_81_0 : cx_valid cx_B0 81 ck_81_0 := cx_chk_s (G := [(3, ck_3_11), (38, ck_38_0)]) (An := []) (n := 15) cx_hA0 (cx_Gc cv_3_11 (cx_Gc cv_38_0 cx_Gn)) (by decide +kernel)
set_option maxRecDepth 1000000 in
theorem cv_14_0 : cx_valid cx_B0 14 ck_14_0 := cx_chk_s (G := [(24, ck_24_0), (55, ck_55_0), (81, ck_81_0)]) (An := []) (n := 23) cx_hA0 (cx_Gc cv_24_0 (cx_Gc cv_55_0 (cx_Gc cv_81_0 cx_Gn))) (by decide +kernel)
set_option maxRecDepth 1000000 in
theorem cv_150_0 : cx_valid cx_B0 150 ck_150_0 := cx_chk_s (G := []) (An := []) (n := 19) cx_hA0 cx_Gn (by decide +kernel)
set_option maxRecDepth 1000000 in
theorem cv_73_0 : cx_valid cx_B0 73 ck_73_0 := cx_chk_s (G := [(150, ck_150_0), (237, ck_237_0)]) (An := []) (n := 11) cx_hA0 (cx_Gc cv_150_0 (cx_Gc cv_237_0 cx_Gn)) (by decide +kernel)
set_option maxRecDepth 1000000 in
theorem cv_75_0 : cx_valid cx_B0 75 ck_75_0 := cx_chk_s (G := [(151, ck_151_0), (3, ck_3_11), (73, ck_73_0)]) (An := [(11, ([(2, 32), (1, 0), (4, 0), (0, 1), (0, 2)], [], [cx_i64, (4, 12), (0, 29)], [], [], []), [(0, 99989), (1, 2)])]) (n := 23) cx_hA0 (cx_Gc cv_151_0 (cx_Gc cv_3_11 (cx_Gc cv_73_0 cx_Gn))) (by decide +kernel)
set_option maxRecDepth 1000000 in
theorem cv_76_0 : cx_valid cx_B0 76 ck_76_0 := cx_chk_s (G := [(137, ck_137_0), (75, ck_75_0)]) (An := [(12, ([(2, 32), (0, 0), (0, 1), (0, 2)], [], [(0, 10000), cx_i32, (0, 10000), (0, 10000)], [], [(6, 3, 3)], []), [(0, 99988), (1, 2)])]) (n := 17) cx_hA0 (cx_Gc cv_137_0 (cx_Gc cv_75_0 cx_Gn)) (by decide +kernel)
set_option maxRecDepth 1000000 in
theorem cv_83_0 : cx_valid cx_B0 83 ck_83_0 := cx_chk_s (G := [(151, ck_151_0), (73, ck_73_0)]) (An := [(15, ([(2, 32), (1, 0), (4, 0), (1, 1), (4, 0), (0, 2), (0, 3), (0, 4)], [], [cx_i64, cx_i64, (4, 12), cx_i32, (0, 29)], [], [], []), [(0, 99985), (1, 4)])]) (n := 24) cx_hA0 (cx_Gc cv_151_0 (cx_Gc cv_73_0 cx_Gn)) (by decide +kernel)
set_option maxRecDepth 1000000 in
theorem cv_4_6 : cx_valid cx_B0 4 ck_4_6 := cx_chk_s (G := []) (An := []) (n := 14) cx_hA0 cx_Gn (by decide +kernel)
set_option maxRecDepth 1000000 in
theorem cv_39_6 : cx_valid cx_B0 39 ck_39_6 := cx_chk_s (G := []) (An := []) (n := 14) cx_hA0 cx_Gn (by decide +kernel)
set_option maxRecDepth 1000000 in
theorem cv_77_0 : cx_valid cx_B0 77 ck_77_0 := cx_chk_s (G := [(4, ck_4_6), (39, ck_39_6)]) (An := []) (n := 22) cx_hA0 (cx_Gc cv_4_6 (cx_Gc cv_39_6 cx_Gn)) (by decide +kernel)
set_option maxRecDepth 1000000 in
theorem cv_79_0 : cx_valid cx_B0 79 ck_79_0 := cx_chk_s (G := [(137, ck_137_0), (83, ck_83_0), (77, ck_77_0)]) (An := [(2, ([(2, 32), (0, 0), (0, 1)], [], [cx_i32, (0, 287)], [], [], []), [(0, 99998), (1, 1)]), (45, ([(2, 32), (0, 0), (1, 1), (4, 0), (0, 2), (0, 3)], [], [cx_i32, cx_i64, (0, 10000), (0, 10000), (0, 10000)], [], [(6, 3, 4)], []), [(0, 99955), (1, 3)])]) (n := 24) cx_hA0 (cx_Gc cv_137_0 (cx_Gc cv_83_0 (cx_Gc cv_77_0 cx_Gn))) (by decide +kernel)
set_option maxRecDepth 1000000 in
theorem cv_78_0 : cx_valid cx_B0 78 ck_78_0 := cx_chk_s (G := [(4, ck_4_6)]) (An := []) (n := 21) cx_hA0 (cx_Gc cv_4_6 cx_Gn) (by decide +kernel)
set_option maxRecDepth 1000000 in
theorem cv_80_0 : cx_valid cx_B0 80 ck_80_0 := cx_chk_s (G := [(78, ck_78_0), (77, ck_77_0)]) (An := [(2, ([(2, 32), (0, 0), (0, 1)], [], [cx_i32, (0, 30)], [], [], []), [(0, 99998), (1, 1), (0, 300000), (0, 0)]), (15, ([(2, 32), (0, 0), (0, 1), (0, 2), (0, 3)], [], [cx_i32, (0, 29), cx_i32, (0, 2147483647)], [], [], []), [(0, 99998), (1, 1), (0, 99985), (1, 3)])]) (n := 22) cx_hA0 (cx_Gc cv_78_0 (cx_Gc cv_77_0 cx_Gn)) (by decide +kernel)
set_option maxRecDepth 1000000 in
theorem cv_74_0 : cx_valid cx_B0 74 ck_74_0 := cx_chk_s (G := [(151, ck_151_0), (79, ck_79_0), (80, ck_80_0), (78, ck_78_0), (234, ck_234_0)]) (An := [(25, ([(2, 32), (0, 0), (0, 1), (0, 2), (0, 3)], [], [cx_i32, cx_i32, (-1, 2147483646), (0, 2147483647)], [], [], []), [(0, 99975), (1, 3)])]) (n := 32) cx_hA0 (cx_Gc cv_151_0 (cx_Gc cv_79_0 (cx_Gc cv_80_0 (cx_Gc cv_78_0 (cx_Gc cv_234_0 cx_Gn))))) (by decide +kernel)
set_option maxRecDepth 1000000 in
theorem cv_82_0 : cx_valid cx_B0 82 ck_82_0 := cx_chk_s (G := [(3, ck_3_11)]) (An := [(4, ([(2, 32), (0, 0), (0, 1)], [], [cx_i32, (0, 29)], [], [], []), [(0, 99996), (1, 1)])]) (n := 16) cx_hA0 (cx_Gc cv_3_11 cx_Gn) (by decide +kernel)
set_option maxRecDepth 1000000 in
theorem cv_33_0 : cx_valid cx_B0 33 ck_33_0 := cx_chk_s (G := [(237, ck_237_0), (82, ck_82_0)]) (An := []) (n := 10) cx_hA0 (cx_Gc cv_237_0 (cx_Gc cv_82_0 cx_Gn)) (by decide +kernel)
set_option maxRecDepth 1000000 in
theorem cv_195_0 : cx_valid cx_B0 195 ck_195_0 := cx_chk_s (G := [(198, ck_198_0), (179, ck_179_0)]) (An := [(69, ([(2, 35), (0, 0), (0, 1), (0, 2), (0, 3)], [], [cx_i32, cx_i32, (0, 1), (0, 29), (0, 0), (0, 0), (0, 0), (0, 0)], [], [(35, 10, 4), (35, 9, 5), (35, 16, 6), (35, 3, 7), (35, 2, 2), (35, 1, 1), (35, 0, 0)], []), [(0, 99931), (1, 3)])]) (n := 39) cx_hA0 (cx_Gc cv_198_0 (cx_Gc cv_179_0 cx_Gn)) (by decide +kernel)
set_option maxRecDepth 1000000 in
theorem cv_171_0 : cx_valid cx_B0 171 ck_171_0 := cx_chk_s (G := [(197, ck_197_0)]) (An := [(4, ([(1, 0), (4, 0), (0, 1), (0, 2)], [], [cx_i64, cx_i32, (0, 36)], [], [], []), [(0, 99996), (1, 2)])]) (n := 18) cx_hA0 (cx_Gc cv_197_0 cx_Gn) (by decide +kernel)
set_option maxRecDepth 1000000 in
theorem cv_220_0 : cx_valid cx_B0 220 ck_220_0 := cx_chk_s (G := [(198, ck_198_0), (171, ck_171_0)]) (An := []) (n := 50) cx_hA0 (cx_Gc cv_198_0 (cx_Gc cv_171_0 cx_Gn)) (by decide +kernel)
set_option maxRecDepth 1000000 in
theorem cv_219_0 : cx_valid cx_B0 219 ck_219_0 := cx_chk_s (G := [(198, ck_198_0)]) (An := []) (n := 25) cx_hA0 (cx_Gc cv_198_0 cx_Gn) (by decide +kernel)
set_option maxRecDepth 1000000 in
theorem cv_185_0 : cx_valid cx_B0 185 ck_185_0 := cx_chk_s (G := [(198, ck_198_0)]) (An := []) (n := 26) cx_hA0 (cx_Gc cv_198_0 cx_Gn) (by decide +kernel)
set_option maxRecDepth 1000000 in
theorem cv_204_0 : cx_valid cx_B0 204 ck_204_0 := cx_chk_s (G := [(198, ck_198_0)]) (An := []) (n := 13) cx_hA0 (cx_Gc cv_198_0 cx_Gn) (by decide +kernel)
set_option maxRecDepth 1000000 in
theorem cv_202_0 : cx_valid cx_B0 202 ck_202_0 := cx_chk_s (G := [(198, ck_198_0)]) (An := []) (n := 13) cx_hA0 (cx_Gc cv_198_0 cx_Gn) (by decide +kernel)
set_option maxRecDepth 1000000 in
theorem cv_200_0 : cx_valid cx_B0 200 ck_200_0 := cx_chk_s (G := [(179, ck_179_0), (198, ck_198_0)]) (An := []) (n := 13) cx_hA0 (cx_Gc cv_179_0 (cx_Gc cv_198_0 cx_Gn)) (by decide +kernel)
set_option maxRecDepth 1000000 in
theorem cv_175_0 : cx_valid cx_B0 175 ck_175_0 := cx_chk_s (G := [(200, ck_200_0)]) (An := []) (n := 40) cx_hA0 (cx_Gc cv_200_0 cx_Gn) (by decide +kernel)
set_option maxRecDepth 1000000 in
theorem cv_218_0 : cx_valid cx_B0 218 ck_218_0 := cx_chk_s (G := [(200, ck_200_0)]) (An := []) (n := 47) cx_hA0 (cx_Gc cv_200_0 cx_Gn) (by decide +kernel)
set_option maxRecDepth 1000000 in
theorem cv_199_0 : cx_valid cx_B0 199 ck_199_0 := cx_chk_s (G := [(198, ck_198_0)]) (An := []) (n := 13) cx_hA0 (cx_Gc cv_198_0 cx_Gn) (by decide +kernel)
set_option maxRecDepth 1000000 in
theorem cv_166_0 : cx_valid cx_B0 166 ck_166_0 := cx_chk_s (G := [(199, ck_199_0), (198, ck_198_0)]) (An := []) (n := 25) cx_hA0 (cx_Gc cv_199_0 (cx_Gc cv_198_0 cx_Gn)) (by decide +kernel)
set_option maxRecDepth 1000000 in
theorem cv_209_0 : cx_valid cx_B0 209 ck_209_0 := cx_chk_s (G := [(199, ck_199_0)]) (An := []) (n := 20) cx_hA0 (cx_Gc cv_199_0 cx_Gn) (by decide +kernel)
set_option maxRecDepth 1000000 in
theorem cv_168_0 : cx_valid cx_B0 168 ck_168_0 := cx_chk_s (G := []) (An := []) (n := 15) cx_hA0 cx_Gn (by decide +kernel)
set_option maxRecDepth 1000000 in
theorem cv_215_0 : cx_valid cx_B0 215 ck_215_0 := cx_chk_s (G := []) (An := [(2, ([(2, 35), (0, 0), (0, 1)], [], [(0, 9999), (0, 3)], [], [], []), [(0, 99998), (1, 1)])]) (n := 34) cx_hA0 cx_Gn (by decide +kernel)
set_option maxRecDepth 1000000 in
theorem cv_221_0 : cx_valid cx_B0 221 ck_221_0 := cx_chk_s (G := [(197, ck_197_0)]) (An := [(2, ([(2, 35), (0, 0), (0, 1)], [], [cx_i32, (0, 3)], [], [], []), [(0, 99998), (1, 1)])]) (n := 17) cx_hA0 (cx_Gc cv_197_0 cx_Gn) (by decide +kernel)
set_option maxRecDepth 1000000 in
theorem cv_176_0 : cx_valid cx_B0 176 ck_176_0 := cx_chk_s (G := [(221, ck_221_0), (197, ck_197_0)]) (An := []) (n := 51) cx_hA0 (cx_Gc cv_221_0 (cx_Gc cv_197_0 cx_Gn)) (by decide +kernel)
set_option maxRecDepth 1000000 in
theorem cv_187_0 : cx_valid cx_B0 187 ck_187_0 := cx_chk_s (G := [(179, ck_179_0)]) (An := [(15, ([(2, 35), (1, 0), (4, 0), (1, 1), (4, 0), (1, 2), (4, 0), (0, 3)], [], [cx_i64, cx_i64, cx_i64, (0, 29)], [], [], []), [(0, 99985), (1, 3)])]) (n := 68) cx_hA0 (cx_Gc cv_179_0 cx_Gn) (by decide +kernel)
set_option maxRecDepth 1000000 in
theorem cv_186_0 : cx_valid cx_B0 186 ck_186_0 := cx_chk_s (G := [(187, ck_187_0)]) (An := [(22, ([(2, 35), (1, 0), (4, 0), (0, 1), (0, 2)], [], [cx_i64, (0, 1), (0, 3), (-1, 1)], [], [(35, 9, 3)], []), [(0, 99978), (1, 2)]), (114, ([(2, 35), (1, 0), (4, 0), (0, 1), (0, 2)], [], [cx_i64, (0, 1), (0, 3), (0, 3), (-1, 1)], [], [(35, 3, 3), (35, 9, 4)], []), [(0, 99886), (1, 2)])]) (n := 49) cx_hA0 (cx_Gc cv_187_0 cx_Gn) (by decide +kernel)
set_option maxRecDepth 1000000 in
theorem cv_192_0 : cx_valid cx_B0 192 ck_192_0 := cx_chk_s (G := [(215, ck_215_0), (176, ck_176_0), (186, ck_186_0)]) (An := [(7, ([(2, 35), (0, 0), (0, 1), (0, 2)], [], [(0, 9999), (0, 30), (0, 30)], [], [], []), [(0, 99993), (1, 2)])]) (n := 45) cx_hA0 (cx_Gc cv_215_0 (cx_Gc cv_176_0 (cx_Gc cv_186_0 cx_Gn))) (by decide +kernel)
set_option maxRecDepth 1000000 in
theorem cv_233_0 : cx_valid cx_B0 233 ck_233_0 := cx_chk_s (G := []) (An := [(4, ([(2, 35), (0, 0), (0, 1)], [], [cx_i32, (0, 30)], [], [], []), [(0, 99996), (1, 1)])]) (n := 30) cx_hA0 cx_Gn (by decide +kernel)
set_option maxRecDepth 1000000 in
theorem cv_231_0 : cx_valid cx_B0 231 ck_231_0 := cx_chk_s (G := []) (An := [(2, ([(2, 35), (0, 0), (0, 1)], [], [(0, 9999), (0, 3)], [], [], []), [(0, 99998), (1, 1)])]) (n := 34) cx_hA0 cx_Gn (by decide +kernel)
set_option maxRecDepth 1000000 in
theorem cv_228_0 : cx_valid cx_B0 228 ck_228_0 := cx_chk_s (G := [(231, ck_231_0), (221, ck_221_0)]) (An := [(4, ([(2, 35), (0, 0), (0, 1), (0, 2)], [], [cx_i32, cx_i32, (0, 10000)], [], [], []), [(0, 99996), (1, 2)])]) (n := 23) cx_hA0 (cx_Gc cv_231_0 (cx_Gc cv_221_0 cx_Gn)) (by decide +kernel)
set_option maxRecDepth 1000000 in
theorem cv_193_0 : cx_valid cx_B0 193 ck_193_0 := cx_chk_s (G := [(231, ck_231_0), (176, ck_176_0)]) (An := [(23, ([(2, 35), (0, 0), (0, 1), (0, 2)], [], [cx_i32, cx_i32, (0, 10000)], [], [], []), [(0, 99977), (1, 2)])]) (n := 40) cx_hA0 (cx_Gc cv_231_0 (cx_Gc cv_176_0 cx_Gn)) (by decide +kernel)
set_option maxRecDepth 1000000 in
theorem cv_194_0 : cx_valid cx_B0 194 ck_194_0 := cx_chk_s (G := []) (An := [(23, ([(2, 35), (0, 0), (0, 1), (0, 2)], [], [cx_i32, cx_i32, (0, 10000)], [], [], []), [(0, 99977), (1, 2)])]) (n := 35) cx_hA0 cx_Gn (by decide +kernel)
set_option maxRecDepth 1000000 in
theorem cv_173_0 : cx_valid cx_B0 173 ck_173_0 := cx_chk_s (G := [(192, ck_192_0), (233, ck_233_0)]) (An := [(4, ([(2, 35), (0, 0), (0, 1)], [], [cx_i32, (0, 10000)], [], [], []), [(0, 99996), (1, 1)])]) (n := 27) cx_hA0 (cx_Gc cv_192_0 (cx_Gc cv_233_0 cx_Gn)) (by decide +kernel)
set_option maxRecDepth 1000000 in
theorem cv_184_0 : cx_valid cx_B0 184 ck_184_0 := cx_chk_s (G := []) (An := [(33, ([(2, 35), (0, 0), (0, 1), (0, 2), (0, 3), (0, 4)], [], [(0, 9999), (0, 9999), (0, 2), (0, 1), (0, 3)], [], [], []), [(0, 99967), (1, 4)])]) (n := 35) cx_hA0 cx_Gn (by decide +kernel)
set_option maxRecDepth 1000000 in
theorem cv_203_0 : cx_valid cx_B0 203 ck_203_0 := cx_chk_s (G := [(198, ck_198_0)]) (An := []) (n := 16) cx_hA0 (cx_Gc cv_198_0 cx_Gn) (by decide +kernel)
set_option maxRecDepth 1000000 in
theorem cv_182_0 : cx_valid cx_B0 182 ck_182_0 := cx_chk_s (G := [(203, ck_203_0), (198, ck_198_0)]) (An := []) (n := 29) cx_hA0 (cx_Gc cv_203_0 (cx_Gc cv_198_0 cx_Gn)) (by decide +kernel)
set_option maxRecDepth 1000000 in
theorem cv_180_0 : cx_valid cx_B0 180 ck_180_0 := cx_chk_s (G := []) (An := [(5, ([(2, 35), (0, 0), (1, 1), (4, 0), (0, 2)], [], [(0, 9999), cx_i64, (0, 3)], [], [], []), [(0, 99995), (1, 2)])]) (n := 28) cx_hA0 cx_Gn (by decide +kernel)
set_option maxRecDepth 1000000 in
theorem cv_183_0 : cx_valid cx_B0 183 ck_183_0 := cx_chk_s (G := [(179, ck_179_0), (197, ck_197_0)]) (An := [(6, ([(2, 35), (1, 0), (4, 0), (0, 1), (0, 2), (0, 3)], [], [cx_i64, cx_i32, cx_i32, (0, 36)], [], [], []), [(0, 99994), (1, 3)])]) (n := 37) cx_hA0 (cx_Gc cv_179_0 (cx_Gc cv_197_0 cx_Gn)) (by decide +kernel)
set_option maxRecDepth 1000000 in
theorem cv_210_0 : cx_valid cx_B0 210 ck_210_0 := cx_chk_s (G := [(179, ck_179_0)]) (An := [(53, ([(2, 35), (0, 0), (0, 1), (0, 2)], [], [cx_i32, cx_i32, (0, 30)], [], [], []), [(0, 99947), (1, 2)]), (89, ([(2, 35), (0, 0), (0, 1), (0, 2)], [], [cx_i32, cx_i32, (0, 29)], [], [], []), [(0, 99911), (1, 2)])]) (n := 24) cx_hA0 (cx_Gc cv_179_0 cx_Gn) (by decide +kernel)
end
section
/-! The caller puts the layings in order. -/
noncomputable def cq_po : cx_K := (([(2, 22), (0, 0)], [], [cx_i32], [], [], []), [], [([], [], [cx_i32], [], [], [])])
set_option maxRecDepth 1000000 in
theorem cq_po_v : cx_validp cx_B0 66 32 cq_po := cx_chkp_s (G := [(38, ck_puI)]) (An := [(34, ([(2, 22), (0, 0), (0, 1)], [], [cx_i32, (0, 2147483647)], [], [], []), [(0, 99966), (1, 1)])]) (n := 14) cx_hA0 (cx_Gc cv_puI cx_Gn) (by decide +kernel)
section
variable (X : ez_X) (I : Nat → Nat → Int32) (J : Nat → Nat → Int64) (R : Nat → Nat) (T : List ez_C)
theorem eh_po_r1 (cz kz : Nat) : ∀ G : ez_F, fx_up X 7 G 66 0 [.ref 22] [] (ev_hp I J R T) cz kz = G 66 13 [.ref 22, .int (I 6 3)] [.ref (R 4), .int (I 6 3)] (ev_hp I J R T) cz kz := by
  intro G
  rfl
theorem eh_po_r2 (w n : Int32) (cz kz : Nat) : ∀ G : ez_F, fx_up X 1 G 66 14 [.ref 22, .int w] [.int n, .int w] (ev_hp I J R T) cz kz = bif decide (w ≤ n) then G 66 32 [.ref 22, .int w] [] (ev_hp I J R T) cz kz else G 66 17 [.ref 22, .int w] [] (ev_hp I J R T) cz kz := by
  intro G
  rfl
theorem eh_po_r3 (w : Int32) (cz kz : Nat) : ∀ G : ez_F, fx_up X 3 G 66 17 [.ref 22, .int w] [] (ev_hp I J R T) cz kz = G 66 22 [.ref 22, .int w] [.ref (R 4), .ref 22] (ev_hp I J R T) cz kz := by
  intro G
  rfl
theorem eh_po_r4 (w n : Int32) (cz kz : Nat) : ∀ G : ez_F, fx_up X 2 G 66 23 [.ref 22, .int w] [.int n, .ref 22] (ev_hp I J R T) cz kz = ev_C G 19 [.int n, .int w] (ev_hp I J R T) fun r h1 c1 k1 => G 66 27 [.ref 22, .int w] (r.toList ++ [.ref 22]) h1 (cz + c1) (kz + k1) := by
  intro G
  rfl
theorem eh_po_r5 (w : Int32) (v : Nat) (cz kz : Nat) : ∀ G : ez_F, fx_up X 1 G 66 29 [.ref 22, .int w] [.ref v, .ref 22] (ev_hp I J R T) cz kz = G 66 32 [.ref 22, .int w] [] (ev_hp I J (ev_sR R 4 v) T) cz kz := by
  intro G
  rfl
end
theorem cv_Caller_putInOrder : cx_valid cx_B0 66 ck_Caller_putInOrder := by
  intro X σ0 ls I J R T hX2 hh hok
  obtain ⟨v1, t1, rfl, rfl, g2⟩ := cx_L_inv hok.1
  obtain rfl := cx_L_nil g2 rfl
  obtain ⟨-, n0, n1, n4, a0, a1, a2, a3, a4, b0, b1, b4, hm⟩ := id hh.2
  obtain ⟨f, hf⟩ := cx_row_I (I := I) (J := J) (R := R) a4
  have en : (Int32.ofNat n4).toInt = n4 := Int32.toInt_ofNat_of_lt (by omega)
  have hw := hh.1 6 3
  obtain ⟨q1, q2, q3, q4⟩ := ev_grown_s (w := I 6 3) b4
  refine ev_seg (eh_po_r1 X I J R T _ _) ?_
  have hw1 : (cx_B0 6 3) = (0, 10000) := rfl
  rw [hw1] at hw
  simp only at hw
  generalize I 6 3 = w at hw q1 q2 q3 q4
  -- from the loop on
  have tail : ∀ (R' : Nat → Nat) (T' : List ez_C) (c k : Nat), cx_hok cx_B0 I R' T' → cx_leT T T' → c + T.length = T'.length → k + cx_mem T = cx_mem T' → ev_W X 66 32 [.ref 22, .int w] [] (ev_hp I J R' T') c k (cx_post cx_B0 ck_Caller_putInOrder σ0 I J T 0 0) := by
    intro R' T' c k h1 h2 h3 h4
    refine (cq_po_v X [w.toInt] [.ref 22, .int w] [] I J R' T' c k hX2 h1 ⟨⟨rfl, ⟨w, rfl, rfl⟩, trivial⟩, trivial, ⟨rfl, fun s v p e1 e2 => ?_⟩, cx_nil, fun e he => (by cases he), fun e he => (by cases he)⟩).mono ?_
    · cases s with
      | zero =>
        simp at e1
        have e2 : some cx_i32 = some p := e2
        injection e2 with e2
        rw [← e1, ← e2]
        exact cx_full32 w
      | succ s => simp at e1
    · rintro r h' c' k' ⟨I', J', R2, T2, rfl, p1, p2, p3, p4, p5, E, hE, τ, p6, p7⟩
      have hE : E ∈ [([], [], [cx_i32], [], [], [])] := hE
      rw [List.mem_singleton.mp hE] at p7
      have hr : r = none := by
        cases r with
        | none => rfl
        | some v => have := p7.2.1; simp [cx_L] at this
      subst hr
      refine ⟨I', J', R2, T2, rfl, p1, fun a q _ => p2 a q rfl, cx_leT_t h2 p3, by omega, by omega, _, List.mem_cons_self, σ0, cx_ext_r σ0, cx_ok_none hok.2.2.1 I' _⟩
  refine ev_alenI (by rfl) hf ?_
  refine ev_if (eh_po_r2 X I J R T w _ _ _) (fun ht => tail R T _ _ hh (cx_leT_r T) (by omega) (by omega)) (fun ht => ?_)
  have hlt : (n4 : Int) < w.toInt := by
    have z := of_decide_eq_false ht
    have : ¬ w.toInt ≤ (Int32.ofNat n4).toInt := fun y => z (Int32.le_iff_toInt_le.mpr y)
    omega
  refine ev_seg (eh_po_r3 X I J R T w _ _) ?_
  refine ev_alenI (by rfl) hf ?_
  refine ev_call (eh_po_r4 X I J R T w _ _ _) (eh_grown X _ _ _) ?_
  rintro _ _ _ _ ⟨rfl, rfl, rfl, rfl⟩
  generalize ev_grown (Int32.ofNat n4) w = g at q1 q2 q3 q4
  have q4 := q4 (by omega)
  refine ev_newI (by rfl) q1 q2 ?_
  refine ev_seg (eh_po_r5 X I J R _ w _ _ _) ?_
  have hx : cx_isrow 0 g.toInt.toNat (.inl (g.toInt.toNat, .inl fun _ => 0)) := Or.inl ⟨rfl, _, rfl⟩
  have hr := cx_rows_4 hh.2 a4 hx (by omega) (by omega) (by omega)
  exact tail _ _ _ _ ⟨hh.1, hr⟩ (cx_leT_app T _) (by simp only [List.length_append, List.length_cons, List.length_nil]; omega) (by rw [cx_mem_app hx]; omega)
end
section
/-! All layings of the class are found: never more than 10000. -/
noncomputable def cs_t : cx_K := (([(2, 6), (0, 0), (1, 1), (4, 0), (0, 2), (0, 3)], [], [cx_i32, cx_i64, (0, 288), (0, 287), (0, 9999)], [], [(6, 3, 4)], []), [(6, 3)], [])
noncomputable def cs_t_A : List (Nat × cx_A) := [(13, ([(2, 6), (0, 0), (1, 1), (4, 0), (0, 2), (0, 5)], [], [cx_i32, cx_i64, (0, 288), (0, 287), (0, 9999), (1, 288), (0, 10000)], [(5, 3, 1), (3, 5, -1), (6, 4, 1)], [(6, 3, 6)], []), [])]
noncomputable def cs_t_G : List (Nat × cx_K) := [(86, ck_86_0), (38, ck_puI)]
theorem cs_t_g : ∀ g ∈ cs_t_G, cx_valid cx_B0 g.1 g.2 := (cx_Gc cv_86_0 (cx_Gc cv_puI cx_Gn))
set_option maxRecDepth 1000000 in
theorem cs_t_v : cx_run false cx_B0 cs_t_G cs_t 142 (cx_fAn cs_t_A) none 32 false 20 cs_t.1 = true := by decide +kernel
noncomputable def cs_s : cx_K := (([(2, 6), (0, 0), (1, 1), (4, 0), (0, 2), (0, 3)], [], [cx_i32, cx_i64, (0, 288), (0, 287)], [], [], []), [], [])
noncomputable def cs_s_A : List (Nat × cx_A) := [(60, ([(2, 6), (0, 0), (1, 1), (4, 0), (0, 2), (0, 3), (1, 4), (4, 0)], [(1, 5), (0, 6), (2, 6)], [cx_i32, cx_i64, (0, 288), (0, 287), cx_i64, cx_i64, cx_i32], [], [], []), []), (63, ([(2, 6), (0, 0), (1, 1), (4, 0), (0, 2), (0, 3), (1, 4), (4, 0)], [], [cx_i32, cx_i64, (0, 288), (0, 287), cx_i64], [], [], []), [])]
noncomputable def cs_s_G : List (Nat × cx_K) := [(86, ck_86_0), (144, ck_144_0)]
theorem cs_s_g : ∀ g ∈ cs_s_G, cx_valid cx_B0 g.1 g.2 := (cx_Gc cv_86_0 (cx_Gc cv_144_0 cx_Gn))
set_option maxRecDepth 1000000 in
theorem cs_s_v : cx_run false cx_B0 cs_s_G cs_s 141 (cx_fAn cs_s_A) none 28 false 20 cs_s.1 = true := by decide +kernel
noncomputable def cs_f : cx_K := (([(2, 6), (0, 0), (0, 1), (0, 2)], [], [cx_i32, (0, 288), (0, 287)], [], [], []), [], [])
noncomputable def cs_f_A : List (Nat × cx_A) := [(91, ([(2, 6), (0, 0), (0, 1), (0, 2)], [(1, 3), (0, 2), (2, 6)], [cx_i32, (0, 288), (0, 287), cx_i64], [], [], []), [])]
noncomputable def cs_f_G : List (Nat × cx_K) := [(86, ck_86_0), (144, ck_144_0)]
theorem cs_f_g : ∀ g ∈ cs_f_G, cx_valid cx_B0 g.1 g.2 := (cx_Gc cv_86_0 (cx_Gc cv_144_0 cx_Gn))
set_option maxRecDepth 1000000 in
theorem cs_f_v : cx_run false cx_B0 cs_f_G cs_f 140 (cx_fAn cs_f_A) none 14 false 73 cs_f.1 = true := by decide +kernel
/-! how many spots a ship has -/
noncomputable def ev_sz (I : Nat → Nat → Int32) (s : Nat) : Int32 := if Int32.ofNat s < I 3 3 then I 5 s else 1
theorem ev_at3 (f : Nat → Int32) {s : Nat} (hs : s ≤ 2) : ev_at 3 f (Int32.ofNat s) = f s := by
  match s, hs with
  | 0, _ => unfold ev_at; rw [if_neg (by decide), if_neg (by decide)]; rfl
  | 1, _ => unfold ev_at; rw [if_neg (by decide), if_neg (by decide)]; rfl
  | 2, _ => unfold ev_at; rw [if_neg (by decide), if_neg (by decide)]; rfl
section
variable (X : ez_X) (I : Nat → Nat → Int32) (J : Nat → Nat → Int64) (R : Nat → Nat) (T : List ez_C)
theorem eh_sz_r1 (x : Int32) (cz kz : Nat) : ∀ G : ez_F, fx_up X 4 G 94 0 [.ref 3, .int x] [] (ev_hp I J R T) cz kz = bif decide (I 3 3 ≤ x) then G 94 19 [.ref 3, .int x] [] (ev_hp I J R T) cz kz else G 94 8 [.ref 3, .int x] [] (ev_hp I J R T) cz kz := by
  intro G
  rfl
theorem eh_sz_r2 (x : Int32) (cz kz : Nat) : ∀ G : ez_F, fx_up X 4 G 94 8 [.ref 3, .int x] [] (ev_hp I J R T) cz kz = ev_C G 3 [.ref 5, .int x] (ev_hp I J R T) fun r h1 c1 k1 => G 94 16 [.ref 3, .int x] (r.toList ++ []) h1 (cz + c1) (kz + k1) := by
  intro G
  rfl
theorem eh_sz_r3 (x v : Int32) (cz kz : Nat) : ∀ G : ez_F, fx_up X 2 G 94 16 [.ref 3, .int x] [.int v] (ev_hp I J R T) cz kz = some (some (.int v), ev_hp I J R T, cz, kz) := by
  intro G
  rfl
theorem eh_sz_r4 (x : Int32) (cz kz : Nat) : ∀ G : ez_F, fx_up X 2 G 94 19 [.ref 3, .int x] [] (ev_hp I J R T) cz kz = some (some (.int 1), ev_hp I J R T, cz, kz) := by
  intro G
  rfl
theorem eh_sz (x : Int32) (s : Nat) (hs : s ≤ 2) (hx : x = Int32.ofNat s) : ev_W X 94 0 (ez_lay [.ref 3, .int x]) [] (ev_hp I J R T) 0 0 (ev_is (some (.int (ev_sz I s))) (ev_hp I J R T)) := by
  refine ev_if (eh_sz_r1 X I J R T x _ _) (fun ht => ?_) (fun ht => ?_)
  · refine ev_ret (eh_sz_r4 X I J R T x _ _) ⟨?_, rfl, rfl, rfl⟩
    have z := of_decide_eq_true ht
    unfold ev_sz
    rw [hx] at z
    rw [if_neg (Int32.not_lt.mpr z)]
  · refine ev_call (eh_sz_r2 X I J R T x _ _) (ec_at X _ 3 5 x (I 5) (by rfl) (by decide)) ?_
    rintro _ _ _ _ ⟨rfl, rfl, rfl, rfl⟩
    refine ev_ret (eh_sz_r3 X I J R T x _ _ _) ⟨?_, rfl, rfl, rfl⟩
    have z := of_decide_eq_false ht
    unfold ev_sz
    rw [hx] at z ⊢
    rw [if_pos (Int32.not_le.mp z), ev_at3 _ hs]
theorem eh_cb_r1 (cz kz : Nat) : ∀ G : ez_F, fx_up X 3 G 89 0 [.ref 3] [] (ev_hp I J R T) cz kz = ev_C G 94 [.ref 3, .int 0] (ev_hp I J R T) fun r h1 c1 k1 => G 89 5 [.ref 3] (r.toList ++ []) h1 (cz + c1) (kz + k1) := by
  intro G
  rfl
theorem eh_cb_r2 (u : Int32) (cz kz : Nat) : ∀ G : ez_F, fx_up X 3 G 89 5 [.ref 3] [.int u] (ev_hp I J R T) cz kz = ev_C G 94 [.ref 3, .int 1] (ev_hp I J R T) fun r h1 c1 k1 => G 89 10 [.ref 3] (r.toList ++ [.int u]) h1 (cz + c1) (kz + k1) := by
  intro G
  rfl
theorem eh_cb_r3 (u v : Int32) (cz kz : Nat) : ∀ G : ez_F, fx_up X 4 G 89 10 [.ref 3] [.int v, .int u] (ev_hp I J R T) cz kz = ev_C G 94 [.ref 3, .int 2] (ev_hp I J R T) fun r h1 c1 k1 => G 89 16 [.ref 3] (r.toList ++ [.int (u * v)]) h1 (cz + c1) (kz + k1) := by
  intro G
  rfl
theorem eh_cb_r4 (u v : Int32) (cz kz : Nat) : ∀ G : ez_F, fx_up X 2 G 89 16 [.ref 3] [.int v, .int u] (ev_hp I J R T) cz kz = some (some (.int (u * v)), ev_hp I J R T, cz, kz) := by
  intro G
  rfl
theorem eh_cb : ev_W X 89 0 (ez_lay [.ref 3]) [] (ev_hp I J R T) 0 0 (ev_is (some (.int (ev_sz I 0 * ev_sz I 1 * ev_sz I 2))) (ev_hp I J R T)) := by
  refine ev_call (eh_cb_r1 X I J R T _ _) (eh_sz X I J R T 0 0 (by decide) rfl) ?_
  rintro _ _ _ _ ⟨rfl, rfl, rfl, rfl⟩
  refine ev_call (eh_cb_r2 X I J R T _ _ _) (eh_sz X I J R T 1 1 (by decide) rfl) ?_
  rintro _ _ _ _ ⟨rfl, rfl, rfl, rfl⟩
  refine ev_call (eh_cb_r3 X I J R T _ _ _ _) (eh_sz X I J R T 2 2 (by decide) rfl) ?_
  rintro _ _ _ _ ⟨rfl, rfl, rfl, rfl⟩
  exact ev_ret (eh_cb_r4 X I J R T _ _ _ _) ⟨rfl, rfl, rfl, rfl⟩
end
theorem ev_sz_b {I : Nat → Nat → Int32} (h : cx_hB cx_B0 I) (s : Nat) : 0 ≤ (ev_sz I s).toInt ∧ (ev_sz I s).toInt ≤ 288 := by
  have e1 : (1 : Int32).toInt = 1 := by decide
  have h5 := h 5 s
  have hb : cx_B0 5 s = (0, 288) := rfl
  rw [hb] at h5
  simp only at h5
  unfold ev_sz
  split <;> omega
theorem ev_sz_fr {I I' : Nat → Nat → Int32} {J J' : Nat → Nat → Int64} (h : cx_fr [(6, 3)] I J I' J') (s : Nat) : ev_sz I' s = ev_sz I s := by
  unfold ev_sz
  rw [(h 3 3 rfl).1, (h 5 s rfl).1]
/-! the layings' number -/
noncomputable def cx_q6 (I : Nat → Nat → Int32) (J : Nat → Nat → Int64) (T : List ez_C) (c0 k0 : Nat) (hi : Int) : ev_Q := fun r h' c' k' => r = none ∧ ∃ I' J' R' T', h' = ev_hp I' J' R' T' ∧ cx_hok cx_B0 I' R' T' ∧ cx_fr [(6, 3)] I J I' J' ∧ cx_leT T T' ∧ c' + T.length = c0 + T'.length ∧ k' + cx_mem T = k0 + cx_mem T' ∧ (I' 6 3).toInt ≤ hi
theorem cx_q6_t {I I' : Nat → Nat → Int32} {J J' : Nat → Nat → Int64} {T T' : List ez_C} {c0 k0 c1 k1 : Nat} {hi : Int} {r : Option Value} {h : ez_H} {c k : Nat} (q : cx_q6 I' J' T' c1 k1 hi r h c k) (hf : cx_fr [(6, 3)] I J I' J') (hT : cx_leT T T') (hc : c1 + T.length = c0 + T'.length) (hk : k1 + cx_mem T = k0 + cx_mem T') : cx_q6 I J T c0 k0 hi r h c k := by
  obtain ⟨h0, I2, J2, R2, T2, h1, h2, h3, h4, h5, h6, h7⟩ := q
  exact ⟨h0, I2, J2, R2, T2, h1, h2, cx_fr_t hf h3, cx_leT_t hT h4, by omega, by omega, h7⟩
theorem cx_q6_0 {I : Nat → Nat → Int32} {J : Nat → Nat → Int64} {R : Nat → Nat} {T : List ez_C} {c k : Nat} {hi : Int} (hh : cx_hok cx_B0 I R T) (h : (I 6 3).toInt ≤ hi) : cx_q6 I J T c k hi none (ev_hp I J R T) c k :=
  ⟨rfl, I, J, R, T, rfl, hh, cx_fr_r _ _ _, cx_leT_r T, rfl, rfl, h⟩
section
variable (X : ez_X) (I : Nat → Nat → Int32) (J : Nat → Nat → Int64) (R : Nat → Nat) (T : List ez_C)
theorem eh_t3_r0 (ah : Int32) (bd : Int64) (cz kz : Nat) : ∀ G : ez_F, fx_up X 4 G 142 0 [.ref 6, .int ah, .long bd, ez_fill] [] (ev_hp I J R T) cz kz = ev_C G 94 [.ref 3, .int 2] (ev_hp I J R T) fun r h1 c1 k1 => G 142 8 [.ref 6, .int ah, .long bd, ez_fill] (r.toList ++ []) h1 (cz + c1) (kz + k1) := by
  intro G
  rfl
theorem eh_t3_r1 (ah : Int32) (bd : Int64) (C : Int32) (cz kz : Nat) : ∀ G : ez_F, fx_up X 3 G 142 8 [.ref 6, .int ah, .long bd, ez_fill] [.int C] (ev_hp I J R T) cz kz = G 142 13 [.ref 6, .int ah, .long bd, ez_fill, .int C, .int 0] [] (ev_hp I J R T) cz kz := by
  intro G
  rfl
theorem eh_t3_r2 (ah : Int32) (bd : Int64) (C c : Int32) (cz kz : Nat) : ∀ G : ez_F, fx_up X 3 G 142 13 [.ref 6, .int ah, .long bd, ez_fill, .int C, .int c] [] (ev_hp I J R T) cz kz = bif decide (C ≤ c) then G 142 71 [.ref 6, .int ah, .long bd, ez_fill, .int C, .int c] [] (ev_hp I J R T) cz kz else G 142 20 [.ref 6, .int ah, .long bd, ez_fill, .int C, .int c] [] (ev_hp I J R T) cz kz := by
  intro G
  rfl
theorem eh_t3_r3 (ah : Int32) (bd : Int64) (C c : Int32) (cz kz : Nat) : ∀ G : ez_F, fx_up X 1 G 142 71 [.ref 6, .int ah, .long bd, ez_fill, .int C, .int c] [] (ev_hp I J R T) cz kz = some (none, ev_hp I J R T, cz, kz) := by
  intro G
  rfl
end
theorem eh_t3_l (X : ez_X) (hX2 : X.1 < 2 ^ 31) (hi : Int) (hhi : hi ≤ 10000) (C : Int32) (hC : C.toInt ≤ 288) : ∀ (n : Nat) (c ah : Int32) (bd : Int64) (I : Nat → Nat → Int32) (J : Nat → Nat → Int64) (R : Nat → Nat) (T : List ez_C) (cz kz : Nat), cx_hok cx_B0 I R T → 0 ≤ c.toInt → (C.toInt - c.toInt).toNat ≤ n →
    (I 6 3).toInt + ((C.toInt - c.toInt).toNat : Int) ≤ hi → ev_W X 142 13 [.ref 6, .int ah, .long bd, ez_fill, .int C, .int c] [] (ev_hp I J R T) cz kz (cx_q6 I J T cz kz hi) := by
  intro n
  induction n with
  | zero =>
    intro c ah bd I J R T cz kz hh h0 hn hs
    refine ev_if (eh_t3_r2 X I J R T ah bd C c _ _) (fun ht => ev_ret (eh_t3_r3 X I J R T ah bd C c _ _) (cx_q6_0 hh (by omega))) (fun ht => ?_)
    have z := of_decide_eq_false ht
    exact absurd (Int32.le_iff_toInt_le.mpr (by omega)) z
  | succ n ih =>
    intro c ah bd I J R T cz kz hh h0 hn hs
    refine ev_if (eh_t3_r2 X I J R T ah bd C c _ _) (fun ht => ev_ret (eh_t3_r3 X I J R T ah bd C c _ _) (cx_q6_0 hh (by omega))) (fun ht => ?_)
    have z := of_decide_eq_false ht
    have hlt : c.toInt < C.toInt := Int.not_le.mp fun y => z (Int32.le_iff_toInt_le.mpr y)
    have h63 := hh.1 6 3
    have hb63 : cx_B0 6 3 = (0, 10000) := rfl
    rw [hb63] at h63
    simp only at h63
    refine cx_seg (K := cs_t) cx_hA0 cs_t_g cs_t_v (σ0 := [ah.toInt, bd.toInt, C.toInt, c.toInt, (I 6 3).toInt]) hX2 hh
      ⟨⟨rfl, ⟨ah, rfl, rfl⟩, ⟨bd, rfl, rfl⟩, rfl, ⟨C, rfl, rfl⟩, ⟨c, rfl, rfl⟩, trivial⟩, trivial,
        cx_iv_cons (cx_full32 ah) (cx_iv_cons (cx_full64 bd) (cx_iv_cons (by simp only; omega) (cx_iv_cons (by simp only; omega) (cx_iv_cons (by simp only; omega) cx_iv_nil)))), cx_nil,
        fun e he => by rw [List.mem_singleton.mp he]; rfl, fun e he => (by cases he)⟩ ?_ ?_
    · rintro r h' c' k' ⟨I', J', R', T', -, -, -, -, -, -, E, hE, -⟩
      cases hE
    · intro pc' A hA σ ls' st' I' J' R' T' c' k' x1 x2 x3 x4 x5 x6 x7
      have hA2 := Option.map_eq_some_iff.mp hA
      obtain ⟨e, he, rfl⟩ := hA2
      have hm := List.mem_of_find?_eq_some he
      have hp := List.find?_some he
      rw [List.mem_singleton.mp hm] at x7 hp
      obtain rfl := Nat.eq_of_beq_eq_true hp
      obtain ⟨y1, y2, y3, y4, y5, y6⟩ := x7
      obtain ⟨v1, t1, rfl, rfl, g1⟩ := cx_L_inv y1
      obtain ⟨v2, t2, rfl, ⟨ah', rfl, -⟩, g2⟩ := cx_L_inv g1
      obtain ⟨v3, t3, rfl, ⟨bd', rfl, -⟩, g3⟩ := cx_L_inv g2
      obtain ⟨v4, t4, rfl, rfl, g4⟩ := cx_L_inv g3
      obtain ⟨v5, t5, rfl, ⟨C', rfl, z5⟩, g5⟩ := cx_L_inv g4
      obtain ⟨v6, t6, rfl, ⟨c2, rfl, z6⟩, g6⟩ := cx_L_inv g5
      obtain rfl := cx_L_nil g6 rfl
      obtain rfl := cx_L_nil y2 rfl
      have w2 := x1 2 C.toInt rfl
      have w3 := x1 3 c.toInt rfl
      have w4 := x1 4 (I 6 3).toInt rfl
      rw [z5] at w2
      injection w2 with w2
      obtain rfl := cx_i32_eq w2
      have w6 := y5 (6, 3, 6) List.mem_cons_self
      obtain ⟨p1, p2, o1, o2, o3⟩ := y4 (5, 3, 1) (by decide)
      obtain ⟨p3, p4, o4, o5, o6⟩ := y4 (3, 5, -1) (by decide)
      obtain ⟨p5, p6, o7, o8, o9⟩ := y4 (6, 4, 1) (by decide)
      simp only at o1 o2 o3 o4 o5 o6 o7 o8 o9 w6
      rw [z6] at o1 o5
      rw [w3] at o2 o4
      rw [w6] at o7
      rw [w4] at o8
      injection o1 with o1
      injection o2 with o2
      injection o4 with o4
      injection o5 with o5
      injection o7 with o7
      injection o8 with o8
      have hc2 : c2.toInt = c.toInt + 1 := by omega
      have hI : (I' 6 3).toInt ≤ (I 6 3).toInt + 1 := by omega
      exact (ih c2 ah' bd' I' J' R' T' c' k' x2 (by omega) (by omega) (by omega)).mono fun r h c k q => cx_q6_t q x3 x4 x5 x6
theorem eh_t3 (X : ez_X) (hX2 : X.1 < 2 ^ 31) (hi : Int) (hhi : hi ≤ 10000) (ah : Int32) (bd : Int64) (I : Nat → Nat → Int32) (J : Nat → Nat → Int64) (R : Nat → Nat) (T : List ez_C) (hh : cx_hok cx_B0 I R T) (hs : (I 6 3).toInt + (ev_sz I 2).toInt ≤ hi) :
    ev_W X 142 0 (ez_lay [.ref 6, .int ah, .long bd]) [] (ev_hp I J R T) 0 0 (cx_q6 I J T 0 0 hi) := by
  have hb := ev_sz_b hh.1 2
  refine ev_call (eh_t3_r0 X I J R T ah bd _ _) (eh_sz X I J R T 2 2 (by decide) rfl) ?_
  rintro _ _ _ _ ⟨rfl, rfl, rfl, rfl⟩
  refine ev_seg (eh_t3_r1 X I J R T ah bd _ _ _) ?_
  have e0 : (0 : Int32).toInt = 0 := by decide
  exact eh_t3_l X hX2 hi hhi _ hb.2 _ 0 ah bd I J R T _ _ hh (by decide) (Nat.le_refl _) (by rw [e0]; omega)
end
section
/-! The class's search: the second ship, the first. -/
section
variable (X : ez_X) (I : Nat → Nat → Int32) (J : Nat → Nat → Int64) (R : Nat → Nat) (T : List ez_C)
theorem eh_t2_r0 (ah : Int32) (bd : Int64) (cz kz : Nat) : ∀ G : ez_F, fx_up X 4 G 141 0 [.ref 6, .int ah, .long bd, ez_fill] [] (ev_hp I J R T) cz kz = ev_C G 94 [.ref 3, .int 1] (ev_hp I J R T) fun r h1 c1 k1 => G 141 8 [.ref 6, .int ah, .long bd, ez_fill] (r.toList ++ []) h1 (cz + c1) (kz + k1) := by
  intro G
  rfl
theorem eh_t2_r1 (ah : Int32) (bd : Int64) (C : Int32) (cz kz : Nat) : ∀ G : ez_F, fx_up X 3 G 141 8 [.ref 6, .int ah, .long bd, ez_fill] [.int C] (ev_hp I J R T) cz kz = G 141 13 [.ref 6, .int ah, .long bd, ez_fill, .int C, .int 0] [] (ev_hp I J R T) cz kz := by
  intro G
  rfl
theorem eh_t2_r2 (ah : Int32) (bd : Int64) (C c : Int32) (cz kz : Nat) : ∀ G : ez_F, fx_up X 3 G 141 13 [.ref 6, .int ah, .long bd, ez_fill, .int C, .int c] [] (ev_hp I J R T) cz kz = bif decide (C ≤ c) then G 141 69 [.ref 6, .int ah, .long bd, ez_fill, .int C, .int c] [] (ev_hp I J R T) cz kz else G 141 20 [.ref 6, .int ah, .long bd, ez_fill, .int C, .int c] [] (ev_hp I J R T) cz kz := by
  intro G
  rfl
theorem eh_t2_r3 (ah : Int32) (bd : Int64) (C c : Int32) (cz kz : Nat) : ∀ G : ez_F, fx_up X 1 G 141 69 [.ref 6, .int ah, .long bd, ez_fill, .int C, .int c] [] (ev_hp I J R T) cz kz = some (none, ev_hp I J R T, cz, kz) := by
  intro G
  rfl
theorem eh_t2_r4 (ah : Int32) (bd : Int64) (C c y : Int32) (s x : Int64) (cz kz : Nat) : ∀ G : ez_F, fx_up X 1 G 141 60 [.ref 6, .int ah, .long bd, ez_fill, .int C, .int c, .long s, ez_fill] [.long x, .int y, .ref 6] (ev_hp I J R T) cz kz = ev_C G 142 [.ref 6, .int y, .long x] (ev_hp I J R T) fun r h1 c1 k1 => G 141 63 [.ref 6, .int ah, .long bd, ez_fill, .int C, .int c, .long s, ez_fill] (r.toList ++ []) h1 (cz + c1) (kz + k1) := by
  intro G
  rfl
theorem eh_t2_r5 (ah : Int32) (bd : Int64) (C c : Int32) (s : Int64) (cz kz : Nat) : ∀ G : ez_F, fx_up X 2 G 141 63 [.ref 6, .int ah, .long bd, ez_fill, .int C, .int c, .long s, ez_fill] [] (ev_hp I J R T) cz kz = G 141 13 [.ref 6, .int ah, .long bd, ez_fill, .int C, .int (c + 1), .long s, ez_fill] [] (ev_hp I J R T) cz kz := by
  intro G
  rfl
end
theorem ev_mulS (n : Nat) (C : Int) : ((n + 1 : Nat) : Int) * C = (n : Int) * C + C := by
  rw [Int.natCast_add, Int.add_mul]
  simp
theorem ev_inc1 {c C : Int32} (h : c.toInt < C.toInt) (hC : C.toInt ≤ 288) (h0 : 0 ≤ c.toInt) : (c + 1).toInt = c.toInt + 1 := by
  rw [Int32.toInt_add, show (1 : Int32).toInt = 1 from by decide, cx_bm32]
  simp only [cx_i32]
  omega
theorem eh_t2_l (X : ez_X) (hX2 : X.1 < 2 ^ 31) (hi : Int) (hhi : hi ≤ 10000) (S : Int32) (hS : S.toInt ≤ 288) : ∀ (n : Nat) (c ah : Int32) (bd : Int64) (I : Nat → Nat → Int32) (J : Nat → Nat → Int64) (R : Nat → Nat) (T : List ez_C) (cz kz : Nat), cx_hok cx_B0 I R T → 0 ≤ c.toInt → (S.toInt - c.toInt).toNat = n →
    (I 6 3).toInt + (n : Int) * (ev_sz I 2).toInt ≤ hi → ev_W X 141 13 [.ref 6, .int ah, .long bd, ez_fill, .int S, .int c] [] (ev_hp I J R T) cz kz (cx_q6 I J T cz kz hi) := by
  intro n
  induction n with
  | zero =>
    intro c ah bd I J R T cz kz hh h0 hn hs
    refine ev_if (eh_t2_r2 X I J R T ah bd S c _ _) (fun ht => ev_ret (eh_t2_r3 X I J R T ah bd S c _ _) (cx_q6_0 hh (by simpa using hs))) (fun ht => ?_)
    have z := of_decide_eq_false ht
    exact absurd (Int32.le_iff_toInt_le.mpr (by omega)) z
  | succ n ih =>
    intro c ah bd I J R T cz kz hh h0 hn hs
    rw [ev_mulS] at hs
    have hC := ev_sz_b hh.1 2
    have hnC : 0 ≤ (n : Int) * (ev_sz I 2).toInt := Int.mul_nonneg (Int.natCast_nonneg n) hC.1
    have h63 := hh.1 6 3
    refine ev_if (eh_t2_r2 X I J R T ah bd S c _ _) (fun ht => ev_ret (eh_t2_r3 X I J R T ah bd S c _ _) (cx_q6_0 hh (by omega))) (fun ht => ?_)
    have hlt : c.toInt < S.toInt := by omega
    have e1 := ev_inc1 hlt hS h0
    -- from 63 on
    have next : ∀ (ah' : Int32) (bd' s' : Int64) (I' : Nat → Nat → Int32) (J' : Nat → Nat → Int64) (R' : Nat → Nat) (T' : List ez_C) (c' k' : Nat), cx_hok cx_B0 I' R' T' → cx_fr [(6, 3)] I J I' J' → cx_leT T T' → c' + T.length = cz + T'.length → k' + cx_mem T = kz + cx_mem T' → (I' 6 3).toInt ≤ (I 6 3).toInt + (ev_sz I 2).toInt →
        ev_W X 141 63 [.ref 6, .int ah', .long bd', ez_fill, .int S, .int c, .long s', ez_fill] [] (ev_hp I' J' R' T') c' k' (cx_q6 I J T cz kz hi) := by
      intro ah' bd' s' I' J' R' T' c' k' x2 x3 x4 x5 x6 x7
      refine ev_seg (eh_t2_r5 X I' J' R' T' ah' bd' S c s' _ _) ?_
      refine ev_cutl (by rfl) ?_
      have hsz : ev_sz I' 2 = ev_sz I 2 := ev_sz_fr x3 2
      exact (ih (c + 1) ah' bd' I' J' R' T' c' k' x2 (by omega) (by omega) (by rw [hsz]; omega)).mono fun r h c k q => cx_q6_t q x3 x4 x5 x6
    refine cx_seg (K := cs_s) cx_hA0 cs_s_g cs_s_v (σ0 := [ah.toInt, bd.toInt, S.toInt, c.toInt]) hX2 hh
      ⟨⟨rfl, ⟨ah, rfl, rfl⟩, ⟨bd, rfl, rfl⟩, rfl, ⟨S, rfl, rfl⟩, ⟨c, rfl, rfl⟩, trivial⟩, trivial,
        cx_iv_cons (cx_full32 ah) (cx_iv_cons (cx_full64 bd) (cx_iv_cons (by simp only; omega) (cx_iv_cons (by simp only; omega) cx_iv_nil))), cx_nil,
        fun e he => (by cases he), fun e he => (by cases he)⟩ ?_ ?_
    · rintro r h' c' k' ⟨I', J', R', T', -, -, -, -, -, -, E, hE, -⟩
      cases hE
    · intro pc' A hA σ ls' st' I' J' R' T' c' k' x1 x2 x3 x4 x5 x6 x7
      have x3' : cx_fr [(6, 3)] I J I' J' := fun a q _ => x3 a q rfl
      have e63 : I' 6 3 = I 6 3 := (x3 6 3 rfl).1
      have w2 := x1 2 S.toInt rfl
      have w3 := x1 3 c.toInt rfl
      rcases cx_fAn2 hA with ⟨rfl, rfl⟩ | ⟨rfl, rfl⟩
      · obtain ⟨y1, y2, -⟩ := x7
        obtain ⟨v1, t1, rfl, rfl, g1⟩ := cx_L_inv y1
        obtain ⟨v2, t2, rfl, ⟨ah', rfl, -⟩, g2⟩ := cx_L_inv g1
        obtain ⟨v3, t3, rfl, ⟨bd', rfl, -⟩, g3⟩ := cx_L_inv g2
        obtain ⟨v4, t4, rfl, rfl, g4⟩ := cx_L_inv g3
        obtain ⟨v5, t5, rfl, ⟨S', rfl, z5⟩, g5⟩ := cx_L_inv g4
        obtain ⟨v6, t6, rfl, ⟨c2, rfl, z6⟩, g6⟩ := cx_L_inv g5
        obtain ⟨v7, t7, rfl, ⟨s', rfl, -⟩, g7⟩ := cx_L_inv g6
        obtain ⟨v8, t8, rfl, rfl, g8⟩ := cx_L_inv g7
        obtain rfl := cx_L_nil g8 rfl
        obtain ⟨u1, t1, rfl, ⟨x, rfl, -⟩, f1⟩ := cx_L_inv y2
        obtain ⟨u2, t2, rfl, ⟨y, rfl, -⟩, f2⟩ := cx_L_inv f1
        obtain ⟨u3, t3, rfl, rfl, f3⟩ := cx_L_inv f2
        obtain rfl := cx_L_nil f3 rfl
        rw [z5] at w2
        rw [z6] at w3
        injection w2 with w2
        injection w3 with w3
        obtain rfl := cx_i32_eq w2
        obtain rfl := cx_i32_eq w3
        have hsz : ev_sz I' 2 = ev_sz I 2 := ev_sz_fr x3' 2
        refine ev_call (eh_t2_r4 X I' J' R' T' ah' bd' S' c2 y s' x _ _) (eh_t3 X hX2 ((I 6 3).toInt + (ev_sz I 2).toInt) (by omega) y x I' J' R' T' x2 (by rw [hsz, e63]; omega)) ?_
        rintro r h1 c1 k1 ⟨rfl, I2, J2, R2, T2, rfl, q1, q2, q3, q4, q5, q6⟩
        exact next ah' bd' s' I2 J2 R2 T2 _ _ q1 (cx_fr_t x3' q2) (cx_leT_t x4 q3) (by omega) (by omega) q6
      · obtain ⟨y1, y2, -⟩ := x7
        obtain ⟨v1, t1, rfl, rfl, g1⟩ := cx_L_inv y1
        obtain ⟨v2, t2, rfl, ⟨ah', rfl, -⟩, g2⟩ := cx_L_inv g1
        obtain ⟨v3, t3, rfl, ⟨bd', rfl, -⟩, g3⟩ := cx_L_inv g2
        obtain ⟨v4, t4, rfl, rfl, g4⟩ := cx_L_inv g3
        obtain ⟨v5, t5, rfl, ⟨S', rfl, z5⟩, g5⟩ := cx_L_inv g4
        obtain ⟨v6, t6, rfl, ⟨c2, rfl, z6⟩, g6⟩ := cx_L_inv g5
        obtain ⟨v7, t7, rfl, ⟨s', rfl, -⟩, g7⟩ := cx_L_inv g6
        obtain ⟨v8, t8, rfl, rfl, g8⟩ := cx_L_inv g7
        obtain rfl := cx_L_nil g8 rfl
        obtain rfl := cx_L_nil y2 rfl
        rw [z5] at w2
        rw [z6] at w3
        injection w2 with w2
        injection w3 with w3
        obtain rfl := cx_i32_eq w2
        obtain rfl := cx_i32_eq w3
        exact next ah' bd' s' I' J' R' T' _ _ x2 x3' x4 x5 x6 (by rw [e63]; omega)
theorem eh_t2 (X : ez_X) (hX2 : X.1 < 2 ^ 31) (hi : Int) (hhi : hi ≤ 10000) (ah : Int32) (bd : Int64) (I : Nat → Nat → Int32) (J : Nat → Nat → Int64) (R : Nat → Nat) (T : List ez_C) (hh : cx_hok cx_B0 I R T) (hs : (I 6 3).toInt + (ev_sz I 1).toInt * (ev_sz I 2).toInt ≤ hi) :
    ev_W X 141 0 (ez_lay [.ref 6, .int ah, .long bd]) [] (ev_hp I J R T) 0 0 (cx_q6 I J T 0 0 hi) := by
  have hb := ev_sz_b hh.1 1
  refine ev_call (eh_t2_r0 X I J R T ah bd _ _) (eh_sz X I J R T 1 1 (by decide) rfl) ?_
  rintro _ _ _ _ ⟨rfl, rfl, rfl, rfl⟩
  refine ev_seg (eh_t2_r1 X I J R T ah bd _ _ _) ?_
  have e0 : (0 : Int32).toInt = 0 := by decide
  refine eh_t2_l X hX2 hi hhi _ hb.2 _ 0 ah bd I J R T _ _ hh (by decide) rfl ?_
  rw [e0, Int.sub_zero, Int.toNat_of_nonneg hb.1]
  exact hs
end
section
/-! The class's search, whole. -/
section
variable (X : ez_X) (I : Nat → Nat → Int32) (J : Nat → Nat → Int64) (R : Nat → Nat) (T : List ez_C)
theorem eh_sr_r1 (cz kz : Nat) : ∀ G : ez_F, fx_up X 3 G 140 0 [.ref 6] [] (ev_hp I J R T) cz kz = ev_C G 89 [.ref 3] (ev_hp I J R T) fun r h1 c1 k1 => G 140 7 [.ref 6] (r.toList ++ []) h1 (cz + c1) (kz + k1) := by
  intro G
  rfl
theorem eh_sr_r2 (w : Int32) (cz kz : Nat) : ∀ G : ez_F, fx_up X 4 G 140 7 [.ref 6] [.int w] (ev_hp I J R T) cz kz = bif decide (¬ I 6 4 = 0) then G 140 22 [.ref 6, .int w] [] (ev_hp I J R T) cz kz else G 140 15 [.ref 6, .int w] [] (ev_hp I J R T) cz kz := by
  intro G
  rfl
theorem eh_sr_r3 (w : Int32) (cz kz : Nat) : ∀ G : ez_F, fx_up X 3 G 140 15 [.ref 6, .int w] [] (ev_hp I J R T) cz kz = bif decide (w ≤ 10000) then G 140 23 [.ref 6, .int w] [] (ev_hp I J R T) cz kz else G 140 22 [.ref 6, .int w] [] (ev_hp I J R T) cz kz := by
  intro G
  rfl
theorem eh_sr_r4 (w : Int32) (cz kz : Nat) : ∀ G : ez_F, fx_up X 1 G 140 22 [.ref 6, .int w] [] (ev_hp I J R T) cz kz = some (none, ev_hp I J R T, cz, kz) := by
  intro G
  rfl
set_option maxRecDepth 100000 in
theorem eh_sr_r5 (w : Int32) (cz kz : Nat) : ∀ G : ez_F, fx_up X 9 G 140 23 [.ref 6, .int w] [] (ev_hp I J R T) cz kz = G 140 38 [.ref 6, .int w] [.ref (R 0), .int w] (ev_hp (ev_sI I 6 (upd (upd (I 6) 4 1) 3 0)) J R T) cz kz := by
  intro G
  rfl
theorem eh_sr_r6 (w n : Int32) (cz kz : Nat) : ∀ G : ez_F, fx_up X 1 G 140 39 [.ref 6, .int w] [.int n, .int w] (ev_hp I J R T) cz kz = bif decide (w ≤ n) then G 140 57 [.ref 6, .int w] [] (ev_hp I J R T) cz kz else G 140 42 [.ref 6, .int w] [] (ev_hp I J R T) cz kz := by
  intro G
  rfl
theorem eh_sr_r7 (w : Int32) (cz kz : Nat) : ∀ G : ez_F, fx_up X 3 G 140 42 [.ref 6, .int w] [] (ev_hp I J R T) cz kz = G 140 47 [.ref 6, .int w] [.ref (R 0), .ref 6] (ev_hp I J R T) cz kz := by
  intro G
  rfl
theorem eh_sr_r8 (w n : Int32) (cz kz : Nat) : ∀ G : ez_F, fx_up X 2 G 140 48 [.ref 6, .int w] [.int n, .ref 6] (ev_hp I J R T) cz kz = ev_C G 19 [.int n, .int w] (ev_hp I J R T) fun r h1 c1 k1 => G 140 52 [.ref 6, .int w] (r.toList ++ [.ref 6]) h1 (cz + c1) (kz + k1) := by
  intro G
  rfl
theorem eh_sr_r9 (w : Int32) (v : Nat) (cz kz : Nat) : ∀ G : ez_F, fx_up X 1 G 140 54 [.ref 6, .int w] [.ref v, .ref 6] (ev_hp I J R T) cz kz = G 140 57 [.ref 6, .int w] [] (ev_hp I J (ev_sR R 0 v) T) cz kz := by
  intro G
  rfl
theorem eh_sr_rA (w : Int32) (cz kz : Nat) : ∀ G : ez_F, fx_up X 4 G 140 57 [.ref 6, .int w] [] (ev_hp I J R T) cz kz = ev_C G 94 [.ref 3, .int 0] (ev_hp I J R T) fun r h1 c1 k1 => G 140 65 [.ref 6, .int w] (r.toList ++ []) h1 (cz + c1) (kz + k1) := by
  intro G
  rfl
theorem eh_sr_rB (w C : Int32) (cz kz : Nat) : ∀ G : ez_F, fx_up X 3 G 140 65 [.ref 6, .int w] [.int C] (ev_hp I J R T) cz kz = G 140 68 [.ref 6, .int w, .int C, .int 0] [] (ev_hp I J R T) cz kz := by
  intro G
  rfl
theorem eh_sr_rC (w C c : Int32) (cz kz : Nat) : ∀ G : ez_F, fx_up X 3 G 140 68 [.ref 6, .int w, .int C, .int c] [] (ev_hp I J R T) cz kz = bif decide (C ≤ c) then G 140 100 [.ref 6, .int w, .int C, .int c] [] (ev_hp I J R T) cz kz else G 140 73 [.ref 6, .int w, .int C, .int c] [] (ev_hp I J R T) cz kz := by
  intro G
  rfl
theorem eh_sr_rD (w C c : Int32) (cz kz : Nat) : ∀ G : ez_F, fx_up X 1 G 140 100 [.ref 6, .int w, .int C, .int c] [] (ev_hp I J R T) cz kz = some (none, ev_hp I J R T, cz, kz) := by
  intro G
  rfl
theorem eh_sr_rE (w C c y : Int32) (x : Int64) (cz kz : Nat) : ∀ G : ez_F, fx_up X 1 G 140 91 [.ref 6, .int w, .int C, .int c] [.long x, .int y, .ref 6] (ev_hp I J R T) cz kz = ev_C G 141 [.ref 6, .int y, .long x] (ev_hp I J R T) fun r h1 c1 k1 => G 140 94 [.ref 6, .int w, .int C, .int c] (r.toList ++ []) h1 (cz + c1) (kz + k1) := by
  intro G
  rfl
theorem eh_sr_rF (w C c : Int32) (cz kz : Nat) : ∀ G : ez_F, fx_up X 2 G 140 94 [.ref 6, .int w, .int C, .int c] [] (ev_hp I J R T) cz kz = G 140 68 [.ref 6, .int w, .int C, .int (c + 1)] [] (ev_hp I J R T) cz kz := by
  intro G
  rfl
end
theorem eh_sr_l (X : ez_X) (hX2 : X.1 < 2 ^ 31) (S : Int32) (hS : S.toInt ≤ 288) : ∀ (n : Nat) (c w : Int32) (I : Nat → Nat → Int32) (J : Nat → Nat → Int64) (R : Nat → Nat) (T : List ez_C) (cz kz : Nat), cx_hok cx_B0 I R T → 0 ≤ c.toInt → (S.toInt - c.toInt).toNat = n →
    (I 6 3).toInt + (n : Int) * ((ev_sz I 1).toInt * (ev_sz I 2).toInt) ≤ 10000 → ev_W X 140 68 [.ref 6, .int w, .int S, .int c] [] (ev_hp I J R T) cz kz (cx_q6 I J T cz kz 10000) := by
  intro n
  induction n with
  | zero =>
    intro c w I J R T cz kz hh h0 hn hs
    refine ev_if (eh_sr_rC X I J R T w S c _ _) (fun ht => ev_ret (eh_sr_rD X I J R T w S c _ _) (cx_q6_0 hh (by simpa using hs))) (fun ht => ?_)
    have z := of_decide_eq_false ht
    exact absurd (Int32.le_iff_toInt_le.mpr (by omega)) z
  | succ n ih =>
    intro c w I J R T cz kz hh h0 hn hs
    rw [ev_mulS] at hs
    have hC := ev_sz_b hh.1 2
    have hB := ev_sz_b hh.1 1
    have hBC : 0 ≤ (ev_sz I 1).toInt * (ev_sz I 2).toInt := Int.mul_nonneg hB.1 hC.1
    have hnC : 0 ≤ (n : Int) * ((ev_sz I 1).toInt * (ev_sz I 2).toInt) := Int.mul_nonneg (Int.natCast_nonneg n) hBC
    have h63 := hh.1 6 3
    refine ev_if (eh_sr_rC X I J R T w S c _ _) (fun ht => ev_ret (eh_sr_rD X I J R T w S c _ _) (cx_q6_0 hh (by omega))) (fun ht => ?_)
    have hlt : c.toInt < S.toInt := by omega
    have e1 := ev_inc1 hlt hS h0
    refine cx_seg (K := cs_f) cx_hA0 cs_f_g cs_f_v (σ0 := [w.toInt, S.toInt, c.toInt]) hX2 hh
      ⟨⟨rfl, ⟨w, rfl, rfl⟩, ⟨S, rfl, rfl⟩, ⟨c, rfl, rfl⟩, trivial⟩, trivial,
        cx_iv_cons (cx_full32 w) (cx_iv_cons (by simp only; omega) (cx_iv_cons (by simp only; omega) cx_iv_nil)), cx_nil,
        fun e he => (by cases he), fun e he => (by cases he)⟩ ?_ ?_
    · rintro r h' c' k' ⟨I', J', R', T', -, -, -, -, -, -, E, hE, -⟩
      cases hE
    · intro pc' A hA σ ls' st' I' J' R' T' c' k' x1 x2 x3 x4 x5 x6 x7
      have x3' : cx_fr [(6, 3)] I J I' J' := fun a q _ => x3 a q rfl
      have e63 : I' 6 3 = I 6 3 := (x3 6 3 rfl).1
      have w1 := x1 1 S.toInt rfl
      have w2 := x1 2 c.toInt rfl
      obtain ⟨rfl, rfl⟩ := cx_fAn1 hA
      obtain ⟨y1, y2, -⟩ := x7
      obtain ⟨v1, t1, rfl, rfl, g1⟩ := cx_L_inv y1
      obtain ⟨v2, t2, rfl, ⟨w', rfl, -⟩, g2⟩ := cx_L_inv g1
      obtain ⟨v3, t3, rfl, ⟨S', rfl, z3⟩, g3⟩ := cx_L_inv g2
      obtain ⟨v4, t4, rfl, ⟨c2, rfl, z4⟩, g4⟩ := cx_L_inv g3
      obtain rfl := cx_L_nil g4 rfl
      obtain ⟨u1, t1, rfl, ⟨x, rfl, -⟩, f1⟩ := cx_L_inv y2
      obtain ⟨u2, t2, rfl, ⟨y, rfl, -⟩, f2⟩ := cx_L_inv f1
      obtain ⟨u3, t3, rfl, rfl, f3⟩ := cx_L_inv f2
      obtain rfl := cx_L_nil f3 rfl
      rw [z3] at w1
      rw [z4] at w2
      injection w1 with w1
      injection w2 with w2
      obtain rfl := cx_i32_eq w1
      obtain rfl := cx_i32_eq w2
      have s1 : ev_sz I' 1 = ev_sz I 1 := ev_sz_fr x3' 1
      have s2 : ev_sz I' 2 = ev_sz I 2 := ev_sz_fr x3' 2
      refine ev_call (eh_sr_rE X I' J' R' T' w' S' c2 y x _ _) (eh_t2 X hX2 ((I 6 3).toInt + (ev_sz I 1).toInt * (ev_sz I 2).toInt) (by omega) y x I' J' R' T' x2 (by rw [s1, s2, e63]; omega)) ?_
      rintro r h1 c1 k1 ⟨rfl, I2, J2, R2, T2, rfl, q1, q2, q3, q4, q5, q6⟩
      refine ev_seg (eh_sr_rF X I2 J2 R2 T2 w' S' c2 _ _) ?_
      have x8 := cx_fr_t x3' q2
      have s3 : ev_sz I2 1 = ev_sz I 1 := ev_sz_fr x8 1
      have s4 : ev_sz I2 2 = ev_sz I 2 := ev_sz_fr x8 2
      exact (ih (c2 + 1) w' I2 J2 R2 T2 _ _ q1 (by omega) (by omega) (by rw [s3, s4]; omega)).mono fun r h c k q => cx_q6_t q x8 (cx_leT_t x4 q3) (by omega) (by omega)
theorem ev_mul3 {a b c : Int32} (ha : 0 ≤ a.toInt) (ha2 : a.toInt ≤ 288) (hb : 0 ≤ b.toInt) (hb2 : b.toInt ≤ 288) (hc : 0 ≤ c.toInt) (hc2 : c.toInt ≤ 288) : (a * b * c).toInt = a.toInt * (b.toInt * c.toInt) := by
  have h1 : 0 ≤ a.toInt * b.toInt := Int.mul_nonneg ha hb
  have h2 : a.toInt * b.toInt ≤ 288 * 288 := Int.mul_le_mul ha2 hb2 hb (by decide)
  have e1 : (a * b).toInt = a.toInt * b.toInt := by
    rw [Int32.toInt_mul, cx_bm32]
    simp only [cx_i32]
    omega
  have h3 : 0 ≤ a.toInt * b.toInt * c.toInt := Int.mul_nonneg h1 hc
  have h4 : a.toInt * b.toInt * c.toInt ≤ 288 * 288 * 288 := Int.mul_le_mul h2 hc2 hc (by decide)
  rw [Int32.toInt_mul, e1, cx_bm32, Int.mul_assoc]
  simp only [cx_i32]
  omega
theorem cv_Register_search : cx_valid cx_B0 140 ck_Register_search := by
  intro X σ0 ls I J R T hX2 hh hok
  obtain ⟨v1, t1, rfl, rfl, g2⟩ := cx_L_inv hok.1
  obtain rfl := cx_L_nil g2 rfl
  have fin : cx_post cx_B0 ck_Register_search σ0 I J T 0 0 none (ev_hp I J R T) 0 0 := cx_same hh (cx_leT_r T) rfl rfl List.mem_cons_self (cx_ext_r σ0) (cx_ok_none hok.2.2.1 I T)
  have hA := ev_sz_b hh.1 0
  have hB := ev_sz_b hh.1 1
  have hC := ev_sz_b hh.1 2
  have hw := ev_mul3 hA.1 hA.2 hB.1 hB.2 hC.1 hC.2
  have e0 : (0 : Int32).toInt = 0 := by decide
  have e1 : (1 : Int32).toInt = 1 := by decide
  have e10 : (10000 : Int32).toInt = 10000 := by decide
  refine ev_call (eh_sr_r1 X I J R T _ _) (eh_cb X I J R T) ?_
  rintro _ _ _ _ ⟨rfl, rfl, rfl, rfl⟩
  generalize ev_sz I 0 * ev_sz I 1 * ev_sz I 2 = w at hw
  refine ev_if (eh_sr_r2 X I J R T w _ _) (fun ht => ev_ret (eh_sr_r4 X I J R T w _ _) fin) (fun _ => ?_)
  refine ev_if (eh_sr_r3 X I J R T w _ _) (fun ht => ?_) (fun ht => ev_ret (eh_sr_r4 X I J R T w _ _) fin)
  have hw2 : w.toInt ≤ 10000 := by
    have := Int32.le_iff_toInt_le.mp (of_decide_eq_true ht)
    rwa [e10] at this
  refine ev_seg (eh_sr_r5 X I J R T w _ _) ?_
  -- the numbers behind the two stores
  have hfr : cx_fr [(6, 3), (6, 4)] I J (ev_sI I 6 (upd (upd (I 6) 4 1) 3 0)) J := cx_fr_I fun q hq => by
    unfold upd
    split
    · rename_i h; subst h; cases hq
    · split
      · rename_i h; subst h; cases hq
      · rfl
  have hhB : cx_hB cx_B0 (ev_sI I 6 (upd (upd (I 6) 4 1) 3 0)) := cx_hB_I hh.1 fun q => by
    unfold upd
    split
    · rename_i h
      subst h
      rw [e0]
      exact ⟨by decide, by decide⟩
    · split
      · rename_i h
        subst h
        rw [e1]
        exact ⟨by decide, by decide⟩
      · exact hh.1 6 q
  have hs0 : ∀ s, ev_sz (ev_sI I 6 (upd (upd (I 6) 4 1) 3 0)) s = ev_sz I s := fun s => by
    unfold ev_sz
    rw [(hfr 3 3 rfl).1, (hfr 5 s rfl).1]
  have h63 : (ev_sI I 6 (upd (upd (I 6) 4 1) 3 0)) 6 3 = 0 := by
    rw [cx_sI_s]
    rfl
  generalize ev_sI I 6 (upd (upd (I 6) 4 1) 3 0) = I1 at hfr hhB hs0 h63
  -- from the loop on
  have tail : ∀ (R' : Nat → Nat) (T' : List ez_C) (c k : Nat), cx_rows R' T' → cx_leT T T' → c + T.length = T'.length → k + cx_mem T = cx_mem T' → ev_W X 140 57 [.ref 6, .int w] [] (ev_hp I1 J R' T') c k (cx_post cx_B0 ck_Register_search σ0 I J T 0 0) := by
    intro R' T' c k h1 h2 h3 h4
    refine ev_call (eh_sr_rA X I1 J R' T' w _ _) (eh_sz X I1 J R' T' 0 0 (by decide) rfl) ?_
    rintro _ _ _ _ ⟨rfl, rfl, rfl, rfl⟩
    rw [hs0]
    refine ev_seg (eh_sr_rB X I1 J R' T' w _ _ _) ?_
    refine (eh_sr_l X hX2 _ hA.2 _ 0 w I1 J R' T' _ _ ⟨hhB, h1⟩ (by decide) rfl ?_).mono ?_
    · rw [h63, hs0, hs0, e0, Int.sub_zero, Int.toNat_of_nonneg hA.1, ← hw]
      omega
    · rintro r h' c' k' ⟨rfl, I2, J2, R2, T2, rfl, q1, q2, q3, q4, q5, q6⟩
      refine ⟨I2, J2, R2, T2, rfl, q1, fun a q hq => ?_, cx_leT_t h2 q3, by omega, by omega, _, List.mem_cons_self, σ0, cx_ext_r σ0, cx_ok_none hok.2.2.1 I2 _⟩
      have hq : cx_may [(6, 3), (6, 4)] a q = false := hq
      have hq2 : cx_may [(6, 3)] a q = false := by
        cases hz : cx_may [(6, 3)] a q with
        | false => rfl
        | true =>
          have : cx_may [(6, 3), (6, 4)] a q = true := by
            unfold cx_may at hz ⊢
            simp only [List.any_cons, List.any_nil, Bool.or_false] at hz ⊢
            rw [hz]
            rfl
          rw [this] at hq
          cases hq
      obtain ⟨z1, z2⟩ := hfr a q hq
      obtain ⟨z3, z4⟩ := q2 a q hq2
      exact ⟨z3.trans z1, z4.trans z2⟩
  obtain ⟨-, n0, n1, n4, a0, a1, a2, a3, a4, b0, b1, b4, hm⟩ := id hh.2
  obtain ⟨f, hf⟩ := cx_row_I (I := I1) (J := J) (R := R) a0
  have en : (Int32.ofNat n0).toInt = n0 := Int32.toInt_ofNat_of_lt (by omega)
  obtain ⟨q1, q2, q3, q4⟩ := ev_grown_s (w := w) b0
  refine ev_alenI (by rfl) hf ?_
  refine ev_if (eh_sr_r6 X I1 J R T w _ _ _) (fun ht => tail R T _ _ hh.2 (cx_leT_r T) (by omega) (by omega)) (fun ht => ?_)
  have hlt : (n0 : Int) < w.toInt := by
    have z := of_decide_eq_false ht
    have : ¬ w.toInt ≤ (Int32.ofNat n0).toInt := fun y => z (Int32.le_iff_toInt_le.mpr y)
    omega
  refine ev_seg (eh_sr_r7 X I1 J R T w _ _) ?_
  refine ev_alenI (by rfl) hf ?_
  refine ev_call (eh_sr_r8 X I1 J R T w _ _ _) (eh_grown X _ _ _) ?_
  rintro _ _ _ _ ⟨rfl, rfl, rfl, rfl⟩
  generalize ev_grown (Int32.ofNat n0) w = g at q1 q2 q3 q4
  have q4 := q4 hw2
  refine ev_newI (by rfl) q1 q2 ?_
  refine ev_seg (eh_sr_r9 X I1 J R _ w _ _ _) ?_
  have hx : cx_isrow 0 g.toInt.toNat (.inl (g.toInt.toNat, .inl fun _ => 0)) := Or.inl ⟨rfl, _, rfl⟩
  have hr := cx_rows_0 hh.2 a0 hx (by omega) (by omega) (by omega)
  exact tail _ _ _ _ hr (cx_leT_app T _) (by simp only [List.length_append, List.length_cons, List.length_nil]; omega) (by rw [cx_mem_app hx]; omega)
end
section
/-! The reference's moved shape, as a function. -/
noncomputable def mv_c (W wr v : Int32) : Int32 := if wr = 0 then v else (v + 12 * W) - (v + 12 * W) / W * W
noncomputable def mv_F (W H wr bits dx dy : Int32) : Nat → Int32 → Int64 → Int64
  | 0, _, set => set
  | r + 1, k, set => if ev_has bits.toInt64 k = 0 then mv_F W H wr bits dx dy r (k + 1) set else
    if ev_il (mv_c W wr (k - k / 4 * 4 + dx)).toInt64 0 (W - 1).toInt64 = 0 then 0 else
    if ev_il (mv_c H wr (k / 4 + dy)).toInt64 0 (H - 1).toInt64 = 0 then 0 else
    if ev_has set (W * mv_c H wr (k / 4 + dy) + mv_c W wr (k - k / 4 * 4 + dx)) = 0 then
      mv_F W H wr bits dx dy r (k + 1) (set ||| (1 <<< ((W * mv_c H wr (k / 4 + dy) + mv_c W wr (k - k / 4 * 4 + dx)).toInt64 &&& 63))) else 0
section
variable (X : ez_X) (I : Nat → Nat → Int32) (J : Nat → Nat → Int64) (R : Nat → Nat) (T : List ez_C) (b dx dy : Int32)
theorem eh_mv_r0 (cz kz : Nat) : ∀ G : ez_F, fx_up X 4 G 211 0 [.ref 35, .int b, .int dx, .int dy] [] (ev_hp I J R T) cz kz = G 211 6 [.ref 35, .int b, .int dx, .int dy, .long 0, ez_fill, .int 0] [] (ev_hp I J R T) cz kz := by
  intro G
  rfl
theorem eh_mv_r1 (s : Int64) (k : Int32) (cz kz : Nat) : ∀ G : ez_F, fx_up X 3 G 211 6 [.ref 35, .int b, .int dx, .int dy, .long s, ez_fill, .int k] [] (ev_hp I J R T) cz kz = bif decide (16 ≤ k) then G 211 157 [.ref 35, .int b, .int dx, .int dy, .long s, ez_fill, .int k] [] (ev_hp I J R T) cz kz else G 211 13 [.ref 35, .int b, .int dx, .int dy, .long s, ez_fill, .int k] [] (ev_hp I J R T) cz kz := by
  intro G
  rfl
theorem eh_mv_r2 (s : Int64) (k : Int32) (cz kz : Nat) : ∀ G : ez_F, fx_up X 2 G 211 157 [.ref 35, .int b, .int dx, .int dy, .long s, ez_fill, .int k] [] (ev_hp I J R T) cz kz = some (some (.long s), ev_hp I J R T, cz, kz) := by
  intro G
  rfl
theorem eh_mv_r3 (s : Int64) (k : Int32) (cz kz : Nat) : ∀ G : ez_F, fx_up X 4 G 211 13 [.ref 35, .int b, .int dx, .int dy, .long s, ez_fill, .int k] [] (ev_hp I J R T) cz kz = ev_C G 197 [.long b.toInt64, .int k] (ev_hp I J R T) fun r h1 c1 k1 => G 211 20 [.ref 35, .int b, .int dx, .int dy, .long s, ez_fill, .int k] (r.toList ++ []) h1 (cz + c1) (kz + k1) := by
  intro G
  rfl
theorem eh_mv_r4 (s : Int64) (k v : Int32) (cz kz : Nat) : ∀ G : ez_F, fx_up X 1 G 211 20 [.ref 35, .int b, .int dx, .int dy, .long s, ez_fill, .int k] [.int v] (ev_hp I J R T) cz kz = bif decide (v = 0) then G 211 151 [.ref 35, .int b, .int dx, .int dy, .long s, ez_fill, .int k] [] (ev_hp I J R T) cz kz else G 211 23 [.ref 35, .int b, .int dx, .int dy, .long s, ez_fill, .int k] [] (ev_hp I J R T) cz kz := by
  intro G
  rfl
set_option maxRecDepth 100000 in
theorem eh_mv_r5 (s : Int64) (k : Int32) (cz kz : Nat) : ∀ G : ez_F, fx_up X 15 G 211 23 [.ref 35, .int b, .int dx, .int dy, .long s, ez_fill, .int k] [] (ev_hp I J R T) cz kz = bif decide (I 35 2 = 0) then G 211 80 [.ref 35, .int b, .int dx, .int dy, .long s, ez_fill, .int k, .int (k - k / 4 * 4 + dx), .int (k / 4 + dy)] [] (ev_hp I J R T) cz kz else G 211 46 [.ref 35, .int b, .int dx, .int dy, .long s, ez_fill, .int k, .int (k - k / 4 * 4 + dx), .int (k / 4 + dy)] [] (ev_hp I J R T) cz kz := by
  intro G
  rfl
theorem eh_mv_r6 (s : Int64) (k x y : Int32) (cz kz : Nat) : ∀ G : ez_F, fx_up X 8 G 211 46 [.ref 35, .int b, .int dx, .int dy, .long s, ez_fill, .int k, .int x, .int y] [] (ev_hp I J R T) cz kz = G 211 60 [.ref 35, .int b, .int dx, .int dy, .long s, ez_fill, .int k, .int x, .int y] [.int (I 35 0), .int (x + 12 * I 35 0)] (ev_hp I J R T) cz kz := by
  intro G
  rfl
theorem eh_mv_r7 (s : Int64) (k x y v : Int32) (cz kz : Nat) : ∀ G : ez_F, fx_up X 9 G 211 61 [.ref 35, .int b, .int dx, .int dy, .long s, ez_fill, .int k, .int x, .int y] [.int v] (ev_hp I J R T) cz kz = G 211 77 [.ref 35, .int b, .int dx, .int dy, .long s, ez_fill, .int k, .int v, .int y] [.int (I 35 1), .int (y + 12 * I 35 1)] (ev_hp I J R T) cz kz := by
  intro G
  rfl
theorem eh_mv_r8 (s : Int64) (k x y v : Int32) (cz kz : Nat) : ∀ G : ez_F, fx_up X 1 G 211 78 [.ref 35, .int b, .int dx, .int dy, .long s, ez_fill, .int k, .int x, .int y] [.int v] (ev_hp I J R T) cz kz = G 211 80 [.ref 35, .int b, .int dx, .int dy, .long s, ez_fill, .int k, .int x, .int v] [] (ev_hp I J R T) cz kz := by
  intro G
  rfl
theorem eh_mv_r9 (s : Int64) (k x y : Int32) (cz kz : Nat) : ∀ G : ez_F, fx_up X 9 G 211 80 [.ref 35, .int b, .int dx, .int dy, .long s, ez_fill, .int k, .int x, .int y] [] (ev_hp I J R T) cz kz = ev_C G 198 [.long x.toInt64, .long 0, .long (I 35 0 - 1).toInt64] (ev_hp I J R T) fun r h1 c1 k1 => G 211 94 [.ref 35, .int b, .int dx, .int dy, .long s, ez_fill, .int k, .int x, .int y] (r.toList ++ []) h1 (cz + c1) (kz + k1) := by
  intro G
  rfl
theorem eh_mv_rA (s : Int64) (k x y v : Int32) (cz kz : Nat) : ∀ G : ez_F, fx_up X 1 G 211 94 [.ref 35, .int b, .int dx, .int dy, .long s, ez_fill, .int k, .int x, .int y] [.int v] (ev_hp I J R T) cz kz = bif decide (v = 0) then G 211 132 [.ref 35, .int b, .int dx, .int dy, .long s, ez_fill, .int k, .int x, .int y] [] (ev_hp I J R T) cz kz else G 211 97 [.ref 35, .int b, .int dx, .int dy, .long s, ez_fill, .int k, .int x, .int y] [] (ev_hp I J R T) cz kz := by
  intro G
  rfl
theorem eh_mv_rB (s : Int64) (k x y : Int32) (cz kz : Nat) : ∀ G : ez_F, fx_up X 9 G 211 97 [.ref 35, .int b, .int dx, .int dy, .long s, ez_fill, .int k, .int x, .int y] [] (ev_hp I J R T) cz kz = ev_C G 198 [.long y.toInt64, .long 0, .long (I 35 1 - 1).toInt64] (ev_hp I J R T) fun r h1 c1 k1 => G 211 111 [.ref 35, .int b, .int dx, .int dy, .long s, ez_fill, .int k, .int x, .int y] (r.toList ++ []) h1 (cz + c1) (kz + k1) := by
  intro G
  rfl
theorem eh_mv_rC (s : Int64) (k x y v : Int32) (cz kz : Nat) : ∀ G : ez_F, fx_up X 1 G 211 111 [.ref 35, .int b, .int dx, .int dy, .long s, ez_fill, .int k, .int x, .int y] [.int v] (ev_hp I J R T) cz kz = bif decide (v = 0) then G 211 132 [.ref 35, .int b, .int dx, .int dy, .long s, ez_fill, .int k, .int x, .int y] [] (ev_hp I J R T) cz kz else G 211 114 [.ref 35, .int b, .int dx, .int dy, .long s, ez_fill, .int k, .int x, .int y] [] (ev_hp I J R T) cz kz := by
  intro G
  rfl
theorem eh_mv_rD (s : Int64) (k x y : Int32) (cz kz : Nat) : ∀ G : ez_F, fx_up X 8 G 211 114 [.ref 35, .int b, .int dx, .int dy, .long s, ez_fill, .int k, .int x, .int y] [] (ev_hp I J R T) cz kz = ev_C G 197 [.long s, .int (I 35 0 * y + x)] (ev_hp I J R T) fun r h1 c1 k1 => G 211 129 [.ref 35, .int b, .int dx, .int dy, .long s, ez_fill, .int k, .int x, .int y] (r.toList ++ []) h1 (cz + c1) (kz + k1) := by
  intro G
  rfl
theorem eh_mv_rE (s : Int64) (k x y v : Int32) (cz kz : Nat) : ∀ G : ez_F, fx_up X 1 G 211 129 [.ref 35, .int b, .int dx, .int dy, .long s, ez_fill, .int k, .int x, .int y] [.int v] (ev_hp I J R T) cz kz = bif decide (v = 0) then G 211 134 [.ref 35, .int b, .int dx, .int dy, .long s, ez_fill, .int k, .int x, .int y] [] (ev_hp I J R T) cz kz else G 211 132 [.ref 35, .int b, .int dx, .int dy, .long s, ez_fill, .int k, .int x, .int y] [] (ev_hp I J R T) cz kz := by
  intro G
  rfl
theorem eh_mv_rF (s : Int64) (k x y : Int32) (cz kz : Nat) : ∀ G : ez_F, fx_up X 2 G 211 132 [.ref 35, .int b, .int dx, .int dy, .long s, ez_fill, .int k, .int x, .int y] [] (ev_hp I J R T) cz kz = some (some (.long 0), ev_hp I J R T, cz, kz) := by
  intro G
  rfl
set_option maxRecDepth 100000 in
theorem eh_mv_rG (s : Int64) (k x y : Int32) (cz kz : Nat) : ∀ G : ez_F, fx_up X 11 G 211 134 [.ref 35, .int b, .int dx, .int dy, .long s, ez_fill, .int k, .int x, .int y] [] (ev_hp I J R T) cz kz = G 211 151 [.ref 35, .int b, .int dx, .int dy, .long (s ||| (1 <<< ((I 35 0 * y + x).toInt64 &&& 63))), ez_fill, .int k, .int x, .int y] [] (ev_hp I J R T) cz kz := by
  intro G
  rfl
theorem eh_mv_rH (s : Int64) (k : Int32) (cz kz : Nat) : ∀ G : ez_F, fx_up X 2 G 211 151 [.ref 35, .int b, .int dx, .int dy, .long s, ez_fill, .int k] [] (ev_hp I J R T) cz kz = G 211 6 [.ref 35, .int b, .int dx, .int dy, .long s, ez_fill, .int (k + 1)] [] (ev_hp I J R T) cz kz := by
  intro G
  rfl
theorem eh_mv_l (hW : ¬ I 35 0 = 0) (hH : ¬ I 35 1 = 0) : ∀ (r : Nat) (k : Int32) (s : Int64) (cz kz : Nat), k.toInt + (r : Int) = 16 → 0 ≤ k.toInt →
    ev_W X 211 6 [.ref 35, .int b, .int dx, .int dy, .long s, ez_fill, .int k] [] (ev_hp I J R T) cz kz (fun q h' c' k' => q = some (.long (mv_F (I 35 0) (I 35 1) (I 35 2) b dx dy r k s)) ∧ h' = ev_hp I J R T ∧ c' = cz ∧ k' = kz) := by
  have e16 : (16 : Int32).toInt = 16 := by decide
  intro r
  induction r with
  | zero =>
    intro k s cz kz hk h0
    refine ev_if (eh_mv_r1 X I J R T b dx dy s k _ _) (fun _ => ev_ret (eh_mv_r2 X I J R T b dx dy s k _ _) ⟨rfl, rfl, rfl, rfl⟩) (fun ht => ?_)
    exact absurd (Int32.le_iff_toInt_le.mpr (by rw [e16]; omega)) (of_decide_eq_false ht)
  | succ r ih =>
    intro k s cz kz hk h0
    have hk1 : (k + 1).toInt = k.toInt + 1 := by
      rw [Int32.toInt_add, show (1 : Int32).toInt = 1 from by decide, cx_bm32]
      simp only [cx_i32]
      omega
    refine ev_if (eh_mv_r1 X I J R T b dx dy s k _ _) (fun ht => ?_) (fun _ => ?_)
    · have := Int32.le_iff_toInt_le.mp (of_decide_eq_true ht)
      rw [e16] at this
      omega
    refine ev_call (eh_mv_r3 X I J R T b dx dy s k _ _) (em_has X _ _ _) ?_
    rintro _ _ _ _ ⟨rfl, rfl, rfl, rfl⟩
    unfold mv_F
    refine ev_if (eh_mv_r4 X I J R T b dx dy s k _ _ _) (fun ht => ?_) (fun ht => ?_)
    · rw [if_pos (of_decide_eq_true ht)]
      refine ev_seg (eh_mv_rH X I J R T b dx dy s k _ _) ?_
      exact ih (k + 1) s _ _ (by omega) (by omega)
    · rw [if_neg (of_decide_eq_false ht)]
      -- behind the coordinates
      have rest : ∀ (cz kz : Nat), ev_W X 211 80 [.ref 35, .int b, .int dx, .int dy, .long s, ez_fill, .int k, .int (mv_c (I 35 0) (I 35 2) (k - k / 4 * 4 + dx)), .int (mv_c (I 35 1) (I 35 2) (k / 4 + dy))] [] (ev_hp I J R T) cz kz (fun q h' c' k' => q = some (.long (if ev_il (mv_c (I 35 0) (I 35 2) (k - k / 4 * 4 + dx)).toInt64 0 (I 35 0 - 1).toInt64 = 0 then 0 else
          if ev_il (mv_c (I 35 1) (I 35 2) (k / 4 + dy)).toInt64 0 (I 35 1 - 1).toInt64 = 0 then 0 else
          if ev_has s (I 35 0 * mv_c (I 35 1) (I 35 2) (k / 4 + dy) + mv_c (I 35 0) (I 35 2) (k - k / 4 * 4 + dx)) = 0 then
            mv_F (I 35 0) (I 35 1) (I 35 2) b dx dy r (k + 1) (s ||| (1 <<< ((I 35 0 * mv_c (I 35 1) (I 35 2) (k / 4 + dy) + mv_c (I 35 0) (I 35 2) (k - k / 4 * 4 + dx)).toInt64 &&& 63))) else 0)) ∧ h' = ev_hp I J R T ∧ c' = cz ∧ k' = kz) := by
        intro cz kz
        generalize mv_c (I 35 0) (I 35 2) (k - k / 4 * 4 + dx) = x
        generalize mv_c (I 35 1) (I 35 2) (k / 4 + dy) = y
        refine ev_call (eh_mv_r9 X I J R T b dx dy s k x y _ _) (ec_in X _ _ _ _) ?_
        rintro _ _ _ _ ⟨rfl, rfl, rfl, rfl⟩
        refine ev_if (eh_mv_rA X I J R T b dx dy s k x y _ _ _) (fun ht => ?_) (fun ht => ?_)
        · rw [if_pos (of_decide_eq_true ht)]
          exact ev_ret (eh_mv_rF X I J R T b dx dy s k x y _ _) ⟨rfl, rfl, rfl, rfl⟩
        rw [if_neg (of_decide_eq_false ht)]
        refine ev_call (eh_mv_rB X I J R T b dx dy s k x y _ _) (ec_in X _ _ _ _) ?_
        rintro _ _ _ _ ⟨rfl, rfl, rfl, rfl⟩
        refine ev_if (eh_mv_rC X I J R T b dx dy s k x y _ _ _) (fun ht => ?_) (fun ht => ?_)
        · rw [if_pos (of_decide_eq_true ht)]
          exact ev_ret (eh_mv_rF X I J R T b dx dy s k x y _ _) ⟨rfl, rfl, rfl, rfl⟩
        rw [if_neg (of_decide_eq_false ht)]
        refine ev_call (eh_mv_rD X I J R T b dx dy s k x y _ _) (em_has X _ _ _) ?_
        rintro _ _ _ _ ⟨rfl, rfl, rfl, rfl⟩
        refine ev_if (eh_mv_rE X I J R T b dx dy s k x y _ _ _) (fun ht => ?_) (fun ht => ?_)
        · rw [if_pos (of_decide_eq_true ht)]
          refine ev_seg (eh_mv_rG X I J R T b dx dy s k x y _ _) ?_
          refine ev_cutl (by rfl) ?_
          refine ev_seg (eh_mv_rH X I J R T b dx dy _ k _ _) ?_
          exact ih (k + 1) _ _ _ (by omega) (by omega)
        · rw [if_neg (of_decide_eq_false ht)]
          exact ev_ret (eh_mv_rF X I J R T b dx dy s k x y _ _) ⟨rfl, rfl, rfl, rfl⟩
      refine ev_if (eh_mv_r5 X I J R T b dx dy s k _ _) (fun hw => ?_) (fun hw => ?_)
      · have hw := of_decide_eq_true hw
        have z := rest (cz + 0) (kz + 0)
        rw [show mv_c (I 35 0) (I 35 2) (k - k / 4 * 4 + dx) = k - k / 4 * 4 + dx from if_pos hw, show mv_c (I 35 1) (I 35 2) (k / 4 + dy) = k / 4 + dy from if_pos hw] at z ⊢
        exact z
      · have hw := of_decide_eq_false hw
        refine ev_seg (eh_mv_r6 X I J R T b dx dy s k _ _ _ _) ?_
        refine ev_irem (by rfl) hW ?_
        refine ev_seg (eh_mv_r7 X I J R T b dx dy s k _ _ _ _ _) ?_
        refine ev_irem (by rfl) hH ?_
        refine ev_seg (eh_mv_r8 X I J R T b dx dy s k _ _ _ _ _) ?_
        have z := rest (cz + 0) (kz + 0)
        rw [show mv_c (I 35 0) (I 35 2) (k - k / 4 * 4 + dx) = (k - k / 4 * 4 + dx + 12 * I 35 0) - (k - k / 4 * 4 + dx + 12 * I 35 0) / I 35 0 * I 35 0 from if_neg hw, show mv_c (I 35 1) (I 35 2) (k / 4 + dy) = (k / 4 + dy + 12 * I 35 1) - (k / 4 + dy + 12 * I 35 1) / I 35 1 * I 35 1 from if_neg hw] at z ⊢
        exact z
theorem eh_mv (hW : ¬ I 35 0 = 0) (hH : ¬ I 35 1 = 0) : ev_W X 211 0 (ez_lay [.ref 35, .int b, .int dx, .int dy]) [] (ev_hp I J R T) 0 0 (ev_is (some (.long (mv_F (I 35 0) (I 35 1) (I 35 2) b dx dy 16 0 0))) (ev_hp I J R T)) := by
  refine ev_seg (eh_mv_r0 X I J R T b dx dy _ _) ?_
  exact eh_mv_l X I J R T b dx dy hW hH 16 0 0 _ _ (by decide) (by decide)
end
end
section
/-! A shape that is moved depends on the move's remainders alone, where it has a place. -/
noncomputable def mv_ds : List Int := [-4, -3, -2, -1, 0, 1, 2, 3, 4, 5]
noncomputable def mv_as : List Int := [0, 1, 2, 3]
theorem mv_tab : (([2, 3, 4, 5, 6] : List Int).all fun W => mv_ds.all fun d => mv_ds.all fun e => mv_as.all fun a => (!decide ((d - e) % W = 0)) || decide (mv_c (Int32.ofInt W) 1 (Int32.ofInt a + Int32.ofInt d) = mv_c (Int32.ofInt W) 1 (Int32.ofInt a + Int32.ofInt e))) = true := by decide +kernel
theorem mv_tab_s {W d e a : Int32} (hW : 2 ≤ W.toInt ∧ W.toInt ≤ 6) (hd : -4 ≤ d.toInt ∧ d.toInt ≤ 5) (he : -4 ≤ e.toInt ∧ e.toInt ≤ 5) (ha : 0 ≤ a.toInt ∧ a.toInt ≤ 3) (h : (d.toInt - e.toInt) % W.toInt = 0) : mv_c W 1 (a + d) = mv_c W 1 (a + e) := by
  have h1 := List.all_eq_true.mp mv_tab W.toInt (by simp; omega)
  have h2 := List.all_eq_true.mp h1 d.toInt (by simp [mv_ds]; omega)
  have h3 := List.all_eq_true.mp h2 e.toInt (by simp [mv_ds]; omega)
  have h4 := List.all_eq_true.mp h3 a.toInt (by simp [mv_as]; omega)
  rw [← ev_ofInt W, ← ev_ofInt d, ← ev_ofInt e, ← ev_ofInt a] at h4
  rcases Bool.or_eq_true_iff.mp h4 with h5 | h5
  · rw [decide_eq_true h] at h5
    cases h5
  · exact of_decide_eq_true h5
theorem mv_k4 : ((List.range 16).all fun j => decide (0 ≤ (Int32.ofNat j - Int32.ofNat j / 4 * 4).toInt) && (decide ((Int32.ofNat j - Int32.ofNat j / 4 * 4).toInt ≤ 3) && (decide (0 ≤ (Int32.ofNat j / 4).toInt) && decide ((Int32.ofNat j / 4).toInt ≤ 3)))) = true := by decide +kernel
theorem mv_k4_s {k : Int32} (h0 : 0 ≤ k.toInt) (h1 : k.toInt < 16) : (0 ≤ (k - k / 4 * 4).toInt ∧ (k - k / 4 * 4).toInt ≤ 3) ∧ (0 ≤ (k / 4).toInt ∧ (k / 4).toInt ≤ 3) := by
  have h2 := List.all_eq_true.mp mv_k4 k.toInt.toNat (List.mem_range.mpr (by omega))
  have e : Int32.ofNat k.toInt.toNat = k := cx_i32_eq (by rw [Int32.toInt_ofNat_of_lt (by omega)]; omega)
  rw [e] at h2
  simp only [Bool.and_eq_true, decide_eq_true_eq] at h2
  exact ⟨⟨h2.1, h2.2.1⟩, h2.2.2.1, h2.2.2.2⟩
theorem mv_k1 {k : Int32} (h0 : 0 ≤ k.toInt) (h1 : k.toInt < 16) : (k + 1).toInt = k.toInt + 1 := by
  rw [Int32.toInt_add, show (1 : Int32).toInt = 1 from by decide, cx_bm32]
  simp only [cx_i32]
  omega
section
variable {W H b dx dy ex ey : Int32}
theorem mv_wrap (hW : 2 ≤ W.toInt ∧ W.toInt ≤ 6) (hH : 2 ≤ H.toInt ∧ H.toInt ≤ 6) (h1 : -4 ≤ dx.toInt ∧ dx.toInt ≤ 5) (h2 : -4 ≤ dy.toInt ∧ dy.toInt ≤ 5) (h3 : -4 ≤ ex.toInt ∧ ex.toInt ≤ 5) (h4 : -4 ≤ ey.toInt ∧ ey.toInt ≤ 5)
    (hx : (dx.toInt - ex.toInt) % W.toInt = 0) (hy : (dy.toInt - ey.toInt) % H.toInt = 0) : ∀ (r : Nat) (k : Int32) (s : Int64), 0 ≤ k.toInt → k.toInt + (r : Int) ≤ 16 → mv_F W H 1 b dx dy r k s = mv_F W H 1 b ex ey r k s := by
  intro r
  induction r with
  | zero => intro k s _ _; rfl
  | succ r ih =>
    intro k s h0 hk
    have hk1 := mv_k1 h0 (by omega)
    obtain ⟨ka, kb⟩ := mv_k4_s h0 (by omega)
    unfold mv_F
    rw [mv_tab_s hW h1 h3 ka hx, mv_tab_s hH h2 h4 kb hy]
    split
    · exact ih (k + 1) s (by omega) (by omega)
    split
    · rfl
    split
    · rfl
    split
    · exact ih (k + 1) _ (by omega) (by omega)
    · rfl
theorem mv_il {v w : Int32} (h : ¬ ev_il v.toInt64 0 (w - 1).toInt64 = 0) : 0 ≤ v.toInt ∧ v.toInt ≤ (w - 1).toInt := by
  have e : (0 : Int64) = (0 : Int32).toInt64 := by decide
  rw [e, ev_il_wi] at h
  have h2 := ev_wi_ne h
  have e0 : (0 : Int32).toInt = 0 := by decide
  rw [e0] at h2
  exact h2
theorem mv_w1 (hW : 2 ≤ W.toInt ∧ W.toInt ≤ 6) : (W - 1).toInt = W.toInt - 1 := by
  rw [Int32.toInt_sub, show (1 : Int32).toInt = 1 from by decide, cx_bm32]
  simp only [cx_i32]
  omega
theorem mv_ad {a d : Int32} (ha : 0 ≤ a.toInt ∧ a.toInt ≤ 3) (hd : -4 ≤ d.toInt ∧ d.toInt ≤ 5) : (a + d).toInt = a.toInt + d.toInt := by
  rw [Int32.toInt_add, cx_bm32]
  simp only [cx_i32]
  omega
/-- where a shape has a place without wrapping, each of its cells lies on the paper -/
theorem mv_flat (hW : 2 ≤ W.toInt ∧ W.toInt ≤ 6) (hH : 2 ≤ H.toInt ∧ H.toInt ≤ 6) (h1 : -4 ≤ dx.toInt ∧ dx.toInt ≤ 5) (h2 : -4 ≤ dy.toInt ∧ dy.toInt ≤ 5) : ∀ (r : Nat) (k : Int32) (s : Int64), 0 ≤ k.toInt → k.toInt + (r : Int) ≤ 16 → ¬ mv_F W H 0 b dx dy r k s = 0 →
    ∀ q : Int32, k.toInt ≤ q.toInt → q.toInt < k.toInt + r → ¬ ev_has b.toInt64 q = 0 → (0 ≤ (q - q / 4 * 4).toInt + dx.toInt ∧ (q - q / 4 * 4).toInt + dx.toInt ≤ W.toInt - 1) ∧ (0 ≤ (q / 4).toInt + dy.toInt ∧ (q / 4).toInt + dy.toInt ≤ H.toInt - 1) := by
  intro r
  induction r with
  | zero => intro k s _ _ _ q hq1 hq2; omega
  | succ r ih =>
    intro k s h0 hk hne q hq1 hq2 hb
    have hk1 := mv_k1 h0 (by omega)
    obtain ⟨ka, kb⟩ := mv_k4_s h0 (by omega)
    unfold mv_F at hne
    by_cases hqk : q.toInt = k.toInt
    · obtain rfl := cx_i32_eq hqk
      rw [if_neg hb] at hne
      split at hne
      · exact absurd rfl hne
      rename_i c1
      split at hne
      · exact absurd rfl hne
      rename_i c2
      have d1 := mv_il c1
      have d2 := mv_il c2
      rw [show mv_c W 0 (q - q / 4 * 4 + dx) = q - q / 4 * 4 + dx from if_pos rfl, mv_w1 hW, mv_ad ka h1] at d1
      rw [show mv_c H 0 (q / 4 + dy) = q / 4 + dy from if_pos rfl, mv_w1 hH, mv_ad kb h2] at d2
      exact ⟨d1, d2⟩
    · split at hne
      · exact ih (k + 1) s (by omega) (by omega) hne q (by omega) (by omega) hb
      split at hne
      · exact absurd rfl hne
      split at hne
      · exact absurd rfl hne
      split at hne
      · exact ih (k + 1) _ (by omega) (by omega) hne q (by omega) (by omega) hb
      · exact absurd rfl hne
theorem mv_none {wr : Int32} : ∀ (r : Nat) (k : Int32) (s : Int64), 0 ≤ k.toInt → k.toInt + (r : Int) ≤ 16 → (∀ q : Int32, k.toInt ≤ q.toInt → q.toInt < k.toInt + r → ev_has b.toInt64 q = 0) → mv_F W H wr b dx dy r k s = s := by
  intro r
  induction r with
  | zero => intro k s _ _ _; rfl
  | succ r ih =>
    intro k s h0 hk hq
    have hk1 := mv_k1 h0 (by omega)
    unfold mv_F
    rw [if_pos (hq k (by omega) (by omega))]
    exact ih (k + 1) s (by omega) (by omega) fun q h1 h2 => hq q (by omega) (by omega)
theorem mv_rem {a d e w : Int} (hw : 2 ≤ w ∧ w ≤ 6) (h : (d - e) % w = 0) (h1 : 0 ≤ a + d) (h2 : a + d ≤ w - 1) (h3 : 0 ≤ a + e) (h4 : a + e ≤ w - 1) : d = e := by
  rcases (show w = 2 ∨ w = 3 ∨ w = 4 ∨ w = 5 ∨ w = 6 by omega) with rfl | rfl | rfl | rfl | rfl <;> omega
theorem mv_same {wr : Int32} (hwr : wr = 0 ∨ wr = 1) (hW : 2 ≤ W.toInt ∧ W.toInt ≤ 6) (hH : 2 ≤ H.toInt ∧ H.toInt ≤ 6) (h1 : -4 ≤ dx.toInt ∧ dx.toInt ≤ 5) (h2 : -4 ≤ dy.toInt ∧ dy.toInt ≤ 5) (h3 : -4 ≤ ex.toInt ∧ ex.toInt ≤ 5) (h4 : -4 ≤ ey.toInt ∧ ey.toInt ≤ 5)
    (hx : (dx.toInt - ex.toInt) % W.toInt = 0) (hy : (dy.toInt - ey.toInt) % H.toInt = 0) (n1 : ¬ mv_F W H wr b dx dy 16 0 0 = 0) (n2 : ¬ mv_F W H wr b ex ey 16 0 0 = 0) : mv_F W H wr b dx dy 16 0 0 = mv_F W H wr b ex ey 16 0 0 := by
  have e0 : (0 : Int32).toInt = 0 := by decide
  rcases hwr with rfl | rfl
  · have hex : ∃ q : Int32, (0 : Int32).toInt ≤ q.toInt ∧ q.toInt < (0 : Int32).toInt + ((16 : Nat) : Int) ∧ ¬ ev_has b.toInt64 q = 0 := by
      apply Classical.byContradiction
      intro hn
      exact n1 (mv_none 16 0 0 (by decide) (by decide) fun q q1 q2 => Classical.byContradiction fun q3 => hn ⟨q, q1, q2, q3⟩)
    obtain ⟨q, q1, q2, q3⟩ := hex
    obtain ⟨a1, a2⟩ := mv_flat hW hH h1 h2 16 0 0 (by decide) (by decide) n1 q q1 q2 q3
    obtain ⟨b1, b2⟩ := mv_flat hW hH h3 h4 16 0 0 (by decide) (by decide) n2 q q1 q2 q3
    obtain rfl := cx_i32_eq (mv_rem hW hx a1.1 a1.2 b1.1 b1.2)
    obtain rfl := cx_i32_eq (mv_rem hH hy a2.1 a2.2 b2.1 b2.2)
    rfl
  · exact mv_wrap hW hH h1 h2 h3 h4 hx hy 16 0 0 (by decide) (by decide)
end
end
section
/-! The reference finds the spots of a ship: never more than 288. -/
noncomputable def cs_k : cx_K := (([(2, 35), (0, 0)], [], [(0, 2)], [], [], []), [], [])
noncomputable def cs_k_A : List (Nat × cx_A) := [(35, ([(2, 35), (0, 0), (0, 1), (0, 2), (0, 3)], [], [(0, 2), (0, 0), (1, 8), (0, 0)], [], [], []), [])]
noncomputable def cs_k_G : List (Nat × cx_K) := []
theorem cs_k_g : ∀ g ∈ cs_k_G, cx_valid cx_B0 g.1 g.2 := cx_Gn
set_option maxRecDepth 1000000 in
theorem cs_k_v : cx_run false cx_B0 cs_k_G cs_k 190 (cx_fAn cs_k_A) none 22 false 0 cs_k.1 = true := by decide +kernel
noncomputable def cs_o : cx_K := (([(2, 35), (0, 0), (0, 1), (0, 2), (0, 3)], [], [(0, 2), cx_i32, cx_i32, cx_i32], [], [], []), [], [])
noncomputable def cs_o_A : List (Nat × cx_A) := [(57, ([(2, 35), (0, 0), (0, 1), (0, 2), (0, 3), (0, 4), (0, 5)], [], [(0, 2), cx_i32, cx_i32, cx_i32, cx_i32, (0, 0)], [], [], []), [])]
noncomputable def cs_o_G : List (Nat × cx_K) := [(230, ck_230_0)]
theorem cs_o_g : ∀ g ∈ cs_o_G, cx_valid cx_B0 g.1 g.2 := (cx_Gc cv_230_0 cx_Gn)
set_option maxRecDepth 1000000 in
theorem cs_o_v : cx_run false cx_B0 cs_o_G cs_o 190 (cx_fAn cs_o_A) none 13 false 41 cs_o.1 = true := by decide +kernel
noncomputable def cq_fs : cx_K := (([(2, 35), (0, 0), (0, 1), (0, 2), (0, 3)], [], [(0, 2), (0, 300), cx_i32, cx_i32], [], [], []), [(40, 999)], [([], [], [(0, 2), (0, 300), cx_i32, cx_i32], [], [], [])])
set_option maxRecDepth 1000000 in
theorem cq_fs_v : cx_validp cx_B0 190 252 cq_fs := cx_chkp_s (G := [(165, ck_165_0)]) (An := [(255, ([(2, 35), (0, 0), (0, 1), (0, 2), (0, 4)], [], [(0, 2), (0, 300), cx_i32, cx_i32, (0, 300)], [], [], []), [(0, 99745), (1, 4)])]) (n := 29) cx_hA0 (cx_Gc cv_165_0 cx_Gn) (by decide +kernel)
theorem fs_pig : ∀ (n : Nat) (L : List Nat), L.Nodup → (∀ r ∈ L, r < n) → L.length ≤ n := by
  intro n
  induction n with
  | zero =>
    intro L _ h
    cases L with
    | nil => exact Nat.le_refl _
    | cons a t => exact absurd (h a List.mem_cons_self) (Nat.not_lt_zero _)
  | succ n ih =>
    intro L hd h
    have h1 := ih (L.erase n) (hd.erase n) (fun r hr => by
      have h2 := hd.mem_erase_iff.mp hr
      have h3 := h r h2.2
      have h4 := h2.1
      omega)
    by_cases hn : n ∈ L
    · rw [List.length_erase_of_mem hn] at h1
      omega
    · rw [List.erase_of_not_mem hn] at h1
      omega
theorem fs_300 {s k : Int32} (hs : 0 ≤ s.toInt ∧ s.toInt ≤ 2) (hk : 0 ≤ k.toInt ∧ k.toInt ≤ 300) : (300 * s + k).toInt = 300 * s.toInt + k.toInt := by
  have e : (300 * s).toInt = 300 * s.toInt := by
    rw [Int32.toInt_mul, show (300 : Int32).toInt = 300 from by decide, cx_bm32]
    simp only [cx_i32]
    omega
  rw [Int32.toInt_add, e, cx_bm32]
  simp only [cx_i32]
  omega
theorem fs_301 {s k : Int32} (hs : 0 ≤ s.toInt ∧ s.toInt ≤ 2) (hk : 0 ≤ k.toInt ∧ k.toInt ≤ 300) : (300 * s + k - 1).toInt = 300 * s.toInt + k.toInt - 1 := by
  rw [Int32.toInt_sub, fs_300 hs hk, show (1 : Int32).toInt = 1 from by decide, cx_bm32]
  simp only [cx_i32]
  omega
theorem fs_ixs {x : Int32} {n : Nat} (h0 : 0 ≤ x.toInt) (h1 : x.toInt < n) : ev_ix x n := by
  have e0 : (0 : Int32).toInt = 0 := by decide
  refine ⟨fun z => ?_, ?_⟩
  · have := Int32.lt_iff_toInt_lt.mp z
    omega
  · have e2 : x.toNatClampNeg = x.toInt.toNat := rfl
    omega
theorem fs_get (I : Nat → Nat → Int32) (J : Nat → Nat → Int64) (R : Nat → Nat) (T : List ez_C) (f : Nat → Int64) : (ev_hp I (ev_sJ J 39 f) R T)[39]? = some (.inl (900, .inr (.inl f))) := by
  rw [cx_getJ (show cx_Ds[39]? = some (1, 900, []) from rfl), cx_sJ_s]
theorem fs_sJ2 (J : Nat → Nat → Int64) (a : Nat) (f g : Nat → Int64) : ev_sJ (ev_sJ J a f) a g = ev_sJ J a g := by
  funext q
  by_cases h : q = a
  · subst h; rw [cx_sJ_s, cx_sJ_s]
  · rw [cx_sJ_n _ _ h, cx_sJ_n _ _ h, cx_sJ_n _ _ h]
theorem fs_set (I : Nat → Nat → Int32) (J : Nat → Nat → Int64) (R : Nat → Nat) (T : List ez_C) (f g : Nat → Int64) : (ev_hp I (ev_sJ J 39 f) R T).set 39 (.inl (900, .inr (.inl g))) = ev_hp I (ev_sJ J 39 g) R T := by
  rw [cx_setJ (show cx_Ds[39]? = some (1, 900, []) from rfl) g, fs_sJ2]
section
variable (X : ez_X) (I : Nat → Nat → Int32) (J : Nat → Nat → Int64) (R : Nat → Nat) (T : List ez_C) (s n kd t as m : Int32)
theorem fs_r1 (cz kz : Nat) : ∀ G : ez_F, fx_up X 3 G 190 57 [.ref 35, .int s, .int n, .int kd, .int t, .int as, .int m] [] (ev_hp I J R T) cz kz = bif decide (100 ≤ m) then G 190 239 [.ref 35, .int s, .int n, .int kd, .int t, .int as, .int m] [] (ev_hp I J R T) cz kz else G 190 64 [.ref 35, .int s, .int n, .int kd, .int t, .int as, .int m] [] (ev_hp I J R T) cz kz := by
  intro G
  rfl
set_option maxRecDepth 100000 in
theorem fs_r2 (cz kz : Nat) : ∀ G : ez_F, fx_up X 13 G 190 64 [.ref 35, .int s, .int n, .int kd, .int t, .int as, .int m] [] (ev_hp I J R T) cz kz = ev_C G 211 [.ref 35, .int as, .int (m - m / 10 * 10 - 4), .int (m / 10 - 4)] (ev_hp I J R T) fun r h1 c1 k1 => G 190 84 [.ref 35, .int s, .int n, .int kd, .int t, .int as, .int m] (r.toList ++ []) h1 (cz + c1) (kz + k1) := by
  intro G
  rfl
theorem fs_r3 (v : Int64) (cz kz : Nat) : ∀ G : ez_F, fx_up X 3 G 190 84 [.ref 35, .int s, .int n, .int kd, .int t, .int as, .int m] [.long v] (ev_hp I J R T) cz kz = G 190 89 [.ref 35, .int s, .int n, .int kd, .int t, .int as, .int m, .long v, ez_fill, .int n] [] (ev_hp I J R T) cz kz := by
  intro G
  rfl
theorem fs_r4 (v : Int64) (k : Int32) (cz kz : Nat) : ∀ G : ez_F, fx_up X 2 G 190 89 [.ref 35, .int s, .int n, .int kd, .int t, .int as, .int m, .long v, ez_fill, .int k] [] (ev_hp I J R T) cz kz = bif decide (k ≤ 0) then G 190 121 [.ref 35, .int s, .int n, .int kd, .int t, .int as, .int m, .long v, ez_fill, .int k] [] (ev_hp I J R T) cz kz else G 190 94 [.ref 35, .int s, .int n, .int kd, .int t, .int as, .int m, .long v, ez_fill, .int k] [] (ev_hp I J R T) cz kz := by
  intro G
  rfl
theorem fs_r5 (v : Int64) (k : Int32) (cz kz : Nat) : ∀ G : ez_F, fx_up X 9 G 190 94 [.ref 35, .int s, .int n, .int kd, .int t, .int as, .int m, .long v, ez_fill, .int k] [] (ev_hp I J R T) cz kz = G 190 108 [.ref 35, .int s, .int n, .int kd, .int t, .int as, .int m, .long v, ez_fill, .int k] [.int (300 * s + k - 1), .ref 39] (ev_hp I J R T) cz kz := by
  intro G
  rfl
theorem fs_r6 (v u : Int64) (k : Int32) (cz kz : Nat) : ∀ G : ez_F, fx_up X 3 G 190 109 [.ref 35, .int s, .int n, .int kd, .int t, .int as, .int m, .long v, ez_fill, .int k] [.long u] (ev_hp I J R T) cz kz = bif decide (lg_cmp u v ≤ 0) then G 190 121 [.ref 35, .int s, .int n, .int kd, .int t, .int as, .int m, .long v, ez_fill, .int k] [] (ev_hp I J R T) cz kz else G 190 115 [.ref 35, .int s, .int n, .int kd, .int t, .int as, .int m, .long v, ez_fill, .int k] [] (ev_hp I J R T) cz kz := by
  intro G
  rfl
theorem fs_r7 (v : Int64) (k : Int32) (cz kz : Nat) : ∀ G : ez_F, fx_up X 2 G 190 115 [.ref 35, .int s, .int n, .int kd, .int t, .int as, .int m, .long v, ez_fill, .int k] [] (ev_hp I J R T) cz kz = G 190 89 [.ref 35, .int s, .int n, .int kd, .int t, .int as, .int m, .long v, ez_fill, .int (k + Int32.ofInt (-1))] [] (ev_hp I J R T) cz kz := by
  intro G
  rfl
theorem fs_r8 (v : Int64) (k : Int32) (cz kz : Nat) : ∀ G : ez_F, fx_up X 4 G 190 121 [.ref 35, .int s, .int n, .int kd, .int t, .int as, .int m, .long v, ez_fill, .int k] [] (ev_hp I J R T) cz kz = bif decide (lg_cmp v 0 = 0) then G 190 158 [.ref 35, .int s, .int n, .int kd, .int t, .int as, .int m, .long v, ez_fill, .int k] [] (ev_hp I J R T) cz kz else G 190 128 [.ref 35, .int s, .int n, .int kd, .int t, .int as, .int m, .long v, ez_fill, .int k] [] (ev_hp I J R T) cz kz := by
  intro G
  rfl
theorem fs_r9 (v : Int64) (k : Int32) (cz kz : Nat) : ∀ G : ez_F, fx_up X 2 G 190 128 [.ref 35, .int s, .int n, .int kd, .int t, .int as, .int m, .long v, ez_fill, .int k] [] (ev_hp I J R T) cz kz = bif decide (k = 0) then G 190 154 [.ref 35, .int s, .int n, .int kd, .int t, .int as, .int m, .long v, ez_fill, .int k] [] (ev_hp I J R T) cz kz else G 190 133 [.ref 35, .int s, .int n, .int kd, .int t, .int as, .int m, .long v, ez_fill, .int k] [] (ev_hp I J R T) cz kz := by
  intro G
  rfl
theorem fs_rA (v : Int64) (k : Int32) (cz kz : Nat) : ∀ G : ez_F, fx_up X 9 G 190 133 [.ref 35, .int s, .int n, .int kd, .int t, .int as, .int m, .long v, ez_fill, .int k] [] (ev_hp I J R T) cz kz = G 190 147 [.ref 35, .int s, .int n, .int kd, .int t, .int as, .int m, .long v, ez_fill, .int k] [.int (300 * s + k - 1), .ref 39] (ev_hp I J R T) cz kz := by
  intro G
  rfl
theorem fs_rB (v u : Int64) (k : Int32) (cz kz : Nat) : ∀ G : ez_F, fx_up X 3 G 190 148 [.ref 35, .int s, .int n, .int kd, .int t, .int as, .int m, .long v, ez_fill, .int k] [.long u] (ev_hp I J R T) cz kz = bif decide (lg_cmp u v = 0) then G 190 158 [.ref 35, .int s, .int n, .int kd, .int t, .int as, .int m, .long v, ez_fill, .int k] [] (ev_hp I J R T) cz kz else G 190 154 [.ref 35, .int s, .int n, .int kd, .int t, .int as, .int m, .long v, ez_fill, .int k] [] (ev_hp I J R T) cz kz := by
  intro G
  rfl
theorem fs_rC (v : Int64) (k : Int32) (cz kz : Nat) : ∀ G : ez_F, fx_up X 5 G 190 154 [.ref 35, .int s, .int n, .int kd, .int t, .int as, .int m, .long v, ez_fill, .int k] [] (ev_hp I J R T) cz kz = G 190 164 [.ref 35, .int s, .int n, .int kd, .int t, .int as, .int m, .long v, ez_fill, .int k, .int 1, .int n] [] (ev_hp I J R T) cz kz := by
  intro G
  rfl
theorem fs_rD (v : Int64) (k : Int32) (cz kz : Nat) : ∀ G : ez_F, fx_up X 4 G 190 158 [.ref 35, .int s, .int n, .int kd, .int t, .int as, .int m, .long v, ez_fill, .int k] [] (ev_hp I J R T) cz kz = G 190 164 [.ref 35, .int s, .int n, .int kd, .int t, .int as, .int m, .long v, ez_fill, .int k, .int 0, .int n] [] (ev_hp I J R T) cz kz := by
  intro G
  rfl
theorem fs_rE (v : Int64) (k w i : Int32) (cz kz : Nat) : ∀ G : ez_F, fx_up X 3 G 190 164 [.ref 35, .int s, .int n, .int kd, .int t, .int as, .int m, .long v, ez_fill, .int k, .int w, .int i] [] (ev_hp I J R T) cz kz = bif decide (i ≤ k) then G 190 210 [.ref 35, .int s, .int n, .int kd, .int t, .int as, .int m, .long v, ez_fill, .int k, .int w, .int i] [] (ev_hp I J R T) cz kz else G 190 171 [.ref 35, .int s, .int n, .int kd, .int t, .int as, .int m, .long v, ez_fill, .int k, .int w, .int i] [] (ev_hp I J R T) cz kz := by
  intro G
  rfl
theorem fs_rF (v : Int64) (k w i : Int32) (cz kz : Nat) : ∀ G : ez_F, fx_up X 2 G 190 171 [.ref 35, .int s, .int n, .int kd, .int t, .int as, .int m, .long v, ez_fill, .int k, .int w, .int i] [] (ev_hp I J R T) cz kz = bif decide (w = 0) then G 190 210 [.ref 35, .int s, .int n, .int kd, .int t, .int as, .int m, .long v, ez_fill, .int k, .int w, .int i] [] (ev_hp I J R T) cz kz else G 190 176 [.ref 35, .int s, .int n, .int kd, .int t, .int as, .int m, .long v, ez_fill, .int k, .int w, .int i] [] (ev_hp I J R T) cz kz := by
  intro G
  rfl
set_option maxRecDepth 100000 in
theorem fs_rG (v : Int64) (k w i : Int32) (cz kz : Nat) : ∀ G : ez_F, fx_up X 16 G 190 176 [.ref 35, .int s, .int n, .int kd, .int t, .int as, .int m, .long v, ez_fill, .int k, .int w, .int i] [] (ev_hp I J R T) cz kz = G 190 202 [.ref 35, .int s, .int n, .int kd, .int t, .int as, .int m, .long v, ez_fill, .int k, .int w, .int i] [.int (300 * s + i - 1), .ref 39, .int (300 * s + i), .ref 39] (ev_hp I J R T) cz kz := by
  intro G
  rfl
theorem fs_rH (v : Int64) (k w i : Int32) (cz kz : Nat) : ∀ G : ez_F, fx_up X 2 G 190 204 [.ref 35, .int s, .int n, .int kd, .int t, .int as, .int m, .long v, ez_fill, .int k, .int w, .int i] [] (ev_hp I J R T) cz kz = G 190 164 [.ref 35, .int s, .int n, .int kd, .int t, .int as, .int m, .long v, ez_fill, .int k, .int w, .int (i + Int32.ofInt (-1))] [] (ev_hp I J R T) cz kz := by
  intro G
  rfl
theorem fs_rI (v : Int64) (k w i : Int32) (cz kz : Nat) : ∀ G : ez_F, fx_up X 2 G 190 210 [.ref 35, .int s, .int n, .int kd, .int t, .int as, .int m, .long v, ez_fill, .int k, .int w, .int i] [] (ev_hp I J R T) cz kz = bif decide (w = 0) then G 190 233 [.ref 35, .int s, .int n, .int kd, .int t, .int as, .int m, .long v, ez_fill, .int k, .int w, .int i] [] (ev_hp I J R T) cz kz else G 190 215 [.ref 35, .int s, .int n, .int kd, .int t, .int as, .int m, .long v, ez_fill, .int k, .int w, .int i] [] (ev_hp I J R T) cz kz := by
  intro G
  rfl
theorem fs_rJ (v : Int64) (k w i : Int32) (cz kz : Nat) : ∀ G : ez_F, fx_up X 8 G 190 215 [.ref 35, .int s, .int n, .int kd, .int t, .int as, .int m, .long v, ez_fill, .int k, .int w, .int i] [] (ev_hp I J R T) cz kz = G 190 229 [.ref 35, .int s, .int n, .int kd, .int t, .int as, .int m, .long v, ez_fill, .int k, .int w, .int i] [.long v, .int (300 * s + k), .ref 39] (ev_hp I J R T) cz kz := by
  intro G
  rfl
theorem fs_rK (v : Int64) (k w i : Int32) (cz kz : Nat) : ∀ G : ez_F, fx_up X 1 G 190 230 [.ref 35, .int s, .int n, .int kd, .int t, .int as, .int m, .long v, ez_fill, .int k, .int w, .int i] [] (ev_hp I J R T) cz kz = G 190 233 [.ref 35, .int s, .int (n + 1), .int kd, .int t, .int as, .int m, .long v, ez_fill, .int k, .int w, .int i] [] (ev_hp I J R T) cz kz := by
  intro G
  rfl
theorem fs_rL (v : Int64) (k w i : Int32) (cz kz : Nat) : ∀ G : ez_F, fx_up X 2 G 190 233 [.ref 35, .int s, .int n, .int kd, .int t, .int as, .int m, .long v, ez_fill, .int k, .int w, .int i] [] (ev_hp I J R T) cz kz = G 190 57 [.ref 35, .int s, .int n, .int kd, .int t, .int as, .int (m + 1), .long v, ez_fill, .int k, .int w, .int i] [] (ev_hp I J R T) cz kz := by
  intro G
  rfl
theorem fs_rM (cz kz : Nat) : ∀ G : ez_F, fx_up X 2 G 190 239 [.ref 35, .int s, .int n, .int kd, .int t, .int as, .int m] [] (ev_hp I J R T) cz kz = G 190 35 [.ref 35, .int s, .int n, .int kd, .int (t + 1), .int as, .int m] [] (ev_hp I J R T) cz kz := by
  intro G
  rfl
theorem fs_rO (cz kz : Nat) : ∀ G : ez_F, fx_up X 4 G 190 245 [.ref 35, .int s, .int n, .int kd, .int t] [] (ev_hp I J R T) cz kz = G 190 251 [.ref 35, .int s, .int n, .int kd, .int t] [.int n, .int s, .ref 38] (ev_hp I J R T) cz kz := by
  intro G
  rfl
theorem fs_rN (cz kz : Nat) : ∀ G : ez_F, fx_up X 3 G 190 35 [.ref 35, .int s, .int n, .int kd, .int t] [] (ev_hp I J R T) cz kz = bif decide (kd ≤ t) then G 190 245 [.ref 35, .int s, .int n, .int kd, .int t] [] (ev_hp I J R T) cz kz else G 190 41 [.ref 35, .int s, .int n, .int kd, .int t] [] (ev_hp I J R T) cz kz := by
  intro G
  rfl
end
/-! shifting a part of a row by one -/
noncomputable def fs_sh (f : Nat → Int64) (S i n : Nat) : Nat → Int64 := fun q => if 300 * S + i < q ∧ q ≤ 300 * S + n then f (q - 1) else f q
theorem fs_sh_0 (f : Nat → Int64) (S n : Nat) : fs_sh f S n n = f := by
  funext q
  unfold fs_sh
  rw [if_neg (by omega)]
theorem fs_sh_1 (f : Nat → Int64) (S i n : Nat) (h0 : 0 < i) (h1 : i ≤ n) : vp_updL (fs_sh f S i n) (300 * S + i) (fs_sh f S i n (300 * S + (i - 1))) = fs_sh f S (i - 1) n := by
  funext q
  unfold vp_updL fs_sh
  by_cases hq : q = 300 * S + i
  · rw [if_pos hq, if_neg (by omega), if_pos (by omega)]
    congr 1
    omega
  · rw [if_neg hq]
    by_cases h2 : 300 * S + i < q ∧ q ≤ 300 * S + n
    · rw [if_pos h2, if_pos (by omega)]
    · rw [if_neg h2, if_neg (by omega)]
theorem fs_cmp (u v : Int64) : (lg_cmp u v ≤ 0 ↔ u.toInt ≤ v.toInt) ∧ (lg_cmp u v = 0 ↔ u = v) := by
  obtain ⟨h1, h2, h3, h4⟩ := cx_lgcmp u v
  have e0 : (0 : Int32).toInt = 0 := by decide
  refine ⟨?_, ?_⟩
  · rw [Int32.le_iff_toInt_le, e0]
    omega
  · rw [← Int32.toInt_inj, e0, ← Int64.toInt_inj]
    omega
theorem fs_dec {k : Int32} (h : 0 < k.toInt) : (k + Int32.ofInt (-1)).toInt = k.toInt - 1 := by
  rw [Int32.toInt_add, show (Int32.ofInt (-1)).toInt = -1 from by decide, cx_bm32]
  · omega
  · have := Int32.toInt_lt k
    simp only [cx_i32]
    omega
section
variable {X : ez_X} {I : Nat → Nat → Int32} {J : Nat → Nat → Int64} {R : Nat → Nat} {T : List ez_C} {s n kd t as m : Int32} {v : Int64} {f : Nat → Int64} {Q : ev_Q} {cz kz : Nat}
/-- the place of a set in a row that rises -/
theorem fs_w (hs : 0 ≤ s.toInt ∧ s.toInt ≤ 2) (hn : 0 ≤ n.toInt ∧ n.toInt ≤ 300)
    (cont : ∀ (k : Int32) (N : Nat), k.toInt = N → N ≤ n.toInt.toNat → (∀ a : Nat, N ≤ a → a < n.toInt.toNat → v.toInt < (f (300 * s.toInt.toNat + a)).toInt) → (N = 0 ∨ (f (300 * s.toInt.toNat + (N - 1))).toInt ≤ v.toInt) →
      ev_W X 190 121 [.ref 35, .int s, .int n, .int kd, .int t, .int as, .int m, .long v, ez_fill, .int k] [] (ev_hp I (ev_sJ J 39 f) R T) cz kz Q) :
    ∀ (N : Nat) (k : Int32), k.toInt = N → N ≤ n.toInt.toNat → (∀ a : Nat, N ≤ a → a < n.toInt.toNat → v.toInt < (f (300 * s.toInt.toNat + a)).toInt) →
      ev_W X 190 89 [.ref 35, .int s, .int n, .int kd, .int t, .int as, .int m, .long v, ez_fill, .int k] [] (ev_hp I (ev_sJ J 39 f) R T) cz kz Q := by
  have e0 : (0 : Int32).toInt = 0 := by decide
  intro N
  induction N with
  | zero =>
    intro k hk hN ha
    refine ev_if (fs_r4 X I _ R T s n kd t as m v k _ _) (fun _ => cont k 0 hk hN ha (Or.inl rfl)) (fun ht => ?_)
    exact absurd (Int32.le_iff_toInt_le.mpr (by rw [e0]; omega)) (of_decide_eq_false ht)
  | succ N ih =>
    intro k hk hN ha
    refine ev_if (fs_r4 X I _ R T s n kd t as m v k _ _) (fun ht => ?_) (fun _ => ?_)
    · have := Int32.le_iff_toInt_le.mp (of_decide_eq_true ht)
      rw [e0] at this
      omega
    have hk2 : 0 ≤ k.toInt ∧ k.toInt ≤ 300 := by omega
    have hx := fs_301 hs hk2
    refine ev_seg (fs_r5 X I _ R T s n kd t as m v k _ _) ?_
    refine ev_lald (by rfl) (fs_get I J R T f) (fs_ixs (by omega) (by omega)) ?_
    have ei : (300 * s + k - 1).toNatClampNeg = 300 * s.toInt.toNat + N := by
      have e2 : (300 * s + k - 1).toNatClampNeg = (300 * s + k - 1).toInt.toNat := rfl
      omega
    rw [ei]
    refine ev_if (fs_r6 X I _ R T s n kd t as m v _ k _ _) (fun ht => ?_) (fun ht => ?_)
    · refine cont k (N + 1) hk hN ha (Or.inr ?_)
      exact (fs_cmp _ _).1.mp (of_decide_eq_true ht)
    · have hlt : v.toInt < (f (300 * s.toInt.toNat + N)).toInt := Int.not_le.mp fun z => of_decide_eq_false ht ((fs_cmp _ _).1.mpr z)
      refine ev_seg (fs_r7 X I _ R T s n kd t as m v k _ _) ?_
      refine ih _ ?_ (by omega) fun a h1 h2 => ?_
      · rw [fs_dec (by omega)]
        omega
      · by_cases h3 : a = N
        · rw [h3]; exact hlt
        · exact ha a (by omega) h2
theorem fs_n {k : Int32} {N : Nat} (hs : 0 ≤ s.toInt ∧ s.toInt ≤ 2) (hk : k.toInt = N) (hN : N ≤ 300)
    (c1 : v ≠ 0 → (N = 0 ∨ f (300 * s.toInt.toNat + (N - 1)) ≠ v) → ev_W X 190 164 [.ref 35, .int s, .int n, .int kd, .int t, .int as, .int m, .long v, ez_fill, .int k, .int 1, .int n] [] (ev_hp I (ev_sJ J 39 f) R T) cz kz Q)
    (c0 : (v = 0 ∨ (N ≠ 0 ∧ f (300 * s.toInt.toNat + (N - 1)) = v)) → ev_W X 190 164 [.ref 35, .int s, .int n, .int kd, .int t, .int as, .int m, .long v, ez_fill, .int k, .int 0, .int n] [] (ev_hp I (ev_sJ J 39 f) R T) cz kz Q) :
    ev_W X 190 121 [.ref 35, .int s, .int n, .int kd, .int t, .int as, .int m, .long v, ez_fill, .int k] [] (ev_hp I (ev_sJ J 39 f) R T) cz kz Q := by
  have e0 : (0 : Int32).toInt = 0 := by decide
  refine ev_if (fs_r8 X I _ R T s n kd t as m v k _ _) (fun ht => ?_) (fun ht => ?_)
  · exact ev_seg (fs_rD X I _ R T s n kd t as m v k _ _) (c0 (Or.inl ((fs_cmp _ _).2.mp (of_decide_eq_true ht))))
  have hv : v ≠ 0 := fun z => of_decide_eq_false ht ((fs_cmp _ _).2.mpr z)
  refine ev_if (fs_r9 X I _ R T s n kd t as m v k _ _) (fun ht => ?_) (fun ht => ?_)
  · have hk0 := of_decide_eq_true ht
    refine ev_seg (fs_rC X I _ R T s n kd t as m v k _ _) (c1 hv (Or.inl ?_))
    rw [hk0, e0] at hk
    omega
  have hN0 : N ≠ 0 := fun z => of_decide_eq_false ht (cx_i32_eq (by rw [e0]; omega))
  have hx := fs_301 hs (k := k) (by omega)
  refine ev_seg (fs_rA X I _ R T s n kd t as m v k _ _) ?_
  refine ev_lald (by rfl) (fs_get I J R T f) (fs_ixs (by omega) (by omega)) ?_
  have ei : (300 * s + k - 1).toNatClampNeg = 300 * s.toInt.toNat + (N - 1) := by
    have e2 : (300 * s + k - 1).toNatClampNeg = (300 * s + k - 1).toInt.toNat := rfl
    omega
  rw [ei]
  refine ev_if (fs_rB X I _ R T s n kd t as m v _ k _ _) (fun ht => ?_) (fun ht => ?_)
  · exact ev_seg (fs_rD X I _ R T s n kd t as m v k _ _) (c0 (Or.inr ⟨hN0, (fs_cmp _ _).2.mp (of_decide_eq_true ht)⟩))
  · exact ev_seg (fs_rC X I _ R T s n kd t as m v k _ _) (c1 hv (Or.inr fun z => of_decide_eq_false ht ((fs_cmp _ _).2.mpr z)))
/-- the shift -/
theorem fs_s {k : Int32} {N : Nat} (hs : 0 ≤ s.toInt ∧ s.toInt ≤ 2) (hn : 0 ≤ n.toInt ∧ n.toInt ≤ 299) (hk : k.toInt = N)
    (cont : ∀ i : Int32, ev_W X 190 210 [.ref 35, .int s, .int n, .int kd, .int t, .int as, .int m, .long v, ez_fill, .int k, .int 1, .int i] [] (ev_hp I (ev_sJ J 39 (fs_sh f s.toInt.toNat N n.toInt.toNat)) R T) cz kz Q) :
    ∀ (D : Nat) (i : Int32) (M : Nat), i.toInt = M → M = N + D → M ≤ n.toInt.toNat → ev_W X 190 164 [.ref 35, .int s, .int n, .int kd, .int t, .int as, .int m, .long v, ez_fill, .int k, .int 1, .int i] [] (ev_hp I (ev_sJ J 39 (fs_sh f s.toInt.toNat M n.toInt.toNat)) R T) cz kz Q := by
  intro D
  induction D with
  | zero =>
    intro i M hi hM hMn
    obtain rfl : M = N := by omega
    refine ev_if (fs_rE X I _ R T s n kd t as m v k 1 i _ _) (fun _ => cont i) (fun ht => ?_)
    exact absurd (Int32.le_iff_toInt_le.mpr (by omega)) (of_decide_eq_false ht)
  | succ D ih =>
    intro i M hi hM hMn
    refine ev_if (fs_rE X I _ R T s n kd t as m v k 1 i _ _) (fun ht => ?_) (fun _ => ?_)
    · have := Int32.le_iff_toInt_le.mp (of_decide_eq_true ht)
      omega
    refine ev_if (fs_rF X I _ R T s n kd t as m v k 1 i _ _) (fun ht => absurd (of_decide_eq_true ht) (by decide)) (fun _ => ?_)
    have h1 := fs_301 hs (k := i) (by omega)
    have h2 := fs_300 hs (k := i) (by omega)
    refine ev_seg (fs_rG X I _ R T s n kd t as m v k 1 i _ _) ?_
    refine ev_lald (by rfl) (fs_get I J R T _) (fs_ixs (by omega) (by omega)) ?_
    have e1 : (300 * s + i - 1).toNatClampNeg = 300 * s.toInt.toNat + (M - 1) := by
      have e2 : (300 * s + i - 1).toNatClampNeg = (300 * s + i - 1).toInt.toNat := rfl
      omega
    have e2 : (300 * s + i).toNatClampNeg = 300 * s.toInt.toNat + M := by
      have e2 : (300 * s + i).toNatClampNeg = (300 * s + i).toInt.toNat := rfl
      omega
    rw [e1]
    refine ev_lastH (h2 := ev_hp I (ev_sJ J 39 (fs_sh f s.toInt.toNat (M - 1) n.toInt.toNat)) R T) (by rfl) (fs_get I J R T _) (fs_ixs (by omega) (by omega)) (by rw [e2, fs_sh_1 _ _ _ _ (by omega) hMn, fs_set]) ?_
    refine ev_seg (fs_rH X I _ R T s n kd t as m v k 1 i _ _) ?_
    exact ih _ (M - 1) (by rw [fs_dec (by omega)]; omega) (by omega) (by omega)
end
end
section
/-! The reference's spots: kept in order, each once, counted by remainders. -/
noncomputable def fs_ins (f : Nat → Int64) (S k n : Nat) (v : Int64) : Nat → Int64 := vp_updL (fs_sh f S k n) (300 * S + k) v
theorem fs_ins_at (f : Nat → Int64) (S k n : Nat) (v : Int64) (j : Nat) : fs_ins f S k n v (300 * S + j) = if j = k then v else if k < j ∧ j ≤ n then f (300 * S + (j - 1)) else f (300 * S + j) := by
  unfold fs_ins vp_updL fs_sh
  by_cases h : j = k
  · rw [if_pos (by omega), if_pos h]
  · rw [if_neg (by omega), if_neg h]
    by_cases h2 : k < j ∧ j ≤ n
    · rw [if_pos (by omega), if_pos h2, show 300 * S + j - 1 = 300 * S + (j - 1) by omega]
    · rw [if_neg (by omega), if_neg h2]
noncomputable def fs_srt (f : Nat → Int64) (S n : Nat) : Prop := ∀ a b, a < b → b < n → (f (300 * S + a)).toInt < (f (300 * S + b)).toInt
section
variable {f : Nat → Int64} {S k n : Nat} {v : Int64}
theorem fs_below (h : fs_srt f S n) (hk : k ≤ n) (lo : k = 0 ∨ (f (300 * S + (k - 1))).toInt < v.toInt) (a : Nat) (ha : a < k) : (f (300 * S + a)).toInt < v.toInt := by
  rcases lo with rfl | lo
  · omega
  · by_cases h2 : a = k - 1
    · rw [h2]; exact lo
    · exact Int.lt_trans (h a (k - 1) (by omega) (by omega)) lo
theorem fs_ins_srt (h : fs_srt f S n) (hk : k ≤ n) (hi : ∀ a : Nat, k ≤ a → a < n → v.toInt < (f (300 * S + a)).toInt) (lo : k = 0 ∨ (f (300 * S + (k - 1))).toInt < v.toInt) : fs_srt (fs_ins f S k n v) S (n + 1) := by
  have bl := fs_below h hk lo
  intro a b hab hb
  rw [fs_ins_at, fs_ins_at]
  by_cases hbk : b = k
  · rw [if_pos hbk, if_neg (by omega), if_neg (by omega)]
    exact bl a (by omega)
  rw [if_neg hbk]
  by_cases hb2 : k < b ∧ b ≤ n
  · rw [if_pos hb2]
    by_cases hak : a = k
    · rw [if_pos hak]
      exact hi _ (by omega) (by omega)
    · rw [if_neg hak]
      by_cases ha2 : k < a ∧ a ≤ n
      · rw [if_pos ha2]
        exact h _ _ (by omega) (by omega)
      · rw [if_neg ha2]
        exact h _ _ (by omega) (by omega)
  · rw [if_neg hb2, if_neg (by omega), if_neg (by omega)]
    exact h _ _ hab (by omega)
theorem fs_ins_mem {w : Int64} (h : ∃ a, a < n ∧ f (300 * S + a) = w) : ∃ a, a < n + 1 ∧ fs_ins f S k n v (300 * S + a) = w := by
  obtain ⟨a, ha, hw⟩ := h
  by_cases hk : a < k
  · exact ⟨a, by omega, by rw [fs_ins_at, if_neg (by omega), if_neg (by omega)]; exact hw⟩
  · exact ⟨a + 1, by omega, by rw [fs_ins_at, if_neg (by omega), if_pos (by omega), Nat.add_sub_cancel]; exact hw⟩
theorem fs_out (h : fs_srt f S n) (hk : k ≤ n) (hi : ∀ a : Nat, k ≤ a → a < n → v.toInt < (f (300 * S + a)).toInt) (lo : k = 0 ∨ (f (300 * S + (k - 1))).toInt < v.toInt) : ¬ ∃ a, a < n ∧ f (300 * S + a) = v := by
  rintro ⟨a, ha, hv⟩
  by_cases h2 : a < k
  · have := fs_below h hk lo a h2
    rw [hv] at this
    omega
  · have := hi a (by omega) ha
    rw [hv] at this
    omega
end
/-! the moves -/
noncomputable def fs_dx (m : Nat) : Int32 := Int32.ofNat m - Int32.ofNat m / 10 * 10 - 4
noncomputable def fs_dy (m : Nat) : Int32 := Int32.ofNat m / 10 - 4
theorem fs_dtab : ((List.range 100).all fun m => decide ((fs_dx m).toInt = ((m % 10 : Nat) : Int) - 4) && decide ((fs_dy m).toInt = ((m / 10 : Nat) : Int) - 4)) = true := by decide +kernel
theorem fs_d {m : Nat} (h : m < 100) : (fs_dx m).toInt = ((m % 10 : Nat) : Int) - 4 ∧ (fs_dy m).toInt = ((m / 10 : Nat) : Int) - 4 := by
  have h1 := List.all_eq_true.mp fs_dtab m (List.mem_range.mpr h)
  obtain ⟨h2, h3⟩ := Bool.and_eq_true_iff.mp h1
  exact ⟨of_decide_eq_true h2, of_decide_eq_true h3⟩
noncomputable def fs_mv (I : Nat → Nat → Int32) (as : Int32) (m : Nat) : Int64 := mv_F (I 35 0) (I 35 1) (I 35 2) as (fs_dx m) (fs_dy m) 16 0 0
noncomputable def fs_res (I : Nat → Nat → Int32) (m : Nat) : Nat := ((m % 10) % (I 35 0).toInt.toNat) * 6 + (m / 10) % (I 35 1).toInt.toNat
section
variable {I : Nat → Nat → Int32} {as : Int32}
theorem fs_modz {w : Int} {a b : Nat} (hw : 2 ≤ w ∧ w ≤ 6) (h : a % w.toNat = b % w.toNat) : (((a : Nat) : Int) - 4 - (((b : Nat) : Int) - 4)) % w = 0 := by
  rcases (show w = 2 ∨ w = 3 ∨ w = 4 ∨ w = 5 ∨ w = 6 by omega) with rfl | rfl | rfl | rfl | rfl
  · simp only [show ((2 : Int).toNat) = 2 from rfl] at h; omega
  · simp only [show ((3 : Int).toNat) = 3 from rfl] at h; omega
  · simp only [show ((4 : Int).toNat) = 4 from rfl] at h; omega
  · simp only [show ((5 : Int).toNat) = 5 from rfl] at h; omega
  · simp only [show ((6 : Int).toNat) = 6 from rfl] at h; omega
theorem fs_res_lt (hW : 2 ≤ (I 35 0).toInt ∧ (I 35 0).toInt ≤ 6) (hH : 2 ≤ (I 35 1).toInt ∧ (I 35 1).toInt ≤ 6) (m : Nat) : fs_res I m < 36 := by
  unfold fs_res
  have h1 : (m % 10) % (I 35 0).toInt.toNat < (I 35 0).toInt.toNat := Nat.mod_lt _ (by omega)
  have h2 : (m / 10) % (I 35 1).toInt.toNat < (I 35 1).toInt.toNat := Nat.mod_lt _ (by omega)
  omega
theorem fs_res_eq (hwr : I 35 2 = 0 ∨ I 35 2 = 1) (hW : 2 ≤ (I 35 0).toInt ∧ (I 35 0).toInt ≤ 6) (hH : 2 ≤ (I 35 1).toInt ∧ (I 35 1).toInt ≤ 6) {m m' : Nat} (hm : m < 100) (hm' : m' < 100) (h : fs_res I m = fs_res I m') (n1 : fs_mv I as m ≠ 0) (n2 : fs_mv I as m' ≠ 0) : fs_mv I as m = fs_mv I as m' := by
  unfold fs_res at h
  have h1 : (m / 10) % (I 35 1).toInt.toNat < (I 35 1).toInt.toNat := Nat.mod_lt _ (by omega)
  have h2 : (m' / 10) % (I 35 1).toInt.toNat < (I 35 1).toInt.toNat := Nat.mod_lt _ (by omega)
  have hx : (m % 10) % (I 35 0).toInt.toNat = (m' % 10) % (I 35 0).toInt.toNat := by omega
  have hy : (m / 10) % (I 35 1).toInt.toNat = (m' / 10) % (I 35 1).toInt.toNat := by omega
  obtain ⟨d1, d2⟩ := fs_d hm
  obtain ⟨d3, d4⟩ := fs_d hm'
  exact mv_same hwr hW hH (by omega) (by omega) (by omega) (by omega) (by rw [d1, d3]; exact fs_modz hW hx) (by rw [d2, d4]; exact fs_modz hH hy) n1 n2
end
noncomputable def fs_inv (I : Nat → Nat → Int32) (as : Int32) (f : Nat → Int64) (S n t m : Nat) : Prop := fs_srt f S n ∧ (∀ m', m' < m → fs_mv I as m' ≠ 0 → ∃ a, a < n ∧ f (300 * S + a) = fs_mv I as m') ∧
  ∃ L : List Nat, L.Nodup ∧ (∀ r ∈ L, r < 36 ∧ ∃ m', m' < m ∧ fs_mv I as m' ≠ 0 ∧ fs_res I m' = r) ∧ n ≤ 36 * t + L.length
section
variable {I : Nat → Nat → Int32} {as : Int32} {f : Nat → Int64} {S n t m k : Nat}
theorem fs_inv_n (h : fs_inv I as f S n t m) : n ≤ 36 * t + 36 := by
  obtain ⟨-, -, L, h1, h2, h3⟩ := h
  have := fs_pig 36 L h1 fun r hr => (h2 r hr).1
  omega
theorem fs_inv_new (hwr : I 35 2 = 0 ∨ I 35 2 = 1) (hW : 2 ≤ (I 35 0).toInt ∧ (I 35 0).toInt ≤ 6) (hH : 2 ≤ (I 35 1).toInt ∧ (I 35 1).toInt ≤ 6) (hm : m < 100) (h : fs_inv I as f S n t m) (hk : k ≤ n) (hne : fs_mv I as m ≠ 0) (hi : ∀ a : Nat, k ≤ a → a < n → (fs_mv I as m).toInt < (f (300 * S + a)).toInt) (lo : k = 0 ∨ (f (300 * S + (k - 1))).toInt < (fs_mv I as m).toInt) :
    fs_inv I as (fs_ins f S k n (fs_mv I as m)) S (n + 1) t (m + 1) := by
  obtain ⟨h1, h2, L, h3, h4, h5⟩ := h
  have hout := fs_out h1 hk hi lo
  refine ⟨fs_ins_srt h1 hk hi lo, fun m' hm' hn' => ?_, fs_res I m :: L, List.nodup_cons.mpr ⟨fun hr => ?_, h3⟩, fun r hr => ?_, by simp only [List.length_cons]; omega⟩
  · by_cases he : m' = m
    · subst he
      exact ⟨k, by omega, by rw [fs_ins_at, if_pos rfl]⟩
    · exact fs_ins_mem (h2 m' (by omega) hn')
  · obtain ⟨-, m', g1, g2, g3⟩ := h4 _ hr
    have := fs_res_eq (as := as) hwr hW hH (by omega) hm g3 g2 hne
    rw [← this] at hout
    exact hout (h2 m' g1 g2)
  · rcases List.mem_cons.mp hr with rfl | hr
    · exact ⟨fs_res_lt hW hH m, m, by omega, hne, rfl⟩
    · obtain ⟨g0, m', g1, g2, g3⟩ := h4 r hr
      exact ⟨g0, m', by omega, g2, g3⟩
theorem fs_inv_old (h : fs_inv I as f S n t m) (ho : fs_mv I as m = 0 ∨ ∃ a, a < n ∧ f (300 * S + a) = fs_mv I as m) : fs_inv I as f S n t (m + 1) := by
  obtain ⟨h1, h2, L, h3, h4, h5⟩ := h
  refine ⟨h1, fun m' hm' hn' => ?_, L, h3, fun r hr => ?_, h5⟩
  · by_cases he : m' = m
    · subst he
      rcases ho with ho | ho
      · exact absurd ho hn'
      · exact ho
    · exact h2 m' (by omega) hn'
  · obtain ⟨g0, m', g1, g2, g3⟩ := h4 r hr
    exact ⟨g0, m', by omega, g2, g3⟩
end
section
variable {X : ez_X} {I : Nat → Nat → Int32} {J : Nat → Nat → Int64} {R : Nat → Nat} {T : List ez_C} {s kd t as : Int32} {Q : ev_Q} {cz kz tn : Nat}
theorem fs_m (hwr : I 35 2 = 0 ∨ I 35 2 = 1) (hW : 2 ≤ (I 35 0).toInt ∧ (I 35 0).toInt ≤ 6) (hH : 2 ≤ (I 35 1).toInt ∧ (I 35 1).toInt ≤ 6) (hs : 0 ≤ s.toInt ∧ s.toInt ≤ 2) (ht : tn ≤ 7)
    (cont : ∀ (f : Nat → Int64) (n m : Int32) (N : Nat), n.toInt = N → fs_srt f s.toInt.toNat N → N ≤ 36 * tn + 36 → ev_W X 190 239 [.ref 35, .int s, .int n, .int kd, .int t, .int as, .int m] [] (ev_hp I (ev_sJ J 39 f) R T) cz kz Q) :
    ∀ (D M N : Nat) (m n : Int32) (f : Nat → Int64), m.toInt = M → n.toInt = N → M + D = 100 → fs_inv I as f s.toInt.toNat N tn M → ev_W X 190 57 [.ref 35, .int s, .int n, .int kd, .int t, .int as, .int m] [] (ev_hp I (ev_sJ J 39 f) R T) cz kz Q := by
  have e0 : (0 : Int32).toInt = 0 := by decide
  have e1 : (1 : Int32).toInt = 1 := by decide
  have e100 : (100 : Int32).toInt = 100 := by decide
  intro D
  induction D with
  | zero =>
    intro M N m n f hm hn hD hinv
    refine ev_if (fs_r1 X I _ R T s n kd t as m _ _) (fun _ => cont f n m N hn hinv.1 (fs_inv_n hinv)) (fun hc => ?_)
    exact absurd (Int32.le_iff_toInt_le.mpr (by rw [e100]; omega)) (of_decide_eq_false hc)
  | succ D ih =>
    intro M N m n f hm hn hD hinv
    have hN := fs_inv_n hinv
    refine ev_if (fs_r1 X I _ R T s n kd t as m _ _) (fun hc => ?_) (fun _ => ?_)
    · have := Int32.le_iff_toInt_le.mp (of_decide_eq_true hc)
      rw [e100] at this
      omega
    have em : m = Int32.ofNat M := cx_i32_eq (by rw [Int32.toInt_ofNat_of_lt (by omega)]; omega)
    have hm1 : (m + 1).toInt = ((M + 1 : Nat) : Int) := by
      rw [Int32.toInt_add, e1, cx_bm32]
      · omega
      · simp only [cx_i32]; omega
    have hnW : ¬ I 35 0 = 0 := fun z => by rw [z, e0] at hW; omega
    have hnH : ¬ I 35 1 = 0 := fun z => by rw [z, e0] at hH; omega
    refine ev_call (fs_r2 X I _ R T s n kd t as m _ _) (eh_mv X I _ R T as _ _ hnW hnH) ?_
    rintro _ _ _ _ ⟨rfl, rfl, rfl, rfl⟩
    have ev : mv_F (I 35 0) (I 35 1) (I 35 2) as (m - m / 10 * 10 - 4) (m / 10 - 4) 16 0 0 = fs_mv I as M := by rw [em]; rfl
    rw [ev]
    -- behind the place: the next move
    have next : ∀ (n' : Int32) (v : Int64) (k w i : Int32) (N' : Nat) (f' : Nat → Int64), n'.toInt = N' → fs_inv I as f' s.toInt.toNat N' tn (M + 1) → ev_W X 190 233 [.ref 35, .int s, .int n', .int kd, .int t, .int as, .int m, .long v, ez_fill, .int k, .int w, .int i] [] (ev_hp I (ev_sJ J 39 f') R T) cz kz Q := by
      intro n' v k w i N' f' hn' hi'
      refine ev_seg (fs_rL X I _ R T s n' kd t as m v k w i _ _) ?_
      refine ev_cutl (by rfl) ?_
      exact ih (M + 1) N' (m + 1) n' f' hm1 hn' (by omega) hi'
    refine ev_seg (fs_r3 X I _ R T s n kd t as m _ _ _) ?_
    generalize hv : fs_mv I as M = v
    refine fs_w hs (by omega) (fun k K hk hK hi hlo => ?_) N n hn (by omega) (fun a h1 h2 => by omega)
    rw [hn, Int.toNat_natCast] at hK hi
    refine fs_n hs hk (by omega) (fun hne hlo2 => ?_) (fun ho => ?_)
    · -- a new one
      have hlt : K = 0 ∨ (f (300 * s.toInt.toNat + (K - 1))).toInt < v.toInt := by
        rcases hlo with h | h
        · exact Or.inl h
        · rcases hlo2 with h2 | h2
          · exact Or.inl h2
          · refine Or.inr ?_
            have : ¬ (f (300 * s.toInt.toNat + (K - 1))).toInt = v.toInt := fun z => h2 (Int64.toInt_inj.mp z)
            omega
      have h1 := fs_s (X := X) (I := I) (J := J) (R := R) (T := T) (s := s) (n := n) (kd := kd) (t := t) (as := as) (m := m) (v := v) (f := f) (Q := Q) (cz := cz) (kz := kz) (k := k) (N := K) hs (by omega) hk (fun i => ?_) (N - K) n N hn (by omega) (by omega)
      · have e : fs_sh f s.toInt.toNat N n.toInt.toNat = f := by rw [hn, Int.toNat_natCast]; exact fs_sh_0 _ _ _
        rw [e] at h1
        exact h1
      · refine ev_if (fs_rI X I _ R T s n kd t as m v k 1 i _ _) (fun hc => absurd (of_decide_eq_true hc) (by decide)) (fun _ => ?_)
        have hx := fs_300 hs (k := k) (by omega)
        have ei : (300 * s + k).toNatClampNeg = 300 * s.toInt.toNat + K := by
          have e2 : (300 * s + k).toNatClampNeg = (300 * s + k).toInt.toNat := rfl
          omega
        refine ev_seg (fs_rJ X I _ R T s n kd t as m v k 1 i _ _) ?_
        refine ev_lastH (h2 := ev_hp I (ev_sJ J 39 (fs_ins f s.toInt.toNat K N v)) R T) (by rfl) (fs_get I J R T _) (fs_ixs (by omega) (by omega)) (by rw [ei, hn, Int.toNat_natCast, fs_set]; rfl) ?_
        refine ev_seg (fs_rK X I _ R T s n kd t as m v k 1 i _ _) ?_
        have hn1 : (n + 1).toInt = ((N + 1 : Nat) : Int) := by
          rw [Int32.toInt_add, e1, cx_bm32]
          · omega
          · simp only [cx_i32]; omega
        refine next (n + 1) v k 1 i (N + 1) _ hn1 ?_
        rw [← hv] at hne hlt hi ⊢
        exact fs_inv_new hwr hW hH (by omega) hinv hK hne hi hlt
    · -- not a new one
      have hinv' : fs_inv I as f s.toInt.toNat N tn (M + 1) := by
        refine fs_inv_old hinv ?_
        rw [hv]
        rcases ho with h | ⟨h, h2⟩
        · exact Or.inl h
        · exact Or.inr ⟨K - 1, by omega, h2⟩
      have z210 : ∀ i : Int32, ev_W X 190 210 [.ref 35, .int s, .int n, .int kd, .int t, .int as, .int m, .long v, ez_fill, .int k, .int 0, .int i] [] (ev_hp I (ev_sJ J 39 f) R T) cz kz Q := by
        intro i
        refine ev_if (fs_rI X I _ R T s n kd t as m v k 0 i _ _) (fun _ => next n v k 0 i N f hn hinv') (fun hc => absurd rfl (of_decide_eq_false hc))
      refine ev_if (fs_rE X I _ R T s n kd t as m v k 0 n _ _) (fun _ => z210 n) (fun _ => ?_)
      exact ev_if (fs_rF X I _ R T s n kd t as m v k 0 n _ _) (fun _ => z210 n) (fun hc => absurd rfl (of_decide_eq_false hc))
end
end
section
/-! The reference's findSpots, whole. -/
theorem cx_may_sub {md md2 : List (Nat × Nat)} {a k : Nat} (hs : ∀ e ∈ md2, e ∈ md) (h : cx_may md a k = false) : cx_may md2 a k = false := by
  cases hz : cx_may md2 a k with
  | false => rfl
  | true =>
    obtain ⟨e, he, h1⟩ := List.any_eq_true.mp hz
    have : cx_may md a k = true := List.any_eq_true.mpr ⟨e, hs e he, h1⟩
    rw [this] at h
    cases h
theorem cx_fr_nil {I I' : Nat → Nat → Int32} {J J' : Nat → Nat → Int64} (h : cx_fr [] I J I' J') : I' = I ∧ J' = J :=
  ⟨funext fun a => funext fun k => (h a k rfl).1, funext fun a => funext fun k => (h a k rfl).2⟩
theorem fs_sJ_self (J : Nat → Nat → Int64) (a : Nat) : ev_sJ J a (J a) = J := by
  funext q
  by_cases h : q = a
  · subst h; rw [cx_sJ_s]
  · rw [cx_sJ_n _ _ h]
theorem fs_t (X : ez_X) (hX2 : X.1 < 2 ^ 31) (I : Nat → Nat → Int32) (J : Nat → Nat → Int64) (T : List ez_C) (s kd : Int32) (Q : ev_Q) (hwr : I 35 2 = 0 ∨ I 35 2 = 1) (hW : 2 ≤ (I 35 0).toInt ∧ (I 35 0).toInt ≤ 6) (hH : 2 ≤ (I 35 1).toInt ∧ (I 35 1).toInt ≤ 6) (hs : 0 ≤ s.toInt ∧ s.toInt ≤ 2) (hkd : kd.toInt ≤ 8)
    (fin : ∀ (f : Nat → Int64) (n t : Int32) (N : Nat) (R' : Nat → Nat) (T' : List ez_C) (c k : Nat), n.toInt = N → N ≤ 300 → cx_hok cx_B0 I R' T' → cx_leT T T' → c + T.length = T'.length → k + cx_mem T = cx_mem T' → ev_W X 190 245 [.ref 35, .int s, .int n, .int kd, .int t] [] (ev_hp I (ev_sJ J 39 f) R' T') c k Q) :
    ∀ (D tn N : Nat) (t n : Int32) (f : Nat → Int64) (R' : Nat → Nat) (T' : List ez_C) (c k : Nat), t.toInt = tn → n.toInt = N → (kd.toInt - t.toInt).toNat = D → tn ≤ 8 → N ≤ 36 * tn → fs_srt f s.toInt.toNat N → cx_hok cx_B0 I R' T' → cx_leT T T' → c + T.length = T'.length → k + cx_mem T = cx_mem T' →
      ev_W X 190 35 [.ref 35, .int s, .int n, .int kd, .int t] [] (ev_hp I (ev_sJ J 39 f) R' T') c k Q := by
  have e0 : (0 : Int32).toInt = 0 := by decide
  have e1 : (1 : Int32).toInt = 1 := by decide
  intro D
  induction D with
  | zero =>
    intro tn N t n f R' T' c k ht hn hD h8 hN hsr hh hT hc hk
    refine ev_if (fs_rN X I _ R' T' s n kd t _ _) (fun _ => fin f n t N R' T' c k hn (by omega) hh hT hc hk) (fun hc => ?_)
    exact absurd (Int32.le_iff_toInt_le.mpr (by omega)) (of_decide_eq_false hc)
  | succ D ih =>
    intro tn N t n f R' T' c k ht hn hD h8 hN hsr hh hT hc hk
    refine ev_if (fs_rN X I _ R' T' s n kd t _ _) (fun _ => fin f n t N R' T' c k hn (by omega) hh hT hc hk) (fun _ => ?_)
    refine cx_seg (K := cs_o) cx_hA0 cs_o_g cs_o_v (σ0 := [s.toInt, n.toInt, kd.toInt, t.toInt]) hX2 hh
      ⟨⟨rfl, ⟨s, rfl, rfl⟩, ⟨n, rfl, rfl⟩, ⟨kd, rfl, rfl⟩, ⟨t, rfl, rfl⟩, trivial⟩, trivial,
        cx_iv_cons hs (cx_iv_cons (cx_full32 n) (cx_iv_cons (cx_full32 kd) (cx_iv_cons (cx_full32 t) cx_iv_nil))), cx_nil,
        fun e he => (by cases he), fun e he => (by cases he)⟩ ?_ ?_
    · rintro r h' c' k' ⟨I', J', R', T', -, -, -, -, -, -, E, hE, -⟩
      cases hE
    · intro pc' A hA σ ls' st' I' J' R2 T2 c' k' x1 x2 x3 x4 x5 x6 x7
      obtain ⟨rfl, rfl⟩ := cx_fr_nil x3
      obtain ⟨rfl, rfl⟩ := cx_fAn1 hA
      obtain ⟨y1, y2, y3, -⟩ := x7
      obtain ⟨v1, t1, rfl, rfl, g1⟩ := cx_L_inv y1
      obtain ⟨v2, t2, rfl, ⟨s', rfl, z2⟩, g2⟩ := cx_L_inv g1
      obtain ⟨v3, t3, rfl, ⟨n', rfl, z3⟩, g3⟩ := cx_L_inv g2
      obtain ⟨v4, t4, rfl, ⟨kd', rfl, z4⟩, g4⟩ := cx_L_inv g3
      obtain ⟨v5, t5, rfl, ⟨t', rfl, z5⟩, g5⟩ := cx_L_inv g4
      obtain ⟨v6, t6, rfl, ⟨as, rfl, z6⟩, g6⟩ := cx_L_inv g5
      obtain ⟨v7, t7, rfl, ⟨m, rfl, z7⟩, g7⟩ := cx_L_inv g6
      obtain rfl := cx_L_nil g7 rfl
      obtain rfl := cx_L_nil y2 rfl
      have w0 := x1 0 s.toInt rfl
      have w1 := x1 1 n.toInt rfl
      have w2 := x1 2 kd.toInt rfl
      have w3 := x1 3 t.toInt rfl
      rw [z2] at w0
      rw [z3] at w1
      rw [z4] at w2
      rw [z5] at w3
      injection w0 with w0
      injection w1 with w1
      injection w2 with w2
      injection w3 with w3
      obtain rfl := cx_i32_eq w0
      obtain rfl := cx_i32_eq w1
      obtain rfl := cx_i32_eq w2
      obtain rfl := cx_i32_eq w3
      have hm := y3.2 5 m.toInt (0, 0) z7 rfl
      simp only at hm
      have ht1 : (t' + 1).toInt = ((tn + 1 : Nat) : Int) := by
        rw [Int32.toInt_add, e1, cx_bm32]
        · omega
        · simp only [cx_i32]; omega
      refine fs_m (tn := tn) hwr hW hH hs (by omega) (fun f' n2 m2 N2 hn2 hs2 hN2 => ?_) 100 0 N m n' f (by omega) hn (by omega) ⟨hsr, fun m' hm' => absurd hm' (Nat.not_lt_zero _), [], List.nodup_nil, fun r hr => (by cases hr), by simp only [List.length_nil]; omega⟩
      refine ev_seg (fs_rM X _ _ R2 T2 s' n2 kd' t' as m2 _ _) ?_
      refine ev_cutl (by rfl) ?_
      exact ih (tn + 1) N2 (t' + 1) n2 f' R2 T2 c' k' ht1 hn2 (by omega) (by omega) (by omega) hs2 x2 (cx_leT_t hT x4) (by omega) (by omega)
/-- of the numbers of spots only this ship's changes -/
noncomputable def fs_Q (I : Nat → Nat → Int32) (J : Nat → Nat → Int64) (T : List ez_C) (s : Nat) : ev_Q := fun r h' c' k' => r = none ∧ ∃ I' J' R' T', h' = ev_hp I' J' R' T' ∧ cx_hok cx_B0 I' R' T' ∧ (∀ a q, a ≠ 40 → (a ≠ 38 ∨ q ≠ s) → I' a q = I a q) ∧ (∀ a q, a ≠ 39 → a ≠ 40 → J' a q = J a q) ∧
  cx_leT T T' ∧ c' + T.length = T'.length ∧ k' + cx_mem T = cx_mem T'
theorem eh_fs (X : ez_X) (hX2 : X.1 < 2 ^ 31) (s : Int32) (hs : 0 ≤ s.toInt ∧ s.toInt ≤ 2) (I : Nat → Nat → Int32) (J : Nat → Nat → Int64) (R : Nat → Nat) (T : List ez_C) (hh : cx_hok cx_B0 I R T) : ev_W X 190 0 (ez_lay [.ref 35, .int s]) [] (ev_hp I J R T) 0 0 (fs_Q I J T s.toInt.toNat) := by
  have hW := hh.1 35 0
  have hH := hh.1 35 1
  have hwr := hh.1 35 2
  rw [show cx_B0 35 0 = (2, 6) from rfl] at hW
  rw [show cx_B0 35 1 = (2, 6) from rfl] at hH
  rw [show cx_B0 35 2 = (0, 1) from rfl] at hwr
  simp only at hW hH hwr
  have hwr := cx_01 hwr.1 hwr.2
  refine cx_seg (K := cs_k) cx_hA0 cs_k_g cs_k_v (σ0 := [s.toInt]) hX2 hh
    ⟨⟨rfl, ⟨s, rfl, rfl⟩, trivial⟩, trivial, cx_iv_cons hs cx_iv_nil, cx_nil, fun e he => (by cases he), fun e he => (by cases he)⟩ ?_ ?_
  · rintro r h' c' k' ⟨I', J', R', T', -, -, -, -, -, -, E, hE, -⟩
    cases hE
  · intro pc' A hA σ ls' st' I' J' R2 T2 c' k' x1 x2 x3 x4 x5 x6 x7
    obtain ⟨rfl, rfl⟩ := cx_fr_nil x3
    obtain ⟨rfl, rfl⟩ := cx_fAn1 hA
    obtain ⟨y1, y2, y3, -⟩ := x7
    obtain ⟨v1, t1, rfl, rfl, g1⟩ := cx_L_inv y1
    obtain ⟨v2, t2, rfl, ⟨s', rfl, z2⟩, g2⟩ := cx_L_inv g1
    obtain ⟨v3, t3, rfl, ⟨n, rfl, z3⟩, g3⟩ := cx_L_inv g2
    obtain ⟨v4, t4, rfl, ⟨kd, rfl, z4⟩, g4⟩ := cx_L_inv g3
    obtain ⟨v5, t5, rfl, ⟨t, rfl, z5⟩, g5⟩ := cx_L_inv g4
    obtain rfl := cx_L_nil g5 rfl
    obtain rfl := cx_L_nil y2 rfl
    have w0 := x1 0 s.toInt rfl
    rw [z2] at w0
    injection w0 with w0
    obtain rfl := cx_i32_eq w0
    have h1 := y3.2 1 n.toInt (0, 0) z3 rfl
    have h2 := y3.2 2 kd.toInt (1, 8) z4 rfl
    have h3 := y3.2 3 t.toInt (0, 0) z5 rfl
    simp only at h1 h2 h3
    rw [show ev_hp I' J' R2 T2 = ev_hp I' (ev_sJ J' 39 (J' 39)) R2 T2 by rw [fs_sJ_self]]
    refine fs_t X hX2 I' J' T s' kd _ hwr hW hH hs h2.2 (fun f n2 t2 N R3 T3 c k hn hN b1 b2 b3 b4 => ?_) (kd.toInt - t.toInt).toNat 0 0 t n (J' 39) R2 T2 c' k' (by omega) (by omega) rfl (by omega) (by omega) (fun a b _ hb => absurd hb (Nat.not_lt_zero _)) x2 x4 (by omega) (by omega)
    refine ev_seg (fs_rO X I' _ R3 T3 s' n2 kd t2 _ _) ?_
    refine ev_iastH (h2 := ev_hp (ev_sI I' 38 (upd (I' 38) s'.toInt.toNat n2)) (ev_sJ J' 39 f) R3 T3) (by rfl) (cx_getI (show cx_Ds[38]? = some (0, 3, []) from rfl)) (fs_ixs (by omega) (by omega)) (cx_setI (show cx_Ds[38]? = some (0, 3, []) from rfl) _) ?_
    have b1' : cx_hok cx_B0 (ev_sI I' 38 (upd (I' 38) s'.toInt.toNat n2)) R3 T3 := ⟨cx_hB_I b1.1 fun q => by
      rw [show cx_B0 38 q = (0, 300) from rfl]
      unfold upd
      split
      · simp only; omega
      · exact b1.1 38 q, b1.2⟩
    refine (cq_fs_v X [s'.toInt, n2.toInt, kd.toInt, t2.toInt] [.ref 35, .int s', .int n2, .int kd, .int t2] [] _ (ev_sJ J' 39 f) R3 T3 c k hX2 b1' ⟨⟨rfl, ⟨s', rfl, rfl⟩, ⟨n2, rfl, rfl⟩, ⟨kd, rfl, rfl⟩, ⟨t2, rfl, rfl⟩, trivial⟩, trivial,
      cx_iv_cons hs (cx_iv_cons (by simp only; omega) (cx_iv_cons (cx_full32 kd) (cx_iv_cons (cx_full32 t2) cx_iv_nil))), cx_nil, fun e he => (by cases he), fun e he => (by cases he)⟩).mono ?_
    rintro r h' c2 k2 ⟨I4, J4, R4, T4, rfl, p1, p2, p3, p4, p5, E, hE, τ, p6, p7⟩
    have hr : r = none := by
      have hE : E ∈ [([], [], [(0, 2), (0, 300), cx_i32, cx_i32], [], [], [])] := hE
      rw [List.mem_singleton.mp hE] at p7
      cases r with
      | none => rfl
      | some v => have := p7.2.1; simp [cx_L] at this
    subst hr
    have hmay : ∀ a q, a ≠ 40 → cx_may [(40, 999)] a q = false := fun a q ha => by
      unfold cx_may
      simp only [List.any_cons, List.any_nil, Bool.or_false]
      rw [cx_beqf (fun z => ha z.symm)]
      rfl
    refine ⟨rfl, I4, J4, R4, T4, rfl, p1, fun a q ha hq => ?_, fun a q ha hb => ?_, cx_leT_t b2 p3, by omega, by omega⟩
    · rw [(p2 a q (hmay a q ha)).1]
      by_cases h38 : a = 38
      · subst h38
        rw [cx_sI_s]
        unfold upd
        rw [if_neg (by omega)]
      · rw [cx_sI_n _ _ h38]
    · rw [(p2 a q (hmay a q hb)).2, cx_sJ_n _ _ ha]
theorem cv_SquaredShipsModel_findSpots : cx_valid cx_B0 190 ck_SquaredShipsModel_findSpots := by
  intro X σ0 ls I J R T hX2 hh hok
  obtain ⟨v1, t1, rfl, rfl, g2⟩ := cx_L_inv hok.1
  obtain ⟨v2, t2, rfl, ⟨s, rfl, hs1⟩, g4⟩ := cx_L_inv g2
  obtain rfl := cx_L_nil g4 rfl
  have hs := hok.2.2.1.2 0 s.toInt (0, 2) hs1 rfl
  simp only at hs
  refine (eh_fs X hX2 s hs I J R T hh).mono ?_
  rintro r h' c' k' ⟨rfl, I', J', R', T', rfl, p1, p2, p3, p4, p5, p6⟩
  refine ⟨I', J', R', T', rfl, p1, fun a q hq => ?_, p4, by omega, by omega, _, List.mem_cons_self, σ0, cx_ext_r σ0, cx_ok_none hok.2.2.1 I' _⟩
  have hq : cx_may [(38, 999), (39, 999), (40, 999)] a q = false := hq
  have hne : ∀ z, cx_all [(38, 999), (39, 999), (40, 999)] z = true → a ≠ z := fun z hz h => by
    subst h
    rw [cx_all_s hz q] at hq
    cases hq
  have h38 := hne 38 rfl
  have h39 := hne 39 rfl
  have h40 := hne 40 rfl
  exact ⟨p2 a q h40 (Or.inl h38), p3 a q h39 h40⟩
end
section
/-! The reference lays all layings: never more than 10000. -/
noncomputable def cs_i : cx_K := (([(2, 35), (1, 0), (4, 0), (0, 1), (0, 2), (0, 3), (0, 4), (0, 5)], [], [cx_i64, (0, 300), (0, 300), (0, 300), (0, 299), (0, 299)], [], [], []), [], [])
noncomputable def cs_i_A : List (Nat × cx_A) := [(167, ([(2, 35), (1, 0), (4, 0), (0, 1), (0, 2), (0, 3), (0, 4), (0, 5), (0, 6), (0, 7)], [], [cx_i64, (0, 300), (0, 300), (0, 300), (0, 299), (0, 299), (0, 1), (0, 0)], [], [], []), [])]
noncomputable def cs_i_G : List (Nat × cx_K) := []
theorem cs_i_g : ∀ g ∈ cs_i_G, cx_valid cx_B0 g.1 g.2 := cx_Gn
set_option maxRecDepth 1000000 in
theorem cs_i_v : cx_run false cx_B0 cs_i_G cs_i 167 (cx_fAn cs_i_A) none 27 false 125 cs_i.1 = true := by decide +kernel
noncomputable def cs_l : cx_K := (([(2, 35), (1, 0), (4, 0), (0, 1), (0, 2), (0, 3), (0, 4), (0, 5), (0, 6), (0, 7)], [], [cx_i64, (0, 300), (0, 300), (0, 300), (0, 299), (0, 299), (0, 1), (0, 299), (0, 9999)], [], [(35, 14, 8)], []), [(35, 14), (41, 999)], [])
noncomputable def cs_l_A : List (Nat × cx_A) := [(292, ([(2, 35), (1, 0), (4, 0), (0, 1), (0, 2), (0, 3), (0, 4), (0, 5), (0, 6), (0, 7)], [], [cx_i64, (0, 300), (0, 300), (0, 300), (0, 299), (0, 299), (0, 1), (0, 299), (0, 9999), (0, 10000)], [(9, 8, 1)], [(35, 14, 9)], []), [])]
noncomputable def cs_l_G : List (Nat × cx_K) := []
theorem cs_l_g : ∀ g ∈ cs_l_G, cx_valid cx_B0 g.1 g.2 := cx_Gn
set_option maxRecDepth 1000000 in
theorem cs_l_v : cx_run false cx_B0 cs_l_G cs_l 167 (cx_fAn cs_l_A) none 72 false 179 cs_l.1 = true := by decide +kernel
section
variable (X : ez_X) (I : Nat → Nat → Int32) (J : Nat → Nat → Int64) (R : Nat → Nat) (T : List ez_C) (al : Int64)
theorem eh_ar_r1 (cz kz : Nat) : ∀ G : ez_F, fx_up X 4 G 167 0 [.ref 35] [] (ev_hp I J R T) cz kz = G 167 4 [.ref 35, .long 1, ez_fill, .int 0] [] (ev_hp I J R T) cz kz := by
  intro G
  rfl
theorem eh_ar_r2 (i : Int32) (cz kz : Nat) : ∀ G : ez_F, fx_up X 4 G 167 4 [.ref 35, .long al, ez_fill, .int i] [] (ev_hp I J R T) cz kz = bif decide (I 35 3 ≤ i) then G 167 33 [.ref 35, .long al, ez_fill, .int i] [] (ev_hp I J R T) cz kz else G 167 12 [.ref 35, .long al, ez_fill, .int i] [] (ev_hp I J R T) cz kz := by
  intro G
  rfl
theorem eh_ar_r3 (i : Int32) (cz kz : Nat) : ∀ G : ez_F, fx_up X 3 G 167 12 [.ref 35, .long al, ez_fill, .int i] [] (ev_hp I J R T) cz kz = ev_C G 190 [.ref 35, .int i] (ev_hp I J R T) fun r h1 c1 k1 => G 167 17 [.ref 35, .long al, ez_fill, .int i] (r.toList ++ []) h1 (cz + c1) (kz + k1) := by
  intro G
  rfl
theorem eh_ar_r4 (i : Int32) (cz kz : Nat) : ∀ G : ez_F, fx_up X 4 G 167 17 [.ref 35, .long al, ez_fill, .int i] [] (ev_hp I J R T) cz kz = G 167 23 [.ref 35, .long al, ez_fill, .int i] [.int i, .ref 38, .long al] (ev_hp I J R T) cz kz := by
  intro G
  rfl
theorem eh_ar_r5 (i v : Int32) (cz kz : Nat) : ∀ G : ez_F, fx_up X 5 G 167 24 [.ref 35, .long al, ez_fill, .int i] [.int v, .long al] (ev_hp I J R T) cz kz = G 167 4 [.ref 35, .long (al * v.toInt64), ez_fill, .int (i + 1)] [] (ev_hp I J R T) cz kz := by
  intro G
  rfl
theorem eh_ar_r6 (i : Int32) (cz kz : Nat) : ∀ G : ez_F, fx_up X 4 G 167 33 [.ref 35, .long al, ez_fill, .int i] [] (ev_hp I J R T) cz kz = bif decide (lg_cmp al 10000 ≤ 0) then G 167 43 [.ref 35, .long al, ez_fill, .int i] [] (ev_hp I J R T) cz kz else G 167 41 [.ref 35, .long al, ez_fill, .int i] [] (ev_hp I J R T) cz kz := by
  intro G
  rfl
theorem eh_ar_r7 (i : Int32) (cz kz : Nat) : ∀ G : ez_F, fx_up X 2 G 167 41 [.ref 35, .long al, ez_fill, .int i] [] (ev_hp I J R T) cz kz = some (some (.int 0), ev_hp I J R T, cz, kz) := by
  intro G
  rfl
theorem eh_ar_r8 (i : Int32) (cz kz : Nat) : ∀ G : ez_F, fx_up X 3 G 167 43 [.ref 35, .long al, ez_fill, .int i] [] (ev_hp I J R T) cz kz = G 167 48 [.ref 35, .long al, ez_fill, .int i] [] (ev_hp (ev_sI I 35 (upd (I 35) 14 0)) J R T) cz kz := by
  intro G
  rfl
/-! a, b, c -/
theorem eh_ar_a1 (i : Int32) (cz kz : Nat) : ∀ G : ez_F, fx_up X 3 G 167 48 [.ref 35, .long al, ez_fill, .int i] [] (ev_hp I J R T) cz kz = bif decide (I 35 3 ≤ 0) then G 167 64 [.ref 35, .long al, ez_fill, .int i] [] (ev_hp I J R T) cz kz else G 167 55 [.ref 35, .long al, ez_fill, .int i] [] (ev_hp I J R T) cz kz := by
  intro G
  rfl
theorem eh_ar_a2 (i : Int32) (cz kz : Nat) : ∀ G : ez_F, fx_up X 6 G 167 55 [.ref 35, .long al, ez_fill, .int i] [] (ev_hp I J R T) cz kz = G 167 66 [.ref 35, .long al, ez_fill, .int (I 38 0)] [] (ev_hp I J R T) cz kz := by
  intro G
  rfl
theorem eh_ar_a3 (i : Int32) (cz kz : Nat) : ∀ G : ez_F, fx_up X 2 G 167 64 [.ref 35, .long al, ez_fill, .int i] [] (ev_hp I J R T) cz kz = G 167 66 [.ref 35, .long al, ez_fill, .int 1] [] (ev_hp I J R T) cz kz := by
  intro G
  rfl
theorem eh_ar_b1 (a : Int32) (cz kz : Nat) : ∀ G : ez_F, fx_up X 4 G 167 66 [.ref 35, .long al, ez_fill, .int a] [] (ev_hp I J R T) cz kz = bif decide (I 35 3 ≤ 1) then G 167 83 [.ref 35, .long al, ez_fill, .int a] [] (ev_hp I J R T) cz kz else G 167 74 [.ref 35, .long al, ez_fill, .int a] [] (ev_hp I J R T) cz kz := by
  intro G
  rfl
theorem eh_ar_b2 (a : Int32) (cz kz : Nat) : ∀ G : ez_F, fx_up X 6 G 167 74 [.ref 35, .long al, ez_fill, .int a] [] (ev_hp I J R T) cz kz = G 167 86 [.ref 35, .long al, ez_fill, .int a, .int (I 38 1)] [] (ev_hp I J R T) cz kz := by
  intro G
  rfl
theorem eh_ar_b3 (a : Int32) (cz kz : Nat) : ∀ G : ez_F, fx_up X 2 G 167 83 [.ref 35, .long al, ez_fill, .int a] [] (ev_hp I J R T) cz kz = G 167 86 [.ref 35, .long al, ez_fill, .int a, .int 1] [] (ev_hp I J R T) cz kz := by
  intro G
  rfl
theorem eh_ar_c1 (a b : Int32) (cz kz : Nat) : ∀ G : ez_F, fx_up X 4 G 167 86 [.ref 35, .long al, ez_fill, .int a, .int b] [] (ev_hp I J R T) cz kz = bif decide (I 35 3 ≤ 2) then G 167 103 [.ref 35, .long al, ez_fill, .int a, .int b] [] (ev_hp I J R T) cz kz else G 167 94 [.ref 35, .long al, ez_fill, .int a, .int b] [] (ev_hp I J R T) cz kz := by
  intro G
  rfl
theorem eh_ar_c2 (a b : Int32) (cz kz : Nat) : ∀ G : ez_F, fx_up X 8 G 167 94 [.ref 35, .long al, ez_fill, .int a, .int b] [] (ev_hp I J R T) cz kz = G 167 109 [.ref 35, .long al, ez_fill, .int a, .int b, .int (I 38 2), .int 0] [] (ev_hp I J R T) cz kz := by
  intro G
  rfl
theorem eh_ar_c3 (a b : Int32) (cz kz : Nat) : ∀ G : ez_F, fx_up X 4 G 167 103 [.ref 35, .long al, ez_fill, .int a, .int b] [] (ev_hp I J R T) cz kz = G 167 109 [.ref 35, .long al, ez_fill, .int a, .int b, .int 1, .int 0] [] (ev_hp I J R T) cz kz := by
  intro G
  rfl
/-! the loops -/
theorem eh_ar_i1 (a b c i : Int32) (cz kz : Nat) : ∀ G : ez_F, fx_up X 3 G 167 109 [.ref 35, .long al, ez_fill, .int a, .int b, .int c, .int i] [] (ev_hp I J R T) cz kz = bif decide (a ≤ i) then G 167 310 [.ref 35, .long al, ez_fill, .int a, .int b, .int c, .int i] [] (ev_hp I J R T) cz kz else G 167 115 [.ref 35, .long al, ez_fill, .int a, .int b, .int c, .int i] [] (ev_hp I J R T) cz kz := by
  intro G
  rfl
theorem eh_ar_i2 (a b c i : Int32) (cz kz : Nat) : ∀ G : ez_F, fx_up X 2 G 167 310 [.ref 35, .long al, ez_fill, .int a, .int b, .int c, .int i] [] (ev_hp I J R T) cz kz = some (some (.int 1), ev_hp I J R T, cz, kz) := by
  intro G
  rfl
theorem eh_ar_i3 (a b c i : Int32) (cz kz : Nat) : ∀ G : ez_F, fx_up X 2 G 167 115 [.ref 35, .long al, ez_fill, .int a, .int b, .int c, .int i] [] (ev_hp I J R T) cz kz = G 167 118 [.ref 35, .long al, ez_fill, .int a, .int b, .int c, .int i, .int 0] [] (ev_hp I J R T) cz kz := by
  intro G
  rfl
theorem eh_ar_i4 (a b c i j : Int32) (cz kz : Nat) : ∀ G : ez_F, fx_up X 2 G 167 304 [.ref 35, .long al, ez_fill, .int a, .int b, .int c, .int i, .int j] [] (ev_hp I J R T) cz kz = G 167 109 [.ref 35, .long al, ez_fill, .int a, .int b, .int c, .int (i + 1), .int j] [] (ev_hp I J R T) cz kz := by
  intro G
  rfl
theorem eh_ar_j1 (a b c i j : Int32) (cz kz : Nat) : ∀ G : ez_F, fx_up X 3 G 167 118 [.ref 35, .long al, ez_fill, .int a, .int b, .int c, .int i, .int j] [] (ev_hp I J R T) cz kz = bif decide (b ≤ j) then G 167 304 [.ref 35, .long al, ez_fill, .int a, .int b, .int c, .int i, .int j] [] (ev_hp I J R T) cz kz else G 167 125 [.ref 35, .long al, ez_fill, .int a, .int b, .int c, .int i, .int j] [] (ev_hp I J R T) cz kz := by
  intro G
  rfl
theorem eh_ar_j2 (a b c i j w k : Int32) (cz kz : Nat) : ∀ G : ez_F, fx_up X 2 G 167 298 [.ref 35, .long al, ez_fill, .int a, .int b, .int c, .int i, .int j, .int w, .int k] [] (ev_hp I J R T) cz kz = G 167 118 [.ref 35, .long al, ez_fill, .int a, .int b, .int c, .int i, .int (j + 1), .int w, .int k] [] (ev_hp I J R T) cz kz := by
  intro G
  rfl
theorem eh_ar_k1 (a b c i j w k : Int32) (cz kz : Nat) : ∀ G : ez_F, fx_up X 3 G 167 167 [.ref 35, .long al, ez_fill, .int a, .int b, .int c, .int i, .int j, .int w, .int k] [] (ev_hp I J R T) cz kz = bif decide (c ≤ k) then G 167 298 [.ref 35, .long al, ez_fill, .int a, .int b, .int c, .int i, .int j, .int w, .int k] [] (ev_hp I J R T) cz kz else G 167 174 [.ref 35, .long al, ez_fill, .int a, .int b, .int c, .int i, .int j, .int w, .int k] [] (ev_hp I J R T) cz kz := by
  intro G
  rfl
theorem eh_ar_k2 (a b c i j w k : Int32) (cz kz : Nat) : ∀ G : ez_F, fx_up X 2 G 167 174 [.ref 35, .long al, ez_fill, .int a, .int b, .int c, .int i, .int j, .int w, .int k] [] (ev_hp I J R T) cz kz = bif decide (w = 0) then G 167 298 [.ref 35, .long al, ez_fill, .int a, .int b, .int c, .int i, .int j, .int w, .int k] [] (ev_hp I J R T) cz kz else G 167 179 [.ref 35, .long al, ez_fill, .int a, .int b, .int c, .int i, .int j, .int w, .int k] [] (ev_hp I J R T) cz kz := by
  intro G
  rfl
theorem eh_ar_k3 (a b c i j w k : Int32) (cz kz : Nat) : ∀ G : ez_F, fx_up X 2 G 167 292 [.ref 35, .long al, ez_fill, .int a, .int b, .int c, .int i, .int j, .int w, .int k] [] (ev_hp I J R T) cz kz = G 167 167 [.ref 35, .long al, ez_fill, .int a, .int b, .int c, .int i, .int j, .int w, .int (k + 1)] [] (ev_hp I J R T) cz kz := by
  intro G
  rfl
end
/-- what may have changed since the loops began -/
noncomputable def ar_S (I : Nat → Nat → Int32) (J : Nat → Nat → Int64) (T : List ez_C) (c0 k0 : Nat) (I' : Nat → Nat → Int32) (J' : Nat → Nat → Int64) (R' : Nat → Nat) (T' : List ez_C) (c k : Nat) : Prop := cx_hok cx_B0 I' R' T' ∧ cx_fr [(35, 14), (41, 999)] I J I' J' ∧ cx_leT T T' ∧ c + T.length = c0 + T'.length ∧ k + cx_mem T = k0 + cx_mem T'
theorem ar_S_t {I I1 I2 : Nat → Nat → Int32} {J J1 J2 : Nat → Nat → Int64} {R1 R2 : Nat → Nat} {T T1 T2 : List ez_C} {c0 k0 c1 k1 c2 k2 : Nat} (h : ar_S I J T c0 k0 I1 J1 R1 T1 c1 k1) (h2 : ar_S I1 J1 T1 c1 k1 I2 J2 R2 T2 c2 k2) : ar_S I J T c0 k0 I2 J2 R2 T2 c2 k2 := by
  obtain ⟨-, a2, a3, a4, a5⟩ := h
  obtain ⟨b1, b2, b3, b4, b5⟩ := h2
  exact ⟨b1, cx_fr_t a2 b2, cx_leT_t a3 b3, by omega, by omega⟩
section
variable {X : ez_X} {a b c : Int32} {Q : ev_Q}
theorem ar_k (hX2 : X.1 < 2 ^ 31) (ha : 0 ≤ a.toInt ∧ a.toInt ≤ 300) (hb : 0 ≤ b.toInt ∧ b.toInt ≤ 300) (hc : 0 ≤ c.toInt ∧ c.toInt ≤ 300) (hi : Int) (hhi : hi ≤ 10000) {i j w : Int32} (hI : 0 ≤ i.toInt ∧ i.toInt ≤ 299) (hJ : 0 ≤ j.toInt ∧ j.toInt ≤ 299) (hw : 0 ≤ w.toInt ∧ w.toInt ≤ 1) {I0 : Nat → Nat → Int32} {J0 : Nat → Nat → Int64} {T0 : List ez_C} {c0 k0 : Nat}
    (cont : ∀ (al : Int64) (k : Int32) (I' : Nat → Nat → Int32) (J' : Nat → Nat → Int64) (R' : Nat → Nat) (T' : List ez_C) (c' k' : Nat), ar_S I0 J0 T0 c0 k0 I' J' R' T' c' k' → (I' 35 14).toInt ≤ hi →
      ev_W X 167 298 [.ref 35, .long al, ez_fill, .int a, .int b, .int c, .int i, .int j, .int w, .int k] [] (ev_hp I' J' R' T') c' k' Q) :
    ∀ (D : Nat) (k : Int32) (al : Int64) (I' : Nat → Nat → Int32) (J' : Nat → Nat → Int64) (R' : Nat → Nat) (T' : List ez_C) (c' k' : Nat), 0 ≤ k.toInt → (c.toInt - k.toInt).toNat = D → ar_S I0 J0 T0 c0 k0 I' J' R' T' c' k' → (I' 35 14).toInt + (D : Int) ≤ hi →
      ev_W X 167 167 [.ref 35, .long al, ez_fill, .int a, .int b, .int c, .int i, .int j, .int w, .int k] [] (ev_hp I' J' R' T') c' k' Q := by
  have e1 : (1 : Int32).toInt = 1 := by decide
  intro D
  induction D with
  | zero =>
    intro k al I' J' R' T' c' k' hk hD hS hL
    refine ev_if (eh_ar_k1 X I' J' R' T' al a b c i j w k _ _) (fun _ => cont al k I' J' R' T' c' k' hS (by omega)) (fun z => ?_)
    exact absurd (Int32.le_iff_toInt_le.mpr (by omega)) (of_decide_eq_false z)
  | succ D ih =>
    intro k al I' J' R' T' c' k' hk hD hS hL
    refine ev_if (eh_ar_k1 X I' J' R' T' al a b c i j w k _ _) (fun _ => cont al k I' J' R' T' c' k' hS (by omega)) (fun _ => ?_)
    refine ev_if (eh_ar_k2 X I' J' R' T' al a b c i j w k _ _) (fun _ => cont al k I' J' R' T' c' k' hS (by omega)) (fun _ => ?_)
    have h14 := hS.1.1 35 14
    rw [show cx_B0 35 14 = (0, 10000) from rfl] at h14
    simp only at h14
    have hk1 : (k + 1).toInt = k.toInt + 1 := by
      rw [Int32.toInt_add, e1, cx_bm32]
      simp only [cx_i32]
      omega
    refine cx_seg (K := cs_l) cx_hA0 cs_l_g cs_l_v (σ0 := [al.toInt, a.toInt, b.toInt, c.toInt, i.toInt, j.toInt, w.toInt, k.toInt, (I' 35 14).toInt]) hX2 hS.1
      ⟨⟨rfl, ⟨al, rfl, rfl⟩, rfl, ⟨a, rfl, rfl⟩, ⟨b, rfl, rfl⟩, ⟨c, rfl, rfl⟩, ⟨i, rfl, rfl⟩, ⟨j, rfl, rfl⟩, ⟨w, rfl, rfl⟩, ⟨k, rfl, rfl⟩, trivial⟩, trivial,
        cx_iv_cons (cx_full64 al) (cx_iv_cons ha (cx_iv_cons hb (cx_iv_cons hc (cx_iv_cons hI (cx_iv_cons hJ (cx_iv_cons hw (cx_iv_cons (by simp only; omega) (cx_iv_cons (by simp only; omega) cx_iv_nil)))))))), cx_nil,
        fun e he => by rw [List.mem_singleton.mp he]; rfl, fun e he => (by cases he)⟩ ?_ ?_
    · rintro r h' c' k' ⟨I', J', R', T', -, -, -, -, -, -, E, hE, -⟩
      cases hE
    · intro pc' A hA σ ls' st' I2 J2 R2 T2 c2 k2 x1 x2 x3 x4 x5 x6 x7
      obtain ⟨rfl, rfl⟩ := cx_fAn1 hA
      obtain ⟨y1, y2, y3, y4, y5, -⟩ := x7
      obtain ⟨v1, t1, rfl, rfl, g1⟩ := cx_L_inv y1
      obtain ⟨v2, t2, rfl, ⟨al', rfl, -⟩, g2⟩ := cx_L_inv g1
      obtain ⟨v3, t3, rfl, rfl, g3⟩ := cx_L_inv g2
      obtain ⟨v4, t4, rfl, ⟨a', rfl, z4⟩, g4⟩ := cx_L_inv g3
      obtain ⟨v5, t5, rfl, ⟨b', rfl, z5⟩, g5⟩ := cx_L_inv g4
      obtain ⟨v6, t6, rfl, ⟨c3, rfl, z6⟩, g6⟩ := cx_L_inv g5
      obtain ⟨v7, t7, rfl, ⟨i', rfl, z7⟩, g7⟩ := cx_L_inv g6
      obtain ⟨v8, t8, rfl, ⟨j', rfl, z8⟩, g8⟩ := cx_L_inv g7
      obtain ⟨v9, t9, rfl, ⟨w', rfl, z9⟩, g9⟩ := cx_L_inv g8
      obtain ⟨va, ta, rfl, ⟨k3, rfl, za⟩, ga⟩ := cx_L_inv g9
      obtain rfl := cx_L_nil ga rfl
      obtain rfl := cx_L_nil y2 rfl
      have q1 := x1 1 a.toInt rfl
      have q2 := x1 2 b.toInt rfl
      have q3 := x1 3 c.toInt rfl
      have q4 := x1 4 i.toInt rfl
      have q5 := x1 5 j.toInt rfl
      have q6 := x1 6 w.toInt rfl
      have q7 := x1 7 k.toInt rfl
      have q8 := x1 8 (I' 35 14).toInt rfl
      rw [z4] at q1
      rw [z5] at q2
      rw [z6] at q3
      rw [z7] at q4
      rw [z8] at q5
      rw [z9] at q6
      rw [za] at q7
      injection q1 with q1
      injection q2 with q2
      injection q3 with q3
      injection q4 with q4
      injection q5 with q5
      injection q6 with q6
      injection q7 with q7
      obtain rfl := cx_i32_eq q1
      obtain rfl := cx_i32_eq q2
      obtain rfl := cx_i32_eq q3
      obtain rfl := cx_i32_eq q4
      obtain rfl := cx_i32_eq q5
      obtain rfl := cx_i32_eq q6
      obtain rfl := cx_i32_eq q7
      have w9 := y5 (35, 14, 9) List.mem_cons_self
      obtain ⟨p1, p2, o1, o2, o3⟩ := y4 (9, 8, 1) (by decide)
      simp only at o1 o2 o3 w9
      rw [w9] at o1
      rw [q8] at o2
      injection o1 with o1
      injection o2 with o2
      refine ev_seg (eh_ar_k3 X I2 J2 R2 T2 al' a' b' c3 i' j' w' k3 _ _) ?_
      exact ih (k3 + 1) al' I2 J2 R2 T2 c2 k2 (by omega) (by omega) (ar_S_t hS ⟨x2, x3, x4, x5, x6⟩) (by omega)
theorem ar_j (hX2 : X.1 < 2 ^ 31) (ha : 0 ≤ a.toInt ∧ a.toInt ≤ 300) (hb : 0 ≤ b.toInt ∧ b.toInt ≤ 300) (hc : 0 ≤ c.toInt ∧ c.toInt ≤ 300) (hi : Int) (hhi : hi ≤ 10000) {i : Int32} (hI : 0 ≤ i.toInt ∧ i.toInt ≤ 299) {I0 : Nat → Nat → Int32} {J0 : Nat → Nat → Int64} {T0 : List ez_C} {c0 k0 : Nat}
    (cont : ∀ (al : Int64) (j : Int32) (I' : Nat → Nat → Int32) (J' : Nat → Nat → Int64) (R' : Nat → Nat) (T' : List ez_C) (c' k' : Nat), ar_S I0 J0 T0 c0 k0 I' J' R' T' c' k' → (I' 35 14).toInt ≤ hi →
      ev_W X 167 304 [.ref 35, .long al, ez_fill, .int a, .int b, .int c, .int i, .int j] [] (ev_hp I' J' R' T') c' k' Q) :
    ∀ (D : Nat) (j : Int32) (al : Int64) (I' : Nat → Nat → Int32) (J' : Nat → Nat → Int64) (R' : Nat → Nat) (T' : List ez_C) (c' k' : Nat), 0 ≤ j.toInt → (b.toInt - j.toInt).toNat = D → ar_S I0 J0 T0 c0 k0 I' J' R' T' c' k' → (I' 35 14).toInt + (D : Int) * c.toInt ≤ hi →
      ev_W X 167 118 [.ref 35, .long al, ez_fill, .int a, .int b, .int c, .int i, .int j] [] (ev_hp I' J' R' T') c' k' Q := by
  have e1 : (1 : Int32).toInt = 1 := by decide
  intro D
  induction D with
  | zero =>
    intro j al I' J' R' T' c' k' hj hD hS hL
    refine ev_if (eh_ar_j1 X I' J' R' T' al a b c i j _ _) (fun _ => cont al j I' J' R' T' c' k' hS (by simpa using hL)) (fun z => ?_)
    exact absurd (Int32.le_iff_toInt_le.mpr (by omega)) (of_decide_eq_false z)
  | succ D ih =>
    intro j al I' J' R' T' c' k' hj hD hS hL
    rw [ev_mulS] at hL
    have hDc : 0 ≤ (D : Int) * c.toInt := Int.mul_nonneg (Int.natCast_nonneg D) hc.1
    refine ev_if (eh_ar_j1 X I' J' R' T' al a b c i j _ _) (fun _ => cont al j I' J' R' T' c' k' hS (by omega)) (fun _ => ?_)
    have hj1 : (j + 1).toInt = j.toInt + 1 := by
      rw [Int32.toInt_add, e1, cx_bm32]
      simp only [cx_i32]
      omega
    have hJ : 0 ≤ j.toInt ∧ j.toInt ≤ 299 := by omega
    refine cx_seg (K := cs_i) cx_hA0 cs_i_g cs_i_v (σ0 := [al.toInt, a.toInt, b.toInt, c.toInt, i.toInt, j.toInt]) hX2 hS.1
      ⟨⟨rfl, ⟨al, rfl, rfl⟩, rfl, ⟨a, rfl, rfl⟩, ⟨b, rfl, rfl⟩, ⟨c, rfl, rfl⟩, ⟨i, rfl, rfl⟩, ⟨j, rfl, rfl⟩, trivial⟩, trivial,
        cx_iv_cons (cx_full64 al) (cx_iv_cons ha (cx_iv_cons hb (cx_iv_cons hc (cx_iv_cons hI (cx_iv_cons hJ cx_iv_nil))))), cx_nil,
        fun e he => (by cases he), fun e he => (by cases he)⟩ ?_ ?_
    · rintro r h' c' k' ⟨I', J', R', T', -, -, -, -, -, -, E, hE, -⟩
      cases hE
    · intro pc' A hA σ ls' st' I2 J2 R2 T2 c2 k2 x1 x2 x3 x4 x5 x6 x7
      obtain ⟨rfl, rfl⟩ := cx_fr_nil x3
      obtain ⟨rfl, rfl⟩ := cx_fAn1 hA
      obtain ⟨y1, y2, y3, -⟩ := x7
      obtain ⟨v1, t1, rfl, rfl, g1⟩ := cx_L_inv y1
      obtain ⟨v2, t2, rfl, ⟨al', rfl, -⟩, g2⟩ := cx_L_inv g1
      obtain ⟨v3, t3, rfl, rfl, g3⟩ := cx_L_inv g2
      obtain ⟨v4, t4, rfl, ⟨a', rfl, z4⟩, g4⟩ := cx_L_inv g3
      obtain ⟨v5, t5, rfl, ⟨b', rfl, z5⟩, g5⟩ := cx_L_inv g4
      obtain ⟨v6, t6, rfl, ⟨c3, rfl, z6⟩, g6⟩ := cx_L_inv g5
      obtain ⟨v7, t7, rfl, ⟨i', rfl, z7⟩, g7⟩ := cx_L_inv g6
      obtain ⟨v8, t8, rfl, ⟨j', rfl, z8⟩, g8⟩ := cx_L_inv g7
      obtain ⟨v9, t9, rfl, ⟨w, rfl, z9⟩, g9⟩ := cx_L_inv g8
      obtain ⟨va, ta, rfl, ⟨k, rfl, za⟩, ga⟩ := cx_L_inv g9
      obtain rfl := cx_L_nil ga rfl
      obtain rfl := cx_L_nil y2 rfl
      have q1 := x1 1 a.toInt rfl
      have q2 := x1 2 b.toInt rfl
      have q3 := x1 3 c.toInt rfl
      have q4 := x1 4 i.toInt rfl
      have q5 := x1 5 j.toInt rfl
      rw [z4] at q1
      rw [z5] at q2
      rw [z6] at q3
      rw [z7] at q4
      rw [z8] at q5
      injection q1 with q1
      injection q2 with q2
      injection q3 with q3
      injection q4 with q4
      injection q5 with q5
      obtain rfl := cx_i32_eq q1
      obtain rfl := cx_i32_eq q2
      obtain rfl := cx_i32_eq q3
      obtain rfl := cx_i32_eq q4
      obtain rfl := cx_i32_eq q5
      have hw := y3.2 6 w.toInt (0, 1) z9 rfl
      have hk := y3.2 7 k.toInt (0, 0) za rfl
      simp only at hw hk
      have hS2 : ar_S I0 J0 T0 c0 k0 I2 J2 R2 T2 c2 k2 := ar_S_t hS ⟨x2, cx_fr_r _ _ _, x4, x5, x6⟩
      refine ar_k hX2 ha hb hc ((I2 35 14).toInt + c3.toInt) (by omega) hI hJ hw (I0 := I0) (J0 := J0) (T0 := T0) (c0 := c0) (k0 := k0) (fun al2 k2' I3 J3 R3 T3 c4 k4 hS3 hL3 => ?_) (c3.toInt - k.toInt).toNat k al' I2 J2 R2 T2 c2 k2 (by omega) rfl hS2 (by omega)
      refine ev_seg (eh_ar_j2 X I3 J3 R3 T3 al2 a' b' c3 i' j' w k2' _ _) ?_
      refine ev_cutl (by rfl) ?_
      exact ih (j' + 1) al2 I3 J3 R3 T3 c4 k4 (by omega) (by omega) hS3 (by omega)
theorem ar_i (hX2 : X.1 < 2 ^ 31) (ha : 0 ≤ a.toInt ∧ a.toInt ≤ 300) (hb : 0 ≤ b.toInt ∧ b.toInt ≤ 300) (hc : 0 ≤ c.toInt ∧ c.toInt ≤ 300) {I0 : Nat → Nat → Int32} {J0 : Nat → Nat → Int64} {T0 : List ez_C} {c0 k0 : Nat}
    (cont : ∀ (I' : Nat → Nat → Int32) (J' : Nat → Nat → Int64) (R' : Nat → Nat) (T' : List ez_C) (c' k' : Nat), ar_S I0 J0 T0 c0 k0 I' J' R' T' c' k' → Q (some (.int 1)) (ev_hp I' J' R' T') c' k') :
    ∀ (D : Nat) (i : Int32) (al : Int64) (I' : Nat → Nat → Int32) (J' : Nat → Nat → Int64) (R' : Nat → Nat) (T' : List ez_C) (c' k' : Nat), 0 ≤ i.toInt → (a.toInt - i.toInt).toNat = D → ar_S I0 J0 T0 c0 k0 I' J' R' T' c' k' → (I' 35 14).toInt + (D : Int) * (b.toInt * c.toInt) ≤ 10000 →
      ev_W X 167 109 [.ref 35, .long al, ez_fill, .int a, .int b, .int c, .int i] [] (ev_hp I' J' R' T') c' k' Q := by
  have e0 : (0 : Int32).toInt = 0 := by decide
  have e1 : (1 : Int32).toInt = 1 := by decide
  intro D
  induction D with
  | zero =>
    intro i al I' J' R' T' c' k' hj hD hS hL
    refine ev_if (eh_ar_i1 X I' J' R' T' al a b c i _ _) (fun _ => ev_ret (eh_ar_i2 X I' J' R' T' al a b c i _ _) (cont I' J' R' T' c' k' hS)) (fun z => ?_)
    exact absurd (Int32.le_iff_toInt_le.mpr (by omega)) (of_decide_eq_false z)
  | succ D ih =>
    intro i al I' J' R' T' c' k' hj hD hS hL
    rw [ev_mulS] at hL
    have hbc : 0 ≤ b.toInt * c.toInt := Int.mul_nonneg hb.1 hc.1
    have hDc : 0 ≤ (D : Int) * (b.toInt * c.toInt) := Int.mul_nonneg (Int.natCast_nonneg D) hbc
    refine ev_if (eh_ar_i1 X I' J' R' T' al a b c i _ _) (fun _ => ev_ret (eh_ar_i2 X I' J' R' T' al a b c i _ _) (cont I' J' R' T' c' k' hS)) (fun _ => ?_)
    have hi1 : (i + 1).toInt = i.toInt + 1 := by
      rw [Int32.toInt_add, e1, cx_bm32]
      simp only [cx_i32]
      omega
    refine ev_seg (eh_ar_i3 X I' J' R' T' al a b c i _ _) ?_
    refine ar_j hX2 ha hb hc ((I' 35 14).toInt + b.toInt * c.toInt) (by omega) (by omega) (I0 := I0) (J0 := J0) (T0 := T0) (c0 := c0) (k0 := k0) (fun al2 j I3 J3 R3 T3 c4 k4 hS3 hL3 => ?_) (b.toInt - (0 : Int32).toInt).toNat 0 al I' J' R' T' c' k' (by decide) rfl hS ?_
    · refine ev_seg (eh_ar_i4 X I3 J3 R3 T3 al2 a b c i j _ _) ?_
      refine ev_cutl (by rfl) ?_
      exact ih (i + 1) al2 I3 J3 R3 T3 c4 k4 (by omega) (by omega) hS3 (by omega)
    · rw [e0, Int.sub_zero, Int.toNat_of_nonneg hb.1]
      omega
end
end
section
/-! The reference's areLaid, whole. -/
noncomputable def ar_pr (I : Nat → Nat → Int32) : Nat → Int
  | 0 => 1
  | n + 1 => ar_pr I n * (I 38 n).toInt
theorem ar_pr_b {I : Nat → Nat → Int32} (h : cx_hB cx_B0 I) : ∀ n, 0 ≤ ar_pr I n ∧ ar_pr I n ≤ ((300 ^ n : Nat) : Int) := by
  intro n
  induction n with
  | zero => exact ⟨(by decide : (0 : Int) ≤ 1), (by decide : (1 : Int) ≤ ((300 ^ 0 : Nat) : Int))⟩
  | succ n ih =>
    have hb := h 38 n
    rw [show cx_B0 38 n = (0, 300) from rfl] at hb
    simp only at hb
    refine ⟨Int.mul_nonneg ih.1 hb.1, ?_⟩
    have h1 : ar_pr I n * (I 38 n).toInt ≤ ((300 ^ n : Nat) : Int) * 300 := Int.mul_le_mul ih.2 hb.2 hb.1 (Int.natCast_nonneg _)
    rw [Nat.pow_succ, Int.natCast_mul]
    exact h1
theorem ar_pr_eq {I I' : Nat → Nat → Int32} : ∀ n, (∀ q, q < n → I' 38 q = I 38 q) → ar_pr I' n = ar_pr I n := by
  intro n
  induction n with
  | zero => intro _; rfl
  | succ n ih =>
    intro h
    simp only [ar_pr]
    rw [ih fun q hq => h q (by omega), h n (by omega)]
noncomputable def ar_T (I : Nat → Nat → Int32) (J : Nat → Nat → Int64) (T : List ez_C) (I' : Nat → Nat → Int32) (J' : Nat → Nat → Int64) (R' : Nat → Nat) (T' : List ez_C) (c k : Nat) : Prop := cx_hok cx_B0 I' R' T' ∧ (∀ a q, a ≠ 38 → a ≠ 40 → I' a q = I a q) ∧ (∀ a q, a ≠ 39 → a ≠ 40 → J' a q = J a q) ∧ cx_leT T T' ∧ c + T.length = T'.length ∧ k + cx_mem T = cx_mem T'
theorem ar_p (X : ez_X) (hX2 : X.1 < 2 ^ 31) (I : Nat → Nat → Int32) (J : Nat → Nat → Int64) (T : List ez_C) (Q : ev_Q) (hsh : 0 ≤ (I 35 3).toInt ∧ (I 35 3).toInt ≤ 3)
    (cont : ∀ (al : Int64) (i : Int32) (I' : Nat → Nat → Int32) (J' : Nat → Nat → Int64) (R' : Nat → Nat) (T' : List ez_C) (c k : Nat), ar_T I J T I' J' R' T' c k → al.toInt = ar_pr I' (I 35 3).toInt.toNat → ev_W X 167 33 [.ref 35, .long al, ez_fill, .int i] [] (ev_hp I' J' R' T') c k Q) :
    ∀ (D n : Nat) (i : Int32) (al : Int64) (I' : Nat → Nat → Int32) (J' : Nat → Nat → Int64) (R' : Nat → Nat) (T' : List ez_C) (c k : Nat), i.toInt = n → n + D = (I 35 3).toInt.toNat → ar_T I J T I' J' R' T' c k → al.toInt = ar_pr I' n → ev_W X 167 4 [.ref 35, .long al, ez_fill, .int i] [] (ev_hp I' J' R' T') c k Q := by
  have e1 : (1 : Int32).toInt = 1 := by decide
  intro D
  induction D with
  | zero =>
    intro n i al I' J' R' T' c k hi hD hS hal
    have e3 : I' 35 3 = I 35 3 := hS.2.1 35 3 (by decide) (by decide)
    refine ev_if (eh_ar_r2 X I' J' R' T' al i _ _) (fun _ => cont al i I' J' R' T' c k hS ?_) (fun z => ?_)
    · rw [hal, show n = (I 35 3).toInt.toNat by omega]
    · exact absurd (Int32.le_iff_toInt_le.mpr (by rw [e3]; omega)) (of_decide_eq_false z)
  | succ D ih =>
    intro n i al I' J' R' T' c k hi hD hS hal
    have e3 : I' 35 3 = I 35 3 := hS.2.1 35 3 (by decide) (by decide)
    refine ev_if (eh_ar_r2 X I' J' R' T' al i _ _) (fun z => ?_) (fun _ => ?_)
    · have := Int32.le_iff_toInt_le.mp (of_decide_eq_true z)
      rw [e3] at this
      omega
    refine ev_call (eh_ar_r3 X I' J' R' T' al i _ _) (eh_fs X hX2 i (by omega) I' J' R' T' hS.1) ?_
    rintro r h1 c1 k1 ⟨rfl, I2, J2, R2, T2, rfl, p1, p2, p3, p4, p5, p6⟩
    refine ev_seg (eh_ar_r4 X I2 J2 R2 T2 al i _ _) ?_
    refine ev_iald (by rfl) (cx_getI (show cx_Ds[38]? = some (0, 3, []) from rfl)) (fs_ixs (by omega) (by omega)) ?_
    have ei : i.toNatClampNeg = n := by
      have e2 : i.toNatClampNeg = i.toInt.toNat := rfl
      omega
    rw [ei]
    refine ev_seg (eh_ar_r5 X I2 J2 R2 T2 al i _ _ _) ?_
    have hi1 : (i + 1).toInt = ((n + 1 : Nat) : Int) := by
      rw [Int32.toInt_add, e1, cx_bm32]
      · omega
      · simp only [cx_i32]; omega
    have hpr : ar_pr I2 n = ar_pr I' n := ar_pr_eq n fun q hq => p2 38 q (by decide) (Or.inr (by omega))
    have hb := ar_pr_b p1.1 (n + 1)
    have hn3 : n + 1 ≤ 3 := by omega
    have hpow : ((300 ^ (n + 1) : Nat) : Int) ≤ 27000000 := by
      rcases (show n = 0 ∨ n = 1 ∨ n = 2 by omega) with rfl | rfl | rfl <;> decide
    have hal2 : (al * (I2 38 n).toInt64).toInt = ar_pr I2 (n + 1) := by
      have e4 : al.toInt * (I2 38 n).toInt = ar_pr I2 (n + 1) := by rw [hal, ← hpr]; rfl
      rw [Int64.toInt_mul, Int32.toInt_toInt64, e4, cx_bm64]
      simp only [cx_i64]
      omega
    refine ih (n + 1) (i + 1) _ I2 J2 R2 T2 _ _ hi1 (by omega) ⟨p1, fun a q h38 h40 => ?_, fun a q h39 h40 => ?_, cx_leT_t hS.2.2.2.1 p4, ?_, ?_⟩ hal2
    · rw [p2 a q h40 (Or.inl h38)]; exact hS.2.1 a q h38 h40
    · rw [p3 a q h39 h40]; exact hS.2.2.1 a q h39 h40
    · have := hS.2.2.2.2.1; omega
    · have := hS.2.2.2.2.2; omega
theorem cv_SquaredShipsModel_areLaid : cx_valid cx_B0 167 ck_SquaredShipsModel_areLaid := by
  intro X σ0 ls I J R T hX2 hh hok
  obtain ⟨v1, t1, rfl, rfl, g2⟩ := cx_L_inv hok.1
  obtain rfl := cx_L_nil g2 rfl
  have e0 : (0 : Int32).toInt = 0 := by decide
  have e1 : (1 : Int32).toInt = 1 := by decide
  have e2 : (2 : Int32).toInt = 2 := by decide
  have eL : (10000 : Int64).toInt = 10000 := by decide
  have hsh := hh.1 35 3
  rw [show cx_B0 35 3 = (0, 3) from rfl] at hsh
  simp only at hsh
  -- the end, with its answer
  have fin : ∀ (v : Int32) (I' : Nat → Nat → Int32) (J' : Nat → Nat → Int64) (R' : Nat → Nat) (T' : List ez_C) (c k : Nat), 0 ≤ v.toInt ∧ v.toInt ≤ 1 → cx_hok cx_B0 I' R' T' → (∀ a q, a ≠ 38 → a ≠ 40 → a ≠ 41 → (a ≠ 35 ∨ q ≠ 14) → I' a q = I a q) → (∀ a q, a ≠ 39 → a ≠ 40 → a ≠ 41 → (a ≠ 35 ∨ q ≠ 14) → J' a q = J a q) → cx_leT T T' → c + T.length = T'.length → k + cx_mem T = cx_mem T' →
      cx_post cx_B0 ck_SquaredShipsModel_areLaid σ0 I J T 0 0 (some (.int v)) (ev_hp I' J' R' T') c k := by
    intro v I' J' R' T' c k hv b1 b2 b3 b4 b5 b6
    have hl : σ0.length = 0 := hok.2.2.1.1
    refine ⟨I', J', R', T', rfl, b1, fun a q hq => ?_, b4, by omega, by omega, _, List.mem_cons_self, σ0 ++ [v.toInt], cx_ext_app σ0 _, trivial, ⟨⟨v, rfl, ?_⟩, trivial⟩, ?_, cx_nil, fun e he => (by cases he), fun e he => (by cases he)⟩
    · have hq : cx_may [(35, 14), (38, 999), (39, 999), (40, 999), (41, 999)] a q = false := hq
      have hne : ∀ z, cx_all [(35, 14), (38, 999), (39, 999), (40, 999), (41, 999)] z = true → a ≠ z := fun z hz h => by
        subst h
        rw [cx_all_s hz q] at hq
        cases hq
      have h35 : a ≠ 35 ∨ q ≠ 14 := by
        by_cases ha : a = 35
        · by_cases hq2 : q = 14
          · subst ha hq2; cases hq
          · exact Or.inr hq2
        · exact Or.inl ha
      exact ⟨b2 a q (hne 38 rfl) (hne 40 rfl) (hne 41 rfl) h35, b3 a q (hne 39 rfl) (hne 40 rfl) (hne 41 rfl) h35⟩
    · exact cx_top (iv := []) ⟨hl, fun s v p h => by rw [List.length_eq_zero_iff.mp hl] at h; simp at h⟩ _
    · exact cx_iv_push (iv := []) ⟨hl, fun s v p h => by rw [List.length_eq_zero_iff.mp hl] at h; simp at h⟩ hv
  refine ev_seg (eh_ar_r1 X I J R T _ _) ?_
  refine ar_p X hX2 I J T _ hsh (fun al i I' J' R' T' c k hS hal => ?_) (I 35 3).toInt.toNat 0 0 1 I J R T 0 0 (by decide) (by omega) ⟨hh, fun _ _ _ _ => rfl, fun _ _ _ _ => rfl, cx_leT_r T, by omega, by omega⟩ (show (1 : Int64).toInt = 1 from by decide)
  obtain ⟨s1, s2, s3, s4, s5, s6⟩ := hS
  refine ev_if (eh_ar_r6 X I' J' R' T' al i _ _) (fun z => ?_) (fun z => ?_)
  rotate_left
  · exact ev_ret (eh_ar_r7 X I' J' R' T' al i _ _) (fin 0 I' J' R' T' c k (by decide) s1 (fun a q h1 h2 _ _ => s2 a q h1 h2) (fun a q h1 h2 _ _ => s3 a q h1 h2) s4 s5 s6)
  have hle : ar_pr I' (I 35 3).toInt.toNat ≤ 10000 := by
    have := (fs_cmp _ _).1.mp (of_decide_eq_true z)
    rw [eL, hal] at this
    exact this
  refine ev_seg (eh_ar_r8 X I' J' R' T' al i _ _) ?_
  have hB1 : cx_hB cx_B0 (ev_sI I' 35 (upd (I' 35) 14 0)) := cx_hB_I s1.1 fun q => by
    unfold upd
    split
    · rename_i h; subst h; rw [e0]; exact ⟨by decide, by decide⟩
    · exact s1.1 35 q
  have d38 : ∀ q, (ev_sI I' 35 (upd (I' 35) 14 0)) 38 q = I' 38 q := fun q => by rw [cx_sI_n _ _ (by decide)]
  have d3 : (ev_sI I' 35 (upd (I' 35) 14 0)) 35 3 = I 35 3 := by
    rw [cx_sI_s]
    unfold upd
    rw [if_neg (by decide)]
    exact s2 35 3 (by decide) (by decide)
  have d14 : (ev_sI I' 35 (upd (I' 35) 14 0)) 35 14 = 0 := by
    rw [cx_sI_s]
    unfold upd
    rw [if_pos rfl]
  have dq : ∀ a q, (a ≠ 35 ∨ q ≠ 14) → (ev_sI I' 35 (upd (I' 35) 14 0)) a q = I' a q := fun a q h => by
    by_cases ha : a = 35
    · subst ha
      rw [cx_sI_s]
      unfold upd
      rw [if_neg (by omega)]
    · rw [cx_sI_n _ _ ha]
  generalize ev_sI I' 35 (upd (I' 35) 14 0) = I1 at hB1 d38 d3 d14 dq
  have sp := fun q => s1.1 38 q
  have sp : ∀ q, 0 ≤ (I1 38 q).toInt ∧ (I1 38 q).toInt ≤ 300 := fun q => by
    have h := hB1 38 q
    rw [show cx_B0 38 q = (0, 300) from rfl] at h
    exact h
  -- with the three numbers
  have loops : ∀ (a b c2 : Int32) (cz kz : Nat), cz = c → kz = k → 0 ≤ a.toInt ∧ a.toInt ≤ 300 → 0 ≤ b.toInt ∧ b.toInt ≤ 300 → 0 ≤ c2.toInt ∧ c2.toInt ≤ 300 → a.toInt * (b.toInt * c2.toInt) ≤ 10000 →
      ev_W X 167 109 [.ref 35, .long al, ez_fill, .int a, .int b, .int c2, .int 0] [] (ev_hp I1 J' R' T') cz kz (cx_post cx_B0 ck_SquaredShipsModel_areLaid σ0 I J T 0 0) := by
    intro a b c2 cz kz hcz hkz ha hb hc habc
    refine ar_i hX2 ha hb hc (I0 := I1) (J0 := J') (T0 := T') (c0 := cz) (k0 := kz) (fun I3 J3 R3 T3 c4 k4 hS3 => ?_) (a.toInt - (0 : Int32).toInt).toNat 0 al I1 J' R' T' cz kz (by decide) rfl ⟨⟨hB1, s1.2⟩, cx_fr_r _ _ _, cx_leT_r _, rfl, rfl⟩ ?_
    · obtain ⟨u1, u2, u3, u4, u5⟩ := hS3
      have hm : ∀ p q, p ≠ 41 → (p ≠ 35 ∨ q ≠ 14) → cx_may [(35, 14), (41, 999)] p q = false := fun p q h1 h2 => by
        unfold cx_may
        simp only [List.any_cons, List.any_nil, Bool.or_false]
        rw [cx_beqf (fun z => h1 z.symm)]
        rcases h2 with h2 | h2
        · rw [cx_beqf (fun z => h2 z.symm)]; rfl
        · rw [cx_beqf (q := 14) (a := q) (fun z => h2 z.symm)]
          cases Nat.beq 35 p <;> rfl
      exact fin 1 I3 J3 R3 T3 c4 k4 (by decide) u1 (fun p q h1 h2 h3 h4 => by rw [(u2 p q (hm p q h3 h4)).1, dq p q h4]; exact s2 p q h1 h2) (fun p q h1 h2 h3 h4 => by rw [(u2 p q (hm p q h3 h4)).2]; exact s3 p q h1 h2) (cx_leT_t s4 u3) (by omega) (by omega)
    · rw [d14, e0, Int.sub_zero, Int.toNat_of_nonneg ha.1]
      omega
  have one : 0 ≤ (1 : Int32).toInt ∧ (1 : Int32).toInt ≤ 300 := by decide
  have pr0 : ar_pr I' 0 = 1 := rfl
  have pr1 : ar_pr I' 1 = (I1 38 0).toInt := by rw [d38]; simp [ar_pr]
  have pr2 : ar_pr I' 2 = (I1 38 0).toInt * (I1 38 1).toInt := by rw [d38, d38]; simp [ar_pr]
  have pr3 : ar_pr I' 3 = (I1 38 0).toInt * ((I1 38 1).toInt * (I1 38 2).toInt) := by rw [d38, d38, d38]; simp [ar_pr, Int.mul_assoc]
  rcases (show (I 35 3).toInt = 0 ∨ (I 35 3).toInt = 1 ∨ (I 35 3).toInt = 2 ∨ (I 35 3).toInt = 3 by omega) with hn | hn | hn | hn
  · rw [hn] at hle
    refine ev_if (eh_ar_a1 X I1 J' R' T' al i _ _) (fun _ => ?_) (fun z => absurd (Int32.le_iff_toInt_le.mpr (by rw [d3, e0]; omega)) (of_decide_eq_false z))
    refine ev_seg (eh_ar_a3 X I1 J' R' T' al i _ _) ?_
    refine ev_if (eh_ar_b1 X I1 J' R' T' al 1 _ _) (fun _ => ?_) (fun z => absurd (Int32.le_iff_toInt_le.mpr (by rw [d3, e1]; omega)) (of_decide_eq_false z))
    refine ev_seg (eh_ar_b3 X I1 J' R' T' al 1 _ _) ?_
    refine ev_if (eh_ar_c1 X I1 J' R' T' al 1 1 _ _) (fun _ => ?_) (fun z => absurd (Int32.le_iff_toInt_le.mpr (by rw [d3, e2]; omega)) (of_decide_eq_false z))
    refine ev_seg (eh_ar_c3 X I1 J' R' T' al 1 1 _ _) ?_
    exact loops 1 1 1 _ _ rfl rfl one one one (by decide)
  · rw [hn, show (1 : Int).toNat = 1 from rfl, pr1] at hle
    refine ev_if (eh_ar_a1 X I1 J' R' T' al i _ _) (fun z => absurd (Int32.le_iff_toInt_le.mp (of_decide_eq_true z)) (by rw [d3, e0]; omega)) (fun _ => ?_)
    refine ev_seg (eh_ar_a2 X I1 J' R' T' al i _ _) ?_
    refine ev_if (eh_ar_b1 X I1 J' R' T' al _ _ _) (fun _ => ?_) (fun z => absurd (Int32.le_iff_toInt_le.mpr (by rw [d3, e1]; omega)) (of_decide_eq_false z))
    refine ev_seg (eh_ar_b3 X I1 J' R' T' al _ _ _) ?_
    refine ev_if (eh_ar_c1 X I1 J' R' T' al _ 1 _ _) (fun _ => ?_) (fun z => absurd (Int32.le_iff_toInt_le.mpr (by rw [d3, e2]; omega)) (of_decide_eq_false z))
    refine ev_seg (eh_ar_c3 X I1 J' R' T' al _ 1 _ _) ?_
    exact loops _ 1 1 _ _ rfl rfl (sp 0) one one (by rw [e1]; omega)
  · rw [hn, show (2 : Int).toNat = 2 from rfl, pr2] at hle
    refine ev_if (eh_ar_a1 X I1 J' R' T' al i _ _) (fun z => absurd (Int32.le_iff_toInt_le.mp (of_decide_eq_true z)) (by rw [d3, e0]; omega)) (fun _ => ?_)
    refine ev_seg (eh_ar_a2 X I1 J' R' T' al i _ _) ?_
    refine ev_if (eh_ar_b1 X I1 J' R' T' al _ _ _) (fun z => absurd (Int32.le_iff_toInt_le.mp (of_decide_eq_true z)) (by rw [d3, e1]; omega)) (fun _ => ?_)
    refine ev_seg (eh_ar_b2 X I1 J' R' T' al _ _ _) ?_
    refine ev_if (eh_ar_c1 X I1 J' R' T' al _ _ _ _) (fun _ => ?_) (fun z => absurd (Int32.le_iff_toInt_le.mpr (by rw [d3, e2]; omega)) (of_decide_eq_false z))
    refine ev_seg (eh_ar_c3 X I1 J' R' T' al _ _ _ _) ?_
    exact loops _ _ 1 _ _ rfl rfl (sp 0) (sp 1) one (by rw [e1, Int.mul_one]; exact hle)
  · rw [hn, show (3 : Int).toNat = 3 from rfl, pr3] at hle
    refine ev_if (eh_ar_a1 X I1 J' R' T' al i _ _) (fun z => absurd (Int32.le_iff_toInt_le.mp (of_decide_eq_true z)) (by rw [d3, e0]; omega)) (fun _ => ?_)
    refine ev_seg (eh_ar_a2 X I1 J' R' T' al i _ _) ?_
    refine ev_if (eh_ar_b1 X I1 J' R' T' al _ _ _) (fun z => absurd (Int32.le_iff_toInt_le.mp (of_decide_eq_true z)) (by rw [d3, e1]; omega)) (fun _ => ?_)
    refine ev_seg (eh_ar_b2 X I1 J' R' T' al _ _ _) ?_
    refine ev_if (eh_ar_c1 X I1 J' R' T' al _ _ _ _) (fun z => absurd (Int32.le_iff_toInt_le.mp (of_decide_eq_true z)) (by rw [d3, e2]; omega)) (fun _ => ?_)
    refine ev_seg (eh_ar_c2 X I1 J' R' T' al _ _ _ _) ?_
    exact loops _ _ _ _ _ rfl rfl (sp 0) (sp 1) (sp 2) hle
end
section
/-! What a laying answers the caller, as a function. -/
noncomputable def pl_set (I : Nat → Nat → Int32) (J : Nat → Nat → Int64) (k s : Int32) : Int64 := J 39 (300 * s + I 41 (3 * k + s).toNatClampNeg).toNatClampNeg
/-- the ship is there: is it sunk by this call? -/
noncomputable def pl_hit (I : Nat → Nat → Int32) (set : Int64) (cell : Int32) (called : Int64) : Int32 :=
  if I 35 7 = 1 then (if ev_has called cell = 0 then (if lg_cmp (set &&& ((called ||| (1 <<< (cell.toInt64 &&& 63))) ^^^ Int64.ofNat 18446744073709551615)) 0 = 0 then 2 else 1) else 1) else 1
noncomputable def pl_F (I : Nat → Nat → Int32) (J : Nat → Nat → Int64) (k cell : Int32) (called : Int64) : Nat → Int32 → Int32
  | 0, _ => 0
  | r + 1, s => if ev_has (pl_set I J k s) cell = 0 then pl_F I J k cell called r (s + 1) else pl_hit I (pl_set I J k s) cell called
section
variable (X : ez_X) (I : Nat → Nat → Int32) (J : Nat → Nat → Int64) (R : Nat → Nat) (T : List ez_C) (k cell : Int32) (cd : Int64)
theorem eh_pl_r0 (cz kz : Nat) : ∀ G : ez_F, fx_up X 2 G 216 0 [.ref 35, .int k, .int cell, .long cd, ez_fill] [] (ev_hp I J R T) cz kz = G 216 3 [.ref 35, .int k, .int cell, .long cd, ez_fill, .int 0] [] (ev_hp I J R T) cz kz := by
  intro G
  rfl
theorem eh_pl_r1 (s : Int32) (cz kz : Nat) : ∀ G : ez_F, fx_up X 4 G 216 3 [.ref 35, .int k, .int cell, .long cd, ez_fill, .int s] [] (ev_hp I J R T) cz kz = bif decide (I 35 3 ≤ s) then G 216 103 [.ref 35, .int k, .int cell, .long cd, ez_fill, .int s] [] (ev_hp I J R T) cz kz else G 216 12 [.ref 35, .int k, .int cell, .long cd, ez_fill, .int s] [] (ev_hp I J R T) cz kz := by
  intro G
  rfl
theorem eh_pl_r2 (s : Int32) (cz kz : Nat) : ∀ G : ez_F, fx_up X 2 G 216 103 [.ref 35, .int k, .int cell, .long cd, ez_fill, .int s] [] (ev_hp I J R T) cz kz = some (some (.int 0), ev_hp I J R T, cz, kz) := by
  intro G
  rfl
set_option maxRecDepth 100000 in
theorem eh_pl_r3 (s : Int32) (cz kz : Nat) : ∀ G : ez_F, fx_up X 12 G 216 12 [.ref 35, .int k, .int cell, .long cd, ez_fill, .int s] [] (ev_hp I J R T) cz kz = G 216 32 [.ref 35, .int k, .int cell, .long cd, ez_fill, .int s] [.int (3 * k + s), .ref 41, .int (300 * s), .ref 39] (ev_hp I J R T) cz kz := by
  intro G
  rfl
theorem eh_pl_r4 (s v w : Int32) (cz kz : Nat) : ∀ G : ez_F, fx_up X 1 G 216 33 [.ref 35, .int k, .int cell, .long cd, ez_fill, .int s] [.int v, .int w, .ref 39] (ev_hp I J R T) cz kz = G 216 34 [.ref 35, .int k, .int cell, .long cd, ez_fill, .int s] [.int (w + v), .ref 39] (ev_hp I J R T) cz kz := by
  intro G
  rfl
theorem eh_pl_r5 (s : Int32) (u : Int64) (cz kz : Nat) : ∀ G : ez_F, fx_up X 4 G 216 35 [.ref 35, .int k, .int cell, .long cd, ez_fill, .int s] [.long u] (ev_hp I J R T) cz kz = ev_C G 197 [.long u, .int cell] (ev_hp I J R T) fun r h1 c1 k1 => G 216 43 [.ref 35, .int k, .int cell, .long cd, ez_fill, .int s, .long u, ez_fill] (r.toList ++ []) h1 (cz + c1) (kz + k1) := by
  intro G
  rfl
theorem eh_pl_r6 (s v : Int32) (u : Int64) (cz kz : Nat) : ∀ G : ez_F, fx_up X 1 G 216 43 [.ref 35, .int k, .int cell, .long cd, ez_fill, .int s, .long u, ez_fill] [.int v] (ev_hp I J R T) cz kz = bif decide (v = 0) then G 216 97 [.ref 35, .int k, .int cell, .long cd, ez_fill, .int s, .long u, ez_fill] [] (ev_hp I J R T) cz kz else G 216 46 [.ref 35, .int k, .int cell, .long cd, ez_fill, .int s, .long u, ez_fill] [] (ev_hp I J R T) cz kz := by
  intro G
  rfl
theorem eh_pl_r7 (s : Int32) (u : Int64) (cz kz : Nat) : ∀ G : ez_F, fx_up X 2 G 216 97 [.ref 35, .int k, .int cell, .long cd, ez_fill, .int s, .long u, ez_fill] [] (ev_hp I J R T) cz kz = G 216 3 [.ref 35, .int k, .int cell, .long cd, ez_fill, .int (s + 1), .long u, ez_fill] [] (ev_hp I J R T) cz kz := by
  intro G
  rfl
theorem eh_pl_r8 (s : Int32) (u : Int64) (cz kz : Nat) : ∀ G : ez_F, fx_up X 3 G 216 46 [.ref 35, .int k, .int cell, .long cd, ez_fill, .int s, .long u, ez_fill] [] (ev_hp I J R T) cz kz = ev_C G 197 [.long cd, .int cell] (ev_hp I J R T) fun r h1 c1 k1 => G 216 51 [.ref 35, .int k, .int cell, .long cd, ez_fill, .int s, .long u, ez_fill] (r.toList ++ []) h1 (cz + c1) (kz + k1) := by
  intro G
  rfl
theorem eh_pl_r9 (s v : Int32) (u : Int64) (cz kz : Nat) : ∀ G : ez_F, fx_up X 1 G 216 51 [.ref 35, .int k, .int cell, .long cd, ez_fill, .int s, .long u, ez_fill] [.int v] (ev_hp I J R T) cz kz = bif decide (¬ v = 0) then G 216 75 [.ref 35, .int k, .int cell, .long cd, ez_fill, .int s, .long u, ez_fill] [] (ev_hp I J R T) cz kz else G 216 54 [.ref 35, .int k, .int cell, .long cd, ez_fill, .int s, .long u, ez_fill] [] (ev_hp I J R T) cz kz := by
  intro G
  rfl
set_option maxRecDepth 100000 in
theorem eh_pl_rA (s : Int32) (u : Int64) (cz kz : Nat) : ∀ G : ez_F, fx_up X 12 G 216 54 [.ref 35, .int k, .int cell, .long cd, ez_fill, .int s, .long u, ez_fill] [] (ev_hp I J R T) cz kz = bif decide (¬ lg_cmp (u &&& ((cd ||| (1 <<< (cell.toInt64 &&& 63))) ^^^ Int64.ofNat 18446744073709551615)) 0 = 0) then G 216 75 [.ref 35, .int k, .int cell, .long cd, ez_fill, .int s, .long u, ez_fill] [] (ev_hp I J R T) cz kz else G 216 71 [.ref 35, .int k, .int cell, .long cd, ez_fill, .int s, .long u, ez_fill] [] (ev_hp I J R T) cz kz := by
  intro G
  rfl
theorem eh_pl_rB (s : Int32) (u : Int64) (cz kz : Nat) : ∀ G : ez_F, fx_up X 7 G 216 71 [.ref 35, .int k, .int cell, .long cd, ez_fill, .int s, .long u, ez_fill] [] (ev_hp I J R T) cz kz = bif decide (¬ I 35 7 = 1) then G 216 95 [.ref 35, .int k, .int cell, .long cd, ez_fill, .int s, .long u, ez_fill, .int 1] [] (ev_hp I J R T) cz kz else G 216 86 [.ref 35, .int k, .int cell, .long cd, ez_fill, .int s, .long u, ez_fill, .int 1] [] (ev_hp I J R T) cz kz := by
  intro G
  rfl
theorem eh_pl_rC (s : Int32) (u : Int64) (cz kz : Nat) : ∀ G : ez_F, fx_up X 6 G 216 75 [.ref 35, .int k, .int cell, .long cd, ez_fill, .int s, .long u, ez_fill] [] (ev_hp I J R T) cz kz = bif decide (¬ I 35 7 = 1) then G 216 95 [.ref 35, .int k, .int cell, .long cd, ez_fill, .int s, .long u, ez_fill, .int 0] [] (ev_hp I J R T) cz kz else G 216 86 [.ref 35, .int k, .int cell, .long cd, ez_fill, .int s, .long u, ez_fill, .int 0] [] (ev_hp I J R T) cz kz := by
  intro G
  rfl
theorem eh_pl_rD (s v : Int32) (u : Int64) (cz kz : Nat) : ∀ G : ez_F, fx_up X 2 G 216 86 [.ref 35, .int k, .int cell, .long cd, ez_fill, .int s, .long u, ez_fill, .int v] [] (ev_hp I J R T) cz kz = bif decide (v = 0) then G 216 95 [.ref 35, .int k, .int cell, .long cd, ez_fill, .int s, .long u, ez_fill, .int v] [] (ev_hp I J R T) cz kz else G 216 91 [.ref 35, .int k, .int cell, .long cd, ez_fill, .int s, .long u, ez_fill, .int v] [] (ev_hp I J R T) cz kz := by
  intro G
  rfl
theorem eh_pl_rE (s v : Int32) (u : Int64) (cz kz : Nat) : ∀ G : ez_F, fx_up X 3 G 216 91 [.ref 35, .int k, .int cell, .long cd, ez_fill, .int s, .long u, ez_fill, .int v] [] (ev_hp I J R T) cz kz = some (some (.int 2), ev_hp I J R T, cz, kz) := by
  intro G
  rfl
theorem eh_pl_rF (s v : Int32) (u : Int64) (cz kz : Nat) : ∀ G : ez_F, fx_up X 2 G 216 95 [.ref 35, .int k, .int cell, .long cd, ez_fill, .int s, .long u, ez_fill, .int v] [] (ev_hp I J R T) cz kz = some (some (.int 1), ev_hp I J R T, cz, kz) := by
  intro G
  rfl
theorem eh_pl_l (hh : cx_hB cx_B0 I) (hk : 0 ≤ k.toInt ∧ k.toInt ≤ 9999) : ∀ (r : Nat) (s : Int32) (cz kz : Nat), 0 ≤ s.toInt → s.toInt + (r : Int) = (I 35 3).toInt →
    ev_W X 216 3 [.ref 35, .int k, .int cell, .long cd, ez_fill, .int s] [] (ev_hp I J R T) cz kz (fun q h' c' k' => q = some (.int (pl_F I J k cell cd r s)) ∧ h' = ev_hp I J R T ∧ c' = cz ∧ k' = kz) := by
  have e1 : (1 : Int32).toInt = 1 := by decide
  have e3 : (3 : Int32).toInt = 3 := by decide
  have hsh := hh 35 3
  rw [show cx_B0 35 3 = (0, 3) from rfl] at hsh
  simp only at hsh
  intro r
  induction r with
  | zero =>
    intro s cz kz h0 hs
    refine ev_if (eh_pl_r1 X I J R T k cell cd s _ _) (fun _ => ev_ret (eh_pl_r2 X I J R T k cell cd s _ _) ⟨rfl, rfl, rfl, rfl⟩) (fun z => ?_)
    exact absurd (Int32.le_iff_toInt_le.mpr (by omega)) (of_decide_eq_false z)
  | succ r ih =>
    intro s cz kz h0 hs
    refine ev_if (eh_pl_r1 X I J R T k cell cd s _ _) (fun z => ?_) (fun _ => ?_)
    · have := Int32.le_iff_toInt_le.mp (of_decide_eq_true z)
      omega
    have hs1 : (s + 1).toInt = s.toInt + 1 := by
      rw [Int32.toInt_add, e1, cx_bm32]
      simp only [cx_i32]
      omega
    have hx : (3 * k + s).toInt = 3 * k.toInt + s.toInt := by
      have e : (3 * k).toInt = 3 * k.toInt := by
        rw [Int32.toInt_mul, e3, cx_bm32]
        simp only [cx_i32]
        omega
      rw [Int32.toInt_add, e, cx_bm32]
      simp only [cx_i32]
      omega
    refine ev_seg (eh_pl_r3 X I J R T k cell cd s _ _) ?_
    refine ev_iald (by rfl) (cx_getI (show cx_Ds[41]? = some (0, 30003, []) from rfl)) (fs_ixs (by omega) (by omega)) ?_
    have h41 := hh 41 (3 * k + s).toNatClampNeg
    rw [show cx_B0 41 (3 * k + s).toNatClampNeg = (0, 299) from rfl] at h41
    simp only at h41
    have hy := fs_300 (s := s) (k := I 41 (3 * k + s).toNatClampNeg) (by omega) (by omega)
    refine ev_seg (eh_pl_r4 X I J R T k cell cd s _ _ _ _) ?_
    refine ev_lald (by rfl) (cx_getJ (show cx_Ds[39]? = some (1, 900, []) from rfl)) (fs_ixs (by omega) (by omega)) ?_
    unfold pl_F
    rw [show J 39 (300 * s + I 41 (3 * k + s).toNatClampNeg).toNatClampNeg = pl_set I J k s from rfl]
    generalize pl_set I J k s = u
    refine ev_call (eh_pl_r5 X I J R T k cell cd s u _ _) (em_has X _ _ _) ?_
    rintro _ _ _ _ ⟨rfl, rfl, rfl, rfl⟩
    refine ev_if (eh_pl_r6 X I J R T k cell cd s _ u _ _) (fun z => ?_) (fun z => ?_)
    · rw [if_pos (of_decide_eq_true z)]
      refine ev_seg (eh_pl_r7 X I J R T k cell cd s u _ _) ?_
      refine ev_cutl (by rfl) ?_
      exact ih (s + 1) _ _ (by omega) (by omega)
    rw [if_neg (of_decide_eq_false z)]
    have one : ∀ cz kz : Nat, pl_hit I u cell cd = 1 → ev_W X 216 75 [.ref 35, .int k, .int cell, .long cd, ez_fill, .int s, .long u, ez_fill] [] (ev_hp I J R T) cz kz (fun q h' c' k' => q = some (.int (pl_hit I u cell cd)) ∧ h' = ev_hp I J R T ∧ c' = cz ∧ k' = kz) := by
      intro cz kz hp
      rw [hp]
      refine ev_if (eh_pl_rC X I J R T k cell cd s u _ _) (fun _ => ev_ret (eh_pl_rF X I J R T k cell cd s _ u _ _) ⟨rfl, rfl, rfl, rfl⟩) (fun _ => ?_)
      exact ev_if (eh_pl_rD X I J R T k cell cd s 0 u _ _) (fun _ => ev_ret (eh_pl_rF X I J R T k cell cd s _ u _ _) ⟨rfl, rfl, rfl, rfl⟩) (fun z => absurd rfl (of_decide_eq_false z))
    refine ev_call (eh_pl_r8 X I J R T k cell cd s u _ _) (em_has X _ _ _) ?_
    rintro _ _ _ _ ⟨rfl, rfl, rfl, rfl⟩
    refine ev_if (eh_pl_r9 X I J R T k cell cd s _ u _ _) (fun z => ?_) (fun z => ?_)
    · refine one _ _ ?_
      unfold pl_hit
      rw [if_neg (of_decide_eq_true z)]
      split <;> rfl
    have hc0 : ev_has cd cell = 0 := Classical.not_not.mp (of_decide_eq_false z)
    refine ev_if (eh_pl_rA X I J R T k cell cd s u _ _) (fun z2 => ?_) (fun z2 => ?_)
    · refine one _ _ ?_
      unfold pl_hit
      rw [if_pos hc0, if_neg (of_decide_eq_true z2)]
      split <;> rfl
    have hl := Classical.not_not.mp (of_decide_eq_false z2)
    unfold pl_hit
    rw [if_pos hc0, if_pos hl]
    refine ev_if (eh_pl_rB X I J R T k cell cd s u _ _) (fun z3 => ?_) (fun z3 => ?_)
    · rw [if_neg (of_decide_eq_true z3)]
      exact ev_ret (eh_pl_rF X I J R T k cell cd s _ u _ _) ⟨rfl, rfl, rfl, rfl⟩
    · rw [if_pos (Classical.not_not.mp (of_decide_eq_false z3))]
      refine ev_if (eh_pl_rD X I J R T k cell cd s 1 u _ _) (fun z4 => absurd (of_decide_eq_true z4) (by decide)) (fun _ => ?_)
      exact ev_ret (eh_pl_rE X I J R T k cell cd s _ u _ _) ⟨rfl, rfl, rfl, rfl⟩
theorem eh_pl (hh : cx_hB cx_B0 I) (hk : 0 ≤ k.toInt ∧ k.toInt ≤ 9999) : ev_W X 216 0 (ez_lay [.ref 35, .int k, .int cell, .long cd]) [] (ev_hp I J R T) 0 0 (ev_is (some (.int (pl_F I J k cell cd (I 35 3).toInt.toNat 0))) (ev_hp I J R T)) := by
  have hsh := hh 35 3
  rw [show cx_B0 35 3 = (0, 3) from rfl] at hsh
  simp only at hsh
  have e0 : (0 : Int32).toInt = 0 := by decide
  refine ev_seg (eh_pl_r0 X I J R T k cell cd _ _) ?_
  exact eh_pl_l X I J R T k cell cd hh hk (I 35 3).toInt.toNat 0 _ _ (by decide) (by rw [e0]; omega)
end
end
section
/-! What the answer of plain says, whatever is called. -/
theorem pl_hit_r (I : Nat → Nat → Int32) (set : Int64) (cell : Int32) (called : Int64) : pl_hit I set cell called = 1 ∨ pl_hit I set cell called = 2 := by
  unfold pl_hit
  split
  · split
    · split
      · exact Or.inr rfl
      · exact Or.inl rfl
    · exact Or.inl rfl
  · exact Or.inl rfl
theorem pl_F_r (I : Nat → Nat → Int32) (J : Nat → Nat → Int64) (k cell : Int32) (called : Int64) : ∀ (r : Nat) (s : Int32), pl_F I J k cell called r s = 0 ∨ pl_F I J k cell called r s = 1 ∨ pl_F I J k cell called r s = 2 := by
  intro r
  induction r with
  | zero => exact fun s => Or.inl rfl
  | succ r ih =>
    intro s
    unfold pl_F
    split
    · exact ih (s + 1)
    · exact Or.inr (pl_hit_r I _ cell called)
/-- called already: it says whether a ship has the cell, and nothing of what else is called -/
theorem pl_F_called (I : Nat → Nat → Int32) (J : Nat → Nat → Int64) (k cell : Int32) (c1 c2 : Int64) (h1 : ev_has c1 cell ≠ 0) (h2 : ev_has c2 cell ≠ 0) : ∀ (r : Nat) (s : Int32), pl_F I J k cell c1 r s = pl_F I J k cell c2 r s := by
  intro r
  induction r with
  | zero => exact fun s => rfl
  | succ r ih =>
    intro s
    unfold pl_F
    split
    · exact ih (s + 1)
    · unfold pl_hit
      rw [if_neg h1, if_neg h2]
/-- two layings that plain answers the same, whatever was called, agree on a cell once it is called -/
theorem pl_F_agree (I : Nat → Nat → Int32) (J : Nat → Nat → Int64) (cell : Int32) (cd cd2 : Int64) (h2 : ev_has cd2 cell ≠ 0) : ∀ (r : Nat) (a b s : Int32), (pl_F I J a cell cd r s = 0 ↔ pl_F I J a cell cd2 r s = 0) := by
  intro r
  induction r with
  | zero => exact fun _ _ s => Iff.rfl
  | succ r ih =>
    intro a b s
    unfold pl_F
    split
    · exact ih a b (s + 1)
    · constructor
      · intro z
        rcases pl_hit_r I (pl_set I J a s) cell cd with e | e <;> rw [e] at z <;> exact absurd z (by decide)
      · intro z
        rcases pl_hit_r I (pl_set I J a s) cell cd2 with e | e <;> rw [e] at z <;> exact absurd z (by decide)
end
section
/-! How many of a row answer one thing; what a called cell answers. -/
noncomputable def nd_cnt (p : Nat → Int32) (a : Nat) (v : Int32) : Nat → Nat
  | 0 => 0
  | n + 1 => nd_cnt p a v n + if p (a + n) = v then 1 else 0
theorem nd_cnt_s (p : Nat → Int32) (a : Nat) (v : Int32) (n : Nat) : nd_cnt p a v (n + 1) = nd_cnt p a v n + if p (a + n) = v then 1 else 0 := rfl
theorem nd_cnt_y {p : Nat → Int32} {a n : Nat} {v : Int32} (h : p (a + n) = v) : nd_cnt p a v (n + 1) = nd_cnt p a v n + 1 := by rw [nd_cnt_s, if_pos h]
theorem nd_cnt_n {p : Nat → Int32} {a n : Nat} {v : Int32} (h : ¬ p (a + n) = v) : nd_cnt p a v (n + 1) = nd_cnt p a v n := by rw [nd_cnt_s, if_neg h, Nat.add_zero]
theorem nd_cnt_sum (p : Nat → Int32) (a : Nat) (h : ∀ i, p i = 0 ∨ p i = 1 ∨ p i = 2) : ∀ n, nd_cnt p a 0 n + nd_cnt p a 1 n + nd_cnt p a 2 n = n := by
  intro n
  induction n with
  | zero => rfl
  | succ n ih =>
    rcases h (a + n) with e | e | e
    · rw [nd_cnt_y e, nd_cnt_n (v := 1) (by rw [e]; decide), nd_cnt_n (v := 2) (by rw [e]; decide)]
      omega
    · rw [nd_cnt_y e, nd_cnt_n (v := 0) (by rw [e]; decide), nd_cnt_n (v := 2) (by rw [e]; decide)]
      omega
    · rw [nd_cnt_y e, nd_cnt_n (v := 0) (by rw [e]; decide), nd_cnt_n (v := 1) (by rw [e]; decide)]
      omega
theorem nd_cnt_all {p : Nat → Int32} {a : Nat} {v : Int32} : ∀ n, (∀ i, i < n → p (a + i) = v) → nd_cnt p a v n = n := by
  intro n
  induction n with
  | zero => exact fun _ => rfl
  | succ n ih =>
    intro h
    rw [nd_cnt_y (h n (by omega)), ih fun i hi => h i (by omega)]
theorem nd_cnt_mono (p : Nat → Int32) (a : Nat) (v : Int32) : ∀ d n, nd_cnt p a v n ≤ nd_cnt p a v (n + d) := by
  intro d
  induction d with
  | zero => exact fun n => Nat.le_refl _
  | succ d ih =>
    intro n
    rw [← Nat.add_assoc, nd_cnt_s]
    have := ih n
    omega
theorem nd_cnt_le (p : Nat → Int32) (a : Nat) (v : Int32) : ∀ n, nd_cnt p a v n ≤ n := by
  intro n
  induction n with
  | zero => exact Nat.le_refl _
  | succ n ih =>
    rw [nd_cnt_s]
    split <;> omega
/-- what a laying answers, by the world alone -/
noncomputable def pl_P (I : Nat → Nat → Int32) (J : Nat → Nat → Int64) (k cell : Int32) (cd : Int64) : Int32 := pl_F I J k cell cd (I 35 3).toInt.toNat 0
theorem pl_P_r (I : Nat → Nat → Int32) (J : Nat → Nat → Int64) (k cell : Int32) (cd : Int64) : pl_P I J k cell cd = 0 ∨ pl_P I J k cell cd = 1 ∨ pl_P I J k cell cd = 2 := pl_F_r I J k cell cd _ _
theorem pl_F_congr {I I' : Nat → Nat → Int32} {J J' : Nat → Nat → Int64} (h7 : I' 35 7 = I 35 7) (h41 : I' 41 = I 41) (hJ : J' 39 = J 39) (k cell : Int32) (cd : Int64) : ∀ (r : Nat) (s : Int32), pl_F I' J' k cell cd r s = pl_F I J k cell cd r s := by
  intro r
  induction r with
  | zero => exact fun _ => rfl
  | succ r ih =>
    intro s
    unfold pl_F pl_hit pl_set
    rw [h7, h41, hJ, ih (s + 1)]
theorem pl_P_congr {I I' : Nat → Nat → Int32} {J J' : Nat → Nat → Int64} (h3 : I' 35 3 = I 35 3) (h7 : I' 35 7 = I 35 7) (h41 : I' 41 = I 41) (hJ : J' 39 = J 39) (k cell : Int32) (cd : Int64) : pl_P I' J' k cell cd = pl_P I J k cell cd := by
  unfold pl_P
  rw [h3]
  exact pl_F_congr h7 h41 hJ k cell cd _ _
theorem pl_hit_c (I : Nat → Nat → Int32) (set : Int64) (cell : Int32) (called : Int64) (h : ev_has called cell ≠ 0) : pl_hit I set cell called = 1 := by
  unfold pl_hit
  rw [if_neg h]
  split <;> rfl
theorem pl_F_01 (I : Nat → Nat → Int32) (J : Nat → Nat → Int64) (k cell : Int32) (called : Int64) (h : ev_has called cell ≠ 0) : ∀ (r : Nat) (s : Int32), pl_F I J k cell called r s = 0 ∨ pl_F I J k cell called r s = 1 := by
  intro r
  induction r with
  | zero => exact fun s => Or.inl rfl
  | succ r ih =>
    intro s
    unfold pl_F
    split
    · exact ih (s + 1)
    · exact Or.inr (pl_hit_c I _ cell called h)
/-- one that is called: agreed on before is agreed on after -/
theorem pl_P_now (I : Nat → Nat → Int32) (J : Nat → Nat → Int64) (a b cell : Int32) (cd cd2 : Int64) (h2 : ev_has cd2 cell ≠ 0) (h : pl_P I J a cell cd = pl_P I J b cell cd) : pl_P I J a cell cd2 = pl_P I J b cell cd2 := by
  have ha := pl_F_agree I J cell cd cd2 h2 (I 35 3).toInt.toNat a b 0
  have hb := pl_F_agree I J cell cd cd2 h2 (I 35 3).toInt.toNat b b 0
  unfold pl_P at h ⊢
  rw [h] at ha
  rcases pl_F_01 I J a cell cd2 h2 (I 35 3).toInt.toNat 0 with e | e
  · rw [e, hb.mp (ha.mpr e)]
  · rcases pl_F_01 I J b cell cd2 h2 (I 35 3).toInt.toNat 0 with e2 | e2
    · have := ha.mp (hb.mpr e2)
      rw [this] at e
      exact absurd e (by decide)
    · rw [e, e2]
theorem pl_P_then (I : Nat → Nat → Int32) (J : Nat → Nat → Int64) (a b cell : Int32) (cd cd2 : Int64) (h1 : ev_has cd cell ≠ 0) (h2 : ev_has cd2 cell ≠ 0) (h : pl_P I J a cell cd = pl_P I J b cell cd) : pl_P I J a cell cd2 = pl_P I J b cell cd2 := by
  unfold pl_P at h ⊢
  rw [pl_F_called I J a cell cd2 cd h2 h1, pl_F_called I J b cell cd2 cd h2 h1]
  exact h
/-! A cell that is called stays called. -/
theorem nd_or (u w o : Int64) (h : u &&& o = o) : (u ||| w) &&& o = o := by
  have h2 := congrArg Int64.toBitVec h
  apply Int64.toBitVec_inj.mp
  rw [Int64.toBitVec_and] at h2
  rw [Int64.toBitVec_and, Int64.toBitVec_or]
  generalize u.toBitVec = a at h2 ⊢
  generalize w.toBitVec = b at h2 ⊢
  generalize o.toBitVec = c at h2 ⊢
  apply BitVec.eq_of_getLsbD_eq
  intro i _
  have h3 := congrArg (fun z => BitVec.getLsbD z i) h2
  simp only [BitVec.getLsbD_and, BitVec.getLsbD_or] at h3 ⊢
  revert h3
  cases BitVec.getLsbD a i <;> cases BitVec.getLsbD b i <;> cases BitVec.getLsbD c i <;> decide
theorem nd_has_is (s : Int64) (k : Int32) : ev_has s k ≠ 0 ↔ (s >>> (k.toInt64 &&& 63)) &&& (1 : Int64) = 1 := by
  unfold ev_has
  split
  · rename_i h
    exact ⟨fun z => absurd rfl z, fun z => absurd ((fs_cmp _ _).2.mpr z) h⟩
  · rename_i h
    exact ⟨fun _ => (fs_cmp _ _).2.mp (Classical.not_not.mp h), fun _ => by decide⟩
theorem nd_has_or (s t : Int64) (k : Int32) (h : ev_has s k ≠ 0) : ev_has (s ||| t) k ≠ 0 := by
  rw [nd_has_is] at h ⊢
  rw [Int64.shiftRight_or]
  exact nd_or _ _ _ h
theorem nd_one : ∀ j, j < 36 → ((1 : Int64) <<< ((Int32.ofNat j).toInt64 &&& 63)) >>> ((Int32.ofNat j).toInt64 &&& 63) &&& (1 : Int64) = 1 := by decide +kernel
theorem nd_has_new (s : Int64) (b : Int32) (h : 0 ≤ b.toInt ∧ b.toInt < 36) : ev_has (s ||| ((1 : Int64) <<< (b.toInt64 &&& 63))) b ≠ 0 := by
  rw [nd_has_is, Int64.or_comm, Int64.shiftRight_or]
  refine nd_or _ _ _ ?_
  have e : b = Int32.ofNat b.toInt.toNat := Int32.toInt_inj.mp (by rw [Int32.toInt_ofNat_of_lt (by omega)]; omega)
  have := nd_one b.toInt.toNat (by omega)
  rw [← e] at this
  exact this
end
section
/-! The call that parts best: what is counted, and what is kept of it. -/
theorem nd_self (I : Nat → Nat → Int32) (a : Nat) : ev_sI I a (I a) = I := by
  funext q
  by_cases h : q = a
  · subst h; rw [cx_sI_s]
  · rw [cx_sI_n _ _ h]
theorem nd_sI2 (I : Nat → Nat → Int32) (a : Nat) (f g : Nat → Int32) : ev_sI (ev_sI I a f) a g = ev_sI I a g := by
  funext q
  by_cases h : q = a
  · subst h; rw [cx_sI_s, cx_sI_s]
  · rw [cx_sI_n _ _ h, cx_sI_n _ _ h, cx_sI_n _ _ h]
theorem nd_getI {I : Nat → Nat → Int32} {J : Nat → Nat → Int64} {R : Nat → Nat} {T : List ez_C} {p n : Nat} {t : List (Nat × Nat)} (h : cx_Ds[p]? = some (0, n, t)) (f : Nat → Int32) : (ev_hp (ev_sI I p f) J R T)[p]? = some (.inl (n, .inl f)) := by
  rw [cx_getI h, cx_sI_s]
theorem nd_getN {I : Nat → Nat → Int32} {J : Nat → Nat → Int64} {R : Nat → Nat} {T : List ez_C} {p q n : Nat} {t : List (Nat × Nat)} (h : cx_Ds[p]? = some (0, n, t)) (hn : p ≠ q) (f : Nat → Int32) : (ev_hp (ev_sI I q f) J R T)[p]? = some (.inl (n, .inl (I p))) := by
  rw [cx_getI h, cx_sI_n _ _ hn]
theorem nd_setI {I : Nat → Nat → Int32} {J : Nat → Nat → Int64} {R : Nat → Nat} {T : List ez_C} {p n : Nat} {t : List (Nat × Nat)} (h : cx_Ds[p]? = some (0, n, t)) (f g : Nat → Int32) : (ev_hp (ev_sI I p f) J R T).set p (.inl (n, .inl g)) = ev_hp (ev_sI I p g) J R T := by
  rw [cx_setI h g, nd_sI2]
theorem nd_upd_s (f : Nat → Int32) (k : Nat) (x : Int32) : upd f k x k = x := by simp [upd]
theorem nd_upd_n (f : Nat → Int32) {k q : Nat} (x : Int32) (h : q ≠ k) : upd f k x q = f q := by simp [upd, h]
theorem nd_hB53 {I : Nat → Nat → Int32} (hh : cx_hB cx_B0 I) (f : Nat → Int32) : cx_hB cx_B0 (ev_sI I 53 f) := cx_hB_I hh fun q => cx_full32 (f q)
theorem nd_inc {i : Int32} (h0 : 0 ≤ i.toInt) (h1 : i.toInt ≤ 10000) : (i + 1).toInt = i.toInt + 1 := by
  rw [Int32.toInt_add, show (1 : Int32).toInt = 1 from by decide, cx_bm32]
  simp only [cx_i32]
  omega
theorem nd_nat (i : Int32) : i.toNatClampNeg = i.toInt.toNat := rfl
theorem nd_ix3 {v : Int32} (h : v = 0 ∨ v = 1 ∨ v = 2) : ev_ix v 4 := by
  rcases h with rfl | rfl | rfl <;> exact ⟨by decide, by decide⟩
/-- the three numbers of parts -/
noncomputable def nd_is (p : Nat → Int32) (a m : Nat) (f : Nat → Int32) : Prop := (f 0).toInt = nd_cnt p a 0 m ∧ (f 1).toInt = nd_cnt p a 1 m ∧ (f 2).toInt = nd_cnt p a 2 m
theorem nd_is_y {p f : Nat → Int32} {a m : Nat} {v : Int32} (h : nd_is p a m f) (hv : p (a + m) = v) (h3 : v = 0 ∨ v = 1 ∨ v = 2) (hm : m < 1000) : nd_is p a (m + 1) (upd f v.toNatClampNeg (f v.toNatClampNeg + 1)) := by
  obtain ⟨h0, h1, h2⟩ := h
  have c0 := nd_cnt_le p a 0 m
  have c1 := nd_cnt_le p a 1 m
  have c2 := nd_cnt_le p a 2 m
  have inc : ∀ (x : Int32) (n : Nat), x.toInt = n → n ≤ m → (x + 1).toInt = ((n + 1 : Nat) : Int) := by
    intro x n hx hn
    rw [nd_inc (by omega) (by omega)]
    omega
  rcases h3 with rfl | rfl | rfl
  · rw [show (0 : Int32).toNatClampNeg = 0 from by decide]
    refine ⟨?_, ?_, ?_⟩
    · rw [nd_cnt_y hv, nd_upd_s]; exact inc _ _ h0 c0
    · rw [nd_cnt_n (by rw [hv]; decide), nd_upd_n _ _ (by decide)]; exact h1
    · rw [nd_cnt_n (by rw [hv]; decide), nd_upd_n _ _ (by decide)]; exact h2
  · rw [show (1 : Int32).toNatClampNeg = 1 from by decide]
    refine ⟨?_, ?_, ?_⟩
    · rw [nd_cnt_n (by rw [hv]; decide), nd_upd_n _ _ (by decide)]; exact h0
    · rw [nd_cnt_y hv, nd_upd_s]; exact inc _ _ h1 c1
    · rw [nd_cnt_n (by rw [hv]; decide), nd_upd_n _ _ (by decide)]; exact h2
  · rw [show (2 : Int32).toNatClampNeg = 2 from by decide]
    refine ⟨?_, ?_, ?_⟩
    · rw [nd_cnt_n (by rw [hv]; decide), nd_upd_n _ _ (by decide)]; exact h0
    · rw [nd_cnt_n (by rw [hv]; decide), nd_upd_n _ _ (by decide)]; exact h1
    · rw [nd_cnt_y hv, nd_upd_s]; exact inc _ _ h2 c2
theorem nd_is_0 (p f : Nat → Int32) (a : Nat) (h0 : f 0 = 0) (h1 : f 1 = 0) (h2 : f 2 = 0) : nd_is p a 0 f := by
  have e0 : (0 : Int32).toInt = 0 := by decide
  refine ⟨?_, ?_, ?_⟩
  · rw [h0, e0]; rfl
  · rw [h1, e0]; rfl
  · rw [h2, e0]; rfl
theorem eh_plP (X : ez_X) (I I' : Nat → Nat → Int32) (J : Nat → Nat → Int64) (R : Nat → Nat) (T : List ez_C) (k cell : Int32) (cd : Int64) (hh : cx_hB cx_B0 I') (hk : 0 ≤ k.toInt ∧ k.toInt ≤ 9999) (h3 : I' 35 3 = I 35 3) (h7 : I' 35 7 = I 35 7) (h41 : I' 41 = I 41) :
    ev_W X 216 0 (ez_lay [.ref 35, .int k, .int cell, .long cd]) [] (ev_hp I' J R T) 0 0 (ev_is (some (.int (pl_P I J k cell cd))) (ev_hp I' J R T)) := by
  rw [← pl_P_congr h3 h7 h41 (rfl : J 39 = J 39) k cell cd]
  exact eh_pl X I' J R T k cell cd hh hk
section
variable {X : ez_X} {I : Nat → Nat → Int32} {J : Nat → Nat → Int64} {R : Nat → Nat} {T : List ez_C} {cz kz : Nat}
theorem ce_r1  : ∀ G : ez_F, fx_up X 4 G 179 0 [.ref 35] [] (ev_hp I J R T) cz kz = G 179 8 [.ref 35] [.int (I 35 1), .int (I 35 0)] (ev_hp I J R T) cz kz := by
  intro G
  rfl
theorem ce_r2 {y : Int32} {x : Int32} : ∀ G : ez_F, fx_up X 2 G 179 8 [.ref 35] [.int y, .int x] (ev_hp I J R T) cz kz = some (some (.int (x * y)), ev_hp I J R T, cz, kz) := by
  intro G
  rfl
end
theorem eh_cells (X : ez_X) (I : Nat → Nat → Int32) (J : Nat → Nat → Int64) (R : Nat → Nat) (T : List ez_C) : ev_W X 179 0 (ez_lay [.ref 35]) [] (ev_hp I J R T) 0 0 (ev_is (some (.int (I 35 0 * I 35 1))) (ev_hp I J R T)) := by
  refine ev_seg ce_r1 ?_
  exact ev_ret ce_r2 ⟨rfl, rfl, rfl, rfl⟩
theorem nd_cl {I : Nat → Nat → Int32} (hh : cx_hB cx_B0 I) : 4 ≤ (I 35 0 * I 35 1).toInt ∧ (I 35 0 * I 35 1).toInt ≤ 36 := by
  have h0 := hh 35 0
  have h1 := hh 35 1
  rw [show cx_B0 35 0 = (2, 6) from rfl] at h0
  rw [show cx_B0 35 1 = (2, 6) from rfl] at h1
  simp only at h0 h1
  have m1 : 2 * 2 ≤ (I 35 0).toInt * (I 35 1).toInt := Int.mul_le_mul h0.1 h1.1 (by decide) (by omega)
  have m2 : (I 35 0).toInt * (I 35 1).toInt ≤ 6 * 6 := Int.mul_le_mul h0.2 h1.2 (by omega) (by decide)
  rw [Int32.toInt_mul, cx_bm32]
  · omega
  · simp only [cx_i32]; omega
noncomputable def nd_best (I : Nat → Nat → Int32) (J : Nat → Nat → Int64) (cd : Int64) (a n : Nat) (b0 l0 : Int32) (cl : Int) (b l : Int32) : Prop :=
  (b = b0 ∧ l = l0) ∨ (0 ≤ b.toInt ∧ b.toInt < cl ∧ l.toInt < l0.toInt ∧ ∀ v : Int32, v = 0 ∨ v = 1 ∨ v = 2 → ((nd_cnt (fun q => pl_P I J (I 59 q) b cd) a v n : Nat) : Int) ≤ l.toInt)
end
section
/-! needOf's search for a call. -/
section
variable {X : ez_X} {I : Nat → Nat → Int32} {J : Nat → Nat → Int64} {R : Nat → Nat} {T : List ez_C} {cz kz : Nat}
theorem nb_r1 {k : Int32} {z : Int32} {cd : Int64} {p1 : Int32} {b : Int32} {l : Int32} {c : Int32} {i : Int32} : ∀ G : ez_F, fx_up X 3 G 213 93 [.ref 35, .int k, .int z, .long cd, ez_fill, .int p1, .int b, .int l, .int c, .int i] [] (ev_hp I J R T) cz kz = bif decide (z ≤ i) then G 213 128 [.ref 35, .int k, .int z, .long cd, ez_fill, .int p1, .int b, .int l, .int c, .int i] [] (ev_hp I J R T) cz kz else G 213 99 [.ref 35, .int k, .int z, .long cd, ez_fill, .int p1, .int b, .int l, .int c, .int i] [] (ev_hp I J R T) cz kz := by
  intro G
  rfl
theorem nb_r2 {k : Int32} {z : Int32} {cd : Int64} {p1 : Int32} {b : Int32} {l : Int32} {c : Int32} {i : Int32} : ∀ G : ez_F, fx_up X 6 G 213 99 [.ref 35, .int k, .int z, .long cd, ez_fill, .int p1, .int b, .int l, .int c, .int i] [] (ev_hp I J R T) cz kz = G 213 110 [.ref 35, .int k, .int z, .long cd, ez_fill, .int p1, .int b, .int l, .int c, .int i] [.int i, .ref 59, .ref 35, .ref 53] (ev_hp I J R T) cz kz := by
  intro G
  rfl
theorem nb_r3 {k : Int32} {z : Int32} {cd : Int64} {p1 : Int32} {b : Int32} {l : Int32} {c : Int32} {i : Int32} {g : Int32} : ∀ G : ez_F, fx_up X 3 G 213 111 [.ref 35, .int k, .int z, .long cd, ez_fill, .int p1, .int b, .int l, .int c, .int i] [.int g, .ref 35, .ref 53] (ev_hp I J R T) cz kz = ev_C G 216 [.ref 35, .int g, .int c, .long cd] (ev_hp I J R T) fun r h1 c1 k1 => G 213 117 [.ref 35, .int k, .int z, .long cd, ez_fill, .int p1, .int b, .int l, .int c, .int i] (r.toList ++ [.ref 53]) h1 (cz + c1) (kz + k1) := by
  intro G
  rfl
theorem nb_r4 {k : Int32} {z : Int32} {cd : Int64} {p1 : Int32} {b : Int32} {l : Int32} {c : Int32} {i : Int32} {v : Int32} : ∀ G : ez_F, fx_up X 1 G 213 117 [.ref 35, .int k, .int z, .long cd, ez_fill, .int p1, .int b, .int l, .int c, .int i] [.int v, .ref 53] (ev_hp I J R T) cz kz = G 213 118 [.ref 35, .int k, .int z, .long cd, ez_fill, .int p1, .int b, .int l, .int c, .int i] [.int v, .ref 53, .int v, .ref 53] (ev_hp I J R T) cz kz := by
  intro G
  rfl
theorem nb_r5 {k : Int32} {z : Int32} {cd : Int64} {p1 : Int32} {b : Int32} {l : Int32} {c : Int32} {i : Int32} {x : Int32} {v : Int32} : ∀ G : ez_F, fx_up X 2 G 213 119 [.ref 35, .int k, .int z, .long cd, ez_fill, .int p1, .int b, .int l, .int c, .int i] [.int x, .int v, .ref 53] (ev_hp I J R T) cz kz = G 213 121 [.ref 35, .int k, .int z, .long cd, ez_fill, .int p1, .int b, .int l, .int c, .int i] [.int (x + 1), .int v, .ref 53] (ev_hp I J R T) cz kz := by
  intro G
  rfl
theorem nb_r6 {k : Int32} {z : Int32} {cd : Int64} {p1 : Int32} {b : Int32} {l : Int32} {c : Int32} {i : Int32} : ∀ G : ez_F, fx_up X 2 G 213 122 [.ref 35, .int k, .int z, .long cd, ez_fill, .int p1, .int b, .int l, .int c, .int i] [] (ev_hp I J R T) cz kz = G 213 93 [.ref 35, .int k, .int z, .long cd, ez_fill, .int p1, .int b, .int l, .int c, .int (i + 1)] [] (ev_hp I J R T) cz kz := by
  intro G
  rfl
theorem nb_r7 {k : Int32} {z : Int32} {cd : Int64} {p1 : Int32} {b : Int32} {l : Int32} {c : Int32} {i : Int32} : ∀ G : ez_F, fx_up X 3 G 213 128 [.ref 35, .int k, .int z, .long cd, ez_fill, .int p1, .int b, .int l, .int c, .int i] [] (ev_hp I J R T) cz kz = G 213 133 [.ref 35, .int k, .int z, .long cd, ez_fill, .int p1, .int b, .int l, .int c, .int i] [.int 0, .ref 53] (ev_hp I J R T) cz kz := by
  intro G
  rfl
theorem nb_r8 {k : Int32} {z : Int32} {cd : Int64} {p1 : Int32} {b : Int32} {l : Int32} {c : Int32} {i : Int32} {x : Int32} : ∀ G : ez_F, fx_up X 3 G 213 134 [.ref 35, .int k, .int z, .long cd, ez_fill, .int p1, .int b, .int l, .int c, .int i] [.int x] (ev_hp I J R T) cz kz = G 213 139 [.ref 35, .int k, .int z, .long cd, ez_fill, .int p1, .int b, .int l, .int c, .int i] [.int 1, .ref 53, .int x] (ev_hp I J R T) cz kz := by
  intro G
  rfl
theorem nb_r9 {k : Int32} {z : Int32} {cd : Int64} {p1 : Int32} {b : Int32} {l : Int32} {c : Int32} {i : Int32} {y : Int32} {x : Int32} : ∀ G : ez_F, fx_up X 1 G 213 140 [.ref 35, .int k, .int z, .long cd, ez_fill, .int p1, .int b, .int l, .int c, .int i] [.int y, .int x] (ev_hp I J R T) cz kz = bif decide (x ≤ y) then G 213 152 [.ref 35, .int k, .int z, .long cd, ez_fill, .int p1, .int b, .int l, .int c, .int i] [] (ev_hp I J R T) cz kz else G 213 143 [.ref 35, .int k, .int z, .long cd, ez_fill, .int p1, .int b, .int l, .int c, .int i] [] (ev_hp I J R T) cz kz := by
  intro G
  rfl
theorem nb_r10 {k : Int32} {z : Int32} {cd : Int64} {p1 : Int32} {b : Int32} {l : Int32} {c : Int32} {i : Int32} : ∀ G : ez_F, fx_up X 3 G 213 143 [.ref 35, .int k, .int z, .long cd, ez_fill, .int p1, .int b, .int l, .int c, .int i] [] (ev_hp I J R T) cz kz = G 213 148 [.ref 35, .int k, .int z, .long cd, ez_fill, .int p1, .int b, .int l, .int c, .int i] [.int 0, .ref 53] (ev_hp I J R T) cz kz := by
  intro G
  rfl
theorem nb_r11 {k : Int32} {z : Int32} {cd : Int64} {p1 : Int32} {b : Int32} {l : Int32} {c : Int32} {i : Int32} {x : Int32} : ∀ G : ez_F, fx_up X 1 G 213 149 [.ref 35, .int k, .int z, .long cd, ez_fill, .int p1, .int b, .int l, .int c, .int i] [.int x] (ev_hp I J R T) cz kz = G 213 158 [.ref 35, .int k, .int z, .long cd, ez_fill, .int p1, .int b, .int l, .int c, .int i] [.int x] (ev_hp I J R T) cz kz := by
  intro G
  rfl
theorem nb_r12 {k : Int32} {z : Int32} {cd : Int64} {p1 : Int32} {b : Int32} {l : Int32} {c : Int32} {i : Int32} : ∀ G : ez_F, fx_up X 3 G 213 152 [.ref 35, .int k, .int z, .long cd, ez_fill, .int p1, .int b, .int l, .int c, .int i] [] (ev_hp I J R T) cz kz = G 213 157 [.ref 35, .int k, .int z, .long cd, ez_fill, .int p1, .int b, .int l, .int c, .int i] [.int 1, .ref 53] (ev_hp I J R T) cz kz := by
  intro G
  rfl
theorem nb_r13 {k : Int32} {z : Int32} {cd : Int64} {p1 : Int32} {b : Int32} {l : Int32} {c : Int32} {i : Int32} {x : Int32} : ∀ G : ez_F, fx_up X 4 G 213 158 [.ref 35, .int k, .int z, .long cd, ez_fill, .int p1, .int b, .int l, .int c, .int i] [.int x] (ev_hp I J R T) cz kz = G 213 165 [.ref 35, .int k, .int z, .long cd, ez_fill, .int p1, .int b, .int l, .int c, .int x] [.int 2, .ref 53] (ev_hp I J R T) cz kz := by
  intro G
  rfl
theorem nb_r14 {k : Int32} {z : Int32} {cd : Int64} {p1 : Int32} {b : Int32} {l : Int32} {c : Int32} {x : Int32} {y : Int32} : ∀ G : ez_F, fx_up X 2 G 213 166 [.ref 35, .int k, .int z, .long cd, ez_fill, .int p1, .int b, .int l, .int c, .int x] [.int y] (ev_hp I J R T) cz kz = bif decide (y ≤ x) then G 213 180 [.ref 35, .int k, .int z, .long cd, ez_fill, .int p1, .int b, .int l, .int c, .int x] [] (ev_hp I J R T) cz kz else G 213 171 [.ref 35, .int k, .int z, .long cd, ez_fill, .int p1, .int b, .int l, .int c, .int x] [] (ev_hp I J R T) cz kz := by
  intro G
  rfl
theorem nb_r15 {k : Int32} {z : Int32} {cd : Int64} {p1 : Int32} {b : Int32} {l : Int32} {c : Int32} {x : Int32} : ∀ G : ez_F, fx_up X 3 G 213 171 [.ref 35, .int k, .int z, .long cd, ez_fill, .int p1, .int b, .int l, .int c, .int x] [] (ev_hp I J R T) cz kz = G 213 176 [.ref 35, .int k, .int z, .long cd, ez_fill, .int p1, .int b, .int l, .int c, .int x] [.int 2, .ref 53] (ev_hp I J R T) cz kz := by
  intro G
  rfl
theorem nb_r16 {k : Int32} {z : Int32} {cd : Int64} {p1 : Int32} {b : Int32} {l : Int32} {c : Int32} {x : Int32} {y : Int32} : ∀ G : ez_F, fx_up X 1 G 213 177 [.ref 35, .int k, .int z, .long cd, ez_fill, .int p1, .int b, .int l, .int c, .int x] [.int y] (ev_hp I J R T) cz kz = G 213 182 [.ref 35, .int k, .int z, .long cd, ez_fill, .int p1, .int b, .int l, .int c, .int x] [.int y] (ev_hp I J R T) cz kz := by
  intro G
  rfl
theorem nb_r17 {k : Int32} {z : Int32} {cd : Int64} {p1 : Int32} {b : Int32} {l : Int32} {c : Int32} {x : Int32} : ∀ G : ez_F, fx_up X 1 G 213 180 [.ref 35, .int k, .int z, .long cd, ez_fill, .int p1, .int b, .int l, .int c, .int x] [] (ev_hp I J R T) cz kz = G 213 182 [.ref 35, .int k, .int z, .long cd, ez_fill, .int p1, .int b, .int l, .int c, .int x] [.int x] (ev_hp I J R T) cz kz := by
  intro G
  rfl
theorem nb_r18 {k : Int32} {z : Int32} {cd : Int64} {p1 : Int32} {b : Int32} {l : Int32} {c : Int32} {i : Int32} {w : Int32} : ∀ G : ez_F, fx_up X 4 G 213 182 [.ref 35, .int k, .int z, .long cd, ez_fill, .int p1, .int b, .int l, .int c, .int i] [.int w] (ev_hp I J R T) cz kz = bif decide (l ≤ w) then G 213 196 [.ref 35, .int k, .int z, .long cd, ez_fill, .int p1, .int b, .int l, .int c, .int w] [] (ev_hp I J R T) cz kz else G 213 191 [.ref 35, .int k, .int z, .long cd, ez_fill, .int p1, .int b, .int l, .int c, .int w] [] (ev_hp I J R T) cz kz := by
  intro G
  rfl
theorem nb_r19 {k : Int32} {z : Int32} {cd : Int64} {p1 : Int32} {b : Int32} {l : Int32} {c : Int32} {w : Int32} : ∀ G : ez_F, fx_up X 2 G 213 191 [.ref 35, .int k, .int z, .long cd, ez_fill, .int p1, .int b, .int l, .int c, .int w] [] (ev_hp I J R T) cz kz = G 213 198 [.ref 35, .int k, .int z, .long cd, ez_fill, .int p1, .int b, .int l, .int c, .int w] [.int c] (ev_hp I J R T) cz kz := by
  intro G
  rfl
theorem nb_r20 {k : Int32} {z : Int32} {cd : Int64} {p1 : Int32} {b : Int32} {l : Int32} {c : Int32} {w : Int32} : ∀ G : ez_F, fx_up X 1 G 213 196 [.ref 35, .int k, .int z, .long cd, ez_fill, .int p1, .int b, .int l, .int c, .int w] [] (ev_hp I J R T) cz kz = G 213 198 [.ref 35, .int k, .int z, .long cd, ez_fill, .int p1, .int b, .int l, .int c, .int w] [.int b] (ev_hp I J R T) cz kz := by
  intro G
  rfl
theorem nb_r21 {k : Int32} {z : Int32} {cd : Int64} {p1 : Int32} {b : Int32} {l : Int32} {c : Int32} {w : Int32} {b' : Int32} : ∀ G : ez_F, fx_up X 4 G 213 198 [.ref 35, .int k, .int z, .long cd, ez_fill, .int p1, .int b, .int l, .int c, .int w] [.int b'] (ev_hp I J R T) cz kz = bif decide (l ≤ w) then G 213 212 [.ref 35, .int k, .int z, .long cd, ez_fill, .int p1, .int b', .int l, .int c, .int w] [] (ev_hp I J R T) cz kz else G 213 207 [.ref 35, .int k, .int z, .long cd, ez_fill, .int p1, .int b', .int l, .int c, .int w] [] (ev_hp I J R T) cz kz := by
  intro G
  rfl
theorem nb_r22 {k : Int32} {z : Int32} {cd : Int64} {p1 : Int32} {b : Int32} {l : Int32} {c : Int32} {w : Int32} : ∀ G : ez_F, fx_up X 2 G 213 207 [.ref 35, .int k, .int z, .long cd, ez_fill, .int p1, .int b, .int l, .int c, .int w] [] (ev_hp I J R T) cz kz = G 213 214 [.ref 35, .int k, .int z, .long cd, ez_fill, .int p1, .int b, .int l, .int c, .int w] [.int w] (ev_hp I J R T) cz kz := by
  intro G
  rfl
theorem nb_r23 {k : Int32} {z : Int32} {cd : Int64} {p1 : Int32} {b : Int32} {l : Int32} {c : Int32} {w : Int32} : ∀ G : ez_F, fx_up X 1 G 213 212 [.ref 35, .int k, .int z, .long cd, ez_fill, .int p1, .int b, .int l, .int c, .int w] [] (ev_hp I J R T) cz kz = G 213 214 [.ref 35, .int k, .int z, .long cd, ez_fill, .int p1, .int b, .int l, .int c, .int w] [.int l] (ev_hp I J R T) cz kz := by
  intro G
  rfl
theorem nb_r24 {k : Int32} {z : Int32} {cd : Int64} {p1 : Int32} {b : Int32} {l : Int32} {c : Int32} {w : Int32} {l' : Int32} : ∀ G : ez_F, fx_up X 3 G 213 214 [.ref 35, .int k, .int z, .long cd, ez_fill, .int p1, .int b, .int l, .int c, .int w] [.int l'] (ev_hp I J R T) cz kz = G 213 60 [.ref 35, .int k, .int z, .long cd, ez_fill, .int p1, .int b, .int l', .int (c + 1), .int w] [] (ev_hp I J R T) cz kz := by
  intro G
  rfl
theorem nb_r25 {k : Int32} {z : Int32} {cd : Int64} {p1 : Int32} {b : Int32} {l : Int32} {c : Int32} : ∀ G : ez_F, fx_up X 3 G 213 60 [.ref 35, .int k, .int z, .long cd, ez_fill, .int p1, .int b, .int l, .int c] [] (ev_hp I J R T) cz kz = ev_C G 179 [.ref 35] (ev_hp I J R T) fun r h1 c1 k1 => G 213 66 [.ref 35, .int k, .int z, .long cd, ez_fill, .int p1, .int b, .int l, .int c] (r.toList ++ [.int c]) h1 (cz + c1) (kz + k1) := by
  intro G
  rfl
theorem nb_r26 {k : Int32} {z : Int32} {cd : Int64} {p1 : Int32} {b : Int32} {l : Int32} {c : Int32} {y : Int32} : ∀ G : ez_F, fx_up X 1 G 213 66 [.ref 35, .int k, .int z, .long cd, ez_fill, .int p1, .int b, .int l, .int c] [.int y, .int c] (ev_hp I J R T) cz kz = bif decide (y ≤ c) then G 213 222 [.ref 35, .int k, .int z, .long cd, ez_fill, .int p1, .int b, .int l, .int c] [] (ev_hp I J R T) cz kz else G 213 69 [.ref 35, .int k, .int z, .long cd, ez_fill, .int p1, .int b, .int l, .int c] [] (ev_hp I J R T) cz kz := by
  intro G
  rfl
theorem nb_r27 {k : Int32} {z : Int32} {cd : Int64} {p1 : Int32} {b : Int32} {l : Int32} {c : Int32} : ∀ G : ez_F, fx_up X 4 G 213 69 [.ref 35, .int k, .int z, .long cd, ez_fill, .int p1, .int b, .int l, .int c] [] (ev_hp I J R T) cz kz = G 213 75 [.ref 35, .int k, .int z, .long cd, ez_fill, .int p1, .int b, .int l, .int c] [.int 0, .int 0, .ref 53] (ev_hp I J R T) cz kz := by
  intro G
  rfl
theorem nb_r28 {k : Int32} {z : Int32} {cd : Int64} {p1 : Int32} {b : Int32} {l : Int32} {c : Int32} : ∀ G : ez_F, fx_up X 4 G 213 76 [.ref 35, .int k, .int z, .long cd, ez_fill, .int p1, .int b, .int l, .int c] [] (ev_hp I J R T) cz kz = G 213 82 [.ref 35, .int k, .int z, .long cd, ez_fill, .int p1, .int b, .int l, .int c] [.int 0, .int 1, .ref 53] (ev_hp I J R T) cz kz := by
  intro G
  rfl
theorem nb_r29 {k : Int32} {z : Int32} {cd : Int64} {p1 : Int32} {b : Int32} {l : Int32} {c : Int32} : ∀ G : ez_F, fx_up X 4 G 213 83 [.ref 35, .int k, .int z, .long cd, ez_fill, .int p1, .int b, .int l, .int c] [] (ev_hp I J R T) cz kz = G 213 89 [.ref 35, .int k, .int z, .long cd, ez_fill, .int p1, .int b, .int l, .int c] [.int 0, .int 2, .ref 53] (ev_hp I J R T) cz kz := by
  intro G
  rfl
theorem nb_r30 {k : Int32} {z : Int32} {cd : Int64} {p1 : Int32} {b : Int32} {l : Int32} {c : Int32} : ∀ G : ez_F, fx_up X 2 G 213 90 [.ref 35, .int k, .int z, .long cd, ez_fill, .int p1, .int b, .int l, .int c] [] (ev_hp I J R T) cz kz = G 213 93 [.ref 35, .int k, .int z, .long cd, ez_fill, .int p1, .int b, .int l, .int c, .int 0] [] (ev_hp I J R T) cz kz := by
  intro G
  rfl
end
section
variable {X : ez_X} {I : Nat → Nat → Int32} {J : Nat → Nat → Int64} {R : Nat → Nat} {T : List ez_C} {Q : ev_Q} {cz kz : Nat} {k z p1 b l c : Int32} {cd : Int64}
theorem nb_cl {a n : Nat} (hh : cx_hB cx_B0 I) (haz : z.toInt = a + n) (hz : a + n ≤ 400)
    (cont : ∀ (f : Nat → Int32) (i : Int32), nd_is (fun q => pl_P I J (I 59 q) c cd) a n f → ev_W X 213 128 [.ref 35, .int k, .int z, .long cd, ez_fill, .int p1, .int b, .int l, .int c, .int i] [] (ev_hp (ev_sI I 53 f) J R T) cz kz Q) :
    ∀ (r m : Nat) (i : Int32) (f : Nat → Int32), i.toInt = a + m → m + r = n → nd_is (fun q => pl_P I J (I 59 q) c cd) a m f → ev_W X 213 93 [.ref 35, .int k, .int z, .long cd, ez_fill, .int p1, .int b, .int l, .int c, .int i] [] (ev_hp (ev_sI I 53 f) J R T) cz kz Q := by
  intro r
  induction r with
  | zero =>
    intro m i f hi hm hf
    refine ev_if nb_r1 (fun _ => ?_) (fun x => ?_)
    · obtain rfl : m = n := by omega
      exact cont f i hf
    · exact absurd (Int32.le_iff_toInt_le.mpr (by omega)) (of_decide_eq_false x)
  | succ r ih =>
    intro m i f hi hm hf
    refine ev_if nb_r1 (fun x => ?_) (fun _ => ?_)
    · have := Int32.le_iff_toInt_le.mp (of_decide_eq_true x)
      omega
    have ei : i.toNatClampNeg = a + m := by rw [nd_nat]; omega
    have hg := hh 59 (a + m)
    rw [show cx_B0 59 (a + m) = (0, 400) from rfl] at hg
    simp only at hg
    refine ev_seg nb_r2 ?_
    refine ev_iald (by rfl) (nd_getN (show cx_Ds[59]? = some (0, 401, []) from rfl) (by decide) f) (fs_ixs (by omega) (by omega)) ?_
    rw [ei]
    refine ev_call nb_r3 (eh_plP X I (ev_sI I 53 f) J R T (I 59 (a + m)) c cd (nd_hB53 hh f) (by omega) rfl rfl rfl) ?_
    rintro _ _ _ _ ⟨rfl, rfl, rfl, rfl⟩
    have h3 := pl_P_r I J (I 59 (a + m)) c cd
    have hs := nd_is_y hf (rfl : (fun q => pl_P I J (I 59 q) c cd) (a + m) = _) h3 (by omega)
    simp only at hs
    generalize pl_P I J (I 59 (a + m)) c cd = v at h3 hs ⊢
    refine ev_seg nb_r4 ?_
    refine ev_iald (by rfl) (nd_getI (show cx_Ds[53]? = some (0, 4, []) from rfl) f) (nd_ix3 h3) ?_
    refine ev_seg nb_r5 ?_
    refine ev_iastH (by rfl) (nd_getI (show cx_Ds[53]? = some (0, 4, []) from rfl) f) (nd_ix3 h3) (nd_setI (show cx_Ds[53]? = some (0, 4, []) from rfl) f _) ?_
    refine ev_seg nb_r6 ?_
    exact ih (m + 1) (i + 1) _ (by rw [nd_inc (by omega) (by omega)]; omega) (by omega) hs
theorem nb_mx {f : Nat → Int32} (cont : ∀ w i : Int32, (f 0).toInt ≤ w.toInt → (f 1).toInt ≤ w.toInt → (f 2).toInt ≤ w.toInt → ev_W X 213 182 [.ref 35, .int k, .int z, .long cd, ez_fill, .int p1, .int b, .int l, .int c, .int i] [.int w] (ev_hp (ev_sI I 53 f) J R T) cz kz Q) (i : Int32) : ev_W X 213 128 [.ref 35, .int k, .int z, .long cd, ez_fill, .int p1, .int b, .int l, .int c, .int i] [] (ev_hp (ev_sI I 53 f) J R T) cz kz Q := by
  have g : (ev_hp (ev_sI I 53 f) J R T)[53]? = some (.inl (4, .inl f)) := nd_getI (show cx_Ds[53]? = some (0, 4, []) from rfl) f
  have n0 : (0 : Int32).toNatClampNeg = 0 := by decide
  have n1 : (1 : Int32).toNatClampNeg = 1 := by decide
  have n2 : (2 : Int32).toNatClampNeg = 2 := by decide
  have x0 : ev_ix 0 4 := nd_ix3 (Or.inl rfl)
  have x1 : ev_ix 1 4 := nd_ix3 (Or.inr (Or.inl rfl))
  have x2 : ev_ix 2 4 := nd_ix3 (Or.inr (Or.inr rfl))
  have second : ∀ x i : Int32, (f 0).toInt ≤ x.toInt → (f 1).toInt ≤ x.toInt → ev_W X 213 158 [.ref 35, .int k, .int z, .long cd, ez_fill, .int p1, .int b, .int l, .int c, .int i] [.int x] (ev_hp (ev_sI I 53 f) J R T) cz kz Q := by
    intro x i h0 h1
    refine ev_seg nb_r13 ?_
    refine ev_iald (by rfl) g x2 ?_
    rw [n2]
    refine ev_if nb_r14 (fun z1 => ?_) (fun z1 => ?_)
    · exact ev_seg nb_r17 (cont x x h0 h1 (Int32.le_iff_toInt_le.mp (of_decide_eq_true z1)))
    · have h2 : ¬ (f 2).toInt ≤ x.toInt := fun h => (of_decide_eq_false z1) (Int32.le_iff_toInt_le.mpr h)
      refine ev_seg nb_r15 ?_
      refine ev_iald (by rfl) g x2 ?_
      rw [n2]
      exact ev_seg nb_r16 (cont (f 2) x (by omega) (by omega) (by omega))
  refine ev_seg nb_r7 ?_
  refine ev_iald (by rfl) g x0 ?_
  rw [n0]
  refine ev_seg nb_r8 ?_
  refine ev_iald (by rfl) g x1 ?_
  rw [n1]
  refine ev_if nb_r9 (fun z1 => ?_) (fun z1 => ?_)
  · have h2 := Int32.le_iff_toInt_le.mp (of_decide_eq_true z1)
    refine ev_seg nb_r12 ?_
    refine ev_iald (by rfl) g x1 ?_
    rw [n1]
    exact second (f 1) i h2 (by omega)
  · have h2 : ¬ (f 0).toInt ≤ (f 1).toInt := fun h => (of_decide_eq_false z1) (Int32.le_iff_toInt_le.mpr h)
    refine ev_seg nb_r10 ?_
    refine ev_iald (by rfl) g x0 ?_
    rw [n0]
    exact ev_seg nb_r11 (second (f 0) i (by omega) (by omega))
theorem nb_best {a n : Nat} {b0 l0 : Int32} {cl : Int} (hh : cx_hB cx_B0 I) (haz : z.toInt = a + n) (hz : a + n ≤ 400) (hs : (0 : Int32).toInt = a) (hcl : (I 35 0 * I 35 1).toInt = cl) (h36 : cl ≤ 36)
    (cont : ∀ (f : Nat → Int32) (b l c : Int32), nd_best I J cd a n b0 l0 cl b l → ev_W X 213 222 [.ref 35, .int k, .int z, .long cd, ez_fill, .int p1, .int b, .int l, .int c] [] (ev_hp (ev_sI I 53 f) J R T) cz kz Q) :
    ∀ (D : Nat) (b l c : Int32) (f : Nat → Int32), 0 ≤ c.toInt → c.toInt + D = cl → nd_best I J cd a n b0 l0 cl b l → ev_W X 213 60 [.ref 35, .int k, .int z, .long cd, ez_fill, .int p1, .int b, .int l, .int c] [] (ev_hp (ev_sI I 53 f) J R T) cz kz Q := by
  intro D
  induction D with
  | zero =>
    intro b l c f h0 hc hb
    refine ev_call nb_r25 (eh_cells X (ev_sI I 53 f) J R T) ?_
    rintro _ _ _ _ ⟨rfl, rfl, rfl, rfl⟩
    have hc2 : (ev_sI I 53 f 35 0 * ev_sI I 53 f 35 1).toInt = cl := hcl
    refine ev_if nb_r26 (fun _ => cont f b l c hb) (fun x => ?_)
    exact absurd (Int32.le_iff_toInt_le.mpr (by omega)) (of_decide_eq_false x)
  | succ D ih =>
    intro b l c f h0 hc hb
    refine ev_call nb_r25 (eh_cells X (ev_sI I 53 f) J R T) ?_
    rintro _ _ _ _ ⟨rfl, rfl, rfl, rfl⟩
    have hc2 : (ev_sI I 53 f 35 0 * ev_sI I 53 f 35 1).toInt = cl := hcl
    refine ev_if nb_r26 (fun x => ?_) (fun _ => ?_)
    · have := Int32.le_iff_toInt_le.mp (of_decide_eq_true x)
      omega
    refine ev_seg nb_r27 ?_
    refine ev_iastH (by rfl) (nd_getI (show cx_Ds[53]? = some (0, 4, []) from rfl) f) (nd_ix3 (Or.inl rfl)) (nd_setI (show cx_Ds[53]? = some (0, 4, []) from rfl) f _) ?_
    refine ev_seg nb_r28 ?_
    refine ev_iastH (by rfl) (nd_getI (show cx_Ds[53]? = some (0, 4, []) from rfl) _) (nd_ix3 (Or.inr (Or.inl rfl))) (nd_setI (show cx_Ds[53]? = some (0, 4, []) from rfl) _ _) ?_
    refine ev_seg nb_r29 ?_
    refine ev_iastH (by rfl) (nd_getI (show cx_Ds[53]? = some (0, 4, []) from rfl) _) (nd_ix3 (Or.inr (Or.inr rfl))) (nd_setI (show cx_Ds[53]? = some (0, 4, []) from rfl) _ _) ?_
    refine ev_seg nb_r30 ?_
    rw [show (0 : Int32).toNatClampNeg = 0 from by decide, show (1 : Int32).toNatClampNeg = 1 from by decide, show (2 : Int32).toNatClampNeg = 2 from by decide]
    refine nb_cl (a := a) (n := n) hh haz hz (fun f i hf => ?_) n 0 _ _ (by omega) (by omega) (nd_is_0 _ _ a ?_ ?_ ?_)
    rotate_left
    · rw [nd_upd_n _ _ (by decide), nd_upd_n _ _ (by decide), nd_upd_s]
    · rw [nd_upd_n _ _ (by decide), nd_upd_s]
    · rw [nd_upd_s]
    refine nb_mx (fun w i w0 w1 w2 => ?_) i
    have hc1 : (c + 1).toInt = c.toInt + 1 := nd_inc (by omega) (by omega)
    refine ev_if nb_r18 (fun x => ?_) (fun x => ?_)
    · refine ev_seg nb_r20 ?_
      refine ev_if nb_r21 (fun _ => ?_) (fun y => absurd (of_decide_eq_true x) (of_decide_eq_false y))
      refine ev_seg nb_r23 ?_
      refine ev_seg nb_r24 ?_
      refine ev_cutl (by rfl) ?_
      exact ih b l (c + 1) f (by omega) (by omega) hb
    · have hw : ¬ l.toInt ≤ w.toInt := fun h => (of_decide_eq_false x) (Int32.le_iff_toInt_le.mpr h)
      refine ev_seg nb_r19 ?_
      refine ev_if nb_r21 (fun y => absurd (of_decide_eq_true y) (of_decide_eq_false x)) (fun _ => ?_)
      refine ev_seg nb_r22 ?_
      refine ev_seg nb_r24 ?_
      refine ev_cutl (by rfl) ?_
      refine ih c w (c + 1) f (by omega) (by omega) (Or.inr ⟨h0, by omega, ?_, fun v hv => ?_⟩)
      · rcases hb with ⟨-, rfl⟩ | hb
        · omega
        · omega
      · obtain ⟨f0, f1, f2⟩ := hf
        rcases hv with rfl | rfl | rfl
        · rw [← f0]; exact w0
        · rw [← f1]; exact w1
        · rw [← f2]; exact w2
end
end
section
/-! callFor. -/
section
variable {X : ez_X} {I : Nat → Nat → Int32} {J : Nat → Nat → Int64} {R : Nat → Nat} {T : List ez_C} {cz kz : Nat}
theorem cf_r1 {s : Int32} {z : Int32} {cd : Int64} {b : Int32} {l : Int32} {c : Int32} {i : Int32} : ∀ G : ez_F, fx_up X 3 G 177 44 [.ref 35, .int s, .int z, .long cd, ez_fill, .int b, .int l, .int c, .int i] [] (ev_hp I J R T) cz kz = bif decide (z ≤ i) then G 177 79 [.ref 35, .int s, .int z, .long cd, ez_fill, .int b, .int l, .int c, .int i] [] (ev_hp I J R T) cz kz else G 177 50 [.ref 35, .int s, .int z, .long cd, ez_fill, .int b, .int l, .int c, .int i] [] (ev_hp I J R T) cz kz := by
  intro G
  rfl
theorem cf_r2 {s : Int32} {z : Int32} {cd : Int64} {b : Int32} {l : Int32} {c : Int32} {i : Int32} : ∀ G : ez_F, fx_up X 6 G 177 50 [.ref 35, .int s, .int z, .long cd, ez_fill, .int b, .int l, .int c, .int i] [] (ev_hp I J R T) cz kz = G 177 61 [.ref 35, .int s, .int z, .long cd, ez_fill, .int b, .int l, .int c, .int i] [.int i, .ref 59, .ref 35, .ref 53] (ev_hp I J R T) cz kz := by
  intro G
  rfl
theorem cf_r3 {s : Int32} {z : Int32} {cd : Int64} {b : Int32} {l : Int32} {c : Int32} {i : Int32} {g : Int32} : ∀ G : ez_F, fx_up X 3 G 177 62 [.ref 35, .int s, .int z, .long cd, ez_fill, .int b, .int l, .int c, .int i] [.int g, .ref 35, .ref 53] (ev_hp I J R T) cz kz = ev_C G 216 [.ref 35, .int g, .int c, .long cd] (ev_hp I J R T) fun r h1 c1 k1 => G 177 68 [.ref 35, .int s, .int z, .long cd, ez_fill, .int b, .int l, .int c, .int i] (r.toList ++ [.ref 53]) h1 (cz + c1) (kz + k1) := by
  intro G
  rfl
theorem cf_r4 {s : Int32} {z : Int32} {cd : Int64} {b : Int32} {l : Int32} {c : Int32} {i : Int32} {v : Int32} : ∀ G : ez_F, fx_up X 1 G 177 68 [.ref 35, .int s, .int z, .long cd, ez_fill, .int b, .int l, .int c, .int i] [.int v, .ref 53] (ev_hp I J R T) cz kz = G 177 69 [.ref 35, .int s, .int z, .long cd, ez_fill, .int b, .int l, .int c, .int i] [.int v, .ref 53, .int v, .ref 53] (ev_hp I J R T) cz kz := by
  intro G
  rfl
theorem cf_r5 {s : Int32} {z : Int32} {cd : Int64} {b : Int32} {l : Int32} {c : Int32} {i : Int32} {x : Int32} {v : Int32} : ∀ G : ez_F, fx_up X 2 G 177 70 [.ref 35, .int s, .int z, .long cd, ez_fill, .int b, .int l, .int c, .int i] [.int x, .int v, .ref 53] (ev_hp I J R T) cz kz = G 177 72 [.ref 35, .int s, .int z, .long cd, ez_fill, .int b, .int l, .int c, .int i] [.int (x + 1), .int v, .ref 53] (ev_hp I J R T) cz kz := by
  intro G
  rfl
theorem cf_r6 {s : Int32} {z : Int32} {cd : Int64} {b : Int32} {l : Int32} {c : Int32} {i : Int32} : ∀ G : ez_F, fx_up X 2 G 177 73 [.ref 35, .int s, .int z, .long cd, ez_fill, .int b, .int l, .int c, .int i] [] (ev_hp I J R T) cz kz = G 177 44 [.ref 35, .int s, .int z, .long cd, ez_fill, .int b, .int l, .int c, .int (i + 1)] [] (ev_hp I J R T) cz kz := by
  intro G
  rfl
theorem cf_r7 {s : Int32} {z : Int32} {cd : Int64} {b : Int32} {l : Int32} {c : Int32} {i : Int32} : ∀ G : ez_F, fx_up X 3 G 177 79 [.ref 35, .int s, .int z, .long cd, ez_fill, .int b, .int l, .int c, .int i] [] (ev_hp I J R T) cz kz = G 177 84 [.ref 35, .int s, .int z, .long cd, ez_fill, .int b, .int l, .int c, .int i] [.int 0, .ref 53] (ev_hp I J R T) cz kz := by
  intro G
  rfl
theorem cf_r8 {s : Int32} {z : Int32} {cd : Int64} {b : Int32} {l : Int32} {c : Int32} {i : Int32} {x : Int32} : ∀ G : ez_F, fx_up X 3 G 177 85 [.ref 35, .int s, .int z, .long cd, ez_fill, .int b, .int l, .int c, .int i] [.int x] (ev_hp I J R T) cz kz = G 177 90 [.ref 35, .int s, .int z, .long cd, ez_fill, .int b, .int l, .int c, .int i] [.int 1, .ref 53, .int x] (ev_hp I J R T) cz kz := by
  intro G
  rfl
theorem cf_r9 {s : Int32} {z : Int32} {cd : Int64} {b : Int32} {l : Int32} {c : Int32} {i : Int32} {y : Int32} {x : Int32} : ∀ G : ez_F, fx_up X 1 G 177 91 [.ref 35, .int s, .int z, .long cd, ez_fill, .int b, .int l, .int c, .int i] [.int y, .int x] (ev_hp I J R T) cz kz = bif decide (x ≤ y) then G 177 103 [.ref 35, .int s, .int z, .long cd, ez_fill, .int b, .int l, .int c, .int i] [] (ev_hp I J R T) cz kz else G 177 94 [.ref 35, .int s, .int z, .long cd, ez_fill, .int b, .int l, .int c, .int i] [] (ev_hp I J R T) cz kz := by
  intro G
  rfl
theorem cf_r10 {s : Int32} {z : Int32} {cd : Int64} {b : Int32} {l : Int32} {c : Int32} {i : Int32} : ∀ G : ez_F, fx_up X 3 G 177 94 [.ref 35, .int s, .int z, .long cd, ez_fill, .int b, .int l, .int c, .int i] [] (ev_hp I J R T) cz kz = G 177 99 [.ref 35, .int s, .int z, .long cd, ez_fill, .int b, .int l, .int c, .int i] [.int 0, .ref 53] (ev_hp I J R T) cz kz := by
  intro G
  rfl
theorem cf_r11 {s : Int32} {z : Int32} {cd : Int64} {b : Int32} {l : Int32} {c : Int32} {i : Int32} {x : Int32} : ∀ G : ez_F, fx_up X 1 G 177 100 [.ref 35, .int s, .int z, .long cd, ez_fill, .int b, .int l, .int c, .int i] [.int x] (ev_hp I J R T) cz kz = G 177 109 [.ref 35, .int s, .int z, .long cd, ez_fill, .int b, .int l, .int c, .int i] [.int x] (ev_hp I J R T) cz kz := by
  intro G
  rfl
theorem cf_r12 {s : Int32} {z : Int32} {cd : Int64} {b : Int32} {l : Int32} {c : Int32} {i : Int32} : ∀ G : ez_F, fx_up X 3 G 177 103 [.ref 35, .int s, .int z, .long cd, ez_fill, .int b, .int l, .int c, .int i] [] (ev_hp I J R T) cz kz = G 177 108 [.ref 35, .int s, .int z, .long cd, ez_fill, .int b, .int l, .int c, .int i] [.int 1, .ref 53] (ev_hp I J R T) cz kz := by
  intro G
  rfl
theorem cf_r13 {s : Int32} {z : Int32} {cd : Int64} {b : Int32} {l : Int32} {c : Int32} {i : Int32} {x : Int32} : ∀ G : ez_F, fx_up X 4 G 177 109 [.ref 35, .int s, .int z, .long cd, ez_fill, .int b, .int l, .int c, .int i] [.int x] (ev_hp I J R T) cz kz = G 177 116 [.ref 35, .int s, .int z, .long cd, ez_fill, .int b, .int l, .int c, .int x] [.int 2, .ref 53] (ev_hp I J R T) cz kz := by
  intro G
  rfl
theorem cf_r14 {s : Int32} {z : Int32} {cd : Int64} {b : Int32} {l : Int32} {c : Int32} {x : Int32} {y : Int32} : ∀ G : ez_F, fx_up X 2 G 177 117 [.ref 35, .int s, .int z, .long cd, ez_fill, .int b, .int l, .int c, .int x] [.int y] (ev_hp I J R T) cz kz = bif decide (y ≤ x) then G 177 131 [.ref 35, .int s, .int z, .long cd, ez_fill, .int b, .int l, .int c, .int x] [] (ev_hp I J R T) cz kz else G 177 122 [.ref 35, .int s, .int z, .long cd, ez_fill, .int b, .int l, .int c, .int x] [] (ev_hp I J R T) cz kz := by
  intro G
  rfl
theorem cf_r15 {s : Int32} {z : Int32} {cd : Int64} {b : Int32} {l : Int32} {c : Int32} {x : Int32} : ∀ G : ez_F, fx_up X 3 G 177 122 [.ref 35, .int s, .int z, .long cd, ez_fill, .int b, .int l, .int c, .int x] [] (ev_hp I J R T) cz kz = G 177 127 [.ref 35, .int s, .int z, .long cd, ez_fill, .int b, .int l, .int c, .int x] [.int 2, .ref 53] (ev_hp I J R T) cz kz := by
  intro G
  rfl
theorem cf_r16 {s : Int32} {z : Int32} {cd : Int64} {b : Int32} {l : Int32} {c : Int32} {x : Int32} {y : Int32} : ∀ G : ez_F, fx_up X 1 G 177 128 [.ref 35, .int s, .int z, .long cd, ez_fill, .int b, .int l, .int c, .int x] [.int y] (ev_hp I J R T) cz kz = G 177 133 [.ref 35, .int s, .int z, .long cd, ez_fill, .int b, .int l, .int c, .int x] [.int y] (ev_hp I J R T) cz kz := by
  intro G
  rfl
theorem cf_r17 {s : Int32} {z : Int32} {cd : Int64} {b : Int32} {l : Int32} {c : Int32} {x : Int32} : ∀ G : ez_F, fx_up X 1 G 177 131 [.ref 35, .int s, .int z, .long cd, ez_fill, .int b, .int l, .int c, .int x] [] (ev_hp I J R T) cz kz = G 177 133 [.ref 35, .int s, .int z, .long cd, ez_fill, .int b, .int l, .int c, .int x] [.int x] (ev_hp I J R T) cz kz := by
  intro G
  rfl
theorem cf_r18 {s : Int32} {z : Int32} {cd : Int64} {b : Int32} {l : Int32} {c : Int32} {i : Int32} {w : Int32} : ∀ G : ez_F, fx_up X 4 G 177 133 [.ref 35, .int s, .int z, .long cd, ez_fill, .int b, .int l, .int c, .int i] [.int w] (ev_hp I J R T) cz kz = bif decide (l ≤ w) then G 177 147 [.ref 35, .int s, .int z, .long cd, ez_fill, .int b, .int l, .int c, .int w] [] (ev_hp I J R T) cz kz else G 177 142 [.ref 35, .int s, .int z, .long cd, ez_fill, .int b, .int l, .int c, .int w] [] (ev_hp I J R T) cz kz := by
  intro G
  rfl
theorem cf_r19 {s : Int32} {z : Int32} {cd : Int64} {b : Int32} {l : Int32} {c : Int32} {w : Int32} : ∀ G : ez_F, fx_up X 2 G 177 142 [.ref 35, .int s, .int z, .long cd, ez_fill, .int b, .int l, .int c, .int w] [] (ev_hp I J R T) cz kz = G 177 149 [.ref 35, .int s, .int z, .long cd, ez_fill, .int b, .int l, .int c, .int w] [.int c] (ev_hp I J R T) cz kz := by
  intro G
  rfl
theorem cf_r20 {s : Int32} {z : Int32} {cd : Int64} {b : Int32} {l : Int32} {c : Int32} {w : Int32} : ∀ G : ez_F, fx_up X 1 G 177 147 [.ref 35, .int s, .int z, .long cd, ez_fill, .int b, .int l, .int c, .int w] [] (ev_hp I J R T) cz kz = G 177 149 [.ref 35, .int s, .int z, .long cd, ez_fill, .int b, .int l, .int c, .int w] [.int b] (ev_hp I J R T) cz kz := by
  intro G
  rfl
theorem cf_r21 {s : Int32} {z : Int32} {cd : Int64} {b : Int32} {l : Int32} {c : Int32} {w : Int32} {b' : Int32} : ∀ G : ez_F, fx_up X 4 G 177 149 [.ref 35, .int s, .int z, .long cd, ez_fill, .int b, .int l, .int c, .int w] [.int b'] (ev_hp I J R T) cz kz = bif decide (l ≤ w) then G 177 163 [.ref 35, .int s, .int z, .long cd, ez_fill, .int b', .int l, .int c, .int w] [] (ev_hp I J R T) cz kz else G 177 158 [.ref 35, .int s, .int z, .long cd, ez_fill, .int b', .int l, .int c, .int w] [] (ev_hp I J R T) cz kz := by
  intro G
  rfl
theorem cf_r22 {s : Int32} {z : Int32} {cd : Int64} {b : Int32} {l : Int32} {c : Int32} {w : Int32} : ∀ G : ez_F, fx_up X 2 G 177 158 [.ref 35, .int s, .int z, .long cd, ez_fill, .int b, .int l, .int c, .int w] [] (ev_hp I J R T) cz kz = G 177 165 [.ref 35, .int s, .int z, .long cd, ez_fill, .int b, .int l, .int c, .int w] [.int w] (ev_hp I J R T) cz kz := by
  intro G
  rfl
theorem cf_r23 {s : Int32} {z : Int32} {cd : Int64} {b : Int32} {l : Int32} {c : Int32} {w : Int32} : ∀ G : ez_F, fx_up X 1 G 177 163 [.ref 35, .int s, .int z, .long cd, ez_fill, .int b, .int l, .int c, .int w] [] (ev_hp I J R T) cz kz = G 177 165 [.ref 35, .int s, .int z, .long cd, ez_fill, .int b, .int l, .int c, .int w] [.int l] (ev_hp I J R T) cz kz := by
  intro G
  rfl
theorem cf_r24 {s : Int32} {z : Int32} {cd : Int64} {b : Int32} {l : Int32} {c : Int32} {w : Int32} {l' : Int32} : ∀ G : ez_F, fx_up X 3 G 177 165 [.ref 35, .int s, .int z, .long cd, ez_fill, .int b, .int l, .int c, .int w] [.int l'] (ev_hp I J R T) cz kz = G 177 11 [.ref 35, .int s, .int z, .long cd, ez_fill, .int b, .int l', .int (c + 1), .int w] [] (ev_hp I J R T) cz kz := by
  intro G
  rfl
theorem cf_r25 {s : Int32} {z : Int32} {cd : Int64} {b : Int32} {l : Int32} {c : Int32} : ∀ G : ez_F, fx_up X 3 G 177 11 [.ref 35, .int s, .int z, .long cd, ez_fill, .int b, .int l, .int c] [] (ev_hp I J R T) cz kz = ev_C G 179 [.ref 35] (ev_hp I J R T) fun r h1 c1 k1 => G 177 17 [.ref 35, .int s, .int z, .long cd, ez_fill, .int b, .int l, .int c] (r.toList ++ [.int c]) h1 (cz + c1) (kz + k1) := by
  intro G
  rfl
theorem cf_r26 {s : Int32} {z : Int32} {cd : Int64} {b : Int32} {l : Int32} {c : Int32} {y : Int32} : ∀ G : ez_F, fx_up X 1 G 177 17 [.ref 35, .int s, .int z, .long cd, ez_fill, .int b, .int l, .int c] [.int y, .int c] (ev_hp I J R T) cz kz = bif decide (y ≤ c) then G 177 173 [.ref 35, .int s, .int z, .long cd, ez_fill, .int b, .int l, .int c] [] (ev_hp I J R T) cz kz else G 177 20 [.ref 35, .int s, .int z, .long cd, ez_fill, .int b, .int l, .int c] [] (ev_hp I J R T) cz kz := by
  intro G
  rfl
theorem cf_r27 {s : Int32} {z : Int32} {cd : Int64} {b : Int32} {l : Int32} {c : Int32} : ∀ G : ez_F, fx_up X 4 G 177 20 [.ref 35, .int s, .int z, .long cd, ez_fill, .int b, .int l, .int c] [] (ev_hp I J R T) cz kz = G 177 26 [.ref 35, .int s, .int z, .long cd, ez_fill, .int b, .int l, .int c] [.int 0, .int 0, .ref 53] (ev_hp I J R T) cz kz := by
  intro G
  rfl
theorem cf_r28 {s : Int32} {z : Int32} {cd : Int64} {b : Int32} {l : Int32} {c : Int32} : ∀ G : ez_F, fx_up X 4 G 177 27 [.ref 35, .int s, .int z, .long cd, ez_fill, .int b, .int l, .int c] [] (ev_hp I J R T) cz kz = G 177 33 [.ref 35, .int s, .int z, .long cd, ez_fill, .int b, .int l, .int c] [.int 0, .int 1, .ref 53] (ev_hp I J R T) cz kz := by
  intro G
  rfl
theorem cf_r29 {s : Int32} {z : Int32} {cd : Int64} {b : Int32} {l : Int32} {c : Int32} : ∀ G : ez_F, fx_up X 4 G 177 34 [.ref 35, .int s, .int z, .long cd, ez_fill, .int b, .int l, .int c] [] (ev_hp I J R T) cz kz = G 177 40 [.ref 35, .int s, .int z, .long cd, ez_fill, .int b, .int l, .int c] [.int 0, .int 2, .ref 53] (ev_hp I J R T) cz kz := by
  intro G
  rfl
theorem cf_r30 {s : Int32} {z : Int32} {cd : Int64} {b : Int32} {l : Int32} {c : Int32} : ∀ G : ez_F, fx_up X 2 G 177 41 [.ref 35, .int s, .int z, .long cd, ez_fill, .int b, .int l, .int c] [] (ev_hp I J R T) cz kz = G 177 44 [.ref 35, .int s, .int z, .long cd, ez_fill, .int b, .int l, .int c, .int s] [] (ev_hp I J R T) cz kz := by
  intro G
  rfl
end
section
variable {X : ez_X} {I : Nat → Nat → Int32} {J : Nat → Nat → Int64} {R : Nat → Nat} {T : List ez_C} {Q : ev_Q} {cz kz : Nat} {s z b l c : Int32} {cd : Int64}
theorem cf_cl {a n : Nat} (hh : cx_hB cx_B0 I) (haz : z.toInt = a + n) (hz : a + n ≤ 400)
    (cont : ∀ (f : Nat → Int32) (i : Int32), nd_is (fun q => pl_P I J (I 59 q) c cd) a n f → ev_W X 177 79 [.ref 35, .int s, .int z, .long cd, ez_fill, .int b, .int l, .int c, .int i] [] (ev_hp (ev_sI I 53 f) J R T) cz kz Q) :
    ∀ (r m : Nat) (i : Int32) (f : Nat → Int32), i.toInt = a + m → m + r = n → nd_is (fun q => pl_P I J (I 59 q) c cd) a m f → ev_W X 177 44 [.ref 35, .int s, .int z, .long cd, ez_fill, .int b, .int l, .int c, .int i] [] (ev_hp (ev_sI I 53 f) J R T) cz kz Q := by
  intro r
  induction r with
  | zero =>
    intro m i f hi hm hf
    refine ev_if cf_r1 (fun _ => ?_) (fun x => ?_)
    · obtain rfl : m = n := by omega
      exact cont f i hf
    · exact absurd (Int32.le_iff_toInt_le.mpr (by omega)) (of_decide_eq_false x)
  | succ r ih =>
    intro m i f hi hm hf
    refine ev_if cf_r1 (fun x => ?_) (fun _ => ?_)
    · have := Int32.le_iff_toInt_le.mp (of_decide_eq_true x)
      omega
    have ei : i.toNatClampNeg = a + m := by rw [nd_nat]; omega
    have hg := hh 59 (a + m)
    rw [show cx_B0 59 (a + m) = (0, 400) from rfl] at hg
    simp only at hg
    refine ev_seg cf_r2 ?_
    refine ev_iald (by rfl) (nd_getN (show cx_Ds[59]? = some (0, 401, []) from rfl) (by decide) f) (fs_ixs (by omega) (by omega)) ?_
    rw [ei]
    refine ev_call cf_r3 (eh_plP X I (ev_sI I 53 f) J R T (I 59 (a + m)) c cd (nd_hB53 hh f) (by omega) rfl rfl rfl) ?_
    rintro _ _ _ _ ⟨rfl, rfl, rfl, rfl⟩
    have h3 := pl_P_r I J (I 59 (a + m)) c cd
    have hs := nd_is_y hf (rfl : (fun q => pl_P I J (I 59 q) c cd) (a + m) = _) h3 (by omega)
    simp only at hs
    generalize pl_P I J (I 59 (a + m)) c cd = v at h3 hs ⊢
    refine ev_seg cf_r4 ?_
    refine ev_iald (by rfl) (nd_getI (show cx_Ds[53]? = some (0, 4, []) from rfl) f) (nd_ix3 h3) ?_
    refine ev_seg cf_r5 ?_
    refine ev_iastH (by rfl) (nd_getI (show cx_Ds[53]? = some (0, 4, []) from rfl) f) (nd_ix3 h3) (nd_setI (show cx_Ds[53]? = some (0, 4, []) from rfl) f _) ?_
    refine ev_seg cf_r6 ?_
    exact ih (m + 1) (i + 1) _ (by rw [nd_inc (by omega) (by omega)]; omega) (by omega) hs
theorem cf_mx {f : Nat → Int32} (cont : ∀ w i : Int32, (f 0).toInt ≤ w.toInt → (f 1).toInt ≤ w.toInt → (f 2).toInt ≤ w.toInt → ev_W X 177 133 [.ref 35, .int s, .int z, .long cd, ez_fill, .int b, .int l, .int c, .int i] [.int w] (ev_hp (ev_sI I 53 f) J R T) cz kz Q) (i : Int32) : ev_W X 177 79 [.ref 35, .int s, .int z, .long cd, ez_fill, .int b, .int l, .int c, .int i] [] (ev_hp (ev_sI I 53 f) J R T) cz kz Q := by
  have g : (ev_hp (ev_sI I 53 f) J R T)[53]? = some (.inl (4, .inl f)) := nd_getI (show cx_Ds[53]? = some (0, 4, []) from rfl) f
  have n0 : (0 : Int32).toNatClampNeg = 0 := by decide
  have n1 : (1 : Int32).toNatClampNeg = 1 := by decide
  have n2 : (2 : Int32).toNatClampNeg = 2 := by decide
  have x0 : ev_ix 0 4 := nd_ix3 (Or.inl rfl)
  have x1 : ev_ix 1 4 := nd_ix3 (Or.inr (Or.inl rfl))
  have x2 : ev_ix 2 4 := nd_ix3 (Or.inr (Or.inr rfl))
  have second : ∀ x i : Int32, (f 0).toInt ≤ x.toInt → (f 1).toInt ≤ x.toInt → ev_W X 177 109 [.ref 35, .int s, .int z, .long cd, ez_fill, .int b, .int l, .int c, .int i] [.int x] (ev_hp (ev_sI I 53 f) J R T) cz kz Q := by
    intro x i h0 h1
    refine ev_seg cf_r13 ?_
    refine ev_iald (by rfl) g x2 ?_
    rw [n2]
    refine ev_if cf_r14 (fun z1 => ?_) (fun z1 => ?_)
    · exact ev_seg cf_r17 (cont x x h0 h1 (Int32.le_iff_toInt_le.mp (of_decide_eq_true z1)))
    · have h2 : ¬ (f 2).toInt ≤ x.toInt := fun h => (of_decide_eq_false z1) (Int32.le_iff_toInt_le.mpr h)
      refine ev_seg cf_r15 ?_
      refine ev_iald (by rfl) g x2 ?_
      rw [n2]
      exact ev_seg cf_r16 (cont (f 2) x (by omega) (by omega) (by omega))
  refine ev_seg cf_r7 ?_
  refine ev_iald (by rfl) g x0 ?_
  rw [n0]
  refine ev_seg cf_r8 ?_
  refine ev_iald (by rfl) g x1 ?_
  rw [n1]
  refine ev_if cf_r9 (fun z1 => ?_) (fun z1 => ?_)
  · have h2 := Int32.le_iff_toInt_le.mp (of_decide_eq_true z1)
    refine ev_seg cf_r12 ?_
    refine ev_iald (by rfl) g x1 ?_
    rw [n1]
    exact second (f 1) i h2 (by omega)
  · have h2 : ¬ (f 0).toInt ≤ (f 1).toInt := fun h => (of_decide_eq_false z1) (Int32.le_iff_toInt_le.mpr h)
    refine ev_seg cf_r10 ?_
    refine ev_iald (by rfl) g x0 ?_
    rw [n0]
    exact ev_seg cf_r11 (second (f 0) i (by omega) (by omega))
theorem cf_best {a n : Nat} {b0 l0 : Int32} {cl : Int} (hh : cx_hB cx_B0 I) (haz : z.toInt = a + n) (hz : a + n ≤ 400) (hs : s.toInt = a) (hcl : (I 35 0 * I 35 1).toInt = cl) (h36 : cl ≤ 36)
    (cont : ∀ (f : Nat → Int32) (b l c : Int32), nd_best I J cd a n b0 l0 cl b l → ev_W X 177 173 [.ref 35, .int s, .int z, .long cd, ez_fill, .int b, .int l, .int c] [] (ev_hp (ev_sI I 53 f) J R T) cz kz Q) :
    ∀ (D : Nat) (b l c : Int32) (f : Nat → Int32), 0 ≤ c.toInt → c.toInt + D = cl → nd_best I J cd a n b0 l0 cl b l → ev_W X 177 11 [.ref 35, .int s, .int z, .long cd, ez_fill, .int b, .int l, .int c] [] (ev_hp (ev_sI I 53 f) J R T) cz kz Q := by
  intro D
  induction D with
  | zero =>
    intro b l c f h0 hc hb
    refine ev_call cf_r25 (eh_cells X (ev_sI I 53 f) J R T) ?_
    rintro _ _ _ _ ⟨rfl, rfl, rfl, rfl⟩
    have hc2 : (ev_sI I 53 f 35 0 * ev_sI I 53 f 35 1).toInt = cl := hcl
    refine ev_if cf_r26 (fun _ => cont f b l c hb) (fun x => ?_)
    exact absurd (Int32.le_iff_toInt_le.mpr (by omega)) (of_decide_eq_false x)
  | succ D ih =>
    intro b l c f h0 hc hb
    refine ev_call cf_r25 (eh_cells X (ev_sI I 53 f) J R T) ?_
    rintro _ _ _ _ ⟨rfl, rfl, rfl, rfl⟩
    have hc2 : (ev_sI I 53 f 35 0 * ev_sI I 53 f 35 1).toInt = cl := hcl
    refine ev_if cf_r26 (fun x => ?_) (fun _ => ?_)
    · have := Int32.le_iff_toInt_le.mp (of_decide_eq_true x)
      omega
    refine ev_seg cf_r27 ?_
    refine ev_iastH (by rfl) (nd_getI (show cx_Ds[53]? = some (0, 4, []) from rfl) f) (nd_ix3 (Or.inl rfl)) (nd_setI (show cx_Ds[53]? = some (0, 4, []) from rfl) f _) ?_
    refine ev_seg cf_r28 ?_
    refine ev_iastH (by rfl) (nd_getI (show cx_Ds[53]? = some (0, 4, []) from rfl) _) (nd_ix3 (Or.inr (Or.inl rfl))) (nd_setI (show cx_Ds[53]? = some (0, 4, []) from rfl) _ _) ?_
    refine ev_seg cf_r29 ?_
    refine ev_iastH (by rfl) (nd_getI (show cx_Ds[53]? = some (0, 4, []) from rfl) _) (nd_ix3 (Or.inr (Or.inr rfl))) (nd_setI (show cx_Ds[53]? = some (0, 4, []) from rfl) _ _) ?_
    refine ev_seg cf_r30 ?_
    rw [show (0 : Int32).toNatClampNeg = 0 from by decide, show (1 : Int32).toNatClampNeg = 1 from by decide, show (2 : Int32).toNatClampNeg = 2 from by decide]
    refine cf_cl (a := a) (n := n) hh haz hz (fun f i hf => ?_) n 0 _ _ (by omega) (by omega) (nd_is_0 _ _ a ?_ ?_ ?_)
    rotate_left
    · rw [nd_upd_n _ _ (by decide), nd_upd_n _ _ (by decide), nd_upd_s]
    · rw [nd_upd_n _ _ (by decide), nd_upd_s]
    · rw [nd_upd_s]
    refine cf_mx (fun w i w0 w1 w2 => ?_) i
    have hc1 : (c + 1).toInt = c.toInt + 1 := nd_inc (by omega) (by omega)
    refine ev_if cf_r18 (fun x => ?_) (fun x => ?_)
    · refine ev_seg cf_r20 ?_
      refine ev_if cf_r21 (fun _ => ?_) (fun y => absurd (of_decide_eq_true x) (of_decide_eq_false y))
      refine ev_seg cf_r23 ?_
      refine ev_seg cf_r24 ?_
      refine ev_cutl (by rfl) ?_
      exact ih b l (c + 1) f (by omega) (by omega) hb
    · have hw : ¬ l.toInt ≤ w.toInt := fun h => (of_decide_eq_false x) (Int32.le_iff_toInt_le.mpr h)
      refine ev_seg cf_r19 ?_
      refine ev_if cf_r21 (fun y => absurd (of_decide_eq_true y) (of_decide_eq_false x)) (fun _ => ?_)
      refine ev_seg cf_r22 ?_
      refine ev_seg cf_r24 ?_
      refine ev_cutl (by rfl) ?_
      refine ih c w (c + 1) f (by omega) (by omega) (Or.inr ⟨h0, by omega, ?_, fun v hv => ?_⟩)
      · rcases hb with ⟨-, rfl⟩ | hb
        · omega
        · omega
      · obtain ⟨f0, f1, f2⟩ := hf
        rcases hv with rfl | rfl | rfl
        · rw [← f0]; exact w0
        · rw [← f1]; exact w1
        · rw [← f2]; exact w2
end
section
variable {X : ez_X} {I : Nat → Nat → Int32} {J : Nat → Nat → Int64} {R : Nat → Nat} {T : List ez_C} {cz kz : Nat}
theorem cf_c0 {s : Int32} {z : Int32} {cd : Int64} : ∀ G : ez_F, fx_up X 8 G 177 0 [.ref 35, .int s, .int z, .long cd, ez_fill] [] (ev_hp I J R T) cz kz = G 177 11 [.ref 35, .int s, .int z, .long cd, ez_fill, .int (Int32.ofInt (-1)), .int (z - s), .int 0] [] (ev_hp I J R T) cz kz := by
  intro G
  rfl
theorem cf_c1 {s : Int32} {z : Int32} {cd : Int64} {b : Int32} {l : Int32} {c : Int32} : ∀ G : ez_F, fx_up X 2 G 177 173 [.ref 35, .int s, .int z, .long cd, ez_fill, .int b, .int l, .int c] [] (ev_hp I J R T) cz kz = some (some (.int b), ev_hp I J R T, cz, kz) := by
  intro G
  rfl
end
theorem eh_cf (X : ez_X) (I : Nat → Nat → Int32) (J : Nat → Nat → Int64) (R : Nat → Nat) (T : List ez_C) (s z : Int32) (cd : Int64) {a n : Nat} (hh : cx_hB cx_B0 I) (hs : s.toInt = a) (haz : z.toInt = a + n) (hz : a + n ≤ 400) :
    ev_W X 177 0 (ez_lay [.ref 35, .int s, .int z, .long cd]) [] (ev_hp I J R T) 0 0 (fun r h c k => ∃ (f : Nat → Int32) (b l : Int32), r = some (.int b) ∧ h = ev_hp (ev_sI I 53 f) J R T ∧ c = 0 ∧ k = 0 ∧ nd_best I J cd a n (Int32.ofInt (-1)) (z - s) (I 35 0 * I 35 1).toInt b l) := by
  refine ev_seg cf_c0 ?_
  have hc := nd_cl hh
  have h := cf_best (X := X) (I := I) (J := J) (R := R) (T := T) (cz := 0) (kz := 0) (s := s) (z := z) (cd := cd) (a := a) (n := n) (b0 := Int32.ofInt (-1)) (l0 := z - s) hh haz hz hs rfl hc.2
    (Q := fun r h c k => ∃ (f : Nat → Int32) (b l : Int32), r = some (.int b) ∧ h = ev_hp (ev_sI I 53 f) J R T ∧ c = 0 ∧ k = 0 ∧ nd_best I J cd a n (Int32.ofInt (-1)) (z - s) (I 35 0 * I 35 1).toInt b l)
    (fun f b l c hb => ev_ret cf_c1 ⟨f, b, l, rfl, rfl, rfl, rfl, hb⟩) (I 35 0 * I 35 1).toInt.toNat (Int32.ofInt (-1)) (z - s) 0 (I 53) (by decide) (by rw [show (0 : Int32).toInt = 0 from by decide]; omega) (Or.inl ⟨rfl, rfl⟩)
  rw [nd_self] at h
  exact h
end
section
/-! needOf, whole: it ends within 36 calls. -/
section
variable {X : ez_X} {I : Nat → Nat → Int32} {J : Nat → Nat → Int64} {R : Nat → Nat} {T : List ez_C} {cz kz : Nat}
theorem nf_q0 {k : Int32} : ∀ G : ez_F, fx_up X 5 G 213 0 [.ref 35, .int k] [] (ev_hp I J R T) cz kz = G 213 7 [.ref 35, .int k, .int (I 35 14), .int 0] [] (ev_hp I J R T) cz kz := by
  intro G
  rfl
theorem nf_i1 {k : Int32} {z : Int32} {i : Int32} : ∀ G : ez_F, fx_up X 3 G 213 7 [.ref 35, .int k, .int z, .int i] [] (ev_hp I J R T) cz kz = bif decide (z ≤ i) then G 213 25 [.ref 35, .int k, .int z, .int i] [] (ev_hp I J R T) cz kz else G 213 12 [.ref 35, .int k, .int z, .int i] [] (ev_hp I J R T) cz kz := by
  intro G
  rfl
theorem nf_i2 {k : Int32} {z : Int32} {i : Int32} : ∀ G : ez_F, fx_up X 4 G 213 12 [.ref 35, .int k, .int z, .int i] [] (ev_hp I J R T) cz kz = G 213 18 [.ref 35, .int k, .int z, .int i] [.int i, .int i, .ref 59] (ev_hp I J R T) cz kz := by
  intro G
  rfl
theorem nf_i3 {k : Int32} {z : Int32} {i : Int32} : ∀ G : ez_F, fx_up X 2 G 213 19 [.ref 35, .int k, .int z, .int i] [] (ev_hp I J R T) cz kz = G 213 7 [.ref 35, .int k, .int z, .int (i + 1)] [] (ev_hp I J R T) cz kz := by
  intro G
  rfl
theorem nf_q00a {k : Int32} {z : Int32} {i : Int32} : ∀ G : ez_F, fx_up X 3 G 213 25 [.ref 35, .int k, .int z, .int i] [] (ev_hp I J R T) cz kz = G 213 30 [.ref 35, .int k, .int z, .int i] [] (ev_hp (ev_sI I 35 (upd (I 35) 36 0)) J R T) cz kz := by
  intro G
  rfl
theorem nf_q00b {k : Int32} {z : Int32} {i : Int32} : ∀ G : ez_F, fx_up X 5 G 213 30 [.ref 35, .int k, .int z, .int i] [] (ev_hp I J R T) cz kz = bif decide (z ≤ (1 : Int32)) then G 213 41 [.ref 35, .int k, .int z, .long 0, ez_fill] [] (ev_hp I J R T) cz kz else G 213 37 [.ref 35, .int k, .int z, .long 0, ez_fill] [] (ev_hp I J R T) cz kz := by
  intro G
  rfl
theorem nf_q01 {k : Int32} {z : Int32} : ∀ G : ez_F, fx_up X 3 G 213 37 [.ref 35, .int k, .int z, .long 0, ez_fill] [] (ev_hp I J R T) cz kz = G 213 44 [.ref 35, .int k, .int z, .long 0, ez_fill, .int 1] [] (ev_hp I J R T) cz kz := by
  intro G
  rfl
theorem nf_q02 {k : Int32} {z : Int32} : ∀ G : ez_F, fx_up X 2 G 213 41 [.ref 35, .int k, .int z, .long 0, ez_fill] [] (ev_hp I J R T) cz kz = G 213 44 [.ref 35, .int k, .int z, .long 0, ez_fill, .int 0] [] (ev_hp I J R T) cz kz := by
  intro G
  rfl
theorem nf_q1 {k : Int32} {z : Int32} {cd : Int64} {p1 : Int32} : ∀ G : ez_F, fx_up X 2 G 213 44 [.ref 35, .int k, .int z, .long cd, ez_fill, .int p1] [] (ev_hp I J R T) cz kz = bif decide (p1 = (0 : Int32)) then G 213 350 [.ref 35, .int k, .int z, .long cd, ez_fill, .int p1] [] (ev_hp I J R T) cz kz else G 213 49 [.ref 35, .int k, .int z, .long cd, ez_fill, .int p1] [] (ev_hp I J R T) cz kz := by
  intro G
  rfl
theorem nf_q2 {k : Int32} {z : Int32} {cd : Int64} {p1 : Int32} : ∀ G : ez_F, fx_up X 3 G 213 350 [.ref 35, .int k, .int z, .long cd, ez_fill, .int p1] [] (ev_hp I J R T) cz kz = some (some (.int (I 35 36)), ev_hp I J R T, cz, kz) := by
  intro G
  rfl
theorem nf_q3 {k : Int32} {z : Int32} {cd : Int64} {p1 : Int32} : ∀ G : ez_F, fx_up X 8 G 213 49 [.ref 35, .int k, .int z, .long cd, ez_fill, .int p1] [] (ev_hp I J R T) cz kz = G 213 60 [.ref 35, .int k, .int z, .long cd, ez_fill, .int p1, .int 0, .int (z + 1), .int 0] [] (ev_hp I J R T) cz kz := by
  intro G
  rfl
theorem nf_q4 {k : Int32} {z : Int32} {cd : Int64} {p1 : Int32} {b : Int32} {l : Int32} {c : Int32} : ∀ G : ez_F, fx_up X 3 G 213 222 [.ref 35, .int k, .int z, .long cd, ez_fill, .int p1, .int b, .int l, .int c] [] (ev_hp I J R T) cz kz = bif decide (z ≤ l) then G 213 232 [.ref 35, .int k, .int z, .long cd, ez_fill, .int p1, .int b, .int l, .int c] [] (ev_hp I J R T) cz kz else G 213 228 [.ref 35, .int k, .int z, .long cd, ez_fill, .int p1, .int b, .int l, .int c] [] (ev_hp I J R T) cz kz := by
  intro G
  rfl
theorem nf_q5 {k : Int32} {z : Int32} {cd : Int64} {p1 : Int32} {b : Int32} {l : Int32} {c : Int32} : ∀ G : ez_F, fx_up X 5 G 213 228 [.ref 35, .int k, .int z, .long cd, ez_fill, .int p1, .int b, .int l, .int c] [] (ev_hp I J R T) cz kz = bif decide ((1 : Int32) = (0 : Int32)) then G 213 347 [.ref 35, .int k, .int z, .long cd, ez_fill, .int 1, .int b, .int l, .int c] [] (ev_hp I J R T) cz kz else G 213 240 [.ref 35, .int k, .int z, .long cd, ez_fill, .int 1, .int b, .int l, .int c] [] (ev_hp I J R T) cz kz := by
  intro G
  rfl
theorem nf_q6 {k : Int32} {z : Int32} {cd : Int64} {p1 : Int32} {b : Int32} {l : Int32} {c : Int32} : ∀ G : ez_F, fx_up X 4 G 213 232 [.ref 35, .int k, .int z, .long cd, ez_fill, .int p1, .int b, .int l, .int c] [] (ev_hp I J R T) cz kz = bif decide ((0 : Int32) = (0 : Int32)) then G 213 347 [.ref 35, .int k, .int z, .long cd, ez_fill, .int 0, .int b, .int l, .int c] [] (ev_hp I J R T) cz kz else G 213 240 [.ref 35, .int k, .int z, .long cd, ez_fill, .int 0, .int b, .int l, .int c] [] (ev_hp I J R T) cz kz := by
  intro G
  rfl
theorem nf_q7 {k : Int32} {z : Int32} {cd : Int64} {p1 : Int32} {b : Int32} {l : Int32} {c : Int32} : ∀ G : ez_F, fx_up X 1 G 213 347 [.ref 35, .int k, .int z, .long cd, ez_fill, .int p1, .int b, .int l, .int c] [] (ev_hp I J R T) cz kz = G 213 44 [.ref 35, .int k, .int z, .long cd, ez_fill, .int p1, .int b, .int l, .int c] [] (ev_hp I J R T) cz kz := by
  intro G
  rfl
theorem nf_q8 {k : Int32} {z : Int32} {cd : Int64} {p1 : Int32} {b : Int32} {l : Int32} {c : Int32} : ∀ G : ez_F, fx_up X 5 G 213 240 [.ref 35, .int k, .int z, .long cd, ez_fill, .int p1, .int b, .int l, .int c] [] (ev_hp I J R T) cz kz = ev_C G 216 [.ref 35, .int k, .int b, .long cd] (ev_hp I J R T) fun r h1 c1 k1 => G 213 248 [.ref 35, .int k, .int z, .long cd, ez_fill, .int p1, .int b, .int l, .int c] (r.toList ++ []) h1 (cz + c1) (kz + k1) := by
  intro G
  rfl
theorem nf_q9 {k : Int32} {z : Int32} {cd : Int64} {p1 : Int32} {b : Int32} {l : Int32} {c : Int32} {v : Int32} : ∀ G : ez_F, fx_up X 5 G 213 248 [.ref 35, .int k, .int z, .long cd, ez_fill, .int p1, .int b, .int l, .int c] [.int v] (ev_hp I J R T) cz kz = G 213 256 [.ref 35, .int k, .int z, .long cd, ez_fill, .int p1, .int b, .int l, .int v, .int 0, .int 0] [] (ev_hp I J R T) cz kz := by
  intro G
  rfl
theorem nf_f1 {k : Int32} {z : Int32} {cd : Int64} {p1 : Int32} {b : Int32} {l : Int32} {v : Int32} {m : Int32} {i : Int32} : ∀ G : ez_F, fx_up X 3 G 213 256 [.ref 35, .int k, .int z, .long cd, ez_fill, .int p1, .int b, .int l, .int v, .int m, .int i] [] (ev_hp I J R T) cz kz = bif decide (z ≤ i) then G 213 304 [.ref 35, .int k, .int z, .long cd, ez_fill, .int p1, .int b, .int l, .int v, .int m, .int i] [] (ev_hp I J R T) cz kz else G 213 262 [.ref 35, .int k, .int z, .long cd, ez_fill, .int p1, .int b, .int l, .int v, .int m, .int i] [] (ev_hp I J R T) cz kz := by
  intro G
  rfl
theorem nf_f2 {k : Int32} {z : Int32} {cd : Int64} {p1 : Int32} {b : Int32} {l : Int32} {v : Int32} {m : Int32} {i : Int32} : ∀ G : ez_F, fx_up X 4 G 213 262 [.ref 35, .int k, .int z, .long cd, ez_fill, .int p1, .int b, .int l, .int v, .int m, .int i] [] (ev_hp I J R T) cz kz = G 213 269 [.ref 35, .int k, .int z, .long cd, ez_fill, .int p1, .int b, .int l, .int v, .int m, .int i] [.int i, .ref 59, .ref 35] (ev_hp I J R T) cz kz := by
  intro G
  rfl
theorem nf_f3 {k : Int32} {z : Int32} {cd : Int64} {p1 : Int32} {b : Int32} {l : Int32} {v : Int32} {m : Int32} {i : Int32} {g : Int32} : ∀ G : ez_F, fx_up X 3 G 213 270 [.ref 35, .int k, .int z, .long cd, ez_fill, .int p1, .int b, .int l, .int v, .int m, .int i] [.int g, .ref 35] (ev_hp I J R T) cz kz = ev_C G 216 [.ref 35, .int g, .int b, .long cd] (ev_hp I J R T) fun r h1 c1 k1 => G 213 276 [.ref 35, .int k, .int z, .long cd, ez_fill, .int p1, .int b, .int l, .int v, .int m, .int i] (r.toList ++ []) h1 (cz + c1) (kz + k1) := by
  intro G
  rfl
theorem nf_f4 {k : Int32} {z : Int32} {cd : Int64} {p1 : Int32} {b : Int32} {l : Int32} {v : Int32} {m : Int32} {i : Int32} {w : Int32} : ∀ G : ez_F, fx_up X 2 G 213 276 [.ref 35, .int k, .int z, .long cd, ez_fill, .int p1, .int b, .int l, .int v, .int m, .int i] [.int w] (ev_hp I J R T) cz kz = bif decide (¬ w = v) then G 213 298 [.ref 35, .int k, .int z, .long cd, ez_fill, .int p1, .int b, .int l, .int v, .int m, .int i] [] (ev_hp I J R T) cz kz else G 213 281 [.ref 35, .int k, .int z, .long cd, ez_fill, .int p1, .int b, .int l, .int v, .int m, .int i] [] (ev_hp I J R T) cz kz := by
  intro G
  rfl
theorem nf_f5 {k : Int32} {z : Int32} {cd : Int64} {p1 : Int32} {b : Int32} {l : Int32} {v : Int32} {m : Int32} {i : Int32} : ∀ G : ez_F, fx_up X 6 G 213 281 [.ref 35, .int k, .int z, .long cd, ez_fill, .int p1, .int b, .int l, .int v, .int m, .int i] [] (ev_hp I J R T) cz kz = G 213 293 [.ref 35, .int k, .int z, .long cd, ez_fill, .int p1, .int b, .int l, .int v, .int m, .int i] [.int i, .ref 59, .int m, .ref 59] (ev_hp I J R T) cz kz := by
  intro G
  rfl
theorem nf_f6 {k : Int32} {z : Int32} {cd : Int64} {p1 : Int32} {b : Int32} {l : Int32} {v : Int32} {m : Int32} {i : Int32} : ∀ G : ez_F, fx_up X 1 G 213 295 [.ref 35, .int k, .int z, .long cd, ez_fill, .int p1, .int b, .int l, .int v, .int m, .int i] [] (ev_hp I J R T) cz kz = G 213 298 [.ref 35, .int k, .int z, .long cd, ez_fill, .int p1, .int b, .int l, .int v, .int (m + 1), .int i] [] (ev_hp I J R T) cz kz := by
  intro G
  rfl
theorem nf_f7 {k : Int32} {z : Int32} {cd : Int64} {p1 : Int32} {b : Int32} {l : Int32} {v : Int32} {m : Int32} {i : Int32} : ∀ G : ez_F, fx_up X 2 G 213 298 [.ref 35, .int k, .int z, .long cd, ez_fill, .int p1, .int b, .int l, .int v, .int m, .int i] [] (ev_hp I J R T) cz kz = G 213 256 [.ref 35, .int k, .int z, .long cd, ez_fill, .int p1, .int b, .int l, .int v, .int m, .int (i + 1)] [] (ev_hp I J R T) cz kz := by
  intro G
  rfl
theorem nf_q10a {k : Int32} {z : Int32} {cd : Int64} {p1 : Int32} {b : Int32} {l : Int32} {v : Int32} {m : Int32} {i : Int32} : ∀ G : ez_F, fx_up X 8 G 213 304 [.ref 35, .int k, .int z, .long cd, ez_fill, .int p1, .int b, .int l, .int v, .int m, .int i] [] (ev_hp I J R T) cz kz = G 213 314 [.ref 35, .int k, .int m, .long (cd ||| (1 <<< (b.toInt64 &&& 63))), ez_fill, .int p1, .int b, .int l, .int v, .int m, .int i] [] (ev_hp I J R T) cz kz := by
  intro G
  rfl
theorem nf_q10b {k : Int32} {z : Int32} {cd : Int64} {p1 : Int32} {b : Int32} {l : Int32} {v : Int32} {m : Int32} {i : Int32} : ∀ G : ez_F, fx_up X 5 G 213 314 [.ref 35, .int k, .int z, .long cd, ez_fill, .int p1, .int b, .int l, .int v, .int m, .int i] [] (ev_hp I J R T) cz kz = G 213 324 [.ref 35, .int k, .int z, .long cd, ez_fill, .int p1, .int b, .int l, .int v, .int m, .int i] [.int b, .int (I 35 36), .ref 60] (ev_hp I J R T) cz kz := by
  intro G
  rfl
theorem nf_q11a {k : Int32} {z : Int32} {cd : Int64} {p1 : Int32} {b : Int32} {l : Int32} {v : Int32} {m : Int32} {i : Int32} : ∀ G : ez_F, fx_up X 3 G 213 325 [.ref 35, .int k, .int z, .long cd, ez_fill, .int p1, .int b, .int l, .int v, .int m, .int i] [] (ev_hp I J R T) cz kz = G 213 330 [.ref 35, .int k, .int z, .long cd, ez_fill, .int p1, .int b, .int l, .int v, .int m, .int i] [.int (I 35 36), .ref 35] (ev_hp I J R T) cz kz := by
  intro G
  rfl
theorem nf_q11b {k : Int32} {z : Int32} {cd : Int64} {p1 : Int32} {b : Int32} {l : Int32} {v : Int32} {m : Int32} {i : Int32} {x : Int32} : ∀ G : ez_F, fx_up X 3 G 213 330 [.ref 35, .int k, .int z, .long cd, ez_fill, .int p1, .int b, .int l, .int v, .int m, .int i] [.int x, .ref 35] (ev_hp I J R T) cz kz = G 213 335 [.ref 35, .int k, .int z, .long cd, ez_fill, .int p1, .int b, .int l, .int v, .int m, .int i] [] (ev_hp (ev_sI I 35 (upd (I 35) 36 (x + 1))) J R T) cz kz := by
  intro G
  rfl
theorem nf_q12 {k : Int32} {z : Int32} {cd : Int64} {p1 : Int32} {b : Int32} {l : Int32} {v : Int32} {m : Int32} {i : Int32} : ∀ G : ez_F, fx_up X 3 G 213 335 [.ref 35, .int k, .int z, .long cd, ez_fill, .int p1, .int b, .int l, .int v, .int m, .int i] [] (ev_hp I J R T) cz kz = bif decide (z ≤ (1 : Int32)) then G 213 344 [.ref 35, .int k, .int z, .long cd, ez_fill, .int p1, .int b, .int l, .int v, .int m, .int i] [] (ev_hp I J R T) cz kz else G 213 340 [.ref 35, .int k, .int z, .long cd, ez_fill, .int p1, .int b, .int l, .int v, .int m, .int i] [] (ev_hp I J R T) cz kz := by
  intro G
  rfl
theorem nf_q13 {k : Int32} {z : Int32} {cd : Int64} {p1 : Int32} {b : Int32} {l : Int32} {v : Int32} {m : Int32} {i : Int32} : ∀ G : ez_F, fx_up X 4 G 213 340 [.ref 35, .int k, .int z, .long cd, ez_fill, .int p1, .int b, .int l, .int v, .int m, .int i] [] (ev_hp I J R T) cz kz = G 213 44 [.ref 35, .int k, .int z, .long cd, ez_fill, .int 1, .int b, .int l, .int v] [] (ev_hp I J R T) cz kz := by
  intro G
  rfl
theorem nf_q14 {k : Int32} {z : Int32} {cd : Int64} {p1 : Int32} {b : Int32} {l : Int32} {v : Int32} {m : Int32} {i : Int32} : ∀ G : ez_F, fx_up X 3 G 213 344 [.ref 35, .int k, .int z, .long cd, ez_fill, .int p1, .int b, .int l, .int v, .int m, .int i] [] (ev_hp I J R T) cz kz = G 213 44 [.ref 35, .int k, .int z, .long cd, ez_fill, .int 0, .int b, .int l, .int v] [] (ev_hp I J R T) cz kz := by
  intro G
  rfl
end
noncomputable def nf_md : List (Nat × Nat) := [(35, 36), (53, 999), (59, 999), (60, 999)]
theorem nd_fr {md : List (Nat × Nat)} {I : Nat → Nat → Int32} {J : Nat → Nat → Int64} {p : Nat} (h : cx_all md p = true) (f : Nat → Int32) : cx_fr md I J (ev_sI I p f) J := cx_fr_I fun k hk => by
  rw [cx_all_s h k] at hk
  cases hk
theorem nd_hB59 {I : Nat → Nat → Int32} (hh : cx_hB cx_B0 I) {g : Nat → Int32} (hg : ∀ q, 0 ≤ (g q).toInt ∧ (g q).toInt ≤ 400) : cx_hB cx_B0 (ev_sI I 59 g) := cx_hB_I hh fun q => by
  rw [show cx_B0 59 q = (0, 400) from rfl]
  exact hg q
theorem nd_hB60 {I : Nat → Nat → Int32} (hh : cx_hB cx_B0 I) (f : Nat → Int32) : cx_hB cx_B0 (ev_sI I 60 f) := cx_hB_I hh fun q => cx_full32 (f q)
theorem nd_hB35 {I : Nat → Nat → Int32} (hh : cx_hB cx_B0 I) (x : Int32) : cx_hB cx_B0 (ev_sI I 35 (upd (I 35) 36 x)) := cx_hB_I hh fun q => by
  by_cases h : q = 36
  · subst h
    rw [nd_upd_s]
    exact cx_full32 x
  · rw [nd_upd_n _ _ h]
    exact hh 35 q
theorem nd_bd {I : Nat → Nat → Int32} (hh : cx_hB cx_B0 I) (q : Nat) : 0 ≤ (I 59 q).toInt ∧ (I 59 q).toInt ≤ 400 := by
  have h := hh 59 q
  rw [show cx_B0 59 q = (0, 400) from rfl] at h
  exact h
theorem nd_ofNat {b : Int32} (h : 0 ≤ b.toInt) : Int32.ofNat b.toInt.toNat = b := Int32.toInt_inj.mp (by
  have := Int32.toInt_lt b
  rw [Int32.toInt_ofNat_of_lt (by omega)]
  omega)
section
variable {X : ez_X} {I : Nat → Nat → Int32} {J : Nat → Nat → Int64} {R : Nat → Nat} {T : List ez_C} {Q : ev_Q} {cz kz : Nat} {k z p1 b l v : Int32} {cd : Int64} {f : Nat → Int32}
theorem nf_fl {n : Nat} (hh : cx_hB cx_B0 I) (hz : z.toInt = n) (hn : n ≤ 400)
    (cont : ∀ (g : Nat → Int32) (m i : Int32), m.toInt = nd_cnt (fun q => pl_P I J (I 59 q) b cd) 0 v n → (∀ q, q < nd_cnt (fun q => pl_P I J (I 59 q) b cd) 0 v n → ∃ q0, q0 < n ∧ g q = I 59 q0 ∧ pl_P I J (g q) b cd = v) → (∀ q, 0 ≤ (g q).toInt ∧ (g q).toInt ≤ 400) →
      ev_W X 213 304 [.ref 35, .int k, .int z, .long cd, ez_fill, .int p1, .int b, .int l, .int v, .int m, .int i] [] (ev_hp (ev_sI (ev_sI I 53 f) 59 g) J R T) cz kz Q) :
    ∀ (r j : Nat) (i m : Int32) (g : Nat → Int32), i.toInt = j → j + r = n → m.toInt = nd_cnt (fun q => pl_P I J (I 59 q) b cd) 0 v j → (∀ q, j ≤ q → g q = I 59 q) →
      (∀ q, q < nd_cnt (fun q => pl_P I J (I 59 q) b cd) 0 v j → ∃ q0, q0 < n ∧ g q = I 59 q0 ∧ pl_P I J (g q) b cd = v) → (∀ q, 0 ≤ (g q).toInt ∧ (g q).toInt ≤ 400) →
      ev_W X 213 256 [.ref 35, .int k, .int z, .long cd, ez_fill, .int p1, .int b, .int l, .int v, .int m, .int i] [] (ev_hp (ev_sI (ev_sI I 53 f) 59 g) J R T) cz kz Q := by
  intro r
  induction r with
  | zero =>
    intro j i m g hi hj hm h1 h2 h3
    refine ev_if nf_f1 (fun _ => ?_) (fun x => ?_)
    · obtain rfl : j = n := by omega
      exact cont g m i hm h2 h3
    · exact absurd (Int32.le_iff_toInt_le.mpr (by omega)) (of_decide_eq_false x)
  | succ r ih =>
    intro j i m g hi hj hm h1 h2 h3
    refine ev_if nf_f1 (fun x => ?_) (fun _ => ?_)
    · have := Int32.le_iff_toInt_le.mp (of_decide_eq_true x)
      omega
    have ei : i.toNatClampNeg = j := by rw [nd_nat]; omega
    have hi1 : (i + 1).toInt = i.toInt + 1 := nd_inc (by omega) (by omega)
    have hc := nd_cnt_le (fun q => pl_P I J (I 59 q) b cd) 0 v j
    have em : m.toNatClampNeg = nd_cnt (fun q => pl_P I J (I 59 q) b cd) 0 v j := by rw [nd_nat]; omega
    have hg := h3 j
    have hgj := h1 j (Nat.le_refl _)
    refine ev_seg nf_f2 ?_
    refine ev_iald (by rfl) (nd_getI (show cx_Ds[59]? = some (0, 401, []) from rfl) g) (fs_ixs (by omega) (by omega)) ?_
    rw [ei]
    refine ev_call nf_f3 (eh_plP X I (ev_sI (ev_sI I 53 f) 59 g) J R T (g j) b cd (nd_hB59 (nd_hB53 hh f) h3) (by omega) rfl rfl rfl) ?_
    rintro _ _ _ _ ⟨rfl, rfl, rfl, rfl⟩
    refine ev_if nf_f4 (fun x => ?_) (fun x => ?_)
    · have hx := of_decide_eq_true x
      have hn2 : nd_cnt (fun q => pl_P I J (I 59 q) b cd) 0 v (j + 1) = nd_cnt (fun q => pl_P I J (I 59 q) b cd) 0 v j := nd_cnt_n (by
        simp only [Nat.zero_add]
        rw [← hgj]
        exact hx)
      refine ev_seg nf_f7 ?_
      exact ih (j + 1) (i + 1) m g (by omega) (by omega) (by rw [hn2]; exact hm) (fun q hq => h1 q (by omega)) (by rw [hn2]; exact h2) h3
    · have hx := Classical.not_not.mp (of_decide_eq_false x)
      have hn2 : nd_cnt (fun q => pl_P I J (I 59 q) b cd) 0 v (j + 1) = nd_cnt (fun q => pl_P I J (I 59 q) b cd) 0 v j + 1 := nd_cnt_y (by
        simp only [Nat.zero_add]
        rw [← hgj]
        exact hx)
      refine ev_seg nf_f5 ?_
      refine ev_iald (by rfl) (nd_getI (show cx_Ds[59]? = some (0, 401, []) from rfl) g) (fs_ixs (by omega) (by omega)) ?_
      rw [ei]
      refine ev_iastH (by rfl) (nd_getI (show cx_Ds[59]? = some (0, 401, []) from rfl) g) (fs_ixs (by omega) (by omega)) (nd_setI (show cx_Ds[59]? = some (0, 401, []) from rfl) g _) ?_
      rw [em]
      refine ev_seg nf_f6 ?_
      refine ev_seg nf_f7 ?_
      refine ih (j + 1) (i + 1) (m + 1) _ (by omega) (by omega) ?_ (fun q hq => ?_) (fun q hq => ?_) (fun q => ?_)
      · rw [hn2, nd_inc (by omega) (by omega)]
        omega
      · rw [nd_upd_n _ _ (by omega)]
        exact h1 q (by omega)
      · rw [hn2] at hq
        by_cases hz2 : q = nd_cnt (fun q => pl_P I J (I 59 q) b cd) 0 v j
        · rw [hz2, nd_upd_s]
          exact ⟨j, by omega, hgj, hx⟩
        · rw [nd_upd_n _ _ hz2]
          exact h2 q (by omega)
      · by_cases hz2 : q = nd_cnt (fun q => pl_P I J (I 59 q) b cd) 0 v j
        · rw [hz2, nd_upd_s]
          exact hg
        · rw [nd_upd_n _ _ hz2]
          exact h3 q
/-- the laying's numbers are put down -/
theorem nf_il {n : Nat} (hz : z.toInt = n) (hn : n ≤ 400)
    (cont : ∀ (g : Nat → Int32) (i : Int32), (∀ q, 0 ≤ (g q).toInt ∧ (g q).toInt ≤ 400) → ev_W X 213 25 [.ref 35, .int k, .int z, .int i] [] (ev_hp (ev_sI I 59 g) J R T) cz kz Q) :
    ∀ (r j : Nat) (i : Int32) (g : Nat → Int32), i.toInt = j → j + r = n → (∀ q, 0 ≤ (g q).toInt ∧ (g q).toInt ≤ 400) → ev_W X 213 7 [.ref 35, .int k, .int z, .int i] [] (ev_hp (ev_sI I 59 g) J R T) cz kz Q := by
  intro r
  induction r with
  | zero =>
    intro j i g hi hj hg
    refine ev_if nf_i1 (fun _ => cont g i hg) (fun x => ?_)
    exact absurd (Int32.le_iff_toInt_le.mpr (by omega)) (of_decide_eq_false x)
  | succ r ih =>
    intro j i g hi hj hg
    refine ev_if nf_i1 (fun x => ?_) (fun _ => ?_)
    · have := Int32.le_iff_toInt_le.mp (of_decide_eq_true x)
      omega
    refine ev_seg nf_i2 ?_
    refine ev_iastH (by rfl) (nd_getI (show cx_Ds[59]? = some (0, 401, []) from rfl) g) (fs_ixs (by omega) (by omega)) (nd_setI (show cx_Ds[59]? = some (0, 401, []) from rfl) g _) ?_
    refine ev_seg nf_i3 ?_
    refine ih (j + 1) (i + 1) _ (by rw [nd_inc (by omega) (by omega)]; omega) (by omega) (fun q => ?_)
    by_cases hz2 : q = i.toNatClampNeg
    · rw [hz2, nd_upd_s]
      omega
    · rw [nd_upd_n _ _ hz2]
      exact hg q
end
section
variable {X : ez_X} {I0 : Nat → Nat → Int32} {J : Nat → Nat → Int64} {R : Nat → Nat} {T : List ez_C} {Q : ev_Q} {cz kz : Nat} {k : Int32} {cl : Int}
theorem nf_out (h36 : cl ≤ 36) (hk : 0 ≤ k.toInt ∧ k.toInt ≤ 399)
    (fin : ∀ I' : Nat → Nat → Int32, cx_hB cx_B0 I' → cx_fr nf_md I0 J I' J → 0 ≤ (I' 35 36).toInt → (I' 35 36).toInt ≤ 36 → Q (some (.int (I' 35 36))) (ev_hp I' J R T) cz kz) :
    ∀ (D : Nat) (z : Int32) (cd : Int64) (p1 : Int32) (I' : Nat → Nat → Int32) (L : List Nat), z.toInt.toNat < D → 0 ≤ z.toInt → z.toInt ≤ 400 → cx_hB cx_B0 I' → cx_fr nf_md I0 J I' J → (I' 35 0 * I' 35 1).toInt = cl → L.Nodup → (∀ q ∈ L, (q : Int) < cl) →
      (I' 35 36).toInt = (L.length : Int) → (∀ q ∈ L, ev_has cd (Int32.ofNat q) ≠ 0 ∧ ∀ i j, i < z.toInt.toNat → j < z.toInt.toNat → pl_P I' J (I' 59 i) (Int32.ofNat q) cd = pl_P I' J (I' 59 j) (Int32.ofNat q) cd) →
      ev_W X 213 44 [.ref 35, .int k, .int z, .long cd, ez_fill, .int p1] [] (ev_hp I' J R T) cz kz Q := by
  intro D
  induction D with
  | zero =>
    intro z cd p1 I' L h
    omega
  | succ D ih =>
    intro z cd p1 I' L hD hz0 hz1 hh hfr hcl hnd hL hlen hag
    have h36L : L.length ≤ 36 := fs_pig 36 L hnd fun q hq => by
      have := hL q hq
      omega
    refine ev_if nf_q1 (fun _ => ev_ret nf_q2 (fin I' hh hfr (by omega) (by omega))) (fun _ => ?_)
    refine ev_seg nf_q3 ?_
    have hz1' : (z + 1).toInt = z.toInt + 1 := nd_inc (by omega) (by omega)
    have cont : ∀ (f : Nat → Int32) (b l c : Int32), nd_best I' J cd 0 z.toInt.toNat 0 (z + 1) cl b l → ev_W X 213 222 [.ref 35, .int k, .int z, .long cd, ez_fill, .int p1, .int b, .int l, .int c] [] (ev_hp (ev_sI I' 53 f) J R T) cz kz Q := by
      intro f b l c hb
      have hI1 : cx_hB cx_B0 (ev_sI I' 53 f) := nd_hB53 hh f
      have fr1 : cx_fr nf_md I0 J (ev_sI I' 53 f) J := cx_fr_t hfr (nd_fr (by rfl) f)
      refine ev_if nf_q4 (fun x => ?_) (fun x => ?_)
      · refine ev_if nf_q6 (fun _ => ?_) (fun y => absurd rfl (of_decide_eq_false y))
        refine ev_seg nf_q7 ?_
        refine ev_cutl (by rfl) ?_
        exact ev_if nf_q1 (fun _ => ev_ret nf_q2 (fin (ev_sI I' 53 f) hI1 fr1 (show 0 ≤ (I' 35 36).toInt by omega) (show (I' 35 36).toInt ≤ 36 by omega))) (fun y => absurd rfl (of_decide_eq_false y))
      have hl : ¬ z.toInt ≤ l.toInt := fun h => (of_decide_eq_false x) (Int32.le_iff_toInt_le.mpr h)
      rcases hb with ⟨-, rfl⟩ | ⟨b0, b1, b2, b3⟩
      · omega
      refine ev_if nf_q5 (fun y => absurd (of_decide_eq_true y) (by decide)) (fun _ => ?_)
      refine ev_call nf_q8 (eh_plP X I' (ev_sI I' 53 f) J R T k b cd hI1 (by omega) rfl rfl rfl) ?_
      rintro _ _ _ _ ⟨rfl, rfl, rfl, rfl⟩
      have h3 := pl_P_r I' J k b cd
      generalize pl_P I' J k b cd = v at h3 ⊢
      refine ev_seg nf_q9 ?_
      have hb3 := b3 v h3
      have cont2 : ∀ (g : Nat → Int32) (m i : Int32), m.toInt = nd_cnt (fun q => pl_P I' J (I' 59 q) b cd) 0 v z.toInt.toNat → (∀ q, q < nd_cnt (fun q => pl_P I' J (I' 59 q) b cd) 0 v z.toInt.toNat → ∃ q0, q0 < z.toInt.toNat ∧ g q = I' 59 q0 ∧ pl_P I' J (g q) b cd = v) → (∀ q, 0 ≤ (g q).toInt ∧ (g q).toInt ≤ 400) →
          ev_W X 213 304 [.ref 35, .int k, .int z, .long cd, ez_fill, .int 1, .int b, .int l, .int v, .int m, .int i] [] (ev_hp (ev_sI (ev_sI I' 53 f) 59 g) J R T) cz kz Q := by
        intro g m i hm hg hgb
        refine ev_seg nf_q10a ?_
        refine ev_seg nf_q10b ?_
        refine ev_iastH (by rfl) (cx_getI (show cx_Ds[60]? = some (0, 40, []) from rfl)) (fs_ixs (show 0 ≤ (I' 35 36).toInt by omega) (show (I' 35 36).toInt < ((40 : Nat) : Int) by omega)) (cx_setI (show cx_Ds[60]? = some (0, 40, []) from rfl) _) ?_
        refine ev_seg nf_q11a ?_
        refine ev_seg nf_q11b ?_
        have hB2 := nd_hB59 hI1 hgb
        have fr2 : cx_fr nf_md I0 J (ev_sI (ev_sI I' 53 f) 59 g) J := cx_fr_t fr1 (nd_fr (by rfl) g)
        generalize hI3 : ev_sI (ev_sI (ev_sI I' 53 f) 59 g) 60 _ = I3
        have hB3 : cx_hB cx_B0 I3 := by rw [← hI3]; exact nd_hB60 hB2 _
        have fr3 : cx_fr nf_md I0 J I3 J := by rw [← hI3]; exact cx_fr_t fr2 (nd_fr (by rfl) _)
        have e35 : I3 35 = I' 35 := by rw [← hI3]; rfl
        have e59 : I3 59 = g := by rw [← hI3]; rfl
        have e41 : I3 41 = I' 41 := by rw [← hI3]; rfl
        have hB4 := nd_hB35 hB3 (I3 35 36 + 1)
        have fr4 : cx_fr nf_md I0 J (ev_sI I3 35 (upd (I3 35) 36 (I3 35 36 + 1))) J := cx_fr_t fr3 (cx_fr_I fun q hq => nd_upd_n _ _ fun e => by
          subst e
          exact absurd hq (by decide))
        have f35 : ∀ q, q ≠ 36 → (ev_sI I3 35 (upd (I3 35) 36 (I3 35 36 + 1))) 35 q = I' 35 q := fun q hq => by
          rw [cx_sI_s, nd_upd_n _ _ hq, e35]
        have f36 : (ev_sI I3 35 (upd (I3 35) 36 (I3 35 36 + 1))) 35 36 = I' 35 36 + 1 := by
          rw [cx_sI_s, nd_upd_s, e35]
        have f59 : (ev_sI I3 35 (upd (I3 35) 36 (I3 35 36 + 1))) 59 = g := by
          rw [cx_sI_n _ _ (by decide), e59]
        have f41 : (ev_sI I3 35 (upd (I3 35) 36 (I3 35 36 + 1))) 41 = I' 41 := by
          rw [cx_sI_n _ _ (by decide), e41]
        generalize ev_sI I3 35 (upd (I3 35) 36 (I3 35 36 + 1)) = I4 at hB4 fr4 f35 f36 f59 f41 ⊢
        have hP : ∀ (x y : Int32) (w : Int64), pl_P I4 J x y w = pl_P I' J x y w := fun x y w => pl_P_congr (f35 3 (by decide)) (f35 7 (by decide)) f41 rfl x y w
        have hbn : Int32.ofNat b.toInt.toNat = b := nd_ofNat b0
        have hnew : b.toInt.toNat ∉ L := fun hmem => by
          obtain ⟨-, a2⟩ := hag _ hmem
          rw [hbn] at a2
          have hall := nd_cnt_all (p := fun q => pl_P I' J (I' 59 q) b cd) (a := 0) (v := pl_P I' J (I' 59 0) b cd) z.toInt.toNat fun i hi => by
            simp only [Nat.zero_add]
            exact a2 i 0 hi (by omega)
          have := b3 _ (pl_P_r I' J (I' 59 0) b cd)
          omega
        have hh1 : ev_has (cd ||| (1 <<< (b.toInt64 &&& 63))) b ≠ 0 := nd_has_new cd b ⟨b0, by omega⟩
        have nx : ∀ p2 : Int32, ev_W X 213 44 [.ref 35, .int k, .int m, .long (cd ||| (1 <<< (b.toInt64 &&& 63))), ez_fill, .int p2] [] (ev_hp I4 J R T) cz kz Q := fun p2 => by
          refine ih m _ p2 I4 (b.toInt.toNat :: L) (by omega) (by omega) (by omega) hB4 fr4 ?_ (List.nodup_cons.mpr ⟨hnew, hnd⟩) (fun q hq => ?_) ?_ (fun q hq => ?_)
          · rw [f35 0 (by decide), f35 1 (by decide)]
            exact hcl
          · rcases List.mem_cons.mp hq with rfl | hq
            · omega
            · exact hL q hq
          · rw [f36, nd_inc (by omega) (by omega), hlen, List.length_cons]
            omega
          · have hgi : ∀ i, i < m.toInt.toNat → ∃ q0, q0 < z.toInt.toNat ∧ g i = I' 59 q0 ∧ pl_P I' J (g i) b cd = v := fun i hi => hg i (by omega)
            rcases List.mem_cons.mp hq with rfl | hq
            · rw [hbn]
              refine ⟨hh1, fun i j hi hj => ?_⟩
              obtain ⟨-, -, -, gi⟩ := hgi i hi
              obtain ⟨-, -, -, gj⟩ := hgi j hj
              rw [hP, hP, f59]
              exact pl_P_now I' J _ _ b cd _ hh1 (by rw [gi, gj])
            · obtain ⟨a1, a2⟩ := hag q hq
              have a3 := nd_has_or cd (1 <<< (b.toInt64 &&& 63)) (Int32.ofNat q) a1
              refine ⟨a3, fun i j hi hj => ?_⟩
              obtain ⟨qi, gi1, gi2, -⟩ := hgi i hi
              obtain ⟨qj, gj1, gj2, -⟩ := hgi j hj
              rw [hP, hP, f59, gi2, gj2]
              exact pl_P_then I' J _ _ _ cd _ a1 a3 (a2 qi qj gi1 gj1)
        refine ev_if nf_q12 (fun _ => ?_) (fun _ => ?_)
        · refine ev_seg nf_q14 ?_
          refine ev_cutl (by rfl) ?_
          exact nx 0
        · refine ev_seg nf_q13 ?_
          refine ev_cutl (by rfl) ?_
          exact nx 1
      have h := nf_fl (X := X) (I := I') (J := J) (R := R) (T := T) (Q := Q) (cz := cz) (kz := kz) (k := k) (z := z) (p1 := 1) (b := b) (l := l) (v := v) (cd := cd) (f := f) (n := z.toInt.toNat) hh (by omega) (by omega) cont2 z.toInt.toNat 0 0 0 (I' 59) (by decide) (by omega) (show (0 : Int32).toInt = ((0 : Nat) : Int) from by decide) (fun q _ => rfl) (fun q hq => absurd hq (Nat.not_lt_zero q)) (fun q => nd_bd hh q)
      have e : ev_sI (ev_sI I' 53 f) 59 (I' 59) = ev_sI I' 53 f := nd_self (ev_sI I' 53 f) 59
      rw [e] at h
      exact h
    have hc := nd_cl hh
    have h := nb_best (X := X) (I := I') (J := J) (R := R) (T := T) (Q := Q) (cz := cz) (kz := kz) (k := k) (z := z) (p1 := p1) (cd := cd) (a := 0) (n := z.toInt.toNat) (b0 := 0) (l0 := z + 1) (cl := cl) hh (by omega) (by omega) (by decide) hcl h36 cont cl.toNat 0 (z + 1) 0 (I' 53) (by decide) (by rw [show (0 : Int32).toInt = 0 from by decide]; omega) (Or.inl ⟨rfl, rfl⟩)
    rw [nd_self] at h
    exact h
end
theorem cv_SquaredShipsModel_needOf : cx_valid cx_B0 213 ck_SquaredShipsModel_needOf := by
  intro X σ0 ls I J R T hX2 hh hok
  obtain ⟨v1, t1, rfl, rfl, g2⟩ := cx_L_inv hok.1
  obtain ⟨v2, t2, rfl, ⟨k, rfl, hk⟩, g4⟩ := cx_L_inv g2
  obtain rfl := cx_L_nil g4 rfl
  have hkb := hok.2.2.1.2 0 k.toInt (0, 399) hk rfl
  have hz0 : σ0[1]? = some (I 35 14).toInt := hok.2.2.2.2.1 (35, 14, 1) List.mem_cons_self
  have hzb := hok.2.2.1.2 1 _ (0, 400) hz0 rfl
  simp only at hkb hzb
  refine ev_seg nf_q0 ?_
  have cont : ∀ (g : Nat → Int32) (i : Int32), (∀ q, 0 ≤ (g q).toInt ∧ (g q).toInt ≤ 400) → ev_W X 213 25 [.ref 35, .int k, .int (I 35 14), .int i] [] (ev_hp (ev_sI I 59 g) J R T) 0 0 (cx_post cx_B0 ck_SquaredShipsModel_needOf σ0 I J T 0 0) := by
    intro g i hg
    have hB1 := nd_hB59 hh.1 hg
    have fr1 : cx_fr nf_md I J (ev_sI I 59 g) J := nd_fr (by rfl) g
    have e35 : (ev_sI I 59 g) 35 = I 35 := rfl
    generalize ev_sI I 59 g = I1 at hB1 fr1 e35 ⊢
    refine ev_seg nf_q00a ?_
    have hB2 := nd_hB35 hB1 0
    have fr2 : cx_fr nf_md I J (ev_sI I1 35 (upd (I1 35) 36 0)) J := cx_fr_t fr1 (cx_fr_I fun q hq => nd_upd_n _ _ fun e => by
      subst e
      exact absurd hq (by decide))
    have f36 : (ev_sI I1 35 (upd (I1 35) 36 0)) 35 36 = 0 := by rw [cx_sI_s, nd_upd_s]
    generalize ev_sI I1 35 (upd (I1 35) 36 0) = I2 at hB2 fr2 f36 ⊢
    have nx : ∀ p1 : Int32, ev_W X 213 44 [.ref 35, .int k, .int (I 35 14), .long 0, ez_fill, .int p1] [] (ev_hp I2 J R T) 0 0 (cx_post cx_B0 ck_SquaredShipsModel_needOf σ0 I J T 0 0) := fun p1 => by
      refine nf_out (I0 := I) (cl := (I2 35 0 * I2 35 1).toInt) (nd_cl hB2).2 hkb (fun I' b1 b2 b3 b4 => ?_) 401 (I 35 14) 0 p1 I2 [] (by omega) (by omega) (by omega) hB2 fr2 rfl List.nodup_nil (fun q hq => (by cases hq)) (by rw [f36]; decide) (fun q hq => (by cases hq))
      exact ⟨I', J, R, T, rfl, ⟨b1, hh.2⟩, b2, cx_leT_r T, rfl, rfl, _, List.mem_cons_self, σ0 ++ [(I' 35 36).toInt], cx_ext_app σ0 _, trivial, ⟨⟨_, rfl, cx_top hok.2.2.1 _⟩, trivial⟩, cx_iv_push hok.2.2.1 ⟨b3, b4⟩, cx_nil, fun e he => (by cases he), fun e he => (by cases he)⟩
    refine ev_if nf_q00b (fun _ => ?_) (fun _ => ?_)
    · exact ev_seg nf_q02 (nx 0)
    · exact ev_seg nf_q01 (nx 1)
  have h := nf_il (X := X) (I := I) (J := J) (R := R) (T := T) (cz := 0) (kz := 0) (k := k) (z := I 35 14) (n := (I 35 14).toInt.toNat) (by omega) (by omega) cont (I 35 14).toInt.toNat 0 0 (I 59) (by decide) (by omega) (fun q => nd_bd hh.1 q)
  rw [nd_self] at h
  exact h
end
section
/-! findNeeds, whole. -/
section
variable {X : ez_X} {I : Nat → Nat → Int32} {J : Nat → Nat → Int64} {R : Nat → Nat} {T : List ez_C} {cz kz : Nat}
theorem fn_a0  : ∀ G : ez_F, fx_up X 2 G 189 0 [.ref 35] [] (ev_hp I J R T) cz kz = G 189 2 [.ref 35, .int 0] [] (ev_hp I J R T) cz kz := by
  intro G
  rfl
theorem fn_a1 {i : Int32} : ∀ G : ez_F, fx_up X 4 G 189 2 [.ref 35, .int i] [] (ev_hp I J R T) cz kz = bif decide ((I 35 14) ≤ i) then G 189 30 [.ref 35, .int i] [] (ev_hp I J R T) cz kz else G 189 10 [.ref 35, .int i] [] (ev_hp I J R T) cz kz := by
  intro G
  rfl
theorem fn_a2 {i : Int32} : ∀ G : ez_F, fx_up X 4 G 189 10 [.ref 35, .int i] [] (ev_hp I J R T) cz kz = G 189 16 [.ref 35, .int i] [.int i, .int i, .ref 59] (ev_hp I J R T) cz kz := by
  intro G
  rfl
theorem fn_a3 {i : Int32} : ∀ G : ez_F, fx_up X 4 G 189 17 [.ref 35, .int i] [] (ev_hp I J R T) cz kz = G 189 23 [.ref 35, .int i] [.int 0, .int i, .ref 57] (ev_hp I J R T) cz kz := by
  intro G
  rfl
theorem fn_a4 {i : Int32} : ∀ G : ez_F, fx_up X 2 G 189 24 [.ref 35, .int i] [] (ev_hp I J R T) cz kz = G 189 2 [.ref 35, .int (i + 1)] [] (ev_hp I J R T) cz kz := by
  intro G
  rfl
theorem fn_a5 {i : Int32} : ∀ G : ez_F, fx_up X 6 G 189 30 [.ref 35, .int i] [] (ev_hp I J R T) cz kz = G 189 38 [.ref 35, .int 1] [.int 0, .int 0, .ref 54] (ev_hp I J R T) cz kz := by
  intro G
  rfl
theorem fn_a6 {h : Int32} : ∀ G : ez_F, fx_up X 5 G 189 39 [.ref 35, .int h] [] (ev_hp I J R T) cz kz = G 189 48 [.ref 35, .int h] [.int (I 35 14), .int 0, .ref 55] (ev_hp I J R T) cz kz := by
  intro G
  rfl
theorem fn_a7 {h : Int32} : ∀ G : ez_F, fx_up X 4 G 189 49 [.ref 35, .int h] [] (ev_hp I J R T) cz kz = G 189 55 [.ref 35, .int h] [.long 0, .int 0, .ref 56] (ev_hp I J R T) cz kz := by
  intro G
  rfl
theorem fn_h1 {h : Int32} : ∀ G : ez_F, fx_up X 2 G 189 56 [.ref 35, .int h] [] (ev_hp I J R T) cz kz = bif decide (h ≤ (0 : Int32)) then G 189 262 [.ref 35, .int h] [] (ev_hp I J R T) cz kz else G 189 60 [.ref 35, .int h] [] (ev_hp I J R T) cz kz := by
  intro G
  rfl
theorem fn_h2a {h : Int32} : ∀ G : ez_F, fx_up X 1 G 189 60 [.ref 35, .int h] [] (ev_hp I J R T) cz kz = G 189 63 [.ref 35, .int (h + Int32.ofInt (-1))] [] (ev_hp I J R T) cz kz := by
  intro G
  rfl
theorem fn_h2b {h : Int32} : ∀ G : ez_F, fx_up X 3 G 189 63 [.ref 35, .int h] [] (ev_hp I J R T) cz kz = G 189 68 [.ref 35, .int h] [.int h, .ref 54] (ev_hp I J R T) cz kz := by
  intro G
  rfl
theorem fn_h3 {h : Int32} {s : Int32} : ∀ G : ez_F, fx_up X 4 G 189 69 [.ref 35, .int h] [.int s] (ev_hp I J R T) cz kz = G 189 75 [.ref 35, .int h, .int s] [.int h, .ref 55] (ev_hp I J R T) cz kz := by
  intro G
  rfl
theorem fn_h4 {h : Int32} {s : Int32} {z : Int32} : ∀ G : ez_F, fx_up X 4 G 189 76 [.ref 35, .int h, .int s] [.int z] (ev_hp I J R T) cz kz = G 189 82 [.ref 35, .int h, .int s, .int z] [.int h, .ref 56] (ev_hp I J R T) cz kz := by
  intro G
  rfl
theorem fn_h5 {h : Int32} {s : Int32} {z : Int32} {cd : Int64} : ∀ G : ez_F, fx_up X 6 G 189 83 [.ref 35, .int h, .int s, .int z] [.long cd] (ev_hp I J R T) cz kz = ev_C G 177 [.ref 35, .int s, .int z, .long cd] (ev_hp I J R T) fun r h1 c1 k1 => G 189 93 [.ref 35, .int h, .int s, .int z, .long cd, ez_fill] (r.toList ++ []) h1 (cz + c1) (kz + k1) := by
  intro G
  rfl
theorem fn_h6 {h : Int32} {s : Int32} {z : Int32} {cd : Int64} {b : Int32} : ∀ G : ez_F, fx_up X 4 G 189 93 [.ref 35, .int h, .int s, .int z, .long cd, ez_fill] [.int b] (ev_hp I J R T) cz kz = bif decide (b = (Int32.ofInt (-1))) then G 189 259 [.ref 35, .int h, .int s, .int z, .long cd, ez_fill, .int b] [] (ev_hp I J R T) cz kz else G 189 101 [.ref 35, .int h, .int s, .int z, .long cd, ez_fill, .int b] [] (ev_hp I J R T) cz kz := by
  intro G
  rfl
theorem fn_h7 {h : Int32} {s : Int32} {z : Int32} {cd : Int64} {b : Int32} : ∀ G : ez_F, fx_up X 1 G 189 259 [.ref 35, .int h, .int s, .int z, .long cd, ez_fill, .int b] [] (ev_hp I J R T) cz kz = G 189 56 [.ref 35, .int h, .int s, .int z, .long cd, ez_fill, .int b] [] (ev_hp I J R T) cz kz := by
  intro G
  rfl
theorem fn_h8 {h : Int32} {s : Int32} {z : Int32} {cd : Int64} {b : Int32} : ∀ G : ez_F, fx_up X 4 G 189 101 [.ref 35, .int h, .int s, .int z, .long cd, ez_fill, .int b] [] (ev_hp I J R T) cz kz = G 189 107 [.ref 35, .int h, .int s, .int z, .long cd, ez_fill, .int b, .int s, .int 0] [] (ev_hp I J R T) cz kz := by
  intro G
  rfl
theorem fn_v1 {h : Int32} {s : Int32} {z : Int32} {cd : Int64} {b : Int32} {t : Int32} {v : Int32} : ∀ G : ez_F, fx_up X 3 G 189 107 [.ref 35, .int h, .int s, .int z, .long cd, ez_fill, .int b, .int t, .int v] [] (ev_hp I J R T) cz kz = bif decide ((3 : Int32) ≤ v) then G 189 214 [.ref 35, .int h, .int s, .int z, .long cd, ez_fill, .int b, .int t, .int v] [] (ev_hp I J R T) cz kz else G 189 113 [.ref 35, .int h, .int s, .int z, .long cd, ez_fill, .int b, .int t, .int v] [] (ev_hp I J R T) cz kz := by
  intro G
  rfl
theorem fn_v2 {h : Int32} {s : Int32} {z : Int32} {cd : Int64} {b : Int32} {t : Int32} {v : Int32} : ∀ G : ez_F, fx_up X 4 G 189 113 [.ref 35, .int h, .int s, .int z, .long cd, ez_fill, .int b, .int t, .int v] [] (ev_hp I J R T) cz kz = G 189 120 [.ref 35, .int h, .int s, .int z, .long cd, ez_fill, .int b, .int t, .int v, .int t, .int s] [] (ev_hp I J R T) cz kz := by
  intro G
  rfl
theorem fn_w1 {h : Int32} {s : Int32} {z : Int32} {cd : Int64} {b : Int32} {t : Int32} {v : Int32} {o : Int32} {i : Int32} : ∀ G : ez_F, fx_up X 3 G 189 120 [.ref 35, .int h, .int s, .int z, .long cd, ez_fill, .int b, .int t, .int v, .int o, .int i] [] (ev_hp I J R T) cz kz = bif decide (z ≤ i) then G 189 169 [.ref 35, .int h, .int s, .int z, .long cd, ez_fill, .int b, .int t, .int v, .int o, .int i] [] (ev_hp I J R T) cz kz else G 189 126 [.ref 35, .int h, .int s, .int z, .long cd, ez_fill, .int b, .int t, .int v, .int o, .int i] [] (ev_hp I J R T) cz kz := by
  intro G
  rfl
theorem fn_w2 {h : Int32} {s : Int32} {z : Int32} {cd : Int64} {b : Int32} {t : Int32} {v : Int32} {o : Int32} {i : Int32} : ∀ G : ez_F, fx_up X 4 G 189 126 [.ref 35, .int h, .int s, .int z, .long cd, ez_fill, .int b, .int t, .int v, .int o, .int i] [] (ev_hp I J R T) cz kz = G 189 133 [.ref 35, .int h, .int s, .int z, .long cd, ez_fill, .int b, .int t, .int v, .int o, .int i] [.int i, .ref 59, .ref 35] (ev_hp I J R T) cz kz := by
  intro G
  rfl
theorem fn_w3 {h : Int32} {s : Int32} {z : Int32} {cd : Int64} {b : Int32} {t : Int32} {v : Int32} {o : Int32} {i : Int32} {g : Int32} : ∀ G : ez_F, fx_up X 3 G 189 134 [.ref 35, .int h, .int s, .int z, .long cd, ez_fill, .int b, .int t, .int v, .int o, .int i] [.int g, .ref 35] (ev_hp I J R T) cz kz = ev_C G 216 [.ref 35, .int g, .int b, .long cd] (ev_hp I J R T) fun r h1 c1 k1 => G 189 141 [.ref 35, .int h, .int s, .int z, .long cd, ez_fill, .int b, .int t, .int v, .int o, .int i] (r.toList ++ []) h1 (cz + c1) (kz + k1) := by
  intro G
  rfl
theorem fn_w4 {h : Int32} {s : Int32} {z : Int32} {cd : Int64} {b : Int32} {t : Int32} {v : Int32} {o : Int32} {i : Int32} {w : Int32} : ∀ G : ez_F, fx_up X 2 G 189 141 [.ref 35, .int h, .int s, .int z, .long cd, ez_fill, .int b, .int t, .int v, .int o, .int i] [.int w] (ev_hp I J R T) cz kz = bif decide (¬ w = v) then G 189 163 [.ref 35, .int h, .int s, .int z, .long cd, ez_fill, .int b, .int t, .int v, .int o, .int i] [] (ev_hp I J R T) cz kz else G 189 146 [.ref 35, .int h, .int s, .int z, .long cd, ez_fill, .int b, .int t, .int v, .int o, .int i] [] (ev_hp I J R T) cz kz := by
  intro G
  rfl
theorem fn_w5 {h : Int32} {s : Int32} {z : Int32} {cd : Int64} {b : Int32} {t : Int32} {v : Int32} {o : Int32} {i : Int32} : ∀ G : ez_F, fx_up X 6 G 189 146 [.ref 35, .int h, .int s, .int z, .long cd, ez_fill, .int b, .int t, .int v, .int o, .int i] [] (ev_hp I J R T) cz kz = G 189 158 [.ref 35, .int h, .int s, .int z, .long cd, ez_fill, .int b, .int t, .int v, .int o, .int i] [.int i, .ref 59, .int t, .ref 58] (ev_hp I J R T) cz kz := by
  intro G
  rfl
theorem fn_w6 {h : Int32} {s : Int32} {z : Int32} {cd : Int64} {b : Int32} {t : Int32} {v : Int32} {o : Int32} {i : Int32} : ∀ G : ez_F, fx_up X 1 G 189 160 [.ref 35, .int h, .int s, .int z, .long cd, ez_fill, .int b, .int t, .int v, .int o, .int i] [] (ev_hp I J R T) cz kz = G 189 163 [.ref 35, .int h, .int s, .int z, .long cd, ez_fill, .int b, .int (t + 1), .int v, .int o, .int i] [] (ev_hp I J R T) cz kz := by
  intro G
  rfl
theorem fn_w7 {h : Int32} {s : Int32} {z : Int32} {cd : Int64} {b : Int32} {t : Int32} {v : Int32} {o : Int32} {i : Int32} : ∀ G : ez_F, fx_up X 2 G 189 163 [.ref 35, .int h, .int s, .int z, .long cd, ez_fill, .int b, .int t, .int v, .int o, .int i] [] (ev_hp I J R T) cz kz = G 189 120 [.ref 35, .int h, .int s, .int z, .long cd, ez_fill, .int b, .int t, .int v, .int o, .int (i + 1)] [] (ev_hp I J R T) cz kz := by
  intro G
  rfl
theorem fn_x1 {h : Int32} {s : Int32} {z : Int32} {cd : Int64} {b : Int32} {t : Int32} {v : Int32} {o : Int32} {i : Int32} : ∀ G : ez_F, fx_up X 3 G 189 169 [.ref 35, .int h, .int s, .int z, .long cd, ez_fill, .int b, .int t, .int v, .int o, .int i] [] (ev_hp I J R T) cz kz = bif decide (t ≤ o) then G 189 208 [.ref 35, .int h, .int s, .int z, .long cd, ez_fill, .int b, .int t, .int v, .int o, .int i] [] (ev_hp I J R T) cz kz else G 189 176 [.ref 35, .int h, .int s, .int z, .long cd, ez_fill, .int b, .int t, .int v, .int o, .int i] [] (ev_hp I J R T) cz kz := by
  intro G
  rfl
theorem fn_x2 {h : Int32} {s : Int32} {z : Int32} {cd : Int64} {b : Int32} {t : Int32} {v : Int32} {o : Int32} {i : Int32} : ∀ G : ez_F, fx_up X 4 G 189 176 [.ref 35, .int h, .int s, .int z, .long cd, ez_fill, .int b, .int t, .int v, .int o, .int i] [] (ev_hp I J R T) cz kz = G 189 183 [.ref 35, .int h, .int s, .int z, .long cd, ez_fill, .int b, .int t, .int v, .int o, .int i] [.int o, .int h, .ref 54] (ev_hp I J R T) cz kz := by
  intro G
  rfl
theorem fn_x3 {h : Int32} {s : Int32} {z : Int32} {cd : Int64} {b : Int32} {t : Int32} {v : Int32} {o : Int32} {i : Int32} : ∀ G : ez_F, fx_up X 4 G 189 184 [.ref 35, .int h, .int s, .int z, .long cd, ez_fill, .int b, .int t, .int v, .int o, .int i] [] (ev_hp I J R T) cz kz = G 189 191 [.ref 35, .int h, .int s, .int z, .long cd, ez_fill, .int b, .int t, .int v, .int o, .int i] [.int t, .int h, .ref 55] (ev_hp I J R T) cz kz := by
  intro G
  rfl
theorem fn_x4 {h : Int32} {s : Int32} {z : Int32} {cd : Int64} {b : Int32} {t : Int32} {v : Int32} {o : Int32} {i : Int32} : ∀ G : ez_F, fx_up X 8 G 189 192 [.ref 35, .int h, .int s, .int z, .long cd, ez_fill, .int b, .int t, .int v, .int o, .int i] [] (ev_hp I J R T) cz kz = G 189 204 [.ref 35, .int h, .int s, .int z, .long cd, ez_fill, .int b, .int t, .int v, .int o, .int i] [.long (cd ||| (1 <<< (b.toInt64 &&& 63))), .int h, .ref 56] (ev_hp I J R T) cz kz := by
  intro G
  rfl
theorem fn_x5 {h : Int32} {s : Int32} {z : Int32} {cd : Int64} {b : Int32} {t : Int32} {v : Int32} {o : Int32} {i : Int32} : ∀ G : ez_F, fx_up X 1 G 189 205 [.ref 35, .int h, .int s, .int z, .long cd, ez_fill, .int b, .int t, .int v, .int o, .int i] [] (ev_hp I J R T) cz kz = G 189 208 [.ref 35, .int (h + 1), .int s, .int z, .long cd, ez_fill, .int b, .int t, .int v, .int o, .int i] [] (ev_hp I J R T) cz kz := by
  intro G
  rfl
theorem fn_x6 {h : Int32} {s : Int32} {z : Int32} {cd : Int64} {b : Int32} {t : Int32} {v : Int32} {o : Int32} {i : Int32} : ∀ G : ez_F, fx_up X 2 G 189 208 [.ref 35, .int h, .int s, .int z, .long cd, ez_fill, .int b, .int t, .int v, .int o, .int i] [] (ev_hp I J R T) cz kz = G 189 107 [.ref 35, .int h, .int s, .int z, .long cd, ez_fill, .int b, .int t, .int (v + 1), .int o, .int i] [] (ev_hp I J R T) cz kz := by
  intro G
  rfl
theorem fn_y0 {h : Int32} {s : Int32} {z : Int32} {cd : Int64} {b : Int32} {t : Int32} {v : Int32} : ∀ G : ez_F, fx_up X 2 G 189 214 [.ref 35, .int h, .int s, .int z, .long cd, ez_fill, .int b, .int t, .int v] [] (ev_hp I J R T) cz kz = G 189 217 [.ref 35, .int h, .int s, .int z, .long cd, ez_fill, .int b, .int t, .int s] [] (ev_hp I J R T) cz kz := by
  intro G
  rfl
theorem fn_y1 {h : Int32} {s : Int32} {z : Int32} {cd : Int64} {b : Int32} {t : Int32} {i : Int32} : ∀ G : ez_F, fx_up X 3 G 189 217 [.ref 35, .int h, .int s, .int z, .long cd, ez_fill, .int b, .int t, .int i] [] (ev_hp I J R T) cz kz = bif decide (z ≤ i) then G 189 259 [.ref 35, .int h, .int s, .int z, .long cd, ez_fill, .int b, .int t, .int i] [] (ev_hp I J R T) cz kz else G 189 223 [.ref 35, .int h, .int s, .int z, .long cd, ez_fill, .int b, .int t, .int i] [] (ev_hp I J R T) cz kz := by
  intro G
  rfl
theorem fn_y2 {h : Int32} {s : Int32} {z : Int32} {cd : Int64} {b : Int32} {t : Int32} {i : Int32} : ∀ G : ez_F, fx_up X 6 G 189 223 [.ref 35, .int h, .int s, .int z, .long cd, ez_fill, .int b, .int t, .int i] [] (ev_hp I J R T) cz kz = G 189 235 [.ref 35, .int h, .int s, .int z, .long cd, ez_fill, .int b, .int t, .int i] [.int i, .ref 58, .int i, .ref 59] (ev_hp I J R T) cz kz := by
  intro G
  rfl
theorem fn_y3 {h : Int32} {s : Int32} {z : Int32} {cd : Int64} {b : Int32} {t : Int32} {i : Int32} : ∀ G : ez_F, fx_up X 5 G 189 237 [.ref 35, .int h, .int s, .int z, .long cd, ez_fill, .int b, .int t, .int i] [] (ev_hp I J R T) cz kz = G 189 247 [.ref 35, .int h, .int s, .int z, .long cd, ez_fill, .int b, .int t, .int i] [.int i, .ref 59, .ref 57] (ev_hp I J R T) cz kz := by
  intro G
  rfl
theorem fn_y4 {h : Int32} {s : Int32} {z : Int32} {cd : Int64} {b : Int32} {t : Int32} {i : Int32} {g : Int32} : ∀ G : ez_F, fx_up X 1 G 189 248 [.ref 35, .int h, .int s, .int z, .long cd, ez_fill, .int b, .int t, .int i] [.int g, .ref 57] (ev_hp I J R T) cz kz = G 189 249 [.ref 35, .int h, .int s, .int z, .long cd, ez_fill, .int b, .int t, .int i] [.int g, .ref 57, .int g, .ref 57] (ev_hp I J R T) cz kz := by
  intro G
  rfl
theorem fn_y5 {h : Int32} {s : Int32} {z : Int32} {cd : Int64} {b : Int32} {t : Int32} {i : Int32} {x : Int32} {g : Int32} : ∀ G : ez_F, fx_up X 2 G 189 250 [.ref 35, .int h, .int s, .int z, .long cd, ez_fill, .int b, .int t, .int i] [.int x, .int g, .ref 57] (ev_hp I J R T) cz kz = G 189 252 [.ref 35, .int h, .int s, .int z, .long cd, ez_fill, .int b, .int t, .int i] [.int (x + 1), .int g, .ref 57] (ev_hp I J R T) cz kz := by
  intro G
  rfl
theorem fn_y6 {h : Int32} {s : Int32} {z : Int32} {cd : Int64} {b : Int32} {t : Int32} {i : Int32} : ∀ G : ez_F, fx_up X 2 G 189 253 [.ref 35, .int h, .int s, .int z, .long cd, ez_fill, .int b, .int t, .int i] [] (ev_hp I J R T) cz kz = G 189 217 [.ref 35, .int h, .int s, .int z, .long cd, ez_fill, .int b, .int t, .int (i + 1)] [] (ev_hp I J R T) cz kz := by
  intro G
  rfl
theorem fn_y7 {h : Int32} {s : Int32} {z : Int32} {cd : Int64} {b : Int32} {t : Int32} {i : Int32} : ∀ G : ez_F, fx_up X 1 G 189 259 [.ref 35, .int h, .int s, .int z, .long cd, ez_fill, .int b, .int t, .int i] [] (ev_hp I J R T) cz kz = G 189 56 [.ref 35, .int h, .int s, .int z, .long cd, ez_fill, .int b] [] (ev_hp I J R T) cz kz := by
  intro G
  rfl
theorem fn_z1 {h : Int32} : ∀ G : ez_F, fx_up X 1 G 189 262 [.ref 35, .int h] [] (ev_hp I J R T) cz kz = some (none, ev_hp I J R T, cz, kz) := by
  intro G
  rfl
end
noncomputable def fn_md : List (Nat × Nat) := [(53, 999), (54, 999), (55, 999), (56, 999), (57, 999), (58, 999), (59, 999)]
theorem fn_lk {I I2 : Nat → Nat → Int32} {J J2 : Nat → Nat → Int64} (h : cx_fr fn_md I J I2 J2) : I2 35 = I 35 ∧ I2 41 = I 41 ∧ J2 39 = J 39 := ⟨funext fun q => (h 35 q rfl).1, funext fun q => (h 41 q rfl).1, funext fun q => (h 39 q rfl).2⟩
theorem eh_plQ (X : ez_X) (I I' : Nat → Nat → Int32) (J J' : Nat → Nat → Int64) (R : Nat → Nat) (T : List ez_C) (k cell : Int32) (cd : Int64) (hh : cx_hB cx_B0 I') (hk : 0 ≤ k.toInt ∧ k.toInt ≤ 9999) (hf : cx_fr fn_md I J I' J') :
    ev_W X 216 0 (ez_lay [.ref 35, .int k, .int cell, .long cd]) [] (ev_hp I' J' R T) 0 0 (ev_is (some (.int (pl_P I J k cell cd))) (ev_hp I' J' R T)) := by
  obtain ⟨l1, l2, l3⟩ := fn_lk hf
  rw [← pl_P_congr (congrFun l1 3) (congrFun l1 7) l2 l3 k cell cd]
  exact eh_pl X I' J' R T k cell cd hh hk
theorem nd_frJ {md : List (Nat × Nat)} {I : Nat → Nat → Int32} {J : Nat → Nat → Int64} {p : Nat} (h : cx_all md p = true) (f : Nat → Int64) : cx_fr md I J I (ev_sJ J p f) := cx_fr_J fun k hk => by
  rw [cx_all_s h k] at hk
  cases hk
/-- between 0 and 400: what the rows 54, 55, 58, 59 hold -/
theorem nd_hB4 {I : Nat → Nat → Int32} {p : Nat} (hp : p = 54 ∨ p = 55 ∨ p = 58 ∨ p = 59) (hh : cx_hB cx_B0 I) {g : Nat → Int32} (hg : ∀ q, 0 ≤ (g q).toInt ∧ (g q).toInt ≤ 400) : cx_hB cx_B0 (ev_sI I p g) := cx_hB_I hh fun q => by
  rcases hp with rfl | rfl | rfl | rfl <;> exact hg q
theorem nd_bd4 {I : Nat → Nat → Int32} {p : Nat} (hp : p = 54 ∨ p = 55 ∨ p = 58 ∨ p = 59) (hh : cx_hB cx_B0 I) (q : Nat) : 0 ≤ (I p q).toInt ∧ (I p q).toInt ≤ 400 := by
  have h := hh p q
  rcases hp with rfl | rfl | rfl | rfl <;> exact h
theorem nd_upd_b {g : Nat → Int32} {x : Int32} (k : Nat) (hg : ∀ q, 0 ≤ (g q).toInt ∧ (g q).toInt ≤ 400) (hx : 0 ≤ x.toInt ∧ x.toInt ≤ 400) (q : Nat) : 0 ≤ (upd g k x q).toInt ∧ (upd g k x q).toInt ≤ 400 := by
  by_cases h : q = k
  · rw [h, nd_upd_s]; exact hx
  · rw [nd_upd_n _ _ h]; exact hg q
theorem nd_hB57 {I : Nat → Nat → Int32} (hh : cx_hB cx_B0 I) (f : Nat → Int32) : cx_hB cx_B0 (ev_sI I 57 f) := cx_hB_I hh fun q => cx_full32 (f q)
/-! What the heaps weigh: each parting makes it less. -/
noncomputable def fn_w (n : Int) : Nat := if n ≤ 0 then 1 else (2 * n - 1).toNat
noncomputable def fn_z (c : Nat) : Nat := if c = 0 then 0 else 2 * c - 1
noncomputable def fn_W (F G : Nat → Int32) : Nat → Nat
  | 0 => 0
  | h + 1 => fn_W F G h + fn_w ((G h).toInt - (F h).toInt)
theorem fn_w_1 (n : Int) : 1 ≤ fn_w n := by
  unfold fn_w
  split <;> omega
theorem fn_W_ge (F G : Nat → Int32) : ∀ h, h ≤ fn_W F G h := by
  intro h
  induction h with
  | zero => exact Nat.le_refl _
  | succ h ih =>
    have := fn_w_1 ((G h).toInt - (F h).toInt)
    show h + 1 ≤ fn_W F G h + fn_w ((G h).toInt - (F h).toInt)
    omega
theorem fn_W_eq {F G F' G' : Nat → Int32} : ∀ h, (∀ j, j < h → F' j = F j ∧ G' j = G j) → fn_W F' G' h = fn_W F G h := by
  intro h
  induction h with
  | zero => exact fun _ => rfl
  | succ h ih =>
    intro e
    show fn_W F' G' h + _ = fn_W F G h + _
    rw [ih fun j hj => e j (by omega), (e h (by omega)).1, (e h (by omega)).2]
theorem fn_less {c0 c1 c2 n : Nat} (h : c0 + c1 + c2 = n) (h0 : c0 < n) (h1 : c1 < n) (h2 : c2 < n) : fn_z c0 + fn_z c1 + fn_z c2 < fn_w n := by
  unfold fn_z fn_w
  split <;> split <;> split <;> split <;> omega
noncomputable def fn_st (I : Nat → Nat → Int32) (J : Nat → Nat → Int64) (I2 : Nat → Nat → Int32) (J2 : Nat → Nat → Int64) (hn W : Nat) : Prop :=
  cx_hB cx_B0 I2 ∧ cx_fr fn_md I J I2 J2 ∧ I2 59 = I 59 ∧ fn_W (I2 54) (I2 55) hn = W ∧ ∀ j, j < hn → (I2 54 j).toInt ≤ (I2 55 j).toInt
section
variable {X : ez_X} {I I2 : Nat → Nat → Int32} {J J2 : Nat → Nat → Int64} {R : Nat → Nat} {T : List ez_C} {Q : ev_Q} {cz kz : Nat} {h s z b v o : Int32} {cd : Int64}
theorem fn_fl {a n pre : Nat} (hh : cx_hB cx_B0 I2) (hfr : cx_fr fn_md I J I2 J2) (h59 : I2 59 = I 59) (haz : z.toInt = a + n) (hz : a + n ≤ 400) (hpre : pre + nd_cnt (fun q => pl_P I J (I 59 q) b cd) a v n ≤ n)
    (cont : ∀ (g : Nat → Int32) (t i : Int32), t.toInt = ((a + pre + nd_cnt (fun q => pl_P I J (I 59 q) b cd) a v n : Nat) : Int) → (∀ q, 0 ≤ (g q).toInt ∧ (g q).toInt ≤ 400) →
      ev_W X 189 169 [.ref 35, .int h, .int s, .int z, .long cd, ez_fill, .int b, .int t, .int v, .int o, .int i] [] (ev_hp (ev_sI I2 58 g) J2 R T) cz kz Q) :
    ∀ (r j : Nat) (t i : Int32) (g : Nat → Int32), i.toInt = a + j → j + r = n → t.toInt = ((a + pre + nd_cnt (fun q => pl_P I J (I 59 q) b cd) a v j : Nat) : Int) → (∀ q, 0 ≤ (g q).toInt ∧ (g q).toInt ≤ 400) →
      ev_W X 189 120 [.ref 35, .int h, .int s, .int z, .long cd, ez_fill, .int b, .int t, .int v, .int o, .int i] [] (ev_hp (ev_sI I2 58 g) J2 R T) cz kz Q := by
  intro r
  induction r with
  | zero =>
    intro j t i g hi hj ht hg
    refine ev_if fn_w1 (fun _ => ?_) (fun x => ?_)
    · obtain rfl : j = n := by omega
      exact cont g t i ht hg
    · exact absurd (Int32.le_iff_toInt_le.mpr (by omega)) (of_decide_eq_false x)
  | succ r ih =>
    intro j t i g hi hj ht hg
    refine ev_if fn_w1 (fun x => ?_) (fun _ => ?_)
    · have := Int32.le_iff_toInt_le.mp (of_decide_eq_true x)
      omega
    have ei : i.toNatClampNeg = a + j := by rw [nd_nat]; omega
    have hi1 : (i + 1).toInt = i.toInt + 1 := nd_inc (by omega) (by omega)
    have hb := nd_bd4 (p := 59) (by decide) hh (a + j)
    have hc := nd_cnt_le (fun q => pl_P I J (I 59 q) b cd) a v j
    have hm := nd_cnt_mono (fun q => pl_P I J (I 59 q) b cd) a v r (j + 1)
    rw [show j + 1 + r = n by omega] at hm
    refine ev_seg fn_w2 ?_
    refine ev_iald (by rfl) (nd_getN (show cx_Ds[59]? = some (0, 401, []) from rfl) (by decide) g) (fs_ixs (by omega) (by omega)) ?_
    rw [ei]
    refine ev_call fn_w3 (eh_plQ X I (ev_sI I2 58 g) J J2 R T (I2 59 (a + j)) b cd (nd_hB4 (by decide) hh hg) (by omega) (cx_fr_t hfr (nd_fr (by rfl) g))) ?_
    rintro _ _ _ _ ⟨rfl, rfl, rfl, rfl⟩
    refine ev_if fn_w4 (fun x => ?_) (fun x => ?_)
    · have hx := of_decide_eq_true x
      have hn2 : nd_cnt (fun q => pl_P I J (I 59 q) b cd) a v (j + 1) = nd_cnt (fun q => pl_P I J (I 59 q) b cd) a v j := nd_cnt_n (by
        show ¬ pl_P I J (I 59 (a + j)) b cd = v
        rw [← h59]
        exact hx)
      refine ev_seg fn_w7 ?_
      exact ih (j + 1) t (i + 1) g (by omega) (by omega) (by rw [hn2]; exact ht) hg
    · have hx := Classical.not_not.mp (of_decide_eq_false x)
      have hn2 : nd_cnt (fun q => pl_P I J (I 59 q) b cd) a v (j + 1) = nd_cnt (fun q => pl_P I J (I 59 q) b cd) a v j + 1 := nd_cnt_y (by
        show pl_P I J (I 59 (a + j)) b cd = v
        rw [← h59]
        exact hx)
      refine ev_seg fn_w5 ?_
      refine ev_iald (by rfl) (nd_getN (show cx_Ds[59]? = some (0, 401, []) from rfl) (by decide) g) (fs_ixs (by omega) (by omega)) ?_
      rw [ei]
      refine ev_iastH (by rfl) (nd_getI (show cx_Ds[58]? = some (0, 401, []) from rfl) g) (fs_ixs (by omega) (by omega)) (nd_setI (show cx_Ds[58]? = some (0, 401, []) from rfl) g _) ?_
      refine ev_seg fn_w6 ?_
      refine ev_seg fn_w7 ?_
      refine ih (j + 1) (t + 1) (i + 1) _ (by omega) (by omega) ?_ (nd_upd_b _ hg hb)
      rw [hn2, nd_inc (by omega) (by omega)]
      omega
theorem fn_step {a n pre hn W : Nat} {t : Int32} (haz : z.toInt = a + n) (hz : a + n ≤ 400) (hs : s.toInt = a) (hv : v = 0 ∨ v = 1 ∨ v = 2) (hpre : pre + nd_cnt (fun q => pl_P I J (I 59 q) b cd) a v n ≤ n) (hhn : hn ≤ 1000)
    (hst : fn_st I J I2 J2 hn W) (hh : h.toInt = hn) (ht : t.toInt = ((a + pre : Nat) : Int))
    (cont : ∀ (I3 : Nat → Nat → Int32) (J3 : Nat → Nat → Int64) (h3 t3 : Int32) (hn3 : Nat), fn_st I J I3 J3 hn3 (W + fn_z (nd_cnt (fun q => pl_P I J (I 59 q) b cd) a v n)) → h3.toInt = hn3 → hn3 ≤ hn + 1 → t3.toInt = ((a + (pre + nd_cnt (fun q => pl_P I J (I 59 q) b cd) a v n) : Nat) : Int) →
      ev_W X 189 107 [.ref 35, .int h3, .int s, .int z, .long cd, ez_fill, .int b, .int t3, .int (v + 1)] [] (ev_hp I3 J3 R T) cz kz Q) :
    ev_W X 189 107 [.ref 35, .int h, .int s, .int z, .long cd, ez_fill, .int b, .int t, .int v] [] (ev_hp I2 J2 R T) cz kz Q := by
  obtain ⟨s1, s2, s3, s4, s5⟩ := hst
  refine ev_if fn_v1 (fun x => ?_) (fun _ => ?_)
  · have hx := of_decide_eq_true x
    rcases hv with rfl | rfl | rfl <;> exact absurd hx (by decide)
  refine ev_seg fn_v2 ?_
  have cont2 : ∀ (g : Nat → Int32) (t3 i : Int32), t3.toInt = ((a + pre + nd_cnt (fun q => pl_P I J (I 59 q) b cd) a v n : Nat) : Int) → (∀ q, 0 ≤ (g q).toInt ∧ (g q).toInt ≤ 400) →
      ev_W X 189 169 [.ref 35, .int h, .int s, .int z, .long cd, ez_fill, .int b, .int t3, .int v, .int t, .int i] [] (ev_hp (ev_sI I2 58 g) J2 R T) cz kz Q := by
    intro g t3 i ht3 hg
    have hB1 : cx_hB cx_B0 (ev_sI I2 58 g) := nd_hB4 (by decide) s1 hg
    have fr1 : cx_fr fn_md I J (ev_sI I2 58 g) J2 := cx_fr_t s2 (nd_fr (by rfl) g)
    have e54 : (ev_sI I2 58 g) 54 = I2 54 := rfl
    have e55 : (ev_sI I2 58 g) 55 = I2 55 := rfl
    have e59 : (ev_sI I2 58 g) 59 = I2 59 := rfl
    generalize ev_sI I2 58 g = I3 at hB1 fr1 e54 e55 e59 ⊢
    refine ev_if fn_x1 (fun x => ?_) (fun x => ?_)
    · have hx := Int32.le_iff_toInt_le.mp (of_decide_eq_true x)
      have hc : nd_cnt (fun q => pl_P I J (I 59 q) b cd) a v n = 0 := by omega
      refine ev_seg fn_x6 ?_
      refine ev_cutl (by rfl) ?_
      refine cont I3 J2 h t3 hn ⟨hB1, fr1, by rw [e59, s3], ?_, fun j hj => ?_⟩ hh (by omega) (by omega)
      · rw [e54, e55, s4, hc]
        rfl
      · rw [e54, e55]
        exact s5 j hj
    · have hx : ¬ t3.toInt ≤ t.toInt := fun y => (of_decide_eq_false x) (Int32.le_iff_toInt_le.mpr y)
      have eh : h.toNatClampNeg = hn := by rw [nd_nat]; omega
      refine ev_seg fn_x2 ?_
      refine ev_iastH (by rfl) (cx_getI (show cx_Ds[54]? = some (0, 1210, []) from rfl)) (fs_ixs (by omega) (by omega)) (cx_setI (show cx_Ds[54]? = some (0, 1210, []) from rfl) _) ?_
      refine ev_seg fn_x3 ?_
      refine ev_iastH (by rfl) (cx_getI (show cx_Ds[55]? = some (0, 1210, []) from rfl)) (fs_ixs (by omega) (by omega)) (cx_setI (show cx_Ds[55]? = some (0, 1210, []) from rfl) _) ?_
      refine ev_seg fn_x4 ?_
      refine ev_lastH (by rfl) (cx_getJ (show cx_Ds[56]? = some (1, 1210, []) from rfl)) (fs_ixs (by omega) (by omega)) (cx_setJ (show cx_Ds[56]? = some (1, 1210, []) from rfl) _) ?_
      refine ev_seg fn_x5 ?_
      refine ev_seg fn_x6 ?_
      refine ev_cutl (by rfl) ?_
      rw [eh]
      have b4 := nd_bd4 (p := 54) (by decide) hB1
      have b5 := nd_bd4 (p := 55) (by decide) hB1
      have hB2 : cx_hB cx_B0 (ev_sI I3 54 (upd (I3 54) hn t)) := nd_hB4 (by decide) hB1 (nd_upd_b _ b4 (by omega))
      have f1 : cx_fr fn_md I J (ev_sI I3 54 (upd (I3 54) hn t)) J2 := cx_fr_t fr1 (nd_fr (by rfl) _)
      have g5 : (ev_sI I3 54 (upd (I3 54) hn t)) 55 = I3 55 := rfl
      rw [g5]
      have hB3 : cx_hB cx_B0 (ev_sI (ev_sI I3 54 (upd (I3 54) hn t)) 55 (upd (I3 55) hn t3)) := nd_hB4 (by decide) hB2 (nd_upd_b _ b5 (by omega))
      have f2 : cx_fr fn_md I J (ev_sI (ev_sI I3 54 (upd (I3 54) hn t)) 55 (upd (I3 55) hn t3)) J2 := cx_fr_t f1 (nd_fr (by rfl) _)
      have k4 : (ev_sI (ev_sI I3 54 (upd (I3 54) hn t)) 55 (upd (I3 55) hn t3)) 54 = upd (I2 54) hn t := by rw [← e54]; rfl
      have k5 : (ev_sI (ev_sI I3 54 (upd (I3 54) hn t)) 55 (upd (I3 55) hn t3)) 55 = upd (I2 55) hn t3 := by rw [← e55]; rfl
      have k9 : (ev_sI (ev_sI I3 54 (upd (I3 54) hn t)) 55 (upd (I3 55) hn t3)) 59 = I2 59 := by rw [← e59]; rfl
      generalize ev_sI (ev_sI I3 54 (upd (I3 54) hn t)) 55 (upd (I3 55) hn t3) = I4 at hB3 f2 k4 k5 k9 ⊢
      refine cont I4 _ (h + 1) t3 (hn + 1) ⟨hB3, cx_fr_t f2 (nd_frJ (by rfl) _), by rw [k9, s3], ?_, fun j hj => ?_⟩ (by rw [nd_inc (by omega) (by omega)]; omega) (Nat.le_refl _) (by omega)
      · rw [k4, k5]
        show fn_W (upd (I2 54) hn t) (upd (I2 55) hn t3) hn + fn_w ((upd (I2 55) hn t3 hn).toInt - (upd (I2 54) hn t hn).toInt) = _
        rw [nd_upd_s, nd_upd_s, fn_W_eq hn fun j hj => ⟨nd_upd_n _ _ (by omega), nd_upd_n _ _ (by omega)⟩, s4, ht3, ht]
        congr 1
        unfold fn_w fn_z
        rw [if_neg (by omega), if_neg (by omega)]
        omega
      · rw [k4, k5]
        by_cases hj2 : j = hn
        · rw [hj2, nd_upd_s, nd_upd_s]
          omega
        · rw [nd_upd_n _ _ hj2, nd_upd_n _ _ hj2]
          exact s5 j (by omega)
  have hg := nd_bd4 (p := 58) (by decide) s1
  have hf := fn_fl (X := X) (I := I) (I2 := I2) (J := J) (J2 := J2) (R := R) (T := T) (Q := Q) (cz := cz) (kz := kz) (h := h) (s := s) (z := z) (b := b) (v := v) (o := t) (cd := cd) (a := a) (n := n) (pre := pre) s1 s2 s3 haz hz hpre cont2 n 0 t s (I2 58) (by omega) (by omega) (by rw [ht]; rfl) hg
  rw [nd_self] at hf
  exact hf
/-- what was sorted is put back, and counted -/
theorem fn_yl {n : Nat} {t : Int32} (haz : z.toInt = n) (hz : n ≤ 400)
    (cont : ∀ (I3 : Nat → Nat → Int32), cx_hB cx_B0 I3 → cx_fr fn_md I J I3 J2 → I3 54 = I2 54 → I3 55 = I2 55 → ev_W X 189 56 [.ref 35, .int h] [] (ev_hp I3 J2 R T) cz kz Q) :
    ∀ (r j : Nat) (i : Int32) (I3 : Nat → Nat → Int32), i.toInt = j → j + r = n → cx_hB cx_B0 I3 → cx_fr fn_md I J I3 J2 → I3 54 = I2 54 → I3 55 = I2 55 →
      ev_W X 189 217 [.ref 35, .int h, .int s, .int z, .long cd, ez_fill, .int b, .int t, .int i] [] (ev_hp I3 J2 R T) cz kz Q := by
  intro r
  induction r with
  | zero =>
    intro j i I3 hi hj h1 h2 h3 h4
    refine ev_if fn_y1 (fun _ => ?_) (fun x => ?_)
    · refine ev_seg fn_y7 ?_
      refine ev_cutl (by rfl) ?_
      exact cont I3 h1 h2 h3 h4
    · exact absurd (Int32.le_iff_toInt_le.mpr (by omega)) (of_decide_eq_false x)
  | succ r ih =>
    intro j i I3 hi hj h1 h2 h3 h4
    refine ev_if fn_y1 (fun x => ?_) (fun _ => ?_)
    · have := Int32.le_iff_toInt_le.mp (of_decide_eq_true x)
      omega
    have b8 := nd_bd4 (p := 58) (by decide) h1
    have b9 := nd_bd4 (p := 59) (by decide) h1
    refine ev_seg fn_y2 ?_
    refine ev_iald (by rfl) (cx_getI (show cx_Ds[58]? = some (0, 401, []) from rfl)) (fs_ixs (by omega) (by omega)) ?_
    refine ev_iastH (by rfl) (cx_getI (show cx_Ds[59]? = some (0, 401, []) from rfl)) (fs_ixs (by omega) (by omega)) (cx_setI (show cx_Ds[59]? = some (0, 401, []) from rfl) _) ?_
    have hB1 : cx_hB cx_B0 (ev_sI I3 59 (upd (I3 59) i.toNatClampNeg (I3 58 i.toNatClampNeg))) := nd_hB4 (by decide) h1 (nd_upd_b _ b9 (b8 _))
    have fr1 : cx_fr fn_md I J (ev_sI I3 59 (upd (I3 59) i.toNatClampNeg (I3 58 i.toNatClampNeg))) J2 := cx_fr_t h2 (nd_fr (by rfl) _)
    have k4 : (ev_sI I3 59 (upd (I3 59) i.toNatClampNeg (I3 58 i.toNatClampNeg))) 54 = I2 54 := by rw [cx_sI_n _ _ (by decide), h3]
    have k5 : (ev_sI I3 59 (upd (I3 59) i.toNatClampNeg (I3 58 i.toNatClampNeg))) 55 = I2 55 := by rw [cx_sI_n _ _ (by decide), h4]
    generalize ev_sI I3 59 (upd (I3 59) i.toNatClampNeg (I3 58 i.toNatClampNeg)) = I4 at hB1 fr1 k4 k5 ⊢
    have b9' := nd_bd4 (p := 59) (by decide) hB1
    refine ev_seg fn_y3 ?_
    refine ev_iald (by rfl) (cx_getI (show cx_Ds[59]? = some (0, 401, []) from rfl)) (fs_ixs (by omega) (by omega)) ?_
    have hg := b9' i.toNatClampNeg
    generalize I4 59 i.toNatClampNeg = g at hg ⊢
    refine ev_seg fn_y4 ?_
    refine ev_iald (by rfl) (cx_getI (show cx_Ds[57]? = some (0, 401, []) from rfl)) (fs_ixs (by omega) (by omega)) ?_
    refine ev_seg fn_y5 ?_
    refine ev_iastH (by rfl) (cx_getI (show cx_Ds[57]? = some (0, 401, []) from rfl)) (fs_ixs (by omega) (by omega)) (cx_setI (show cx_Ds[57]? = some (0, 401, []) from rfl) _) ?_
    refine ev_seg fn_y6 ?_
    refine ih (j + 1) (i + 1) _ (by rw [nd_inc (by omega) (by omega)]; omega) (by omega) (nd_hB57 hB1 _) (cx_fr_t fr1 (nd_fr (by rfl) _)) ?_ ?_
    · rw [cx_sI_n _ _ (by decide), k4]
    · rw [cx_sI_n _ _ (by decide), k5]
end
section
variable {X : ez_X} {I0 : Nat → Nat → Int32} {J0 : Nat → Nat → Int64} {R : Nat → Nat} {T : List ez_C} {Q : ev_Q} {cz kz : Nat}
theorem fn_main (fin : ∀ (I : Nat → Nat → Int32) (J : Nat → Nat → Int64), cx_hB cx_B0 I → cx_fr fn_md I0 J0 I J → Q none (ev_hp I J R T) cz kz) :
    ∀ (D hn : Nat) (h : Int32) (I : Nat → Nat → Int32) (J : Nat → Nat → Int64), fn_W (I 54) (I 55) hn < D → D ≤ 800 → h.toInt = hn → cx_hB cx_B0 I → cx_fr fn_md I0 J0 I J → (∀ j, j < hn → (I 54 j).toInt ≤ (I 55 j).toInt) →
      ev_W X 189 56 [.ref 35, .int h] [] (ev_hp I J R T) cz kz Q := by
  have e0 : (0 : Int32).toInt = 0 := by decide
  intro D
  induction D with
  | zero =>
    intro hn h I J hD
    omega
  | succ D ih =>
    intro hn h I J hD hD8 hh hB hfr hle
    refine ev_if fn_h1 (fun _ => ev_ret fn_z1 (fin I J hB hfr)) (fun x => ?_)
    have hx : ¬ h.toInt ≤ 0 := fun y => (of_decide_eq_false x) (Int32.le_iff_toInt_le.mpr (by rw [e0]; exact y))
    obtain ⟨m, rfl⟩ : ∃ m, hn = m + 1 := ⟨hn - 1, by omega⟩
    have hge := fn_W_ge (I 54) (I 55) (m + 1)
    have hWs : fn_W (I 54) (I 55) (m + 1) = fn_W (I 54) (I 55) m + fn_w ((I 55 m).toInt - (I 54 m).toInt) := rfl
    have hw1 := fn_w_1 ((I 55 m).toInt - (I 54 m).toInt)
    have hlm := hle m (by omega)
    have b4 := nd_bd4 (p := 54) (by decide) hB m
    have b5 := nd_bd4 (p := 55) (by decide) hB m
    refine ev_seg fn_h2a ?_
    have hd : (h + Int32.ofInt (-1)).toInt = m := by rw [fs_dec (by omega)]; omega
    generalize h + Int32.ofInt (-1) = h' at hd ⊢
    have eh : h'.toNatClampNeg = m := by rw [nd_nat]; omega
    refine ev_seg fn_h2b ?_
    refine ev_iald (by rfl) (cx_getI (show cx_Ds[54]? = some (0, 1210, []) from rfl)) (fs_ixs (by omega) (by omega)) ?_
    rw [eh]
    refine ev_seg fn_h3 ?_
    refine ev_iald (by rfl) (cx_getI (show cx_Ds[55]? = some (0, 1210, []) from rfl)) (fs_ixs (by omega) (by omega)) ?_
    rw [eh]
    refine ev_seg fn_h4 ?_
    refine ev_lald (by rfl) (cx_getJ (show cx_Ds[56]? = some (1, 1210, []) from rfl)) (fs_ixs (by omega) (by omega)) ?_
    generalize hs : I 54 m = s at hWs hw1 hlm b4 ⊢
    generalize hz : I 55 m = z at hWs hw1 hlm b5 ⊢
    generalize J 56 h'.toNatClampNeg = cd
    have hzs : (z - s).toInt = z.toInt - s.toInt := by
      rw [Int32.toInt_sub, cx_bm32]
      simp only [cx_i32]
      omega
    refine ev_call fn_h5 (eh_cf X I J R T s z cd (a := s.toInt.toNat) (n := (z.toInt - s.toInt).toNat) hB (by omega) (by omega) (by omega)) ?_
    rintro _ _ _ _ ⟨f, b, l, rfl, rfl, rfl, rfl, hb⟩
    have hB1 : cx_hB cx_B0 (ev_sI I 53 f) := nd_hB53 hB f
    have fr1 : cx_fr fn_md I J (ev_sI I 53 f) J := nd_fr (by rfl) f
    refine ev_if fn_h6 (fun x => ?_) (fun x => ?_)
    · refine ev_seg fn_h7 ?_
      refine ev_cutl (by rfl) ?_
      exact ih m h' (ev_sI I 53 f) J (show fn_W (I 54) (I 55) m < D by omega) (by omega) hd hB1 (cx_fr_t hfr fr1) (fun j hj => hle j (by omega))
    rcases hb with ⟨hb, -⟩ | ⟨-, -, b2, b3⟩
    · exact absurd hb (of_decide_eq_false x)
    refine ev_seg fn_h8 ?_
    have hsum := nd_cnt_sum (fun q => pl_P I J (I 59 q) b cd) s.toInt.toNat (fun q => pl_P_r I J (I 59 q) b cd) (z.toInt - s.toInt).toNat
    have c0 := b3 0 (Or.inl rfl)
    have c1 := b3 1 (Or.inr (Or.inl rfl))
    have c2 := b3 2 (Or.inr (Or.inr rfl))
    have hless := fn_less hsum (by omega) (by omega) (by omega)
    have hnn : (((z.toInt - s.toInt).toNat : Nat) : Int) = z.toInt - s.toInt := by omega
    rw [hnn] at hless
    have st0 : fn_st I J (ev_sI I 53 f) J m (fn_W (I 54) (I 55) m) := ⟨hB1, fr1, rfl, rfl, fun j hj => hle j (by omega)⟩
    refine fn_step (a := s.toInt.toNat) (n := (z.toInt - s.toInt).toNat) (pre := 0) (by omega) (by omega) (by omega) (Or.inl rfl) (by omega) (by omega) st0 hd (by omega) (fun I1 J1 h1 t1 n1 st1 hn1 hle1 ht1 => ?_)
    rw [show (0 + 1 : Int32) = 1 from by decide]
    refine fn_step (a := s.toInt.toNat) (n := (z.toInt - s.toInt).toNat) (by omega) (by omega) (by omega) (Or.inr (Or.inl rfl)) (by omega) (by omega) st1 hn1 ht1 (fun I2 J2 h2 t2 n2 st2 hn2 hle2 ht2 => ?_)
    rw [show (1 + 1 : Int32) = 2 from by decide]
    refine fn_step (a := s.toInt.toNat) (n := (z.toInt - s.toInt).toNat) (by omega) (by omega) (by omega) (Or.inr (Or.inr rfl)) (by omega) (by omega) st2 hn2 ht2 (fun I3 J3 h3 t3 n3 st3 hn3 hle3 ht3 => ?_)
    rw [show (2 + 1 : Int32) = 3 from by decide]
    refine ev_if fn_v1 (fun _ => ?_) (fun y => absurd (Int32.le_refl 3) (of_decide_eq_false y))
    refine ev_seg fn_y0 ?_
    obtain ⟨u1, u2, u3, u4, u5⟩ := st3
    refine fn_yl (I := I) (I2 := I3) (J := J) (n := z.toInt.toNat) (by omega) (by omega) (fun I4 w1 w2 w3 w4 => ?_) (z.toInt - s.toInt).toNat s.toInt.toNat s I3 (by omega) (by omega) u1 u2 rfl rfl
    refine ih n3 h3 I4 J3 ?_ (by omega) hn3 w1 (cx_fr_t hfr w2) (fun j hj => ?_)
    · rw [w3, w4, u4]
      omega
    · rw [w3, w4]
      exact u5 j hj
theorem fn_il {n : Nat} (hz : (I0 35 14).toInt = n) (hn : n ≤ 400)
    (cont : ∀ (I : Nat → Nat → Int32) (i : Int32), cx_hB cx_B0 I → cx_fr fn_md I0 J0 I J0 → ev_W X 189 30 [.ref 35, .int i] [] (ev_hp I J0 R T) cz kz Q) :
    ∀ (r j : Nat) (i : Int32) (I : Nat → Nat → Int32), i.toInt = j → j + r = n → cx_hB cx_B0 I → cx_fr fn_md I0 J0 I J0 → ev_W X 189 2 [.ref 35, .int i] [] (ev_hp I J0 R T) cz kz Q := by
  intro r
  induction r with
  | zero =>
    intro j i I hi hj h1 h2
    have e := congrFun (fn_lk h2).1 14
    refine ev_if fn_a1 (fun _ => cont I i h1 h2) (fun x => ?_)
    exact absurd (Int32.le_iff_toInt_le.mpr (by rw [e]; omega)) (of_decide_eq_false x)
  | succ r ih =>
    intro j i I hi hj h1 h2
    have e := congrFun (fn_lk h2).1 14
    refine ev_if fn_a1 (fun x => ?_) (fun _ => ?_)
    · have := Int32.le_iff_toInt_le.mp (of_decide_eq_true x)
      rw [e] at this
      omega
    refine ev_seg fn_a2 ?_
    refine ev_iastH (by rfl) (cx_getI (show cx_Ds[59]? = some (0, 401, []) from rfl)) (fs_ixs (by omega) (by omega)) (cx_setI (show cx_Ds[59]? = some (0, 401, []) from rfl) _) ?_
    have hB1 := nd_hB4 (p := 59) (by decide) h1 (nd_upd_b i.toNatClampNeg (nd_bd4 (p := 59) (by decide) h1) (x := i) (by omega))
    refine ev_seg fn_a3 ?_
    refine ev_iastH (by rfl) (cx_getI (show cx_Ds[57]? = some (0, 401, []) from rfl)) (fs_ixs (by omega) (by omega)) (cx_setI (show cx_Ds[57]? = some (0, 401, []) from rfl) _) ?_
    refine ev_seg fn_a4 ?_
    exact ih (j + 1) (i + 1) _ (by rw [nd_inc (by omega) (by omega)]; omega) (by omega) (nd_hB57 hB1 _) (cx_fr_t (cx_fr_t h2 (nd_fr (by rfl) _)) (nd_fr (by rfl) _))
end
theorem cv_SquaredShipsModel_findNeeds : cx_valid cx_B0 189 ck_SquaredShipsModel_findNeeds := by
  intro X σ0 ls I J R T hX2 hh hok
  obtain ⟨v1, t1, rfl, rfl, g2⟩ := cx_L_inv hok.1
  obtain rfl := cx_L_nil g2 rfl
  have e0 : (0 : Int32).toInt = 0 := by decide
  have hz0 : σ0[0]? = some (I 35 14).toInt := hok.2.2.2.2.1 (35, 14, 0) List.mem_cons_self
  have hzb := hok.2.2.1.2 0 _ (0, 400) hz0 rfl
  simp only at hzb
  refine ev_seg fn_a0 ?_
  refine fn_il (n := (I 35 14).toInt.toNat) (by omega) (by omega) (fun I1 i h1 h2 => ?_) (I 35 14).toInt.toNat 0 0 I (by decide) (by omega) hh.1 (cx_fr_r _ _ _)
  refine ev_seg fn_a5 ?_
  refine ev_iastH (by rfl) (cx_getI (show cx_Ds[54]? = some (0, 1210, []) from rfl)) (fs_ixs (by decide) (by decide)) (cx_setI (show cx_Ds[54]? = some (0, 1210, []) from rfl) _) ?_
  have hB2 := nd_hB4 (p := 54) (by decide) h1 (nd_upd_b (0 : Int32).toNatClampNeg (nd_bd4 (p := 54) (by decide) h1) (x := 0) (by decide))
  have fr2 := cx_fr_t h2 (nd_fr (p := 54) (by rfl) (upd (I1 54) (0 : Int32).toNatClampNeg 0))
  have k4 : (ev_sI I1 54 (upd (I1 54) (0 : Int32).toNatClampNeg 0)) 54 0 = 0 := by
    rw [cx_sI_s]
    exact nd_upd_s _ _ _
  generalize ev_sI I1 54 (upd (I1 54) (0 : Int32).toNatClampNeg 0) = I2 at hB2 fr2 k4 ⊢
  refine ev_seg fn_a6 ?_
  have e14 : I2 35 14 = I 35 14 := congrFun (fn_lk fr2).1 14
  refine ev_iastH (by rfl) (cx_getI (show cx_Ds[55]? = some (0, 1210, []) from rfl)) (fs_ixs (by decide) (by decide)) (cx_setI (show cx_Ds[55]? = some (0, 1210, []) from rfl) _) ?_
  rw [e14]
  have hB3 := nd_hB4 (p := 55) (by decide) hB2 (nd_upd_b (0 : Int32).toNatClampNeg (nd_bd4 (p := 55) (by decide) hB2) (x := I 35 14) hzb)
  have fr3 := cx_fr_t fr2 (nd_fr (p := 55) (by rfl) (upd (I2 55) (0 : Int32).toNatClampNeg (I 35 14)))
  have m4 : (ev_sI I2 55 (upd (I2 55) (0 : Int32).toNatClampNeg (I 35 14))) 54 0 = 0 := by rw [← k4]; rfl
  have m5 : (ev_sI I2 55 (upd (I2 55) (0 : Int32).toNatClampNeg (I 35 14))) 55 0 = I 35 14 := by
    rw [cx_sI_s]
    exact nd_upd_s _ _ _
  generalize ev_sI I2 55 (upd (I2 55) (0 : Int32).toNatClampNeg (I 35 14)) = I3 at hB3 fr3 m4 m5 ⊢
  refine ev_seg fn_a7 ?_
  refine ev_lastH (by rfl) (cx_getJ (show cx_Ds[56]? = some (1, 1210, []) from rfl)) (fs_ixs (by decide) (by decide)) (cx_setJ (show cx_Ds[56]? = some (1, 1210, []) from rfl) _) ?_
  have fr4 := cx_fr_t fr3 (nd_frJ (p := 56) (by rfl) (vp_updL (J 56) (0 : Int32).toNatClampNeg 0))
  refine fn_main (I0 := I) (J0 := J) (fun I' J' b1 b2 => ?_) 800 1 1 I3 _ ?_ (Nat.le_refl _) (by decide) hB3 fr4 (fun j hj => ?_)
  · exact ⟨I', J', R, T, rfl, ⟨b1, hh.2⟩, b2, cx_leT_r T, rfl, rfl, _, List.mem_cons_self, σ0, cx_ext_r σ0, cx_ok_none hok.2.2.1 I' T⟩
  · show 0 + fn_w ((I3 55 0).toInt - (I3 54 0).toInt) < 800
    rw [m4, m5, e0]
    unfold fn_w
    split <;> omega
  · obtain rfl : j = 0 := by omega
    rw [m4, m5, e0]
    exact hzb.1
end
