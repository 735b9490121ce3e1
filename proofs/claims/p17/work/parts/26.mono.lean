/-! More fuel does no harm; numbers of the checks. -/
theorem ev_go_mono {mL : Nat → Nat} {ih ih' : ez_F} (hm : ∀ m pc ls st h c k x, ih m pc ls st h c k = some x → ih' m pc ls st h c k = some x) {m pc a n : Nat} {ls st : List Value} {h : ez_H} {c k : Nat} {x : Option Value × ez_H × Nat × Nat}
    (hz : ez_go mL ih m pc a n ls st h c k = some x) : ez_go mL ih' m pc a n ls st h c k = some x := by
  unfold ez_go at hz ⊢
  obtain ⟨h1, hz⟩ := ez_bif hz
  rw [h1]
  split at hz
  · rename_i r h' c1 k1 h2
    rw [hm _ _ _ _ _ _ _ _ h2]
    exact hm _ _ _ _ _ _ _ _ hz
  · cases hz
theorem ev_stp_mono {P : ez_P} {X : ez_X} {ty : Nat → Nat → FieldType} {nw : Nat → List Value} {mL : Nat → Nat} {ih ih' : ez_F} (hm : ∀ m pc ls st h c k x, ih m pc ls st h c k = some x → ih' m pc ls st h c k = some x) {m pc : Nat} {ls st : List Value} {h : ez_H} {c k : Nat} {x : Option Value × ez_H × Nat × Nat}
    (hz : ez_stp P X ty nw mL ih m pc ls st h c k = some x) : ez_stp P X ty nw mL ih' m pc ls st h c k = some x := by
  unfold ez_stp at hz ⊢
  cases hP : P m pc with
  | none => rw [hP] at hz; cases hz
  | some y =>
    obtain ⟨i, len, a, b, cut, w, d⟩ := y
    rw [hP] at hz
    dsimp only at hz ⊢
    split at hz
    · exact hm _ _ _ _ _ _ _ _ hz
    · cases hi : ez_icmp ‹_› st with
      | none => rw [hi] at hz; cases hz
      | some t =>
        obtain ⟨t, r⟩ := t
        rw [hi] at hz
        cases t with
        | true => simp only [cond_true] at hz; simp only [hi, cond_true]; exact hm _ _ _ _ _ _ _ _ hz
        | false => simp only [cond_false] at hz; simp only [hi, cond_false]; exact hm _ _ _ _ _ _ _ _ hz
    · cases hi : ez_ifc ‹_› st with
      | none => rw [hi] at hz; cases hz
      | some t =>
        obtain ⟨t, r⟩ := t
        rw [hi] at hz
        cases t with
        | true => simp only [cond_true] at hz; simp only [hi, cond_true]; exact hm _ _ _ _ _ _ _ _ hz
        | false => simp only [cond_false] at hz; simp only [hi, cond_false]; exact hm _ _ _ _ _ _ _ _ hz
    · split at hz
      · split at hz
        · exact hm _ _ _ _ _ _ _ _ hz
        · cases hz
      · cases hz
    · exact hz
    · exact hz
    · exact hz
    · exact hz
    · exact hm _ _ _ _ _ _ _ _ hz
    · split at hz
      · obtain ⟨h1, hz⟩ := ez_bifN hz
        simp only [h1, cond_false]
        split at hz
        · exact hm _ _ _ _ _ _ _ _ hz
        · exact hm _ _ _ _ _ _ _ _ hz
        · cases hz
      · cases hz
    · obtain ⟨h1, hz⟩ := ez_bif hz
      simp only [h1, cond_true]
      exact ev_go_mono hm hz
    · cases h1 : Nat.beq a 901 with
      | true =>
        rw [h1] at hz
        simp only [cond_true] at hz ⊢
        split at hz
        · obtain ⟨h2, hz⟩ := ez_bif hz
          simp only [h2, cond_true]
          exact hm _ _ _ _ _ _ _ _ hz
        · cases hz
      | false =>
        rw [h1] at hz
        simp only [cond_false] at hz ⊢
        cases h3 : Nat.beq a 902 with
        | true =>
          rw [h3] at hz
          simp only [cond_true] at hz ⊢
          split at hz
          · obtain ⟨h2, hz⟩ := ez_bif hz
            simp only [h2, cond_true]
            exact hm _ _ _ _ _ _ _ _ hz
          · cases hz
        | false =>
          rw [h3] at hz
          simp only [cond_false] at hz ⊢
          exact ev_go_mono hm hz
    · cases h1 : Nat.beq a 900 with
      | true =>
        rw [h1] at hz
        simp only [cond_true] at hz ⊢
        split at hz
        · obtain ⟨h2, hz⟩ := ez_bif hz
          simp only [h2, cond_true]
          exact hm _ _ _ _ _ _ _ _ hz
        · cases hz
      | false =>
        rw [h1] at hz
        simp only [cond_false] at hz ⊢
        obtain ⟨h2, hz⟩ := ez_bif hz
        simp only [h2, cond_true]
        exact ev_go_mono hm hz
    · cases hb : ez_b X ty i a b (ez_cut cut ls) st h with
      | none => rw [hb] at hz; cases hz
      | some z =>
        rw [hb] at hz
        exact hm _ _ _ _ _ _ _ _ hz
theorem ev_mono (X : ez_X) (F n : Nat) {m pc : Nat} {ls st : List Value} {h : ez_H} {c k : Nat} {x : Option Value × ez_H × Nat × Nat} (hz : ev_R X F m pc ls st h c k = some x) : ev_R X (F + n) m pc ls st h c k = some x := by
  have key : ∀ F m pc ls st h c k x, ev_R X F m pc ls st h c k = some x → ev_R X (F + 1) m pc ls st h c k = some x := by
    intro F
    induction F with
    | zero => intro m pc ls st h c k x hz; cases hz
    | succ F ih =>
      intro m pc ls st h c k x hz
      have e1 : ∀ F, ev_R X (F + 1) = ez_stp ez_P0 X ez_ty0 ez_nw0 (ez_mL ez_M0) (ev_R X F) := fun F => by rw [← ev_up1, fx_up_ev]
      rw [e1] at hz ⊢
      exact ev_stp_mono ih hz
  induction n with
  | zero => exact hz
  | succ n ih => exact key _ _ _ _ _ _ _ _ _ ih
theorem ev_chk_s {X : ez_X} {pc : Nat} (hz : ev_chk X pc = true) : ev_P1 X pc := by
  unfold ev_chk at hz
  split at hz
  · rename_i v h' c' k' he
    obtain ⟨h1, h2⟩ := Bool.and_eq_true_iff.mp hz
    obtain ⟨h2, h3⟩ := Bool.and_eq_true_iff.mp h2
    exact ⟨_, h', c', k', ⟨by rw [of_decide_eq_true h1], Nat.le_of_ble_eq_true h2, Nat.le_of_ble_eq_true h3⟩, 3000, fun n => ev_mono X 3000 n he⟩
  · cases hz
theorem ev_x1_is {xs : Nat → Int32} {a : Int} (h : xs 1 = Int32.ofInt a) : ev_x1 xs a = (4, xs) := by
  unfold ev_x1
  congr 1
  funext j
  cases hj : Nat.beq j 1 with
  | true => rw [Nat.eq_of_beq_eq_true hj]; exact h.symm
  | false => rfl
theorem ev_x2_is {xs : Nat → Int32} {a b : Int} (h : xs 1 = Int32.ofInt a) (h2 : xs 2 = Int32.ofInt b) : ev_x2 xs a b = (4, xs) := by
  unfold ev_x2
  congr 1
  funext j
  cases hj : Nat.beq j 1 with
  | true => rw [Nat.eq_of_beq_eq_true hj]; exact h.symm
  | false =>
    cases hk : Nat.beq j 2 with
    | true => rw [Nat.eq_of_beq_eq_true hk]; exact h2.symm
    | false => rfl
theorem ev_wi_ne {v a b : Int32} (h : ¬ ev_wi v a b = 0) : a.toInt ≤ v.toInt ∧ v.toInt ≤ b.toInt := by
  unfold ev_wi at h
  split at h
  · exact absurd rfl h
  · rename_i h1
    split at h
    · exact absurd rfl h
    · rename_i h2
      exact ⟨Int32.le_iff_toInt_le.mp (Int32.not_lt.mp h1), Int32.le_iff_toInt_le.mp (Int32.not_lt.mp h2)⟩
theorem ev_ofInt (v : Int32) : v = Int32.ofInt v.toInt := by rw [Int32.ofInt_toInt]
theorem ev_cmp_lt (x y : Int32) : lg_cmp x.toInt64 y.toInt64 < 0 ↔ x < y := by
  unfold lg_cmp
  have e1 : x.toInt64 > y.toInt64 ↔ y < x := Int32.toInt64_lt
  have h1 := @Int32.lt_iff_toInt_lt x y
  have h2 := @Int32.lt_iff_toInt_lt y x
  have e2 : x.toInt64 = y.toInt64 ↔ x.toInt = y.toInt := by
    rw [← Int64.toInt_inj, Int32.toInt_toInt64, Int32.toInt_toInt64]
  split
  · rename_i h
    have h3 := h2.mp (e1.mp h)
    exact ⟨fun z => absurd z (by decide), fun z => by have := h1.mp z; omega⟩
  · rename_i h
    split
    · rename_i h'
      have h3 := e2.mp h'
      exact ⟨fun z => absurd z (by decide), fun z => by have := h1.mp z; omega⟩
    · rename_i h'
      have a1 : ¬ y.toInt < x.toInt := fun z => h (e1.mpr (h2.mpr z))
      have a2 : ¬ x.toInt = y.toInt := fun z => h' (e2.mpr z)
      exact ⟨fun _ => h1.mpr (by omega), fun _ => by decide⟩
theorem ev_cmp_gt (x y : Int32) : 0 < lg_cmp x.toInt64 y.toInt64 ↔ y < x := by
  unfold lg_cmp
  have e1 : x.toInt64 > y.toInt64 ↔ y < x := Int32.toInt64_lt
  split
  · rename_i h
    exact ⟨fun _ => e1.mp h, fun _ => by decide⟩
  · rename_i h
    split
    · exact ⟨fun z => absurd z (by decide), fun z => absurd (e1.mpr z) h⟩
    · exact ⟨fun z => absurd z (by decide), fun z => absurd (e1.mpr z) h⟩
theorem ev_il_wi (v a b : Int32) : ev_il v.toInt64 a.toInt64 b.toInt64 = ev_wi v a b := by
  unfold ev_il ev_wi
  simp only [ev_cmp_lt, ev_cmp_gt]
