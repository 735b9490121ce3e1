/-! A shape that is moved depends on the move's remainders alone, where it has a place. -/
def mv_ds : List Int := [-4, -3, -2, -1, 0, 1, 2, 3, 4, 5]
def mv_as : List Int := [0, 1, 2, 3]
theorem mv_tab : (([2, 3, 4, 5, 6] : List Int).all fun W => mv_ds.all fun d => mv_ds.all fun e => mv_as.all fun a => (!decide ((d - e) % W = 0)) || decide (mv_c (Int32.ofInt W) 1 (Int32.ofInt a + Int32.ofInt d) = mv_c (Int32.ofInt W) 1 (Int32.ofInt a + Int32.ofInt e))) = true := by decide +kernel
theorem mv_tab_s {W d e a : Int32} (hW : 2 ≤ W.toInt ∧ W.toInt ≤ 6) (hd : -4 ≤ d.toInt ∧ d.toInt ≤ 5) (he : -4 ≤ e.toInt ∧ e.toInt ≤ 5) (ha : 0 ≤ a.toInt ∧ a.toInt ≤ 3) (h : (d.toInt - e.toInt) % W.toInt = 0) : mv_c W 1 (a + d) = mv_c W 1 (a + e) := by
  have h1 := List.all_eq_true.mp mv_tab W.toInt (by simp; omega)
  have h2 := List.all_eq_true.mp h1 d.toInt (by simp [mv_ds]; omega)
  have h3 := List.all_eq_true.mp h2 e.toInt (by simp [mv_ds]; omega)
  have h4 := List.all_eq_true.mp h3 a.toInt (by simp [mv_as]; omega)
  rw [← ev_ofInt W, ← ev_ofInt d, ← ev_ofInt e, ← ev_ofInt a] at h4
  rcases Bool.or_eq_true_iff.mp h4 with h5 | h5
  · rw [decide_eq_true h] at h5
    cases h5
  · exact of_decide_eq_true h5
theorem mv_k4 : ((List.range 16).all fun j => decide (0 ≤ (Int32.ofNat j - Int32.ofNat j / 4 * 4).toInt) && (decide ((Int32.ofNat j - Int32.ofNat j / 4 * 4).toInt ≤ 3) && (decide (0 ≤ (Int32.ofNat j / 4).toInt) && decide ((Int32.ofNat j / 4).toInt ≤ 3)))) = true := by decide +kernel
theorem mv_k4_s {k : Int32} (h0 : 0 ≤ k.toInt) (h1 : k.toInt < 16) : (0 ≤ (k - k / 4 * 4).toInt ∧ (k - k / 4 * 4).toInt ≤ 3) ∧ (0 ≤ (k / 4).toInt ∧ (k / 4).toInt ≤ 3) := by
  have h2 := List.all_eq_true.mp mv_k4 k.toInt.toNat (List.mem_range.mpr (by omega))
  have e : Int32.ofNat k.toInt.toNat = k := cx_i32_eq (by rw [Int32.toInt_ofNat_of_lt (by omega)]; omega)
  rw [e] at h2
  simp only [Bool.and_eq_true, decide_eq_true_eq] at h2
  exact ⟨⟨h2.1, h2.2.1⟩, h2.2.2.1, h2.2.2.2⟩
theorem mv_k1 {k : Int32} (h0 : 0 ≤ k.toInt) (h1 : k.toInt < 16) : (k + 1).toInt = k.toInt + 1 := by
  rw [Int32.toInt_add, show (1 : Int32).toInt = 1 from by decide, cx_bm32]
  simp only [cx_i32]
  omega
section
variable {W H b dx dy ex ey : Int32}
theorem mv_wrap (hW : 2 ≤ W.toInt ∧ W.toInt ≤ 6) (hH : 2 ≤ H.toInt ∧ H.toInt ≤ 6) (h1 : -4 ≤ dx.toInt ∧ dx.toInt ≤ 5) (h2 : -4 ≤ dy.toInt ∧ dy.toInt ≤ 5) (h3 : -4 ≤ ex.toInt ∧ ex.toInt ≤ 5) (h4 : -4 ≤ ey.toInt ∧ ey.toInt ≤ 5)
    (hx : (dx.toInt - ex.toInt) % W.toInt = 0) (hy : (dy.toInt - ey.toInt) % H.toInt = 0) : ∀ (r : Nat) (k : Int32) (s : Int64), 0 ≤ k.toInt → k.toInt + (r : Int) ≤ 16 → mv_F W H 1 b dx dy r k s = mv_F W H 1 b ex ey r k s := by
  intro r
  induction r with
  | zero => intro k s _ _; rfl
  | succ r ih =>
    intro k s h0 hk
    have hk1 := mv_k1 h0 (by omega)
    obtain ⟨ka, kb⟩ := mv_k4_s h0 (by omega)
    unfold mv_F
    rw [mv_tab_s hW h1 h3 ka hx, mv_tab_s hH h2 h4 kb hy]
    split
    · exact ih (k + 1) s (by omega) (by omega)
    split
    · rfl
    split
    · rfl
    split
    · exact ih (k + 1) _ (by omega) (by omega)
    · rfl
theorem mv_il {v w : Int32} (h : ¬ ev_il v.toInt64 0 (w - 1).toInt64 = 0) : 0 ≤ v.toInt ∧ v.toInt ≤ (w - 1).toInt := by
  have e : (0 : Int64) = (0 : Int32).toInt64 := by decide
  rw [e, ev_il_wi] at h
  have h2 := ev_wi_ne h
  have e0 : (0 : Int32).toInt = 0 := by decide
  rw [e0] at h2
  exact h2
theorem mv_w1 (hW : 2 ≤ W.toInt ∧ W.toInt ≤ 6) : (W - 1).toInt = W.toInt - 1 := by
  rw [Int32.toInt_sub, show (1 : Int32).toInt = 1 from by decide, cx_bm32]
  simp only [cx_i32]
  omega
theorem mv_ad {a d : Int32} (ha : 0 ≤ a.toInt ∧ a.toInt ≤ 3) (hd : -4 ≤ d.toInt ∧ d.toInt ≤ 5) : (a + d).toInt = a.toInt + d.toInt := by
  rw [Int32.toInt_add, cx_bm32]
  simp only [cx_i32]
  omega
/-- where a shape has a place without wrapping, each of its cells lies on the paper -/
theorem mv_flat (hW : 2 ≤ W.toInt ∧ W.toInt ≤ 6) (hH : 2 ≤ H.toInt ∧ H.toInt ≤ 6) (h1 : -4 ≤ dx.toInt ∧ dx.toInt ≤ 5) (h2 : -4 ≤ dy.toInt ∧ dy.toInt ≤ 5) : ∀ (r : Nat) (k : Int32) (s : Int64), 0 ≤ k.toInt → k.toInt + (r : Int) ≤ 16 → ¬ mv_F W H 0 b dx dy r k s = 0 →
    ∀ q : Int32, k.toInt ≤ q.toInt → q.toInt < k.toInt + r → ¬ ev_has b.toInt64 q = 0 → (0 ≤ (q - q / 4 * 4).toInt + dx.toInt ∧ (q - q / 4 * 4).toInt + dx.toInt ≤ W.toInt - 1) ∧ (0 ≤ (q / 4).toInt + dy.toInt ∧ (q / 4).toInt + dy.toInt ≤ H.toInt - 1) := by
  intro r
  induction r with
  | zero => intro k s _ _ _ q hq1 hq2; omega
  | succ r ih =>
    intro k s h0 hk hne q hq1 hq2 hb
    have hk1 := mv_k1 h0 (by omega)
    obtain ⟨ka, kb⟩ := mv_k4_s h0 (by omega)
    unfold mv_F at hne
    by_cases hqk : q.toInt = k.toInt
    · obtain rfl := cx_i32_eq hqk
      rw [if_neg hb] at hne
      split at hne
      · exact absurd rfl hne
      rename_i c1
      split at hne
      · exact absurd rfl hne
      rename_i c2
      have d1 := mv_il c1
      have d2 := mv_il c2
      rw [show mv_c W 0 (q - q / 4 * 4 + dx) = q - q / 4 * 4 + dx from if_pos rfl, mv_w1 hW, mv_ad ka h1] at d1
      rw [show mv_c H 0 (q / 4 + dy) = q / 4 + dy from if_pos rfl, mv_w1 hH, mv_ad kb h2] at d2
      exact ⟨d1, d2⟩
    · split at hne
      · exact ih (k + 1) s (by omega) (by omega) hne q (by omega) (by omega) hb
      split at hne
      · exact absurd rfl hne
      split at hne
      · exact absurd rfl hne
      split at hne
      · exact ih (k + 1) _ (by omega) (by omega) hne q (by omega) (by omega) hb
      · exact absurd rfl hne
theorem mv_none {wr : Int32} : ∀ (r : Nat) (k : Int32) (s : Int64), 0 ≤ k.toInt → k.toInt + (r : Int) ≤ 16 → (∀ q : Int32, k.toInt ≤ q.toInt → q.toInt < k.toInt + r → ev_has b.toInt64 q = 0) → mv_F W H wr b dx dy r k s = s := by
  intro r
  induction r with
  | zero => intro k s _ _ _; rfl
  | succ r ih =>
    intro k s h0 hk hq
    have hk1 := mv_k1 h0 (by omega)
    unfold mv_F
    rw [if_pos (hq k (by omega) (by omega))]
    exact ih (k + 1) s (by omega) (by omega) fun q h1 h2 => hq q (by omega) (by omega)
theorem mv_rem {a d e w : Int} (hw : 2 ≤ w ∧ w ≤ 6) (h : (d - e) % w = 0) (h1 : 0 ≤ a + d) (h2 : a + d ≤ w - 1) (h3 : 0 ≤ a + e) (h4 : a + e ≤ w - 1) : d = e := by
  rcases (show w = 2 ∨ w = 3 ∨ w = 4 ∨ w = 5 ∨ w = 6 by omega) with rfl | rfl | rfl | rfl | rfl <;> omega
theorem mv_same {wr : Int32} (hwr : wr = 0 ∨ wr = 1) (hW : 2 ≤ W.toInt ∧ W.toInt ≤ 6) (hH : 2 ≤ H.toInt ∧ H.toInt ≤ 6) (h1 : -4 ≤ dx.toInt ∧ dx.toInt ≤ 5) (h2 : -4 ≤ dy.toInt ∧ dy.toInt ≤ 5) (h3 : -4 ≤ ex.toInt ∧ ex.toInt ≤ 5) (h4 : -4 ≤ ey.toInt ∧ ey.toInt ≤ 5)
    (hx : (dx.toInt - ex.toInt) % W.toInt = 0) (hy : (dy.toInt - ey.toInt) % H.toInt = 0) (n1 : ¬ mv_F W H wr b dx dy 16 0 0 = 0) (n2 : ¬ mv_F W H wr b ex ey 16 0 0 = 0) : mv_F W H wr b dx dy 16 0 0 = mv_F W H wr b ex ey 16 0 0 := by
  have e0 : (0 : Int32).toInt = 0 := by decide
  rcases hwr with rfl | rfl
  · have hex : ∃ q : Int32, (0 : Int32).toInt ≤ q.toInt ∧ q.toInt < (0 : Int32).toInt + ((16 : Nat) : Int) ∧ ¬ ev_has b.toInt64 q = 0 := by
      apply Classical.byContradiction
      intro hn
      exact n1 (mv_none 16 0 0 (by decide) (by decide) fun q q1 q2 => Classical.byContradiction fun q3 => hn ⟨q, q1, q2, q3⟩)
    obtain ⟨q, q1, q2, q3⟩ := hex
    obtain ⟨a1, a2⟩ := mv_flat hW hH h1 h2 16 0 0 (by decide) (by decide) n1 q q1 q2 q3
    obtain ⟨b1, b2⟩ := mv_flat hW hH h3 h4 16 0 0 (by decide) (by decide) n2 q q1 q2 q3
    obtain rfl := cx_i32_eq (mv_rem hW hx a1.1 a1.2 b1.1 b1.2)
    obtain rfl := cx_i32_eq (mv_rem hH hy a2.1 a2.2 b2.1 b2.2)
    rfl
  · exact mv_wrap hW hH h1 h2 h3 h4 hx hy 16 0 0 (by decide) (by decide)
end
