/-! Each call on new objects. -/
theorem ev_l1 {pc : Nat} {lo hi : Int} {l : List Int} (h : ∀ xs, (l.all fun a => ev_chk (ev_x1 xs a) pc) = true) (hl : ∀ v : Int, lo ≤ v → v ≤ hi → v ∈ l) (xs : Nat → Int32) (h1 : lo ≤ (xs 1).toInt) (h2 : (xs 1).toInt ≤ hi) : ev_P1 (4, xs) pc := by
  have h3 := List.all_eq_true.mp (h xs) _ (hl _ h1 h2)
  rw [ev_x1_is (ev_ofInt _)] at h3
  exact ev_chk_s h3
theorem ev_l2 {pc : Nat} {lo hi lo2 hi2 : Int} {l l2 : List Int} (h : ∀ xs, (l.all fun a => l2.all fun b => ev_chk (ev_x2 xs a b) pc) = true) (hl : ∀ v : Int, lo ≤ v → v ≤ hi → v ∈ l) (hl2 : ∀ v : Int, lo2 ≤ v → v ≤ hi2 → v ∈ l2) (xs : Nat → Int32)
    (h1 : lo ≤ (xs 1).toInt) (h2 : (xs 1).toInt ≤ hi) (h3 : lo2 ≤ (xs 2).toInt) (h4 : (xs 2).toInt ≤ hi2) : ev_P1 (4, xs) pc := by
  have h5 := List.all_eq_true.mp (List.all_eq_true.mp (h xs) _ (hl _ h1 h2)) _ (hl2 _ h3 h4)
  rw [ev_x2_is (ev_ofInt _) (ev_ofInt _)] at h5
  exact ev_chk_s h5
theorem ev_wr {v : Int32} {a b : Int32} {lo hi : Int} (h : ¬ ev_wi v a b = 0) (ha : a.toInt = lo) (hb : b.toInt = hi) : lo ≤ v.toInt ∧ v.toInt ≤ hi := by
  obtain ⟨h1, h2⟩ := ev_wi_ne h
  rw [ha] at h1
  rw [hb] at h2
  exact ⟨h1, h2⟩
theorem ev_lit {v : Int32} {n : Int} (h : v.toInt = n) : v = Int32.ofInt n := by rw [← h]; exact ev_ofInt v
theorem ep_layings (xs : Nat → Int32) : ev_P1 (4, xs) 399 := ev_chk_s (ek_layings xs)
theorem ep_back (xs : Nat → Int32) : ev_P1 (4, xs) 557 := ev_chk_s (ek_back xs)
theorem ep_left (xs : Nat → Int32) : ev_P1 (4, xs) 647 := ev_chk_s (ek_left xs)
theorem ep_stray (xs : Nat → Int32) : ev_P1 (4, xs) 888 := ev_chk_s (ek_stray xs)
theorem ep_blame (xs : Nat → Int32) : ev_P1 (4, xs) 901 := ev_chk_s (ek_blame xs)
theorem ep_blamed (xs : Nat → Int32) : ev_P1 (4, xs) 914 := ev_chk_s (ek_blamed xs)
theorem ep_fitting (xs : Nat → Int32) : ev_P1 (4, xs) 1016 := ev_chk_s (ek_fitting xs)
theorem ep_none (xs : Nat → Int32) : ev_P1 (4, xs) 1075 := ev_chk_s (ek_none xs)
theorem ep_spots (xs : Nat → Int32) : ev_P1 (4, xs) 342 := eo_spots_r xs
theorem ep_spot (xs : Nat → Int32) : ev_P1 (4, xs) 365 := eo_spot_r xs
theorem ep_laid (xs : Nat → Int32) : ev_P1 (4, xs) 412 := eo_laid_r xs
theorem ep_answer (xs : Nat → Int32) : ev_P1 (4, xs) 501 := eo_answer_r xs
theorem ep_lose (xs : Nat → Int32) : ev_P1 (4, xs) 534 := eo_lose_r xs
theorem ep_truth (xs : Nat → Int32) : ev_P1 (4, xs) 570 := eo_truth_r xs
theorem ep_lies (xs : Nat → Int32) : ev_P1 (4, xs) 603 := eo_lies_r xs
theorem ep_grid (xs : Nat → Int32) : ev_P1 (4, xs) 184 := eo_grid_a xs
theorem ep_ship (xs : Nat → Int32) : ev_P1 (4, xs) 243 := eo_ship_a xs
theorem ep_call (xs : Nat → Int32) : ev_P1 (4, xs) 445 := by
  by_cases ha : ev_wi (xs 1) 0 24 = 0
  · exact eo_call_r xs ha
  · obtain ⟨h1, h2⟩ := ev_wr (lo := 0) (hi := 24) ha (by decide) (by decide)
    exact ev_l1 (lo := 0) (hi := 24) ek_call (by intro v h1 h2; simp; omega) xs h1 h2
theorem ep_there (xs : Nat → Int32) : ev_P1 (4, xs) 683 := by
  by_cases ha : ev_wi (xs 1) 0 24 = 0
  · exact eo_there_r xs ha
  · obtain ⟨h1, h2⟩ := ev_wr (lo := 0) (hi := 24) ha (by decide) (by decide)
    exact ev_l1 (lo := 0) (hi := 24) ek_there (by intro v h1 h2; simp; omega) xs h1 h2
theorem ep_sure (xs : Nat → Int32) : ev_P1 (4, xs) 706 := by
  by_cases ha : ev_wi (xs 1) 0 1 = 0
  · exact eo_sure_r xs ha
  · obtain ⟨h1, h2⟩ := ev_wr (lo := 0) (hi := 1) ha (by decide) (by decide)
    exact ev_l1 (lo := 0) (hi := 1) ek_sure (by intro v h1 h2; simp; omega) xs h1 h2
theorem ep_best (xs : Nat → Int32) : ev_P1 (4, xs) 763 := by
  by_cases ha : ev_wi (xs 1) 0 1 = 0
  · exact eo_best_r xs ha
  · obtain ⟨h1, h2⟩ := ev_wr (lo := 0) (hi := 1) ha (by decide) (by decide)
    exact ev_l1 (lo := 0) (hi := 1) ek_best (by intro v h1 h2; simp; omega) xs h1 h2
theorem ep_hardest (xs : Nat → Int32) : ev_P1 (4, xs) 865 := by
  by_cases ha : ev_wi (xs 1) 0 2 = 0
  · exact eo_hardest_r xs ha
  · obtain ⟨h1, h2⟩ := ev_wr (lo := 0) (hi := 2) ha (by decide) (by decide)
    exact ev_l1 (lo := 0) (hi := 2) ek_hardest (by intro v h1 h2; simp; omega) xs h1 h2
theorem ep_switched (xs : Nat → Int32) : ev_P1 (4, xs) 927 := by
  by_cases ha : ev_wi (xs 1) 0 1 = 0
  · exact eo_switched_r xs ha
  · obtain ⟨h1, h2⟩ := ev_wr (lo := 0) (hi := 1) ha (by decide) (by decide)
    exact ev_l1 (lo := 0) (hi := 1) ek_switched (by intro v h1 h2; simp; omega) xs h1 h2
theorem ep_many (xs : Nat → Int32) : ev_P1 (4, xs) 1052 := by
  by_cases ha : ev_wi (xs 1) 0 4 = 0
  · exact eo_many_r xs ha
  · obtain ⟨h1, h2⟩ := ev_wr (lo := 0) (hi := 4) ha (by decide) (by decide)
    exact ev_l1 (lo := 0) (hi := 4) ek_many (by intro v h1 h2; simp; omega) xs h1 h2
theorem ep_bestSalvo (xs : Nat → Int32) : ev_P1 (4, xs) 786 := by
  by_cases ha : ev_wi (xs 1) 0 2 = 0
  · exact eo_bestSalvo_r xs ha
  · obtain ⟨h1, h2⟩ := ev_wr (lo := 0) (hi := 2) ha (by decide) (by decide)
    rcases (show (xs 1).toInt = 0 ∨ (xs 1).toInt = 1 ∨ (xs 1).toInt = 2 by omega) with h | h | h
    · have h3 := eo_bestSalvo_0 xs
      rwa [ev_x1_is (ev_lit h)] at h3
    · have h3 := eo_bestSalvo_1 xs
      rwa [ev_x1_is (ev_lit h)] at h3
    · have h3 := eo_bestSalvo_2 xs
      rwa [ev_x1_is (ev_lit h)] at h3
theorem ep_drift (xs : Nat → Int32) : ev_P1 (4, xs) 309 := by
  by_cases ha : ev_wi (xs 1) (-1) 1 = 0
  · exact eo_drift_r xs ha
  · by_cases hb : ev_wi (xs 2) (-1) 1 = 0
    · exact eo_drift_s xs ha hb
    · obtain ⟨h1, h2⟩ := ev_wr (lo := (-1)) (hi := 1) ha (by decide) (by decide)
      obtain ⟨h3, h4⟩ := ev_wr (lo := (-1)) (hi := 1) hb (by decide) (by decide)
      exact ev_l2 (lo := (-1)) (hi := 1) (lo2 := (-1)) (hi2 := 1) ek_drift (by intro v h1 h2; simp; omega) (by intro v h1 h2; simp; omega) xs h1 h2 h3 h4
theorem ep_count (xs : Nat → Int32) : ev_P1 (4, xs) 950 := by
  by_cases ha : ev_wi (xs 1) 0 9 = 0
  · exact eo_count_r xs ha
  · by_cases hb : ev_wi (xs 2) 0 7 = 0
    · exact eo_count_s xs ha hb
    · obtain ⟨h1, h2⟩ := ev_wr (lo := 0) (hi := 9) ha (by decide) (by decide)
      obtain ⟨h3, h4⟩ := ev_wr (lo := 0) (hi := 7) hb (by decide) (by decide)
      exact ev_l2 (lo := 0) (hi := 9) (lo2 := 0) (hi2 := 7) ek_count (by intro v h1 h2; simp; omega) (by intro v h1 h2; simp; omega) xs h1 h2 h3 h4
theorem ep_part (xs : Nat → Int32) : ev_P1 (4, xs) 730 := by
  by_cases ha : ev_wi (xs 1) 0 24 = 0
  · exact eo_part_r xs ha
  · by_cases hb : ev_wi (xs 2) 0 2 = 0
    · exact eo_part_s xs ha hb
    · obtain ⟨h1, h2⟩ := ev_wr (lo := 0) (hi := 24) ha (by decide) (by decide)
      obtain ⟨h3, h4⟩ := ev_wr (lo := 0) (hi := 2) hb (by decide) (by decide)
      by_cases c0 : (xs 1).toInt ≤ 4
      · exact ev_l2 (lo := 0) (hi := 4) (lo2 := 0) (hi2 := 2) ek_part0 (by intro v h1 h2; simp; omega) (by intro v h1 h2; simp; omega) xs (by omega) (by omega) h3 h4
      by_cases c5 : (xs 1).toInt ≤ 9
      · exact ev_l2 (lo := 5) (hi := 9) (lo2 := 0) (hi2 := 2) ek_part5 (by intro v h1 h2; simp; omega) (by intro v h1 h2; simp; omega) xs (by omega) (by omega) h3 h4
      by_cases c10 : (xs 1).toInt ≤ 14
      · exact ev_l2 (lo := 10) (hi := 14) (lo2 := 0) (hi2 := 2) ek_part10 (by intro v h1 h2; simp; omega) (by intro v h1 h2; simp; omega) xs (by omega) (by omega) h3 h4
      by_cases c15 : (xs 1).toInt ≤ 19
      · exact ev_l2 (lo := 15) (hi := 19) (lo2 := 0) (hi2 := 2) ek_part15 (by intro v h1 h2; simp; omega) (by intro v h1 h2; simp; omega) xs (by omega) (by omega) h3 h4
      by_cases c20 : (xs 1).toInt ≤ 24
      · exact ev_l2 (lo := 20) (hi := 24) (lo2 := 0) (hi2 := 2) ek_part20 (by intro v h1 h2; simp; omega) (by intro v h1 h2; simp; omega) xs (by omega) (by omega) h3 h4
      omega
theorem ep_salvo (xs : Nat → Int32) : ev_P1 (4, xs) 468 := by
  by_cases ha : ev_wi (xs 1) 0 24 = 0
  · exact eo_salvo_r xs ha
  · by_cases hb : ev_wi (xs 2) 0 24 = 0
    · exact eo_salvo_s xs ha hb
    · obtain ⟨h1, h2⟩ := ev_wr (lo := 0) (hi := 24) ha (by decide) (by decide)
      obtain ⟨h3, h4⟩ := ev_wr (lo := 0) (hi := 24) hb (by decide) (by decide)
      by_cases c0 : (xs 1).toInt ≤ 4
      · exact ev_l2 (lo := 0) (hi := 4) (lo2 := 0) (hi2 := 24) ek_salvo0 (by intro v h1 h2; simp; omega) (by intro v h1 h2; simp; omega) xs (by omega) (by omega) h3 h4
      by_cases c5 : (xs 1).toInt ≤ 9
      · exact ev_l2 (lo := 5) (hi := 9) (lo2 := 0) (hi2 := 24) ek_salvo5 (by intro v h1 h2; simp; omega) (by intro v h1 h2; simp; omega) xs (by omega) (by omega) h3 h4
      by_cases c10 : (xs 1).toInt ≤ 14
      · exact ev_l2 (lo := 10) (hi := 14) (lo2 := 0) (hi2 := 24) ek_salvo10 (by intro v h1 h2; simp; omega) (by intro v h1 h2; simp; omega) xs (by omega) (by omega) h3 h4
      by_cases c15 : (xs 1).toInt ≤ 19
      · exact ev_l2 (lo := 15) (hi := 19) (lo2 := 0) (hi2 := 24) ek_salvo15 (by intro v h1 h2; simp; omega) (by intro v h1 h2; simp; omega) xs (by omega) (by omega) h3 h4
      by_cases c20 : (xs 1).toInt ≤ 24
      · exact ev_l2 (lo := 20) (hi := 24) (lo2 := 0) (hi2 := 24) ek_salvo20 (by intro v h1 h2; simp; omega) (by intro v h1 h2; simp; omega) xs (by omega) (by omega) h3 h4
      omega
theorem ep_set (xs : Nat → Int32) : ev_P1 (4, xs) 276 := by
  by_cases ha : ev_wi (xs 1) 0 2 = 0
  · exact eo_set_r xs ha
  · obtain ⟨h1, h2⟩ := ev_wr (lo := 0) (hi := 2) ha (by decide) (by decide)
    have x0 : (xs 1).toInt = 0 → ev_x1 xs 0 = (4, xs) := fun h => ev_x1_is (ev_lit h)
    have x1 : (xs 1).toInt = 1 → ev_x1 xs 1 = (4, xs) := fun h => ev_x1_is (ev_lit h)
    have x2 : (xs 1).toInt = 2 → ev_x1 xs 2 = (4, xs) := fun h => ev_x1_is (ev_lit h)
    by_cases c1 : (xs 1).toInt = 1
    · by_cases hb : ev_wi (xs 2) 0 1 = 0
      · rw [← x1 c1]; exact eo_set_s1 xs hb
      · obtain ⟨h3, h4⟩ := ev_wr (lo := 0) (hi := 1) hb (by decide) (by decide)
        exact ev_l2 (lo := 1) (hi := 1) (lo2 := 0) (hi2 := 1) ek_set1 (by intro v h1 h2; simp; omega) (by intro v h1 h2; simp; omega) xs (by omega) (by omega) h3 h4
    · by_cases hb : ev_wi (xs 2) 0 2 = 0
      · by_cases c0 : (xs 1).toInt = 0
        · rw [← x0 c0]; exact eo_set_s0 xs hb
        · rw [← x2 (by omega)]; exact eo_set_s2 xs hb
      · obtain ⟨h3, h4⟩ := ev_wr (lo := 0) (hi := 2) hb (by decide) (by decide)
        have h5 := List.all_eq_true.mp (List.all_eq_true.mp (ek_set0 xs) (xs 1).toInt (by simp; omega)) (xs 2).toInt (by simp; omega)
        rw [ev_x2_is (ev_ofInt _) (ev_ofInt _)] at h5
        exact ev_chk_s h5
theorem ev_z0 {v : Int32} (h : ¬ ev_wi v 0 0 = 0) : v.toInt = 0 := by
  obtain ⟨h1, h2⟩ := ev_wr (lo := 0) (hi := 0) h (by decide) (by decide)
  omega
theorem ep_which (xs : Nat → Int32) : ev_P1 (4, xs) 660 := by
  by_cases ha : xs 1 < 0
  · exact eo_which_r xs ha
  · by_cases hb : 0 < xs 1
    · exact eo_which_n xs hb
    · have e0 : (0 : Int32).toInt = 0 := by decide
      have h1 : ¬ (xs 1).toInt < (0 : Int32).toInt := fun z => ha (Int32.lt_iff_toInt_lt.mpr z)
      have h2 : ¬ (0 : Int32).toInt < (xs 1).toInt := fun z => hb (Int32.lt_iff_toInt_lt.mpr z)
      exact ev_l1 (lo := 0) (hi := 0) ek_which (by intro v h1 h2; simp; omega) xs (by omega) (by omega)
theorem ep_need (xs : Nat → Int32) : ev_P1 (4, xs) 809 := by
  by_cases ha : ev_wi (xs 1) 0 0 = 0
  · exact eo_need_n xs ha
  · have h := ev_z0 ha
    exact ev_l1 (lo := 0) (hi := 0) ek_need (by intro v h1 h2; simp; omega) xs (by omega) (by omega)
theorem ep_calls (xs : Nat → Int32) : ev_P1 (4, xs) 832 := by
  by_cases hb : xs 2 < 0
  · exact eo_calls_r xs hb
  · by_cases ha : ev_wi (xs 1) 0 0 = 0
    · exact eo_calls_n xs hb ha
    · have h := eo_calls_o xs hb
      rwa [ev_x1_is (ev_lit (ev_z0 ha))] at h
theorem ep_rim (xs : Nat → Int32) : ev_P1 (4, xs) 983 := by
  by_cases hb : ev_wi (xs 2) 0 9 = 0
  · exact eo_rim_r xs hb
  · by_cases ha : ev_wi (xs 1) 0 0 = 0
    · exact eo_rim_n xs ha hb
    · have h := ev_z0 ha
      obtain ⟨h3, h4⟩ := ev_wr (lo := 0) (hi := 9) hb (by decide) (by decide)
      exact ev_l2 (lo := 0) (hi := 0) (lo2 := 0) (hi2 := 9) ek_rim (by intro v h1 h2; simp; omega) (by intro v h1 h2; simp; omega) xs (by omega) (by omega) h3 h4
theorem ep_clues (xs : Nat → Int32) : ev_P1 (4, xs) 1029 := by
  by_cases ha : ev_wi (xs 1) 0 0 = 0
  · exact eo_clues_n xs ha
  · have h := eo_clues_o xs
    rwa [ev_x1_is (ev_lit (ev_z0 ha))] at h
