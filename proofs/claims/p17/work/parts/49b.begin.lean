/-! New objects keep to the bounds; the law from its start. -/
theorem lw_c1 (f : Nat → Int32) (hf : ∀ k, f k = if k = 3 then 5 else if k = 4 then 5 else if k = 6 then 25 else 0) (k : Nat) : (cx_B0 1 k).1 ≤ (f k).toInt ∧ (f k).toInt ≤ (cx_B0 1 k).2 := by
  rw [show cx_B0 1 k = (bif Nat.beq k 1 then (-1, 1) else bif Nat.beq k 2 then (-1, 1) else bif Nat.beq k 3 then (2, 6) else bif Nat.beq k 4 then (2, 6) else bif Nat.beq k 5 then (0, 1) else bif Nat.beq k 6 then (4, 36) else cx_i32) from rfl, hf k]
  by_cases h1 : k = 1
  · subst h1; exact ⟨by decide, by decide⟩
  by_cases h2 : k = 2
  · subst h2; exact ⟨by decide, by decide⟩
  by_cases h3 : k = 3
  · subst h3; exact ⟨by decide, by decide⟩
  by_cases h4 : k = 4
  · subst h4; exact ⟨by decide, by decide⟩
  by_cases h5 : k = 5
  · subst h5; exact ⟨by decide, by decide⟩
  by_cases h6 : k = 6
  · subst h6; exact ⟨by decide, by decide⟩
  rw [if_neg h3, if_neg h4, if_neg h6, cx_beqf h1, cx_beqf h2, cx_beqf h3, cx_beqf h4, cx_beqf h5, cx_beqf h6]
  exact ⟨by decide, by decide⟩
theorem lw_c35 (f : Nat → Int32) (hf : ∀ k, f k = if k = 0 then 5 else if k = 1 then 5 else if k = 7 then 1 else 0) (k : Nat) : (cx_B0 35 k).1 ≤ (f k).toInt ∧ (f k).toInt ≤ (cx_B0 35 k).2 := by
  rw [show cx_B0 35 k = (bif Nat.beq k 0 then (2, 6) else bif Nat.beq k 1 then (2, 6) else bif Nat.beq k 2 then (0, 1) else bif Nat.beq k 3 then (0, 3) else bif Nat.beq k 6 then (0, 2) else bif Nat.beq k 7 then (0, 1) else bif Nat.beq k 8 then (0, 2) else bif Nat.beq k 9 then (-1, 1) else bif Nat.beq k 10 then (-1, 1) else bif Nat.beq k 14 then (0, 10000) else bif Nat.beq k 16 then (0, 30) else bif Nat.beq k 24 then (0, 10000) else cx_i32) from rfl, hf k]
  by_cases h0 : k = 0
  · subst h0; exact ⟨by decide, by decide⟩
  by_cases h1 : k = 1
  · subst h1; exact ⟨by decide, by decide⟩
  by_cases h2 : k = 2
  · subst h2; exact ⟨by decide, by decide⟩
  by_cases h3 : k = 3
  · subst h3; exact ⟨by decide, by decide⟩
  by_cases h6 : k = 6
  · subst h6; exact ⟨by decide, by decide⟩
  by_cases h7 : k = 7
  · subst h7; exact ⟨by decide, by decide⟩
  by_cases h8 : k = 8
  · subst h8; exact ⟨by decide, by decide⟩
  by_cases h9 : k = 9
  · subst h9; exact ⟨by decide, by decide⟩
  by_cases h10 : k = 10
  · subst h10; exact ⟨by decide, by decide⟩
  by_cases h14 : k = 14
  · subst h14; exact ⟨by decide, by decide⟩
  by_cases h16 : k = 16
  · subst h16; exact ⟨by decide, by decide⟩
  by_cases h24 : k = 24
  · subst h24; exact ⟨by decide, by decide⟩
  rw [if_neg h0, if_neg h1, if_neg h7, cx_beqf h0, cx_beqf h1, cx_beqf h2, cx_beqf h3, cx_beqf h6, cx_beqf h7, cx_beqf h8, cx_beqf h9, cx_beqf h10, cx_beqf h14, cx_beqf h16, cx_beqf h24]
  exact ⟨by decide, by decide⟩
theorem lw_c22 (f : Nat → Int32) (hf : ∀ k, f k = if k = 11 then (-1) else 0) (k : Nat) : (cx_B0 22 k).1 ≤ (f k).toInt ∧ (f k).toInt ≤ (cx_B0 22 k).2 := by
  rw [show cx_B0 22 k = (bif Nat.beq k 8 then (0, 1) else cx_i32) from rfl, hf k]
  by_cases h8 : k = 8
  · subst h8; exact ⟨by decide, by decide⟩
  by_cases h11 : k = 11
  · subst h11; exact ⟨by decide, by decide⟩
  rw [if_neg h11, cx_beqf h8]
  exact ⟨by decide, by decide⟩
abbrev lw_z (p : cx_Iv) : Prop := p.1 ≤ 0 ∧ 0 ≤ p.2
theorem lw_zc {b : Bool} {p q : cx_Iv} (h1 : lw_z p) (h2 : lw_z q) : lw_z (bif b then p else q) := by
  cases b
  · exact h2
  · exact h1
theorem lw_zero {a k : Nat} (h1 : a ≠ 1) (h35 : a ≠ 35) : lw_z (cx_B0 a k) := by
  unfold cx_B0
  rw [cx_beqf h1, cx_beqf h35]
  simp only [cond_false]
  repeat' (first | exact (show lw_z _ from ⟨by decide, by decide⟩) | apply lw_zc)
theorem lw_hB : cx_hB cx_B0 ev_I0 := by
  have e0 : (0 : Int32).toInt = 0 := by decide
  intro a k
  by_cases h61 : a = 61
  · subst h61; exact cx_full32 _
  by_cases h35 : a = 35
  · subst h35
    refine lw_c35 _ (fun k => ?_) k
    unfold ev_I0
    rw [cx_sI_n _ _ (by decide), cx_sI_s]
    unfold upd
    by_cases z7 : k = 7
    · subst z7; rfl
    by_cases z1 : k = 1
    · subst z1; rfl
    by_cases z0 : k = 0
    · subst z0; rfl
    rw [if_neg z7, if_neg z1, if_neg z0, if_neg z0, if_neg z1, if_neg z7]
  by_cases h33 : a = 33
  · subst h33; exact cx_full32 _
  by_cases h22 : a = 22
  · subst h22
    refine lw_c22 _ (fun k => ?_) k
    unfold ev_I0
    rw [cx_sI_n _ _ (by decide), cx_sI_n _ _ (by decide), cx_sI_n _ _ (by decide), cx_sI_s]
    rfl
  by_cases h2 : a = 2
  · subst h2
    rw [show cx_B0 2 k = (0, 2) from rfl]
    unfold ev_I0
    rw [cx_sI_n _ _ (by decide), cx_sI_n _ _ (by decide), cx_sI_n _ _ (by decide), cx_sI_n _ _ (by decide), cx_sI_s]
    unfold upd
    split
    · exact ⟨by decide, by decide⟩
    · exact (show (0 : Int) ≤ (0 : Int32).toInt ∧ (0 : Int32).toInt ≤ 2 from ⟨by decide, by decide⟩)
  by_cases h1 : a = 1
  · subst h1
    refine lw_c1 _ (fun k => ?_) k
    unfold ev_I0
    rw [cx_sI_n _ _ (by decide), cx_sI_n _ _ (by decide), cx_sI_n _ _ (by decide), cx_sI_n _ _ (by decide), cx_sI_n _ _ (by decide), cx_sI_s]
    unfold upd
    by_cases z6 : k = 6
    · subst z6; rfl
    by_cases z4 : k = 4
    · subst z4; rfl
    by_cases z3 : k = 3
    · subst z3; rfl
    rw [if_neg z6, if_neg z4, if_neg z3, if_neg z3, if_neg z4, if_neg z6]
  · have hz : ev_I0 a k = 0 := by
      unfold ev_I0
      rw [cx_sI_n _ _ h61, cx_sI_n _ _ h35, cx_sI_n _ _ h33, cx_sI_n _ _ h22, cx_sI_n _ _ h2, cx_sI_n _ _ h1]
    rw [hz, e0]
    exact lw_zero h1 h35
theorem lw_rows : cx_rows ev_R0 [] :=
  ⟨fun x hx => (by cases hx), 0, 0, 0, Or.inl ⟨by decide, rfl, [], rfl⟩, Or.inl ⟨by decide, rfl, [], rfl⟩, Or.inl ⟨by decide, rfl, [], rfl⟩, Or.inl ⟨by decide, rfl, [], rfl⟩, Or.inl ⟨by decide, rfl, [], rfl⟩, by decide, by decide, by decide, by decide⟩
theorem lw_k0 : kx ev_I0 = km ev_I0 := by
  have h : (5 : Int32) * 5 = 25 := by decide
  have e : ev_I0 35 0 * ev_I0 35 1 = 25 := h
  unfold km
  rw [e]
  rfl
theorem lw_r0 : rl ev_I0 ev_J0 := ⟨lw_k0, fi_none rfl⟩
theorem el_run (L : Nat) (xs : Nat → Int32) (hL : L ≤ 2048) : ev_W (L, xs) 241 0 [ez_scr] [] [] 0 0 (fun r _ c k => r = some (.int 1) ∧ c ≤ 600000 ∧ k ≤ 7302250) :=
  rw_start (L, xs) (law_l (L, xs) hL 3000 0 ev_I0 ev_J0 ev_R0 [] 65 121826 (by decide) (by decide) (by decide) ⟨lw_hB, lw_rows⟩ ⟨⟨⟨lw_r0, l2_0⟩, l3_0⟩, d4_0⟩ rfl rfl)
