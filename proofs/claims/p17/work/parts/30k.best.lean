/-! The call that parts best: what is counted, and what is kept of it. -/
theorem nd_self (I : Nat → Nat → Int32) (a : Nat) : ev_sI I a (I a) = I := by
  funext q
  by_cases h : q = a
  · subst h; rw [cx_sI_s]
  · rw [cx_sI_n _ _ h]
theorem nd_sI2 (I : Nat → Nat → Int32) (a : Nat) (f g : Nat → Int32) : ev_sI (ev_sI I a f) a g = ev_sI I a g := by
  funext q
  by_cases h : q = a
  · subst h; rw [cx_sI_s, cx_sI_s]
  · rw [cx_sI_n _ _ h, cx_sI_n _ _ h, cx_sI_n _ _ h]
theorem nd_getI {I : Nat → Nat → Int32} {J : Nat → Nat → Int64} {R : Nat → Nat} {T : List ez_C} {p n : Nat} {t : List (Nat × Nat)} (h : cx_Ds[p]? = some (0, n, t)) (f : Nat → Int32) : (ev_hp (ev_sI I p f) J R T)[p]? = some (.inl (n, .inl f)) := by
  rw [cx_getI h, cx_sI_s]
theorem nd_getN {I : Nat → Nat → Int32} {J : Nat → Nat → Int64} {R : Nat → Nat} {T : List ez_C} {p q n : Nat} {t : List (Nat × Nat)} (h : cx_Ds[p]? = some (0, n, t)) (hn : p ≠ q) (f : Nat → Int32) : (ev_hp (ev_sI I q f) J R T)[p]? = some (.inl (n, .inl (I p))) := by
  rw [cx_getI h, cx_sI_n _ _ hn]
theorem nd_setI {I : Nat → Nat → Int32} {J : Nat → Nat → Int64} {R : Nat → Nat} {T : List ez_C} {p n : Nat} {t : List (Nat × Nat)} (h : cx_Ds[p]? = some (0, n, t)) (f g : Nat → Int32) : (ev_hp (ev_sI I p f) J R T).set p (.inl (n, .inl g)) = ev_hp (ev_sI I p g) J R T := by
  rw [cx_setI h g, nd_sI2]
theorem nd_upd_s (f : Nat → Int32) (k : Nat) (x : Int32) : upd f k x k = x := by simp [upd]
theorem nd_upd_n (f : Nat → Int32) {k q : Nat} (x : Int32) (h : q ≠ k) : upd f k x q = f q := by simp [upd, h]
theorem nd_hB53 {I : Nat → Nat → Int32} (hh : cx_hB cx_B0 I) (f : Nat → Int32) : cx_hB cx_B0 (ev_sI I 53 f) := cx_hB_I hh fun q => cx_full32 (f q)
theorem nd_inc {i : Int32} (h0 : 0 ≤ i.toInt) (h1 : i.toInt ≤ 10000) : (i + 1).toInt = i.toInt + 1 := by
  rw [Int32.toInt_add, show (1 : Int32).toInt = 1 from by decide, cx_bm32]
  simp only [cx_i32]
  omega
theorem nd_nat (i : Int32) : i.toNatClampNeg = i.toInt.toNat := rfl
theorem nd_ix3 {v : Int32} (h : v = 0 ∨ v = 1 ∨ v = 2) : ev_ix v 4 := by
  rcases h with rfl | rfl | rfl <;> exact ⟨by decide, by decide⟩
/-- the three numbers of parts -/
def nd_is (p : Nat → Int32) (a m : Nat) (f : Nat → Int32) : Prop := (f 0).toInt = nd_cnt p a 0 m ∧ (f 1).toInt = nd_cnt p a 1 m ∧ (f 2).toInt = nd_cnt p a 2 m
theorem nd_is_y {p f : Nat → Int32} {a m : Nat} {v : Int32} (h : nd_is p a m f) (hv : p (a + m) = v) (h3 : v = 0 ∨ v = 1 ∨ v = 2) (hm : m < 1000) : nd_is p a (m + 1) (upd f v.toNatClampNeg (f v.toNatClampNeg + 1)) := by
  obtain ⟨h0, h1, h2⟩ := h
  have c0 := nd_cnt_le p a 0 m
  have c1 := nd_cnt_le p a 1 m
  have c2 := nd_cnt_le p a 2 m
  have inc : ∀ (x : Int32) (n : Nat), x.toInt = n → n ≤ m → (x + 1).toInt = ((n + 1 : Nat) : Int) := by
    intro x n hx hn
    rw [nd_inc (by omega) (by omega)]
    omega
  rcases h3 with rfl | rfl | rfl
  · rw [show (0 : Int32).toNatClampNeg = 0 from by decide]
    refine ⟨?_, ?_, ?_⟩
    · rw [nd_cnt_y hv, nd_upd_s]; exact inc _ _ h0 c0
    · rw [nd_cnt_n (by rw [hv]; decide), nd_upd_n _ _ (by decide)]; exact h1
    · rw [nd_cnt_n (by rw [hv]; decide), nd_upd_n _ _ (by decide)]; exact h2
  · rw [show (1 : Int32).toNatClampNeg = 1 from by decide]
    refine ⟨?_, ?_, ?_⟩
    · rw [nd_cnt_n (by rw [hv]; decide), nd_upd_n _ _ (by decide)]; exact h0
    · rw [nd_cnt_y hv, nd_upd_s]; exact inc _ _ h1 c1
    · rw [nd_cnt_n (by rw [hv]; decide), nd_upd_n _ _ (by decide)]; exact h2
  · rw [show (2 : Int32).toNatClampNeg = 2 from by decide]
    refine ⟨?_, ?_, ?_⟩
    · rw [nd_cnt_n (by rw [hv]; decide), nd_upd_n _ _ (by decide)]; exact h0
    · rw [nd_cnt_n (by rw [hv]; decide), nd_upd_n _ _ (by decide)]; exact h1
    · rw [nd_cnt_y hv, nd_upd_s]; exact inc _ _ h2 c2
theorem nd_is_0 (p f : Nat → Int32) (a : Nat) (h0 : f 0 = 0) (h1 : f 1 = 0) (h2 : f 2 = 0) : nd_is p a 0 f := by
  have e0 : (0 : Int32).toInt = 0 := by decide
  refine ⟨?_, ?_, ?_⟩
  · rw [h0, e0]; rfl
  · rw [h1, e0]; rfl
  · rw [h2, e0]; rfl
theorem eh_plP (X : ez_X) (I I' : Nat → Nat → Int32) (J : Nat → Nat → Int64) (R : Nat → Nat) (T : List ez_C) (k cell : Int32) (cd : Int64) (hh : cx_hB cx_B0 I') (hk : 0 ≤ k.toInt ∧ k.toInt ≤ 9999) (h3 : I' 35 3 = I 35 3) (h7 : I' 35 7 = I 35 7) (h41 : I' 41 = I 41) :
    ev_W X 216 0 (ez_lay [.ref 35, .int k, .int cell, .long cd]) [] (ev_hp I' J R T) 0 0 (ev_is (some (.int (pl_P I J k cell cd))) (ev_hp I' J R T)) := by
  rw [← pl_P_congr h3 h7 h41 (rfl : J 39 = J 39) k cell cd]
  exact eh_pl X I' J R T k cell cd hh hk
section
variable {X : ez_X} {I : Nat → Nat → Int32} {J : Nat → Nat → Int64} {R : Nat → Nat} {T : List ez_C} {cz kz : Nat}
theorem ce_r1  : ∀ G : ez_F, fx_up X 4 G 179 0 [.ref 35] [] (ev_hp I J R T) cz kz = G 179 8 [.ref 35] [.int (I 35 1), .int (I 35 0)] (ev_hp I J R T) cz kz := by
  intro G
  rfl
theorem ce_r2 {y : Int32} {x : Int32} : ∀ G : ez_F, fx_up X 2 G 179 8 [.ref 35] [.int y, .int x] (ev_hp I J R T) cz kz = some (some (.int (x * y)), ev_hp I J R T, cz, kz) := by
  intro G
  rfl
end
theorem eh_cells (X : ez_X) (I : Nat → Nat → Int32) (J : Nat → Nat → Int64) (R : Nat → Nat) (T : List ez_C) : ev_W X 179 0 (ez_lay [.ref 35]) [] (ev_hp I J R T) 0 0 (ev_is (some (.int (I 35 0 * I 35 1))) (ev_hp I J R T)) := by
  refine ev_seg ce_r1 ?_
  exact ev_ret ce_r2 ⟨rfl, rfl, rfl, rfl⟩
theorem nd_cl {I : Nat → Nat → Int32} (hh : cx_hB cx_B0 I) : 4 ≤ (I 35 0 * I 35 1).toInt ∧ (I 35 0 * I 35 1).toInt ≤ 36 := by
  have h0 := hh 35 0
  have h1 := hh 35 1
  rw [show cx_B0 35 0 = (2, 6) from rfl] at h0
  rw [show cx_B0 35 1 = (2, 6) from rfl] at h1
  simp only at h0 h1
  have m1 : 2 * 2 ≤ (I 35 0).toInt * (I 35 1).toInt := Int.mul_le_mul h0.1 h1.1 (by decide) (by omega)
  have m2 : (I 35 0).toInt * (I 35 1).toInt ≤ 6 * 6 := Int.mul_le_mul h0.2 h1.2 (by omega) (by decide)
  rw [Int32.toInt_mul, cx_bm32]
  · omega
  · simp only [cx_i32]; omega
def nd_best (I : Nat → Nat → Int32) (J : Nat → Nat → Int64) (cd : Int64) (a n : Nat) (b0 l0 : Int32) (cl : Int) (b l : Int32) : Prop :=
  (b = b0 ∧ l = l0) ∨ (0 ≤ b.toInt ∧ b.toInt < cl ∧ l.toInt < l0.toInt ∧ ∀ v : Int32, v = 0 ∨ v = 1 ∨ v = 2 → ((nd_cnt (fun q => pl_P I J (I 59 q) b cd) a v n : Nat) : Int) ≤ l.toInt)
