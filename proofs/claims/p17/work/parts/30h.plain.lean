/-! What a laying answers the caller, as a function. -/
def pl_set (I : Nat → Nat → Int32) (J : Nat → Nat → Int64) (k s : Int32) : Int64 := J 39 (300 * s + I 41 (3 * k + s).toNatClampNeg).toNatClampNeg
/-- the ship is there: is it sunk by this call? -/
def pl_hit (I : Nat → Nat → Int32) (set : Int64) (cell : Int32) (called : Int64) : Int32 :=
  if I 35 7 = 1 then (if ev_has called cell = 0 then (if lg_cmp (set &&& ((called ||| (1 <<< (cell.toInt64 &&& 63))) ^^^ Int64.ofNat 18446744073709551615)) 0 = 0 then 2 else 1) else 1) else 1
def pl_F (I : Nat → Nat → Int32) (J : Nat → Nat → Int64) (k cell : Int32) (called : Int64) : Nat → Int32 → Int32
  | 0, _ => 0
  | r + 1, s => if ev_has (pl_set I J k s) cell = 0 then pl_F I J k cell called r (s + 1) else pl_hit I (pl_set I J k s) cell called
section
variable (X : ez_X) (I : Nat → Nat → Int32) (J : Nat → Nat → Int64) (R : Nat → Nat) (T : List ez_C) (k cell : Int32) (cd : Int64)
theorem eh_pl_r0 (cz kz : Nat) : ∀ G : ez_F, fx_up X 2 G 216 0 [.ref 35, .int k, .int cell, .long cd, ez_fill] [] (ev_hp I J R T) cz kz = G 216 3 [.ref 35, .int k, .int cell, .long cd, ez_fill, .int 0] [] (ev_hp I J R T) cz kz := by
  intro G
  rfl
theorem eh_pl_r1 (s : Int32) (cz kz : Nat) : ∀ G : ez_F, fx_up X 4 G 216 3 [.ref 35, .int k, .int cell, .long cd, ez_fill, .int s] [] (ev_hp I J R T) cz kz = bif decide (I 35 3 ≤ s) then G 216 103 [.ref 35, .int k, .int cell, .long cd, ez_fill, .int s] [] (ev_hp I J R T) cz kz else G 216 12 [.ref 35, .int k, .int cell, .long cd, ez_fill, .int s] [] (ev_hp I J R T) cz kz := by
  intro G
  rfl
theorem eh_pl_r2 (s : Int32) (cz kz : Nat) : ∀ G : ez_F, fx_up X 2 G 216 103 [.ref 35, .int k, .int cell, .long cd, ez_fill, .int s] [] (ev_hp I J R T) cz kz = some (some (.int 0), ev_hp I J R T, cz, kz) := by
  intro G
  rfl
set_option maxRecDepth 100000 in
theorem eh_pl_r3 (s : Int32) (cz kz : Nat) : ∀ G : ez_F, fx_up X 12 G 216 12 [.ref 35, .int k, .int cell, .long cd, ez_fill, .int s] [] (ev_hp I J R T) cz kz = G 216 32 [.ref 35, .int k, .int cell, .long cd, ez_fill, .int s] [.int (3 * k + s), .ref 41, .int (300 * s), .ref 39] (ev_hp I J R T) cz kz := by
  intro G
  rfl
theorem eh_pl_r4 (s v w : Int32) (cz kz : Nat) : ∀ G : ez_F, fx_up X 1 G 216 33 [.ref 35, .int k, .int cell, .long cd, ez_fill, .int s] [.int v, .int w, .ref 39] (ev_hp I J R T) cz kz = G 216 34 [.ref 35, .int k, .int cell, .long cd, ez_fill, .int s] [.int (w + v), .ref 39] (ev_hp I J R T) cz kz := by
  intro G
  rfl
theorem eh_pl_r5 (s : Int32) (u : Int64) (cz kz : Nat) : ∀ G : ez_F, fx_up X 4 G 216 35 [.ref 35, .int k, .int cell, .long cd, ez_fill, .int s] [.long u] (ev_hp I J R T) cz kz = ev_C G 197 [.long u, .int cell] (ev_hp I J R T) fun r h1 c1 k1 => G 216 43 [.ref 35, .int k, .int cell, .long cd, ez_fill, .int s, .long u, ez_fill] (r.toList ++ []) h1 (cz + c1) (kz + k1) := by
  intro G
  rfl
theorem eh_pl_r6 (s v : Int32) (u : Int64) (cz kz : Nat) : ∀ G : ez_F, fx_up X 1 G 216 43 [.ref 35, .int k, .int cell, .long cd, ez_fill, .int s, .long u, ez_fill] [.int v] (ev_hp I J R T) cz kz = bif decide (v = 0) then G 216 97 [.ref 35, .int k, .int cell, .long cd, ez_fill, .int s, .long u, ez_fill] [] (ev_hp I J R T) cz kz else G 216 46 [.ref 35, .int k, .int cell, .long cd, ez_fill, .int s, .long u, ez_fill] [] (ev_hp I J R T) cz kz := by
  intro G
  rfl
theorem eh_pl_r7 (s : Int32) (u : Int64) (cz kz : Nat) : ∀ G : ez_F, fx_up X 2 G 216 97 [.ref 35, .int k, .int cell, .long cd, ez_fill, .int s, .long u, ez_fill] [] (ev_hp I J R T) cz kz = G 216 3 [.ref 35, .int k, .int cell, .long cd, ez_fill, .int (s + 1), .long u, ez_fill] [] (ev_hp I J R T) cz kz := by
  intro G
  rfl
theorem eh_pl_r8 (s : Int32) (u : Int64) (cz kz : Nat) : ∀ G : ez_F, fx_up X 3 G 216 46 [.ref 35, .int k, .int cell, .long cd, ez_fill, .int s, .long u, ez_fill] [] (ev_hp I J R T) cz kz = ev_C G 197 [.long cd, .int cell] (ev_hp I J R T) fun r h1 c1 k1 => G 216 51 [.ref 35, .int k, .int cell, .long cd, ez_fill, .int s, .long u, ez_fill] (r.toList ++ []) h1 (cz + c1) (kz + k1) := by
  intro G
  rfl
theorem eh_pl_r9 (s v : Int32) (u : Int64) (cz kz : Nat) : ∀ G : ez_F, fx_up X 1 G 216 51 [.ref 35, .int k, .int cell, .long cd, ez_fill, .int s, .long u, ez_fill] [.int v] (ev_hp I J R T) cz kz = bif decide (¬ v = 0) then G 216 75 [.ref 35, .int k, .int cell, .long cd, ez_fill, .int s, .long u, ez_fill] [] (ev_hp I J R T) cz kz else G 216 54 [.ref 35, .int k, .int cell, .long cd, ez_fill, .int s, .long u, ez_fill] [] (ev_hp I J R T) cz kz := by
  intro G
  rfl
set_option maxRecDepth 100000 in
theorem eh_pl_rA (s : Int32) (u : Int64) (cz kz : Nat) : ∀ G : ez_F, fx_up X 12 G 216 54 [.ref 35, .int k, .int cell, .long cd, ez_fill, .int s, .long u, ez_fill] [] (ev_hp I J R T) cz kz = bif decide (¬ lg_cmp (u &&& ((cd ||| (1 <<< (cell.toInt64 &&& 63))) ^^^ Int64.ofNat 18446744073709551615)) 0 = 0) then G 216 75 [.ref 35, .int k, .int cell, .long cd, ez_fill, .int s, .long u, ez_fill] [] (ev_hp I J R T) cz kz else G 216 71 [.ref 35, .int k, .int cell, .long cd, ez_fill, .int s, .long u, ez_fill] [] (ev_hp I J R T) cz kz := by
  intro G
  rfl
theorem eh_pl_rB (s : Int32) (u : Int64) (cz kz : Nat) : ∀ G : ez_F, fx_up X 7 G 216 71 [.ref 35, .int k, .int cell, .long cd, ez_fill, .int s, .long u, ez_fill] [] (ev_hp I J R T) cz kz = bif decide (¬ I 35 7 = 1) then G 216 95 [.ref 35, .int k, .int cell, .long cd, ez_fill, .int s, .long u, ez_fill, .int 1] [] (ev_hp I J R T) cz kz else G 216 86 [.ref 35, .int k, .int cell, .long cd, ez_fill, .int s, .long u, ez_fill, .int 1] [] (ev_hp I J R T) cz kz := by
  intro G
  rfl
theorem eh_pl_rC (s : Int32) (u : Int64) (cz kz : Nat) : ∀ G : ez_F, fx_up X 6 G 216 75 [.ref 35, .int k, .int cell, .long cd, ez_fill, .int s, .long u, ez_fill] [] (ev_hp I J R T) cz kz = bif decide (¬ I 35 7 = 1) then G 216 95 [.ref 35, .int k, .int cell, .long cd, ez_fill, .int s, .long u, ez_fill, .int 0] [] (ev_hp I J R T) cz kz else G 216 86 [.ref 35, .int k, .int cell, .long cd, ez_fill, .int s, .long u, ez_fill, .int 0] [] (ev_hp I J R T) cz kz := by
  intro G
  rfl
theorem eh_pl_rD (s v : Int32) (u : Int64) (cz kz : Nat) : ∀ G : ez_F, fx_up X 2 G 216 86 [.ref 35, .int k, .int cell, .long cd, ez_fill, .int s, .long u, ez_fill, .int v] [] (ev_hp I J R T) cz kz = bif decide (v = 0) then G 216 95 [.ref 35, .int k, .int cell, .long cd, ez_fill, .int s, .long u, ez_fill, .int v] [] (ev_hp I J R T) cz kz else G 216 91 [.ref 35, .int k, .int cell, .long cd, ez_fill, .int s, .long u, ez_fill, .int v] [] (ev_hp I J R T) cz kz := by
  intro G
  rfl
theorem eh_pl_rE (s v : Int32) (u : Int64) (cz kz : Nat) : ∀ G : ez_F, fx_up X 3 G 216 91 [.ref 35, .int k, .int cell, .long cd, ez_fill, .int s, .long u, ez_fill, .int v] [] (ev_hp I J R T) cz kz = some (some (.int 2), ev_hp I J R T, cz, kz) := by
  intro G
  rfl
theorem eh_pl_rF (s v : Int32) (u : Int64) (cz kz : Nat) : ∀ G : ez_F, fx_up X 2 G 216 95 [.ref 35, .int k, .int cell, .long cd, ez_fill, .int s, .long u, ez_fill, .int v] [] (ev_hp I J R T) cz kz = some (some (.int 1), ev_hp I J R T, cz, kz) := by
  intro G
  rfl
theorem eh_pl_l (hh : cx_hB cx_B0 I) (hk : 0 ≤ k.toInt ∧ k.toInt ≤ 9999) : ∀ (r : Nat) (s : Int32) (cz kz : Nat), 0 ≤ s.toInt → s.toInt + (r : Int) = (I 35 3).toInt →
    ev_W X 216 3 [.ref 35, .int k, .int cell, .long cd, ez_fill, .int s] [] (ev_hp I J R T) cz kz (fun q h' c' k' => q = some (.int (pl_F I J k cell cd r s)) ∧ h' = ev_hp I J R T ∧ c' = cz ∧ k' = kz) := by
  have e1 : (1 : Int32).toInt = 1 := by decide
  have e3 : (3 : Int32).toInt = 3 := by decide
  have hsh := hh 35 3
  rw [show cx_B0 35 3 = (0, 3) from rfl] at hsh
  simp only at hsh
  intro r
  induction r with
  | zero =>
    intro s cz kz h0 hs
    refine ev_if (eh_pl_r1 X I J R T k cell cd s _ _) (fun _ => ev_ret (eh_pl_r2 X I J R T k cell cd s _ _) ⟨rfl, rfl, rfl, rfl⟩) (fun z => ?_)
    exact absurd (Int32.le_iff_toInt_le.mpr (by omega)) (of_decide_eq_false z)
  | succ r ih =>
    intro s cz kz h0 hs
    refine ev_if (eh_pl_r1 X I J R T k cell cd s _ _) (fun z => ?_) (fun _ => ?_)
    · have := Int32.le_iff_toInt_le.mp (of_decide_eq_true z)
      omega
    have hs1 : (s + 1).toInt = s.toInt + 1 := by
      rw [Int32.toInt_add, e1, cx_bm32]
      simp only [cx_i32]
      omega
    have hx : (3 * k + s).toInt = 3 * k.toInt + s.toInt := by
      have e : (3 * k).toInt = 3 * k.toInt := by
        rw [Int32.toInt_mul, e3, cx_bm32]
        simp only [cx_i32]
        omega
      rw [Int32.toInt_add, e, cx_bm32]
      simp only [cx_i32]
      omega
    refine ev_seg (eh_pl_r3 X I J R T k cell cd s _ _) ?_
    refine ev_iald (by rfl) (cx_getI (show cx_Ds[41]? = some (0, 30003, []) from rfl)) (fs_ixs (by omega) (by omega)) ?_
    have h41 := hh 41 (3 * k + s).toNatClampNeg
    rw [show cx_B0 41 (3 * k + s).toNatClampNeg = (0, 299) from rfl] at h41
    simp only at h41
    have hy := fs_300 (s := s) (k := I 41 (3 * k + s).toNatClampNeg) (by omega) (by omega)
    refine ev_seg (eh_pl_r4 X I J R T k cell cd s _ _ _ _) ?_
    refine ev_lald (by rfl) (cx_getJ (show cx_Ds[39]? = some (1, 900, []) from rfl)) (fs_ixs (by omega) (by omega)) ?_
    unfold pl_F
    rw [show J 39 (300 * s + I 41 (3 * k + s).toNatClampNeg).toNatClampNeg = pl_set I J k s from rfl]
    generalize pl_set I J k s = u
    refine ev_call (eh_pl_r5 X I J R T k cell cd s u _ _) (em_has X _ _ _) ?_
    rintro _ _ _ _ ⟨rfl, rfl, rfl, rfl⟩
    refine ev_if (eh_pl_r6 X I J R T k cell cd s _ u _ _) (fun z => ?_) (fun z => ?_)
    · rw [if_pos (of_decide_eq_true z)]
      refine ev_seg (eh_pl_r7 X I J R T k cell cd s u _ _) ?_
      refine ev_cutl (by rfl) ?_
      exact ih (s + 1) _ _ (by omega) (by omega)
    rw [if_neg (of_decide_eq_false z)]
    have one : ∀ cz kz : Nat, pl_hit I u cell cd = 1 → ev_W X 216 75 [.ref 35, .int k, .int cell, .long cd, ez_fill, .int s, .long u, ez_fill] [] (ev_hp I J R T) cz kz (fun q h' c' k' => q = some (.int (pl_hit I u cell cd)) ∧ h' = ev_hp I J R T ∧ c' = cz ∧ k' = kz) := by
      intro cz kz hp
      rw [hp]
      refine ev_if (eh_pl_rC X I J R T k cell cd s u _ _) (fun _ => ev_ret (eh_pl_rF X I J R T k cell cd s _ u _ _) ⟨rfl, rfl, rfl, rfl⟩) (fun _ => ?_)
      exact ev_if (eh_pl_rD X I J R T k cell cd s 0 u _ _) (fun _ => ev_ret (eh_pl_rF X I J R T k cell cd s _ u _ _) ⟨rfl, rfl, rfl, rfl⟩) (fun z => absurd rfl (of_decide_eq_false z))
    refine ev_call (eh_pl_r8 X I J R T k cell cd s u _ _) (em_has X _ _ _) ?_
    rintro _ _ _ _ ⟨rfl, rfl, rfl, rfl⟩
    refine ev_if (eh_pl_r9 X I J R T k cell cd s _ u _ _) (fun z => ?_) (fun z => ?_)
    · refine one _ _ ?_
      unfold pl_hit
      rw [if_neg (of_decide_eq_true z)]
      split <;> rfl
    have hc0 : ev_has cd cell = 0 := Classical.not_not.mp (of_decide_eq_false z)
    refine ev_if (eh_pl_rA X I J R T k cell cd s u _ _) (fun z2 => ?_) (fun z2 => ?_)
    · refine one _ _ ?_
      unfold pl_hit
      rw [if_pos hc0, if_neg (of_decide_eq_true z2)]
      split <;> rfl
    have hl := Classical.not_not.mp (of_decide_eq_false z2)
    unfold pl_hit
    rw [if_pos hc0, if_pos hl]
    refine ev_if (eh_pl_rB X I J R T k cell cd s u _ _) (fun z3 => ?_) (fun z3 => ?_)
    · rw [if_neg (of_decide_eq_true z3)]
      exact ev_ret (eh_pl_rF X I J R T k cell cd s _ u _ _) ⟨rfl, rfl, rfl, rfl⟩
    · rw [if_pos (Classical.not_not.mp (of_decide_eq_false z3))]
      refine ev_if (eh_pl_rD X I J R T k cell cd s 1 u _ _) (fun z4 => absurd (of_decide_eq_true z4) (by decide)) (fun _ => ?_)
      exact ev_ret (eh_pl_rE X I J R T k cell cd s _ u _ _) ⟨rfl, rfl, rfl, rfl⟩
theorem eh_pl (hh : cx_hB cx_B0 I) (hk : 0 ≤ k.toInt ∧ k.toInt ≤ 9999) : ev_W X 216 0 (ez_lay [.ref 35, .int k, .int cell, .long cd]) [] (ev_hp I J R T) 0 0 (ev_is (some (.int (pl_F I J k cell cd (I 35 3).toInt.toNat 0))) (ev_hp I J R T)) := by
  have hsh := hh 35 3
  rw [show cx_B0 35 3 = (0, 3) from rfl] at hsh
  simp only at hsh
  have e0 : (0 : Int32).toInt = 0 := by decide
  refine ev_seg (eh_pl_r0 X I J R T k cell cd _ _) ?_
  exact eh_pl_l X I J R T k cell cd hh hk (I 35 3).toInt.toNat 0 _ _ (by decide) (by rw [e0]; omega)
end
