/-! The reference's moved shape, as a function. -/
def mv_c (W wr v : Int32) : Int32 := if wr = 0 then v else (v + 12 * W) - (v + 12 * W) / W * W
def mv_F (W H wr bits dx dy : Int32) : Nat → Int32 → Int64 → Int64
  | 0, _, set => set
  | r + 1, k, set => if ev_has bits.toInt64 k = 0 then mv_F W H wr bits dx dy r (k + 1) set else
    if ev_il (mv_c W wr (k - k / 4 * 4 + dx)).toInt64 0 (W - 1).toInt64 = 0 then 0 else
    if ev_il (mv_c H wr (k / 4 + dy)).toInt64 0 (H - 1).toInt64 = 0 then 0 else
    if ev_has set (W * mv_c H wr (k / 4 + dy) + mv_c W wr (k - k / 4 * 4 + dx)) = 0 then
      mv_F W H wr bits dx dy r (k + 1) (set ||| (1 <<< ((W * mv_c H wr (k / 4 + dy) + mv_c W wr (k - k / 4 * 4 + dx)).toInt64 &&& 63))) else 0
section
variable (X : ez_X) (I : Nat → Nat → Int32) (J : Nat → Nat → Int64) (R : Nat → Nat) (T : List ez_C) (b dx dy : Int32)
theorem eh_mv_r0 (cz kz : Nat) : ∀ G : ez_F, fx_up X 4 G 211 0 [.ref 35, .int b, .int dx, .int dy] [] (ev_hp I J R T) cz kz = G 211 6 [.ref 35, .int b, .int dx, .int dy, .long 0, ez_fill, .int 0] [] (ev_hp I J R T) cz kz := by
  intro G
  rfl
theorem eh_mv_r1 (s : Int64) (k : Int32) (cz kz : Nat) : ∀ G : ez_F, fx_up X 3 G 211 6 [.ref 35, .int b, .int dx, .int dy, .long s, ez_fill, .int k] [] (ev_hp I J R T) cz kz = bif decide (16 ≤ k) then G 211 157 [.ref 35, .int b, .int dx, .int dy, .long s, ez_fill, .int k] [] (ev_hp I J R T) cz kz else G 211 13 [.ref 35, .int b, .int dx, .int dy, .long s, ez_fill, .int k] [] (ev_hp I J R T) cz kz := by
  intro G
  rfl
theorem eh_mv_r2 (s : Int64) (k : Int32) (cz kz : Nat) : ∀ G : ez_F, fx_up X 2 G 211 157 [.ref 35, .int b, .int dx, .int dy, .long s, ez_fill, .int k] [] (ev_hp I J R T) cz kz = some (some (.long s), ev_hp I J R T, cz, kz) := by
  intro G
  rfl
theorem eh_mv_r3 (s : Int64) (k : Int32) (cz kz : Nat) : ∀ G : ez_F, fx_up X 4 G 211 13 [.ref 35, .int b, .int dx, .int dy, .long s, ez_fill, .int k] [] (ev_hp I J R T) cz kz = ev_C G 197 [.long b.toInt64, .int k] (ev_hp I J R T) fun r h1 c1 k1 => G 211 20 [.ref 35, .int b, .int dx, .int dy, .long s, ez_fill, .int k] (r.toList ++ []) h1 (cz + c1) (kz + k1) := by
  intro G
  rfl
theorem eh_mv_r4 (s : Int64) (k v : Int32) (cz kz : Nat) : ∀ G : ez_F, fx_up X 1 G 211 20 [.ref 35, .int b, .int dx, .int dy, .long s, ez_fill, .int k] [.int v] (ev_hp I J R T) cz kz = bif decide (v = 0) then G 211 151 [.ref 35, .int b, .int dx, .int dy, .long s, ez_fill, .int k] [] (ev_hp I J R T) cz kz else G 211 23 [.ref 35, .int b, .int dx, .int dy, .long s, ez_fill, .int k] [] (ev_hp I J R T) cz kz := by
  intro G
  rfl
set_option maxRecDepth 100000 in
theorem eh_mv_r5 (s : Int64) (k : Int32) (cz kz : Nat) : ∀ G : ez_F, fx_up X 15 G 211 23 [.ref 35, .int b, .int dx, .int dy, .long s, ez_fill, .int k] [] (ev_hp I J R T) cz kz = bif decide (I 35 2 = 0) then G 211 80 [.ref 35, .int b, .int dx, .int dy, .long s, ez_fill, .int k, .int (k - k / 4 * 4 + dx), .int (k / 4 + dy)] [] (ev_hp I J R T) cz kz else G 211 46 [.ref 35, .int b, .int dx, .int dy, .long s, ez_fill, .int k, .int (k - k / 4 * 4 + dx), .int (k / 4 + dy)] [] (ev_hp I J R T) cz kz := by
  intro G
  rfl
theorem eh_mv_r6 (s : Int64) (k x y : Int32) (cz kz : Nat) : ∀ G : ez_F, fx_up X 8 G 211 46 [.ref 35, .int b, .int dx, .int dy, .long s, ez_fill, .int k, .int x, .int y] [] (ev_hp I J R T) cz kz = G 211 60 [.ref 35, .int b, .int dx, .int dy, .long s, ez_fill, .int k, .int x, .int y] [.int (I 35 0), .int (x + 12 * I 35 0)] (ev_hp I J R T) cz kz := by
  intro G
  rfl
theorem eh_mv_r7 (s : Int64) (k x y v : Int32) (cz kz : Nat) : ∀ G : ez_F, fx_up X 9 G 211 61 [.ref 35, .int b, .int dx, .int dy, .long s, ez_fill, .int k, .int x, .int y] [.int v] (ev_hp I J R T) cz kz = G 211 77 [.ref 35, .int b, .int dx, .int dy, .long s, ez_fill, .int k, .int v, .int y] [.int (I 35 1), .int (y + 12 * I 35 1)] (ev_hp I J R T) cz kz := by
  intro G
  rfl
theorem eh_mv_r8 (s : Int64) (k x y v : Int32) (cz kz : Nat) : ∀ G : ez_F, fx_up X 1 G 211 78 [.ref 35, .int b, .int dx, .int dy, .long s, ez_fill, .int k, .int x, .int y] [.int v] (ev_hp I J R T) cz kz = G 211 80 [.ref 35, .int b, .int dx, .int dy, .long s, ez_fill, .int k, .int x, .int v] [] (ev_hp I J R T) cz kz := by
  intro G
  rfl
theorem eh_mv_r9 (s : Int64) (k x y : Int32) (cz kz : Nat) : ∀ G : ez_F, fx_up X 9 G 211 80 [.ref 35, .int b, .int dx, .int dy, .long s, ez_fill, .int k, .int x, .int y] [] (ev_hp I J R T) cz kz = ev_C G 198 [.long x.toInt64, .long 0, .long (I 35 0 - 1).toInt64] (ev_hp I J R T) fun r h1 c1 k1 => G 211 94 [.ref 35, .int b, .int dx, .int dy, .long s, ez_fill, .int k, .int x, .int y] (r.toList ++ []) h1 (cz + c1) (kz + k1) := by
  intro G
  rfl
theorem eh_mv_rA (s : Int64) (k x y v : Int32) (cz kz : Nat) : ∀ G : ez_F, fx_up X 1 G 211 94 [.ref 35, .int b, .int dx, .int dy, .long s, ez_fill, .int k, .int x, .int y] [.int v] (ev_hp I J R T) cz kz = bif decide (v = 0) then G 211 132 [.ref 35, .int b, .int dx, .int dy, .long s, ez_fill, .int k, .int x, .int y] [] (ev_hp I J R T) cz kz else G 211 97 [.ref 35, .int b, .int dx, .int dy, .long s, ez_fill, .int k, .int x, .int y] [] (ev_hp I J R T) cz kz := by
  intro G
  rfl
theorem eh_mv_rB (s : Int64) (k x y : Int32) (cz kz : Nat) : ∀ G : ez_F, fx_up X 9 G 211 97 [.ref 35, .int b, .int dx, .int dy, .long s, ez_fill, .int k, .int x, .int y] [] (ev_hp I J R T) cz kz = ev_C G 198 [.long y.toInt64, .long 0, .long (I 35 1 - 1).toInt64] (ev_hp I J R T) fun r h1 c1 k1 => G 211 111 [.ref 35, .int b, .int dx, .int dy, .long s, ez_fill, .int k, .int x, .int y] (r.toList ++ []) h1 (cz + c1) (kz + k1) := by
  intro G
  rfl
theorem eh_mv_rC (s : Int64) (k x y v : Int32) (cz kz : Nat) : ∀ G : ez_F, fx_up X 1 G 211 111 [.ref 35, .int b, .int dx, .int dy, .long s, ez_fill, .int k, .int x, .int y] [.int v] (ev_hp I J R T) cz kz = bif decide (v = 0) then G 211 132 [.ref 35, .int b, .int dx, .int dy, .long s, ez_fill, .int k, .int x, .int y] [] (ev_hp I J R T) cz kz else G 211 114 [.ref 35, .int b, .int dx, .int dy, .long s, ez_fill, .int k, .int x, .int y] [] (ev_hp I J R T) cz kz := by
  intro G
  rfl
theorem eh_mv_rD (s : Int64) (k x y : Int32) (cz kz : Nat) : ∀ G : ez_F, fx_up X 8 G 211 114 [.ref 35, .int b, .int dx, .int dy, .long s, ez_fill, .int k, .int x, .int y] [] (ev_hp I J R T) cz kz = ev_C G 197 [.long s, .int (I 35 0 * y + x)] (ev_hp I J R T) fun r h1 c1 k1 => G 211 129 [.ref 35, .int b, .int dx, .int dy, .long s, ez_fill, .int k, .int x, .int y] (r.toList ++ []) h1 (cz + c1) (kz + k1) := by
  intro G
  rfl
theorem eh_mv_rE (s : Int64) (k x y v : Int32) (cz kz : Nat) : ∀ G : ez_F, fx_up X 1 G 211 129 [.ref 35, .int b, .int dx, .int dy, .long s, ez_fill, .int k, .int x, .int y] [.int v] (ev_hp I J R T) cz kz = bif decide (v = 0) then G 211 134 [.ref 35, .int b, .int dx, .int dy, .long s, ez_fill, .int k, .int x, .int y] [] (ev_hp I J R T) cz kz else G 211 132 [.ref 35, .int b, .int dx, .int dy, .long s, ez_fill, .int k, .int x, .int y] [] (ev_hp I J R T) cz kz := by
  intro G
  rfl
theorem eh_mv_rF (s : Int64) (k x y : Int32) (cz kz : Nat) : ∀ G : ez_F, fx_up X 2 G 211 132 [.ref 35, .int b, .int dx, .int dy, .long s, ez_fill, .int k, .int x, .int y] [] (ev_hp I J R T) cz kz = some (some (.long 0), ev_hp I J R T, cz, kz) := by
  intro G
  rfl
set_option maxRecDepth 100000 in
theorem eh_mv_rG (s : Int64) (k x y : Int32) (cz kz : Nat) : ∀ G : ez_F, fx_up X 11 G 211 134 [.ref 35, .int b, .int dx, .int dy, .long s, ez_fill, .int k, .int x, .int y] [] (ev_hp I J R T) cz kz = G 211 151 [.ref 35, .int b, .int dx, .int dy, .long (s ||| (1 <<< ((I 35 0 * y + x).toInt64 &&& 63))), ez_fill, .int k, .int x, .int y] [] (ev_hp I J R T) cz kz := by
  intro G
  rfl
theorem eh_mv_rH (s : Int64) (k : Int32) (cz kz : Nat) : ∀ G : ez_F, fx_up X 2 G 211 151 [.ref 35, .int b, .int dx, .int dy, .long s, ez_fill, .int k] [] (ev_hp I J R T) cz kz = G 211 6 [.ref 35, .int b, .int dx, .int dy, .long s, ez_fill, .int (k + 1)] [] (ev_hp I J R T) cz kz := by
  intro G
  rfl
theorem eh_mv_l (hW : ¬ I 35 0 = 0) (hH : ¬ I 35 1 = 0) : ∀ (r : Nat) (k : Int32) (s : Int64) (cz kz : Nat), k.toInt + (r : Int) = 16 → 0 ≤ k.toInt →
    ev_W X 211 6 [.ref 35, .int b, .int dx, .int dy, .long s, ez_fill, .int k] [] (ev_hp I J R T) cz kz (fun q h' c' k' => q = some (.long (mv_F (I 35 0) (I 35 1) (I 35 2) b dx dy r k s)) ∧ h' = ev_hp I J R T ∧ c' = cz ∧ k' = kz) := by
  have e16 : (16 : Int32).toInt = 16 := by decide
  intro r
  induction r with
  | zero =>
    intro k s cz kz hk h0
    refine ev_if (eh_mv_r1 X I J R T b dx dy s k _ _) (fun _ => ev_ret (eh_mv_r2 X I J R T b dx dy s k _ _) ⟨rfl, rfl, rfl, rfl⟩) (fun ht => ?_)
    exact absurd (Int32.le_iff_toInt_le.mpr (by rw [e16]; omega)) (of_decide_eq_false ht)
  | succ r ih =>
    intro k s cz kz hk h0
    have hk1 : (k + 1).toInt = k.toInt + 1 := by
      rw [Int32.toInt_add, show (1 : Int32).toInt = 1 from by decide, cx_bm32]
      simp only [cx_i32]
      omega
    refine ev_if (eh_mv_r1 X I J R T b dx dy s k _ _) (fun ht => ?_) (fun _ => ?_)
    · have := Int32.le_iff_toInt_le.mp (of_decide_eq_true ht)
      rw [e16] at this
      omega
    refine ev_call (eh_mv_r3 X I J R T b dx dy s k _ _) (em_has X _ _ _) ?_
    rintro _ _ _ _ ⟨rfl, rfl, rfl, rfl⟩
    unfold mv_F
    refine ev_if (eh_mv_r4 X I J R T b dx dy s k _ _ _) (fun ht => ?_) (fun ht => ?_)
    · rw [if_pos (of_decide_eq_true ht)]
      refine ev_seg (eh_mv_rH X I J R T b dx dy s k _ _) ?_
      exact ih (k + 1) s _ _ (by omega) (by omega)
    · rw [if_neg (of_decide_eq_false ht)]
      -- behind the coordinates
      have rest : ∀ (cz kz : Nat), ev_W X 211 80 [.ref 35, .int b, .int dx, .int dy, .long s, ez_fill, .int k, .int (mv_c (I 35 0) (I 35 2) (k - k / 4 * 4 + dx)), .int (mv_c (I 35 1) (I 35 2) (k / 4 + dy))] [] (ev_hp I J R T) cz kz (fun q h' c' k' => q = some (.long (if ev_il (mv_c (I 35 0) (I 35 2) (k - k / 4 * 4 + dx)).toInt64 0 (I 35 0 - 1).toInt64 = 0 then 0 else
          if ev_il (mv_c (I 35 1) (I 35 2) (k / 4 + dy)).toInt64 0 (I 35 1 - 1).toInt64 = 0 then 0 else
          if ev_has s (I 35 0 * mv_c (I 35 1) (I 35 2) (k / 4 + dy) + mv_c (I 35 0) (I 35 2) (k - k / 4 * 4 + dx)) = 0 then
            mv_F (I 35 0) (I 35 1) (I 35 2) b dx dy r (k + 1) (s ||| (1 <<< ((I 35 0 * mv_c (I 35 1) (I 35 2) (k / 4 + dy) + mv_c (I 35 0) (I 35 2) (k - k / 4 * 4 + dx)).toInt64 &&& 63))) else 0)) ∧ h' = ev_hp I J R T ∧ c' = cz ∧ k' = kz) := by
        intro cz kz
        generalize mv_c (I 35 0) (I 35 2) (k - k / 4 * 4 + dx) = x
        generalize mv_c (I 35 1) (I 35 2) (k / 4 + dy) = y
        refine ev_call (eh_mv_r9 X I J R T b dx dy s k x y _ _) (ec_in X _ _ _ _) ?_
        rintro _ _ _ _ ⟨rfl, rfl, rfl, rfl⟩
        refine ev_if (eh_mv_rA X I J R T b dx dy s k x y _ _ _) (fun ht => ?_) (fun ht => ?_)
        · rw [if_pos (of_decide_eq_true ht)]
          exact ev_ret (eh_mv_rF X I J R T b dx dy s k x y _ _) ⟨rfl, rfl, rfl, rfl⟩
        rw [if_neg (of_decide_eq_false ht)]
        refine ev_call (eh_mv_rB X I J R T b dx dy s k x y _ _) (ec_in X _ _ _ _) ?_
        rintro _ _ _ _ ⟨rfl, rfl, rfl, rfl⟩
        refine ev_if (eh_mv_rC X I J R T b dx dy s k x y _ _ _) (fun ht => ?_) (fun ht => ?_)
        · rw [if_pos (of_decide_eq_true ht)]
          exact ev_ret (eh_mv_rF X I J R T b dx dy s k x y _ _) ⟨rfl, rfl, rfl, rfl⟩
        rw [if_neg (of_decide_eq_false ht)]
        refine ev_call (eh_mv_rD X I J R T b dx dy s k x y _ _) (em_has X _ _ _) ?_
        rintro _ _ _ _ ⟨rfl, rfl, rfl, rfl⟩
        refine ev_if (eh_mv_rE X I J R T b dx dy s k x y _ _ _) (fun ht => ?_) (fun ht => ?_)
        · rw [if_pos (of_decide_eq_true ht)]
          refine ev_seg (eh_mv_rG X I J R T b dx dy s k x y _ _) ?_
          refine ev_cutl (by rfl) ?_
          refine ev_seg (eh_mv_rH X I J R T b dx dy _ k _ _) ?_
          exact ih (k + 1) _ _ _ (by omega) (by omega)
        · rw [if_neg (of_decide_eq_false ht)]
          exact ev_ret (eh_mv_rF X I J R T b dx dy s k x y _ _) ⟨rfl, rfl, rfl, rfl⟩
      refine ev_if (eh_mv_r5 X I J R T b dx dy s k _ _) (fun hw => ?_) (fun hw => ?_)
      · have hw := of_decide_eq_true hw
        have z := rest (cz + 0) (kz + 0)
        rw [show mv_c (I 35 0) (I 35 2) (k - k / 4 * 4 + dx) = k - k / 4 * 4 + dx from if_pos hw, show mv_c (I 35 1) (I 35 2) (k / 4 + dy) = k / 4 + dy from if_pos hw] at z ⊢
        exact z
      · have hw := of_decide_eq_false hw
        refine ev_seg (eh_mv_r6 X I J R T b dx dy s k _ _ _ _) ?_
        refine ev_irem (by rfl) hW ?_
        refine ev_seg (eh_mv_r7 X I J R T b dx dy s k _ _ _ _ _) ?_
        refine ev_irem (by rfl) hH ?_
        refine ev_seg (eh_mv_r8 X I J R T b dx dy s k _ _ _ _ _) ?_
        have z := rest (cz + 0) (kz + 0)
        rw [show mv_c (I 35 0) (I 35 2) (k - k / 4 * 4 + dx) = (k - k / 4 * 4 + dx + 12 * I 35 0) - (k - k / 4 * 4 + dx + 12 * I 35 0) / I 35 0 * I 35 0 from if_neg hw, show mv_c (I 35 1) (I 35 2) (k / 4 + dy) = (k / 4 + dy + 12 * I 35 1) - (k / 4 + dy + 12 * I 35 1) / I 35 1 * I 35 1 from if_neg hw] at z ⊢
        exact z
theorem eh_mv (hW : ¬ I 35 0 = 0) (hH : ¬ I 35 1 = 0) : ev_W X 211 0 (ez_lay [.ref 35, .int b, .int dx, .int dy]) [] (ev_hp I J R T) 0 0 (ev_is (some (.long (mv_F (I 35 0) (I 35 1) (I 35 2) b dx dy 16 0 0))) (ev_hp I J R T)) := by
  refine ev_seg (eh_mv_r0 X I J R T b dx dy _ _) ?_
  exact eh_mv_l X I J R T b dx dy hW hH 16 0 0 _ _ (by decide) (by decide)
end
