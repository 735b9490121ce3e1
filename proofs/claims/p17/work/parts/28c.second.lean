/-! The class's search: the second ship, the first. -/
section
variable (X : ez_X) (I : Nat → Nat → Int32) (J : Nat → Nat → Int64) (R : Nat → Nat) (T : List ez_C)
theorem eh_t2_r0 (ah : Int32) (bd : Int64) (cz kz : Nat) : ∀ G : ez_F, fx_up X 4 G 141 0 [.ref 6, .int ah, .long bd, ez_fill] [] (ev_hp I J R T) cz kz = ev_C G 94 [.ref 3, .int 1] (ev_hp I J R T) fun r h1 c1 k1 => G 141 8 [.ref 6, .int ah, .long bd, ez_fill] (r.toList ++ []) h1 (cz + c1) (kz + k1) := by
  intro G
  rfl
theorem eh_t2_r1 (ah : Int32) (bd : Int64) (C : Int32) (cz kz : Nat) : ∀ G : ez_F, fx_up X 3 G 141 8 [.ref 6, .int ah, .long bd, ez_fill] [.int C] (ev_hp I J R T) cz kz = G 141 13 [.ref 6, .int ah, .long bd, ez_fill, .int C, .int 0] [] (ev_hp I J R T) cz kz := by
  intro G
  rfl
theorem eh_t2_r2 (ah : Int32) (bd : Int64) (C c : Int32) (cz kz : Nat) : ∀ G : ez_F, fx_up X 3 G 141 13 [.ref 6, .int ah, .long bd, ez_fill, .int C, .int c] [] (ev_hp I J R T) cz kz = bif decide (C ≤ c) then G 141 69 [.ref 6, .int ah, .long bd, ez_fill, .int C, .int c] [] (ev_hp I J R T) cz kz else G 141 20 [.ref 6, .int ah, .long bd, ez_fill, .int C, .int c] [] (ev_hp I J R T) cz kz := by
  intro G
  rfl
theorem eh_t2_r3 (ah : Int32) (bd : Int64) (C c : Int32) (cz kz : Nat) : ∀ G : ez_F, fx_up X 1 G 141 69 [.ref 6, .int ah, .long bd, ez_fill, .int C, .int c] [] (ev_hp I J R T) cz kz = some (none, ev_hp I J R T, cz, kz) := by
  intro G
  rfl
theorem eh_t2_r4 (ah : Int32) (bd : Int64) (C c y : Int32) (s x : Int64) (cz kz : Nat) : ∀ G : ez_F, fx_up X 1 G 141 60 [.ref 6, .int ah, .long bd, ez_fill, .int C, .int c, .long s, ez_fill] [.long x, .int y, .ref 6] (ev_hp I J R T) cz kz = ev_C G 142 [.ref 6, .int y, .long x] (ev_hp I J R T) fun r h1 c1 k1 => G 141 63 [.ref 6, .int ah, .long bd, ez_fill, .int C, .int c, .long s, ez_fill] (r.toList ++ []) h1 (cz + c1) (kz + k1) := by
  intro G
  rfl
theorem eh_t2_r5 (ah : Int32) (bd : Int64) (C c : Int32) (s : Int64) (cz kz : Nat) : ∀ G : ez_F, fx_up X 2 G 141 63 [.ref 6, .int ah, .long bd, ez_fill, .int C, .int c, .long s, ez_fill] [] (ev_hp I J R T) cz kz = G 141 13 [.ref 6, .int ah, .long bd, ez_fill, .int C, .int (c + 1), .long s, ez_fill] [] (ev_hp I J R T) cz kz := by
  intro G
  rfl
end
theorem ev_mulS (n : Nat) (C : Int) : ((n + 1 : Nat) : Int) * C = (n : Int) * C + C := by
  rw [Int.natCast_add, Int.add_mul]
  simp
theorem ev_inc1 {c C : Int32} (h : c.toInt < C.toInt) (hC : C.toInt ≤ 288) (h0 : 0 ≤ c.toInt) : (c + 1).toInt = c.toInt + 1 := by
  rw [Int32.toInt_add, show (1 : Int32).toInt = 1 from by decide, cx_bm32]
  simp only [cx_i32]
  omega
theorem eh_t2_l (X : ez_X) (hX2 : X.1 < 2 ^ 31) (hi : Int) (hhi : hi ≤ 10000) (S : Int32) (hS : S.toInt ≤ 288) : ∀ (n : Nat) (c ah : Int32) (bd : Int64) (I : Nat → Nat → Int32) (J : Nat → Nat → Int64) (R : Nat → Nat) (T : List ez_C) (cz kz : Nat), cx_hok cx_B0 I R T → 0 ≤ c.toInt → (S.toInt - c.toInt).toNat = n →
    (I 6 3).toInt + (n : Int) * (ev_sz I 2).toInt ≤ hi → ev_W X 141 13 [.ref 6, .int ah, .long bd, ez_fill, .int S, .int c] [] (ev_hp I J R T) cz kz (cx_q6 I J T cz kz hi) := by
  intro n
  induction n with
  | zero =>
    intro c ah bd I J R T cz kz hh h0 hn hs
    refine ev_if (eh_t2_r2 X I J R T ah bd S c _ _) (fun ht => ev_ret (eh_t2_r3 X I J R T ah bd S c _ _) (cx_q6_0 hh (by simpa using hs))) (fun ht => ?_)
    have z := of_decide_eq_false ht
    exact absurd (Int32.le_iff_toInt_le.mpr (by omega)) z
  | succ n ih =>
    intro c ah bd I J R T cz kz hh h0 hn hs
    rw [ev_mulS] at hs
    have hC := ev_sz_b hh.1 2
    have hnC : 0 ≤ (n : Int) * (ev_sz I 2).toInt := Int.mul_nonneg (Int.natCast_nonneg n) hC.1
    have h63 := hh.1 6 3
    refine ev_if (eh_t2_r2 X I J R T ah bd S c _ _) (fun ht => ev_ret (eh_t2_r3 X I J R T ah bd S c _ _) (cx_q6_0 hh (by omega))) (fun ht => ?_)
    have hlt : c.toInt < S.toInt := by omega
    have e1 := ev_inc1 hlt hS h0
    -- from 63 on
    have next : ∀ (ah' : Int32) (bd' s' : Int64) (I' : Nat → Nat → Int32) (J' : Nat → Nat → Int64) (R' : Nat → Nat) (T' : List ez_C) (c' k' : Nat), cx_hok cx_B0 I' R' T' → cx_fr [(6, 3)] I J I' J' → cx_leT T T' → c' + T.length = cz + T'.length → k' + cx_mem T = kz + cx_mem T' → (I' 6 3).toInt ≤ (I 6 3).toInt + (ev_sz I 2).toInt →
        ev_W X 141 63 [.ref 6, .int ah', .long bd', ez_fill, .int S, .int c, .long s', ez_fill] [] (ev_hp I' J' R' T') c' k' (cx_q6 I J T cz kz hi) := by
      intro ah' bd' s' I' J' R' T' c' k' x2 x3 x4 x5 x6 x7
      refine ev_seg (eh_t2_r5 X I' J' R' T' ah' bd' S c s' _ _) ?_
      refine ev_cutl (by rfl) ?_
      have hsz : ev_sz I' 2 = ev_sz I 2 := ev_sz_fr x3 2
      exact (ih (c + 1) ah' bd' I' J' R' T' c' k' x2 (by omega) (by omega) (by rw [hsz]; omega)).mono fun r h c k q => cx_q6_t q x3 x4 x5 x6
    refine cx_seg (K := cs_s) cx_hA0 cs_s_g cs_s_v (σ0 := [ah.toInt, bd.toInt, S.toInt, c.toInt]) hX2 hh
      ⟨⟨rfl, ⟨ah, rfl, rfl⟩, ⟨bd, rfl, rfl⟩, rfl, ⟨S, rfl, rfl⟩, ⟨c, rfl, rfl⟩, trivial⟩, trivial,
        cx_iv_cons (cx_full32 ah) (cx_iv_cons (cx_full64 bd) (cx_iv_cons (by simp only; omega) (cx_iv_cons (by simp only; omega) cx_iv_nil))), cx_nil,
        fun e he => (by cases he), fun e he => (by cases he)⟩ ?_ ?_
    · rintro r h' c' k' ⟨I', J', R', T', -, -, -, -, -, -, E, hE, -⟩
      cases hE
    · intro pc' A hA σ ls' st' I' J' R' T' c' k' x1 x2 x3 x4 x5 x6 x7
      have x3' : cx_fr [(6, 3)] I J I' J' := fun a q _ => x3 a q rfl
      have e63 : I' 6 3 = I 6 3 := (x3 6 3 rfl).1
      have w2 := x1 2 S.toInt rfl
      have w3 := x1 3 c.toInt rfl
      rcases cx_fAn2 hA with ⟨rfl, rfl⟩ | ⟨rfl, rfl⟩
      · obtain ⟨y1, y2, -⟩ := x7
        obtain ⟨v1, t1, rfl, rfl, g1⟩ := cx_L_inv y1
        obtain ⟨v2, t2, rfl, ⟨ah', rfl, -⟩, g2⟩ := cx_L_inv g1
        obtain ⟨v3, t3, rfl, ⟨bd', rfl, -⟩, g3⟩ := cx_L_inv g2
        obtain ⟨v4, t4, rfl, rfl, g4⟩ := cx_L_inv g3
        obtain ⟨v5, t5, rfl, ⟨S', rfl, z5⟩, g5⟩ := cx_L_inv g4
        obtain ⟨v6, t6, rfl, ⟨c2, rfl, z6⟩, g6⟩ := cx_L_inv g5
        obtain ⟨v7, t7, rfl, ⟨s', rfl, -⟩, g7⟩ := cx_L_inv g6
        obtain ⟨v8, t8, rfl, rfl, g8⟩ := cx_L_inv g7
        obtain rfl := cx_L_nil g8 rfl
        obtain ⟨u1, t1, rfl, ⟨x, rfl, -⟩, f1⟩ := cx_L_inv y2
        obtain ⟨u2, t2, rfl, ⟨y, rfl, -⟩, f2⟩ := cx_L_inv f1
        obtain ⟨u3, t3, rfl, rfl, f3⟩ := cx_L_inv f2
        obtain rfl := cx_L_nil f3 rfl
        rw [z5] at w2
        rw [z6] at w3
        injection w2 with w2
        injection w3 with w3
        obtain rfl := cx_i32_eq w2
        obtain rfl := cx_i32_eq w3
        have hsz : ev_sz I' 2 = ev_sz I 2 := ev_sz_fr x3' 2
        refine ev_call (eh_t2_r4 X I' J' R' T' ah' bd' S' c2 y s' x _ _) (eh_t3 X hX2 ((I 6 3).toInt + (ev_sz I 2).toInt) (by omega) y x I' J' R' T' x2 (by rw [hsz, e63]; omega)) ?_
        rintro r h1 c1 k1 ⟨rfl, I2, J2, R2, T2, rfl, q1, q2, q3, q4, q5, q6⟩
        exact next ah' bd' s' I2 J2 R2 T2 _ _ q1 (cx_fr_t x3' q2) (cx_leT_t x4 q3) (by omega) (by omega) q6
      · obtain ⟨y1, y2, -⟩ := x7
        obtain ⟨v1, t1, rfl, rfl, g1⟩ := cx_L_inv y1
        obtain ⟨v2, t2, rfl, ⟨ah', rfl, -⟩, g2⟩ := cx_L_inv g1
        obtain ⟨v3, t3, rfl, ⟨bd', rfl, -⟩, g3⟩ := cx_L_inv g2
        obtain ⟨v4, t4, rfl, rfl, g4⟩ := cx_L_inv g3
        obtain ⟨v5, t5, rfl, ⟨S', rfl, z5⟩, g5⟩ := cx_L_inv g4
        obtain ⟨v6, t6, rfl, ⟨c2, rfl, z6⟩, g6⟩ := cx_L_inv g5
        obtain ⟨v7, t7, rfl, ⟨s', rfl, -⟩, g7⟩ := cx_L_inv g6
        obtain ⟨v8, t8, rfl, rfl, g8⟩ := cx_L_inv g7
        obtain rfl := cx_L_nil g8 rfl
        obtain rfl := cx_L_nil y2 rfl
        rw [z5] at w2
        rw [z6] at w3
        injection w2 with w2
        injection w3 with w3
        obtain rfl := cx_i32_eq w2
        obtain rfl := cx_i32_eq w3
        exact next ah' bd' s' I' J' R' T' _ _ x2 x3' x4 x5 x6 (by rw [e63]; omega)
theorem eh_t2 (X : ez_X) (hX2 : X.1 < 2 ^ 31) (hi : Int) (hhi : hi ≤ 10000) (ah : Int32) (bd : Int64) (I : Nat → Nat → Int32) (J : Nat → Nat → Int64) (R : Nat → Nat) (T : List ez_C) (hh : cx_hok cx_B0 I R T) (hs : (I 6 3).toInt + (ev_sz I 1).toInt * (ev_sz I 2).toInt ≤ hi) :
    ev_W X 141 0 (ez_lay [.ref 6, .int ah, .long bd]) [] (ev_hp I J R T) 0 0 (cx_q6 I J T 0 0 hi) := by
  have hb := ev_sz_b hh.1 1
  refine ev_call (eh_t2_r0 X I J R T ah bd _ _) (eh_sz X I J R T 1 1 (by decide) rfl) ?_
  rintro _ _ _ _ ⟨rfl, rfl, rfl, rfl⟩
  refine ev_seg (eh_t2_r1 X I J R T ah bd _ _ _) ?_
  have e0 : (0 : Int32).toInt = 0 := by decide
  refine eh_t2_l X hX2 hi hhi _ hb.2 _ 0 ah bd I J R T _ _ hh (by decide) rfl ?_
  rw [e0, Int.sub_zero, Int.toNat_of_nonneg hb.1]
  exact hs
