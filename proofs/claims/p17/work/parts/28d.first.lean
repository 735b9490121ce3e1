/-! The class's search, whole. -/
section
variable (X : ez_X) (I : Nat → Nat → Int32) (J : Nat → Nat → Int64) (R : Nat → Nat) (T : List ez_C)
theorem eh_sr_r1 (cz kz : Nat) : ∀ G : ez_F, fx_up X 3 G 140 0 [.ref 6] [] (ev_hp I J R T) cz kz = ev_C G 89 [.ref 3] (ev_hp I J R T) fun r h1 c1 k1 => G 140 7 [.ref 6] (r.toList ++ []) h1 (cz + c1) (kz + k1) := by
  intro G
  rfl
theorem eh_sr_r2 (w : Int32) (cz kz : Nat) : ∀ G : ez_F, fx_up X 4 G 140 7 [.ref 6] [.int w] (ev_hp I J R T) cz kz = bif decide (¬ I 6 4 = 0) then G 140 22 [.ref 6, .int w] [] (ev_hp I J R T) cz kz else G 140 15 [.ref 6, .int w] [] (ev_hp I J R T) cz kz := by
  intro G
  rfl
theorem eh_sr_r3 (w : Int32) (cz kz : Nat) : ∀ G : ez_F, fx_up X 3 G 140 15 [.ref 6, .int w] [] (ev_hp I J R T) cz kz = bif decide (w ≤ 10000) then G 140 23 [.ref 6, .int w] [] (ev_hp I J R T) cz kz else G 140 22 [.ref 6, .int w] [] (ev_hp I J R T) cz kz := by
  intro G
  rfl
theorem eh_sr_r4 (w : Int32) (cz kz : Nat) : ∀ G : ez_F, fx_up X 1 G 140 22 [.ref 6, .int w] [] (ev_hp I J R T) cz kz = some (none, ev_hp I J R T, cz, kz) := by
  intro G
  rfl
set_option maxRecDepth 100000 in
theorem eh_sr_r5 (w : Int32) (cz kz : Nat) : ∀ G : ez_F, fx_up X 9 G 140 23 [.ref 6, .int w] [] (ev_hp I J R T) cz kz = G 140 38 [.ref 6, .int w] [.ref (R 0), .int w] (ev_hp (ev_sI I 6 (upd (upd (I 6) 4 1) 3 0)) J R T) cz kz := by
  intro G
  rfl
theorem eh_sr_r6 (w n : Int32) (cz kz : Nat) : ∀ G : ez_F, fx_up X 1 G 140 39 [.ref 6, .int w] [.int n, .int w] (ev_hp I J R T) cz kz = bif decide (w ≤ n) then G 140 57 [.ref 6, .int w] [] (ev_hp I J R T) cz kz else G 140 42 [.ref 6, .int w] [] (ev_hp I J R T) cz kz := by
  intro G
  rfl
theorem eh_sr_r7 (w : Int32) (cz kz : Nat) : ∀ G : ez_F, fx_up X 3 G 140 42 [.ref 6, .int w] [] (ev_hp I J R T) cz kz = G 140 47 [.ref 6, .int w] [.ref (R 0), .ref 6] (ev_hp I J R T) cz kz := by
  intro G
  rfl
theorem eh_sr_r8 (w n : Int32) (cz kz : Nat) : ∀ G : ez_F, fx_up X 2 G 140 48 [.ref 6, .int w] [.int n, .ref 6] (ev_hp I J R T) cz kz = ev_C G 19 [.int n, .int w] (ev_hp I J R T) fun r h1 c1 k1 => G 140 52 [.ref 6, .int w] (r.toList ++ [.ref 6]) h1 (cz + c1) (kz + k1) := by
  intro G
  rfl
theorem eh_sr_r9 (w : Int32) (v : Nat) (cz kz : Nat) : ∀ G : ez_F, fx_up X 1 G 140 54 [.ref 6, .int w] [.ref v, .ref 6] (ev_hp I J R T) cz kz = G 140 57 [.ref 6, .int w] [] (ev_hp I J (ev_sR R 0 v) T) cz kz := by
  intro G
  rfl
theorem eh_sr_rA (w : Int32) (cz kz : Nat) : ∀ G : ez_F, fx_up X 4 G 140 57 [.ref 6, .int w] [] (ev_hp I J R T) cz kz = ev_C G 94 [.ref 3, .int 0] (ev_hp I J R T) fun r h1 c1 k1 => G 140 65 [.ref 6, .int w] (r.toList ++ []) h1 (cz + c1) (kz + k1) := by
  intro G
  rfl
theorem eh_sr_rB (w C : Int32) (cz kz : Nat) : ∀ G : ez_F, fx_up X 3 G 140 65 [.ref 6, .int w] [.int C] (ev_hp I J R T) cz kz = G 140 68 [.ref 6, .int w, .int C, .int 0] [] (ev_hp I J R T) cz kz := by
  intro G
  rfl
theorem eh_sr_rC (w C c : Int32) (cz kz : Nat) : ∀ G : ez_F, fx_up X 3 G 140 68 [.ref 6, .int w, .int C, .int c] [] (ev_hp I J R T) cz kz = bif decide (C ≤ c) then G 140 100 [.ref 6, .int w, .int C, .int c] [] (ev_hp I J R T) cz kz else G 140 73 [.ref 6, .int w, .int C, .int c] [] (ev_hp I J R T) cz kz := by
  intro G
  rfl
theorem eh_sr_rD (w C c : Int32) (cz kz : Nat) : ∀ G : ez_F, fx_up X 1 G 140 100 [.ref 6, .int w, .int C, .int c] [] (ev_hp I J R T) cz kz = some (none, ev_hp I J R T, cz, kz) := by
  intro G
  rfl
theorem eh_sr_rE (w C c y : Int32) (x : Int64) (cz kz : Nat) : ∀ G : ez_F, fx_up X 1 G 140 91 [.ref 6, .int w, .int C, .int c] [.long x, .int y, .ref 6] (ev_hp I J R T) cz kz = ev_C G 141 [.ref 6, .int y, .long x] (ev_hp I J R T) fun r h1 c1 k1 => G 140 94 [.ref 6, .int w, .int C, .int c] (r.toList ++ []) h1 (cz + c1) (kz + k1) := by
  intro G
  rfl
theorem eh_sr_rF (w C c : Int32) (cz kz : Nat) : ∀ G : ez_F, fx_up X 2 G 140 94 [.ref 6, .int w, .int C, .int c] [] (ev_hp I J R T) cz kz = G 140 68 [.ref 6, .int w, .int C, .int (c + 1)] [] (ev_hp I J R T) cz kz := by
  intro G
  rfl
end
theorem eh_sr_l (X : ez_X) (hX2 : X.1 < 2 ^ 31) (S : Int32) (hS : S.toInt ≤ 288) : ∀ (n : Nat) (c w : Int32) (I : Nat → Nat → Int32) (J : Nat → Nat → Int64) (R : Nat → Nat) (T : List ez_C) (cz kz : Nat), cx_hok cx_B0 I R T → 0 ≤ c.toInt → (S.toInt - c.toInt).toNat = n →
    (I 6 3).toInt + (n : Int) * ((ev_sz I 1).toInt * (ev_sz I 2).toInt) ≤ 10000 → ev_W X 140 68 [.ref 6, .int w, .int S, .int c] [] (ev_hp I J R T) cz kz (cx_q6 I J T cz kz 10000) := by
  intro n
  induction n with
  | zero =>
    intro c w I J R T cz kz hh h0 hn hs
    refine ev_if (eh_sr_rC X I J R T w S c _ _) (fun ht => ev_ret (eh_sr_rD X I J R T w S c _ _) (cx_q6_0 hh (by simpa using hs))) (fun ht => ?_)
    have z := of_decide_eq_false ht
    exact absurd (Int32.le_iff_toInt_le.mpr (by omega)) z
  | succ n ih =>
    intro c w I J R T cz kz hh h0 hn hs
    rw [ev_mulS] at hs
    have hC := ev_sz_b hh.1 2
    have hB := ev_sz_b hh.1 1
    have hBC : 0 ≤ (ev_sz I 1).toInt * (ev_sz I 2).toInt := Int.mul_nonneg hB.1 hC.1
    have hnC : 0 ≤ (n : Int) * ((ev_sz I 1).toInt * (ev_sz I 2).toInt) := Int.mul_nonneg (Int.natCast_nonneg n) hBC
    have h63 := hh.1 6 3
    refine ev_if (eh_sr_rC X I J R T w S c _ _) (fun ht => ev_ret (eh_sr_rD X I J R T w S c _ _) (cx_q6_0 hh (by omega))) (fun ht => ?_)
    have hlt : c.toInt < S.toInt := by omega
    have e1 := ev_inc1 hlt hS h0
    refine cx_seg (K := cs_f) cx_hA0 cs_f_g cs_f_v (σ0 := [w.toInt, S.toInt, c.toInt]) hX2 hh
      ⟨⟨rfl, ⟨w, rfl, rfl⟩, ⟨S, rfl, rfl⟩, ⟨c, rfl, rfl⟩, trivial⟩, trivial,
        cx_iv_cons (cx_full32 w) (cx_iv_cons (by simp only; omega) (cx_iv_cons (by simp only; omega) cx_iv_nil)), cx_nil,
        fun e he => (by cases he), fun e he => (by cases he)⟩ ?_ ?_
    · rintro r h' c' k' ⟨I', J', R', T', -, -, -, -, -, -, E, hE, -⟩
      cases hE
    · intro pc' A hA σ ls' st' I' J' R' T' c' k' x1 x2 x3 x4 x5 x6 x7
      have x3' : cx_fr [(6, 3)] I J I' J' := fun a q _ => x3 a q rfl
      have e63 : I' 6 3 = I 6 3 := (x3 6 3 rfl).1
      have w1 := x1 1 S.toInt rfl
      have w2 := x1 2 c.toInt rfl
      obtain ⟨rfl, rfl⟩ := cx_fAn1 hA
      obtain ⟨y1, y2, -⟩ := x7
      obtain ⟨v1, t1, rfl, rfl, g1⟩ := cx_L_inv y1
      obtain ⟨v2, t2, rfl, ⟨w', rfl, -⟩, g2⟩ := cx_L_inv g1
      obtain ⟨v3, t3, rfl, ⟨S', rfl, z3⟩, g3⟩ := cx_L_inv g2
      obtain ⟨v4, t4, rfl, ⟨c2, rfl, z4⟩, g4⟩ := cx_L_inv g3
      obtain rfl := cx_L_nil g4 rfl
      obtain ⟨u1, t1, rfl, ⟨x, rfl, -⟩, f1⟩ := cx_L_inv y2
      obtain ⟨u2, t2, rfl, ⟨y, rfl, -⟩, f2⟩ := cx_L_inv f1
      obtain ⟨u3, t3, rfl, rfl, f3⟩ := cx_L_inv f2
      obtain rfl := cx_L_nil f3 rfl
      rw [z3] at w1
      rw [z4] at w2
      injection w1 with w1
      injection w2 with w2
      obtain rfl := cx_i32_eq w1
      obtain rfl := cx_i32_eq w2
      have s1 : ev_sz I' 1 = ev_sz I 1 := ev_sz_fr x3' 1
      have s2 : ev_sz I' 2 = ev_sz I 2 := ev_sz_fr x3' 2
      refine ev_call (eh_sr_rE X I' J' R' T' w' S' c2 y x _ _) (eh_t2 X hX2 ((I 6 3).toInt + (ev_sz I 1).toInt * (ev_sz I 2).toInt) (by omega) y x I' J' R' T' x2 (by rw [s1, s2, e63]; omega)) ?_
      rintro r h1 c1 k1 ⟨rfl, I2, J2, R2, T2, rfl, q1, q2, q3, q4, q5, q6⟩
      refine ev_seg (eh_sr_rF X I2 J2 R2 T2 w' S' c2 _ _) ?_
      have x8 := cx_fr_t x3' q2
      have s3 : ev_sz I2 1 = ev_sz I 1 := ev_sz_fr x8 1
      have s4 : ev_sz I2 2 = ev_sz I 2 := ev_sz_fr x8 2
      exact (ih (c2 + 1) w' I2 J2 R2 T2 _ _ q1 (by omega) (by omega) (by rw [s3, s4]; omega)).mono fun r h c k q => cx_q6_t q x8 (cx_leT_t x4 q3) (by omega) (by omega)
theorem ev_mul3 {a b c : Int32} (ha : 0 ≤ a.toInt) (ha2 : a.toInt ≤ 288) (hb : 0 ≤ b.toInt) (hb2 : b.toInt ≤ 288) (hc : 0 ≤ c.toInt) (hc2 : c.toInt ≤ 288) : (a * b * c).toInt = a.toInt * (b.toInt * c.toInt) := by
  have h1 : 0 ≤ a.toInt * b.toInt := Int.mul_nonneg ha hb
  have h2 : a.toInt * b.toInt ≤ 288 * 288 := Int.mul_le_mul ha2 hb2 hb (by decide)
  have e1 : (a * b).toInt = a.toInt * b.toInt := by
    rw [Int32.toInt_mul, cx_bm32]
    simp only [cx_i32]
    omega
  have h3 : 0 ≤ a.toInt * b.toInt * c.toInt := Int.mul_nonneg h1 hc
  have h4 : a.toInt * b.toInt * c.toInt ≤ 288 * 288 * 288 := Int.mul_le_mul h2 hc2 hc (by decide)
  rw [Int32.toInt_mul, e1, cx_bm32, Int.mul_assoc]
  simp only [cx_i32]
  omega
theorem cv_Register_search : cx_valid cx_B0 140 ck_Register_search := by
  intro X σ0 ls I J R T hX2 hh hok
  obtain ⟨v1, t1, rfl, rfl, g2⟩ := cx_L_inv hok.1
  obtain rfl := cx_L_nil g2 rfl
  have fin : cx_post cx_B0 ck_Register_search σ0 I J T 0 0 none (ev_hp I J R T) 0 0 := cx_same hh (cx_leT_r T) rfl rfl List.mem_cons_self (cx_ext_r σ0) (cx_ok_none hok.2.2.1 I T)
  have hA := ev_sz_b hh.1 0
  have hB := ev_sz_b hh.1 1
  have hC := ev_sz_b hh.1 2
  have hw := ev_mul3 hA.1 hA.2 hB.1 hB.2 hC.1 hC.2
  have e0 : (0 : Int32).toInt = 0 := by decide
  have e1 : (1 : Int32).toInt = 1 := by decide
  have e10 : (10000 : Int32).toInt = 10000 := by decide
  refine ev_call (eh_sr_r1 X I J R T _ _) (eh_cb X I J R T) ?_
  rintro _ _ _ _ ⟨rfl, rfl, rfl, rfl⟩
  generalize ev_sz I 0 * ev_sz I 1 * ev_sz I 2 = w at hw
  refine ev_if (eh_sr_r2 X I J R T w _ _) (fun ht => ev_ret (eh_sr_r4 X I J R T w _ _) fin) (fun _ => ?_)
  refine ev_if (eh_sr_r3 X I J R T w _ _) (fun ht => ?_) (fun ht => ev_ret (eh_sr_r4 X I J R T w _ _) fin)
  have hw2 : w.toInt ≤ 10000 := by
    have := Int32.le_iff_toInt_le.mp (of_decide_eq_true ht)
    rwa [e10] at this
  refine ev_seg (eh_sr_r5 X I J R T w _ _) ?_
  -- the numbers behind the two stores
  have hfr : cx_fr [(6, 3), (6, 4)] I J (ev_sI I 6 (upd (upd (I 6) 4 1) 3 0)) J := cx_fr_I fun q hq => by
    unfold upd
    split
    · rename_i h; subst h; cases hq
    · split
      · rename_i h; subst h; cases hq
      · rfl
  have hhB : cx_hB cx_B0 (ev_sI I 6 (upd (upd (I 6) 4 1) 3 0)) := cx_hB_I hh.1 fun q => by
    unfold upd
    split
    · rename_i h
      subst h
      rw [e0]
      exact ⟨by decide, by decide⟩
    · split
      · rename_i h
        subst h
        rw [e1]
        exact ⟨by decide, by decide⟩
      · exact hh.1 6 q
  have hs0 : ∀ s, ev_sz (ev_sI I 6 (upd (upd (I 6) 4 1) 3 0)) s = ev_sz I s := fun s => by
    unfold ev_sz
    rw [(hfr 3 3 rfl).1, (hfr 5 s rfl).1]
  have h63 : (ev_sI I 6 (upd (upd (I 6) 4 1) 3 0)) 6 3 = 0 := by
    rw [cx_sI_s]
    rfl
  generalize ev_sI I 6 (upd (upd (I 6) 4 1) 3 0) = I1 at hfr hhB hs0 h63
  -- from the loop on
  have tail : ∀ (R' : Nat → Nat) (T' : List ez_C) (c k : Nat), cx_rows R' T' → cx_leT T T' → c + T.length = T'.length → k + cx_mem T = cx_mem T' → ev_W X 140 57 [.ref 6, .int w] [] (ev_hp I1 J R' T') c k (cx_post cx_B0 ck_Register_search σ0 I J T 0 0) := by
    intro R' T' c k h1 h2 h3 h4
    refine ev_call (eh_sr_rA X I1 J R' T' w _ _) (eh_sz X I1 J R' T' 0 0 (by decide) rfl) ?_
    rintro _ _ _ _ ⟨rfl, rfl, rfl, rfl⟩
    rw [hs0]
    refine ev_seg (eh_sr_rB X I1 J R' T' w _ _ _) ?_
    refine (eh_sr_l X hX2 _ hA.2 _ 0 w I1 J R' T' _ _ ⟨hhB, h1⟩ (by decide) rfl ?_).mono ?_
    · rw [h63, hs0, hs0, e0, Int.sub_zero, Int.toNat_of_nonneg hA.1, ← hw]
      omega
    · rintro r h' c' k' ⟨rfl, I2, J2, R2, T2, rfl, q1, q2, q3, q4, q5, q6⟩
      refine ⟨I2, J2, R2, T2, rfl, q1, fun a q hq => ?_, cx_leT_t h2 q3, by omega, by omega, _, List.mem_cons_self, σ0, cx_ext_r σ0, cx_ok_none hok.2.2.1 I2 _⟩
      have hq : cx_may [(6, 3), (6, 4)] a q = false := hq
      have hq2 : cx_may [(6, 3)] a q = false := by
        cases hz : cx_may [(6, 3)] a q with
        | false => rfl
        | true =>
          have : cx_may [(6, 3), (6, 4)] a q = true := by
            unfold cx_may at hz ⊢
            simp only [List.any_cons, List.any_nil, Bool.or_false] at hz ⊢
            rw [hz]
            rfl
          rw [this] at hq
          cases hq
      obtain ⟨z1, z2⟩ := hfr a q hq
      obtain ⟨z3, z4⟩ := q2 a q hq2
      exact ⟨z3.trans z1, z4.trans z2⟩
  obtain ⟨-, n0, n1, n4, a0, a1, a2, a3, a4, b0, b1, b4, hm⟩ := id hh.2
  obtain ⟨f, hf⟩ := cx_row_I (I := I1) (J := J) (R := R) a0
  have en : (Int32.ofNat n0).toInt = n0 := Int32.toInt_ofNat_of_lt (by omega)
  obtain ⟨q1, q2, q3, q4⟩ := ev_grown_s (w := w) b0
  refine ev_alenI (by rfl) hf ?_
  refine ev_if (eh_sr_r6 X I1 J R T w _ _ _) (fun ht => tail R T _ _ hh.2 (cx_leT_r T) (by omega) (by omega)) (fun ht => ?_)
  have hlt : (n0 : Int) < w.toInt := by
    have z := of_decide_eq_false ht
    have : ¬ w.toInt ≤ (Int32.ofNat n0).toInt := fun y => z (Int32.le_iff_toInt_le.mpr y)
    omega
  refine ev_seg (eh_sr_r7 X I1 J R T w _ _) ?_
  refine ev_alenI (by rfl) hf ?_
  refine ev_call (eh_sr_r8 X I1 J R T w _ _ _) (eh_grown X _ _ _) ?_
  rintro _ _ _ _ ⟨rfl, rfl, rfl, rfl⟩
  generalize ev_grown (Int32.ofNat n0) w = g at q1 q2 q3 q4
  have q4 := q4 hw2
  refine ev_newI (by rfl) q1 q2 ?_
  refine ev_seg (eh_sr_r9 X I1 J R _ w _ _ _) ?_
  have hx : cx_isrow 0 g.toInt.toNat (.inl (g.toInt.toNat, .inl fun _ => 0)) := Or.inl ⟨rfl, _, rfl⟩
  have hr := cx_rows_0 hh.2 a0 hx (by omega) (by omega) (by omega)
  exact tail _ _ _ _ hr (cx_leT_app T _) (by simp only [List.length_append, List.length_cons, List.length_nil]; omega) (by rw [cx_mem_app hx]; omega)
