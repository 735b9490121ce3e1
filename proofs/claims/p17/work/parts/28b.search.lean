/-! All layings of the class are found: never more than 10000. -/
def cs_t : cx_K := (([(2, 6), (0, 0), (1, 1), (4, 0), (0, 2), (0, 3)], [], [cx_i32, cx_i64, (0, 288), (0, 287), (0, 9999)], [], [(6, 3, 4)], []), [(6, 3)], [])
def cs_t_A : List (Nat × cx_A) := [(13, ([(2, 6), (0, 0), (1, 1), (4, 0), (0, 2), (0, 5)], [], [cx_i32, cx_i64, (0, 288), (0, 287), (0, 9999), (1, 288), (0, 10000)], [(5, 3, 1), (3, 5, -1), (6, 4, 1)], [(6, 3, 6)], []), [])]
def cs_t_G : List (Nat × cx_K) := [(86, ck_86_0), (38, ck_puI)]
theorem cs_t_g : ∀ g ∈ cs_t_G, cx_valid cx_B0 g.1 g.2 := (cx_Gc cv_86_0 (cx_Gc cv_puI cx_Gn))
set_option maxRecDepth 1000000 in
theorem cs_t_v : cx_run false cx_B0 cs_t_G cs_t 142 (cx_fAn cs_t_A) none 32 false 20 cs_t.1 = true := by decide +kernel
def cs_s : cx_K := (([(2, 6), (0, 0), (1, 1), (4, 0), (0, 2), (0, 3)], [], [cx_i32, cx_i64, (0, 288), (0, 287)], [], [], []), [], [])
def cs_s_A : List (Nat × cx_A) := [(60, ([(2, 6), (0, 0), (1, 1), (4, 0), (0, 2), (0, 3), (1, 4), (4, 0)], [(1, 5), (0, 6), (2, 6)], [cx_i32, cx_i64, (0, 288), (0, 287), cx_i64, cx_i64, cx_i32], [], [], []), []), (63, ([(2, 6), (0, 0), (1, 1), (4, 0), (0, 2), (0, 3), (1, 4), (4, 0)], [], [cx_i32, cx_i64, (0, 288), (0, 287), cx_i64], [], [], []), [])]
def cs_s_G : List (Nat × cx_K) := [(86, ck_86_0), (144, ck_144_0)]
theorem cs_s_g : ∀ g ∈ cs_s_G, cx_valid cx_B0 g.1 g.2 := (cx_Gc cv_86_0 (cx_Gc cv_144_0 cx_Gn))
set_option maxRecDepth 1000000 in
theorem cs_s_v : cx_run false cx_B0 cs_s_G cs_s 141 (cx_fAn cs_s_A) none 28 false 20 cs_s.1 = true := by decide +kernel
def cs_f : cx_K := (([(2, 6), (0, 0), (0, 1), (0, 2)], [], [cx_i32, (0, 288), (0, 287)], [], [], []), [], [])
def cs_f_A : List (Nat × cx_A) := [(91, ([(2, 6), (0, 0), (0, 1), (0, 2)], [(1, 3), (0, 2), (2, 6)], [cx_i32, (0, 288), (0, 287), cx_i64], [], [], []), [])]
def cs_f_G : List (Nat × cx_K) := [(86, ck_86_0), (144, ck_144_0)]
theorem cs_f_g : ∀ g ∈ cs_f_G, cx_valid cx_B0 g.1 g.2 := (cx_Gc cv_86_0 (cx_Gc cv_144_0 cx_Gn))
set_option maxRecDepth 1000000 in
theorem cs_f_v : cx_run false cx_B0 cs_f_G cs_f 140 (cx_fAn cs_f_A) none 14 false 73 cs_f.1 = true := by decide +kernel
/-! how many spots a ship has -/
def ev_sz (I : Nat → Nat → Int32) (s : Nat) : Int32 := if Int32.ofNat s < I 3 3 then I 5 s else 1
theorem ev_at3 (f : Nat → Int32) {s : Nat} (hs : s ≤ 2) : ev_at 3 f (Int32.ofNat s) = f s := by
  match s, hs with
  | 0, _ => unfold ev_at; rw [if_neg (by decide), if_neg (by decide)]; rfl
  | 1, _ => unfold ev_at; rw [if_neg (by decide), if_neg (by decide)]; rfl
  | 2, _ => unfold ev_at; rw [if_neg (by decide), if_neg (by decide)]; rfl
section
variable (X : ez_X) (I : Nat → Nat → Int32) (J : Nat → Nat → Int64) (R : Nat → Nat) (T : List ez_C)
theorem eh_sz_r1 (x : Int32) (cz kz : Nat) : ∀ G : ez_F, fx_up X 4 G 94 0 [.ref 3, .int x] [] (ev_hp I J R T) cz kz = bif decide (I 3 3 ≤ x) then G 94 19 [.ref 3, .int x] [] (ev_hp I J R T) cz kz else G 94 8 [.ref 3, .int x] [] (ev_hp I J R T) cz kz := by
  intro G
  rfl
theorem eh_sz_r2 (x : Int32) (cz kz : Nat) : ∀ G : ez_F, fx_up X 4 G 94 8 [.ref 3, .int x] [] (ev_hp I J R T) cz kz = ev_C G 3 [.ref 5, .int x] (ev_hp I J R T) fun r h1 c1 k1 => G 94 16 [.ref 3, .int x] (r.toList ++ []) h1 (cz + c1) (kz + k1) := by
  intro G
  rfl
theorem eh_sz_r3 (x v : Int32) (cz kz : Nat) : ∀ G : ez_F, fx_up X 2 G 94 16 [.ref 3, .int x] [.int v] (ev_hp I J R T) cz kz = some (some (.int v), ev_hp I J R T, cz, kz) := by
  intro G
  rfl
theorem eh_sz_r4 (x : Int32) (cz kz : Nat) : ∀ G : ez_F, fx_up X 2 G 94 19 [.ref 3, .int x] [] (ev_hp I J R T) cz kz = some (some (.int 1), ev_hp I J R T, cz, kz) := by
  intro G
  rfl
theorem eh_sz (x : Int32) (s : Nat) (hs : s ≤ 2) (hx : x = Int32.ofNat s) : ev_W X 94 0 (ez_lay [.ref 3, .int x]) [] (ev_hp I J R T) 0 0 (ev_is (some (.int (ev_sz I s))) (ev_hp I J R T)) := by
  refine ev_if (eh_sz_r1 X I J R T x _ _) (fun ht => ?_) (fun ht => ?_)
  · refine ev_ret (eh_sz_r4 X I J R T x _ _) ⟨?_, rfl, rfl, rfl⟩
    have z := of_decide_eq_true ht
    unfold ev_sz
    rw [hx] at z
    rw [if_neg (Int32.not_lt.mpr z)]
  · refine ev_call (eh_sz_r2 X I J R T x _ _) (ec_at X _ 3 5 x (I 5) (by rfl) (by decide)) ?_
    rintro _ _ _ _ ⟨rfl, rfl, rfl, rfl⟩
    refine ev_ret (eh_sz_r3 X I J R T x _ _ _) ⟨?_, rfl, rfl, rfl⟩
    have z := of_decide_eq_false ht
    unfold ev_sz
    rw [hx] at z ⊢
    rw [if_pos (Int32.not_le.mp z), ev_at3 _ hs]
theorem eh_cb_r1 (cz kz : Nat) : ∀ G : ez_F, fx_up X 3 G 89 0 [.ref 3] [] (ev_hp I J R T) cz kz = ev_C G 94 [.ref 3, .int 0] (ev_hp I J R T) fun r h1 c1 k1 => G 89 5 [.ref 3] (r.toList ++ []) h1 (cz + c1) (kz + k1) := by
  intro G
  rfl
theorem eh_cb_r2 (u : Int32) (cz kz : Nat) : ∀ G : ez_F, fx_up X 3 G 89 5 [.ref 3] [.int u] (ev_hp I J R T) cz kz = ev_C G 94 [.ref 3, .int 1] (ev_hp I J R T) fun r h1 c1 k1 => G 89 10 [.ref 3] (r.toList ++ [.int u]) h1 (cz + c1) (kz + k1) := by
  intro G
  rfl
theorem eh_cb_r3 (u v : Int32) (cz kz : Nat) : ∀ G : ez_F, fx_up X 4 G 89 10 [.ref 3] [.int v, .int u] (ev_hp I J R T) cz kz = ev_C G 94 [.ref 3, .int 2] (ev_hp I J R T) fun r h1 c1 k1 => G 89 16 [.ref 3] (r.toList ++ [.int (u * v)]) h1 (cz + c1) (kz + k1) := by
  intro G
  rfl
theorem eh_cb_r4 (u v : Int32) (cz kz : Nat) : ∀ G : ez_F, fx_up X 2 G 89 16 [.ref 3] [.int v, .int u] (ev_hp I J R T) cz kz = some (some (.int (u * v)), ev_hp I J R T, cz, kz) := by
  intro G
  rfl
theorem eh_cb : ev_W X 89 0 (ez_lay [.ref 3]) [] (ev_hp I J R T) 0 0 (ev_is (some (.int (ev_sz I 0 * ev_sz I 1 * ev_sz I 2))) (ev_hp I J R T)) := by
  refine ev_call (eh_cb_r1 X I J R T _ _) (eh_sz X I J R T 0 0 (by decide) rfl) ?_
  rintro _ _ _ _ ⟨rfl, rfl, rfl, rfl⟩
  refine ev_call (eh_cb_r2 X I J R T _ _ _) (eh_sz X I J R T 1 1 (by decide) rfl) ?_
  rintro _ _ _ _ ⟨rfl, rfl, rfl, rfl⟩
  refine ev_call (eh_cb_r3 X I J R T _ _ _ _) (eh_sz X I J R T 2 2 (by decide) rfl) ?_
  rintro _ _ _ _ ⟨rfl, rfl, rfl, rfl⟩
  exact ev_ret (eh_cb_r4 X I J R T _ _ _ _) ⟨rfl, rfl, rfl, rfl⟩
end
theorem ev_sz_b {I : Nat → Nat → Int32} (h : cx_hB cx_B0 I) (s : Nat) : 0 ≤ (ev_sz I s).toInt ∧ (ev_sz I s).toInt ≤ 288 := by
  have e1 : (1 : Int32).toInt = 1 := by decide
  have h5 := h 5 s
  have hb : cx_B0 5 s = (0, 288) := rfl
  rw [hb] at h5
  simp only at h5
  unfold ev_sz
  split <;> omega
theorem ev_sz_fr {I I' : Nat → Nat → Int32} {J J' : Nat → Nat → Int64} (h : cx_fr [(6, 3)] I J I' J') (s : Nat) : ev_sz I' s = ev_sz I s := by
  unfold ev_sz
  rw [(h 3 3 rfl).1, (h 5 s rfl).1]
/-! the layings' number -/
def cx_q6 (I : Nat → Nat → Int32) (J : Nat → Nat → Int64) (T : List ez_C) (c0 k0 : Nat) (hi : Int) : ev_Q := fun r h' c' k' => r = none ∧ ∃ I' J' R' T', h' = ev_hp I' J' R' T' ∧ cx_hok cx_B0 I' R' T' ∧ cx_fr [(6, 3)] I J I' J' ∧ cx_leT T T' ∧ c' + T.length = c0 + T'.length ∧ k' + cx_mem T = k0 + cx_mem T' ∧ (I' 6 3).toInt ≤ hi
theorem cx_q6_t {I I' : Nat → Nat → Int32} {J J' : Nat → Nat → Int64} {T T' : List ez_C} {c0 k0 c1 k1 : Nat} {hi : Int} {r : Option Value} {h : ez_H} {c k : Nat} (q : cx_q6 I' J' T' c1 k1 hi r h c k) (hf : cx_fr [(6, 3)] I J I' J') (hT : cx_leT T T') (hc : c1 + T.length = c0 + T'.length) (hk : k1 + cx_mem T = k0 + cx_mem T') : cx_q6 I J T c0 k0 hi r h c k := by
  obtain ⟨h0, I2, J2, R2, T2, h1, h2, h3, h4, h5, h6, h7⟩ := q
  exact ⟨h0, I2, J2, R2, T2, h1, h2, cx_fr_t hf h3, cx_leT_t hT h4, by omega, by omega, h7⟩
theorem cx_q6_0 {I : Nat → Nat → Int32} {J : Nat → Nat → Int64} {R : Nat → Nat} {T : List ez_C} {c k : Nat} {hi : Int} (hh : cx_hok cx_B0 I R T) (h : (I 6 3).toInt ≤ hi) : cx_q6 I J T c k hi none (ev_hp I J R T) c k :=
  ⟨rfl, I, J, R, T, rfl, hh, cx_fr_r _ _ _, cx_leT_r T, rfl, rfl, h⟩
section
variable (X : ez_X) (I : Nat → Nat → Int32) (J : Nat → Nat → Int64) (R : Nat → Nat) (T : List ez_C)
theorem eh_t3_r0 (ah : Int32) (bd : Int64) (cz kz : Nat) : ∀ G : ez_F, fx_up X 4 G 142 0 [.ref 6, .int ah, .long bd, ez_fill] [] (ev_hp I J R T) cz kz = ev_C G 94 [.ref 3, .int 2] (ev_hp I J R T) fun r h1 c1 k1 => G 142 8 [.ref 6, .int ah, .long bd, ez_fill] (r.toList ++ []) h1 (cz + c1) (kz + k1) := by
  intro G
  rfl
theorem eh_t3_r1 (ah : Int32) (bd : Int64) (C : Int32) (cz kz : Nat) : ∀ G : ez_F, fx_up X 3 G 142 8 [.ref 6, .int ah, .long bd, ez_fill] [.int C] (ev_hp I J R T) cz kz = G 142 13 [.ref 6, .int ah, .long bd, ez_fill, .int C, .int 0] [] (ev_hp I J R T) cz kz := by
  intro G
  rfl
theorem eh_t3_r2 (ah : Int32) (bd : Int64) (C c : Int32) (cz kz : Nat) : ∀ G : ez_F, fx_up X 3 G 142 13 [.ref 6, .int ah, .long bd, ez_fill, .int C, .int c] [] (ev_hp I J R T) cz kz = bif decide (C ≤ c) then G 142 71 [.ref 6, .int ah, .long bd, ez_fill, .int C, .int c] [] (ev_hp I J R T) cz kz else G 142 20 [.ref 6, .int ah, .long bd, ez_fill, .int C, .int c] [] (ev_hp I J R T) cz kz := by
  intro G
  rfl
theorem eh_t3_r3 (ah : Int32) (bd : Int64) (C c : Int32) (cz kz : Nat) : ∀ G : ez_F, fx_up X 1 G 142 71 [.ref 6, .int ah, .long bd, ez_fill, .int C, .int c] [] (ev_hp I J R T) cz kz = some (none, ev_hp I J R T, cz, kz) := by
  intro G
  rfl
end
theorem eh_t3_l (X : ez_X) (hX2 : X.1 < 2 ^ 31) (hi : Int) (hhi : hi ≤ 10000) (C : Int32) (hC : C.toInt ≤ 288) : ∀ (n : Nat) (c ah : Int32) (bd : Int64) (I : Nat → Nat → Int32) (J : Nat → Nat → Int64) (R : Nat → Nat) (T : List ez_C) (cz kz : Nat), cx_hok cx_B0 I R T → 0 ≤ c.toInt → (C.toInt - c.toInt).toNat ≤ n →
    (I 6 3).toInt + ((C.toInt - c.toInt).toNat : Int) ≤ hi → ev_W X 142 13 [.ref 6, .int ah, .long bd, ez_fill, .int C, .int c] [] (ev_hp I J R T) cz kz (cx_q6 I J T cz kz hi) := by
  intro n
  induction n with
  | zero =>
    intro c ah bd I J R T cz kz hh h0 hn hs
    refine ev_if (eh_t3_r2 X I J R T ah bd C c _ _) (fun ht => ev_ret (eh_t3_r3 X I J R T ah bd C c _ _) (cx_q6_0 hh (by omega))) (fun ht => ?_)
    have z := of_decide_eq_false ht
    exact absurd (Int32.le_iff_toInt_le.mpr (by omega)) z
  | succ n ih =>
    intro c ah bd I J R T cz kz hh h0 hn hs
    refine ev_if (eh_t3_r2 X I J R T ah bd C c _ _) (fun ht => ev_ret (eh_t3_r3 X I J R T ah bd C c _ _) (cx_q6_0 hh (by omega))) (fun ht => ?_)
    have z := of_decide_eq_false ht
    have hlt : c.toInt < C.toInt := Int.not_le.mp fun y => z (Int32.le_iff_toInt_le.mpr y)
    have h63 := hh.1 6 3
    have hb63 : cx_B0 6 3 = (0, 10000) := rfl
    rw [hb63] at h63
    simp only at h63
    refine cx_seg (K := cs_t) cx_hA0 cs_t_g cs_t_v (σ0 := [ah.toInt, bd.toInt, C.toInt, c.toInt, (I 6 3).toInt]) hX2 hh
      ⟨⟨rfl, ⟨ah, rfl, rfl⟩, ⟨bd, rfl, rfl⟩, rfl, ⟨C, rfl, rfl⟩, ⟨c, rfl, rfl⟩, trivial⟩, trivial,
        cx_iv_cons (cx_full32 ah) (cx_iv_cons (cx_full64 bd) (cx_iv_cons (by simp only; omega) (cx_iv_cons (by simp only; omega) (cx_iv_cons (by simp only; omega) cx_iv_nil)))), cx_nil,
        fun e he => by rw [List.mem_singleton.mp he]; rfl, fun e he => (by cases he)⟩ ?_ ?_
    · rintro r h' c' k' ⟨I', J', R', T', -, -, -, -, -, -, E, hE, -⟩
      cases hE
    · intro pc' A hA σ ls' st' I' J' R' T' c' k' x1 x2 x3 x4 x5 x6 x7
      have hA2 := Option.map_eq_some_iff.mp hA
      obtain ⟨e, he, rfl⟩ := hA2
      have hm := List.mem_of_find?_eq_some he
      have hp := List.find?_some he
      rw [List.mem_singleton.mp hm] at x7 hp
      obtain rfl := Nat.eq_of_beq_eq_true hp
      obtain ⟨y1, y2, y3, y4, y5, y6⟩ := x7
      obtain ⟨v1, t1, rfl, rfl, g1⟩ := cx_L_inv y1
      obtain ⟨v2, t2, rfl, ⟨ah', rfl, -⟩, g2⟩ := cx_L_inv g1
      obtain ⟨v3, t3, rfl, ⟨bd', rfl, -⟩, g3⟩ := cx_L_inv g2
      obtain ⟨v4, t4, rfl, rfl, g4⟩ := cx_L_inv g3
      obtain ⟨v5, t5, rfl, ⟨C', rfl, z5⟩, g5⟩ := cx_L_inv g4
      obtain ⟨v6, t6, rfl, ⟨c2, rfl, z6⟩, g6⟩ := cx_L_inv g5
      obtain rfl := cx_L_nil g6 rfl
      obtain rfl := cx_L_nil y2 rfl
      have w2 := x1 2 C.toInt rfl
      have w3 := x1 3 c.toInt rfl
      have w4 := x1 4 (I 6 3).toInt rfl
      rw [z5] at w2
      injection w2 with w2
      obtain rfl := cx_i32_eq w2
      have w6 := y5 (6, 3, 6) List.mem_cons_self
      obtain ⟨p1, p2, o1, o2, o3⟩ := y4 (5, 3, 1) (by decide)
      obtain ⟨p3, p4, o4, o5, o6⟩ := y4 (3, 5, -1) (by decide)
      obtain ⟨p5, p6, o7, o8, o9⟩ := y4 (6, 4, 1) (by decide)
      simp only at o1 o2 o3 o4 o5 o6 o7 o8 o9 w6
      rw [z6] at o1 o5
      rw [w3] at o2 o4
      rw [w6] at o7
      rw [w4] at o8
      injection o1 with o1
      injection o2 with o2
      injection o4 with o4
      injection o5 with o5
      injection o7 with o7
      injection o8 with o8
      have hc2 : c2.toInt = c.toInt + 1 := by omega
      have hI : (I' 6 3).toInt ≤ (I 6 3).toInt + 1 := by omega
      exact (ih c2 ah' bd' I' J' R' T' c' k' x2 (by omega) (by omega) (by omega)).mono fun r h c k q => cx_q6_t q x3 x4 x5 x6
theorem eh_t3 (X : ez_X) (hX2 : X.1 < 2 ^ 31) (hi : Int) (hhi : hi ≤ 10000) (ah : Int32) (bd : Int64) (I : Nat → Nat → Int32) (J : Nat → Nat → Int64) (R : Nat → Nat) (T : List ez_C) (hh : cx_hok cx_B0 I R T) (hs : (I 6 3).toInt + (ev_sz I 2).toInt ≤ hi) :
    ev_W X 142 0 (ez_lay [.ref 6, .int ah, .long bd]) [] (ev_hp I J R T) 0 0 (cx_q6 I J T 0 0 hi) := by
  have hb := ev_sz_b hh.1 2
  refine ev_call (eh_t3_r0 X I J R T ah bd _ _) (eh_sz X I J R T 2 2 (by decide) rfl) ?_
  rintro _ _ _ _ ⟨rfl, rfl, rfl, rfl⟩
  refine ev_seg (eh_t3_r1 X I J R T ah bd _ _ _) ?_
  have e0 : (0 : Int32).toInt = 0 := by decide
  exact eh_t3_l X hX2 hi hhi _ hb.2 _ 0 ah bd I J R T _ _ hh (by decide) (Nat.le_refl _) (by rw [e0]; omega)
