/-! The reference lays all layings: never more than 10000. -/
def cs_i : cx_K := (([(2, 35), (1, 0), (4, 0), (0, 1), (0, 2), (0, 3), (0, 4), (0, 5)], [], [cx_i64, (0, 300), (0, 300), (0, 300), (0, 299), (0, 299)], [], [], []), [], [])
def cs_i_A : List (Nat × cx_A) := [(167, ([(2, 35), (1, 0), (4, 0), (0, 1), (0, 2), (0, 3), (0, 4), (0, 5), (0, 6), (0, 7)], [], [cx_i64, (0, 300), (0, 300), (0, 300), (0, 299), (0, 299), (0, 1), (0, 0)], [], [], []), [])]
def cs_i_G : List (Nat × cx_K) := []
theorem cs_i_g : ∀ g ∈ cs_i_G, cx_valid cx_B0 g.1 g.2 := cx_Gn
set_option maxRecDepth 1000000 in
theorem cs_i_v : cx_run false cx_B0 cs_i_G cs_i 167 (cx_fAn cs_i_A) none 27 false 125 cs_i.1 = true := by decide +kernel
def cs_l : cx_K := (([(2, 35), (1, 0), (4, 0), (0, 1), (0, 2), (0, 3), (0, 4), (0, 5), (0, 6), (0, 7)], [], [cx_i64, (0, 300), (0, 300), (0, 300), (0, 299), (0, 299), (0, 1), (0, 299), (0, 9999)], [], [(35, 14, 8)], []), [(35, 14), (41, 999)], [])
def cs_l_A : List (Nat × cx_A) := [(292, ([(2, 35), (1, 0), (4, 0), (0, 1), (0, 2), (0, 3), (0, 4), (0, 5), (0, 6), (0, 7)], [], [cx_i64, (0, 300), (0, 300), (0, 300), (0, 299), (0, 299), (0, 1), (0, 299), (0, 9999), (0, 10000)], [(9, 8, 1)], [(35, 14, 9)], []), [])]
def cs_l_G : List (Nat × cx_K) := []
theorem cs_l_g : ∀ g ∈ cs_l_G, cx_valid cx_B0 g.1 g.2 := cx_Gn
set_option maxRecDepth 1000000 in
theorem cs_l_v : cx_run false cx_B0 cs_l_G cs_l 167 (cx_fAn cs_l_A) none 72 false 179 cs_l.1 = true := by decide +kernel
section
variable (X : ez_X) (I : Nat → Nat → Int32) (J : Nat → Nat → Int64) (R : Nat → Nat) (T : List ez_C) (al : Int64)
theorem eh_ar_r1 (cz kz : Nat) : ∀ G : ez_F, fx_up X 4 G 167 0 [.ref 35] [] (ev_hp I J R T) cz kz = G 167 4 [.ref 35, .long 1, ez_fill, .int 0] [] (ev_hp I J R T) cz kz := by
  intro G
  rfl
theorem eh_ar_r2 (i : Int32) (cz kz : Nat) : ∀ G : ez_F, fx_up X 4 G 167 4 [.ref 35, .long al, ez_fill, .int i] [] (ev_hp I J R T) cz kz = bif decide (I 35 3 ≤ i) then G 167 33 [.ref 35, .long al, ez_fill, .int i] [] (ev_hp I J R T) cz kz else G 167 12 [.ref 35, .long al, ez_fill, .int i] [] (ev_hp I J R T) cz kz := by
  intro G
  rfl
theorem eh_ar_r3 (i : Int32) (cz kz : Nat) : ∀ G : ez_F, fx_up X 3 G 167 12 [.ref 35, .long al, ez_fill, .int i] [] (ev_hp I J R T) cz kz = ev_C G 190 [.ref 35, .int i] (ev_hp I J R T) fun r h1 c1 k1 => G 167 17 [.ref 35, .long al, ez_fill, .int i] (r.toList ++ []) h1 (cz + c1) (kz + k1) := by
  intro G
  rfl
theorem eh_ar_r4 (i : Int32) (cz kz : Nat) : ∀ G : ez_F, fx_up X 4 G 167 17 [.ref 35, .long al, ez_fill, .int i] [] (ev_hp I J R T) cz kz = G 167 23 [.ref 35, .long al, ez_fill, .int i] [.int i, .ref 38, .long al] (ev_hp I J R T) cz kz := by
  intro G
  rfl
theorem eh_ar_r5 (i v : Int32) (cz kz : Nat) : ∀ G : ez_F, fx_up X 5 G 167 24 [.ref 35, .long al, ez_fill, .int i] [.int v, .long al] (ev_hp I J R T) cz kz = G 167 4 [.ref 35, .long (al * v.toInt64), ez_fill, .int (i + 1)] [] (ev_hp I J R T) cz kz := by
  intro G
  rfl
theorem eh_ar_r6 (i : Int32) (cz kz : Nat) : ∀ G : ez_F, fx_up X 4 G 167 33 [.ref 35, .long al, ez_fill, .int i] [] (ev_hp I J R T) cz kz = bif decide (lg_cmp al 10000 ≤ 0) then G 167 43 [.ref 35, .long al, ez_fill, .int i] [] (ev_hp I J R T) cz kz else G 167 41 [.ref 35, .long al, ez_fill, .int i] [] (ev_hp I J R T) cz kz := by
  intro G
  rfl
theorem eh_ar_r7 (i : Int32) (cz kz : Nat) : ∀ G : ez_F, fx_up X 2 G 167 41 [.ref 35, .long al, ez_fill, .int i] [] (ev_hp I J R T) cz kz = some (some (.int 0), ev_hp I J R T, cz, kz) := by
  intro G
  rfl
theorem eh_ar_r8 (i : Int32) (cz kz : Nat) : ∀ G : ez_F, fx_up X 3 G 167 43 [.ref 35, .long al, ez_fill, .int i] [] (ev_hp I J R T) cz kz = G 167 48 [.ref 35, .long al, ez_fill, .int i] [] (ev_hp (ev_sI I 35 (upd (I 35) 14 0)) J R T) cz kz := by
  intro G
  rfl
/-! a, b, c -/
theorem eh_ar_a1 (i : Int32) (cz kz : Nat) : ∀ G : ez_F, fx_up X 3 G 167 48 [.ref 35, .long al, ez_fill, .int i] [] (ev_hp I J R T) cz kz = bif decide (I 35 3 ≤ 0) then G 167 64 [.ref 35, .long al, ez_fill, .int i] [] (ev_hp I J R T) cz kz else G 167 55 [.ref 35, .long al, ez_fill, .int i] [] (ev_hp I J R T) cz kz := by
  intro G
  rfl
theorem eh_ar_a2 (i : Int32) (cz kz : Nat) : ∀ G : ez_F, fx_up X 6 G 167 55 [.ref 35, .long al, ez_fill, .int i] [] (ev_hp I J R T) cz kz = G 167 66 [.ref 35, .long al, ez_fill, .int (I 38 0)] [] (ev_hp I J R T) cz kz := by
  intro G
  rfl
theorem eh_ar_a3 (i : Int32) (cz kz : Nat) : ∀ G : ez_F, fx_up X 2 G 167 64 [.ref 35, .long al, ez_fill, .int i] [] (ev_hp I J R T) cz kz = G 167 66 [.ref 35, .long al, ez_fill, .int 1] [] (ev_hp I J R T) cz kz := by
  intro G
  rfl
theorem eh_ar_b1 (a : Int32) (cz kz : Nat) : ∀ G : ez_F, fx_up X 4 G 167 66 [.ref 35, .long al, ez_fill, .int a] [] (ev_hp I J R T) cz kz = bif decide (I 35 3 ≤ 1) then G 167 83 [.ref 35, .long al, ez_fill, .int a] [] (ev_hp I J R T) cz kz else G 167 74 [.ref 35, .long al, ez_fill, .int a] [] (ev_hp I J R T) cz kz := by
  intro G
  rfl
theorem eh_ar_b2 (a : Int32) (cz kz : Nat) : ∀ G : ez_F, fx_up X 6 G 167 74 [.ref 35, .long al, ez_fill, .int a] [] (ev_hp I J R T) cz kz = G 167 86 [.ref 35, .long al, ez_fill, .int a, .int (I 38 1)] [] (ev_hp I J R T) cz kz := by
  intro G
  rfl
theorem eh_ar_b3 (a : Int32) (cz kz : Nat) : ∀ G : ez_F, fx_up X 2 G 167 83 [.ref 35, .long al, ez_fill, .int a] [] (ev_hp I J R T) cz kz = G 167 86 [.ref 35, .long al, ez_fill, .int a, .int 1] [] (ev_hp I J R T) cz kz := by
  intro G
  rfl
theorem eh_ar_c1 (a b : Int32) (cz kz : Nat) : ∀ G : ez_F, fx_up X 4 G 167 86 [.ref 35, .long al, ez_fill, .int a, .int b] [] (ev_hp I J R T) cz kz = bif decide (I 35 3 ≤ 2) then G 167 103 [.ref 35, .long al, ez_fill, .int a, .int b] [] (ev_hp I J R T) cz kz else G 167 94 [.ref 35, .long al, ez_fill, .int a, .int b] [] (ev_hp I J R T) cz kz := by
  intro G
  rfl
theorem eh_ar_c2 (a b : Int32) (cz kz : Nat) : ∀ G : ez_F, fx_up X 8 G 167 94 [.ref 35, .long al, ez_fill, .int a, .int b] [] (ev_hp I J R T) cz kz = G 167 109 [.ref 35, .long al, ez_fill, .int a, .int b, .int (I 38 2), .int 0] [] (ev_hp I J R T) cz kz := by
  intro G
  rfl
theorem eh_ar_c3 (a b : Int32) (cz kz : Nat) : ∀ G : ez_F, fx_up X 4 G 167 103 [.ref 35, .long al, ez_fill, .int a, .int b] [] (ev_hp I J R T) cz kz = G 167 109 [.ref 35, .long al, ez_fill, .int a, .int b, .int 1, .int 0] [] (ev_hp I J R T) cz kz := by
  intro G
  rfl
/-! the loops -/
theorem eh_ar_i1 (a b c i : Int32) (cz kz : Nat) : ∀ G : ez_F, fx_up X 3 G 167 109 [.ref 35, .long al, ez_fill, .int a, .int b, .int c, .int i] [] (ev_hp I J R T) cz kz = bif decide (a ≤ i) then G 167 310 [.ref 35, .long al, ez_fill, .int a, .int b, .int c, .int i] [] (ev_hp I J R T) cz kz else G 167 115 [.ref 35, .long al, ez_fill, .int a, .int b, .int c, .int i] [] (ev_hp I J R T) cz kz := by
  intro G
  rfl
theorem eh_ar_i2 (a b c i : Int32) (cz kz : Nat) : ∀ G : ez_F, fx_up X 2 G 167 310 [.ref 35, .long al, ez_fill, .int a, .int b, .int c, .int i] [] (ev_hp I J R T) cz kz = some (some (.int 1), ev_hp I J R T, cz, kz) := by
  intro G
  rfl
theorem eh_ar_i3 (a b c i : Int32) (cz kz : Nat) : ∀ G : ez_F, fx_up X 2 G 167 115 [.ref 35, .long al, ez_fill, .int a, .int b, .int c, .int i] [] (ev_hp I J R T) cz kz = G 167 118 [.ref 35, .long al, ez_fill, .int a, .int b, .int c, .int i, .int 0] [] (ev_hp I J R T) cz kz := by
  intro G
  rfl
theorem eh_ar_i4 (a b c i j : Int32) (cz kz : Nat) : ∀ G : ez_F, fx_up X 2 G 167 304 [.ref 35, .long al, ez_fill, .int a, .int b, .int c, .int i, .int j] [] (ev_hp I J R T) cz kz = G 167 109 [.ref 35, .long al, ez_fill, .int a, .int b, .int c, .int (i + 1), .int j] [] (ev_hp I J R T) cz kz := by
  intro G
  rfl
theorem eh_ar_j1 (a b c i j : Int32) (cz kz : Nat) : ∀ G : ez_F, fx_up X 3 G 167 118 [.ref 35, .long al, ez_fill, .int a, .int b, .int c, .int i, .int j] [] (ev_hp I J R T) cz kz = bif decide (b ≤ j) then G 167 304 [.ref 35, .long al, ez_fill, .int a, .int b, .int c, .int i, .int j] [] (ev_hp I J R T) cz kz else G 167 125 [.ref 35, .long al, ez_fill, .int a, .int b, .int c, .int i, .int j] [] (ev_hp I J R T) cz kz := by
  intro G
  rfl
theorem eh_ar_j2 (a b c i j w k : Int32) (cz kz : Nat) : ∀ G : ez_F, fx_up X 2 G 167 298 [.ref 35, .long al, ez_fill, .int a, .int b, .int c, .int i, .int j, .int w, .int k] [] (ev_hp I J R T) cz kz = G 167 118 [.ref 35, .long al, ez_fill, .int a, .int b, .int c, .int i, .int (j + 1), .int w, .int k] [] (ev_hp I J R T) cz kz := by
  intro G
  rfl
theorem eh_ar_k1 (a b c i j w k : Int32) (cz kz : Nat) : ∀ G : ez_F, fx_up X 3 G 167 167 [.ref 35, .long al, ez_fill, .int a, .int b, .int c, .int i, .int j, .int w, .int k] [] (ev_hp I J R T) cz kz = bif decide (c ≤ k) then G 167 298 [.ref 35, .long al, ez_fill, .int a, .int b, .int c, .int i, .int j, .int w, .int k] [] (ev_hp I J R T) cz kz else G 167 174 [.ref 35, .long al, ez_fill, .int a, .int b, .int c, .int i, .int j, .int w, .int k] [] (ev_hp I J R T) cz kz := by
  intro G
  rfl
theorem eh_ar_k2 (a b c i j w k : Int32) (cz kz : Nat) : ∀ G : ez_F, fx_up X 2 G 167 174 [.ref 35, .long al, ez_fill, .int a, .int b, .int c, .int i, .int j, .int w, .int k] [] (ev_hp I J R T) cz kz = bif decide (w = 0) then G 167 298 [.ref 35, .long al, ez_fill, .int a, .int b, .int c, .int i, .int j, .int w, .int k] [] (ev_hp I J R T) cz kz else G 167 179 [.ref 35, .long al, ez_fill, .int a, .int b, .int c, .int i, .int j, .int w, .int k] [] (ev_hp I J R T) cz kz := by
  intro G
  rfl
theorem eh_ar_k3 (a b c i j w k : Int32) (cz kz : Nat) : ∀ G : ez_F, fx_up X 2 G 167 292 [.ref 35, .long al, ez_fill, .int a, .int b, .int c, .int i, .int j, .int w, .int k] [] (ev_hp I J R T) cz kz = G 167 167 [.ref 35, .long al, ez_fill, .int a, .int b, .int c, .int i, .int j, .int w, .int (k + 1)] [] (ev_hp I J R T) cz kz := by
  intro G
  rfl
end
/-- what may have changed since the loops began -/
def ar_S (I : Nat → Nat → Int32) (J : Nat → Nat → Int64) (T : List ez_C) (c0 k0 : Nat) (I' : Nat → Nat → Int32) (J' : Nat → Nat → Int64) (R' : Nat → Nat) (T' : List ez_C) (c k : Nat) : Prop := cx_hok cx_B0 I' R' T' ∧ cx_fr [(35, 14), (41, 999)] I J I' J' ∧ cx_leT T T' ∧ c + T.length = c0 + T'.length ∧ k + cx_mem T = k0 + cx_mem T'
theorem ar_S_t {I I1 I2 : Nat → Nat → Int32} {J J1 J2 : Nat → Nat → Int64} {R1 R2 : Nat → Nat} {T T1 T2 : List ez_C} {c0 k0 c1 k1 c2 k2 : Nat} (h : ar_S I J T c0 k0 I1 J1 R1 T1 c1 k1) (h2 : ar_S I1 J1 T1 c1 k1 I2 J2 R2 T2 c2 k2) : ar_S I J T c0 k0 I2 J2 R2 T2 c2 k2 := by
  obtain ⟨-, a2, a3, a4, a5⟩ := h
  obtain ⟨b1, b2, b3, b4, b5⟩ := h2
  exact ⟨b1, cx_fr_t a2 b2, cx_leT_t a3 b3, by omega, by omega⟩
section
variable {X : ez_X} {a b c : Int32} {Q : ev_Q}
theorem ar_k (hX2 : X.1 < 2 ^ 31) (ha : 0 ≤ a.toInt ∧ a.toInt ≤ 300) (hb : 0 ≤ b.toInt ∧ b.toInt ≤ 300) (hc : 0 ≤ c.toInt ∧ c.toInt ≤ 300) (hi : Int) (hhi : hi ≤ 10000) {i j w : Int32} (hI : 0 ≤ i.toInt ∧ i.toInt ≤ 299) (hJ : 0 ≤ j.toInt ∧ j.toInt ≤ 299) (hw : 0 ≤ w.toInt ∧ w.toInt ≤ 1) {I0 : Nat → Nat → Int32} {J0 : Nat → Nat → Int64} {T0 : List ez_C} {c0 k0 : Nat}
    (cont : ∀ (al : Int64) (k : Int32) (I' : Nat → Nat → Int32) (J' : Nat → Nat → Int64) (R' : Nat → Nat) (T' : List ez_C) (c' k' : Nat), ar_S I0 J0 T0 c0 k0 I' J' R' T' c' k' → (I' 35 14).toInt ≤ hi →
      ev_W X 167 298 [.ref 35, .long al, ez_fill, .int a, .int b, .int c, .int i, .int j, .int w, .int k] [] (ev_hp I' J' R' T') c' k' Q) :
    ∀ (D : Nat) (k : Int32) (al : Int64) (I' : Nat → Nat → Int32) (J' : Nat → Nat → Int64) (R' : Nat → Nat) (T' : List ez_C) (c' k' : Nat), 0 ≤ k.toInt → (c.toInt - k.toInt).toNat = D → ar_S I0 J0 T0 c0 k0 I' J' R' T' c' k' → (I' 35 14).toInt + (D : Int) ≤ hi →
      ev_W X 167 167 [.ref 35, .long al, ez_fill, .int a, .int b, .int c, .int i, .int j, .int w, .int k] [] (ev_hp I' J' R' T') c' k' Q := by
  have e1 : (1 : Int32).toInt = 1 := by decide
  intro D
  induction D with
  | zero =>
    intro k al I' J' R' T' c' k' hk hD hS hL
    refine ev_if (eh_ar_k1 X I' J' R' T' al a b c i j w k _ _) (fun _ => cont al k I' J' R' T' c' k' hS (by omega)) (fun z => ?_)
    exact absurd (Int32.le_iff_toInt_le.mpr (by omega)) (of_decide_eq_false z)
  | succ D ih =>
    intro k al I' J' R' T' c' k' hk hD hS hL
    refine ev_if (eh_ar_k1 X I' J' R' T' al a b c i j w k _ _) (fun _ => cont al k I' J' R' T' c' k' hS (by omega)) (fun _ => ?_)
    refine ev_if (eh_ar_k2 X I' J' R' T' al a b c i j w k _ _) (fun _ => cont al k I' J' R' T' c' k' hS (by omega)) (fun _ => ?_)
    have h14 := hS.1.1 35 14
    rw [show cx_B0 35 14 = (0, 10000) from rfl] at h14
    simp only at h14
    have hk1 : (k + 1).toInt = k.toInt + 1 := by
      rw [Int32.toInt_add, e1, cx_bm32]
      simp only [cx_i32]
      omega
    refine cx_seg (K := cs_l) cx_hA0 cs_l_g cs_l_v (σ0 := [al.toInt, a.toInt, b.toInt, c.toInt, i.toInt, j.toInt, w.toInt, k.toInt, (I' 35 14).toInt]) hX2 hS.1
      ⟨⟨rfl, ⟨al, rfl, rfl⟩, rfl, ⟨a, rfl, rfl⟩, ⟨b, rfl, rfl⟩, ⟨c, rfl, rfl⟩, ⟨i, rfl, rfl⟩, ⟨j, rfl, rfl⟩, ⟨w, rfl, rfl⟩, ⟨k, rfl, rfl⟩, trivial⟩, trivial,
        cx_iv_cons (cx_full64 al) (cx_iv_cons ha (cx_iv_cons hb (cx_iv_cons hc (cx_iv_cons hI (cx_iv_cons hJ (cx_iv_cons hw (cx_iv_cons (by simp only; omega) (cx_iv_cons (by simp only; omega) cx_iv_nil)))))))), cx_nil,
        fun e he => by rw [List.mem_singleton.mp he]; rfl, fun e he => (by cases he)⟩ ?_ ?_
    · rintro r h' c' k' ⟨I', J', R', T', -, -, -, -, -, -, E, hE, -⟩
      cases hE
    · intro pc' A hA σ ls' st' I2 J2 R2 T2 c2 k2 x1 x2 x3 x4 x5 x6 x7
      obtain ⟨rfl, rfl⟩ := cx_fAn1 hA
      obtain ⟨y1, y2, y3, y4, y5, -⟩ := x7
      obtain ⟨v1, t1, rfl, rfl, g1⟩ := cx_L_inv y1
      obtain ⟨v2, t2, rfl, ⟨al', rfl, -⟩, g2⟩ := cx_L_inv g1
      obtain ⟨v3, t3, rfl, rfl, g3⟩ := cx_L_inv g2
      obtain ⟨v4, t4, rfl, ⟨a', rfl, z4⟩, g4⟩ := cx_L_inv g3
      obtain ⟨v5, t5, rfl, ⟨b', rfl, z5⟩, g5⟩ := cx_L_inv g4
      obtain ⟨v6, t6, rfl, ⟨c3, rfl, z6⟩, g6⟩ := cx_L_inv g5
      obtain ⟨v7, t7, rfl, ⟨i', rfl, z7⟩, g7⟩ := cx_L_inv g6
      obtain ⟨v8, t8, rfl, ⟨j', rfl, z8⟩, g8⟩ := cx_L_inv g7
      obtain ⟨v9, t9, rfl, ⟨w', rfl, z9⟩, g9⟩ := cx_L_inv g8
      obtain ⟨va, ta, rfl, ⟨k3, rfl, za⟩, ga⟩ := cx_L_inv g9
      obtain rfl := cx_L_nil ga rfl
      obtain rfl := cx_L_nil y2 rfl
      have q1 := x1 1 a.toInt rfl
      have q2 := x1 2 b.toInt rfl
      have q3 := x1 3 c.toInt rfl
      have q4 := x1 4 i.toInt rfl
      have q5 := x1 5 j.toInt rfl
      have q6 := x1 6 w.toInt rfl
      have q7 := x1 7 k.toInt rfl
      have q8 := x1 8 (I' 35 14).toInt rfl
      rw [z4] at q1
      rw [z5] at q2
      rw [z6] at q3
      rw [z7] at q4
      rw [z8] at q5
      rw [z9] at q6
      rw [za] at q7
      injection q1 with q1
      injection q2 with q2
      injection q3 with q3
      injection q4 with q4
      injection q5 with q5
      injection q6 with q6
      injection q7 with q7
      obtain rfl := cx_i32_eq q1
      obtain rfl := cx_i32_eq q2
      obtain rfl := cx_i32_eq q3
      obtain rfl := cx_i32_eq q4
      obtain rfl := cx_i32_eq q5
      obtain rfl := cx_i32_eq q6
      obtain rfl := cx_i32_eq q7
      have w9 := y5 (35, 14, 9) List.mem_cons_self
      obtain ⟨p1, p2, o1, o2, o3⟩ := y4 (9, 8, 1) (by decide)
      simp only at o1 o2 o3 w9
      rw [w9] at o1
      rw [q8] at o2
      injection o1 with o1
      injection o2 with o2
      refine ev_seg (eh_ar_k3 X I2 J2 R2 T2 al' a' b' c3 i' j' w' k3 _ _) ?_
      exact ih (k3 + 1) al' I2 J2 R2 T2 c2 k2 (by omega) (by omega) (ar_S_t hS ⟨x2, x3, x4, x5, x6⟩) (by omega)
theorem ar_j (hX2 : X.1 < 2 ^ 31) (ha : 0 ≤ a.toInt ∧ a.toInt ≤ 300) (hb : 0 ≤ b.toInt ∧ b.toInt ≤ 300) (hc : 0 ≤ c.toInt ∧ c.toInt ≤ 300) (hi : Int) (hhi : hi ≤ 10000) {i : Int32} (hI : 0 ≤ i.toInt ∧ i.toInt ≤ 299) {I0 : Nat → Nat → Int32} {J0 : Nat → Nat → Int64} {T0 : List ez_C} {c0 k0 : Nat}
    (cont : ∀ (al : Int64) (j : Int32) (I' : Nat → Nat → Int32) (J' : Nat → Nat → Int64) (R' : Nat → Nat) (T' : List ez_C) (c' k' : Nat), ar_S I0 J0 T0 c0 k0 I' J' R' T' c' k' → (I' 35 14).toInt ≤ hi →
      ev_W X 167 304 [.ref 35, .long al, ez_fill, .int a, .int b, .int c, .int i, .int j] [] (ev_hp I' J' R' T') c' k' Q) :
    ∀ (D : Nat) (j : Int32) (al : Int64) (I' : Nat → Nat → Int32) (J' : Nat → Nat → Int64) (R' : Nat → Nat) (T' : List ez_C) (c' k' : Nat), 0 ≤ j.toInt → (b.toInt - j.toInt).toNat = D → ar_S I0 J0 T0 c0 k0 I' J' R' T' c' k' → (I' 35 14).toInt + (D : Int) * c.toInt ≤ hi →
      ev_W X 167 118 [.ref 35, .long al, ez_fill, .int a, .int b, .int c, .int i, .int j] [] (ev_hp I' J' R' T') c' k' Q := by
  have e1 : (1 : Int32).toInt = 1 := by decide
  intro D
  induction D with
  | zero =>
    intro j al I' J' R' T' c' k' hj hD hS hL
    refine ev_if (eh_ar_j1 X I' J' R' T' al a b c i j _ _) (fun _ => cont al j I' J' R' T' c' k' hS (by simpa using hL)) (fun z => ?_)
    exact absurd (Int32.le_iff_toInt_le.mpr (by omega)) (of_decide_eq_false z)
  | succ D ih =>
    intro j al I' J' R' T' c' k' hj hD hS hL
    rw [ev_mulS] at hL
    have hDc : 0 ≤ (D : Int) * c.toInt := Int.mul_nonneg (Int.natCast_nonneg D) hc.1
    refine ev_if (eh_ar_j1 X I' J' R' T' al a b c i j _ _) (fun _ => cont al j I' J' R' T' c' k' hS (by omega)) (fun _ => ?_)
    have hj1 : (j + 1).toInt = j.toInt + 1 := by
      rw [Int32.toInt_add, e1, cx_bm32]
      simp only [cx_i32]
      omega
    have hJ : 0 ≤ j.toInt ∧ j.toInt ≤ 299 := by omega
    refine cx_seg (K := cs_i) cx_hA0 cs_i_g cs_i_v (σ0 := [al.toInt, a.toInt, b.toInt, c.toInt, i.toInt, j.toInt]) hX2 hS.1
      ⟨⟨rfl, ⟨al, rfl, rfl⟩, rfl, ⟨a, rfl, rfl⟩, ⟨b, rfl, rfl⟩, ⟨c, rfl, rfl⟩, ⟨i, rfl, rfl⟩, ⟨j, rfl, rfl⟩, trivial⟩, trivial,
        cx_iv_cons (cx_full64 al) (cx_iv_cons ha (cx_iv_cons hb (cx_iv_cons hc (cx_iv_cons hI (cx_iv_cons hJ cx_iv_nil))))), cx_nil,
        fun e he => (by cases he), fun e he => (by cases he)⟩ ?_ ?_
    · rintro r h' c' k' ⟨I', J', R', T', -, -, -, -, -, -, E, hE, -⟩
      cases hE
    · intro pc' A hA σ ls' st' I2 J2 R2 T2 c2 k2 x1 x2 x3 x4 x5 x6 x7
      obtain ⟨rfl, rfl⟩ := cx_fr_nil x3
      obtain ⟨rfl, rfl⟩ := cx_fAn1 hA
      obtain ⟨y1, y2, y3, -⟩ := x7
      obtain ⟨v1, t1, rfl, rfl, g1⟩ := cx_L_inv y1
      obtain ⟨v2, t2, rfl, ⟨al', rfl, -⟩, g2⟩ := cx_L_inv g1
      obtain ⟨v3, t3, rfl, rfl, g3⟩ := cx_L_inv g2
      obtain ⟨v4, t4, rfl, ⟨a', rfl, z4⟩, g4⟩ := cx_L_inv g3
      obtain ⟨v5, t5, rfl, ⟨b', rfl, z5⟩, g5⟩ := cx_L_inv g4
      obtain ⟨v6, t6, rfl, ⟨c3, rfl, z6⟩, g6⟩ := cx_L_inv g5
      obtain ⟨v7, t7, rfl, ⟨i', rfl, z7⟩, g7⟩ := cx_L_inv g6
      obtain ⟨v8, t8, rfl, ⟨j', rfl, z8⟩, g8⟩ := cx_L_inv g7
      obtain ⟨v9, t9, rfl, ⟨w, rfl, z9⟩, g9⟩ := cx_L_inv g8
      obtain ⟨va, ta, rfl, ⟨k, rfl, za⟩, ga⟩ := cx_L_inv g9
      obtain rfl := cx_L_nil ga rfl
      obtain rfl := cx_L_nil y2 rfl
      have q1 := x1 1 a.toInt rfl
      have q2 := x1 2 b.toInt rfl
      have q3 := x1 3 c.toInt rfl
      have q4 := x1 4 i.toInt rfl
      have q5 := x1 5 j.toInt rfl
      rw [z4] at q1
      rw [z5] at q2
      rw [z6] at q3
      rw [z7] at q4
      rw [z8] at q5
      injection q1 with q1
      injection q2 with q2
      injection q3 with q3
      injection q4 with q4
      injection q5 with q5
      obtain rfl := cx_i32_eq q1
      obtain rfl := cx_i32_eq q2
      obtain rfl := cx_i32_eq q3
      obtain rfl := cx_i32_eq q4
      obtain rfl := cx_i32_eq q5
      have hw := y3.2 6 w.toInt (0, 1) z9 rfl
      have hk := y3.2 7 k.toInt (0, 0) za rfl
      simp only at hw hk
      have hS2 : ar_S I0 J0 T0 c0 k0 I2 J2 R2 T2 c2 k2 := ar_S_t hS ⟨x2, cx_fr_r _ _ _, x4, x5, x6⟩
      refine ar_k hX2 ha hb hc ((I2 35 14).toInt + c3.toInt) (by omega) hI hJ hw (I0 := I0) (J0 := J0) (T0 := T0) (c0 := c0) (k0 := k0) (fun al2 k2' I3 J3 R3 T3 c4 k4 hS3 hL3 => ?_) (c3.toInt - k.toInt).toNat k al' I2 J2 R2 T2 c2 k2 (by omega) rfl hS2 (by omega)
      refine ev_seg (eh_ar_j2 X I3 J3 R3 T3 al2 a' b' c3 i' j' w k2' _ _) ?_
      refine ev_cutl (by rfl) ?_
      exact ih (j' + 1) al2 I3 J3 R3 T3 c4 k4 (by omega) (by omega) hS3 (by omega)
theorem ar_i (hX2 : X.1 < 2 ^ 31) (ha : 0 ≤ a.toInt ∧ a.toInt ≤ 300) (hb : 0 ≤ b.toInt ∧ b.toInt ≤ 300) (hc : 0 ≤ c.toInt ∧ c.toInt ≤ 300) {I0 : Nat → Nat → Int32} {J0 : Nat → Nat → Int64} {T0 : List ez_C} {c0 k0 : Nat}
    (cont : ∀ (I' : Nat → Nat → Int32) (J' : Nat → Nat → Int64) (R' : Nat → Nat) (T' : List ez_C) (c' k' : Nat), ar_S I0 J0 T0 c0 k0 I' J' R' T' c' k' → Q (some (.int 1)) (ev_hp I' J' R' T') c' k') :
    ∀ (D : Nat) (i : Int32) (al : Int64) (I' : Nat → Nat → Int32) (J' : Nat → Nat → Int64) (R' : Nat → Nat) (T' : List ez_C) (c' k' : Nat), 0 ≤ i.toInt → (a.toInt - i.toInt).toNat = D → ar_S I0 J0 T0 c0 k0 I' J' R' T' c' k' → (I' 35 14).toInt + (D : Int) * (b.toInt * c.toInt) ≤ 10000 →
      ev_W X 167 109 [.ref 35, .long al, ez_fill, .int a, .int b, .int c, .int i] [] (ev_hp I' J' R' T') c' k' Q := by
  have e0 : (0 : Int32).toInt = 0 := by decide
  have e1 : (1 : Int32).toInt = 1 := by decide
  intro D
  induction D with
  | zero =>
    intro i al I' J' R' T' c' k' hj hD hS hL
    refine ev_if (eh_ar_i1 X I' J' R' T' al a b c i _ _) (fun _ => ev_ret (eh_ar_i2 X I' J' R' T' al a b c i _ _) (cont I' J' R' T' c' k' hS)) (fun z => ?_)
    exact absurd (Int32.le_iff_toInt_le.mpr (by omega)) (of_decide_eq_false z)
  | succ D ih =>
    intro i al I' J' R' T' c' k' hj hD hS hL
    rw [ev_mulS] at hL
    have hbc : 0 ≤ b.toInt * c.toInt := Int.mul_nonneg hb.1 hc.1
    have hDc : 0 ≤ (D : Int) * (b.toInt * c.toInt) := Int.mul_nonneg (Int.natCast_nonneg D) hbc
    refine ev_if (eh_ar_i1 X I' J' R' T' al a b c i _ _) (fun _ => ev_ret (eh_ar_i2 X I' J' R' T' al a b c i _ _) (cont I' J' R' T' c' k' hS)) (fun _ => ?_)
    have hi1 : (i + 1).toInt = i.toInt + 1 := by
      rw [Int32.toInt_add, e1, cx_bm32]
      simp only [cx_i32]
      omega
    refine ev_seg (eh_ar_i3 X I' J' R' T' al a b c i _ _) ?_
    refine ar_j hX2 ha hb hc ((I' 35 14).toInt + b.toInt * c.toInt) (by omega) (by omega) (I0 := I0) (J0 := J0) (T0 := T0) (c0 := c0) (k0 := k0) (fun al2 j I3 J3 R3 T3 c4 k4 hS3 hL3 => ?_) (b.toInt - (0 : Int32).toInt).toNat 0 al I' J' R' T' c' k' (by decide) rfl hS ?_
    · refine ev_seg (eh_ar_i4 X I3 J3 R3 T3 al2 a b c i j _ _) ?_
      refine ev_cutl (by rfl) ?_
      exact ih (i + 1) al2 I3 J3 R3 T3 c4 k4 (by omega) (by omega) hS3 (by omega)
    · rw [e0, Int.sub_zero, Int.toNat_of_nonneg hb.1]
      omega
end
