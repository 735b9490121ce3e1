/-! needOf, whole: it ends within 36 calls. -/
section
variable {X : ez_X} {I : Nat → Nat → Int32} {J : Nat → Nat → Int64} {R : Nat → Nat} {T : List ez_C} {cz kz : Nat}
theorem nf_q0 {k : Int32} : ∀ G : ez_F, fx_up X 5 G 213 0 [.ref 35, .int k] [] (ev_hp I J R T) cz kz = G 213 7 [.ref 35, .int k, .int (I 35 14), .int 0] [] (ev_hp I J R T) cz kz := by
  intro G
  rfl
theorem nf_i1 {k : Int32} {z : Int32} {i : Int32} : ∀ G : ez_F, fx_up X 3 G 213 7 [.ref 35, .int k, .int z, .int i] [] (ev_hp I J R T) cz kz = bif decide (z ≤ i) then G 213 25 [.ref 35, .int k, .int z, .int i] [] (ev_hp I J R T) cz kz else G 213 12 [.ref 35, .int k, .int z, .int i] [] (ev_hp I J R T) cz kz := by
  intro G
  rfl
theorem nf_i2 {k : Int32} {z : Int32} {i : Int32} : ∀ G : ez_F, fx_up X 4 G 213 12 [.ref 35, .int k, .int z, .int i] [] (ev_hp I J R T) cz kz = G 213 18 [.ref 35, .int k, .int z, .int i] [.int i, .int i, .ref 59] (ev_hp I J R T) cz kz := by
  intro G
  rfl
theorem nf_i3 {k : Int32} {z : Int32} {i : Int32} : ∀ G : ez_F, fx_up X 2 G 213 19 [.ref 35, .int k, .int z, .int i] [] (ev_hp I J R T) cz kz = G 213 7 [.ref 35, .int k, .int z, .int (i + 1)] [] (ev_hp I J R T) cz kz := by
  intro G
  rfl
theorem nf_q00a {k : Int32} {z : Int32} {i : Int32} : ∀ G : ez_F, fx_up X 3 G 213 25 [.ref 35, .int k, .int z, .int i] [] (ev_hp I J R T) cz kz = G 213 30 [.ref 35, .int k, .int z, .int i] [] (ev_hp (ev_sI I 35 (upd (I 35) 36 0)) J R T) cz kz := by
  intro G
  rfl
theorem nf_q00b {k : Int32} {z : Int32} {i : Int32} : ∀ G : ez_F, fx_up X 5 G 213 30 [.ref 35, .int k, .int z, .int i] [] (ev_hp I J R T) cz kz = bif decide (z ≤ (1 : Int32)) then G 213 41 [.ref 35, .int k, .int z, .long 0, ez_fill] [] (ev_hp I J R T) cz kz else G 213 37 [.ref 35, .int k, .int z, .long 0, ez_fill] [] (ev_hp I J R T) cz kz := by
  intro G
  rfl
theorem nf_q01 {k : Int32} {z : Int32} : ∀ G : ez_F, fx_up X 3 G 213 37 [.ref 35, .int k, .int z, .long 0, ez_fill] [] (ev_hp I J R T) cz kz = G 213 44 [.ref 35, .int k, .int z, .long 0, ez_fill, .int 1] [] (ev_hp I J R T) cz kz := by
  intro G
  rfl
theorem nf_q02 {k : Int32} {z : Int32} : ∀ G : ez_F, fx_up X 2 G 213 41 [.ref 35, .int k, .int z, .long 0, ez_fill] [] (ev_hp I J R T) cz kz = G 213 44 [.ref 35, .int k, .int z, .long 0, ez_fill, .int 0] [] (ev_hp I J R T) cz kz := by
  intro G
  rfl
theorem nf_q1 {k : Int32} {z : Int32} {cd : Int64} {p1 : Int32} : ∀ G : ez_F, fx_up X 2 G 213 44 [.ref 35, .int k, .int z, .long cd, ez_fill, .int p1] [] (ev_hp I J R T) cz kz = bif decide (p1 = (0 : Int32)) then G 213 350 [.ref 35, .int k, .int z, .long cd, ez_fill, .int p1] [] (ev_hp I J R T) cz kz else G 213 49 [.ref 35, .int k, .int z, .long cd, ez_fill, .int p1] [] (ev_hp I J R T) cz kz := by
  intro G
  rfl
theorem nf_q2 {k : Int32} {z : Int32} {cd : Int64} {p1 : Int32} : ∀ G : ez_F, fx_up X 3 G 213 350 [.ref 35, .int k, .int z, .long cd, ez_fill, .int p1] [] (ev_hp I J R T) cz kz = some (some (.int (I 35 36)), ev_hp I J R T, cz, kz) := by
  intro G
  rfl
theorem nf_q3 {k : Int32} {z : Int32} {cd : Int64} {p1 : Int32} : ∀ G : ez_F, fx_up X 8 G 213 49 [.ref 35, .int k, .int z, .long cd, ez_fill, .int p1] [] (ev_hp I J R T) cz kz = G 213 60 [.ref 35, .int k, .int z, .long cd, ez_fill, .int p1, .int 0, .int (z + 1), .int 0] [] (ev_hp I J R T) cz kz := by
  intro G
  rfl
theorem nf_q4 {k : Int32} {z : Int32} {cd : Int64} {p1 : Int32} {b : Int32} {l : Int32} {c : Int32} : ∀ G : ez_F, fx_up X 3 G 213 222 [.ref 35, .int k, .int z, .long cd, ez_fill, .int p1, .int b, .int l, .int c] [] (ev_hp I J R T) cz kz = bif decide (z ≤ l) then G 213 232 [.ref 35, .int k, .int z, .long cd, ez_fill, .int p1, .int b, .int l, .int c] [] (ev_hp I J R T) cz kz else G 213 228 [.ref 35, .int k, .int z, .long cd, ez_fill, .int p1, .int b, .int l, .int c] [] (ev_hp I J R T) cz kz := by
  intro G
  rfl
theorem nf_q5 {k : Int32} {z : Int32} {cd : Int64} {p1 : Int32} {b : Int32} {l : Int32} {c : Int32} : ∀ G : ez_F, fx_up X 5 G 213 228 [.ref 35, .int k, .int z, .long cd, ez_fill, .int p1, .int b, .int l, .int c] [] (ev_hp I J R T) cz kz = bif decide ((1 : Int32) = (0 : Int32)) then G 213 347 [.ref 35, .int k, .int z, .long cd, ez_fill, .int 1, .int b, .int l, .int c] [] (ev_hp I J R T) cz kz else G 213 240 [.ref 35, .int k, .int z, .long cd, ez_fill, .int 1, .int b, .int l, .int c] [] (ev_hp I J R T) cz kz := by
  intro G
  rfl
theorem nf_q6 {k : Int32} {z : Int32} {cd : Int64} {p1 : Int32} {b : Int32} {l : Int32} {c : Int32} : ∀ G : ez_F, fx_up X 4 G 213 232 [.ref 35, .int k, .int z, .long cd, ez_fill, .int p1, .int b, .int l, .int c] [] (ev_hp I J R T) cz kz = bif decide ((0 : Int32) = (0 : Int32)) then G 213 347 [.ref 35, .int k, .int z, .long cd, ez_fill, .int 0, .int b, .int l, .int c] [] (ev_hp I J R T) cz kz else G 213 240 [.ref 35, .int k, .int z, .long cd, ez_fill, .int 0, .int b, .int l, .int c] [] (ev_hp I J R T) cz kz := by
  intro G
  rfl
theorem nf_q7 {k : Int32} {z : Int32} {cd : Int64} {p1 : Int32} {b : Int32} {l : Int32} {c : Int32} : ∀ G : ez_F, fx_up X 1 G 213 347 [.ref 35, .int k, .int z, .long cd, ez_fill, .int p1, .int b, .int l, .int c] [] (ev_hp I J R T) cz kz = G 213 44 [.ref 35, .int k, .int z, .long cd, ez_fill, .int p1, .int b, .int l, .int c] [] (ev_hp I J R T) cz kz := by
  intro G
  rfl
theorem nf_q8 {k : Int32} {z : Int32} {cd : Int64} {p1 : Int32} {b : Int32} {l : Int32} {c : Int32} : ∀ G : ez_F, fx_up X 5 G 213 240 [.ref 35, .int k, .int z, .long cd, ez_fill, .int p1, .int b, .int l, .int c] [] (ev_hp I J R T) cz kz = ev_C G 216 [.ref 35, .int k, .int b, .long cd] (ev_hp I J R T) fun r h1 c1 k1 => G 213 248 [.ref 35, .int k, .int z, .long cd, ez_fill, .int p1, .int b, .int l, .int c] (r.toList ++ []) h1 (cz + c1) (kz + k1) := by
  intro G
  rfl
theorem nf_q9 {k : Int32} {z : Int32} {cd : Int64} {p1 : Int32} {b : Int32} {l : Int32} {c : Int32} {v : Int32} : ∀ G : ez_F, fx_up X 5 G 213 248 [.ref 35, .int k, .int z, .long cd, ez_fill, .int p1, .int b, .int l, .int c] [.int v] (ev_hp I J R T) cz kz = G 213 256 [.ref 35, .int k, .int z, .long cd, ez_fill, .int p1, .int b, .int l, .int v, .int 0, .int 0] [] (ev_hp I J R T) cz kz := by
  intro G
  rfl
theorem nf_f1 {k : Int32} {z : Int32} {cd : Int64} {p1 : Int32} {b : Int32} {l : Int32} {v : Int32} {m : Int32} {i : Int32} : ∀ G : ez_F, fx_up X 3 G 213 256 [.ref 35, .int k, .int z, .long cd, ez_fill, .int p1, .int b, .int l, .int v, .int m, .int i] [] (ev_hp I J R T) cz kz = bif decide (z ≤ i) then G 213 304 [.ref 35, .int k, .int z, .long cd, ez_fill, .int p1, .int b, .int l, .int v, .int m, .int i] [] (ev_hp I J R T) cz kz else G 213 262 [.ref 35, .int k, .int z, .long cd, ez_fill, .int p1, .int b, .int l, .int v, .int m, .int i] [] (ev_hp I J R T) cz kz := by
  intro G
  rfl
theorem nf_f2 {k : Int32} {z : Int32} {cd : Int64} {p1 : Int32} {b : Int32} {l : Int32} {v : Int32} {m : Int32} {i : Int32} : ∀ G : ez_F, fx_up X 4 G 213 262 [.ref 35, .int k, .int z, .long cd, ez_fill, .int p1, .int b, .int l, .int v, .int m, .int i] [] (ev_hp I J R T) cz kz = G 213 269 [.ref 35, .int k, .int z, .long cd, ez_fill, .int p1, .int b, .int l, .int v, .int m, .int i] [.int i, .ref 59, .ref 35] (ev_hp I J R T) cz kz := by
  intro G
  rfl
theorem nf_f3 {k : Int32} {z : Int32} {cd : Int64} {p1 : Int32} {b : Int32} {l : Int32} {v : Int32} {m : Int32} {i : Int32} {g : Int32} : ∀ G : ez_F, fx_up X 3 G 213 270 [.ref 35, .int k, .int z, .long cd, ez_fill, .int p1, .int b, .int l, .int v, .int m, .int i] [.int g, .ref 35] (ev_hp I J R T) cz kz = ev_C G 216 [.ref 35, .int g, .int b, .long cd] (ev_hp I J R T) fun r h1 c1 k1 => G 213 276 [.ref 35, .int k, .int z, .long cd, ez_fill, .int p1, .int b, .int l, .int v, .int m, .int i] (r.toList ++ []) h1 (cz + c1) (kz + k1) := by
  intro G
  rfl
theorem nf_f4 {k : Int32} {z : Int32} {cd : Int64} {p1 : Int32} {b : Int32} {l : Int32} {v : Int32} {m : Int32} {i : Int32} {w : Int32} : ∀ G : ez_F, fx_up X 2 G 213 276 [.ref 35, .int k, .int z, .long cd, ez_fill, .int p1, .int b, .int l, .int v, .int m, .int i] [.int w] (ev_hp I J R T) cz kz = bif decide (¬ w = v) then G 213 298 [.ref 35, .int k, .int z, .long cd, ez_fill, .int p1, .int b, .int l, .int v, .int m, .int i] [] (ev_hp I J R T) cz kz else G 213 281 [.ref 35, .int k, .int z, .long cd, ez_fill, .int p1, .int b, .int l, .int v, .int m, .int i] [] (ev_hp I J R T) cz kz := by
  intro G
  rfl
theorem nf_f5 {k : Int32} {z : Int32} {cd : Int64} {p1 : Int32} {b : Int32} {l : Int32} {v : Int32} {m : Int32} {i : Int32} : ∀ G : ez_F, fx_up X 6 G 213 281 [.ref 35, .int k, .int z, .long cd, ez_fill, .int p1, .int b, .int l, .int v, .int m, .int i] [] (ev_hp I J R T) cz kz = G 213 293 [.ref 35, .int k, .int z, .long cd, ez_fill, .int p1, .int b, .int l, .int v, .int m, .int i] [.int i, .ref 59, .int m, .ref 59] (ev_hp I J R T) cz kz := by
  intro G
  rfl
theorem nf_f6 {k : Int32} {z : Int32} {cd : Int64} {p1 : Int32} {b : Int32} {l : Int32} {v : Int32} {m : Int32} {i : Int32} : ∀ G : ez_F, fx_up X 1 G 213 295 [.ref 35, .int k, .int z, .long cd, ez_fill, .int p1, .int b, .int l, .int v, .int m, .int i] [] (ev_hp I J R T) cz kz = G 213 298 [.ref 35, .int k, .int z, .long cd, ez_fill, .int p1, .int b, .int l, .int v, .int (m + 1), .int i] [] (ev_hp I J R T) cz kz := by
  intro G
  rfl
theorem nf_f7 {k : Int32} {z : Int32} {cd : Int64} {p1 : Int32} {b : Int32} {l : Int32} {v : Int32} {m : Int32} {i : Int32} : ∀ G : ez_F, fx_up X 2 G 213 298 [.ref 35, .int k, .int z, .long cd, ez_fill, .int p1, .int b, .int l, .int v, .int m, .int i] [] (ev_hp I J R T) cz kz = G 213 256 [.ref 35, .int k, .int z, .long cd, ez_fill, .int p1, .int b, .int l, .int v, .int m, .int (i + 1)] [] (ev_hp I J R T) cz kz := by
  intro G
  rfl
theorem nf_q10a {k : Int32} {z : Int32} {cd : Int64} {p1 : Int32} {b : Int32} {l : Int32} {v : Int32} {m : Int32} {i : Int32} : ∀ G : ez_F, fx_up X 8 G 213 304 [.ref 35, .int k, .int z, .long cd, ez_fill, .int p1, .int b, .int l, .int v, .int m, .int i] [] (ev_hp I J R T) cz kz = G 213 314 [.ref 35, .int k, .int m, .long (cd ||| (1 <<< (b.toInt64 &&& 63))), ez_fill, .int p1, .int b, .int l, .int v, .int m, .int i] [] (ev_hp I J R T) cz kz := by
  intro G
  rfl
theorem nf_q10b {k : Int32} {z : Int32} {cd : Int64} {p1 : Int32} {b : Int32} {l : Int32} {v : Int32} {m : Int32} {i : Int32} : ∀ G : ez_F, fx_up X 5 G 213 314 [.ref 35, .int k, .int z, .long cd, ez_fill, .int p1, .int b, .int l, .int v, .int m, .int i] [] (ev_hp I J R T) cz kz = G 213 324 [.ref 35, .int k, .int z, .long cd, ez_fill, .int p1, .int b, .int l, .int v, .int m, .int i] [.int b, .int (I 35 36), .ref 60] (ev_hp I J R T) cz kz := by
  intro G
  rfl
theorem nf_q11a {k : Int32} {z : Int32} {cd : Int64} {p1 : Int32} {b : Int32} {l : Int32} {v : Int32} {m : Int32} {i : Int32} : ∀ G : ez_F, fx_up X 3 G 213 325 [.ref 35, .int k, .int z, .long cd, ez_fill, .int p1, .int b, .int l, .int v, .int m, .int i] [] (ev_hp I J R T) cz kz = G 213 330 [.ref 35, .int k, .int z, .long cd, ez_fill, .int p1, .int b, .int l, .int v, .int m, .int i] [.int (I 35 36), .ref 35] (ev_hp I J R T) cz kz := by
  intro G
  rfl
theorem nf_q11b {k : Int32} {z : Int32} {cd : Int64} {p1 : Int32} {b : Int32} {l : Int32} {v : Int32} {m : Int32} {i : Int32} {x : Int32} : ∀ G : ez_F, fx_up X 3 G 213 330 [.ref 35, .int k, .int z, .long cd, ez_fill, .int p1, .int b, .int l, .int v, .int m, .int i] [.int x, .ref 35] (ev_hp I J R T) cz kz = G 213 335 [.ref 35, .int k, .int z, .long cd, ez_fill, .int p1, .int b, .int l, .int v, .int m, .int i] [] (ev_hp (ev_sI I 35 (upd (I 35) 36 (x + 1))) J R T) cz kz := by
  intro G
  rfl
theorem nf_q12 {k : Int32} {z : Int32} {cd : Int64} {p1 : Int32} {b : Int32} {l : Int32} {v : Int32} {m : Int32} {i : Int32} : ∀ G : ez_F, fx_up X 3 G 213 335 [.ref 35, .int k, .int z, .long cd, ez_fill, .int p1, .int b, .int l, .int v, .int m, .int i] [] (ev_hp I J R T) cz kz = bif decide (z ≤ (1 : Int32)) then G 213 344 [.ref 35, .int k, .int z, .long cd, ez_fill, .int p1, .int b, .int l, .int v, .int m, .int i] [] (ev_hp I J R T) cz kz else G 213 340 [.ref 35, .int k, .int z, .long cd, ez_fill, .int p1, .int b, .int l, .int v, .int m, .int i] [] (ev_hp I J R T) cz kz := by
  intro G
  rfl
theorem nf_q13 {k : Int32} {z : Int32} {cd : Int64} {p1 : Int32} {b : Int32} {l : Int32} {v : Int32} {m : Int32} {i : Int32} : ∀ G : ez_F, fx_up X 4 G 213 340 [.ref 35, .int k, .int z, .long cd, ez_fill, .int p1, .int b, .int l, .int v, .int m, .int i] [] (ev_hp I J R T) cz kz = G 213 44 [.ref 35, .int k, .int z, .long cd, ez_fill, .int 1, .int b, .int l, .int v] [] (ev_hp I J R T) cz kz := by
  intro G
  rfl
theorem nf_q14 {k : Int32} {z : Int32} {cd : Int64} {p1 : Int32} {b : Int32} {l : Int32} {v : Int32} {m : Int32} {i : Int32} : ∀ G : ez_F, fx_up X 3 G 213 344 [.ref 35, .int k, .int z, .long cd, ez_fill, .int p1, .int b, .int l, .int v, .int m, .int i] [] (ev_hp I J R T) cz kz = G 213 44 [.ref 35, .int k, .int z, .long cd, ez_fill, .int 0, .int b, .int l, .int v] [] (ev_hp I J R T) cz kz := by
  intro G
  rfl
end
def nf_md : List (Nat × Nat) := [(35, 36), (53, 999), (59, 999), (60, 999)]
theorem nd_fr {md : List (Nat × Nat)} {I : Nat → Nat → Int32} {J : Nat → Nat → Int64} {p : Nat} (h : cx_all md p = true) (f : Nat → Int32) : cx_fr md I J (ev_sI I p f) J := cx_fr_I fun k hk => by
  rw [cx_all_s h k] at hk
  cases hk
theorem nd_hB59 {I : Nat → Nat → Int32} (hh : cx_hB cx_B0 I) {g : Nat → Int32} (hg : ∀ q, 0 ≤ (g q).toInt ∧ (g q).toInt ≤ 400) : cx_hB cx_B0 (ev_sI I 59 g) := cx_hB_I hh fun q => by
  rw [show cx_B0 59 q = (0, 400) from rfl]
  exact hg q
theorem nd_hB60 {I : Nat → Nat → Int32} (hh : cx_hB cx_B0 I) (f : Nat → Int32) : cx_hB cx_B0 (ev_sI I 60 f) := cx_hB_I hh fun q => cx_full32 (f q)
theorem nd_hB35 {I : Nat → Nat → Int32} (hh : cx_hB cx_B0 I) (x : Int32) : cx_hB cx_B0 (ev_sI I 35 (upd (I 35) 36 x)) := cx_hB_I hh fun q => by
  by_cases h : q = 36
  · subst h
    rw [nd_upd_s]
    exact cx_full32 x
  · rw [nd_upd_n _ _ h]
    exact hh 35 q
theorem nd_bd {I : Nat → Nat → Int32} (hh : cx_hB cx_B0 I) (q : Nat) : 0 ≤ (I 59 q).toInt ∧ (I 59 q).toInt ≤ 400 := by
  have h := hh 59 q
  rw [show cx_B0 59 q = (0, 400) from rfl] at h
  exact h
theorem nd_ofNat {b : Int32} (h : 0 ≤ b.toInt) : Int32.ofNat b.toInt.toNat = b := Int32.toInt_inj.mp (by
  have := Int32.toInt_lt b
  rw [Int32.toInt_ofNat_of_lt (by omega)]
  omega)
section
variable {X : ez_X} {I : Nat → Nat → Int32} {J : Nat → Nat → Int64} {R : Nat → Nat} {T : List ez_C} {Q : ev_Q} {cz kz : Nat} {k z p1 b l v : Int32} {cd : Int64} {f : Nat → Int32}
theorem nf_fl {n : Nat} (hh : cx_hB cx_B0 I) (hz : z.toInt = n) (hn : n ≤ 400)
    (cont : ∀ (g : Nat → Int32) (m i : Int32), m.toInt = nd_cnt (fun q => pl_P I J (I 59 q) b cd) 0 v n → (∀ q, q < nd_cnt (fun q => pl_P I J (I 59 q) b cd) 0 v n → ∃ q0, q0 < n ∧ g q = I 59 q0 ∧ pl_P I J (g q) b cd = v) → (∀ q, 0 ≤ (g q).toInt ∧ (g q).toInt ≤ 400) →
      ev_W X 213 304 [.ref 35, .int k, .int z, .long cd, ez_fill, .int p1, .int b, .int l, .int v, .int m, .int i] [] (ev_hp (ev_sI (ev_sI I 53 f) 59 g) J R T) cz kz Q) :
    ∀ (r j : Nat) (i m : Int32) (g : Nat → Int32), i.toInt = j → j + r = n → m.toInt = nd_cnt (fun q => pl_P I J (I 59 q) b cd) 0 v j → (∀ q, j ≤ q → g q = I 59 q) →
      (∀ q, q < nd_cnt (fun q => pl_P I J (I 59 q) b cd) 0 v j → ∃ q0, q0 < n ∧ g q = I 59 q0 ∧ pl_P I J (g q) b cd = v) → (∀ q, 0 ≤ (g q).toInt ∧ (g q).toInt ≤ 400) →
      ev_W X 213 256 [.ref 35, .int k, .int z, .long cd, ez_fill, .int p1, .int b, .int l, .int v, .int m, .int i] [] (ev_hp (ev_sI (ev_sI I 53 f) 59 g) J R T) cz kz Q := by
  intro r
  induction r with
  | zero =>
    intro j i m g hi hj hm h1 h2 h3
    refine ev_if nf_f1 (fun _ => ?_) (fun x => ?_)
    · obtain rfl : j = n := by omega
      exact cont g m i hm h2 h3
    · exact absurd (Int32.le_iff_toInt_le.mpr (by omega)) (of_decide_eq_false x)
  | succ r ih =>
    intro j i m g hi hj hm h1 h2 h3
    refine ev_if nf_f1 (fun x => ?_) (fun _ => ?_)
    · have := Int32.le_iff_toInt_le.mp (of_decide_eq_true x)
      omega
    have ei : i.toNatClampNeg = j := by rw [nd_nat]; omega
    have hi1 : (i + 1).toInt = i.toInt + 1 := nd_inc (by omega) (by omega)
    have hc := nd_cnt_le (fun q => pl_P I J (I 59 q) b cd) 0 v j
    have em : m.toNatClampNeg = nd_cnt (fun q => pl_P I J (I 59 q) b cd) 0 v j := by rw [nd_nat]; omega
    have hg := h3 j
    have hgj := h1 j (Nat.le_refl _)
    refine ev_seg nf_f2 ?_
    refine ev_iald (by rfl) (nd_getI (show cx_Ds[59]? = some (0, 401, []) from rfl) g) (fs_ixs (by omega) (by omega)) ?_
    rw [ei]
    refine ev_call nf_f3 (eh_plP X I (ev_sI (ev_sI I 53 f) 59 g) J R T (g j) b cd (nd_hB59 (nd_hB53 hh f) h3) (by omega) rfl rfl rfl) ?_
    rintro _ _ _ _ ⟨rfl, rfl, rfl, rfl⟩
    refine ev_if nf_f4 (fun x => ?_) (fun x => ?_)
    · have hx := of_decide_eq_true x
      have hn2 : nd_cnt (fun q => pl_P I J (I 59 q) b cd) 0 v (j + 1) = nd_cnt (fun q => pl_P I J (I 59 q) b cd) 0 v j := nd_cnt_n (by
        simp only [Nat.zero_add]
        rw [← hgj]
        exact hx)
      refine ev_seg nf_f7 ?_
      exact ih (j + 1) (i + 1) m g (by omega) (by omega) (by rw [hn2]; exact hm) (fun q hq => h1 q (by omega)) (by rw [hn2]; exact h2) h3
    · have hx := Classical.not_not.mp (of_decide_eq_false x)
      have hn2 : nd_cnt (fun q => pl_P I J (I 59 q) b cd) 0 v (j + 1) = nd_cnt (fun q => pl_P I J (I 59 q) b cd) 0 v j + 1 := nd_cnt_y (by
        simp only [Nat.zero_add]
        rw [← hgj]
        exact hx)
      refine ev_seg nf_f5 ?_
      refine ev_iald (by rfl) (nd_getI (show cx_Ds[59]? = some (0, 401, []) from rfl) g) (fs_ixs (by omega) (by omega)) ?_
      rw [ei]
      refine ev_iastH (by rfl) (nd_getI (show cx_Ds[59]? = some (0, 401, []) from rfl) g) (fs_ixs (by omega) (by omega)) (nd_setI (show cx_Ds[59]? = some (0, 401, []) from rfl) g _) ?_
      rw [em]
      refine ev_seg nf_f6 ?_
      refine ev_seg nf_f7 ?_
      refine ih (j + 1) (i + 1) (m + 1) _ (by omega) (by omega) ?_ (fun q hq => ?_) (fun q hq => ?_) (fun q => ?_)
      · rw [hn2, nd_inc (by omega) (by omega)]
        omega
      · rw [nd_upd_n _ _ (by omega)]
        exact h1 q (by omega)
      · rw [hn2] at hq
        by_cases hz2 : q = nd_cnt (fun q => pl_P I J (I 59 q) b cd) 0 v j
        · rw [hz2, nd_upd_s]
          exact ⟨j, by omega, hgj, hx⟩
        · rw [nd_upd_n _ _ hz2]
          exact h2 q (by omega)
      · by_cases hz2 : q = nd_cnt (fun q => pl_P I J (I 59 q) b cd) 0 v j
        · rw [hz2, nd_upd_s]
          exact hg
        · rw [nd_upd_n _ _ hz2]
          exact h3 q
/-- the laying's numbers are put down -/
theorem nf_il {n : Nat} (hz : z.toInt = n) (hn : n ≤ 400)
    (cont : ∀ (g : Nat → Int32) (i : Int32), (∀ q, 0 ≤ (g q).toInt ∧ (g q).toInt ≤ 400) → ev_W X 213 25 [.ref 35, .int k, .int z, .int i] [] (ev_hp (ev_sI I 59 g) J R T) cz kz Q) :
    ∀ (r j : Nat) (i : Int32) (g : Nat → Int32), i.toInt = j → j + r = n → (∀ q, 0 ≤ (g q).toInt ∧ (g q).toInt ≤ 400) → ev_W X 213 7 [.ref 35, .int k, .int z, .int i] [] (ev_hp (ev_sI I 59 g) J R T) cz kz Q := by
  intro r
  induction r with
  | zero =>
    intro j i g hi hj hg
    refine ev_if nf_i1 (fun _ => cont g i hg) (fun x => ?_)
    exact absurd (Int32.le_iff_toInt_le.mpr (by omega)) (of_decide_eq_false x)
  | succ r ih =>
    intro j i g hi hj hg
    refine ev_if nf_i1 (fun x => ?_) (fun _ => ?_)
    · have := Int32.le_iff_toInt_le.mp (of_decide_eq_true x)
      omega
    refine ev_seg nf_i2 ?_
    refine ev_iastH (by rfl) (nd_getI (show cx_Ds[59]? = some (0, 401, []) from rfl) g) (fs_ixs (by omega) (by omega)) (nd_setI (show cx_Ds[59]? = some (0, 401, []) from rfl) g _) ?_
    refine ev_seg nf_i3 ?_
    refine ih (j + 1) (i + 1) _ (by rw [nd_inc (by omega) (by omega)]; omega) (by omega) (fun q => ?_)
    by_cases hz2 : q = i.toNatClampNeg
    · rw [hz2, nd_upd_s]
      omega
    · rw [nd_upd_n _ _ hz2]
      exact hg q
end
section
variable {X : ez_X} {I0 : Nat → Nat → Int32} {J : Nat → Nat → Int64} {R : Nat → Nat} {T : List ez_C} {Q : ev_Q} {cz kz : Nat} {k : Int32} {cl : Int}
theorem nf_out (h36 : cl ≤ 36) (hk : 0 ≤ k.toInt ∧ k.toInt ≤ 399)
    (fin : ∀ I' : Nat → Nat → Int32, cx_hB cx_B0 I' → cx_fr nf_md I0 J I' J → 0 ≤ (I' 35 36).toInt → (I' 35 36).toInt ≤ 36 → Q (some (.int (I' 35 36))) (ev_hp I' J R T) cz kz) :
    ∀ (D : Nat) (z : Int32) (cd : Int64) (p1 : Int32) (I' : Nat → Nat → Int32) (L : List Nat), z.toInt.toNat < D → 0 ≤ z.toInt → z.toInt ≤ 400 → cx_hB cx_B0 I' → cx_fr nf_md I0 J I' J → (I' 35 0 * I' 35 1).toInt = cl → L.Nodup → (∀ q ∈ L, (q : Int) < cl) →
      (I' 35 36).toInt = (L.length : Int) → (∀ q ∈ L, ev_has cd (Int32.ofNat q) ≠ 0 ∧ ∀ i j, i < z.toInt.toNat → j < z.toInt.toNat → pl_P I' J (I' 59 i) (Int32.ofNat q) cd = pl_P I' J (I' 59 j) (Int32.ofNat q) cd) →
      ev_W X 213 44 [.ref 35, .int k, .int z, .long cd, ez_fill, .int p1] [] (ev_hp I' J R T) cz kz Q := by
  intro D
  induction D with
  | zero =>
    intro z cd p1 I' L h
    omega
  | succ D ih =>
    intro z cd p1 I' L hD hz0 hz1 hh hfr hcl hnd hL hlen hag
    have h36L : L.length ≤ 36 := fs_pig 36 L hnd fun q hq => by
      have := hL q hq
      omega
    refine ev_if nf_q1 (fun _ => ev_ret nf_q2 (fin I' hh hfr (by omega) (by omega))) (fun _ => ?_)
    refine ev_seg nf_q3 ?_
    have hz1' : (z + 1).toInt = z.toInt + 1 := nd_inc (by omega) (by omega)
    have cont : ∀ (f : Nat → Int32) (b l c : Int32), nd_best I' J cd 0 z.toInt.toNat 0 (z + 1) cl b l → ev_W X 213 222 [.ref 35, .int k, .int z, .long cd, ez_fill, .int p1, .int b, .int l, .int c] [] (ev_hp (ev_sI I' 53 f) J R T) cz kz Q := by
      intro f b l c hb
      have hI1 : cx_hB cx_B0 (ev_sI I' 53 f) := nd_hB53 hh f
      have fr1 : cx_fr nf_md I0 J (ev_sI I' 53 f) J := cx_fr_t hfr (nd_fr (by rfl) f)
      refine ev_if nf_q4 (fun x => ?_) (fun x => ?_)
      · refine ev_if nf_q6 (fun _ => ?_) (fun y => absurd rfl (of_decide_eq_false y))
        refine ev_seg nf_q7 ?_
        refine ev_cutl (by rfl) ?_
        exact ev_if nf_q1 (fun _ => ev_ret nf_q2 (fin (ev_sI I' 53 f) hI1 fr1 (show 0 ≤ (I' 35 36).toInt by omega) (show (I' 35 36).toInt ≤ 36 by omega))) (fun y => absurd rfl (of_decide_eq_false y))
      have hl : ¬ z.toInt ≤ l.toInt := fun h => (of_decide_eq_false x) (Int32.le_iff_toInt_le.mpr h)
      rcases hb with ⟨-, rfl⟩ | ⟨b0, b1, b2, b3⟩
      · omega
      refine ev_if nf_q5 (fun y => absurd (of_decide_eq_true y) (by decide)) (fun _ => ?_)
      refine ev_call nf_q8 (eh_plP X I' (ev_sI I' 53 f) J R T k b cd hI1 (by omega) rfl rfl rfl) ?_
      rintro _ _ _ _ ⟨rfl, rfl, rfl, rfl⟩
      have h3 := pl_P_r I' J k b cd
      generalize pl_P I' J k b cd = v at h3 ⊢
      refine ev_seg nf_q9 ?_
      have hb3 := b3 v h3
      have cont2 : ∀ (g : Nat → Int32) (m i : Int32), m.toInt = nd_cnt (fun q => pl_P I' J (I' 59 q) b cd) 0 v z.toInt.toNat → (∀ q, q < nd_cnt (fun q => pl_P I' J (I' 59 q) b cd) 0 v z.toInt.toNat → ∃ q0, q0 < z.toInt.toNat ∧ g q = I' 59 q0 ∧ pl_P I' J (g q) b cd = v) → (∀ q, 0 ≤ (g q).toInt ∧ (g q).toInt ≤ 400) →
          ev_W X 213 304 [.ref 35, .int k, .int z, .long cd, ez_fill, .int 1, .int b, .int l, .int v, .int m, .int i] [] (ev_hp (ev_sI (ev_sI I' 53 f) 59 g) J R T) cz kz Q := by
        intro g m i hm hg hgb
        refine ev_seg nf_q10a ?_
        refine ev_seg nf_q10b ?_
        refine ev_iastH (by rfl) (cx_getI (show cx_Ds[60]? = some (0, 40, []) from rfl)) (fs_ixs (show 0 ≤ (I' 35 36).toInt by omega) (show (I' 35 36).toInt < ((40 : Nat) : Int) by omega)) (cx_setI (show cx_Ds[60]? = some (0, 40, []) from rfl) _) ?_
        refine ev_seg nf_q11a ?_
        refine ev_seg nf_q11b ?_
        have hB2 := nd_hB59 hI1 hgb
        have fr2 : cx_fr nf_md I0 J (ev_sI (ev_sI I' 53 f) 59 g) J := cx_fr_t fr1 (nd_fr (by rfl) g)
        generalize hI3 : ev_sI (ev_sI (ev_sI I' 53 f) 59 g) 60 _ = I3
        have hB3 : cx_hB cx_B0 I3 := by rw [← hI3]; exact nd_hB60 hB2 _
        have fr3 : cx_fr nf_md I0 J I3 J := by rw [← hI3]; exact cx_fr_t fr2 (nd_fr (by rfl) _)
        have e35 : I3 35 = I' 35 := by rw [← hI3]; rfl
        have e59 : I3 59 = g := by rw [← hI3]; rfl
        have e41 : I3 41 = I' 41 := by rw [← hI3]; rfl
        have hB4 := nd_hB35 hB3 (I3 35 36 + 1)
        have fr4 : cx_fr nf_md I0 J (ev_sI I3 35 (upd (I3 35) 36 (I3 35 36 + 1))) J := cx_fr_t fr3 (cx_fr_I fun q hq => nd_upd_n _ _ fun e => by
          subst e
          exact absurd hq (by decide))
        have f35 : ∀ q, q ≠ 36 → (ev_sI I3 35 (upd (I3 35) 36 (I3 35 36 + 1))) 35 q = I' 35 q := fun q hq => by
          rw [cx_sI_s, nd_upd_n _ _ hq, e35]
        have f36 : (ev_sI I3 35 (upd (I3 35) 36 (I3 35 36 + 1))) 35 36 = I' 35 36 + 1 := by
          rw [cx_sI_s, nd_upd_s, e35]
        have f59 : (ev_sI I3 35 (upd (I3 35) 36 (I3 35 36 + 1))) 59 = g := by
          rw [cx_sI_n _ _ (by decide), e59]
        have f41 : (ev_sI I3 35 (upd (I3 35) 36 (I3 35 36 + 1))) 41 = I' 41 := by
          rw [cx_sI_n _ _ (by decide), e41]
        generalize ev_sI I3 35 (upd (I3 35) 36 (I3 35 36 + 1)) = I4 at hB4 fr4 f35 f36 f59 f41 ⊢
        have hP : ∀ (x y : Int32) (w : Int64), pl_P I4 J x y w = pl_P I' J x y w := fun x y w => pl_P_congr (f35 3 (by decide)) (f35 7 (by decide)) f41 rfl x y w
        have hbn : Int32.ofNat b.toInt.toNat = b := nd_ofNat b0
        have hnew : b.toInt.toNat ∉ L := fun hmem => by
          obtain ⟨-, a2⟩ := hag _ hmem
          rw [hbn] at a2
          have hall := nd_cnt_all (p := fun q => pl_P I' J (I' 59 q) b cd) (a := 0) (v := pl_P I' J (I' 59 0) b cd) z.toInt.toNat fun i hi => by
            simp only [Nat.zero_add]
            exact a2 i 0 hi (by omega)
          have := b3 _ (pl_P_r I' J (I' 59 0) b cd)
          omega
        have hh1 : ev_has (cd ||| (1 <<< (b.toInt64 &&& 63))) b ≠ 0 := nd_has_new cd b ⟨b0, by omega⟩
        have nx : ∀ p2 : Int32, ev_W X 213 44 [.ref 35, .int k, .int m, .long (cd ||| (1 <<< (b.toInt64 &&& 63))), ez_fill, .int p2] [] (ev_hp I4 J R T) cz kz Q := fun p2 => by
          refine ih m _ p2 I4 (b.toInt.toNat :: L) (by omega) (by omega) (by omega) hB4 fr4 ?_ (List.nodup_cons.mpr ⟨hnew, hnd⟩) (fun q hq => ?_) ?_ (fun q hq => ?_)
          · rw [f35 0 (by decide), f35 1 (by decide)]
            exact hcl
          · rcases List.mem_cons.mp hq with rfl | hq
            · omega
            · exact hL q hq
          · rw [f36, nd_inc (by omega) (by omega), hlen, List.length_cons]
            omega
          · have hgi : ∀ i, i < m.toInt.toNat → ∃ q0, q0 < z.toInt.toNat ∧ g i = I' 59 q0 ∧ pl_P I' J (g i) b cd = v := fun i hi => hg i (by omega)
            rcases List.mem_cons.mp hq with rfl | hq
            · rw [hbn]
              refine ⟨hh1, fun i j hi hj => ?_⟩
              obtain ⟨-, -, -, gi⟩ := hgi i hi
              obtain ⟨-, -, -, gj⟩ := hgi j hj
              rw [hP, hP, f59]
              exact pl_P_now I' J _ _ b cd _ hh1 (by rw [gi, gj])
            · obtain ⟨a1, a2⟩ := hag q hq
              have a3 := nd_has_or cd (1 <<< (b.toInt64 &&& 63)) (Int32.ofNat q) a1
              refine ⟨a3, fun i j hi hj => ?_⟩
              obtain ⟨qi, gi1, gi2, -⟩ := hgi i hi
              obtain ⟨qj, gj1, gj2, -⟩ := hgi j hj
              rw [hP, hP, f59, gi2, gj2]
              exact pl_P_then I' J _ _ _ cd _ a1 a3 (a2 qi qj gi1 gj1)
        refine ev_if nf_q12 (fun _ => ?_) (fun _ => ?_)
        · refine ev_seg nf_q14 ?_
          refine ev_cutl (by rfl) ?_
          exact nx 0
        · refine ev_seg nf_q13 ?_
          refine ev_cutl (by rfl) ?_
          exact nx 1
      have h := nf_fl (X := X) (I := I') (J := J) (R := R) (T := T) (Q := Q) (cz := cz) (kz := kz) (k := k) (z := z) (p1 := 1) (b := b) (l := l) (v := v) (cd := cd) (f := f) (n := z.toInt.toNat) hh (by omega) (by omega) cont2 z.toInt.toNat 0 0 0 (I' 59) (by decide) (by omega) (show (0 : Int32).toInt = ((0 : Nat) : Int) from by decide) (fun q _ => rfl) (fun q hq => absurd hq (Nat.not_lt_zero q)) (fun q => nd_bd hh q)
      have e : ev_sI (ev_sI I' 53 f) 59 (I' 59) = ev_sI I' 53 f := nd_self (ev_sI I' 53 f) 59
      rw [e] at h
      exact h
    have hc := nd_cl hh
    have h := nb_best (X := X) (I := I') (J := J) (R := R) (T := T) (Q := Q) (cz := cz) (kz := kz) (k := k) (z := z) (p1 := p1) (cd := cd) (a := 0) (n := z.toInt.toNat) (b0 := 0) (l0 := z + 1) (cl := cl) hh (by omega) (by omega) (by decide) hcl h36 cont cl.toNat 0 (z + 1) 0 (I' 53) (by decide) (by rw [show (0 : Int32).toInt = 0 from by decide]; omega) (Or.inl ⟨rfl, rfl⟩)
    rw [nd_self] at h
    exact h
end
theorem cv_SquaredShipsModel_needOf : cx_valid cx_B0 213 ck_SquaredShipsModel_needOf := by
  intro X σ0 ls I J R T hX2 hh hok
  obtain ⟨v1, t1, rfl, rfl, g2⟩ := cx_L_inv hok.1
  obtain ⟨v2, t2, rfl, ⟨k, rfl, hk⟩, g4⟩ := cx_L_inv g2
  obtain rfl := cx_L_nil g4 rfl
  have hkb := hok.2.2.1.2 0 k.toInt (0, 399) hk rfl
  have hz0 : σ0[1]? = some (I 35 14).toInt := hok.2.2.2.2.1 (35, 14, 1) List.mem_cons_self
  have hzb := hok.2.2.1.2 1 _ (0, 400) hz0 rfl
  simp only at hkb hzb
  refine ev_seg nf_q0 ?_
  have cont : ∀ (g : Nat → Int32) (i : Int32), (∀ q, 0 ≤ (g q).toInt ∧ (g q).toInt ≤ 400) → ev_W X 213 25 [.ref 35, .int k, .int (I 35 14), .int i] [] (ev_hp (ev_sI I 59 g) J R T) 0 0 (cx_post cx_B0 ck_SquaredShipsModel_needOf σ0 I J T 0 0) := by
    intro g i hg
    have hB1 := nd_hB59 hh.1 hg
    have fr1 : cx_fr nf_md I J (ev_sI I 59 g) J := nd_fr (by rfl) g
    have e35 : (ev_sI I 59 g) 35 = I 35 := rfl
    generalize ev_sI I 59 g = I1 at hB1 fr1 e35 ⊢
    refine ev_seg nf_q00a ?_
    have hB2 := nd_hB35 hB1 0
    have fr2 : cx_fr nf_md I J (ev_sI I1 35 (upd (I1 35) 36 0)) J := cx_fr_t fr1 (cx_fr_I fun q hq => nd_upd_n _ _ fun e => by
      subst e
      exact absurd hq (by decide))
    have f36 : (ev_sI I1 35 (upd (I1 35) 36 0)) 35 36 = 0 := by rw [cx_sI_s, nd_upd_s]
    generalize ev_sI I1 35 (upd (I1 35) 36 0) = I2 at hB2 fr2 f36 ⊢
    have nx : ∀ p1 : Int32, ev_W X 213 44 [.ref 35, .int k, .int (I 35 14), .long 0, ez_fill, .int p1] [] (ev_hp I2 J R T) 0 0 (cx_post cx_B0 ck_SquaredShipsModel_needOf σ0 I J T 0 0) := fun p1 => by
      refine nf_out (I0 := I) (cl := (I2 35 0 * I2 35 1).toInt) (nd_cl hB2).2 hkb (fun I' b1 b2 b3 b4 => ?_) 401 (I 35 14) 0 p1 I2 [] (by omega) (by omega) (by omega) hB2 fr2 rfl List.nodup_nil (fun q hq => (by cases hq)) (by rw [f36]; decide) (fun q hq => (by cases hq))
      exact ⟨I', J, R, T, rfl, ⟨b1, hh.2⟩, b2, cx_leT_r T, rfl, rfl, _, List.mem_cons_self, σ0 ++ [(I' 35 36).toInt], cx_ext_app σ0 _, trivial, ⟨⟨_, rfl, cx_top hok.2.2.1 _⟩, trivial⟩, cx_iv_push hok.2.2.1 ⟨b3, b4⟩, cx_nil, fun e he => (by cases he), fun e he => (by cases he)⟩
    refine ev_if nf_q00b (fun _ => ?_) (fun _ => ?_)
    · exact ev_seg nf_q02 (nx 0)
    · exact ev_seg nf_q01 (nx 1)
  have h := nf_il (X := X) (I := I) (J := J) (R := R) (T := T) (cz := 0) (kz := 0) (k := k) (z := I 35 14) (n := (I 35 14).toInt.toNat) (by omega) (by omega) cont (I 35 14).toInt.toNat 0 0 (I 59) (by decide) (by omega) (fun q => nd_bd hh.1 q)
  rw [nd_self] at h
  exact h
