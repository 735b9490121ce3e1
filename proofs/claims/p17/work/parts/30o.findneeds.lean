/-! findNeeds, whole. -/
section
variable {X : ez_X} {I : Nat → Nat → Int32} {J : Nat → Nat → Int64} {R : Nat → Nat} {T : List ez_C} {cz kz : Nat}
theorem fn_a0  : ∀ G : ez_F, fx_up X 2 G 189 0 [.ref 35] [] (ev_hp I J R T) cz kz = G 189 2 [.ref 35, .int 0] [] (ev_hp I J R T) cz kz := by
  intro G
  rfl
theorem fn_a1 {i : Int32} : ∀ G : ez_F, fx_up X 4 G 189 2 [.ref 35, .int i] [] (ev_hp I J R T) cz kz = bif decide ((I 35 14) ≤ i) then G 189 30 [.ref 35, .int i] [] (ev_hp I J R T) cz kz else G 189 10 [.ref 35, .int i] [] (ev_hp I J R T) cz kz := by
  intro G
  rfl
theorem fn_a2 {i : Int32} : ∀ G : ez_F, fx_up X 4 G 189 10 [.ref 35, .int i] [] (ev_hp I J R T) cz kz = G 189 16 [.ref 35, .int i] [.int i, .int i, .ref 59] (ev_hp I J R T) cz kz := by
  intro G
  rfl
theorem fn_a3 {i : Int32} : ∀ G : ez_F, fx_up X 4 G 189 17 [.ref 35, .int i] [] (ev_hp I J R T) cz kz = G 189 23 [.ref 35, .int i] [.int 0, .int i, .ref 57] (ev_hp I J R T) cz kz := by
  intro G
  rfl
theorem fn_a4 {i : Int32} : ∀ G : ez_F, fx_up X 2 G 189 24 [.ref 35, .int i] [] (ev_hp I J R T) cz kz = G 189 2 [.ref 35, .int (i + 1)] [] (ev_hp I J R T) cz kz := by
  intro G
  rfl
theorem fn_a5 {i : Int32} : ∀ G : ez_F, fx_up X 6 G 189 30 [.ref 35, .int i] [] (ev_hp I J R T) cz kz = G 189 38 [.ref 35, .int 1] [.int 0, .int 0, .ref 54] (ev_hp I J R T) cz kz := by
  intro G
  rfl
theorem fn_a6 {h : Int32} : ∀ G : ez_F, fx_up X 5 G 189 39 [.ref 35, .int h] [] (ev_hp I J R T) cz kz = G 189 48 [.ref 35, .int h] [.int (I 35 14), .int 0, .ref 55] (ev_hp I J R T) cz kz := by
  intro G
  rfl
theorem fn_a7 {h : Int32} : ∀ G : ez_F, fx_up X 4 G 189 49 [.ref 35, .int h] [] (ev_hp I J R T) cz kz = G 189 55 [.ref 35, .int h] [.long 0, .int 0, .ref 56] (ev_hp I J R T) cz kz := by
  intro G
  rfl
theorem fn_h1 {h : Int32} : ∀ G : ez_F, fx_up X 2 G 189 56 [.ref 35, .int h] [] (ev_hp I J R T) cz kz = bif decide (h ≤ (0 : Int32)) then G 189 262 [.ref 35, .int h] [] (ev_hp I J R T) cz kz else G 189 60 [.ref 35, .int h] [] (ev_hp I J R T) cz kz := by
  intro G
  rfl
theorem fn_h2a {h : Int32} : ∀ G : ez_F, fx_up X 1 G 189 60 [.ref 35, .int h] [] (ev_hp I J R T) cz kz = G 189 63 [.ref 35, .int (h + Int32.ofInt (-1))] [] (ev_hp I J R T) cz kz := by
  intro G
  rfl
theorem fn_h2b {h : Int32} : ∀ G : ez_F, fx_up X 3 G 189 63 [.ref 35, .int h] [] (ev_hp I J R T) cz kz = G 189 68 [.ref 35, .int h] [.int h, .ref 54] (ev_hp I J R T) cz kz := by
  intro G
  rfl
theorem fn_h3 {h : Int32} {s : Int32} : ∀ G : ez_F, fx_up X 4 G 189 69 [.ref 35, .int h] [.int s] (ev_hp I J R T) cz kz = G 189 75 [.ref 35, .int h, .int s] [.int h, .ref 55] (ev_hp I J R T) cz kz := by
  intro G
  rfl
theorem fn_h4 {h : Int32} {s : Int32} {z : Int32} : ∀ G : ez_F, fx_up X 4 G 189 76 [.ref 35, .int h, .int s] [.int z] (ev_hp I J R T) cz kz = G 189 82 [.ref 35, .int h, .int s, .int z] [.int h, .ref 56] (ev_hp I J R T) cz kz := by
  intro G
  rfl
theorem fn_h5 {h : Int32} {s : Int32} {z : Int32} {cd : Int64} : ∀ G : ez_F, fx_up X 6 G 189 83 [.ref 35, .int h, .int s, .int z] [.long cd] (ev_hp I J R T) cz kz = ev_C G 177 [.ref 35, .int s, .int z, .long cd] (ev_hp I J R T) fun r h1 c1 k1 => G 189 93 [.ref 35, .int h, .int s, .int z, .long cd, ez_fill] (r.toList ++ []) h1 (cz + c1) (kz + k1) := by
  intro G
  rfl
theorem fn_h6 {h : Int32} {s : Int32} {z : Int32} {cd : Int64} {b : Int32} : ∀ G : ez_F, fx_up X 4 G 189 93 [.ref 35, .int h, .int s, .int z, .long cd, ez_fill] [.int b] (ev_hp I J R T) cz kz = bif decide (b = (Int32.ofInt (-1))) then G 189 259 [.ref 35, .int h, .int s, .int z, .long cd, ez_fill, .int b] [] (ev_hp I J R T) cz kz else G 189 101 [.ref 35, .int h, .int s, .int z, .long cd, ez_fill, .int b] [] (ev_hp I J R T) cz kz := by
  intro G
  rfl
theorem fn_h7 {h : Int32} {s : Int32} {z : Int32} {cd : Int64} {b : Int32} : ∀ G : ez_F, fx_up X 1 G 189 259 [.ref 35, .int h, .int s, .int z, .long cd, ez_fill, .int b] [] (ev_hp I J R T) cz kz = G 189 56 [.ref 35, .int h, .int s, .int z, .long cd, ez_fill, .int b] [] (ev_hp I J R T) cz kz := by
  intro G
  rfl
theorem fn_h8 {h : Int32} {s : Int32} {z : Int32} {cd : Int64} {b : Int32} : ∀ G : ez_F, fx_up X 4 G 189 101 [.ref 35, .int h, .int s, .int z, .long cd, ez_fill, .int b] [] (ev_hp I J R T) cz kz = G 189 107 [.ref 35, .int h, .int s, .int z, .long cd, ez_fill, .int b, .int s, .int 0] [] (ev_hp I J R T) cz kz := by
  intro G
  rfl
theorem fn_v1 {h : Int32} {s : Int32} {z : Int32} {cd : Int64} {b : Int32} {t : Int32} {v : Int32} : ∀ G : ez_F, fx_up X 3 G 189 107 [.ref 35, .int h, .int s, .int z, .long cd, ez_fill, .int b, .int t, .int v] [] (ev_hp I J R T) cz kz = bif decide ((3 : Int32) ≤ v) then G 189 214 [.ref 35, .int h, .int s, .int z, .long cd, ez_fill, .int b, .int t, .int v] [] (ev_hp I J R T) cz kz else G 189 113 [.ref 35, .int h, .int s, .int z, .long cd, ez_fill, .int b, .int t, .int v] [] (ev_hp I J R T) cz kz := by
  intro G
  rfl
theorem fn_v2 {h : Int32} {s : Int32} {z : Int32} {cd : Int64} {b : Int32} {t : Int32} {v : Int32} : ∀ G : ez_F, fx_up X 4 G 189 113 [.ref 35, .int h, .int s, .int z, .long cd, ez_fill, .int b, .int t, .int v] [] (ev_hp I J R T) cz kz = G 189 120 [.ref 35, .int h, .int s, .int z, .long cd, ez_fill, .int b, .int t, .int v, .int t, .int s] [] (ev_hp I J R T) cz kz := by
  intro G
  rfl
theorem fn_w1 {h : Int32} {s : Int32} {z : Int32} {cd : Int64} {b : Int32} {t : Int32} {v : Int32} {o : Int32} {i : Int32} : ∀ G : ez_F, fx_up X 3 G 189 120 [.ref 35, .int h, .int s, .int z, .long cd, ez_fill, .int b, .int t, .int v, .int o, .int i] [] (ev_hp I J R T) cz kz = bif decide (z ≤ i) then G 189 169 [.ref 35, .int h, .int s, .int z, .long cd, ez_fill, .int b, .int t, .int v, .int o, .int i] [] (ev_hp I J R T) cz kz else G 189 126 [.ref 35, .int h, .int s, .int z, .long cd, ez_fill, .int b, .int t, .int v, .int o, .int i] [] (ev_hp I J R T) cz kz := by
  intro G
  rfl
theorem fn_w2 {h : Int32} {s : Int32} {z : Int32} {cd : Int64} {b : Int32} {t : Int32} {v : Int32} {o : Int32} {i : Int32} : ∀ G : ez_F, fx_up X 4 G 189 126 [.ref 35, .int h, .int s, .int z, .long cd, ez_fill, .int b, .int t, .int v, .int o, .int i] [] (ev_hp I J R T) cz kz = G 189 133 [.ref 35, .int h, .int s, .int z, .long cd, ez_fill, .int b, .int t, .int v, .int o, .int i] [.int i, .ref 59, .ref 35] (ev_hp I J R T) cz kz := by
  intro G
  rfl
theorem fn_w3 {h : Int32} {s : Int32} {z : Int32} {cd : Int64} {b : Int32} {t : Int32} {v : Int32} {o : Int32} {i : Int32} {g : Int32} : ∀ G : ez_F, fx_up X 3 G 189 134 [.ref 35, .int h, .int s, .int z, .long cd, ez_fill, .int b, .int t, .int v, .int o, .int i] [.int g, .ref 35] (ev_hp I J R T) cz kz = ev_C G 216 [.ref 35, .int g, .int b, .long cd] (ev_hp I J R T) fun r h1 c1 k1 => G 189 141 [.ref 35, .int h, .int s, .int z, .long cd, ez_fill, .int b, .int t, .int v, .int o, .int i] (r.toList ++ []) h1 (cz + c1) (kz + k1) := by
  intro G
  rfl
theorem fn_w4 {h : Int32} {s : Int32} {z : Int32} {cd : Int64} {b : Int32} {t : Int32} {v : Int32} {o : Int32} {i : Int32} {w : Int32} : ∀ G : ez_F, fx_up X 2 G 189 141 [.ref 35, .int h, .int s, .int z, .long cd, ez_fill, .int b, .int t, .int v, .int o, .int i] [.int w] (ev_hp I J R T) cz kz = bif decide (¬ w = v) then G 189 163 [.ref 35, .int h, .int s, .int z, .long cd, ez_fill, .int b, .int t, .int v, .int o, .int i] [] (ev_hp I J R T) cz kz else G 189 146 [.ref 35, .int h, .int s, .int z, .long cd, ez_fill, .int b, .int t, .int v, .int o, .int i] [] (ev_hp I J R T) cz kz := by
  intro G
  rfl
theorem fn_w5 {h : Int32} {s : Int32} {z : Int32} {cd : Int64} {b : Int32} {t : Int32} {v : Int32} {o : Int32} {i : Int32} : ∀ G : ez_F, fx_up X 6 G 189 146 [.ref 35, .int h, .int s, .int z, .long cd, ez_fill, .int b, .int t, .int v, .int o, .int i] [] (ev_hp I J R T) cz kz = G 189 158 [.ref 35, .int h, .int s, .int z, .long cd, ez_fill, .int b, .int t, .int v, .int o, .int i] [.int i, .ref 59, .int t, .ref 58] (ev_hp I J R T) cz kz := by
  intro G
  rfl
theorem fn_w6 {h : Int32} {s : Int32} {z : Int32} {cd : Int64} {b : Int32} {t : Int32} {v : Int32} {o : Int32} {i : Int32} : ∀ G : ez_F, fx_up X 1 G 189 160 [.ref 35, .int h, .int s, .int z, .long cd, ez_fill, .int b, .int t, .int v, .int o, .int i] [] (ev_hp I J R T) cz kz = G 189 163 [.ref 35, .int h, .int s, .int z, .long cd, ez_fill, .int b, .int (t + 1), .int v, .int o, .int i] [] (ev_hp I J R T) cz kz := by
  intro G
  rfl
theorem fn_w7 {h : Int32} {s : Int32} {z : Int32} {cd : Int64} {b : Int32} {t : Int32} {v : Int32} {o : Int32} {i : Int32} : ∀ G : ez_F, fx_up X 2 G 189 163 [.ref 35, .int h, .int s, .int z, .long cd, ez_fill, .int b, .int t, .int v, .int o, .int i] [] (ev_hp I J R T) cz kz = G 189 120 [.ref 35, .int h, .int s, .int z, .long cd, ez_fill, .int b, .int t, .int v, .int o, .int (i + 1)] [] (ev_hp I J R T) cz kz := by
  intro G
  rfl
theorem fn_x1 {h : Int32} {s : Int32} {z : Int32} {cd : Int64} {b : Int32} {t : Int32} {v : Int32} {o : Int32} {i : Int32} : ∀ G : ez_F, fx_up X 3 G 189 169 [.ref 35, .int h, .int s, .int z, .long cd, ez_fill, .int b, .int t, .int v, .int o, .int i] [] (ev_hp I J R T) cz kz = bif decide (t ≤ o) then G 189 208 [.ref 35, .int h, .int s, .int z, .long cd, ez_fill, .int b, .int t, .int v, .int o, .int i] [] (ev_hp I J R T) cz kz else G 189 176 [.ref 35, .int h, .int s, .int z, .long cd, ez_fill, .int b, .int t, .int v, .int o, .int i] [] (ev_hp I J R T) cz kz := by
  intro G
  rfl
theorem fn_x2 {h : Int32} {s : Int32} {z : Int32} {cd : Int64} {b : Int32} {t : Int32} {v : Int32} {o : Int32} {i : Int32} : ∀ G : ez_F, fx_up X 4 G 189 176 [.ref 35, .int h, .int s, .int z, .long cd, ez_fill, .int b, .int t, .int v, .int o, .int i] [] (ev_hp I J R T) cz kz = G 189 183 [.ref 35, .int h, .int s, .int z, .long cd, ez_fill, .int b, .int t, .int v, .int o, .int i] [.int o, .int h, .ref 54] (ev_hp I J R T) cz kz := by
  intro G
  rfl
theorem fn_x3 {h : Int32} {s : Int32} {z : Int32} {cd : Int64} {b : Int32} {t : Int32} {v : Int32} {o : Int32} {i : Int32} : ∀ G : ez_F, fx_up X 4 G 189 184 [.ref 35, .int h, .int s, .int z, .long cd, ez_fill, .int b, .int t, .int v, .int o, .int i] [] (ev_hp I J R T) cz kz = G 189 191 [.ref 35, .int h, .int s, .int z, .long cd, ez_fill, .int b, .int t, .int v, .int o, .int i] [.int t, .int h, .ref 55] (ev_hp I J R T) cz kz := by
  intro G
  rfl
theorem fn_x4 {h : Int32} {s : Int32} {z : Int32} {cd : Int64} {b : Int32} {t : Int32} {v : Int32} {o : Int32} {i : Int32} : ∀ G : ez_F, fx_up X 8 G 189 192 [.ref 35, .int h, .int s, .int z, .long cd, ez_fill, .int b, .int t, .int v, .int o, .int i] [] (ev_hp I J R T) cz kz = G 189 204 [.ref 35, .int h, .int s, .int z, .long cd, ez_fill, .int b, .int t, .int v, .int o, .int i] [.long (cd ||| (1 <<< (b.toInt64 &&& 63))), .int h, .ref 56] (ev_hp I J R T) cz kz := by
  intro G
  rfl
theorem fn_x5 {h : Int32} {s : Int32} {z : Int32} {cd : Int64} {b : Int32} {t : Int32} {v : Int32} {o : Int32} {i : Int32} : ∀ G : ez_F, fx_up X 1 G 189 205 [.ref 35, .int h, .int s, .int z, .long cd, ez_fill, .int b, .int t, .int v, .int o, .int i] [] (ev_hp I J R T) cz kz = G 189 208 [.ref 35, .int (h + 1), .int s, .int z, .long cd, ez_fill, .int b, .int t, .int v, .int o, .int i] [] (ev_hp I J R T) cz kz := by
  intro G
  rfl
theorem fn_x6 {h : Int32} {s : Int32} {z : Int32} {cd : Int64} {b : Int32} {t : Int32} {v : Int32} {o : Int32} {i : Int32} : ∀ G : ez_F, fx_up X 2 G 189 208 [.ref 35, .int h, .int s, .int z, .long cd, ez_fill, .int b, .int t, .int v, .int o, .int i] [] (ev_hp I J R T) cz kz = G 189 107 [.ref 35, .int h, .int s, .int z, .long cd, ez_fill, .int b, .int t, .int (v + 1), .int o, .int i] [] (ev_hp I J R T) cz kz := by
  intro G
  rfl
theorem fn_y0 {h : Int32} {s : Int32} {z : Int32} {cd : Int64} {b : Int32} {t : Int32} {v : Int32} : ∀ G : ez_F, fx_up X 2 G 189 214 [.ref 35, .int h, .int s, .int z, .long cd, ez_fill, .int b, .int t, .int v] [] (ev_hp I J R T) cz kz = G 189 217 [.ref 35, .int h, .int s, .int z, .long cd, ez_fill, .int b, .int t, .int s] [] (ev_hp I J R T) cz kz := by
  intro G
  rfl
theorem fn_y1 {h : Int32} {s : Int32} {z : Int32} {cd : Int64} {b : Int32} {t : Int32} {i : Int32} : ∀ G : ez_F, fx_up X 3 G 189 217 [.ref 35, .int h, .int s, .int z, .long cd, ez_fill, .int b, .int t, .int i] [] (ev_hp I J R T) cz kz = bif decide (z ≤ i) then G 189 259 [.ref 35, .int h, .int s, .int z, .long cd, ez_fill, .int b, .int t, .int i] [] (ev_hp I J R T) cz kz else G 189 223 [.ref 35, .int h, .int s, .int z, .long cd, ez_fill, .int b, .int t, .int i] [] (ev_hp I J R T) cz kz := by
  intro G
  rfl
theorem fn_y2 {h : Int32} {s : Int32} {z : Int32} {cd : Int64} {b : Int32} {t : Int32} {i : Int32} : ∀ G : ez_F, fx_up X 6 G 189 223 [.ref 35, .int h, .int s, .int z, .long cd, ez_fill, .int b, .int t, .int i] [] (ev_hp I J R T) cz kz = G 189 235 [.ref 35, .int h, .int s, .int z, .long cd, ez_fill, .int b, .int t, .int i] [.int i, .ref 58, .int i, .ref 59] (ev_hp I J R T) cz kz := by
  intro G
  rfl
theorem fn_y3 {h : Int32} {s : Int32} {z : Int32} {cd : Int64} {b : Int32} {t : Int32} {i : Int32} : ∀ G : ez_F, fx_up X 5 G 189 237 [.ref 35, .int h, .int s, .int z, .long cd, ez_fill, .int b, .int t, .int i] [] (ev_hp I J R T) cz kz = G 189 247 [.ref 35, .int h, .int s, .int z, .long cd, ez_fill, .int b, .int t, .int i] [.int i, .ref 59, .ref 57] (ev_hp I J R T) cz kz := by
  intro G
  rfl
theorem fn_y4 {h : Int32} {s : Int32} {z : Int32} {cd : Int64} {b : Int32} {t : Int32} {i : Int32} {g : Int32} : ∀ G : ez_F, fx_up X 1 G 189 248 [.ref 35, .int h, .int s, .int z, .long cd, ez_fill, .int b, .int t, .int i] [.int g, .ref 57] (ev_hp I J R T) cz kz = G 189 249 [.ref 35, .int h, .int s, .int z, .long cd, ez_fill, .int b, .int t, .int i] [.int g, .ref 57, .int g, .ref 57] (ev_hp I J R T) cz kz := by
  intro G
  rfl
theorem fn_y5 {h : Int32} {s : Int32} {z : Int32} {cd : Int64} {b : Int32} {t : Int32} {i : Int32} {x : Int32} {g : Int32} : ∀ G : ez_F, fx_up X 2 G 189 250 [.ref 35, .int h, .int s, .int z, .long cd, ez_fill, .int b, .int t, .int i] [.int x, .int g, .ref 57] (ev_hp I J R T) cz kz = G 189 252 [.ref 35, .int h, .int s, .int z, .long cd, ez_fill, .int b, .int t, .int i] [.int (x + 1), .int g, .ref 57] (ev_hp I J R T) cz kz := by
  intro G
  rfl
theorem fn_y6 {h : Int32} {s : Int32} {z : Int32} {cd : Int64} {b : Int32} {t : Int32} {i : Int32} : ∀ G : ez_F, fx_up X 2 G 189 253 [.ref 35, .int h, .int s, .int z, .long cd, ez_fill, .int b, .int t, .int i] [] (ev_hp I J R T) cz kz = G 189 217 [.ref 35, .int h, .int s, .int z, .long cd, ez_fill, .int b, .int t, .int (i + 1)] [] (ev_hp I J R T) cz kz := by
  intro G
  rfl
theorem fn_y7 {h : Int32} {s : Int32} {z : Int32} {cd : Int64} {b : Int32} {t : Int32} {i : Int32} : ∀ G : ez_F, fx_up X 1 G 189 259 [.ref 35, .int h, .int s, .int z, .long cd, ez_fill, .int b, .int t, .int i] [] (ev_hp I J R T) cz kz = G 189 56 [.ref 35, .int h, .int s, .int z, .long cd, ez_fill, .int b] [] (ev_hp I J R T) cz kz := by
  intro G
  rfl
theorem fn_z1 {h : Int32} : ∀ G : ez_F, fx_up X 1 G 189 262 [.ref 35, .int h] [] (ev_hp I J R T) cz kz = some (none, ev_hp I J R T, cz, kz) := by
  intro G
  rfl
end
def fn_md : List (Nat × Nat) := [(53, 999), (54, 999), (55, 999), (56, 999), (57, 999), (58, 999), (59, 999)]
theorem fn_lk {I I2 : Nat → Nat → Int32} {J J2 : Nat → Nat → Int64} (h : cx_fr fn_md I J I2 J2) : I2 35 = I 35 ∧ I2 41 = I 41 ∧ J2 39 = J 39 := ⟨funext fun q => (h 35 q rfl).1, funext fun q => (h 41 q rfl).1, funext fun q => (h 39 q rfl).2⟩
theorem eh_plQ (X : ez_X) (I I' : Nat → Nat → Int32) (J J' : Nat → Nat → Int64) (R : Nat → Nat) (T : List ez_C) (k cell : Int32) (cd : Int64) (hh : cx_hB cx_B0 I') (hk : 0 ≤ k.toInt ∧ k.toInt ≤ 9999) (hf : cx_fr fn_md I J I' J') :
    ev_W X 216 0 (ez_lay [.ref 35, .int k, .int cell, .long cd]) [] (ev_hp I' J' R T) 0 0 (ev_is (some (.int (pl_P I J k cell cd))) (ev_hp I' J' R T)) := by
  obtain ⟨l1, l2, l3⟩ := fn_lk hf
  rw [← pl_P_congr (congrFun l1 3) (congrFun l1 7) l2 l3 k cell cd]
  exact eh_pl X I' J' R T k cell cd hh hk
theorem nd_frJ {md : List (Nat × Nat)} {I : Nat → Nat → Int32} {J : Nat → Nat → Int64} {p : Nat} (h : cx_all md p = true) (f : Nat → Int64) : cx_fr md I J I (ev_sJ J p f) := cx_fr_J fun k hk => by
  rw [cx_all_s h k] at hk
  cases hk
/-- between 0 and 400: what the rows 54, 55, 58, 59 hold -/
theorem nd_hB4 {I : Nat → Nat → Int32} {p : Nat} (hp : p = 54 ∨ p = 55 ∨ p = 58 ∨ p = 59) (hh : cx_hB cx_B0 I) {g : Nat → Int32} (hg : ∀ q, 0 ≤ (g q).toInt ∧ (g q).toInt ≤ 400) : cx_hB cx_B0 (ev_sI I p g) := cx_hB_I hh fun q => by
  rcases hp with rfl | rfl | rfl | rfl <;> exact hg q
theorem nd_bd4 {I : Nat → Nat → Int32} {p : Nat} (hp : p = 54 ∨ p = 55 ∨ p = 58 ∨ p = 59) (hh : cx_hB cx_B0 I) (q : Nat) : 0 ≤ (I p q).toInt ∧ (I p q).toInt ≤ 400 := by
  have h := hh p q
  rcases hp with rfl | rfl | rfl | rfl <;> exact h
theorem nd_upd_b {g : Nat → Int32} {x : Int32} (k : Nat) (hg : ∀ q, 0 ≤ (g q).toInt ∧ (g q).toInt ≤ 400) (hx : 0 ≤ x.toInt ∧ x.toInt ≤ 400) (q : Nat) : 0 ≤ (upd g k x q).toInt ∧ (upd g k x q).toInt ≤ 400 := by
  by_cases h : q = k
  · rw [h, nd_upd_s]; exact hx
  · rw [nd_upd_n _ _ h]; exact hg q
theorem nd_hB57 {I : Nat → Nat → Int32} (hh : cx_hB cx_B0 I) (f : Nat → Int32) : cx_hB cx_B0 (ev_sI I 57 f) := cx_hB_I hh fun q => cx_full32 (f q)
/-! What the heaps weigh: each parting makes it less. -/
def fn_w (n : Int) : Nat := if n ≤ 0 then 1 else (2 * n - 1).toNat
def fn_z (c : Nat) : Nat := if c = 0 then 0 else 2 * c - 1
def fn_W (F G : Nat → Int32) : Nat → Nat
  | 0 => 0
  | h + 1 => fn_W F G h + fn_w ((G h).toInt - (F h).toInt)
theorem fn_w_1 (n : Int) : 1 ≤ fn_w n := by
  unfold fn_w
  split <;> omega
theorem fn_W_ge (F G : Nat → Int32) : ∀ h, h ≤ fn_W F G h := by
  intro h
  induction h with
  | zero => exact Nat.le_refl _
  | succ h ih =>
    have := fn_w_1 ((G h).toInt - (F h).toInt)
    show h + 1 ≤ fn_W F G h + fn_w ((G h).toInt - (F h).toInt)
    omega
theorem fn_W_eq {F G F' G' : Nat → Int32} : ∀ h, (∀ j, j < h → F' j = F j ∧ G' j = G j) → fn_W F' G' h = fn_W F G h := by
  intro h
  induction h with
  | zero => exact fun _ => rfl
  | succ h ih =>
    intro e
    show fn_W F' G' h + _ = fn_W F G h + _
    rw [ih fun j hj => e j (by omega), (e h (by omega)).1, (e h (by omega)).2]
theorem fn_less {c0 c1 c2 n : Nat} (h : c0 + c1 + c2 = n) (h0 : c0 < n) (h1 : c1 < n) (h2 : c2 < n) : fn_z c0 + fn_z c1 + fn_z c2 < fn_w n := by
  unfold fn_z fn_w
  split <;> split <;> split <;> split <;> omega
def fn_st (I : Nat → Nat → Int32) (J : Nat → Nat → Int64) (I2 : Nat → Nat → Int32) (J2 : Nat → Nat → Int64) (hn W : Nat) : Prop :=
  cx_hB cx_B0 I2 ∧ cx_fr fn_md I J I2 J2 ∧ I2 59 = I 59 ∧ fn_W (I2 54) (I2 55) hn = W ∧ ∀ j, j < hn → (I2 54 j).toInt ≤ (I2 55 j).toInt
section
variable {X : ez_X} {I I2 : Nat → Nat → Int32} {J J2 : Nat → Nat → Int64} {R : Nat → Nat} {T : List ez_C} {Q : ev_Q} {cz kz : Nat} {h s z b v o : Int32} {cd : Int64}
theorem fn_fl {a n pre : Nat} (hh : cx_hB cx_B0 I2) (hfr : cx_fr fn_md I J I2 J2) (h59 : I2 59 = I 59) (haz : z.toInt = a + n) (hz : a + n ≤ 400) (hpre : pre + nd_cnt (fun q => pl_P I J (I 59 q) b cd) a v n ≤ n)
    (cont : ∀ (g : Nat → Int32) (t i : Int32), t.toInt = ((a + pre + nd_cnt (fun q => pl_P I J (I 59 q) b cd) a v n : Nat) : Int) → (∀ q, 0 ≤ (g q).toInt ∧ (g q).toInt ≤ 400) →
      ev_W X 189 169 [.ref 35, .int h, .int s, .int z, .long cd, ez_fill, .int b, .int t, .int v, .int o, .int i] [] (ev_hp (ev_sI I2 58 g) J2 R T) cz kz Q) :
    ∀ (r j : Nat) (t i : Int32) (g : Nat → Int32), i.toInt = a + j → j + r = n → t.toInt = ((a + pre + nd_cnt (fun q => pl_P I J (I 59 q) b cd) a v j : Nat) : Int) → (∀ q, 0 ≤ (g q).toInt ∧ (g q).toInt ≤ 400) →
      ev_W X 189 120 [.ref 35, .int h, .int s, .int z, .long cd, ez_fill, .int b, .int t, .int v, .int o, .int i] [] (ev_hp (ev_sI I2 58 g) J2 R T) cz kz Q := by
  intro r
  induction r with
  | zero =>
    intro j t i g hi hj ht hg
    refine ev_if fn_w1 (fun _ => ?_) (fun x => ?_)
    · obtain rfl : j = n := by omega
      exact cont g t i ht hg
    · exact absurd (Int32.le_iff_toInt_le.mpr (by omega)) (of_decide_eq_false x)
  | succ r ih =>
    intro j t i g hi hj ht hg
    refine ev_if fn_w1 (fun x => ?_) (fun _ => ?_)
    · have := Int32.le_iff_toInt_le.mp (of_decide_eq_true x)
      omega
    have ei : i.toNatClampNeg = a + j := by rw [nd_nat]; omega
    have hi1 : (i + 1).toInt = i.toInt + 1 := nd_inc (by omega) (by omega)
    have hb := nd_bd4 (p := 59) (by decide) hh (a + j)
    have hc := nd_cnt_le (fun q => pl_P I J (I 59 q) b cd) a v j
    have hm := nd_cnt_mono (fun q => pl_P I J (I 59 q) b cd) a v r (j + 1)
    rw [show j + 1 + r = n by omega] at hm
    refine ev_seg fn_w2 ?_
    refine ev_iald (by rfl) (nd_getN (show cx_Ds[59]? = some (0, 401, []) from rfl) (by decide) g) (fs_ixs (by omega) (by omega)) ?_
    rw [ei]
    refine ev_call fn_w3 (eh_plQ X I (ev_sI I2 58 g) J J2 R T (I2 59 (a + j)) b cd (nd_hB4 (by decide) hh hg) (by omega) (cx_fr_t hfr (nd_fr (by rfl) g))) ?_
    rintro _ _ _ _ ⟨rfl, rfl, rfl, rfl⟩
    refine ev_if fn_w4 (fun x => ?_) (fun x => ?_)
    · have hx := of_decide_eq_true x
      have hn2 : nd_cnt (fun q => pl_P I J (I 59 q) b cd) a v (j + 1) = nd_cnt (fun q => pl_P I J (I 59 q) b cd) a v j := nd_cnt_n (by
        show ¬ pl_P I J (I 59 (a + j)) b cd = v
        rw [← h59]
        exact hx)
      refine ev_seg fn_w7 ?_
      exact ih (j + 1) t (i + 1) g (by omega) (by omega) (by rw [hn2]; exact ht) hg
    · have hx := Classical.not_not.mp (of_decide_eq_false x)
      have hn2 : nd_cnt (fun q => pl_P I J (I 59 q) b cd) a v (j + 1) = nd_cnt (fun q => pl_P I J (I 59 q) b cd) a v j + 1 := nd_cnt_y (by
        show pl_P I J (I 59 (a + j)) b cd = v
        rw [← h59]
        exact hx)
      refine ev_seg fn_w5 ?_
      refine ev_iald (by rfl) (nd_getN (show cx_Ds[59]? = some (0, 401, []) from rfl) (by decide) g) (fs_ixs (by omega) (by omega)) ?_
      rw [ei]
      refine ev_iastH (by rfl) (nd_getI (show cx_Ds[58]? = some (0, 401, []) from rfl) g) (fs_ixs (by omega) (by omega)) (nd_setI (show cx_Ds[58]? = some (0, 401, []) from rfl) g _) ?_
      refine ev_seg fn_w6 ?_
      refine ev_seg fn_w7 ?_
      refine ih (j + 1) (t + 1) (i + 1) _ (by omega) (by omega) ?_ (nd_upd_b _ hg hb)
      rw [hn2, nd_inc (by omega) (by omega)]
      omega
theorem fn_step {a n pre hn W : Nat} {t : Int32} (haz : z.toInt = a + n) (hz : a + n ≤ 400) (hs : s.toInt = a) (hv : v = 0 ∨ v = 1 ∨ v = 2) (hpre : pre + nd_cnt (fun q => pl_P I J (I 59 q) b cd) a v n ≤ n) (hhn : hn ≤ 1000)
    (hst : fn_st I J I2 J2 hn W) (hh : h.toInt = hn) (ht : t.toInt = ((a + pre : Nat) : Int))
    (cont : ∀ (I3 : Nat → Nat → Int32) (J3 : Nat → Nat → Int64) (h3 t3 : Int32) (hn3 : Nat), fn_st I J I3 J3 hn3 (W + fn_z (nd_cnt (fun q => pl_P I J (I 59 q) b cd) a v n)) → h3.toInt = hn3 → hn3 ≤ hn + 1 → t3.toInt = ((a + (pre + nd_cnt (fun q => pl_P I J (I 59 q) b cd) a v n) : Nat) : Int) →
      ev_W X 189 107 [.ref 35, .int h3, .int s, .int z, .long cd, ez_fill, .int b, .int t3, .int (v + 1)] [] (ev_hp I3 J3 R T) cz kz Q) :
    ev_W X 189 107 [.ref 35, .int h, .int s, .int z, .long cd, ez_fill, .int b, .int t, .int v] [] (ev_hp I2 J2 R T) cz kz Q := by
  obtain ⟨s1, s2, s3, s4, s5⟩ := hst
  refine ev_if fn_v1 (fun x => ?_) (fun _ => ?_)
  · have hx := of_decide_eq_true x
    rcases hv with rfl | rfl | rfl <;> exact absurd hx (by decide)
  refine ev_seg fn_v2 ?_
  have cont2 : ∀ (g : Nat → Int32) (t3 i : Int32), t3.toInt = ((a + pre + nd_cnt (fun q => pl_P I J (I 59 q) b cd) a v n : Nat) : Int) → (∀ q, 0 ≤ (g q).toInt ∧ (g q).toInt ≤ 400) →
      ev_W X 189 169 [.ref 35, .int h, .int s, .int z, .long cd, ez_fill, .int b, .int t3, .int v, .int t, .int i] [] (ev_hp (ev_sI I2 58 g) J2 R T) cz kz Q := by
    intro g t3 i ht3 hg
    have hB1 : cx_hB cx_B0 (ev_sI I2 58 g) := nd_hB4 (by decide) s1 hg
    have fr1 : cx_fr fn_md I J (ev_sI I2 58 g) J2 := cx_fr_t s2 (nd_fr (by rfl) g)
    have e54 : (ev_sI I2 58 g) 54 = I2 54 := rfl
    have e55 : (ev_sI I2 58 g) 55 = I2 55 := rfl
    have e59 : (ev_sI I2 58 g) 59 = I2 59 := rfl
    generalize ev_sI I2 58 g = I3 at hB1 fr1 e54 e55 e59 ⊢
    refine ev_if fn_x1 (fun x => ?_) (fun x => ?_)
    · have hx := Int32.le_iff_toInt_le.mp (of_decide_eq_true x)
      have hc : nd_cnt (fun q => pl_P I J (I 59 q) b cd) a v n = 0 := by omega
      refine ev_seg fn_x6 ?_
      refine ev_cutl (by rfl) ?_
      refine cont I3 J2 h t3 hn ⟨hB1, fr1, by rw [e59, s3], ?_, fun j hj => ?_⟩ hh (by omega) (by omega)
      · rw [e54, e55, s4, hc]
        rfl
      · rw [e54, e55]
        exact s5 j hj
    · have hx : ¬ t3.toInt ≤ t.toInt := fun y => (of_decide_eq_false x) (Int32.le_iff_toInt_le.mpr y)
      have eh : h.toNatClampNeg = hn := by rw [nd_nat]; omega
      refine ev_seg fn_x2 ?_
      refine ev_iastH (by rfl) (cx_getI (show cx_Ds[54]? = some (0, 1210, []) from rfl)) (fs_ixs (by omega) (by omega)) (cx_setI (show cx_Ds[54]? = some (0, 1210, []) from rfl) _) ?_
      refine ev_seg fn_x3 ?_
      refine ev_iastH (by rfl) (cx_getI (show cx_Ds[55]? = some (0, 1210, []) from rfl)) (fs_ixs (by omega) (by omega)) (cx_setI (show cx_Ds[55]? = some (0, 1210, []) from rfl) _) ?_
      refine ev_seg fn_x4 ?_
      refine ev_lastH (by rfl) (cx_getJ (show cx_Ds[56]? = some (1, 1210, []) from rfl)) (fs_ixs (by omega) (by omega)) (cx_setJ (show cx_Ds[56]? = some (1, 1210, []) from rfl) _) ?_
      refine ev_seg fn_x5 ?_
      refine ev_seg fn_x6 ?_
      refine ev_cutl (by rfl) ?_
      rw [eh]
      have b4 := nd_bd4 (p := 54) (by decide) hB1
      have b5 := nd_bd4 (p := 55) (by decide) hB1
      have hB2 : cx_hB cx_B0 (ev_sI I3 54 (upd (I3 54) hn t)) := nd_hB4 (by decide) hB1 (nd_upd_b _ b4 (by omega))
      have f1 : cx_fr fn_md I J (ev_sI I3 54 (upd (I3 54) hn t)) J2 := cx_fr_t fr1 (nd_fr (by rfl) _)
      have g5 : (ev_sI I3 54 (upd (I3 54) hn t)) 55 = I3 55 := rfl
      rw [g5]
      have hB3 : cx_hB cx_B0 (ev_sI (ev_sI I3 54 (upd (I3 54) hn t)) 55 (upd (I3 55) hn t3)) := nd_hB4 (by decide) hB2 (nd_upd_b _ b5 (by omega))
      have f2 : cx_fr fn_md I J (ev_sI (ev_sI I3 54 (upd (I3 54) hn t)) 55 (upd (I3 55) hn t3)) J2 := cx_fr_t f1 (nd_fr (by rfl) _)
      have k4 : (ev_sI (ev_sI I3 54 (upd (I3 54) hn t)) 55 (upd (I3 55) hn t3)) 54 = upd (I2 54) hn t := by rw [← e54]; rfl
      have k5 : (ev_sI (ev_sI I3 54 (upd (I3 54) hn t)) 55 (upd (I3 55) hn t3)) 55 = upd (I2 55) hn t3 := by rw [← e55]; rfl
      have k9 : (ev_sI (ev_sI I3 54 (upd (I3 54) hn t)) 55 (upd (I3 55) hn t3)) 59 = I2 59 := by rw [← e59]; rfl
      generalize ev_sI (ev_sI I3 54 (upd (I3 54) hn t)) 55 (upd (I3 55) hn t3) = I4 at hB3 f2 k4 k5 k9 ⊢
      refine cont I4 _ (h + 1) t3 (hn + 1) ⟨hB3, cx_fr_t f2 (nd_frJ (by rfl) _), by rw [k9, s3], ?_, fun j hj => ?_⟩ (by rw [nd_inc (by omega) (by omega)]; omega) (Nat.le_refl _) (by omega)
      · rw [k4, k5]
        show fn_W (upd (I2 54) hn t) (upd (I2 55) hn t3) hn + fn_w ((upd (I2 55) hn t3 hn).toInt - (upd (I2 54) hn t hn).toInt) = _
        rw [nd_upd_s, nd_upd_s, fn_W_eq hn fun j hj => ⟨nd_upd_n _ _ (by omega), nd_upd_n _ _ (by omega)⟩, s4, ht3, ht]
        congr 1
        unfold fn_w fn_z
        rw [if_neg (by omega), if_neg (by omega)]
        omega
      · rw [k4, k5]
        by_cases hj2 : j = hn
        · rw [hj2, nd_upd_s, nd_upd_s]
          omega
        · rw [nd_upd_n _ _ hj2, nd_upd_n _ _ hj2]
          exact s5 j (by omega)
  have hg := nd_bd4 (p := 58) (by decide) s1
  have hf := fn_fl (X := X) (I := I) (I2 := I2) (J := J) (J2 := J2) (R := R) (T := T) (Q := Q) (cz := cz) (kz := kz) (h := h) (s := s) (z := z) (b := b) (v := v) (o := t) (cd := cd) (a := a) (n := n) (pre := pre) s1 s2 s3 haz hz hpre cont2 n 0 t s (I2 58) (by omega) (by omega) (by rw [ht]; rfl) hg
  rw [nd_self] at hf
  exact hf
/-- what was sorted is put back, and counted -/
theorem fn_yl {n : Nat} {t : Int32} (haz : z.toInt = n) (hz : n ≤ 400)
    (cont : ∀ (I3 : Nat → Nat → Int32), cx_hB cx_B0 I3 → cx_fr fn_md I J I3 J2 → I3 54 = I2 54 → I3 55 = I2 55 → ev_W X 189 56 [.ref 35, .int h] [] (ev_hp I3 J2 R T) cz kz Q) :
    ∀ (r j : Nat) (i : Int32) (I3 : Nat → Nat → Int32), i.toInt = j → j + r = n → cx_hB cx_B0 I3 → cx_fr fn_md I J I3 J2 → I3 54 = I2 54 → I3 55 = I2 55 →
      ev_W X 189 217 [.ref 35, .int h, .int s, .int z, .long cd, ez_fill, .int b, .int t, .int i] [] (ev_hp I3 J2 R T) cz kz Q := by
  intro r
  induction r with
  | zero =>
    intro j i I3 hi hj h1 h2 h3 h4
    refine ev_if fn_y1 (fun _ => ?_) (fun x => ?_)
    · refine ev_seg fn_y7 ?_
      refine ev_cutl (by rfl) ?_
      exact cont I3 h1 h2 h3 h4
    · exact absurd (Int32.le_iff_toInt_le.mpr (by omega)) (of_decide_eq_false x)
  | succ r ih =>
    intro j i I3 hi hj h1 h2 h3 h4
    refine ev_if fn_y1 (fun x => ?_) (fun _ => ?_)
    · have := Int32.le_iff_toInt_le.mp (of_decide_eq_true x)
      omega
    have b8 := nd_bd4 (p := 58) (by decide) h1
    have b9 := nd_bd4 (p := 59) (by decide) h1
    refine ev_seg fn_y2 ?_
    refine ev_iald (by rfl) (cx_getI (show cx_Ds[58]? = some (0, 401, []) from rfl)) (fs_ixs (by omega) (by omega)) ?_
    refine ev_iastH (by rfl) (cx_getI (show cx_Ds[59]? = some (0, 401, []) from rfl)) (fs_ixs (by omega) (by omega)) (cx_setI (show cx_Ds[59]? = some (0, 401, []) from rfl) _) ?_
    have hB1 : cx_hB cx_B0 (ev_sI I3 59 (upd (I3 59) i.toNatClampNeg (I3 58 i.toNatClampNeg))) := nd_hB4 (by decide) h1 (nd_upd_b _ b9 (b8 _))
    have fr1 : cx_fr fn_md I J (ev_sI I3 59 (upd (I3 59) i.toNatClampNeg (I3 58 i.toNatClampNeg))) J2 := cx_fr_t h2 (nd_fr (by rfl) _)
    have k4 : (ev_sI I3 59 (upd (I3 59) i.toNatClampNeg (I3 58 i.toNatClampNeg))) 54 = I2 54 := by rw [cx_sI_n _ _ (by decide), h3]
    have k5 : (ev_sI I3 59 (upd (I3 59) i.toNatClampNeg (I3 58 i.toNatClampNeg))) 55 = I2 55 := by rw [cx_sI_n _ _ (by decide), h4]
    generalize ev_sI I3 59 (upd (I3 59) i.toNatClampNeg (I3 58 i.toNatClampNeg)) = I4 at hB1 fr1 k4 k5 ⊢
    have b9' := nd_bd4 (p := 59) (by decide) hB1
    refine ev_seg fn_y3 ?_
    refine ev_iald (by rfl) (cx_getI (show cx_Ds[59]? = some (0, 401, []) from rfl)) (fs_ixs (by omega) (by omega)) ?_
    have hg := b9' i.toNatClampNeg
    generalize I4 59 i.toNatClampNeg = g at hg ⊢
    refine ev_seg fn_y4 ?_
    refine ev_iald (by rfl) (cx_getI (show cx_Ds[57]? = some (0, 401, []) from rfl)) (fs_ixs (by omega) (by omega)) ?_
    refine ev_seg fn_y5 ?_
    refine ev_iastH (by rfl) (cx_getI (show cx_Ds[57]? = some (0, 401, []) from rfl)) (fs_ixs (by omega) (by omega)) (cx_setI (show cx_Ds[57]? = some (0, 401, []) from rfl) _) ?_
    refine ev_seg fn_y6 ?_
    refine ih (j + 1) (i + 1) _ (by rw [nd_inc (by omega) (by omega)]; omega) (by omega) (nd_hB57 hB1 _) (cx_fr_t fr1 (nd_fr (by rfl) _)) ?_ ?_
    · rw [cx_sI_n _ _ (by decide), k4]
    · rw [cx_sI_n _ _ (by decide), k5]
end
section
variable {X : ez_X} {I0 : Nat → Nat → Int32} {J0 : Nat → Nat → Int64} {R : Nat → Nat} {T : List ez_C} {Q : ev_Q} {cz kz : Nat}
theorem fn_main (fin : ∀ (I : Nat → Nat → Int32) (J : Nat → Nat → Int64), cx_hB cx_B0 I → cx_fr fn_md I0 J0 I J → Q none (ev_hp I J R T) cz kz) :
    ∀ (D hn : Nat) (h : Int32) (I : Nat → Nat → Int32) (J : Nat → Nat → Int64), fn_W (I 54) (I 55) hn < D → D ≤ 800 → h.toInt = hn → cx_hB cx_B0 I → cx_fr fn_md I0 J0 I J → (∀ j, j < hn → (I 54 j).toInt ≤ (I 55 j).toInt) →
      ev_W X 189 56 [.ref 35, .int h] [] (ev_hp I J R T) cz kz Q := by
  have e0 : (0 : Int32).toInt = 0 := by decide
  intro D
  induction D with
  | zero =>
    intro hn h I J hD
    omega
  | succ D ih =>
    intro hn h I J hD hD8 hh hB hfr hle
    refine ev_if fn_h1 (fun _ => ev_ret fn_z1 (fin I J hB hfr)) (fun x => ?_)
    have hx : ¬ h.toInt ≤ 0 := fun y => (of_decide_eq_false x) (Int32.le_iff_toInt_le.mpr (by rw [e0]; exact y))
    obtain ⟨m, rfl⟩ : ∃ m, hn = m + 1 := ⟨hn - 1, by omega⟩
    have hge := fn_W_ge (I 54) (I 55) (m + 1)
    have hWs : fn_W (I 54) (I 55) (m + 1) = fn_W (I 54) (I 55) m + fn_w ((I 55 m).toInt - (I 54 m).toInt) := rfl
    have hw1 := fn_w_1 ((I 55 m).toInt - (I 54 m).toInt)
    have hlm := hle m (by omega)
    have b4 := nd_bd4 (p := 54) (by decide) hB m
    have b5 := nd_bd4 (p := 55) (by decide) hB m
    refine ev_seg fn_h2a ?_
    have hd : (h + Int32.ofInt (-1)).toInt = m := by rw [fs_dec (by omega)]; omega
    generalize h + Int32.ofInt (-1) = h' at hd ⊢
    have eh : h'.toNatClampNeg = m := by rw [nd_nat]; omega
    refine ev_seg fn_h2b ?_
    refine ev_iald (by rfl) (cx_getI (show cx_Ds[54]? = some (0, 1210, []) from rfl)) (fs_ixs (by omega) (by omega)) ?_
    rw [eh]
    refine ev_seg fn_h3 ?_
    refine ev_iald (by rfl) (cx_getI (show cx_Ds[55]? = some (0, 1210, []) from rfl)) (fs_ixs (by omega) (by omega)) ?_
    rw [eh]
    refine ev_seg fn_h4 ?_
    refine ev_lald (by rfl) (cx_getJ (show cx_Ds[56]? = some (1, 1210, []) from rfl)) (fs_ixs (by omega) (by omega)) ?_
    generalize hs : I 54 m = s at hWs hw1 hlm b4 ⊢
    generalize hz : I 55 m = z at hWs hw1 hlm b5 ⊢
    generalize J 56 h'.toNatClampNeg = cd
    have hzs : (z - s).toInt = z.toInt - s.toInt := by
      rw [Int32.toInt_sub, cx_bm32]
      simp only [cx_i32]
      omega
    refine ev_call fn_h5 (eh_cf X I J R T s z cd (a := s.toInt.toNat) (n := (z.toInt - s.toInt).toNat) hB (by omega) (by omega) (by omega)) ?_
    rintro _ _ _ _ ⟨f, b, l, rfl, rfl, rfl, rfl, hb⟩
    have hB1 : cx_hB cx_B0 (ev_sI I 53 f) := nd_hB53 hB f
    have fr1 : cx_fr fn_md I J (ev_sI I 53 f) J := nd_fr (by rfl) f
    refine ev_if fn_h6 (fun x => ?_) (fun x => ?_)
    · refine ev_seg fn_h7 ?_
      refine ev_cutl (by rfl) ?_
      exact ih m h' (ev_sI I 53 f) J (show fn_W (I 54) (I 55) m < D by omega) (by omega) hd hB1 (cx_fr_t hfr fr1) (fun j hj => hle j (by omega))
    rcases hb with ⟨hb, -⟩ | ⟨-, -, b2, b3⟩
    · exact absurd hb (of_decide_eq_false x)
    refine ev_seg fn_h8 ?_
    have hsum := nd_cnt_sum (fun q => pl_P I J (I 59 q) b cd) s.toInt.toNat (fun q => pl_P_r I J (I 59 q) b cd) (z.toInt - s.toInt).toNat
    have c0 := b3 0 (Or.inl rfl)
    have c1 := b3 1 (Or.inr (Or.inl rfl))
    have c2 := b3 2 (Or.inr (Or.inr rfl))
    have hless := fn_less hsum (by omega) (by omega) (by omega)
    have hnn : (((z.toInt - s.toInt).toNat : Nat) : Int) = z.toInt - s.toInt := by omega
    rw [hnn] at hless
    have st0 : fn_st I J (ev_sI I 53 f) J m (fn_W (I 54) (I 55) m) := ⟨hB1, fr1, rfl, rfl, fun j hj => hle j (by omega)⟩
    refine fn_step (a := s.toInt.toNat) (n := (z.toInt - s.toInt).toNat) (pre := 0) (by omega) (by omega) (by omega) (Or.inl rfl) (by omega) (by omega) st0 hd (by omega) (fun I1 J1 h1 t1 n1 st1 hn1 hle1 ht1 => ?_)
    rw [show (0 + 1 : Int32) = 1 from by decide]
    refine fn_step (a := s.toInt.toNat) (n := (z.toInt - s.toInt).toNat) (by omega) (by omega) (by omega) (Or.inr (Or.inl rfl)) (by omega) (by omega) st1 hn1 ht1 (fun I2 J2 h2 t2 n2 st2 hn2 hle2 ht2 => ?_)
    rw [show (1 + 1 : Int32) = 2 from by decide]
    refine fn_step (a := s.toInt.toNat) (n := (z.toInt - s.toInt).toNat) (by omega) (by omega) (by omega) (Or.inr (Or.inr rfl)) (by omega) (by omega) st2 hn2 ht2 (fun I3 J3 h3 t3 n3 st3 hn3 hle3 ht3 => ?_)
    rw [show (2 + 1 : Int32) = 3 from by decide]
    refine ev_if fn_v1 (fun _ => ?_) (fun y => absurd (Int32.le_refl 3) (of_decide_eq_false y))
    refine ev_seg fn_y0 ?_
    obtain ⟨u1, u2, u3, u4, u5⟩ := st3
    refine fn_yl (I := I) (I2 := I3) (J := J) (n := z.toInt.toNat) (by omega) (by omega) (fun I4 w1 w2 w3 w4 => ?_) (z.toInt - s.toInt).toNat s.toInt.toNat s I3 (by omega) (by omega) u1 u2 rfl rfl
    refine ih n3 h3 I4 J3 ?_ (by omega) hn3 w1 (cx_fr_t hfr w2) (fun j hj => ?_)
    · rw [w3, w4, u4]
      omega
    · rw [w3, w4]
      exact u5 j hj
theorem fn_il {n : Nat} (hz : (I0 35 14).toInt = n) (hn : n ≤ 400)
    (cont : ∀ (I : Nat → Nat → Int32) (i : Int32), cx_hB cx_B0 I → cx_fr fn_md I0 J0 I J0 → ev_W X 189 30 [.ref 35, .int i] [] (ev_hp I J0 R T) cz kz Q) :
    ∀ (r j : Nat) (i : Int32) (I : Nat → Nat → Int32), i.toInt = j → j + r = n → cx_hB cx_B0 I → cx_fr fn_md I0 J0 I J0 → ev_W X 189 2 [.ref 35, .int i] [] (ev_hp I J0 R T) cz kz Q := by
  intro r
  induction r with
  | zero =>
    intro j i I hi hj h1 h2
    have e := congrFun (fn_lk h2).1 14
    refine ev_if fn_a1 (fun _ => cont I i h1 h2) (fun x => ?_)
    exact absurd (Int32.le_iff_toInt_le.mpr (by rw [e]; omega)) (of_decide_eq_false x)
  | succ r ih =>
    intro j i I hi hj h1 h2
    have e := congrFun (fn_lk h2).1 14
    refine ev_if fn_a1 (fun x => ?_) (fun _ => ?_)
    · have := Int32.le_iff_toInt_le.mp (of_decide_eq_true x)
      rw [e] at this
      omega
    refine ev_seg fn_a2 ?_
    refine ev_iastH (by rfl) (cx_getI (show cx_Ds[59]? = some (0, 401, []) from rfl)) (fs_ixs (by omega) (by omega)) (cx_setI (show cx_Ds[59]? = some (0, 401, []) from rfl) _) ?_
    have hB1 := nd_hB4 (p := 59) (by decide) h1 (nd_upd_b i.toNatClampNeg (nd_bd4 (p := 59) (by decide) h1) (x := i) (by omega))
    refine ev_seg fn_a3 ?_
    refine ev_iastH (by rfl) (cx_getI (show cx_Ds[57]? = some (0, 401, []) from rfl)) (fs_ixs (by omega) (by omega)) (cx_setI (show cx_Ds[57]? = some (0, 401, []) from rfl) _) ?_
    refine ev_seg fn_a4 ?_
    exact ih (j + 1) (i + 1) _ (by rw [nd_inc (by omega) (by omega)]; omega) (by omega) (nd_hB57 hB1 _) (cx_fr_t (cx_fr_t h2 (nd_fr (by rfl) _)) (nd_fr (by rfl) _))
end
theorem cv_SquaredShipsModel_findNeeds : cx_valid cx_B0 189 ck_SquaredShipsModel_findNeeds := by
  intro X σ0 ls I J R T hX2 hh hok
  obtain ⟨v1, t1, rfl, rfl, g2⟩ := cx_L_inv hok.1
  obtain rfl := cx_L_nil g2 rfl
  have e0 : (0 : Int32).toInt = 0 := by decide
  have hz0 : σ0[0]? = some (I 35 14).toInt := hok.2.2.2.2.1 (35, 14, 0) List.mem_cons_self
  have hzb := hok.2.2.1.2 0 _ (0, 400) hz0 rfl
  simp only at hzb
  refine ev_seg fn_a0 ?_
  refine fn_il (n := (I 35 14).toInt.toNat) (by omega) (by omega) (fun I1 i h1 h2 => ?_) (I 35 14).toInt.toNat 0 0 I (by decide) (by omega) hh.1 (cx_fr_r _ _ _)
  refine ev_seg fn_a5 ?_
  refine ev_iastH (by rfl) (cx_getI (show cx_Ds[54]? = some (0, 1210, []) from rfl)) (fs_ixs (by decide) (by decide)) (cx_setI (show cx_Ds[54]? = some (0, 1210, []) from rfl) _) ?_
  have hB2 := nd_hB4 (p := 54) (by decide) h1 (nd_upd_b (0 : Int32).toNatClampNeg (nd_bd4 (p := 54) (by decide) h1) (x := 0) (by decide))
  have fr2 := cx_fr_t h2 (nd_fr (p := 54) (by rfl) (upd (I1 54) (0 : Int32).toNatClampNeg 0))
  have k4 : (ev_sI I1 54 (upd (I1 54) (0 : Int32).toNatClampNeg 0)) 54 0 = 0 := by
    rw [cx_sI_s]
    exact nd_upd_s _ _ _
  generalize ev_sI I1 54 (upd (I1 54) (0 : Int32).toNatClampNeg 0) = I2 at hB2 fr2 k4 ⊢
  refine ev_seg fn_a6 ?_
  have e14 : I2 35 14 = I 35 14 := congrFun (fn_lk fr2).1 14
  refine ev_iastH (by rfl) (cx_getI (show cx_Ds[55]? = some (0, 1210, []) from rfl)) (fs_ixs (by decide) (by decide)) (cx_setI (show cx_Ds[55]? = some (0, 1210, []) from rfl) _) ?_
  rw [e14]
  have hB3 := nd_hB4 (p := 55) (by decide) hB2 (nd_upd_b (0 : Int32).toNatClampNeg (nd_bd4 (p := 55) (by decide) hB2) (x := I 35 14) hzb)
  have fr3 := cx_fr_t fr2 (nd_fr (p := 55) (by rfl) (upd (I2 55) (0 : Int32).toNatClampNeg (I 35 14)))
  have m4 : (ev_sI I2 55 (upd (I2 55) (0 : Int32).toNatClampNeg (I 35 14))) 54 0 = 0 := by rw [← k4]; rfl
  have m5 : (ev_sI I2 55 (upd (I2 55) (0 : Int32).toNatClampNeg (I 35 14))) 55 0 = I 35 14 := by
    rw [cx_sI_s]
    exact nd_upd_s _ _ _
  generalize ev_sI I2 55 (upd (I2 55) (0 : Int32).toNatClampNeg (I 35 14)) = I3 at hB3 fr3 m4 m5 ⊢
  refine ev_seg fn_a7 ?_
  refine ev_lastH (by rfl) (cx_getJ (show cx_Ds[56]? = some (1, 1210, []) from rfl)) (fs_ixs (by decide) (by decide)) (cx_setJ (show cx_Ds[56]? = some (1, 1210, []) from rfl) _) ?_
  have fr4 := cx_fr_t fr3 (nd_frJ (p := 56) (by rfl) (vp_updL (J 56) (0 : Int32).toNatClampNeg 0))
  refine fn_main (I0 := I) (J0 := J) (fun I' J' b1 b2 => ?_) 800 1 1 I3 _ ?_ (Nat.le_refl _) (by decide) hB3 fr4 (fun j hj => ?_)
  · exact ⟨I', J', R, T, rfl, ⟨b1, hh.2⟩, b2, cx_leT_r T, rfl, rfl, _, List.mem_cons_self, σ0, cx_ext_r σ0, cx_ok_none hok.2.2.1 I' T⟩
  · show 0 + fn_w ((I3 55 0).toInt - (I3 54 0).toInt) < 800
    rw [m4, m5, e0]
    unfold fn_w
    split <;> omega
  · obtain rfl : j = 0 := by omega
    rw [m4, m5, e0]
    exact hzb.1
