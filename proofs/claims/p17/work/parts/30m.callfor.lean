/-! callFor. -/
section
variable {X : ez_X} {I : Nat → Nat → Int32} {J : Nat → Nat → Int64} {R : Nat → Nat} {T : List ez_C} {cz kz : Nat}
theorem cf_r1 {s : Int32} {z : Int32} {cd : Int64} {b : Int32} {l : Int32} {c : Int32} {i : Int32} : ∀ G : ez_F, fx_up X 3 G 177 44 [.ref 35, .int s, .int z, .long cd, ez_fill, .int b, .int l, .int c, .int i] [] (ev_hp I J R T) cz kz = bif decide (z ≤ i) then G 177 79 [.ref 35, .int s, .int z, .long cd, ez_fill, .int b, .int l, .int c, .int i] [] (ev_hp I J R T) cz kz else G 177 50 [.ref 35, .int s, .int z, .long cd, ez_fill, .int b, .int l, .int c, .int i] [] (ev_hp I J R T) cz kz := by
  intro G
  rfl
theorem cf_r2 {s : Int32} {z : Int32} {cd : Int64} {b : Int32} {l : Int32} {c : Int32} {i : Int32} : ∀ G : ez_F, fx_up X 6 G 177 50 [.ref 35, .int s, .int z, .long cd, ez_fill, .int b, .int l, .int c, .int i] [] (ev_hp I J R T) cz kz = G 177 61 [.ref 35, .int s, .int z, .long cd, ez_fill, .int b, .int l, .int c, .int i] [.int i, .ref 59, .ref 35, .ref 53] (ev_hp I J R T) cz kz := by
  intro G
  rfl
theorem cf_r3 {s : Int32} {z : Int32} {cd : Int64} {b : Int32} {l : Int32} {c : Int32} {i : Int32} {g : Int32} : ∀ G : ez_F, fx_up X 3 G 177 62 [.ref 35, .int s, .int z, .long cd, ez_fill, .int b, .int l, .int c, .int i] [.int g, .ref 35, .ref 53] (ev_hp I J R T) cz kz = ev_C G 216 [.ref 35, .int g, .int c, .long cd] (ev_hp I J R T) fun r h1 c1 k1 => G 177 68 [.ref 35, .int s, .int z, .long cd, ez_fill, .int b, .int l, .int c, .int i] (r.toList ++ [.ref 53]) h1 (cz + c1) (kz + k1) := by
  intro G
  rfl
theorem cf_r4 {s : Int32} {z : Int32} {cd : Int64} {b : Int32} {l : Int32} {c : Int32} {i : Int32} {v : Int32} : ∀ G : ez_F, fx_up X 1 G 177 68 [.ref 35, .int s, .int z, .long cd, ez_fill, .int b, .int l, .int c, .int i] [.int v, .ref 53] (ev_hp I J R T) cz kz = G 177 69 [.ref 35, .int s, .int z, .long cd, ez_fill, .int b, .int l, .int c, .int i] [.int v, .ref 53, .int v, .ref 53] (ev_hp I J R T) cz kz := by
  intro G
  rfl
theorem cf_r5 {s : Int32} {z : Int32} {cd : Int64} {b : Int32} {l : Int32} {c : Int32} {i : Int32} {x : Int32} {v : Int32} : ∀ G : ez_F, fx_up X 2 G 177 70 [.ref 35, .int s, .int z, .long cd, ez_fill, .int b, .int l, .int c, .int i] [.int x, .int v, .ref 53] (ev_hp I J R T) cz kz = G 177 72 [.ref 35, .int s, .int z, .long cd, ez_fill, .int b, .int l, .int c, .int i] [.int (x + 1), .int v, .ref 53] (ev_hp I J R T) cz kz := by
  intro G
  rfl
theorem cf_r6 {s : Int32} {z : Int32} {cd : Int64} {b : Int32} {l : Int32} {c : Int32} {i : Int32} : ∀ G : ez_F, fx_up X 2 G 177 73 [.ref 35, .int s, .int z, .long cd, ez_fill, .int b, .int l, .int c, .int i] [] (ev_hp I J R T) cz kz = G 177 44 [.ref 35, .int s, .int z, .long cd, ez_fill, .int b, .int l, .int c, .int (i + 1)] [] (ev_hp I J R T) cz kz := by
  intro G
  rfl
theorem cf_r7 {s : Int32} {z : Int32} {cd : Int64} {b : Int32} {l : Int32} {c : Int32} {i : Int32} : ∀ G : ez_F, fx_up X 3 G 177 79 [.ref 35, .int s, .int z, .long cd, ez_fill, .int b, .int l, .int c, .int i] [] (ev_hp I J R T) cz kz = G 177 84 [.ref 35, .int s, .int z, .long cd, ez_fill, .int b, .int l, .int c, .int i] [.int 0, .ref 53] (ev_hp I J R T) cz kz := by
  intro G
  rfl
theorem cf_r8 {s : Int32} {z : Int32} {cd : Int64} {b : Int32} {l : Int32} {c : Int32} {i : Int32} {x : Int32} : ∀ G : ez_F, fx_up X 3 G 177 85 [.ref 35, .int s, .int z, .long cd, ez_fill, .int b, .int l, .int c, .int i] [.int x] (ev_hp I J R T) cz kz = G 177 90 [.ref 35, .int s, .int z, .long cd, ez_fill, .int b, .int l, .int c, .int i] [.int 1, .ref 53, .int x] (ev_hp I J R T) cz kz := by
  intro G
  rfl
theorem cf_r9 {s : Int32} {z : Int32} {cd : Int64} {b : Int32} {l : Int32} {c : Int32} {i : Int32} {y : Int32} {x : Int32} : ∀ G : ez_F, fx_up X 1 G 177 91 [.ref 35, .int s, .int z, .long cd, ez_fill, .int b, .int l, .int c, .int i] [.int y, .int x] (ev_hp I J R T) cz kz = bif decide (x ≤ y) then G 177 103 [.ref 35, .int s, .int z, .long cd, ez_fill, .int b, .int l, .int c, .int i] [] (ev_hp I J R T) cz kz else G 177 94 [.ref 35, .int s, .int z, .long cd, ez_fill, .int b, .int l, .int c, .int i] [] (ev_hp I J R T) cz kz := by
  intro G
  rfl
theorem cf_r10 {s : Int32} {z : Int32} {cd : Int64} {b : Int32} {l : Int32} {c : Int32} {i : Int32} : ∀ G : ez_F, fx_up X 3 G 177 94 [.ref 35, .int s, .int z, .long cd, ez_fill, .int b, .int l, .int c, .int i] [] (ev_hp I J R T) cz kz = G 177 99 [.ref 35, .int s, .int z, .long cd, ez_fill, .int b, .int l, .int c, .int i] [.int 0, .ref 53] (ev_hp I J R T) cz kz := by
  intro G
  rfl
theorem cf_r11 {s : Int32} {z : Int32} {cd : Int64} {b : Int32} {l : Int32} {c : Int32} {i : Int32} {x : Int32} : ∀ G : ez_F, fx_up X 1 G 177 100 [.ref 35, .int s, .int z, .long cd, ez_fill, .int b, .int l, .int c, .int i] [.int x] (ev_hp I J R T) cz kz = G 177 109 [.ref 35, .int s, .int z, .long cd, ez_fill, .int b, .int l, .int c, .int i] [.int x] (ev_hp I J R T) cz kz := by
  intro G
  rfl
theorem cf_r12 {s : Int32} {z : Int32} {cd : Int64} {b : Int32} {l : Int32} {c : Int32} {i : Int32} : ∀ G : ez_F, fx_up X 3 G 177 103 [.ref 35, .int s, .int z, .long cd, ez_fill, .int b, .int l, .int c, .int i] [] (ev_hp I J R T) cz kz = G 177 108 [.ref 35, .int s, .int z, .long cd, ez_fill, .int b, .int l, .int c, .int i] [.int 1, .ref 53] (ev_hp I J R T) cz kz := by
  intro G
  rfl
theorem cf_r13 {s : Int32} {z : Int32} {cd : Int64} {b : Int32} {l : Int32} {c : Int32} {i : Int32} {x : Int32} : ∀ G : ez_F, fx_up X 4 G 177 109 [.ref 35, .int s, .int z, .long cd, ez_fill, .int b, .int l, .int c, .int i] [.int x] (ev_hp I J R T) cz kz = G 177 116 [.ref 35, .int s, .int z, .long cd, ez_fill, .int b, .int l, .int c, .int x] [.int 2, .ref 53] (ev_hp I J R T) cz kz := by
  intro G
  rfl
theorem cf_r14 {s : Int32} {z : Int32} {cd : Int64} {b : Int32} {l : Int32} {c : Int32} {x : Int32} {y : Int32} : ∀ G : ez_F, fx_up X 2 G 177 117 [.ref 35, .int s, .int z, .long cd, ez_fill, .int b, .int l, .int c, .int x] [.int y] (ev_hp I J R T) cz kz = bif decide (y ≤ x) then G 177 131 [.ref 35, .int s, .int z, .long cd, ez_fill, .int b, .int l, .int c, .int x] [] (ev_hp I J R T) cz kz else G 177 122 [.ref 35, .int s, .int z, .long cd, ez_fill, .int b, .int l, .int c, .int x] [] (ev_hp I J R T) cz kz := by
  intro G
  rfl
theorem cf_r15 {s : Int32} {z : Int32} {cd : Int64} {b : Int32} {l : Int32} {c : Int32} {x : Int32} : ∀ G : ez_F, fx_up X 3 G 177 122 [.ref 35, .int s, .int z, .long cd, ez_fill, .int b, .int l, .int c, .int x] [] (ev_hp I J R T) cz kz = G 177 127 [.ref 35, .int s, .int z, .long cd, ez_fill, .int b, .int l, .int c, .int x] [.int 2, .ref 53] (ev_hp I J R T) cz kz := by
  intro G
  rfl
theorem cf_r16 {s : Int32} {z : Int32} {cd : Int64} {b : Int32} {l : Int32} {c : Int32} {x : Int32} {y : Int32} : ∀ G : ez_F, fx_up X 1 G 177 128 [.ref 35, .int s, .int z, .long cd, ez_fill, .int b, .int l, .int c, .int x] [.int y] (ev_hp I J R T) cz kz = G 177 133 [.ref 35, .int s, .int z, .long cd, ez_fill, .int b, .int l, .int c, .int x] [.int y] (ev_hp I J R T) cz kz := by
  intro G
  rfl
theorem cf_r17 {s : Int32} {z : Int32} {cd : Int64} {b : Int32} {l : Int32} {c : Int32} {x : Int32} : ∀ G : ez_F, fx_up X 1 G 177 131 [.ref 35, .int s, .int z, .long cd, ez_fill, .int b, .int l, .int c, .int x] [] (ev_hp I J R T) cz kz = G 177 133 [.ref 35, .int s, .int z, .long cd, ez_fill, .int b, .int l, .int c, .int x] [.int x] (ev_hp I J R T) cz kz := by
  intro G
  rfl
theorem cf_r18 {s : Int32} {z : Int32} {cd : Int64} {b : Int32} {l : Int32} {c : Int32} {i : Int32} {w : Int32} : ∀ G : ez_F, fx_up X 4 G 177 133 [.ref 35, .int s, .int z, .long cd, ez_fill, .int b, .int l, .int c, .int i] [.int w] (ev_hp I J R T) cz kz = bif decide (l ≤ w) then G 177 147 [.ref 35, .int s, .int z, .long cd, ez_fill, .int b, .int l, .int c, .int w] [] (ev_hp I J R T) cz kz else G 177 142 [.ref 35, .int s, .int z, .long cd, ez_fill, .int b, .int l, .int c, .int w] [] (ev_hp I J R T) cz kz := by
  intro G
  rfl
theorem cf_r19 {s : Int32} {z : Int32} {cd : Int64} {b : Int32} {l : Int32} {c : Int32} {w : Int32} : ∀ G : ez_F, fx_up X 2 G 177 142 [.ref 35, .int s, .int z, .long cd, ez_fill, .int b, .int l, .int c, .int w] [] (ev_hp I J R T) cz kz = G 177 149 [.ref 35, .int s, .int z, .long cd, ez_fill, .int b, .int l, .int c, .int w] [.int c] (ev_hp I J R T) cz kz := by
  intro G
  rfl
theorem cf_r20 {s : Int32} {z : Int32} {cd : Int64} {b : Int32} {l : Int32} {c : Int32} {w : Int32} : ∀ G : ez_F, fx_up X 1 G 177 147 [.ref 35, .int s, .int z, .long cd, ez_fill, .int b, .int l, .int c, .int w] [] (ev_hp I J R T) cz kz = G 177 149 [.ref 35, .int s, .int z, .long cd, ez_fill, .int b, .int l, .int c, .int w] [.int b] (ev_hp I J R T) cz kz := by
  intro G
  rfl
theorem cf_r21 {s : Int32} {z : Int32} {cd : Int64} {b : Int32} {l : Int32} {c : Int32} {w : Int32} {b' : Int32} : ∀ G : ez_F, fx_up X 4 G 177 149 [.ref 35, .int s, .int z, .long cd, ez_fill, .int b, .int l, .int c, .int w] [.int b'] (ev_hp I J R T) cz kz = bif decide (l ≤ w) then G 177 163 [.ref 35, .int s, .int z, .long cd, ez_fill, .int b', .int l, .int c, .int w] [] (ev_hp I J R T) cz kz else G 177 158 [.ref 35, .int s, .int z, .long cd, ez_fill, .int b', .int l, .int c, .int w] [] (ev_hp I J R T) cz kz := by
  intro G
  rfl
theorem cf_r22 {s : Int32} {z : Int32} {cd : Int64} {b : Int32} {l : Int32} {c : Int32} {w : Int32} : ∀ G : ez_F, fx_up X 2 G 177 158 [.ref 35, .int s, .int z, .long cd, ez_fill, .int b, .int l, .int c, .int w] [] (ev_hp I J R T) cz kz = G 177 165 [.ref 35, .int s, .int z, .long cd, ez_fill, .int b, .int l, .int c, .int w] [.int w] (ev_hp I J R T) cz kz := by
  intro G
  rfl
theorem cf_r23 {s : Int32} {z : Int32} {cd : Int64} {b : Int32} {l : Int32} {c : Int32} {w : Int32} : ∀ G : ez_F, fx_up X 1 G 177 163 [.ref 35, .int s, .int z, .long cd, ez_fill, .int b, .int l, .int c, .int w] [] (ev_hp I J R T) cz kz = G 177 165 [.ref 35, .int s, .int z, .long cd, ez_fill, .int b, .int l, .int c, .int w] [.int l] (ev_hp I J R T) cz kz := by
  intro G
  rfl
theorem cf_r24 {s : Int32} {z : Int32} {cd : Int64} {b : Int32} {l : Int32} {c : Int32} {w : Int32} {l' : Int32} : ∀ G : ez_F, fx_up X 3 G 177 165 [.ref 35, .int s, .int z, .long cd, ez_fill, .int b, .int l, .int c, .int w] [.int l'] (ev_hp I J R T) cz kz = G 177 11 [.ref 35, .int s, .int z, .long cd, ez_fill, .int b, .int l', .int (c + 1), .int w] [] (ev_hp I J R T) cz kz := by
  intro G
  rfl
theorem cf_r25 {s : Int32} {z : Int32} {cd : Int64} {b : Int32} {l : Int32} {c : Int32} : ∀ G : ez_F, fx_up X 3 G 177 11 [.ref 35, .int s, .int z, .long cd, ez_fill, .int b, .int l, .int c] [] (ev_hp I J R T) cz kz = ev_C G 179 [.ref 35] (ev_hp I J R T) fun r h1 c1 k1 => G 177 17 [.ref 35, .int s, .int z, .long cd, ez_fill, .int b, .int l, .int c] (r.toList ++ [.int c]) h1 (cz + c1) (kz + k1) := by
  intro G
  rfl
theorem cf_r26 {s : Int32} {z : Int32} {cd : Int64} {b : Int32} {l : Int32} {c : Int32} {y : Int32} : ∀ G : ez_F, fx_up X 1 G 177 17 [.ref 35, .int s, .int z, .long cd, ez_fill, .int b, .int l, .int c] [.int y, .int c] (ev_hp I J R T) cz kz = bif decide (y ≤ c) then G 177 173 [.ref 35, .int s, .int z, .long cd, ez_fill, .int b, .int l, .int c] [] (ev_hp I J R T) cz kz else G 177 20 [.ref 35, .int s, .int z, .long cd, ez_fill, .int b, .int l, .int c] [] (ev_hp I J R T) cz kz := by
  intro G
  rfl
theorem cf_r27 {s : Int32} {z : Int32} {cd : Int64} {b : Int32} {l : Int32} {c : Int32} : ∀ G : ez_F, fx_up X 4 G 177 20 [.ref 35, .int s, .int z, .long cd, ez_fill, .int b, .int l, .int c] [] (ev_hp I J R T) cz kz = G 177 26 [.ref 35, .int s, .int z, .long cd, ez_fill, .int b, .int l, .int c] [.int 0, .int 0, .ref 53] (ev_hp I J R T) cz kz := by
  intro G
  rfl
theorem cf_r28 {s : Int32} {z : Int32} {cd : Int64} {b : Int32} {l : Int32} {c : Int32} : ∀ G : ez_F, fx_up X 4 G 177 27 [.ref 35, .int s, .int z, .long cd, ez_fill, .int b, .int l, .int c] [] (ev_hp I J R T) cz kz = G 177 33 [.ref 35, .int s, .int z, .long cd, ez_fill, .int b, .int l, .int c] [.int 0, .int 1, .ref 53] (ev_hp I J R T) cz kz := by
  intro G
  rfl
theorem cf_r29 {s : Int32} {z : Int32} {cd : Int64} {b : Int32} {l : Int32} {c : Int32} : ∀ G : ez_F, fx_up X 4 G 177 34 [.ref 35, .int s, .int z, .long cd, ez_fill, .int b, .int l, .int c] [] (ev_hp I J R T) cz kz = G 177 40 [.ref 35, .int s, .int z, .long cd, ez_fill, .int b, .int l, .int c] [.int 0, .int 2, .ref 53] (ev_hp I J R T) cz kz := by
  intro G
  rfl
theorem cf_r30 {s : Int32} {z : Int32} {cd : Int64} {b : Int32} {l : Int32} {c : Int32} : ∀ G : ez_F, fx_up X 2 G 177 41 [.ref 35, .int s, .int z, .long cd, ez_fill, .int b, .int l, .int c] [] (ev_hp I J R T) cz kz = G 177 44 [.ref 35, .int s, .int z, .long cd, ez_fill, .int b, .int l, .int c, .int s] [] (ev_hp I J R T) cz kz := by
  intro G
  rfl
end
section
variable {X : ez_X} {I : Nat → Nat → Int32} {J : Nat → Nat → Int64} {R : Nat → Nat} {T : List ez_C} {Q : ev_Q} {cz kz : Nat} {s z b l c : Int32} {cd : Int64}
theorem cf_cl {a n : Nat} (hh : cx_hB cx_B0 I) (haz : z.toInt = a + n) (hz : a + n ≤ 400)
    (cont : ∀ (f : Nat → Int32) (i : Int32), nd_is (fun q => pl_P I J (I 59 q) c cd) a n f → ev_W X 177 79 [.ref 35, .int s, .int z, .long cd, ez_fill, .int b, .int l, .int c, .int i] [] (ev_hp (ev_sI I 53 f) J R T) cz kz Q) :
    ∀ (r m : Nat) (i : Int32) (f : Nat → Int32), i.toInt = a + m → m + r = n → nd_is (fun q => pl_P I J (I 59 q) c cd) a m f → ev_W X 177 44 [.ref 35, .int s, .int z, .long cd, ez_fill, .int b, .int l, .int c, .int i] [] (ev_hp (ev_sI I 53 f) J R T) cz kz Q := by
  intro r
  induction r with
  | zero =>
    intro m i f hi hm hf
    refine ev_if cf_r1 (fun _ => ?_) (fun x => ?_)
    · obtain rfl : m = n := by omega
      exact cont f i hf
    · exact absurd (Int32.le_iff_toInt_le.mpr (by omega)) (of_decide_eq_false x)
  | succ r ih =>
    intro m i f hi hm hf
    refine ev_if cf_r1 (fun x => ?_) (fun _ => ?_)
    · have := Int32.le_iff_toInt_le.mp (of_decide_eq_true x)
      omega
    have ei : i.toNatClampNeg = a + m := by rw [nd_nat]; omega
    have hg := hh 59 (a + m)
    rw [show cx_B0 59 (a + m) = (0, 400) from rfl] at hg
    simp only at hg
    refine ev_seg cf_r2 ?_
    refine ev_iald (by rfl) (nd_getN (show cx_Ds[59]? = some (0, 401, []) from rfl) (by decide) f) (fs_ixs (by omega) (by omega)) ?_
    rw [ei]
    refine ev_call cf_r3 (eh_plP X I (ev_sI I 53 f) J R T (I 59 (a + m)) c cd (nd_hB53 hh f) (by omega) rfl rfl rfl) ?_
    rintro _ _ _ _ ⟨rfl, rfl, rfl, rfl⟩
    have h3 := pl_P_r I J (I 59 (a + m)) c cd
    have hs := nd_is_y hf (rfl : (fun q => pl_P I J (I 59 q) c cd) (a + m) = _) h3 (by omega)
    simp only at hs
    generalize pl_P I J (I 59 (a + m)) c cd = v at h3 hs ⊢
    refine ev_seg cf_r4 ?_
    refine ev_iald (by rfl) (nd_getI (show cx_Ds[53]? = some (0, 4, []) from rfl) f) (nd_ix3 h3) ?_
    refine ev_seg cf_r5 ?_
    refine ev_iastH (by rfl) (nd_getI (show cx_Ds[53]? = some (0, 4, []) from rfl) f) (nd_ix3 h3) (nd_setI (show cx_Ds[53]? = some (0, 4, []) from rfl) f _) ?_
    refine ev_seg cf_r6 ?_
    exact ih (m + 1) (i + 1) _ (by rw [nd_inc (by omega) (by omega)]; omega) (by omega) hs
theorem cf_mx {f : Nat → Int32} (cont : ∀ w i : Int32, (f 0).toInt ≤ w.toInt → (f 1).toInt ≤ w.toInt → (f 2).toInt ≤ w.toInt → ev_W X 177 133 [.ref 35, .int s, .int z, .long cd, ez_fill, .int b, .int l, .int c, .int i] [.int w] (ev_hp (ev_sI I 53 f) J R T) cz kz Q) (i : Int32) : ev_W X 177 79 [.ref 35, .int s, .int z, .long cd, ez_fill, .int b, .int l, .int c, .int i] [] (ev_hp (ev_sI I 53 f) J R T) cz kz Q := by
  have g : (ev_hp (ev_sI I 53 f) J R T)[53]? = some (.inl (4, .inl f)) := nd_getI (show cx_Ds[53]? = some (0, 4, []) from rfl) f
  have n0 : (0 : Int32).toNatClampNeg = 0 := by decide
  have n1 : (1 : Int32).toNatClampNeg = 1 := by decide
  have n2 : (2 : Int32).toNatClampNeg = 2 := by decide
  have x0 : ev_ix 0 4 := nd_ix3 (Or.inl rfl)
  have x1 : ev_ix 1 4 := nd_ix3 (Or.inr (Or.inl rfl))
  have x2 : ev_ix 2 4 := nd_ix3 (Or.inr (Or.inr rfl))
  have second : ∀ x i : Int32, (f 0).toInt ≤ x.toInt → (f 1).toInt ≤ x.toInt → ev_W X 177 109 [.ref 35, .int s, .int z, .long cd, ez_fill, .int b, .int l, .int c, .int i] [.int x] (ev_hp (ev_sI I 53 f) J R T) cz kz Q := by
    intro x i h0 h1
    refine ev_seg cf_r13 ?_
    refine ev_iald (by rfl) g x2 ?_
    rw [n2]
    refine ev_if cf_r14 (fun z1 => ?_) (fun z1 => ?_)
    · exact ev_seg cf_r17 (cont x x h0 h1 (Int32.le_iff_toInt_le.mp (of_decide_eq_true z1)))
    · have h2 : ¬ (f 2).toInt ≤ x.toInt := fun h => (of_decide_eq_false z1) (Int32.le_iff_toInt_le.mpr h)
      refine ev_seg cf_r15 ?_
      refine ev_iald (by rfl) g x2 ?_
      rw [n2]
      exact ev_seg cf_r16 (cont (f 2) x (by omega) (by omega) (by omega))
  refine ev_seg cf_r7 ?_
  refine ev_iald (by rfl) g x0 ?_
  rw [n0]
  refine ev_seg cf_r8 ?_
  refine ev_iald (by rfl) g x1 ?_
  rw [n1]
  refine ev_if cf_r9 (fun z1 => ?_) (fun z1 => ?_)
  · have h2 := Int32.le_iff_toInt_le.mp (of_decide_eq_true z1)
    refine ev_seg cf_r12 ?_
    refine ev_iald (by rfl) g x1 ?_
    rw [n1]
    exact second (f 1) i h2 (by omega)
  · have h2 : ¬ (f 0).toInt ≤ (f 1).toInt := fun h => (of_decide_eq_false z1) (Int32.le_iff_toInt_le.mpr h)
    refine ev_seg cf_r10 ?_
    refine ev_iald (by rfl) g x0 ?_
    rw [n0]
    exact ev_seg cf_r11 (second (f 0) i (by omega) (by omega))
theorem cf_best {a n : Nat} {b0 l0 : Int32} {cl : Int} (hh : cx_hB cx_B0 I) (haz : z.toInt = a + n) (hz : a + n ≤ 400) (hs : s.toInt = a) (hcl : (I 35 0 * I 35 1).toInt = cl) (h36 : cl ≤ 36)
    (cont : ∀ (f : Nat → Int32) (b l c : Int32), nd_best I J cd a n b0 l0 cl b l → ev_W X 177 173 [.ref 35, .int s, .int z, .long cd, ez_fill, .int b, .int l, .int c] [] (ev_hp (ev_sI I 53 f) J R T) cz kz Q) :
    ∀ (D : Nat) (b l c : Int32) (f : Nat → Int32), 0 ≤ c.toInt → c.toInt + D = cl → nd_best I J cd a n b0 l0 cl b l → ev_W X 177 11 [.ref 35, .int s, .int z, .long cd, ez_fill, .int b, .int l, .int c] [] (ev_hp (ev_sI I 53 f) J R T) cz kz Q := by
  intro D
  induction D with
  | zero =>
    intro b l c f h0 hc hb
    refine ev_call cf_r25 (eh_cells X (ev_sI I 53 f) J R T) ?_
    rintro _ _ _ _ ⟨rfl, rfl, rfl, rfl⟩
    have hc2 : (ev_sI I 53 f 35 0 * ev_sI I 53 f 35 1).toInt = cl := hcl
    refine ev_if cf_r26 (fun _ => cont f b l c hb) (fun x => ?_)
    exact absurd (Int32.le_iff_toInt_le.mpr (by omega)) (of_decide_eq_false x)
  | succ D ih =>
    intro b l c f h0 hc hb
    refine ev_call cf_r25 (eh_cells X (ev_sI I 53 f) J R T) ?_
    rintro _ _ _ _ ⟨rfl, rfl, rfl, rfl⟩
    have hc2 : (ev_sI I 53 f 35 0 * ev_sI I 53 f 35 1).toInt = cl := hcl
    refine ev_if cf_r26 (fun x => ?_) (fun _ => ?_)
    · have := Int32.le_iff_toInt_le.mp (of_decide_eq_true x)
      omega
    refine ev_seg cf_r27 ?_
    refine ev_iastH (by rfl) (nd_getI (show cx_Ds[53]? = some (0, 4, []) from rfl) f) (nd_ix3 (Or.inl rfl)) (nd_setI (show cx_Ds[53]? = some (0, 4, []) from rfl) f _) ?_
    refine ev_seg cf_r28 ?_
    refine ev_iastH (by rfl) (nd_getI (show cx_Ds[53]? = some (0, 4, []) from rfl) _) (nd_ix3 (Or.inr (Or.inl rfl))) (nd_setI (show cx_Ds[53]? = some (0, 4, []) from rfl) _ _) ?_
    refine ev_seg cf_r29 ?_
    refine ev_iastH (by rfl) (nd_getI (show cx_Ds[53]? = some (0, 4, []) from rfl) _) (nd_ix3 (Or.inr (Or.inr rfl))) (nd_setI (show cx_Ds[53]? = some (0, 4, []) from rfl) _ _) ?_
    refine ev_seg cf_r30 ?_
    rw [show (0 : Int32).toNatClampNeg = 0 from by decide, show (1 : Int32).toNatClampNeg = 1 from by decide, show (2 : Int32).toNatClampNeg = 2 from by decide]
    refine cf_cl (a := a) (n := n) hh haz hz (fun f i hf => ?_) n 0 _ _ (by omega) (by omega) (nd_is_0 _ _ a ?_ ?_ ?_)
    rotate_left
    · rw [nd_upd_n _ _ (by decide), nd_upd_n _ _ (by decide), nd_upd_s]
    · rw [nd_upd_n _ _ (by decide), nd_upd_s]
    · rw [nd_upd_s]
    refine cf_mx (fun w i w0 w1 w2 => ?_) i
    have hc1 : (c + 1).toInt = c.toInt + 1 := nd_inc (by omega) (by omega)
    refine ev_if cf_r18 (fun x => ?_) (fun x => ?_)
    · refine ev_seg cf_r20 ?_
      refine ev_if cf_r21 (fun _ => ?_) (fun y => absurd (of_decide_eq_true x) (of_decide_eq_false y))
      refine ev_seg cf_r23 ?_
      refine ev_seg cf_r24 ?_
      refine ev_cutl (by rfl) ?_
      exact ih b l (c + 1) f (by omega) (by omega) hb
    · have hw : ¬ l.toInt ≤ w.toInt := fun h => (of_decide_eq_false x) (Int32.le_iff_toInt_le.mpr h)
      refine ev_seg cf_r19 ?_
      refine ev_if cf_r21 (fun y => absurd (of_decide_eq_true y) (of_decide_eq_false x)) (fun _ => ?_)
      refine ev_seg cf_r22 ?_
      refine ev_seg cf_r24 ?_
      refine ev_cutl (by rfl) ?_
      refine ih c w (c + 1) f (by omega) (by omega) (Or.inr ⟨h0, by omega, ?_, fun v hv => ?_⟩)
      · rcases hb with ⟨-, rfl⟩ | hb
        · omega
        · omega
      · obtain ⟨f0, f1, f2⟩ := hf
        rcases hv with rfl | rfl | rfl
        · rw [← f0]; exact w0
        · rw [← f1]; exact w1
        · rw [← f2]; exact w2
end
section
variable {X : ez_X} {I : Nat → Nat → Int32} {J : Nat → Nat → Int64} {R : Nat → Nat} {T : List ez_C} {cz kz : Nat}
theorem cf_c0 {s : Int32} {z : Int32} {cd : Int64} : ∀ G : ez_F, fx_up X 8 G 177 0 [.ref 35, .int s, .int z, .long cd, ez_fill] [] (ev_hp I J R T) cz kz = G 177 11 [.ref 35, .int s, .int z, .long cd, ez_fill, .int (Int32.ofInt (-1)), .int (z - s), .int 0] [] (ev_hp I J R T) cz kz := by
  intro G
  rfl
theorem cf_c1 {s : Int32} {z : Int32} {cd : Int64} {b : Int32} {l : Int32} {c : Int32} : ∀ G : ez_F, fx_up X 2 G 177 173 [.ref 35, .int s, .int z, .long cd, ez_fill, .int b, .int l, .int c] [] (ev_hp I J R T) cz kz = some (some (.int b), ev_hp I J R T, cz, kz) := by
  intro G
  rfl
end
theorem eh_cf (X : ez_X) (I : Nat → Nat → Int32) (J : Nat → Nat → Int64) (R : Nat → Nat) (T : List ez_C) (s z : Int32) (cd : Int64) {a n : Nat} (hh : cx_hB cx_B0 I) (hs : s.toInt = a) (haz : z.toInt = a + n) (hz : a + n ≤ 400) :
    ev_W X 177 0 (ez_lay [.ref 35, .int s, .int z, .long cd]) [] (ev_hp I J R T) 0 0 (fun r h c k => ∃ (f : Nat → Int32) (b l : Int32), r = some (.int b) ∧ h = ev_hp (ev_sI I 53 f) J R T ∧ c = 0 ∧ k = 0 ∧ nd_best I J cd a n (Int32.ofInt (-1)) (z - s) (I 35 0 * I 35 1).toInt b l) := by
  refine ev_seg cf_c0 ?_
  have hc := nd_cl hh
  have h := cf_best (X := X) (I := I) (J := J) (R := R) (T := T) (cz := 0) (kz := 0) (s := s) (z := z) (cd := cd) (a := a) (n := n) (b0 := Int32.ofInt (-1)) (l0 := z - s) hh haz hz hs rfl hc.2
    (Q := fun r h c k => ∃ (f : Nat → Int32) (b l : Int32), r = some (.int b) ∧ h = ev_hp (ev_sI I 53 f) J R T ∧ c = 0 ∧ k = 0 ∧ nd_best I J cd a n (Int32.ofInt (-1)) (z - s) (I 35 0 * I 35 1).toInt b l)
    (fun f b l c hb => ev_ret cf_c1 ⟨f, b, l, rfl, rfl, rfl, rfl, hb⟩) (I 35 0 * I 35 1).toInt.toNat (Int32.ofInt (-1)) (z - s) 0 (I 53) (by decide) (by rw [show (0 : Int32).toInt = 0 from by decide]; omega) (Or.inl ⟨rfl, rfl⟩)
  rw [nd_self] at h
  exact h
