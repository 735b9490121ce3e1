section
/-! The law over relation 2: each case, the loop. -/
noncomputable def lw_QL : ev_Q := fun r _ c k => r = some (.int 1) ∧ c ≤ 600000 ∧ k ≤ 7302250
theorem lw_len {R : Nat → Nat} {T : List ez_C} (h : cx_rows R T) : T.length ≤ cx_mem T := by
  have key : ∀ T : List ez_C, (∀ x ∈ T, ∃ q n, cx_isrow q n x ∧ 1 ≤ n) → T.length ≤ cx_mem T := by
    intro T
    induction T with
    | nil => intro _; exact Nat.le_refl _
    | cons x t ih =>
      intro h
      obtain ⟨q, n, hr, hn⟩ := h x List.mem_cons_self
      have := ih fun y hy => h y (List.mem_cons_of_mem _ hy)
      rw [cx_isrow_mem hr, List.length_cons]
      omega
  exact key T h.1
/-- behind a case: at the loop again, both keys the same -/
noncomputable def lw_next (X : ez_X) (i : Int32) (T : List ez_C) (c k : Nat) (Q : ev_Q) : Prop := ∀ (i2 : Int32) (I2 : Nat → Nat → Int32) (J2 : Nat → Nat → Int64) (R2 : Nat → Nat) (T2 : List ez_C) (c2 k2 : Nat), i2.toInt = i.toInt + 4 → cx_hok cx_B0 I2 R2 T2 → rl4 I2 J2 R2 T2 → c2 + T.length = c + T2.length → k2 + cx_mem T = k + cx_mem T2 → ev_W X 241 18 [ez_scr, .ref 0, .ref 35, .int i2] [] (ev_hp I2 J2 R2 T2) c2 k2 Q
theorem lw_i4 {i : Int32} {L : Nat} (h0 : 0 ≤ i.toInt) (h1 : i.toInt + 4 ≤ L) (hL : L ≤ 2048) : (i + 4).toInt = i.toInt + 4 := by
  rw [Int32.toInt_add, show (4 : Int32).toInt = 4 from by decide, cx_bm32]
  simp only [cx_i32]
  omega
theorem ev_sald {X : ez_X} {m pc a b cut w d : Nat} {ls st : List Value} {h : ez_H} {c k : Nat} {Q : ev_Q} {i : Int32} (hP : ez_P0 m pc = some (.iaload, 1, a, b, cut, w, d)) (hi : ev_ix i X.1)
    (e : ev_W X m (pc + 1) (ez_cut cut ls) (.int (X.2 i.toNatClampNeg) :: st) h c k Q) : ev_W X m pc ls (.int i :: ez_scr :: st) h c k Q := by
  refine ev_seg (a := 1) (fun F => ?_) e
  rw [ev_up1]
  unfold ez_stp
  rw [hP]
  have e1 : ez_iald X h (.int i :: ez_scr :: st) = some (.int (X.2 i.toNatClampNeg) :: st) := by
    simp only [ez_iald, ez_scr]
    exact ev_in_ok hi _
  simp only [ez_b, e1, Option.map]
theorem gr_ix {i : Int32} {L n : Nat} (h0 : 0 ≤ i.toInt) (h1 : i.toInt + 4 ≤ L) (hL : L ≤ 2048) (hn : n ≤ 3) : ev_ix (i + Int32.ofNat n) L := by
  have e : (Int32.ofNat n).toInt = n := Int32.toInt_ofNat_of_lt (by omega)
  have e2 : (i + Int32.ofNat n).toInt = i.toInt + n := by
    rw [Int32.toInt_add, e, cx_bm32]
    simp only [cx_i32]
    omega
  exact fs_ixs (by omega) (by omega)
/-! The head: the end, or the switch. -/
section
variable {X : ez_X} {I : Nat → Nat → Int32} {J : Nat → Nat → Int64} {R : Nat → Nat} {T : List ez_C} {cz kz : Nat}
theorem lh_r0 {i : Int32} : ∀ G : ez_F, fx_up X 5 G 241 18 [ez_scr, .ref 0, .ref 35, .int i] [] (ev_hp I J R T) cz kz = G 241 23 [ez_scr, .ref 0, .ref 35, .int i] [.int (Int32.ofNat X.1 - 4), .int i] (ev_hp I J R T) cz kz := by
  intro G
  rfl
theorem lh_r1 {i n : Int32} : ∀ G : ez_F, fx_up X 1 G 241 23 [ez_scr, .ref 0, .ref 35, .int i] [.int n, .int i] (ev_hp I J R T) cz kz = bif decide (n < i) then G 241 1078 [ez_scr, .ref 0, .ref 35, .int i] [] (ev_hp I J R T) cz kz else G 241 26 [ez_scr, .ref 0, .ref 35, .int i] [] (ev_hp I J R T) cz kz := by
  intro G
  rfl
theorem lh_r2 {i : Int32} : ∀ G : ez_F, fx_up X 2 G 241 26 [ez_scr, .ref 0, .ref 35, .int i] [] (ev_hp I J R T) cz kz = G 241 28 [ez_scr, .ref 0, .ref 35, .int i] [.int i, ez_scr] (ev_hp I J R T) cz kz := by
  intro G
  rfl
theorem lh_r3 {i v : Int32} : ∀ G : ez_F, fx_up X 2 G 241 29 [ez_scr, .ref 0, .ref 35, .int i] [.int v] (ev_hp I J R T) cz kz = G 241 32 [ez_scr, .ref 0, .ref 35, .int i] [.int (v &&& 63)] (ev_hp I J R T) cz kz := by
  intro G
  rfl
theorem lh_r4 {i : Int32} : ∀ G : ez_F, fx_up X 2 G 241 1078 [ez_scr, .ref 0, .ref 35, .int i] [] (ev_hp I J R T) cz kz = some (some (.int 1), ev_hp I J R T, cz, kz) := by
  intro G
  rfl
theorem lh_r5 {i : Int32} : ∀ G : ez_F, fx_up X 2 G 241 1072 [ez_scr, .ref 0, .ref 35, .int i] [] (ev_hp I J R T) cz kz = G 241 18 [ez_scr, .ref 0, .ref 35, .int (i + 4)] [] (ev_hp I J R T) cz kz := by
  intro G
  rfl
theorem lh_s0 {i : Int32} : ∀ G : ez_F, fx_up X 1 G 241 32 [ez_scr, .ref 0, .ref 35, .int i] [.int (Int32.ofNat 0)] (ev_hp I J R T) cz kz = G 241 184 [ez_scr, .ref 0, .ref 35, .int i] [] (ev_hp I J R T) cz kz := by
  intro G
  rfl
theorem lh_s1 {i : Int32} : ∀ G : ez_F, fx_up X 1 G 241 32 [ez_scr, .ref 0, .ref 35, .int i] [.int (Int32.ofNat 1)] (ev_hp I J R T) cz kz = G 241 243 [ez_scr, .ref 0, .ref 35, .int i] [] (ev_hp I J R T) cz kz := by
  intro G
  rfl
theorem lh_s2 {i : Int32} : ∀ G : ez_F, fx_up X 1 G 241 32 [ez_scr, .ref 0, .ref 35, .int i] [.int (Int32.ofNat 2)] (ev_hp I J R T) cz kz = G 241 276 [ez_scr, .ref 0, .ref 35, .int i] [] (ev_hp I J R T) cz kz := by
  intro G
  rfl
theorem lh_s3 {i : Int32} : ∀ G : ez_F, fx_up X 1 G 241 32 [ez_scr, .ref 0, .ref 35, .int i] [.int (Int32.ofNat 3)] (ev_hp I J R T) cz kz = G 241 309 [ez_scr, .ref 0, .ref 35, .int i] [] (ev_hp I J R T) cz kz := by
  intro G
  rfl
theorem lh_s4 {i : Int32} : ∀ G : ez_F, fx_up X 1 G 241 32 [ez_scr, .ref 0, .ref 35, .int i] [.int (Int32.ofNat 4)] (ev_hp I J R T) cz kz = G 241 342 [ez_scr, .ref 0, .ref 35, .int i] [] (ev_hp I J R T) cz kz := by
  intro G
  rfl
theorem lh_s5 {i : Int32} : ∀ G : ez_F, fx_up X 1 G 241 32 [ez_scr, .ref 0, .ref 35, .int i] [.int (Int32.ofNat 5)] (ev_hp I J R T) cz kz = G 241 365 [ez_scr, .ref 0, .ref 35, .int i] [] (ev_hp I J R T) cz kz := by
  intro G
  rfl
theorem lh_s6 {i : Int32} : ∀ G : ez_F, fx_up X 1 G 241 32 [ez_scr, .ref 0, .ref 35, .int i] [.int (Int32.ofNat 6)] (ev_hp I J R T) cz kz = G 241 398 [ez_scr, .ref 0, .ref 35, .int i] [] (ev_hp I J R T) cz kz := by
  intro G
  rfl
theorem lh_s7 {i : Int32} : ∀ G : ez_F, fx_up X 1 G 241 32 [ez_scr, .ref 0, .ref 35, .int i] [.int (Int32.ofNat 7)] (ev_hp I J R T) cz kz = G 241 411 [ez_scr, .ref 0, .ref 35, .int i] [] (ev_hp I J R T) cz kz := by
  intro G
  rfl
theorem lh_s8 {i : Int32} : ∀ G : ez_F, fx_up X 1 G 241 32 [ez_scr, .ref 0, .ref 35, .int i] [.int (Int32.ofNat 8)] (ev_hp I J R T) cz kz = G 241 444 [ez_scr, .ref 0, .ref 35, .int i] [] (ev_hp I J R T) cz kz := by
  intro G
  rfl
theorem lh_s9 {i : Int32} : ∀ G : ez_F, fx_up X 1 G 241 32 [ez_scr, .ref 0, .ref 35, .int i] [.int (Int32.ofNat 9)] (ev_hp I J R T) cz kz = G 241 467 [ez_scr, .ref 0, .ref 35, .int i] [] (ev_hp I J R T) cz kz := by
  intro G
  rfl
theorem lh_s10 {i : Int32} : ∀ G : ez_F, fx_up X 1 G 241 32 [ez_scr, .ref 0, .ref 35, .int i] [.int (Int32.ofNat 10)] (ev_hp I J R T) cz kz = G 241 500 [ez_scr, .ref 0, .ref 35, .int i] [] (ev_hp I J R T) cz kz := by
  intro G
  rfl
theorem lh_s11 {i : Int32} : ∀ G : ez_F, fx_up X 1 G 241 32 [ez_scr, .ref 0, .ref 35, .int i] [.int (Int32.ofNat 11)] (ev_hp I J R T) cz kz = G 241 533 [ez_scr, .ref 0, .ref 35, .int i] [] (ev_hp I J R T) cz kz := by
  intro G
  rfl
theorem lh_s12 {i : Int32} : ∀ G : ez_F, fx_up X 1 G 241 32 [ez_scr, .ref 0, .ref 35, .int i] [.int (Int32.ofNat 12)] (ev_hp I J R T) cz kz = G 241 556 [ez_scr, .ref 0, .ref 35, .int i] [] (ev_hp I J R T) cz kz := by
  intro G
  rfl
theorem lh_s13 {i : Int32} : ∀ G : ez_F, fx_up X 1 G 241 32 [ez_scr, .ref 0, .ref 35, .int i] [.int (Int32.ofNat 13)] (ev_hp I J R T) cz kz = G 241 569 [ez_scr, .ref 0, .ref 35, .int i] [] (ev_hp I J R T) cz kz := by
  intro G
  rfl
theorem lh_s14 {i : Int32} : ∀ G : ez_F, fx_up X 1 G 241 32 [ez_scr, .ref 0, .ref 35, .int i] [.int (Int32.ofNat 14)] (ev_hp I J R T) cz kz = G 241 602 [ez_scr, .ref 0, .ref 35, .int i] [] (ev_hp I J R T) cz kz := by
  intro G
  rfl
theorem lh_s15 {i : Int32} : ∀ G : ez_F, fx_up X 1 G 241 32 [ez_scr, .ref 0, .ref 35, .int i] [.int (Int32.ofNat 15)] (ev_hp I J R T) cz kz = G 241 645 [ez_scr, .ref 0, .ref 35, .int i] [] (ev_hp I J R T) cz kz := by
  intro G
  rfl
theorem lh_s16 {i : Int32} : ∀ G : ez_F, fx_up X 1 G 241 32 [ez_scr, .ref 0, .ref 35, .int i] [.int (Int32.ofNat 16)] (ev_hp I J R T) cz kz = G 241 658 [ez_scr, .ref 0, .ref 35, .int i] [] (ev_hp I J R T) cz kz := by
  intro G
  rfl
theorem lh_s17 {i : Int32} : ∀ G : ez_F, fx_up X 1 G 241 32 [ez_scr, .ref 0, .ref 35, .int i] [.int (Int32.ofNat 17)] (ev_hp I J R T) cz kz = G 241 681 [ez_scr, .ref 0, .ref 35, .int i] [] (ev_hp I J R T) cz kz := by
  intro G
  rfl
theorem lh_s18 {i : Int32} : ∀ G : ez_F, fx_up X 1 G 241 32 [ez_scr, .ref 0, .ref 35, .int i] [.int (Int32.ofNat 18)] (ev_hp I J R T) cz kz = G 241 704 [ez_scr, .ref 0, .ref 35, .int i] [] (ev_hp I J R T) cz kz := by
  intro G
  rfl
theorem lh_s19 {i : Int32} : ∀ G : ez_F, fx_up X 1 G 241 32 [ez_scr, .ref 0, .ref 35, .int i] [.int (Int32.ofNat 19)] (ev_hp I J R T) cz kz = G 241 727 [ez_scr, .ref 0, .ref 35, .int i] [] (ev_hp I J R T) cz kz := by
  intro G
  rfl
theorem lh_s20 {i : Int32} : ∀ G : ez_F, fx_up X 1 G 241 32 [ez_scr, .ref 0, .ref 35, .int i] [.int (Int32.ofNat 20)] (ev_hp I J R T) cz kz = G 241 760 [ez_scr, .ref 0, .ref 35, .int i] [] (ev_hp I J R T) cz kz := by
  intro G
  rfl
theorem lh_s21 {i : Int32} : ∀ G : ez_F, fx_up X 1 G 241 32 [ez_scr, .ref 0, .ref 35, .int i] [.int (Int32.ofNat 21)] (ev_hp I J R T) cz kz = G 241 783 [ez_scr, .ref 0, .ref 35, .int i] [] (ev_hp I J R T) cz kz := by
  intro G
  rfl
theorem lh_s22 {i : Int32} : ∀ G : ez_F, fx_up X 1 G 241 32 [ez_scr, .ref 0, .ref 35, .int i] [.int (Int32.ofNat 22)] (ev_hp I J R T) cz kz = G 241 806 [ez_scr, .ref 0, .ref 35, .int i] [] (ev_hp I J R T) cz kz := by
  intro G
  rfl
theorem lh_s23 {i : Int32} : ∀ G : ez_F, fx_up X 1 G 241 32 [ez_scr, .ref 0, .ref 35, .int i] [.int (Int32.ofNat 23)] (ev_hp I J R T) cz kz = G 241 829 [ez_scr, .ref 0, .ref 35, .int i] [] (ev_hp I J R T) cz kz := by
  intro G
  rfl
theorem lh_s24 {i : Int32} : ∀ G : ez_F, fx_up X 1 G 241 32 [ez_scr, .ref 0, .ref 35, .int i] [.int (Int32.ofNat 24)] (ev_hp I J R T) cz kz = G 241 862 [ez_scr, .ref 0, .ref 35, .int i] [] (ev_hp I J R T) cz kz := by
  intro G
  rfl
theorem lh_s25 {i : Int32} : ∀ G : ez_F, fx_up X 1 G 241 32 [ez_scr, .ref 0, .ref 35, .int i] [.int (Int32.ofNat 25)] (ev_hp I J R T) cz kz = G 241 885 [ez_scr, .ref 0, .ref 35, .int i] [] (ev_hp I J R T) cz kz := by
  intro G
  rfl
theorem lh_s26 {i : Int32} : ∀ G : ez_F, fx_up X 1 G 241 32 [ez_scr, .ref 0, .ref 35, .int i] [.int (Int32.ofNat 26)] (ev_hp I J R T) cz kz = G 241 898 [ez_scr, .ref 0, .ref 35, .int i] [] (ev_hp I J R T) cz kz := by
  intro G
  rfl
theorem lh_s27 {i : Int32} : ∀ G : ez_F, fx_up X 1 G 241 32 [ez_scr, .ref 0, .ref 35, .int i] [.int (Int32.ofNat 27)] (ev_hp I J R T) cz kz = G 241 911 [ez_scr, .ref 0, .ref 35, .int i] [] (ev_hp I J R T) cz kz := by
  intro G
  rfl
theorem lh_s28 {i : Int32} : ∀ G : ez_F, fx_up X 1 G 241 32 [ez_scr, .ref 0, .ref 35, .int i] [.int (Int32.ofNat 28)] (ev_hp I J R T) cz kz = G 241 924 [ez_scr, .ref 0, .ref 35, .int i] [] (ev_hp I J R T) cz kz := by
  intro G
  rfl
theorem lh_s29 {i : Int32} : ∀ G : ez_F, fx_up X 1 G 241 32 [ez_scr, .ref 0, .ref 35, .int i] [.int (Int32.ofNat 29)] (ev_hp I J R T) cz kz = G 241 947 [ez_scr, .ref 0, .ref 35, .int i] [] (ev_hp I J R T) cz kz := by
  intro G
  rfl
theorem lh_s30 {i : Int32} : ∀ G : ez_F, fx_up X 1 G 241 32 [ez_scr, .ref 0, .ref 35, .int i] [.int (Int32.ofNat 30)] (ev_hp I J R T) cz kz = G 241 980 [ez_scr, .ref 0, .ref 35, .int i] [] (ev_hp I J R T) cz kz := by
  intro G
  rfl
theorem lh_s31 {i : Int32} : ∀ G : ez_F, fx_up X 1 G 241 32 [ez_scr, .ref 0, .ref 35, .int i] [.int (Int32.ofNat 31)] (ev_hp I J R T) cz kz = G 241 1013 [ez_scr, .ref 0, .ref 35, .int i] [] (ev_hp I J R T) cz kz := by
  intro G
  rfl
theorem lh_s32 {i : Int32} : ∀ G : ez_F, fx_up X 1 G 241 32 [ez_scr, .ref 0, .ref 35, .int i] [.int (Int32.ofNat 32)] (ev_hp I J R T) cz kz = G 241 1026 [ez_scr, .ref 0, .ref 35, .int i] [] (ev_hp I J R T) cz kz := by
  intro G
  rfl
theorem lh_s33 {i : Int32} : ∀ G : ez_F, fx_up X 1 G 241 32 [ez_scr, .ref 0, .ref 35, .int i] [.int (Int32.ofNat 33)] (ev_hp I J R T) cz kz = G 241 1049 [ez_scr, .ref 0, .ref 35, .int i] [] (ev_hp I J R T) cz kz := by
  intro G
  rfl
end
section
variable {X : ez_X} {I : Nat → Nat → Int32} {J : Nat → Nat → Int64} {R : Nat → Nat} {T : List ez_C} {cz kz : Nat}
theorem lgrid_r0 {i : Int32} : ∀ G : ez_F, fx_up X 5 G 241 184 [ez_scr, .ref 0, .ref 35, .int i] [] (ev_hp I J R T) cz kz = G 241 189 [ez_scr, .ref 0, .ref 35, .int i] [.int (i + 1), ez_scr, .ref 0] (ev_hp I J R T) cz kz := by
  intro G
  rfl
theorem lgrid_r1 {i : Int32} {x : Int32} : ∀ G : ez_F, fx_up X 4 G 241 190 [ez_scr, .ref 0, .ref 35, .int i] [.int x, .ref 0] (ev_hp I J R T) cz kz = G 241 194 [ez_scr, .ref 0, .ref 35, .int i] [.int (i + 2), ez_scr, .int x, .ref 0] (ev_hp I J R T) cz kz := by
  intro G
  rfl
theorem lgrid_r2 {i : Int32} {y : Int32} {x : Int32} : ∀ G : ez_F, fx_up X 4 G 241 195 [ez_scr, .ref 0, .ref 35, .int i] [.int y, .int x, .ref 0] (ev_hp I J R T) cz kz = G 241 199 [ez_scr, .ref 0, .ref 35, .int i] [.int (i + 3), ez_scr, .int y, .int x, .ref 0] (ev_hp I J R T) cz kz := by
  intro G
  rfl
theorem lgrid_r3 {i : Int32} {z : Int32} {y : Int32} {x : Int32} : ∀ G : ez_F, fx_up X 1 G 241 200 [ez_scr, .ref 0, .ref 35, .int i] [.int z, .int y, .int x, .ref 0] (ev_hp I J R T) cz kz = bif decide (z = (0 : Int32)) then G 241 207 [ez_scr, .ref 0, .ref 35, .int i] [.int y, .int x, .ref 0] (ev_hp I J R T) cz kz else G 241 203 [ez_scr, .ref 0, .ref 35, .int i] [.int y, .int x, .ref 0] (ev_hp I J R T) cz kz := by
  intro G
  rfl
theorem lgrid_r4 {i : Int32} {y : Int32} {x : Int32} : ∀ G : ez_F, fx_up X 2 G 241 203 [ez_scr, .ref 0, .ref 35, .int i] [.int y, .int x, .ref 0] (ev_hp I J R T) cz kz = G 241 208 [ez_scr, .ref 0, .ref 35, .int i] [.int 1, .int y, .int x, .ref 0] (ev_hp I J R T) cz kz := by
  intro G
  rfl
theorem lgrid_r5 {i : Int32} {y : Int32} {x : Int32} : ∀ G : ez_F, fx_up X 1 G 241 207 [ez_scr, .ref 0, .ref 35, .int i] [.int y, .int x, .ref 0] (ev_hp I J R T) cz kz = G 241 208 [ez_scr, .ref 0, .ref 35, .int i] [.int 0, .int y, .int x, .ref 0] (ev_hp I J R T) cz kz := by
  intro G
  rfl
theorem lgrid_r6 {i : Int32} {b : Int32} {y : Int32} {x : Int32} : ∀ G : ez_F, fx_up X 1 G 241 208 [ez_scr, .ref 0, .ref 35, .int i] [.int b, .int y, .int x, .ref 0] (ev_hp I J R T) cz kz = ev_C G 18 [.ref 0, .int x, .int y, .int b] (ev_hp I J R T) fun r h1 c1 k1 => G 241 211 [ez_scr, .ref 0, .ref 35, .int i] (r.toList ++ []) h1 (cz + c1) (kz + k1) := by
  intro G
  rfl
theorem lgrid_r7 {i : Int32} {v : Int32} : ∀ G : ez_F, fx_up X 6 G 241 211 [ez_scr, .ref 0, .ref 35, .int i] [.int v] (ev_hp I J R T) cz kz = G 241 217 [ez_scr, .ref 0, .ref 35, .int i] [.int (i + 1), ez_scr, .ref 35] (ev_hp I J R T) cz kz := by
  intro G
  rfl
theorem lgrid_r8 {i : Int32} {x : Int32} : ∀ G : ez_F, fx_up X 4 G 241 218 [ez_scr, .ref 0, .ref 35, .int i] [.int x, .ref 35] (ev_hp I J R T) cz kz = G 241 222 [ez_scr, .ref 0, .ref 35, .int i] [.int (i + 2), ez_scr, .int x, .ref 35] (ev_hp I J R T) cz kz := by
  intro G
  rfl
theorem lgrid_r9 {i : Int32} {y : Int32} {x : Int32} : ∀ G : ez_F, fx_up X 4 G 241 223 [ez_scr, .ref 0, .ref 35, .int i] [.int y, .int x, .ref 35] (ev_hp I J R T) cz kz = G 241 227 [ez_scr, .ref 0, .ref 35, .int i] [.int (i + 3), ez_scr, .int y, .int x, .ref 35] (ev_hp I J R T) cz kz := by
  intro G
  rfl
theorem lgrid_r10 {i : Int32} {z : Int32} {y : Int32} {x : Int32} : ∀ G : ez_F, fx_up X 1 G 241 228 [ez_scr, .ref 0, .ref 35, .int i] [.int z, .int y, .int x, .ref 35] (ev_hp I J R T) cz kz = bif decide (z = (0 : Int32)) then G 241 235 [ez_scr, .ref 0, .ref 35, .int i] [.int y, .int x, .ref 35] (ev_hp I J R T) cz kz else G 241 231 [ez_scr, .ref 0, .ref 35, .int i] [.int y, .int x, .ref 35] (ev_hp I J R T) cz kz := by
  intro G
  rfl
theorem lgrid_r11 {i : Int32} {y : Int32} {x : Int32} : ∀ G : ez_F, fx_up X 2 G 241 231 [ez_scr, .ref 0, .ref 35, .int i] [.int y, .int x, .ref 35] (ev_hp I J R T) cz kz = G 241 236 [ez_scr, .ref 0, .ref 35, .int i] [.int 1, .int y, .int x, .ref 35] (ev_hp I J R T) cz kz := by
  intro G
  rfl
theorem lgrid_r12 {i : Int32} {y : Int32} {x : Int32} : ∀ G : ez_F, fx_up X 1 G 241 235 [ez_scr, .ref 0, .ref 35, .int i] [.int y, .int x, .ref 35] (ev_hp I J R T) cz kz = G 241 236 [ez_scr, .ref 0, .ref 35, .int i] [.int 0, .int y, .int x, .ref 35] (ev_hp I J R T) cz kz := by
  intro G
  rfl
theorem lgrid_r13 {i : Int32} {b : Int32} {y : Int32} {x : Int32} : ∀ G : ez_F, fx_up X 1 G 241 236 [ez_scr, .ref 0, .ref 35, .int i] [.int b, .int y, .int x, .ref 35] (ev_hp I J R T) cz kz = ev_C G 195 [.ref 35, .int x, .int y, .int b] (ev_hp I J R T) fun r h1 c1 k1 => G 241 239 [ez_scr, .ref 0, .ref 35, .int i] (r.toList ++ []) h1 (cz + c1) (kz + k1) := by
  intro G
  rfl
theorem lgrid_r14 {i : Int32} {u : Int32} : ∀ G : ez_F, fx_up X 4 G 241 239 [ez_scr, .ref 0, .ref 35, .int i] [.int u] (ev_hp I J R T) cz kz = G 241 18 [ez_scr, .ref 0, .ref 35, .int (i + 4)] [] (ev_hp I J R T) cz kz := by
  intro G
  rfl
end
theorem law_grid (X : ez_X) (hL : X.1 ≤ 2048) (i : Int32) (h0 : 0 ≤ i.toInt) (h1 : i.toInt + 4 ≤ X.1) (I : Nat → Nat → Int32) (J : Nat → Nat → Int64) (R : Nat → Nat) (T : List ez_C) (c k : Nat) (hh : cx_hok cx_B0 I R T) (hk : rl4 I J R T) {Q : ev_Q} (next : lw_next X i T c k Q) :
    ev_W X 241 184 [ez_scr, .ref 0, .ref 35, .int i] [] (ev_hp I J R T) c k Q := by
  have hX2 : X.1 < 2 ^ 31 := by omega
  have x1 : ev_ix (i + 1) X.1 := gr_ix (n := 1) h0 h1 hL (by decide)
  have x2 : ev_ix (i + 2) X.1 := gr_ix (n := 2) h0 h1 hL (by decide)
  have x3 : ev_ix (i + 3) X.1 := gr_ix (n := 3) h0 h1 hL (by decide)
  refine ev_seg lgrid_r0 ?_
  refine ev_sald (by rfl) x1 ?_
  generalize hx : X.2 (i + 1).toNatClampNeg = x
  refine ev_seg lgrid_r1 ?_
  refine ev_sald (by rfl) x2 ?_
  generalize hy : X.2 (i + 2).toNatClampNeg = y
  refine ev_seg lgrid_r2 ?_
  refine ev_sald (by rfl) x3 ?_
  generalize hz : X.2 (i + 3).toNatClampNeg = z
  have first : ∀ b : Int32, (b = 0 ∨ b = 1) → (z = 0 → b = 0) → (¬ z = 0 → b = 1) → ev_W X 241 208 [ez_scr, .ref 0, .ref 35, .int i] [.int b, .int y, .int x, .ref 0] (ev_hp I J R T) c k Q := by
    intro b hb hz0 hz1
    refine ev_call lgrid_r6 (l4x_grid hX2 hh hk x y b hb) ?_
    rintro r hr1 c1 k1 ⟨v, I1, J1, R1, T1, rfl, rfl, q1, q2, q3, q4⟩
    have second : ev_W X 241 236 [ez_scr, .ref 0, .ref 35, .int i] [.int b, .int y, .int x, .ref 35] (ev_hp I1 J1 R1 T1) (c + c1) (k + k1) Q := by
      refine ev_call lgrid_r13 (l4m_grid hX2 hh hk x y b hb q1 q4) ?_
      rintro r hr2 c2 k2 ⟨u, I2, J2, R2, T2, rfl, rfl, p1, p2, p3, p4⟩
      refine ev_seg lgrid_r14 ?_
      exact next _ I2 J2 R2 T2 _ _ (lw_i4 h0 h1 hL) p1 p4 (by omega) (by omega)
    refine ev_seg lgrid_r7 ?_
    refine ev_sald (by rfl) x1 ?_
    rw [hx]
    refine ev_seg lgrid_r8 ?_
    refine ev_sald (by rfl) x2 ?_
    rw [hy]
    refine ev_seg lgrid_r9 ?_
    refine ev_sald (by rfl) x3 ?_
    rw [hz]
    refine ev_if lgrid_r10 (fun ht => ?_) (fun ht => ?_)
    · have hb0 := hz0 (of_decide_eq_true ht)
      subst hb0
      exact ev_seg lgrid_r12 second
    · have hb1 := hz1 (of_decide_eq_false ht)
      subst hb1
      exact ev_seg lgrid_r11 second
  refine ev_if lgrid_r3 (fun ht => ?_) (fun ht => ?_)
  · exact ev_seg lgrid_r5 (first 0 (Or.inl rfl) (fun _ => rfl) (fun hn => absurd (of_decide_eq_true ht) hn))
  · exact ev_seg lgrid_r4 (first 1 (Or.inr rfl) (fun hn => absurd hn (of_decide_eq_false ht)) (fun _ => rfl))
section
variable {X : ez_X} {I : Nat → Nat → Int32} {J : Nat → Nat → Int64} {R : Nat → Nat} {T : List ez_C} {cz kz : Nat}
theorem lship_r0 {i : Int32} : ∀ G : ez_F, fx_up X 5 G 241 243 [ez_scr, .ref 0, .ref 35, .int i] [] (ev_hp I J R T) cz kz = G 241 248 [ez_scr, .ref 0, .ref 35, .int i] [.int (i + 1), ez_scr, .ref 0] (ev_hp I J R T) cz kz := by
  intro G
  rfl
theorem lship_r1 {i : Int32} {x : Int32} : ∀ G : ez_F, fx_up X 4 G 241 249 [ez_scr, .ref 0, .ref 35, .int i] [.int x, .ref 0] (ev_hp I J R T) cz kz = G 241 253 [ez_scr, .ref 0, .ref 35, .int i] [.int (i + 2), ez_scr, .int x, .ref 0] (ev_hp I J R T) cz kz := by
  intro G
  rfl
theorem lship_r2 {i : Int32} {y : Int32} {x : Int32} : ∀ G : ez_F, fx_up X 1 G 241 254 [ez_scr, .ref 0, .ref 35, .int i] [.int y, .int x, .ref 0] (ev_hp I J R T) cz kz = ev_C G 43 [.ref 0, .int x, .int y] (ev_hp I J R T) fun r h1 c1 k1 => G 241 257 [ez_scr, .ref 0, .ref 35, .int i] (r.toList ++ []) h1 (cz + c1) (kz + k1) := by
  intro G
  rfl
theorem lship_r3 {i : Int32} {v : Int32} : ∀ G : ez_F, fx_up X 6 G 241 257 [ez_scr, .ref 0, .ref 35, .int i] [.int v] (ev_hp I J R T) cz kz = G 241 263 [ez_scr, .ref 0, .ref 35, .int i] [.int (i + 1), ez_scr, .ref 35] (ev_hp I J R T) cz kz := by
  intro G
  rfl
theorem lship_r4 {i : Int32} {x : Int32} : ∀ G : ez_F, fx_up X 4 G 241 264 [ez_scr, .ref 0, .ref 35, .int i] [.int x, .ref 35] (ev_hp I J R T) cz kz = G 241 268 [ez_scr, .ref 0, .ref 35, .int i] [.int (i + 2), ez_scr, .int x, .ref 35] (ev_hp I J R T) cz kz := by
  intro G
  rfl
theorem lship_r5 {i : Int32} {y : Int32} {x : Int32} : ∀ G : ez_F, fx_up X 1 G 241 269 [ez_scr, .ref 0, .ref 35, .int i] [.int y, .int x, .ref 35] (ev_hp I J R T) cz kz = ev_C G 220 [.ref 35, .int x, .int y] (ev_hp I J R T) fun r h1 c1 k1 => G 241 272 [ez_scr, .ref 0, .ref 35, .int i] (r.toList ++ []) h1 (cz + c1) (kz + k1) := by
  intro G
  rfl
theorem lship_r6 {i : Int32} {u : Int32} : ∀ G : ez_F, fx_up X 4 G 241 272 [ez_scr, .ref 0, .ref 35, .int i] [.int u] (ev_hp I J R T) cz kz = G 241 18 [ez_scr, .ref 0, .ref 35, .int (i + 4)] [] (ev_hp I J R T) cz kz := by
  intro G
  rfl
end
theorem law_ship (X : ez_X) (hL : X.1 ≤ 2048) (i : Int32) (h0 : 0 ≤ i.toInt) (h1 : i.toInt + 4 ≤ X.1) (I : Nat → Nat → Int32) (J : Nat → Nat → Int64) (R : Nat → Nat) (T : List ez_C) (c k : Nat) (hh : cx_hok cx_B0 I R T) (hk : rl4 I J R T) {Q : ev_Q} (next : lw_next X i T c k Q) :
    ev_W X 241 243 [ez_scr, .ref 0, .ref 35, .int i] [] (ev_hp I J R T) c k Q := by
  have hX2 : X.1 < 2 ^ 31 := by omega
  have x1 : ev_ix (i + 1) X.1 := gr_ix (n := 1) h0 h1 hL (by decide)
  have x2 : ev_ix (i + 2) X.1 := gr_ix (n := 2) h0 h1 hL (by decide)
  refine ev_seg lship_r0 ?_
  refine ev_sald (by rfl) x1 ?_
  generalize hx : X.2 (i + 1).toNatClampNeg = x
  refine ev_seg lship_r1 ?_
  refine ev_sald (by rfl) x2 ?_
  generalize hy : X.2 (i + 2).toNatClampNeg = y
  refine ev_call lship_r2 (l4x_ship hX2 hh hk x y) ?_
  rintro r hr1 c1 k1 ⟨v, I1, J1, R1, T1, rfl, rfl, q1, q2, q3, q4⟩
  refine ev_seg lship_r3 ?_
  refine ev_sald (by rfl) x1 ?_
  rw [hx]
  refine ev_seg lship_r4 ?_
  refine ev_sald (by rfl) x2 ?_
  rw [hy]
  refine ev_call lship_r5 (l4m_ship hX2 hh hk x y q1 q4) ?_
  rintro r hr2 c2 k2 ⟨u, I2, J2, R2, T2, rfl, rfl, p1, p2, p3, p4⟩
  refine ev_seg lship_r6 ?_
  exact next _ I2 J2 R2 T2 _ _ (lw_i4 h0 h1 hL) p1 p4 (by omega) (by omega)
section
variable {X : ez_X} {I : Nat → Nat → Int32} {J : Nat → Nat → Int64} {R : Nat → Nat} {T : List ez_C} {cz kz : Nat}
theorem lset_r0 {i : Int32} : ∀ G : ez_F, fx_up X 5 G 241 276 [ez_scr, .ref 0, .ref 35, .int i] [] (ev_hp I J R T) cz kz = G 241 281 [ez_scr, .ref 0, .ref 35, .int i] [.int (i + 1), ez_scr, .ref 0] (ev_hp I J R T) cz kz := by
  intro G
  rfl
theorem lset_r1 {i : Int32} {x : Int32} : ∀ G : ez_F, fx_up X 4 G 241 282 [ez_scr, .ref 0, .ref 35, .int i] [.int x, .ref 0] (ev_hp I J R T) cz kz = G 241 286 [ez_scr, .ref 0, .ref 35, .int i] [.int (i + 2), ez_scr, .int x, .ref 0] (ev_hp I J R T) cz kz := by
  intro G
  rfl
theorem lset_r2 {i : Int32} {y : Int32} {x : Int32} : ∀ G : ez_F, fx_up X 1 G 241 287 [ez_scr, .ref 0, .ref 35, .int i] [.int y, .int x, .ref 0] (ev_hp I J R T) cz kz = ev_C G 42 [.ref 0, .int x, .int y] (ev_hp I J R T) fun r h1 c1 k1 => G 241 290 [ez_scr, .ref 0, .ref 35, .int i] (r.toList ++ []) h1 (cz + c1) (kz + k1) := by
  intro G
  rfl
theorem lset_r3 {i : Int32} {v : Int32} : ∀ G : ez_F, fx_up X 6 G 241 290 [ez_scr, .ref 0, .ref 35, .int i] [.int v] (ev_hp I J R T) cz kz = G 241 296 [ez_scr, .ref 0, .ref 35, .int i] [.int (i + 1), ez_scr, .ref 35] (ev_hp I J R T) cz kz := by
  intro G
  rfl
theorem lset_r4 {i : Int32} {x : Int32} : ∀ G : ez_F, fx_up X 4 G 241 297 [ez_scr, .ref 0, .ref 35, .int i] [.int x, .ref 35] (ev_hp I J R T) cz kz = G 241 301 [ez_scr, .ref 0, .ref 35, .int i] [.int (i + 2), ez_scr, .int x, .ref 35] (ev_hp I J R T) cz kz := by
  intro G
  rfl
theorem lset_r5 {i : Int32} {y : Int32} {x : Int32} : ∀ G : ez_F, fx_up X 1 G 241 302 [ez_scr, .ref 0, .ref 35, .int i] [.int y, .int x, .ref 35] (ev_hp I J R T) cz kz = ev_C G 219 [.ref 35, .int x, .int y] (ev_hp I J R T) fun r h1 c1 k1 => G 241 305 [ez_scr, .ref 0, .ref 35, .int i] (r.toList ++ []) h1 (cz + c1) (kz + k1) := by
  intro G
  rfl
theorem lset_r6 {i : Int32} {u : Int32} : ∀ G : ez_F, fx_up X 4 G 241 305 [ez_scr, .ref 0, .ref 35, .int i] [.int u] (ev_hp I J R T) cz kz = G 241 18 [ez_scr, .ref 0, .ref 35, .int (i + 4)] [] (ev_hp I J R T) cz kz := by
  intro G
  rfl
end
theorem law_set (X : ez_X) (hL : X.1 ≤ 2048) (i : Int32) (h0 : 0 ≤ i.toInt) (h1 : i.toInt + 4 ≤ X.1) (I : Nat → Nat → Int32) (J : Nat → Nat → Int64) (R : Nat → Nat) (T : List ez_C) (c k : Nat) (hh : cx_hok cx_B0 I R T) (hk : rl4 I J R T) {Q : ev_Q} (next : lw_next X i T c k Q) :
    ev_W X 241 276 [ez_scr, .ref 0, .ref 35, .int i] [] (ev_hp I J R T) c k Q := by
  have hX2 : X.1 < 2 ^ 31 := by omega
  have x1 : ev_ix (i + 1) X.1 := gr_ix (n := 1) h0 h1 hL (by decide)
  have x2 : ev_ix (i + 2) X.1 := gr_ix (n := 2) h0 h1 hL (by decide)
  refine ev_seg lset_r0 ?_
  refine ev_sald (by rfl) x1 ?_
  generalize hx : X.2 (i + 1).toNatClampNeg = x
  refine ev_seg lset_r1 ?_
  refine ev_sald (by rfl) x2 ?_
  generalize hy : X.2 (i + 2).toNatClampNeg = y
  refine ev_call lset_r2 (l4x_set hX2 hh hk x y) ?_
  rintro r hr1 c1 k1 ⟨v, I1, J1, R1, T1, rfl, rfl, q1, q2, q3, q4⟩
  refine ev_seg lset_r3 ?_
  refine ev_sald (by rfl) x1 ?_
  rw [hx]
  refine ev_seg lset_r4 ?_
  refine ev_sald (by rfl) x2 ?_
  rw [hy]
  refine ev_call lset_r5 (l4m_set hX2 hh hk x y q1 q4) ?_
  rintro r hr2 c2 k2 ⟨u, I2, J2, R2, T2, rfl, rfl, p1, p2, p3, p4⟩
  refine ev_seg lset_r6 ?_
  exact next _ I2 J2 R2 T2 _ _ (lw_i4 h0 h1 hL) p1 p4 (by omega) (by omega)
section
variable {X : ez_X} {I : Nat → Nat → Int32} {J : Nat → Nat → Int64} {R : Nat → Nat} {T : List ez_C} {cz kz : Nat}
theorem ldrift_r0 {i : Int32} : ∀ G : ez_F, fx_up X 5 G 241 309 [ez_scr, .ref 0, .ref 35, .int i] [] (ev_hp I J R T) cz kz = G 241 314 [ez_scr, .ref 0, .ref 35, .int i] [.int (i + 1), ez_scr, .ref 0] (ev_hp I J R T) cz kz := by
  intro G
  rfl
theorem ldrift_r1 {i : Int32} {x : Int32} : ∀ G : ez_F, fx_up X 4 G 241 315 [ez_scr, .ref 0, .ref 35, .int i] [.int x, .ref 0] (ev_hp I J R T) cz kz = G 241 319 [ez_scr, .ref 0, .ref 35, .int i] [.int (i + 2), ez_scr, .int x, .ref 0] (ev_hp I J R T) cz kz := by
  intro G
  rfl
theorem ldrift_r2 {i : Int32} {y : Int32} {x : Int32} : ∀ G : ez_F, fx_up X 1 G 241 320 [ez_scr, .ref 0, .ref 35, .int i] [.int y, .int x, .ref 0] (ev_hp I J R T) cz kz = ev_C G 16 [.ref 0, .int x, .int y] (ev_hp I J R T) fun r h1 c1 k1 => G 241 323 [ez_scr, .ref 0, .ref 35, .int i] (r.toList ++ []) h1 (cz + c1) (kz + k1) := by
  intro G
  rfl
theorem ldrift_r3 {i : Int32} {v : Int32} : ∀ G : ez_F, fx_up X 6 G 241 323 [ez_scr, .ref 0, .ref 35, .int i] [.int v] (ev_hp I J R T) cz kz = G 241 329 [ez_scr, .ref 0, .ref 35, .int i] [.int (i + 1), ez_scr, .ref 35] (ev_hp I J R T) cz kz := by
  intro G
  rfl
theorem ldrift_r4 {i : Int32} {x : Int32} : ∀ G : ez_F, fx_up X 4 G 241 330 [ez_scr, .ref 0, .ref 35, .int i] [.int x, .ref 35] (ev_hp I J R T) cz kz = G 241 334 [ez_scr, .ref 0, .ref 35, .int i] [.int (i + 2), ez_scr, .int x, .ref 35] (ev_hp I J R T) cz kz := by
  intro G
  rfl
theorem ldrift_r5 {i : Int32} {y : Int32} {x : Int32} : ∀ G : ez_F, fx_up X 1 G 241 335 [ez_scr, .ref 0, .ref 35, .int i] [.int y, .int x, .ref 35] (ev_hp I J R T) cz kz = ev_C G 185 [.ref 35, .int x, .int y] (ev_hp I J R T) fun r h1 c1 k1 => G 241 338 [ez_scr, .ref 0, .ref 35, .int i] (r.toList ++ []) h1 (cz + c1) (kz + k1) := by
  intro G
  rfl
theorem ldrift_r6 {i : Int32} {u : Int32} : ∀ G : ez_F, fx_up X 4 G 241 338 [ez_scr, .ref 0, .ref 35, .int i] [.int u] (ev_hp I J R T) cz kz = G 241 18 [ez_scr, .ref 0, .ref 35, .int (i + 4)] [] (ev_hp I J R T) cz kz := by
  intro G
  rfl
end
theorem law_drift (X : ez_X) (hL : X.1 ≤ 2048) (i : Int32) (h0 : 0 ≤ i.toInt) (h1 : i.toInt + 4 ≤ X.1) (I : Nat → Nat → Int32) (J : Nat → Nat → Int64) (R : Nat → Nat) (T : List ez_C) (c k : Nat) (hh : cx_hok cx_B0 I R T) (hk : rl4 I J R T) {Q : ev_Q} (next : lw_next X i T c k Q) :
    ev_W X 241 309 [ez_scr, .ref 0, .ref 35, .int i] [] (ev_hp I J R T) c k Q := by
  have hX2 : X.1 < 2 ^ 31 := by omega
  have x1 : ev_ix (i + 1) X.1 := gr_ix (n := 1) h0 h1 hL (by decide)
  have x2 : ev_ix (i + 2) X.1 := gr_ix (n := 2) h0 h1 hL (by decide)
  refine ev_seg ldrift_r0 ?_
  refine ev_sald (by rfl) x1 ?_
  generalize hx : X.2 (i + 1).toNatClampNeg = x
  refine ev_seg ldrift_r1 ?_
  refine ev_sald (by rfl) x2 ?_
  generalize hy : X.2 (i + 2).toNatClampNeg = y
  refine ev_call ldrift_r2 (l4x_drift hX2 hh hk x y) ?_
  rintro r hr1 c1 k1 ⟨v, I1, J1, R1, T1, rfl, rfl, q1, q2, q3, q4⟩
  refine ev_seg ldrift_r3 ?_
  refine ev_sald (by rfl) x1 ?_
  rw [hx]
  refine ev_seg ldrift_r4 ?_
  refine ev_sald (by rfl) x2 ?_
  rw [hy]
  refine ev_call ldrift_r5 (l4m_drift hX2 hh hk x y q1 q4) ?_
  rintro r hr2 c2 k2 ⟨u, I2, J2, R2, T2, rfl, rfl, p1, p2, p3, p4⟩
  refine ev_seg ldrift_r6 ?_
  exact next _ I2 J2 R2 T2 _ _ (lw_i4 h0 h1 hL) p1 p4 (by omega) (by omega)
section
variable {X : ez_X} {I : Nat → Nat → Int32} {J : Nat → Nat → Int64} {R : Nat → Nat} {T : List ez_C} {cz kz : Nat}
theorem lspots_r0 {i : Int32} : ∀ G : ez_F, fx_up X 5 G 241 342 [ez_scr, .ref 0, .ref 35, .int i] [] (ev_hp I J R T) cz kz = G 241 347 [ez_scr, .ref 0, .ref 35, .int i] [.int (i + 1), ez_scr, .ref 0] (ev_hp I J R T) cz kz := by
  intro G
  rfl
theorem lspots_r1 {i : Int32} {x : Int32} : ∀ G : ez_F, fx_up X 1 G 241 348 [ez_scr, .ref 0, .ref 35, .int i] [.int x, .ref 0] (ev_hp I J R T) cz kz = ev_C G 46 [.ref 0, .int x] (ev_hp I J R T) fun r h1 c1 k1 => G 241 351 [ez_scr, .ref 0, .ref 35, .int i] (r.toList ++ []) h1 (cz + c1) (kz + k1) := by
  intro G
  rfl
theorem lspots_r2 {i : Int32} {v : Int32} : ∀ G : ez_F, fx_up X 6 G 241 351 [ez_scr, .ref 0, .ref 35, .int i] [.int v] (ev_hp I J R T) cz kz = G 241 357 [ez_scr, .ref 0, .ref 35, .int i] [.int (i + 1), ez_scr, .ref 35] (ev_hp I J R T) cz kz := by
  intro G
  rfl
theorem lspots_r3 {i : Int32} {x : Int32} : ∀ G : ez_F, fx_up X 1 G 241 358 [ez_scr, .ref 0, .ref 35, .int i] [.int x, .ref 35] (ev_hp I J R T) cz kz = ev_C G 223 [.ref 35, .int x] (ev_hp I J R T) fun r h1 c1 k1 => G 241 361 [ez_scr, .ref 0, .ref 35, .int i] (r.toList ++ []) h1 (cz + c1) (kz + k1) := by
  intro G
  rfl
theorem lspots_r4 {i : Int32} {u : Int32} : ∀ G : ez_F, fx_up X 4 G 241 361 [ez_scr, .ref 0, .ref 35, .int i] [.int u] (ev_hp I J R T) cz kz = G 241 18 [ez_scr, .ref 0, .ref 35, .int (i + 4)] [] (ev_hp I J R T) cz kz := by
  intro G
  rfl
end
theorem law_spots (X : ez_X) (hL : X.1 ≤ 2048) (i : Int32) (h0 : 0 ≤ i.toInt) (h1 : i.toInt + 4 ≤ X.1) (I : Nat → Nat → Int32) (J : Nat → Nat → Int64) (R : Nat → Nat) (T : List ez_C) (c k : Nat) (hh : cx_hok cx_B0 I R T) (hk : rl4 I J R T) {Q : ev_Q} (next : lw_next X i T c k Q) :
    ev_W X 241 342 [ez_scr, .ref 0, .ref 35, .int i] [] (ev_hp I J R T) c k Q := by
  have hX2 : X.1 < 2 ^ 31 := by omega
  have x1 : ev_ix (i + 1) X.1 := gr_ix (n := 1) h0 h1 hL (by decide)
  refine ev_seg lspots_r0 ?_
  refine ev_sald (by rfl) x1 ?_
  generalize hx : X.2 (i + 1).toNatClampNeg = x
  refine ev_call lspots_r1 (l4x_spots hX2 hh hk x) ?_
  rintro r hr1 c1 k1 ⟨v, I1, J1, R1, T1, rfl, rfl, q1, q2, q3, q4⟩
  refine ev_seg lspots_r2 ?_
  refine ev_sald (by rfl) x1 ?_
  rw [hx]
  refine ev_call lspots_r3 (l4m_spots hX2 hh hk x q1 q4) ?_
  rintro r hr2 c2 k2 ⟨u, I2, J2, R2, T2, rfl, rfl, p1, p2, p3, p4⟩
  refine ev_seg lspots_r4 ?_
  exact next _ I2 J2 R2 T2 _ _ (lw_i4 h0 h1 hL) p1 p4 (by omega) (by omega)
section
variable {X : ez_X} {I : Nat → Nat → Int32} {J : Nat → Nat → Int64} {R : Nat → Nat} {T : List ez_C} {cz kz : Nat}
theorem lspot_r0 {i : Int32} : ∀ G : ez_F, fx_up X 5 G 241 365 [ez_scr, .ref 0, .ref 35, .int i] [] (ev_hp I J R T) cz kz = G 241 370 [ez_scr, .ref 0, .ref 35, .int i] [.int (i + 1), ez_scr, .ref 0] (ev_hp I J R T) cz kz := by
  intro G
  rfl
theorem lspot_r1 {i : Int32} {x : Int32} : ∀ G : ez_F, fx_up X 4 G 241 371 [ez_scr, .ref 0, .ref 35, .int i] [.int x, .ref 0] (ev_hp I J R T) cz kz = G 241 375 [ez_scr, .ref 0, .ref 35, .int i] [.int (i + 2), ez_scr, .int x, .ref 0] (ev_hp I J R T) cz kz := by
  intro G
  rfl
theorem lspot_r2 {i : Int32} {y : Int32} {x : Int32} : ∀ G : ez_F, fx_up X 1 G 241 376 [ez_scr, .ref 0, .ref 35, .int i] [.int y, .int x, .ref 0] (ev_hp I J R T) cz kz = ev_C G 44 [.ref 0, .int x, .int y] (ev_hp I J R T) fun r h1 c1 k1 => G 241 379 [ez_scr, .ref 0, .ref 35, .int i] (r.toList ++ []) h1 (cz + c1) (kz + k1) := by
  intro G
  rfl
theorem lspot_r3 {i : Int32} {v : Int64} : ∀ G : ez_F, fx_up X 6 G 241 379 [ez_scr, .ref 0, .ref 35, .int i] [.long v] (ev_hp I J R T) cz kz = G 241 385 [ez_scr, .ref 0, .ref 35, .int i] [.int (i + 1), ez_scr, .ref 35] (ev_hp I J R T) cz kz := by
  intro G
  rfl
theorem lspot_r4 {i : Int32} {x : Int32} : ∀ G : ez_F, fx_up X 4 G 241 386 [ez_scr, .ref 0, .ref 35, .int i] [.int x, .ref 35] (ev_hp I J R T) cz kz = G 241 390 [ez_scr, .ref 0, .ref 35, .int i] [.int (i + 2), ez_scr, .int x, .ref 35] (ev_hp I J R T) cz kz := by
  intro G
  rfl
theorem lspot_r5 {i : Int32} {y : Int32} {x : Int32} : ∀ G : ez_F, fx_up X 1 G 241 391 [ez_scr, .ref 0, .ref 35, .int i] [.int y, .int x, .ref 35] (ev_hp I J R T) cz kz = ev_C G 222 [.ref 35, .int x, .int y] (ev_hp I J R T) fun r h1 c1 k1 => G 241 394 [ez_scr, .ref 0, .ref 35, .int i] (r.toList ++ []) h1 (cz + c1) (kz + k1) := by
  intro G
  rfl
theorem lspot_r6 {i : Int32} {u : Int64} : ∀ G : ez_F, fx_up X 4 G 241 394 [ez_scr, .ref 0, .ref 35, .int i] [.long u] (ev_hp I J R T) cz kz = G 241 18 [ez_scr, .ref 0, .ref 35, .int (i + 4)] [] (ev_hp I J R T) cz kz := by
  intro G
  rfl
end
theorem law_spot (X : ez_X) (hL : X.1 ≤ 2048) (i : Int32) (h0 : 0 ≤ i.toInt) (h1 : i.toInt + 4 ≤ X.1) (I : Nat → Nat → Int32) (J : Nat → Nat → Int64) (R : Nat → Nat) (T : List ez_C) (c k : Nat) (hh : cx_hok cx_B0 I R T) (hk : rl4 I J R T) {Q : ev_Q} (next : lw_next X i T c k Q) :
    ev_W X 241 365 [ez_scr, .ref 0, .ref 35, .int i] [] (ev_hp I J R T) c k Q := by
  have hX2 : X.1 < 2 ^ 31 := by omega
  have x1 : ev_ix (i + 1) X.1 := gr_ix (n := 1) h0 h1 hL (by decide)
  have x2 : ev_ix (i + 2) X.1 := gr_ix (n := 2) h0 h1 hL (by decide)
  refine ev_seg lspot_r0 ?_
  refine ev_sald (by rfl) x1 ?_
  generalize hx : X.2 (i + 1).toNatClampNeg = x
  refine ev_seg lspot_r1 ?_
  refine ev_sald (by rfl) x2 ?_
  generalize hy : X.2 (i + 2).toNatClampNeg = y
  refine ev_call lspot_r2 (l4x_spot hX2 hh hk x y) ?_
  rintro r hr1 c1 k1 ⟨v, I1, J1, R1, T1, rfl, rfl, q1, q2, q3, q4⟩
  refine ev_seg lspot_r3 ?_
  refine ev_sald (by rfl) x1 ?_
  rw [hx]
  refine ev_seg lspot_r4 ?_
  refine ev_sald (by rfl) x2 ?_
  rw [hy]
  refine ev_call lspot_r5 (l4m_spot hX2 hh hk x y q1 q4) ?_
  rintro r hr2 c2 k2 ⟨u, I2, J2, R2, T2, rfl, rfl, p1, p2, p3, p4⟩
  refine ev_seg lspot_r6 ?_
  exact next _ I2 J2 R2 T2 _ _ (lw_i4 h0 h1 hL) p1 p4 (by omega) (by omega)
section
variable {X : ez_X} {I : Nat → Nat → Int32} {J : Nat → Nat → Int64} {R : Nat → Nat} {T : List ez_C} {cz kz : Nat}
theorem llayings_r0 {i : Int32} : ∀ G : ez_F, fx_up X 2 G 241 398 [ez_scr, .ref 0, .ref 35, .int i] [] (ev_hp I J R T) cz kz = ev_C G 27 [.ref 0] (ev_hp I J R T) fun r h1 c1 k1 => G 241 402 [ez_scr, .ref 0, .ref 35, .int i] (r.toList ++ []) h1 (cz + c1) (kz + k1) := by
  intro G
  rfl
theorem llayings_r1 {i : Int32} {v : Int32} : ∀ G : ez_F, fx_up X 3 G 241 402 [ez_scr, .ref 0, .ref 35, .int i] [.int v] (ev_hp I J R T) cz kz = ev_C G 206 [.ref 35] (ev_hp I J R T) fun r h1 c1 k1 => G 241 407 [ez_scr, .ref 0, .ref 35, .int i] (r.toList ++ []) h1 (cz + c1) (kz + k1) := by
  intro G
  rfl
theorem llayings_r2 {i : Int32} {u : Int32} : ∀ G : ez_F, fx_up X 4 G 241 407 [ez_scr, .ref 0, .ref 35, .int i] [.int u] (ev_hp I J R T) cz kz = G 241 18 [ez_scr, .ref 0, .ref 35, .int (i + 4)] [] (ev_hp I J R T) cz kz := by
  intro G
  rfl
end
theorem law_layings (X : ez_X) (hL : X.1 ≤ 2048) (i : Int32) (h0 : 0 ≤ i.toInt) (h1 : i.toInt + 4 ≤ X.1) (I : Nat → Nat → Int32) (J : Nat → Nat → Int64) (R : Nat → Nat) (T : List ez_C) (c k : Nat) (hh : cx_hok cx_B0 I R T) (hk : rl4 I J R T) {Q : ev_Q} (next : lw_next X i T c k Q) :
    ev_W X 241 398 [ez_scr, .ref 0, .ref 35, .int i] [] (ev_hp I J R T) c k Q := by
  have hX2 : X.1 < 2 ^ 31 := by omega
  refine ev_call llayings_r0 (l4x_layings hX2 hh hk) ?_
  rintro r hr1 c1 k1 ⟨v, I1, J1, R1, T1, rfl, rfl, q1, q2, q3, q4⟩
  refine ev_call llayings_r1 (l4m_layings hX2 hh hk q1 q4) ?_
  rintro r hr2 c2 k2 ⟨u, I2, J2, R2, T2, rfl, rfl, p1, p2, p3, p4⟩
  refine ev_seg llayings_r2 ?_
  exact next _ I2 J2 R2 T2 _ _ (lw_i4 h0 h1 hL) p1 p4 (by omega) (by omega)
section
variable {X : ez_X} {I : Nat → Nat → Int32} {J : Nat → Nat → Int64} {R : Nat → Nat} {T : List ez_C} {cz kz : Nat}
theorem llaid_r0 {i : Int32} : ∀ G : ez_F, fx_up X 5 G 241 411 [ez_scr, .ref 0, .ref 35, .int i] [] (ev_hp I J R T) cz kz = G 241 416 [ez_scr, .ref 0, .ref 35, .int i] [.int (i + 1), ez_scr, .ref 0] (ev_hp I J R T) cz kz := by
  intro G
  rfl
theorem llaid_r1 {i : Int32} {x : Int32} : ∀ G : ez_F, fx_up X 4 G 241 417 [ez_scr, .ref 0, .ref 35, .int i] [.int x, .ref 0] (ev_hp I J R T) cz kz = G 241 421 [ez_scr, .ref 0, .ref 35, .int i] [.int (i + 2), ez_scr, .int x, .ref 0] (ev_hp I J R T) cz kz := by
  intro G
  rfl
theorem llaid_r2 {i : Int32} {y : Int32} {x : Int32} : ∀ G : ez_F, fx_up X 1 G 241 422 [ez_scr, .ref 0, .ref 35, .int i] [.int y, .int x, .ref 0] (ev_hp I J R T) cz kz = ev_C G 26 [.ref 0, .int x, .int y] (ev_hp I J R T) fun r h1 c1 k1 => G 241 425 [ez_scr, .ref 0, .ref 35, .int i] (r.toList ++ []) h1 (cz + c1) (kz + k1) := by
  intro G
  rfl
theorem llaid_r3 {i : Int32} {v : Int32} : ∀ G : ez_F, fx_up X 6 G 241 425 [ez_scr, .ref 0, .ref 35, .int i] [.int v] (ev_hp I J R T) cz kz = G 241 431 [ez_scr, .ref 0, .ref 35, .int i] [.int (i + 1), ez_scr, .ref 35] (ev_hp I J R T) cz kz := by
  intro G
  rfl
theorem llaid_r4 {i : Int32} {x : Int32} : ∀ G : ez_F, fx_up X 4 G 241 432 [ez_scr, .ref 0, .ref 35, .int i] [.int x, .ref 35] (ev_hp I J R T) cz kz = G 241 436 [ez_scr, .ref 0, .ref 35, .int i] [.int (i + 2), ez_scr, .int x, .ref 35] (ev_hp I J R T) cz kz := by
  intro G
  rfl
theorem llaid_r5 {i : Int32} {y : Int32} {x : Int32} : ∀ G : ez_F, fx_up X 1 G 241 437 [ez_scr, .ref 0, .ref 35, .int i] [.int y, .int x, .ref 35] (ev_hp I J R T) cz kz = ev_C G 205 [.ref 35, .int x, .int y] (ev_hp I J R T) fun r h1 c1 k1 => G 241 440 [ez_scr, .ref 0, .ref 35, .int i] (r.toList ++ []) h1 (cz + c1) (kz + k1) := by
  intro G
  rfl
theorem llaid_r6 {i : Int32} {u : Int32} : ∀ G : ez_F, fx_up X 4 G 241 440 [ez_scr, .ref 0, .ref 35, .int i] [.int u] (ev_hp I J R T) cz kz = G 241 18 [ez_scr, .ref 0, .ref 35, .int (i + 4)] [] (ev_hp I J R T) cz kz := by
  intro G
  rfl
end
theorem law_laid (X : ez_X) (hL : X.1 ≤ 2048) (i : Int32) (h0 : 0 ≤ i.toInt) (h1 : i.toInt + 4 ≤ X.1) (I : Nat → Nat → Int32) (J : Nat → Nat → Int64) (R : Nat → Nat) (T : List ez_C) (c k : Nat) (hh : cx_hok cx_B0 I R T) (hk : rl4 I J R T) {Q : ev_Q} (next : lw_next X i T c k Q) :
    ev_W X 241 411 [ez_scr, .ref 0, .ref 35, .int i] [] (ev_hp I J R T) c k Q := by
  have hX2 : X.1 < 2 ^ 31 := by omega
  have x1 : ev_ix (i + 1) X.1 := gr_ix (n := 1) h0 h1 hL (by decide)
  have x2 : ev_ix (i + 2) X.1 := gr_ix (n := 2) h0 h1 hL (by decide)
  refine ev_seg llaid_r0 ?_
  refine ev_sald (by rfl) x1 ?_
  generalize hx : X.2 (i + 1).toNatClampNeg = x
  refine ev_seg llaid_r1 ?_
  refine ev_sald (by rfl) x2 ?_
  generalize hy : X.2 (i + 2).toNatClampNeg = y
  refine ev_call llaid_r2 (l4x_laid hX2 hh hk x y) ?_
  rintro r hr1 c1 k1 ⟨v, I1, J1, R1, T1, rfl, rfl, q1, q2, q3, q4⟩
  refine ev_seg llaid_r3 ?_
  refine ev_sald (by rfl) x1 ?_
  rw [hx]
  refine ev_seg llaid_r4 ?_
  refine ev_sald (by rfl) x2 ?_
  rw [hy]
  refine ev_call llaid_r5 (l4m_laid hX2 hh hk x y q1 q4) ?_
  rintro r hr2 c2 k2 ⟨u, I2, J2, R2, T2, rfl, rfl, p1, p2, p3, p4⟩
  refine ev_seg llaid_r6 ?_
  exact next _ I2 J2 R2 T2 _ _ (lw_i4 h0 h1 hL) p1 p4 (by omega) (by omega)
section
variable {X : ez_X} {I : Nat → Nat → Int32} {J : Nat → Nat → Int64} {R : Nat → Nat} {T : List ez_C} {cz kz : Nat}
theorem lcall_r0 {i : Int32} : ∀ G : ez_F, fx_up X 5 G 241 444 [ez_scr, .ref 0, .ref 35, .int i] [] (ev_hp I J R T) cz kz = G 241 449 [ez_scr, .ref 0, .ref 35, .int i] [.int (i + 1), ez_scr, .ref 0] (ev_hp I J R T) cz kz := by
  intro G
  rfl
theorem lcall_r1 {i : Int32} {x : Int32} : ∀ G : ez_F, fx_up X 1 G 241 450 [ez_scr, .ref 0, .ref 35, .int i] [.int x, .ref 0] (ev_hp I J R T) cz kz = ev_C G 10 [.ref 0, .int x] (ev_hp I J R T) fun r h1 c1 k1 => G 241 453 [ez_scr, .ref 0, .ref 35, .int i] (r.toList ++ []) h1 (cz + c1) (kz + k1) := by
  intro G
  rfl
theorem lcall_r2 {i : Int32} {v : Int32} : ∀ G : ez_F, fx_up X 6 G 241 453 [ez_scr, .ref 0, .ref 35, .int i] [.int v] (ev_hp I J R T) cz kz = G 241 459 [ez_scr, .ref 0, .ref 35, .int i] [.int (i + 1), ez_scr, .ref 35] (ev_hp I J R T) cz kz := by
  intro G
  rfl
theorem lcall_r3 {i : Int32} {x : Int32} : ∀ G : ez_F, fx_up X 1 G 241 460 [ez_scr, .ref 0, .ref 35, .int i] [.int x, .ref 35] (ev_hp I J R T) cz kz = ev_C G 175 [.ref 35, .int x] (ev_hp I J R T) fun r h1 c1 k1 => G 241 463 [ez_scr, .ref 0, .ref 35, .int i] (r.toList ++ []) h1 (cz + c1) (kz + k1) := by
  intro G
  rfl
theorem lcall_r4 {i : Int32} {u : Int32} : ∀ G : ez_F, fx_up X 4 G 241 463 [ez_scr, .ref 0, .ref 35, .int i] [.int u] (ev_hp I J R T) cz kz = G 241 18 [ez_scr, .ref 0, .ref 35, .int (i + 4)] [] (ev_hp I J R T) cz kz := by
  intro G
  rfl
end
theorem law_call (X : ez_X) (hL : X.1 ≤ 2048) (i : Int32) (h0 : 0 ≤ i.toInt) (h1 : i.toInt + 4 ≤ X.1) (I : Nat → Nat → Int32) (J : Nat → Nat → Int64) (R : Nat → Nat) (T : List ez_C) (c k : Nat) (hh : cx_hok cx_B0 I R T) (hk : rl4 I J R T) {Q : ev_Q} (next : lw_next X i T c k Q) :
    ev_W X 241 444 [ez_scr, .ref 0, .ref 35, .int i] [] (ev_hp I J R T) c k Q := by
  have hX2 : X.1 < 2 ^ 31 := by omega
  have x1 : ev_ix (i + 1) X.1 := gr_ix (n := 1) h0 h1 hL (by decide)
  refine ev_seg lcall_r0 ?_
  refine ev_sald (by rfl) x1 ?_
  generalize hx : X.2 (i + 1).toNatClampNeg = x
  refine ev_call lcall_r1 (l4x_call hX2 hh hk x) ?_
  rintro r hr1 c1 k1 ⟨v, I1, J1, R1, T1, rfl, rfl, q1, q2, q3, q4⟩
  refine ev_seg lcall_r2 ?_
  refine ev_sald (by rfl) x1 ?_
  rw [hx]
  refine ev_call lcall_r3 (l4m_call hX2 hh hk x q1 q4) ?_
  rintro r hr2 c2 k2 ⟨u, I2, J2, R2, T2, rfl, rfl, p1, p2, p3, p4⟩
  refine ev_seg lcall_r4 ?_
  exact next _ I2 J2 R2 T2 _ _ (lw_i4 h0 h1 hL) p1 p4 (by omega) (by omega)
section
variable {X : ez_X} {I : Nat → Nat → Int32} {J : Nat → Nat → Int64} {R : Nat → Nat} {T : List ez_C} {cz kz : Nat}
theorem lsalvo_r0 {i : Int32} : ∀ G : ez_F, fx_up X 5 G 241 467 [ez_scr, .ref 0, .ref 35, .int i] [] (ev_hp I J R T) cz kz = G 241 472 [ez_scr, .ref 0, .ref 35, .int i] [.int (i + 1), ez_scr, .ref 0] (ev_hp I J R T) cz kz := by
  intro G
  rfl
theorem lsalvo_r1 {i : Int32} {x : Int32} : ∀ G : ez_F, fx_up X 4 G 241 473 [ez_scr, .ref 0, .ref 35, .int i] [.int x, .ref 0] (ev_hp I J R T) cz kz = G 241 477 [ez_scr, .ref 0, .ref 35, .int i] [.int (i + 2), ez_scr, .int x, .ref 0] (ev_hp I J R T) cz kz := by
  intro G
  rfl
theorem lsalvo_r2 {i : Int32} {y : Int32} {x : Int32} : ∀ G : ez_F, fx_up X 1 G 241 478 [ez_scr, .ref 0, .ref 35, .int i] [.int y, .int x, .ref 0] (ev_hp I J R T) cz kz = ev_C G 41 [.ref 0, .int x, .int y] (ev_hp I J R T) fun r h1 c1 k1 => G 241 481 [ez_scr, .ref 0, .ref 35, .int i] (r.toList ++ []) h1 (cz + c1) (kz + k1) := by
  intro G
  rfl
theorem lsalvo_r3 {i : Int32} {v : Int32} : ∀ G : ez_F, fx_up X 6 G 241 481 [ez_scr, .ref 0, .ref 35, .int i] [.int v] (ev_hp I J R T) cz kz = G 241 487 [ez_scr, .ref 0, .ref 35, .int i] [.int (i + 1), ez_scr, .ref 35] (ev_hp I J R T) cz kz := by
  intro G
  rfl
theorem lsalvo_r4 {i : Int32} {x : Int32} : ∀ G : ez_F, fx_up X 4 G 241 488 [ez_scr, .ref 0, .ref 35, .int i] [.int x, .ref 35] (ev_hp I J R T) cz kz = G 241 492 [ez_scr, .ref 0, .ref 35, .int i] [.int (i + 2), ez_scr, .int x, .ref 35] (ev_hp I J R T) cz kz := by
  intro G
  rfl
theorem lsalvo_r5 {i : Int32} {y : Int32} {x : Int32} : ∀ G : ez_F, fx_up X 1 G 241 493 [ez_scr, .ref 0, .ref 35, .int i] [.int y, .int x, .ref 35] (ev_hp I J R T) cz kz = ev_C G 218 [.ref 35, .int x, .int y] (ev_hp I J R T) fun r h1 c1 k1 => G 241 496 [ez_scr, .ref 0, .ref 35, .int i] (r.toList ++ []) h1 (cz + c1) (kz + k1) := by
  intro G
  rfl
theorem lsalvo_r6 {i : Int32} {u : Int32} : ∀ G : ez_F, fx_up X 4 G 241 496 [ez_scr, .ref 0, .ref 35, .int i] [.int u] (ev_hp I J R T) cz kz = G 241 18 [ez_scr, .ref 0, .ref 35, .int (i + 4)] [] (ev_hp I J R T) cz kz := by
  intro G
  rfl
end
theorem law_salvo (X : ez_X) (hL : X.1 ≤ 2048) (i : Int32) (h0 : 0 ≤ i.toInt) (h1 : i.toInt + 4 ≤ X.1) (I : Nat → Nat → Int32) (J : Nat → Nat → Int64) (R : Nat → Nat) (T : List ez_C) (c k : Nat) (hh : cx_hok cx_B0 I R T) (hk : rl4 I J R T) {Q : ev_Q} (next : lw_next X i T c k Q) :
    ev_W X 241 467 [ez_scr, .ref 0, .ref 35, .int i] [] (ev_hp I J R T) c k Q := by
  have hX2 : X.1 < 2 ^ 31 := by omega
  have x1 : ev_ix (i + 1) X.1 := gr_ix (n := 1) h0 h1 hL (by decide)
  have x2 : ev_ix (i + 2) X.1 := gr_ix (n := 2) h0 h1 hL (by decide)
  refine ev_seg lsalvo_r0 ?_
  refine ev_sald (by rfl) x1 ?_
  generalize hx : X.2 (i + 1).toNatClampNeg = x
  refine ev_seg lsalvo_r1 ?_
  refine ev_sald (by rfl) x2 ?_
  generalize hy : X.2 (i + 2).toNatClampNeg = y
  refine ev_call lsalvo_r2 (l4x_salvo hX2 hh hk x y) ?_
  rintro r hr1 c1 k1 ⟨v, I1, J1, R1, T1, rfl, rfl, q1, q2, q3, q4⟩
  refine ev_seg lsalvo_r3 ?_
  refine ev_sald (by rfl) x1 ?_
  rw [hx]
  refine ev_seg lsalvo_r4 ?_
  refine ev_sald (by rfl) x2 ?_
  rw [hy]
  refine ev_call lsalvo_r5 (l4m_salvo hX2 hh hk x y q1 q4) ?_
  rintro r hr2 c2 k2 ⟨u, I2, J2, R2, T2, rfl, rfl, p1, p2, p3, p4⟩
  refine ev_seg lsalvo_r6 ?_
  exact next _ I2 J2 R2 T2 _ _ (lw_i4 h0 h1 hL) p1 p4 (by omega) (by omega)
section
variable {X : ez_X} {I : Nat → Nat → Int32} {J : Nat → Nat → Int64} {R : Nat → Nat} {T : List ez_C} {cz kz : Nat}
theorem lanswer_r0 {i : Int32} : ∀ G : ez_F, fx_up X 5 G 241 500 [ez_scr, .ref 0, .ref 35, .int i] [] (ev_hp I J R T) cz kz = G 241 505 [ez_scr, .ref 0, .ref 35, .int i] [.int (i + 1), ez_scr, .ref 0] (ev_hp I J R T) cz kz := by
  intro G
  rfl
theorem lanswer_r1 {i : Int32} {x : Int32} : ∀ G : ez_F, fx_up X 4 G 241 506 [ez_scr, .ref 0, .ref 35, .int i] [.int x, .ref 0] (ev_hp I J R T) cz kz = G 241 510 [ez_scr, .ref 0, .ref 35, .int i] [.int (i + 2), ez_scr, .int x, .ref 0] (ev_hp I J R T) cz kz := by
  intro G
  rfl
theorem lanswer_r2 {i : Int32} {y : Int32} {x : Int32} : ∀ G : ez_F, fx_up X 1 G 241 511 [ez_scr, .ref 0, .ref 35, .int i] [.int y, .int x, .ref 0] (ev_hp I J R T) cz kz = ev_C G 1 [.ref 0, .int x, .int y] (ev_hp I J R T) fun r h1 c1 k1 => G 241 514 [ez_scr, .ref 0, .ref 35, .int i] (r.toList ++ []) h1 (cz + c1) (kz + k1) := by
  intro G
  rfl
theorem lanswer_r3 {i : Int32} {v : Int32} : ∀ G : ez_F, fx_up X 6 G 241 514 [ez_scr, .ref 0, .ref 35, .int i] [.int v] (ev_hp I J R T) cz kz = G 241 520 [ez_scr, .ref 0, .ref 35, .int i] [.int (i + 1), ez_scr, .ref 35] (ev_hp I J R T) cz kz := by
  intro G
  rfl
theorem lanswer_r4 {i : Int32} {x : Int32} : ∀ G : ez_F, fx_up X 4 G 241 521 [ez_scr, .ref 0, .ref 35, .int i] [.int x, .ref 35] (ev_hp I J R T) cz kz = G 241 525 [ez_scr, .ref 0, .ref 35, .int i] [.int (i + 2), ez_scr, .int x, .ref 35] (ev_hp I J R T) cz kz := by
  intro G
  rfl
theorem lanswer_r5 {i : Int32} {y : Int32} {x : Int32} : ∀ G : ez_F, fx_up X 1 G 241 526 [ez_scr, .ref 0, .ref 35, .int i] [.int y, .int x, .ref 35] (ev_hp I J R T) cz kz = ev_C G 166 [.ref 35, .int x, .int y] (ev_hp I J R T) fun r h1 c1 k1 => G 241 529 [ez_scr, .ref 0, .ref 35, .int i] (r.toList ++ []) h1 (cz + c1) (kz + k1) := by
  intro G
  rfl
theorem lanswer_r6 {i : Int32} {u : Int32} : ∀ G : ez_F, fx_up X 4 G 241 529 [ez_scr, .ref 0, .ref 35, .int i] [.int u] (ev_hp I J R T) cz kz = G 241 18 [ez_scr, .ref 0, .ref 35, .int (i + 4)] [] (ev_hp I J R T) cz kz := by
  intro G
  rfl
end
theorem law_answer (X : ez_X) (hL : X.1 ≤ 2048) (i : Int32) (h0 : 0 ≤ i.toInt) (h1 : i.toInt + 4 ≤ X.1) (I : Nat → Nat → Int32) (J : Nat → Nat → Int64) (R : Nat → Nat) (T : List ez_C) (c k : Nat) (hh : cx_hok cx_B0 I R T) (hk : rl4 I J R T) {Q : ev_Q} (next : lw_next X i T c k Q) :
    ev_W X 241 500 [ez_scr, .ref 0, .ref 35, .int i] [] (ev_hp I J R T) c k Q := by
  have hX2 : X.1 < 2 ^ 31 := by omega
  have x1 : ev_ix (i + 1) X.1 := gr_ix (n := 1) h0 h1 hL (by decide)
  have x2 : ev_ix (i + 2) X.1 := gr_ix (n := 2) h0 h1 hL (by decide)
  refine ev_seg lanswer_r0 ?_
  refine ev_sald (by rfl) x1 ?_
  generalize hx : X.2 (i + 1).toNatClampNeg = x
  refine ev_seg lanswer_r1 ?_
  refine ev_sald (by rfl) x2 ?_
  generalize hy : X.2 (i + 2).toNatClampNeg = y
  refine ev_call lanswer_r2 (l4x_answer hX2 hh hk x y) ?_
  rintro r hr1 c1 k1 ⟨v, I1, J1, R1, T1, rfl, rfl, q1, q2, q3, q4⟩
  refine ev_seg lanswer_r3 ?_
  refine ev_sald (by rfl) x1 ?_
  rw [hx]
  refine ev_seg lanswer_r4 ?_
  refine ev_sald (by rfl) x2 ?_
  rw [hy]
  refine ev_call lanswer_r5 (l4m_answer hX2 hh hk x y q1 q4) ?_
  rintro r hr2 c2 k2 ⟨u, I2, J2, R2, T2, rfl, rfl, p1, p2, p3, p4⟩
  refine ev_seg lanswer_r6 ?_
  exact next _ I2 J2 R2 T2 _ _ (lw_i4 h0 h1 hL) p1 p4 (by omega) (by omega)
section
variable {X : ez_X} {I : Nat → Nat → Int32} {J : Nat → Nat → Int64} {R : Nat → Nat} {T : List ez_C} {cz kz : Nat}
theorem llose_r0 {i : Int32} : ∀ G : ez_F, fx_up X 5 G 241 533 [ez_scr, .ref 0, .ref 35, .int i] [] (ev_hp I J R T) cz kz = G 241 538 [ez_scr, .ref 0, .ref 35, .int i] [.int (i + 1), ez_scr, .ref 0] (ev_hp I J R T) cz kz := by
  intro G
  rfl
theorem llose_r1 {i : Int32} {x : Int32} : ∀ G : ez_F, fx_up X 1 G 241 539 [ez_scr, .ref 0, .ref 35, .int i] [.int x, .ref 0] (ev_hp I J R T) cz kz = ev_C G 32 [.ref 0, .int x] (ev_hp I J R T) fun r h1 c1 k1 => G 241 542 [ez_scr, .ref 0, .ref 35, .int i] (r.toList ++ []) h1 (cz + c1) (kz + k1) := by
  intro G
  rfl
theorem llose_r2 {i : Int32} {v : Int32} : ∀ G : ez_F, fx_up X 6 G 241 542 [ez_scr, .ref 0, .ref 35, .int i] [.int v] (ev_hp I J R T) cz kz = G 241 548 [ez_scr, .ref 0, .ref 35, .int i] [.int (i + 1), ez_scr, .ref 35] (ev_hp I J R T) cz kz := by
  intro G
  rfl
theorem llose_r3 {i : Int32} {x : Int32} : ∀ G : ez_F, fx_up X 1 G 241 549 [ez_scr, .ref 0, .ref 35, .int i] [.int x, .ref 35] (ev_hp I J R T) cz kz = ev_C G 209 [.ref 35, .int x] (ev_hp I J R T) fun r h1 c1 k1 => G 241 552 [ez_scr, .ref 0, .ref 35, .int i] (r.toList ++ []) h1 (cz + c1) (kz + k1) := by
  intro G
  rfl
theorem llose_r4 {i : Int32} {u : Int32} : ∀ G : ez_F, fx_up X 4 G 241 552 [ez_scr, .ref 0, .ref 35, .int i] [.int u] (ev_hp I J R T) cz kz = G 241 18 [ez_scr, .ref 0, .ref 35, .int (i + 4)] [] (ev_hp I J R T) cz kz := by
  intro G
  rfl
end
theorem law_lose (X : ez_X) (hL : X.1 ≤ 2048) (i : Int32) (h0 : 0 ≤ i.toInt) (h1 : i.toInt + 4 ≤ X.1) (I : Nat → Nat → Int32) (J : Nat → Nat → Int64) (R : Nat → Nat) (T : List ez_C) (c k : Nat) (hh : cx_hok cx_B0 I R T) (hk : rl4 I J R T) {Q : ev_Q} (next : lw_next X i T c k Q) :
    ev_W X 241 533 [ez_scr, .ref 0, .ref 35, .int i] [] (ev_hp I J R T) c k Q := by
  have hX2 : X.1 < 2 ^ 31 := by omega
  have x1 : ev_ix (i + 1) X.1 := gr_ix (n := 1) h0 h1 hL (by decide)
  refine ev_seg llose_r0 ?_
  refine ev_sald (by rfl) x1 ?_
  generalize hx : X.2 (i + 1).toNatClampNeg = x
  refine ev_call llose_r1 (l4x_lose hX2 hh hk x) ?_
  rintro r hr1 c1 k1 ⟨v, I1, J1, R1, T1, rfl, rfl, q1, q2, q3, q4⟩
  refine ev_seg llose_r2 ?_
  refine ev_sald (by rfl) x1 ?_
  rw [hx]
  refine ev_call llose_r3 (l4m_lose hX2 hh hk x q1 q4) ?_
  rintro r hr2 c2 k2 ⟨u, I2, J2, R2, T2, rfl, rfl, p1, p2, p3, p4⟩
  refine ev_seg llose_r4 ?_
  exact next _ I2 J2 R2 T2 _ _ (lw_i4 h0 h1 hL) p1 p4 (by omega) (by omega)
section
variable {X : ez_X} {I : Nat → Nat → Int32} {J : Nat → Nat → Int64} {R : Nat → Nat} {T : List ez_C} {cz kz : Nat}
theorem lback_r0 {i : Int32} : ∀ G : ez_F, fx_up X 2 G 241 556 [ez_scr, .ref 0, .ref 35, .int i] [] (ev_hp I J R T) cz kz = ev_C G 5 [.ref 0] (ev_hp I J R T) fun r h1 c1 k1 => G 241 560 [ez_scr, .ref 0, .ref 35, .int i] (r.toList ++ []) h1 (cz + c1) (kz + k1) := by
  intro G
  rfl
theorem lback_r1 {i : Int32} {v : Int32} : ∀ G : ez_F, fx_up X 3 G 241 560 [ez_scr, .ref 0, .ref 35, .int i] [.int v] (ev_hp I J R T) cz kz = ev_C G 168 [.ref 35] (ev_hp I J R T) fun r h1 c1 k1 => G 241 565 [ez_scr, .ref 0, .ref 35, .int i] (r.toList ++ []) h1 (cz + c1) (kz + k1) := by
  intro G
  rfl
theorem lback_r2 {i : Int32} {u : Int32} : ∀ G : ez_F, fx_up X 4 G 241 565 [ez_scr, .ref 0, .ref 35, .int i] [.int u] (ev_hp I J R T) cz kz = G 241 18 [ez_scr, .ref 0, .ref 35, .int (i + 4)] [] (ev_hp I J R T) cz kz := by
  intro G
  rfl
end
theorem law_back (X : ez_X) (hL : X.1 ≤ 2048) (i : Int32) (h0 : 0 ≤ i.toInt) (h1 : i.toInt + 4 ≤ X.1) (I : Nat → Nat → Int32) (J : Nat → Nat → Int64) (R : Nat → Nat) (T : List ez_C) (c k : Nat) (hh : cx_hok cx_B0 I R T) (hk : rl4 I J R T) {Q : ev_Q} (next : lw_next X i T c k Q) :
    ev_W X 241 556 [ez_scr, .ref 0, .ref 35, .int i] [] (ev_hp I J R T) c k Q := by
  have hX2 : X.1 < 2 ^ 31 := by omega
  refine ev_call lback_r0 (l4x_back hX2 hh hk) ?_
  rintro r hr1 c1 k1 ⟨v, I1, J1, R1, T1, rfl, rfl, q1, q2, q3, q4⟩
  refine ev_call lback_r1 (l4m_back hX2 hh hk q1 q4) ?_
  rintro r hr2 c2 k2 ⟨u, I2, J2, R2, T2, rfl, rfl, p1, p2, p3, p4⟩
  refine ev_seg lback_r2 ?_
  exact next _ I2 J2 R2 T2 _ _ (lw_i4 h0 h1 hL) p1 p4 (by omega) (by omega)
section
variable {X : ez_X} {I : Nat → Nat → Int32} {J : Nat → Nat → Int64} {R : Nat → Nat} {T : List ez_C} {cz kz : Nat}
theorem ltruth_r0 {i : Int32} : ∀ G : ez_F, fx_up X 5 G 241 569 [ez_scr, .ref 0, .ref 35, .int i] [] (ev_hp I J R T) cz kz = G 241 574 [ez_scr, .ref 0, .ref 35, .int i] [.int (i + 1), ez_scr, .ref 0] (ev_hp I J R T) cz kz := by
  intro G
  rfl
theorem ltruth_r1 {i : Int32} {x : Int32} : ∀ G : ez_F, fx_up X 4 G 241 575 [ez_scr, .ref 0, .ref 35, .int i] [.int x, .ref 0] (ev_hp I J R T) cz kz = G 241 579 [ez_scr, .ref 0, .ref 35, .int i] [.int (i + 2), ez_scr, .int x, .ref 0] (ev_hp I J R T) cz kz := by
  intro G
  rfl
theorem ltruth_r2 {i : Int32} {y : Int32} {x : Int32} : ∀ G : ez_F, fx_up X 1 G 241 580 [ez_scr, .ref 0, .ref 35, .int i] [.int y, .int x, .ref 0] (ev_hp I J R T) cz kz = ev_C G 53 [.ref 0, .int x, .int y] (ev_hp I J R T) fun r h1 c1 k1 => G 241 583 [ez_scr, .ref 0, .ref 35, .int i] (r.toList ++ []) h1 (cz + c1) (kz + k1) := by
  intro G
  rfl
theorem ltruth_r3 {i : Int32} {v : Int32} : ∀ G : ez_F, fx_up X 6 G 241 583 [ez_scr, .ref 0, .ref 35, .int i] [.int v] (ev_hp I J R T) cz kz = G 241 589 [ez_scr, .ref 0, .ref 35, .int i] [.int (i + 1), ez_scr, .ref 35] (ev_hp I J R T) cz kz := by
  intro G
  rfl
theorem ltruth_r4 {i : Int32} {x : Int32} : ∀ G : ez_F, fx_up X 4 G 241 590 [ez_scr, .ref 0, .ref 35, .int i] [.int x, .ref 35] (ev_hp I J R T) cz kz = G 241 594 [ez_scr, .ref 0, .ref 35, .int i] [.int (i + 2), ez_scr, .int x, .ref 35] (ev_hp I J R T) cz kz := by
  intro G
  rfl
theorem ltruth_r5 {i : Int32} {y : Int32} {x : Int32} : ∀ G : ez_F, fx_up X 1 G 241 595 [ez_scr, .ref 0, .ref 35, .int i] [.int y, .int x, .ref 35] (ev_hp I J R T) cz kz = ev_C G 229 [.ref 35, .int x, .int y] (ev_hp I J R T) fun r h1 c1 k1 => G 241 598 [ez_scr, .ref 0, .ref 35, .int i] (r.toList ++ []) h1 (cz + c1) (kz + k1) := by
  intro G
  rfl
theorem ltruth_r6 {i : Int32} {u : Int32} : ∀ G : ez_F, fx_up X 4 G 241 598 [ez_scr, .ref 0, .ref 35, .int i] [.int u] (ev_hp I J R T) cz kz = G 241 18 [ez_scr, .ref 0, .ref 35, .int (i + 4)] [] (ev_hp I J R T) cz kz := by
  intro G
  rfl
end
theorem law_truth (X : ez_X) (hL : X.1 ≤ 2048) (i : Int32) (h0 : 0 ≤ i.toInt) (h1 : i.toInt + 4 ≤ X.1) (I : Nat → Nat → Int32) (J : Nat → Nat → Int64) (R : Nat → Nat) (T : List ez_C) (c k : Nat) (hh : cx_hok cx_B0 I R T) (hk : rl4 I J R T) {Q : ev_Q} (next : lw_next X i T c k Q) :
    ev_W X 241 569 [ez_scr, .ref 0, .ref 35, .int i] [] (ev_hp I J R T) c k Q := by
  have hX2 : X.1 < 2 ^ 31 := by omega
  have x1 : ev_ix (i + 1) X.1 := gr_ix (n := 1) h0 h1 hL (by decide)
  have x2 : ev_ix (i + 2) X.1 := gr_ix (n := 2) h0 h1 hL (by decide)
  refine ev_seg ltruth_r0 ?_
  refine ev_sald (by rfl) x1 ?_
  generalize hx : X.2 (i + 1).toNatClampNeg = x
  refine ev_seg ltruth_r1 ?_
  refine ev_sald (by rfl) x2 ?_
  generalize hy : X.2 (i + 2).toNatClampNeg = y
  refine ev_call ltruth_r2 (l4x_truth hX2 hh hk x y) ?_
  rintro r hr1 c1 k1 ⟨v, I1, J1, R1, T1, rfl, rfl, q1, q2, q3, q4⟩
  refine ev_seg ltruth_r3 ?_
  refine ev_sald (by rfl) x1 ?_
  rw [hx]
  refine ev_seg ltruth_r4 ?_
  refine ev_sald (by rfl) x2 ?_
  rw [hy]
  refine ev_call ltruth_r5 (l4m_truth hX2 hh hk x y q1 q4) ?_
  rintro r hr2 c2 k2 ⟨u, I2, J2, R2, T2, rfl, rfl, p1, p2, p3, p4⟩
  refine ev_seg ltruth_r6 ?_
  exact next _ I2 J2 R2 T2 _ _ (lw_i4 h0 h1 hL) p1 p4 (by omega) (by omega)
section
variable {X : ez_X} {I : Nat → Nat → Int32} {J : Nat → Nat → Int64} {R : Nat → Nat} {T : List ez_C} {cz kz : Nat}
theorem llies_r0 {i : Int32} : ∀ G : ez_F, fx_up X 5 G 241 602 [ez_scr, .ref 0, .ref 35, .int i] [] (ev_hp I J R T) cz kz = G 241 607 [ez_scr, .ref 0, .ref 35, .int i] [.int (i + 1), ez_scr, .ref 0] (ev_hp I J R T) cz kz := by
  intro G
  rfl
theorem llies_r1 {i : Int32} {x : Int32} : ∀ G : ez_F, fx_up X 4 G 241 608 [ez_scr, .ref 0, .ref 35, .int i] [.int x, .ref 0] (ev_hp I J R T) cz kz = G 241 612 [ez_scr, .ref 0, .ref 35, .int i] [.int (i + 2), ez_scr, .int x, .ref 0] (ev_hp I J R T) cz kz := by
  intro G
  rfl
theorem llies_r2 {i : Int32} {y : Int32} {x : Int32} : ∀ G : ez_F, fx_up X 4 G 241 613 [ez_scr, .ref 0, .ref 35, .int i] [.int y, .int x, .ref 0] (ev_hp I J R T) cz kz = G 241 617 [ez_scr, .ref 0, .ref 35, .int i] [.int (i + 3), ez_scr, .int y, .int x, .ref 0] (ev_hp I J R T) cz kz := by
  intro G
  rfl
theorem llies_r3 {i : Int32} {z : Int32} {y : Int32} {x : Int32} : ∀ G : ez_F, fx_up X 1 G 241 618 [ez_scr, .ref 0, .ref 35, .int i] [.int z, .int y, .int x, .ref 0] (ev_hp I J R T) cz kz = ev_C G 31 [.ref 0, .int x, .int y, .int z] (ev_hp I J R T) fun r h1 c1 k1 => G 241 621 [ez_scr, .ref 0, .ref 35, .int i] (r.toList ++ []) h1 (cz + c1) (kz + k1) := by
  intro G
  rfl
theorem llies_r4 {i : Int32} {v : Int64} : ∀ G : ez_F, fx_up X 6 G 241 621 [ez_scr, .ref 0, .ref 35, .int i] [.long v] (ev_hp I J R T) cz kz = G 241 627 [ez_scr, .ref 0, .ref 35, .int i] [.int (i + 1), ez_scr, .ref 35] (ev_hp I J R T) cz kz := by
  intro G
  rfl
theorem llies_r5 {i : Int32} {x : Int32} : ∀ G : ez_F, fx_up X 4 G 241 628 [ez_scr, .ref 0, .ref 35, .int i] [.int x, .ref 35] (ev_hp I J R T) cz kz = G 241 632 [ez_scr, .ref 0, .ref 35, .int i] [.int (i + 2), ez_scr, .int x, .ref 35] (ev_hp I J R T) cz kz := by
  intro G
  rfl
theorem llies_r6 {i : Int32} {y : Int32} {x : Int32} : ∀ G : ez_F, fx_up X 4 G 241 633 [ez_scr, .ref 0, .ref 35, .int i] [.int y, .int x, .ref 35] (ev_hp I J R T) cz kz = G 241 637 [ez_scr, .ref 0, .ref 35, .int i] [.int (i + 3), ez_scr, .int y, .int x, .ref 35] (ev_hp I J R T) cz kz := by
  intro G
  rfl
theorem llies_r7 {i : Int32} {z : Int32} {y : Int32} {x : Int32} : ∀ G : ez_F, fx_up X 1 G 241 638 [ez_scr, .ref 0, .ref 35, .int i] [.int z, .int y, .int x, .ref 35] (ev_hp I J R T) cz kz = ev_C G 208 [.ref 35, .int x, .int y, .int z] (ev_hp I J R T) fun r h1 c1 k1 => G 241 641 [ez_scr, .ref 0, .ref 35, .int i] (r.toList ++ []) h1 (cz + c1) (kz + k1) := by
  intro G
  rfl
theorem llies_r8 {i : Int32} {u : Int64} : ∀ G : ez_F, fx_up X 4 G 241 641 [ez_scr, .ref 0, .ref 35, .int i] [.long u] (ev_hp I J R T) cz kz = G 241 18 [ez_scr, .ref 0, .ref 35, .int (i + 4)] [] (ev_hp I J R T) cz kz := by
  intro G
  rfl
end
theorem law_lies (X : ez_X) (hL : X.1 ≤ 2048) (i : Int32) (h0 : 0 ≤ i.toInt) (h1 : i.toInt + 4 ≤ X.1) (I : Nat → Nat → Int32) (J : Nat → Nat → Int64) (R : Nat → Nat) (T : List ez_C) (c k : Nat) (hh : cx_hok cx_B0 I R T) (hk : rl4 I J R T) {Q : ev_Q} (next : lw_next X i T c k Q) :
    ev_W X 241 602 [ez_scr, .ref 0, .ref 35, .int i] [] (ev_hp I J R T) c k Q := by
  have hX2 : X.1 < 2 ^ 31 := by omega
  have x1 : ev_ix (i + 1) X.1 := gr_ix (n := 1) h0 h1 hL (by decide)
  have x2 : ev_ix (i + 2) X.1 := gr_ix (n := 2) h0 h1 hL (by decide)
  have x3 : ev_ix (i + 3) X.1 := gr_ix (n := 3) h0 h1 hL (by decide)
  refine ev_seg llies_r0 ?_
  refine ev_sald (by rfl) x1 ?_
  generalize hx : X.2 (i + 1).toNatClampNeg = x
  refine ev_seg llies_r1 ?_
  refine ev_sald (by rfl) x2 ?_
  generalize hy : X.2 (i + 2).toNatClampNeg = y
  refine ev_seg llies_r2 ?_
  refine ev_sald (by rfl) x3 ?_
  generalize hz : X.2 (i + 3).toNatClampNeg = z
  refine ev_call llies_r3 (l4x_lies hX2 hh hk x y z) ?_
  rintro r hr1 c1 k1 ⟨v, I1, J1, R1, T1, rfl, rfl, q1, q2, q3, q4⟩
  refine ev_seg llies_r4 ?_
  refine ev_sald (by rfl) x1 ?_
  rw [hx]
  refine ev_seg llies_r5 ?_
  refine ev_sald (by rfl) x2 ?_
  rw [hy]
  refine ev_seg llies_r6 ?_
  refine ev_sald (by rfl) x3 ?_
  rw [hz]
  refine ev_call llies_r7 (l4m_lies hX2 hh hk x y z q1 q4) ?_
  rintro r hr2 c2 k2 ⟨u, I2, J2, R2, T2, rfl, rfl, p1, p2, p3, p4⟩
  refine ev_seg llies_r8 ?_
  exact next _ I2 J2 R2 T2 _ _ (lw_i4 h0 h1 hL) p1 p4 (by omega) (by omega)
section
variable {X : ez_X} {I : Nat → Nat → Int32} {J : Nat → Nat → Int64} {R : Nat → Nat} {T : List ez_C} {cz kz : Nat}
theorem lleft_r0 {i : Int32} : ∀ G : ez_F, fx_up X 2 G 241 645 [ez_scr, .ref 0, .ref 35, .int i] [] (ev_hp I J R T) cz kz = ev_C G 29 [.ref 0] (ev_hp I J R T) fun r h1 c1 k1 => G 241 649 [ez_scr, .ref 0, .ref 35, .int i] (r.toList ++ []) h1 (cz + c1) (kz + k1) := by
  intro G
  rfl
theorem lleft_r1 {i : Int32} {v : Int32} : ∀ G : ez_F, fx_up X 3 G 241 649 [ez_scr, .ref 0, .ref 35, .int i] [.int v] (ev_hp I J R T) cz kz = ev_C G 207 [.ref 35] (ev_hp I J R T) fun r h1 c1 k1 => G 241 654 [ez_scr, .ref 0, .ref 35, .int i] (r.toList ++ []) h1 (cz + c1) (kz + k1) := by
  intro G
  rfl
theorem lleft_r2 {i : Int32} {u : Int32} : ∀ G : ez_F, fx_up X 4 G 241 654 [ez_scr, .ref 0, .ref 35, .int i] [.int u] (ev_hp I J R T) cz kz = G 241 18 [ez_scr, .ref 0, .ref 35, .int (i + 4)] [] (ev_hp I J R T) cz kz := by
  intro G
  rfl
end
theorem law_left (X : ez_X) (hL : X.1 ≤ 2048) (i : Int32) (h0 : 0 ≤ i.toInt) (h1 : i.toInt + 4 ≤ X.1) (I : Nat → Nat → Int32) (J : Nat → Nat → Int64) (R : Nat → Nat) (T : List ez_C) (c k : Nat) (hh : cx_hok cx_B0 I R T) (hk : rl4 I J R T) {Q : ev_Q} (next : lw_next X i T c k Q) :
    ev_W X 241 645 [ez_scr, .ref 0, .ref 35, .int i] [] (ev_hp I J R T) c k Q := by
  have hX2 : X.1 < 2 ^ 31 := by omega
  refine ev_call lleft_r0 (l4x_left hX2 hh hk) ?_
  rintro r hr1 c1 k1 ⟨v, I1, J1, R1, T1, rfl, rfl, q1, q2, q3, q4⟩
  refine ev_call lleft_r1 (l4m_left hX2 hh hk q1 q4) ?_
  rintro r hr2 c2 k2 ⟨u, I2, J2, R2, T2, rfl, rfl, p1, p2, p3, p4⟩
  refine ev_seg lleft_r2 ?_
  exact next _ I2 J2 R2 T2 _ _ (lw_i4 h0 h1 hL) p1 p4 (by omega) (by omega)
section
variable {X : ez_X} {I : Nat → Nat → Int32} {J : Nat → Nat → Int64} {R : Nat → Nat} {T : List ez_C} {cz kz : Nat}
theorem lwhich_r0 {i : Int32} : ∀ G : ez_F, fx_up X 5 G 241 658 [ez_scr, .ref 0, .ref 35, .int i] [] (ev_hp I J R T) cz kz = G 241 663 [ez_scr, .ref 0, .ref 35, .int i] [.int (i + 1), ez_scr, .ref 0] (ev_hp I J R T) cz kz := by
  intro G
  rfl
theorem lwhich_r1 {i : Int32} {x : Int32} : ∀ G : ez_F, fx_up X 1 G 241 664 [ez_scr, .ref 0, .ref 35, .int i] [.int x, .ref 0] (ev_hp I J R T) cz kz = ev_C G 54 [.ref 0, .int x] (ev_hp I J R T) fun r h1 c1 k1 => G 241 667 [ez_scr, .ref 0, .ref 35, .int i] (r.toList ++ []) h1 (cz + c1) (kz + k1) := by
  intro G
  rfl
theorem lwhich_r2 {i : Int32} {v : Int32} : ∀ G : ez_F, fx_up X 6 G 241 667 [ez_scr, .ref 0, .ref 35, .int i] [.int v] (ev_hp I J R T) cz kz = G 241 673 [ez_scr, .ref 0, .ref 35, .int i] [.int (i + 1), ez_scr, .ref 35] (ev_hp I J R T) cz kz := by
  intro G
  rfl
theorem lwhich_r3 {i : Int32} {x : Int32} : ∀ G : ez_F, fx_up X 1 G 241 674 [ez_scr, .ref 0, .ref 35, .int i] [.int x, .ref 35] (ev_hp I J R T) cz kz = ev_C G 232 [.ref 35, .int x] (ev_hp I J R T) fun r h1 c1 k1 => G 241 677 [ez_scr, .ref 0, .ref 35, .int i] (r.toList ++ []) h1 (cz + c1) (kz + k1) := by
  intro G
  rfl
theorem lwhich_r4 {i : Int32} {u : Int32} : ∀ G : ez_F, fx_up X 4 G 241 677 [ez_scr, .ref 0, .ref 35, .int i] [.int u] (ev_hp I J R T) cz kz = G 241 18 [ez_scr, .ref 0, .ref 35, .int (i + 4)] [] (ev_hp I J R T) cz kz := by
  intro G
  rfl
end
theorem law_which (X : ez_X) (hL : X.1 ≤ 2048) (i : Int32) (h0 : 0 ≤ i.toInt) (h1 : i.toInt + 4 ≤ X.1) (I : Nat → Nat → Int32) (J : Nat → Nat → Int64) (R : Nat → Nat) (T : List ez_C) (c k : Nat) (hh : cx_hok cx_B0 I R T) (hk : rl4 I J R T) {Q : ev_Q} (next : lw_next X i T c k Q) :
    ev_W X 241 658 [ez_scr, .ref 0, .ref 35, .int i] [] (ev_hp I J R T) c k Q := by
  have hX2 : X.1 < 2 ^ 31 := by omega
  have x1 : ev_ix (i + 1) X.1 := gr_ix (n := 1) h0 h1 hL (by decide)
  refine ev_seg lwhich_r0 ?_
  refine ev_sald (by rfl) x1 ?_
  generalize hx : X.2 (i + 1).toNatClampNeg = x
  refine ev_call lwhich_r1 (l4x_which hX2 hh hk x) ?_
  rintro r hr1 c1 k1 ⟨v, I1, J1, R1, T1, rfl, rfl, q1, q2, q3, q4⟩
  refine ev_seg lwhich_r2 ?_
  refine ev_sald (by rfl) x1 ?_
  rw [hx]
  refine ev_call lwhich_r3 (l4m_which hX2 hh hk x q1 q4) ?_
  rintro r hr2 c2 k2 ⟨u, I2, J2, R2, T2, rfl, rfl, p1, p2, p3, p4⟩
  refine ev_seg lwhich_r4 ?_
  exact next _ I2 J2 R2 T2 _ _ (lw_i4 h0 h1 hL) p1 p4 (by omega) (by omega)
section
variable {X : ez_X} {I : Nat → Nat → Int32} {J : Nat → Nat → Int64} {R : Nat → Nat} {T : List ez_C} {cz kz : Nat}
theorem lthere_r0 {i : Int32} : ∀ G : ez_F, fx_up X 5 G 241 681 [ez_scr, .ref 0, .ref 35, .int i] [] (ev_hp I J R T) cz kz = G 241 686 [ez_scr, .ref 0, .ref 35, .int i] [.int (i + 1), ez_scr, .ref 0] (ev_hp I J R T) cz kz := by
  intro G
  rfl
theorem lthere_r1 {i : Int32} {x : Int32} : ∀ G : ez_F, fx_up X 1 G 241 687 [ez_scr, .ref 0, .ref 35, .int i] [.int x, .ref 0] (ev_hp I J R T) cz kz = ev_C G 51 [.ref 0, .int x] (ev_hp I J R T) fun r h1 c1 k1 => G 241 690 [ez_scr, .ref 0, .ref 35, .int i] (r.toList ++ []) h1 (cz + c1) (kz + k1) := by
  intro G
  rfl
theorem lthere_r2 {i : Int32} {v : Int32} : ∀ G : ez_F, fx_up X 6 G 241 690 [ez_scr, .ref 0, .ref 35, .int i] [.int v] (ev_hp I J R T) cz kz = G 241 696 [ez_scr, .ref 0, .ref 35, .int i] [.int (i + 1), ez_scr, .ref 35] (ev_hp I J R T) cz kz := by
  intro G
  rfl
theorem lthere_r3 {i : Int32} {x : Int32} : ∀ G : ez_F, fx_up X 1 G 241 697 [ez_scr, .ref 0, .ref 35, .int i] [.int x, .ref 35] (ev_hp I J R T) cz kz = ev_C G 227 [.ref 35, .int x] (ev_hp I J R T) fun r h1 c1 k1 => G 241 700 [ez_scr, .ref 0, .ref 35, .int i] (r.toList ++ []) h1 (cz + c1) (kz + k1) := by
  intro G
  rfl
theorem lthere_r4 {i : Int32} {u : Int32} : ∀ G : ez_F, fx_up X 4 G 241 700 [ez_scr, .ref 0, .ref 35, .int i] [.int u] (ev_hp I J R T) cz kz = G 241 18 [ez_scr, .ref 0, .ref 35, .int (i + 4)] [] (ev_hp I J R T) cz kz := by
  intro G
  rfl
end
theorem law_there (X : ez_X) (hL : X.1 ≤ 2048) (i : Int32) (h0 : 0 ≤ i.toInt) (h1 : i.toInt + 4 ≤ X.1) (I : Nat → Nat → Int32) (J : Nat → Nat → Int64) (R : Nat → Nat) (T : List ez_C) (c k : Nat) (hh : cx_hok cx_B0 I R T) (hk : rl4 I J R T) {Q : ev_Q} (next : lw_next X i T c k Q) :
    ev_W X 241 681 [ez_scr, .ref 0, .ref 35, .int i] [] (ev_hp I J R T) c k Q := by
  have hX2 : X.1 < 2 ^ 31 := by omega
  have x1 : ev_ix (i + 1) X.1 := gr_ix (n := 1) h0 h1 hL (by decide)
  refine ev_seg lthere_r0 ?_
  refine ev_sald (by rfl) x1 ?_
  generalize hx : X.2 (i + 1).toNatClampNeg = x
  refine ev_call lthere_r1 (l4x_there hX2 hh hk x) ?_
  rintro r hr1 c1 k1 ⟨v, I1, J1, R1, T1, rfl, rfl, q1, q2, q3, q4⟩
  refine ev_seg lthere_r2 ?_
  refine ev_sald (by rfl) x1 ?_
  rw [hx]
  refine ev_call lthere_r3 (l4m_there hX2 hh hk x q1 q4) ?_
  rintro r hr2 c2 k2 ⟨u, I2, J2, R2, T2, rfl, rfl, p1, p2, p3, p4⟩
  refine ev_seg lthere_r4 ?_
  exact next _ I2 J2 R2 T2 _ _ (lw_i4 h0 h1 hL) p1 p4 (by omega) (by omega)
section
variable {X : ez_X} {I : Nat → Nat → Int32} {J : Nat → Nat → Int64} {R : Nat → Nat} {T : List ez_C} {cz kz : Nat}
theorem lsure_r0 {i : Int32} : ∀ G : ez_F, fx_up X 5 G 241 704 [ez_scr, .ref 0, .ref 35, .int i] [] (ev_hp I J R T) cz kz = G 241 709 [ez_scr, .ref 0, .ref 35, .int i] [.int (i + 1), ez_scr, .ref 0] (ev_hp I J R T) cz kz := by
  intro G
  rfl
theorem lsure_r1 {i : Int32} {x : Int32} : ∀ G : ez_F, fx_up X 1 G 241 710 [ez_scr, .ref 0, .ref 35, .int i] [.int x, .ref 0] (ev_hp I J R T) cz kz = ev_C G 48 [.ref 0, .int x] (ev_hp I J R T) fun r h1 c1 k1 => G 241 713 [ez_scr, .ref 0, .ref 35, .int i] (r.toList ++ []) h1 (cz + c1) (kz + k1) := by
  intro G
  rfl
theorem lsure_r2 {i : Int32} {v : Int64} : ∀ G : ez_F, fx_up X 6 G 241 713 [ez_scr, .ref 0, .ref 35, .int i] [.long v] (ev_hp I J R T) cz kz = G 241 719 [ez_scr, .ref 0, .ref 35, .int i] [.int (i + 1), ez_scr, .ref 35] (ev_hp I J R T) cz kz := by
  intro G
  rfl
theorem lsure_r3 {i : Int32} {x : Int32} : ∀ G : ez_F, fx_up X 1 G 241 720 [ez_scr, .ref 0, .ref 35, .int i] [.int x, .ref 35] (ev_hp I J R T) cz kz = ev_C G 225 [.ref 35, .int x] (ev_hp I J R T) fun r h1 c1 k1 => G 241 723 [ez_scr, .ref 0, .ref 35, .int i] (r.toList ++ []) h1 (cz + c1) (kz + k1) := by
  intro G
  rfl
theorem lsure_r4 {i : Int32} {u : Int64} : ∀ G : ez_F, fx_up X 4 G 241 723 [ez_scr, .ref 0, .ref 35, .int i] [.long u] (ev_hp I J R T) cz kz = G 241 18 [ez_scr, .ref 0, .ref 35, .int (i + 4)] [] (ev_hp I J R T) cz kz := by
  intro G
  rfl
end
theorem law_sure (X : ez_X) (hL : X.1 ≤ 2048) (i : Int32) (h0 : 0 ≤ i.toInt) (h1 : i.toInt + 4 ≤ X.1) (I : Nat → Nat → Int32) (J : Nat → Nat → Int64) (R : Nat → Nat) (T : List ez_C) (c k : Nat) (hh : cx_hok cx_B0 I R T) (hk : rl4 I J R T) {Q : ev_Q} (next : lw_next X i T c k Q) :
    ev_W X 241 704 [ez_scr, .ref 0, .ref 35, .int i] [] (ev_hp I J R T) c k Q := by
  have hX2 : X.1 < 2 ^ 31 := by omega
  have x1 : ev_ix (i + 1) X.1 := gr_ix (n := 1) h0 h1 hL (by decide)
  refine ev_seg lsure_r0 ?_
  refine ev_sald (by rfl) x1 ?_
  generalize hx : X.2 (i + 1).toNatClampNeg = x
  refine ev_call lsure_r1 (l4x_sure hX2 hh hk x) ?_
  rintro r hr1 c1 k1 ⟨v, I1, J1, R1, T1, rfl, rfl, q1, q2, q3, q4⟩
  refine ev_seg lsure_r2 ?_
  refine ev_sald (by rfl) x1 ?_
  rw [hx]
  refine ev_call lsure_r3 (l4m_sure hX2 hh hk x q1 q4) ?_
  rintro r hr2 c2 k2 ⟨u, I2, J2, R2, T2, rfl, rfl, p1, p2, p3, p4⟩
  refine ev_seg lsure_r4 ?_
  exact next _ I2 J2 R2 T2 _ _ (lw_i4 h0 h1 hL) p1 p4 (by omega) (by omega)
section
variable {X : ez_X} {I : Nat → Nat → Int32} {J : Nat → Nat → Int64} {R : Nat → Nat} {T : List ez_C} {cz kz : Nat}
theorem lpart_r0 {i : Int32} : ∀ G : ez_F, fx_up X 5 G 241 727 [ez_scr, .ref 0, .ref 35, .int i] [] (ev_hp I J R T) cz kz = G 241 732 [ez_scr, .ref 0, .ref 35, .int i] [.int (i + 1), ez_scr, .ref 0] (ev_hp I J R T) cz kz := by
  intro G
  rfl
theorem lpart_r1 {i : Int32} {x : Int32} : ∀ G : ez_F, fx_up X 4 G 241 733 [ez_scr, .ref 0, .ref 35, .int i] [.int x, .ref 0] (ev_hp I J R T) cz kz = G 241 737 [ez_scr, .ref 0, .ref 35, .int i] [.int (i + 2), ez_scr, .int x, .ref 0] (ev_hp I J R T) cz kz := by
  intro G
  rfl
theorem lpart_r2 {i : Int32} {y : Int32} {x : Int32} : ∀ G : ez_F, fx_up X 1 G 241 738 [ez_scr, .ref 0, .ref 35, .int i] [.int y, .int x, .ref 0] (ev_hp I J R T) cz kz = ev_C G 37 [.ref 0, .int x, .int y] (ev_hp I J R T) fun r h1 c1 k1 => G 241 741 [ez_scr, .ref 0, .ref 35, .int i] (r.toList ++ []) h1 (cz + c1) (kz + k1) := by
  intro G
  rfl
theorem lpart_r3 {i : Int32} {v : Int32} : ∀ G : ez_F, fx_up X 6 G 241 741 [ez_scr, .ref 0, .ref 35, .int i] [.int v] (ev_hp I J R T) cz kz = G 241 747 [ez_scr, .ref 0, .ref 35, .int i] [.int (i + 1), ez_scr, .ref 35] (ev_hp I J R T) cz kz := by
  intro G
  rfl
theorem lpart_r4 {i : Int32} {x : Int32} : ∀ G : ez_F, fx_up X 4 G 241 748 [ez_scr, .ref 0, .ref 35, .int i] [.int x, .ref 35] (ev_hp I J R T) cz kz = G 241 752 [ez_scr, .ref 0, .ref 35, .int i] [.int (i + 2), ez_scr, .int x, .ref 35] (ev_hp I J R T) cz kz := by
  intro G
  rfl
theorem lpart_r5 {i : Int32} {y : Int32} {x : Int32} : ∀ G : ez_F, fx_up X 1 G 241 753 [ez_scr, .ref 0, .ref 35, .int i] [.int y, .int x, .ref 35] (ev_hp I J R T) cz kz = ev_C G 214 [.ref 35, .int x, .int y] (ev_hp I J R T) fun r h1 c1 k1 => G 241 756 [ez_scr, .ref 0, .ref 35, .int i] (r.toList ++ []) h1 (cz + c1) (kz + k1) := by
  intro G
  rfl
theorem lpart_r6 {i : Int32} {u : Int32} : ∀ G : ez_F, fx_up X 4 G 241 756 [ez_scr, .ref 0, .ref 35, .int i] [.int u] (ev_hp I J R T) cz kz = G 241 18 [ez_scr, .ref 0, .ref 35, .int (i + 4)] [] (ev_hp I J R T) cz kz := by
  intro G
  rfl
end
theorem law_part (X : ez_X) (hL : X.1 ≤ 2048) (i : Int32) (h0 : 0 ≤ i.toInt) (h1 : i.toInt + 4 ≤ X.1) (I : Nat → Nat → Int32) (J : Nat → Nat → Int64) (R : Nat → Nat) (T : List ez_C) (c k : Nat) (hh : cx_hok cx_B0 I R T) (hk : rl4 I J R T) {Q : ev_Q} (next : lw_next X i T c k Q) :
    ev_W X 241 727 [ez_scr, .ref 0, .ref 35, .int i] [] (ev_hp I J R T) c k Q := by
  have hX2 : X.1 < 2 ^ 31 := by omega
  have x1 : ev_ix (i + 1) X.1 := gr_ix (n := 1) h0 h1 hL (by decide)
  have x2 : ev_ix (i + 2) X.1 := gr_ix (n := 2) h0 h1 hL (by decide)
  refine ev_seg lpart_r0 ?_
  refine ev_sald (by rfl) x1 ?_
  generalize hx : X.2 (i + 1).toNatClampNeg = x
  refine ev_seg lpart_r1 ?_
  refine ev_sald (by rfl) x2 ?_
  generalize hy : X.2 (i + 2).toNatClampNeg = y
  refine ev_call lpart_r2 (l4x_part hX2 hh hk x y) ?_
  rintro r hr1 c1 k1 ⟨v, I1, J1, R1, T1, rfl, rfl, q1, q2, q3, q4⟩
  refine ev_seg lpart_r3 ?_
  refine ev_sald (by rfl) x1 ?_
  rw [hx]
  refine ev_seg lpart_r4 ?_
  refine ev_sald (by rfl) x2 ?_
  rw [hy]
  refine ev_call lpart_r5 (l4m_part hX2 hh hk x y q1 q4) ?_
  rintro r hr2 c2 k2 ⟨u, I2, J2, R2, T2, rfl, rfl, p1, p2, p3, p4⟩
  refine ev_seg lpart_r6 ?_
  exact next _ I2 J2 R2 T2 _ _ (lw_i4 h0 h1 hL) p1 p4 (by omega) (by omega)
section
variable {X : ez_X} {I : Nat → Nat → Int32} {J : Nat → Nat → Int64} {R : Nat → Nat} {T : List ez_C} {cz kz : Nat}
theorem lbest_r0 {i : Int32} : ∀ G : ez_F, fx_up X 5 G 241 760 [ez_scr, .ref 0, .ref 35, .int i] [] (ev_hp I J R T) cz kz = G 241 765 [ez_scr, .ref 0, .ref 35, .int i] [.int (i + 1), ez_scr, .ref 0] (ev_hp I J R T) cz kz := by
  intro G
  rfl
theorem lbest_r1 {i : Int32} {x : Int32} : ∀ G : ez_F, fx_up X 1 G 241 766 [ez_scr, .ref 0, .ref 35, .int i] [.int x, .ref 0] (ev_hp I J R T) cz kz = ev_C G 6 [.ref 0, .int x] (ev_hp I J R T) fun r h1 c1 k1 => G 241 769 [ez_scr, .ref 0, .ref 35, .int i] (r.toList ++ []) h1 (cz + c1) (kz + k1) := by
  intro G
  rfl
theorem lbest_r2 {i : Int32} {v : Int32} : ∀ G : ez_F, fx_up X 6 G 241 769 [ez_scr, .ref 0, .ref 35, .int i] [.int v] (ev_hp I J R T) cz kz = G 241 775 [ez_scr, .ref 0, .ref 35, .int i] [.int (i + 1), ez_scr, .ref 35] (ev_hp I J R T) cz kz := by
  intro G
  rfl
theorem lbest_r3 {i : Int32} {x : Int32} : ∀ G : ez_F, fx_up X 1 G 241 776 [ez_scr, .ref 0, .ref 35, .int i] [.int x, .ref 35] (ev_hp I J R T) cz kz = ev_C G 169 [.ref 35, .int x] (ev_hp I J R T) fun r h1 c1 k1 => G 241 779 [ez_scr, .ref 0, .ref 35, .int i] (r.toList ++ []) h1 (cz + c1) (kz + k1) := by
  intro G
  rfl
theorem lbest_r4 {i : Int32} {u : Int32} : ∀ G : ez_F, fx_up X 4 G 241 779 [ez_scr, .ref 0, .ref 35, .int i] [.int u] (ev_hp I J R T) cz kz = G 241 18 [ez_scr, .ref 0, .ref 35, .int (i + 4)] [] (ev_hp I J R T) cz kz := by
  intro G
  rfl
end
theorem law_best (X : ez_X) (hL : X.1 ≤ 2048) (i : Int32) (h0 : 0 ≤ i.toInt) (h1 : i.toInt + 4 ≤ X.1) (I : Nat → Nat → Int32) (J : Nat → Nat → Int64) (R : Nat → Nat) (T : List ez_C) (c k : Nat) (hh : cx_hok cx_B0 I R T) (hk : rl4 I J R T) {Q : ev_Q} (next : lw_next X i T c k Q) :
    ev_W X 241 760 [ez_scr, .ref 0, .ref 35, .int i] [] (ev_hp I J R T) c k Q := by
  have hX2 : X.1 < 2 ^ 31 := by omega
  have x1 : ev_ix (i + 1) X.1 := gr_ix (n := 1) h0 h1 hL (by decide)
  refine ev_seg lbest_r0 ?_
  refine ev_sald (by rfl) x1 ?_
  generalize hx : X.2 (i + 1).toNatClampNeg = x
  refine ev_call lbest_r1 (l4x_best hX2 hh hk x) ?_
  rintro r hr1 c1 k1 ⟨v, I1, J1, R1, T1, rfl, rfl, q1, q2, q3, q4⟩
  refine ev_seg lbest_r2 ?_
  refine ev_sald (by rfl) x1 ?_
  rw [hx]
  refine ev_call lbest_r3 (l4m_best hX2 hh hk x q1 q4) ?_
  rintro r hr2 c2 k2 ⟨u, I2, J2, R2, T2, rfl, rfl, p1, p2, p3, p4⟩
  refine ev_seg lbest_r4 ?_
  exact next _ I2 J2 R2 T2 _ _ (lw_i4 h0 h1 hL) p1 p4 (by omega) (by omega)
section
variable {X : ez_X} {I : Nat → Nat → Int32} {J : Nat → Nat → Int64} {R : Nat → Nat} {T : List ez_C} {cz kz : Nat}
theorem lbestSalvo_r0 {i : Int32} : ∀ G : ez_F, fx_up X 5 G 241 783 [ez_scr, .ref 0, .ref 35, .int i] [] (ev_hp I J R T) cz kz = G 241 788 [ez_scr, .ref 0, .ref 35, .int i] [.int (i + 1), ez_scr, .ref 0] (ev_hp I J R T) cz kz := by
  intro G
  rfl
theorem lbestSalvo_r1 {i : Int32} {x : Int32} : ∀ G : ez_F, fx_up X 1 G 241 789 [ez_scr, .ref 0, .ref 35, .int i] [.int x, .ref 0] (ev_hp I J R T) cz kz = ev_C G 7 [.ref 0, .int x] (ev_hp I J R T) fun r h1 c1 k1 => G 241 792 [ez_scr, .ref 0, .ref 35, .int i] (r.toList ++ []) h1 (cz + c1) (kz + k1) := by
  intro G
  rfl
theorem lbestSalvo_r2 {i : Int32} {v : Int32} : ∀ G : ez_F, fx_up X 6 G 241 792 [ez_scr, .ref 0, .ref 35, .int i] [.int v] (ev_hp I J R T) cz kz = G 241 798 [ez_scr, .ref 0, .ref 35, .int i] [.int (i + 1), ez_scr, .ref 35] (ev_hp I J R T) cz kz := by
  intro G
  rfl
theorem lbestSalvo_r3 {i : Int32} {x : Int32} : ∀ G : ez_F, fx_up X 1 G 241 799 [ez_scr, .ref 0, .ref 35, .int i] [.int x, .ref 35] (ev_hp I J R T) cz kz = ev_C G 170 [.ref 35, .int x] (ev_hp I J R T) fun r h1 c1 k1 => G 241 802 [ez_scr, .ref 0, .ref 35, .int i] (r.toList ++ []) h1 (cz + c1) (kz + k1) := by
  intro G
  rfl
theorem lbestSalvo_r4 {i : Int32} {u : Int32} : ∀ G : ez_F, fx_up X 4 G 241 802 [ez_scr, .ref 0, .ref 35, .int i] [.int u] (ev_hp I J R T) cz kz = G 241 18 [ez_scr, .ref 0, .ref 35, .int (i + 4)] [] (ev_hp I J R T) cz kz := by
  intro G
  rfl
end
theorem law_bestSalvo (X : ez_X) (hL : X.1 ≤ 2048) (i : Int32) (h0 : 0 ≤ i.toInt) (h1 : i.toInt + 4 ≤ X.1) (I : Nat → Nat → Int32) (J : Nat → Nat → Int64) (R : Nat → Nat) (T : List ez_C) (c k : Nat) (hh : cx_hok cx_B0 I R T) (hk : rl4 I J R T) {Q : ev_Q} (next : lw_next X i T c k Q) :
    ev_W X 241 783 [ez_scr, .ref 0, .ref 35, .int i] [] (ev_hp I J R T) c k Q := by
  have hX2 : X.1 < 2 ^ 31 := by omega
  have x1 : ev_ix (i + 1) X.1 := gr_ix (n := 1) h0 h1 hL (by decide)
  refine ev_seg lbestSalvo_r0 ?_
  refine ev_sald (by rfl) x1 ?_
  generalize hx : X.2 (i + 1).toNatClampNeg = x
  refine ev_call lbestSalvo_r1 (l4x_bestSalvo hX2 hh hk x) ?_
  rintro r hr1 c1 k1 ⟨v, I1, J1, R1, T1, rfl, rfl, q1, q2, q3, q4⟩
  refine ev_seg lbestSalvo_r2 ?_
  refine ev_sald (by rfl) x1 ?_
  rw [hx]
  refine ev_call lbestSalvo_r3 (l4m_bestSalvo hX2 hh hk x q1 q4) ?_
  rintro r hr2 c2 k2 ⟨u, I2, J2, R2, T2, rfl, rfl, p1, p2, p3, p4⟩
  refine ev_seg lbestSalvo_r4 ?_
  exact next _ I2 J2 R2 T2 _ _ (lw_i4 h0 h1 hL) p1 p4 (by omega) (by omega)
section
variable {X : ez_X} {I : Nat → Nat → Int32} {J : Nat → Nat → Int64} {R : Nat → Nat} {T : List ez_C} {cz kz : Nat}
theorem lneed_r0 {i : Int32} : ∀ G : ez_F, fx_up X 5 G 241 806 [ez_scr, .ref 0, .ref 35, .int i] [] (ev_hp I J R T) cz kz = G 241 811 [ez_scr, .ref 0, .ref 35, .int i] [.int (i + 1), ez_scr, .ref 0] (ev_hp I J R T) cz kz := by
  intro G
  rfl
theorem lneed_r1 {i : Int32} {x : Int32} : ∀ G : ez_F, fx_up X 1 G 241 812 [ez_scr, .ref 0, .ref 35, .int i] [.int x, .ref 0] (ev_hp I J R T) cz kz = ev_C G 34 [.ref 0, .int x] (ev_hp I J R T) fun r h1 c1 k1 => G 241 815 [ez_scr, .ref 0, .ref 35, .int i] (r.toList ++ []) h1 (cz + c1) (kz + k1) := by
  intro G
  rfl
theorem lneed_r2 {i : Int32} {v : Int32} : ∀ G : ez_F, fx_up X 6 G 241 815 [ez_scr, .ref 0, .ref 35, .int i] [.int v] (ev_hp I J R T) cz kz = G 241 821 [ez_scr, .ref 0, .ref 35, .int i] [.int (i + 1), ez_scr, .ref 35] (ev_hp I J R T) cz kz := by
  intro G
  rfl
theorem lneed_r3 {i : Int32} {x : Int32} : ∀ G : ez_F, fx_up X 1 G 241 822 [ez_scr, .ref 0, .ref 35, .int i] [.int x, .ref 35] (ev_hp I J R T) cz kz = ev_C G 212 [.ref 35, .int x] (ev_hp I J R T) fun r h1 c1 k1 => G 241 825 [ez_scr, .ref 0, .ref 35, .int i] (r.toList ++ []) h1 (cz + c1) (kz + k1) := by
  intro G
  rfl
theorem lneed_r4 {i : Int32} {u : Int32} : ∀ G : ez_F, fx_up X 4 G 241 825 [ez_scr, .ref 0, .ref 35, .int i] [.int u] (ev_hp I J R T) cz kz = G 241 18 [ez_scr, .ref 0, .ref 35, .int (i + 4)] [] (ev_hp I J R T) cz kz := by
  intro G
  rfl
end
theorem law_need (X : ez_X) (hL : X.1 ≤ 2048) (i : Int32) (h0 : 0 ≤ i.toInt) (h1 : i.toInt + 4 ≤ X.1) (I : Nat → Nat → Int32) (J : Nat → Nat → Int64) (R : Nat → Nat) (T : List ez_C) (c k : Nat) (hh : cx_hok cx_B0 I R T) (hk : rl4 I J R T) {Q : ev_Q} (next : lw_next X i T c k Q) :
    ev_W X 241 806 [ez_scr, .ref 0, .ref 35, .int i] [] (ev_hp I J R T) c k Q := by
  have hX2 : X.1 < 2 ^ 31 := by omega
  have x1 : ev_ix (i + 1) X.1 := gr_ix (n := 1) h0 h1 hL (by decide)
  refine ev_seg lneed_r0 ?_
  refine ev_sald (by rfl) x1 ?_
  generalize hx : X.2 (i + 1).toNatClampNeg = x
  refine ev_call lneed_r1 (l4x_need hX2 hh hk x) ?_
  rintro r hr1 c1 k1 ⟨v, I1, J1, R1, T1, rfl, rfl, q1, q2, q3, q4⟩
  refine ev_seg lneed_r2 ?_
  refine ev_sald (by rfl) x1 ?_
  rw [hx]
  refine ev_call lneed_r3 (l4m_need hX2 hh hk x q1 q4) ?_
  rintro r hr2 c2 k2 ⟨u, I2, J2, R2, T2, rfl, rfl, p1, p2, p3, p4⟩
  refine ev_seg lneed_r4 ?_
  exact next _ I2 J2 R2 T2 _ _ (lw_i4 h0 h1 hL) p1 p4 (by omega) (by omega)
section
variable {X : ez_X} {I : Nat → Nat → Int32} {J : Nat → Nat → Int64} {R : Nat → Nat} {T : List ez_C} {cz kz : Nat}
theorem lcalls_r0 {i : Int32} : ∀ G : ez_F, fx_up X 5 G 241 829 [ez_scr, .ref 0, .ref 35, .int i] [] (ev_hp I J R T) cz kz = G 241 834 [ez_scr, .ref 0, .ref 35, .int i] [.int (i + 1), ez_scr, .ref 0] (ev_hp I J R T) cz kz := by
  intro G
  rfl
theorem lcalls_r1 {i : Int32} {x : Int32} : ∀ G : ez_F, fx_up X 4 G 241 835 [ez_scr, .ref 0, .ref 35, .int i] [.int x, .ref 0] (ev_hp I J R T) cz kz = G 241 839 [ez_scr, .ref 0, .ref 35, .int i] [.int (i + 2), ez_scr, .int x, .ref 0] (ev_hp I J R T) cz kz := by
  intro G
  rfl
theorem lcalls_r2 {i : Int32} {y : Int32} {x : Int32} : ∀ G : ez_F, fx_up X 1 G 241 840 [ez_scr, .ref 0, .ref 35, .int i] [.int y, .int x, .ref 0] (ev_hp I J R T) cz kz = ev_C G 11 [.ref 0, .int x, .int y] (ev_hp I J R T) fun r h1 c1 k1 => G 241 843 [ez_scr, .ref 0, .ref 35, .int i] (r.toList ++ []) h1 (cz + c1) (kz + k1) := by
  intro G
  rfl
theorem lcalls_r3 {i : Int32} {v : Int32} : ∀ G : ez_F, fx_up X 6 G 241 843 [ez_scr, .ref 0, .ref 35, .int i] [.int v] (ev_hp I J R T) cz kz = G 241 849 [ez_scr, .ref 0, .ref 35, .int i] [.int (i + 1), ez_scr, .ref 35] (ev_hp I J R T) cz kz := by
  intro G
  rfl
theorem lcalls_r4 {i : Int32} {x : Int32} : ∀ G : ez_F, fx_up X 4 G 241 850 [ez_scr, .ref 0, .ref 35, .int i] [.int x, .ref 35] (ev_hp I J R T) cz kz = G 241 854 [ez_scr, .ref 0, .ref 35, .int i] [.int (i + 2), ez_scr, .int x, .ref 35] (ev_hp I J R T) cz kz := by
  intro G
  rfl
theorem lcalls_r5 {i : Int32} {y : Int32} {x : Int32} : ∀ G : ez_F, fx_up X 1 G 241 855 [ez_scr, .ref 0, .ref 35, .int i] [.int y, .int x, .ref 35] (ev_hp I J R T) cz kz = ev_C G 178 [.ref 35, .int x, .int y] (ev_hp I J R T) fun r h1 c1 k1 => G 241 858 [ez_scr, .ref 0, .ref 35, .int i] (r.toList ++ []) h1 (cz + c1) (kz + k1) := by
  intro G
  rfl
theorem lcalls_r6 {i : Int32} {u : Int32} : ∀ G : ez_F, fx_up X 4 G 241 858 [ez_scr, .ref 0, .ref 35, .int i] [.int u] (ev_hp I J R T) cz kz = G 241 18 [ez_scr, .ref 0, .ref 35, .int (i + 4)] [] (ev_hp I J R T) cz kz := by
  intro G
  rfl
end
theorem law_calls (X : ez_X) (hL : X.1 ≤ 2048) (i : Int32) (h0 : 0 ≤ i.toInt) (h1 : i.toInt + 4 ≤ X.1) (I : Nat → Nat → Int32) (J : Nat → Nat → Int64) (R : Nat → Nat) (T : List ez_C) (c k : Nat) (hh : cx_hok cx_B0 I R T) (hk : rl4 I J R T) {Q : ev_Q} (next : lw_next X i T c k Q) :
    ev_W X 241 829 [ez_scr, .ref 0, .ref 35, .int i] [] (ev_hp I J R T) c k Q := by
  have hX2 : X.1 < 2 ^ 31 := by omega
  have x1 : ev_ix (i + 1) X.1 := gr_ix (n := 1) h0 h1 hL (by decide)
  have x2 : ev_ix (i + 2) X.1 := gr_ix (n := 2) h0 h1 hL (by decide)
  refine ev_seg lcalls_r0 ?_
  refine ev_sald (by rfl) x1 ?_
  generalize hx : X.2 (i + 1).toNatClampNeg = x
  refine ev_seg lcalls_r1 ?_
  refine ev_sald (by rfl) x2 ?_
  generalize hy : X.2 (i + 2).toNatClampNeg = y
  refine ev_call lcalls_r2 (l4x_calls hX2 hh hk x y) ?_
  rintro r hr1 c1 k1 ⟨v, I1, J1, R1, T1, rfl, rfl, q1, q2, q3, q4⟩
  refine ev_seg lcalls_r3 ?_
  refine ev_sald (by rfl) x1 ?_
  rw [hx]
  refine ev_seg lcalls_r4 ?_
  refine ev_sald (by rfl) x2 ?_
  rw [hy]
  refine ev_call lcalls_r5 (l4m_calls hX2 hh hk x y q1 q4) ?_
  rintro r hr2 c2 k2 ⟨u, I2, J2, R2, T2, rfl, rfl, p1, p2, p3, p4⟩
  refine ev_seg lcalls_r6 ?_
  exact next _ I2 J2 R2 T2 _ _ (lw_i4 h0 h1 hL) p1 p4 (by omega) (by omega)
section
variable {X : ez_X} {I : Nat → Nat → Int32} {J : Nat → Nat → Int64} {R : Nat → Nat} {T : List ez_C} {cz kz : Nat}
theorem lhardest_r0 {i : Int32} : ∀ G : ez_F, fx_up X 5 G 241 862 [ez_scr, .ref 0, .ref 35, .int i] [] (ev_hp I J R T) cz kz = G 241 867 [ez_scr, .ref 0, .ref 35, .int i] [.int (i + 1), ez_scr, .ref 0] (ev_hp I J R T) cz kz := by
  intro G
  rfl
theorem lhardest_r1 {i : Int32} {x : Int32} : ∀ G : ez_F, fx_up X 1 G 241 868 [ez_scr, .ref 0, .ref 35, .int i] [.int x, .ref 0] (ev_hp I J R T) cz kz = ev_C G 20 [.ref 0, .int x] (ev_hp I J R T) fun r h1 c1 k1 => G 241 871 [ez_scr, .ref 0, .ref 35, .int i] (r.toList ++ []) h1 (cz + c1) (kz + k1) := by
  intro G
  rfl
theorem lhardest_r2 {i : Int32} {v : Int32} : ∀ G : ez_F, fx_up X 6 G 241 871 [ez_scr, .ref 0, .ref 35, .int i] [.int v] (ev_hp I J R T) cz kz = G 241 877 [ez_scr, .ref 0, .ref 35, .int i] [.int (i + 1), ez_scr, .ref 35] (ev_hp I J R T) cz kz := by
  intro G
  rfl
theorem lhardest_r3 {i : Int32} {x : Int32} : ∀ G : ez_F, fx_up X 1 G 241 878 [ez_scr, .ref 0, .ref 35, .int i] [.int x, .ref 35] (ev_hp I J R T) cz kz = ev_C G 196 [.ref 35, .int x] (ev_hp I J R T) fun r h1 c1 k1 => G 241 881 [ez_scr, .ref 0, .ref 35, .int i] (r.toList ++ []) h1 (cz + c1) (kz + k1) := by
  intro G
  rfl
theorem lhardest_r4 {i : Int32} {u : Int32} : ∀ G : ez_F, fx_up X 4 G 241 881 [ez_scr, .ref 0, .ref 35, .int i] [.int u] (ev_hp I J R T) cz kz = G 241 18 [ez_scr, .ref 0, .ref 35, .int (i + 4)] [] (ev_hp I J R T) cz kz := by
  intro G
  rfl
end
theorem law_hardest (X : ez_X) (hL : X.1 ≤ 2048) (i : Int32) (h0 : 0 ≤ i.toInt) (h1 : i.toInt + 4 ≤ X.1) (I : Nat → Nat → Int32) (J : Nat → Nat → Int64) (R : Nat → Nat) (T : List ez_C) (c k : Nat) (hh : cx_hok cx_B0 I R T) (hk : rl4 I J R T) {Q : ev_Q} (next : lw_next X i T c k Q) :
    ev_W X 241 862 [ez_scr, .ref 0, .ref 35, .int i] [] (ev_hp I J R T) c k Q := by
  have hX2 : X.1 < 2 ^ 31 := by omega
  have x1 : ev_ix (i + 1) X.1 := gr_ix (n := 1) h0 h1 hL (by decide)
  refine ev_seg lhardest_r0 ?_
  refine ev_sald (by rfl) x1 ?_
  generalize hx : X.2 (i + 1).toNatClampNeg = x
  refine ev_call lhardest_r1 (l4x_hardest hX2 hh hk x) ?_
  rintro r hr1 c1 k1 ⟨v, I1, J1, R1, T1, rfl, rfl, q1, q2, q3, q4⟩
  refine ev_seg lhardest_r2 ?_
  refine ev_sald (by rfl) x1 ?_
  rw [hx]
  refine ev_call lhardest_r3 (l4m_hardest hX2 hh hk x q1 q4) ?_
  rintro r hr2 c2 k2 ⟨u, I2, J2, R2, T2, rfl, rfl, p1, p2, p3, p4⟩
  refine ev_seg lhardest_r4 ?_
  exact next _ I2 J2 R2 T2 _ _ (lw_i4 h0 h1 hL) p1 p4 (by omega) (by omega)
section
variable {X : ez_X} {I : Nat → Nat → Int32} {J : Nat → Nat → Int64} {R : Nat → Nat} {T : List ez_C} {cz kz : Nat}
theorem lstray_r0 {i : Int32} : ∀ G : ez_F, fx_up X 2 G 241 885 [ez_scr, .ref 0, .ref 35, .int i] [] (ev_hp I J R T) cz kz = ev_C G 47 [.ref 0] (ev_hp I J R T) fun r h1 c1 k1 => G 241 889 [ez_scr, .ref 0, .ref 35, .int i] (r.toList ++ []) h1 (cz + c1) (kz + k1) := by
  intro G
  rfl
theorem lstray_r1 {i : Int32} {v : Int32} : ∀ G : ez_F, fx_up X 3 G 241 889 [ez_scr, .ref 0, .ref 35, .int i] [.int v] (ev_hp I J R T) cz kz = ev_C G 224 [.ref 35] (ev_hp I J R T) fun r h1 c1 k1 => G 241 894 [ez_scr, .ref 0, .ref 35, .int i] (r.toList ++ []) h1 (cz + c1) (kz + k1) := by
  intro G
  rfl
theorem lstray_r2 {i : Int32} {u : Int32} : ∀ G : ez_F, fx_up X 4 G 241 894 [ez_scr, .ref 0, .ref 35, .int i] [.int u] (ev_hp I J R T) cz kz = G 241 18 [ez_scr, .ref 0, .ref 35, .int (i + 4)] [] (ev_hp I J R T) cz kz := by
  intro G
  rfl
end
theorem law_stray (X : ez_X) (hL : X.1 ≤ 2048) (i : Int32) (h0 : 0 ≤ i.toInt) (h1 : i.toInt + 4 ≤ X.1) (I : Nat → Nat → Int32) (J : Nat → Nat → Int64) (R : Nat → Nat) (T : List ez_C) (c k : Nat) (hh : cx_hok cx_B0 I R T) (hk : rl4 I J R T) {Q : ev_Q} (next : lw_next X i T c k Q) :
    ev_W X 241 885 [ez_scr, .ref 0, .ref 35, .int i] [] (ev_hp I J R T) c k Q := by
  have hX2 : X.1 < 2 ^ 31 := by omega
  refine ev_call lstray_r0 (l4x_stray hX2 hh hk) ?_
  rintro r hr1 c1 k1 ⟨v, I1, J1, R1, T1, rfl, rfl, q1, q2, q3, q4⟩
  refine ev_call lstray_r1 (l4m_stray hX2 hh hk q1 q4) ?_
  rintro r hr2 c2 k2 ⟨u, I2, J2, R2, T2, rfl, rfl, p1, p2, p3, p4⟩
  refine ev_seg lstray_r2 ?_
  exact next _ I2 J2 R2 T2 _ _ (lw_i4 h0 h1 hL) p1 p4 (by omega) (by omega)
section
variable {X : ez_X} {I : Nat → Nat → Int32} {J : Nat → Nat → Int64} {R : Nat → Nat} {T : List ez_C} {cz kz : Nat}
theorem lblame_r0 {i : Int32} : ∀ G : ez_F, fx_up X 2 G 241 898 [ez_scr, .ref 0, .ref 35, .int i] [] (ev_hp I J R T) cz kz = ev_C G 8 [.ref 0] (ev_hp I J R T) fun r h1 c1 k1 => G 241 902 [ez_scr, .ref 0, .ref 35, .int i] (r.toList ++ []) h1 (cz + c1) (kz + k1) := by
  intro G
  rfl
theorem lblame_r1 {i : Int32} {v : Int32} : ∀ G : ez_F, fx_up X 2 G 241 902 [ez_scr, .ref 0, .ref 35, .int i] [.int v] (ev_hp I J R T) cz kz = ev_C G 172 [.ref 35] (ev_hp I J R T) fun r h1 c1 k1 => G 241 906 [ez_scr, .ref 0, .ref 35, .int i] (r.toList ++ [.int v]) h1 (cz + c1) (kz + k1) := by
  intro G
  rfl
theorem lblame_r2 {i : Int32} {u : Int32} {v : Int32} : ∀ G : ez_F, fx_up X 1 G 241 906 [ez_scr, .ref 0, .ref 35, .int i] [.int u, .int v] (ev_hp I J R T) cz kz = bif decide (v = u) then G 241 1072 [ez_scr, .ref 0, .ref 35, .int i] [] (ev_hp I J R T) cz kz else G 241 909 [ez_scr, .ref 0, .ref 35, .int i] [] (ev_hp I J R T) cz kz := by
  intro G
  rfl
theorem lblame_r3 {i : Int32} : ∀ G : ez_F, fx_up X 2 G 241 1072 [ez_scr, .ref 0, .ref 35, .int i] [] (ev_hp I J R T) cz kz = G 241 18 [ez_scr, .ref 0, .ref 35, .int (i + 4)] [] (ev_hp I J R T) cz kz := by
  intro G
  rfl
end
theorem law_blame (X : ez_X) (hL : X.1 ≤ 2048) (i : Int32) (h0 : 0 ≤ i.toInt) (h1 : i.toInt + 4 ≤ X.1) (I : Nat → Nat → Int32) (J : Nat → Nat → Int64) (R : Nat → Nat) (T : List ez_C) (c k : Nat) (hh : cx_hok cx_B0 I R T) (hk : rl4 I J R T) {Q : ev_Q} (next : lw_next X i T c k Q) :
    ev_W X 241 898 [ez_scr, .ref 0, .ref 35, .int i] [] (ev_hp I J R T) c k Q := by
  have hX2 : X.1 < 2 ^ 31 := by omega
  refine ev_call lblame_r0 (lxc_blame hX2 hh hk) ?_
  rintro r hr1 c1 k1 ⟨v, I1, J1, R1, T1, rfl, rfl, q1, q2, q3, q4⟩
  refine ev_call lblame_r1 (lmc_blame hX2 hh hk q1 q4) ?_
  rintro r hr2 c2 k2 ⟨u, I2, J2, R2, T2, rfl, rfl, p1, p2, p3, e1, p4⟩
  subst e1
  refine ev_if lblame_r2 (fun _ => ?_) (fun w => absurd rfl (of_decide_eq_false w))
  refine ev_seg lblame_r3 ?_
  exact next _ I2 J2 R2 T2 _ _ (lw_i4 h0 h1 hL) p1 p4 (by omega) (by omega)
section
variable {X : ez_X} {I : Nat → Nat → Int32} {J : Nat → Nat → Int64} {R : Nat → Nat} {T : List ez_C} {cz kz : Nat}
theorem lblamed_r0 {i : Int32} : ∀ G : ez_F, fx_up X 2 G 241 911 [ez_scr, .ref 0, .ref 35, .int i] [] (ev_hp I J R T) cz kz = ev_C G 9 [.ref 0] (ev_hp I J R T) fun r h1 c1 k1 => G 241 915 [ez_scr, .ref 0, .ref 35, .int i] (r.toList ++ []) h1 (cz + c1) (kz + k1) := by
  intro G
  rfl
theorem lblamed_r1 {i : Int32} {v : Int32} : ∀ G : ez_F, fx_up X 3 G 241 915 [ez_scr, .ref 0, .ref 35, .int i] [.int v] (ev_hp I J R T) cz kz = ev_C G 174 [.ref 35] (ev_hp I J R T) fun r h1 c1 k1 => G 241 920 [ez_scr, .ref 0, .ref 35, .int i] (r.toList ++ []) h1 (cz + c1) (kz + k1) := by
  intro G
  rfl
theorem lblamed_r2 {i : Int32} {u : Int32} : ∀ G : ez_F, fx_up X 4 G 241 920 [ez_scr, .ref 0, .ref 35, .int i] [.int u] (ev_hp I J R T) cz kz = G 241 18 [ez_scr, .ref 0, .ref 35, .int (i + 4)] [] (ev_hp I J R T) cz kz := by
  intro G
  rfl
end
theorem law_blamed (X : ez_X) (hL : X.1 ≤ 2048) (i : Int32) (h0 : 0 ≤ i.toInt) (h1 : i.toInt + 4 ≤ X.1) (I : Nat → Nat → Int32) (J : Nat → Nat → Int64) (R : Nat → Nat) (T : List ez_C) (c k : Nat) (hh : cx_hok cx_B0 I R T) (hk : rl4 I J R T) {Q : ev_Q} (next : lw_next X i T c k Q) :
    ev_W X 241 911 [ez_scr, .ref 0, .ref 35, .int i] [] (ev_hp I J R T) c k Q := by
  have hX2 : X.1 < 2 ^ 31 := by omega
  refine ev_call lblamed_r0 (l4x_blamed hX2 hh hk) ?_
  rintro r hr1 c1 k1 ⟨v, I1, J1, R1, T1, rfl, rfl, q1, q2, q3, q4⟩
  refine ev_call lblamed_r1 (l4m_blamed hX2 hh hk q1 q4) ?_
  rintro r hr2 c2 k2 ⟨u, I2, J2, R2, T2, rfl, rfl, p1, p2, p3, p4⟩
  refine ev_seg lblamed_r2 ?_
  exact next _ I2 J2 R2 T2 _ _ (lw_i4 h0 h1 hL) p1 p4 (by omega) (by omega)
section
variable {X : ez_X} {I : Nat → Nat → Int32} {J : Nat → Nat → Int64} {R : Nat → Nat} {T : List ez_C} {cz kz : Nat}
theorem lswitched_r0 {i : Int32} : ∀ G : ez_F, fx_up X 5 G 241 924 [ez_scr, .ref 0, .ref 35, .int i] [] (ev_hp I J R T) cz kz = G 241 929 [ez_scr, .ref 0, .ref 35, .int i] [.int (i + 1), ez_scr, .ref 0] (ev_hp I J R T) cz kz := by
  intro G
  rfl
theorem lswitched_r1 {i : Int32} {x : Int32} : ∀ G : ez_F, fx_up X 1 G 241 930 [ez_scr, .ref 0, .ref 35, .int i] [.int x, .ref 0] (ev_hp I J R T) cz kz = ev_C G 50 [.ref 0, .int x] (ev_hp I J R T) fun r h1 c1 k1 => G 241 933 [ez_scr, .ref 0, .ref 35, .int i] (r.toList ++ []) h1 (cz + c1) (kz + k1) := by
  intro G
  rfl
theorem lswitched_r2 {i : Int32} {v : Int32} : ∀ G : ez_F, fx_up X 6 G 241 933 [ez_scr, .ref 0, .ref 35, .int i] [.int v] (ev_hp I J R T) cz kz = G 241 939 [ez_scr, .ref 0, .ref 35, .int i] [.int (i + 1), ez_scr, .ref 35] (ev_hp I J R T) cz kz := by
  intro G
  rfl
theorem lswitched_r3 {i : Int32} {x : Int32} : ∀ G : ez_F, fx_up X 1 G 241 940 [ez_scr, .ref 0, .ref 35, .int i] [.int x, .ref 35] (ev_hp I J R T) cz kz = ev_C G 226 [.ref 35, .int x] (ev_hp I J R T) fun r h1 c1 k1 => G 241 943 [ez_scr, .ref 0, .ref 35, .int i] (r.toList ++ []) h1 (cz + c1) (kz + k1) := by
  intro G
  rfl
theorem lswitched_r4 {i : Int32} {u : Int32} : ∀ G : ez_F, fx_up X 4 G 241 943 [ez_scr, .ref 0, .ref 35, .int i] [.int u] (ev_hp I J R T) cz kz = G 241 18 [ez_scr, .ref 0, .ref 35, .int (i + 4)] [] (ev_hp I J R T) cz kz := by
  intro G
  rfl
end
theorem law_switched (X : ez_X) (hL : X.1 ≤ 2048) (i : Int32) (h0 : 0 ≤ i.toInt) (h1 : i.toInt + 4 ≤ X.1) (I : Nat → Nat → Int32) (J : Nat → Nat → Int64) (R : Nat → Nat) (T : List ez_C) (c k : Nat) (hh : cx_hok cx_B0 I R T) (hk : rl4 I J R T) {Q : ev_Q} (next : lw_next X i T c k Q) :
    ev_W X 241 924 [ez_scr, .ref 0, .ref 35, .int i] [] (ev_hp I J R T) c k Q := by
  have hX2 : X.1 < 2 ^ 31 := by omega
  have x1 : ev_ix (i + 1) X.1 := gr_ix (n := 1) h0 h1 hL (by decide)
  refine ev_seg lswitched_r0 ?_
  refine ev_sald (by rfl) x1 ?_
  generalize hx : X.2 (i + 1).toNatClampNeg = x
  refine ev_call lswitched_r1 (l4x_switched hX2 hh hk x) ?_
  rintro r hr1 c1 k1 ⟨v, I1, J1, R1, T1, rfl, rfl, q1, q2, q3, q4⟩
  refine ev_seg lswitched_r2 ?_
  refine ev_sald (by rfl) x1 ?_
  rw [hx]
  refine ev_call lswitched_r3 (l4m_switched hX2 hh hk x q1 q4) ?_
  rintro r hr2 c2 k2 ⟨u, I2, J2, R2, T2, rfl, rfl, p1, p2, p3, p4⟩
  refine ev_seg lswitched_r4 ?_
  exact next _ I2 J2 R2 T2 _ _ (lw_i4 h0 h1 hL) p1 p4 (by omega) (by omega)
section
variable {X : ez_X} {I : Nat → Nat → Int32} {J : Nat → Nat → Int64} {R : Nat → Nat} {T : List ez_C} {cz kz : Nat}
theorem lcount_r0 {i : Int32} : ∀ G : ez_F, fx_up X 5 G 241 947 [ez_scr, .ref 0, .ref 35, .int i] [] (ev_hp I J R T) cz kz = G 241 952 [ez_scr, .ref 0, .ref 35, .int i] [.int (i + 1), ez_scr, .ref 0] (ev_hp I J R T) cz kz := by
  intro G
  rfl
theorem lcount_r1 {i : Int32} {x : Int32} : ∀ G : ez_F, fx_up X 4 G 241 953 [ez_scr, .ref 0, .ref 35, .int i] [.int x, .ref 0] (ev_hp I J R T) cz kz = G 241 957 [ez_scr, .ref 0, .ref 35, .int i] [.int (i + 2), ez_scr, .int x, .ref 0] (ev_hp I J R T) cz kz := by
  intro G
  rfl
theorem lcount_r2 {i : Int32} {y : Int32} {x : Int32} : ∀ G : ez_F, fx_up X 1 G 241 958 [ez_scr, .ref 0, .ref 35, .int i] [.int y, .int x, .ref 0] (ev_hp I J R T) cz kz = ev_C G 14 [.ref 0, .int x, .int y] (ev_hp I J R T) fun r h1 c1 k1 => G 241 961 [ez_scr, .ref 0, .ref 35, .int i] (r.toList ++ []) h1 (cz + c1) (kz + k1) := by
  intro G
  rfl
theorem lcount_r3 {i : Int32} {v : Int32} : ∀ G : ez_F, fx_up X 6 G 241 961 [ez_scr, .ref 0, .ref 35, .int i] [.int v] (ev_hp I J R T) cz kz = G 241 967 [ez_scr, .ref 0, .ref 35, .int i] [.int (i + 1), ez_scr, .ref 35] (ev_hp I J R T) cz kz := by
  intro G
  rfl
theorem lcount_r4 {i : Int32} {x : Int32} : ∀ G : ez_F, fx_up X 4 G 241 968 [ez_scr, .ref 0, .ref 35, .int i] [.int x, .ref 35] (ev_hp I J R T) cz kz = G 241 972 [ez_scr, .ref 0, .ref 35, .int i] [.int (i + 2), ez_scr, .int x, .ref 35] (ev_hp I J R T) cz kz := by
  intro G
  rfl
theorem lcount_r5 {i : Int32} {y : Int32} {x : Int32} : ∀ G : ez_F, fx_up X 1 G 241 973 [ez_scr, .ref 0, .ref 35, .int i] [.int y, .int x, .ref 35] (ev_hp I J R T) cz kz = ev_C G 182 [.ref 35, .int x, .int y] (ev_hp I J R T) fun r h1 c1 k1 => G 241 976 [ez_scr, .ref 0, .ref 35, .int i] (r.toList ++ []) h1 (cz + c1) (kz + k1) := by
  intro G
  rfl
theorem lcount_r6 {i : Int32} {u : Int32} : ∀ G : ez_F, fx_up X 4 G 241 976 [ez_scr, .ref 0, .ref 35, .int i] [.int u] (ev_hp I J R T) cz kz = G 241 18 [ez_scr, .ref 0, .ref 35, .int (i + 4)] [] (ev_hp I J R T) cz kz := by
  intro G
  rfl
end
theorem law_count (X : ez_X) (hL : X.1 ≤ 2048) (i : Int32) (h0 : 0 ≤ i.toInt) (h1 : i.toInt + 4 ≤ X.1) (I : Nat → Nat → Int32) (J : Nat → Nat → Int64) (R : Nat → Nat) (T : List ez_C) (c k : Nat) (hh : cx_hok cx_B0 I R T) (hk : rl4 I J R T) {Q : ev_Q} (next : lw_next X i T c k Q) :
    ev_W X 241 947 [ez_scr, .ref 0, .ref 35, .int i] [] (ev_hp I J R T) c k Q := by
  have hX2 : X.1 < 2 ^ 31 := by omega
  have x1 : ev_ix (i + 1) X.1 := gr_ix (n := 1) h0 h1 hL (by decide)
  have x2 : ev_ix (i + 2) X.1 := gr_ix (n := 2) h0 h1 hL (by decide)
  refine ev_seg lcount_r0 ?_
  refine ev_sald (by rfl) x1 ?_
  generalize hx : X.2 (i + 1).toNatClampNeg = x
  refine ev_seg lcount_r1 ?_
  refine ev_sald (by rfl) x2 ?_
  generalize hy : X.2 (i + 2).toNatClampNeg = y
  refine ev_call lcount_r2 (l4x_count hX2 hh hk x y) ?_
  rintro r hr1 c1 k1 ⟨v, I1, J1, R1, T1, rfl, rfl, q1, q2, q3, q4⟩
  refine ev_seg lcount_r3 ?_
  refine ev_sald (by rfl) x1 ?_
  rw [hx]
  refine ev_seg lcount_r4 ?_
  refine ev_sald (by rfl) x2 ?_
  rw [hy]
  refine ev_call lcount_r5 (l4m_count hX2 hh hk x y q1 q4) ?_
  rintro r hr2 c2 k2 ⟨u, I2, J2, R2, T2, rfl, rfl, p1, p2, p3, p4⟩
  refine ev_seg lcount_r6 ?_
  exact next _ I2 J2 R2 T2 _ _ (lw_i4 h0 h1 hL) p1 p4 (by omega) (by omega)
section
variable {X : ez_X} {I : Nat → Nat → Int32} {J : Nat → Nat → Int64} {R : Nat → Nat} {T : List ez_C} {cz kz : Nat}
theorem lrim_r0 {i : Int32} : ∀ G : ez_F, fx_up X 5 G 241 980 [ez_scr, .ref 0, .ref 35, .int i] [] (ev_hp I J R T) cz kz = G 241 985 [ez_scr, .ref 0, .ref 35, .int i] [.int (i + 1), ez_scr, .ref 0] (ev_hp I J R T) cz kz := by
  intro G
  rfl
theorem lrim_r1 {i : Int32} {x : Int32} : ∀ G : ez_F, fx_up X 4 G 241 986 [ez_scr, .ref 0, .ref 35, .int i] [.int x, .ref 0] (ev_hp I J R T) cz kz = G 241 990 [ez_scr, .ref 0, .ref 35, .int i] [.int (i + 2), ez_scr, .int x, .ref 0] (ev_hp I J R T) cz kz := by
  intro G
  rfl
theorem lrim_r2 {i : Int32} {y : Int32} {x : Int32} : ∀ G : ez_F, fx_up X 1 G 241 991 [ez_scr, .ref 0, .ref 35, .int i] [.int y, .int x, .ref 0] (ev_hp I J R T) cz kz = ev_C G 40 [.ref 0, .int x, .int y] (ev_hp I J R T) fun r h1 c1 k1 => G 241 994 [ez_scr, .ref 0, .ref 35, .int i] (r.toList ++ []) h1 (cz + c1) (kz + k1) := by
  intro G
  rfl
theorem lrim_r3 {i : Int32} {v : Int32} : ∀ G : ez_F, fx_up X 6 G 241 994 [ez_scr, .ref 0, .ref 35, .int i] [.int v] (ev_hp I J R T) cz kz = G 241 1000 [ez_scr, .ref 0, .ref 35, .int i] [.int (i + 1), ez_scr, .ref 35] (ev_hp I J R T) cz kz := by
  intro G
  rfl
theorem lrim_r4 {i : Int32} {x : Int32} : ∀ G : ez_F, fx_up X 4 G 241 1001 [ez_scr, .ref 0, .ref 35, .int i] [.int x, .ref 35] (ev_hp I J R T) cz kz = G 241 1005 [ez_scr, .ref 0, .ref 35, .int i] [.int (i + 2), ez_scr, .int x, .ref 35] (ev_hp I J R T) cz kz := by
  intro G
  rfl
theorem lrim_r5 {i : Int32} {y : Int32} {x : Int32} : ∀ G : ez_F, fx_up X 1 G 241 1006 [ez_scr, .ref 0, .ref 35, .int i] [.int y, .int x, .ref 35] (ev_hp I J R T) cz kz = ev_C G 217 [.ref 35, .int x, .int y] (ev_hp I J R T) fun r h1 c1 k1 => G 241 1009 [ez_scr, .ref 0, .ref 35, .int i] (r.toList ++ []) h1 (cz + c1) (kz + k1) := by
  intro G
  rfl
theorem lrim_r6 {i : Int32} {u : Int32} : ∀ G : ez_F, fx_up X 4 G 241 1009 [ez_scr, .ref 0, .ref 35, .int i] [.int u] (ev_hp I J R T) cz kz = G 241 18 [ez_scr, .ref 0, .ref 35, .int (i + 4)] [] (ev_hp I J R T) cz kz := by
  intro G
  rfl
end
theorem law_rim (X : ez_X) (hL : X.1 ≤ 2048) (i : Int32) (h0 : 0 ≤ i.toInt) (h1 : i.toInt + 4 ≤ X.1) (I : Nat → Nat → Int32) (J : Nat → Nat → Int64) (R : Nat → Nat) (T : List ez_C) (c k : Nat) (hh : cx_hok cx_B0 I R T) (hk : rl4 I J R T) {Q : ev_Q} (next : lw_next X i T c k Q) :
    ev_W X 241 980 [ez_scr, .ref 0, .ref 35, .int i] [] (ev_hp I J R T) c k Q := by
  have hX2 : X.1 < 2 ^ 31 := by omega
  have x1 : ev_ix (i + 1) X.1 := gr_ix (n := 1) h0 h1 hL (by decide)
  have x2 : ev_ix (i + 2) X.1 := gr_ix (n := 2) h0 h1 hL (by decide)
  refine ev_seg lrim_r0 ?_
  refine ev_sald (by rfl) x1 ?_
  generalize hx : X.2 (i + 1).toNatClampNeg = x
  refine ev_seg lrim_r1 ?_
  refine ev_sald (by rfl) x2 ?_
  generalize hy : X.2 (i + 2).toNatClampNeg = y
  refine ev_call lrim_r2 (l4x_rim hX2 hh hk x y) ?_
  rintro r hr1 c1 k1 ⟨v, I1, J1, R1, T1, rfl, rfl, q1, q2, q3, q4⟩
  refine ev_seg lrim_r3 ?_
  refine ev_sald (by rfl) x1 ?_
  rw [hx]
  refine ev_seg lrim_r4 ?_
  refine ev_sald (by rfl) x2 ?_
  rw [hy]
  refine ev_call lrim_r5 (l4m_rim hX2 hh hk x y q1 q4) ?_
  rintro r hr2 c2 k2 ⟨u, I2, J2, R2, T2, rfl, rfl, p1, p2, p3, p4⟩
  refine ev_seg lrim_r6 ?_
  exact next _ I2 J2 R2 T2 _ _ (lw_i4 h0 h1 hL) p1 p4 (by omega) (by omega)
section
variable {X : ez_X} {I : Nat → Nat → Int32} {J : Nat → Nat → Int64} {R : Nat → Nat} {T : List ez_C} {cz kz : Nat}
theorem lfitting_r0 {i : Int32} : ∀ G : ez_F, fx_up X 2 G 241 1013 [ez_scr, .ref 0, .ref 35, .int i] [] (ev_hp I J R T) cz kz = ev_C G 17 [.ref 0] (ev_hp I J R T) fun r h1 c1 k1 => G 241 1017 [ez_scr, .ref 0, .ref 35, .int i] (r.toList ++ []) h1 (cz + c1) (kz + k1) := by
  intro G
  rfl
theorem lfitting_r1 {i : Int32} {v : Int32} : ∀ G : ez_F, fx_up X 3 G 241 1017 [ez_scr, .ref 0, .ref 35, .int i] [.int v] (ev_hp I J R T) cz kz = ev_C G 191 [.ref 35] (ev_hp I J R T) fun r h1 c1 k1 => G 241 1022 [ez_scr, .ref 0, .ref 35, .int i] (r.toList ++ []) h1 (cz + c1) (kz + k1) := by
  intro G
  rfl
theorem lfitting_r2 {i : Int32} {u : Int32} : ∀ G : ez_F, fx_up X 4 G 241 1022 [ez_scr, .ref 0, .ref 35, .int i] [.int u] (ev_hp I J R T) cz kz = G 241 18 [ez_scr, .ref 0, .ref 35, .int (i + 4)] [] (ev_hp I J R T) cz kz := by
  intro G
  rfl
end
theorem law_fitting (X : ez_X) (hL : X.1 ≤ 2048) (i : Int32) (h0 : 0 ≤ i.toInt) (h1 : i.toInt + 4 ≤ X.1) (I : Nat → Nat → Int32) (J : Nat → Nat → Int64) (R : Nat → Nat) (T : List ez_C) (c k : Nat) (hh : cx_hok cx_B0 I R T) (hk : rl4 I J R T) {Q : ev_Q} (next : lw_next X i T c k Q) :
    ev_W X 241 1013 [ez_scr, .ref 0, .ref 35, .int i] [] (ev_hp I J R T) c k Q := by
  have hX2 : X.1 < 2 ^ 31 := by omega
  refine ev_call lfitting_r0 (l4x_fitting hX2 hh hk) ?_
  rintro r hr1 c1 k1 ⟨v, I1, J1, R1, T1, rfl, rfl, q1, q2, q3, q4⟩
  refine ev_call lfitting_r1 (l4m_fitting hX2 hh hk q1 q4) ?_
  rintro r hr2 c2 k2 ⟨u, I2, J2, R2, T2, rfl, rfl, p1, p2, p3, p4⟩
  refine ev_seg lfitting_r2 ?_
  exact next _ I2 J2 R2 T2 _ _ (lw_i4 h0 h1 hL) p1 p4 (by omega) (by omega)
section
variable {X : ez_X} {I : Nat → Nat → Int32} {J : Nat → Nat → Int64} {R : Nat → Nat} {T : List ez_C} {cz kz : Nat}
theorem lclues_r0 {i : Int32} : ∀ G : ez_F, fx_up X 5 G 241 1026 [ez_scr, .ref 0, .ref 35, .int i] [] (ev_hp I J R T) cz kz = G 241 1031 [ez_scr, .ref 0, .ref 35, .int i] [.int (i + 1), ez_scr, .ref 0] (ev_hp I J R T) cz kz := by
  intro G
  rfl
theorem lclues_r1 {i : Int32} {x : Int32} : ∀ G : ez_F, fx_up X 1 G 241 1032 [ez_scr, .ref 0, .ref 35, .int i] [.int x, .ref 0] (ev_hp I J R T) cz kz = ev_C G 13 [.ref 0, .int x] (ev_hp I J R T) fun r h1 c1 k1 => G 241 1035 [ez_scr, .ref 0, .ref 35, .int i] (r.toList ++ []) h1 (cz + c1) (kz + k1) := by
  intro G
  rfl
theorem lclues_r2 {i : Int32} {v : Int32} : ∀ G : ez_F, fx_up X 6 G 241 1035 [ez_scr, .ref 0, .ref 35, .int i] [.int v] (ev_hp I J R T) cz kz = G 241 1041 [ez_scr, .ref 0, .ref 35, .int i] [.int (i + 1), ez_scr, .ref 35] (ev_hp I J R T) cz kz := by
  intro G
  rfl
theorem lclues_r3 {i : Int32} {x : Int32} : ∀ G : ez_F, fx_up X 1 G 241 1042 [ez_scr, .ref 0, .ref 35, .int i] [.int x, .ref 35] (ev_hp I J R T) cz kz = ev_C G 181 [.ref 35, .int x] (ev_hp I J R T) fun r h1 c1 k1 => G 241 1045 [ez_scr, .ref 0, .ref 35, .int i] (r.toList ++ []) h1 (cz + c1) (kz + k1) := by
  intro G
  rfl
theorem lclues_r4 {i : Int32} {u : Int32} : ∀ G : ez_F, fx_up X 4 G 241 1045 [ez_scr, .ref 0, .ref 35, .int i] [.int u] (ev_hp I J R T) cz kz = G 241 18 [ez_scr, .ref 0, .ref 35, .int (i + 4)] [] (ev_hp I J R T) cz kz := by
  intro G
  rfl
end
theorem law_clues (X : ez_X) (hL : X.1 ≤ 2048) (i : Int32) (h0 : 0 ≤ i.toInt) (h1 : i.toInt + 4 ≤ X.1) (I : Nat → Nat → Int32) (J : Nat → Nat → Int64) (R : Nat → Nat) (T : List ez_C) (c k : Nat) (hh : cx_hok cx_B0 I R T) (hk : rl4 I J R T) {Q : ev_Q} (next : lw_next X i T c k Q) :
    ev_W X 241 1026 [ez_scr, .ref 0, .ref 35, .int i] [] (ev_hp I J R T) c k Q := by
  have hX2 : X.1 < 2 ^ 31 := by omega
  have x1 : ev_ix (i + 1) X.1 := gr_ix (n := 1) h0 h1 hL (by decide)
  refine ev_seg lclues_r0 ?_
  refine ev_sald (by rfl) x1 ?_
  generalize hx : X.2 (i + 1).toNatClampNeg = x
  refine ev_call lclues_r1 (l4x_clues hX2 hh hk x) ?_
  rintro r hr1 c1 k1 ⟨v, I1, J1, R1, T1, rfl, rfl, q1, q2, q3, q4⟩
  refine ev_seg lclues_r2 ?_
  refine ev_sald (by rfl) x1 ?_
  rw [hx]
  refine ev_call lclues_r3 (l4m_clues hX2 hh hk x q1 q4) ?_
  rintro r hr2 c2 k2 ⟨u, I2, J2, R2, T2, rfl, rfl, p1, p2, p3, p4⟩
  refine ev_seg lclues_r4 ?_
  exact next _ I2 J2 R2 T2 _ _ (lw_i4 h0 h1 hL) p1 p4 (by omega) (by omega)
section
variable {X : ez_X} {I : Nat → Nat → Int32} {J : Nat → Nat → Int64} {R : Nat → Nat} {T : List ez_C} {cz kz : Nat}
theorem lmany_r0 {i : Int32} : ∀ G : ez_F, fx_up X 5 G 241 1049 [ez_scr, .ref 0, .ref 35, .int i] [] (ev_hp I J R T) cz kz = G 241 1054 [ez_scr, .ref 0, .ref 35, .int i] [.int (i + 1), ez_scr, .ref 0] (ev_hp I J R T) cz kz := by
  intro G
  rfl
theorem lmany_r1 {i : Int32} {x : Int32} : ∀ G : ez_F, fx_up X 1 G 241 1055 [ez_scr, .ref 0, .ref 35, .int i] [.int x, .ref 0] (ev_hp I J R T) cz kz = ev_C G 33 [.ref 0, .int x] (ev_hp I J R T) fun r h1 c1 k1 => G 241 1058 [ez_scr, .ref 0, .ref 35, .int i] (r.toList ++ []) h1 (cz + c1) (kz + k1) := by
  intro G
  rfl
theorem lmany_r2 {i : Int32} {v : Int32} : ∀ G : ez_F, fx_up X 6 G 241 1058 [ez_scr, .ref 0, .ref 35, .int i] [.int v] (ev_hp I J R T) cz kz = G 241 1064 [ez_scr, .ref 0, .ref 35, .int i] [.int (i + 1), ez_scr, .ref 35] (ev_hp I J R T) cz kz := by
  intro G
  rfl
theorem lmany_r3 {i : Int32} {x : Int32} : ∀ G : ez_F, fx_up X 1 G 241 1065 [ez_scr, .ref 0, .ref 35, .int i] [.int x, .ref 35] (ev_hp I J R T) cz kz = ev_C G 210 [.ref 35, .int x] (ev_hp I J R T) fun r h1 c1 k1 => G 241 1068 [ez_scr, .ref 0, .ref 35, .int i] (r.toList ++ []) h1 (cz + c1) (kz + k1) := by
  intro G
  rfl
theorem lmany_r4 {i : Int32} {u : Int32} : ∀ G : ez_F, fx_up X 4 G 241 1068 [ez_scr, .ref 0, .ref 35, .int i] [.int u] (ev_hp I J R T) cz kz = G 241 18 [ez_scr, .ref 0, .ref 35, .int (i + 4)] [] (ev_hp I J R T) cz kz := by
  intro G
  rfl
end
theorem law_many (X : ez_X) (hL : X.1 ≤ 2048) (i : Int32) (h0 : 0 ≤ i.toInt) (h1 : i.toInt + 4 ≤ X.1) (I : Nat → Nat → Int32) (J : Nat → Nat → Int64) (R : Nat → Nat) (T : List ez_C) (c k : Nat) (hh : cx_hok cx_B0 I R T) (hk : rl4 I J R T) {Q : ev_Q} (next : lw_next X i T c k Q) :
    ev_W X 241 1049 [ez_scr, .ref 0, .ref 35, .int i] [] (ev_hp I J R T) c k Q := by
  have hX2 : X.1 < 2 ^ 31 := by omega
  have x1 : ev_ix (i + 1) X.1 := gr_ix (n := 1) h0 h1 hL (by decide)
  refine ev_seg lmany_r0 ?_
  refine ev_sald (by rfl) x1 ?_
  generalize hx : X.2 (i + 1).toNatClampNeg = x
  refine ev_call lmany_r1 (l4x_many hX2 hh hk x) ?_
  rintro r hr1 c1 k1 ⟨v, I1, J1, R1, T1, rfl, rfl, q1, q2, q3, q4⟩
  refine ev_seg lmany_r2 ?_
  refine ev_sald (by rfl) x1 ?_
  rw [hx]
  refine ev_call lmany_r3 (l4m_many hX2 hh hk x q1 q4) ?_
  rintro r hr2 c2 k2 ⟨u, I2, J2, R2, T2, rfl, rfl, p1, p2, p3, p4⟩
  refine ev_seg lmany_r4 ?_
  exact next _ I2 J2 R2 T2 _ _ (lw_i4 h0 h1 hL) p1 p4 (by omega) (by omega)
theorem lw_end2 {R : Nat → Nat} {T : List ez_C} {h : ez_H} {c k : Nat} (hR : cx_rows R T) (hc : c = 65 + T.length) (hk : k = 121826 + cx_mem T) : lw_QL (some (.int 1)) h c k := by
  have h1 := lw_len hR
  have h2 := cx_mem_top hR
  exact ⟨rfl, by omega, by omega⟩
theorem law_l (X : ez_X) (hL : X.1 ≤ 2048) : ∀ (D : Nat) (i : Int32) (I : Nat → Nat → Int32) (J : Nat → Nat → Int64) (R : Nat → Nat) (T : List ez_C) (c k : Nat), (2048 - i.toInt).toNat < D → 0 ≤ i.toInt → i.toInt ≤ 2048 → cx_hok cx_B0 I R T → rl4 I J R T → c = 65 + T.length → k = 121826 + cx_mem T →
    ev_W X 241 18 [ez_scr, .ref 0, .ref 35, .int i] [] (ev_hp I J R T) c k lw_QL := by
  intro D
  induction D with
  | zero => intro i I J R T c k hD; exact absurd hD (Nat.not_lt_zero _)
  | succ D ih =>
    intro i I J R T c k hD h0 h1 hh hkk hc hk
    have hn : (Int32.ofNat X.1 - 4).toInt = (X.1 : Int) - 4 := by
      rw [Int32.toInt_sub, Int32.toInt_ofNat_of_lt (by omega), show (4 : Int32).toInt = 4 from by decide, cx_bm32]
      simp only [cx_i32]
      omega
    refine ev_seg lh_r0 (ev_if lh_r1 (fun ht => ev_ret lh_r4 (lw_end2 hh.2 hc hk)) (fun ht => ?_))
    have ht := of_decide_eq_false ht
    have y2 : i.toInt + 4 ≤ X.1 := by
      rw [Int32.lt_iff_toInt_lt, hn] at ht
      omega
    have next : lw_next X i T c k lw_QL := fun i2 I2 J2 R2 T2 c2 k2 g1 g2 gk g3 g4 => ih i2 I2 J2 R2 T2 c2 k2 (by omega) (by omega) (by omega) g2 gk (by omega) (by omega)
    refine ev_seg lh_r2 (ev_sald (by rfl) (fs_ixs (by omega) (by omega)) (ev_seg lh_r3 ?_))
    generalize X.2 i.toNatClampNeg &&& 63 = w
    by_cases hw : w.toInt < 0 ∨ 33 < w.toInt
    · exact ev_swd (q := 1072) (by rfl) hw (by rfl) (ev_seg lh_r5 (next (i + 4) I J R T c k (lw_i4 h0 y2 hL) hh hkk rfl rfl))
    obtain ⟨n, hn2, rfl⟩ : ∃ n : Nat, n ≤ 33 ∧ w = Int32.ofNat n := ⟨w.toInt.toNat, by omega, io_nat (by omega)⟩
    clear hw
    have hmem : n = 0 ∨ n = 1 ∨ n = 2 ∨ n = 3 ∨ n = 4 ∨ n = 5 ∨ n = 6 ∨ n = 7 ∨ n = 8 ∨ n = 9 ∨ n = 10 ∨ n = 11 ∨ n = 12 ∨ n = 13 ∨ n = 14 ∨ n = 15 ∨ n = 16 ∨ n = 17 ∨ n = 18 ∨ n = 19 ∨ n = 20 ∨ n = 21 ∨ n = 22 ∨ n = 23 ∨ n = 24 ∨ n = 25 ∨ n = 26 ∨ n = 27 ∨ n = 28 ∨ n = 29 ∨ n = 30 ∨ n = 31 ∨ n = 32 ∨ n = 33 := by omega
    rcases hmem with rfl | rfl | rfl | rfl | rfl | rfl | rfl | rfl | rfl | rfl | rfl | rfl | rfl | rfl | rfl | rfl | rfl | rfl | rfl | rfl | rfl | rfl | rfl | rfl | rfl | rfl | rfl | rfl | rfl | rfl | rfl | rfl | rfl | rfl
    · exact ev_seg lh_s0 (law_grid X hL i h0 y2 I J R T c k hh hkk next)
    · exact ev_seg lh_s1 (law_ship X hL i h0 y2 I J R T c k hh hkk next)
    · exact ev_seg lh_s2 (law_set X hL i h0 y2 I J R T c k hh hkk next)
    · exact ev_seg lh_s3 (law_drift X hL i h0 y2 I J R T c k hh hkk next)
    · exact ev_seg lh_s4 (law_spots X hL i h0 y2 I J R T c k hh hkk next)
    · exact ev_seg lh_s5 (law_spot X hL i h0 y2 I J R T c k hh hkk next)
    · exact ev_seg lh_s6 (law_layings X hL i h0 y2 I J R T c k hh hkk next)
    · exact ev_seg lh_s7 (law_laid X hL i h0 y2 I J R T c k hh hkk next)
    · exact ev_seg lh_s8 (law_call X hL i h0 y2 I J R T c k hh hkk next)
    · exact ev_seg lh_s9 (law_salvo X hL i h0 y2 I J R T c k hh hkk next)
    · exact ev_seg lh_s10 (law_answer X hL i h0 y2 I J R T c k hh hkk next)
    · exact ev_seg lh_s11 (law_lose X hL i h0 y2 I J R T c k hh hkk next)
    · exact ev_seg lh_s12 (law_back X hL i h0 y2 I J R T c k hh hkk next)
    · exact ev_seg lh_s13 (law_truth X hL i h0 y2 I J R T c k hh hkk next)
    · exact ev_seg lh_s14 (law_lies X hL i h0 y2 I J R T c k hh hkk next)
    · exact ev_seg lh_s15 (law_left X hL i h0 y2 I J R T c k hh hkk next)
    · exact ev_seg lh_s16 (law_which X hL i h0 y2 I J R T c k hh hkk next)
    · exact ev_seg lh_s17 (law_there X hL i h0 y2 I J R T c k hh hkk next)
    · exact ev_seg lh_s18 (law_sure X hL i h0 y2 I J R T c k hh hkk next)
    · exact ev_seg lh_s19 (law_part X hL i h0 y2 I J R T c k hh hkk next)
    · exact ev_seg lh_s20 (law_best X hL i h0 y2 I J R T c k hh hkk next)
    · exact ev_seg lh_s21 (law_bestSalvo X hL i h0 y2 I J R T c k hh hkk next)
    · exact ev_seg lh_s22 (law_need X hL i h0 y2 I J R T c k hh hkk next)
    · exact ev_seg lh_s23 (law_calls X hL i h0 y2 I J R T c k hh hkk next)
    · exact ev_seg lh_s24 (law_hardest X hL i h0 y2 I J R T c k hh hkk next)
    · exact ev_seg lh_s25 (law_stray X hL i h0 y2 I J R T c k hh hkk next)
    · exact ev_seg lh_s26 (law_blame X hL i h0 y2 I J R T c k hh hkk next)
    · exact ev_seg lh_s27 (law_blamed X hL i h0 y2 I J R T c k hh hkk next)
    · exact ev_seg lh_s28 (law_switched X hL i h0 y2 I J R T c k hh hkk next)
    · exact ev_seg lh_s29 (law_count X hL i h0 y2 I J R T c k hh hkk next)
    · exact ev_seg lh_s30 (law_rim X hL i h0 y2 I J R T c k hh hkk next)
    · exact ev_seg lh_s31 (law_fitting X hL i h0 y2 I J R T c k hh hkk next)
    · exact ev_seg lh_s32 (law_clues X hL i h0 y2 I J R T c k hh hkk next)
    · exact ev_seg lh_s33 (law_many X hL i h0 y2 I J R T c k hh hkk next)
end
