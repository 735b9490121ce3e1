/-! Relation 3: the calls and their answers, the same on both sides. -/
abbrev c3_K : Type := Int32 × (Nat → Int64) × Int64 × Int64 × Int32 × (Nat → Int32) × (Nat → Int32) × (Nat → Int32) × Int32 × Int32 × Int32 × Int32 × Int32 × Int32 × (Nat → Int32)
def ck (I : Nat → Nat → Int32) (J : Nat → Nat → Int64) : c3_K := (I 8 1, J 9, J 8 2, J 8 3, I 35 16, I 42, I 43, I 44, I 1 1, I 1 2, I 1 5, I 1 6, I 35 0 * I 35 1, I 1 4 + I 1 3, I 33)
def tgt (a b : Int32) : Int64 := if b = -1 then (1 : Int64) <<< (a.toInt64 &&& 63) else ((1 : Int64) <<< (a.toInt64 &&& 63)) ||| ((1 : Int64) <<< (b.toInt64 &&& 63))
def cel (x : Int32) : Prop := ∃ i : Nat, x = Int32.ofNat i ∧ i < 36
def c3_r (tg : Nat → Int64) (A K : Int64) (one two told : Nat → Int32) (c : Nat) : Prop := tg c = tgt (one c) (two c) ∧ cel (one c) ∧ (two c = -1 ∨ (cel (two c) ∧ two c ≠ one c)) ∧ td_at A K c = told c ∧ (told c = -1 ∨ told c = 0 ∨ told c = 1 ∨ told c = 2)
theorem c3_rc {tg tg' : Nat → Int64} {A A' K K' : Int64} {one two told one' two' told' : Nat → Int32} {c : Nat} (h : c3_r tg A K one two told c) (e1 : tg' c = tg c) (e2 : one' c = one c) (e3 : two' c = two c) (e4 : td_at A' K' c = td_at A K c) (e5 : told' c = told c) : c3_r tg' A' K' one' two' told' c := by
  unfold c3_r
  rw [e1, e2, e3, e4, e5]
  exact h
def C3 : c3_K → Prop
  | (n, tg, A, K, m, one, two, told, dx, dy, wr, cc, cm, wh, cnt) => ∃ k j : Nat, n = Int32.ofNat k ∧ k ≤ 30 ∧ m = n ∧ cc = cm ∧ cm = Int32.ofNat j ∧ j ≤ 36 ∧ (∀ c, c < k → c3_r tg A K one two told c) ∧ (∀ i, kb K i = true → i % 2 = 0 ∧ i / 2 < k) ∧ ((dx ≠ 0 ∨ dy ≠ 0) → wr ≠ 0) ∧ (∀ r, wh.toInt.toNat ≤ r → r < 12 → cnt r = -1) ∧ 0 ≤ wh.toInt
def fx_grid (x y b : Int32) (f : Nat → Int32) : c3_K → c3_K
  | (n, tg, A, K, m, one, two, told, dx, dy, wr, cc, cm, wh, cnt) => if ev_wi x 2 6 = 0 then (n, tg, A, K, m, one, two, told, dx, dy, wr, cc, cm, wh, cnt) else if ev_wi y 2 6 = 0 then (n, tg, A, K, m, one, two, told, dx, dy, wr, cc, cm, wh, cnt) else (0, tg, 0, 0, m, one, two, told, 0, 0, b, x * y, cm, y + x, f)
def fm_grid (x y : Int32) : c3_K → c3_K
  | (n, tg, A, K, m, one, two, told, dx, dy, wr, cc, cm, wh, cnt) => if ev_wi x 2 6 = 0 then (n, tg, A, K, m, one, two, told, dx, dy, wr, cc, cm, wh, cnt) else if ev_wi y 2 6 = 0 then (n, tg, A, K, m, one, two, told, dx, dy, wr, cc, cm, wh, cnt) else (n, tg, A, K, 0, one, two, told, dx, dy, wr, cc, x * y, wh, cnt)
def fx_drift (x y : Int32) : c3_K → c3_K
  | (n, tg, A, K, m, one, two, told, dx, dy, wr, cc, cm, wh, cnt) => if ev_wi x (-1) 1 = 0 then (n, tg, A, K, m, one, two, told, dx, dy, wr, cc, cm, wh, cnt) else if ev_wi y (-1) 1 = 0 then (n, tg, A, K, m, one, two, told, dx, dy, wr, cc, cm, wh, cnt) else if wr = 0 then (n, tg, A, K, m, one, two, told, dx, dy, wr, cc, cm, wh, cnt) else (n, tg, A, K, m, one, two, told, x, y, wr, cc, cm, wh, cnt)
def fx_call (x : Int32) : c3_K → c3_K
  | (n, tg, A, K, m, one, two, told, dx, dy, wr, cc, cm, wh, cnt) => if ev_wi x 0 (cc - 1) = 0 then (n, tg, A, K, m, one, two, told, dx, dy, wr, cc, cm, wh, cnt) else if n < 30 then (n + 1, ev_putJ 30 tg n ((1 : Int64) <<< (x.toInt64 &&& 63)), A, K, m, one, two, told, dx, dy, wr, cc, cm, wh, cnt) else (n, tg, A, K, m, one, two, told, dx, dy, wr, cc, cm, wh, cnt)
def fm_call (x : Int32) : c3_K → c3_K
  | (n, tg, A, K, m, one, two, told, dx, dy, wr, cc, cm, wh, cnt) => if ev_wi x 0 (cm - 1) = 0 then (n, tg, A, K, m, one, two, told, dx, dy, wr, cc, cm, wh, cnt) else if m < 30 then (n, tg, A, K, m + 1, upd one m.toNatClampNeg x, upd two m.toNatClampNeg (-1), upd told m.toNatClampNeg (-1), dx, dy, wr, cc, cm, wh, cnt) else (n, tg, A, K, m, one, two, told, dx, dy, wr, cc, cm, wh, cnt)
def fx_salvo (x y : Int32) : c3_K → c3_K
  | (n, tg, A, K, m, one, two, told, dx, dy, wr, cc, cm, wh, cnt) => if ev_wi x 0 (cc - 1) = 0 then (n, tg, A, K, m, one, two, told, dx, dy, wr, cc, cm, wh, cnt) else if ev_wi y 0 (cc - 1) = 0 then (n, tg, A, K, m, one, two, told, dx, dy, wr, cc, cm, wh, cnt) else if x = y then (n, tg, A, K, m, one, two, told, dx, dy, wr, cc, cm, wh, cnt) else if n < 30 then (n + 1, ev_putJ 30 tg n (((1 : Int64) <<< (x.toInt64 &&& 63)) ||| ((1 : Int64) <<< (y.toInt64 &&& 63))), A, K, m, one, two, told, dx, dy, wr, cc, cm, wh, cnt) else (n, tg, A, K, m, one, two, told, dx, dy, wr, cc, cm, wh, cnt)
def fm_salvo (x y : Int32) : c3_K → c3_K
  | (n, tg, A, K, m, one, two, told, dx, dy, wr, cc, cm, wh, cnt) => if ev_wi x 0 (cm - 1) = 0 then (n, tg, A, K, m, one, two, told, dx, dy, wr, cc, cm, wh, cnt) else if ev_wi y 0 (cm - 1) = 0 then (n, tg, A, K, m, one, two, told, dx, dy, wr, cc, cm, wh, cnt) else if x = y then (n, tg, A, K, m, one, two, told, dx, dy, wr, cc, cm, wh, cnt) else if m < 30 then (n, tg, A, K, m + 1, upd one m.toNatClampNeg x, upd two m.toNatClampNeg y, upd told m.toNatClampNeg (-1), dx, dy, wr, cc, cm, wh, cnt) else (n, tg, A, K, m, one, two, told, dx, dy, wr, cc, cm, wh, cnt)
def fx_answer (x y : Int32) : c3_K → c3_K
  | (n, tg, A, K, m, one, two, told, dx, dy, wr, cc, cm, wh, cnt) => if ev_wi x 0 (n - 1) = 0 then (n, tg, A, K, m, one, two, told, dx, dy, wr, cc, cm, wh, cnt) else if ev_wi y 0 2 = 0 then (n, tg, A, K, m, one, two, told, dx, dy, wr, cc, cm, wh, cnt) else (n, tg, (((A) &&& (((3 : Int64) <<< ((((2 : Int32) * x) : Int32).toInt64 &&& 63)) ^^^ ((-1) : Int64))) ||| ((y.toInt64) <<< ((((2 : Int32) * x) : Int32).toInt64 &&& 63))), (((K) &&& (((1 : Int64) <<< ((((2 : Int32) * x) : Int32).toInt64 &&& 63)) ^^^ ((-1) : Int64))) ||| ((1 : Int64) <<< ((((2 : Int32) * x) : Int32).toInt64 &&& 63))), m, one, two, told, dx, dy, wr, cc, cm, wh, cnt)
def fm_answer (x y : Int32) : c3_K → c3_K
  | (n, tg, A, K, m, one, two, told, dx, dy, wr, cc, cm, wh, cnt) => if ev_wi x 0 (m - 1) = 0 then (n, tg, A, K, m, one, two, told, dx, dy, wr, cc, cm, wh, cnt) else if ev_wi y 0 2 = 0 then (n, tg, A, K, m, one, two, told, dx, dy, wr, cc, cm, wh, cnt) else (n, tg, A, K, m, one, two, upd told x.toNatClampNeg y, dx, dy, wr, cc, cm, wh, cnt)
def fx_lose (x : Int32) : c3_K → c3_K
  | (n, tg, A, K, m, one, two, told, dx, dy, wr, cc, cm, wh, cnt) => if ev_wi x 0 (n - 1) = 0 then (n, tg, A, K, m, one, two, told, dx, dy, wr, cc, cm, wh, cnt) else if td_at A K x.toNatClampNeg = -1 then (n, tg, A, K, m, one, two, told, dx, dy, wr, cc, cm, wh, cnt) else (n, tg, ((A) &&& (((3 : Int64) <<< ((((2 : Int32) * x) : Int32).toInt64 &&& 63)) ^^^ ((-1) : Int64))), ((K) &&& (((1 : Int64) <<< ((((2 : Int32) * x) : Int32).toInt64 &&& 63)) ^^^ ((-1) : Int64))), m, one, two, told, dx, dy, wr, cc, cm, wh, cnt)
def fm_lose (x : Int32) : c3_K → c3_K
  | (n, tg, A, K, m, one, two, told, dx, dy, wr, cc, cm, wh, cnt) => if ev_wi x 0 (m - 1) = 0 then (n, tg, A, K, m, one, two, told, dx, dy, wr, cc, cm, wh, cnt) else if told x.toNatClampNeg = -1 then (n, tg, A, K, m, one, two, told, dx, dy, wr, cc, cm, wh, cnt) else (n, tg, A, K, m, one, two, upd told x.toNatClampNeg (-1), dx, dy, wr, cc, cm, wh, cnt)
def fx_back  : c3_K → c3_K
  | (n, tg, A, K, m, one, two, told, dx, dy, wr, cc, cm, wh, cnt) => if n = 0 then (n, tg, A, K, m, one, two, told, dx, dy, wr, cc, cm, wh, cnt) else (n - 1, tg, ((A) &&& (((3 : Int64) <<< ((((2 : Int32) * (n - (1 : Int32))) : Int32).toInt64 &&& 63)) ^^^ ((-1) : Int64))), ((K) &&& (((1 : Int64) <<< ((((2 : Int32) * (n - (1 : Int32))) : Int32).toInt64 &&& 63)) ^^^ ((-1) : Int64))), m, one, two, told, dx, dy, wr, cc, cm, wh, cnt)
def fm_back  : c3_K → c3_K
  | (n, tg, A, K, m, one, two, told, dx, dy, wr, cc, cm, wh, cnt) => if m = 0 then (n, tg, A, K, m, one, two, told, dx, dy, wr, cc, cm, wh, cnt) else (n, tg, A, K, m - 1, one, two, told, dx, dy, wr, cc, cm, wh, cnt)
def fx_count (x y : Int32) : c3_K → c3_K
  | (n, tg, A, K, m, one, two, told, dx, dy, wr, cc, cm, wh, cnt) => if ev_wi x 0 (wh - 1) = 0 then (n, tg, A, K, m, one, two, told, dx, dy, wr, cc, cm, wh, cnt) else if ev_wi y 0 7 = 0 then (n, tg, A, K, m, one, two, told, dx, dy, wr, cc, cm, wh, cnt) else (n, tg, A, K, m, one, two, told, dx, dy, wr, cc, cm, wh, ev_put 12 cnt x (if y = 7 then -1 else y))
theorem pv_s (f : Nat → Int64) (k : Nat) (x : Int64) : vp_updL f k x k = x := by simp [vp_updL]
theorem pv_n (f : Nat → Int64) {k q : Nat} (x : Int64) (h : q ≠ k) : vp_updL f k x q = f q := by simp [vp_updL, h]
def rl3 (I : Nat → Nat → Int32) (J : Nat → Nat → Int64) (R : Nat → Nat) (T : List ez_C) : Prop := rl2 I J R T ∧ C3 (ck I J)
def ck_l : List (Nat × Nat) := [(8, 1), (8, 2), (8, 3), (35, 16), (1, 1), (1, 2), (1, 5), (1, 6), (35, 0), (35, 1), (1, 4), (1, 3)]
def ck_fx (md : List (Nat × Nat)) : Bool := (ck_l.all fun e => !cx_may md e.1 e.2) && ([9, 42, 43, 44, 33].all fun a => fr_no md a)
section
variable {I I' : Nat → Nat → Int32} {J J' : Nat → Nat → Int64} {R R' : Nat → Nat} {T T' : List ez_C}
theorem ck_hp (e : ev_hp I J R T = ev_hp I' J' R' T') : ck I J = ck I' J' := by
  have f1 : ∀ k, (k = 1 ∨ k = 2 ∨ k = 3 ∨ k = 4 ∨ k = 5 ∨ k = 6) → I 1 k = I' 1 k := by
    intro k hk
    rcases hk with rfl | rfl | rfl | rfl | rfl | rfl <;> exact hp_fld (n := 0) (show cx_Ds[1]? = some (0 + 2, _, _) from rfl) rfl e
  have f8 : I 8 1 = I' 8 1 := hp_fld (n := 0) (show cx_Ds[8]? = some (0 + 2, _, _) from rfl) rfl e
  have g2 : J 8 2 = J' 8 2 := hp_fldJ (n := 0) (show cx_Ds[8]? = some (0 + 2, _, _) from rfl) rfl e
  have g3 : J 8 3 = J' 8 3 := hp_fldJ (n := 0) (show cx_Ds[8]? = some (0 + 2, _, _) from rfl) rfl e
  have f35 : ∀ k, (k = 0 ∨ k = 1 ∨ k = 16) → I 35 k = I' 35 k := by
    intro k hk
    rcases hk with rfl | rfl | rfl <;> exact hp_fld (n := 0) (show cx_Ds[35]? = some (0 + 2, _, _) from rfl) rfl e
  have f42 : I 42 = I' 42 := hp_row (show cx_Ds[42]? = some (0, _, _) from rfl) e
  have f43 : I 43 = I' 43 := hp_row (show cx_Ds[43]? = some (0, _, _) from rfl) e
  have f44 : I 44 = I' 44 := hp_row (show cx_Ds[44]? = some (0, _, _) from rfl) e
  have f33 : I 33 = I' 33 := hp_row (show cx_Ds[33]? = some (0, _, _) from rfl) e
  have f9 : J 9 = J' 9 := hp_rowJ (show cx_Ds[9]? = some (1, _, _) from rfl) e
  unfold ck
  rw [f1 1 (by decide), f1 2 (by decide), f1 3 (by decide), f1 4 (by decide), f1 5 (by decide), f1 6 (by decide), f8, g2, g3, f35 0 (by decide), f35 1 (by decide), f35 16 (by decide), f42, f43, f44, f33, f9]
theorem ck_fr {md : List (Nat × Nat)} (h : ck_fx md = true) (hf : cx_fr md I J I' J') : ck I' J' = ck I J := by
  obtain ⟨h1, h2⟩ := Bool.and_eq_true_iff.mp h
  have f : ∀ a k, (a, k) ∈ ck_l → I' a k = I a k ∧ J' a k = J a k := fun a k hm => hf a k (by
    have := List.all_eq_true.mp h1 (a, k) hm
    simpa using this)
  have g : ∀ a, a ∈ [9, 42, 43, 44, 33] → fr_no md a = true := fun a hm => List.all_eq_true.mp h2 a hm
  unfold ck
  rw [(f 8 1 (by decide)).1, (f 8 2 (by decide)).2, (f 8 3 (by decide)).2, (f 35 16 (by decide)).1, (f 1 1 (by decide)).1, (f 1 2 (by decide)).1, (f 1 5 (by decide)).1, (f 1 6 (by decide)).1, (f 35 0 (by decide)).1, (f 35 1 (by decide)).1, (f 1 4 (by decide)).1, (f 1 3 (by decide)).1,
    fr_I (g 42 (by decide)) hf, fr_I (g 43 (by decide)) hf, fr_I (g 44 (by decide)) hf, fr_I (g 33 (by decide)) hf, fr_J (g 9 (by decide)) hf]
end
theorem lw_monoL {T : List ez_C} {M M2 : Int64 → (Nat → Nat → Int32) → (Nat → Nat → Int64) → (Nat → Nat) → List ez_C → Prop} (h : ∀ v I J R T, M v I J R T → M2 v I J R T) : ∀ r h1 c k, lw_midL T M r h1 c k → lw_midL T M2 r h1 c k := fun r h1 c k ⟨v, I, J, R, T, e1, e2, e3, e4, e5, e6⟩ => ⟨v, I, J, R, T, e1, e2, e3, e4, e5, h _ _ _ _ _ e6⟩
section
variable {X : ez_X} {m : Nat} {K : cx_K} {as : List Value} {σ0 : List Int} {I : Nat → Nat → Int32} {J : Nat → Nat → Int64} {R : Nat → Nat} {T : List ez_C} {P : (Nat → Nat → Int32) → (Nat → Nat → Int64) → Prop}
theorem r3_w {M : Int32 → (Nat → Nat → Int32) → (Nat → Nat → Int64) → (Nat → Nat) → List ez_C → Prop} (hl : ev_W X m 0 (ez_lay as) [] (ev_hp I J R T) 0 0 (lw_mid T M)) (he : ev_W X m 0 (ez_lay as) [] (ev_hp I J R T) 0 0 (fun _ h _ _ => ∃ A B, h = ev_hp A B R T ∧ P A B)) : ev_W X m 0 (ez_lay as) [] (ev_hp I J R T) 0 0 (lw_mid T (fun v I1 J1 R1 T1 => M v I1 J1 R1 T1 ∧ ∃ A B, ck I1 J1 = ck A B ∧ P A B)) := by
  refine (hl.both he).mono ?_
  rintro r h c k ⟨⟨v, I1, J1, R1, T1, e1, e2, e3, e4, e5, e6⟩, A, B, q1, q2⟩
  exact ⟨v, I1, J1, R1, T1, e1, e2, e3, e4, e5, e6, A, B, ck_hp (e2.symm.trans q1), q2⟩
theorem r3_wp {M : Int32 → (Nat → Nat → Int32) → (Nat → Nat → Int64) → (Nat → Nat) → List ez_C → Prop} (hl : ev_W X m 0 (ez_lay as) [] (ev_hp I J R T) 0 0 (lw_mid T M)) (he : ∀ N, pe N X m as (ev_hp I J R T) (fun _ h => ∃ A B, h = ev_hp A B R T ∧ P A B)) : ev_W X m 0 (ez_lay as) [] (ev_hp I J R T) 0 0 (lw_mid T (fun v I1 J1 R1 T1 => M v I1 J1 R1 T1 ∧ ∃ A B, ck I1 J1 = ck A B ∧ P A B)) := by
  refine (W_pe hl he).mono ?_
  rintro r h c k ⟨⟨v, I1, J1, R1, T1, e1, e2, e3, e4, e5, e6⟩, A, B, q1, q2⟩
  exact ⟨v, I1, J1, R1, T1, e1, e2, e3, e4, e5, e6, A, B, ck_hp (e2.symm.trans q1), q2⟩
theorem r3_v {M : Int32 → (Nat → Nat → Int32) → (Nat → Nat → Int64) → (Nat → Nat) → List ez_C → Prop} (hl : ev_W X m 0 (ez_lay as) [] (ev_hp I J R T) 0 0 (lw_mid T M)) (hv : cx_valid cx_B0 m K) (hX2 : X.1 < 2 ^ 31) (hh : cx_hok cx_B0 I R T) (hok : cx_ok σ0 K.1 (ez_lay as) [] I T) : ev_W X m 0 (ez_lay as) [] (ev_hp I J R T) 0 0 (lw_mid T (fun v I1 J1 R1 T1 => M v I1 J1 R1 T1 ∧ ∃ A B, ck I1 J1 = ck A B ∧ cx_fr K.2.1 I J A B)) := by
  refine (hl.both (hv X σ0 _ I J R T hX2 hh hok)).mono ?_
  rintro r h c k ⟨⟨v, I1, J1, R1, T1, e1, e2, e3, e4, e5, e6⟩, A, B, R2, T2, q1, -, q3, -⟩
  exact ⟨v, I1, J1, R1, T1, e1, e2, e3, e4, e5, e6, A, B, ck_hp (e2.symm.trans q1), q3⟩
theorem r3_vL {M : Int64 → (Nat → Nat → Int32) → (Nat → Nat → Int64) → (Nat → Nat) → List ez_C → Prop} (hl : ev_W X m 0 (ez_lay as) [] (ev_hp I J R T) 0 0 (lw_midL T M)) (hv : cx_valid cx_B0 m K) (hX2 : X.1 < 2 ^ 31) (hh : cx_hok cx_B0 I R T) (hok : cx_ok σ0 K.1 (ez_lay as) [] I T) : ev_W X m 0 (ez_lay as) [] (ev_hp I J R T) 0 0 (lw_midL T (fun v I1 J1 R1 T1 => M v I1 J1 R1 T1 ∧ ∃ A B, ck I1 J1 = ck A B ∧ cx_fr K.2.1 I J A B)) := by
  refine (hl.both (hv X σ0 _ I J R T hX2 hh hok)).mono ?_
  rintro r h c k ⟨⟨v, I1, J1, R1, T1, e1, e2, e3, e4, e5, e6⟩, A, B, R2, T2, q1, -, q3, -⟩
  exact ⟨v, I1, J1, R1, T1, e1, e2, e3, e4, e5, e6, A, B, ck_hp (e2.symm.trans q1), q3⟩
end
section
variable {N : Nat} {X : ez_X} {I : Nat → Nat → Int32} {J : Nat → Nat → Int64} {R : Nat → Nat} {T : List ez_C} {Q : pw_Q} {cz kz : Nat}
set_option maxRecDepth 100000 in
theorem cz_r0 {a0 : Int32} {a1 : Int32} : ∀ G : ez_F, fx_up X 3 G 166 0 [.ref 35, .int a0, .int a1] [] (ev_hp I J R T) cz kz = ev_C G 199 [.ref 35, .int a0] (ev_hp I J R T) fun r h1 c1 k1 => G 166 5 [.ref 35, .int a0, .int a1] (r.toList ++ []) h1 (cz + c1) (kz + k1) := by
  intro G
  rfl
set_option maxRecDepth 100000 in
theorem cz_r1 {a0 : Int32} {a1 : Int32} {a2 : Int32} : ∀ G : ez_F, fx_up X 1 G 166 5 [.ref 35, .int a0, .int a1] [.int a2] (ev_hp I J R T) cz kz = bif decide (¬ a2 = (0 : Int32)) then G 166 11 [.ref 35, .int a0, .int a1] [] (ev_hp I J R T) cz kz else G 166 8 [.ref 35, .int a0, .int a1] [] (ev_hp I J R T) cz kz := by
  intro G
  rfl
set_option maxRecDepth 100000 in
theorem cz_r2 {a0 : Int32} {a1 : Int32} : ∀ G : ez_F, fx_up X 5 G 166 11 [.ref 35, .int a0, .int a1] [] (ev_hp I J R T) cz kz = ev_C G 198 [.long a1.toInt64, .long (0 : Int64), .long (2 : Int64)] (ev_hp I J R T) fun r h1 c1 k1 => G 166 20 [.ref 35, .int a0, .int a1] (r.toList ++ []) h1 (cz + c1) (kz + k1) := by
  intro G
  rfl
set_option maxRecDepth 100000 in
theorem cz_r3 {a0 : Int32} {a1 : Int32} {a2 : Int32} : ∀ G : ez_F, fx_up X 1 G 166 20 [.ref 35, .int a0, .int a1] [.int a2] (ev_hp I J R T) cz kz = bif decide (¬ a2 = (0 : Int32)) then G 166 26 [.ref 35, .int a0, .int a1] [] (ev_hp I J R T) cz kz else G 166 23 [.ref 35, .int a0, .int a1] [] (ev_hp I J R T) cz kz := by
  intro G
  rfl
set_option maxRecDepth 100000 in
theorem cz_r4 {a0 : Int32} {a1 : Int32} : ∀ G : ez_F, fx_up X 3 G 166 26 [.ref 35, .int a0, .int a1] [] (ev_hp I J R T) cz kz = G 166 31 [.ref 35, .int a0, .int a1] [.int a0, .ref 44] (ev_hp I J R T) cz kz := by
  intro G
  rfl
set_option maxRecDepth 100000 in
theorem cz_r5 {a0 : Int32} {a1 : Int32} {a2 : Int32} : ∀ G : ez_F, fx_up X 5 G 166 32 [.ref 35, .int a0, .int a1] [.int a2] (ev_hp I J R T) cz kz = G 166 39 [.ref 35, .int a0, .int a1, .int a2] [.int a1, .int a0, .ref 44] (ev_hp I J R T) cz kz := by
  intro G
  rfl
set_option maxRecDepth 100000 in
theorem cz_r6 {a0 : Int32} {a1 : Int32} {a2 : Int32} : ∀ G : ez_F, fx_up X 2 G 166 40 [.ref 35, .int a0, .int a1, .int a2] [] (ev_hp I J R T) cz kz = some (some (.int a2), (ev_hp I J R T), cz, kz) := by
  intro G
  rfl
set_option maxRecDepth 100000 in
theorem cz_r7 {a0 : Int32} {a1 : Int32} : ∀ G : ez_F, fx_up X 2 G 166 23 [.ref 35, .int a0, .int a1] [] (ev_hp I J R T) cz kz = some (some (.int (-3 : Int32)), (ev_hp I J R T), cz, kz) := by
  intro G
  rfl
set_option maxRecDepth 100000 in
theorem cz_r8 {a0 : Int32} {a1 : Int32} : ∀ G : ez_F, fx_up X 2 G 166 8 [.ref 35, .int a0, .int a1] [] (ev_hp I J R T) cz kz = some (some (.int (-2 : Int32)), (ev_hp I J R T), cz, kz) := by
  intro G
  rfl
theorem cz_answer {x y : Int32}
    (H : ((¬ (ev_il (x.toInt64) 0 ((((I 35 16)) - (1 : Int32)).toInt64)) = (0 : Int32) → ((¬ (ev_il y.toInt64 (0 : Int64) (2 : Int64)) = (0 : Int32) → (ev_ix x 30 → (ev_ix x 30 → Q (some (.int (I 44 x.toNatClampNeg))) (ev_hp (ev_sI I 44 (upd (I 44) x.toNatClampNeg y)) J R T)))) ∧ (¬ (¬ (ev_il y.toInt64 (0 : Int64) (2 : Int64)) = (0 : Int32)) → Q (some (.int (-3 : Int32))) (ev_hp I J R T)))) ∧ (¬ (¬ (ev_il (x.toInt64) 0 ((((I 35 16)) - (1 : Int32)).toInt64)) = (0 : Int32)) → Q (some (.int (-2 : Int32))) (ev_hp I J R T)))) : pw (N + 1) X 166 0 [.ref 35, .int x, .int y] [] (ev_hp I J R T) Q := by
  refine pw_callp (by decide) (fun _ _ => cz_r0) (pe_is (em_isCall _ _ _ _ _ _)) ?_
  refine pw_p (pw_if (by decide) (fun _ _ => cz_r1) (fun w1 => ?_) (fun w1 => ?_))
  · have h1 := H.1 w1
    refine pw_p (pw_callp (by decide) (fun _ _ => cz_r2) (pe_is (ec_in _ _ _ _ _)) ?_)
    refine pw_p (pw_if (by decide) (fun _ _ => cz_r3) (fun w2 => ?_) (fun w2 => ?_))
    · have h2 := h1.1 w2
      refine pw_p (pw_seg (by decide) (fun _ _ => cz_r4) ?_)
      refine pw_p (pw_iald (by rfl) (cx_getI (show cx_Ds[44]? = some (0, 30, []) from rfl)) (fun w3 => ?_))
      have h3 := h2 w3
      refine pw_p (pw_seg (by decide) (fun _ _ => cz_r5) ?_)
      refine pw_p (pw_iast (by rfl) (cx_getI (show cx_Ds[44]? = some (0, 30, []) from rfl)) (cx_setI (show cx_Ds[44]? = some (0, 30, []) from rfl) _) (fun w3 => ?_))
      have h3 := h3 w3
      exact pw_p (pw_ret (by decide) (fun _ _ => cz_r6) h3)
    · have h2 := h1.2 w2
      exact pw_p (pw_ret (by decide) (fun _ _ => cz_r7) h2)
  · have h1 := H.2 w1
    exact pw_p (pw_ret (by decide) (fun _ _ => cz_r8) h1)
set_option maxRecDepth 100000 in
theorem cz_r9 {a0 : Int32} : ∀ G : ez_F, fx_up X 3 G 209 0 [.ref 35, .int a0] [] (ev_hp I J R T) cz kz = ev_C G 199 [.ref 35, .int a0] (ev_hp I J R T) fun r h1 c1 k1 => G 209 5 [.ref 35, .int a0] (r.toList ++ []) h1 (cz + c1) (kz + k1) := by
  intro G
  rfl
set_option maxRecDepth 100000 in
theorem cz_r10 {a0 : Int32} {a1 : Int32} : ∀ G : ez_F, fx_up X 1 G 209 5 [.ref 35, .int a0] [.int a1] (ev_hp I J R T) cz kz = bif decide (¬ a1 = (0 : Int32)) then G 209 11 [.ref 35, .int a0] [] (ev_hp I J R T) cz kz else G 209 8 [.ref 35, .int a0] [] (ev_hp I J R T) cz kz := by
  intro G
  rfl
set_option maxRecDepth 100000 in
theorem cz_r11 {a0 : Int32} : ∀ G : ez_F, fx_up X 3 G 209 11 [.ref 35, .int a0] [] (ev_hp I J R T) cz kz = G 209 16 [.ref 35, .int a0] [.int a0, .ref 44] (ev_hp I J R T) cz kz := by
  intro G
  rfl
set_option maxRecDepth 100000 in
theorem cz_r12 {a0 : Int32} {a1 : Int32} : ∀ G : ez_F, fx_up X 2 G 209 17 [.ref 35, .int a0] [.int a1] (ev_hp I J R T) cz kz = bif decide (¬ a1 = (-1 : Int32)) then G 209 24 [.ref 35, .int a0] [] (ev_hp I J R T) cz kz else G 209 21 [.ref 35, .int a0] [] (ev_hp I J R T) cz kz := by
  intro G
  rfl
set_option maxRecDepth 100000 in
theorem cz_r13 {a0 : Int32} : ∀ G : ez_F, fx_up X 4 G 209 24 [.ref 35, .int a0] [] (ev_hp I J R T) cz kz = G 209 30 [.ref 35, .int a0] [.int (-1 : Int32), .int a0, .ref 44] (ev_hp I J R T) cz kz := by
  intro G
  rfl
set_option maxRecDepth 100000 in
theorem cz_r14 {a0 : Int32} : ∀ G : ez_F, fx_up X 2 G 209 31 [.ref 35, .int a0] [] (ev_hp I J R T) cz kz = some (some (.int (1 : Int32)), (ev_hp I J R T), cz, kz) := by
  intro G
  rfl
set_option maxRecDepth 100000 in
theorem cz_r15 {a0 : Int32} : ∀ G : ez_F, fx_up X 2 G 209 21 [.ref 35, .int a0] [] (ev_hp I J R T) cz kz = some (some (.int (-4 : Int32)), (ev_hp I J R T), cz, kz) := by
  intro G
  rfl
set_option maxRecDepth 100000 in
theorem cz_r16 {a0 : Int32} : ∀ G : ez_F, fx_up X 2 G 209 8 [.ref 35, .int a0] [] (ev_hp I J R T) cz kz = some (some (.int (-2 : Int32)), (ev_hp I J R T), cz, kz) := by
  intro G
  rfl
theorem cz_lose {x : Int32}
    (H : ((¬ (ev_il (x.toInt64) 0 ((((I 35 16)) - (1 : Int32)).toInt64)) = (0 : Int32) → (ev_ix x 30 → ((¬ (I 44 x.toNatClampNeg) = (-1 : Int32) → (ev_ix x 30 → Q (some (.int (1 : Int32))) (ev_hp (ev_sI I 44 (upd (I 44) x.toNatClampNeg (-1 : Int32))) J R T))) ∧ (¬ (¬ (I 44 x.toNatClampNeg) = (-1 : Int32)) → Q (some (.int (-4 : Int32))) (ev_hp I J R T))))) ∧ (¬ (¬ (ev_il (x.toInt64) 0 ((((I 35 16)) - (1 : Int32)).toInt64)) = (0 : Int32)) → Q (some (.int (-2 : Int32))) (ev_hp I J R T)))) : pw (N + 1) X 209 0 [.ref 35, .int x] [] (ev_hp I J R T) Q := by
  refine pw_callp (by decide) (fun _ _ => cz_r9) (pe_is (em_isCall _ _ _ _ _ _)) ?_
  refine pw_p (pw_if (by decide) (fun _ _ => cz_r10) (fun w1 => ?_) (fun w1 => ?_))
  · have h1 := H.1 w1
    refine pw_p (pw_seg (by decide) (fun _ _ => cz_r11) ?_)
    refine pw_p (pw_iald (by rfl) (cx_getI (show cx_Ds[44]? = some (0, 30, []) from rfl)) (fun w2 => ?_))
    have h2 := h1 w2
    refine pw_p (pw_if (by decide) (fun _ _ => cz_r12) (fun w2 => ?_) (fun w2 => ?_))
    · have h2 := h2.1 w2
      refine pw_p (pw_seg (by decide) (fun _ _ => cz_r13) ?_)
      refine pw_p (pw_iast (by rfl) (cx_getI (show cx_Ds[44]? = some (0, 30, []) from rfl)) (cx_setI (show cx_Ds[44]? = some (0, 30, []) from rfl) _) (fun w3 => ?_))
      have h3 := h2 w3
      exact pw_p (pw_ret (by decide) (fun _ _ => cz_r14) h3)
    · have h2 := h2.2 w2
      exact pw_p (pw_ret (by decide) (fun _ _ => cz_r15) h2)
  · have h1 := H.2 w1
    exact pw_p (pw_ret (by decide) (fun _ _ => cz_r16) h1)
set_option maxRecDepth 100000 in
theorem cz_r17  : ∀ G : ez_F, fx_up X 2 G 168 0 [.ref 35] [] (ev_hp I J R T) cz kz = G 168 4 [.ref 35] [.int (I 35 16)] (ev_hp I J R T) cz kz := by
  intro G
  rfl
set_option maxRecDepth 100000 in
theorem cz_r18 {a0 : Int32} : ∀ G : ez_F, fx_up X 1 G 168 4 [.ref 35] [.int a0] (ev_hp I J R T) cz kz = bif decide (¬ a0 = (0 : Int32)) then G 168 10 [.ref 35] [] (ev_hp I J R T) cz kz else G 168 7 [.ref 35] [] (ev_hp I J R T) cz kz := by
  intro G
  rfl
set_option maxRecDepth 100000 in
theorem cz_r19  : ∀ G : ez_F, fx_up X 3 G 168 10 [.ref 35] [] (ev_hp I J R T) cz kz = G 168 15 [.ref 35] [.int (I 35 16), .ref 35] (ev_hp I J R T) cz kz := by
  intro G
  rfl
set_option maxRecDepth 100000 in
theorem cz_r20 {a0 : Int32} : ∀ G : ez_F, fx_up X 3 G 168 15 [.ref 35] [.int a0, .ref 35] (ev_hp I J R T) cz kz = G 168 20 [.ref 35] [] (ev_hp (ev_sI I 35 (upd (I 35) 16 (a0 - (1 : Int32)))) J R T) cz kz := by
  intro G
  rfl
set_option maxRecDepth 100000 in
theorem cz_r21  : ∀ G : ez_F, fx_up X 2 G 168 20 [.ref 35] [] (ev_hp I J R T) cz kz = G 168 24 [.ref 35] [.int (I 35 16)] (ev_hp I J R T) cz kz := by
  intro G
  rfl
set_option maxRecDepth 100000 in
theorem cz_r22 {a0 : Int32} : ∀ G : ez_F, fx_up X 1 G 168 24 [.ref 35] [.int a0] (ev_hp I J R T) cz kz = some (some (.int a0), (ev_hp I J R T), cz, kz) := by
  intro G
  rfl
set_option maxRecDepth 100000 in
theorem cz_r23  : ∀ G : ez_F, fx_up X 2 G 168 7 [.ref 35] [] (ev_hp I J R T) cz kz = some (some (.int (-4 : Int32)), (ev_hp I J R T), cz, kz) := by
  intro G
  rfl
theorem cz_back 
    (H : ((¬ (I 35 16) = (0 : Int32) → Q (some (.int ((I 35 16) - (1 : Int32)))) (ev_hp (ev_sI I 35 (upd (I 35) 16 ((I 35 16) - (1 : Int32)))) J R T)) ∧ (¬ (¬ (I 35 16) = (0 : Int32)) → Q (some (.int (-4 : Int32))) (ev_hp I J R T)))) : pw (N + 1) X 168 0 [.ref 35] [] (ev_hp I J R T) Q := by
  refine pw_seg (by decide) (fun _ _ => cz_r17) ?_
  refine pw_p (pw_if (by decide) (fun _ _ => cz_r18) (fun w1 => ?_) (fun w1 => ?_))
  · have h1 := H.1 w1
    refine pw_p (pw_seg (by decide) (fun _ _ => cz_r19) ?_)
    refine pw_p (pw_seg (by decide) (fun _ _ => cz_r20) ?_)
    refine pw_p (pw_seg (by decide) (fun _ _ => cz_r21) ?_)
    exact pw_p (pw_ret (by decide) (fun _ _ => cz_r22) h1)
  · have h1 := H.2 w1
    exact pw_p (pw_ret (by decide) (fun _ _ => cz_r23) h1)
end
/-! the calls that change it, exactly -/
section
variable {N : Nat} {X : ez_X} {I : Nat → Nat → Int32} {J : Nat → Nat → Int64} {R : Nat → Nat} {T : List ez_C}
theorem x3_grid (x y z : Int32) (hz : z = 0 ∨ z = 1) : ev_W X 18 0 (ez_lay [.ref 0, .int x, .int y, .int z]) [] (ev_hp I J R T) 0 0 (fun _ h _ _ => ∃ A B, h = ev_hp A B R T ∧ ∃ f, (∀ j, j < 12 → f j = -1) ∧ ck A B = fx_grid x y z f (ck I J)) := by
  rcases hz with rfl | rfl
  · refine (eg_grid0 X I J R T x y).mono ?_
    rintro r h1 c1 k1 (⟨a, e, hh, -⟩ | ⟨z, y, f, hf, a, b, e, hh, -⟩ | ⟨a, b, e, hh, -⟩)
    · exact ⟨I, J, hh, fun _ => -1, fun _ _ => rfl, (if_pos a).symm⟩
    · exact ⟨_, _, hh, f, hf, ((if_neg a).trans (if_neg b)).symm⟩
    · exact ⟨I, J, hh, fun _ => -1, fun _ _ => rfl, ((if_neg a).trans (if_pos (nn b))).symm⟩
  · refine (eg_grid1 X I J R T x y).mono ?_
    rintro r h1 c1 k1 (⟨a, e, hh, -⟩ | ⟨z, y, f, hf, a, b, e, hh, -⟩ | ⟨a, b, e, hh, -⟩)
    · exact ⟨I, J, hh, fun _ => -1, fun _ _ => rfl, (if_pos a).symm⟩
    · exact ⟨_, _, hh, f, hf, ((if_neg a).trans (if_neg b)).symm⟩
    · exact ⟨I, J, hh, fun _ => -1, fun _ _ => rfl, ((if_neg a).trans (if_pos (nn b))).symm⟩
theorem y3_grid (x y z : Int32) (hz : z = 0 ∨ z = 1) : ev_W X 195 0 (ez_lay [.ref 35, .int x, .int y, .int z]) [] (ev_hp I J R T) 0 0 (fun _ h _ _ => ∃ A B, h = ev_hp A B R T ∧ ck A B = fm_grid x y (ck I J)) := by
  rcases hz with rfl | rfl
  · refine (em_grid0 X I J R T x y).mono ?_
    rw [il_26 x, il_26 y]
    rintro r h1 c1 k1 (⟨a, e, hh, -⟩ | ⟨a, b, e, hh, -⟩ | ⟨a, b, e, hh, -⟩)
    · exact ⟨I, J, hh, (if_pos a).symm⟩
    · exact ⟨_, _, hh, ((if_neg a).trans (if_neg b)).symm⟩
    · exact ⟨I, J, hh, ((if_neg a).trans (if_pos (nn b))).symm⟩
  · refine (em_grid1 X I J R T x y).mono ?_
    rw [il_26 x, il_26 y]
    rintro r h1 c1 k1 (⟨a, e, hh, -⟩ | ⟨a, b, e, hh, -⟩ | ⟨a, b, e, hh, -⟩)
    · exact ⟨I, J, hh, (if_pos a).symm⟩
    · exact ⟨_, _, hh, ((if_neg a).trans (if_neg b)).symm⟩
    · exact ⟨I, J, hh, ((if_neg a).trans (if_pos (nn b))).symm⟩
theorem x3_drift (x y : Int32) : ev_W X 16 0 (ez_lay [.ref 0, .int x, .int y]) [] (ev_hp I J R T) 0 0 (fun _ h _ _ => ∃ A B, h = ev_hp A B R T ∧ ck A B = fx_drift x y (ck I J)) := by
  refine (eg_drift X I J R T x y).mono ?_
  rintro r h1 c1 k1 (⟨a0, e, hh, -⟩ | ⟨a0, a1, a2, e, hh, -⟩ | ⟨a0, a1, a2, e, hh, -⟩ | ⟨a0, a1, e, hh, -⟩)
  · exact ⟨I, J, hh, (if_pos a0).symm⟩
  · exact ⟨_, _, hh, ((if_neg a0).trans ((if_neg a1).trans (if_neg a2))).symm⟩
  · exact ⟨I, J, hh, ((if_neg a0).trans ((if_neg a1).trans (if_pos (nn a2)))).symm⟩
  · exact ⟨I, J, hh, ((if_neg a0).trans (if_pos (nn a1))).symm⟩
theorem x3_call (x : Int32) : ev_W X 10 0 (ez_lay [.ref 0, .int x]) [] (ev_hp I J R T) 0 0 (fun _ h _ _ => ∃ A B, h = ev_hp A B R T ∧ ck A B = fx_call x (ck I J)) := by
  refine (eg_call X I J R T x).mono ?_
  rintro r h1 c1 k1 (⟨a0, e, hh, -⟩ | ⟨a0, a1, e, hh, -⟩ | ⟨a0, a1, e, hh, -⟩)
  · exact ⟨I, J, hh, (if_pos a0).symm⟩
  · exact ⟨_, _, hh, ((if_neg a0).trans (if_pos a1)).symm⟩
  · exact ⟨I, J, hh, ((if_neg a0).trans (if_neg a1)).symm⟩
theorem y3_call (hB : cx_hB cx_B0 I) (x : Int32) : ev_W X 175 0 (ez_lay [.ref 35, .int x]) [] (ev_hp I J R T) 0 0 (fun _ h _ _ => ∃ A B, h = ev_hp A B R T ∧ ck A B = fm_call x (ck I J)) := by
  have hb := (b_ca hB).2
  refine (em_call X I J R T x (ca_ix hb)).mono ?_
  rw [il_0 x]
  rintro r h1 c1 k1 (⟨a0, a1, e, hh, -⟩ | ⟨a0, a1, e, hh, -⟩ | ⟨a0, e, hh, -⟩)
  · exact ⟨_, _, hh, ((if_neg a0).trans (if_pos (ca_lt hb a1))).symm⟩
  · exact ⟨I, J, hh, ((if_neg a0).trans (if_neg (show ¬ I 35 16 < 30 by rw [nn a1]; decide))).symm⟩
  · exact ⟨I, J, hh, (if_pos (nn a0)).symm⟩
theorem x3_salvo (x y : Int32) : ev_W X 41 0 (ez_lay [.ref 0, .int x, .int y]) [] (ev_hp I J R T) 0 0 (fun _ h _ _ => ∃ A B, h = ev_hp A B R T ∧ ck A B = fx_salvo x y (ck I J)) := by
  refine (eg_salvo X I J R T x y).mono ?_
  rintro r h1 c1 k1 (⟨a0, e, hh, -⟩ | ⟨a0, a1, a2, a3, e, hh, -⟩ | ⟨a0, a1, a2, a3, e, hh, -⟩ | ⟨a0, a1, a2, e, hh, -⟩ | ⟨a0, a1, e, hh, -⟩)
  · exact ⟨I, J, hh, (if_pos a0).symm⟩
  · exact ⟨_, _, hh, ((if_neg a0).trans ((if_neg a1).trans ((if_neg a2).trans (if_pos a3)))).symm⟩
  · exact ⟨I, J, hh, ((if_neg a0).trans ((if_neg a1).trans ((if_neg a2).trans (if_neg a3)))).symm⟩
  · exact ⟨I, J, hh, ((if_neg a0).trans ((if_neg a1).trans (if_pos (nn a2)))).symm⟩
  · exact ⟨I, J, hh, ((if_neg a0).trans (if_pos (nn a1))).symm⟩
theorem y3_salvo (hB : cx_hB cx_B0 I) (x y : Int32) : ev_W X 218 0 (ez_lay [.ref 35, .int x, .int y]) [] (ev_hp I J R T) 0 0 (fun _ h _ _ => ∃ A B, h = ev_hp A B R T ∧ ck A B = fm_salvo x y (ck I J)) := by
  have hb := (b_ca hB).2
  refine (em_salvo X I J R T x y (ca_ix hb)).mono ?_
  rw [il_0 x, il_0 y]
  rintro r h1 c1 k1 (⟨a0, e, hh, -⟩ | ⟨a0, a1, a2, a3, e, hh, -⟩ | ⟨a0, a1, a2, a3, e, hh, -⟩ | ⟨a0, a1, a2, e, hh, -⟩ | ⟨a0, a1, e, hh, -⟩)
  · exact ⟨I, J, hh, (if_pos a0).symm⟩
  · exact ⟨_, _, hh, ((if_neg a0).trans ((if_neg a1).trans ((if_neg a2).trans (if_pos (ca_lt hb a3))))).symm⟩
  · exact ⟨I, J, hh, ((if_neg a0).trans ((if_neg a1).trans ((if_neg a2).trans (if_neg (show ¬ I 35 16 < 30 by rw [nn a3]; decide))))).symm⟩
  · exact ⟨I, J, hh, ((if_neg a0).trans ((if_neg a1).trans (if_pos (nn a2)))).symm⟩
  · exact ⟨I, J, hh, ((if_neg a0).trans (if_pos (nn a1))).symm⟩
theorem x3_answer (hB : cx_hB cx_B0 I) (x y : Int32) : ev_W X 1 0 (ez_lay [.ref 0, .int x, .int y]) [] (ev_hp I J R T) 0 0 (fun _ h _ _ => ∃ A B, h = ev_hp A B R T ∧ ck A B = fx_answer x y (ck I J)) := by
  refine (eg_answer X I J R T x y).mono ?_
  rintro r h1 c1 k1 (⟨a0, a1, a2, e, hh, -⟩ | ⟨a0, a1, a2, e, hh, -⟩ | ⟨a0, a1, e, hh, -⟩ | ⟨a0, e, hh, -⟩)
  · exact ⟨_, _, hh, ((if_neg a0).trans (if_neg a1)).symm⟩
  · exact ⟨_, _, hh, ((if_neg a0).trans (if_neg a1)).symm⟩
  · exact ⟨I, J, hh, ((if_neg a0).trans (if_pos (nn a1))).symm⟩
  · exact ⟨I, J, hh, (if_pos (nn a0)).symm⟩
theorem y3_answer (hB : cx_hB cx_B0 I) (x y : Int32) : pe N X 166 [.ref 35, .int x, .int y] (ev_hp I J R T) (fun _ h => ∃ A B, h = ev_hp A B R T ∧ ck A B = fm_answer x y (ck I J)) := by
  refine pe_of (pw_p (cz_answer ?_))
  rw [il_0 x, il_02 y]
  refine ⟨fun a0 => ⟨fun a1 _ _ => ⟨_, _, rfl, ((if_neg a0).trans (if_neg a1)).symm⟩, fun a1 => ⟨I, J, rfl, ((if_neg a0).trans (if_pos (nn a1))).symm⟩⟩, fun a0 => ⟨I, J, rfl, (if_pos (nn a0)).symm⟩⟩
theorem x3_lose (hB : cx_hB cx_B0 I) (x : Int32) : ev_W X 32 0 (ez_lay [.ref 0, .int x]) [] (ev_hp I J R T) 0 0 (fun _ h _ _ => ∃ A B, h = ev_hp A B R T ∧ ck A B = fx_lose x (ck I J)) := by
  have hb := (b_ca hB).1
  refine (eg_lose X I J R T x).mono ?_
  by_cases ha : ev_wi x 0 (I 8 1 - 1) = 0
  · rintro r h1 c1 k1 (⟨a0, -⟩ | ⟨a0, -⟩ | ⟨a0, -⟩ | ⟨a0, e, hh, -⟩)
    · exact absurd ha a0
    · exact absurd ha a0
    · exact absurd ha a0
    · exact ⟨I, J, hh, (if_pos ha).symm⟩
  obtain ⟨g0, g1⟩ := ca_in hb ha
  have hk : x.toNatClampNeg < 30 := by rw [nd_nat]; omega
  have ec : x = Int32.ofNat x.toNatClampNeg := (nd_ofNat g0).symm
  have known : ∀ h : ¬ lg_cmp ((((J 8 3).toUInt64 >>> ((((2 : Int32) * x) : Int32).toInt64.toUInt64 &&& 63)).toInt64) &&& (1 : Int64)) 0 = 0, td_at (J 8 2) (J 8 3) x.toNatClampNeg = ((((J 8 2).toUInt64 >>> ((((2 : Int32) * x) : Int32).toInt64.toUInt64 &&& 63)).toInt64) &&& (3 : Int64)).toInt32 := by
    intro h
    have e := td_is (J 8 2) (J 8 3) hk
    unfold td_u at e
    rw [← ec] at e
    exact e h
  have unknown : ∀ h : ¬ ¬ lg_cmp ((((J 8 3).toUInt64 >>> ((((2 : Int32) * x) : Int32).toInt64.toUInt64 &&& 63)).toInt64) &&& (1 : Int64)) 0 = 0, td_at (J 8 2) (J 8 3) x.toNatClampNeg = -1 := by
    intro h
    have e := td_not (J 8 2) (J 8 3) hk
    unfold td_u at e
    rw [← ec] at e
    exact e h
  rintro r h1 c1 k1 (⟨a0, a1, a2, e, hh, -⟩ | ⟨a0, a1, a2, e, hh, -⟩ | ⟨a0, a1, e, hh, -⟩ | ⟨a0, -⟩)
  · rw [← known a1] at a2
    exact ⟨_, _, hh, ((if_neg ha).trans (if_neg a2)).symm⟩
  · rw [← known a1] at a2
    exact ⟨I, J, hh, ((if_neg ha).trans (if_pos (nn a2))).symm⟩
  · exact ⟨I, J, hh, ((if_neg ha).trans (if_pos (unknown a1))).symm⟩
  · exact absurd (nn a0) ha
theorem y3_lose (hB : cx_hB cx_B0 I) (x : Int32) : pe N X 209 [.ref 35, .int x] (ev_hp I J R T) (fun _ h => ∃ A B, h = ev_hp A B R T ∧ ck A B = fm_lose x (ck I J)) := by
  refine pe_of (pw_p (cz_lose ?_))
  rw [il_0 x]
  refine ⟨fun a0 _ => ⟨fun a1 _ => ⟨_, _, rfl, ((if_neg a0).trans (if_neg a1)).symm⟩, fun a1 => ⟨I, J, rfl, ((if_neg a0).trans (if_pos (nn a1))).symm⟩⟩, fun a0 => ⟨I, J, rfl, (if_pos (nn a0)).symm⟩⟩
theorem x3_back (hB : cx_hB cx_B0 I) : ev_W X 5 0 (ez_lay [.ref 0]) [] (ev_hp I J R T) 0 0 (fun _ h _ _ => ∃ A B, h = ev_hp A B R T ∧ ck A B = fx_back (ck I J)) := by
  have hb := (b_ca hB).1
  have e0 : (0 : Int32).toInt = 0 := by decide
  have e1 : (1 : Int32).toInt = 1 := by decide
  refine (eg_back X I J R T).mono ?_
  rintro r h1 c1 k1 (⟨a0, a1, e, hh, -⟩ | ⟨a0, a1, e, hh, -⟩ | ⟨a0, e, hh, -⟩)
  · have z0 := Int32.le_iff_toInt_le.mp a0
    have z1 := Int32.le_iff_toInt_le.mp a1
    omega
  · refine ⟨_, _, hh, (if_neg ?_).symm⟩
    show ¬ I 8 1 = 0
    intro z
    rw [z] at a1
    exact a1 (by decide)
  · refine ⟨I, J, hh, (if_pos ?_).symm⟩
    show I 8 1 = 0
    have z : ¬ (1 : Int32).toInt ≤ (I 8 1).toInt := fun y => a0 (Int32.le_iff_toInt_le.mpr y)
    rw [← Int32.toInt_inj]
    omega
theorem y3_back (hB : cx_hB cx_B0 I) : pe N X 168 [.ref 35] (ev_hp I J R T) (fun _ h => ∃ A B, h = ev_hp A B R T ∧ ck A B = fm_back (ck I J)) :=
  pe_of (pw_p (cz_back ⟨fun a0 => ⟨_, _, rfl, (if_neg (show ¬ I 35 16 = 0 from a0)).symm⟩, fun a0 => ⟨I, J, rfl, (if_pos (show I 35 16 = 0 from nn a0)).symm⟩⟩))
theorem x3_count (hB : cx_hB cx_B0 I) (x y : Int32) : ev_W X 14 0 (ez_lay [.ref 0, .int x, .int y]) [] (ev_hp I J R T) 0 0 (fun _ h _ _ => ∃ A B, h = ev_hp A B R T ∧ ck A B = fx_count x y (ck I J)) := by
  refine (eg_count X I J R T x y).mono ?_
  rintro r h1 c1 k1 (⟨a0, a1, e, hh, -⟩ | ⟨a0, a1, a2, e, hh, -⟩ | ⟨a0, a1, a2, e, hh, -⟩ | ⟨a0, e, hh, -⟩)
  · exact ⟨I, J, hh, ((if_neg a0).trans (if_pos a1)).symm⟩
  · refine ⟨_, _, hh, Eq.trans ?_ ((if_neg a0).trans (if_neg a1)).symm⟩
    rw [if_neg a2]
    rfl
  · refine ⟨_, _, hh, Eq.trans ?_ ((if_neg a0).trans (if_neg a1)).symm⟩
    rw [if_pos (nn a2)]
    rfl
  · exact ⟨I, J, hh, (if_pos (nn a0)).symm⟩
end
/-! and what it says stays so -/
theorem io_sub1 {k : Nat} (h : 0 < k) : Int32.ofNat k - 1 = Int32.ofNat (k - 1) := io_sub (a := k) (b := 1) h
theorem wh_pos {x y : Int32} (hx : ¬ ev_wi x 2 6 = 0) (hy : ¬ ev_wi y 2 6 = 0) : ∃ j : Nat, x * y = Int32.ofNat j ∧ j ≤ 36 := by
  obtain ⟨a, rfl, -, ha⟩ := wi_nat (u := 2) (v := 6) (by omega) hx (by omega)
  obtain ⟨b, rfl, -, hb⟩ := wi_nat (u := 2) (v := 6) (by omega) hy (by omega)
  exact ⟨a * b, io_mul a b, Nat.mul_le_mul ha hb⟩
theorem C3_grid (x y z : Int32) (f : Nat → Int32) {K : c3_K} (h : C3 K) (hf : ∀ j, j < 12 → f j = -1) : C3 (fm_grid x y (fx_grid x y z f K)) := by
  obtain ⟨n, tg, A, K, m, one, two, told, dx, dy, wr, cc, cm, wh, cnt⟩ := K
  by_cases a0 : ev_wi x 2 6 = 0
  · rw [show fx_grid x y z f (n, tg, A, K, m, one, two, told, dx, dy, wr, cc, cm, wh, cnt) = (n, tg, A, K, m, one, two, told, dx, dy, wr, cc, cm, wh, cnt) from if_pos a0, show fm_grid x y (n, tg, A, K, m, one, two, told, dx, dy, wr, cc, cm, wh, cnt) = (n, tg, A, K, m, one, two, told, dx, dy, wr, cc, cm, wh, cnt) from if_pos a0]
    exact h
  by_cases a1 : ev_wi y 2 6 = 0
  · rw [show fx_grid x y z f (n, tg, A, K, m, one, two, told, dx, dy, wr, cc, cm, wh, cnt) = (n, tg, A, K, m, one, two, told, dx, dy, wr, cc, cm, wh, cnt) from (if_neg a0).trans (if_pos a1), show fm_grid x y (n, tg, A, K, m, one, two, told, dx, dy, wr, cc, cm, wh, cnt) = (n, tg, A, K, m, one, two, told, dx, dy, wr, cc, cm, wh, cnt) from (if_neg a0).trans (if_pos a1)]
    exact h
  rw [show fx_grid x y z f (n, tg, A, K, m, one, two, told, dx, dy, wr, cc, cm, wh, cnt) = (0, tg, 0, 0, m, one, two, told, 0, 0, z, x * y, cm, y + x, f) from (if_neg a0).trans (if_neg a1), show fm_grid x y (0, tg, 0, 0, m, one, two, told, 0, 0, z, x * y, cm, y + x, f) = (0, tg, 0, 0, 0, one, two, told, 0, 0, z, x * y, x * y, y + x, f) from (if_neg a0).trans (if_neg a1)]
  obtain ⟨j, ej, hj⟩ := wh_pos a0 a1
  refine ⟨0, j, rfl, by omega, rfl, rfl, ej, hj, fun c hc => absurd hc (by omega), fun i hi => ?_, fun hd => ?_, fun r _ hr => hf r hr, ?_⟩
  · rw [kb_0] at hi
    cases hi
  · rcases hd with hd | hd <;> exact absurd rfl hd
  · obtain ⟨a, rfl, -, ha⟩ := wi_nat (u := 2) (v := 6) (by omega) a0 (by omega)
    obtain ⟨b, rfl, -, hb⟩ := wi_nat (u := 2) (v := 6) (by omega) a1 (by omega)
    rw [io_add, io_ti (by omega)]
    omega
theorem C3_drift (x y : Int32) {K : c3_K} (h : C3 K) : C3 (fx_drift x y K) := by
  obtain ⟨n, tg, A, K, m, one, two, told, dx, dy, wr, cc, cm, wh, cnt⟩ := K
  by_cases a0 : ev_wi x (-1) 1 = 0
  · rw [show fx_drift x y (n, tg, A, K, m, one, two, told, dx, dy, wr, cc, cm, wh, cnt) = (n, tg, A, K, m, one, two, told, dx, dy, wr, cc, cm, wh, cnt) from if_pos a0]
    exact h
  by_cases a1 : ev_wi y (-1) 1 = 0
  · rw [show fx_drift x y (n, tg, A, K, m, one, two, told, dx, dy, wr, cc, cm, wh, cnt) = (n, tg, A, K, m, one, two, told, dx, dy, wr, cc, cm, wh, cnt) from (if_neg a0).trans (if_pos a1)]
    exact h
  by_cases a2 : wr = 0
  · rw [show fx_drift x y (n, tg, A, K, m, one, two, told, dx, dy, wr, cc, cm, wh, cnt) = (n, tg, A, K, m, one, two, told, dx, dy, wr, cc, cm, wh, cnt) from (if_neg a0).trans ((if_neg a1).trans (if_pos a2))]
    exact h
  rw [show fx_drift x y (n, tg, A, K, m, one, two, told, dx, dy, wr, cc, cm, wh, cnt) = (n, tg, A, K, m, one, two, told, x, y, wr, cc, cm, wh, cnt) from (if_neg a0).trans ((if_neg a1).trans (if_neg a2))]
  obtain ⟨k, j, e1, hk, e2, e3, e4, hj, h1, h2, h3, h4⟩ := h
  exact ⟨k, j, e1, hk, e2, e3, e4, hj, h1, h2, fun _ => a2, h4⟩
theorem td_new {A K : Int64} {k : Nat} (h2 : ∀ i, kb K i = true → i % 2 = 0 ∧ i / 2 < k) : td_at A K k = -1 := by
  unfold td_at
  cases hz : kb K (2 * k) with
  | false => rfl
  | true =>
    have := (h2 _ hz).2
    omega
theorem C3_new {k j : Nat} {tg : Nat → Int64} {A K : Int64} {one two told : Nat → Int32} {dx dy wr wh : Int32} {cnt : Nat → Int32} {x y : Int32} (hk : k < 30) (hj : j ≤ 36) (h1 : ∀ c, c < k → c3_r tg A K one two told c) (h2 : ∀ i, kb K i = true → i % 2 = 0 ∧ i / 2 < k) (h3 : (dx ≠ 0 ∨ dy ≠ 0) → wr ≠ 0) (h4 : (∀ r, wh.toInt.toNat ≤ r → r < 12 → cnt r = -1) ∧ 0 ≤ wh.toInt) (hx : cel x) (hy : y = -1 ∨ (cel y ∧ y ≠ x)) {u : Int64} (hu : u = tgt x y) :
    C3 (Int32.ofNat k + 1, ev_putJ 30 tg (Int32.ofNat k) u, A, K, Int32.ofNat k + 1, upd one (Int32.ofNat k).toNatClampNeg x, upd two (Int32.ofNat k).toNatClampNeg y, upd told (Int32.ofNat k).toNatClampNeg (-1), dx, dy, wr, Int32.ofNat j, Int32.ofNat j, wh, cnt) := by
  rw [io_cl (show k < 2147483648 by omega), putJ_in hk (by omega)]
  refine ⟨k + 1, j, io_1 k, by omega, rfl, rfl, rfl, hj, fun c hc => ?_, fun i hi => ?_, h3, h4⟩
  · by_cases hck : c = k
    · subst hck
      unfold c3_r
      rw [pv_s, nd_upd_s, nd_upd_s, nd_upd_s]
      exact ⟨hu, hx, hy, td_new h2, Or.inl rfl⟩
    · exact c3_rc (h1 c (by omega)) (pv_n _ _ hck) (nd_upd_n _ _ hck) (nd_upd_n _ _ hck) rfl (nd_upd_n _ _ hck)
  · have := h2 i hi
    omega
theorem lt_30 {k : Nat} (hk : k ≤ 30) : Int32.ofNat k < 30 ↔ k < 30 := by
  rw [show (30 : Int32) = Int32.ofNat 30 from rfl, io_lt (by omega) (by omega)]
theorem C3_call (x : Int32) {K : c3_K} (h : C3 K) : C3 (fm_call x (fx_call x K)) := by
  obtain ⟨n, tg, A, K, m, one, two, told, dx, dy, wr, cc, cm, wh, cnt⟩ := K
  have h0 := h
  obtain ⟨k, j, rfl, hk, rfl, rfl, rfl, hj, h1, h2, h3, h4⟩ := h
  by_cases a0 : ev_wi x 0 (Int32.ofNat j - 1) = 0
  · rw [show fx_call x (Int32.ofNat k, tg, A, K, Int32.ofNat k, one, two, told, dx, dy, wr, Int32.ofNat j, Int32.ofNat j, wh, cnt) = (Int32.ofNat k, tg, A, K, Int32.ofNat k, one, two, told, dx, dy, wr, Int32.ofNat j, Int32.ofNat j, wh, cnt) from if_pos a0, show fm_call x (Int32.ofNat k, tg, A, K, Int32.ofNat k, one, two, told, dx, dy, wr, Int32.ofNat j, Int32.ofNat j, wh, cnt) = (Int32.ofNat k, tg, A, K, Int32.ofNat k, one, two, told, dx, dy, wr, Int32.ofNat j, Int32.ofNat j, wh, cnt) from if_pos a0]
    exact h0
  by_cases a1 : Int32.ofNat k < 30
  · rw [show fx_call x (Int32.ofNat k, tg, A, K, Int32.ofNat k, one, two, told, dx, dy, wr, Int32.ofNat j, Int32.ofNat j, wh, cnt) = (Int32.ofNat k + 1, ev_putJ 30 tg (Int32.ofNat k) ((1 : Int64) <<< (x.toInt64 &&& 63)), A, K, Int32.ofNat k, one, two, told, dx, dy, wr, Int32.ofNat j, Int32.ofNat j, wh, cnt) from (if_neg a0).trans (if_pos a1),
      show fm_call x (Int32.ofNat k + 1, ev_putJ 30 tg (Int32.ofNat k) ((1 : Int64) <<< (x.toInt64 &&& 63)), A, K, Int32.ofNat k, one, two, told, dx, dy, wr, Int32.ofNat j, Int32.ofNat j, wh, cnt) = (Int32.ofNat k + 1, ev_putJ 30 tg (Int32.ofNat k) ((1 : Int64) <<< (x.toInt64 &&& 63)), A, K, Int32.ofNat k + 1, upd one (Int32.ofNat k).toNatClampNeg x, upd two (Int32.ofNat k).toNatClampNeg (-1), upd told (Int32.ofNat k).toNatClampNeg (-1), dx, dy, wr, Int32.ofNat j, Int32.ofNat j, wh, cnt) from (if_neg a0).trans (if_pos a1)]
    obtain ⟨i, ei, hi⟩ := wi_lt (by omega) a0
    exact C3_new ((lt_30 hk).mp a1) hj h1 h2 h3 h4 ⟨i, ei, by omega⟩ (Or.inl rfl) (if_pos rfl).symm
  · rw [show fx_call x (Int32.ofNat k, tg, A, K, Int32.ofNat k, one, two, told, dx, dy, wr, Int32.ofNat j, Int32.ofNat j, wh, cnt) = (Int32.ofNat k, tg, A, K, Int32.ofNat k, one, two, told, dx, dy, wr, Int32.ofNat j, Int32.ofNat j, wh, cnt) from (if_neg a0).trans (if_neg a1), show fm_call x (Int32.ofNat k, tg, A, K, Int32.ofNat k, one, two, told, dx, dy, wr, Int32.ofNat j, Int32.ofNat j, wh, cnt) = (Int32.ofNat k, tg, A, K, Int32.ofNat k, one, two, told, dx, dy, wr, Int32.ofNat j, Int32.ofNat j, wh, cnt) from (if_neg a0).trans (if_neg a1)]
    exact h0
theorem C3_salvo (x y : Int32) {K : c3_K} (h : C3 K) : C3 (fm_salvo x y (fx_salvo x y K)) := by
  obtain ⟨n, tg, A, K, m, one, two, told, dx, dy, wr, cc, cm, wh, cnt⟩ := K
  have h0 := h
  obtain ⟨k, j, rfl, hk, rfl, rfl, rfl, hj, h1, h2, h3, h4⟩ := h
  have key : (ev_wi x 0 (Int32.ofNat j - 1) = 0 ∨ ev_wi y 0 (Int32.ofNat j - 1) = 0 ∨ x = y ∨ ¬ Int32.ofNat k < 30) → C3 (fm_salvo x y (fx_salvo x y (Int32.ofNat k, tg, A, K, Int32.ofNat k, one, two, told, dx, dy, wr, Int32.ofNat j, Int32.ofNat j, wh, cnt))) := by
    intro hc
    have e1 : fx_salvo x y (Int32.ofNat k, tg, A, K, Int32.ofNat k, one, two, told, dx, dy, wr, Int32.ofNat j, Int32.ofNat j, wh, cnt) = (Int32.ofNat k, tg, A, K, Int32.ofNat k, one, two, told, dx, dy, wr, Int32.ofNat j, Int32.ofNat j, wh, cnt) := by
      unfold fx_salvo
      dsimp only
      repeat' split
      all_goals first | rfl | (rename_i b0 b1 b2 b3; exact absurd hc (by rintro (z | z | z | z) <;> contradiction))
    have e2 : fm_salvo x y (Int32.ofNat k, tg, A, K, Int32.ofNat k, one, two, told, dx, dy, wr, Int32.ofNat j, Int32.ofNat j, wh, cnt) = (Int32.ofNat k, tg, A, K, Int32.ofNat k, one, two, told, dx, dy, wr, Int32.ofNat j, Int32.ofNat j, wh, cnt) := by
      unfold fm_salvo
      dsimp only
      repeat' split
      all_goals first | rfl | (rename_i b0 b1 b2 b3; exact absurd hc (by rintro (z | z | z | z) <;> contradiction))
    rw [e1, e2]
    exact h0
  by_cases a0 : ev_wi x 0 (Int32.ofNat j - 1) = 0
  · exact key (Or.inl a0)
  by_cases a1 : ev_wi y 0 (Int32.ofNat j - 1) = 0
  · exact key (Or.inr (Or.inl a1))
  by_cases a2 : x = y
  · exact key (Or.inr (Or.inr (Or.inl a2)))
  by_cases a3 : Int32.ofNat k < 30
  · rw [show fx_salvo x y (Int32.ofNat k, tg, A, K, Int32.ofNat k, one, two, told, dx, dy, wr, Int32.ofNat j, Int32.ofNat j, wh, cnt) = (Int32.ofNat k + 1, ev_putJ 30 tg (Int32.ofNat k) (((1 : Int64) <<< (x.toInt64 &&& 63)) ||| ((1 : Int64) <<< (y.toInt64 &&& 63))), A, K, Int32.ofNat k, one, two, told, dx, dy, wr, Int32.ofNat j, Int32.ofNat j, wh, cnt) from (if_neg a0).trans ((if_neg a1).trans ((if_neg a2).trans (if_pos a3))),
      show fm_salvo x y (Int32.ofNat k + 1, ev_putJ 30 tg (Int32.ofNat k) (((1 : Int64) <<< (x.toInt64 &&& 63)) ||| ((1 : Int64) <<< (y.toInt64 &&& 63))), A, K, Int32.ofNat k, one, two, told, dx, dy, wr, Int32.ofNat j, Int32.ofNat j, wh, cnt) = (Int32.ofNat k + 1, ev_putJ 30 tg (Int32.ofNat k) (((1 : Int64) <<< (x.toInt64 &&& 63)) ||| ((1 : Int64) <<< (y.toInt64 &&& 63))), A, K, Int32.ofNat k + 1, upd one (Int32.ofNat k).toNatClampNeg x, upd two (Int32.ofNat k).toNatClampNeg y, upd told (Int32.ofNat k).toNatClampNeg (-1), dx, dy, wr, Int32.ofNat j, Int32.ofNat j, wh, cnt) from (if_neg a0).trans ((if_neg a1).trans ((if_neg a2).trans (if_pos a3)))]
    obtain ⟨i, ei, hi⟩ := wi_lt (by omega) a0
    obtain ⟨i2, ei2, hi2⟩ := wi_lt (by omega) a1
    refine C3_new ((lt_30 hk).mp a3) hj h1 h2 h3 h4 ⟨i, ei, by omega⟩ (Or.inr ⟨⟨i2, ei2, by omega⟩, fun z => a2 z.symm⟩) (if_neg ?_).symm
    rw [ei2]
    intro z
    have z2 := congrArg Int32.toInt z
    rw [io_ti (by omega), show ((-1 : Int32)).toInt = -1 from by decide] at z2
    omega
  · exact key (Or.inr (Or.inr (Or.inr a3)))
theorem kb_told {K : Int64} {c k i : Nat} (hc : c < k) (hk : k ≤ 30) (h2 : ∀ i, kb K i = true → i % 2 = 0 ∧ i / 2 < k) (h : kb ((K &&& (((1 : Int64) <<< td_s c) ^^^ ((-1) : Int64))) ||| ((1 : Int64) <<< td_s c)) i = true) : i % 2 = 0 ∧ i / 2 < k := by
  by_cases hi : i < 64
  · rw [kb_or, td_clr K 1 (by omega) hi, kb_shl 1 (by omega)] at h
    rcases Bool.or_eq_true_iff.mp h with h | h
    · exact h2 i (Bool.and_eq_true_iff.mp h).1
    · obtain ⟨h5, h6⟩ := Bool.and_eq_true_iff.mp h
      obtain ⟨-, h7⟩ := Bool.and_eq_true_iff.mp h5
      have h8 : ¬ i < 2 * c := by simpa using h7
      by_cases h9 : 1 ≤ i - 2 * c
      · rw [kb_1 h9] at h6
        cases h6
      · omega
  · rw [kb_64 _ (by omega)] at h
    cases h
theorem kb_untold {K : Int64} {c k i : Nat} (hc : c < 30) (h2 : ∀ i, kb K i = true → i % 2 = 0 ∧ i / 2 < k) (h : kb (K &&& (((1 : Int64) <<< td_s c) ^^^ ((-1) : Int64))) i = true) : (i % 2 = 0 ∧ i / 2 < k) ∧ i ≠ 2 * c := by
  by_cases hi : i < 64
  · rw [td_clr K 1 hc hi] at h
    obtain ⟨h5, h6⟩ := Bool.and_eq_true_iff.mp h
    refine ⟨h2 i h5, fun z => ?_⟩
    rw [z, Nat.sub_self, show decide (2 * c < 2 * c) = false from decide_eq_false (Nat.lt_irrefl _), show kb 1 0 = true from by decide] at h6
    cases h6
  · rw [kb_64 _ (by omega)] at h
    cases h
theorem C3_answer (x y : Int32) {K : c3_K} (h : C3 K) : C3 (fm_answer x y (fx_answer x y K)) := by
  obtain ⟨n, tg, A, K, m, one, two, told, dx, dy, wr, cc, cm, wh, cnt⟩ := K
  have h0 := h
  obtain ⟨k, j, rfl, hk, rfl, rfl, rfl, hj, h1, h2, h3, h4⟩ := h
  by_cases a0 : ev_wi x 0 (Int32.ofNat k - 1) = 0
  · rw [show fx_answer x y (Int32.ofNat k, tg, A, K, Int32.ofNat k, one, two, told, dx, dy, wr, Int32.ofNat j, Int32.ofNat j, wh, cnt) = (Int32.ofNat k, tg, A, K, Int32.ofNat k, one, two, told, dx, dy, wr, Int32.ofNat j, Int32.ofNat j, wh, cnt) from if_pos a0, show fm_answer x y (Int32.ofNat k, tg, A, K, Int32.ofNat k, one, two, told, dx, dy, wr, Int32.ofNat j, Int32.ofNat j, wh, cnt) = (Int32.ofNat k, tg, A, K, Int32.ofNat k, one, two, told, dx, dy, wr, Int32.ofNat j, Int32.ofNat j, wh, cnt) from if_pos a0]
    exact h0
  by_cases a1 : ev_wi y 0 2 = 0
  · rw [show fx_answer x y (Int32.ofNat k, tg, A, K, Int32.ofNat k, one, two, told, dx, dy, wr, Int32.ofNat j, Int32.ofNat j, wh, cnt) = (Int32.ofNat k, tg, A, K, Int32.ofNat k, one, two, told, dx, dy, wr, Int32.ofNat j, Int32.ofNat j, wh, cnt) from (if_neg a0).trans (if_pos a1), show fm_answer x y (Int32.ofNat k, tg, A, K, Int32.ofNat k, one, two, told, dx, dy, wr, Int32.ofNat j, Int32.ofNat j, wh, cnt) = (Int32.ofNat k, tg, A, K, Int32.ofNat k, one, two, told, dx, dy, wr, Int32.ofNat j, Int32.ofNat j, wh, cnt) from (if_neg a0).trans (if_pos a1)]
    exact h0
  rw [show fx_answer x y (Int32.ofNat k, tg, A, K, Int32.ofNat k, one, two, told, dx, dy, wr, Int32.ofNat j, Int32.ofNat j, wh, cnt) = (Int32.ofNat k, tg, (((A) &&& (((3 : Int64) <<< ((((2 : Int32) * x) : Int32).toInt64 &&& 63)) ^^^ ((-1) : Int64))) ||| ((y.toInt64) <<< ((((2 : Int32) * x) : Int32).toInt64 &&& 63))), (((K) &&& (((1 : Int64) <<< ((((2 : Int32) * x) : Int32).toInt64 &&& 63)) ^^^ ((-1) : Int64))) ||| ((1 : Int64) <<< ((((2 : Int32) * x) : Int32).toInt64 &&& 63))), Int32.ofNat k, one, two, told, dx, dy, wr, Int32.ofNat j, Int32.ofNat j, wh, cnt) from (if_neg a0).trans (if_neg a1),
    show fm_answer x y (Int32.ofNat k, tg, (((A) &&& (((3 : Int64) <<< ((((2 : Int32) * x) : Int32).toInt64 &&& 63)) ^^^ ((-1) : Int64))) ||| ((y.toInt64) <<< ((((2 : Int32) * x) : Int32).toInt64 &&& 63))), (((K) &&& (((1 : Int64) <<< ((((2 : Int32) * x) : Int32).toInt64 &&& 63)) ^^^ ((-1) : Int64))) ||| ((1 : Int64) <<< ((((2 : Int32) * x) : Int32).toInt64 &&& 63))), Int32.ofNat k, one, two, told, dx, dy, wr, Int32.ofNat j, Int32.ofNat j, wh, cnt) = (Int32.ofNat k, tg, (((A) &&& (((3 : Int64) <<< ((((2 : Int32) * x) : Int32).toInt64 &&& 63)) ^^^ ((-1) : Int64))) ||| ((y.toInt64) <<< ((((2 : Int32) * x) : Int32).toInt64 &&& 63))), (((K) &&& (((1 : Int64) <<< ((((2 : Int32) * x) : Int32).toInt64 &&& 63)) ^^^ ((-1) : Int64))) ||| ((1 : Int64) <<< ((((2 : Int32) * x) : Int32).toInt64 &&& 63))), Int32.ofNat k, one, two, upd told x.toNatClampNeg y, dx, dy, wr, Int32.ofNat j, Int32.ofNat j, wh, cnt) from (if_neg a0).trans (if_neg a1)]
  obtain ⟨c, rfl, hc⟩ := wi_lt (by omega) a0
  have hy := wi_012 a1
  rw [io_cl (show c < 2147483648 by omega)]
  refine ⟨k, j, rfl, hk, rfl, rfl, rfl, hj, fun d hd => ?_, fun i hi => kb_told hc hk h2 hi, h3, h4⟩
  have ht := td_tell A K hy (c := c) (d := d) (by omega) (by omega)
  by_cases hdc : d = c
  · subst hdc
    obtain ⟨g1, g2, g3, -, -⟩ := h1 d hd
    rw [if_pos rfl] at ht
    unfold c3_r
    rw [nd_upd_s]
    exact ⟨g1, g2, g3, ht, Or.inr hy⟩
  · rw [if_neg hdc] at ht
    exact c3_rc (h1 d hd) rfl rfl rfl ht (nd_upd_n _ _ hdc)
theorem C3_lose (x : Int32) {K : c3_K} (h : C3 K) : C3 (fm_lose x (fx_lose x K)) := by
  obtain ⟨n, tg, A, K, m, one, two, told, dx, dy, wr, cc, cm, wh, cnt⟩ := K
  have h0 := h
  obtain ⟨k, j, rfl, hk, rfl, rfl, rfl, hj, h1, h2, h3, h4⟩ := h
  by_cases a0 : ev_wi x 0 (Int32.ofNat k - 1) = 0
  · rw [show fx_lose x (Int32.ofNat k, tg, A, K, Int32.ofNat k, one, two, told, dx, dy, wr, Int32.ofNat j, Int32.ofNat j, wh, cnt) = (Int32.ofNat k, tg, A, K, Int32.ofNat k, one, two, told, dx, dy, wr, Int32.ofNat j, Int32.ofNat j, wh, cnt) from if_pos a0, show fm_lose x (Int32.ofNat k, tg, A, K, Int32.ofNat k, one, two, told, dx, dy, wr, Int32.ofNat j, Int32.ofNat j, wh, cnt) = (Int32.ofNat k, tg, A, K, Int32.ofNat k, one, two, told, dx, dy, wr, Int32.ofNat j, Int32.ofNat j, wh, cnt) from if_pos a0]
    exact h0
  obtain ⟨c, rfl, hc⟩ := wi_lt (by omega) a0
  have ec : (Int32.ofNat c).toNatClampNeg = c := io_cl (by omega)
  obtain ⟨g1, g2, g3, g4, g5⟩ := h1 c hc
  by_cases a1 : td_at A K c = -1
  · have a1' : td_at A K (Int32.ofNat c).toNatClampNeg = -1 := by rw [ec]; exact a1
    have a2' : told (Int32.ofNat c).toNatClampNeg = -1 := by rw [ec, ← g4]; exact a1
    rw [show fx_lose (Int32.ofNat c) (Int32.ofNat k, tg, A, K, Int32.ofNat k, one, two, told, dx, dy, wr, Int32.ofNat j, Int32.ofNat j, wh, cnt) = (Int32.ofNat k, tg, A, K, Int32.ofNat k, one, two, told, dx, dy, wr, Int32.ofNat j, Int32.ofNat j, wh, cnt) from (if_neg a0).trans (if_pos a1'), show fm_lose (Int32.ofNat c) (Int32.ofNat k, tg, A, K, Int32.ofNat k, one, two, told, dx, dy, wr, Int32.ofNat j, Int32.ofNat j, wh, cnt) = (Int32.ofNat k, tg, A, K, Int32.ofNat k, one, two, told, dx, dy, wr, Int32.ofNat j, Int32.ofNat j, wh, cnt) from (if_neg a0).trans (if_pos a2')]
    exact h0
  · have a1' : ¬ td_at A K (Int32.ofNat c).toNatClampNeg = -1 := by rw [ec]; exact a1
    have a2' : ¬ told (Int32.ofNat c).toNatClampNeg = -1 := by rw [ec, ← g4]; exact a1
    rw [show fx_lose (Int32.ofNat c) (Int32.ofNat k, tg, A, K, Int32.ofNat k, one, two, told, dx, dy, wr, Int32.ofNat j, Int32.ofNat j, wh, cnt) = (Int32.ofNat k, tg, A &&& (((3 : Int64) <<< td_s c) ^^^ ((-1) : Int64)), K &&& (((1 : Int64) <<< td_s c) ^^^ ((-1) : Int64)), Int32.ofNat k, one, two, told, dx, dy, wr, Int32.ofNat j, Int32.ofNat j, wh, cnt) from (if_neg a0).trans (if_neg a1'),
      show fm_lose (Int32.ofNat c) (Int32.ofNat k, tg, A &&& (((3 : Int64) <<< td_s c) ^^^ ((-1) : Int64)), K &&& (((1 : Int64) <<< td_s c) ^^^ ((-1) : Int64)), Int32.ofNat k, one, two, told, dx, dy, wr, Int32.ofNat j, Int32.ofNat j, wh, cnt) = (Int32.ofNat k, tg, A &&& (((3 : Int64) <<< td_s c) ^^^ ((-1) : Int64)), K &&& (((1 : Int64) <<< td_s c) ^^^ ((-1) : Int64)), Int32.ofNat k, one, two, upd told (Int32.ofNat c).toNatClampNeg (-1), dx, dy, wr, Int32.ofNat j, Int32.ofNat j, wh, cnt) from (if_neg a0).trans (if_neg a2'), ec]
    refine ⟨k, j, rfl, hk, rfl, rfl, rfl, hj, fun d hd => ?_, fun i hi => (kb_untold (by omega) h2 hi).1, h3, h4⟩
    have ht := td_untell A K (c := c) (d := d) (by omega) (by omega)
    by_cases hdc : d = c
    · subst hdc
      rw [if_pos rfl] at ht
      unfold c3_r
      rw [nd_upd_s]
      exact ⟨g1, g2, g3, ht, Or.inl rfl⟩
    · rw [if_neg hdc] at ht
      exact c3_rc (h1 d hd) rfl rfl rfl ht (nd_upd_n _ _ hdc)
theorem C3_back {K : c3_K} (h : C3 K) : C3 (fm_back (fx_back K)) := by
  obtain ⟨n, tg, A, K, m, one, two, told, dx, dy, wr, cc, cm, wh, cnt⟩ := K
  have h0 := h
  obtain ⟨k, j, rfl, hk, rfl, rfl, rfl, hj, h1, h2, h3, h4⟩ := h
  by_cases a0 : Int32.ofNat k = 0
  · rw [show fx_back (Int32.ofNat k, tg, A, K, Int32.ofNat k, one, two, told, dx, dy, wr, Int32.ofNat j, Int32.ofNat j, wh, cnt) = (Int32.ofNat k, tg, A, K, Int32.ofNat k, one, two, told, dx, dy, wr, Int32.ofNat j, Int32.ofNat j, wh, cnt) from if_pos a0, show fm_back (Int32.ofNat k, tg, A, K, Int32.ofNat k, one, two, told, dx, dy, wr, Int32.ofNat j, Int32.ofNat j, wh, cnt) = (Int32.ofNat k, tg, A, K, Int32.ofNat k, one, two, told, dx, dy, wr, Int32.ofNat j, Int32.ofNat j, wh, cnt) from if_pos a0]
    exact h0
  have hk0 : 0 < k := by
    apply Nat.pos_of_ne_zero
    rintro rfl
    exact a0 rfl
  rw [show fx_back (Int32.ofNat k, tg, A, K, Int32.ofNat k, one, two, told, dx, dy, wr, Int32.ofNat j, Int32.ofNat j, wh, cnt) = (Int32.ofNat k - 1, tg, A &&& (((3 : Int64) <<< ((((2 : Int32) * (Int32.ofNat k - (1 : Int32))) : Int32).toInt64 &&& 63)) ^^^ ((-1) : Int64)), K &&& (((1 : Int64) <<< ((((2 : Int32) * (Int32.ofNat k - (1 : Int32))) : Int32).toInt64 &&& 63)) ^^^ ((-1) : Int64)), Int32.ofNat k, one, two, told, dx, dy, wr, Int32.ofNat j, Int32.ofNat j, wh, cnt) from if_neg a0,
    show fm_back (Int32.ofNat k - 1, tg, A &&& (((3 : Int64) <<< ((((2 : Int32) * (Int32.ofNat k - (1 : Int32))) : Int32).toInt64 &&& 63)) ^^^ ((-1) : Int64)), K &&& (((1 : Int64) <<< ((((2 : Int32) * (Int32.ofNat k - (1 : Int32))) : Int32).toInt64 &&& 63)) ^^^ ((-1) : Int64)), Int32.ofNat k, one, two, told, dx, dy, wr, Int32.ofNat j, Int32.ofNat j, wh, cnt) = (Int32.ofNat k - 1, tg, A &&& (((3 : Int64) <<< ((((2 : Int32) * (Int32.ofNat k - (1 : Int32))) : Int32).toInt64 &&& 63)) ^^^ ((-1) : Int64)), K &&& (((1 : Int64) <<< ((((2 : Int32) * (Int32.ofNat k - (1 : Int32))) : Int32).toInt64 &&& 63)) ^^^ ((-1) : Int64)), Int32.ofNat k - 1, one, two, told, dx, dy, wr, Int32.ofNat j, Int32.ofNat j, wh, cnt) from if_neg a0, io_sub1 hk0]
  refine ⟨k - 1, j, rfl, by omega, rfl, rfl, rfl, hj, fun d hd => ?_, fun i hi => ?_, h3, h4⟩
  · have ht := td_untell A K (c := k - 1) (d := d) (by omega) (by omega)
    rw [if_neg (by omega)] at ht
    exact c3_rc (h1 d (by omega)) rfl rfl rfl ht rfl
  · have := kb_untold (c := k - 1) (by omega) h2 hi
    omega
theorem C3_count (x y : Int32) {K : c3_K} (h : C3 K) : C3 (fx_count x y K) := by
  obtain ⟨n, tg, A, K, m, one, two, told, dx, dy, wr, cc, cm, wh, cnt⟩ := K
  by_cases a0 : ev_wi x 0 (wh - 1) = 0
  · rw [show fx_count x y (n, tg, A, K, m, one, two, told, dx, dy, wr, cc, cm, wh, cnt) = (n, tg, A, K, m, one, two, told, dx, dy, wr, cc, cm, wh, cnt) from if_pos a0]
    exact h
  by_cases a1 : ev_wi y 0 7 = 0
  · rw [show fx_count x y (n, tg, A, K, m, one, two, told, dx, dy, wr, cc, cm, wh, cnt) = (n, tg, A, K, m, one, two, told, dx, dy, wr, cc, cm, wh, cnt) from (if_neg a0).trans (if_pos a1)]
    exact h
  rw [show fx_count x y (n, tg, A, K, m, one, two, told, dx, dy, wr, cc, cm, wh, cnt) = (n, tg, A, K, m, one, two, told, dx, dy, wr, cc, cm, wh, ev_put 12 cnt x (if y = 7 then -1 else y)) from (if_neg a0).trans (if_neg a1)]
  obtain ⟨k, j, e1, hk, e2, e3, e4, hj, h1, h2, h3, h4⟩ := h
  obtain ⟨h4, h5⟩ := h4
  refine ⟨k, j, e1, hk, e2, e3, e4, hj, h1, h2, h3, fun r hr hr2 => ?_, h5⟩
  obtain ⟨g1, g2⟩ := ev_wi_ne a0
  rw [show (0 : Int32).toInt = 0 from by decide] at g1
  have hx := io_nat g1
  have bx := Int32.toInt_lt x
  have bw := Int32.toInt_lt wh
  have e1 : (wh - 1).toInt = wh.toInt - 1 := by
    rw [Int32.toInt_sub, show (1 : Int32).toInt = 1 from by decide, cx_bm32]
    simp only [cx_i32]
    omega
  by_cases hx2 : x.toInt.toNat < 12
  · rw [hx, put_in hx2 (by omega), nd_upd_n _ _ (by omega)]
    exact h4 r hr hr2
  · unfold ev_put
    rw [if_neg (by rw [hx, show (0 : Int32) = Int32.ofNat 0 from rfl, io_lt (by omega) (by omega)]; omega), if_pos (by rw [hx, io_le (by omega) (by omega)]; omega)]
    exact h4 r hr hr2
theorem l3_0 : C3 (ck ev_I0 ev_J0) := by
  have e1 : (5 : Int32) * 5 = 25 := by decide
  refine ⟨0, 25, rfl, by omega, rfl, ?_, ?_, by omega, fun c hc => absurd hc (by omega), fun i hi => ?_, fun hd => ?_, fun r hr hr2 => ?_, by decide⟩
  · exact (show (25 : Int32) = ev_I0 35 0 * ev_I0 35 1 from by decide)
  · exact (show ev_I0 35 0 * ev_I0 35 1 = Int32.ofNat 25 from by decide)
  · have hi : kb 0 i = true := hi
    rw [kb_0] at hi
    cases hi
  · rcases hd with hd | hd <;> exact absurd rfl hd
  · have key : ∀ r, r < 12 → ev_I0 33 r = -1 := by decide
    exact key r hr2
section
variable {X : ez_X} {I I1 : Nat → Nat → Int32} {J J1 : Nat → Nat → Int64} {R R1 : Nat → Nat} {T T1 : List ez_C} {v : Int32}
theorem l3x_grid (hX2 : X.1 < 2 ^ 31) (hh : cx_hok cx_B0 I R T) (hr : rl3 I J R T) (x y z : Int32) (hz : z = 0 ∨ z = 1) : ev_W X 18 0 (ez_lay [.ref 0, .int x, .int y, .int z]) [] (ev_hp I J R T) 0 0 (lw_mid T (fun v I1 J1 R1 T1 => (mi_k ck_18_0.2.1 (kf_grid x y z) I J v I1 J1 R1 T1 ∧ cp I1 J1 R1 T1) ∧ ∃ K f, C3 K ∧ (∀ j, j < 12 → f j = -1) ∧ ck I1 J1 = fx_grid x y z f K)) := by
  refine (r3_w (l2x_grid hX2 hh hr.1 x y z hz) (x3_grid x y z hz)).mono (lw_mono ?_)
  rintro v I1 J1 R1 T1 ⟨h1, A, B, e, f, hf, h2⟩
  exact ⟨h1, _, f, hr.2, hf, e.trans h2⟩
theorem l3m_grid (hX2 : X.1 < 2 ^ 31) (hh : cx_hok cx_B0 I R T) (hr : rl3 I J R T) (x y z : Int32) (hz : z = 0 ∨ z = 1) (hh1 : cx_hok cx_B0 I1 R1 T1) (hm : (mi_k ck_18_0.2.1 (kf_grid x y z) I J v I1 J1 R1 T1 ∧ cp I1 J1 R1 T1) ∧ ∃ K f, C3 K ∧ (∀ j, j < 12 → f j = -1) ∧ ck I1 J1 = fx_grid x y z f K) : ev_W X 195 0 (ez_lay [.ref 35, .int x, .int y, .int z]) [] (ev_hp I1 J1 R1 T1) 0 0 (lw_mid T1 (fun u I2 J2 R2 T2 => rl3 I2 J2 R2 T2)) := by
  refine (r3_w (l2m_grid hX2 hh hr.1 x y z hz hh1 hm.1) (y3_grid x y z hz)).mono (lw_mono ?_)
  rintro u I2 J2 R2 T2 ⟨h1, A, B, e, h2⟩
  obtain ⟨K, f, hK, hf, h3⟩ := hm.2
  refine ⟨h1.2, ?_⟩
  show C3 (ck I2 J2)
  rw [e, h2, h3]
  exact C3_grid x y z f hK hf
theorem l3x_ship (hX2 : X.1 < 2 ^ 31) (hh : cx_hok cx_B0 I R T) (hr : rl3 I J R T) (x y : Int32) : ev_W X 43 0 (ez_lay [.ref 0, .int x, .int y]) [] (ev_hp I J R T) 0 0 (lw_mid T (fun v I1 J1 R1 T1 => ((mi_k ck_43_0.2.1 (kf_ship x y) I J v I1 J1 R1 T1 ∧ mi_ship x y I J I1 J1) ∧ cp I1 J1 R1 T1) ∧ C3 (ck I1 J1))) := by
  refine (r3_v (l2x_ship hX2 hh hr.1 x y) cv_43_0 hX2 hh ao_2).mono (lw_mono ?_)
  rintro v I1 J1 R1 T1 ⟨h1, A, B, e, h2⟩
  refine ⟨h1, ?_⟩
  rw [e, ck_fr (by rfl) h2]
  exact hr.2
theorem l3m_ship (hX2 : X.1 < 2 ^ 31) (hh : cx_hok cx_B0 I R T) (hr : rl3 I J R T) (x y : Int32) (hh1 : cx_hok cx_B0 I1 R1 T1) (hm : ((mi_k ck_43_0.2.1 (kf_ship x y) I J v I1 J1 R1 T1 ∧ mi_ship x y I J I1 J1) ∧ cp I1 J1 R1 T1) ∧ C3 (ck I1 J1)) : ev_W X 220 0 (ez_lay [.ref 35, .int x, .int y]) [] (ev_hp I1 J1 R1 T1) 0 0 (lw_mid T1 (fun u I2 J2 R2 T2 => rl3 I2 J2 R2 T2)) := by
  refine (r3_v (l2m_ship hX2 hh hr.1 x y hh1 hm.1) cv_220_0 hX2 hh1 ao_2).mono (lw_mono ?_)
  rintro u I2 J2 R2 T2 ⟨h1, A, B, e, h2⟩
  refine ⟨h1.2, ?_⟩
  show C3 (ck I2 J2)
  rw [e, ck_fr (by rfl) h2]
  exact hm.2
theorem l3x_set (hX2 : X.1 < 2 ^ 31) (hh : cx_hok cx_B0 I R T) (hr : rl3 I J R T) (x y : Int32) : ev_W X 42 0 (ez_lay [.ref 0, .int x, .int y]) [] (ev_hp I J R T) 0 0 (lw_mid T (fun v I1 J1 R1 T1 => (mi_k ck_42_0.2.1 (kf_set x y) I J v I1 J1 R1 T1 ∧ cp I1 J1 R1 T1) ∧ C3 (ck I1 J1))) := by
  refine (r3_v (l2x_set hX2 hh hr.1 x y) cv_42_0 hX2 hh ao_2).mono (lw_mono ?_)
  rintro v I1 J1 R1 T1 ⟨h1, A, B, e, h2⟩
  refine ⟨h1, ?_⟩
  rw [e, ck_fr (by rfl) h2]
  exact hr.2
theorem l3m_set (hX2 : X.1 < 2 ^ 31) (hh : cx_hok cx_B0 I R T) (hr : rl3 I J R T) (x y : Int32) (hh1 : cx_hok cx_B0 I1 R1 T1) (hm : (mi_k ck_42_0.2.1 (kf_set x y) I J v I1 J1 R1 T1 ∧ cp I1 J1 R1 T1) ∧ C3 (ck I1 J1)) : ev_W X 219 0 (ez_lay [.ref 35, .int x, .int y]) [] (ev_hp I1 J1 R1 T1) 0 0 (lw_mid T1 (fun u I2 J2 R2 T2 => rl3 I2 J2 R2 T2)) := by
  refine (r3_v (l2m_set hX2 hh hr.1 x y hh1 hm.1) cv_219_0 hX2 hh1 ao_2).mono (lw_mono ?_)
  rintro u I2 J2 R2 T2 ⟨h1, A, B, e, h2⟩
  refine ⟨h1.2, ?_⟩
  show C3 (ck I2 J2)
  rw [e, ck_fr (by rfl) h2]
  exact hm.2
theorem l3x_drift (hX2 : X.1 < 2 ^ 31) (hh : cx_hok cx_B0 I R T) (hr : rl3 I J R T) (x y : Int32) : ev_W X 16 0 (ez_lay [.ref 0, .int x, .int y]) [] (ev_hp I J R T) 0 0 (lw_mid T (fun v I1 J1 R1 T1 => (mi_k ck_16_0.2.1 (kf_drift x y) I J v I1 J1 R1 T1 ∧ cp I1 J1 R1 T1) ∧ ∃ K, C3 K ∧ ck I1 J1 = fx_drift x y K)) := by
  refine (r3_w (l2x_drift hX2 hh hr.1 x y) (x3_drift x y)).mono (lw_mono ?_)
  rintro v I1 J1 R1 T1 ⟨h1, A, B, e, h2⟩
  exact ⟨h1, _, hr.2, e.trans h2⟩
theorem l3m_drift (hX2 : X.1 < 2 ^ 31) (hh : cx_hok cx_B0 I R T) (hr : rl3 I J R T) (x y : Int32) (hh1 : cx_hok cx_B0 I1 R1 T1) (hm : (mi_k ck_16_0.2.1 (kf_drift x y) I J v I1 J1 R1 T1 ∧ cp I1 J1 R1 T1) ∧ ∃ K, C3 K ∧ ck I1 J1 = fx_drift x y K) : ev_W X 185 0 (ez_lay [.ref 35, .int x, .int y]) [] (ev_hp I1 J1 R1 T1) 0 0 (lw_mid T1 (fun u I2 J2 R2 T2 => rl3 I2 J2 R2 T2)) := by
  refine (r3_v (l2m_drift hX2 hh hr.1 x y hh1 hm.1) cv_185_0 hX2 hh1 ao_2).mono (lw_mono ?_)
  rintro u I2 J2 R2 T2 ⟨h1, A, B, e, h2⟩
  refine ⟨h1.2, ?_⟩
  show C3 (ck I2 J2)
  rw [e, ck_fr (by rfl) h2]
  obtain ⟨K, hK, h3⟩ := hm.2
  rw [h3]
  exact C3_drift x y hK
theorem l3x_spots (hX2 : X.1 < 2 ^ 31) (hh : cx_hok cx_B0 I R T) (hr : rl3 I J R T) (x : Int32) : ev_W X 46 0 (ez_lay [.ref 0, .int x]) [] (ev_hp I J R T) 0 0 (lw_mid T (fun v I1 J1 R1 T1 => rl2 I1 J1 R1 T1 ∧ C3 (ck I1 J1))) := by
  refine (r3_v (l2x_spots hX2 hh hr.1 x) cv_46_0 hX2 hh ao_1).mono (lw_mono ?_)
  rintro v I1 J1 R1 T1 ⟨h1, A, B, e, h2⟩
  refine ⟨h1, ?_⟩
  rw [e, ck_fr (by rfl) h2]
  exact hr.2
theorem l3m_spots (hX2 : X.1 < 2 ^ 31) (hh : cx_hok cx_B0 I R T) (hr : rl3 I J R T) (x : Int32) (hh1 : cx_hok cx_B0 I1 R1 T1) (hm : rl2 I1 J1 R1 T1 ∧ C3 (ck I1 J1)) : ev_W X 223 0 (ez_lay [.ref 35, .int x]) [] (ev_hp I1 J1 R1 T1) 0 0 (lw_mid T1 (fun u I2 J2 R2 T2 => rl3 I2 J2 R2 T2)) := by
  refine (r3_v (l2m_spots hX2 x hh1 hm.1) cv_223_0 hX2 hh1 ao_1).mono (lw_mono ?_)
  rintro u I2 J2 R2 T2 ⟨h1, A, B, e, h2⟩
  refine ⟨h1, ?_⟩
  show C3 (ck I2 J2)
  rw [e, ck_fr (by rfl) h2]
  exact hm.2
theorem l3x_spot (hX2 : X.1 < 2 ^ 31) (hh : cx_hok cx_B0 I R T) (hr : rl3 I J R T) (x y : Int32) : ev_W X 44 0 (ez_lay [.ref 0, .int x, .int y]) [] (ev_hp I J R T) 0 0 (lw_midL T (fun v I1 J1 R1 T1 => rl2 I1 J1 R1 T1 ∧ C3 (ck I1 J1))) := by
  refine (r3_vL (l2x_spot hX2 hh hr.1 x y) cv_44_0 hX2 hh ao_2).mono (lw_monoL ?_)
  rintro v I1 J1 R1 T1 ⟨h1, A, B, e, h2⟩
  refine ⟨h1, ?_⟩
  rw [e, ck_fr (by rfl) h2]
  exact hr.2
theorem l3m_spot (hX2 : X.1 < 2 ^ 31) (hh : cx_hok cx_B0 I R T) (hr : rl3 I J R T) (x y : Int32) (hh1 : cx_hok cx_B0 I1 R1 T1) (hm : rl2 I1 J1 R1 T1 ∧ C3 (ck I1 J1)) : ev_W X 222 0 (ez_lay [.ref 35, .int x, .int y]) [] (ev_hp I1 J1 R1 T1) 0 0 (lw_midL T1 (fun u I2 J2 R2 T2 => rl3 I2 J2 R2 T2)) := by
  refine (r3_vL (l2m_spot hX2 x y hh1 hm.1) cv_222_0 hX2 hh1 ao_2).mono (lw_monoL ?_)
  rintro u I2 J2 R2 T2 ⟨h1, A, B, e, h2⟩
  refine ⟨h1, ?_⟩
  show C3 (ck I2 J2)
  rw [e, ck_fr (by rfl) h2]
  exact hm.2
theorem l3x_layings (hX2 : X.1 < 2 ^ 31) (hh : cx_hok cx_B0 I R T) (hr : rl3 I J R T) : ev_W X 27 0 (ez_lay [.ref 0]) [] (ev_hp I J R T) 0 0 (lw_mid T (fun v I1 J1 R1 T1 => rl2 I1 J1 R1 T1 ∧ C3 (ck I1 J1))) := by
  refine (r3_v (l2x_layings hX2 hh hr.1) cv_27_0 hX2 hh ao_0).mono (lw_mono ?_)
  rintro v I1 J1 R1 T1 ⟨h1, A, B, e, h2⟩
  refine ⟨h1, ?_⟩
  rw [e, ck_fr (by rfl) h2]
  exact hr.2
theorem l3m_layings (hX2 : X.1 < 2 ^ 31) (hh : cx_hok cx_B0 I R T) (hr : rl3 I J R T) (hh1 : cx_hok cx_B0 I1 R1 T1) (hm : rl2 I1 J1 R1 T1 ∧ C3 (ck I1 J1)) : ev_W X 206 0 (ez_lay [.ref 35]) [] (ev_hp I1 J1 R1 T1) 0 0 (lw_mid T1 (fun u I2 J2 R2 T2 => rl3 I2 J2 R2 T2)) := by
  refine (r3_v (l2m_layings hX2 hh1 hm.1) cv_206_0 hX2 hh1 ao_0).mono (lw_mono ?_)
  rintro u I2 J2 R2 T2 ⟨h1, A, B, e, h2⟩
  refine ⟨h1, ?_⟩
  show C3 (ck I2 J2)
  rw [e, ck_fr (by rfl) h2]
  exact hm.2
theorem l3x_laid (hX2 : X.1 < 2 ^ 31) (hh : cx_hok cx_B0 I R T) (hr : rl3 I J R T) (x y : Int32) : ev_W X 26 0 (ez_lay [.ref 0, .int x, .int y]) [] (ev_hp I J R T) 0 0 (lw_mid T (fun v I1 J1 R1 T1 => rl2 I1 J1 R1 T1 ∧ C3 (ck I1 J1))) := by
  refine (r3_v (l2x_laid hX2 hh hr.1 x y) cv_26_0 hX2 hh ao_2).mono (lw_mono ?_)
  rintro v I1 J1 R1 T1 ⟨h1, A, B, e, h2⟩
  refine ⟨h1, ?_⟩
  rw [e, ck_fr (by rfl) h2]
  exact hr.2
theorem l3m_laid (hX2 : X.1 < 2 ^ 31) (hh : cx_hok cx_B0 I R T) (hr : rl3 I J R T) (x y : Int32) (hh1 : cx_hok cx_B0 I1 R1 T1) (hm : rl2 I1 J1 R1 T1 ∧ C3 (ck I1 J1)) : ev_W X 205 0 (ez_lay [.ref 35, .int x, .int y]) [] (ev_hp I1 J1 R1 T1) 0 0 (lw_mid T1 (fun u I2 J2 R2 T2 => rl3 I2 J2 R2 T2)) := by
  refine (r3_v (l2m_laid hX2 x y hh1 hm.1) cv_205_0 hX2 hh1 ao_2).mono (lw_mono ?_)
  rintro u I2 J2 R2 T2 ⟨h1, A, B, e, h2⟩
  refine ⟨h1, ?_⟩
  show C3 (ck I2 J2)
  rw [e, ck_fr (by rfl) h2]
  exact hm.2
theorem l3x_call (hX2 : X.1 < 2 ^ 31) (hh : cx_hok cx_B0 I R T) (hr : rl3 I J R T) (x : Int32) : ev_W X 10 0 (ez_lay [.ref 0, .int x]) [] (ev_hp I J R T) 0 0 (lw_mid T (fun v I1 J1 R1 T1 => (mi_k ck_10_0.2.1 (kf_call x) I J v I1 J1 R1 T1 ∧ cp I1 J1 R1 T1) ∧ ∃ K, C3 K ∧ ck I1 J1 = fx_call x K)) := by
  refine (r3_w (l2x_call hX2 hh hr.1 x) (x3_call x)).mono (lw_mono ?_)
  rintro v I1 J1 R1 T1 ⟨h1, A, B, e, h2⟩
  exact ⟨h1, _, hr.2, e.trans h2⟩
theorem l3m_call (hX2 : X.1 < 2 ^ 31) (hh : cx_hok cx_B0 I R T) (hr : rl3 I J R T) (x : Int32) (hh1 : cx_hok cx_B0 I1 R1 T1) (hm : (mi_k ck_10_0.2.1 (kf_call x) I J v I1 J1 R1 T1 ∧ cp I1 J1 R1 T1) ∧ ∃ K, C3 K ∧ ck I1 J1 = fx_call x K) : ev_W X 175 0 (ez_lay [.ref 35, .int x]) [] (ev_hp I1 J1 R1 T1) 0 0 (lw_mid T1 (fun u I2 J2 R2 T2 => rl3 I2 J2 R2 T2)) := by
  refine (r3_w (l2m_call hX2 hh hr.1 x hh1 hm.1) (y3_call hh1.1 x)).mono (lw_mono ?_)
  rintro u I2 J2 R2 T2 ⟨h1, A, B, e, h2⟩
  obtain ⟨K, hK, h3⟩ := hm.2
  refine ⟨h1.2, ?_⟩
  show C3 (ck I2 J2)
  rw [e, h2, h3]
  exact C3_call x hK
theorem l3x_salvo (hX2 : X.1 < 2 ^ 31) (hh : cx_hok cx_B0 I R T) (hr : rl3 I J R T) (x y : Int32) : ev_W X 41 0 (ez_lay [.ref 0, .int x, .int y]) [] (ev_hp I J R T) 0 0 (lw_mid T (fun v I1 J1 R1 T1 => (mi_k ck_41_0.2.1 (kf_salvo x y) I J v I1 J1 R1 T1 ∧ cp I1 J1 R1 T1) ∧ ∃ K, C3 K ∧ ck I1 J1 = fx_salvo x y K)) := by
  refine (r3_w (l2x_salvo hX2 hh hr.1 x y) (x3_salvo x y)).mono (lw_mono ?_)
  rintro v I1 J1 R1 T1 ⟨h1, A, B, e, h2⟩
  exact ⟨h1, _, hr.2, e.trans h2⟩
theorem l3m_salvo (hX2 : X.1 < 2 ^ 31) (hh : cx_hok cx_B0 I R T) (hr : rl3 I J R T) (x y : Int32) (hh1 : cx_hok cx_B0 I1 R1 T1) (hm : (mi_k ck_41_0.2.1 (kf_salvo x y) I J v I1 J1 R1 T1 ∧ cp I1 J1 R1 T1) ∧ ∃ K, C3 K ∧ ck I1 J1 = fx_salvo x y K) : ev_W X 218 0 (ez_lay [.ref 35, .int x, .int y]) [] (ev_hp I1 J1 R1 T1) 0 0 (lw_mid T1 (fun u I2 J2 R2 T2 => rl3 I2 J2 R2 T2)) := by
  refine (r3_w (l2m_salvo hX2 hh hr.1 x y hh1 hm.1) (y3_salvo hh1.1 x y)).mono (lw_mono ?_)
  rintro u I2 J2 R2 T2 ⟨h1, A, B, e, h2⟩
  obtain ⟨K, hK, h3⟩ := hm.2
  refine ⟨h1.2, ?_⟩
  show C3 (ck I2 J2)
  rw [e, h2, h3]
  exact C3_salvo x y hK
theorem l3x_answer (hX2 : X.1 < 2 ^ 31) (hh : cx_hok cx_B0 I R T) (hr : rl3 I J R T) (x y : Int32) : ev_W X 1 0 (ez_lay [.ref 0, .int x, .int y]) [] (ev_hp I J R T) 0 0 (lw_mid T (fun v I1 J1 R1 T1 => rl2 I1 J1 R1 T1 ∧ ∃ K, C3 K ∧ ck I1 J1 = fx_answer x y K)) := by
  refine (r3_w (l2x_answer hX2 hh hr.1 x y) (x3_answer hh.1 x y)).mono (lw_mono ?_)
  rintro v I1 J1 R1 T1 ⟨h1, A, B, e, h2⟩
  exact ⟨h1, _, hr.2, e.trans h2⟩
theorem l3m_answer (hX2 : X.1 < 2 ^ 31) (hh : cx_hok cx_B0 I R T) (hr : rl3 I J R T) (x y : Int32) (hh1 : cx_hok cx_B0 I1 R1 T1) (hm : rl2 I1 J1 R1 T1 ∧ ∃ K, C3 K ∧ ck I1 J1 = fx_answer x y K) : ev_W X 166 0 (ez_lay [.ref 35, .int x, .int y]) [] (ev_hp I1 J1 R1 T1) 0 0 (lw_mid T1 (fun u I2 J2 R2 T2 => rl3 I2 J2 R2 T2)) := by
  refine (r3_wp (l2m_answer hX2 x y hh1 hm.1) (fun N => y3_answer (N := N) hh1.1 x y)).mono (lw_mono ?_)
  rintro u I2 J2 R2 T2 ⟨h1, A, B, e, h2⟩
  obtain ⟨K, hK, h3⟩ := hm.2
  refine ⟨h1, ?_⟩
  show C3 (ck I2 J2)
  rw [e, h2, h3]
  exact C3_answer x y hK
theorem l3x_lose (hX2 : X.1 < 2 ^ 31) (hh : cx_hok cx_B0 I R T) (hr : rl3 I J R T) (x : Int32) : ev_W X 32 0 (ez_lay [.ref 0, .int x]) [] (ev_hp I J R T) 0 0 (lw_mid T (fun v I1 J1 R1 T1 => rl2 I1 J1 R1 T1 ∧ ∃ K, C3 K ∧ ck I1 J1 = fx_lose x K)) := by
  refine (r3_w (l2x_lose hX2 hh hr.1 x) (x3_lose hh.1 x)).mono (lw_mono ?_)
  rintro v I1 J1 R1 T1 ⟨h1, A, B, e, h2⟩
  exact ⟨h1, _, hr.2, e.trans h2⟩
theorem l3m_lose (hX2 : X.1 < 2 ^ 31) (hh : cx_hok cx_B0 I R T) (hr : rl3 I J R T) (x : Int32) (hh1 : cx_hok cx_B0 I1 R1 T1) (hm : rl2 I1 J1 R1 T1 ∧ ∃ K, C3 K ∧ ck I1 J1 = fx_lose x K) : ev_W X 209 0 (ez_lay [.ref 35, .int x]) [] (ev_hp I1 J1 R1 T1) 0 0 (lw_mid T1 (fun u I2 J2 R2 T2 => rl3 I2 J2 R2 T2)) := by
  refine (r3_wp (l2m_lose hX2 x hh1 hm.1) (fun N => y3_lose (N := N) hh1.1 x)).mono (lw_mono ?_)
  rintro u I2 J2 R2 T2 ⟨h1, A, B, e, h2⟩
  obtain ⟨K, hK, h3⟩ := hm.2
  refine ⟨h1, ?_⟩
  show C3 (ck I2 J2)
  rw [e, h2, h3]
  exact C3_lose x hK
theorem l3x_back (hX2 : X.1 < 2 ^ 31) (hh : cx_hok cx_B0 I R T) (hr : rl3 I J R T) : ev_W X 5 0 (ez_lay [.ref 0]) [] (ev_hp I J R T) 0 0 (lw_mid T (fun v I1 J1 R1 T1 => (mi_k ck_5_0.2.1 kf_back I J v I1 J1 R1 T1 ∧ cp I1 J1 R1 T1) ∧ ∃ K, C3 K ∧ ck I1 J1 = fx_back K)) := by
  refine (r3_w (l2x_back hX2 hh hr.1) (x3_back hh.1)).mono (lw_mono ?_)
  rintro v I1 J1 R1 T1 ⟨h1, A, B, e, h2⟩
  exact ⟨h1, _, hr.2, e.trans h2⟩
theorem l3m_back (hX2 : X.1 < 2 ^ 31) (hh : cx_hok cx_B0 I R T) (hr : rl3 I J R T) (hh1 : cx_hok cx_B0 I1 R1 T1) (hm : (mi_k ck_5_0.2.1 kf_back I J v I1 J1 R1 T1 ∧ cp I1 J1 R1 T1) ∧ ∃ K, C3 K ∧ ck I1 J1 = fx_back K) : ev_W X 168 0 (ez_lay [.ref 35]) [] (ev_hp I1 J1 R1 T1) 0 0 (lw_mid T1 (fun u I2 J2 R2 T2 => rl3 I2 J2 R2 T2)) := by
  refine (r3_wp (l2m_back hX2 hh hr.1 hh1 hm.1) (fun N => y3_back (N := N) hh1.1)).mono (lw_mono ?_)
  rintro u I2 J2 R2 T2 ⟨h1, A, B, e, h2⟩
  obtain ⟨K, hK, h3⟩ := hm.2
  refine ⟨h1.2, ?_⟩
  show C3 (ck I2 J2)
  rw [e, h2, h3]
  exact C3_back hK
theorem l3x_truth (hX2 : X.1 < 2 ^ 31) (hh : cx_hok cx_B0 I R T) (hr : rl3 I J R T) (x y : Int32) : ev_W X 53 0 (ez_lay [.ref 0, .int x, .int y]) [] (ev_hp I J R T) 0 0 (lw_mid T (fun v I1 J1 R1 T1 => rl2 I1 J1 R1 T1 ∧ C3 (ck I1 J1))) := by
  refine (r3_v (l2x_truth hX2 hh hr.1 x y) cv_53_0 hX2 hh ao_2).mono (lw_mono ?_)
  rintro v I1 J1 R1 T1 ⟨h1, A, B, e, h2⟩
  refine ⟨h1, ?_⟩
  rw [e, ck_fr (by rfl) h2]
  exact hr.2
theorem l3m_truth (hX2 : X.1 < 2 ^ 31) (hh : cx_hok cx_B0 I R T) (hr : rl3 I J R T) (x y : Int32) (hh1 : cx_hok cx_B0 I1 R1 T1) (hm : rl2 I1 J1 R1 T1 ∧ C3 (ck I1 J1)) : ev_W X 229 0 (ez_lay [.ref 35, .int x, .int y]) [] (ev_hp I1 J1 R1 T1) 0 0 (lw_mid T1 (fun u I2 J2 R2 T2 => rl3 I2 J2 R2 T2)) := by
  refine (r3_v (l2m_truth hX2 x y hh1 hm.1) cv_229_0 hX2 hh1 ao_2).mono (lw_mono ?_)
  rintro u I2 J2 R2 T2 ⟨h1, A, B, e, h2⟩
  refine ⟨h1, ?_⟩
  show C3 (ck I2 J2)
  rw [e, ck_fr (by rfl) h2]
  exact hm.2
theorem l3x_lies (hX2 : X.1 < 2 ^ 31) (hh : cx_hok cx_B0 I R T) (hr : rl3 I J R T) (x y z : Int32) : ev_W X 31 0 (ez_lay [.ref 0, .int x, .int y, .int z]) [] (ev_hp I J R T) 0 0 (lw_midL T (fun v I1 J1 R1 T1 => rl2 I1 J1 R1 T1 ∧ C3 (ck I1 J1))) := by
  refine (r3_vL (l2x_lies hX2 hh hr.1 x y z) cv_31_0 hX2 hh ao_3).mono (lw_monoL ?_)
  rintro v I1 J1 R1 T1 ⟨h1, A, B, e, h2⟩
  refine ⟨h1, ?_⟩
  rw [e, ck_fr (by rfl) h2]
  exact hr.2
theorem l3m_lies (hX2 : X.1 < 2 ^ 31) (hh : cx_hok cx_B0 I R T) (hr : rl3 I J R T) (x y z : Int32) (hh1 : cx_hok cx_B0 I1 R1 T1) (hm : rl2 I1 J1 R1 T1 ∧ C3 (ck I1 J1)) : ev_W X 208 0 (ez_lay [.ref 35, .int x, .int y, .int z]) [] (ev_hp I1 J1 R1 T1) 0 0 (lw_midL T1 (fun u I2 J2 R2 T2 => rl3 I2 J2 R2 T2)) := by
  refine (r3_vL (l2m_lies hX2 x y z hh1 hm.1) cv_208_0 hX2 hh1 ao_3).mono (lw_monoL ?_)
  rintro u I2 J2 R2 T2 ⟨h1, A, B, e, h2⟩
  refine ⟨h1, ?_⟩
  show C3 (ck I2 J2)
  rw [e, ck_fr (by rfl) h2]
  exact hm.2
theorem l3x_left (hX2 : X.1 < 2 ^ 31) (hh : cx_hok cx_B0 I R T) (hr : rl3 I J R T) : ev_W X 29 0 (ez_lay [.ref 0]) [] (ev_hp I J R T) 0 0 (lw_mid T (fun v I1 J1 R1 T1 => rl2 I1 J1 R1 T1 ∧ C3 (ck I1 J1))) := by
  refine (r3_v (l2x_left hX2 hh hr.1) cv_29_0 hX2 hh ao_0).mono (lw_mono ?_)
  rintro v I1 J1 R1 T1 ⟨h1, A, B, e, h2⟩
  refine ⟨h1, ?_⟩
  rw [e, ck_fr (by rfl) h2]
  exact hr.2
theorem l3m_left (hX2 : X.1 < 2 ^ 31) (hh : cx_hok cx_B0 I R T) (hr : rl3 I J R T) (hh1 : cx_hok cx_B0 I1 R1 T1) (hm : rl2 I1 J1 R1 T1 ∧ C3 (ck I1 J1)) : ev_W X 207 0 (ez_lay [.ref 35]) [] (ev_hp I1 J1 R1 T1) 0 0 (lw_mid T1 (fun u I2 J2 R2 T2 => rl3 I2 J2 R2 T2)) := by
  refine (r3_v (l2m_left hX2 hh1 hm.1) cv_207_0 hX2 hh1 ao_0).mono (lw_mono ?_)
  rintro u I2 J2 R2 T2 ⟨h1, A, B, e, h2⟩
  refine ⟨h1, ?_⟩
  show C3 (ck I2 J2)
  rw [e, ck_fr (by rfl) h2]
  exact hm.2
theorem l3x_which (hX2 : X.1 < 2 ^ 31) (hh : cx_hok cx_B0 I R T) (hr : rl3 I J R T) (x : Int32) : ev_W X 54 0 (ez_lay [.ref 0, .int x]) [] (ev_hp I J R T) 0 0 (lw_mid T (fun v I1 J1 R1 T1 => rl2 I1 J1 R1 T1 ∧ C3 (ck I1 J1))) := by
  refine (r3_v (l2x_which hX2 hh hr.1 x) cv_54_0 hX2 hh ao_1).mono (lw_mono ?_)
  rintro v I1 J1 R1 T1 ⟨h1, A, B, e, h2⟩
  refine ⟨h1, ?_⟩
  rw [e, ck_fr (by rfl) h2]
  exact hr.2
theorem l3m_which (hX2 : X.1 < 2 ^ 31) (hh : cx_hok cx_B0 I R T) (hr : rl3 I J R T) (x : Int32) (hh1 : cx_hok cx_B0 I1 R1 T1) (hm : rl2 I1 J1 R1 T1 ∧ C3 (ck I1 J1)) : ev_W X 232 0 (ez_lay [.ref 35, .int x]) [] (ev_hp I1 J1 R1 T1) 0 0 (lw_mid T1 (fun u I2 J2 R2 T2 => rl3 I2 J2 R2 T2)) := by
  refine (r3_v (l2m_which hX2 x hh1 hm.1) cv_232_0 hX2 hh1 ao_1).mono (lw_mono ?_)
  rintro u I2 J2 R2 T2 ⟨h1, A, B, e, h2⟩
  refine ⟨h1, ?_⟩
  show C3 (ck I2 J2)
  rw [e, ck_fr (by rfl) h2]
  exact hm.2
theorem l3x_there (hX2 : X.1 < 2 ^ 31) (hh : cx_hok cx_B0 I R T) (hr : rl3 I J R T) (x : Int32) : ev_W X 51 0 (ez_lay [.ref 0, .int x]) [] (ev_hp I J R T) 0 0 (lw_mid T (fun v I1 J1 R1 T1 => rl2 I1 J1 R1 T1 ∧ C3 (ck I1 J1))) := by
  refine (r3_v (l2x_there hX2 hh hr.1 x) cv_51_0 hX2 hh ao_1).mono (lw_mono ?_)
  rintro v I1 J1 R1 T1 ⟨h1, A, B, e, h2⟩
  refine ⟨h1, ?_⟩
  rw [e, ck_fr (by rfl) h2]
  exact hr.2
theorem l3m_there (hX2 : X.1 < 2 ^ 31) (hh : cx_hok cx_B0 I R T) (hr : rl3 I J R T) (x : Int32) (hh1 : cx_hok cx_B0 I1 R1 T1) (hm : rl2 I1 J1 R1 T1 ∧ C3 (ck I1 J1)) : ev_W X 227 0 (ez_lay [.ref 35, .int x]) [] (ev_hp I1 J1 R1 T1) 0 0 (lw_mid T1 (fun u I2 J2 R2 T2 => rl3 I2 J2 R2 T2)) := by
  refine (r3_v (l2m_there hX2 x hh1 hm.1) cv_227_0 hX2 hh1 ao_1).mono (lw_mono ?_)
  rintro u I2 J2 R2 T2 ⟨h1, A, B, e, h2⟩
  refine ⟨h1, ?_⟩
  show C3 (ck I2 J2)
  rw [e, ck_fr (by rfl) h2]
  exact hm.2
theorem l3x_sure (hX2 : X.1 < 2 ^ 31) (hh : cx_hok cx_B0 I R T) (hr : rl3 I J R T) (x : Int32) : ev_W X 48 0 (ez_lay [.ref 0, .int x]) [] (ev_hp I J R T) 0 0 (lw_midL T (fun v I1 J1 R1 T1 => rl2 I1 J1 R1 T1 ∧ C3 (ck I1 J1))) := by
  refine (r3_vL (l2x_sure hX2 hh hr.1 x) cv_48_0 hX2 hh ao_1).mono (lw_monoL ?_)
  rintro v I1 J1 R1 T1 ⟨h1, A, B, e, h2⟩
  refine ⟨h1, ?_⟩
  rw [e, ck_fr (by rfl) h2]
  exact hr.2
theorem l3m_sure (hX2 : X.1 < 2 ^ 31) (hh : cx_hok cx_B0 I R T) (hr : rl3 I J R T) (x : Int32) (hh1 : cx_hok cx_B0 I1 R1 T1) (hm : rl2 I1 J1 R1 T1 ∧ C3 (ck I1 J1)) : ev_W X 225 0 (ez_lay [.ref 35, .int x]) [] (ev_hp I1 J1 R1 T1) 0 0 (lw_midL T1 (fun u I2 J2 R2 T2 => rl3 I2 J2 R2 T2)) := by
  refine (r3_vL (l2m_sure hX2 x hh1 hm.1) cv_225_0 hX2 hh1 ao_1).mono (lw_monoL ?_)
  rintro u I2 J2 R2 T2 ⟨h1, A, B, e, h2⟩
  refine ⟨h1, ?_⟩
  show C3 (ck I2 J2)
  rw [e, ck_fr (by rfl) h2]
  exact hm.2
theorem l3x_part (hX2 : X.1 < 2 ^ 31) (hh : cx_hok cx_B0 I R T) (hr : rl3 I J R T) (x y : Int32) : ev_W X 37 0 (ez_lay [.ref 0, .int x, .int y]) [] (ev_hp I J R T) 0 0 (lw_mid T (fun v I1 J1 R1 T1 => rl2 I1 J1 R1 T1 ∧ C3 (ck I1 J1))) := by
  refine (r3_v (l2x_part hX2 hh hr.1 x y) cv_37_0 hX2 hh ao_2).mono (lw_mono ?_)
  rintro v I1 J1 R1 T1 ⟨h1, A, B, e, h2⟩
  refine ⟨h1, ?_⟩
  rw [e, ck_fr (by rfl) h2]
  exact hr.2
theorem l3m_part (hX2 : X.1 < 2 ^ 31) (hh : cx_hok cx_B0 I R T) (hr : rl3 I J R T) (x y : Int32) (hh1 : cx_hok cx_B0 I1 R1 T1) (hm : rl2 I1 J1 R1 T1 ∧ C3 (ck I1 J1)) : ev_W X 214 0 (ez_lay [.ref 35, .int x, .int y]) [] (ev_hp I1 J1 R1 T1) 0 0 (lw_mid T1 (fun u I2 J2 R2 T2 => rl3 I2 J2 R2 T2)) := by
  refine (r3_v (l2m_part hX2 x y hh1 hm.1) cv_214_0 hX2 hh1 ao_2).mono (lw_mono ?_)
  rintro u I2 J2 R2 T2 ⟨h1, A, B, e, h2⟩
  refine ⟨h1, ?_⟩
  show C3 (ck I2 J2)
  rw [e, ck_fr (by rfl) h2]
  exact hm.2
theorem l3x_best (hX2 : X.1 < 2 ^ 31) (hh : cx_hok cx_B0 I R T) (hr : rl3 I J R T) (x : Int32) : ev_W X 6 0 (ez_lay [.ref 0, .int x]) [] (ev_hp I J R T) 0 0 (lw_mid T (fun v I1 J1 R1 T1 => rl2 I1 J1 R1 T1 ∧ C3 (ck I1 J1))) := by
  refine (r3_v (l2x_best hX2 hh hr.1 x) cv_6_0 hX2 hh ao_1).mono (lw_mono ?_)
  rintro v I1 J1 R1 T1 ⟨h1, A, B, e, h2⟩
  refine ⟨h1, ?_⟩
  rw [e, ck_fr (by rfl) h2]
  exact hr.2
theorem l3m_best (hX2 : X.1 < 2 ^ 31) (hh : cx_hok cx_B0 I R T) (hr : rl3 I J R T) (x : Int32) (hh1 : cx_hok cx_B0 I1 R1 T1) (hm : rl2 I1 J1 R1 T1 ∧ C3 (ck I1 J1)) : ev_W X 169 0 (ez_lay [.ref 35, .int x]) [] (ev_hp I1 J1 R1 T1) 0 0 (lw_mid T1 (fun u I2 J2 R2 T2 => rl3 I2 J2 R2 T2)) := by
  refine (r3_v (l2m_best hX2 x hh1 hm.1) cv_169_0 hX2 hh1 ao_1).mono (lw_mono ?_)
  rintro u I2 J2 R2 T2 ⟨h1, A, B, e, h2⟩
  refine ⟨h1, ?_⟩
  show C3 (ck I2 J2)
  rw [e, ck_fr (by rfl) h2]
  exact hm.2
theorem l3x_bestSalvo (hX2 : X.1 < 2 ^ 31) (hh : cx_hok cx_B0 I R T) (hr : rl3 I J R T) (x : Int32) : ev_W X 7 0 (ez_lay [.ref 0, .int x]) [] (ev_hp I J R T) 0 0 (lw_mid T (fun v I1 J1 R1 T1 => rl2 I1 J1 R1 T1 ∧ C3 (ck I1 J1))) := by
  refine (r3_v (l2x_bestSalvo hX2 hh hr.1 x) cv_7_0 hX2 hh ao_1).mono (lw_mono ?_)
  rintro v I1 J1 R1 T1 ⟨h1, A, B, e, h2⟩
  refine ⟨h1, ?_⟩
  rw [e, ck_fr (by rfl) h2]
  exact hr.2
theorem l3m_bestSalvo (hX2 : X.1 < 2 ^ 31) (hh : cx_hok cx_B0 I R T) (hr : rl3 I J R T) (x : Int32) (hh1 : cx_hok cx_B0 I1 R1 T1) (hm : rl2 I1 J1 R1 T1 ∧ C3 (ck I1 J1)) : ev_W X 170 0 (ez_lay [.ref 35, .int x]) [] (ev_hp I1 J1 R1 T1) 0 0 (lw_mid T1 (fun u I2 J2 R2 T2 => rl3 I2 J2 R2 T2)) := by
  refine (r3_v (l2m_bestSalvo hX2 x hh1 hm.1) cv_170_0 hX2 hh1 ao_1).mono (lw_mono ?_)
  rintro u I2 J2 R2 T2 ⟨h1, A, B, e, h2⟩
  refine ⟨h1, ?_⟩
  show C3 (ck I2 J2)
  rw [e, ck_fr (by rfl) h2]
  exact hm.2
theorem l3x_need (hX2 : X.1 < 2 ^ 31) (hh : cx_hok cx_B0 I R T) (hr : rl3 I J R T) (x : Int32) : ev_W X 34 0 (ez_lay [.ref 0, .int x]) [] (ev_hp I J R T) 0 0 (lw_mid T (fun v I1 J1 R1 T1 => rl2 I1 J1 R1 T1 ∧ C3 (ck I1 J1))) := by
  refine (r3_v (l2x_need hX2 hh hr.1 x) cv_34_0 hX2 hh ao_1).mono (lw_mono ?_)
  rintro v I1 J1 R1 T1 ⟨h1, A, B, e, h2⟩
  refine ⟨h1, ?_⟩
  rw [e, ck_fr (by rfl) h2]
  exact hr.2
theorem l3m_need (hX2 : X.1 < 2 ^ 31) (hh : cx_hok cx_B0 I R T) (hr : rl3 I J R T) (x : Int32) (hh1 : cx_hok cx_B0 I1 R1 T1) (hm : rl2 I1 J1 R1 T1 ∧ C3 (ck I1 J1)) : ev_W X 212 0 (ez_lay [.ref 35, .int x]) [] (ev_hp I1 J1 R1 T1) 0 0 (lw_mid T1 (fun u I2 J2 R2 T2 => rl3 I2 J2 R2 T2)) := by
  refine (r3_v (l2m_need hX2 x hh1 hm.1) cv_212_0 hX2 hh1 ao_1).mono (lw_mono ?_)
  rintro u I2 J2 R2 T2 ⟨h1, A, B, e, h2⟩
  refine ⟨h1, ?_⟩
  show C3 (ck I2 J2)
  rw [e, ck_fr (by rfl) h2]
  exact hm.2
theorem l3x_calls (hX2 : X.1 < 2 ^ 31) (hh : cx_hok cx_B0 I R T) (hr : rl3 I J R T) (x y : Int32) : ev_W X 11 0 (ez_lay [.ref 0, .int x, .int y]) [] (ev_hp I J R T) 0 0 (lw_mid T (fun v I1 J1 R1 T1 => rl2 I1 J1 R1 T1 ∧ C3 (ck I1 J1))) := by
  refine (r3_v (l2x_calls hX2 hh hr.1 x y) cv_11_0 hX2 hh ao_2).mono (lw_mono ?_)
  rintro v I1 J1 R1 T1 ⟨h1, A, B, e, h2⟩
  refine ⟨h1, ?_⟩
  rw [e, ck_fr (by rfl) h2]
  exact hr.2
theorem l3m_calls (hX2 : X.1 < 2 ^ 31) (hh : cx_hok cx_B0 I R T) (hr : rl3 I J R T) (x y : Int32) (hh1 : cx_hok cx_B0 I1 R1 T1) (hm : rl2 I1 J1 R1 T1 ∧ C3 (ck I1 J1)) : ev_W X 178 0 (ez_lay [.ref 35, .int x, .int y]) [] (ev_hp I1 J1 R1 T1) 0 0 (lw_mid T1 (fun u I2 J2 R2 T2 => rl3 I2 J2 R2 T2)) := by
  refine (r3_v (l2m_calls hX2 x y hh1 hm.1) cv_178_0 hX2 hh1 ao_2).mono (lw_mono ?_)
  rintro u I2 J2 R2 T2 ⟨h1, A, B, e, h2⟩
  refine ⟨h1, ?_⟩
  show C3 (ck I2 J2)
  rw [e, ck_fr (by rfl) h2]
  exact hm.2
theorem l3x_hardest (hX2 : X.1 < 2 ^ 31) (hh : cx_hok cx_B0 I R T) (hr : rl3 I J R T) (x : Int32) : ev_W X 20 0 (ez_lay [.ref 0, .int x]) [] (ev_hp I J R T) 0 0 (lw_mid T (fun v I1 J1 R1 T1 => rl2 I1 J1 R1 T1 ∧ C3 (ck I1 J1))) := by
  refine (r3_v (l2x_hardest hX2 hh hr.1 x) cv_20_0 hX2 hh ao_1).mono (lw_mono ?_)
  rintro v I1 J1 R1 T1 ⟨h1, A, B, e, h2⟩
  refine ⟨h1, ?_⟩
  rw [e, ck_fr (by rfl) h2]
  exact hr.2
theorem l3m_hardest (hX2 : X.1 < 2 ^ 31) (hh : cx_hok cx_B0 I R T) (hr : rl3 I J R T) (x : Int32) (hh1 : cx_hok cx_B0 I1 R1 T1) (hm : rl2 I1 J1 R1 T1 ∧ C3 (ck I1 J1)) : ev_W X 196 0 (ez_lay [.ref 35, .int x]) [] (ev_hp I1 J1 R1 T1) 0 0 (lw_mid T1 (fun u I2 J2 R2 T2 => rl3 I2 J2 R2 T2)) := by
  refine (r3_v (l2m_hardest hX2 x hh1 hm.1) cv_196_0 hX2 hh1 ao_1).mono (lw_mono ?_)
  rintro u I2 J2 R2 T2 ⟨h1, A, B, e, h2⟩
  refine ⟨h1, ?_⟩
  show C3 (ck I2 J2)
  rw [e, ck_fr (by rfl) h2]
  exact hm.2
theorem l3x_stray (hX2 : X.1 < 2 ^ 31) (hh : cx_hok cx_B0 I R T) (hr : rl3 I J R T) : ev_W X 47 0 (ez_lay [.ref 0]) [] (ev_hp I J R T) 0 0 (lw_mid T (fun v I1 J1 R1 T1 => rl2 I1 J1 R1 T1 ∧ C3 (ck I1 J1))) := by
  refine (r3_v (l2x_stray hX2 hh hr.1) cv_47_0 hX2 hh ao_0).mono (lw_mono ?_)
  rintro v I1 J1 R1 T1 ⟨h1, A, B, e, h2⟩
  refine ⟨h1, ?_⟩
  rw [e, ck_fr (by rfl) h2]
  exact hr.2
theorem l3m_stray (hX2 : X.1 < 2 ^ 31) (hh : cx_hok cx_B0 I R T) (hr : rl3 I J R T) (hh1 : cx_hok cx_B0 I1 R1 T1) (hm : rl2 I1 J1 R1 T1 ∧ C3 (ck I1 J1)) : ev_W X 224 0 (ez_lay [.ref 35]) [] (ev_hp I1 J1 R1 T1) 0 0 (lw_mid T1 (fun u I2 J2 R2 T2 => rl3 I2 J2 R2 T2)) := by
  refine (r3_v (l2m_stray hX2 hh1 hm.1) cv_224_0 hX2 hh1 ao_0).mono (lw_mono ?_)
  rintro u I2 J2 R2 T2 ⟨h1, A, B, e, h2⟩
  refine ⟨h1, ?_⟩
  show C3 (ck I2 J2)
  rw [e, ck_fr (by rfl) h2]
  exact hm.2
theorem l3x_blame (hX2 : X.1 < 2 ^ 31) (hh : cx_hok cx_B0 I R T) (hr : rl3 I J R T) : ev_W X 8 0 (ez_lay [.ref 0]) [] (ev_hp I J R T) 0 0 (lw_mid T (fun v I1 J1 R1 T1 => rl2 I1 J1 R1 T1 ∧ C3 (ck I1 J1))) := by
  refine (r3_v (l2x_blame hX2 hh hr.1) cv_8_0 hX2 hh ao_0).mono (lw_mono ?_)
  rintro v I1 J1 R1 T1 ⟨h1, A, B, e, h2⟩
  refine ⟨h1, ?_⟩
  rw [e, ck_fr (by rfl) h2]
  exact hr.2
theorem l3m_blame (hX2 : X.1 < 2 ^ 31) (hh : cx_hok cx_B0 I R T) (hr : rl3 I J R T) (hh1 : cx_hok cx_B0 I1 R1 T1) (hm : rl2 I1 J1 R1 T1 ∧ C3 (ck I1 J1)) : ev_W X 172 0 (ez_lay [.ref 35]) [] (ev_hp I1 J1 R1 T1) 0 0 (lw_mid T1 (fun u I2 J2 R2 T2 => rl3 I2 J2 R2 T2)) := by
  refine (r3_v (l2m_blame hX2 hh1 hm.1) cv_172_0 hX2 hh1 ao_0).mono (lw_mono ?_)
  rintro u I2 J2 R2 T2 ⟨h1, A, B, e, h2⟩
  refine ⟨h1, ?_⟩
  show C3 (ck I2 J2)
  rw [e, ck_fr (by rfl) h2]
  exact hm.2
theorem l3x_blamed (hX2 : X.1 < 2 ^ 31) (hh : cx_hok cx_B0 I R T) (hr : rl3 I J R T) : ev_W X 9 0 (ez_lay [.ref 0]) [] (ev_hp I J R T) 0 0 (lw_mid T (fun v I1 J1 R1 T1 => rl2 I1 J1 R1 T1 ∧ C3 (ck I1 J1))) := by
  refine (r3_v (l2x_blamed hX2 hh hr.1) cv_9_0 hX2 hh ao_0).mono (lw_mono ?_)
  rintro v I1 J1 R1 T1 ⟨h1, A, B, e, h2⟩
  refine ⟨h1, ?_⟩
  rw [e, ck_fr (by rfl) h2]
  exact hr.2
theorem l3m_blamed (hX2 : X.1 < 2 ^ 31) (hh : cx_hok cx_B0 I R T) (hr : rl3 I J R T) (hh1 : cx_hok cx_B0 I1 R1 T1) (hm : rl2 I1 J1 R1 T1 ∧ C3 (ck I1 J1)) : ev_W X 174 0 (ez_lay [.ref 35]) [] (ev_hp I1 J1 R1 T1) 0 0 (lw_mid T1 (fun u I2 J2 R2 T2 => rl3 I2 J2 R2 T2)) := by
  refine (r3_v (l2m_blamed hX2 hh1 hm.1) cv_174_0 hX2 hh1 ao_0).mono (lw_mono ?_)
  rintro u I2 J2 R2 T2 ⟨h1, A, B, e, h2⟩
  refine ⟨h1, ?_⟩
  show C3 (ck I2 J2)
  rw [e, ck_fr (by rfl) h2]
  exact hm.2
theorem l3x_switched (hX2 : X.1 < 2 ^ 31) (hh : cx_hok cx_B0 I R T) (hr : rl3 I J R T) (x : Int32) : ev_W X 50 0 (ez_lay [.ref 0, .int x]) [] (ev_hp I J R T) 0 0 (lw_mid T (fun v I1 J1 R1 T1 => rl2 I1 J1 R1 T1 ∧ C3 (ck I1 J1))) := by
  refine (r3_v (l2x_switched hX2 hh hr.1 x) cv_50_0 hX2 hh ao_1).mono (lw_mono ?_)
  rintro v I1 J1 R1 T1 ⟨h1, A, B, e, h2⟩
  refine ⟨h1, ?_⟩
  rw [e, ck_fr (by rfl) h2]
  exact hr.2
theorem l3m_switched (hX2 : X.1 < 2 ^ 31) (hh : cx_hok cx_B0 I R T) (hr : rl3 I J R T) (x : Int32) (hh1 : cx_hok cx_B0 I1 R1 T1) (hm : rl2 I1 J1 R1 T1 ∧ C3 (ck I1 J1)) : ev_W X 226 0 (ez_lay [.ref 35, .int x]) [] (ev_hp I1 J1 R1 T1) 0 0 (lw_mid T1 (fun u I2 J2 R2 T2 => rl3 I2 J2 R2 T2)) := by
  refine (r3_v (l2m_switched hX2 x hh1 hm.1) cv_226_0 hX2 hh1 ao_1).mono (lw_mono ?_)
  rintro u I2 J2 R2 T2 ⟨h1, A, B, e, h2⟩
  refine ⟨h1, ?_⟩
  show C3 (ck I2 J2)
  rw [e, ck_fr (by rfl) h2]
  exact hm.2
theorem l3x_count (hX2 : X.1 < 2 ^ 31) (hh : cx_hok cx_B0 I R T) (hr : rl3 I J R T) (x y : Int32) : ev_W X 14 0 (ez_lay [.ref 0, .int x, .int y]) [] (ev_hp I J R T) 0 0 (lw_mid T (fun v I1 J1 R1 T1 => (mi_k ck_14_0.2.1 (kf_count x y) I J v I1 J1 R1 T1 ∧ cp I1 J1 R1 T1) ∧ ∃ K, C3 K ∧ ck I1 J1 = fx_count x y K)) := by
  refine (r3_w (l2x_count hX2 hh hr.1 x y) (x3_count hh.1 x y)).mono (lw_mono ?_)
  rintro v I1 J1 R1 T1 ⟨h1, A, B, e, h2⟩
  exact ⟨h1, _, hr.2, e.trans h2⟩
theorem l3m_count (hX2 : X.1 < 2 ^ 31) (hh : cx_hok cx_B0 I R T) (hr : rl3 I J R T) (x y : Int32) (hh1 : cx_hok cx_B0 I1 R1 T1) (hm : (mi_k ck_14_0.2.1 (kf_count x y) I J v I1 J1 R1 T1 ∧ cp I1 J1 R1 T1) ∧ ∃ K, C3 K ∧ ck I1 J1 = fx_count x y K) : ev_W X 182 0 (ez_lay [.ref 35, .int x, .int y]) [] (ev_hp I1 J1 R1 T1) 0 0 (lw_mid T1 (fun u I2 J2 R2 T2 => rl3 I2 J2 R2 T2)) := by
  refine (r3_v (l2m_count hX2 hh hr.1 x y hh1 hm.1) cv_182_0 hX2 hh1 ao_2).mono (lw_mono ?_)
  rintro u I2 J2 R2 T2 ⟨h1, A, B, e, h2⟩
  refine ⟨h1.2, ?_⟩
  show C3 (ck I2 J2)
  rw [e, ck_fr (by rfl) h2]
  obtain ⟨K, hK, h3⟩ := hm.2
  rw [h3]
  exact C3_count x y hK
theorem l3x_rim (hX2 : X.1 < 2 ^ 31) (hh : cx_hok cx_B0 I R T) (hr : rl3 I J R T) (x y : Int32) : ev_W X 40 0 (ez_lay [.ref 0, .int x, .int y]) [] (ev_hp I J R T) 0 0 (lw_mid T (fun v I1 J1 R1 T1 => rl2 I1 J1 R1 T1 ∧ C3 (ck I1 J1))) := by
  refine (r3_v (l2x_rim hX2 hh hr.1 x y) cv_40_0 hX2 hh ao_2).mono (lw_mono ?_)
  rintro v I1 J1 R1 T1 ⟨h1, A, B, e, h2⟩
  refine ⟨h1, ?_⟩
  rw [e, ck_fr (by rfl) h2]
  exact hr.2
theorem l3m_rim (hX2 : X.1 < 2 ^ 31) (hh : cx_hok cx_B0 I R T) (hr : rl3 I J R T) (x y : Int32) (hh1 : cx_hok cx_B0 I1 R1 T1) (hm : rl2 I1 J1 R1 T1 ∧ C3 (ck I1 J1)) : ev_W X 217 0 (ez_lay [.ref 35, .int x, .int y]) [] (ev_hp I1 J1 R1 T1) 0 0 (lw_mid T1 (fun u I2 J2 R2 T2 => rl3 I2 J2 R2 T2)) := by
  refine (r3_v (l2m_rim hX2 x y hh1 hm.1) cv_217_0 hX2 hh1 ao_2).mono (lw_mono ?_)
  rintro u I2 J2 R2 T2 ⟨h1, A, B, e, h2⟩
  refine ⟨h1, ?_⟩
  show C3 (ck I2 J2)
  rw [e, ck_fr (by rfl) h2]
  exact hm.2
theorem l3x_fitting (hX2 : X.1 < 2 ^ 31) (hh : cx_hok cx_B0 I R T) (hr : rl3 I J R T) : ev_W X 17 0 (ez_lay [.ref 0]) [] (ev_hp I J R T) 0 0 (lw_mid T (fun v I1 J1 R1 T1 => rl2 I1 J1 R1 T1 ∧ C3 (ck I1 J1))) := by
  refine (r3_v (l2x_fitting hX2 hh hr.1) cv_17_0 hX2 hh ao_0).mono (lw_mono ?_)
  rintro v I1 J1 R1 T1 ⟨h1, A, B, e, h2⟩
  refine ⟨h1, ?_⟩
  rw [e, ck_fr (by rfl) h2]
  exact hr.2
theorem l3m_fitting (hX2 : X.1 < 2 ^ 31) (hh : cx_hok cx_B0 I R T) (hr : rl3 I J R T) (hh1 : cx_hok cx_B0 I1 R1 T1) (hm : rl2 I1 J1 R1 T1 ∧ C3 (ck I1 J1)) : ev_W X 191 0 (ez_lay [.ref 35]) [] (ev_hp I1 J1 R1 T1) 0 0 (lw_mid T1 (fun u I2 J2 R2 T2 => rl3 I2 J2 R2 T2)) := by
  refine (r3_v (l2m_fitting hX2 hh1 hm.1) cv_191_0 hX2 hh1 ao_0).mono (lw_mono ?_)
  rintro u I2 J2 R2 T2 ⟨h1, A, B, e, h2⟩
  refine ⟨h1, ?_⟩
  show C3 (ck I2 J2)
  rw [e, ck_fr (by rfl) h2]
  exact hm.2
theorem l3x_clues (hX2 : X.1 < 2 ^ 31) (hh : cx_hok cx_B0 I R T) (hr : rl3 I J R T) (x : Int32) : ev_W X 13 0 (ez_lay [.ref 0, .int x]) [] (ev_hp I J R T) 0 0 (lw_mid T (fun v I1 J1 R1 T1 => rl2 I1 J1 R1 T1 ∧ C3 (ck I1 J1))) := by
  refine (r3_v (l2x_clues hX2 hh hr.1 x) cv_13_0 hX2 hh ao_1).mono (lw_mono ?_)
  rintro v I1 J1 R1 T1 ⟨h1, A, B, e, h2⟩
  refine ⟨h1, ?_⟩
  rw [e, ck_fr (by rfl) h2]
  exact hr.2
theorem l3m_clues (hX2 : X.1 < 2 ^ 31) (hh : cx_hok cx_B0 I R T) (hr : rl3 I J R T) (x : Int32) (hh1 : cx_hok cx_B0 I1 R1 T1) (hm : rl2 I1 J1 R1 T1 ∧ C3 (ck I1 J1)) : ev_W X 181 0 (ez_lay [.ref 35, .int x]) [] (ev_hp I1 J1 R1 T1) 0 0 (lw_mid T1 (fun u I2 J2 R2 T2 => rl3 I2 J2 R2 T2)) := by
  refine (r3_v (l2m_clues hX2 x hh1 hm.1) cv_181_0 hX2 hh1 ao_1).mono (lw_mono ?_)
  rintro u I2 J2 R2 T2 ⟨h1, A, B, e, h2⟩
  refine ⟨h1, ?_⟩
  show C3 (ck I2 J2)
  rw [e, ck_fr (by rfl) h2]
  exact hm.2
theorem l3x_many (hX2 : X.1 < 2 ^ 31) (hh : cx_hok cx_B0 I R T) (hr : rl3 I J R T) (x : Int32) : ev_W X 33 0 (ez_lay [.ref 0, .int x]) [] (ev_hp I J R T) 0 0 (lw_mid T (fun v I1 J1 R1 T1 => rl2 I1 J1 R1 T1 ∧ C3 (ck I1 J1))) := by
  refine (r3_v (l2x_many hX2 hh hr.1 x) cv_33_0 hX2 hh ao_1).mono (lw_mono ?_)
  rintro v I1 J1 R1 T1 ⟨h1, A, B, e, h2⟩
  refine ⟨h1, ?_⟩
  rw [e, ck_fr (by rfl) h2]
  exact hr.2
theorem l3m_many (hX2 : X.1 < 2 ^ 31) (hh : cx_hok cx_B0 I R T) (hr : rl3 I J R T) (x : Int32) (hh1 : cx_hok cx_B0 I1 R1 T1) (hm : rl2 I1 J1 R1 T1 ∧ C3 (ck I1 J1)) : ev_W X 210 0 (ez_lay [.ref 35, .int x]) [] (ev_hp I1 J1 R1 T1) 0 0 (lw_mid T1 (fun u I2 J2 R2 T2 => rl3 I2 J2 R2 T2)) := by
  refine (r3_v (l2m_many hX2 x hh1 hm.1) cv_210_0 hX2 hh1 ao_1).mono (lw_mono ?_)
  rintro u I2 J2 R2 T2 ⟨h1, A, B, e, h2⟩
  refine ⟨h1, ?_⟩
  show C3 (ck I2 J2)
  rw [e, ck_fr (by rfl) h2]
  exact hm.2
end
