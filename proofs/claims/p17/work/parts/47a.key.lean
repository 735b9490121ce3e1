/-! What both sides keep of the calls that were made: the key of the class's world, that of the reference's. -/
/-- wide, high, wraps, cells, drift, the three rules, how many ships, how many calls, the counts -/
abbrev kt_K : Type := Int32 × Int32 × Int32 × Int32 × Int32 × Int32 × Int32 × Int32 × Int32 × Int32 × Int32 × (Nat → Int32)
def kx (I : Nat → Nat → Int32) : kt_K := (I 1 3, I 1 4, I 1 5, I 1 6, I 1 1, I 1 2, I 2 0, I 2 1, I 2 2, I 3 3, I 8 1, fun r => if r < 12 then I 33 r else 0)
def km (I : Nat → Nat → Int32) : kt_K := (I 35 0, I 35 1, I 35 2, I 35 0 * I 35 1, I 35 9, I 35 10, I 35 6, I 35 7, I 35 8, I 35 3, I 35 16, fun r => if r < 12 then I 61 r else 0)
section
variable {I I' : Nat → Nat → Int32} {J J' : Nat → Nat → Int64} {R R' : Nat → Nat} {T T' : List ez_C}
theorem hp_row {p n : Nat} {t : List (Nat × Nat)} (h : cx_Ds[p]? = some (0, n, t)) (e : ev_hp I J R T = ev_hp I' J' R' T') : I p = I' p := by
  have a := cx_getI (I := I) (J := J) (R := R) (T := T) h
  rw [e, cx_getI h] at a
  injection a with a
  injection a with a
  injection a with _ a
  injection a with a
  exact a.symm
theorem hp_rowJ {p n : Nat} {t : List (Nat × Nat)} (h : cx_Ds[p]? = some (1, n, t)) (e : ev_hp I J R T = ev_hp I' J' R' T') : J p = J' p := by
  have a := cx_getJ (I := I) (J := J) (R := R) (T := T) h
  rw [e, cx_getJ h] at a
  injection a with a
  injection a with a
  injection a with _ a
  injection a with a
  injection a with a
  exact a.symm
theorem hp_obj {p n c : Nat} {fl : List (Nat × Nat)} (h : cx_Ds[p]? = some (n + 2, c, fl)) (e : ev_hp I J R T = ev_hp I' J' R' T') : cx_fl I' J' R' p 0 fl = cx_fl I J R p 0 fl := by
  have a := cx_getC (I := I) (J := J) (R := R) (T := T) h
  rw [e, cx_getC h] at a
  injection a with a
  injection a with a
  injection a with _ a
theorem hp_fld {p n c k q : Nat} {fl : List (Nat × Nat)} (h : cx_Ds[p]? = some (n + 2, c, fl)) (hk : fl[k]? = some (0, q)) (e : ev_hp I J R T = ev_hp I' J' R' T') : I p k = I' p k := by
  have a := hp_obj h e
  have b := cx_fl_get (I := I) (J := J) (R := R) (a := p) fl 0 k hk
  rw [← a, cx_fl_get fl 0 k hk] at b
  simp only [Nat.zero_add, cx_fv] at b
  injection b with b
  injection b with b
  exact b.symm
theorem hp_fldJ {p n c k q : Nat} {fl : List (Nat × Nat)} (h : cx_Ds[p]? = some (n + 2, c, fl)) (hk : fl[k]? = some (1, q)) (e : ev_hp I J R T = ev_hp I' J' R' T') : J p k = J' p k := by
  have a := hp_obj h e
  have b := cx_fl_get (I := I) (J := J) (R := R) (a := p) fl 0 k hk
  rw [← a, cx_fl_get fl 0 k hk] at b
  simp only [Nat.zero_add, cx_fv] at b
  injection b with b
  injection b with b
  exact b.symm
theorem kx_hp (e : ev_hp I J R T = ev_hp I' J' R' T') : kx I = kx I' := by
  have f1 : ∀ k, (k = 1 ∨ k = 2 ∨ k = 3 ∨ k = 4 ∨ k = 5 ∨ k = 6) → I 1 k = I' 1 k := by
    intro k hk
    rcases hk with rfl | rfl | rfl | rfl | rfl | rfl <;> exact hp_fld (n := 0) (show cx_Ds[1]? = some (0 + 2, _, _) from rfl) rfl e
  have f3 : I 3 3 = I' 3 3 := hp_fld (n := 0) (show cx_Ds[3]? = some (0 + 2, _, _) from rfl) rfl e
  have f8 : I 8 1 = I' 8 1 := hp_fld (n := 0) (show cx_Ds[8]? = some (0 + 2, _, _) from rfl) rfl e
  have f2 : I 2 = I' 2 := hp_row (show cx_Ds[2]? = some (0, _, _) from rfl) e
  have f33 : I 33 = I' 33 := hp_row (show cx_Ds[33]? = some (0, _, _) from rfl) e
  unfold kx
  rw [f1 3 (by decide), f1 4 (by decide), f1 5 (by decide), f1 6 (by decide), f1 1 (by decide), f1 2 (by decide), f3, f8, f2, f33]
theorem km_hp (e : ev_hp I J R T = ev_hp I' J' R' T') : km I = km I' := by
  have f1 : ∀ k, (k = 0 ∨ k = 1 ∨ k = 2 ∨ k = 3 ∨ k = 6 ∨ k = 7 ∨ k = 8 ∨ k = 9 ∨ k = 10 ∨ k = 16) → I 35 k = I' 35 k := by
    intro k hk
    rcases hk with rfl | rfl | rfl | rfl | rfl | rfl | rfl | rfl | rfl | rfl <;> exact hp_fld (n := 0) (show cx_Ds[35]? = some (0 + 2, _, _) from rfl) rfl e
  have f61 : I 61 = I' 61 := hp_row (show cx_Ds[61]? = some (0, _, _) from rfl) e
  unfold km
  rw [f1 0 (by decide), f1 1 (by decide), f1 2 (by decide), f1 3 (by decide), f1 6 (by decide), f1 7 (by decide), f1 8 (by decide), f1 9 (by decide), f1 10 (by decide), f1 16 (by decide), f61]
def kt_fx (md : List (Nat × Nat)) : Bool := ([(1, 1), (1, 2), (1, 3), (1, 4), (1, 5), (1, 6), (2, 0), (2, 1), (2, 2), (3, 3), (8, 1)].all fun e => !cx_may md e.1 e.2) && (List.range 12).all fun r => !cx_may md 33 r
def kt_fm (md : List (Nat × Nat)) : Bool := ([(35, 0), (35, 1), (35, 2), (35, 3), (35, 6), (35, 7), (35, 8), (35, 9), (35, 10), (35, 16)].all fun e => !cx_may md e.1 e.2) && (List.range 12).all fun r => !cx_may md 61 r
theorem kt_one {md : List (Nat × Nat)} {l : List (Nat × Nat)} (h : (l.all fun e => !cx_may md e.1 e.2) = true) (hf : cx_fr md I J I' J') {a k : Nat} (hm : (a, k) ∈ l) : I' a k = I a k := by
  have h1 := List.all_eq_true.mp h (a, k) hm
  refine (hf a k ?_).1
  simpa using h1
theorem kt_row {md : List (Nat × Nat)} {p : Nat} (h : ((List.range 12).all fun r => !cx_may md p r) = true) (hf : cx_fr md I J I' J') : (fun r => if r < 12 then I' p r else 0) = (fun r => if r < 12 then I p r else 0) := by
  funext r
  split
  · rename_i hr
    have h1 := List.all_eq_true.mp h r (List.mem_range.mpr hr)
    refine (hf p r ?_).1
    simpa using h1
  · rfl
theorem kx_fr {md : List (Nat × Nat)} (h : kt_fx md = true) (hf : cx_fr md I J I' J') : kx I' = kx I := by
  obtain ⟨h1, h2⟩ := Bool.and_eq_true_iff.mp h
  unfold kx
  rw [kt_row h2 hf, kt_one h1 hf (a := 1) (k := 1) (by decide), kt_one h1 hf (a := 1) (k := 2) (by decide), kt_one h1 hf (a := 1) (k := 3) (by decide), kt_one h1 hf (a := 1) (k := 4) (by decide), kt_one h1 hf (a := 1) (k := 5) (by decide), kt_one h1 hf (a := 1) (k := 6) (by decide),
    kt_one h1 hf (a := 2) (k := 0) (by decide), kt_one h1 hf (a := 2) (k := 1) (by decide), kt_one h1 hf (a := 2) (k := 2) (by decide), kt_one h1 hf (a := 3) (k := 3) (by decide), kt_one h1 hf (a := 8) (k := 1) (by decide)]
theorem km_fr {md : List (Nat × Nat)} (h : kt_fm md = true) (hf : cx_fr md I J I' J') : km I' = km I := by
  obtain ⟨h1, h2⟩ := Bool.and_eq_true_iff.mp h
  unfold km
  rw [kt_row h2 hf, kt_one h1 hf (a := 35) (k := 0) (by decide), kt_one h1 hf (a := 35) (k := 1) (by decide), kt_one h1 hf (a := 35) (k := 2) (by decide), kt_one h1 hf (a := 35) (k := 3) (by decide), kt_one h1 hf (a := 35) (k := 6) (by decide), kt_one h1 hf (a := 35) (k := 7) (by decide),
    kt_one h1 hf (a := 35) (k := 8) (by decide), kt_one h1 hf (a := 35) (k := 9) (by decide), kt_one h1 hf (a := 35) (k := 10) (by decide), kt_one h1 hf (a := 35) (k := 16) (by decide)]
end
/-- a call's answer and its key behind it -/
def kp_E (k : (Nat → Nat → Int32) → kt_K) (f : kt_K → Int32 × kt_K) (I : Nat → Nat → Int32) : ev_Q := fun r h _ _ => ∃ (v : Int32) (I' : Nat → Nat → Int32) (J' : Nat → Nat → Int64) (R' : Nat → Nat) (T' : List ez_C), r = some (.int v) ∧ h = ev_hp I' J' R' T' ∧ (v, k I') = f (k I)
def kp_X (f : kt_K → Int32 × kt_K) (I : Nat → Nat → Int32) (T : List ez_C) : ev_Q := fun r h c k => ∃ (v : Int32) (I' : Nat → Nat → Int32) (J' : Nat → Nat → Int64) (R' : Nat → Nat) (T' : List ez_C), r = some (.int v) ∧ h = ev_hp I' J' R' T' ∧ cx_hok cx_B0 I' R' T' ∧ c + T.length = T'.length ∧ k + cx_mem T = cx_mem T' ∧ (v, kx I') = f (kx I) ∧ km I' = km I
def kp_M (f : kt_K → Int32 × kt_K) (I : Nat → Nat → Int32) (T : List ez_C) : ev_Q := fun r h c k => ∃ (v : Int32) (I' : Nat → Nat → Int32) (J' : Nat → Nat → Int64) (R' : Nat → Nat) (T' : List ez_C), r = some (.int v) ∧ h = ev_hp I' J' R' T' ∧ cx_hok cx_B0 I' R' T' ∧ c + T.length = T'.length ∧ k + cx_mem T = cx_mem T' ∧ (v, km I') = f (km I) ∧ kx I' = kx I
/-- the machine comes to one end -/
theorem ev_W.both {X : ez_X} {m pc : Nat} {ls st : List Value} {h : ez_H} {c k : Nat} {Q1 Q2 : ev_Q} (e1 : ev_W X m pc ls st h c k Q1) (e2 : ev_W X m pc ls st h c k Q2) : ev_W X m pc ls st h c k (fun r h' c' k' => Q1 r h' c' k' ∧ Q2 r h' c' k') := by
  obtain ⟨r1, h1, c1, k1, q1, F1, hF1⟩ := e1
  obtain ⟨r2, h2, c2, k2, q2, F2, hF2⟩ := e2
  have a := hF1 F2
  have b := hF2 F1
  rw [Nat.add_comm F2 F1, a] at b
  injection b with b
  injection b with b1 b
  injection b with b2 b
  injection b with b3 b4
  subst b1 b2 b3 b4
  exact ⟨r1, h1, c1, k1, ⟨q1, q2⟩, F1, hF1⟩
section
variable {X : ez_X} {m : Nat} {K : cx_K} {ls : List Value} {σ0 : List Int} {I : Nat → Nat → Int32} {J : Nat → Nat → Int64} {R : Nat → Nat} {T : List ez_C} {f : kt_K → Int32 × kt_K}
theorem kp_x (hv : cx_valid cx_B0 m K) (hf : kt_fm K.2.1 = true) (hX2 : X.1 < 2 ^ 31) (hh : cx_hok cx_B0 I R T) (hok : cx_ok σ0 K.1 ls [] I T) (he : ev_W X m 0 ls [] (ev_hp I J R T) 0 0 (kp_E kx f I)) : ev_W X m 0 ls [] (ev_hp I J R T) 0 0 (kp_X f I T) := by
  refine (he.both (hv X σ0 ls I J R T hX2 hh hok)).mono ?_
  rintro r h' c' k' ⟨⟨v, I1, J1, R1, T1, e1, e2, e3⟩, I', J', R', T', q1, q2, q3, q4, q5, q6, -⟩
  exact ⟨v, I', J', R', T', e1, q1, q2, by omega, by omega, by rw [← kx_hp (e2.symm.trans q1)]; exact e3, km_fr hf q3⟩
theorem kp_m (hv : cx_valid cx_B0 m K) (hf : kt_fx K.2.1 = true) (hX2 : X.1 < 2 ^ 31) (hh : cx_hok cx_B0 I R T) (hok : cx_ok σ0 K.1 ls [] I T) (he : ev_W X m 0 ls [] (ev_hp I J R T) 0 0 (kp_E km f I)) : ev_W X m 0 ls [] (ev_hp I J R T) 0 0 (kp_M f I T) := by
  refine (he.both (hv X σ0 ls I J R T hX2 hh hok)).mono ?_
  rintro r h' c' k' ⟨⟨v, I1, J1, R1, T1, e1, e2, e3⟩, I', J', R', T', q1, q2, q3, q4, q5, q6, -⟩
  exact ⟨v, I', J', R', T', e1, q1, q2, by omega, by omega, by rw [← km_hp (e2.symm.trans q1)]; exact e3, kx_fr hf q3⟩
end
