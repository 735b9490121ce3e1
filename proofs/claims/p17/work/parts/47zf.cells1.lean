/-! One cell of two worlds; what the class's side keeps for the layings. -/
section
variable {I I' : Nat → Nat → Int32} {J J' : Nat → Nat → Int64} {R R' : Nat → Nat} {T T' : List ez_C}
theorem h1_row {p n : Nat} {t : List (Nat × Nat)} (h : cx_Ds[p]? = some (0, n, t)) (e : (ev_hp I J R T)[p]? = (ev_hp I' J' R' T')[p]?) : I p = I' p := by
  rw [cx_getI h, cx_getI h] at e
  injection e with e
  injection e with e
  injection e with _ e
  injection e with e
theorem h1_rowJ {p n : Nat} {t : List (Nat × Nat)} (h : cx_Ds[p]? = some (1, n, t)) (e : (ev_hp I J R T)[p]? = (ev_hp I' J' R' T')[p]?) : J p = J' p := by
  rw [cx_getJ h, cx_getJ h] at e
  injection e with e
  injection e with e
  injection e with _ e
  injection e with e
  injection e with e
theorem h1_obj {p n c : Nat} {fl : List (Nat × Nat)} (h : cx_Ds[p]? = some (n + 2, c, fl)) (e : (ev_hp I J R T)[p]? = (ev_hp I' J' R' T')[p]?) : cx_fl I J R p 0 fl = cx_fl I' J' R' p 0 fl := by
  rw [cx_getC h, cx_getC h] at e
  injection e with e
  injection e with e
  injection e with _ e
theorem h1_fv {p n c k : Nat} {d : Nat × Nat} {fl : List (Nat × Nat)} (h : cx_Ds[p]? = some (n + 2, c, fl)) (hk : fl[k]? = some d) (e : (ev_hp I J R T)[p]? = (ev_hp I' J' R' T')[p]?) : cx_fv I J R p k d = cx_fv I' J' R' p k d := by
  have a := h1_obj h e
  have b := cx_fl_get (I := I) (J := J) (R := R) (a := p) fl 0 k hk
  have b' := cx_fl_get (I := I') (J := J') (R := R') (a := p) fl 0 k hk
  rw [a, b'] at b
  injection b with b
  rw [Nat.zero_add] at b
  exact b.symm
theorem h1_f {p n c k q : Nat} {fl : List (Nat × Nat)} (h : cx_Ds[p]? = some (n + 2, c, fl)) (hk : fl[k]? = some (0, q)) (e : (ev_hp I J R T)[p]? = (ev_hp I' J' R' T')[p]?) : I p k = I' p k := by
  have b := h1_fv h hk e
  injection b
theorem h1_fJ {p n c k q : Nat} {fl : List (Nat × Nat)} (h : cx_Ds[p]? = some (n + 2, c, fl)) (hk : fl[k]? = some (1, q)) (e : (ev_hp I J R T)[p]? = (ev_hp I' J' R' T')[p]?) : J p k = J' p k := by
  have b := h1_fv h hk e
  injection b
theorem h1_fR {p n c k i : Nat} {fl : List (Nat × Nat)} (h : cx_Ds[p]? = some (n + 2, c, fl)) (hk : fl[k]? = some (3, i)) (e : (ev_hp I J R T)[p]? = (ev_hp I' J' R' T')[p]?) : R i = R' i := by
  have b := h1_fv h hk e
  injection b
end
def sn (I : Nat → Nat → Int32) (s : Nat) : Nat := (sz_F I (Int32.ofNat s)).toInt.toNat
def se (I : Nat → Nat → Int32) (J : Nat → Nat → Int64) (s a : Nat) : Int64 := cl_F I J (Int32.ofNat s) (Int32.ofNat a)
def sb (I : Nat → Nat → Int32) (J : Nat → Nat → Int64) (s a : Nat) : Int64 := arI I J (se I J s a)
/-- the layings, by the class's rows -/
def ls (I : Nat → Nat → Int32) (J : Nat → Nat → Int64) : List ly_t := se_L (sn I 0) (sn I 1) (sn I 2) (se I J 1) (se I J 2) (sb I J 0) (sb I J 1)
/-- what the class's side keeps -/
def cp (I : Nat → Nat → Int32) (J : Nat → Nat → Int64) (R : Nat → Nat) (T : List ez_C) : Prop := mk I J ∧ (I 6 4 = 1 → rgd I R T (ls I J)) ∧ (R 0 = 7 ∨ 65 ≤ R 0) ∧ (R 4 = 26 ∨ 65 ≤ R 4) ∧ R 0 ≠ R 4
/-- the cells that it rests on -/
def cp_S (x : Nat) (p : Nat) : Prop := p ≤ 10 ∨ p = x
section
variable {I I' : Nat → Nat → Int32} {J J' : Nat → Nat → Int64} {R R' : Nat → Nat} {T T' : List ez_C}
theorem sn_eq (h3 : I' 3 3 = I 3 3) (h5 : I' 5 = I 5) (s : Nat) : sn I' s = sn I s := by unfold sn sz_F; rw [h3, h5]
theorem se_eq (h3 : I' 3 3 = I 3 3) (h4 : J' 4 = J 4) (s a : Nat) : se I' J' s a = se I J s a := by unfold se cl_F; rw [h3, h4]
theorem ls_eq (h3 : I' 3 3 = I 3 3) (h5 : I' 5 = I 5) (h4 : J' 4 = J 4) (a3 : I' 1 3 = I 1 3) (a5 : I' 1 5 = I 1 5) (a6 : I' 1 6 = I 1 6) (a7 : J' 1 7 = J 1 7) (a8 : J' 1 8 = J 1 8) (a9 : J' 1 9 = J 1 9) (a2 : I' 2 0 = I 2 0) : ls I' J' = ls I J := by
  have hb : ∀ s, sb I' J' s = sb I J s := fun s => funext fun a => by
    unfold sb arI
    rw [se_eq h3 h4, a3, a5, a6, a7, a8, a9, a2]
  unfold ls
  rw [sn_eq h3 h5, sn_eq h3 h5, sn_eq h3 h5, hb, hb, show se I' J' 1 = se I J 1 from funext (se_eq h3 h4 1), show se I' J' 2 = se I J 2 from funext (se_eq h3 h4 2)]
theorem rowT_x {x n : Nat} {f : Nat → Int32} (h : rowT x T n f) : x < 65 + T.length := by
  rcases h with ⟨-, t, h⟩ | ⟨h1, h2⟩
  · have := (List.getElem?_eq_some_iff.mp h).1
    have e : cx_Ds.length = 65 := rfl
    omega
  · have := (List.getElem?_eq_some_iff.mp h2).1
    omega
/-- two worlds with the same cells where it matters -/
theorem cp_same (h : cp I J R T) (hx : R 0 = 7 ∨ ∃ n f, rowT (R 0) T n f) (hs : ∀ p, cp_S (R 0) p → (ev_hp I' J' R' T')[p]? = (ev_hp I J R T)[p]?) (h4 : R' 4 = 26 ∨ 65 ≤ R' 4) (h40 : R 0 ≠ R' 4) : cp I' J' R' T' := by
  obtain ⟨m, k, r0, r4, r04⟩ := h
  have s1 := hs 1 (Or.inl (by decide))
  have s2 := hs 2 (Or.inl (by decide))
  have s3 := hs 3 (Or.inl (by decide))
  have s4 := hs 4 (Or.inl (by decide))
  have s5 := hs 5 (Or.inl (by decide))
  have s6 := hs 6 (Or.inl (by decide))
  have e13 : I' 1 3 = I 1 3 := h1_f (n := 0) (show cx_Ds[1]? = some (0 + 2, _, _) from rfl) rfl s1
  have e14 : I' 1 4 = I 1 4 := h1_f (n := 0) (show cx_Ds[1]? = some (0 + 2, _, _) from rfl) rfl s1
  have e15 : I' 1 5 = I 1 5 := h1_f (n := 0) (show cx_Ds[1]? = some (0 + 2, _, _) from rfl) rfl s1
  have e16 : I' 1 6 = I 1 6 := h1_f (n := 0) (show cx_Ds[1]? = some (0 + 2, _, _) from rfl) rfl s1
  have e17 : J' 1 7 = J 1 7 := h1_fJ (n := 0) (show cx_Ds[1]? = some (0 + 2, _, _) from rfl) rfl s1
  have e18 : J' 1 8 = J 1 8 := h1_fJ (n := 0) (show cx_Ds[1]? = some (0 + 2, _, _) from rfl) rfl s1
  have e19 : J' 1 9 = J 1 9 := h1_fJ (n := 0) (show cx_Ds[1]? = some (0 + 2, _, _) from rfl) rfl s1
  have e2 : I' 2 = I 2 := h1_row (show cx_Ds[2]? = some (0, _, _) from rfl) s2
  have e33 : I' 3 3 = I 3 3 := h1_f (n := 0) (show cx_Ds[3]? = some (0 + 2, _, _) from rfl) rfl s3
  have e4 : J' 4 = J 4 := h1_rowJ (show cx_Ds[4]? = some (1, _, _) from rfl) s4
  have e5 : I' 5 = I 5 := h1_row (show cx_Ds[5]? = some (0, _, _) from rfl) s5
  have e63 : I' 6 3 = I 6 3 := h1_f (n := 0) (show cx_Ds[6]? = some (0 + 2, _, _) from rfl) rfl s6
  have e64 : I' 6 4 = I 6 4 := h1_f (n := 0) (show cx_Ds[6]? = some (0 + 2, _, _) from rfl) rfl s6
  have eR : R' 0 = R 0 := h1_fR (n := 0) (k := 2) (show cx_Ds[6]? = some (0 + 2, _, _) from rfl) rfl s6
  have eL : ls I' J' = ls I J := ls_eq e33 e5 e4 e13 e15 e16 e17 e18 e19 (by rw [e2])
  refine ⟨?_, fun hk => ?_, by rw [eR]; exact r0, h4, by rw [eR]; exact h40⟩
  · unfold mk
    rw [e13, e14, e16, e17, e18, e19]
    exact m
  · rw [e64] at hk
    obtain ⟨k1, n, f, k2, k3, k4, k5⟩ := k hk
    rw [eL]
    refine ⟨by rw [e63]; exact k1, n, f, ?_, k3, k4, k5⟩
    rw [eR]
    rcases k2 with k2 | ⟨k6, k7⟩
    · exact Or.inl k2
    · have sx := hs (R 0) (Or.inr rfl)
      rw [cx_tlen rfl k6, cx_tlen rfl k6, k7] at sx
      exact Or.inr ⟨k6, sx⟩
end
