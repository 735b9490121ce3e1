/-! The world as a list of what stands in its cells, so that one row speaks of every cell. -/
/-- a cell: (0, n) n ints, (1, n) n longs, else an object of the n-th kind and its fields: (0, _) an int, (1, _) a long, (2, p) the cell p, else a row made anew -/
abbrev cx_Dc : Type := Nat × Nat × List (Nat × Nat)
def cx_Ds : List cx_Dc := [(2, 11, [(2, 1), (2, 3), (2, 6), (2, 8), (2, 10), (2, 13), (2, 20), (2, 22), (2, 31), (2, 32)]), (2, 9, [(2, 2), (0, 0), (0, 0), (0, 0), (0, 0), (0, 0), (0, 0), (1, 0), (1, 0), (1, 0)]), (0, 3, []), (2, 2, [(2, 1), (2, 4), (2, 5), (0, 0)]), (1, 864, []), (0, 3, []), (2, 8, [(2, 1), (2, 3), (3, 0), (0, 0), (0, 0)]), (0, 0, []), (2, 6, [(2, 9), (0, 0), (1, 0), (1, 0)]), (1, 30, []), (2, 7, [(2, 1), (2, 3), (2, 6), (2, 8), (2, 11), (2, 12)]), (1, 3, []), (1, 3, []), (2, 4, [(2, 1), (2, 6), (2, 8), (2, 10), (2, 14), (3, 1), (3, 2), (3, 3), (0, 0), (0, 0)]), (2, 10, [(2, 15), (2, 16), (0, 0)]), (0, 36, []), (0, 36, []), (1, 0, []), (1, 0, []), (1, 0, []), (2, 5, [(2, 6), (2, 13), (2, 21), (0, 0), (0, 0), (0, 0), (0, 0)]), (0, 1296, []), (2, 0, [(2, 1), (2, 3), (2, 6), (2, 23), (3, 4), (2, 27), (2, 28), (2, 29), (0, 0), (2, 30), (0, 0), (0, 0)]), (2, 10, [(2, 24), (2, 25), (0, 0)]), (0, 36, []), (0, 36, []), (0, 0, []), (0, 400, []), (0, 400, []), (1, 400, []), (0, 36, []), (2, 3, [(2, 3), (2, 6), (2, 8), (2, 13), (0, 0), (0, 0)]), (2, 1, [(2, 1), (2, 6), (2, 33), (2, 34)]), (0, 12, []), (1, 64, []), (2, 12, [(0, 0), (0, 0), (0, 0), (0, 0), (2, 36), (2, 37), (0, 0), (0, 0), (0, 0), (0, 0), (0, 0), (2, 38), (2, 39), (2, 40), (0, 0), (2, 41), (0, 0), (2, 42), (2, 43), (2, 44), (2, 45), (2, 46), (2, 47), (2, 48), (0, 0), (2, 49), (2, 50), (2, 51), (2, 52), (2, 53), (2, 54), (2, 55), (2, 56), (2, 57), (2, 58), (2, 59), (0, 0), (2, 60), (2, 61), (2, 62), (2, 63), (2, 64)]), (0, 3, []), (0, 3, []), (0, 3, []), (1, 900, []), (1, 900, []), (0, 30003, []), (0, 30, []), (0, 30, []), (0, 30, []), (1, 3, []), (1, 3, []), (1, 3, []), (0, 31, []), (0, 10001, []), (1, 30003, []), (1, 30003, []), (1, 10001, []), (0, 4, []), (0, 1210, []), (0, 1210, []), (1, 1210, []), (0, 401, []), (0, 401, []), (0, 401, []), (0, 40, []), (0, 12, []), (0, 401, []), (0, 401, []), (0, 401, [])]
def cx_fv (I : Nat → Nat → Int32) (J : Nat → Nat → Int64) (R : Nat → Nat) (a k : Nat) : Nat × Nat → Value
  | (0, _) => .int (I a k)
  | (1, _) => .long (J a k)
  | (2, p) => .ref p
  | (_, i) => .ref (R i)
def cx_fl (I : Nat → Nat → Int32) (J : Nat → Nat → Int64) (R : Nat → Nat) (a : Nat) : Nat → List (Nat × Nat) → List Value
  | _, [] => []
  | k, d :: t => cx_fv I J R a k d :: cx_fl I J R a (k + 1) t
def cx_ce (I : Nat → Nat → Int32) (J : Nat → Nat → Int64) (R : Nat → Nat) (a : Nat) : cx_Dc → ez_C
  | (0, n, _) => .inl (n, .inl (I a))
  | (1, n, _) => .inl (n, .inr (.inl (J a)))
  | (_, c, fs) => .inr (c, cx_fl I J R a 0 fs)
def cx_mk (I : Nat → Nat → Int32) (J : Nat → Nat → Int64) (R : Nat → Nat) : Nat → List cx_Dc → ez_H
  | _, [] => []
  | a, d :: t => cx_ce I J R a d :: cx_mk I J R (a + 1) t
section CXW
variable {I I' : Nat → Nat → Int32} {J J' : Nat → Nat → Int64} {R : Nat → Nat} {T : List ez_C}
theorem cx_hp_is (I : Nat → Nat → Int32) (J : Nat → Nat → Int64) (R : Nat → Nat) (T : List ez_C) : ev_hp I J R T = cx_mk I J R 0 cx_Ds ++ T := rfl
theorem cx_fl_get {a : Nat} {d : Nat × Nat} : ∀ (fs : List (Nat × Nat)) (o j : Nat), fs[j]? = some d → (cx_fl I J R a o fs)[j]? = some (cx_fv I J R a (o + j) d) := by
  intro fs
  induction fs with
  | nil => intro o j h; simp at h
  | cons e t ih =>
    intro o j h
    cases j with
    | zero => simp at h; simp [cx_fl, h]
    | succ j =>
      simp at h
      simp only [cx_fl, List.getElem?_cons_succ]
      rw [ih (o + 1) j h, show o + 1 + j = o + (j + 1) by omega]
theorem cx_fl_len {a : Nat} : ∀ (fs : List (Nat × Nat)) (o : Nat), (cx_fl I J R a o fs).length = fs.length := by
  intro fs
  induction fs with
  | nil => intro o; rfl
  | cons e t ih => intro o; simp [cx_fl, ih]
theorem cx_fv_congr {a k : Nat} (hI : I' a k = I a k) (hJ : J' a k = J a k) : ∀ d : Nat × Nat, cx_fv I' J' R a k d = cx_fv I J R a k d := by
  rintro ⟨n, q⟩
  match n with
  | 0 => simp [cx_fv, hI]
  | 1 => simp [cx_fv, hJ]
  | 2 => rfl
  | n + 3 => rfl
theorem cx_fl_congr {a : Nat} : ∀ (fs : List (Nat × Nat)) (o : Nat), (∀ q, o ≤ q → I' a q = I a q) → (∀ q, o ≤ q → J' a q = J a q) → cx_fl I' J' R a o fs = cx_fl I J R a o fs := by
  intro fs
  induction fs with
  | nil => intro o _ _; rfl
  | cons e t ih =>
    intro o hI hJ
    simp only [cx_fl]
    rw [cx_fv_congr (hI o (Nat.le_refl _)) (hJ o (Nat.le_refl _)), ih (o + 1) (fun q h => hI q (by omega)) (fun q h => hJ q (by omega))]
theorem cx_fl_set {a : Nat} {d : Nat × Nat} : ∀ (fs : List (Nat × Nat)) (o j : Nat), fs[j]? = some d → (∀ q, q ≠ o + j → I' a q = I a q) → (∀ q, q ≠ o + j → J' a q = J a q) →
    (cx_fl I J R a o fs).set j (cx_fv I' J' R a (o + j) d) = cx_fl I' J' R a o fs := by
  intro fs
  induction fs with
  | nil => intro o j h; simp at h
  | cons e t ih =>
    intro o j h hI hJ
    cases j with
    | zero =>
      simp at h
      subst h
      simp only [cx_fl, List.set_cons_zero, Nat.add_zero]
      rw [cx_fl_congr (I := I) (I' := I') (J := J) (J' := J') t (o + 1) (fun q hq => hI q (by omega)) (fun q hq => hJ q (by omega))]
    | succ j =>
      simp at h
      simp only [cx_fl, List.set_cons_succ]
      rw [show o + (j + 1) = (o + 1) + j by omega, ih (o + 1) j h (fun q hq => hI q (by omega)) (fun q hq => hJ q (by omega)), cx_fv_congr (hI o (by omega)) (hJ o (by omega))]
theorem cx_ce_congr {a : Nat} (hI : I' a = I a) (hJ : J' a = J a) : ∀ d : cx_Dc, cx_ce I' J' R a d = cx_ce I J R a d := by
  rintro ⟨n, c, fs⟩
  have h := cx_fl_congr (R := R) (a := a) fs 0 (fun q _ => congrFun hI q) (fun q _ => congrFun hJ q)
  match n with
  | 0 => simp [cx_ce, hI]
  | 1 => simp [cx_ce, hJ]
  | n + 2 => simp [cx_ce, h]
theorem cx_mk_get {d : cx_Dc} : ∀ (ds : List cx_Dc) (a j : Nat), ds[j]? = some d → (cx_mk I J R a ds)[j]? = some (cx_ce I J R (a + j) d) := by
  intro ds
  induction ds with
  | nil => intro a j h; simp at h
  | cons e t ih =>
    intro a j h
    cases j with
    | zero => simp at h; simp [cx_mk, h]
    | succ j =>
      simp at h
      simp only [cx_mk, List.getElem?_cons_succ]
      rw [ih (a + 1) j h, show a + 1 + j = a + (j + 1) by omega]
theorem cx_mk_len : ∀ (ds : List cx_Dc) (a : Nat), (cx_mk I J R a ds).length = ds.length := by
  intro ds
  induction ds with
  | nil => intro a; rfl
  | cons e t ih => intro a; simp [cx_mk, ih]
theorem cx_mk_congr : ∀ (ds : List cx_Dc) (a : Nat), (∀ q, a ≤ q → I' q = I q) → (∀ q, a ≤ q → J' q = J q) → cx_mk I' J' R a ds = cx_mk I J R a ds := by
  intro ds
  induction ds with
  | nil => intro a _ _; rfl
  | cons e t ih =>
    intro a hI hJ
    simp only [cx_mk]
    rw [cx_ce_congr (hI a (Nat.le_refl _)) (hJ a (Nat.le_refl _)), ih (a + 1) (fun q h => hI q (by omega)) (fun q h => hJ q (by omega))]
theorem cx_mk_set {d : cx_Dc} : ∀ (ds : List cx_Dc) (a j : Nat), ds[j]? = some d → (∀ q, q ≠ a + j → I' q = I q) → (∀ q, q ≠ a + j → J' q = J q) →
    (cx_mk I J R a ds).set j (cx_ce I' J' R (a + j) d) = cx_mk I' J' R a ds := by
  intro ds
  induction ds with
  | nil => intro a j h; simp at h
  | cons e t ih =>
    intro a j h hI hJ
    cases j with
    | zero =>
      simp at h
      subst h
      simp only [cx_mk, List.set_cons_zero, Nat.add_zero]
      rw [cx_mk_congr (I := I) (I' := I') (J := J) (J' := J') t (a + 1) (fun q hq => hI q (by omega)) (fun q hq => hJ q (by omega))]
    | succ j =>
      simp at h
      simp only [cx_mk, List.set_cons_succ]
      rw [show a + (j + 1) = (a + 1) + j by omega, ih (a + 1) j h (fun q hq => hI q (by omega)) (fun q hq => hJ q (by omega)), cx_ce_congr (hI a (by omega)) (hJ a (by omega))]
theorem cx_dlen {p : Nat} {d : cx_Dc} (h : cx_Ds[p]? = some d) : p < (cx_mk I J R 0 cx_Ds).length := by
  rw [cx_mk_len]
  exact (List.getElem?_eq_some_iff.mp h).1
theorem cx_get {p : Nat} {d : cx_Dc} (h : cx_Ds[p]? = some d) : (ev_hp I J R T)[p]? = some (cx_ce I J R p d) := by
  rw [cx_hp_is, List.getElem?_append_left (cx_dlen h), cx_mk_get _ _ _ h, Nat.zero_add]
theorem cx_set {p : Nat} {d : cx_Dc} (h : cx_Ds[p]? = some d) (hI : ∀ q, q ≠ p → I' q = I q) (hJ : ∀ q, q ≠ p → J' q = J q) :
    (ev_hp I J R T).set p (cx_ce I' J' R p d) = ev_hp I' J' R T := by
  rw [cx_hp_is, cx_hp_is, List.set_append_left _ _ (cx_dlen h)]
  have e := cx_mk_set (I := I) (I' := I') (J := J) (J' := J') (R := R) cx_Ds 0 p h (by simpa using hI) (by simpa using hJ)
  rw [Nat.zero_add] at e
  rw [e]
theorem cx_tlen (h : 65 = cx_Ds.length) {p : Nat} (hp : 65 ≤ p) : (ev_hp I J R T)[p]? = T[p - 65]? := by
  rw [cx_hp_is, List.getElem?_append_right (by rw [cx_mk_len, ← h]; exact hp), cx_mk_len, ← h]
theorem cx_beqf {q a : Nat} (h : q ≠ a) : Nat.beq q a = false := by
  cases hz : Nat.beq q a with
  | false => rfl
  | true => exact absurd (Nat.eq_of_beq_eq_true hz) h
theorem cx_sI_s (I : Nat → Nat → Int32) (a : Nat) (f : Nat → Int32) : ev_sI I a f a = f := by simp [ev_sI]
theorem cx_sI_n (I : Nat → Nat → Int32) {a q : Nat} (f : Nat → Int32) (h : q ≠ a) : ev_sI I a f q = I q := by simp only [ev_sI, cx_beqf h, cond_false]
theorem cx_sJ_s (J : Nat → Nat → Int64) (a : Nat) (f : Nat → Int64) : ev_sJ J a f a = f := by simp [ev_sJ]
theorem cx_sJ_n (J : Nat → Nat → Int64) {a q : Nat} (f : Nat → Int64) (h : q ≠ a) : ev_sJ J a f q = J q := by simp only [ev_sJ, cx_beqf h, cond_false]
/-- what a store into an int array, a long array, a field comes to -/
theorem cx_setI {p n : Nat} {t : List (Nat × Nat)} (h : cx_Ds[p]? = some (0, n, t)) (f : Nat → Int32) : (ev_hp I J R T).set p (.inl (n, .inl f)) = ev_hp (ev_sI I p f) J R T := by
  rw [← cx_set (I := I) (I' := ev_sI I p f) (J := J) (J' := J) h (fun q hq => cx_sI_n I f hq) (fun _ _ => rfl)]
  simp only [cx_ce, cx_sI_s]
theorem cx_setJ {p n : Nat} {t : List (Nat × Nat)} (h : cx_Ds[p]? = some (1, n, t)) (f : Nat → Int64) : (ev_hp I J R T).set p (.inl (n, .inr (.inl f))) = ev_hp I (ev_sJ J p f) R T := by
  rw [← cx_set (I := I) (I' := I) (J := J) (J' := ev_sJ J p f) h (fun _ _ => rfl) (fun q hq => cx_sJ_n J f hq)]
  simp only [cx_ce, cx_sJ_s]
theorem cx_setF {p n c k q : Nat} {fs : List (Nat × Nat)} (h : cx_Ds[p]? = some (n + 2, c, fs)) (hk : fs[k]? = some (0, q)) (x : Int32) :
    (ev_hp I J R T).set p (.inr (c, (cx_fl I J R p 0 fs).set k (.int x))) = ev_hp (ev_sI I p (upd (I p) k x)) J R T := by
  rw [← cx_set (I := I) (I' := ev_sI I p (upd (I p) k x)) (J := J) (J' := J) h (fun q hq => cx_sI_n I _ hq) (fun _ _ => rfl)]
  simp only [cx_ce]
  rw [← cx_fl_set (I := I) (I' := ev_sI I p (upd (I p) k x)) (J := J) (J' := J) fs 0 k hk (fun q hq => by rw [cx_sI_s]; simp [upd]; omega) (fun _ _ => rfl)]
  simp [cx_fv, cx_sI_s, upd]
theorem cx_setG {p n c k q : Nat} {fs : List (Nat × Nat)} (h : cx_Ds[p]? = some (n + 2, c, fs)) (hk : fs[k]? = some (1, q)) (x : Int64) :
    (ev_hp I J R T).set p (.inr (c, (cx_fl I J R p 0 fs).set k (.long x))) = ev_hp I (ev_sJ J p (vp_updL (J p) k x)) R T := by
  rw [← cx_set (I := I) (I' := I) (J := J) (J' := ev_sJ J p (vp_updL (J p) k x)) h (fun _ _ => rfl) (fun q hq => cx_sJ_n J _ hq)]
  simp only [cx_ce]
  rw [← cx_fl_set (I := I) (I' := I) (J := J) (J' := ev_sJ J p (vp_updL (J p) k x)) fs 0 k hk (fun _ _ => rfl) (fun q hq => by rw [cx_sJ_s]; simp [vp_updL]; omega)]
  simp [cx_fv, cx_sJ_s, vp_updL]
end CXW
