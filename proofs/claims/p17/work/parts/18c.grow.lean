/-! Rows that are made longer. -/
section CXG
variable {X : ez_X} {m pc a b cut w d : Nat} {ls st : List Value} {h : ez_H} {c k : Nat} {Q : ev_Q} {I : Nat → Nat → Int32} {J : Nat → Nat → Int64} {R : Nat → Nat} {T : List ez_C} {n : Int32}
theorem cx_app (I : Nat → Nat → Int32) (J : Nat → Nat → Int64) (R : Nat → Nat) (T : List ez_C) (x : ez_C) : ev_hp I J R T ++ [x] = ev_hp I J R (T ++ [x]) := by rw [cx_hp_is, cx_hp_is, List.append_assoc]
theorem cx_len (I : Nat → Nat → Int32) (J : Nat → Nat → Int64) (R : Nat → Nat) (T : List ez_C) : (ev_hp I J R T).length = 65 + T.length := by
  rw [cx_hp_is, List.length_append, cx_mk_len]
  rfl
theorem ev_new0 (h0 : 0 ≤ n.toInt) (h1 : n.toInt ≤ 10000) : (decide (n < 0) || Nat.ble 1000000 n.toNatClampNeg) = false := by
  have e0 : (0 : Int32).toInt = 0 := by decide
  have e1 : ¬ n < 0 := fun z => by
    have := Int32.lt_iff_toInt_lt.mp z
    omega
  have e2 : n.toNatClampNeg = n.toInt.toNat := rfl
  rw [decide_eq_false e1, e2]
  cases hz : Nat.ble 1000000 n.toInt.toNat with
  | false => rfl
  | true =>
    have := Nat.le_of_ble_eq_true hz
    omega
theorem ev_newI (hP : ez_P0 m pc = some (.newarray .int, 2, a, b, cut, w, d)) (h0 : 0 ≤ n.toInt) (h1 : n.toInt ≤ 10000)
    (e : ev_W X m (pc + 2) (ez_cut cut ls) (.ref (65 + T.length) :: st) (ev_hp I J R (T ++ [.inl (n.toInt.toNat, .inl fun _ => 0)])) (c + 1) (k + n.toInt.toNat) Q) : ev_W X m pc ls (.int n :: st) (ev_hp I J R T) c k Q := by
  refine ev_seg (a := 1) (fun F => ?_) e
  rw [ev_up1]
  unfold ez_stp
  rw [hP]
  simp only [ev_new0 h0 h1, cond_false]
  rw [cx_app, cx_len]
  rfl
theorem ev_newJ (hP : ez_P0 m pc = some (.newarray .long, 2, a, b, cut, w, d)) (h0 : 0 ≤ n.toInt) (h1 : n.toInt ≤ 10000)
    (e : ev_W X m (pc + 2) (ez_cut cut ls) (.ref (65 + T.length) :: st) (ev_hp I J R (T ++ [.inl (n.toInt.toNat, .inr (.inl fun _ => 0))])) (c + 1) (k + n.toInt.toNat) Q) : ev_W X m pc ls (.int n :: st) (ev_hp I J R T) c k Q := by
  refine ev_seg (a := 1) (fun F => ?_) e
  rw [ev_up1]
  unfold ez_stp
  rw [hP]
  simp only [ev_new0 h0 h1, cond_false]
  rw [cx_app, cx_len]
  rfl
end CXG
theorem cx_rowl_u {T : List ez_C} {q p n n' : Nat} (h : cx_rowl T q p n) (h' : cx_rowl T q p n') : n = n' := by
  have hl : cx_Ds.length = 65 := rfl
  rcases h with ⟨-, rfl, t, h⟩ | ⟨h0, x, h1, h2⟩ <;> rcases h' with ⟨-, rfl, t', h'⟩ | ⟨h0', x', h1', h2'⟩
  · rfl
  · have := (List.getElem?_eq_some_iff.mp h).1
    omega
  · have := (List.getElem?_eq_some_iff.mp h').1
    omega
  · rw [h1] at h1'
    injection h1' with h1'
    subst h1'
    exact (cx_isrow_u h2 h2').2.symm
theorem cx_mem_app {q n : Nat} {x : ez_C} (hr : cx_isrow q n x) : ∀ (T : List ez_C), cx_mem (T ++ [x]) = cx_mem T + n := by
  intro T
  induction T with
  | nil => rw [List.nil_append, cx_isrow_mem hr]; simp [cx_mem]
  | cons y t ih =>
    rcases y with ⟨m, a⟩ | b
    · simp only [List.cons_append, cx_mem, ih]; omega
    · simp only [List.cons_append, cx_mem, ih]
theorem cx_leT_app (T : List ez_C) (x : ez_C) : cx_leT T (T ++ [x]) := fun j q n y h h2 => ⟨y, by rw [List.getElem?_append_left (List.getElem?_eq_some_iff.mp h).1]; exact h, h2⟩
theorem cx_rowl_new {q n : Nat} {x : ez_C} (hr : cx_isrow q n x) (T : List ez_C) : cx_rowl (T ++ [x]) q (65 + T.length) n := Or.inr ⟨by omega, x, by simp, hr⟩
theorem cx_pot_new {n n' : Nat} (h : n < n') (h2 : 2 * n ≤ n' ∨ n' = 10000) (h3 : n' ≤ 10000) : cx_pot n + n' ≤ cx_pot n' := by
  unfold cx_pot
  split <;> split <;> omega
theorem cx_T_app {q n : Nat} {x : ez_C} (hr : cx_isrow q n x) (hn : 1 ≤ n) {T : List ez_C} (h : ∀ x ∈ T, ∃ q n, cx_isrow q n x ∧ 1 ≤ n) : ∀ y ∈ T ++ [x], ∃ q n, cx_isrow q n y ∧ 1 ≤ n := by
  intro y hy
  rcases List.mem_append.mp hy with h1 | h1
  · exact h y h1
  · rw [List.mem_singleton.mp h1]
    exact ⟨q, n, hr, hn⟩
theorem cx_rows_0 {R : Nat → Nat} {T : List ez_C} {n n' : Nat} {x : ez_C} (h : cx_rows R T) (hr : cx_rowl T 0 (R 0) n) (hx : cx_isrow 0 n' x) (h1 : n < n') (h2 : 2 * n ≤ n' ∨ n' = 10000) (h3 : n' ≤ 10000) : cx_rows (ev_sR R 0 (65 + T.length)) (T ++ [x]) := by
  obtain ⟨h0, n0, n1, n4, a0, a1, a2, a3, a4, b0, b1, b4, hm⟩ := h
  obtain rfl := cx_rowl_u hr a0
  have hT := cx_leT_app T x
  have := cx_pot_new h1 h2 h3
  exact ⟨cx_T_app hx (by omega) h0, n', n1, n4, cx_rowl_new hx T, cx_rowl_T hT a1, cx_rowl_T hT a2, cx_rowl_T hT a3, cx_rowl_T hT a4, h3, b1, b4, by rw [cx_mem_app hx]; omega⟩
theorem cx_rows_4 {R : Nat → Nat} {T : List ez_C} {n n' : Nat} {x : ez_C} (h : cx_rows R T) (hr : cx_rowl T 0 (R 4) n) (hx : cx_isrow 0 n' x) (h1 : n < n') (h2 : 2 * n ≤ n' ∨ n' = 10000) (h3 : n' ≤ 10000) : cx_rows (ev_sR R 4 (65 + T.length)) (T ++ [x]) := by
  obtain ⟨h0, n0, n1, n4, a0, a1, a2, a3, a4, b0, b1, b4, hm⟩ := h
  obtain rfl := cx_rowl_u hr a4
  have hT := cx_leT_app T x
  have := cx_pot_new h1 h2 h3
  exact ⟨cx_T_app hx (by omega) h0, n0, n1, n', cx_rowl_T hT a0, cx_rowl_T hT a1, cx_rowl_T hT a2, cx_rowl_T hT a3, cx_rowl_new hx T, b0, b1, h3, by rw [cx_mem_app hx]; omega⟩
theorem cx_rows_123 {R : Nat → Nat} {T : List ez_C} {n n' : Nat} {x : ez_C} (h : cx_rows R T) (hr : cx_rowl T 1 (R 1) n) (hx : cx_isrow 1 n' x) (h1 : n < n') (h2 : 2 * n ≤ n' ∨ n' = 10000) (h3 : n' ≤ 10000) :
    cx_rows (ev_sR (ev_sR (ev_sR R 1 (65 + T.length)) 2 (65 + (T ++ [x]).length)) 3 (65 + (T ++ [x] ++ [x]).length)) (T ++ [x] ++ [x] ++ [x]) := by
  obtain ⟨h0, n0, n1, n4, a0, a1, a2, a3, a4, b0, b1, b4, hm⟩ := h
  obtain rfl := cx_rowl_u hr a1
  have t1 := cx_leT_app T x
  have t2 := cx_leT_app (T ++ [x]) x
  have t3 := cx_leT_app (T ++ [x] ++ [x]) x
  have tt := cx_leT_t t1 (cx_leT_t t2 t3)
  have := cx_pot_new h1 h2 h3
  have hn : 1 ≤ n' := by omega
  exact ⟨cx_T_app hx hn (cx_T_app hx hn (cx_T_app hx hn h0)), n0, n', n4, cx_rowl_T tt a0, cx_rowl_T t3 (cx_rowl_T t2 (cx_rowl_new hx T)), cx_rowl_T t3 (cx_rowl_new hx _), cx_rowl_new hx _, cx_rowl_T tt a4, b0, h3, b4, by rw [cx_mem_app hx, cx_mem_app hx, cx_mem_app hx]; omega⟩
