/-! Rows made anew: what is read and written within their ends. -/
theorem cx_pot_le (n : Nat) : cx_pot n ≤ 30000 := by
  unfold cx_pot
  split <;> omega
theorem cx_isrow_mem {q n : Nat} {x : ez_C} (h : cx_isrow q n x) (t : List ez_C) : cx_mem (x :: t) = n + cx_mem t := by
  rcases h with ⟨-, f, rfl⟩ | ⟨-, g, rfl⟩ <;> rfl
theorem cx_isrow_u {q n q' n' : Nat} {x : ez_C} (h : cx_isrow q n x) (h' : cx_isrow q' n' x) : q' = q ∧ n' = n := by
  rcases h with ⟨rfl, f, rfl⟩ | ⟨rfl, g, rfl⟩ <;> rcases h' with ⟨rfl, f', e⟩ | ⟨rfl, g', e⟩ <;> cases e <;> exact ⟨rfl, rfl⟩
theorem cx_mem_le {q n : Nat} {x : ez_C} (hr : cx_isrow q n x) : ∀ {T : List ez_C}, x ∈ T → n ≤ cx_mem T := by
  intro T
  induction T with
  | nil => intro h; cases h
  | cons y t ih =>
    intro h
    rcases List.mem_cons.mp h with rfl | h
    · rw [cx_isrow_mem hr]; omega
    · have := ih h
      rcases y with ⟨m, a⟩ | b
      · simp only [cx_mem]; omega
      · simp only [cx_mem]; exact this
theorem cx_mem_top {R : Nat → Nat} {T : List ez_C} (h : cx_rows R T) : cx_mem T ≤ 150000 := by
  obtain ⟨-, n0, n1, n4, -, -, -, -, -, -, -, -, hm⟩ := h
  have := cx_pot_le n0
  have := cx_pot_le n1
  have := cx_pot_le n4
  omega
theorem cx_rows_n {R : Nat → Nat} {T : List ez_C} {q p n : Nat} (h : cx_rows R T) (hr : cx_rowl T q p n) : n < 2 ^ 31 := by
  rcases hr with ⟨-, rfl, -⟩ | ⟨-, x, h1, h2⟩
  · decide
  · have := cx_mem_le h2 (List.mem_of_getElem? h1)
    have := cx_mem_top h
    omega
theorem cx_row_I {I : Nat → Nat → Int32} {J : Nat → Nat → Int64} {R : Nat → Nat} {T : List ez_C} {p n : Nat} (hr : cx_rowl T 0 p n) : ∃ f, (ev_hp I J R T)[p]? = some (.inl (n, .inl f)) := by
  rcases hr with ⟨-, rfl, t, h⟩ | ⟨h0, x, h1, h2⟩
  · exact ⟨_, cx_getI h⟩
  · rcases h2 with ⟨-, f, rfl⟩ | ⟨h, -⟩
    · exact ⟨f, by rw [cx_tlen rfl h0]; exact h1⟩
    · cases h
theorem cx_row_J {I : Nat → Nat → Int32} {J : Nat → Nat → Int64} {R : Nat → Nat} {T : List ez_C} {p n : Nat} (hr : cx_rowl T 1 p n) : ∃ f, (ev_hp I J R T)[p]? = some (.inl (n, .inr (.inl f))) := by
  rcases hr with ⟨-, rfl, t, h⟩ | ⟨h0, x, h1, h2⟩
  · exact ⟨_, cx_getJ h⟩
  · rcases h2 with ⟨h, -⟩ | ⟨-, f, rfl⟩
    · cases h
    · exact ⟨f, by rw [cx_tlen rfl h0]; exact h1⟩
theorem cx_setT {I : Nat → Nat → Int32} {J : Nat → Nat → Int64} {R : Nat → Nat} {T : List ez_C} {p : Nat} (hp : 65 ≤ p) (x : ez_C) : (ev_hp I J R T).set p x = ev_hp I J R (T.set (p - 65) x) := by
  have hl : (cx_mk I J R 0 cx_Ds).length = 65 := by rw [cx_mk_len]; rfl
  rw [cx_hp_is, cx_hp_is, List.set_append_right _ _ (by rw [hl]; exact hp), hl]
theorem cx_leT_set {T : List ez_C} {j q n : Nat} {x x' : ez_C} (hx : T[j]? = some x) (hr : cx_isrow q n x) (hr' : cx_isrow q n x') : cx_leT T (T.set j x') := by
  intro j2 q2 n2 y h1 h2
  by_cases hj : j = j2
  · subst hj
    rw [hx] at h1
    injection h1 with h1
    subst h1
    obtain ⟨rfl, rfl⟩ := cx_isrow_u hr h2
    refine ⟨x', ?_, hr'⟩
    rw [List.getElem?_set_self (List.getElem?_eq_some_iff.mp hx).1]
  · exact ⟨y, by rw [List.getElem?_set_ne hj]; exact h1, h2⟩
theorem cx_mem_set {q n : Nat} {x x' : ez_C} (hr : cx_isrow q n x) (hr' : cx_isrow q n x') : ∀ {T : List ez_C} {j : Nat}, T[j]? = some x → cx_mem (T.set j x') = cx_mem T := by
  intro T
  induction T with
  | nil => intro j h; simp at h
  | cons y t ih =>
    intro j h
    cases j with
    | zero =>
      simp at h
      subst h
      rw [List.set_cons_zero, cx_isrow_mem hr, cx_isrow_mem hr']
    | succ j =>
      simp at h
      rw [List.set_cons_succ]
      rcases y with ⟨m, a⟩ | b
      · simp only [cx_mem, ih h]
      · simp only [cx_mem, ih h]
theorem cx_rows_set {R : Nat → Nat} {T : List ez_C} {j q n : Nat} {x x' : ez_C} (h : cx_rows R T) (hx : T[j]? = some x) (hr : cx_isrow q n x) (hr' : cx_isrow q n x') : cx_rows R (T.set j x') := by
  obtain ⟨h0, n0, n1, n4, a0, a1, a2, a3, a4, hn⟩ := h
  have hT := cx_leT_set hx hr hr'
  refine ⟨fun y hy => ?_, n0, n1, n4, cx_rowl_T hT a0, cx_rowl_T hT a1, cx_rowl_T hT a2, cx_rowl_T hT a3, cx_rowl_T hT a4, ?_⟩
  · rcases List.mem_or_eq_of_mem_set hy with h1 | rfl
    · exact h0 y h1
    · obtain ⟨q2, n2', e1, e2⟩ := h0 x (List.mem_of_getElem? hx)
      obtain ⟨-, rfl⟩ := cx_isrow_u hr e1
      exact ⟨q, _, hr', e2⟩
  · rw [cx_mem_set hr hr' hx]
    exact hn
/-- an end that tells nothing of what was: any int, any long, nothing -/
theorem cx_ok_int {σ : List Int} {iv : List cx_Iv} (h : cx_iv σ iv) (v : Int32) (I : Nat → Nat → Int32) (T : List ez_C) : cx_ok (σ ++ [v.toInt]) ([], [(0, iv.length)], iv ++ [cx_i32], [], [], []) [] [.int v] I T :=
  ⟨trivial, ⟨⟨v, rfl, cx_top h _⟩, trivial⟩, cx_iv_push h (cx_full32 v), cx_nil, fun e he => (by cases he), fun e he => (by cases he)⟩
theorem cx_ok_long {σ : List Int} {iv : List cx_Iv} (h : cx_iv σ iv) (v : Int64) (I : Nat → Nat → Int32) (T : List ez_C) : cx_ok (σ ++ [v.toInt]) ([], [(1, iv.length)], iv ++ [cx_i64], [], [], []) [] [.long v] I T :=
  ⟨trivial, ⟨⟨v, rfl, cx_top h _⟩, trivial⟩, cx_iv_push h (cx_full64 v), cx_nil, fun e he => (by cases he), fun e he => (by cases he)⟩
theorem cx_ok_none {σ : List Int} {iv : List cx_Iv} (h : cx_iv σ iv) (I : Nat → Nat → Int32) (T : List ez_C) : cx_ok σ ([], [], iv, [], [], []) [] [] I T :=
  ⟨trivial, trivial, h, cx_nil, fun e he => (by cases he), fun e he => (by cases he)⟩
theorem cx_same {B : Nat → Nat → cx_Iv} {K : cx_K} {σ0 : List Int} {I : Nat → Nat → Int32} {J : Nat → Nat → Int64} {R : Nat → Nat} {T T' : List ez_C} {r : Option Value} {E : cx_S} {τ : List Int} (hh : cx_hok B I R T') (hT : cx_leT T T') (hl : T'.length = T.length) (hm : cx_mem T' = cx_mem T)
    (hE : E ∈ K.2.2) (he : cx_ext σ0 τ) (ho : cx_ok τ E [] r.toList I T') : cx_post B K σ0 I J T 0 0 r (ev_hp I J R T') 0 0 :=
  ⟨I, J, R, T', rfl, hh, cx_fr_r _ _ _, hT, by omega, by omega, E, hE, τ, he, ho⟩
theorem ev_put0 (f : Nat → Int32) (i x : Int32) : ev_put 0 f i x = f := by
  unfold ev_put
  split
  · rfl
  · split
    · rfl
    · rename_i h1 h2
      exact absurd (Int32.not_lt.mp h1) h2
theorem ev_putJ0 (f : Nat → Int64) (i : Int32) (x : Int64) : ev_putJ 0 f i x = f := by
  unfold ev_putJ
  split
  · rfl
  · split
    · rfl
    · rename_i h1 h2
      exact absurd (Int32.not_lt.mp h1) h2
theorem cv_atI : cx_valid cx_B0 3 ck_atI := by
  intro X σ0 ls I J R T _ hh hok
  obtain ⟨v1, t1, rfl, ⟨p, rfl, n, hr⟩, g2⟩ := cx_L_inv hok.1
  obtain ⟨v2, t2, rfl, ⟨i, rfl, hi⟩, g4⟩ := cx_L_inv g2
  obtain rfl := cx_L_nil g4 rfl
  obtain ⟨f, hf⟩ := cx_row_I (I := I) (J := J) (R := R) hr
  refine (ec_at X _ n p i f hf (cx_rows_n hh.2 hr)).mono ?_
  rintro r h1 c1 k1 ⟨rfl, rfl, rfl, rfl⟩
  exact cx_same hh (cx_leT_r T) rfl rfl List.mem_cons_self (cx_ext_app σ0 _) (cx_ok_int hok.2.2.1 _ I T)
theorem cv_atJ : cx_valid cx_B0 4 ck_atJ := by
  intro X σ0 ls I J R T _ hh hok
  obtain ⟨v1, t1, rfl, ⟨p, rfl, n, hr⟩, g2⟩ := cx_L_inv hok.1
  obtain ⟨v2, t2, rfl, ⟨i, rfl, hi⟩, g4⟩ := cx_L_inv g2
  obtain rfl := cx_L_nil g4 rfl
  obtain ⟨f, hf⟩ := cx_row_J (I := I) (J := J) (R := R) hr
  refine (ec_atJ X _ n p i f hf (cx_rows_n hh.2 hr)).mono ?_
  rintro r h1 c1 k1 ⟨rfl, rfl, rfl, rfl⟩
  exact cx_same hh (cx_leT_r T) rfl rfl List.mem_cons_self (cx_ext_app σ0 _) (cx_ok_long hok.2.2.1 _ I T)
theorem cv_puI : cx_valid cx_B0 38 ck_puI := by
  intro X σ0 ls I J R T _ hh hok
  obtain ⟨v1, t1, rfl, ⟨p, rfl, n, hr⟩, g2⟩ := cx_L_inv hok.1
  obtain ⟨v2, t2, rfl, ⟨i, rfl, hi⟩, g4⟩ := cx_L_inv g2
  obtain ⟨v3, t3, rfl, ⟨x, rfl, hx⟩, g6⟩ := cx_L_inv g4
  obtain rfl := cx_L_nil g6 rfl
  obtain ⟨f, hf⟩ := cx_row_I (I := I) (J := J) (R := R) hr
  refine (ec_put X _ n p i x f hf (cx_rows_n hh.2 hr)).mono ?_
  rintro r h1 c1 k1 ⟨rfl, rfl, rfl, rfl⟩
  rcases hr with ⟨-, rfl, t, hd⟩ | ⟨h0, y, h1, h2⟩
  · rw [ev_put0, ev_set_self hf]
    exact cx_same hh (cx_leT_r T) rfl rfl List.mem_cons_self (cx_ext_r σ0) (cx_ok_none hok.2.2.1 I T)
  · rw [cx_setT h0]
    have h3 : cx_isrow 0 n (.inl (n, .inl (ev_put n f i x))) := Or.inl ⟨rfl, _, rfl⟩
    exact cx_same ⟨hh.1, cx_rows_set hh.2 h1 h2 h3⟩ (cx_leT_set h1 h2 h3) (by simp) (cx_mem_set h2 h3 h1) List.mem_cons_self (cx_ext_r σ0) (cx_ok_none hok.2.2.1 I _)
theorem cv_puJ : cx_valid cx_B0 39 ck_puJ := by
  intro X σ0 ls I J R T _ hh hok
  obtain ⟨v1, t1, rfl, ⟨p, rfl, n, hr⟩, g2⟩ := cx_L_inv hok.1
  obtain ⟨v2, t2, rfl, ⟨i, rfl, hi⟩, g4⟩ := cx_L_inv g2
  obtain ⟨v3, t3, rfl, ⟨x, rfl, hx⟩, g6⟩ := cx_L_inv g4
  obtain ⟨v4, t4, rfl, rfl, g8⟩ := cx_L_inv g6
  obtain rfl := cx_L_nil g8 rfl
  obtain ⟨f, hf⟩ := cx_row_J (I := I) (J := J) (R := R) hr
  refine (ec_putJ X _ n p i x f hf (cx_rows_n hh.2 hr)).mono ?_
  rintro r h1 c1 k1 ⟨rfl, rfl, rfl, rfl⟩
  rcases hr with ⟨-, rfl, t, hd⟩ | ⟨h0, y, h1, h2⟩
  · rw [ev_putJ0, ev_set_self hf]
    exact cx_same hh (cx_leT_r T) rfl rfl List.mem_cons_self (cx_ext_r σ0) (cx_ok_none hok.2.2.1 I T)
  · rw [cx_setT h0]
    have h3 : cx_isrow 1 n (.inl (n, .inr (.inl (ev_putJ n f i x)))) := Or.inr ⟨rfl, _, rfl⟩
    exact cx_same ⟨hh.1, cx_rows_set hh.2 h1 h2 h3⟩ (cx_leT_set h1 h2 h3) (by simp) (cx_mem_set h2 h3 h1) List.mem_cons_self (cx_ext_r σ0) (cx_ok_none hok.2.2.1 I _)
