/-! The world of the machine against the heap. S0: where the world begins; b0: the script's cell; cI, cJ: the classes of int and of long arrays. -/
def ez_mv (S0 b0 : Nat) : Value → Value
  | .ref p => .ref (S0 + p)
  | .retAddr n => bif n == 1 then .ref b0 else .retAddr n
  | v => v
def ez_mc (S0 b0 : Nat) (cI cJ : ClassId) : ez_C → va_E
  | .inl (n, .inl f) => .inl (cI, n, .inl f)
  | .inl (n, .inr x) => .inl (cJ, n, .inr x)
  | .inr (ci, fs) => .inr (ci, fs.map (ez_mv S0 b0))
def ez_ws (S0 b0 : Nat) (cI cJ : ClassId) : Nat → ez_H → va_W
  | _, [] => []
  | n, c :: t => (S0 + n, ez_mc S0 b0 cI cJ c) :: ez_ws S0 b0 cI cJ (n + 1) t
theorem ez_ws_get (S0 b0 : Nat) (cI cJ : ClassId) : ∀ (h : ez_H) (n k : Nat), (ez_ws S0 b0 cI cJ n h)[k]? = (h[k]?).map fun c => (S0 + (n + k), ez_mc S0 b0 cI cJ c) := by
  intro h
  induction h with
  | nil => intro n k; simp [ez_ws]
  | cons c t ih =>
    intro n k
    cases k with
    | zero => simp [ez_ws]
    | succ k =>
      show (ez_ws S0 b0 cI cJ (n + 1) t)[k]? = _
      rw [ih, show n + 1 + k = n + (k + 1) by omega]
      simp
theorem ez_ws_set (S0 b0 : Nat) (cI cJ : ClassId) (c : ez_C) : ∀ (h : ez_H) (n k : Nat), ez_ws S0 b0 cI cJ n (h.set k c) = (ez_ws S0 b0 cI cJ n h).set k (S0 + (n + k), ez_mc S0 b0 cI cJ c) := by
  intro h
  induction h with
  | nil => intro n k; simp [ez_ws]
  | cons a t ih =>
    intro n k
    cases k with
    | zero => simp [ez_ws]
    | succ k =>
      show (S0 + n, ez_mc S0 b0 cI cJ a) :: ez_ws S0 b0 cI cJ (n + 1) (t.set k c) = _
      rw [ih, show n + 1 + k = n + (k + 1) by omega]
      simp [ez_ws]
theorem ez_ws_app (S0 b0 : Nat) (cI cJ : ClassId) (c : ez_C) : ∀ (h : ez_H) (n : Nat), ez_ws S0 b0 cI cJ n (h ++ [c]) = ez_ws S0 b0 cI cJ n h ++ [(S0 + (n + h.length), ez_mc S0 b0 cI cJ c)] := by
  intro h
  induction h with
  | nil => intro n; simp [ez_ws]
  | cons a t ih =>
    intro n
    show (S0 + n, ez_mc S0 b0 cI cJ a) :: ez_ws S0 b0 cI cJ (n + 1) (t ++ [c]) = _
    rw [ih]
    simp [ez_ws, show n + 1 + t.length = n + (t.length + 1) by omega]
def ez_A (S0 : Nat) : Nat → Prop := fun q => S0 ≤ q
theorem ez_ws_D (S0 b0 : Nat) (cI cJ : ClassId) (h : ez_H) : va_D (ez_A S0) (ez_ws S0 b0 cI cJ 0 h) := by
  have key : ∀ (k : Nat) (q : Nat × va_E), (ez_ws S0 b0 cI cJ 0 h)[k]? = some q → q.1 = S0 + k := by
    intro k q hk
    rw [ez_ws_get] at hk
    obtain ⟨c, -, e⟩ := Option.map_eq_some_iff.mp hk
    rw [← e]
    simp
  refine ⟨fun i j p q hi hj e => ?_, fun k q hk => ?_⟩
  · have h1 := key i p hi
    have h2 := key j q hj
    omega
  · have h1 := key k q hk
    show S0 ≤ q.1
    omega
/-- the heap holds the world, and nothing stands behind it -/
def ez_R (D : va_G) (cl : List vw_C) (S0 b0 : Nat) (cI cJ : ClassId) (h : ez_H) (H : Heap) : Prop := H.size = S0 + h.length ∧ va_P D cl (ez_ws S0 b0 cI cJ 0 h) H
theorem ez_ws_at {S0 b0 : Nat} {cI cJ : ClassId} {h : ez_H} {p : Nat} {c : ez_C} (hp : h[p]? = some c) : (ez_ws S0 b0 cI cJ 0 h)[p]? = some (S0 + p, ez_mc S0 b0 cI cJ c) := by
  rw [ez_ws_get, hp]
  simp
theorem ez_mv_cat (S0 b0 : Nat) (v : Value) : (ez_mv S0 b0 v).category = v.category := by
  cases v <;> simp [ez_mv, Value.category]
  rename_i n
  cases n == 1 <;> rfl
theorem ez_cats_sum (S0 b0 : Nat) (st : List Value) : ((st.map (ez_mv S0 b0)).map fun v => v.category).sum = ez_cats st := by
  induction st with
  | nil => rfl
  | cons v t ih => simp only [List.map_cons, List.sum_cons, ez_cats, ih, ez_mv_cat]
/-! locals -/
def ez_lv (S0 b0 : Nat) : Nat → List Value → List (Nat × Value)
  | _, [] => []
  | i, v :: t => bif ez_real v then (i, ez_mv S0 b0 v) :: ez_lv S0 b0 (i + 1) t else ez_lv S0 b0 (i + 1) t
theorem ez_lv_mem (S0 b0 : Nat) : ∀ (ls : List Value) (n : Nat) (q : Nat × Value), q ∈ ez_lv S0 b0 n ls ↔ ∃ (k : Nat) (v : Value), ls[k]? = some v ∧ ez_real v = true ∧ q = (n + k, ez_mv S0 b0 v) := by
  intro ls
  induction ls with
  | nil => intro n q; simp [ez_lv]
  | cons a t ih =>
    intro n q
    have hc : q ∈ ez_lv S0 b0 n (a :: t) ↔ (ez_real a = true ∧ q = (n, ez_mv S0 b0 a)) ∨ q ∈ ez_lv S0 b0 (n + 1) t := by
      show q ∈ (bif ez_real a then (n, ez_mv S0 b0 a) :: ez_lv S0 b0 (n + 1) t else ez_lv S0 b0 (n + 1) t) ↔ _
      cases ha : ez_real a <;> simp
    rw [hc, ih]
    constructor
    · rintro (⟨h1, h2⟩ | ⟨k, v, h1, h2, h3⟩)
      · exact ⟨0, a, rfl, h1, by simpa using h2⟩
      · exact ⟨k + 1, v, by simpa using h1, h2, by rw [h3]; congr 1; omega⟩
    · rintro ⟨k, v, h1, h2, h3⟩
      cases k with
      | zero =>
        have : a = v := by simpa using h1
        subst this
        exact Or.inl ⟨h2, by simpa using h3⟩
      | succ k => exact Or.inr ⟨k, v, by simpa using h1, h2, by rw [h3]; congr 1; omega⟩
theorem ez_has_sub {ls : Array Slot} {nL : Nat} {l l' : List (Nat × Value)} (h : lv_has ls nL l) (hs : ∀ q ∈ l', q ∈ l) : lv_has ls nL l' := ⟨h.1, h.2.1, fun q hq => h.2.2 q (hs q hq)⟩
theorem ez_lv_take {S0 b0 : Nat} {lsA : Array Slot} {nL : Nat} {ls : List Value} (n : Nat) (h : lv_has lsA nL (ez_lv S0 b0 0 ls)) : lv_has lsA nL (ez_lv S0 b0 0 (ez_cut n ls)) := by
  unfold ez_cut
  cases Nat.ble 200 n with
  | true => exact h
  | false =>
    refine ez_has_sub h fun q hq => ?_
    obtain ⟨k, v, h1, h2, h3⟩ := (ez_lv_mem _ _ _ _ _).mp hq
    refine (ez_lv_mem _ _ _ _ _).mpr ⟨k, v, ?_, h2, h3⟩
    have h1' : (ls.take n)[k]? = some v := h1
    rw [List.getElem?_take] at h1'
    split at h1'
    · exact h1'
    · cases h1'
theorem ez_put_get : ∀ (ls : List Value) (i : Nat) (v : Value) (j : Nat) (w : Value), (ez_put ls i v)[j]? = some w → (j = i ∧ w = v) ∨ (j ≠ i ∧ (ls[j]? = some w ∨ w = ez_fill)) := by
  intro ls
  induction ls with
  | nil =>
    intro i
    induction i with
    | zero =>
      intro v j w h
      cases j with
      | zero => exact Or.inl ⟨rfl, (by simpa [ez_put] using h.symm)⟩
      | succ j => simp [ez_put] at h
    | succ i ih =>
      intro v j w h
      cases j with
      | zero => exact Or.inr ⟨by omega, Or.inr (by simpa [ez_put] using h.symm)⟩
      | succ j =>
        rcases ih v j w (by simpa [ez_put] using h) with ⟨h1, h2⟩ | ⟨h1, h2⟩
        · exact Or.inl ⟨by omega, h2⟩
        · refine Or.inr ⟨by omega, ?_⟩
          rcases h2 with h2 | h2
          · simp at h2
          · exact Or.inr h2
  | cons a t ih =>
    intro i v j w h
    cases i with
    | zero =>
      cases j with
      | zero => exact Or.inl ⟨rfl, (by simpa [ez_put] using h.symm)⟩
      | succ j => exact Or.inr ⟨by omega, Or.inl (by simpa [ez_put] using h)⟩
    | succ i =>
      cases j with
      | zero => exact Or.inr ⟨by omega, Or.inl (by simpa [ez_put] using h)⟩
      | succ j =>
        rcases ih i v j w (by simpa [ez_put] using h) with ⟨h1, h2⟩ | ⟨h1, h2⟩
        · exact Or.inl ⟨by omega, h2⟩
        · exact Or.inr ⟨by omega, (by simpa using h2)⟩
theorem ez_real_fill : ez_real ez_fill = false := rfl
theorem ez_clr_get (ls : List Value) (i j : Nat) (w : Value) (hw : ez_real w = true) (h : (ez_clr ls i)[j]? = some w) : ls[j]? = some w ∧ ¬ (j + 1 = i ∧ w.category = 2) := by
  cases i with
  | zero => exact ⟨h, fun q => by omega⟩
  | succ n =>
    cases hn : ls[n]? with
    | none =>
      simp only [ez_clr, hn] at h
      refine ⟨h, fun q => ?_⟩
      have : j = n := by omega
      subst this
      rw [hn] at h
      cases h
    | some v =>
      simp only [ez_clr, hn] at h
      cases hv : ez_isL v with
      | false =>
        simp only [hv, cond_false] at h
        refine ⟨h, fun q => ?_⟩
        have : j = n := by omega
        subst this
        have e : v = w := Option.some.inj (hn.symm.trans h)
        subst e
        have := q.2
        simp [ez_isL, this] at hv
      | true =>
        simp only [hv, cond_true] at h
        rcases ez_put_get ls n ez_fill j w h with ⟨h1, h2⟩ | ⟨h1, h2⟩
        · subst h2
          cases hw
        · rcases h2 with h2 | h2
          · exact ⟨h2, fun q => h1 (by omega)⟩
          · subst h2
            cases hw
theorem ez_st1_in {S0 b0 : Nat} {ls : List Value} {i : Nat} {v : Value} : ∀ q ∈ ez_lv S0 b0 0 (ez_st1 ls i v), q ∈ (i, ez_mv S0 b0 v) :: (ez_lv S0 b0 0 ls).filter (fun q => !(q.1 == i) && !(q.1 + 1 == i && q.2.category == 2)) := by
  intro q hq
  obtain ⟨k, w, h1, h2, rfl⟩ := (ez_lv_mem _ _ _ _ _).mp hq
  rcases ez_put_get _ _ _ _ _ h1 with ⟨rfl, rfl⟩ | ⟨h3, h4⟩
  · simp
  · rcases h4 with h4 | rfl
    · obtain ⟨h5, h6⟩ := ez_clr_get _ _ _ _ h2 h4
      refine List.mem_cons_of_mem _ (List.mem_filter.mpr ⟨(ez_lv_mem _ _ _ _ _).mpr ⟨k, w, h5, h2, rfl⟩, ?_⟩)
      simp only [Nat.zero_add, ez_mv_cat]
      simp only [Bool.and_eq_true, Bool.not_eq_true', beq_eq_false_iff_ne, ne_eq, Bool.and_eq_false_iff]
      refine ⟨h3, ?_⟩
      by_cases hk : k + 1 = i
      · exact Or.inr fun z => h6 ⟨hk, z⟩
      · exact Or.inl hk
    · cases h2
theorem ez_st2_in {S0 b0 : Nat} {ls : List Value} {i : Nat} {v : Value} : ∀ q ∈ ez_lv S0 b0 0 (ez_st2 ls i v), q ∈ (i, ez_mv S0 b0 v) :: (ez_lv S0 b0 0 ls).filter (fun q => !(q.1 == i) && (!(q.1 == i + 1) && !(q.1 + 1 == i && q.2.category == 2))) := by
  intro q hq
  obtain ⟨k, w, h1, h2, rfl⟩ := (ez_lv_mem _ _ _ _ _).mp hq
  rcases ez_put_get _ _ _ _ _ h1 with ⟨rfl, rfl⟩ | ⟨h0, h1⟩
  · cases h2
  rcases h1 with h1 | rfl
  · rcases ez_put_get _ _ _ _ _ h1 with ⟨rfl, rfl⟩ | ⟨h3, h4⟩
    · simp
    · rcases h4 with h4 | rfl
      · obtain ⟨h5, h6⟩ := ez_clr_get _ _ _ _ h2 h4
        refine List.mem_cons_of_mem _ (List.mem_filter.mpr ⟨(ez_lv_mem _ _ _ _ _).mpr ⟨k, w, h5, h2, rfl⟩, ?_⟩)
        simp only [Nat.zero_add, ez_mv_cat]
        simp only [Bool.and_eq_true, Bool.not_eq_true', beq_eq_false_iff_ne, ne_eq, Bool.and_eq_false_iff]
        refine ⟨h3, h0, ?_⟩
        by_cases hk : k + 1 = i
        · exact Or.inr fun z => h6 ⟨hk, z⟩
        · exact Or.inl hk
      · cases h2
  · cases h2
/-- the locals with which a method begins -/
theorem ez_lay_in {S0 b0 : Nat} : ∀ (vs : List Value) (n : Nat), ∀ q ∈ ez_lv S0 b0 n (ez_lay vs), q ∈ lv_args n (vs.map (ez_mv S0 b0)) := by
  intro vs
  induction vs with
  | nil => intro n q hq; simp [ez_lay, ez_lv] at hq
  | cons v t ih =>
    intro n q hq
    show q ∈ (n, ez_mv S0 b0 v) :: lv_args (if (ez_mv S0 b0 v).category = 2 then n + 2 else n + 1) (t.map (ez_mv S0 b0))
    rw [ez_mv_cat]
    unfold ez_lay at hq
    cases hv : ez_isL v with
    | true =>
      have h2 : v.category = 2 := by simpa [ez_isL] using hv
      rw [if_pos h2]
      rw [hv] at hq
      obtain ⟨k, w, h1, h3, rfl⟩ := (ez_lv_mem _ _ _ _ _).mp hq
      match k, h1 with
      | 0, h1 =>
        have : v = w := by simpa using h1
        subst this
        simp
      | 1, h1 =>
        have : ez_fill = w := by simpa using h1
        subst this
        cases h3
      | k + 2, h1 =>
        refine List.mem_cons_of_mem _ (ih (n + 2) _ ((ez_lv_mem _ _ _ _ _).mpr ⟨k, w, by simpa using h1, h3, ?_⟩))
        congr 1
        omega
    | false =>
      have h2 : ¬ v.category = 2 := by
        intro z
        simp [ez_isL, z] at hv
      rw [if_neg h2]
      rw [hv] at hq
      obtain ⟨k, w, h1, h3, rfl⟩ := (ez_lv_mem _ _ _ _ _).mp hq
      match k, h1 with
      | 0, h1 =>
        have : v = w := by simpa using h1
        subst this
        simp
      | k + 1, h1 =>
        refine List.mem_cons_of_mem _ (ih (n + 1) _ ((ez_lv_mem _ _ _ _ _).mpr ⟨k, w, by simpa using h1, h3, ?_⟩))
        congr 1
        omega
