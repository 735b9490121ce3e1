/-! A checker of methods: it runs them over signs that stand for numbers, on every road. This part: what a state of signs says, and the basic instructions. -/
/-- (0, s) the int of the sign s, (1, s) the long of it, (2, p) the cell p, (3, q) some row (q 0 of ints, 1 of longs), (4, _) a filler, (6, _) the script, else anything -/
abbrev cx_V : Type := Nat × Nat
abbrev cx_Iv : Type := Int × Int
abbrev cx_D3 : Type := Nat × Nat × Int
/-- locals, stack, between what each sign lies, differences (a, b, d): a ≤ b + d, what fields hold, what comparisons of longs gave -/
abbrev cx_S : Type := List cx_V × List cx_V × List cx_Iv × List cx_D3 × List (Nat × Nat × Nat) × List (Nat × Nat × Nat)
def cx_i32 : cx_Iv := (-2147483648, 2147483647)
def cx_i64 : cx_Iv := (-9223372036854775808, 9223372036854775807)
def cx_inn (p q : cx_Iv) : Bool := decide (q.1 ≤ p.1) && decide (p.2 ≤ q.2)
theorem cx_inn_s {p q : cx_Iv} (h : cx_inn p q = true) {v : Int} (h1 : p.1 ≤ v) (h2 : v ≤ p.2) : q.1 ≤ v ∧ v ≤ q.2 := by
  obtain ⟨a, b⟩ := Bool.and_eq_true_iff.mp h
  exact ⟨Int.le_trans (of_decide_eq_true a) h1, Int.le_trans h2 (of_decide_eq_true b)⟩
theorem cx_full32 (x : Int32) : cx_i32.1 ≤ x.toInt ∧ x.toInt ≤ cx_i32.2 := by
  have h1 := Int32.le_toInt x
  have h2 := Int32.toInt_lt x
  constructor <;> simp only [cx_i32] <;> omega
theorem cx_full64 (x : Int64) : cx_i64.1 ≤ x.toInt ∧ x.toInt ≤ cx_i64.2 := by
  have h1 := Int64.le_toInt x
  have h2 := Int64.toInt_lt x
  constructor <;> simp only [cx_i64] <;> omega
def cx_isrow (q n : Nat) (x : ez_C) : Prop := (q = 0 ∧ ∃ f, x = .inl (n, .inl f)) ∨ (q = 1 ∧ ∃ g, x = .inl (n, .inr (.inl g)))
def cx_rowl (T : List ez_C) (q p n : Nat) : Prop := (q < 2 ∧ n = 0 ∧ ∃ t, cx_Ds[p]? = some (q, 0, t)) ∨ (65 ≤ p ∧ ∃ x, T[p - 65]? = some x ∧ cx_isrow q n x)
def cx_row (T : List ez_C) (q p : Nat) : Prop := ∃ n, cx_rowl T q p n
/-- rows once made stay rows of their kind and length -/
def cx_leT (T T' : List ez_C) : Prop := ∀ (j q n : Nat) (x : ez_C), T[j]? = some x → cx_isrow q n x → ∃ x', T'[j]? = some x' ∧ cx_isrow q n x'
theorem cx_leT_r (T : List ez_C) : cx_leT T T := fun _ _ _ x h h2 => ⟨x, h, h2⟩
theorem cx_leT_t {T T' T'' : List ez_C} (h : cx_leT T T') (h' : cx_leT T' T'') : cx_leT T T'' := by
  intro j q n x h1 h2
  obtain ⟨x', h3, h4⟩ := h j q n x h1 h2
  exact h' j q n x' h3 h4
theorem cx_rowl_T {T T' : List ez_C} (h : cx_leT T T') {q p n : Nat} (hr : cx_rowl T q p n) : cx_rowl T' q p n := by
  rcases hr with hr | ⟨h1, x, h2, h3⟩
  · exact Or.inl hr
  · obtain ⟨x', h4, h5⟩ := h _ _ _ _ h2 h3
    exact Or.inr ⟨h1, x', h4, h5⟩
def cx_v (σ : List Int) (T : List ez_C) : cx_V → Value → Prop
  | (0, s), v => ∃ x : Int32, v = .int x ∧ σ[s]? = some x.toInt
  | (1, s), v => ∃ x : Int64, v = .long x ∧ σ[s]? = some x.toInt
  | (2, p), v => v = .ref p
  | (3, q), v => ∃ p, v = .ref p ∧ cx_row T q p
  | (4, _), v => v = ez_fill
  | (6, _), v => v = ez_scr
  | _, _ => True
def cx_L (σ : List Int) (T : List ez_C) : List cx_V → List Value → Prop
  | [], [] => True
  | a :: s, v :: t => cx_v σ T a v ∧ cx_L σ T s t
  | _, _ => False
def cx_ext (σ τ : List Int) : Prop := ∀ (s : Nat) (v : Int), σ[s]? = some v → τ[s]? = some v
theorem cx_ext_r (σ : List Int) : cx_ext σ σ := fun _ _ h => h
theorem cx_ext_t {σ τ υ : List Int} (h : cx_ext σ τ) (h' : cx_ext τ υ) : cx_ext σ υ := fun s v e => h' s v (h s v e)
theorem cx_ext_app (σ τ : List Int) : cx_ext σ (σ ++ τ) := fun s v h => by
  rw [List.getElem?_append_left (List.getElem?_eq_some_iff.mp h).1]
  exact h
section CXS
variable {σ τ : List Int} {T T' : List ez_C}
theorem cx_v_up (hσ : cx_ext σ τ) (hT : cx_leT T T') {a : cx_V} {v : Value} (h : cx_v σ T a v) : cx_v τ T' a v := by
  obtain ⟨k, s⟩ := a
  match k with
  | 0 => obtain ⟨x, h1, h2⟩ := h; exact ⟨x, h1, hσ _ _ h2⟩
  | 1 => obtain ⟨x, h1, h2⟩ := h; exact ⟨x, h1, hσ _ _ h2⟩
  | 2 => exact h
  | 3 => obtain ⟨p, h1, n, h2⟩ := h; exact ⟨p, h1, n, cx_rowl_T hT h2⟩
  | 4 => exact h
  | 5 => trivial
  | 6 => exact h
  | n + 7 => trivial
theorem cx_L_up (hσ : cx_ext σ τ) (hT : cx_leT T T') : ∀ {A : List cx_V} {l : List Value}, cx_L σ T A l → cx_L τ T' A l := by
  intro A
  induction A with
  | nil => intro l h; cases l <;> simp_all [cx_L]
  | cons a s ih =>
    intro l h
    cases l with
    | nil => simp [cx_L] at h
    | cons v t => exact ⟨cx_v_up hσ hT h.1, ih h.2⟩
theorem cx_L_get : ∀ {A : List cx_V} {l : List Value} {k : Nat} {a : cx_V}, cx_L σ T A l → A[k]? = some a → ∃ v, l[k]? = some v ∧ cx_v σ T a v := by
  intro A
  induction A with
  | nil => intro l k a h h2; simp at h2
  | cons b s ih =>
    intro l k a h h2
    cases l with
    | nil => simp [cx_L] at h
    | cons v t =>
      cases k with
      | zero => simp at h2; subst h2; exact ⟨v, by simp, h.1⟩
      | succ k => simp at h2; obtain ⟨w, h3, h4⟩ := ih h.2 h2; exact ⟨w, by simpa using h3, h4⟩
theorem cx_L_len : ∀ {A : List cx_V} {l : List Value}, cx_L σ T A l → A.length = l.length := by
  intro A
  induction A with
  | nil => intro l h; cases l <;> simp_all [cx_L]
  | cons a s ih =>
    intro l h
    cases l with
    | nil => simp [cx_L] at h
    | cons v t => simp [ih h.2]
theorem cx_L_take : ∀ {A : List cx_V} {l : List Value} (n : Nat), cx_L σ T A l → cx_L σ T (A.take n) (l.take n) := by
  intro A
  induction A with
  | nil => intro l n h; cases l <;> simp_all [cx_L]
  | cons a s ih =>
    intro l n h
    cases l with
    | nil => simp [cx_L] at h
    | cons v t =>
      cases n with
      | zero => simp [cx_L]
      | succ n => simp only [List.take_succ_cons]; exact ⟨h.1, ih n h.2⟩
theorem cx_L_drop : ∀ {A : List cx_V} {l : List Value} (n : Nat), cx_L σ T A l → cx_L σ T (A.drop n) (l.drop n) := by
  intro A
  induction A with
  | nil => intro l n h; cases l <;> simp_all [cx_L]
  | cons a s ih =>
    intro l n h
    cases l with
    | nil => simp [cx_L] at h
    | cons v t =>
      cases n with
      | zero => simpa using h
      | succ n => simpa using ih n h.2
theorem cx_L_app : ∀ {A B : List cx_V} {l r : List Value}, cx_L σ T A l → cx_L σ T B r → cx_L σ T (A ++ B) (l ++ r) := by
  intro A
  induction A with
  | nil => intro B l r h h2; cases l <;> simp_all [cx_L]
  | cons a s ih =>
    intro B l r h h2
    cases l with
    | nil => simp [cx_L] at h
    | cons v t => exact ⟨h.1, ih h.2 h2⟩
theorem cx_L_rev : ∀ {A : List cx_V} {l : List Value}, cx_L σ T A l → cx_L σ T A.reverse l.reverse := by
  intro A
  induction A with
  | nil => intro l h; cases l <;> simp_all [cx_L]
  | cons a s ih =>
    intro l h
    cases l with
    | nil => simp [cx_L] at h
    | cons v t =>
      simp only [List.reverse_cons]
      exact cx_L_app (ih h.2) ⟨h.1, trivial⟩
theorem cx_L_inv {a : cx_V} {s : List cx_V} {l : List Value} (h : cx_L σ T (a :: s) l) : ∃ v t, l = v :: t ∧ cx_v σ T a v ∧ cx_L σ T s t := by
  cases l with
  | nil => simp [cx_L] at h
  | cons v t => exact ⟨v, t, rfl, h.1, h.2⟩
end CXS
/-! Locals that are set. -/
def cx_put : List cx_V → Nat → cx_V → List cx_V
  | [], 0, v => [v]
  | [], n + 1, v => (4, 0) :: cx_put [] n v
  | _ :: t, 0, v => v :: t
  | a :: t, n + 1, v => a :: cx_put t n v
def cx_clr (A : List cx_V) : Nat → Option (List cx_V)
  | 0 => some A
  | n + 1 => match A[n]? with
    | some (k, _) => bif Nat.beq k 1 then some (cx_put A n (4, 0)) else bif Nat.ble k 4 then some A else none
    | none => some A
def cx_st1 (A : List cx_V) (i : Nat) (v : cx_V) : Option (List cx_V) := (cx_clr A i).map fun A' => cx_put A' i v
def cx_st2 (A : List cx_V) (i : Nat) (v : cx_V) : Option (List cx_V) := (cx_clr A i).map fun A' => cx_put (cx_put A' i v) (i + 1) (4, 0)
def cx_cut (n : Nat) (A : List cx_V) : List cx_V := bif Nat.ble 200 n then A else A.take n
section CXL
variable {σ : List Int} {T : List ez_C}
theorem cx_put_s {a : cx_V} {v : Value} (hv : cx_v σ T a v) : ∀ (n : Nat) {A : List cx_V} {l : List Value}, cx_L σ T A l → cx_L σ T (cx_put A n a) (ez_put l n v) := by
  intro n
  induction n with
  | zero =>
    intro A l h
    cases A with
    | nil => cases l with
      | nil => exact ⟨hv, trivial⟩
      | cons w t => simp [cx_L] at h
    | cons b s => cases l with
      | nil => simp [cx_L] at h
      | cons w t => exact ⟨hv, h.2⟩
  | succ n ih =>
    intro A l h
    cases A with
    | nil => cases l with
      | nil => exact ⟨rfl, ih (A := []) (l := []) trivial⟩
      | cons w t => simp [cx_L] at h
    | cons b s => cases l with
      | nil => simp [cx_L] at h
      | cons w t => exact ⟨h.1, ih h.2⟩
theorem cx_isL_s {a : cx_V} {v : Value} (h : cx_v σ T a v) (hk : a.1 ≤ 4) : ez_isL v = Nat.beq a.1 1 := by
  obtain ⟨k, s⟩ := a
  match k with
  | 0 => obtain ⟨x, h1, -⟩ := h; subst h1; rfl
  | 1 => obtain ⟨x, h1, -⟩ := h; subst h1; rfl
  | 2 => obtain rfl := h; rfl
  | 3 => obtain ⟨p, h1, -⟩ := h; subst h1; rfl
  | 4 => obtain rfl := h; rfl
  | n + 5 => simp at hk
theorem cx_clr_s {n : Nat} {A A' : List cx_V} {l : List Value} (h : cx_L σ T A l) (hc : cx_clr A n = some A') : cx_L σ T A' (ez_clr l n) := by
  cases n with
  | zero => simp [cx_clr] at hc; subst hc; exact h
  | succ n =>
    simp only [cx_clr] at hc
    simp only [ez_clr]
    split at hc
    · rename_i k q hk
      obtain ⟨v, h1, h2⟩ := cx_L_get h hk
      simp only [h1]
      cases hb : Nat.beq k 1 with
      | true =>
        rw [hb] at hc
        have hk1 : k = 1 := Nat.eq_of_beq_eq_true hb
        rw [cx_isL_s h2 (by simp [hk1]), hb]
        simp only [cond_true, Option.some.injEq] at hc ⊢
        rw [← hc]
        exact cx_put_s (show cx_v σ T (4, 0) ez_fill from rfl) n h
      | false =>
        rw [hb] at hc
        simp only [cond_false] at hc
        cases hb4 : Nat.ble k 4 with
        | true =>
          rw [hb4] at hc
          simp only [cond_true, Option.some.injEq] at hc
          rw [cx_isL_s h2 (Nat.le_of_ble_eq_true hb4), hb]
          rw [← hc]
          exact h
        | false => rw [hb4] at hc; simp at hc
    · rename_i hk
      have h1 : l[n]? = none := by
        rw [List.getElem?_eq_none_iff] at hk ⊢
        rw [← cx_L_len h]
        exact hk
      simp only [h1]
      simp only [Option.some.injEq] at hc
      rw [← hc]
      exact h
theorem cx_st1_s {n : Nat} {A A' : List cx_V} {l : List Value} {a : cx_V} {v : Value} (h : cx_L σ T A l) (hv : cx_v σ T a v) (hc : cx_st1 A n a = some A') : cx_L σ T A' (ez_st1 l n v) := by
  unfold cx_st1 at hc
  obtain ⟨A1, h1, h2⟩ := Option.map_eq_some_iff.mp hc
  rw [← h2]
  exact cx_put_s hv n (cx_clr_s h h1)
theorem cx_st2_s {n : Nat} {A A' : List cx_V} {l : List Value} {a : cx_V} {v : Value} (h : cx_L σ T A l) (hv : cx_v σ T a v) (hc : cx_st2 A n a = some A') : cx_L σ T A' (ez_st2 l n v) := by
  unfold cx_st2 at hc
  obtain ⟨A1, h1, h2⟩ := Option.map_eq_some_iff.mp hc
  rw [← h2]
  exact cx_put_s (show cx_v σ T (4, 0) ez_fill from rfl) (n + 1) (cx_put_s hv n (cx_clr_s h h1))
theorem cx_cut_s {n : Nat} {A : List cx_V} {l : List Value} (h : cx_L σ T A l) : cx_L σ T (cx_cut n A) (ez_cut n l) := by
  unfold cx_cut ez_cut
  cases Nat.ble 200 n with
  | true => exact h
  | false => exact cx_L_take n h
end CXL
/-! What a state of signs says. -/
def cx_iv (σ : List Int) (iv : List cx_Iv) : Prop := σ.length = iv.length ∧ ∀ (s : Nat) (v : Int) (p : cx_Iv), σ[s]? = some v → iv[s]? = some p → p.1 ≤ v ∧ v ≤ p.2
def cx_cs (σ : List Int) (cs : List cx_D3) : Prop := ∀ e ∈ cs, ∃ x y, σ[e.1]? = some x ∧ σ[e.2.1]? = some y ∧ x ≤ y + e.2.2
def cx_fs (σ : List Int) (I : Nat → Nat → Int32) (fs : List (Nat × Nat × Nat)) : Prop := ∀ e ∈ fs, σ[e.2.2]? = some (I e.1 e.2.1).toInt
def cx_cm (σ : List Int) (cm : List (Nat × Nat × Nat)) : Prop := ∀ e ∈ cm, ∃ z x y, σ[e.1]? = some z ∧ σ[e.2.1]? = some x ∧ σ[e.2.2]? = some y ∧ (z < 0 ↔ x < y) ∧ (0 < z ↔ y < x)
def cx_ok (σ : List Int) (S : cx_S) (ls st : List Value) (I : Nat → Nat → Int32) (T : List ez_C) : Prop :=
  cx_L σ T S.1 ls ∧ cx_L σ T S.2.1 st ∧ cx_iv σ S.2.2.1 ∧ cx_cs σ S.2.2.2.1 ∧ cx_fs σ I S.2.2.2.2.1 ∧ cx_cm σ S.2.2.2.2.2
section CXO
variable {σ τ : List Int} {T : List ez_C} {I : Nat → Nat → Int32} {ls st : List cx_V} {iv : List cx_Iv} {cs nc : List cx_D3} {fs cm : List (Nat × Nat × Nat)} {l s : List Value}
theorem cx_cs_up (h : cx_ext σ τ) (hc : cx_cs σ cs) : cx_cs τ cs := fun e he => by
  obtain ⟨x, y, h1, h2, h3⟩ := hc e he
  exact ⟨x, y, h _ _ h1, h _ _ h2, h3⟩
theorem cx_fs_up (h : cx_ext σ τ) (hc : cx_fs σ I fs) : cx_fs τ I fs := fun e he => h _ _ (hc e he)
theorem cx_cm_up (h : cx_ext σ τ) (hc : cx_cm σ cm) : cx_cm τ cm := fun e he => by
  obtain ⟨z, x, y, h0, h1, h2, h3⟩ := hc e he
  exact ⟨z, x, y, h _ _ h0, h _ _ h1, h _ _ h2, h3⟩
theorem cx_cs_app (h : cx_cs σ nc) (h2 : cx_cs σ cs) : cx_cs σ (nc ++ cs) := fun e he => by
  rcases List.mem_append.mp he with h3 | h3
  · exact h e h3
  · exact h2 e h3
theorem cx_iv_push (h : cx_iv σ iv) {v : Int} {p : cx_Iv} (hp : p.1 ≤ v ∧ v ≤ p.2) : cx_iv (σ ++ [v]) (iv ++ [p]) := by
  refine ⟨by simp [h.1], fun s w q h1 h2 => ?_⟩
  by_cases hs : s < σ.length
  · rw [List.getElem?_append_left hs] at h1
    rw [List.getElem?_append_left (by rw [← h.1]; exact hs)] at h2
    exact h.2 s w q h1 h2
  · rw [List.getElem?_append_right (by omega)] at h1
    rw [List.getElem?_append_right (by rw [← h.1]; omega), ← h.1] at h2
    cases hz : s - σ.length with
    | zero =>
      rw [hz] at h1 h2
      simp at h1 h2
      rw [← h1, ← h2]
      exact hp
    | succ n => rw [hz] at h1; simp at h1
theorem cx_top (h : cx_iv σ iv) (v : Int) : (σ ++ [v])[iv.length]? = some v := by
  rw [← h.1]
  simp
theorem cx_iv_get (h : cx_iv σ iv) {x : Nat} {v : Int} (hx : σ[x]? = some v) : ∃ p, iv[x]? = some p ∧ p.1 ≤ v ∧ v ≤ p.2 := by
  have hl := (List.getElem?_eq_some_iff.mp hx).1
  have h2 : x < iv.length := by rw [← h.1]; exact hl
  exact ⟨iv[x], List.getElem?_eq_getElem h2, h.2 x v _ hx (List.getElem?_eq_getElem h2)⟩
/-- a new sign -/
theorem cx_new (h : cx_ok σ (ls, st, iv, cs, fs, cm) l s I T) {v : Int} {p : cx_Iv} (hp : p.1 ≤ v ∧ v ≤ p.2) (hn : cx_cs (σ ++ [v]) nc) :
    cx_ok (σ ++ [v]) (ls, st, iv ++ [p], nc ++ cs, fs, cm) l s I T := by
  obtain ⟨h1, h2, h3, h4, h5, h6⟩ := h
  have he := cx_ext_app σ [v]
  exact ⟨cx_L_up he (cx_leT_r T) h1, cx_L_up he (cx_leT_r T) h2, cx_iv_push h3 hp, cx_cs_app hn (cx_cs_up he h4), cx_fs_up he h5, cx_cm_up he h6⟩
theorem cx_nil : cx_cs σ [] := fun e he => by cases he
end CXO
