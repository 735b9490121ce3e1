/-! The class finds all layings. -/
section
variable {N : Nat} {X : ez_X} {I : Nat → Nat → Int32} {J : Nat → Nat → Int64} {R : Nat → Nat} {T : List ez_C} {Q : pw_Q} {cz kz : Nat}
set_option maxRecDepth 100000 in
theorem cb_r0  : ∀ G : ez_F, fx_up X 3 G 89 0 [.ref 3] [] (ev_hp I J R T) cz kz = ev_C G 94 [.ref 3, .int (0 : Int32)] (ev_hp I J R T) fun r h1 c1 k1 => G 89 5 [.ref 3] (r.toList ++ []) h1 (cz + c1) (kz + k1) := by
  intro G
  rfl
set_option maxRecDepth 100000 in
theorem cb_r1 {a0 : Int32} : ∀ G : ez_F, fx_up X 3 G 89 5 [.ref 3] [.int a0] (ev_hp I J R T) cz kz = ev_C G 94 [.ref 3, .int (1 : Int32)] (ev_hp I J R T) fun r h1 c1 k1 => G 89 10 [.ref 3] (r.toList ++ [.int a0]) h1 (cz + c1) (kz + k1) := by
  intro G
  rfl
set_option maxRecDepth 100000 in
theorem cb_r2 {a0 : Int32} {a1 : Int32} : ∀ G : ez_F, fx_up X 4 G 89 10 [.ref 3] [.int a0, .int a1] (ev_hp I J R T) cz kz = ev_C G 94 [.ref 3, .int (2 : Int32)] (ev_hp I J R T) fun r h1 c1 k1 => G 89 16 [.ref 3] (r.toList ++ [.int (a1 * a0)]) h1 (cz + c1) (kz + k1) := by
  intro G
  rfl
set_option maxRecDepth 100000 in
theorem cb_r3 {a0 : Int32} {a1 : Int32} : ∀ G : ez_F, fx_up X 2 G 89 16 [.ref 3] [.int a0, .int a1] (ev_hp I J R T) cz kz = some (some (.int (a1 * a0)), (ev_hp I J R T), cz, kz) := by
  intro G
  rfl
theorem cb_0 
    (H : Q (some (.int (((sz_F I (0 : Int32)) * (sz_F I (1 : Int32))) * (sz_F I (2 : Int32))))) (ev_hp I J R T)) : pw (N + 1) X 89 0 [.ref 3] [] (ev_hp I J R T) Q := by
  refine pw_callp (by decide) (fun _ _ => cb_r0) (pe_sizeOf) ?_
  refine pw_p (pw_callp (by decide) (fun _ _ => cb_r1) (pe_sizeOf) ?_)
  refine pw_p (pw_callp (by decide) (fun _ _ => cb_r2) (pe_sizeOf) ?_)
  exact pw_p (pw_ret (by decide) (fun _ _ => cb_r3) H)
end
def cb_F (I : Nat → Nat → Int32) : Int32 := (sz_F I 0 * sz_F I 1) * sz_F I 2
section
variable {N : Nat} {X : ez_X} {I : Nat → Nat → Int32} {J : Nat → Nat → Int64} {R : Nat → Nat} {T : List ez_C}
theorem pe_comb : pe N X 89 [.ref 3] (ev_hp I J R T) (fun r h => r = some (.int (cb_F I)) ∧ h = ev_hp I J R T) := pe_of (pw_p (cb_0 ⟨rfl, rfl⟩))
/-- a row of ints made anew, or none yet -/
def rowT (p : Nat) (T : List ez_C) (n : Nat) (f : Nat → Int32) : Prop := (n = 0 ∧ ∃ t, cx_Ds[p]? = some (0, 0, t)) ∨ (65 ≤ p ∧ T[p - 65]? = some (.inl (n, .inl f)))
/-- all rows but one are as they were -/
def keepT (x : Nat) (T T' : List ez_C) : Prop := T'.length = T.length ∧ ∀ j, j + 65 ≠ x → T'[j]? = T[j]?
theorem keepT_r (x : Nat) (T : List ez_C) : keepT x T T := ⟨rfl, fun _ _ => rfl⟩
theorem keepT_t {x : Nat} {T T' T'' : List ez_C} (h : keepT x T T') (h' : keepT x T' T'') : keepT x T T'' := ⟨h'.1.trans h.1, fun j hj => (h'.2 j hj).trans (h.2 j hj)⟩
theorem rowT_hp {p n : Nat} {f : Nat → Int32} (h : rowT p T n f) : ∃ f', (ev_hp I J R T)[p]? = some (.inl (n, .inl f')) ∧ (n = 0 ∨ f' = f) := by
  rcases h with ⟨rfl, t, h⟩ | ⟨h1, h2⟩
  · exact ⟨I p, cx_getI h, Or.inl rfl⟩
  · exact ⟨f, by rw [cx_tlen rfl h1]; exact h2, Or.inr rfl⟩
theorem rowT_of {p n : Nat} (h : cx_rowl T 0 p n) : ∃ f, rowT p T n f := by
  rcases h with ⟨-, rfl, t, h⟩ | ⟨h0, x, h1, h2⟩
  · exact ⟨fun _ => 0, Or.inl ⟨rfl, t, h⟩⟩
  · rcases h2 with ⟨-, f, rfl⟩ | ⟨h, -⟩
    · exact ⟨f, Or.inr ⟨h0, h1⟩⟩
    · cases h
theorem pe_putR {p n : Nat} {f : Nat → Int32} {i x : Int32} (h : rowT p T n f) (hn : n < 2 ^ 31) : pe N X 38 [.ref p, .int i, .int x] (ev_hp I J R T) (fun r h => r = none ∧ ∃ T', h = ev_hp I J R T' ∧ rowT p T' n (ev_put n f i x) ∧ keepT p T T') := by
  rcases h with ⟨rfl, t, h⟩ | ⟨h1, h2⟩
  · have hg := cx_getI (I := I) (J := J) (R := R) (T := T) h
    refine pe_mono (pe_is (ec_put X _ 0 p i x (I p) hg hn)) ?_
    rintro r h1 ⟨rfl, rfl⟩
    rw [ev_put0, ev_set_self hg]
    exact ⟨rfl, T, rfl, Or.inl ⟨rfl, t, h⟩, keepT_r _ _⟩
  · have hg : (ev_hp I J R T)[p]? = some (.inl (n, .inl f)) := by rw [cx_tlen rfl h1]; exact h2
    refine pe_mono (pe_is (ec_put X _ n p i x f hg hn)) ?_
    rintro r h3 ⟨rfl, rfl⟩
    rw [cx_setT h1]
    refine ⟨rfl, _, rfl, Or.inr ⟨h1, ?_⟩, by simp, fun j hj => ?_⟩
    · rw [List.getElem?_set_self (List.getElem?_eq_some_iff.mp h2).1]
    · rw [List.getElem?_set_ne (by omega)]
theorem pe_atR {p n : Nat} {f : Nat → Int32} {i : Int32} (h : rowT p T n f) (hn : n < 2 ^ 31) : pe N X 3 [.ref p, .int i] (ev_hp I J R T) (fun r h => r = some (.int (ev_at n f i)) ∧ h = ev_hp I J R T) := by
  obtain ⟨f', h1, h2⟩ := rowT_hp (I := I) (J := J) (R := R) h
  refine pe_mono (pe_is (ec_at X _ n p i f' h1 hn)) ?_
  rintro r h3 ⟨rfl, rfl⟩
  refine ⟨?_, rfl⟩
  rcases h2 with rfl | rfl
  · have e0 : ∀ g : Nat → Int32, ev_at 0 g i = 0 := fun g => by
      unfold ev_at
      split
      · rfl
      · split
        · rfl
        · rename_i a b
          exact absurd (Int32.not_lt.mp a) b
    rw [e0, e0]
  · rfl
theorem pw_new {m pc a b cut w d n : Nat} {ls st : List Value} {Q : pw_Q} (hP : ez_P0 m pc = some (.newarray .int, 2, a, b, cut, w, d)) (hn : n < 1000000) (e : pw N X m (pc + 2) (ez_cut cut ls) (.ref (65 + T.length) :: st) (ev_hp I J R (T ++ [.inl (n, .inl fun _ => 0)])) Q) : pw (N + 1) X m pc ls (.int (Int32.ofNat n) :: st) (ev_hp I J R T) Q :=
  pw_up (a := 1) (by decide) fun c k F hF r h1 c1 k1 hz => by
    rw [ev_up1] at hz
    unfold ez_stp at hz
    rw [hP] at hz
    dsimp only at hz
    obtain ⟨-, hz⟩ := ez_bifN hz
    rw [ix_cl (by omega)] at hz
    have el : (ev_hp I J R T).length = 65 + T.length := by
      rw [cx_hp_is, List.length_append, cx_mk_len]
      rfl
    have ea : ev_hp I J R T ++ [.inl (n, .inl fun _ => 0)] = ev_hp I J R (T ++ [.inl (n, .inl fun _ => 0)]) := by
      rw [cx_hp_is, cx_hp_is, List.append_assoc]
    rw [el, ea] at hz
    exact e _ _ F hF r h1 c1 k1 hz
end
/-! The layings, in order: by the spot of the first ship, the second's, the third's. -/
abbrev ly_t : Type := Nat × Nat × Nat
def ly_3 (q : Nat → Nat → Nat → Bool) (a b : Nat) : Nat → List ly_t
  | 0 => []
  | c + 1 => ly_3 q a b c ++ (bif q a b c then [(a, b, c)] else [])
def ly_2 (p : Nat → Nat → Bool) (q : Nat → Nat → Nat → Bool) (n2 a : Nat) : Nat → List ly_t
  | 0 => []
  | b + 1 => ly_2 p q n2 a b ++ (bif p a b then ly_3 q a b n2 else [])
def ly_1 (p : Nat → Nat → Bool) (q : Nat → Nat → Nat → Bool) (n1 n2 : Nat) : Nat → List ly_t
  | 0 => []
  | a + 1 => ly_1 p q n1 n2 a ++ ly_2 p q n2 a n1
theorem ly_3l (q : Nat → Nat → Nat → Bool) (a b : Nat) : ∀ c, (ly_3 q a b c).length ≤ c := by
  intro c
  induction c with
  | zero => exact Nat.le_refl 0
  | succ c ih =>
    unfold ly_3
    rw [List.length_append]
    cases q a b c
    · simp only [cond_false, List.length_nil]; omega
    · simp only [cond_true, List.length_cons, List.length_nil]; omega
theorem ly_2l (p : Nat → Nat → Bool) (q : Nat → Nat → Nat → Bool) (n2 a : Nat) : ∀ b, (ly_2 p q n2 a b).length ≤ b * n2 := by
  intro b
  induction b with
  | zero => exact Nat.zero_le _
  | succ b ih =>
    unfold ly_2
    rw [List.length_append, Nat.succ_mul]
    have := ly_3l q a b n2
    cases p a b
    · simp only [cond_false, List.length_nil]; omega
    · simp only [cond_true]; omega
theorem ly_1l (p : Nat → Nat → Bool) (q : Nat → Nat → Nat → Bool) (n1 n2 : Nat) : ∀ a, (ly_1 p q n1 n2 a).length ≤ a * (n1 * n2) := by
  intro a
  induction a with
  | zero => exact Nat.zero_le _
  | succ a ih =>
    unfold ly_1
    rw [List.length_append, Nat.succ_mul]
    have := ly_2l p q n2 a n1
    omega
def ly_c (t : ly_t) : Int32 := (((Int32.ofNat t.1 <<< ((9 : Int32) &&& (31 : Int32))) ||| Int32.ofNat t.2.1) <<< ((9 : Int32) &&& (31 : Int32))) ||| Int32.ofNat t.2.2
/-- the first numbers of a row are a list's -/
def ly_row (f : Nat → Int32) (L : List ly_t) : Prop := ∀ (k : Nat) (h : k < L.length), f k = ly_c L[k]
theorem ly_row_add {f : Nat → Int32} {L : List ly_t} {t : ly_t} (h : ly_row f L) : ly_row (upd f L.length (ly_c t)) (L ++ [t]) := by
  intro k hk
  rw [List.length_append, List.length_singleton] at hk
  by_cases h2 : k < L.length
  · rw [upd_n _ _ (by omega), List.getElem_append_left h2]
    exact h k h2
  · obtain rfl : k = L.length := by omega
    rw [upd_s]
    simp
section
variable {N : Nat} {X : ez_X} {I : Nat → Nat → Int32} {J : Nat → Nat → Int64} {R : Nat → Nat} {T : List ez_C} {Q : pw_Q} {cz kz : Nat}
set_option maxRecDepth 100000 in
theorem se_r0 {a0 : Int32} {a1 : Int64} : ∀ G : ez_F, fx_up X 4 G 142 0 [.ref 6, .int a0, .long a1, ez_fill] [] (ev_hp I J R T) cz kz = ev_C G 94 [.ref 3, .int (2 : Int32)] (ev_hp I J R T) fun r h1 c1 k1 => G 142 8 [.ref 6, .int a0, .long a1, ez_fill] (r.toList ++ []) h1 (cz + c1) (kz + k1) := by
  intro G
  rfl
set_option maxRecDepth 100000 in
theorem se_r1 {a0 : Int32} {a1 : Int64} {a2 : Int32} : ∀ G : ez_F, fx_up X 3 G 142 8 [.ref 6, .int a0, .long a1, ez_fill] [.int a2] (ev_hp I J R T) cz kz = G 142 13 [.ref 6, .int a0, .long a1, ez_fill, .int a2, .int (0 : Int32)] [] (ev_hp I J R T) cz kz := by
  intro G
  rfl
theorem s3_0 {z : Int32} {bd : Int64}
    (H : pw N X 142 13 [.ref 6, .int z, .long bd, ez_fill, .int (sz_F I (2 : Int32)), .int (0 : Int32)] [] (ev_hp I J R T) Q) : pw (N + 1) X 142 0 [.ref 6, .int z, .long bd, ez_fill] [] (ev_hp I J R T) Q := by
  refine pw_callp (by decide) (fun _ _ => se_r0) (pe_sizeOf) ?_
  refine pw_p (pw_seg (by decide) (fun _ _ => se_r1) ?_)
  exact H
set_option maxRecDepth 100000 in
theorem se_r2 {a0 : Int32} {a1 : Int64} {a2 : Int32} {a3 : Int32} : ∀ G : ez_F, fx_up X 3 G 142 13 [.ref 6, .int a0, .long a1, ez_fill, .int a2, .int a3] [] (ev_hp I J R T) cz kz = bif decide (a2 ≤ a3) then G 142 71 [.ref 6, .int a0, .long a1, ez_fill, .int a2, .int a3] [] (ev_hp I J R T) cz kz else G 142 20 [.ref 6, .int a0, .long a1, ez_fill, .int a2, .int a3] [] (ev_hp I J R T) cz kz := by
  intro G
  rfl
set_option maxRecDepth 100000 in
theorem se_r3 {a0 : Int32} {a1 : Int64} {a2 : Int32} {a3 : Int32} : ∀ G : ez_F, fx_up X 1 G 142 71 [.ref 6, .int a0, .long a1, ez_fill, .int a2, .int a3] [] (ev_hp I J R T) cz kz = some (none, (ev_hp I J R T), cz, kz) := by
  intro G
  rfl
set_option maxRecDepth 100000 in
theorem se_r4 {a0 : Int32} {a1 : Int64} {a2 : Int32} {a3 : Int32} : ∀ G : ez_F, fx_up X 5 G 142 20 [.ref 6, .int a0, .long a1, ez_fill, .int a2, .int a3] [] (ev_hp I J R T) cz kz = ev_C G 86 [.ref 3, .int (2 : Int32), .int a3] (ev_hp I J R T) fun r h1 c1 k1 => G 142 30 [.ref 6, .int a0, .long a1, ez_fill, .int a2, .int a3] (r.toList ++ []) h1 (cz + c1) (kz + k1) := by
  intro G
  rfl
set_option maxRecDepth 100000 in
theorem se_r5 {a0 : Int32} {a1 : Int64} {a2 : Int32} {a3 : Int32} {a4 : Int64} : ∀ G : ez_F, fx_up X 5 G 142 30 [.ref 6, .int a0, .long a1, ez_fill, .int a2, .int a3] [.long a4] (ev_hp I J R T) cz kz = bif decide (¬ (lg_cmp (a4 &&& a1) (0 : Int64)) = (0 : Int32)) then G 142 65 [.ref 6, .int a0, .long a1, ez_fill, .int a2, .int a3] [] (ev_hp I J R T) cz kz else G 142 37 [.ref 6, .int a0, .long a1, ez_fill, .int a2, .int a3] [] (ev_hp I J R T) cz kz := by
  intro G
  rfl
set_option maxRecDepth 100000 in
theorem se_r6 {a0 : Int32} {a1 : Int64} {a2 : Int32} {a3 : Int32} : ∀ G : ez_F, fx_up X 2 G 142 65 [.ref 6, .int a0, .long a1, ez_fill, .int a2, .int a3] [] (ev_hp I J R T) cz kz = G 142 13 [.ref 6, .int a0, .long a1, ez_fill, .int a2, .int (a3 + (1 : Int32))] [] (ev_hp I J R T) cz kz := by
  intro G
  rfl
set_option maxRecDepth 100000 in
theorem se_r7 {a0 : Int32} {a1 : Int64} {a2 : Int32} {a3 : Int32} : ∀ G : ez_F, fx_up X 2 G 142 37 [.ref 6, .int a0, .long a1, ez_fill, .int a2, .int a3] [] (ev_hp I J R T) cz kz = G 142 41 [.ref 6, .int a0, .long a1, ez_fill, .int a2, .int a3] [.ref (R 0)] (ev_hp I J R T) cz kz := by
  intro G
  rfl
set_option maxRecDepth 100000 in
theorem se_r8 {a0 : Int32} {a1 : Int64} {a2 : Int32} {a3 : Int32} {a4 : Nat} : ∀ G : ez_F, fx_up X 2 G 142 41 [.ref 6, .int a0, .long a1, ez_fill, .int a2, .int a3] [.ref a4] (ev_hp I J R T) cz kz = G 142 45 [.ref 6, .int a0, .long a1, ez_fill, .int a2, .int a3] [.int (I 6 3), .ref a4] (ev_hp I J R T) cz kz := by
  intro G
  rfl
set_option maxRecDepth 100000 in
theorem se_r9 {a0 : Int32} {a1 : Int64} {a2 : Int32} {a3 : Int32} {a4 : Int32} {a5 : Nat} : ∀ G : ez_F, fx_up X 6 G 142 45 [.ref 6, .int a0, .long a1, ez_fill, .int a2, .int a3] [.int a4, .ref a5] (ev_hp I J R T) cz kz = ev_C G 38 [.ref a5, .int a4, .int ((a0 <<< ((9 : Int32) &&& (31 : Int32))) ||| a3)] (ev_hp I J R T) fun r h1 c1 k1 => G 142 55 [.ref 6, .int a0, .long a1, ez_fill, .int a2, .int a3] (r.toList ++ []) h1 (cz + c1) (kz + k1) := by
  intro G
  rfl
theorem s3_13 {z n c : Int32} {bd : Int64}
    (H : ((n ≤ c → Q none (ev_hp I J R T)) ∧ (¬ (n ≤ c) → ((¬ (lg_cmp ((cl_F I J (2 : Int32) c) &&& bd) (0 : Int64)) = (0 : Int32) → pw N X 142 13 [.ref 6, .int z, .long bd, ez_fill, .int n, .int (c + (1 : Int32))] [] (ev_hp I J R T) Q) ∧ (¬ (¬ (lg_cmp ((cl_F I J (2 : Int32) c) &&& bd) (0 : Int64)) = (0 : Int32)) → (∃ Q1 : pw_Q, pe N X 38 [.ref (R 0), .int (I 6 3), .int ((z <<< ((9 : Int32) &&& (31 : Int32))) ||| c)] (ev_hp I J R T) Q1 ∧ ∀ (r : Option Value) (h1 : ez_H), Q1 r h1 → pw N X 142 55 [.ref 6, .int z, .long bd, ez_fill, .int n, .int c] (r.toList ++ []) h1 Q)))))) : pw (N + 1) X 142 13 [.ref 6, .int z, .long bd, ez_fill, .int n, .int c] [] (ev_hp I J R T) Q := by
  refine pw_if (by decide) (fun _ _ => se_r2) (fun w1 => ?_) (fun w1 => ?_)
  · have h1 := H.1 w1
    exact pw_p (pw_ret (by decide) (fun _ _ => se_r3) h1)
  · have h1 := H.2 w1
    refine pw_p (pw_callp (by decide) (fun _ _ => se_r4) (pe_cellsAt) ?_)
    refine pw_p (pw_if (by decide) (fun _ _ => se_r5) (fun w2 => ?_) (fun w2 => ?_))
    · have h2 := h1.1 w2
      refine pw_p (pw_seg (by decide) (fun _ _ => se_r6) ?_)
      exact h2
    · have h2 := h1.2 w2
      refine pw_p (pw_seg (by decide) (fun _ _ => se_r7) ?_)
      refine pw_p (pw_seg (by decide) (fun _ _ => se_r8) ?_)
      obtain ⟨Q1, hc, hk⟩ := h2
      exact pw_p (pw_call (by decide) (fun _ _ => se_r9) hc hk)
set_option maxRecDepth 100000 in
theorem se_r10 {a0 : Int32} {a1 : Int64} {a2 : Int32} {a3 : Int32} : ∀ G : ez_F, fx_up X 3 G 142 55 [.ref 6, .int a0, .long a1, ez_fill, .int a2, .int a3] [] (ev_hp I J R T) cz kz = G 142 60 [.ref 6, .int a0, .long a1, ez_fill, .int a2, .int a3] [.int (I 6 3), .ref 6] (ev_hp I J R T) cz kz := by
  intro G
  rfl
set_option maxRecDepth 100000 in
theorem se_r11 {a0 : Int32} {a1 : Int64} {a2 : Int32} {a3 : Int32} {a4 : Int32} : ∀ G : ez_F, fx_up X 3 G 142 60 [.ref 6, .int a0, .long a1, ez_fill, .int a2, .int a3] [.int a4, .ref 6] (ev_hp I J R T) cz kz = G 142 65 [.ref 6, .int a0, .long a1, ez_fill, .int a2, .int a3] [] (ev_hp (ev_sI I 6 (upd (I 6) 3 (a4 + (1 : Int32)))) J R T) cz kz := by
  intro G
  rfl
theorem s3_55 {z n c : Int32} {bd : Int64}
    (H : pw N X 142 13 [.ref 6, .int z, .long bd, ez_fill, .int n, .int (c + (1 : Int32))] [] (ev_hp (ev_sI I 6 (upd (I 6) 3 ((I 6 3) + (1 : Int32)))) J R T) Q) : pw (N + 1) X 142 55 [.ref 6, .int z, .long bd, ez_fill, .int n, .int c] [] (ev_hp I J R T) Q := by
  refine pw_seg (by decide) (fun _ _ => se_r10) ?_
  refine pw_p (pw_seg (by decide) (fun _ _ => se_r11) ?_)
  refine pw_p (pw_seg (by decide) (fun _ _ => se_r6) ?_)
  exact H
set_option maxRecDepth 100000 in
theorem se_r12 {a0 : Int32} {a1 : Int64} : ∀ G : ez_F, fx_up X 4 G 141 0 [.ref 6, .int a0, .long a1, ez_fill] [] (ev_hp I J R T) cz kz = ev_C G 94 [.ref 3, .int (1 : Int32)] (ev_hp I J R T) fun r h1 c1 k1 => G 141 8 [.ref 6, .int a0, .long a1, ez_fill] (r.toList ++ []) h1 (cz + c1) (kz + k1) := by
  intro G
  rfl
set_option maxRecDepth 100000 in
theorem se_r13 {a0 : Int32} {a1 : Int64} {a2 : Int32} : ∀ G : ez_F, fx_up X 3 G 141 8 [.ref 6, .int a0, .long a1, ez_fill] [.int a2] (ev_hp I J R T) cz kz = G 141 13 [.ref 6, .int a0, .long a1, ez_fill, .int a2, .int (0 : Int32)] [] (ev_hp I J R T) cz kz := by
  intro G
  rfl
theorem s2_0 {z : Int32} {bd : Int64}
    (H : pw N X 141 13 [.ref 6, .int z, .long bd, ez_fill, .int (sz_F I (1 : Int32)), .int (0 : Int32)] [] (ev_hp I J R T) Q) : pw (N + 1) X 141 0 [.ref 6, .int z, .long bd, ez_fill] [] (ev_hp I J R T) Q := by
  refine pw_callp (by decide) (fun _ _ => se_r12) (pe_sizeOf) ?_
  refine pw_p (pw_seg (by decide) (fun _ _ => se_r13) ?_)
  exact H
set_option maxRecDepth 100000 in
theorem se_r14 {a0 : Int32} {a1 : Int64} {a2 : Int32} {a3 : Int32} : ∀ G : ez_F, fx_up X 3 G 141 13 [.ref 6, .int a0, .long a1, ez_fill, .int a2, .int a3] [] (ev_hp I J R T) cz kz = bif decide (a2 ≤ a3) then G 141 69 [.ref 6, .int a0, .long a1, ez_fill, .int a2, .int a3] [] (ev_hp I J R T) cz kz else G 141 20 [.ref 6, .int a0, .long a1, ez_fill, .int a2, .int a3] [] (ev_hp I J R T) cz kz := by
  intro G
  rfl
set_option maxRecDepth 100000 in
theorem se_r15 {a0 : Int32} {a1 : Int64} {a2 : Int32} {a3 : Int32} : ∀ G : ez_F, fx_up X 1 G 141 69 [.ref 6, .int a0, .long a1, ez_fill, .int a2, .int a3] [] (ev_hp I J R T) cz kz = some (none, (ev_hp I J R T), cz, kz) := by
  intro G
  rfl
set_option maxRecDepth 100000 in
theorem se_r16 {a0 : Int32} {a1 : Int64} {a2 : Int32} {a3 : Int32} : ∀ G : ez_F, fx_up X 5 G 141 20 [.ref 6, .int a0, .long a1, ez_fill, .int a2, .int a3] [] (ev_hp I J R T) cz kz = ev_C G 86 [.ref 3, .int (1 : Int32), .int a3] (ev_hp I J R T) fun r h1 c1 k1 => G 141 30 [.ref 6, .int a0, .long a1, ez_fill, .int a2, .int a3] (r.toList ++ []) h1 (cz + c1) (kz + k1) := by
  intro G
  rfl
set_option maxRecDepth 100000 in
theorem se_r17 {a0 : Int32} {a1 : Int64} {a2 : Int32} {a3 : Int32} {a4 : Int64} : ∀ G : ez_F, fx_up X 7 G 141 30 [.ref 6, .int a0, .long a1, ez_fill, .int a2, .int a3] [.long a4] (ev_hp I J R T) cz kz = bif decide (¬ (lg_cmp (a4 &&& a1) (0 : Int64)) = (0 : Int32)) then G 141 63 [.ref 6, .int a0, .long a1, ez_fill, .int a2, .int a3, .long a4, ez_fill] [] (ev_hp I J R T) cz kz else G 141 41 [.ref 6, .int a0, .long a1, ez_fill, .int a2, .int a3, .long a4, ez_fill] [] (ev_hp I J R T) cz kz := by
  intro G
  rfl
set_option maxRecDepth 100000 in
theorem se_r18 {a0 : Int32} {a1 : Int64} {a2 : Int32} {a3 : Int32} {a4 : Int64} : ∀ G : ez_F, fx_up X 2 G 141 63 [.ref 6, .int a0, .long a1, ez_fill, .int a2, .int a3, .long a4, ez_fill] [] (ev_hp I J R T) cz kz = G 141 13 [.ref 6, .int a0, .long a1, ez_fill, .int a2, .int (a3 + (1 : Int32)), .long a4, ez_fill] [] (ev_hp I J R T) cz kz := by
  intro G
  rfl
set_option maxRecDepth 100000 in
theorem se_r19 {a0 : Int32} {a1 : Int64} {a2 : Int32} {a3 : Int32} {a4 : Int64} : ∀ G : ez_F, fx_up X 11 G 141 41 [.ref 6, .int a0, .long a1, ez_fill, .int a2, .int a3, .long a4, ez_fill] [] (ev_hp I J R T) cz kz = ev_C G 144 [.ref 1, .long a4] (ev_hp I J R T) fun r h1 c1 k1 => G 141 59 [.ref 6, .int a0, .long a1, ez_fill, .int a2, .int a3, .long a4, ez_fill] (r.toList ++ [.long a1, .int ((a0 <<< ((9 : Int32) &&& (31 : Int32))) ||| a3), .ref 6]) h1 (cz + c1) (kz + k1) := by
  intro G
  rfl
set_option maxRecDepth 100000 in
theorem se_r20 {a0 : Int32} {a1 : Int64} {a2 : Int32} {a3 : Int32} {a4 : Int64} {a5 : Int64} {a6 : Int64} {a7 : Int32} : ∀ G : ez_F, fx_up X 2 G 141 59 [.ref 6, .int a0, .long a1, ez_fill, .int a2, .int a3, .long a4, ez_fill] [.long a5, .long a6, .int a7, .ref 6] (ev_hp I J R T) cz kz = ev_C G 142 [.ref 6, .int a7, .long (a6 ||| a5)] (ev_hp I J R T) fun r h1 c1 k1 => G 141 63 [.ref 6, .int a0, .long a1, ez_fill, .int a2, .int a3, .long a4, ez_fill] (r.toList ++ []) h1 (cz + c1) (kz + k1) := by
  intro G
  rfl
theorem s2_13 {z n c : Int32} {bd : Int64}
    (H : ((n ≤ c → Q none (ev_hp I J R T)) ∧ (¬ (n ≤ c) → ((¬ (lg_cmp ((cl_F I J (1 : Int32) c) &&& bd) (0 : Int64)) = (0 : Int32) → pw N X 141 13 [.ref 6, .int z, .long bd, ez_fill, .int n, .int (c + (1 : Int32))] [] (ev_hp I J R T) Q) ∧ (¬ (¬ (lg_cmp ((cl_F I J (1 : Int32) c) &&& bd) (0 : Int64)) = (0 : Int32)) → (∃ Q1 : pw_Q, pe N X 142 [.ref 6, .int ((z <<< ((9 : Int32) &&& (31 : Int32))) ||| c), .long (bd ||| (ar (I 1 3) (I 1 5) (I 1 6) (J 1 7) (J 1 8) (J 1 9) (I 2 0) (cl_F I J (1 : Int32) c)))] (ev_hp I J R T) Q1 ∧ ∀ (r : Option Value) (h1 : ez_H), Q1 r h1 → pw N X 141 63 [.ref 6, .int z, .long bd, ez_fill, .int n, .int c, .long (cl_F I J (1 : Int32) c), ez_fill] (r.toList ++ []) h1 Q)))))) : pw (N + 1) X 141 13 [.ref 6, .int z, .long bd, ez_fill, .int n, .int c] [] (ev_hp I J R T) Q := by
  refine pw_if (by decide) (fun _ _ => se_r14) (fun w1 => ?_) (fun w1 => ?_)
  · have h1 := H.1 w1
    exact pw_p (pw_ret (by decide) (fun _ _ => se_r15) h1)
  · have h1 := H.2 w1
    refine pw_p (pw_callp (by decide) (fun _ _ => se_r16) (pe_cellsAt) ?_)
    refine pw_p (pw_if (by decide) (fun _ _ => se_r17) (fun w2 => ?_) (fun w2 => ?_))
    · have h2 := h1.1 w2
      refine pw_p (pw_seg (by decide) (fun _ _ => se_r18) ?_)
      refine pw_cutl (by rfl) ?_
      exact h2
    · have h2 := h1.2 w2
      refine pw_p (pw_callp (by decide) (fun _ _ => se_r19) (pe_around) ?_)
      obtain ⟨Q1, hc, hk⟩ := h2
      exact pw_p (pw_call (by decide) (fun _ _ => se_r20) hc hk)
theorem s2_63 {z n c : Int32} {bd u : Int64}
    (H : pw N X 141 13 [.ref 6, .int z, .long bd, ez_fill, .int n, .int (c + (1 : Int32))] [] (ev_hp I J R T) Q) : pw (N + 1) X 141 63 [.ref 6, .int z, .long bd, ez_fill, .int n, .int c, .long u, ez_fill] [] (ev_hp I J R T) Q := by
  refine pw_seg (by decide) (fun _ _ => se_r18) ?_
  refine pw_cutl (by rfl) ?_
  exact H
set_option maxRecDepth 100000 in
theorem se_r21  : ∀ G : ez_F, fx_up X 3 G 140 0 [.ref 6] [] (ev_hp I J R T) cz kz = ev_C G 89 [.ref 3] (ev_hp I J R T) fun r h1 c1 k1 => G 140 7 [.ref 6] (r.toList ++ []) h1 (cz + c1) (kz + k1) := by
  intro G
  rfl
set_option maxRecDepth 100000 in
theorem se_r22 {a0 : Int32} : ∀ G : ez_F, fx_up X 3 G 140 7 [.ref 6] [.int a0] (ev_hp I J R T) cz kz = G 140 12 [.ref 6, .int a0] [.int (I 6 4)] (ev_hp I J R T) cz kz := by
  intro G
  rfl
set_option maxRecDepth 100000 in
theorem se_r23 {a0 : Int32} {a1 : Int32} : ∀ G : ez_F, fx_up X 1 G 140 12 [.ref 6, .int a0] [.int a1] (ev_hp I J R T) cz kz = bif decide (¬ a1 = (0 : Int32)) then G 140 22 [.ref 6, .int a0] [] (ev_hp I J R T) cz kz else G 140 15 [.ref 6, .int a0] [] (ev_hp I J R T) cz kz := by
  intro G
  rfl
set_option maxRecDepth 100000 in
theorem se_r24 {a0 : Int32} : ∀ G : ez_F, fx_up X 1 G 140 22 [.ref 6, .int a0] [] (ev_hp I J R T) cz kz = some (none, (ev_hp I J R T), cz, kz) := by
  intro G
  rfl
set_option maxRecDepth 100000 in
theorem se_r25 {a0 : Int32} : ∀ G : ez_F, fx_up X 3 G 140 15 [.ref 6, .int a0] [] (ev_hp I J R T) cz kz = bif decide (a0 ≤ (10000 : Int32)) then G 140 23 [.ref 6, .int a0] [] (ev_hp I J R T) cz kz else G 140 22 [.ref 6, .int a0] [] (ev_hp I J R T) cz kz := by
  intro G
  rfl
set_option maxRecDepth 100000 in
theorem se_r26 {a0 : Int32} : ∀ G : ez_F, fx_up X 3 G 140 23 [.ref 6, .int a0] [] (ev_hp I J R T) cz kz = G 140 28 [.ref 6, .int a0] [] (ev_hp (ev_sI I 6 (upd (I 6) 4 (1 : Int32))) J R T) cz kz := by
  intro G
  rfl
set_option maxRecDepth 100000 in
theorem se_r27 {a0 : Int32} : ∀ G : ez_F, fx_up X 3 G 140 28 [.ref 6, .int a0] [] (ev_hp I J R T) cz kz = G 140 33 [.ref 6, .int a0] [] (ev_hp (ev_sI I 6 (upd (I 6) 3 (0 : Int32))) J R T) cz kz := by
  intro G
  rfl
set_option maxRecDepth 100000 in
theorem se_r28 {a0 : Int32} : ∀ G : ez_F, fx_up X 3 G 140 33 [.ref 6, .int a0] [] (ev_hp I J R T) cz kz = G 140 38 [.ref 6, .int a0] [.ref (R 0), .int a0] (ev_hp I J R T) cz kz := by
  intro G
  rfl
theorem s1_0 
    (H : ((¬ (I 6 4) = (0 : Int32) → Q none (ev_hp I J R T)) ∧ (¬ (¬ (I 6 4) = (0 : Int32)) → (((cb_F I) ≤ (10000 : Int32) → pw N X 140 38 [.ref 6, .int (cb_F I)] [.ref (R 0), .int (cb_F I)] (ev_hp (ev_sI (ev_sI I 6 (upd (I 6) 4 (1 : Int32))) 6 (upd (upd (I 6) 4 (1 : Int32)) 3 (0 : Int32))) J R T) Q) ∧ (¬ ((cb_F I) ≤ (10000 : Int32)) → Q none (ev_hp I J R T)))))) : pw (N + 1) X 140 0 [.ref 6] [] (ev_hp I J R T) Q := by
  refine pw_callp (by decide) (fun _ _ => se_r21) (pe_comb) ?_
  refine pw_p (pw_seg (by decide) (fun _ _ => se_r22) ?_)
  refine pw_p (pw_if (by decide) (fun _ _ => se_r23) (fun w1 => ?_) (fun w1 => ?_))
  · have h1 := H.1 w1
    exact pw_p (pw_ret (by decide) (fun _ _ => se_r24) h1)
  · have h1 := H.2 w1
    refine pw_p (pw_if (by decide) (fun _ _ => se_r25) (fun w2 => ?_) (fun w2 => ?_))
    · have h2 := h1.1 w2
      refine pw_p (pw_seg (by decide) (fun _ _ => se_r26) ?_)
      refine pw_p (pw_seg (by decide) (fun _ _ => se_r27) ?_)
      refine pw_p (pw_seg (by decide) (fun _ _ => se_r28) ?_)
      exact h2
    · have h2 := h1.2 w2
      exact pw_p (pw_ret (by decide) (fun _ _ => se_r24) h2)
set_option maxRecDepth 100000 in
theorem se_r29 {a0 : Int32} {a1 : Int32} {a2 : Int32} : ∀ G : ez_F, fx_up X 1 G 140 39 [.ref 6, .int a0] [.int a1, .int a2] (ev_hp I J R T) cz kz = bif decide (a2 ≤ a1) then G 140 57 [.ref 6, .int a0] [] (ev_hp I J R T) cz kz else G 140 42 [.ref 6, .int a0] [] (ev_hp I J R T) cz kz := by
  intro G
  rfl
set_option maxRecDepth 100000 in
theorem se_r30 {a0 : Int32} : ∀ G : ez_F, fx_up X 4 G 140 57 [.ref 6, .int a0] [] (ev_hp I J R T) cz kz = ev_C G 94 [.ref 3, .int (0 : Int32)] (ev_hp I J R T) fun r h1 c1 k1 => G 140 65 [.ref 6, .int a0] (r.toList ++ []) h1 (cz + c1) (kz + k1) := by
  intro G
  rfl
set_option maxRecDepth 100000 in
theorem se_r31 {a0 : Int32} {a1 : Int32} : ∀ G : ez_F, fx_up X 3 G 140 65 [.ref 6, .int a0] [.int a1] (ev_hp I J R T) cz kz = G 140 68 [.ref 6, .int a0, .int a1, .int (0 : Int32)] [] (ev_hp I J R T) cz kz := by
  intro G
  rfl
set_option maxRecDepth 100000 in
theorem se_r32 {a0 : Int32} : ∀ G : ez_F, fx_up X 3 G 140 42 [.ref 6, .int a0] [] (ev_hp I J R T) cz kz = G 140 47 [.ref 6, .int a0] [.ref (R 0), .ref 6] (ev_hp I J R T) cz kz := by
  intro G
  rfl
theorem s1_39 {q n : Int32}
    (H : ((q ≤ n → pw N X 140 68 [.ref 6, .int q, .int (sz_F I (0 : Int32)), .int (0 : Int32)] [] (ev_hp I J R T) Q) ∧ (¬ (q ≤ n) → pw N X 140 47 [.ref 6, .int q] [.ref (R 0), .ref 6] (ev_hp I J R T) Q))) : pw (N + 1) X 140 39 [.ref 6, .int q] [.int n, .int q] (ev_hp I J R T) Q := by
  refine pw_if (by decide) (fun _ _ => se_r29) (fun w1 => ?_) (fun w1 => ?_)
  · have h1 := H.1 w1
    refine pw_p (pw_callp (by decide) (fun _ _ => se_r30) (pe_sizeOf) ?_)
    refine pw_p (pw_seg (by decide) (fun _ _ => se_r31) ?_)
    exact h1
  · have h1 := H.2 w1
    refine pw_p (pw_seg (by decide) (fun _ _ => se_r32) ?_)
    exact h1
set_option maxRecDepth 100000 in
theorem se_r33 {a0 : Int32} {a1 : Int32} : ∀ G : ez_F, fx_up X 2 G 140 48 [.ref 6, .int a0] [.int a1, .ref 6] (ev_hp I J R T) cz kz = ev_C G 19 [.int a1, .int a0] (ev_hp I J R T) fun r h1 c1 k1 => G 140 52 [.ref 6, .int a0] (r.toList ++ [.ref 6]) h1 (cz + c1) (kz + k1) := by
  intro G
  rfl
theorem s1_48 {q n : Int32}
    (H : (∃ Q1 : pw_Q, pe N X 19 [.int n, .int q] (ev_hp I J R T) Q1 ∧ ∀ (r : Option Value) (h1 : ez_H), Q1 r h1 → pw N X 140 52 [.ref 6, .int q] (r.toList ++ [.ref 6]) h1 Q)) : pw (N + 1) X 140 48 [.ref 6, .int q] [.int n, .ref 6] (ev_hp I J R T) Q := by
  obtain ⟨Q1, hc, hk⟩ := H
  exact pw_call (by decide) (fun _ _ => se_r33) hc hk
set_option maxRecDepth 100000 in
theorem se_r34 {a0 : Int32} {a1 : Nat} : ∀ G : ez_F, fx_up X 1 G 140 54 [.ref 6, .int a0] [.ref a1, .ref 6] (ev_hp I J R T) cz kz = G 140 57 [.ref 6, .int a0] [] (ev_hp I J (ev_sR R 0 a1) T) cz kz := by
  intro G
  rfl
set_option maxRecDepth 100000 in
theorem se_r35 {a0 : Int32} : ∀ G : ez_F, fx_up X 4 G 140 57 [.ref 6, .int a0] [] (ev_hp I J R T) cz kz = ev_C G 94 [.ref 3, .int (0 : Int32)] (ev_hp I J R T) fun r h1 c1 k1 => G 140 65 [.ref 6, .int a0] (r.toList ++ []) h1 (cz + c1) (kz + k1) := by
  intro G
  rfl
set_option maxRecDepth 100000 in
theorem se_r36 {a0 : Int32} {a1 : Int32} : ∀ G : ez_F, fx_up X 3 G 140 65 [.ref 6, .int a0] [.int a1] (ev_hp I J R T) cz kz = G 140 68 [.ref 6, .int a0, .int a1, .int (0 : Int32)] [] (ev_hp I J R T) cz kz := by
  intro G
  rfl
theorem s1_54 {q : Int32} {p : Nat}
    (H : pw N X 140 68 [.ref 6, .int q, .int (sz_F I (0 : Int32)), .int (0 : Int32)] [] (ev_hp I J (ev_sR R 0 (p)) T) Q) : pw (N + 1) X 140 54 [.ref 6, .int q] [.ref (p), .ref 6] (ev_hp I J R T) Q := by
  refine pw_seg (by decide) (fun _ _ => se_r34) ?_
  refine pw_p (pw_callp (by decide) (fun _ _ => se_r35) (pe_sizeOf) ?_)
  refine pw_p (pw_seg (by decide) (fun _ _ => se_r36) ?_)
  exact H
set_option maxRecDepth 100000 in
theorem se_r37 {a0 : Int32} {a1 : Int32} {a2 : Int32} : ∀ G : ez_F, fx_up X 3 G 140 68 [.ref 6, .int a0, .int a1, .int a2] [] (ev_hp I J R T) cz kz = bif decide (a1 ≤ a2) then G 140 100 [.ref 6, .int a0, .int a1, .int a2] [] (ev_hp I J R T) cz kz else G 140 73 [.ref 6, .int a0, .int a1, .int a2] [] (ev_hp I J R T) cz kz := by
  intro G
  rfl
set_option maxRecDepth 100000 in
theorem se_r38 {a0 : Int32} {a1 : Int32} {a2 : Int32} : ∀ G : ez_F, fx_up X 1 G 140 100 [.ref 6, .int a0, .int a1, .int a2] [] (ev_hp I J R T) cz kz = some (none, (ev_hp I J R T), cz, kz) := by
  intro G
  rfl
set_option maxRecDepth 100000 in
theorem se_r39 {a0 : Int32} {a1 : Int32} {a2 : Int32} : ∀ G : ez_F, fx_up X 9 G 140 73 [.ref 6, .int a0, .int a1, .int a2] [] (ev_hp I J R T) cz kz = ev_C G 86 [.ref 3, .int (0 : Int32), .int a2] (ev_hp I J R T) fun r h1 c1 k1 => G 140 88 [.ref 6, .int a0, .int a1, .int a2] (r.toList ++ [.ref 1, .int a2, .ref 6]) h1 (cz + c1) (kz + k1) := by
  intro G
  rfl
set_option maxRecDepth 100000 in
theorem se_r40 {a0 : Int32} {a1 : Int32} {a2 : Int32} {a3 : Int64} {a4 : Int32} : ∀ G : ez_F, fx_up X 1 G 140 88 [.ref 6, .int a0, .int a1, .int a2] [.long a3, .ref 1, .int a4, .ref 6] (ev_hp I J R T) cz kz = ev_C G 144 [.ref 1, .long a3] (ev_hp I J R T) fun r h1 c1 k1 => G 140 91 [.ref 6, .int a0, .int a1, .int a2] (r.toList ++ [.int a4, .ref 6]) h1 (cz + c1) (kz + k1) := by
  intro G
  rfl
set_option maxRecDepth 100000 in
theorem se_r41 {a0 : Int32} {a1 : Int32} {a2 : Int32} {a3 : Int64} {a4 : Int32} : ∀ G : ez_F, fx_up X 1 G 140 91 [.ref 6, .int a0, .int a1, .int a2] [.long a3, .int a4, .ref 6] (ev_hp I J R T) cz kz = ev_C G 141 [.ref 6, .int a4, .long a3] (ev_hp I J R T) fun r h1 c1 k1 => G 140 94 [.ref 6, .int a0, .int a1, .int a2] (r.toList ++ []) h1 (cz + c1) (kz + k1) := by
  intro G
  rfl
theorem s1_68 {q n a : Int32}
    (H : ((n ≤ a → Q none (ev_hp I J R T)) ∧ (¬ (n ≤ a) → (∃ Q1 : pw_Q, pe N X 141 [.ref 6, .int a, .long (ar (I 1 3) (I 1 5) (I 1 6) (J 1 7) (J 1 8) (J 1 9) (I 2 0) (cl_F I J (0 : Int32) a))] (ev_hp I J R T) Q1 ∧ ∀ (r : Option Value) (h1 : ez_H), Q1 r h1 → pw N X 140 94 [.ref 6, .int q, .int n, .int a] (r.toList ++ []) h1 Q)))) : pw (N + 1) X 140 68 [.ref 6, .int q, .int n, .int a] [] (ev_hp I J R T) Q := by
  refine pw_if (by decide) (fun _ _ => se_r37) (fun w1 => ?_) (fun w1 => ?_)
  · have h1 := H.1 w1
    exact pw_p (pw_ret (by decide) (fun _ _ => se_r38) h1)
  · have h1 := H.2 w1
    refine pw_p (pw_callp (by decide) (fun _ _ => se_r39) (pe_cellsAt) ?_)
    refine pw_p (pw_callp (by decide) (fun _ _ => se_r40) (pe_around) ?_)
    obtain ⟨Q1, hc, hk⟩ := h1
    exact pw_p (pw_call (by decide) (fun _ _ => se_r41) hc hk)
set_option maxRecDepth 100000 in
theorem se_r42 {a0 : Int32} {a1 : Int32} {a2 : Int32} : ∀ G : ez_F, fx_up X 2 G 140 94 [.ref 6, .int a0, .int a1, .int a2] [] (ev_hp I J R T) cz kz = G 140 68 [.ref 6, .int a0, .int a1, .int (a2 + (1 : Int32))] [] (ev_hp I J R T) cz kz := by
  intro G
  rfl
theorem s1_94 {q n a : Int32}
    (H : pw N X 140 68 [.ref 6, .int q, .int n, .int (a + (1 : Int32))] [] (ev_hp I J R T) Q) : pw (N + 1) X 140 94 [.ref 6, .int q, .int n, .int a] [] (ev_hp I J R T) Q := by
  refine pw_seg (by decide) (fun _ _ => se_r42) ?_
  exact H
set_option maxRecDepth 100000 in
theorem se_r43  : ∀ G : ez_F, fx_up X 3 G 52 0 [.ref 0] [] (ev_hp I J R T) cz kz = ev_C G 89 [.ref 3] (ev_hp I J R T) fun r h1 c1 k1 => G 52 7 [.ref 0] (r.toList ++ []) h1 (cz + c1) (kz + k1) := by
  intro G
  rfl
set_option maxRecDepth 100000 in
theorem se_r44 {a0 : Int32} : ∀ G : ez_F, fx_up X 2 G 52 7 [.ref 0] [.int a0] (ev_hp I J R T) cz kz = bif decide (a0 ≤ (10000 : Int32)) then G 52 15 [.ref 0] [] (ev_hp I J R T) cz kz else G 52 13 [.ref 0] [] (ev_hp I J R T) cz kz := by
  intro G
  rfl
set_option maxRecDepth 100000 in
theorem se_r45  : ∀ G : ez_F, fx_up X 3 G 52 15 [.ref 0] [] (ev_hp I J R T) cz kz = ev_C G 140 [.ref 6] (ev_hp I J R T) fun r h1 c1 k1 => G 52 22 [.ref 0] (r.toList ++ []) h1 (cz + c1) (kz + k1) := by
  intro G
  rfl
set_option maxRecDepth 100000 in
theorem se_r46  : ∀ G : ez_F, fx_up X 1 G 52 13 [.ref 0] [] (ev_hp I J R T) cz kz = G 52 14 [.ref 0] [.int (1 : Int32)] (ev_hp I J R T) cz kz := by
  intro G
  rfl
theorem tm_0 
    (H : (((cb_F I) ≤ (10000 : Int32) → (∃ Q1 : pw_Q, pe N X 140 [.ref 6] (ev_hp I J R T) Q1 ∧ ∀ (r : Option Value) (h1 : ez_H), Q1 r h1 → pw N X 52 22 [.ref 0] (r.toList ++ []) h1 Q)) ∧ (¬ ((cb_F I) ≤ (10000 : Int32)) → ((1 : Int32) = 0 ∨ (1 : Int32) = 1 → Q (some (.int (1 : Int32))) (ev_hp I J R T))))) : pw (N + 1) X 52 0 [.ref 0] [] (ev_hp I J R T) Q := by
  refine pw_callp (by decide) (fun _ _ => se_r43) (pe_comb) ?_
  refine pw_p (pw_if (by decide) (fun _ _ => se_r44) (fun w1 => ?_) (fun w1 => ?_))
  · have h1 := H.1 w1
    obtain ⟨Q1, hc, hk⟩ := h1
    exact pw_p (pw_call (by decide) (fun _ _ => se_r45) hc hk)
  · have h1 := H.2 w1
    refine pw_p (pw_seg (by decide) (fun _ _ => se_r46) ?_)
    exact pw_p (pw_zret (by rfl) h1)
set_option maxRecDepth 100000 in
theorem se_r47  : ∀ G : ez_F, fx_up X 1 G 52 22 [.ref 0] [] (ev_hp I J R T) cz kz = G 52 23 [.ref 0] [.int (0 : Int32)] (ev_hp I J R T) cz kz := by
  intro G
  rfl
theorem tm_22 
    (H : ((0 : Int32) = 0 ∨ (0 : Int32) = 1 → Q (some (.int (0 : Int32))) (ev_hp I J R T))) : pw (N + 1) X 52 22 [.ref 0] [] (ev_hp I J R T) Q := by
  refine pw_seg (by decide) (fun _ _ => se_r47) ?_
  exact pw_p (pw_zret (by rfl) H)
set_option maxRecDepth 100000 in
theorem se_r48  : ∀ G : ez_F, fx_up X 2 G 15 0 [.ref 0] [] (ev_hp I J R T) cz kz = ev_C G 52 [.ref 0] (ev_hp I J R T) fun r h1 c1 k1 => G 15 4 [.ref 0] (r.toList ++ []) h1 (cz + c1) (kz + k1) := by
  intro G
  rfl
theorem cw_0 
    (H : (∃ Q1 : pw_Q, pe N X 52 [.ref 0] (ev_hp I J R T) Q1 ∧ ∀ (r : Option Value) (h1 : ez_H), Q1 r h1 → pw N X 15 4 [.ref 0] (r.toList ++ []) h1 Q)) : pw (N + 1) X 15 0 [.ref 0] [] (ev_hp I J R T) Q := by
  obtain ⟨Q1, hc, hk⟩ := H
  exact pw_call (by decide) (fun _ _ => se_r48) hc hk
set_option maxRecDepth 100000 in
theorem se_r49 {a0 : Int32} : ∀ G : ez_F, fx_up X 1 G 15 4 [.ref 0] [.int a0] (ev_hp I J R T) cz kz = bif decide (¬ a0 = (0 : Int32)) then G 15 20 [.ref 0] [] (ev_hp I J R T) cz kz else G 15 7 [.ref 0] [] (ev_hp I J R T) cz kz := by
  intro G
  rfl
set_option maxRecDepth 100000 in
theorem se_r50  : ∀ G : ez_F, fx_up X 2 G 15 20 [.ref 0] [] (ev_hp I J R T) cz kz = G 15 25 [.ref 0] [.int (1 : Int32)] (ev_hp I J R T) cz kz := by
  intro G
  rfl
set_option maxRecDepth 100000 in
theorem se_r51  : ∀ G : ez_F, fx_up X 3 G 15 7 [.ref 0] [] (ev_hp I J R T) cz kz = G 15 14 [.ref 0] [.int (I 6 3)] (ev_hp I J R T) cz kz := by
  intro G
  rfl
set_option maxRecDepth 100000 in
theorem se_r52 {a0 : Int32} : ∀ G : ez_F, fx_up X 2 G 15 14 [.ref 0] [.int a0] (ev_hp I J R T) cz kz = bif decide (a0 ≤ (400 : Int32)) then G 15 24 [.ref 0] [] (ev_hp I J R T) cz kz else G 15 20 [.ref 0] [] (ev_hp I J R T) cz kz := by
  intro G
  rfl
set_option maxRecDepth 100000 in
theorem se_r53  : ∀ G : ez_F, fx_up X 1 G 15 24 [.ref 0] [] (ev_hp I J R T) cz kz = G 15 25 [.ref 0] [.int (0 : Int32)] (ev_hp I J R T) cz kz := by
  intro G
  rfl
theorem cw_4 {v : Int32}
    (H : ((¬ v = (0 : Int32) → ((1 : Int32) = 0 ∨ (1 : Int32) = 1 → Q (some (.int (1 : Int32))) (ev_hp I J R T))) ∧ (¬ (¬ v = (0 : Int32)) → (((I 6 3) ≤ (400 : Int32) → ((0 : Int32) = 0 ∨ (0 : Int32) = 1 → Q (some (.int (0 : Int32))) (ev_hp I J R T))) ∧ (¬ ((I 6 3) ≤ (400 : Int32)) → ((1 : Int32) = 0 ∨ (1 : Int32) = 1 → Q (some (.int (1 : Int32))) (ev_hp I J R T))))))) : pw (N + 1) X 15 4 [.ref 0] [.int v] (ev_hp I J R T) Q := by
  refine pw_if (by decide) (fun _ _ => se_r49) (fun w1 => ?_) (fun w1 => ?_)
  · have h1 := H.1 w1
    refine pw_p (pw_seg (by decide) (fun _ _ => se_r50) ?_)
    exact pw_p (pw_zret (by rfl) h1)
  · have h1 := H.2 w1
    refine pw_p (pw_seg (by decide) (fun _ _ => se_r51) ?_)
    refine pw_p (pw_if (by decide) (fun _ _ => se_r52) (fun w2 => ?_) (fun w2 => ?_))
    · have h2 := h1.1 w2
      refine pw_p (pw_seg (by decide) (fun _ _ => se_r53) ?_)
      exact pw_p (pw_zret (by rfl) h2)
    · have h2 := h1.2 w2
      refine pw_p (pw_seg (by decide) (fun _ _ => se_r50) ?_)
      exact pw_p (pw_zret (by rfl) h2)
end
def arI (I : Nat → Nat → Int32) (J : Nat → Nat → Int64) (z : Int64) : Int64 := ar (I 1 3) (I 1 5) (I 1 6) (J 1 7) (J 1 8) (J 1 9) (I 2 0) z
/-- what the search rests on: how many spots, their cells, what they bar -/
def sr_w (I : Nat → Nat → Int32) (J : Nat → Nat → Int64) (n0 n1 n2 : Nat) (e0 e1 e2 b0 b1 : Nat → Int64) : Prop := (sz_F I 0 = Int32.ofNat n0 ∧ sz_F I 1 = Int32.ofNat n1 ∧ sz_F I 2 = Int32.ofNat n2) ∧ ((∀ a, a < n0 → cl_F I J 0 (Int32.ofNat a) = e0 a) ∧ (∀ a, a < n1 → cl_F I J 1 (Int32.ofNat a) = e1 a) ∧ ∀ a, a < n2 → cl_F I J 2 (Int32.ofNat a) = e2 a) ∧
  ((∀ a, a < n0 → arI I J (e0 a) = b0 a) ∧ ∀ a, a < n1 → arI I J (e1 a) = b1 a) ∧ n0 ≤ 288 ∧ n1 ≤ 288 ∧ n2 ≤ 288
theorem sr_w6 {I : Nat → Nat → Int32} {J : Nat → Nat → Int64} {n0 n1 n2 : Nat} {e0 e1 e2 b0 b1 : Nat → Int64} (f : Nat → Int32) (h : sr_w I J n0 n1 n2 e0 e1 e2 b0 b1) : sr_w (ev_sI I 6 f) J n0 n1 n2 e0 e1 e2 b0 b1 := by
  have a3 : ev_sI I 6 f 3 = I 3 := cx_sI_n _ _ (by decide)
  have a5 : ev_sI I 6 f 5 = I 5 := cx_sI_n _ _ (by decide)
  have a1 : ev_sI I 6 f 1 = I 1 := cx_sI_n _ _ (by decide)
  have a2 : ev_sI I 6 f 2 = I 2 := cx_sI_n _ _ (by decide)
  have h1 : ∀ s, sz_F (ev_sI I 6 f) s = sz_F I s := fun s => by unfold sz_F; rw [a3, a5]
  have h2 : ∀ s k, cl_F (ev_sI I 6 f) J s k = cl_F I J s k := fun s k => by unfold cl_F; rw [a3]
  have h3 : ∀ z, arI (ev_sI I 6 f) J z = arI I J z := fun z => by unfold arI; rw [a1, a2]
  unfold sr_w
  simp only [h1, h2, h3]
  exact h
def ly_p (e1 b0 : Nat → Int64) (a b : Nat) : Bool := decide (e1 b &&& b0 a = 0)
def ly_q (e2 b0 b1 : Nat → Int64) (a b c : Nat) : Bool := decide (e2 c &&& (b0 a ||| b1 b) = 0)
/-- so far these are found -/
def sr_s (I : Nat → Nat → Int32) (p n : Nat) (T1 : List ez_C) (L : List ly_t) (I' : Nat → Nat → Int32) (T' : List ez_C) : Prop := ∃ f, I' = ev_sI I 6 (upd (upd (I 6) 4 1) 3 (Int32.ofNat L.length)) ∧ rowT p T' n f ∧ ly_row f L ∧ keepT p T1 T'
section
variable {X : ez_X} {I I' : Nat → Nat → Int32} {J : Nat → Nat → Int64} {R : Nat → Nat} {T1 T' : List ez_C} {n n0 n1 n2 : Nat} {e0 e1 e2 b0 b1 : Nat → Int64} {L : List ly_t}
theorem sr_sw (h : sr_s I (R 0) n T1 L I' T') (hw : sr_w I J n0 n1 n2 e0 e1 e2 b0 b1) : sr_w I' J n0 n1 n2 e0 e1 e2 b0 b1 := by
  obtain ⟨f, rfl, -⟩ := h
  exact sr_w6 _ hw
theorem s3_loop (hw : sr_w I J n0 n1 n2 e0 e1 e2 b0 b1) (hn : n ≤ 10000) {a b : Nat} (hL : L.length + n2 ≤ n) {Q : pw_Q} {zz : Int32} (hz : zz = (Int32.ofNat a <<< ((9 : Int32) &&& (31 : Int32))) ||| Int32.ofNat b)
    (cont : ∀ I2 T2, sr_s I (R 0) n T1 (L ++ ly_3 (ly_q e2 b0 b1) a b n2) I2 T2 → Q none (ev_hp I2 J R T2)) : ∀ (N c : Nat) I' T', c ≤ n2 → sr_s I (R 0) n T1 (L ++ ly_3 (ly_q e2 b0 b1) a b c) I' T' →
    pw N X 142 13 [.ref 6, .int zz, .long (b0 a ||| b1 b), ez_fill, .int (Int32.ofNat n2), .int (Int32.ofNat c)] [] (ev_hp I' J R T') Q := by
  intro N
  induction N with
  | zero => exact fun c I' T' _ _ => pw_0
  | succ N ih =>
    intro c I' T' hc hs
    have hw' := sr_sw hs hw
    obtain ⟨hsz, ⟨hc0, hc1, hc2⟩, -, h0, h1, h2⟩ := hw'
    have next : c < n2 → ly_q e2 b0 b1 a b c = false → pw N X 142 13 [.ref 6, .int zz, .long (b0 a ||| b1 b), ez_fill, .int (Int32.ofNat n2), .int (Int32.ofNat (c + 1))] [] (ev_hp I' J R T') Q := by
      intro hlt hq
      refine ih (c + 1) I' T' (by omega) ?_
      unfold ly_3
      rw [hq]
      simp only [cond_false, List.append_nil]
      exact hs
    refine s3_13 ⟨fun w => ?_, fun w => ⟨fun w2 => ?_, fun w2 => ?_⟩⟩
    · rw [io_le (by omega) (by omega)] at w
      obtain rfl : c = n2 := by omega
      exact cont I' T' hs
    · rw [io_le (by omega) (by omega)] at w
      rw [lg_eq, show (2 : Int32) = 2 from rfl, hc2 c (by omega)] at w2
      rw [io_1]
      exact next (by omega) (decide_eq_false w2)
    · rw [io_le (by omega) (by omega)] at w
      have w3 := Classical.not_not.mp w2
      rw [lg_eq, hc2 c (by omega)] at w3
      obtain ⟨f, rfl, hr, hrow, hk⟩ := hs
      have hlen : (L ++ ly_3 (ly_q e2 b0 b1) a b c).length < n := by
        rw [List.length_append]
        have := ly_3l (ly_q e2 b0 b1) a b c
        omega
      refine ⟨_, pe_putR hr (by omega), ?_⟩
      rintro r h ⟨rfl, T2, rfl, g1, g2⟩
      refine pw_p (s3_55 ?_)
      rw [io_1]
      refine ih (c + 1) _ T2 (by omega) ?_
      have eN : L ++ ly_3 (ly_q e2 b0 b1) a b (c + 1) = (L ++ ly_3 (ly_q e2 b0 b1) a b c) ++ [(a, b, c)] := by
        rw [show ly_3 (ly_q e2 b0 b1) a b (c + 1) = ly_3 (ly_q e2 b0 b1) a b c ++ (bif ly_q e2 b0 b1 a b c then [(a, b, c)] else []) from rfl, show ly_q e2 b0 b1 a b c = true from decide_eq_true w3, List.append_assoc]
        rfl
      rw [eN]
      generalize L ++ ly_3 (ly_q e2 b0 b1) a b c = L1 at hrow hlen g1 ⊢
      rw [cx_sI_s, upd_s] at g1 ⊢
      rw [put_in hlen (by omega)] at g1
      refine ⟨_, ?_, g1, ?_, keepT_t hk g2⟩
      · rw [sI2, upd_2, io_1, List.length_append, List.length_singleton]
      · rw [hz]
        exact ly_row_add (t := (a, b, c)) hrow
theorem pe_s3 (hw : sr_w I J n0 n1 n2 e0 e1 e2 b0 b1) (hn : n ≤ 10000) {a b : Nat} (hL : L.length + n2 ≤ n) {zz : Int32} (hz : zz = (Int32.ofNat a <<< ((9 : Int32) &&& (31 : Int32))) ||| Int32.ofNat b) (hs : sr_s I (R 0) n T1 L I' T') (N : Nat) :
    pe N X 142 [.ref 6, .int zz, .long (b0 a ||| b1 b)] (ev_hp I' J R T') (fun r h => r = none ∧ ∃ I2 T2, h = ev_hp I2 J R T2 ∧ sr_s I (R 0) n T1 (L ++ ly_3 (ly_q e2 b0 b1) a b n2) I2 T2) := by
  have hw' := sr_sw hs hw
  refine pe_of (pw_p (s3_0 ?_))
  rw [hw'.1.2.2]
  exact s3_loop hw hn hL hz (fun I2 T2 h => ⟨rfl, I2, T2, rfl, h⟩) N 0 I' T' (Nat.zero_le _) (by unfold ly_3; rw [List.append_nil]; exact hs)
theorem s2_loop (hw : sr_w I J n0 n1 n2 e0 e1 e2 b0 b1) (hn : n ≤ 10000) {a : Nat} (ha : a < n0) (hL : L.length + n1 * n2 ≤ n) {Q : pw_Q}
    (cont : ∀ I2 T2, sr_s I (R 0) n T1 (L ++ ly_2 (ly_p e1 b0) (ly_q e2 b0 b1) n2 a n1) I2 T2 → Q none (ev_hp I2 J R T2)) : ∀ (N b : Nat) I' T', b ≤ n1 → sr_s I (R 0) n T1 (L ++ ly_2 (ly_p e1 b0) (ly_q e2 b0 b1) n2 a b) I' T' →
    pw N X 141 13 [.ref 6, .int (Int32.ofNat a), .long (b0 a), ez_fill, .int (Int32.ofNat n1), .int (Int32.ofNat b)] [] (ev_hp I' J R T') Q := by
  intro N
  induction N with
  | zero => exact fun c I' T' _ _ => pw_0
  | succ N ih =>
    intro b I' T' hb hs
    have hw' := sr_sw hs hw
    obtain ⟨hsz, ⟨hc0, hc1, hc2⟩, ⟨hb0, hb1⟩, h0, h1, h2⟩ := hw'
    unfold arI at hb1
    refine s2_13 ⟨fun w => ?_, fun w => ⟨fun w2 => ?_, fun w2 => ?_⟩⟩
    · rw [io_le (by omega) (by omega)] at w
      obtain rfl : b = n1 := by omega
      exact cont I' T' hs
    · rw [io_le (by omega) (by omega)] at w
      rw [lg_eq, hc1 b (by omega)] at w2
      rw [io_1]
      refine ih (b + 1) I' T' (by omega) ?_
      unfold ly_2
      rw [show ly_p e1 b0 a b = false from decide_eq_false w2]
      simp only [cond_false, List.append_nil]
      exact hs
    · rw [io_le (by omega) (by omega)] at w
      have w3 := Classical.not_not.mp w2
      rw [lg_eq, hc1 b (by omega)] at w3
      rw [hc1 b (by omega), hb1 b (by omega)]
      have hlen : (L ++ ly_2 (ly_p e1 b0) (ly_q e2 b0 b1) n2 a b).length + n2 ≤ n := by
        rw [List.length_append]
        have h5 := ly_2l (ly_p e1 b0) (ly_q e2 b0 b1) n2 a b
        have h6 : (b + 1) * n2 ≤ n1 * n2 := Nat.mul_le_mul_right n2 (by omega)
        rw [Nat.succ_mul] at h6
        omega
      refine ⟨_, pe_s3 hw hn hlen rfl hs N, ?_⟩
      rintro r h ⟨rfl, I2, T2, rfl, h3⟩
      refine pw_p (s2_63 ?_)
      rw [io_1]
      refine ih (b + 1) I2 T2 (by omega) ?_
      unfold ly_2
      rw [show ly_p e1 b0 a b = true from decide_eq_true w3]
      simp only [cond_true]
      rw [← List.append_assoc]
      exact h3
theorem pe_s2 (hw : sr_w I J n0 n1 n2 e0 e1 e2 b0 b1) (hn : n ≤ 10000) {a : Nat} (ha : a < n0) (hL : L.length + n1 * n2 ≤ n) (hs : sr_s I (R 0) n T1 L I' T') (N : Nat) :
    pe N X 141 [.ref 6, .int (Int32.ofNat a), .long (b0 a)] (ev_hp I' J R T') (fun r h => r = none ∧ ∃ I2 T2, h = ev_hp I2 J R T2 ∧ sr_s I (R 0) n T1 (L ++ ly_2 (ly_p e1 b0) (ly_q e2 b0 b1) n2 a n1) I2 T2) := by
  have hw' := sr_sw hs hw
  refine pe_of (pw_p (s2_0 ?_))
  rw [hw'.1.2.1]
  exact s2_loop hw hn ha hL (fun I2 T2 h => ⟨rfl, I2, T2, rfl, h⟩) N 0 I' T' (Nat.zero_le _) (by unfold ly_2; rw [List.append_nil]; exact hs)
theorem s1_loop (hw : sr_w I J n0 n1 n2 e0 e1 e2 b0 b1) (hn : n ≤ 10000) (hL : n0 * (n1 * n2) ≤ n) {q : Int32} {Q : pw_Q}
    (cont : ∀ I2 T2, sr_s I (R 0) n T1 (ly_1 (ly_p e1 b0) (ly_q e2 b0 b1) n1 n2 n0) I2 T2 → Q none (ev_hp I2 J R T2)) : ∀ (N a : Nat) I' T', a ≤ n0 → sr_s I (R 0) n T1 (ly_1 (ly_p e1 b0) (ly_q e2 b0 b1) n1 n2 a) I' T' →
    pw N X 140 68 [.ref 6, .int q, .int (Int32.ofNat n0), .int (Int32.ofNat a)] [] (ev_hp I' J R T') Q := by
  intro N
  induction N with
  | zero => exact fun c I' T' _ _ => pw_0
  | succ N ih =>
    intro a I' T' ha hs
    have hw' := sr_sw hs hw
    obtain ⟨hsz, ⟨hc0, hc1, hc2⟩, ⟨hb0, hb1⟩, h0, h1, h2⟩ := hw'
    unfold arI at hb0
    refine s1_68 ⟨fun w => ?_, fun w => ?_⟩
    · rw [io_le (by omega) (by omega)] at w
      obtain rfl : a = n0 := by omega
      exact cont I' T' hs
    · rw [io_le (by omega) (by omega)] at w
      rw [hc0 a (by omega), hb0 a (by omega)]
      have hlen : (ly_1 (ly_p e1 b0) (ly_q e2 b0 b1) n1 n2 a).length + n1 * n2 ≤ n := by
        have h5 := ly_1l (ly_p e1 b0) (ly_q e2 b0 b1) n1 n2 a
        have h6 : (a + 1) * (n1 * n2) ≤ n0 * (n1 * n2) := Nat.mul_le_mul_right _ (by omega)
        rw [Nat.succ_mul] at h6
        omega
      refine ⟨_, pe_s2 hw hn (by omega) hlen hs N, ?_⟩
      rintro r h ⟨rfl, I2, T2, rfl, h3⟩
      refine pw_p (s1_94 ?_)
      rw [io_1]
      exact ih (a + 1) I2 T2 (by omega) h3
end
