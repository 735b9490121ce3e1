/-! The spots of a ship, as a set. -/
def sp_u (W H wr : Int32) (s m : Nat) : Int64 := mv_F W H wr (Int32.ofNat s) (fs_dx m) (fs_dy m) 16 0 0
/-- by one shape, moved -/
def sp_N (W H wr : Int32) (s : Nat) (u : Int64) : Prop := u ≠ 0 ∧ ∃ m, m < 100 ∧ u = sp_u W H wr s m
/-- by its first K turns -/
def sp_M (W H wr : Int32) (s K : Nat) (u : Int64) : Prop := ∃ t, t < K ∧ sp_N W H wr (pm (rt t) s 16) u
def sp_k (t : Nat) : Nat := if t = 0 then 1 else if t = 1 then 4 else 8
theorem sp_k8 (t : Nat) : sp_k t ≤ 8 := by
  unfold sp_k
  split
  · omega
  · split <;> omega
section
variable {W H wr : Int32} {s K : Nat}
theorem sp_M0 (u : Int64) : ¬ sp_M W H wr s 0 u := fun ⟨t, ht, _⟩ => by omega
theorem sp_M1 (u : Int64) : sp_M W H wr s (K + 1) u ↔ sp_M W H wr s K u ∨ sp_N W H wr (pm (rt K) s 16) u := by
  constructor
  · rintro ⟨t, ht, h⟩
    by_cases h2 : t = K
    · rw [h2] at h
      exact Or.inr h
    · exact Or.inl ⟨t, by omega, h⟩
  · rintro (⟨t, ht, h⟩ | h)
    · exact ⟨t, by omega, h⟩
    · exact ⟨K, by omega, h⟩
theorem sp_Ms {K' : Nat} (hK : K ≤ K') {u : Int64} (h : sp_M W H wr s K u) : sp_M W H wr s K' u := by
  obtain ⟨t, ht, h⟩ := h
  exact ⟨t, by omega, h⟩
/-- a move of -4 .. 5 has a number -/
theorem sp_no {x y : Int32} (hx : -4 ≤ x.toInt ∧ x.toInt ≤ 5) (hy : -4 ≤ y.toInt ∧ y.toInt ≤ 5) : ∃ m, m < 100 ∧ fs_dx m = x ∧ fs_dy m = y := by
  refine ⟨(y.toInt + 4).toNat * 10 + (x.toInt + 4).toNat, by omega, ?_, ?_⟩
  · refine cx_i32_eq ?_
    rw [(fs_d (by omega)).1]
    omega
  · refine cx_i32_eq ?_
    rw [(fs_d (by omega)).2]
    omega
theorem sp_at {m : Nat} (h : m < 100) : (-4 ≤ (fs_dx m).toInt ∧ (fs_dx m).toInt ≤ 5) ∧ (-4 ≤ (fs_dy m).toInt ∧ (fs_dy m).toInt ≤ 5) := by
  obtain ⟨h1, h2⟩ := fs_d h
  rw [h1, h2]
  omega
/-- moves from -3 on are enough -/
theorem sp_near (hwr : wr = 0 ∨ wr = 1) (hW : 2 ≤ W.toInt ∧ W.toInt ≤ 6) (hH : 2 ≤ H.toInt ∧ H.toInt ≤ 6) {b dx dy : Int32} (h1 : -4 ≤ dx.toInt ∧ dx.toInt ≤ 5) (h2 : -4 ≤ dy.toInt ∧ dy.toInt ≤ 5) (hne : mv_F W H wr b dx dy 16 0 0 ≠ 0) :
    ∃ x y : Int32, mv_F W H wr b x y 16 0 0 = mv_F W H wr b dx dy 16 0 0 ∧ (-3 ≤ x.toInt ∧ x.toInt < W.toInt) ∧ (-3 ≤ y.toInt ∧ y.toInt < H.toInt) := by
  rcases hwr with rfl | rfl
  · refine ⟨dx, dy, rfl, ?_⟩
    have hex : ∃ q : Int32, (0 : Int32).toInt ≤ q.toInt ∧ q.toInt < (0 : Int32).toInt + ((16 : Nat) : Int) ∧ ¬ ev_has b.toInt64 q = 0 := by
      apply Classical.byContradiction
      intro hn
      exact hne (mv_none 16 0 0 (by decide) (by decide) fun q q1 q2 => Classical.byContradiction fun q3 => hn ⟨q, q1, q2, q3⟩)
    obtain ⟨q, q1, q2, q3⟩ := hex
    have e0 : (0 : Int32).toInt = 0 := by decide
    obtain ⟨a1, a2⟩ := mv_flat hW hH h1 h2 16 0 0 (by decide) (by decide) hne q q1 q2 q3
    obtain ⟨b1, b2⟩ := mv_k4_s (k := q) (by omega) (by omega)
    omega
  · have ew : ∀ {w d : Int}, 2 ≤ w ∧ w ≤ 6 → -4 ≤ d ∧ d ≤ 5 → ∃ x : Int32, -3 ≤ x.toInt ∧ x.toInt < w ∧ (x.toInt - d) % w = 0 ∧ x.toInt ≤ 5 := by
      intro w d hw hd
      have hm0 : 0 ≤ (d + 3) % w := Int.emod_nonneg _ (by omega)
      have hm1 : (d + 3) % w < w := Int.emod_lt_of_pos _ (by omega)
      refine ⟨Int32.ofInt ((d + 3) % w - 3), ?_⟩
      rw [Int32.toInt_ofInt_of_le (by omega) (by omega)]
      refine ⟨by omega, by omega, ?_, by omega⟩
      rcases (show w = 2 ∨ w = 3 ∨ w = 4 ∨ w = 5 ∨ w = 6 by omega) with rfl | rfl | rfl | rfl | rfl <;> omega
    obtain ⟨x, x1, x2, x3, x4⟩ := ew hW h1
    obtain ⟨y, y1, y2, y3, y4⟩ := ew hH h2
    exact ⟨x, y, mv_wrap hW hH (by omega) (by omega) h1 h2 x3 y3 16 0 0 (by decide) (by decide), ⟨x1, x2⟩, ⟨y1, y2⟩⟩
/-- rows and columns gone through so far -/
def ne_A (W H wr : Int32) (s : Nat) (A : Int64 → Prop) (y x : Int) (u : Int64) : Prop := A u ∨ (u ≠ 0 ∧ ∃ dx dy : Int32, u = mv_F W H wr (Int32.ofNat s) dx dy 16 0 0 ∧ (-3 ≤ dx.toInt ∧ dx.toInt < W.toInt) ∧ -3 ≤ dy.toInt ∧ (dy.toInt < y ∨ (dy.toInt = y ∧ dx.toInt < x)))
theorem ne_A1 {A : Int64 → Prop} {x y : Int32} (hx : -3 ≤ x.toInt ∧ x.toInt < W.toInt) (hy : -3 ≤ y.toInt) (u : Int64) :
    ne_A W H wr s A y.toInt (x.toInt + 1) u ↔ ne_A W H wr s A y.toInt x.toInt u ∨ (u ≠ 0 ∧ u = mv_F W H wr (Int32.ofNat s) x y 16 0 0) := by
  constructor
  · rintro (h | ⟨h1, dx, dy, h2, h3, h4, h5⟩)
    · exact Or.inl (Or.inl h)
    · by_cases h6 : dy.toInt = y.toInt ∧ dx.toInt = x.toInt
      · rw [cx_i32_eq h6.1, cx_i32_eq h6.2] at h2
        exact Or.inr ⟨h1, h2⟩
      · exact Or.inl (Or.inr ⟨h1, dx, dy, h2, h3, h4, by omega⟩)
  · rintro ((h | ⟨h1, dx, dy, h2, h3, h4, h5⟩) | ⟨h1, h2⟩)
    · exact Or.inl h
    · exact Or.inr ⟨h1, dx, dy, h2, h3, h4, by omega⟩
    · exact Or.inr ⟨h1, x, y, h2, hx, hy, by omega⟩
theorem ne_A2 {A : Int64 → Prop} (y : Int) (x : Int) (hx : W.toInt ≤ x) (u : Int64) : ne_A W H wr s A y x u ↔ ne_A W H wr s A (y + 1) (-3) u := by
  constructor
  · rintro (h | ⟨h1, dx, dy, h2, h3, h4, h5⟩)
    · exact Or.inl h
    · exact Or.inr ⟨h1, dx, dy, h2, h3, h4, by omega⟩
  · rintro (h | ⟨h1, dx, dy, h2, h3, h4, h5⟩)
    · exact Or.inl h
    · exact Or.inr ⟨h1, dx, dy, h2, h3, h4, by omega⟩
theorem ne_A0 {A : Int64 → Prop} (u : Int64) : ne_A W H wr s A (-3) (-3) u ↔ A u := by
  constructor
  · rintro (h | ⟨h1, dx, dy, h2, h3, h4, h5⟩)
    · exact h
    · omega
  · exact Or.inl
theorem ne_A9 (hwr : wr = 0 ∨ wr = 1) (hW : 2 ≤ W.toInt ∧ W.toInt ≤ 6) (hH : 2 ≤ H.toInt ∧ H.toInt ≤ 6) {A : Int64 → Prop} {y : Int} (hy : y = H.toInt) (u : Int64) : ne_A W H wr s A y (-3) u ↔ A u ∨ sp_N W H wr s u := by
  constructor
  · rintro (h | ⟨h1, dx, dy, h2, h3, h4, h5⟩)
    · exact Or.inl h
    · obtain ⟨m, hm, e1, e2⟩ := sp_no (x := dx) (y := dy) (by omega) (by omega)
      exact Or.inr ⟨h1, m, hm, by rw [h2]; unfold sp_u; rw [e1, e2]⟩
  · rintro (h | ⟨h1, m, hm, h2⟩)
    · exact Or.inl h
    · obtain ⟨a1, a2⟩ := sp_at hm
      rw [h2] at h1
      obtain ⟨x, y2, e, b1, b2⟩ := sp_near hwr hW hH a1 a2 h1
      rw [← h2] at h1
      exact Or.inr ⟨h1, x, y2, by rw [h2]; exact e.symm, b1, b2.1, by omega⟩
/-! they are few: by the turn and what is left of the move -/
def sp_res (W H : Int32) (m : Nat) : Nat := ((m % 10) % W.toInt.toNat) * 6 + (m / 10) % H.toInt.toNat
theorem sp_res_lt (hW : 2 ≤ W.toInt ∧ W.toInt ≤ 6) (hH : 2 ≤ H.toInt ∧ H.toInt ≤ 6) (m : Nat) : sp_res W H m < 36 := by
  unfold sp_res
  have h1 : (m % 10) % W.toInt.toNat < W.toInt.toNat := Nat.mod_lt _ (by omega)
  have h2 : (m / 10) % H.toInt.toNat < H.toInt.toNat := Nat.mod_lt _ (by omega)
  omega
theorem sp_res_eq (hwr : wr = 0 ∨ wr = 1) (hW : 2 ≤ W.toInt ∧ W.toInt ≤ 6) (hH : 2 ≤ H.toInt ∧ H.toInt ≤ 6) {m m' : Nat} (hm : m < 100) (hm' : m' < 100) (h : sp_res W H m = sp_res W H m') (n1 : sp_u W H wr s m ≠ 0) (n2 : sp_u W H wr s m' ≠ 0) : sp_u W H wr s m = sp_u W H wr s m' := by
  unfold sp_res at h
  have h1 : (m / 10) % H.toInt.toNat < H.toInt.toNat := Nat.mod_lt _ (by omega)
  have h2 : (m' / 10) % H.toInt.toNat < H.toInt.toNat := Nat.mod_lt _ (by omega)
  have hx : (m % 10) % W.toInt.toNat = (m' % 10) % W.toInt.toNat := by omega
  have hy : (m / 10) % H.toInt.toNat = (m' / 10) % H.toInt.toNat := by omega
  obtain ⟨d1, d2⟩ := fs_d hm
  obtain ⟨d3, d4⟩ := fs_d hm'
  exact mv_same hwr hW hH (by omega) (by omega) (by omega) (by omega) (by rw [d1, d3]; exact fs_modz hW hx) (by rw [d2, d4]; exact fs_modz hH hy) n1 n2
/-- a spot's number among 36 a turn -/
def sp_P (W H wr : Int32) (s : Nat) (u : Int64) (r : Nat) : Prop := ∃ t m, t < 8 ∧ m < 100 ∧ u ≠ 0 ∧ u = sp_u W H wr (pm (rt t) s 16) m ∧ r = 36 * t + sp_res W H m
noncomputable def sp_w (W H wr : Int32) (s : Nat) (u : Int64) : Nat := Classical.epsilon (sp_P W H wr s u)
theorem sp_w_s (h : K ≤ 8) {u : Int64} (hu : sp_M W H wr s K u) : sp_P W H wr s u (sp_w W H wr s u) := by
  obtain ⟨t, ht, h0, m, hm, e⟩ := hu
  exact Classical.epsilon_spec (p := sp_P W H wr s u) ⟨_, t, m, by omega, hm, h0, e, rfl⟩
theorem sp_w_lt (hW : 2 ≤ W.toInt ∧ W.toInt ≤ 6) (hH : 2 ≤ H.toInt ∧ H.toInt ≤ 6) (h : K ≤ 8) {u : Int64} (hu : sp_M W H wr s K u) : sp_w W H wr s u < 288 := by
  obtain ⟨t, m, ht, hm, -, -, e⟩ := sp_w_s h hu
  have := sp_res_lt hW hH m
  omega
theorem sp_w_inj (hwr : wr = 0 ∨ wr = 1) (hW : 2 ≤ W.toInt ∧ W.toInt ≤ 6) (hH : 2 ≤ H.toInt ∧ H.toInt ≤ 6) (h : K ≤ 8) {u v : Int64} (hu : sp_M W H wr s K u) (hv : sp_M W H wr s K v) (e : sp_w W H wr s u = sp_w W H wr s v) : u = v := by
  obtain ⟨t, m, ht, hm, u0, u1, e1⟩ := sp_w_s h hu
  obtain ⟨t', m', ht', hm', v0, v1, e2⟩ := sp_w_s h hv
  have r1 := sp_res_lt hW hH m
  have r2 := sp_res_lt hW hH m'
  obtain rfl : t = t' := by omega
  rw [u1, v1]
  exact sp_res_eq hwr hW hH hm hm' (by omega) (by rw [← u1]; exact u0) (by rw [← v1]; exact v0)
theorem sp_most (hwr : wr = 0 ∨ wr = 1) (hW : 2 ≤ W.toInt ∧ W.toInt ≤ 6) (hH : 2 ≤ H.toInt ∧ H.toInt ≤ 6) (h : K ≤ 8) {f : Nat → Int64} {B n : Nat} (hs : srt f B n) (hM : ∀ u, inrow f B n u → sp_M W H wr s K u) : n ≤ 288 :=
  srt_few hs (sp_w W H wr s) (fun a ha => sp_w_lt hW hH h (hM _ ⟨a, ha, rfl⟩)) fun a b ha hb e => sp_w_inj hwr hW hH h (hM _ ⟨a, ha, rfl⟩) (hM _ ⟨b, hb, rfl⟩) e
/-- one more than they are has no room among them -/
theorem srt_place {f : Nat → Int64} {B n : Nat} {v : Int64} (h : srt f B n) : ∃ k, k ≤ n ∧ (∀ a : Nat, k ≤ a → a < n → v.toInt ≤ (f (B + a)).toInt) ∧ (k = 0 ∨ (f (B + (k - 1))).toInt < v.toInt) := by
  have loop : ∀ k, k ≤ n → (∀ a : Nat, k ≤ a → a < n → v.toInt ≤ (f (B + a)).toInt) → ∃ k, k ≤ n ∧ (∀ a : Nat, k ≤ a → a < n → v.toInt ≤ (f (B + a)).toInt) ∧ (k = 0 ∨ (f (B + (k - 1))).toInt < v.toInt) := by
    intro k
    induction k with
    | zero => exact fun h1 h2 => ⟨0, h1, h2, Or.inl rfl⟩
    | succ k ih =>
      intro h1 h2
      by_cases h3 : (f (B + k)).toInt < v.toInt
      · exact ⟨k + 1, h1, h2, Or.inr h3⟩
      · refine ih (by omega) fun a h4 h5 => ?_
        by_cases h6 : a = k
        · rw [h6]; omega
        · exact h2 a (by omega) h5
  exact loop n (Nat.le_refl n) fun a h1 h2 => by omega
theorem sp_room (hwr : wr = 0 ∨ wr = 1) (hW : 2 ≤ W.toInt ∧ W.toInt ≤ 6) (hH : 2 ≤ H.toInt ∧ H.toInt ≤ 6) (h : K ≤ 8) {f : Nat → Int64} {B n : Nat} {v : Int64} (hs : srt f B n) (hM : ∀ u, inrow f B n u → sp_M W H wr s K u) (hv : sp_M W H wr s K v) (hn : ¬ inrow f B n v) : n < 288 := by
  obtain ⟨k, h1, h2, h3⟩ := srt_place (v := v) hs
  have h4 : ∀ a : Nat, k ≤ a → a < n → v.toInt < (f (B + a)).toInt := fun a ha hb => by
    have h5 := h2 a ha hb
    have h6 : ¬ (f (B + a)).toInt = v.toInt := fun e => hn ⟨a, hb, Int64.toInt_inj.mp e⟩
    omega
  have := sp_most hwr hW hH h (srt_ins hs h1 h4 h3) fun u hu => by
    rcases (in_ins h1 u).mp hu with h7 | rfl
    · exact hM u h7
    · exact hv
  omega
end
