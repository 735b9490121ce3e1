/-! Rows that rise: a set is put in its place; what lies in them; that they are few. -/
theorem lg_lt (u v : Int64) : lg_cmp u v < 0 ↔ u.toInt < v.toInt := by
  obtain ⟨h1, h2, h3, h4⟩ := cx_lgcmp u v
  rw [Int32.lt_iff_toInt_lt, show (0 : Int32).toInt = 0 from by decide]
  exact h3
theorem lg_eq (u v : Int64) : lg_cmp u v = 0 ↔ u = v := (fs_cmp u v).2
theorem lg_le (u v : Int64) : lg_cmp u v ≤ 0 ↔ u.toInt ≤ v.toInt := (fs_cmp u v).1
theorem sI2 (I : Nat → Nat → Int32) (a : Nat) (f g : Nat → Int32) : ev_sI (ev_sI I a f) a g = ev_sI I a g := by
  funext q
  by_cases h : q = a
  · subst h; rw [cx_sI_s, cx_sI_s]
  · rw [cx_sI_n _ _ h, cx_sI_n _ _ h, cx_sI_n _ _ h]
theorem upd_s (f : Nat → Int32) (k : Nat) (x : Int32) : upd f k x k = x := by simp [upd]
theorem upd_n (f : Nat → Int32) {k q : Nat} (x : Int32) (h : q ≠ k) : upd f k x q = f q := by simp [upd, h]
theorem upd_2 (f : Nat → Int32) (k : Nat) (x y : Int32) : upd (upd f k x) k y = upd f k y := by
  funext q
  by_cases h : q = k
  · subst h; rw [upd_s, upd_s]
  · rw [upd_n _ _ h, upd_n _ _ h, upd_n _ _ h]
theorem updL_s (f : Nat → Int64) (k : Nat) (x : Int64) : vp_updL f k x k = x := by simp [vp_updL]
theorem updL_n (f : Nat → Int64) {k q : Nat} (x : Int64) (h : q ≠ k) : vp_updL f k x q = f q := by simp [vp_updL, h]
theorem sI_self (I : Nat → Nat → Int32) (a : Nat) : ev_sI I a (I a) = I := by
  funext q
  by_cases h : q = a
  · subst h; rw [cx_sI_s]
  · rw [cx_sI_n _ _ h]
theorem upd_self (f : Nat → Int32) (k : Nat) : upd f k (f k) = f := by
  funext q
  by_cases h : q = k
  · subst h; rw [upd_s]
  · rw [upd_n _ _ h]
/-- a part of a row, one place on -/
def rw_sh (f : Nat → Int64) (B i n : Nat) : Nat → Int64 := fun q => if B + i < q ∧ q ≤ B + n then f (q - 1) else f q
theorem rw_sh_0 (f : Nat → Int64) (B n : Nat) : rw_sh f B n n = f := by
  funext q
  unfold rw_sh
  rw [if_neg (by omega)]
theorem rw_sh_1 (f : Nat → Int64) (B i n : Nat) (h0 : 0 < i) (h1 : i ≤ n) : vp_updL (rw_sh f B i n) (B + i) (rw_sh f B i n (B + i - 1)) = rw_sh f B (i - 1) n := by
  funext q
  unfold vp_updL rw_sh
  by_cases hq : q = B + i
  · rw [if_pos hq, if_neg (by omega), if_pos (by omega)]
    congr 1
    omega
  · rw [if_neg hq]
    by_cases h2 : B + i < q ∧ q ≤ B + n
    · rw [if_pos h2, if_pos (by omega)]
    · rw [if_neg h2, if_neg (by omega)]
def rw_ins (f : Nat → Int64) (B k n : Nat) (v : Int64) : Nat → Int64 := vp_updL (rw_sh f B k n) (B + k) v
theorem rw_ins_at (f : Nat → Int64) (B k n : Nat) (v : Int64) (j : Nat) : rw_ins f B k n v (B + j) = if j = k then v else if k < j ∧ j ≤ n then f (B + (j - 1)) else f (B + j) := by
  unfold rw_ins vp_updL rw_sh
  by_cases h : j = k
  · rw [if_pos (by omega), if_pos h]
  · rw [if_neg (by omega), if_neg h]
    by_cases h2 : k < j ∧ j ≤ n
    · rw [if_pos (by omega), if_pos h2, show B + j - 1 = B + (j - 1) by omega]
    · rw [if_neg (by omega), if_neg h2]
theorem rw_ins_out (f : Nat → Int64) {B k n q : Nat} (v : Int64) (hk : k ≤ n) (hq : q < B ∨ B + n < q) : rw_ins f B k n v q = f q := by
  unfold rw_ins vp_updL rw_sh
  rw [if_neg (by omega), if_neg (by omega)]
def srt (f : Nat → Int64) (B n : Nat) : Prop := ∀ a b, a < b → b < n → (f (B + a)).toInt < (f (B + b)).toInt
def inrow (f : Nat → Int64) (B n : Nat) (v : Int64) : Prop := ∃ a, a < n ∧ f (B + a) = v
section
variable {f g : Nat → Int64} {B C k n m : Nat} {v : Int64}
theorem srt_below (h : srt f B n) (hk : k ≤ n) (lo : k = 0 ∨ (f (B + (k - 1))).toInt < v.toInt) (a : Nat) (ha : a < k) : (f (B + a)).toInt < v.toInt := by
  rcases lo with rfl | lo
  · omega
  · by_cases h2 : a = k - 1
    · rw [h2]; exact lo
    · exact Int.lt_trans (h a (k - 1) (by omega) (by omega)) lo
theorem srt_ins (h : srt f B n) (hk : k ≤ n) (hi : ∀ a : Nat, k ≤ a → a < n → v.toInt < (f (B + a)).toInt) (lo : k = 0 ∨ (f (B + (k - 1))).toInt < v.toInt) : srt (rw_ins f B k n v) B (n + 1) := by
  have bl := srt_below h hk lo
  intro a b hab hb
  rw [rw_ins_at, rw_ins_at]
  by_cases hbk : b = k
  · rw [if_pos hbk, if_neg (by omega), if_neg (by omega)]
    exact bl a (by omega)
  rw [if_neg hbk]
  by_cases hb2 : k < b ∧ b ≤ n
  · rw [if_pos hb2]
    by_cases hak : a = k
    · rw [if_pos hak]
      exact hi _ (by omega) (by omega)
    · rw [if_neg hak]
      by_cases ha2 : k < a ∧ a ≤ n
      · rw [if_pos ha2]
        exact h _ _ (by omega) (by omega)
      · rw [if_neg ha2]
        exact h _ _ (by omega) (by omega)
  · rw [if_neg hb2, if_neg (by omega), if_neg (by omega)]
    exact h _ _ hab (by omega)
theorem in_ins (hk : k ≤ n) (w : Int64) : inrow (rw_ins f B k n v) B (n + 1) w ↔ inrow f B n w ∨ w = v := by
  constructor
  · rintro ⟨a, ha, hw⟩
    rw [rw_ins_at] at hw
    split at hw
    · exact Or.inr hw.symm
    · split at hw
      · exact Or.inl ⟨a - 1, by omega, hw⟩
      · exact Or.inl ⟨a, by omega, hw⟩
  · rintro (⟨a, ha, hw⟩ | rfl)
    · by_cases h : a < k
      · exact ⟨a, by omega, by rw [rw_ins_at, if_neg (by omega), if_neg (by omega)]; exact hw⟩
      · exact ⟨a + 1, by omega, by rw [rw_ins_at, if_neg (by omega), if_pos (by omega), Nat.add_sub_cancel]; exact hw⟩
    · exact ⟨k, by omega, by rw [rw_ins_at, if_pos rfl]⟩
/-- two rows that rise and hold the same are the same -/
theorem srt_inj (h : srt f B n) {a b : Nat} (ha : a < n) (hb : b < n) (e : f (B + a) = f (B + b)) : a = b := by
  rcases Nat.lt_trichotomy a b with h2 | h2 | h2
  · have := h a b h2 hb
    rw [e] at this
    omega
  · exact h2
  · have := h b a h2 ha
    rw [e] at this
    omega
theorem srt_le (h : srt f B n) (h2 : srt g C m) (hs : ∀ v, inrow f B n v → inrow g C m v) : ∀ a, a < n → a < m ∧ (g (C + a)).toInt ≤ (f (B + a)).toInt := by
  intro a
  induction a with
  | zero =>
    intro ha
    obtain ⟨b, hb, e⟩ := hs _ ⟨0, ha, rfl⟩
    refine ⟨by omega, ?_⟩
    rw [← e]
    by_cases hb0 : b = 0
    · rw [hb0]
      exact Int.le_refl _
    · exact Int.le_of_lt (h2 0 b (by omega) hb)
  | succ a ih =>
    intro ha
    obtain ⟨i1, i2⟩ := ih (by omega)
    obtain ⟨b, hb, e⟩ := hs _ ⟨a + 1, ha, rfl⟩
    have hab : a < b := by
      apply Classical.byContradiction
      intro hn
      have h3 := h a (a + 1) (by omega) ha
      rw [← e] at h3
      by_cases hba : b = a
      · rw [hba] at h3; omega
      · have := h2 b a (by omega) i1
        omega
    refine ⟨by omega, ?_⟩
    rw [← e]
    by_cases hb2 : b = a + 1
    · rw [hb2]
      exact Int.le_refl _
    · exact Int.le_of_lt (h2 (a + 1) b (by omega) hb)
theorem srt_same (h : srt f B n) (h2 : srt g C m) (hs : ∀ v, inrow f B n v ↔ inrow g C m v) : n = m ∧ ∀ a, a < n → f (B + a) = g (C + a) := by
  have l1 := srt_le h h2 fun v => (hs v).mp
  have l2 := srt_le h2 h fun v => (hs v).mpr
  have hnm : n = m := by
    apply Classical.byContradiction
    intro hn
    rcases Nat.lt_or_gt_of_ne hn with h3 | h3
    · have := (l2 n h3).1; omega
    · have := (l1 m h3).1; omega
  refine ⟨hnm, fun a ha => Int64.toInt_inj.mp ?_⟩
  have := (l1 a ha).2
  have := (l2 a (by omega)).2
  omega
/-- few are told apart by few numbers -/
theorem srt_few (h : srt f B n) (w : Int64 → Nat) {K : Nat} (hw : ∀ a, a < n → w (f (B + a)) < K) (hi : ∀ a b, a < n → b < n → w (f (B + a)) = w (f (B + b)) → f (B + a) = f (B + b)) : n ≤ K := by
  have h1 := fs_pig K ((List.range n).map fun a => w (f (B + a))) (by
    refine List.Pairwise.map _ (R := fun a b => a < n ∧ b < n ∧ a ≠ b) (fun a b hab e => ?_) ?_
    · exact hab.2.2 (srt_inj h hab.1 hab.2.1 (hi a b hab.1 hab.2.1 e))
    · refine List.Pairwise.imp_of_mem (R := fun a b => a < b) ?_ List.pairwise_lt_range
      intro a b ha hb hab
      exact ⟨List.mem_range.mp ha, List.mem_range.mp hb, by omega⟩) (fun r hr => by
      obtain ⟨a, ha, rfl⟩ := List.mem_map.mp hr
      exact hw a (List.mem_range.mp ha))
  simpa using h1
end
