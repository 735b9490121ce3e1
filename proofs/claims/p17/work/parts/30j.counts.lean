/-! How many of a row answer one thing; what a called cell answers. -/
def nd_cnt (p : Nat → Int32) (a : Nat) (v : Int32) : Nat → Nat
  | 0 => 0
  | n + 1 => nd_cnt p a v n + if p (a + n) = v then 1 else 0
theorem nd_cnt_s (p : Nat → Int32) (a : Nat) (v : Int32) (n : Nat) : nd_cnt p a v (n + 1) = nd_cnt p a v n + if p (a + n) = v then 1 else 0 := rfl
theorem nd_cnt_y {p : Nat → Int32} {a n : Nat} {v : Int32} (h : p (a + n) = v) : nd_cnt p a v (n + 1) = nd_cnt p a v n + 1 := by rw [nd_cnt_s, if_pos h]
theorem nd_cnt_n {p : Nat → Int32} {a n : Nat} {v : Int32} (h : ¬ p (a + n) = v) : nd_cnt p a v (n + 1) = nd_cnt p a v n := by rw [nd_cnt_s, if_neg h, Nat.add_zero]
theorem nd_cnt_sum (p : Nat → Int32) (a : Nat) (h : ∀ i, p i = 0 ∨ p i = 1 ∨ p i = 2) : ∀ n, nd_cnt p a 0 n + nd_cnt p a 1 n + nd_cnt p a 2 n = n := by
  intro n
  induction n with
  | zero => rfl
  | succ n ih =>
    rcases h (a + n) with e | e | e
    · rw [nd_cnt_y e, nd_cnt_n (v := 1) (by rw [e]; decide), nd_cnt_n (v := 2) (by rw [e]; decide)]
      omega
    · rw [nd_cnt_y e, nd_cnt_n (v := 0) (by rw [e]; decide), nd_cnt_n (v := 2) (by rw [e]; decide)]
      omega
    · rw [nd_cnt_y e, nd_cnt_n (v := 0) (by rw [e]; decide), nd_cnt_n (v := 1) (by rw [e]; decide)]
      omega
theorem nd_cnt_all {p : Nat → Int32} {a : Nat} {v : Int32} : ∀ n, (∀ i, i < n → p (a + i) = v) → nd_cnt p a v n = n := by
  intro n
  induction n with
  | zero => exact fun _ => rfl
  | succ n ih =>
    intro h
    rw [nd_cnt_y (h n (by omega)), ih fun i hi => h i (by omega)]
theorem nd_cnt_mono (p : Nat → Int32) (a : Nat) (v : Int32) : ∀ d n, nd_cnt p a v n ≤ nd_cnt p a v (n + d) := by
  intro d
  induction d with
  | zero => exact fun n => Nat.le_refl _
  | succ d ih =>
    intro n
    rw [← Nat.add_assoc, nd_cnt_s]
    have := ih n
    omega
theorem nd_cnt_le (p : Nat → Int32) (a : Nat) (v : Int32) : ∀ n, nd_cnt p a v n ≤ n := by
  intro n
  induction n with
  | zero => exact Nat.le_refl _
  | succ n ih =>
    rw [nd_cnt_s]
    split <;> omega
/-- what a laying answers, by the world alone -/
def pl_P (I : Nat → Nat → Int32) (J : Nat → Nat → Int64) (k cell : Int32) (cd : Int64) : Int32 := pl_F I J k cell cd (I 35 3).toInt.toNat 0
theorem pl_P_r (I : Nat → Nat → Int32) (J : Nat → Nat → Int64) (k cell : Int32) (cd : Int64) : pl_P I J k cell cd = 0 ∨ pl_P I J k cell cd = 1 ∨ pl_P I J k cell cd = 2 := pl_F_r I J k cell cd _ _
theorem pl_F_congr {I I' : Nat → Nat → Int32} {J J' : Nat → Nat → Int64} (h7 : I' 35 7 = I 35 7) (h41 : I' 41 = I 41) (hJ : J' 39 = J 39) (k cell : Int32) (cd : Int64) : ∀ (r : Nat) (s : Int32), pl_F I' J' k cell cd r s = pl_F I J k cell cd r s := by
  intro r
  induction r with
  | zero => exact fun _ => rfl
  | succ r ih =>
    intro s
    unfold pl_F pl_hit pl_set
    rw [h7, h41, hJ, ih (s + 1)]
theorem pl_P_congr {I I' : Nat → Nat → Int32} {J J' : Nat → Nat → Int64} (h3 : I' 35 3 = I 35 3) (h7 : I' 35 7 = I 35 7) (h41 : I' 41 = I 41) (hJ : J' 39 = J 39) (k cell : Int32) (cd : Int64) : pl_P I' J' k cell cd = pl_P I J k cell cd := by
  unfold pl_P
  rw [h3]
  exact pl_F_congr h7 h41 hJ k cell cd _ _
theorem pl_hit_c (I : Nat → Nat → Int32) (set : Int64) (cell : Int32) (called : Int64) (h : ev_has called cell ≠ 0) : pl_hit I set cell called = 1 := by
  unfold pl_hit
  rw [if_neg h]
  split <;> rfl
theorem pl_F_01 (I : Nat → Nat → Int32) (J : Nat → Nat → Int64) (k cell : Int32) (called : Int64) (h : ev_has called cell ≠ 0) : ∀ (r : Nat) (s : Int32), pl_F I J k cell called r s = 0 ∨ pl_F I J k cell called r s = 1 := by
  intro r
  induction r with
  | zero => exact fun s => Or.inl rfl
  | succ r ih =>
    intro s
    unfold pl_F
    split
    · exact ih (s + 1)
    · exact Or.inr (pl_hit_c I _ cell called h)
/-- one that is called: agreed on before is agreed on after -/
theorem pl_P_now (I : Nat → Nat → Int32) (J : Nat → Nat → Int64) (a b cell : Int32) (cd cd2 : Int64) (h2 : ev_has cd2 cell ≠ 0) (h : pl_P I J a cell cd = pl_P I J b cell cd) : pl_P I J a cell cd2 = pl_P I J b cell cd2 := by
  have ha := pl_F_agree I J cell cd cd2 h2 (I 35 3).toInt.toNat a b 0
  have hb := pl_F_agree I J cell cd cd2 h2 (I 35 3).toInt.toNat b b 0
  unfold pl_P at h ⊢
  rw [h] at ha
  rcases pl_F_01 I J a cell cd2 h2 (I 35 3).toInt.toNat 0 with e | e
  · rw [e, hb.mp (ha.mpr e)]
  · rcases pl_F_01 I J b cell cd2 h2 (I 35 3).toInt.toNat 0 with e2 | e2
    · have := ha.mp (hb.mpr e2)
      rw [this] at e
      exact absurd e (by decide)
    · rw [e, e2]
theorem pl_P_then (I : Nat → Nat → Int32) (J : Nat → Nat → Int64) (a b cell : Int32) (cd cd2 : Int64) (h1 : ev_has cd cell ≠ 0) (h2 : ev_has cd2 cell ≠ 0) (h : pl_P I J a cell cd = pl_P I J b cell cd) : pl_P I J a cell cd2 = pl_P I J b cell cd2 := by
  unfold pl_P at h ⊢
  rw [pl_F_called I J a cell cd2 cd h2 h1, pl_F_called I J b cell cd2 cd h2 h1]
  exact h
/-! A cell that is called stays called. -/
theorem nd_or (u w o : Int64) (h : u &&& o = o) : (u ||| w) &&& o = o := by
  have h2 := congrArg Int64.toBitVec h
  apply Int64.toBitVec_inj.mp
  rw [Int64.toBitVec_and] at h2
  rw [Int64.toBitVec_and, Int64.toBitVec_or]
  generalize u.toBitVec = a at h2 ⊢
  generalize w.toBitVec = b at h2 ⊢
  generalize o.toBitVec = c at h2 ⊢
  apply BitVec.eq_of_getLsbD_eq
  intro i _
  have h3 := congrArg (fun z => BitVec.getLsbD z i) h2
  simp only [BitVec.getLsbD_and, BitVec.getLsbD_or] at h3 ⊢
  revert h3
  cases BitVec.getLsbD a i <;> cases BitVec.getLsbD b i <;> cases BitVec.getLsbD c i <;> decide
theorem nd_has_is (s : Int64) (k : Int32) : ev_has s k ≠ 0 ↔ (s >>> (k.toInt64 &&& 63)) &&& (1 : Int64) = 1 := by
  unfold ev_has
  split
  · rename_i h
    exact ⟨fun z => absurd rfl z, fun z => absurd ((fs_cmp _ _).2.mpr z) h⟩
  · rename_i h
    exact ⟨fun _ => (fs_cmp _ _).2.mp (Classical.not_not.mp h), fun _ => by decide⟩
theorem nd_has_or (s t : Int64) (k : Int32) (h : ev_has s k ≠ 0) : ev_has (s ||| t) k ≠ 0 := by
  rw [nd_has_is] at h ⊢
  rw [Int64.shiftRight_or]
  exact nd_or _ _ _ h
theorem nd_one : ∀ j, j < 36 → ((1 : Int64) <<< ((Int32.ofNat j).toInt64 &&& 63)) >>> ((Int32.ofNat j).toInt64 &&& 63) &&& (1 : Int64) = 1 := by decide +kernel
theorem nd_has_new (s : Int64) (b : Int32) (h : 0 ≤ b.toInt ∧ b.toInt < 36) : ev_has (s ||| ((1 : Int64) <<< (b.toInt64 &&& 63))) b ≠ 0 := by
  rw [nd_has_is, Int64.or_comm, Int64.shiftRight_or]
  refine nd_or _ _ _ ?_
  have e : b = Int32.ofNat b.toInt.toNat := Int32.toInt_inj.mp (by rw [Int32.toInt_ofNat_of_lt (by omega)]; omega)
  have := nd_one b.toInt.toNat (by omega)
  rw [← e] at this
  exact this
