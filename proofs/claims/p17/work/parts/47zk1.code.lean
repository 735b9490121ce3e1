/-! A laying's code and its three numbers. -/
theorem ib_shl (a : Nat) : Int32.ofNat a <<< ((9 : Int32) &&& (31 : Int32)) = Int32.ofNat (a * 512) := by
  apply Int32.toBitVec_inj.mp
  rw [Int32.toBitVec_shiftLeft, show ((9 : Int32) &&& (31 : Int32)).toBitVec.smod 32 = 9#32 from by decide]
  apply BitVec.eq_of_toNat_eq
  rw [BitVec.shiftLeft_eq', BitVec.toNat_shiftLeft]
  show ((a % 2 ^ 32) <<< 9) % 2 ^ 32 = (a * 512) % 2 ^ 32
  rw [Nat.shiftLeft_eq]
  omega
theorem ib_or {a b : Nat} (hb : b < 512) (ha : a < 4194304) : Int32.ofNat (a * 512) ||| Int32.ofNat b = Int32.ofNat (a * 512 + b) := by
  apply Int32.toBitVec_inj.mp
  rw [Int32.toBitVec_or]
  apply BitVec.eq_of_toNat_eq
  rw [BitVec.toNat_or]
  show (a * 512) % 2 ^ 32 ||| b % 2 ^ 32 = (a * 512 + b) % 2 ^ 32
  rw [Nat.mod_eq_of_lt (by omega), Nat.mod_eq_of_lt (by omega), Nat.mod_eq_of_lt (by omega), Nat.mul_comm a 512]
  exact (Nat.two_pow_add_eq_or_of_lt (i := 9) hb a).symm
theorem ib_and (u : Nat) : Int32.ofNat u &&& (511 : Int32) = Int32.ofNat (u % 512) := by
  apply Int32.toBitVec_inj.mp
  rw [Int32.toBitVec_and]
  apply BitVec.eq_of_toNat_eq
  rw [BitVec.toNat_and]
  show (u % 2 ^ 32) &&& (2 ^ 9 - 1) = (u % 512) % 2 ^ 32
  rw [Nat.and_two_pow_sub_one_eq_mod]
  omega
theorem ib_shr {v : Nat} {s : Int32} {n : Nat} (hv : v < 2147483648) (hs : s.toBitVec.smod 32 = BitVec.ofNat 32 n) (hn : n < 32) : Int32.ofNat v >>> s = Int32.ofNat (v / 2 ^ n) := by
  have h2 : v / 2 ^ n ≤ v := Nat.div_le_self _ _
  apply Int32.toInt_inj.mp
  rw [io_ti (by omega)]
  show (Int32.ofNat v >>> s).toBitVec.toInt = _
  rw [Int32.toBitVec_shiftRight, hs]
  show ((Int32.ofNat v).toBitVec.sshiftRight (BitVec.ofNat 32 n).toNat).toInt = _
  rw [BitVec.toInt_sshiftRight, BitVec.toNat_ofNat, Nat.mod_eq_of_lt (by omega)]
  show (Int32.ofNat v).toInt >>> n = _
  rw [io_ti hv, Int.shiftRight_eq_div_pow]
  rfl
def ly_at (t : ly_t) (s : Nat) : Nat := if s = 0 then t.1 else if s = 1 then t.2.1 else t.2.2
theorem ly_c_is {t : ly_t} (h1 : t.1 < 512) (h2 : t.2.1 < 512) (h3 : t.2.2 < 512) : ly_c t = Int32.ofNat ((t.1 * 512 + t.2.1) * 512 + t.2.2) := by
  unfold ly_c
  rw [ib_shl, ib_or h2 (by omega), ib_shl, ib_or h3 (by omega)]
theorem ly_spot {t : ly_t} {s : Nat} (h1 : t.1 < 512) (h2 : t.2.1 < 512) (h3 : t.2.2 < 512) (hs : s < 3) : ((ly_c t >>> (((9 : Int32) * ((2 : Int32) - Int32.ofNat s)) &&& (31 : Int32))) &&& (511 : Int32)) = Int32.ofNat (ly_at t s) := by
  rw [ly_c_is h1 h2 h3]
  have hh : s = 0 ∨ s = 1 ∨ s = 2 := by omega
  rcases hh with rfl | rfl | rfl
  · rw [ib_shr (n := 18) (by omega) (by decide) (by decide), ib_and]
    unfold ly_at
    rw [if_pos rfl]
    congr 1
    omega
  · rw [ib_shr (n := 9) (by omega) (by decide) (by decide), ib_and]
    unfold ly_at
    rw [if_neg (by decide), if_pos rfl]
    congr 1
    omega
  · rw [ib_shr (n := 0) (by omega) (by decide) (by decide), ib_and]
    unfold ly_at
    rw [if_neg (by decide), if_neg (by decide)]
    congr 1
    omega
/-- each laying's numbers lie below the rows' lengths -/
theorem ly_3b {q : Nat → Nat → Nat → Bool} {a b : Nat} : ∀ n t, t ∈ ly_3 q a b n → t.1 = a ∧ t.2.1 = b ∧ t.2.2 < n := by
  intro n
  induction n with
  | zero => intro t ht; cases ht
  | succ n ih =>
    intro t ht
    unfold ly_3 at ht
    rcases List.mem_append.mp ht with h | h
    · obtain ⟨h1, h2, h3⟩ := ih t h
      exact ⟨h1, h2, by omega⟩
    · cases hq : q a b n with
      | false => rw [hq] at h; cases h
      | true =>
        rw [hq] at h
        obtain rfl := List.mem_singleton.mp h
        exact ⟨rfl, rfl, Nat.lt_succ_self n⟩
theorem ly_2b {p : Nat → Nat → Bool} {q : Nat → Nat → Nat → Bool} {n2 a : Nat} : ∀ n t, t ∈ ly_2 p q n2 a n → t.1 = a ∧ t.2.1 < n ∧ t.2.2 < n2 := by
  intro n
  induction n with
  | zero => intro t ht; cases ht
  | succ n ih =>
    intro t ht
    unfold ly_2 at ht
    rcases List.mem_append.mp ht with h | h
    · obtain ⟨h1, h2, h3⟩ := ih t h
      exact ⟨h1, by omega, h3⟩
    · cases hq : p a n with
      | false => rw [hq] at h; cases h
      | true =>
        rw [hq] at h
        obtain ⟨h1, h2, h3⟩ := ly_3b n2 t h
        exact ⟨h1, by omega, h3⟩
theorem ly_1b {p : Nat → Nat → Bool} {q : Nat → Nat → Nat → Bool} {n1 n2 : Nat} : ∀ n t, t ∈ ly_1 p q n1 n2 n → t.1 < n ∧ t.2.1 < n1 ∧ t.2.2 < n2 := by
  intro n
  induction n with
  | zero => intro t ht; cases ht
  | succ n ih =>
    intro t ht
    unfold ly_1 at ht
    rcases List.mem_append.mp ht with h | h
    · obtain ⟨h1, h2, h3⟩ := ih t h
      exact ⟨by omega, h2, h3⟩
    · obtain ⟨h1, h2, h3⟩ := ly_2b n1 t h
      exact ⟨by omega, h2, h3⟩
