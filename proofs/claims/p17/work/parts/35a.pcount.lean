/-! Bits of sets and shapes, and how many they are. -/
def kb (x : Int64) (n : Nat) : Bool := x.toBitVec.getLsbD n
def kbI (x : Int32) (n : Nat) : Bool := x.toBitVec.getLsbD n
theorem kb_and (x y : Int64) (n : Nat) : kb (x &&& y) n = (kb x n && kb y n) := by
  unfold kb
  rw [Int64.toBitVec_and, BitVec.getLsbD_and]
theorem kb_or (x y : Int64) (n : Nat) : kb (x ||| y) n = (kb x n || kb y n) := by
  unfold kb
  rw [Int64.toBitVec_or, BitVec.getLsbD_or]
theorem kb_ext {x y : Int64} (h : ∀ n, n < 64 → kb x n = kb y n) : x = y := Int64.toBitVec_inj.mp (BitVec.eq_of_getLsbD_eq fun n hn => h n hn)
theorem kb_hi {x : Int64} {k : Nat} (h : x.toBitVec.toNat < 2 ^ k) {n : Nat} (hn : k ≤ n) : kb x n = false := by
  show x.toBitVec.toNat.testBit n = false
  exact Nat.testBit_lt_two_pow (Nat.lt_of_lt_of_le h (Nat.pow_le_pow_right (by decide) hn))
theorem kb_0 (n : Nat) : kb 0 n = false := kb_hi (k := 0) (by decide) (Nat.zero_le n)
theorem kb_1 {n : Nat} (hn : 1 ≤ n) : kb 1 n = false := kb_hi (k := 1) (by decide) hn
theorem kb_64 (x : Int64) {n : Nat} (hn : 64 ≤ n) : kb x n = false := kb_hi x.toBitVec.isLt hn
theorem sh_6 : ∀ j, j < 64 → (((Int32.ofNat j).toInt64 &&& 63).toBitVec.smod 64).toNat = j := by decide +kernel
theorem sh_5 : ∀ j, j < 32 → ((Int32.ofNat j &&& 31).toBitVec.smod 32).toNat = j := by decide +kernel
/-- one cell -/
theorem kb_one {j : Nat} (hj : j < 64) (n : Nat) : kb ((1 : Int64) <<< ((Int32.ofNat j).toInt64 &&& 63)) n = decide (n = j) := by
  unfold kb
  rw [Int64.toBitVec_shiftLeft, BitVec.shiftLeft_eq', sh_6 j hj, BitVec.getLsbD_shiftLeft]
  show (decide (n < 64) && !decide (n < j) && kb 1 (n - j)) = _
  by_cases h1 : n = j
  · subst h1
    rw [decide_eq_true hj, decide_eq_false (Nat.lt_irrefl _), Nat.sub_self, show kb 1 0 = true from by decide, decide_eq_true rfl]
    rfl
  · rw [decide_eq_false h1]
    by_cases h2 : n < j
    · rw [decide_eq_true h2]
      cases decide (n < 64) <;> rfl
    · rw [kb_1 (by omega), Bool.and_false]
theorem kb_sar0 (z : Int64) {j : Nat} (hj : j < 64) : kb (z >>> ((Int32.ofNat j).toInt64 &&& 63)) 0 = kb z j := by
  unfold kb
  rw [Int64.toBitVec_shiftRight, BitVec.getLsbD_sshiftRight', sh_6 j hj, Nat.add_zero, if_pos hj]
  rfl
theorem kb_and1 (u : Int64) : (u &&& (1 : Int64) = 1) ↔ kb u 0 = true := by
  constructor
  · intro h
    have h2 : kb (u &&& (1 : Int64)) 0 = kb 1 0 := by rw [h]
    rw [kb_and, show kb 1 0 = true from by decide, Bool.and_true] at h2
    exact h2
  · intro h
    refine kb_ext fun n _ => ?_
    rw [kb_and]
    cases n with
    | zero => rw [h]; rfl
    | succ n => rw [kb_1 (by omega), Bool.and_false]
theorem has_kb (z : Int64) {j : Nat} (hj : j < 64) : ev_has z (Int32.ofNat j) = 0 ↔ kb z j = false := by
  have h := nd_has_is z (Int32.ofNat j)
  rw [kb_and1, kb_sar0 z hj] at h
  constructor
  · intro h0
    cases hb : kb z j with
    | false => rfl
    | true => exact absurd h0 (h.mpr hb)
  · intro h0
    apply Classical.byContradiction
    intro hn
    rw [h.mp hn] at h0
    cases h0
theorem kbI_ext {x y : Int32} (h : ∀ n, n < 32 → kbI x n = kbI y n) : x = y := Int32.toBitVec_inj.mp (BitVec.eq_of_getLsbD_eq fun n hn => h n hn)
theorem kbI_hi {x : Int32} {k : Nat} (h : x.toBitVec.toNat < 2 ^ k) {n : Nat} (hn : k ≤ n) : kbI x n = false := by
  show x.toBitVec.toNat.testBit n = false
  exact Nat.testBit_lt_two_pow (Nat.lt_of_lt_of_le h (Nat.pow_le_pow_right (by decide) hn))
theorem kbI_or (x y : Int32) (n : Nat) : kbI (x ||| y) n = (kbI x n || kbI y n) := by
  unfold kbI
  rw [Int32.toBitVec_or, BitVec.getLsbD_or]
theorem kbI_and (x y : Int32) (n : Nat) : kbI (x &&& y) n = (kbI x n && kbI y n) := by
  unfold kbI
  rw [Int32.toBitVec_and, BitVec.getLsbD_and]
theorem kbI_sar0 (z : Int32) {j : Nat} (hj : j < 32) : kbI (z >>> (Int32.ofNat j &&& 31)) 0 = kbI z j := by
  unfold kbI
  rw [Int32.toBitVec_shiftRight, BitVec.getLsbD_sshiftRight', sh_5 j hj, Nat.add_zero, if_pos hj]
  rfl
theorem kbI_and1 (u : Int32) : (u &&& (1 : Int32)) = bif kbI u 0 then 1 else 0 := by
  refine kbI_ext fun n _ => ?_
  rw [kbI_and]
  cases n with
  | zero => cases kbI u 0 <;> decide
  | succ n =>
    rw [kbI_hi (x := 1) (k := 1) (by decide) (by omega), Bool.and_false]
    cases kbI u 0
    · exact (kbI_hi (x := 0) (k := 0) (by decide) (by omega)).symm
    · exact (kbI_hi (x := 1) (k := 1) (by decide) (by omega)).symm
theorem kbI_of {s : Nat} (hs : s < 65536) {j : Nat} : kbI (Int32.ofNat s) j = s.testBit j := by
  show (BitVec.ofNat 32 s).toNat.testBit j = _
  rw [BitVec.toNat_ofNat, Nat.mod_eq_of_lt (by omega)]
theorem kb_of {s : Nat} (hs : s < 65536) {j : Nat} : kb (Int32.ofNat s).toInt64 j = s.testBit j := by
  have e : (Int32.ofNat s).toInt64 = Int64.ofNat s := Int64.toInt_inj.mp (by rw [Int32.toInt_toInt64, Int32.toInt_ofNat_of_lt (by omega), Int64.toInt_ofNat_of_lt (by omega)])
  rw [e]
  show (BitVec.ofNat 64 s).toNat.testBit j = _
  rw [BitVec.toNat_ofNat, Nat.mod_eq_of_lt (by omega)]
/-! counted from the top -/
theorem pc_top : ∀ k n, pc (k + 1) n = pc k n + (bif n.testBit k then 1 else 0) := by
  intro k
  induction k with
  | zero =>
    intro n
    show n % 2 + 0 = 0 + _
    rw [Nat.testBit_zero]
    rcases Nat.mod_two_eq_zero_or_one n with h | h <;> rw [h] <;> rfl
  | succ k ih =>
    intro n
    show n % 2 + pc (k + 1) (n / 2) = (n % 2 + pc k (n / 2)) + _
    rw [ih (n / 2), Nat.testBit_succ]
    omega
theorem pc_le : ∀ k n, pc k n ≤ k := by
  intro k
  induction k with
  | zero => exact fun _ => Nat.le_refl _
  | succ k ih =>
    intro n
    have := ih (n / 2)
    show n % 2 + pc k (n / 2) ≤ k + 1
    omega
theorem pc_add {p n n' : Nat} : ∀ k, (∀ i, i < k → n'.testBit i = (n.testBit i || decide (i = p))) → pc k n' = pc k n + (bif decide (p < k) && !n.testBit p then 1 else 0) := by
  intro k
  induction k with
  | zero => exact fun _ => rfl
  | succ k ih =>
    intro h
    rw [pc_top, pc_top, ih fun i hi => h i (by omega), h k (by omega)]
    by_cases hp : k = p
    · subst hp
      rw [decide_eq_false (Nat.lt_irrefl _), decide_eq_true rfl, decide_eq_true (show k < k + 1 by omega)]
      cases n.testBit k <;> rfl
    · rw [decide_eq_false hp, Bool.or_false]
      by_cases h2 : p < k
      · rw [decide_eq_true h2, decide_eq_true (show p < k + 1 by omega)]
        omega
      · rw [decide_eq_false h2, decide_eq_false (show ¬ p < k + 1 by omega)]
        omega
theorem pc_zero : ∀ k, pc k 0 = 0 := by
  intro k
  induction k with
  | zero => rfl
  | succ k ih => show 0 % 2 + pc k (0 / 2) = 0; rw [ih]
theorem pc_more {n : Nat} : ∀ k d, n < 2 ^ k → pc (k + d) n = pc k n := by
  intro k d
  induction d with
  | zero => exact fun _ => rfl
  | succ d ih =>
    intro h
    rw [← Nat.add_assoc, pc_top, ih h, Nat.testBit_lt_two_pow (Nat.lt_of_lt_of_le h (Nat.pow_le_pow_right (by decide) (by omega)))]
    rfl
def pcJ (z : Int64) : Nat := pc 64 z.toBitVec.toNat
theorem pcJ_bc (z : Int64) : ev_bcJ z = Int32.ofNat (pcJ z) := by
  have e : z = Int64.ofNat z.toBitVec.toNat := Int64.toBitVec_inj.mp (by
    show z.toBitVec = BitVec.ofNat 64 z.toBitVec.toNat
    rw [BitVec.ofNat_toNat, BitVec.setWidth_eq])
  unfold pcJ
  rw [← sc_bcJ z.toBitVec.isLt, ← e]
theorem pcJ_le (z : Int64) : pcJ z ≤ 64 := pc_le 64 _
/-- one cell more -/
theorem pcJ_or (z : Int64) {j : Nat} (hj : j < 64) : pcJ (z ||| ((1 : Int64) <<< ((Int32.ofNat j).toInt64 &&& 63))) = pcJ z + (bif kb z j then 0 else 1) := by
  have h : ∀ i, i < 64 → (z ||| ((1 : Int64) <<< ((Int32.ofNat j).toInt64 &&& 63))).toBitVec.toNat.testBit i = (z.toBitVec.toNat.testBit i || decide (i = j)) := by
    intro i _
    have e := kb_or z ((1 : Int64) <<< ((Int32.ofNat j).toInt64 &&& 63)) i
    rw [kb_one hj i] at e
    exact e
  unfold pcJ
  rw [pc_add 64 h, decide_eq_true hj]
  show _ = pc 64 z.toBitVec.toNat + (bif z.toBitVec.toNat.testBit j then 0 else 1)
  cases z.toBitVec.toNat.testBit j <;> rfl
theorem sb_cnt_pc (s : Nat) : ∀ r j n, sb_cnt s r j n = n + pc r (s >>> j) := by
  intro r
  induction r with
  | zero => exact fun _ _ => rfl
  | succ r ih =>
    intro j n
    show sb_cnt s r (j + 1) (n + (s >>> j) % 2) = n + ((s >>> j) % 2 + pc r ((s >>> j) / 2))
    rw [ih, Nat.shiftRight_succ, Nat.add_assoc]
theorem bcI_pc {s : Nat} (hs : s < 65536) : ev_bcI (Int32.ofNat s) = Int32.ofNat (pc 16 s) := by
  rw [sb_bcI hs, ← sb_eq hs, sb_cnt_pc, Nat.zero_add, Nat.shiftRight_zero, show (36 : Nat) = 16 + 20 from rfl, pc_more 16 20 hs]
