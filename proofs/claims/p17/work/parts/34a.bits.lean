/-! How many bits a shape has: the JDK's count and the reference's are one. -/
def sb_x1 (s : Nat) : Nat := s - ((s >>> 1) &&& 1431655765)
def sb_x2 (s : Nat) : Nat := (s &&& 858993459) + ((s >>> 2) &&& 858993459)
def sb_x3 (s : Nat) : Nat := (s + (s >>> 4)) &&& 252645135
def sb_x4 (s : Nat) : Nat := s + (s >>> 8)
def sb_x5 (s : Nat) : Nat := s + (s >>> 16)
def sb_n (s : Nat) : Nat := sb_x5 (sb_x4 (sb_x3 (sb_x2 (sb_x1 s)))) &&& 63
theorem sb_and (a b : Nat) : Int32.ofNat a &&& Int32.ofNat b = Int32.ofNat (a &&& b) := by
  apply Int32.toBitVec_inj.1
  show BitVec.ofNat 32 a &&& BitVec.ofNat 32 b = BitVec.ofNat 32 (a &&& b)
  apply BitVec.eq_of_getLsbD_eq
  intro i hi
  simp [hi]
theorem sb_ush {s : Nat} (k : Nat) (hk : k < 32) (hs : s < 2 ^ 31) : ((Int32.ofNat s).toUInt32 >>> (UInt32.ofNat k)).toInt32 = Int32.ofNat (s >>> k) := by
  have h1 : s >>> k ≤ s := by rw [Nat.shiftRight_eq_div_pow]; exact Nat.div_le_self _ _
  have e : UInt32.ofNat s >>> UInt32.ofNat k = UInt32.ofNat (s >>> k) := UInt32.toNat_inj.mp (by
    rw [UInt32.toNat_shiftRight, UInt32.toNat_ofNat', UInt32.toNat_ofNat', UInt32.toNat_ofNat', Nat.mod_eq_of_lt (show s < 2 ^ 32 by omega), Nat.mod_eq_of_lt (show k < 2 ^ 32 by omega), Nat.mod_eq_of_lt hk, Nat.mod_eq_of_lt (show s >>> k < 2 ^ 32 by omega)])
  show (UInt32.ofNat s >>> UInt32.ofNat k).toInt32 = _
  rw [e]
  rfl
theorem sb_le (s k : Nat) : s >>> k ≤ s := by rw [Nat.shiftRight_eq_div_pow]; exact Nat.div_le_self _ _
theorem sb_1 {s : Nat} (hs : s < 2 ^ 31) : Int32.ofNat s - (((Int32.ofNat s).toUInt32 >>> 1).toInt32 &&& (1431655765 : Int32)) = Int32.ofNat (sb_x1 s) := by
  have e := sb_ush 1 (by decide) hs
  rw [show ((Int32.ofNat s).toUInt32 >>> 1).toInt32 = Int32.ofNat (s >>> 1) from e, show (1431655765 : Int32) = Int32.ofNat 1431655765 from rfl, sb_and]
  unfold sb_x1
  rw [Int32.ofNat_sub]
  exact Nat.le_trans Nat.and_le_left (sb_le s 1)
theorem sb_2 {s : Nat} (hs : s < 2 ^ 31) : (Int32.ofNat s &&& (858993459 : Int32)) + (((Int32.ofNat s).toUInt32 >>> 2).toInt32 &&& (858993459 : Int32)) = Int32.ofNat (sb_x2 s) := by
  have e := sb_ush 2 (by decide) hs
  rw [show ((Int32.ofNat s).toUInt32 >>> 2).toInt32 = Int32.ofNat (s >>> 2) from e, show (858993459 : Int32) = Int32.ofNat 858993459 from rfl, sb_and, sb_and, ← Int32.ofNat_add]
  rfl
theorem sb_3 {s : Nat} (hs : s < 2 ^ 31) : (Int32.ofNat s + ((Int32.ofNat s).toUInt32 >>> 4).toInt32) &&& (252645135 : Int32) = Int32.ofNat (sb_x3 s) := by
  have e := sb_ush 4 (by decide) hs
  rw [show ((Int32.ofNat s).toUInt32 >>> 4).toInt32 = Int32.ofNat (s >>> 4) from e, show (252645135 : Int32) = Int32.ofNat 252645135 from rfl, ← Int32.ofNat_add, sb_and]
  rfl
theorem sb_4 {s : Nat} (hs : s < 2 ^ 31) : Int32.ofNat s + ((Int32.ofNat s).toUInt32 >>> 8).toInt32 = Int32.ofNat (sb_x4 s) := by
  have e := sb_ush 8 (by decide) hs
  rw [show ((Int32.ofNat s).toUInt32 >>> 8).toInt32 = Int32.ofNat (s >>> 8) from e, ← Int32.ofNat_add]
  rfl
theorem sb_5 {s : Nat} (hs : s < 2 ^ 31) : (Int32.ofNat s + ((Int32.ofNat s).toUInt32 >>> 16).toInt32) &&& (63 : Int32) = Int32.ofNat (sb_x5 s &&& 63) := by
  have e := sb_ush 16 (by decide) hs
  rw [show ((Int32.ofNat s).toUInt32 >>> 16).toInt32 = Int32.ofNat (s >>> 16) from e, show (63 : Int32) = Int32.ofNat 63 from rfl, ← Int32.ofNat_add, sb_and]
  rfl
theorem sb_bcI {s : Nat} (hs : s < 65536) : ev_bcI (Int32.ofNat s) = Int32.ofNat (sb_n s) := by
  have b1 : sb_x1 s ≤ s := Nat.sub_le _ _
  have b2 : sb_x2 (sb_x1 s) ≤ sb_x1 s + sb_x1 s := Nat.add_le_add Nat.and_le_left (Nat.le_trans Nat.and_le_left (sb_le _ _))
  have b3 : sb_x3 (sb_x2 (sb_x1 s)) ≤ sb_x2 (sb_x1 s) + sb_x2 (sb_x1 s) := Nat.le_trans Nat.and_le_left (Nat.add_le_add_left (sb_le _ _) _)
  have b4 : sb_x4 (sb_x3 (sb_x2 (sb_x1 s))) ≤ sb_x3 (sb_x2 (sb_x1 s)) + sb_x3 (sb_x2 (sb_x1 s)) := Nat.add_le_add_left (sb_le _ _) _
  unfold ev_bcI
  rw [sb_1 (by omega), sb_2 (by omega), sb_3 (by omega), sb_4 (by omega), sb_5 (by omega)]
  rfl
/-- the reference's count, over naturals -/
def sb_cnt (s : Nat) : Nat → Nat → Nat → Nat
  | 0, _, n => n
  | r + 1, k, n => sb_cnt s r (k + 1) (n + (s >>> k) % 2)
theorem sb_c36 : ∀ j, j < 36 → ((Int32.ofNat j).toInt64 &&& 63) = Int64.ofNat j := by decide +kernel
theorem sb_d36 : ∀ j, j < 36 → ((Int64.ofNat j).toBitVec.smod 64).toNat = j := by decide +kernel
theorem sb_toInt {a : Nat} (h : a < 2 ^ 63) : (Int64.ofNat a).toInt = (a : Int) := Int64.toInt_ofNat_of_lt h
theorem sb_shr {a j : Nat} (hj : j < 36) (h : a < 2 ^ 62) : Int64.ofNat a >>> Int64.ofNat j = Int64.ofNat (a >>> j) := by
  have hd : a >>> j ≤ a := sb_le a j
  apply Int64.toInt_inj.mp
  have e : (Int64.ofNat a >>> Int64.ofNat j).toInt = (Int64.ofNat a).toInt >>> j := by
    have h2 := sb_d36 j hj
    show ((Int64.ofNat a).toBitVec.sshiftRight ((Int64.ofNat j).toBitVec.smod 64).toNat).toInt = (Int64.ofNat a).toBitVec.toInt >>> j
    rw [h2, BitVec.toInt_sshiftRight]
  rw [e, Int.shiftRight_eq_div_pow, sb_toInt (by omega), sb_toInt (by omega), Nat.shiftRight_eq_div_pow]
  rfl
theorem sb_and1 (a : Nat) : Int64.ofNat a &&& (1 : Int64) = Int64.ofNat (a % 2) := by
  apply Int64.toBitVec_inj.1
  show BitVec.ofNat 64 a &&& BitVec.ofNat 64 1 = BitVec.ofNat 64 (a % 2)
  apply BitVec.eq_of_toNat_eq
  rw [BitVec.toNat_and, BitVec.toNat_ofNat, BitVec.toNat_ofNat, BitVec.toNat_ofNat]
  show a % 2 ^ 64 &&& 1 = a % 2 % 2 ^ 64
  rw [show (1 : Nat) = 2 ^ 1 - 1 from rfl, Nat.and_two_pow_sub_one_eq_mod]
  omega
theorem sb_has {s j : Nat} (hs : s < 65536) (hj : j < 36) : ev_has (Int64.ofNat s) (Int32.ofNat j) = Int32.ofNat ((s >>> j) % 2) := by
  unfold ev_has
  rw [sb_c36 j hj, sb_shr hj (by omega), sb_and1]
  rcases Nat.mod_two_eq_zero_or_one (s >>> j) with h | h <;> rw [h] <;> decide +kernel
theorem sb_bitsF {s : Nat} (hs : s < 65536) : ∀ r j n, j + r = 36 → ev_bitsF (Int64.ofNat s) r (Int32.ofNat j) (Int32.ofNat n) = Int32.ofNat (sb_cnt s r j n) := by
  intro r
  induction r with
  | zero => intro j n h; rfl
  | succ r ih =>
    intro j n h
    show ev_bitsF (Int64.ofNat s) r (Int32.ofNat j + 1) (Int32.ofNat n + ev_has (Int64.ofNat s) (Int32.ofNat j)) = _
    rw [sb_has hs (by omega), ← Int32.ofNat_add, show Int32.ofNat j + 1 = Int32.ofNat (j + 1) from (Int32.ofNat_add j 1).symm, ih _ _ (by omega)]
    rfl
def sb_all (lo n : Nat) : Bool := Nat.rec (motive := fun _ => Bool) true (fun i ih => bif Nat.beq (sb_cnt (lo + i) 36 0 0) (sb_n (lo + i)) then ih else false) n
theorem sb_all_s {lo : Nat} : ∀ n, sb_all lo n = true → ∀ i, i < n → sb_cnt (lo + i) 36 0 0 = sb_n (lo + i) := by
  intro n
  induction n with
  | zero => intro _ i hi; omega
  | succ n ih =>
    intro h i hi
    have h' : (bif Nat.beq (sb_cnt (lo + n) 36 0 0) (sb_n (lo + n)) then sb_all lo n else false) = true := h
    cases hb : Nat.beq (sb_cnt (lo + n) 36 0 0) (sb_n (lo + n)) with
    | false => rw [hb] at h'; cases h'
    | true =>
      rw [hb] at h'
      by_cases hz : i = n
      · rw [hz]; exact Nat.eq_of_beq_eq_true hb
      · exact ih h' i (by omega)
set_option maxRecDepth 100000 in
theorem sb_k0 : sb_all 0 2048 = true := by decide +kernel
set_option maxRecDepth 100000 in
theorem sb_k1 : sb_all 2048 2048 = true := by decide +kernel
set_option maxRecDepth 100000 in
theorem sb_k2 : sb_all 4096 2048 = true := by decide +kernel
set_option maxRecDepth 100000 in
theorem sb_k3 : sb_all 6144 2048 = true := by decide +kernel
set_option maxRecDepth 100000 in
theorem sb_k4 : sb_all 8192 2048 = true := by decide +kernel
set_option maxRecDepth 100000 in
theorem sb_k5 : sb_all 10240 2048 = true := by decide +kernel
set_option maxRecDepth 100000 in
theorem sb_k6 : sb_all 12288 2048 = true := by decide +kernel
set_option maxRecDepth 100000 in
theorem sb_k7 : sb_all 14336 2048 = true := by decide +kernel
set_option maxRecDepth 100000 in
theorem sb_k8 : sb_all 16384 2048 = true := by decide +kernel
set_option maxRecDepth 100000 in
theorem sb_k9 : sb_all 18432 2048 = true := by decide +kernel
set_option maxRecDepth 100000 in
theorem sb_k10 : sb_all 20480 2048 = true := by decide +kernel
set_option maxRecDepth 100000 in
theorem sb_k11 : sb_all 22528 2048 = true := by decide +kernel
set_option maxRecDepth 100000 in
theorem sb_k12 : sb_all 24576 2048 = true := by decide +kernel
set_option maxRecDepth 100000 in
theorem sb_k13 : sb_all 26624 2048 = true := by decide +kernel
set_option maxRecDepth 100000 in
theorem sb_k14 : sb_all 28672 2048 = true := by decide +kernel
set_option maxRecDepth 100000 in
theorem sb_k15 : sb_all 30720 2048 = true := by decide +kernel
set_option maxRecDepth 100000 in
theorem sb_k16 : sb_all 32768 2048 = true := by decide +kernel
set_option maxRecDepth 100000 in
theorem sb_k17 : sb_all 34816 2048 = true := by decide +kernel
set_option maxRecDepth 100000 in
theorem sb_k18 : sb_all 36864 2048 = true := by decide +kernel
set_option maxRecDepth 100000 in
theorem sb_k19 : sb_all 38912 2048 = true := by decide +kernel
set_option maxRecDepth 100000 in
theorem sb_k20 : sb_all 40960 2048 = true := by decide +kernel
set_option maxRecDepth 100000 in
theorem sb_k21 : sb_all 43008 2048 = true := by decide +kernel
set_option maxRecDepth 100000 in
theorem sb_k22 : sb_all 45056 2048 = true := by decide +kernel
set_option maxRecDepth 100000 in
theorem sb_k23 : sb_all 47104 2048 = true := by decide +kernel
set_option maxRecDepth 100000 in
theorem sb_k24 : sb_all 49152 2048 = true := by decide +kernel
set_option maxRecDepth 100000 in
theorem sb_k25 : sb_all 51200 2048 = true := by decide +kernel
set_option maxRecDepth 100000 in
theorem sb_k26 : sb_all 53248 2048 = true := by decide +kernel
set_option maxRecDepth 100000 in
theorem sb_k27 : sb_all 55296 2048 = true := by decide +kernel
set_option maxRecDepth 100000 in
theorem sb_k28 : sb_all 57344 2048 = true := by decide +kernel
set_option maxRecDepth 100000 in
theorem sb_k29 : sb_all 59392 2048 = true := by decide +kernel
set_option maxRecDepth 100000 in
theorem sb_k30 : sb_all 61440 2048 = true := by decide +kernel
set_option maxRecDepth 100000 in
theorem sb_k31 : sb_all 63488 2048 = true := by decide +kernel
theorem sb_eq {s : Nat} (hs : s < 65536) : sb_cnt s 36 0 0 = sb_n s := by
  by_cases h0 : s < 2048
  · have h := sb_all_s _ sb_k0 (s - 0) (by omega)
    rwa [show 0 + (s - 0) = s by omega] at h
  by_cases h1 : s < 4096
  · have h := sb_all_s _ sb_k1 (s - 2048) (by omega)
    rwa [show 2048 + (s - 2048) = s by omega] at h
  by_cases h2 : s < 6144
  · have h := sb_all_s _ sb_k2 (s - 4096) (by omega)
    rwa [show 4096 + (s - 4096) = s by omega] at h
  by_cases h3 : s < 8192
  · have h := sb_all_s _ sb_k3 (s - 6144) (by omega)
    rwa [show 6144 + (s - 6144) = s by omega] at h
  by_cases h4 : s < 10240
  · have h := sb_all_s _ sb_k4 (s - 8192) (by omega)
    rwa [show 8192 + (s - 8192) = s by omega] at h
  by_cases h5 : s < 12288
  · have h := sb_all_s _ sb_k5 (s - 10240) (by omega)
    rwa [show 10240 + (s - 10240) = s by omega] at h
  by_cases h6 : s < 14336
  · have h := sb_all_s _ sb_k6 (s - 12288) (by omega)
    rwa [show 12288 + (s - 12288) = s by omega] at h
  by_cases h7 : s < 16384
  · have h := sb_all_s _ sb_k7 (s - 14336) (by omega)
    rwa [show 14336 + (s - 14336) = s by omega] at h
  by_cases h8 : s < 18432
  · have h := sb_all_s _ sb_k8 (s - 16384) (by omega)
    rwa [show 16384 + (s - 16384) = s by omega] at h
  by_cases h9 : s < 20480
  · have h := sb_all_s _ sb_k9 (s - 18432) (by omega)
    rwa [show 18432 + (s - 18432) = s by omega] at h
  by_cases h10 : s < 22528
  · have h := sb_all_s _ sb_k10 (s - 20480) (by omega)
    rwa [show 20480 + (s - 20480) = s by omega] at h
  by_cases h11 : s < 24576
  · have h := sb_all_s _ sb_k11 (s - 22528) (by omega)
    rwa [show 22528 + (s - 22528) = s by omega] at h
  by_cases h12 : s < 26624
  · have h := sb_all_s _ sb_k12 (s - 24576) (by omega)
    rwa [show 24576 + (s - 24576) = s by omega] at h
  by_cases h13 : s < 28672
  · have h := sb_all_s _ sb_k13 (s - 26624) (by omega)
    rwa [show 26624 + (s - 26624) = s by omega] at h
  by_cases h14 : s < 30720
  · have h := sb_all_s _ sb_k14 (s - 28672) (by omega)
    rwa [show 28672 + (s - 28672) = s by omega] at h
  by_cases h15 : s < 32768
  · have h := sb_all_s _ sb_k15 (s - 30720) (by omega)
    rwa [show 30720 + (s - 30720) = s by omega] at h
  by_cases h16 : s < 34816
  · have h := sb_all_s _ sb_k16 (s - 32768) (by omega)
    rwa [show 32768 + (s - 32768) = s by omega] at h
  by_cases h17 : s < 36864
  · have h := sb_all_s _ sb_k17 (s - 34816) (by omega)
    rwa [show 34816 + (s - 34816) = s by omega] at h
  by_cases h18 : s < 38912
  · have h := sb_all_s _ sb_k18 (s - 36864) (by omega)
    rwa [show 36864 + (s - 36864) = s by omega] at h
  by_cases h19 : s < 40960
  · have h := sb_all_s _ sb_k19 (s - 38912) (by omega)
    rwa [show 38912 + (s - 38912) = s by omega] at h
  by_cases h20 : s < 43008
  · have h := sb_all_s _ sb_k20 (s - 40960) (by omega)
    rwa [show 40960 + (s - 40960) = s by omega] at h
  by_cases h21 : s < 45056
  · have h := sb_all_s _ sb_k21 (s - 43008) (by omega)
    rwa [show 43008 + (s - 43008) = s by omega] at h
  by_cases h22 : s < 47104
  · have h := sb_all_s _ sb_k22 (s - 45056) (by omega)
    rwa [show 45056 + (s - 45056) = s by omega] at h
  by_cases h23 : s < 49152
  · have h := sb_all_s _ sb_k23 (s - 47104) (by omega)
    rwa [show 47104 + (s - 47104) = s by omega] at h
  by_cases h24 : s < 51200
  · have h := sb_all_s _ sb_k24 (s - 49152) (by omega)
    rwa [show 49152 + (s - 49152) = s by omega] at h
  by_cases h25 : s < 53248
  · have h := sb_all_s _ sb_k25 (s - 51200) (by omega)
    rwa [show 51200 + (s - 51200) = s by omega] at h
  by_cases h26 : s < 55296
  · have h := sb_all_s _ sb_k26 (s - 53248) (by omega)
    rwa [show 53248 + (s - 53248) = s by omega] at h
  by_cases h27 : s < 57344
  · have h := sb_all_s _ sb_k27 (s - 55296) (by omega)
    rwa [show 55296 + (s - 55296) = s by omega] at h
  by_cases h28 : s < 59392
  · have h := sb_all_s _ sb_k28 (s - 57344) (by omega)
    rwa [show 57344 + (s - 57344) = s by omega] at h
  by_cases h29 : s < 61440
  · have h := sb_all_s _ sb_k29 (s - 59392) (by omega)
    rwa [show 59392 + (s - 59392) = s by omega] at h
  by_cases h30 : s < 63488
  · have h := sb_all_s _ sb_k30 (s - 61440) (by omega)
    rwa [show 61440 + (s - 61440) = s by omega] at h
  by_cases h31 : s < 65536
  · have h := sb_all_s _ sb_k31 (s - 63488) (by omega)
    rwa [show 63488 + (s - 63488) = s by omega] at h
  omega
theorem sb_n_le (s : Nat) : sb_n s ≤ 63 := Nat.and_le_right
/-- both counts are above five together -/
theorem sb_bits {a : Int32} (h : ¬ ev_wi a 1 65535 = 0) : ev_bcI a = ev_bits a.toInt64 := by
  obtain ⟨h1, h2⟩ := ev_wi_ne h
  have e1 : (1 : Int32).toInt = 1 := by decide
  have e2 : (65535 : Int32).toInt = 65535 := by decide
  rw [e1] at h1
  rw [e2] at h2
  obtain ⟨s, hs⟩ : ∃ s : Nat, a.toInt = s := ⟨a.toInt.toNat, by omega⟩
  have ha : a = Int32.ofNat s := Int32.toInt_inj.mp (by rw [hs, Int32.toInt_ofNat_of_lt (by omega)])
  have hs2 : s < 65536 := by omega
  have e3 : a.toInt64 = Int64.ofNat s := Int64.toInt_inj.mp (by rw [Int32.toInt_toInt64, hs, sb_toInt (by omega)])
  rw [e3, ha, sb_bcI hs2]
  show _ = ev_bitsF (Int64.ofNat s) 36 (Int32.ofNat 0) (Int32.ofNat 0)
  rw [sb_bitsF hs2 36 0 0 rfl, sb_eq hs2]
