/-! How many bits a set has: the JDK's count of a long is the plain one. -/
def pc : Nat → Nat → Nat
  | 0, _ => 0
  | k + 1, s => s % 2 + pc k (s / 2)
def sc_m1 : Nat → Nat
  | 0 => 0
  | n + 1 => 1 + 4 * sc_m1 n
def sc_m2 : Nat → Nat
  | 0 => 0
  | n + 1 => 3 + 16 * sc_m2 n
def sc_m4 : Nat → Nat
  | 0 => 0
  | n + 1 => 15 + 256 * sc_m4 n
theorem sc_land {k a b c e : Nat} (ha : a < 2 ^ k) (hc : c < 2 ^ k) : (a + 2 ^ k * b) &&& (c + 2 ^ k * e) = (a &&& c) + 2 ^ k * (b &&& e) := by
  apply Nat.eq_of_testBit_eq
  intro i
  rw [Nat.testBit_and, Nat.add_comm a, Nat.add_comm c, Nat.add_comm (a &&& c), Nat.testBit_two_pow_mul_add _ ha, Nat.testBit_two_pow_mul_add _ hc, Nat.testBit_two_pow_mul_add _ (Nat.and_lt_two_pow a hc)]
  split
  · rw [Nat.testBit_and]
  · rw [Nat.testBit_and]
def sc_G1 : Nat → Nat → Nat
  | 0, _ => 0
  | n + 1, s => (s % 4 + 1) / 2 + 4 * sc_G1 n (s / 4)
def sc_G2 : Nat → Nat → Nat
  | 0, _ => 0
  | n + 1, t => (t % 4 + t % 16 / 4) + 16 * sc_G2 n (t / 16)
def sc_G3 : Nat → Nat → Nat
  | 0, _ => 0
  | n + 1, u => (u % 16 + u % 256 / 16) + 256 * sc_G3 n (u / 256)
def sc_Nb : Nat → Nat → Prop
  | 0, _ => True
  | n + 1, u => u % 16 ≤ 4 ∧ u % 256 / 16 ≤ 4 ∧ sc_Nb n (u / 256)
theorem sc_P1 : ∀ (n s : Nat), s < 4 ^ n → (s / 2) &&& sc_m1 n ≤ s ∧ s - ((s / 2) &&& sc_m1 n) = sc_G1 n s := by
  intro n
  induction n with
  | zero =>
    intro s h
    have : s = 0 := by simpa using h
    subst this
    exact ⟨by decide, rfl⟩
  | succ n ih =>
    intro s h
    rw [Nat.pow_succ] at h
    obtain ⟨i1, i2⟩ := ih (s / 4) (by omega)
    have e : s / 2 = (2 * (s / 4 % 2) + s % 4 / 2) + 2 ^ 2 * (s / 4 / 2) := by omega
    have h2 : (s / 2) &&& sc_m1 (n + 1) = (s % 4 / 2) + 4 * ((s / 4 / 2) &&& sc_m1 n) := by
      show (s / 2) &&& (1 + 2 ^ 2 * sc_m1 n) = _
      rw [e, sc_land (by omega) (by omega), Nat.and_one_is_mod]
      omega
    rw [h2]
    generalize (s / 4 / 2) &&& sc_m1 n = L at i1 i2
    show (s % 4 / 2) + 4 * L ≤ s ∧ s - ((s % 4 / 2) + 4 * L) = (s % 4 + 1) / 2 + 4 * sc_G1 n (s / 4)
    omega
theorem sc_and3 (a : Nat) : a &&& 3 = a % 4 := Nat.and_two_pow_sub_one_eq_mod a 2
theorem sc_and15 (a : Nat) : a &&& 15 = a % 16 := Nat.and_two_pow_sub_one_eq_mod a 4
theorem sc_and127 (a : Nat) : a &&& 127 = a % 128 := Nat.and_two_pow_sub_one_eq_mod a 7
theorem sc_P2 : ∀ (n t : Nat), t < 16 ^ n → (t &&& sc_m2 n) + ((t / 4) &&& sc_m2 n) = sc_G2 n t := by
  intro n
  induction n with
  | zero =>
    intro t h
    have : t = 0 := by simpa using h
    subst this
    rfl
  | succ n ih =>
    intro t h
    rw [Nat.pow_succ] at h
    have i1 := ih (t / 16) (by omega)
    have e0 : t = t % 16 + 2 ^ 4 * (t / 16) := by omega
    have e1 : t / 4 = (t % 16 / 4 + 4 * (t / 16 % 4)) + 2 ^ 4 * (t / 16 / 4) := by omega
    have h1 : t &&& sc_m2 (n + 1) = t % 4 + 16 * ((t / 16) &&& sc_m2 n) := by
      show t &&& (3 + 2 ^ 4 * sc_m2 n) = _
      rw [show t &&& (3 + 2 ^ 4 * sc_m2 n) = (t % 16 + 2 ^ 4 * (t / 16)) &&& (3 + 2 ^ 4 * sc_m2 n) from by rw [← e0], sc_land (by omega) (by decide), sc_and3]
      omega
    have h2 : (t / 4) &&& sc_m2 (n + 1) = t % 16 / 4 + 16 * ((t / 16 / 4) &&& sc_m2 n) := by
      show (t / 4) &&& (3 + 2 ^ 4 * sc_m2 n) = _
      rw [e1, sc_land (by omega) (by decide), sc_and3]
      omega
    rw [h1, h2]
    show _ = (t % 4 + t % 16 / 4) + 16 * sc_G2 n (t / 16)
    rw [← i1]
    omega
theorem sc_P3 : ∀ (n u : Nat), u < 256 ^ n → sc_Nb n u → (u + u / 16) &&& sc_m4 n = sc_G3 n u := by
  intro n
  induction n with
  | zero =>
    intro u h _
    have : u = 0 := by simpa using h
    subst this
    rfl
  | succ n ih =>
    intro u h hb
    rw [Nat.pow_succ] at h
    obtain ⟨b0, b1, b2⟩ := hb
    have i1 := ih (u / 256) (by omega) b2
    have hy : u / 256 % 16 ≤ 4 := by
      cases n with
      | zero =>
        have : u / 256 = 0 := by simp at h; omega
        rw [this]
        decide
      | succ n => exact b2.1
    have e1 : u + u / 16 = (u % 16 + u % 256 / 16 + 16 * (u % 256 / 16 + u / 256 % 16)) + 2 ^ 8 * (u / 256 + u / 256 / 16) := by omega
    show (u + u / 16) &&& (15 + 2 ^ 8 * sc_m4 n) = (u % 16 + u % 256 / 16) + 256 * sc_G3 n (u / 256)
    rw [e1, sc_land (by omega) (by decide), sc_and15, i1]
    omega
/-! by bytes -/
theorem sc_B1 (n s : Nat) : sc_G1 (4 * (n + 1)) s = sc_G1 4 (s % 256) + 256 * sc_G1 (4 * n) (s / 256) := by
  rw [show 4 * (n + 1) = 4 * n + 1 + 1 + 1 + 1 by omega]
  simp only [sc_G1]
  rw [show s / 4 / 4 / 4 / 4 = s / 256 by omega]
  omega
theorem sc_B2 (n t : Nat) : sc_G2 (2 * (n + 1)) t = sc_G2 2 (t % 256) + 256 * sc_G2 (2 * n) (t / 256) := by
  rw [show 2 * (n + 1) = 2 * n + 1 + 1 by omega]
  simp only [sc_G2]
  rw [show t / 16 / 16 = t / 256 by omega]
  omega
theorem sc_pc8 (n s : Nat) : pc (8 + n) s = pc 8 (s % 256) + pc n (s / 256) := by
  rw [show 8 + n = n + 1 + 1 + 1 + 1 + 1 + 1 + 1 + 1 by omega]
  simp only [pc]
  rw [show s / 2 / 2 / 2 / 2 / 2 / 2 / 2 / 2 = s / 256 by omega]
  omega
def sc_kb (d : Nat) : Nat := sc_G3 1 (sc_G2 2 (sc_G1 4 d))
theorem sc_tab : ((List.range 256).all fun d => Nat.blt (sc_G1 4 d) 256 && (Nat.blt (sc_G2 2 (sc_G1 4 d)) 256 && (Nat.beq (sc_kb d) (pc 8 d) && (Nat.ble (pc 8 d) 8 && (Nat.ble (sc_G2 2 (sc_G1 4 d) % 16) 4 && Nat.ble (sc_G2 2 (sc_G1 4 d) % 256 / 16) 4))))) = true := by decide +kernel
theorem sc_tab_s {d : Nat} (h : d < 256) : sc_G1 4 d < 256 ∧ sc_G2 2 (sc_G1 4 d) < 256 ∧ sc_kb d = pc 8 d ∧ pc 8 d ≤ 8 ∧ sc_G2 2 (sc_G1 4 d) % 16 ≤ 4 ∧ sc_G2 2 (sc_G1 4 d) % 256 / 16 ≤ 4 := by
  have h1 := List.all_eq_true.mp sc_tab d (List.mem_range.mpr h)
  simp only [Bool.and_eq_true] at h1
  obtain ⟨a, b, c, e, f, g⟩ := h1
  exact ⟨Nat.le_of_ble_eq_true a, Nat.le_of_ble_eq_true b, Nat.eq_of_beq_eq_true c, Nat.le_of_ble_eq_true e, Nat.le_of_ble_eq_true f, Nat.le_of_ble_eq_true g⟩
theorem sc_K (n s : Nat) : sc_G3 (n + 1) (sc_G2 (2 * (n + 1)) (sc_G1 (4 * (n + 1)) s)) = pc 8 (s % 256) + 256 * sc_G3 n (sc_G2 (2 * n) (sc_G1 (4 * n) (s / 256))) ∧ (sc_Nb n (sc_G2 (2 * n) (sc_G1 (4 * n) (s / 256))) → sc_Nb (n + 1) (sc_G2 (2 * (n + 1)) (sc_G1 (4 * (n + 1)) s))) := by
  obtain ⟨a, b, c, -, f, g⟩ := sc_tab_s (d := s % 256) (by omega)
  have e1 := sc_B1 n s
  have e2 := sc_B2 n (sc_G1 (4 * (n + 1)) s)
  rw [e1, show (sc_G1 4 (s % 256) + 256 * sc_G1 (4 * n) (s / 256)) % 256 = sc_G1 4 (s % 256) by omega, show (sc_G1 4 (s % 256) + 256 * sc_G1 (4 * n) (s / 256)) / 256 = sc_G1 (4 * n) (s / 256) by omega] at e2
  rw [e1, e2]
  generalize sc_G2 (2 * n) (sc_G1 (4 * n) (s / 256)) = y
  unfold sc_kb at c
  simp only [sc_G3] at c
  generalize sc_G2 2 (sc_G1 4 (s % 256)) = d at b c f g ⊢
  constructor
  · show (_ % 16 + _ % 256 / 16) + 256 * sc_G3 n ((d + 256 * y) / 256) = _
    rw [show (d + 256 * y) / 256 = y by omega, ← c]
    omega
  · intro h
    refine ⟨by omega, by omega, ?_⟩
    rw [show (d + 256 * y) / 256 = y by omega]
    exact h
def sc_KK (n x : Nat) : Nat := sc_G3 n (sc_G2 (2 * n) (sc_G1 (4 * n) x))
theorem sc_KK_s (n x : Nat) : sc_KK (n + 1) x = pc 8 (x % 256) + 256 * sc_KK n (x / 256) := (sc_K n x).1
theorem sc_NbA : ∀ (n s : Nat), sc_Nb n (sc_G2 (2 * n) (sc_G1 (4 * n) s)) := by
  intro n
  induction n with
  | zero => exact fun _ => trivial
  | succ n ih => exact fun s => (sc_K n s).2 (ih (s / 256))
theorem sc_G1_lt : ∀ (n s : Nat), sc_G1 n s < 4 ^ n := by
  intro n
  induction n with
  | zero => exact fun _ => Nat.zero_lt_one
  | succ n ih =>
    intro s
    have := ih (s / 4)
    rw [Nat.pow_succ]
    simp only [sc_G1]
    omega
theorem sc_G2_lt : ∀ (n s : Nat), sc_G2 n s < 16 ^ n := by
  intro n
  induction n with
  | zero => exact fun _ => Nat.zero_lt_one
  | succ n ih =>
    intro s
    have := ih (s / 16)
    rw [Nat.pow_succ]
    simp only [sc_G2]
    omega
def sc_1 (s : Nat) : Nat := s - ((s >>> 1) &&& 6148914691236517205)
def sc_2 (s : Nat) : Nat := (s &&& 3689348814741910323) + ((s >>> 2) &&& 3689348814741910323)
def sc_3 (s : Nat) : Nat := (s + (s >>> 4)) &&& 1085102592571150095
def sc_4 (s : Nat) : Nat := s + (s >>> 8)
def sc_5 (s : Nat) : Nat := s + (s >>> 16)
def sc_6 (s : Nat) : Nat := s + (s >>> 32)
theorem sc_d8 {b t : Nat} (h : b ≤ 8) : (b + 256 * t) / 2 ^ 8 = t := by
  show (b + 256 * t) / 256 = t
  omega
theorem sc_d16 {w t : Nat} (h : w < 65536) : (w + 65536 * t) / 2 ^ 16 = t := by
  show (w + 65536 * t) / 65536 = t
  omega
theorem sc_d32 {w t : Nat} (h : w < 4294967296) : (w + 4294967296 * t) / 2 ^ 32 = t := by
  show (w + 4294967296 * t) / 4294967296 = t
  omega
theorem sc_two (b0 b1 b2 t : Nat) : (b0 + 256 * (b1 + 256 * (b2 + 256 * t))) + (b1 + 256 * (b2 + 256 * t)) = (b0 + b1 + 256 * (b1 + b2)) + 65536 * ((b2 + 256 * t) + t) := by omega
theorem sc_four (w0 w1 w2 w3 : Nat) : (w0 + 65536 * (w1 + 65536 * (w2 + 65536 * w3))) + (w1 + 65536 * (w2 + 65536 * w3)) = (w0 + w1 + 65536 * (w1 + w2)) + 4294967296 * (w2 + w3 + 65536 * w3) := by omega
theorem sc_all (w0 w1 w2 w3 : Nat) : ((w0 + w1 + 65536 * (w1 + w2)) + 4294967296 * (w2 + w3 + 65536 * w3)) + (w2 + w3 + 65536 * w3) = (w0 + w1 + w2 + w3) + 128 * (512 * (w1 + w2) + 33554432 * (w2 + w3 + 65536 * w3) + 512 * w3) := by omega
theorem sc_sum {b0 b1 b2 b3 b4 b5 b6 b7 : Nat} (h0 : b0 ≤ 8) (h1 : b1 ≤ 8) (h2 : b2 ≤ 8) (h3 : b3 ≤ 8) (h4 : b4 ≤ 8) (h5 : b5 ≤ 8) (h6 : b6 ≤ 8) (h7 : b7 ≤ 8) :
    sc_6 (sc_5 (sc_4 (b0 + 256 * (b1 + 256 * (b2 + 256 * (b3 + 256 * (b4 + 256 * (b5 + 256 * (b6 + 256 * b7))))))))) % 128 = b0 + b1 + b2 + b3 + b4 + b5 + b6 + b7 := by
  have e7 : (b6 + 256 * b7) + b7 = b6 + b7 + 256 * b7 := by omega
  unfold sc_4
  rw [Nat.shiftRight_eq_div_pow, sc_d8 h0, sc_two, sc_two, sc_two, e7]
  have k0 : b0 + b1 + 256 * (b1 + b2) < 65536 := by omega
  have k1 : b2 + b3 + 256 * (b3 + b4) < 65536 := by omega
  have k2 : b4 + b5 + 256 * (b5 + b6) < 65536 := by omega
  have ks : (b0 + b1 + 256 * (b1 + b2)) + (b2 + b3 + 256 * (b3 + b4)) + 65536 * ((b2 + b3 + 256 * (b3 + b4)) + (b4 + b5 + 256 * (b5 + b6))) < 4294967296 := by omega
  have hq : (b0 + b1 + 256 * (b1 + b2)) + (b2 + b3 + 256 * (b3 + b4)) + (b4 + b5 + 256 * (b5 + b6)) + (b6 + b7 + 256 * b7) = (b0 + b1 + b2 + b3 + b4 + b5 + b6 + b7) + 128 * (2 * (b1 + b2 + b3 + b4 + b5 + b6 + b7)) := by omega
  have hl : b0 + b1 + b2 + b3 + b4 + b5 + b6 + b7 < 128 := by omega
  unfold sc_5
  rw [Nat.shiftRight_eq_div_pow, sc_d16 k0, sc_four]
  unfold sc_6
  rw [Nat.shiftRight_eq_div_pow, sc_d32 ks, sc_all, Nat.add_mul_mod_self_left, hq, Nat.add_mul_mod_self_left, Nat.mod_eq_of_lt hl]
theorem sc_nat {s : Nat} (hs : s < 2 ^ 64) : sc_6 (sc_5 (sc_4 (sc_3 (sc_2 (sc_1 s))))) &&& 127 = pc 64 s := by
  have e1 : sc_1 s = sc_G1 32 s := by
    have h := (sc_P1 32 s (by omega)).2
    unfold sc_1
    rw [Nat.shiftRight_eq_div_pow, show (6148914691236517205 : Nat) = sc_m1 32 from by decide +kernel]
    exact h
  have e2 : sc_2 (sc_G1 32 s) = sc_G2 16 (sc_G1 32 s) := by
    have h := sc_P2 16 (sc_G1 32 s) (Nat.lt_of_lt_of_eq (sc_G1_lt 32 s) (by decide +kernel))
    unfold sc_2
    rw [Nat.shiftRight_eq_div_pow, show (3689348814741910323 : Nat) = sc_m2 16 from by decide +kernel]
    exact h
  have e3 : sc_3 (sc_G2 16 (sc_G1 32 s)) = sc_G3 8 (sc_G2 16 (sc_G1 32 s)) := by
    have h := sc_P3 8 (sc_G2 16 (sc_G1 32 s)) (Nat.lt_of_lt_of_eq (sc_G2_lt 16 _) (by decide +kernel)) (sc_NbA 8 s)
    unfold sc_3
    rw [Nat.shiftRight_eq_div_pow, show (1085102592571150095 : Nat) = sc_m4 8 from by decide +kernel]
    exact h
  rw [e1, e2, e3, sc_and127]
  have e : sc_G3 8 (sc_G2 16 (sc_G1 32 s)) = sc_KK 8 s := rfl
  have k7 : ∀ x, sc_KK 8 x = pc 8 (x % 256) + 256 * sc_KK 7 (x / 256) := sc_KK_s 7
  have k6 : ∀ x, sc_KK 7 x = pc 8 (x % 256) + 256 * sc_KK 6 (x / 256) := sc_KK_s 6
  have k5 : ∀ x, sc_KK 6 x = pc 8 (x % 256) + 256 * sc_KK 5 (x / 256) := sc_KK_s 5
  have k4 : ∀ x, sc_KK 5 x = pc 8 (x % 256) + 256 * sc_KK 4 (x / 256) := sc_KK_s 4
  have k3 : ∀ x, sc_KK 4 x = pc 8 (x % 256) + 256 * sc_KK 3 (x / 256) := sc_KK_s 3
  have k2 : ∀ x, sc_KK 3 x = pc 8 (x % 256) + 256 * sc_KK 2 (x / 256) := sc_KK_s 2
  have k1 : ∀ x, sc_KK 2 x = pc 8 (x % 256) + 256 * sc_KK 1 (x / 256) := sc_KK_s 1
  have k0 : ∀ x, sc_KK 1 x = pc 8 (x % 256) := fun x => by
    have h : sc_KK 1 x = pc 8 (x % 256) + 256 * sc_KK 0 (x / 256) := sc_KK_s 0 x
    rw [h]
    rfl
  rw [e, k7, k6, k5, k4, k3, k2, k1, k0]
  have t : ∀ q : Nat, pc 8 (q % 256) ≤ 8 := fun q => (sc_tab_s (d := q % 256) (by omega)).2.2.2.1
  rw [sc_sum (t _) (t _) (t _) (t _) (t _) (t _) (t _) (t _)]
  have q0 : pc 64 s = pc 8 (s % 256) + pc 56 (s / 256) := sc_pc8 56 s
  have q1 : ∀ x, pc 56 x = pc 8 (x % 256) + pc 48 (x / 256) := sc_pc8 48
  have q2 : ∀ x, pc 48 x = pc 8 (x % 256) + pc 40 (x / 256) := sc_pc8 40
  have q3 : ∀ x, pc 40 x = pc 8 (x % 256) + pc 32 (x / 256) := sc_pc8 32
  have q4 : ∀ x, pc 32 x = pc 8 (x % 256) + pc 24 (x / 256) := sc_pc8 24
  have q5 : ∀ x, pc 24 x = pc 8 (x % 256) + pc 16 (x / 256) := sc_pc8 16
  have q6 : ∀ x, pc 16 x = pc 8 (x % 256) + pc 8 (x / 256) := sc_pc8 8
  rw [q0, q1, q2, q3, q4, q5, q6]
  have l : pc 8 (s / 256 / 256 / 256 / 256 / 256 / 256 / 256) = pc 8 (s / 256 / 256 / 256 / 256 / 256 / 256 / 256 % 256) := by
    rw [Nat.mod_eq_of_lt]
    omega
  omega
/-! over longs -/
theorem sc_andJ (a b : Nat) : Int64.ofNat a &&& Int64.ofNat b = Int64.ofNat (a &&& b) := by
  apply Int64.toBitVec_inj.1
  show BitVec.ofNat 64 a &&& BitVec.ofNat 64 b = BitVec.ofNat 64 (a &&& b)
  apply BitVec.eq_of_getLsbD_eq
  intro i hi
  simp [hi]
theorem sc_andI (a b : Nat) : Int32.ofNat a &&& Int32.ofNat b = Int32.ofNat (a &&& b) := by
  apply Int32.toBitVec_inj.1
  show BitVec.ofNat 32 a &&& BitVec.ofNat 32 b = BitVec.ofNat 32 (a &&& b)
  apply BitVec.eq_of_getLsbD_eq
  intro i hi
  simp [hi]
theorem sc_ush {s : Nat} (k : Nat) (hk : k < 64) (hs : s < 2 ^ 64) : ((Int64.ofNat s).toUInt64 >>> (UInt64.ofNat k)).toInt64 = Int64.ofNat (s >>> k) := by
  have h1 : s >>> k ≤ s := by rw [Nat.shiftRight_eq_div_pow]; exact Nat.div_le_self _ _
  have e : UInt64.ofNat s >>> UInt64.ofNat k = UInt64.ofNat (s >>> k) := UInt64.toNat_inj.mp (by
    rw [UInt64.toNat_shiftRight, UInt64.toNat_ofNat', UInt64.toNat_ofNat', UInt64.toNat_ofNat', Nat.mod_eq_of_lt hs, Nat.mod_eq_of_lt (show k < 2 ^ 64 by omega), Nat.mod_eq_of_lt hk, Nat.mod_eq_of_lt (show s >>> k < 2 ^ 64 by omega)])
  show (UInt64.ofNat s >>> UInt64.ofNat k).toInt64 = _
  rw [e]
  rfl
theorem sc_x1 {s : Nat} (hs : s < 2 ^ 64) : Int64.ofNat s - ((((Int64.ofNat s).toUInt64 >>> 1).toInt64) &&& (6148914691236517205 : Int64)) = Int64.ofNat (sc_1 s) := by
  have e := sc_ush 1 (by decide) hs
  rw [show ((Int64.ofNat s).toUInt64 >>> 1).toInt64 = Int64.ofNat (s >>> 1) from e, show (6148914691236517205 : Int64) = Int64.ofNat 6148914691236517205 from rfl, sc_andJ]
  unfold sc_1
  rw [Int64.ofNat_sub]
  exact Nat.le_trans Nat.and_le_left (by rw [Nat.shiftRight_eq_div_pow]; exact Nat.div_le_self _ _)
theorem sc_x2 {s : Nat} (hs : s < 2 ^ 64) : (Int64.ofNat s &&& (3689348814741910323 : Int64)) + ((((Int64.ofNat s).toUInt64 >>> 2).toInt64) &&& (3689348814741910323 : Int64)) = Int64.ofNat (sc_2 s) := by
  have e := sc_ush 2 (by decide) hs
  rw [show ((Int64.ofNat s).toUInt64 >>> 2).toInt64 = Int64.ofNat (s >>> 2) from e, show (3689348814741910323 : Int64) = Int64.ofNat 3689348814741910323 from rfl, sc_andJ, sc_andJ, ← Int64.ofNat_add]
  rfl
theorem sc_x3 {s : Nat} (hs : s < 2 ^ 64) : (Int64.ofNat s + (((Int64.ofNat s).toUInt64 >>> 4).toInt64)) &&& (1085102592571150095 : Int64) = Int64.ofNat (sc_3 s) := by
  have e := sc_ush 4 (by decide) hs
  rw [show ((Int64.ofNat s).toUInt64 >>> 4).toInt64 = Int64.ofNat (s >>> 4) from e, show (1085102592571150095 : Int64) = Int64.ofNat 1085102592571150095 from rfl, ← Int64.ofNat_add, sc_andJ]
  rfl
theorem sc_x4 {s : Nat} (hs : s < 2 ^ 64) : Int64.ofNat s + (((Int64.ofNat s).toUInt64 >>> 8).toInt64) = Int64.ofNat (sc_4 s) := by
  have e := sc_ush 8 (by decide) hs
  rw [show ((Int64.ofNat s).toUInt64 >>> 8).toInt64 = Int64.ofNat (s >>> 8) from e, ← Int64.ofNat_add]
  rfl
theorem sc_x5 {s : Nat} (hs : s < 2 ^ 64) : Int64.ofNat s + (((Int64.ofNat s).toUInt64 >>> 16).toInt64) = Int64.ofNat (sc_5 s) := by
  have e := sc_ush 16 (by decide) hs
  rw [show ((Int64.ofNat s).toUInt64 >>> 16).toInt64 = Int64.ofNat (s >>> 16) from e, ← Int64.ofNat_add]
  rfl
theorem sc_x6 {s : Nat} (hs : s < 2 ^ 64) : Int64.ofNat s + (((Int64.ofNat s).toUInt64 >>> 32).toInt64) = Int64.ofNat (sc_6 s) := by
  have e := sc_ush 32 (by decide) hs
  rw [show ((Int64.ofNat s).toUInt64 >>> 32).toInt64 = Int64.ofNat (s >>> 32) from e, ← Int64.ofNat_add]
  rfl
theorem sc_half (s k : Nat) : s >>> k ≤ s := by rw [Nat.shiftRight_eq_div_pow]; exact Nat.div_le_self _ _
theorem sc_bcJ {s : Nat} (hs : s < 2 ^ 64) : ev_bcJ (Int64.ofNat s) = Int32.ofNat (pc 64 s) := by
  have b1 : sc_1 s ≤ s := Nat.sub_le _ _
  have b2 : sc_2 (sc_1 s) ≤ 3689348814741910323 + 3689348814741910323 := Nat.add_le_add Nat.and_le_right Nat.and_le_right
  have b3 : sc_3 (sc_2 (sc_1 s)) ≤ 1085102592571150095 := Nat.and_le_right
  have b4 : sc_4 (sc_3 (sc_2 (sc_1 s))) ≤ sc_3 (sc_2 (sc_1 s)) + sc_3 (sc_2 (sc_1 s)) := Nat.add_le_add_left (sc_half _ _) _
  have b5 : sc_5 (sc_4 (sc_3 (sc_2 (sc_1 s)))) ≤ sc_4 (sc_3 (sc_2 (sc_1 s))) + sc_4 (sc_3 (sc_2 (sc_1 s))) := Nat.add_le_add_left (sc_half _ _) _
  unfold ev_bcJ
  rw [sc_x1 (by omega), sc_x2 (by omega), sc_x3 (by omega), sc_x4 (by omega), sc_x5 (by omega), sc_x6 (by omega), Int64.toInt32_ofNat', show (127 : Int32) = Int32.ofNat 127 from rfl, sc_andI, sc_nat hs]
