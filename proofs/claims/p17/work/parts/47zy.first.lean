/-! The first bit of a set. -/
section
variable {N : Nat} {X : ez_X} {I : Nat → Nat → Int32} {J : Nat → Nat → Int64} {R : Nat → Nat} {T : List ez_C} {Q : pw_Q} {cz kz : Nat}
set_option maxRecDepth 100000 in
theorem nz_r0 {a0 : Int32} : ∀ G : ez_F, fx_up X 8 G 236 0 [.int a0] [] (ev_hp I J R T) cz kz = G 236 8 [.int ((a0 ^^^ (-1 : Int32)) &&& (a0 - (1 : Int32)))] [] (ev_hp I J R T) cz kz := by
  intro G
  rfl
theorem nz_0 {x : Int32}
    (H : pw N X 236 8 [.int ((x ^^^ (-1 : Int32)) &&& (x - (1 : Int32)))] [] (ev_hp I J R T) Q) : pw (N + 1) X 236 0 [.int x] [] (ev_hp I J R T) Q := by
  refine pw_seg (by decide) (fun _ _ => nz_r0) ?_
  exact H
set_option maxRecDepth 100000 in
theorem nz_r1 {a0 : Int32} : ∀ G : ez_F, fx_up X 2 G 236 8 [.int a0] [] (ev_hp I J R T) cz kz = bif decide ((0 : Int32) < a0) then G 236 17 [.int a0] [] (ev_hp I J R T) cz kz else G 236 12 [.int a0] [] (ev_hp I J R T) cz kz := by
  intro G
  rfl
set_option maxRecDepth 100000 in
theorem nz_r2 {a0 : Int32} : ∀ G : ez_F, fx_up X 2 G 236 17 [.int a0] [] (ev_hp I J R T) cz kz = G 236 19 [.int a0, .int (1 : Int32)] [] (ev_hp I J R T) cz kz := by
  intro G
  rfl
set_option maxRecDepth 100000 in
theorem nz_r3 {a0 : Int32} : ∀ G : ez_F, fx_up X 4 G 236 12 [.int a0] [] (ev_hp I J R T) cz kz = some (some (.int (a0 &&& (32 : Int32))), (ev_hp I J R T), cz, kz) := by
  intro G
  rfl
theorem nz_8 {v : Int32}
    (H : (((0 : Int32) < v → pw N X 236 19 [.int v, .int (1 : Int32)] [] (ev_hp I J R T) Q) ∧ (¬ ((0 : Int32) < v) → Q (some (.int (v &&& (32 : Int32)))) (ev_hp I J R T)))) : pw (N + 1) X 236 8 [.int v] [] (ev_hp I J R T) Q := by
  refine pw_if (by decide) (fun _ _ => nz_r1) (fun w1 => ?_) (fun w1 => ?_)
  · have h1 := H.1 w1
    refine pw_p (pw_seg (by decide) (fun _ _ => nz_r2) ?_)
    exact h1
  · have h1 := H.2 w1
    exact pw_p (pw_ret (by decide) (fun _ _ => nz_r3) h1)
set_option maxRecDepth 100000 in
theorem nz_r4 {a0 : Int32} {a1 : Int32} : ∀ G : ez_F, fx_up X 3 G 236 19 [.int a0, .int a1] [] (ev_hp I J R T) cz kz = bif decide (a0 ≤ (65536 : Int32)) then G 236 34 [.int a0, .int a1] [] (ev_hp I J R T) cz kz else G 236 26 [.int a0, .int a1] [] (ev_hp I J R T) cz kz := by
  intro G
  rfl
set_option maxRecDepth 100000 in
theorem nz_r5 {a0 : Int32} {a1 : Int32} : ∀ G : ez_F, fx_up X 5 G 236 26 [.int a0, .int a1] [] (ev_hp I J R T) cz kz = G 236 34 [.int (a0.toUInt32 >>> ((16 : Int32).toUInt32 &&& Int32.toUInt32 31)).toInt32, .int (a1 + (16 : Int32))] [] (ev_hp I J R T) cz kz := by
  intro G
  rfl
theorem nz_19 {v n : Int32}
    (H : ((v ≤ (65536 : Int32) → pw N X 236 34 [.int v, .int n] [] (ev_hp I J R T) Q) ∧ (¬ (v ≤ (65536 : Int32)) → pw N X 236 34 [.int (v.toUInt32 >>> ((16 : Int32).toUInt32 &&& Int32.toUInt32 31)).toInt32, .int (n + (16 : Int32))] [] (ev_hp I J R T) Q))) : pw (N + 1) X 236 19 [.int v, .int n] [] (ev_hp I J R T) Q := by
  refine pw_if (by decide) (fun _ _ => nz_r4) (fun w1 => ?_) (fun w1 => ?_)
  · have h1 := H.1 w1
    exact h1
  · have h1 := H.2 w1
    refine pw_p (pw_seg (by decide) (fun _ _ => nz_r5) ?_)
    exact h1
set_option maxRecDepth 100000 in
theorem nz_r6 {a0 : Int32} {a1 : Int32} : ∀ G : ez_F, fx_up X 3 G 236 34 [.int a0, .int a1] [] (ev_hp I J R T) cz kz = bif decide (a0 ≤ (256 : Int32)) then G 236 49 [.int a0, .int a1] [] (ev_hp I J R T) cz kz else G 236 41 [.int a0, .int a1] [] (ev_hp I J R T) cz kz := by
  intro G
  rfl
set_option maxRecDepth 100000 in
theorem nz_r7 {a0 : Int32} {a1 : Int32} : ∀ G : ez_F, fx_up X 5 G 236 41 [.int a0, .int a1] [] (ev_hp I J R T) cz kz = G 236 49 [.int (a0.toUInt32 >>> ((8 : Int32).toUInt32 &&& Int32.toUInt32 31)).toInt32, .int (a1 + (8 : Int32))] [] (ev_hp I J R T) cz kz := by
  intro G
  rfl
theorem nz_34 {v n : Int32}
    (H : ((v ≤ (256 : Int32) → pw N X 236 49 [.int v, .int n] [] (ev_hp I J R T) Q) ∧ (¬ (v ≤ (256 : Int32)) → pw N X 236 49 [.int (v.toUInt32 >>> ((8 : Int32).toUInt32 &&& Int32.toUInt32 31)).toInt32, .int (n + (8 : Int32))] [] (ev_hp I J R T) Q))) : pw (N + 1) X 236 34 [.int v, .int n] [] (ev_hp I J R T) Q := by
  refine pw_if (by decide) (fun _ _ => nz_r6) (fun w1 => ?_) (fun w1 => ?_)
  · have h1 := H.1 w1
    exact h1
  · have h1 := H.2 w1
    refine pw_p (pw_seg (by decide) (fun _ _ => nz_r7) ?_)
    exact h1
set_option maxRecDepth 100000 in
theorem nz_r8 {a0 : Int32} {a1 : Int32} : ∀ G : ez_F, fx_up X 3 G 236 49 [.int a0, .int a1] [] (ev_hp I J R T) cz kz = bif decide (a0 ≤ (16 : Int32)) then G 236 62 [.int a0, .int a1] [] (ev_hp I J R T) cz kz else G 236 55 [.int a0, .int a1] [] (ev_hp I J R T) cz kz := by
  intro G
  rfl
set_option maxRecDepth 100000 in
theorem nz_r9 {a0 : Int32} {a1 : Int32} : ∀ G : ez_F, fx_up X 5 G 236 55 [.int a0, .int a1] [] (ev_hp I J R T) cz kz = G 236 62 [.int (a0.toUInt32 >>> ((4 : Int32).toUInt32 &&& Int32.toUInt32 31)).toInt32, .int (a1 + (4 : Int32))] [] (ev_hp I J R T) cz kz := by
  intro G
  rfl
theorem nz_49 {v n : Int32}
    (H : ((v ≤ (16 : Int32) → pw N X 236 62 [.int v, .int n] [] (ev_hp I J R T) Q) ∧ (¬ (v ≤ (16 : Int32)) → pw N X 236 62 [.int (v.toUInt32 >>> ((4 : Int32).toUInt32 &&& Int32.toUInt32 31)).toInt32, .int (n + (4 : Int32))] [] (ev_hp I J R T) Q))) : pw (N + 1) X 236 49 [.int v, .int n] [] (ev_hp I J R T) Q := by
  refine pw_if (by decide) (fun _ _ => nz_r8) (fun w1 => ?_) (fun w1 => ?_)
  · have h1 := H.1 w1
    exact h1
  · have h1 := H.2 w1
    refine pw_p (pw_seg (by decide) (fun _ _ => nz_r9) ?_)
    exact h1
set_option maxRecDepth 100000 in
theorem nz_r10 {a0 : Int32} {a1 : Int32} : ∀ G : ez_F, fx_up X 3 G 236 62 [.int a0, .int a1] [] (ev_hp I J R T) cz kz = bif decide (a0 ≤ (4 : Int32)) then G 236 74 [.int a0, .int a1] [] (ev_hp I J R T) cz kz else G 236 67 [.int a0, .int a1] [] (ev_hp I J R T) cz kz := by
  intro G
  rfl
set_option maxRecDepth 100000 in
theorem nz_r11 {a0 : Int32} {a1 : Int32} : ∀ G : ez_F, fx_up X 5 G 236 67 [.int a0, .int a1] [] (ev_hp I J R T) cz kz = G 236 74 [.int (a0.toUInt32 >>> ((2 : Int32).toUInt32 &&& Int32.toUInt32 31)).toInt32, .int (a1 + (2 : Int32))] [] (ev_hp I J R T) cz kz := by
  intro G
  rfl
theorem nz_62 {v n : Int32}
    (H : ((v ≤ (4 : Int32) → pw N X 236 74 [.int v, .int n] [] (ev_hp I J R T) Q) ∧ (¬ (v ≤ (4 : Int32)) → pw N X 236 74 [.int (v.toUInt32 >>> ((2 : Int32).toUInt32 &&& Int32.toUInt32 31)).toInt32, .int (n + (2 : Int32))] [] (ev_hp I J R T) Q))) : pw (N + 1) X 236 62 [.int v, .int n] [] (ev_hp I J R T) Q := by
  refine pw_if (by decide) (fun _ _ => nz_r10) (fun w1 => ?_) (fun w1 => ?_)
  · have h1 := H.1 w1
    exact h1
  · have h1 := H.2 w1
    refine pw_p (pw_seg (by decide) (fun _ _ => nz_r11) ?_)
    exact h1
set_option maxRecDepth 100000 in
theorem nz_r12 {a0 : Int32} {a1 : Int32} : ∀ G : ez_F, fx_up X 6 G 236 74 [.int a0, .int a1] [] (ev_hp I J R T) cz kz = some (some (.int (a1 + (a0.toUInt32 >>> ((1 : Int32).toUInt32 &&& Int32.toUInt32 31)).toInt32)), (ev_hp I J R T), cz, kz) := by
  intro G
  rfl
theorem nz_74 {v n : Int32}
    (H : Q (some (.int (n + (v.toUInt32 >>> ((1 : Int32).toUInt32 &&& Int32.toUInt32 31)).toInt32))) (ev_hp I J R T)) : pw (N + 1) X 236 74 [.int v, .int n] [] (ev_hp I J R T) Q := by
  exact pw_ret (by decide) (fun _ _ => nz_r12) H
set_option maxRecDepth 100000 in
theorem nz_r13 {a0 : Int64} : ∀ G : ez_F, fx_up X 5 G 239 0 [.long a0, ez_fill] [] (ev_hp I J R T) cz kz = bif decide (¬ a0.toInt32 = (0 : Int32)) then G 239 21 [.long a0, ez_fill, .int a0.toInt32] [] (ev_hp I J R T) cz kz else G 239 7 [.long a0, ez_fill, .int a0.toInt32] [] (ev_hp I J R T) cz kz := by
  intro G
  rfl
set_option maxRecDepth 100000 in
theorem nz_r14 {a0 : Int64} {a1 : Int32} : ∀ G : ez_F, fx_up X 2 G 239 21 [.long a0, ez_fill, .int a1] [] (ev_hp I J R T) cz kz = ev_C G 236 [.int a1] (ev_hp I J R T) fun r h1 c1 k1 => G 239 25 [.long a0, ez_fill, .int a1] (r.toList ++ []) h1 (cz + c1) (kz + k1) := by
  intro G
  rfl
set_option maxRecDepth 100000 in
theorem nz_r15 {a0 : Int64} {a1 : Int32} : ∀ G : ez_F, fx_up X 6 G 239 7 [.long a0, ez_fill, .int a1] [] (ev_hp I J R T) cz kz = ev_C G 236 [.int ((a0.toUInt64 >>> ((32 : Int32).toInt64.toUInt64 &&& Int64.toUInt64 63)).toInt64).toInt32] (ev_hp I J R T) fun r h1 c1 k1 => G 239 17 [.long a0, ez_fill, .int a1] (r.toList ++ [.int (32 : Int32)]) h1 (cz + c1) (kz + k1) := by
  intro G
  rfl
theorem nl_0 {z : Int64}
    (H : ((¬ z.toInt32 = (0 : Int32) → (∃ Q1 : pw_Q, pe N X 236 [.int z.toInt32] (ev_hp I J R T) Q1 ∧ ∀ (r : Option Value) (h1 : ez_H), Q1 r h1 → pw N X 239 25 [.long z, ez_fill, .int z.toInt32] (r.toList ++ []) h1 Q)) ∧ (¬ (¬ z.toInt32 = (0 : Int32)) → (∃ Q1 : pw_Q, pe N X 236 [.int ((z.toUInt64 >>> ((32 : Int32).toInt64.toUInt64 &&& Int64.toUInt64 63)).toInt64).toInt32] (ev_hp I J R T) Q1 ∧ ∀ (r : Option Value) (h1 : ez_H), Q1 r h1 → pw N X 239 17 [.long z, ez_fill, .int z.toInt32] (r.toList ++ [.int (32 : Int32)]) h1 Q)))) : pw (N + 1) X 239 0 [.long z, ez_fill] [] (ev_hp I J R T) Q := by
  refine pw_if (by decide) (fun _ _ => nz_r13) (fun w1 => ?_) (fun w1 => ?_)
  · have h1 := H.1 w1
    obtain ⟨Q1, hc, hk⟩ := h1
    exact pw_p (pw_call (by decide) (fun _ _ => nz_r14) hc hk)
  · have h1 := H.2 w1
    obtain ⟨Q1, hc, hk⟩ := h1
    exact pw_p (pw_call (by decide) (fun _ _ => nz_r15) hc hk)
set_option maxRecDepth 100000 in
theorem nz_r16 {a0 : Int64} {a1 : Int32} {a2 : Int32} {a3 : Int32} : ∀ G : ez_F, fx_up X 3 G 239 17 [.long a0, ez_fill, .int a1] [.int a2, .int a3] (ev_hp I J R T) cz kz = some (some (.int (a3 + a2)), (ev_hp I J R T), cz, kz) := by
  intro G
  rfl
theorem nl_17 {z : Int64} {x v w : Int32}
    (H : Q (some (.int (w + v))) (ev_hp I J R T)) : pw (N + 1) X 239 17 [.long z, ez_fill, .int x] [.int v, .int w] (ev_hp I J R T) Q := by
  exact pw_ret (by decide) (fun _ _ => nz_r16) H
set_option maxRecDepth 100000 in
theorem nz_r17 {a0 : Int64} {a1 : Int32} {a2 : Int32} : ∀ G : ez_F, fx_up X 1 G 239 25 [.long a0, ez_fill, .int a1] [.int a2] (ev_hp I J R T) cz kz = some (some (.int a2), (ev_hp I J R T), cz, kz) := by
  intro G
  rfl
theorem nl_25 {z : Int64} {x v : Int32}
    (H : Q (some (.int v)) (ev_hp I J R T)) : pw (N + 1) X 239 25 [.long z, ez_fill, .int x] [.int v] (ev_hp I J R T) Q := by
  exact pw_ret (by decide) (fun _ _ => nz_r17) H
end
def us32 (v k : Int32) : Int32 := (v.toUInt32 >>> (k.toUInt32 &&& Int32.toUInt32 31)).toInt32
def nz5 (v n : Int32) : Int32 := n + us32 v 1
def nz4 (v n : Int32) : Int32 := if v ≤ 4 then nz5 v n else nz5 (us32 v 2) (n + 2)
def nz3 (v n : Int32) : Int32 := if v ≤ 16 then nz4 v n else nz4 (us32 v 4) (n + 4)
def nz2 (v n : Int32) : Int32 := if v ≤ 256 then nz3 v n else nz3 (us32 v 8) (n + 8)
def nz1 (v n : Int32) : Int32 := if v ≤ 65536 then nz2 v n else nz2 (us32 v 16) (n + 16)
def nzF (v : Int32) : Int32 := if 0 < v then nz1 v 1 else v &&& 32
theorem nzF_t : ∀ j, j < 32 → nzF (Int32.ofNat (2 ^ j - 1)) = Int32.ofNat j := by decide +kernel
section
variable {N : Nat} {X : ez_X} {I : Nat → Nat → Int32} {J : Nat → Nat → Int64} {R : Nat → Nat} {T : List ez_C} {x : Int32} {z : Int64}
theorem pe_ntz32 : pe N X 236 [.int x] (ev_hp I J R T) (fun r h => r = some (.int (nzF ((x ^^^ (-1 : Int32)) &&& (x - (1 : Int32))))) ∧ h = ev_hp I J R T) := by
  have t5 : ∀ v n N, pw N X 236 74 [.int v, .int n] [] (ev_hp I J R T) (fun r h => r = some (.int (nz5 v n)) ∧ h = ev_hp I J R T) := fun v n N => pw_p (nz_74 ⟨rfl, rfl⟩)
  have t4 : ∀ v n N, pw N X 236 62 [.int v, .int n] [] (ev_hp I J R T) (fun r h => r = some (.int (nz4 v n)) ∧ h = ev_hp I J R T) := fun v n N => by
    unfold nz4
    refine pw_p (nz_62 ⟨fun g => ?_, fun g => ?_⟩)
    · rw [if_pos g]; exact t5 _ _ _
    · rw [if_neg g]; exact t5 _ _ _
  have t3 : ∀ v n N, pw N X 236 49 [.int v, .int n] [] (ev_hp I J R T) (fun r h => r = some (.int (nz3 v n)) ∧ h = ev_hp I J R T) := fun v n N => by
    unfold nz3
    refine pw_p (nz_49 ⟨fun g => ?_, fun g => ?_⟩)
    · rw [if_pos g]; exact t4 _ _ _
    · rw [if_neg g]; exact t4 _ _ _
  have t2 : ∀ v n N, pw N X 236 34 [.int v, .int n] [] (ev_hp I J R T) (fun r h => r = some (.int (nz2 v n)) ∧ h = ev_hp I J R T) := fun v n N => by
    unfold nz2
    refine pw_p (nz_34 ⟨fun g => ?_, fun g => ?_⟩)
    · rw [if_pos g]; exact t3 _ _ _
    · rw [if_neg g]; exact t3 _ _ _
  have t1 : ∀ v n N, pw N X 236 19 [.int v, .int n] [] (ev_hp I J R T) (fun r h => r = some (.int (nz1 v n)) ∧ h = ev_hp I J R T) := fun v n N => by
    unfold nz1
    refine pw_p (nz_19 ⟨fun g => ?_, fun g => ?_⟩)
    · rw [if_pos g]; exact t2 _ _ _
    · rw [if_neg g]; exact t2 _ _ _
  refine pe_of (pw_p (nz_0 (pw_p (nz_8 ⟨fun g => ?_, fun g => ⟨?_, rfl⟩⟩))))
  · unfold nzF
    rw [if_pos g]
    exact t1 _ _ _
  · unfold nzF
    rw [if_neg g]
end
/-- a number less one, by its lowest bit -/
theorem tb_pred {a j : Nat} (hj : a.testBit j = true) (h0 : ∀ i, i < j → a.testBit i = false) (i : Nat) : (a - 1).testBit i = if i < j then true else if i = j then false else a.testBit i := by
  have e1 : a % 2 ^ j = 0 := by
    apply Nat.eq_of_testBit_eq
    intro i
    rw [Nat.testBit_mod_two_pow, Nat.zero_testBit]
    by_cases h : i < j
    · rw [h0 i h, Bool.and_false]
    · rw [decide_eq_false h, Bool.false_and]
  have e2 : a / 2 ^ j % 2 = 1 := by
    rw [Nat.testBit_eq_decide_div_mod_eq] at hj
    exact of_decide_eq_true hj
  have hp : 0 < 2 ^ j := Nat.two_pow_pos j
  have e3 : a = 2 ^ j * (a / 2 ^ j) := by
    have := Nat.div_add_mod a (2 ^ j)
    omega
  have e4 : a / 2 ^ j = 2 * (a / 2 ^ j / 2) + 1 := by omega
  generalize a / 2 ^ j / 2 = m at e4
  have e5 : a = 2 ^ (j + 1) * m + 2 ^ j := by
    rw [e3, e4, Nat.mul_add, Nat.mul_one, Nat.pow_succ, Nat.mul_assoc]
  have e6 : a - 1 = 2 ^ (j + 1) * m + (2 ^ j - 1) := by omega
  have hb : 2 ^ j - 1 < 2 ^ (j + 1) := by
    rw [Nat.pow_succ]
    omega
  have hb2 : 2 ^ j < 2 ^ (j + 1) := by
    rw [Nat.pow_succ]
    omega
  rw [e6, Nat.testBit_two_pow_mul_add m hb]
  by_cases h1 : i < j
  · rw [if_pos (by omega), if_pos h1, Nat.testBit_two_pow_sub_one, decide_eq_true h1]
  · rw [if_neg h1]
    by_cases h2 : i = j
    · rw [if_pos h2, if_pos (by omega), Nat.testBit_two_pow_sub_one, decide_eq_false h1]
    · rw [if_neg h2, if_neg (by omega)]
      rw [e5, Nat.testBit_two_pow_mul_add m hb2, if_neg (by omega)]
theorem kb_tb (z : Int64) (i : Nat) : kb z i = z.toBitVec.toNat.testBit i := rfl
theorem kbI_tb (x : Int32) (i : Nat) : kbI x i = x.toBitVec.toNat.testBit i := rfl
theorem tb_pos {a j : Nat} (hj : a.testBit j = true) : 0 < a := by
  apply Nat.pos_of_ne_zero
  rintro rfl
  rw [Nat.zero_testBit] at hj
  cases hj
theorem kb_pred {z : Int64} {j : Nat} (hj : kb z j = true) (h0 : ∀ i, i < j → kb z i = false) (i : Nat) : kb (z - 1) i = if i < j then true else if i = j then false else kb z i := by
  rw [kb_tb] at hj
  have hp := tb_pos hj
  have hl := z.toBitVec.isLt
  rw [kb_tb, show (z - 1).toBitVec.toNat = z.toBitVec.toNat - 1 from by
    rw [Int64.toBitVec_sub, BitVec.toNat_sub, show (1 : Int64).toBitVec.toNat = 1 from by decide]
    omega]
  exact tb_pred hj h0 i
theorem kbI_pred {x : Int32} {j : Nat} (hj : kbI x j = true) (h0 : ∀ i, i < j → kbI x i = false) (i : Nat) : kbI (x - 1) i = if i < j then true else if i = j then false else kbI x i := by
  rw [kbI_tb] at hj
  have hp := tb_pos hj
  have hl := x.toBitVec.isLt
  rw [kbI_tb, show (x - 1).toBitVec.toNat = x.toBitVec.toNat - 1 from by
    rw [Int32.toBitVec_sub, BitVec.toNat_sub, show (1 : Int32).toBitVec.toNat = 1 from by decide]
    omega]
  exact tb_pred hj h0 i
/-- the lowest bit taken away -/
theorem kb_less {z : Int64} {j : Nat} (hj : kb z j = true) (h0 : ∀ i, i < j → kb z i = false) (i : Nat) : kb (z &&& (z - 1)) i = (kb z i && decide (i ≠ j)) := by
  rw [kb_and, kb_pred hj h0]
  by_cases h1 : i < j
  · rw [h0 i h1, Bool.false_and, Bool.false_and]
  · by_cases h2 : i = j
    · rw [if_neg h1, if_pos h2, decide_eq_false (p := i ≠ j) (fun z => z h2)]
    · rw [if_neg h1, if_neg h2, decide_eq_true (p := i ≠ j) h2]
      cases kb z i <;> rfl
theorem nz_mask {x : Int32} {j : Nat} (hj : kbI x j = true) (h0 : ∀ i, i < j → kbI x i = false) (hj2 : j < 32) : (x ^^^ (-1 : Int32)) &&& (x - (1 : Int32)) = Int32.ofNat (2 ^ j - 1) := by
  refine kbI_ext fun n hn => ?_
  have e1 : kbI (x ^^^ (-1 : Int32)) n = !kbI x n := by
    unfold kbI
    rw [Int32.toBitVec_xor, BitVec.getLsbD_xor, show (-1 : Int32).toBitVec = BitVec.allOnes 32 from by decide, BitVec.getLsbD_allOnes, decide_eq_true hn]
    cases BitVec.getLsbD x.toBitVec n <;> rfl
  have e2 : kbI (Int32.ofNat (2 ^ j - 1)) n = decide (n < j) := by
    show (BitVec.ofNat 32 (2 ^ j - 1)).getLsbD n = _
    rw [BitVec.getLsbD_ofNat, decide_eq_true hn, Bool.true_and, Nat.testBit_two_pow_sub_one]
  rw [kbI_and, e1, e2, kbI_pred hj h0]
  by_cases h1 : n < j
  · rw [h0 n h1, if_pos h1, decide_eq_true h1]
    rfl
  · rw [if_neg h1, decide_eq_false h1]
    by_cases h2 : n = j
    · rw [if_pos h2, Bool.and_false]
    · rw [if_neg h2]
      cases kbI x n <;> rfl
theorem nz_32 {x : Int32} {j : Nat} (hj : kbI x j = true) (h0 : ∀ i, i < j → kbI x i = false) (hj2 : j < 32) : nzF ((x ^^^ (-1 : Int32)) &&& (x - (1 : Int32))) = Int32.ofNat j := by
  rw [nz_mask hj h0 hj2]
  exact nzF_t j hj2
theorem kbI_lo (z : Int64) {n : Nat} (hn : n < 32) : kbI z.toInt32 n = kb z n := by
  unfold kbI kb
  rw [Int64.toBitVec_toInt32, BitVec.getLsbD_signExtend, decide_eq_true hn, if_pos (by omega), Bool.true_and]
theorem kb_us32 (z : Int64) (n : Nat) : kb (us z 32) n = kb z (32 + n) := by
  show ((z.toUInt64 >>> ((32 : Int32).toInt64.toUInt64 &&& Int64.toUInt64 63)).toBitVec).getLsbD n = _
  rw [UInt64.toBitVec_shiftRight, BitVec.ushiftRight_eq', show (((32 : Int32).toInt64.toUInt64 &&& Int64.toUInt64 63).toBitVec % 64).toNat = 32 from by decide, BitVec.getLsbD_ushiftRight]
  rfl
theorem low_bit {z : Int64} (hz : z ≠ 0) : ∃ j, j < 64 ∧ kb z j = true ∧ ∀ i, i < j → kb z i = false := by
  have key : ∀ n, (∀ i, i < n → kb z i = false) ∨ ∃ j, j < n ∧ kb z j = true ∧ ∀ i, i < j → kb z i = false := by
    intro n
    induction n with
    | zero => exact Or.inl fun i hi => absurd hi (by omega)
    | succ n ih =>
      rcases ih with h | ⟨j, h1, h2, h3⟩
      · cases hk : kb z n
        · exact Or.inl fun i hi => by
            by_cases h2 : i = n
            · rw [h2]
              exact hk
            · exact h i (by omega)
        · exact Or.inr ⟨n, by omega, hk, h⟩
      · exact Or.inr ⟨j, by omega, h2, h3⟩
  rcases key 64 with h | h
  · exact absurd (kb_ext fun n hn => by rw [h n hn, kb_0]) hz
  · exact h
section
variable {N : Nat} {X : ez_X} {I : Nat → Nat → Int32} {J : Nat → Nat → Int64} {R : Nat → Nat} {T : List ez_C} {z : Int64} {j : Nat}
theorem pe_ntz (hj : kb z j = true) (h0 : ∀ i, i < j → kb z i = false) (hj64 : j < 64) : pe N X 239 [.long z] (ev_hp I J R T) (fun r h => r = some (.int (Int32.ofNat j)) ∧ h = ev_hp I J R T) := by
  refine pe_of (pw_p (nl_0 ⟨fun g => ⟨_, pe_ntz32, ?_⟩, fun g => ⟨_, pe_ntz32, ?_⟩⟩))
  · rintro r h ⟨rfl, rfl⟩
    have hj2 : j < 32 := by
      apply Classical.byContradiction
      intro h1
      refine g (kbI_ext fun n hn => ?_)
      rw [kbI_lo z hn, h0 n (by omega)]
      exact (kbI_hi (k := 0) (by decide) (by omega)).symm
    rw [nz_32 (j := j) (by rw [kbI_lo z hj2]; exact hj) (fun i hi => by rw [kbI_lo z (by omega)]; exact h0 i hi) hj2]
    exact pw_p (nl_25 ⟨rfl, rfl⟩)
  · rintro r h ⟨rfl, rfl⟩
    have g := Classical.not_not.mp g
    have hj2 : 32 ≤ j := by
      apply Classical.byContradiction
      intro h1
      have h2 : kbI z.toInt32 j = true := by rw [kbI_lo z (by omega)]; exact hj
      rw [g, kbI_hi (k := 0) (by decide) (by omega)] at h2
      cases h2
    have e := nz_32 (x := (us z 32).toInt32) (j := j - 32) (by rw [kbI_lo _ (by omega), kb_us32, show 32 + (j - 32) = j by omega]; exact hj) (fun i hi => by rw [kbI_lo _ (by omega), kb_us32]; exact h0 _ (by omega)) (by omega)
    refine pw_p (nl_17 ⟨?_, rfl⟩)
    rw [show nzF ((((z.toUInt64 >>> ((32 : Int32).toInt64.toUInt64 &&& Int64.toUInt64 63)).toInt64).toInt32 ^^^ (-1 : Int32)) &&& (((z.toUInt64 >>> ((32 : Int32).toInt64.toUInt64 &&& Int64.toUInt64 63)).toInt64).toInt32 - (1 : Int32))) = Int32.ofNat (j - 32) from e, show (32 : Int32) = Int32.ofNat 32 from rfl, io_add, show 32 + (j - 32) = j by omega]
end
