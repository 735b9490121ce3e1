/-! The answers that are told: two bits a call in the class, a row in the reference. -/
abbrev td_s (c : Nat) : Int64 := (((2 : Int32) * Int32.ofNat c) : Int32).toInt64 &&& 63
abbrev td_u (c : Nat) : UInt64 := (((2 : Int32) * Int32.ofNat c) : Int32).toInt64.toUInt64 &&& 63
theorem td_a : ∀ c, c < 30 → ((td_s c).toBitVec.smod 64).toNat = 2 * c := by decide +kernel
theorem td_b : ∀ c, c < 30 → ((td_u c).toBitVec % 64).toNat = 2 * c := by decide +kernel
theorem kb_shl (v : Int64) {c : Nat} (hc : c < 30) (n : Nat) : kb (v <<< td_s c) n = (decide (n < 64) && !decide (n < 2 * c) && kb v (n - 2 * c)) := by
  unfold kb
  rw [Int64.toBitVec_shiftLeft, BitVec.shiftLeft_eq', td_a c hc, BitVec.getLsbD_shiftLeft]
theorem kb_shr (v : Int64) {c : Nat} (hc : c < 30) (n : Nat) : kb ((v.toUInt64 >>> td_u c).toInt64) n = kb v (2 * c + n) := by
  show ((v.toUInt64 >>> td_u c).toBitVec).getLsbD n = _
  rw [UInt64.toBitVec_shiftRight, BitVec.ushiftRight_eq', td_b c hc, BitVec.getLsbD_ushiftRight]
  rfl
theorem kb_not (x : Int64) {n : Nat} (hn : n < 64) : kb (x ^^^ (-1)) n = !kb x n := by
  unfold kb
  rw [Int64.toBitVec_xor, BitVec.getLsbD_xor, show (-1 : Int64).toBitVec = BitVec.allOnes 64 from by decide, BitVec.getLsbD_allOnes, decide_eq_true hn]
  cases BitVec.getLsbD x.toBitVec n <;> rfl
theorem kb_3 {n : Nat} (hn : 2 ≤ n) : kb 3 n = false := kb_hi (k := 2) (by decide) hn
theorem kb_v {v : Int32} (hv : v = 0 ∨ v = 1 ∨ v = 2) {n : Nat} (hn : 2 ≤ n) : kb v.toInt64 n = false := by
  rcases hv with rfl | rfl | rfl <;> exact kb_hi (k := 2) (by decide) hn
def td_v (b0 b1 : Bool) : Int32 := bif b1 then (bif b0 then 3 else 2) else (bif b0 then 1 else 0)
theorem td_known (x : Int64) {c : Nat} (hc : c < 30) : lg_cmp (((x.toUInt64 >>> td_u c).toInt64) &&& (1 : Int64)) 0 = 0 ↔ kb x (2 * c) = false := by
  rw [(fs_cmp _ _).2]
  constructor
  · intro h
    have h2 : kb (((x.toUInt64 >>> td_u c).toInt64) &&& (1 : Int64)) 0 = kb 0 0 := by rw [h]
    rw [kb_and, kb_shr x hc, show kb 1 0 = true from by decide, show kb 0 0 = false from by decide, Bool.and_true] at h2
    exact h2
  · intro h
    refine kb_ext fun n hn => ?_
    rw [kb_and, kb_shr x hc, show kb 0 n = false from kb_hi (k := 0) (by decide) (Nat.zero_le n)]
    cases n with
    | zero => rw [Nat.add_zero, h]; rfl
    | succ n => rw [kb_1 (by omega), Bool.and_false]
theorem td_two (x : Int64) {c : Nat} (hc : c < 30) : (((x.toUInt64 >>> td_u c).toInt64) &&& (3 : Int64)).toInt32 = td_v (kb x (2 * c)) (kb x (2 * c + 1)) := by
  have e : ∀ z : Int64, kb z 0 = kb x (2 * c) → kb z 1 = kb x (2 * c + 1) → (∀ n, 2 ≤ n → n < 64 → kb z n = false) → ((x.toUInt64 >>> td_u c).toInt64) &&& (3 : Int64) = z := by
    intro z h0 h1 h2
    refine kb_ext fun n hn => ?_
    rw [kb_and, kb_shr x hc]
    match n with
    | 0 => rw [h0, Nat.add_zero, show kb 3 0 = true from by decide, Bool.and_true]
    | 1 => rw [h1, show kb 3 1 = true from by decide, Bool.and_true]
    | n + 2 => rw [h2 (n + 2) (by omega) hn, kb_3 (by omega), Bool.and_false]
  cases hb0 : kb x (2 * c) <;> cases hb1 : kb x (2 * c + 1)
  · rw [e 0 (by rw [hb0]; decide) (by rw [hb1]; decide) (fun n h _ => kb_hi (k := 0) (by decide) (by omega))]; decide
  · rw [e 2 (by rw [hb0]; decide) (by rw [hb1]; decide) (fun n h _ => kb_hi (k := 2) (by decide) h)]; decide
  · rw [e 1 (by rw [hb0]; decide) (by rw [hb1]; decide) (fun n h _ => kb_1 (by omega))]; decide
  · rw [e 3 (by rw [hb0]; decide) (by rw [hb1]; decide) (fun n h _ => kb_3 h)]; decide
def td_at (A K : Int64) (c : Nat) : Int32 := bif kb K (2 * c) then td_v (kb A (2 * c)) (kb A (2 * c + 1)) else -1
theorem td_clr (x m : Int64) {c : Nat} (hc : c < 30) {n : Nat} (hn : n < 64) : kb (x &&& ((m <<< td_s c) ^^^ ((-1) : Int64))) n = (kb x n && !(!decide (n < 2 * c) && kb m (n - 2 * c))) := by
  rw [kb_and, kb_not _ hn, kb_shl m hc, decide_eq_true hn, Bool.true_and]
theorem td_far {c d n : Nat} (h : d ≠ c) (hn : n = 2 * d ∨ n = 2 * d + 1) (m : Int64) (hm : ∀ n, 2 ≤ n → kb m n = false) : (!decide (n < 2 * c) && kb m (n - 2 * c)) = false := by
  by_cases hlt : n < 2 * c
  · rw [decide_eq_true hlt]; rfl
  · rw [hm (n - 2 * c) (by omega), Bool.and_false]
theorem td_untell (A K : Int64) {c d : Nat} (hc : c < 30) (hd : d < 30) : td_at (A &&& (((3 : Int64) <<< td_s c) ^^^ ((-1) : Int64))) (K &&& (((1 : Int64) <<< td_s c) ^^^ ((-1) : Int64))) d = if d = c then -1 else td_at A K d := by
  have h1 : ∀ n, 2 ≤ n → kb 1 n = false := fun n hn => kb_1 (by omega)
  have h3 : ∀ n, 2 ≤ n → kb 3 n = false := fun n hn => kb_3 hn
  unfold td_at
  rw [td_clr K 1 hc (by omega), td_clr A 3 hc (by omega), td_clr A 3 hc (by omega)]
  split
  · rename_i h
    subst h
    rw [Nat.sub_self, show decide (2 * d < 2 * d) = false from decide_eq_false (Nat.lt_irrefl _), show kb 1 0 = true from by decide]
    simp
  · rename_i h
    rw [td_far h (Or.inl rfl) 1 h1, td_far h (Or.inl rfl) 3 h3, td_far h (Or.inr rfl) 3 h3]
    simp
theorem td_tell (A K : Int64) {v : Int32} (hv : v = 0 ∨ v = 1 ∨ v = 2) {c d : Nat} (hc : c < 30) (hd : d < 30) :
    td_at ((A &&& (((3 : Int64) <<< td_s c) ^^^ ((-1) : Int64))) ||| (v.toInt64 <<< td_s c)) ((K &&& (((1 : Int64) <<< td_s c) ^^^ ((-1) : Int64))) ||| ((1 : Int64) <<< td_s c)) d = if d = c then v else td_at A K d := by
  have h1 : ∀ n, 2 ≤ n → kb 1 n = false := fun n hn => kb_1 (by omega)
  have h3 : ∀ n, 2 ≤ n → kb 3 n = false := fun n hn => kb_3 hn
  have h4 : ∀ n, 2 ≤ n → kb v.toInt64 n = false := fun n hn => kb_v hv hn
  unfold td_at
  rw [kb_or, kb_or, kb_or, td_clr K 1 hc (by omega), td_clr A 3 hc (by omega), td_clr A 3 hc (by omega), kb_shl 1 hc, kb_shl v.toInt64 hc, kb_shl v.toInt64 hc, decide_eq_true (show 2 * d < 64 by omega), decide_eq_true (show 2 * d + 1 < 64 by omega)]
  simp only [Bool.true_and]
  split
  · rename_i h
    subst h
    rw [Nat.sub_self, show 2 * d + 1 - 2 * d = 1 by omega, show decide (2 * d < 2 * d) = false from decide_eq_false (Nat.lt_irrefl _), show decide (2 * d + 1 < 2 * d) = false from decide_eq_false (by omega), show kb 1 0 = true from by decide, show kb 3 0 = true from by decide, show kb 3 1 = true from by decide]
    rcases hv with rfl | rfl | rfl
    · rw [show kb (0 : Int32).toInt64 0 = false from by decide, show kb (0 : Int32).toInt64 1 = false from by decide]; simp [td_v]
    · rw [show kb (1 : Int32).toInt64 0 = true from by decide, show kb (1 : Int32).toInt64 1 = false from by decide]; simp [td_v]
    · rw [show kb (2 : Int32).toInt64 0 = false from by decide, show kb (2 : Int32).toInt64 1 = true from by decide]; simp [td_v]
  · rename_i h
    rw [td_far h (Or.inl rfl) 1 h1, td_far h (Or.inl rfl) 3 h3, td_far h (Or.inr rfl) 3 h3, td_far h (Or.inl rfl) v.toInt64 h4, td_far h (Or.inr rfl) v.toInt64 h4]
    simp
theorem td_none (A : Int64) (d : Nat) : td_at A 0 d = -1 := by
  unfold td_at
  rw [show kb 0 (2 * d) = false from kb_hi (k := 0) (by decide) (Nat.zero_le _)]
  rfl
theorem wi_012 {b : Int32} (h : ¬ ev_wi b 0 2 = 0) : b = 0 ∨ b = 1 ∨ b = 2 := by
  by_cases h0 : b = 0
  · exact Or.inl h0
  · by_cases h1 : b = 1
    · exact Or.inr (Or.inl h1)
    · exact Or.inr (Or.inr (wi_3 h h0 h1))
theorem ca_in {a x : Int32} (hx : 0 ≤ x.toInt ∧ x.toInt ≤ 30) (h : ¬ ev_wi a 0 (x - 1) = 0) : 0 ≤ a.toInt ∧ a.toInt < x.toInt := by
  obtain ⟨g1, g2⟩ := ev_wi_ne h
  have e0 : (0 : Int32).toInt = 0 := by decide
  have e : (x - 1).toInt = x.toInt - 1 := by
    rw [Int32.toInt_sub, show (1 : Int32).toInt = 1 from by decide, cx_bm32]
    simp only [cx_i32]
    omega
  omega
theorem td_is (A K : Int64) {c : Nat} (hc : c < 30) (h : ¬ lg_cmp (((K.toUInt64 >>> td_u c).toInt64) &&& (1 : Int64)) 0 = 0) : td_at A K c = (((A.toUInt64 >>> td_u c).toInt64) &&& (3 : Int64)).toInt32 := by
  rw [td_known K hc] at h
  unfold td_at
  rw [td_two A hc]
  cases hb : kb K (2 * c) with
  | true => rfl
  | false => exact absurd hb h
theorem td_not (A K : Int64) {c : Nat} (hc : c < 30) (h : ¬ ¬ lg_cmp (((K.toUInt64 >>> td_u c).toInt64) &&& (1 : Int64)) 0 = 0) : td_at A K c = -1 := by
  have h := nn h
  rw [td_known K hc] at h
  unfold td_at
  rw [h]
  rfl
