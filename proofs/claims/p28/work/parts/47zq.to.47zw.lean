section
/-! The answers that are told: two bits a call in the class, a row in the reference. -/
noncomputable abbrev td_s (c : Nat) : Int64 := (((2 : Int32) * Int32.ofNat c) : Int32).toInt64 &&& 63
noncomputable abbrev td_u (c : Nat) : UInt64 := (((2 : Int32) * Int32.ofNat c) : Int32).toInt64.toUInt64 &&& 63
theorem td_a : ∀ c, c < 30 → ((td_s c).toBitVec.smod 64).toNat = 2 * c := by decide +kernel
theorem td_b : ∀ c, c < 30 → ((td_u c).toBitVec % 64).toNat = 2 * c := by decide +kernel
theorem kb_shl (v : Int64) {c : Nat} (hc : c < 30) (n : Nat) : kb (v <<< td_s c) n = (decide (n < 64) && !decide (n < 2 * c) && kb v (n - 2 * c)) := by
  unfold kb
  rw [Int64.toBitVec_shiftLeft, BitVec.shiftLeft_eq', td_a c hc, BitVec.getLsbD_shiftLeft]
theorem kb_shr (v : Int64) {c : Nat} (hc : c < 30) (n : Nat) : kb ((v.toUInt64 >>> td_u c).toInt64) n = kb v (2 * c + n) := by
  show ((v.toUInt64 >>> td_u c).toBitVec).getLsbD n = _
  rw [UInt64.toBitVec_shiftRight, BitVec.ushiftRight_eq', td_b c hc, BitVec.getLsbD_ushiftRight]
  rfl
theorem kb_not (x : Int64) {n : Nat} (hn : n < 64) : kb (x ^^^ (-1)) n = !kb x n := by
  unfold kb
  rw [Int64.toBitVec_xor, BitVec.getLsbD_xor, show (-1 : Int64).toBitVec = BitVec.allOnes 64 from by decide, BitVec.getLsbD_allOnes, decide_eq_true hn]
  cases BitVec.getLsbD x.toBitVec n <;> rfl
theorem kb_3 {n : Nat} (hn : 2 ≤ n) : kb 3 n = false := kb_hi (k := 2) (by decide) hn
theorem kb_v {v : Int32} (hv : v = 0 ∨ v = 1 ∨ v = 2) {n : Nat} (hn : 2 ≤ n) : kb v.toInt64 n = false := by
  rcases hv with rfl | rfl | rfl <;> exact kb_hi (k := 2) (by decide) hn
noncomputable def td_v (b0 b1 : Bool) : Int32 := bif b1 then (bif b0 then 3 else 2) else (bif b0 then 1 else 0)
theorem td_known (x : Int64) {c : Nat} (hc : c < 30) : lg_cmp (((x.toUInt64 >>> td_u c).toInt64) &&& (1 : Int64)) 0 = 0 ↔ kb x (2 * c) = false := by
  rw [(fs_cmp _ _).2]
  constructor
  · intro h
    have h2 : kb (((x.toUInt64 >>> td_u c).toInt64) &&& (1 : Int64)) 0 = kb 0 0 := by rw [h]
    rw [kb_and, kb_shr x hc, show kb 1 0 = true from by decide, show kb 0 0 = false from by decide, Bool.and_true] at h2
    exact h2
  · intro h
    refine kb_ext fun n hn => ?_
    rw [kb_and, kb_shr x hc, show kb 0 n = false from kb_hi (k := 0) (by decide) (Nat.zero_le n)]
    cases n with
    | zero => rw [Nat.add_zero, h]; rfl
    | succ n => rw [kb_1 (by omega), Bool.and_false]
theorem td_two (x : Int64) {c : Nat} (hc : c < 30) : (((x.toUInt64 >>> td_u c).toInt64) &&& (3 : Int64)).toInt32 = td_v (kb x (2 * c)) (kb x (2 * c + 1)) := by
  have e : ∀ z : Int64, kb z 0 = kb x (2 * c) → kb z 1 = kb x (2 * c + 1) → (∀ n, 2 ≤ n → n < 64 → kb z n = false) → ((x.toUInt64 >>> td_u c).toInt64) &&& (3 : Int64) = z := by
    intro z h0 h1 h2
    refine kb_ext fun n hn => ?_
    rw [kb_and, kb_shr x hc]
    match n with
    | 0 => rw [h0, Nat.add_zero, show kb 3 0 = true from by decide, Bool.and_true]
    | 1 => rw [h1, show kb 3 1 = true from by decide, Bool.and_true]
    | n + 2 => rw [h2 (n + 2) (by omega) hn, kb_3 (by omega), Bool.and_false]
  cases hb0 : kb x (2 * c) <;> cases hb1 : kb x (2 * c + 1)
  · rw [e 0 (by rw [hb0]; decide) (by rw [hb1]; decide) (fun n h _ => kb_hi (k := 0) (by decide) (by omega))]; decide
  · rw [e 2 (by rw [hb0]; decide) (by rw [hb1]; decide) (fun n h _ => kb_hi (k := 2) (by decide) h)]; decide
  · rw [e 1 (by rw [hb0]; decide) (by rw [hb1]; decide) (fun n h _ => kb_1 (by omega))]; decide
  · rw [e 3 (by rw [hb0]; decide) (by rw [hb1]; decide) (fun n h _ => kb_3 h)]; decide
noncomputable def td_at (A K : Int64) (c : Nat) : Int32 := bif kb K (2 * c) then td_v (kb A (2 * c)) (kb A (2 * c + 1)) else -1
theorem td_clr (x m : Int64) {c : Nat} (hc : c < 30) {n : Nat} (hn : n < 64) : kb (x &&& ((m <<< td_s c) ^^^ ((-1) : Int64))) n = (kb x n && !(!decide (n < 2 * c) && kb m (n - 2 * c))) := by
  rw [kb_and, kb_not _ hn, kb_shl m hc, decide_eq_true hn, Bool.true_and]
theorem td_far {c d n : Nat} (h : d ≠ c) (hn : n = 2 * d ∨ n = 2 * d + 1) (m : Int64) (hm : ∀ n, 2 ≤ n → kb m n = false) : (!decide (n < 2 * c) && kb m (n - 2 * c)) = false := by
  by_cases hlt : n < 2 * c
  · rw [decide_eq_true hlt]; rfl
  · rw [hm (n - 2 * c) (by omega), Bool.and_false]
theorem td_untell (A K : Int64) {c d : Nat} (hc : c < 30) (hd : d < 30) : td_at (A &&& (((3 : Int64) <<< td_s c) ^^^ ((-1) : Int64))) (K &&& (((1 : Int64) <<< td_s c) ^^^ ((-1) : Int64))) d = if d = c then -1 else td_at A K d := by
  have h1 : ∀ n, 2 ≤ n → kb 1 n = false := fun n hn => kb_1 (by omega)
  have h3 : ∀ n, 2 ≤ n → kb 3 n = false := fun n hn => kb_3 hn
  unfold td_at
  rw [td_clr K 1 hc (by omega), td_clr A 3 hc (by omega), td_clr A 3 hc (by omega)]
  split
  · rename_i h
    subst h
    rw [Nat.sub_self, show decide (2 * d < 2 * d) = false from decide_eq_false (Nat.lt_irrefl _), show kb 1 0 = true from by decide]
    simp
  · rename_i h
    rw [td_far h (Or.inl rfl) 1 h1, td_far h (Or.inl rfl) 3 h3, td_far h (Or.inr rfl) 3 h3]
    simp
theorem td_tell (A K : Int64) {v : Int32} (hv : v = 0 ∨ v = 1 ∨ v = 2) {c d : Nat} (hc : c < 30) (hd : d < 30) :
    td_at ((A &&& (((3 : Int64) <<< td_s c) ^^^ ((-1) : Int64))) ||| (v.toInt64 <<< td_s c)) ((K &&& (((1 : Int64) <<< td_s c) ^^^ ((-1) : Int64))) ||| ((1 : Int64) <<< td_s c)) d = if d = c then v else td_at A K d := by
  have h1 : ∀ n, 2 ≤ n → kb 1 n = false := fun n hn => kb_1 (by omega)
  have h3 : ∀ n, 2 ≤ n → kb 3 n = false := fun n hn => kb_3 hn
  have h4 : ∀ n, 2 ≤ n → kb v.toInt64 n = false := fun n hn => kb_v hv hn
  unfold td_at
  rw [kb_or, kb_or, kb_or, td_clr K 1 hc (by omega), td_clr A 3 hc (by omega), td_clr A 3 hc (by omega), kb_shl 1 hc, kb_shl v.toInt64 hc, kb_shl v.toInt64 hc, decide_eq_true (show 2 * d < 64 by omega), decide_eq_true (show 2 * d + 1 < 64 by omega)]
  simp only [Bool.true_and]
  split
  · rename_i h
    subst h
    rw [Nat.sub_self, show 2 * d + 1 - 2 * d = 1 by omega, show decide (2 * d < 2 * d) = false from decide_eq_false (Nat.lt_irrefl _), show decide (2 * d + 1 < 2 * d) = false from decide_eq_false (by omega), show kb 1 0 = true from by decide, show kb 3 0 = true from by decide, show kb 3 1 = true from by decide]
    rcases hv with rfl | rfl | rfl
    · rw [show kb (0 : Int32).toInt64 0 = false from by decide, show kb (0 : Int32).toInt64 1 = false from by decide]; simp [td_v]
    · rw [show kb (1 : Int32).toInt64 0 = true from by decide, show kb (1 : Int32).toInt64 1 = false from by decide]; simp [td_v]
    · rw [show kb (2 : Int32).toInt64 0 = false from by decide, show kb (2 : Int32).toInt64 1 = true from by decide]; simp [td_v]
  · rename_i h
    rw [td_far h (Or.inl rfl) 1 h1, td_far h (Or.inl rfl) 3 h3, td_far h (Or.inr rfl) 3 h3, td_far h (Or.inl rfl) v.toInt64 h4, td_far h (Or.inr rfl) v.toInt64 h4]
    simp
theorem td_none (A : Int64) (d : Nat) : td_at A 0 d = -1 := by
  unfold td_at
  rw [show kb 0 (2 * d) = false from kb_hi (k := 0) (by decide) (Nat.zero_le _)]
  rfl
theorem wi_012 {b : Int32} (h : ¬ ev_wi b 0 2 = 0) : b = 0 ∨ b = 1 ∨ b = 2 := by
  by_cases h0 : b = 0
  · exact Or.inl h0
  · by_cases h1 : b = 1
    · exact Or.inr (Or.inl h1)
    · exact Or.inr (Or.inr (wi_3 h h0 h1))
theorem ca_in {a x : Int32} (hx : 0 ≤ x.toInt ∧ x.toInt ≤ 30) (h : ¬ ev_wi a 0 (x - 1) = 0) : 0 ≤ a.toInt ∧ a.toInt < x.toInt := by
  obtain ⟨g1, g2⟩ := ev_wi_ne h
  have e0 : (0 : Int32).toInt = 0 := by decide
  have e : (x - 1).toInt = x.toInt - 1 := by
    rw [Int32.toInt_sub, show (1 : Int32).toInt = 1 from by decide, cx_bm32]
    simp only [cx_i32]
    omega
  omega
theorem td_is (A K : Int64) {c : Nat} (hc : c < 30) (h : ¬ lg_cmp (((K.toUInt64 >>> td_u c).toInt64) &&& (1 : Int64)) 0 = 0) : td_at A K c = (((A.toUInt64 >>> td_u c).toInt64) &&& (3 : Int64)).toInt32 := by
  rw [td_known K hc] at h
  unfold td_at
  rw [td_two A hc]
  cases hb : kb K (2 * c) with
  | true => rfl
  | false => exact absurd hb h
theorem td_not (A K : Int64) {c : Nat} (hc : c < 30) (h : ¬ ¬ lg_cmp (((K.toUInt64 >>> td_u c).toInt64) &&& (1 : Int64)) 0 = 0) : td_at A K c = -1 := by
  have h := nn h
  rw [td_known K hc] at h
  unfold td_at
  rw [h]
  rfl
end
section
/-! Relation 3: the calls and their answers, the same on both sides. -/
abbrev c3_K : Type := Int32 × (Nat → Int64) × Int64 × Int64 × Int32 × (Nat → Int32) × (Nat → Int32) × (Nat → Int32) × Int32 × Int32 × Int32 × Int32 × Int32 × Int32 × (Nat → Int32)
noncomputable def ck (I : Nat → Nat → Int32) (J : Nat → Nat → Int64) : c3_K := (I 8 1, J 9, J 8 2, J 8 3, I 35 16, I 42, I 43, I 44, I 1 1, I 1 2, I 1 5, I 1 6, I 35 0 * I 35 1, I 1 4 + I 1 3, I 33)
noncomputable def tgt (a b : Int32) : Int64 := if b = -1 then (1 : Int64) <<< (a.toInt64 &&& 63) else ((1 : Int64) <<< (a.toInt64 &&& 63)) ||| ((1 : Int64) <<< (b.toInt64 &&& 63))
noncomputable def cel (x : Int32) : Prop := ∃ i : Nat, x = Int32.ofNat i ∧ i < 36
noncomputable def c3_r (tg : Nat → Int64) (A K : Int64) (one two told : Nat → Int32) (c : Nat) : Prop := tg c = tgt (one c) (two c) ∧ cel (one c) ∧ (two c = -1 ∨ (cel (two c) ∧ two c ≠ one c)) ∧ td_at A K c = told c ∧ (told c = -1 ∨ told c = 0 ∨ told c = 1 ∨ told c = 2)
theorem c3_rc {tg tg' : Nat → Int64} {A A' K K' : Int64} {one two told one' two' told' : Nat → Int32} {c : Nat} (h : c3_r tg A K one two told c) (e1 : tg' c = tg c) (e2 : one' c = one c) (e3 : two' c = two c) (e4 : td_at A' K' c = td_at A K c) (e5 : told' c = told c) : c3_r tg' A' K' one' two' told' c := by
  unfold c3_r
  rw [e1, e2, e3, e4, e5]
  exact h
noncomputable def C3 : c3_K → Prop
  | (n, tg, A, K, m, one, two, told, dx, dy, wr, cc, cm, wh, cnt) => ∃ k j : Nat, n = Int32.ofNat k ∧ k ≤ 30 ∧ m = n ∧ cc = cm ∧ cm = Int32.ofNat j ∧ j ≤ 36 ∧ (∀ c, c < k → c3_r tg A K one two told c) ∧ (∀ i, kb K i = true → i % 2 = 0 ∧ i / 2 < k) ∧ ((dx ≠ 0 ∨ dy ≠ 0) → wr ≠ 0) ∧ (∀ r, wh.toInt.toNat ≤ r → r < 12 → cnt r = -1) ∧ 0 ≤ wh.toInt
noncomputable def fx_grid (x y b : Int32) (f : Nat → Int32) : c3_K → c3_K
  | (n, tg, A, K, m, one, two, told, dx, dy, wr, cc, cm, wh, cnt) => if ev_wi x 2 6 = 0 then (n, tg, A, K, m, one, two, told, dx, dy, wr, cc, cm, wh, cnt) else if ev_wi y 2 6 = 0 then (n, tg, A, K, m, one, two, told, dx, dy, wr, cc, cm, wh, cnt) else (0, tg, 0, 0, m, one, two, told, 0, 0, b, x * y, cm, y + x, f)
noncomputable def fm_grid (x y : Int32) : c3_K → c3_K
  | (n, tg, A, K, m, one, two, told, dx, dy, wr, cc, cm, wh, cnt) => if ev_wi x 2 6 = 0 then (n, tg, A, K, m, one, two, told, dx, dy, wr, cc, cm, wh, cnt) else if ev_wi y 2 6 = 0 then (n, tg, A, K, m, one, two, told, dx, dy, wr, cc, cm, wh, cnt) else (n, tg, A, K, 0, one, two, told, dx, dy, wr, cc, x * y, wh, cnt)
noncomputable def fx_drift (x y : Int32) : c3_K → c3_K
  | (n, tg, A, K, m, one, two, told, dx, dy, wr, cc, cm, wh, cnt) => if ev_wi x (-1) 1 = 0 then (n, tg, A, K, m, one, two, told, dx, dy, wr, cc, cm, wh, cnt) else if ev_wi y (-1) 1 = 0 then (n, tg, A, K, m, one, two, told, dx, dy, wr, cc, cm, wh, cnt) else if wr = 0 then (n, tg, A, K, m, one, two, told, dx, dy, wr, cc, cm, wh, cnt) else (n, tg, A, K, m, one, two, told, x, y, wr, cc, cm, wh, cnt)
noncomputable def fx_call (x : Int32) : c3_K → c3_K
  | (n, tg, A, K, m, one, two, told, dx, dy, wr, cc, cm, wh, cnt) => if ev_wi x 0 (cc - 1) = 0 then (n, tg, A, K, m, one, two, told, dx, dy, wr, cc, cm, wh, cnt) else if n < 30 then (n + 1, ev_putJ 30 tg n ((1 : Int64) <<< (x.toInt64 &&& 63)), A, K, m, one, two, told, dx, dy, wr, cc, cm, wh, cnt) else (n, tg, A, K, m, one, two, told, dx, dy, wr, cc, cm, wh, cnt)
noncomputable def fm_call (x : Int32) : c3_K → c3_K
  | (n, tg, A, K, m, one, two, told, dx, dy, wr, cc, cm, wh, cnt) => if ev_wi x 0 (cm - 1) = 0 then (n, tg, A, K, m, one, two, told, dx, dy, wr, cc, cm, wh, cnt) else if m < 30 then (n, tg, A, K, m + 1, upd one m.toNatClampNeg x, upd two m.toNatClampNeg (-1), upd told m.toNatClampNeg (-1), dx, dy, wr, cc, cm, wh, cnt) else (n, tg, A, K, m, one, two, told, dx, dy, wr, cc, cm, wh, cnt)
noncomputable def fx_salvo (x y : Int32) : c3_K → c3_K
  | (n, tg, A, K, m, one, two, told, dx, dy, wr, cc, cm, wh, cnt) => if ev_wi x 0 (cc - 1) = 0 then (n, tg, A, K, m, one, two, told, dx, dy, wr, cc, cm, wh, cnt) else if ev_wi y 0 (cc - 1) = 0 then (n, tg, A, K, m, one, two, told, dx, dy, wr, cc, cm, wh, cnt) else if x = y then (n, tg, A, K, m, one, two, told, dx, dy, wr, cc, cm, wh, cnt) else if n < 30 then (n + 1, ev_putJ 30 tg n (((1 : Int64) <<< (x.toInt64 &&& 63)) ||| ((1 : Int64) <<< (y.toInt64 &&& 63))), A, K, m, one, two, told, dx, dy, wr, cc, cm, wh, cnt) else (n, tg, A, K, m, one, two, told, dx, dy, wr, cc, cm, wh, cnt)
noncomputable def fm_salvo (x y : Int32) : c3_K → c3_K
  | (n, tg, A, K, m, one, two, told, dx, dy, wr, cc, cm, wh, cnt) => if ev_wi x 0 (cm - 1) = 0 then (n, tg, A, K, m, one, two, told, dx, dy, wr, cc, cm, wh, cnt) else if ev_wi y 0 (cm - 1) = 0 then (n, tg, A, K, m, one, two, told, dx, dy, wr, cc, cm, wh, cnt) else if x = y then (n, tg, A, K, m, one, two, told, dx, dy, wr, cc, cm, wh, cnt) else if m < 30 then (n, tg, A, K, m + 1, upd one m.toNatClampNeg x, upd two m.toNatClampNeg y, upd told m.toNatClampNeg (-1), dx, dy, wr, cc, cm, wh, cnt) else (n, tg, A, K, m, one, two, told, dx, dy, wr, cc, cm, wh, cnt)
noncomputable def fx_answer (x y : Int32) : c3_K → c3_K
  | (n, tg, A, K, m, one, two, told, dx, dy, wr, cc, cm, wh, cnt) => if ev_wi x 0 (n - 1) = 0 then (n, tg, A, K, m, one, two, told, dx, dy, wr, cc, cm, wh, cnt) else if ev_wi y 0 2 = 0 then (n, tg, A, K, m, one, two, told, dx, dy, wr, cc, cm, wh, cnt) else (n, tg, (((A) &&& (((3 : Int64) <<< ((((2 : Int32) * x) : Int32).toInt64 &&& 63)) ^^^ ((-1) : Int64))) ||| ((y.toInt64) <<< ((((2 : Int32) * x) : Int32).toInt64 &&& 63))), (((K) &&& (((1 : Int64) <<< ((((2 : Int32) * x) : Int32).toInt64 &&& 63)) ^^^ ((-1) : Int64))) ||| ((1 : Int64) <<< ((((2 : Int32) * x) : Int32).toInt64 &&& 63))), m, one, two, told, dx, dy, wr, cc, cm, wh, cnt)
noncomputable def fm_answer (x y : Int32) : c3_K → c3_K
  | (n, tg, A, K, m, one, two, told, dx, dy, wr, cc, cm, wh, cnt) => if ev_wi x 0 (m - 1) = 0 then (n, tg, A, K, m, one, two, told, dx, dy, wr, cc, cm, wh, cnt) else if ev_wi y 0 2 = 0 then (n, tg, A, K, m, one, two, told, dx, dy, wr, cc, cm, wh, cnt) else (n, tg, A, K, m, one, two, upd told x.toNatClampNeg y, dx, dy, wr, cc, cm, wh, cnt)
noncomputable def fx_lose (x : Int32) : c3_K → c3_K
  | (n, tg, A, K, m, one, two, told, dx, dy, wr, cc, cm, wh, cnt) => if ev_wi x 0 (n - 1) = 0 then (n, tg, A, K, m, one, two, told, dx, dy, wr, cc, cm, wh, cnt) else if td_at A K x.toNatClampNeg = -1 then (n, tg, A, K, m, one, two, told, dx, dy, wr, cc, cm, wh, cnt) else (n, tg, ((A) &&& (((3 : Int64) <<< ((((2 : Int32) * x) : Int32).toInt64 &&& 63)) ^^^ ((-1) : Int64))), ((K) &&& (((1 : Int64) <<< ((((2 : Int32) * x) : Int32).toInt64 &&& 63)) ^^^ ((-1) : Int64))), m, one, two, told, dx, dy, wr, cc, cm, wh, cnt)
noncomputable def fm_lose (x : Int32) : c3_K → c3_K
  | (n, tg, A, K, m, one, two, told, dx, dy, wr, cc, cm, wh, cnt) => if ev_wi x 0 (m - 1) = 0 then (n, tg, A, K, m, one, two, told, dx, dy, wr, cc, cm, wh, cnt) else if told x.toNatClampNeg = -1 then (n, tg, A, K, m, one, two, told, dx, dy, wr, cc, cm, wh, cnt) else (n, tg, A, K, m, one, two, upd told x.toNatClampNeg (-1), dx, dy, wr, cc, cm, wh, cnt)
noncomputable def fx_back  : c3_K → c3_K
  | (n, tg, A, K, m, one, two, told, dx, dy, wr, cc, cm, wh, cnt) => if n = 0 then (n, tg, A, K, m, one, two, told, dx, dy, wr, cc, cm, wh, cnt) else (n - 1, tg, ((A) &&& (((3 : Int64) <<< ((((2 : Int32) * (n - (1 : Int32))) : Int32).toInt64 &&& 63)) ^^^ ((-1) : Int64))), ((K) &&& (((1 : Int64) <<< ((((2 : Int32) * (n - (1 : Int32))) : Int32).toInt64 &&& 63)) ^^^ ((-1) : Int64))), m, one, two, told, dx, dy, wr, cc, cm, wh, cnt)
noncomputable def fm_back  : c3_K → c3_K
  | (n, tg, A, K, m, one, two, told, dx, dy, wr, cc, cm, wh, cnt) => if m = 0 then (n, tg, A, K, m, one, two, told, dx, dy, wr, cc, cm, wh, cnt) else (n, tg, A, K, m - 1, one, two, told, dx, dy, wr, cc, cm, wh, cnt)
noncomputable def fx_count (x y : Int32) : c3_K → c3_K
  | (n, tg, A, K, m, one, two, told, dx, dy, wr, cc, cm, wh, cnt) => if ev_wi x 0 (wh - 1) = 0 then (n, tg, A, K, m, one, two, told, dx, dy, wr, cc, cm, wh, cnt) else if ev_wi y 0 7 = 0 then (n, tg, A, K, m, one, two, told, dx, dy, wr, cc, cm, wh, cnt) else (n, tg, A, K, m, one, two, told, dx, dy, wr, cc, cm, wh, ev_put 12 cnt x (if y = 7 then -1 else y))
theorem pv_s (f : Nat → Int64) (k : Nat) (x : Int64) : vp_updL f k x k = x := by simp [vp_updL]
theorem pv_n (f : Nat → Int64) {k q : Nat} (x : Int64) (h : q ≠ k) : vp_updL f k x q = f q := by simp [vp_updL, h]
noncomputable def rl3 (I : Nat → Nat → Int32) (J : Nat → Nat → Int64) (R : Nat → Nat) (T : List ez_C) : Prop := rl2 I J R T ∧ C3 (ck I J)
noncomputable def ck_l : List (Nat × Nat) := [(8, 1), (8, 2), (8, 3), (35, 16), (1, 1), (1, 2), (1, 5), (1, 6), (35, 0), (35, 1), (1, 4), (1, 3)]
noncomputable def ck_fx (md : List (Nat × Nat)) : Bool := (ck_l.all fun e => !cx_may md e.1 e.2) && ([9, 42, 43, 44, 33].all fun a => fr_no md a)
section
variable {I I' : Nat → Nat → Int32} {J J' : Nat → Nat → Int64} {R R' : Nat → Nat} {T T' : List ez_C}
theorem ck_hp (e : ev_hp I J R T = ev_hp I' J' R' T') : ck I J = ck I' J' := by
  have f1 : ∀ k, (k = 1 ∨ k = 2 ∨ k = 3 ∨ k = 4 ∨ k = 5 ∨ k = 6) → I 1 k = I' 1 k := by
    intro k hk
    rcases hk with rfl | rfl | rfl | rfl | rfl | rfl <;> exact hp_fld (n := 0) (show cx_Ds[1]? = some (0 + 2, _, _) from rfl) rfl e
  have f8 : I 8 1 = I' 8 1 := hp_fld (n := 0) (show cx_Ds[8]? = some (0 + 2, _, _) from rfl) rfl e
  have g2 : J 8 2 = J' 8 2 := hp_fldJ (n := 0) (show cx_Ds[8]? = some (0 + 2, _, _) from rfl) rfl e
  have g3 : J 8 3 = J' 8 3 := hp_fldJ (n := 0) (show cx_Ds[8]? = some (0 + 2, _, _) from rfl) rfl e
  have f35 : ∀ k, (k = 0 ∨ k = 1 ∨ k = 16) → I 35 k = I' 35 k := by
    intro k hk
    rcases hk with rfl | rfl | rfl <;> exact hp_fld (n := 0) (show cx_Ds[35]? = some (0 + 2, _, _) from rfl) rfl e
  have f42 : I 42 = I' 42 := hp_row (show cx_Ds[42]? = some (0, _, _) from rfl) e
  have f43 : I 43 = I' 43 := hp_row (show cx_Ds[43]? = some (0, _, _) from rfl) e
  have f44 : I 44 = I' 44 := hp_row (show cx_Ds[44]? = some (0, _, _) from rfl) e
  have f33 : I 33 = I' 33 := hp_row (show cx_Ds[33]? = some (0, _, _) from rfl) e
  have f9 : J 9 = J' 9 := hp_rowJ (show cx_Ds[9]? = some (1, _, _) from rfl) e
  unfold ck
  rw [f1 1 (by decide), f1 2 (by decide), f1 3 (by decide), f1 4 (by decide), f1 5 (by decide), f1 6 (by decide), f8, g2, g3, f35 0 (by decide), f35 1 (by decide), f35 16 (by decide), f42, f43, f44, f33, f9]
theorem ck_fr {md : List (Nat × Nat)} (h : ck_fx md = true) (hf : cx_fr md I J I' J') : ck I' J' = ck I J := by
  obtain ⟨h1, h2⟩ := Bool.and_eq_true_iff.mp h
  have f : ∀ a k, (a, k) ∈ ck_l → I' a k = I a k ∧ J' a k = J a k := fun a k hm => hf a k (by
    have := List.all_eq_true.mp h1 (a, k) hm
    simpa using this)
  have g : ∀ a, a ∈ [9, 42, 43, 44, 33] → fr_no md a = true := fun a hm => List.all_eq_true.mp h2 a hm
  unfold ck
  rw [(f 8 1 (by decide)).1, (f 8 2 (by decide)).2, (f 8 3 (by decide)).2, (f 35 16 (by decide)).1, (f 1 1 (by decide)).1, (f 1 2 (by decide)).1, (f 1 5 (by decide)).1, (f 1 6 (by decide)).1, (f 35 0 (by decide)).1, (f 35 1 (by decide)).1, (f 1 4 (by decide)).1, (f 1 3 (by decide)).1,
    fr_I (g 42 (by decide)) hf, fr_I (g 43 (by decide)) hf, fr_I (g 44 (by decide)) hf, fr_I (g 33 (by decide)) hf, fr_J (g 9 (by decide)) hf]
end
theorem lw_monoL {T : List ez_C} {M M2 : Int64 → (Nat → Nat → Int32) → (Nat → Nat → Int64) → (Nat → Nat) → List ez_C → Prop} (h : ∀ v I J R T, M v I J R T → M2 v I J R T) : ∀ r h1 c k, lw_midL T M r h1 c k → lw_midL T M2 r h1 c k := fun r h1 c k ⟨v, I, J, R, T, e1, e2, e3, e4, e5, e6⟩ => ⟨v, I, J, R, T, e1, e2, e3, e4, e5, h _ _ _ _ _ e6⟩
section
variable {X : ez_X} {m : Nat} {K : cx_K} {as : List Value} {σ0 : List Int} {I : Nat → Nat → Int32} {J : Nat → Nat → Int64} {R : Nat → Nat} {T : List ez_C} {P : (Nat → Nat → Int32) → (Nat → Nat → Int64) → Prop}
theorem r3_w {M : Int32 → (Nat → Nat → Int32) → (Nat → Nat → Int64) → (Nat → Nat) → List ez_C → Prop} (hl : ev_W X m 0 (ez_lay as) [] (ev_hp I J R T) 0 0 (lw_mid T M)) (he : ev_W X m 0 (ez_lay as) [] (ev_hp I J R T) 0 0 (fun _ h _ _ => ∃ A B, h = ev_hp A B R T ∧ P A B)) : ev_W X m 0 (ez_lay as) [] (ev_hp I J R T) 0 0 (lw_mid T (fun v I1 J1 R1 T1 => M v I1 J1 R1 T1 ∧ ∃ A B, ck I1 J1 = ck A B ∧ P A B)) := by
  refine (hl.both he).mono ?_
  rintro r h c k ⟨⟨v, I1, J1, R1, T1, e1, e2, e3, e4, e5, e6⟩, A, B, q1, q2⟩
  exact ⟨v, I1, J1, R1, T1, e1, e2, e3, e4, e5, e6, A, B, ck_hp (e2.symm.trans q1), q2⟩
theorem r3_wp {M : Int32 → (Nat → Nat → Int32) → (Nat → Nat → Int64) → (Nat → Nat) → List ez_C → Prop} (hl : ev_W X m 0 (ez_lay as) [] (ev_hp I J R T) 0 0 (lw_mid T M)) (he : ∀ N, pe N X m as (ev_hp I J R T) (fun _ h => ∃ A B, h = ev_hp A B R T ∧ P A B)) : ev_W X m 0 (ez_lay as) [] (ev_hp I J R T) 0 0 (lw_mid T (fun v I1 J1 R1 T1 => M v I1 J1 R1 T1 ∧ ∃ A B, ck I1 J1 = ck A B ∧ P A B)) := by
  refine (W_pe hl he).mono ?_
  rintro r h c k ⟨⟨v, I1, J1, R1, T1, e1, e2, e3, e4, e5, e6⟩, A, B, q1, q2⟩
  exact ⟨v, I1, J1, R1, T1, e1, e2, e3, e4, e5, e6, A, B, ck_hp (e2.symm.trans q1), q2⟩
theorem r3_v {M : Int32 → (Nat → Nat → Int32) → (Nat → Nat → Int64) → (Nat → Nat) → List ez_C → Prop} (hl : ev_W X m 0 (ez_lay as) [] (ev_hp I J R T) 0 0 (lw_mid T M)) (hv : cx_valid cx_B0 m K) (hX2 : X.1 < 2 ^ 31) (hh : cx_hok cx_B0 I R T) (hok : cx_ok σ0 K.1 (ez_lay as) [] I T) : ev_W X m 0 (ez_lay as) [] (ev_hp I J R T) 0 0 (lw_mid T (fun v I1 J1 R1 T1 => M v I1 J1 R1 T1 ∧ ∃ A B, ck I1 J1 = ck A B ∧ cx_fr K.2.1 I J A B)) := by
  refine (hl.both (hv X σ0 _ I J R T hX2 hh hok)).mono ?_
  rintro r h c k ⟨⟨v, I1, J1, R1, T1, e1, e2, e3, e4, e5, e6⟩, A, B, R2, T2, q1, -, q3, -⟩
  exact ⟨v, I1, J1, R1, T1, e1, e2, e3, e4, e5, e6, A, B, ck_hp (e2.symm.trans q1), q3⟩
theorem r3_vL {M : Int64 → (Nat → Nat → Int32) → (Nat → Nat → Int64) → (Nat → Nat) → List ez_C → Prop} (hl : ev_W X m 0 (ez_lay as) [] (ev_hp I J R T) 0 0 (lw_midL T M)) (hv : cx_valid cx_B0 m K) (hX2 : X.1 < 2 ^ 31) (hh : cx_hok cx_B0 I R T) (hok : cx_ok σ0 K.1 (ez_lay as) [] I T) : ev_W X m 0 (ez_lay as) [] (ev_hp I J R T) 0 0 (lw_midL T (fun v I1 J1 R1 T1 => M v I1 J1 R1 T1 ∧ ∃ A B, ck I1 J1 = ck A B ∧ cx_fr K.2.1 I J A B)) := by
  refine (hl.both (hv X σ0 _ I J R T hX2 hh hok)).mono ?_
  rintro r h c k ⟨⟨v, I1, J1, R1, T1, e1, e2, e3, e4, e5, e6⟩, A, B, R2, T2, q1, -, q3, -⟩
  exact ⟨v, I1, J1, R1, T1, e1, e2, e3, e4, e5, e6, A, B, ck_hp (e2.symm.trans q1), q3⟩
end
section
variable {N : Nat} {X : ez_X} {I : Nat → Nat → Int32} {J : Nat → Nat → Int64} {R : Nat → Nat} {T : List ez_C} {Q : pw_Q} {cz kz : Nat}
set_option maxRecDepth 100000 in
theorem cz_r0 {a0 : Int32} {a1 : Int32} : ∀ G : ez_F, fx_up X 3 G 166 0 [.ref 35, .int a0, .int a1] [] (ev_hp I J R T) cz kz = ev_C G 199 [.ref 35, .int a0] (ev_hp I J R T) fun r h1 c1 k1 => G 166 5 [.ref 35, .int a0, .int a1] (r.toList ++ []) h1 (cz + c1) (kz + k1) := by
  intro G
  rfl
set_option maxRecDepth 100000 in
theorem cz_r1 {a0 : Int32} {a1 : Int32} {a2 : Int32} : ∀ G : ez_F, fx_up X 1 G 166 5 [.ref 35, .int a0, .int a1] [.int a2] (ev_hp I J R T) cz kz = bif decide (¬ a2 = (0 : Int32)) then G 166 11 [.ref 35, .int a0, .int a1] [] (ev_hp I J R T) cz kz else G 166 8 [.ref 35, .int a0, .int a1] [] (ev_hp I J R T) cz kz := by
  intro G
  rfl
set_option maxRecDepth 100000 in
theorem cz_r2 {a0 : Int32} {a1 : Int32} : ∀ G : ez_F, fx_up X 5 G 166 11 [.ref 35, .int a0, .int a1] [] (ev_hp I J R T) cz kz = ev_C G 198 [.long a1.toInt64, .long (0 : Int64), .long (2 : Int64)] (ev_hp I J R T) fun r h1 c1 k1 => G 166 20 [.ref 35, .int a0, .int a1] (r.toList ++ []) h1 (cz + c1) (kz + k1) := by
  intro G
  rfl
set_option maxRecDepth 100000 in
theorem cz_r3 {a0 : Int32} {a1 : Int32} {a2 : Int32} : ∀ G : ez_F, fx_up X 1 G 166 20 [.ref 35, .int a0, .int a1] [.int a2] (ev_hp I J R T) cz kz = bif decide (¬ a2 = (0 : Int32)) then G 166 26 [.ref 35, .int a0, .int a1] [] (ev_hp I J R T) cz kz else G 166 23 [.ref 35, .int a0, .int a1] [] (ev_hp I J R T) cz kz := by
  intro G
  rfl
set_option maxRecDepth 100000 in
theorem cz_r4 {a0 : Int32} {a1 : Int32} : ∀ G : ez_F, fx_up X 3 G 166 26 [.ref 35, .int a0, .int a1] [] (ev_hp I J R T) cz kz = G 166 31 [.ref 35, .int a0, .int a1] [.int a0, .ref 44] (ev_hp I J R T) cz kz := by
  intro G
  rfl
set_option maxRecDepth 100000 in
theorem cz_r5 {a0 : Int32} {a1 : Int32} {a2 : Int32} : ∀ G : ez_F, fx_up X 5 G 166 32 [.ref 35, .int a0, .int a1] [.int a2] (ev_hp I J R T) cz kz = G 166 39 [.ref 35, .int a0, .int a1, .int a2] [.int a1, .int a0, .ref 44] (ev_hp I J R T) cz kz := by
  intro G
  rfl
set_option maxRecDepth 100000 in
theorem cz_r6 {a0 : Int32} {a1 : Int32} {a2 : Int32} : ∀ G : ez_F, fx_up X 2 G 166 40 [.ref 35, .int a0, .int a1, .int a2] [] (ev_hp I J R T) cz kz = some (some (.int a2), (ev_hp I J R T), cz, kz) := by
  intro G
  rfl
set_option maxRecDepth 100000 in
theorem cz_r7 {a0 : Int32} {a1 : Int32} : ∀ G : ez_F, fx_up X 2 G 166 23 [.ref 35, .int a0, .int a1] [] (ev_hp I J R T) cz kz = some (some (.int (-3 : Int32)), (ev_hp I J R T), cz, kz) := by
  intro G
  rfl
set_option maxRecDepth 100000 in
theorem cz_r8 {a0 : Int32} {a1 : Int32} : ∀ G : ez_F, fx_up X 2 G 166 8 [.ref 35, .int a0, .int a1] [] (ev_hp I J R T) cz kz = some (some (.int (-2 : Int32)), (ev_hp I J R T), cz, kz) := by
  intro G
  rfl
theorem cz_answer {x y : Int32}
    (H : ((¬ (ev_il (x.toInt64) 0 ((((I 35 16)) - (1 : Int32)).toInt64)) = (0 : Int32) → ((¬ (ev_il y.toInt64 (0 : Int64) (2 : Int64)) = (0 : Int32) → (ev_ix x 30 → (ev_ix x 30 → Q (some (.int (I 44 x.toNatClampNeg))) (ev_hp (ev_sI I 44 (upd (I 44) x.toNatClampNeg y)) J R T)))) ∧ (¬ (¬ (ev_il y.toInt64 (0 : Int64) (2 : Int64)) = (0 : Int32)) → Q (some (.int (-3 : Int32))) (ev_hp I J R T)))) ∧ (¬ (¬ (ev_il (x.toInt64) 0 ((((I 35 16)) - (1 : Int32)).toInt64)) = (0 : Int32)) → Q (some (.int (-2 : Int32))) (ev_hp I J R T)))) : pw (N + 1) X 166 0 [.ref 35, .int x, .int y] [] (ev_hp I J R T) Q := by
  refine pw_callp (by decide) (fun _ _ => cz_r0) (pe_is (em_isCall _ _ _ _ _ _)) ?_
  refine pw_p (pw_if (by decide) (fun _ _ => cz_r1) (fun w1 => ?_) (fun w1 => ?_))
  · have h1 := H.1 w1
    refine pw_p (pw_callp (by decide) (fun _ _ => cz_r2) (pe_is (ec_in _ _ _ _ _)) ?_)
    refine pw_p (pw_if (by decide) (fun _ _ => cz_r3) (fun w2 => ?_) (fun w2 => ?_))
    · have h2 := h1.1 w2
      refine pw_p (pw_seg (by decide) (fun _ _ => cz_r4) ?_)
      refine pw_p (pw_iald (by rfl) (cx_getI (show cx_Ds[44]? = some (0, 30, []) from rfl)) (fun w3 => ?_))
      have h3 := h2 w3
      refine pw_p (pw_seg (by decide) (fun _ _ => cz_r5) ?_)
      refine pw_p (pw_iast (by rfl) (cx_getI (show cx_Ds[44]? = some (0, 30, []) from rfl)) (cx_setI (show cx_Ds[44]? = some (0, 30, []) from rfl) _) (fun w3 => ?_))
      have h3 := h3 w3
      exact pw_p (pw_ret (by decide) (fun _ _ => cz_r6) h3)
    · have h2 := h1.2 w2
      exact pw_p (pw_ret (by decide) (fun _ _ => cz_r7) h2)
  · have h1 := H.2 w1
    exact pw_p (pw_ret (by decide) (fun _ _ => cz_r8) h1)
set_option maxRecDepth 100000 in
theorem cz_r9 {a0 : Int32} : ∀ G : ez_F, fx_up X 3 G 209 0 [.ref 35, .int a0] [] (ev_hp I J R T) cz kz = ev_C G 199 [.ref 35, .int a0] (ev_hp I J R T) fun r h1 c1 k1 => G 209 5 [.ref 35, .int a0] (r.toList ++ []) h1 (cz + c1) (kz + k1) := by
  intro G
  rfl
set_option maxRecDepth 100000 in
theorem cz_r10 {a0 : Int32} {a1 : Int32} : ∀ G : ez_F, fx_up X 1 G 209 5 [.ref 35, .int a0] [.int a1] (ev_hp I J R T) cz kz = bif decide (¬ a1 = (0 : Int32)) then G 209 11 [.ref 35, .int a0] [] (ev_hp I J R T) cz kz else G 209 8 [.ref 35, .int a0] [] (ev_hp I J R T) cz kz := by
  intro G
  rfl
set_option maxRecDepth 100000 in
theorem cz_r11 {a0 : Int32} : ∀ G : ez_F, fx_up X 3 G 209 11 [.ref 35, .int a0] [] (ev_hp I J R T) cz kz = G 209 16 [.ref 35, .int a0] [.int a0, .ref 44] (ev_hp I J R T) cz kz := by
  intro G
  rfl
set_option maxRecDepth 100000 in
theorem cz_r12 {a0 : Int32} {a1 : Int32} : ∀ G : ez_F, fx_up X 2 G 209 17 [.ref 35, .int a0] [.int a1] (ev_hp I J R T) cz kz = bif decide (¬ a1 = (-1 : Int32)) then G 209 24 [.ref 35, .int a0] [] (ev_hp I J R T) cz kz else G 209 21 [.ref 35, .int a0] [] (ev_hp I J R T) cz kz := by
  intro G
  rfl
set_option maxRecDepth 100000 in
theorem cz_r13 {a0 : Int32} : ∀ G : ez_F, fx_up X 4 G 209 24 [.ref 35, .int a0] [] (ev_hp I J R T) cz kz = G 209 30 [.ref 35, .int a0] [.int (-1 : Int32), .int a0, .ref 44] (ev_hp I J R T) cz kz := by
  intro G
  rfl
set_option maxRecDepth 100000 in
theorem cz_r14 {a0 : Int32} : ∀ G : ez_F, fx_up X 2 G 209 31 [.ref 35, .int a0] [] (ev_hp I J R T) cz kz = some (some (.int (1 : Int32)), (ev_hp I J R T), cz, kz) := by
  intro G
  rfl
set_option maxRecDepth 100000 in
theorem cz_r15 {a0 : Int32} : ∀ G : ez_F, fx_up X 2 G 209 21 [.ref 35, .int a0] [] (ev_hp I J R T) cz kz = some (some (.int (-4 : Int32)), (ev_hp I J R T), cz, kz) := by
  intro G
  rfl
set_option maxRecDepth 100000 in
theorem cz_r16 {a0 : Int32} : ∀ G : ez_F, fx_up X 2 G 209 8 [.ref 35, .int a0] [] (ev_hp I J R T) cz kz = some (some (.int (-2 : Int32)), (ev_hp I J R T), cz, kz) := by
  intro G
  rfl
theorem cz_lose {x : Int32}
    (H : ((¬ (ev_il (x.toInt64) 0 ((((I 35 16)) - (1 : Int32)).toInt64)) = (0 : Int32) → (ev_ix x 30 → ((¬ (I 44 x.toNatClampNeg) = (-1 : Int32) → (ev_ix x 30 → Q (some (.int (1 : Int32))) (ev_hp (ev_sI I 44 (upd (I 44) x.toNatClampNeg (-1 : Int32))) J R T))) ∧ (¬ (¬ (I 44 x.toNatClampNeg) = (-1 : Int32)) → Q (some (.int (-4 : Int32))) (ev_hp I J R T))))) ∧ (¬ (¬ (ev_il (x.toInt64) 0 ((((I 35 16)) - (1 : Int32)).toInt64)) = (0 : Int32)) → Q (some (.int (-2 : Int32))) (ev_hp I J R T)))) : pw (N + 1) X 209 0 [.ref 35, .int x] [] (ev_hp I J R T) Q := by
  refine pw_callp (by decide) (fun _ _ => cz_r9) (pe_is (em_isCall _ _ _ _ _ _)) ?_
  refine pw_p (pw_if (by decide) (fun _ _ => cz_r10) (fun w1 => ?_) (fun w1 => ?_))
  · have h1 := H.1 w1
    refine pw_p (pw_seg (by decide) (fun _ _ => cz_r11) ?_)
    refine pw_p (pw_iald (by rfl) (cx_getI (show cx_Ds[44]? = some (0, 30, []) from rfl)) (fun w2 => ?_))
    have h2 := h1 w2
    refine pw_p (pw_if (by decide) (fun _ _ => cz_r12) (fun w2 => ?_) (fun w2 => ?_))
    · have h2 := h2.1 w2
      refine pw_p (pw_seg (by decide) (fun _ _ => cz_r13) ?_)
      refine pw_p (pw_iast (by rfl) (cx_getI (show cx_Ds[44]? = some (0, 30, []) from rfl)) (cx_setI (show cx_Ds[44]? = some (0, 30, []) from rfl) _) (fun w3 => ?_))
      have h3 := h2 w3
      exact pw_p (pw_ret (by decide) (fun _ _ => cz_r14) h3)
    · have h2 := h2.2 w2
      exact pw_p (pw_ret (by decide) (fun _ _ => cz_r15) h2)
  · have h1 := H.2 w1
    exact pw_p (pw_ret (by decide) (fun _ _ => cz_r16) h1)
set_option maxRecDepth 100000 in
theorem cz_r17  : ∀ G : ez_F, fx_up X 2 G 168 0 [.ref 35] [] (ev_hp I J R T) cz kz = G 168 4 [.ref 35] [.int (I 35 16)] (ev_hp I J R T) cz kz := by
  intro G
  rfl
set_option maxRecDepth 100000 in
theorem cz_r18 {a0 : Int32} : ∀ G : ez_F, fx_up X 1 G 168 4 [.ref 35] [.int a0] (ev_hp I J R T) cz kz = bif decide (¬ a0 = (0 : Int32)) then G 168 10 [.ref 35] [] (ev_hp I J R T) cz kz else G 168 7 [.ref 35] [] (ev_hp I J R T) cz kz := by
  intro G
  rfl
set_option maxRecDepth 100000 in
theorem cz_r19  : ∀ G : ez_F, fx_up X 3 G 168 10 [.ref 35] [] (ev_hp I J R T) cz kz = G 168 15 [.ref 35] [.int (I 35 16), .ref 35] (ev_hp I J R T) cz kz := by
  intro G
  rfl
set_option maxRecDepth 100000 in
theorem cz_r20 {a0 : Int32} : ∀ G : ez_F, fx_up X 3 G 168 15 [.ref 35] [.int a0, .ref 35] (ev_hp I J R T) cz kz = G 168 20 [.ref 35] [] (ev_hp (ev_sI I 35 (upd (I 35) 16 (a0 - (1 : Int32)))) J R T) cz kz := by
  intro G
  rfl
set_option maxRecDepth 100000 in
theorem cz_r21  : ∀ G : ez_F, fx_up X 2 G 168 20 [.ref 35] [] (ev_hp I J R T) cz kz = G 168 24 [.ref 35] [.int (I 35 16)] (ev_hp I J R T) cz kz := by
  intro G
  rfl
set_option maxRecDepth 100000 in
theorem cz_r22 {a0 : Int32} : ∀ G : ez_F, fx_up X 1 G 168 24 [.ref 35] [.int a0] (ev_hp I J R T) cz kz = some (some (.int a0), (ev_hp I J R T), cz, kz) := by
  intro G
  rfl
set_option maxRecDepth 100000 in
theorem cz_r23  : ∀ G : ez_F, fx_up X 2 G 168 7 [.ref 35] [] (ev_hp I J R T) cz kz = some (some (.int (-4 : Int32)), (ev_hp I J R T), cz, kz) := by
  intro G
  rfl
theorem cz_back 
    (H : ((¬ (I 35 16) = (0 : Int32) → Q (some (.int ((I 35 16) - (1 : Int32)))) (ev_hp (ev_sI I 35 (upd (I 35) 16 ((I 35 16) - (1 : Int32)))) J R T)) ∧ (¬ (¬ (I 35 16) = (0 : Int32)) → Q (some (.int (-4 : Int32))) (ev_hp I J R T)))) : pw (N + 1) X 168 0 [.ref 35] [] (ev_hp I J R T) Q := by
  refine pw_seg (by decide) (fun _ _ => cz_r17) ?_
  refine pw_p (pw_if (by decide) (fun _ _ => cz_r18) (fun w1 => ?_) (fun w1 => ?_))
  · have h1 := H.1 w1
    refine pw_p (pw_seg (by decide) (fun _ _ => cz_r19) ?_)
    refine pw_p (pw_seg (by decide) (fun _ _ => cz_r20) ?_)
    refine pw_p (pw_seg (by decide) (fun _ _ => cz_r21) ?_)
    exact pw_p (pw_ret (by decide) (fun _ _ => cz_r22) h1)
  · have h1 := H.2 w1
    exact pw_p (pw_ret (by decide) (fun _ _ => cz_r23) h1)
end
/-! the calls that change it, exactly -/
section
variable {N : Nat} {X : ez_X} {I : Nat → Nat → Int32} {J : Nat → Nat → Int64} {R : Nat → Nat} {T : List ez_C}
theorem x3_grid (x y z : Int32) (hz : z = 0 ∨ z = 1) : ev_W X 18 0 (ez_lay [.ref 0, .int x, .int y, .int z]) [] (ev_hp I J R T) 0 0 (fun _ h _ _ => ∃ A B, h = ev_hp A B R T ∧ ∃ f, (∀ j, j < 12 → f j = -1) ∧ ck A B = fx_grid x y z f (ck I J)) := by
  rcases hz with rfl | rfl
  · refine (eg_grid0 X I J R T x y).mono ?_
    rintro r h1 c1 k1 (⟨a, e, hh, -⟩ | ⟨z, y, f, hf, a, b, e, hh, -⟩ | ⟨a, b, e, hh, -⟩)
    · exact ⟨I, J, hh, fun _ => -1, fun _ _ => rfl, (if_pos a).symm⟩
    · exact ⟨_, _, hh, f, hf, ((if_neg a).trans (if_neg b)).symm⟩
    · exact ⟨I, J, hh, fun _ => -1, fun _ _ => rfl, ((if_neg a).trans (if_pos (nn b))).symm⟩
  · refine (eg_grid1 X I J R T x y).mono ?_
    rintro r h1 c1 k1 (⟨a, e, hh, -⟩ | ⟨z, y, f, hf, a, b, e, hh, -⟩ | ⟨a, b, e, hh, -⟩)
    · exact ⟨I, J, hh, fun _ => -1, fun _ _ => rfl, (if_pos a).symm⟩
    · exact ⟨_, _, hh, f, hf, ((if_neg a).trans (if_neg b)).symm⟩
    · exact ⟨I, J, hh, fun _ => -1, fun _ _ => rfl, ((if_neg a).trans (if_pos (nn b))).symm⟩
theorem y3_grid (x y z : Int32) (hz : z = 0 ∨ z = 1) : ev_W X 195 0 (ez_lay [.ref 35, .int x, .int y, .int z]) [] (ev_hp I J R T) 0 0 (fun _ h _ _ => ∃ A B, h = ev_hp A B R T ∧ ck A B = fm_grid x y (ck I J)) := by
  rcases hz with rfl | rfl
  · refine (em_grid0 X I J R T x y).mono ?_
    rw [il_26 x, il_26 y]
    rintro r h1 c1 k1 (⟨a, e, hh, -⟩ | ⟨a, b, e, hh, -⟩ | ⟨a, b, e, hh, -⟩)
    · exact ⟨I, J, hh, (if_pos a).symm⟩
    · exact ⟨_, _, hh, ((if_neg a).trans (if_neg b)).symm⟩
    · exact ⟨I, J, hh, ((if_neg a).trans (if_pos (nn b))).symm⟩
  · refine (em_grid1 X I J R T x y).mono ?_
    rw [il_26 x, il_26 y]
    rintro r h1 c1 k1 (⟨a, e, hh, -⟩ | ⟨a, b, e, hh, -⟩ | ⟨a, b, e, hh, -⟩)
    · exact ⟨I, J, hh, (if_pos a).symm⟩
    · exact ⟨_, _, hh, ((if_neg a).trans (if_neg b)).symm⟩
    · exact ⟨I, J, hh, ((if_neg a).trans (if_pos (nn b))).symm⟩
theorem x3_drift (x y : Int32) : ev_W X 16 0 (ez_lay [.ref 0, .int x, .int y]) [] (ev_hp I J R T) 0 0 (fun _ h _ _ => ∃ A B, h = ev_hp A B R T ∧ ck A B = fx_drift x y (ck I J)) := by
  refine (eg_drift X I J R T x y).mono ?_
  rintro r h1 c1 k1 (⟨a0, e, hh, -⟩ | ⟨a0, a1, a2, e, hh, -⟩ | ⟨a0, a1, a2, e, hh, -⟩ | ⟨a0, a1, e, hh, -⟩)
  · exact ⟨I, J, hh, (if_pos a0).symm⟩
  · exact ⟨_, _, hh, ((if_neg a0).trans ((if_neg a1).trans (if_neg a2))).symm⟩
  · exact ⟨I, J, hh, ((if_neg a0).trans ((if_neg a1).trans (if_pos (nn a2)))).symm⟩
  · exact ⟨I, J, hh, ((if_neg a0).trans (if_pos (nn a1))).symm⟩
theorem x3_call (x : Int32) : ev_W X 10 0 (ez_lay [.ref 0, .int x]) [] (ev_hp I J R T) 0 0 (fun _ h _ _ => ∃ A B, h = ev_hp A B R T ∧ ck A B = fx_call x (ck I J)) := by
  refine (eg_call X I J R T x).mono ?_
  rintro r h1 c1 k1 (⟨a0, e, hh, -⟩ | ⟨a0, a1, e, hh, -⟩ | ⟨a0, a1, e, hh, -⟩)
  · exact ⟨I, J, hh, (if_pos a0).symm⟩
  · exact ⟨_, _, hh, ((if_neg a0).trans (if_pos a1)).symm⟩
  · exact ⟨I, J, hh, ((if_neg a0).trans (if_neg a1)).symm⟩
theorem y3_call (hB : cx_hB cx_B0 I) (x : Int32) : ev_W X 175 0 (ez_lay [.ref 35, .int x]) [] (ev_hp I J R T) 0 0 (fun _ h _ _ => ∃ A B, h = ev_hp A B R T ∧ ck A B = fm_call x (ck I J)) := by
  have hb := (b_ca hB).2
  refine (em_call X I J R T x (ca_ix hb)).mono ?_
  rw [il_0 x]
  rintro r h1 c1 k1 (⟨a0, a1, e, hh, -⟩ | ⟨a0, a1, e, hh, -⟩ | ⟨a0, e, hh, -⟩)
  · exact ⟨_, _, hh, ((if_neg a0).trans (if_pos (ca_lt hb a1))).symm⟩
  · exact ⟨I, J, hh, ((if_neg a0).trans (if_neg (show ¬ I 35 16 < 30 by rw [nn a1]; decide))).symm⟩
  · exact ⟨I, J, hh, (if_pos (nn a0)).symm⟩
theorem x3_salvo (x y : Int32) : ev_W X 41 0 (ez_lay [.ref 0, .int x, .int y]) [] (ev_hp I J R T) 0 0 (fun _ h _ _ => ∃ A B, h = ev_hp A B R T ∧ ck A B = fx_salvo x y (ck I J)) := by
  refine (eg_salvo X I J R T x y).mono ?_
  rintro r h1 c1 k1 (⟨a0, e, hh, -⟩ | ⟨a0, a1, a2, a3, e, hh, -⟩ | ⟨a0, a1, a2, a3, e, hh, -⟩ | ⟨a0, a1, a2, e, hh, -⟩ | ⟨a0, a1, e, hh, -⟩)
  · exact ⟨I, J, hh, (if_pos a0).symm⟩
  · exact ⟨_, _, hh, ((if_neg a0).trans ((if_neg a1).trans ((if_neg a2).trans (if_pos a3)))).symm⟩
  · exact ⟨I, J, hh, ((if_neg a0).trans ((if_neg a1).trans ((if_neg a2).trans (if_neg a3)))).symm⟩
  · exact ⟨I, J, hh, ((if_neg a0).trans ((if_neg a1).trans (if_pos (nn a2)))).symm⟩
  · exact ⟨I, J, hh, ((if_neg a0).trans (if_pos (nn a1))).symm⟩
theorem y3_salvo (hB : cx_hB cx_B0 I) (x y : Int32) : ev_W X 218 0 (ez_lay [.ref 35, .int x, .int y]) [] (ev_hp I J R T) 0 0 (fun _ h _ _ => ∃ A B, h = ev_hp A B R T ∧ ck A B = fm_salvo x y (ck I J)) := by
  have hb := (b_ca hB).2
  refine (em_salvo X I J R T x y (ca_ix hb)).mono ?_
  rw [il_0 x, il_0 y]
  rintro r h1 c1 k1 (⟨a0, e, hh, -⟩ | ⟨a0, a1, a2, a3, e, hh, -⟩ | ⟨a0, a1, a2, a3, e, hh, -⟩ | ⟨a0, a1, a2, e, hh, -⟩ | ⟨a0, a1, e, hh, -⟩)
  · exact ⟨I, J, hh, (if_pos a0).symm⟩
  · exact ⟨_, _, hh, ((if_neg a0).trans ((if_neg a1).trans ((if_neg a2).trans (if_pos (ca_lt hb a3))))).symm⟩
  · exact ⟨I, J, hh, ((if_neg a0).trans ((if_neg a1).trans ((if_neg a2).trans (if_neg (show ¬ I 35 16 < 30 by rw [nn a3]; decide))))).symm⟩
  · exact ⟨I, J, hh, ((if_neg a0).trans ((if_neg a1).trans (if_pos (nn a2)))).symm⟩
  · exact ⟨I, J, hh, ((if_neg a0).trans (if_pos (nn a1))).symm⟩
theorem x3_answer (hB : cx_hB cx_B0 I) (x y : Int32) : ev_W X 1 0 (ez_lay [.ref 0, .int x, .int y]) [] (ev_hp I J R T) 0 0 (fun _ h _ _ => ∃ A B, h = ev_hp A B R T ∧ ck A B = fx_answer x y (ck I J)) := by
  refine (eg_answer X I J R T x y).mono ?_
  rintro r h1 c1 k1 (⟨a0, a1, a2, e, hh, -⟩ | ⟨a0, a1, a2, e, hh, -⟩ | ⟨a0, a1, e, hh, -⟩ | ⟨a0, e, hh, -⟩)
  · exact ⟨_, _, hh, ((if_neg a0).trans (if_neg a1)).symm⟩
  · exact ⟨_, _, hh, ((if_neg a0).trans (if_neg a1)).symm⟩
  · exact ⟨I, J, hh, ((if_neg a0).trans (if_pos (nn a1))).symm⟩
  · exact ⟨I, J, hh, (if_pos (nn a0)).symm⟩
theorem y3_answer (hB : cx_hB cx_B0 I) (x y : Int32) : pe N X 166 [.ref 35, .int x, .int y] (ev_hp I J R T) (fun _ h => ∃ A B, h = ev_hp A B R T ∧ ck A B = fm_answer x y (ck I J)) := by
  refine pe_of (pw_p (cz_answer ?_))
  rw [il_0 x, il_02 y]
  refine ⟨fun a0 => ⟨fun a1 _ _ => ⟨_, _, rfl, ((if_neg a0).trans (if_neg a1)).symm⟩, fun a1 => ⟨I, J, rfl, ((if_neg a0).trans (if_pos (nn a1))).symm⟩⟩, fun a0 => ⟨I, J, rfl, (if_pos (nn a0)).symm⟩⟩
theorem x3_lose (hB : cx_hB cx_B0 I) (x : Int32) : ev_W X 32 0 (ez_lay [.ref 0, .int x]) [] (ev_hp I J R T) 0 0 (fun _ h _ _ => ∃ A B, h = ev_hp A B R T ∧ ck A B = fx_lose x (ck I J)) := by
  have hb := (b_ca hB).1
  refine (eg_lose X I J R T x).mono ?_
  by_cases ha : ev_wi x 0 (I 8 1 - 1) = 0
  · rintro r h1 c1 k1 (⟨a0, -⟩ | ⟨a0, -⟩ | ⟨a0, -⟩ | ⟨a0, e, hh, -⟩)
    · exact absurd ha a0
    · exact absurd ha a0
    · exact absurd ha a0
    · exact ⟨I, J, hh, (if_pos ha).symm⟩
  obtain ⟨g0, g1⟩ := ca_in hb ha
  have hk : x.toNatClampNeg < 30 := by rw [nd_nat]; omega
  have ec : x = Int32.ofNat x.toNatClampNeg := (nd_ofNat g0).symm
  have known : ∀ h : ¬ lg_cmp ((((J 8 3).toUInt64 >>> ((((2 : Int32) * x) : Int32).toInt64.toUInt64 &&& 63)).toInt64) &&& (1 : Int64)) 0 = 0, td_at (J 8 2) (J 8 3) x.toNatClampNeg = ((((J 8 2).toUInt64 >>> ((((2 : Int32) * x) : Int32).toInt64.toUInt64 &&& 63)).toInt64) &&& (3 : Int64)).toInt32 := by
    intro h
    have e := td_is (J 8 2) (J 8 3) hk
    unfold td_u at e
    rw [← ec] at e
    exact e h
  have unknown : ∀ h : ¬ ¬ lg_cmp ((((J 8 3).toUInt64 >>> ((((2 : Int32) * x) : Int32).toInt64.toUInt64 &&& 63)).toInt64) &&& (1 : Int64)) 0 = 0, td_at (J 8 2) (J 8 3) x.toNatClampNeg = -1 := by
    intro h
    have e := td_not (J 8 2) (J 8 3) hk
    unfold td_u at e
    rw [← ec] at e
    exact e h
  rintro r h1 c1 k1 (⟨a0, a1, a2, e, hh, -⟩ | ⟨a0, a1, a2, e, hh, -⟩ | ⟨a0, a1, e, hh, -⟩ | ⟨a0, -⟩)
  · rw [← known a1] at a2
    exact ⟨_, _, hh, ((if_neg ha).trans (if_neg a2)).symm⟩
  · rw [← known a1] at a2
    exact ⟨I, J, hh, ((if_neg ha).trans (if_pos (nn a2))).symm⟩
  · exact ⟨I, J, hh, ((if_neg ha).trans (if_pos (unknown a1))).symm⟩
  · exact absurd (nn a0) ha
theorem y3_lose (hB : cx_hB cx_B0 I) (x : Int32) : pe N X 209 [.ref 35, .int x] (ev_hp I J R T) (fun _ h => ∃ A B, h = ev_hp A B R T ∧ ck A B = fm_lose x (ck I J)) := by
  refine pe_of (pw_p (cz_lose ?_))
  rw [il_0 x]
  refine ⟨fun a0 _ => ⟨fun a1 _ => ⟨_, _, rfl, ((if_neg a0).trans (if_neg a1)).symm⟩, fun a1 => ⟨I, J, rfl, ((if_neg a0).trans (if_pos (nn a1))).symm⟩⟩, fun a0 => ⟨I, J, rfl, (if_pos (nn a0)).symm⟩⟩
theorem x3_back (hB : cx_hB cx_B0 I) : ev_W X 5 0 (ez_lay [.ref 0]) [] (ev_hp I J R T) 0 0 (fun _ h _ _ => ∃ A B, h = ev_hp A B R T ∧ ck A B = fx_back (ck I J)) := by
  have hb := (b_ca hB).1
  have e0 : (0 : Int32).toInt = 0 := by decide
  have e1 : (1 : Int32).toInt = 1 := by decide
  refine (eg_back X I J R T).mono ?_
  rintro r h1 c1 k1 (⟨a0, a1, e, hh, -⟩ | ⟨a0, a1, e, hh, -⟩ | ⟨a0, e, hh, -⟩)
  · have z0 := Int32.le_iff_toInt_le.mp a0
    have z1 := Int32.le_iff_toInt_le.mp a1
    omega
  · refine ⟨_, _, hh, (if_neg ?_).symm⟩
    show ¬ I 8 1 = 0
    intro z
    rw [z] at a1
    exact a1 (by decide)
  · refine ⟨I, J, hh, (if_pos ?_).symm⟩
    show I 8 1 = 0
    have z : ¬ (1 : Int32).toInt ≤ (I 8 1).toInt := fun y => a0 (Int32.le_iff_toInt_le.mpr y)
    rw [← Int32.toInt_inj]
    omega
theorem y3_back (hB : cx_hB cx_B0 I) : pe N X 168 [.ref 35] (ev_hp I J R T) (fun _ h => ∃ A B, h = ev_hp A B R T ∧ ck A B = fm_back (ck I J)) :=
  pe_of (pw_p (cz_back ⟨fun a0 => ⟨_, _, rfl, (if_neg (show ¬ I 35 16 = 0 from a0)).symm⟩, fun a0 => ⟨I, J, rfl, (if_pos (show I 35 16 = 0 from nn a0)).symm⟩⟩))
theorem x3_count (hB : cx_hB cx_B0 I) (x y : Int32) : ev_W X 14 0 (ez_lay [.ref 0, .int x, .int y]) [] (ev_hp I J R T) 0 0 (fun _ h _ _ => ∃ A B, h = ev_hp A B R T ∧ ck A B = fx_count x y (ck I J)) := by
  refine (eg_count X I J R T x y).mono ?_
  rintro r h1 c1 k1 (⟨a0, a1, e, hh, -⟩ | ⟨a0, a1, a2, e, hh, -⟩ | ⟨a0, a1, a2, e, hh, -⟩ | ⟨a0, e, hh, -⟩)
  · exact ⟨I, J, hh, ((if_neg a0).trans (if_pos a1)).symm⟩
  · refine ⟨_, _, hh, Eq.trans ?_ ((if_neg a0).trans (if_neg a1)).symm⟩
    rw [if_neg a2]
    rfl
  · refine ⟨_, _, hh, Eq.trans ?_ ((if_neg a0).trans (if_neg a1)).symm⟩
    rw [if_pos (nn a2)]
    rfl
  · exact ⟨I, J, hh, (if_pos (nn a0)).symm⟩
end
/-! and what it says stays so -/
theorem io_sub1 {k : Nat} (h : 0 < k) : Int32.ofNat k - 1 = Int32.ofNat (k - 1) := io_sub (a := k) (b := 1) h
theorem wh_pos {x y : Int32} (hx : ¬ ev_wi x 2 6 = 0) (hy : ¬ ev_wi y 2 6 = 0) : ∃ j : Nat, x * y = Int32.ofNat j ∧ j ≤ 36 := by
  obtain ⟨a, rfl, -, ha⟩ := wi_nat (u := 2) (v := 6) (by omega) hx (by omega)
  obtain ⟨b, rfl, -, hb⟩ := wi_nat (u := 2) (v := 6) (by omega) hy (by omega)
  exact ⟨a * b, io_mul a b, Nat.mul_le_mul ha hb⟩
theorem C3_grid (x y z : Int32) (f : Nat → Int32) {K : c3_K} (h : C3 K) (hf : ∀ j, j < 12 → f j = -1) : C3 (fm_grid x y (fx_grid x y z f K)) := by
  obtain ⟨n, tg, A, K, m, one, two, told, dx, dy, wr, cc, cm, wh, cnt⟩ := K
  by_cases a0 : ev_wi x 2 6 = 0
  · rw [show fx_grid x y z f (n, tg, A, K, m, one, two, told, dx, dy, wr, cc, cm, wh, cnt) = (n, tg, A, K, m, one, two, told, dx, dy, wr, cc, cm, wh, cnt) from if_pos a0, show fm_grid x y (n, tg, A, K, m, one, two, told, dx, dy, wr, cc, cm, wh, cnt) = (n, tg, A, K, m, one, two, told, dx, dy, wr, cc, cm, wh, cnt) from if_pos a0]
    exact h
  by_cases a1 : ev_wi y 2 6 = 0
  · rw [show fx_grid x y z f (n, tg, A, K, m, one, two, told, dx, dy, wr, cc, cm, wh, cnt) = (n, tg, A, K, m, one, two, told, dx, dy, wr, cc, cm, wh, cnt) from (if_neg a0).trans (if_pos a1), show fm_grid x y (n, tg, A, K, m, one, two, told, dx, dy, wr, cc, cm, wh, cnt) = (n, tg, A, K, m, one, two, told, dx, dy, wr, cc, cm, wh, cnt) from (if_neg a0).trans (if_pos a1)]
    exact h
  rw [show fx_grid x y z f (n, tg, A, K, m, one, two, told, dx, dy, wr, cc, cm, wh, cnt) = (0, tg, 0, 0, m, one, two, told, 0, 0, z, x * y, cm, y + x, f) from (if_neg a0).trans (if_neg a1), show fm_grid x y (0, tg, 0, 0, m, one, two, told, 0, 0, z, x * y, cm, y + x, f) = (0, tg, 0, 0, 0, one, two, told, 0, 0, z, x * y, x * y, y + x, f) from (if_neg a0).trans (if_neg a1)]
  obtain ⟨j, ej, hj⟩ := wh_pos a0 a1
  refine ⟨0, j, rfl, by omega, rfl, rfl, ej, hj, fun c hc => absurd hc (by omega), fun i hi => ?_, fun hd => ?_, fun r _ hr => hf r hr, ?_⟩
  · rw [kb_0] at hi
    cases hi
  · rcases hd with hd | hd <;> exact absurd rfl hd
  · obtain ⟨a, rfl, -, ha⟩ := wi_nat (u := 2) (v := 6) (by omega) a0 (by omega)
    obtain ⟨b, rfl, -, hb⟩ := wi_nat (u := 2) (v := 6) (by omega) a1 (by omega)
    rw [io_add, io_ti (by omega)]
    omega
theorem C3_drift (x y : Int32) {K : c3_K} (h : C3 K) : C3 (fx_drift x y K) := by
  obtain ⟨n, tg, A, K, m, one, two, told, dx, dy, wr, cc, cm, wh, cnt⟩ := K
  by_cases a0 : ev_wi x (-1) 1 = 0
  · rw [show fx_drift x y (n, tg, A, K, m, one, two, told, dx, dy, wr, cc, cm, wh, cnt) = (n, tg, A, K, m, one, two, told, dx, dy, wr, cc, cm, wh, cnt) from if_pos a0]
    exact h
  by_cases a1 : ev_wi y (-1) 1 = 0
  · rw [show fx_drift x y (n, tg, A, K, m, one, two, told, dx, dy, wr, cc, cm, wh, cnt) = (n, tg, A, K, m, one, two, told, dx, dy, wr, cc, cm, wh, cnt) from (if_neg a0).trans (if_pos a1)]
    exact h
  by_cases a2 : wr = 0
  · rw [show fx_drift x y (n, tg, A, K, m, one, two, told, dx, dy, wr, cc, cm, wh, cnt) = (n, tg, A, K, m, one, two, told, dx, dy, wr, cc, cm, wh, cnt) from (if_neg a0).trans ((if_neg a1).trans (if_pos a2))]
    exact h
  rw [show fx_drift x y (n, tg, A, K, m, one, two, told, dx, dy, wr, cc, cm, wh, cnt) = (n, tg, A, K, m, one, two, told, x, y, wr, cc, cm, wh, cnt) from (if_neg a0).trans ((if_neg a1).trans (if_neg a2))]
  obtain ⟨k, j, e1, hk, e2, e3, e4, hj, h1, h2, h3, h4⟩ := h
  exact ⟨k, j, e1, hk, e2, e3, e4, hj, h1, h2, fun _ => a2, h4⟩
theorem td_new {A K : Int64} {k : Nat} (h2 : ∀ i, kb K i = true → i % 2 = 0 ∧ i / 2 < k) : td_at A K k = -1 := by
  unfold td_at
  cases hz : kb K (2 * k) with
  | false => rfl
  | true =>
    have := (h2 _ hz).2
    omega
theorem C3_new {k j : Nat} {tg : Nat → Int64} {A K : Int64} {one two told : Nat → Int32} {dx dy wr wh : Int32} {cnt : Nat → Int32} {x y : Int32} (hk : k < 30) (hj : j ≤ 36) (h1 : ∀ c, c < k → c3_r tg A K one two told c) (h2 : ∀ i, kb K i = true → i % 2 = 0 ∧ i / 2 < k) (h3 : (dx ≠ 0 ∨ dy ≠ 0) → wr ≠ 0) (h4 : (∀ r, wh.toInt.toNat ≤ r → r < 12 → cnt r = -1) ∧ 0 ≤ wh.toInt) (hx : cel x) (hy : y = -1 ∨ (cel y ∧ y ≠ x)) {u : Int64} (hu : u = tgt x y) :
    C3 (Int32.ofNat k + 1, ev_putJ 30 tg (Int32.ofNat k) u, A, K, Int32.ofNat k + 1, upd one (Int32.ofNat k).toNatClampNeg x, upd two (Int32.ofNat k).toNatClampNeg y, upd told (Int32.ofNat k).toNatClampNeg (-1), dx, dy, wr, Int32.ofNat j, Int32.ofNat j, wh, cnt) := by
  rw [io_cl (show k < 2147483648 by omega), putJ_in hk (by omega)]
  refine ⟨k + 1, j, io_1 k, by omega, rfl, rfl, rfl, hj, fun c hc => ?_, fun i hi => ?_, h3, h4⟩
  · by_cases hck : c = k
    · subst hck
      unfold c3_r
      rw [pv_s, nd_upd_s, nd_upd_s, nd_upd_s]
      exact ⟨hu, hx, hy, td_new h2, Or.inl rfl⟩
    · exact c3_rc (h1 c (by omega)) (pv_n _ _ hck) (nd_upd_n _ _ hck) (nd_upd_n _ _ hck) rfl (nd_upd_n _ _ hck)
  · have := h2 i hi
    omega
theorem lt_30 {k : Nat} (hk : k ≤ 30) : Int32.ofNat k < 30 ↔ k < 30 := by
  rw [show (30 : Int32) = Int32.ofNat 30 from rfl, io_lt (by omega) (by omega)]
theorem C3_call (x : Int32) {K : c3_K} (h : C3 K) : C3 (fm_call x (fx_call x K)) := by
  obtain ⟨n, tg, A, K, m, one, two, told, dx, dy, wr, cc, cm, wh, cnt⟩ := K
  have h0 := h
  obtain ⟨k, j, rfl, hk, rfl, rfl, rfl, hj, h1, h2, h3, h4⟩ := h
  by_cases a0 : ev_wi x 0 (Int32.ofNat j - 1) = 0
  · rw [show fx_call x (Int32.ofNat k, tg, A, K, Int32.ofNat k, one, two, told, dx, dy, wr, Int32.ofNat j, Int32.ofNat j, wh, cnt) = (Int32.ofNat k, tg, A, K, Int32.ofNat k, one, two, told, dx, dy, wr, Int32.ofNat j, Int32.ofNat j, wh, cnt) from if_pos a0, show fm_call x (Int32.ofNat k, tg, A, K, Int32.ofNat k, one, two, told, dx, dy, wr, Int32.ofNat j, Int32.ofNat j, wh, cnt) = (Int32.ofNat k, tg, A, K, Int32.ofNat k, one, two, told, dx, dy, wr, Int32.ofNat j, Int32.ofNat j, wh, cnt) from if_pos a0]
    exact h0
  by_cases a1 : Int32.ofNat k < 30
  · rw [show fx_call x (Int32.ofNat k, tg, A, K, Int32.ofNat k, one, two, told, dx, dy, wr, Int32.ofNat j, Int32.ofNat j, wh, cnt) = (Int32.ofNat k + 1, ev_putJ 30 tg (Int32.ofNat k) ((1 : Int64) <<< (x.toInt64 &&& 63)), A, K, Int32.ofNat k, one, two, told, dx, dy, wr, Int32.ofNat j, Int32.ofNat j, wh, cnt) from (if_neg a0).trans (if_pos a1),
      show fm_call x (Int32.ofNat k + 1, ev_putJ 30 tg (Int32.ofNat k) ((1 : Int64) <<< (x.toInt64 &&& 63)), A, K, Int32.ofNat k, one, two, told, dx, dy, wr, Int32.ofNat j, Int32.ofNat j, wh, cnt) = (Int32.ofNat k + 1, ev_putJ 30 tg (Int32.ofNat k) ((1 : Int64) <<< (x.toInt64 &&& 63)), A, K, Int32.ofNat k + 1, upd one (Int32.ofNat k).toNatClampNeg x, upd two (Int32.ofNat k).toNatClampNeg (-1), upd told (Int32.ofNat k).toNatClampNeg (-1), dx, dy, wr, Int32.ofNat j, Int32.ofNat j, wh, cnt) from (if_neg a0).trans (if_pos a1)]
    obtain ⟨i, ei, hi⟩ := wi_lt (by omega) a0
    exact C3_new ((lt_30 hk).mp a1) hj h1 h2 h3 h4 ⟨i, ei, by omega⟩ (Or.inl rfl) (if_pos rfl).symm
  · rw [show fx_call x (Int32.ofNat k, tg, A, K, Int32.ofNat k, one, two, told, dx, dy, wr, Int32.ofNat j, Int32.ofNat j, wh, cnt) = (Int32.ofNat k, tg, A, K, Int32.ofNat k, one, two, told, dx, dy, wr, Int32.ofNat j, Int32.ofNat j, wh, cnt) from (if_neg a0).trans (if_neg a1), show fm_call x (Int32.ofNat k, tg, A, K, Int32.ofNat k, one, two, told, dx, dy, wr, Int32.ofNat j, Int32.ofNat j, wh, cnt) = (Int32.ofNat k, tg, A, K, Int32.ofNat k, one, two, told, dx, dy, wr, Int32.ofNat j, Int32.ofNat j, wh, cnt) from (if_neg a0).trans (if_neg a1)]
    exact h0
theorem C3_salvo (x y : Int32) {K : c3_K} (h : C3 K) : C3 (fm_salvo x y (fx_salvo x y K)) := by
  obtain ⟨n, tg, A, K, m, one, two, told, dx, dy, wr, cc, cm, wh, cnt⟩ := K
  have h0 := h
  obtain ⟨k, j, rfl, hk, rfl, rfl, rfl, hj, h1, h2, h3, h4⟩ := h
  have key : (ev_wi x 0 (Int32.ofNat j - 1) = 0 ∨ ev_wi y 0 (Int32.ofNat j - 1) = 0 ∨ x = y ∨ ¬ Int32.ofNat k < 30) → C3 (fm_salvo x y (fx_salvo x y (Int32.ofNat k, tg, A, K, Int32.ofNat k, one, two, told, dx, dy, wr, Int32.ofNat j, Int32.ofNat j, wh, cnt))) := by
    intro hc
    have e1 : fx_salvo x y (Int32.ofNat k, tg, A, K, Int32.ofNat k, one, two, told, dx, dy, wr, Int32.ofNat j, Int32.ofNat j, wh, cnt) = (Int32.ofNat k, tg, A, K, Int32.ofNat k, one, two, told, dx, dy, wr, Int32.ofNat j, Int32.ofNat j, wh, cnt) := by
      unfold fx_salvo
      dsimp only
      repeat' split
      all_goals first | rfl | (rename_i b0 b1 b2 b3; exact absurd hc (by rintro (z | z | z | z) <;> contradiction))
    have e2 : fm_salvo x y (Int32.ofNat k, tg, A, K, Int32.ofNat k, one, two, told, dx, dy, wr, Int32.ofNat j, Int32.ofNat j, wh, cnt) = (Int32.ofNat k, tg, A, K, Int32.ofNat k, one, two, told, dx, dy, wr, Int32.ofNat j, Int32.ofNat j, wh, cnt) := by
      unfold fm_salvo
      dsimp only
      repeat' split
      all_goals first | rfl | (rename_i b0 b1 b2 b3; exact absurd hc (by rintro (z | z | z | z) <;> contradiction))
    rw [e1, e2]
    exact h0
  by_cases a0 : ev_wi x 0 (Int32.ofNat j - 1) = 0
  · exact key (Or.inl a0)
  by_cases a1 : ev_wi y 0 (Int32.ofNat j - 1) = 0
  · exact key (Or.inr (Or.inl a1))
  by_cases a2 : x = y
  · exact key (Or.inr (Or.inr (Or.inl a2)))
  by_cases a3 : Int32.ofNat k < 30
  · rw [show fx_salvo x y (Int32.ofNat k, tg, A, K, Int32.ofNat k, one, two, told, dx, dy, wr, Int32.ofNat j, Int32.ofNat j, wh, cnt) = (Int32.ofNat k + 1, ev_putJ 30 tg (Int32.ofNat k) (((1 : Int64) <<< (x.toInt64 &&& 63)) ||| ((1 : Int64) <<< (y.toInt64 &&& 63))), A, K, Int32.ofNat k, one, two, told, dx, dy, wr, Int32.ofNat j, Int32.ofNat j, wh, cnt) from (if_neg a0).trans ((if_neg a1).trans ((if_neg a2).trans (if_pos a3))),
      show fm_salvo x y (Int32.ofNat k + 1, ev_putJ 30 tg (Int32.ofNat k) (((1 : Int64) <<< (x.toInt64 &&& 63)) ||| ((1 : Int64) <<< (y.toInt64 &&& 63))), A, K, Int32.ofNat k, one, two, told, dx, dy, wr, Int32.ofNat j, Int32.ofNat j, wh, cnt) = (Int32.ofNat k + 1, ev_putJ 30 tg (Int32.ofNat k) (((1 : Int64) <<< (x.toInt64 &&& 63)) ||| ((1 : Int64) <<< (y.toInt64 &&& 63))), A, K, Int32.ofNat k + 1, upd one (Int32.ofNat k).toNatClampNeg x, upd two (Int32.ofNat k).toNatClampNeg y, upd told (Int32.ofNat k).toNatClampNeg (-1), dx, dy, wr, Int32.ofNat j, Int32.ofNat j, wh, cnt) from (if_neg a0).trans ((if_neg a1).trans ((if_neg a2).trans (if_pos a3)))]
    obtain ⟨i, ei, hi⟩ := wi_lt (by omega) a0
    obtain ⟨i2, ei2, hi2⟩ := wi_lt (by omega) a1
    refine C3_new ((lt_30 hk).mp a3) hj h1 h2 h3 h4 ⟨i, ei, by omega⟩ (Or.inr ⟨⟨i2, ei2, by omega⟩, fun z => a2 z.symm⟩) (if_neg ?_).symm
    rw [ei2]
    intro z
    have z2 := congrArg Int32.toInt z
    rw [io_ti (by omega), show ((-1 : Int32)).toInt = -1 from by decide] at z2
    omega
  · exact key (Or.inr (Or.inr (Or.inr a3)))
theorem kb_told {K : Int64} {c k i : Nat} (hc : c < k) (hk : k ≤ 30) (h2 : ∀ i, kb K i = true → i % 2 = 0 ∧ i / 2 < k) (h : kb ((K &&& (((1 : Int64) <<< td_s c) ^^^ ((-1) : Int64))) ||| ((1 : Int64) <<< td_s c)) i = true) : i % 2 = 0 ∧ i / 2 < k := by
  by_cases hi : i < 64
  · rw [kb_or, td_clr K 1 (by omega) hi, kb_shl 1 (by omega)] at h
    rcases Bool.or_eq_true_iff.mp h with h | h
    · exact h2 i (Bool.and_eq_true_iff.mp h).1
    · obtain ⟨h5, h6⟩ := Bool.and_eq_true_iff.mp h
      obtain ⟨-, h7⟩ := Bool.and_eq_true_iff.mp h5
      have h8 : ¬ i < 2 * c := by simpa using h7
      by_cases h9 : 1 ≤ i - 2 * c
      · rw [kb_1 h9] at h6
        cases h6
      · omega
  · rw [kb_64 _ (by omega)] at h
    cases h
theorem kb_untold {K : Int64} {c k i : Nat} (hc : c < 30) (h2 : ∀ i, kb K i = true → i % 2 = 0 ∧ i / 2 < k) (h : kb (K &&& (((1 : Int64) <<< td_s c) ^^^ ((-1) : Int64))) i = true) : (i % 2 = 0 ∧ i / 2 < k) ∧ i ≠ 2 * c := by
  by_cases hi : i < 64
  · rw [td_clr K 1 hc hi] at h
    obtain ⟨h5, h6⟩ := Bool.and_eq_true_iff.mp h
    refine ⟨h2 i h5, fun z => ?_⟩
    rw [z, Nat.sub_self, show decide (2 * c < 2 * c) = false from decide_eq_false (Nat.lt_irrefl _), show kb 1 0 = true from by decide] at h6
    cases h6
  · rw [kb_64 _ (by omega)] at h
    cases h
theorem C3_answer (x y : Int32) {K : c3_K} (h : C3 K) : C3 (fm_answer x y (fx_answer x y K)) := by
  obtain ⟨n, tg, A, K, m, one, two, told, dx, dy, wr, cc, cm, wh, cnt⟩ := K
  have h0 := h
  obtain ⟨k, j, rfl, hk, rfl, rfl, rfl, hj, h1, h2, h3, h4⟩ := h
  by_cases a0 : ev_wi x 0 (Int32.ofNat k - 1) = 0
  · rw [show fx_answer x y (Int32.ofNat k, tg, A, K, Int32.ofNat k, one, two, told, dx, dy, wr, Int32.ofNat j, Int32.ofNat j, wh, cnt) = (Int32.ofNat k, tg, A, K, Int32.ofNat k, one, two, told, dx, dy, wr, Int32.ofNat j, Int32.ofNat j, wh, cnt) from if_pos a0, show fm_answer x y (Int32.ofNat k, tg, A, K, Int32.ofNat k, one, two, told, dx, dy, wr, Int32.ofNat j, Int32.ofNat j, wh, cnt) = (Int32.ofNat k, tg, A, K, Int32.ofNat k, one, two, told, dx, dy, wr, Int32.ofNat j, Int32.ofNat j, wh, cnt) from if_pos a0]
    exact h0
  by_cases a1 : ev_wi y 0 2 = 0
  · rw [show fx_answer x y (Int32.ofNat k, tg, A, K, Int32.ofNat k, one, two, told, dx, dy, wr, Int32.ofNat j, Int32.ofNat j, wh, cnt) = (Int32.ofNat k, tg, A, K, Int32.ofNat k, one, two, told, dx, dy, wr, Int32.ofNat j, Int32.ofNat j, wh, cnt) from (if_neg a0).trans (if_pos a1), show fm_answer x y (Int32.ofNat k, tg, A, K, Int32.ofNat k, one, two, told, dx, dy, wr, Int32.ofNat j, Int32.ofNat j, wh, cnt) = (Int32.ofNat k, tg, A, K, Int32.ofNat k, one, two, told, dx, dy, wr, Int32.ofNat j, Int32.ofNat j, wh, cnt) from (if_neg a0).trans (if_pos a1)]
    exact h0
  rw [show fx_answer x y (Int32.ofNat k, tg, A, K, Int32.ofNat k, one, two, told, dx, dy, wr, Int32.ofNat j, Int32.ofNat j, wh, cnt) = (Int32.ofNat k, tg, (((A) &&& (((3 : Int64) <<< ((((2 : Int32) * x) : Int32).toInt64 &&& 63)) ^^^ ((-1) : Int64))) ||| ((y.toInt64) <<< ((((2 : Int32) * x) : Int32).toInt64 &&& 63))), (((K) &&& (((1 : Int64) <<< ((((2 : Int32) * x) : Int32).toInt64 &&& 63)) ^^^ ((-1) : Int64))) ||| ((1 : Int64) <<< ((((2 : Int32) * x) : Int32).toInt64 &&& 63))), Int32.ofNat k, one, two, told, dx, dy, wr, Int32.ofNat j, Int32.ofNat j, wh, cnt) from (if_neg a0).trans (if_neg a1),
    show fm_answer x y (Int32.ofNat k, tg, (((A) &&& (((3 : Int64) <<< ((((2 : Int32) * x) : Int32).toInt64 &&& 63)) ^^^ ((-1) : Int64))) ||| ((y.toInt64) <<< ((((2 : Int32) * x) : Int32).toInt64 &&& 63))), (((K) &&& (((1 : Int64) <<< ((((2 : Int32) * x) : Int32).toInt64 &&& 63)) ^^^ ((-1) : Int64))) ||| ((1 : Int64) <<< ((((2 : Int32) * x) : Int32).toInt64 &&& 63))), Int32.ofNat k, one, two, told, dx, dy, wr, Int32.ofNat j, Int32.ofNat j, wh, cnt) = (Int32.ofNat k, tg, (((A) &&& (((3 : Int64) <<< ((((2 : Int32) * x) : Int32).toInt64 &&& 63)) ^^^ ((-1) : Int64))) ||| ((y.toInt64) <<< ((((2 : Int32) * x) : Int32).toInt64 &&& 63))), (((K) &&& (((1 : Int64) <<< ((((2 : Int32) * x) : Int32).toInt64 &&& 63)) ^^^ ((-1) : Int64))) ||| ((1 : Int64) <<< ((((2 : Int32) * x) : Int32).toInt64 &&& 63))), Int32.ofNat k, one, two, upd told x.toNatClampNeg y, dx, dy, wr, Int32.ofNat j, Int32.ofNat j, wh, cnt) from (if_neg a0).trans (if_neg a1)]
  obtain ⟨c, rfl, hc⟩ := wi_lt (by omega) a0
  have hy := wi_012 a1
  rw [io_cl (show c < 2147483648 by omega)]
  refine ⟨k, j, rfl, hk, rfl, rfl, rfl, hj, fun d hd => ?_, fun i hi => kb_told hc hk h2 hi, h3, h4⟩
  have ht := td_tell A K hy (c := c) (d := d) (by omega) (by omega)
  by_cases hdc : d = c
  · subst hdc
    obtain ⟨g1, g2, g3, -, -⟩ := h1 d hd
    rw [if_pos rfl] at ht
    unfold c3_r
    rw [nd_upd_s]
    exact ⟨g1, g2, g3, ht, Or.inr hy⟩
  · rw [if_neg hdc] at ht
    exact c3_rc (h1 d hd) rfl rfl rfl ht (nd_upd_n _ _ hdc)
theorem C3_lose (x : Int32) {K : c3_K} (h : C3 K) : C3 (fm_lose x (fx_lose x K)) := by
  obtain ⟨n, tg, A, K, m, one, two, told, dx, dy, wr, cc, cm, wh, cnt⟩ := K
  have h0 := h
  obtain ⟨k, j, rfl, hk, rfl, rfl, rfl, hj, h1, h2, h3, h4⟩ := h
  by_cases a0 : ev_wi x 0 (Int32.ofNat k - 1) = 0
  · rw [show fx_lose x (Int32.ofNat k, tg, A, K, Int32.ofNat k, one, two, told, dx, dy, wr, Int32.ofNat j, Int32.ofNat j, wh, cnt) = (Int32.ofNat k, tg, A, K, Int32.ofNat k, one, two, told, dx, dy, wr, Int32.ofNat j, Int32.ofNat j, wh, cnt) from if_pos a0, show fm_lose x (Int32.ofNat k, tg, A, K, Int32.ofNat k, one, two, told, dx, dy, wr, Int32.ofNat j, Int32.ofNat j, wh, cnt) = (Int32.ofNat k, tg, A, K, Int32.ofNat k, one, two, told, dx, dy, wr, Int32.ofNat j, Int32.ofNat j, wh, cnt) from if_pos a0]
    exact h0
  obtain ⟨c, rfl, hc⟩ := wi_lt (by omega) a0
  have ec : (Int32.ofNat c).toNatClampNeg = c := io_cl (by omega)
  obtain ⟨g1, g2, g3, g4, g5⟩ := h1 c hc
  by_cases a1 : td_at A K c = -1
  · have a1' : td_at A K (Int32.ofNat c).toNatClampNeg = -1 := by rw [ec]; exact a1
    have a2' : told (Int32.ofNat c).toNatClampNeg = -1 := by rw [ec, ← g4]; exact a1
    rw [show fx_lose (Int32.ofNat c) (Int32.ofNat k, tg, A, K, Int32.ofNat k, one, two, told, dx, dy, wr, Int32.ofNat j, Int32.ofNat j, wh, cnt) = (Int32.ofNat k, tg, A, K, Int32.ofNat k, one, two, told, dx, dy, wr, Int32.ofNat j, Int32.ofNat j, wh, cnt) from (if_neg a0).trans (if_pos a1'), show fm_lose (Int32.ofNat c) (Int32.ofNat k, tg, A, K, Int32.ofNat k, one, two, told, dx, dy, wr, Int32.ofNat j, Int32.ofNat j, wh, cnt) = (Int32.ofNat k, tg, A, K, Int32.ofNat k, one, two, told, dx, dy, wr, Int32.ofNat j, Int32.ofNat j, wh, cnt) from (if_neg a0).trans (if_pos a2')]
    exact h0
  · have a1' : ¬ td_at A K (Int32.ofNat c).toNatClampNeg = -1 := by rw [ec]; exact a1
    have a2' : ¬ told (Int32.ofNat c).toNatClampNeg = -1 := by rw [ec, ← g4]; exact a1
    rw [show fx_lose (Int32.ofNat c) (Int32.ofNat k, tg, A, K, Int32.ofNat k, one, two, told, dx, dy, wr, Int32.ofNat j, Int32.ofNat j, wh, cnt) = (Int32.ofNat k, tg, A &&& (((3 : Int64) <<< td_s c) ^^^ ((-1) : Int64)), K &&& (((1 : Int64) <<< td_s c) ^^^ ((-1) : Int64)), Int32.ofNat k, one, two, told, dx, dy, wr, Int32.ofNat j, Int32.ofNat j, wh, cnt) from (if_neg a0).trans (if_neg a1'),
      show fm_lose (Int32.ofNat c) (Int32.ofNat k, tg, A &&& (((3 : Int64) <<< td_s c) ^^^ ((-1) : Int64)), K &&& (((1 : Int64) <<< td_s c) ^^^ ((-1) : Int64)), Int32.ofNat k, one, two, told, dx, dy, wr, Int32.ofNat j, Int32.ofNat j, wh, cnt) = (Int32.ofNat k, tg, A &&& (((3 : Int64) <<< td_s c) ^^^ ((-1) : Int64)), K &&& (((1 : Int64) <<< td_s c) ^^^ ((-1) : Int64)), Int32.ofNat k, one, two, upd told (Int32.ofNat c).toNatClampNeg (-1), dx, dy, wr, Int32.ofNat j, Int32.ofNat j, wh, cnt) from (if_neg a0).trans (if_neg a2'), ec]
    refine ⟨k, j, rfl, hk, rfl, rfl, rfl, hj, fun d hd => ?_, fun i hi => (kb_untold (by omega) h2 hi).1, h3, h4⟩
    have ht := td_untell A K (c := c) (d := d) (by omega) (by omega)
    by_cases hdc : d = c
    · subst hdc
      rw [if_pos rfl] at ht
      unfold c3_r
      rw [nd_upd_s]
      exact ⟨g1, g2, g3, ht, Or.inl rfl⟩
    · rw [if_neg hdc] at ht
      exact c3_rc (h1 d hd) rfl rfl rfl ht (nd_upd_n _ _ hdc)
theorem C3_back {K : c3_K} (h : C3 K) : C3 (fm_back (fx_back K)) := by
  obtain ⟨n, tg, A, K, m, one, two, told, dx, dy, wr, cc, cm, wh, cnt⟩ := K
  have h0 := h
  obtain ⟨k, j, rfl, hk, rfl, rfl, rfl, hj, h1, h2, h3, h4⟩ := h
  by_cases a0 : Int32.ofNat k = 0
  · rw [show fx_back (Int32.ofNat k, tg, A, K, Int32.ofNat k, one, two, told, dx, dy, wr, Int32.ofNat j, Int32.ofNat j, wh, cnt) = (Int32.ofNat k, tg, A, K, Int32.ofNat k, one, two, told, dx, dy, wr, Int32.ofNat j, Int32.ofNat j, wh, cnt) from if_pos a0, show fm_back (Int32.ofNat k, tg, A, K, Int32.ofNat k, one, two, told, dx, dy, wr, Int32.ofNat j, Int32.ofNat j, wh, cnt) = (Int32.ofNat k, tg, A, K, Int32.ofNat k, one, two, told, dx, dy, wr, Int32.ofNat j, Int32.ofNat j, wh, cnt) from if_pos a0]
    exact h0
  have hk0 : 0 < k := by
    apply Nat.pos_of_ne_zero
    rintro rfl
    exact a0 rfl
  rw [show fx_back (Int32.ofNat k, tg, A, K, Int32.ofNat k, one, two, told, dx, dy, wr, Int32.ofNat j, Int32.ofNat j, wh, cnt) = (Int32.ofNat k - 1, tg, A &&& (((3 : Int64) <<< ((((2 : Int32) * (Int32.ofNat k - (1 : Int32))) : Int32).toInt64 &&& 63)) ^^^ ((-1) : Int64)), K &&& (((1 : Int64) <<< ((((2 : Int32) * (Int32.ofNat k - (1 : Int32))) : Int32).toInt64 &&& 63)) ^^^ ((-1) : Int64)), Int32.ofNat k, one, two, told, dx, dy, wr, Int32.ofNat j, Int32.ofNat j, wh, cnt) from if_neg a0,
    show fm_back (Int32.ofNat k - 1, tg, A &&& (((3 : Int64) <<< ((((2 : Int32) * (Int32.ofNat k - (1 : Int32))) : Int32).toInt64 &&& 63)) ^^^ ((-1) : Int64)), K &&& (((1 : Int64) <<< ((((2 : Int32) * (Int32.ofNat k - (1 : Int32))) : Int32).toInt64 &&& 63)) ^^^ ((-1) : Int64)), Int32.ofNat k, one, two, told, dx, dy, wr, Int32.ofNat j, Int32.ofNat j, wh, cnt) = (Int32.ofNat k - 1, tg, A &&& (((3 : Int64) <<< ((((2 : Int32) * (Int32.ofNat k - (1 : Int32))) : Int32).toInt64 &&& 63)) ^^^ ((-1) : Int64)), K &&& (((1 : Int64) <<< ((((2 : Int32) * (Int32.ofNat k - (1 : Int32))) : Int32).toInt64 &&& 63)) ^^^ ((-1) : Int64)), Int32.ofNat k - 1, one, two, told, dx, dy, wr, Int32.ofNat j, Int32.ofNat j, wh, cnt) from if_neg a0, io_sub1 hk0]
  refine ⟨k - 1, j, rfl, by omega, rfl, rfl, rfl, hj, fun d hd => ?_, fun i hi => ?_, h3, h4⟩
  · have ht := td_untell A K (c := k - 1) (d := d) (by omega) (by omega)
    rw [if_neg (by omega)] at ht
    exact c3_rc (h1 d (by omega)) rfl rfl rfl ht rfl
  · have := kb_untold (c := k - 1) (by omega) h2 hi
    omega
theorem C3_count (x y : Int32) {K : c3_K} (h : C3 K) : C3 (fx_count x y K) := by
  obtain ⟨n, tg, A, K, m, one, two, told, dx, dy, wr, cc, cm, wh, cnt⟩ := K
  by_cases a0 : ev_wi x 0 (wh - 1) = 0
  · rw [show fx_count x y (n, tg, A, K, m, one, two, told, dx, dy, wr, cc, cm, wh, cnt) = (n, tg, A, K, m, one, two, told, dx, dy, wr, cc, cm, wh, cnt) from if_pos a0]
    exact h
  by_cases a1 : ev_wi y 0 7 = 0
  · rw [show fx_count x y (n, tg, A, K, m, one, two, told, dx, dy, wr, cc, cm, wh, cnt) = (n, tg, A, K, m, one, two, told, dx, dy, wr, cc, cm, wh, cnt) from (if_neg a0).trans (if_pos a1)]
    exact h
  rw [show fx_count x y (n, tg, A, K, m, one, two, told, dx, dy, wr, cc, cm, wh, cnt) = (n, tg, A, K, m, one, two, told, dx, dy, wr, cc, cm, wh, ev_put 12 cnt x (if y = 7 then -1 else y)) from (if_neg a0).trans (if_neg a1)]
  obtain ⟨k, j, e1, hk, e2, e3, e4, hj, h1, h2, h3, h4⟩ := h
  obtain ⟨h4, h5⟩ := h4
  refine ⟨k, j, e1, hk, e2, e3, e4, hj, h1, h2, h3, fun r hr hr2 => ?_, h5⟩
  obtain ⟨g1, g2⟩ := ev_wi_ne a0
  rw [show (0 : Int32).toInt = 0 from by decide] at g1
  have hx := io_nat g1
  have bx := Int32.toInt_lt x
  have bw := Int32.toInt_lt wh
  have e1 : (wh - 1).toInt = wh.toInt - 1 := by
    rw [Int32.toInt_sub, show (1 : Int32).toInt = 1 from by decide, cx_bm32]
    simp only [cx_i32]
    omega
  by_cases hx2 : x.toInt.toNat < 12
  · rw [hx, put_in hx2 (by omega), nd_upd_n _ _ (by omega)]
    exact h4 r hr hr2
  · unfold ev_put
    rw [if_neg (by rw [hx, show (0 : Int32) = Int32.ofNat 0 from rfl, io_lt (by omega) (by omega)]; omega), if_pos (by rw [hx, io_le (by omega) (by omega)]; omega)]
    exact h4 r hr hr2
theorem l3_0 : C3 (ck ev_I0 ev_J0) := by
  have e1 : (5 : Int32) * 5 = 25 := by decide
  refine ⟨0, 25, rfl, by omega, rfl, ?_, ?_, by omega, fun c hc => absurd hc (by omega), fun i hi => ?_, fun hd => ?_, fun r hr hr2 => ?_, by decide⟩
  · exact (show (25 : Int32) = ev_I0 35 0 * ev_I0 35 1 from by decide)
  · exact (show ev_I0 35 0 * ev_I0 35 1 = Int32.ofNat 25 from by decide)
  · have hi : kb 0 i = true := hi
    rw [kb_0] at hi
    cases hi
  · rcases hd with hd | hd <;> exact absurd rfl hd
  · have key : ∀ r, r < 12 → ev_I0 33 r = -1 := by decide
    exact key r hr2
section
variable {X : ez_X} {I I1 : Nat → Nat → Int32} {J J1 : Nat → Nat → Int64} {R R1 : Nat → Nat} {T T1 : List ez_C} {v : Int32}
theorem l3x_grid (hX2 : X.1 < 2 ^ 31) (hh : cx_hok cx_B0 I R T) (hr : rl3 I J R T) (x y z : Int32) (hz : z = 0 ∨ z = 1) : ev_W X 18 0 (ez_lay [.ref 0, .int x, .int y, .int z]) [] (ev_hp I J R T) 0 0 (lw_mid T (fun v I1 J1 R1 T1 => (mi_k ck_18_0.2.1 (kf_grid x y z) I J v I1 J1 R1 T1 ∧ cp I1 J1 R1 T1) ∧ ∃ K f, C3 K ∧ (∀ j, j < 12 → f j = -1) ∧ ck I1 J1 = fx_grid x y z f K)) := by
  refine (r3_w (l2x_grid hX2 hh hr.1 x y z hz) (x3_grid x y z hz)).mono (lw_mono ?_)
  rintro v I1 J1 R1 T1 ⟨h1, A, B, e, f, hf, h2⟩
  exact ⟨h1, _, f, hr.2, hf, e.trans h2⟩
theorem l3m_grid (hX2 : X.1 < 2 ^ 31) (hh : cx_hok cx_B0 I R T) (hr : rl3 I J R T) (x y z : Int32) (hz : z = 0 ∨ z = 1) (hh1 : cx_hok cx_B0 I1 R1 T1) (hm : (mi_k ck_18_0.2.1 (kf_grid x y z) I J v I1 J1 R1 T1 ∧ cp I1 J1 R1 T1) ∧ ∃ K f, C3 K ∧ (∀ j, j < 12 → f j = -1) ∧ ck I1 J1 = fx_grid x y z f K) : ev_W X 195 0 (ez_lay [.ref 35, .int x, .int y, .int z]) [] (ev_hp I1 J1 R1 T1) 0 0 (lw_mid T1 (fun u I2 J2 R2 T2 => rl3 I2 J2 R2 T2)) := by
  refine (r3_w (l2m_grid hX2 hh hr.1 x y z hz hh1 hm.1) (y3_grid x y z hz)).mono (lw_mono ?_)
  rintro u I2 J2 R2 T2 ⟨h1, A, B, e, h2⟩
  obtain ⟨K, f, hK, hf, h3⟩ := hm.2
  refine ⟨h1.2, ?_⟩
  show C3 (ck I2 J2)
  rw [e, h2, h3]
  exact C3_grid x y z f hK hf
theorem l3x_ship (hX2 : X.1 < 2 ^ 31) (hh : cx_hok cx_B0 I R T) (hr : rl3 I J R T) (x y : Int32) : ev_W X 43 0 (ez_lay [.ref 0, .int x, .int y]) [] (ev_hp I J R T) 0 0 (lw_mid T (fun v I1 J1 R1 T1 => ((mi_k ck_43_0.2.1 (kf_ship x y) I J v I1 J1 R1 T1 ∧ mi_ship x y I J I1 J1) ∧ cp I1 J1 R1 T1) ∧ C3 (ck I1 J1))) := by
  refine (r3_v (l2x_ship hX2 hh hr.1 x y) cv_43_0 hX2 hh ao_2).mono (lw_mono ?_)
  rintro v I1 J1 R1 T1 ⟨h1, A, B, e, h2⟩
  refine ⟨h1, ?_⟩
  rw [e, ck_fr (by rfl) h2]
  exact hr.2
theorem l3m_ship (hX2 : X.1 < 2 ^ 31) (hh : cx_hok cx_B0 I R T) (hr : rl3 I J R T) (x y : Int32) (hh1 : cx_hok cx_B0 I1 R1 T1) (hm : ((mi_k ck_43_0.2.1 (kf_ship x y) I J v I1 J1 R1 T1 ∧ mi_ship x y I J I1 J1) ∧ cp I1 J1 R1 T1) ∧ C3 (ck I1 J1)) : ev_W X 220 0 (ez_lay [.ref 35, .int x, .int y]) [] (ev_hp I1 J1 R1 T1) 0 0 (lw_mid T1 (fun u I2 J2 R2 T2 => rl3 I2 J2 R2 T2)) := by
  refine (r3_v (l2m_ship hX2 hh hr.1 x y hh1 hm.1) cv_220_0 hX2 hh1 ao_2).mono (lw_mono ?_)
  rintro u I2 J2 R2 T2 ⟨h1, A, B, e, h2⟩
  refine ⟨h1.2, ?_⟩
  show C3 (ck I2 J2)
  rw [e, ck_fr (by rfl) h2]
  exact hm.2
theorem l3x_set (hX2 : X.1 < 2 ^ 31) (hh : cx_hok cx_B0 I R T) (hr : rl3 I J R T) (x y : Int32) : ev_W X 42 0 (ez_lay [.ref 0, .int x, .int y]) [] (ev_hp I J R T) 0 0 (lw_mid T (fun v I1 J1 R1 T1 => (mi_k ck_42_0.2.1 (kf_set x y) I J v I1 J1 R1 T1 ∧ cp I1 J1 R1 T1) ∧ C3 (ck I1 J1))) := by
  refine (r3_v (l2x_set hX2 hh hr.1 x y) cv_42_0 hX2 hh ao_2).mono (lw_mono ?_)
  rintro v I1 J1 R1 T1 ⟨h1, A, B, e, h2⟩
  refine ⟨h1, ?_⟩
  rw [e, ck_fr (by rfl) h2]
  exact hr.2
theorem l3m_set (hX2 : X.1 < 2 ^ 31) (hh : cx_hok cx_B0 I R T) (hr : rl3 I J R T) (x y : Int32) (hh1 : cx_hok cx_B0 I1 R1 T1) (hm : (mi_k ck_42_0.2.1 (kf_set x y) I J v I1 J1 R1 T1 ∧ cp I1 J1 R1 T1) ∧ C3 (ck I1 J1)) : ev_W X 219 0 (ez_lay [.ref 35, .int x, .int y]) [] (ev_hp I1 J1 R1 T1) 0 0 (lw_mid T1 (fun u I2 J2 R2 T2 => rl3 I2 J2 R2 T2)) := by
  refine (r3_v (l2m_set hX2 hh hr.1 x y hh1 hm.1) cv_219_0 hX2 hh1 ao_2).mono (lw_mono ?_)
  rintro u I2 J2 R2 T2 ⟨h1, A, B, e, h2⟩
  refine ⟨h1.2, ?_⟩
  show C3 (ck I2 J2)
  rw [e, ck_fr (by rfl) h2]
  exact hm.2
theorem l3x_drift (hX2 : X.1 < 2 ^ 31) (hh : cx_hok cx_B0 I R T) (hr : rl3 I J R T) (x y : Int32) : ev_W X 16 0 (ez_lay [.ref 0, .int x, .int y]) [] (ev_hp I J R T) 0 0 (lw_mid T (fun v I1 J1 R1 T1 => (mi_k ck_16_0.2.1 (kf_drift x y) I J v I1 J1 R1 T1 ∧ cp I1 J1 R1 T1) ∧ ∃ K, C3 K ∧ ck I1 J1 = fx_drift x y K)) := by
  refine (r3_w (l2x_drift hX2 hh hr.1 x y) (x3_drift x y)).mono (lw_mono ?_)
  rintro v I1 J1 R1 T1 ⟨h1, A, B, e, h2⟩
  exact ⟨h1, _, hr.2, e.trans h2⟩
theorem l3m_drift (hX2 : X.1 < 2 ^ 31) (hh : cx_hok cx_B0 I R T) (hr : rl3 I J R T) (x y : Int32) (hh1 : cx_hok cx_B0 I1 R1 T1) (hm : (mi_k ck_16_0.2.1 (kf_drift x y) I J v I1 J1 R1 T1 ∧ cp I1 J1 R1 T1) ∧ ∃ K, C3 K ∧ ck I1 J1 = fx_drift x y K) : ev_W X 185 0 (ez_lay [.ref 35, .int x, .int y]) [] (ev_hp I1 J1 R1 T1) 0 0 (lw_mid T1 (fun u I2 J2 R2 T2 => rl3 I2 J2 R2 T2)) := by
  refine (r3_v (l2m_drift hX2 hh hr.1 x y hh1 hm.1) cv_185_0 hX2 hh1 ao_2).mono (lw_mono ?_)
  rintro u I2 J2 R2 T2 ⟨h1, A, B, e, h2⟩
  refine ⟨h1.2, ?_⟩
  show C3 (ck I2 J2)
  rw [e, ck_fr (by rfl) h2]
  obtain ⟨K, hK, h3⟩ := hm.2
  rw [h3]
  exact C3_drift x y hK
theorem l3x_spots (hX2 : X.1 < 2 ^ 31) (hh : cx_hok cx_B0 I R T) (hr : rl3 I J R T) (x : Int32) : ev_W X 46 0 (ez_lay [.ref 0, .int x]) [] (ev_hp I J R T) 0 0 (lw_mid T (fun v I1 J1 R1 T1 => rl2 I1 J1 R1 T1 ∧ C3 (ck I1 J1))) := by
  refine (r3_v (l2x_spots hX2 hh hr.1 x) cv_46_0 hX2 hh ao_1).mono (lw_mono ?_)
  rintro v I1 J1 R1 T1 ⟨h1, A, B, e, h2⟩
  refine ⟨h1, ?_⟩
  rw [e, ck_fr (by rfl) h2]
  exact hr.2
theorem l3m_spots (hX2 : X.1 < 2 ^ 31) (hh : cx_hok cx_B0 I R T) (hr : rl3 I J R T) (x : Int32) (hh1 : cx_hok cx_B0 I1 R1 T1) (hm : rl2 I1 J1 R1 T1 ∧ C3 (ck I1 J1)) : ev_W X 223 0 (ez_lay [.ref 35, .int x]) [] (ev_hp I1 J1 R1 T1) 0 0 (lw_mid T1 (fun u I2 J2 R2 T2 => rl3 I2 J2 R2 T2)) := by
  refine (r3_v (l2m_spots hX2 x hh1 hm.1) cv_223_0 hX2 hh1 ao_1).mono (lw_mono ?_)
  rintro u I2 J2 R2 T2 ⟨h1, A, B, e, h2⟩
  refine ⟨h1, ?_⟩
  show C3 (ck I2 J2)
  rw [e, ck_fr (by rfl) h2]
  exact hm.2
theorem l3x_spot (hX2 : X.1 < 2 ^ 31) (hh : cx_hok cx_B0 I R T) (hr : rl3 I J R T) (x y : Int32) : ev_W X 44 0 (ez_lay [.ref 0, .int x, .int y]) [] (ev_hp I J R T) 0 0 (lw_midL T (fun v I1 J1 R1 T1 => rl2 I1 J1 R1 T1 ∧ C3 (ck I1 J1))) := by
  refine (r3_vL (l2x_spot hX2 hh hr.1 x y) cv_44_0 hX2 hh ao_2).mono (lw_monoL ?_)
  rintro v I1 J1 R1 T1 ⟨h1, A, B, e, h2⟩
  refine ⟨h1, ?_⟩
  rw [e, ck_fr (by rfl) h2]
  exact hr.2
theorem l3m_spot (hX2 : X.1 < 2 ^ 31) (hh : cx_hok cx_B0 I R T) (hr : rl3 I J R T) (x y : Int32) (hh1 : cx_hok cx_B0 I1 R1 T1) (hm : rl2 I1 J1 R1 T1 ∧ C3 (ck I1 J1)) : ev_W X 222 0 (ez_lay [.ref 35, .int x, .int y]) [] (ev_hp I1 J1 R1 T1) 0 0 (lw_midL T1 (fun u I2 J2 R2 T2 => rl3 I2 J2 R2 T2)) := by
  refine (r3_vL (l2m_spot hX2 x y hh1 hm.1) cv_222_0 hX2 hh1 ao_2).mono (lw_monoL ?_)
  rintro u I2 J2 R2 T2 ⟨h1, A, B, e, h2⟩
  refine ⟨h1, ?_⟩
  show C3 (ck I2 J2)
  rw [e, ck_fr (by rfl) h2]
  exact hm.2
theorem l3x_layings (hX2 : X.1 < 2 ^ 31) (hh : cx_hok cx_B0 I R T) (hr : rl3 I J R T) : ev_W X 27 0 (ez_lay [.ref 0]) [] (ev_hp I J R T) 0 0 (lw_mid T (fun v I1 J1 R1 T1 => rl2 I1 J1 R1 T1 ∧ C3 (ck I1 J1))) := by
  refine (r3_v (l2x_layings hX2 hh hr.1) cv_27_0 hX2 hh ao_0).mono (lw_mono ?_)
  rintro v I1 J1 R1 T1 ⟨h1, A, B, e, h2⟩
  refine ⟨h1, ?_⟩
  rw [e, ck_fr (by rfl) h2]
  exact hr.2
theorem l3m_layings (hX2 : X.1 < 2 ^ 31) (hh : cx_hok cx_B0 I R T) (hr : rl3 I J R T) (hh1 : cx_hok cx_B0 I1 R1 T1) (hm : rl2 I1 J1 R1 T1 ∧ C3 (ck I1 J1)) : ev_W X 206 0 (ez_lay [.ref 35]) [] (ev_hp I1 J1 R1 T1) 0 0 (lw_mid T1 (fun u I2 J2 R2 T2 => rl3 I2 J2 R2 T2)) := by
  refine (r3_v (l2m_layings hX2 hh1 hm.1) cv_206_0 hX2 hh1 ao_0).mono (lw_mono ?_)
  rintro u I2 J2 R2 T2 ⟨h1, A, B, e, h2⟩
  refine ⟨h1, ?_⟩
  show C3 (ck I2 J2)
  rw [e, ck_fr (by rfl) h2]
  exact hm.2
theorem l3x_laid (hX2 : X.1 < 2 ^ 31) (hh : cx_hok cx_B0 I R T) (hr : rl3 I J R T) (x y : Int32) : ev_W X 26 0 (ez_lay [.ref 0, .int x, .int y]) [] (ev_hp I J R T) 0 0 (lw_mid T (fun v I1 J1 R1 T1 => rl2 I1 J1 R1 T1 ∧ C3 (ck I1 J1))) := by
  refine (r3_v (l2x_laid hX2 hh hr.1 x y) cv_26_0 hX2 hh ao_2).mono (lw_mono ?_)
  rintro v I1 J1 R1 T1 ⟨h1, A, B, e, h2⟩
  refine ⟨h1, ?_⟩
  rw [e, ck_fr (by rfl) h2]
  exact hr.2
theorem l3m_laid (hX2 : X.1 < 2 ^ 31) (hh : cx_hok cx_B0 I R T) (hr : rl3 I J R T) (x y : Int32) (hh1 : cx_hok cx_B0 I1 R1 T1) (hm : rl2 I1 J1 R1 T1 ∧ C3 (ck I1 J1)) : ev_W X 205 0 (ez_lay [.ref 35, .int x, .int y]) [] (ev_hp I1 J1 R1 T1) 0 0 (lw_mid T1 (fun u I2 J2 R2 T2 => rl3 I2 J2 R2 T2)) := by
  refine (r3_v (l2m_laid hX2 x y hh1 hm.1) cv_205_0 hX2 hh1 ao_2).mono (lw_mono ?_)
  rintro u I2 J2 R2 T2 ⟨h1, A, B, e, h2⟩
  refine ⟨h1, ?_⟩
  show C3 (ck I2 J2)
  rw [e, ck_fr (by rfl) h2]
  exact hm.2
theorem l3x_call (hX2 : X.1 < 2 ^ 31) (hh : cx_hok cx_B0 I R T) (hr : rl3 I J R T) (x : Int32) : ev_W X 10 0 (ez_lay [.ref 0, .int x]) [] (ev_hp I J R T) 0 0 (lw_mid T (fun v I1 J1 R1 T1 => (mi_k ck_10_0.2.1 (kf_call x) I J v I1 J1 R1 T1 ∧ cp I1 J1 R1 T1) ∧ ∃ K, C3 K ∧ ck I1 J1 = fx_call x K)) := by
  refine (r3_w (l2x_call hX2 hh hr.1 x) (x3_call x)).mono (lw_mono ?_)
  rintro v I1 J1 R1 T1 ⟨h1, A, B, e, h2⟩
  exact ⟨h1, _, hr.2, e.trans h2⟩
theorem l3m_call (hX2 : X.1 < 2 ^ 31) (hh : cx_hok cx_B0 I R T) (hr : rl3 I J R T) (x : Int32) (hh1 : cx_hok cx_B0 I1 R1 T1) (hm : (mi_k ck_10_0.2.1 (kf_call x) I J v I1 J1 R1 T1 ∧ cp I1 J1 R1 T1) ∧ ∃ K, C3 K ∧ ck I1 J1 = fx_call x K) : ev_W X 175 0 (ez_lay [.ref 35, .int x]) [] (ev_hp I1 J1 R1 T1) 0 0 (lw_mid T1 (fun u I2 J2 R2 T2 => rl3 I2 J2 R2 T2)) := by
  refine (r3_w (l2m_call hX2 hh hr.1 x hh1 hm.1) (y3_call hh1.1 x)).mono (lw_mono ?_)
  rintro u I2 J2 R2 T2 ⟨h1, A, B, e, h2⟩
  obtain ⟨K, hK, h3⟩ := hm.2
  refine ⟨h1.2, ?_⟩
  show C3 (ck I2 J2)
  rw [e, h2, h3]
  exact C3_call x hK
theorem l3x_salvo (hX2 : X.1 < 2 ^ 31) (hh : cx_hok cx_B0 I R T) (hr : rl3 I J R T) (x y : Int32) : ev_W X 41 0 (ez_lay [.ref 0, .int x, .int y]) [] (ev_hp I J R T) 0 0 (lw_mid T (fun v I1 J1 R1 T1 => (mi_k ck_41_0.2.1 (kf_salvo x y) I J v I1 J1 R1 T1 ∧ cp I1 J1 R1 T1) ∧ ∃ K, C3 K ∧ ck I1 J1 = fx_salvo x y K)) := by
  refine (r3_w (l2x_salvo hX2 hh hr.1 x y) (x3_salvo x y)).mono (lw_mono ?_)
  rintro v I1 J1 R1 T1 ⟨h1, A, B, e, h2⟩
  exact ⟨h1, _, hr.2, e.trans h2⟩
theorem l3m_salvo (hX2 : X.1 < 2 ^ 31) (hh : cx_hok cx_B0 I R T) (hr : rl3 I J R T) (x y : Int32) (hh1 : cx_hok cx_B0 I1 R1 T1) (hm : (mi_k ck_41_0.2.1 (kf_salvo x y) I J v I1 J1 R1 T1 ∧ cp I1 J1 R1 T1) ∧ ∃ K, C3 K ∧ ck I1 J1 = fx_salvo x y K) : ev_W X 218 0 (ez_lay [.ref 35, .int x, .int y]) [] (ev_hp I1 J1 R1 T1) 0 0 (lw_mid T1 (fun u I2 J2 R2 T2 => rl3 I2 J2 R2 T2)) := by
  refine (r3_w (l2m_salvo hX2 hh hr.1 x y hh1 hm.1) (y3_salvo hh1.1 x y)).mono (lw_mono ?_)
  rintro u I2 J2 R2 T2 ⟨h1, A, B, e, h2⟩
  obtain ⟨K, hK, h3⟩ := hm.2
  refine ⟨h1.2, ?_⟩
  show C3 (ck I2 J2)
  rw [e, h2, h3]
  exact C3_salvo x y hK
theorem l3x_answer (hX2 : X.1 < 2 ^ 31) (hh : cx_hok cx_B0 I R T) (hr : rl3 I J R T) (x y : Int32) : ev_W X 1 0 (ez_lay [.ref 0, .int x, .int y]) [] (ev_hp I J R T) 0 0 (lw_mid T (fun v I1 J1 R1 T1 => rl2 I1 J1 R1 T1 ∧ ∃ K, C3 K ∧ ck I1 J1 = fx_answer x y K)) := by
  refine (r3_w (l2x_answer hX2 hh hr.1 x y) (x3_answer hh.1 x y)).mono (lw_mono ?_)
  rintro v I1 J1 R1 T1 ⟨h1, A, B, e, h2⟩
  exact ⟨h1, _, hr.2, e.trans h2⟩
theorem l3m_answer (hX2 : X.1 < 2 ^ 31) (hh : cx_hok cx_B0 I R T) (hr : rl3 I J R T) (x y : Int32) (hh1 : cx_hok cx_B0 I1 R1 T1) (hm : rl2 I1 J1 R1 T1 ∧ ∃ K, C3 K ∧ ck I1 J1 = fx_answer x y K) : ev_W X 166 0 (ez_lay [.ref 35, .int x, .int y]) [] (ev_hp I1 J1 R1 T1) 0 0 (lw_mid T1 (fun u I2 J2 R2 T2 => rl3 I2 J2 R2 T2)) := by
  refine (r3_wp (l2m_answer hX2 x y hh1 hm.1) (fun N => y3_answer (N := N) hh1.1 x y)).mono (lw_mono ?_)
  rintro u I2 J2 R2 T2 ⟨h1, A, B, e, h2⟩
  obtain ⟨K, hK, h3⟩ := hm.2
  refine ⟨h1, ?_⟩
  show C3 (ck I2 J2)
  rw [e, h2, h3]
  exact C3_answer x y hK
theorem l3x_lose (hX2 : X.1 < 2 ^ 31) (hh : cx_hok cx_B0 I R T) (hr : rl3 I J R T) (x : Int32) : ev_W X 32 0 (ez_lay [.ref 0, .int x]) [] (ev_hp I J R T) 0 0 (lw_mid T (fun v I1 J1 R1 T1 => rl2 I1 J1 R1 T1 ∧ ∃ K, C3 K ∧ ck I1 J1 = fx_lose x K)) := by
  refine (r3_w (l2x_lose hX2 hh hr.1 x) (x3_lose hh.1 x)).mono (lw_mono ?_)
  rintro v I1 J1 R1 T1 ⟨h1, A, B, e, h2⟩
  exact ⟨h1, _, hr.2, e.trans h2⟩
theorem l3m_lose (hX2 : X.1 < 2 ^ 31) (hh : cx_hok cx_B0 I R T) (hr : rl3 I J R T) (x : Int32) (hh1 : cx_hok cx_B0 I1 R1 T1) (hm : rl2 I1 J1 R1 T1 ∧ ∃ K, C3 K ∧ ck I1 J1 = fx_lose x K) : ev_W X 209 0 (ez_lay [.ref 35, .int x]) [] (ev_hp I1 J1 R1 T1) 0 0 (lw_mid T1 (fun u I2 J2 R2 T2 => rl3 I2 J2 R2 T2)) := by
  refine (r3_wp (l2m_lose hX2 x hh1 hm.1) (fun N => y3_lose (N := N) hh1.1 x)).mono (lw_mono ?_)
  rintro u I2 J2 R2 T2 ⟨h1, A, B, e, h2⟩
  obtain ⟨K, hK, h3⟩ := hm.2
  refine ⟨h1, ?_⟩
  show C3 (ck I2 J2)
  rw [e, h2, h3]
  exact C3_lose x hK
theorem l3x_back (hX2 : X.1 < 2 ^ 31) (hh : cx_hok cx_B0 I R T) (hr : rl3 I J R T) : ev_W X 5 0 (ez_lay [.ref 0]) [] (ev_hp I J R T) 0 0 (lw_mid T (fun v I1 J1 R1 T1 => (mi_k ck_5_0.2.1 kf_back I J v I1 J1 R1 T1 ∧ cp I1 J1 R1 T1) ∧ ∃ K, C3 K ∧ ck I1 J1 = fx_back K)) := by
  refine (r3_w (l2x_back hX2 hh hr.1) (x3_back hh.1)).mono (lw_mono ?_)
  rintro v I1 J1 R1 T1 ⟨h1, A, B, e, h2⟩
  exact ⟨h1, _, hr.2, e.trans h2⟩
theorem l3m_back (hX2 : X.1 < 2 ^ 31) (hh : cx_hok cx_B0 I R T) (hr : rl3 I J R T) (hh1 : cx_hok cx_B0 I1 R1 T1) (hm : (mi_k ck_5_0.2.1 kf_back I J v I1 J1 R1 T1 ∧ cp I1 J1 R1 T1) ∧ ∃ K, C3 K ∧ ck I1 J1 = fx_back K) : ev_W X 168 0 (ez_lay [.ref 35]) [] (ev_hp I1 J1 R1 T1) 0 0 (lw_mid T1 (fun u I2 J2 R2 T2 => rl3 I2 J2 R2 T2)) := by
  refine (r3_wp (l2m_back hX2 hh hr.1 hh1 hm.1) (fun N => y3_back (N := N) hh1.1)).mono (lw_mono ?_)
  rintro u I2 J2 R2 T2 ⟨h1, A, B, e, h2⟩
  obtain ⟨K, hK, h3⟩ := hm.2
  refine ⟨h1.2, ?_⟩
  show C3 (ck I2 J2)
  rw [e, h2, h3]
  exact C3_back hK
theorem l3x_truth (hX2 : X.1 < 2 ^ 31) (hh : cx_hok cx_B0 I R T) (hr : rl3 I J R T) (x y : Int32) : ev_W X 53 0 (ez_lay [.ref 0, .int x, .int y]) [] (ev_hp I J R T) 0 0 (lw_mid T (fun v I1 J1 R1 T1 => rl2 I1 J1 R1 T1 ∧ C3 (ck I1 J1))) := by
  refine (r3_v (l2x_truth hX2 hh hr.1 x y) cv_53_0 hX2 hh ao_2).mono (lw_mono ?_)
  rintro v I1 J1 R1 T1 ⟨h1, A, B, e, h2⟩
  refine ⟨h1, ?_⟩
  rw [e, ck_fr (by rfl) h2]
  exact hr.2
theorem l3m_truth (hX2 : X.1 < 2 ^ 31) (hh : cx_hok cx_B0 I R T) (hr : rl3 I J R T) (x y : Int32) (hh1 : cx_hok cx_B0 I1 R1 T1) (hm : rl2 I1 J1 R1 T1 ∧ C3 (ck I1 J1)) : ev_W X 229 0 (ez_lay [.ref 35, .int x, .int y]) [] (ev_hp I1 J1 R1 T1) 0 0 (lw_mid T1 (fun u I2 J2 R2 T2 => rl3 I2 J2 R2 T2)) := by
  refine (r3_v (l2m_truth hX2 x y hh1 hm.1) cv_229_0 hX2 hh1 ao_2).mono (lw_mono ?_)
  rintro u I2 J2 R2 T2 ⟨h1, A, B, e, h2⟩
  refine ⟨h1, ?_⟩
  show C3 (ck I2 J2)
  rw [e, ck_fr (by rfl) h2]
  exact hm.2
theorem l3x_lies (hX2 : X.1 < 2 ^ 31) (hh : cx_hok cx_B0 I R T) (hr : rl3 I J R T) (x y z : Int32) : ev_W X 31 0 (ez_lay [.ref 0, .int x, .int y, .int z]) [] (ev_hp I J R T) 0 0 (lw_midL T (fun v I1 J1 R1 T1 => rl2 I1 J1 R1 T1 ∧ C3 (ck I1 J1))) := by
  refine (r3_vL (l2x_lies hX2 hh hr.1 x y z) cv_31_0 hX2 hh ao_3).mono (lw_monoL ?_)
  rintro v I1 J1 R1 T1 ⟨h1, A, B, e, h2⟩
  refine ⟨h1, ?_⟩
  rw [e, ck_fr (by rfl) h2]
  exact hr.2
theorem l3m_lies (hX2 : X.1 < 2 ^ 31) (hh : cx_hok cx_B0 I R T) (hr : rl3 I J R T) (x y z : Int32) (hh1 : cx_hok cx_B0 I1 R1 T1) (hm : rl2 I1 J1 R1 T1 ∧ C3 (ck I1 J1)) : ev_W X 208 0 (ez_lay [.ref 35, .int x, .int y, .int z]) [] (ev_hp I1 J1 R1 T1) 0 0 (lw_midL T1 (fun u I2 J2 R2 T2 => rl3 I2 J2 R2 T2)) := by
  refine (r3_vL (l2m_lies hX2 x y z hh1 hm.1) cv_208_0 hX2 hh1 ao_3).mono (lw_monoL ?_)
  rintro u I2 J2 R2 T2 ⟨h1, A, B, e, h2⟩
  refine ⟨h1, ?_⟩
  show C3 (ck I2 J2)
  rw [e, ck_fr (by rfl) h2]
  exact hm.2
theorem l3x_left (hX2 : X.1 < 2 ^ 31) (hh : cx_hok cx_B0 I R T) (hr : rl3 I J R T) : ev_W X 29 0 (ez_lay [.ref 0]) [] (ev_hp I J R T) 0 0 (lw_mid T (fun v I1 J1 R1 T1 => rl2 I1 J1 R1 T1 ∧ C3 (ck I1 J1))) := by
  refine (r3_v (l2x_left hX2 hh hr.1) cv_29_0 hX2 hh ao_0).mono (lw_mono ?_)
  rintro v I1 J1 R1 T1 ⟨h1, A, B, e, h2⟩
  refine ⟨h1, ?_⟩
  rw [e, ck_fr (by rfl) h2]
  exact hr.2
theorem l3m_left (hX2 : X.1 < 2 ^ 31) (hh : cx_hok cx_B0 I R T) (hr : rl3 I J R T) (hh1 : cx_hok cx_B0 I1 R1 T1) (hm : rl2 I1 J1 R1 T1 ∧ C3 (ck I1 J1)) : ev_W X 207 0 (ez_lay [.ref 35]) [] (ev_hp I1 J1 R1 T1) 0 0 (lw_mid T1 (fun u I2 J2 R2 T2 => rl3 I2 J2 R2 T2)) := by
  refine (r3_v (l2m_left hX2 hh1 hm.1) cv_207_0 hX2 hh1 ao_0).mono (lw_mono ?_)
  rintro u I2 J2 R2 T2 ⟨h1, A, B, e, h2⟩
  refine ⟨h1, ?_⟩
  show C3 (ck I2 J2)
  rw [e, ck_fr (by rfl) h2]
  exact hm.2
theorem l3x_which (hX2 : X.1 < 2 ^ 31) (hh : cx_hok cx_B0 I R T) (hr : rl3 I J R T) (x : Int32) : ev_W X 54 0 (ez_lay [.ref 0, .int x]) [] (ev_hp I J R T) 0 0 (lw_mid T (fun v I1 J1 R1 T1 => rl2 I1 J1 R1 T1 ∧ C3 (ck I1 J1))) := by
  refine (r3_v (l2x_which hX2 hh hr.1 x) cv_54_0 hX2 hh ao_1).mono (lw_mono ?_)
  rintro v I1 J1 R1 T1 ⟨h1, A, B, e, h2⟩
  refine ⟨h1, ?_⟩
  rw [e, ck_fr (by rfl) h2]
  exact hr.2
theorem l3m_which (hX2 : X.1 < 2 ^ 31) (hh : cx_hok cx_B0 I R T) (hr : rl3 I J R T) (x : Int32) (hh1 : cx_hok cx_B0 I1 R1 T1) (hm : rl2 I1 J1 R1 T1 ∧ C3 (ck I1 J1)) : ev_W X 232 0 (ez_lay [.ref 35, .int x]) [] (ev_hp I1 J1 R1 T1) 0 0 (lw_mid T1 (fun u I2 J2 R2 T2 => rl3 I2 J2 R2 T2)) := by
  refine (r3_v (l2m_which hX2 x hh1 hm.1) cv_232_0 hX2 hh1 ao_1).mono (lw_mono ?_)
  rintro u I2 J2 R2 T2 ⟨h1, A, B, e, h2⟩
  refine ⟨h1, ?_⟩
  show C3 (ck I2 J2)
  rw [e, ck_fr (by rfl) h2]
  exact hm.2
theorem l3x_there (hX2 : X.1 < 2 ^ 31) (hh : cx_hok cx_B0 I R T) (hr : rl3 I J R T) (x : Int32) : ev_W X 51 0 (ez_lay [.ref 0, .int x]) [] (ev_hp I J R T) 0 0 (lw_mid T (fun v I1 J1 R1 T1 => rl2 I1 J1 R1 T1 ∧ C3 (ck I1 J1))) := by
  refine (r3_v (l2x_there hX2 hh hr.1 x) cv_51_0 hX2 hh ao_1).mono (lw_mono ?_)
  rintro v I1 J1 R1 T1 ⟨h1, A, B, e, h2⟩
  refine ⟨h1, ?_⟩
  rw [e, ck_fr (by rfl) h2]
  exact hr.2
theorem l3m_there (hX2 : X.1 < 2 ^ 31) (hh : cx_hok cx_B0 I R T) (hr : rl3 I J R T) (x : Int32) (hh1 : cx_hok cx_B0 I1 R1 T1) (hm : rl2 I1 J1 R1 T1 ∧ C3 (ck I1 J1)) : ev_W X 227 0 (ez_lay [.ref 35, .int x]) [] (ev_hp I1 J1 R1 T1) 0 0 (lw_mid T1 (fun u I2 J2 R2 T2 => rl3 I2 J2 R2 T2)) := by
  refine (r3_v (l2m_there hX2 x hh1 hm.1) cv_227_0 hX2 hh1 ao_1).mono (lw_mono ?_)
  rintro u I2 J2 R2 T2 ⟨h1, A, B, e, h2⟩
  refine ⟨h1, ?_⟩
  show C3 (ck I2 J2)
  rw [e, ck_fr (by rfl) h2]
  exact hm.2
theorem l3x_sure (hX2 : X.1 < 2 ^ 31) (hh : cx_hok cx_B0 I R T) (hr : rl3 I J R T) (x : Int32) : ev_W X 48 0 (ez_lay [.ref 0, .int x]) [] (ev_hp I J R T) 0 0 (lw_midL T (fun v I1 J1 R1 T1 => rl2 I1 J1 R1 T1 ∧ C3 (ck I1 J1))) := by
  refine (r3_vL (l2x_sure hX2 hh hr.1 x) cv_48_0 hX2 hh ao_1).mono (lw_monoL ?_)
  rintro v I1 J1 R1 T1 ⟨h1, A, B, e, h2⟩
  refine ⟨h1, ?_⟩
  rw [e, ck_fr (by rfl) h2]
  exact hr.2
theorem l3m_sure (hX2 : X.1 < 2 ^ 31) (hh : cx_hok cx_B0 I R T) (hr : rl3 I J R T) (x : Int32) (hh1 : cx_hok cx_B0 I1 R1 T1) (hm : rl2 I1 J1 R1 T1 ∧ C3 (ck I1 J1)) : ev_W X 225 0 (ez_lay [.ref 35, .int x]) [] (ev_hp I1 J1 R1 T1) 0 0 (lw_midL T1 (fun u I2 J2 R2 T2 => rl3 I2 J2 R2 T2)) := by
  refine (r3_vL (l2m_sure hX2 x hh1 hm.1) cv_225_0 hX2 hh1 ao_1).mono (lw_monoL ?_)
  rintro u I2 J2 R2 T2 ⟨h1, A, B, e, h2⟩
  refine ⟨h1, ?_⟩
  show C3 (ck I2 J2)
  rw [e, ck_fr (by rfl) h2]
  exact hm.2
theorem l3x_part (hX2 : X.1 < 2 ^ 31) (hh : cx_hok cx_B0 I R T) (hr : rl3 I J R T) (x y : Int32) : ev_W X 37 0 (ez_lay [.ref 0, .int x, .int y]) [] (ev_hp I J R T) 0 0 (lw_mid T (fun v I1 J1 R1 T1 => rl2 I1 J1 R1 T1 ∧ C3 (ck I1 J1))) := by
  refine (r3_v (l2x_part hX2 hh hr.1 x y) cv_37_0 hX2 hh ao_2).mono (lw_mono ?_)
  rintro v I1 J1 R1 T1 ⟨h1, A, B, e, h2⟩
  refine ⟨h1, ?_⟩
  rw [e, ck_fr (by rfl) h2]
  exact hr.2
theorem l3m_part (hX2 : X.1 < 2 ^ 31) (hh : cx_hok cx_B0 I R T) (hr : rl3 I J R T) (x y : Int32) (hh1 : cx_hok cx_B0 I1 R1 T1) (hm : rl2 I1 J1 R1 T1 ∧ C3 (ck I1 J1)) : ev_W X 214 0 (ez_lay [.ref 35, .int x, .int y]) [] (ev_hp I1 J1 R1 T1) 0 0 (lw_mid T1 (fun u I2 J2 R2 T2 => rl3 I2 J2 R2 T2)) := by
  refine (r3_v (l2m_part hX2 x y hh1 hm.1) cv_214_0 hX2 hh1 ao_2).mono (lw_mono ?_)
  rintro u I2 J2 R2 T2 ⟨h1, A, B, e, h2⟩
  refine ⟨h1, ?_⟩
  show C3 (ck I2 J2)
  rw [e, ck_fr (by rfl) h2]
  exact hm.2
theorem l3x_best (hX2 : X.1 < 2 ^ 31) (hh : cx_hok cx_B0 I R T) (hr : rl3 I J R T) (x : Int32) : ev_W X 6 0 (ez_lay [.ref 0, .int x]) [] (ev_hp I J R T) 0 0 (lw_mid T (fun v I1 J1 R1 T1 => rl2 I1 J1 R1 T1 ∧ C3 (ck I1 J1))) := by
  refine (r3_v (l2x_best hX2 hh hr.1 x) cv_6_0 hX2 hh ao_1).mono (lw_mono ?_)
  rintro v I1 J1 R1 T1 ⟨h1, A, B, e, h2⟩
  refine ⟨h1, ?_⟩
  rw [e, ck_fr (by rfl) h2]
  exact hr.2
theorem l3m_best (hX2 : X.1 < 2 ^ 31) (hh : cx_hok cx_B0 I R T) (hr : rl3 I J R T) (x : Int32) (hh1 : cx_hok cx_B0 I1 R1 T1) (hm : rl2 I1 J1 R1 T1 ∧ C3 (ck I1 J1)) : ev_W X 169 0 (ez_lay [.ref 35, .int x]) [] (ev_hp I1 J1 R1 T1) 0 0 (lw_mid T1 (fun u I2 J2 R2 T2 => rl3 I2 J2 R2 T2)) := by
  refine (r3_v (l2m_best hX2 x hh1 hm.1) cv_169_0 hX2 hh1 ao_1).mono (lw_mono ?_)
  rintro u I2 J2 R2 T2 ⟨h1, A, B, e, h2⟩
  refine ⟨h1, ?_⟩
  show C3 (ck I2 J2)
  rw [e, ck_fr (by rfl) h2]
  exact hm.2
theorem l3x_bestSalvo (hX2 : X.1 < 2 ^ 31) (hh : cx_hok cx_B0 I R T) (hr : rl3 I J R T) (x : Int32) : ev_W X 7 0 (ez_lay [.ref 0, .int x]) [] (ev_hp I J R T) 0 0 (lw_mid T (fun v I1 J1 R1 T1 => rl2 I1 J1 R1 T1 ∧ C3 (ck I1 J1))) := by
  refine (r3_v (l2x_bestSalvo hX2 hh hr.1 x) cv_7_0 hX2 hh ao_1).mono (lw_mono ?_)
  rintro v I1 J1 R1 T1 ⟨h1, A, B, e, h2⟩
  refine ⟨h1, ?_⟩
  rw [e, ck_fr (by rfl) h2]
  exact hr.2
theorem l3m_bestSalvo (hX2 : X.1 < 2 ^ 31) (hh : cx_hok cx_B0 I R T) (hr : rl3 I J R T) (x : Int32) (hh1 : cx_hok cx_B0 I1 R1 T1) (hm : rl2 I1 J1 R1 T1 ∧ C3 (ck I1 J1)) : ev_W X 170 0 (ez_lay [.ref 35, .int x]) [] (ev_hp I1 J1 R1 T1) 0 0 (lw_mid T1 (fun u I2 J2 R2 T2 => rl3 I2 J2 R2 T2)) := by
  refine (r3_v (l2m_bestSalvo hX2 x hh1 hm.1) cv_170_0 hX2 hh1 ao_1).mono (lw_mono ?_)
  rintro u I2 J2 R2 T2 ⟨h1, A, B, e, h2⟩
  refine ⟨h1, ?_⟩
  show C3 (ck I2 J2)
  rw [e, ck_fr (by rfl) h2]
  exact hm.2
theorem l3x_need (hX2 : X.1 < 2 ^ 31) (hh : cx_hok cx_B0 I R T) (hr : rl3 I J R T) (x : Int32) : ev_W X 34 0 (ez_lay [.ref 0, .int x]) [] (ev_hp I J R T) 0 0 (lw_mid T (fun v I1 J1 R1 T1 => rl2 I1 J1 R1 T1 ∧ C3 (ck I1 J1))) := by
  refine (r3_v (l2x_need hX2 hh hr.1 x) cv_34_0 hX2 hh ao_1).mono (lw_mono ?_)
  rintro v I1 J1 R1 T1 ⟨h1, A, B, e, h2⟩
  refine ⟨h1, ?_⟩
  rw [e, ck_fr (by rfl) h2]
  exact hr.2
theorem l3m_need (hX2 : X.1 < 2 ^ 31) (hh : cx_hok cx_B0 I R T) (hr : rl3 I J R T) (x : Int32) (hh1 : cx_hok cx_B0 I1 R1 T1) (hm : rl2 I1 J1 R1 T1 ∧ C3 (ck I1 J1)) : ev_W X 212 0 (ez_lay [.ref 35, .int x]) [] (ev_hp I1 J1 R1 T1) 0 0 (lw_mid T1 (fun u I2 J2 R2 T2 => rl3 I2 J2 R2 T2)) := by
  refine (r3_v (l2m_need hX2 x hh1 hm.1) cv_212_0 hX2 hh1 ao_1).mono (lw_mono ?_)
  rintro u I2 J2 R2 T2 ⟨h1, A, B, e, h2⟩
  refine ⟨h1, ?_⟩
  show C3 (ck I2 J2)
  rw [e, ck_fr (by rfl) h2]
  exact hm.2
theorem l3x_calls (hX2 : X.1 < 2 ^ 31) (hh : cx_hok cx_B0 I R T) (hr : rl3 I J R T) (x y : Int32) : ev_W X 11 0 (ez_lay [.ref 0, .int x, .int y]) [] (ev_hp I J R T) 0 0 (lw_mid T (fun v I1 J1 R1 T1 => rl2 I1 J1 R1 T1 ∧ C3 (ck I1 J1))) := by
  refine (r3_v (l2x_calls hX2 hh hr.1 x y) cv_11_0 hX2 hh ao_2).mono (lw_mono ?_)
  rintro v I1 J1 R1 T1 ⟨h1, A, B, e, h2⟩
  refine ⟨h1, ?_⟩
  rw [e, ck_fr (by rfl) h2]
  exact hr.2
theorem l3m_calls (hX2 : X.1 < 2 ^ 31) (hh : cx_hok cx_B0 I R T) (hr : rl3 I J R T) (x y : Int32) (hh1 : cx_hok cx_B0 I1 R1 T1) (hm : rl2 I1 J1 R1 T1 ∧ C3 (ck I1 J1)) : ev_W X 178 0 (ez_lay [.ref 35, .int x, .int y]) [] (ev_hp I1 J1 R1 T1) 0 0 (lw_mid T1 (fun u I2 J2 R2 T2 => rl3 I2 J2 R2 T2)) := by
  refine (r3_v (l2m_calls hX2 x y hh1 hm.1) cv_178_0 hX2 hh1 ao_2).mono (lw_mono ?_)
  rintro u I2 J2 R2 T2 ⟨h1, A, B, e, h2⟩
  refine ⟨h1, ?_⟩
  show C3 (ck I2 J2)
  rw [e, ck_fr (by rfl) h2]
  exact hm.2
theorem l3x_hardest (hX2 : X.1 < 2 ^ 31) (hh : cx_hok cx_B0 I R T) (hr : rl3 I J R T) (x : Int32) : ev_W X 20 0 (ez_lay [.ref 0, .int x]) [] (ev_hp I J R T) 0 0 (lw_mid T (fun v I1 J1 R1 T1 => rl2 I1 J1 R1 T1 ∧ C3 (ck I1 J1))) := by
  refine (r3_v (l2x_hardest hX2 hh hr.1 x) cv_20_0 hX2 hh ao_1).mono (lw_mono ?_)
  rintro v I1 J1 R1 T1 ⟨h1, A, B, e, h2⟩
  refine ⟨h1, ?_⟩
  rw [e, ck_fr (by rfl) h2]
  exact hr.2
theorem l3m_hardest (hX2 : X.1 < 2 ^ 31) (hh : cx_hok cx_B0 I R T) (hr : rl3 I J R T) (x : Int32) (hh1 : cx_hok cx_B0 I1 R1 T1) (hm : rl2 I1 J1 R1 T1 ∧ C3 (ck I1 J1)) : ev_W X 196 0 (ez_lay [.ref 35, .int x]) [] (ev_hp I1 J1 R1 T1) 0 0 (lw_mid T1 (fun u I2 J2 R2 T2 => rl3 I2 J2 R2 T2)) := by
  refine (r3_v (l2m_hardest hX2 x hh1 hm.1) cv_196_0 hX2 hh1 ao_1).mono (lw_mono ?_)
  rintro u I2 J2 R2 T2 ⟨h1, A, B, e, h2⟩
  refine ⟨h1, ?_⟩
  show C3 (ck I2 J2)
  rw [e, ck_fr (by rfl) h2]
  exact hm.2
theorem l3x_stray (hX2 : X.1 < 2 ^ 31) (hh : cx_hok cx_B0 I R T) (hr : rl3 I J R T) : ev_W X 47 0 (ez_lay [.ref 0]) [] (ev_hp I J R T) 0 0 (lw_mid T (fun v I1 J1 R1 T1 => rl2 I1 J1 R1 T1 ∧ C3 (ck I1 J1))) := by
  refine (r3_v (l2x_stray hX2 hh hr.1) cv_47_0 hX2 hh ao_0).mono (lw_mono ?_)
  rintro v I1 J1 R1 T1 ⟨h1, A, B, e, h2⟩
  refine ⟨h1, ?_⟩
  rw [e, ck_fr (by rfl) h2]
  exact hr.2
theorem l3m_stray (hX2 : X.1 < 2 ^ 31) (hh : cx_hok cx_B0 I R T) (hr : rl3 I J R T) (hh1 : cx_hok cx_B0 I1 R1 T1) (hm : rl2 I1 J1 R1 T1 ∧ C3 (ck I1 J1)) : ev_W X 224 0 (ez_lay [.ref 35]) [] (ev_hp I1 J1 R1 T1) 0 0 (lw_mid T1 (fun u I2 J2 R2 T2 => rl3 I2 J2 R2 T2)) := by
  refine (r3_v (l2m_stray hX2 hh1 hm.1) cv_224_0 hX2 hh1 ao_0).mono (lw_mono ?_)
  rintro u I2 J2 R2 T2 ⟨h1, A, B, e, h2⟩
  refine ⟨h1, ?_⟩
  show C3 (ck I2 J2)
  rw [e, ck_fr (by rfl) h2]
  exact hm.2
theorem l3x_blame (hX2 : X.1 < 2 ^ 31) (hh : cx_hok cx_B0 I R T) (hr : rl3 I J R T) : ev_W X 8 0 (ez_lay [.ref 0]) [] (ev_hp I J R T) 0 0 (lw_mid T (fun v I1 J1 R1 T1 => rl2 I1 J1 R1 T1 ∧ C3 (ck I1 J1))) := by
  refine (r3_v (l2x_blame hX2 hh hr.1) cv_8_0 hX2 hh ao_0).mono (lw_mono ?_)
  rintro v I1 J1 R1 T1 ⟨h1, A, B, e, h2⟩
  refine ⟨h1, ?_⟩
  rw [e, ck_fr (by rfl) h2]
  exact hr.2
theorem l3m_blame (hX2 : X.1 < 2 ^ 31) (hh : cx_hok cx_B0 I R T) (hr : rl3 I J R T) (hh1 : cx_hok cx_B0 I1 R1 T1) (hm : rl2 I1 J1 R1 T1 ∧ C3 (ck I1 J1)) : ev_W X 172 0 (ez_lay [.ref 35]) [] (ev_hp I1 J1 R1 T1) 0 0 (lw_mid T1 (fun u I2 J2 R2 T2 => rl3 I2 J2 R2 T2)) := by
  refine (r3_v (l2m_blame hX2 hh1 hm.1) cv_172_0 hX2 hh1 ao_0).mono (lw_mono ?_)
  rintro u I2 J2 R2 T2 ⟨h1, A, B, e, h2⟩
  refine ⟨h1, ?_⟩
  show C3 (ck I2 J2)
  rw [e, ck_fr (by rfl) h2]
  exact hm.2
theorem l3x_blamed (hX2 : X.1 < 2 ^ 31) (hh : cx_hok cx_B0 I R T) (hr : rl3 I J R T) : ev_W X 9 0 (ez_lay [.ref 0]) [] (ev_hp I J R T) 0 0 (lw_mid T (fun v I1 J1 R1 T1 => rl2 I1 J1 R1 T1 ∧ C3 (ck I1 J1))) := by
  refine (r3_v (l2x_blamed hX2 hh hr.1) cv_9_0 hX2 hh ao_0).mono (lw_mono ?_)
  rintro v I1 J1 R1 T1 ⟨h1, A, B, e, h2⟩
  refine ⟨h1, ?_⟩
  rw [e, ck_fr (by rfl) h2]
  exact hr.2
theorem l3m_blamed (hX2 : X.1 < 2 ^ 31) (hh : cx_hok cx_B0 I R T) (hr : rl3 I J R T) (hh1 : cx_hok cx_B0 I1 R1 T1) (hm : rl2 I1 J1 R1 T1 ∧ C3 (ck I1 J1)) : ev_W X 174 0 (ez_lay [.ref 35]) [] (ev_hp I1 J1 R1 T1) 0 0 (lw_mid T1 (fun u I2 J2 R2 T2 => rl3 I2 J2 R2 T2)) := by
  refine (r3_v (l2m_blamed hX2 hh1 hm.1) cv_174_0 hX2 hh1 ao_0).mono (lw_mono ?_)
  rintro u I2 J2 R2 T2 ⟨h1, A, B, e, h2⟩
  refine ⟨h1, ?_⟩
  show C3 (ck I2 J2)
  rw [e, ck_fr (by rfl) h2]
  exact hm.2
theorem l3x_switched (hX2 : X.1 < 2 ^ 31) (hh : cx_hok cx_B0 I R T) (hr : rl3 I J R T) (x : Int32) : ev_W X 50 0 (ez_lay [.ref 0, .int x]) [] (ev_hp I J R T) 0 0 (lw_mid T (fun v I1 J1 R1 T1 => rl2 I1 J1 R1 T1 ∧ C3 (ck I1 J1))) := by
  refine (r3_v (l2x_switched hX2 hh hr.1 x) cv_50_0 hX2 hh ao_1).mono (lw_mono ?_)
  rintro v I1 J1 R1 T1 ⟨h1, A, B, e, h2⟩
  refine ⟨h1, ?_⟩
  rw [e, ck_fr (by rfl) h2]
  exact hr.2
theorem l3m_switched (hX2 : X.1 < 2 ^ 31) (hh : cx_hok cx_B0 I R T) (hr : rl3 I J R T) (x : Int32) (hh1 : cx_hok cx_B0 I1 R1 T1) (hm : rl2 I1 J1 R1 T1 ∧ C3 (ck I1 J1)) : ev_W X 226 0 (ez_lay [.ref 35, .int x]) [] (ev_hp I1 J1 R1 T1) 0 0 (lw_mid T1 (fun u I2 J2 R2 T2 => rl3 I2 J2 R2 T2)) := by
  refine (r3_v (l2m_switched hX2 x hh1 hm.1) cv_226_0 hX2 hh1 ao_1).mono (lw_mono ?_)
  rintro u I2 J2 R2 T2 ⟨h1, A, B, e, h2⟩
  refine ⟨h1, ?_⟩
  show C3 (ck I2 J2)
  rw [e, ck_fr (by rfl) h2]
  exact hm.2
theorem l3x_count (hX2 : X.1 < 2 ^ 31) (hh : cx_hok cx_B0 I R T) (hr : rl3 I J R T) (x y : Int32) : ev_W X 14 0 (ez_lay [.ref 0, .int x, .int y]) [] (ev_hp I J R T) 0 0 (lw_mid T (fun v I1 J1 R1 T1 => (mi_k ck_14_0.2.1 (kf_count x y) I J v I1 J1 R1 T1 ∧ cp I1 J1 R1 T1) ∧ ∃ K, C3 K ∧ ck I1 J1 = fx_count x y K)) := by
  refine (r3_w (l2x_count hX2 hh hr.1 x y) (x3_count hh.1 x y)).mono (lw_mono ?_)
  rintro v I1 J1 R1 T1 ⟨h1, A, B, e, h2⟩
  exact ⟨h1, _, hr.2, e.trans h2⟩
theorem l3m_count (hX2 : X.1 < 2 ^ 31) (hh : cx_hok cx_B0 I R T) (hr : rl3 I J R T) (x y : Int32) (hh1 : cx_hok cx_B0 I1 R1 T1) (hm : (mi_k ck_14_0.2.1 (kf_count x y) I J v I1 J1 R1 T1 ∧ cp I1 J1 R1 T1) ∧ ∃ K, C3 K ∧ ck I1 J1 = fx_count x y K) : ev_W X 182 0 (ez_lay [.ref 35, .int x, .int y]) [] (ev_hp I1 J1 R1 T1) 0 0 (lw_mid T1 (fun u I2 J2 R2 T2 => rl3 I2 J2 R2 T2)) := by
  refine (r3_v (l2m_count hX2 hh hr.1 x y hh1 hm.1) cv_182_0 hX2 hh1 ao_2).mono (lw_mono ?_)
  rintro u I2 J2 R2 T2 ⟨h1, A, B, e, h2⟩
  refine ⟨h1.2, ?_⟩
  show C3 (ck I2 J2)
  rw [e, ck_fr (by rfl) h2]
  obtain ⟨K, hK, h3⟩ := hm.2
  rw [h3]
  exact C3_count x y hK
theorem l3x_rim (hX2 : X.1 < 2 ^ 31) (hh : cx_hok cx_B0 I R T) (hr : rl3 I J R T) (x y : Int32) : ev_W X 40 0 (ez_lay [.ref 0, .int x, .int y]) [] (ev_hp I J R T) 0 0 (lw_mid T (fun v I1 J1 R1 T1 => rl2 I1 J1 R1 T1 ∧ C3 (ck I1 J1))) := by
  refine (r3_v (l2x_rim hX2 hh hr.1 x y) cv_40_0 hX2 hh ao_2).mono (lw_mono ?_)
  rintro v I1 J1 R1 T1 ⟨h1, A, B, e, h2⟩
  refine ⟨h1, ?_⟩
  rw [e, ck_fr (by rfl) h2]
  exact hr.2
theorem l3m_rim (hX2 : X.1 < 2 ^ 31) (hh : cx_hok cx_B0 I R T) (hr : rl3 I J R T) (x y : Int32) (hh1 : cx_hok cx_B0 I1 R1 T1) (hm : rl2 I1 J1 R1 T1 ∧ C3 (ck I1 J1)) : ev_W X 217 0 (ez_lay [.ref 35, .int x, .int y]) [] (ev_hp I1 J1 R1 T1) 0 0 (lw_mid T1 (fun u I2 J2 R2 T2 => rl3 I2 J2 R2 T2)) := by
  refine (r3_v (l2m_rim hX2 x y hh1 hm.1) cv_217_0 hX2 hh1 ao_2).mono (lw_mono ?_)
  rintro u I2 J2 R2 T2 ⟨h1, A, B, e, h2⟩
  refine ⟨h1, ?_⟩
  show C3 (ck I2 J2)
  rw [e, ck_fr (by rfl) h2]
  exact hm.2
theorem l3x_fitting (hX2 : X.1 < 2 ^ 31) (hh : cx_hok cx_B0 I R T) (hr : rl3 I J R T) : ev_W X 17 0 (ez_lay [.ref 0]) [] (ev_hp I J R T) 0 0 (lw_mid T (fun v I1 J1 R1 T1 => rl2 I1 J1 R1 T1 ∧ C3 (ck I1 J1))) := by
  refine (r3_v (l2x_fitting hX2 hh hr.1) cv_17_0 hX2 hh ao_0).mono (lw_mono ?_)
  rintro v I1 J1 R1 T1 ⟨h1, A, B, e, h2⟩
  refine ⟨h1, ?_⟩
  rw [e, ck_fr (by rfl) h2]
  exact hr.2
theorem l3m_fitting (hX2 : X.1 < 2 ^ 31) (hh : cx_hok cx_B0 I R T) (hr : rl3 I J R T) (hh1 : cx_hok cx_B0 I1 R1 T1) (hm : rl2 I1 J1 R1 T1 ∧ C3 (ck I1 J1)) : ev_W X 191 0 (ez_lay [.ref 35]) [] (ev_hp I1 J1 R1 T1) 0 0 (lw_mid T1 (fun u I2 J2 R2 T2 => rl3 I2 J2 R2 T2)) := by
  refine (r3_v (l2m_fitting hX2 hh1 hm.1) cv_191_0 hX2 hh1 ao_0).mono (lw_mono ?_)
  rintro u I2 J2 R2 T2 ⟨h1, A, B, e, h2⟩
  refine ⟨h1, ?_⟩
  show C3 (ck I2 J2)
  rw [e, ck_fr (by rfl) h2]
  exact hm.2
theorem l3x_clues (hX2 : X.1 < 2 ^ 31) (hh : cx_hok cx_B0 I R T) (hr : rl3 I J R T) (x : Int32) : ev_W X 13 0 (ez_lay [.ref 0, .int x]) [] (ev_hp I J R T) 0 0 (lw_mid T (fun v I1 J1 R1 T1 => rl2 I1 J1 R1 T1 ∧ C3 (ck I1 J1))) := by
  refine (r3_v (l2x_clues hX2 hh hr.1 x) cv_13_0 hX2 hh ao_1).mono (lw_mono ?_)
  rintro v I1 J1 R1 T1 ⟨h1, A, B, e, h2⟩
  refine ⟨h1, ?_⟩
  rw [e, ck_fr (by rfl) h2]
  exact hr.2
theorem l3m_clues (hX2 : X.1 < 2 ^ 31) (hh : cx_hok cx_B0 I R T) (hr : rl3 I J R T) (x : Int32) (hh1 : cx_hok cx_B0 I1 R1 T1) (hm : rl2 I1 J1 R1 T1 ∧ C3 (ck I1 J1)) : ev_W X 181 0 (ez_lay [.ref 35, .int x]) [] (ev_hp I1 J1 R1 T1) 0 0 (lw_mid T1 (fun u I2 J2 R2 T2 => rl3 I2 J2 R2 T2)) := by
  refine (r3_v (l2m_clues hX2 x hh1 hm.1) cv_181_0 hX2 hh1 ao_1).mono (lw_mono ?_)
  rintro u I2 J2 R2 T2 ⟨h1, A, B, e, h2⟩
  refine ⟨h1, ?_⟩
  show C3 (ck I2 J2)
  rw [e, ck_fr (by rfl) h2]
  exact hm.2
theorem l3x_many (hX2 : X.1 < 2 ^ 31) (hh : cx_hok cx_B0 I R T) (hr : rl3 I J R T) (x : Int32) : ev_W X 33 0 (ez_lay [.ref 0, .int x]) [] (ev_hp I J R T) 0 0 (lw_mid T (fun v I1 J1 R1 T1 => rl2 I1 J1 R1 T1 ∧ C3 (ck I1 J1))) := by
  refine (r3_v (l2x_many hX2 hh hr.1 x) cv_33_0 hX2 hh ao_1).mono (lw_mono ?_)
  rintro v I1 J1 R1 T1 ⟨h1, A, B, e, h2⟩
  refine ⟨h1, ?_⟩
  rw [e, ck_fr (by rfl) h2]
  exact hr.2
theorem l3m_many (hX2 : X.1 < 2 ^ 31) (hh : cx_hok cx_B0 I R T) (hr : rl3 I J R T) (x : Int32) (hh1 : cx_hok cx_B0 I1 R1 T1) (hm : rl2 I1 J1 R1 T1 ∧ C3 (ck I1 J1)) : ev_W X 210 0 (ez_lay [.ref 35, .int x]) [] (ev_hp I1 J1 R1 T1) 0 0 (lw_mid T1 (fun u I2 J2 R2 T2 => rl3 I2 J2 R2 T2)) := by
  refine (r3_v (l2m_many hX2 x hh1 hm.1) cv_210_0 hX2 hh1 ao_1).mono (lw_mono ?_)
  rintro u I2 J2 R2 T2 ⟨h1, A, B, e, h2⟩
  refine ⟨h1, ?_⟩
  show C3 (ck I2 J2)
  rw [e, ck_fr (by rfl) h2]
  exact hm.2
end
end
section
/-! A laying is gone through the calls, by the class. -/
section
variable {N : Nat} {X : ez_X} {I : Nat → Nat → Int32} {J : Nat → Nat → Int64} {R : Nat → Nat} {T : List ez_C} {Q : pw_Q} {cz kz : Nat}
set_option maxRecDepth 100000 in
theorem pl0_r0 {a0 : Int32} : ∀ G : ez_F, fx_up X 4 G 152 0 [.ref 1, .int a0] [] (ev_hp I J R T) cz kz = ev_C G 3 [.ref 2, .int a0] (ev_hp I J R T) fun r h1 c1 k1 => G 152 8 [.ref 1, .int a0] (r.toList ++ []) h1 (cz + c1) (kz + k1) := by
  intro G
  rfl
set_option maxRecDepth 100000 in
theorem pl0_r1 {a0 : Int32} {a1 : Int32} : ∀ G : ez_F, fx_up X 1 G 152 8 [.ref 1, .int a0] [.int a1] (ev_hp I J R T) cz kz = some (some (.int a1), (ev_hp I J R T), cz, kz) := by
  intro G
  rfl
theorem pl_rule {x : Int32}
    (H : Q (some (.int (ev_at 3 (I 2) x))) (ev_hp I J R T)) : pw (N + 1) X 152 0 [.ref 1, .int x] [] (ev_hp I J R T) Q := by
  refine pw_callp (by decide) (fun _ _ => pl0_r0) (pe_at (show cx_Ds[2]? = some (0, 3, []) from rfl) (by decide)) ?_
  exact pw_p (pw_ret (by decide) (fun _ _ => pl0_r1) H)
set_option maxRecDepth 100000 in
theorem pl0_r2 {a0 : Int32} : ∀ G : ez_F, fx_up X 4 G 124 0 [.ref 8, .int a0] [] (ev_hp I J R T) cz kz = ev_C G 4 [.ref 9, .int a0] (ev_hp I J R T) fun r h1 c1 k1 => G 124 8 [.ref 8, .int a0] (r.toList ++ []) h1 (cz + c1) (kz + k1) := by
  intro G
  rfl
set_option maxRecDepth 100000 in
theorem pl0_r3 {a0 : Int32} {a1 : Int64} : ∀ G : ez_F, fx_up X 1 G 124 8 [.ref 8, .int a0] [.long a1] (ev_hp I J R T) cz kz = some (some (.long a1), (ev_hp I J R T), cz, kz) := by
  intro G
  rfl
theorem pl_target {x : Int32}
    (H : Q (some (.long (ev_atJ 30 (J 9) x))) (ev_hp I J R T)) : pw (N + 1) X 124 0 [.ref 8, .int x] [] (ev_hp I J R T) Q := by
  refine pw_callp (by decide) (fun _ _ => pl0_r2) (pe_atJ (show cx_Ds[9]? = some (1, 30, []) from rfl) (by decide)) ?_
  exact pw_p (pw_ret (by decide) (fun _ _ => pl0_r3) H)
set_option maxRecDepth 100000 in
theorem pl0_r4 {a0 : Int32} : ∀ G : ez_F, fx_up X 4 G 133 0 [.ref 10, .int a0] [] (ev_hp I J R T) cz kz = ev_C G 4 [.ref 11, .int a0] (ev_hp I J R T) fun r h1 c1 k1 => G 133 8 [.ref 10, .int a0] (r.toList ++ []) h1 (cz + c1) (kz + k1) := by
  intro G
  rfl
set_option maxRecDepth 100000 in
theorem pl0_r5 {a0 : Int32} {a1 : Int64} : ∀ G : ez_F, fx_up X 1 G 133 8 [.ref 10, .int a0] [.long a1] (ev_hp I J R T) cz kz = some (some (.long a1), (ev_hp I J R T), cz, kz) := by
  intro G
  rfl
theorem pl_placeOf {x : Int32}
    (H : Q (some (.long (ev_atJ 3 (J 11) x))) (ev_hp I J R T)) : pw (N + 1) X 133 0 [.ref 10, .int x] [] (ev_hp I J R T) Q := by
  refine pw_callp (by decide) (fun _ _ => pl0_r4) (pe_atJ (show cx_Ds[11]? = some (1, 3, []) from rfl) (by decide)) ?_
  exact pw_p (pw_ret (by decide) (fun _ _ => pl0_r5) H)
set_option maxRecDepth 100000 in
theorem pl0_r6 {a0 : Int32} : ∀ G : ez_F, fx_up X 2 G 138 0 [.ref 6, .int a0] [] (ev_hp I J R T) cz kz = G 138 4 [.ref 6, .int a0] [.ref (R 0)] (ev_hp I J R T) cz kz := by
  intro G
  rfl
set_option maxRecDepth 100000 in
theorem pl0_r7 {a0 : Int32} {a1 : Nat} : ∀ G : ez_F, fx_up X 1 G 138 4 [.ref 6, .int a0] [.ref a1] (ev_hp I J R T) cz kz = G 138 5 [.ref 6, .int a0] [.int a0, .ref a1] (ev_hp I J R T) cz kz := by
  intro G
  rfl
theorem pl_codeOf {x : Int32}
    (H : pw N X 138 5 [.ref 6, .int x] [.int x, .ref (R 0)] (ev_hp I J R T) Q) : pw (N + 1) X 138 0 [.ref 6, .int x] [] (ev_hp I J R T) Q := by
  refine pw_seg (by decide) (fun _ _ => pl0_r6) ?_
  refine pw_p (pw_seg (by decide) (fun _ _ => pl0_r7) ?_)
  exact H
end
section
variable {N : Nat} {X : ez_X} {I : Nat → Nat → Int32} {J : Nat → Nat → Int64} {R : Nat → Nat} {T : List ez_C} {x : Int32}
theorem pe_rule2 : pe N X 152 [.ref 1, .int x] (ev_hp I J R T) (fun r h => r = some (.int (ev_at 3 (I 2) x)) ∧ h = ev_hp I J R T) := pe_of (pw_p (pl_rule ⟨rfl, rfl⟩))
theorem pe_target : pe N X 124 [.ref 8, .int x] (ev_hp I J R T) (fun r h => r = some (.long (ev_atJ 30 (J 9) x)) ∧ h = ev_hp I J R T) := pe_of (pw_p (pl_target ⟨rfl, rfl⟩))
theorem pe_placeOf : pe N X 133 [.ref 10, .int x] (ev_hp I J R T) (fun r h => r = some (.long (ev_atJ 3 (J 11) x)) ∧ h = ev_hp I J R T) := pe_of (pw_p (pl_placeOf ⟨rfl, rfl⟩))
end
section
variable {N : Nat} {X : ez_X} {I : Nat → Nat → Int32} {J : Nat → Nat → Int64} {R : Nat → Nat} {T : List ez_C} {Q : pw_Q} {cz kz : Nat}
set_option maxRecDepth 100000 in
theorem pl1_r0 {a0 : Int64} : ∀ G : ez_F, fx_up X 6 G 130 0 [.ref 10, .long a0, ez_fill] [] (ev_hp I J R T) cz kz = G 130 8 [.ref 10, .long a0, ez_fill, .int (0 : Int32), .int (0 : Int32), .int (0 : Int32)] [] (ev_hp I J R T) cz kz := by
  intro G
  rfl
theorem pf_0 {t : Int64}
    (H : pw N X 130 8 [.ref 10, .long t, ez_fill, .int (0 : Int32), .int (0 : Int32), .int (0 : Int32)] [] (ev_hp I J R T) Q) : pw (N + 1) X 130 0 [.ref 10, .long t, ez_fill] [] (ev_hp I J R T) Q := by
  refine pw_seg (by decide) (fun _ _ => pl1_r0) ?_
  exact H
set_option maxRecDepth 100000 in
theorem pl1_r1 {a0 : Int64} {a1 : Int32} {a2 : Int32} {a3 : Int32} : ∀ G : ez_F, fx_up X 3 G 130 8 [.ref 10, .long a0, ez_fill, .int a1, .int a2, .int a3] [] (ev_hp I J R T) cz kz = bif decide ((3 : Int32) ≤ a3) then G 130 107 [.ref 10, .long a0, ez_fill, .int a1, .int a2, .int a3] [] (ev_hp I J R T) cz kz else G 130 14 [.ref 10, .long a0, ez_fill, .int a1, .int a2, .int a3] [] (ev_hp I J R T) cz kz := by
  intro G
  rfl
set_option maxRecDepth 100000 in
theorem pl1_r2 {a0 : Int64} {a1 : Int32} {a2 : Int32} {a3 : Int32} : ∀ G : ez_F, fx_up X 4 G 130 14 [.ref 10, .long a0, ez_fill, .int a1, .int a2, .int a3] [] (ev_hp I J R T) cz kz = ev_C G 4 [.ref 11, .int a3] (ev_hp I J R T) fun r h1 c1 k1 => G 130 23 [.ref 10, .long a0, ez_fill, .int a1, .int a2, .int a3] (r.toList ++ []) h1 (cz + c1) (kz + k1) := by
  intro G
  rfl
set_option maxRecDepth 100000 in
theorem pl1_r3 {a0 : Int64} {a1 : Int32} {a2 : Int32} {a3 : Int32} {a4 : Int64} : ∀ G : ez_F, fx_up X 9 G 130 23 [.ref 10, .long a0, ez_fill, .int a1, .int a2, .int a3] [.long a4] (ev_hp I J R T) cz kz = bif decide ((lg_cmp (a4 &&& a0) (0 : Int64)) = (0 : Int32)) then G 130 101 [.ref 10, .long a0, ez_fill, .int a1, .int a2, .int a3, .long a4, ez_fill, .long (a4 &&& a0), ez_fill] [] (ev_hp I J R T) cz kz else G 130 38 [.ref 10, .long a0, ez_fill, .int a1, .int a2, .int a3, .long a4, ez_fill, .long (a4 &&& a0), ez_fill] [] (ev_hp I J R T) cz kz := by
  intro G
  rfl
set_option maxRecDepth 100000 in
theorem pl1_r4 {a0 : Int64} {a1 : Int32} {a2 : Int32} {a3 : Int32} {a4 : Int64} {a5 : Int64} : ∀ G : ez_F, fx_up X 2 G 130 101 [.ref 10, .long a0, ez_fill, .int a1, .int a2, .int a3, .long a4, ez_fill, .long a5, ez_fill] [] (ev_hp I J R T) cz kz = G 130 8 [.ref 10, .long a0, ez_fill, .int a1, .int a2, .int (a3 + (1 : Int32)), .long a4, ez_fill, .long a5, ez_fill] [] (ev_hp I J R T) cz kz := by
  intro G
  rfl
set_option maxRecDepth 100000 in
theorem pl1_r5 {a0 : Int64} {a1 : Int32} {a2 : Int32} {a3 : Int32} {a4 : Int64} {a5 : Int64} : ∀ G : ez_F, fx_up X 4 G 130 38 [.ref 10, .long a0, ez_fill, .int a1, .int a2, .int a3, .long a4, ez_fill, .long a5, ez_fill] [] (ev_hp I J R T) cz kz = ev_C G 4 [.ref 12, .int a3] (ev_hp I J R T) fun r h1 c1 k1 => G 130 47 [.ref 10, .long a0, ez_fill, .int a1, .int a2, .int a3, .long a4, ez_fill, .long a5, ez_fill] (r.toList ++ []) h1 (cz + c1) (kz + k1) := by
  intro G
  rfl
set_option maxRecDepth 100000 in
theorem pl1_r6 {a0 : Int64} {a1 : Int32} {a2 : Int32} {a3 : Int32} {a4 : Int64} {a5 : Int64} {a6 : Int64} : ∀ G : ez_F, fx_up X 10 G 130 47 [.ref 10, .long a0, ez_fill, .int a1, .int a2, .int a3, .long a4, ez_fill, .long a5, ez_fill] [.long a6] (ev_hp I J R T) cz kz = ev_C G 39 [.ref 12, .int a3, .long (a6 ||| a5)] (ev_hp I J R T) fun r h1 c1 k1 => G 130 67 [.ref 10, .long a0, ez_fill, .int a1, .int a2, .int a3, .long a4, ez_fill, .long a5, ez_fill, .long a6, ez_fill, .long (a6 ||| a5), ez_fill] (r.toList ++ []) h1 (cz + c1) (kz + k1) := by
  intro G
  rfl
set_option maxRecDepth 100000 in
theorem pl1_r7 {a0 : Int64} {a1 : Int32} {a2 : Int32} {a3 : Int32} {a4 : Int64} {a5 : Int64} {a6 : Int64} {a7 : Int64} : ∀ G : ez_F, fx_up X 3 G 130 67 [.ref 10, .long a0, ez_fill, .int a1, .int a2, .int a3, .long a4, ez_fill, .long a5, ez_fill, .long a6, ez_fill, .long a7, ez_fill] [] (ev_hp I J R T) cz kz = ev_C G 237 [.long a5] (ev_hp I J R T) fun r h1 c1 k1 => G 130 73 [.ref 10, .long a0, ez_fill, .int a1, .int a2, .int a3, .long a4, ez_fill, .long a5, ez_fill, .long a6, ez_fill, .long a7, ez_fill] (r.toList ++ [.int a1]) h1 (cz + c1) (kz + k1) := by
  intro G
  rfl
set_option maxRecDepth 100000 in
theorem pl1_r8 {a0 : Int64} {a1 : Int32} {a2 : Int32} {a3 : Int32} {a4 : Int64} {a5 : Int64} {a6 : Int64} {a7 : Int64} {a8 : Int32} {a9 : Int32} : ∀ G : ez_F, fx_up X 7 G 130 73 [.ref 10, .long a0, ez_fill, .int a1, .int a2, .int a3, .long a4, ez_fill, .long a5, ez_fill, .long a6, ez_fill, .long a7, ez_fill] [.int a8, .int a9] (ev_hp I J R T) cz kz = bif decide ((lg_cmp a7 a6) = (0 : Int32)) then G 130 97 [.ref 10, .long a0, ez_fill, .int (a9 + a8), .int a2, .int a3, .long a4, ez_fill, .long a5, ez_fill, .long a6, ez_fill, .long a7, ez_fill] [.int a2] (ev_hp I J R T) cz kz else G 130 85 [.ref 10, .long a0, ez_fill, .int (a9 + a8), .int a2, .int a3, .long a4, ez_fill, .long a5, ez_fill, .long a6, ez_fill, .long a7, ez_fill] [.int a2] (ev_hp I J R T) cz kz := by
  intro G
  rfl
set_option maxRecDepth 100000 in
theorem pl1_r9 {a0 : Int64} {a1 : Int32} {a2 : Int32} {a3 : Int32} {a4 : Int64} {a5 : Int64} {a6 : Int64} {a7 : Int64} {a8 : Int32} : ∀ G : ez_F, fx_up X 5 G 130 97 [.ref 10, .long a0, ez_fill, .int a1, .int a2, .int a3, .long a4, ez_fill, .long a5, ez_fill, .long a6, ez_fill, .long a7, ez_fill] [.int a8] (ev_hp I J R T) cz kz = G 130 8 [.ref 10, .long a0, ez_fill, .int a1, .int (a8 ||| (0 : Int32)), .int (a3 + (1 : Int32)), .long a4, ez_fill, .long a5, ez_fill] [] (ev_hp I J R T) cz kz := by
  intro G
  rfl
set_option maxRecDepth 100000 in
theorem pl1_r10 {a0 : Int64} {a1 : Int32} {a2 : Int32} {a3 : Int32} {a4 : Int64} {a5 : Int64} {a6 : Int64} {a7 : Int64} {a8 : Int32} : ∀ G : ez_F, fx_up X 4 G 130 85 [.ref 10, .long a0, ez_fill, .int a1, .int a2, .int a3, .long a4, ez_fill, .long a5, ez_fill, .long a6, ez_fill, .long a7, ez_fill] [.int a8] (ev_hp I J R T) cz kz = bif decide (¬ (lg_cmp a7 a4) = (0 : Int32)) then G 130 97 [.ref 10, .long a0, ez_fill, .int a1, .int a2, .int a3, .long a4, ez_fill, .long a5, ez_fill, .long a6, ez_fill, .long a7, ez_fill] [.int a8] (ev_hp I J R T) cz kz else G 130 93 [.ref 10, .long a0, ez_fill, .int a1, .int a2, .int a3, .long a4, ez_fill, .long a5, ez_fill, .long a6, ez_fill, .long a7, ez_fill] [.int a8] (ev_hp I J R T) cz kz := by
  intro G
  rfl
set_option maxRecDepth 100000 in
theorem pl1_r11 {a0 : Int64} {a1 : Int32} {a2 : Int32} {a3 : Int32} {a4 : Int64} {a5 : Int64} {a6 : Int64} {a7 : Int64} {a8 : Int32} : ∀ G : ez_F, fx_up X 6 G 130 93 [.ref 10, .long a0, ez_fill, .int a1, .int a2, .int a3, .long a4, ez_fill, .long a5, ez_fill, .long a6, ez_fill, .long a7, ez_fill] [.int a8] (ev_hp I J R T) cz kz = G 130 8 [.ref 10, .long a0, ez_fill, .int a1, .int (a8 ||| (1 : Int32)), .int (a3 + (1 : Int32)), .long a4, ez_fill, .long a5, ez_fill] [] (ev_hp I J R T) cz kz := by
  intro G
  rfl
theorem pf_8 {t : Int64} {n k s : Int32}
    (H : (((3 : Int32) ≤ s → pw N X 130 107 [.ref 10, .long t, ez_fill, .int n, .int k, .int s] [] (ev_hp I J R T) Q) ∧ (¬ ((3 : Int32) ≤ s) → (((lg_cmp ((ev_atJ 3 (J 11) s) &&& t) (0 : Int64)) = (0 : Int32) → pw N X 130 8 [.ref 10, .long t, ez_fill, .int n, .int k, .int (s + (1 : Int32))] [] (ev_hp I J R T) Q) ∧ (¬ ((lg_cmp ((ev_atJ 3 (J 11) s) &&& t) (0 : Int64)) = (0 : Int32)) → (((lg_cmp ((ev_atJ 3 (J 12) s) ||| ((ev_atJ 3 (J 11) s) &&& t)) (ev_atJ 3 (J 12) s)) = (0 : Int32) → pw N X 130 8 [.ref 10, .long t, ez_fill, .int (n + (ev_bcJ ((ev_atJ 3 (J 11) s) &&& t))), .int (k ||| (0 : Int32)), .int (s + (1 : Int32))] [] (ev_hp I (ev_sJ J 12 (ev_putJ 3 (J 12) s ((ev_atJ 3 (J 12) s) ||| ((ev_atJ 3 (J 11) s) &&& t)))) R T) Q) ∧ (¬ ((lg_cmp ((ev_atJ 3 (J 12) s) ||| ((ev_atJ 3 (J 11) s) &&& t)) (ev_atJ 3 (J 12) s)) = (0 : Int32)) → ((¬ (lg_cmp ((ev_atJ 3 (J 12) s) ||| ((ev_atJ 3 (J 11) s) &&& t)) (ev_atJ 3 (J 11) s)) = (0 : Int32) → pw N X 130 8 [.ref 10, .long t, ez_fill, .int (n + (ev_bcJ ((ev_atJ 3 (J 11) s) &&& t))), .int (k ||| (0 : Int32)), .int (s + (1 : Int32))] [] (ev_hp I (ev_sJ J 12 (ev_putJ 3 (J 12) s ((ev_atJ 3 (J 12) s) ||| ((ev_atJ 3 (J 11) s) &&& t)))) R T) Q) ∧ (¬ (¬ (lg_cmp ((ev_atJ 3 (J 12) s) ||| ((ev_atJ 3 (J 11) s) &&& t)) (ev_atJ 3 (J 11) s)) = (0 : Int32)) → pw N X 130 8 [.ref 10, .long t, ez_fill, .int (n + (ev_bcJ ((ev_atJ 3 (J 11) s) &&& t))), .int (k ||| (1 : Int32)), .int (s + (1 : Int32))] [] (ev_hp I (ev_sJ J 12 (ev_putJ 3 (J 12) s ((ev_atJ 3 (J 12) s) ||| ((ev_atJ 3 (J 11) s) &&& t)))) R T) Q))))))))) : pw (N + 1) X 130 8 [.ref 10, .long t, ez_fill, .int n, .int k, .int s] [] (ev_hp I J R T) Q := by
  refine pw_if (by decide) (fun _ _ => pl1_r1) (fun w1 => ?_) (fun w1 => ?_)
  · have h1 := H.1 w1
    exact h1
  · have h1 := H.2 w1
    refine pw_p (pw_callp (by decide) (fun _ _ => pl1_r2) (pe_atJ (show cx_Ds[11]? = some (1, 3, []) from rfl) (by decide)) ?_)
    refine pw_p (pw_if (by decide) (fun _ _ => pl1_r3) (fun w2 => ?_) (fun w2 => ?_))
    · have h2 := h1.1 w2
      refine pw_p (pw_seg (by decide) (fun _ _ => pl1_r4) ?_)
      refine pw_cutl (by rfl) ?_
      exact h2
    · have h2 := h1.2 w2
      refine pw_p (pw_callp (by decide) (fun _ _ => pl1_r5) (pe_atJ (show cx_Ds[12]? = some (1, 3, []) from rfl) (by decide)) ?_)
      refine pw_p (pw_callp (by decide) (fun _ _ => pl1_r6) (pe_putJ (show cx_Ds[12]? = some (1, 3, []) from rfl) (by decide)) ?_)
      refine pw_p (pw_callp (by decide) (fun _ _ => pl1_r7) (pe_is (ec_bcJ _ _ _)) ?_)
      refine pw_p (pw_if (by decide) (fun _ _ => pl1_r8) (fun w3 => ?_) (fun w3 => ?_))
      · have h3 := h2.1 w3
        refine pw_p (pw_seg (by decide) (fun _ _ => pl1_r9) ?_)
        refine pw_cutl (by rfl) ?_
        exact h3
      · have h3 := h2.2 w3
        refine pw_p (pw_if (by decide) (fun _ _ => pl1_r10) (fun w4 => ?_) (fun w4 => ?_))
        · have h4 := h3.1 w4
          refine pw_p (pw_seg (by decide) (fun _ _ => pl1_r9) ?_)
          refine pw_cutl (by rfl) ?_
          exact h4
        · have h4 := h3.2 w4
          refine pw_p (pw_seg (by decide) (fun _ _ => pl1_r11) ?_)
          refine pw_cutl (by rfl) ?_
          exact h4
set_option maxRecDepth 100000 in
theorem pl1_r12 {a0 : Int64} {a1 : Int32} {a2 : Int32} {a3 : Int32} : ∀ G : ez_F, fx_up X 2 G 130 107 [.ref 10, .long a0, ez_fill, .int a1, .int a2, .int a3] [] (ev_hp I J R T) cz kz = ev_C G 237 [.long a0] (ev_hp I J R T) fun r h1 c1 k1 => G 130 111 [.ref 10, .long a0, ez_fill, .int a1, .int a2, .int a3] (r.toList ++ []) h1 (cz + c1) (kz + k1) := by
  intro G
  rfl
set_option maxRecDepth 100000 in
theorem pl1_r13 {a0 : Int64} {a1 : Int32} {a2 : Int32} {a3 : Int32} {a4 : Int32} : ∀ G : ez_F, fx_up X 2 G 130 111 [.ref 10, .long a0, ez_fill, .int a1, .int a2, .int a3] [.int a4] (ev_hp I J R T) cz kz = bif decide (¬ a4 = (1 : Int32)) then G 130 119 [.ref 10, .long a0, ez_fill, .int a1, .int a2, .int a3] [] (ev_hp I J R T) cz kz else G 130 115 [.ref 10, .long a0, ez_fill, .int a1, .int a2, .int a3] [] (ev_hp I J R T) cz kz := by
  intro G
  rfl
set_option maxRecDepth 100000 in
theorem pl1_r14 {a0 : Int64} {a1 : Int32} {a2 : Int32} {a3 : Int32} : ∀ G : ez_F, fx_up X 4 G 130 119 [.ref 10, .long a0, ez_fill, .int a1, .int a2, .int a3] [] (ev_hp I J R T) cz kz = bif decide (a2 = (0 : Int32)) then G 130 148 [.ref 10, .long a0, ez_fill, .int a1, .int a2, .int (0 : Int32)] [] (ev_hp I J R T) cz kz else G 130 127 [.ref 10, .long a0, ez_fill, .int a1, .int a2, .int (0 : Int32)] [] (ev_hp I J R T) cz kz := by
  intro G
  rfl
set_option maxRecDepth 100000 in
theorem pl1_r15 {a0 : Int64} {a1 : Int32} {a2 : Int32} {a3 : Int32} : ∀ G : ez_F, fx_up X 2 G 130 148 [.ref 10, .long a0, ez_fill, .int a1, .int a2, .int a3] [] (ev_hp I J R T) cz kz = some (some (.int a1), (ev_hp I J R T), cz, kz) := by
  intro G
  rfl
set_option maxRecDepth 100000 in
theorem pl1_r16 {a0 : Int64} {a1 : Int32} {a2 : Int32} {a3 : Int32} : ∀ G : ez_F, fx_up X 2 G 130 127 [.ref 10, .long a0, ez_fill, .int a1, .int a2, .int a3] [] (ev_hp I J R T) cz kz = bif decide (a3 = (0 : Int32)) then G 130 148 [.ref 10, .long a0, ez_fill, .int a1, .int a2, .int a3] [] (ev_hp I J R T) cz kz else G 130 132 [.ref 10, .long a0, ez_fill, .int a1, .int a2, .int a3] [] (ev_hp I J R T) cz kz := by
  intro G
  rfl
set_option maxRecDepth 100000 in
theorem pl1_r17 {a0 : Int64} {a1 : Int32} {a2 : Int32} {a3 : Int32} : ∀ G : ez_F, fx_up X 5 G 130 115 [.ref 10, .long a0, ez_fill, .int a1, .int a2, .int a3] [] (ev_hp I J R T) cz kz = bif decide (a2 = (0 : Int32)) then G 130 148 [.ref 10, .long a0, ez_fill, .int a1, .int a2, .int (1 : Int32)] [] (ev_hp I J R T) cz kz else G 130 127 [.ref 10, .long a0, ez_fill, .int a1, .int a2, .int (1 : Int32)] [] (ev_hp I J R T) cz kz := by
  intro G
  rfl
set_option maxRecDepth 100000 in
theorem pl1_r18 {a0 : Int64} {a1 : Int32} {a2 : Int32} {a3 : Int32} : ∀ G : ez_F, fx_up X 4 G 130 132 [.ref 10, .long a0, ez_fill, .int a1, .int a2, .int a3] [] (ev_hp I J R T) cz kz = ev_C G 152 [.ref 1, .int (1 : Int32)] (ev_hp I J R T) fun r h1 c1 k1 => G 130 140 [.ref 10, .long a0, ez_fill, .int a1, .int a2, .int a3] (r.toList ++ []) h1 (cz + c1) (kz + k1) := by
  intro G
  rfl
set_option maxRecDepth 100000 in
theorem pl1_r19 {a0 : Int64} {a1 : Int32} {a2 : Int32} {a3 : Int32} {a4 : Int32} : ∀ G : ez_F, fx_up X 2 G 130 140 [.ref 10, .long a0, ez_fill, .int a1, .int a2, .int a3] [.int a4] (ev_hp I J R T) cz kz = bif decide (¬ a4 = (1 : Int32)) then G 130 148 [.ref 10, .long a0, ez_fill, .int a1, .int a2, .int a3] [] (ev_hp I J R T) cz kz else G 130 144 [.ref 10, .long a0, ez_fill, .int a1, .int a2, .int a3] [] (ev_hp I J R T) cz kz := by
  intro G
  rfl
set_option maxRecDepth 100000 in
theorem pl1_r20 {a0 : Int64} {a1 : Int32} {a2 : Int32} {a3 : Int32} : ∀ G : ez_F, fx_up X 3 G 130 144 [.ref 10, .long a0, ez_fill, .int a1, .int a2, .int a3] [] (ev_hp I J R T) cz kz = some (some (.int (2 : Int32)), (ev_hp I J R T), cz, kz) := by
  intro G
  rfl
theorem pf_107 {t : Int64} {n k s : Int32}
    (H : ((¬ (ev_bcJ t) = (1 : Int32) → ((k = (0 : Int32) → Q (some (.int n)) (ev_hp I J R T)) ∧ (¬ (k = (0 : Int32)) → Q (some (.int n)) (ev_hp I J R T)))) ∧ (¬ (¬ (ev_bcJ t) = (1 : Int32)) → ((k = (0 : Int32) → Q (some (.int n)) (ev_hp I J R T)) ∧ (¬ (k = (0 : Int32)) → ((¬ (ev_at 3 (I 2) (1 : Int32)) = (1 : Int32) → Q (some (.int n)) (ev_hp I J R T)) ∧ (¬ (¬ (ev_at 3 (I 2) (1 : Int32)) = (1 : Int32)) → Q (some (.int (2 : Int32))) (ev_hp I J R T)))))))) : pw (N + 1) X 130 107 [.ref 10, .long t, ez_fill, .int n, .int k, .int s] [] (ev_hp I J R T) Q := by
  refine pw_callp (by decide) (fun _ _ => pl1_r12) (pe_is (ec_bcJ _ _ _)) ?_
  refine pw_p (pw_if (by decide) (fun _ _ => pl1_r13) (fun w1 => ?_) (fun w1 => ?_))
  · have h1 := H.1 w1
    refine pw_p (pw_if (by decide) (fun _ _ => pl1_r14) (fun w2 => ?_) (fun w2 => ?_))
    · have h2 := h1.1 w2
      exact pw_p (pw_ret (by decide) (fun _ _ => pl1_r15) h2)
    · have h2 := h1.2 w2
      refine pw_p (pw_if (by decide) (fun _ _ => pl1_r16) (fun w3 => ?_) (fun w3 => ?_))
      rotate_left
      · exact absurd (by decide) w3
      exact pw_p (pw_ret (by decide) (fun _ _ => pl1_r15) h2)
  · have h1 := H.2 w1
    refine pw_p (pw_if (by decide) (fun _ _ => pl1_r17) (fun w2 => ?_) (fun w2 => ?_))
    · have h2 := h1.1 w2
      exact pw_p (pw_ret (by decide) (fun _ _ => pl1_r15) h2)
    · have h2 := h1.2 w2
      refine pw_p (pw_if (by decide) (fun _ _ => pl1_r16) (fun w3 => ?_) (fun w3 => ?_))
      · exact absurd w3 (by decide)
      refine pw_p (pw_callp (by decide) (fun _ _ => pl1_r18) (pe_rule2) ?_)
      refine pw_p (pw_if (by decide) (fun _ _ => pl1_r19) (fun w3 => ?_) (fun w3 => ?_))
      · have h3 := h2.1 w3
        exact pw_p (pw_ret (by decide) (fun _ _ => pl1_r15) h3)
      · have h3 := h2.2 w3
        exact pw_p (pw_ret (by decide) (fun _ _ => pl1_r20) h3)
set_option maxRecDepth 100000 in
theorem pl1_r21 {a0 : Int32} : ∀ G : ez_F, fx_up X 4 G 132 0 [.ref 10, .int a0] [] (ev_hp I J R T) cz kz = ev_C G 4 [.ref 11, .int a0] (ev_hp I J R T) fun r h1 c1 k1 => G 132 8 [.ref 10, .int a0] (r.toList ++ []) h1 (cz + c1) (kz + k1) := by
  intro G
  rfl
set_option maxRecDepth 100000 in
theorem pl1_r22 {a0 : Int32} {a1 : Int64} : ∀ G : ez_F, fx_up X 5 G 132 8 [.ref 10, .int a0] [.long a1] (ev_hp I J R T) cz kz = ev_C G 4 [.ref 12, .int a0] (ev_hp I J R T) fun r h1 c1 k1 => G 132 17 [.ref 10, .int a0, .long a1, ez_fill] (r.toList ++ []) h1 (cz + c1) (kz + k1) := by
  intro G
  rfl
set_option maxRecDepth 100000 in
theorem pl1_r23 {a0 : Int32} {a1 : Int64} {a2 : Int64} : ∀ G : ez_F, fx_up X 3 G 132 17 [.ref 10, .int a0, .long a1, ez_fill] [.long a2] (ev_hp I J R T) cz kz = bif decide ((lg_cmp a2 (0 : Int64)) = (0 : Int32)) then G 132 24 [.ref 10, .int a0, .long a1, ez_fill] [] (ev_hp I J R T) cz kz else G 132 22 [.ref 10, .int a0, .long a1, ez_fill] [] (ev_hp I J R T) cz kz := by
  intro G
  rfl
set_option maxRecDepth 100000 in
theorem pl1_r24 {a0 : Int32} {a1 : Int64} : ∀ G : ez_F, fx_up X 8 G 132 24 [.ref 10, .int a0, .long a1, ez_fill] [] (ev_hp I J R T) cz kz = G 132 40 [.ref 10, .int a0, .long a1, ez_fill] [.int (I 1 1), .long a1, .ref 1, .ref 1] (ev_hp I J R T) cz kz := by
  intro G
  rfl
set_option maxRecDepth 100000 in
theorem pl1_r25 {a0 : Int32} {a1 : Int64} {a2 : Int32} {a3 : Int64} : ∀ G : ez_F, fx_up X 1 G 132 40 [.ref 10, .int a0, .long a1, ez_fill] [.int a2, .long a3, .ref 1, .ref 1] (ev_hp I J R T) cz kz = ev_C G 147 [.ref 1, .long a3, .int a2] (ev_hp I J R T) fun r h1 c1 k1 => G 132 43 [.ref 10, .int a0, .long a1, ez_fill] (r.toList ++ [.ref 1]) h1 (cz + c1) (kz + k1) := by
  intro G
  rfl
set_option maxRecDepth 100000 in
theorem pl1_r26 {a0 : Int32} {a1 : Int64} {a2 : Int64} : ∀ G : ez_F, fx_up X 3 G 132 43 [.ref 10, .int a0, .long a1, ez_fill] [.long a2, .ref 1] (ev_hp I J R T) cz kz = G 132 50 [.ref 10, .int a0, .long a1, ez_fill] [.int (I 1 2), .long a2, .ref 1] (ev_hp I J R T) cz kz := by
  intro G
  rfl
set_option maxRecDepth 100000 in
theorem pl1_r27 {a0 : Int32} {a1 : Int64} {a2 : Int32} {a3 : Int64} : ∀ G : ez_F, fx_up X 1 G 132 50 [.ref 10, .int a0, .long a1, ez_fill] [.int a2, .long a3, .ref 1] (ev_hp I J R T) cz kz = ev_C G 148 [.ref 1, .long a3, .int a2] (ev_hp I J R T) fun r h1 c1 k1 => G 132 53 [.ref 10, .int a0, .long a1, ez_fill] (r.toList ++ []) h1 (cz + c1) (kz + k1) := by
  intro G
  rfl
set_option maxRecDepth 100000 in
theorem pl1_r28 {a0 : Int32} {a1 : Int64} {a2 : Int64} : ∀ G : ez_F, fx_up X 1 G 132 53 [.ref 10, .int a0, .long a1, ez_fill] [.long a2] (ev_hp I J R T) cz kz = some (some (.long a2), (ev_hp I J R T), cz, kz) := by
  intro G
  rfl
set_option maxRecDepth 100000 in
theorem pl1_r29 {a0 : Int32} {a1 : Int64} : ∀ G : ez_F, fx_up X 2 G 132 22 [.ref 10, .int a0, .long a1, ez_fill] [] (ev_hp I J R T) cz kz = some (some (.long a1), (ev_hp I J R T), cz, kz) := by
  intro G
  rfl
theorem pn_0 {s : Int32}
    (H : (((lg_cmp (ev_atJ 3 (J 12) s) (0 : Int64)) = (0 : Int32) → Q (some (.long (md (I 1 3) (I 1 5) (I 1 6) (J 1 7) (ma (I 1 3) (I 1 5) (J 1 8) (J 1 9) (ev_atJ 3 (J 11) s) (I 1 1)) (I 1 2)))) (ev_hp I J R T)) ∧ (¬ ((lg_cmp (ev_atJ 3 (J 12) s) (0 : Int64)) = (0 : Int32)) → Q (some (.long (ev_atJ 3 (J 11) s))) (ev_hp I J R T)))) : pw (N + 1) X 132 0 [.ref 10, .int s] [] (ev_hp I J R T) Q := by
  refine pw_callp (by decide) (fun _ _ => pl1_r21) (pe_atJ (show cx_Ds[11]? = some (1, 3, []) from rfl) (by decide)) ?_
  refine pw_p (pw_callp (by decide) (fun _ _ => pl1_r22) (pe_atJ (show cx_Ds[12]? = some (1, 3, []) from rfl) (by decide)) ?_)
  refine pw_p (pw_if (by decide) (fun _ _ => pl1_r23) (fun w1 => ?_) (fun w1 => ?_))
  · have h1 := H.1 w1
    refine pw_p (pw_seg (by decide) (fun _ _ => pl1_r24) ?_)
    refine pw_p (pw_callp (by decide) (fun _ _ => pl1_r25) (pe_across) ?_)
    refine pw_p (pw_seg (by decide) (fun _ _ => pl1_r26) ?_)
    refine pw_p (pw_callp (by decide) (fun _ _ => pl1_r27) (pe_down) ?_)
    exact pw_p (pw_ret (by decide) (fun _ _ => pl1_r28) h1)
  · have h1 := H.2 w1
    exact pw_p (pw_ret (by decide) (fun _ _ => pl1_r29) h1)
set_option maxRecDepth 100000 in
theorem pl1_r30  : ∀ G : ez_F, fx_up X 3 G 131 0 [.ref 10] [] (ev_hp I J R T) cz kz = ev_C G 132 [.ref 10, .int (0 : Int32)] (ev_hp I J R T) fun r h1 c1 k1 => G 131 5 [.ref 10] (r.toList ++ []) h1 (cz + c1) (kz + k1) := by
  intro G
  rfl
theorem pm_0 
    (H : (∃ Q1 : pw_Q, pe N X 132 [.ref 10, .int (0 : Int32)] (ev_hp I J R T) Q1 ∧ ∀ (r : Option Value) (h1 : ez_H), Q1 r h1 → pw N X 131 5 [.ref 10] (r.toList ++ []) h1 Q)) : pw (N + 1) X 131 0 [.ref 10] [] (ev_hp I J R T) Q := by
  obtain ⟨Q1, hc, hk⟩ := H
  exact pw_call (by decide) (fun _ _ => pl1_r30) hc hk
set_option maxRecDepth 100000 in
theorem pl1_r31 {a0 : Int64} : ∀ G : ez_F, fx_up X 4 G 131 5 [.ref 10] [.long a0] (ev_hp I J R T) cz kz = ev_C G 132 [.ref 10, .int (1 : Int32)] (ev_hp I J R T) fun r h1 c1 k1 => G 131 11 [.ref 10, .long a0, ez_fill] (r.toList ++ []) h1 (cz + c1) (kz + k1) := by
  intro G
  rfl
theorem pm_5 {a : Int64}
    (H : (∃ Q1 : pw_Q, pe N X 132 [.ref 10, .int (1 : Int32)] (ev_hp I J R T) Q1 ∧ ∀ (r : Option Value) (h1 : ez_H), Q1 r h1 → pw N X 131 11 [.ref 10, .long a, ez_fill] (r.toList ++ []) h1 Q)) : pw (N + 1) X 131 5 [.ref 10] [.long a] (ev_hp I J R T) Q := by
  obtain ⟨Q1, hc, hk⟩ := H
  exact pw_call (by decide) (fun _ _ => pl1_r31) hc hk
set_option maxRecDepth 100000 in
theorem pl1_r32 {a0 : Int64} {a1 : Int64} : ∀ G : ez_F, fx_up X 4 G 131 11 [.ref 10, .long a0, ez_fill] [.long a1] (ev_hp I J R T) cz kz = ev_C G 132 [.ref 10, .int (2 : Int32)] (ev_hp I J R T) fun r h1 c1 k1 => G 131 17 [.ref 10, .long a0, ez_fill, .long a1, ez_fill] (r.toList ++ []) h1 (cz + c1) (kz + k1) := by
  intro G
  rfl
theorem pm_11 {a b : Int64}
    (H : (∃ Q1 : pw_Q, pe N X 132 [.ref 10, .int (2 : Int32)] (ev_hp I J R T) Q1 ∧ ∀ (r : Option Value) (h1 : ez_H), Q1 r h1 → pw N X 131 17 [.ref 10, .long a, ez_fill, .long b, ez_fill] (r.toList ++ []) h1 Q)) : pw (N + 1) X 131 11 [.ref 10, .long a, ez_fill] [.long b] (ev_hp I J R T) Q := by
  obtain ⟨Q1, hc, hk⟩ := H
  exact pw_call (by decide) (fun _ _ => pl1_r32) hc hk
set_option maxRecDepth 100000 in
theorem pl1_r33 {a0 : Int64} {a1 : Int64} {a2 : Int64} : ∀ G : ez_F, fx_up X 12 G 131 17 [.ref 10, .long a0, ez_fill, .long a1, ez_fill] [.long a2] (ev_hp I J R T) cz kz = G 131 32 [.ref 10, .long a0, ez_fill, .long a1, ez_fill, .long a2, ez_fill] [.long (((a0 &&& a1) ||| (a0 &&& a2)) ||| (a1 &&& a2))] (ev_hp I J R T) cz kz := by
  intro G
  rfl
set_option maxRecDepth 100000 in
theorem pl1_r34 {a0 : Int64} {a1 : Int64} {a2 : Int64} {a3 : Int64} : ∀ G : ez_F, fx_up X 3 G 131 32 [.ref 10, .long a0, ez_fill, .long a1, ez_fill, .long a2, ez_fill] [.long a3] (ev_hp I J R T) cz kz = bif decide (¬ (lg_cmp a3 (0 : Int64)) = (0 : Int32)) then G 131 65 [.ref 10, .long a0, ez_fill, .long a1, ez_fill, .long a2, ez_fill] [] (ev_hp I J R T) cz kz else G 131 37 [.ref 10, .long a0, ez_fill, .long a1, ez_fill, .long a2, ez_fill] [] (ev_hp I J R T) cz kz := by
  intro G
  rfl
set_option maxRecDepth 100000 in
theorem pl1_r35 {a0 : Int64} {a1 : Int64} {a2 : Int64} : ∀ G : ez_F, fx_up X 1 G 131 65 [.ref 10, .long a0, ez_fill, .long a1, ez_fill, .long a2, ez_fill] [] (ev_hp I J R T) cz kz = some (none, (ev_hp I J R T), cz, kz) := by
  intro G
  rfl
set_option maxRecDepth 100000 in
theorem pl1_r36 {a0 : Int64} {a1 : Int64} {a2 : Int64} : ∀ G : ez_F, fx_up X 5 G 131 37 [.ref 10, .long a0, ez_fill, .long a1, ez_fill, .long a2, ez_fill] [] (ev_hp I J R T) cz kz = ev_C G 39 [.ref 11, .int (0 : Int32), .long a0] (ev_hp I J R T) fun r h1 c1 k1 => G 131 46 [.ref 10, .long a0, ez_fill, .long a1, ez_fill, .long a2, ez_fill] (r.toList ++ []) h1 (cz + c1) (kz + k1) := by
  intro G
  rfl
set_option maxRecDepth 100000 in
theorem pl1_r37 {a0 : Int64} {a1 : Int64} {a2 : Int64} : ∀ G : ez_F, fx_up X 5 G 131 46 [.ref 10, .long a0, ez_fill, .long a1, ez_fill, .long a2, ez_fill] [] (ev_hp I J R T) cz kz = ev_C G 39 [.ref 11, .int (1 : Int32), .long a1] (ev_hp I J R T) fun r h1 c1 k1 => G 131 55 [.ref 10, .long a0, ez_fill, .long a1, ez_fill, .long a2, ez_fill] (r.toList ++ []) h1 (cz + c1) (kz + k1) := by
  intro G
  rfl
set_option maxRecDepth 100000 in
theorem pl1_r38 {a0 : Int64} {a1 : Int64} {a2 : Int64} : ∀ G : ez_F, fx_up X 5 G 131 55 [.ref 10, .long a0, ez_fill, .long a1, ez_fill, .long a2, ez_fill] [] (ev_hp I J R T) cz kz = ev_C G 39 [.ref 11, .int (2 : Int32), .long a2] (ev_hp I J R T) fun r h1 c1 k1 => G 131 65 [.ref 10, .long a0, ez_fill, .long a1, ez_fill, .long a2, ez_fill] (r.toList ++ []) h1 (cz + c1) (kz + k1) := by
  intro G
  rfl
theorem pm_17 {a b c : Int64}
    (H : ((¬ (lg_cmp (((a &&& b) ||| (a &&& c)) ||| (b &&& c)) (0 : Int64)) = (0 : Int32) → Q none (ev_hp I J R T)) ∧ (¬ (¬ (lg_cmp (((a &&& b) ||| (a &&& c)) ||| (b &&& c)) (0 : Int64)) = (0 : Int32)) → Q none (ev_hp I (ev_sJ (ev_sJ (ev_sJ J 11 (ev_putJ 3 (J 11) (0 : Int32) a)) 11 (ev_putJ 3 (ev_putJ 3 (J 11) (0 : Int32) a) (1 : Int32) b)) 11 (ev_putJ 3 (ev_putJ 3 (ev_putJ 3 (J 11) (0 : Int32) a) (1 : Int32) b) (2 : Int32) c)) R T)))) : pw (N + 1) X 131 17 [.ref 10, .long a, ez_fill, .long b, ez_fill] [.long c] (ev_hp I J R T) Q := by
  refine pw_seg (by decide) (fun _ _ => pl1_r33) ?_
  refine pw_p (pw_if (by decide) (fun _ _ => pl1_r34) (fun w1 => ?_) (fun w1 => ?_))
  · have h1 := H.1 w1
    exact pw_p (pw_ret (by decide) (fun _ _ => pl1_r35) h1)
  · have h1 := H.2 w1
    refine pw_p (pw_callp (by decide) (fun _ _ => pl1_r36) (pe_putJ (show cx_Ds[11]? = some (1, 3, []) from rfl) (by decide)) ?_)
    refine pw_p (pw_callp (by decide) (fun _ _ => pl1_r37) (pe_putJ (show cx_Ds[11]? = some (1, 3, []) from rfl) (by decide)) ?_)
    refine pw_p (pw_callp (by decide) (fun _ _ => pl1_r38) (pe_putJ (show cx_Ds[11]? = some (1, 3, []) from rfl) (by decide)) ?_)
    exact pw_p (pw_ret (by decide) (fun _ _ => pl1_r35) h1)
set_option maxRecDepth 100000 in
theorem pl1_r39 {a0 : Int32} {a1 : Int32} : ∀ G : ez_F, fx_up X 4 G 135 0 [.ref 10, .int a0, .int a1] [] (ev_hp I J R T) cz kz = ev_C G 138 [.ref 6, .int a0] (ev_hp I J R T) fun r h1 c1 k1 => G 135 8 [.ref 10, .int a0, .int a1] (r.toList ++ []) h1 (cz + c1) (kz + k1) := by
  intro G
  rfl
theorem pt_0 {x y : Int32}
    (H : (∃ Q1 : pw_Q, pe N X 138 [.ref 6, .int x] (ev_hp I J R T) Q1 ∧ ∀ (r : Option Value) (h1 : ez_H), Q1 r h1 → pw N X 135 8 [.ref 10, .int x, .int y] (r.toList ++ []) h1 Q)) : pw (N + 1) X 135 0 [.ref 10, .int x, .int y] [] (ev_hp I J R T) Q := by
  obtain ⟨Q1, hc, hk⟩ := H
  exact pw_call (by decide) (fun _ _ => pl1_r39) hc hk
set_option maxRecDepth 100000 in
theorem pl1_r40 {a0 : Int32} {a1 : Int32} {a2 : Int32} : ∀ G : ez_F, fx_up X 3 G 135 8 [.ref 10, .int a0, .int a1] [.int a2] (ev_hp I J R T) cz kz = G 135 12 [.ref 10, .int a0, .int a1, .int a2, .int (0 : Int32)] [] (ev_hp I J R T) cz kz := by
  intro G
  rfl
theorem pt_8 {x y v : Int32}
    (H : pw N X 135 12 [.ref 10, .int x, .int y, .int v, .int (0 : Int32)] [] (ev_hp I J R T) Q) : pw (N + 1) X 135 8 [.ref 10, .int x, .int y] [.int v] (ev_hp I J R T) Q := by
  refine pw_seg (by decide) (fun _ _ => pl1_r40) ?_
  exact H
set_option maxRecDepth 100000 in
theorem pl1_r41 {a0 : Int32} {a1 : Int32} {a2 : Int32} {a3 : Int32} : ∀ G : ez_F, fx_up X 3 G 135 12 [.ref 10, .int a0, .int a1, .int a2, .int a3] [] (ev_hp I J R T) cz kz = bif decide ((3 : Int32) ≤ a3) then G 135 53 [.ref 10, .int a0, .int a1, .int a2, .int a3] [] (ev_hp I J R T) cz kz else G 135 18 [.ref 10, .int a0, .int a1, .int a2, .int a3] [] (ev_hp I J R T) cz kz := by
  intro G
  rfl
set_option maxRecDepth 100000 in
theorem pl1_r42 {a0 : Int32} {a1 : Int32} {a2 : Int32} {a3 : Int32} : ∀ G : ez_F, fx_up X 8 G 135 18 [.ref 10, .int a0, .int a1, .int a2, .int a3] [] (ev_hp I J R T) cz kz = ev_C G 87 [.ref 3, .int a2, .int a3] (ev_hp I J R T) fun r h1 c1 k1 => G 135 34 [.ref 10, .int a0, .int a1, .int a2, .int a3] (r.toList ++ [.int a3, .ref 11]) h1 (cz + c1) (kz + k1) := by
  intro G
  rfl
theorem pt_12 {x y v s : Int32}
    (H : (((3 : Int32) ≤ s → pw N X 135 53 [.ref 10, .int x, .int y, .int v, .int s] [] (ev_hp I J R T) Q) ∧ (¬ ((3 : Int32) ≤ s) → (∃ Q1 : pw_Q, pe N X 87 [.ref 3, .int v, .int s] (ev_hp I J R T) Q1 ∧ ∀ (r : Option Value) (h1 : ez_H), Q1 r h1 → pw N X 135 34 [.ref 10, .int x, .int y, .int v, .int s] (r.toList ++ [.int s, .ref 11]) h1 Q)))) : pw (N + 1) X 135 12 [.ref 10, .int x, .int y, .int v, .int s] [] (ev_hp I J R T) Q := by
  refine pw_if (by decide) (fun _ _ => pl1_r41) (fun w1 => ?_) (fun w1 => ?_)
  · have h1 := H.1 w1
    exact h1
  · have h1 := H.2 w1
    obtain ⟨Q1, hc, hk⟩ := h1
    exact pw_p (pw_call (by decide) (fun _ _ => pl1_r42) hc hk)
set_option maxRecDepth 100000 in
theorem pl1_r43 {a0 : Int32} {a1 : Int32} {a2 : Int32} {a3 : Int32} {a4 : Int64} {a5 : Int32} : ∀ G : ez_F, fx_up X 1 G 135 34 [.ref 10, .int a0, .int a1, .int a2, .int a3] [.long a4, .int a5, .ref 11] (ev_hp I J R T) cz kz = ev_C G 39 [.ref 11, .int a5, .long a4] (ev_hp I J R T) fun r h1 c1 k1 => G 135 37 [.ref 10, .int a0, .int a1, .int a2, .int a3] (r.toList ++ []) h1 (cz + c1) (kz + k1) := by
  intro G
  rfl
set_option maxRecDepth 100000 in
theorem pl1_r44 {a0 : Int32} {a1 : Int32} {a2 : Int32} {a3 : Int32} : ∀ G : ez_F, fx_up X 5 G 135 37 [.ref 10, .int a0, .int a1, .int a2, .int a3] [] (ev_hp I J R T) cz kz = ev_C G 39 [.ref 12, .int a3, .long (0 : Int64)] (ev_hp I J R T) fun r h1 c1 k1 => G 135 47 [.ref 10, .int a0, .int a1, .int a2, .int a3] (r.toList ++ []) h1 (cz + c1) (kz + k1) := by
  intro G
  rfl
set_option maxRecDepth 100000 in
theorem pl1_r45 {a0 : Int32} {a1 : Int32} {a2 : Int32} {a3 : Int32} : ∀ G : ez_F, fx_up X 2 G 135 47 [.ref 10, .int a0, .int a1, .int a2, .int a3] [] (ev_hp I J R T) cz kz = G 135 12 [.ref 10, .int a0, .int a1, .int a2, .int (a3 + (1 : Int32))] [] (ev_hp I J R T) cz kz := by
  intro G
  rfl
theorem pt_34 {x y v s : Int32} {u : Int64}
    (H : pw N X 135 12 [.ref 10, .int x, .int y, .int v, .int (s + (1 : Int32))] [] (ev_hp I (ev_sJ (ev_sJ J 11 (ev_putJ 3 (J 11) s u)) 12 (ev_putJ 3 (J 12) s (0 : Int64))) R T) Q) : pw (N + 1) X 135 34 [.ref 10, .int x, .int y, .int v, .int s] [.long u, .int s, .ref 11] (ev_hp I J R T) Q := by
  refine pw_callp (by decide) (fun _ _ => pl1_r43) (pe_putJ (show cx_Ds[11]? = some (1, 3, []) from rfl) (by decide)) ?_
  refine pw_p (pw_callp (by decide) (fun _ _ => pl1_r44) (pe_putJ (show cx_Ds[12]? = some (1, 3, []) from rfl) (by decide)) ?_)
  refine pw_p (pw_seg (by decide) (fun _ _ => pl1_r45) ?_)
  exact H
set_option maxRecDepth 100000 in
theorem pl1_r46 {a0 : Int32} {a1 : Int32} {a2 : Int32} {a3 : Int32} : ∀ G : ez_F, fx_up X 3 G 135 53 [.ref 10, .int a0, .int a1, .int a2, .int a3] [] (ev_hp I J R T) cz kz = G 135 60 [.ref 10, .int a0, .int a1, .int a2, .int a3] [.int (I 1 1)] (ev_hp I J R T) cz kz := by
  intro G
  rfl
set_option maxRecDepth 100000 in
theorem pl1_r47 {a0 : Int32} {a1 : Int32} {a2 : Int32} {a3 : Int32} {a4 : Int32} : ∀ G : ez_F, fx_up X 1 G 135 60 [.ref 10, .int a0, .int a1, .int a2, .int a3] [.int a4] (ev_hp I J R T) cz kz = bif decide (¬ a4 = (0 : Int32)) then G 135 73 [.ref 10, .int a0, .int a1, .int a2, .int a3] [] (ev_hp I J R T) cz kz else G 135 63 [.ref 10, .int a0, .int a1, .int a2, .int a3] [] (ev_hp I J R T) cz kz := by
  intro G
  rfl
set_option maxRecDepth 100000 in
theorem pl1_r48 {a0 : Int32} {a1 : Int32} {a2 : Int32} {a3 : Int32} : ∀ G : ez_F, fx_up X 7 G 135 73 [.ref 10, .int a0, .int a1, .int a2, .int a3] [] (ev_hp I J R T) cz kz = G 135 86 [.ref 10, .int a0, .int a1, .int a2, .int (1 : Int32), .long (0 : Int64), ez_fill, .int (0 : Int32)] [] (ev_hp I J R T) cz kz := by
  intro G
  rfl
set_option maxRecDepth 100000 in
theorem pl1_r49 {a0 : Int32} {a1 : Int32} {a2 : Int32} {a3 : Int32} : ∀ G : ez_F, fx_up X 3 G 135 63 [.ref 10, .int a0, .int a1, .int a2, .int a3] [] (ev_hp I J R T) cz kz = G 135 70 [.ref 10, .int a0, .int a1, .int a2, .int a3] [.int (I 1 2)] (ev_hp I J R T) cz kz := by
  intro G
  rfl
set_option maxRecDepth 100000 in
theorem pl1_r50 {a0 : Int32} {a1 : Int32} {a2 : Int32} {a3 : Int32} {a4 : Int32} : ∀ G : ez_F, fx_up X 1 G 135 70 [.ref 10, .int a0, .int a1, .int a2, .int a3] [.int a4] (ev_hp I J R T) cz kz = bif decide (a4 = (0 : Int32)) then G 135 77 [.ref 10, .int a0, .int a1, .int a2, .int a3] [] (ev_hp I J R T) cz kz else G 135 73 [.ref 10, .int a0, .int a1, .int a2, .int a3] [] (ev_hp I J R T) cz kz := by
  intro G
  rfl
set_option maxRecDepth 100000 in
theorem pl1_r51 {a0 : Int32} {a1 : Int32} {a2 : Int32} {a3 : Int32} : ∀ G : ez_F, fx_up X 6 G 135 77 [.ref 10, .int a0, .int a1, .int a2, .int a3] [] (ev_hp I J R T) cz kz = G 135 86 [.ref 10, .int a0, .int a1, .int a2, .int (0 : Int32), .long (0 : Int64), ez_fill, .int (0 : Int32)] [] (ev_hp I J R T) cz kz := by
  intro G
  rfl
theorem pt_53 {x y v s : Int32}
    (H : ((¬ (I 1 1) = (0 : Int32) → pw N X 135 86 [.ref 10, .int x, .int y, .int v, .int (1 : Int32), .long (0 : Int64), ez_fill, .int (0 : Int32)] [] (ev_hp I J R T) Q) ∧ (¬ (¬ (I 1 1) = (0 : Int32)) → (((I 1 2) = (0 : Int32) → pw N X 135 86 [.ref 10, .int x, .int y, .int v, .int (0 : Int32), .long (0 : Int64), ez_fill, .int (0 : Int32)] [] (ev_hp I J R T) Q) ∧ (¬ ((I 1 2) = (0 : Int32)) → pw N X 135 86 [.ref 10, .int x, .int y, .int v, .int (1 : Int32), .long (0 : Int64), ez_fill, .int (0 : Int32)] [] (ev_hp I J R T) Q))))) : pw (N + 1) X 135 53 [.ref 10, .int x, .int y, .int v, .int s] [] (ev_hp I J R T) Q := by
  refine pw_seg (by decide) (fun _ _ => pl1_r46) ?_
  refine pw_p (pw_if (by decide) (fun _ _ => pl1_r47) (fun w1 => ?_) (fun w1 => ?_))
  · have h1 := H.1 w1
    refine pw_p (pw_seg (by decide) (fun _ _ => pl1_r48) ?_)
    exact h1
  · have h1 := H.2 w1
    refine pw_p (pw_seg (by decide) (fun _ _ => pl1_r49) ?_)
    refine pw_p (pw_if (by decide) (fun _ _ => pl1_r50) (fun w2 => ?_) (fun w2 => ?_))
    · have h2 := h1.1 w2
      refine pw_p (pw_seg (by decide) (fun _ _ => pl1_r51) ?_)
      exact h2
    · have h2 := h1.2 w2
      refine pw_p (pw_seg (by decide) (fun _ _ => pl1_r48) ?_)
      exact h2
set_option maxRecDepth 100000 in
theorem pl1_r52 {a0 : Int32} {a1 : Int32} {a2 : Int32} {a3 : Int32} {a4 : Int64} {a5 : Int32} : ∀ G : ez_F, fx_up X 3 G 135 86 [.ref 10, .int a0, .int a1, .int a2, .int a3, .long a4, ez_fill, .int a5] [] (ev_hp I J R T) cz kz = bif decide (a1 ≤ a5) then G 135 142 [.ref 10, .int a0, .int a1, .int a2, .int a3, .long a4, ez_fill, .int a5] [] (ev_hp I J R T) cz kz else G 135 92 [.ref 10, .int a0, .int a1, .int a2, .int a3, .long a4, ez_fill, .int a5] [] (ev_hp I J R T) cz kz := by
  intro G
  rfl
set_option maxRecDepth 100000 in
theorem pl1_r53 {a0 : Int32} {a1 : Int32} {a2 : Int32} {a3 : Int32} {a4 : Int64} {a5 : Int32} : ∀ G : ez_F, fx_up X 2 G 135 142 [.ref 10, .int a0, .int a1, .int a2, .int a3, .long a4, ez_fill, .int a5] [] (ev_hp I J R T) cz kz = some (some (.long a4), (ev_hp I J R T), cz, kz) := by
  intro G
  rfl
set_option maxRecDepth 100000 in
theorem pl1_r54 {a0 : Int32} {a1 : Int32} {a2 : Int32} {a3 : Int32} {a4 : Int64} {a5 : Int32} : ∀ G : ez_F, fx_up X 5 G 135 92 [.ref 10, .int a0, .int a1, .int a2, .int a3, .long a4, ez_fill, .int a5] [] (ev_hp I J R T) cz kz = ev_C G 124 [.ref 8, .int a5] (ev_hp I J R T) fun r h1 c1 k1 => G 135 102 [.ref 10, .int a0, .int a1, .int a2, .int a3, .long a4, ez_fill, .int a5] (r.toList ++ [.ref 10]) h1 (cz + c1) (kz + k1) := by
  intro G
  rfl
set_option maxRecDepth 100000 in
theorem pl1_r55 {a0 : Int32} {a1 : Int32} {a2 : Int32} {a3 : Int32} {a4 : Int64} {a5 : Int32} {a6 : Int64} : ∀ G : ez_F, fx_up X 1 G 135 102 [.ref 10, .int a0, .int a1, .int a2, .int a3, .long a4, ez_fill, .int a5] [.long a6, .ref 10] (ev_hp I J R T) cz kz = ev_C G 130 [.ref 10, .long a6] (ev_hp I J R T) fun r h1 c1 k1 => G 135 105 [.ref 10, .int a0, .int a1, .int a2, .int a3, .long a4, ez_fill, .int a5] (r.toList ++ []) h1 (cz + c1) (kz + k1) := by
  intro G
  rfl
theorem pt_86 {x y v d c : Int32} {z : Int64}
    (H : ((y ≤ c → Q (some (.long z)) (ev_hp I J R T)) ∧ (¬ (y ≤ c) → (∃ Q1 : pw_Q, pe N X 130 [.ref 10, .long (ev_atJ 30 (J 9) c)] (ev_hp I J R T) Q1 ∧ ∀ (r : Option Value) (h1 : ez_H), Q1 r h1 → pw N X 135 105 [.ref 10, .int x, .int y, .int v, .int d, .long z, ez_fill, .int c] (r.toList ++ []) h1 Q)))) : pw (N + 1) X 135 86 [.ref 10, .int x, .int y, .int v, .int d, .long z, ez_fill, .int c] [] (ev_hp I J R T) Q := by
  refine pw_if (by decide) (fun _ _ => pl1_r52) (fun w1 => ?_) (fun w1 => ?_)
  · have h1 := H.1 w1
    exact pw_p (pw_ret (by decide) (fun _ _ => pl1_r53) h1)
  · have h1 := H.2 w1
    refine pw_p (pw_callp (by decide) (fun _ _ => pl1_r54) (pe_target) ?_)
    obtain ⟨Q1, hc, hk⟩ := h1
    exact pw_p (pw_call (by decide) (fun _ _ => pl1_r55) hc hk)
set_option maxRecDepth 100000 in
theorem pl1_r56 {a0 : Int32} {a1 : Int32} {a2 : Int32} {a3 : Int32} {a4 : Int64} {a5 : Int32} {a6 : Int32} : ∀ G : ez_F, fx_up X 12 G 135 105 [.ref 10, .int a0, .int a1, .int a2, .int a3, .long a4, ez_fill, .int a5] [.int a6] (ev_hp I J R T) cz kz = G 135 123 [.ref 10, .int a0, .int a1, .int a2, .int a3, .long (a4 ||| (a6.toInt64 <<< (((2 : Int32) * a5).toInt64 &&& (63 : Int64)))), ez_fill, .int a5, .long a6.toInt64, ez_fill] [.long (0 : Int64), .long a6.toInt64] (ev_hp I J R T) cz kz := by
  intro G
  rfl
set_option maxRecDepth 100000 in
theorem pl1_r57 {a0 : Int32} {a1 : Int32} {a2 : Int32} {a3 : Int32} {a4 : Int64} {a5 : Int32} {a6 : Int64} {a7 : Int64} {a8 : Int64} : ∀ G : ez_F, fx_up X 2 G 135 123 [.ref 10, .int a0, .int a1, .int a2, .int a3, .long a4, ez_fill, .int a5, .long a6, ez_fill] [.long a7, .long a8] (ev_hp I J R T) cz kz = bif decide (¬ (lg_cmp a8 a7) = (0 : Int32)) then G 135 136 [.ref 10, .int a0, .int a1, .int a2, .int a3, .long a4, ez_fill, .int a5, .long a6, ez_fill] [] (ev_hp I J R T) cz kz else G 135 127 [.ref 10, .int a0, .int a1, .int a2, .int a3, .long a4, ez_fill, .int a5, .long a6, ez_fill] [] (ev_hp I J R T) cz kz := by
  intro G
  rfl
set_option maxRecDepth 100000 in
theorem pl1_r58 {a0 : Int32} {a1 : Int32} {a2 : Int32} {a3 : Int32} {a4 : Int64} {a5 : Int32} {a6 : Int64} : ∀ G : ez_F, fx_up X 2 G 135 136 [.ref 10, .int a0, .int a1, .int a2, .int a3, .long a4, ez_fill, .int a5, .long a6, ez_fill] [] (ev_hp I J R T) cz kz = G 135 86 [.ref 10, .int a0, .int a1, .int a2, .int a3, .long a4, ez_fill, .int (a5 + (1 : Int32)), .long a6, ez_fill] [] (ev_hp I J R T) cz kz := by
  intro G
  rfl
set_option maxRecDepth 100000 in
theorem pl1_r59 {a0 : Int32} {a1 : Int32} {a2 : Int32} {a3 : Int32} {a4 : Int64} {a5 : Int32} {a6 : Int64} : ∀ G : ez_F, fx_up X 2 G 135 127 [.ref 10, .int a0, .int a1, .int a2, .int a3, .long a4, ez_fill, .int a5, .long a6, ez_fill] [] (ev_hp I J R T) cz kz = bif decide (a3 = (0 : Int32)) then G 135 136 [.ref 10, .int a0, .int a1, .int a2, .int a3, .long a4, ez_fill, .int a5, .long a6, ez_fill] [] (ev_hp I J R T) cz kz else G 135 132 [.ref 10, .int a0, .int a1, .int a2, .int a3, .long a4, ez_fill, .int a5, .long a6, ez_fill] [] (ev_hp I J R T) cz kz := by
  intro G
  rfl
set_option maxRecDepth 100000 in
theorem pl1_r60 {a0 : Int32} {a1 : Int32} {a2 : Int32} {a3 : Int32} {a4 : Int64} {a5 : Int32} {a6 : Int64} : ∀ G : ez_F, fx_up X 2 G 135 132 [.ref 10, .int a0, .int a1, .int a2, .int a3, .long a4, ez_fill, .int a5, .long a6, ez_fill] [] (ev_hp I J R T) cz kz = ev_C G 131 [.ref 10] (ev_hp I J R T) fun r h1 c1 k1 => G 135 136 [.ref 10, .int a0, .int a1, .int a2, .int a3, .long a4, ez_fill, .int a5, .long a6, ez_fill] (r.toList ++ []) h1 (cz + c1) (kz + k1) := by
  intro G
  rfl
theorem pt_105 {x y v d c a : Int32} {z : Int64}
    (H : ((¬ (lg_cmp a.toInt64 (0 : Int64)) = (0 : Int32) → pw N X 135 86 [.ref 10, .int x, .int y, .int v, .int d, .long (z ||| (a.toInt64 <<< (((2 : Int32) * c).toInt64 &&& (63 : Int64)))), ez_fill, .int (c + (1 : Int32))] [] (ev_hp I J R T) Q) ∧ (¬ (¬ (lg_cmp a.toInt64 (0 : Int64)) = (0 : Int32)) → ((d = (0 : Int32) → pw N X 135 86 [.ref 10, .int x, .int y, .int v, .int d, .long (z ||| (a.toInt64 <<< (((2 : Int32) * c).toInt64 &&& (63 : Int64)))), ez_fill, .int (c + (1 : Int32))] [] (ev_hp I J R T) Q) ∧ (¬ (d = (0 : Int32)) → (∃ Q1 : pw_Q, pe N X 131 [.ref 10] (ev_hp I J R T) Q1 ∧ ∀ (r : Option Value) (h1 : ez_H), Q1 r h1 → pw N X 135 136 [.ref 10, .int x, .int y, .int v, .int d, .long (z ||| (a.toInt64 <<< (((2 : Int32) * c).toInt64 &&& (63 : Int64)))), ez_fill, .int c, .long a.toInt64, ez_fill] (r.toList ++ []) h1 Q)))))) : pw (N + 1) X 135 105 [.ref 10, .int x, .int y, .int v, .int d, .long z, ez_fill, .int c] [.int a] (ev_hp I J R T) Q := by
  refine pw_seg (by decide) (fun _ _ => pl1_r56) ?_
  refine pw_p (pw_if (by decide) (fun _ _ => pl1_r57) (fun w1 => ?_) (fun w1 => ?_))
  · have h1 := H.1 w1
    refine pw_p (pw_seg (by decide) (fun _ _ => pl1_r58) ?_)
    refine pw_cutl (by rfl) ?_
    exact h1
  · have h1 := H.2 w1
    refine pw_p (pw_if (by decide) (fun _ _ => pl1_r59) (fun w2 => ?_) (fun w2 => ?_))
    · have h2 := h1.1 w2
      refine pw_p (pw_seg (by decide) (fun _ _ => pl1_r58) ?_)
      refine pw_cutl (by rfl) ?_
      exact h2
    · have h2 := h1.2 w2
      obtain ⟨Q1, hc, hk⟩ := h2
      exact pw_p (pw_call (by decide) (fun _ _ => pl1_r60) hc hk)
theorem pt_136 {x y v d c : Int32} {z w : Int64}
    (H : pw N X 135 86 [.ref 10, .int x, .int y, .int v, .int d, .long z, ez_fill, .int (c + (1 : Int32))] [] (ev_hp I J R T) Q) : pw (N + 1) X 135 136 [.ref 10, .int x, .int y, .int v, .int d, .long z, ez_fill, .int c, .long w, ez_fill] [] (ev_hp I J R T) Q := by
  refine pw_seg (by decide) (fun _ _ => pl1_r58) ?_
  refine pw_cutl (by rfl) ?_
  exact H
end
theorem sJ2 (J : Nat → Nat → Int64) (a : Nat) (f g : Nat → Int64) : ev_sJ (ev_sJ J a f) a g = ev_sJ J a g := by
  funext b
  by_cases h : b = a
  · subst h
    rw [cx_sJ_s, cx_sJ_s]
  · rw [cx_sJ_n _ _ h, cx_sJ_n _ _ h, cx_sJ_n _ _ h]
theorem sJ_self (J : Nat → Nat → Int64) (a : Nat) : ev_sJ J a (J a) = J := by
  funext b
  by_cases h : b = a
  · subst h
    rw [cx_sJ_s]
  · rw [cx_sJ_n _ _ h]
theorem sJ_sw (J : Nat → Nat → Int64) {a b : Nat} (f g : Nat → Int64) (h : a ≠ b) : ev_sJ (ev_sJ J a f) b g = ev_sJ (ev_sJ J b g) a f := by
  funext c
  by_cases h1 : c = b
  · subst h1
    rw [cx_sJ_s, cx_sJ_n _ _ (fun e => h e.symm), cx_sJ_s]
  · rw [cx_sJ_n _ _ h1]
    by_cases h2 : c = a
    · subst h2
      rw [cx_sJ_s, cx_sJ_s]
    · rw [cx_sJ_n _ _ h2, cx_sJ_n _ _ h2, cx_sJ_n _ _ h1]
/-! a call upon ships that lie so and were hit so -/
noncomputable def pl_h (P H : Nat → Int64) (t : Int64) (s : Nat) : Int64 := H s ||| (P s &&& t)
noncomputable def pl_k (P H : Nat → Int64) (t : Int64) (s : Nat) : Bool := decide (¬ pl_h P H t s = H s ∧ pl_h P H t s = P s)
noncomputable def pl_n (P : Nat → Int64) (t : Int64) : Nat → Nat
  | 0 => 0
  | s + 1 => pl_n P t s + pcJ (P s &&& t)
noncomputable def pl_u (P H : Nat → Int64) (t : Int64) : Nat → Bool
  | 0 => false
  | s + 1 => pl_u P H t s || pl_k P H t s
noncomputable def pl_a (sr : Int32) (P H : Nat → Int64) (t : Int64) : Nat := bif pl_u P H t 3 && (decide (pcJ t = 1) && decide (sr = 1)) then 2 else pl_n P t 3
noncomputable def pl_x (mv : Int64 → Int64) (P H : Nat → Int64) (s : Nat) : Int64 := if H s = 0 then mv (P s) else P s
noncomputable def pl_o (n : Nat → Int64) : Bool := decide (((n 0 &&& n 1) ||| (n 0 &&& n 2)) ||| (n 1 &&& n 2) = 0)
noncomputable def pl_m (mv : Int64 → Int64) (P H : Nat → Int64) (s : Nat) : Int64 := bif pl_o (pl_x mv P H) then pl_x mv P H s else P s
noncomputable def pl_f (sr : Int32) (dr : Bool) (mv : Int64 → Int64) (P H : Nat → Int64) (t : Int64) (s : Nat) : Int64 := bif dr && Nat.beq (pl_a sr P H t) 0 then pl_m mv P (pl_h P H t) s else P s
theorem pl_n_c {P P' : Nat → Int64} {t : Int64} : ∀ k, (∀ s, s < k → P s = P' s) → pl_n P t k = pl_n P' t k := by
  intro k
  induction k with
  | zero => intro _; rfl
  | succ k ih =>
    intro h
    unfold pl_n
    rw [ih fun s hs => h s (by omega), h k (Nat.lt_succ_self k)]
theorem pl_h_c {P P' H H' : Nat → Int64} {t : Int64} {s : Nat} (h : P s = P' s) (h2 : H s = H' s) : pl_h P H t s = pl_h P' H' t s := by
  unfold pl_h
  rw [h, h2]
theorem pl_u_c {P P' H H' : Nat → Int64} {t : Int64} : ∀ k, (∀ s, s < k → P s = P' s ∧ H s = H' s) → pl_u P H t k = pl_u P' H' t k := by
  intro k
  induction k with
  | zero => intro _; rfl
  | succ k ih =>
    intro h
    obtain ⟨h1, h2⟩ := h k (Nat.lt_succ_self k)
    unfold pl_u pl_k
    rw [ih fun s hs => h s (by omega), pl_h_c h1 h2, h1, h2]
theorem pl_a_c {sr : Int32} {P P' H H' : Nat → Int64} {t : Int64} (h : ∀ s, s < 3 → P s = P' s ∧ H s = H' s) : pl_a sr P H t = pl_a sr P' H' t := by
  unfold pl_a
  rw [pl_u_c 3 h, pl_n_c 3 fun s hs => (h s hs).1]
theorem pl_x_c {mv : Int64 → Int64} {P P' H H' : Nat → Int64} {s : Nat} (h1 : P s = P' s) (h2 : H s = H' s) : pl_x mv P H s = pl_x mv P' H' s := by
  unfold pl_x
  rw [h1, h2]
theorem pl_m_c {mv : Int64 → Int64} {P P' H H' : Nat → Int64} (h : ∀ s, s < 3 → P s = P' s ∧ H s = H' s) {s : Nat} (hs : s < 3) : pl_m mv P H s = pl_m mv P' H' s := by
  have e : ∀ s, s < 3 → pl_x mv P H s = pl_x mv P' H' s := fun s hs => pl_x_c (h s hs).1 (h s hs).2
  unfold pl_m pl_o
  rw [e 0 (by decide), e 1 (by decide), e 2 (by decide), e s hs, (h s hs).1]
theorem pl_f_c {sr : Int32} {dr : Bool} {mv : Int64 → Int64} {P P' H H' : Nat → Int64} {t : Int64} (h : ∀ s, s < 3 → P s = P' s ∧ H s = H' s) {s : Nat} (hs : s < 3) : pl_f sr dr mv P H t s = pl_f sr dr mv P' H' t s := by
  unfold pl_f
  rw [pl_a_c h, pl_m_c (H := pl_h P H t) (H' := pl_h P' H' t) (fun s hs => ⟨(h s hs).1, pl_h_c (h s hs).1 (h s hs).2⟩) hs, (h s hs).1]
theorem pl_n_le (P : Nat → Int64) (t : Int64) : ∀ s, pl_n P t s ≤ 64 * s := by
  intro s
  induction s with
  | zero => exact Nat.le_refl 0
  | succ s ih =>
    have := pcJ_le (P s &&& t)
    unfold pl_n
    omega
theorem pl_a_le (sr : Int32) (P H : Nat → Int64) (t : Int64) : pl_a sr P H t ≤ 192 := by
  have := pl_n_le P t 3
  unfold pl_a
  cases (pl_u P H t 3 && (decide (pcJ t = 1) && decide (sr = 1)))
  · simp only [cond_false]
    omega
  · simp only [cond_true]
    omega
theorem l32_0 {m : Nat} (h : m < 65536) : (Int32.ofNat m).toInt64 = 0 ↔ m = 0 := by
  rw [l_nat h, ← Int64.toInt_inj, Int64.toInt_ofNat_of_lt (by omega), show (0 : Int64).toInt = 0 from by decide]
  omega
theorem pcJ_0 : pcJ 0 = 0 := pc_zero 64
section
variable {N : Nat} {X : ez_X} {I : Nat → Nat → Int32} {J : Nat → Nat → Int64} {R : Nat → Nat} {T : List ez_C} {x y : Int32} {t : Int64}
theorem pe_fire : pe N X 130 [.ref 10, .long t] (ev_hp I J R T) (fun r h => r = some (.int (Int32.ofNat (pl_a (I 2 1) (J 11) (J 12) t))) ∧ ∃ G, h = ev_hp I (ev_sJ J 12 G) R T ∧ ∀ s, s < 3 → G s = pl_h (J 11) (J 12) t s) := by
  have loop : ∀ (d s : Nat), s + d = 3 → ∀ G : Nat → Int64, (∀ i, i < s → G i = pl_h (J 11) (J 12) t i) → (∀ i, s ≤ i → G i = J 12 i) → ∀ N, pw N X 130 8 [.ref 10, .long t, ez_fill, .int (Int32.ofNat (pl_n (J 11) t s)), .int (bif pl_u (J 11) (J 12) t s then 1 else 0), .int (Int32.ofNat s)] [] (ev_hp I (ev_sJ J 12 G) R T) (fun r h => r = some (.int (Int32.ofNat (pl_a (I 2 1) (J 11) (J 12) t))) ∧ ∃ G, h = ev_hp I (ev_sJ J 12 G) R T ∧ ∀ s, s < 3 → G s = pl_h (J 11) (J 12) t s) := by
    intro d
    induction d with
    | zero =>
      intro s hs G h1 h2 N
      obtain rfl : s = 3 := by omega
      refine pw_p (pf_8 ⟨fun _ => ?_, fun g => absurd (by decide) g⟩)
      have hr : ev_at 3 (I 2) (1 : Int32) = I 2 1 := at_in (j := 1) (by decide) (by decide)
      have hb : ev_bcJ t = 1 ↔ pcJ t = 1 := by
        rw [pcJ_bc, show (1 : Int32) = Int32.ofNat 1 from rfl, io_eq (by have := pcJ_le t; omega) (by omega)]
      have fin : ∀ v : Int32, v = Int32.ofNat (pl_a (I 2 1) (J 11) (J 12) t) → (some (.int v) : Option Value) = some (.int (Int32.ofNat (pl_a (I 2 1) (J 11) (J 12) t))) ∧ ∃ G', ev_hp I (ev_sJ J 12 G) R T = ev_hp I (ev_sJ J 12 G') R T ∧ ∀ s, s < 3 → G' s = pl_h (J 11) (J 12) t s := fun v hv => ⟨by rw [hv], G, rfl, h1⟩
      refine pw_p (pf_107 ?_)
      rw [hr, hb]
      unfold pl_a at fin ⊢
      cases hu : pl_u (J 11) (J 12) t 3
      · rw [hu] at fin
        exact ⟨fun _ => ⟨fun _ => fin _ rfl, fun z => absurd rfl z⟩, fun _ => ⟨fun _ => fin _ rfl, fun z => absurd rfl z⟩⟩
      · rw [hu] at fin
        refine ⟨fun a0 => ⟨fun z => absurd z (by decide), fun _ => fin _ ?_⟩, fun a0 => ⟨fun z => absurd z (by decide), fun _ => ⟨fun a1 => fin _ ?_, fun a1 => fin _ ?_⟩⟩⟩
        · rw [decide_eq_false a0]
          rfl
        · rw [decide_eq_false a1, Bool.and_false]
          rfl
        · rw [decide_eq_true (Classical.not_not.mp a0), decide_eq_true (Classical.not_not.mp a1)]
          rfl
    | succ d ih =>
      intro s hsd G h1 h2 N
      have hs : s < 3 := by omega
      have en : pl_n (J 11) t (s + 1) = pl_n (J 11) t s + pcJ (J 11 s &&& t) := rfl
      have eu : pl_u (J 11) (J 12) t (s + 1) = (pl_u (J 11) (J 12) t s || pl_k (J 11) (J 12) t s) := rfl
      have eh : pl_h (J 11) (J 12) t s = J 12 s ||| (J 11 s &&& t) := rfl
      have upd1 : ∀ i, i < s + 1 → vp_updL G s (J 12 s ||| (J 11 s &&& t)) i = pl_h (J 11) (J 12) t i := by
        intro i hi
        by_cases his : i = s
        · rw [his, pv_s]
          rfl
        · rw [pv_n _ _ his]
          exact h1 i (by omega)
      have upd2 : ∀ i, s + 1 ≤ i → vp_updL G s (J 12 s ||| (J 11 s &&& t)) i = J 12 i := by
        intro i hi
        rw [pv_n _ _ (by omega)]
        exact h2 i (by omega)
      have h5 := ih (s + 1) (by omega) _ upd1 upd2 N
      rw [en, eu] at h5
      refine pw_p (pf_8 ?_)
      rw [cx_sJ_s, cx_sJ_n _ _ (show (11 : Nat) ≠ 12 by decide), atJ_in hs (by decide), atJ_in hs (by decide), h2 s (Nat.le_refl s), putJ_in hs (by decide), sJ2, pcJ_bc, io_add, io_1]
      refine ⟨fun g => ?_, fun _ => ⟨fun g => ?_, fun g => ⟨fun g2 => ?_, fun g2 => ⟨fun g3 => ?_, fun g3 => ?_⟩⟩⟩⟩
      · rw [show (3 : Int32) = Int32.ofNat 3 from rfl, io_le (by omega) (by omega)] at g
        omega
      · rw [lg_eq] at g
        have e1 : pl_h (J 11) (J 12) t s = J 12 s := by
          rw [eh, g]
          exact Int64.or_zero
        have e2 : pl_k (J 11) (J 12) t s = false := by
          unfold pl_k
          exact decide_eq_false fun z => z.1 e1
        have h6 := ih (s + 1) (by omega) G (fun i hi => by
          by_cases his : i = s
          · rw [his, e1]
            exact h2 s (Nat.le_refl s)
          · exact h1 i (by omega)) (fun i hi => h2 i (by omega)) N
        rw [en, eu, e2, Bool.or_false, g, pcJ_0, Nat.add_zero] at h6
        exact h6
      · rw [lg_eq] at g2
        have e2 : pl_k (J 11) (J 12) t s = false := by
          unfold pl_k
          exact decide_eq_false fun z => z.1 g2
        rw [e2, Bool.or_false] at h5
        rw [Int32.or_zero]
        exact h5
      · rw [lg_eq] at g3
        have e2 : pl_k (J 11) (J 12) t s = false := by
          unfold pl_k
          exact decide_eq_false fun z => g3 z.2
        rw [e2, Bool.or_false] at h5
        rw [Int32.or_zero]
        exact h5
      · rw [lg_eq] at g2 g3
        have e2 : pl_k (J 11) (J 12) t s = true := by
          unfold pl_k
          exact decide_eq_true ⟨g2, Classical.not_not.mp g3⟩
        rw [e2, Bool.or_true] at h5
        rw [show ((bif pl_u (J 11) (J 12) t s then (1 : Int32) else 0) ||| 1) = 1 from by cases pl_u (J 11) (J 12) t s <;> decide]
        exact h5
  refine pe_of (pw_p (pf_0 ?_))
  have h0 := loop 3 0 (by omega) (J 12) (fun i hi => absurd hi (by omega)) (fun i _ => rfl) N
  rw [sJ_self] at h0
  exact h0
noncomputable def mvF (I : Nat → Nat → Int32) (J : Nat → Nat → Int64) (z : Int64) : Int64 := md (I 1 3) (I 1 5) (I 1 6) (J 1 7) (ma (I 1 3) (I 1 5) (J 1 8) (J 1 9) z (I 1 1)) (I 1 2)
theorem pe_next {s : Nat} (hs : s < 3) (hx : x = Int32.ofNat s) : pe N X 132 [.ref 10, .int x] (ev_hp I J R T) (fun r h => r = some (.long (pl_x (mvF I J) (J 11) (J 12) s)) ∧ h = ev_hp I J R T) := by
  subst hx
  refine pe_of (pw_p (pn_0 ?_))
  rw [atJ_in hs (by decide), atJ_in hs (by decide), lg_eq]
  unfold pl_x
  refine ⟨fun g => ⟨?_, rfl⟩, fun g => ⟨?_, rfl⟩⟩
  · rw [if_pos g]
    rfl
  · rw [if_neg g]
theorem pe_move : pe N X 131 [.ref 10] (ev_hp I J R T) (fun r h => r = none ∧ ∃ G, h = ev_hp I (ev_sJ J 11 G) R T ∧ ∀ s, s < 3 → G s = pl_m (mvF I J) (J 11) (J 12) s) := by
  refine pe_of (pw_p (pm_0 ⟨_, pe_next (s := 0) (by decide) rfl, ?_⟩))
  rintro r h ⟨rfl, rfl⟩
  refine pw_p (pm_5 ⟨_, pe_next (s := 1) (by decide) rfl, ?_⟩)
  rintro r h ⟨rfl, rfl⟩
  refine pw_p (pm_11 ⟨_, pe_next (s := 2) (by decide) rfl, ?_⟩)
  rintro r h ⟨rfl, rfl⟩
  refine pw_p (pm_17 ?_)
  rw [lg_eq]
  refine ⟨fun g => ⟨rfl, J 11, by rw [sJ_self], fun s hs => ?_⟩, fun g => ⟨rfl, _, by rw [sJ2, sJ2], fun s hs => ?_⟩⟩
  · unfold pl_m pl_o
    rw [decide_eq_false g]
    rfl
  · unfold pl_m pl_o
    rw [decide_eq_true (Classical.not_not.mp g), show (0 : Int32) = Int32.ofNat 0 from rfl, show (1 : Int32) = Int32.ofNat 1 from rfl, show (2 : Int32) = Int32.ofNat 2 from rfl, putJ_in (by decide) (by decide), putJ_in (by decide) (by decide), putJ_in (by decide) (by decide)]
    rcases (show s = 0 ∨ s = 1 ∨ s = 2 by omega) with rfl | rfl | rfl
    · rw [pv_n _ _ (by decide), pv_n _ _ (by decide), pv_s]
      rfl
    · rw [pv_n _ _ (by decide), pv_s]
      rfl
    · rw [pv_s]
      rfl
end
/-! all calls -/
section
variable (sr : Int32) (dr : Bool) (mv : Int64 → Int64) (tg P0 : Nat → Int64)
noncomputable def pl_q : Nat → (Nat → Int64) × (Nat → Int64)
  | 0 => (P0, fun _ => 0)
  | c + 1 => (pl_f sr dr mv (pl_q c).1 (pl_q c).2 (tg c), pl_h (pl_q c).1 (pl_q c).2 (tg c))
noncomputable def pl_t (c : Nat) : Nat := pl_a sr (pl_q sr dr mv tg P0 c).1 (pl_q sr dr mv tg P0 c).2 (tg c)
noncomputable def pl_z : Nat → Int64
  | 0 => 0
  | c + 1 => pl_z c ||| ((Int32.ofNat (pl_t sr dr mv tg P0 c)).toInt64 <<< td_s c)
end
noncomputable def drF (I : Nat → Nat → Int32) : Bool := decide (I 1 1 ≠ 0) || decide (I 1 2 ≠ 0)
/-- as the class's rows have it -/
noncomputable abbrev xq (I : Nat → Nat → Int32) (J : Nat → Nat → Int64) (t : ly_t) : Nat → (Nat → Int64) × (Nat → Int64) := pl_q (I 2 1) (drF I) (mvF I J) (J 9) (ly_s I J t)
noncomputable abbrev xt (I : Nat → Nat → Int32) (J : Nat → Nat → Int64) (t : ly_t) : Nat → Nat := pl_t (I 2 1) (drF I) (mvF I J) (J 9) (ly_s I J t)
noncomputable abbrev xz (I : Nat → Nat → Int32) (J : Nat → Nat → Int64) (t : ly_t) : Nat → Int64 := pl_z (I 2 1) (drF I) (mvF I J) (J 9) (ly_s I J t)
/-- the rows of one laying that is played -/
noncomputable def xh (I : Nat → Nat → Int32) (J : Nat → Nat → Int64) (t : ly_t) (n : Nat) (J' : Nat → Nat → Int64) : Prop := ∃ G1 G2, J' = ev_sJ (ev_sJ J 11 G1) 12 G2 ∧ ∀ s, s < 3 → G1 s = (xq I J t n).1 s ∧ G2 s = (xq I J t n).2 s
section
variable {N : Nat} {X : ez_X} {I : Nat → Nat → Int32} {J : Nat → Nat → Int64} {R : Nat → Nat} {T : List ez_C} {x y : Int32} {t : ly_t} {m : Nat} {f : Nat → Int32}
theorem pe_through (h : rowT (R 0) T m f) (hm : m ≤ 10000) (hf : ev_at m f x = ly_c t) (hns : 0 ≤ (I 3 3).toInt ∧ (I 3 3).toInt ≤ 3) (b0 : t.1 < 512) (b1 : t.2.1 < 512) (b2 : t.2.2 < 512) (hin : ∀ s, s < (I 3 3).toInt.toNat → ly_at t s < 288) {n : Nat} (hy : y = Int32.ofNat n) (hn : n ≤ 30) :
    pe N X 135 [.ref 10, .int x, .int y] (ev_hp I J R T) (fun r h => r = some (.long (xz I J t n)) ∧ ∃ J', h = ev_hp I J' R T ∧ xh I J t n J') := by
  subst hy
  have main : ∀ (d c : Nat), c + d = n → ∀ G1 G2 : Nat → Int64, (∀ s, s < 3 → G1 s = (xq I J t c).1 s ∧ G2 s = (xq I J t c).2 s) → ∀ N, pw N X 135 86 [.ref 10, .int x, .int (Int32.ofNat n), .int (ly_c t), .int (bif drF I then 1 else 0), .long (xz I J t c), ez_fill, .int (Int32.ofNat c)] [] (ev_hp I (ev_sJ (ev_sJ J 11 G1) 12 G2) R T) (fun r h => r = some (.long (xz I J t n)) ∧ ∃ J', h = ev_hp I J' R T ∧ xh I J t n J') := by
    intro d
    induction d with
    | zero =>
      intro c hc G1 G2 hG N
      obtain rfl : c = n := by omega
      exact pw_p (pt_86 ⟨fun _ => ⟨rfl, _, rfl, G1, G2, rfl, hG⟩, fun g => absurd (Int32.le_refl _) g⟩)
    | succ d ih =>
      intro c hcd G1 G2 hG N
      have hc : c < n := by omega
      refine pw_p (pt_86 ⟨fun g => ?_, fun _ => ?_⟩)
      · rw [io_le (by omega) (by omega)] at g
        omega
      rw [cx_sJ_n _ _ (show (9 : Nat) ≠ 12 by decide), cx_sJ_n _ _ (show (9 : Nat) ≠ 11 by decide), atJ_in (show c < 30 by omega) (by decide)]
      refine ⟨_, pe_fire, ?_⟩
      rintro r h ⟨rfl, G, rfl, hG2⟩
      rw [cx_sJ_s, cx_sJ_n _ _ (show (11 : Nat) ≠ 12 by decide), cx_sJ_s] at hG2
      rw [cx_sJ_s, cx_sJ_n _ _ (show (11 : Nat) ≠ 12 by decide), cx_sJ_s, sJ2]
      have ea : pl_a (I 2 1) G1 G2 (J 9 c) = xt I J t c := pl_a_c hG
      have hG3 : ∀ s, s < 3 → G s = (xq I J t (c + 1)).2 s := fun s hs => (hG2 s hs).trans (pl_h_c (hG s hs).1 (hG s hs).2)
      rw [ea]
      have hle := pl_a_le (I 2 1) G1 G2 (J 9 c)
      rw [ea] at hle
      have stay : (drF I && Nat.beq (xt I J t c) 0) = false → pw N X 135 86 [.ref 10, .int x, .int (Int32.ofNat n), .int (ly_c t), .int (bif drF I then 1 else 0), .long (xz I J t c ||| ((Int32.ofNat (xt I J t c)).toInt64 <<< (((2 : Int32) * Int32.ofNat c).toInt64 &&& (63 : Int64)))), ez_fill, .int (Int32.ofNat c + (1 : Int32))] [] (ev_hp I (ev_sJ (ev_sJ J 11 G1) 12 G) R T) (fun r h => r = some (.long (xz I J t n)) ∧ ∃ J', h = ev_hp I J' R T ∧ xh I J t n J') := by
        intro g
        rw [io_1]
        refine ih (c + 1) (by omega) G1 G (fun s hs => ⟨?_, hG3 s hs⟩) N
        show G1 s = pl_f (I 2 1) (drF I) (mvF I J) (xq I J t c).1 (xq I J t c).2 (J 9 c) s
        unfold pl_f
        rw [show (drF I && Nat.beq (pl_a (I 2 1) (xq I J t c).1 (xq I J t c).2 (J 9 c)) 0) = false from g]
        exact (hG s hs).1
      refine pw_p (pt_105 ?_)
      rw [lg_eq, l32_0 (by omega)]
      refine ⟨fun g => stay ?_, fun g => ⟨fun g2 => stay ?_, fun g2 => ⟨_, pe_move, ?_⟩⟩⟩
      · rw [show Nat.beq (xt I J t c) 0 = false from cx_beqf g, Bool.and_false]
      · cases hd : drF I
        · rfl
        · rw [hd] at g2
          exact absurd g2 (by decide)
      · rintro r h ⟨rfl, G', rfl, hG4⟩
        have hd : drF I = true := by
          cases hd : drF I
          · rw [hd] at g2
            exact absurd rfl g2
          · rfl
        have ht : xt I J t c = 0 := Classical.not_not.mp g
        rw [cx_sJ_s, cx_sJ_n _ _ (show (11 : Nat) ≠ 12 by decide), cx_sJ_s] at hG4
        have em : mvF I (ev_sJ (ev_sJ J 11 G1) 12 G) = mvF I J := by
          funext z
          unfold mvF
          rw [cx_sJ_n _ _ (show (1 : Nat) ≠ 12 by decide), cx_sJ_n _ _ (show (1 : Nat) ≠ 11 by decide)]
        rw [em] at hG4
        rw [sJ_sw _ _ _ (show (12 : Nat) ≠ 11 by decide), sJ2]
        have hres : ∀ s, s < 3 → G' s = (xq I J t (c + 1)).1 s ∧ G s = (xq I J t (c + 1)).2 s := fun s hs => by
          refine ⟨?_, hG3 s hs⟩
          show G' s = pl_f (I 2 1) (drF I) (mvF I J) (xq I J t c).1 (xq I J t c).2 (J 9 c) s
          unfold pl_f
          rw [show (drF I && Nat.beq (pl_a (I 2 1) (xq I J t c).1 (xq I J t c).2 (J 9 c)) 0) = true from by
            rw [hd, show pl_a (I 2 1) (xq I J t c).1 (xq I J t c).2 (J 9 c) = 0 from ht]
            rfl, hG4 s hs]
          exact pl_m_c (fun s hs => ⟨(hG s hs).1, hG3 s hs⟩) hs
        refine pw_p (pt_136 ?_)
        rw [io_1]
        exact ih (c + 1) (by omega) G' G hres N
  have first : ∀ (d s : Nat), s + d = 3 → ∀ G1 G2 : Nat → Int64, (∀ i, i < s → G1 i = ly_s I J t i ∧ G2 i = 0) → ∀ N, pw N X 135 12 [.ref 10, .int x, .int (Int32.ofNat n), .int (ly_c t), .int (Int32.ofNat s)] [] (ev_hp I (ev_sJ (ev_sJ J 11 G1) 12 G2) R T) (fun r h => r = some (.long (xz I J t n)) ∧ ∃ J', h = ev_hp I J' R T ∧ xh I J t n J') := by
    intro d
    induction d with
    | zero =>
      intro s hs G1 G2 hG N
      obtain rfl : s = 3 := by omega
      have h0 := fun N => main n 0 (by omega) G1 G2 hG N
      refine pw_p (pt_12 ⟨fun _ => pw_p (pt_53 ?_), fun g => absurd (by decide) g⟩)
      refine ⟨fun g => ?_, fun g => ⟨fun g2 => ?_, fun g2 => ?_⟩⟩
      · have e : drF I = true := by
          unfold drF
          rw [decide_eq_true g]
          rfl
        rw [e] at h0
        exact h0 _
      · have e : drF I = false := by
          unfold drF
          rw [decide_eq_false g, decide_eq_false (fun z => z g2)]
          rfl
        rw [e] at h0
        exact h0 _
      · have e : drF I = true := by
          unfold drF
          rw [decide_eq_true (p := I 1 2 ≠ 0) g2, Bool.or_true]
        rw [e] at h0
        exact h0 _
    | succ d ih =>
      intro s hsd G1 G2 hG N
      have hs : s < 3 := by omega
      refine pw_p (pt_12 ⟨fun g => ?_, fun _ => ⟨_, pe_cellsIn (s := s) rfl hns b0 b1 b2 hs (hin s), ?_⟩⟩)
      · rw [show (3 : Int32) = Int32.ofNat 3 from rfl, io_le (by omega) (by omega)] at g
        omega
      · rintro r h ⟨rfl, rfl⟩
        have e4 : ly_s I (ev_sJ (ev_sJ J 11 G1) 12 G2) t s = ly_s I J t s := by
          unfold ly_s
          rw [cx_sJ_n _ _ (show (4 : Nat) ≠ 12 by decide), cx_sJ_n _ _ (show (4 : Nat) ≠ 11 by decide)]
        rw [e4]
        refine pw_p (pt_34 ?_)
        rw [cx_sJ_s, cx_sJ_n _ _ (show (11 : Nat) ≠ 12 by decide), cx_sJ_s, putJ_in hs (by decide), putJ_in hs (by decide), sJ_sw (ev_sJ J 11 G1) _ _ (show (12 : Nat) ≠ 11 by decide), sJ2, sJ2, io_1]
        refine ih (s + 1) (by omega) _ _ (fun i hi => ?_) N
        by_cases his : i = s
        · subst his
          rw [pv_s, pv_s]
          exact ⟨rfl, rfl⟩
        · rw [pv_n _ _ his, pv_n _ _ his]
          exact hG i (by omega)
  refine pe_of (pw_p (pt_0 ⟨_, pe_code h hm, ?_⟩))
  rintro r h ⟨rfl, rfl⟩
  rw [hf]
  refine pw_p (pt_8 ?_)
  have h0 := first 3 0 (by omega) (J 11) (J 12) (fun i hi => absurd hi (by omega)) N
  rw [sJ_self, sJ_self] at h0
  exact h0
end
end
section
/-! Ships drift: the class's way and the reference's come to the same. -/
noncomputable def mvP (W H wr dx dy : Int32) (z : Int64) : Int64 := md W wr (W * H) (al_F (W * H)) (ma W wr (fc_F W H) (lc_F W H) z dx) dy
noncomputable def dr1 (W : Int32) (lc z : Int64) (dx : Int32) : Int64 := if dx = 1 then sl (z &&& (lc ^^^ (-1))) 1 ||| us (z &&& lc) (W - 1) else z
noncomputable def dr2 (W : Int32) (fc z : Int64) (dx : Int32) : Int64 := if dx = -1 then us (z &&& (fc ^^^ (-1))) 1 ||| sl (z &&& fc) (W - 1) else z
noncomputable def dr3 (W H : Int32) (al z : Int64) (dy : Int32) : Int64 := if dy = 1 then (sl z W &&& al) ||| us z (W * (H - 1)) else z
noncomputable def dr4 (W H : Int32) (al z : Int64) (dy : Int32) : Int64 := if dy = -1 then us z W ||| (sl z (W * (H - 1)) &&& al) else z
/-- the reference's way, by shifts that know no sign -/
noncomputable def drS (W H dx dy : Int32) (z : Int64) : Int64 := dr4 W H (al_F (W * H)) (dr3 W H (al_F (W * H)) (dr2 W (fc_F W H) (dr1 W (lc_F W H) z dx) dx) dy) dy
section
variable (W H wr dx dy : Int32) (fc lc al x y : Int64)
theorem mvP_or : mvP W H wr dx dy (x ||| y) = mvP W H wr dx dy x ||| mvP W H wr dx dy y := by
  unfold mvP
  rw [ma_or, md_or]
theorem dr1_or : dr1 W lc (x ||| y) dx = dr1 W lc x dx ||| dr1 W lc y dx := by
  unfold dr1
  split
  · rw [and_o, and_o, sl_or, us_or, or4]
  · rfl
theorem dr2_or : dr2 W fc (x ||| y) dx = dr2 W fc x dx ||| dr2 W fc y dx := by
  unfold dr2
  split
  · rw [and_o, and_o, us_or, sl_or, or4]
  · rfl
theorem dr3_or : dr3 W H al (x ||| y) dy = dr3 W H al x dy ||| dr3 W H al y dy := by
  unfold dr3
  split
  · rw [sl_or, and_o, us_or, or4]
  · rfl
theorem dr4_or : dr4 W H al (x ||| y) dy = dr4 W H al x dy ||| dr4 W H al y dy := by
  unfold dr4
  split
  · rw [us_or, sl_or, and_o, or4]
  · rfl
theorem drS_or : drS W H dx dy (x ||| y) = drS W H dx dy x ||| drS W H dx dy y := by
  unfold drS
  rw [dr1_or, dr2_or, dr3_or, dr4_or]
end
noncomputable def dr12 (W H dx : Int32) (z : Int64) : Int64 := dr2 W (fc_F W H) (dr1 W (lc_F W H) z dx) dx
theorem dr12_or (W H dx : Int32) (x y : Int64) : dr12 W H dx (x ||| y) = dr12 W H dx x ||| dr12 W H dx y := by
  unfold dr12
  rw [dr1_or, dr2_or]
/-- what is looked up: cell by cell, and no cell -/
noncomputable def mv_1 (W H : Nat) (dx dy : Int32) (z : Int64) : Bool := decide (drS (Int32.ofNat W) (Int32.ofNat H) dx dy z = mvP (Int32.ofNat W) (Int32.ofNat H) 1 dx dy z) && (decide (mvP (Int32.ofNat W) (Int32.ofNat H) 1 dx dy z &&& al_F (Int32.ofNat (W * H)) = mvP (Int32.ofNat W) (Int32.ofNat H) 1 dx dy z) && decide (dr12 (Int32.ofNat W) (Int32.ofNat H) dx z &&& al_F (Int32.ofNat (W * H)) = dr12 (Int32.ofNat W) (Int32.ofNat H) dx z))
noncomputable def mw_tab (W H : Nat) : Bool := [(-1 : Int32), 0, 1].all fun dx => [(-1 : Int32), 0, 1].all fun dy => mv_1 W H dx dy 0 && (List.range (W * H)).all fun c => mv_1 W H dx dy (cell1 c)
theorem mv_t2 : ((List.range 5).all fun h => mw_tab 2 (h + 2)) = true := by decide +kernel
theorem mv_t3 : ((List.range 5).all fun h => mw_tab 3 (h + 2)) = true := by decide +kernel
theorem mv_t4 : ((List.range 5).all fun h => mw_tab 4 (h + 2)) = true := by decide +kernel
theorem mv_t5 : ((List.range 5).all fun h => mw_tab 5 (h + 2)) = true := by decide +kernel
theorem mv_t6 : ((List.range 5).all fun h => mw_tab 6 (h + 2)) = true := by decide +kernel
theorem and_or_r {x y m : Int64} (hx : x &&& m = x) (hy : y &&& m = y) : (x ||| y) &&& m = x ||| y := by
  rw [and_o, hx, hy]
theorem mv_1_or {W H : Nat} {dx dy : Int32} {x y : Int64} (hx : mv_1 W H dx dy x = true) (hy : mv_1 W H dx dy y = true) : mv_1 W H dx dy (x ||| y) = true := by
  unfold mv_1 at hx hy ⊢
  simp only [Bool.and_eq_true, decide_eq_true_eq] at hx hy ⊢
  refine ⟨?_, ?_, ?_⟩
  · rw [drS_or, mvP_or, hx.1, hy.1]
  · rw [mvP_or]
    exact and_or_r hx.2.1 hy.2.1
  · rw [dr12_or]
    exact and_or_r hx.2.2 hy.2.2
noncomputable def d1 (d : Int32) : Prop := d = -1 ∨ d = 0 ∨ d = 1
theorem mv_ts {W H : Nat} {dx dy : Int32} (hW : 2 ≤ W ∧ W ≤ 6) (hH : 2 ≤ H ∧ H ≤ 6) (hx : d1 dx) (hy : d1 dy) : mv_1 W H dx dy 0 = true ∧ ∀ c, c < W * H → mv_1 W H dx dy (cell1 c) = true := by
  have h0 : mw_tab W H = true := by
    have key : ∀ w, ((List.range 5).all fun h => mw_tab w (h + 2)) = true → mw_tab w H = true := fun w h => by
      have := List.all_eq_true.mp h (H - 2) (List.mem_range.mpr (by omega))
      rw [show H - 2 + 2 = H by omega] at this
      exact this
    rcases (show W = 2 ∨ W = 3 ∨ W = 4 ∨ W = 5 ∨ W = 6 by omega) with rfl | rfl | rfl | rfl | rfl
    · exact key 2 mv_t2
    · exact key 3 mv_t3
    · exact key 4 mv_t4
    · exact key 5 mv_t5
    · exact key 6 mv_t6
  have hm : ∀ d : Int32, d1 d → d ∈ [(-1 : Int32), 0, 1] := by
    rintro d (rfl | rfl | rfl) <;> decide
  have h1 := List.all_eq_true.mp (List.all_eq_true.mp h0 dx (hm dx hx)) dy (hm dy hy)
  obtain ⟨h2, h3⟩ := Bool.and_eq_true_iff.mp h1
  exact ⟨h2, fun c hc => List.all_eq_true.mp h3 c (List.mem_range.mpr hc)⟩
/-- a set of cells of the paper -/
noncomputable def onp (n : Nat) (z : Int64) : Prop := ∀ i, n ≤ i → kb z i = false
theorem mv_all {W H : Nat} {dx dy : Int32} (hW : 2 ≤ W ∧ W ≤ 6) (hH : 2 ≤ H ∧ H ≤ 6) (hx : d1 dx) (hy : d1 dy) {z : Int64} (hz : onp (W * H) z) : mv_1 W H dx dy z = true := by
  obtain ⟨h0, h1⟩ := mv_ts hW hH hx hy
  have key : ∀ c, c ≤ W * H → mv_1 W H dx dy (pz z c) = true := by
    intro c
    induction c with
    | zero => intro _; exact h0
    | succ c ih =>
      intro hc
      unfold pz
      split
      · exact mv_1_or (ih (by omega)) (h1 c (by omega))
      · exact ih (by omega)
  have h36 : W * H ≤ 6 * 6 := Nat.mul_le_mul hW.2 hH.2
  have h2 := key (W * H) (Nat.le_refl _)
  rw [pz_all (by omega) hz] at h2
  exact h2
theorem al_kb {n i : Nat} (hn : n ≤ 36) : kb (al_F (Int32.ofNat n)) i = decide (i < n) := by
  have key : ((List.range 37).all fun n => (List.range 64).all fun i => kb (al_F (Int32.ofNat n)) i == decide (i < n)) = true := by decide +kernel
  by_cases hi : i < 64
  · have h1 := List.all_eq_true.mp (List.all_eq_true.mp key n (List.mem_range.mpr (by omega))) i (List.mem_range.mpr hi)
    exact eq_of_beq h1
  · rw [kb_64 _ (by omega), decide_eq_false (by omega)]
theorem onp_al {n : Nat} (hn : n ≤ 36) {z : Int64} (h : z &&& al_F (Int32.ofNat n) = z) : onp n z := by
  intro i hi
  rw [← h, kb_and, al_kb hn, decide_eq_false (by omega), Bool.and_false]
theorem mv_s {W H : Nat} {dx dy : Int32} (hW : 2 ≤ W ∧ W ≤ 6) (hH : 2 ≤ H ∧ H ≤ 6) (hx : d1 dx) (hy : d1 dy) {z : Int64} (hz : onp (W * H) z) : drS (Int32.ofNat W) (Int32.ofNat H) dx dy z = mvP (Int32.ofNat W) (Int32.ofNat H) 1 dx dy z ∧ onp (W * H) (mvP (Int32.ofNat W) (Int32.ofNat H) 1 dx dy z) ∧ onp (W * H) (dr12 (Int32.ofNat W) (Int32.ofNat H) dx z) := by
  have h := mv_all hW hH hx hy hz
  have h36 : W * H ≤ 6 * 6 := Nat.mul_le_mul hW.2 hH.2
  unfold mv_1 at h
  simp only [Bool.and_eq_true, decide_eq_true_eq] at h
  exact ⟨h.1, onp_al (by omega) h.2.1, onp_al (by omega) h.2.2⟩
theorem onp_and {n : Nat} {z m : Int64} (h : onp n z) : onp n (z &&& m) := fun i hi => by rw [kb_and, h i hi, Bool.false_and]
/-- a shift to the right knows no sign where there is none -/
theorem sr_us {z : Int64} (h : kb z 63 = false) {n : Nat} (hn : n < 64) : z >>> ((Int32.ofNat n).toInt64 &&& (63 : Int64)) = us z (Int32.ofNat n) := by
  have hm : z.toBitVec.msb = false := by
    rw [BitVec.msb_eq_getLsbD_last]
    exact h
  have e2 : ((Int32.ofNat n).toInt64.toUInt64 &&& Int64.toUInt64 63).toBitVec % 64 = BitVec.ofNat 64 n := by
    have key : ∀ n, n < 64 → ((Int32.ofNat n).toInt64.toUInt64 &&& Int64.toUInt64 63).toBitVec % 64 = BitVec.ofNat 64 n := by decide +kernel
    exact key n hn
  refine Int64.toBitVec_inj.mp ?_
  unfold us
  rw [Int64.toBitVec_shiftRight, BitVec.sshiftRight_eq', sh_6 n hn, BitVec.sshiftRight_eq_of_msb_false hm]
  show z.toBitVec >>> n = (z.toUInt64 >>> ((Int32.ofNat n).toInt64.toUInt64 &&& Int64.toUInt64 63)).toBitVec
  rw [UInt64.toBitVec_shiftRight, e2, BitVec.ushiftRight_eq', BitVec.toNat_ofNat, Nat.mod_eq_of_lt (by omega)]
  rfl
end
section
/-! A laying is gone through the calls, by the reference. -/
section
variable {N : Nat} {X : ez_X} {I : Nat → Nat → Int32} {J : Nat → Nat → Int64} {R : Nat → Nat} {T : List ez_C} {Q : pw_Q} {cz kz : Nat}
set_option maxRecDepth 100000 in
theorem mg_r0 {a0 : Int32} : ∀ G : ez_F, fx_up X 2 G 221 0 [.ref 35, .int a0] [] (ev_hp I J R T) cz kz = G 221 2 [.ref 35, .int a0, .int (0 : Int32)] [] (ev_hp I J R T) cz kz := by
  intro G
  rfl
theorem sa_0 {x : Int32}
    (H : pw N X 221 2 [.ref 35, .int x, .int (0 : Int32)] [] (ev_hp I J R T) Q) : pw (N + 1) X 221 0 [.ref 35, .int x] [] (ev_hp I J R T) Q := by
  refine pw_seg (by decide) (fun _ _ => mg_r0) ?_
  exact H
set_option maxRecDepth 100000 in
theorem mg_r1 {a0 : Int32} {a1 : Int32} : ∀ G : ez_F, fx_up X 3 G 221 2 [.ref 35, .int a0, .int a1] [] (ev_hp I J R T) cz kz = G 221 7 [.ref 35, .int a0, .int a1] [.int (I 35 3), .int a1] (ev_hp I J R T) cz kz := by
  intro G
  rfl
set_option maxRecDepth 100000 in
theorem mg_r2 {a0 : Int32} {a1 : Int32} {a2 : Int32} {a3 : Int32} : ∀ G : ez_F, fx_up X 1 G 221 7 [.ref 35, .int a0, .int a1] [.int a2, .int a3] (ev_hp I J R T) cz kz = bif decide (a2 ≤ a3) then G 221 31 [.ref 35, .int a0, .int a1] [] (ev_hp I J R T) cz kz else G 221 10 [.ref 35, .int a0, .int a1] [] (ev_hp I J R T) cz kz := by
  intro G
  rfl
set_option maxRecDepth 100000 in
theorem mg_r3 {a0 : Int32} {a1 : Int32} : ∀ G : ez_F, fx_up X 2 G 221 31 [.ref 35, .int a0, .int a1] [] (ev_hp I J R T) cz kz = some (some (.int (-1 : Int32)), (ev_hp I J R T), cz, kz) := by
  intro G
  rfl
set_option maxRecDepth 100000 in
theorem mg_r4 {a0 : Int32} {a1 : Int32} : ∀ G : ez_F, fx_up X 3 G 221 10 [.ref 35, .int a0, .int a1] [] (ev_hp I J R T) cz kz = G 221 15 [.ref 35, .int a0, .int a1] [.int a1, .ref 45] (ev_hp I J R T) cz kz := by
  intro G
  rfl
set_option maxRecDepth 100000 in
theorem mg_r5 {a0 : Int32} {a1 : Int32} {a2 : Int64} : ∀ G : ez_F, fx_up X 2 G 221 16 [.ref 35, .int a0, .int a1] [.long a2] (ev_hp I J R T) cz kz = ev_C G 197 [.long a2, .int a0] (ev_hp I J R T) fun r h1 c1 k1 => G 221 20 [.ref 35, .int a0, .int a1] (r.toList ++ []) h1 (cz + c1) (kz + k1) := by
  intro G
  rfl
set_option maxRecDepth 100000 in
theorem mg_r6 {a0 : Int32} {a1 : Int32} {a2 : Int32} : ∀ G : ez_F, fx_up X 1 G 221 20 [.ref 35, .int a0, .int a1] [.int a2] (ev_hp I J R T) cz kz = bif decide (a2 = (0 : Int32)) then G 221 25 [.ref 35, .int a0, .int a1] [] (ev_hp I J R T) cz kz else G 221 23 [.ref 35, .int a0, .int a1] [] (ev_hp I J R T) cz kz := by
  intro G
  rfl
set_option maxRecDepth 100000 in
theorem mg_r7 {a0 : Int32} {a1 : Int32} : ∀ G : ez_F, fx_up X 2 G 221 25 [.ref 35, .int a0, .int a1] [] (ev_hp I J R T) cz kz = G 221 2 [.ref 35, .int a0, .int (a1 + (1 : Int32))] [] (ev_hp I J R T) cz kz := by
  intro G
  rfl
set_option maxRecDepth 100000 in
theorem mg_r8 {a0 : Int32} {a1 : Int32} : ∀ G : ez_F, fx_up X 2 G 221 23 [.ref 35, .int a0, .int a1] [] (ev_hp I J R T) cz kz = some (some (.int a1), (ev_hp I J R T), cz, kz) := by
  intro G
  rfl
theorem sa_2 {x s : Int32}
    (H : (((I 35 3) ≤ s → Q (some (.int (-1 : Int32))) (ev_hp I J R T)) ∧ (¬ ((I 35 3) ≤ s) → (ev_ix s 3 → (((ev_has (J 45 s.toNatClampNeg) x) = (0 : Int32) → pw N X 221 2 [.ref 35, .int x, .int (s + (1 : Int32))] [] (ev_hp I J R T) Q) ∧ (¬ ((ev_has (J 45 s.toNatClampNeg) x) = (0 : Int32)) → Q (some (.int s)) (ev_hp I J R T))))))) : pw (N + 1) X 221 2 [.ref 35, .int x, .int s] [] (ev_hp I J R T) Q := by
  refine pw_seg (by decide) (fun _ _ => mg_r1) ?_
  refine pw_p (pw_if (by decide) (fun _ _ => mg_r2) (fun w1 => ?_) (fun w1 => ?_))
  · have h1 := H.1 w1
    exact pw_p (pw_ret (by decide) (fun _ _ => mg_r3) h1)
  · have h1 := H.2 w1
    refine pw_p (pw_seg (by decide) (fun _ _ => mg_r4) ?_)
    refine pw_p (pw_lald (by rfl) (cx_getJ (show cx_Ds[45]? = some (1, 3, []) from rfl)) (fun w2 => ?_))
    have h2 := h1 w2
    refine pw_p (pw_callp (by decide) (fun _ _ => mg_r5) (pe_is (em_has _ _ _ _)) ?_)
    refine pw_p (pw_if (by decide) (fun _ _ => mg_r6) (fun w2 => ?_) (fun w2 => ?_))
    · have h2 := h2.1 w2
      refine pw_p (pw_seg (by decide) (fun _ _ => mg_r7) ?_)
      exact h2
    · have h2 := h2.2 w2
      exact pw_p (pw_ret (by decide) (fun _ _ => mg_r8) h2)
set_option maxRecDepth 100000 in
theorem mg_r9 {a0 : Int32} : ∀ G : ez_F, fx_up X 3 G 176 0 [.ref 35, .int a0] [] (ev_hp I J R T) cz kz = ev_C G 221 [.ref 35, .int a0] (ev_hp I J R T) fun r h1 c1 k1 => G 176 5 [.ref 35, .int a0] (r.toList ++ []) h1 (cz + c1) (kz + k1) := by
  intro G
  rfl
theorem ce_0 {x : Int32}
    (H : (∃ Q1 : pw_Q, pe N X 221 [.ref 35, .int x] (ev_hp I J R T) Q1 ∧ ∀ (r : Option Value) (h1 : ez_H), Q1 r h1 → pw N X 176 5 [.ref 35, .int x] (r.toList ++ []) h1 Q)) : pw (N + 1) X 176 0 [.ref 35, .int x] [] (ev_hp I J R T) Q := by
  obtain ⟨Q1, hc, hk⟩ := H
  exact pw_call (by decide) (fun _ _ => mg_r9) hc hk
set_option maxRecDepth 100000 in
theorem mg_r10 {a0 : Int32} {a1 : Int32} : ∀ G : ez_F, fx_up X 4 G 176 5 [.ref 35, .int a0] [.int a1] (ev_hp I J R T) cz kz = bif decide (¬ a1 = (-1 : Int32)) then G 176 13 [.ref 35, .int a0, .int a1] [] (ev_hp I J R T) cz kz else G 176 11 [.ref 35, .int a0, .int a1] [] (ev_hp I J R T) cz kz := by
  intro G
  rfl
set_option maxRecDepth 100000 in
theorem mg_r11 {a0 : Int32} {a1 : Int32} : ∀ G : ez_F, fx_up X 3 G 176 13 [.ref 35, .int a0, .int a1] [] (ev_hp I J R T) cz kz = G 176 18 [.ref 35, .int a0, .int a1] [.int a1, .ref 46] (ev_hp I J R T) cz kz := by
  intro G
  rfl
set_option maxRecDepth 100000 in
theorem mg_r12 {a0 : Int32} {a1 : Int32} {a2 : Int64} : ∀ G : ez_F, fx_up X 2 G 176 19 [.ref 35, .int a0, .int a1] [.long a2] (ev_hp I J R T) cz kz = ev_C G 197 [.long a2, .int a0] (ev_hp I J R T) fun r h1 c1 k1 => G 176 23 [.ref 35, .int a0, .int a1] (r.toList ++ []) h1 (cz + c1) (kz + k1) := by
  intro G
  rfl
set_option maxRecDepth 100000 in
theorem mg_r13 {a0 : Int32} {a1 : Int32} {a2 : Int32} : ∀ G : ez_F, fx_up X 1 G 176 23 [.ref 35, .int a0, .int a1] [.int a2] (ev_hp I J R T) cz kz = bif decide (¬ a2 = (0 : Int32)) then G 176 30 [.ref 35, .int a0, .int a1] [] (ev_hp I J R T) cz kz else G 176 26 [.ref 35, .int a0, .int a1] [] (ev_hp I J R T) cz kz := by
  intro G
  rfl
set_option maxRecDepth 100000 in
theorem mg_r14 {a0 : Int32} {a1 : Int32} : ∀ G : ez_F, fx_up X 8 G 176 30 [.ref 35, .int a0, .int a1] [] (ev_hp I J R T) cz kz = G 176 42 [.ref 35, .int a0, .int a1, .int (0 : Int32)] [.int a1, .ref 46, .int a1, .ref 46] (ev_hp I J R T) cz kz := by
  intro G
  rfl
set_option maxRecDepth 100000 in
theorem mg_r15 {a0 : Int32} {a1 : Int32} {a2 : Int32} {a3 : Int64} {a4 : Int32} : ∀ G : ez_F, fx_up X 4 G 176 43 [.ref 35, .int a0, .int a1, .int a2] [.long a3, .int a4, .ref 46] (ev_hp I J R T) cz kz = G 176 47 [.ref 35, .int a0, .int a1, .int a2] [.long (a3 ||| ((1 : Int64) <<< (a0.toInt64 &&& (63 : Int64)))), .int a4, .ref 46] (ev_hp I J R T) cz kz := by
  intro G
  rfl
set_option maxRecDepth 100000 in
theorem mg_r16 {a0 : Int32} {a1 : Int32} {a2 : Int32} : ∀ G : ez_F, fx_up X 2 G 176 48 [.ref 35, .int a0, .int a1, .int a2] [] (ev_hp I J R T) cz kz = G 176 52 [.ref 35, .int a0, .int a1, .int a2] [.int (I 35 7)] (ev_hp I J R T) cz kz := by
  intro G
  rfl
set_option maxRecDepth 100000 in
theorem mg_r17 {a0 : Int32} {a1 : Int32} {a2 : Int32} {a3 : Int32} : ∀ G : ez_F, fx_up X 2 G 176 52 [.ref 35, .int a0, .int a1, .int a2] [.int a3] (ev_hp I J R T) cz kz = bif decide (¬ a3 = (1 : Int32)) then G 176 80 [.ref 35, .int a0, .int a1, .int a2] [] (ev_hp I J R T) cz kz else G 176 56 [.ref 35, .int a0, .int a1, .int a2] [] (ev_hp I J R T) cz kz := by
  intro G
  rfl
set_option maxRecDepth 100000 in
theorem mg_r18 {a0 : Int32} {a1 : Int32} {a2 : Int32} : ∀ G : ez_F, fx_up X 2 G 176 80 [.ref 35, .int a0, .int a1, .int a2] [] (ev_hp I J R T) cz kz = some (some (.int (1 : Int32)), (ev_hp I J R T), cz, kz) := by
  intro G
  rfl
set_option maxRecDepth 100000 in
theorem mg_r19 {a0 : Int32} {a1 : Int32} {a2 : Int32} : ∀ G : ez_F, fx_up X 2 G 176 56 [.ref 35, .int a0, .int a1, .int a2] [] (ev_hp I J R T) cz kz = bif decide (a2 = (0 : Int32)) then G 176 80 [.ref 35, .int a0, .int a1, .int a2] [] (ev_hp I J R T) cz kz else G 176 60 [.ref 35, .int a0, .int a1, .int a2] [] (ev_hp I J R T) cz kz := by
  intro G
  rfl
set_option maxRecDepth 100000 in
theorem mg_r20 {a0 : Int32} {a1 : Int32} : ∀ G : ez_F, fx_up X 9 G 176 26 [.ref 35, .int a0, .int a1] [] (ev_hp I J R T) cz kz = G 176 42 [.ref 35, .int a0, .int a1, .int (1 : Int32)] [.int a1, .ref 46, .int a1, .ref 46] (ev_hp I J R T) cz kz := by
  intro G
  rfl
set_option maxRecDepth 100000 in
theorem mg_r21 {a0 : Int32} {a1 : Int32} {a2 : Int32} : ∀ G : ez_F, fx_up X 3 G 176 60 [.ref 35, .int a0, .int a1, .int a2] [] (ev_hp I J R T) cz kz = G 176 65 [.ref 35, .int a0, .int a1, .int a2] [.int a1, .ref 46] (ev_hp I J R T) cz kz := by
  intro G
  rfl
set_option maxRecDepth 100000 in
theorem mg_r22 {a0 : Int32} {a1 : Int32} {a2 : Int32} {a3 : Int64} : ∀ G : ez_F, fx_up X 3 G 176 66 [.ref 35, .int a0, .int a1, .int a2] [.long a3] (ev_hp I J R T) cz kz = G 176 71 [.ref 35, .int a0, .int a1, .int a2] [.int a1, .ref 45, .long a3] (ev_hp I J R T) cz kz := by
  intro G
  rfl
set_option maxRecDepth 100000 in
theorem mg_r23 {a0 : Int32} {a1 : Int32} {a2 : Int32} {a3 : Int64} {a4 : Int64} : ∀ G : ez_F, fx_up X 2 G 176 72 [.ref 35, .int a0, .int a1, .int a2] [.long a3, .long a4] (ev_hp I J R T) cz kz = bif decide (¬ (lg_cmp a4 a3) = (0 : Int32)) then G 176 80 [.ref 35, .int a0, .int a1, .int a2] [] (ev_hp I J R T) cz kz else G 176 76 [.ref 35, .int a0, .int a1, .int a2] [] (ev_hp I J R T) cz kz := by
  intro G
  rfl
set_option maxRecDepth 100000 in
theorem mg_r24 {a0 : Int32} {a1 : Int32} {a2 : Int32} : ∀ G : ez_F, fx_up X 3 G 176 76 [.ref 35, .int a0, .int a1, .int a2] [] (ev_hp I J R T) cz kz = some (some (.int (2 : Int32)), (ev_hp I J R T), cz, kz) := by
  intro G
  rfl
set_option maxRecDepth 100000 in
theorem mg_r25 {a0 : Int32} {a1 : Int32} : ∀ G : ez_F, fx_up X 2 G 176 11 [.ref 35, .int a0, .int a1] [] (ev_hp I J R T) cz kz = some (some (.int (0 : Int32)), (ev_hp I J R T), cz, kz) := by
  intro G
  rfl
theorem ce_5 {x s : Int32}
    (H : ((¬ s = (-1 : Int32) → (ev_ix s 3 → ((¬ (ev_has (J 46 s.toNatClampNeg) x) = (0 : Int32) → (ev_ix s 3 → (ev_ix s 3 → ((¬ (I 35 7) = (1 : Int32) → Q (some (.int (1 : Int32))) (ev_hp I (ev_sJ J 46 (vp_updL (J 46) s.toNatClampNeg ((J 46 s.toNatClampNeg) ||| ((1 : Int64) <<< (x.toInt64 &&& (63 : Int64)))))) R T)) ∧ (¬ (¬ (I 35 7) = (1 : Int32)) → Q (some (.int (1 : Int32))) (ev_hp I (ev_sJ J 46 (vp_updL (J 46) s.toNatClampNeg ((J 46 s.toNatClampNeg) ||| ((1 : Int64) <<< (x.toInt64 &&& (63 : Int64)))))) R T)))))) ∧ (¬ (¬ (ev_has (J 46 s.toNatClampNeg) x) = (0 : Int32)) → (ev_ix s 3 → (ev_ix s 3 → ((¬ (I 35 7) = (1 : Int32) → Q (some (.int (1 : Int32))) (ev_hp I (ev_sJ J 46 (vp_updL (J 46) s.toNatClampNeg ((J 46 s.toNatClampNeg) ||| ((1 : Int64) <<< (x.toInt64 &&& (63 : Int64)))))) R T)) ∧ (¬ (¬ (I 35 7) = (1 : Int32)) → (ev_ix s 3 → (ev_ix s 3 → ((¬ (lg_cmp ((vp_updL (J 46) s.toNatClampNeg ((J 46 s.toNatClampNeg) ||| ((1 : Int64) <<< (x.toInt64 &&& (63 : Int64))))) s.toNatClampNeg) (J 45 s.toNatClampNeg)) = (0 : Int32) → Q (some (.int (1 : Int32))) (ev_hp I (ev_sJ J 46 (vp_updL (J 46) s.toNatClampNeg ((J 46 s.toNatClampNeg) ||| ((1 : Int64) <<< (x.toInt64 &&& (63 : Int64)))))) R T)) ∧ (¬ (¬ (lg_cmp ((vp_updL (J 46) s.toNatClampNeg ((J 46 s.toNatClampNeg) ||| ((1 : Int64) <<< (x.toInt64 &&& (63 : Int64))))) s.toNatClampNeg) (J 45 s.toNatClampNeg)) = (0 : Int32)) → Q (some (.int (2 : Int32))) (ev_hp I (ev_sJ J 46 (vp_updL (J 46) s.toNatClampNeg ((J 46 s.toNatClampNeg) ||| ((1 : Int64) <<< (x.toInt64 &&& (63 : Int64)))))) R T))))))))))))) ∧ (¬ (¬ s = (-1 : Int32)) → Q (some (.int (0 : Int32))) (ev_hp I J R T)))) : pw (N + 1) X 176 5 [.ref 35, .int x] [.int s] (ev_hp I J R T) Q := by
  refine pw_if (by decide) (fun _ _ => mg_r10) (fun w1 => ?_) (fun w1 => ?_)
  · have h1 := H.1 w1
    refine pw_p (pw_seg (by decide) (fun _ _ => mg_r11) ?_)
    refine pw_p (pw_lald (by rfl) (cx_getJ (show cx_Ds[46]? = some (1, 3, []) from rfl)) (fun w2 => ?_))
    have h2 := h1 w2
    refine pw_p (pw_callp (by decide) (fun _ _ => mg_r12) (pe_is (em_has _ _ _ _)) ?_)
    refine pw_p (pw_if (by decide) (fun _ _ => mg_r13) (fun w2 => ?_) (fun w2 => ?_))
    · have h2 := h2.1 w2
      refine pw_p (pw_seg (by decide) (fun _ _ => mg_r14) ?_)
      refine pw_p (pw_lald (by rfl) (cx_getJ (show cx_Ds[46]? = some (1, 3, []) from rfl)) (fun w3 => ?_))
      have h3 := h2 w3
      refine pw_p (pw_seg (by decide) (fun _ _ => mg_r15) ?_)
      refine pw_p (pw_last (by rfl) (cx_getJ (show cx_Ds[46]? = some (1, 3, []) from rfl)) (cx_setJ (show cx_Ds[46]? = some (1, 3, []) from rfl) _) (fun w3 => ?_))
      have h3 := h3 w3
      refine pw_p (pw_seg (by decide) (fun _ _ => mg_r16) ?_)
      refine pw_p (pw_if (by decide) (fun _ _ => mg_r17) (fun w3 => ?_) (fun w3 => ?_))
      · have h3 := h3.1 w3
        exact pw_p (pw_ret (by decide) (fun _ _ => mg_r18) h3)
      · have h3 := h3.2 w3
        refine pw_p (pw_if (by decide) (fun _ _ => mg_r19) (fun w4 => ?_) (fun w4 => ?_))
        rotate_left
        · exact absurd (by decide) w4
        exact pw_p (pw_ret (by decide) (fun _ _ => mg_r18) h3)
    · have h2 := h2.2 w2
      refine pw_p (pw_seg (by decide) (fun _ _ => mg_r20) ?_)
      refine pw_p (pw_lald (by rfl) (cx_getJ (show cx_Ds[46]? = some (1, 3, []) from rfl)) (fun w3 => ?_))
      have h3 := h2 w3
      refine pw_p (pw_seg (by decide) (fun _ _ => mg_r15) ?_)
      refine pw_p (pw_last (by rfl) (cx_getJ (show cx_Ds[46]? = some (1, 3, []) from rfl)) (cx_setJ (show cx_Ds[46]? = some (1, 3, []) from rfl) _) (fun w3 => ?_))
      have h3 := h3 w3
      refine pw_p (pw_seg (by decide) (fun _ _ => mg_r16) ?_)
      refine pw_p (pw_if (by decide) (fun _ _ => mg_r17) (fun w3 => ?_) (fun w3 => ?_))
      · have h3 := h3.1 w3
        exact pw_p (pw_ret (by decide) (fun _ _ => mg_r18) h3)
      · have h3 := h3.2 w3
        refine pw_p (pw_if (by decide) (fun _ _ => mg_r19) (fun w4 => ?_) (fun w4 => ?_))
        · exact absurd w4 (by decide)
        refine pw_p (pw_seg (by decide) (fun _ _ => mg_r21) ?_)
        refine pw_p (pw_lald (by rfl) (cx_getJ (show cx_Ds[46]? = some (1, 3, []) from rfl)) (fun w4 => ?_))
        have h4 := h3 w4
        refine pw_p (pw_seg (by decide) (fun _ _ => mg_r22) ?_)
        refine pw_p (pw_lald (by rfl) (cx_getJ (show cx_Ds[45]? = some (1, 3, []) from rfl)) (fun w4 => ?_))
        have h4 := h4 w4
        refine pw_p (pw_if (by decide) (fun _ _ => mg_r23) (fun w4 => ?_) (fun w4 => ?_))
        · have h4 := h4.1 w4
          exact pw_p (pw_ret (by decide) (fun _ _ => mg_r18) h4)
        · have h4 := h4.2 w4
          exact pw_p (pw_ret (by decide) (fun _ _ => mg_r24) h4)
  · have h1 := H.2 w1
    exact pw_p (pw_ret (by decide) (fun _ _ => mg_r25) h1)
set_option maxRecDepth 100000 in
theorem mg_r26 {a0 : Int64} : ∀ G : ez_F, fx_up X 3 G 187 0 [.ref 35, .long a0, ez_fill] [] (ev_hp I J R T) cz kz = ev_C G 179 [.ref 35] (ev_hp I J R T) fun r h1 c1 k1 => G 187 5 [.ref 35, .long a0, ez_fill] (r.toList ++ [.long (1 : Int64)]) h1 (cz + c1) (kz + k1) := by
  intro G
  rfl
set_option maxRecDepth 100000 in
theorem mg_r27 {a0 : Int64} {a1 : Int32} {a2 : Int64} : ∀ G : ez_F, fx_up X 8 G 187 5 [.ref 35, .long a0, ez_fill] [.int a1, .long a2] (ev_hp I J R T) cz kz = G 187 15 [.ref 35, .long a0, ez_fill, .long ((a2 <<< (a1.toInt64 &&& (63 : Int64))) - (1 : Int64)), ez_fill, .long (0 : Int64), ez_fill, .int (0 : Int32)] [] (ev_hp I J R T) cz kz := by
  intro G
  rfl
theorem dr_0 {z : Int64}
    (H : pw N X 187 15 [.ref 35, .long z, ez_fill, .long (((1 : Int64) <<< (((I 35 0) * (I 35 1)).toInt64 &&& (63 : Int64))) - (1 : Int64)), ez_fill, .long (0 : Int64), ez_fill, .int (0 : Int32)] [] (ev_hp I J R T) Q) : pw (N + 1) X 187 0 [.ref 35, .long z, ez_fill] [] (ev_hp I J R T) Q := by
  refine pw_callp (by decide) (fun _ _ => mg_r26) (pe_mcount) ?_
  refine pw_p (pw_seg (by decide) (fun _ _ => mg_r27) ?_)
  exact H
set_option maxRecDepth 100000 in
theorem mg_r28 {a0 : Int64} {a1 : Int64} {a2 : Int64} {a3 : Int32} : ∀ G : ez_F, fx_up X 3 G 187 15 [.ref 35, .long a0, ez_fill, .long a1, ez_fill, .long a2, ez_fill, .int a3] [] (ev_hp I J R T) cz kz = G 187 21 [.ref 35, .long a0, ez_fill, .long a1, ez_fill, .long a2, ez_fill, .int a3] [.int (I 35 1), .int a3] (ev_hp I J R T) cz kz := by
  intro G
  rfl
set_option maxRecDepth 100000 in
theorem mg_r29 {a0 : Int64} {a1 : Int64} {a2 : Int64} {a3 : Int32} {a4 : Int32} {a5 : Int32} : ∀ G : ez_F, fx_up X 1 G 187 21 [.ref 35, .long a0, ez_fill, .long a1, ez_fill, .long a2, ez_fill, .int a3] [.int a4, .int a5] (ev_hp I J R T) cz kz = bif decide (a4 ≤ a5) then G 187 44 [.ref 35, .long a0, ez_fill, .long a1, ez_fill, .long a2, ez_fill, .int a3] [] (ev_hp I J R T) cz kz else G 187 24 [.ref 35, .long a0, ez_fill, .long a1, ez_fill, .long a2, ez_fill, .int a3] [] (ev_hp I J R T) cz kz := by
  intro G
  rfl
set_option maxRecDepth 100000 in
theorem mg_r30 {a0 : Int64} {a1 : Int64} {a2 : Int64} {a3 : Int32} : ∀ G : ez_F, fx_up X 4 G 187 24 [.ref 35, .long a0, ez_fill, .long a1, ez_fill, .long a2, ez_fill, .int a3] [] (ev_hp I J R T) cz kz = G 187 31 [.ref 35, .long a0, ez_fill, .long a1, ez_fill, .long a2, ez_fill, .int a3] [.int (I 35 0), .long (1 : Int64), .long a2] (ev_hp I J R T) cz kz := by
  intro G
  rfl
set_option maxRecDepth 100000 in
theorem mg_r31 {a0 : Int64} {a1 : Int64} {a2 : Int64} {a3 : Int32} {a4 : Int32} {a5 : Int64} {a6 : Int64} : ∀ G : ez_F, fx_up X 7 G 187 31 [.ref 35, .long a0, ez_fill, .long a1, ez_fill, .long a2, ez_fill, .int a3] [.int a4, .long a5, .long a6] (ev_hp I J R T) cz kz = G 187 15 [.ref 35, .long a0, ez_fill, .long a1, ez_fill, .long (a6 ||| (a5 <<< ((a4 * a3).toInt64 &&& (63 : Int64)))), ez_fill, .int (a3 + (1 : Int32))] [] (ev_hp I J R T) cz kz := by
  intro G
  rfl
theorem dr_15 {z a f : Int64} {y : Int32}
    (H : (((I 35 1) ≤ y → pw N X 187 44 [.ref 35, .long z, ez_fill, .long a, ez_fill, .long f, ez_fill, .int y] [] (ev_hp I J R T) Q) ∧ (¬ ((I 35 1) ≤ y) → pw N X 187 15 [.ref 35, .long z, ez_fill, .long a, ez_fill, .long (f ||| ((1 : Int64) <<< (((I 35 0) * y).toInt64 &&& (63 : Int64)))), ez_fill, .int (y + (1 : Int32))] [] (ev_hp I J R T) Q))) : pw (N + 1) X 187 15 [.ref 35, .long z, ez_fill, .long a, ez_fill, .long f, ez_fill, .int y] [] (ev_hp I J R T) Q := by
  refine pw_seg (by decide) (fun _ _ => mg_r28) ?_
  refine pw_p (pw_if (by decide) (fun _ _ => mg_r29) (fun w1 => ?_) (fun w1 => ?_))
  · have h1 := H.1 w1
    exact h1
  · have h1 := H.2 w1
    refine pw_p (pw_seg (by decide) (fun _ _ => mg_r30) ?_)
    refine pw_p (pw_seg (by decide) (fun _ _ => mg_r31) ?_)
    exact h1
set_option maxRecDepth 100000 in
theorem mg_r32 {a0 : Int64} {a1 : Int64} {a2 : Int64} {a3 : Int32} : ∀ G : ez_F, fx_up X 3 G 187 44 [.ref 35, .long a0, ez_fill, .long a1, ez_fill, .long a2, ez_fill, .int a3] [] (ev_hp I J R T) cz kz = G 187 50 [.ref 35, .long a0, ez_fill, .long a1, ez_fill, .long a2, ez_fill, .int a3] [.int (I 35 0), .long a2] (ev_hp I J R T) cz kz := by
  intro G
  rfl
set_option maxRecDepth 100000 in
theorem mg_r33 {a0 : Int64} {a1 : Int64} {a2 : Int64} {a3 : Int32} {a4 : Int32} {a5 : Int64} : ∀ G : ez_F, fx_up X 8 G 187 50 [.ref 35, .long a0, ez_fill, .long a1, ez_fill, .long a2, ez_fill, .int a3] [.int a4, .long a5] (ev_hp I J R T) cz kz = G 187 62 [.ref 35, .long a0, ez_fill, .long a1, ez_fill, .long a2, ez_fill, .long (a5 <<< ((a4 - (1 : Int32)).toInt64 &&& (63 : Int64))), ez_fill, .long a0, ez_fill] [.int (I 35 9)] (ev_hp I J R T) cz kz := by
  intro G
  rfl
set_option maxRecDepth 100000 in
theorem mg_r34 {a0 : Int64} {a1 : Int64} {a2 : Int64} {a3 : Int64} {a4 : Int64} {a5 : Int32} : ∀ G : ez_F, fx_up X 2 G 187 62 [.ref 35, .long a0, ez_fill, .long a1, ez_fill, .long a2, ez_fill, .long a3, ez_fill, .long a4, ez_fill] [.int a5] (ev_hp I J R T) cz kz = bif decide (¬ a5 = (1 : Int32)) then G 187 92 [.ref 35, .long a0, ez_fill, .long a1, ez_fill, .long a2, ez_fill, .long a3, ez_fill, .long a4, ez_fill] [] (ev_hp I J R T) cz kz else G 187 66 [.ref 35, .long a0, ez_fill, .long a1, ez_fill, .long a2, ez_fill, .long a3, ez_fill, .long a4, ez_fill] [] (ev_hp I J R T) cz kz := by
  intro G
  rfl
set_option maxRecDepth 100000 in
theorem mg_r35 {a0 : Int64} {a1 : Int64} {a2 : Int64} {a3 : Int64} {a4 : Int64} : ∀ G : ez_F, fx_up X 12 G 187 66 [.ref 35, .long a0, ez_fill, .long a1, ez_fill, .long a2, ez_fill, .long a3, ez_fill, .long a4, ez_fill] [] (ev_hp I J R T) cz kz = G 187 86 [.ref 35, .long a0, ez_fill, .long a1, ez_fill, .long a2, ez_fill, .long a3, ez_fill, .long a4, ez_fill] [.int (I 35 0), .long (a4 &&& a3), .long ((a4 &&& (a3 ^^^ (18446744073709551615 : Int64))) <<< ((1 : Int32).toInt64 &&& (63 : Int64)))] (ev_hp I J R T) cz kz := by
  intro G
  rfl
set_option maxRecDepth 100000 in
theorem mg_r36 {a0 : Int64} {a1 : Int64} {a2 : Int64} {a3 : Int64} {a4 : Int64} {a5 : Int32} {a6 : Int64} {a7 : Int64} : ∀ G : ez_F, fx_up X 5 G 187 86 [.ref 35, .long a0, ez_fill, .long a1, ez_fill, .long a2, ez_fill, .long a3, ez_fill, .long a4, ez_fill] [.int a5, .long a6, .long a7] (ev_hp I J R T) cz kz = G 187 92 [.ref 35, .long a0, ez_fill, .long a1, ez_fill, .long a2, ez_fill, .long a3, ez_fill, .long (a7 ||| (a6 >>> ((a5 - (1 : Int32)).toInt64 &&& (63 : Int64)))), ez_fill] [] (ev_hp I J R T) cz kz := by
  intro G
  rfl
theorem dr_44 {z a f : Int64} {y : Int32}
    (H : ((¬ (I 35 9) = (1 : Int32) → pw N X 187 92 [.ref 35, .long z, ez_fill, .long a, ez_fill, .long f, ez_fill, .long (f <<< (((I 35 0) - (1 : Int32)).toInt64 &&& (63 : Int64))), ez_fill, .long z, ez_fill] [] (ev_hp I J R T) Q) ∧ (¬ (¬ (I 35 9) = (1 : Int32)) → pw N X 187 92 [.ref 35, .long z, ez_fill, .long a, ez_fill, .long f, ez_fill, .long (f <<< (((I 35 0) - (1 : Int32)).toInt64 &&& (63 : Int64))), ez_fill, .long (((z &&& ((f <<< (((I 35 0) - (1 : Int32)).toInt64 &&& (63 : Int64))) ^^^ (18446744073709551615 : Int64))) <<< ((1 : Int32).toInt64 &&& (63 : Int64))) ||| ((z &&& (f <<< (((I 35 0) - (1 : Int32)).toInt64 &&& (63 : Int64)))) >>> (((I 35 0) - (1 : Int32)).toInt64 &&& (63 : Int64)))), ez_fill] [] (ev_hp I J R T) Q))) : pw (N + 1) X 187 44 [.ref 35, .long z, ez_fill, .long a, ez_fill, .long f, ez_fill, .int y] [] (ev_hp I J R T) Q := by
  refine pw_seg (by decide) (fun _ _ => mg_r32) ?_
  refine pw_p (pw_seg (by decide) (fun _ _ => mg_r33) ?_)
  refine pw_p (pw_if (by decide) (fun _ _ => mg_r34) (fun w1 => ?_) (fun w1 => ?_))
  · have h1 := H.1 w1
    exact h1
  · have h1 := H.2 w1
    refine pw_p (pw_seg (by decide) (fun _ _ => mg_r35) ?_)
    refine pw_p (pw_seg (by decide) (fun _ _ => mg_r36) ?_)
    exact h1
set_option maxRecDepth 100000 in
theorem mg_r37 {a0 : Int64} {a1 : Int64} {a2 : Int64} {a3 : Int64} {a4 : Int64} : ∀ G : ez_F, fx_up X 2 G 187 92 [.ref 35, .long a0, ez_fill, .long a1, ez_fill, .long a2, ez_fill, .long a3, ez_fill, .long a4, ez_fill] [] (ev_hp I J R T) cz kz = G 187 96 [.ref 35, .long a0, ez_fill, .long a1, ez_fill, .long a2, ez_fill, .long a3, ez_fill, .long a4, ez_fill] [.int (I 35 9)] (ev_hp I J R T) cz kz := by
  intro G
  rfl
set_option maxRecDepth 100000 in
theorem mg_r38 {a0 : Int64} {a1 : Int64} {a2 : Int64} {a3 : Int64} {a4 : Int64} {a5 : Int32} : ∀ G : ez_F, fx_up X 2 G 187 96 [.ref 35, .long a0, ez_fill, .long a1, ez_fill, .long a2, ez_fill, .long a3, ez_fill, .long a4, ez_fill] [.int a5] (ev_hp I J R T) cz kz = bif decide (¬ a5 = (-1 : Int32)) then G 187 126 [.ref 35, .long a0, ez_fill, .long a1, ez_fill, .long a2, ez_fill, .long a3, ez_fill, .long a4, ez_fill] [] (ev_hp I J R T) cz kz else G 187 100 [.ref 35, .long a0, ez_fill, .long a1, ez_fill, .long a2, ez_fill, .long a3, ez_fill, .long a4, ez_fill] [] (ev_hp I J R T) cz kz := by
  intro G
  rfl
set_option maxRecDepth 100000 in
theorem mg_r39 {a0 : Int64} {a1 : Int64} {a2 : Int64} {a3 : Int64} {a4 : Int64} : ∀ G : ez_F, fx_up X 12 G 187 100 [.ref 35, .long a0, ez_fill, .long a1, ez_fill, .long a2, ez_fill, .long a3, ez_fill, .long a4, ez_fill] [] (ev_hp I J R T) cz kz = G 187 120 [.ref 35, .long a0, ez_fill, .long a1, ez_fill, .long a2, ez_fill, .long a3, ez_fill, .long a4, ez_fill] [.int (I 35 0), .long (a4 &&& a2), .long ((a4 &&& (a2 ^^^ (18446744073709551615 : Int64))) >>> ((1 : Int32).toInt64 &&& (63 : Int64)))] (ev_hp I J R T) cz kz := by
  intro G
  rfl
set_option maxRecDepth 100000 in
theorem mg_r40 {a0 : Int64} {a1 : Int64} {a2 : Int64} {a3 : Int64} {a4 : Int64} {a5 : Int32} {a6 : Int64} {a7 : Int64} : ∀ G : ez_F, fx_up X 5 G 187 120 [.ref 35, .long a0, ez_fill, .long a1, ez_fill, .long a2, ez_fill, .long a3, ez_fill, .long a4, ez_fill] [.int a5, .long a6, .long a7] (ev_hp I J R T) cz kz = G 187 126 [.ref 35, .long a0, ez_fill, .long a1, ez_fill, .long a2, ez_fill, .long a3, ez_fill, .long (a7 ||| (a6 <<< ((a5 - (1 : Int32)).toInt64 &&& (63 : Int64)))), ez_fill] [] (ev_hp I J R T) cz kz := by
  intro G
  rfl
theorem dr_92 {z a f l v : Int64}
    (H : ((¬ (I 35 9) = (-1 : Int32) → pw N X 187 126 [.ref 35, .long z, ez_fill, .long a, ez_fill, .long f, ez_fill, .long l, ez_fill, .long v, ez_fill] [] (ev_hp I J R T) Q) ∧ (¬ (¬ (I 35 9) = (-1 : Int32)) → pw N X 187 126 [.ref 35, .long z, ez_fill, .long a, ez_fill, .long f, ez_fill, .long l, ez_fill, .long (((v &&& (f ^^^ (18446744073709551615 : Int64))) >>> ((1 : Int32).toInt64 &&& (63 : Int64))) ||| ((v &&& f) <<< (((I 35 0) - (1 : Int32)).toInt64 &&& (63 : Int64)))), ez_fill] [] (ev_hp I J R T) Q))) : pw (N + 1) X 187 92 [.ref 35, .long z, ez_fill, .long a, ez_fill, .long f, ez_fill, .long l, ez_fill, .long v, ez_fill] [] (ev_hp I J R T) Q := by
  refine pw_seg (by decide) (fun _ _ => mg_r37) ?_
  refine pw_p (pw_if (by decide) (fun _ _ => mg_r38) (fun w1 => ?_) (fun w1 => ?_))
  · have h1 := H.1 w1
    exact h1
  · have h1 := H.2 w1
    refine pw_p (pw_seg (by decide) (fun _ _ => mg_r39) ?_)
    refine pw_p (pw_seg (by decide) (fun _ _ => mg_r40) ?_)
    exact h1
set_option maxRecDepth 100000 in
theorem mg_r41 {a0 : Int64} {a1 : Int64} {a2 : Int64} {a3 : Int64} {a4 : Int64} : ∀ G : ez_F, fx_up X 2 G 187 126 [.ref 35, .long a0, ez_fill, .long a1, ez_fill, .long a2, ez_fill, .long a3, ez_fill, .long a4, ez_fill] [] (ev_hp I J R T) cz kz = G 187 130 [.ref 35, .long a0, ez_fill, .long a1, ez_fill, .long a2, ez_fill, .long a3, ez_fill, .long a4, ez_fill] [.int (I 35 10)] (ev_hp I J R T) cz kz := by
  intro G
  rfl
set_option maxRecDepth 100000 in
theorem mg_r42 {a0 : Int64} {a1 : Int64} {a2 : Int64} {a3 : Int64} {a4 : Int64} {a5 : Int32} : ∀ G : ez_F, fx_up X 2 G 187 130 [.ref 35, .long a0, ez_fill, .long a1, ez_fill, .long a2, ez_fill, .long a3, ez_fill, .long a4, ez_fill] [.int a5] (ev_hp I J R T) cz kz = bif decide (¬ a5 = (1 : Int32)) then G 187 160 [.ref 35, .long a0, ez_fill, .long a1, ez_fill, .long a2, ez_fill, .long a3, ez_fill, .long a4, ez_fill] [] (ev_hp I J R T) cz kz else G 187 134 [.ref 35, .long a0, ez_fill, .long a1, ez_fill, .long a2, ez_fill, .long a3, ez_fill, .long a4, ez_fill] [] (ev_hp I J R T) cz kz := by
  intro G
  rfl
set_option maxRecDepth 100000 in
theorem mg_r43 {a0 : Int64} {a1 : Int64} {a2 : Int64} {a3 : Int64} {a4 : Int64} : ∀ G : ez_F, fx_up X 3 G 187 134 [.ref 35, .long a0, ez_fill, .long a1, ez_fill, .long a2, ez_fill, .long a3, ez_fill, .long a4, ez_fill] [] (ev_hp I J R T) cz kz = G 187 140 [.ref 35, .long a0, ez_fill, .long a1, ez_fill, .long a2, ez_fill, .long a3, ez_fill, .long a4, ez_fill] [.int (I 35 0), .long a4] (ev_hp I J R T) cz kz := by
  intro G
  rfl
set_option maxRecDepth 100000 in
theorem mg_r44 {a0 : Int64} {a1 : Int64} {a2 : Int64} {a3 : Int64} {a4 : Int64} {a5 : Int32} {a6 : Int64} : ∀ G : ez_F, fx_up X 6 G 187 140 [.ref 35, .long a0, ez_fill, .long a1, ez_fill, .long a2, ez_fill, .long a3, ez_fill, .long a4, ez_fill] [.int a5, .long a6] (ev_hp I J R T) cz kz = G 187 149 [.ref 35, .long a0, ez_fill, .long a1, ez_fill, .long a2, ez_fill, .long a3, ez_fill, .long a4, ez_fill] [.int (I 35 0), .long a4, .long ((a6 <<< (a5.toInt64 &&& (63 : Int64))) &&& a1)] (ev_hp I J R T) cz kz := by
  intro G
  rfl
set_option maxRecDepth 100000 in
theorem mg_r45 {a0 : Int64} {a1 : Int64} {a2 : Int64} {a3 : Int64} {a4 : Int64} {a5 : Int32} {a6 : Int64} {a7 : Int64} : ∀ G : ez_F, fx_up X 2 G 187 149 [.ref 35, .long a0, ez_fill, .long a1, ez_fill, .long a2, ez_fill, .long a3, ez_fill, .long a4, ez_fill] [.int a5, .long a6, .long a7] (ev_hp I J R T) cz kz = G 187 153 [.ref 35, .long a0, ez_fill, .long a1, ez_fill, .long a2, ez_fill, .long a3, ez_fill, .long a4, ez_fill] [.int (I 35 1), .int a5, .long a6, .long a7] (ev_hp I J R T) cz kz := by
  intro G
  rfl
set_option maxRecDepth 100000 in
theorem mg_r46 {a0 : Int64} {a1 : Int64} {a2 : Int64} {a3 : Int64} {a4 : Int64} {a5 : Int32} {a6 : Int32} {a7 : Int64} {a8 : Int64} : ∀ G : ez_F, fx_up X 6 G 187 153 [.ref 35, .long a0, ez_fill, .long a1, ez_fill, .long a2, ez_fill, .long a3, ez_fill, .long a4, ez_fill] [.int a5, .int a6, .long a7, .long a8] (ev_hp I J R T) cz kz = G 187 160 [.ref 35, .long a0, ez_fill, .long a1, ez_fill, .long a2, ez_fill, .long a3, ez_fill, .long (a8 ||| (a7 >>> ((a6 * (a5 - (1 : Int32))).toInt64 &&& (63 : Int64)))), ez_fill] [] (ev_hp I J R T) cz kz := by
  intro G
  rfl
theorem dr_126 {z a f l v : Int64}
    (H : ((¬ (I 35 10) = (1 : Int32) → pw N X 187 160 [.ref 35, .long z, ez_fill, .long a, ez_fill, .long f, ez_fill, .long l, ez_fill, .long v, ez_fill] [] (ev_hp I J R T) Q) ∧ (¬ (¬ (I 35 10) = (1 : Int32)) → pw N X 187 160 [.ref 35, .long z, ez_fill, .long a, ez_fill, .long f, ez_fill, .long l, ez_fill, .long (((v <<< ((I 35 0).toInt64 &&& (63 : Int64))) &&& a) ||| (v >>> (((I 35 0) * ((I 35 1) - (1 : Int32))).toInt64 &&& (63 : Int64)))), ez_fill] [] (ev_hp I J R T) Q))) : pw (N + 1) X 187 126 [.ref 35, .long z, ez_fill, .long a, ez_fill, .long f, ez_fill, .long l, ez_fill, .long v, ez_fill] [] (ev_hp I J R T) Q := by
  refine pw_seg (by decide) (fun _ _ => mg_r41) ?_
  refine pw_p (pw_if (by decide) (fun _ _ => mg_r42) (fun w1 => ?_) (fun w1 => ?_))
  · have h1 := H.1 w1
    exact h1
  · have h1 := H.2 w1
    refine pw_p (pw_seg (by decide) (fun _ _ => mg_r43) ?_)
    refine pw_p (pw_seg (by decide) (fun _ _ => mg_r44) ?_)
    refine pw_p (pw_seg (by decide) (fun _ _ => mg_r45) ?_)
    refine pw_p (pw_seg (by decide) (fun _ _ => mg_r46) ?_)
    exact h1
set_option maxRecDepth 100000 in
theorem mg_r47 {a0 : Int64} {a1 : Int64} {a2 : Int64} {a3 : Int64} {a4 : Int64} : ∀ G : ez_F, fx_up X 2 G 187 160 [.ref 35, .long a0, ez_fill, .long a1, ez_fill, .long a2, ez_fill, .long a3, ez_fill, .long a4, ez_fill] [] (ev_hp I J R T) cz kz = G 187 164 [.ref 35, .long a0, ez_fill, .long a1, ez_fill, .long a2, ez_fill, .long a3, ez_fill, .long a4, ez_fill] [.int (I 35 10)] (ev_hp I J R T) cz kz := by
  intro G
  rfl
set_option maxRecDepth 100000 in
theorem mg_r48 {a0 : Int64} {a1 : Int64} {a2 : Int64} {a3 : Int64} {a4 : Int64} {a5 : Int32} : ∀ G : ez_F, fx_up X 2 G 187 164 [.ref 35, .long a0, ez_fill, .long a1, ez_fill, .long a2, ez_fill, .long a3, ez_fill, .long a4, ez_fill] [.int a5] (ev_hp I J R T) cz kz = bif decide (¬ a5 = (-1 : Int32)) then G 187 194 [.ref 35, .long a0, ez_fill, .long a1, ez_fill, .long a2, ez_fill, .long a3, ez_fill, .long a4, ez_fill] [] (ev_hp I J R T) cz kz else G 187 168 [.ref 35, .long a0, ez_fill, .long a1, ez_fill, .long a2, ez_fill, .long a3, ez_fill, .long a4, ez_fill] [] (ev_hp I J R T) cz kz := by
  intro G
  rfl
set_option maxRecDepth 100000 in
theorem mg_r49 {a0 : Int64} {a1 : Int64} {a2 : Int64} {a3 : Int64} {a4 : Int64} : ∀ G : ez_F, fx_up X 2 G 187 194 [.ref 35, .long a0, ez_fill, .long a1, ez_fill, .long a2, ez_fill, .long a3, ez_fill, .long a4, ez_fill] [] (ev_hp I J R T) cz kz = some (some (.long a4), (ev_hp I J R T), cz, kz) := by
  intro G
  rfl
set_option maxRecDepth 100000 in
theorem mg_r50 {a0 : Int64} {a1 : Int64} {a2 : Int64} {a3 : Int64} {a4 : Int64} : ∀ G : ez_F, fx_up X 3 G 187 168 [.ref 35, .long a0, ez_fill, .long a1, ez_fill, .long a2, ez_fill, .long a3, ez_fill, .long a4, ez_fill] [] (ev_hp I J R T) cz kz = G 187 174 [.ref 35, .long a0, ez_fill, .long a1, ez_fill, .long a2, ez_fill, .long a3, ez_fill, .long a4, ez_fill] [.int (I 35 0), .long a4] (ev_hp I J R T) cz kz := by
  intro G
  rfl
set_option maxRecDepth 100000 in
theorem mg_r51 {a0 : Int64} {a1 : Int64} {a2 : Int64} {a3 : Int64} {a4 : Int64} {a5 : Int32} {a6 : Int64} : ∀ G : ez_F, fx_up X 4 G 187 174 [.ref 35, .long a0, ez_fill, .long a1, ez_fill, .long a2, ez_fill, .long a3, ez_fill, .long a4, ez_fill] [.int a5, .long a6] (ev_hp I J R T) cz kz = G 187 181 [.ref 35, .long a0, ez_fill, .long a1, ez_fill, .long a2, ez_fill, .long a3, ez_fill, .long a4, ez_fill] [.int (I 35 0), .long a4, .long (a6 >>> (a5.toInt64 &&& (63 : Int64)))] (ev_hp I J R T) cz kz := by
  intro G
  rfl
set_option maxRecDepth 100000 in
theorem mg_r52 {a0 : Int64} {a1 : Int64} {a2 : Int64} {a3 : Int64} {a4 : Int64} {a5 : Int32} {a6 : Int64} {a7 : Int64} : ∀ G : ez_F, fx_up X 2 G 187 181 [.ref 35, .long a0, ez_fill, .long a1, ez_fill, .long a2, ez_fill, .long a3, ez_fill, .long a4, ez_fill] [.int a5, .long a6, .long a7] (ev_hp I J R T) cz kz = G 187 185 [.ref 35, .long a0, ez_fill, .long a1, ez_fill, .long a2, ez_fill, .long a3, ez_fill, .long a4, ez_fill] [.int (I 35 1), .int a5, .long a6, .long a7] (ev_hp I J R T) cz kz := by
  intro G
  rfl
set_option maxRecDepth 100000 in
theorem mg_r53 {a0 : Int64} {a1 : Int64} {a2 : Int64} {a3 : Int64} {a4 : Int64} {a5 : Int32} {a6 : Int32} {a7 : Int64} {a8 : Int64} : ∀ G : ez_F, fx_up X 10 G 187 185 [.ref 35, .long a0, ez_fill, .long a1, ez_fill, .long a2, ez_fill, .long a3, ez_fill, .long a4, ez_fill] [.int a5, .int a6, .long a7, .long a8] (ev_hp I J R T) cz kz = some (some (.long (a8 ||| ((a7 <<< ((a6 * (a5 - (1 : Int32))).toInt64 &&& (63 : Int64))) &&& a1))), (ev_hp I J R T), cz, kz) := by
  intro G
  rfl
theorem dr_160 {z a f l v : Int64}
    (H : ((¬ (I 35 10) = (-1 : Int32) → Q (some (.long v)) (ev_hp I J R T)) ∧ (¬ (¬ (I 35 10) = (-1 : Int32)) → Q (some (.long ((v >>> ((I 35 0).toInt64 &&& (63 : Int64))) ||| ((v <<< (((I 35 0) * ((I 35 1) - (1 : Int32))).toInt64 &&& (63 : Int64))) &&& a)))) (ev_hp I J R T)))) : pw (N + 1) X 187 160 [.ref 35, .long z, ez_fill, .long a, ez_fill, .long f, ez_fill, .long l, ez_fill, .long v, ez_fill] [] (ev_hp I J R T) Q := by
  refine pw_seg (by decide) (fun _ _ => mg_r47) ?_
  refine pw_p (pw_if (by decide) (fun _ _ => mg_r48) (fun w1 => ?_) (fun w1 => ?_))
  · have h1 := H.1 w1
    exact pw_p (pw_ret (by decide) (fun _ _ => mg_r49) h1)
  · have h1 := H.2 w1
    refine pw_p (pw_seg (by decide) (fun _ _ => mg_r50) ?_)
    refine pw_p (pw_seg (by decide) (fun _ _ => mg_r51) ?_)
    refine pw_p (pw_seg (by decide) (fun _ _ => mg_r52) ?_)
    exact pw_p (pw_ret (by decide) (fun _ _ => mg_r53) h1)
set_option maxRecDepth 100000 in
theorem mg_r54  : ∀ G : ez_F, fx_up X 2 G 186 0 [.ref 35] [] (ev_hp I J R T) cz kz = G 186 4 [.ref 35] [.int (I 35 9)] (ev_hp I J R T) cz kz := by
  intro G
  rfl
set_option maxRecDepth 100000 in
theorem mg_r55 {a0 : Int32} : ∀ G : ez_F, fx_up X 1 G 186 4 [.ref 35] [.int a0] (ev_hp I J R T) cz kz = bif decide (¬ a0 = (0 : Int32)) then G 186 15 [.ref 35] [] (ev_hp I J R T) cz kz else G 186 7 [.ref 35] [] (ev_hp I J R T) cz kz := by
  intro G
  rfl
set_option maxRecDepth 100000 in
theorem mg_r56  : ∀ G : ez_F, fx_up X 6 G 186 15 [.ref 35] [] (ev_hp I J R T) cz kz = G 186 22 [.ref 35, .long (0 : Int64), ez_fill, .int (1 : Int32), .int (0 : Int32)] [] (ev_hp I J R T) cz kz := by
  intro G
  rfl
set_option maxRecDepth 100000 in
theorem mg_r57  : ∀ G : ez_F, fx_up X 2 G 186 7 [.ref 35] [] (ev_hp I J R T) cz kz = G 186 11 [.ref 35] [.int (I 35 10)] (ev_hp I J R T) cz kz := by
  intro G
  rfl
set_option maxRecDepth 100000 in
theorem mg_r58 {a0 : Int32} : ∀ G : ez_F, fx_up X 1 G 186 11 [.ref 35] [.int a0] (ev_hp I J R T) cz kz = bif decide (¬ a0 = (0 : Int32)) then G 186 15 [.ref 35] [] (ev_hp I J R T) cz kz else G 186 14 [.ref 35] [] (ev_hp I J R T) cz kz := by
  intro G
  rfl
set_option maxRecDepth 100000 in
theorem mg_r59  : ∀ G : ez_F, fx_up X 1 G 186 14 [.ref 35] [] (ev_hp I J R T) cz kz = some (none, (ev_hp I J R T), cz, kz) := by
  intro G
  rfl
theorem da_0 
    (H : ((¬ (I 35 9) = (0 : Int32) → pw N X 186 22 [.ref 35, .long (0 : Int64), ez_fill, .int (1 : Int32), .int (0 : Int32)] [] (ev_hp I J R T) Q) ∧ (¬ (¬ (I 35 9) = (0 : Int32)) → ((¬ (I 35 10) = (0 : Int32) → pw N X 186 22 [.ref 35, .long (0 : Int64), ez_fill, .int (1 : Int32), .int (0 : Int32)] [] (ev_hp I J R T) Q) ∧ (¬ (¬ (I 35 10) = (0 : Int32)) → Q none (ev_hp I J R T)))))) : pw (N + 1) X 186 0 [.ref 35] [] (ev_hp I J R T) Q := by
  refine pw_seg (by decide) (fun _ _ => mg_r54) ?_
  refine pw_p (pw_if (by decide) (fun _ _ => mg_r55) (fun w1 => ?_) (fun w1 => ?_))
  · have h1 := H.1 w1
    refine pw_p (pw_seg (by decide) (fun _ _ => mg_r56) ?_)
    exact h1
  · have h1 := H.2 w1
    refine pw_p (pw_seg (by decide) (fun _ _ => mg_r57) ?_)
    refine pw_p (pw_if (by decide) (fun _ _ => mg_r58) (fun w2 => ?_) (fun w2 => ?_))
    · have h2 := h1.1 w2
      refine pw_p (pw_seg (by decide) (fun _ _ => mg_r56) ?_)
      exact h2
    · have h2 := h1.2 w2
      exact pw_p (pw_ret (by decide) (fun _ _ => mg_r59) h2)
set_option maxRecDepth 100000 in
theorem mg_r60 {a0 : Int64} {a1 : Int32} {a2 : Int32} : ∀ G : ez_F, fx_up X 3 G 186 22 [.ref 35, .long a0, ez_fill, .int a1, .int a2] [] (ev_hp I J R T) cz kz = G 186 28 [.ref 35, .long a0, ez_fill, .int a1, .int a2] [.int (I 35 3), .int a2] (ev_hp I J R T) cz kz := by
  intro G
  rfl
set_option maxRecDepth 100000 in
theorem mg_r61 {a0 : Int64} {a1 : Int32} {a2 : Int32} {a3 : Int32} {a4 : Int32} : ∀ G : ez_F, fx_up X 1 G 186 28 [.ref 35, .long a0, ez_fill, .int a1, .int a2] [.int a3, .int a4] (ev_hp I J R T) cz kz = bif decide (a3 ≤ a4) then G 186 111 [.ref 35, .long a0, ez_fill, .int a1, .int a2] [] (ev_hp I J R T) cz kz else G 186 31 [.ref 35, .long a0, ez_fill, .int a1, .int a2] [] (ev_hp I J R T) cz kz := by
  intro G
  rfl
set_option maxRecDepth 100000 in
theorem mg_r62 {a0 : Int64} {a1 : Int32} {a2 : Int32} : ∀ G : ez_F, fx_up X 6 G 186 31 [.ref 35, .long a0, ez_fill, .int a1, .int a2] [] (ev_hp I J R T) cz kz = G 186 43 [.ref 35, .long a0, ez_fill, .int a1, .int a2] [.int a2, .ref 46, .int a2, .ref 47] (ev_hp I J R T) cz kz := by
  intro G
  rfl
set_option maxRecDepth 100000 in
theorem mg_r63 {a0 : Int64} {a1 : Int32} {a2 : Int32} {a3 : Int64} {a4 : Int32} : ∀ G : ez_F, fx_up X 3 G 186 44 [.ref 35, .long a0, ez_fill, .int a1, .int a2] [.long a3, .int a4, .ref 47] (ev_hp I J R T) cz kz = bif decide (¬ (lg_cmp a3 (0 : Int64)) = (0 : Int32)) then G 186 63 [.ref 35, .long a0, ez_fill, .int a1, .int a2] [.int a4, .ref 47] (ev_hp I J R T) cz kz else G 186 49 [.ref 35, .long a0, ez_fill, .int a1, .int a2] [.int a4, .ref 47] (ev_hp I J R T) cz kz := by
  intro G
  rfl
set_option maxRecDepth 100000 in
theorem mg_r64 {a0 : Int64} {a1 : Int32} {a2 : Int32} {a3 : Int32} : ∀ G : ez_F, fx_up X 3 G 186 63 [.ref 35, .long a0, ez_fill, .int a1, .int a2] [.int a3, .ref 47] (ev_hp I J R T) cz kz = G 186 69 [.ref 35, .long a0, ez_fill, .int a1, .int a2] [.int a2, .ref 45, .int a3, .ref 47] (ev_hp I J R T) cz kz := by
  intro G
  rfl
set_option maxRecDepth 100000 in
theorem mg_r65 {a0 : Int64} {a1 : Int32} {a2 : Int32} {a3 : Int32} : ∀ G : ez_F, fx_up X 4 G 186 49 [.ref 35, .long a0, ez_fill, .int a1, .int a2] [.int a3, .ref 47] (ev_hp I J R T) cz kz = G 186 56 [.ref 35, .long a0, ez_fill, .int a1, .int a2] [.int a2, .ref 45, .ref 35, .int a3, .ref 47] (ev_hp I J R T) cz kz := by
  intro G
  rfl
set_option maxRecDepth 100000 in
theorem mg_r66 {a0 : Int64} {a1 : Int32} {a2 : Int32} {a3 : Int64} {a4 : Int32} : ∀ G : ez_F, fx_up X 1 G 186 57 [.ref 35, .long a0, ez_fill, .int a1, .int a2] [.long a3, .ref 35, .int a4, .ref 47] (ev_hp I J R T) cz kz = ev_C G 187 [.ref 35, .long a3] (ev_hp I J R T) fun r h1 c1 k1 => G 186 60 [.ref 35, .long a0, ez_fill, .int a1, .int a2] (r.toList ++ [.int a4, .ref 47]) h1 (cz + c1) (kz + k1) := by
  intro G
  rfl
theorem da_22 {u : Int64} {b s : Int32}
    (H : (((I 35 3) ≤ s → pw N X 186 111 [.ref 35, .long u, ez_fill, .int b, .int s] [] (ev_hp I J R T) Q) ∧ (¬ ((I 35 3) ≤ s) → (ev_ix s 3 → ((¬ (lg_cmp (J 46 s.toNatClampNeg) (0 : Int64)) = (0 : Int32) → (ev_ix s 3 → pw N X 186 70 [.ref 35, .long u, ez_fill, .int b, .int s] [.long (J 45 s.toNatClampNeg), .int s, .ref 47] (ev_hp I J R T) Q)) ∧ (¬ (¬ (lg_cmp (J 46 s.toNatClampNeg) (0 : Int64)) = (0 : Int32)) → (ev_ix s 3 → (∃ Q1 : pw_Q, pe N X 187 [.ref 35, .long (J 45 s.toNatClampNeg)] (ev_hp I J R T) Q1 ∧ ∀ (r : Option Value) (h1 : ez_H), Q1 r h1 → pw N X 186 60 [.ref 35, .long u, ez_fill, .int b, .int s] (r.toList ++ [.int s, .ref 47]) h1 Q)))))))) : pw (N + 1) X 186 22 [.ref 35, .long u, ez_fill, .int b, .int s] [] (ev_hp I J R T) Q := by
  refine pw_seg (by decide) (fun _ _ => mg_r60) ?_
  refine pw_p (pw_if (by decide) (fun _ _ => mg_r61) (fun w1 => ?_) (fun w1 => ?_))
  · have h1 := H.1 w1
    exact h1
  · have h1 := H.2 w1
    refine pw_p (pw_seg (by decide) (fun _ _ => mg_r62) ?_)
    refine pw_p (pw_lald (by rfl) (cx_getJ (show cx_Ds[46]? = some (1, 3, []) from rfl)) (fun w2 => ?_))
    have h2 := h1 w2
    refine pw_p (pw_if (by decide) (fun _ _ => mg_r63) (fun w2 => ?_) (fun w2 => ?_))
    · have h2 := h2.1 w2
      refine pw_p (pw_seg (by decide) (fun _ _ => mg_r64) ?_)
      refine pw_p (pw_lald (by rfl) (cx_getJ (show cx_Ds[45]? = some (1, 3, []) from rfl)) (fun w3 => ?_))
      have h3 := h2 w3
      exact h3
    · have h2 := h2.2 w2
      refine pw_p (pw_seg (by decide) (fun _ _ => mg_r65) ?_)
      refine pw_p (pw_lald (by rfl) (cx_getJ (show cx_Ds[45]? = some (1, 3, []) from rfl)) (fun w3 => ?_))
      have h3 := h2 w3
      obtain ⟨Q1, hc, hk⟩ := h3
      exact pw_p (pw_call (by decide) (fun _ _ => mg_r66) hc hk)
set_option maxRecDepth 100000 in
theorem mg_r67 {a0 : Int64} {a1 : Int32} {a2 : Int32} {a3 : Int64} {a4 : Int32} : ∀ G : ez_F, fx_up X 1 G 186 60 [.ref 35, .long a0, ez_fill, .int a1, .int a2] [.long a3, .int a4, .ref 47] (ev_hp I J R T) cz kz = G 186 70 [.ref 35, .long a0, ez_fill, .int a1, .int a2] [.long a3, .int a4, .ref 47] (ev_hp I J R T) cz kz := by
  intro G
  rfl
theorem da_60 {u v : Int64} {b s : Int32}
    (H : pw N X 186 70 [.ref 35, .long u, ez_fill, .int b, .int s] [.long v, .int s, .ref 47] (ev_hp I J R T) Q) : pw (N + 1) X 186 60 [.ref 35, .long u, ez_fill, .int b, .int s] [.long v, .int s, .ref 47] (ev_hp I J R T) Q := by
  refine pw_seg (by decide) (fun _ _ => mg_r67) ?_
  exact H
set_option maxRecDepth 100000 in
theorem mg_r68 {a0 : Int64} {a1 : Int32} {a2 : Int32} : ∀ G : ez_F, fx_up X 2 G 186 71 [.ref 35, .long a0, ez_fill, .int a1, .int a2] [] (ev_hp I J R T) cz kz = bif decide (a1 = (0 : Int32)) then G 186 93 [.ref 35, .long a0, ez_fill, .int a1, .int a2] [] (ev_hp I J R T) cz kz else G 186 75 [.ref 35, .long a0, ez_fill, .int a1, .int a2] [] (ev_hp I J R T) cz kz := by
  intro G
  rfl
set_option maxRecDepth 100000 in
theorem mg_r69 {a0 : Int64} {a1 : Int32} {a2 : Int32} : ∀ G : ez_F, fx_up X 6 G 186 93 [.ref 35, .long a0, ez_fill, .int a1, .int a2] [] (ev_hp I J R T) cz kz = G 186 102 [.ref 35, .long a0, ez_fill, .int (0 : Int32), .int a2] [.int a2, .ref 47, .long a0] (ev_hp I J R T) cz kz := by
  intro G
  rfl
set_option maxRecDepth 100000 in
theorem mg_r70 {a0 : Int64} {a1 : Int32} {a2 : Int32} {a3 : Int64} {a4 : Int64} : ∀ G : ez_F, fx_up X 4 G 186 103 [.ref 35, .long a0, ez_fill, .int a1, .int a2] [.long a3, .long a4] (ev_hp I J R T) cz kz = G 186 22 [.ref 35, .long (a4 ||| a3), ez_fill, .int a1, .int (a2 + (1 : Int32))] [] (ev_hp I J R T) cz kz := by
  intro G
  rfl
set_option maxRecDepth 100000 in
theorem mg_r71 {a0 : Int64} {a1 : Int32} {a2 : Int32} : ∀ G : ez_F, fx_up X 4 G 186 75 [.ref 35, .long a0, ez_fill, .int a1, .int a2] [] (ev_hp I J R T) cz kz = G 186 82 [.ref 35, .long a0, ez_fill, .int a1, .int a2] [.int a2, .ref 47, .long a0] (ev_hp I J R T) cz kz := by
  intro G
  rfl
set_option maxRecDepth 100000 in
theorem mg_r72 {a0 : Int64} {a1 : Int32} {a2 : Int32} {a3 : Int64} {a4 : Int64} : ∀ G : ez_F, fx_up X 4 G 186 83 [.ref 35, .long a0, ez_fill, .int a1, .int a2] [.long a3, .long a4] (ev_hp I J R T) cz kz = bif decide (¬ (lg_cmp (a4 &&& a3) (0 : Int64)) = (0 : Int32)) then G 186 93 [.ref 35, .long a0, ez_fill, .int a1, .int a2] [] (ev_hp I J R T) cz kz else G 186 89 [.ref 35, .long a0, ez_fill, .int a1, .int a2] [] (ev_hp I J R T) cz kz := by
  intro G
  rfl
set_option maxRecDepth 100000 in
theorem mg_r73 {a0 : Int64} {a1 : Int32} {a2 : Int32} : ∀ G : ez_F, fx_up X 7 G 186 89 [.ref 35, .long a0, ez_fill, .int a1, .int a2] [] (ev_hp I J R T) cz kz = G 186 102 [.ref 35, .long a0, ez_fill, .int (1 : Int32), .int a2] [.int a2, .ref 47, .long a0] (ev_hp I J R T) cz kz := by
  intro G
  rfl
theorem da_70 {u v : Int64} {b s : Int32}
    (H : (ev_ix s 3 → ((b = (0 : Int32) → (ev_ix s 3 → pw N X 186 22 [.ref 35, .long (u ||| ((vp_updL (J 47) s.toNatClampNeg v) s.toNatClampNeg)), ez_fill, .int (0 : Int32), .int (s + (1 : Int32))] [] (ev_hp I (ev_sJ J 47 (vp_updL (J 47) s.toNatClampNeg v)) R T) Q)) ∧ (¬ (b = (0 : Int32)) → (ev_ix s 3 → ((¬ (lg_cmp (u &&& ((vp_updL (J 47) s.toNatClampNeg v) s.toNatClampNeg)) (0 : Int64)) = (0 : Int32) → (ev_ix s 3 → pw N X 186 22 [.ref 35, .long (u ||| ((vp_updL (J 47) s.toNatClampNeg v) s.toNatClampNeg)), ez_fill, .int (0 : Int32), .int (s + (1 : Int32))] [] (ev_hp I (ev_sJ J 47 (vp_updL (J 47) s.toNatClampNeg v)) R T) Q)) ∧ (¬ (¬ (lg_cmp (u &&& ((vp_updL (J 47) s.toNatClampNeg v) s.toNatClampNeg)) (0 : Int64)) = (0 : Int32)) → (ev_ix s 3 → pw N X 186 22 [.ref 35, .long (u ||| ((vp_updL (J 47) s.toNatClampNeg v) s.toNatClampNeg)), ez_fill, .int (1 : Int32), .int (s + (1 : Int32))] [] (ev_hp I (ev_sJ J 47 (vp_updL (J 47) s.toNatClampNeg v)) R T) Q)))))))) : pw (N + 1) X 186 70 [.ref 35, .long u, ez_fill, .int b, .int s] [.long v, .int s, .ref 47] (ev_hp I J R T) Q := by
  refine pw_last (by rfl) (cx_getJ (show cx_Ds[47]? = some (1, 3, []) from rfl)) (cx_setJ (show cx_Ds[47]? = some (1, 3, []) from rfl) _) (fun w1 => ?_)
  have h1 := H w1
  refine pw_p (pw_if (by decide) (fun _ _ => mg_r68) (fun w1 => ?_) (fun w1 => ?_))
  · have h1 := h1.1 w1
    refine pw_p (pw_seg (by decide) (fun _ _ => mg_r69) ?_)
    refine pw_p (pw_lald (by rfl) (cx_getJ (show cx_Ds[47]? = some (1, 3, []) from rfl)) (fun w2 => ?_))
    have h2 := h1 w2
    refine pw_p (pw_seg (by decide) (fun _ _ => mg_r70) ?_)
    exact h2
  · have h1 := h1.2 w1
    refine pw_p (pw_seg (by decide) (fun _ _ => mg_r71) ?_)
    refine pw_p (pw_lald (by rfl) (cx_getJ (show cx_Ds[47]? = some (1, 3, []) from rfl)) (fun w2 => ?_))
    have h2 := h1 w2
    refine pw_p (pw_if (by decide) (fun _ _ => mg_r72) (fun w2 => ?_) (fun w2 => ?_))
    · have h2 := h2.1 w2
      refine pw_p (pw_seg (by decide) (fun _ _ => mg_r69) ?_)
      refine pw_p (pw_lald (by rfl) (cx_getJ (show cx_Ds[47]? = some (1, 3, []) from rfl)) (fun w3 => ?_))
      have h3 := h2 w3
      refine pw_p (pw_seg (by decide) (fun _ _ => mg_r70) ?_)
      exact h3
    · have h2 := h2.2 w2
      refine pw_p (pw_seg (by decide) (fun _ _ => mg_r73) ?_)
      refine pw_p (pw_lald (by rfl) (cx_getJ (show cx_Ds[47]? = some (1, 3, []) from rfl)) (fun w3 => ?_))
      have h3 := h2 w3
      refine pw_p (pw_seg (by decide) (fun _ _ => mg_r70) ?_)
      exact h3
set_option maxRecDepth 100000 in
theorem mg_r74 {a0 : Int64} {a1 : Int32} {a2 : Int32} : ∀ G : ez_F, fx_up X 2 G 186 111 [.ref 35, .long a0, ez_fill, .int a1, .int a2] [] (ev_hp I J R T) cz kz = G 186 114 [.ref 35, .long a0, ez_fill, .int a1, .int (0 : Int32)] [] (ev_hp I J R T) cz kz := by
  intro G
  rfl
theorem da_111 {u : Int64} {b s : Int32}
    (H : pw N X 186 114 [.ref 35, .long u, ez_fill, .int b, .int (0 : Int32)] [] (ev_hp I J R T) Q) : pw (N + 1) X 186 111 [.ref 35, .long u, ez_fill, .int b, .int s] [] (ev_hp I J R T) Q := by
  refine pw_seg (by decide) (fun _ _ => mg_r74) ?_
  exact H
set_option maxRecDepth 100000 in
theorem mg_r75 {a0 : Int64} {a1 : Int32} {a2 : Int32} : ∀ G : ez_F, fx_up X 3 G 186 114 [.ref 35, .long a0, ez_fill, .int a1, .int a2] [] (ev_hp I J R T) cz kz = G 186 120 [.ref 35, .long a0, ez_fill, .int a1, .int a2] [.int (I 35 3), .int a2] (ev_hp I J R T) cz kz := by
  intro G
  rfl
set_option maxRecDepth 100000 in
theorem mg_r76 {a0 : Int64} {a1 : Int32} {a2 : Int32} {a3 : Int32} {a4 : Int32} : ∀ G : ez_F, fx_up X 1 G 186 120 [.ref 35, .long a0, ez_fill, .int a1, .int a2] [.int a3, .int a4] (ev_hp I J R T) cz kz = bif decide (a3 ≤ a4) then G 186 147 [.ref 35, .long a0, ez_fill, .int a1, .int a2] [] (ev_hp I J R T) cz kz else G 186 123 [.ref 35, .long a0, ez_fill, .int a1, .int a2] [] (ev_hp I J R T) cz kz := by
  intro G
  rfl
set_option maxRecDepth 100000 in
theorem mg_r77 {a0 : Int64} {a1 : Int32} {a2 : Int32} : ∀ G : ez_F, fx_up X 1 G 186 147 [.ref 35, .long a0, ez_fill, .int a1, .int a2] [] (ev_hp I J R T) cz kz = some (none, (ev_hp I J R T), cz, kz) := by
  intro G
  rfl
set_option maxRecDepth 100000 in
theorem mg_r78 {a0 : Int64} {a1 : Int32} {a2 : Int32} : ∀ G : ez_F, fx_up X 2 G 186 123 [.ref 35, .long a0, ez_fill, .int a1, .int a2] [] (ev_hp I J R T) cz kz = bif decide (a1 = (0 : Int32)) then G 186 147 [.ref 35, .long a0, ez_fill, .int a1, .int a2] [] (ev_hp I J R T) cz kz else G 186 127 [.ref 35, .long a0, ez_fill, .int a1, .int a2] [] (ev_hp I J R T) cz kz := by
  intro G
  rfl
set_option maxRecDepth 100000 in
theorem mg_r79 {a0 : Int64} {a1 : Int32} {a2 : Int32} : ∀ G : ez_F, fx_up X 6 G 186 127 [.ref 35, .long a0, ez_fill, .int a1, .int a2] [] (ev_hp I J R T) cz kz = G 186 139 [.ref 35, .long a0, ez_fill, .int a1, .int a2] [.int a2, .ref 47, .int a2, .ref 45] (ev_hp I J R T) cz kz := by
  intro G
  rfl
set_option maxRecDepth 100000 in
theorem mg_r80 {a0 : Int64} {a1 : Int32} {a2 : Int32} : ∀ G : ez_F, fx_up X 2 G 186 141 [.ref 35, .long a0, ez_fill, .int a1, .int a2] [] (ev_hp I J R T) cz kz = G 186 114 [.ref 35, .long a0, ez_fill, .int a1, .int (a2 + (1 : Int32))] [] (ev_hp I J R T) cz kz := by
  intro G
  rfl
theorem da_114 {u : Int64} {b s : Int32}
    (H : (((I 35 3) ≤ s → Q none (ev_hp I J R T)) ∧ (¬ ((I 35 3) ≤ s) → ((b = (0 : Int32) → Q none (ev_hp I J R T)) ∧ (¬ (b = (0 : Int32)) → (ev_ix s 3 → (ev_ix s 3 → pw N X 186 114 [.ref 35, .long u, ez_fill, .int b, .int (s + (1 : Int32))] [] (ev_hp I (ev_sJ J 45 (vp_updL (J 45) s.toNatClampNeg (J 47 s.toNatClampNeg))) R T) Q))))))) : pw (N + 1) X 186 114 [.ref 35, .long u, ez_fill, .int b, .int s] [] (ev_hp I J R T) Q := by
  refine pw_seg (by decide) (fun _ _ => mg_r75) ?_
  refine pw_p (pw_if (by decide) (fun _ _ => mg_r76) (fun w1 => ?_) (fun w1 => ?_))
  · have h1 := H.1 w1
    exact pw_p (pw_ret (by decide) (fun _ _ => mg_r77) h1)
  · have h1 := H.2 w1
    refine pw_p (pw_if (by decide) (fun _ _ => mg_r78) (fun w2 => ?_) (fun w2 => ?_))
    · have h2 := h1.1 w2
      exact pw_p (pw_ret (by decide) (fun _ _ => mg_r77) h2)
    · have h2 := h1.2 w2
      refine pw_p (pw_seg (by decide) (fun _ _ => mg_r79) ?_)
      refine pw_p (pw_lald (by rfl) (cx_getJ (show cx_Ds[47]? = some (1, 3, []) from rfl)) (fun w3 => ?_))
      have h3 := h2 w3
      refine pw_p (pw_last (by rfl) (cx_getJ (show cx_Ds[45]? = some (1, 3, []) from rfl)) (cx_setJ (show cx_Ds[45]? = some (1, 3, []) from rfl) _) (fun w3 => ?_))
      have h3 := h3 w3
      refine pw_p (pw_seg (by decide) (fun _ _ => mg_r80) ?_)
      exact h3
set_option maxRecDepth 100000 in
theorem mg_r81 {a0 : Int32} : ∀ G : ez_F, fx_up X 2 G 215 0 [.ref 35, .int a0] [] (ev_hp I J R T) cz kz = G 215 2 [.ref 35, .int a0, .int (0 : Int32)] [] (ev_hp I J R T) cz kz := by
  intro G
  rfl
theorem pc_0 {x : Int32}
    (H : pw N X 215 2 [.ref 35, .int x, .int (0 : Int32)] [] (ev_hp I J R T) Q) : pw (N + 1) X 215 0 [.ref 35, .int x] [] (ev_hp I J R T) Q := by
  refine pw_seg (by decide) (fun _ _ => mg_r81) ?_
  exact H
set_option maxRecDepth 100000 in
theorem mg_r82 {a0 : Int32} {a1 : Int32} : ∀ G : ez_F, fx_up X 3 G 215 2 [.ref 35, .int a0, .int a1] [] (ev_hp I J R T) cz kz = G 215 7 [.ref 35, .int a0, .int a1] [.int (I 35 3), .int a1] (ev_hp I J R T) cz kz := by
  intro G
  rfl
set_option maxRecDepth 100000 in
theorem mg_r83 {a0 : Int32} {a1 : Int32} {a2 : Int32} {a3 : Int32} : ∀ G : ez_F, fx_up X 1 G 215 7 [.ref 35, .int a0, .int a1] [.int a2, .int a3] (ev_hp I J R T) cz kz = bif decide (a2 ≤ a3) then G 215 50 [.ref 35, .int a0, .int a1] [] (ev_hp I J R T) cz kz else G 215 10 [.ref 35, .int a0, .int a1] [] (ev_hp I J R T) cz kz := by
  intro G
  rfl
set_option maxRecDepth 100000 in
theorem mg_r84 {a0 : Int32} {a1 : Int32} : ∀ G : ez_F, fx_up X 1 G 215 50 [.ref 35, .int a0, .int a1] [] (ev_hp I J R T) cz kz = some (none, (ev_hp I J R T), cz, kz) := by
  intro G
  rfl
set_option maxRecDepth 100000 in
theorem mg_r85 {a0 : Int32} {a1 : Int32} : ∀ G : ez_F, fx_up X 12 G 215 10 [.ref 35, .int a0, .int a1] [] (ev_hp I J R T) cz kz = G 215 30 [.ref 35, .int a0, .int a1] [.int a0, .int (3 : Int32), .ref 41, .int ((300 : Int32) * a1), .ref 39, .int a1, .ref 45] (ev_hp I J R T) cz kz := by
  intro G
  rfl
set_option maxRecDepth 100000 in
theorem mg_r86 {a0 : Int32} {a1 : Int32} {a2 : Int32} {a3 : Int32} {a4 : Int32} {a5 : Int32} : ∀ G : ez_F, fx_up X 3 G 215 30 [.ref 35, .int a0, .int a1] [.int a2, .int a3, .ref 41, .int a4, .ref 39, .int a5, .ref 45] (ev_hp I J R T) cz kz = G 215 33 [.ref 35, .int a0, .int a1] [.int ((a3 * a2) + a1), .ref 41, .int a4, .ref 39, .int a5, .ref 45] (ev_hp I J R T) cz kz := by
  intro G
  rfl
set_option maxRecDepth 100000 in
theorem mg_r87 {a0 : Int32} {a1 : Int32} {a2 : Int32} {a3 : Int32} {a4 : Int32} : ∀ G : ez_F, fx_up X 1 G 215 34 [.ref 35, .int a0, .int a1] [.int a2, .int a3, .ref 39, .int a4, .ref 45] (ev_hp I J R T) cz kz = G 215 35 [.ref 35, .int a0, .int a1] [.int (a3 + a2), .ref 39, .int a4, .ref 45] (ev_hp I J R T) cz kz := by
  intro G
  rfl
set_option maxRecDepth 100000 in
theorem mg_r88 {a0 : Int32} {a1 : Int32} : ∀ G : ez_F, fx_up X 4 G 215 37 [.ref 35, .int a0, .int a1] [] (ev_hp I J R T) cz kz = G 215 43 [.ref 35, .int a0, .int a1] [.long (0 : Int64), .int a1, .ref 46] (ev_hp I J R T) cz kz := by
  intro G
  rfl
set_option maxRecDepth 100000 in
theorem mg_r89 {a0 : Int32} {a1 : Int32} : ∀ G : ez_F, fx_up X 2 G 215 44 [.ref 35, .int a0, .int a1] [] (ev_hp I J R T) cz kz = G 215 2 [.ref 35, .int a0, .int (a1 + (1 : Int32))] [] (ev_hp I J R T) cz kz := by
  intro G
  rfl
theorem pc_2 {x s : Int32}
    (H : (((I 35 3) ≤ s → Q none (ev_hp I J R T)) ∧ (¬ ((I 35 3) ≤ s) → (ev_ix (((3 : Int32) * x) + s) 30003 → (ev_ix (((300 : Int32) * s) + (I 41 (((3 : Int32) * x) + s).toNatClampNeg)) 900 → (ev_ix s 3 → (ev_ix s 3 → pw N X 215 2 [.ref 35, .int x, .int (s + (1 : Int32))] [] (ev_hp I (ev_sJ (ev_sJ J 45 (vp_updL (J 45) s.toNatClampNeg (J 39 (((300 : Int32) * s) + (I 41 (((3 : Int32) * x) + s).toNatClampNeg)).toNatClampNeg))) 46 (vp_updL (J 46) s.toNatClampNeg (0 : Int64))) R T) Q))))))) : pw (N + 1) X 215 2 [.ref 35, .int x, .int s] [] (ev_hp I J R T) Q := by
  refine pw_seg (by decide) (fun _ _ => mg_r82) ?_
  refine pw_p (pw_if (by decide) (fun _ _ => mg_r83) (fun w1 => ?_) (fun w1 => ?_))
  · have h1 := H.1 w1
    exact pw_p (pw_ret (by decide) (fun _ _ => mg_r84) h1)
  · have h1 := H.2 w1
    refine pw_p (pw_seg (by decide) (fun _ _ => mg_r85) ?_)
    refine pw_p (pw_seg (by decide) (fun _ _ => mg_r86) ?_)
    refine pw_p (pw_iald (by rfl) (cx_getI (show cx_Ds[41]? = some (0, 30003, []) from rfl)) (fun w2 => ?_))
    have h2 := h1 w2
    refine pw_p (pw_seg (by decide) (fun _ _ => mg_r87) ?_)
    refine pw_p (pw_lald (by rfl) (cx_getJ (show cx_Ds[39]? = some (1, 900, []) from rfl)) (fun w2 => ?_))
    have h2 := h2 w2
    refine pw_p (pw_last (by rfl) (cx_getJ (show cx_Ds[45]? = some (1, 3, []) from rfl)) (cx_setJ (show cx_Ds[45]? = some (1, 3, []) from rfl) _) (fun w2 => ?_))
    have h2 := h2 w2
    refine pw_p (pw_seg (by decide) (fun _ _ => mg_r88) ?_)
    refine pw_p (pw_last (by rfl) (cx_getJ (show cx_Ds[46]? = some (1, 3, []) from rfl)) (cx_setJ (show cx_Ds[46]? = some (1, 3, []) from rfl) _) (fun w2 => ?_))
    have h2 := h2 w2
    refine pw_p (pw_seg (by decide) (fun _ _ => mg_r89) ?_)
    exact h2
set_option maxRecDepth 100000 in
theorem mg_r90 {a0 : Int32} {a1 : Int32} : ∀ G : ez_F, fx_up X 3 G 192 0 [.ref 35, .int a0, .int a1] [] (ev_hp I J R T) cz kz = ev_C G 215 [.ref 35, .int a0] (ev_hp I J R T) fun r h1 c1 k1 => G 192 5 [.ref 35, .int a0, .int a1] (r.toList ++ []) h1 (cz + c1) (kz + k1) := by
  intro G
  rfl
theorem go_0 {x y : Int32}
    (H : (∃ Q1 : pw_Q, pe N X 215 [.ref 35, .int x] (ev_hp I J R T) Q1 ∧ ∀ (r : Option Value) (h1 : ez_H), Q1 r h1 → pw N X 192 5 [.ref 35, .int x, .int y] (r.toList ++ []) h1 Q)) : pw (N + 1) X 192 0 [.ref 35, .int x, .int y] [] (ev_hp I J R T) Q := by
  obtain ⟨Q1, hc, hk⟩ := H
  exact pw_call (by decide) (fun _ _ => mg_r90) hc hk
set_option maxRecDepth 100000 in
theorem mg_r91 {a0 : Int32} {a1 : Int32} : ∀ G : ez_F, fx_up X 2 G 192 5 [.ref 35, .int a0, .int a1] [] (ev_hp I J R T) cz kz = G 192 7 [.ref 35, .int a0, .int a1, .int (0 : Int32)] [] (ev_hp I J R T) cz kz := by
  intro G
  rfl
theorem go_5 {x y : Int32}
    (H : pw N X 192 7 [.ref 35, .int x, .int y, .int (0 : Int32)] [] (ev_hp I J R T) Q) : pw (N + 1) X 192 5 [.ref 35, .int x, .int y] [] (ev_hp I J R T) Q := by
  refine pw_seg (by decide) (fun _ _ => mg_r91) ?_
  exact H
set_option maxRecDepth 100000 in
theorem mg_r92 {a0 : Int32} {a1 : Int32} {a2 : Int32} : ∀ G : ez_F, fx_up X 3 G 192 7 [.ref 35, .int a0, .int a1, .int a2] [] (ev_hp I J R T) cz kz = bif decide (a1 ≤ a2) then G 192 103 [.ref 35, .int a0, .int a1, .int a2] [] (ev_hp I J R T) cz kz else G 192 12 [.ref 35, .int a0, .int a1, .int a2] [] (ev_hp I J R T) cz kz := by
  intro G
  rfl
set_option maxRecDepth 100000 in
theorem mg_r93 {a0 : Int32} {a1 : Int32} {a2 : Int32} : ∀ G : ez_F, fx_up X 1 G 192 103 [.ref 35, .int a0, .int a1, .int a2] [] (ev_hp I J R T) cz kz = some (none, (ev_hp I J R T), cz, kz) := by
  intro G
  rfl
set_option maxRecDepth 100000 in
theorem mg_r94 {a0 : Int32} {a1 : Int32} {a2 : Int32} : ∀ G : ez_F, fx_up X 3 G 192 12 [.ref 35, .int a0, .int a1, .int a2] [] (ev_hp I J R T) cz kz = G 192 17 [.ref 35, .int a0, .int a1, .int a2] [.int a2, .ref 43] (ev_hp I J R T) cz kz := by
  intro G
  rfl
set_option maxRecDepth 100000 in
theorem mg_r95 {a0 : Int32} {a1 : Int32} {a2 : Int32} {a3 : Int32} : ∀ G : ez_F, fx_up X 2 G 192 18 [.ref 35, .int a0, .int a1, .int a2] [.int a3] (ev_hp I J R T) cz kz = bif decide (¬ a3 = (-1 : Int32)) then G 192 41 [.ref 35, .int a0, .int a1, .int a2] [] (ev_hp I J R T) cz kz else G 192 22 [.ref 35, .int a0, .int a1, .int a2] [] (ev_hp I J R T) cz kz := by
  intro G
  rfl
set_option maxRecDepth 100000 in
theorem mg_r96 {a0 : Int32} {a1 : Int32} {a2 : Int32} : ∀ G : ez_F, fx_up X 7 G 192 41 [.ref 35, .int a0, .int a1, .int a2] [] (ev_hp I J R T) cz kz = G 192 52 [.ref 35, .int a0, .int a1, .int a2] [.int a2, .ref 42, .ref 35, .int a2, .ref 48] (ev_hp I J R T) cz kz := by
  intro G
  rfl
set_option maxRecDepth 100000 in
theorem mg_r97 {a0 : Int32} {a1 : Int32} {a2 : Int32} {a3 : Int32} {a4 : Int32} : ∀ G : ez_F, fx_up X 1 G 192 53 [.ref 35, .int a0, .int a1, .int a2] [.int a3, .ref 35, .int a4, .ref 48] (ev_hp I J R T) cz kz = ev_C G 176 [.ref 35, .int a3] (ev_hp I J R T) fun r h1 c1 k1 => G 192 56 [.ref 35, .int a0, .int a1, .int a2] (r.toList ++ [.int a4, .ref 48]) h1 (cz + c1) (kz + k1) := by
  intro G
  rfl
set_option maxRecDepth 100000 in
theorem mg_r98 {a0 : Int32} {a1 : Int32} {a2 : Int32} : ∀ G : ez_F, fx_up X 7 G 192 22 [.ref 35, .int a0, .int a1, .int a2] [] (ev_hp I J R T) cz kz = G 192 33 [.ref 35, .int a0, .int a1, .int a2] [.int a2, .ref 42, .ref 35, .int a2, .ref 48] (ev_hp I J R T) cz kz := by
  intro G
  rfl
set_option maxRecDepth 100000 in
theorem mg_r99 {a0 : Int32} {a1 : Int32} {a2 : Int32} {a3 : Int32} {a4 : Int32} : ∀ G : ez_F, fx_up X 1 G 192 34 [.ref 35, .int a0, .int a1, .int a2] [.int a3, .ref 35, .int a4, .ref 48] (ev_hp I J R T) cz kz = ev_C G 176 [.ref 35, .int a3] (ev_hp I J R T) fun r h1 c1 k1 => G 192 37 [.ref 35, .int a0, .int a1, .int a2] (r.toList ++ [.int a4, .ref 48]) h1 (cz + c1) (kz + k1) := by
  intro G
  rfl
theorem go_7 {x y c : Int32}
    (H : ((y ≤ c → Q none (ev_hp I J R T)) ∧ (¬ (y ≤ c) → (ev_ix c 30 → ((¬ (I 43 c.toNatClampNeg) = (-1 : Int32) → (ev_ix c 30 → (∃ Q1 : pw_Q, pe N X 176 [.ref 35, .int (I 42 c.toNatClampNeg)] (ev_hp I J R T) Q1 ∧ ∀ (r : Option Value) (h1 : ez_H), Q1 r h1 → pw N X 192 56 [.ref 35, .int x, .int y, .int c] (r.toList ++ [.int c, .ref 48]) h1 Q))) ∧ (¬ (¬ (I 43 c.toNatClampNeg) = (-1 : Int32)) → (ev_ix c 30 → (∃ Q1 : pw_Q, pe N X 176 [.ref 35, .int (I 42 c.toNatClampNeg)] (ev_hp I J R T) Q1 ∧ ∀ (r : Option Value) (h1 : ez_H), Q1 r h1 → pw N X 192 37 [.ref 35, .int x, .int y, .int c] (r.toList ++ [.int c, .ref 48]) h1 Q)))))))) : pw (N + 1) X 192 7 [.ref 35, .int x, .int y, .int c] [] (ev_hp I J R T) Q := by
  refine pw_if (by decide) (fun _ _ => mg_r92) (fun w1 => ?_) (fun w1 => ?_)
  · have h1 := H.1 w1
    exact pw_p (pw_ret (by decide) (fun _ _ => mg_r93) h1)
  · have h1 := H.2 w1
    refine pw_p (pw_seg (by decide) (fun _ _ => mg_r94) ?_)
    refine pw_p (pw_iald (by rfl) (cx_getI (show cx_Ds[43]? = some (0, 30, []) from rfl)) (fun w2 => ?_))
    have h2 := h1 w2
    refine pw_p (pw_if (by decide) (fun _ _ => mg_r95) (fun w2 => ?_) (fun w2 => ?_))
    · have h2 := h2.1 w2
      refine pw_p (pw_seg (by decide) (fun _ _ => mg_r96) ?_)
      refine pw_p (pw_iald (by rfl) (cx_getI (show cx_Ds[42]? = some (0, 30, []) from rfl)) (fun w3 => ?_))
      have h3 := h2 w3
      obtain ⟨Q1, hc, hk⟩ := h3
      exact pw_p (pw_call (by decide) (fun _ _ => mg_r97) hc hk)
    · have h2 := h2.2 w2
      refine pw_p (pw_seg (by decide) (fun _ _ => mg_r98) ?_)
      refine pw_p (pw_iald (by rfl) (cx_getI (show cx_Ds[42]? = some (0, 30, []) from rfl)) (fun w3 => ?_))
      have h3 := h2 w3
      obtain ⟨Q1, hc, hk⟩ := h3
      exact pw_p (pw_call (by decide) (fun _ _ => mg_r99) hc hk)
set_option maxRecDepth 100000 in
theorem mg_r100 {a0 : Int32} {a1 : Int32} {a2 : Int32} : ∀ G : ez_F, fx_up X 1 G 192 38 [.ref 35, .int a0, .int a1, .int a2] [] (ev_hp I J R T) cz kz = G 192 84 [.ref 35, .int a0, .int a1, .int a2] [] (ev_hp I J R T) cz kz := by
  intro G
  rfl
theorem go_37 {x y c v : Int32}
    (H : (ev_ix c 31 → pw N X 192 84 [.ref 35, .int x, .int y, .int c] [] (ev_hp (ev_sI I 48 (upd (I 48) c.toNatClampNeg v)) J R T) Q)) : pw (N + 1) X 192 37 [.ref 35, .int x, .int y, .int c] [.int v, .int c, .ref 48] (ev_hp I J R T) Q := by
  refine pw_iast (by rfl) (cx_getI (show cx_Ds[48]? = some (0, 31, []) from rfl)) (cx_setI (show cx_Ds[48]? = some (0, 31, []) from rfl) _) (fun w1 => ?_)
  have h1 := H w1
  refine pw_p (pw_seg (by decide) (fun _ _ => mg_r100) ?_)
  exact h1
set_option maxRecDepth 100000 in
theorem mg_r101 {a0 : Int32} {a1 : Int32} {a2 : Int32} {a3 : Int32} {a4 : Int32} : ∀ G : ez_F, fx_up X 1 G 192 56 [.ref 35, .int a0, .int a1, .int a2] [.int a3, .int a4, .ref 48] (ev_hp I J R T) cz kz = bif decide (a3 ≤ (0 : Int32)) then G 192 63 [.ref 35, .int a0, .int a1, .int a2] [.int a4, .ref 48] (ev_hp I J R T) cz kz else G 192 59 [.ref 35, .int a0, .int a1, .int a2] [.int a4, .ref 48] (ev_hp I J R T) cz kz := by
  intro G
  rfl
set_option maxRecDepth 100000 in
theorem mg_r102 {a0 : Int32} {a1 : Int32} {a2 : Int32} {a3 : Int32} : ∀ G : ez_F, fx_up X 5 G 192 63 [.ref 35, .int a0, .int a1, .int a2] [.int a3, .ref 48] (ev_hp I J R T) cz kz = G 192 70 [.ref 35, .int a0, .int a1, .int a2] [.int a2, .ref 43, .ref 35, .int (0 : Int32), .int a3, .ref 48] (ev_hp I J R T) cz kz := by
  intro G
  rfl
set_option maxRecDepth 100000 in
theorem mg_r103 {a0 : Int32} {a1 : Int32} {a2 : Int32} {a3 : Int32} {a4 : Int32} {a5 : Int32} : ∀ G : ez_F, fx_up X 1 G 192 71 [.ref 35, .int a0, .int a1, .int a2] [.int a3, .ref 35, .int a4, .int a5, .ref 48] (ev_hp I J R T) cz kz = ev_C G 176 [.ref 35, .int a3] (ev_hp I J R T) fun r h1 c1 k1 => G 192 74 [.ref 35, .int a0, .int a1, .int a2] (r.toList ++ [.int a4, .int a5, .ref 48]) h1 (cz + c1) (kz + k1) := by
  intro G
  rfl
set_option maxRecDepth 100000 in
theorem mg_r104 {a0 : Int32} {a1 : Int32} {a2 : Int32} {a3 : Int32} : ∀ G : ez_F, fx_up X 6 G 192 59 [.ref 35, .int a0, .int a1, .int a2] [.int a3, .ref 48] (ev_hp I J R T) cz kz = G 192 70 [.ref 35, .int a0, .int a1, .int a2] [.int a2, .ref 43, .ref 35, .int (1 : Int32), .int a3, .ref 48] (ev_hp I J R T) cz kz := by
  intro G
  rfl
theorem go_56 {x y c v : Int32}
    (H : ((v ≤ (0 : Int32) → (ev_ix c 30 → (∃ Q1 : pw_Q, pe N X 176 [.ref 35, .int (I 43 c.toNatClampNeg)] (ev_hp I J R T) Q1 ∧ ∀ (r : Option Value) (h1 : ez_H), Q1 r h1 → pw N X 192 74 [.ref 35, .int x, .int y, .int c] (r.toList ++ [.int (0 : Int32), .int c, .ref 48]) h1 Q))) ∧ (¬ (v ≤ (0 : Int32)) → (ev_ix c 30 → (∃ Q1 : pw_Q, pe N X 176 [.ref 35, .int (I 43 c.toNatClampNeg)] (ev_hp I J R T) Q1 ∧ ∀ (r : Option Value) (h1 : ez_H), Q1 r h1 → pw N X 192 74 [.ref 35, .int x, .int y, .int c] (r.toList ++ [.int (1 : Int32), .int c, .ref 48]) h1 Q))))) : pw (N + 1) X 192 56 [.ref 35, .int x, .int y, .int c] [.int v, .int c, .ref 48] (ev_hp I J R T) Q := by
  refine pw_if (by decide) (fun _ _ => mg_r101) (fun w1 => ?_) (fun w1 => ?_)
  · have h1 := H.1 w1
    refine pw_p (pw_seg (by decide) (fun _ _ => mg_r102) ?_)
    refine pw_p (pw_iald (by rfl) (cx_getI (show cx_Ds[43]? = some (0, 30, []) from rfl)) (fun w2 => ?_))
    have h2 := h1 w2
    obtain ⟨Q1, hc, hk⟩ := h2
    exact pw_p (pw_call (by decide) (fun _ _ => mg_r103) hc hk)
  · have h1 := H.2 w1
    refine pw_p (pw_seg (by decide) (fun _ _ => mg_r104) ?_)
    refine pw_p (pw_iald (by rfl) (cx_getI (show cx_Ds[43]? = some (0, 30, []) from rfl)) (fun w2 => ?_))
    have h2 := h1 w2
    obtain ⟨Q1, hc, hk⟩ := h2
    exact pw_p (pw_call (by decide) (fun _ _ => mg_r103) hc hk)
set_option maxRecDepth 100000 in
theorem mg_r105 {a0 : Int32} {a1 : Int32} {a2 : Int32} {a3 : Int32} {a4 : Int32} {a5 : Int32} : ∀ G : ez_F, fx_up X 1 G 192 74 [.ref 35, .int a0, .int a1, .int a2] [.int a3, .int a4, .int a5, .ref 48] (ev_hp I J R T) cz kz = bif decide (a3 ≤ (0 : Int32)) then G 192 81 [.ref 35, .int a0, .int a1, .int a2] [.int a4, .int a5, .ref 48] (ev_hp I J R T) cz kz else G 192 77 [.ref 35, .int a0, .int a1, .int a2] [.int a4, .int a5, .ref 48] (ev_hp I J R T) cz kz := by
  intro G
  rfl
set_option maxRecDepth 100000 in
theorem mg_r106 {a0 : Int32} {a1 : Int32} {a2 : Int32} {a3 : Int32} {a4 : Int32} : ∀ G : ez_F, fx_up X 2 G 192 81 [.ref 35, .int a0, .int a1, .int a2] [.int a3, .int a4, .ref 48] (ev_hp I J R T) cz kz = G 192 83 [.ref 35, .int a0, .int a1, .int a2] [.int (a3 + (0 : Int32)), .int a4, .ref 48] (ev_hp I J R T) cz kz := by
  intro G
  rfl
set_option maxRecDepth 100000 in
theorem mg_r107 {a0 : Int32} {a1 : Int32} {a2 : Int32} {a3 : Int32} {a4 : Int32} : ∀ G : ez_F, fx_up X 3 G 192 77 [.ref 35, .int a0, .int a1, .int a2] [.int a3, .int a4, .ref 48] (ev_hp I J R T) cz kz = G 192 83 [.ref 35, .int a0, .int a1, .int a2] [.int (a3 + (1 : Int32)), .int a4, .ref 48] (ev_hp I J R T) cz kz := by
  intro G
  rfl
theorem go_74 {x y c v w : Int32}
    (H : ((v ≤ (0 : Int32) → (ev_ix c 31 → pw N X 192 84 [.ref 35, .int x, .int y, .int c] [] (ev_hp (ev_sI I 48 (upd (I 48) c.toNatClampNeg (w + (0 : Int32)))) J R T) Q)) ∧ (¬ (v ≤ (0 : Int32)) → (ev_ix c 31 → pw N X 192 84 [.ref 35, .int x, .int y, .int c] [] (ev_hp (ev_sI I 48 (upd (I 48) c.toNatClampNeg (w + (1 : Int32)))) J R T) Q)))) : pw (N + 1) X 192 74 [.ref 35, .int x, .int y, .int c] [.int v, .int w, .int c, .ref 48] (ev_hp I J R T) Q := by
  refine pw_if (by decide) (fun _ _ => mg_r105) (fun w1 => ?_) (fun w1 => ?_)
  · have h1 := H.1 w1
    refine pw_p (pw_seg (by decide) (fun _ _ => mg_r106) ?_)
    refine pw_p (pw_iast (by rfl) (cx_getI (show cx_Ds[48]? = some (0, 31, []) from rfl)) (cx_setI (show cx_Ds[48]? = some (0, 31, []) from rfl) _) (fun w2 => ?_))
    have h2 := h1 w2
    exact h2
  · have h1 := H.2 w1
    refine pw_p (pw_seg (by decide) (fun _ _ => mg_r107) ?_)
    refine pw_p (pw_iast (by rfl) (cx_getI (show cx_Ds[48]? = some (0, 31, []) from rfl)) (cx_setI (show cx_Ds[48]? = some (0, 31, []) from rfl) _) (fun w2 => ?_))
    have h2 := h1 w2
    exact h2
set_option maxRecDepth 100000 in
theorem mg_r108 {a0 : Int32} {a1 : Int32} {a2 : Int32} : ∀ G : ez_F, fx_up X 3 G 192 84 [.ref 35, .int a0, .int a1, .int a2] [] (ev_hp I J R T) cz kz = G 192 89 [.ref 35, .int a0, .int a1, .int a2] [.int a2, .ref 48] (ev_hp I J R T) cz kz := by
  intro G
  rfl
set_option maxRecDepth 100000 in
theorem mg_r109 {a0 : Int32} {a1 : Int32} {a2 : Int32} {a3 : Int32} : ∀ G : ez_F, fx_up X 1 G 192 90 [.ref 35, .int a0, .int a1, .int a2] [.int a3] (ev_hp I J R T) cz kz = bif decide (¬ a3 = (0 : Int32)) then G 192 97 [.ref 35, .int a0, .int a1, .int a2] [] (ev_hp I J R T) cz kz else G 192 93 [.ref 35, .int a0, .int a1, .int a2] [] (ev_hp I J R T) cz kz := by
  intro G
  rfl
set_option maxRecDepth 100000 in
theorem mg_r110 {a0 : Int32} {a1 : Int32} {a2 : Int32} : ∀ G : ez_F, fx_up X 2 G 192 93 [.ref 35, .int a0, .int a1, .int a2] [] (ev_hp I J R T) cz kz = ev_C G 186 [.ref 35] (ev_hp I J R T) fun r h1 c1 k1 => G 192 97 [.ref 35, .int a0, .int a1, .int a2] (r.toList ++ []) h1 (cz + c1) (kz + k1) := by
  intro G
  rfl
theorem go_84 {x y c : Int32}
    (H : (ev_ix c 31 → ((¬ (I 48 c.toNatClampNeg) = (0 : Int32) → pw N X 192 97 [.ref 35, .int x, .int y, .int c] [] (ev_hp I J R T) Q) ∧ (¬ (¬ (I 48 c.toNatClampNeg) = (0 : Int32)) → (∃ Q1 : pw_Q, pe N X 186 [.ref 35] (ev_hp I J R T) Q1 ∧ ∀ (r : Option Value) (h1 : ez_H), Q1 r h1 → pw N X 192 97 [.ref 35, .int x, .int y, .int c] (r.toList ++ []) h1 Q))))) : pw (N + 1) X 192 84 [.ref 35, .int x, .int y, .int c] [] (ev_hp I J R T) Q := by
  refine pw_seg (by decide) (fun _ _ => mg_r108) ?_
  refine pw_p (pw_iald (by rfl) (cx_getI (show cx_Ds[48]? = some (0, 31, []) from rfl)) (fun w1 => ?_))
  have h1 := H w1
  refine pw_p (pw_if (by decide) (fun _ _ => mg_r109) (fun w1 => ?_) (fun w1 => ?_))
  · have h1 := h1.1 w1
    exact h1
  · have h1 := h1.2 w1
    obtain ⟨Q1, hc, hk⟩ := h1
    exact pw_p (pw_call (by decide) (fun _ _ => mg_r110) hc hk)
set_option maxRecDepth 100000 in
theorem mg_r111 {a0 : Int32} {a1 : Int32} {a2 : Int32} : ∀ G : ez_F, fx_up X 2 G 192 97 [.ref 35, .int a0, .int a1, .int a2] [] (ev_hp I J R T) cz kz = G 192 7 [.ref 35, .int a0, .int a1, .int (a2 + (1 : Int32))] [] (ev_hp I J R T) cz kz := by
  intro G
  rfl
theorem go_97 {x y c : Int32}
    (H : pw N X 192 7 [.ref 35, .int x, .int y, .int (c + (1 : Int32))] [] (ev_hp I J R T) Q) : pw (N + 1) X 192 97 [.ref 35, .int x, .int y, .int c] [] (ev_hp I J R T) Q := by
  refine pw_seg (by decide) (fun _ _ => mg_r111) ?_
  exact H
end
/-! what one cell of a set is -/
theorem and_bt (x : Int64) {c : Nat} (hc : c < 64) : x &&& cell1 c = bif kb x c then cell1 c else 0 := by
  refine kb_ext fun n _ => ?_
  rw [kb_and, cell1, kb_one hc]
  by_cases h : n = c
  · subst h
    cases hx : kb x n
    · simp only [cond_false, Bool.false_and, kb_0]
    · simp only [cond_true, Bool.true_and, kb_one hc]
  · rw [decide_eq_false h, Bool.and_false]
    cases hx : kb x c
    · simp only [cond_false, kb_0]
    · simp only [cond_true, kb_one hc, decide_eq_false h]
theorem pc_bt {c : Nat} (hc : c < 64) : pcJ (cell1 c) = 1 := by
  have h := pcJ_or 0 hc
  rw [Int64.zero_or, pcJ_0, kb_0] at h
  exact h
theorem pc_bt2 {a b : Nat} (ha : a < 64) (hb : b < 64) (h : a ≠ b) : pcJ (cell1 a ||| cell1 b) = 2 := by
  have h1 := pcJ_or (cell1 a) hb
  rw [pc_bt ha, cell1, kb_one ha, decide_eq_false (fun e : b = a => h e.symm)] at h1
  exact h1
theorem pc_and (x : Int64) {c : Nat} (hc : c < 64) : pcJ (x &&& cell1 c) = (bif kb x c then 1 else 0) := by
  rw [and_bt x hc]
  cases kb x c
  · exact pcJ_0
  · exact pc_bt hc
theorem pc_and2 (x : Int64) {a b : Nat} (ha : a < 64) (hb : b < 64) (h : a ≠ b) : pcJ (x &&& (cell1 a ||| cell1 b)) = pcJ (x &&& cell1 a) + pcJ (x &&& cell1 b) := by
  have e : x &&& (cell1 a ||| cell1 b) = (x &&& cell1 a) ||| (x &&& cell1 b) := kb_ext fun n _ => by
    simp only [kb_and, kb_or]
    cases kb x n <;> cases kb (cell1 a) n <;> cases kb (cell1 b) n <;> rfl
  rw [e, and_bt x ha, and_bt x hb]
  cases kb x a <;> cases kb x b
  · show pcJ (0 ||| 0) = pcJ 0 + pcJ 0
    rw [Int64.or_zero, pcJ_0]
  · show pcJ (0 ||| cell1 b) = pcJ 0 + pcJ (cell1 b)
    rw [Int64.zero_or, pcJ_0, Nat.zero_add]
  · show pcJ (cell1 a ||| 0) = pcJ (cell1 a) + pcJ 0
    rw [Int64.or_zero, pcJ_0, Nat.add_zero]
  · show pcJ (cell1 a ||| cell1 b) = pcJ (cell1 a) + pcJ (cell1 b)
    rw [pc_bt2 ha hb h, pc_bt ha, pc_bt hb]
/-- no two have a cell in common -/
noncomputable def Dj (P : Nat → Int64) : Prop := ∀ s s', s < 3 → s' < 3 → s ≠ s' → P s &&& P s' = 0
theorem Dj_kb {P : Nat → Int64} (h : Dj P) {s s' c : Nat} (hs : s < 3) (hs' : s' < 3) (hn : s ≠ s') (hk : kb (P s) c = true) : kb (P s') c = false := by
  have h1 := h s s' hs hs' hn
  have h2 : kb (P s &&& P s') c = kb 0 c := by rw [h1]
  rw [kb_and, hk, kb_0, Bool.true_and] at h2
  exact h2
/-- nothing lies there -/
theorem pl_none {sr : Int32} {P H : Nat → Int64} {c : Nat} (hc : c < 64) (h : ∀ s, s < 3 → kb (P s) c = false) : pl_a sr P H (cell1 c) = 0 ∧ pl_n P (cell1 c) 3 = 0 ∧ ∀ s, s < 3 → pl_h P H (cell1 c) s = H s := by
  have e : ∀ s, s < 3 → P s &&& cell1 c = 0 := fun s hs => by
    rw [and_bt _ hc, h s hs]
    rfl
  have hh : ∀ s, s < 3 → pl_h P H (cell1 c) s = H s := fun s hs => by
    unfold pl_h
    rw [e s hs]
    exact Int64.or_zero
  have hn : pl_n P (cell1 c) 3 = 0 := by
    show ((0 + pcJ (P 0 &&& cell1 c)) + pcJ (P 1 &&& cell1 c)) + pcJ (P 2 &&& cell1 c) = 0
    rw [e 0 (by decide), e 1 (by decide), e 2 (by decide), pcJ_0]
  have hk : ∀ s, s < 3 → pl_k P H (cell1 c) s = false := fun s hs => by
    unfold pl_k
    exact decide_eq_false fun z => z.1 (hh s hs)
  refine ⟨?_, hn, hh⟩
  unfold pl_a
  rw [show pl_u P H (cell1 c) 3 = false from by
    show ((false || pl_k P H (cell1 c) 0) || pl_k P H (cell1 c) 1 || pl_k P H (cell1 c) 2) = false
    rw [hk 0 (by decide), hk 1 (by decide), hk 2 (by decide)]
    rfl]
  exact hn
/-- one ship lies there -/
theorem pl_one {sr : Int32} {P H : Nat → Int64} {c s : Nat} (hc : c < 64) (hs : s < 3) (hD : Dj P) (h : kb (P s) c = true) : pl_a sr P H (cell1 c) = (bif decide (sr = 1) && (!kb (H s) c && decide (H s ||| cell1 c = P s)) then 2 else 1) ∧ pl_n P (cell1 c) 3 = 1 ∧ ∀ s', s' < 3 → pl_h P H (cell1 c) s' = if s' = s then H s ||| cell1 c else H s' := by
  have e : ∀ s', s' < 3 → P s' &&& cell1 c = if s' = s then cell1 c else 0 := fun s' hs' => by
    rw [and_bt _ hc]
    by_cases e : s' = s
    · rw [e, h, if_pos rfl]
      rfl
    · rw [Dj_kb hD hs hs' (fun z => e z.symm) h, if_neg e]
      rfl
  have hh : ∀ s', s' < 3 → pl_h P H (cell1 c) s' = if s' = s then H s ||| cell1 c else H s' := fun s' hs' => by
    unfold pl_h
    rw [e s' hs']
    by_cases e : s' = s
    · rw [if_pos e, if_pos e, e]
    · rw [if_neg e, if_neg e]
      exact Int64.or_zero
  have hn : pl_n P (cell1 c) 3 = 1 := by
    show ((0 + pcJ (P 0 &&& cell1 c)) + pcJ (P 1 &&& cell1 c)) + pcJ (P 2 &&& cell1 c) = 1
    rw [e 0 (by decide), e 1 (by decide), e 2 (by decide)]
    rcases (show s = 0 ∨ s = 1 ∨ s = 2 by omega) with rfl | rfl | rfl
    · rw [if_pos rfl, if_neg (by decide), if_neg (by decide), pc_bt hc, pcJ_0]
    · rw [if_neg (by decide), if_pos rfl, if_neg (by decide), pc_bt hc, pcJ_0]
    · rw [if_neg (by decide), if_neg (by decide), if_pos rfl, pc_bt hc, pcJ_0]
  have hnew : (¬ H s ||| cell1 c = H s) ↔ kb (H s) c = false := by
    constructor
    · intro z
      cases hk : kb (H s) c
      · rfl
      · refine absurd (kb_ext fun n _ => ?_) z
        rw [kb_or, cell1, kb_one hc]
        by_cases en : n = c
        · rw [en, hk]
          rfl
        · rw [decide_eq_false en, Bool.or_false]
    · intro hk z
      have h2 : kb (H s ||| cell1 c) c = kb (H s) c := by rw [z]
      rw [kb_or, cell1, kb_one hc, hk, decide_eq_true rfl] at h2
      cases h2
  have hk : ∀ s', s' < 3 → pl_k P H (cell1 c) s' = (decide (s' = s) && (!kb (H s) c && decide (H s ||| cell1 c = P s))) := fun s' hs' => by
    unfold pl_k
    rw [hh s' hs']
    by_cases e : s' = s
    · rw [if_pos e, e, decide_eq_true rfl, Bool.true_and]
      cases hk : kb (H s) c
      · rw [Bool.not_false, Bool.true_and]
        exact decide_eq_decide.mpr ⟨fun z => z.2, fun z => ⟨hnew.mpr hk, z⟩⟩
      · rw [Bool.not_true, Bool.false_and]
        refine decide_eq_false fun z => ?_
        rw [hnew.mp z.1] at hk
        cases hk
    · rw [if_neg e, decide_eq_false e, Bool.false_and]
      exact decide_eq_false fun z => z.1 rfl
  refine ⟨?_, hn, hh⟩
  have hu : pl_u P H (cell1 c) 3 = (!kb (H s) c && decide (H s ||| cell1 c = P s)) := by
    show ((false || pl_k P H (cell1 c) 0) || pl_k P H (cell1 c) 1 || pl_k P H (cell1 c) 2) = _
    rw [hk 0 (by decide), hk 1 (by decide), hk 2 (by decide)]
    rcases (show s = 0 ∨ s = 1 ∨ s = 2 by omega) with rfl | rfl | rfl
    · simp
    · simp
    · simp
  unfold pl_a
  rw [hu, pc_bt hc, hn, decide_eq_true rfl, Bool.true_and, Bool.and_comm]
/-- two cells one behind the other -/
theorem pl_two {sr : Int32} {P H : Nat → Int64} {a b : Nat} (ha : a < 64) (hb : b < 64) (hab : a ≠ b) : pl_a sr P H (cell1 a ||| cell1 b) = pl_n P (cell1 a) 3 + pl_n P (cell1 b) 3 ∧ ∀ s, pl_h P H (cell1 a ||| cell1 b) s = pl_h P (pl_h P H (cell1 a)) (cell1 b) s := by
  constructor
  · unfold pl_a
    rw [pc_bt2 ha hb hab, show decide ((2 : Nat) = 1) = false from rfl, Bool.false_and, Bool.and_false]
    show ((0 + pcJ (P 0 &&& (cell1 a ||| cell1 b))) + pcJ (P 1 &&& (cell1 a ||| cell1 b))) + pcJ (P 2 &&& (cell1 a ||| cell1 b)) = (((0 + pcJ (P 0 &&& cell1 a)) + pcJ (P 1 &&& cell1 a)) + pcJ (P 2 &&& cell1 a)) + (((0 + pcJ (P 0 &&& cell1 b)) + pcJ (P 1 &&& cell1 b)) + pcJ (P 2 &&& cell1 b))
    rw [pc_and2 _ ha hb hab, pc_and2 _ ha hb hab, pc_and2 _ ha hb hab]
    omega
  · intro s
    unfold pl_h
    refine kb_ext fun n _ => ?_
    simp only [kb_or, kb_and]
    cases kb (H s) n <;> cases kb (P s) n <;> cases kb (cell1 a) n <;> cases kb (cell1 b) n <;> rfl
/-- whether a call of one cell hits -/
theorem pl_ht1 {sr : Int32} {P H : Nat → Int64} {c : Nat} (hc : c < 64) (hD : Dj P) : pl_n P (cell1 c) 3 ≤ 1 ∧ (pl_a sr P H (cell1 c) = 0 ↔ pl_n P (cell1 c) 3 = 0) ∧ pl_a sr P H (cell1 c) ≤ 2 := by
  by_cases h : ∃ s, s < 3 ∧ kb (P s) c = true
  · obtain ⟨s, hs, h⟩ := h
    obtain ⟨h1, h2, -⟩ := pl_one (sr := sr) (H := H) hc hs hD h
    rw [h1, h2]
    refine ⟨Nat.le_refl 1, ?_, ?_⟩
    · cases (decide (sr = 1) && (!kb (H s) c && decide (H s ||| cell1 c = P s)))
      · simp
      · simp
    · cases (decide (sr = 1) && (!kb (H s) c && decide (H s ||| cell1 c = P s)))
      · simp
      · simp
  · obtain ⟨h1, h2, -⟩ := pl_none (sr := sr) (H := H) hc (fun s hs => by
      cases hz : kb (P s) c
      · rfl
      · exact absurd ⟨s, hs, hz⟩ h)
    rw [h1, h2]
    exact ⟨by omega, Iff.rfl, by omega⟩
section
variable {N : Nat} {X : ez_X} {I : Nat → Nat → Int32} {J : Nat → Nat → Int64} {R : Nat → Nat} {T : List ez_C} {x y : Int32} {ns : Nat} {P H : Nat → Int64} {z : Int64}
theorem pe_mcount2 : pe N X 179 [.ref 35] (ev_hp I J R T) (fun r h => r = some (.int (I 35 0 * I 35 1)) ∧ h = ev_hp I J R T) := pe_mcount
theorem pe_shipAt (e3 : I 35 3 = Int32.ofNat ns) (hn : ns ≤ 3) {c : Nat} (hx : x = Int32.ofNat c) (hc : c < 64) : pe N X 221 [.ref 35, .int x] (ev_hp I J R T) (fun r h => h = ev_hp I J R T ∧ ((r = some (.int (-1)) ∧ ∀ s, s < ns → kb (J 45 s) c = false) ∨ ∃ s, s < ns ∧ r = some (.int (Int32.ofNat s)) ∧ kb (J 45 s) c = true)) := by
  subst hx
  have loop : ∀ (d s : Nat), s + d = ns → (∀ i, i < s → kb (J 45 i) c = false) → ∀ N, pw N X 221 2 [.ref 35, .int (Int32.ofNat c), .int (Int32.ofNat s)] [] (ev_hp I J R T) (fun r h => h = ev_hp I J R T ∧ ((r = some (.int (-1)) ∧ ∀ s, s < ns → kb (J 45 s) c = false) ∨ ∃ s, s < ns ∧ r = some (.int (Int32.ofNat s)) ∧ kb (J 45 s) c = true)) := by
    intro d
    induction d with
    | zero =>
      intro s hs h N
      obtain rfl : s = ns := by omega
      refine pw_p (sa_2 ⟨fun _ => ⟨rfl, Or.inl ⟨rfl, h⟩⟩, fun g => ?_⟩)
      rw [e3] at g
      exact absurd (Int32.le_refl _) g
    | succ d ih =>
      intro s hsd h N
      refine pw_p (sa_2 ?_)
      rw [e3, io_cl (by omega), has_kb _ hc, io_1]
      refine ⟨fun g => ?_, fun _ _ => ⟨fun g => ih (s + 1) (by omega) (fun i hi => ?_) N, fun g => ⟨rfl, Or.inr ⟨s, by omega, rfl, ?_⟩⟩⟩⟩
      · rw [io_le (by omega) (by omega)] at g
        omega
      · by_cases his : i = s
        · rw [his]
          exact g
        · exact h i (by omega)
      · cases hz : kb (J 45 s) c
        · exact absurd hz g
        · rfl
  exact pe_of (pw_p (sa_0 (loop ns 0 (by omega) (fun i hi => absurd hi (by omega)) _)))
/-- a cell is called -/
theorem pe_callCell (e3 : I 35 3 = Int32.ofNat ns) (hn : ns ≤ 3) (hP : ∀ s, s < ns → J 45 s = P s ∧ J 46 s = H s) (hz : ∀ s, ns ≤ s → s < 3 → P s = 0) (hD : Dj P) {c : Nat} (hx : x = Int32.ofNat c) (hc : c < 64) : pe N X 176 [.ref 35, .int x] (ev_hp I J R T) (fun r h => r = some (.int (Int32.ofNat (pl_a (I 35 7) P H (cell1 c)))) ∧ ∃ G, h = ev_hp I (ev_sJ J 46 G) R T ∧ ∀ s, s < ns → G s = pl_h P H (cell1 c) s) := by
  refine pe_of (pw_p (ce_0 ⟨_, pe_shipAt e3 hn hx hc, ?_⟩))
  subst hx
  rintro r h ⟨rfl, ⟨rfl, h1⟩ | ⟨s, hs, rfl, h1⟩⟩
  · obtain ⟨a1, -, a3⟩ := pl_none (sr := I 35 7) (P := P) (H := H) hc (fun s hs => by
      by_cases h : s < ns
      · rw [← (hP s h).1]
        exact h1 s h
      · rw [hz s (by omega) hs]
        exact kb_0 c)
    refine pw_p (ce_5 ⟨fun g => absurd rfl g, fun _ => ⟨by rw [a1]; rfl, J 46, by rw [sJ_self], fun s hs => ?_⟩⟩)
    rw [a3 s (by omega)]
    exact (hP s hs).2
  · rw [(hP s hs).1] at h1
    obtain ⟨a1, -, a3⟩ := pl_one (sr := I 35 7) (H := H) hc (show s < 3 by omega) hD h1
    have fin : ∀ v : Int32, v = Int32.ofNat (pl_a (I 35 7) P H (cell1 c)) → (some (.int v) : Option Value) = some (.int (Int32.ofNat (pl_a (I 35 7) P H (cell1 c)))) ∧ ∃ G, ev_hp I (ev_sJ J 46 (vp_updL (J 46) s (H s ||| cell1 c))) R T = ev_hp I (ev_sJ J 46 G) R T ∧ ∀ s, s < ns → G s = pl_h P H (cell1 c) s := by
      intro v hv
      refine ⟨by rw [hv], _, rfl, fun s' hs' => ?_⟩
      rw [a3 s' (by omega)]
      by_cases e : s' = s
      · rw [e, pv_s, if_pos rfl]
      · rw [pv_n _ _ e, if_neg e]
        exact (hP s' hs').2
    have hne : ¬ Int32.ofNat s = -1 := by
      intro z
      have z2 := congrArg Int32.toInt z
      rw [io_ti (by omega), show ((-1 : Int32)).toInt = -1 from by decide] at z2
      omega
    refine pw_p (ce_5 ?_)
    rw [io_cl (by omega), pv_s, (hP s hs).1, (hP s hs).2, has_kb _ hc, lg_eq]
    refine ⟨fun _ _ => ⟨fun g _ _ => ⟨fun g2 => fin _ ?_, fun g2 => fin _ ?_⟩, fun g _ _ => ⟨fun g2 => fin _ ?_, fun g2 _ _ => ⟨fun g3 => fin _ ?_, fun g3 => fin _ ?_⟩⟩⟩, fun g => absurd hne g⟩
    · rw [a1, decide_eq_false g2]
      rfl
    · rw [a1, show kb (H s) c = true from by
        cases hk : kb (H s) c
        · exact absurd hk g
        · rfl, Bool.not_true, Bool.false_and, Bool.and_false]
      rfl
    · rw [a1, decide_eq_false g2]
      rfl
    · rw [a1, decide_eq_false (p := H s ||| cell1 c = P s) g3, Bool.and_false, Bool.and_false]
      rfl
    · rw [a1, decide_eq_true (Classical.not_not.mp g2), decide_eq_true (p := H s ||| cell1 c = P s) (Classical.not_not.mp g3), Classical.not_not.mp g]
      rfl
/-- a set drifts -/
theorem pe_driftOf {W HH : Nat} (e0 : I 35 0 = Int32.ofNat W) (e1 : I 35 1 = Int32.ofNat HH) (hW : 2 ≤ W ∧ W ≤ 6) (hH : 2 ≤ HH ∧ HH ≤ 6) (hx : d1 (I 35 9)) (hy : d1 (I 35 10)) (hz : onp (W * HH) z) : pe N X 187 [.ref 35, .long z] (ev_hp I J R T) (fun r h => r = some (.long (mvP (I 35 0) (I 35 1) 1 (I 35 9) (I 35 10) z)) ∧ h = ev_hp I J R T) := by
  have h36 : W * HH ≤ 6 * 6 := Nat.mul_le_mul hW.2 hH.2
  obtain ⟨m1, m2, m3⟩ := mv_s hW hH hx hy hz
  rw [← e0, ← e1] at m1 m3
  have h63 : ∀ u, onp (W * HH) u → kb u 63 = false := fun u hu => hu 63 (by omega)
  have em1 : (18446744073709551615 : Int64) = -1 := by decide
  have loop : ∀ (d y : Nat), y + d = HH → ∀ (f : Int64), fc_L (I 35 0) d (Int32.ofNat y) f = fc_F (I 35 0) (I 35 1) → ∀ N, pw N X 187 15 [.ref 35, .long z, ez_fill, .long (al_F (I 35 0 * I 35 1)), ez_fill, .long f, ez_fill, .int (Int32.ofNat y)] [] (ev_hp I J R T) (fun r h => r = some (.long (mvP (I 35 0) (I 35 1) 1 (I 35 9) (I 35 10) z)) ∧ h = ev_hp I J R T) := by
    intro d
    induction d with
    | zero =>
      intro y hy2 f hf N
      obtain rfl : y = HH := by omega
      have hf : f = fc_F (I 35 0) (I 35 1) := hf
      subst hf
      refine pw_p (dr_15 ⟨fun _ => ?_, fun g => ?_⟩)
      rotate_left
      · rw [e1] at g
        exact absurd (Int32.le_refl _) g
      have s4 : ∀ v : Int64, dr4 (I 35 0) (I 35 1) (al_F (I 35 0 * I 35 1)) v (I 35 10) = drS (I 35 0) (I 35 1) (I 35 9) (I 35 10) z → (I 35 10 = -1 → kb v 63 = false) → ∀ N l, pw N X 187 160 [.ref 35, .long z, ez_fill, .long (al_F (I 35 0 * I 35 1)), ez_fill, .long (fc_F (I 35 0) (I 35 1)), ez_fill, .long l, ez_fill, .long v, ez_fill] [] (ev_hp I J R T) (fun r h => r = some (.long (mvP (I 35 0) (I 35 1) 1 (I 35 9) (I 35 10) z)) ∧ h = ev_hp I J R T) := by
        intro v hv h2 N l
        rw [← m1, ← hv]
        unfold dr4
        refine pw_p (dr_160 ⟨fun g => ⟨?_, rfl⟩, fun g => ⟨?_, rfl⟩⟩)
        · rw [if_neg g]
        · have g := Classical.not_not.mp g
          rw [if_pos g, e0, sr_us (h2 g) (by omega)]
          rfl
      have s3 : ∀ v : Int64, dr4 (I 35 0) (I 35 1) (al_F (I 35 0 * I 35 1)) (dr3 (I 35 0) (I 35 1) (al_F (I 35 0 * I 35 1)) v (I 35 10)) (I 35 10) = drS (I 35 0) (I 35 1) (I 35 9) (I 35 10) z → kb v 63 = false → ∀ N l, pw N X 187 126 [.ref 35, .long z, ez_fill, .long (al_F (I 35 0 * I 35 1)), ez_fill, .long (fc_F (I 35 0) (I 35 1)), ez_fill, .long l, ez_fill, .long v, ez_fill] [] (ev_hp I J R T) (fun r h => r = some (.long (mvP (I 35 0) (I 35 1) 1 (I 35 9) (I 35 10) z)) ∧ h = ev_hp I J R T) := by
        intro v hv h2 N l
        refine pw_p (dr_126 ⟨fun g => s4 v ?_ (fun _ => h2) _ _, fun g => s4 _ ?_ (fun g2 => ?_) _ _⟩)
        · rw [← hv]
          unfold dr3
          rw [if_neg g]
        · have g := Classical.not_not.mp g
          rw [← hv]
          unfold dr3
          rw [if_pos g]
          have e5 : I 35 0 * (I 35 1 - 1) = Int32.ofNat (W * (y - 1)) := by rw [e0, e1, io_sub1 (by omega), io_mul]
          have h5 : W * (y - 1) ≤ 6 * 5 := Nat.mul_le_mul hW.2 (by omega)
          rw [e5, sr_us h2 (by omega)]
          rfl
        · rw [Classical.not_not.mp g] at g2
          exact absurd g2 (by decide)
      have s2 : ∀ v : Int64, dr2 (I 35 0) (fc_F (I 35 0) (I 35 1)) v (I 35 9) = dr12 (I 35 0) (I 35 1) (I 35 9) z → (I 35 9 = -1 → kb v 63 = false) → ∀ N l, pw N X 187 92 [.ref 35, .long z, ez_fill, .long (al_F (I 35 0 * I 35 1)), ez_fill, .long (fc_F (I 35 0) (I 35 1)), ez_fill, .long l, ez_fill, .long v, ez_fill] [] (ev_hp I J R T) (fun r h => r = some (.long (mvP (I 35 0) (I 35 1) 1 (I 35 9) (I 35 10) z)) ∧ h = ev_hp I J R T) := by
        intro v hv h2 N l
        have go : ∀ v', v' = dr12 (I 35 0) (I 35 1) (I 35 9) z → ∀ N, pw N X 187 126 [.ref 35, .long z, ez_fill, .long (al_F (I 35 0 * I 35 1)), ez_fill, .long (fc_F (I 35 0) (I 35 1)), ez_fill, .long l, ez_fill, .long v', ez_fill] [] (ev_hp I J R T) (fun r h => r = some (.long (mvP (I 35 0) (I 35 1) 1 (I 35 9) (I 35 10) z)) ∧ h = ev_hp I J R T) := by
          rintro v' rfl N
          exact s3 _ rfl (h63 _ m3) N l
        refine pw_p (dr_92 ⟨fun g => go _ ?_ _, fun g => go _ ?_ _⟩)
        · rw [← hv]
          unfold dr2
          rw [if_neg g]
        · have g := Classical.not_not.mp g
          rw [← hv]
          unfold dr2
          rw [if_pos g, em1, show (1 : Int32) = Int32.ofNat 1 from rfl, sr_us (by rw [kb_and, h2 g, Bool.false_and]) (by omega)]
          rfl
      refine pw_p (dr_44 ⟨fun g => s2 z ?_ (fun _ => h63 z hz) _ _, fun g => s2 _ ?_ (fun g2 => ?_) _ _⟩)
      · unfold dr12 dr1
        rw [if_neg g]
      · have g := Classical.not_not.mp g
        unfold dr12 dr1
        have e5 : I 35 0 - 1 = Int32.ofNat (W - 1) := by rw [e0, io_sub1 (by omega)]
        rw [if_pos g, em1, e5, sr_us (by rw [kb_and, h63 z hz, Bool.false_and]) (by omega), ← e5]
        rfl
      · rw [Classical.not_not.mp g] at g2
        exact absurd g2 (by decide)
    | succ d ih =>
      intro y hyd f hf N
      refine pw_p (dr_15 ⟨fun g => ?_, fun _ => ?_⟩)
      · rw [e1, io_le (by omega) (by omega)] at g
        omega
      · rw [io_1]
        refine ih (y + 1) (by omega) _ ?_ N
        rw [← hf, ← io_1]
        rfl
  refine pe_of (pw_p (dr_0 ?_))
  refine loop HH 0 (by omega) 0 ?_ N
  unfold fc_F
  rw [show (I 35 1).toInt.toNat = HH from by rw [e1, io_ti (by omega)]; exact Int.toNat_natCast HH]
  rfl
end
end
section
/-! All calls, by the reference. -/
/-- one behind the other, none meets those ahead -/
noncomputable def okn (n : Nat → Int64) (s : Nat) : Bool := fal (fun i => decide (or_n n i &&& n i = 0)) s
theorem okn_3 (n : Nat → Int64) : okn n 3 = pl_o n := by
  have e : okn n 3 = (((true && decide ((0 : Int64) &&& n 0 = 0)) && decide ((0 ||| n 0) &&& n 1 = 0)) && decide (((0 ||| n 0) ||| n 1) &&& n 2 = 0)) := rfl
  rw [e, Int64.zero_or]
  unfold pl_o
  rw [show decide ((0 : Int64) &&& n 0 = 0) = true from decide_eq_true (by rw [and_c]; exact and_0 _), Bool.true_and, Bool.true_and]
  rw [show decide ((n 0 ||| n 1) &&& n 2 = 0) = (decide (n 0 &&& n 2 = 0) && decide (n 1 &&& n 2 = 0)) from by
    rw [and_o]
    by_cases h1 : n 0 &&& n 2 = 0
    · by_cases h2 : n 1 &&& n 2 = 0
      · rw [h1, h2]; decide
      · rw [decide_eq_false h2, Bool.and_false]
        exact decide_eq_false fun z => h2 ((or_0 _ _).mp z).2
    · rw [decide_eq_false h1, Bool.false_and]
      exact decide_eq_false fun z => h1 ((or_0 _ _).mp z).1]
  by_cases h0 : n 0 &&& n 1 = 0
  · by_cases h1 : n 0 &&& n 2 = 0
    · by_cases h2 : n 1 &&& n 2 = 0
      · rw [h0, h1, h2]; decide
      · rw [decide_eq_false h2, Bool.and_false, Bool.and_false]
        exact (decide_eq_false fun z => h2 ((or_0 _ _).mp z).2).symm
    · rw [decide_eq_false h1, Bool.false_and, Bool.and_false]
      exact (decide_eq_false fun z => h1 ((or_0 _ _).mp ((or_0 _ _).mp z).1).2).symm
  · rw [decide_eq_false h0, Bool.false_and]
    exact (decide_eq_false fun z => h0 ((or_0 _ _).mp ((or_0 _ _).mp z).1).1).symm
theorem okn_ns {n : Nat → Int64} {ns : Nat} (hn : ns ≤ 3) (hz : ∀ s, ns ≤ s → s < 3 → n s = 0) : okn n ns = pl_o n := by
  rw [← okn_3]
  have step : ∀ s, ns ≤ s → s < 3 → okn n (s + 1) = okn n s := fun s h1 h2 => by
    show (okn n s && decide (or_n n s &&& n s = 0)) = okn n s
    rw [hz s h1 h2, and_0, decide_eq_true rfl, Bool.and_true]
  rcases (show ns = 0 ∨ ns = 1 ∨ ns = 2 ∨ ns = 3 by omega) with rfl | rfl | rfl | rfl
  · rw [step 2 (by omega) (by omega), step 1 (by omega) (by omega), step 0 (by omega) (by omega)]
  · rw [step 2 (by omega) (by omega), step 1 (by omega) (by omega)]
  · rw [step 2 (by omega) (by omega)]
  · rfl
/-- ships lie on the paper, apart; none beyond the last -/
noncomputable def pk (n ns : Nat) (P : Nat → Int64) : Prop := Dj P ∧ (∀ s, s < 3 → onp n (P s)) ∧ ∀ s, ns ≤ s → s < 3 → P s = 0
theorem Dj_o {n : Nat → Int64} (h : pl_o n = true) : Dj n := by
  have h := of_decide_eq_true h
  obtain ⟨h1, h2⟩ := (or_0 _ _).mp h
  obtain ⟨h3, h4⟩ := (or_0 _ _).mp h1
  intro s s' hs hs' hn
  rcases (show s = 0 ∨ s = 1 ∨ s = 2 by omega) with rfl | rfl | rfl <;> rcases (show s' = 0 ∨ s' = 1 ∨ s' = 2 by omega) with rfl | rfl | rfl
  · exact absurd rfl hn
  · exact h3
  · exact h4
  · rw [and_c]; exact h3
  · exact absurd rfl hn
  · exact h2
  · rw [and_c]; exact h4
  · rw [and_c]; exact h2
  · exact absurd rfl hn
theorem pk_m {n ns : Nat} {P H : Nat → Int64} {mv : Int64 → Int64} (hm : ∀ z, onp n z → onp n (mv z)) (h0 : mv 0 = 0) (h : pk n ns P) : pk n ns (pl_m mv P H) := by
  by_cases ho : pl_o (pl_x mv P H) = true
  · have e : pl_m mv P H = pl_x mv P H := funext fun s => by
      unfold pl_m
      rw [ho]
      rfl
    rw [e]
    refine ⟨Dj_o ho, fun s hs => ?_, fun s h1 h2 => ?_⟩
    · unfold pl_x
      split
      · exact hm _ (h.2.1 s hs)
      · exact h.2.1 s hs
    · unfold pl_x
      rw [h.2.2 s h1 h2, h0]
      split <;> rfl
  · have e : pl_m mv P H = P := funext fun s => by
      unfold pl_m
      rw [show pl_o (pl_x mv P H) = false from by
        cases hz : pl_o (pl_x mv P H)
        · rfl
        · exact absurd hz ho]
      rfl
    rw [e]
    exact h
theorem pk_f {n ns : Nat} {sr : Int32} {dr : Bool} {P H : Nat → Int64} {t : Int64} {mv : Int64 → Int64} (hm : dr = true → (∀ z, onp n z → onp n (mv z)) ∧ mv 0 = 0) (h : pk n ns P) : pk n ns (pl_f sr dr mv P H t) := by
  cases hd : (dr && Nat.beq (pl_a sr P H t) 0)
  · have e : pl_f sr dr mv P H t = P := funext fun s => by
      unfold pl_f
      rw [hd]
      rfl
    rw [e]
    exact h
  · have e : pl_f sr dr mv P H t = pl_m mv P (pl_h P H t) := funext fun s => by
      unfold pl_f
      rw [hd]
      rfl
    rw [e]
    obtain ⟨h1, h2⟩ := hm (Bool.and_eq_true_iff.mp hd).1
    exact pk_m h1 h2 h
theorem pk_q {n ns : Nat} {sr : Int32} {dr : Bool} {mv : Int64 → Int64} {tg P0 : Nat → Int64} (hm : dr = true → (∀ z, onp n z → onp n (mv z)) ∧ mv 0 = 0) (h : pk n ns P0) : ∀ c, pk n ns (pl_q sr dr mv tg P0 c).1 := by
  intro c
  induction c with
  | zero => exact h
  | succ c ih => exact pk_f hm ih
/-- what the reference's cells say of the class's: the same paper, rules, calls -/
noncomputable def gk (I : Nat → Nat → Int32) (J : Nat → Nat → Int64) (W HH ns n : Nat) : Prop := I 35 0 = Int32.ofNat W ∧ I 35 1 = Int32.ofNat HH ∧ (2 ≤ W ∧ W ≤ 6) ∧ (2 ≤ HH ∧ HH ≤ 6) ∧ I 35 3 = Int32.ofNat ns ∧ ns ≤ 3 ∧ I 2 1 = I 35 7 ∧ d1 (I 35 9) ∧ d1 (I 35 10) ∧ n ≤ 30 ∧
  (drF I = true → ∀ z, mvF I J z = mvP (I 35 0) (I 35 1) 1 (I 35 9) (I 35 10) z) ∧ drF I = (decide (I 35 9 ≠ 0) || decide (I 35 10 ≠ 0)) ∧ ∀ c, c < n → J 9 c = tgt (I 42 c) (I 43 c) ∧ cel (I 42 c) ∧ (I 43 c = -1 ∨ (cel (I 43 c) ∧ I 43 c ≠ I 42 c))
section
variable {N : Nat} {X : ez_X} {I : Nat → Nat → Int32} {J : Nat → Nat → Int64} {R : Nat → Nat} {T : List ez_C} {x y : Int32} {W HH ns n : Nat} {P H : Nat → Int64} {t : ly_t} {k : Nat}
theorem gk_mv (h : gk I J W HH ns n) (hd : drF I = true) : (∀ z, onp (W * HH) z → onp (W * HH) (mvF I J z)) ∧ mvF I J 0 = 0 := by
  obtain ⟨e0, e1, hW, hH, -, -, -, hx, hy, -, hm, -⟩ := h
  have h0 : ∀ z, onp (W * HH) z → onp (W * HH) (mvF I J z) := fun z hz => by
    rw [hm hd, e0, e1]
    exact (mv_s hW hH hx hy hz).2.1
  refine ⟨h0, ?_⟩
  have e : mvF I J 0 = mvF I J 0 ||| mvF I J 0 := kb_ext fun i _ => by
    rw [kb_or, Bool.or_self]
  have key : ∀ w h : Nat, (2 ≤ w ∧ w ≤ 6) → (2 ≤ h ∧ h ≤ 6) → ∀ dx dy : Int32, d1 dx → d1 dy → mvP (Int32.ofNat w) (Int32.ofNat h) 1 dx dy 0 = 0 := by
    intro w h hw hh dx dy hdx hdy
    have tab : ((List.range 5).all fun w => (List.range 5).all fun h => [(-1 : Int32), 0, 1].all fun dx => [(-1 : Int32), 0, 1].all fun dy => decide (mvP (Int32.ofNat (w + 2)) (Int32.ofNat (h + 2)) 1 dx dy 0 = 0)) = true := by decide +kernel
    have hm : ∀ d : Int32, d1 d → d ∈ [(-1 : Int32), 0, 1] := by
      rintro d (rfl | rfl | rfl) <;> decide
    have t1 := List.all_eq_true.mp (List.all_eq_true.mp (List.all_eq_true.mp (List.all_eq_true.mp tab (w - 2) (List.mem_range.mpr (by omega))) (h - 2) (List.mem_range.mpr (by omega))) dx (hm dx hdx)) dy (hm dy hdy)
    have t2 := of_decide_eq_true t1
    rw [show w - 2 + 2 = w by omega, show h - 2 + 2 = h by omega] at t2
    exact t2
  rw [hm hd, e0, e1]
  exact key W HH hW hH _ _ hx hy
/-- all that were not hit drift, if they may -/
theorem pe_driftAll (hg : gk I J W HH ns n) (hP : ∀ s, s < ns → J 45 s = P s ∧ J 46 s = H s) (hk : pk (W * HH) ns P) : pe N X 186 [.ref 35] (ev_hp I J R T) (fun r h => r = none ∧ ∃ K G, h = ev_hp I (ev_sJ (ev_sJ J 47 K) 45 G) R T ∧ ∀ s, s < ns → G s = bif drF I then pl_m (mvF I J) P H s else P s) := by
  have hg0 := hg
  obtain ⟨e0, e1, hW, hH, e3, hn, -, hx, hy, -, hm, hdr, -⟩ := hg
  have stay : drF I = false → (none : Option Value) = none ∧ ∃ K G, ev_hp I J R T = ev_hp I (ev_sJ (ev_sJ J 47 K) 45 G) R T ∧ ∀ s, s < ns → G s = bif drF I then pl_m (mvF I J) P H s else P s := by
    intro hd
    refine ⟨rfl, J 47, J 45, by rw [sJ_self, sJ_self], fun s hs => ?_⟩
    rw [hd]
    exact (hP s hs).1
  have move : drF I = true → ∀ N, pw N X 186 22 [.ref 35, .long (0 : Int64), ez_fill, .int (1 : Int32), .int (0 : Int32)] [] (ev_hp I J R T) (fun r h => r = none ∧ ∃ K G, h = ev_hp I (ev_sJ (ev_sJ J 47 K) 45 G) R T ∧ ∀ s, s < ns → G s = bif drF I then pl_m (mvF I J) P H s else P s) := by
    intro hd
    have hmd := hm hd
    have hx0 : ∀ s, ns ≤ s → s < 3 → pl_x (mvF I J) P H s = 0 := fun s h1 h2 => by
      unfold pl_x
      rw [hk.2.2 s h1 h2, (gk_mv hg0 hd).2]
      split <;> rfl
    have copy : ∀ (d s : Nat), s + d = ns → ∀ (K G : Nat → Int64), (∀ i, i < ns → K i = pl_x (mvF I J) P H i) → (∀ i, i < s → G i = pl_x (mvF I J) P H i) → pl_o (pl_x (mvF I J) P H) = true → ∀ (u : Int64) N, pw N X 186 114 [.ref 35, .long u, ez_fill, .int (1 : Int32), .int (Int32.ofNat s)] [] (ev_hp I (ev_sJ (ev_sJ J 47 K) 45 G) R T) (fun r h => r = none ∧ ∃ K G, h = ev_hp I (ev_sJ (ev_sJ J 47 K) 45 G) R T ∧ ∀ s, s < ns → G s = bif drF I then pl_m (mvF I J) P H s else P s) := by
      intro d
      induction d with
      | zero =>
        intro s hs K G hK hG ho u N
        obtain rfl : s = ns := by omega
        refine pw_p (da_114 ⟨fun _ => ⟨rfl, K, G, rfl, fun i hi => ?_⟩, fun g => ?_⟩)
        · rw [hd, hG i hi]
          show _ = pl_m (mvF I J) P H i
          unfold pl_m
          rw [ho]
          rfl
        · rw [e3] at g
          exact absurd (Int32.le_refl _) g
      | succ d ih =>
        intro s hsd K G hK hG ho u N
        refine pw_p (da_114 ⟨fun g => ?_, fun _ => ⟨fun g => absurd g (by decide), fun _ _ _ => ?_⟩⟩)
        · rw [e3, io_le (by omega) (by omega)] at g
          omega
        · rw [io_cl (by omega), cx_sJ_s, cx_sJ_n _ _ (show (47 : Nat) ≠ 45 by decide), cx_sJ_s, sJ2, io_1]
          refine ih (s + 1) (by omega) K _ hK (fun i hi => ?_) ho u N
          by_cases his : i = s
          · rw [his, pv_s]
            exact hK s (by omega)
          · rw [pv_n _ _ his]
            exact hG i (by omega)
    have first : ∀ (d s : Nat), s + d = ns → ∀ K : Nat → Int64, (∀ i, i < s → K i = pl_x (mvF I J) P H i) → ∀ N, pw N X 186 22 [.ref 35, .long (or_n (pl_x (mvF I J) P H) s), ez_fill, .int (bif okn (pl_x (mvF I J) P H) s then 1 else 0), .int (Int32.ofNat s)] [] (ev_hp I (ev_sJ J 47 K) R T) (fun r h => r = none ∧ ∃ K G, h = ev_hp I (ev_sJ (ev_sJ J 47 K) 45 G) R T ∧ ∀ s, s < ns → G s = bif drF I then pl_m (mvF I J) P H s else P s) := by
      intro d
      induction d with
      | zero =>
        intro s hs K hK N
        obtain rfl : s = ns := by omega
        refine pw_p (da_22 ⟨fun _ => pw_p (da_111 ?_), fun g => ?_⟩)
        · rw [okn_ns hn hx0]
          have e45 : ev_sJ J 47 K = ev_sJ (ev_sJ J 47 K) 45 (J 45) := by
            rw [← cx_sJ_n J K (show (45 : Nat) ≠ 47 by decide), sJ_self]
          cases ho : pl_o (pl_x (mvF I J) P H)
          · refine pw_p (da_114 ⟨fun _ => ⟨rfl, K, J 45, by rw [← e45], fun i hi => ?_⟩, fun _ => ⟨fun _ => ⟨rfl, K, J 45, by rw [← e45], fun i hi => ?_⟩, fun g => absurd rfl g⟩⟩)
            all_goals
              rw [hd, (hP i hi).1]
              show _ = pl_m (mvF I J) P H i
              unfold pl_m
              rw [ho]
              rfl
          · have h5 := copy s 0 (by omega) K (J 45) hK (fun i hi => absurd hi (by omega)) ho (or_n (pl_x (mvF I J) P H) s) N
            rw [← e45] at h5
            exact h5
        · rw [e3] at g
          exact absurd (Int32.le_refl _) g
      | succ d ih =>
        intro s hsd K hK N
        have hs : s < ns := by omega
        have eo : or_n (pl_x (mvF I J) P H) (s + 1) = or_n (pl_x (mvF I J) P H) s ||| pl_x (mvF I J) P H s := rfl
        have ek : okn (pl_x (mvF I J) P H) (s + 1) = (okn (pl_x (mvF I J) P H) s && decide (or_n (pl_x (mvF I J) P H) s &&& pl_x (mvF I J) P H s = 0)) := rfl
        have next : ∀ N, pw N X 186 70 [.ref 35, .long (or_n (pl_x (mvF I J) P H) s), ez_fill, .int (bif okn (pl_x (mvF I J) P H) s then 1 else 0), .int (Int32.ofNat s)] [.long (pl_x (mvF I J) P H s), .int (Int32.ofNat s), .ref 47] (ev_hp I (ev_sJ J 47 K) R T) (fun r h => r = none ∧ ∃ K G, h = ev_hp I (ev_sJ (ev_sJ J 47 K) 45 G) R T ∧ ∀ s, s < ns → G s = bif drF I then pl_m (mvF I J) P H s else P s) := by
          intro N
          have h5 := ih (s + 1) (by omega) (vp_updL K s (pl_x (mvF I J) P H s)) (fun i hi => by
            by_cases his : i = s
            · rw [his, pv_s]
            · rw [pv_n _ _ his]
              exact hK i (by omega)) N
          rw [eo, ek] at h5
          refine pw_p (da_70 ?_)
          rw [io_cl (by omega), cx_sJ_s, pv_s, sJ2, lg_eq, io_1]
          intro _
          refine ⟨fun g _ => ?_, fun g _ => ⟨fun g2 _ => ?_, fun g2 _ => ?_⟩⟩
          · rw [show okn (pl_x (mvF I J) P H) s = false from by
              cases hz : okn (pl_x (mvF I J) P H) s
              · rfl
              · rw [hz] at g
                exact absurd g (by decide), Bool.false_and] at h5
            exact h5
          · rw [decide_eq_false g2, Bool.and_false] at h5
            exact h5
          · rw [show okn (pl_x (mvF I J) P H) s = true from by
              cases hz : okn (pl_x (mvF I J) P H) s
              · rw [hz] at g
                exact absurd rfl g
              · rfl, decide_eq_true (Classical.not_not.mp g2)] at h5
            exact h5
        refine pw_p (da_22 ?_)
        rw [io_cl (by omega), cx_sJ_n _ _ (show (46 : Nat) ≠ 47 by decide), cx_sJ_n _ _ (show (45 : Nat) ≠ 47 by decide), (hP s hs).1, (hP s hs).2, lg_eq]
        refine ⟨fun g => ?_, fun _ _ => ⟨fun g _ => ?_, fun g _ => ⟨_, pe_driftOf e0 e1 hW hH hx hy (hk.2.1 s (by omega)), ?_⟩⟩⟩
        · rw [e3, io_le (by omega) (by omega)] at g
          omega
        · have e : pl_x (mvF I J) P H s = P s := if_neg g
          have h6 := next N
          rw [e] at h6
          exact h6
        · rintro r h ⟨rfl, rfl⟩
          have e : pl_x (mvF I J) P H s = mvP (I 35 0) (I 35 1) 1 (I 35 9) (I 35 10) (P s) := (if_pos (Classical.not_not.mp g)).trans (hmd _)
          refine pw_p (da_60 ?_)
          have h6 := next N
          rw [e] at h6
          exact h6
    intro N
    have h0 := first ns 0 (by omega) (J 47) (fun i hi => absurd hi (by omega)) N
    rw [sJ_self] at h0
    exact h0
  refine pe_of (pw_p (da_0 ⟨fun g => move ?_ _, fun g => ⟨fun g2 => move ?_ _, fun g2 => stay ?_⟩⟩))
  · rw [hdr, decide_eq_true (p := I 35 9 ≠ 0) g]
    rfl
  · rw [hdr, decide_eq_true (p := I 35 10 ≠ 0) g2, Bool.or_true]
  · rw [hdr, decide_eq_false (p := I 35 9 ≠ 0) g, decide_eq_false (p := I 35 10 ≠ 0) g2]
    rfl
/-- the ships are laid -/
theorem pe_place (e3 : I 35 3 = Int32.ofNat ns) (hn : ns ≤ 3) (hx : x = Int32.ofNat k) (hk : k < 10000) (hw : ∀ s, s < ns → I 41 (3 * k + s) = Int32.ofNat (ly_at t s)) (hl : ∀ s, s < ns → ly_at t s < 288) (he : ∀ s, s < ns → J 39 (300 * s + ly_at t s) = P s) : pe N X 215 [.ref 35, .int x] (ev_hp I J R T) (fun r h => r = none ∧ ∃ G1 G2, h = ev_hp I (ev_sJ (ev_sJ J 45 G1) 46 G2) R T ∧ ∀ s, s < ns → G1 s = P s ∧ G2 s = 0) := by
  subst hx
  have loop : ∀ (d s : Nat), s + d = ns → ∀ G1 G2 : Nat → Int64, (∀ i, i < s → G1 i = P i ∧ G2 i = 0) → ∀ N, pw N X 215 2 [.ref 35, .int (Int32.ofNat k), .int (Int32.ofNat s)] [] (ev_hp I (ev_sJ (ev_sJ J 45 G1) 46 G2) R T) (fun r h => r = none ∧ ∃ G1 G2, h = ev_hp I (ev_sJ (ev_sJ J 45 G1) 46 G2) R T ∧ ∀ s, s < ns → G1 s = P s ∧ G2 s = 0) := by
    intro d
    induction d with
    | zero =>
      intro s hs G1 G2 hG N
      obtain rfl : s = ns := by omega
      refine pw_p (pc_2 ⟨fun _ => ⟨rfl, G1, G2, rfl, hG⟩, fun g => ?_⟩)
      rw [e3] at g
      exact absurd (Int32.le_refl _) g
    | succ d ih =>
      intro s hsd G1 G2 hG N
      have hs : s < ns := by omega
      have hl2 := hl s hs
      have e1 : ((3 : Int32) * Int32.ofNat k + Int32.ofNat s).toNatClampNeg = 3 * k + s := by
        rw [show (3 : Int32) = Int32.ofNat 3 from rfl, io_mul, io_add, io_cl (by omega)]
      have e2 : ((300 : Int32) * Int32.ofNat s + Int32.ofNat (ly_at t s)).toNatClampNeg = 300 * s + ly_at t s := by
        rw [show (300 : Int32) = Int32.ofNat 300 from rfl, io_mul, io_add, io_cl (by omega)]
      refine pw_p (pc_2 ⟨fun g => ?_, fun _ => ?_⟩)
      · rw [e3, io_le (by omega) (by omega)] at g
        omega
      · rw [e1, hw s hs, e2, io_cl (by omega), cx_sJ_n _ _ (show (39 : Nat) ≠ 46 by decide), cx_sJ_n _ _ (show (39 : Nat) ≠ 45 by decide), he s hs, cx_sJ_s, cx_sJ_n _ _ (show (45 : Nat) ≠ 46 by decide), cx_sJ_s, sJ_sw (ev_sJ J 45 G1) _ _ (show (46 : Nat) ≠ 45 by decide), sJ2, sJ2, io_1]
        intro _ _ _ _
        refine ih (s + 1) (by omega) _ _ (fun i hi => ?_) N
        by_cases his : i = s
        · subst his
          rw [pv_s, pv_s]
          exact ⟨rfl, rfl⟩
        · rw [pv_n _ _ his, pv_n _ _ his]
          exact hG i (by omega)
  refine pe_of (pw_p (pc_0 ?_))
  have h0 := loop ns 0 (by omega) (J 45) (J 46) (fun i hi => absurd hi (by omega)) N
  rw [sJ_self, sJ_self] at h0
  exact h0
/-- behind n calls -/
noncomputable def gh (I : Nat → Nat → Int32) (J : Nat → Nat → Int64) (ns : Nat) (t : ly_t) (n : Nat) (I' : Nat → Nat → Int32) (J' : Nat → Nat → Int64) : Prop := ∃ f K G1 G2, I' = ev_sI I 48 f ∧ J' = ev_sJ (ev_sJ (ev_sJ J 47 K) 45 G1) 46 G2 ∧ (∀ s, s < ns → G1 s = (xq I J t n).1 s ∧ G2 s = (xq I J t n).2 s) ∧ ∀ c, c < n → f c = Int32.ofNat (xt I J t c)
theorem cel_bt {a : Int32} (h : cel a) : ∃ i, a = Int32.ofNat i ∧ i < 64 ∧ (1 : Int64) <<< (a.toInt64 &&& 63) = cell1 i := by
  obtain ⟨i, rfl, hi⟩ := h
  exact ⟨i, rfl, by omega, rfl⟩
theorem pe_go (hg : gk I J W HH ns n) (hpk : pk (W * HH) ns (ly_s I J t)) (hx : x = Int32.ofNat k) (hk : k < 10000) (hw : ∀ s, s < ns → I 41 (3 * k + s) = Int32.ofNat (ly_at t s)) (hl : ∀ s, s < ns → ly_at t s < 288) (he : ∀ s, s < ns → J 39 (300 * s + ly_at t s) = ly_s I J t s) {m : Nat} (hy : y = Int32.ofNat m) (hm : m ≤ n) :
    pe N X 192 [.ref 35, .int x, .int y] (ev_hp I J R T) (fun r h => r = none ∧ ∃ I' J', h = ev_hp I' J' R T ∧ gh I J ns t m I' J') := by
  subst hy
  have hg0 := hg
  obtain ⟨e0, e1, hW, hH, e3, hn, e21, hdx, hdy, hn30, hmv, hdr, hcall⟩ := hg
  have hpq : ∀ c, pk (W * HH) ns (xq I J t c).1 := pk_q (gk_mv hg0) hpk
  have loop : ∀ (d c : Nat), c + d = m → ∀ (f : Nat → Int32) (K G1 G2 : Nat → Int64), (∀ s, s < ns → G1 s = (xq I J t c).1 s ∧ G2 s = (xq I J t c).2 s) → (∀ i, i < c → f i = Int32.ofNat (xt I J t i)) → ∀ N, pw N X 192 7 [.ref 35, .int x, .int (Int32.ofNat m), .int (Int32.ofNat c)] [] (ev_hp (ev_sI I 48 f) (ev_sJ (ev_sJ (ev_sJ J 47 K) 45 G1) 46 G2) R T) (fun r h => r = none ∧ ∃ I' J', h = ev_hp I' J' R T ∧ gh I J ns t m I' J') := by
    intro d
    induction d with
    | zero =>
      intro c hc f K G1 G2 hG hf N
      obtain rfl : c = m := by omega
      exact pw_p (go_7 ⟨fun _ => ⟨rfl, _, _, rfl, f, K, G1, G2, rfl, rfl, hG, hf⟩, fun g => absurd (Int32.le_refl _) g⟩)
    | succ d ih =>
      intro c hcd f K G1 G2 hG hf N
      have hc : c < m := by omega
      obtain ⟨t1, t2, t3⟩ := hcall c (by omega)
      obtain ⟨i, ei, hi, ebi⟩ := cel_bt t2
      have hD := (hpq c).1
      have hzz := (hpq c).2.2
      have i35 : ∀ f : Nat → Int32, ev_sI I 48 f 35 = I 35 := fun f => cx_sI_n _ _ (by decide)
      have i42 : ∀ f : Nat → Int32, ev_sI I 48 f 42 = I 42 := fun f => cx_sI_n _ _ (by decide)
      have i43 : ∀ f : Nat → Int32, ev_sI I 48 f 43 = I 43 := fun f => cx_sI_n _ _ (by decide)
      have j45 : ∀ G : Nat → Int64, ev_sJ (ev_sJ (ev_sJ J 47 K) 45 G1) 46 G 45 = G1 := fun G => by rw [cx_sJ_n _ _ (by decide), cx_sJ_s]
      have j46 : ∀ G : Nat → Int64, ev_sJ (ev_sJ (ev_sJ J 47 K) 45 G1) 46 G 46 = G := fun G => cx_sJ_s _ _ _
      have hP0 : ∀ s, s < ns → ev_sJ (ev_sJ (ev_sJ J 47 K) 45 G1) 46 G2 45 s = (xq I J t c).1 s ∧ ev_sJ (ev_sJ (ev_sJ J 47 K) 45 G1) 46 G2 46 s = (xq I J t c).2 s := fun s hs => by
        rw [j45, j46]
        exact hG s hs
      -- behind the answer
      have behind : ∀ G : Nat → Int64, (∀ s, s < ns → G s = (xq I J t (c + 1)).2 s) → ∀ v : Int32, v = Int32.ofNat (xt I J t c) → ∀ N, pw N X 192 84 [.ref 35, .int x, .int (Int32.ofNat m), .int (Int32.ofNat c)] [] (ev_hp (ev_sI I 48 (upd f c v)) (ev_sJ (ev_sJ (ev_sJ J 47 K) 45 G1) 46 G) R T) (fun r h => r = none ∧ ∃ I' J', h = ev_hp I' J' R T ∧ gh I J ns t m I' J') := by
        intro G hGn v hv N
        subst hv
        have hf2 : ∀ i, i < c + 1 → upd f c (Int32.ofNat (xt I J t c)) i = Int32.ofNat (xt I J t i) := fun i hi => by
          by_cases hic : i = c
          · rw [hic, nd_upd_s]
          · rw [nd_upd_n _ _ hic]
            exact hf i (by omega)
        have hle := pl_a_le (I 2 1) (xq I J t c).1 (xq I J t c).2 (J 9 c)
        refine pw_p (go_84 ?_)
        rw [io_cl (by omega), cx_sI_s, nd_upd_s]
        refine fun _ => ⟨fun g => ?_, fun g => ?_⟩
        · refine pw_p (go_97 ?_)
          rw [io_1]
          refine ih (c + 1) (by omega) _ K G1 G (fun s hs => ⟨?_, hGn s hs⟩) hf2 N
          show G1 s = pl_f (I 2 1) (drF I) (mvF I J) (xq I J t c).1 (xq I J t c).2 (J 9 c) s
          unfold pl_f
          rw [show Nat.beq (pl_a (I 2 1) (xq I J t c).1 (xq I J t c).2 (J 9 c)) 0 = false from cx_beqf fun z => g (by rw [show xt I J t c = 0 from z]; rfl), Bool.and_false]
          exact (hG s hs).1
        · have ht0 : pl_a (I 2 1) (xq I J t c).1 (xq I J t c).2 (J 9 c) = 0 := by
            have g2 := Classical.not_not.mp g
            rw [show (0 : Int32) = Int32.ofNat 0 from rfl, io_eq (by have : xt I J t c ≤ 192 := hle; omega) (by omega)] at g2
            exact g2
          have hg1 : gk (ev_sI I 48 (upd f c (Int32.ofNat (xt I J t c)))) (ev_sJ (ev_sJ (ev_sJ J 47 K) 45 G1) 46 G) W HH ns n := by
            have emv : mvF (ev_sI I 48 (upd f c (Int32.ofNat (xt I J t c)))) (ev_sJ (ev_sJ (ev_sJ J 47 K) 45 G1) 46 G) = mvF I J := by
              funext z
              unfold mvF
              rw [cx_sI_n _ _ (show (1 : Nat) ≠ 48 by decide), cx_sJ_n _ _ (show (1 : Nat) ≠ 46 by decide), cx_sJ_n _ _ (show (1 : Nat) ≠ 45 by decide), cx_sJ_n _ _ (show (1 : Nat) ≠ 47 by decide)]
            have edr : drF (ev_sI I 48 (upd f c (Int32.ofNat (xt I J t c)))) = drF I := by
              unfold drF
              rw [cx_sI_n _ _ (show (1 : Nat) ≠ 48 by decide)]
            unfold gk
            rw [i35, i42, i43, emv, edr, cx_sI_n _ _ (show (2 : Nat) ≠ 48 by decide), cx_sJ_n _ _ (show (9 : Nat) ≠ 46 by decide), cx_sJ_n _ _ (show (9 : Nat) ≠ 45 by decide), cx_sJ_n _ _ (show (9 : Nat) ≠ 47 by decide)]
            exact hg0
          have emv : mvF (ev_sI I 48 (upd f c (Int32.ofNat (xt I J t c)))) (ev_sJ (ev_sJ (ev_sJ J 47 K) 45 G1) 46 G) = mvF I J := by
            funext z
            unfold mvF
            rw [cx_sI_n _ _ (show (1 : Nat) ≠ 48 by decide), cx_sJ_n _ _ (show (1 : Nat) ≠ 46 by decide), cx_sJ_n _ _ (show (1 : Nat) ≠ 45 by decide), cx_sJ_n _ _ (show (1 : Nat) ≠ 47 by decide)]
          have edr : drF (ev_sI I 48 (upd f c (Int32.ofNat (xt I J t c)))) = drF I := by
            unfold drF
            rw [cx_sI_n _ _ (show (1 : Nat) ≠ 48 by decide)]
          refine ⟨_, pe_driftAll (P := (xq I J t c).1) (H := (xq I J t (c + 1)).2) hg1 (fun s hs => ?_) (hpq c), ?_⟩
          · rw [j45, j46]
            exact ⟨(hG s hs).1, hGn s hs⟩
          · rintro r h ⟨rfl, K', G1', rfl, hG'⟩
            rw [emv, edr] at hG'
            refine pw_p (go_97 ?_)
            rw [io_1]
            have e : ev_sJ (ev_sJ (ev_sJ (ev_sJ (ev_sJ J 47 K) 45 G1) 46 G) 47 K') 45 G1' = ev_sJ (ev_sJ (ev_sJ J 47 K') 45 G1') 46 G := by
              rw [sJ_sw (ev_sJ (ev_sJ J 47 K) 45 G1) _ _ (show (46 : Nat) ≠ 47 by decide), sJ_sw _ G G1' (show (46 : Nat) ≠ 45 by decide), sJ_sw (ev_sJ J 47 K) _ _ (show (45 : Nat) ≠ 47 by decide), sJ2, sJ2]
            rw [e]
            refine ih (c + 1) (by omega) _ K' G1' G (fun s hs => ⟨?_, hGn s hs⟩) hf2 N
            rw [hG' s hs]
            show _ = pl_f (I 2 1) (drF I) (mvF I J) (xq I J t c).1 (xq I J t c).2 (J 9 c) s
            unfold pl_f
            rw [ht0]
            cases drF I <;> rfl
      refine pw_p (go_7 ?_)
      rw [io_cl (by omega), i42, i43, ei]
      refine ⟨fun g => ?_, fun _ _ => ⟨fun g _ => ?_, fun g _ => ?_⟩⟩
      · rw [io_le (by omega) (by omega)] at g
        omega
      · -- two cells
        obtain ⟨u2, u3⟩ := t3.resolve_left g
        obtain ⟨j, ej, hj, ebj⟩ := cel_bt u2
        have hij : i ≠ j := by
          rintro rfl
          exact u3 (ej.trans ei.symm)
        have et : J 9 c = cell1 i ||| cell1 j := by
          rw [t1]
          unfold tgt
          rw [if_neg g, ebi, ebj]
        obtain ⟨p1, p2⟩ := pl_two (sr := I 2 1) (P := (xq I J t c).1) (H := (xq I J t c).2) hi hj hij
        obtain ⟨q1, q2, q3⟩ := pl_ht1 (sr := I 35 7) (H := (xq I J t c).2) hi hD
        have ext : xt I J t c = pl_n (xq I J t c).1 (cell1 i) 3 + pl_n (xq I J t c).1 (cell1 j) 3 := by
          show pl_a (I 2 1) (xq I J t c).1 (xq I J t c).2 (J 9 c) = _
          rw [et]
          exact p1
        refine ⟨_, pe_callCell (P := (xq I J t c).1) (H := (xq I J t c).2) (by rw [i35]; exact e3) hn hP0 hzz hD rfl hi, ?_⟩
        rintro r h ⟨rfl, G, rfl, hG2⟩
        rw [sJ2, i35]
        obtain ⟨q4, q5, q6⟩ := pl_ht1 (sr := I 35 7) (H := pl_h (xq I J t c).1 (xq I J t c).2 (cell1 i)) hj hD
        have second : ∀ a : Nat, a = pl_n (xq I J t c).1 (cell1 i) 3 → ∀ N, ∃ Q1 : pw_Q, pe N X 176 [.ref 35, .int (I 43 c)] (ev_hp (ev_sI I 48 f) (ev_sJ (ev_sJ (ev_sJ J 47 K) 45 G1) 46 G) R T) Q1 ∧ ∀ (r : Option Value) (h1 : ez_H), Q1 r h1 → pw N X 192 74 [.ref 35, .int x, .int (Int32.ofNat m), .int (Int32.ofNat c)] (r.toList ++ [.int (Int32.ofNat a), .int (Int32.ofNat c), .ref 48]) h1 (fun r h => r = none ∧ ∃ I' J', h = ev_hp I' J' R T ∧ gh I J ns t m I' J') := by
          intro a ha N
          refine ⟨_, pe_callCell (P := (xq I J t c).1) (H := pl_h (xq I J t c).1 (xq I J t c).2 (cell1 i)) (by rw [i35]; exact e3) hn (fun s hs => by rw [j45, j46]; exact ⟨(hG s hs).1, hG2 s hs⟩) hzz hD ej hj, ?_⟩
          rintro r h ⟨rfl, G', rfl, hG3⟩
          rw [sJ2, i35]
          have hGn : ∀ s, s < ns → G' s = (xq I J t (c + 1)).2 s := fun s hs => by
            rw [hG3 s hs]
            show _ = pl_h (xq I J t c).1 (xq I J t c).2 (J 9 c) s
            rw [et, p2 s]
          have bb := fun b (hb : a + b = xt I J t c) N => behind G' hGn (Int32.ofNat a + Int32.ofNat b) (by rw [io_add, hb]) N
          refine pw_p (go_74 ?_)
          rw [io_cl (by omega), cx_sI_s]
          have e48 : ∀ v, ev_sI (ev_sI I 48 f) 48 (upd f c v) = ev_sI I 48 (upd f c v) := fun v => nd_sI2 I 48 f _
          rw [e48, e48, show (0 : Int32) = Int32.ofNat 0 from rfl, io_le (by omega) (by omega)]
          refine ⟨fun g2 _ => bb 0 ?_ N, fun g2 _ => bb 1 ?_ N⟩
          · rw [ext, ← ha, q5.mp (by omega)]
          · have : pl_n (xq I J t c).1 (cell1 j) 3 ≠ 0 := fun z => g2 (by rw [q5.mpr z]; exact Nat.le_refl 0)
            rw [ext, ← ha]
            omega
        refine pw_p (go_56 ?_)
        rw [io_cl (by omega), i43, show (0 : Int32) = Int32.ofNat 0 from rfl, io_le (by omega) (by omega)]
        refine ⟨fun g2 _ => second 0 ?_ N, fun g2 _ => second 1 ?_ N⟩
        · rw [q2.mp (by omega)]
        · have : pl_n (xq I J t c).1 (cell1 i) 3 ≠ 0 := fun z => g2 (by rw [q2.mpr z]; exact Nat.le_refl 0)
          omega
      · -- one cell
        have et : J 9 c = cell1 i := by
          rw [t1]
          unfold tgt
          rw [if_pos (Classical.not_not.mp g), ebi]
        refine ⟨_, pe_callCell (P := (xq I J t c).1) (H := (xq I J t c).2) (by rw [i35]; exact e3) hn hP0 hzz hD rfl hi, ?_⟩
        rintro r h ⟨rfl, G, rfl, hG2⟩
        rw [sJ2, i35]
        refine pw_p (go_37 ?_)
        rw [io_cl (by omega), cx_sI_s, show ev_sI (ev_sI I 48 f) 48 (upd f c (Int32.ofNat (pl_a (I 35 7) (xq I J t c).1 (xq I J t c).2 (cell1 i)))) = ev_sI I 48 (upd f c (Int32.ofNat (pl_a (I 35 7) (xq I J t c).1 (xq I J t c).2 (cell1 i)))) from nd_sI2 I 48 f _]
        intro _
        refine behind G (fun s hs => ?_) _ ?_ N
        · rw [hG2 s hs]
          show _ = pl_h (xq I J t c).1 (xq I J t c).2 (J 9 c) s
          rw [et]
        · show _ = Int32.ofNat (pl_a (I 2 1) (xq I J t c).1 (xq I J t c).2 (J 9 c))
          rw [et, e21]
  refine pe_of (pw_p (go_0 ⟨_, pe_place (P := ly_s I J t) (t := t) e3 hn hx hk hw hl he, ?_⟩))
  rintro r h ⟨rfl, G1, G2, rfl, hG⟩
  refine pw_p (go_5 ?_)
  have h0 := loop m 0 (by omega) (I 48) (J 47) G1 G2 hG (fun i hi => absurd hi (by omega)) N
  rw [nd_self, sJ_self] at h0
  exact h0
end
end
section
/-! The answers of truth and lies, both sides. -/
/-! what of a laying is sure -/
theorem ly_3m {q : Nat → Nat → Nat → Bool} {a b : Nat} : ∀ n t, t ∈ ly_3 q a b n → q a b t.2.2 = true := by
  intro n
  induction n with
  | zero => intro t ht; cases ht
  | succ n ih =>
    intro t ht
    unfold ly_3 at ht
    rcases List.mem_append.mp ht with h | h
    · exact ih t h
    · cases hq : q a b n with
      | false => rw [hq] at h; cases h
      | true =>
        rw [hq] at h
        obtain rfl := List.mem_singleton.mp h
        exact hq
theorem ly_2m {p : Nat → Nat → Bool} {q : Nat → Nat → Nat → Bool} {n2 a : Nat} : ∀ n t, t ∈ ly_2 p q n2 a n → p a t.2.1 = true ∧ q a t.2.1 t.2.2 = true := by
  intro n
  induction n with
  | zero => intro t ht; cases ht
  | succ n ih =>
    intro t ht
    unfold ly_2 at ht
    rcases List.mem_append.mp ht with h | h
    · exact ih t h
    · cases hq : p a n with
      | false => rw [hq] at h; cases h
      | true =>
        rw [hq] at h
        have h1 := ly_3m n2 t h
        obtain ⟨h2, h3, h4⟩ := ly_3b n2 t h
        rw [h3]
        exact ⟨hq, h1⟩
theorem ly_1m {p : Nat → Nat → Bool} {q : Nat → Nat → Nat → Bool} {n1 n2 : Nat} : ∀ n t, t ∈ ly_1 p q n1 n2 n → p t.1 t.2.1 = true ∧ q t.1 t.2.1 t.2.2 = true := by
  intro n
  induction n with
  | zero => intro t ht; cases ht
  | succ n ih =>
    intro t ht
    unfold ly_1 at ht
    rcases List.mem_append.mp ht with h | h
    · exact ih t h
    · obtain ⟨h1, h2⟩ := ly_2m n1 t h
      rw [(ly_2b n1 t h).1]
      exact ⟨h1, h2⟩
theorem ar_sub {W wr C : Int32} {al fc lc z : Int64} {t : Int32} {n : Nat} (h : kb z n = true) : kb (ar W wr C al fc lc t z) n = true := by
  unfold ar
  split
  · exact h
  split
  · unfold aw
    simp only [kb_or, h, Bool.true_or]
  · unfold aw
    simp only [kb_or, h, Bool.true_or]
theorem and0_sub {x y z : Int64} (h : x &&& y = 0) (hs : ∀ n, kb z n = true → kb y n = true) : x &&& z = 0 := kb_ext fun n _ => by
  rw [kb_and, kb_0]
  cases hz : kb z n
  · rw [Bool.and_false]
  · have h1 : kb (x &&& y) n = kb 0 n := by rw [h]
    rw [kb_and, hs n hz, kb_0] at h1
    exact h1
section
variable {I I' : Nat → Nat → Int32} {J J' : Nat → Nat → Int64} {R : Nat → Nat} {T : List ez_C} {t : ly_t} {W HH ns n : Nat}
theorem ly_se (hr : rl I J) (hB : cx_hB cx_B0 I) (ht : t ∈ ls I J) {s : Nat} (hs : s < 3) : ly_s I J t s = se I J s (ly_at t s) := by
  have hns := (b_sh hB).1
  have e3 := io_nat hns.1
  unfold ly_s
  by_cases h : s < (I 3 3).toInt.toNat
  · have h1 := ly_in hr hB ht h
    have h2 := (fi_n hr h).2.1
    rw [if_pos h]
    exact (cl_in e3 h (by omega) (by omega)).symm
  · rw [if_neg h]
    unfold se cl_F
    rw [if_pos (by rw [e3, io_le (by omega) (by omega)]; omega)]
theorem pk_ls (hr : rl I J) (hB : cx_hB cx_B0 I) (ht : t ∈ ls I J) (e0 : I 35 0 = Int32.ofNat W) (e1 : I 35 1 = Int32.ofNat HH) (hW : 2 ≤ W ∧ W ≤ 6) (hH : 2 ≤ HH ∧ HH ≤ 6) : pk (W * HH) (rf_n I) (ly_s I J t) := by
  have e3 : I 3 3 = I 35 3 := (km_0 hr.1).2.2.2
  have en : rf_n I = (I 3 3).toInt.toNat := by unfold rf_n; rw [e3]
  have hns := (b_sh hB).1
  obtain ⟨m1, m2⟩ := ly_1m _ t ht
  have m1 : se I J 1 t.2.1 &&& sb I J 0 t.1 = 0 := of_decide_eq_true m1
  have m2 : se I J 2 t.2.2 &&& (sb I J 0 t.1 ||| sb I J 1 t.2.1) = 0 := of_decide_eq_true m2
  have s0 : ∀ n, kb (se I J 0 t.1) n = true → kb (sb I J 0 t.1) n = true := fun n h => ar_sub h
  have s1 : ∀ n, kb (se I J 1 t.2.1) n = true → kb (sb I J 1 t.2.1) n = true := fun n h => ar_sub h
  have d10 : se I J 1 t.2.1 &&& se I J 0 t.1 = 0 := and0_sub m1 s0
  have d20 : se I J 2 t.2.2 &&& se I J 0 t.1 = 0 := and0_sub m2 fun n h => by rw [kb_or, s0 n h, Bool.true_or]
  have d21 : se I J 2 t.2.2 &&& se I J 1 t.2.1 = 0 := and0_sub m2 fun n h => by rw [kb_or, s1 n h, Bool.or_true]
  have l0 : ly_s I J t 0 = se I J 0 t.1 := ly_se hr hB ht (by decide)
  have l1 : ly_s I J t 1 = se I J 1 t.2.1 := ly_se hr hB ht (by decide)
  have l2 : ly_s I J t 2 = se I J 2 t.2.2 := ly_se hr hB ht (by decide)
  refine ⟨?_, fun s hs => ?_, fun s h1 h2 => ?_⟩
  · intro s s' hs hs' hn
    rcases (show s = 0 ∨ s = 1 ∨ s = 2 by omega) with rfl | rfl | rfl <;> rcases (show s' = 0 ∨ s' = 1 ∨ s' = 2 by omega) with rfl | rfl | rfl
    · exact absurd rfl hn
    · rw [l0, l1, and_c]; exact d10
    · rw [l0, l2, and_c]; exact d20
    · rw [l0, l1]; exact d10
    · exact absurd rfl hn
    · rw [l1, l2, and_c]; exact d21
    · rw [l0, l2]; exact d20
    · rw [l1, l2]; exact d21
    · exact absurd rfl hn
  · unfold ly_s
    by_cases h : s < (I 3 3).toInt.toNat
    · rw [if_pos h]
      obtain ⟨-, -, sh, tn, -, -, -, f5⟩ := fi_n hr h
      have hin : inrow (fun k => J 4 (288 * s + k)) 0 (in_n I s) (J 4 (288 * s + ly_at t s)) := ⟨ly_at t s, ly_in hr hB ht h, by show J 4 (288 * s + (0 + ly_at t s)) = _; rw [Nat.zero_add]⟩
      exact sp_on e0 e1 hW hH ((f5 _).mp hin)
    · rw [if_neg h]
      exact fun i _ => kb_0 i
  · unfold ly_s
    rw [if_neg (by omega)]
theorem c3_of (h : C3 (ck I J)) : ∃ k : Nat, I 8 1 = Int32.ofNat k ∧ k ≤ 30 ∧ I 35 16 = I 8 1 ∧ (∀ c, c < k → c3_r (J 9) (J 8 2) (J 8 3) (I 42) (I 43) (I 44) c) ∧ (∀ i, kb (J 8 3) i = true → i % 2 = 0 ∧ i / 2 < k) ∧ ((I 1 1 ≠ 0 ∨ I 1 2 ≠ 0) → I 1 5 ≠ 0) ∧ (∀ r, (I 1 4 + I 1 3).toInt.toNat ≤ r → r < 12 → I 33 r = -1) := by
  obtain ⟨k, j, c1, hk, c2, c3, c4, hj, h1, h2, h3, h4⟩ := h
  exact ⟨k, c1, hk, c2, h1, h2, h3, h4.1⟩
theorem d1_of {x : Int32} (h : -1 ≤ x.toInt ∧ x.toInt ≤ 1) : d1 x := by
  rcases (show x.toInt = -1 ∨ x.toInt = 0 ∨ x.toInt = 1 by omega) with e | e | e
  · exact Or.inl (Int32.toInt_inj.mp (by rw [e]; decide))
  · exact Or.inr (Or.inl (Int32.toInt_inj.mp (by rw [e]; decide)))
  · exact Or.inr (Or.inr (Int32.toInt_inj.mp (by rw [e]; decide)))
theorem gk_of (h : rl3 I J R T) (hB : cx_hB cx_B0 I) : ∃ W HH k : Nat, gk I J W HH (rf_n I) k ∧ I 8 1 = Int32.ofNat k ∧ I 35 16 = I 8 1 := by
  obtain ⟨⟨hr, hc⟩, h3⟩ := h
  obtain ⟨m6, m7, m8, m9⟩ := hc.1
  obtain ⟨k, c1, hk, c2, h1, -, h2, -⟩ := c3_of h3
  obtain ⟨a0, a1, a2, a3⟩ := km_0 hr.1
  have adx : I 1 1 = I 35 9 := congrArg (fun K : kt_K => K.2.2.2.2.1) hr.1
  have ady : I 1 2 = I 35 10 := congrArg (fun K : kt_K => K.2.2.2.2.2.1) hr.1
  have asr : I 2 1 = I 35 7 := congrArg (fun K : kt_K => K.2.2.2.2.2.2.2.1) hr.1
  have bW := hB 35 0
  have bH := hB 35 1
  have bx := hB 1 1
  have by' := hB 1 2
  have bw := hB 1 5
  rw [show cx_B0 35 0 = (2, 6) from rfl] at bW
  rw [show cx_B0 35 1 = (2, 6) from rfl] at bH
  rw [show cx_B0 1 1 = (-1, 1) from rfl] at bx
  rw [show cx_B0 1 2 = (-1, 1) from rfl] at by'
  rw [show cx_B0 1 5 = (0, 1) from rfl] at bw
  simp only at bW bH bx by' bw
  have dx := d1_of bx
  have dy := d1_of by'
  rw [adx] at dx
  rw [ady] at dy
  have hwr : drF I = true → I 1 5 = 1 := by
    intro hd
    have hne : I 1 5 ≠ 0 := h2 (by
      rcases Bool.or_eq_true_iff.mp hd with z | z
      · exact Or.inl (of_decide_eq_true z)
      · exact Or.inr (of_decide_eq_true z))
    rcases (show (I 1 5).toInt = 0 ∨ (I 1 5).toInt = 1 by omega) with e | e
    · exact absurd (Int32.toInt_inj.mp (by rw [e]; decide)) hne
    · exact Int32.toInt_inj.mp (by rw [e]; decide)
  refine ⟨(I 35 0).toInt.toNat, (I 35 1).toInt.toNat, k, ⟨io_nat (by omega), io_nat (by omega), by omega, by omega, (rf_ns hB).1, (rf_ns hB).2, asr, dx, dy, hk, fun hd z => ?_, ?_, fun c hc => ?_⟩, c1, c2⟩
  · unfold mvF mvP
    rw [hwr hd, m7, m8, m9, m6, a0, a1, adx, ady]
  · unfold drF
    rw [adx, ady]
  · obtain ⟨g1, g2, g3, -, -⟩ := h1 c hc
    exact ⟨g1, g2, g3⟩
/-- no answer is more than two -/
theorem xt_le (hg : gk I J W HH ns n) (hpk : pk (W * HH) ns (ly_s I J t)) {c : Nat} (hc : c < n) : xt I J t c ≤ 2 := by
  have hD := (pk_q (sr := I 2 1) (tg := J 9) (gk_mv hg) hpk c).1
  obtain ⟨-, -, -, -, -, -, -, -, -, -, -, -, hcall⟩ := hg
  obtain ⟨t1, t2, t3⟩ := hcall c hc
  obtain ⟨i, ei, hi, ebi⟩ := cel_bt t2
  show pl_a (I 2 1) (xq I J t c).1 (xq I J t c).2 (J 9 c) ≤ 2
  rw [t1]
  unfold tgt
  split
  · rw [ebi]
    exact (pl_ht1 hi hD).2.2
  · rename_i g
    obtain ⟨u2, u3⟩ := t3.resolve_left g
    obtain ⟨j, ej, hj, ebj⟩ := cel_bt u2
    have hij : i ≠ j := by
      rintro rfl
      exact u3 (ej.trans ei.symm)
    rw [ebi, ebj, (pl_two (sr := I 2 1) (P := (xq I J t c).1) (H := (xq I J t c).2) hi hj hij).1]
    have h1 := (pl_ht1 (sr := I 2 1) (H := (xq I J t c).2) hi hD).1
    have h2 := (pl_ht1 (sr := I 2 1) (H := (xq I J t c).2) hj hD).1
    exact Nat.add_le_add h1 h2
end
theorem n012 {m : Nat} (h : m ≤ 2) : Int32.ofNat m = 0 ∨ Int32.ofNat m = 1 ∨ Int32.ofNat m = 2 := by
  rcases (show m = 0 ∨ m = 1 ∨ m = 2 by omega) with rfl | rfl | rfl
  · exact Or.inl rfl
  · exact Or.inr (Or.inl rfl)
  · exact Or.inr (Or.inr rfl)
theorem td_vv {v : Int32} (h : v = 0 ∨ v = 1 ∨ v = 2) : td_v (kb v.toInt64 0) (kb v.toInt64 1) = v := by
  rcases h with rfl | rfl | rfl <;> decide
section
variable {sr : Int32} {dr : Bool} {mv : Int64 → Int64} {tg P0 : Nat → Int64}
theorem pl_z_kb : ∀ n, n ≤ 30 → (∀ c, c < n → pl_t sr dr mv tg P0 c ≤ 2) → (∀ i, 2 * n ≤ i → kb (pl_z sr dr mv tg P0 n) i = false) ∧ ∀ c b, c < n → b < 2 → kb (pl_z sr dr mv tg P0 n) (2 * c + b) = kb (Int32.ofNat (pl_t sr dr mv tg P0 c)).toInt64 b := by
  intro n
  induction n with
  | zero => exact fun _ _ => ⟨fun i _ => kb_0 i, fun c b hc _ => absurd hc (by omega)⟩
  | succ n ih =>
    intro hn h
    obtain ⟨h1, h2⟩ := ih (by omega) fun c hc => h c (by omega)
    have hv := n012 (h n (Nat.lt_succ_self n))
    have e : pl_z sr dr mv tg P0 (n + 1) = pl_z sr dr mv tg P0 n ||| ((Int32.ofNat (pl_t sr dr mv tg P0 n)).toInt64 <<< td_s n) := rfl
    refine ⟨fun i hi => ?_, fun c b hc hb => ?_⟩
    · rw [e, kb_or, h1 i (by omega), kb_shl _ (by omega), kb_v hv (by omega), Bool.and_false, Bool.or_false]
    · rw [e, kb_or, kb_shl _ (by omega)]
      by_cases hcn : c = n
      · subst hcn
        rw [h1 (2 * c + b) (by omega), decide_eq_true (show 2 * c + b < 64 by omega), decide_eq_false (show ¬ 2 * c + b < 2 * c by omega), show 2 * c + b - 2 * c = b by omega]
        rfl
      · rw [h2 c b (by omega) hb, decide_eq_true (show 2 * c + b < 2 * n by omega), Bool.not_true, Bool.and_false, Bool.false_and, Bool.or_false]
theorem pl_z_at {n c : Nat} (hn : n ≤ 30) (h : ∀ c, c < n → pl_t sr dr mv tg P0 c ≤ 2) (hc : c < n) : (((pl_z sr dr mv tg P0 n).toUInt64 >>> td_u c).toInt64 &&& (3 : Int64)).toInt32 = Int32.ofNat (pl_t sr dr mv tg P0 c) := by
  rw [td_two _ (by omega)]
  have h2 := (pl_z_kb n hn h).2 c
  have e0 := h2 0 hc (by omega)
  have e1 := h2 1 hc (by omega)
  rw [Nat.add_zero] at e0
  rw [e0, e1]
  exact td_vv (n012 (h c hc))
end
/-! the cells on which the class's layings and calls rest -/
abbrev bk_K : Type := Int32 × Int32 × (Nat → Int32) × (Nat → Int64) × (Nat → Int32) × (Nat → Int64) × Int32 × Int32 × Int32 × Int32 × Int32 × Int32 × Int64 × Int64 × Int64 × Int64 × Int64 × (Nat → Int32)
noncomputable def bk (I : Nat → Nat → Int32) (J : Nat → Nat → Int64) : bk_K := (I 8 1, I 3 3, I 5, J 4, I 2, J 9, I 1 1, I 1 2, I 1 3, I 1 4, I 1 5, I 1 6, J 1 7, J 1 8, J 1 9, J 8 2, J 8 3, I 33)
noncomputable def bk_l : List (Nat × Nat) := [(8, 1), (3, 3), (1, 1), (1, 2), (1, 3), (1, 4), (1, 5), (1, 6), (1, 7), (1, 8), (1, 9), (8, 2), (8, 3)]
noncomputable def bk_fx (md : List (Nat × Nat)) : Bool := (bk_l.all fun e => !cx_may md e.1 e.2) && ([5, 4, 2, 9, 33].all fun a => fr_no md a)
section
variable {I I' : Nat → Nat → Int32} {J J' : Nat → Nat → Int64} {R R' : Nat → Nat} {T T' : List ez_C}
theorem bk_hp (e : ev_hp I J R T = ev_hp I' J' R' T') : bk I J = bk I' J' := by
  have f1 : ∀ k, (k = 1 ∨ k = 2 ∨ k = 3 ∨ k = 4 ∨ k = 5 ∨ k = 6) → I 1 k = I' 1 k := by
    intro k hk
    rcases hk with rfl | rfl | rfl | rfl | rfl | rfl <;> exact hp_fld (n := 0) (show cx_Ds[1]? = some (0 + 2, _, _) from rfl) rfl e
  have g1 : ∀ k, (k = 7 ∨ k = 8 ∨ k = 9) → J 1 k = J' 1 k := by
    intro k hk
    rcases hk with rfl | rfl | rfl <;> exact hp_fldJ (n := 0) (show cx_Ds[1]? = some (0 + 2, _, _) from rfl) rfl e
  have f8 : I 8 1 = I' 8 1 := hp_fld (n := 0) (show cx_Ds[8]? = some (0 + 2, _, _) from rfl) rfl e
  have g2 : J 8 2 = J' 8 2 := hp_fldJ (n := 0) (show cx_Ds[8]? = some (0 + 2, _, _) from rfl) rfl e
  have g3 : J 8 3 = J' 8 3 := hp_fldJ (n := 0) (show cx_Ds[8]? = some (0 + 2, _, _) from rfl) rfl e
  have f3 : I 3 3 = I' 3 3 := hp_fld (n := 0) (show cx_Ds[3]? = some (0 + 2, _, _) from rfl) rfl e
  have f5 : I 5 = I' 5 := hp_row (show cx_Ds[5]? = some (0, _, _) from rfl) e
  have f2 : I 2 = I' 2 := hp_row (show cx_Ds[2]? = some (0, _, _) from rfl) e
  have f33 : I 33 = I' 33 := hp_row (show cx_Ds[33]? = some (0, _, _) from rfl) e
  have f4 : J 4 = J' 4 := hp_rowJ (show cx_Ds[4]? = some (1, _, _) from rfl) e
  have f9 : J 9 = J' 9 := hp_rowJ (show cx_Ds[9]? = some (1, _, _) from rfl) e
  unfold bk
  rw [f1 1 (by decide), f1 2 (by decide), f1 3 (by decide), f1 4 (by decide), f1 5 (by decide), f1 6 (by decide), g1 7 (by decide), g1 8 (by decide), g1 9 (by decide), f8, g2, g3, f3, f5, f2, f33, f4, f9]
theorem bk_fr {md : List (Nat × Nat)} (h : bk_fx md = true) (hf : cx_fr md I J I' J') : bk I' J' = bk I J := by
  obtain ⟨h1, h2⟩ := Bool.and_eq_true_iff.mp h
  have f : ∀ a k, (a, k) ∈ bk_l → I' a k = I a k ∧ J' a k = J a k := fun a k hm => hf a k (by
    have := List.all_eq_true.mp h1 (a, k) hm
    simpa using this)
  have g : ∀ a, a ∈ [5, 4, 2, 9, 33] → fr_no md a = true := fun a hm => List.all_eq_true.mp h2 a hm
  unfold bk
  rw [(f 8 1 (by decide)).1, (f 8 2 (by decide)).2, (f 8 3 (by decide)).2, (f 3 3 (by decide)).1, (f 1 1 (by decide)).1, (f 1 2 (by decide)).1, (f 1 3 (by decide)).1, (f 1 4 (by decide)).1, (f 1 5 (by decide)).1, (f 1 6 (by decide)).1, (f 1 7 (by decide)).2, (f 1 8 (by decide)).2, (f 1 9 (by decide)).2,
    fr_I (g 5 (by decide)) hf, fr_I (g 2 (by decide)) hf, fr_I (g 33 (by decide)) hf, fr_J (g 4 (by decide)) hf, fr_J (g 9 (by decide)) hf]
theorem bk_at (e : bk I' J' = bk I J) : I' 8 1 = I 8 1 ∧ I' 3 3 = I 3 3 ∧ I' 5 = I 5 ∧ J' 4 = J 4 ∧ I' 2 = I 2 ∧ J' 9 = J 9 ∧ I' 1 1 = I 1 1 ∧ I' 1 2 = I 1 2 ∧ I' 1 3 = I 1 3 ∧ I' 1 4 = I 1 4 ∧ I' 1 5 = I 1 5 ∧ I' 1 6 = I 1 6 ∧ J' 1 7 = J 1 7 ∧ J' 1 8 = J 1 8 ∧ J' 1 9 = J 1 9 ∧ J' 8 2 = J 8 2 ∧ J' 8 3 = J 8 3 ∧ I' 33 = I 33 := by
  unfold bk at e
  simpa only [Prod.mk.injEq] using e
theorem bk_ls (e : bk I' J' = bk I J) : ls I' J' = ls I J ∧ ∀ s, sn I' s = sn I s := by
  obtain ⟨-, e33, e5, e4, e2, -, -, -, e13, e14, e15, e16, e17, e18, e19, -⟩ := bk_at e
  exact ⟨ls_eq e33 e5 e4 e13 e15 e16 e17 e18 e19 (by rw [e2]), fun s => sn_eq e33 e5 s⟩
theorem bk_xq (e : bk I' J' = bk I J) (t : ly_t) : ly_s I' J' t = ly_s I J t ∧ xq I' J' t = xq I J t ∧ xt I' J' t = xt I J t ∧ xz I' J' t = xz I J t := by
  obtain ⟨-, e33, -, e4, e2, e9, e11, e12, e13, e14, e15, e16, e17, e18, e19, -⟩ := bk_at e
  have hs : ly_s I' J' t = ly_s I J t := funext fun s => by
    unfold ly_s
    rw [e33, e4]
  have hd : drF I' = drF I := by
    unfold drF
    rw [e11, e12]
  have hm : mvF I' J' = mvF I J := funext fun z => by
    unfold mvF
    rw [e11, e12, e13, e15, e16, e17, e18, e19]
  refine ⟨hs, ?_, ?_, ?_⟩
  · unfold xq
    rw [hs, hd, hm, e2, e9]
  · unfold xt
    rw [hs, hd, hm, e2, e9]
  · unfold xz
    rw [hs, hd, hm, e2, e9]
theorem bk_ly (e : bk I' J' = bk I J) (t : ly_t) : ly_w I' J' t = ly_w I J t := by
  unfold ly_w
  rw [(bk_xq e t).1]
/-- the reference's own cells don't matter -/
theorem gk_c {W HH ns n : Nat} (hI : ∀ a, a ≠ 35 → a ≠ 38 → a ≠ 41 → I' a = I a) (h35 : ∀ k, k ≠ 14 → I' 35 k = I 35 k) (hJ : ∀ a, a ≠ 39 → a ≠ 40 → J' a = J a) (hg : gk I J W HH ns n) : gk I' J' W HH ns n ∧ bk I' J' = bk I J := by
  have e : bk I' J' = bk I J := by
    unfold bk
    rw [hI 8 (by decide) (by decide) (by decide), hI 3 (by decide) (by decide) (by decide), hI 5 (by decide) (by decide) (by decide), hI 2 (by decide) (by decide) (by decide), hI 1 (by decide) (by decide) (by decide), hI 33 (by decide) (by decide) (by decide), hJ 4 (by decide) (by decide), hJ 9 (by decide) (by decide), hJ 1 (by decide) (by decide), hJ 8 (by decide) (by decide)]
  refine ⟨?_, e⟩
  have hm : mvF I' J' = mvF I J := funext fun z => by
    unfold mvF
    rw [hI 1 (by decide) (by decide) (by decide), hJ 1 (by decide) (by decide)]
  have hd : drF I' = drF I := by
    unfold drF
    rw [hI 1 (by decide) (by decide) (by decide)]
  unfold gk
  rw [h35 0 (by decide), h35 1 (by decide), h35 3 (by decide), h35 7 (by decide), h35 9 (by decide), h35 10 (by decide), hI 2 (by decide) (by decide) (by decide), hI 42 (by decide) (by decide) (by decide), hI 43 (by decide) (by decide) (by decide), hJ 9 (by decide) (by decide), hm, hd]
  exact hg
end
/-! an answer that is compared: by the class, by the reference -/
section
variable {X : ez_X} {m : Nat} {K : cx_K} {as : List Value} {σ0 : List Int} {I : Nat → Nat → Int32} {J : Nat → Nat → Int64} {R : Nat → Nat} {T : List ez_C}
theorem lxc_of {M : Int32 → (Nat → Nat → Int32) → (Nat → Nat → Int64) → (Nat → Nat) → List ez_C → Prop} {v0 : Int32} (hl : ev_W X m 0 (ez_lay as) [] (ev_hp I J R T) 0 0 (lw_mid T M)) (hp : ∀ N, pe N X m as (ev_hp I J R T) (fun r _ => r = some (.int v0))) (hb : bk_fx K.2.1 = true) (hv : cx_valid cx_B0 m K) (hX2 : X.1 < 2 ^ 31) (hh : cx_hok cx_B0 I R T) (hok : cx_ok σ0 K.1 (ez_lay as) [] I T) : ev_W X m 0 (ez_lay as) [] (ev_hp I J R T) 0 0 (lw_mid T (fun v I1 J1 R1 T1 => v = v0 ∧ bk I1 J1 = bk I J ∧ M v I1 J1 R1 T1)) := by
  refine (W_pe (hl.both (hv X σ0 _ I J R T hX2 hh hok)) hp).mono ?_
  rintro r h c k ⟨⟨⟨v, I1, J1, R1, T1, e1, e2, e3, e4, e5, e6⟩, A, B, R2, T2, q1, -, q3, -⟩, w⟩
  refine ⟨v, I1, J1, R1, T1, e1, e2, e3, e4, e5, ?_, ?_, e6⟩
  · rw [e1] at w
    injection w with w
    injection w with w
  · rw [bk_hp (e2.symm.trans q1)]
    exact bk_fr hb q3
theorem lxc_ofL {M : Int64 → (Nat → Nat → Int32) → (Nat → Nat → Int64) → (Nat → Nat) → List ez_C → Prop} {v0 : Int64} (hl : ev_W X m 0 (ez_lay as) [] (ev_hp I J R T) 0 0 (lw_midL T M)) (hp : ∀ N, pe N X m as (ev_hp I J R T) (fun r _ => r = some (.long v0))) (hb : bk_fx K.2.1 = true) (hv : cx_valid cx_B0 m K) (hX2 : X.1 < 2 ^ 31) (hh : cx_hok cx_B0 I R T) (hok : cx_ok σ0 K.1 (ez_lay as) [] I T) : ev_W X m 0 (ez_lay as) [] (ev_hp I J R T) 0 0 (lw_midL T (fun v I1 J1 R1 T1 => v = v0 ∧ bk I1 J1 = bk I J ∧ M v I1 J1 R1 T1)) := by
  refine (W_pe (hl.both (hv X σ0 _ I J R T hX2 hh hok)) hp).mono ?_
  rintro r h c k ⟨⟨⟨v, I1, J1, R1, T1, e1, e2, e3, e4, e5, e6⟩, A, B, R2, T2, q1, -, q3, -⟩, w⟩
  refine ⟨v, I1, J1, R1, T1, e1, e2, e3, e4, e5, ?_, ?_, e6⟩
  · rw [e1] at w
    injection w with w
    injection w with w
  · rw [bk_hp (e2.symm.trans q1)]
    exact bk_fr hb q3
theorem lmc_of {M : Int32 → (Nat → Nat → Int32) → (Nat → Nat → Int64) → (Nat → Nat) → List ez_C → Prop} {v0 : Int32} (hl : ev_W X m 0 (ez_lay as) [] (ev_hp I J R T) 0 0 (lw_mid T M)) (hp : ∀ N, pe N X m as (ev_hp I J R T) (fun r _ => r = some (.int v0))) : ev_W X m 0 (ez_lay as) [] (ev_hp I J R T) 0 0 (lw_mid T (fun u I1 J1 R1 T1 => u = v0 ∧ M u I1 J1 R1 T1)) := by
  refine (W_pe hl hp).mono ?_
  rintro r h c k ⟨⟨v, I1, J1, R1, T1, e1, e2, e3, e4, e5, e6⟩, w⟩
  refine ⟨v, I1, J1, R1, T1, e1, e2, e3, e4, e5, ?_, e6⟩
  rw [e1] at w
  injection w with w
  injection w with w
theorem lmc_ofL {M : Int64 → (Nat → Nat → Int32) → (Nat → Nat → Int64) → (Nat → Nat) → List ez_C → Prop} {v0 : Int64} (hl : ev_W X m 0 (ez_lay as) [] (ev_hp I J R T) 0 0 (lw_midL T M)) (hp : ∀ N, pe N X m as (ev_hp I J R T) (fun r _ => r = some (.long v0))) : ev_W X m 0 (ez_lay as) [] (ev_hp I J R T) 0 0 (lw_midL T (fun u I1 J1 R1 T1 => u = v0 ∧ M u I1 J1 R1 T1)) := by
  refine (W_pe hl hp).mono ?_
  rintro r h c k ⟨⟨v, I1, J1, R1, T1, e1, e2, e3, e4, e5, e6⟩, w⟩
  refine ⟨v, I1, J1, R1, T1, e1, e2, e3, e4, e5, ?_, e6⟩
  rw [e1] at w
  injection w with w
  injection w with w
end
section
variable {N : Nat} {X : ez_X} {I : Nat → Nat → Int32} {J : Nat → Nat → Int64} {R : Nat → Nat} {T : List ez_C} {Q : pw_Q} {cz kz : Nat}
set_option maxRecDepth 100000 in
theorem tt_r0 {a0 : Int32} {a1 : Int32} {a2 : Int32} : ∀ G : ez_F, fx_up X 1 G 53 15 [.ref 0, .int a0, .int a1] [.int a2] (ev_hp I J R T) cz kz = bif decide (a2 = (0 : Int32)) then G 53 21 [.ref 0, .int a0, .int a1] [] (ev_hp I J R T) cz kz else G 53 18 [.ref 0, .int a0, .int a1] [] (ev_hp I J R T) cz kz := by
  intro G
  rfl
set_option maxRecDepth 100000 in
theorem tt_r1 {a0 : Int32} {a1 : Int32} : ∀ G : ez_F, fx_up X 3 G 53 21 [.ref 0, .int a0, .int a1] [] (ev_hp I J R T) cz kz = ev_C G 23 [.ref 0, .int a0] (ev_hp I J R T) fun r h1 c1 k1 => G 53 26 [.ref 0, .int a0, .int a1] (r.toList ++ []) h1 (cz + c1) (kz + k1) := by
  intro G
  rfl
set_option maxRecDepth 100000 in
theorem tt_r2 {a0 : Int32} {a1 : Int32} {a2 : Int32} : ∀ G : ez_F, fx_up X 1 G 53 26 [.ref 0, .int a0, .int a1] [.int a2] (ev_hp I J R T) cz kz = bif decide (¬ a2 = (0 : Int32)) then G 53 32 [.ref 0, .int a0, .int a1] [] (ev_hp I J R T) cz kz else G 53 29 [.ref 0, .int a0, .int a1] [] (ev_hp I J R T) cz kz := by
  intro G
  rfl
set_option maxRecDepth 100000 in
theorem tt_r3 {a0 : Int32} {a1 : Int32} : ∀ G : ez_F, fx_up X 7 G 53 32 [.ref 0, .int a0, .int a1] [] (ev_hp I J R T) cz kz = ev_C G 135 [.ref 10, .int a0, .int (a1 + (1 : Int32))] (ev_hp I J R T) fun r h1 c1 k1 => G 53 43 [.ref 0, .int a0, .int a1] (r.toList ++ []) h1 (cz + c1) (kz + k1) := by
  intro G
  rfl
set_option maxRecDepth 100000 in
theorem tt_r4 {a0 : Int32} {a1 : Int32} : ∀ G : ez_F, fx_up X 2 G 53 29 [.ref 0, .int a0, .int a1] [] (ev_hp I J R T) cz kz = some (some (.int (-2 : Int32)), (ev_hp I J R T), cz, kz) := by
  intro G
  rfl
set_option maxRecDepth 100000 in
theorem tt_r5 {a0 : Int32} {a1 : Int32} : ∀ G : ez_F, fx_up X 2 G 53 18 [.ref 0, .int a0, .int a1] [] (ev_hp I J R T) cz kz = some (some (.int (-6 : Int32)), (ev_hp I J R T), cz, kz) := by
  intro G
  rfl
theorem tr_15 {v x y : Int32}
    (H : ((v = (0 : Int32) → ((¬ (ev_wi x (0 : Int32) ((I 6 3) - (1 : Int32))) = (0 : Int32) → (∃ Q1 : pw_Q, pe N X 135 [.ref 10, .int x, .int (y + (1 : Int32))] (ev_hp I J R T) Q1 ∧ ∀ (r : Option Value) (h1 : ez_H), Q1 r h1 → pw N X 53 43 [.ref 0, .int x, .int y] (r.toList ++ []) h1 Q)) ∧ (¬ (¬ (ev_wi x (0 : Int32) ((I 6 3) - (1 : Int32))) = (0 : Int32)) → Q (some (.int (-2 : Int32))) (ev_hp I J R T)))) ∧ (¬ (v = (0 : Int32)) → Q (some (.int (-6 : Int32))) (ev_hp I J R T)))) : pw (N + 1) X 53 15 [.ref 0, .int x, .int y] [.int v] (ev_hp I J R T) Q := by
  refine pw_if (by decide) (fun _ _ => tt_r0) (fun w1 => ?_) (fun w1 => ?_)
  · have h1 := H.1 w1
    refine pw_p (pw_callp (by decide) (fun _ _ => tt_r1) (pe_is (eg_isLaying _ _ _ _ _ _)) ?_)
    refine pw_p (pw_if (by decide) (fun _ _ => tt_r2) (fun w2 => ?_) (fun w2 => ?_))
    · have h2 := h1.1 w2
      obtain ⟨Q1, hc, hk⟩ := h2
      exact pw_p (pw_call (by decide) (fun _ _ => tt_r3) hc hk)
    · have h2 := h1.2 w2
      exact pw_p (pw_ret (by decide) (fun _ _ => tt_r4) h2)
  · have h1 := H.2 w1
    exact pw_p (pw_ret (by decide) (fun _ _ => tt_r5) h1)
set_option maxRecDepth 100000 in
theorem tt_r6 {a0 : Int32} {a1 : Int32} {a2 : Int64} : ∀ G : ez_F, fx_up X 8 G 53 43 [.ref 0, .int a0, .int a1] [.long a2] (ev_hp I J R T) cz kz = some (some (.int ((a2.toUInt64 >>> (((2 : Int32) * a1).toInt64.toUInt64 &&& Int64.toUInt64 63)).toInt64 &&& (3 : Int64)).toInt32), (ev_hp I J R T), cz, kz) := by
  intro G
  rfl
theorem tr_43 {x y : Int32} {u : Int64}
    (H : Q (some (.int ((u.toUInt64 >>> (((2 : Int32) * y).toInt64.toUInt64 &&& Int64.toUInt64 63)).toInt64 &&& (3 : Int64)).toInt32)) (ev_hp I J R T)) : pw (N + 1) X 53 43 [.ref 0, .int x, .int y] [.long u] (ev_hp I J R T) Q := by
  exact pw_ret (by decide) (fun _ _ => tt_r6) H
set_option maxRecDepth 100000 in
theorem tt_r7 {a0 : Int32} {a1 : Int32} : ∀ G : ez_F, fx_up X 3 G 229 0 [.ref 35, .int a0, .int a1] [] (ev_hp I J R T) cz kz = ev_C G 199 [.ref 35, .int a1] (ev_hp I J R T) fun r h1 c1 k1 => G 229 5 [.ref 35, .int a0, .int a1] (r.toList ++ []) h1 (cz + c1) (kz + k1) := by
  intro G
  rfl
set_option maxRecDepth 100000 in
theorem tt_r8 {a0 : Int32} {a1 : Int32} {a2 : Int32} : ∀ G : ez_F, fx_up X 1 G 229 5 [.ref 35, .int a0, .int a1] [.int a2] (ev_hp I J R T) cz kz = bif decide (¬ a2 = (0 : Int32)) then G 229 11 [.ref 35, .int a0, .int a1] [] (ev_hp I J R T) cz kz else G 229 8 [.ref 35, .int a0, .int a1] [] (ev_hp I J R T) cz kz := by
  intro G
  rfl
set_option maxRecDepth 100000 in
theorem tt_r9 {a0 : Int32} {a1 : Int32} : ∀ G : ez_F, fx_up X 2 G 229 11 [.ref 35, .int a0, .int a1] [] (ev_hp I J R T) cz kz = ev_C G 167 [.ref 35] (ev_hp I J R T) fun r h1 c1 k1 => G 229 15 [.ref 35, .int a0, .int a1] (r.toList ++ []) h1 (cz + c1) (kz + k1) := by
  intro G
  rfl
set_option maxRecDepth 100000 in
theorem tt_r10 {a0 : Int32} {a1 : Int32} : ∀ G : ez_F, fx_up X 2 G 229 8 [.ref 35, .int a0, .int a1] [] (ev_hp I J R T) cz kz = some (some (.int (-2 : Int32)), (ev_hp I J R T), cz, kz) := by
  intro G
  rfl
theorem tu_0 {x y : Int32}
    (H : ((¬ (ev_il (y.toInt64) 0 ((((I 35 16)) - (1 : Int32)).toInt64)) = (0 : Int32) → (∃ Q1 : pw_Q, pe N X 167 [.ref 35] (ev_hp I J R T) Q1 ∧ ∀ (r : Option Value) (h1 : ez_H), Q1 r h1 → pw N X 229 15 [.ref 35, .int x, .int y] (r.toList ++ []) h1 Q)) ∧ (¬ (¬ (ev_il (y.toInt64) 0 ((((I 35 16)) - (1 : Int32)).toInt64)) = (0 : Int32)) → Q (some (.int (-2 : Int32))) (ev_hp I J R T)))) : pw (N + 1) X 229 0 [.ref 35, .int x, .int y] [] (ev_hp I J R T) Q := by
  refine pw_callp (by decide) (fun _ _ => tt_r7) (pe_is (em_isCall _ _ _ _ _ _)) ?_
  refine pw_p (pw_if (by decide) (fun _ _ => tt_r8) (fun w1 => ?_) (fun w1 => ?_))
  · have h1 := H.1 w1
    obtain ⟨Q1, hc, hk⟩ := h1
    exact pw_p (pw_call (by decide) (fun _ _ => tt_r9) hc hk)
  · have h1 := H.2 w1
    exact pw_p (pw_ret (by decide) (fun _ _ => tt_r10) h1)
set_option maxRecDepth 100000 in
theorem tt_r11 {a0 : Int32} {a1 : Int32} {a2 : Int32} : ∀ G : ez_F, fx_up X 1 G 229 15 [.ref 35, .int a0, .int a1] [.int a2] (ev_hp I J R T) cz kz = bif decide (¬ a2 = (0 : Int32)) then G 229 21 [.ref 35, .int a0, .int a1] [] (ev_hp I J R T) cz kz else G 229 18 [.ref 35, .int a0, .int a1] [] (ev_hp I J R T) cz kz := by
  intro G
  rfl
set_option maxRecDepth 100000 in
theorem tt_r12 {a0 : Int32} {a1 : Int32} : ∀ G : ez_F, fx_up X 3 G 229 21 [.ref 35, .int a0, .int a1] [] (ev_hp I J R T) cz kz = ev_C G 202 [.ref 35, .int a0] (ev_hp I J R T) fun r h1 c1 k1 => G 229 26 [.ref 35, .int a0, .int a1] (r.toList ++ []) h1 (cz + c1) (kz + k1) := by
  intro G
  rfl
set_option maxRecDepth 100000 in
theorem tt_r13 {a0 : Int32} {a1 : Int32} {a2 : Int32} : ∀ G : ez_F, fx_up X 1 G 229 26 [.ref 35, .int a0, .int a1] [.int a2] (ev_hp I J R T) cz kz = bif decide (¬ a2 = (0 : Int32)) then G 229 32 [.ref 35, .int a0, .int a1] [] (ev_hp I J R T) cz kz else G 229 29 [.ref 35, .int a0, .int a1] [] (ev_hp I J R T) cz kz := by
  intro G
  rfl
set_option maxRecDepth 100000 in
theorem tt_r14 {a0 : Int32} {a1 : Int32} : ∀ G : ez_F, fx_up X 4 G 229 32 [.ref 35, .int a0, .int a1] [] (ev_hp I J R T) cz kz = G 229 38 [.ref 35, .int a0, .int a1] [.int (I 35 16), .int a0, .ref 35] (ev_hp I J R T) cz kz := by
  intro G
  rfl
set_option maxRecDepth 100000 in
theorem tt_r15 {a0 : Int32} {a1 : Int32} {a2 : Int32} {a3 : Int32} : ∀ G : ez_F, fx_up X 1 G 229 38 [.ref 35, .int a0, .int a1] [.int a2, .int a3, .ref 35] (ev_hp I J R T) cz kz = ev_C G 192 [.ref 35, .int a3, .int a2] (ev_hp I J R T) fun r h1 c1 k1 => G 229 41 [.ref 35, .int a0, .int a1] (r.toList ++ []) h1 (cz + c1) (kz + k1) := by
  intro G
  rfl
set_option maxRecDepth 100000 in
theorem tt_r16 {a0 : Int32} {a1 : Int32} : ∀ G : ez_F, fx_up X 2 G 229 29 [.ref 35, .int a0, .int a1] [] (ev_hp I J R T) cz kz = some (some (.int (-2 : Int32)), (ev_hp I J R T), cz, kz) := by
  intro G
  rfl
set_option maxRecDepth 100000 in
theorem tt_r17 {a0 : Int32} {a1 : Int32} : ∀ G : ez_F, fx_up X 2 G 229 18 [.ref 35, .int a0, .int a1] [] (ev_hp I J R T) cz kz = some (some (.int (-6 : Int32)), (ev_hp I J R T), cz, kz) := by
  intro G
  rfl
theorem tu_15 {v x y : Int32}
    (H : ((¬ v = (0 : Int32) → ((¬ (ev_il (x.toInt64) 0 ((((I 35 14)) - (1 : Int32)).toInt64)) = (0 : Int32) → (∃ Q1 : pw_Q, pe N X 192 [.ref 35, .int x, .int (I 35 16)] (ev_hp I J R T) Q1 ∧ ∀ (r : Option Value) (h1 : ez_H), Q1 r h1 → pw N X 229 41 [.ref 35, .int x, .int y] (r.toList ++ []) h1 Q)) ∧ (¬ (¬ (ev_il (x.toInt64) 0 ((((I 35 14)) - (1 : Int32)).toInt64)) = (0 : Int32)) → Q (some (.int (-2 : Int32))) (ev_hp I J R T)))) ∧ (¬ (¬ v = (0 : Int32)) → Q (some (.int (-6 : Int32))) (ev_hp I J R T)))) : pw (N + 1) X 229 15 [.ref 35, .int x, .int y] [.int v] (ev_hp I J R T) Q := by
  refine pw_if (by decide) (fun _ _ => tt_r11) (fun w1 => ?_) (fun w1 => ?_)
  · have h1 := H.1 w1
    refine pw_p (pw_callp (by decide) (fun _ _ => tt_r12) (pe_is (em_isLaying _ _ _ _ _ _)) ?_)
    refine pw_p (pw_if (by decide) (fun _ _ => tt_r13) (fun w2 => ?_) (fun w2 => ?_))
    · have h2 := h1.1 w2
      refine pw_p (pw_seg (by decide) (fun _ _ => tt_r14) ?_)
      obtain ⟨Q1, hc, hk⟩ := h2
      exact pw_p (pw_call (by decide) (fun _ _ => tt_r15) hc hk)
    · have h2 := h1.2 w2
      exact pw_p (pw_ret (by decide) (fun _ _ => tt_r16) h2)
  · have h1 := H.2 w1
    exact pw_p (pw_ret (by decide) (fun _ _ => tt_r17) h1)
set_option maxRecDepth 100000 in
theorem tt_r18 {a0 : Int32} {a1 : Int32} : ∀ G : ez_F, fx_up X 3 G 229 41 [.ref 35, .int a0, .int a1] [] (ev_hp I J R T) cz kz = G 229 46 [.ref 35, .int a0, .int a1] [.int a1, .ref 48] (ev_hp I J R T) cz kz := by
  intro G
  rfl
set_option maxRecDepth 100000 in
theorem tt_r19 {a0 : Int32} {a1 : Int32} {a2 : Int32} : ∀ G : ez_F, fx_up X 1 G 229 47 [.ref 35, .int a0, .int a1] [.int a2] (ev_hp I J R T) cz kz = some (some (.int a2), (ev_hp I J R T), cz, kz) := by
  intro G
  rfl
theorem tu_41 {x y : Int32}
    (H : (ev_ix y 31 → Q (some (.int (I 48 y.toNatClampNeg))) (ev_hp I J R T))) : pw (N + 1) X 229 41 [.ref 35, .int x, .int y] [] (ev_hp I J R T) Q := by
  refine pw_seg (by decide) (fun _ _ => tt_r18) ?_
  refine pw_p (pw_iald (by rfl) (cx_getI (show cx_Ds[48]? = some (0, 31, []) from rfl)) (fun w1 => ?_))
  have h1 := H w1
  exact pw_p (pw_ret (by decide) (fun _ _ => tt_r19) h1)
set_option maxRecDepth 100000 in
theorem tt_r20 {a0 : Int32} {a1 : Int32} {a2 : Int32} {a3 : Int32} : ∀ G : ez_F, fx_up X 1 G 31 35 [.ref 0, .int a0, .int a1, .int a2] [.int a3] (ev_hp I J R T) cz kz = bif decide (a3 = (0 : Int32)) then G 31 42 [.ref 0, .int a0, .int a1, .int a2] [] (ev_hp I J R T) cz kz else G 31 38 [.ref 0, .int a0, .int a1, .int a2] [] (ev_hp I J R T) cz kz := by
  intro G
  rfl
set_option maxRecDepth 100000 in
theorem tt_r21 {a0 : Int32} {a1 : Int32} {a2 : Int32} : ∀ G : ez_F, fx_up X 3 G 31 42 [.ref 0, .int a0, .int a1, .int a2] [] (ev_hp I J R T) cz kz = ev_C G 23 [.ref 0, .int a0] (ev_hp I J R T) fun r h1 c1 k1 => G 31 47 [.ref 0, .int a0, .int a1, .int a2] (r.toList ++ []) h1 (cz + c1) (kz + k1) := by
  intro G
  rfl
set_option maxRecDepth 100000 in
theorem tt_r22 {a0 : Int32} {a1 : Int32} {a2 : Int32} {a3 : Int32} : ∀ G : ez_F, fx_up X 1 G 31 47 [.ref 0, .int a0, .int a1, .int a2] [.int a3] (ev_hp I J R T) cz kz = bif decide (¬ a3 = (0 : Int32)) then G 31 54 [.ref 0, .int a0, .int a1, .int a2] [] (ev_hp I J R T) cz kz else G 31 50 [.ref 0, .int a0, .int a1, .int a2] [] (ev_hp I J R T) cz kz := by
  intro G
  rfl
set_option maxRecDepth 100000 in
theorem tt_r23 {a0 : Int32} {a1 : Int32} {a2 : Int32} : ∀ G : ez_F, fx_up X 5 G 31 54 [.ref 0, .int a0, .int a1, .int a2] [] (ev_hp I J R T) cz kz = ev_C G 135 [.ref 10, .int a0, .int a2] (ev_hp I J R T) fun r h1 c1 k1 => G 31 63 [.ref 0, .int a0, .int a1, .int a2] (r.toList ++ []) h1 (cz + c1) (kz + k1) := by
  intro G
  rfl
set_option maxRecDepth 100000 in
theorem tt_r24 {a0 : Int32} {a1 : Int32} {a2 : Int32} : ∀ G : ez_F, fx_up X 2 G 31 50 [.ref 0, .int a0, .int a1, .int a2] [] (ev_hp I J R T) cz kz = some (some (.long (18446744073709551614 : Int64)), (ev_hp I J R T), cz, kz) := by
  intro G
  rfl
set_option maxRecDepth 100000 in
theorem tt_r25 {a0 : Int32} {a1 : Int32} {a2 : Int32} : ∀ G : ez_F, fx_up X 2 G 31 38 [.ref 0, .int a0, .int a1, .int a2] [] (ev_hp I J R T) cz kz = some (some (.long (18446744073709551610 : Int64)), (ev_hp I J R T), cz, kz) := by
  intro G
  rfl
theorem li_35 {v x y z : Int32}
    (H : ((v = (0 : Int32) → ((¬ (ev_wi x (0 : Int32) ((I 6 3) - (1 : Int32))) = (0 : Int32) → (∃ Q1 : pw_Q, pe N X 135 [.ref 10, .int x, .int z] (ev_hp I J R T) Q1 ∧ ∀ (r : Option Value) (h1 : ez_H), Q1 r h1 → pw N X 31 63 [.ref 0, .int x, .int y, .int z] (r.toList ++ []) h1 Q)) ∧ (¬ (¬ (ev_wi x (0 : Int32) ((I 6 3) - (1 : Int32))) = (0 : Int32)) → Q (some (.long (18446744073709551614 : Int64))) (ev_hp I J R T)))) ∧ (¬ (v = (0 : Int32)) → Q (some (.long (18446744073709551610 : Int64))) (ev_hp I J R T)))) : pw (N + 1) X 31 35 [.ref 0, .int x, .int y, .int z] [.int v] (ev_hp I J R T) Q := by
  refine pw_if (by decide) (fun _ _ => tt_r20) (fun w1 => ?_) (fun w1 => ?_)
  · have h1 := H.1 w1
    refine pw_p (pw_callp (by decide) (fun _ _ => tt_r21) (pe_is (eg_isLaying _ _ _ _ _ _)) ?_)
    refine pw_p (pw_if (by decide) (fun _ _ => tt_r22) (fun w2 => ?_) (fun w2 => ?_))
    · have h2 := h1.1 w2
      obtain ⟨Q1, hc, hk⟩ := h2
      exact pw_p (pw_call (by decide) (fun _ _ => tt_r23) hc hk)
    · have h2 := h1.2 w2
      exact pw_p (pw_ret (by decide) (fun _ _ => tt_r24) h2)
  · have h1 := H.2 w1
    exact pw_p (pw_ret (by decide) (fun _ _ => tt_r25) h1)
set_option maxRecDepth 100000 in
theorem tt_r26 {a0 : Int32} {a1 : Int32} {a2 : Int32} {a3 : Int64} : ∀ G : ez_F, fx_up X 5 G 31 63 [.ref 0, .int a0, .int a1, .int a2] [.long a3] (ev_hp I J R T) cz kz = ev_C G 133 [.ref 10, .int a1] (ev_hp I J R T) fun r h1 c1 k1 => G 31 72 [.ref 0, .int a0, .int a1, .int a2] (r.toList ++ []) h1 (cz + c1) (kz + k1) := by
  intro G
  rfl
set_option maxRecDepth 100000 in
theorem tt_r27 {a0 : Int32} {a1 : Int32} {a2 : Int32} {a3 : Int64} : ∀ G : ez_F, fx_up X 1 G 31 72 [.ref 0, .int a0, .int a1, .int a2] [.long a3] (ev_hp I J R T) cz kz = some (some (.long a3), (ev_hp I J R T), cz, kz) := by
  intro G
  rfl
theorem li_63 {x y z : Int32} {u : Int64}
    (H : Q (some (.long (ev_atJ 3 (J 11) y))) (ev_hp I J R T)) : pw (N + 1) X 31 63 [.ref 0, .int x, .int y, .int z] [.long u] (ev_hp I J R T) Q := by
  refine pw_callp (by decide) (fun _ _ => tt_r26) (pe_placeOf) ?_
  exact pw_p (pw_ret (by decide) (fun _ _ => tt_r27) H)
set_option maxRecDepth 100000 in
theorem tt_r28 {a0 : Int32} {a1 : Int32} {a2 : Int32} : ∀ G : ez_F, fx_up X 3 G 208 0 [.ref 35, .int a0, .int a1, .int a2] [] (ev_hp I J R T) cz kz = ev_C G 204 [.ref 35, .int a1] (ev_hp I J R T) fun r h1 c1 k1 => G 208 5 [.ref 35, .int a0, .int a1, .int a2] (r.toList ++ []) h1 (cz + c1) (kz + k1) := by
  intro G
  rfl
set_option maxRecDepth 100000 in
theorem tt_r29 {a0 : Int32} {a1 : Int32} {a2 : Int32} {a3 : Int32} : ∀ G : ez_F, fx_up X 1 G 208 5 [.ref 35, .int a0, .int a1, .int a2] [.int a3] (ev_hp I J R T) cz kz = bif decide (¬ a3 = (0 : Int32)) then G 208 12 [.ref 35, .int a0, .int a1, .int a2] [] (ev_hp I J R T) cz kz else G 208 8 [.ref 35, .int a0, .int a1, .int a2] [] (ev_hp I J R T) cz kz := by
  intro G
  rfl
set_option maxRecDepth 100000 in
theorem tt_r30 {a0 : Int32} {a1 : Int32} {a2 : Int32} : ∀ G : ez_F, fx_up X 5 G 208 12 [.ref 35, .int a0, .int a1, .int a2] [] (ev_hp I J R T) cz kz = G 208 19 [.ref 35, .int a0, .int a1, .int a2] [.int (I 35 16), .long (0 : Int64), .long a2.toInt64] (ev_hp I J R T) cz kz := by
  intro G
  rfl
set_option maxRecDepth 100000 in
theorem tt_r31 {a0 : Int32} {a1 : Int32} {a2 : Int32} {a3 : Int32} {a4 : Int64} {a5 : Int64} : ∀ G : ez_F, fx_up X 2 G 208 19 [.ref 35, .int a0, .int a1, .int a2] [.int a3, .long a4, .long a5] (ev_hp I J R T) cz kz = ev_C G 198 [.long a5, .long a4, .long a3.toInt64] (ev_hp I J R T) fun r h1 c1 k1 => G 208 23 [.ref 35, .int a0, .int a1, .int a2] (r.toList ++ []) h1 (cz + c1) (kz + k1) := by
  intro G
  rfl
set_option maxRecDepth 100000 in
theorem tt_r32 {a0 : Int32} {a1 : Int32} {a2 : Int32} {a3 : Int32} : ∀ G : ez_F, fx_up X 1 G 208 23 [.ref 35, .int a0, .int a1, .int a2] [.int a3] (ev_hp I J R T) cz kz = bif decide (¬ a3 = (0 : Int32)) then G 208 30 [.ref 35, .int a0, .int a1, .int a2] [] (ev_hp I J R T) cz kz else G 208 26 [.ref 35, .int a0, .int a1, .int a2] [] (ev_hp I J R T) cz kz := by
  intro G
  rfl
set_option maxRecDepth 100000 in
theorem tt_r33 {a0 : Int32} {a1 : Int32} {a2 : Int32} : ∀ G : ez_F, fx_up X 2 G 208 30 [.ref 35, .int a0, .int a1, .int a2] [] (ev_hp I J R T) cz kz = ev_C G 167 [.ref 35] (ev_hp I J R T) fun r h1 c1 k1 => G 208 34 [.ref 35, .int a0, .int a1, .int a2] (r.toList ++ []) h1 (cz + c1) (kz + k1) := by
  intro G
  rfl
set_option maxRecDepth 100000 in
theorem tt_r34 {a0 : Int32} {a1 : Int32} {a2 : Int32} : ∀ G : ez_F, fx_up X 2 G 208 26 [.ref 35, .int a0, .int a1, .int a2] [] (ev_hp I J R T) cz kz = some (some (.long (18446744073709551613 : Int64)), (ev_hp I J R T), cz, kz) := by
  intro G
  rfl
set_option maxRecDepth 100000 in
theorem tt_r35 {a0 : Int32} {a1 : Int32} {a2 : Int32} : ∀ G : ez_F, fx_up X 2 G 208 8 [.ref 35, .int a0, .int a1, .int a2] [] (ev_hp I J R T) cz kz = some (some (.long (18446744073709551614 : Int64)), (ev_hp I J R T), cz, kz) := by
  intro G
  rfl
theorem lj_0 {x y z : Int32}
    (H : ((¬ (ev_il (y.toInt64) 0 ((((I 35 3)) - (1 : Int32)).toInt64)) = (0 : Int32) → ((¬ (ev_il z.toInt64 (0 : Int64) ((I 35 16).toInt64)) = (0 : Int32) → (∃ Q1 : pw_Q, pe N X 167 [.ref 35] (ev_hp I J R T) Q1 ∧ ∀ (r : Option Value) (h1 : ez_H), Q1 r h1 → pw N X 208 34 [.ref 35, .int x, .int y, .int z] (r.toList ++ []) h1 Q)) ∧ (¬ (¬ (ev_il z.toInt64 (0 : Int64) ((I 35 16).toInt64)) = (0 : Int32)) → Q (some (.long (18446744073709551613 : Int64))) (ev_hp I J R T)))) ∧ (¬ (¬ (ev_il (y.toInt64) 0 ((((I 35 3)) - (1 : Int32)).toInt64)) = (0 : Int32)) → Q (some (.long (18446744073709551614 : Int64))) (ev_hp I J R T)))) : pw (N + 1) X 208 0 [.ref 35, .int x, .int y, .int z] [] (ev_hp I J R T) Q := by
  refine pw_callp (by decide) (fun _ _ => tt_r28) (pe_is (em_isShip _ _ _ _ _ _)) ?_
  refine pw_p (pw_if (by decide) (fun _ _ => tt_r29) (fun w1 => ?_) (fun w1 => ?_))
  · have h1 := H.1 w1
    refine pw_p (pw_seg (by decide) (fun _ _ => tt_r30) ?_)
    refine pw_p (pw_callp (by decide) (fun _ _ => tt_r31) (pe_is (ec_in _ _ _ _ _)) ?_)
    refine pw_p (pw_if (by decide) (fun _ _ => tt_r32) (fun w2 => ?_) (fun w2 => ?_))
    · have h2 := h1.1 w2
      obtain ⟨Q1, hc, hk⟩ := h2
      exact pw_p (pw_call (by decide) (fun _ _ => tt_r33) hc hk)
    · have h2 := h1.2 w2
      exact pw_p (pw_ret (by decide) (fun _ _ => tt_r34) h2)
  · have h1 := H.2 w1
    exact pw_p (pw_ret (by decide) (fun _ _ => tt_r35) h1)
set_option maxRecDepth 100000 in
theorem tt_r36 {a0 : Int32} {a1 : Int32} {a2 : Int32} {a3 : Int32} : ∀ G : ez_F, fx_up X 1 G 208 34 [.ref 35, .int a0, .int a1, .int a2] [.int a3] (ev_hp I J R T) cz kz = bif decide (¬ a3 = (0 : Int32)) then G 208 41 [.ref 35, .int a0, .int a1, .int a2] [] (ev_hp I J R T) cz kz else G 208 37 [.ref 35, .int a0, .int a1, .int a2] [] (ev_hp I J R T) cz kz := by
  intro G
  rfl
set_option maxRecDepth 100000 in
theorem tt_r37 {a0 : Int32} {a1 : Int32} {a2 : Int32} : ∀ G : ez_F, fx_up X 3 G 208 41 [.ref 35, .int a0, .int a1, .int a2] [] (ev_hp I J R T) cz kz = ev_C G 202 [.ref 35, .int a0] (ev_hp I J R T) fun r h1 c1 k1 => G 208 46 [.ref 35, .int a0, .int a1, .int a2] (r.toList ++ []) h1 (cz + c1) (kz + k1) := by
  intro G
  rfl
set_option maxRecDepth 100000 in
theorem tt_r38 {a0 : Int32} {a1 : Int32} {a2 : Int32} {a3 : Int32} : ∀ G : ez_F, fx_up X 1 G 208 46 [.ref 35, .int a0, .int a1, .int a2] [.int a3] (ev_hp I J R T) cz kz = bif decide (¬ a3 = (0 : Int32)) then G 208 53 [.ref 35, .int a0, .int a1, .int a2] [] (ev_hp I J R T) cz kz else G 208 49 [.ref 35, .int a0, .int a1, .int a2] [] (ev_hp I J R T) cz kz := by
  intro G
  rfl
set_option maxRecDepth 100000 in
theorem tt_r39 {a0 : Int32} {a1 : Int32} {a2 : Int32} : ∀ G : ez_F, fx_up X 4 G 208 53 [.ref 35, .int a0, .int a1, .int a2] [] (ev_hp I J R T) cz kz = ev_C G 192 [.ref 35, .int a0, .int a2] (ev_hp I J R T) fun r h1 c1 k1 => G 208 59 [.ref 35, .int a0, .int a1, .int a2] (r.toList ++ []) h1 (cz + c1) (kz + k1) := by
  intro G
  rfl
set_option maxRecDepth 100000 in
theorem tt_r40 {a0 : Int32} {a1 : Int32} {a2 : Int32} : ∀ G : ez_F, fx_up X 2 G 208 49 [.ref 35, .int a0, .int a1, .int a2] [] (ev_hp I J R T) cz kz = some (some (.long (18446744073709551614 : Int64)), (ev_hp I J R T), cz, kz) := by
  intro G
  rfl
set_option maxRecDepth 100000 in
theorem tt_r41 {a0 : Int32} {a1 : Int32} {a2 : Int32} : ∀ G : ez_F, fx_up X 2 G 208 37 [.ref 35, .int a0, .int a1, .int a2] [] (ev_hp I J R T) cz kz = some (some (.long (18446744073709551610 : Int64)), (ev_hp I J R T), cz, kz) := by
  intro G
  rfl
theorem lj_34 {v x y z : Int32}
    (H : ((¬ v = (0 : Int32) → ((¬ (ev_il (x.toInt64) 0 ((((I 35 14)) - (1 : Int32)).toInt64)) = (0 : Int32) → (∃ Q1 : pw_Q, pe N X 192 [.ref 35, .int x, .int z] (ev_hp I J R T) Q1 ∧ ∀ (r : Option Value) (h1 : ez_H), Q1 r h1 → pw N X 208 59 [.ref 35, .int x, .int y, .int z] (r.toList ++ []) h1 Q)) ∧ (¬ (¬ (ev_il (x.toInt64) 0 ((((I 35 14)) - (1 : Int32)).toInt64)) = (0 : Int32)) → Q (some (.long (18446744073709551614 : Int64))) (ev_hp I J R T)))) ∧ (¬ (¬ v = (0 : Int32)) → Q (some (.long (18446744073709551610 : Int64))) (ev_hp I J R T)))) : pw (N + 1) X 208 34 [.ref 35, .int x, .int y, .int z] [.int v] (ev_hp I J R T) Q := by
  refine pw_if (by decide) (fun _ _ => tt_r36) (fun w1 => ?_) (fun w1 => ?_)
  · have h1 := H.1 w1
    refine pw_p (pw_callp (by decide) (fun _ _ => tt_r37) (pe_is (em_isLaying _ _ _ _ _ _)) ?_)
    refine pw_p (pw_if (by decide) (fun _ _ => tt_r38) (fun w2 => ?_) (fun w2 => ?_))
    · have h2 := h1.1 w2
      obtain ⟨Q1, hc, hk⟩ := h2
      exact pw_p (pw_call (by decide) (fun _ _ => tt_r39) hc hk)
    · have h2 := h1.2 w2
      exact pw_p (pw_ret (by decide) (fun _ _ => tt_r40) h2)
  · have h1 := H.2 w1
    exact pw_p (pw_ret (by decide) (fun _ _ => tt_r41) h1)
set_option maxRecDepth 100000 in
theorem tt_r42 {a0 : Int32} {a1 : Int32} {a2 : Int32} : ∀ G : ez_F, fx_up X 3 G 208 59 [.ref 35, .int a0, .int a1, .int a2] [] (ev_hp I J R T) cz kz = G 208 64 [.ref 35, .int a0, .int a1, .int a2] [.int a1, .ref 45] (ev_hp I J R T) cz kz := by
  intro G
  rfl
set_option maxRecDepth 100000 in
theorem tt_r43 {a0 : Int32} {a1 : Int32} {a2 : Int32} {a3 : Int64} : ∀ G : ez_F, fx_up X 1 G 208 65 [.ref 35, .int a0, .int a1, .int a2] [.long a3] (ev_hp I J R T) cz kz = some (some (.long a3), (ev_hp I J R T), cz, kz) := by
  intro G
  rfl
theorem lj_59 {x y z : Int32}
    (H : (ev_ix y 3 → Q (some (.long (J 45 y.toNatClampNeg))) (ev_hp I J R T))) : pw (N + 1) X 208 59 [.ref 35, .int x, .int y, .int z] [] (ev_hp I J R T) Q := by
  refine pw_seg (by decide) (fun _ _ => tt_r42) ?_
  refine pw_p (pw_lald (by rfl) (cx_getJ (show cx_Ds[45]? = some (1, 3, []) from rfl)) (fun w1 => ?_))
  have h1 := H w1
  exact pw_p (pw_ret (by decide) (fun _ _ => tt_r43) h1)
end
section
variable {N : Nat} {X : ez_X} {I I' I1 : Nat → Nat → Int32} {J J' J1 : Nat → Nat → Int64} {R R' R1 : Nat → Nat} {T T' T1 : List ez_C} {v x y z : Int32} {u w : Int64} {f6 : Nat → Int32} {t : ly_t}
/-- behind tooMany, where there are not too many: the register's row -/
theorem se_row {L : List ly_t} {h : ez_H} (hs : se_Q I J R T L h) : ∃ f6 R' T' n f, h = ev_hp (ev_sI I 6 f6) J R' T' ∧ ev_sI I 6 f6 6 3 = Int32.ofNat L.length ∧ rowT (R' 0) T' n f ∧ L.length ≤ n ∧ n ≤ 10000 ∧ ly_row f L ∧ bk (ev_sI I 6 f6) J = bk I J := by
  obtain ⟨f6, R', T', rfl, g1, ⟨g2, n, f, g3, g4, g5, g6⟩, g7⟩ := hs
  refine ⟨f6, R', T', n, f, rfl, g2, g3, g4, g5, g6, ?_⟩
  unfold bk
  rw [cx_sI_n _ _ (show (8 : Nat) ≠ 6 by decide), cx_sI_n _ _ (show (3 : Nat) ≠ 6 by decide), cx_sI_n _ _ (show (5 : Nat) ≠ 6 by decide), cx_sI_n _ _ (show (2 : Nat) ≠ 6 by decide), cx_sI_n _ _ (show (1 : Nat) ≠ 6 by decide), cx_sI_n _ _ (show (33 : Nat) ≠ 6 by decide)]
/-- laying k is played by the class -/
theorem pe_play (hr : rl I J) (hB : cx_hB cx_B0 I) {n0 : Nat} {f : Nat → Int32} (g3 : rowT (R 0) T n0 f) (g4 : (ls I J).length ≤ n0) (g5 : n0 ≤ 10000) (g6 : ly_row f (ls I J)) {A : Nat → Nat → Int32} (eb : bk A J = bk I J) {k n : Nat} (hk : k < (ls I J).length) (hx : x = Int32.ofNat k) (hy : y = Int32.ofNat n) (hn : n ≤ 30) :
    pe N X 135 [.ref 10, .int x, .int y] (ev_hp A J R T) (fun r h => r = some (.long (xz I J (ls I J)[k] n)) ∧ ∃ J', h = ev_hp A J' R T ∧ xh A J (ls I J)[k] n J') := by
  have hm := List.getElem_mem hk
  obtain ⟨b0, b1, b2⟩ := ls_512 hr hB hm
  have e33 : A 3 3 = I 3 3 := (bk_at eb).2.1
  rw [← (bk_xq eb (ls I J)[k]).2.2.2]
  subst hx
  refine pe_through g3 g5 (by rw [at_k (by omega) g5, g6 k hk]) (by rw [e33]; exact (b_sh hB).1) b0 b1 b2 (fun s hs => ?_) hy hn
  rw [e33] at hs
  have := ly_in hr hB hm hs
  have := (fi_n hr hs).2.1
  omega
noncomputable def v_truth (I : Nat → Nat → Int32) (J : Nat → Nat → Int64) (x y : Int32) : Int32 := if ev_wi y 0 (I 8 1 - 1) = 0 then -2 else if sn I 0 * (sn I 1 * sn I 2) ≤ 10000 then (if ev_wi x 0 (Int32.ofNat (ls I J).length - 1) = 0 then -2 else Int32.ofNat (xt I J ((ls I J).getD x.toInt.toNat (0, 0, 0)) y.toInt.toNat)) else -6
theorem v_truth_b (e : bk I' J' = bk I J) : v_truth I' J' x y = v_truth I J x y := by
  obtain ⟨h1, h2⟩ := bk_ls e
  unfold v_truth
  rw [h1, h2 0, h2 1, h2 2, (bk_at e).1, (bk_xq e _).2.2.1]
theorem pe_xtruth (h : rl3 I J R T) (hh : cx_hok cx_B0 I R T) : pe N X 53 [.ref 0, .int x, .int y] (ev_hp I J R T) (fun r _ => r = some (.int (v_truth I J x y))) := by
  obtain ⟨W, HH, k0, hg, ek, -⟩ := gk_of h hh.1
  have hg0 := hg
  obtain ⟨e0, e1, hW, hH, -, -, -, -, -, hk30, -⟩ := hg
  have hr := h.1.1
  refine pe_of (pw_p (xo_truth ⟨fun hy => ⟨_, pe_tm hr hh h.1.2, ?_⟩, fun hy => ?_⟩))
  · rintro r h' (⟨h1, rfl, rfl⟩ | ⟨h1, rfl, h2⟩)
    · refine pw_p (tr_15 ⟨fun z => absurd z (by decide), fun _ => ?_⟩)
      unfold v_truth
      rw [if_neg hy, if_neg (by omega)]
    · obtain ⟨f6, R', T', n, f, rfl, g2, g3, g4, g5, g6, eb⟩ := se_row h2
      refine pw_p (tr_15 ⟨fun _ => ⟨fun hx => ?_, fun hx => ?_⟩, fun z => absurd rfl z⟩)
      · rw [g2] at hx
        obtain ⟨k, rfl, hk⟩ := wi_len (by omega) hx
        have hy2 := hy
        rw [ek] at hy2
        obtain ⟨c, rfl, hc⟩ := wi_len (by omega) hy2
        refine ⟨_, pe_play (n := c + 1) hr hh.1 g3 g4 g5 g6 eb hk rfl (io_1 c) (by omega), ?_⟩
        rintro r h' ⟨rfl, J', rfl, -⟩
        refine pw_p (tr_43 ?_)
        have ht := fun d (hd : d < c + 1) => xt_le (t := (ls I J)[k]) hg0 (pk_ls hr hh.1 (List.getElem_mem hk) e0 e1 hW hH) (show d < k0 by omega)
        have hv := pl_z_at (show c + 1 ≤ 30 by omega) ht (Nat.lt_succ_self c)
        unfold v_truth
        rw [if_neg hy, if_pos h1, if_neg hx, io_ti (by omega), io_ti (by omega), Int.toNat_natCast, Int.toNat_natCast, ly_gd hk]
        exact congrArg (fun q => some (Value.int q)) hv
      · rw [g2] at hx
        unfold v_truth
        rw [if_neg hy, if_pos h1, if_pos (Classical.not_not.mp hx)]
  · unfold v_truth
    rw [if_pos (Classical.not_not.mp hy)]
/-- behind areLaid: the reference's own cells -/
theorem al_gk {W HH ns n : Nat} (hg : gk I J W HH ns n) {I' : Nat → Nat → Int32} {J' : Nat → Nat → Int64} (fI : ∀ a, a ≠ 38 → I' a = I a) (fJ : ∀ a, a ≠ 39 → a ≠ 40 → J' a = J a) (w' : Nat → Int32) (l : Nat) : gk (al_I I' w' l) J' W HH ns n ∧ bk (al_I I' w' l) J' = bk I J ∧ (∀ k, k ≠ 14 → al_I I' w' l 35 k = I 35 k) ∧ al_I I' w' l 35 14 = Int32.ofNat l ∧ al_I I' w' l 41 = w' ∧ ∀ a, a ≠ 35 → a ≠ 38 → a ≠ 41 → al_I I' w' l a = I a := by
  have e35 : ∀ k, k ≠ 14 → al_I I' w' l 35 k = I 35 k := fun k hk => by
    unfold al_I
    rw [cx_sI_s, upd_n _ _ hk, fI 35 (by decide)]
  have eI : ∀ a, a ≠ 35 → a ≠ 38 → a ≠ 41 → al_I I' w' l a = I a := fun a h1 h2 h3 => by
    unfold al_I
    rw [cx_sI_n _ _ h1, cx_sI_n _ _ h3, fI a h2]
  obtain ⟨h1, h2⟩ := gk_c eI e35 fJ hg
  refine ⟨h1, h2, e35, ?_, ?_, eI⟩
  · unfold al_I
    rw [cx_sI_s, upd_s]
  · unfold al_I
    rw [cx_sI_n _ _ (by decide), cx_sI_s]
/-- laying k is gone through by the reference, behind areLaid -/
theorem pe_goes (h : rl3 I J R T) (hB : cx_hB cx_B0 I) {W HH n : Nat} (hg : gk I J W HH (rf_n I) n) {I' : Nat → Nat → Int32} {J' : Nat → Nat → Int64} (fI : ∀ a, a ≠ 38 → I' a = I a) (fJ : ∀ a, a ≠ 39 → a ≠ 40 → J' a = J a) (fE : ∀ s, s < rf_n I → ∀ a, a < in_n I s → J' 39 (300 * s + a) = J 4 (288 * s + a)) {w' : Nat → Int32} (hw' : ml_row w' (ls I J)) (hlen : (ls I J).length ≤ 10000)
    {k m : Nat} (hk : k < (ls I J).length) (hx : x = Int32.ofNat k) (hy : y = Int32.ofNat m) (hm : m ≤ n) {A : Nat → Nat → Int32} {B : Nat → Nat → Int64} (hA : ∀ a, a ≠ 48 → A a = al_I I' w' (ls I J).length a) (hBk : ∀ a, a ≠ 45 → a ≠ 46 → a ≠ 47 → B a = J' a) :
    pe N X 192 [.ref 35, .int x, .int y] (ev_hp A B R1 T1) (fun r h => r = none ∧ ∃ f K G1 G2, h = ev_hp (ev_sI A 48 f) (ev_sJ (ev_sJ (ev_sJ B 47 K) 45 G1) 46 G2) R1 T1 ∧ (∀ s, s < rf_n I → G1 s = (xq I J (ls I J)[k] m).1 s ∧ G2 s = (xq I J (ls I J)[k] m).2 s) ∧ ∀ c, c < m → f c = Int32.ofNat (xt I J (ls I J)[k] c)) := by
  have hr := h.1.1
  obtain ⟨g1, eb, e35, e14, e41, eI⟩ := al_gk hg fI fJ w' (ls I J).length
  have e3 : I 3 3 = I 35 3 := (km_0 hr.1).2.2.2
  have hmem := List.getElem_mem hk
  have hw2 := hw' k hk
  obtain ⟨e0, e1, hW, hH, -⟩ := hg
  have gA : gk A B W HH (rf_n I) n ∧ bk A B = bk (al_I I' w' (ls I J).length) J' := by
    have ebk : bk A B = bk (al_I I' w' (ls I J).length) J' := by
      unfold bk
      rw [hA 8 (by decide), hA 3 (by decide), hA 5 (by decide), hA 2 (by decide), hA 1 (by decide), hA 33 (by decide), hBk 4 (by decide) (by decide) (by decide), hBk 9 (by decide) (by decide) (by decide), hBk 1 (by decide) (by decide) (by decide), hBk 8 (by decide) (by decide) (by decide)]
    refine ⟨?_, ebk⟩
    have hm : mvF A B = mvF (al_I I' w' (ls I J).length) J' := funext fun z => by
      unfold mvF
      rw [hA 1 (by decide), hBk 1 (by decide) (by decide) (by decide)]
    have hd : drF A = drF (al_I I' w' (ls I J).length) := by
      unfold drF
      rw [hA 1 (by decide)]
    unfold gk
    rw [hA 35 (by decide), hA 2 (by decide), hA 42 (by decide), hA 43 (by decide), hBk 9 (by decide) (by decide) (by decide), hm, hd]
    exact g1
  obtain ⟨gA, eA⟩ := gA
  have eX := eA.trans eb
  have hpk := pk_ls hr hB hmem e0 e1 hW hH
  have hl : ∀ s, s < rf_n I → ly_at (ls I J)[k] s < in_n I s ∧ in_n I s ≤ 288 := fun s hs => by
    have hs' : s < (I 3 3).toInt.toNat := by rw [e3]; exact hs
    exact ⟨ly_in hr hB hmem hs', (fi_n hr hs').2.1⟩
  have hn3 := (rf_ns hB).2
  refine pe_mono (pe_go (t := (ls I J)[k]) (m := m) gA (by rw [(bk_xq eX _).1]; exact hpk) hx (by omega) (fun s hs => ?_) (fun s hs => ?_) (fun s hs => ?_) hy hm) ?_
  · rw [hA 41 (by decide), e41]
    rcases (show s = 0 ∨ s = 1 ∨ s = 2 by omega) with rfl | rfl | rfl
    · exact hw2.1
    · exact hw2.2.1
    · exact hw2.2.2
  · have := hl s hs
    omega
  · rw [hBk 39 (by decide) (by decide) (by decide), fE s hs _ (hl s hs).1, (bk_xq eX _).1]
    unfold ly_s
    rw [if_pos (by rw [e3]; exact hs)]
  · rintro r h' ⟨rfl, I2, J2, rfl, f, K, G1, G2, rfl, rfl, q1, q2⟩
    rw [(bk_xq eX _).2.1] at q1
    rw [(bk_xq eX _).2.2.1] at q2
    exact ⟨rfl, f, K, G1, G2, rfl, q1, q2⟩
theorem pe_mtruth (h : rl3 I J R T) (hB : cx_hB cx_B0 I) : pe N X 229 [.ref 35, .int x, .int y] (ev_hp I J R T) (fun r _ => r = some (.int (v_truth I J x y))) := by
  obtain ⟨W, HH, k0, hg, ek, ek2⟩ := gk_of h hB
  have hk30 : k0 ≤ 30 := by
    obtain ⟨-, -, -, -, -, -, -, -, -, z, -⟩ := hg
    exact z
  have hr := h.1.1
  refine pe_of (pw_p (tu_0 ⟨fun hy => ⟨_, pe_laid hr hB N, ?_⟩, fun hy => ?_⟩))
  · rw [il_0, ek2] at hy
    rintro r h' ⟨I', J', ⟨fI, fJ, fE⟩, ⟨h1, rfl, rfl⟩ | ⟨h1, rfl, w', rfl, hw'⟩⟩
    · refine pw_p (tu_15 ⟨fun z => absurd rfl z, fun _ => ?_⟩)
      unfold v_truth
      rw [if_neg hy, pr_is hr hB, if_neg (by omega)]
    · have hlen := ly_1l (lm_p (rf_n I) (rf_f J) (rf_g I J)) (lm_q (rf_n I) (rf_f J) (rf_g I J)) (mm (in_n I) (rf_n I) 1) (mm (in_n I) (rf_n I) 2) (mm (in_n I) (rf_n I) 0)
      have hlen2 : (lm_L (rf_n I) (in_n I) (rf_f J) (rf_g I J)).length ≤ 10000 := Nat.le_trans hlen (by rw [pr_mm _ (rf_ns hB).2]; exact h1)
      rw [← ls_is hr h.1.2.1 hB] at hw' hlen2 ⊢
      obtain ⟨g1, eb, e35, e14, e41, eI⟩ := al_gk hg fI fJ w' (ls I J).length
      refine pw_p (tu_15 ⟨fun _ => ⟨fun hx => ?_, fun hx => ?_⟩, fun z => absurd (by decide) z⟩)
      · rw [e14, il_0] at hx
        obtain ⟨k, rfl, hk⟩ := wi_len (by omega) hx
        have hy2 := hy
        rw [ek] at hy2
        obtain ⟨c, rfl, hc⟩ := wi_len (by omega) hy2
        refine ⟨_, pe_goes (m := k0) h hB hg fI fJ (fun s hs a ha => ((fE s hs).2 a ha).1) hw' hlen2 hk rfl (by rw [e35 16 (by decide), ek2, ek]) (Nat.le_refl _) (fun _ _ => rfl) (fun _ _ _ _ => rfl), ?_⟩
        rintro r h' ⟨rfl, f, K, G1, G2, rfl, q1, q2⟩
        refine pw_p (tu_41 ?_)
        rw [cx_sI_s, io_cl (by omega), q2 c hc]
        intro _
        unfold v_truth
        rw [if_neg hy, pr_is hr hB, if_pos h1, if_neg hx, io_ti (by omega), io_ti (by omega), Int.toNat_natCast, Int.toNat_natCast, ly_gd hk]
      · rw [e14, il_0] at hx
        unfold v_truth
        rw [if_neg hy, pr_is hr hB, if_pos h1, if_pos (Classical.not_not.mp hx)]
  · rw [il_0, ek2] at hy
    unfold v_truth
    rw [if_pos (Classical.not_not.mp hy)]
theorem lxc_truth (hX2 : X.1 < 2 ^ 31) (hh : cx_hok cx_B0 I R T) (hr : rl3 I J R T) (x y : Int32) : ev_W X 53 0 (ez_lay [.ref 0, .int x, .int y]) [] (ev_hp I J R T) 0 0 (lw_mid T (fun v I1 J1 R1 T1 => v = v_truth I1 J1 x y ∧ rl3 I1 J1 R1 T1)) := by
  refine (lxc_of (l3x_truth hX2 hh hr x y) (fun N => pe_xtruth hr hh) (by rfl) cv_53_0 hX2 hh ao_2).mono (lw_mono fun v I1 J1 R1 T1 q => ⟨?_, q.2.2⟩)
  rw [q.1, v_truth_b q.2.1]
theorem lmc_truth (hX2 : X.1 < 2 ^ 31) (hh : cx_hok cx_B0 I R T) (hr : rl3 I J R T) (x y : Int32) (hh1 : cx_hok cx_B0 I1 R1 T1) (hm : v = v_truth I1 J1 x y ∧ rl3 I1 J1 R1 T1) : ev_W X 229 0 (ez_lay [.ref 35, .int x, .int y]) [] (ev_hp I1 J1 R1 T1) 0 0 (lw_mid T1 (fun u I2 J2 R2 T2 => u = v ∧ rl3 I2 J2 R2 T2)) := by
  refine (lmc_of (l3m_truth hX2 hh hr x y hh1 hm.2) (fun N => pe_mtruth hm.2 hh1.1)).mono (lw_mono fun u I2 J2 R2 T2 q => ⟨?_, q.2⟩)
  rw [q.1, hm.1]
noncomputable def v_lies (I : Nat → Nat → Int32) (J : Nat → Nat → Int64) (x y z : Int32) : Int64 := if ev_wi y 0 (I 3 3 - 1) = 0 then 18446744073709551614 else if ev_wi z 0 (I 8 1) = 0 then 18446744073709551613 else if sn I 0 * (sn I 1 * sn I 2) ≤ 10000 then (if ev_wi x 0 (Int32.ofNat (ls I J).length - 1) = 0 then 18446744073709551614 else (xq I J ((ls I J).getD x.toInt.toNat (0, 0, 0)) z.toInt.toNat).1 y.toInt.toNat) else 18446744073709551610
theorem v_lies_b (e : bk I' J' = bk I J) : v_lies I' J' x y z = v_lies I J x y z := by
  obtain ⟨h1, h2⟩ := bk_ls e
  unfold v_lies
  rw [h1, h2 0, h2 1, h2 2, (bk_at e).1, (bk_at e).2.1, (bk_xq e _).2.1]
theorem wi_le {a : Int32} {n : Nat} (hn : n < 2147483648) (h : ¬ ev_wi a 0 (Int32.ofNat n) = 0) : ∃ j, a = Int32.ofNat j ∧ j ≤ n := by
  obtain ⟨j, e, -, hj⟩ := wi_nat (u := 0) (v := n) hn h (by omega)
  exact ⟨j, e, hj⟩
theorem pe_xlies (h : rl3 I J R T) (hh : cx_hok cx_B0 I R T) : pe N X 31 [.ref 0, .int x, .int y, .int z] (ev_hp I J R T) (fun r _ => r = some (.long (v_lies I J x y z))) := by
  obtain ⟨W, HH, k0, hg, ek, -⟩ := gk_of h hh.1
  have hk30 : k0 ≤ 30 := by
    obtain ⟨-, -, -, -, -, -, -, -, -, z, -⟩ := hg
    exact z
  have hr := h.1.1
  have e3 := io_nat (b_sh hh.1).1.1
  have h3 := (b_sh hh.1).1.2
  refine pe_of (pw_p (xo_lies ⟨fun hy => ⟨fun hz => ⟨_, pe_tm hr hh h.1.2, ?_⟩, fun hz => ?_⟩, fun hy => ?_⟩))
  · rintro r h' (⟨h1, rfl, rfl⟩ | ⟨h1, rfl, h2⟩)
    · refine pw_p (li_35 ⟨fun z => absurd z (by decide), fun _ => ?_⟩)
      unfold v_lies
      rw [if_neg hy, if_neg hz, if_neg (by omega)]
    · obtain ⟨f6, R', T', n, f, rfl, g2, g3, g4, g5, g6, eb⟩ := se_row h2
      refine pw_p (li_35 ⟨fun _ => ⟨fun hx => ?_, fun hx => ?_⟩, fun z => absurd rfl z⟩)
      · rw [g2] at hx
        obtain ⟨k, rfl, hk⟩ := wi_len (by omega) hx
        have hy2 := hy
        rw [e3] at hy2
        obtain ⟨s, rfl, hs⟩ := wi_len (by omega) hy2
        have hz2 := hz
        rw [ek] at hz2
        obtain ⟨c, rfl, hc⟩ := wi_le (by omega) hz2
        refine ⟨_, pe_play (n := c) hr hh.1 g3 g4 g5 g6 eb hk rfl rfl (by omega), ?_⟩
        rintro r h' ⟨rfl, J', rfl, G1, G2, rfl, hG⟩
        rw [(bk_xq eb _).2.1] at hG
        refine pw_p (li_63 ?_)
        rw [cx_sJ_n _ _ (show (11 : Nat) ≠ 12 by decide), cx_sJ_s, atJ_in (show s < 3 by omega) (by decide), (hG s (by omega)).1]
        unfold v_lies
        rw [if_neg hy, if_neg hz, if_pos h1, if_neg hx, io_ti (by omega), io_ti (by omega), io_ti (by omega), Int.toNat_natCast, Int.toNat_natCast, Int.toNat_natCast, ly_gd hk]
      · rw [g2] at hx
        unfold v_lies
        rw [if_neg hy, if_neg hz, if_pos h1, if_pos (Classical.not_not.mp hx)]
  · unfold v_lies
    rw [if_neg hy, if_pos (Classical.not_not.mp hz)]
  · unfold v_lies
    rw [if_pos (Classical.not_not.mp hy)]
theorem pe_mlies (h : rl3 I J R T) (hB : cx_hB cx_B0 I) : pe N X 208 [.ref 35, .int x, .int y, .int z] (ev_hp I J R T) (fun r _ => r = some (.long (v_lies I J x y z))) := by
  obtain ⟨W, HH, k0, hg, ek, ek2⟩ := gk_of h hB
  have hk30 : k0 ≤ 30 := by
    obtain ⟨-, -, -, -, -, -, -, -, -, z, -⟩ := hg
    exact z
  have hr := h.1.1
  have e33 : I 35 3 = I 3 3 := (km_0 hr.1).2.2.2.symm
  have e3 := io_nat (b_sh hB).1.1
  have h3 := (b_sh hB).1.2
  have en : rf_n I = (I 3 3).toInt.toNat := by unfold rf_n; rw [e33]
  refine pe_of (pw_p (lj_0 ⟨fun hy => ⟨fun hz => ⟨_, pe_laid hr hB N, ?_⟩, fun hz => ?_⟩, fun hy => ?_⟩))
  · rw [il_0, e33] at hy
    rw [il_0, ek2] at hz
    rintro r h' ⟨I', J', ⟨fI, fJ, fE⟩, ⟨h1, rfl, rfl⟩ | ⟨h1, rfl, w', rfl, hw'⟩⟩
    · refine pw_p (lj_34 ⟨fun z => absurd rfl z, fun _ => ?_⟩)
      unfold v_lies
      rw [if_neg hy, if_neg hz, pr_is hr hB, if_neg (by omega)]
    · have hlen := ly_1l (lm_p (rf_n I) (rf_f J) (rf_g I J)) (lm_q (rf_n I) (rf_f J) (rf_g I J)) (mm (in_n I) (rf_n I) 1) (mm (in_n I) (rf_n I) 2) (mm (in_n I) (rf_n I) 0)
      have hlen2 : (lm_L (rf_n I) (in_n I) (rf_f J) (rf_g I J)).length ≤ 10000 := Nat.le_trans hlen (by rw [pr_mm _ (rf_ns hB).2]; exact h1)
      rw [← ls_is hr h.1.2.1 hB] at hw' hlen2 ⊢
      obtain ⟨g1, eb, e35, e14, e41, eI⟩ := al_gk hg fI fJ w' (ls I J).length
      refine pw_p (lj_34 ⟨fun _ => ⟨fun hx => ?_, fun hx => ?_⟩, fun z => absurd (by decide) z⟩)
      · rw [e14, il_0] at hx
        obtain ⟨k, rfl, hk⟩ := wi_len (by omega) hx
        have hy2 := hy
        rw [e3] at hy2
        obtain ⟨s, rfl, hs⟩ := wi_len (by omega) hy2
        have hz2 := hz
        rw [ek] at hz2
        obtain ⟨c, rfl, hc⟩ := wi_le (by omega) hz2
        refine ⟨_, pe_goes (m := c) h hB hg fI fJ (fun s hs a ha => ((fE s hs).2 a ha).1) hw' hlen2 hk rfl rfl hc (fun _ _ => rfl) (fun _ _ _ _ => rfl), ?_⟩
        rintro r h' ⟨rfl, f, K, G1, G2, rfl, q1, q2⟩
        refine pw_p (lj_59 ?_)
        rw [cx_sJ_n _ _ (show (45 : Nat) ≠ 46 by decide), cx_sJ_s, io_cl (by omega), (q1 s (by rw [en]; exact hs)).1]
        intro _
        unfold v_lies
        rw [if_neg hy, if_neg hz, pr_is hr hB, if_pos h1, if_neg hx, io_ti (by omega), io_ti (by omega), io_ti (by omega), Int.toNat_natCast, Int.toNat_natCast, Int.toNat_natCast, ly_gd hk]
      · rw [e14, il_0] at hx
        unfold v_lies
        rw [if_neg hy, if_neg hz, pr_is hr hB, if_pos h1, if_pos (Classical.not_not.mp hx)]
  · rw [il_0, e33] at hy
    rw [il_0, ek2] at hz
    unfold v_lies
    rw [if_neg hy, if_pos (Classical.not_not.mp hz)]
  · rw [il_0, e33] at hy
    unfold v_lies
    rw [if_pos (Classical.not_not.mp hy)]
theorem lxc_lies (hX2 : X.1 < 2 ^ 31) (hh : cx_hok cx_B0 I R T) (hr : rl3 I J R T) (x y z : Int32) : ev_W X 31 0 (ez_lay [.ref 0, .int x, .int y, .int z]) [] (ev_hp I J R T) 0 0 (lw_midL T (fun v I1 J1 R1 T1 => v = v_lies I1 J1 x y z ∧ rl3 I1 J1 R1 T1)) := by
  refine (lxc_ofL (l3x_lies hX2 hh hr x y z) (fun N => pe_xlies hr hh) (by rfl) cv_31_0 hX2 hh ao_3).mono (lw_monoL fun v I1 J1 R1 T1 q => ⟨?_, q.2.2⟩)
  rw [q.1, v_lies_b q.2.1]
theorem lmc_lies (hX2 : X.1 < 2 ^ 31) (hh : cx_hok cx_B0 I R T) (hr : rl3 I J R T) (x y z : Int32) (hh1 : cx_hok cx_B0 I1 R1 T1) (hm : u = v_lies I1 J1 x y z ∧ rl3 I1 J1 R1 T1) : ev_W X 208 0 (ez_lay [.ref 35, .int x, .int y, .int z]) [] (ev_hp I1 J1 R1 T1) 0 0 (lw_midL T1 (fun w I2 J2 R2 T2 => w = u ∧ rl3 I2 J2 R2 T2)) := by
  refine (lmc_ofL (l3m_lies hX2 hh hr x y z hh1 hm.2) (fun N => pe_mlies hm.2 hh1.1)).mono (lw_monoL fun u I2 J2 R2 T2 q => ⟨?_, q.2⟩)
  rw [q.1, hm.1]
end
end
section
/-! The answers of many, both sides. -/
section
variable {N : Nat} {X : ez_X} {I : Nat → Nat → Int32} {J : Nat → Nat → Int64} {R : Nat → Nat} {T : List ez_C} {Q : pw_Q} {cz kz : Nat}
set_option maxRecDepth 100000 in
theorem my_r0  : ∀ G : ez_F, fx_up X 5 G 33 0 [.ref 0, .int (0 : Int32)] [] (ev_hp I J R T) cz kz = G 33 43 [.ref 0, .int (0 : Int32)] [.int (I 1 6)] (ev_hp I J R T) cz kz := by
  intro G
  rfl
set_option maxRecDepth 100000 in
theorem my_r1 {a0 : Int32} : ∀ G : ez_F, fx_up X 1 G 33 43 [.ref 0, .int (0 : Int32)] [.int a0] (ev_hp I J R T) cz kz = some (some (.int a0), (ev_hp I J R T), cz, kz) := by
  intro G
  rfl
theorem mn_c0 
    (H : Q (some (.int (I 1 6))) (ev_hp I J R T)) : pw (N + 1) X 33 0 [.ref 0, .int (0 : Int32)] [] (ev_hp I J R T) Q := by
  refine pw_seg (by decide) (fun _ _ => my_r0) ?_
  exact pw_p (pw_ret (by decide) (fun _ _ => my_r1) H)
set_option maxRecDepth 100000 in
theorem my_r2  : ∀ G : ez_F, fx_up X 6 G 210 0 [.ref 35, .int (0 : Int32)] [] (ev_hp I J R T) cz kz = ev_C G 179 [.ref 35] (ev_hp I J R T) fun r h1 c1 k1 => G 210 40 [.ref 35, .int (0 : Int32), .int (0 : Int32)] (r.toList ++ []) h1 (cz + c1) (kz + k1) := by
  intro G
  rfl
set_option maxRecDepth 100000 in
theorem my_r3 {a0 : Int32} : ∀ G : ez_F, fx_up X 1 G 210 40 [.ref 35, .int (0 : Int32), .int (0 : Int32)] [.int a0] (ev_hp I J R T) cz kz = some (some (.int a0), (ev_hp I J R T), cz, kz) := by
  intro G
  rfl
theorem mm_c0 
    (H : Q (some (.int ((I 35 0) * (I 35 1)))) (ev_hp I J R T)) : pw (N + 1) X 210 0 [.ref 35, .int (0 : Int32)] [] (ev_hp I J R T) Q := by
  refine pw_callp (by decide) (fun _ _ => my_r2) (pe_mcount) ?_
  exact pw_p (pw_ret (by decide) (fun _ _ => my_r3) H)
set_option maxRecDepth 100000 in
theorem my_r4  : ∀ G : ez_F, fx_up X 5 G 33 0 [.ref 0, .int (1 : Int32)] [] (ev_hp I J R T) cz kz = G 33 51 [.ref 0, .int (1 : Int32)] [.int (I 3 3)] (ev_hp I J R T) cz kz := by
  intro G
  rfl
set_option maxRecDepth 100000 in
theorem my_r5 {a0 : Int32} : ∀ G : ez_F, fx_up X 1 G 33 51 [.ref 0, .int (1 : Int32)] [.int a0] (ev_hp I J R T) cz kz = some (some (.int a0), (ev_hp I J R T), cz, kz) := by
  intro G
  rfl
theorem mn_c1 
    (H : Q (some (.int (I 3 3))) (ev_hp I J R T)) : pw (N + 1) X 33 0 [.ref 0, .int (1 : Int32)] [] (ev_hp I J R T) Q := by
  refine pw_seg (by decide) (fun _ _ => my_r4) ?_
  exact pw_p (pw_ret (by decide) (fun _ _ => my_r5) H)
set_option maxRecDepth 100000 in
theorem my_r6  : ∀ G : ez_F, fx_up X 6 G 210 0 [.ref 35, .int (1 : Int32)] [] (ev_hp I J R T) cz kz = G 210 45 [.ref 35, .int (1 : Int32), .int (0 : Int32)] [.int (I 35 3)] (ev_hp I J R T) cz kz := by
  intro G
  rfl
set_option maxRecDepth 100000 in
theorem my_r7 {a0 : Int32} : ∀ G : ez_F, fx_up X 1 G 210 45 [.ref 35, .int (1 : Int32), .int (0 : Int32)] [.int a0] (ev_hp I J R T) cz kz = some (some (.int a0), (ev_hp I J R T), cz, kz) := by
  intro G
  rfl
theorem mm_c1 
    (H : Q (some (.int (I 35 3))) (ev_hp I J R T)) : pw (N + 1) X 210 0 [.ref 35, .int (1 : Int32)] [] (ev_hp I J R T) Q := by
  refine pw_seg (by decide) (fun _ _ => my_r6) ?_
  exact pw_p (pw_ret (by decide) (fun _ _ => my_r7) H)
set_option maxRecDepth 100000 in
theorem my_r8  : ∀ G : ez_F, fx_up X 5 G 33 0 [.ref 0, .int (2 : Int32)] [] (ev_hp I J R T) cz kz = G 33 59 [.ref 0, .int (2 : Int32)] [.int (I 8 1)] (ev_hp I J R T) cz kz := by
  intro G
  rfl
set_option maxRecDepth 100000 in
theorem my_r9 {a0 : Int32} : ∀ G : ez_F, fx_up X 1 G 33 59 [.ref 0, .int (2 : Int32)] [.int a0] (ev_hp I J R T) cz kz = some (some (.int a0), (ev_hp I J R T), cz, kz) := by
  intro G
  rfl
theorem mn_c2 
    (H : Q (some (.int (I 8 1))) (ev_hp I J R T)) : pw (N + 1) X 33 0 [.ref 0, .int (2 : Int32)] [] (ev_hp I J R T) Q := by
  refine pw_seg (by decide) (fun _ _ => my_r8) ?_
  exact pw_p (pw_ret (by decide) (fun _ _ => my_r9) H)
set_option maxRecDepth 100000 in
theorem my_r10  : ∀ G : ez_F, fx_up X 6 G 210 0 [.ref 35, .int (2 : Int32)] [] (ev_hp I J R T) cz kz = G 210 50 [.ref 35, .int (2 : Int32), .int (0 : Int32)] [.int (I 35 16)] (ev_hp I J R T) cz kz := by
  intro G
  rfl
set_option maxRecDepth 100000 in
theorem my_r11 {a0 : Int32} : ∀ G : ez_F, fx_up X 1 G 210 50 [.ref 35, .int (2 : Int32), .int (0 : Int32)] [.int a0] (ev_hp I J R T) cz kz = some (some (.int a0), (ev_hp I J R T), cz, kz) := by
  intro G
  rfl
theorem mm_c2 
    (H : Q (some (.int (I 35 16))) (ev_hp I J R T)) : pw (N + 1) X 210 0 [.ref 35, .int (2 : Int32)] [] (ev_hp I J R T) Q := by
  refine pw_seg (by decide) (fun _ _ => my_r10) ?_
  exact pw_p (pw_ret (by decide) (fun _ _ => my_r11) H)
set_option maxRecDepth 100000 in
theorem my_r12  : ∀ G : ez_F, fx_up X 5 G 33 0 [.ref 0, .int (3 : Int32)] [] (ev_hp I J R T) cz kz = G 33 67 [.ref 0, .int (3 : Int32)] [.long (J 8 3)] (ev_hp I J R T) cz kz := by
  intro G
  rfl
set_option maxRecDepth 100000 in
theorem my_r13 {a0 : Int64} : ∀ G : ez_F, fx_up X 1 G 33 67 [.ref 0, .int (3 : Int32)] [.long a0] (ev_hp I J R T) cz kz = ev_C G 237 [.long a0] (ev_hp I J R T) fun r h1 c1 k1 => G 33 70 [.ref 0, .int (3 : Int32)] (r.toList ++ []) h1 (cz + c1) (kz + k1) := by
  intro G
  rfl
set_option maxRecDepth 100000 in
theorem my_r14 {a0 : Int32} : ∀ G : ez_F, fx_up X 1 G 33 70 [.ref 0, .int (3 : Int32)] [.int a0] (ev_hp I J R T) cz kz = some (some (.int a0), (ev_hp I J R T), cz, kz) := by
  intro G
  rfl
theorem mn_c3 
    (H : Q (some (.int (ev_bcJ (J 8 3)))) (ev_hp I J R T)) : pw (N + 1) X 33 0 [.ref 0, .int (3 : Int32)] [] (ev_hp I J R T) Q := by
  refine pw_seg (by decide) (fun _ _ => my_r12) ?_
  refine pw_p (pw_callp (by decide) (fun _ _ => my_r13) (pe_is (ec_bcJ _ _ _)) ?_)
  exact pw_p (pw_ret (by decide) (fun _ _ => my_r14) H)
set_option maxRecDepth 100000 in
theorem my_r15  : ∀ G : ez_F, fx_up X 6 G 210 0 [.ref 35, .int (3 : Int32)] [] (ev_hp I J R T) cz kz = G 210 53 [.ref 35, .int (3 : Int32), .int (0 : Int32), .int (0 : Int32)] [] (ev_hp I J R T) cz kz := by
  intro G
  rfl
theorem mm_c3 
    (H : pw N X 210 53 [.ref 35, .int (3 : Int32), .int (0 : Int32), .int (0 : Int32)] [] (ev_hp I J R T) Q) : pw (N + 1) X 210 0 [.ref 35, .int (3 : Int32)] [] (ev_hp I J R T) Q := by
  refine pw_seg (by decide) (fun _ _ => my_r15) ?_
  exact H
set_option maxRecDepth 100000 in
theorem my_r16  : ∀ G : ez_F, fx_up X 5 G 33 0 [.ref 0, .int (4 : Int32)] [] (ev_hp I J R T) cz kz = ev_C G 82 [.ref 32] (ev_hp I J R T) fun r h1 c1 k1 => G 33 78 [.ref 0, .int (4 : Int32)] (r.toList ++ []) h1 (cz + c1) (kz + k1) := by
  intro G
  rfl
theorem mn_c4 
    (H : (∃ Q1 : pw_Q, pe N X 82 [.ref 32] (ev_hp I J R T) Q1 ∧ ∀ (r : Option Value) (h1 : ez_H), Q1 r h1 → pw N X 33 78 [.ref 0, .int (4 : Int32)] (r.toList ++ []) h1 Q)) : pw (N + 1) X 33 0 [.ref 0, .int (4 : Int32)] [] (ev_hp I J R T) Q := by
  obtain ⟨Q1, hc, hk⟩ := H
  exact pw_call (by decide) (fun _ _ => my_r16) hc hk
set_option maxRecDepth 100000 in
theorem my_r17  : ∀ G : ez_F, fx_up X 6 G 210 0 [.ref 35, .int (4 : Int32)] [] (ev_hp I J R T) cz kz = G 210 89 [.ref 35, .int (4 : Int32), .int (0 : Int32), .int (0 : Int32)] [] (ev_hp I J R T) cz kz := by
  intro G
  rfl
theorem mm_c4 
    (H : pw N X 210 89 [.ref 35, .int (4 : Int32), .int (0 : Int32), .int (0 : Int32)] [] (ev_hp I J R T) Q) : pw (N + 1) X 210 0 [.ref 35, .int (4 : Int32)] [] (ev_hp I J R T) Q := by
  refine pw_seg (by decide) (fun _ _ => my_r17) ?_
  exact H
set_option maxRecDepth 100000 in
theorem my_r18 {a0 : Int32} : ∀ G : ez_F, fx_up X 1 G 33 78 [.ref 0, .int (4 : Int32)] [.int a0] (ev_hp I J R T) cz kz = some (some (.int a0), (ev_hp I J R T), cz, kz) := by
  intro G
  rfl
theorem mn_78 {v : Int32}
    (H : Q (some (.int v)) (ev_hp I J R T)) : pw (N + 1) X 33 78 [.ref 0, .int (4 : Int32)] [.int v] (ev_hp I J R T) Q := by
  exact pw_ret (by decide) (fun _ _ => my_r18) H
set_option maxRecDepth 100000 in
theorem my_r19 {a0 : Int32} : ∀ G : ez_F, fx_up X 1 G 33 0 [.ref 0, .int a0] [] (ev_hp I J R T) cz kz = G 33 1 [.ref 0, .int a0] [.int a0] (ev_hp I J R T) cz kz := by
  intro G
  rfl
theorem mn_d {x : Int32}
    (H : pw N X 33 1 [.ref 0, .int x] [.int x] (ev_hp I J R T) Q) : pw (N + 1) X 33 0 [.ref 0, .int x] [] (ev_hp I J R T) Q := by
  refine pw_seg (by decide) (fun _ _ => my_r19) ?_
  exact H
set_option maxRecDepth 100000 in
theorem my_r20 {a0 : Int32} : ∀ G : ez_F, fx_up X 2 G 33 79 [.ref 0, .int a0] [] (ev_hp I J R T) cz kz = some (some (.int (-3 : Int32)), (ev_hp I J R T), cz, kz) := by
  intro G
  rfl
theorem mn_79 {x : Int32}
    (H : Q (some (.int (-3 : Int32))) (ev_hp I J R T)) : pw (N + 1) X 33 79 [.ref 0, .int x] [] (ev_hp I J R T) Q := by
  exact pw_ret (by decide) (fun _ _ => my_r20) H
set_option maxRecDepth 100000 in
theorem my_r21 {a0 : Int32} : ∀ G : ez_F, fx_up X 3 G 210 0 [.ref 35, .int a0] [] (ev_hp I J R T) cz kz = G 210 3 [.ref 35, .int a0, .int (0 : Int32)] [.int a0] (ev_hp I J R T) cz kz := by
  intro G
  rfl
theorem mm_d {x : Int32}
    (H : pw N X 210 3 [.ref 35, .int x, .int (0 : Int32)] [.int x] (ev_hp I J R T) Q) : pw (N + 1) X 210 0 [.ref 35, .int x] [] (ev_hp I J R T) Q := by
  refine pw_seg (by decide) (fun _ _ => my_r21) ?_
  exact H
set_option maxRecDepth 100000 in
theorem my_r22 {a0 : Int32} {a1 : Int32} : ∀ G : ez_F, fx_up X 2 G 210 128 [.ref 35, .int a0, .int a1] [] (ev_hp I J R T) cz kz = some (some (.int (-3 : Int32)), (ev_hp I J R T), cz, kz) := by
  intro G
  rfl
theorem mm_128 {x n : Int32}
    (H : Q (some (.int (-3 : Int32))) (ev_hp I J R T)) : pw (N + 1) X 210 128 [.ref 35, .int x, .int n] [] (ev_hp I J R T) Q := by
  exact pw_ret (by decide) (fun _ _ => my_r22) H
set_option maxRecDepth 100000 in
theorem my_r23 {a0 : Int32} {a1 : Int32} {a2 : Int32} : ∀ G : ez_F, fx_up X 3 G 210 53 [.ref 35, .int a0, .int a1, .int a2] [] (ev_hp I J R T) cz kz = G 210 58 [.ref 35, .int a0, .int a1, .int a2] [.int (I 35 16), .int a2] (ev_hp I J R T) cz kz := by
  intro G
  rfl
set_option maxRecDepth 100000 in
theorem my_r24 {a0 : Int32} {a1 : Int32} {a2 : Int32} {a3 : Int32} {a4 : Int32} : ∀ G : ez_F, fx_up X 1 G 210 58 [.ref 35, .int a0, .int a1, .int a2] [.int a3, .int a4] (ev_hp I J R T) cz kz = bif decide (a3 ≤ a4) then G 210 85 [.ref 35, .int a0, .int a1, .int a2] [] (ev_hp I J R T) cz kz else G 210 61 [.ref 35, .int a0, .int a1, .int a2] [] (ev_hp I J R T) cz kz := by
  intro G
  rfl
set_option maxRecDepth 100000 in
theorem my_r25 {a0 : Int32} {a1 : Int32} {a2 : Int32} : ∀ G : ez_F, fx_up X 2 G 210 85 [.ref 35, .int a0, .int a1, .int a2] [] (ev_hp I J R T) cz kz = some (some (.int a1), (ev_hp I J R T), cz, kz) := by
  intro G
  rfl
set_option maxRecDepth 100000 in
theorem my_r26 {a0 : Int32} {a1 : Int32} {a2 : Int32} : ∀ G : ez_F, fx_up X 4 G 210 61 [.ref 35, .int a0, .int a1, .int a2] [] (ev_hp I J R T) cz kz = G 210 67 [.ref 35, .int a0, .int a1, .int a2] [.int a2, .ref 44, .int a1] (ev_hp I J R T) cz kz := by
  intro G
  rfl
set_option maxRecDepth 100000 in
theorem my_r27 {a0 : Int32} {a1 : Int32} {a2 : Int32} {a3 : Int32} {a4 : Int32} : ∀ G : ez_F, fx_up X 2 G 210 68 [.ref 35, .int a0, .int a1, .int a2] [.int a3, .int a4] (ev_hp I J R T) cz kz = bif decide (¬ a3 = (-1 : Int32)) then G 210 76 [.ref 35, .int a0, .int a1, .int a2] [.int a4] (ev_hp I J R T) cz kz else G 210 72 [.ref 35, .int a0, .int a1, .int a2] [.int a4] (ev_hp I J R T) cz kz := by
  intro G
  rfl
set_option maxRecDepth 100000 in
theorem my_r28 {a0 : Int32} {a1 : Int32} {a2 : Int32} {a3 : Int32} : ∀ G : ez_F, fx_up X 5 G 210 76 [.ref 35, .int a0, .int a1, .int a2] [.int a3] (ev_hp I J R T) cz kz = G 210 53 [.ref 35, .int a0, .int (a3 + (1 : Int32)), .int (a2 + (1 : Int32))] [] (ev_hp I J R T) cz kz := by
  intro G
  rfl
set_option maxRecDepth 100000 in
theorem my_r29 {a0 : Int32} {a1 : Int32} {a2 : Int32} {a3 : Int32} : ∀ G : ez_F, fx_up X 6 G 210 72 [.ref 35, .int a0, .int a1, .int a2] [.int a3] (ev_hp I J R T) cz kz = G 210 53 [.ref 35, .int a0, .int (a3 + (0 : Int32)), .int (a2 + (1 : Int32))] [] (ev_hp I J R T) cz kz := by
  intro G
  rfl
theorem mm_53 {x n i : Int32}
    (H : (((I 35 16) ≤ i → Q (some (.int n)) (ev_hp I J R T)) ∧ (¬ ((I 35 16) ≤ i) → (ev_ix i 30 → ((¬ (I 44 i.toNatClampNeg) = (-1 : Int32) → pw N X 210 53 [.ref 35, .int x, .int (n + (1 : Int32)), .int (i + (1 : Int32))] [] (ev_hp I J R T) Q) ∧ (¬ (¬ (I 44 i.toNatClampNeg) = (-1 : Int32)) → pw N X 210 53 [.ref 35, .int x, .int (n + (0 : Int32)), .int (i + (1 : Int32))] [] (ev_hp I J R T) Q)))))) : pw (N + 1) X 210 53 [.ref 35, .int x, .int n, .int i] [] (ev_hp I J R T) Q := by
  refine pw_seg (by decide) (fun _ _ => my_r23) ?_
  refine pw_p (pw_if (by decide) (fun _ _ => my_r24) (fun w1 => ?_) (fun w1 => ?_))
  · have h1 := H.1 w1
    exact pw_p (pw_ret (by decide) (fun _ _ => my_r25) h1)
  · have h1 := H.2 w1
    refine pw_p (pw_seg (by decide) (fun _ _ => my_r26) ?_)
    refine pw_p (pw_iald (by rfl) (cx_getI (show cx_Ds[44]? = some (0, 30, []) from rfl)) (fun w2 => ?_))
    have h2 := h1 w2
    refine pw_p (pw_if (by decide) (fun _ _ => my_r27) (fun w2 => ?_) (fun w2 => ?_))
    · have h2 := h2.1 w2
      refine pw_p (pw_seg (by decide) (fun _ _ => my_r28) ?_)
      exact h2
    · have h2 := h2.2 w2
      refine pw_p (pw_seg (by decide) (fun _ _ => my_r29) ?_)
      exact h2
set_option maxRecDepth 100000 in
theorem my_r30 {a0 : Int32} {a1 : Int32} {a2 : Int32} : ∀ G : ez_F, fx_up X 3 G 210 89 [.ref 35, .int a0, .int a1, .int a2] [] (ev_hp I J R T) cz kz = G 210 94 [.ref 35, .int a0, .int a1, .int a2] [.int (I 35 0), .int a2] (ev_hp I J R T) cz kz := by
  intro G
  rfl
set_option maxRecDepth 100000 in
theorem my_r31 {a0 : Int32} {a1 : Int32} {a2 : Int32} {a3 : Int32} {a4 : Int32} : ∀ G : ez_F, fx_up X 2 G 210 94 [.ref 35, .int a0, .int a1, .int a2] [.int a3, .int a4] (ev_hp I J R T) cz kz = G 210 98 [.ref 35, .int a0, .int a1, .int a2] [.int (I 35 1), .int a3, .int a4] (ev_hp I J R T) cz kz := by
  intro G
  rfl
set_option maxRecDepth 100000 in
theorem my_r32 {a0 : Int32} {a1 : Int32} {a2 : Int32} {a3 : Int32} {a4 : Int32} {a5 : Int32} : ∀ G : ez_F, fx_up X 2 G 210 98 [.ref 35, .int a0, .int a1, .int a2] [.int a3, .int a4, .int a5] (ev_hp I J R T) cz kz = bif decide ((a4 + a3) ≤ a5) then G 210 126 [.ref 35, .int a0, .int a1, .int a2] [] (ev_hp I J R T) cz kz else G 210 102 [.ref 35, .int a0, .int a1, .int a2] [] (ev_hp I J R T) cz kz := by
  intro G
  rfl
set_option maxRecDepth 100000 in
theorem my_r33 {a0 : Int32} {a1 : Int32} {a2 : Int32} : ∀ G : ez_F, fx_up X 2 G 210 126 [.ref 35, .int a0, .int a1, .int a2] [] (ev_hp I J R T) cz kz = some (some (.int a1), (ev_hp I J R T), cz, kz) := by
  intro G
  rfl
set_option maxRecDepth 100000 in
theorem my_r34 {a0 : Int32} {a1 : Int32} {a2 : Int32} : ∀ G : ez_F, fx_up X 4 G 210 102 [.ref 35, .int a0, .int a1, .int a2] [] (ev_hp I J R T) cz kz = G 210 108 [.ref 35, .int a0, .int a1, .int a2] [.int a2, .ref 61, .int a1] (ev_hp I J R T) cz kz := by
  intro G
  rfl
set_option maxRecDepth 100000 in
theorem my_r35 {a0 : Int32} {a1 : Int32} {a2 : Int32} {a3 : Int32} {a4 : Int32} : ∀ G : ez_F, fx_up X 2 G 210 109 [.ref 35, .int a0, .int a1, .int a2] [.int a3, .int a4] (ev_hp I J R T) cz kz = bif decide (¬ a3 = (-1 : Int32)) then G 210 117 [.ref 35, .int a0, .int a1, .int a2] [.int a4] (ev_hp I J R T) cz kz else G 210 113 [.ref 35, .int a0, .int a1, .int a2] [.int a4] (ev_hp I J R T) cz kz := by
  intro G
  rfl
set_option maxRecDepth 100000 in
theorem my_r36 {a0 : Int32} {a1 : Int32} {a2 : Int32} {a3 : Int32} : ∀ G : ez_F, fx_up X 5 G 210 117 [.ref 35, .int a0, .int a1, .int a2] [.int a3] (ev_hp I J R T) cz kz = G 210 89 [.ref 35, .int a0, .int (a3 + (1 : Int32)), .int (a2 + (1 : Int32))] [] (ev_hp I J R T) cz kz := by
  intro G
  rfl
set_option maxRecDepth 100000 in
theorem my_r37 {a0 : Int32} {a1 : Int32} {a2 : Int32} {a3 : Int32} : ∀ G : ez_F, fx_up X 6 G 210 113 [.ref 35, .int a0, .int a1, .int a2] [.int a3] (ev_hp I J R T) cz kz = G 210 89 [.ref 35, .int a0, .int (a3 + (0 : Int32)), .int (a2 + (1 : Int32))] [] (ev_hp I J R T) cz kz := by
  intro G
  rfl
theorem mm_89 {x n i : Int32}
    (H : ((((I 35 0) + (I 35 1)) ≤ i → Q (some (.int n)) (ev_hp I J R T)) ∧ (¬ (((I 35 0) + (I 35 1)) ≤ i) → (ev_ix i 12 → ((¬ (I 61 i.toNatClampNeg) = (-1 : Int32) → pw N X 210 89 [.ref 35, .int x, .int (n + (1 : Int32)), .int (i + (1 : Int32))] [] (ev_hp I J R T) Q) ∧ (¬ (¬ (I 61 i.toNatClampNeg) = (-1 : Int32)) → pw N X 210 89 [.ref 35, .int x, .int (n + (0 : Int32)), .int (i + (1 : Int32))] [] (ev_hp I J R T) Q)))))) : pw (N + 1) X 210 89 [.ref 35, .int x, .int n, .int i] [] (ev_hp I J R T) Q := by
  refine pw_seg (by decide) (fun _ _ => my_r30) ?_
  refine pw_p (pw_seg (by decide) (fun _ _ => my_r31) ?_)
  refine pw_p (pw_if (by decide) (fun _ _ => my_r32) (fun w1 => ?_) (fun w1 => ?_))
  · have h1 := H.1 w1
    exact pw_p (pw_ret (by decide) (fun _ _ => my_r33) h1)
  · have h1 := H.2 w1
    refine pw_p (pw_seg (by decide) (fun _ _ => my_r34) ?_)
    refine pw_p (pw_iald (by rfl) (cx_getI (show cx_Ds[61]? = some (0, 12, []) from rfl)) (fun w2 => ?_))
    have h2 := h1 w2
    refine pw_p (pw_if (by decide) (fun _ _ => my_r35) (fun w2 => ?_) (fun w2 => ?_))
    · have h2 := h2.1 w2
      refine pw_p (pw_seg (by decide) (fun _ _ => my_r36) ?_)
      exact h2
    · have h2 := h2.2 w2
      refine pw_p (pw_seg (by decide) (fun _ _ => my_r37) ?_)
      exact h2
set_option maxRecDepth 100000 in
theorem my_r38  : ∀ G : ez_F, fx_up X 4 G 82 0 [.ref 32] [] (ev_hp I J R T) cz kz = G 82 4 [.ref 32, .int (0 : Int32), .int (0 : Int32)] [] (ev_hp I J R T) cz kz := by
  intro G
  rfl
theorem tc_0 
    (H : pw N X 82 4 [.ref 32, .int (0 : Int32), .int (0 : Int32)] [] (ev_hp I J R T) Q) : pw (N + 1) X 82 0 [.ref 32] [] (ev_hp I J R T) Q := by
  refine pw_seg (by decide) (fun _ _ => my_r38) ?_
  exact H
set_option maxRecDepth 100000 in
theorem my_r39 {a0 : Int32} {a1 : Int32} : ∀ G : ez_F, fx_up X 3 G 82 4 [.ref 32, .int a0, .int a1] [] (ev_hp I J R T) cz kz = bif decide ((12 : Int32) ≤ a1) then G 82 31 [.ref 32, .int a0, .int a1] [] (ev_hp I J R T) cz kz else G 82 10 [.ref 32, .int a0, .int a1] [] (ev_hp I J R T) cz kz := by
  intro G
  rfl
set_option maxRecDepth 100000 in
theorem my_r40 {a0 : Int32} {a1 : Int32} : ∀ G : ez_F, fx_up X 2 G 82 31 [.ref 32, .int a0, .int a1] [] (ev_hp I J R T) cz kz = some (some (.int a0), (ev_hp I J R T), cz, kz) := by
  intro G
  rfl
set_option maxRecDepth 100000 in
theorem my_r41 {a0 : Int32} {a1 : Int32} : ∀ G : ez_F, fx_up X 4 G 82 10 [.ref 32, .int a0, .int a1] [] (ev_hp I J R T) cz kz = ev_C G 3 [.ref 33, .int a1] (ev_hp I J R T) fun r h1 c1 k1 => G 82 18 [.ref 32, .int a0, .int a1] (r.toList ++ []) h1 (cz + c1) (kz + k1) := by
  intro G
  rfl
set_option maxRecDepth 100000 in
theorem my_r42 {a0 : Int32} {a1 : Int32} {a2 : Int32} : ∀ G : ez_F, fx_up X 2 G 82 18 [.ref 32, .int a0, .int a1] [.int a2] (ev_hp I J R T) cz kz = bif decide (a2 = (-1 : Int32)) then G 82 25 [.ref 32, .int a0, .int a1] [] (ev_hp I J R T) cz kz else G 82 22 [.ref 32, .int a0, .int a1] [] (ev_hp I J R T) cz kz := by
  intro G
  rfl
set_option maxRecDepth 100000 in
theorem my_r43 {a0 : Int32} {a1 : Int32} : ∀ G : ez_F, fx_up X 2 G 82 25 [.ref 32, .int a0, .int a1] [] (ev_hp I J R T) cz kz = G 82 4 [.ref 32, .int a0, .int (a1 + (1 : Int32))] [] (ev_hp I J R T) cz kz := by
  intro G
  rfl
set_option maxRecDepth 100000 in
theorem my_r44 {a0 : Int32} {a1 : Int32} : ∀ G : ez_F, fx_up X 3 G 82 22 [.ref 32, .int a0, .int a1] [] (ev_hp I J R T) cz kz = G 82 4 [.ref 32, .int (a0 + (1 : Int32)), .int (a1 + (1 : Int32))] [] (ev_hp I J R T) cz kz := by
  intro G
  rfl
theorem tc_4 {n i : Int32}
    (H : (((12 : Int32) ≤ i → Q (some (.int n)) (ev_hp I J R T)) ∧ (¬ ((12 : Int32) ≤ i) → (((ev_at 12 (I 33) i) = (-1 : Int32) → pw N X 82 4 [.ref 32, .int n, .int (i + (1 : Int32))] [] (ev_hp I J R T) Q) ∧ (¬ ((ev_at 12 (I 33) i) = (-1 : Int32)) → pw N X 82 4 [.ref 32, .int (n + (1 : Int32)), .int (i + (1 : Int32))] [] (ev_hp I J R T) Q))))) : pw (N + 1) X 82 4 [.ref 32, .int n, .int i] [] (ev_hp I J R T) Q := by
  refine pw_if (by decide) (fun _ _ => my_r39) (fun w1 => ?_) (fun w1 => ?_)
  · have h1 := H.1 w1
    exact pw_p (pw_ret (by decide) (fun _ _ => my_r40) h1)
  · have h1 := H.2 w1
    refine pw_p (pw_callp (by decide) (fun _ _ => my_r41) (pe_at (show cx_Ds[33]? = some (0, 12, []) from rfl) (by decide)) ?_)
    refine pw_p (pw_if (by decide) (fun _ _ => my_r42) (fun w2 => ?_) (fun w2 => ?_))
    · have h2 := h1.1 w2
      refine pw_p (pw_seg (by decide) (fun _ _ => my_r43) ?_)
      exact h2
    · have h2 := h1.2 w2
      refine pw_p (pw_seg (by decide) (fun _ _ => my_r44) ?_)
      exact h2
end
/-- a switch at a number that stands in no row of it -/
theorem pw_swd {N : Nat} {X : ez_X} {m pc a b cut w d : Nat} {ls st : List Value} {h : ez_H} {Q : pw_Q} {dflt lo hi : Int} {offs : Array Int} {len q : Nat} {v : Int32} (hP : ez_P0 m pc = some (.tableswitch dflt lo hi offs, len, a, b, cut, w, d)) (hv : v.toInt < lo ∨ hi < v.toInt) (hq : ez_tg pc dflt = some q)
    (e : pw N X m q (ez_cut cut ls) st h Q) : pw (N + 1) X m pc ls (.int v :: st) h Q := by
  refine pw_seg (a := 1) (by decide) (fun c k G => ?_) e
  rw [ev_up1]
  unfold ez_stp
  rw [hP]
  have e1 : ez_sw dflt lo hi offs pc v = some q := by
    unfold ez_sw
    rw [decide_eq_true hv]
    exact hq
  simp only [e1]
theorem cq_even {p : Nat → Bool} (h : ∀ i, p (2 * i + 1) = false) : ∀ m, cq p (2 * m) = cq (fun c => p (2 * c)) m := by
  intro m
  induction m with
  | zero => rfl
  | succ m ih =>
    show cq p (2 * m) + (bif p (2 * m) then 1 else 0) + (bif p (2 * m + 1) then 1 else 0) = cq (fun c => p (2 * c)) m + (bif p (2 * m) then 1 else 0)
    rw [ih, h m]
    rfl
section
variable {N : Nat} {X : ez_X} {I I' I1 : Nat → Nat → Int32} {J J' J1 : Nat → Nat → Int64} {R R' R1 : Nat → Nat} {T T' T1 : List ez_C} {v x y z : Int32}
noncomputable def v_many (I : Nat → Nat → Int32) (J : Nat → Nat → Int64) (x : Int32) : Int32 := if x = 0 then I 1 6 else if x = 1 then I 3 3 else if x = 2 then I 8 1 else if x = 3 then Int32.ofNat (pcJ (J 8 3)) else if x = 4 then Int32.ofNat (cq (fun r => decide (I 33 r ≠ -1)) 12) else -3
theorem v_many_b (e : bk I' J' = bk I J) : v_many I' J' x = v_many I J x := by
  obtain ⟨e81, e33, -, -, -, -, -, -, -, -, -, e16, -, -, -, -, e83, er⟩ := bk_at e
  unfold v_many
  rw [e81, e33, e16, e83, er]
theorem pe_told12 : pe N X 82 [.ref 32] (ev_hp I J R T) (fun r h => r = some (.int (Int32.ofNat (cq (fun r => decide (I 33 r ≠ -1)) 12))) ∧ h = ev_hp I J R T) := by
  have loop : ∀ (d i : Nat), i + d = 12 → ∀ N, pw N X 82 4 [.ref 32, .int (Int32.ofNat (cq (fun r => decide (I 33 r ≠ -1)) i)), .int (Int32.ofNat i)] [] (ev_hp I J R T) (fun r h => r = some (.int (Int32.ofNat (cq (fun r => decide (I 33 r ≠ -1)) 12))) ∧ h = ev_hp I J R T) := by
    intro d
    induction d with
    | zero =>
      intro i hi N
      obtain rfl : i = 12 := by omega
      exact pw_p (tc_4 ⟨fun _ => ⟨rfl, rfl⟩, fun g => absurd (by decide) g⟩)
    | succ d ih =>
      intro i hid N
      have hq : cq (fun r => decide (I 33 r ≠ -1)) (i + 1) = cq (fun r => decide (I 33 r ≠ -1)) i + (bif decide (I 33 i ≠ -1) then 1 else 0) := rfl
      have h5 := ih (i + 1) (by omega) N
      rw [hq] at h5
      refine pw_p (tc_4 ?_)
      rw [at_in (by omega) (by decide), io_1, io_1]
      refine ⟨fun g => ?_, fun _ => ⟨fun g => ?_, fun g => ?_⟩⟩
      · rw [show (12 : Int32) = Int32.ofNat 12 from rfl, io_le (by omega) (by omega)] at g
        omega
      · rw [decide_eq_false (p := I 33 i ≠ -1) (fun z => z g)] at h5
        exact h5
      · rw [decide_eq_true (p := I 33 i ≠ -1) g] at h5
        exact h5
  exact pe_of (pw_p (tc_0 (loop 12 0 (by omega) _)))
theorem n_5 {x : Int32} (h0 : ¬ x = 0) (h1 : ¬ x = 1) (h2 : ¬ x = 2) (h3 : ¬ x = 3) (h4 : ¬ x = 4) : x.toInt < 0 ∨ 4 < x.toInt := by
  rw [← Int32.toInt_inj, show (0 : Int32).toInt = 0 from by decide] at h0
  rw [← Int32.toInt_inj, show (1 : Int32).toInt = 1 from by decide] at h1
  rw [← Int32.toInt_inj, show (2 : Int32).toInt = 2 from by decide] at h2
  rw [← Int32.toInt_inj, show (3 : Int32).toInt = 3 from by decide] at h3
  rw [← Int32.toInt_inj, show (4 : Int32).toInt = 4 from by decide] at h4
  omega
theorem pe_xmany : pe N X 33 [.ref 0, .int x] (ev_hp I J R T) (fun r _ => r = some (.int (v_many I J x))) := by
  unfold v_many
  by_cases h0 : x = 0
  · subst h0
    exact pe_of (pw_p (mn_c0 rfl))
  by_cases h1 : x = 1
  · subst h1
    exact pe_of (pw_p (mn_c1 rfl))
  by_cases h2 : x = 2
  · subst h2
    exact pe_of (pw_p (mn_c2 rfl))
  by_cases h3 : x = 3
  · subst h3
    exact pe_of (pw_p (mn_c3 (by rw [pcJ_bc]; rfl)))
  by_cases h4 : x = 4
  · subst h4
    refine pe_of (pw_p (mn_c4 ⟨_, pe_told12, ?_⟩))
    rintro r h ⟨rfl, rfl⟩
    exact pw_p (mn_78 rfl)
  rw [if_neg h0, if_neg h1, if_neg h2, if_neg h3, if_neg h4]
  exact pe_of (pw_p (mn_d (pw_p (pw_swd (q := 79) (by rfl) (n_5 h0 h1 h2 h3 h4) (by rfl) (pw_p (mn_79 rfl))))))
theorem pe_mmany (h : rl3 I J R T) (hB : cx_hB cx_B0 I) : pe N X 210 [.ref 35, .int x] (ev_hp I J R T) (fun r _ => r = some (.int (v_many I J x))) := by
  have hr := h.1.1
  obtain ⟨k, ek, hk, ek2, c1, c2, -, c4⟩ := c3_of h.2
  obtain ⟨a0, a1, a2, a3⟩ := km_0 hr.1
  obtain ⟨w, ht, ew, eh, hw, hhh⟩ := wh_is hB
  unfold v_many
  by_cases h0 : x = 0
  · subst h0
    refine pe_of (pw_p (mm_c0 ?_))
    rw [if_pos rfl, h.1.2.1.1, a0, a1]
  by_cases h1 : x = 1
  · subst h1
    refine pe_of (pw_p (mm_c1 ?_))
    rw [if_neg h0, if_pos rfl, a3]
  by_cases h2 : x = 2
  · subst h2
    refine pe_of (pw_p (mm_c2 ?_))
    rw [if_neg h0, if_neg h1, if_pos rfl, ek2]
  by_cases h3 : x = 3
  · subst h3
    have eq : pcJ (J 8 3) = cq (fun c => decide (I 44 c ≠ -1)) k := by
      rw [pcJ_cq, show 64 = 2 * 32 from rfl, cq_even (fun i => by
        cases hz : kb (J 8 3) (2 * i + 1)
        · rfl
        · have := (c2 _ hz).1
          omega), show 32 = k + (32 - k) by omega, cq_pad (fun i hi => by
        cases hz : kb (J 8 3) (2 * i)
        · rfl
        · have := (c2 _ hz).2
          omega)]
      refine cq_c k fun c hc => ?_
      obtain ⟨-, -, -, g4, g5⟩ := c1 c hc
      rw [← g4]
      unfold td_at
      cases hz : kb (J 8 3) (2 * c)
      · exact (decide_eq_false (fun z => z rfl)).symm
      · refine (decide_eq_true ?_).symm
        show td_v (kb (J 8 2) (2 * c)) (kb (J 8 2) (2 * c + 1)) ≠ -1
        cases kb (J 8 2) (2 * c) <;> cases kb (J 8 2) (2 * c + 1) <;> decide
    have loop : ∀ (d i : Nat), i + d = k → ∀ N, pw N X 210 53 [.ref 35, .int (3 : Int32), .int (Int32.ofNat (cq (fun c => decide (I 44 c ≠ -1)) i)), .int (Int32.ofNat i)] [] (ev_hp I J R T) (fun r _ => r = some (.int (Int32.ofNat (cq (fun c => decide (I 44 c ≠ -1)) k)))) := by
      intro d
      induction d with
      | zero =>
        intro i hi N
        obtain rfl : i = k := by omega
        refine pw_p (mm_53 ⟨fun _ => rfl, fun g => ?_⟩)
        rw [ek2, ek] at g
        exact absurd (Int32.le_refl _) g
      | succ d ih =>
        intro i hid N
        have hq : cq (fun c => decide (I 44 c ≠ -1)) (i + 1) = cq (fun c => decide (I 44 c ≠ -1)) i + (bif decide (I 44 i ≠ -1) then 1 else 0) := rfl
        have h5 := ih (i + 1) (by omega) N
        rw [hq] at h5
        refine pw_p (mm_53 ?_)
        rw [ek2, ek, io_cl (by omega), io_1, io_1, Int32.add_zero]
        refine ⟨fun g => ?_, fun _ _ => ⟨fun g => ?_, fun g => ?_⟩⟩
        · rw [io_le (by omega) (by omega)] at g
          omega
        · rw [decide_eq_true (p := I 44 i ≠ -1) g] at h5
          exact h5
        · rw [decide_eq_false (p := I 44 i ≠ -1) g] at h5
          exact h5
    rw [if_neg h0, if_neg h1, if_neg h2, if_pos rfl, eq]
    exact pe_of (pw_p (mm_c3 (loop k 0 (by omega) _)))
  by_cases h4 : x = 4
  · subst h4
    have eq : cq (fun r => decide (I 33 r ≠ -1)) 12 = cq (fun r => decide (I 61 r ≠ -1)) (w + ht) := by
      have e12 : (I 1 4 + I 1 3).toInt.toNat = w + ht := by
        rw [ew, eh, io_add, io_ti (by omega)]
        omega
      rw [show 12 = (w + ht) + (12 - (w + ht)) by omega]
      have pad : ∀ d, w + ht + d ≤ 12 → cq (fun r => decide (I 33 r ≠ -1)) (w + ht + d) = cq (fun r => decide (I 33 r ≠ -1)) (w + ht) := by
        intro d
        induction d with
        | zero => intro _; rfl
        | succ d ih =>
          intro hd
          show cq (fun r => decide (I 33 r ≠ -1)) (w + ht + d) + (bif decide (I 33 (w + ht + d) ≠ -1) then 1 else 0) = _
          rw [ih (by omega), decide_eq_false (p := I 33 (w + ht + d) ≠ -1) (fun z => z (c4 _ (by omega) (by omega)))]
          rfl
      rw [pad _ (by omega)]
      exact cq_c _ fun r hr2 => by rw [km_c hr.1 (show r < 12 by omega)]
    have loop : ∀ (d i : Nat), i + d = w + ht → ∀ N, pw N X 210 89 [.ref 35, .int (4 : Int32), .int (Int32.ofNat (cq (fun r => decide (I 61 r ≠ -1)) i)), .int (Int32.ofNat i)] [] (ev_hp I J R T) (fun r _ => r = some (.int (Int32.ofNat (cq (fun r => decide (I 61 r ≠ -1)) (w + ht))))) := by
      intro d
      induction d with
      | zero =>
        intro i hi N
        obtain rfl : i = w + ht := by omega
        refine pw_p (mm_89 ⟨fun _ => rfl, fun g => ?_⟩)
        rw [← a0, ← a1, ew, eh, io_add] at g
        exact absurd (Int32.le_refl _) g
      | succ d ih =>
        intro i hid N
        have hq : cq (fun r => decide (I 61 r ≠ -1)) (i + 1) = cq (fun r => decide (I 61 r ≠ -1)) i + (bif decide (I 61 i ≠ -1) then 1 else 0) := rfl
        have h5 := ih (i + 1) (by omega) N
        rw [hq] at h5
        refine pw_p (mm_89 ?_)
        rw [← a0, ← a1, ew, eh, io_add, io_cl (by omega), io_1, io_1, Int32.add_zero]
        refine ⟨fun g => ?_, fun _ _ => ⟨fun g => ?_, fun g => ?_⟩⟩
        · rw [io_le (by omega) (by omega)] at g
          omega
        · rw [decide_eq_true (p := I 61 i ≠ -1) g] at h5
          exact h5
        · rw [decide_eq_false (p := I 61 i ≠ -1) g] at h5
          exact h5
    rw [if_neg h0, if_neg h1, if_neg h2, if_neg h3, if_pos rfl, eq]
    exact pe_of (pw_p (mm_c4 (loop (w + ht) 0 (by omega) _)))
  rw [if_neg h0, if_neg h1, if_neg h2, if_neg h3, if_neg h4]
  exact pe_of (pw_p (mm_d (pw_p (pw_swd (q := 128) (by rfl) (n_5 h0 h1 h2 h3 h4) (by rfl) (pw_p (mm_128 rfl))))))
theorem lxc_many (hX2 : X.1 < 2 ^ 31) (hh : cx_hok cx_B0 I R T) (hr : rl3 I J R T) (x : Int32) : ev_W X 33 0 (ez_lay [.ref 0, .int x]) [] (ev_hp I J R T) 0 0 (lw_mid T (fun v I1 J1 R1 T1 => v = v_many I1 J1 x ∧ rl3 I1 J1 R1 T1)) := by
  refine (lxc_of (l3x_many hX2 hh hr x) (fun N => pe_xmany) (by rfl) cv_33_0 hX2 hh ao_1).mono (lw_mono fun v I1 J1 R1 T1 q => ⟨?_, q.2.2⟩)
  rw [q.1, v_many_b q.2.1]
theorem lmc_many (hX2 : X.1 < 2 ^ 31) (hh : cx_hok cx_B0 I R T) (hr : rl3 I J R T) (x : Int32) (hh1 : cx_hok cx_B0 I1 R1 T1) (hm : v = v_many I1 J1 x ∧ rl3 I1 J1 R1 T1) : ev_W X 210 0 (ez_lay [.ref 35, .int x]) [] (ev_hp I1 J1 R1 T1) 0 0 (lw_mid T1 (fun u I2 J2 R2 T2 => u = v ∧ rl3 I2 J2 R2 T2)) := by
  refine (lmc_of (l3m_many hX2 hh hr x hh1 hm.2) (fun N => pe_mmany hm.2 hh1.1)).mono (lw_mono fun u I2 J2 R2 T2 q => ⟨?_, q.2⟩)
  rw [q.1, hm.1]
end
end
