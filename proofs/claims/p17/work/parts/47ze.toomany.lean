/-! Whether there are too many layings; if not, they are found. -/
section
variable {N : Nat} {X : ez_X} {I : Nat → Nat → Int32} {J : Nat → Nat → Int64} {R : Nat → Nat} {T : List ez_C} {Q : pw_Q} {cz kz : Nat}
set_option maxRecDepth 100000 in
theorem gw_r0 {a0 : Int32} {a1 : Int32} : ∀ G : ez_F, fx_up X 10 G 19 0 [.int a0, .int a1] [] (ev_hp I J R T) cz kz = some (some (.int (if (0 : Int32) < (if (if a1 < ((2 : Int32) * a0) then ((2 : Int32) * a0) else a1) < (10000 : Int32) then (if a1 < ((2 : Int32) * a0) then ((2 : Int32) * a0) else a1) else (10000 : Int32)) then (if (if a1 < ((2 : Int32) * a0) then ((2 : Int32) * a0) else a1) < (10000 : Int32) then (if a1 < ((2 : Int32) * a0) then ((2 : Int32) * a0) else a1) else (10000 : Int32)) else (0 : Int32))), (ev_hp I J R T), cz, kz) := by
  intro G
  rfl
theorem gw_0 {h w : Int32}
    (H : Q (some (.int (if (0 : Int32) < (if (if w < ((2 : Int32) * h) then ((2 : Int32) * h) else w) < (10000 : Int32) then (if w < ((2 : Int32) * h) then ((2 : Int32) * h) else w) else (10000 : Int32)) then (if (if w < ((2 : Int32) * h) then ((2 : Int32) * h) else w) < (10000 : Int32) then (if w < ((2 : Int32) * h) then ((2 : Int32) * h) else w) else (10000 : Int32)) else (0 : Int32)))) (ev_hp I J R T)) : pw (N + 1) X 19 0 [.int h, .int w] [] (ev_hp I J R T) Q := by
  exact pw_ret (by decide) (fun _ _ => gw_r0) H
end
def gw_F (h w : Int32) : Int32 := if (0 : Int32) < (if (if w < (2 : Int32) * h then (2 : Int32) * h else w) < (10000 : Int32) then (if w < (2 : Int32) * h then (2 : Int32) * h else w) else (10000 : Int32)) then (if (if w < (2 : Int32) * h then (2 : Int32) * h else w) < (10000 : Int32) then (if w < (2 : Int32) * h then (2 : Int32) * h else w) else (10000 : Int32)) else 0
theorem io_max {a b : Nat} (ha : a < 2147483648) (hb : b < 2147483648) : (if Int32.ofNat a < Int32.ofNat b then Int32.ofNat b else Int32.ofNat a) = Int32.ofNat (max a b) := by
  by_cases h : a < b
  · rw [if_pos ((io_lt ha hb).mpr h)]
    congr 1
    omega
  · rw [if_neg (fun z => h ((io_lt ha hb).mp z))]
    congr 1
    omega
theorem io_min {a b : Nat} (ha : a < 2147483648) (hb : b < 2147483648) : (if Int32.ofNat a < Int32.ofNat b then Int32.ofNat a else Int32.ofNat b) = Int32.ofNat (min a b) := by
  by_cases h : a < b
  · rw [if_pos ((io_lt ha hb).mpr h)]
    congr 1
    omega
  · rw [if_neg (fun z => h ((io_lt ha hb).mp z))]
    congr 1
    omega
theorem gw_n {h w : Nat} (hh : h ≤ 10000) (hw : w ≤ 10000) : ∃ n : Nat, gw_F (Int32.ofNat h) (Int32.ofNat w) = Int32.ofNat n ∧ w ≤ n ∧ n ≤ 10000 := by
  have e : (2 : Int32) * Int32.ofNat h = Int32.ofNat (2 * h) := io_mul 2 h
  unfold gw_F
  rw [e, io_max (by omega) (by omega), show (10000 : Int32) = Int32.ofNat 10000 from rfl, io_min (by omega) (by omega), show (0 : Int32) = Int32.ofNat 0 from rfl, io_max (by omega) (by omega)]
  exact ⟨_, rfl, by omega, by omega⟩
/-- the class's register holds these layings -/
def rgd (I : Nat → Nat → Int32) (R : Nat → Nat) (T : List ez_C) (L : List ly_t) : Prop := I 6 3 = Int32.ofNat L.length ∧ ∃ n f, rowT (R 0) T n f ∧ L.length ≤ n ∧ n ≤ 10000 ∧ ly_row f L
def se_L (n0 n1 n2 : Nat) (e1 e2 b0 b1 : Nat → Int64) : List ly_t := ly_1 (ly_p e1 b0) (ly_q e2 b0 b1) n1 n2 n0
/-- rows that stood stand as they were, but for the register's -/
def keepR (R : Nat → Nat) (T : List ez_C) (R' : Nat → Nat) (T' : List ez_C) : Prop := (∀ i, i ≠ 0 → R' i = R i) ∧ (R' 0 = R 0 ∨ R' 0 = 65 + T.length) ∧ T.length ≤ T'.length ∧ ∀ j, j < T.length → j + 65 ≠ R 0 → T'[j]? = T[j]?
def se_Q (I : Nat → Nat → Int32) (J : Nat → Nat → Int64) (R : Nat → Nat) (T : List ez_C) (L : List ly_t) (h : ez_H) : Prop := ∃ f6 R' T', h = ev_hp (ev_sI I 6 f6) J R' T' ∧ f6 4 = 1 ∧ rgd (ev_sI I 6 f6) R' T' L ∧ keepR R T R' T'
section
variable {N : Nat} {X : ez_X} {I : Nat → Nat → Int32} {J : Nat → Nat → Int64} {R : Nat → Nat} {T : List ez_C} {n0 n1 n2 : Nat} {e0 e1 e2 b0 b1 : Nat → Int64}
theorem pe_grown {h w : Int32} : pe N X 19 [.int h, .int w] (ev_hp I J R T) (fun r h1 => r = some (.int (gw_F h w)) ∧ h1 = ev_hp I J R T) := pe_of (pw_p (gw_0 ⟨rfl, rfl⟩))
theorem cb_is (hw : sr_w I J n0 n1 n2 e0 e1 e2 b0 b1) : cb_F I = Int32.ofNat (n0 * (n1 * n2)) := by
  unfold cb_F
  rw [hw.1.1, hw.1.2.1, hw.1.2.2, io_mul, io_mul, Nat.mul_assoc]
theorem cb_lt (hw : sr_w I J n0 n1 n2 e0 e1 e2 b0 b1) : n0 * (n1 * n2) < 2147483648 := by
  obtain ⟨-, -, -, h0, h1, h2⟩ := hw
  have a1 : n1 * n2 ≤ 288 * 288 := Nat.mul_le_mul h1 h2
  have a2 : n0 * (n1 * n2) ≤ 288 * (288 * 288) := Nat.mul_le_mul h0 a1
  omega
theorem pe_search (hw : sr_w I J n0 n1 n2 e0 e1 e2 b0 b1) (hk : I 6 4 = 0 ∨ (I 6 4 = 1 ∧ rgd I R T (se_L n0 n1 n2 e1 e2 b0 b1))) (hm : n0 * (n1 * n2) ≤ 10000) (hrow : ∃ n f, rowT (R 0) T n f ∧ n ≤ 10000) : pe N X 140 [.ref 6] (ev_hp I J R T) (fun r h => r = none ∧ se_Q I J R T (se_L n0 n1 n2 e1 e2 b0 b1) h) := by
  have ecb := cb_is hw
  refine pe_of (pw_p (s1_0 ⟨fun z => ?_, fun z => ⟨fun _ => ?_, fun z2 => ?_⟩⟩))
  · rcases hk with h | ⟨h1, h2⟩
    · exact absurd h z
    · exact ⟨rfl, I 6, R, T, by rw [sI_self], h1, by rw [sI_self]; exact h2, fun _ _ => rfl, Or.inl rfl, Nat.le_refl _, fun _ _ _ => rfl⟩
  · obtain ⟨n, f, hr, hn⟩ := hrow
    obtain ⟨f', g1, g2⟩ := rowT_hp (I := ev_sI (ev_sI I 6 (upd (I 6) 4 (1 : Int32))) 6 (upd (upd (I 6) 4 (1 : Int32)) 3 (0 : Int32))) (J := J) (R := R) hr
    refine pw_p (pw_alenI (by rfl) g1 ?_)
    rw [sI2]
    have start : ∀ (R1 : Nat → Nat) (T1 : List ez_C) (n : Nat) (f : Nat → Int32), rowT (R1 0) T1 n f → n0 * (n1 * n2) ≤ n → n ≤ 10000 → keepR R T R1 T1 → pw N X 140 68 [.ref 6, .int (cb_F I), .int (sz_F (ev_sI I 6 (upd (upd (I 6) 4 (1 : Int32)) 3 (0 : Int32))) 0), .int (0 : Int32)] [] (ev_hp (ev_sI I 6 (upd (upd (I 6) 4 (1 : Int32)) 3 (0 : Int32))) J R1 T1) (fun r h => r = none ∧ se_Q I J R T (se_L n0 n1 n2 e1 e2 b0 b1) h) := by
      intro R1 T1 n f hr1 h1 h2 hkp
      have hw6 := sr_w6 (upd (upd (I 6) 4 (1 : Int32)) 3 (0 : Int32)) hw
      rw [hw6.1.1]
      refine s1_loop (n := n) (T1 := T1) hw h2 h1 (fun I2 T2 hs => ?_) N 0 _ T1 (Nat.zero_le _) ⟨f, rfl, hr1, fun k hk => absurd hk (Nat.not_lt_zero k), keepT_r _ _⟩
      obtain ⟨f2, rfl, r1, r2, r3⟩ := hs
      refine ⟨rfl, _, R1, T2, rfl, ?_, ⟨?_, n, f2, r1, ?_, h2, r2⟩, hkp.1, hkp.2.1, by rw [r3.1]; exact hkp.2.2.1, fun j hj hne => ?_⟩
      · rw [upd_n _ _ (by decide), upd_s]
      · rw [cx_sI_s, upd_s]
        rfl
      · exact Nat.le_trans (ly_1l _ _ _ _ _) h1
      · by_cases hx : j + 65 = R1 0
        · rcases hkp.2.1 with h5 | h5
          · omega
          · omega
        · rw [r3.2 j hx]
          exact hkp.2.2.2 j hj hne
    refine pw_p (s1_39 ⟨fun z => ?_, fun z => ?_⟩)
    · rw [ecb, io_le (cb_lt hw) (by omega)] at z
      exact start R T n f hr z hn ⟨fun _ _ => rfl, Or.inl rfl, Nat.le_refl _, fun _ _ _ => rfl⟩
    · rw [ecb, io_le (cb_lt hw) (by omega)] at z
      obtain ⟨f3, g3, -⟩ := rowT_hp (I := ev_sI I 6 (upd (upd (I 6) 4 (1 : Int32)) 3 (0 : Int32))) (J := J) (R := R) hr
      refine pw_p (pw_alenI (by rfl) g3 ?_)
      refine pw_p (s1_48 ⟨_, pe_grown, ?_⟩)
      rintro r h ⟨rfl, rfl⟩
      obtain ⟨n', e', k1, k2⟩ := gw_n (h := n) (w := n0 * (n1 * n2)) hn hm
      rw [ecb, e']
      refine pw_p (pw_new (by rfl) (by omega) ?_)
      refine pw_p (s1_54 ?_)
      rw [← ecb]
      refine start (ev_sR R 0 (65 + T.length)) _ n' (fun _ => 0) ?_ k1 k2 ⟨fun i hi => ?_, Or.inr ?_, by simp, fun j hj _ => by rw [List.getElem?_append_left hj]⟩
      · refine Or.inr ⟨?_, ?_⟩
        · show 65 ≤ ev_sR R 0 (65 + T.length) 0
          unfold ev_sR
          rw [show Nat.beq 0 0 = true from rfl]
          exact Nat.le_add_right _ _
        · have e0 : ev_sR R 0 (65 + T.length) 0 = 65 + T.length := rfl
          rw [e0, show 65 + T.length - 65 = T.length by omega, List.getElem?_append_right (Nat.le_refl _), Nat.sub_self]
          rfl
      · unfold ev_sR
        rw [cx_beqf hi]
        rfl
      · rfl
  · rw [ecb, show (10000 : Int32) = Int32.ofNat 10000 from rfl, io_le (cb_lt hw) (by omega)] at z2
    exact absurd hm z2
/-- too many, or found -/
theorem pe_tooMany (hw : sr_w I J n0 n1 n2 e0 e1 e2 b0 b1) (hk : I 6 4 = 0 ∨ (I 6 4 = 1 ∧ rgd I R T (se_L n0 n1 n2 e1 e2 b0 b1))) (hrow : ∃ n f, rowT (R 0) T n f ∧ n ≤ 10000) : pe N X 52 [.ref 0] (ev_hp I J R T) (fun r h => (10000 < n0 * (n1 * n2) ∧ r = some (.int 1) ∧ h = ev_hp I J R T) ∨ (n0 * (n1 * n2) ≤ 10000 ∧ r = some (.int 0) ∧ se_Q I J R T (se_L n0 n1 n2 e1 e2 b0 b1) h)) := by
  have ecb := cb_is hw
  refine pe_of (pw_p (tm_0 ⟨fun z => ?_, fun z _ => ?_⟩))
  · rw [ecb, show (10000 : Int32) = Int32.ofNat 10000 from rfl, io_le (cb_lt hw) (by omega)] at z
    refine ⟨_, pe_search hw hk z hrow, ?_⟩
    rintro r h ⟨rfl, f6, R', T', rfl, h1⟩
    exact pw_p (tm_22 fun _ => Or.inr ⟨z, rfl, f6, R', T', rfl, h1⟩)
  · rw [ecb, show (10000 : Int32) = Int32.ofNat 10000 from rfl, io_le (cb_lt hw) (by omega)] at z
    exact Or.inl ⟨by omega, rfl, rfl⟩
end
