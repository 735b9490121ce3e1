/-! Shapes turned and mirrored: the class and the reference come to the same. -/
section
variable {X : ez_X} {I : Nat → Nat → Int32} {J : Nat → Nat → Int64} {R : Nat → Nat} {T : List ez_C} {cz kz : Nat}
theorem qt_r0 {s : Int32} : ∀ G : ez_F, fx_up X 4 G 93 0 [.int s] [] (ev_hp I J R T) cz kz = G 93 4 [.int s, .int 0, .int 0] [] (ev_hp I J R T) cz kz := by
  intro G
  rfl
theorem qt_r1 {s : Int32} {t : Int32} {i : Int32} : ∀ G : ez_F, fx_up X 3 G 93 4 [.int s, .int t, .int i] [] (ev_hp I J R T) cz kz = bif decide ((16 : Int32) ≤ i) then G 93 38 [.int s, .int t, .int i] [] (ev_hp I J R T) cz kz else G 93 10 [.int s, .int t, .int i] [] (ev_hp I J R T) cz kz := by
  intro G
  rfl
theorem qt_r2 {s : Int32} {t : Int32} {i : Int32} : ∀ G : ez_F, fx_up X 2 G 93 38 [.int s, .int t, .int i] [] (ev_hp I J R T) cz kz = some (some (.int t), ev_hp I J R T, cz, kz) := by
  intro G
  rfl
set_option maxRecDepth 100000 in
theorem qt_r3 {s : Int32} {t : Int32} {i : Int32} : ∀ G : ez_F, fx_up X 24 G 93 10 [.int s, .int t, .int i] [] (ev_hp I J R T) cz kz = G 93 4 [.int s, .int (t ||| (((s >>> (i &&& (31 : Int32))) &&& (1 : Int32)) <<< (((((4 : Int32) * (i &&& (3 : Int32))) + (3 : Int32)) - (i >>> 2)) &&& (31 : Int32)))), .int (i + 1), .int ((((4 : Int32) * (i &&& (3 : Int32))) + (3 : Int32)) - (i >>> 2))] [] (ev_hp I J R T) cz kz := by
  intro G
  rfl
end
section
variable {X : ez_X} {I : Nat → Nat → Int32} {J : Nat → Nat → Int64} {R : Nat → Nat} {T : List ez_C} {cz kz : Nat}
theorem mi_r0 {s : Int32} : ∀ G : ez_F, fx_up X 4 G 90 0 [.int s] [] (ev_hp I J R T) cz kz = G 90 4 [.int s, .int 0, .int 0] [] (ev_hp I J R T) cz kz := by
  intro G
  rfl
theorem mi_r1 {s : Int32} {t : Int32} {i : Int32} : ∀ G : ez_F, fx_up X 3 G 90 4 [.int s, .int t, .int i] [] (ev_hp I J R T) cz kz = bif decide ((16 : Int32) ≤ i) then G 90 28 [.int s, .int t, .int i] [] (ev_hp I J R T) cz kz else G 90 10 [.int s, .int t, .int i] [] (ev_hp I J R T) cz kz := by
  intro G
  rfl
theorem mi_r2 {s : Int32} {t : Int32} {i : Int32} : ∀ G : ez_F, fx_up X 2 G 90 28 [.int s, .int t, .int i] [] (ev_hp I J R T) cz kz = some (some (.int t), ev_hp I J R T, cz, kz) := by
  intro G
  rfl
set_option maxRecDepth 100000 in
theorem mi_r3 {s : Int32} {t : Int32} {i : Int32} : ∀ G : ez_F, fx_up X 14 G 90 10 [.int s, .int t, .int i] [] (ev_hp I J R T) cz kz = G 90 4 [.int s, .int (t ||| (((s >>> (i &&& (31 : Int32))) &&& (1 : Int32)) <<< ((i ^^^ (3 : Int32)) &&& (31 : Int32)))), .int (i + 1)] [] (ev_hp I J R T) cz kz := by
  intro G
  rfl
end
section
variable {X : ez_X} {I : Nat → Nat → Int32} {J : Nat → Nat → Int64} {R : Nat → Nat} {T : List ez_C} {cz kz : Nat}
theorem tu_r0 {b : Int32} {t : Int32} : ∀ G : ez_F, fx_up X 4 G 230 0 [.int b, .int t] [] (ev_hp I J R T) cz kz = G 230 4 [.int b, .int t, .int 0, .int 0] [] (ev_hp I J R T) cz kz := by
  intro G
  rfl
theorem tu_r1 {b : Int32} {t : Int32} {g : Int32} {k : Int32} : ∀ G : ez_F, fx_up X 3 G 230 4 [.int b, .int t, .int g, .int k] [] (ev_hp I J R T) cz kz = bif decide ((16 : Int32) ≤ k) then G 230 91 [.int b, .int t, .int g, .int k] [] (ev_hp I J R T) cz kz else G 230 10 [.int b, .int t, .int g, .int k] [] (ev_hp I J R T) cz kz := by
  intro G
  rfl
theorem tu_r2 {b : Int32} {t : Int32} {g : Int32} {k : Int32} : ∀ G : ez_F, fx_up X 4 G 230 10 [.int b, .int t, .int g, .int k] [] (ev_hp I J R T) cz kz = ev_C G 197 [.long (b.toInt64), .int k] (ev_hp I J R T) fun r h1 c1 k1 => G 230 16 [.int b, .int t, .int g, .int k] (r.toList ++ []) h1 (cz + c1) (kz + k1) := by
  intro G
  rfl
theorem tu_r3 {b : Int32} {t : Int32} {g : Int32} {k : Int32} {v : Int32} : ∀ G : ez_F, fx_up X 1 G 230 16 [.int b, .int t, .int g, .int k] [.int v] (ev_hp I J R T) cz kz = bif decide (v = (0 : Int32)) then G 230 85 [.int b, .int t, .int g, .int k] [] (ev_hp I J R T) cz kz else G 230 19 [.int b, .int t, .int g, .int k] [] (ev_hp I J R T) cz kz := by
  intro G
  rfl
theorem tu_r4 {b : Int32} {t : Int32} {g : Int32} {k : Int32} : ∀ G : ez_F, fx_up X 2 G 230 85 [.int b, .int t, .int g, .int k] [] (ev_hp I J R T) cz kz = G 230 4 [.int b, .int t, .int g, .int (k + 1)] [] (ev_hp I J R T) cz kz := by
  intro G
  rfl
theorem tu_r5 {b : Int32} {t : Int32} {g : Int32} {k : Int32} : ∀ G : ez_F, fx_up X 3 G 230 19 [.int b, .int t, .int g, .int k] [] (ev_hp I J R T) cz kz = bif decide (t ≤ (3 : Int32)) then G 230 32 [.int b, .int t, .int g, .int k] [] (ev_hp I J R T) cz kz else G 230 24 [.int b, .int t, .int g, .int k] [] (ev_hp I J R T) cz kz := by
  intro G
  rfl
theorem tu_r6 {b : Int32} {t : Int32} {g : Int32} {k : Int32} : ∀ G : ez_F, fx_up X 3 G 230 24 [.int b, .int t, .int g, .int k] [] (ev_hp I J R T) cz kz = G 230 27 [.int b, .int t, .int g, .int k] [.int 4, .int k, .int 3] (ev_hp I J R T) cz kz := by
  intro G
  rfl
theorem tu_r7 {b : Int32} {t : Int32} {g : Int32} {k : Int32} {m : Int32} : ∀ G : ez_F, fx_up X 5 G 230 28 [.int b, .int t, .int g, .int k] [.int m, .int 3] (ev_hp I J R T) cz kz = G 230 39 [.int b, .int t, .int g, .int k, .int (3 - m)] [.int 4, .int k] (ev_hp I J R T) cz kz := by
  intro G
  rfl
theorem tu_r8 {b : Int32} {t : Int32} {g : Int32} {k : Int32} : ∀ G : ez_F, fx_up X 2 G 230 32 [.int b, .int t, .int g, .int k] [] (ev_hp I J R T) cz kz = G 230 34 [.int b, .int t, .int g, .int k] [.int 4, .int k] (ev_hp I J R T) cz kz := by
  intro G
  rfl
theorem tu_r9 {b : Int32} {t : Int32} {g : Int32} {k : Int32} {m : Int32} : ∀ G : ez_F, fx_up X 3 G 230 35 [.int b, .int t, .int g, .int k] [.int m] (ev_hp I J R T) cz kz = G 230 39 [.int b, .int t, .int g, .int k, .int m] [.int 4, .int k] (ev_hp I J R T) cz kz := by
  intro G
  rfl
theorem tu_r10 {b : Int32} {t : Int32} {g : Int32} {k : Int32} {x : Int32} {m : Int32} : ∀ G : ez_F, fx_up X 3 G 230 40 [.int b, .int t, .int g, .int k, .int x] [.int m] (ev_hp I J R T) cz kz = G 230 45 [.int b, .int t, .int g, .int k, .int x, .int m, .int 0] [] (ev_hp I J R T) cz kz := by
  intro G
  rfl
theorem tu_r11 {b : Int32} {t : Int32} {g : Int32} {k : Int32} {x : Int32} {y : Int32} {q : Int32} : ∀ G : ez_F, fx_up X 3 G 230 45 [.int b, .int t, .int g, .int k, .int x, .int y, .int q] [] (ev_hp I J R T) cz kz = G 230 49 [.int b, .int t, .int g, .int k, .int x, .int y, .int q] [.int 4, .int t, .int q] (ev_hp I J R T) cz kz := by
  intro G
  rfl
theorem tu_r12 {b : Int32} {t : Int32} {g : Int32} {k : Int32} {x : Int32} {y : Int32} {q : Int32} {m : Int32} : ∀ G : ez_F, fx_up X 1 G 230 50 [.int b, .int t, .int g, .int k, .int x, .int y, .int q] [.int m, .int q] (ev_hp I J R T) cz kz = bif decide (m ≤ q) then G 230 73 [.int b, .int t, .int g, .int k, .int x, .int y, .int q] [] (ev_hp I J R T) cz kz else G 230 53 [.int b, .int t, .int g, .int k, .int x, .int y, .int q] [] (ev_hp I J R T) cz kz := by
  intro G
  rfl
set_option maxRecDepth 100000 in
theorem tu_r13 {b : Int32} {t : Int32} {g : Int32} {k : Int32} {x : Int32} {y : Int32} {q : Int32} : ∀ G : ez_F, fx_up X 10 G 230 53 [.int b, .int t, .int g, .int k, .int x, .int y, .int q] [] (ev_hp I J R T) cz kz = G 230 45 [.int b, .int t, .int g, .int k, .int (3 - y), .int x, .int (q + 1), .int x] [] (ev_hp I J R T) cz kz := by
  intro G
  rfl
set_option maxRecDepth 100000 in
theorem tu_r14 {b : Int32} {t : Int32} {g : Int32} {k : Int32} {x : Int32} {y : Int32} {q : Int32} : ∀ G : ez_F, fx_up X 10 G 230 73 [.int b, .int t, .int g, .int k, .int x, .int y, .int q] [] (ev_hp I J R T) cz kz = G 230 85 [.int b, .int t, .int (g ||| (1 <<< (((4 * y) + x) &&& (31 : Int32)))), .int k, .int x, .int y, .int q] [] (ev_hp I J R T) cz kz := by
  intro G
  rfl
theorem tu_r15 {b : Int32} {t : Int32} {g : Int32} {k : Int32} : ∀ G : ez_F, fx_up X 2 G 230 91 [.int b, .int t, .int g, .int k] [] (ev_hp I J R T) cz kz = some (some (.int g), ev_hp I J R T, cz, kz) := by
  intro G
  rfl
end
/-- the cells of a shape, each carried to its place -/
def pm (ρ : Nat → Nat) (s : Nat) : Nat → Nat
  | 0 => 0
  | j + 1 => pm ρ s j ||| (bif s.testBit j then 2 ^ ρ j else 0)
theorem pm_bit (ρ : Nat → Nat) (s k : Nat) : ∀ n, (pm ρ s n).testBit k = true ↔ ∃ j, j < n ∧ ρ j = k ∧ s.testBit j = true := by
  intro n
  induction n with
  | zero =>
    constructor
    · intro h
      rw [show pm ρ s 0 = 0 from rfl, Nat.zero_testBit] at h
      cases h
    · rintro ⟨j, hj, -⟩
      omega
  | succ n ih =>
    rw [show pm ρ s (n + 1) = pm ρ s n ||| (bif s.testBit n then 2 ^ ρ n else 0) from rfl, Nat.testBit_or, Bool.or_eq_true, ih]
    constructor
    · rintro (⟨j, h1, h2, h3⟩ | h)
      · exact ⟨j, by omega, h2, h3⟩
      · cases hb : s.testBit n with
        | false =>
          rw [hb] at h
          rw [show (bif false then 2 ^ ρ n else 0) = 0 from rfl, Nat.zero_testBit] at h
          cases h
        | true =>
          rw [hb] at h
          rw [show (bif true then 2 ^ ρ n else 0) = 2 ^ ρ n from rfl, Nat.testBit_two_pow] at h
          exact ⟨n, by omega, of_decide_eq_true h, hb⟩
    · rintro ⟨j, h1, h2, h3⟩
      by_cases hj : j = n
      · subst hj
        refine Or.inr ?_
        rw [h3, show (bif true then 2 ^ ρ j else 0) = 2 ^ ρ j from rfl, Nat.testBit_two_pow]
        exact decide_eq_true h2
      · exact Or.inl ⟨j, by omega, h2, h3⟩
theorem pm_eq {a b : Nat} (h : ∀ k, a.testBit k = true ↔ b.testBit k = true) : a = b := Nat.eq_of_testBit_eq fun k => by
  have := h k
  cases ha : a.testBit k <;> cases hb : b.testBit k <;> simp_all
theorem pm_lt {ρ : Nat → Nat} (h : ∀ j, j < 16 → ρ j < 16) (s : Nat) {n : Nat} (hn : n ≤ 16) : pm ρ s n < 65536 := by
  refine Nat.lt_pow_two_of_testBit (n := 16) _ fun k hk => ?_
  cases hb : (pm ρ s n).testBit k with
  | false => rfl
  | true =>
    obtain ⟨j, h1, h2, -⟩ := (pm_bit ρ s k n).mp hb
    have := h j (by omega)
    omega
theorem pm_comp {σ ρ : Nat → Nat} (h : ∀ j, j < 16 → ρ j < 16) (s : Nat) : pm σ (pm ρ s 16) 16 = pm (fun j => σ (ρ j)) s 16 := pm_eq fun k => by
  rw [pm_bit, pm_bit]
  constructor
  · rintro ⟨m, h1, h2, h3⟩
    obtain ⟨j, g1, g2, g3⟩ := (pm_bit ρ s m 16).mp h3
    exact ⟨j, g1, by rw [← h2, ← g2], g3⟩
  · rintro ⟨j, h1, h2, h3⟩
    exact ⟨ρ j, h j h1, h2, (pm_bit ρ s (ρ j) 16).mpr ⟨j, h1, rfl, h3⟩⟩
theorem pm_congr {ρ ρ' : Nat → Nat} (s : Nat) : ∀ n, (∀ j, j < n → ρ j = ρ' j) → pm ρ s n = pm ρ' s n := by
  intro n
  induction n with
  | zero => exact fun _ => rfl
  | succ n ih =>
    intro h
    show pm ρ s n ||| _ = pm ρ' s n ||| _
    rw [ih fun j hj => h j (by omega), h n (by omega)]
theorem pm_id {s : Nat} (hs : s < 65536) : pm (fun j => j) s 16 = s := pm_eq fun k => by
  rw [pm_bit]
  constructor
  · rintro ⟨j, -, h2, h3⟩
    rw [← h2]
    exact h3
  · intro h
    refine ⟨k, ?_, rfl, h⟩
    apply Classical.byContradiction
    intro hk
    have hp : (2 : Nat) ^ 16 ≤ 2 ^ k := Nat.pow_le_pow_right (by decide) (by omega)
    rw [Nat.testBit_lt_two_pow (Nat.lt_of_lt_of_le (show s < 2 ^ 16 from hs) hp)] at h
    cases h
def sg (j : Nat) : Nat := 4 * (j % 4) + 3 - j / 4
def ta (j : Nat) : Nat := j ^^^ 3
theorem si_or (a b : Nat) : Int32.ofNat a ||| Int32.ofNat b = Int32.ofNat (a ||| b) := by
  apply Int32.toBitVec_inj.1
  show BitVec.ofNat 32 a ||| BitVec.ofNat 32 b = BitVec.ofNat 32 (a ||| b)
  apply BitVec.eq_of_getLsbD_eq
  intro i hi
  simp [hi]
theorem sg_tab : ((List.range 16).all fun j => decide ((1 : Int32) <<< (((((4 : Int32) * (Int32.ofNat j &&& (3 : Int32))) + (3 : Int32)) - (Int32.ofNat j >>> 2)) &&& (31 : Int32)) = Int32.ofNat (2 ^ sg j)) && (decide ((0 : Int32) <<< (((((4 : Int32) * (Int32.ofNat j &&& (3 : Int32))) + (3 : Int32)) - (Int32.ofNat j >>> 2)) &&& (31 : Int32)) = 0) &&
  (decide ((1 : Int32) <<< ((Int32.ofNat j ^^^ (3 : Int32)) &&& (31 : Int32)) = Int32.ofNat (2 ^ ta j)) && (decide ((0 : Int32) <<< ((Int32.ofNat j ^^^ (3 : Int32)) &&& (31 : Int32)) = 0) && (decide (sg j < 16) && (decide (ta j < 16) && decide (Int32.ofNat j + 1 = Int32.ofNat (j + 1)))))))) = true := by decide +kernel
theorem sg_tab_s {j : Nat} (hj : j < 16) : (1 : Int32) <<< (((((4 : Int32) * (Int32.ofNat j &&& (3 : Int32))) + (3 : Int32)) - (Int32.ofNat j >>> 2)) &&& (31 : Int32)) = Int32.ofNat (2 ^ sg j) ∧ (0 : Int32) <<< (((((4 : Int32) * (Int32.ofNat j &&& (3 : Int32))) + (3 : Int32)) - (Int32.ofNat j >>> 2)) &&& (31 : Int32)) = 0 ∧ (1 : Int32) <<< ((Int32.ofNat j ^^^ (3 : Int32)) &&& (31 : Int32)) = Int32.ofNat (2 ^ ta j) ∧ (0 : Int32) <<< ((Int32.ofNat j ^^^ (3 : Int32)) &&& (31 : Int32)) = 0 ∧ sg j < 16 ∧ ta j < 16 ∧ Int32.ofNat j + 1 = Int32.ofNat (j + 1) := by
  have h := List.all_eq_true.mp sg_tab j (List.mem_range.mpr hj)
  simp only [Bool.and_eq_true, decide_eq_true_eq] at h
  exact h
section
variable (X : ez_X) (I : Nat → Nat → Int32) (J : Nat → Nat → Int64) (R : Nat → Nat) (T : List ez_C)
theorem ex_qt {s : Nat} (hs : s < 65536) : ev_W X 93 0 (ez_lay [.int (Int32.ofNat s)]) [] (ev_hp I J R T) 0 0 (ev_is (some (.int (Int32.ofNat (pm sg s 16)))) (ev_hp I J R T)) := by
  have loop : ∀ (r j : Nat) (cz kz : Nat), j + r = 16 → ev_W X 93 4 [.int (Int32.ofNat s), .int (Int32.ofNat (pm sg s j)), .int (Int32.ofNat j)] [] (ev_hp I J R T) cz kz (fun q h' c' k' => q = some (.int (Int32.ofNat (pm sg s 16))) ∧ h' = ev_hp I J R T ∧ c' = cz ∧ k' = kz) := by
    intro r
    induction r with
    | zero =>
      intro j cz kz hj
      obtain rfl : j = 16 := by omega
      exact ev_if qt_r1 (fun _ => ev_ret qt_r2 ⟨rfl, rfl, rfl, rfl⟩) (fun h => absurd (by decide) (of_decide_eq_false h))
    | succ r ih =>
      intro j cz kz hj
      obtain ⟨t1, t2, -, -, -, -, t7⟩ := sg_tab_s (j := j) (by omega)
      refine ev_if qt_r1 (fun h => ?_) (fun _ => ?_)
      · have := Int32.le_iff_toInt_le.mp (of_decide_eq_true h)
        rw [Int32.toInt_ofNat_of_lt (by omega), show (16 : Int32).toInt = 16 from by decide] at this
        omega
      refine ev_seg qt_r3 ?_
      refine ev_cutl (by rfl) ?_
      have e : Int32.ofNat (pm sg s j) ||| (((Int32.ofNat s >>> (Int32.ofNat j &&& (31 : Int32))) &&& (1 : Int32)) <<< (((((4 : Int32) * (Int32.ofNat j &&& (3 : Int32))) + (3 : Int32)) - (Int32.ofNat j >>> 2)) &&& (31 : Int32))) = Int32.ofNat (pm sg s (j + 1)) := by
        rw [kbI_and1, kbI_sar0 _ (by omega), kbI_of hs]
        show _ = Int32.ofNat (pm sg s j ||| (bif s.testBit j then 2 ^ sg j else 0))
        rw [← si_or]
        cases s.testBit j
        · show _ ||| ((0 : Int32) <<< _) = _
          rw [t2]
          rfl
        · show _ ||| ((1 : Int32) <<< _) = _
          rw [t1]
          rfl
      rw [e, t7]
      exact ih (j + 1) _ _ (by omega)
  refine ev_seg qt_r0 ?_
  exact loop 16 0 _ _ rfl
theorem ex_mi {s : Nat} (hs : s < 65536) : ev_W X 90 0 (ez_lay [.int (Int32.ofNat s)]) [] (ev_hp I J R T) 0 0 (ev_is (some (.int (Int32.ofNat (pm ta s 16)))) (ev_hp I J R T)) := by
  have loop : ∀ (r j : Nat) (cz kz : Nat), j + r = 16 → ev_W X 90 4 [.int (Int32.ofNat s), .int (Int32.ofNat (pm ta s j)), .int (Int32.ofNat j)] [] (ev_hp I J R T) cz kz (fun q h' c' k' => q = some (.int (Int32.ofNat (pm ta s 16))) ∧ h' = ev_hp I J R T ∧ c' = cz ∧ k' = kz) := by
    intro r
    induction r with
    | zero =>
      intro j cz kz hj
      obtain rfl : j = 16 := by omega
      exact ev_if mi_r1 (fun _ => ev_ret mi_r2 ⟨rfl, rfl, rfl, rfl⟩) (fun h => absurd (by decide) (of_decide_eq_false h))
    | succ r ih =>
      intro j cz kz hj
      obtain ⟨-, -, t3, t4, -, -, t7⟩ := sg_tab_s (j := j) (by omega)
      refine ev_if mi_r1 (fun h => ?_) (fun _ => ?_)
      · have := Int32.le_iff_toInt_le.mp (of_decide_eq_true h)
        rw [Int32.toInt_ofNat_of_lt (by omega), show (16 : Int32).toInt = 16 from by decide] at this
        omega
      refine ev_seg mi_r3 ?_
      have e : Int32.ofNat (pm ta s j) ||| (((Int32.ofNat s >>> (Int32.ofNat j &&& (31 : Int32))) &&& (1 : Int32)) <<< ((Int32.ofNat j ^^^ (3 : Int32)) &&& (31 : Int32))) = Int32.ofNat (pm ta s (j + 1)) := by
        rw [kbI_and1, kbI_sar0 _ (by omega), kbI_of hs]
        show _ = Int32.ofNat (pm ta s j ||| (bif s.testBit j then 2 ^ ta j else 0))
        rw [← si_or]
        cases s.testBit j
        · show _ ||| ((0 : Int32) <<< _) = _
          rw [t4]
          rfl
        · show _ ||| ((1 : Int32) <<< _) = _
          rw [t3]
          rfl
      rw [e, t7]
      exact ih (j + 1) _ _ (by omega)
  refine ev_seg mi_r0 ?_
  exact loop 16 0 _ _ rfl
end
/-! the reference's turns -/
def itf : Nat → Nat → Nat → Nat × Nat
  | 0, x, y => (x, y)
  | d + 1, x, y => itf d (3 - y) x
def rt (t j : Nat) : Nat := 4 * (itf (t % 4) (if t > 3 then 3 - j % 4 else j % 4) (j / 4)).2 + (itf (t % 4) (if t > 3 then 3 - j % 4 else j % 4) (j / 4)).1
theorem rt_tab : ((List.range 16).all fun j => decide (Int32.ofNat j - Int32.ofNat j / 4 * 4 = Int32.ofNat (j % 4)) && (decide (Int32.ofNat j / 4 = Int32.ofNat (j / 4)) && (decide (Int32.ofNat j + 1 = Int32.ofNat (j + 1)) && ((List.range 8).all fun t => decide (rt t j < 16))))) = true := by decide +kernel
theorem rt_tab_s {j : Nat} (hj : j < 16) : Int32.ofNat j - Int32.ofNat j / 4 * 4 = Int32.ofNat (j % 4) ∧ Int32.ofNat j / 4 = Int32.ofNat (j / 4) ∧ Int32.ofNat j + 1 = Int32.ofNat (j + 1) ∧ ∀ t, t < 8 → rt t j < 16 := by
  have h := List.all_eq_true.mp rt_tab j (List.mem_range.mpr hj)
  simp only [Bool.and_eq_true, decide_eq_true_eq] at h
  obtain ⟨h1, h2, h3, h4⟩ := h
  exact ⟨h1, h2, h3, fun t ht => of_decide_eq_true (List.all_eq_true.mp h4 t (List.mem_range.mpr ht))⟩
theorem rt_lt {t : Nat} (ht : t < 8) (j : Nat) (hj : j < 16) : rt t j < 16 := (rt_tab_s hj).2.2.2 t ht
theorem rt_4 : ((List.range 4).all fun y => decide ((3 : Int32) - Int32.ofNat y = Int32.ofNat (3 - y)) && ((List.range 4).all fun x => decide ((1 : Int32) <<< (((4 * Int32.ofNat y) + Int32.ofNat x) &&& (31 : Int32)) = Int32.ofNat (2 ^ (4 * y + x))))) = true := by decide +kernel
theorem rt_4_s {y : Nat} (hy : y < 4) : (3 : Int32) - Int32.ofNat y = Int32.ofNat (3 - y) ∧ ∀ x, x < 4 → (1 : Int32) <<< (((4 * Int32.ofNat y) + Int32.ofNat x) &&& (31 : Int32)) = Int32.ofNat (2 ^ (4 * y + x)) := by
  have h := List.all_eq_true.mp rt_4 y (List.mem_range.mpr hy)
  obtain ⟨h1, h2⟩ := Bool.and_eq_true_iff.mp h
  exact ⟨of_decide_eq_true h1, fun x hx => of_decide_eq_true (List.all_eq_true.mp h2 x (List.mem_range.mpr hx))⟩
theorem rt_8 : ((List.range 8).all fun t => decide (Int32.ofNat t - Int32.ofNat t / 4 * 4 = Int32.ofNat (t % 4)) && decide (Int32.ofNat t ≤ 3 ↔ t ≤ 3)) = true := by decide +kernel
theorem rt_8_s {t : Nat} (ht : t < 8) : Int32.ofNat t - Int32.ofNat t / 4 * 4 = Int32.ofNat (t % 4) ∧ (Int32.ofNat t ≤ 3 ↔ t ≤ 3) := by
  have h := List.all_eq_true.mp rt_8 t (List.mem_range.mpr ht)
  obtain ⟨h1, h2⟩ := Bool.and_eq_true_iff.mp h
  exact ⟨of_decide_eq_true h1, of_decide_eq_true h2⟩
theorem itf_lt : ∀ d x y, x < 4 → y < 4 → (itf d x y).1 < 4 ∧ (itf d x y).2 < 4 := by
  intro d
  induction d with
  | zero => exact fun x y h1 h2 => ⟨h1, h2⟩
  | succ d ih => exact fun x y h1 h2 => ih (3 - y) x (by omega) h1
section
variable (X : ez_X) (I : Nat → Nat → Int32) (J : Nat → Nat → Int64) (R : Nat → Nat) (T : List ez_C)
theorem ex_tu_q {t : Nat} (ht : t < 8) {b g k : Int32} {Q : ev_Q} {cz kz : Nat} : ∀ (D q x y : Nat), q + D = t % 4 → x < 4 → y < 4 →
    (∀ q' : Int32, ev_W X 230 73 [.int b, .int (Int32.ofNat t), .int g, .int k, .int (Int32.ofNat (itf D x y).1), .int (Int32.ofNat (itf D x y).2), .int q'] [] (ev_hp I J R T) cz kz Q) →
    ev_W X 230 45 [.int b, .int (Int32.ofNat t), .int g, .int k, .int (Int32.ofNat x), .int (Int32.ofNat y), .int (Int32.ofNat q)] [] (ev_hp I J R T) cz kz Q := by
  have e := (rt_8_s ht).1
  intro D
  induction D with
  | zero =>
    intro q x y hq hx hy cont
    refine ev_seg tu_r11 ?_
    refine ev_irem (by rfl) (by decide) ?_
    rw [e]
    refine ev_if tu_r12 (fun _ => cont _) (fun h => ?_)
    exact absurd (Int32.le_iff_toInt_le.mpr (by rw [Int32.toInt_ofNat_of_lt (by omega), Int32.toInt_ofNat_of_lt (by omega)]; omega)) (of_decide_eq_false h)
  | succ D ih =>
    intro q x y hq hx hy cont
    refine ev_seg tu_r11 ?_
    refine ev_irem (by rfl) (by decide) ?_
    rw [e]
    refine ev_if tu_r12 (fun h => ?_) (fun _ => ?_)
    · have := Int32.le_iff_toInt_le.mp (of_decide_eq_true h)
      rw [Int32.toInt_ofNat_of_lt (by omega), Int32.toInt_ofNat_of_lt (by omega)] at this
      omega
    refine ev_seg tu_r13 ?_
    refine ev_cutl (by rfl) ?_
    rw [(rt_4_s hy).1, (rt_tab_s (j := q) (by omega)).2.2.1]
    exact ih (q + 1) (3 - y) x (by omega) (by omega) hx cont
theorem ex_tu {s t : Nat} (hs : s < 65536) (ht : t < 8) : ev_W X 230 0 (ez_lay [.int (Int32.ofNat s), .int (Int32.ofNat t)]) [] (ev_hp I J R T) 0 0 (ev_is (some (.int (Int32.ofNat (pm (rt t) s 16)))) (ev_hp I J R T)) := by
  have loop : ∀ (r j : Nat) (cz kz : Nat), j + r = 16 → ev_W X 230 4 [.int (Int32.ofNat s), .int (Int32.ofNat t), .int (Int32.ofNat (pm (rt t) s j)), .int (Int32.ofNat j)] [] (ev_hp I J R T) cz kz (fun q h' c' k' => q = some (.int (Int32.ofNat (pm (rt t) s 16))) ∧ h' = ev_hp I J R T ∧ c' = cz ∧ k' = kz) := by
    intro r
    induction r with
    | zero =>
      intro j cz kz hj
      obtain rfl : j = 16 := by omega
      exact ev_if tu_r1 (fun _ => ev_ret tu_r15 ⟨rfl, rfl, rfl, rfl⟩) (fun h => absurd (by decide) (of_decide_eq_false h))
    | succ r ih =>
      intro j cz kz hj
      obtain ⟨j1, j2, j3, -⟩ := rt_tab_s (j := j) (by omega)
      refine ev_if tu_r1 (fun h => ?_) (fun _ => ?_)
      · have := Int32.le_iff_toInt_le.mp (of_decide_eq_true h)
        rw [Int32.toInt_ofNat_of_lt (by omega), show (16 : Int32).toInt = 16 from by decide] at this
        omega
      refine ev_call tu_r2 (em_has X _ _ _) ?_
      rintro _ _ _ _ ⟨rfl, rfl, rfl, rfl⟩
      have hb := has_kb (Int32.ofNat s).toInt64 (j := j) (by omega)
      rw [kb_of hs] at hb
      have nx : pm (rt t) s (j + 1) = pm (rt t) s j ||| (bif s.testBit j then 2 ^ rt t j else 0) := rfl
      refine ev_if tu_r3 (fun h => ?_) (fun h => ?_)
      · have h0 := hb.mp (of_decide_eq_true h)
        rw [h0] at nx
        have nx : pm (rt t) s (j + 1) = pm (rt t) s j := by rw [nx]; exact Nat.or_zero _
        refine ev_seg tu_r4 ?_
        rw [j3, ← nx]
        exact ih (j + 1) _ _ (by omega)
      · have h1 : s.testBit j = true := by
          cases hz : s.testBit j with
          | true => rfl
          | false => exact absurd (hb.mpr hz) (of_decide_eq_false h)
        rw [h1] at nx
        have nx : pm (rt t) s (j + 1) = pm (rt t) s j ||| 2 ^ rt t j := nx
        -- behind the coordinates
        have rest : ∀ (x y : Nat) (cz kz : Nat), x < 4 → y < 4 → itf (t % 4) x y = itf (t % 4) (if t > 3 then 3 - j % 4 else j % 4) (j / 4) → ev_W X 230 45 [.int (Int32.ofNat s), .int (Int32.ofNat t), .int (Int32.ofNat (pm (rt t) s j)), .int (Int32.ofNat j), .int (Int32.ofNat x), .int (Int32.ofNat y), .int (Int32.ofNat 0)] [] (ev_hp I J R T) cz kz (fun q h' c' k' => q = some (.int (Int32.ofNat (pm (rt t) s 16))) ∧ h' = ev_hp I J R T ∧ c' = cz ∧ k' = kz) := by
          intro x y cz kz hx hy he
          refine ex_tu_q X I J R T ht (t % 4) 0 x y (by omega) hx hy (fun q' => ?_)
          obtain ⟨l1, l2⟩ := itf_lt (t % 4) x y hx hy
          refine ev_seg tu_r14 ?_
          refine ev_cutl (by rfl) ?_
          refine ev_seg tu_r4 ?_
          rw [(rt_4_s l2).2 _ l1, si_or, j3, he, show 4 * (itf (t % 4) (if t > 3 then 3 - j % 4 else j % 4) (j / 4)).2 + (itf (t % 4) (if t > 3 then 3 - j % 4 else j % 4) (j / 4)).1 = rt t j from rfl, ← nx]
          exact ih (j + 1) _ _ (by omega)
        refine ev_if tu_r5 (fun h => ?_) (fun h => ?_)
        · have h3 := (rt_8_s ht).2.mp (of_decide_eq_true h)
          refine ev_seg tu_r8 ?_
          refine ev_irem (by rfl) (by decide) ?_
          refine ev_seg tu_r9 ?_
          refine ev_idiv (by rfl) (by decide) ?_
          refine ev_seg tu_r10 ?_
          rw [j1, j2]
          exact rest (j % 4) (j / 4) _ _ (by omega) (by omega) (by rw [if_neg (by omega)])
        · have h3 : ¬ t ≤ 3 := fun z => (of_decide_eq_false h) ((rt_8_s ht).2.mpr z)
          refine ev_seg tu_r6 ?_
          refine ev_irem (by rfl) (by decide) ?_
          refine ev_seg tu_r7 ?_
          refine ev_idiv (by rfl) (by decide) ?_
          refine ev_seg tu_r10 ?_
          rw [j1, j2, (rt_4_s (y := j % 4) (by omega)).1]
          exact rest (3 - j % 4) (j / 4) _ _ (by omega) (by omega) (by rw [if_pos (by omega)])
  refine ev_seg tu_r0 ?_
  exact loop 16 0 _ _ rfl
end
/-! turns one behind another -/
theorem rt_next : ((List.range 16).all fun j => decide (rt 0 j = j) && (decide (sg (rt 0 j) = rt 1 j) && (decide (sg (rt 1 j) = rt 2 j) && (decide (sg (rt 2 j) = rt 3 j) && (decide (ta (sg (rt 3 j)) = rt 4 j) && (decide (sg (rt 4 j) = rt 5 j) && (decide (sg (rt 5 j) = rt 6 j) && decide (sg (rt 6 j) = rt 7 j)))))))) = true := by decide +kernel
theorem rt_next_s {j : Nat} (hj : j < 16) : rt 0 j = j ∧ sg (rt 0 j) = rt 1 j ∧ sg (rt 1 j) = rt 2 j ∧ sg (rt 2 j) = rt 3 j ∧ ta (sg (rt 3 j)) = rt 4 j ∧ sg (rt 4 j) = rt 5 j ∧ sg (rt 5 j) = rt 6 j ∧ sg (rt 6 j) = rt 7 j := by
  have h := List.all_eq_true.mp rt_next j (List.mem_range.mpr hj)
  simp only [Bool.and_eq_true, decide_eq_true_eq] at h
  exact h
theorem sg_lt (j : Nat) (hj : j < 16) : sg j < 16 := (sg_tab_s hj).2.2.2.2.1
theorem ta_lt (j : Nat) (hj : j < 16) : ta j < 16 := (sg_tab_s hj).2.2.2.2.2.1
theorem tn_0 {s : Nat} (hs : s < 65536) : pm (rt 0) s 16 = s := (pm_congr s 16 fun j hj => (rt_next_s hj).1).trans (pm_id hs)
theorem tn_q (s : Nat) {t : Nat} (ht : t < 8) (h3 : ¬ t = 3) (h7 : ¬ t = 7) : pm sg (pm (rt t) s 16) 16 = pm (rt (t + 1)) s 16 := by
  rw [pm_comp (rt_lt ht)]
  refine pm_congr s 16 fun j hj => ?_
  obtain ⟨-, a, b, c, -, d, e, f⟩ := rt_next_s hj
  rcases (show t = 0 ∨ t = 1 ∨ t = 2 ∨ t = 4 ∨ t = 5 ∨ t = 6 by omega) with rfl | rfl | rfl | rfl | rfl | rfl
  · exact a
  · exact b
  · exact c
  · exact d
  · exact e
  · exact f
theorem tn_m (s : Nat) : pm ta (pm sg (pm (rt 3) s 16) 16) 16 = pm (rt 4) s 16 := by
  rw [pm_comp (rt_lt (by decide)), pm_comp fun j hj => sg_lt _ (rt_lt (by decide) j hj)]
  exact pm_congr s 16 fun j hj => (rt_next_s hj).2.2.2.2.1
