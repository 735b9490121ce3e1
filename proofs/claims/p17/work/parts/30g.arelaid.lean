/-! The reference's areLaid, whole. -/
def ar_pr (I : Nat → Nat → Int32) : Nat → Int
  | 0 => 1
  | n + 1 => ar_pr I n * (I 38 n).toInt
theorem ar_pr_b {I : Nat → Nat → Int32} (h : cx_hB cx_B0 I) : ∀ n, 0 ≤ ar_pr I n ∧ ar_pr I n ≤ ((300 ^ n : Nat) : Int) := by
  intro n
  induction n with
  | zero => exact ⟨(by decide : (0 : Int) ≤ 1), (by decide : (1 : Int) ≤ ((300 ^ 0 : Nat) : Int))⟩
  | succ n ih =>
    have hb := h 38 n
    rw [show cx_B0 38 n = (0, 300) from rfl] at hb
    simp only at hb
    refine ⟨Int.mul_nonneg ih.1 hb.1, ?_⟩
    have h1 : ar_pr I n * (I 38 n).toInt ≤ ((300 ^ n : Nat) : Int) * 300 := Int.mul_le_mul ih.2 hb.2 hb.1 (Int.natCast_nonneg _)
    rw [Nat.pow_succ, Int.natCast_mul]
    exact h1
theorem ar_pr_eq {I I' : Nat → Nat → Int32} : ∀ n, (∀ q, q < n → I' 38 q = I 38 q) → ar_pr I' n = ar_pr I n := by
  intro n
  induction n with
  | zero => intro _; rfl
  | succ n ih =>
    intro h
    simp only [ar_pr]
    rw [ih fun q hq => h q (by omega), h n (by omega)]
def ar_T (I : Nat → Nat → Int32) (J : Nat → Nat → Int64) (T : List ez_C) (I' : Nat → Nat → Int32) (J' : Nat → Nat → Int64) (R' : Nat → Nat) (T' : List ez_C) (c k : Nat) : Prop := cx_hok cx_B0 I' R' T' ∧ (∀ a q, a ≠ 38 → a ≠ 40 → I' a q = I a q) ∧ (∀ a q, a ≠ 39 → a ≠ 40 → J' a q = J a q) ∧ cx_leT T T' ∧ c + T.length = T'.length ∧ k + cx_mem T = cx_mem T'
theorem ar_p (X : ez_X) (hX2 : X.1 < 2 ^ 31) (I : Nat → Nat → Int32) (J : Nat → Nat → Int64) (T : List ez_C) (Q : ev_Q) (hsh : 0 ≤ (I 35 3).toInt ∧ (I 35 3).toInt ≤ 3)
    (cont : ∀ (al : Int64) (i : Int32) (I' : Nat → Nat → Int32) (J' : Nat → Nat → Int64) (R' : Nat → Nat) (T' : List ez_C) (c k : Nat), ar_T I J T I' J' R' T' c k → al.toInt = ar_pr I' (I 35 3).toInt.toNat → ev_W X 167 33 [.ref 35, .long al, ez_fill, .int i] [] (ev_hp I' J' R' T') c k Q) :
    ∀ (D n : Nat) (i : Int32) (al : Int64) (I' : Nat → Nat → Int32) (J' : Nat → Nat → Int64) (R' : Nat → Nat) (T' : List ez_C) (c k : Nat), i.toInt = n → n + D = (I 35 3).toInt.toNat → ar_T I J T I' J' R' T' c k → al.toInt = ar_pr I' n → ev_W X 167 4 [.ref 35, .long al, ez_fill, .int i] [] (ev_hp I' J' R' T') c k Q := by
  have e1 : (1 : Int32).toInt = 1 := by decide
  intro D
  induction D with
  | zero =>
    intro n i al I' J' R' T' c k hi hD hS hal
    have e3 : I' 35 3 = I 35 3 := hS.2.1 35 3 (by decide) (by decide)
    refine ev_if (eh_ar_r2 X I' J' R' T' al i _ _) (fun _ => cont al i I' J' R' T' c k hS ?_) (fun z => ?_)
    · rw [hal, show n = (I 35 3).toInt.toNat by omega]
    · exact absurd (Int32.le_iff_toInt_le.mpr (by rw [e3]; omega)) (of_decide_eq_false z)
  | succ D ih =>
    intro n i al I' J' R' T' c k hi hD hS hal
    have e3 : I' 35 3 = I 35 3 := hS.2.1 35 3 (by decide) (by decide)
    refine ev_if (eh_ar_r2 X I' J' R' T' al i _ _) (fun z => ?_) (fun _ => ?_)
    · have := Int32.le_iff_toInt_le.mp (of_decide_eq_true z)
      rw [e3] at this
      omega
    refine ev_call (eh_ar_r3 X I' J' R' T' al i _ _) (eh_fs X hX2 i (by omega) I' J' R' T' hS.1) ?_
    rintro r h1 c1 k1 ⟨rfl, I2, J2, R2, T2, rfl, p1, p2, p3, p4, p5, p6⟩
    refine ev_seg (eh_ar_r4 X I2 J2 R2 T2 al i _ _) ?_
    refine ev_iald (by rfl) (cx_getI (show cx_Ds[38]? = some (0, 3, []) from rfl)) (fs_ixs (by omega) (by omega)) ?_
    have ei : i.toNatClampNeg = n := by
      have e2 : i.toNatClampNeg = i.toInt.toNat := rfl
      omega
    rw [ei]
    refine ev_seg (eh_ar_r5 X I2 J2 R2 T2 al i _ _ _) ?_
    have hi1 : (i + 1).toInt = ((n + 1 : Nat) : Int) := by
      rw [Int32.toInt_add, e1, cx_bm32]
      · omega
      · simp only [cx_i32]; omega
    have hpr : ar_pr I2 n = ar_pr I' n := ar_pr_eq n fun q hq => p2 38 q (by decide) (Or.inr (by omega))
    have hb := ar_pr_b p1.1 (n + 1)
    have hn3 : n + 1 ≤ 3 := by omega
    have hpow : ((300 ^ (n + 1) : Nat) : Int) ≤ 27000000 := by
      rcases (show n = 0 ∨ n = 1 ∨ n = 2 by omega) with rfl | rfl | rfl <;> decide
    have hal2 : (al * (I2 38 n).toInt64).toInt = ar_pr I2 (n + 1) := by
      have e4 : al.toInt * (I2 38 n).toInt = ar_pr I2 (n + 1) := by rw [hal, ← hpr]; rfl
      rw [Int64.toInt_mul, Int32.toInt_toInt64, e4, cx_bm64]
      simp only [cx_i64]
      omega
    refine ih (n + 1) (i + 1) _ I2 J2 R2 T2 _ _ hi1 (by omega) ⟨p1, fun a q h38 h40 => ?_, fun a q h39 h40 => ?_, cx_leT_t hS.2.2.2.1 p4, ?_, ?_⟩ hal2
    · rw [p2 a q h40 (Or.inl h38)]; exact hS.2.1 a q h38 h40
    · rw [p3 a q h39 h40]; exact hS.2.2.1 a q h39 h40
    · have := hS.2.2.2.2.1; omega
    · have := hS.2.2.2.2.2; omega
theorem cv_SquaredShipsModel_areLaid : cx_valid cx_B0 167 ck_SquaredShipsModel_areLaid := by
  intro X σ0 ls I J R T hX2 hh hok
  obtain ⟨v1, t1, rfl, rfl, g2⟩ := cx_L_inv hok.1
  obtain rfl := cx_L_nil g2 rfl
  have e0 : (0 : Int32).toInt = 0 := by decide
  have e1 : (1 : Int32).toInt = 1 := by decide
  have e2 : (2 : Int32).toInt = 2 := by decide
  have eL : (10000 : Int64).toInt = 10000 := by decide
  have hsh := hh.1 35 3
  rw [show cx_B0 35 3 = (0, 3) from rfl] at hsh
  simp only at hsh
  -- the end, with its answer
  have fin : ∀ (v : Int32) (I' : Nat → Nat → Int32) (J' : Nat → Nat → Int64) (R' : Nat → Nat) (T' : List ez_C) (c k : Nat), 0 ≤ v.toInt ∧ v.toInt ≤ 1 → cx_hok cx_B0 I' R' T' → (∀ a q, a ≠ 38 → a ≠ 40 → a ≠ 41 → (a ≠ 35 ∨ q ≠ 14) → I' a q = I a q) → (∀ a q, a ≠ 39 → a ≠ 40 → a ≠ 41 → (a ≠ 35 ∨ q ≠ 14) → J' a q = J a q) → cx_leT T T' → c + T.length = T'.length → k + cx_mem T = cx_mem T' →
      cx_post cx_B0 ck_SquaredShipsModel_areLaid σ0 I J T 0 0 (some (.int v)) (ev_hp I' J' R' T') c k := by
    intro v I' J' R' T' c k hv b1 b2 b3 b4 b5 b6
    have hl : σ0.length = 0 := hok.2.2.1.1
    refine ⟨I', J', R', T', rfl, b1, fun a q hq => ?_, b4, by omega, by omega, _, List.mem_cons_self, σ0 ++ [v.toInt], cx_ext_app σ0 _, trivial, ⟨⟨v, rfl, ?_⟩, trivial⟩, ?_, cx_nil, fun e he => (by cases he), fun e he => (by cases he)⟩
    · have hq : cx_may [(35, 14), (38, 999), (39, 999), (40, 999), (41, 999)] a q = false := hq
      have hne : ∀ z, cx_all [(35, 14), (38, 999), (39, 999), (40, 999), (41, 999)] z = true → a ≠ z := fun z hz h => by
        subst h
        rw [cx_all_s hz q] at hq
        cases hq
      have h35 : a ≠ 35 ∨ q ≠ 14 := by
        by_cases ha : a = 35
        · by_cases hq2 : q = 14
          · subst ha hq2; cases hq
          · exact Or.inr hq2
        · exact Or.inl ha
      exact ⟨b2 a q (hne 38 rfl) (hne 40 rfl) (hne 41 rfl) h35, b3 a q (hne 39 rfl) (hne 40 rfl) (hne 41 rfl) h35⟩
    · exact cx_top (iv := []) ⟨hl, fun s v p h => by rw [List.length_eq_zero_iff.mp hl] at h; simp at h⟩ _
    · exact cx_iv_push (iv := []) ⟨hl, fun s v p h => by rw [List.length_eq_zero_iff.mp hl] at h; simp at h⟩ hv
  refine ev_seg (eh_ar_r1 X I J R T _ _) ?_
  refine ar_p X hX2 I J T _ hsh (fun al i I' J' R' T' c k hS hal => ?_) (I 35 3).toInt.toNat 0 0 1 I J R T 0 0 (by decide) (by omega) ⟨hh, fun _ _ _ _ => rfl, fun _ _ _ _ => rfl, cx_leT_r T, by omega, by omega⟩ (show (1 : Int64).toInt = 1 from by decide)
  obtain ⟨s1, s2, s3, s4, s5, s6⟩ := hS
  refine ev_if (eh_ar_r6 X I' J' R' T' al i _ _) (fun z => ?_) (fun z => ?_)
  rotate_left
  · exact ev_ret (eh_ar_r7 X I' J' R' T' al i _ _) (fin 0 I' J' R' T' c k (by decide) s1 (fun a q h1 h2 _ _ => s2 a q h1 h2) (fun a q h1 h2 _ _ => s3 a q h1 h2) s4 s5 s6)
  have hle : ar_pr I' (I 35 3).toInt.toNat ≤ 10000 := by
    have := (fs_cmp _ _).1.mp (of_decide_eq_true z)
    rw [eL, hal] at this
    exact this
  refine ev_seg (eh_ar_r8 X I' J' R' T' al i _ _) ?_
  have hB1 : cx_hB cx_B0 (ev_sI I' 35 (upd (I' 35) 14 0)) := cx_hB_I s1.1 fun q => by
    unfold upd
    split
    · rename_i h; subst h; rw [e0]; exact ⟨by decide, by decide⟩
    · exact s1.1 35 q
  have d38 : ∀ q, (ev_sI I' 35 (upd (I' 35) 14 0)) 38 q = I' 38 q := fun q => by rw [cx_sI_n _ _ (by decide)]
  have d3 : (ev_sI I' 35 (upd (I' 35) 14 0)) 35 3 = I 35 3 := by
    rw [cx_sI_s]
    unfold upd
    rw [if_neg (by decide)]
    exact s2 35 3 (by decide) (by decide)
  have d14 : (ev_sI I' 35 (upd (I' 35) 14 0)) 35 14 = 0 := by
    rw [cx_sI_s]
    unfold upd
    rw [if_pos rfl]
  have dq : ∀ a q, (a ≠ 35 ∨ q ≠ 14) → (ev_sI I' 35 (upd (I' 35) 14 0)) a q = I' a q := fun a q h => by
    by_cases ha : a = 35
    · subst ha
      rw [cx_sI_s]
      unfold upd
      rw [if_neg (by omega)]
    · rw [cx_sI_n _ _ ha]
  generalize ev_sI I' 35 (upd (I' 35) 14 0) = I1 at hB1 d38 d3 d14 dq
  have sp := fun q => s1.1 38 q
  have sp : ∀ q, 0 ≤ (I1 38 q).toInt ∧ (I1 38 q).toInt ≤ 300 := fun q => by
    have h := hB1 38 q
    rw [show cx_B0 38 q = (0, 300) from rfl] at h
    exact h
  -- with the three numbers
  have loops : ∀ (a b c2 : Int32) (cz kz : Nat), cz = c → kz = k → 0 ≤ a.toInt ∧ a.toInt ≤ 300 → 0 ≤ b.toInt ∧ b.toInt ≤ 300 → 0 ≤ c2.toInt ∧ c2.toInt ≤ 300 → a.toInt * (b.toInt * c2.toInt) ≤ 10000 →
      ev_W X 167 109 [.ref 35, .long al, ez_fill, .int a, .int b, .int c2, .int 0] [] (ev_hp I1 J' R' T') cz kz (cx_post cx_B0 ck_SquaredShipsModel_areLaid σ0 I J T 0 0) := by
    intro a b c2 cz kz hcz hkz ha hb hc habc
    refine ar_i hX2 ha hb hc (I0 := I1) (J0 := J') (T0 := T') (c0 := cz) (k0 := kz) (fun I3 J3 R3 T3 c4 k4 hS3 => ?_) (a.toInt - (0 : Int32).toInt).toNat 0 al I1 J' R' T' cz kz (by decide) rfl ⟨⟨hB1, s1.2⟩, cx_fr_r _ _ _, cx_leT_r _, rfl, rfl⟩ ?_
    · obtain ⟨u1, u2, u3, u4, u5⟩ := hS3
      have hm : ∀ p q, p ≠ 41 → (p ≠ 35 ∨ q ≠ 14) → cx_may [(35, 14), (41, 999)] p q = false := fun p q h1 h2 => by
        unfold cx_may
        simp only [List.any_cons, List.any_nil, Bool.or_false]
        rw [cx_beqf (fun z => h1 z.symm)]
        rcases h2 with h2 | h2
        · rw [cx_beqf (fun z => h2 z.symm)]; rfl
        · rw [cx_beqf (q := 14) (a := q) (fun z => h2 z.symm)]
          cases Nat.beq 35 p <;> rfl
      exact fin 1 I3 J3 R3 T3 c4 k4 (by decide) u1 (fun p q h1 h2 h3 h4 => by rw [(u2 p q (hm p q h3 h4)).1, dq p q h4]; exact s2 p q h1 h2) (fun p q h1 h2 h3 h4 => by rw [(u2 p q (hm p q h3 h4)).2]; exact s3 p q h1 h2) (cx_leT_t s4 u3) (by omega) (by omega)
    · rw [d14, e0, Int.sub_zero, Int.toNat_of_nonneg ha.1]
      omega
  have one : 0 ≤ (1 : Int32).toInt ∧ (1 : Int32).toInt ≤ 300 := by decide
  have pr0 : ar_pr I' 0 = 1 := rfl
  have pr1 : ar_pr I' 1 = (I1 38 0).toInt := by rw [d38]; simp [ar_pr]
  have pr2 : ar_pr I' 2 = (I1 38 0).toInt * (I1 38 1).toInt := by rw [d38, d38]; simp [ar_pr]
  have pr3 : ar_pr I' 3 = (I1 38 0).toInt * ((I1 38 1).toInt * (I1 38 2).toInt) := by rw [d38, d38, d38]; simp [ar_pr, Int.mul_assoc]
  rcases (show (I 35 3).toInt = 0 ∨ (I 35 3).toInt = 1 ∨ (I 35 3).toInt = 2 ∨ (I 35 3).toInt = 3 by omega) with hn | hn | hn | hn
  · rw [hn] at hle
    refine ev_if (eh_ar_a1 X I1 J' R' T' al i _ _) (fun _ => ?_) (fun z => absurd (Int32.le_iff_toInt_le.mpr (by rw [d3, e0]; omega)) (of_decide_eq_false z))
    refine ev_seg (eh_ar_a3 X I1 J' R' T' al i _ _) ?_
    refine ev_if (eh_ar_b1 X I1 J' R' T' al 1 _ _) (fun _ => ?_) (fun z => absurd (Int32.le_iff_toInt_le.mpr (by rw [d3, e1]; omega)) (of_decide_eq_false z))
    refine ev_seg (eh_ar_b3 X I1 J' R' T' al 1 _ _) ?_
    refine ev_if (eh_ar_c1 X I1 J' R' T' al 1 1 _ _) (fun _ => ?_) (fun z => absurd (Int32.le_iff_toInt_le.mpr (by rw [d3, e2]; omega)) (of_decide_eq_false z))
    refine ev_seg (eh_ar_c3 X I1 J' R' T' al 1 1 _ _) ?_
    exact loops 1 1 1 _ _ rfl rfl one one one (by decide)
  · rw [hn, show (1 : Int).toNat = 1 from rfl, pr1] at hle
    refine ev_if (eh_ar_a1 X I1 J' R' T' al i _ _) (fun z => absurd (Int32.le_iff_toInt_le.mp (of_decide_eq_true z)) (by rw [d3, e0]; omega)) (fun _ => ?_)
    refine ev_seg (eh_ar_a2 X I1 J' R' T' al i _ _) ?_
    refine ev_if (eh_ar_b1 X I1 J' R' T' al _ _ _) (fun _ => ?_) (fun z => absurd (Int32.le_iff_toInt_le.mpr (by rw [d3, e1]; omega)) (of_decide_eq_false z))
    refine ev_seg (eh_ar_b3 X I1 J' R' T' al _ _ _) ?_
    refine ev_if (eh_ar_c1 X I1 J' R' T' al _ 1 _ _) (fun _ => ?_) (fun z => absurd (Int32.le_iff_toInt_le.mpr (by rw [d3, e2]; omega)) (of_decide_eq_false z))
    refine ev_seg (eh_ar_c3 X I1 J' R' T' al _ 1 _ _) ?_
    exact loops _ 1 1 _ _ rfl rfl (sp 0) one one (by rw [e1]; omega)
  · rw [hn, show (2 : Int).toNat = 2 from rfl, pr2] at hle
    refine ev_if (eh_ar_a1 X I1 J' R' T' al i _ _) (fun z => absurd (Int32.le_iff_toInt_le.mp (of_decide_eq_true z)) (by rw [d3, e0]; omega)) (fun _ => ?_)
    refine ev_seg (eh_ar_a2 X I1 J' R' T' al i _ _) ?_
    refine ev_if (eh_ar_b1 X I1 J' R' T' al _ _ _) (fun z => absurd (Int32.le_iff_toInt_le.mp (of_decide_eq_true z)) (by rw [d3, e1]; omega)) (fun _ => ?_)
    refine ev_seg (eh_ar_b2 X I1 J' R' T' al _ _ _) ?_
    refine ev_if (eh_ar_c1 X I1 J' R' T' al _ _ _ _) (fun _ => ?_) (fun z => absurd (Int32.le_iff_toInt_le.mpr (by rw [d3, e2]; omega)) (of_decide_eq_false z))
    refine ev_seg (eh_ar_c3 X I1 J' R' T' al _ _ _ _) ?_
    exact loops _ _ 1 _ _ rfl rfl (sp 0) (sp 1) one (by rw [e1, Int.mul_one]; exact hle)
  · rw [hn, show (3 : Int).toNat = 3 from rfl, pr3] at hle
    refine ev_if (eh_ar_a1 X I1 J' R' T' al i _ _) (fun z => absurd (Int32.le_iff_toInt_le.mp (of_decide_eq_true z)) (by rw [d3, e0]; omega)) (fun _ => ?_)
    refine ev_seg (eh_ar_a2 X I1 J' R' T' al i _ _) ?_
    refine ev_if (eh_ar_b1 X I1 J' R' T' al _ _ _) (fun z => absurd (Int32.le_iff_toInt_le.mp (of_decide_eq_true z)) (by rw [d3, e1]; omega)) (fun _ => ?_)
    refine ev_seg (eh_ar_b2 X I1 J' R' T' al _ _ _) ?_
    refine ev_if (eh_ar_c1 X I1 J' R' T' al _ _ _ _) (fun z => absurd (Int32.le_iff_toInt_le.mp (of_decide_eq_true z)) (by rw [d3, e2]; omega)) (fun _ => ?_)
    refine ev_seg (eh_ar_c2 X I1 J' R' T' al _ _ _ _) ?_
    exact loops _ _ _ _ _ rfl rfl (sp 0) (sp 1) (sp 2) hle
