/-! The answers of truth and lies, both sides. -/
/-! what of a laying is sure -/
theorem ly_3m {q : Nat → Nat → Nat → Bool} {a b : Nat} : ∀ n t, t ∈ ly_3 q a b n → q a b t.2.2 = true := by
  intro n
  induction n with
  | zero => intro t ht; cases ht
  | succ n ih =>
    intro t ht
    unfold ly_3 at ht
    rcases List.mem_append.mp ht with h | h
    · exact ih t h
    · cases hq : q a b n with
      | false => rw [hq] at h; cases h
      | true =>
        rw [hq] at h
        obtain rfl := List.mem_singleton.mp h
        exact hq
theorem ly_2m {p : Nat → Nat → Bool} {q : Nat → Nat → Nat → Bool} {n2 a : Nat} : ∀ n t, t ∈ ly_2 p q n2 a n → p a t.2.1 = true ∧ q a t.2.1 t.2.2 = true := by
  intro n
  induction n with
  | zero => intro t ht; cases ht
  | succ n ih =>
    intro t ht
    unfold ly_2 at ht
    rcases List.mem_append.mp ht with h | h
    · exact ih t h
    · cases hq : p a n with
      | false => rw [hq] at h; cases h
      | true =>
        rw [hq] at h
        have h1 := ly_3m n2 t h
        obtain ⟨h2, h3, h4⟩ := ly_3b n2 t h
        rw [h3]
        exact ⟨hq, h1⟩
theorem ly_1m {p : Nat → Nat → Bool} {q : Nat → Nat → Nat → Bool} {n1 n2 : Nat} : ∀ n t, t ∈ ly_1 p q n1 n2 n → p t.1 t.2.1 = true ∧ q t.1 t.2.1 t.2.2 = true := by
  intro n
  induction n with
  | zero => intro t ht; cases ht
  | succ n ih =>
    intro t ht
    unfold ly_1 at ht
    rcases List.mem_append.mp ht with h | h
    · exact ih t h
    · obtain ⟨h1, h2⟩ := ly_2m n1 t h
      rw [(ly_2b n1 t h).1]
      exact ⟨h1, h2⟩
theorem ar_sub {W wr C : Int32} {al fc lc z : Int64} {t : Int32} {n : Nat} (h : kb z n = true) : kb (ar W wr C al fc lc t z) n = true := by
  unfold ar
  split
  · exact h
  split
  · unfold aw
    simp only [kb_or, h, Bool.true_or]
  · unfold aw
    simp only [kb_or, h, Bool.true_or]
theorem and0_sub {x y z : Int64} (h : x &&& y = 0) (hs : ∀ n, kb z n = true → kb y n = true) : x &&& z = 0 := kb_ext fun n _ => by
  rw [kb_and, kb_0]
  cases hz : kb z n
  · rw [Bool.and_false]
  · have h1 : kb (x &&& y) n = kb 0 n := by rw [h]
    rw [kb_and, hs n hz, kb_0] at h1
    exact h1
section
variable {I I' : Nat → Nat → Int32} {J J' : Nat → Nat → Int64} {R : Nat → Nat} {T : List ez_C} {t : ly_t} {W HH ns n : Nat}
theorem ly_se (hr : rl I J) (hB : cx_hB cx_B0 I) (ht : t ∈ ls I J) {s : Nat} (hs : s < 3) : ly_s I J t s = se I J s (ly_at t s) := by
  have hns := (b_sh hB).1
  have e3 := io_nat hns.1
  unfold ly_s
  by_cases h : s < (I 3 3).toInt.toNat
  · have h1 := ly_in hr hB ht h
    have h2 := (fi_n hr h).2.1
    rw [if_pos h]
    exact (cl_in e3 h (by omega) (by omega)).symm
  · rw [if_neg h]
    unfold se cl_F
    rw [if_pos (by rw [e3, io_le (by omega) (by omega)]; omega)]
theorem pk_ls (hr : rl I J) (hB : cx_hB cx_B0 I) (ht : t ∈ ls I J) (e0 : I 35 0 = Int32.ofNat W) (e1 : I 35 1 = Int32.ofNat HH) (hW : 2 ≤ W ∧ W ≤ 6) (hH : 2 ≤ HH ∧ HH ≤ 6) : pk (W * HH) (rf_n I) (ly_s I J t) := by
  have e3 : I 3 3 = I 35 3 := (km_0 hr.1).2.2.2
  have en : rf_n I = (I 3 3).toInt.toNat := by unfold rf_n; rw [e3]
  have hns := (b_sh hB).1
  obtain ⟨m1, m2⟩ := ly_1m _ t ht
  have m1 : se I J 1 t.2.1 &&& sb I J 0 t.1 = 0 := of_decide_eq_true m1
  have m2 : se I J 2 t.2.2 &&& (sb I J 0 t.1 ||| sb I J 1 t.2.1) = 0 := of_decide_eq_true m2
  have s0 : ∀ n, kb (se I J 0 t.1) n = true → kb (sb I J 0 t.1) n = true := fun n h => ar_sub h
  have s1 : ∀ n, kb (se I J 1 t.2.1) n = true → kb (sb I J 1 t.2.1) n = true := fun n h => ar_sub h
  have d10 : se I J 1 t.2.1 &&& se I J 0 t.1 = 0 := and0_sub m1 s0
  have d20 : se I J 2 t.2.2 &&& se I J 0 t.1 = 0 := and0_sub m2 fun n h => by rw [kb_or, s0 n h, Bool.true_or]
  have d21 : se I J 2 t.2.2 &&& se I J 1 t.2.1 = 0 := and0_sub m2 fun n h => by rw [kb_or, s1 n h, Bool.or_true]
  have l0 : ly_s I J t 0 = se I J 0 t.1 := ly_se hr hB ht (by decide)
  have l1 : ly_s I J t 1 = se I J 1 t.2.1 := ly_se hr hB ht (by decide)
  have l2 : ly_s I J t 2 = se I J 2 t.2.2 := ly_se hr hB ht (by decide)
  refine ⟨?_, fun s hs => ?_, fun s h1 h2 => ?_⟩
  · intro s s' hs hs' hn
    rcases (show s = 0 ∨ s = 1 ∨ s = 2 by omega) with rfl | rfl | rfl <;> rcases (show s' = 0 ∨ s' = 1 ∨ s' = 2 by omega) with rfl | rfl | rfl
    · exact absurd rfl hn
    · rw [l0, l1, and_c]; exact d10
    · rw [l0, l2, and_c]; exact d20
    · rw [l0, l1]; exact d10
    · exact absurd rfl hn
    · rw [l1, l2, and_c]; exact d21
    · rw [l0, l2]; exact d20
    · rw [l1, l2]; exact d21
    · exact absurd rfl hn
  · unfold ly_s
    by_cases h : s < (I 3 3).toInt.toNat
    · rw [if_pos h]
      obtain ⟨-, -, sh, tn, -, -, -, f5⟩ := fi_n hr h
      have hin : inrow (fun k => J 4 (288 * s + k)) 0 (in_n I s) (J 4 (288 * s + ly_at t s)) := ⟨ly_at t s, ly_in hr hB ht h, by show J 4 (288 * s + (0 + ly_at t s)) = _; rw [Nat.zero_add]⟩
      exact sp_on e0 e1 hW hH ((f5 _).mp hin)
    · rw [if_neg h]
      exact fun i _ => kb_0 i
  · unfold ly_s
    rw [if_neg (by omega)]
theorem c3_of (h : C3 (ck I J)) : ∃ k : Nat, I 8 1 = Int32.ofNat k ∧ k ≤ 30 ∧ I 35 16 = I 8 1 ∧ (∀ c, c < k → c3_r (J 9) (J 8 2) (J 8 3) (I 42) (I 43) (I 44) c) ∧ (∀ i, kb (J 8 3) i = true → i % 2 = 0 ∧ i / 2 < k) ∧ ((I 1 1 ≠ 0 ∨ I 1 2 ≠ 0) → I 1 5 ≠ 0) ∧ (∀ r, (I 1 4 + I 1 3).toInt.toNat ≤ r → r < 12 → I 33 r = -1) := by
  obtain ⟨k, j, c1, hk, c2, c3, c4, hj, h1, h2, h3, h4⟩ := h
  exact ⟨k, c1, hk, c2, h1, h2, h3, h4.1⟩
theorem d1_of {x : Int32} (h : -1 ≤ x.toInt ∧ x.toInt ≤ 1) : d1 x := by
  rcases (show x.toInt = -1 ∨ x.toInt = 0 ∨ x.toInt = 1 by omega) with e | e | e
  · exact Or.inl (Int32.toInt_inj.mp (by rw [e]; decide))
  · exact Or.inr (Or.inl (Int32.toInt_inj.mp (by rw [e]; decide)))
  · exact Or.inr (Or.inr (Int32.toInt_inj.mp (by rw [e]; decide)))
theorem gk_of (h : rl3 I J R T) (hB : cx_hB cx_B0 I) : ∃ W HH k : Nat, gk I J W HH (rf_n I) k ∧ I 8 1 = Int32.ofNat k ∧ I 35 16 = I 8 1 := by
  obtain ⟨⟨hr, hc⟩, h3⟩ := h
  obtain ⟨m6, m7, m8, m9⟩ := hc.1
  obtain ⟨k, c1, hk, c2, h1, -, h2, -⟩ := c3_of h3
  obtain ⟨a0, a1, a2, a3⟩ := km_0 hr.1
  have adx : I 1 1 = I 35 9 := congrArg (fun K : kt_K => K.2.2.2.2.1) hr.1
  have ady : I 1 2 = I 35 10 := congrArg (fun K : kt_K => K.2.2.2.2.2.1) hr.1
  have asr : I 2 1 = I 35 7 := congrArg (fun K : kt_K => K.2.2.2.2.2.2.2.1) hr.1
  have bW := hB 35 0
  have bH := hB 35 1
  have bx := hB 1 1
  have by' := hB 1 2
  have bw := hB 1 5
  rw [show cx_B0 35 0 = (2, 6) from rfl] at bW
  rw [show cx_B0 35 1 = (2, 6) from rfl] at bH
  rw [show cx_B0 1 1 = (-1, 1) from rfl] at bx
  rw [show cx_B0 1 2 = (-1, 1) from rfl] at by'
  rw [show cx_B0 1 5 = (0, 1) from rfl] at bw
  simp only at bW bH bx by' bw
  have dx := d1_of bx
  have dy := d1_of by'
  rw [adx] at dx
  rw [ady] at dy
  have hwr : drF I = true → I 1 5 = 1 := by
    intro hd
    have hne : I 1 5 ≠ 0 := h2 (by
      rcases Bool.or_eq_true_iff.mp hd with z | z
      · exact Or.inl (of_decide_eq_true z)
      · exact Or.inr (of_decide_eq_true z))
    rcases (show (I 1 5).toInt = 0 ∨ (I 1 5).toInt = 1 by omega) with e | e
    · exact absurd (Int32.toInt_inj.mp (by rw [e]; decide)) hne
    · exact Int32.toInt_inj.mp (by rw [e]; decide)
  refine ⟨(I 35 0).toInt.toNat, (I 35 1).toInt.toNat, k, ⟨io_nat (by omega), io_nat (by omega), by omega, by omega, (rf_ns hB).1, (rf_ns hB).2, asr, dx, dy, hk, fun hd z => ?_, ?_, fun c hc => ?_⟩, c1, c2⟩
  · unfold mvF mvP
    rw [hwr hd, m7, m8, m9, m6, a0, a1, adx, ady]
  · unfold drF
    rw [adx, ady]
  · obtain ⟨g1, g2, g3, -, -⟩ := h1 c hc
    exact ⟨g1, g2, g3⟩
/-- no answer is more than two -/
theorem xt_le (hg : gk I J W HH ns n) (hpk : pk (W * HH) ns (ly_s I J t)) {c : Nat} (hc : c < n) : xt I J t c ≤ 2 := by
  have hD := (pk_q (sr := I 2 1) (tg := J 9) (gk_mv hg) hpk c).1
  obtain ⟨-, -, -, -, -, -, -, -, -, -, -, -, hcall⟩ := hg
  obtain ⟨t1, t2, t3⟩ := hcall c hc
  obtain ⟨i, ei, hi, ebi⟩ := cel_bt t2
  show pl_a (I 2 1) (xq I J t c).1 (xq I J t c).2 (J 9 c) ≤ 2
  rw [t1]
  unfold tgt
  split
  · rw [ebi]
    exact (pl_ht1 hi hD).2.2
  · rename_i g
    obtain ⟨u2, u3⟩ := t3.resolve_left g
    obtain ⟨j, ej, hj, ebj⟩ := cel_bt u2
    have hij : i ≠ j := by
      rintro rfl
      exact u3 (ej.trans ei.symm)
    rw [ebi, ebj, (pl_two (sr := I 2 1) (P := (xq I J t c).1) (H := (xq I J t c).2) hi hj hij).1]
    have h1 := (pl_ht1 (sr := I 2 1) (H := (xq I J t c).2) hi hD).1
    have h2 := (pl_ht1 (sr := I 2 1) (H := (xq I J t c).2) hj hD).1
    exact Nat.add_le_add h1 h2
end
theorem n012 {m : Nat} (h : m ≤ 2) : Int32.ofNat m = 0 ∨ Int32.ofNat m = 1 ∨ Int32.ofNat m = 2 := by
  rcases (show m = 0 ∨ m = 1 ∨ m = 2 by omega) with rfl | rfl | rfl
  · exact Or.inl rfl
  · exact Or.inr (Or.inl rfl)
  · exact Or.inr (Or.inr rfl)
theorem td_vv {v : Int32} (h : v = 0 ∨ v = 1 ∨ v = 2) : td_v (kb v.toInt64 0) (kb v.toInt64 1) = v := by
  rcases h with rfl | rfl | rfl <;> decide
section
variable {sr : Int32} {dr : Bool} {mv : Int64 → Int64} {tg P0 : Nat → Int64}
theorem pl_z_kb : ∀ n, n ≤ 30 → (∀ c, c < n → pl_t sr dr mv tg P0 c ≤ 2) → (∀ i, 2 * n ≤ i → kb (pl_z sr dr mv tg P0 n) i = false) ∧ ∀ c b, c < n → b < 2 → kb (pl_z sr dr mv tg P0 n) (2 * c + b) = kb (Int32.ofNat (pl_t sr dr mv tg P0 c)).toInt64 b := by
  intro n
  induction n with
  | zero => exact fun _ _ => ⟨fun i _ => kb_0 i, fun c b hc _ => absurd hc (by omega)⟩
  | succ n ih =>
    intro hn h
    obtain ⟨h1, h2⟩ := ih (by omega) fun c hc => h c (by omega)
    have hv := n012 (h n (Nat.lt_succ_self n))
    have e : pl_z sr dr mv tg P0 (n + 1) = pl_z sr dr mv tg P0 n ||| ((Int32.ofNat (pl_t sr dr mv tg P0 n)).toInt64 <<< td_s n) := rfl
    refine ⟨fun i hi => ?_, fun c b hc hb => ?_⟩
    · rw [e, kb_or, h1 i (by omega), kb_shl _ (by omega), kb_v hv (by omega), Bool.and_false, Bool.or_false]
    · rw [e, kb_or, kb_shl _ (by omega)]
      by_cases hcn : c = n
      · subst hcn
        rw [h1 (2 * c + b) (by omega), decide_eq_true (show 2 * c + b < 64 by omega), decide_eq_false (show ¬ 2 * c + b < 2 * c by omega), show 2 * c + b - 2 * c = b by omega]
        rfl
      · rw [h2 c b (by omega) hb, decide_eq_true (show 2 * c + b < 2 * n by omega), Bool.not_true, Bool.and_false, Bool.false_and, Bool.or_false]
theorem pl_z_at {n c : Nat} (hn : n ≤ 30) (h : ∀ c, c < n → pl_t sr dr mv tg P0 c ≤ 2) (hc : c < n) : (((pl_z sr dr mv tg P0 n).toUInt64 >>> td_u c).toInt64 &&& (3 : Int64)).toInt32 = Int32.ofNat (pl_t sr dr mv tg P0 c) := by
  rw [td_two _ (by omega)]
  have h2 := (pl_z_kb n hn h).2 c
  have e0 := h2 0 hc (by omega)
  have e1 := h2 1 hc (by omega)
  rw [Nat.add_zero] at e0
  rw [e0, e1]
  exact td_vv (n012 (h c hc))
end
/-! the cells on which the class's layings and calls rest -/
abbrev bk_K : Type := Int32 × Int32 × (Nat → Int32) × (Nat → Int64) × (Nat → Int32) × (Nat → Int64) × Int32 × Int32 × Int32 × Int32 × Int32 × Int32 × Int64 × Int64 × Int64 × Int64 × Int64 × (Nat → Int32)
def bk (I : Nat → Nat → Int32) (J : Nat → Nat → Int64) : bk_K := (I 8 1, I 3 3, I 5, J 4, I 2, J 9, I 1 1, I 1 2, I 1 3, I 1 4, I 1 5, I 1 6, J 1 7, J 1 8, J 1 9, J 8 2, J 8 3, I 33)
def bk_l : List (Nat × Nat) := [(8, 1), (3, 3), (1, 1), (1, 2), (1, 3), (1, 4), (1, 5), (1, 6), (1, 7), (1, 8), (1, 9), (8, 2), (8, 3)]
def bk_fx (md : List (Nat × Nat)) : Bool := (bk_l.all fun e => !cx_may md e.1 e.2) && ([5, 4, 2, 9, 33].all fun a => fr_no md a)
section
variable {I I' : Nat → Nat → Int32} {J J' : Nat → Nat → Int64} {R R' : Nat → Nat} {T T' : List ez_C}
theorem bk_hp (e : ev_hp I J R T = ev_hp I' J' R' T') : bk I J = bk I' J' := by
  have f1 : ∀ k, (k = 1 ∨ k = 2 ∨ k = 3 ∨ k = 4 ∨ k = 5 ∨ k = 6) → I 1 k = I' 1 k := by
    intro k hk
    rcases hk with rfl | rfl | rfl | rfl | rfl | rfl <;> exact hp_fld (n := 0) (show cx_Ds[1]? = some (0 + 2, _, _) from rfl) rfl e
  have g1 : ∀ k, (k = 7 ∨ k = 8 ∨ k = 9) → J 1 k = J' 1 k := by
    intro k hk
    rcases hk with rfl | rfl | rfl <;> exact hp_fldJ (n := 0) (show cx_Ds[1]? = some (0 + 2, _, _) from rfl) rfl e
  have f8 : I 8 1 = I' 8 1 := hp_fld (n := 0) (show cx_Ds[8]? = some (0 + 2, _, _) from rfl) rfl e
  have g2 : J 8 2 = J' 8 2 := hp_fldJ (n := 0) (show cx_Ds[8]? = some (0 + 2, _, _) from rfl) rfl e
  have g3 : J 8 3 = J' 8 3 := hp_fldJ (n := 0) (show cx_Ds[8]? = some (0 + 2, _, _) from rfl) rfl e
  have f3 : I 3 3 = I' 3 3 := hp_fld (n := 0) (show cx_Ds[3]? = some (0 + 2, _, _) from rfl) rfl e
  have f5 : I 5 = I' 5 := hp_row (show cx_Ds[5]? = some (0, _, _) from rfl) e
  have f2 : I 2 = I' 2 := hp_row (show cx_Ds[2]? = some (0, _, _) from rfl) e
  have f33 : I 33 = I' 33 := hp_row (show cx_Ds[33]? = some (0, _, _) from rfl) e
  have f4 : J 4 = J' 4 := hp_rowJ (show cx_Ds[4]? = some (1, _, _) from rfl) e
  have f9 : J 9 = J' 9 := hp_rowJ (show cx_Ds[9]? = some (1, _, _) from rfl) e
  unfold bk
  rw [f1 1 (by decide), f1 2 (by decide), f1 3 (by decide), f1 4 (by decide), f1 5 (by decide), f1 6 (by decide), g1 7 (by decide), g1 8 (by decide), g1 9 (by decide), f8, g2, g3, f3, f5, f2, f33, f4, f9]
theorem bk_fr {md : List (Nat × Nat)} (h : bk_fx md = true) (hf : cx_fr md I J I' J') : bk I' J' = bk I J := by
  obtain ⟨h1, h2⟩ := Bool.and_eq_true_iff.mp h
  have f : ∀ a k, (a, k) ∈ bk_l → I' a k = I a k ∧ J' a k = J a k := fun a k hm => hf a k (by
    have := List.all_eq_true.mp h1 (a, k) hm
    simpa using this)
  have g : ∀ a, a ∈ [5, 4, 2, 9, 33] → fr_no md a = true := fun a hm => List.all_eq_true.mp h2 a hm
  unfold bk
  rw [(f 8 1 (by decide)).1, (f 8 2 (by decide)).2, (f 8 3 (by decide)).2, (f 3 3 (by decide)).1, (f 1 1 (by decide)).1, (f 1 2 (by decide)).1, (f 1 3 (by decide)).1, (f 1 4 (by decide)).1, (f 1 5 (by decide)).1, (f 1 6 (by decide)).1, (f 1 7 (by decide)).2, (f 1 8 (by decide)).2, (f 1 9 (by decide)).2,
    fr_I (g 5 (by decide)) hf, fr_I (g 2 (by decide)) hf, fr_I (g 33 (by decide)) hf, fr_J (g 4 (by decide)) hf, fr_J (g 9 (by decide)) hf]
theorem bk_at (e : bk I' J' = bk I J) : I' 8 1 = I 8 1 ∧ I' 3 3 = I 3 3 ∧ I' 5 = I 5 ∧ J' 4 = J 4 ∧ I' 2 = I 2 ∧ J' 9 = J 9 ∧ I' 1 1 = I 1 1 ∧ I' 1 2 = I 1 2 ∧ I' 1 3 = I 1 3 ∧ I' 1 4 = I 1 4 ∧ I' 1 5 = I 1 5 ∧ I' 1 6 = I 1 6 ∧ J' 1 7 = J 1 7 ∧ J' 1 8 = J 1 8 ∧ J' 1 9 = J 1 9 ∧ J' 8 2 = J 8 2 ∧ J' 8 3 = J 8 3 ∧ I' 33 = I 33 := by
  unfold bk at e
  simpa only [Prod.mk.injEq] using e
theorem bk_ls (e : bk I' J' = bk I J) : ls I' J' = ls I J ∧ ∀ s, sn I' s = sn I s := by
  obtain ⟨-, e33, e5, e4, e2, -, -, -, e13, e14, e15, e16, e17, e18, e19, -⟩ := bk_at e
  exact ⟨ls_eq e33 e5 e4 e13 e15 e16 e17 e18 e19 (by rw [e2]), fun s => sn_eq e33 e5 s⟩
theorem bk_xq (e : bk I' J' = bk I J) (t : ly_t) : ly_s I' J' t = ly_s I J t ∧ xq I' J' t = xq I J t ∧ xt I' J' t = xt I J t ∧ xz I' J' t = xz I J t := by
  obtain ⟨-, e33, -, e4, e2, e9, e11, e12, e13, e14, e15, e16, e17, e18, e19, -⟩ := bk_at e
  have hs : ly_s I' J' t = ly_s I J t := funext fun s => by
    unfold ly_s
    rw [e33, e4]
  have hd : drF I' = drF I := by
    unfold drF
    rw [e11, e12]
  have hm : mvF I' J' = mvF I J := funext fun z => by
    unfold mvF
    rw [e11, e12, e13, e15, e16, e17, e18, e19]
  refine ⟨hs, ?_, ?_, ?_⟩
  · unfold xq
    rw [hs, hd, hm, e2, e9]
  · unfold xt
    rw [hs, hd, hm, e2, e9]
  · unfold xz
    rw [hs, hd, hm, e2, e9]
theorem bk_ly (e : bk I' J' = bk I J) (t : ly_t) : ly_w I' J' t = ly_w I J t := by
  unfold ly_w
  rw [(bk_xq e t).1]
/-- the reference's own cells don't matter -/
theorem gk_c {W HH ns n : Nat} (hI : ∀ a, a ≠ 35 → a ≠ 38 → a ≠ 41 → I' a = I a) (h35 : ∀ k, k ≠ 14 → I' 35 k = I 35 k) (hJ : ∀ a, a ≠ 39 → a ≠ 40 → J' a = J a) (hg : gk I J W HH ns n) : gk I' J' W HH ns n ∧ bk I' J' = bk I J := by
  have e : bk I' J' = bk I J := by
    unfold bk
    rw [hI 8 (by decide) (by decide) (by decide), hI 3 (by decide) (by decide) (by decide), hI 5 (by decide) (by decide) (by decide), hI 2 (by decide) (by decide) (by decide), hI 1 (by decide) (by decide) (by decide), hI 33 (by decide) (by decide) (by decide), hJ 4 (by decide) (by decide), hJ 9 (by decide) (by decide), hJ 1 (by decide) (by decide), hJ 8 (by decide) (by decide)]
  refine ⟨?_, e⟩
  have hm : mvF I' J' = mvF I J := funext fun z => by
    unfold mvF
    rw [hI 1 (by decide) (by decide) (by decide), hJ 1 (by decide) (by decide)]
  have hd : drF I' = drF I := by
    unfold drF
    rw [hI 1 (by decide) (by decide) (by decide)]
  unfold gk
  rw [h35 0 (by decide), h35 1 (by decide), h35 3 (by decide), h35 7 (by decide), h35 9 (by decide), h35 10 (by decide), hI 2 (by decide) (by decide) (by decide), hI 42 (by decide) (by decide) (by decide), hI 43 (by decide) (by decide) (by decide), hJ 9 (by decide) (by decide), hm, hd]
  exact hg
end
/-! an answer that is compared: by the class, by the reference -/
section
variable {X : ez_X} {m : Nat} {K : cx_K} {as : List Value} {σ0 : List Int} {I : Nat → Nat → Int32} {J : Nat → Nat → Int64} {R : Nat → Nat} {T : List ez_C}
theorem lxc_of {M : Int32 → (Nat → Nat → Int32) → (Nat → Nat → Int64) → (Nat → Nat) → List ez_C → Prop} {v0 : Int32} (hl : ev_W X m 0 (ez_lay as) [] (ev_hp I J R T) 0 0 (lw_mid T M)) (hp : ∀ N, pe N X m as (ev_hp I J R T) (fun r _ => r = some (.int v0))) (hb : bk_fx K.2.1 = true) (hv : cx_valid cx_B0 m K) (hX2 : X.1 < 2 ^ 31) (hh : cx_hok cx_B0 I R T) (hok : cx_ok σ0 K.1 (ez_lay as) [] I T) : ev_W X m 0 (ez_lay as) [] (ev_hp I J R T) 0 0 (lw_mid T (fun v I1 J1 R1 T1 => v = v0 ∧ bk I1 J1 = bk I J ∧ M v I1 J1 R1 T1)) := by
  refine (W_pe (hl.both (hv X σ0 _ I J R T hX2 hh hok)) hp).mono ?_
  rintro r h c k ⟨⟨⟨v, I1, J1, R1, T1, e1, e2, e3, e4, e5, e6⟩, A, B, R2, T2, q1, -, q3, -⟩, w⟩
  refine ⟨v, I1, J1, R1, T1, e1, e2, e3, e4, e5, ?_, ?_, e6⟩
  · rw [e1] at w
    injection w with w
    injection w with w
  · rw [bk_hp (e2.symm.trans q1)]
    exact bk_fr hb q3
theorem lxc_ofL {M : Int64 → (Nat → Nat → Int32) → (Nat → Nat → Int64) → (Nat → Nat) → List ez_C → Prop} {v0 : Int64} (hl : ev_W X m 0 (ez_lay as) [] (ev_hp I J R T) 0 0 (lw_midL T M)) (hp : ∀ N, pe N X m as (ev_hp I J R T) (fun r _ => r = some (.long v0))) (hb : bk_fx K.2.1 = true) (hv : cx_valid cx_B0 m K) (hX2 : X.1 < 2 ^ 31) (hh : cx_hok cx_B0 I R T) (hok : cx_ok σ0 K.1 (ez_lay as) [] I T) : ev_W X m 0 (ez_lay as) [] (ev_hp I J R T) 0 0 (lw_midL T (fun v I1 J1 R1 T1 => v = v0 ∧ bk I1 J1 = bk I J ∧ M v I1 J1 R1 T1)) := by
  refine (W_pe (hl.both (hv X σ0 _ I J R T hX2 hh hok)) hp).mono ?_
  rintro r h c k ⟨⟨⟨v, I1, J1, R1, T1, e1, e2, e3, e4, e5, e6⟩, A, B, R2, T2, q1, -, q3, -⟩, w⟩
  refine ⟨v, I1, J1, R1, T1, e1, e2, e3, e4, e5, ?_, ?_, e6⟩
  · rw [e1] at w
    injection w with w
    injection w with w
  · rw [bk_hp (e2.symm.trans q1)]
    exact bk_fr hb q3
theorem lmc_of {M : Int32 → (Nat → Nat → Int32) → (Nat → Nat → Int64) → (Nat → Nat) → List ez_C → Prop} {v0 : Int32} (hl : ev_W X m 0 (ez_lay as) [] (ev_hp I J R T) 0 0 (lw_mid T M)) (hp : ∀ N, pe N X m as (ev_hp I J R T) (fun r _ => r = some (.int v0))) : ev_W X m 0 (ez_lay as) [] (ev_hp I J R T) 0 0 (lw_mid T (fun u I1 J1 R1 T1 => u = v0 ∧ M u I1 J1 R1 T1)) := by
  refine (W_pe hl hp).mono ?_
  rintro r h c k ⟨⟨v, I1, J1, R1, T1, e1, e2, e3, e4, e5, e6⟩, w⟩
  refine ⟨v, I1, J1, R1, T1, e1, e2, e3, e4, e5, ?_, e6⟩
  rw [e1] at w
  injection w with w
  injection w with w
theorem lmc_ofL {M : Int64 → (Nat → Nat → Int32) → (Nat → Nat → Int64) → (Nat → Nat) → List ez_C → Prop} {v0 : Int64} (hl : ev_W X m 0 (ez_lay as) [] (ev_hp I J R T) 0 0 (lw_midL T M)) (hp : ∀ N, pe N X m as (ev_hp I J R T) (fun r _ => r = some (.long v0))) : ev_W X m 0 (ez_lay as) [] (ev_hp I J R T) 0 0 (lw_midL T (fun u I1 J1 R1 T1 => u = v0 ∧ M u I1 J1 R1 T1)) := by
  refine (W_pe hl hp).mono ?_
  rintro r h c k ⟨⟨v, I1, J1, R1, T1, e1, e2, e3, e4, e5, e6⟩, w⟩
  refine ⟨v, I1, J1, R1, T1, e1, e2, e3, e4, e5, ?_, e6⟩
  rw [e1] at w
  injection w with w
  injection w with w
end
section
variable {N : Nat} {X : ez_X} {I : Nat → Nat → Int32} {J : Nat → Nat → Int64} {R : Nat → Nat} {T : List ez_C} {Q : pw_Q} {cz kz : Nat}
set_option maxRecDepth 100000 in
theorem tt_r0 {a0 : Int32} {a1 : Int32} {a2 : Int32} : ∀ G : ez_F, fx_up X 1 G 53 15 [.ref 0, .int a0, .int a1] [.int a2] (ev_hp I J R T) cz kz = bif decide (a2 = (0 : Int32)) then G 53 21 [.ref 0, .int a0, .int a1] [] (ev_hp I J R T) cz kz else G 53 18 [.ref 0, .int a0, .int a1] [] (ev_hp I J R T) cz kz := by
  intro G
  rfl
set_option maxRecDepth 100000 in
theorem tt_r1 {a0 : Int32} {a1 : Int32} : ∀ G : ez_F, fx_up X 3 G 53 21 [.ref 0, .int a0, .int a1] [] (ev_hp I J R T) cz kz = ev_C G 23 [.ref 0, .int a0] (ev_hp I J R T) fun r h1 c1 k1 => G 53 26 [.ref 0, .int a0, .int a1] (r.toList ++ []) h1 (cz + c1) (kz + k1) := by
  intro G
  rfl
set_option maxRecDepth 100000 in
theorem tt_r2 {a0 : Int32} {a1 : Int32} {a2 : Int32} : ∀ G : ez_F, fx_up X 1 G 53 26 [.ref 0, .int a0, .int a1] [.int a2] (ev_hp I J R T) cz kz = bif decide (¬ a2 = (0 : Int32)) then G 53 32 [.ref 0, .int a0, .int a1] [] (ev_hp I J R T) cz kz else G 53 29 [.ref 0, .int a0, .int a1] [] (ev_hp I J R T) cz kz := by
  intro G
  rfl
set_option maxRecDepth 100000 in
theorem tt_r3 {a0 : Int32} {a1 : Int32} : ∀ G : ez_F, fx_up X 7 G 53 32 [.ref 0, .int a0, .int a1] [] (ev_hp I J R T) cz kz = ev_C G 135 [.ref 10, .int a0, .int (a1 + (1 : Int32))] (ev_hp I J R T) fun r h1 c1 k1 => G 53 43 [.ref 0, .int a0, .int a1] (r.toList ++ []) h1 (cz + c1) (kz + k1) := by
  intro G
  rfl
set_option maxRecDepth 100000 in
theorem tt_r4 {a0 : Int32} {a1 : Int32} : ∀ G : ez_F, fx_up X 2 G 53 29 [.ref 0, .int a0, .int a1] [] (ev_hp I J R T) cz kz = some (some (.int (-2 : Int32)), (ev_hp I J R T), cz, kz) := by
  intro G
  rfl
set_option maxRecDepth 100000 in
theorem tt_r5 {a0 : Int32} {a1 : Int32} : ∀ G : ez_F, fx_up X 2 G 53 18 [.ref 0, .int a0, .int a1] [] (ev_hp I J R T) cz kz = some (some (.int (-6 : Int32)), (ev_hp I J R T), cz, kz) := by
  intro G
  rfl
theorem tr_15 {v x y : Int32}
    (H : ((v = (0 : Int32) → ((¬ (ev_wi x (0 : Int32) ((I 6 3) - (1 : Int32))) = (0 : Int32) → (∃ Q1 : pw_Q, pe N X 135 [.ref 10, .int x, .int (y + (1 : Int32))] (ev_hp I J R T) Q1 ∧ ∀ (r : Option Value) (h1 : ez_H), Q1 r h1 → pw N X 53 43 [.ref 0, .int x, .int y] (r.toList ++ []) h1 Q)) ∧ (¬ (¬ (ev_wi x (0 : Int32) ((I 6 3) - (1 : Int32))) = (0 : Int32)) → Q (some (.int (-2 : Int32))) (ev_hp I J R T)))) ∧ (¬ (v = (0 : Int32)) → Q (some (.int (-6 : Int32))) (ev_hp I J R T)))) : pw (N + 1) X 53 15 [.ref 0, .int x, .int y] [.int v] (ev_hp I J R T) Q := by
  refine pw_if (by decide) (fun _ _ => tt_r0) (fun w1 => ?_) (fun w1 => ?_)
  · have h1 := H.1 w1
    refine pw_p (pw_callp (by decide) (fun _ _ => tt_r1) (pe_is (eg_isLaying _ _ _ _ _ _)) ?_)
    refine pw_p (pw_if (by decide) (fun _ _ => tt_r2) (fun w2 => ?_) (fun w2 => ?_))
    · have h2 := h1.1 w2
      obtain ⟨Q1, hc, hk⟩ := h2
      exact pw_p (pw_call (by decide) (fun _ _ => tt_r3) hc hk)
    · have h2 := h1.2 w2
      exact pw_p (pw_ret (by decide) (fun _ _ => tt_r4) h2)
  · have h1 := H.2 w1
    exact pw_p (pw_ret (by decide) (fun _ _ => tt_r5) h1)
set_option maxRecDepth 100000 in
theorem tt_r6 {a0 : Int32} {a1 : Int32} {a2 : Int64} : ∀ G : ez_F, fx_up X 8 G 53 43 [.ref 0, .int a0, .int a1] [.long a2] (ev_hp I J R T) cz kz = some (some (.int ((a2.toUInt64 >>> (((2 : Int32) * a1).toInt64.toUInt64 &&& Int64.toUInt64 63)).toInt64 &&& (3 : Int64)).toInt32), (ev_hp I J R T), cz, kz) := by
  intro G
  rfl
theorem tr_43 {x y : Int32} {u : Int64}
    (H : Q (some (.int ((u.toUInt64 >>> (((2 : Int32) * y).toInt64.toUInt64 &&& Int64.toUInt64 63)).toInt64 &&& (3 : Int64)).toInt32)) (ev_hp I J R T)) : pw (N + 1) X 53 43 [.ref 0, .int x, .int y] [.long u] (ev_hp I J R T) Q := by
  exact pw_ret (by decide) (fun _ _ => tt_r6) H
set_option maxRecDepth 100000 in
theorem tt_r7 {a0 : Int32} {a1 : Int32} : ∀ G : ez_F, fx_up X 3 G 229 0 [.ref 35, .int a0, .int a1] [] (ev_hp I J R T) cz kz = ev_C G 199 [.ref 35, .int a1] (ev_hp I J R T) fun r h1 c1 k1 => G 229 5 [.ref 35, .int a0, .int a1] (r.toList ++ []) h1 (cz + c1) (kz + k1) := by
  intro G
  rfl
set_option maxRecDepth 100000 in
theorem tt_r8 {a0 : Int32} {a1 : Int32} {a2 : Int32} : ∀ G : ez_F, fx_up X 1 G 229 5 [.ref 35, .int a0, .int a1] [.int a2] (ev_hp I J R T) cz kz = bif decide (¬ a2 = (0 : Int32)) then G 229 11 [.ref 35, .int a0, .int a1] [] (ev_hp I J R T) cz kz else G 229 8 [.ref 35, .int a0, .int a1] [] (ev_hp I J R T) cz kz := by
  intro G
  rfl
set_option maxRecDepth 100000 in
theorem tt_r9 {a0 : Int32} {a1 : Int32} : ∀ G : ez_F, fx_up X 2 G 229 11 [.ref 35, .int a0, .int a1] [] (ev_hp I J R T) cz kz = ev_C G 167 [.ref 35] (ev_hp I J R T) fun r h1 c1 k1 => G 229 15 [.ref 35, .int a0, .int a1] (r.toList ++ []) h1 (cz + c1) (kz + k1) := by
  intro G
  rfl
set_option maxRecDepth 100000 in
theorem tt_r10 {a0 : Int32} {a1 : Int32} : ∀ G : ez_F, fx_up X 2 G 229 8 [.ref 35, .int a0, .int a1] [] (ev_hp I J R T) cz kz = some (some (.int (-2 : Int32)), (ev_hp I J R T), cz, kz) := by
  intro G
  rfl
theorem tu_0 {x y : Int32}
    (H : ((¬ (ev_il (y.toInt64) 0 ((((I 35 16)) - (1 : Int32)).toInt64)) = (0 : Int32) → (∃ Q1 : pw_Q, pe N X 167 [.ref 35] (ev_hp I J R T) Q1 ∧ ∀ (r : Option Value) (h1 : ez_H), Q1 r h1 → pw N X 229 15 [.ref 35, .int x, .int y] (r.toList ++ []) h1 Q)) ∧ (¬ (¬ (ev_il (y.toInt64) 0 ((((I 35 16)) - (1 : Int32)).toInt64)) = (0 : Int32)) → Q (some (.int (-2 : Int32))) (ev_hp I J R T)))) : pw (N + 1) X 229 0 [.ref 35, .int x, .int y] [] (ev_hp I J R T) Q := by
  refine pw_callp (by decide) (fun _ _ => tt_r7) (pe_is (em_isCall _ _ _ _ _ _)) ?_
  refine pw_p (pw_if (by decide) (fun _ _ => tt_r8) (fun w1 => ?_) (fun w1 => ?_))
  · have h1 := H.1 w1
    obtain ⟨Q1, hc, hk⟩ := h1
    exact pw_p (pw_call (by decide) (fun _ _ => tt_r9) hc hk)
  · have h1 := H.2 w1
    exact pw_p (pw_ret (by decide) (fun _ _ => tt_r10) h1)
set_option maxRecDepth 100000 in
theorem tt_r11 {a0 : Int32} {a1 : Int32} {a2 : Int32} : ∀ G : ez_F, fx_up X 1 G 229 15 [.ref 35, .int a0, .int a1] [.int a2] (ev_hp I J R T) cz kz = bif decide (¬ a2 = (0 : Int32)) then G 229 21 [.ref 35, .int a0, .int a1] [] (ev_hp I J R T) cz kz else G 229 18 [.ref 35, .int a0, .int a1] [] (ev_hp I J R T) cz kz := by
  intro G
  rfl
set_option maxRecDepth 100000 in
theorem tt_r12 {a0 : Int32} {a1 : Int32} : ∀ G : ez_F, fx_up X 3 G 229 21 [.ref 35, .int a0, .int a1] [] (ev_hp I J R T) cz kz = ev_C G 202 [.ref 35, .int a0] (ev_hp I J R T) fun r h1 c1 k1 => G 229 26 [.ref 35, .int a0, .int a1] (r.toList ++ []) h1 (cz + c1) (kz + k1) := by
  intro G
  rfl
set_option maxRecDepth 100000 in
theorem tt_r13 {a0 : Int32} {a1 : Int32} {a2 : Int32} : ∀ G : ez_F, fx_up X 1 G 229 26 [.ref 35, .int a0, .int a1] [.int a2] (ev_hp I J R T) cz kz = bif decide (¬ a2 = (0 : Int32)) then G 229 32 [.ref 35, .int a0, .int a1] [] (ev_hp I J R T) cz kz else G 229 29 [.ref 35, .int a0, .int a1] [] (ev_hp I J R T) cz kz := by
  intro G
  rfl
set_option maxRecDepth 100000 in
theorem tt_r14 {a0 : Int32} {a1 : Int32} : ∀ G : ez_F, fx_up X 4 G 229 32 [.ref 35, .int a0, .int a1] [] (ev_hp I J R T) cz kz = G 229 38 [.ref 35, .int a0, .int a1] [.int (I 35 16), .int a0, .ref 35] (ev_hp I J R T) cz kz := by
  intro G
  rfl
set_option maxRecDepth 100000 in
theorem tt_r15 {a0 : Int32} {a1 : Int32} {a2 : Int32} {a3 : Int32} : ∀ G : ez_F, fx_up X 1 G 229 38 [.ref 35, .int a0, .int a1] [.int a2, .int a3, .ref 35] (ev_hp I J R T) cz kz = ev_C G 192 [.ref 35, .int a3, .int a2] (ev_hp I J R T) fun r h1 c1 k1 => G 229 41 [.ref 35, .int a0, .int a1] (r.toList ++ []) h1 (cz + c1) (kz + k1) := by
  intro G
  rfl
set_option maxRecDepth 100000 in
theorem tt_r16 {a0 : Int32} {a1 : Int32} : ∀ G : ez_F, fx_up X 2 G 229 29 [.ref 35, .int a0, .int a1] [] (ev_hp I J R T) cz kz = some (some (.int (-2 : Int32)), (ev_hp I J R T), cz, kz) := by
  intro G
  rfl
set_option maxRecDepth 100000 in
theorem tt_r17 {a0 : Int32} {a1 : Int32} : ∀ G : ez_F, fx_up X 2 G 229 18 [.ref 35, .int a0, .int a1] [] (ev_hp I J R T) cz kz = some (some (.int (-6 : Int32)), (ev_hp I J R T), cz, kz) := by
  intro G
  rfl
theorem tu_15 {v x y : Int32}
    (H : ((¬ v = (0 : Int32) → ((¬ (ev_il (x.toInt64) 0 ((((I 35 14)) - (1 : Int32)).toInt64)) = (0 : Int32) → (∃ Q1 : pw_Q, pe N X 192 [.ref 35, .int x, .int (I 35 16)] (ev_hp I J R T) Q1 ∧ ∀ (r : Option Value) (h1 : ez_H), Q1 r h1 → pw N X 229 41 [.ref 35, .int x, .int y] (r.toList ++ []) h1 Q)) ∧ (¬ (¬ (ev_il (x.toInt64) 0 ((((I 35 14)) - (1 : Int32)).toInt64)) = (0 : Int32)) → Q (some (.int (-2 : Int32))) (ev_hp I J R T)))) ∧ (¬ (¬ v = (0 : Int32)) → Q (some (.int (-6 : Int32))) (ev_hp I J R T)))) : pw (N + 1) X 229 15 [.ref 35, .int x, .int y] [.int v] (ev_hp I J R T) Q := by
  refine pw_if (by decide) (fun _ _ => tt_r11) (fun w1 => ?_) (fun w1 => ?_)
  · have h1 := H.1 w1
    refine pw_p (pw_callp (by decide) (fun _ _ => tt_r12) (pe_is (em_isLaying _ _ _ _ _ _)) ?_)
    refine pw_p (pw_if (by decide) (fun _ _ => tt_r13) (fun w2 => ?_) (fun w2 => ?_))
    · have h2 := h1.1 w2
      refine pw_p (pw_seg (by decide) (fun _ _ => tt_r14) ?_)
      obtain ⟨Q1, hc, hk⟩ := h2
      exact pw_p (pw_call (by decide) (fun _ _ => tt_r15) hc hk)
    · have h2 := h1.2 w2
      exact pw_p (pw_ret (by decide) (fun _ _ => tt_r16) h2)
  · have h1 := H.2 w1
    exact pw_p (pw_ret (by decide) (fun _ _ => tt_r17) h1)
set_option maxRecDepth 100000 in
theorem tt_r18 {a0 : Int32} {a1 : Int32} : ∀ G : ez_F, fx_up X 3 G 229 41 [.ref 35, .int a0, .int a1] [] (ev_hp I J R T) cz kz = G 229 46 [.ref 35, .int a0, .int a1] [.int a1, .ref 48] (ev_hp I J R T) cz kz := by
  intro G
  rfl
set_option maxRecDepth 100000 in
theorem tt_r19 {a0 : Int32} {a1 : Int32} {a2 : Int32} : ∀ G : ez_F, fx_up X 1 G 229 47 [.ref 35, .int a0, .int a1] [.int a2] (ev_hp I J R T) cz kz = some (some (.int a2), (ev_hp I J R T), cz, kz) := by
  intro G
  rfl
theorem tu_41 {x y : Int32}
    (H : (ev_ix y 31 → Q (some (.int (I 48 y.toNatClampNeg))) (ev_hp I J R T))) : pw (N + 1) X 229 41 [.ref 35, .int x, .int y] [] (ev_hp I J R T) Q := by
  refine pw_seg (by decide) (fun _ _ => tt_r18) ?_
  refine pw_p (pw_iald (by rfl) (cx_getI (show cx_Ds[48]? = some (0, 31, []) from rfl)) (fun w1 => ?_))
  have h1 := H w1
  exact pw_p (pw_ret (by decide) (fun _ _ => tt_r19) h1)
set_option maxRecDepth 100000 in
theorem tt_r20 {a0 : Int32} {a1 : Int32} {a2 : Int32} {a3 : Int32} : ∀ G : ez_F, fx_up X 1 G 31 35 [.ref 0, .int a0, .int a1, .int a2] [.int a3] (ev_hp I J R T) cz kz = bif decide (a3 = (0 : Int32)) then G 31 42 [.ref 0, .int a0, .int a1, .int a2] [] (ev_hp I J R T) cz kz else G 31 38 [.ref 0, .int a0, .int a1, .int a2] [] (ev_hp I J R T) cz kz := by
  intro G
  rfl
set_option maxRecDepth 100000 in
theorem tt_r21 {a0 : Int32} {a1 : Int32} {a2 : Int32} : ∀ G : ez_F, fx_up X 3 G 31 42 [.ref 0, .int a0, .int a1, .int a2] [] (ev_hp I J R T) cz kz = ev_C G 23 [.ref 0, .int a0] (ev_hp I J R T) fun r h1 c1 k1 => G 31 47 [.ref 0, .int a0, .int a1, .int a2] (r.toList ++ []) h1 (cz + c1) (kz + k1) := by
  intro G
  rfl
set_option maxRecDepth 100000 in
theorem tt_r22 {a0 : Int32} {a1 : Int32} {a2 : Int32} {a3 : Int32} : ∀ G : ez_F, fx_up X 1 G 31 47 [.ref 0, .int a0, .int a1, .int a2] [.int a3] (ev_hp I J R T) cz kz = bif decide (¬ a3 = (0 : Int32)) then G 31 54 [.ref 0, .int a0, .int a1, .int a2] [] (ev_hp I J R T) cz kz else G 31 50 [.ref 0, .int a0, .int a1, .int a2] [] (ev_hp I J R T) cz kz := by
  intro G
  rfl
set_option maxRecDepth 100000 in
theorem tt_r23 {a0 : Int32} {a1 : Int32} {a2 : Int32} : ∀ G : ez_F, fx_up X 5 G 31 54 [.ref 0, .int a0, .int a1, .int a2] [] (ev_hp I J R T) cz kz = ev_C G 135 [.ref 10, .int a0, .int a2] (ev_hp I J R T) fun r h1 c1 k1 => G 31 63 [.ref 0, .int a0, .int a1, .int a2] (r.toList ++ []) h1 (cz + c1) (kz + k1) := by
  intro G
  rfl
set_option maxRecDepth 100000 in
theorem tt_r24 {a0 : Int32} {a1 : Int32} {a2 : Int32} : ∀ G : ez_F, fx_up X 2 G 31 50 [.ref 0, .int a0, .int a1, .int a2] [] (ev_hp I J R T) cz kz = some (some (.long (18446744073709551614 : Int64)), (ev_hp I J R T), cz, kz) := by
  intro G
  rfl
set_option maxRecDepth 100000 in
theorem tt_r25 {a0 : Int32} {a1 : Int32} {a2 : Int32} : ∀ G : ez_F, fx_up X 2 G 31 38 [.ref 0, .int a0, .int a1, .int a2] [] (ev_hp I J R T) cz kz = some (some (.long (18446744073709551610 : Int64)), (ev_hp I J R T), cz, kz) := by
  intro G
  rfl
theorem li_35 {v x y z : Int32}
    (H : ((v = (0 : Int32) → ((¬ (ev_wi x (0 : Int32) ((I 6 3) - (1 : Int32))) = (0 : Int32) → (∃ Q1 : pw_Q, pe N X 135 [.ref 10, .int x, .int z] (ev_hp I J R T) Q1 ∧ ∀ (r : Option Value) (h1 : ez_H), Q1 r h1 → pw N X 31 63 [.ref 0, .int x, .int y, .int z] (r.toList ++ []) h1 Q)) ∧ (¬ (¬ (ev_wi x (0 : Int32) ((I 6 3) - (1 : Int32))) = (0 : Int32)) → Q (some (.long (18446744073709551614 : Int64))) (ev_hp I J R T)))) ∧ (¬ (v = (0 : Int32)) → Q (some (.long (18446744073709551610 : Int64))) (ev_hp I J R T)))) : pw (N + 1) X 31 35 [.ref 0, .int x, .int y, .int z] [.int v] (ev_hp I J R T) Q := by
  refine pw_if (by decide) (fun _ _ => tt_r20) (fun w1 => ?_) (fun w1 => ?_)
  · have h1 := H.1 w1
    refine pw_p (pw_callp (by decide) (fun _ _ => tt_r21) (pe_is (eg_isLaying _ _ _ _ _ _)) ?_)
    refine pw_p (pw_if (by decide) (fun _ _ => tt_r22) (fun w2 => ?_) (fun w2 => ?_))
    · have h2 := h1.1 w2
      obtain ⟨Q1, hc, hk⟩ := h2
      exact pw_p (pw_call (by decide) (fun _ _ => tt_r23) hc hk)
    · have h2 := h1.2 w2
      exact pw_p (pw_ret (by decide) (fun _ _ => tt_r24) h2)
  · have h1 := H.2 w1
    exact pw_p (pw_ret (by decide) (fun _ _ => tt_r25) h1)
set_option maxRecDepth 100000 in
theorem tt_r26 {a0 : Int32} {a1 : Int32} {a2 : Int32} {a3 : Int64} : ∀ G : ez_F, fx_up X 5 G 31 63 [.ref 0, .int a0, .int a1, .int a2] [.long a3] (ev_hp I J R T) cz kz = ev_C G 133 [.ref 10, .int a1] (ev_hp I J R T) fun r h1 c1 k1 => G 31 72 [.ref 0, .int a0, .int a1, .int a2] (r.toList ++ []) h1 (cz + c1) (kz + k1) := by
  intro G
  rfl
set_option maxRecDepth 100000 in
theorem tt_r27 {a0 : Int32} {a1 : Int32} {a2 : Int32} {a3 : Int64} : ∀ G : ez_F, fx_up X 1 G 31 72 [.ref 0, .int a0, .int a1, .int a2] [.long a3] (ev_hp I J R T) cz kz = some (some (.long a3), (ev_hp I J R T), cz, kz) := by
  intro G
  rfl
theorem li_63 {x y z : Int32} {u : Int64}
    (H : Q (some (.long (ev_atJ 3 (J 11) y))) (ev_hp I J R T)) : pw (N + 1) X 31 63 [.ref 0, .int x, .int y, .int z] [.long u] (ev_hp I J R T) Q := by
  refine pw_callp (by decide) (fun _ _ => tt_r26) (pe_placeOf) ?_
  exact pw_p (pw_ret (by decide) (fun _ _ => tt_r27) H)
set_option maxRecDepth 100000 in
theorem tt_r28 {a0 : Int32} {a1 : Int32} {a2 : Int32} : ∀ G : ez_F, fx_up X 3 G 208 0 [.ref 35, .int a0, .int a1, .int a2] [] (ev_hp I J R T) cz kz = ev_C G 204 [.ref 35, .int a1] (ev_hp I J R T) fun r h1 c1 k1 => G 208 5 [.ref 35, .int a0, .int a1, .int a2] (r.toList ++ []) h1 (cz + c1) (kz + k1) := by
  intro G
  rfl
set_option maxRecDepth 100000 in
theorem tt_r29 {a0 : Int32} {a1 : Int32} {a2 : Int32} {a3 : Int32} : ∀ G : ez_F, fx_up X 1 G 208 5 [.ref 35, .int a0, .int a1, .int a2] [.int a3] (ev_hp I J R T) cz kz = bif decide (¬ a3 = (0 : Int32)) then G 208 12 [.ref 35, .int a0, .int a1, .int a2] [] (ev_hp I J R T) cz kz else G 208 8 [.ref 35, .int a0, .int a1, .int a2] [] (ev_hp I J R T) cz kz := by
  intro G
  rfl
set_option maxRecDepth 100000 in
theorem tt_r30 {a0 : Int32} {a1 : Int32} {a2 : Int32} : ∀ G : ez_F, fx_up X 5 G 208 12 [.ref 35, .int a0, .int a1, .int a2] [] (ev_hp I J R T) cz kz = G 208 19 [.ref 35, .int a0, .int a1, .int a2] [.int (I 35 16), .long (0 : Int64), .long a2.toInt64] (ev_hp I J R T) cz kz := by
  intro G
  rfl
set_option maxRecDepth 100000 in
theorem tt_r31 {a0 : Int32} {a1 : Int32} {a2 : Int32} {a3 : Int32} {a4 : Int64} {a5 : Int64} : ∀ G : ez_F, fx_up X 2 G 208 19 [.ref 35, .int a0, .int a1, .int a2] [.int a3, .long a4, .long a5] (ev_hp I J R T) cz kz = ev_C G 198 [.long a5, .long a4, .long a3.toInt64] (ev_hp I J R T) fun r h1 c1 k1 => G 208 23 [.ref 35, .int a0, .int a1, .int a2] (r.toList ++ []) h1 (cz + c1) (kz + k1) := by
  intro G
  rfl
set_option maxRecDepth 100000 in
theorem tt_r32 {a0 : Int32} {a1 : Int32} {a2 : Int32} {a3 : Int32} : ∀ G : ez_F, fx_up X 1 G 208 23 [.ref 35, .int a0, .int a1, .int a2] [.int a3] (ev_hp I J R T) cz kz = bif decide (¬ a3 = (0 : Int32)) then G 208 30 [.ref 35, .int a0, .int a1, .int a2] [] (ev_hp I J R T) cz kz else G 208 26 [.ref 35, .int a0, .int a1, .int a2] [] (ev_hp I J R T) cz kz := by
  intro G
  rfl
set_option maxRecDepth 100000 in
theorem tt_r33 {a0 : Int32} {a1 : Int32} {a2 : Int32} : ∀ G : ez_F, fx_up X 2 G 208 30 [.ref 35, .int a0, .int a1, .int a2] [] (ev_hp I J R T) cz kz = ev_C G 167 [.ref 35] (ev_hp I J R T) fun r h1 c1 k1 => G 208 34 [.ref 35, .int a0, .int a1, .int a2] (r.toList ++ []) h1 (cz + c1) (kz + k1) := by
  intro G
  rfl
set_option maxRecDepth 100000 in
theorem tt_r34 {a0 : Int32} {a1 : Int32} {a2 : Int32} : ∀ G : ez_F, fx_up X 2 G 208 26 [.ref 35, .int a0, .int a1, .int a2] [] (ev_hp I J R T) cz kz = some (some (.long (18446744073709551613 : Int64)), (ev_hp I J R T), cz, kz) := by
  intro G
  rfl
set_option maxRecDepth 100000 in
theorem tt_r35 {a0 : Int32} {a1 : Int32} {a2 : Int32} : ∀ G : ez_F, fx_up X 2 G 208 8 [.ref 35, .int a0, .int a1, .int a2] [] (ev_hp I J R T) cz kz = some (some (.long (18446744073709551614 : Int64)), (ev_hp I J R T), cz, kz) := by
  intro G
  rfl
theorem lj_0 {x y z : Int32}
    (H : ((¬ (ev_il (y.toInt64) 0 ((((I 35 3)) - (1 : Int32)).toInt64)) = (0 : Int32) → ((¬ (ev_il z.toInt64 (0 : Int64) ((I 35 16).toInt64)) = (0 : Int32) → (∃ Q1 : pw_Q, pe N X 167 [.ref 35] (ev_hp I J R T) Q1 ∧ ∀ (r : Option Value) (h1 : ez_H), Q1 r h1 → pw N X 208 34 [.ref 35, .int x, .int y, .int z] (r.toList ++ []) h1 Q)) ∧ (¬ (¬ (ev_il z.toInt64 (0 : Int64) ((I 35 16).toInt64)) = (0 : Int32)) → Q (some (.long (18446744073709551613 : Int64))) (ev_hp I J R T)))) ∧ (¬ (¬ (ev_il (y.toInt64) 0 ((((I 35 3)) - (1 : Int32)).toInt64)) = (0 : Int32)) → Q (some (.long (18446744073709551614 : Int64))) (ev_hp I J R T)))) : pw (N + 1) X 208 0 [.ref 35, .int x, .int y, .int z] [] (ev_hp I J R T) Q := by
  refine pw_callp (by decide) (fun _ _ => tt_r28) (pe_is (em_isShip _ _ _ _ _ _)) ?_
  refine pw_p (pw_if (by decide) (fun _ _ => tt_r29) (fun w1 => ?_) (fun w1 => ?_))
  · have h1 := H.1 w1
    refine pw_p (pw_seg (by decide) (fun _ _ => tt_r30) ?_)
    refine pw_p (pw_callp (by decide) (fun _ _ => tt_r31) (pe_is (ec_in _ _ _ _ _)) ?_)
    refine pw_p (pw_if (by decide) (fun _ _ => tt_r32) (fun w2 => ?_) (fun w2 => ?_))
    · have h2 := h1.1 w2
      obtain ⟨Q1, hc, hk⟩ := h2
      exact pw_p (pw_call (by decide) (fun _ _ => tt_r33) hc hk)
    · have h2 := h1.2 w2
      exact pw_p (pw_ret (by decide) (fun _ _ => tt_r34) h2)
  · have h1 := H.2 w1
    exact pw_p (pw_ret (by decide) (fun _ _ => tt_r35) h1)
set_option maxRecDepth 100000 in
theorem tt_r36 {a0 : Int32} {a1 : Int32} {a2 : Int32} {a3 : Int32} : ∀ G : ez_F, fx_up X 1 G 208 34 [.ref 35, .int a0, .int a1, .int a2] [.int a3] (ev_hp I J R T) cz kz = bif decide (¬ a3 = (0 : Int32)) then G 208 41 [.ref 35, .int a0, .int a1, .int a2] [] (ev_hp I J R T) cz kz else G 208 37 [.ref 35, .int a0, .int a1, .int a2] [] (ev_hp I J R T) cz kz := by
  intro G
  rfl
set_option maxRecDepth 100000 in
theorem tt_r37 {a0 : Int32} {a1 : Int32} {a2 : Int32} : ∀ G : ez_F, fx_up X 3 G 208 41 [.ref 35, .int a0, .int a1, .int a2] [] (ev_hp I J R T) cz kz = ev_C G 202 [.ref 35, .int a0] (ev_hp I J R T) fun r h1 c1 k1 => G 208 46 [.ref 35, .int a0, .int a1, .int a2] (r.toList ++ []) h1 (cz + c1) (kz + k1) := by
  intro G
  rfl
set_option maxRecDepth 100000 in
theorem tt_r38 {a0 : Int32} {a1 : Int32} {a2 : Int32} {a3 : Int32} : ∀ G : ez_F, fx_up X 1 G 208 46 [.ref 35, .int a0, .int a1, .int a2] [.int a3] (ev_hp I J R T) cz kz = bif decide (¬ a3 = (0 : Int32)) then G 208 53 [.ref 35, .int a0, .int a1, .int a2] [] (ev_hp I J R T) cz kz else G 208 49 [.ref 35, .int a0, .int a1, .int a2] [] (ev_hp I J R T) cz kz := by
  intro G
  rfl
set_option maxRecDepth 100000 in
theorem tt_r39 {a0 : Int32} {a1 : Int32} {a2 : Int32} : ∀ G : ez_F, fx_up X 4 G 208 53 [.ref 35, .int a0, .int a1, .int a2] [] (ev_hp I J R T) cz kz = ev_C G 192 [.ref 35, .int a0, .int a2] (ev_hp I J R T) fun r h1 c1 k1 => G 208 59 [.ref 35, .int a0, .int a1, .int a2] (r.toList ++ []) h1 (cz + c1) (kz + k1) := by
  intro G
  rfl
set_option maxRecDepth 100000 in
theorem tt_r40 {a0 : Int32} {a1 : Int32} {a2 : Int32} : ∀ G : ez_F, fx_up X 2 G 208 49 [.ref 35, .int a0, .int a1, .int a2] [] (ev_hp I J R T) cz kz = some (some (.long (18446744073709551614 : Int64)), (ev_hp I J R T), cz, kz) := by
  intro G
  rfl
set_option maxRecDepth 100000 in
theorem tt_r41 {a0 : Int32} {a1 : Int32} {a2 : Int32} : ∀ G : ez_F, fx_up X 2 G 208 37 [.ref 35, .int a0, .int a1, .int a2] [] (ev_hp I J R T) cz kz = some (some (.long (18446744073709551610 : Int64)), (ev_hp I J R T), cz, kz) := by
  intro G
  rfl
theorem lj_34 {v x y z : Int32}
    (H : ((¬ v = (0 : Int32) → ((¬ (ev_il (x.toInt64) 0 ((((I 35 14)) - (1 : Int32)).toInt64)) = (0 : Int32) → (∃ Q1 : pw_Q, pe N X 192 [.ref 35, .int x, .int z] (ev_hp I J R T) Q1 ∧ ∀ (r : Option Value) (h1 : ez_H), Q1 r h1 → pw N X 208 59 [.ref 35, .int x, .int y, .int z] (r.toList ++ []) h1 Q)) ∧ (¬ (¬ (ev_il (x.toInt64) 0 ((((I 35 14)) - (1 : Int32)).toInt64)) = (0 : Int32)) → Q (some (.long (18446744073709551614 : Int64))) (ev_hp I J R T)))) ∧ (¬ (¬ v = (0 : Int32)) → Q (some (.long (18446744073709551610 : Int64))) (ev_hp I J R T)))) : pw (N + 1) X 208 34 [.ref 35, .int x, .int y, .int z] [.int v] (ev_hp I J R T) Q := by
  refine pw_if (by decide) (fun _ _ => tt_r36) (fun w1 => ?_) (fun w1 => ?_)
  · have h1 := H.1 w1
    refine pw_p (pw_callp (by decide) (fun _ _ => tt_r37) (pe_is (em_isLaying _ _ _ _ _ _)) ?_)
    refine pw_p (pw_if (by decide) (fun _ _ => tt_r38) (fun w2 => ?_) (fun w2 => ?_))
    · have h2 := h1.1 w2
      obtain ⟨Q1, hc, hk⟩ := h2
      exact pw_p (pw_call (by decide) (fun _ _ => tt_r39) hc hk)
    · have h2 := h1.2 w2
      exact pw_p (pw_ret (by decide) (fun _ _ => tt_r40) h2)
  · have h1 := H.2 w1
    exact pw_p (pw_ret (by decide) (fun _ _ => tt_r41) h1)
set_option maxRecDepth 100000 in
theorem tt_r42 {a0 : Int32} {a1 : Int32} {a2 : Int32} : ∀ G : ez_F, fx_up X 3 G 208 59 [.ref 35, .int a0, .int a1, .int a2] [] (ev_hp I J R T) cz kz = G 208 64 [.ref 35, .int a0, .int a1, .int a2] [.int a1, .ref 45] (ev_hp I J R T) cz kz := by
  intro G
  rfl
set_option maxRecDepth 100000 in
theorem tt_r43 {a0 : Int32} {a1 : Int32} {a2 : Int32} {a3 : Int64} : ∀ G : ez_F, fx_up X 1 G 208 65 [.ref 35, .int a0, .int a1, .int a2] [.long a3] (ev_hp I J R T) cz kz = some (some (.long a3), (ev_hp I J R T), cz, kz) := by
  intro G
  rfl
theorem lj_59 {x y z : Int32}
    (H : (ev_ix y 3 → Q (some (.long (J 45 y.toNatClampNeg))) (ev_hp I J R T))) : pw (N + 1) X 208 59 [.ref 35, .int x, .int y, .int z] [] (ev_hp I J R T) Q := by
  refine pw_seg (by decide) (fun _ _ => tt_r42) ?_
  refine pw_p (pw_lald (by rfl) (cx_getJ (show cx_Ds[45]? = some (1, 3, []) from rfl)) (fun w1 => ?_))
  have h1 := H w1
  exact pw_p (pw_ret (by decide) (fun _ _ => tt_r43) h1)
end
section
variable {N : Nat} {X : ez_X} {I I' I1 : Nat → Nat → Int32} {J J' J1 : Nat → Nat → Int64} {R R' R1 : Nat → Nat} {T T' T1 : List ez_C} {v x y z : Int32} {u w : Int64} {f6 : Nat → Int32} {t : ly_t}
/-- behind tooMany, where there are not too many: the register's row -/
theorem se_row {L : List ly_t} {h : ez_H} (hs : se_Q I J R T L h) : ∃ f6 R' T' n f, h = ev_hp (ev_sI I 6 f6) J R' T' ∧ ev_sI I 6 f6 6 3 = Int32.ofNat L.length ∧ rowT (R' 0) T' n f ∧ L.length ≤ n ∧ n ≤ 10000 ∧ ly_row f L ∧ bk (ev_sI I 6 f6) J = bk I J := by
  obtain ⟨f6, R', T', rfl, g1, ⟨g2, n, f, g3, g4, g5, g6⟩, g7⟩ := hs
  refine ⟨f6, R', T', n, f, rfl, g2, g3, g4, g5, g6, ?_⟩
  unfold bk
  rw [cx_sI_n _ _ (show (8 : Nat) ≠ 6 by decide), cx_sI_n _ _ (show (3 : Nat) ≠ 6 by decide), cx_sI_n _ _ (show (5 : Nat) ≠ 6 by decide), cx_sI_n _ _ (show (2 : Nat) ≠ 6 by decide), cx_sI_n _ _ (show (1 : Nat) ≠ 6 by decide), cx_sI_n _ _ (show (33 : Nat) ≠ 6 by decide)]
/-- laying k is played by the class -/
theorem pe_play (hr : rl I J) (hB : cx_hB cx_B0 I) {n0 : Nat} {f : Nat → Int32} (g3 : rowT (R 0) T n0 f) (g4 : (ls I J).length ≤ n0) (g5 : n0 ≤ 10000) (g6 : ly_row f (ls I J)) {A : Nat → Nat → Int32} (eb : bk A J = bk I J) {k n : Nat} (hk : k < (ls I J).length) (hx : x = Int32.ofNat k) (hy : y = Int32.ofNat n) (hn : n ≤ 30) :
    pe N X 135 [.ref 10, .int x, .int y] (ev_hp A J R T) (fun r h => r = some (.long (xz I J (ls I J)[k] n)) ∧ ∃ J', h = ev_hp A J' R T ∧ xh A J (ls I J)[k] n J') := by
  have hm := List.getElem_mem hk
  obtain ⟨b0, b1, b2⟩ := ls_512 hr hB hm
  have e33 : A 3 3 = I 3 3 := (bk_at eb).2.1
  rw [← (bk_xq eb (ls I J)[k]).2.2.2]
  subst hx
  refine pe_through g3 g5 (by rw [at_k (by omega) g5, g6 k hk]) (by rw [e33]; exact (b_sh hB).1) b0 b1 b2 (fun s hs => ?_) hy hn
  rw [e33] at hs
  have := ly_in hr hB hm hs
  have := (fi_n hr hs).2.1
  omega
def v_truth (I : Nat → Nat → Int32) (J : Nat → Nat → Int64) (x y : Int32) : Int32 := if ev_wi y 0 (I 8 1 - 1) = 0 then -2 else if sn I 0 * (sn I 1 * sn I 2) ≤ 10000 then (if ev_wi x 0 (Int32.ofNat (ls I J).length - 1) = 0 then -2 else Int32.ofNat (xt I J ((ls I J).getD x.toInt.toNat (0, 0, 0)) y.toInt.toNat)) else -6
theorem v_truth_b (e : bk I' J' = bk I J) : v_truth I' J' x y = v_truth I J x y := by
  obtain ⟨h1, h2⟩ := bk_ls e
  unfold v_truth
  rw [h1, h2 0, h2 1, h2 2, (bk_at e).1, (bk_xq e _).2.2.1]
theorem pe_xtruth (h : rl3 I J R T) (hh : cx_hok cx_B0 I R T) : pe N X 53 [.ref 0, .int x, .int y] (ev_hp I J R T) (fun r _ => r = some (.int (v_truth I J x y))) := by
  obtain ⟨W, HH, k0, hg, ek, -⟩ := gk_of h hh.1
  have hg0 := hg
  obtain ⟨e0, e1, hW, hH, -, -, -, -, -, hk30, -⟩ := hg
  have hr := h.1.1
  refine pe_of (pw_p (xo_truth ⟨fun hy => ⟨_, pe_tm hr hh h.1.2, ?_⟩, fun hy => ?_⟩))
  · rintro r h' (⟨h1, rfl, rfl⟩ | ⟨h1, rfl, h2⟩)
    · refine pw_p (tr_15 ⟨fun z => absurd z (by decide), fun _ => ?_⟩)
      unfold v_truth
      rw [if_neg hy, if_neg (by omega)]
    · obtain ⟨f6, R', T', n, f, rfl, g2, g3, g4, g5, g6, eb⟩ := se_row h2
      refine pw_p (tr_15 ⟨fun _ => ⟨fun hx => ?_, fun hx => ?_⟩, fun z => absurd rfl z⟩)
      · rw [g2] at hx
        obtain ⟨k, rfl, hk⟩ := wi_len (by omega) hx
        have hy2 := hy
        rw [ek] at hy2
        obtain ⟨c, rfl, hc⟩ := wi_len (by omega) hy2
        refine ⟨_, pe_play (n := c + 1) hr hh.1 g3 g4 g5 g6 eb hk rfl (io_1 c) (by omega), ?_⟩
        rintro r h' ⟨rfl, J', rfl, -⟩
        refine pw_p (tr_43 ?_)
        have ht := fun d (hd : d < c + 1) => xt_le (t := (ls I J)[k]) hg0 (pk_ls hr hh.1 (List.getElem_mem hk) e0 e1 hW hH) (show d < k0 by omega)
        have hv := pl_z_at (show c + 1 ≤ 30 by omega) ht (Nat.lt_succ_self c)
        unfold v_truth
        rw [if_neg hy, if_pos h1, if_neg hx, io_ti (by omega), io_ti (by omega), Int.toNat_natCast, Int.toNat_natCast, ly_gd hk]
        exact congrArg (fun q => some (Value.int q)) hv
      · rw [g2] at hx
        unfold v_truth
        rw [if_neg hy, if_pos h1, if_pos (Classical.not_not.mp hx)]
  · unfold v_truth
    rw [if_pos (Classical.not_not.mp hy)]
/-- behind areLaid: the reference's own cells -/
theorem al_gk {W HH ns n : Nat} (hg : gk I J W HH ns n) {I' : Nat → Nat → Int32} {J' : Nat → Nat → Int64} (fI : ∀ a, a ≠ 38 → I' a = I a) (fJ : ∀ a, a ≠ 39 → a ≠ 40 → J' a = J a) (w' : Nat → Int32) (l : Nat) : gk (al_I I' w' l) J' W HH ns n ∧ bk (al_I I' w' l) J' = bk I J ∧ (∀ k, k ≠ 14 → al_I I' w' l 35 k = I 35 k) ∧ al_I I' w' l 35 14 = Int32.ofNat l ∧ al_I I' w' l 41 = w' ∧ ∀ a, a ≠ 35 → a ≠ 38 → a ≠ 41 → al_I I' w' l a = I a := by
  have e35 : ∀ k, k ≠ 14 → al_I I' w' l 35 k = I 35 k := fun k hk => by
    unfold al_I
    rw [cx_sI_s, upd_n _ _ hk, fI 35 (by decide)]
  have eI : ∀ a, a ≠ 35 → a ≠ 38 → a ≠ 41 → al_I I' w' l a = I a := fun a h1 h2 h3 => by
    unfold al_I
    rw [cx_sI_n _ _ h1, cx_sI_n _ _ h3, fI a h2]
  obtain ⟨h1, h2⟩ := gk_c eI e35 fJ hg
  refine ⟨h1, h2, e35, ?_, ?_, eI⟩
  · unfold al_I
    rw [cx_sI_s, upd_s]
  · unfold al_I
    rw [cx_sI_n _ _ (by decide), cx_sI_s]
/-- laying k is gone through by the reference, behind areLaid -/
theorem pe_goes (h : rl3 I J R T) (hB : cx_hB cx_B0 I) {W HH n : Nat} (hg : gk I J W HH (rf_n I) n) {I' : Nat → Nat → Int32} {J' : Nat → Nat → Int64} (fI : ∀ a, a ≠ 38 → I' a = I a) (fJ : ∀ a, a ≠ 39 → a ≠ 40 → J' a = J a) (fE : ∀ s, s < rf_n I → ∀ a, a < in_n I s → J' 39 (300 * s + a) = J 4 (288 * s + a)) {w' : Nat → Int32} (hw' : ml_row w' (ls I J)) (hlen : (ls I J).length ≤ 10000)
    {k m : Nat} (hk : k < (ls I J).length) (hx : x = Int32.ofNat k) (hy : y = Int32.ofNat m) (hm : m ≤ n) {A : Nat → Nat → Int32} {B : Nat → Nat → Int64} (hA : ∀ a, a ≠ 48 → A a = al_I I' w' (ls I J).length a) (hBk : ∀ a, a ≠ 45 → a ≠ 46 → a ≠ 47 → B a = J' a) :
    pe N X 192 [.ref 35, .int x, .int y] (ev_hp A B R1 T1) (fun r h => r = none ∧ ∃ f K G1 G2, h = ev_hp (ev_sI A 48 f) (ev_sJ (ev_sJ (ev_sJ B 47 K) 45 G1) 46 G2) R1 T1 ∧ (∀ s, s < rf_n I → G1 s = (xq I J (ls I J)[k] m).1 s ∧ G2 s = (xq I J (ls I J)[k] m).2 s) ∧ ∀ c, c < m → f c = Int32.ofNat (xt I J (ls I J)[k] c)) := by
  have hr := h.1.1
  obtain ⟨g1, eb, e35, e14, e41, eI⟩ := al_gk hg fI fJ w' (ls I J).length
  have e3 : I 3 3 = I 35 3 := (km_0 hr.1).2.2.2
  have hmem := List.getElem_mem hk
  have hw2 := hw' k hk
  obtain ⟨e0, e1, hW, hH, -⟩ := hg
  have gA : gk A B W HH (rf_n I) n ∧ bk A B = bk (al_I I' w' (ls I J).length) J' := by
    have ebk : bk A B = bk (al_I I' w' (ls I J).length) J' := by
      unfold bk
      rw [hA 8 (by decide), hA 3 (by decide), hA 5 (by decide), hA 2 (by decide), hA 1 (by decide), hA 33 (by decide), hBk 4 (by decide) (by decide) (by decide), hBk 9 (by decide) (by decide) (by decide), hBk 1 (by decide) (by decide) (by decide), hBk 8 (by decide) (by decide) (by decide)]
    refine ⟨?_, ebk⟩
    have hm : mvF A B = mvF (al_I I' w' (ls I J).length) J' := funext fun z => by
      unfold mvF
      rw [hA 1 (by decide), hBk 1 (by decide) (by decide) (by decide)]
    have hd : drF A = drF (al_I I' w' (ls I J).length) := by
      unfold drF
      rw [hA 1 (by decide)]
    unfold gk
    rw [hA 35 (by decide), hA 2 (by decide), hA 42 (by decide), hA 43 (by decide), hBk 9 (by decide) (by decide) (by decide), hm, hd]
    exact g1
  obtain ⟨gA, eA⟩ := gA
  have eX := eA.trans eb
  have hpk := pk_ls hr hB hmem e0 e1 hW hH
  have hl : ∀ s, s < rf_n I → ly_at (ls I J)[k] s < in_n I s ∧ in_n I s ≤ 288 := fun s hs => by
    have hs' : s < (I 3 3).toInt.toNat := by rw [e3]; exact hs
    exact ⟨ly_in hr hB hmem hs', (fi_n hr hs').2.1⟩
  have hn3 := (rf_ns hB).2
  refine pe_mono (pe_go (t := (ls I J)[k]) (m := m) gA (by rw [(bk_xq eX _).1]; exact hpk) hx (by omega) (fun s hs => ?_) (fun s hs => ?_) (fun s hs => ?_) hy hm) ?_
  · rw [hA 41 (by decide), e41]
    rcases (show s = 0 ∨ s = 1 ∨ s = 2 by omega) with rfl | rfl | rfl
    · exact hw2.1
    · exact hw2.2.1
    · exact hw2.2.2
  · have := hl s hs
    omega
  · rw [hBk 39 (by decide) (by decide) (by decide), fE s hs _ (hl s hs).1, (bk_xq eX _).1]
    unfold ly_s
    rw [if_pos (by rw [e3]; exact hs)]
  · rintro r h' ⟨rfl, I2, J2, rfl, f, K, G1, G2, rfl, rfl, q1, q2⟩
    rw [(bk_xq eX _).2.1] at q1
    rw [(bk_xq eX _).2.2.1] at q2
    exact ⟨rfl, f, K, G1, G2, rfl, q1, q2⟩
theorem pe_mtruth (h : rl3 I J R T) (hB : cx_hB cx_B0 I) : pe N X 229 [.ref 35, .int x, .int y] (ev_hp I J R T) (fun r _ => r = some (.int (v_truth I J x y))) := by
  obtain ⟨W, HH, k0, hg, ek, ek2⟩ := gk_of h hB
  have hk30 : k0 ≤ 30 := by
    obtain ⟨-, -, -, -, -, -, -, -, -, z, -⟩ := hg
    exact z
  have hr := h.1.1
  refine pe_of (pw_p (tu_0 ⟨fun hy => ⟨_, pe_laid hr hB N, ?_⟩, fun hy => ?_⟩))
  · rw [il_0, ek2] at hy
    rintro r h' ⟨I', J', ⟨fI, fJ, fE⟩, ⟨h1, rfl, rfl⟩ | ⟨h1, rfl, w', rfl, hw'⟩⟩
    · refine pw_p (tu_15 ⟨fun z => absurd rfl z, fun _ => ?_⟩)
      unfold v_truth
      rw [if_neg hy, pr_is hr hB, if_neg (by omega)]
    · have hlen := ly_1l (lm_p (rf_n I) (rf_f J) (rf_g I J)) (lm_q (rf_n I) (rf_f J) (rf_g I J)) (mm (in_n I) (rf_n I) 1) (mm (in_n I) (rf_n I) 2) (mm (in_n I) (rf_n I) 0)
      have hlen2 : (lm_L (rf_n I) (in_n I) (rf_f J) (rf_g I J)).length ≤ 10000 := Nat.le_trans hlen (by rw [pr_mm _ (rf_ns hB).2]; exact h1)
      rw [← ls_is hr h.1.2.1 hB] at hw' hlen2 ⊢
      obtain ⟨g1, eb, e35, e14, e41, eI⟩ := al_gk hg fI fJ w' (ls I J).length
      refine pw_p (tu_15 ⟨fun _ => ⟨fun hx => ?_, fun hx => ?_⟩, fun z => absurd (by decide) z⟩)
      · rw [e14, il_0] at hx
        obtain ⟨k, rfl, hk⟩ := wi_len (by omega) hx
        have hy2 := hy
        rw [ek] at hy2
        obtain ⟨c, rfl, hc⟩ := wi_len (by omega) hy2
        refine ⟨_, pe_goes (m := k0) h hB hg fI fJ (fun s hs a ha => ((fE s hs).2 a ha).1) hw' hlen2 hk rfl (by rw [e35 16 (by decide), ek2, ek]) (Nat.le_refl _) (fun _ _ => rfl) (fun _ _ _ _ => rfl), ?_⟩
        rintro r h' ⟨rfl, f, K, G1, G2, rfl, q1, q2⟩
        refine pw_p (tu_41 ?_)
        rw [cx_sI_s, io_cl (by omega), q2 c hc]
        intro _
        unfold v_truth
        rw [if_neg hy, pr_is hr hB, if_pos h1, if_neg hx, io_ti (by omega), io_ti (by omega), Int.toNat_natCast, Int.toNat_natCast, ly_gd hk]
      · rw [e14, il_0] at hx
        unfold v_truth
        rw [if_neg hy, pr_is hr hB, if_pos h1, if_pos (Classical.not_not.mp hx)]
  · rw [il_0, ek2] at hy
    unfold v_truth
    rw [if_pos (Classical.not_not.mp hy)]
theorem lxc_truth (hX2 : X.1 < 2 ^ 31) (hh : cx_hok cx_B0 I R T) (hr : rl3 I J R T) (x y : Int32) : ev_W X 53 0 (ez_lay [.ref 0, .int x, .int y]) [] (ev_hp I J R T) 0 0 (lw_mid T (fun v I1 J1 R1 T1 => v = v_truth I1 J1 x y ∧ rl3 I1 J1 R1 T1)) := by
  refine (lxc_of (l3x_truth hX2 hh hr x y) (fun N => pe_xtruth hr hh) (by rfl) cv_53_0 hX2 hh ao_2).mono (lw_mono fun v I1 J1 R1 T1 q => ⟨?_, q.2.2⟩)
  rw [q.1, v_truth_b q.2.1]
theorem lmc_truth (hX2 : X.1 < 2 ^ 31) (hh : cx_hok cx_B0 I R T) (hr : rl3 I J R T) (x y : Int32) (hh1 : cx_hok cx_B0 I1 R1 T1) (hm : v = v_truth I1 J1 x y ∧ rl3 I1 J1 R1 T1) : ev_W X 229 0 (ez_lay [.ref 35, .int x, .int y]) [] (ev_hp I1 J1 R1 T1) 0 0 (lw_mid T1 (fun u I2 J2 R2 T2 => u = v ∧ rl3 I2 J2 R2 T2)) := by
  refine (lmc_of (l3m_truth hX2 hh hr x y hh1 hm.2) (fun N => pe_mtruth hm.2 hh1.1)).mono (lw_mono fun u I2 J2 R2 T2 q => ⟨?_, q.2⟩)
  rw [q.1, hm.1]
def v_lies (I : Nat → Nat → Int32) (J : Nat → Nat → Int64) (x y z : Int32) : Int64 := if ev_wi y 0 (I 3 3 - 1) = 0 then 18446744073709551614 else if ev_wi z 0 (I 8 1) = 0 then 18446744073709551613 else if sn I 0 * (sn I 1 * sn I 2) ≤ 10000 then (if ev_wi x 0 (Int32.ofNat (ls I J).length - 1) = 0 then 18446744073709551614 else (xq I J ((ls I J).getD x.toInt.toNat (0, 0, 0)) z.toInt.toNat).1 y.toInt.toNat) else 18446744073709551610
theorem v_lies_b (e : bk I' J' = bk I J) : v_lies I' J' x y z = v_lies I J x y z := by
  obtain ⟨h1, h2⟩ := bk_ls e
  unfold v_lies
  rw [h1, h2 0, h2 1, h2 2, (bk_at e).1, (bk_at e).2.1, (bk_xq e _).2.1]
theorem wi_le {a : Int32} {n : Nat} (hn : n < 2147483648) (h : ¬ ev_wi a 0 (Int32.ofNat n) = 0) : ∃ j, a = Int32.ofNat j ∧ j ≤ n := by
  obtain ⟨j, e, -, hj⟩ := wi_nat (u := 0) (v := n) hn h (by omega)
  exact ⟨j, e, hj⟩
theorem pe_xlies (h : rl3 I J R T) (hh : cx_hok cx_B0 I R T) : pe N X 31 [.ref 0, .int x, .int y, .int z] (ev_hp I J R T) (fun r _ => r = some (.long (v_lies I J x y z))) := by
  obtain ⟨W, HH, k0, hg, ek, -⟩ := gk_of h hh.1
  have hk30 : k0 ≤ 30 := by
    obtain ⟨-, -, -, -, -, -, -, -, -, z, -⟩ := hg
    exact z
  have hr := h.1.1
  have e3 := io_nat (b_sh hh.1).1.1
  have h3 := (b_sh hh.1).1.2
  refine pe_of (pw_p (xo_lies ⟨fun hy => ⟨fun hz => ⟨_, pe_tm hr hh h.1.2, ?_⟩, fun hz => ?_⟩, fun hy => ?_⟩))
  · rintro r h' (⟨h1, rfl, rfl⟩ | ⟨h1, rfl, h2⟩)
    · refine pw_p (li_35 ⟨fun z => absurd z (by decide), fun _ => ?_⟩)
      unfold v_lies
      rw [if_neg hy, if_neg hz, if_neg (by omega)]
    · obtain ⟨f6, R', T', n, f, rfl, g2, g3, g4, g5, g6, eb⟩ := se_row h2
      refine pw_p (li_35 ⟨fun _ => ⟨fun hx => ?_, fun hx => ?_⟩, fun z => absurd rfl z⟩)
      · rw [g2] at hx
        obtain ⟨k, rfl, hk⟩ := wi_len (by omega) hx
        have hy2 := hy
        rw [e3] at hy2
        obtain ⟨s, rfl, hs⟩ := wi_len (by omega) hy2
        have hz2 := hz
        rw [ek] at hz2
        obtain ⟨c, rfl, hc⟩ := wi_le (by omega) hz2
        refine ⟨_, pe_play (n := c) hr hh.1 g3 g4 g5 g6 eb hk rfl rfl (by omega), ?_⟩
        rintro r h' ⟨rfl, J', rfl, G1, G2, rfl, hG⟩
        rw [(bk_xq eb _).2.1] at hG
        refine pw_p (li_63 ?_)
        rw [cx_sJ_n _ _ (show (11 : Nat) ≠ 12 by decide), cx_sJ_s, atJ_in (show s < 3 by omega) (by decide), (hG s (by omega)).1]
        unfold v_lies
        rw [if_neg hy, if_neg hz, if_pos h1, if_neg hx, io_ti (by omega), io_ti (by omega), io_ti (by omega), Int.toNat_natCast, Int.toNat_natCast, Int.toNat_natCast, ly_gd hk]
      · rw [g2] at hx
        unfold v_lies
        rw [if_neg hy, if_neg hz, if_pos h1, if_pos (Classical.not_not.mp hx)]
  · unfold v_lies
    rw [if_neg hy, if_pos (Classical.not_not.mp hz)]
  · unfold v_lies
    rw [if_pos (Classical.not_not.mp hy)]
theorem pe_mlies (h : rl3 I J R T) (hB : cx_hB cx_B0 I) : pe N X 208 [.ref 35, .int x, .int y, .int z] (ev_hp I J R T) (fun r _ => r = some (.long (v_lies I J x y z))) := by
  obtain ⟨W, HH, k0, hg, ek, ek2⟩ := gk_of h hB
  have hk30 : k0 ≤ 30 := by
    obtain ⟨-, -, -, -, -, -, -, -, -, z, -⟩ := hg
    exact z
  have hr := h.1.1
  have e33 : I 35 3 = I 3 3 := (km_0 hr.1).2.2.2.symm
  have e3 := io_nat (b_sh hB).1.1
  have h3 := (b_sh hB).1.2
  have en : rf_n I = (I 3 3).toInt.toNat := by unfold rf_n; rw [e33]
  refine pe_of (pw_p (lj_0 ⟨fun hy => ⟨fun hz => ⟨_, pe_laid hr hB N, ?_⟩, fun hz => ?_⟩, fun hy => ?_⟩))
  · rw [il_0, e33] at hy
    rw [il_0, ek2] at hz
    rintro r h' ⟨I', J', ⟨fI, fJ, fE⟩, ⟨h1, rfl, rfl⟩ | ⟨h1, rfl, w', rfl, hw'⟩⟩
    · refine pw_p (lj_34 ⟨fun z => absurd rfl z, fun _ => ?_⟩)
      unfold v_lies
      rw [if_neg hy, if_neg hz, pr_is hr hB, if_neg (by omega)]
    · have hlen := ly_1l (lm_p (rf_n I) (rf_f J) (rf_g I J)) (lm_q (rf_n I) (rf_f J) (rf_g I J)) (mm (in_n I) (rf_n I) 1) (mm (in_n I) (rf_n I) 2) (mm (in_n I) (rf_n I) 0)
      have hlen2 : (lm_L (rf_n I) (in_n I) (rf_f J) (rf_g I J)).length ≤ 10000 := Nat.le_trans hlen (by rw [pr_mm _ (rf_ns hB).2]; exact h1)
      rw [← ls_is hr h.1.2.1 hB] at hw' hlen2 ⊢
      obtain ⟨g1, eb, e35, e14, e41, eI⟩ := al_gk hg fI fJ w' (ls I J).length
      refine pw_p (lj_34 ⟨fun _ => ⟨fun hx => ?_, fun hx => ?_⟩, fun z => absurd (by decide) z⟩)
      · rw [e14, il_0] at hx
        obtain ⟨k, rfl, hk⟩ := wi_len (by omega) hx
        have hy2 := hy
        rw [e3] at hy2
        obtain ⟨s, rfl, hs⟩ := wi_len (by omega) hy2
        have hz2 := hz
        rw [ek] at hz2
        obtain ⟨c, rfl, hc⟩ := wi_le (by omega) hz2
        refine ⟨_, pe_goes (m := c) h hB hg fI fJ (fun s hs a ha => ((fE s hs).2 a ha).1) hw' hlen2 hk rfl rfl hc (fun _ _ => rfl) (fun _ _ _ _ => rfl), ?_⟩
        rintro r h' ⟨rfl, f, K, G1, G2, rfl, q1, q2⟩
        refine pw_p (lj_59 ?_)
        rw [cx_sJ_n _ _ (show (45 : Nat) ≠ 46 by decide), cx_sJ_s, io_cl (by omega), (q1 s (by rw [en]; exact hs)).1]
        intro _
        unfold v_lies
        rw [if_neg hy, if_neg hz, pr_is hr hB, if_pos h1, if_neg hx, io_ti (by omega), io_ti (by omega), io_ti (by omega), Int.toNat_natCast, Int.toNat_natCast, Int.toNat_natCast, ly_gd hk]
      · rw [e14, il_0] at hx
        unfold v_lies
        rw [if_neg hy, if_neg hz, pr_is hr hB, if_pos h1, if_pos (Classical.not_not.mp hx)]
  · rw [il_0, e33] at hy
    rw [il_0, ek2] at hz
    unfold v_lies
    rw [if_neg hy, if_pos (Classical.not_not.mp hz)]
  · rw [il_0, e33] at hy
    unfold v_lies
    rw [if_pos (Classical.not_not.mp hy)]
theorem lxc_lies (hX2 : X.1 < 2 ^ 31) (hh : cx_hok cx_B0 I R T) (hr : rl3 I J R T) (x y z : Int32) : ev_W X 31 0 (ez_lay [.ref 0, .int x, .int y, .int z]) [] (ev_hp I J R T) 0 0 (lw_midL T (fun v I1 J1 R1 T1 => v = v_lies I1 J1 x y z ∧ rl3 I1 J1 R1 T1)) := by
  refine (lxc_ofL (l3x_lies hX2 hh hr x y z) (fun N => pe_xlies hr hh) (by rfl) cv_31_0 hX2 hh ao_3).mono (lw_monoL fun v I1 J1 R1 T1 q => ⟨?_, q.2.2⟩)
  rw [q.1, v_lies_b q.2.1]
theorem lmc_lies (hX2 : X.1 < 2 ^ 31) (hh : cx_hok cx_B0 I R T) (hr : rl3 I J R T) (x y z : Int32) (hh1 : cx_hok cx_B0 I1 R1 T1) (hm : u = v_lies I1 J1 x y z ∧ rl3 I1 J1 R1 T1) : ev_W X 208 0 (ez_lay [.ref 35, .int x, .int y, .int z]) [] (ev_hp I1 J1 R1 T1) 0 0 (lw_midL T1 (fun w I2 J2 R2 T2 => w = u ∧ rl3 I2 J2 R2 T2)) := by
  refine (lmc_ofL (l3m_lies hX2 hh hr x y z hh1 hm.2) (fun N => pe_mlies hm.2 hh1.1)).mono (lw_monoL fun u I2 J2 R2 T2 q => ⟨?_, q.2⟩)
  rw [q.1, hm.1]
end
