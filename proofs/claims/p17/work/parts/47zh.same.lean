/-! Both sides' layings are the same. -/
theorem or_0 (x y : Int64) : x ||| y = 0 ↔ x = 0 ∧ y = 0 := by
  constructor
  · intro h
    have hb : ∀ n, kb x n = false ∧ kb y n = false := fun n => by
      have h1 : kb (x ||| y) n = kb 0 n := by rw [h]
      rw [kb_or, kb_0] at h1
      cases hx : kb x n <;> cases hy : kb y n <;> rw [hx, hy] at h1 <;> first | exact ⟨rfl, rfl⟩ | cases h1
    exact ⟨kb_ext fun n _ => by rw [(hb n).1, kb_0], kb_ext fun n _ => by rw [(hb n).2, kb_0]⟩
  · rintro ⟨rfl, rfl⟩
    exact Int64.or_zero
theorem and_0 (x : Int64) : x &&& 0 = 0 := kb_ext fun n _ => by
  rw [kb_and, kb_0, Bool.and_false]
theorem and_c (x y : Int64) : x &&& y = y &&& x := kb_ext fun n _ => by
  rw [kb_and, kb_and, Bool.and_comm]
theorem and_or2 (x y z : Int64) : x &&& (y ||| z) = (y &&& x) ||| (z &&& x) := kb_ext fun n _ => by
  rw [kb_and, kb_or, kb_or, kb_and, kb_and]
  cases kb x n <;> cases kb y n <;> cases kb z n <;> rfl
section
variable {p p' : Nat → Nat → Bool} {q q' : Nat → Nat → Nat → Bool} {n1 n2 : Nat}
theorem ly_3c {a b : Nat} : ∀ n, (∀ c, c < n → q a b c = q' a b c) → ly_3 q a b n = ly_3 q' a b n := by
  intro n
  induction n with
  | zero => exact fun _ => rfl
  | succ n ih =>
    intro h
    unfold ly_3
    rw [ih fun c hc => h c (by omega), h n (by omega)]
theorem ly_2c {a : Nat} : ∀ n, (∀ b, b < n → p a b = p' a b) → (∀ b c, b < n → c < n2 → q a b c = q' a b c) → ly_2 p q n2 a n = ly_2 p' q' n2 a n := by
  intro n
  induction n with
  | zero => exact fun _ _ => rfl
  | succ n ih =>
    intro h1 h2
    unfold ly_2
    rw [ih (fun b hb => h1 b (by omega)) (fun b c hb hc => h2 b c (by omega) hc), h1 n (by omega), ly_3c n2 fun c hc => h2 n c (by omega) hc]
theorem ly_1c : ∀ n, (∀ a b, a < n → b < n1 → p a b = p' a b) → (∀ a b c, a < n → b < n1 → c < n2 → q a b c = q' a b c) → ly_1 p q n1 n2 n = ly_1 p' q' n1 n2 n := by
  intro n
  induction n with
  | zero => exact fun _ _ => rfl
  | succ n ih =>
    intro h1 h2
    unfold ly_1
    rw [ih (fun a b ha hb => h1 a b (by omega) hb) (fun a b c ha hb hc => h2 a b c (by omega) hb hc), ly_2c n1 (fun b hb => h1 n b (by omega) hb) fun b c hb hc => h2 n b c (by omega) hb hc]
end
/-! spots lie on the paper -/
section
variable {W H wr b dx dy : Int32}
theorem mv_on {w h : Nat} (hW : W = Int32.ofNat w) (hH : H = Int32.ofNat h) (hw : 2 ≤ w ∧ w ≤ 6) (hh : 2 ≤ h ∧ h ≤ 6) : ∀ (r : Nat) (k : Int32) (z : Int64), (∀ n, w * h ≤ n → kb z n = false) → ∀ n, w * h ≤ n → kb (mv_F W H wr b dx dy r k z) n = false := by
  intro r
  induction r with
  | zero => exact fun k z hz => hz
  | succ r ih =>
    intro k z hz n hn
    unfold mv_F
    split
    · exact ih _ _ hz n hn
    split
    · exact kb_0 n
    · rename_i h1
      split
      · exact kb_0 n
      · rename_i h2
        split
        · refine ih _ _ (fun m hm => ?_) n hn
          rw [il_z] at h1 h2
          rw [hW] at h1
          rw [hH] at h2
          obtain ⟨x, ex, hx⟩ := wi_lt (by omega) h1
          obtain ⟨y, ey, hy⟩ := wi_lt (by omega) h2
          rw [hW, hH, ex, ey, io_mul, io_add]
          have hb : w * y + x < w * h := by
            have h3 : w * (y + 1) ≤ w * h := Nat.mul_le_mul_left w (by omega)
            rw [Nat.mul_succ] at h3
            omega
          have hb2 : w * h ≤ 6 * 6 := Nat.mul_le_mul hw.2 hh.2
          rw [kb_or, hz m hm, kb_one (by omega), Bool.false_or]
          exact decide_eq_false (by omega)
        · exact kb_0 n
theorem sp_on {s K w h : Nat} (hW : W = Int32.ofNat w) (hH : H = Int32.ofNat h) (hw : 2 ≤ w ∧ w ≤ 6) (hh : 2 ≤ h ∧ h ≤ 6) {u : Int64} (hu : sp_M W H wr s K u) : ∀ n, w * h ≤ n → kb u n = false := by
  obtain ⟨t, -, -, m, -, rfl⟩ := hu
  unfold sp_u
  exact mv_on hW hH hw hh 16 0 0 (fun n _ => kb_0 n)
end
/-- the reference's world, by the class's rows -/
def rf_n (I : Nat → Nat → Int32) : Nat := (I 35 3).toInt.toNat
def rf_f (J : Nat → Nat → Int64) (s a : Nat) : Int64 := J 4 (288 * s + a)
def rf_g (I : Nat → Nat → Int32) (J : Nat → Nat → Int64) (s a : Nat) : Int64 := ab_F (I 35 0) (I 35 1) (I 35 2) (I 35 6) (rf_f J s a)
section
variable {N : Nat} {X : ez_X} {I : Nat → Nat → Int32} {J : Nat → Nat → Int64} {R : Nat → Nat} {T : List ez_C}
theorem rf_ns (hB : cx_hB cx_B0 I) : I 35 3 = Int32.ofNat (rf_n I) ∧ rf_n I ≤ 3 := by
  have h := (b_sh hB).2
  exact ⟨io_nat h.1, by unfold rf_n; omega⟩
theorem sb_is (hr : rl I J) (hm : mk I J) (hB : cx_hB cx_B0 I) {s a : Nat} (hs : s < rf_n I) (ha : a < in_n I s) : sb I J s a = rf_g I J s a ∧ se I J s a = rf_f J s a := by
  obtain ⟨e35, hns⟩ := rf_ns hB
  obtain ⟨k3, k4, k5, k33⟩ := km_0 hr.1
  have k20 : I 2 0 = I 35 6 := congrArg (fun K => kt_t K) hr.1
  have h33 : I 3 3 = Int32.ofNat (rf_n I) := by rw [k33]; exact e35
  obtain ⟨f1, f2, sh, tn, -, -, -, f5⟩ := fi_n hr (s := s) (by rw [h33, io_ti (by omega)]; omega)
  have es : se I J s a = rf_f J s a := cl_in h33 hs hns (by omega)
  refine ⟨?_, es⟩
  have hW := hB 35 0
  have hH := hB 35 1
  have hwr := hB 35 2
  have ht := hB 35 6
  rw [show cx_B0 35 0 = (2, 6) from rfl] at hW
  rw [show cx_B0 35 1 = (2, 6) from rfl] at hH
  rw [show cx_B0 35 2 = (0, 1) from rfl] at hwr
  rw [show cx_B0 35 6 = (0, 2) from rfl] at ht
  simp only at hW hH hwr ht
  have eW := io_nat (x := I 35 0) (by omega)
  have eH := io_nat (x := I 35 1) (by omega)
  have ewr := io_nat hwr.1
  have et := io_nat ht.1
  have hin : inrow (fun k => J 4 (288 * s + k)) 0 (in_n I s) (rf_f J s a) := ⟨a, ha, by show J 4 (288 * s + (0 + a)) = _; rw [Nat.zero_add]; rfl⟩
  have hon := sp_on (w := (I 35 0).toInt.toNat) (h := (I 35 1).toInt.toNat) eW eH (by omega) (by omega) ((f5 _).mp hin)
  have h1 := ar_ab (W := (I 35 0).toInt.toNat) (H := (I 35 1).toInt.toNat) (wr := (I 35 2).toInt.toNat) (t := (I 35 6).toInt.toNat) (by omega) (by omega) (by omega) (by omega) hon
  rw [← eW, ← eH, ← ewr, ← et] at h1
  unfold sb rf_g
  rw [es, ← h1]
  unfold arI ar_paper
  obtain ⟨m6, m7, m8, m9⟩ := hm
  rw [m7, m8, m9, m6, k3, k4, k5, k20]
theorem sn_is (hr : rl I J) (hB : cx_hB cx_B0 I) (s : Nat) (hs3 : s < 3) : sn I s = mm (in_n I) (rf_n I) s := by
  obtain ⟨e35, hns⟩ := rf_ns hB
  have h33 : I 3 3 = Int32.ofNat (rf_n I) := by rw [(km_0 hr.1).2.2.2]; exact e35
  unfold sn mm
  split
  · rename_i hs
    rw [sz_in h33 hs hns]
    rfl
  · rename_i hs
    unfold sz_F
    rw [h33, if_pos ((io_le (by omega) (by omega)).mpr (by omega))]
    rfl
theorem ls_is (hr : rl I J) (hm : mk I J) (hB : cx_hB cx_B0 I) : ls I J = lm_L (rf_n I) (in_n I) (rf_f J) (rf_g I J) := by
  obtain ⟨e35, hns⟩ := rf_ns hB
  have h33 : I 3 3 = Int32.ofNat (rf_n I) := by rw [(km_0 hr.1).2.2.2]; exact e35
  have n0 : ∀ {s a : Nat}, rf_n I ≤ s → s < 3 → se I J s a = 0 := fun h1 h2 => by
    unfold se cl_F
    rw [h33, if_pos ((io_le (by omega) (by omega)).mpr h1)]
  have hm0 : ∀ {s a : Nat}, s < rf_n I → a < mm (in_n I) (rf_n I) s → a < in_n I s := fun h1 h2 => by
    unfold mm at h2
    rw [if_pos h1] at h2
    exact h2
  unfold ls se_L lm_L
  rw [sn_is hr hB 0 (by decide), sn_is hr hB 1 (by decide), sn_is hr hB 2 (by decide)]
  refine ly_1c _ (fun a b ha hb => ?_) (fun a b c ha hb hc => ?_)
  · unfold ly_p lm_p
    by_cases h2 : rf_n I < 2
    · rw [n0 (s := 1) (by omega) (by decide), decide_eq_true (Or.inl h2)]
      refine decide_eq_true ?_
      rw [and_c]
      exact and_0 _
    · rw [(sb_is hr hm hB (s := 0) (by omega) (hm0 (by omega) ha)).1, (sb_is hr hm hB (s := 1) (by omega) (hm0 (by omega) hb)).2, and_c]
      refine decide_eq_decide.mpr ⟨Or.inr, fun o => o.elim (fun h => absurd h h2) id⟩
  · unfold ly_q lm_q
    by_cases h3 : rf_n I < 3
    · rw [n0 (s := 2) (by omega) (by decide), decide_eq_true (Or.inl h3)]
      refine decide_eq_true ?_
      rw [and_c]
      exact and_0 _
    · rw [(sb_is hr hm hB (s := 0) (by omega) (hm0 (by omega) ha)).1, (sb_is hr hm hB (s := 1) (by omega) (hm0 (by omega) hb)).1, (sb_is hr hm hB (s := 2) (by omega) (hm0 (by omega) hc)).2, and_or2]
      exact decide_eq_decide.mpr ⟨fun h => Or.inr ((or_0 _ _).mp h), fun o => o.elim (fun h => absurd h h3) (or_0 _ _).mpr⟩
/-- the reference lays the same -/
theorem pe_laid (hr : rl I J) (hB : cx_hB cx_B0 I) (N : Nat) : pe N X 167 [.ref 35] (ev_hp I J R T) (al_Q I J R T (rf_n I) (in_n I) (rf_f J) (rf_g I J)) := by
  obtain ⟨e35, hns⟩ := rf_ns hB
  have h33 : I 3 3 = Int32.ofNat (rf_n I) := by rw [(km_0 hr.1).2.2.2]; exact e35
  have hs : ∀ s, s < rf_n I → s < (I 3 3).toInt.toNat := fun s h => by rw [h33, io_ti (by omega)]; omega
  exact pe_areLaid hB hns e35 (fun s h => (fi_n hr (hs s h)).2.1) (fun s h => (fi_n hr (hs s h)).2.2) (fun s a _ _ => rfl) N
theorem pr_is (hr : rl I J) (hB : cx_hB cx_B0 I) : sn I 0 * (sn I 1 * sn I 2) = pr (in_n I) (rf_n I) := by
  rw [sn_is hr hB 0 (by decide), sn_is hr hB 1 (by decide), sn_is hr hB 2 (by decide)]
  exact pr_mm _ (rf_ns hB).2
end
