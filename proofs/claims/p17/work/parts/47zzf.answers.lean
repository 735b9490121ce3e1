/-! The reference: the answers over those that are left. -/
theorem imx_i (a b : Int32) : (imx a b).toInt = max a.toInt b.toInt := by
  unfold imx
  split
  · rename_i h
    rw [Int32.lt_iff_toInt_lt] at h
    omega
  · rename_i h
    rw [Int32.lt_iff_toInt_lt] at h
    omega
theorem imx_3 {a b c v : Int32} (h : v.toInt = max a.toInt (max b.toInt c.toInt)) : v = imx a (imx b c) := Int32.toInt_inj.mp (by rw [imx_i, imx_i, h])
theorem io_subx (a b : Nat) : Int32.ofNat (a + b) - Int32.ofNat a = Int32.ofNat b := by
  rw [Nat.add_comm, Int32.ofNat_add, Int32.add_sub_cancel]
/-- what laying k would say of a cell -/
def anF (I : Nat → Nat → Int32) (J : Nat → Nat → Int64) (c k : Nat) : Nat := pl_a (I 2 1) (xq I J ((ls I J).getD k (0, 0, 0)) (nca I)).1 (xq I J ((ls I J).getD k (0, 0, 0)) (nca I)).2 (cell1 c)
def anR (I : Nat → Nat → Int32) (J : Nat → Nat → Int64) (c v k : Nat) : Bool := lkf I J k && decide (anF I J c k = v)
section
variable {N : Nat} {X : ez_X} {I A A' : Nat → Nat → Int32} {J B B' : Nat → Nat → Int64} {R R1 : Nat → Nat} {T T1 : List ez_C} {x y : Int32} {W HH n : Nat}
theorem an_of (h : rl3 I J R1 T1) (hB : cx_hB cx_B0 I) (hg : gk I J W HH (rf_n I) (nca I)) {c : Nat} (hc : c < 36) {k : Nat} (hk : k < (ls I J).length) : anF I J c k = (bif kb (xp I J ((ls I J).getD k (0, 0, 0)) (nca I)) c then (bif kb (xs I J ((ls I J).getD k (0, 0, 0)) (nca I)) c then 2 else 1) else 0) ∧ (kb (xs I J ((ls I J).getD k (0, 0, 0)) (nca I)) c = true → kb (xp I J ((ls I J).getD k (0, 0, 0)) (nca I)) c = true) := by
  have hpk := lq_pk h hB hg hk (nca I)
  rw [← ly_gd (d := (0, 0, 0)) hk] at hpk
  have ex : kb (xs I J ((ls I J).getD k (0, 0, 0)) (nca I)) c = (decide (I 2 1 = 1) && kb (skF (xq I J ((ls I J).getD k (0, 0, 0)) (nca I)).1 (xq I J ((ls I J).getD k (0, 0, 0)) (nca I)).2) c) := by
    unfold xs
    by_cases e : I 2 1 = 1
    · rw [if_pos e, decide_eq_true e, Bool.true_and]
    · rw [if_neg e, decide_eq_false e, kb_0]
      rfl
  refine ⟨?_, fun hx => ?_⟩
  · unfold anF
    rw [an_is (by omega) hpk.1 (fun s i => q_sub (nca I) s i), ex]
    rfl
  · rw [ex] at hx
    exact sk_sub (Bool.and_eq_true_iff.mp hx).2
/-- the three parts, as the class has them -/
theorem an_ip (h : rl3 I J R1 T1) (hB : cx_hB cx_B0 I) (hg : gk I J W HH (rf_n I) (nca I)) {c : Nat} (hc : c < 36) : Int32.ofNat (cq (anR I J c 0) (ls I J).length) = ipN I J c 0 ∧ Int32.ofNat (cq (anR I J c 1) (ls I J).length) = ipN I J c 1 ∧ Int32.ofNat (cq (anR I J c 2) (ls I J).length) = ipN I J c 2 := by
  have hk := fun k (hk : k < (ls I J).length) => an_of h hB hg hc hk
  have e0 : cq (anR I J c 0) (ls I J).length = cq (fun k => lkf I J k && !kb (xp I J ((ls I J).getD k (0, 0, 0)) (nca I)) c) (ls I J).length := cq_c _ fun k hkl => by
    unfold anR
    rw [(hk k hkl).1]
    cases kb (xp I J ((ls I J).getD k (0, 0, 0)) (nca I)) c <;> cases kb (xs I J ((ls I J).getD k (0, 0, 0)) (nca I)) c <;> rfl
  have e1 : cq (anR I J c 1) (ls I J).length = cq (fun k => (lkf I J k && kb (xp I J ((ls I J).getD k (0, 0, 0)) (nca I)) c) && !kb (xs I J ((ls I J).getD k (0, 0, 0)) (nca I)) c) (ls I J).length := cq_c _ fun k hkl => by
    unfold anR
    rw [(hk k hkl).1]
    cases lkf I J k <;> cases kb (xp I J ((ls I J).getD k (0, 0, 0)) (nca I)) c <;> cases kb (xs I J ((ls I J).getD k (0, 0, 0)) (nca I)) c <;> rfl
  have e2 : cq (anR I J c 2) (ls I J).length = tK I J c := cq_c _ fun k hkl => by
    have h2 := hk k hkl
    unfold anR
    rw [h2.1]
    cases hx : kb (xs I J ((ls I J).getD k (0, 0, 0)) (nca I)) c
    · cases lkf I J k <;> cases kb (xp I J ((ls I J).getD k (0, 0, 0)) (nca I)) c <;> rfl
    · rw [h2.2 hx]
      cases lkf I J k <;> rfl
  have e3 : cq (fun k => (lkf I J k && kb (xp I J ((ls I J).getD k (0, 0, 0)) (nca I)) c) && kb (xs I J ((ls I J).getD k (0, 0, 0)) (nca I)) c) (ls I J).length = tK I J c := cq_c _ fun k hkl => by
    have h2 := hk k hkl
    cases hx : kb (xs I J ((ls I J).getD k (0, 0, 0)) (nca I)) c
    · rw [Bool.and_false, Bool.and_false]
    · rw [h2.2 hx, Bool.and_true]
  have s1 : tN I J = tS I J c + cq (fun k => lkf I J k && !kb (xp I J ((ls I J).getD k (0, 0, 0)) (nca I)) c) (ls I J).length := cq_split (lkf I J) (fun k => kb (xp I J ((ls I J).getD k (0, 0, 0)) (nca I)) c) _
  have s2 : tS I J c = cq (fun k => (lkf I J k && kb (xp I J ((ls I J).getD k (0, 0, 0)) (nca I)) c) && kb (xs I J ((ls I J).getD k (0, 0, 0)) (nca I)) c) (ls I J).length + cq (fun k => (lkf I J k && kb (xp I J ((ls I J).getD k (0, 0, 0)) (nca I)) c) && !kb (xs I J ((ls I J).getD k (0, 0, 0)) (nca I)) c) (ls I J).length := cq_split (fun k => lkf I J k && kb (xp I J ((ls I J).getD k (0, 0, 0)) (nca I)) c) (fun k => kb (xs I J ((ls I J).getD k (0, 0, 0)) (nca I)) c) _
  rw [e3] at s2
  unfold ipN
  refine ⟨?_, ?_, ?_⟩
  · rw [if_pos rfl, e0, s1, io_subx]
  · rw [if_neg (by decide), if_pos rfl, e1, s2, io_subx]
  · rw [if_neg (by decide), if_neg (by decide), e2]
/-- behind greatest: the parts -/
def gr_Q (I : Nat → Nat → Int32) (J : Nat → Nat → Int64) (W HH c : Nat) (A : Nat → Nat → Int32) (R : Nat → Nat) (T : List ez_C) : pw_Q := fun r h => r = some (.int (gtN I J c)) ∧ ∃ F B', h = ev_hp (ev_sI A 53 F) B' R T ∧ F 0 = ipN I J c 0 ∧ F 1 = ipN I J c 1 ∧ F 2 = ipN I J c 2 ∧ rg I J W HH (nca I) (ev_sI A 53 F) B' ∧ lnt I J (ls I J).length (ev_sI A 53 F) B'
theorem pe_mgreat (h : rl3 I J R1 T1) (hB : cx_hB cx_B0 I) (hg : gk I J W HH (rf_n I) (nca I)) (hlen : (ls I J).length ≤ 10000) {c : Nat} (hx : x = Int32.ofNat c) (hc : c < 36) (hA : rg I J W HH (nca I) A B) (hL : lnt I J (ls I J).length A B) : pe N X 193 [.ref 35, .int x, .int (-1 : Int32)] (ev_hp A B R T) (gr_Q I J W HH c A R T) := by
  subst hx
  have hn3 := (rf_ns hB).2
  obtain ⟨i0, i1, i2⟩ := an_ip h hB hg hc
  have eR : ∀ v k, cq (anR I J c v) (k + 1) = cq (anR I J c v) k + (bif anR I J c v k then 1 else 0) := fun v k => rfl
  have eL : ∀ k, cq (lkf I J) (k + 1) = cq (lkf I J) k + (bif lkf I J k then 1 else 0) := fun k => rfl
  have loop : ∀ (d k : Nat), k + d = (ls I J).length → ∀ F B, rg I J W HH (nca I) (ev_sI A 53 F) B → lnt I J (ls I J).length (ev_sI A 53 F) B → (∀ v, v < 3 → F v = Int32.ofNat (cq (anR I J c v) k)) → ∀ N, pw N X 193 23 [.ref 35, .int (Int32.ofNat c), .int (-1 : Int32), .int (Int32.ofNat (cq (lkf I J) k))] [] (ev_hp (ev_sI A 53 F) B R T) (gr_Q I J W HH c A R T) := by
    intro d
    induction d with
    | zero =>
      intro k hk F B hA hL hF N
      obtain rfl : k = (ls I J).length := by omega
      have f0 := (hF 0 (by decide)).trans i0
      have f1 := (hF 1 (by decide)).trans i1
      have f2 := (hF 2 (by decide)).trans i2
      have fin : ∀ v : Int32, v.toInt = max (F 0).toInt (max (F 1).toInt (F 2).toInt) → gr_Q I J W HH c A R T (some (.int v)) (ev_hp (ev_sI A 53 F) B R T) := fun v hv => by
        rw [f0, f1, f2] at hv
        refine ⟨?_, F, B, rfl, f0, f1, f2, hA, hL⟩
        rw [imx_3 hv]
        rfl
      refine pw_p (gv_23 ?_)
      rw [cx_sI_s, show (0 : Int32).toNatClampNeg = 0 from rfl, show (1 : Int32).toNatClampNeg = 1 from rfl, show (2 : Int32).toNatClampNeg = 2 from rfl]
      refine ⟨fun _ _ _ => ⟨fun g _ _ => ⟨fun g2 => fin _ ?_, fun g2 _ => fin _ ?_⟩, fun g _ _ => ⟨fun g2 => fin _ ?_, fun g2 _ => fin _ ?_⟩⟩, fun g => ?_⟩
      · rw [Int32.le_iff_toInt_le] at g g2
        omega
      · rw [Int32.le_iff_toInt_le] at g g2
        omega
      · rw [Int32.le_iff_toInt_le] at g g2
        omega
      · rw [Int32.le_iff_toInt_le] at g g2
        omega
      · rw [hL.1] at g
        exact absurd (Int32.le_refl _) g
    | succ d ih =>
      intro k hkd F B hA hL hF N
      have hk : k < (ls I J).length := by omega
      cases hp : lkf I J k
      · have h6 := ih (k + 1) (by omega) F B hA hL (fun v hv => by
          rw [hF v hv, eR]
          unfold anR
          rw [hp]
          rfl) N
        rw [eL, hp] at h6
        exact h6
      · have hlt := cq_lt (p := lkf I J) hk hp
        have hll := cq_le (lkf I J) (ls I J).length
        refine pw_p (gv_23 ⟨fun g => ?_, fun _ => ⟨_, pe_use h hB hA hlen hL hk hp rfl, ?_⟩⟩)
        · rw [hL.1, io_le (by omega) (by omega)] at g
          omega
        rintro r h' ⟨rfl, G1, G2, rfl, hG⟩
        have hA2 : rg I J W HH (nca I) (ev_sI A 53 F) (ev_sJ (ev_sJ B 45 G1) 46 G2) := rg_c hA (fun _ _ _ _ _ => rfl) (fun _ _ => rfl) (fun a h5 h6 _ _ _ => by rw [cx_sJ_n _ _ h6, cx_sJ_n _ _ h5])
        have hpk := lq_pk h hB hg hk (nca I)
        have e35 : ev_sI A 53 F 35 7 = I 2 1 := by
          rw [← hA2.1.2.2.2.2.2.2.1, (bk_at hA2.2.1).2.2.2.2.1]
        refine pw_p (gv_36 ⟨_, pe_callCell (P := (xq I J (ls I J)[k] (nca I)).1) (H := (xq I J (ls I J)[k] (nca I)).2) (c := c) hA2.1.2.2.2.2.1 hn3 (fun s hs => ?_) hpk.2.2 hpk.1 rfl (by omega), ?_⟩)
        · rw [cx_sJ_n _ _ (show (45 : Nat) ≠ 46 by decide), cx_sJ_s, cx_sJ_s]
          exact hG s hs
        rintro r h' ⟨rfl, G, rfl, -⟩
        rw [e35, sJ2]
        have ea : pl_a (I 2 1) (xq I J (ls I J)[k] (nca I)).1 (xq I J (ls I J)[k] (nca I)).2 (cell1 c) = anF I J c k := by
          unfold anF
          rw [ly_gd hk]
        rw [ea]
        have ha2 : anF I J c k ≤ 2 := by
          rw [(an_of h hB hg hc hk).1]
          cases kb (xp I J ((ls I J).getD k (0, 0, 0)) (nca I)) c <;> cases kb (xs I J ((ls I J).getD k (0, 0, 0)) (nca I)) c <;> decide
        refine pw_p (gv_41 ?_)
        rw [io_cl (by omega), cx_sI_s, nd_sI2, io_1]
        intro _ _
        have h6 := ih (k + 1) (by omega) (upd F (anF I J c k) (F (anF I J c k) + 1)) (ev_sJ (ev_sJ B 45 G1) 46 G) (rg_c hA (fun a _ _ _ h5 => by rw [cx_sI_n _ _ h5, cx_sI_n _ _ h5]) (fun q _ => by rw [cx_sI_n _ _ (show (35 : Nat) ≠ 53 by decide), cx_sI_n _ _ (show (35 : Nat) ≠ 53 by decide)]) (fun a h5 h6 _ _ _ => by rw [cx_sJ_n _ _ h6, cx_sJ_n _ _ h5])) (lnt_c hL (by rw [cx_sI_n _ _ (show (35 : Nat) ≠ 53 by decide), cx_sI_n _ _ (show (35 : Nat) ≠ 53 by decide)]) (by rw [cx_sI_n _ _ (show (49 : Nat) ≠ 53 by decide), cx_sI_n _ _ (show (49 : Nat) ≠ 53 by decide)]) (by rw [cx_sJ_n _ _ (show (50 : Nat) ≠ 46 by decide), cx_sJ_n _ _ (show (50 : Nat) ≠ 45 by decide)]) (by rw [cx_sJ_n _ _ (show (51 : Nat) ≠ 46 by decide), cx_sJ_n _ _ (show (51 : Nat) ≠ 45 by decide)])) (fun v hv => by
          rw [eR]
          by_cases e : v = anF I J c k
          · subst e
            have er : anR I J c (anF I J c k) k = true := by
              unfold anR
              rw [hp, decide_eq_true rfl]
              rfl
            rw [upd_s, hF _ hv, er, io_1]
            rfl
          · have er : anR I J c v k = false := by
              unfold anR
              rw [decide_eq_false (fun z => e z.symm), Bool.and_false]
            rw [upd_n _ _ e, hF v hv, er]
            rfl) N
        rw [eL, hp] at h6
        exact h6
  refine pe_of (pw_p (gv_0 fun _ _ _ => ?_))
  rw [nd_sI2, nd_sI2]
  exact loop (ls I J).length 0 (by omega) _ B (rg_c hA (fun a _ _ _ h5 => cx_sI_n _ _ h5) (fun q _ => by rw [cx_sI_n _ _ (show (35 : Nat) ≠ 53 by decide)]) (fun _ _ _ _ _ _ => rfl)) (lnt_c hL (by rw [cx_sI_n _ _ (show (35 : Nat) ≠ 53 by decide)]) (by rw [cx_sI_n _ _ (show (49 : Nat) ≠ 53 by decide)]) rfl rfl) (fun v hv => by
    rcases (show v = 0 ∨ v = 1 ∨ v = 2 by omega) with rfl | rfl | rfl <;> rfl) _
/-! the calls, by the reference -/
theorem cells_is (h : rl3 I J R1 T1) : I 1 6 = I 35 0 * I 35 1 := by
  obtain ⟨a0, a1, -, -⟩ := km_0 h.1.1.1
  rw [h.1.2.1.1, a0, a1]
theorem pe_mleft (h : rl3 I J R T) (hB : cx_hB cx_B0 I) : pe N X 207 [.ref 35] (ev_hp I J R T) (fun r _ => r = some (.int (v_left I J))) := by
  refine pe_of (pw_p (ml_0 ⟨_, pe_findLeft h hB _, ?_⟩))
  rintro r h' ⟨A, B, rfl, ⟨h1, rfl⟩ | ⟨h1, hlen, rfl, W, HH, hg, hA, hL⟩⟩
  · refine pw_p (ml_4 ⟨fun _ => ?_, fun z => absurd rfl z⟩)
    unfold v_left
    rw [if_neg h1]
  · refine pw_p (ml_4 ⟨fun z => absurd z (by decide), fun _ => ?_⟩)
    unfold v_left
    rw [if_pos h1, hL.1]
    rfl
theorem wF_at {p : Nat → Bool} {i : Nat} : ∀ m, m < 2147483648 → (∃ k, k < m ∧ p k = true ∧ cq p k = i ∧ wF p i m = Int32.ofNat k) ∨ (cq p m ≤ i ∧ wF p i m = -1) := by
  intro m
  induction m with
  | zero => exact fun _ => Or.inr ⟨Nat.zero_le _, rfl⟩
  | succ m ih =>
    intro hm
    have e : cq p (m + 1) = cq p m + (bif p m then 1 else 0) := rfl
    rcases ih (by omega) with ⟨k, h1, h2, h3, h4⟩ | ⟨h1, h2⟩
    · refine Or.inl ⟨k, by omega, h2, h3, ?_⟩
      have hno : ∀ j, j < k → p j = true → cq p j ≠ i := fun j hj hpj z => by
        have := cq_lt hj hpj
        omega
      have := wF_hit h2 h3 hno (by omega) (m - k)
      rw [show k + 1 + (m - k) = m + 1 by omega] at this
      exact this
    · by_cases hc : p m = true ∧ cq p m = i
      · refine Or.inl ⟨m, Nat.lt_succ_self m, hc.1, hc.2, ?_⟩
        show (if wF p i m = -1 then (if p m = true ∧ cq p m = i then Int32.ofNat m else -1) else wF p i m) = _
        rw [h2, if_pos rfl, if_pos hc]
      · refine Or.inr ⟨?_, ?_⟩
        · rw [e]
          cases hpm : p m
          · exact h1
          · have : cq p m ≠ i := fun z => hc ⟨hpm, z⟩
            show cq p m + 1 ≤ i
            omega
        · show (if wF p i m = -1 then (if p m = true ∧ cq p m = i then Int32.ofNat m else -1) else wF p i m) = _
          rw [h2, if_pos rfl, if_neg hc]
theorem pe_mwhich (h : rl3 I J R T) (hB : cx_hB cx_B0 I) : pe N X 232 [.ref 35, .int x] (ev_hp I J R T) (fun r _ => r = some (.int (v_which I J x))) := by
  refine pe_of (pw_p (mh_0 ⟨fun hx => ⟨_, pe_findLeft h hB _, ?_⟩, fun hx => ?_⟩))
  · rintro r h' ⟨A, B, rfl, ⟨h1, rfl⟩ | ⟨h1, hlen, rfl, W, HH, hg, hA, hL⟩⟩
    · refine pw_p (mh_11 ⟨fun z => absurd rfl z, fun _ => ?_⟩)
      unfold v_which
      rw [if_pos hx, if_neg h1]
    · have hx0 : 0 ≤ x.toInt := by
        rw [Int32.le_iff_toInt_le, show (0 : Int32).toInt = 0 from by decide] at hx
        exact hx
      have hxl := Int32.toInt_lt x
      have ex := io_nat hx0
      have hll := cq_le (lkf I J) (ls I J).length
      have hw := wF_at (p := lkf I J) (i := x.toInt.toNat) (ls I J).length (by omega)
      have hv : v_which I J x = wF (lkf I J) x.toInt.toNat (ls I J).length := by
        unfold v_which
        rw [if_pos hx, if_pos h1]
      refine pw_p (mh_11 ⟨fun _ => ⟨fun g => ?_, fun g _ => ?_⟩, fun z => absurd (by decide) z⟩)
      · rw [hL.1, ex, io_le (by omega) (by omega)] at g
        rcases hw with ⟨k, k1, k2, k3, -⟩ | ⟨-, k4⟩
        · have := cq_lt k1 k2
          omega
        · rw [hv, k4]
      · rw [hL.1, ex, io_le (by omega) (by omega)] at g
        rcases hw with ⟨k, k1, k2, k3, k4⟩ | ⟨k3, -⟩
        · rw [hv, k4, show x.toNatClampNeg = cq (lkf I J) k from by rw [k3]; rfl, (hL.2 k k1 k2).1]
        · omega
  · unfold v_which
    rw [if_neg hx]
theorem pe_mthere (h : rl3 I J R T) (hB : cx_hB cx_B0 I) : pe N X 227 [.ref 35, .int x] (ev_hp I J R T) (fun r _ => r = some (.int (v_there I J x))) := by
  obtain ⟨m, en, -, hn⟩ := b_16 hB
  refine pe_of (pw_p (mz_0 ⟨fun hx => ⟨_, pe_findLeft h hB _, ?_⟩, fun hx => ?_⟩))
  · rw [il_0, ← cells_is h] at hx
    rintro r h' ⟨A, B, rfl, ⟨h1, rfl⟩ | ⟨h1, hlen, rfl, W, HH, hg, hA, hL⟩⟩
    · refine pw_p (mz_15 ⟨fun _ => ?_, fun z => absurd rfl z⟩)
      unfold v_there
      rw [if_neg hx, if_neg h1]
    · have hx2 := hx
      rw [en] at hx2
      obtain ⟨c, rfl, hc⟩ := wi_len (by omega) hx2
      refine pw_p (mz_15 ⟨fun z => absurd z (by decide), fun _ => ⟨_, pe_thereIn h hB hg hlen rfl (by omega) hA hL, ?_⟩⟩)
      rintro r h' ⟨rfl, B', rfl, -⟩
      refine pw_p (mz_23 ?_)
      unfold v_there
      rw [if_neg hx, if_pos h1, io_ti (by omega), Int.toNat_natCast]
  · rw [il_0, ← cells_is h] at hx
    unfold v_there
    rw [if_pos (Classical.not_not.mp hx)]
theorem pe_mpart (h : rl3 I J R T) (hB : cx_hB cx_B0 I) : pe N X 214 [.ref 35, .int x, .int y] (ev_hp I J R T) (fun r _ => r = some (.int (v_part I J x y))) := by
  obtain ⟨m, en, -, hn⟩ := b_16 hB
  refine pe_of (pw_p (mp_0 ⟨fun hx => ⟨fun hy => ⟨_, pe_findLeft h hB _, ?_⟩, fun hy => ?_⟩, fun hx => ?_⟩))
  · rw [il_0, ← cells_is h] at hx
    rw [il_02] at hy
    rintro r h' ⟨A, B, rfl, ⟨h1, rfl⟩ | ⟨h1, hlen, rfl, W, HH, hg, hA, hL⟩⟩
    · refine pw_p (mp_30 ⟨fun z => absurd rfl z, fun _ => ?_⟩)
      unfold v_part
      rw [if_neg hx, if_neg hy, if_neg h1]
    · have hx2 := hx
      rw [en] at hx2
      obtain ⟨c, rfl, hc⟩ := wi_len (by omega) hx2
      have hy2 := hy
      rw [show (2 : Int32) = Int32.ofNat 2 from rfl] at hy2
      obtain ⟨v, rfl, hv⟩ := wi_le (by decide) hy2
      refine pw_p (mp_30 ⟨fun _ => ⟨_, pe_mgreat h hB hg hlen rfl (by omega) hA hL, ?_⟩, fun z => absurd (by decide) z⟩)
      rintro r h' ⟨rfl, F, B', rfl, f0, f1, f2, -⟩
      refine pw_p (mp_42 fun _ => ?_)
      unfold v_part
      rw [if_neg hx, if_neg hy, if_pos h1, cx_sI_s, io_cl (by omega), io_ti (by omega), Int.toNat_natCast]
      rcases (show v = 0 ∨ v = 1 ∨ v = 2 by omega) with rfl | rfl | rfl
      · rw [f0]
        rfl
      · rw [f1]
        rfl
      · rw [f2]
        rfl
  · rw [il_0, ← cells_is h] at hx
    rw [il_02] at hy
    unfold v_part
    rw [if_neg hx, if_pos (Classical.not_not.mp hy)]
  · rw [il_0, ← cells_is h] at hx
    unfold v_part
    rw [if_pos (Classical.not_not.mp hx)]
theorem pe_msure (h : rl3 I J R T) (hB : cx_hB cx_B0 I) : pe N X 225 [.ref 35, .int x] (ev_hp I J R T) (fun r _ => r = some (.long (v_sure I J x))) := by
  obtain ⟨m, en, -, hn⟩ := b_16 hB
  refine pe_of (pw_p (mq_0 ⟨fun hx => ⟨_, pe_findLeft h hB _, ?_⟩, fun hx => ?_⟩))
  · rw [il_01] at hx
    rintro r h' ⟨A, B, rfl, ⟨h1, rfl⟩ | ⟨h1, hlen, rfl, W, HH, hg, hA, hL⟩⟩
    · refine pw_p (mq_18 ⟨fun z => absurd rfl z, fun _ => ?_⟩)
      unfold v_sure
      rw [if_neg hx, if_neg h1]
    · have hv : v_sure I J x = scF (fun c => decide (Int32.ofNat (tS I J c) = if x = 0 then Int32.ofNat (tN I J) else 0)) m := by
        unfold v_sure
        rw [if_neg hx, if_pos h1, en, io_ti (by omega), Int.toNat_natCast]
      have ec : ∀ A B, rg I J W HH (nca I) A B → A 35 0 * A 35 1 = Int32.ofNat m := fun A B hA => by
        rw [hA.2.2.2.2.2.2.2.2.1, hA.2.2.2.2.2.2.2.2.2, ← cells_is h, en]
      have loop : ∀ (d c : Nat), c + d = m → ∀ B, rg I J W HH (nca I) A B → lnt I J (ls I J).length A B → ∀ N, pw N X 225 30 [.ref 35, .int x, .long (scF (fun c => decide (Int32.ofNat (tS I J c) = if x = 0 then Int32.ofNat (tN I J) else 0)) c), ez_fill, .int (Int32.ofNat c)] [] (ev_hp A B R T) (fun r _ => r = some (.long (v_sure I J x))) := by
        intro d
        induction d with
        | zero =>
          intro c hc B hA hL N
          obtain rfl : c = m := by omega
          refine pw_p (mq_30 ⟨fun _ => by rw [hv], fun g => ?_⟩)
          rw [ec A B hA] at g
          exact absurd (Int32.le_refl _) g
        | succ d ih =>
          intro c hcd B hA hL N
          have e : scF (fun c => decide (Int32.ofNat (tS I J c) = if x = 0 then Int32.ofNat (tN I J) else 0)) (c + 1) = if decide (Int32.ofNat (tS I J c) = if x = 0 then Int32.ofNat (tN I J) else 0) = true then scF (fun c => decide (Int32.ofNat (tS I J c) = if x = 0 then Int32.ofNat (tN I J) else 0)) c ||| cell1 c else scF (fun c => decide (Int32.ofNat (tS I J c) = if x = 0 then Int32.ofNat (tN I J) else 0)) c := rfl
          refine pw_p (mq_30 ⟨fun g => ?_, fun _ => ⟨_, pe_thereIn h hB hg hlen rfl (by omega) hA hL, ?_⟩⟩)
          · rw [ec A B hA, io_le (by omega) (by omega)] at g
            omega
          rintro r h' ⟨rfl, B', rfl, hA', hL'⟩
          have h5 := ih (c + 1) (by omega) B' hA' hL' N
          rw [e] at h5
          refine pw_p (mq_46 ?_)
          rw [hL'.1, io_1, Int64.or_zero]
          refine ⟨fun gx => ⟨fun g => ?_, fun g => ?_⟩, fun gx => ⟨fun g => ?_, fun g => ?_⟩⟩
          · have hd : ¬ Int32.ofNat (tS I J c) = if x = 0 then Int32.ofNat (tN I J) else 0 := by rw [if_neg gx]; exact g
            rw [decide_eq_false hd, if_neg (by decide)] at h5
            exact h5
          · have hd : Int32.ofNat (tS I J c) = if x = 0 then Int32.ofNat (tN I J) else 0 := by rw [if_neg gx]; exact Classical.not_not.mp g
            rw [decide_eq_true hd, if_pos rfl] at h5
            exact h5
          · have hd : ¬ Int32.ofNat (tS I J c) = if x = 0 then Int32.ofNat (tN I J) else 0 := by rw [if_pos (Classical.not_not.mp gx)]; exact g
            rw [decide_eq_false hd, if_neg (by decide)] at h5
            exact h5
          · have hd : Int32.ofNat (tS I J c) = if x = 0 then Int32.ofNat (tN I J) else 0 := by rw [if_pos (Classical.not_not.mp gx)]; exact Classical.not_not.mp g
            rw [decide_eq_true hd, if_pos rfl] at h5
            exact h5
      refine pw_p (mq_18 ⟨fun _ => ?_, fun z => absurd (by decide) z⟩)
      exact loop m 0 (by omega) B hA hL _
  · rw [il_01] at hx
    unfold v_sure
    rw [if_pos (Classical.not_not.mp hx)]
theorem pe_mbest (h : rl3 I J R T) (hB : cx_hB cx_B0 I) : pe N X 169 [.ref 35, .int x] (ev_hp I J R T) (fun r _ => r = some (.int (v_best I J x))) := by
  obtain ⟨m, en, hm4, hn⟩ := b_16 hB
  refine pe_of (pw_p (mb_0 ⟨fun hx => ⟨_, pe_findLeft h hB _, ?_⟩, fun hx => ?_⟩))
  · rw [il_01] at hx
    rintro r h' ⟨A, B, rfl, ⟨h1, rfl⟩ | ⟨h1, hlen, rfl, W, HH, hg, hA, hL⟩⟩
    · refine pw_p (mb_17 ⟨fun z => absurd rfl z, fun _ => ?_⟩)
      unfold v_best
      rw [if_neg hx, if_neg h1]
    · have ec : ∀ A B, rg I J W HH (nca I) A B → A 35 0 * A 35 1 = Int32.ofNat m := fun A B hA => by
        rw [hA.2.2.2.2.2.2.2.2.1, hA.2.2.2.2.2.2.2.2.2, ← cells_is h, en]
      have loop : ∀ (d c : Nat), c + d = m → ¬ Int32.ofNat (tN I J) = 0 → 0 < c → ∀ F B, rg I J W HH (nca I) (ev_sI A 53 F) B → lnt I J (ls I J).length (ev_sI A 53 F) B → ∀ N, pw N X 169 44 [.ref 35, .int x, .int (Int32.ofNat (bF (gtN I J) c)), .int (gtN I J (bF (gtN I J) c)), .int (Int32.ofNat c)] [] (ev_hp (ev_sI A 53 F) B R T) (fun r _ => r = some (.int (v_best I J x))) := by
        intro d
        induction d with
        | zero =>
          intro c hc hz _ F B hA hL N
          obtain rfl : c = m := by omega
          refine pw_p (mb_44 ⟨fun _ => ⟨fun g => ?_, fun g => ?_⟩, fun g => ?_⟩)
          · unfold v_best
            rw [if_neg hx, if_pos h1, if_neg hz, if_neg g, en, io_ti (by omega), Int.toNat_natCast]
          · unfold v_best
            rw [if_neg hx, if_pos h1, if_neg hz, if_pos (Classical.not_not.mp g), en, io_ti (by omega), Int.toNat_natCast]
          · rw [ec _ B hA] at g
            exact absurd (Int32.le_refl _) g
        | succ d ih =>
          intro c hcd hz hc0 F B hA hL N
          have e : bF (gtN I J) (c + 1) = if gtN I J c < gtN I J (bF (gtN I J) c) then c else bF (gtN I J) c := rfl
          refine pw_p (mb_44 ⟨fun g => ?_, fun _ => ⟨_, pe_mgreat h hB hg hlen rfl (by omega) hA hL, ?_⟩⟩)
          · rw [ec _ B hA, io_le (by omega) (by omega)] at g
            omega
          rintro r h' ⟨rfl, F', B', rfl, -, -, -, hA', hL'⟩
          rw [nd_sI2] at hA' hL' ⊢
          have h5 := ih (c + 1) (by omega) hz (by omega) F' B' hA' hL' N
          rw [e] at h5
          refine pw_p (mb_60 ?_)
          rw [io_1]
          refine ⟨fun g => ⟨fun _ => ?_, fun g2 => absurd g g2⟩, fun g => ⟨fun g2 => absurd g2 g, fun _ => ?_⟩⟩
          · rw [if_neg (fun z => by
              rw [Int32.le_iff_toInt_le] at g
              rw [Int32.lt_iff_toInt_lt] at z
              omega)] at h5
            exact h5
          · rw [if_pos (by
              rw [Int32.le_iff_toInt_le] at g
              rw [Int32.lt_iff_toInt_lt]
              omega)] at h5
            exact h5
      refine pw_p (mb_17 ⟨fun _ => ⟨fun g => ⟨_, pe_mgreat (c := 0) h hB hg hlen rfl (by omega) hA hL, ?_⟩, fun g => ?_⟩, fun z => absurd (by decide) z⟩)
      · rw [hL.1] at g
        rintro r h' ⟨rfl, F, B', rfl, -, -, -, hA', hL'⟩
        refine pw_p (mb_40 ?_)
        have e1 : bF (gtN I J) 1 = 0 := by
          show (if gtN I J 0 < gtN I J 0 then 0 else 0) = 0
          split <;> rfl
        have h5 := loop (m - 1) 1 (by omega) g (by omega) F B' hA' hL' N
        rw [e1] at h5
        exact h5
      · rw [hL.1] at g
        unfold v_best
        rw [if_neg hx, if_pos h1, if_pos (show Int32.ofNat (tN I J) = 0 from Classical.not_not.mp g)]
  · rw [il_01] at hx
    unfold v_best
    rw [if_pos (Classical.not_not.mp hx)]
end
