/-! The class: the answers of stray, blame, blamed. -/
theorem fz_is {z : Int64} {p : Nat → Bool} {n : Nat} (h1 : ∀ c, c < n → kb z (2 * c) = p c) (h2 : ∀ i, kb z i = true → i % 2 = 0 ∧ i / 2 < n) : (ff p n < n → kb z (2 * ff p n) = true ∧ ∀ i, i < 2 * ff p n → kb z i = false) ∧ (¬ ff p n < n → z = 0) := by
  obtain ⟨f1, f2, f3⟩ := ff_is p n
  refine ⟨fun h => ⟨by rw [h1 _ h]; exact f3 h, fun i hi => ?_⟩, fun h => kb_ext fun i _ => ?_⟩
  · cases hb : kb z i
    · rfl
    · obtain ⟨e1, e2⟩ := h2 i hb
      have h3 := h1 (i / 2) e2
      rw [show 2 * (i / 2) = i by omega, hb, f2 (i / 2) (by omega)] at h3
      cases h3
  · rw [kb_0]
    cases hb : kb z i
    · rfl
    · obtain ⟨e1, e2⟩ := h2 i hb
      have h3 := h1 (i / 2) e2
      rw [show 2 * (i / 2) = i by omega, hb, f2 (i / 2) (by omega)] at h3
      cases h3
def fsV (q m l : Nat) (f : Nat → Nat) : Int32 := if l = 0 then (if q < m then Int32.ofNat q else -1) else if mxF f l < m then Int32.ofNat (mxF f l) else -1
section
variable {N : Nat} {X : ez_X} {I : Nat → Nat → Int32} {J : Nat → Nat → Int64} {R : Nat → Nat} {T : List ez_C} {x : Int32} {g : Nat → Int64} {n l : Nat} {h0 : ez_H}
theorem pe_firstStray {f : Nat → Nat} {q m : Nat} (r1 : rowJ (R 1) T n g) (hl : l ≤ n) (hn : n ≤ 10000) (e63 : I 6 3 = Int32.ofNat l) (hm : m ≤ 30) (hf : ∀ k, k < l → (f k < m → kb (wrB (J 8 2) (J 8 3) (g k)) (2 * f k) = true ∧ ∀ i, i < 2 * f k → kb (wrB (J 8 2) (J 8 3) (g k)) i = false) ∧ (¬ f k < m → wrB (J 8 2) (J 8 3) (g k) = 0)) (hq : (q < m → kb (J 8 3) (2 * q) = true ∧ ∀ i, i < 2 * q → kb (J 8 3) i = false) ∧ (¬ q < m → J 8 3 = 0)) : pe N X 98 [.ref 31] (ev_hp I J R T) (fun r h => r = some (.int (fsV q m l f)) ∧ h = ev_hp I J R T) := by
  have nz : ∀ {z : Int64} {j : Nat}, kb z j = true → ¬ lg_cmp z 0 = 0 := fun {z j} hk hz => by
    rw [(lg_eq _ _).mp hz, kb_0] at hk
    cases hk
  have loop : ∀ (d k : Nat), k + d = l → 0 < l → (∀ j, j < k → f j < m) → ∀ N, pw N X 98 43 [.ref 31, .int (Int32.ofNat l), .int (if k = 0 then -1 else Int32.ofNat (mxF f k)), .int (Int32.ofNat k)] [] (ev_hp I J R T) (fun r h => r = some (.int (fsV q m l f)) ∧ h = ev_hp I J R T) := by
    intro d
    induction d with
    | zero =>
      intro k hk hl0 hj N
      obtain rfl : k = l := by omega
      refine pw_p (fs_43 ⟨fun _ => ⟨?_, rfl⟩, fun g => absurd (Int32.le_refl _) g⟩)
      have h1 := (mxF_is f k).2 (m - 1) fun j hjk => by have := hj j hjk; omega
      have h2 := hj 0 hl0
      unfold fsV
      rw [if_neg (by omega), if_neg (by omega), if_pos (by omega)]
    | succ d ih =>
      intro k hkd hl0 hj N
      have hk : k < l := by omega
      obtain ⟨f1, f2⟩ := hf k hk
      refine pw_p (fs_43 ⟨fun g => ?_, fun _ => ⟨_, pe_wrongs r1 hn (by omega) rfl, ?_⟩⟩)
      · rw [io_le (by omega) (by omega)] at g
        omega
      rintro r h ⟨rfl, rfl⟩
      by_cases hfk : f k < m
      · obtain ⟨b1, b2⟩ := f1 hfk
        refine pw_p (fs_56 ⟨fun _ => ⟨_, pe_firstCall b1 b2 (by omega), ?_⟩, fun z => absurd (Classical.not_not.mp z) (nz b1)⟩)
        rintro r h ⟨rfl, rfl⟩
        refine pw_p (fs_73 ?_)
        have h5 := ih (k + 1) (by omega) hl0 (fun j hjk => by
          by_cases e : j = k
          · rw [e]
            exact hfk
          · exact hj j (by omega)) N
        have e : mxF f (k + 1) = if mxF f k < f k then f k else mxF f k := rfl
        rw [if_neg (by omega), e] at h5
        rw [io_1]
        by_cases hk0 : k = 0
        · subst hk0
          have e0 : mxF f 0 = 0 := rfl
          have e1 : (if mxF f 0 < f 0 then f 0 else mxF f 0) = f 0 := by
            rw [e0]
            split <;> omega
          rw [e1] at h5
          rw [if_pos rfl, if_pos (by
            rw [Int32.lt_iff_toInt_lt, io_ti (by omega), show ((-1 : Int32)).toInt = -1 from by decide]
            omega)]
          exact h5
        · rw [if_neg hk0]
          have hmx := (mxF_is f k).2 (m - 1) fun j hjk => by have := hj j hjk; omega
          by_cases hlt : mxF f k < f k
          · rw [if_pos hlt] at h5
            rw [if_pos ((io_lt (by omega) (by omega)).mpr hlt)]
            exact h5
          · rw [if_neg hlt] at h5
            rw [if_neg (fun z => hlt ((io_lt (by omega) (by omega)).mp z))]
            exact h5
      · have hz := f2 hfk
        refine pw_p (fs_56 ⟨fun z => absurd ((lg_eq _ _).mpr hz) z, fun _ => ⟨?_, rfl⟩⟩)
        have h1 := (mxF_is f l).1 k hk
        unfold fsV
        rw [if_neg (by omega), if_neg (by omega)]
  refine pe_of (pw_p (fs_0 ?_))
  rw [e63]
  have hl2 : (Int32.ofNat l = 0) ↔ l = 0 := by
    rw [show (0 : Int32) = Int32.ofNat 0 from rfl, io_eq (by omega) (by omega)]
  refine ⟨fun g => ?_, fun g => ?_⟩
  · exact loop l 0 (by omega) (Nat.pos_of_ne_zero fun z => g (hl2.mpr z)) (fun j hj => absurd hj (by omega)) N
  · have hl0 := hl2.mp (Classical.not_not.mp g)
    by_cases hqm : q < m
    · obtain ⟨b1, b2⟩ := hq.1 hqm
      refine ⟨fun _ => ⟨_, pe_firstCall b1 b2 (by omega), ?_⟩, fun z => absurd (Classical.not_not.mp z) (nz b1)⟩
      rintro r h ⟨rfl, rfl⟩
      refine pw_p (fs_38 ⟨?_, rfl⟩)
      unfold fsV
      rw [if_pos hl0, if_pos hqm]
    · refine ⟨fun z => absurd ((lg_eq _ _).mpr (hq.2 hqm)) z, fun _ => ⟨?_, rfl⟩⟩
      unfold fsV
      rw [if_pos hl0, if_neg hqm]
/-- how many answers of laying k are wrong; the first -/
def wP (I : Nat → Nat → Int32) (J : Nat → Nat → Int64) (k : Nat) : Nat := cq (wc I J ((ls I J).getD k (0, 0, 0))) (nca I)
def wf (I : Nat → Nat → Int32) (J : Nat → Nat → Int64) (k : Nat) : Nat := ff (wc I J ((ls I J).getD k (0, 0, 0))) (nca I)
def tdF (I : Nat → Nat → Int32) : Nat := ff (fun c => decide (¬ I 44 c = -1)) (nca I)
/-- behind replay, what is asked of a laying -/
theorem rq_w (h : rl3 I J R T) (hB : cx_hB cx_B0 I) {A : Nat → Nat → Int32} {B : Nat → Nat → Int64} {k : Nat} (e8 : B 8 = J 8) (hk : k < (ls I J).length) {z : Int64} (hz : z = xz I J (ls I J)[k] (nca I)) : (∀ c, c < nca I → kb (wrB (B 8 2) (B 8 3) z) (2 * c) = wc I J ((ls I J).getD k (0, 0, 0)) c) ∧ (∀ i, kb (wrB (B 8 2) (B 8 3) z) i = true → i % 2 = 0 ∧ i / 2 < nca I) ∧ pcJ (wrB (B 8 2) (B 8 3) z) = wP I J k ∧ nca I ≤ 30 := by
  subst hz
  obtain ⟨W, HH, n0, hg, ek, -⟩ := gk_of h hB
  have hn30 : n0 ≤ 30 := by
    obtain ⟨-, -, -, -, -, -, -, -, -, z, -⟩ := hg
    exact z
  have enc : nca I = n0 := by
    unfold nca
    rw [ek, io_ti (by omega)]
    exact Int.toNat_natCast n0
  subst enc
  have hg0 := hg
  obtain ⟨e0, e1, hW, hH, -⟩ := hg0
  have hxt : ∀ c, c < nca I → xt I J (ls I J)[k] c ≤ 2 := fun c hc => xt_le hg (pk_ls h.1.1 hB (List.getElem_mem hk) e0 e1 hW hH) hc
  obtain ⟨w1, w2, w3⟩ := wr_bit h.2 hxt
  rw [e8]
  unfold wP
  rw [ly_gd hk]
  exact ⟨w1, w2, wr_pc h.2 hxt, w3⟩
theorem td_w (h : rl3 I J R T) : (tdF I < nca I → kb (J 8 3) (2 * tdF I) = true ∧ ∀ i, i < 2 * tdF I → kb (J 8 3) i = false) ∧ (¬ tdF I < nca I → J 8 3 = 0) := by
  obtain ⟨k, e81, hk, -, hr, hK, -⟩ := c3_of h.2
  have enc : nca I = k := by
    unfold nca
    rw [e81, io_ti (by omega)]
    exact Int.toNat_natCast k
  unfold tdF
  rw [enc]
  refine fz_is (fun c hc => ?_) hK
  obtain ⟨-, -, -, htd, -⟩ := hr c hc
  rw [← htd]
  unfold td_at
  cases kb (J 8 3) (2 * c)
  · exact (decide_eq_false fun z => z rfl).symm
  · refine (decide_eq_true ?_).symm
    show ¬ td_v _ _ = -1
    generalize kb (J 8 2) (2 * c) = a
    generalize kb (J 8 2) (2 * c + 1) = b
    cases a <;> cases b <;> decide
theorem wP_30 (hn : nca I ≤ 30) (k : Nat) : wP I J k ≤ 30 := Nat.le_trans (cq_le _ _) hn
theorem nca_30 (h : rl3 I J R T) : nca I ≤ 30 := by
  obtain ⟨k, e81, hk, -⟩ := c3_of h.2
  unfold nca
  rw [e81, io_ti (by omega), Int.toNat_natCast]
  exact hk
theorem F4_rep (hd : d4 I J R T) {A : Nat → Nat → Int32} {B : Nat → Nat → Int64} {R' : Nat → Nat} {T' : List ez_C} (hq : rq_Q I J (ls I J) (nca I) A B R' T') (q9 : A 13 9 = I 13 9) (q14 : A 14 = I 14) (q15 : A 15 = I 15) (q16 : A 16 = I 16) : F4 (ev_hp A B R' T') := ⟨A, B, R', T', rfl, rq_d4 hq fun z => tal_b rfl rfl rfl rfl (by rw [q14]) q15 q16 (hd.2.2 (q9.symm.trans z))⟩
def v_stray (I : Nat → Nat → Int32) (J : Nat → Nat → Int64) : Int32 := if sn I 0 * (sn I 1 * sn I 2) ≤ 10000 then fsV (tdF I) (nca I) (ls I J).length (wf I J) else -6
theorem pe_xstray (h : rl3 I J R T) (hd : d4 I J R T) (hh : cx_hok cx_B0 I R T) : pe N X 47 [.ref 0] (ev_hp I J R T) (fun r h => r = some (.int (v_stray I J)) ∧ F4 h) := by
  refine pe_of (pw_p (xo_stray ⟨_, pe_tm h.1.1 hh h.1.2, ?_⟩))
  rintro r h' (⟨h1, rfl, rfl⟩ | ⟨h1, rfl, h2⟩)
  · refine pw_p (st_4 ⟨fun z => absurd z (by decide), fun _ => ⟨?_, F4_tm hd⟩⟩)
    unfold v_stray
    rw [if_neg (by omega)]
  · have hl := fun N => pe_rep (X := X) h hd hh h2 N
    obtain ⟨f6, R6, T6, rfl, -⟩ := h2
    refine pw_p (st_4 ⟨fun _ => ⟨_, hl _, ?_⟩, fun z => absurd rfl z⟩)
    rintro r h' ⟨rfl, A, B, R', T', rfl, hq, q9, q14, q15, q16⟩
    have hF := F4_rep hd hq q9 q14 q15 q16
    obtain ⟨a1, a2, a3, a4, a5, a6, n, g1, g2, g3, r1, r2, r3, r4, r5, r6⟩ := hq
    have e8 : B 8 = J 8 := a4 8 (by decide) (by decide)
    refine pw_p (st_17 ⟨_, pe_firstStray (f := wf I J) (q := tdF I) (m := nca I) r1 r4 r5 a2 (nca_30 h) (fun k hk => ?_) ?_, ?_⟩)
    · obtain ⟨w1, w2, -⟩ := rq_w (A := A) h hh.1 e8 hk (r6 k hk).1
      exact fz_is w1 w2
    · rw [e8]
      exact td_w h
    · rintro r h' ⟨rfl, rfl⟩
      refine pw_p (st_24 ⟨?_, hF⟩)
      unfold v_stray
      rw [if_pos h1]
def v_blame (I : Nat → Nat → Int32) (J : Nat → Nat → Int64) : Int32 := if sn I 0 * (sn I 1 * sn I 2) ≤ 10000 then (if (ls I J).length = 0 then -1 else Int32.ofNat (lwF (wP I J) (ls I J).length)) else -6
theorem lwV_no {p : Nat → Nat} {l : Nat} (hl : l ≤ 10000) (hp : ∀ k, k < l → p k ≤ 30) : lwV p l = -1 ↔ l = 0 := by
  unfold lwV
  by_cases e : l = 0
  · rw [if_pos e]
    exact ⟨fun _ => e, fun _ => rfl⟩
  · rw [if_neg e]
    refine ⟨fun z => ?_, fun z => absurd z e⟩
    have h1 := (lwI_is l (by omega) hp).1
    have z2 := congrArg Int32.toInt z
    rw [io_ti (by omega), show ((-1 : Int32)).toInt = -1 from by decide] at z2
    omega
theorem pe_xblame (h : rl3 I J R T) (hd : d4 I J R T) (hh : cx_hok cx_B0 I R T) : pe N X 8 [.ref 0] (ev_hp I J R T) (fun r h => r = some (.int (v_blame I J)) ∧ F4 h) := by
  refine pe_of (pw_p (xo_blame ⟨_, pe_tm h.1.1 hh h.1.2, ?_⟩))
  rintro r h' (⟨h1, rfl, rfl⟩ | ⟨h1, rfl, h2⟩)
  · refine pw_p (bl_4 ⟨fun z => absurd z (by decide), fun _ => ⟨?_, F4_tm hd⟩⟩)
    unfold v_blame
    rw [if_neg (by omega)]
  · have hl := fun N => pe_rep (X := X) h hd hh h2 N
    obtain ⟨f6, R6, T6, rfl, -⟩ := h2
    refine pw_p (bl_4 ⟨fun _ => ⟨_, hl _, ?_⟩, fun z => absurd rfl z⟩)
    rintro r h' ⟨rfl, A, B, R', T', rfl, hq, q9, q14, q15, q16⟩
    have hF := F4_rep hd hq q9 q14 q15 q16
    obtain ⟨a1, a2, a3, a4, a5, a6, n, g1, g2, g3, r1, r2, r3, r4, r5, r6⟩ := hq
    have e8 : B 8 = J 8 := a4 8 (by decide) (by decide)
    have hp30 : ∀ k, k < (ls I J).length → wP I J k ≤ 30 := fun k _ => wP_30 (nca_30 h) k
    refine pw_p (bl_17 ⟨_, pe_leastWrong (p := wP I J) r1 r4 r5 a2 (fun k hk => (rq_w (A := A) h hh.1 e8 hk (r6 k hk).1).2.2.1) hp30, ?_⟩)
    rintro r h' ⟨rfl, rfl⟩
    have hno := lwV_no (p := wP I J) (l := (ls I J).length) (by omega) hp30
    refine pw_p (bl_24 ⟨fun g => ?_, fun g => ⟨?_, hF⟩⟩)
    · have hl0 : ¬ (ls I J).length = 0 := fun z => g (hno.mpr z)
      obtain ⟨i1, i2, -⟩ := lwI_is (p := wP I J) (ls I J).length (by omega) hp30
      refine ⟨_, pe_wrongs (k := lwI (wP I J) (ls I J).length) r1 r5 (by omega) (by unfold lwV; rw [if_neg hl0]), ?_⟩
      rintro r h' ⟨rfl, rfl⟩
      refine pw_p (bl_42 ⟨?_, hF⟩)
      unfold v_blame
      rw [if_pos h1, if_neg hl0, pcJ_bc, (rq_w (A := A) h hh.1 e8 i1 (r6 _ i1).1).2.2.1, i2]
    · unfold v_blame
      rw [if_pos h1, if_pos (hno.mp (Classical.not_not.mp g))]
theorem wq_c {w w' : Nat → Bool} : ∀ n, (∀ c, c < n → w c = w' c) → wqF w n = wqF w' n := by
  intro n
  induction n with
  | zero => intro _; rfl
  | succ n ih =>
    intro h
    unfold wqF
    rw [ih fun c hc => h c (by omega), h n (Nat.lt_succ_self n)]
theorem wq_pad {w : Nat → Bool} {n : Nat} (h : ∀ c, n ≤ c → w c = false) : ∀ d, wqF w (n + d) = wqF w n := by
  intro d
  induction d with
  | zero => rfl
  | succ d ih =>
    show (if w (n + d) = true then _ else wqF w (n + d)) = _
    rw [h (n + d) (by omega), if_neg (by decide), ih]
def v_blamed (I : Nat → Nat → Int32) (J : Nat → Nat → Int64) : Int32 := if sn I 0 * (sn I 1 * sn I 2) ≤ 10000 then (if (ls I J).length = 0 then 0 else wqF (wc I J ((ls I J).getD (lwI (wP I J) (ls I J).length) (0, 0, 0))) (nca I)) else -6
theorem pe_xblamed (h : rl3 I J R T) (hd : d4 I J R T) (hh : cx_hok cx_B0 I R T) : pe N X 9 [.ref 0] (ev_hp I J R T) (fun r h => r = some (.int (v_blamed I J)) ∧ F4 h) := by
  refine pe_of (pw_p (xo_blamed ⟨_, pe_tm h.1.1 hh h.1.2, ?_⟩))
  rintro r h' (⟨h1, rfl, rfl⟩ | ⟨h1, rfl, h2⟩)
  · refine pw_p (bd_4 ⟨fun z => absurd z (by decide), fun _ => ⟨?_, F4_tm hd⟩⟩)
    unfold v_blamed
    rw [if_neg (by omega)]
  · have hl := fun N => pe_rep (X := X) h hd hh h2 N
    obtain ⟨f6, R6, T6, rfl, -⟩ := h2
    refine pw_p (bd_4 ⟨fun _ => ⟨_, hl _, ?_⟩, fun z => absurd rfl z⟩)
    rintro r h' ⟨rfl, A, B, R', T', rfl, hq, q9, q14, q15, q16⟩
    have hF := F4_rep hd hq q9 q14 q15 q16
    obtain ⟨a1, a2, a3, a4, a5, a6, n, g1, g2, g3, r1, r2, r3, r4, r5, r6⟩ := hq
    have e8 : B 8 = J 8 := a4 8 (by decide) (by decide)
    have hp30 : ∀ k, k < (ls I J).length → wP I J k ≤ 30 := fun k _ => wP_30 (nca_30 h) k
    refine pw_p (bd_17 ⟨_, pe_leastWrong (p := wP I J) r1 r4 r5 a2 (fun k hk => (rq_w (A := A) h hh.1 e8 hk (r6 k hk).1).2.2.1) hp30, ?_⟩)
    rintro r h' ⟨rfl, rfl⟩
    have hno := lwV_no (p := wP I J) (l := (ls I J).length) (by omega) hp30
    refine pw_p (bd_24 ⟨fun g => ?_, fun g => ⟨?_, hF⟩⟩)
    · have hl0 : ¬ (ls I J).length = 0 := fun z => g (hno.mpr z)
      obtain ⟨i1, i2, -⟩ := lwI_is (p := wP I J) (ls I J).length (by omega) hp30
      refine ⟨_, pe_wrongCalls (k := lwI (wP I J) (ls I J).length) r1 r5 (by omega) (by unfold lwV; rw [if_neg hl0]), ?_⟩
      rintro r h' ⟨rfl, rfl⟩
      refine pw_p (bd_42 ⟨?_, hF⟩)
      obtain ⟨w1, w2, -, w4⟩ := rq_w (A := A) h hh.1 e8 i1 (r6 _ i1).1
      have hpad := wq_pad (w := fun c => kb (wrB (B 8 2) (B 8 3) (g1 (lwI (wP I J) (ls I J).length))) (2 * c)) (n := nca I) (fun c hc => by
        cases hb : kb (wrB (B 8 2) (B 8 3) (g1 (lwI (wP I J) (ls I J).length))) (2 * c)
        · rfl
        · have := (w2 _ hb).2
          omega) (30 - nca I)
      rw [show nca I + (30 - nca I) = 30 by omega] at hpad
      unfold v_blamed
      rw [if_pos h1, if_neg hl0, hpad]
      exact congrArg (fun q => some (Value.int q)) (wq_c _ w1)
    · unfold v_blamed
      rw [if_pos h1, if_pos (hno.mp (Classical.not_not.mp g))]
end
