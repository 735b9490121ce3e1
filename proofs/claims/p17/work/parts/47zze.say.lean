/-! The reference: what those that are left would say. -/
section
variable {N : Nat} {X : ez_X} {I A A' : Nat → Nat → Int32} {J B B' : Nat → Nat → Int64} {R R1 : Nat → Nat} {T T1 : List ez_C} {x y : Int32} {W HH n : Nat}
theorem pe_useLeft {i l : Nat} (e3 : A 35 3 = Int32.ofNat l) (hl : l ≤ 3) (hi : i ≤ 10000) (hx : x = Int32.ofNat i) : pe N X 231 [.ref 35, .int x] (ev_hp A B R T) (fun r h => r = none ∧ ∃ G1 G2, h = ev_hp A (ev_sJ (ev_sJ B 45 G1) 46 G2) R T ∧ ∀ s, s < l → G1 s = B 50 (3 * i + s) ∧ G2 s = B 51 (3 * i + s)) := by
  subst hx
  have loop : ∀ (d s : Nat), s + d = l → ∀ G1 G2, (∀ s', s' < s → G1 s' = B 50 (3 * i + s') ∧ G2 s' = B 51 (3 * i + s')) → ∀ N, pw N X 231 2 [.ref 35, .int (Int32.ofNat i), .int (Int32.ofNat s)] [] (ev_hp A (ev_sJ (ev_sJ B 45 G1) 46 G2) R T) (fun r h => r = none ∧ ∃ G1 G2, h = ev_hp A (ev_sJ (ev_sJ B 45 G1) 46 G2) R T ∧ ∀ s, s < l → G1 s = B 50 (3 * i + s) ∧ G2 s = B 51 (3 * i + s)) := by
    intro d
    induction d with
    | zero =>
      intro s hs G1 G2 hG N
      obtain rfl : s = l := by omega
      refine pw_p (uv_2 ⟨fun _ => ⟨rfl, G1, G2, rfl, hG⟩, fun g => ?_⟩)
      rw [e3] at g
      exact absurd (Int32.le_refl _) g
    | succ d ih =>
      intro s hsd G1 G2 hG N
      refine pw_p (uv_2 ?_)
      rw [e3, io_3, io_cl (by omega), io_cl (by omega), io_1, cx_sJ_n _ _ (show (50 : Nat) ≠ 46 by decide), cx_sJ_n _ _ (show (50 : Nat) ≠ 45 by decide), cx_sJ_n _ _ (show (51 : Nat) ≠ 46 by decide), cx_sJ_n _ _ (show (51 : Nat) ≠ 45 by decide), cx_sJ_n _ _ (show (45 : Nat) ≠ 46 by decide), cx_sJ_s, cx_sJ_s, sJ_sw (ev_sJ B 45 G1) G2 _ (show (46 : Nat) ≠ 45 by decide), sJ2, sJ2]
      refine ⟨fun g => ?_, fun _ _ _ _ _ => ih (s + 1) (by omega) _ _ (fun s' hs' => ?_) N⟩
      · rw [io_le (by omega) (by omega)] at g
        omega
      · by_cases e : s' = s
        · subst e
          rw [pv_s, pv_s]
          exact ⟨rfl, rfl⟩
        · rw [pv_n _ _ e, pv_n _ _ e]
          exact hG s' (by omega)
  refine pe_of (pw_p (uv_0 ?_))
  have h0 := loop l 0 (by omega) (B 45) (B 46) (fun s hs => absurd hs (by omega)) N
  rw [sJ_self, sJ_self] at h0
  exact h0
theorem lnt_c {k : Nat} (h : lnt I J k A B) (h24 : A' 35 24 = A 35 24) (h49 : A' 49 = A 49) (h50 : B' 50 = B 50) (h51 : B' 51 = B 51) : lnt I J k A' B' := by
  unfold lnt
  rw [h24, h49, h50, h51]
  exact h
/-- one that is left is taken up -/
theorem pe_use (h : rl3 I J R1 T1) (hB : cx_hB cx_B0 I) (hA : rg I J W HH n A B) (hlen : (ls I J).length ≤ 10000) (hL : lnt I J (ls I J).length A B) {k : Nat} (hk : k < (ls I J).length) (hp : lkf I J k = true) (hx : x = Int32.ofNat (cq (lkf I J) k)) : pe N X 231 [.ref 35, .int x] (ev_hp A B R T) (fun r h => r = none ∧ ∃ G1 G2, h = ev_hp A (ev_sJ (ev_sJ B 45 G1) 46 G2) R T ∧ ∀ s, s < rf_n I → G1 s = (xq I J (ls I J)[k] (nca I)).1 s ∧ G2 s = (xq I J (ls I J)[k] (nca I)).2 s) := by
  have hle := cq_le (lkf I J) k
  have hn3 := (rf_ns hB).2
  refine pe_mono (pe_useLeft (l := rf_n I) hA.1.2.2.2.2.1 hn3 (by omega) hx) ?_
  rintro r h' ⟨rfl, G1, G2, rfl, hG⟩
  refine ⟨rfl, G1, G2, rfl, fun s hs => ?_⟩
  have h3 := (hL.2 k hk hp).2 s (by omega)
  rw [ly_gd hk] at h3
  rw [(hG s hs).1, (hG s hs).2]
  exact ⟨h3.1, h3.2 hs⟩
/-- what lies where a laying that was played has its ships -/
theorem lq_pk (h : rl3 I J R1 T1) (hB : cx_hB cx_B0 I) (hg : gk I J W HH (rf_n I) n) {k : Nat} (hk : k < (ls I J).length) (m : Nat) : pk (W * HH) (rf_n I) (xq I J (ls I J)[k] m).1 := by
  have hg0 := hg
  obtain ⟨e0, e1, hW, hH, -⟩ := hg0
  exact pk_q (gk_mv hg) (pk_ls h.1.1 hB (List.getElem_mem hk) e0 e1 hW hH) m
theorem xp_kb (t : ly_t) (m c : Nat) : kb (xp I J t m) c = ((kb ((xq I J t m).1 0) c || kb ((xq I J t m).1 1) c) || kb ((xq I J t m).1 2) c) := by
  show kb (((xq I J t m).1 0 ||| (xq I J t m).1 1) ||| (xq I J t m).1 2) c = _
  rw [kb_or, kb_or]
theorem xp_yes {t : ly_t} {m c s : Nat} (hs : s < 3) (h : kb ((xq I J t m).1 s) c = true) : kb (xp I J t m) c = true := by
  rw [xp_kb]
  rcases (show s = 0 ∨ s = 1 ∨ s = 2 by omega) with rfl | rfl | rfl <;> rw [h] <;> simp
theorem xp_no {t : ly_t} {m c : Nat} (h : ∀ s, s < 3 → kb ((xq I J t m).1 s) c = false) : kb (xp I J t m) c = false := by
  rw [xp_kb, h 0 (by decide), h 1 (by decide), h 2 (by decide)]
  rfl
theorem pe_thereIn (h : rl3 I J R1 T1) (hB : cx_hB cx_B0 I) (hg : gk I J W HH (rf_n I) (nca I)) (hlen : (ls I J).length ≤ 10000) {c : Nat} (hx : x = Int32.ofNat c) (hc : c < 36) (hA : rg I J W HH (nca I) A B) (hL : lnt I J (ls I J).length A B) : pe N X 228 [.ref 35, .int x] (ev_hp A B R T) (fun r h => r = some (.int (Int32.ofNat (tS I J c))) ∧ ∃ B', h = ev_hp A B' R T ∧ rg I J W HH (nca I) A B' ∧ lnt I J (ls I J).length A B') := by
  subst hx
  have hn3 := (rf_ns hB).2
  have eS : ∀ k, k < (ls I J).length → cq (fun k => lkf I J k && kb (xp I J ((ls I J).getD k (0, 0, 0)) (nca I)) c) (k + 1) = cq (fun k => lkf I J k && kb (xp I J ((ls I J).getD k (0, 0, 0)) (nca I)) c) k + (bif lkf I J k && kb (xp I J ((ls I J).getD k (0, 0, 0)) (nca I)) c then 1 else 0) := fun k _ => rfl
  have eL : ∀ k, cq (lkf I J) (k + 1) = cq (lkf I J) k + (bif lkf I J k then 1 else 0) := fun k => rfl
  have loop : ∀ (d k : Nat), k + d = (ls I J).length → ∀ B, rg I J W HH (nca I) A B → lnt I J (ls I J).length A B → ∀ N, pw N X 228 4 [.ref 35, .int (Int32.ofNat c), .int (Int32.ofNat (cq (fun k => lkf I J k && kb (xp I J ((ls I J).getD k (0, 0, 0)) (nca I)) c) k)), .int (Int32.ofNat (cq (lkf I J) k))] [] (ev_hp A B R T) (fun r h => r = some (.int (Int32.ofNat (tS I J c))) ∧ ∃ B', h = ev_hp A B' R T ∧ rg I J W HH (nca I) A B' ∧ lnt I J (ls I J).length A B') := by
    intro d
    induction d with
    | zero =>
      intro k hk B hA hL N
      obtain rfl : k = (ls I J).length := by omega
      refine pw_p (tv_4 ⟨fun _ => ⟨rfl, B, rfl, hA, hL⟩, fun g => ?_⟩)
      rw [hL.1] at g
      exact absurd (Int32.le_refl _) g
    | succ d ih =>
      intro k hkd B hA hL N
      have hk : k < (ls I J).length := by omega
      have h5 := fun B' a b => ih (k + 1) (by omega) B' a b
      cases hp : lkf I J k
      · have h6 := h5 B hA hL N
        rw [eS k hk, eL, hp] at h6
        exact h6
      · have hlt := cq_lt (p := lkf I J) hk hp
        have hll := cq_le (lkf I J) (ls I J).length
        refine pw_p (tv_4 ⟨fun g => ?_, fun _ => ⟨_, pe_use h hB hA hlen hL hk hp rfl, ?_⟩⟩)
        · rw [hL.1, io_le (by omega) (by omega)] at g
          omega
        rintro r h' ⟨rfl, G1, G2, rfl, hG⟩
        have hA2 : rg I J W HH (nca I) A (ev_sJ (ev_sJ B 45 G1) 46 G2) := rg_c hA (fun _ _ _ _ _ => rfl) (fun _ _ => rfl) (fun a h5 h6 _ _ _ => by rw [cx_sJ_n _ _ h6, cx_sJ_n _ _ h5])
        have hL2 : lnt I J (ls I J).length A (ev_sJ (ev_sJ B 45 G1) 46 G2) := lnt_c hL rfl rfl (by rw [cx_sJ_n _ _ (show (50 : Nat) ≠ 46 by decide), cx_sJ_n _ _ (show (50 : Nat) ≠ 45 by decide)]) (by rw [cx_sJ_n _ _ (show (51 : Nat) ≠ 46 by decide), cx_sJ_n _ _ (show (51 : Nat) ≠ 45 by decide)])
        have c45 : ev_sJ (ev_sJ B 45 G1) 46 G2 45 = G1 := by rw [cx_sJ_n _ _ (by decide), cx_sJ_s]
        have hpk := lq_pk h hB hg hk (nca I)
        refine pw_p (tv_17 ⟨_, pe_shipAt (c := c) hA2.1.2.2.2.2.1 hn3 rfl (by omega), ?_⟩)
        rintro r h' ⟨rfl, ⟨rfl, g⟩ | ⟨s, hs, rfl, g⟩⟩
        · have hz : kb (xp I J ((ls I J).getD k (0, 0, 0)) (nca I)) c = false := by
            rw [ly_gd hk]
            refine xp_no fun s hs => ?_
            by_cases hsn : s < rf_n I
            · have := g s hsn
              rw [c45, (hG s hsn).1] at this
              exact this
            · rw [hpk.2.2 s (by omega) hs]
              exact kb_0 c
          refine pw_p (tv_23 ⟨fun z => absurd rfl z, fun _ => ?_⟩)
          have h6 := h5 _ hA2 hL2 N
          rw [eS k hk, eL, hp, hz] at h6
          rw [Int32.add_zero, io_1]
          exact h6
        · have hz : kb (xp I J ((ls I J).getD k (0, 0, 0)) (nca I)) c = true := by
            rw [ly_gd hk]
            refine xp_yes (s := s) (by omega) ?_
            rw [c45, (hG s hs).1] at g
            exact g
          refine pw_p (tv_23 ⟨fun _ => ?_, fun z => absurd (fun e => ?_) z⟩)
          · have h6 := h5 _ hA2 hL2 N
            rw [eS k hk, eL, hp, hz] at h6
            rw [io_1, io_1]
            exact h6
          · have e2 := congrArg Int32.toInt e
            rw [io_ti (by omega), show ((-1 : Int32)).toInt = -1 from by decide] at e2
            omega
  exact pe_of (pw_p (tv_0 (loop (ls I J).length 0 (by omega) B hA hL N)))
end
/-! what a call of one cell gets -/
theorem q_sub {sr : Int32} {dr : Bool} {mv : Int64 → Int64} {tg P0 : Nat → Int64} : ∀ c s i, kb ((pl_q sr dr mv tg P0 c).2 s) i = true → kb ((pl_q sr dr mv tg P0 c).1 s) i = true := by
  intro c
  induction c with
  | zero =>
    intro s i h
    rw [show (pl_q sr dr mv tg P0 0).2 s = 0 from rfl, kb_0] at h
    cases h
  | succ c ih =>
    intro s i h
    have hH : ∀ i, kb (pl_h (pl_q sr dr mv tg P0 c).1 (pl_q sr dr mv tg P0 c).2 (tg c) s) i = true → kb ((pl_q sr dr mv tg P0 c).1 s) i = true := fun i h => by
      unfold pl_h at h
      rw [kb_or, kb_and] at h
      rcases Bool.or_eq_true_iff.mp h with h | h
      · exact ih s i h
      · exact (Bool.and_eq_true_iff.mp h).1
    have h1 : kb (pl_h (pl_q sr dr mv tg P0 c).1 (pl_q sr dr mv tg P0 c).2 (tg c) s) i = true := h
    show kb (pl_f sr dr mv (pl_q sr dr mv tg P0 c).1 (pl_q sr dr mv tg P0 c).2 (tg c) s) i = true
    unfold pl_f
    cases dr && Nat.beq (pl_a sr (pl_q sr dr mv tg P0 c).1 (pl_q sr dr mv tg P0 c).2 (tg c)) 0
    · exact hH i h1
    · show kb (pl_m mv (pl_q sr dr mv tg P0 c).1 (pl_h (pl_q sr dr mv tg P0 c).1 (pl_q sr dr mv tg P0 c).2 (tg c)) s) i = true
      unfold pl_m
      cases pl_o (pl_x mv (pl_q sr dr mv tg P0 c).1 (pl_h (pl_q sr dr mv tg P0 c).1 (pl_q sr dr mv tg P0 c).2 (tg c)))
      · exact hH i h1
      · show kb (pl_x mv (pl_q sr dr mv tg P0 c).1 (pl_h (pl_q sr dr mv tg P0 c).1 (pl_q sr dr mv tg P0 c).2 (tg c)) s) i = true
        unfold pl_x
        by_cases e : pl_h (pl_q sr dr mv tg P0 c).1 (pl_q sr dr mv tg P0 c).2 (tg c) s = 0
        · rw [e, kb_0] at h1
          cases h1
        · rw [if_neg e]
          exact hH i h1
theorem cq_two {p : Nat → Bool} {a b m : Nat} (hab : a < b) (hbm : b < m) (ha : p a = true) (hb : p b = true) : 2 ≤ cq p m := by
  have h1 := cq_lt hab ha
  have h2 := cq_lt hbm hb
  omega
theorem on1_kb {P H : Int64} {c : Nat} (hc : c < 64) (hs : ∀ i, kb H i = true → kb P i = true) (hp : kb P c = true) : kb (on1 (P &&& (H ^^^ (18446744073709551615 : Int64)))) c = (!kb H c && decide (H ||| cell1 c = P)) := by
  have hz : ∀ i, i < 64 → kb (P &&& (H ^^^ (18446744073709551615 : Int64))) i = (kb P i && !kb H i) := fun i hi => by
    rw [kb_and, show (18446744073709551615 : Int64) = -1 from by decide, kb_not H hi]
  have hzc := hz c hc
  cases hh : kb H c
  · rw [hp, hh] at hzc
    have hzc : kb (P &&& (H ^^^ (18446744073709551615 : Int64))) c = true := hzc
    by_cases e : H ||| cell1 c = P
    · rw [decide_eq_true e]
      have ez : P &&& (H ^^^ (18446744073709551615 : Int64)) = cell1 c := kb_ext fun i hi => by
        rw [hz i hi, ← e, kb_or]
        unfold cell1
        rw [kb_one hc]
        by_cases ei : i = c
        · rw [ei, hh, decide_eq_true rfl]
          rfl
        · rw [decide_eq_false ei, Bool.or_false]
          cases kb H i <;> rfl
      unfold on1
      rw [ez, pcJ_bc, pc_bt hc, if_pos (show Int32.ofNat 1 = 1 from rfl)]
      unfold cell1
      rw [kb_one hc, decide_eq_true rfl]
      rfl
    · rw [decide_eq_false e]
      have hne : pcJ (P &&& (H ^^^ (18446744073709551615 : Int64))) ≠ 1 := fun z => e (kb_ext fun i hi => by
        rw [kb_or]
        unfold cell1
        rw [kb_one hc]
        by_cases ei : i = c
        · rw [ei, hp, decide_eq_true rfl, Bool.or_true]
        · rw [decide_eq_false ei, Bool.or_false]
          cases hpi : kb P i
          · cases hhi : kb H i
            · rfl
            · rw [hs i hhi] at hpi
              cases hpi
          · cases hhi : kb H i
            · have h1 := hz i hi
              rw [hpi, hhi] at h1
              have h1 : kb (P &&& (H ^^^ (18446744073709551615 : Int64))) i = true := h1
              rw [pcJ_cq] at z
              rcases Nat.lt_or_gt_of_ne ei with hl | hl
              · have := cq_two hl hc h1 hzc
                omega
              · have := cq_two hl hi hzc h1
                omega
            · rfl)
      unfold on1
      rw [pcJ_bc, if_neg (fun z => hne (by
        have h64 := pcJ_le (P &&& (H ^^^ (18446744073709551615 : Int64)))
        rw [show (1 : Int32) = Int32.ofNat 1 from rfl, io_eq (by omega) (by omega)] at z
        exact z)), kb_0]
      rfl
  · rw [hp, hh] at hzc
    rw [on1_sub hzc]
    rfl
theorem an_is {sr : Int32} {P H : Nat → Int64} {c : Nat} (hc : c < 64) (hD : Dj P) (hs : ∀ s i, kb (H s) i = true → kb (P s) i = true) : pl_a sr P H (cell1 c) = (bif kb (pl_w P) c then (bif (decide (sr = 1) && kb (skF P H) c) then 2 else 1) else 0) := by
  have hw : kb (pl_w P) c = ((kb (P 0) c || kb (P 1) c) || kb (P 2) c) := by
    unfold pl_w
    rw [kb_or, kb_or]
  have hk : kb (skF P H) c = ((kb (on1 (P 0 &&& (H 0 ^^^ (18446744073709551615 : Int64)))) c || kb (on1 (P 1 &&& (H 1 ^^^ (18446744073709551615 : Int64)))) c) || kb (on1 (P 2 &&& (H 2 ^^^ (18446744073709551615 : Int64)))) c) := by
    unfold skF
    rw [kb_or, kb_or, kb_or, kb_0, Bool.false_or]
  by_cases h : ∃ s, s < 3 ∧ kb (P s) c = true
  · obtain ⟨s, hs3, h⟩ := h
    obtain ⟨h1, -, -⟩ := pl_one (sr := sr) (H := H) hc hs3 hD h
    have ho : ∀ s', s' < 3 → s' ≠ s → kb (P s') c = false ∧ kb (on1 (P s' &&& (H s' ^^^ (18446744073709551615 : Int64)))) c = false := fun s' h3 hne => by
      have hf := Dj_kb hD hs3 h3 (fun z => hne z.symm) h
      exact ⟨hf, on1_sub (by rw [kb_and, hf, Bool.false_and])⟩
    have hk1 := on1_kb hc (hs s) h
    rw [h1]
    have e1 : kb (pl_w P) c = true := by
      rw [hw]
      rcases (show s = 0 ∨ s = 1 ∨ s = 2 by omega) with rfl | rfl | rfl <;> rw [h] <;> simp
    have e2 : kb (skF P H) c = (!kb (H s) c && decide (H s ||| cell1 c = P s)) := by
      rw [hk, ← hk1]
      rcases (show s = 0 ∨ s = 1 ∨ s = 2 by omega) with rfl | rfl | rfl
      · rw [(ho 1 (by decide) (by decide)).2, (ho 2 (by decide) (by decide)).2, Bool.or_false, Bool.or_false]
      · rw [(ho 0 (by decide) (by decide)).2, (ho 2 (by decide) (by decide)).2, Bool.or_false, Bool.false_or]
      · rw [(ho 0 (by decide) (by decide)).2, (ho 1 (by decide) (by decide)).2, Bool.or_false, Bool.false_or]
    rw [e1, e2]
    rfl
  · have h0 : ∀ s, s < 3 → kb (P s) c = false := fun s hs => by
      cases hk : kb (P s) c
      · rfl
      · exact absurd ⟨s, hs, hk⟩ h
    rw [(pl_none (sr := sr) (H := H) hc h0).1, hw, h0 0 (by decide), h0 1 (by decide), h0 2 (by decide)]
    rfl
theorem sk_sub {P H : Nat → Int64} {c : Nat} (h : kb (skF P H) c = true) : kb (pl_w P) c = true := by
  cases hw : kb (pl_w P) c
  · unfold pl_w at hw
    rw [kb_or, kb_or] at hw
    have h2 := Bool.or_eq_false_iff.mp hw
    have h3 := Bool.or_eq_false_iff.mp h2.1
    have ho : ∀ s, kb (P s) c = false → kb (on1 (P s &&& (H s ^^^ (18446744073709551615 : Int64)))) c = false := fun s hf => on1_sub (by rw [kb_and, hf, Bool.false_and])
    unfold skF at h
    rw [kb_or, kb_or, kb_or, kb_0, ho 0 h3.1, ho 1 h3.2, ho 2 h2.2] at h
    cases h
  · rfl
theorem cq_split (p q : Nat → Bool) : ∀ m, cq p m = cq (fun i => p i && q i) m + cq (fun i => p i && !q i) m := by
  intro m
  induction m with
  | zero => rfl
  | succ m ih =>
    have e1 : cq p (m + 1) = cq p m + (bif p m then 1 else 0) := rfl
    have e2 : cq (fun i => p i && q i) (m + 1) = cq (fun i => p i && q i) m + (bif p m && q m then 1 else 0) := rfl
    have e3 : cq (fun i => p i && !q i) (m + 1) = cq (fun i => p i && !q i) m + (bif p m && !q m then 1 else 0) := rfl
    rw [e1, e2, e3, ih]
    cases p m <;> cases q m <;> simp <;> omega
