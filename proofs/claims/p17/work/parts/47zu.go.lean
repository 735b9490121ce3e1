/-! All calls, by the reference. -/
/-- one behind the other, none meets those ahead -/
def okn (n : Nat → Int64) (s : Nat) : Bool := fal (fun i => decide (or_n n i &&& n i = 0)) s
theorem okn_3 (n : Nat → Int64) : okn n 3 = pl_o n := by
  have e : okn n 3 = (((true && decide ((0 : Int64) &&& n 0 = 0)) && decide ((0 ||| n 0) &&& n 1 = 0)) && decide (((0 ||| n 0) ||| n 1) &&& n 2 = 0)) := rfl
  rw [e, Int64.zero_or]
  unfold pl_o
  rw [show decide ((0 : Int64) &&& n 0 = 0) = true from decide_eq_true (by rw [and_c]; exact and_0 _), Bool.true_and, Bool.true_and]
  rw [show decide ((n 0 ||| n 1) &&& n 2 = 0) = (decide (n 0 &&& n 2 = 0) && decide (n 1 &&& n 2 = 0)) from by
    rw [and_o]
    by_cases h1 : n 0 &&& n 2 = 0
    · by_cases h2 : n 1 &&& n 2 = 0
      · rw [h1, h2]; decide
      · rw [decide_eq_false h2, Bool.and_false]
        exact decide_eq_false fun z => h2 ((or_0 _ _).mp z).2
    · rw [decide_eq_false h1, Bool.false_and]
      exact decide_eq_false fun z => h1 ((or_0 _ _).mp z).1]
  by_cases h0 : n 0 &&& n 1 = 0
  · by_cases h1 : n 0 &&& n 2 = 0
    · by_cases h2 : n 1 &&& n 2 = 0
      · rw [h0, h1, h2]; decide
      · rw [decide_eq_false h2, Bool.and_false, Bool.and_false]
        exact (decide_eq_false fun z => h2 ((or_0 _ _).mp z).2).symm
    · rw [decide_eq_false h1, Bool.false_and, Bool.and_false]
      exact (decide_eq_false fun z => h1 ((or_0 _ _).mp ((or_0 _ _).mp z).1).2).symm
  · rw [decide_eq_false h0, Bool.false_and]
    exact (decide_eq_false fun z => h0 ((or_0 _ _).mp ((or_0 _ _).mp z).1).1).symm
theorem okn_ns {n : Nat → Int64} {ns : Nat} (hn : ns ≤ 3) (hz : ∀ s, ns ≤ s → s < 3 → n s = 0) : okn n ns = pl_o n := by
  rw [← okn_3]
  have step : ∀ s, ns ≤ s → s < 3 → okn n (s + 1) = okn n s := fun s h1 h2 => by
    show (okn n s && decide (or_n n s &&& n s = 0)) = okn n s
    rw [hz s h1 h2, and_0, decide_eq_true rfl, Bool.and_true]
  rcases (show ns = 0 ∨ ns = 1 ∨ ns = 2 ∨ ns = 3 by omega) with rfl | rfl | rfl | rfl
  · rw [step 2 (by omega) (by omega), step 1 (by omega) (by omega), step 0 (by omega) (by omega)]
  · rw [step 2 (by omega) (by omega), step 1 (by omega) (by omega)]
  · rw [step 2 (by omega) (by omega)]
  · rfl
/-- ships lie on the paper, apart; none beyond the last -/
def pk (n ns : Nat) (P : Nat → Int64) : Prop := Dj P ∧ (∀ s, s < 3 → onp n (P s)) ∧ ∀ s, ns ≤ s → s < 3 → P s = 0
theorem Dj_o {n : Nat → Int64} (h : pl_o n = true) : Dj n := by
  have h := of_decide_eq_true h
  obtain ⟨h1, h2⟩ := (or_0 _ _).mp h
  obtain ⟨h3, h4⟩ := (or_0 _ _).mp h1
  intro s s' hs hs' hn
  rcases (show s = 0 ∨ s = 1 ∨ s = 2 by omega) with rfl | rfl | rfl <;> rcases (show s' = 0 ∨ s' = 1 ∨ s' = 2 by omega) with rfl | rfl | rfl
  · exact absurd rfl hn
  · exact h3
  · exact h4
  · rw [and_c]; exact h3
  · exact absurd rfl hn
  · exact h2
  · rw [and_c]; exact h4
  · rw [and_c]; exact h2
  · exact absurd rfl hn
theorem pk_m {n ns : Nat} {P H : Nat → Int64} {mv : Int64 → Int64} (hm : ∀ z, onp n z → onp n (mv z)) (h0 : mv 0 = 0) (h : pk n ns P) : pk n ns (pl_m mv P H) := by
  by_cases ho : pl_o (pl_x mv P H) = true
  · have e : pl_m mv P H = pl_x mv P H := funext fun s => by
      unfold pl_m
      rw [ho]
      rfl
    rw [e]
    refine ⟨Dj_o ho, fun s hs => ?_, fun s h1 h2 => ?_⟩
    · unfold pl_x
      split
      · exact hm _ (h.2.1 s hs)
      · exact h.2.1 s hs
    · unfold pl_x
      rw [h.2.2 s h1 h2, h0]
      split <;> rfl
  · have e : pl_m mv P H = P := funext fun s => by
      unfold pl_m
      rw [show pl_o (pl_x mv P H) = false from by
        cases hz : pl_o (pl_x mv P H)
        · rfl
        · exact absurd hz ho]
      rfl
    rw [e]
    exact h
theorem pk_f {n ns : Nat} {sr : Int32} {dr : Bool} {P H : Nat → Int64} {t : Int64} {mv : Int64 → Int64} (hm : dr = true → (∀ z, onp n z → onp n (mv z)) ∧ mv 0 = 0) (h : pk n ns P) : pk n ns (pl_f sr dr mv P H t) := by
  cases hd : (dr && Nat.beq (pl_a sr P H t) 0)
  · have e : pl_f sr dr mv P H t = P := funext fun s => by
      unfold pl_f
      rw [hd]
      rfl
    rw [e]
    exact h
  · have e : pl_f sr dr mv P H t = pl_m mv P (pl_h P H t) := funext fun s => by
      unfold pl_f
      rw [hd]
      rfl
    rw [e]
    obtain ⟨h1, h2⟩ := hm (Bool.and_eq_true_iff.mp hd).1
    exact pk_m h1 h2 h
theorem pk_q {n ns : Nat} {sr : Int32} {dr : Bool} {mv : Int64 → Int64} {tg P0 : Nat → Int64} (hm : dr = true → (∀ z, onp n z → onp n (mv z)) ∧ mv 0 = 0) (h : pk n ns P0) : ∀ c, pk n ns (pl_q sr dr mv tg P0 c).1 := by
  intro c
  induction c with
  | zero => exact h
  | succ c ih => exact pk_f hm ih
/-- what the reference's cells say of the class's: the same paper, rules, calls -/
def gk (I : Nat → Nat → Int32) (J : Nat → Nat → Int64) (W HH ns n : Nat) : Prop := I 35 0 = Int32.ofNat W ∧ I 35 1 = Int32.ofNat HH ∧ (2 ≤ W ∧ W ≤ 6) ∧ (2 ≤ HH ∧ HH ≤ 6) ∧ I 35 3 = Int32.ofNat ns ∧ ns ≤ 3 ∧ I 2 1 = I 35 7 ∧ d1 (I 35 9) ∧ d1 (I 35 10) ∧ n ≤ 30 ∧
  (drF I = true → ∀ z, mvF I J z = mvP (I 35 0) (I 35 1) 1 (I 35 9) (I 35 10) z) ∧ drF I = (decide (I 35 9 ≠ 0) || decide (I 35 10 ≠ 0)) ∧ ∀ c, c < n → J 9 c = tgt (I 42 c) (I 43 c) ∧ cel (I 42 c) ∧ (I 43 c = -1 ∨ (cel (I 43 c) ∧ I 43 c ≠ I 42 c))
section
variable {N : Nat} {X : ez_X} {I : Nat → Nat → Int32} {J : Nat → Nat → Int64} {R : Nat → Nat} {T : List ez_C} {x y : Int32} {W HH ns n : Nat} {P H : Nat → Int64} {t : ly_t} {k : Nat}
theorem gk_mv (h : gk I J W HH ns n) (hd : drF I = true) : (∀ z, onp (W * HH) z → onp (W * HH) (mvF I J z)) ∧ mvF I J 0 = 0 := by
  obtain ⟨e0, e1, hW, hH, -, -, -, hx, hy, -, hm, -⟩ := h
  have h0 : ∀ z, onp (W * HH) z → onp (W * HH) (mvF I J z) := fun z hz => by
    rw [hm hd, e0, e1]
    exact (mv_s hW hH hx hy hz).2.1
  refine ⟨h0, ?_⟩
  have e : mvF I J 0 = mvF I J 0 ||| mvF I J 0 := kb_ext fun i _ => by
    rw [kb_or, Bool.or_self]
  have key : ∀ w h : Nat, (2 ≤ w ∧ w ≤ 6) → (2 ≤ h ∧ h ≤ 6) → ∀ dx dy : Int32, d1 dx → d1 dy → mvP (Int32.ofNat w) (Int32.ofNat h) 1 dx dy 0 = 0 := by
    intro w h hw hh dx dy hdx hdy
    have tab : ((List.range 5).all fun w => (List.range 5).all fun h => [(-1 : Int32), 0, 1].all fun dx => [(-1 : Int32), 0, 1].all fun dy => decide (mvP (Int32.ofNat (w + 2)) (Int32.ofNat (h + 2)) 1 dx dy 0 = 0)) = true := by decide +kernel
    have hm : ∀ d : Int32, d1 d → d ∈ [(-1 : Int32), 0, 1] := by
      rintro d (rfl | rfl | rfl) <;> decide
    have t1 := List.all_eq_true.mp (List.all_eq_true.mp (List.all_eq_true.mp (List.all_eq_true.mp tab (w - 2) (List.mem_range.mpr (by omega))) (h - 2) (List.mem_range.mpr (by omega))) dx (hm dx hdx)) dy (hm dy hdy)
    have t2 := of_decide_eq_true t1
    rw [show w - 2 + 2 = w by omega, show h - 2 + 2 = h by omega] at t2
    exact t2
  rw [hm hd, e0, e1]
  exact key W HH hW hH _ _ hx hy
/-- all that were not hit drift, if they may -/
theorem pe_driftAll (hg : gk I J W HH ns n) (hP : ∀ s, s < ns → J 45 s = P s ∧ J 46 s = H s) (hk : pk (W * HH) ns P) : pe N X 186 [.ref 35] (ev_hp I J R T) (fun r h => r = none ∧ ∃ K G, h = ev_hp I (ev_sJ (ev_sJ J 47 K) 45 G) R T ∧ ∀ s, s < ns → G s = bif drF I then pl_m (mvF I J) P H s else P s) := by
  have hg0 := hg
  obtain ⟨e0, e1, hW, hH, e3, hn, -, hx, hy, -, hm, hdr, -⟩ := hg
  have stay : drF I = false → (none : Option Value) = none ∧ ∃ K G, ev_hp I J R T = ev_hp I (ev_sJ (ev_sJ J 47 K) 45 G) R T ∧ ∀ s, s < ns → G s = bif drF I then pl_m (mvF I J) P H s else P s := by
    intro hd
    refine ⟨rfl, J 47, J 45, by rw [sJ_self, sJ_self], fun s hs => ?_⟩
    rw [hd]
    exact (hP s hs).1
  have move : drF I = true → ∀ N, pw N X 186 22 [.ref 35, .long (0 : Int64), ez_fill, .int (1 : Int32), .int (0 : Int32)] [] (ev_hp I J R T) (fun r h => r = none ∧ ∃ K G, h = ev_hp I (ev_sJ (ev_sJ J 47 K) 45 G) R T ∧ ∀ s, s < ns → G s = bif drF I then pl_m (mvF I J) P H s else P s) := by
    intro hd
    have hmd := hm hd
    have hx0 : ∀ s, ns ≤ s → s < 3 → pl_x (mvF I J) P H s = 0 := fun s h1 h2 => by
      unfold pl_x
      rw [hk.2.2 s h1 h2, (gk_mv hg0 hd).2]
      split <;> rfl
    have copy : ∀ (d s : Nat), s + d = ns → ∀ (K G : Nat → Int64), (∀ i, i < ns → K i = pl_x (mvF I J) P H i) → (∀ i, i < s → G i = pl_x (mvF I J) P H i) → pl_o (pl_x (mvF I J) P H) = true → ∀ (u : Int64) N, pw N X 186 114 [.ref 35, .long u, ez_fill, .int (1 : Int32), .int (Int32.ofNat s)] [] (ev_hp I (ev_sJ (ev_sJ J 47 K) 45 G) R T) (fun r h => r = none ∧ ∃ K G, h = ev_hp I (ev_sJ (ev_sJ J 47 K) 45 G) R T ∧ ∀ s, s < ns → G s = bif drF I then pl_m (mvF I J) P H s else P s) := by
      intro d
      induction d with
      | zero =>
        intro s hs K G hK hG ho u N
        obtain rfl : s = ns := by omega
        refine pw_p (da_114 ⟨fun _ => ⟨rfl, K, G, rfl, fun i hi => ?_⟩, fun g => ?_⟩)
        · rw [hd, hG i hi]
          show _ = pl_m (mvF I J) P H i
          unfold pl_m
          rw [ho]
          rfl
        · rw [e3] at g
          exact absurd (Int32.le_refl _) g
      | succ d ih =>
        intro s hsd K G hK hG ho u N
        refine pw_p (da_114 ⟨fun g => ?_, fun _ => ⟨fun g => absurd g (by decide), fun _ _ _ => ?_⟩⟩)
        · rw [e3, io_le (by omega) (by omega)] at g
          omega
        · rw [io_cl (by omega), cx_sJ_s, cx_sJ_n _ _ (show (47 : Nat) ≠ 45 by decide), cx_sJ_s, sJ2, io_1]
          refine ih (s + 1) (by omega) K _ hK (fun i hi => ?_) ho u N
          by_cases his : i = s
          · rw [his, pv_s]
            exact hK s (by omega)
          · rw [pv_n _ _ his]
            exact hG i (by omega)
    have first : ∀ (d s : Nat), s + d = ns → ∀ K : Nat → Int64, (∀ i, i < s → K i = pl_x (mvF I J) P H i) → ∀ N, pw N X 186 22 [.ref 35, .long (or_n (pl_x (mvF I J) P H) s), ez_fill, .int (bif okn (pl_x (mvF I J) P H) s then 1 else 0), .int (Int32.ofNat s)] [] (ev_hp I (ev_sJ J 47 K) R T) (fun r h => r = none ∧ ∃ K G, h = ev_hp I (ev_sJ (ev_sJ J 47 K) 45 G) R T ∧ ∀ s, s < ns → G s = bif drF I then pl_m (mvF I J) P H s else P s) := by
      intro d
      induction d with
      | zero =>
        intro s hs K hK N
        obtain rfl : s = ns := by omega
        refine pw_p (da_22 ⟨fun _ => pw_p (da_111 ?_), fun g => ?_⟩)
        · rw [okn_ns hn hx0]
          have e45 : ev_sJ J 47 K = ev_sJ (ev_sJ J 47 K) 45 (J 45) := by
            rw [← cx_sJ_n J K (show (45 : Nat) ≠ 47 by decide), sJ_self]
          cases ho : pl_o (pl_x (mvF I J) P H)
          · refine pw_p (da_114 ⟨fun _ => ⟨rfl, K, J 45, by rw [← e45], fun i hi => ?_⟩, fun _ => ⟨fun _ => ⟨rfl, K, J 45, by rw [← e45], fun i hi => ?_⟩, fun g => absurd rfl g⟩⟩)
            all_goals
              rw [hd, (hP i hi).1]
              show _ = pl_m (mvF I J) P H i
              unfold pl_m
              rw [ho]
              rfl
          · have h5 := copy s 0 (by omega) K (J 45) hK (fun i hi => absurd hi (by omega)) ho (or_n (pl_x (mvF I J) P H) s) N
            rw [← e45] at h5
            exact h5
        · rw [e3] at g
          exact absurd (Int32.le_refl _) g
      | succ d ih =>
        intro s hsd K hK N
        have hs : s < ns := by omega
        have eo : or_n (pl_x (mvF I J) P H) (s + 1) = or_n (pl_x (mvF I J) P H) s ||| pl_x (mvF I J) P H s := rfl
        have ek : okn (pl_x (mvF I J) P H) (s + 1) = (okn (pl_x (mvF I J) P H) s && decide (or_n (pl_x (mvF I J) P H) s &&& pl_x (mvF I J) P H s = 0)) := rfl
        have next : ∀ N, pw N X 186 70 [.ref 35, .long (or_n (pl_x (mvF I J) P H) s), ez_fill, .int (bif okn (pl_x (mvF I J) P H) s then 1 else 0), .int (Int32.ofNat s)] [.long (pl_x (mvF I J) P H s), .int (Int32.ofNat s), .ref 47] (ev_hp I (ev_sJ J 47 K) R T) (fun r h => r = none ∧ ∃ K G, h = ev_hp I (ev_sJ (ev_sJ J 47 K) 45 G) R T ∧ ∀ s, s < ns → G s = bif drF I then pl_m (mvF I J) P H s else P s) := by
          intro N
          have h5 := ih (s + 1) (by omega) (vp_updL K s (pl_x (mvF I J) P H s)) (fun i hi => by
            by_cases his : i = s
            · rw [his, pv_s]
            · rw [pv_n _ _ his]
              exact hK i (by omega)) N
          rw [eo, ek] at h5
          refine pw_p (da_70 ?_)
          rw [io_cl (by omega), cx_sJ_s, pv_s, sJ2, lg_eq, io_1]
          intro _
          refine ⟨fun g _ => ?_, fun g _ => ⟨fun g2 _ => ?_, fun g2 _ => ?_⟩⟩
          · rw [show okn (pl_x (mvF I J) P H) s = false from by
              cases hz : okn (pl_x (mvF I J) P H) s
              · rfl
              · rw [hz] at g
                exact absurd g (by decide), Bool.false_and] at h5
            exact h5
          · rw [decide_eq_false g2, Bool.and_false] at h5
            exact h5
          · rw [show okn (pl_x (mvF I J) P H) s = true from by
              cases hz : okn (pl_x (mvF I J) P H) s
              · rw [hz] at g
                exact absurd rfl g
              · rfl, decide_eq_true (Classical.not_not.mp g2)] at h5
            exact h5
        refine pw_p (da_22 ?_)
        rw [io_cl (by omega), cx_sJ_n _ _ (show (46 : Nat) ≠ 47 by decide), cx_sJ_n _ _ (show (45 : Nat) ≠ 47 by decide), (hP s hs).1, (hP s hs).2, lg_eq]
        refine ⟨fun g => ?_, fun _ _ => ⟨fun g _ => ?_, fun g _ => ⟨_, pe_driftOf e0 e1 hW hH hx hy (hk.2.1 s (by omega)), ?_⟩⟩⟩
        · rw [e3, io_le (by omega) (by omega)] at g
          omega
        · have e : pl_x (mvF I J) P H s = P s := if_neg g
          have h6 := next N
          rw [e] at h6
          exact h6
        · rintro r h ⟨rfl, rfl⟩
          have e : pl_x (mvF I J) P H s = mvP (I 35 0) (I 35 1) 1 (I 35 9) (I 35 10) (P s) := (if_pos (Classical.not_not.mp g)).trans (hmd _)
          refine pw_p (da_60 ?_)
          have h6 := next N
          rw [e] at h6
          exact h6
    intro N
    have h0 := first ns 0 (by omega) (J 47) (fun i hi => absurd hi (by omega)) N
    rw [sJ_self] at h0
    exact h0
  refine pe_of (pw_p (da_0 ⟨fun g => move ?_ _, fun g => ⟨fun g2 => move ?_ _, fun g2 => stay ?_⟩⟩))
  · rw [hdr, decide_eq_true (p := I 35 9 ≠ 0) g]
    rfl
  · rw [hdr, decide_eq_true (p := I 35 10 ≠ 0) g2, Bool.or_true]
  · rw [hdr, decide_eq_false (p := I 35 9 ≠ 0) g, decide_eq_false (p := I 35 10 ≠ 0) g2]
    rfl
/-- the ships are laid -/
theorem pe_place (e3 : I 35 3 = Int32.ofNat ns) (hn : ns ≤ 3) (hx : x = Int32.ofNat k) (hk : k < 10000) (hw : ∀ s, s < ns → I 41 (3 * k + s) = Int32.ofNat (ly_at t s)) (hl : ∀ s, s < ns → ly_at t s < 288) (he : ∀ s, s < ns → J 39 (300 * s + ly_at t s) = P s) : pe N X 215 [.ref 35, .int x] (ev_hp I J R T) (fun r h => r = none ∧ ∃ G1 G2, h = ev_hp I (ev_sJ (ev_sJ J 45 G1) 46 G2) R T ∧ ∀ s, s < ns → G1 s = P s ∧ G2 s = 0) := by
  subst hx
  have loop : ∀ (d s : Nat), s + d = ns → ∀ G1 G2 : Nat → Int64, (∀ i, i < s → G1 i = P i ∧ G2 i = 0) → ∀ N, pw N X 215 2 [.ref 35, .int (Int32.ofNat k), .int (Int32.ofNat s)] [] (ev_hp I (ev_sJ (ev_sJ J 45 G1) 46 G2) R T) (fun r h => r = none ∧ ∃ G1 G2, h = ev_hp I (ev_sJ (ev_sJ J 45 G1) 46 G2) R T ∧ ∀ s, s < ns → G1 s = P s ∧ G2 s = 0) := by
    intro d
    induction d with
    | zero =>
      intro s hs G1 G2 hG N
      obtain rfl : s = ns := by omega
      refine pw_p (pc_2 ⟨fun _ => ⟨rfl, G1, G2, rfl, hG⟩, fun g => ?_⟩)
      rw [e3] at g
      exact absurd (Int32.le_refl _) g
    | succ d ih =>
      intro s hsd G1 G2 hG N
      have hs : s < ns := by omega
      have hl2 := hl s hs
      have e1 : ((3 : Int32) * Int32.ofNat k + Int32.ofNat s).toNatClampNeg = 3 * k + s := by
        rw [show (3 : Int32) = Int32.ofNat 3 from rfl, io_mul, io_add, io_cl (by omega)]
      have e2 : ((300 : Int32) * Int32.ofNat s + Int32.ofNat (ly_at t s)).toNatClampNeg = 300 * s + ly_at t s := by
        rw [show (300 : Int32) = Int32.ofNat 300 from rfl, io_mul, io_add, io_cl (by omega)]
      refine pw_p (pc_2 ⟨fun g => ?_, fun _ => ?_⟩)
      · rw [e3, io_le (by omega) (by omega)] at g
        omega
      · rw [e1, hw s hs, e2, io_cl (by omega), cx_sJ_n _ _ (show (39 : Nat) ≠ 46 by decide), cx_sJ_n _ _ (show (39 : Nat) ≠ 45 by decide), he s hs, cx_sJ_s, cx_sJ_n _ _ (show (45 : Nat) ≠ 46 by decide), cx_sJ_s, sJ_sw (ev_sJ J 45 G1) _ _ (show (46 : Nat) ≠ 45 by decide), sJ2, sJ2, io_1]
        intro _ _ _ _
        refine ih (s + 1) (by omega) _ _ (fun i hi => ?_) N
        by_cases his : i = s
        · subst his
          rw [pv_s, pv_s]
          exact ⟨rfl, rfl⟩
        · rw [pv_n _ _ his, pv_n _ _ his]
          exact hG i (by omega)
  refine pe_of (pw_p (pc_0 ?_))
  have h0 := loop ns 0 (by omega) (J 45) (J 46) (fun i hi => absurd hi (by omega)) N
  rw [sJ_self, sJ_self] at h0
  exact h0
/-- behind n calls -/
def gh (I : Nat → Nat → Int32) (J : Nat → Nat → Int64) (ns : Nat) (t : ly_t) (n : Nat) (I' : Nat → Nat → Int32) (J' : Nat → Nat → Int64) : Prop := ∃ f K G1 G2, I' = ev_sI I 48 f ∧ J' = ev_sJ (ev_sJ (ev_sJ J 47 K) 45 G1) 46 G2 ∧ (∀ s, s < ns → G1 s = (xq I J t n).1 s ∧ G2 s = (xq I J t n).2 s) ∧ ∀ c, c < n → f c = Int32.ofNat (xt I J t c)
theorem cel_bt {a : Int32} (h : cel a) : ∃ i, a = Int32.ofNat i ∧ i < 64 ∧ (1 : Int64) <<< (a.toInt64 &&& 63) = cell1 i := by
  obtain ⟨i, rfl, hi⟩ := h
  exact ⟨i, rfl, by omega, rfl⟩
theorem pe_go (hg : gk I J W HH ns n) (hpk : pk (W * HH) ns (ly_s I J t)) (hx : x = Int32.ofNat k) (hk : k < 10000) (hw : ∀ s, s < ns → I 41 (3 * k + s) = Int32.ofNat (ly_at t s)) (hl : ∀ s, s < ns → ly_at t s < 288) (he : ∀ s, s < ns → J 39 (300 * s + ly_at t s) = ly_s I J t s) {m : Nat} (hy : y = Int32.ofNat m) (hm : m ≤ n) :
    pe N X 192 [.ref 35, .int x, .int y] (ev_hp I J R T) (fun r h => r = none ∧ ∃ I' J', h = ev_hp I' J' R T ∧ gh I J ns t m I' J') := by
  subst hy
  have hg0 := hg
  obtain ⟨e0, e1, hW, hH, e3, hn, e21, hdx, hdy, hn30, hmv, hdr, hcall⟩ := hg
  have hpq : ∀ c, pk (W * HH) ns (xq I J t c).1 := pk_q (gk_mv hg0) hpk
  have loop : ∀ (d c : Nat), c + d = m → ∀ (f : Nat → Int32) (K G1 G2 : Nat → Int64), (∀ s, s < ns → G1 s = (xq I J t c).1 s ∧ G2 s = (xq I J t c).2 s) → (∀ i, i < c → f i = Int32.ofNat (xt I J t i)) → ∀ N, pw N X 192 7 [.ref 35, .int x, .int (Int32.ofNat m), .int (Int32.ofNat c)] [] (ev_hp (ev_sI I 48 f) (ev_sJ (ev_sJ (ev_sJ J 47 K) 45 G1) 46 G2) R T) (fun r h => r = none ∧ ∃ I' J', h = ev_hp I' J' R T ∧ gh I J ns t m I' J') := by
    intro d
    induction d with
    | zero =>
      intro c hc f K G1 G2 hG hf N
      obtain rfl : c = m := by omega
      exact pw_p (go_7 ⟨fun _ => ⟨rfl, _, _, rfl, f, K, G1, G2, rfl, rfl, hG, hf⟩, fun g => absurd (Int32.le_refl _) g⟩)
    | succ d ih =>
      intro c hcd f K G1 G2 hG hf N
      have hc : c < m := by omega
      obtain ⟨t1, t2, t3⟩ := hcall c (by omega)
      obtain ⟨i, ei, hi, ebi⟩ := cel_bt t2
      have hD := (hpq c).1
      have hzz := (hpq c).2.2
      have i35 : ∀ f : Nat → Int32, ev_sI I 48 f 35 = I 35 := fun f => cx_sI_n _ _ (by decide)
      have i42 : ∀ f : Nat → Int32, ev_sI I 48 f 42 = I 42 := fun f => cx_sI_n _ _ (by decide)
      have i43 : ∀ f : Nat → Int32, ev_sI I 48 f 43 = I 43 := fun f => cx_sI_n _ _ (by decide)
      have j45 : ∀ G : Nat → Int64, ev_sJ (ev_sJ (ev_sJ J 47 K) 45 G1) 46 G 45 = G1 := fun G => by rw [cx_sJ_n _ _ (by decide), cx_sJ_s]
      have j46 : ∀ G : Nat → Int64, ev_sJ (ev_sJ (ev_sJ J 47 K) 45 G1) 46 G 46 = G := fun G => cx_sJ_s _ _ _
      have hP0 : ∀ s, s < ns → ev_sJ (ev_sJ (ev_sJ J 47 K) 45 G1) 46 G2 45 s = (xq I J t c).1 s ∧ ev_sJ (ev_sJ (ev_sJ J 47 K) 45 G1) 46 G2 46 s = (xq I J t c).2 s := fun s hs => by
        rw [j45, j46]
        exact hG s hs
      -- behind the answer
      have behind : ∀ G : Nat → Int64, (∀ s, s < ns → G s = (xq I J t (c + 1)).2 s) → ∀ v : Int32, v = Int32.ofNat (xt I J t c) → ∀ N, pw N X 192 84 [.ref 35, .int x, .int (Int32.ofNat m), .int (Int32.ofNat c)] [] (ev_hp (ev_sI I 48 (upd f c v)) (ev_sJ (ev_sJ (ev_sJ J 47 K) 45 G1) 46 G) R T) (fun r h => r = none ∧ ∃ I' J', h = ev_hp I' J' R T ∧ gh I J ns t m I' J') := by
        intro G hGn v hv N
        subst hv
        have hf2 : ∀ i, i < c + 1 → upd f c (Int32.ofNat (xt I J t c)) i = Int32.ofNat (xt I J t i) := fun i hi => by
          by_cases hic : i = c
          · rw [hic, nd_upd_s]
          · rw [nd_upd_n _ _ hic]
            exact hf i (by omega)
        have hle := pl_a_le (I 2 1) (xq I J t c).1 (xq I J t c).2 (J 9 c)
        refine pw_p (go_84 ?_)
        rw [io_cl (by omega), cx_sI_s, nd_upd_s]
        refine fun _ => ⟨fun g => ?_, fun g => ?_⟩
        · refine pw_p (go_97 ?_)
          rw [io_1]
          refine ih (c + 1) (by omega) _ K G1 G (fun s hs => ⟨?_, hGn s hs⟩) hf2 N
          show G1 s = pl_f (I 2 1) (drF I) (mvF I J) (xq I J t c).1 (xq I J t c).2 (J 9 c) s
          unfold pl_f
          rw [show Nat.beq (pl_a (I 2 1) (xq I J t c).1 (xq I J t c).2 (J 9 c)) 0 = false from cx_beqf fun z => g (by rw [show xt I J t c = 0 from z]; rfl), Bool.and_false]
          exact (hG s hs).1
        · have ht0 : pl_a (I 2 1) (xq I J t c).1 (xq I J t c).2 (J 9 c) = 0 := by
            have g2 := Classical.not_not.mp g
            rw [show (0 : Int32) = Int32.ofNat 0 from rfl, io_eq (by have : xt I J t c ≤ 192 := hle; omega) (by omega)] at g2
            exact g2
          have hg1 : gk (ev_sI I 48 (upd f c (Int32.ofNat (xt I J t c)))) (ev_sJ (ev_sJ (ev_sJ J 47 K) 45 G1) 46 G) W HH ns n := by
            have emv : mvF (ev_sI I 48 (upd f c (Int32.ofNat (xt I J t c)))) (ev_sJ (ev_sJ (ev_sJ J 47 K) 45 G1) 46 G) = mvF I J := by
              funext z
              unfold mvF
              rw [cx_sI_n _ _ (show (1 : Nat) ≠ 48 by decide), cx_sJ_n _ _ (show (1 : Nat) ≠ 46 by decide), cx_sJ_n _ _ (show (1 : Nat) ≠ 45 by decide), cx_sJ_n _ _ (show (1 : Nat) ≠ 47 by decide)]
            have edr : drF (ev_sI I 48 (upd f c (Int32.ofNat (xt I J t c)))) = drF I := by
              unfold drF
              rw [cx_sI_n _ _ (show (1 : Nat) ≠ 48 by decide)]
            unfold gk
            rw [i35, i42, i43, emv, edr, cx_sI_n _ _ (show (2 : Nat) ≠ 48 by decide), cx_sJ_n _ _ (show (9 : Nat) ≠ 46 by decide), cx_sJ_n _ _ (show (9 : Nat) ≠ 45 by decide), cx_sJ_n _ _ (show (9 : Nat) ≠ 47 by decide)]
            exact hg0
          have emv : mvF (ev_sI I 48 (upd f c (Int32.ofNat (xt I J t c)))) (ev_sJ (ev_sJ (ev_sJ J 47 K) 45 G1) 46 G) = mvF I J := by
            funext z
            unfold mvF
            rw [cx_sI_n _ _ (show (1 : Nat) ≠ 48 by decide), cx_sJ_n _ _ (show (1 : Nat) ≠ 46 by decide), cx_sJ_n _ _ (show (1 : Nat) ≠ 45 by decide), cx_sJ_n _ _ (show (1 : Nat) ≠ 47 by decide)]
          have edr : drF (ev_sI I 48 (upd f c (Int32.ofNat (xt I J t c)))) = drF I := by
            unfold drF
            rw [cx_sI_n _ _ (show (1 : Nat) ≠ 48 by decide)]
          refine ⟨_, pe_driftAll (P := (xq I J t c).1) (H := (xq I J t (c + 1)).2) hg1 (fun s hs => ?_) (hpq c), ?_⟩
          · rw [j45, j46]
            exact ⟨(hG s hs).1, hGn s hs⟩
          · rintro r h ⟨rfl, K', G1', rfl, hG'⟩
            rw [emv, edr] at hG'
            refine pw_p (go_97 ?_)
            rw [io_1]
            have e : ev_sJ (ev_sJ (ev_sJ (ev_sJ (ev_sJ J 47 K) 45 G1) 46 G) 47 K') 45 G1' = ev_sJ (ev_sJ (ev_sJ J 47 K') 45 G1') 46 G := by
              rw [sJ_sw (ev_sJ (ev_sJ J 47 K) 45 G1) _ _ (show (46 : Nat) ≠ 47 by decide), sJ_sw _ G G1' (show (46 : Nat) ≠ 45 by decide), sJ_sw (ev_sJ J 47 K) _ _ (show (45 : Nat) ≠ 47 by decide), sJ2, sJ2]
            rw [e]
            refine ih (c + 1) (by omega) _ K' G1' G (fun s hs => ⟨?_, hGn s hs⟩) hf2 N
            rw [hG' s hs]
            show _ = pl_f (I 2 1) (drF I) (mvF I J) (xq I J t c).1 (xq I J t c).2 (J 9 c) s
            unfold pl_f
            rw [ht0]
            cases drF I <;> rfl
      refine pw_p (go_7 ?_)
      rw [io_cl (by omega), i42, i43, ei]
      refine ⟨fun g => ?_, fun _ _ => ⟨fun g _ => ?_, fun g _ => ?_⟩⟩
      · rw [io_le (by omega) (by omega)] at g
        omega
      · -- two cells
        obtain ⟨u2, u3⟩ := t3.resolve_left g
        obtain ⟨j, ej, hj, ebj⟩ := cel_bt u2
        have hij : i ≠ j := by
          rintro rfl
          exact u3 (ej.trans ei.symm)
        have et : J 9 c = cell1 i ||| cell1 j := by
          rw [t1]
          unfold tgt
          rw [if_neg g, ebi, ebj]
        obtain ⟨p1, p2⟩ := pl_two (sr := I 2 1) (P := (xq I J t c).1) (H := (xq I J t c).2) hi hj hij
        obtain ⟨q1, q2, q3⟩ := pl_ht1 (sr := I 35 7) (H := (xq I J t c).2) hi hD
        have ext : xt I J t c = pl_n (xq I J t c).1 (cell1 i) 3 + pl_n (xq I J t c).1 (cell1 j) 3 := by
          show pl_a (I 2 1) (xq I J t c).1 (xq I J t c).2 (J 9 c) = _
          rw [et]
          exact p1
        refine ⟨_, pe_callCell (P := (xq I J t c).1) (H := (xq I J t c).2) (by rw [i35]; exact e3) hn hP0 hzz hD rfl hi, ?_⟩
        rintro r h ⟨rfl, G, rfl, hG2⟩
        rw [sJ2, i35]
        obtain ⟨q4, q5, q6⟩ := pl_ht1 (sr := I 35 7) (H := pl_h (xq I J t c).1 (xq I J t c).2 (cell1 i)) hj hD
        have second : ∀ a : Nat, a = pl_n (xq I J t c).1 (cell1 i) 3 → ∀ N, ∃ Q1 : pw_Q, pe N X 176 [.ref 35, .int (I 43 c)] (ev_hp (ev_sI I 48 f) (ev_sJ (ev_sJ (ev_sJ J 47 K) 45 G1) 46 G) R T) Q1 ∧ ∀ (r : Option Value) (h1 : ez_H), Q1 r h1 → pw N X 192 74 [.ref 35, .int x, .int (Int32.ofNat m), .int (Int32.ofNat c)] (r.toList ++ [.int (Int32.ofNat a), .int (Int32.ofNat c), .ref 48]) h1 (fun r h => r = none ∧ ∃ I' J', h = ev_hp I' J' R T ∧ gh I J ns t m I' J') := by
          intro a ha N
          refine ⟨_, pe_callCell (P := (xq I J t c).1) (H := pl_h (xq I J t c).1 (xq I J t c).2 (cell1 i)) (by rw [i35]; exact e3) hn (fun s hs => by rw [j45, j46]; exact ⟨(hG s hs).1, hG2 s hs⟩) hzz hD ej hj, ?_⟩
          rintro r h ⟨rfl, G', rfl, hG3⟩
          rw [sJ2, i35]
          have hGn : ∀ s, s < ns → G' s = (xq I J t (c + 1)).2 s := fun s hs => by
            rw [hG3 s hs]
            show _ = pl_h (xq I J t c).1 (xq I J t c).2 (J 9 c) s
            rw [et, p2 s]
          have bb := fun b (hb : a + b = xt I J t c) N => behind G' hGn (Int32.ofNat a + Int32.ofNat b) (by rw [io_add, hb]) N
          refine pw_p (go_74 ?_)
          rw [io_cl (by omega), cx_sI_s]
          have e48 : ∀ v, ev_sI (ev_sI I 48 f) 48 (upd f c v) = ev_sI I 48 (upd f c v) := fun v => nd_sI2 I 48 f _
          rw [e48, e48, show (0 : Int32) = Int32.ofNat 0 from rfl, io_le (by omega) (by omega)]
          refine ⟨fun g2 _ => bb 0 ?_ N, fun g2 _ => bb 1 ?_ N⟩
          · rw [ext, ← ha, q5.mp (by omega)]
          · have : pl_n (xq I J t c).1 (cell1 j) 3 ≠ 0 := fun z => g2 (by rw [q5.mpr z]; exact Nat.le_refl 0)
            rw [ext, ← ha]
            omega
        refine pw_p (go_56 ?_)
        rw [io_cl (by omega), i43, show (0 : Int32) = Int32.ofNat 0 from rfl, io_le (by omega) (by omega)]
        refine ⟨fun g2 _ => second 0 ?_ N, fun g2 _ => second 1 ?_ N⟩
        · rw [q2.mp (by omega)]
        · have : pl_n (xq I J t c).1 (cell1 i) 3 ≠ 0 := fun z => g2 (by rw [q2.mpr z]; exact Nat.le_refl 0)
          omega
      · -- one cell
        have et : J 9 c = cell1 i := by
          rw [t1]
          unfold tgt
          rw [if_pos (Classical.not_not.mp g), ebi]
        refine ⟨_, pe_callCell (P := (xq I J t c).1) (H := (xq I J t c).2) (by rw [i35]; exact e3) hn hP0 hzz hD rfl hi, ?_⟩
        rintro r h ⟨rfl, G, rfl, hG2⟩
        rw [sJ2, i35]
        refine pw_p (go_37 ?_)
        rw [io_cl (by omega), cx_sI_s, show ev_sI (ev_sI I 48 f) 48 (upd f c (Int32.ofNat (pl_a (I 35 7) (xq I J t c).1 (xq I J t c).2 (cell1 i)))) = ev_sI I 48 (upd f c (Int32.ofNat (pl_a (I 35 7) (xq I J t c).1 (xq I J t c).2 (cell1 i)))) from nd_sI2 I 48 f _]
        intro _
        refine behind G (fun s hs => ?_) _ ?_ N
        · rw [hG2 s hs]
          show _ = pl_h (xq I J t c).1 (xq I J t c).2 (J 9 c) s
          rw [et]
        · show _ = Int32.ofNat (pl_a (I 2 1) (xq I J t c).1 (xq I J t c).2 (J 9 c))
          rw [et, e21]
  refine pe_of (pw_p (go_0 ⟨_, pe_place (P := ly_s I J t) (t := t) e3 hn hx hk hw hl he, ?_⟩))
  rintro r h ⟨rfl, G1, G2, rfl, hG⟩
  refine pw_p (go_5 ?_)
  have h0 := loop m 0 (by omega) (I 48) (J 47) G1 G2 hG (fun i hi => absurd hi (by omega)) N
  rw [nd_self, sJ_self] at h0
  exact h0
end
