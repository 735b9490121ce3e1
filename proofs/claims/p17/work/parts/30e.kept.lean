/-! The reference's findSpots, whole. -/
theorem cx_may_sub {md md2 : List (Nat × Nat)} {a k : Nat} (hs : ∀ e ∈ md2, e ∈ md) (h : cx_may md a k = false) : cx_may md2 a k = false := by
  cases hz : cx_may md2 a k with
  | false => rfl
  | true =>
    obtain ⟨e, he, h1⟩ := List.any_eq_true.mp hz
    have : cx_may md a k = true := List.any_eq_true.mpr ⟨e, hs e he, h1⟩
    rw [this] at h
    cases h
theorem cx_fr_nil {I I' : Nat → Nat → Int32} {J J' : Nat → Nat → Int64} (h : cx_fr [] I J I' J') : I' = I ∧ J' = J :=
  ⟨funext fun a => funext fun k => (h a k rfl).1, funext fun a => funext fun k => (h a k rfl).2⟩
theorem fs_sJ_self (J : Nat → Nat → Int64) (a : Nat) : ev_sJ J a (J a) = J := by
  funext q
  by_cases h : q = a
  · subst h; rw [cx_sJ_s]
  · rw [cx_sJ_n _ _ h]
theorem fs_t (X : ez_X) (hX2 : X.1 < 2 ^ 31) (I : Nat → Nat → Int32) (J : Nat → Nat → Int64) (T : List ez_C) (s kd : Int32) (Q : ev_Q) (hwr : I 35 2 = 0 ∨ I 35 2 = 1) (hW : 2 ≤ (I 35 0).toInt ∧ (I 35 0).toInt ≤ 6) (hH : 2 ≤ (I 35 1).toInt ∧ (I 35 1).toInt ≤ 6) (hs : 0 ≤ s.toInt ∧ s.toInt ≤ 2) (hkd : kd.toInt ≤ 8)
    (fin : ∀ (f : Nat → Int64) (n t : Int32) (N : Nat) (R' : Nat → Nat) (T' : List ez_C) (c k : Nat), n.toInt = N → N ≤ 300 → cx_hok cx_B0 I R' T' → cx_leT T T' → c + T.length = T'.length → k + cx_mem T = cx_mem T' → ev_W X 190 245 [.ref 35, .int s, .int n, .int kd, .int t] [] (ev_hp I (ev_sJ J 39 f) R' T') c k Q) :
    ∀ (D tn N : Nat) (t n : Int32) (f : Nat → Int64) (R' : Nat → Nat) (T' : List ez_C) (c k : Nat), t.toInt = tn → n.toInt = N → (kd.toInt - t.toInt).toNat = D → tn ≤ 8 → N ≤ 36 * tn → fs_srt f s.toInt.toNat N → cx_hok cx_B0 I R' T' → cx_leT T T' → c + T.length = T'.length → k + cx_mem T = cx_mem T' →
      ev_W X 190 35 [.ref 35, .int s, .int n, .int kd, .int t] [] (ev_hp I (ev_sJ J 39 f) R' T') c k Q := by
  have e0 : (0 : Int32).toInt = 0 := by decide
  have e1 : (1 : Int32).toInt = 1 := by decide
  intro D
  induction D with
  | zero =>
    intro tn N t n f R' T' c k ht hn hD h8 hN hsr hh hT hc hk
    refine ev_if (fs_rN X I _ R' T' s n kd t _ _) (fun _ => fin f n t N R' T' c k hn (by omega) hh hT hc hk) (fun hc => ?_)
    exact absurd (Int32.le_iff_toInt_le.mpr (by omega)) (of_decide_eq_false hc)
  | succ D ih =>
    intro tn N t n f R' T' c k ht hn hD h8 hN hsr hh hT hc hk
    refine ev_if (fs_rN X I _ R' T' s n kd t _ _) (fun _ => fin f n t N R' T' c k hn (by omega) hh hT hc hk) (fun _ => ?_)
    refine cx_seg (K := cs_o) cx_hA0 cs_o_g cs_o_v (σ0 := [s.toInt, n.toInt, kd.toInt, t.toInt]) hX2 hh
      ⟨⟨rfl, ⟨s, rfl, rfl⟩, ⟨n, rfl, rfl⟩, ⟨kd, rfl, rfl⟩, ⟨t, rfl, rfl⟩, trivial⟩, trivial,
        cx_iv_cons hs (cx_iv_cons (cx_full32 n) (cx_iv_cons (cx_full32 kd) (cx_iv_cons (cx_full32 t) cx_iv_nil))), cx_nil,
        fun e he => (by cases he), fun e he => (by cases he)⟩ ?_ ?_
    · rintro r h' c' k' ⟨I', J', R', T', -, -, -, -, -, -, E, hE, -⟩
      cases hE
    · intro pc' A hA σ ls' st' I' J' R2 T2 c' k' x1 x2 x3 x4 x5 x6 x7
      obtain ⟨rfl, rfl⟩ := cx_fr_nil x3
      obtain ⟨rfl, rfl⟩ := cx_fAn1 hA
      obtain ⟨y1, y2, y3, -⟩ := x7
      obtain ⟨v1, t1, rfl, rfl, g1⟩ := cx_L_inv y1
      obtain ⟨v2, t2, rfl, ⟨s', rfl, z2⟩, g2⟩ := cx_L_inv g1
      obtain ⟨v3, t3, rfl, ⟨n', rfl, z3⟩, g3⟩ := cx_L_inv g2
      obtain ⟨v4, t4, rfl, ⟨kd', rfl, z4⟩, g4⟩ := cx_L_inv g3
      obtain ⟨v5, t5, rfl, ⟨t', rfl, z5⟩, g5⟩ := cx_L_inv g4
      obtain ⟨v6, t6, rfl, ⟨as, rfl, z6⟩, g6⟩ := cx_L_inv g5
      obtain ⟨v7, t7, rfl, ⟨m, rfl, z7⟩, g7⟩ := cx_L_inv g6
      obtain rfl := cx_L_nil g7 rfl
      obtain rfl := cx_L_nil y2 rfl
      have w0 := x1 0 s.toInt rfl
      have w1 := x1 1 n.toInt rfl
      have w2 := x1 2 kd.toInt rfl
      have w3 := x1 3 t.toInt rfl
      rw [z2] at w0
      rw [z3] at w1
      rw [z4] at w2
      rw [z5] at w3
      injection w0 with w0
      injection w1 with w1
      injection w2 with w2
      injection w3 with w3
      obtain rfl := cx_i32_eq w0
      obtain rfl := cx_i32_eq w1
      obtain rfl := cx_i32_eq w2
      obtain rfl := cx_i32_eq w3
      have hm := y3.2 5 m.toInt (0, 0) z7 rfl
      simp only at hm
      have ht1 : (t' + 1).toInt = ((tn + 1 : Nat) : Int) := by
        rw [Int32.toInt_add, e1, cx_bm32]
        · omega
        · simp only [cx_i32]; omega
      refine fs_m (tn := tn) hwr hW hH hs (by omega) (fun f' n2 m2 N2 hn2 hs2 hN2 => ?_) 100 0 N m n' f (by omega) hn (by omega) ⟨hsr, fun m' hm' => absurd hm' (Nat.not_lt_zero _), [], List.nodup_nil, fun r hr => (by cases hr), by simp only [List.length_nil]; omega⟩
      refine ev_seg (fs_rM X _ _ R2 T2 s' n2 kd' t' as m2 _ _) ?_
      refine ev_cutl (by rfl) ?_
      exact ih (tn + 1) N2 (t' + 1) n2 f' R2 T2 c' k' ht1 hn2 (by omega) (by omega) (by omega) hs2 x2 (cx_leT_t hT x4) (by omega) (by omega)
/-- of the numbers of spots only this ship's changes -/
def fs_Q (I : Nat → Nat → Int32) (J : Nat → Nat → Int64) (T : List ez_C) (s : Nat) : ev_Q := fun r h' c' k' => r = none ∧ ∃ I' J' R' T', h' = ev_hp I' J' R' T' ∧ cx_hok cx_B0 I' R' T' ∧ (∀ a q, a ≠ 40 → (a ≠ 38 ∨ q ≠ s) → I' a q = I a q) ∧ (∀ a q, a ≠ 39 → a ≠ 40 → J' a q = J a q) ∧
  cx_leT T T' ∧ c' + T.length = T'.length ∧ k' + cx_mem T = cx_mem T'
theorem eh_fs (X : ez_X) (hX2 : X.1 < 2 ^ 31) (s : Int32) (hs : 0 ≤ s.toInt ∧ s.toInt ≤ 2) (I : Nat → Nat → Int32) (J : Nat → Nat → Int64) (R : Nat → Nat) (T : List ez_C) (hh : cx_hok cx_B0 I R T) : ev_W X 190 0 (ez_lay [.ref 35, .int s]) [] (ev_hp I J R T) 0 0 (fs_Q I J T s.toInt.toNat) := by
  have hW := hh.1 35 0
  have hH := hh.1 35 1
  have hwr := hh.1 35 2
  rw [show cx_B0 35 0 = (2, 6) from rfl] at hW
  rw [show cx_B0 35 1 = (2, 6) from rfl] at hH
  rw [show cx_B0 35 2 = (0, 1) from rfl] at hwr
  simp only at hW hH hwr
  have hwr := cx_01 hwr.1 hwr.2
  refine cx_seg (K := cs_k) cx_hA0 cs_k_g cs_k_v (σ0 := [s.toInt]) hX2 hh
    ⟨⟨rfl, ⟨s, rfl, rfl⟩, trivial⟩, trivial, cx_iv_cons hs cx_iv_nil, cx_nil, fun e he => (by cases he), fun e he => (by cases he)⟩ ?_ ?_
  · rintro r h' c' k' ⟨I', J', R', T', -, -, -, -, -, -, E, hE, -⟩
    cases hE
  · intro pc' A hA σ ls' st' I' J' R2 T2 c' k' x1 x2 x3 x4 x5 x6 x7
    obtain ⟨rfl, rfl⟩ := cx_fr_nil x3
    obtain ⟨rfl, rfl⟩ := cx_fAn1 hA
    obtain ⟨y1, y2, y3, -⟩ := x7
    obtain ⟨v1, t1, rfl, rfl, g1⟩ := cx_L_inv y1
    obtain ⟨v2, t2, rfl, ⟨s', rfl, z2⟩, g2⟩ := cx_L_inv g1
    obtain ⟨v3, t3, rfl, ⟨n, rfl, z3⟩, g3⟩ := cx_L_inv g2
    obtain ⟨v4, t4, rfl, ⟨kd, rfl, z4⟩, g4⟩ := cx_L_inv g3
    obtain ⟨v5, t5, rfl, ⟨t, rfl, z5⟩, g5⟩ := cx_L_inv g4
    obtain rfl := cx_L_nil g5 rfl
    obtain rfl := cx_L_nil y2 rfl
    have w0 := x1 0 s.toInt rfl
    rw [z2] at w0
    injection w0 with w0
    obtain rfl := cx_i32_eq w0
    have h1 := y3.2 1 n.toInt (0, 0) z3 rfl
    have h2 := y3.2 2 kd.toInt (1, 8) z4 rfl
    have h3 := y3.2 3 t.toInt (0, 0) z5 rfl
    simp only at h1 h2 h3
    rw [show ev_hp I' J' R2 T2 = ev_hp I' (ev_sJ J' 39 (J' 39)) R2 T2 by rw [fs_sJ_self]]
    refine fs_t X hX2 I' J' T s' kd _ hwr hW hH hs h2.2 (fun f n2 t2 N R3 T3 c k hn hN b1 b2 b3 b4 => ?_) (kd.toInt - t.toInt).toNat 0 0 t n (J' 39) R2 T2 c' k' (by omega) (by omega) rfl (by omega) (by omega) (fun a b _ hb => absurd hb (Nat.not_lt_zero _)) x2 x4 (by omega) (by omega)
    refine ev_seg (fs_rO X I' _ R3 T3 s' n2 kd t2 _ _) ?_
    refine ev_iastH (h2 := ev_hp (ev_sI I' 38 (upd (I' 38) s'.toInt.toNat n2)) (ev_sJ J' 39 f) R3 T3) (by rfl) (cx_getI (show cx_Ds[38]? = some (0, 3, []) from rfl)) (fs_ixs (by omega) (by omega)) (cx_setI (show cx_Ds[38]? = some (0, 3, []) from rfl) _) ?_
    have b1' : cx_hok cx_B0 (ev_sI I' 38 (upd (I' 38) s'.toInt.toNat n2)) R3 T3 := ⟨cx_hB_I b1.1 fun q => by
      rw [show cx_B0 38 q = (0, 300) from rfl]
      unfold upd
      split
      · simp only; omega
      · exact b1.1 38 q, b1.2⟩
    refine (cq_fs_v X [s'.toInt, n2.toInt, kd.toInt, t2.toInt] [.ref 35, .int s', .int n2, .int kd, .int t2] [] _ (ev_sJ J' 39 f) R3 T3 c k hX2 b1' ⟨⟨rfl, ⟨s', rfl, rfl⟩, ⟨n2, rfl, rfl⟩, ⟨kd, rfl, rfl⟩, ⟨t2, rfl, rfl⟩, trivial⟩, trivial,
      cx_iv_cons hs (cx_iv_cons (by simp only; omega) (cx_iv_cons (cx_full32 kd) (cx_iv_cons (cx_full32 t2) cx_iv_nil))), cx_nil, fun e he => (by cases he), fun e he => (by cases he)⟩).mono ?_
    rintro r h' c2 k2 ⟨I4, J4, R4, T4, rfl, p1, p2, p3, p4, p5, E, hE, τ, p6, p7⟩
    have hr : r = none := by
      have hE : E ∈ [([], [], [(0, 2), (0, 300), cx_i32, cx_i32], [], [], [])] := hE
      rw [List.mem_singleton.mp hE] at p7
      cases r with
      | none => rfl
      | some v => have := p7.2.1; simp [cx_L] at this
    subst hr
    have hmay : ∀ a q, a ≠ 40 → cx_may [(40, 999)] a q = false := fun a q ha => by
      unfold cx_may
      simp only [List.any_cons, List.any_nil, Bool.or_false]
      rw [cx_beqf (fun z => ha z.symm)]
      rfl
    refine ⟨rfl, I4, J4, R4, T4, rfl, p1, fun a q ha hq => ?_, fun a q ha hb => ?_, cx_leT_t b2 p3, by omega, by omega⟩
    · rw [(p2 a q (hmay a q ha)).1]
      by_cases h38 : a = 38
      · subst h38
        rw [cx_sI_s]
        unfold upd
        rw [if_neg (by omega)]
      · rw [cx_sI_n _ _ h38]
    · rw [(p2 a q (hmay a q hb)).2, cx_sJ_n _ _ ha]
theorem cv_SquaredShipsModel_findSpots : cx_valid cx_B0 190 ck_SquaredShipsModel_findSpots := by
  intro X σ0 ls I J R T hX2 hh hok
  obtain ⟨v1, t1, rfl, rfl, g2⟩ := cx_L_inv hok.1
  obtain ⟨v2, t2, rfl, ⟨s, rfl, hs1⟩, g4⟩ := cx_L_inv g2
  obtain rfl := cx_L_nil g4 rfl
  have hs := hok.2.2.1.2 0 s.toInt (0, 2) hs1 rfl
  simp only at hs
  refine (eh_fs X hX2 s hs I J R T hh).mono ?_
  rintro r h' c' k' ⟨rfl, I', J', R', T', rfl, p1, p2, p3, p4, p5, p6⟩
  refine ⟨I', J', R', T', rfl, p1, fun a q hq => ?_, p4, by omega, by omega, _, List.mem_cons_self, σ0, cx_ext_r σ0, cx_ok_none hok.2.2.1 I' _⟩
  have hq : cx_may [(38, 999), (39, 999), (40, 999)] a q = false := hq
  have hne : ∀ z, cx_all [(38, 999), (39, 999), (40, 999)] z = true → a ≠ z := fun z hz h => by
    subst h
    rw [cx_all_s hz q] at hq
    cases hq
  have h38 := hne 38 rfl
  have h39 := hne 39 rfl
  have h40 := hne 40 rfl
  exact ⟨p2 a q h40 (Or.inl h38), p3 a q h39 h40⟩
