/-! The answers of rim, both sides. -/
section
variable {N : Nat} {X : ez_X} {I : Nat → Nat → Int32} {J : Nat → Nat → Int64} {R : Nat → Nat} {T : List ez_C} {Q : pw_Q} {cz kz : Nat}
set_option maxRecDepth 100000 in
theorem rm_r0 {a0 : Int32} {a1 : Int32} {a2 : Int32} : ∀ G : ez_F, fx_up X 1 G 40 15 [.ref 0, .int a0, .int a1] [.int a2] (ev_hp I J R T) cz kz = bif decide (a2 = (0 : Int32)) then G 40 21 [.ref 0, .int a0, .int a1] [] (ev_hp I J R T) cz kz else G 40 18 [.ref 0, .int a0, .int a1] [] (ev_hp I J R T) cz kz := by
  intro G
  rfl
set_option maxRecDepth 100000 in
theorem rm_r1 {a0 : Int32} {a1 : Int32} : ∀ G : ez_F, fx_up X 3 G 40 21 [.ref 0, .int a0, .int a1] [] (ev_hp I J R T) cz kz = ev_C G 23 [.ref 0, .int a0] (ev_hp I J R T) fun r h1 c1 k1 => G 40 26 [.ref 0, .int a0, .int a1] (r.toList ++ []) h1 (cz + c1) (kz + k1) := by
  intro G
  rfl
set_option maxRecDepth 100000 in
theorem rm_r2 {a0 : Int32} {a1 : Int32} {a2 : Int32} : ∀ G : ez_F, fx_up X 1 G 40 26 [.ref 0, .int a0, .int a1] [.int a2] (ev_hp I J R T) cz kz = bif decide (a2 = (0 : Int32)) then G 40 48 [.ref 0, .int a0, .int a1] [] (ev_hp I J R T) cz kz else G 40 29 [.ref 0, .int a0, .int a1] [] (ev_hp I J R T) cz kz := by
  intro G
  rfl
set_option maxRecDepth 100000 in
theorem rm_r3 {a0 : Int32} {a1 : Int32} : ∀ G : ez_F, fx_up X 2 G 40 48 [.ref 0, .int a0, .int a1] [] (ev_hp I J R T) cz kz = some (some (.int (-2 : Int32)), (ev_hp I J R T), cz, kz) := by
  intro G
  rfl
set_option maxRecDepth 100000 in
theorem rm_r4 {a0 : Int32} {a1 : Int32} : ∀ G : ez_F, fx_up X 6 G 40 29 [.ref 0, .int a0, .int a1] [] (ev_hp I J R T) cz kz = ev_C G 137 [.ref 6, .int a0] (ev_hp I J R T) fun r h1 c1 k1 => G 40 41 [.ref 0, .int a0, .int a1] (r.toList ++ [.ref 32]) h1 (cz + c1) (kz + k1) := by
  intro G
  rfl
set_option maxRecDepth 100000 in
theorem rm_r5 {a0 : Int32} {a1 : Int32} : ∀ G : ez_F, fx_up X 2 G 40 18 [.ref 0, .int a0, .int a1] [] (ev_hp I J R T) cz kz = some (some (.int (-6 : Int32)), (ev_hp I J R T), cz, kz) := by
  intro G
  rfl
theorem rm_15 {v x y : Int32}
    (H : ((v = (0 : Int32) → (((ev_wi x (0 : Int32) ((I 6 3) - (1 : Int32))) = (0 : Int32) → Q (some (.int (-2 : Int32))) (ev_hp I J R T)) ∧ (¬ ((ev_wi x (0 : Int32) ((I 6 3) - (1 : Int32))) = (0 : Int32)) → (∃ Q1 : pw_Q, pe N X 137 [.ref 6, .int x] (ev_hp I J R T) Q1 ∧ ∀ (r : Option Value) (h1 : ez_H), Q1 r h1 → pw N X 40 41 [.ref 0, .int x, .int y] (r.toList ++ [.ref 32]) h1 Q)))) ∧ (¬ (v = (0 : Int32)) → Q (some (.int (-6 : Int32))) (ev_hp I J R T)))) : pw (N + 1) X 40 15 [.ref 0, .int x, .int y] [.int v] (ev_hp I J R T) Q := by
  refine pw_if (by decide) (fun _ _ => rm_r0) (fun w1 => ?_) (fun w1 => ?_)
  · have h1 := H.1 w1
    refine pw_p (pw_callp (by decide) (fun _ _ => rm_r1) (pe_is (eg_isLaying _ _ _ _ _ _)) ?_)
    refine pw_p (pw_if (by decide) (fun _ _ => rm_r2) (fun w2 => ?_) (fun w2 => ?_))
    · have h2 := h1.1 w2
      exact pw_p (pw_ret (by decide) (fun _ _ => rm_r3) h2)
    · have h2 := h1.2 w2
      obtain ⟨Q1, hc, hk⟩ := h2
      exact pw_p (pw_call (by decide) (fun _ _ => rm_r4) hc hk)
  · have h1 := H.2 w1
    exact pw_p (pw_ret (by decide) (fun _ _ => rm_r5) h1)
set_option maxRecDepth 100000 in
theorem rm_r6 {a0 : Int32} {a1 : Int32} {a2 : Int64} : ∀ G : ez_F, fx_up X 2 G 40 41 [.ref 0, .int a0, .int a1] [.long a2, .ref 32] (ev_hp I J R T) cz kz = ev_C G 73 [.ref 32, .long a2, .int a1] (ev_hp I J R T) fun r h1 c1 k1 => G 40 45 [.ref 0, .int a0, .int a1] (r.toList ++ []) h1 (cz + c1) (kz + k1) := by
  intro G
  rfl
theorem rm_41 {x y : Int32} {u : Int64}
    (H : (∃ Q1 : pw_Q, pe N X 73 [.ref 32, .long u, .int y] (ev_hp I J R T) Q1 ∧ ∀ (r : Option Value) (h1 : ez_H), Q1 r h1 → pw N X 40 45 [.ref 0, .int x, .int y] (r.toList ++ []) h1 Q)) : pw (N + 1) X 40 41 [.ref 0, .int x, .int y] [.long u, .ref 32] (ev_hp I J R T) Q := by
  obtain ⟨Q1, hc, hk⟩ := H
  exact pw_call (by decide) (fun _ _ => rm_r6) hc hk
set_option maxRecDepth 100000 in
theorem rm_r7 {a0 : Int32} {a1 : Int32} {a2 : Int32} : ∀ G : ez_F, fx_up X 2 G 40 45 [.ref 0, .int a0, .int a1] [.int a2] (ev_hp I J R T) cz kz = some (some (.int a2), (ev_hp I J R T), cz, kz) := by
  intro G
  rfl
theorem rm_45 {v x y : Int32}
    (H : Q (some (.int v)) (ev_hp I J R T)) : pw (N + 1) X 40 45 [.ref 0, .int x, .int y] [.int v] (ev_hp I J R T) Q := by
  exact pw_ret (by decide) (fun _ _ => rm_r7) H
set_option maxRecDepth 100000 in
theorem rm_r8 {a0 : Int32} {a1 : Int32} : ∀ G : ez_F, fx_up X 3 G 217 0 [.ref 35, .int a0, .int a1] [] (ev_hp I J R T) cz kz = ev_C G 203 [.ref 35, .int a1] (ev_hp I J R T) fun r h1 c1 k1 => G 217 5 [.ref 35, .int a0, .int a1] (r.toList ++ []) h1 (cz + c1) (kz + k1) := by
  intro G
  rfl
set_option maxRecDepth 100000 in
theorem rm_r9 {a0 : Int32} {a1 : Int32} {a2 : Int32} : ∀ G : ez_F, fx_up X 1 G 217 5 [.ref 35, .int a0, .int a1] [.int a2] (ev_hp I J R T) cz kz = bif decide (¬ a2 = (0 : Int32)) then G 217 11 [.ref 35, .int a0, .int a1] [] (ev_hp I J R T) cz kz else G 217 8 [.ref 35, .int a0, .int a1] [] (ev_hp I J R T) cz kz := by
  intro G
  rfl
set_option maxRecDepth 100000 in
theorem rm_r10 {a0 : Int32} {a1 : Int32} : ∀ G : ez_F, fx_up X 2 G 217 11 [.ref 35, .int a0, .int a1] [] (ev_hp I J R T) cz kz = ev_C G 167 [.ref 35] (ev_hp I J R T) fun r h1 c1 k1 => G 217 15 [.ref 35, .int a0, .int a1] (r.toList ++ []) h1 (cz + c1) (kz + k1) := by
  intro G
  rfl
set_option maxRecDepth 100000 in
theorem rm_r11 {a0 : Int32} {a1 : Int32} : ∀ G : ez_F, fx_up X 2 G 217 8 [.ref 35, .int a0, .int a1] [] (ev_hp I J R T) cz kz = some (some (.int (-2 : Int32)), (ev_hp I J R T), cz, kz) := by
  intro G
  rfl
theorem rn_0 {x y : Int32}
    (H : ((¬ (ev_il (y.toInt64) 0 (((((I 35 0)) + ((I 35 1))) - (1 : Int32)).toInt64)) = (0 : Int32) → (∃ Q1 : pw_Q, pe N X 167 [.ref 35] (ev_hp I J R T) Q1 ∧ ∀ (r : Option Value) (h1 : ez_H), Q1 r h1 → pw N X 217 15 [.ref 35, .int x, .int y] (r.toList ++ []) h1 Q)) ∧ (¬ (¬ (ev_il (y.toInt64) 0 (((((I 35 0)) + ((I 35 1))) - (1 : Int32)).toInt64)) = (0 : Int32)) → Q (some (.int (-2 : Int32))) (ev_hp I J R T)))) : pw (N + 1) X 217 0 [.ref 35, .int x, .int y] [] (ev_hp I J R T) Q := by
  refine pw_callp (by decide) (fun _ _ => rm_r8) (pe_is (em_isRim _ _ _ _ _ _)) ?_
  refine pw_p (pw_if (by decide) (fun _ _ => rm_r9) (fun w1 => ?_) (fun w1 => ?_))
  · have h1 := H.1 w1
    obtain ⟨Q1, hc, hk⟩ := h1
    exact pw_p (pw_call (by decide) (fun _ _ => rm_r10) hc hk)
  · have h1 := H.2 w1
    exact pw_p (pw_ret (by decide) (fun _ _ => rm_r11) h1)
set_option maxRecDepth 100000 in
theorem rm_r12 {a0 : Int32} {a1 : Int32} {a2 : Int32} : ∀ G : ez_F, fx_up X 1 G 217 15 [.ref 35, .int a0, .int a1] [.int a2] (ev_hp I J R T) cz kz = bif decide (¬ a2 = (0 : Int32)) then G 217 21 [.ref 35, .int a0, .int a1] [] (ev_hp I J R T) cz kz else G 217 18 [.ref 35, .int a0, .int a1] [] (ev_hp I J R T) cz kz := by
  intro G
  rfl
set_option maxRecDepth 100000 in
theorem rm_r13 {a0 : Int32} {a1 : Int32} : ∀ G : ez_F, fx_up X 3 G 217 21 [.ref 35, .int a0, .int a1] [] (ev_hp I J R T) cz kz = ev_C G 202 [.ref 35, .int a0] (ev_hp I J R T) fun r h1 c1 k1 => G 217 26 [.ref 35, .int a0, .int a1] (r.toList ++ []) h1 (cz + c1) (kz + k1) := by
  intro G
  rfl
set_option maxRecDepth 100000 in
theorem rm_r14 {a0 : Int32} {a1 : Int32} {a2 : Int32} : ∀ G : ez_F, fx_up X 1 G 217 26 [.ref 35, .int a0, .int a1] [.int a2] (ev_hp I J R T) cz kz = bif decide (a2 = (0 : Int32)) then G 217 42 [.ref 35, .int a0, .int a1] [] (ev_hp I J R T) cz kz else G 217 29 [.ref 35, .int a0, .int a1] [] (ev_hp I J R T) cz kz := by
  intro G
  rfl
set_option maxRecDepth 100000 in
theorem rm_r15 {a0 : Int32} {a1 : Int32} : ∀ G : ez_F, fx_up X 2 G 217 42 [.ref 35, .int a0, .int a1] [] (ev_hp I J R T) cz kz = some (some (.int (-2 : Int32)), (ev_hp I J R T), cz, kz) := by
  intro G
  rfl
set_option maxRecDepth 100000 in
theorem rm_r16 {a0 : Int32} {a1 : Int32} : ∀ G : ez_F, fx_up X 4 G 217 29 [.ref 35, .int a0, .int a1] [] (ev_hp I J R T) cz kz = ev_C G 180 [.ref 35, .int a0] (ev_hp I J R T) fun r h1 c1 k1 => G 217 35 [.ref 35, .int a0, .int a1] (r.toList ++ [.ref 35]) h1 (cz + c1) (kz + k1) := by
  intro G
  rfl
set_option maxRecDepth 100000 in
theorem rm_r17 {a0 : Int32} {a1 : Int32} : ∀ G : ez_F, fx_up X 2 G 217 18 [.ref 35, .int a0, .int a1] [] (ev_hp I J R T) cz kz = some (some (.int (-6 : Int32)), (ev_hp I J R T), cz, kz) := by
  intro G
  rfl
theorem rn_15 {v x y : Int32}
    (H : ((¬ v = (0 : Int32) → (((ev_il (x.toInt64) 0 ((((I 35 14)) - (1 : Int32)).toInt64)) = (0 : Int32) → Q (some (.int (-2 : Int32))) (ev_hp I J R T)) ∧ (¬ ((ev_il (x.toInt64) 0 ((((I 35 14)) - (1 : Int32)).toInt64)) = (0 : Int32)) → (∃ Q1 : pw_Q, pe N X 180 [.ref 35, .int x] (ev_hp I J R T) Q1 ∧ ∀ (r : Option Value) (h1 : ez_H), Q1 r h1 → pw N X 217 35 [.ref 35, .int x, .int y] (r.toList ++ [.ref 35]) h1 Q)))) ∧ (¬ (¬ v = (0 : Int32)) → Q (some (.int (-6 : Int32))) (ev_hp I J R T)))) : pw (N + 1) X 217 15 [.ref 35, .int x, .int y] [.int v] (ev_hp I J R T) Q := by
  refine pw_if (by decide) (fun _ _ => rm_r12) (fun w1 => ?_) (fun w1 => ?_)
  · have h1 := H.1 w1
    refine pw_p (pw_callp (by decide) (fun _ _ => rm_r13) (pe_is (em_isLaying _ _ _ _ _ _)) ?_)
    refine pw_p (pw_if (by decide) (fun _ _ => rm_r14) (fun w2 => ?_) (fun w2 => ?_))
    · have h2 := h1.1 w2
      exact pw_p (pw_ret (by decide) (fun _ _ => rm_r15) h2)
    · have h2 := h1.2 w2
      obtain ⟨Q1, hc, hk⟩ := h2
      exact pw_p (pw_call (by decide) (fun _ _ => rm_r16) hc hk)
  · have h1 := H.2 w1
    exact pw_p (pw_ret (by decide) (fun _ _ => rm_r17) h1)
set_option maxRecDepth 100000 in
theorem rm_r18 {a0 : Int32} {a1 : Int32} {a2 : Int64} : ∀ G : ez_F, fx_up X 2 G 217 35 [.ref 35, .int a0, .int a1] [.long a2, .ref 35] (ev_hp I J R T) cz kz = ev_C G 183 [.ref 35, .long a2, .int a1] (ev_hp I J R T) fun r h1 c1 k1 => G 217 39 [.ref 35, .int a0, .int a1] (r.toList ++ []) h1 (cz + c1) (kz + k1) := by
  intro G
  rfl
theorem rn_35 {x y : Int32} {u : Int64}
    (H : (∃ Q1 : pw_Q, pe N X 183 [.ref 35, .long u, .int y] (ev_hp I J R T) Q1 ∧ ∀ (r : Option Value) (h1 : ez_H), Q1 r h1 → pw N X 217 39 [.ref 35, .int x, .int y] (r.toList ++ []) h1 Q)) : pw (N + 1) X 217 35 [.ref 35, .int x, .int y] [.long u, .ref 35] (ev_hp I J R T) Q := by
  obtain ⟨Q1, hc, hk⟩ := H
  exact pw_call (by decide) (fun _ _ => rm_r18) hc hk
set_option maxRecDepth 100000 in
theorem rm_r19 {a0 : Int32} {a1 : Int32} {a2 : Int32} : ∀ G : ez_F, fx_up X 2 G 217 39 [.ref 35, .int a0, .int a1] [.int a2] (ev_hp I J R T) cz kz = some (some (.int a2), (ev_hp I J R T), cz, kz) := by
  intro G
  rfl
theorem rn_39 {v x y : Int32}
    (H : Q (some (.int v)) (ev_hp I J R T)) : pw (N + 1) X 217 39 [.ref 35, .int x, .int y] [.int v] (ev_hp I J R T) Q := by
  exact pw_ret (by decide) (fun _ _ => rm_r19) H
end
section
variable {N : Nat} {X : ez_X} {I I' I1 : Nat → Nat → Int32} {J J' J1 : Nat → Nat → Int64} {R R' R1 : Nat → Nat} {T T' T1 : List ez_C} {v x y : Int32} {f6 : Nat → Int32} {t : ly_t}
def v_rim (I : Nat → Nat → Int32) (J : Nat → Nat → Int64) (x y : Int32) : Int32 := if ev_wi y 0 (I 1 4 + I 1 3 - 1) = 0 then -2 else if sn I 0 * (sn I 1 * sn I 2) ≤ 10000 then (if ev_wi x 0 (Int32.ofNat (ls I J).length - 1) = 0 then -2 else Int32.ofNat (rq (I 1 3).toInt.toNat (I 1 4).toInt.toNat y.toInt.toNat (ly_w I J ((ls I J).getD x.toInt.toNat (0, 0, 0))))) else -6
theorem ly_in (hr : rl I J) (hB : cx_hB cx_B0 I) (ht : t ∈ ls I J) {s : Nat} (hs : s < (I 3 3).toInt.toNat) : ly_at t s < in_n I s := by
  have e3 : I 3 3 = I 35 3 := (km_0 hr.1).2.2.2
  have hns := (b_sh hB).1
  have key : ∀ s, s < 3 → s < (I 3 3).toInt.toNat → sn I s = in_n I s := by
    intro s h3 h
    rw [sn_is hr hB s h3]
    unfold mm
    rw [if_pos (show s < rf_n I from by unfold rf_n; rw [← e3]; exact h)]
  obtain ⟨g0, g1, g2⟩ := ly_1b _ t ht
  rcases (show s = 0 ∨ s = 1 ∨ s = 2 by omega) with rfl | rfl | rfl
  · rw [← key 0 (by omega) hs]
    exact g0
  · rw [← key 1 (by omega) hs]
    exact g1
  · rw [← key 2 (by omega) hs]
    exact g2
theorem ly_w_6 : ly_w (ev_sI I 6 f6) J t = ly_w I J t := by
  have c3 : ev_sI I 6 f6 3 = I 3 := cx_sI_n _ _ (by decide)
  unfold ly_w ly_s
  rw [c3]
theorem wh_is (hB : cx_hB cx_B0 I) : ∃ w h : Nat, I 1 3 = Int32.ofNat w ∧ I 1 4 = Int32.ofNat h ∧ (2 ≤ w ∧ w ≤ 6) ∧ (2 ≤ h ∧ h ≤ 6) := by
  have hW := hB 1 3
  have hH := hB 1 4
  rw [show cx_B0 1 3 = (2, 6) from rfl] at hW
  rw [show cx_B0 1 4 = (2, 6) from rfl] at hH
  simp only at hW hH
  exact ⟨(I 1 3).toInt.toNat, (I 1 4).toInt.toNat, io_nat (by omega), io_nat (by omega), by omega, by omega⟩
theorem pe_xrim (hr : rl I J) (hh : cx_hok cx_B0 I R T) (hc : cp I J R T) : pe N X 40 [.ref 0, .int x, .int y] (ev_hp I J R T) (fun r h => r = some (.int (v_rim I J x y)) ∧ se_H I J R T h) := by
  have hns := (b_sh hh.1).1
  obtain ⟨w, ht, ew, eh, hw, hhh⟩ := wh_is hh.1
  refine pe_of (pw_p (xo_rim ⟨fun hy => ⟨_, pe_tm hr hh hc, ?_⟩, fun hy => ⟨?_, Or.inl rfl⟩⟩))
  · rintro r h (⟨h1, rfl, rfl⟩ | ⟨h1, rfl, h2⟩)
    · refine pw_p (rm_15 ⟨fun z => absurd z (by decide), fun _ => ⟨?_, Or.inl rfl⟩⟩)
      unfold v_rim
      rw [if_neg hy, if_neg (by omega)]
    · obtain ⟨f6, R', T', rfl, g1, ⟨g2, n, f, g3, g4, g5, g6⟩, g7⟩ := h2
      have c1 : ev_sI I 6 f6 1 = I 1 := cx_sI_n _ _ (by decide)
      have c3 : ev_sI I 6 f6 3 = I 3 := cx_sI_n _ _ (by decide)
      have main : ¬ ev_wi x 0 (Int32.ofNat (ls I J).length - 1) = 0 → ∃ (k r : Nat) (hk : k < (ls I J).length), x = Int32.ofNat k ∧ y = Int32.ofNat r ∧ r < w + ht := by
        intro hx
        obtain ⟨k, e, hk⟩ := wi_len (by omega) hx
        have hy2 := hy
        rw [ew, eh, io_add] at hy2
        obtain ⟨r, e2, hr2⟩ := wi_len (by omega) hy2
        exact ⟨k, r, hk, e, e2, by omega⟩
      refine pw_p (rm_15 ⟨fun _ => ⟨fun hx => ⟨?_, Or.inr ⟨f6, R', T', rfl⟩⟩, fun hx => ?_⟩, fun z => absurd rfl z⟩)
      · rw [g2] at hx
        unfold v_rim
        rw [if_neg hy, if_pos h1, if_pos hx]
      · rw [g2] at hx
        obtain ⟨k, r, hk, rfl, rfl, hr2⟩ := main hx
        have hm := List.getElem_mem hk
        obtain ⟨b0, b1, b2⟩ := ls_512 hr hh.1 hm
        refine ⟨_, pe_cellsOf (t := (ls I J)[k]) g3 g5 (by rw [at_k (by omega) g5, g6 k hk]) (by rw [c3]; exact hns) b0 b1 b2 (fun s hs => ?_), ?_⟩
        · rw [c3] at hs
          have := ly_in hr hh.1 hm hs
          have := (fi_n hr hs).2.1
          omega
        · rintro q h ⟨rfl, rfl⟩
          refine pw_p (rm_41 ⟨_, pe_countIn (w := w) (h := ht) (r := r) (by rw [c1]; exact ew) (by rw [c1]; exact eh) (by rw [c1]; exact hc.1.2.2.1) hw hhh hr2 rfl, ?_⟩)
          rintro q h ⟨rfl, rfl⟩
          refine pw_p (rm_45 ⟨?_, Or.inr ⟨f6, R', T', rfl⟩⟩)
          unfold v_rim
          rw [if_neg hy, if_pos h1, if_neg hx, ly_w_6, ew, eh, io_ti (by omega), io_ti (by omega), io_ti (by omega), io_ti (by omega), Int.toNat_natCast, Int.toNat_natCast, Int.toNat_natCast, Int.toNat_natCast, ly_gd hk]
  · unfold v_rim
    rw [if_pos (Classical.not_not.mp hy)]
theorem pe_mrim (hr : rl I J) (hm : mk I J) (hB : cx_hB cx_B0 I) : pe N X 217 [.ref 35, .int x, .int y] (ev_hp I J R T) (fun r _ => r = some (.int (v_rim I J x y))) := by
  have hns := (b_sh hB).1
  obtain ⟨e0, e1, -, e3⟩ := km_0 hr.1
  obtain ⟨w, ht, ew, eh, hw, hhh⟩ := wh_is hB
  have esum : I 35 0 + I 35 1 - 1 = I 1 4 + I 1 3 - 1 := by rw [← e0, ← e1, ew, eh, io_add, io_add, Nat.add_comm]
  refine pe_of (pw_p (rn_0 ⟨fun hy => ⟨_, pe_laid hr hB N, ?_⟩, fun hy => ?_⟩))
  · rw [il_0, esum] at hy
    rintro r h ⟨I', J', ⟨fI, fJ, fE⟩, ⟨h1, rfl, rfl⟩ | ⟨h1, rfl, w', rfl, hw'⟩⟩
    · refine pw_p (rn_15 ⟨fun z => absurd rfl z, fun _ => ?_⟩)
      unfold v_rim
      rw [if_neg hy, pr_is hr hB, if_neg (by omega)]
    · have hlen := ly_1l (lm_p (rf_n I) (rf_f J) (rf_g I J)) (lm_q (rf_n I) (rf_f J) (rf_g I J)) (mm (in_n I) (rf_n I) 1) (mm (in_n I) (rf_n I) 2) (mm (in_n I) (rf_n I) 0)
      have hlen2 : (lm_L (rf_n I) (in_n I) (rf_f J) (rf_g I J)).length ≤ 10000 := Nat.le_trans hlen (by rw [pr_mm _ (rf_ns hB).2]; exact h1)
      rw [← ls_is hr hm hB] at hw' hlen2 ⊢
      have e14 : al_I I' w' (ls I J).length 35 14 = Int32.ofNat (ls I J).length := by
        unfold al_I
        rw [cx_sI_s, upd_s]
      have e41 : al_I I' w' (ls I J).length 41 = w' := by
        unfold al_I
        rw [cx_sI_n _ _ (by decide), cx_sI_s]
      have e35 : ∀ k, k ≠ 14 → al_I I' w' (ls I J).length 35 k = I 35 k := fun k hk => by
        unfold al_I
        rw [cx_sI_s, upd_n _ _ hk, fI 35 (by decide)]
      refine pw_p (rn_15 ⟨fun _ => ⟨fun hx => ?_, fun hx => ?_⟩, fun z => absurd (by decide) z⟩)
      · rw [e14, il_0] at hx
        unfold v_rim
        rw [if_neg hy, pr_is hr hB, if_pos h1, if_pos hx]
      · rw [e14, il_0] at hx
        obtain ⟨k, rfl, hk⟩ := wi_len (by omega) hx
        have hy2 := hy
        rw [ew, eh, io_add] at hy2
        obtain ⟨r, rfl, hr2⟩ := wi_len (by omega) hy2
        have hmem := List.getElem_mem hk
        have hw2 := hw' k hk
        refine ⟨_, pe_mcells (t := (ls I J)[k]) (k := k) (ns := rf_n I) (e := fun s => J 4 (288 * s + ly_at (ls I J)[k] s)) rfl (by omega) (by rw [e35 3 (by decide)]; exact (rf_ns hB).1) (rf_ns hB).2 (fun s hs => ?_) (fun s hs => ?_) (fun s hs => ?_), ?_⟩
        · rw [e41]
          have := (rf_ns hB).2
          rcases (show s = 0 ∨ s = 1 ∨ s = 2 by omega) with rfl | rfl | rfl
          · exact hw2.1
          · exact hw2.2.1
          · exact hw2.2.2
        · have hs' : s < (I 3 3).toInt.toNat := by rw [e3]; exact hs
          have := ly_in hr hB hmem hs'
          have := (fi_n hr hs').2.1
          omega
        · have hs' : s < (I 3 3).toInt.toNat := by rw [e3]; exact hs
          exact ((fE s hs).2 _ (ly_in hr hB hmem hs')).1
        · rintro q h ⟨rfl, rfl⟩
          refine pw_p (rn_35 ⟨_, pe_countOf (w := w) (h := ht) (r := r) (by rw [e35 0 (by decide), ← e0]; exact ew) (by rw [e35 1 (by decide), ← e1]; exact eh) hw hhh (by omega) rfl, ?_⟩)
          rintro q h ⟨rfl, rfl⟩
          refine pw_p (rn_39 ?_)
          have en : rf_n I = (I 3 3).toInt.toNat := by unfold rf_n; rw [e3]
          unfold v_rim
          rw [if_neg hy, pr_is hr hB, if_pos h1, if_neg hx, ew, eh, io_ti (by omega), io_ti (by omega), io_ti (by omega), io_ti (by omega), Int.toNat_natCast, Int.toNat_natCast, Int.toNat_natCast, Int.toNat_natCast, ly_gd hk, ly_w_or (by omega), en]
  · rw [il_0, esum] at hy
    unfold v_rim
    rw [if_pos (Classical.not_not.mp hy)]
theorem lxc_rim (hX2 : X.1 < 2 ^ 31) (hh : cx_hok cx_B0 I R T) (hr : rl2 I J R T) (x y : Int32) : ev_W X 40 0 (ez_lay [.ref 0, .int x, .int y]) [] (ev_hp I J R T) 0 0 (lw_mid T (fun v I1 J1 R1 T1 => v = v_rim I1 J1 x y ∧ rl2 I1 J1 R1 T1)) := by
  refine (W_pe (l2x_rim hX2 hh hr x y) (fun N => pe_xrim (N := N) hr.1 hh hr.2)).mono ?_
  rintro r h c k ⟨⟨v, I1, J1, R1, T1, e1, e2, e3, e4, e5, e6⟩, q1, q2⟩
  refine ⟨v, I1, J1, R1, T1, e1, e2, e3, e4, e5, ?_, e6⟩
  rw [e1] at q1
  injection q1 with q1
  injection q1 with q1
  rw [e2] at q2
  obtain ⟨h1, h2⟩ := ls_H q2
  have hf : ∀ (p n cc k q : Nat) (fl : List (Nat × Nat)), p ≠ 6 → cx_Ds[p]? = some (n + 2, cc, fl) → fl[k]? = some (0, q) → I1 p k = I p k := by
    intro p n cc k q fl hp hd hq
    rcases q2 with e | ⟨f6, R2, T2, e⟩
    · exact h1_f hd hq (by rw [e])
    · have e7 : I1 p k = ev_sI I 6 f6 p k := h1_f hd hq (by rw [e])
      rw [e7, cx_sI_n _ _ hp]
  have h4 : J1 4 = J 4 := by
    rcases q2 with e | ⟨f6, R2, T2, e⟩
    · exact hp_rowJ (show cx_Ds[4]? = some (1, _, _) from rfl) e
    · exact hp_rowJ (show cx_Ds[4]? = some (1, _, _) from rfl) e
  have h33 : I1 3 3 = I 3 3 := hf 3 0 _ 3 _ _ (by decide) (show cx_Ds[3]? = some (0 + 2, _, _) from rfl) rfl
  have h13 : I1 1 3 = I 1 3 := hf 1 0 _ 3 _ _ (by decide) (show cx_Ds[1]? = some (0 + 2, _, _) from rfl) rfl
  have h14 : I1 1 4 = I 1 4 := hf 1 0 _ 4 _ _ (by decide) (show cx_Ds[1]? = some (0 + 2, _, _) from rfl) rfl
  rw [q1]
  unfold v_rim ly_w ly_s
  rw [h1, h2 0, h2 1, h2 2, h33, h13, h14, h4]
theorem lmc_rim (hX2 : X.1 < 2 ^ 31) (hh : cx_hok cx_B0 I R T) (hr : rl2 I J R T) (x y : Int32) (hh1 : cx_hok cx_B0 I1 R1 T1) (hm : v = v_rim I1 J1 x y ∧ rl2 I1 J1 R1 T1) : ev_W X 217 0 (ez_lay [.ref 35, .int x, .int y]) [] (ev_hp I1 J1 R1 T1) 0 0 (lw_mid T1 (fun u I2 J2 R2 T2 => u = v ∧ rl2 I2 J2 R2 T2)) := by
  refine (W_pe (l2m_rim hX2 x y hh1 hm.2) (fun N => pe_mrim (N := N) hm.2.1 hm.2.2.1 hh1.1)).mono ?_
  rintro r h c k ⟨⟨u, I2, J2, R2, T2, e1, e2, e3, e4, e5, e6⟩, q1⟩
  refine ⟨u, I2, J2, R2, T2, e1, e2, e3, e4, e5, ?_, e6⟩
  rw [e1] at q1
  injection q1 with q1
  injection q1 with q1
  rw [q1]
  exact hm.1.symm
end
