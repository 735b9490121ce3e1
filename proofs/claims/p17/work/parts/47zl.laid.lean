/-! The answers of laid, both sides. -/
section
variable {N : Nat} {X : ez_X} {I : Nat → Nat → Int32} {J : Nat → Nat → Int64} {R : Nat → Nat} {T : List ez_C} {Q : pw_Q} {cz kz : Nat}
set_option maxRecDepth 100000 in
theorem lb_r0 {a0 : Int32} {a1 : Int32} {a2 : Int32} : ∀ G : ez_F, fx_up X 1 G 26 15 [.ref 0, .int a0, .int a1] [.int a2] (ev_hp I J R T) cz kz = bif decide (a2 = (0 : Int32)) then G 26 21 [.ref 0, .int a0, .int a1] [] (ev_hp I J R T) cz kz else G 26 18 [.ref 0, .int a0, .int a1] [] (ev_hp I J R T) cz kz := by
  intro G
  rfl
set_option maxRecDepth 100000 in
theorem lb_r1 {a0 : Int32} {a1 : Int32} : ∀ G : ez_F, fx_up X 3 G 26 21 [.ref 0, .int a0, .int a1] [] (ev_hp I J R T) cz kz = ev_C G 23 [.ref 0, .int a0] (ev_hp I J R T) fun r h1 c1 k1 => G 26 26 [.ref 0, .int a0, .int a1] (r.toList ++ []) h1 (cz + c1) (kz + k1) := by
  intro G
  rfl
set_option maxRecDepth 100000 in
theorem lb_r2 {a0 : Int32} {a1 : Int32} {a2 : Int32} : ∀ G : ez_F, fx_up X 1 G 26 26 [.ref 0, .int a0, .int a1] [.int a2] (ev_hp I J R T) cz kz = bif decide (a2 = (0 : Int32)) then G 26 44 [.ref 0, .int a0, .int a1] [] (ev_hp I J R T) cz kz else G 26 29 [.ref 0, .int a0, .int a1] [] (ev_hp I J R T) cz kz := by
  intro G
  rfl
set_option maxRecDepth 100000 in
theorem lb_r3 {a0 : Int32} {a1 : Int32} : ∀ G : ez_F, fx_up X 2 G 26 44 [.ref 0, .int a0, .int a1] [] (ev_hp I J R T) cz kz = some (some (.int (-2 : Int32)), (ev_hp I J R T), cz, kz) := by
  intro G
  rfl
set_option maxRecDepth 100000 in
theorem lb_r4 {a0 : Int32} {a1 : Int32} : ∀ G : ez_F, fx_up X 4 G 26 29 [.ref 0, .int a0, .int a1] [] (ev_hp I J R T) cz kz = ev_C G 138 [.ref 6, .int a0] (ev_hp I J R T) fun r h1 c1 k1 => G 26 37 [.ref 0, .int a0, .int a1] (r.toList ++ []) h1 (cz + c1) (kz + k1) := by
  intro G
  rfl
set_option maxRecDepth 100000 in
theorem lb_r5 {a0 : Int32} {a1 : Int32} : ∀ G : ez_F, fx_up X 2 G 26 18 [.ref 0, .int a0, .int a1] [] (ev_hp I J R T) cz kz = some (some (.int (-6 : Int32)), (ev_hp I J R T), cz, kz) := by
  intro G
  rfl
theorem lb_15 {v x y : Int32}
    (H : ((v = (0 : Int32) → (((ev_wi x (0 : Int32) ((I 6 3) - (1 : Int32))) = (0 : Int32) → Q (some (.int (-2 : Int32))) (ev_hp I J R T)) ∧ (¬ ((ev_wi x (0 : Int32) ((I 6 3) - (1 : Int32))) = (0 : Int32)) → (∃ Q1 : pw_Q, pe N X 138 [.ref 6, .int x] (ev_hp I J R T) Q1 ∧ ∀ (r : Option Value) (h1 : ez_H), Q1 r h1 → pw N X 26 37 [.ref 0, .int x, .int y] (r.toList ++ []) h1 Q)))) ∧ (¬ (v = (0 : Int32)) → Q (some (.int (-6 : Int32))) (ev_hp I J R T)))) : pw (N + 1) X 26 15 [.ref 0, .int x, .int y] [.int v] (ev_hp I J R T) Q := by
  refine pw_if (by decide) (fun _ _ => lb_r0) (fun w1 => ?_) (fun w1 => ?_)
  · have h1 := H.1 w1
    refine pw_p (pw_callp (by decide) (fun _ _ => lb_r1) (pe_is (eg_isLaying _ _ _ _ _ _)) ?_)
    refine pw_p (pw_if (by decide) (fun _ _ => lb_r2) (fun w2 => ?_) (fun w2 => ?_))
    · have h2 := h1.1 w2
      exact pw_p (pw_ret (by decide) (fun _ _ => lb_r3) h2)
    · have h2 := h1.2 w2
      obtain ⟨Q1, hc, hk⟩ := h2
      exact pw_p (pw_call (by decide) (fun _ _ => lb_r4) hc hk)
  · have h1 := H.2 w1
    exact pw_p (pw_ret (by decide) (fun _ _ => lb_r5) h1)
set_option maxRecDepth 100000 in
theorem lb_r6 {a0 : Int32} : ∀ G : ez_F, fx_up X 2 G 138 0 [.ref 6, .int a0] [] (ev_hp I J R T) cz kz = G 138 4 [.ref 6, .int a0] [.ref (R 0)] (ev_hp I J R T) cz kz := by
  intro G
  rfl
set_option maxRecDepth 100000 in
theorem lb_r7 {a0 : Int32} {a1 : Nat} : ∀ G : ez_F, fx_up X 2 G 138 4 [.ref 6, .int a0] [.ref a1] (ev_hp I J R T) cz kz = ev_C G 3 [.ref a1, .int a0] (ev_hp I J R T) fun r h1 c1 k1 => G 138 8 [.ref 6, .int a0] (r.toList ++ []) h1 (cz + c1) (kz + k1) := by
  intro G
  rfl
theorem lb_co {x : Int32}
    (H : (∃ Q1 : pw_Q, pe N X 3 [.ref (R 0), .int x] (ev_hp I J R T) Q1 ∧ ∀ (r : Option Value) (h1 : ez_H), Q1 r h1 → pw N X 138 8 [.ref 6, .int x] (r.toList ++ []) h1 Q)) : pw (N + 1) X 138 0 [.ref 6, .int x] [] (ev_hp I J R T) Q := by
  refine pw_seg (by decide) (fun _ _ => lb_r6) ?_
  obtain ⟨Q1, hc, hk⟩ := H
  exact pw_p (pw_call (by decide) (fun _ _ => lb_r7) hc hk)
set_option maxRecDepth 100000 in
theorem lb_r8 {a0 : Int32} {a1 : Int32} : ∀ G : ez_F, fx_up X 10 G 45 0 [.int a0, .int a1] [] (ev_hp I J R T) cz kz = some (some (.int ((a0 >>> (((9 : Int32) * ((2 : Int32) - a1)) &&& (31 : Int32))) &&& (511 : Int32))), (ev_hp I J R T), cz, kz) := by
  intro G
  rfl
theorem lb_sp {x y : Int32}
    (H : Q (some (.int ((x >>> (((9 : Int32) * ((2 : Int32) - y)) &&& (31 : Int32))) &&& (511 : Int32)))) (ev_hp I J R T)) : pw (N + 1) X 45 0 [.int x, .int y] [] (ev_hp I J R T) Q := by
  exact pw_ret (by decide) (fun _ _ => lb_r8) H
set_option maxRecDepth 100000 in
theorem lb_r9 {a0 : Int32} {a1 : Int32} {a2 : Int32} : ∀ G : ez_F, fx_up X 2 G 26 37 [.ref 0, .int a0, .int a1] [.int a2] (ev_hp I J R T) cz kz = ev_C G 45 [.int a2, .int a1] (ev_hp I J R T) fun r h1 c1 k1 => G 26 41 [.ref 0, .int a0, .int a1] (r.toList ++ []) h1 (cz + c1) (kz + k1) := by
  intro G
  rfl
theorem lb_37 {v x y : Int32}
    (H : (∃ Q1 : pw_Q, pe N X 45 [.int v, .int y] (ev_hp I J R T) Q1 ∧ ∀ (r : Option Value) (h1 : ez_H), Q1 r h1 → pw N X 26 41 [.ref 0, .int x, .int y] (r.toList ++ []) h1 Q)) : pw (N + 1) X 26 37 [.ref 0, .int x, .int y] [.int v] (ev_hp I J R T) Q := by
  obtain ⟨Q1, hc, hk⟩ := H
  exact pw_call (by decide) (fun _ _ => lb_r9) hc hk
set_option maxRecDepth 100000 in
theorem lb_r10 {a0 : Int32} {a1 : Int32} {a2 : Int32} : ∀ G : ez_F, fx_up X 2 G 26 41 [.ref 0, .int a0, .int a1] [.int a2] (ev_hp I J R T) cz kz = some (some (.int a2), (ev_hp I J R T), cz, kz) := by
  intro G
  rfl
theorem lb_41 {v x y : Int32}
    (H : Q (some (.int v)) (ev_hp I J R T)) : pw (N + 1) X 26 41 [.ref 0, .int x, .int y] [.int v] (ev_hp I J R T) Q := by
  exact pw_ret (by decide) (fun _ _ => lb_r10) H
set_option maxRecDepth 100000 in
theorem lb_r11 {a0 : Int32} {a1 : Int32} : ∀ G : ez_F, fx_up X 1 G 138 8 [.ref 6, .int a0] [.int a1] (ev_hp I J R T) cz kz = some (some (.int a1), (ev_hp I J R T), cz, kz) := by
  intro G
  rfl
theorem lb_c8 {v x : Int32}
    (H : Q (some (.int v)) (ev_hp I J R T)) : pw (N + 1) X 138 8 [.ref 6, .int x] [.int v] (ev_hp I J R T) Q := by
  exact pw_ret (by decide) (fun _ _ => lb_r11) H
set_option maxRecDepth 100000 in
theorem lb_r12 {a0 : Int32} {a1 : Int32} : ∀ G : ez_F, fx_up X 3 G 205 0 [.ref 35, .int a0, .int a1] [] (ev_hp I J R T) cz kz = ev_C G 204 [.ref 35, .int a1] (ev_hp I J R T) fun r h1 c1 k1 => G 205 5 [.ref 35, .int a0, .int a1] (r.toList ++ []) h1 (cz + c1) (kz + k1) := by
  intro G
  rfl
set_option maxRecDepth 100000 in
theorem lb_r13 {a0 : Int32} {a1 : Int32} {a2 : Int32} : ∀ G : ez_F, fx_up X 1 G 205 5 [.ref 35, .int a0, .int a1] [.int a2] (ev_hp I J R T) cz kz = bif decide (¬ a2 = (0 : Int32)) then G 205 11 [.ref 35, .int a0, .int a1] [] (ev_hp I J R T) cz kz else G 205 8 [.ref 35, .int a0, .int a1] [] (ev_hp I J R T) cz kz := by
  intro G
  rfl
set_option maxRecDepth 100000 in
theorem lb_r14 {a0 : Int32} {a1 : Int32} : ∀ G : ez_F, fx_up X 2 G 205 11 [.ref 35, .int a0, .int a1] [] (ev_hp I J R T) cz kz = ev_C G 167 [.ref 35] (ev_hp I J R T) fun r h1 c1 k1 => G 205 15 [.ref 35, .int a0, .int a1] (r.toList ++ []) h1 (cz + c1) (kz + k1) := by
  intro G
  rfl
set_option maxRecDepth 100000 in
theorem lb_r15 {a0 : Int32} {a1 : Int32} : ∀ G : ez_F, fx_up X 2 G 205 8 [.ref 35, .int a0, .int a1] [] (ev_hp I J R T) cz kz = some (some (.int (-2 : Int32)), (ev_hp I J R T), cz, kz) := by
  intro G
  rfl
theorem lb_m0 {x y : Int32}
    (H : ((¬ (ev_il (y.toInt64) 0 ((((I 35 3)) - (1 : Int32)).toInt64)) = (0 : Int32) → (∃ Q1 : pw_Q, pe N X 167 [.ref 35] (ev_hp I J R T) Q1 ∧ ∀ (r : Option Value) (h1 : ez_H), Q1 r h1 → pw N X 205 15 [.ref 35, .int x, .int y] (r.toList ++ []) h1 Q)) ∧ (¬ (¬ (ev_il (y.toInt64) 0 ((((I 35 3)) - (1 : Int32)).toInt64)) = (0 : Int32)) → Q (some (.int (-2 : Int32))) (ev_hp I J R T)))) : pw (N + 1) X 205 0 [.ref 35, .int x, .int y] [] (ev_hp I J R T) Q := by
  refine pw_callp (by decide) (fun _ _ => lb_r12) (pe_is (em_isShip _ _ _ _ _ _)) ?_
  refine pw_p (pw_if (by decide) (fun _ _ => lb_r13) (fun w1 => ?_) (fun w1 => ?_))
  · have h1 := H.1 w1
    obtain ⟨Q1, hc, hk⟩ := h1
    exact pw_p (pw_call (by decide) (fun _ _ => lb_r14) hc hk)
  · have h1 := H.2 w1
    exact pw_p (pw_ret (by decide) (fun _ _ => lb_r15) h1)
set_option maxRecDepth 100000 in
theorem lb_r16 {a0 : Int32} {a1 : Int32} {a2 : Int32} : ∀ G : ez_F, fx_up X 1 G 205 15 [.ref 35, .int a0, .int a1] [.int a2] (ev_hp I J R T) cz kz = bif decide (¬ a2 = (0 : Int32)) then G 205 21 [.ref 35, .int a0, .int a1] [] (ev_hp I J R T) cz kz else G 205 18 [.ref 35, .int a0, .int a1] [] (ev_hp I J R T) cz kz := by
  intro G
  rfl
set_option maxRecDepth 100000 in
theorem lb_r17 {a0 : Int32} {a1 : Int32} : ∀ G : ez_F, fx_up X 3 G 205 21 [.ref 35, .int a0, .int a1] [] (ev_hp I J R T) cz kz = ev_C G 202 [.ref 35, .int a0] (ev_hp I J R T) fun r h1 c1 k1 => G 205 26 [.ref 35, .int a0, .int a1] (r.toList ++ []) h1 (cz + c1) (kz + k1) := by
  intro G
  rfl
set_option maxRecDepth 100000 in
theorem lb_r18 {a0 : Int32} {a1 : Int32} {a2 : Int32} : ∀ G : ez_F, fx_up X 1 G 205 26 [.ref 35, .int a0, .int a1] [.int a2] (ev_hp I J R T) cz kz = bif decide (a2 = (0 : Int32)) then G 205 42 [.ref 35, .int a0, .int a1] [] (ev_hp I J R T) cz kz else G 205 29 [.ref 35, .int a0, .int a1] [] (ev_hp I J R T) cz kz := by
  intro G
  rfl
set_option maxRecDepth 100000 in
theorem lb_r19 {a0 : Int32} {a1 : Int32} : ∀ G : ez_F, fx_up X 2 G 205 42 [.ref 35, .int a0, .int a1] [] (ev_hp I J R T) cz kz = some (some (.int (-2 : Int32)), (ev_hp I J R T), cz, kz) := by
  intro G
  rfl
set_option maxRecDepth 100000 in
theorem lb_r20 {a0 : Int32} {a1 : Int32} : ∀ G : ez_F, fx_up X 7 G 205 29 [.ref 35, .int a0, .int a1] [] (ev_hp I J R T) cz kz = G 205 38 [.ref 35, .int a0, .int a1] [.int (((3 : Int32) * a0) + a1), .ref 41] (ev_hp I J R T) cz kz := by
  intro G
  rfl
set_option maxRecDepth 100000 in
theorem lb_r21 {a0 : Int32} {a1 : Int32} : ∀ G : ez_F, fx_up X 2 G 205 18 [.ref 35, .int a0, .int a1] [] (ev_hp I J R T) cz kz = some (some (.int (-6 : Int32)), (ev_hp I J R T), cz, kz) := by
  intro G
  rfl
theorem lb_m15 {v x y : Int32}
    (H : ((¬ v = (0 : Int32) → (((ev_il (x.toInt64) 0 ((((I 35 14)) - (1 : Int32)).toInt64)) = (0 : Int32) → Q (some (.int (-2 : Int32))) (ev_hp I J R T)) ∧ (¬ ((ev_il (x.toInt64) 0 ((((I 35 14)) - (1 : Int32)).toInt64)) = (0 : Int32)) → pw N X 205 38 [.ref 35, .int x, .int y] [.int (((3 : Int32) * x) + y), .ref 41] (ev_hp I J R T) Q))) ∧ (¬ (¬ v = (0 : Int32)) → Q (some (.int (-6 : Int32))) (ev_hp I J R T)))) : pw (N + 1) X 205 15 [.ref 35, .int x, .int y] [.int v] (ev_hp I J R T) Q := by
  refine pw_if (by decide) (fun _ _ => lb_r16) (fun w1 => ?_) (fun w1 => ?_)
  · have h1 := H.1 w1
    refine pw_p (pw_callp (by decide) (fun _ _ => lb_r17) (pe_is (em_isLaying _ _ _ _ _ _)) ?_)
    refine pw_p (pw_if (by decide) (fun _ _ => lb_r18) (fun w2 => ?_) (fun w2 => ?_))
    · have h2 := h1.1 w2
      exact pw_p (pw_ret (by decide) (fun _ _ => lb_r19) h2)
    · have h2 := h1.2 w2
      refine pw_p (pw_seg (by decide) (fun _ _ => lb_r20) ?_)
      exact h2
  · have h1 := H.2 w1
    exact pw_p (pw_ret (by decide) (fun _ _ => lb_r21) h1)
set_option maxRecDepth 100000 in
theorem lb_r22 {a0 : Int32} {a1 : Int32} {a2 : Int32} : ∀ G : ez_F, fx_up X 2 G 205 39 [.ref 35, .int a0, .int a1] [.int a2] (ev_hp I J R T) cz kz = some (some (.int a2), (ev_hp I J R T), cz, kz) := by
  intro G
  rfl
theorem lb_m39 {v x y : Int32}
    (H : Q (some (.int v)) (ev_hp I J R T)) : pw (N + 1) X 205 39 [.ref 35, .int x, .int y] [.int v] (ev_hp I J R T) Q := by
  exact pw_ret (by decide) (fun _ _ => lb_r22) H
end
section
variable {N : Nat} {X : ez_X} {I I' I1 : Nat → Nat → Int32} {J J' J1 : Nat → Nat → Int64} {R R' R1 : Nat → Nat} {T T' T1 : List ez_C} {v x y : Int32} {f6 : Nat → Int32}
def v_laid (I : Nat → Nat → Int32) (J : Nat → Nat → Int64) (x y : Int32) : Int32 := if ev_wi y 0 (I 3 3 - 1) = 0 then -2 else if sn I 0 * (sn I 1 * sn I 2) ≤ 10000 then (if ev_wi x 0 (Int32.ofNat (ls I J).length - 1) = 0 then -2 else Int32.ofNat (ly_at ((ls I J).getD x.toInt.toNat (0, 0, 0)) y.toInt.toNat)) else -6
theorem ly_gd {L : List ly_t} {k : Nat} {d : ly_t} (h : k < L.length) : L.getD k d = L[k] := by
  rw [List.getD_eq_getElem?_getD, List.getElem?_eq_getElem h]
  rfl
theorem len1 {n : Nat} (hn : n < 2147483648) : (Int32.ofNat n - 1).toInt = (n : Int) - 1 := by
  rw [Int32.toInt_sub, io_ti hn, show (1 : Int32).toInt = 1 from by decide, cx_bm32]
  simp only [cx_i32]
  omega
theorem wi_len {n : Nat} {x : Int32} (hn : n < 2147483648) (h : ¬ ev_wi x 0 (Int32.ofNat n - 1) = 0) : ∃ k : Nat, x = Int32.ofNat k ∧ k < n := by
  have h1 := ev_wi_ne h
  rw [len1 hn, show (0 : Int32).toInt = 0 from by decide] at h1
  exact ⟨x.toInt.toNat, io_nat h1.1, by omega⟩
theorem at_k {n k : Nat} {f : Nat → Int32} (hk : k < n) (hn : n ≤ 10000) : ev_at n f (Int32.ofNat k) = f k := by
  unfold ev_at
  rw [if_neg, if_neg, io_cl (by omega)]
  · rw [io_le (by omega) (by omega)]
    omega
  · rw [show (0 : Int32) = Int32.ofNat 0 from rfl, io_lt (by omega) (by omega)]
    omega
theorem sn_512 (hr : rl I J) (hB : cx_hB cx_B0 I) (s : Nat) (hs : s < 3) : sn I s < 512 := by
  rw [sn_is hr hB s hs]
  have e3 : I 3 3 = I 35 3 := (km_0 hr.1).2.2.2
  unfold mm
  split
  · rename_i h
    have h2 : s < (I 3 3).toInt.toNat := by rw [e3]; exact h
    have := (fi_n hr h2).2.1
    omega
  · omega
theorem ls_512 (hr : rl I J) (hB : cx_hB cx_B0 I) {t : ly_t} (ht : t ∈ ls I J) : t.1 < 512 ∧ t.2.1 < 512 ∧ t.2.2 < 512 := by
  have h0 := sn_512 hr hB 0 (by decide)
  have h1 := sn_512 hr hB 1 (by decide)
  have h2 := sn_512 hr hB 2 (by decide)
  obtain ⟨g0, g1, g2⟩ := ly_1b _ t ht
  exact ⟨by omega, by omega, by omega⟩
theorem pe_code {n : Nat} {f : Nat → Int32} (h : rowT (R 0) T n f) (hn : n ≤ 10000) : pe N X 138 [.ref 6, .int x] (ev_hp I J R T) (fun r h => r = some (.int (ev_at n f x)) ∧ h = ev_hp I J R T) := by
  refine pe_of (pw_p (lb_co ⟨_, pe_atR h (by omega), ?_⟩))
  rintro r h ⟨rfl, rfl⟩
  exact pw_p (lb_c8 ⟨rfl, rfl⟩)
theorem pe_spotIn : pe N X 45 [.int x, .int y] (ev_hp I J R T) (fun r h => r = some (.int ((x >>> (((9 : Int32) * ((2 : Int32) - y)) &&& (31 : Int32))) &&& (511 : Int32))) ∧ h = ev_hp I J R T) := pe_of (pw_p (lb_sp ⟨rfl, rfl⟩))
theorem pe_xlaid (hr : rl I J) (hh : cx_hok cx_B0 I R T) (hc : cp I J R T) : pe N X 26 [.ref 0, .int x, .int y] (ev_hp I J R T) (fun r h => r = some (.int (v_laid I J x y)) ∧ se_H I J R T h) := by
  have hns := (b_sh hh.1).1
  refine pe_of (pw_p (xo_laid ⟨fun hy => ⟨_, pe_tm hr hh hc, ?_⟩, fun hy => ⟨?_, Or.inl rfl⟩⟩))
  · rintro r h (⟨h1, rfl, rfl⟩ | ⟨h1, rfl, h2⟩)
    · refine pw_p (lb_15 ⟨fun z => absurd z (by decide), fun _ => ⟨?_, Or.inl rfl⟩⟩)
      unfold v_laid
      rw [if_neg hy, if_neg (by omega)]
    · obtain ⟨f6, R', T', rfl, g1, ⟨g2, n, f, g3, g4, g5, g6⟩, g7⟩ := h2
      refine pw_p (lb_15 ⟨fun _ => ⟨fun hx => ⟨?_, Or.inr ⟨f6, R', T', rfl⟩⟩, fun hx => ⟨_, pe_code g3 g5, ?_⟩⟩, fun z => absurd rfl z⟩)
      · rw [g2] at hx
        unfold v_laid
        rw [if_neg hy, if_pos h1, if_pos hx]
      · rintro r h ⟨rfl, rfl⟩
        refine pw_p (lb_37 ⟨_, pe_spotIn, ?_⟩)
        rintro r h ⟨rfl, rfl⟩
        refine pw_p (lb_41 ⟨?_, Or.inr ⟨f6, R', T', rfl⟩⟩)
        rw [g2] at hx
        unfold v_laid
        rw [if_neg hy, if_pos h1, if_neg hx]
        obtain ⟨k, rfl, hk⟩ := wi_len (by omega) hx
        have hy2 := hy
        rw [io_nat hns.1] at hy2
        obtain ⟨s, rfl, hs⟩ := wi_len (by omega) hy2
        obtain ⟨b0, b1, b2⟩ := ls_512 hr hh.1 (List.getElem_mem hk)
        rw [at_k (by omega) g5, g6 k hk, ly_spot b0 b1 b2 (by omega), io_ti (by omega), io_ti (by omega), Int.toNat_natCast, Int.toNat_natCast, ly_gd hk]
  · unfold v_laid
    rw [if_pos (Classical.not_not.mp hy)]
theorem pe_mlaid (hr : rl I J) (hm : mk I J) (hB : cx_hB cx_B0 I) : pe N X 205 [.ref 35, .int x, .int y] (ev_hp I J R T) (fun r _ => r = some (.int (v_laid I J x y))) := by
  have hns := (b_sh hB).1
  have e3 : I 3 3 = I 35 3 := (km_0 hr.1).2.2.2
  refine pe_of (pw_p (lb_m0 ⟨fun hy => ⟨_, pe_laid hr hB N, ?_⟩, fun hy => ?_⟩))
  · rw [il_0, ← e3] at hy
    rintro r h ⟨I', J', -, ⟨h1, rfl, rfl⟩ | ⟨h1, rfl, w, rfl, hw⟩⟩
    · refine pw_p (lb_m15 ⟨fun z => absurd rfl z, fun _ => ?_⟩)
      unfold v_laid
      rw [if_neg hy, pr_is hr hB, if_neg (by omega)]
    · have hlen := ly_1l (lm_p (rf_n I) (rf_f J) (rf_g I J)) (lm_q (rf_n I) (rf_f J) (rf_g I J)) (mm (in_n I) (rf_n I) 1) (mm (in_n I) (rf_n I) 2) (mm (in_n I) (rf_n I) 0)
      have hlen2 : (lm_L (rf_n I) (in_n I) (rf_f J) (rf_g I J)).length ≤ 10000 := Nat.le_trans hlen (by rw [pr_mm _ (rf_ns hB).2]; exact h1)
      have e14 : al_I I' w (lm_L (rf_n I) (in_n I) (rf_f J) (rf_g I J)).length 35 14 = Int32.ofNat (lm_L (rf_n I) (in_n I) (rf_f J) (rf_g I J)).length := by
        unfold al_I
        rw [cx_sI_s, upd_s]
      have e41 : al_I I' w (lm_L (rf_n I) (in_n I) (rf_f J) (rf_g I J)).length 41 = w := by
        unfold al_I
        rw [cx_sI_n _ _ (by decide), cx_sI_s]
      refine pw_p (lb_m15 ⟨fun _ => ⟨fun hx => ?_, fun hx => ?_⟩, fun z => absurd (by decide) z⟩)
      · rw [e14, il_0] at hx
        unfold v_laid
        rw [if_neg hy, pr_is hr hB, if_pos h1, ls_is hr hm hB, if_pos hx]
      · rw [e14, il_0] at hx
        refine pw_p (pw_iald (by rfl) (cx_getI (show cx_Ds[41]? = some (0, 30003, []) from rfl)) (fun _ => pw_p (lb_m39 ?_)))
        unfold v_laid
        rw [if_neg hy, pr_is hr hB, if_pos h1, ls_is hr hm hB, if_neg hx, e41]
        obtain ⟨k, rfl, hk⟩ := wi_len (by omega) hx
        have hy2 := hy
        rw [io_nat hns.1] at hy2
        obtain ⟨s, rfl, hs⟩ := wi_len (by omega) hy2
        have hw2 := hw k hk
        rw [show (3 : Int32) = Int32.ofNat 3 from rfl, io_mul, io_add, io_cl (by omega), io_ti (by omega), io_ti (by omega), Int.toNat_natCast, Int.toNat_natCast, ly_gd hk]
        have hh : s = 0 ∨ s = 1 ∨ s = 2 := by omega
        rcases hh with rfl | rfl | rfl
        · rw [Nat.add_zero, hw2.1]; rfl
        · rw [hw2.2.1]; rfl
        · rw [hw2.2.2]; rfl
  · rw [il_0, ← e3] at hy
    unfold v_laid
    rw [if_pos (Classical.not_not.mp hy)]
theorem lxc_laid (hX2 : X.1 < 2 ^ 31) (hh : cx_hok cx_B0 I R T) (hr : rl2 I J R T) (x y : Int32) : ev_W X 26 0 (ez_lay [.ref 0, .int x, .int y]) [] (ev_hp I J R T) 0 0 (lw_mid T (fun v I1 J1 R1 T1 => v = v_laid I1 J1 x y ∧ rl2 I1 J1 R1 T1)) := by
  refine (W_pe (l2x_laid hX2 hh hr x y) (fun N => pe_xlaid (N := N) hr.1 hh hr.2)).mono ?_
  rintro r h c k ⟨⟨v, I1, J1, R1, T1, e1, e2, e3, e4, e5, e6⟩, q1, q2⟩
  refine ⟨v, I1, J1, R1, T1, e1, e2, e3, e4, e5, ?_, e6⟩
  rw [e1] at q1
  injection q1 with q1
  injection q1 with q1
  rw [e2] at q2
  obtain ⟨h1, h2⟩ := ls_H q2
  have h3 : I1 3 3 = I 3 3 := by
    rcases q2 with e | ⟨f6, R2, T2, e⟩
    · exact hp_fld (n := 0) (k := 3) (show cx_Ds[3]? = some (0 + 2, _, _) from rfl) rfl e
    · have e7 := hp_fld (n := 0) (k := 3) (show cx_Ds[3]? = some (0 + 2, _, _) from rfl) rfl e
      rw [e7, cx_sI_n _ _ (by decide)]
  rw [q1]
  unfold v_laid
  rw [h1, h2 0, h2 1, h2 2, h3]
theorem lmc_laid (hX2 : X.1 < 2 ^ 31) (hh : cx_hok cx_B0 I R T) (hr : rl2 I J R T) (x y : Int32) (hh1 : cx_hok cx_B0 I1 R1 T1) (hm : v = v_laid I1 J1 x y ∧ rl2 I1 J1 R1 T1) : ev_W X 205 0 (ez_lay [.ref 35, .int x, .int y]) [] (ev_hp I1 J1 R1 T1) 0 0 (lw_mid T1 (fun u I2 J2 R2 T2 => u = v ∧ rl2 I2 J2 R2 T2)) := by
  refine (W_pe (l2m_laid hX2 x y hh1 hm.2) (fun N => pe_mlaid (N := N) hm.2.1 hm.2.2.1 hh1.1)).mono ?_
  rintro r h c k ⟨⟨u, I2, J2, R2, T2, e1, e2, e3, e4, e5, e6⟩, q1⟩
  refine ⟨u, I2, J2, R2, T2, e1, e2, e3, e4, e5, ?_, e6⟩
  rw [e1] at q1
  injection q1 with q1
  injection q1 with q1
  rw [q1]
  exact hm.1.symm
end
