section
/-! The reference behind isCrowded. -/
section
variable {N : Nat} {X : ez_X} {I : Nat → Nat → Int32} {J : Nat → Nat → Int64} {R : Nat → Nat} {T : List ez_C} {Q : pw_Q} {cz kz : Nat}
set_option maxRecDepth 100000 in
theorem ia_r0  : ∀ G : ez_F, fx_up X 2 G 201 0 [.ref 35] [] (ev_hp I J R T) cz kz = ev_C G 167 [.ref 35] (ev_hp I J R T) fun r h1 c1 k1 => G 201 4 [.ref 35] (r.toList ++ []) h1 (cz + c1) (kz + k1) := by
  intro G
  rfl
theorem ia_0 
    (H : (∃ Q1 : pw_Q, pe N X 167 [.ref 35] (ev_hp I J R T) Q1 ∧ ∀ (r : Option Value) (h1 : ez_H), Q1 r h1 → pw N X 201 4 [.ref 35] (r.toList ++ []) h1 Q)) : pw (N + 1) X 201 0 [.ref 35] [] (ev_hp I J R T) Q := by
  obtain ⟨Q1, hc, hk⟩ := H
  exact pw_call (by decide) (fun _ _ => ia_r0) hc hk
set_option maxRecDepth 100000 in
theorem ia_r1 {a0 : Int32} : ∀ G : ez_F, fx_up X 1 G 201 4 [.ref 35] [.int a0] (ev_hp I J R T) cz kz = bif decide (a0 = (0 : Int32)) then G 201 17 [.ref 35] [] (ev_hp I J R T) cz kz else G 201 7 [.ref 35] [] (ev_hp I J R T) cz kz := by
  intro G
  rfl
set_option maxRecDepth 100000 in
theorem ia_r2  : ∀ G : ez_F, fx_up X 2 G 201 17 [.ref 35] [] (ev_hp I J R T) cz kz = G 201 22 [.ref 35] [.int (1 : Int32)] (ev_hp I J R T) cz kz := by
  intro G
  rfl
set_option maxRecDepth 100000 in
theorem ia_r3  : ∀ G : ez_F, fx_up X 2 G 201 7 [.ref 35] [] (ev_hp I J R T) cz kz = G 201 11 [.ref 35] [.int (I 35 14)] (ev_hp I J R T) cz kz := by
  intro G
  rfl
set_option maxRecDepth 100000 in
theorem ia_r4 {a0 : Int32} : ∀ G : ez_F, fx_up X 2 G 201 11 [.ref 35] [.int a0] (ev_hp I J R T) cz kz = bif decide (a0 ≤ (400 : Int32)) then G 201 21 [.ref 35] [] (ev_hp I J R T) cz kz else G 201 17 [.ref 35] [] (ev_hp I J R T) cz kz := by
  intro G
  rfl
set_option maxRecDepth 100000 in
theorem ia_r5  : ∀ G : ez_F, fx_up X 1 G 201 21 [.ref 35] [] (ev_hp I J R T) cz kz = G 201 22 [.ref 35] [.int (0 : Int32)] (ev_hp I J R T) cz kz := by
  intro G
  rfl
theorem ia_4 {v : Int32}
    (H : ((v = (0 : Int32) → ((1 : Int32) = 0 ∨ (1 : Int32) = 1 → Q (some (.int (1 : Int32))) (ev_hp I J R T))) ∧ (¬ (v = (0 : Int32)) → (((I 35 14) ≤ (400 : Int32) → ((0 : Int32) = 0 ∨ (0 : Int32) = 1 → Q (some (.int (0 : Int32))) (ev_hp I J R T))) ∧ (¬ ((I 35 14) ≤ (400 : Int32)) → ((1 : Int32) = 0 ∨ (1 : Int32) = 1 → Q (some (.int (1 : Int32))) (ev_hp I J R T))))))) : pw (N + 1) X 201 4 [.ref 35] [.int v] (ev_hp I J R T) Q := by
  refine pw_if (by decide) (fun _ _ => ia_r1) (fun w1 => ?_) (fun w1 => ?_)
  · have h1 := H.1 w1
    refine pw_p (pw_seg (by decide) (fun _ _ => ia_r2) ?_)
    exact pw_p (pw_zret (by rfl) h1)
  · have h1 := H.2 w1
    refine pw_p (pw_seg (by decide) (fun _ _ => ia_r3) ?_)
    refine pw_p (pw_if (by decide) (fun _ _ => ia_r4) (fun w2 => ?_) (fun w2 => ?_))
    · have h2 := h1.1 w2
      refine pw_p (pw_seg (by decide) (fun _ _ => ia_r5) ?_)
      exact pw_p (pw_zret (by rfl) h2)
    · have h2 := h1.2 w2
      refine pw_p (pw_seg (by decide) (fun _ _ => ia_r2) ?_)
      exact pw_p (pw_zret (by rfl) h2)
end
/-- the reference's layings stand -/
noncomputable def mg (I : Nat → Nat → Int32) (J : Nat → Nat → Int64) (A : Nat → Nat → Int32) (B : Nat → Nat → Int64) : Prop := (∀ k, k ≠ 14 → k ≠ 36 → A 35 k = I 35 k) ∧ A 35 14 = Int32.ofNat (ls I J).length ∧ ml_row (A 41) (ls I J) ∧ ∀ s, s < rf_n I → ∀ a, a < in_n I s → B 39 (300 * s + a) = J 4 (288 * s + a)
theorem mg_d {I A A' : Nat → Nat → Int32} {J B B' : Nat → Nat → Int64} (h : mg I J A B) (h35 : ∀ k, k ≠ 36 → A' 35 k = A 35 k) (h41 : A' 41 = A 41) (h39 : B' 39 = B 39) : mg I J A' B' := by
  obtain ⟨h1, h2, h3, h4⟩ := h
  refine ⟨fun k a b => (h35 k b).trans (h1 k a b), (h35 14 (by decide)).trans h2, ?_, ?_⟩
  · rw [h41]
    exact h3
  · rw [h39]
    exact h4
section
variable {N : Nat} {X : ez_X} {I A : Nat → Nat → Int32} {J B : Nat → Nat → Int64} {R : Nat → Nat} {T : List ez_C} {x : Int32}
/-- at most 400 layings -/
abbrev few (I : Nat → Nat → Int32) (J : Nat → Nat → Int64) : Prop := sn I 0 * (sn I 1 * sn I 2) ≤ 10000 ∧ (ls I J).length ≤ 400
theorem pe_mcr (hr : rl I J) (hm : mk I J) (hB : cx_hB cx_B0 I) (N : Nat) : pe N X 201 [.ref 35] (ev_hp I J R T) (fun r h => ∃ A B, h = ev_hp A B R T ∧ ((¬ few I J ∧ r = some (.int 1)) ∨ (few I J ∧ r = some (.int 0) ∧ mg I J A B))) := by
  refine pe_of (pw_p (ia_0 ⟨_, pe_laid hr hB _, ?_⟩))
  rintro r h ⟨I', J', ⟨fI, fJ, fE⟩, ⟨h1, rfl, rfl⟩ | ⟨h1, rfl, w', rfl, hw'⟩⟩
  · refine pw_p (ia_4 ⟨fun _ _ => ⟨I', J', rfl, Or.inl ⟨fun z => ?_, rfl⟩⟩, fun z => absurd rfl z⟩)
    have z1 := z.1
    rw [pr_is hr hB] at z1
    omega
  · have hlen := ly_1l (lm_p (rf_n I) (rf_f J) (rf_g I J)) (lm_q (rf_n I) (rf_f J) (rf_g I J)) (mm (in_n I) (rf_n I) 1) (mm (in_n I) (rf_n I) 2) (mm (in_n I) (rf_n I) 0)
    have hlen2 : (lm_L (rf_n I) (in_n I) (rf_f J) (rf_g I J)).length ≤ 10000 := Nat.le_trans hlen (by rw [pr_mm _ (rf_ns hB).2]; exact h1)
    rw [← ls_is hr hm hB] at hw' hlen2 ⊢
    have e14 : al_I I' w' (ls I J).length 35 14 = Int32.ofNat (ls I J).length := by
      unfold al_I
      rw [cx_sI_s, upd_s]
    have e41 : al_I I' w' (ls I J).length 41 = w' := by
      unfold al_I
      rw [cx_sI_n _ _ (by decide), cx_sI_s]
    have e35 : ∀ k, k ≠ 14 → al_I I' w' (ls I J).length 35 k = I 35 k := fun k hk => by
      unfold al_I
      rw [cx_sI_s, upd_n _ _ hk, fI 35 (by decide)]
    have hP : sn I 0 * (sn I 1 * sn I 2) ≤ 10000 := by
      rw [pr_is hr hB]
      exact h1
    have hmg : mg I J (al_I I' w' (ls I J).length) J' := ⟨fun k a _ => e35 k a, e14, by rw [e41]; exact hw', fun s hs a ha => ((fE s hs).2 a ha).1⟩
    refine pw_p (ia_4 ?_)
    rw [e14, show (400 : Int32) = Int32.ofNat 400 from rfl, io_le (by omega) (by omega)]
    exact ⟨fun z => absurd z (by decide), fun _ => ⟨fun g _ => ⟨_, J', rfl, Or.inr ⟨⟨hP, g⟩, rfl, hmg⟩⟩, fun g _ => ⟨_, J', rfl, Or.inl ⟨fun z => g z.2, rfl⟩⟩⟩⟩
theorem mg_3 (hr : rl I J) (hB : cx_hB cx_B0 I) (h : mg I J A B) : A 35 3 = Int32.ofNat (rf_n I) ∧ rf_n I ≤ 3 ∧ rf_n I = (I 3 3).toInt.toNat := by
  refine ⟨?_, (rf_ns hB).2, ?_⟩
  · rw [h.1 3 (by decide) (by decide)]
    exact (rf_ns hB).1
  · unfold rf_n
    rw [(km_0 hr.1).2.2.2]
theorem mg_ml {k s : Nat} (h : mg I J A B) (hk : k < (ls I J).length) (hs : s < 3) : A 41 (3 * k + s) = Int32.ofNat (ly_at ((ls I J).getD k (0, 0, 0)) s) := by
  have hw2 := h.2.2.1 k hk
  rw [ly_gd hk]
  rcases (show s = 0 ∨ s = 1 ∨ s = 2 by omega) with rfl | rfl | rfl
  · exact hw2.1
  · exact hw2.2.1
  · exact hw2.2.2
theorem mg_sp {k s : Nat} (hr : rl I J) (hB : cx_hB cx_B0 I) (h : mg I J A B) (hk : k < (ls I J).length) (hs : s < rf_n I) : ly_at ((ls I J).getD k (0, 0, 0)) s < 288 ∧ B 39 (300 * s + ly_at ((ls I J).getD k (0, 0, 0)) s) = ly_s I J ((ls I J).getD k (0, 0, 0)) s := by
  obtain ⟨-, -, e3⟩ := mg_3 hr hB h
  have hs' : s < (I 3 3).toInt.toNat := by rw [← e3]; exact hs
  rw [ly_gd hk]
  have h1 := ly_in hr hB (List.getElem_mem hk) hs'
  have h2 := (fi_n hr hs').2.1
  refine ⟨by omega, ?_⟩
  rw [h.2.2.2 s hs _ h1]
  unfold ly_s
  rw [if_pos hs']
/-- where ships lie by laying k -/
theorem pe_mcl {k : Nat} (hr : rl I J) (hB : cx_hB cx_B0 I) (h : mg I J A B) (hk : k < (ls I J).length) (hlen : (ls I J).length ≤ 10000) (hx : x = Int32.ofNat k) : pe N X 180 [.ref 35, .int x] (ev_hp A B R T) (fun r h => r = some (.long (ly_w I J ((ls I J).getD k (0, 0, 0)))) ∧ h = ev_hp A B R T) := by
  obtain ⟨e3, hn3, en⟩ := mg_3 hr hB h
  refine pe_mono (pe_mcells (t := (ls I J).getD k (0, 0, 0)) (k := k) (ns := rf_n I) (e := fun s => J 4 (288 * s + ly_at ((ls I J).getD k (0, 0, 0)) s)) hx (by omega) e3 hn3 (fun s hs => mg_ml h hk (by omega)) (fun s hs => (mg_sp hr hB h hk hs).1) (fun s hs => ?_)) ?_
  · rw [(mg_sp hr hB h hk hs).2]
    unfold ly_s
    rw [if_pos (by rw [← en]; exact hs)]
  · rintro r h' ⟨rfl, rfl⟩
    refine ⟨?_, rfl⟩
    rw [en, ← ly_w_or (by omega)]
end
end
section
/-! The answers of clues, both sides. -/
section
variable {N : Nat} {X : ez_X} {I : Nat → Nat → Int32} {J : Nat → Nat → Int64} {R : Nat → Nat} {T : List ez_C} {Q : pw_Q} {cz kz : Nat}
set_option maxRecDepth 100000 in
theorem cl9_r0 {a0 : Int32} : ∀ G : ez_F, fx_up X 11 G 77 0 [.ref 32, .int a0] [] (ev_hp I J R T) cz kz = ev_C G 4 [.ref 34, .int (a0 >>> ((6 : Int32) &&& (31 : Int32)))] (ev_hp I J R T) fun r h1 c1 k1 => G 77 19 [.ref 32, .int a0] (r.toList ++ [.int (a0 >>> ((6 : Int32) &&& (31 : Int32))), .ref 34]) h1 (cz + c1) (kz + k1) := by
  intro G
  rfl
set_option maxRecDepth 100000 in
theorem cl9_r1 {a0 : Int32} {a1 : Int64} {a2 : Int32} : ∀ G : ez_F, fx_up X 7 G 77 19 [.ref 32, .int a0] [.long a1, .int a2, .ref 34] (ev_hp I J R T) cz kz = ev_C G 39 [.ref 34, .int a2, .long (a1 ||| ((1 : Int64) <<< ((a0 &&& (63 : Int32)).toInt64 &&& (63 : Int64))))] (ev_hp I J R T) fun r h1 c1 k1 => G 77 29 [.ref 32, .int a0] (r.toList ++ []) h1 (cz + c1) (kz + k1) := by
  intro G
  rfl
set_option maxRecDepth 100000 in
theorem cl9_r2 {a0 : Int32} : ∀ G : ez_F, fx_up X 1 G 77 29 [.ref 32, .int a0] [] (ev_hp I J R T) cz kz = some (none, (ev_hp I J R T), cz, kz) := by
  intro G
  rfl
theorem ch_0 {s : Int32}
    (H : Q none (ev_hp I (ev_sJ J 34 (ev_putJ 64 (J 34) (s >>> ((6 : Int32) &&& (31 : Int32))) ((ev_atJ 64 (J 34) (s >>> ((6 : Int32) &&& (31 : Int32)))) ||| ((1 : Int64) <<< ((s &&& (63 : Int32)).toInt64 &&& (63 : Int64)))))) R T)) : pw (N + 1) X 77 0 [.ref 32, .int s] [] (ev_hp I J R T) Q := by
  refine pw_callp (by decide) (fun _ _ => cl9_r0) (pe_atJ (show cx_Ds[34]? = some (1, 64, []) from rfl) (by decide)) ?_
  refine pw_p (pw_callp (by decide) (fun _ _ => cl9_r1) (pe_putJ (show cx_Ds[34]? = some (1, 64, []) from rfl) (by decide)) ?_)
  exact pw_p (pw_ret (by decide) (fun _ _ => cl9_r2) H)
set_option maxRecDepth 100000 in
theorem cl9_r3 {a0 : Int32} : ∀ G : ez_F, fx_up X 6 G 78 0 [.ref 32, .int a0] [] (ev_hp I J R T) cz kz = ev_C G 4 [.ref 34, .int (a0 >>> ((6 : Int32) &&& (31 : Int32)))] (ev_hp I J R T) fun r h1 c1 k1 => G 78 11 [.ref 32, .int a0] (r.toList ++ []) h1 (cz + c1) (kz + k1) := by
  intro G
  rfl
set_option maxRecDepth 100000 in
theorem cl9_r4 {a0 : Int32} {a1 : Int64} : ∀ G : ez_F, fx_up X 9 G 78 11 [.ref 32, .int a0] [.long a1] (ev_hp I J R T) cz kz = bif decide ((lg_cmp ((a1.toUInt64 >>> ((a0 &&& (63 : Int32)).toInt64.toUInt64 &&& Int64.toUInt64 63)).toInt64 &&& (1 : Int64)) (0 : Int64)) = (0 : Int32)) then G 78 27 [.ref 32, .int a0] [] (ev_hp I J R T) cz kz else G 78 23 [.ref 32, .int a0] [] (ev_hp I J R T) cz kz := by
  intro G
  rfl
set_option maxRecDepth 100000 in
theorem cl9_r5 {a0 : Int32} : ∀ G : ez_F, fx_up X 1 G 78 27 [.ref 32, .int a0] [] (ev_hp I J R T) cz kz = G 78 28 [.ref 32, .int a0] [.int (0 : Int32)] (ev_hp I J R T) cz kz := by
  intro G
  rfl
set_option maxRecDepth 100000 in
theorem cl9_r6 {a0 : Int32} : ∀ G : ez_F, fx_up X 2 G 78 23 [.ref 32, .int a0] [] (ev_hp I J R T) cz kz = G 78 28 [.ref 32, .int a0] [.int (1 : Int32)] (ev_hp I J R T) cz kz := by
  intro G
  rfl
theorem ci_0 {s : Int32}
    (H : (((lg_cmp (((ev_atJ 64 (J 34) (s >>> ((6 : Int32) &&& (31 : Int32)))).toUInt64 >>> ((s &&& (63 : Int32)).toInt64.toUInt64 &&& Int64.toUInt64 63)).toInt64 &&& (1 : Int64)) (0 : Int64)) = (0 : Int32) → ((0 : Int32) = 0 ∨ (0 : Int32) = 1 → Q (some (.int (0 : Int32))) (ev_hp I J R T))) ∧ (¬ ((lg_cmp (((ev_atJ 64 (J 34) (s >>> ((6 : Int32) &&& (31 : Int32)))).toUInt64 >>> ((s &&& (63 : Int32)).toInt64.toUInt64 &&& Int64.toUInt64 63)).toInt64 &&& (1 : Int64)) (0 : Int64)) = (0 : Int32)) → ((1 : Int32) = 0 ∨ (1 : Int32) = 1 → Q (some (.int (1 : Int32))) (ev_hp I J R T))))) : pw (N + 1) X 78 0 [.ref 32, .int s] [] (ev_hp I J R T) Q := by
  refine pw_callp (by decide) (fun _ _ => cl9_r3) (pe_atJ (show cx_Ds[34]? = some (1, 64, []) from rfl) (by decide)) ?_
  refine pw_p (pw_if (by decide) (fun _ _ => cl9_r4) (fun w1 => ?_) (fun w1 => ?_))
  · have h1 := H.1 w1
    refine pw_p (pw_seg (by decide) (fun _ _ => cl9_r5) ?_)
    exact pw_p (pw_zret (by rfl) h1)
  · have h1 := H.2 w1
    refine pw_p (pw_seg (by decide) (fun _ _ => cl9_r6) ?_)
    exact pw_p (pw_zret (by rfl) h1)
set_option maxRecDepth 100000 in
theorem cl9_r7 {a0 : Int64} {a1 : Int64} : ∀ G : ez_F, fx_up X 3 G 83 0 [.ref 32, .long a0, ez_fill, .long a1, ez_fill] [] (ev_hp I J R T) cz kz = ev_C G 151 [.ref 1] (ev_hp I J R T) fun r h1 c1 k1 => G 83 7 [.ref 32, .long a0, ez_fill, .long a1, ez_fill] (r.toList ++ []) h1 (cz + c1) (kz + k1) := by
  intro G
  rfl
set_option maxRecDepth 100000 in
theorem cl9_r8 {a0 : Int64} {a1 : Int64} {a2 : Int32} : ∀ G : ez_F, fx_up X 5 G 83 7 [.ref 32, .long a0, ez_fill, .long a1, ez_fill] [.int a2] (ev_hp I J R T) cz kz = G 83 15 [.ref 32, .long a0, ez_fill, .long a1, ez_fill, .int a2, .int (0 : Int32), .int (0 : Int32)] [] (ev_hp I J R T) cz kz := by
  intro G
  rfl
theorem cu_0 {u v : Int64}
    (H : pw N X 83 15 [.ref 32, .long u, ez_fill, .long v, ez_fill, .int ((I 1 4) + (I 1 3)), .int (0 : Int32), .int (0 : Int32)] [] (ev_hp I J R T) Q) : pw (N + 1) X 83 0 [.ref 32, .long u, ez_fill, .long v, ez_fill] [] (ev_hp I J R T) Q := by
  refine pw_callp (by decide) (fun _ _ => cl9_r7) (pe_rimTotal) ?_
  refine pw_p (pw_seg (by decide) (fun _ _ => cl9_r8) ?_)
  exact H
set_option maxRecDepth 100000 in
theorem cl9_r9 {a0 : Int64} {a1 : Int64} {a2 : Int32} {a3 : Int32} {a4 : Int32} : ∀ G : ez_F, fx_up X 3 G 83 15 [.ref 32, .long a0, ez_fill, .long a1, ez_fill, .int a2, .int a3, .int a4] [] (ev_hp I J R T) cz kz = bif decide (a2 ≤ a4) then G 83 54 [.ref 32, .long a0, ez_fill, .long a1, ez_fill, .int a2, .int a3, .int a4] [] (ev_hp I J R T) cz kz else G 83 22 [.ref 32, .long a0, ez_fill, .long a1, ez_fill, .int a2, .int a3, .int a4] [] (ev_hp I J R T) cz kz := by
  intro G
  rfl
set_option maxRecDepth 100000 in
theorem cl9_r10 {a0 : Int64} {a1 : Int64} {a2 : Int32} {a3 : Int32} {a4 : Int32} : ∀ G : ez_F, fx_up X 2 G 83 54 [.ref 32, .long a0, ez_fill, .long a1, ez_fill, .int a2, .int a3, .int a4] [] (ev_hp I J R T) cz kz = some (some (.int a3), (ev_hp I J R T), cz, kz) := by
  intro G
  rfl
set_option maxRecDepth 100000 in
theorem cl9_r11 {a0 : Int64} {a1 : Int64} {a2 : Int32} {a3 : Int32} {a4 : Int32} : ∀ G : ez_F, fx_up X 4 G 83 22 [.ref 32, .long a0, ez_fill, .long a1, ez_fill, .int a2, .int a3, .int a4] [] (ev_hp I J R T) cz kz = ev_C G 73 [.ref 32, .long a0, .int a4] (ev_hp I J R T) fun r h1 c1 k1 => G 83 29 [.ref 32, .long a0, ez_fill, .long a1, ez_fill, .int a2, .int a3, .int a4] (r.toList ++ []) h1 (cz + c1) (kz + k1) := by
  intro G
  rfl
theorem cu_15 {u v : Int64} {n m y : Int32}
    (H : ((n ≤ y → Q (some (.int m)) (ev_hp I J R T)) ∧ (¬ (n ≤ y) → (∃ Q1 : pw_Q, pe N X 73 [.ref 32, .long u, .int y] (ev_hp I J R T) Q1 ∧ ∀ (r : Option Value) (h1 : ez_H), Q1 r h1 → pw N X 83 29 [.ref 32, .long u, ez_fill, .long v, ez_fill, .int n, .int m, .int y] (r.toList ++ []) h1 Q)))) : pw (N + 1) X 83 15 [.ref 32, .long u, ez_fill, .long v, ez_fill, .int n, .int m, .int y] [] (ev_hp I J R T) Q := by
  refine pw_if (by decide) (fun _ _ => cl9_r9) (fun w1 => ?_) (fun w1 => ?_)
  · have h1 := H.1 w1
    exact pw_p (pw_ret (by decide) (fun _ _ => cl9_r10) h1)
  · have h1 := H.2 w1
    obtain ⟨Q1, hc, hk⟩ := h1
    exact pw_p (pw_call (by decide) (fun _ _ => cl9_r11) hc hk)
set_option maxRecDepth 100000 in
theorem cl9_r12 {a0 : Int64} {a1 : Int64} {a2 : Int32} {a3 : Int32} {a4 : Int32} {a5 : Int32} : ∀ G : ez_F, fx_up X 4 G 83 29 [.ref 32, .long a0, ez_fill, .long a1, ez_fill, .int a2, .int a3, .int a4] [.int a5] (ev_hp I J R T) cz kz = ev_C G 73 [.ref 32, .long a1, .int a4] (ev_hp I J R T) fun r h1 c1 k1 => G 83 36 [.ref 32, .long a0, ez_fill, .long a1, ez_fill, .int a2, .int a3, .int a4] (r.toList ++ [.int a5]) h1 (cz + c1) (kz + k1) := by
  intro G
  rfl
theorem cu_29 {u v : Int64} {n m y a : Int32}
    (H : (∃ Q1 : pw_Q, pe N X 73 [.ref 32, .long v, .int y] (ev_hp I J R T) Q1 ∧ ∀ (r : Option Value) (h1 : ez_H), Q1 r h1 → pw N X 83 36 [.ref 32, .long u, ez_fill, .long v, ez_fill, .int n, .int m, .int y] (r.toList ++ [.int a]) h1 Q)) : pw (N + 1) X 83 29 [.ref 32, .long u, ez_fill, .long v, ez_fill, .int n, .int m, .int y] [.int a] (ev_hp I J R T) Q := by
  obtain ⟨Q1, hc, hk⟩ := H
  exact pw_call (by decide) (fun _ _ => cl9_r12) hc hk
set_option maxRecDepth 100000 in
theorem cl9_r13 {a0 : Int64} {a1 : Int64} {a2 : Int32} {a3 : Int32} {a4 : Int32} {a5 : Int32} {a6 : Int32} : ∀ G : ez_F, fx_up X 1 G 83 36 [.ref 32, .long a0, ez_fill, .long a1, ez_fill, .int a2, .int a3, .int a4] [.int a5, .int a6] (ev_hp I J R T) cz kz = bif decide (a6 = a5) then G 83 48 [.ref 32, .long a0, ez_fill, .long a1, ez_fill, .int a2, .int a3, .int a4] [] (ev_hp I J R T) cz kz else G 83 39 [.ref 32, .long a0, ez_fill, .long a1, ez_fill, .int a2, .int a3, .int a4] [] (ev_hp I J R T) cz kz := by
  intro G
  rfl
set_option maxRecDepth 100000 in
theorem cl9_r14 {a0 : Int64} {a1 : Int64} {a2 : Int32} {a3 : Int32} {a4 : Int32} : ∀ G : ez_F, fx_up X 2 G 83 48 [.ref 32, .long a0, ez_fill, .long a1, ez_fill, .int a2, .int a3, .int a4] [] (ev_hp I J R T) cz kz = G 83 15 [.ref 32, .long a0, ez_fill, .long a1, ez_fill, .int a2, .int a3, .int (a4 + (1 : Int32))] [] (ev_hp I J R T) cz kz := by
  intro G
  rfl
set_option maxRecDepth 100000 in
theorem cl9_r15 {a0 : Int64} {a1 : Int64} {a2 : Int32} {a3 : Int32} {a4 : Int32} : ∀ G : ez_F, fx_up X 8 G 83 39 [.ref 32, .long a0, ez_fill, .long a1, ez_fill, .int a2, .int a3, .int a4] [] (ev_hp I J R T) cz kz = G 83 15 [.ref 32, .long a0, ez_fill, .long a1, ez_fill, .int a2, .int (a3 ||| ((1 : Int32) <<< (a4 &&& (31 : Int32)))), .int (a4 + (1 : Int32))] [] (ev_hp I J R T) cz kz := by
  intro G
  rfl
theorem cu_36 {u v : Int64} {n m y a b : Int32}
    (H : ((a = b → pw N X 83 15 [.ref 32, .long u, ez_fill, .long v, ez_fill, .int n, .int m, .int (y + (1 : Int32))] [] (ev_hp I J R T) Q) ∧ (¬ (a = b) → pw N X 83 15 [.ref 32, .long u, ez_fill, .long v, ez_fill, .int n, .int (m ||| ((1 : Int32) <<< (y &&& (31 : Int32)))), .int (y + (1 : Int32))] [] (ev_hp I J R T) Q))) : pw (N + 1) X 83 36 [.ref 32, .long u, ez_fill, .long v, ez_fill, .int n, .int m, .int y] [.int b, .int a] (ev_hp I J R T) Q := by
  refine pw_if (by decide) (fun _ _ => cl9_r13) (fun w1 => ?_) (fun w1 => ?_)
  · have h1 := H.1 w1
    refine pw_p (pw_seg (by decide) (fun _ _ => cl9_r14) ?_)
    exact h1
  · have h1 := H.2 w1
    refine pw_p (pw_seg (by decide) (fun _ _ => cl9_r15) ?_)
    exact h1
set_option maxRecDepth 100000 in
theorem cl9_r16 {a0 : Int32} : ∀ G : ez_F, fx_up X 2 G 79 0 [.ref 32, .int a0] [] (ev_hp I J R T) cz kz = G 79 2 [.ref 32, .int a0, .int (0 : Int32)] [] (ev_hp I J R T) cz kz := by
  intro G
  rfl
theorem cm_0 {k : Int32}
    (H : pw N X 79 2 [.ref 32, .int k, .int (0 : Int32)] [] (ev_hp I J R T) Q) : pw (N + 1) X 79 0 [.ref 32, .int k] [] (ev_hp I J R T) Q := by
  refine pw_seg (by decide) (fun _ _ => cl9_r16) ?_
  exact H
set_option maxRecDepth 100000 in
theorem cl9_r17 {a0 : Int32} {a1 : Int32} : ∀ G : ez_F, fx_up X 3 G 79 2 [.ref 32, .int a0, .int a1] [] (ev_hp I J R T) cz kz = G 79 7 [.ref 32, .int a0, .int a1] [.ref 34, .int a1] (ev_hp I J R T) cz kz := by
  intro G
  rfl
set_option maxRecDepth 100000 in
theorem cl9_r18 {a0 : Int32} {a1 : Int32} {a2 : Int32} {a3 : Int32} : ∀ G : ez_F, fx_up X 1 G 79 8 [.ref 32, .int a0, .int a1] [.int a2, .int a3] (ev_hp I J R T) cz kz = bif decide (a2 ≤ a3) then G 79 24 [.ref 32, .int a0, .int a1] [] (ev_hp I J R T) cz kz else G 79 11 [.ref 32, .int a0, .int a1] [] (ev_hp I J R T) cz kz := by
  intro G
  rfl
set_option maxRecDepth 100000 in
theorem cl9_r19 {a0 : Int32} {a1 : Int32} : ∀ G : ez_F, fx_up X 4 G 79 24 [.ref 32, .int a0, .int a1] [] (ev_hp I J R T) cz kz = ev_C G 137 [.ref 6, .int a0] (ev_hp I J R T) fun r h1 c1 k1 => G 79 32 [.ref 32, .int a0, .int a1] (r.toList ++ []) h1 (cz + c1) (kz + k1) := by
  intro G
  rfl
set_option maxRecDepth 100000 in
theorem cl9_r20 {a0 : Int32} {a1 : Int32} : ∀ G : ez_F, fx_up X 4 G 79 11 [.ref 32, .int a0, .int a1] [] (ev_hp I J R T) cz kz = G 79 17 [.ref 32, .int a0, .int a1] [.long (0 : Int64), .int a1, .ref 34] (ev_hp I J R T) cz kz := by
  intro G
  rfl
set_option maxRecDepth 100000 in
theorem cl9_r21 {a0 : Int32} {a1 : Int32} : ∀ G : ez_F, fx_up X 2 G 79 18 [.ref 32, .int a0, .int a1] [] (ev_hp I J R T) cz kz = G 79 2 [.ref 32, .int a0, .int (a1 + (1 : Int32))] [] (ev_hp I J R T) cz kz := by
  intro G
  rfl
theorem cm_2 {k i : Int32}
    (H : (((Int32.ofNat 64) ≤ i → (∃ Q1 : pw_Q, pe N X 137 [.ref 6, .int k] (ev_hp I J R T) Q1 ∧ ∀ (r : Option Value) (h1 : ez_H), Q1 r h1 → pw N X 79 32 [.ref 32, .int k, .int i] (r.toList ++ []) h1 Q)) ∧ (¬ ((Int32.ofNat 64) ≤ i) → (ev_ix i 64 → pw N X 79 2 [.ref 32, .int k, .int (i + (1 : Int32))] [] (ev_hp I (ev_sJ J 34 (vp_updL (J 34) i.toNatClampNeg (0 : Int64))) R T) Q)))) : pw (N + 1) X 79 2 [.ref 32, .int k, .int i] [] (ev_hp I J R T) Q := by
  refine pw_seg (by decide) (fun _ _ => cl9_r17) ?_
  refine pw_p (pw_alenJ (by rfl) (cx_getJ (show cx_Ds[34]? = some (1, 64, []) from rfl)) ?_)
  refine pw_p (pw_if (by decide) (fun _ _ => cl9_r18) (fun w1 => ?_) (fun w1 => ?_))
  · have h1 := H.1 w1
    obtain ⟨Q1, hc, hk⟩ := h1
    exact pw_p (pw_call (by decide) (fun _ _ => cl9_r19) hc hk)
  · have h1 := H.2 w1
    refine pw_p (pw_seg (by decide) (fun _ _ => cl9_r20) ?_)
    refine pw_p (pw_last (by rfl) (cx_getJ (show cx_Ds[34]? = some (1, 64, []) from rfl)) (cx_setJ (show cx_Ds[34]? = some (1, 64, []) from rfl) _) (fun w2 => ?_))
    have h2 := h1 w2
    refine pw_p (pw_seg (by decide) (fun _ _ => cl9_r21) ?_)
    exact h2
set_option maxRecDepth 100000 in
theorem cl9_r22 {a0 : Int32} {a1 : Int32} {a2 : Int64} : ∀ G : ez_F, fx_up X 4 G 79 32 [.ref 32, .int a0, .int a1] [.long a2] (ev_hp I J R T) cz kz = G 79 40 [.ref 32, .int a0, .long a2, ez_fill] [.int (I 6 3)] (ev_hp I J R T) cz kz := by
  intro G
  rfl
set_option maxRecDepth 100000 in
theorem cl9_r23 {a0 : Int32} {a1 : Int64} {a2 : Int32} : ∀ G : ez_F, fx_up X 3 G 79 40 [.ref 32, .int a0, .long a1, ez_fill] [.int a2] (ev_hp I J R T) cz kz = G 79 45 [.ref 32, .int a0, .long a1, ez_fill, .int a2, .int (0 : Int32)] [] (ev_hp I J R T) cz kz := by
  intro G
  rfl
theorem cm_32 {k i : Int32} {u : Int64}
    (H : pw N X 79 45 [.ref 32, .int k, .long u, ez_fill, .int (I 6 3), .int (0 : Int32)] [] (ev_hp I J R T) Q) : pw (N + 1) X 79 32 [.ref 32, .int k, .int i] [.long u] (ev_hp I J R T) Q := by
  refine pw_seg (by decide) (fun _ _ => cl9_r22) ?_
  refine pw_p (pw_seg (by decide) (fun _ _ => cl9_r23) ?_)
  exact H
set_option maxRecDepth 100000 in
theorem cl9_r24 {a0 : Int32} {a1 : Int64} {a2 : Int32} {a3 : Int32} : ∀ G : ez_F, fx_up X 3 G 79 45 [.ref 32, .int a0, .long a1, ez_fill, .int a2, .int a3] [] (ev_hp I J R T) cz kz = bif decide (a2 ≤ a3) then G 79 87 [.ref 32, .int a0, .long a1, ez_fill, .int a2, .int a3] [] (ev_hp I J R T) cz kz else G 79 52 [.ref 32, .int a0, .long a1, ez_fill, .int a2, .int a3] [] (ev_hp I J R T) cz kz := by
  intro G
  rfl
set_option maxRecDepth 100000 in
theorem cl9_r25 {a0 : Int32} {a1 : Int64} {a2 : Int32} {a3 : Int32} : ∀ G : ez_F, fx_up X 1 G 79 87 [.ref 32, .int a0, .long a1, ez_fill, .int a2, .int a3] [] (ev_hp I J R T) cz kz = some (none, (ev_hp I J R T), cz, kz) := by
  intro G
  rfl
set_option maxRecDepth 100000 in
theorem cl9_r26 {a0 : Int32} {a1 : Int64} {a2 : Int32} {a3 : Int32} : ∀ G : ez_F, fx_up X 4 G 79 52 [.ref 32, .int a0, .long a1, ez_fill, .int a2, .int a3] [] (ev_hp I J R T) cz kz = ev_C G 137 [.ref 6, .int a3] (ev_hp I J R T) fun r h1 c1 k1 => G 79 61 [.ref 32, .int a0, .long a1, ez_fill, .int a2, .int a3] (r.toList ++ []) h1 (cz + c1) (kz + k1) := by
  intro G
  rfl
theorem cm_45 {k n j : Int32} {u : Int64}
    (H : ((n ≤ j → Q none (ev_hp I J R T)) ∧ (¬ (n ≤ j) → (∃ Q1 : pw_Q, pe N X 137 [.ref 6, .int j] (ev_hp I J R T) Q1 ∧ ∀ (r : Option Value) (h1 : ez_H), Q1 r h1 → pw N X 79 61 [.ref 32, .int k, .long u, ez_fill, .int n, .int j] (r.toList ++ []) h1 Q)))) : pw (N + 1) X 79 45 [.ref 32, .int k, .long u, ez_fill, .int n, .int j] [] (ev_hp I J R T) Q := by
  refine pw_if (by decide) (fun _ _ => cl9_r24) (fun w1 => ?_) (fun w1 => ?_)
  · have h1 := H.1 w1
    exact pw_p (pw_ret (by decide) (fun _ _ => cl9_r25) h1)
  · have h1 := H.2 w1
    obtain ⟨Q1, hc, hk⟩ := h1
    exact pw_p (pw_call (by decide) (fun _ _ => cl9_r26) hc hk)
set_option maxRecDepth 100000 in
theorem cl9_r27 {a0 : Int32} {a1 : Int64} {a2 : Int32} {a3 : Int32} {a4 : Int64} : ∀ G : ez_F, fx_up X 5 G 79 61 [.ref 32, .int a0, .long a1, ez_fill, .int a2, .int a3] [.long a4] (ev_hp I J R T) cz kz = bif decide ((lg_cmp a4 a1) = (0 : Int32)) then G 79 81 [.ref 32, .int a0, .long a1, ez_fill, .int a2, .int a3, .long a4, ez_fill] [] (ev_hp I J R T) cz kz else G 79 70 [.ref 32, .int a0, .long a1, ez_fill, .int a2, .int a3, .long a4, ez_fill] [] (ev_hp I J R T) cz kz := by
  intro G
  rfl
set_option maxRecDepth 100000 in
theorem cl9_r28 {a0 : Int32} {a1 : Int64} {a2 : Int32} {a3 : Int32} {a4 : Int64} : ∀ G : ez_F, fx_up X 2 G 79 81 [.ref 32, .int a0, .long a1, ez_fill, .int a2, .int a3, .long a4, ez_fill] [] (ev_hp I J R T) cz kz = G 79 45 [.ref 32, .int a0, .long a1, ez_fill, .int a2, .int (a3 + (1 : Int32)), .long a4, ez_fill] [] (ev_hp I J R T) cz kz := by
  intro G
  rfl
set_option maxRecDepth 100000 in
theorem cl9_r29 {a0 : Int32} {a1 : Int64} {a2 : Int32} {a3 : Int32} {a4 : Int64} : ∀ G : ez_F, fx_up X 5 G 79 70 [.ref 32, .int a0, .long a1, ez_fill, .int a2, .int a3, .long a4, ez_fill] [] (ev_hp I J R T) cz kz = ev_C G 83 [.ref 32, .long a1, .long a4] (ev_hp I J R T) fun r h1 c1 k1 => G 79 78 [.ref 32, .int a0, .long a1, ez_fill, .int a2, .int a3, .long a4, ez_fill] (r.toList ++ [.ref 32]) h1 (cz + c1) (kz + k1) := by
  intro G
  rfl
theorem cm_61 {k n j : Int32} {u v : Int64}
    (H : (((lg_cmp v u) = (0 : Int32) → pw N X 79 45 [.ref 32, .int k, .long u, ez_fill, .int n, .int (j + (1 : Int32))] [] (ev_hp I J R T) Q) ∧ (¬ ((lg_cmp v u) = (0 : Int32)) → (∃ Q1 : pw_Q, pe N X 83 [.ref 32, .long u, .long v] (ev_hp I J R T) Q1 ∧ ∀ (r : Option Value) (h1 : ez_H), Q1 r h1 → pw N X 79 78 [.ref 32, .int k, .long u, ez_fill, .int n, .int j, .long v, ez_fill] (r.toList ++ [.ref 32]) h1 Q)))) : pw (N + 1) X 79 61 [.ref 32, .int k, .long u, ez_fill, .int n, .int j] [.long v] (ev_hp I J R T) Q := by
  refine pw_if (by decide) (fun _ _ => cl9_r27) (fun w1 => ?_) (fun w1 => ?_)
  · have h1 := H.1 w1
    refine pw_p (pw_seg (by decide) (fun _ _ => cl9_r28) ?_)
    refine pw_cutl (by rfl) ?_
    exact h1
  · have h1 := H.2 w1
    obtain ⟨Q1, hc, hk⟩ := h1
    exact pw_p (pw_call (by decide) (fun _ _ => cl9_r29) hc hk)
set_option maxRecDepth 100000 in
theorem cl9_r30 {a0 : Int32} {a1 : Int64} {a2 : Int32} {a3 : Int32} {a4 : Int64} {a5 : Int32} : ∀ G : ez_F, fx_up X 1 G 79 78 [.ref 32, .int a0, .long a1, ez_fill, .int a2, .int a3, .long a4, ez_fill] [.int a5, .ref 32] (ev_hp I J R T) cz kz = ev_C G 77 [.ref 32, .int a5] (ev_hp I J R T) fun r h1 c1 k1 => G 79 81 [.ref 32, .int a0, .long a1, ez_fill, .int a2, .int a3, .long a4, ez_fill] (r.toList ++ []) h1 (cz + c1) (kz + k1) := by
  intro G
  rfl
theorem cm_78 {k n j s : Int32} {u v : Int64}
    (H : (∃ Q1 : pw_Q, pe N X 77 [.ref 32, .int s] (ev_hp I J R T) Q1 ∧ ∀ (r : Option Value) (h1 : ez_H), Q1 r h1 → pw N X 79 81 [.ref 32, .int k, .long u, ez_fill, .int n, .int j, .long v, ez_fill] (r.toList ++ []) h1 Q)) : pw (N + 1) X 79 78 [.ref 32, .int k, .long u, ez_fill, .int n, .int j, .long v, ez_fill] [.int s, .ref 32] (ev_hp I J R T) Q := by
  obtain ⟨Q1, hc, hk⟩ := H
  exact pw_call (by decide) (fun _ _ => cl9_r30) hc hk
theorem cm_81 {k n j : Int32} {u v : Int64}
    (H : pw N X 79 45 [.ref 32, .int k, .long u, ez_fill, .int n, .int (j + (1 : Int32))] [] (ev_hp I J R T) Q) : pw (N + 1) X 79 81 [.ref 32, .int k, .long u, ez_fill, .int n, .int j, .long v, ez_fill] [] (ev_hp I J R T) Q := by
  refine pw_seg (by decide) (fun _ _ => cl9_r28) ?_
  refine pw_cutl (by rfl) ?_
  exact H
set_option maxRecDepth 100000 in
theorem cl9_r31 {a0 : Int32} : ∀ G : ez_F, fx_up X 2 G 80 0 [.ref 32, .int a0] [] (ev_hp I J R T) cz kz = G 80 2 [.ref 32, .int a0, .int (0 : Int32)] [] (ev_hp I J R T) cz kz := by
  intro G
  rfl
theorem cp_0 {n : Int32}
    (H : pw N X 80 2 [.ref 32, .int n, .int (0 : Int32)] [] (ev_hp I J R T) Q) : pw (N + 1) X 80 0 [.ref 32, .int n] [] (ev_hp I J R T) Q := by
  refine pw_seg (by decide) (fun _ _ => cl9_r31) ?_
  exact H
set_option maxRecDepth 100000 in
theorem cl9_r32 {a0 : Int32} {a1 : Int32} : ∀ G : ez_F, fx_up X 3 G 80 2 [.ref 32, .int a0, .int a1] [] (ev_hp I J R T) cz kz = bif decide ((12 : Int32) ≤ a1) then G 80 57 [.ref 32, .int a0, .int a1] [] (ev_hp I J R T) cz kz else G 80 8 [.ref 32, .int a0, .int a1] [] (ev_hp I J R T) cz kz := by
  intro G
  rfl
set_option maxRecDepth 100000 in
theorem cl9_r33 {a0 : Int32} {a1 : Int32} : ∀ G : ez_F, fx_up X 1 G 80 57 [.ref 32, .int a0, .int a1] [] (ev_hp I J R T) cz kz = some (none, (ev_hp I J R T), cz, kz) := by
  intro G
  rfl
set_option maxRecDepth 100000 in
theorem cl9_r34 {a0 : Int32} {a1 : Int32} : ∀ G : ez_F, fx_up X 6 G 80 8 [.ref 32, .int a0, .int a1] [] (ev_hp I J R T) cz kz = G 80 15 [.ref 32, .int a0, .int a1, .int ((1 : Int32) <<< (a1 &&& (31 : Int32))), .int (0 : Int32)] [] (ev_hp I J R T) cz kz := by
  intro G
  rfl
theorem cp_2 {n y : Int32}
    (H : (((12 : Int32) ≤ y → Q none (ev_hp I J R T)) ∧ (¬ ((12 : Int32) ≤ y) → pw N X 80 15 [.ref 32, .int n, .int y, .int ((1 : Int32) <<< (y &&& (31 : Int32))), .int (0 : Int32)] [] (ev_hp I J R T) Q))) : pw (N + 1) X 80 2 [.ref 32, .int n, .int y] [] (ev_hp I J R T) Q := by
  refine pw_if (by decide) (fun _ _ => cl9_r32) (fun w1 => ?_) (fun w1 => ?_)
  · have h1 := H.1 w1
    exact pw_p (pw_ret (by decide) (fun _ _ => cl9_r33) h1)
  · have h1 := H.2 w1
    refine pw_p (pw_seg (by decide) (fun _ _ => cl9_r34) ?_)
    exact h1
set_option maxRecDepth 100000 in
theorem cl9_r35 {a0 : Int32} {a1 : Int32} {a2 : Int32} {a3 : Int32} : ∀ G : ez_F, fx_up X 3 G 80 15 [.ref 32, .int a0, .int a1, .int a2, .int a3] [] (ev_hp I J R T) cz kz = bif decide (a0 ≤ a3) then G 80 51 [.ref 32, .int a0, .int a1, .int a2, .int a3] [] (ev_hp I J R T) cz kz else G 80 21 [.ref 32, .int a0, .int a1, .int a2, .int a3] [] (ev_hp I J R T) cz kz := by
  intro G
  rfl
set_option maxRecDepth 100000 in
theorem cl9_r36 {a0 : Int32} {a1 : Int32} {a2 : Int32} {a3 : Int32} : ∀ G : ez_F, fx_up X 2 G 80 51 [.ref 32, .int a0, .int a1, .int a2, .int a3] [] (ev_hp I J R T) cz kz = G 80 2 [.ref 32, .int a0, .int (a1 + (1 : Int32)), .int a2, .int a3] [] (ev_hp I J R T) cz kz := by
  intro G
  rfl
set_option maxRecDepth 100000 in
theorem cl9_r37 {a0 : Int32} {a1 : Int32} {a2 : Int32} {a3 : Int32} : ∀ G : ez_F, fx_up X 4 G 80 21 [.ref 32, .int a0, .int a1, .int a2, .int a3] [] (ev_hp I J R T) cz kz = bif decide ((a3 &&& a2) = (0 : Int32)) then G 80 45 [.ref 32, .int a0, .int a1, .int a2, .int a3] [] (ev_hp I J R T) cz kz else G 80 28 [.ref 32, .int a0, .int a1, .int a2, .int a3] [] (ev_hp I J R T) cz kz := by
  intro G
  rfl
set_option maxRecDepth 100000 in
theorem cl9_r38 {a0 : Int32} {a1 : Int32} {a2 : Int32} {a3 : Int32} : ∀ G : ez_F, fx_up X 2 G 80 45 [.ref 32, .int a0, .int a1, .int a2, .int a3] [] (ev_hp I J R T) cz kz = G 80 15 [.ref 32, .int a0, .int a1, .int a2, .int (a3 + (1 : Int32))] [] (ev_hp I J R T) cz kz := by
  intro G
  rfl
set_option maxRecDepth 100000 in
theorem cl9_r39 {a0 : Int32} {a1 : Int32} {a2 : Int32} {a3 : Int32} : ∀ G : ez_F, fx_up X 5 G 80 28 [.ref 32, .int a0, .int a1, .int a2, .int a3] [] (ev_hp I J R T) cz kz = ev_C G 78 [.ref 32, .int (a3 ^^^ a2)] (ev_hp I J R T) fun r h1 c1 k1 => G 80 36 [.ref 32, .int a0, .int a1, .int a2, .int a3] (r.toList ++ []) h1 (cz + c1) (kz + k1) := by
  intro G
  rfl
theorem cp_15 {n y b s : Int32}
    (H : ((n ≤ s → pw N X 80 2 [.ref 32, .int n, .int (y + (1 : Int32))] [] (ev_hp I J R T) Q) ∧ (¬ (n ≤ s) → (((s &&& b) = (0 : Int32) → pw N X 80 15 [.ref 32, .int n, .int y, .int b, .int (s + (1 : Int32))] [] (ev_hp I J R T) Q) ∧ (¬ ((s &&& b) = (0 : Int32)) → (∃ Q1 : pw_Q, pe N X 78 [.ref 32, .int (s ^^^ b)] (ev_hp I J R T) Q1 ∧ ∀ (r : Option Value) (h1 : ez_H), Q1 r h1 → pw N X 80 36 [.ref 32, .int n, .int y, .int b, .int s] (r.toList ++ []) h1 Q)))))) : pw (N + 1) X 80 15 [.ref 32, .int n, .int y, .int b, .int s] [] (ev_hp I J R T) Q := by
  refine pw_if (by decide) (fun _ _ => cl9_r35) (fun w1 => ?_) (fun w1 => ?_)
  · have h1 := H.1 w1
    refine pw_p (pw_seg (by decide) (fun _ _ => cl9_r36) ?_)
    refine pw_cutl (by rfl) ?_
    exact h1
  · have h1 := H.2 w1
    refine pw_p (pw_if (by decide) (fun _ _ => cl9_r37) (fun w2 => ?_) (fun w2 => ?_))
    · have h2 := h1.1 w2
      refine pw_p (pw_seg (by decide) (fun _ _ => cl9_r38) ?_)
      exact h2
    · have h2 := h1.2 w2
      obtain ⟨Q1, hc, hk⟩ := h2
      exact pw_p (pw_call (by decide) (fun _ _ => cl9_r39) hc hk)
set_option maxRecDepth 100000 in
theorem cl9_r40 {a0 : Int32} {a1 : Int32} {a2 : Int32} {a3 : Int32} {a4 : Int32} : ∀ G : ez_F, fx_up X 1 G 80 36 [.ref 32, .int a0, .int a1, .int a2, .int a3] [.int a4] (ev_hp I J R T) cz kz = bif decide (a4 = (0 : Int32)) then G 80 45 [.ref 32, .int a0, .int a1, .int a2, .int a3] [] (ev_hp I J R T) cz kz else G 80 39 [.ref 32, .int a0, .int a1, .int a2, .int a3] [] (ev_hp I J R T) cz kz := by
  intro G
  rfl
set_option maxRecDepth 100000 in
theorem cl9_r41 {a0 : Int32} {a1 : Int32} {a2 : Int32} {a3 : Int32} : ∀ G : ez_F, fx_up X 2 G 80 45 [.ref 32, .int a0, .int a1, .int a2, .int a3] [] (ev_hp I J R T) cz kz = G 80 15 [.ref 32, .int a0, .int a1, .int a2, .int (a3 + (1 : Int32))] [] (ev_hp I J R T) cz kz := by
  intro G
  rfl
set_option maxRecDepth 100000 in
theorem cl9_r42 {a0 : Int32} {a1 : Int32} {a2 : Int32} {a3 : Int32} : ∀ G : ez_F, fx_up X 3 G 80 39 [.ref 32, .int a0, .int a1, .int a2, .int a3] [] (ev_hp I J R T) cz kz = ev_C G 77 [.ref 32, .int a3] (ev_hp I J R T) fun r h1 c1 k1 => G 80 45 [.ref 32, .int a0, .int a1, .int a2, .int a3] (r.toList ++ []) h1 (cz + c1) (kz + k1) := by
  intro G
  rfl
theorem cp_36 {n y b s v : Int32}
    (H : ((v = (0 : Int32) → pw N X 80 15 [.ref 32, .int n, .int y, .int b, .int (s + (1 : Int32))] [] (ev_hp I J R T) Q) ∧ (¬ (v = (0 : Int32)) → (∃ Q1 : pw_Q, pe N X 77 [.ref 32, .int s] (ev_hp I J R T) Q1 ∧ ∀ (r : Option Value) (h1 : ez_H), Q1 r h1 → pw N X 80 45 [.ref 32, .int n, .int y, .int b, .int s] (r.toList ++ []) h1 Q)))) : pw (N + 1) X 80 36 [.ref 32, .int n, .int y, .int b, .int s] [.int v] (ev_hp I J R T) Q := by
  refine pw_if (by decide) (fun _ _ => cl9_r40) (fun w1 => ?_) (fun w1 => ?_)
  · have h1 := H.1 w1
    refine pw_p (pw_seg (by decide) (fun _ _ => cl9_r41) ?_)
    exact h1
  · have h1 := H.2 w1
    obtain ⟨Q1, hc, hk⟩ := h1
    exact pw_p (pw_call (by decide) (fun _ _ => cl9_r42) hc hk)
theorem cp_45 {n y b s : Int32}
    (H : pw N X 80 15 [.ref 32, .int n, .int y, .int b, .int (s + (1 : Int32))] [] (ev_hp I J R T) Q) : pw (N + 1) X 80 45 [.ref 32, .int n, .int y, .int b, .int s] [] (ev_hp I J R T) Q := by
  refine pw_seg (by decide) (fun _ _ => cl9_r41) ?_
  exact H
set_option maxRecDepth 100000 in
theorem cl9_r43 {a0 : Int32} : ∀ G : ez_F, fx_up X 4 G 74 0 [.ref 32, .int a0] [] (ev_hp I J R T) cz kz = ev_C G 151 [.ref 1] (ev_hp I J R T) fun r h1 c1 k1 => G 74 8 [.ref 32, .int a0] (r.toList ++ [.int (1 : Int32)]) h1 (cz + c1) (kz + k1) := by
  intro G
  rfl
set_option maxRecDepth 100000 in
theorem cl9_r44 {a0 : Int32} {a1 : Int32} {a2 : Int32} : ∀ G : ez_F, fx_up X 5 G 74 8 [.ref 32, .int a0] [.int a1, .int a2] (ev_hp I J R T) cz kz = ev_C G 79 [.ref 32, .int a0] (ev_hp I J R T) fun r h1 c1 k1 => G 74 15 [.ref 32, .int a0, .int (a2 <<< (a1 &&& (31 : Int32)))] (r.toList ++ []) h1 (cz + c1) (kz + k1) := by
  intro G
  rfl
theorem cf4_0 {k : Int32}
    (H : (∃ Q1 : pw_Q, pe N X 79 [.ref 32, .int k] (ev_hp I J R T) Q1 ∧ ∀ (r : Option Value) (h1 : ez_H), Q1 r h1 → pw N X 74 15 [.ref 32, .int k, .int ((1 : Int32) <<< (((I 1 4) + (I 1 3)) &&& (31 : Int32)))] (r.toList ++ []) h1 Q)) : pw (N + 1) X 74 0 [.ref 32, .int k] [] (ev_hp I J R T) Q := by
  refine pw_callp (by decide) (fun _ _ => cl9_r43) (pe_rimTotal) ?_
  obtain ⟨Q1, hc, hk⟩ := H
  exact pw_p (pw_call (by decide) (fun _ _ => cl9_r44) hc hk)
set_option maxRecDepth 100000 in
theorem cl9_r45 {a0 : Int32} {a1 : Int32} : ∀ G : ez_F, fx_up X 3 G 74 15 [.ref 32, .int a0, .int a1] [] (ev_hp I J R T) cz kz = ev_C G 80 [.ref 32, .int a1] (ev_hp I J R T) fun r h1 c1 k1 => G 74 20 [.ref 32, .int a0, .int a1] (r.toList ++ []) h1 (cz + c1) (kz + k1) := by
  intro G
  rfl
theorem cf4_15 {k n : Int32}
    (H : (∃ Q1 : pw_Q, pe N X 80 [.ref 32, .int n] (ev_hp I J R T) Q1 ∧ ∀ (r : Option Value) (h1 : ez_H), Q1 r h1 → pw N X 74 20 [.ref 32, .int k, .int n] (r.toList ++ []) h1 Q)) : pw (N + 1) X 74 15 [.ref 32, .int k, .int n] [] (ev_hp I J R T) Q := by
  obtain ⟨Q1, hc, hk⟩ := H
  exact pw_call (by decide) (fun _ _ => cl9_r45) hc hk
set_option maxRecDepth 100000 in
theorem cl9_r46 {a0 : Int32} {a1 : Int32} : ∀ G : ez_F, fx_up X 4 G 74 20 [.ref 32, .int a0, .int a1] [] (ev_hp I J R T) cz kz = G 74 25 [.ref 32, .int a0, .int a1, .int (-1 : Int32), .int (0 : Int32)] [] (ev_hp I J R T) cz kz := by
  intro G
  rfl
theorem cf4_20 {k n : Int32}
    (H : pw N X 74 25 [.ref 32, .int k, .int n, .int (-1 : Int32), .int (0 : Int32)] [] (ev_hp I J R T) Q) : pw (N + 1) X 74 20 [.ref 32, .int k, .int n] [] (ev_hp I J R T) Q := by
  refine pw_seg (by decide) (fun _ _ => cl9_r46) ?_
  exact H
set_option maxRecDepth 100000 in
theorem cl9_r47 {a0 : Int32} {a1 : Int32} {a2 : Int32} {a3 : Int32} : ∀ G : ez_F, fx_up X 3 G 74 25 [.ref 32, .int a0, .int a1, .int a2, .int a3] [] (ev_hp I J R T) cz kz = bif decide (a1 ≤ a3) then G 74 82 [.ref 32, .int a0, .int a1, .int a2, .int a3] [] (ev_hp I J R T) cz kz else G 74 31 [.ref 32, .int a0, .int a1, .int a2, .int a3] [] (ev_hp I J R T) cz kz := by
  intro G
  rfl
set_option maxRecDepth 100000 in
theorem cl9_r48 {a0 : Int32} {a1 : Int32} {a2 : Int32} {a3 : Int32} : ∀ G : ez_F, fx_up X 2 G 74 82 [.ref 32, .int a0, .int a1, .int a2, .int a3] [] (ev_hp I J R T) cz kz = some (some (.int a2), (ev_hp I J R T), cz, kz) := by
  intro G
  rfl
set_option maxRecDepth 100000 in
theorem cl9_r49 {a0 : Int32} {a1 : Int32} {a2 : Int32} {a3 : Int32} : ∀ G : ez_F, fx_up X 3 G 74 31 [.ref 32, .int a0, .int a1, .int a2, .int a3] [] (ev_hp I J R T) cz kz = bif decide (a2 = (-1 : Int32)) then G 74 48 [.ref 32, .int a0, .int a1, .int a2, .int a3] [] (ev_hp I J R T) cz kz else G 74 36 [.ref 32, .int a0, .int a1, .int a2, .int a3] [] (ev_hp I J R T) cz kz := by
  intro G
  rfl
set_option maxRecDepth 100000 in
theorem cl9_r50 {a0 : Int32} {a1 : Int32} {a2 : Int32} {a3 : Int32} : ∀ G : ez_F, fx_up X 5 G 74 48 [.ref 32, .int a0, .int a1, .int a2, .int a3] [] (ev_hp I J R T) cz kz = bif decide ((1 : Int32) = (0 : Int32)) then G 74 76 [.ref 32, .int a0, .int a1, .int a2, .int a3, .int (1 : Int32)] [] (ev_hp I J R T) cz kz else G 74 60 [.ref 32, .int a0, .int a1, .int a2, .int a3, .int (1 : Int32)] [] (ev_hp I J R T) cz kz := by
  intro G
  rfl
set_option maxRecDepth 100000 in
theorem cl9_r51 {a0 : Int32} {a1 : Int32} {a2 : Int32} {a3 : Int32} {a4 : Int32} : ∀ G : ez_F, fx_up X 7 G 74 60 [.ref 32, .int a0, .int a1, .int a2, .int a3, .int a4] [] (ev_hp I J R T) cz kz = ev_C G 78 [.ref 32, .int ((a1 - (1 : Int32)) ^^^ a3)] (ev_hp I J R T) fun r h1 c1 k1 => G 74 70 [.ref 32, .int a0, .int a1, .int a2, .int a3, .int a4] (r.toList ++ []) h1 (cz + c1) (kz + k1) := by
  intro G
  rfl
set_option maxRecDepth 100000 in
theorem cl9_r52 {a0 : Int32} {a1 : Int32} {a2 : Int32} {a3 : Int32} : ∀ G : ez_F, fx_up X 2 G 74 36 [.ref 32, .int a0, .int a1, .int a2, .int a3] [] (ev_hp I J R T) cz kz = ev_C G 234 [.int a3] (ev_hp I J R T) fun r h1 c1 k1 => G 74 41 [.ref 32, .int a0, .int a1, .int a2, .int a3] (r.toList ++ []) h1 (cz + c1) (kz + k1) := by
  intro G
  rfl
set_option maxRecDepth 100000 in
theorem cl9_r53 {a0 : Int32} {a1 : Int32} {a2 : Int32} {a3 : Int32} {a4 : Int32} : ∀ G : ez_F, fx_up X 2 G 74 41 [.ref 32, .int a0, .int a1, .int a2, .int a3] [.int a4] (ev_hp I J R T) cz kz = ev_C G 234 [.int a2] (ev_hp I J R T) fun r h1 c1 k1 => G 74 45 [.ref 32, .int a0, .int a1, .int a2, .int a3] (r.toList ++ [.int a4]) h1 (cz + c1) (kz + k1) := by
  intro G
  rfl
set_option maxRecDepth 100000 in
theorem cl9_r54 {a0 : Int32} {a1 : Int32} {a2 : Int32} {a3 : Int32} {a4 : Int32} {a5 : Int32} : ∀ G : ez_F, fx_up X 1 G 74 45 [.ref 32, .int a0, .int a1, .int a2, .int a3] [.int a4, .int a5] (ev_hp I J R T) cz kz = bif decide (a4 ≤ a5) then G 74 52 [.ref 32, .int a0, .int a1, .int a2, .int a3] [] (ev_hp I J R T) cz kz else G 74 48 [.ref 32, .int a0, .int a1, .int a2, .int a3] [] (ev_hp I J R T) cz kz := by
  intro G
  rfl
set_option maxRecDepth 100000 in
theorem cl9_r55 {a0 : Int32} {a1 : Int32} {a2 : Int32} {a3 : Int32} : ∀ G : ez_F, fx_up X 4 G 74 52 [.ref 32, .int a0, .int a1, .int a2, .int a3] [] (ev_hp I J R T) cz kz = bif decide ((0 : Int32) = (0 : Int32)) then G 74 76 [.ref 32, .int a0, .int a1, .int a2, .int a3, .int (0 : Int32)] [] (ev_hp I J R T) cz kz else G 74 60 [.ref 32, .int a0, .int a1, .int a2, .int a3, .int (0 : Int32)] [] (ev_hp I J R T) cz kz := by
  intro G
  rfl
set_option maxRecDepth 100000 in
theorem cl9_r56 {a0 : Int32} {a1 : Int32} {a2 : Int32} {a3 : Int32} {a4 : Int32} : ∀ G : ez_F, fx_up X 2 G 74 76 [.ref 32, .int a0, .int a1, .int a2, .int a3, .int a4] [] (ev_hp I J R T) cz kz = G 74 25 [.ref 32, .int a0, .int a1, .int a2, .int (a3 + (1 : Int32)), .int a4] [] (ev_hp I J R T) cz kz := by
  intro G
  rfl
theorem cf4_25 {k n f c : Int32}
    (H : ((n ≤ c → Q (some (.int f)) (ev_hp I J R T)) ∧ (¬ (n ≤ c) → ((f = (-1 : Int32) → (∃ Q1 : pw_Q, pe N X 78 [.ref 32, .int ((n - (1 : Int32)) ^^^ c)] (ev_hp I J R T) Q1 ∧ ∀ (r : Option Value) (h1 : ez_H), Q1 r h1 → pw N X 74 70 [.ref 32, .int k, .int n, .int f, .int c, .int (1 : Int32)] (r.toList ++ []) h1 Q)) ∧ (¬ (f = (-1 : Int32)) → (((ev_bcI f) ≤ (ev_bcI c) → pw N X 74 25 [.ref 32, .int k, .int n, .int f, .int (c + (1 : Int32))] [] (ev_hp I J R T) Q) ∧ (¬ ((ev_bcI f) ≤ (ev_bcI c)) → (∃ Q1 : pw_Q, pe N X 78 [.ref 32, .int ((n - (1 : Int32)) ^^^ c)] (ev_hp I J R T) Q1 ∧ ∀ (r : Option Value) (h1 : ez_H), Q1 r h1 → pw N X 74 70 [.ref 32, .int k, .int n, .int f, .int c, .int (1 : Int32)] (r.toList ++ []) h1 Q)))))))) : pw (N + 1) X 74 25 [.ref 32, .int k, .int n, .int f, .int c] [] (ev_hp I J R T) Q := by
  refine pw_if (by decide) (fun _ _ => cl9_r47) (fun w1 => ?_) (fun w1 => ?_)
  · have h1 := H.1 w1
    exact pw_p (pw_ret (by decide) (fun _ _ => cl9_r48) h1)
  · have h1 := H.2 w1
    refine pw_p (pw_if (by decide) (fun _ _ => cl9_r49) (fun w2 => ?_) (fun w2 => ?_))
    · have h2 := h1.1 w2
      refine pw_p (pw_if (by decide) (fun _ _ => cl9_r50) (fun w3 => ?_) (fun w3 => ?_))
      · exact absurd w3 (by decide)
      obtain ⟨Q1, hc, hk⟩ := h2
      exact pw_p (pw_call (by decide) (fun _ _ => cl9_r51) hc hk)
    · have h2 := h1.2 w2
      refine pw_p (pw_callp (by decide) (fun _ _ => cl9_r52) (pe_is (ec_bcI _ _ _)) ?_)
      refine pw_p (pw_callp (by decide) (fun _ _ => cl9_r53) (pe_is (ec_bcI _ _ _)) ?_)
      refine pw_p (pw_if (by decide) (fun _ _ => cl9_r54) (fun w3 => ?_) (fun w3 => ?_))
      · have h3 := h2.1 w3
        refine pw_p (pw_if (by decide) (fun _ _ => cl9_r55) (fun w4 => ?_) (fun w4 => ?_))
        rotate_left
        · exact absurd (by decide) w4
        refine pw_p (pw_seg (by decide) (fun _ _ => cl9_r56) ?_)
        refine pw_cutl (by rfl) ?_
        exact h3
      · have h3 := h2.2 w3
        refine pw_p (pw_if (by decide) (fun _ _ => cl9_r50) (fun w4 => ?_) (fun w4 => ?_))
        · exact absurd w4 (by decide)
        obtain ⟨Q1, hc, hk⟩ := h3
        exact pw_p (pw_call (by decide) (fun _ _ => cl9_r51) hc hk)
set_option maxRecDepth 100000 in
theorem cl9_r57 {a0 : Int32} {a1 : Int32} {a2 : Int32} {a3 : Int32} {a4 : Int32} {a5 : Int32} : ∀ G : ez_F, fx_up X 1 G 74 70 [.ref 32, .int a0, .int a1, .int a2, .int a3, .int a4] [.int a5] (ev_hp I J R T) cz kz = bif decide (¬ a5 = (0 : Int32)) then G 74 76 [.ref 32, .int a0, .int a1, .int a2, .int a3, .int a4] [] (ev_hp I J R T) cz kz else G 74 73 [.ref 32, .int a0, .int a1, .int a2, .int a3, .int a4] [] (ev_hp I J R T) cz kz := by
  intro G
  rfl
set_option maxRecDepth 100000 in
theorem cl9_r58 {a0 : Int32} {a1 : Int32} {a2 : Int32} {a3 : Int32} {a4 : Int32} : ∀ G : ez_F, fx_up X 4 G 74 73 [.ref 32, .int a0, .int a1, .int a2, .int a3, .int a4] [] (ev_hp I J R T) cz kz = G 74 25 [.ref 32, .int a0, .int a1, .int a3, .int (a3 + (1 : Int32)), .int a4] [] (ev_hp I J R T) cz kz := by
  intro G
  rfl
theorem cf4_70 {k n f c e v : Int32}
    (H : ((¬ v = (0 : Int32) → pw N X 74 25 [.ref 32, .int k, .int n, .int f, .int (c + (1 : Int32))] [] (ev_hp I J R T) Q) ∧ (¬ (¬ v = (0 : Int32)) → pw N X 74 25 [.ref 32, .int k, .int n, .int c, .int (c + (1 : Int32))] [] (ev_hp I J R T) Q))) : pw (N + 1) X 74 70 [.ref 32, .int k, .int n, .int f, .int c, .int e] [.int v] (ev_hp I J R T) Q := by
  refine pw_if (by decide) (fun _ _ => cl9_r57) (fun w1 => ?_) (fun w1 => ?_)
  · have h1 := H.1 w1
    refine pw_p (pw_seg (by decide) (fun _ _ => cl9_r56) ?_)
    refine pw_cutl (by rfl) ?_
    exact h1
  · have h1 := H.2 w1
    refine pw_p (pw_seg (by decide) (fun _ _ => cl9_r58) ?_)
    refine pw_cutl (by rfl) ?_
    exact h1
set_option maxRecDepth 100000 in
theorem cl9_r59 {a0 : Int32} {a1 : Int32} : ∀ G : ez_F, fx_up X 1 G 13 4 [.ref 0, .int a0] [.int a1] (ev_hp I J R T) cz kz = bif decide (a1 = (0 : Int32)) then G 13 10 [.ref 0, .int a0] [] (ev_hp I J R T) cz kz else G 13 7 [.ref 0, .int a0] [] (ev_hp I J R T) cz kz := by
  intro G
  rfl
set_option maxRecDepth 100000 in
theorem cl9_r60 {a0 : Int32} : ∀ G : ez_F, fx_up X 3 G 13 10 [.ref 0, .int a0] [] (ev_hp I J R T) cz kz = ev_C G 23 [.ref 0, .int a0] (ev_hp I J R T) fun r h1 c1 k1 => G 13 15 [.ref 0, .int a0] (r.toList ++ []) h1 (cz + c1) (kz + k1) := by
  intro G
  rfl
set_option maxRecDepth 100000 in
theorem cl9_r61 {a0 : Int32} {a1 : Int32} : ∀ G : ez_F, fx_up X 1 G 13 15 [.ref 0, .int a0] [.int a1] (ev_hp I J R T) cz kz = bif decide (a1 = (0 : Int32)) then G 13 29 [.ref 0, .int a0] [] (ev_hp I J R T) cz kz else G 13 18 [.ref 0, .int a0] [] (ev_hp I J R T) cz kz := by
  intro G
  rfl
set_option maxRecDepth 100000 in
theorem cl9_r62 {a0 : Int32} : ∀ G : ez_F, fx_up X 2 G 13 29 [.ref 0, .int a0] [] (ev_hp I J R T) cz kz = some (some (.int (-2 : Int32)), (ev_hp I J R T), cz, kz) := by
  intro G
  rfl
set_option maxRecDepth 100000 in
theorem cl9_r63 {a0 : Int32} : ∀ G : ez_F, fx_up X 4 G 13 18 [.ref 0, .int a0] [] (ev_hp I J R T) cz kz = ev_C G 74 [.ref 32, .int a0] (ev_hp I J R T) fun r h1 c1 k1 => G 13 26 [.ref 0, .int a0] (r.toList ++ []) h1 (cz + c1) (kz + k1) := by
  intro G
  rfl
set_option maxRecDepth 100000 in
theorem cl9_r64 {a0 : Int32} : ∀ G : ez_F, fx_up X 2 G 13 7 [.ref 0, .int a0] [] (ev_hp I J R T) cz kz = some (some (.int (-6 : Int32)), (ev_hp I J R T), cz, kz) := by
  intro G
  rfl
theorem cc_4 {x v : Int32}
    (H : ((v = (0 : Int32) → (((ev_wi x (0 : Int32) ((I 6 3) - (1 : Int32))) = (0 : Int32) → Q (some (.int (-2 : Int32))) (ev_hp I J R T)) ∧ (¬ ((ev_wi x (0 : Int32) ((I 6 3) - (1 : Int32))) = (0 : Int32)) → (∃ Q1 : pw_Q, pe N X 74 [.ref 32, .int x] (ev_hp I J R T) Q1 ∧ ∀ (r : Option Value) (h1 : ez_H), Q1 r h1 → pw N X 13 26 [.ref 0, .int x] (r.toList ++ []) h1 Q)))) ∧ (¬ (v = (0 : Int32)) → Q (some (.int (-6 : Int32))) (ev_hp I J R T)))) : pw (N + 1) X 13 4 [.ref 0, .int x] [.int v] (ev_hp I J R T) Q := by
  refine pw_if (by decide) (fun _ _ => cl9_r59) (fun w1 => ?_) (fun w1 => ?_)
  · have h1 := H.1 w1
    refine pw_p (pw_callp (by decide) (fun _ _ => cl9_r60) (pe_is (eg_isLaying _ _ _ _ _ _)) ?_)
    refine pw_p (pw_if (by decide) (fun _ _ => cl9_r61) (fun w2 => ?_) (fun w2 => ?_))
    · have h2 := h1.1 w2
      exact pw_p (pw_ret (by decide) (fun _ _ => cl9_r62) h2)
    · have h2 := h1.2 w2
      obtain ⟨Q1, hc, hk⟩ := h2
      exact pw_p (pw_call (by decide) (fun _ _ => cl9_r63) hc hk)
  · have h1 := H.2 w1
    exact pw_p (pw_ret (by decide) (fun _ _ => cl9_r64) h1)
set_option maxRecDepth 100000 in
theorem cl9_r65 {a0 : Int32} {a1 : Int32} : ∀ G : ez_F, fx_up X 2 G 13 26 [.ref 0, .int a0] [.int a1] (ev_hp I J R T) cz kz = some (some (.int a1), (ev_hp I J R T), cz, kz) := by
  intro G
  rfl
theorem cc_26 {x v : Int32}
    (H : Q (some (.int v)) (ev_hp I J R T)) : pw (N + 1) X 13 26 [.ref 0, .int x] [.int v] (ev_hp I J R T) Q := by
  exact pw_ret (by decide) (fun _ _ => cl9_r65) H
set_option maxRecDepth 100000 in
theorem cl9_r66 {a0 : Int32} : ∀ G : ez_F, fx_up X 2 G 181 0 [.ref 35, .int a0] [] (ev_hp I J R T) cz kz = ev_C G 201 [.ref 35] (ev_hp I J R T) fun r h1 c1 k1 => G 181 4 [.ref 35, .int a0] (r.toList ++ []) h1 (cz + c1) (kz + k1) := by
  intro G
  rfl
theorem cr_0 {x : Int32}
    (H : (∃ Q1 : pw_Q, pe N X 201 [.ref 35] (ev_hp I J R T) Q1 ∧ ∀ (r : Option Value) (h1 : ez_H), Q1 r h1 → pw N X 181 4 [.ref 35, .int x] (r.toList ++ []) h1 Q)) : pw (N + 1) X 181 0 [.ref 35, .int x] [] (ev_hp I J R T) Q := by
  obtain ⟨Q1, hc, hk⟩ := H
  exact pw_call (by decide) (fun _ _ => cl9_r66) hc hk
set_option maxRecDepth 100000 in
theorem cl9_r67 {a0 : Int32} {a1 : Int32} : ∀ G : ez_F, fx_up X 1 G 181 4 [.ref 35, .int a0] [.int a1] (ev_hp I J R T) cz kz = bif decide (a1 = (0 : Int32)) then G 181 10 [.ref 35, .int a0] [] (ev_hp I J R T) cz kz else G 181 7 [.ref 35, .int a0] [] (ev_hp I J R T) cz kz := by
  intro G
  rfl
set_option maxRecDepth 100000 in
theorem cl9_r68 {a0 : Int32} : ∀ G : ez_F, fx_up X 3 G 181 10 [.ref 35, .int a0] [] (ev_hp I J R T) cz kz = ev_C G 202 [.ref 35, .int a0] (ev_hp I J R T) fun r h1 c1 k1 => G 181 15 [.ref 35, .int a0] (r.toList ++ []) h1 (cz + c1) (kz + k1) := by
  intro G
  rfl
set_option maxRecDepth 100000 in
theorem cl9_r69 {a0 : Int32} {a1 : Int32} : ∀ G : ez_F, fx_up X 1 G 181 15 [.ref 35, .int a0] [.int a1] (ev_hp I J R T) cz kz = bif decide (¬ a1 = (0 : Int32)) then G 181 21 [.ref 35, .int a0] [] (ev_hp I J R T) cz kz else G 181 18 [.ref 35, .int a0] [] (ev_hp I J R T) cz kz := by
  intro G
  rfl
set_option maxRecDepth 100000 in
theorem cl9_r70 {a0 : Int32} : ∀ G : ez_F, fx_up X 3 G 181 21 [.ref 35, .int a0] [] (ev_hp I J R T) cz kz = ev_C G 180 [.ref 35, .int a0] (ev_hp I J R T) fun r h1 c1 k1 => G 181 26 [.ref 35, .int a0] (r.toList ++ []) h1 (cz + c1) (kz + k1) := by
  intro G
  rfl
set_option maxRecDepth 100000 in
theorem cl9_r71 {a0 : Int32} : ∀ G : ez_F, fx_up X 2 G 181 18 [.ref 35, .int a0] [] (ev_hp I J R T) cz kz = some (some (.int (-2 : Int32)), (ev_hp I J R T), cz, kz) := by
  intro G
  rfl
set_option maxRecDepth 100000 in
theorem cl9_r72 {a0 : Int32} : ∀ G : ez_F, fx_up X 2 G 181 7 [.ref 35, .int a0] [] (ev_hp I J R T) cz kz = some (some (.int (-6 : Int32)), (ev_hp I J R T), cz, kz) := by
  intro G
  rfl
theorem cr_4 {x v : Int32}
    (H : ((v = (0 : Int32) → ((¬ (ev_il (x.toInt64) 0 ((((I 35 14)) - (1 : Int32)).toInt64)) = (0 : Int32) → (∃ Q1 : pw_Q, pe N X 180 [.ref 35, .int x] (ev_hp I J R T) Q1 ∧ ∀ (r : Option Value) (h1 : ez_H), Q1 r h1 → pw N X 181 26 [.ref 35, .int x] (r.toList ++ []) h1 Q)) ∧ (¬ (¬ (ev_il (x.toInt64) 0 ((((I 35 14)) - (1 : Int32)).toInt64)) = (0 : Int32)) → Q (some (.int (-2 : Int32))) (ev_hp I J R T)))) ∧ (¬ (v = (0 : Int32)) → Q (some (.int (-6 : Int32))) (ev_hp I J R T)))) : pw (N + 1) X 181 4 [.ref 35, .int x] [.int v] (ev_hp I J R T) Q := by
  refine pw_if (by decide) (fun _ _ => cl9_r67) (fun w1 => ?_) (fun w1 => ?_)
  · have h1 := H.1 w1
    refine pw_p (pw_callp (by decide) (fun _ _ => cl9_r68) (pe_is (em_isLaying _ _ _ _ _ _)) ?_)
    refine pw_p (pw_if (by decide) (fun _ _ => cl9_r69) (fun w2 => ?_) (fun w2 => ?_))
    · have h2 := h1.1 w2
      obtain ⟨Q1, hc, hk⟩ := h2
      exact pw_p (pw_call (by decide) (fun _ _ => cl9_r70) hc hk)
    · have h2 := h1.2 w2
      exact pw_p (pw_ret (by decide) (fun _ _ => cl9_r71) h2)
  · have h1 := H.2 w1
    exact pw_p (pw_ret (by decide) (fun _ _ => cl9_r72) h1)
set_option maxRecDepth 100000 in
theorem cl9_r73 {a0 : Int32} {a1 : Int64} : ∀ G : ez_F, fx_up X 5 G 181 26 [.ref 35, .int a0] [.long a1] (ev_hp I J R T) cz kz = G 181 33 [.ref 35, .int a0, .long a1, ez_fill, .int (0 : Int32), .int (0 : Int32)] [] (ev_hp I J R T) cz kz := by
  intro G
  rfl
theorem cr_26 {x : Int32} {u : Int64}
    (H : pw N X 181 33 [.ref 35, .int x, .long u, ez_fill, .int (0 : Int32), .int (0 : Int32)] [] (ev_hp I J R T) Q) : pw (N + 1) X 181 26 [.ref 35, .int x] [.long u] (ev_hp I J R T) Q := by
  refine pw_seg (by decide) (fun _ _ => cl9_r73) ?_
  exact H
set_option maxRecDepth 100000 in
theorem cl9_r74 {a0 : Int32} {a1 : Int64} {a2 : Int32} {a3 : Int32} : ∀ G : ez_F, fx_up X 3 G 181 33 [.ref 35, .int a0, .long a1, ez_fill, .int a2, .int a3] [] (ev_hp I J R T) cz kz = G 181 39 [.ref 35, .int a0, .long a1, ez_fill, .int a2, .int a3] [.int (I 35 14), .int a3] (ev_hp I J R T) cz kz := by
  intro G
  rfl
set_option maxRecDepth 100000 in
theorem cl9_r75 {a0 : Int32} {a1 : Int64} {a2 : Int32} {a3 : Int32} {a4 : Int32} {a5 : Int32} : ∀ G : ez_F, fx_up X 1 G 181 39 [.ref 35, .int a0, .long a1, ez_fill, .int a2, .int a3] [.int a4, .int a5] (ev_hp I J R T) cz kz = bif decide (a4 ≤ a5) then G 181 138 [.ref 35, .int a0, .long a1, ez_fill, .int a2, .int a3] [] (ev_hp I J R T) cz kz else G 181 42 [.ref 35, .int a0, .long a1, ez_fill, .int a2, .int a3] [] (ev_hp I J R T) cz kz := by
  intro G
  rfl
set_option maxRecDepth 100000 in
theorem cl9_r76 {a0 : Int32} {a1 : Int64} {a2 : Int32} {a3 : Int32} : ∀ G : ez_F, fx_up X 3 G 181 42 [.ref 35, .int a0, .long a1, ez_fill, .int a2, .int a3] [] (ev_hp I J R T) cz kz = ev_C G 180 [.ref 35, .int a3] (ev_hp I J R T) fun r h1 c1 k1 => G 181 48 [.ref 35, .int a0, .long a1, ez_fill, .int a2, .int a3] (r.toList ++ []) h1 (cz + c1) (kz + k1) := by
  intro G
  rfl
theorem cr_33 {x o i : Int32} {u : Int64}
    (H : (((I 35 14) ≤ i → pw N X 181 138 [.ref 35, .int x, .long u, ez_fill, .int o, .int i] [] (ev_hp I J R T) Q) ∧ (¬ ((I 35 14) ≤ i) → (∃ Q1 : pw_Q, pe N X 180 [.ref 35, .int i] (ev_hp I J R T) Q1 ∧ ∀ (r : Option Value) (h1 : ez_H), Q1 r h1 → pw N X 181 48 [.ref 35, .int x, .long u, ez_fill, .int o, .int i] (r.toList ++ []) h1 Q)))) : pw (N + 1) X 181 33 [.ref 35, .int x, .long u, ez_fill, .int o, .int i] [] (ev_hp I J R T) Q := by
  refine pw_seg (by decide) (fun _ _ => cl9_r74) ?_
  refine pw_p (pw_if (by decide) (fun _ _ => cl9_r75) (fun w1 => ?_) (fun w1 => ?_))
  · have h1 := H.1 w1
    exact h1
  · have h1 := H.2 w1
    obtain ⟨Q1, hc, hk⟩ := h1
    exact pw_p (pw_call (by decide) (fun _ _ => cl9_r76) hc hk)
set_option maxRecDepth 100000 in
theorem cl9_r77 {a0 : Int32} {a1 : Int64} {a2 : Int32} {a3 : Int32} {a4 : Int64} : ∀ G : ez_F, fx_up X 5 G 181 48 [.ref 35, .int a0, .long a1, ez_fill, .int a2, .int a3] [.long a4] (ev_hp I J R T) cz kz = bif decide ((lg_cmp a4 a1) = (0 : Int32)) then G 181 132 [.ref 35, .int a0, .long a1, ez_fill, .int a2, .int a3, .long a4, ez_fill] [] (ev_hp I J R T) cz kz else G 181 57 [.ref 35, .int a0, .long a1, ez_fill, .int a2, .int a3, .long a4, ez_fill] [] (ev_hp I J R T) cz kz := by
  intro G
  rfl
set_option maxRecDepth 100000 in
theorem cl9_r78 {a0 : Int32} {a1 : Int64} {a2 : Int32} {a3 : Int32} {a4 : Int64} : ∀ G : ez_F, fx_up X 4 G 181 57 [.ref 35, .int a0, .long a1, ez_fill, .int a2, .int a3, .long a4, ez_fill] [] (ev_hp I J R T) cz kz = G 181 64 [.ref 35, .int a0, .long a1, ez_fill, .int a2, .int a3, .long a4, ez_fill] [.int (0 : Int32), .int a2, .ref 64] (ev_hp I J R T) cz kz := by
  intro G
  rfl
set_option maxRecDepth 100000 in
theorem cl9_r79 {a0 : Int32} {a1 : Int64} {a2 : Int32} {a3 : Int32} {a4 : Int64} : ∀ G : ez_F, fx_up X 2 G 181 65 [.ref 35, .int a0, .long a1, ez_fill, .int a2, .int a3, .long a4, ez_fill] [] (ev_hp I J R T) cz kz = G 181 68 [.ref 35, .int a0, .long a1, ez_fill, .int a2, .int a3, .long a4, ez_fill, .int (0 : Int32)] [] (ev_hp I J R T) cz kz := by
  intro G
  rfl
theorem cr_48 {x o i : Int32} {u v : Int64}
    (H : (((lg_cmp v u) = (0 : Int32) → pw N X 181 132 [.ref 35, .int x, .long u, ez_fill, .int o, .int i, .long v, ez_fill] [] (ev_hp I J R T) Q) ∧ (¬ ((lg_cmp v u) = (0 : Int32)) → (ev_ix o 401 → pw N X 181 68 [.ref 35, .int x, .long u, ez_fill, .int o, .int i, .long v, ez_fill, .int (0 : Int32)] [] (ev_hp (ev_sI I 64 (upd (I 64) o.toNatClampNeg (0 : Int32))) J R T) Q)))) : pw (N + 1) X 181 48 [.ref 35, .int x, .long u, ez_fill, .int o, .int i] [.long v] (ev_hp I J R T) Q := by
  refine pw_if (by decide) (fun _ _ => cl9_r77) (fun w1 => ?_) (fun w1 => ?_)
  · have h1 := H.1 w1
    exact h1
  · have h1 := H.2 w1
    refine pw_p (pw_seg (by decide) (fun _ _ => cl9_r78) ?_)
    refine pw_p (pw_iast (by rfl) (cx_getI (show cx_Ds[64]? = some (0, 401, []) from rfl)) (cx_setI (show cx_Ds[64]? = some (0, 401, []) from rfl) _) (fun w2 => ?_))
    have h2 := h1 w2
    refine pw_p (pw_seg (by decide) (fun _ _ => cl9_r79) ?_)
    exact h2
set_option maxRecDepth 100000 in
theorem cl9_r80 {a0 : Int32} {a1 : Int64} {a2 : Int32} {a3 : Int32} {a4 : Int64} {a5 : Int32} : ∀ G : ez_F, fx_up X 3 G 181 68 [.ref 35, .int a0, .long a1, ez_fill, .int a2, .int a3, .long a4, ez_fill, .int a5] [] (ev_hp I J R T) cz kz = G 181 74 [.ref 35, .int a0, .long a1, ez_fill, .int a2, .int a3, .long a4, ez_fill, .int a5] [.int (I 35 0), .int a5] (ev_hp I J R T) cz kz := by
  intro G
  rfl
set_option maxRecDepth 100000 in
theorem cl9_r81 {a0 : Int32} {a1 : Int64} {a2 : Int32} {a3 : Int32} {a4 : Int64} {a5 : Int32} {a6 : Int32} {a7 : Int32} : ∀ G : ez_F, fx_up X 2 G 181 74 [.ref 35, .int a0, .long a1, ez_fill, .int a2, .int a3, .long a4, ez_fill, .int a5] [.int a6, .int a7] (ev_hp I J R T) cz kz = G 181 78 [.ref 35, .int a0, .long a1, ez_fill, .int a2, .int a3, .long a4, ez_fill, .int a5] [.int (I 35 1), .int a6, .int a7] (ev_hp I J R T) cz kz := by
  intro G
  rfl
set_option maxRecDepth 100000 in
theorem cl9_r82 {a0 : Int32} {a1 : Int64} {a2 : Int32} {a3 : Int32} {a4 : Int64} {a5 : Int32} {a6 : Int32} {a7 : Int32} {a8 : Int32} : ∀ G : ez_F, fx_up X 2 G 181 78 [.ref 35, .int a0, .long a1, ez_fill, .int a2, .int a3, .long a4, ez_fill, .int a5] [.int a6, .int a7, .int a8] (ev_hp I J R T) cz kz = bif decide ((a7 + a6) ≤ a8) then G 181 129 [.ref 35, .int a0, .long a1, ez_fill, .int a2, .int a3, .long a4, ez_fill, .int a5] [] (ev_hp I J R T) cz kz else G 181 82 [.ref 35, .int a0, .long a1, ez_fill, .int a2, .int a3, .long a4, ez_fill, .int a5] [] (ev_hp I J R T) cz kz := by
  intro G
  rfl
set_option maxRecDepth 100000 in
theorem cl9_r83 {a0 : Int32} {a1 : Int64} {a2 : Int32} {a3 : Int32} {a4 : Int64} {a5 : Int32} : ∀ G : ez_F, fx_up X 6 G 181 82 [.ref 35, .int a0, .long a1, ez_fill, .int a2, .int a3, .long a4, ez_fill, .int a5] [] (ev_hp I J R T) cz kz = G 181 94 [.ref 35, .int a0, .long a1, ez_fill, .int a2, .int a3, .long a4, ez_fill, .int a5] [.int a2, .ref 64, .int a2, .ref 64] (ev_hp I J R T) cz kz := by
  intro G
  rfl
set_option maxRecDepth 100000 in
theorem cl9_r84 {a0 : Int32} {a1 : Int64} {a2 : Int32} {a3 : Int32} {a4 : Int64} {a5 : Int32} {a6 : Int32} {a7 : Int32} : ∀ G : ez_F, fx_up X 4 G 181 95 [.ref 35, .int a0, .long a1, ez_fill, .int a2, .int a3, .long a4, ez_fill, .int a5] [.int a6, .int a7, .ref 64] (ev_hp I J R T) cz kz = ev_C G 183 [.ref 35, .long a4, .int a5] (ev_hp I J R T) fun r h1 c1 k1 => G 181 103 [.ref 35, .int a0, .long a1, ez_fill, .int a2, .int a3, .long a4, ez_fill, .int a5] (r.toList ++ [.int a6, .int a7, .ref 64]) h1 (cz + c1) (kz + k1) := by
  intro G
  rfl
theorem cr_68 {x o i y : Int32} {u v : Int64}
    (H : ((((I 35 0) + (I 35 1)) ≤ y → pw N X 181 129 [.ref 35, .int x, .long u, ez_fill, .int o, .int i, .long v, ez_fill, .int y] [] (ev_hp I J R T) Q) ∧ (¬ (((I 35 0) + (I 35 1)) ≤ y) → (ev_ix o 401 → (∃ Q1 : pw_Q, pe N X 183 [.ref 35, .long v, .int y] (ev_hp I J R T) Q1 ∧ ∀ (r : Option Value) (h1 : ez_H), Q1 r h1 → pw N X 181 103 [.ref 35, .int x, .long u, ez_fill, .int o, .int i, .long v, ez_fill, .int y] (r.toList ++ [.int (I 64 o.toNatClampNeg), .int o, .ref 64]) h1 Q))))) : pw (N + 1) X 181 68 [.ref 35, .int x, .long u, ez_fill, .int o, .int i, .long v, ez_fill, .int y] [] (ev_hp I J R T) Q := by
  refine pw_seg (by decide) (fun _ _ => cl9_r80) ?_
  refine pw_p (pw_seg (by decide) (fun _ _ => cl9_r81) ?_)
  refine pw_p (pw_if (by decide) (fun _ _ => cl9_r82) (fun w1 => ?_) (fun w1 => ?_))
  · have h1 := H.1 w1
    exact h1
  · have h1 := H.2 w1
    refine pw_p (pw_seg (by decide) (fun _ _ => cl9_r83) ?_)
    refine pw_p (pw_iald (by rfl) (cx_getI (show cx_Ds[64]? = some (0, 401, []) from rfl)) (fun w2 => ?_))
    have h2 := h1 w2
    obtain ⟨Q1, hc, hk⟩ := h2
    exact pw_p (pw_call (by decide) (fun _ _ => cl9_r84) hc hk)
set_option maxRecDepth 100000 in
theorem cl9_r85 {a0 : Int32} {a1 : Int64} {a2 : Int32} {a3 : Int32} {a4 : Int64} {a5 : Int32} {a6 : Int32} {a7 : Int32} {a8 : Int32} : ∀ G : ez_F, fx_up X 4 G 181 103 [.ref 35, .int a0, .long a1, ez_fill, .int a2, .int a3, .long a4, ez_fill, .int a5] [.int a6, .int a7, .int a8, .ref 64] (ev_hp I J R T) cz kz = ev_C G 183 [.ref 35, .long a1, .int a5] (ev_hp I J R T) fun r h1 c1 k1 => G 181 110 [.ref 35, .int a0, .long a1, ez_fill, .int a2, .int a3, .long a4, ez_fill, .int a5] (r.toList ++ [.int a6, .int a7, .int a8, .ref 64]) h1 (cz + c1) (kz + k1) := by
  intro G
  rfl
theorem cr_103 {x o i y a d e : Int32} {u v : Int64}
    (H : (∃ Q1 : pw_Q, pe N X 183 [.ref 35, .long u, .int y] (ev_hp I J R T) Q1 ∧ ∀ (r : Option Value) (h1 : ez_H), Q1 r h1 → pw N X 181 110 [.ref 35, .int x, .long u, ez_fill, .int o, .int i, .long v, ez_fill, .int y] (r.toList ++ [.int a, .int d, .int e, .ref 64]) h1 Q)) : pw (N + 1) X 181 103 [.ref 35, .int x, .long u, ez_fill, .int o, .int i, .long v, ez_fill, .int y] [.int a, .int d, .int e, .ref 64] (ev_hp I J R T) Q := by
  obtain ⟨Q1, hc, hk⟩ := H
  exact pw_call (by decide) (fun _ _ => cl9_r85) hc hk
set_option maxRecDepth 100000 in
theorem cl9_r86 {a0 : Int32} {a1 : Int64} {a2 : Int32} {a3 : Int32} {a4 : Int64} {a5 : Int32} {a6 : Int32} {a7 : Int32} {a8 : Int32} {a9 : Int32} : ∀ G : ez_F, fx_up X 1 G 181 110 [.ref 35, .int a0, .long a1, ez_fill, .int a2, .int a3, .long a4, ez_fill, .int a5] [.int a6, .int a7, .int a8, .int a9, .ref 64] (ev_hp I J R T) cz kz = bif decide (a7 = a6) then G 181 120 [.ref 35, .int a0, .long a1, ez_fill, .int a2, .int a3, .long a4, ez_fill, .int a5] [.int a8, .int a9, .ref 64] (ev_hp I J R T) cz kz else G 181 113 [.ref 35, .int a0, .long a1, ez_fill, .int a2, .int a3, .long a4, ez_fill, .int a5] [.int a8, .int a9, .ref 64] (ev_hp I J R T) cz kz := by
  intro G
  rfl
set_option maxRecDepth 100000 in
theorem cl9_r87 {a0 : Int32} {a1 : Int64} {a2 : Int32} {a3 : Int32} {a4 : Int64} {a5 : Int32} {a6 : Int32} {a7 : Int32} : ∀ G : ez_F, fx_up X 2 G 181 120 [.ref 35, .int a0, .long a1, ez_fill, .int a2, .int a3, .long a4, ez_fill, .int a5] [.int a6, .int a7, .ref 64] (ev_hp I J R T) cz kz = G 181 122 [.ref 35, .int a0, .long a1, ez_fill, .int a2, .int a3, .long a4, ez_fill, .int a5] [.int (a6 ||| (0 : Int32)), .int a7, .ref 64] (ev_hp I J R T) cz kz := by
  intro G
  rfl
set_option maxRecDepth 100000 in
theorem cl9_r88 {a0 : Int32} {a1 : Int64} {a2 : Int32} {a3 : Int32} {a4 : Int64} {a5 : Int32} : ∀ G : ez_F, fx_up X 2 G 181 123 [.ref 35, .int a0, .long a1, ez_fill, .int a2, .int a3, .long a4, ez_fill, .int a5] [] (ev_hp I J R T) cz kz = G 181 68 [.ref 35, .int a0, .long a1, ez_fill, .int a2, .int a3, .long a4, ez_fill, .int (a5 + (1 : Int32))] [] (ev_hp I J R T) cz kz := by
  intro G
  rfl
set_option maxRecDepth 100000 in
theorem cl9_r89 {a0 : Int32} {a1 : Int64} {a2 : Int32} {a3 : Int32} {a4 : Int64} {a5 : Int32} {a6 : Int32} {a7 : Int32} : ∀ G : ez_F, fx_up X 5 G 181 113 [.ref 35, .int a0, .long a1, ez_fill, .int a2, .int a3, .long a4, ez_fill, .int a5] [.int a6, .int a7, .ref 64] (ev_hp I J R T) cz kz = G 181 122 [.ref 35, .int a0, .long a1, ez_fill, .int a2, .int a3, .long a4, ez_fill, .int a5] [.int (a6 ||| ((1 : Int32) <<< (a5 &&& (31 : Int32)))), .int a7, .ref 64] (ev_hp I J R T) cz kz := by
  intro G
  rfl
theorem cr_110 {x o i y a b d e : Int32} {u v : Int64}
    (H : ((a = b → (ev_ix e 401 → pw N X 181 68 [.ref 35, .int x, .long u, ez_fill, .int o, .int i, .long v, ez_fill, .int (y + (1 : Int32))] [] (ev_hp (ev_sI I 64 (upd (I 64) e.toNatClampNeg (d ||| (0 : Int32)))) J R T) Q)) ∧ (¬ (a = b) → (ev_ix e 401 → pw N X 181 68 [.ref 35, .int x, .long u, ez_fill, .int o, .int i, .long v, ez_fill, .int (y + (1 : Int32))] [] (ev_hp (ev_sI I 64 (upd (I 64) e.toNatClampNeg (d ||| ((1 : Int32) <<< (y &&& (31 : Int32)))))) J R T) Q)))) : pw (N + 1) X 181 110 [.ref 35, .int x, .long u, ez_fill, .int o, .int i, .long v, ez_fill, .int y] [.int b, .int a, .int d, .int e, .ref 64] (ev_hp I J R T) Q := by
  refine pw_if (by decide) (fun _ _ => cl9_r86) (fun w1 => ?_) (fun w1 => ?_)
  · have h1 := H.1 w1
    refine pw_p (pw_seg (by decide) (fun _ _ => cl9_r87) ?_)
    refine pw_p (pw_iast (by rfl) (cx_getI (show cx_Ds[64]? = some (0, 401, []) from rfl)) (cx_setI (show cx_Ds[64]? = some (0, 401, []) from rfl) _) (fun w2 => ?_))
    have h2 := h1 w2
    refine pw_p (pw_seg (by decide) (fun _ _ => cl9_r88) ?_)
    exact h2
  · have h1 := H.2 w1
    refine pw_p (pw_seg (by decide) (fun _ _ => cl9_r89) ?_)
    refine pw_p (pw_iast (by rfl) (cx_getI (show cx_Ds[64]? = some (0, 401, []) from rfl)) (cx_setI (show cx_Ds[64]? = some (0, 401, []) from rfl) _) (fun w2 => ?_))
    have h2 := h1 w2
    refine pw_p (pw_seg (by decide) (fun _ _ => cl9_r88) ?_)
    exact h2
set_option maxRecDepth 100000 in
theorem cl9_r90 {a0 : Int32} {a1 : Int64} {a2 : Int32} {a3 : Int32} {a4 : Int64} {a5 : Int32} : ∀ G : ez_F, fx_up X 3 G 181 129 [.ref 35, .int a0, .long a1, ez_fill, .int a2, .int a3, .long a4, ez_fill, .int a5] [] (ev_hp I J R T) cz kz = G 181 33 [.ref 35, .int a0, .long a1, ez_fill, .int (a2 + (1 : Int32)), .int (a3 + (1 : Int32)), .long a4, ez_fill] [] (ev_hp I J R T) cz kz := by
  intro G
  rfl
theorem cr_129 {x o i y : Int32} {u v : Int64}
    (H : pw N X 181 33 [.ref 35, .int x, .long u, ez_fill, .int (o + (1 : Int32)), .int (i + (1 : Int32))] [] (ev_hp I J R T) Q) : pw (N + 1) X 181 129 [.ref 35, .int x, .long u, ez_fill, .int o, .int i, .long v, ez_fill, .int y] [] (ev_hp I J R T) Q := by
  refine pw_seg (by decide) (fun _ _ => cl9_r90) ?_
  refine pw_cutl (by rfl) ?_
  exact H
set_option maxRecDepth 100000 in
theorem cl9_r91 {a0 : Int32} {a1 : Int64} {a2 : Int32} {a3 : Int32} {a4 : Int64} : ∀ G : ez_F, fx_up X 2 G 181 132 [.ref 35, .int a0, .long a1, ez_fill, .int a2, .int a3, .long a4, ez_fill] [] (ev_hp I J R T) cz kz = G 181 33 [.ref 35, .int a0, .long a1, ez_fill, .int a2, .int (a3 + (1 : Int32)), .long a4, ez_fill] [] (ev_hp I J R T) cz kz := by
  intro G
  rfl
theorem cr_132 {x o i : Int32} {u v : Int64}
    (H : pw N X 181 33 [.ref 35, .int x, .long u, ez_fill, .int o, .int (i + (1 : Int32))] [] (ev_hp I J R T) Q) : pw (N + 1) X 181 132 [.ref 35, .int x, .long u, ez_fill, .int o, .int i, .long v, ez_fill] [] (ev_hp I J R T) Q := by
  refine pw_seg (by decide) (fun _ _ => cl9_r91) ?_
  refine pw_cutl (by rfl) ?_
  exact H
set_option maxRecDepth 100000 in
theorem cl9_r92 {a0 : Int32} {a1 : Int64} {a2 : Int32} {a3 : Int32} : ∀ G : ez_F, fx_up X 4 G 181 138 [.ref 35, .int a0, .long a1, ez_fill, .int a2, .int a3] [] (ev_hp I J R T) cz kz = G 181 144 [.ref 35, .int a0, .long a1, ez_fill, .int a2, .int (-1 : Int32), .int (0 : Int32)] [] (ev_hp I J R T) cz kz := by
  intro G
  rfl
theorem cr_138 {x o i : Int32} {u : Int64}
    (H : pw N X 181 144 [.ref 35, .int x, .long u, ez_fill, .int o, .int (-1 : Int32), .int (0 : Int32)] [] (ev_hp I J R T) Q) : pw (N + 1) X 181 138 [.ref 35, .int x, .long u, ez_fill, .int o, .int i] [] (ev_hp I J R T) Q := by
  refine pw_seg (by decide) (fun _ _ => cl9_r92) ?_
  exact H
set_option maxRecDepth 100000 in
theorem cl9_r93 {a0 : Int32} {a1 : Int64} {a2 : Int32} {a3 : Int32} {a4 : Int32} : ∀ G : ez_F, fx_up X 4 G 181 144 [.ref 35, .int a0, .long a1, ez_fill, .int a2, .int a3, .int a4] [] (ev_hp I J R T) cz kz = G 181 151 [.ref 35, .int a0, .long a1, ez_fill, .int a2, .int a3, .int a4] [.int (I 35 0), .int (1 : Int32), .int a4] (ev_hp I J R T) cz kz := by
  intro G
  rfl
set_option maxRecDepth 100000 in
theorem cl9_r94 {a0 : Int32} {a1 : Int64} {a2 : Int32} {a3 : Int32} {a4 : Int32} {a5 : Int32} {a6 : Int32} {a7 : Int32} : ∀ G : ez_F, fx_up X 2 G 181 151 [.ref 35, .int a0, .long a1, ez_fill, .int a2, .int a3, .int a4] [.int a5, .int a6, .int a7] (ev_hp I J R T) cz kz = G 181 155 [.ref 35, .int a0, .long a1, ez_fill, .int a2, .int a3, .int a4] [.int (I 35 1), .int a5, .int a6, .int a7] (ev_hp I J R T) cz kz := by
  intro G
  rfl
set_option maxRecDepth 100000 in
theorem cl9_r95 {a0 : Int32} {a1 : Int64} {a2 : Int32} {a3 : Int32} {a4 : Int32} {a5 : Int32} {a6 : Int32} {a7 : Int32} {a8 : Int32} : ∀ G : ez_F, fx_up X 3 G 181 155 [.ref 35, .int a0, .long a1, ez_fill, .int a2, .int a3, .int a4] [.int a5, .int a6, .int a7, .int a8] (ev_hp I J R T) cz kz = bif decide ((a7 <<< ((a6 + a5) &&& (31 : Int32))) ≤ a8) then G 181 245 [.ref 35, .int a0, .long a1, ez_fill, .int a2, .int a3, .int a4] [] (ev_hp I J R T) cz kz else G 181 160 [.ref 35, .int a0, .long a1, ez_fill, .int a2, .int a3, .int a4] [] (ev_hp I J R T) cz kz := by
  intro G
  rfl
set_option maxRecDepth 100000 in
theorem cl9_r96 {a0 : Int32} {a1 : Int64} {a2 : Int32} {a3 : Int32} {a4 : Int32} : ∀ G : ez_F, fx_up X 2 G 181 245 [.ref 35, .int a0, .long a1, ez_fill, .int a2, .int a3, .int a4] [] (ev_hp I J R T) cz kz = some (some (.int a3), (ev_hp I J R T), cz, kz) := by
  intro G
  rfl
set_option maxRecDepth 100000 in
theorem cl9_r97 {a0 : Int32} {a1 : Int64} {a2 : Int32} {a3 : Int32} {a4 : Int32} : ∀ G : ez_F, fx_up X 3 G 181 160 [.ref 35, .int a0, .long a1, ez_fill, .int a2, .int a3, .int a4] [] (ev_hp I J R T) cz kz = bif decide (a3 = (-1 : Int32)) then G 181 181 [.ref 35, .int a0, .long a1, ez_fill, .int a2, .int a3, .int a4] [] (ev_hp I J R T) cz kz else G 181 166 [.ref 35, .int a0, .long a1, ez_fill, .int a2, .int a3, .int a4] [] (ev_hp I J R T) cz kz := by
  intro G
  rfl
set_option maxRecDepth 100000 in
theorem cl9_r98 {a0 : Int32} {a1 : Int64} {a2 : Int32} {a3 : Int32} {a4 : Int32} : ∀ G : ez_F, fx_up X 4 G 181 181 [.ref 35, .int a0, .long a1, ez_fill, .int a2, .int a3, .int a4] [] (ev_hp I J R T) cz kz = G 181 187 [.ref 35, .int a0, .long a1, ez_fill, .int a2, .int a3, .int a4, .int (1 : Int32), .int (0 : Int32)] [] (ev_hp I J R T) cz kz := by
  intro G
  rfl
set_option maxRecDepth 100000 in
theorem cl9_r99 {a0 : Int32} {a1 : Int64} {a2 : Int32} {a3 : Int32} {a4 : Int32} : ∀ G : ez_F, fx_up X 3 G 181 166 [.ref 35, .int a0, .long a1, ez_fill, .int a2, .int a3, .int a4] [] (ev_hp I J R T) cz kz = ev_C G 171 [.long a4.toInt64] (ev_hp I J R T) fun r h1 c1 k1 => G 181 172 [.ref 35, .int a0, .long a1, ez_fill, .int a2, .int a3, .int a4] (r.toList ++ []) h1 (cz + c1) (kz + k1) := by
  intro G
  rfl
set_option maxRecDepth 100000 in
theorem cl9_r100 {a0 : Int32} {a1 : Int64} {a2 : Int32} {a3 : Int32} {a4 : Int32} {a5 : Int32} : ∀ G : ez_F, fx_up X 3 G 181 172 [.ref 35, .int a0, .long a1, ez_fill, .int a2, .int a3, .int a4] [.int a5] (ev_hp I J R T) cz kz = ev_C G 171 [.long a3.toInt64] (ev_hp I J R T) fun r h1 c1 k1 => G 181 178 [.ref 35, .int a0, .long a1, ez_fill, .int a2, .int a3, .int a4] (r.toList ++ [.int a5]) h1 (cz + c1) (kz + k1) := by
  intro G
  rfl
set_option maxRecDepth 100000 in
theorem cl9_r101 {a0 : Int32} {a1 : Int64} {a2 : Int32} {a3 : Int32} {a4 : Int32} {a5 : Int32} {a6 : Int32} : ∀ G : ez_F, fx_up X 1 G 181 178 [.ref 35, .int a0, .long a1, ez_fill, .int a2, .int a3, .int a4] [.int a5, .int a6] (ev_hp I J R T) cz kz = bif decide (a5 ≤ a6) then G 181 239 [.ref 35, .int a0, .long a1, ez_fill, .int a2, .int a3, .int a4] [] (ev_hp I J R T) cz kz else G 181 181 [.ref 35, .int a0, .long a1, ez_fill, .int a2, .int a3, .int a4] [] (ev_hp I J R T) cz kz := by
  intro G
  rfl
set_option maxRecDepth 100000 in
theorem cl9_r102 {a0 : Int32} {a1 : Int64} {a2 : Int32} {a3 : Int32} {a4 : Int32} : ∀ G : ez_F, fx_up X 2 G 181 239 [.ref 35, .int a0, .long a1, ez_fill, .int a2, .int a3, .int a4] [] (ev_hp I J R T) cz kz = G 181 144 [.ref 35, .int a0, .long a1, ez_fill, .int a2, .int a3, .int (a4 + (1 : Int32))] [] (ev_hp I J R T) cz kz := by
  intro G
  rfl
theorem cr_144 {x o b s : Int32} {u : Int64}
    (H : ((((1 : Int32) <<< (((I 35 0) + (I 35 1)) &&& (31 : Int32))) ≤ s → Q (some (.int b)) (ev_hp I J R T)) ∧ (¬ (((1 : Int32) <<< (((I 35 0) + (I 35 1)) &&& (31 : Int32))) ≤ s) → ((b = (-1 : Int32) → pw N X 181 187 [.ref 35, .int x, .long u, ez_fill, .int o, .int b, .int s, .int (1 : Int32), .int (0 : Int32)] [] (ev_hp I J R T) Q) ∧ (¬ (b = (-1 : Int32)) → (((ev_bits b.toInt64) ≤ (ev_bits s.toInt64) → pw N X 181 144 [.ref 35, .int x, .long u, ez_fill, .int o, .int b, .int (s + (1 : Int32))] [] (ev_hp I J R T) Q) ∧ (¬ ((ev_bits b.toInt64) ≤ (ev_bits s.toInt64)) → pw N X 181 187 [.ref 35, .int x, .long u, ez_fill, .int o, .int b, .int s, .int (1 : Int32), .int (0 : Int32)] [] (ev_hp I J R T) Q))))))) : pw (N + 1) X 181 144 [.ref 35, .int x, .long u, ez_fill, .int o, .int b, .int s] [] (ev_hp I J R T) Q := by
  refine pw_seg (by decide) (fun _ _ => cl9_r93) ?_
  refine pw_p (pw_seg (by decide) (fun _ _ => cl9_r94) ?_)
  refine pw_p (pw_if (by decide) (fun _ _ => cl9_r95) (fun w1 => ?_) (fun w1 => ?_))
  · have h1 := H.1 w1
    exact pw_p (pw_ret (by decide) (fun _ _ => cl9_r96) h1)
  · have h1 := H.2 w1
    refine pw_p (pw_if (by decide) (fun _ _ => cl9_r97) (fun w2 => ?_) (fun w2 => ?_))
    · have h2 := h1.1 w2
      refine pw_p (pw_seg (by decide) (fun _ _ => cl9_r98) ?_)
      exact h2
    · have h2 := h1.2 w2
      refine pw_p (pw_callp (by decide) (fun _ _ => cl9_r99) (pe_is (em_bits _ _ _)) ?_)
      refine pw_p (pw_callp (by decide) (fun _ _ => cl9_r100) (pe_is (em_bits _ _ _)) ?_)
      refine pw_p (pw_if (by decide) (fun _ _ => cl9_r101) (fun w3 => ?_) (fun w3 => ?_))
      · have h3 := h2.1 w3
        refine pw_p (pw_seg (by decide) (fun _ _ => cl9_r102) ?_)
        exact h3
      · have h3 := h2.2 w3
        refine pw_p (pw_seg (by decide) (fun _ _ => cl9_r98) ?_)
        exact h3
set_option maxRecDepth 100000 in
theorem cl9_r103 {a0 : Int32} {a1 : Int64} {a2 : Int32} {a3 : Int32} {a4 : Int32} {a5 : Int32} {a6 : Int32} : ∀ G : ez_F, fx_up X 3 G 181 187 [.ref 35, .int a0, .long a1, ez_fill, .int a2, .int a3, .int a4, .int a5, .int a6] [] (ev_hp I J R T) cz kz = bif decide (a2 ≤ a6) then G 181 225 [.ref 35, .int a0, .long a1, ez_fill, .int a2, .int a3, .int a4, .int a5, .int a6] [] (ev_hp I J R T) cz kz else G 181 194 [.ref 35, .int a0, .long a1, ez_fill, .int a2, .int a3, .int a4, .int a5, .int a6] [] (ev_hp I J R T) cz kz := by
  intro G
  rfl
set_option maxRecDepth 100000 in
theorem cl9_r104 {a0 : Int32} {a1 : Int64} {a2 : Int32} {a3 : Int32} {a4 : Int32} {a5 : Int32} {a6 : Int32} : ∀ G : ez_F, fx_up X 2 G 181 225 [.ref 35, .int a0, .long a1, ez_fill, .int a2, .int a3, .int a4, .int a5, .int a6] [] (ev_hp I J R T) cz kz = bif decide (a5 = (0 : Int32)) then G 181 235 [.ref 35, .int a0, .long a1, ez_fill, .int a2, .int a3, .int a4, .int a5, .int a6] [] (ev_hp I J R T) cz kz else G 181 230 [.ref 35, .int a0, .long a1, ez_fill, .int a2, .int a3, .int a4, .int a5, .int a6] [] (ev_hp I J R T) cz kz := by
  intro G
  rfl
set_option maxRecDepth 100000 in
theorem cl9_r105 {a0 : Int32} {a1 : Int64} {a2 : Int32} {a3 : Int32} {a4 : Int32} {a5 : Int32} {a6 : Int32} : ∀ G : ez_F, fx_up X 4 G 181 235 [.ref 35, .int a0, .long a1, ez_fill, .int a2, .int a3, .int a4, .int a5, .int a6] [] (ev_hp I J R T) cz kz = G 181 144 [.ref 35, .int a0, .long a1, ez_fill, .int a2, .int a3, .int (a4 + (1 : Int32))] [] (ev_hp I J R T) cz kz := by
  intro G
  rfl
set_option maxRecDepth 100000 in
theorem cl9_r106 {a0 : Int32} {a1 : Int64} {a2 : Int32} {a3 : Int32} {a4 : Int32} {a5 : Int32} {a6 : Int32} : ∀ G : ez_F, fx_up X 5 G 181 230 [.ref 35, .int a0, .long a1, ez_fill, .int a2, .int a3, .int a4, .int a5, .int a6] [] (ev_hp I J R T) cz kz = G 181 144 [.ref 35, .int a0, .long a1, ez_fill, .int a2, .int a4, .int (a4 + (1 : Int32))] [] (ev_hp I J R T) cz kz := by
  intro G
  rfl
set_option maxRecDepth 100000 in
theorem cl9_r107 {a0 : Int32} {a1 : Int64} {a2 : Int32} {a3 : Int32} {a4 : Int32} {a5 : Int32} {a6 : Int32} : ∀ G : ez_F, fx_up X 2 G 181 194 [.ref 35, .int a0, .long a1, ez_fill, .int a2, .int a3, .int a4, .int a5, .int a6] [] (ev_hp I J R T) cz kz = bif decide (a5 = (0 : Int32)) then G 181 225 [.ref 35, .int a0, .long a1, ez_fill, .int a2, .int a3, .int a4, .int a5, .int a6] [] (ev_hp I J R T) cz kz else G 181 199 [.ref 35, .int a0, .long a1, ez_fill, .int a2, .int a3, .int a4, .int a5, .int a6] [] (ev_hp I J R T) cz kz := by
  intro G
  rfl
set_option maxRecDepth 100000 in
theorem cl9_r108 {a0 : Int32} {a1 : Int64} {a2 : Int32} {a3 : Int32} {a4 : Int32} {a5 : Int32} {a6 : Int32} : ∀ G : ez_F, fx_up X 3 G 181 199 [.ref 35, .int a0, .long a1, ez_fill, .int a2, .int a3, .int a4, .int a5, .int a6] [] (ev_hp I J R T) cz kz = G 181 205 [.ref 35, .int a0, .long a1, ez_fill, .int a2, .int a3, .int a4, .int a5, .int a6] [.int a6, .ref 64] (ev_hp I J R T) cz kz := by
  intro G
  rfl
set_option maxRecDepth 100000 in
theorem cl9_r109 {a0 : Int32} {a1 : Int64} {a2 : Int32} {a3 : Int32} {a4 : Int32} {a5 : Int32} {a6 : Int32} {a7 : Int32} : ∀ G : ez_F, fx_up X 3 G 181 206 [.ref 35, .int a0, .long a1, ez_fill, .int a2, .int a3, .int a4, .int a5, .int a6] [.int a7] (ev_hp I J R T) cz kz = bif decide ((a7 &&& a4) = (0 : Int32)) then G 181 216 [.ref 35, .int a0, .long a1, ez_fill, .int a2, .int a3, .int a4, .int a5, .int a6] [] (ev_hp I J R T) cz kz else G 181 212 [.ref 35, .int a0, .long a1, ez_fill, .int a2, .int a3, .int a4, .int a5, .int a6] [] (ev_hp I J R T) cz kz := by
  intro G
  rfl
set_option maxRecDepth 100000 in
theorem cl9_r110 {a0 : Int32} {a1 : Int64} {a2 : Int32} {a3 : Int32} {a4 : Int32} {a5 : Int32} {a6 : Int32} : ∀ G : ez_F, fx_up X 4 G 181 216 [.ref 35, .int a0, .long a1, ez_fill, .int a2, .int a3, .int a4, .int a5, .int a6] [] (ev_hp I J R T) cz kz = G 181 187 [.ref 35, .int a0, .long a1, ez_fill, .int a2, .int a3, .int a4, .int (0 : Int32), .int (a6 + (1 : Int32))] [] (ev_hp I J R T) cz kz := by
  intro G
  rfl
set_option maxRecDepth 100000 in
theorem cl9_r111 {a0 : Int32} {a1 : Int64} {a2 : Int32} {a3 : Int32} {a4 : Int32} {a5 : Int32} {a6 : Int32} : ∀ G : ez_F, fx_up X 5 G 181 212 [.ref 35, .int a0, .long a1, ez_fill, .int a2, .int a3, .int a4, .int a5, .int a6] [] (ev_hp I J R T) cz kz = G 181 187 [.ref 35, .int a0, .long a1, ez_fill, .int a2, .int a3, .int a4, .int (1 : Int32), .int (a6 + (1 : Int32))] [] (ev_hp I J R T) cz kz := by
  intro G
  rfl
theorem cr_187 {x o b s t i : Int32} {u : Int64}
    (H : ((o ≤ i → ((t = (0 : Int32) → pw N X 181 144 [.ref 35, .int x, .long u, ez_fill, .int o, .int b, .int (s + (1 : Int32))] [] (ev_hp I J R T) Q) ∧ (¬ (t = (0 : Int32)) → pw N X 181 144 [.ref 35, .int x, .long u, ez_fill, .int o, .int s, .int (s + (1 : Int32))] [] (ev_hp I J R T) Q))) ∧ (¬ (o ≤ i) → ((t = (0 : Int32) → ((t = (0 : Int32) → pw N X 181 144 [.ref 35, .int x, .long u, ez_fill, .int o, .int b, .int (s + (1 : Int32))] [] (ev_hp I J R T) Q) ∧ (¬ (t = (0 : Int32)) → pw N X 181 144 [.ref 35, .int x, .long u, ez_fill, .int o, .int s, .int (s + (1 : Int32))] [] (ev_hp I J R T) Q))) ∧ (¬ (t = (0 : Int32)) → (ev_ix i 401 → ((((I 64 i.toNatClampNeg) &&& s) = (0 : Int32) → pw N X 181 187 [.ref 35, .int x, .long u, ez_fill, .int o, .int b, .int s, .int (0 : Int32), .int (i + (1 : Int32))] [] (ev_hp I J R T) Q) ∧ (¬ (((I 64 i.toNatClampNeg) &&& s) = (0 : Int32)) → pw N X 181 187 [.ref 35, .int x, .long u, ez_fill, .int o, .int b, .int s, .int (1 : Int32), .int (i + (1 : Int32))] [] (ev_hp I J R T) Q)))))))) : pw (N + 1) X 181 187 [.ref 35, .int x, .long u, ez_fill, .int o, .int b, .int s, .int t, .int i] [] (ev_hp I J R T) Q := by
  refine pw_if (by decide) (fun _ _ => cl9_r103) (fun w1 => ?_) (fun w1 => ?_)
  · have h1 := H.1 w1
    refine pw_p (pw_if (by decide) (fun _ _ => cl9_r104) (fun w2 => ?_) (fun w2 => ?_))
    · have h2 := h1.1 w2
      refine pw_p (pw_seg (by decide) (fun _ _ => cl9_r105) ?_)
      exact h2
    · have h2 := h1.2 w2
      refine pw_p (pw_seg (by decide) (fun _ _ => cl9_r106) ?_)
      exact h2
  · have h1 := H.2 w1
    refine pw_p (pw_if (by decide) (fun _ _ => cl9_r107) (fun w2 => ?_) (fun w2 => ?_))
    · have h2 := h1.1 w2
      refine pw_p (pw_if (by decide) (fun _ _ => cl9_r104) (fun w3 => ?_) (fun w3 => ?_))
      · have h3 := h2.1 w3
        refine pw_p (pw_seg (by decide) (fun _ _ => cl9_r105) ?_)
        exact h3
      · have h3 := h2.2 w3
        refine pw_p (pw_seg (by decide) (fun _ _ => cl9_r106) ?_)
        exact h3
    · have h2 := h1.2 w2
      refine pw_p (pw_seg (by decide) (fun _ _ => cl9_r108) ?_)
      refine pw_p (pw_iald (by rfl) (cx_getI (show cx_Ds[64]? = some (0, 401, []) from rfl)) (fun w3 => ?_))
      have h3 := h2 w3
      refine pw_p (pw_if (by decide) (fun _ _ => cl9_r109) (fun w3 => ?_) (fun w3 => ?_))
      · have h3 := h3.1 w3
        refine pw_p (pw_seg (by decide) (fun _ _ => cl9_r110) ?_)
        exact h3
      · have h3 := h3.2 w3
        refine pw_p (pw_seg (by decide) (fun _ _ => cl9_r111) ?_)
        exact h3
end
theorem cqq_mono {p : Nat → Bool} {a : Nat} : ∀ d, cq p a ≤ cq p (a + d) := by
  intro d
  induction d with
  | zero => exact Nat.le_refl _
  | succ d ih =>
    have e : cq p (a + d + 1) = cq p (a + d) + (bif p (a + d) then 1 else 0) := rfl
    show _ ≤ cq p (a + d + 1)
    omega
theorem cqq_lt {p : Nat → Bool} {a b : Nat} (hab : a < b) (hp : p a = true) : cq p a < cq p b := by
  have h := cqq_mono (p := p) (a := a + 1) (b - (a + 1))
  have e : cq p (a + 1) = cq p a + (bif p a then 1 else 0) := rfl
  rw [show a + 1 + (b - (a + 1)) = b by omega, e, hp] at h
  show cq p a + 1 ≤ cq p b
  exact h
/-! sets of rims as numbers -/
theorem io_orn {a b : Nat} (ha : a < 2 ^ 31) (hb : b < 2 ^ 31) : Int32.ofNat a ||| Int32.ofNat b = Int32.ofNat (a ||| b) := by
  have h := Nat.or_lt_two_pow ha hb
  apply Int32.toBitVec_inj.mp
  rw [Int32.toBitVec_or]
  apply BitVec.eq_of_toNat_eq
  rw [BitVec.toNat_or]
  show (a % 2 ^ 32) ||| (b % 2 ^ 32) = (a ||| b) % 2 ^ 32
  rw [Nat.mod_eq_of_lt (a := a) (by omega), Nat.mod_eq_of_lt (a := b) (by omega), Nat.mod_eq_of_lt (by omega)]
theorem io_andn {a b : Nat} (ha : a < 2 ^ 31) (hb : b < 2 ^ 31) : Int32.ofNat a &&& Int32.ofNat b = Int32.ofNat (a &&& b) := by
  have h := Nat.and_lt_two_pow a hb
  apply Int32.toBitVec_inj.mp
  rw [Int32.toBitVec_and]
  apply BitVec.eq_of_toNat_eq
  rw [BitVec.toNat_and]
  show (a % 2 ^ 32) &&& (b % 2 ^ 32) = (a &&& b) % 2 ^ 32
  rw [Nat.mod_eq_of_lt (a := a) (by omega), Nat.mod_eq_of_lt (a := b) (by omega), Nat.mod_eq_of_lt (by omega)]
theorem io_xorn {a b : Nat} (ha : a < 2 ^ 31) (hb : b < 2 ^ 31) : Int32.ofNat a ^^^ Int32.ofNat b = Int32.ofNat (a ^^^ b) := by
  have h := Nat.xor_lt_two_pow ha hb
  apply Int32.toBitVec_inj.mp
  rw [Int32.toBitVec_xor]
  apply BitVec.eq_of_toNat_eq
  rw [BitVec.toNat_xor]
  show (a % 2 ^ 32) ^^^ (b % 2 ^ 32) = (a ^^^ b) % 2 ^ 32
  rw [Nat.mod_eq_of_lt (a := a) (by omega), Nat.mod_eq_of_lt (a := b) (by omega), Nat.mod_eq_of_lt (by omega)]
theorem p2t : ∀ r, r < 13 → (1 : Int32) <<< (Int32.ofNat r &&& (31 : Int32)) = Int32.ofNat (2 ^ r) := by decide
theorem p2l {r : Nat} (h : r ≤ 12) : 2 ^ r ≤ 4096 := Nat.pow_le_pow_right (n := 2) (by decide) h
noncomputable def unN (p : Nat → Bool) : Nat → Nat
  | 0 => 0
  | r + 1 => if p r = true then unN p r ||| 2 ^ r else unN p r
theorem unN_lt (p : Nat → Bool) : ∀ n, unN p n < 2 ^ n := by
  intro n
  induction n with
  | zero => exact Nat.zero_lt_one
  | succ n ih =>
    have h1 : 2 ^ n < 2 ^ (n + 1) := Nat.pow_lt_pow_right (by decide) (Nat.lt_succ_self n)
    unfold unN
    split
    · exact Nat.or_lt_two_pow (Nat.lt_trans ih h1) h1
    · exact Nat.lt_trans ih h1
theorem unN_bit (p : Nat → Bool) : ∀ n i, (unN p n).testBit i = (decide (i < n) && p i) := by
  intro n
  induction n with
  | zero =>
    intro i
    rw [show unN p 0 = 0 from rfl, Nat.zero_testBit, decide_eq_false (Nat.not_lt_zero i)]
    rfl
  | succ n ih =>
    intro i
    have e : unN p (n + 1) = if p n = true then unN p n ||| 2 ^ n else unN p n := rfl
    rw [e]
    by_cases hp : p n = true
    · rw [if_pos hp, Nat.testBit_or, ih, Nat.testBit_two_pow]
      by_cases h1 : i < n
      · rw [decide_eq_true h1, decide_eq_true (show i < n + 1 by omega), decide_eq_false (show ¬ n = i by omega), Bool.or_false]
      · by_cases h2 : i = n
        · subst h2
          rw [decide_eq_true rfl, decide_eq_true (Nat.lt_succ_self i), hp, Bool.or_true]
          rfl
        · rw [decide_eq_false h1, decide_eq_false (show ¬ i < n + 1 by omega), decide_eq_false (show ¬ n = i by omega)]
          rfl
    · rw [if_neg hp, ih]
      by_cases h2 : i = n
      · subst h2
        rw [Bool.eq_false_iff.mpr hp, Bool.and_false, Bool.and_false]
      · by_cases h1 : i < n
        · rw [decide_eq_true h1, decide_eq_true (show i < n + 1 by omega)]
        · rw [decide_eq_false h1, decide_eq_false (show ¬ i < n + 1 by omega)]
theorem and_2p {s r : Nat} : s &&& 2 ^ r = 0 ↔ s.testBit r = false := by
  constructor
  · intro h
    have h2 : (s &&& 2 ^ r).testBit r = (0 : Nat).testBit r := by rw [h]
    rw [Nat.testBit_and, Nat.testBit_two_pow, decide_eq_true rfl, Bool.and_true, Nat.zero_testBit] at h2
    exact h2
  · intro h
    refine Nat.eq_of_testBit_eq fun i => ?_
    rw [Nat.testBit_and, Nat.testBit_two_pow, Nat.zero_testBit]
    by_cases e : r = i
    · subst e
      rw [h]
      rfl
    · rw [decide_eq_false e, Bool.and_false]
theorem xor_2p {s r i : Nat} : (s ^^^ 2 ^ r).testBit i = Bool.xor (s.testBit i) (decide (r = i)) := by
  rw [Nat.testBit_xor, Nat.testBit_two_pow]
theorem xor_lt {s r : Nat} (h : s.testBit r = true) : s ^^^ 2 ^ r < s := by
  have e : (s ^^^ 2 ^ r) &&& s = s ^^^ 2 ^ r := Nat.eq_of_testBit_eq fun i => by
    rw [Nat.testBit_and, xor_2p]
    by_cases ei : r = i
    · subst ei
      rw [h, decide_eq_true rfl]
      rfl
    · rw [decide_eq_false ei, Bool.xor_false, Bool.and_self]
  have hle : (s ^^^ 2 ^ r) &&& s ≤ s := Nat.and_le_right
  rw [e] at hle
  have hne : s ^^^ 2 ^ r ≠ s := fun z => by
    have h2 : (s ^^^ 2 ^ r).testBit r = s.testBit r := by rw [z]
    rw [xor_2p, h, decide_eq_true rfl] at h2
    exact absurd h2 (by decide)
  omega
/-! which sets are hidden -/
noncomputable def hbt (G : Nat → Int64) (s : Nat) : Bool := kb (G (s / 64)) (s % 64)
theorem ush_tab : ∀ j, j < 64 → ((((Int32.ofNat j).toInt64.toUInt64 &&& Int64.toUInt64 63)).toBitVec % 64).toNat = j := by decide +kernel
theorem kb_ushr (z : Int64) {j : Nat} (hj : j < 64) (n : Nat) : kb ((z.toUInt64 >>> ((Int32.ofNat j).toInt64.toUInt64 &&& Int64.toUInt64 63)).toInt64) n = kb z (j + n) := by
  show ((z.toUInt64 >>> ((Int32.ofNat j).toInt64.toUInt64 &&& Int64.toUInt64 63)).toBitVec).getLsbD n = _
  rw [UInt64.toBitVec_shiftRight, BitVec.ushiftRight_eq', ush_tab j hj, BitVec.getLsbD_ushiftRight]
  rfl
theorem kb_and0 (u : Int64) : (u &&& (1 : Int64) = 0) ↔ kb u 0 = false := by
  constructor
  · intro h
    cases hk : kb u 0
    · rfl
    · have h2 := (kb_and1 u).mpr hk
      rw [h] at h2
      exact absurd h2 (by decide)
  · intro h
    refine kb_ext fun n hn => ?_
    rw [kb_and, kb_0]
    cases n with
    | zero => rw [h]; rfl
    | succ n => rw [kb_1 (by omega), Bool.and_false]
theorem io_hi6 {s : Nat} (hs : s < 4096) : Int32.ofNat s >>> ((6 : Int32) &&& (31 : Int32)) = Int32.ofNat (s / 64) := ib_shr (n := 6) (by omega) (by decide) (by decide)
theorem io_lo6 (u : Nat) : Int32.ofNat u &&& (63 : Int32) = Int32.ofNat (u % 64) := by
  apply Int32.toBitVec_inj.mp
  rw [Int32.toBitVec_and]
  apply BitVec.eq_of_toNat_eq
  rw [BitVec.toNat_and]
  show (u % 2 ^ 32) &&& (2 ^ 6 - 1) = (u % 64) % 2 ^ 32
  rw [Nat.and_two_pow_sub_one_eq_mod]
  omega
/-- a subset, as far as the first r rims; alike beyond -/
noncomputable def sbR (r u s : Nat) : Prop := ∀ i, (i < r → u.testBit i = true → s.testBit i = true) ∧ (r ≤ i → u.testBit i = s.testBit i)
noncomputable def hsR (Bs : Nat → Prop) (r s : Nat) : Prop := ∃ u, Bs u ∧ sbR r u s
section
variable {Bs : Nat → Prop} {r s u : Nat}
theorem sbR_0 : sbR 0 u s ↔ u = s := ⟨fun h => Nat.eq_of_testBit_eq fun i => (h i).2 (Nat.zero_le i), fun h i => ⟨fun z => absurd z (Nat.not_lt_zero i), fun _ => by rw [h]⟩⟩
theorem hsR_no (h : s.testBit r = false) : hsR Bs (r + 1) s ↔ hsR Bs r s := by
  constructor
  · rintro ⟨u, hu, hs⟩
    refine ⟨u, hu, fun i => ⟨fun hi => (hs i).1 (by omega), fun hi => ?_⟩⟩
    by_cases e : i = r
    · subst e
      rw [h]
      cases hk : u.testBit i
      · rfl
      · have := (hs i).1 (Nat.lt_succ_self i) hk
        rw [h] at this
        cases this
    · exact (hs i).2 (by omega)
  · rintro ⟨u, hu, hs⟩
    refine ⟨u, hu, fun i => ⟨fun hi hk => ?_, fun hi => (hs i).2 (by omega)⟩⟩
    by_cases e : i < r
    · exact (hs i).1 e hk
    · rw [← (hs i).2 (by omega)]
      exact hk
theorem hsR_yes (h : s.testBit r = true) : hsR Bs (r + 1) s ↔ (hsR Bs r s ∨ hsR Bs (r + 1) (s ^^^ 2 ^ r)) := by
  have hx : ∀ i, i ≠ r → (s ^^^ 2 ^ r).testBit i = s.testBit i := fun i hi => by
    rw [xor_2p, decide_eq_false (fun z => hi z.symm), Bool.xor_false]
  constructor
  · rintro ⟨u, hu, hs⟩
    cases hk : u.testBit r
    · refine Or.inr ⟨u, hu, fun i => ⟨fun hi hki => ?_, fun hi => ?_⟩⟩
      · by_cases e : i = r
        · subst e
          rw [hk] at hki
          cases hki
        · rw [hx i e]
          exact (hs i).1 hi hki
      · rw [hx i (by omega)]
        exact (hs i).2 hi
    · refine Or.inl ⟨u, hu, fun i => ⟨fun hi => (hs i).1 (by omega), fun hi => ?_⟩⟩
      by_cases e : i = r
      · subst e
        rw [hk, h]
      · exact (hs i).2 (by omega)
  · rintro (⟨u, hu, hs⟩ | ⟨u, hu, hs⟩)
    · refine ⟨u, hu, fun i => ⟨fun hi hk => ?_, fun hi => (hs i).2 (by omega)⟩⟩
      by_cases e : i < r
      · exact (hs i).1 e hk
      · rw [← (hs i).2 (by omega)]
        exact hk
    · refine ⟨u, hu, fun i => ⟨fun hi hk => ?_, fun hi => ?_⟩⟩
      · by_cases e : i = r
        · subst e
          exact h
        · rw [← hx i e]
          exact (hs i).1 hi hk
      · rw [← hx i (by omega)]
        exact (hs i).2 hi
end
section
variable {N : Nat} {X : ez_X} {I A : Nat → Nat → Int32} {J B : Nat → Nat → Int64} {R : Nat → Nat} {T : List ez_C} {x : Int32} {u v : Int64} {w h n m s : Nat} {f : Nat → Int32}
theorem pe_isHidden (hs : s < 4096) (hx : x = Int32.ofNat s) : pe N X 78 [.ref 32, .int x] (ev_hp I J R T) (fun r h => r = some (.int (bif hbt (J 34) s then 1 else 0)) ∧ h = ev_hp I J R T) := by
  subst hx
  have e : kb (((J 34 (s / 64)).toUInt64 >>> ((Int32.ofNat (s % 64)).toInt64.toUInt64 &&& Int64.toUInt64 63)).toInt64) 0 = hbt (J 34) s := kb_ushr _ (by omega) 0
  refine pe_of (pw_p (ci_0 ?_))
  rw [io_hi6 hs, io_lo6, atJ_in (by omega) (by decide), lg_eq, kb_and0, e]
  refine ⟨fun g _ => ⟨?_, rfl⟩, fun g _ => ⟨?_, rfl⟩⟩
  · rw [g]
    rfl
  · cases hb : hbt (J 34) s
    · exact absurd hb g
    · rfl
theorem pe_hide (hs : s < 4096) (hx : x = Int32.ofNat s) : pe N X 77 [.ref 32, .int x] (ev_hp I J R T) (fun r h => r = none ∧ ∃ G, h = ev_hp I (ev_sJ J 34 G) R T ∧ ∀ s', hbt G s' = (hbt (J 34) s' || decide (s' = s))) := by
  subst hx
  refine pe_of (pw_p (ch_0 ?_))
  rw [io_hi6 hs, io_lo6, atJ_in (by omega) (by decide), putJ_in (by omega) (by decide)]
  refine ⟨rfl, _, rfl, fun s' => ?_⟩
  unfold hbt
  by_cases e : s' / 64 = s / 64
  · rw [e, pv_s, kb_or, kb_one (show s % 64 < 64 by omega)]
    by_cases e2 : s' % 64 = s % 64
    · rw [decide_eq_true e2, decide_eq_true (show s' = s by omega)]
    · rw [decide_eq_false e2, decide_eq_false (fun z => e2 (by rw [z]))]
  · rw [pv_n _ _ e, decide_eq_false (fun z => e (by rw [z])), Bool.or_false]
noncomputable def unp (w h : Nat) (u v : Int64) (r : Nat) : Bool := decide (¬ rq w h r u = rq w h r v)
theorem rq_64 (w h r : Nat) (u : Int64) : rq w h r u ≤ 64 := cq_le _ 64
theorem un_or {p : Nat → Bool} {r : Nat} (hr : r < 12) (hp : p r = true) : Int32.ofNat (unN p r) ||| ((1 : Int32) <<< (Int32.ofNat r &&& (31 : Int32))) = Int32.ofNat (unN p (r + 1)) := by
  have h1 := unN_lt p r
  have h2 := p2l (r := r) (by omega)
  rw [p2t r (by omega), io_orn (by omega) (by omega)]
  unfold unN
  rw [if_pos hp]
  cases r <;> rfl
theorem pe_unlike (e3 : I 1 3 = Int32.ofNat w) (e4 : I 1 4 = Int32.ofNat h) (e8 : J 1 8 = fc_F (I 1 3) (I 1 4)) (hw : 2 ≤ w ∧ w ≤ 6) (hh : 2 ≤ h ∧ h ≤ 6) : pe N X 83 [.ref 32, .long u, .long v] (ev_hp I J R T) (fun r hp => r = some (.int (Int32.ofNat (unN (unp w h u v) (w + h)))) ∧ hp = ev_hp I J R T) := by
  have loop : ∀ (d r : Nat), r + d = w + h → ∀ N, pw N X 83 15 [.ref 32, .long u, ez_fill, .long v, ez_fill, .int (Int32.ofNat (w + h)), .int (Int32.ofNat (unN (unp w h u v) r)), .int (Int32.ofNat r)] [] (ev_hp I J R T) (fun r hp => r = some (.int (Int32.ofNat (unN (unp w h u v) (w + h)))) ∧ hp = ev_hp I J R T) := by
    intro d
    induction d with
    | zero =>
      intro r hr N
      obtain rfl : r = w + h := by omega
      exact pw_p (cu_15 ⟨fun _ => ⟨rfl, rfl⟩, fun g => absurd (Int32.le_refl _) g⟩)
    | succ d ih =>
      intro r hr N
      have h5 := fun N => ih (r + 1) (by omega) N
      have hu := rq_64 w h r u
      have hv := rq_64 w h r v
      refine pw_p (cu_15 ⟨fun g => ?_, fun _ => ⟨_, pe_countIn (r := r) e3 e4 e8 hw hh (by omega) rfl, ?_⟩⟩)
      · rw [io_le (by omega) (by omega)] at g
        omega
      rintro q hp ⟨rfl, rfl⟩
      refine pw_p (cu_29 ⟨_, pe_countIn (r := r) e3 e4 e8 hw hh (by omega) rfl, ?_⟩)
      rintro q hp ⟨rfl, rfl⟩
      refine pw_p (cu_36 ?_)
      rw [io_eq (by omega) (by omega), io_1]
      refine ⟨fun g => ?_, fun g => ?_⟩
      · have e : unN (unp w h u v) (r + 1) = unN (unp w h u v) r := if_neg (by
          unfold unp
          rw [decide_eq_false (fun z => z g)]
          decide)
        rw [e] at h5
        exact h5 _
      · rw [un_or (by omega) (decide_eq_true g)]
        exact h5 _
  refine pe_of (pw_p (cu_0 ?_))
  rw [e3, e4, io_add, Nat.add_comm h w]
  exact loop (w + h) 0 (by omega) _
theorem ly_w_34 {G : Nat → Int64} {t : ly_t} : ly_w I (ev_sJ J 34 G) t = ly_w I J t := by
  unfold ly_w ly_s
  rw [cx_sJ_n _ _ (show (4 : Nat) ≠ 34 by decide)]
/-- the layings other than k, and the rims that tell them from k -/
noncomputable def clO (I : Nat → Nat → Int32) (J : Nat → Nat → Int64) (L : List ly_t) (k j : Nat) : Bool := decide (¬ ly_w I J (L.getD j (0, 0, 0)) = ly_w I J (L.getD k (0, 0, 0)))
noncomputable def clU (I : Nat → Nat → Int32) (J : Nat → Nat → Int64) (L : List ly_t) (w h k j : Nat) : Nat := unN (unp w h (ly_w I J (L.getD k (0, 0, 0))) (ly_w I J (L.getD j (0, 0, 0)))) (w + h)
/-- what a world must have for it -/
noncomputable def clW (I : Nat → Nat → Int32) (J : Nat → Nat → Int64) (R : Nat → Nat) (T : List ez_C) (L : List ly_t) (n w h : Nat) (f : Nat → Int32) : Prop := I 6 3 = Int32.ofNat L.length ∧ rowT (R 0) T n f ∧ L.length ≤ n ∧ n ≤ 10000 ∧ ly_row f L ∧ (0 ≤ (I 3 3).toInt ∧ (I 3 3).toInt ≤ 3) ∧ (∀ t, t ∈ L → t.1 < 512 ∧ t.2.1 < 512 ∧ t.2.2 < 512) ∧ (∀ t, t ∈ L → ∀ s, s < (I 3 3).toInt.toNat → ly_at t s < 288) ∧ I 1 3 = Int32.ofNat w ∧ I 1 4 = Int32.ofNat h ∧ J 1 8 = fc_F (I 1 3) (I 1 4) ∧ (2 ≤ w ∧ w ≤ 6) ∧ (2 ≤ h ∧ h ≤ 6)
theorem clW_34 {G : Nat → Int64} {L : List ly_t} (hW : clW I J R T L n w h f) : clW I (ev_sJ J 34 G) R T L n w h f := by
  unfold clW
  rw [cx_sJ_n _ _ (show (1 : Nat) ≠ 34 by decide)]
  exact hW
theorem pe_clo {L : List ly_t} (hW : clW I J R T L n w h f) {k : Nat} (hk : k < L.length) (hx : x = Int32.ofNat k) : pe N X 137 [.ref 6, .int x] (ev_hp I J R T) (fun r h => r = some (.long (ly_w I J (L.getD k (0, 0, 0)))) ∧ h = ev_hp I J R T) := by
  subst hx
  obtain ⟨-, g3, g4, g5, g6, hns, hb, hin, -⟩ := hW
  have hm := List.getElem_mem hk
  obtain ⟨b0, b1, b2⟩ := hb _ hm
  rw [ly_gd hk]
  exact pe_cellsOf (t := L[k]) g3 g5 (by rw [at_k (by omega) g5, g6 k hk]) hns b0 b1 b2 (hin _ hm)
theorem pe_mark {L : List ly_t} (hW : clW I J R T L n w h f) {k : Nat} (hk : k < L.length) (hx : x = Int32.ofNat k) : pe N X 79 [.ref 32, .int x] (ev_hp I J R T) (fun r hp => r = none ∧ ∃ G, hp = ev_hp I (ev_sJ J 34 G) R T ∧ ∀ s, s < 4096 → (hbt G s = true ↔ ∃ j, j < L.length ∧ clO I J L k j = true ∧ clU I J L w h k j = s)) := by
  subst hx
  have hW0 := hW
  obtain ⟨g2, g3, g4, g5, g6, hns, hb, hin, e3, e4, e8, hw, hh⟩ := hW
  have loop2 : ∀ (d j : Nat), j + d = L.length → ∀ G, (∀ s, s < 4096 → (hbt G s = true ↔ ∃ i, i < j ∧ clO I J L k i = true ∧ clU I J L w h k i = s)) → ∀ N, pw N X 79 45 [.ref 32, .int (Int32.ofNat k), .long (ly_w I J (L.getD k (0, 0, 0))), ez_fill, .int (Int32.ofNat L.length), .int (Int32.ofNat j)] [] (ev_hp I (ev_sJ J 34 G) R T) (fun r hp => r = none ∧ ∃ G, hp = ev_hp I (ev_sJ J 34 G) R T ∧ ∀ s, s < 4096 → (hbt G s = true ↔ ∃ j, j < L.length ∧ clO I J L k j = true ∧ clU I J L w h k j = s)) := by
    intro d
    induction d with
    | zero =>
      intro j hj G hG N
      obtain rfl : j = L.length := by omega
      exact pw_p (cm_45 ⟨fun _ => ⟨rfl, G, rfl, hG⟩, fun g => absurd (Int32.le_refl _) g⟩)
    | succ d ih =>
      intro j hjd G hG N
      have hj : j < L.length := by omega
      refine pw_p (cm_45 ⟨fun g => ?_, fun _ => ⟨_, pe_clo (clW_34 hW0) hj rfl, ?_⟩⟩)
      · rw [io_le (by omega) (by omega)] at g
        omega
      rintro q hp ⟨rfl, rfl⟩
      rw [ly_w_34]
      refine pw_p (cm_61 ?_)
      rw [lg_eq]
      refine ⟨fun g => ?_, fun g => ⟨_, pe_unlike (w := w) (h := h) e3 e4 (by rw [cx_sJ_n _ _ (show (1 : Nat) ≠ 34 by decide)]; exact e8) hw hh, ?_⟩⟩
      · rw [io_1]
        refine ih (j + 1) (by omega) G (fun s hs => ?_) _
        rw [hG s hs]
        constructor
        · rintro ⟨i, i1, i2⟩
          exact ⟨i, by omega, i2⟩
        · rintro ⟨i, i1, i2, i3⟩
          by_cases ei : i = j
          · subst ei
            exact absurd g (of_decide_eq_true i2)
          · exact ⟨i, by omega, i2, i3⟩
      · rintro q hp ⟨rfl, rfl⟩
        have hU : clU I J L w h k j < 4096 := Nat.lt_of_lt_of_le (unN_lt _ _) (p2l (by omega))
        refine pw_p (cm_78 ⟨_, pe_hide (s := clU I J L w h k j) hU rfl, ?_⟩)
        rintro q hp ⟨rfl, G', rfl, hG'⟩
        rw [cx_sJ_s] at hG'
        refine pw_p (cm_81 ?_)
        rw [io_1, sJ2]
        refine ih (j + 1) (by omega) G' (fun s hs => ?_) _
        rw [hG', Bool.or_eq_true, decide_eq_true_iff, hG s hs]
        constructor
        · rintro (⟨i, i1, i2⟩ | hs2)
          · exact ⟨i, by omega, i2⟩
          · exact ⟨j, Nat.lt_succ_self j, decide_eq_true g, hs2.symm⟩
        · rintro ⟨i, i1, i2, i3⟩
          by_cases ei : i = j
          · subst ei
            exact Or.inr i3.symm
          · exact Or.inl ⟨i, by omega, i2, i3⟩
  have loop1 : ∀ (d i : Nat), i + d = 64 → ∀ G : Nat → Int64, (∀ a, a < i → G a = 0) → ∀ N, pw N X 79 2 [.ref 32, .int (Int32.ofNat k), .int (Int32.ofNat i)] [] (ev_hp I (ev_sJ J 34 G) R T) (fun r hp => r = none ∧ ∃ G, hp = ev_hp I (ev_sJ J 34 G) R T ∧ ∀ s, s < 4096 → (hbt G s = true ↔ ∃ j, j < L.length ∧ clO I J L k j = true ∧ clU I J L w h k j = s)) := by
    intro d
    induction d with
    | zero =>
      intro i hi G hG N
      obtain rfl : i = 64 := by omega
      refine pw_p (cm_2 ⟨fun _ => ⟨_, pe_clo (clW_34 hW0) hk rfl, ?_⟩, fun g => absurd (Int32.le_refl _) g⟩)
      rintro q hp ⟨rfl, rfl⟩
      rw [ly_w_34]
      refine pw_p (cm_32 ?_)
      rw [g2]
      refine loop2 L.length 0 (by omega) G (fun s hs => ?_) _
      constructor
      · intro hz
        unfold hbt at hz
        rw [hG _ (by omega), kb_0] at hz
        cases hz
      · rintro ⟨i, i1, -⟩
        exact absurd i1 (Nat.not_lt_zero i)
    | succ d ih =>
      intro i hid G hG N
      refine pw_p (cm_2 ⟨fun g => ?_, fun _ _ => ?_⟩)
      · rw [io_le (by omega) (by omega)] at g
        omega
      · rw [io_1, io_cl (by omega), cx_sJ_s, sJ2]
        refine ih (i + 1) (by omega) _ (fun a ha => ?_) _
        by_cases ea : a = i
        · subst ea
          exact pv_s _ _ _
        · rw [pv_n _ _ ea]
          exact hG a (by omega)
  refine pe_of (pw_p (cm_0 ?_))
  have h0 := loop1 64 0 (by omega) (J 34) (fun a ha => absurd ha (Nat.not_lt_zero a)) N
  rw [sJ_self] at h0
  exact h0
theorem pe_spread {nr : Nat} (hnr : nr ≤ 12) {Bs : Nat → Prop} (hB : ∀ s, s < 2 ^ nr → (hbt (J 34) s = true ↔ Bs s)) (hx : x = Int32.ofNat (2 ^ nr)) : pe N X 80 [.ref 32, .int x] (ev_hp I J R T) (fun r hp => r = none ∧ ∃ G, hp = ev_hp I (ev_sJ J 34 G) R T ∧ ∀ s, s < 2 ^ nr → (hbt G s = true ↔ hsR Bs 12 s)) := by
  subst hx
  have hp2 := p2l hnr
  have inner : ∀ (r : Nat), r < 12 → ∀ (go : ∀ G, (∀ s, s < 2 ^ nr → (hbt G s = true ↔ hsR Bs (r + 1) s)) → ∀ N, pw N X 80 2 [.ref 32, .int (Int32.ofNat (2 ^ nr)), .int (Int32.ofNat r + (1 : Int32))] [] (ev_hp I (ev_sJ J 34 G) R T) (fun r hp => r = none ∧ ∃ G, hp = ev_hp I (ev_sJ J 34 G) R T ∧ ∀ s, s < 2 ^ nr → (hbt G s = true ↔ hsR Bs 12 s))) (d s : Nat), s + d = 2 ^ nr → ∀ G, (∀ z, z < 2 ^ nr → (hbt G z = true ↔ (z < s ∧ hsR Bs (r + 1) z ∨ ¬ z < s ∧ hsR Bs r z))) → ∀ N, pw N X 80 15 [.ref 32, .int (Int32.ofNat (2 ^ nr)), .int (Int32.ofNat r), .int (Int32.ofNat (2 ^ r)), .int (Int32.ofNat s)] [] (ev_hp I (ev_sJ J 34 G) R T) (fun r hp => r = none ∧ ∃ G, hp = ev_hp I (ev_sJ J 34 G) R T ∧ ∀ s, s < 2 ^ nr → (hbt G s = true ↔ hsR Bs 12 s)) := by
    intro r hr go d
    have hr2 := p2l (r := r) (by omega)
    induction d with
    | zero =>
      intro s hs G hG N
      obtain rfl : s = 2 ^ nr := by omega
      refine pw_p (cp_15 ⟨fun _ => go G (fun z hz => ?_) _, fun g => absurd (Int32.le_refl _) g⟩)
      rw [hG z hz]
      exact ⟨fun q => q.elim (fun a => a.2) (fun a => absurd hz a.1), fun q => Or.inl ⟨hz, q⟩⟩
    | succ d ih =>
      intro s hsd G hG N
      have hs : s < 2 ^ nr := by omega
      have others : ∀ z, z ≠ s → ((z < s ∧ hsR Bs (r + 1) z ∨ ¬ z < s ∧ hsR Bs r z) ↔ (z < s + 1 ∧ hsR Bs (r + 1) z ∨ ¬ z < s + 1 ∧ hsR Bs r z)) := fun z hz => by
        by_cases h1 : z < s
        · exact ⟨fun q => q.elim (fun a => Or.inl ⟨by omega, a.2⟩) (fun a => absurd h1 a.1), fun q => q.elim (fun a => Or.inl ⟨h1, a.2⟩) (fun a => absurd (show z < s + 1 by omega) a.1)⟩
        · exact ⟨fun q => q.elim (fun a => absurd a.1 h1) (fun a => Or.inr ⟨by omega, a.2⟩), fun q => q.elim (fun a => absurd a.1 (by omega)) (fun a => Or.inr ⟨h1, a.2⟩)⟩
      have same : ∀ G, (∀ z, z < 2 ^ nr → z ≠ s → (hbt G z = true ↔ (z < s ∧ hsR Bs (r + 1) z ∨ ¬ z < s ∧ hsR Bs r z))) → (hbt G s = true ↔ hsR Bs (r + 1) s) → ∀ N, pw N X 80 15 [.ref 32, .int (Int32.ofNat (2 ^ nr)), .int (Int32.ofNat r), .int (Int32.ofNat (2 ^ r)), .int (Int32.ofNat s + (1 : Int32))] [] (ev_hp I (ev_sJ J 34 G) R T) (fun r hp => r = none ∧ ∃ G, hp = ev_hp I (ev_sJ J 34 G) R T ∧ ∀ s, s < 2 ^ nr → (hbt G s = true ↔ hsR Bs 12 s)) := fun G h1 h2 N => by
        rw [io_1]
        refine ih (s + 1) (by omega) G (fun z hz => ?_) N
        by_cases ez : z = s
        · subst ez
          rw [h2]
          exact ⟨fun q => Or.inl ⟨Nat.lt_succ_self z, q⟩, fun q => q.elim (fun a => a.2) (fun a => absurd (Nat.lt_succ_self z) a.1)⟩
        · rw [h1 z hz ez]
          exact others z ez
      have hGs : hbt G s = true ↔ hsR Bs r s := by
        rw [hG s hs]
        exact ⟨fun q => q.elim (fun a => absurd a.1 (Nat.lt_irrefl s)) (fun a => a.2), fun q => Or.inr ⟨Nat.lt_irrefl s, q⟩⟩
      refine pw_p (cp_15 ?_)
      rw [io_le (by omega) (by omega), io_andn (by omega) (by omega), show (0 : Int32) = Int32.ofNat 0 from rfl, io_eq (Nat.lt_of_lt_of_le (Nat.and_lt_two_pow s (show 2 ^ r < 2 ^ 31 by omega)) (by decide)) (by decide), and_2p]
      refine ⟨fun g => absurd g (by omega), fun _ => ⟨fun g => same G (fun z hz _ => hG z hz) ?_ _, fun g => ?_⟩⟩
      · rw [hGs]
        exact (hsR_no g).symm
      · have hb : s.testBit r = true := by
          cases hk : s.testBit r
          · exact absurd hk g
          · rfl
        have hlt := xor_lt hb
        have hyes := hsR_yes (Bs := Bs) hb
        rw [io_xorn (by omega) (by omega)]
        refine ⟨_, pe_isHidden (s := s ^^^ 2 ^ r) (by omega) rfl, ?_⟩
        rw [cx_sJ_s]
        have hG2 : hbt G (s ^^^ 2 ^ r) = true ↔ hsR Bs (r + 1) (s ^^^ 2 ^ r) := by
          rw [hG _ (by omega)]
          exact ⟨fun q => q.elim (fun a => a.2) (fun a => absurd hlt a.1), fun q => Or.inl ⟨hlt, q⟩⟩
        rintro q hp ⟨rfl, rfl⟩
        cases hc : hbt G (s ^^^ 2 ^ r)
        · refine pw_p (cp_36 ⟨fun _ => same G (fun z hz _ => hG z hz) ?_ _, fun z => absurd rfl z⟩)
          rw [hGs, hyes]
          refine ⟨Or.inl, fun q => q.elim id fun a => ?_⟩
          have := hG2.mpr a
          rw [hc] at this
          cases this
        · refine pw_p (cp_36 ⟨fun z => absurd z (by decide), fun _ => ⟨_, pe_hide (s := s) (by omega) rfl, ?_⟩⟩)
          rw [cx_sJ_s]
          rintro q hp ⟨rfl, G', rfl, hG'⟩
          refine pw_p (cp_45 ?_)
          rw [sJ2]
          refine same G' (fun z hz hne => ?_) ?_ _
          · rw [hG', decide_eq_false hne, Bool.or_false]
            exact hG z hz
          · rw [hG', decide_eq_true rfl, Bool.or_true, hyes]
            exact ⟨fun _ => Or.inr (hG2.mp hc), fun _ => rfl⟩
  have outer : ∀ (d r : Nat), r + d = 12 → ∀ G, (∀ s, s < 2 ^ nr → (hbt G s = true ↔ hsR Bs r s)) → ∀ N, pw N X 80 2 [.ref 32, .int (Int32.ofNat (2 ^ nr)), .int (Int32.ofNat r)] [] (ev_hp I (ev_sJ J 34 G) R T) (fun r hp => r = none ∧ ∃ G, hp = ev_hp I (ev_sJ J 34 G) R T ∧ ∀ s, s < 2 ^ nr → (hbt G s = true ↔ hsR Bs 12 s)) := by
    intro d
    induction d with
    | zero =>
      intro r hr G hG N
      obtain rfl : r = 12 := by omega
      exact pw_p (cp_2 ⟨fun _ => ⟨rfl, G, rfl, hG⟩, fun g => absurd (by decide) g⟩)
    | succ d ih =>
      intro r hrd G hG N
      refine pw_p (cp_2 ⟨fun g => ?_, fun _ => ?_⟩)
      · rw [show (12 : Int32) = Int32.ofNat 12 from rfl, io_le (by omega) (by omega)] at g
        omega
      · rw [p2t r (by omega)]
        refine inner r (by omega) (fun G hG N => ?_) (2 ^ nr) 0 (by omega) G (fun z hz => ?_) _
        · rw [io_1]
          exact ih (r + 1) (by omega) G hG N
        · rw [hG z hz]
          exact ⟨fun q => Or.inr ⟨Nat.not_lt_zero z, q⟩, fun q => q.elim (fun a => absurd a.1 (Nat.not_lt_zero z)) (fun a => a.2)⟩
  refine pe_of (pw_p (cp_0 ?_))
  have h0 := outer 12 0 (by omega) (J 34) (fun s hs => by
    rw [hB s hs]
    exact ⟨fun q => ⟨s, q, sbR_0.mpr rfl⟩, fun ⟨u, q, e⟩ => by rw [← sbR_0.mp e]; exact q⟩) N
  rw [sJ_self] at h0
  exact h0
/-- the fewest, by bits; of several the least number -/
noncomputable def clF (ok : Nat → Bool) : Nat → Int32
  | 0 => -1
  | c + 1 => if (clF ok c = -1 ∨ ev_bcI (Int32.ofNat c) < ev_bcI (clF ok c)) ∧ ok c = true then Int32.ofNat c else clF ok c
theorem clF_is (ok : Nat → Bool) : ∀ n, clF ok n = -1 ∨ ∃ b, b < n ∧ clF ok n = Int32.ofNat b := by
  intro n
  induction n with
  | zero => exact Or.inl rfl
  | succ n ih =>
    unfold clF
    split
    · exact Or.inr ⟨n, Nat.lt_succ_self n, rfl⟩
    · rcases ih with h | ⟨b, h1, h2⟩
      · exact Or.inl h
      · exact Or.inr ⟨b, by omega, h2⟩
theorem clF_c {p q : Nat → Bool} : ∀ n, (∀ c, c < n → p c = q c) → clF p n = clF q n := by
  intro n
  induction n with
  | zero => intro _; rfl
  | succ n ih =>
    intro h
    unfold clF
    rw [ih fun c hc => h c (by omega), h n (Nat.lt_succ_self n)]
/-- no other laying has the same counts there -/
noncomputable def clK (I : Nat → Nat → Int32) (J : Nat → Nat → Int64) (L : List ly_t) (w h k c : Nat) : Bool := fal (fun j => !(clO I J L k j) || decide (¬ clU I J L w h k j &&& c = 0)) L.length
theorem fal_is {p : Nat → Bool} : ∀ n, fal p n = true ↔ ∀ i, i < n → p i = true := by
  intro n
  induction n with
  | zero => exact ⟨fun _ i hi => absurd hi (Nat.not_lt_zero i), fun _ => rfl⟩
  | succ n ih =>
    have e : fal p (n + 1) = (fal p n && p n) := rfl
    rw [e, Bool.and_eq_true, ih]
    constructor
    · rintro ⟨h1, h2⟩ i hi
      by_cases ei : i = n
      · rw [ei]
        exact h2
      · exact h1 i (by omega)
    · intro h
      exact ⟨fun i hi => h i (by omega), h n (Nat.lt_succ_self n)⟩
theorem cl_hid {L : List ly_t} {k c nr : Nat} (hnr : nr = w + h) (h12 : nr ≤ 12) (hc : c < 2 ^ nr) : hsR (fun u => ∃ j, j < L.length ∧ clO I J L k j = true ∧ clU I J L w h k j = u) 12 ((2 ^ nr - 1) ^^^ c) ↔ ¬ clK I J L w h k c = true := by
  subst hnr
  have hbit : ∀ i, ((2 ^ (w + h) - 1) ^^^ c).testBit i = Bool.xor (decide (i < w + h)) (c.testBit i) := fun i => by
    rw [Nat.testBit_xor, Nat.testBit_two_pow_sub_one]
  have hcb : ∀ i, ¬ i < w + h → c.testBit i = false := fun i hi => Nat.testBit_lt_two_pow (Nat.lt_of_lt_of_le hc (Nat.pow_le_pow_right (by decide) (by omega)))
  have key : ∀ j, sbR 12 (clU I J L w h k j) ((2 ^ (w + h) - 1) ^^^ c) ↔ clU I J L w h k j &&& c = 0 := fun j => by
    have hu : ∀ i, ¬ i < w + h → (clU I J L w h k j).testBit i = false := fun i hi => by
      unfold clU
      rw [unN_bit, decide_eq_false hi]
      rfl
    constructor
    · intro hs
      refine Nat.eq_of_testBit_eq fun i => ?_
      rw [Nat.testBit_and, Nat.zero_testBit]
      by_cases hi : i < w + h
      · cases hk : (clU I J L w h k j).testBit i
        · rfl
        · have h2 := (hs i).1 (by omega) hk
          rw [hbit, decide_eq_true hi] at h2
          cases hci : c.testBit i
          · rfl
          · rw [hci] at h2
            cases h2
      · rw [hu i hi]
        rfl
    · intro hz i
      refine ⟨fun _ hk => ?_, fun h3 => ?_⟩
      · have hi : i < w + h := by
          apply Classical.byContradiction
          intro z
          rw [hu i z] at hk
          cases hk
        have h2 : (clU I J L w h k j &&& c).testBit i = (0 : Nat).testBit i := by rw [hz]
        rw [Nat.testBit_and, hk, Nat.zero_testBit, Bool.true_and] at h2
        rw [hbit, decide_eq_true hi, h2]
        rfl
      · rw [hbit, hu i (by omega), decide_eq_false (show ¬ i < w + h by omega), hcb i (by omega)]
        rfl
  unfold clK
  rw [fal_is]
  constructor
  · rintro ⟨u, ⟨j, j1, j2, rfl⟩, hs⟩ hall
    have h1 := hall j j1
    rw [j2, decide_eq_false (fun z => z ((key j).mp hs))] at h1
    cases h1
  · intro hn
    apply Classical.byContradiction
    intro hno
    refine hn fun j hj => ?_
    cases hO : clO I J L k j
    · rfl
    · by_cases hz : clU I J L w h k j &&& c = 0
      · exact absurd ⟨_, ⟨j, hj, hO, rfl⟩, (key j).mpr hz⟩ hno
      · rw [decide_eq_true hz, Bool.or_true]
theorem pe_fewest {L : List ly_t} (hW : clW I J R T L n w h f) {k : Nat} (hk : k < L.length) (hx : x = Int32.ofNat k) : pe N X 74 [.ref 32, .int x] (ev_hp I J R T) (fun r hp => r = some (.int (clF (clK I J L w h k) (2 ^ (w + h)))) ∧ ∃ J', hp = ev_hp I J' R T) := by
  subst hx
  have hW0 := hW
  obtain ⟨g2, g3, g4, g5, g6, hns, hb, hin, e3, e4, e8, hw, hh⟩ := hW
  have hp2 := p2l (r := w + h) (by omega)
  refine pe_of (pw_p (cf4_0 ⟨_, pe_mark hW0 hk rfl, ?_⟩))
  rw [e3, e4, io_add, Nat.add_comm h w, p2t (w + h) (by omega)]
  rintro q hp ⟨rfl, G, rfl, hG⟩
  refine pw_p (cf4_15 ⟨_, pe_spread (nr := w + h) (Bs := fun u => ∃ j, j < L.length ∧ clO I J L k j = true ∧ clU I J L w h k j = u) (by omega) (fun s hs => by rw [cx_sJ_s]; exact hG s (by omega)) rfl, ?_⟩)
  rintro q hp ⟨rfl, G2, rfl, hG2⟩
  refine pw_p (cf4_20 ?_)
  rw [sJ2]
  have loop : ∀ (d c : Nat), c + d = 2 ^ (w + h) → ∀ N, pw N X 74 25 [.ref 32, .int (Int32.ofNat k), .int (Int32.ofNat (2 ^ (w + h))), .int (clF (clK I J L w h k) c), .int (Int32.ofNat c)] [] (ev_hp I (ev_sJ J 34 G2) R T) (fun r hp => r = some (.int (clF (clK I J L w h k) (2 ^ (w + h)))) ∧ ∃ J', hp = ev_hp I J' R T) := by
    intro d
    induction d with
    | zero =>
      intro c hc N
      obtain rfl : c = 2 ^ (w + h) := by omega
      exact pw_p (cf4_25 ⟨fun _ => ⟨rfl, _, rfl⟩, fun g => absurd (Int32.le_refl _) g⟩)
    | succ d ih =>
      intro c hcd N
      have hc : c < 2 ^ (w + h) := by omega
      have h5 := fun N => ih (c + 1) (by omega) N
      have e : clF (clK I J L w h k) (c + 1) = if (clF (clK I J L w h k) c = -1 ∨ ev_bcI (Int32.ofNat c) < ev_bcI (clF (clK I J L w h k) c)) ∧ clK I J L w h k c = true then Int32.ofNat c else clF (clK I J L w h k) c := rfl
      rw [e] at h5
      have hS : (2 ^ (w + h) - 1) ^^^ c < 2 ^ (w + h) := Nat.xor_lt_two_pow (by have := Nat.two_pow_pos (w + h); omega) hc
      have ask : (clF (clK I J L w h k) c = -1 ∨ ev_bcI (Int32.ofNat c) < ev_bcI (clF (clK I J L w h k) c)) → ∀ N, ∃ Q1 : pw_Q, pe N X 78 [.ref 32, .int ((Int32.ofNat (2 ^ (w + h)) - (1 : Int32)) ^^^ Int32.ofNat c)] (ev_hp I (ev_sJ J 34 G2) R T) Q1 ∧ ∀ (r : Option Value) (h1 : ez_H), Q1 r h1 → pw N X 74 70 [.ref 32, .int (Int32.ofNat k), .int (Int32.ofNat (2 ^ (w + h))), .int (clF (clK I J L w h k) c), .int (Int32.ofNat c), .int (1 : Int32)] (r.toList ++ []) h1 (fun r hp => r = some (.int (clF (clK I J L w h k) (2 ^ (w + h)))) ∧ ∃ J', hp = ev_hp I J' R T) := fun hb N => by
        refine ⟨_, pe_isHidden (s := (2 ^ (w + h) - 1) ^^^ c) (by omega) (by rw [io_sub1 (by omega), io_xorn (by omega) (by omega)]), ?_⟩
        rw [cx_sJ_s]
        rintro q hp ⟨rfl, rfl⟩
        have hh2 := (hG2 _ hS).trans (cl_hid (I := I) (J := J) (L := L) (k := k) rfl (by omega) hc)
        cases hz : hbt G2 ((2 ^ (w + h) - 1) ^^^ c)
        · have hok : clK I J L w h k c = true := by
            apply Classical.byContradiction
            intro z
            have := hh2.mpr z
            rw [hz] at this
            cases this
          refine pw_p (cf4_70 ⟨fun z => absurd rfl z, fun _ => ?_⟩)
          rw [io_1]
          rw [if_pos ⟨hb, hok⟩] at h5
          exact h5 _
        · refine pw_p (cf4_70 ⟨fun _ => ?_, fun z => absurd (by decide) z⟩)
          rw [io_1]
          rw [if_neg (fun z => hh2.mp hz z.2)] at h5
          exact h5 _
      refine pw_p (cf4_25 ?_)
      rw [io_le (by omega) (by omega)]
      refine ⟨fun g => absurd g (by omega), fun _ => ⟨fun g => ask (Or.inl g) _, fun g => ⟨fun g2 => ?_, fun g2 => ask (Or.inr ?_) _⟩⟩⟩
      · rw [io_1]
        rw [if_neg (fun z => z.1.elim g (fun z2 => by
          rw [Int32.le_iff_toInt_le] at g2
          rw [Int32.lt_iff_toInt_lt] at z2
          omega))] at h5
        exact h5 _
      · rw [Int32.le_iff_toInt_le] at g2
        rw [Int32.lt_iff_toInt_lt]
        omega
  exact loop (2 ^ (w + h)) 0 (by omega) _
noncomputable def v_clues (I : Nat → Nat → Int32) (J : Nat → Nat → Int64) (x : Int32) : Int32 := if sn I 0 * (sn I 1 * sn I 2) ≤ 10000 ∧ (ls I J).length ≤ 400 then (if ev_wi x 0 (Int32.ofNat (ls I J).length - 1) = 0 then -2 else clF (clK I J (ls I J) (I 1 3).toInt.toNat (I 1 4).toInt.toNat x.toInt.toNat) (2 ^ ((I 1 3).toInt.toNat + (I 1 4).toInt.toNat))) else -6
theorem cl_6 {f6 : Nat → Int32} (L : List ly_t) (w h k c : Nat) : clK (ev_sI I 6 f6) J L w h k c = clK I J L w h k c := by
  unfold clK clO clU
  simp only [ly_w_6]
theorem pe_xclues (hr : rl I J) (hh : cx_hok cx_B0 I R T) (hc : cp I J R T) : pe N X 13 [.ref 0, .int x] (ev_hp I J R T) (fun r _ => r = some (.int (v_clues I J x))) := by
  have hns := (b_sh hh.1).1
  obtain ⟨w, ht, ew, eh, hw, hhh⟩ := wh_is hh.1
  refine pe_of (pw_p (xo_clues ⟨_, pe_crowded hr hh hc, ?_⟩))
  rintro r h (⟨h1, rfl, rfl⟩ | ⟨h1, rfl, h2⟩)
  · refine pw_p (cc_4 ⟨fun z => absurd z (by decide), fun _ => ?_⟩)
    unfold v_clues
    rw [if_neg (fun z => by have := z.1; omega)]
  · obtain ⟨f6, R', T', rfl, g1, ⟨g2, n, f, g3, g4, g5, g6⟩, g7⟩ := h2
    have c1 : ev_sI I 6 f6 1 = I 1 := cx_sI_n _ _ (by decide)
    have c3 : ev_sI I 6 f6 3 = I 3 := cx_sI_n _ _ (by decide)
    refine pw_p (cc_4 ⟨fun g => ?_, fun g => ?_⟩)
    · have h400 : (ls I J).length ≤ 400 := by
        apply Classical.byContradiction
        intro z
        rw [if_neg z] at g
        exact absurd g (by decide)
      rw [g2]
      refine ⟨fun hx => ?_, fun hx => ?_⟩
      · unfold v_clues
        rw [if_pos ⟨h1, h400⟩, if_pos hx]
      · obtain ⟨k, rfl, hk⟩ := wi_len (by omega) hx
        refine ⟨_, pe_fewest (L := ls I J) (w := w) (h := ht) (n := n) (f := f) ⟨g2, g3, g4, g5, g6, by rw [c3]; exact hns, fun t ht => ls_512 hr hh.1 ht, fun t ht s hs => ?_, by rw [c1]; exact ew, by rw [c1]; exact eh, by rw [c1]; exact hc.1.2.2.1, hw, hhh⟩ hk rfl, ?_⟩
        · rw [c3] at hs
          have := ly_in hr hh.1 ht hs
          have := (fi_n hr hs).2.1
          omega
        · rintro q hp ⟨rfl, J', rfl⟩
          refine pw_p (cc_26 ?_)
          have e : clF (clK (ev_sI I 6 f6) J (ls I J) w ht k) (2 ^ (w + ht)) = clF (clK I J (ls I J) w ht k) (2 ^ (w + ht)) := clF_c _ fun c _ => cl_6 _ _ _ _ _
          unfold v_clues
          rw [if_pos ⟨h1, h400⟩, if_neg hx, e, ew, eh, io_ti (by omega), io_ti (by omega), io_ti (by omega), Int.toNat_natCast, Int.toNat_natCast, Int.toNat_natCast]
    · have h400 : ¬ (ls I J).length ≤ 400 := fun z => g (by rw [if_pos z])
      unfold v_clues
      rw [if_neg (fun z => h400 z.2)]
/-! the reference -/
theorem wi_bits {b : Nat} (h0 : 0 < b) (h1 : b < 4096) : ¬ ev_wi (Int32.ofNat b) 1 65535 = 0 := by
  unfold ev_wi
  rw [if_neg (by rw [show (1 : Int32) = Int32.ofNat 1 from rfl, io_lt (by omega) (by omega)]; omega), if_neg (by rw [show (65535 : Int32) = Int32.ofNat 65535 from rfl, io_lt (by omega) (by omega)]; omega)]
  decide
theorem bits_n {b : Nat} (h1 : b < 4096) : ev_bits (Int32.ofNat b).toInt64 = ev_bcI (Int32.ofNat b) := by
  by_cases h0 : b = 0
  · subst h0
    decide
  · exact (sb_bits (wi_bits (by omega) h1)).symm
/-- the reference's rows of what tells the others from laying k -/
noncomputable def dfr (I : Nat → Nat → Int32) (J : Nat → Nat → Int64) (w h k j : Nat) (A : Nat → Nat → Int32) : Prop := ∀ i, i < j → clO I J (ls I J) k i = true → A 64 (cq (clO I J (ls I J) k) i) = Int32.ofNat (clU I J (ls I J) w h k i)
theorem unp_c (w h : Nat) (u v : Int64) (r : Nat) : unp w h u v r = unp w h v u r := decide_eq_decide.mpr ⟨fun z e => z e.symm, fun z e => z e.symm⟩
theorem unN_c {p q : Nat → Bool} : ∀ n, (∀ c, c < n → p c = q c) → unN p n = unN q n := by
  intro n
  induction n with
  | zero => intro _; rfl
  | succ n ih =>
    intro h
    unfold unN
    rw [ih fun c hc => h c (by omega), h n (Nat.lt_succ_self n)]
theorem pe_mclues (hr : rl I J) (hm : mk I J) (hB : cx_hB cx_B0 I) : pe N X 181 [.ref 35, .int x] (ev_hp I J R T) (fun r _ => r = some (.int (v_clues I J x))) := by
  obtain ⟨a0, a1, -, -⟩ := km_0 hr.1
  obtain ⟨w, ht, ew, eh, hw, hhh⟩ := wh_is hB
  refine pe_of (pw_p (cr_0 ⟨_, pe_mcr hr hm hB _, ?_⟩))
  rintro r h ⟨A, B, rfl, ⟨h1, rfl⟩ | ⟨h1, rfl, hA⟩⟩
  · refine pw_p (cr_4 ⟨fun z => absurd z (by decide), fun _ => ?_⟩)
    unfold v_clues
    rw [if_neg h1]
  · have h400 := h1.2
    refine pw_p (cr_4 ⟨fun _ => ?_, fun z => absurd rfl z⟩)
    rw [hA.2.1, il_0]
    refine ⟨fun hx => ?_, fun hx => ?_⟩
    rotate_left
    · unfold v_clues
      rw [if_pos h1, if_pos (Classical.not_not.mp hx)]
    obtain ⟨k, rfl, hk⟩ := wi_len (by omega) hx
    have hv : v_clues I J (Int32.ofNat k) = clF (clK I J (ls I J) w ht k) (2 ^ (w + ht)) := by
      unfold v_clues
      rw [if_pos h1, if_neg hx, ew, eh, io_ti (by omega), io_ti (by omega), io_ti (by omega), Int.toNat_natCast, Int.toNat_natCast, Int.toNat_natCast]
    rw [hv]
    have hp2 := p2l (r := w + ht) (by omega)
    have e01 : ∀ A, mg I J A B → A 35 0 = Int32.ofNat w ∧ A 35 1 = Int32.ofNat ht := fun A hA => ⟨by rw [hA.1 0 (by decide) (by decide), ← a0]; exact ew, by rw [hA.1 1 (by decide) (by decide), ← a1]; exact eh⟩
    refine ⟨_, pe_mcl hr hB hA hk (by omega) rfl, ?_⟩
    rintro r h ⟨rfl, rfl⟩
    refine pw_p (cr_26 ?_)
    have ecq : ∀ j, cq (clO I J (ls I J) k) (j + 1) = cq (clO I J (ls I J) k) j + (bif clO I J (ls I J) k j then 1 else 0) := fun j => rfl
    -- the last loops
    have fin : ∀ A, mg I J A B → dfr I J w ht k (ls I J).length A → ∀ N, pw N X 181 144 [.ref 35, .int (Int32.ofNat k), .long (ly_w I J ((ls I J).getD k (0, 0, 0))), ez_fill, .int (Int32.ofNat (cq (clO I J (ls I J) k) (ls I J).length)), .int (-1 : Int32), .int (0 : Int32)] [] (ev_hp A B R T) (fun r _ => r = some (.int (clF (clK I J (ls I J) w ht k) (2 ^ (w + ht))))) := by
      intro A hA hd
      obtain ⟨q0, q1⟩ := e01 A hA
      have loop : ∀ (d c : Nat), c + d = 2 ^ (w + ht) → ∀ N, pw N X 181 144 [.ref 35, .int (Int32.ofNat k), .long (ly_w I J ((ls I J).getD k (0, 0, 0))), ez_fill, .int (Int32.ofNat (cq (clO I J (ls I J) k) (ls I J).length)), .int (clF (clK I J (ls I J) w ht k) c), .int (Int32.ofNat c)] [] (ev_hp A B R T) (fun r _ => r = some (.int (clF (clK I J (ls I J) w ht k) (2 ^ (w + ht))))) := by
        intro d
        induction d with
        | zero =>
          intro c hc N
          obtain rfl : c = 2 ^ (w + ht) := by omega
          refine pw_p (cr_144 ?_)
          rw [q0, q1, io_add, p2t (w + ht) (by omega)]
          exact ⟨fun _ => rfl, fun g => absurd (Int32.le_refl _) g⟩
        | succ d ih =>
          intro c hcd N
          have hc : c < 2 ^ (w + ht) := by omega
          have h5 := fun N => ih (c + 1) (by omega) N
          have e : clF (clK I J (ls I J) w ht k) (c + 1) = if (clF (clK I J (ls I J) w ht k) c = -1 ∨ ev_bcI (Int32.ofNat c) < ev_bcI (clF (clK I J (ls I J) w ht k) c)) ∧ clK I J (ls I J) w ht k c = true then Int32.ofNat c else clF (clK I J (ls I J) w ht k) c := rfl
          rw [e] at h5
          have inner : (clF (clK I J (ls I J) w ht k) c = -1 ∨ ev_bcI (Int32.ofNat c) < ev_bcI (clF (clK I J (ls I J) w ht k) c)) → ∀ (d j : Nat), j + d = (ls I J).length → ∀ N, pw N X 181 187 [.ref 35, .int (Int32.ofNat k), .long (ly_w I J ((ls I J).getD k (0, 0, 0))), ez_fill, .int (Int32.ofNat (cq (clO I J (ls I J) k) (ls I J).length)), .int (clF (clK I J (ls I J) w ht k) c), .int (Int32.ofNat c), .int (bif fal (fun j => !(clO I J (ls I J) k j) || decide (¬ clU I J (ls I J) w ht k j &&& c = 0)) j then 1 else 0), .int (Int32.ofNat (cq (clO I J (ls I J) k) j))] [] (ev_hp A B R T) (fun r _ => r = some (.int (clF (clK I J (ls I J) w ht k) (2 ^ (w + ht))))) := by
            intro hb d
            have stop : clK I J (ls I J) w ht k c = false → ∀ N, pw N X 181 144 [.ref 35, .int (Int32.ofNat k), .long (ly_w I J ((ls I J).getD k (0, 0, 0))), ez_fill, .int (Int32.ofNat (cq (clO I J (ls I J) k) (ls I J).length)), .int (clF (clK I J (ls I J) w ht k) c), .int (Int32.ofNat c + (1 : Int32))] [] (ev_hp A B R T) (fun r _ => r = some (.int (clF (clK I J (ls I J) w ht k) (2 ^ (w + ht))))) := fun hf N => by
              rw [io_1]
              rw [hf, if_neg (fun z => absurd z.2 (by decide))] at h5
              exact h5 N
            induction d with
            | zero =>
              intro j hj N
              obtain rfl : j = (ls I J).length := by omega
              have ek : fal (fun j => !(clO I J (ls I J) k j) || decide (¬ clU I J (ls I J) w ht k j &&& c = 0)) (ls I J).length = clK I J (ls I J) w ht k c := rfl
              rw [ek]
              refine pw_p (cr_187 ⟨fun _ => ?_, fun g => absurd (Int32.le_refl _) g⟩)
              cases hK : clK I J (ls I J) w ht k c
              · exact ⟨fun _ => stop hK _, fun z => absurd rfl z⟩
              · refine ⟨fun z => absurd z (by decide), fun _ => ?_⟩
                rw [io_1]
                rw [if_pos ⟨hb, hK⟩] at h5
                exact h5 _
            | succ d ih2 =>
              intro j hjd N
              have hj : j < (ls I J).length := by omega
              have ef : fal (fun j => !(clO I J (ls I J) k j) || decide (¬ clU I J (ls I J) w ht k j &&& c = 0)) (j + 1) = (fal (fun j => !(clO I J (ls I J) k j) || decide (¬ clU I J (ls I J) w ht k j &&& c = 0)) j && (!(clO I J (ls I J) k j) || decide (¬ clU I J (ls I J) w ht k j &&& c = 0))) := rfl
              have h6 := fun N => ih2 (j + 1) (by omega) N
              rw [ef, ecq] at h6
              cases hO : clO I J (ls I J) k j
              · rw [hO] at h6
                have h6 := h6 N
                rw [show (!false || decide (¬ clU I J (ls I J) w ht k j &&& c = 0)) = true from rfl, Bool.and_true] at h6
                exact h6
              · have hlt := cqq_lt (p := clO I J (ls I J) k) hj hO
                have hle := cq_le (clO I J (ls I J) k) (ls I J).length
                have hU : clU I J (ls I J) w ht k j < 2 ^ (w + ht) := unN_lt _ _
                have hUc : clU I J (ls I J) w ht k j &&& c < 2 ^ (w + ht) := Nat.and_lt_two_pow _ hc
                rw [hO] at h6
                refine pw_p (cr_187 ?_)
                rw [io_le (by omega) (by omega), io_cl (by omega), hd j hj hO, io_andn (by omega) (by omega), show (0 : Int32) = Int32.ofNat 0 from rfl, io_eq (by omega) (by decide)]
                refine ⟨fun g => absurd g (by omega), fun _ => ?_⟩
                cases hF : fal (fun j => !(clO I J (ls I J) k j) || decide (¬ clU I J (ls I J) w ht k j &&& c = 0)) j
                · have hK : clK I J (ls I J) w ht k c = false := by
                    have h7 := fal_le hF ((ls I J).length - j)
                    rw [show j + ((ls I J).length - j) = (ls I J).length by omega] at h7
                    exact h7
                  exact ⟨fun _ => ⟨fun _ => stop hK _, fun z => absurd rfl z⟩, fun z => absurd rfl z⟩
                · rw [hF] at h6
                  refine ⟨fun z => absurd z (by decide), fun _ _ => ⟨fun g => ?_, fun g => ?_⟩⟩
                  · rw [decide_eq_false (fun z => z g)] at h6
                    rw [io_1]
                    exact h6 _
                  · rw [decide_eq_true g] at h6
                    rw [io_1]
                    exact h6 _
          have bits : ¬ clF (clK I J (ls I J) w ht k) c = -1 → ev_bits (clF (clK I J (ls I J) w ht k) c).toInt64 = ev_bcI (clF (clK I J (ls I J) w ht k) c) := fun hn => by
            rcases clF_is (clK I J (ls I J) w ht k) c with h | ⟨b, h1, h2⟩
            · exact absurd h hn
            · rw [h2]
              exact bits_n (by omega)
          refine pw_p (cr_144 ?_)
          rw [q0, q1, io_add, p2t (w + ht) (by omega), io_le (by omega) (by omega), bits_n (b := c) (by omega)]
          refine ⟨fun g => absurd g (by omega), fun _ => ⟨fun g => inner (Or.inl g) (ls I J).length 0 (by omega) _, fun g => ?_⟩⟩
          rw [bits g]
          refine ⟨fun g2 => ?_, fun g2 => inner (Or.inr ?_) (ls I J).length 0 (by omega) _⟩
          · rw [io_1]
            rw [if_neg (fun z => z.1.elim g (fun z2 => by
              rw [Int32.le_iff_toInt_le] at g2
              rw [Int32.lt_iff_toInt_lt] at z2
              omega))] at h5
            exact h5 _
          · rw [Int32.le_iff_toInt_le] at g2
            rw [Int32.lt_iff_toInt_lt]
            omega
      exact loop (2 ^ (w + ht)) 0 (by omega)
    have loop : ∀ (d j : Nat), j + d = (ls I J).length → ∀ A, mg I J A B → dfr I J w ht k j A → ∀ N, pw N X 181 33 [.ref 35, .int (Int32.ofNat k), .long (ly_w I J ((ls I J).getD k (0, 0, 0))), ez_fill, .int (Int32.ofNat (cq (clO I J (ls I J) k) j)), .int (Int32.ofNat j)] [] (ev_hp A B R T) (fun r _ => r = some (.int (clF (clK I J (ls I J) w ht k) (2 ^ (w + ht))))) := by
      intro d
      induction d with
      | zero =>
        intro j hj A hA hd N
        obtain rfl : j = (ls I J).length := by omega
        refine pw_p (cr_33 ⟨fun _ => pw_p (cr_138 (fin A hA hd _)), fun g => ?_⟩)
        rw [hA.2.1] at g
        exact absurd (Int32.le_refl _) g
      | succ d ih =>
        intro j hjd A hA hd N
        have hj : j < (ls I J).length := by omega
        have hle := cq_le (clO I J (ls I J) k) j
        have h6 := fun A a b N => ih (j + 1) (by omega) A a b N
        rw [ecq] at h6
        refine pw_p (cr_33 ⟨fun g => ?_, fun _ => ⟨_, pe_mcl hr hB hA hj (by omega) rfl, ?_⟩⟩)
        · rw [hA.2.1, io_le (by omega) (by omega)] at g
          omega
        rintro r h ⟨rfl, rfl⟩
        refine pw_p (cr_48 ?_)
        rw [lg_eq]
        refine ⟨fun g => ?_, fun g _ => ?_⟩
        · have hO : clO I J (ls I J) k j = false := decide_eq_false fun z => z g
          rw [hO] at h6
          refine pw_p (cr_132 ?_)
          rw [io_1]
          refine h6 A hA (fun i hi hOi => ?_) _
          by_cases ei : i = j
          · subst ei
            rw [hO] at hOi
            cases hOi
          · exact hd i (by omega) hOi
        · have hO : clO I J (ls I J) k j = true := decide_eq_true g
          rw [hO] at h6
          rw [io_cl (by omega)]
          have rims : ∀ (d y : Nat), y + d = w + ht → ∀ A, mg I J A B → dfr I J w ht k j A → A 64 (cq (clO I J (ls I J) k) j) = Int32.ofNat (unN (unp w ht (ly_w I J ((ls I J).getD k (0, 0, 0))) (ly_w I J ((ls I J).getD j (0, 0, 0)))) y) → ∀ N, pw N X 181 68 [.ref 35, .int (Int32.ofNat k), .long (ly_w I J ((ls I J).getD k (0, 0, 0))), ez_fill, .int (Int32.ofNat (cq (clO I J (ls I J) k) j)), .int (Int32.ofNat j), .long (ly_w I J ((ls I J).getD j (0, 0, 0))), ez_fill, .int (Int32.ofNat y)] [] (ev_hp A B R T) (fun r _ => r = some (.int (clF (clK I J (ls I J) w ht k) (2 ^ (w + ht))))) := by
            intro d
            induction d with
            | zero =>
              intro y hy A hA hd h64 N
              obtain rfl : y = w + ht := by omega
              obtain ⟨q0, q1⟩ := e01 A hA
              refine pw_p (cr_68 ⟨fun _ => pw_p (cr_129 ?_), fun g => ?_⟩)
              · rw [io_1, io_1]
                refine h6 A hA (fun i hi hOi => ?_) _
                by_cases ei : i = j
                · subst ei
                  exact h64
                · exact hd i (by omega) hOi
              · rw [q0, q1, io_add] at g
                exact absurd (Int32.le_refl _) g
            | succ d ih2 =>
              intro y hyd A hA hd h64 N
              obtain ⟨q0, q1⟩ := e01 A hA
              have b1 := rq_64 w ht y (ly_w I J ((ls I J).getD k (0, 0, 0)))
              have b2 := rq_64 w ht y (ly_w I J ((ls I J).getD j (0, 0, 0)))
              have nx : ∀ v, v = Int32.ofNat (unN (unp w ht (ly_w I J ((ls I J).getD k (0, 0, 0))) (ly_w I J ((ls I J).getD j (0, 0, 0)))) (y + 1)) → ∀ N, pw N X 181 68 [.ref 35, .int (Int32.ofNat k), .long (ly_w I J ((ls I J).getD k (0, 0, 0))), ez_fill, .int (Int32.ofNat (cq (clO I J (ls I J) k) j)), .int (Int32.ofNat j), .long (ly_w I J ((ls I J).getD j (0, 0, 0))), ez_fill, .int (Int32.ofNat y + (1 : Int32))] [] (ev_hp (ev_sI A 64 (upd (A 64) (cq (clO I J (ls I J) k) j) v)) B R T) (fun r _ => r = some (.int (clF (clK I J (ls I J) w ht k) (2 ^ (w + ht))))) := fun v hv N => by
                rw [io_1]
                refine ih2 (y + 1) (by omega) _ (mg_d hA (fun q _ => by rw [cx_sI_n _ _ (show (35 : Nat) ≠ 64 by decide)]) (cx_sI_n _ _ (by decide)) rfl) (fun i hi hOi => ?_) ?_ N
                · have hlt := cqq_lt (p := clO I J (ls I J) k) hi hOi
                  rw [cx_sI_s, upd_n _ _ (by omega)]
                  exact hd i hi hOi
                · rw [cx_sI_s, upd_s, hv]
              refine pw_p (cr_68 ?_)
              rw [q0, q1, io_add, io_le (by omega) (by omega), io_cl (by omega), h64]
              refine ⟨fun g => absurd g (by omega), fun _ _ => ⟨_, pe_countOf (r := y) q0 q1 hw hhh (by omega) rfl, ?_⟩⟩
              rintro q hp ⟨rfl, rfl⟩
              refine pw_p (cr_103 ⟨_, pe_countOf (r := y) q0 q1 hw hhh (by omega) rfl, ?_⟩)
              rintro q hp ⟨rfl, rfl⟩
              refine pw_p (cr_110 ?_)
              rw [io_eq (by omega) (by omega), io_cl (by omega), Int32.or_zero]
              refine ⟨fun g2 _ => nx _ ?_ _, fun g2 _ => nx _ ?_ _⟩
              · have e : unN (unp w ht (ly_w I J ((ls I J).getD k (0, 0, 0))) (ly_w I J ((ls I J).getD j (0, 0, 0)))) (y + 1) = unN (unp w ht (ly_w I J ((ls I J).getD k (0, 0, 0))) (ly_w I J ((ls I J).getD j (0, 0, 0)))) y := if_neg (by
                  unfold unp
                  rw [decide_eq_false (fun z => z g2.symm)]
                  decide)
                rw [e]
              · have g3 : ¬ rq w ht y (ly_w I J ((ls I J).getD k (0, 0, 0))) = rq w ht y (ly_w I J ((ls I J).getD j (0, 0, 0))) := fun z => g2 z.symm
                rw [un_or (by omega) (decide_eq_true g3)]
          refine rims (w + ht) 0 (by omega) _ (mg_d hA (fun q _ => by rw [cx_sI_n _ _ (show (35 : Nat) ≠ 64 by decide)]) (cx_sI_n _ _ (by decide)) rfl) (fun i hi hOi => ?_) ?_ _
          · have hlt := cqq_lt (p := clO I J (ls I J) k) hi hOi
            rw [cx_sI_s, upd_n _ _ (by omega)]
            exact hd i hi hOi
          · rw [cx_sI_s, upd_s]
            rfl
    exact loop (ls I J).length 0 (by omega) A hA (fun i hi => absurd hi (Nat.not_lt_zero i)) _
end
section
variable {X : ez_X} {I I' I1 : Nat → Nat → Int32} {J J' J1 : Nat → Nat → Int64} {R R1 : Nat → Nat} {T T1 : List ez_C} {v x : Int32}
theorem v_clues_b (e : bk I' J' = bk I J) : v_clues I' J' x = v_clues I J x := by
  obtain ⟨l1, l2⟩ := bk_ls e
  obtain ⟨-, -, -, -, -, -, -, -, e13, e14, -⟩ := bk_at e
  have hK : ∀ w h k, clK I' J' (ls I J) w h k = clK I J (ls I J) w h k := fun w h k => funext fun c => by
    unfold clK clO clU
    simp only [bk_ly e]
  unfold v_clues
  rw [l2 0, l2 1, l2 2, l1, e13, e14, hK]
theorem lxc_clues (hX2 : X.1 < 2 ^ 31) (hh : cx_hok cx_B0 I R T) (hr : rl3 I J R T) (x : Int32) : ev_W X 13 0 (ez_lay [.ref 0, .int x]) [] (ev_hp I J R T) 0 0 (lw_mid T (fun v I1 J1 R1 T1 => v = v_clues I1 J1 x ∧ rl3 I1 J1 R1 T1)) := by
  refine (lxc_of (l3x_clues hX2 hh hr x) (fun N => pe_xclues (N := N) hr.1.1 hh hr.1.2) (by rfl) cv_13_0 hX2 hh ao_1).mono (lw_mono fun v I1 J1 R1 T1 q => ⟨?_, q.2.2⟩)
  rw [q.1, v_clues_b q.2.1]
theorem lmc_clues (hX2 : X.1 < 2 ^ 31) (hh : cx_hok cx_B0 I R T) (hr : rl3 I J R T) (x : Int32) (hh1 : cx_hok cx_B0 I1 R1 T1) (hm : v = v_clues I1 J1 x ∧ rl3 I1 J1 R1 T1) : ev_W X 181 0 (ez_lay [.ref 35, .int x]) [] (ev_hp I1 J1 R1 T1) 0 0 (lw_mid T1 (fun u I2 J2 R2 T2 => u = v ∧ rl3 I2 J2 R2 T2)) := by
  refine (lmc_of (l3m_clues hX2 hh hr x hh1 hm.2) (fun N => pe_mclues (N := N) hm.2.1.1 hm.2.1.2.1 hh1.1)).mono (lw_mono fun u I2 J2 R2 T2 q => ⟨?_, q.2⟩)
  rw [q.1, hm.1]
end
end
