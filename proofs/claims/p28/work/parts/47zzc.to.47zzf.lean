section
/-! The class's calls over the ledger and the tally. -/
section
variable {N : Nat} {X : ez_X} {I : Nat → Nat → Int32} {J : Nat → Nat → Int64} {R : Nat → Nat} {T : List ez_C} {Q : pw_Q} {cz kz : Nat}
set_option maxRecDepth 100000 in
theorem zc_r0  : ∀ G : ez_F, fx_up X 3 G 30 0 [.ref 0] [] (ev_hp I J R T) cz kz = ev_C G 112 [.ref 13] (ev_hp I J R T) fun r h1 c1 k1 => G 30 7 [.ref 0] (r.toList ++ []) h1 (cz + c1) (kz + k1) := by
  intro G
  rfl
theorem lz_0 
    (H : (∃ Q1 : pw_Q, pe N X 112 [.ref 13] (ev_hp I J R T) Q1 ∧ ∀ (r : Option Value) (h1 : ez_H), Q1 r h1 → pw N X 30 7 [.ref 0] (r.toList ++ []) h1 Q)) : pw (N + 1) X 30 0 [.ref 0] [] (ev_hp I J R T) Q := by
  obtain ⟨Q1, hc, hk⟩ := H
  exact pw_call (by decide) (fun _ _ => zc_r0) hc hk
set_option maxRecDepth 100000 in
theorem zc_r1  : ∀ G : ez_F, fx_up X 3 G 30 7 [.ref 0] [] (ev_hp I J R T) cz kz = ev_C G 105 [.ref 13] (ev_hp I J R T) fun r h1 c1 k1 => G 30 14 [.ref 0] (r.toList ++ []) h1 (cz + c1) (kz + k1) := by
  intro G
  rfl
theorem lz_7 
    (H : (∃ Q1 : pw_Q, pe N X 105 [.ref 13] (ev_hp I J R T) Q1 ∧ ∀ (r : Option Value) (h1 : ez_H), Q1 r h1 → pw N X 30 14 [.ref 0] (r.toList ++ []) h1 Q)) : pw (N + 1) X 30 7 [.ref 0] [] (ev_hp I J R T) Q := by
  obtain ⟨Q1, hc, hk⟩ := H
  exact pw_call (by decide) (fun _ _ => zc_r1) hc hk
set_option maxRecDepth 100000 in
theorem zc_r2  : ∀ G : ez_F, fx_up X 4 G 30 14 [.ref 0] [] (ev_hp I J R T) cz kz = some (some (.ref 14), (ev_hp I J R T), cz, kz) := by
  intro G
  rfl
theorem lz_14 
    (H : Q (some (.ref 14)) (ev_hp I J R T)) : pw (N + 1) X 30 14 [.ref 0] [] (ev_hp I J R T) Q := by
  exact pw_ret (by decide) (fun _ _ => zc_r2) H
set_option maxRecDepth 100000 in
theorem zc_r3 {a0 : Int32} : ∀ G : ez_F, fx_up X 4 G 163 0 [.ref 14, .int a0] [] (ev_hp I J R T) cz kz = ev_C G 3 [.ref 15, .int a0] (ev_hp I J R T) fun r h1 c1 k1 => G 163 8 [.ref 14, .int a0] (r.toList ++ []) h1 (cz + c1) (kz + k1) := by
  intro G
  rfl
set_option maxRecDepth 100000 in
theorem zc_r4 {a0 : Int32} {a1 : Int32} : ∀ G : ez_F, fx_up X 1 G 163 8 [.ref 14, .int a0] [.int a1] (ev_hp I J R T) cz kz = some (some (.int a1), (ev_hp I J R T), cz, kz) := by
  intro G
  rfl
theorem sh_0 {c : Int32}
    (H : Q (some (.int (ev_at 36 (I 15) c))) (ev_hp I J R T)) : pw (N + 1) X 163 0 [.ref 14, .int c] [] (ev_hp I J R T) Q := by
  refine pw_callp (by decide) (fun _ _ => zc_r3) (pe_at (show cx_Ds[15]? = some (0, 36, []) from rfl) (by decide)) ?_
  exact pw_p (pw_ret (by decide) (fun _ _ => zc_r4) H)
set_option maxRecDepth 100000 in
theorem zc_r5 {a0 : Int32} {a1 : Int32} : ∀ G : ez_F, fx_up X 2 G 162 0 [.ref 14, .int a0, .int a1] [] (ev_hp I J R T) cz kz = bif decide (¬ a1 = (0 : Int32)) then G 162 18 [.ref 14, .int a0, .int a1] [] (ev_hp I J R T) cz kz else G 162 4 [.ref 14, .int a0, .int a1] [] (ev_hp I J R T) cz kz := by
  intro G
  rfl
set_option maxRecDepth 100000 in
theorem zc_r6 {a0 : Int32} {a1 : Int32} : ∀ G : ez_F, fx_up X 3 G 162 18 [.ref 14, .int a0, .int a1] [] (ev_hp I J R T) cz kz = bif decide (¬ a1 = (1 : Int32)) then G 162 43 [.ref 14, .int a0, .int a1] [] (ev_hp I J R T) cz kz else G 162 23 [.ref 14, .int a0, .int a1] [] (ev_hp I J R T) cz kz := by
  intro G
  rfl
set_option maxRecDepth 100000 in
theorem zc_r7 {a0 : Int32} {a1 : Int32} : ∀ G : ez_F, fx_up X 4 G 162 43 [.ref 14, .int a0, .int a1] [] (ev_hp I J R T) cz kz = ev_C G 3 [.ref 16, .int a0] (ev_hp I J R T) fun r h1 c1 k1 => G 162 51 [.ref 14, .int a0, .int a1] (r.toList ++ []) h1 (cz + c1) (kz + k1) := by
  intro G
  rfl
set_option maxRecDepth 100000 in
theorem zc_r8 {a0 : Int32} {a1 : Int32} {a2 : Int32} : ∀ G : ez_F, fx_up X 1 G 162 51 [.ref 14, .int a0, .int a1] [.int a2] (ev_hp I J R T) cz kz = some (some (.int a2), (ev_hp I J R T), cz, kz) := by
  intro G
  rfl
set_option maxRecDepth 100000 in
theorem zc_r9 {a0 : Int32} {a1 : Int32} : ∀ G : ez_F, fx_up X 4 G 162 23 [.ref 14, .int a0, .int a1] [] (ev_hp I J R T) cz kz = ev_C G 3 [.ref 15, .int a0] (ev_hp I J R T) fun r h1 c1 k1 => G 162 31 [.ref 14, .int a0, .int a1] (r.toList ++ []) h1 (cz + c1) (kz + k1) := by
  intro G
  rfl
set_option maxRecDepth 100000 in
theorem zc_r10 {a0 : Int32} {a1 : Int32} {a2 : Int32} : ∀ G : ez_F, fx_up X 4 G 162 31 [.ref 14, .int a0, .int a1] [.int a2] (ev_hp I J R T) cz kz = ev_C G 3 [.ref 16, .int a0] (ev_hp I J R T) fun r h1 c1 k1 => G 162 39 [.ref 14, .int a0, .int a1] (r.toList ++ [.int a2]) h1 (cz + c1) (kz + k1) := by
  intro G
  rfl
set_option maxRecDepth 100000 in
theorem zc_r11 {a0 : Int32} {a1 : Int32} {a2 : Int32} {a3 : Int32} : ∀ G : ez_F, fx_up X 3 G 162 39 [.ref 14, .int a0, .int a1] [.int a2, .int a3] (ev_hp I J R T) cz kz = some (some (.int (a3 - a2)), (ev_hp I J R T), cz, kz) := by
  intro G
  rfl
set_option maxRecDepth 100000 in
theorem zc_r12 {a0 : Int32} {a1 : Int32} : ∀ G : ez_F, fx_up X 2 G 162 4 [.ref 14, .int a0, .int a1] [] (ev_hp I J R T) cz kz = G 162 8 [.ref 14, .int a0, .int a1] [.int (I 14 2)] (ev_hp I J R T) cz kz := by
  intro G
  rfl
set_option maxRecDepth 100000 in
theorem zc_r13 {a0 : Int32} {a1 : Int32} {a2 : Int32} : ∀ G : ez_F, fx_up X 4 G 162 8 [.ref 14, .int a0, .int a1] [.int a2] (ev_hp I J R T) cz kz = ev_C G 3 [.ref 15, .int a0] (ev_hp I J R T) fun r h1 c1 k1 => G 162 16 [.ref 14, .int a0, .int a1] (r.toList ++ [.int a2]) h1 (cz + c1) (kz + k1) := by
  intro G
  rfl
set_option maxRecDepth 100000 in
theorem zc_r14 {a0 : Int32} {a1 : Int32} {a2 : Int32} {a3 : Int32} : ∀ G : ez_F, fx_up X 2 G 162 16 [.ref 14, .int a0, .int a1] [.int a2, .int a3] (ev_hp I J R T) cz kz = some (some (.int (a3 - a2)), (ev_hp I J R T), cz, kz) := by
  intro G
  rfl
theorem ip_0 {c v : Int32}
    (H : ((¬ v = (0 : Int32) → ((¬ v = (1 : Int32) → Q (some (.int (ev_at 36 (I 16) c))) (ev_hp I J R T)) ∧ (¬ (¬ v = (1 : Int32)) → Q (some (.int ((ev_at 36 (I 15) c) - (ev_at 36 (I 16) c)))) (ev_hp I J R T)))) ∧ (¬ (¬ v = (0 : Int32)) → Q (some (.int ((I 14 2) - (ev_at 36 (I 15) c)))) (ev_hp I J R T)))) : pw (N + 1) X 162 0 [.ref 14, .int c, .int v] [] (ev_hp I J R T) Q := by
  refine pw_if (by decide) (fun _ _ => zc_r5) (fun w1 => ?_) (fun w1 => ?_)
  · have h1 := H.1 w1
    refine pw_p (pw_if (by decide) (fun _ _ => zc_r6) (fun w2 => ?_) (fun w2 => ?_))
    · have h2 := h1.1 w2
      refine pw_p (pw_callp (by decide) (fun _ _ => zc_r7) (pe_at (show cx_Ds[16]? = some (0, 36, []) from rfl) (by decide)) ?_)
      exact pw_p (pw_ret (by decide) (fun _ _ => zc_r8) h2)
    · have h2 := h1.2 w2
      refine pw_p (pw_callp (by decide) (fun _ _ => zc_r9) (pe_at (show cx_Ds[15]? = some (0, 36, []) from rfl) (by decide)) ?_)
      refine pw_p (pw_callp (by decide) (fun _ _ => zc_r10) (pe_at (show cx_Ds[16]? = some (0, 36, []) from rfl) (by decide)) ?_)
      exact pw_p (pw_ret (by decide) (fun _ _ => zc_r11) h2)
  · have h1 := H.2 w1
    refine pw_p (pw_seg (by decide) (fun _ _ => zc_r12) ?_)
    refine pw_p (pw_callp (by decide) (fun _ _ => zc_r13) (pe_at (show cx_Ds[15]? = some (0, 36, []) from rfl) (by decide)) ?_)
    exact pw_p (pw_ret (by decide) (fun _ _ => zc_r14) h1)
end
noncomputable def ipF (F14 F15 F16 : Nat → Int32) (c v : Int32) : Int32 := if v = 0 then F14 2 - ev_at 36 F15 c else if v = 1 then ev_at 36 F15 c - ev_at 36 F16 c else ev_at 36 F16 c
noncomputable def imx (a b : Int32) : Int32 := if a < b then b else a
noncomputable def gtF (F14 F15 F16 : Nat → Int32) (c : Int32) : Int32 := imx (ipF F14 F15 F16 c 0) (imx (ipF F14 F15 F16 c 1) (ipF F14 F15 F16 c 2))
section
variable {N : Nat} {X : ez_X} {I : Nat → Nat → Int32} {J : Nat → Nat → Int64} {R : Nat → Nat} {T : List ez_C} {x y : Int32}
theorem pe_shipsAt : pe N X 163 [.ref 14, .int x] (ev_hp I J R T) (fun r h => r = some (.int (ev_at 36 (I 15) x)) ∧ h = ev_hp I J R T) := pe_of (pw_p (sh_0 ⟨rfl, rfl⟩))
theorem pe_inPart : pe N X 162 [.ref 14, .int x, .int y] (ev_hp I J R T) (fun r h => r = some (.int (ipF (I 14) (I 15) (I 16) x y)) ∧ h = ev_hp I J R T) := by
  unfold ipF
  refine pe_of (pw_p (ip_0 ?_))
  refine ⟨fun g0 => ⟨fun g1 => ⟨?_, rfl⟩, fun g1 => ⟨?_, rfl⟩⟩, fun g0 => ⟨?_, rfl⟩⟩
  · rw [if_neg g0, if_neg g1]
  · rw [if_neg g0, if_pos (Classical.not_not.mp g1)]
  · rw [if_pos (Classical.not_not.mp g0)]
end
section
variable {N : Nat} {X : ez_X} {I : Nat → Nat → Int32} {J : Nat → Nat → Int64} {R : Nat → Nat} {T : List ez_C} {Q : pw_Q} {cz kz : Nat}
set_option maxRecDepth 100000 in
theorem zd_r0 {a0 : Int32} : ∀ G : ez_F, fx_up X 4 G 161 0 [.ref 14, .int a0] [] (ev_hp I J R T) cz kz = ev_C G 162 [.ref 14, .int a0, .int (0 : Int32)] (ev_hp I J R T) fun r h1 c1 k1 => G 161 6 [.ref 14, .int a0] (r.toList ++ []) h1 (cz + c1) (kz + k1) := by
  intro G
  rfl
set_option maxRecDepth 100000 in
theorem zd_r1 {a0 : Int32} {a1 : Int32} : ∀ G : ez_F, fx_up X 4 G 161 6 [.ref 14, .int a0] [.int a1] (ev_hp I J R T) cz kz = ev_C G 162 [.ref 14, .int a0, .int (1 : Int32)] (ev_hp I J R T) fun r h1 c1 k1 => G 161 12 [.ref 14, .int a0] (r.toList ++ [.int a1]) h1 (cz + c1) (kz + k1) := by
  intro G
  rfl
set_option maxRecDepth 100000 in
theorem zd_r2 {a0 : Int32} {a1 : Int32} {a2 : Int32} : ∀ G : ez_F, fx_up X 4 G 161 12 [.ref 14, .int a0] [.int a1, .int a2] (ev_hp I J R T) cz kz = ev_C G 162 [.ref 14, .int a0, .int (2 : Int32)] (ev_hp I J R T) fun r h1 c1 k1 => G 161 18 [.ref 14, .int a0] (r.toList ++ [.int a1, .int a2]) h1 (cz + c1) (kz + k1) := by
  intro G
  rfl
set_option maxRecDepth 100000 in
theorem zd_r3 {a0 : Int32} {a1 : Int32} {a2 : Int32} {a3 : Int32} : ∀ G : ez_F, fx_up X 3 G 161 18 [.ref 14, .int a0] [.int a1, .int a2, .int a3] (ev_hp I J R T) cz kz = some (some (.int (if a3 < (if a2 < a1 then a1 else a2) then (if a2 < a1 then a1 else a2) else a3)), (ev_hp I J R T), cz, kz) := by
  intro G
  rfl
theorem gt_0 {c : Int32}
    (H : Q (some (.int (if (ipF (I 14) (I 15) (I 16) c (0 : Int32)) < (if (ipF (I 14) (I 15) (I 16) c (1 : Int32)) < (ipF (I 14) (I 15) (I 16) c (2 : Int32)) then (ipF (I 14) (I 15) (I 16) c (2 : Int32)) else (ipF (I 14) (I 15) (I 16) c (1 : Int32))) then (if (ipF (I 14) (I 15) (I 16) c (1 : Int32)) < (ipF (I 14) (I 15) (I 16) c (2 : Int32)) then (ipF (I 14) (I 15) (I 16) c (2 : Int32)) else (ipF (I 14) (I 15) (I 16) c (1 : Int32))) else (ipF (I 14) (I 15) (I 16) c (0 : Int32))))) (ev_hp I J R T)) : pw (N + 1) X 161 0 [.ref 14, .int c] [] (ev_hp I J R T) Q := by
  refine pw_callp (by decide) (fun _ _ => zd_r0) (pe_inPart) ?_
  refine pw_p (pw_callp (by decide) (fun _ _ => zd_r1) (pe_inPart) ?_)
  refine pw_p (pw_callp (by decide) (fun _ _ => zd_r2) (pe_inPart) ?_)
  exact pw_p (pw_ret (by decide) (fun _ _ => zd_r3) H)
end
section
variable {N : Nat} {X : ez_X} {I : Nat → Nat → Int32} {J : Nat → Nat → Int64} {R : Nat → Nat} {T : List ez_C} {x : Int32}
theorem pe_greatest : pe N X 161 [.ref 14, .int x] (ev_hp I J R T) (fun r h => r = some (.int (gtF (I 14) (I 15) (I 16) x)) ∧ h = ev_hp I J R T) := pe_of (pw_p (gt_0 ⟨rfl, rfl⟩))
end
section
variable {N : Nat} {X : ez_X} {I : Nat → Nat → Int32} {J : Nat → Nat → Int64} {R : Nat → Nat} {T : List ez_C} {Q : pw_Q} {cz kz : Nat}
set_option maxRecDepth 100000 in
theorem ze_r0 {a0 : Int32} {a1 : Int32} : ∀ G : ez_F, fx_up X 4 G 158 0 [.ref 14, .int a0, .int a1] [] (ev_hp I J R T) cz kz = G 158 5 [.ref 14, .int a0, .int a1, .long (0 : Int64), ez_fill, .int (0 : Int32)] [] (ev_hp I J R T) cz kz := by
  intro G
  rfl
theorem cw0_0 {n m : Int32}
    (H : pw N X 158 5 [.ref 14, .int n, .int m, .long (0 : Int64), ez_fill, .int (0 : Int32)] [] (ev_hp I J R T) Q) : pw (N + 1) X 158 0 [.ref 14, .int n, .int m] [] (ev_hp I J R T) Q := by
  refine pw_seg (by decide) (fun _ _ => ze_r0) ?_
  exact H
set_option maxRecDepth 100000 in
theorem ze_r1 {a0 : Int32} {a1 : Int32} {a2 : Int64} {a3 : Int32} : ∀ G : ez_F, fx_up X 3 G 158 5 [.ref 14, .int a0, .int a1, .long a2, ez_fill, .int a3] [] (ev_hp I J R T) cz kz = bif decide (a1 ≤ a3) then G 158 37 [.ref 14, .int a0, .int a1, .long a2, ez_fill, .int a3] [] (ev_hp I J R T) cz kz else G 158 11 [.ref 14, .int a0, .int a1, .long a2, ez_fill, .int a3] [] (ev_hp I J R T) cz kz := by
  intro G
  rfl
set_option maxRecDepth 100000 in
theorem ze_r2 {a0 : Int32} {a1 : Int32} {a2 : Int64} {a3 : Int32} : ∀ G : ez_F, fx_up X 2 G 158 37 [.ref 14, .int a0, .int a1, .long a2, ez_fill, .int a3] [] (ev_hp I J R T) cz kz = some (some (.long a2), (ev_hp I J R T), cz, kz) := by
  intro G
  rfl
set_option maxRecDepth 100000 in
theorem ze_r3 {a0 : Int32} {a1 : Int32} {a2 : Int64} {a3 : Int32} : ∀ G : ez_F, fx_up X 4 G 158 11 [.ref 14, .int a0, .int a1, .long a2, ez_fill, .int a3] [] (ev_hp I J R T) cz kz = ev_C G 3 [.ref 15, .int a3] (ev_hp I J R T) fun r h1 c1 k1 => G 158 20 [.ref 14, .int a0, .int a1, .long a2, ez_fill, .int a3] (r.toList ++ []) h1 (cz + c1) (kz + k1) := by
  intro G
  rfl
set_option maxRecDepth 100000 in
theorem ze_r4 {a0 : Int32} {a1 : Int32} {a2 : Int64} {a3 : Int32} {a4 : Int32} : ∀ G : ez_F, fx_up X 2 G 158 20 [.ref 14, .int a0, .int a1, .long a2, ez_fill, .int a3] [.int a4] (ev_hp I J R T) cz kz = bif decide (¬ a4 = a0) then G 158 31 [.ref 14, .int a0, .int a1, .long a2, ez_fill, .int a3] [] (ev_hp I J R T) cz kz else G 158 24 [.ref 14, .int a0, .int a1, .long a2, ez_fill, .int a3] [] (ev_hp I J R T) cz kz := by
  intro G
  rfl
set_option maxRecDepth 100000 in
theorem ze_r5 {a0 : Int32} {a1 : Int32} {a2 : Int64} {a3 : Int32} : ∀ G : ez_F, fx_up X 2 G 158 31 [.ref 14, .int a0, .int a1, .long a2, ez_fill, .int a3] [] (ev_hp I J R T) cz kz = G 158 5 [.ref 14, .int a0, .int a1, .long a2, ez_fill, .int (a3 + (1 : Int32))] [] (ev_hp I J R T) cz kz := by
  intro G
  rfl
set_option maxRecDepth 100000 in
theorem ze_r6 {a0 : Int32} {a1 : Int32} {a2 : Int64} {a3 : Int32} : ∀ G : ez_F, fx_up X 8 G 158 24 [.ref 14, .int a0, .int a1, .long a2, ez_fill, .int a3] [] (ev_hp I J R T) cz kz = G 158 5 [.ref 14, .int a0, .int a1, .long (a2 ||| ((1 : Int64) <<< (a3.toInt64 &&& (63 : Int64)))), ez_fill, .int (a3 + (1 : Int32))] [] (ev_hp I J R T) cz kz := by
  intro G
  rfl
theorem cw0_5 {n m c : Int32} {z : Int64}
    (H : ((m ≤ c → Q (some (.long z)) (ev_hp I J R T)) ∧ (¬ (m ≤ c) → ((¬ (ev_at 36 (I 15) c) = n → pw N X 158 5 [.ref 14, .int n, .int m, .long z, ez_fill, .int (c + (1 : Int32))] [] (ev_hp I J R T) Q) ∧ (¬ (¬ (ev_at 36 (I 15) c) = n) → pw N X 158 5 [.ref 14, .int n, .int m, .long (z ||| ((1 : Int64) <<< (c.toInt64 &&& (63 : Int64)))), ez_fill, .int (c + (1 : Int32))] [] (ev_hp I J R T) Q))))) : pw (N + 1) X 158 5 [.ref 14, .int n, .int m, .long z, ez_fill, .int c] [] (ev_hp I J R T) Q := by
  refine pw_if (by decide) (fun _ _ => ze_r1) (fun w1 => ?_) (fun w1 => ?_)
  · have h1 := H.1 w1
    exact pw_p (pw_ret (by decide) (fun _ _ => ze_r2) h1)
  · have h1 := H.2 w1
    refine pw_p (pw_callp (by decide) (fun _ _ => ze_r3) (pe_at (show cx_Ds[15]? = some (0, 36, []) from rfl) (by decide)) ?_)
    refine pw_p (pw_if (by decide) (fun _ _ => ze_r4) (fun w2 => ?_) (fun w2 => ?_))
    · have h2 := h1.1 w2
      refine pw_p (pw_seg (by decide) (fun _ _ => ze_r5) ?_)
      exact h2
    · have h2 := h1.2 w2
      refine pw_p (pw_seg (by decide) (fun _ _ => ze_r6) ?_)
      exact h2
set_option maxRecDepth 100000 in
theorem ze_r7 {a0 : Int32} : ∀ G : ez_F, fx_up X 4 G 157 0 [.ref 14, .int a0] [] (ev_hp I J R T) cz kz = G 157 4 [.ref 14, .int a0, .int (0 : Int32), .int (1 : Int32)] [] (ev_hp I J R T) cz kz := by
  intro G
  rfl
theorem be_0 {m : Int32}
    (H : pw N X 157 4 [.ref 14, .int m, .int (0 : Int32), .int (1 : Int32)] [] (ev_hp I J R T) Q) : pw (N + 1) X 157 0 [.ref 14, .int m] [] (ev_hp I J R T) Q := by
  refine pw_seg (by decide) (fun _ _ => ze_r7) ?_
  exact H
set_option maxRecDepth 100000 in
theorem ze_r8 {a0 : Int32} {a1 : Int32} {a2 : Int32} : ∀ G : ez_F, fx_up X 3 G 157 4 [.ref 14, .int a0, .int a1, .int a2] [] (ev_hp I J R T) cz kz = bif decide (a0 ≤ a2) then G 157 30 [.ref 14, .int a0, .int a1, .int a2] [] (ev_hp I J R T) cz kz else G 157 9 [.ref 14, .int a0, .int a1, .int a2] [] (ev_hp I J R T) cz kz := by
  intro G
  rfl
set_option maxRecDepth 100000 in
theorem ze_r9 {a0 : Int32} {a1 : Int32} {a2 : Int32} : ∀ G : ez_F, fx_up X 2 G 157 30 [.ref 14, .int a0, .int a1, .int a2] [] (ev_hp I J R T) cz kz = some (some (.int a1), (ev_hp I J R T), cz, kz) := by
  intro G
  rfl
set_option maxRecDepth 100000 in
theorem ze_r10 {a0 : Int32} {a1 : Int32} {a2 : Int32} : ∀ G : ez_F, fx_up X 3 G 157 9 [.ref 14, .int a0, .int a1, .int a2] [] (ev_hp I J R T) cz kz = ev_C G 161 [.ref 14, .int a2] (ev_hp I J R T) fun r h1 c1 k1 => G 157 14 [.ref 14, .int a0, .int a1, .int a2] (r.toList ++ []) h1 (cz + c1) (kz + k1) := by
  intro G
  rfl
set_option maxRecDepth 100000 in
theorem ze_r11 {a0 : Int32} {a1 : Int32} {a2 : Int32} {a3 : Int32} : ∀ G : ez_F, fx_up X 3 G 157 14 [.ref 14, .int a0, .int a1, .int a2] [.int a3] (ev_hp I J R T) cz kz = ev_C G 161 [.ref 14, .int a1] (ev_hp I J R T) fun r h1 c1 k1 => G 157 19 [.ref 14, .int a0, .int a1, .int a2] (r.toList ++ [.int a3]) h1 (cz + c1) (kz + k1) := by
  intro G
  rfl
set_option maxRecDepth 100000 in
theorem ze_r12 {a0 : Int32} {a1 : Int32} {a2 : Int32} {a3 : Int32} {a4 : Int32} : ∀ G : ez_F, fx_up X 1 G 157 19 [.ref 14, .int a0, .int a1, .int a2] [.int a3, .int a4] (ev_hp I J R T) cz kz = bif decide (a3 ≤ a4) then G 157 24 [.ref 14, .int a0, .int a1, .int a2] [] (ev_hp I J R T) cz kz else G 157 22 [.ref 14, .int a0, .int a1, .int a2] [] (ev_hp I J R T) cz kz := by
  intro G
  rfl
set_option maxRecDepth 100000 in
theorem ze_r13 {a0 : Int32} {a1 : Int32} {a2 : Int32} : ∀ G : ez_F, fx_up X 2 G 157 24 [.ref 14, .int a0, .int a1, .int a2] [] (ev_hp I J R T) cz kz = G 157 4 [.ref 14, .int a0, .int a1, .int (a2 + (1 : Int32))] [] (ev_hp I J R T) cz kz := by
  intro G
  rfl
set_option maxRecDepth 100000 in
theorem ze_r14 {a0 : Int32} {a1 : Int32} {a2 : Int32} : ∀ G : ez_F, fx_up X 4 G 157 22 [.ref 14, .int a0, .int a1, .int a2] [] (ev_hp I J R T) cz kz = G 157 4 [.ref 14, .int a0, .int a2, .int (a2 + (1 : Int32))] [] (ev_hp I J R T) cz kz := by
  intro G
  rfl
theorem be_4 {m b c : Int32}
    (H : ((m ≤ c → Q (some (.int b)) (ev_hp I J R T)) ∧ (¬ (m ≤ c) → (((gtF (I 14) (I 15) (I 16) b) ≤ (gtF (I 14) (I 15) (I 16) c) → pw N X 157 4 [.ref 14, .int m, .int b, .int (c + (1 : Int32))] [] (ev_hp I J R T) Q) ∧ (¬ ((gtF (I 14) (I 15) (I 16) b) ≤ (gtF (I 14) (I 15) (I 16) c)) → pw N X 157 4 [.ref 14, .int m, .int c, .int (c + (1 : Int32))] [] (ev_hp I J R T) Q))))) : pw (N + 1) X 157 4 [.ref 14, .int m, .int b, .int c] [] (ev_hp I J R T) Q := by
  refine pw_if (by decide) (fun _ _ => ze_r8) (fun w1 => ?_) (fun w1 => ?_)
  · have h1 := H.1 w1
    exact pw_p (pw_ret (by decide) (fun _ _ => ze_r9) h1)
  · have h1 := H.2 w1
    refine pw_p (pw_callp (by decide) (fun _ _ => ze_r10) (pe_greatest) ?_)
    refine pw_p (pw_callp (by decide) (fun _ _ => ze_r11) (pe_greatest) ?_)
    refine pw_p (pw_if (by decide) (fun _ _ => ze_r12) (fun w2 => ?_) (fun w2 => ?_))
    · have h2 := h1.1 w2
      refine pw_p (pw_seg (by decide) (fun _ _ => ze_r13) ?_)
      exact h2
    · have h2 := h1.2 w2
      refine pw_p (pw_seg (by decide) (fun _ _ => ze_r14) ?_)
      exact h2
set_option maxRecDepth 100000 in
theorem ze_r15 {a0 : Int32} : ∀ G : ez_F, fx_up X 4 G 110 0 [.ref 13, .int a0] [] (ev_hp I J R T) cz kz = G 110 4 [.ref 13, .int a0, .int (0 : Int32), .int (0 : Int32)] [] (ev_hp I J R T) cz kz := by
  intro G
  rfl
theorem nf_0 {i : Int32}
    (H : pw N X 110 4 [.ref 13, .int i, .int (0 : Int32), .int (0 : Int32)] [] (ev_hp I J R T) Q) : pw (N + 1) X 110 0 [.ref 13, .int i] [] (ev_hp I J R T) Q := by
  refine pw_seg (by decide) (fun _ _ => ze_r15) ?_
  exact H
set_option maxRecDepth 100000 in
theorem ze_r16 {a0 : Int32} {a1 : Int32} {a2 : Int32} : ∀ G : ez_F, fx_up X 4 G 110 4 [.ref 13, .int a0, .int a1, .int a2] [] (ev_hp I J R T) cz kz = G 110 12 [.ref 13, .int a0, .int a1, .int a2] [.int (I 6 3), .int a2] (ev_hp I J R T) cz kz := by
  intro G
  rfl
set_option maxRecDepth 100000 in
theorem ze_r17 {a0 : Int32} {a1 : Int32} {a2 : Int32} {a3 : Int32} {a4 : Int32} : ∀ G : ez_F, fx_up X 1 G 110 12 [.ref 13, .int a0, .int a1, .int a2] [.int a3, .int a4] (ev_hp I J R T) cz kz = bif decide (a3 ≤ a4) then G 110 39 [.ref 13, .int a0, .int a1, .int a2] [] (ev_hp I J R T) cz kz else G 110 15 [.ref 13, .int a0, .int a1, .int a2] [] (ev_hp I J R T) cz kz := by
  intro G
  rfl
set_option maxRecDepth 100000 in
theorem ze_r18 {a0 : Int32} {a1 : Int32} {a2 : Int32} : ∀ G : ez_F, fx_up X 2 G 110 39 [.ref 13, .int a0, .int a1, .int a2] [] (ev_hp I J R T) cz kz = some (some (.int (-1 : Int32)), (ev_hp I J R T), cz, kz) := by
  intro G
  rfl
set_option maxRecDepth 100000 in
theorem ze_r19 {a0 : Int32} {a1 : Int32} {a2 : Int32} : ∀ G : ez_F, fx_up X 3 G 110 15 [.ref 13, .int a0, .int a1, .int a2] [] (ev_hp I J R T) cz kz = ev_C G 109 [.ref 13, .int a2] (ev_hp I J R T) fun r h1 c1 k1 => G 110 20 [.ref 13, .int a0, .int a1, .int a2] (r.toList ++ []) h1 (cz + c1) (kz + k1) := by
  intro G
  rfl
theorem nf_4 {i a k : Int32}
    (H : (((I 6 3) ≤ k → Q (some (.int (-1 : Int32))) (ev_hp I J R T)) ∧ (¬ ((I 6 3) ≤ k) → (∃ Q1 : pw_Q, pe N X 109 [.ref 13, .int k] (ev_hp I J R T) Q1 ∧ ∀ (r : Option Value) (h1 : ez_H), Q1 r h1 → pw N X 110 20 [.ref 13, .int i, .int a, .int k] (r.toList ++ []) h1 Q)))) : pw (N + 1) X 110 4 [.ref 13, .int i, .int a, .int k] [] (ev_hp I J R T) Q := by
  refine pw_seg (by decide) (fun _ _ => ze_r16) ?_
  refine pw_p (pw_if (by decide) (fun _ _ => ze_r17) (fun w1 => ?_) (fun w1 => ?_))
  · have h1 := H.1 w1
    exact pw_p (pw_ret (by decide) (fun _ _ => ze_r18) h1)
  · have h1 := H.2 w1
    obtain ⟨Q1, hc, hk⟩ := h1
    exact pw_p (pw_call (by decide) (fun _ _ => ze_r19) hc hk)
set_option maxRecDepth 100000 in
theorem ze_r20 {a0 : Int32} {a1 : Int32} {a2 : Int32} {a3 : Int32} : ∀ G : ez_F, fx_up X 1 G 110 20 [.ref 13, .int a0, .int a1, .int a2] [.int a3] (ev_hp I J R T) cz kz = bif decide (a3 = (0 : Int32)) then G 110 33 [.ref 13, .int a0, .int a1, .int a2] [] (ev_hp I J R T) cz kz else G 110 23 [.ref 13, .int a0, .int a1, .int a2] [] (ev_hp I J R T) cz kz := by
  intro G
  rfl
set_option maxRecDepth 100000 in
theorem ze_r21 {a0 : Int32} {a1 : Int32} {a2 : Int32} : ∀ G : ez_F, fx_up X 2 G 110 33 [.ref 13, .int a0, .int a1, .int a2] [] (ev_hp I J R T) cz kz = G 110 4 [.ref 13, .int a0, .int a1, .int (a2 + (1 : Int32))] [] (ev_hp I J R T) cz kz := by
  intro G
  rfl
set_option maxRecDepth 100000 in
theorem ze_r22 {a0 : Int32} {a1 : Int32} {a2 : Int32} : ∀ G : ez_F, fx_up X 3 G 110 23 [.ref 13, .int a0, .int a1, .int a2] [] (ev_hp I J R T) cz kz = bif decide (¬ a1 = a0) then G 110 30 [.ref 13, .int a0, .int a1, .int a2] [] (ev_hp I J R T) cz kz else G 110 28 [.ref 13, .int a0, .int a1, .int a2] [] (ev_hp I J R T) cz kz := by
  intro G
  rfl
set_option maxRecDepth 100000 in
theorem ze_r23 {a0 : Int32} {a1 : Int32} {a2 : Int32} : ∀ G : ez_F, fx_up X 3 G 110 30 [.ref 13, .int a0, .int a1, .int a2] [] (ev_hp I J R T) cz kz = G 110 4 [.ref 13, .int a0, .int (a1 + (1 : Int32)), .int (a2 + (1 : Int32))] [] (ev_hp I J R T) cz kz := by
  intro G
  rfl
set_option maxRecDepth 100000 in
theorem ze_r24 {a0 : Int32} {a1 : Int32} {a2 : Int32} : ∀ G : ez_F, fx_up X 2 G 110 28 [.ref 13, .int a0, .int a1, .int a2] [] (ev_hp I J R T) cz kz = some (some (.int a2), (ev_hp I J R T), cz, kz) := by
  intro G
  rfl
theorem nf_20 {i a k v : Int32}
    (H : ((v = (0 : Int32) → pw N X 110 4 [.ref 13, .int i, .int a, .int (k + (1 : Int32))] [] (ev_hp I J R T) Q) ∧ (¬ (v = (0 : Int32)) → ((¬ a = i → pw N X 110 4 [.ref 13, .int i, .int (a + (1 : Int32)), .int (k + (1 : Int32))] [] (ev_hp I J R T) Q) ∧ (¬ (¬ a = i) → Q (some (.int k)) (ev_hp I J R T)))))) : pw (N + 1) X 110 20 [.ref 13, .int i, .int a, .int k] [.int v] (ev_hp I J R T) Q := by
  refine pw_if (by decide) (fun _ _ => ze_r20) (fun w1 => ?_) (fun w1 => ?_)
  · have h1 := H.1 w1
    refine pw_p (pw_seg (by decide) (fun _ _ => ze_r21) ?_)
    exact h1
  · have h1 := H.2 w1
    refine pw_p (pw_if (by decide) (fun _ _ => ze_r22) (fun w2 => ?_) (fun w2 => ?_))
    · have h2 := h1.1 w2
      refine pw_p (pw_seg (by decide) (fun _ _ => ze_r23) ?_)
      exact h2
    · have h2 := h1.2 w2
      exact pw_p (pw_ret (by decide) (fun _ _ => ze_r24) h2)
set_option maxRecDepth 100000 in
theorem ze_r25 {a0 : Int32} : ∀ G : ez_F, fx_up X 1 G 29 4 [.ref 0] [.int a0] (ev_hp I J R T) cz kz = bif decide (a0 = (0 : Int32)) then G 29 12 [.ref 0] [] (ev_hp I J R T) cz kz else G 29 7 [.ref 0] [] (ev_hp I J R T) cz kz := by
  intro G
  rfl
set_option maxRecDepth 100000 in
theorem ze_r26  : ∀ G : ez_F, fx_up X 2 G 29 12 [.ref 0] [] (ev_hp I J R T) cz kz = ev_C G 30 [.ref 0] (ev_hp I J R T) fun r h1 c1 k1 => G 29 16 [.ref 0] (r.toList ++ []) h1 (cz + c1) (kz + k1) := by
  intro G
  rfl
set_option maxRecDepth 100000 in
theorem ze_r27  : ∀ G : ez_F, fx_up X 3 G 29 7 [.ref 0] [] (ev_hp I J R T) cz kz = some (some (.int (-6 : Int32)), (ev_hp I J R T), cz, kz) := by
  intro G
  rfl
theorem le_4 {v : Int32}
    (H : ((v = (0 : Int32) → (∃ Q1 : pw_Q, pe N X 30 [.ref 0] (ev_hp I J R T) Q1 ∧ ∀ (r : Option Value) (h1 : ez_H), Q1 r h1 → pw N X 29 16 [.ref 0] (r.toList ++ []) h1 Q)) ∧ (¬ (v = (0 : Int32)) → Q (some (.int (-6 : Int32))) (ev_hp I J R T)))) : pw (N + 1) X 29 4 [.ref 0] [.int v] (ev_hp I J R T) Q := by
  refine pw_if (by decide) (fun _ _ => ze_r25) (fun w1 => ?_) (fun w1 => ?_)
  · have h1 := H.1 w1
    obtain ⟨Q1, hc, hk⟩ := h1
    exact pw_p (pw_call (by decide) (fun _ _ => ze_r26) hc hk)
  · have h1 := H.2 w1
    exact pw_p (pw_ret (by decide) (fun _ _ => ze_r27) h1)
set_option maxRecDepth 100000 in
theorem ze_r28  : ∀ G : ez_F, fx_up X 1 G 29 16 [.ref 0] [.ref 14] (ev_hp I J R T) cz kz = G 29 19 [.ref 0] [.int (I 14 2)] (ev_hp I J R T) cz kz := by
  intro G
  rfl
set_option maxRecDepth 100000 in
theorem ze_r29 {a0 : Int32} : ∀ G : ez_F, fx_up X 1 G 29 19 [.ref 0] [.int a0] (ev_hp I J R T) cz kz = some (some (.int a0), (ev_hp I J R T), cz, kz) := by
  intro G
  rfl
theorem le_16 
    (H : Q (some (.int (I 14 2))) (ev_hp I J R T)) : pw (N + 1) X 29 16 [.ref 0] [.ref 14] (ev_hp I J R T) Q := by
  refine pw_seg (by decide) (fun _ _ => ze_r28) ?_
  exact pw_p (pw_ret (by decide) (fun _ _ => ze_r29) H)
set_option maxRecDepth 100000 in
theorem ze_r30 {a0 : Int32} {a1 : Int32} : ∀ G : ez_F, fx_up X 1 G 54 11 [.ref 0, .int a0] [.int a1] (ev_hp I J R T) cz kz = bif decide (a1 = (0 : Int32)) then G 54 17 [.ref 0, .int a0] [] (ev_hp I J R T) cz kz else G 54 14 [.ref 0, .int a0] [] (ev_hp I J R T) cz kz := by
  intro G
  rfl
set_option maxRecDepth 100000 in
theorem ze_r31 {a0 : Int32} : ∀ G : ez_F, fx_up X 3 G 54 17 [.ref 0, .int a0] [] (ev_hp I J R T) cz kz = ev_C G 112 [.ref 13] (ev_hp I J R T) fun r h1 c1 k1 => G 54 24 [.ref 0, .int a0] (r.toList ++ []) h1 (cz + c1) (kz + k1) := by
  intro G
  rfl
set_option maxRecDepth 100000 in
theorem ze_r32 {a0 : Int32} : ∀ G : ez_F, fx_up X 2 G 54 14 [.ref 0, .int a0] [] (ev_hp I J R T) cz kz = some (some (.int (-6 : Int32)), (ev_hp I J R T), cz, kz) := by
  intro G
  rfl
theorem wh_11 {v x : Int32}
    (H : ((v = (0 : Int32) → (∃ Q1 : pw_Q, pe N X 112 [.ref 13] (ev_hp I J R T) Q1 ∧ ∀ (r : Option Value) (h1 : ez_H), Q1 r h1 → pw N X 54 24 [.ref 0, .int x] (r.toList ++ []) h1 Q)) ∧ (¬ (v = (0 : Int32)) → Q (some (.int (-6 : Int32))) (ev_hp I J R T)))) : pw (N + 1) X 54 11 [.ref 0, .int x] [.int v] (ev_hp I J R T) Q := by
  refine pw_if (by decide) (fun _ _ => ze_r30) (fun w1 => ?_) (fun w1 => ?_)
  · have h1 := H.1 w1
    obtain ⟨Q1, hc, hk⟩ := h1
    exact pw_p (pw_call (by decide) (fun _ _ => ze_r31) hc hk)
  · have h1 := H.2 w1
    exact pw_p (pw_ret (by decide) (fun _ _ => ze_r32) h1)
set_option maxRecDepth 100000 in
theorem ze_r33 {a0 : Int32} : ∀ G : ez_F, fx_up X 4 G 54 24 [.ref 0, .int a0] [] (ev_hp I J R T) cz kz = ev_C G 110 [.ref 13, .int a0] (ev_hp I J R T) fun r h1 c1 k1 => G 54 32 [.ref 0, .int a0] (r.toList ++ []) h1 (cz + c1) (kz + k1) := by
  intro G
  rfl
theorem wh_24 {x : Int32}
    (H : (∃ Q1 : pw_Q, pe N X 110 [.ref 13, .int x] (ev_hp I J R T) Q1 ∧ ∀ (r : Option Value) (h1 : ez_H), Q1 r h1 → pw N X 54 32 [.ref 0, .int x] (r.toList ++ []) h1 Q)) : pw (N + 1) X 54 24 [.ref 0, .int x] [] (ev_hp I J R T) Q := by
  obtain ⟨Q1, hc, hk⟩ := H
  exact pw_call (by decide) (fun _ _ => ze_r33) hc hk
set_option maxRecDepth 100000 in
theorem ze_r34 {a0 : Int32} {a1 : Int32} : ∀ G : ez_F, fx_up X 1 G 54 32 [.ref 0, .int a0] [.int a1] (ev_hp I J R T) cz kz = some (some (.int a1), (ev_hp I J R T), cz, kz) := by
  intro G
  rfl
theorem wh_32 {v x : Int32}
    (H : Q (some (.int v)) (ev_hp I J R T)) : pw (N + 1) X 54 32 [.ref 0, .int x] [.int v] (ev_hp I J R T) Q := by
  exact pw_ret (by decide) (fun _ _ => ze_r34) H
set_option maxRecDepth 100000 in
theorem ze_r35 {a0 : Int32} {a1 : Int32} : ∀ G : ez_F, fx_up X 1 G 51 15 [.ref 0, .int a0] [.int a1] (ev_hp I J R T) cz kz = bif decide (a1 = (0 : Int32)) then G 51 23 [.ref 0, .int a0] [] (ev_hp I J R T) cz kz else G 51 18 [.ref 0, .int a0] [] (ev_hp I J R T) cz kz := by
  intro G
  rfl
set_option maxRecDepth 100000 in
theorem ze_r36 {a0 : Int32} : ∀ G : ez_F, fx_up X 2 G 51 23 [.ref 0, .int a0] [] (ev_hp I J R T) cz kz = ev_C G 30 [.ref 0] (ev_hp I J R T) fun r h1 c1 k1 => G 51 27 [.ref 0, .int a0] (r.toList ++ []) h1 (cz + c1) (kz + k1) := by
  intro G
  rfl
set_option maxRecDepth 100000 in
theorem ze_r37 {a0 : Int32} : ∀ G : ez_F, fx_up X 3 G 51 18 [.ref 0, .int a0] [] (ev_hp I J R T) cz kz = some (some (.int (-6 : Int32)), (ev_hp I J R T), cz, kz) := by
  intro G
  rfl
theorem th_15 {v x : Int32}
    (H : ((v = (0 : Int32) → (∃ Q1 : pw_Q, pe N X 30 [.ref 0] (ev_hp I J R T) Q1 ∧ ∀ (r : Option Value) (h1 : ez_H), Q1 r h1 → pw N X 51 27 [.ref 0, .int x] (r.toList ++ []) h1 Q)) ∧ (¬ (v = (0 : Int32)) → Q (some (.int (-6 : Int32))) (ev_hp I J R T)))) : pw (N + 1) X 51 15 [.ref 0, .int x] [.int v] (ev_hp I J R T) Q := by
  refine pw_if (by decide) (fun _ _ => ze_r35) (fun w1 => ?_) (fun w1 => ?_)
  · have h1 := H.1 w1
    obtain ⟨Q1, hc, hk⟩ := h1
    exact pw_p (pw_call (by decide) (fun _ _ => ze_r36) hc hk)
  · have h1 := H.2 w1
    exact pw_p (pw_ret (by decide) (fun _ _ => ze_r37) h1)
set_option maxRecDepth 100000 in
theorem ze_r38 {a0 : Int32} : ∀ G : ez_F, fx_up X 2 G 51 27 [.ref 0, .int a0] [.ref 14] (ev_hp I J R T) cz kz = ev_C G 163 [.ref 14, .int a0] (ev_hp I J R T) fun r h1 c1 k1 => G 51 31 [.ref 0, .int a0] (r.toList ++ []) h1 (cz + c1) (kz + k1) := by
  intro G
  rfl
set_option maxRecDepth 100000 in
theorem ze_r39 {a0 : Int32} {a1 : Int32} : ∀ G : ez_F, fx_up X 1 G 51 31 [.ref 0, .int a0] [.int a1] (ev_hp I J R T) cz kz = some (some (.int a1), (ev_hp I J R T), cz, kz) := by
  intro G
  rfl
theorem th_27 {x : Int32}
    (H : Q (some (.int (ev_at 36 (I 15) x))) (ev_hp I J R T)) : pw (N + 1) X 51 27 [.ref 0, .int x] [.ref 14] (ev_hp I J R T) Q := by
  refine pw_callp (by decide) (fun _ _ => ze_r38) (pe_shipsAt) ?_
  exact pw_p (pw_ret (by decide) (fun _ _ => ze_r39) H)
set_option maxRecDepth 100000 in
theorem ze_r40 {a0 : Int32} {a1 : Int32} : ∀ G : ez_F, fx_up X 1 G 48 17 [.ref 0, .int a0] [.int a1] (ev_hp I J R T) cz kz = bif decide (a1 = (0 : Int32)) then G 48 24 [.ref 0, .int a0] [] (ev_hp I J R T) cz kz else G 48 20 [.ref 0, .int a0] [] (ev_hp I J R T) cz kz := by
  intro G
  rfl
set_option maxRecDepth 100000 in
theorem ze_r41 {a0 : Int32} : ∀ G : ez_F, fx_up X 2 G 48 24 [.ref 0, .int a0] [] (ev_hp I J R T) cz kz = ev_C G 30 [.ref 0] (ev_hp I J R T) fun r h1 c1 k1 => G 48 28 [.ref 0, .int a0] (r.toList ++ []) h1 (cz + c1) (kz + k1) := by
  intro G
  rfl
set_option maxRecDepth 100000 in
theorem ze_r42 {a0 : Int32} : ∀ G : ez_F, fx_up X 2 G 48 20 [.ref 0, .int a0] [] (ev_hp I J R T) cz kz = some (some (.long (18446744073709551610 : Int64)), (ev_hp I J R T), cz, kz) := by
  intro G
  rfl
theorem su_17 {v x : Int32}
    (H : ((v = (0 : Int32) → (∃ Q1 : pw_Q, pe N X 30 [.ref 0] (ev_hp I J R T) Q1 ∧ ∀ (r : Option Value) (h1 : ez_H), Q1 r h1 → pw N X 48 28 [.ref 0, .int x] (r.toList ++ []) h1 Q)) ∧ (¬ (v = (0 : Int32)) → Q (some (.long (18446744073709551610 : Int64))) (ev_hp I J R T)))) : pw (N + 1) X 48 17 [.ref 0, .int x] [.int v] (ev_hp I J R T) Q := by
  refine pw_if (by decide) (fun _ _ => ze_r40) (fun w1 => ?_) (fun w1 => ?_)
  · have h1 := H.1 w1
    obtain ⟨Q1, hc, hk⟩ := h1
    exact pw_p (pw_call (by decide) (fun _ _ => ze_r41) hc hk)
  · have h1 := H.2 w1
    exact pw_p (pw_ret (by decide) (fun _ _ => ze_r42) h1)
set_option maxRecDepth 100000 in
theorem ze_r43 {a0 : Int32} : ∀ G : ez_F, fx_up X 4 G 48 28 [.ref 0, .int a0] [.ref 14] (ev_hp I J R T) cz kz = bif decide (¬ a0 = (0 : Int32)) then G 48 41 [.ref 0, .int a0, .ref 14] [.ref 14] (ev_hp I J R T) cz kz else G 48 34 [.ref 0, .int a0, .ref 14] [.ref 14] (ev_hp I J R T) cz kz := by
  intro G
  rfl
set_option maxRecDepth 100000 in
theorem ze_r44 {a0 : Int32} : ∀ G : ez_F, fx_up X 4 G 48 41 [.ref 0, .int a0, .ref 14] [.ref 14] (ev_hp I J R T) cz kz = G 48 49 [.ref 0, .int a0, .ref 14] [.int (I 1 6), .int (0 : Int32), .ref 14] (ev_hp I J R T) cz kz := by
  intro G
  rfl
set_option maxRecDepth 100000 in
theorem ze_r45 {a0 : Int32} {a1 : Int32} {a2 : Int32} : ∀ G : ez_F, fx_up X 1 G 48 49 [.ref 0, .int a0, .ref 14] [.int a1, .int a2, .ref 14] (ev_hp I J R T) cz kz = ev_C G 158 [.ref 14, .int a2, .int a1] (ev_hp I J R T) fun r h1 c1 k1 => G 48 52 [.ref 0, .int a0, .ref 14] (r.toList ++ []) h1 (cz + c1) (kz + k1) := by
  intro G
  rfl
set_option maxRecDepth 100000 in
theorem ze_r46 {a0 : Int32} : ∀ G : ez_F, fx_up X 2 G 48 34 [.ref 0, .int a0, .ref 14] [.ref 14] (ev_hp I J R T) cz kz = G 48 38 [.ref 0, .int a0, .ref 14] [.int (I 14 2), .ref 14] (ev_hp I J R T) cz kz := by
  intro G
  rfl
set_option maxRecDepth 100000 in
theorem ze_r47 {a0 : Int32} {a1 : Int32} : ∀ G : ez_F, fx_up X 4 G 48 38 [.ref 0, .int a0, .ref 14] [.int a1, .ref 14] (ev_hp I J R T) cz kz = G 48 49 [.ref 0, .int a0, .ref 14] [.int (I 1 6), .int a1, .ref 14] (ev_hp I J R T) cz kz := by
  intro G
  rfl
theorem su_28 {x : Int32}
    (H : ((¬ x = (0 : Int32) → (∃ Q1 : pw_Q, pe N X 158 [.ref 14, .int (0 : Int32), .int (I 1 6)] (ev_hp I J R T) Q1 ∧ ∀ (r : Option Value) (h1 : ez_H), Q1 r h1 → pw N X 48 52 [.ref 0, .int x, .ref 14] (r.toList ++ []) h1 Q)) ∧ (¬ (¬ x = (0 : Int32)) → (∃ Q1 : pw_Q, pe N X 158 [.ref 14, .int (I 14 2), .int (I 1 6)] (ev_hp I J R T) Q1 ∧ ∀ (r : Option Value) (h1 : ez_H), Q1 r h1 → pw N X 48 52 [.ref 0, .int x, .ref 14] (r.toList ++ []) h1 Q)))) : pw (N + 1) X 48 28 [.ref 0, .int x] [.ref 14] (ev_hp I J R T) Q := by
  refine pw_if (by decide) (fun _ _ => ze_r43) (fun w1 => ?_) (fun w1 => ?_)
  · have h1 := H.1 w1
    refine pw_p (pw_seg (by decide) (fun _ _ => ze_r44) ?_)
    obtain ⟨Q1, hc, hk⟩ := h1
    exact pw_p (pw_call (by decide) (fun _ _ => ze_r45) hc hk)
  · have h1 := H.2 w1
    refine pw_p (pw_seg (by decide) (fun _ _ => ze_r46) ?_)
    refine pw_p (pw_seg (by decide) (fun _ _ => ze_r47) ?_)
    obtain ⟨Q1, hc, hk⟩ := h1
    exact pw_p (pw_call (by decide) (fun _ _ => ze_r45) hc hk)
set_option maxRecDepth 100000 in
theorem ze_r48 {a0 : Int32} {a1 : Int64} : ∀ G : ez_F, fx_up X 1 G 48 52 [.ref 0, .int a0, .ref 14] [.long a1] (ev_hp I J R T) cz kz = some (some (.long a1), (ev_hp I J R T), cz, kz) := by
  intro G
  rfl
theorem su_52 {x : Int32} {z : Int64}
    (H : Q (some (.long z)) (ev_hp I J R T)) : pw (N + 1) X 48 52 [.ref 0, .int x, .ref 14] [.long z] (ev_hp I J R T) Q := by
  exact pw_ret (by decide) (fun _ _ => ze_r48) H
set_option maxRecDepth 100000 in
theorem ze_r49 {a0 : Int32} {a1 : Int32} {a2 : Int32} : ∀ G : ez_F, fx_up X 1 G 37 27 [.ref 0, .int a0, .int a1] [.int a2] (ev_hp I J R T) cz kz = bif decide (a2 = (0 : Int32)) then G 37 35 [.ref 0, .int a0, .int a1] [] (ev_hp I J R T) cz kz else G 37 30 [.ref 0, .int a0, .int a1] [] (ev_hp I J R T) cz kz := by
  intro G
  rfl
set_option maxRecDepth 100000 in
theorem ze_r50 {a0 : Int32} {a1 : Int32} : ∀ G : ez_F, fx_up X 2 G 37 35 [.ref 0, .int a0, .int a1] [] (ev_hp I J R T) cz kz = ev_C G 30 [.ref 0] (ev_hp I J R T) fun r h1 c1 k1 => G 37 39 [.ref 0, .int a0, .int a1] (r.toList ++ []) h1 (cz + c1) (kz + k1) := by
  intro G
  rfl
set_option maxRecDepth 100000 in
theorem ze_r51 {a0 : Int32} {a1 : Int32} : ∀ G : ez_F, fx_up X 3 G 37 30 [.ref 0, .int a0, .int a1] [] (ev_hp I J R T) cz kz = some (some (.int (-6 : Int32)), (ev_hp I J R T), cz, kz) := by
  intro G
  rfl
theorem pa_27 {v x y : Int32}
    (H : ((v = (0 : Int32) → (∃ Q1 : pw_Q, pe N X 30 [.ref 0] (ev_hp I J R T) Q1 ∧ ∀ (r : Option Value) (h1 : ez_H), Q1 r h1 → pw N X 37 39 [.ref 0, .int x, .int y] (r.toList ++ []) h1 Q)) ∧ (¬ (v = (0 : Int32)) → Q (some (.int (-6 : Int32))) (ev_hp I J R T)))) : pw (N + 1) X 37 27 [.ref 0, .int x, .int y] [.int v] (ev_hp I J R T) Q := by
  refine pw_if (by decide) (fun _ _ => ze_r49) (fun w1 => ?_) (fun w1 => ?_)
  · have h1 := H.1 w1
    obtain ⟨Q1, hc, hk⟩ := h1
    exact pw_p (pw_call (by decide) (fun _ _ => ze_r50) hc hk)
  · have h1 := H.2 w1
    exact pw_p (pw_ret (by decide) (fun _ _ => ze_r51) h1)
set_option maxRecDepth 100000 in
theorem ze_r52 {a0 : Int32} {a1 : Int32} : ∀ G : ez_F, fx_up X 3 G 37 39 [.ref 0, .int a0, .int a1] [.ref 14] (ev_hp I J R T) cz kz = ev_C G 162 [.ref 14, .int a0, .int a1] (ev_hp I J R T) fun r h1 c1 k1 => G 37 44 [.ref 0, .int a0, .int a1] (r.toList ++ []) h1 (cz + c1) (kz + k1) := by
  intro G
  rfl
set_option maxRecDepth 100000 in
theorem ze_r53 {a0 : Int32} {a1 : Int32} {a2 : Int32} : ∀ G : ez_F, fx_up X 1 G 37 44 [.ref 0, .int a0, .int a1] [.int a2] (ev_hp I J R T) cz kz = some (some (.int a2), (ev_hp I J R T), cz, kz) := by
  intro G
  rfl
theorem pa_39 {x y : Int32}
    (H : Q (some (.int (ipF (I 14) (I 15) (I 16) x y))) (ev_hp I J R T)) : pw (N + 1) X 37 39 [.ref 0, .int x, .int y] [.ref 14] (ev_hp I J R T) Q := by
  refine pw_callp (by decide) (fun _ _ => ze_r52) (pe_inPart) ?_
  exact pw_p (pw_ret (by decide) (fun _ _ => ze_r53) H)
set_option maxRecDepth 100000 in
theorem ze_r54 {a0 : Int32} {a1 : Int32} : ∀ G : ez_F, fx_up X 1 G 6 16 [.ref 0, .int a0] [.int a1] (ev_hp I J R T) cz kz = bif decide (a1 = (0 : Int32)) then G 6 22 [.ref 0, .int a0] [] (ev_hp I J R T) cz kz else G 6 19 [.ref 0, .int a0] [] (ev_hp I J R T) cz kz := by
  intro G
  rfl
set_option maxRecDepth 100000 in
theorem ze_r55 {a0 : Int32} : ∀ G : ez_F, fx_up X 2 G 6 22 [.ref 0, .int a0] [] (ev_hp I J R T) cz kz = ev_C G 30 [.ref 0] (ev_hp I J R T) fun r h1 c1 k1 => G 6 26 [.ref 0, .int a0] (r.toList ++ []) h1 (cz + c1) (kz + k1) := by
  intro G
  rfl
set_option maxRecDepth 100000 in
theorem ze_r56 {a0 : Int32} : ∀ G : ez_F, fx_up X 2 G 6 19 [.ref 0, .int a0] [] (ev_hp I J R T) cz kz = some (some (.int (-6 : Int32)), (ev_hp I J R T), cz, kz) := by
  intro G
  rfl
theorem bs_16 {v x : Int32}
    (H : ((v = (0 : Int32) → (∃ Q1 : pw_Q, pe N X 30 [.ref 0] (ev_hp I J R T) Q1 ∧ ∀ (r : Option Value) (h1 : ez_H), Q1 r h1 → pw N X 6 26 [.ref 0, .int x] (r.toList ++ []) h1 Q)) ∧ (¬ (v = (0 : Int32)) → Q (some (.int (-6 : Int32))) (ev_hp I J R T)))) : pw (N + 1) X 6 16 [.ref 0, .int x] [.int v] (ev_hp I J R T) Q := by
  refine pw_if (by decide) (fun _ _ => ze_r54) (fun w1 => ?_) (fun w1 => ?_)
  · have h1 := H.1 w1
    obtain ⟨Q1, hc, hk⟩ := h1
    exact pw_p (pw_call (by decide) (fun _ _ => ze_r55) hc hk)
  · have h1 := H.2 w1
    exact pw_p (pw_ret (by decide) (fun _ _ => ze_r56) h1)
set_option maxRecDepth 100000 in
theorem ze_r57 {a0 : Int32} : ∀ G : ez_F, fx_up X 3 G 6 26 [.ref 0, .int a0] [.ref 14] (ev_hp I J R T) cz kz = G 6 31 [.ref 0, .int a0, .ref 14] [.int (I 14 2)] (ev_hp I J R T) cz kz := by
  intro G
  rfl
set_option maxRecDepth 100000 in
theorem ze_r58 {a0 : Int32} {a1 : Int32} : ∀ G : ez_F, fx_up X 1 G 6 31 [.ref 0, .int a0, .ref 14] [.int a1] (ev_hp I J R T) cz kz = bif decide (¬ a1 = (0 : Int32)) then G 6 36 [.ref 0, .int a0, .ref 14] [] (ev_hp I J R T) cz kz else G 6 34 [.ref 0, .int a0, .ref 14] [] (ev_hp I J R T) cz kz := by
  intro G
  rfl
set_option maxRecDepth 100000 in
theorem ze_r59 {a0 : Int32} : ∀ G : ez_F, fx_up X 4 G 6 36 [.ref 0, .int a0, .ref 14] [] (ev_hp I J R T) cz kz = G 6 44 [.ref 0, .int a0, .ref 14] [.int (I 1 6), .ref 14] (ev_hp I J R T) cz kz := by
  intro G
  rfl
set_option maxRecDepth 100000 in
theorem ze_r60 {a0 : Int32} {a1 : Int32} : ∀ G : ez_F, fx_up X 1 G 6 44 [.ref 0, .int a0, .ref 14] [.int a1, .ref 14] (ev_hp I J R T) cz kz = ev_C G 157 [.ref 14, .int a1] (ev_hp I J R T) fun r h1 c1 k1 => G 6 47 [.ref 0, .int a0, .ref 14] (r.toList ++ []) h1 (cz + c1) (kz + k1) := by
  intro G
  rfl
set_option maxRecDepth 100000 in
theorem ze_r61 {a0 : Int32} : ∀ G : ez_F, fx_up X 2 G 6 34 [.ref 0, .int a0, .ref 14] [] (ev_hp I J R T) cz kz = some (some (.int (-1 : Int32)), (ev_hp I J R T), cz, kz) := by
  intro G
  rfl
theorem bs_26 {x : Int32}
    (H : ((¬ (I 14 2) = (0 : Int32) → (∃ Q1 : pw_Q, pe N X 157 [.ref 14, .int (I 1 6)] (ev_hp I J R T) Q1 ∧ ∀ (r : Option Value) (h1 : ez_H), Q1 r h1 → pw N X 6 47 [.ref 0, .int x, .ref 14] (r.toList ++ []) h1 Q)) ∧ (¬ (¬ (I 14 2) = (0 : Int32)) → Q (some (.int (-1 : Int32))) (ev_hp I J R T)))) : pw (N + 1) X 6 26 [.ref 0, .int x] [.ref 14] (ev_hp I J R T) Q := by
  refine pw_seg (by decide) (fun _ _ => ze_r57) ?_
  refine pw_p (pw_if (by decide) (fun _ _ => ze_r58) (fun w1 => ?_) (fun w1 => ?_))
  · have h1 := H.1 w1
    refine pw_p (pw_seg (by decide) (fun _ _ => ze_r59) ?_)
    obtain ⟨Q1, hc, hk⟩ := h1
    exact pw_p (pw_call (by decide) (fun _ _ => ze_r60) hc hk)
  · have h1 := H.2 w1
    exact pw_p (pw_ret (by decide) (fun _ _ => ze_r61) h1)
set_option maxRecDepth 100000 in
theorem ze_r62 {a0 : Int32} {a1 : Int32} : ∀ G : ez_F, fx_up X 3 G 6 47 [.ref 0, .int a0, .ref 14] [.int a1] (ev_hp I J R T) cz kz = bif decide (¬ a0 = (0 : Int32)) then G 6 56 [.ref 0, .int a0, .ref 14, .int a1] [] (ev_hp I J R T) cz kz else G 6 52 [.ref 0, .int a0, .ref 14, .int a1] [] (ev_hp I J R T) cz kz := by
  intro G
  rfl
set_option maxRecDepth 100000 in
theorem ze_r63 {a0 : Int32} {a1 : Int32} : ∀ G : ez_F, fx_up X 3 G 6 56 [.ref 0, .int a0, .ref 14, .int a1] [] (ev_hp I J R T) cz kz = ev_C G 161 [.ref 14, .int a1] (ev_hp I J R T) fun r h1 c1 k1 => G 6 61 [.ref 0, .int a0, .ref 14, .int a1] (r.toList ++ []) h1 (cz + c1) (kz + k1) := by
  intro G
  rfl
set_option maxRecDepth 100000 in
theorem ze_r64 {a0 : Int32} {a1 : Int32} {a2 : Int32} : ∀ G : ez_F, fx_up X 1 G 6 61 [.ref 0, .int a0, .ref 14, .int a1] [.int a2] (ev_hp I J R T) cz kz = some (some (.int a2), (ev_hp I J R T), cz, kz) := by
  intro G
  rfl
set_option maxRecDepth 100000 in
theorem ze_r65 {a0 : Int32} {a1 : Int32} : ∀ G : ez_F, fx_up X 3 G 6 52 [.ref 0, .int a0, .ref 14, .int a1] [] (ev_hp I J R T) cz kz = some (some (.int a1), (ev_hp I J R T), cz, kz) := by
  intro G
  rfl
theorem bs_47 {v x : Int32}
    (H : ((¬ x = (0 : Int32) → Q (some (.int (gtF (I 14) (I 15) (I 16) v))) (ev_hp I J R T)) ∧ (¬ (¬ x = (0 : Int32)) → Q (some (.int v)) (ev_hp I J R T)))) : pw (N + 1) X 6 47 [.ref 0, .int x, .ref 14] [.int v] (ev_hp I J R T) Q := by
  refine pw_if (by decide) (fun _ _ => ze_r62) (fun w1 => ?_) (fun w1 => ?_)
  · have h1 := H.1 w1
    refine pw_p (pw_callp (by decide) (fun _ _ => ze_r63) (pe_greatest) ?_)
    exact pw_p (pw_ret (by decide) (fun _ _ => ze_r64) h1)
  · have h1 := H.2 w1
    exact pw_p (pw_ret (by decide) (fun _ _ => ze_r65) h1)
end
/-! the tally in numbers -/
noncomputable def lkf (I : Nat → Nat → Int32) (J : Nat → Nat → Int64) (k : Nat) : Bool := lfB I J (xz I J ((ls I J).getD k (0, 0, 0)) (nca I))
noncomputable def tN (I : Nat → Nat → Int32) (J : Nat → Nat → Int64) : Nat := cq (lkf I J) (ls I J).length
noncomputable def tS (I : Nat → Nat → Int32) (J : Nat → Nat → Int64) (c : Nat) : Nat := cq (fun k => lkf I J k && kb (xp I J ((ls I J).getD k (0, 0, 0)) (nca I)) c) (ls I J).length
noncomputable def tK (I : Nat → Nat → Int32) (J : Nat → Nat → Int64) (c : Nat) : Nat := cq (fun k => lkf I J k && kb (xs I J ((ls I J).getD k (0, 0, 0)) (nca I)) c) (ls I J).length
noncomputable def ipN (I : Nat → Nat → Int32) (J : Nat → Nat → Int64) (c : Nat) (v : Int32) : Int32 := if v = 0 then Int32.ofNat (tN I J) - Int32.ofNat (tS I J c) else if v = 1 then Int32.ofNat (tS I J c) - Int32.ofNat (tK I J c) else Int32.ofNat (tK I J c)
noncomputable def gtN (I : Nat → Nat → Int32) (J : Nat → Nat → Int64) (c : Nat) : Int32 := imx (ipN I J c 0) (imx (ipN I J c 1) (ipN I J c 2))
noncomputable def wF (p : Nat → Bool) (i : Nat) : Nat → Int32
  | 0 => -1
  | n + 1 => if wF p i n = -1 then (if p n = true ∧ cq p n = i then Int32.ofNat n else -1) else wF p i n
noncomputable def scF (p : Nat → Bool) : Nat → Int64
  | 0 => 0
  | c + 1 => if p c = true then scF p c ||| cell1 c else scF p c
noncomputable def bF (G : Nat → Int32) : Nat → Nat
  | 0 => 0
  | c + 1 => if G c < G (bF G c) then c else bF G c
theorem tal_at {I A : Nat → Nat → Int32} {J : Nat → Nat → Int64} (h : tal I J (ls I J) (nca I) A) : A 14 2 = Int32.ofNat (tN I J) ∧ ∀ c, c < 36 → A 15 c = Int32.ofNat (tS I J c) ∧ A 16 c = Int32.ofNat (tK I J c) := h
theorem ip_at {I A : Nat → Nat → Int32} {J : Nat → Nat → Int64} (h : tal I J (ls I J) (nca I) A) {c : Nat} (hc : c < 36) (v : Int32) : ipF (A 14) (A 15) (A 16) (Int32.ofNat c) v = ipN I J c v := by
  obtain ⟨h1, h2⟩ := tal_at h
  unfold ipF ipN
  rw [at_in hc (by decide), at_in hc (by decide), h1, (h2 c hc).1, (h2 c hc).2]
theorem gt_at {I A : Nat → Nat → Int32} {J : Nat → Nat → Int64} (h : tal I J (ls I J) (nca I) A) {c : Nat} (hc : c < 36) : gtF (A 14) (A 15) (A 16) (Int32.ofNat c) = gtN I J c := by
  unfold gtF gtN
  rw [ip_at h hc, ip_at h hc, ip_at h hc]
theorem bF_lt (G : Nat → Int32) : ∀ n, 0 < n → bF G n < n := by
  intro n
  induction n with
  | zero => intro h; omega
  | succ n ih =>
    intro _
    unfold bF
    split
    · omega
    · by_cases h : n = 0
      · subst h
        exact Nat.zero_lt_one
      · have := ih (by omega)
        omega
section
variable {N : Nat} {X : ez_X} {I : Nat → Nat → Int32} {J : Nat → Nat → Int64} {R : Nat → Nat} {T : List ez_C} {x y : Int32} {z : Int64} {h0 : ez_H}
/-- behind a replay -/
noncomputable def rq_Q (I : Nat → Nat → Int32) (J : Nat → Nat → Int64) (L : List ly_t) (nc : Nat) (A : Nat → Nat → Int32) (B : Nat → Nat → Int64) (R' : Nat → Nat) (T' : List ez_C) : Prop := (∀ a, a ≠ 6 → a ≠ 13 → a ≠ 14 → a ≠ 15 → a ≠ 16 → A a = I a) ∧ A 6 3 = Int32.ofNat L.length ∧ A 13 8 = 1 ∧ (∀ a, a ≠ 11 → a ≠ 12 → B a = J a) ∧ (∃ n f, rowT (R' 0) T' n f ∧ L.length ≤ n ∧ n ≤ 10000 ∧ ly_row f L) ∧ rd3 R' ∧ lgr I J R' T' L nc
theorem rq_b4 {A : Nat → Nat → Int32} {B : Nat → Nat → Int64} {R' : Nat → Nat} {T' : List ez_C} {L : List ly_t} {nc : Nat} (h : rq_Q I J L nc A B R' T') : bk A B = bk I J := by
  obtain ⟨h1, -, -, h2, -⟩ := h
  unfold bk
  rw [h1 8 (by decide) (by decide) (by decide) (by decide) (by decide), h1 3 (by decide) (by decide) (by decide) (by decide) (by decide), h1 5 (by decide) (by decide) (by decide) (by decide) (by decide), h1 2 (by decide) (by decide) (by decide) (by decide) (by decide), h1 1 (by decide) (by decide) (by decide) (by decide) (by decide), h1 33 (by decide) (by decide) (by decide) (by decide) (by decide), h2 4 (by decide) (by decide), h2 9 (by decide) (by decide), h2 1 (by decide) (by decide), h2 8 (by decide) (by decide)]
/-- relation 4 there -/
theorem rq_d4 {A : Nat → Nat → Int32} {B : Nat → Nat → Int64} {R' : Nat → Nat} {T' : List ez_C} (h : rq_Q I J (ls I J) (nca I) A B R' T') (ht : A 13 9 = 1 → tal I J (ls I J) (nca I) A) : d4 A B R' T' := by
  obtain ⟨e1, e2, e3, e4⟩ := b4_bk (rq_b4 h)
  obtain ⟨l1, l2, -⟩ := b4_use e1
  refine ⟨h.2.2.2.2.2.1, fun _ => ?_, fun z => ?_⟩
  · rw [l1, l2]
    exact lgr_b e1 ⟨rfl, rfl, rfl⟩ (fun _ _ _ _ q => q) h.2.2.2.2.2.2
  · rw [l1, l2]
    exact tal_b e1 e2 e3 e4 rfl rfl rfl (ht z)
theorem b_13 (hB : cx_hB cx_B0 I) : (I 13 8 = 0 ∨ I 13 8 = 1) ∧ (I 13 9 = 0 ∨ I 13 9 = 1) := by
  have h8 := hB 13 8
  have h9 := hB 13 9
  rw [show cx_B0 13 8 = (0, 1) from rfl] at h8
  rw [show cx_B0 13 9 = (0, 1) from rfl] at h9
  exact ⟨cx_01 h8.1 h8.2, cx_01 h9.1 h9.2⟩
/-- all layings are played, behind tooMany -/
theorem pe_rep (h : rl3 I J R T) (hd : d4 I J R T) (hh : cx_hok cx_B0 I R T) (hs : se_Q I J R T (ls I J) h0) (N : Nat) : pe N X 112 [.ref 13] h0 (fun r h => r = none ∧ ∃ A B R' T', h = ev_hp A B R' T' ∧ rq_Q I J (ls I J) (nca I) A B R' T' ∧ A 13 9 = I 13 9 ∧ A 14 = I 14 ∧ A 15 = I 15 ∧ A 16 = I 16) := by
  have hr := h.1.1
  obtain ⟨k0, ek, hk30, -⟩ := c3_of h.2
  have enc : nca I = k0 := by
    unfold nca
    rw [ek, io_ti (by omega)]
    exact Int.toNat_natCast k0
  obtain ⟨f6, R6, T6, rfl, f64, ⟨g2, n0, f, g3, g4, g5, g6⟩, k1, k2, k3, k4⟩ := hs
  obtain ⟨m0, fm, r0, -⟩ := rows_0 hh.2
  obtain ⟨-, n0', n1, n4, a0, a1, a2, a3, a4, -, b1, -⟩ := hh.2
  have mv : ∀ p n g, rowJ p T n g → rowJ p T6 n g := fun p n g hp => by
    rcases hp with hp | ⟨h1, h2⟩
    · exact Or.inl hp
    · have hne := row_ne r0 (Or.inr ⟨h1, h2⟩ : rowJ p T n g)
      exact Or.inr ⟨h1, by rw [k4 (p - 65) (List.getElem?_eq_some_iff.mp h2).1 (by omega)]; exact h2⟩
  obtain ⟨j1, q1⟩ := rowJ_of a1
  obtain ⟨j2, q2⟩ := rowJ_of a2
  obtain ⟨j3, q3⟩ := rowJ_of a3
  have e1 : R6 1 = R 1 := k1 1 (by decide)
  have e2 : R6 2 = R 2 := k1 2 (by decide)
  have e3 : R6 3 = R 3 := k1 3 (by decide)
  have eb : bk (ev_sI I 6 f6) J = bk I J := by
    unfold bk
    rw [cx_sI_n _ _ (show (8 : Nat) ≠ 6 by decide), cx_sI_n _ _ (show (3 : Nat) ≠ 6 by decide), cx_sI_n _ _ (show (5 : Nat) ≠ 6 by decide), cx_sI_n _ _ (show (2 : Nat) ≠ 6 by decide), cx_sI_n _ _ (show (1 : Nat) ≠ 6 by decide), cx_sI_n _ _ (show (33 : Nat) ≠ 6 by decide)]
  have b4e := (b4_bk eb).1
  have c3 : ev_sI I 6 f6 3 = I 3 := cx_sI_n _ _ (by decide)
  have c8 : ev_sI I 6 f6 8 = I 8 := cx_sI_n _ _ (by decide)
  have c13 : ev_sI I 6 f6 13 = I 13 := cx_sI_n _ _ (by decide)
  have hd6 : rd3 R6 := by
    unfold rd3
    rw [e1, e2, e3]
    exact hd.1
  refine pe_mono (pe_replay (L := ls I J) (nc := k0) (f := f) (n0 := n0) (m := n1) (g1 := j1) (g2 := j2) (g3' := j3) g2 g3 g4 g5 g6 (by rw [c3]; exact (b_sh hh.1).1) (fun t ht => ls_512 hr hh.1 ht) (fun t ht s hs => ?_) (by rw [c8]; exact ek) hk30 (by rw [c13]; exact (b_13 hh.1).1) (fun z => ?_) b1 (by rw [e1]; exact mv _ _ _ q1) (by rw [e2]; exact mv _ _ _ q2) (by rw [e3]; exact mv _ _ _ q3) hd6) ?_
  · rw [c3] at hs
    have := ly_in hr hh.1 ht hs
    have := (fi_n hr hs).2.1
    omega
  · rw [c13] at z
    have h5 := hd.2.1 z
    rw [enc] at h5
    exact lgr_b b4e ⟨e1, e2, e3⟩ (fun p n g _ hp => mv p n g hp) h5
  · rintro r h' ⟨rfl, B, R', T', rfl, w1, w2, w3, w4, w5, w6⟩
    have dn : ∀ a, a ≠ 6 → a ≠ 13 → ev_sI (ev_sI I 6 f6) 13 (upd (ev_sI I 6 f6 13) 8 1) a = I a := fun a h1 h2 => by rw [cx_sI_n _ _ h2, cx_sI_n _ _ h1]
    refine ⟨rfl, _, B, R', T', rfl, ⟨fun a h1 h2 _ _ _ => dn a h1 h2, ?_, ?_, w1, ⟨n0, f, by rw [w2]; exact w4, g4, g5, g6⟩, w5, ?_⟩, ?_, dn 14 (by decide) (by decide), dn 15 (by decide) (by decide), dn 16 (by decide) (by decide)⟩
    · rw [cx_sI_n _ _ (by decide)]
      exact g2
    · rw [cx_sI_s, upd_s]
    · rw [enc]
      exact lgr_b (b4e.symm) ⟨rfl, rfl, rfl⟩ (fun _ _ _ _ q => q) w6
    · rw [cx_sI_s, upd_n _ _ (by decide), c13]
theorem on1_sub {z : Int64} {i : Nat} (h : kb z i = false) : kb (on1 z) i = false := by
  unfold on1
  split
  · exact h
  · exact kb_0 i
/-- places and cells that would sink a ship lie on the paper -/
theorem xps_on (h : rl3 I J R T) (hB : cx_hB cx_B0 I) {t : ly_t} (ht : t ∈ ls I J) (n : Nat) : onp 36 (xp I J t n) ∧ onp 36 (xs I J t n) := by
  obtain ⟨W, HH, k0, hg, ek, -⟩ := gk_of h hB
  have hg0 := hg
  obtain ⟨e0, e1, hW, hH, -⟩ := hg
  have hpk := (pk_q (sr := I 2 1) (tg := J 9) (gk_mv hg0) (pk_ls h.1.1 hB ht e0 e1 hW hH) n).2.1
  have h36 : W * HH ≤ 6 * 6 := Nat.mul_le_mul hW.2 hH.2
  have ho : ∀ s, s < 3 → onp 36 ((xq I J t n).1 s) := fun s hs i hi => hpk s hs i (by omega)
  constructor
  · intro i hi
    show kb (((xq I J t n).1 0 ||| (xq I J t n).1 1) ||| (xq I J t n).1 2) i = false
    rw [kb_or, kb_or, ho 0 (by decide) i hi, ho 1 (by decide) i hi, ho 2 (by decide) i hi]
    rfl
  · intro i hi
    have ha : ∀ s, s < 3 → kb (on1 ((xq I J t n).1 s &&& ((xq I J t n).2 s ^^^ (18446744073709551615 : Int64)))) i = false := fun s hs => on1_sub (by rw [kb_and, ho s hs i hi, Bool.false_and])
    unfold xs
    split
    · unfold skF
      rw [kb_or, kb_or, kb_or, ha 0 (by decide), ha 1 (by decide), ha 2 (by decide), kb_0]
      rfl
    · exact kb_0 i
/-- and those that are left are counted -/
theorem pe_lt (h : rl3 I J R T) (hd : d4 I J R T) (hh : cx_hok cx_B0 I R T) (hs : se_Q I J R T (ls I J) h0) (N : Nat) : pe N X 30 [.ref 0] h0 (fun r h => r = some (.ref 14) ∧ ∃ A B R' T', h = ev_hp A B R' T' ∧ rq_Q I J (ls I J) (nca I) A B R' T' ∧ tal I J (ls I J) (nca I) A) := by
  have hs' := hs
  obtain ⟨f6, R6, T6, e, -⟩ := hs'
  have hrep := pe_rep (X := X) h hd hh hs N
  subst e
  refine pe_of (pw_p (lz_0 ⟨_, hrep, ?_⟩))
  rintro r h' ⟨rfl, A, B, R', T', rfl, hq, q9, q14, q15, q16⟩
  have hq0 := hq
  have hbk := rq_b4 hq0
  obtain ⟨a1, a2, a3, a4, a5, a6, n, g1, g2, g3, r1, r2, r3, r4, r5, r6⟩ := hq
  have eA2 : A 2 = I 2 := a1 2 (by decide) (by decide) (by decide) (by decide) (by decide)
  have hlf : ∀ z, lfB A B z = lfB I J z := fun z => by
    unfold lfB
    rw [eA2, a4 8 (by decide) (by decide)]
  refine pw_p (lz_7 ⟨_, pe_countLeft (g1 := g1) (g2 := g2) (g3 := g3) a2 r4 r5 r1 r2 r3 (by rw [eA2]; exact b_lie hh.1) (fun k hk => ?_) (by rw [q9]; exact (b_13 hh.1).2), ?_⟩)
  · obtain ⟨-, h2, h3⟩ := r6 k hk
    rw [h2, h3]
    exact xps_on h hh.1 (List.getElem_mem hk) _
  rintro r h' ⟨rfl, A2, rfl, w1, w2, w3⟩
  have hq2 : rq_Q I J (ls I J) (nca I) A2 B R' T' := by
    refine ⟨fun a h1 h2 h3 h4 h5 => (w1 a h2 h3 h4 h5).trans (a1 a h1 h2 h3 h4 h5), ?_, ?_, a4, a5, a6, n, g1, g2, g3, r1, r2, r3, r4, r5, r6⟩
    · rw [w1 6 (by decide) (by decide) (by decide) (by decide)]
      exact a2
    · rw [w2, upd_n _ _ (by decide)]
      exact a3
  refine pw_p (lz_14 ⟨rfl, A2, B, R', T', rfl, hq2, ?_⟩)
  rcases w3 with ⟨-, t1, t2⟩ | ⟨e9, rfl⟩
  · have eg : ∀ k, k < (ls I J).length → g1 k = xz I J ((ls I J).getD k (0, 0, 0)) (nca I) ∧ g2 k = xp I J ((ls I J).getD k (0, 0, 0)) (nca I) ∧ g3 k = xs I J ((ls I J).getD k (0, 0, 0)) (nca I) := fun k hk => by
      rw [ly_gd hk]
      exact r6 k hk
    refine ⟨?_, fun c hc => ⟨?_, ?_⟩⟩
    · exact t1.trans (congrArg Int32.ofNat (cq_c _ fun k hk => by rw [hlf, (eg k hk).1]))
    · exact (t2 c hc).1.trans (congrArg Int32.ofNat (cq_c _ fun k hk => by rw [hlf, (eg k hk).1, (eg k hk).2.1]))
    · exact (t2 c hc).2.trans (congrArg Int32.ofNat (cq_c _ fun k hk => by rw [hlf, (eg k hk).1, (eg k hk).2.2]))
  · rw [q9] at e9
    exact tal_b rfl rfl rfl rfl (by rw [q14]) q15 q16 (hd.2.2 e9)
/-- what a call leaves -/
noncomputable def F4 (h : ez_H) : Prop := ∃ A B R' T', h = ev_hp A B R' T' ∧ d4 A B R' T'
theorem F4_tm (hd : d4 I J R T) : F4 (ev_hp I J R T) := ⟨I, J, R, T, rfl, hd⟩
theorem F4_rq {A : Nat → Nat → Int32} {B : Nat → Nat → Int64} {R' : Nat → Nat} {T' : List ez_C} (h : rq_Q I J (ls I J) (nca I) A B R' T') (ht : tal I J (ls I J) (nca I) A) : F4 (ev_hp A B R' T') := ⟨A, B, R', T', rfl, rq_d4 h fun _ => ht⟩
noncomputable def v_left (I : Nat → Nat → Int32) (J : Nat → Nat → Int64) : Int32 := if sn I 0 * (sn I 1 * sn I 2) ≤ 10000 then Int32.ofNat (tN I J) else -6
theorem pe_xleft (h : rl3 I J R T) (hd : d4 I J R T) (hh : cx_hok cx_B0 I R T) : pe N X 29 [.ref 0] (ev_hp I J R T) (fun r h => r = some (.int (v_left I J)) ∧ F4 h) := by
  refine pe_of (pw_p (xo_left ⟨_, pe_tm h.1.1 hh h.1.2, ?_⟩))
  rintro r h' (⟨h1, rfl, rfl⟩ | ⟨h1, rfl, h2⟩)
  · refine pw_p (le_4 ⟨fun z => absurd z (by decide), fun _ => ⟨?_, F4_tm hd⟩⟩)
    unfold v_left
    rw [if_neg (by omega)]
  · have hl := fun N => pe_lt (X := X) h hd hh h2 N
    obtain ⟨f6, R6, T6, rfl, -⟩ := h2
    refine pw_p (le_4 ⟨fun _ => ⟨_, hl _, ?_⟩, fun z => absurd rfl z⟩)
    rintro r h' ⟨rfl, A, B, R', T', rfl, hq, ht⟩
    refine pw_p (le_16 ⟨?_, F4_rq hq ht⟩)
    unfold v_left
    rw [if_pos h1, (tal_at ht).1]
theorem wF_no {p : Nat → Bool} {i : Nat} : ∀ n, (∀ k, k < n → p k = true → cq p k ≠ i) → wF p i n = -1 := by
  intro n
  induction n with
  | zero => intro _; rfl
  | succ n ih =>
    intro h
    unfold wF
    rw [ih fun k hk => h k (by omega), if_pos rfl, if_neg fun z => h n (Nat.lt_succ_self n) z.1 z.2]
theorem wF_hit {p : Nat → Bool} {i k : Nat} (hk : p k = true) (hc : cq p k = i) (hno : ∀ j, j < k → p j = true → cq p j ≠ i) (hb : k < 2147483648) : ∀ d, wF p i (k + 1 + d) = Int32.ofNat k := by
  have hne : ¬ Int32.ofNat k = -1 := by
    intro z
    have z2 := congrArg Int32.toInt z
    rw [io_ti hb, show ((-1 : Int32)).toInt = -1 from by decide] at z2
    omega
  intro d
  induction d with
  | zero =>
    show wF p i (k + 1) = _
    unfold wF
    rw [wF_no k hno, if_pos rfl, if_pos ⟨hk, hc⟩]
  | succ d ih =>
    show (if wF p i (k + 1 + d) = -1 then _ else wF p i (k + 1 + d)) = _
    rw [ih, if_neg hne]
/-- the number of one that is left -/
theorem pe_numberOfLeft {g : Nat → Int64} {n l i : Nat} (r1 : rowJ (R 1) T n g) (hl : l ≤ n) (hn : n ≤ 10000) (hb : 0 ≤ (I 2 2).toInt ∧ (I 2 2).toInt ≤ 2) (e63 : I 6 3 = Int32.ofNat l) (hx : x = Int32.ofNat i) (hi : i < 2147483648) : pe N X 110 [.ref 13, .int x] (ev_hp I J R T) (fun r h => r = some (.int (wF (fun k => lfB I J (g k)) i l)) ∧ h = ev_hp I J R T) := by
  subst hx
  have loop : ∀ (d k : Nat), k + d = l → (∀ j, j < k → lfB I J (g j) = true → cq (fun k => lfB I J (g k)) j ≠ i) → ∀ N, pw N X 110 4 [.ref 13, .int (Int32.ofNat i), .int (Int32.ofNat (cq (fun k => lfB I J (g k)) k)), .int (Int32.ofNat k)] [] (ev_hp I J R T) (fun r h => r = some (.int (wF (fun k => lfB I J (g k)) i l)) ∧ h = ev_hp I J R T) := by
    intro d
    induction d with
    | zero =>
      intro k hk hno N
      obtain rfl : k = l := by omega
      refine pw_p (nf_4 ⟨fun _ => ⟨by rw [wF_no k hno], rfl⟩, fun g => ?_⟩)
      rw [e63] at g
      exact absurd (Int32.le_refl _) g
    | succ d ih =>
      intro k hkd hno N
      have hk : k < l := by omega
      have ez : cq (fun k => lfB I J (g k)) (k + 1) = cq (fun k => lfB I J (g k)) k + (bif lfB I J (g k) then 1 else 0) := rfl
      have hle := cq_le (fun k => lfB I J (g k)) k
      refine pw_p (nf_4 ⟨fun g => ?_, fun _ => ⟨_, pe_isLeft r1 hn (by omega) hb rfl, ?_⟩⟩)
      · rw [e63, io_le (by omega) (by omega)] at g
        omega
      · rintro r h ⟨rfl, rfl⟩
        refine pw_p (nf_20 ⟨fun g2 => ?_, fun g2 => ⟨fun g3 => ?_, fun g3 => ?_⟩⟩)
        · have hf : lfB I J (g k) = false := by
            cases hz : lfB I J (g k)
            · rfl
            · rw [hz] at g2
              exact absurd g2 (by decide)
          have h5 := ih (k + 1) (by omega) (fun j hj hp => by
            by_cases hjk : j = k
            · rw [hjk, hf] at hp
              cases hp
            · exact hno j (by omega) hp) N
          rw [ez, hf] at h5
          rw [io_1]
          exact h5
        all_goals
          have hf : lfB I J (g k) = true := by
            cases hz : lfB I J (g k)
            · rw [hz] at g2
              exact absurd rfl g2
            · rfl
        · have h5 := ih (k + 1) (by omega) (fun j hj hp => by
            by_cases hjk : j = k
            · rw [hjk]
              intro z
              exact g3 (by rw [z])
            · exact hno j (by omega) hp) N
          rw [ez, hf] at h5
          rw [io_1, io_1]
          exact h5
        · have g3 := Classical.not_not.mp g3
          rw [io_eq (by omega) hi] at g3
          have h6 := wF_hit (p := fun k => lfB I J (g k)) hf g3 hno (by omega) (l - (k + 1))
          rw [show k + 1 + (l - (k + 1)) = l by omega] at h6
          exact ⟨by rw [h6], rfl⟩
  exact pe_of (pw_p (nf_0 (loop l 0 (by omega) (fun j hj => absurd hj (by omega)) _)))
theorem wF_c {p q : Nat → Bool} {i : Nat} : ∀ n, (∀ k, k < n → p k = q k) → wF p i n = wF q i n := by
  intro n
  induction n with
  | zero => intro _; rfl
  | succ n ih =>
    intro h
    unfold wF
    rw [ih fun k hk => h k (by omega), h n (Nat.lt_succ_self n), cq_c n fun k hk => h k (by omega)]
noncomputable def v_which (I : Nat → Nat → Int32) (J : Nat → Nat → Int64) (x : Int32) : Int32 := if 0 ≤ x then (if sn I 0 * (sn I 1 * sn I 2) ≤ 10000 then wF (lkf I J) x.toInt.toNat (ls I J).length else -6) else -3
theorem pe_xwhich (h : rl3 I J R T) (hd : d4 I J R T) (hh : cx_hok cx_B0 I R T) : pe N X 54 [.ref 0, .int x] (ev_hp I J R T) (fun r h => r = some (.int (v_which I J x)) ∧ F4 h) := by
  refine pe_of (pw_p (xo_which ⟨fun hx => ⟨_, pe_tm h.1.1 hh h.1.2, ?_⟩, fun hx => ⟨?_, F4_tm hd⟩⟩))
  · rintro r h' (⟨h1, rfl, rfl⟩ | ⟨h1, rfl, h2⟩)
    · refine pw_p (wh_11 ⟨fun z => absurd z (by decide), fun _ => ⟨?_, F4_tm hd⟩⟩)
      unfold v_which
      rw [if_pos hx, if_neg (by omega)]
    · have hl := fun N => pe_rep (X := X) h hd hh h2 N
      obtain ⟨f6, R6, T6, rfl, -⟩ := h2
      refine pw_p (wh_11 ⟨fun _ => ⟨_, hl _, ?_⟩, fun z => absurd rfl z⟩)
      rintro r h' ⟨rfl, A, B, R', T', rfl, hq, q9, q14, q15, q16⟩
      have hq0 := hq
      obtain ⟨a1, a2, a3, a4, a5, a6, n, g1, g2, g3, r1, r2, r3, r4, r5, r6⟩ := hq
      have eA2 : A 2 = I 2 := a1 2 (by decide) (by decide) (by decide) (by decide) (by decide)
      have hlf : ∀ z, lfB A B z = lfB I J z := fun z => by
        unfold lfB
        rw [eA2, a4 8 (by decide) (by decide)]
      have hx0 : 0 ≤ x.toInt := by
        rw [Int32.le_iff_toInt_le, show (0 : Int32).toInt = 0 from by decide] at hx
        exact hx
      have hxl := Int32.toInt_lt x
      refine pw_p (wh_24 ⟨_, pe_numberOfLeft r1 r4 r5 (by rw [eA2]; exact b_lie hh.1) a2 (io_nat hx0) (by omega), ?_⟩)
      rintro r h' ⟨rfl, rfl⟩
      refine pw_p (wh_32 ⟨?_, A, B, R', T', rfl, rq_d4 hq0 fun z => ?_⟩)
      · unfold v_which
        rw [if_pos hx, if_pos h1]
        exact congrArg (fun q => some (Value.int q)) (wF_c _ fun k hk => by
          unfold lkf
          rw [hlf, ly_gd hk, (r6 k hk).1])
      · exact tal_b rfl rfl rfl rfl (by rw [q14]) q15 q16 (hd.2.2 (q9.symm.trans z))
  · unfold v_which
    rw [if_neg hx]
/-- there -/
noncomputable def v_there (I : Nat → Nat → Int32) (J : Nat → Nat → Int64) (x : Int32) : Int32 := if ev_wi x 0 (I 1 6 - 1) = 0 then -2 else if sn I 0 * (sn I 1 * sn I 2) ≤ 10000 then Int32.ofNat (tS I J x.toInt.toNat) else -6
theorem b_16 (hB : cx_hB cx_B0 I) : ∃ n, I 1 6 = Int32.ofNat n ∧ 4 ≤ n ∧ n ≤ 36 := by
  have h := hB 1 6
  rw [show cx_B0 1 6 = (4, 36) from rfl] at h
  simp only at h
  exact ⟨(I 1 6).toInt.toNat, io_nat (by omega), by omega, by omega⟩
theorem pe_xthere (h : rl3 I J R T) (hd : d4 I J R T) (hh : cx_hok cx_B0 I R T) : pe N X 51 [.ref 0, .int x] (ev_hp I J R T) (fun r h => r = some (.int (v_there I J x)) ∧ F4 h) := by
  obtain ⟨n, en, -, hn⟩ := b_16 hh.1
  refine pe_of (pw_p (xo_there ⟨fun hx => ⟨_, pe_tm h.1.1 hh h.1.2, ?_⟩, fun hx => ⟨?_, F4_tm hd⟩⟩))
  · rintro r h' (⟨h1, rfl, rfl⟩ | ⟨h1, rfl, h2⟩)
    · refine pw_p (th_15 ⟨fun z => absurd z (by decide), fun _ => ⟨?_, F4_tm hd⟩⟩)
      unfold v_there
      rw [if_neg hx, if_neg (by omega)]
    · have hl := fun N => pe_lt (X := X) h hd hh h2 N
      obtain ⟨f6, R6, T6, rfl, -⟩ := h2
      refine pw_p (th_15 ⟨fun _ => ⟨_, hl _, ?_⟩, fun z => absurd rfl z⟩)
      rintro r h' ⟨rfl, A, B, R', T', rfl, hq, ht⟩
      refine pw_p (th_27 ⟨?_, F4_rq hq ht⟩)
      have hx2 := hx
      rw [en] at hx2
      obtain ⟨c, rfl, hc⟩ := wi_len (by omega) hx2
      unfold v_there
      rw [if_neg hx, if_pos h1, at_in (by omega) (by decide), ((tal_at ht).2 c (by omega)).1, io_ti (by omega), Int.toNat_natCast]
  · unfold v_there
    rw [if_pos (Classical.not_not.mp hx)]
noncomputable def v_part (I : Nat → Nat → Int32) (J : Nat → Nat → Int64) (x y : Int32) : Int32 := if ev_wi x 0 (I 1 6 - 1) = 0 then -2 else if ev_wi y 0 2 = 0 then -3 else if sn I 0 * (sn I 1 * sn I 2) ≤ 10000 then ipN I J x.toInt.toNat y else -6
theorem pe_xpart (h : rl3 I J R T) (hd : d4 I J R T) (hh : cx_hok cx_B0 I R T) : pe N X 37 [.ref 0, .int x, .int y] (ev_hp I J R T) (fun r h => r = some (.int (v_part I J x y)) ∧ F4 h) := by
  obtain ⟨n, en, -, hn⟩ := b_16 hh.1
  refine pe_of (pw_p (xo_part ⟨fun hx => ⟨fun hy => ⟨_, pe_tm h.1.1 hh h.1.2, ?_⟩, fun hy => ⟨?_, F4_tm hd⟩⟩, fun hx => ⟨?_, F4_tm hd⟩⟩))
  · rintro r h' (⟨h1, rfl, rfl⟩ | ⟨h1, rfl, h2⟩)
    · refine pw_p (pa_27 ⟨fun z => absurd z (by decide), fun _ => ⟨?_, F4_tm hd⟩⟩)
      unfold v_part
      rw [if_neg hx, if_neg hy, if_neg (by omega)]
    · have hl := fun N => pe_lt (X := X) h hd hh h2 N
      obtain ⟨f6, R6, T6, rfl, -⟩ := h2
      refine pw_p (pa_27 ⟨fun _ => ⟨_, hl _, ?_⟩, fun z => absurd rfl z⟩)
      rintro r h' ⟨rfl, A, B, R', T', rfl, hq, ht⟩
      refine pw_p (pa_39 ⟨?_, F4_rq hq ht⟩)
      have hx2 := hx
      rw [en] at hx2
      obtain ⟨c, rfl, hc⟩ := wi_len (by omega) hx2
      unfold v_part
      rw [if_neg hx, if_neg hy, if_pos h1, ip_at ht (by omega), io_ti (by omega), Int.toNat_natCast]
  · unfold v_part
    rw [if_neg hx, if_pos (Classical.not_not.mp hy)]
  · unfold v_part
    rw [if_pos (Classical.not_not.mp hx)]
theorem pe_cellsWith {m : Nat} (hm : m ≤ 36) (hx : y = Int32.ofNat m) : pe N X 158 [.ref 14, .int x, .int y] (ev_hp I J R T) (fun r h => r = some (.long (scF (fun c => decide (I 15 c = x)) m)) ∧ h = ev_hp I J R T) := by
  subst hx
  have loop : ∀ (d c : Nat), c + d = m → ∀ N, pw N X 158 5 [.ref 14, .int x, .int (Int32.ofNat m), .long (scF (fun c => decide (I 15 c = x)) c), ez_fill, .int (Int32.ofNat c)] [] (ev_hp I J R T) (fun r h => r = some (.long (scF (fun c => decide (I 15 c = x)) m)) ∧ h = ev_hp I J R T) := by
    intro d
    induction d with
    | zero =>
      intro c hc N
      obtain rfl : c = m := by omega
      exact pw_p (cw0_5 ⟨fun _ => ⟨rfl, rfl⟩, fun g => absurd (Int32.le_refl _) g⟩)
    | succ d ih =>
      intro c hcd N
      have e : scF (fun c => decide (I 15 c = x)) (c + 1) = if decide (I 15 c = x) = true then scF (fun c => decide (I 15 c = x)) c ||| cell1 c else scF (fun c => decide (I 15 c = x)) c := rfl
      have h5 := ih (c + 1) (by omega) N
      rw [e] at h5
      refine pw_p (cw0_5 ?_)
      rw [at_in (by omega) (by decide), io_1]
      refine ⟨fun g => ?_, fun _ => ⟨fun g => ?_, fun g => ?_⟩⟩
      · rw [io_le (by omega) (by omega)] at g
        omega
      · rw [if_neg (by rw [decide_eq_false g]; decide)] at h5
        exact h5
      · rw [if_pos (decide_eq_true (Classical.not_not.mp g))] at h5
        exact h5
  exact pe_of (pw_p (cw0_0 (loop m 0 (by omega) _)))
theorem scF_c {p q : Nat → Bool} : ∀ n, (∀ k, k < n → p k = q k) → scF p n = scF q n := by
  intro n
  induction n with
  | zero => intro _; rfl
  | succ n ih =>
    intro h
    unfold scF
    rw [ih fun k hk => h k (by omega), h n (Nat.lt_succ_self n)]
noncomputable def v_sure (I : Nat → Nat → Int32) (J : Nat → Nat → Int64) (x : Int32) : Int64 := if ev_wi x 0 1 = 0 then 18446744073709551613 else if sn I 0 * (sn I 1 * sn I 2) ≤ 10000 then scF (fun c => decide (Int32.ofNat (tS I J c) = if x = 0 then Int32.ofNat (tN I J) else 0)) (I 1 6).toInt.toNat else 18446744073709551610
theorem pe_xsure (h : rl3 I J R T) (hd : d4 I J R T) (hh : cx_hok cx_B0 I R T) : pe N X 48 [.ref 0, .int x] (ev_hp I J R T) (fun r h => r = some (.long (v_sure I J x)) ∧ F4 h) := by
  obtain ⟨n, en, -, hn⟩ := b_16 hh.1
  refine pe_of (pw_p (xo_sure ⟨fun hx => ⟨_, pe_tm h.1.1 hh h.1.2, ?_⟩, fun hx => ⟨?_, F4_tm hd⟩⟩))
  · rintro r h' (⟨h1, rfl, rfl⟩ | ⟨h1, rfl, h2⟩)
    · refine pw_p (su_17 ⟨fun z => absurd z (by decide), fun _ => ⟨?_, F4_tm hd⟩⟩)
      unfold v_sure
      rw [if_neg hx, if_neg (by omega)]
    · have hl := fun N => pe_lt (X := X) h hd hh h2 N
      obtain ⟨f6, R6, T6, rfl, -⟩ := h2
      refine pw_p (su_17 ⟨fun _ => ⟨_, hl _, ?_⟩, fun z => absurd rfl z⟩)
      rintro r h' ⟨rfl, A, B, R', T', rfl, hq, ht⟩
      have e16 : A 1 6 = Int32.ofNat n := by rw [hq.1 1 (by decide) (by decide) (by decide) (by decide) (by decide)]; exact en
      have fin : ∀ v, v = (if x = 0 then Int32.ofNat (tN I J) else 0) → (some (.long (scF (fun c => decide (A 15 c = v)) n)) : Option Value) = some (.long (v_sure I J x)) := by
        rintro v rfl
        unfold v_sure
        rw [if_neg hx, if_pos h1, en, io_ti (by omega), Int.toNat_natCast]
        exact congrArg (fun q => some (Value.long q)) (scF_c n fun c hc => by rw [((tal_at ht).2 c (by omega)).1])
      refine pw_p (su_28 ⟨fun g => ⟨_, pe_cellsWith hn e16, ?_⟩, fun g => ⟨_, pe_cellsWith hn e16, ?_⟩⟩)
      · rintro r h' ⟨rfl, rfl⟩
        exact pw_p (su_52 ⟨fin _ (if_neg g).symm, F4_rq hq ht⟩)
      · rintro r h' ⟨rfl, rfl⟩
        exact pw_p (su_52 ⟨fin _ ((tal_at ht).1.trans (if_pos (Classical.not_not.mp g)).symm), F4_rq hq ht⟩)
  · unfold v_sure
    rw [if_pos (Classical.not_not.mp hx)]
theorem pe_bestCell {A : Nat → Nat → Int32} (ht : tal I J (ls I J) (nca I) A) {B : Nat → Nat → Int64} {m : Nat} (h0 : 0 < m) (hm : m ≤ 36) (hx : y = Int32.ofNat m) : pe N X 157 [.ref 14, .int y] (ev_hp A B R T) (fun r h => r = some (.int (Int32.ofNat (bF (gtN I J) m))) ∧ h = ev_hp A B R T) := by
  subst hx
  have loop : ∀ (d c : Nat), c + d = m → 0 < c → ∀ N, pw N X 157 4 [.ref 14, .int (Int32.ofNat m), .int (Int32.ofNat (bF (gtN I J) c)), .int (Int32.ofNat c)] [] (ev_hp A B R T) (fun r h => r = some (.int (Int32.ofNat (bF (gtN I J) m))) ∧ h = ev_hp A B R T) := by
    intro d
    induction d with
    | zero =>
      intro c hc _ N
      obtain rfl : c = m := by omega
      exact pw_p (be_4 ⟨fun _ => ⟨rfl, rfl⟩, fun g => absurd (Int32.le_refl _) g⟩)
    | succ d ih =>
      intro c hcd hc0 N
      have hb := bF_lt (gtN I J) c hc0
      have e : bF (gtN I J) (c + 1) = if gtN I J c < gtN I J (bF (gtN I J) c) then c else bF (gtN I J) c := rfl
      have h5 := ih (c + 1) (by omega) (by omega) N
      rw [e] at h5
      refine pw_p (be_4 ?_)
      rw [gt_at ht (by omega), gt_at ht (by omega), io_1]
      refine ⟨fun g => ?_, fun _ => ⟨fun g => ?_, fun g => ?_⟩⟩
      · rw [io_le (by omega) (by omega)] at g
        omega
      · rw [if_neg (fun z => by
          rw [Int32.le_iff_toInt_le] at g
          rw [Int32.lt_iff_toInt_lt] at z
          omega)] at h5
        exact h5
      · rw [if_pos (by
          rw [Int32.le_iff_toInt_le] at g
          rw [Int32.lt_iff_toInt_lt]
          omega)] at h5
        exact h5
  refine pe_of (pw_p (be_0 ?_))
  have e1 : bF (gtN I J) 1 = 0 := by
    show (if gtN I J 0 < gtN I J 0 then 0 else 0) = 0
    split <;> rfl
  have h5 := loop (m - 1) 1 (by omega) (by omega) N
  rw [e1] at h5
  exact h5
noncomputable def v_best (I : Nat → Nat → Int32) (J : Nat → Nat → Int64) (x : Int32) : Int32 := if ev_wi x 0 1 = 0 then -3 else if sn I 0 * (sn I 1 * sn I 2) ≤ 10000 then (if Int32.ofNat (tN I J) = 0 then -1 else if x = 0 then Int32.ofNat (bF (gtN I J) (I 1 6).toInt.toNat) else gtN I J (bF (gtN I J) (I 1 6).toInt.toNat)) else -6
theorem pe_xbest (h : rl3 I J R T) (hd : d4 I J R T) (hh : cx_hok cx_B0 I R T) : pe N X 6 [.ref 0, .int x] (ev_hp I J R T) (fun r h => r = some (.int (v_best I J x)) ∧ F4 h) := by
  obtain ⟨n, en, hn4, hn⟩ := b_16 hh.1
  refine pe_of (pw_p (xo_best ⟨fun hx => ⟨_, pe_tm h.1.1 hh h.1.2, ?_⟩, fun hx => ⟨?_, F4_tm hd⟩⟩))
  · rintro r h' (⟨h1, rfl, rfl⟩ | ⟨h1, rfl, h2⟩)
    · refine pw_p (bs_16 ⟨fun z => absurd z (by decide), fun _ => ⟨?_, F4_tm hd⟩⟩)
      unfold v_best
      rw [if_neg hx, if_neg (by omega)]
    · have hl := fun N => pe_lt (X := X) h hd hh h2 N
      obtain ⟨f6, R6, T6, rfl, -⟩ := h2
      refine pw_p (bs_16 ⟨fun _ => ⟨_, hl _, ?_⟩, fun z => absurd rfl z⟩)
      rintro r h' ⟨rfl, A, B, R', T', rfl, hq, ht⟩
      have e16 : A 1 6 = Int32.ofNat n := by rw [hq.1 1 (by decide) (by decide) (by decide) (by decide) (by decide)]; exact en
      have hb := bF_lt (gtN I J) n (by omega)
      refine pw_p (bs_26 ?_)
      rw [(tal_at ht).1]
      refine ⟨fun g => ⟨_, pe_bestCell ht (by omega) hn e16, ?_⟩, fun g => ⟨?_, F4_rq hq ht⟩⟩
      · rintro r h' ⟨rfl, rfl⟩
        refine pw_p (bs_47 ?_)
        rw [gt_at ht (by omega)]
        refine ⟨fun g2 => ⟨?_, F4_rq hq ht⟩, fun g2 => ⟨?_, F4_rq hq ht⟩⟩
        · unfold v_best
          rw [if_neg hx, if_pos h1, if_neg g, if_neg g2, en, io_ti (by omega), Int.toNat_natCast]
        · unfold v_best
          rw [if_neg hx, if_pos h1, if_neg g, if_pos (Classical.not_not.mp g2), en, io_ti (by omega), Int.toNat_natCast]
      · unfold v_best
        rw [if_neg hx, if_pos h1, if_pos (Classical.not_not.mp g)]
  · unfold v_best
    rw [if_pos (Classical.not_not.mp hx)]
end
end
section
/-! The reference: the layings that are left. -/
section
variable {N : Nat} {X : ez_X} {I : Nat → Nat → Int32} {J : Nat → Nat → Int64} {R : Nat → Nat} {T : List ez_C} {Q : pw_Q} {cz kz : Nat}
set_option maxRecDepth 100000 in
theorem fl_r0  : ∀ G : ez_F, fx_up X 4 G 233 0 [.ref 35] [] (ev_hp I J R T) cz kz = G 233 4 [.ref 35, .int (0 : Int32), .int (0 : Int32)] [] (ev_hp I J R T) cz kz := by
  intro G
  rfl
theorem wv_0 
    (H : pw N X 233 4 [.ref 35, .int (0 : Int32), .int (0 : Int32)] [] (ev_hp I J R T) Q) : pw (N + 1) X 233 0 [.ref 35] [] (ev_hp I J R T) Q := by
  refine pw_seg (by decide) (fun _ _ => fl_r0) ?_
  exact H
set_option maxRecDepth 100000 in
theorem fl_r1 {a0 : Int32} {a1 : Int32} : ∀ G : ez_F, fx_up X 3 G 233 4 [.ref 35, .int a0, .int a1] [] (ev_hp I J R T) cz kz = G 233 9 [.ref 35, .int a0, .int a1] [.int (I 35 16), .int a1] (ev_hp I J R T) cz kz := by
  intro G
  rfl
set_option maxRecDepth 100000 in
theorem fl_r2 {a0 : Int32} {a1 : Int32} {a2 : Int32} {a3 : Int32} : ∀ G : ez_F, fx_up X 1 G 233 9 [.ref 35, .int a0, .int a1] [.int a2, .int a3] (ev_hp I J R T) cz kz = bif decide (a2 ≤ a3) then G 233 51 [.ref 35, .int a0, .int a1] [] (ev_hp I J R T) cz kz else G 233 12 [.ref 35, .int a0, .int a1] [] (ev_hp I J R T) cz kz := by
  intro G
  rfl
set_option maxRecDepth 100000 in
theorem fl_r3 {a0 : Int32} {a1 : Int32} : ∀ G : ez_F, fx_up X 2 G 233 51 [.ref 35, .int a0, .int a1] [] (ev_hp I J R T) cz kz = some (some (.int a0), (ev_hp I J R T), cz, kz) := by
  intro G
  rfl
set_option maxRecDepth 100000 in
theorem fl_r4 {a0 : Int32} {a1 : Int32} : ∀ G : ez_F, fx_up X 4 G 233 12 [.ref 35, .int a0, .int a1] [] (ev_hp I J R T) cz kz = G 233 18 [.ref 35, .int a0, .int a1] [.int a1, .ref 44, .int a0] (ev_hp I J R T) cz kz := by
  intro G
  rfl
set_option maxRecDepth 100000 in
theorem fl_r5 {a0 : Int32} {a1 : Int32} {a2 : Int32} {a3 : Int32} : ∀ G : ez_F, fx_up X 2 G 233 19 [.ref 35, .int a0, .int a1] [.int a2, .int a3] (ev_hp I J R T) cz kz = bif decide (a2 = (-1 : Int32)) then G 233 42 [.ref 35, .int a0, .int a1] [.int a3] (ev_hp I J R T) cz kz else G 233 23 [.ref 35, .int a0, .int a1] [.int a3] (ev_hp I J R T) cz kz := by
  intro G
  rfl
set_option maxRecDepth 100000 in
theorem fl_r6 {a0 : Int32} {a1 : Int32} {a2 : Int32} : ∀ G : ez_F, fx_up X 5 G 233 42 [.ref 35, .int a0, .int a1] [.int a2] (ev_hp I J R T) cz kz = G 233 4 [.ref 35, .int (a2 + (0 : Int32)), .int (a1 + (1 : Int32))] [] (ev_hp I J R T) cz kz := by
  intro G
  rfl
set_option maxRecDepth 100000 in
theorem fl_r7 {a0 : Int32} {a1 : Int32} {a2 : Int32} : ∀ G : ez_F, fx_up X 3 G 233 23 [.ref 35, .int a0, .int a1] [.int a2] (ev_hp I J R T) cz kz = G 233 28 [.ref 35, .int a0, .int a1] [.int a1, .ref 44, .int a2] (ev_hp I J R T) cz kz := by
  intro G
  rfl
set_option maxRecDepth 100000 in
theorem fl_r8 {a0 : Int32} {a1 : Int32} {a2 : Int32} {a3 : Int32} : ∀ G : ez_F, fx_up X 3 G 233 29 [.ref 35, .int a0, .int a1] [.int a2, .int a3] (ev_hp I J R T) cz kz = G 233 34 [.ref 35, .int a0, .int a1] [.int a1, .ref 48, .int a2, .int a3] (ev_hp I J R T) cz kz := by
  intro G
  rfl
set_option maxRecDepth 100000 in
theorem fl_r9 {a0 : Int32} {a1 : Int32} {a2 : Int32} {a3 : Int32} {a4 : Int32} : ∀ G : ez_F, fx_up X 1 G 233 35 [.ref 35, .int a0, .int a1] [.int a2, .int a3, .int a4] (ev_hp I J R T) cz kz = bif decide (a3 = a2) then G 233 42 [.ref 35, .int a0, .int a1] [.int a4] (ev_hp I J R T) cz kz else G 233 38 [.ref 35, .int a0, .int a1] [.int a4] (ev_hp I J R T) cz kz := by
  intro G
  rfl
set_option maxRecDepth 100000 in
theorem fl_r10 {a0 : Int32} {a1 : Int32} {a2 : Int32} : ∀ G : ez_F, fx_up X 6 G 233 38 [.ref 35, .int a0, .int a1] [.int a2] (ev_hp I J R T) cz kz = G 233 4 [.ref 35, .int (a2 + (1 : Int32)), .int (a1 + (1 : Int32))] [] (ev_hp I J R T) cz kz := by
  intro G
  rfl
theorem wv_4 {m c : Int32}
    (H : (((I 35 16) ≤ c → Q (some (.int m)) (ev_hp I J R T)) ∧ (¬ ((I 35 16) ≤ c) → (ev_ix c 30 → (((I 44 c.toNatClampNeg) = (-1 : Int32) → pw N X 233 4 [.ref 35, .int (m + (0 : Int32)), .int (c + (1 : Int32))] [] (ev_hp I J R T) Q) ∧ (¬ ((I 44 c.toNatClampNeg) = (-1 : Int32)) → (ev_ix c 30 → (ev_ix c 31 → (((I 44 c.toNatClampNeg) = (I 48 c.toNatClampNeg) → pw N X 233 4 [.ref 35, .int (m + (0 : Int32)), .int (c + (1 : Int32))] [] (ev_hp I J R T) Q) ∧ (¬ ((I 44 c.toNatClampNeg) = (I 48 c.toNatClampNeg)) → pw N X 233 4 [.ref 35, .int (m + (1 : Int32)), .int (c + (1 : Int32))] [] (ev_hp I J R T) Q)))))))))) : pw (N + 1) X 233 4 [.ref 35, .int m, .int c] [] (ev_hp I J R T) Q := by
  refine pw_seg (by decide) (fun _ _ => fl_r1) ?_
  refine pw_p (pw_if (by decide) (fun _ _ => fl_r2) (fun w1 => ?_) (fun w1 => ?_))
  · have h1 := H.1 w1
    exact pw_p (pw_ret (by decide) (fun _ _ => fl_r3) h1)
  · have h1 := H.2 w1
    refine pw_p (pw_seg (by decide) (fun _ _ => fl_r4) ?_)
    refine pw_p (pw_iald (by rfl) (cx_getI (show cx_Ds[44]? = some (0, 30, []) from rfl)) (fun w2 => ?_))
    have h2 := h1 w2
    refine pw_p (pw_if (by decide) (fun _ _ => fl_r5) (fun w2 => ?_) (fun w2 => ?_))
    · have h2 := h2.1 w2
      refine pw_p (pw_seg (by decide) (fun _ _ => fl_r6) ?_)
      exact h2
    · have h2 := h2.2 w2
      refine pw_p (pw_seg (by decide) (fun _ _ => fl_r7) ?_)
      refine pw_p (pw_iald (by rfl) (cx_getI (show cx_Ds[44]? = some (0, 30, []) from rfl)) (fun w3 => ?_))
      have h3 := h2 w3
      refine pw_p (pw_seg (by decide) (fun _ _ => fl_r8) ?_)
      refine pw_p (pw_iald (by rfl) (cx_getI (show cx_Ds[48]? = some (0, 31, []) from rfl)) (fun w3 => ?_))
      have h3 := h3 w3
      refine pw_p (pw_if (by decide) (fun _ _ => fl_r9) (fun w3 => ?_) (fun w3 => ?_))
      · have h3 := h3.1 w3
        refine pw_p (pw_seg (by decide) (fun _ _ => fl_r6) ?_)
        exact h3
      · have h3 := h3.2 w3
        refine pw_p (pw_seg (by decide) (fun _ _ => fl_r10) ?_)
        exact h3
set_option maxRecDepth 100000 in
theorem fl_r11  : ∀ G : ez_F, fx_up X 2 G 188 0 [.ref 35] [] (ev_hp I J R T) cz kz = ev_C G 167 [.ref 35] (ev_hp I J R T) fun r h1 c1 k1 => G 188 4 [.ref 35] (r.toList ++ []) h1 (cz + c1) (kz + k1) := by
  intro G
  rfl
theorem fv_0 
    (H : (∃ Q1 : pw_Q, pe N X 167 [.ref 35] (ev_hp I J R T) Q1 ∧ ∀ (r : Option Value) (h1 : ez_H), Q1 r h1 → pw N X 188 4 [.ref 35] (r.toList ++ []) h1 Q)) : pw (N + 1) X 188 0 [.ref 35] [] (ev_hp I J R T) Q := by
  obtain ⟨Q1, hc, hk⟩ := H
  exact pw_call (by decide) (fun _ _ => fl_r11) hc hk
set_option maxRecDepth 100000 in
theorem fl_r12 {a0 : Int32} : ∀ G : ez_F, fx_up X 1 G 188 4 [.ref 35] [.int a0] (ev_hp I J R T) cz kz = bif decide (¬ a0 = (0 : Int32)) then G 188 9 [.ref 35] [] (ev_hp I J R T) cz kz else G 188 7 [.ref 35] [] (ev_hp I J R T) cz kz := by
  intro G
  rfl
set_option maxRecDepth 100000 in
theorem fl_r13  : ∀ G : ez_F, fx_up X 3 G 188 9 [.ref 35] [] (ev_hp I J R T) cz kz = G 188 14 [.ref 35] [] (ev_hp (ev_sI I 35 (upd (I 35) 24 (0 : Int32))) J R T) cz kz := by
  intro G
  rfl
set_option maxRecDepth 100000 in
theorem fl_r14  : ∀ G : ez_F, fx_up X 2 G 188 14 [.ref 35] [] (ev_hp I J R T) cz kz = G 188 16 [.ref 35, .int (0 : Int32)] [] (ev_hp I J R T) cz kz := by
  intro G
  rfl
set_option maxRecDepth 100000 in
theorem fl_r15  : ∀ G : ez_F, fx_up X 1 G 188 7 [.ref 35] [] (ev_hp I J R T) cz kz = G 188 8 [.ref 35] [.int (0 : Int32)] (ev_hp I J R T) cz kz := by
  intro G
  rfl
theorem fv_4 {v : Int32}
    (H : ((¬ v = (0 : Int32) → pw N X 188 16 [.ref 35, .int (0 : Int32)] [] (ev_hp (ev_sI I 35 (upd (I 35) 24 (0 : Int32))) J R T) Q) ∧ (¬ (¬ v = (0 : Int32)) → ((0 : Int32) = 0 ∨ (0 : Int32) = 1 → Q (some (.int (0 : Int32))) (ev_hp I J R T))))) : pw (N + 1) X 188 4 [.ref 35] [.int v] (ev_hp I J R T) Q := by
  refine pw_if (by decide) (fun _ _ => fl_r12) (fun w1 => ?_) (fun w1 => ?_)
  · have h1 := H.1 w1
    refine pw_p (pw_seg (by decide) (fun _ _ => fl_r13) ?_)
    refine pw_p (pw_seg (by decide) (fun _ _ => fl_r14) ?_)
    exact h1
  · have h1 := H.2 w1
    refine pw_p (pw_seg (by decide) (fun _ _ => fl_r15) ?_)
    exact pw_p (pw_zret (by rfl) h1)
set_option maxRecDepth 100000 in
theorem fl_r16 {a0 : Int32} : ∀ G : ez_F, fx_up X 3 G 188 16 [.ref 35, .int a0] [] (ev_hp I J R T) cz kz = G 188 21 [.ref 35, .int a0] [.int (I 35 14), .int a0] (ev_hp I J R T) cz kz := by
  intro G
  rfl
set_option maxRecDepth 100000 in
theorem fl_r17 {a0 : Int32} {a1 : Int32} {a2 : Int32} : ∀ G : ez_F, fx_up X 1 G 188 21 [.ref 35, .int a0] [.int a1, .int a2] (ev_hp I J R T) cz kz = bif decide (a1 ≤ a2) then G 188 145 [.ref 35, .int a0] [] (ev_hp I J R T) cz kz else G 188 24 [.ref 35, .int a0] [] (ev_hp I J R T) cz kz := by
  intro G
  rfl
set_option maxRecDepth 100000 in
theorem fl_r18 {a0 : Int32} : ∀ G : ez_F, fx_up X 1 G 188 145 [.ref 35, .int a0] [] (ev_hp I J R T) cz kz = G 188 146 [.ref 35, .int a0] [.int (1 : Int32)] (ev_hp I J R T) cz kz := by
  intro G
  rfl
set_option maxRecDepth 100000 in
theorem fl_r19 {a0 : Int32} : ∀ G : ez_F, fx_up X 4 G 188 24 [.ref 35, .int a0] [] (ev_hp I J R T) cz kz = G 188 30 [.ref 35, .int a0] [.int (I 35 16), .int a0, .ref 35] (ev_hp I J R T) cz kz := by
  intro G
  rfl
set_option maxRecDepth 100000 in
theorem fl_r20 {a0 : Int32} {a1 : Int32} {a2 : Int32} : ∀ G : ez_F, fx_up X 1 G 188 30 [.ref 35, .int a0] [.int a1, .int a2, .ref 35] (ev_hp I J R T) cz kz = ev_C G 192 [.ref 35, .int a2, .int a1] (ev_hp I J R T) fun r h1 c1 k1 => G 188 33 [.ref 35, .int a0] (r.toList ++ []) h1 (cz + c1) (kz + k1) := by
  intro G
  rfl
theorem fv_16 {k : Int32}
    (H : (((I 35 14) ≤ k → ((1 : Int32) = 0 ∨ (1 : Int32) = 1 → Q (some (.int (1 : Int32))) (ev_hp I J R T))) ∧ (¬ ((I 35 14) ≤ k) → (∃ Q1 : pw_Q, pe N X 192 [.ref 35, .int k, .int (I 35 16)] (ev_hp I J R T) Q1 ∧ ∀ (r : Option Value) (h1 : ez_H), Q1 r h1 → pw N X 188 33 [.ref 35, .int k] (r.toList ++ []) h1 Q)))) : pw (N + 1) X 188 16 [.ref 35, .int k] [] (ev_hp I J R T) Q := by
  refine pw_seg (by decide) (fun _ _ => fl_r16) ?_
  refine pw_p (pw_if (by decide) (fun _ _ => fl_r17) (fun w1 => ?_) (fun w1 => ?_))
  · have h1 := H.1 w1
    refine pw_p (pw_seg (by decide) (fun _ _ => fl_r18) ?_)
    exact pw_p (pw_zret (by rfl) h1)
  · have h1 := H.2 w1
    refine pw_p (pw_seg (by decide) (fun _ _ => fl_r19) ?_)
    obtain ⟨Q1, hc, hk⟩ := h1
    exact pw_p (pw_call (by decide) (fun _ _ => fl_r20) hc hk)
set_option maxRecDepth 100000 in
theorem fl_r21 {a0 : Int32} : ∀ G : ez_F, fx_up X 2 G 188 33 [.ref 35, .int a0] [] (ev_hp I J R T) cz kz = ev_C G 233 [.ref 35] (ev_hp I J R T) fun r h1 c1 k1 => G 188 37 [.ref 35, .int a0] (r.toList ++ []) h1 (cz + c1) (kz + k1) := by
  intro G
  rfl
theorem fv_33 {k : Int32}
    (H : (∃ Q1 : pw_Q, pe N X 233 [.ref 35] (ev_hp I J R T) Q1 ∧ ∀ (r : Option Value) (h1 : ez_H), Q1 r h1 → pw N X 188 37 [.ref 35, .int k] (r.toList ++ []) h1 Q)) : pw (N + 1) X 188 33 [.ref 35, .int k] [] (ev_hp I J R T) Q := by
  obtain ⟨Q1, hc, hk⟩ := H
  exact pw_call (by decide) (fun _ _ => fl_r21) hc hk
set_option maxRecDepth 100000 in
theorem fl_r22 {a0 : Int32} {a1 : Int32} : ∀ G : ez_F, fx_up X 2 G 188 37 [.ref 35, .int a0] [.int a1] (ev_hp I J R T) cz kz = G 188 41 [.ref 35, .int a0] [.int (I 35 8), .int a1] (ev_hp I J R T) cz kz := by
  intro G
  rfl
set_option maxRecDepth 100000 in
theorem fl_r23 {a0 : Int32} {a1 : Int32} {a2 : Int32} : ∀ G : ez_F, fx_up X 1 G 188 41 [.ref 35, .int a0] [.int a1, .int a2] (ev_hp I J R T) cz kz = bif decide (a1 < a2) then G 188 139 [.ref 35, .int a0] [] (ev_hp I J R T) cz kz else G 188 44 [.ref 35, .int a0] [] (ev_hp I J R T) cz kz := by
  intro G
  rfl
set_option maxRecDepth 100000 in
theorem fl_r24 {a0 : Int32} : ∀ G : ez_F, fx_up X 2 G 188 139 [.ref 35, .int a0] [] (ev_hp I J R T) cz kz = G 188 16 [.ref 35, .int (a0 + (1 : Int32))] [] (ev_hp I J R T) cz kz := by
  intro G
  rfl
set_option maxRecDepth 100000 in
theorem fl_r25 {a0 : Int32} : ∀ G : ez_F, fx_up X 4 G 188 44 [.ref 35, .int a0] [] (ev_hp I J R T) cz kz = G 188 52 [.ref 35, .int a0] [.int (I 35 24), .ref 49] (ev_hp I J R T) cz kz := by
  intro G
  rfl
set_option maxRecDepth 100000 in
theorem fl_r26 {a0 : Int32} {a1 : Int32} : ∀ G : ez_F, fx_up X 1 G 188 52 [.ref 35, .int a0] [.int a1, .ref 49] (ev_hp I J R T) cz kz = G 188 53 [.ref 35, .int a0] [.int a0, .int a1, .ref 49] (ev_hp I J R T) cz kz := by
  intro G
  rfl
set_option maxRecDepth 100000 in
theorem fl_r27 {a0 : Int32} : ∀ G : ez_F, fx_up X 2 G 188 54 [.ref 35, .int a0] [] (ev_hp I J R T) cz kz = G 188 56 [.ref 35, .int a0, .int (0 : Int32)] [] (ev_hp I J R T) cz kz := by
  intro G
  rfl
theorem fv_37 {k v : Int32}
    (H : (((I 35 8) < v → pw N X 188 16 [.ref 35, .int (k + (1 : Int32))] [] (ev_hp I J R T) Q) ∧ (¬ ((I 35 8) < v) → (ev_ix (I 35 24) 10001 → pw N X 188 56 [.ref 35, .int k, .int (0 : Int32)] [] (ev_hp (ev_sI I 49 (upd (I 49) ((I 35 24).toNatClampNeg) k)) J R T) Q)))) : pw (N + 1) X 188 37 [.ref 35, .int k] [.int v] (ev_hp I J R T) Q := by
  refine pw_seg (by decide) (fun _ _ => fl_r22) ?_
  refine pw_p (pw_if (by decide) (fun _ _ => fl_r23) (fun w1 => ?_) (fun w1 => ?_))
  · have h1 := H.1 w1
    refine pw_p (pw_seg (by decide) (fun _ _ => fl_r24) ?_)
    exact h1
  · have h1 := H.2 w1
    refine pw_p (pw_seg (by decide) (fun _ _ => fl_r25) ?_)
    refine pw_p (pw_seg (by decide) (fun _ _ => fl_r26) ?_)
    refine pw_p (pw_iast (by rfl) (cx_getI (show cx_Ds[49]? = some (0, 10001, []) from rfl)) (cx_setI (show cx_Ds[49]? = some (0, 10001, []) from rfl) _) (fun w2 => ?_))
    have h2 := h1 w2
    refine pw_p (pw_seg (by decide) (fun _ _ => fl_r27) ?_)
    exact h2
set_option maxRecDepth 100000 in
theorem fl_r28 {a0 : Int32} {a1 : Int32} : ∀ G : ez_F, fx_up X 3 G 188 56 [.ref 35, .int a0, .int a1] [] (ev_hp I J R T) cz kz = bif decide ((3 : Int32) ≤ a1) then G 188 129 [.ref 35, .int a0, .int a1] [] (ev_hp I J R T) cz kz else G 188 61 [.ref 35, .int a0, .int a1] [] (ev_hp I J R T) cz kz := by
  intro G
  rfl
set_option maxRecDepth 100000 in
theorem fl_r29 {a0 : Int32} {a1 : Int32} : ∀ G : ez_F, fx_up X 3 G 188 129 [.ref 35, .int a0, .int a1] [] (ev_hp I J R T) cz kz = G 188 134 [.ref 35, .int a0, .int a1] [.int (I 35 24), .ref 35] (ev_hp I J R T) cz kz := by
  intro G
  rfl
set_option maxRecDepth 100000 in
theorem fl_r30 {a0 : Int32} {a1 : Int32} {a2 : Int32} : ∀ G : ez_F, fx_up X 3 G 188 134 [.ref 35, .int a0, .int a1] [.int a2, .ref 35] (ev_hp I J R T) cz kz = G 188 139 [.ref 35, .int a0, .int a1] [] (ev_hp (ev_sI I 35 (upd (I 35) 24 (a2 + (1 : Int32)))) J R T) cz kz := by
  intro G
  rfl
set_option maxRecDepth 100000 in
theorem fl_r31 {a0 : Int32} {a1 : Int32} : ∀ G : ez_F, fx_up X 2 G 188 139 [.ref 35, .int a0, .int a1] [] (ev_hp I J R T) cz kz = G 188 16 [.ref 35, .int (a0 + (1 : Int32))] [] (ev_hp I J R T) cz kz := by
  intro G
  rfl
set_option maxRecDepth 100000 in
theorem fl_r32 {a0 : Int32} {a1 : Int32} : ∀ G : ez_F, fx_up X 5 G 188 61 [.ref 35, .int a0, .int a1] [] (ev_hp I J R T) cz kz = G 188 70 [.ref 35, .int a0, .int a1] [.int (I 35 24), .int (3 : Int32), .ref 50] (ev_hp I J R T) cz kz := by
  intro G
  rfl
set_option maxRecDepth 100000 in
theorem fl_r33 {a0 : Int32} {a1 : Int32} {a2 : Int32} {a3 : Int32} : ∀ G : ez_F, fx_up X 6 G 188 70 [.ref 35, .int a0, .int a1] [.int a2, .int a3, .ref 50] (ev_hp I J R T) cz kz = G 188 78 [.ref 35, .int a0, .int a1] [.int (I 35 3), .int a1, .int ((a3 * a2) + a1), .ref 50] (ev_hp I J R T) cz kz := by
  intro G
  rfl
set_option maxRecDepth 100000 in
theorem fl_r34 {a0 : Int32} {a1 : Int32} {a2 : Int32} {a3 : Int32} {a4 : Int32} : ∀ G : ez_F, fx_up X 1 G 188 78 [.ref 35, .int a0, .int a1] [.int a2, .int a3, .int a4, .ref 50] (ev_hp I J R T) cz kz = bif decide (a2 ≤ a3) then G 188 90 [.ref 35, .int a0, .int a1] [.int a4, .ref 50] (ev_hp I J R T) cz kz else G 188 81 [.ref 35, .int a0, .int a1] [.int a4, .ref 50] (ev_hp I J R T) cz kz := by
  intro G
  rfl
set_option maxRecDepth 100000 in
theorem fl_r35 {a0 : Int32} {a1 : Int32} {a2 : Int32} : ∀ G : ez_F, fx_up X 1 G 188 90 [.ref 35, .int a0, .int a1] [.int a2, .ref 50] (ev_hp I J R T) cz kz = G 188 91 [.ref 35, .int a0, .int a1] [.long (0 : Int64), .int a2, .ref 50] (ev_hp I J R T) cz kz := by
  intro G
  rfl
set_option maxRecDepth 100000 in
theorem fl_r36 {a0 : Int32} {a1 : Int32} : ∀ G : ez_F, fx_up X 5 G 188 92 [.ref 35, .int a0, .int a1] [] (ev_hp I J R T) cz kz = G 188 101 [.ref 35, .int a0, .int a1] [.int (I 35 24), .int (3 : Int32), .ref 51] (ev_hp I J R T) cz kz := by
  intro G
  rfl
set_option maxRecDepth 100000 in
theorem fl_r37 {a0 : Int32} {a1 : Int32} {a2 : Int32} {a3 : Int32} : ∀ G : ez_F, fx_up X 6 G 188 101 [.ref 35, .int a0, .int a1] [.int a2, .int a3, .ref 51] (ev_hp I J R T) cz kz = G 188 109 [.ref 35, .int a0, .int a1] [.int (I 35 3), .int a1, .int ((a3 * a2) + a1), .ref 51] (ev_hp I J R T) cz kz := by
  intro G
  rfl
set_option maxRecDepth 100000 in
theorem fl_r38 {a0 : Int32} {a1 : Int32} {a2 : Int32} {a3 : Int32} {a4 : Int32} : ∀ G : ez_F, fx_up X 1 G 188 109 [.ref 35, .int a0, .int a1] [.int a2, .int a3, .int a4, .ref 51] (ev_hp I J R T) cz kz = bif decide (a2 ≤ a3) then G 188 121 [.ref 35, .int a0, .int a1] [.int a4, .ref 51] (ev_hp I J R T) cz kz else G 188 112 [.ref 35, .int a0, .int a1] [.int a4, .ref 51] (ev_hp I J R T) cz kz := by
  intro G
  rfl
set_option maxRecDepth 100000 in
theorem fl_r39 {a0 : Int32} {a1 : Int32} {a2 : Int32} : ∀ G : ez_F, fx_up X 1 G 188 121 [.ref 35, .int a0, .int a1] [.int a2, .ref 51] (ev_hp I J R T) cz kz = G 188 122 [.ref 35, .int a0, .int a1] [.long (0 : Int64), .int a2, .ref 51] (ev_hp I J R T) cz kz := by
  intro G
  rfl
set_option maxRecDepth 100000 in
theorem fl_r40 {a0 : Int32} {a1 : Int32} : ∀ G : ez_F, fx_up X 2 G 188 123 [.ref 35, .int a0, .int a1] [] (ev_hp I J R T) cz kz = G 188 56 [.ref 35, .int a0, .int (a1 + (1 : Int32))] [] (ev_hp I J R T) cz kz := by
  intro G
  rfl
set_option maxRecDepth 100000 in
theorem fl_r41 {a0 : Int32} {a1 : Int32} {a2 : Int32} : ∀ G : ez_F, fx_up X 3 G 188 112 [.ref 35, .int a0, .int a1] [.int a2, .ref 51] (ev_hp I J R T) cz kz = G 188 117 [.ref 35, .int a0, .int a1] [.int a1, .ref 46, .int a2, .ref 51] (ev_hp I J R T) cz kz := by
  intro G
  rfl
set_option maxRecDepth 100000 in
theorem fl_r42 {a0 : Int32} {a1 : Int32} {a2 : Int64} {a3 : Int32} : ∀ G : ez_F, fx_up X 1 G 188 118 [.ref 35, .int a0, .int a1] [.long a2, .int a3, .ref 51] (ev_hp I J R T) cz kz = G 188 122 [.ref 35, .int a0, .int a1] [.long a2, .int a3, .ref 51] (ev_hp I J R T) cz kz := by
  intro G
  rfl
set_option maxRecDepth 100000 in
theorem fl_r43 {a0 : Int32} {a1 : Int32} {a2 : Int32} : ∀ G : ez_F, fx_up X 3 G 188 81 [.ref 35, .int a0, .int a1] [.int a2, .ref 50] (ev_hp I J R T) cz kz = G 188 86 [.ref 35, .int a0, .int a1] [.int a1, .ref 45, .int a2, .ref 50] (ev_hp I J R T) cz kz := by
  intro G
  rfl
set_option maxRecDepth 100000 in
theorem fl_r44 {a0 : Int32} {a1 : Int32} {a2 : Int64} {a3 : Int32} : ∀ G : ez_F, fx_up X 1 G 188 87 [.ref 35, .int a0, .int a1] [.long a2, .int a3, .ref 50] (ev_hp I J R T) cz kz = G 188 91 [.ref 35, .int a0, .int a1] [.long a2, .int a3, .ref 50] (ev_hp I J R T) cz kz := by
  intro G
  rfl
theorem fv_56 {k s : Int32}
    (H : (((3 : Int32) ≤ s → pw N X 188 16 [.ref 35, .int (k + (1 : Int32))] [] (ev_hp (ev_sI I 35 (upd (I 35) 24 ((I 35 24) + (1 : Int32)))) J R T) Q) ∧ (¬ ((3 : Int32) ≤ s) → (((I 35 3) ≤ s → (ev_ix (((3 : Int32) * (I 35 24)) + s) 30003 → (((I 35 3) ≤ s → (ev_ix (((3 : Int32) * (I 35 24)) + s) 30003 → pw N X 188 56 [.ref 35, .int k, .int (s + (1 : Int32))] [] (ev_hp I (ev_sJ (ev_sJ J 50 (vp_updL (J 50) ((((3 : Int32) * (I 35 24)) + s).toNatClampNeg) (0 : Int64))) 51 (vp_updL (J 51) ((((3 : Int32) * (I 35 24)) + s).toNatClampNeg) (0 : Int64))) R T) Q)) ∧ (¬ ((I 35 3) ≤ s) → (ev_ix s 3 → (ev_ix (((3 : Int32) * (I 35 24)) + s) 30003 → pw N X 188 56 [.ref 35, .int k, .int (s + (1 : Int32))] [] (ev_hp I (ev_sJ (ev_sJ J 50 (vp_updL (J 50) ((((3 : Int32) * (I 35 24)) + s).toNatClampNeg) (0 : Int64))) 51 (vp_updL (J 51) ((((3 : Int32) * (I 35 24)) + s).toNatClampNeg) (J 46 s.toNatClampNeg))) R T) Q)))))) ∧ (¬ ((I 35 3) ≤ s) → (ev_ix s 3 → (ev_ix (((3 : Int32) * (I 35 24)) + s) 30003 → (((I 35 3) ≤ s → (ev_ix (((3 : Int32) * (I 35 24)) + s) 30003 → pw N X 188 56 [.ref 35, .int k, .int (s + (1 : Int32))] [] (ev_hp I (ev_sJ (ev_sJ J 50 (vp_updL (J 50) ((((3 : Int32) * (I 35 24)) + s).toNatClampNeg) (J 45 s.toNatClampNeg))) 51 (vp_updL (J 51) ((((3 : Int32) * (I 35 24)) + s).toNatClampNeg) (0 : Int64))) R T) Q)) ∧ (¬ ((I 35 3) ≤ s) → (ev_ix s 3 → (ev_ix (((3 : Int32) * (I 35 24)) + s) 30003 → pw N X 188 56 [.ref 35, .int k, .int (s + (1 : Int32))] [] (ev_hp I (ev_sJ (ev_sJ J 50 (vp_updL (J 50) ((((3 : Int32) * (I 35 24)) + s).toNatClampNeg) (J 45 s.toNatClampNeg))) 51 (vp_updL (J 51) ((((3 : Int32) * (I 35 24)) + s).toNatClampNeg) (J 46 s.toNatClampNeg))) R T) Q))))))))))) : pw (N + 1) X 188 56 [.ref 35, .int k, .int s] [] (ev_hp I J R T) Q := by
  refine pw_if (by decide) (fun _ _ => fl_r28) (fun w1 => ?_) (fun w1 => ?_)
  · have h1 := H.1 w1
    refine pw_p (pw_seg (by decide) (fun _ _ => fl_r29) ?_)
    refine pw_p (pw_seg (by decide) (fun _ _ => fl_r30) ?_)
    refine pw_p (pw_seg (by decide) (fun _ _ => fl_r31) ?_)
    exact h1
  · have h1 := H.2 w1
    refine pw_p (pw_seg (by decide) (fun _ _ => fl_r32) ?_)
    refine pw_p (pw_seg (by decide) (fun _ _ => fl_r33) ?_)
    refine pw_p (pw_if (by decide) (fun _ _ => fl_r34) (fun w2 => ?_) (fun w2 => ?_))
    · have h2 := h1.1 w2
      refine pw_p (pw_seg (by decide) (fun _ _ => fl_r35) ?_)
      refine pw_p (pw_last (by rfl) (cx_getJ (show cx_Ds[50]? = some (1, 30003, []) from rfl)) (cx_setJ (show cx_Ds[50]? = some (1, 30003, []) from rfl) _) (fun w3 => ?_))
      have h3 := h2 w3
      refine pw_p (pw_seg (by decide) (fun _ _ => fl_r36) ?_)
      refine pw_p (pw_seg (by decide) (fun _ _ => fl_r37) ?_)
      refine pw_p (pw_if (by decide) (fun _ _ => fl_r38) (fun w3 => ?_) (fun w3 => ?_))
      · have h3 := h3.1 w3
        refine pw_p (pw_seg (by decide) (fun _ _ => fl_r39) ?_)
        refine pw_p (pw_last (by rfl) (cx_getJ (show cx_Ds[51]? = some (1, 30003, []) from rfl)) (cx_setJ (show cx_Ds[51]? = some (1, 30003, []) from rfl) _) (fun w4 => ?_))
        have h4 := h3 w4
        refine pw_p (pw_seg (by decide) (fun _ _ => fl_r40) ?_)
        exact h4
      · have h3 := h3.2 w3
        refine pw_p (pw_seg (by decide) (fun _ _ => fl_r41) ?_)
        refine pw_p (pw_lald (by rfl) (cx_getJ (show cx_Ds[46]? = some (1, 3, []) from rfl)) (fun w4 => ?_))
        have h4 := h3 w4
        refine pw_p (pw_seg (by decide) (fun _ _ => fl_r42) ?_)
        refine pw_p (pw_last (by rfl) (cx_getJ (show cx_Ds[51]? = some (1, 30003, []) from rfl)) (cx_setJ (show cx_Ds[51]? = some (1, 30003, []) from rfl) _) (fun w4 => ?_))
        have h4 := h4 w4
        refine pw_p (pw_seg (by decide) (fun _ _ => fl_r40) ?_)
        exact h4
    · have h2 := h1.2 w2
      refine pw_p (pw_seg (by decide) (fun _ _ => fl_r43) ?_)
      refine pw_p (pw_lald (by rfl) (cx_getJ (show cx_Ds[45]? = some (1, 3, []) from rfl)) (fun w3 => ?_))
      have h3 := h2 w3
      refine pw_p (pw_seg (by decide) (fun _ _ => fl_r44) ?_)
      refine pw_p (pw_last (by rfl) (cx_getJ (show cx_Ds[50]? = some (1, 30003, []) from rfl)) (cx_setJ (show cx_Ds[50]? = some (1, 30003, []) from rfl) _) (fun w3 => ?_))
      have h3 := h3 w3
      refine pw_p (pw_seg (by decide) (fun _ _ => fl_r36) ?_)
      refine pw_p (pw_seg (by decide) (fun _ _ => fl_r37) ?_)
      refine pw_p (pw_if (by decide) (fun _ _ => fl_r38) (fun w3 => ?_) (fun w3 => ?_))
      · have h3 := h3.1 w3
        refine pw_p (pw_seg (by decide) (fun _ _ => fl_r39) ?_)
        refine pw_p (pw_last (by rfl) (cx_getJ (show cx_Ds[51]? = some (1, 30003, []) from rfl)) (cx_setJ (show cx_Ds[51]? = some (1, 30003, []) from rfl) _) (fun w4 => ?_))
        have h4 := h3 w4
        refine pw_p (pw_seg (by decide) (fun _ _ => fl_r40) ?_)
        exact h4
      · have h3 := h3.2 w3
        refine pw_p (pw_seg (by decide) (fun _ _ => fl_r41) ?_)
        refine pw_p (pw_lald (by rfl) (cx_getJ (show cx_Ds[46]? = some (1, 3, []) from rfl)) (fun w4 => ?_))
        have h4 := h3 w4
        refine pw_p (pw_seg (by decide) (fun _ _ => fl_r42) ?_)
        refine pw_p (pw_last (by rfl) (cx_getJ (show cx_Ds[51]? = some (1, 30003, []) from rfl)) (cx_setJ (show cx_Ds[51]? = some (1, 30003, []) from rfl) _) (fun w4 => ?_))
        have h4 := h4 w4
        refine pw_p (pw_seg (by decide) (fun _ _ => fl_r40) ?_)
        exact h4
set_option maxRecDepth 100000 in
theorem fl_r45 {a0 : Int32} : ∀ G : ez_F, fx_up X 2 G 231 0 [.ref 35, .int a0] [] (ev_hp I J R T) cz kz = G 231 2 [.ref 35, .int a0, .int (0 : Int32)] [] (ev_hp I J R T) cz kz := by
  intro G
  rfl
theorem uv_0 {i : Int32}
    (H : pw N X 231 2 [.ref 35, .int i, .int (0 : Int32)] [] (ev_hp I J R T) Q) : pw (N + 1) X 231 0 [.ref 35, .int i] [] (ev_hp I J R T) Q := by
  refine pw_seg (by decide) (fun _ _ => fl_r45) ?_
  exact H
set_option maxRecDepth 100000 in
theorem fl_r46 {a0 : Int32} {a1 : Int32} : ∀ G : ez_F, fx_up X 3 G 231 2 [.ref 35, .int a0, .int a1] [] (ev_hp I J R T) cz kz = G 231 7 [.ref 35, .int a0, .int a1] [.int (I 35 3), .int a1] (ev_hp I J R T) cz kz := by
  intro G
  rfl
set_option maxRecDepth 100000 in
theorem fl_r47 {a0 : Int32} {a1 : Int32} {a2 : Int32} {a3 : Int32} : ∀ G : ez_F, fx_up X 1 G 231 7 [.ref 35, .int a0, .int a1] [.int a2, .int a3] (ev_hp I J R T) cz kz = bif decide (a2 ≤ a3) then G 231 48 [.ref 35, .int a0, .int a1] [] (ev_hp I J R T) cz kz else G 231 10 [.ref 35, .int a0, .int a1] [] (ev_hp I J R T) cz kz := by
  intro G
  rfl
set_option maxRecDepth 100000 in
theorem fl_r48 {a0 : Int32} {a1 : Int32} : ∀ G : ez_F, fx_up X 1 G 231 48 [.ref 35, .int a0, .int a1] [] (ev_hp I J R T) cz kz = some (none, (ev_hp I J R T), cz, kz) := by
  intro G
  rfl
set_option maxRecDepth 100000 in
theorem fl_r49 {a0 : Int32} {a1 : Int32} : ∀ G : ez_F, fx_up X 10 G 231 10 [.ref 35, .int a0, .int a1] [] (ev_hp I J R T) cz kz = G 231 24 [.ref 35, .int a0, .int a1] [.int (((3 : Int32) * a0) + a1), .ref 50, .int a1, .ref 45] (ev_hp I J R T) cz kz := by
  intro G
  rfl
set_option maxRecDepth 100000 in
theorem fl_r50 {a0 : Int32} {a1 : Int32} : ∀ G : ez_F, fx_up X 10 G 231 26 [.ref 35, .int a0, .int a1] [] (ev_hp I J R T) cz kz = G 231 40 [.ref 35, .int a0, .int a1] [.int (((3 : Int32) * a0) + a1), .ref 51, .int a1, .ref 46] (ev_hp I J R T) cz kz := by
  intro G
  rfl
set_option maxRecDepth 100000 in
theorem fl_r51 {a0 : Int32} {a1 : Int32} : ∀ G : ez_F, fx_up X 2 G 231 42 [.ref 35, .int a0, .int a1] [] (ev_hp I J R T) cz kz = G 231 2 [.ref 35, .int a0, .int (a1 + (1 : Int32))] [] (ev_hp I J R T) cz kz := by
  intro G
  rfl
theorem uv_2 {i s : Int32}
    (H : (((I 35 3) ≤ s → Q none (ev_hp I J R T)) ∧ (¬ ((I 35 3) ≤ s) → (ev_ix (((3 : Int32) * i) + s) 30003 → (ev_ix s 3 → (ev_ix (((3 : Int32) * i) + s) 30003 → (ev_ix s 3 → pw N X 231 2 [.ref 35, .int i, .int (s + (1 : Int32))] [] (ev_hp I (ev_sJ (ev_sJ J 45 (vp_updL (J 45) s.toNatClampNeg (J 50 (((3 : Int32) * i) + s).toNatClampNeg))) 46 (vp_updL (J 46) s.toNatClampNeg (J 51 (((3 : Int32) * i) + s).toNatClampNeg))) R T) Q))))))) : pw (N + 1) X 231 2 [.ref 35, .int i, .int s] [] (ev_hp I J R T) Q := by
  refine pw_seg (by decide) (fun _ _ => fl_r46) ?_
  refine pw_p (pw_if (by decide) (fun _ _ => fl_r47) (fun w1 => ?_) (fun w1 => ?_))
  · have h1 := H.1 w1
    exact pw_p (pw_ret (by decide) (fun _ _ => fl_r48) h1)
  · have h1 := H.2 w1
    refine pw_p (pw_seg (by decide) (fun _ _ => fl_r49) ?_)
    refine pw_p (pw_lald (by rfl) (cx_getJ (show cx_Ds[50]? = some (1, 30003, []) from rfl)) (fun w2 => ?_))
    have h2 := h1 w2
    refine pw_p (pw_last (by rfl) (cx_getJ (show cx_Ds[45]? = some (1, 3, []) from rfl)) (cx_setJ (show cx_Ds[45]? = some (1, 3, []) from rfl) _) (fun w2 => ?_))
    have h2 := h2 w2
    refine pw_p (pw_seg (by decide) (fun _ _ => fl_r50) ?_)
    refine pw_p (pw_lald (by rfl) (cx_getJ (show cx_Ds[51]? = some (1, 30003, []) from rfl)) (fun w2 => ?_))
    have h2 := h2 w2
    refine pw_p (pw_last (by rfl) (cx_getJ (show cx_Ds[46]? = some (1, 3, []) from rfl)) (cx_setJ (show cx_Ds[46]? = some (1, 3, []) from rfl) _) (fun w2 => ?_))
    have h2 := h2 w2
    refine pw_p (pw_seg (by decide) (fun _ _ => fl_r51) ?_)
    exact h2
set_option maxRecDepth 100000 in
theorem fl_r52 {a0 : Int32} : ∀ G : ez_F, fx_up X 4 G 228 0 [.ref 35, .int a0] [] (ev_hp I J R T) cz kz = G 228 4 [.ref 35, .int a0, .int (0 : Int32), .int (0 : Int32)] [] (ev_hp I J R T) cz kz := by
  intro G
  rfl
theorem tv_0 {c : Int32}
    (H : pw N X 228 4 [.ref 35, .int c, .int (0 : Int32), .int (0 : Int32)] [] (ev_hp I J R T) Q) : pw (N + 1) X 228 0 [.ref 35, .int c] [] (ev_hp I J R T) Q := by
  refine pw_seg (by decide) (fun _ _ => fl_r52) ?_
  exact H
set_option maxRecDepth 100000 in
theorem fl_r53 {a0 : Int32} {a1 : Int32} {a2 : Int32} : ∀ G : ez_F, fx_up X 3 G 228 4 [.ref 35, .int a0, .int a1, .int a2] [] (ev_hp I J R T) cz kz = G 228 9 [.ref 35, .int a0, .int a1, .int a2] [.int (I 35 24), .int a2] (ev_hp I J R T) cz kz := by
  intro G
  rfl
set_option maxRecDepth 100000 in
theorem fl_r54 {a0 : Int32} {a1 : Int32} {a2 : Int32} {a3 : Int32} {a4 : Int32} : ∀ G : ez_F, fx_up X 1 G 228 9 [.ref 35, .int a0, .int a1, .int a2] [.int a3, .int a4] (ev_hp I J R T) cz kz = bif decide (a3 ≤ a4) then G 228 40 [.ref 35, .int a0, .int a1, .int a2] [] (ev_hp I J R T) cz kz else G 228 12 [.ref 35, .int a0, .int a1, .int a2] [] (ev_hp I J R T) cz kz := by
  intro G
  rfl
set_option maxRecDepth 100000 in
theorem fl_r55 {a0 : Int32} {a1 : Int32} {a2 : Int32} : ∀ G : ez_F, fx_up X 2 G 228 40 [.ref 35, .int a0, .int a1, .int a2] [] (ev_hp I J R T) cz kz = some (some (.int a1), (ev_hp I J R T), cz, kz) := by
  intro G
  rfl
set_option maxRecDepth 100000 in
theorem fl_r56 {a0 : Int32} {a1 : Int32} {a2 : Int32} : ∀ G : ez_F, fx_up X 3 G 228 12 [.ref 35, .int a0, .int a1, .int a2] [] (ev_hp I J R T) cz kz = ev_C G 231 [.ref 35, .int a2] (ev_hp I J R T) fun r h1 c1 k1 => G 228 17 [.ref 35, .int a0, .int a1, .int a2] (r.toList ++ []) h1 (cz + c1) (kz + k1) := by
  intro G
  rfl
theorem tv_4 {c m i : Int32}
    (H : (((I 35 24) ≤ i → Q (some (.int m)) (ev_hp I J R T)) ∧ (¬ ((I 35 24) ≤ i) → (∃ Q1 : pw_Q, pe N X 231 [.ref 35, .int i] (ev_hp I J R T) Q1 ∧ ∀ (r : Option Value) (h1 : ez_H), Q1 r h1 → pw N X 228 17 [.ref 35, .int c, .int m, .int i] (r.toList ++ []) h1 Q)))) : pw (N + 1) X 228 4 [.ref 35, .int c, .int m, .int i] [] (ev_hp I J R T) Q := by
  refine pw_seg (by decide) (fun _ _ => fl_r53) ?_
  refine pw_p (pw_if (by decide) (fun _ _ => fl_r54) (fun w1 => ?_) (fun w1 => ?_))
  · have h1 := H.1 w1
    exact pw_p (pw_ret (by decide) (fun _ _ => fl_r55) h1)
  · have h1 := H.2 w1
    obtain ⟨Q1, hc, hk⟩ := h1
    exact pw_p (pw_call (by decide) (fun _ _ => fl_r56) hc hk)
set_option maxRecDepth 100000 in
theorem fl_r57 {a0 : Int32} {a1 : Int32} {a2 : Int32} : ∀ G : ez_F, fx_up X 4 G 228 17 [.ref 35, .int a0, .int a1, .int a2] [] (ev_hp I J R T) cz kz = ev_C G 221 [.ref 35, .int a0] (ev_hp I J R T) fun r h1 c1 k1 => G 228 23 [.ref 35, .int a0, .int a1, .int a2] (r.toList ++ [.int a1]) h1 (cz + c1) (kz + k1) := by
  intro G
  rfl
theorem tv_17 {c m i : Int32}
    (H : (∃ Q1 : pw_Q, pe N X 221 [.ref 35, .int c] (ev_hp I J R T) Q1 ∧ ∀ (r : Option Value) (h1 : ez_H), Q1 r h1 → pw N X 228 23 [.ref 35, .int c, .int m, .int i] (r.toList ++ [.int m]) h1 Q)) : pw (N + 1) X 228 17 [.ref 35, .int c, .int m, .int i] [] (ev_hp I J R T) Q := by
  obtain ⟨Q1, hc, hk⟩ := H
  exact pw_call (by decide) (fun _ _ => fl_r57) hc hk
set_option maxRecDepth 100000 in
theorem fl_r58 {a0 : Int32} {a1 : Int32} {a2 : Int32} {a3 : Int32} {a4 : Int32} : ∀ G : ez_F, fx_up X 2 G 228 23 [.ref 35, .int a0, .int a1, .int a2] [.int a3, .int a4] (ev_hp I J R T) cz kz = bif decide (¬ a3 = (-1 : Int32)) then G 228 31 [.ref 35, .int a0, .int a1, .int a2] [.int a4] (ev_hp I J R T) cz kz else G 228 27 [.ref 35, .int a0, .int a1, .int a2] [.int a4] (ev_hp I J R T) cz kz := by
  intro G
  rfl
set_option maxRecDepth 100000 in
theorem fl_r59 {a0 : Int32} {a1 : Int32} {a2 : Int32} {a3 : Int32} : ∀ G : ez_F, fx_up X 5 G 228 31 [.ref 35, .int a0, .int a1, .int a2] [.int a3] (ev_hp I J R T) cz kz = G 228 4 [.ref 35, .int a0, .int (a3 + (1 : Int32)), .int (a2 + (1 : Int32))] [] (ev_hp I J R T) cz kz := by
  intro G
  rfl
set_option maxRecDepth 100000 in
theorem fl_r60 {a0 : Int32} {a1 : Int32} {a2 : Int32} {a3 : Int32} : ∀ G : ez_F, fx_up X 6 G 228 27 [.ref 35, .int a0, .int a1, .int a2] [.int a3] (ev_hp I J R T) cz kz = G 228 4 [.ref 35, .int a0, .int (a3 + (0 : Int32)), .int (a2 + (1 : Int32))] [] (ev_hp I J R T) cz kz := by
  intro G
  rfl
theorem tv_23 {v c m i : Int32}
    (H : ((¬ v = (-1 : Int32) → pw N X 228 4 [.ref 35, .int c, .int (m + (1 : Int32)), .int (i + (1 : Int32))] [] (ev_hp I J R T) Q) ∧ (¬ (¬ v = (-1 : Int32)) → pw N X 228 4 [.ref 35, .int c, .int (m + (0 : Int32)), .int (i + (1 : Int32))] [] (ev_hp I J R T) Q))) : pw (N + 1) X 228 23 [.ref 35, .int c, .int m, .int i] [.int v, .int m] (ev_hp I J R T) Q := by
  refine pw_if (by decide) (fun _ _ => fl_r58) (fun w1 => ?_) (fun w1 => ?_)
  · have h1 := H.1 w1
    refine pw_p (pw_seg (by decide) (fun _ _ => fl_r59) ?_)
    exact h1
  · have h1 := H.2 w1
    refine pw_p (pw_seg (by decide) (fun _ _ => fl_r60) ?_)
    exact h1
end
section
variable {N : Nat} {X : ez_X} {I : Nat → Nat → Int32} {J : Nat → Nat → Int64} {R : Nat → Nat} {T : List ez_C} {Q : pw_Q} {cz kz : Nat}
set_option maxRecDepth 100000 in
theorem fm_r0 {a0 : Int32} {a1 : Int32} : ∀ G : ez_F, fx_up X 4 G 193 0 [.ref 35, .int a0, .int a1] [] (ev_hp I J R T) cz kz = G 193 6 [.ref 35, .int a0, .int a1] [.int (0 : Int32), .int (0 : Int32), .ref 53] (ev_hp I J R T) cz kz := by
  intro G
  rfl
set_option maxRecDepth 100000 in
theorem fm_r1 {a0 : Int32} {a1 : Int32} : ∀ G : ez_F, fx_up X 4 G 193 7 [.ref 35, .int a0, .int a1] [] (ev_hp I J R T) cz kz = G 193 13 [.ref 35, .int a0, .int a1] [.int (0 : Int32), .int (1 : Int32), .ref 53] (ev_hp I J R T) cz kz := by
  intro G
  rfl
set_option maxRecDepth 100000 in
theorem fm_r2 {a0 : Int32} {a1 : Int32} : ∀ G : ez_F, fx_up X 4 G 193 14 [.ref 35, .int a0, .int a1] [] (ev_hp I J R T) cz kz = G 193 20 [.ref 35, .int a0, .int a1] [.int (0 : Int32), .int (2 : Int32), .ref 53] (ev_hp I J R T) cz kz := by
  intro G
  rfl
set_option maxRecDepth 100000 in
theorem fm_r3 {a0 : Int32} {a1 : Int32} : ∀ G : ez_F, fx_up X 2 G 193 21 [.ref 35, .int a0, .int a1] [] (ev_hp I J R T) cz kz = G 193 23 [.ref 35, .int a0, .int a1, .int (0 : Int32)] [] (ev_hp I J R T) cz kz := by
  intro G
  rfl
theorem gv_0 {a : Int32}
    (H : (ev_ix (0 : Int32) 4 → (ev_ix (1 : Int32) 4 → (ev_ix (2 : Int32) 4 → pw N X 193 23 [.ref 35, .int a, .int (-1 : Int32), .int (0 : Int32)] [] (ev_hp (ev_sI (ev_sI (ev_sI I 53 (upd (I 53) ((0 : Int32).toNatClampNeg) (0 : Int32))) 53 (upd (upd (I 53) ((0 : Int32).toNatClampNeg) (0 : Int32)) ((1 : Int32).toNatClampNeg) (0 : Int32))) 53 (upd (upd (upd (I 53) ((0 : Int32).toNatClampNeg) (0 : Int32)) ((1 : Int32).toNatClampNeg) (0 : Int32)) ((2 : Int32).toNatClampNeg) (0 : Int32))) J R T) Q)))) : pw (N + 1) X 193 0 [.ref 35, .int a, .int (-1 : Int32)] [] (ev_hp I J R T) Q := by
  refine pw_seg (by decide) (fun _ _ => fm_r0) ?_
  refine pw_p (pw_iast (by rfl) (cx_getI (show cx_Ds[53]? = some (0, 4, []) from rfl)) (cx_setI (show cx_Ds[53]? = some (0, 4, []) from rfl) _) (fun w1 => ?_))
  have h1 := H w1
  refine pw_p (pw_seg (by decide) (fun _ _ => fm_r1) ?_)
  refine pw_p (pw_iast (by rfl) (cx_getI (show cx_Ds[53]? = some (0, 4, []) from rfl)) (cx_setI (show cx_Ds[53]? = some (0, 4, []) from rfl) _) (fun w1 => ?_))
  have h1 := h1 w1
  refine pw_p (pw_seg (by decide) (fun _ _ => fm_r2) ?_)
  refine pw_p (pw_iast (by rfl) (cx_getI (show cx_Ds[53]? = some (0, 4, []) from rfl)) (cx_setI (show cx_Ds[53]? = some (0, 4, []) from rfl) _) (fun w1 => ?_))
  have h1 := h1 w1
  refine pw_p (pw_seg (by decide) (fun _ _ => fm_r3) ?_)
  exact h1
set_option maxRecDepth 100000 in
theorem fm_r4 {a0 : Int32} {a1 : Int32} {a2 : Int32} : ∀ G : ez_F, fx_up X 3 G 193 23 [.ref 35, .int a0, .int a1, .int a2] [] (ev_hp I J R T) cz kz = G 193 28 [.ref 35, .int a0, .int a1, .int a2] [.int (I 35 24), .int a2] (ev_hp I J R T) cz kz := by
  intro G
  rfl
set_option maxRecDepth 100000 in
theorem fm_r5 {a0 : Int32} {a1 : Int32} {a2 : Int32} {a3 : Int32} {a4 : Int32} : ∀ G : ez_F, fx_up X 1 G 193 28 [.ref 35, .int a0, .int a1, .int a2] [.int a3, .int a4] (ev_hp I J R T) cz kz = bif decide (a3 ≤ a4) then G 193 96 [.ref 35, .int a0, .int a1, .int a2] [] (ev_hp I J R T) cz kz else G 193 31 [.ref 35, .int a0, .int a1, .int a2] [] (ev_hp I J R T) cz kz := by
  intro G
  rfl
set_option maxRecDepth 100000 in
theorem fm_r6 {a0 : Int32} {a1 : Int32} {a2 : Int32} : ∀ G : ez_F, fx_up X 3 G 193 96 [.ref 35, .int a0, .int a1, .int a2] [] (ev_hp I J R T) cz kz = G 193 101 [.ref 35, .int a0, .int a1, .int a2] [.int (0 : Int32), .ref 53] (ev_hp I J R T) cz kz := by
  intro G
  rfl
set_option maxRecDepth 100000 in
theorem fm_r7 {a0 : Int32} {a1 : Int32} {a2 : Int32} {a3 : Int32} : ∀ G : ez_F, fx_up X 3 G 193 102 [.ref 35, .int a0, .int a1, .int a2] [.int a3] (ev_hp I J R T) cz kz = G 193 107 [.ref 35, .int a0, .int a1, .int a2] [.int (1 : Int32), .ref 53, .int a3] (ev_hp I J R T) cz kz := by
  intro G
  rfl
set_option maxRecDepth 100000 in
theorem fm_r8 {a0 : Int32} {a1 : Int32} {a2 : Int32} {a3 : Int32} {a4 : Int32} : ∀ G : ez_F, fx_up X 1 G 193 108 [.ref 35, .int a0, .int a1, .int a2] [.int a3, .int a4] (ev_hp I J R T) cz kz = bif decide (a4 ≤ a3) then G 193 120 [.ref 35, .int a0, .int a1, .int a2] [] (ev_hp I J R T) cz kz else G 193 111 [.ref 35, .int a0, .int a1, .int a2] [] (ev_hp I J R T) cz kz := by
  intro G
  rfl
set_option maxRecDepth 100000 in
theorem fm_r9 {a0 : Int32} {a1 : Int32} {a2 : Int32} : ∀ G : ez_F, fx_up X 3 G 193 120 [.ref 35, .int a0, .int a1, .int a2] [] (ev_hp I J R T) cz kz = G 193 125 [.ref 35, .int a0, .int a1, .int a2] [.int (1 : Int32), .ref 53] (ev_hp I J R T) cz kz := by
  intro G
  rfl
set_option maxRecDepth 100000 in
theorem fm_r10 {a0 : Int32} {a1 : Int32} {a2 : Int32} {a3 : Int32} : ∀ G : ez_F, fx_up X 4 G 193 126 [.ref 35, .int a0, .int a1, .int a2] [.int a3] (ev_hp I J R T) cz kz = G 193 132 [.ref 35, .int a0, .int a1, .int a3] [.int (2 : Int32), .ref 53] (ev_hp I J R T) cz kz := by
  intro G
  rfl
set_option maxRecDepth 100000 in
theorem fm_r11 {a0 : Int32} {a1 : Int32} {a2 : Int32} {a3 : Int32} : ∀ G : ez_F, fx_up X 2 G 193 133 [.ref 35, .int a0, .int a1, .int a2] [.int a3] (ev_hp I J R T) cz kz = bif decide (a3 ≤ a2) then G 193 146 [.ref 35, .int a0, .int a1, .int a2] [] (ev_hp I J R T) cz kz else G 193 137 [.ref 35, .int a0, .int a1, .int a2] [] (ev_hp I J R T) cz kz := by
  intro G
  rfl
set_option maxRecDepth 100000 in
theorem fm_r12 {a0 : Int32} {a1 : Int32} {a2 : Int32} : ∀ G : ez_F, fx_up X 2 G 193 146 [.ref 35, .int a0, .int a1, .int a2] [] (ev_hp I J R T) cz kz = some (some (.int a2), (ev_hp I J R T), cz, kz) := by
  intro G
  rfl
set_option maxRecDepth 100000 in
theorem fm_r13 {a0 : Int32} {a1 : Int32} {a2 : Int32} : ∀ G : ez_F, fx_up X 3 G 193 137 [.ref 35, .int a0, .int a1, .int a2] [] (ev_hp I J R T) cz kz = G 193 142 [.ref 35, .int a0, .int a1, .int a2] [.int (2 : Int32), .ref 53] (ev_hp I J R T) cz kz := by
  intro G
  rfl
set_option maxRecDepth 100000 in
theorem fm_r14 {a0 : Int32} {a1 : Int32} {a2 : Int32} {a3 : Int32} : ∀ G : ez_F, fx_up X 2 G 193 143 [.ref 35, .int a0, .int a1, .int a2] [.int a3] (ev_hp I J R T) cz kz = some (some (.int a3), (ev_hp I J R T), cz, kz) := by
  intro G
  rfl
set_option maxRecDepth 100000 in
theorem fm_r15 {a0 : Int32} {a1 : Int32} {a2 : Int32} : ∀ G : ez_F, fx_up X 3 G 193 111 [.ref 35, .int a0, .int a1, .int a2] [] (ev_hp I J R T) cz kz = G 193 116 [.ref 35, .int a0, .int a1, .int a2] [.int (0 : Int32), .ref 53] (ev_hp I J R T) cz kz := by
  intro G
  rfl
set_option maxRecDepth 100000 in
theorem fm_r16 {a0 : Int32} {a1 : Int32} {a2 : Int32} {a3 : Int32} : ∀ G : ez_F, fx_up X 5 G 193 117 [.ref 35, .int a0, .int a1, .int a2] [.int a3] (ev_hp I J R T) cz kz = G 193 132 [.ref 35, .int a0, .int a1, .int a3] [.int (2 : Int32), .ref 53] (ev_hp I J R T) cz kz := by
  intro G
  rfl
set_option maxRecDepth 100000 in
theorem fm_r17 {a0 : Int32} {a1 : Int32} {a2 : Int32} : ∀ G : ez_F, fx_up X 3 G 193 31 [.ref 35, .int a0, .int a1, .int a2] [] (ev_hp I J R T) cz kz = ev_C G 231 [.ref 35, .int a2] (ev_hp I J R T) fun r h1 c1 k1 => G 193 36 [.ref 35, .int a0, .int a1, .int a2] (r.toList ++ []) h1 (cz + c1) (kz + k1) := by
  intro G
  rfl
theorem gv_23 {a i : Int32}
    (H : (((I 35 24) ≤ i → (ev_ix (0 : Int32) 4 → (ev_ix (1 : Int32) 4 → (((I 53 (0 : Int32).toNatClampNeg) ≤ (I 53 (1 : Int32).toNatClampNeg) → (ev_ix (1 : Int32) 4 → (ev_ix (2 : Int32) 4 → (((I 53 (2 : Int32).toNatClampNeg) ≤ (I 53 (1 : Int32).toNatClampNeg) → Q (some (.int (I 53 (1 : Int32).toNatClampNeg))) (ev_hp I J R T)) ∧ (¬ ((I 53 (2 : Int32).toNatClampNeg) ≤ (I 53 (1 : Int32).toNatClampNeg)) → (ev_ix (2 : Int32) 4 → Q (some (.int (I 53 (2 : Int32).toNatClampNeg))) (ev_hp I J R T))))))) ∧ (¬ ((I 53 (0 : Int32).toNatClampNeg) ≤ (I 53 (1 : Int32).toNatClampNeg)) → (ev_ix (0 : Int32) 4 → (ev_ix (2 : Int32) 4 → (((I 53 (2 : Int32).toNatClampNeg) ≤ (I 53 (0 : Int32).toNatClampNeg) → Q (some (.int (I 53 (0 : Int32).toNatClampNeg))) (ev_hp I J R T)) ∧ (¬ ((I 53 (2 : Int32).toNatClampNeg) ≤ (I 53 (0 : Int32).toNatClampNeg)) → (ev_ix (2 : Int32) 4 → Q (some (.int (I 53 (2 : Int32).toNatClampNeg))) (ev_hp I J R T))))))))))) ∧ (¬ ((I 35 24) ≤ i) → (∃ Q1 : pw_Q, pe N X 231 [.ref 35, .int i] (ev_hp I J R T) Q1 ∧ ∀ (r : Option Value) (h1 : ez_H), Q1 r h1 → pw N X 193 36 [.ref 35, .int a, .int (-1 : Int32), .int i] (r.toList ++ []) h1 Q)))) : pw (N + 1) X 193 23 [.ref 35, .int a, .int (-1 : Int32), .int i] [] (ev_hp I J R T) Q := by
  refine pw_seg (by decide) (fun _ _ => fm_r4) ?_
  refine pw_p (pw_if (by decide) (fun _ _ => fm_r5) (fun w1 => ?_) (fun w1 => ?_))
  · have h1 := H.1 w1
    refine pw_p (pw_seg (by decide) (fun _ _ => fm_r6) ?_)
    refine pw_p (pw_iald (by rfl) (cx_getI (show cx_Ds[53]? = some (0, 4, []) from rfl)) (fun w2 => ?_))
    have h2 := h1 w2
    refine pw_p (pw_seg (by decide) (fun _ _ => fm_r7) ?_)
    refine pw_p (pw_iald (by rfl) (cx_getI (show cx_Ds[53]? = some (0, 4, []) from rfl)) (fun w2 => ?_))
    have h2 := h2 w2
    refine pw_p (pw_if (by decide) (fun _ _ => fm_r8) (fun w2 => ?_) (fun w2 => ?_))
    · have h2 := h2.1 w2
      refine pw_p (pw_seg (by decide) (fun _ _ => fm_r9) ?_)
      refine pw_p (pw_iald (by rfl) (cx_getI (show cx_Ds[53]? = some (0, 4, []) from rfl)) (fun w3 => ?_))
      have h3 := h2 w3
      refine pw_p (pw_seg (by decide) (fun _ _ => fm_r10) ?_)
      refine pw_p (pw_iald (by rfl) (cx_getI (show cx_Ds[53]? = some (0, 4, []) from rfl)) (fun w3 => ?_))
      have h3 := h3 w3
      refine pw_p (pw_if (by decide) (fun _ _ => fm_r11) (fun w3 => ?_) (fun w3 => ?_))
      · have h3 := h3.1 w3
        exact pw_p (pw_ret (by decide) (fun _ _ => fm_r12) h3)
      · have h3 := h3.2 w3
        refine pw_p (pw_seg (by decide) (fun _ _ => fm_r13) ?_)
        refine pw_p (pw_iald (by rfl) (cx_getI (show cx_Ds[53]? = some (0, 4, []) from rfl)) (fun w4 => ?_))
        have h4 := h3 w4
        exact pw_p (pw_ret (by decide) (fun _ _ => fm_r14) h4)
    · have h2 := h2.2 w2
      refine pw_p (pw_seg (by decide) (fun _ _ => fm_r15) ?_)
      refine pw_p (pw_iald (by rfl) (cx_getI (show cx_Ds[53]? = some (0, 4, []) from rfl)) (fun w3 => ?_))
      have h3 := h2 w3
      refine pw_p (pw_seg (by decide) (fun _ _ => fm_r16) ?_)
      refine pw_p (pw_iald (by rfl) (cx_getI (show cx_Ds[53]? = some (0, 4, []) from rfl)) (fun w3 => ?_))
      have h3 := h3 w3
      refine pw_p (pw_if (by decide) (fun _ _ => fm_r11) (fun w3 => ?_) (fun w3 => ?_))
      · have h3 := h3.1 w3
        exact pw_p (pw_ret (by decide) (fun _ _ => fm_r12) h3)
      · have h3 := h3.2 w3
        refine pw_p (pw_seg (by decide) (fun _ _ => fm_r13) ?_)
        refine pw_p (pw_iald (by rfl) (cx_getI (show cx_Ds[53]? = some (0, 4, []) from rfl)) (fun w4 => ?_))
        have h4 := h3 w4
        exact pw_p (pw_ret (by decide) (fun _ _ => fm_r14) h4)
  · have h1 := H.2 w1
    obtain ⟨Q1, hc, hk⟩ := h1
    exact pw_p (pw_call (by decide) (fun _ _ => fm_r17) hc hk)
set_option maxRecDepth 100000 in
theorem fm_r18 {a0 : Int32} {a1 : Int32} {a2 : Int32} : ∀ G : ez_F, fx_up X 3 G 193 36 [.ref 35, .int a0, .int a1, .int a2] [] (ev_hp I J R T) cz kz = ev_C G 176 [.ref 35, .int a0] (ev_hp I J R T) fun r h1 c1 k1 => G 193 41 [.ref 35, .int a0, .int a1, .int a2] (r.toList ++ []) h1 (cz + c1) (kz + k1) := by
  intro G
  rfl
theorem gv_36 {a i : Int32}
    (H : (∃ Q1 : pw_Q, pe N X 176 [.ref 35, .int a] (ev_hp I J R T) Q1 ∧ ∀ (r : Option Value) (h1 : ez_H), Q1 r h1 → pw N X 193 41 [.ref 35, .int a, .int (-1 : Int32), .int i] (r.toList ++ []) h1 Q)) : pw (N + 1) X 193 36 [.ref 35, .int a, .int (-1 : Int32), .int i] [] (ev_hp I J R T) Q := by
  obtain ⟨Q1, hc, hk⟩ := H
  exact pw_call (by decide) (fun _ _ => fm_r18) hc hk
set_option maxRecDepth 100000 in
theorem fm_r19 {a0 : Int32} {a1 : Int32} {a2 : Int32} {a3 : Int32} : ∀ G : ez_F, fx_up X 4 G 193 41 [.ref 35, .int a0, .int a1, .int a2] [.int a3] (ev_hp I J R T) cz kz = bif decide (¬ a1 = (-1 : Int32)) then G 193 53 [.ref 35, .int a0, .int a1, .int a2, .int a3] [] (ev_hp I J R T) cz kz else G 193 48 [.ref 35, .int a0, .int a1, .int a2, .int a3] [] (ev_hp I J R T) cz kz := by
  intro G
  rfl
set_option maxRecDepth 100000 in
theorem fm_r20 {a0 : Int32} {a1 : Int32} {a2 : Int32} {a3 : Int32} : ∀ G : ez_F, fx_up X 7 G 193 48 [.ref 35, .int a0, .int a1, .int a2, .int a3] [] (ev_hp I J R T) cz kz = G 193 86 [.ref 35, .int a0, .int a1, .int a2, .int a3] [.int a3, .ref 53, .int a3, .ref 53] (ev_hp I J R T) cz kz := by
  intro G
  rfl
set_option maxRecDepth 100000 in
theorem fm_r21 {a0 : Int32} {a1 : Int32} {a2 : Int32} {a3 : Int32} {a4 : Int32} {a5 : Int32} : ∀ G : ez_F, fx_up X 2 G 193 87 [.ref 35, .int a0, .int a1, .int a2, .int a3] [.int a4, .int a5, .ref 53] (ev_hp I J R T) cz kz = G 193 89 [.ref 35, .int a0, .int a1, .int a2, .int a3] [.int (a4 + (1 : Int32)), .int a5, .ref 53] (ev_hp I J R T) cz kz := by
  intro G
  rfl
set_option maxRecDepth 100000 in
theorem fm_r22 {a0 : Int32} {a1 : Int32} {a2 : Int32} {a3 : Int32} : ∀ G : ez_F, fx_up X 2 G 193 90 [.ref 35, .int a0, .int a1, .int a2, .int a3] [] (ev_hp I J R T) cz kz = G 193 23 [.ref 35, .int a0, .int a1, .int (a2 + (1 : Int32)), .int a3] [] (ev_hp I J R T) cz kz := by
  intro G
  rfl
theorem gv_41 {v a i : Int32}
    (H : (ev_ix v 4 → (ev_ix v 4 → pw N X 193 23 [.ref 35, .int a, .int (-1 : Int32), .int (i + (1 : Int32))] [] (ev_hp (ev_sI I 53 (upd (I 53) v.toNatClampNeg ((I 53 v.toNatClampNeg) + (1 : Int32)))) J R T) Q))) : pw (N + 1) X 193 41 [.ref 35, .int a, .int (-1 : Int32), .int i] [.int v] (ev_hp I J R T) Q := by
  refine pw_if (by decide) (fun _ _ => fm_r19) (fun w1 => ?_) (fun w1 => ?_)
  · exact absurd w1 (by decide)
  refine pw_p (pw_seg (by decide) (fun _ _ => fm_r20) ?_)
  refine pw_p (pw_iald (by rfl) (cx_getI (show cx_Ds[53]? = some (0, 4, []) from rfl)) (fun w1 => ?_))
  have h1 := H w1
  refine pw_p (pw_seg (by decide) (fun _ _ => fm_r21) ?_)
  refine pw_p (pw_iast (by rfl) (cx_getI (show cx_Ds[53]? = some (0, 4, []) from rfl)) (cx_setI (show cx_Ds[53]? = some (0, 4, []) from rfl) _) (fun w1 => ?_))
  have h1 := h1 w1
  refine pw_p (pw_seg (by decide) (fun _ _ => fm_r22) ?_)
  refine pw_cutl (by rfl) ?_
  exact h1
set_option maxRecDepth 100000 in
theorem fm_r23  : ∀ G : ez_F, fx_up X 2 G 207 0 [.ref 35] [] (ev_hp I J R T) cz kz = ev_C G 188 [.ref 35] (ev_hp I J R T) fun r h1 c1 k1 => G 207 4 [.ref 35] (r.toList ++ []) h1 (cz + c1) (kz + k1) := by
  intro G
  rfl
theorem ml_0 
    (H : (∃ Q1 : pw_Q, pe N X 188 [.ref 35] (ev_hp I J R T) Q1 ∧ ∀ (r : Option Value) (h1 : ez_H), Q1 r h1 → pw N X 207 4 [.ref 35] (r.toList ++ []) h1 Q)) : pw (N + 1) X 207 0 [.ref 35] [] (ev_hp I J R T) Q := by
  obtain ⟨Q1, hc, hk⟩ := H
  exact pw_call (by decide) (fun _ _ => fm_r23) hc hk
set_option maxRecDepth 100000 in
theorem fm_r24 {a0 : Int32} : ∀ G : ez_F, fx_up X 1 G 207 4 [.ref 35] [.int a0] (ev_hp I J R T) cz kz = bif decide (a0 = (0 : Int32)) then G 207 14 [.ref 35] [] (ev_hp I J R T) cz kz else G 207 7 [.ref 35] [] (ev_hp I J R T) cz kz := by
  intro G
  rfl
set_option maxRecDepth 100000 in
theorem fm_r25  : ∀ G : ez_F, fx_up X 2 G 207 14 [.ref 35] [] (ev_hp I J R T) cz kz = some (some (.int (-6 : Int32)), (ev_hp I J R T), cz, kz) := by
  intro G
  rfl
set_option maxRecDepth 100000 in
theorem fm_r26  : ∀ G : ez_F, fx_up X 2 G 207 7 [.ref 35] [] (ev_hp I J R T) cz kz = G 207 11 [.ref 35] [.int (I 35 24)] (ev_hp I J R T) cz kz := by
  intro G
  rfl
set_option maxRecDepth 100000 in
theorem fm_r27 {a0 : Int32} : ∀ G : ez_F, fx_up X 2 G 207 11 [.ref 35] [.int a0] (ev_hp I J R T) cz kz = some (some (.int a0), (ev_hp I J R T), cz, kz) := by
  intro G
  rfl
theorem ml_4 {v : Int32}
    (H : ((v = (0 : Int32) → Q (some (.int (-6 : Int32))) (ev_hp I J R T)) ∧ (¬ (v = (0 : Int32)) → Q (some (.int (I 35 24))) (ev_hp I J R T)))) : pw (N + 1) X 207 4 [.ref 35] [.int v] (ev_hp I J R T) Q := by
  refine pw_if (by decide) (fun _ _ => fm_r24) (fun w1 => ?_) (fun w1 => ?_)
  · have h1 := H.1 w1
    exact pw_p (pw_ret (by decide) (fun _ _ => fm_r25) h1)
  · have h1 := H.2 w1
    refine pw_p (pw_seg (by decide) (fun _ _ => fm_r26) ?_)
    exact pw_p (pw_ret (by decide) (fun _ _ => fm_r27) h1)
set_option maxRecDepth 100000 in
theorem fm_r28 {a0 : Int32} : ∀ G : ez_F, fx_up X 2 G 232 0 [.ref 35, .int a0] [] (ev_hp I J R T) cz kz = bif decide ((0 : Int32) ≤ a0) then G 232 7 [.ref 35, .int a0] [] (ev_hp I J R T) cz kz else G 232 4 [.ref 35, .int a0] [] (ev_hp I J R T) cz kz := by
  intro G
  rfl
set_option maxRecDepth 100000 in
theorem fm_r29 {a0 : Int32} : ∀ G : ez_F, fx_up X 2 G 232 7 [.ref 35, .int a0] [] (ev_hp I J R T) cz kz = ev_C G 188 [.ref 35] (ev_hp I J R T) fun r h1 c1 k1 => G 232 11 [.ref 35, .int a0] (r.toList ++ []) h1 (cz + c1) (kz + k1) := by
  intro G
  rfl
set_option maxRecDepth 100000 in
theorem fm_r30 {a0 : Int32} : ∀ G : ez_F, fx_up X 2 G 232 4 [.ref 35, .int a0] [] (ev_hp I J R T) cz kz = some (some (.int (-3 : Int32)), (ev_hp I J R T), cz, kz) := by
  intro G
  rfl
theorem mh_0 {x : Int32}
    (H : (((0 : Int32) ≤ x → (∃ Q1 : pw_Q, pe N X 188 [.ref 35] (ev_hp I J R T) Q1 ∧ ∀ (r : Option Value) (h1 : ez_H), Q1 r h1 → pw N X 232 11 [.ref 35, .int x] (r.toList ++ []) h1 Q)) ∧ (¬ ((0 : Int32) ≤ x) → Q (some (.int (-3 : Int32))) (ev_hp I J R T)))) : pw (N + 1) X 232 0 [.ref 35, .int x] [] (ev_hp I J R T) Q := by
  refine pw_if (by decide) (fun _ _ => fm_r28) (fun w1 => ?_) (fun w1 => ?_)
  · have h1 := H.1 w1
    obtain ⟨Q1, hc, hk⟩ := h1
    exact pw_p (pw_call (by decide) (fun _ _ => fm_r29) hc hk)
  · have h1 := H.2 w1
    exact pw_p (pw_ret (by decide) (fun _ _ => fm_r30) h1)
set_option maxRecDepth 100000 in
theorem fm_r31 {a0 : Int32} {a1 : Int32} : ∀ G : ez_F, fx_up X 1 G 232 11 [.ref 35, .int a0] [.int a1] (ev_hp I J R T) cz kz = bif decide (¬ a1 = (0 : Int32)) then G 232 17 [.ref 35, .int a0] [] (ev_hp I J R T) cz kz else G 232 14 [.ref 35, .int a0] [] (ev_hp I J R T) cz kz := by
  intro G
  rfl
set_option maxRecDepth 100000 in
theorem fm_r32 {a0 : Int32} : ∀ G : ez_F, fx_up X 3 G 232 17 [.ref 35, .int a0] [] (ev_hp I J R T) cz kz = G 232 22 [.ref 35, .int a0] [.int (I 35 24), .int a0] (ev_hp I J R T) cz kz := by
  intro G
  rfl
set_option maxRecDepth 100000 in
theorem fm_r33 {a0 : Int32} {a1 : Int32} {a2 : Int32} : ∀ G : ez_F, fx_up X 1 G 232 22 [.ref 35, .int a0] [.int a1, .int a2] (ev_hp I J R T) cz kz = bif decide (a1 ≤ a2) then G 232 34 [.ref 35, .int a0] [] (ev_hp I J R T) cz kz else G 232 25 [.ref 35, .int a0] [] (ev_hp I J R T) cz kz := by
  intro G
  rfl
set_option maxRecDepth 100000 in
theorem fm_r34 {a0 : Int32} : ∀ G : ez_F, fx_up X 2 G 232 34 [.ref 35, .int a0] [] (ev_hp I J R T) cz kz = some (some (.int (-1 : Int32)), (ev_hp I J R T), cz, kz) := by
  intro G
  rfl
set_option maxRecDepth 100000 in
theorem fm_r35 {a0 : Int32} : ∀ G : ez_F, fx_up X 3 G 232 25 [.ref 35, .int a0] [] (ev_hp I J R T) cz kz = G 232 30 [.ref 35, .int a0] [.int a0, .ref 49] (ev_hp I J R T) cz kz := by
  intro G
  rfl
set_option maxRecDepth 100000 in
theorem fm_r36 {a0 : Int32} {a1 : Int32} : ∀ G : ez_F, fx_up X 2 G 232 31 [.ref 35, .int a0] [.int a1] (ev_hp I J R T) cz kz = some (some (.int a1), (ev_hp I J R T), cz, kz) := by
  intro G
  rfl
set_option maxRecDepth 100000 in
theorem fm_r37 {a0 : Int32} : ∀ G : ez_F, fx_up X 2 G 232 14 [.ref 35, .int a0] [] (ev_hp I J R T) cz kz = some (some (.int (-6 : Int32)), (ev_hp I J R T), cz, kz) := by
  intro G
  rfl
theorem mh_11 {v x : Int32}
    (H : ((¬ v = (0 : Int32) → (((I 35 24) ≤ x → Q (some (.int (-1 : Int32))) (ev_hp I J R T)) ∧ (¬ ((I 35 24) ≤ x) → (ev_ix x 10001 → Q (some (.int (I 49 x.toNatClampNeg))) (ev_hp I J R T))))) ∧ (¬ (¬ v = (0 : Int32)) → Q (some (.int (-6 : Int32))) (ev_hp I J R T)))) : pw (N + 1) X 232 11 [.ref 35, .int x] [.int v] (ev_hp I J R T) Q := by
  refine pw_if (by decide) (fun _ _ => fm_r31) (fun w1 => ?_) (fun w1 => ?_)
  · have h1 := H.1 w1
    refine pw_p (pw_seg (by decide) (fun _ _ => fm_r32) ?_)
    refine pw_p (pw_if (by decide) (fun _ _ => fm_r33) (fun w2 => ?_) (fun w2 => ?_))
    · have h2 := h1.1 w2
      exact pw_p (pw_ret (by decide) (fun _ _ => fm_r34) h2)
    · have h2 := h1.2 w2
      refine pw_p (pw_seg (by decide) (fun _ _ => fm_r35) ?_)
      refine pw_p (pw_iald (by rfl) (cx_getI (show cx_Ds[49]? = some (0, 10001, []) from rfl)) (fun w3 => ?_))
      have h3 := h2 w3
      exact pw_p (pw_ret (by decide) (fun _ _ => fm_r36) h3)
  · have h1 := H.2 w1
    exact pw_p (pw_ret (by decide) (fun _ _ => fm_r37) h1)
set_option maxRecDepth 100000 in
theorem fm_r38 {a0 : Int32} : ∀ G : ez_F, fx_up X 3 G 227 0 [.ref 35, .int a0] [] (ev_hp I J R T) cz kz = ev_C G 200 [.ref 35, .int a0] (ev_hp I J R T) fun r h1 c1 k1 => G 227 5 [.ref 35, .int a0] (r.toList ++ []) h1 (cz + c1) (kz + k1) := by
  intro G
  rfl
set_option maxRecDepth 100000 in
theorem fm_r39 {a0 : Int32} {a1 : Int32} : ∀ G : ez_F, fx_up X 1 G 227 5 [.ref 35, .int a0] [.int a1] (ev_hp I J R T) cz kz = bif decide (¬ a1 = (0 : Int32)) then G 227 11 [.ref 35, .int a0] [] (ev_hp I J R T) cz kz else G 227 8 [.ref 35, .int a0] [] (ev_hp I J R T) cz kz := by
  intro G
  rfl
set_option maxRecDepth 100000 in
theorem fm_r40 {a0 : Int32} : ∀ G : ez_F, fx_up X 2 G 227 11 [.ref 35, .int a0] [] (ev_hp I J R T) cz kz = ev_C G 188 [.ref 35] (ev_hp I J R T) fun r h1 c1 k1 => G 227 15 [.ref 35, .int a0] (r.toList ++ []) h1 (cz + c1) (kz + k1) := by
  intro G
  rfl
set_option maxRecDepth 100000 in
theorem fm_r41 {a0 : Int32} : ∀ G : ez_F, fx_up X 2 G 227 8 [.ref 35, .int a0] [] (ev_hp I J R T) cz kz = some (some (.int (-2 : Int32)), (ev_hp I J R T), cz, kz) := by
  intro G
  rfl
theorem mz_0 {x : Int32}
    (H : ((¬ (ev_il (x.toInt64) 0 (((((I 35 0) * (I 35 1))) - (1 : Int32)).toInt64)) = (0 : Int32) → (∃ Q1 : pw_Q, pe N X 188 [.ref 35] (ev_hp I J R T) Q1 ∧ ∀ (r : Option Value) (h1 : ez_H), Q1 r h1 → pw N X 227 15 [.ref 35, .int x] (r.toList ++ []) h1 Q)) ∧ (¬ (¬ (ev_il (x.toInt64) 0 (((((I 35 0) * (I 35 1))) - (1 : Int32)).toInt64)) = (0 : Int32)) → Q (some (.int (-2 : Int32))) (ev_hp I J R T)))) : pw (N + 1) X 227 0 [.ref 35, .int x] [] (ev_hp I J R T) Q := by
  refine pw_callp (by decide) (fun _ _ => fm_r38) (pe_is (em_isCell _ _ _ _ _ _)) ?_
  refine pw_p (pw_if (by decide) (fun _ _ => fm_r39) (fun w1 => ?_) (fun w1 => ?_))
  · have h1 := H.1 w1
    obtain ⟨Q1, hc, hk⟩ := h1
    exact pw_p (pw_call (by decide) (fun _ _ => fm_r40) hc hk)
  · have h1 := H.2 w1
    exact pw_p (pw_ret (by decide) (fun _ _ => fm_r41) h1)
set_option maxRecDepth 100000 in
theorem fm_r42 {a0 : Int32} {a1 : Int32} : ∀ G : ez_F, fx_up X 1 G 227 15 [.ref 35, .int a0] [.int a1] (ev_hp I J R T) cz kz = bif decide (a1 = (0 : Int32)) then G 227 26 [.ref 35, .int a0] [] (ev_hp I J R T) cz kz else G 227 18 [.ref 35, .int a0] [] (ev_hp I J R T) cz kz := by
  intro G
  rfl
set_option maxRecDepth 100000 in
theorem fm_r43 {a0 : Int32} : ∀ G : ez_F, fx_up X 2 G 227 26 [.ref 35, .int a0] [] (ev_hp I J R T) cz kz = some (some (.int (-6 : Int32)), (ev_hp I J R T), cz, kz) := by
  intro G
  rfl
set_option maxRecDepth 100000 in
theorem fm_r44 {a0 : Int32} : ∀ G : ez_F, fx_up X 3 G 227 18 [.ref 35, .int a0] [] (ev_hp I J R T) cz kz = ev_C G 228 [.ref 35, .int a0] (ev_hp I J R T) fun r h1 c1 k1 => G 227 23 [.ref 35, .int a0] (r.toList ++ []) h1 (cz + c1) (kz + k1) := by
  intro G
  rfl
theorem mz_15 {v x : Int32}
    (H : ((v = (0 : Int32) → Q (some (.int (-6 : Int32))) (ev_hp I J R T)) ∧ (¬ (v = (0 : Int32)) → (∃ Q1 : pw_Q, pe N X 228 [.ref 35, .int x] (ev_hp I J R T) Q1 ∧ ∀ (r : Option Value) (h1 : ez_H), Q1 r h1 → pw N X 227 23 [.ref 35, .int x] (r.toList ++ []) h1 Q)))) : pw (N + 1) X 227 15 [.ref 35, .int x] [.int v] (ev_hp I J R T) Q := by
  refine pw_if (by decide) (fun _ _ => fm_r42) (fun w1 => ?_) (fun w1 => ?_)
  · have h1 := H.1 w1
    exact pw_p (pw_ret (by decide) (fun _ _ => fm_r43) h1)
  · have h1 := H.2 w1
    obtain ⟨Q1, hc, hk⟩ := h1
    exact pw_p (pw_call (by decide) (fun _ _ => fm_r44) hc hk)
set_option maxRecDepth 100000 in
theorem fm_r45 {a0 : Int32} {a1 : Int32} : ∀ G : ez_F, fx_up X 2 G 227 23 [.ref 35, .int a0] [.int a1] (ev_hp I J R T) cz kz = some (some (.int a1), (ev_hp I J R T), cz, kz) := by
  intro G
  rfl
theorem mz_23 {v x : Int32}
    (H : Q (some (.int v)) (ev_hp I J R T)) : pw (N + 1) X 227 23 [.ref 35, .int x] [.int v] (ev_hp I J R T) Q := by
  exact pw_ret (by decide) (fun _ _ => fm_r45) H
set_option maxRecDepth 100000 in
theorem fm_r46 {a0 : Int32} : ∀ G : ez_F, fx_up X 5 G 225 0 [.ref 35, .int a0] [] (ev_hp I J R T) cz kz = ev_C G 198 [.long a0.toInt64, .long (0 : Int64), .long (1 : Int64)] (ev_hp I J R T) fun r h1 c1 k1 => G 225 7 [.ref 35, .int a0] (r.toList ++ []) h1 (cz + c1) (kz + k1) := by
  intro G
  rfl
set_option maxRecDepth 100000 in
theorem fm_r47 {a0 : Int32} {a1 : Int32} : ∀ G : ez_F, fx_up X 1 G 225 7 [.ref 35, .int a0] [.int a1] (ev_hp I J R T) cz kz = bif decide (¬ a1 = (0 : Int32)) then G 225 14 [.ref 35, .int a0] [] (ev_hp I J R T) cz kz else G 225 10 [.ref 35, .int a0] [] (ev_hp I J R T) cz kz := by
  intro G
  rfl
set_option maxRecDepth 100000 in
theorem fm_r48 {a0 : Int32} : ∀ G : ez_F, fx_up X 2 G 225 14 [.ref 35, .int a0] [] (ev_hp I J R T) cz kz = ev_C G 188 [.ref 35] (ev_hp I J R T) fun r h1 c1 k1 => G 225 18 [.ref 35, .int a0] (r.toList ++ []) h1 (cz + c1) (kz + k1) := by
  intro G
  rfl
set_option maxRecDepth 100000 in
theorem fm_r49 {a0 : Int32} : ∀ G : ez_F, fx_up X 2 G 225 10 [.ref 35, .int a0] [] (ev_hp I J R T) cz kz = some (some (.long (18446744073709551613 : Int64)), (ev_hp I J R T), cz, kz) := by
  intro G
  rfl
theorem mq_0 {x : Int32}
    (H : ((¬ (ev_il x.toInt64 (0 : Int64) (1 : Int64)) = (0 : Int32) → (∃ Q1 : pw_Q, pe N X 188 [.ref 35] (ev_hp I J R T) Q1 ∧ ∀ (r : Option Value) (h1 : ez_H), Q1 r h1 → pw N X 225 18 [.ref 35, .int x] (r.toList ++ []) h1 Q)) ∧ (¬ (¬ (ev_il x.toInt64 (0 : Int64) (1 : Int64)) = (0 : Int32)) → Q (some (.long (18446744073709551613 : Int64))) (ev_hp I J R T)))) : pw (N + 1) X 225 0 [.ref 35, .int x] [] (ev_hp I J R T) Q := by
  refine pw_callp (by decide) (fun _ _ => fm_r46) (pe_is (ec_in _ _ _ _ _)) ?_
  refine pw_p (pw_if (by decide) (fun _ _ => fm_r47) (fun w1 => ?_) (fun w1 => ?_))
  · have h1 := H.1 w1
    obtain ⟨Q1, hc, hk⟩ := h1
    exact pw_p (pw_call (by decide) (fun _ _ => fm_r48) hc hk)
  · have h1 := H.2 w1
    exact pw_p (pw_ret (by decide) (fun _ _ => fm_r49) h1)
set_option maxRecDepth 100000 in
theorem fm_r50 {a0 : Int32} {a1 : Int32} : ∀ G : ez_F, fx_up X 1 G 225 18 [.ref 35, .int a0] [.int a1] (ev_hp I J R T) cz kz = bif decide (¬ a1 = (0 : Int32)) then G 225 25 [.ref 35, .int a0] [] (ev_hp I J R T) cz kz else G 225 21 [.ref 35, .int a0] [] (ev_hp I J R T) cz kz := by
  intro G
  rfl
set_option maxRecDepth 100000 in
theorem fm_r51 {a0 : Int32} : ∀ G : ez_F, fx_up X 4 G 225 25 [.ref 35, .int a0] [] (ev_hp I J R T) cz kz = G 225 30 [.ref 35, .int a0, .long (0 : Int64), ez_fill, .int (0 : Int32)] [] (ev_hp I J R T) cz kz := by
  intro G
  rfl
set_option maxRecDepth 100000 in
theorem fm_r52 {a0 : Int32} : ∀ G : ez_F, fx_up X 2 G 225 21 [.ref 35, .int a0] [] (ev_hp I J R T) cz kz = some (some (.long (18446744073709551610 : Int64)), (ev_hp I J R T), cz, kz) := by
  intro G
  rfl
theorem mq_18 {v x : Int32}
    (H : ((¬ v = (0 : Int32) → pw N X 225 30 [.ref 35, .int x, .long (0 : Int64), ez_fill, .int (0 : Int32)] [] (ev_hp I J R T) Q) ∧ (¬ (¬ v = (0 : Int32)) → Q (some (.long (18446744073709551610 : Int64))) (ev_hp I J R T)))) : pw (N + 1) X 225 18 [.ref 35, .int x] [.int v] (ev_hp I J R T) Q := by
  refine pw_if (by decide) (fun _ _ => fm_r50) (fun w1 => ?_) (fun w1 => ?_)
  · have h1 := H.1 w1
    refine pw_p (pw_seg (by decide) (fun _ _ => fm_r51) ?_)
    exact h1
  · have h1 := H.2 w1
    exact pw_p (pw_ret (by decide) (fun _ _ => fm_r52) h1)
set_option maxRecDepth 100000 in
theorem fm_r53 {a0 : Int32} {a1 : Int64} {a2 : Int32} : ∀ G : ez_F, fx_up X 3 G 225 30 [.ref 35, .int a0, .long a1, ez_fill, .int a2] [] (ev_hp I J R T) cz kz = ev_C G 179 [.ref 35] (ev_hp I J R T) fun r h1 c1 k1 => G 225 36 [.ref 35, .int a0, .long a1, ez_fill, .int a2] (r.toList ++ [.int a2]) h1 (cz + c1) (kz + k1) := by
  intro G
  rfl
set_option maxRecDepth 100000 in
theorem fm_r54 {a0 : Int32} {a1 : Int64} {a2 : Int32} {a3 : Int32} {a4 : Int32} : ∀ G : ez_F, fx_up X 1 G 225 36 [.ref 35, .int a0, .long a1, ez_fill, .int a2] [.int a3, .int a4] (ev_hp I J R T) cz kz = bif decide (a3 ≤ a4) then G 225 77 [.ref 35, .int a0, .long a1, ez_fill, .int a2] [] (ev_hp I J R T) cz kz else G 225 39 [.ref 35, .int a0, .long a1, ez_fill, .int a2] [] (ev_hp I J R T) cz kz := by
  intro G
  rfl
set_option maxRecDepth 100000 in
theorem fm_r55 {a0 : Int32} {a1 : Int64} {a2 : Int32} : ∀ G : ez_F, fx_up X 2 G 225 77 [.ref 35, .int a0, .long a1, ez_fill, .int a2] [] (ev_hp I J R T) cz kz = some (some (.long a1), (ev_hp I J R T), cz, kz) := by
  intro G
  rfl
set_option maxRecDepth 100000 in
theorem fm_r56 {a0 : Int32} {a1 : Int64} {a2 : Int32} : ∀ G : ez_F, fx_up X 4 G 225 39 [.ref 35, .int a0, .long a1, ez_fill, .int a2] [] (ev_hp I J R T) cz kz = ev_C G 228 [.ref 35, .int a2] (ev_hp I J R T) fun r h1 c1 k1 => G 225 46 [.ref 35, .int a0, .long a1, ez_fill, .int a2] (r.toList ++ [.long a1]) h1 (cz + c1) (kz + k1) := by
  intro G
  rfl
theorem mq_30 {x c : Int32} {z : Int64}
    (H : ((((I 35 0) * (I 35 1)) ≤ c → Q (some (.long z)) (ev_hp I J R T)) ∧ (¬ (((I 35 0) * (I 35 1)) ≤ c) → (∃ Q1 : pw_Q, pe N X 228 [.ref 35, .int c] (ev_hp I J R T) Q1 ∧ ∀ (r : Option Value) (h1 : ez_H), Q1 r h1 → pw N X 225 46 [.ref 35, .int x, .long z, ez_fill, .int c] (r.toList ++ [.long z]) h1 Q)))) : pw (N + 1) X 225 30 [.ref 35, .int x, .long z, ez_fill, .int c] [] (ev_hp I J R T) Q := by
  refine pw_callp (by decide) (fun _ _ => fm_r53) (pe_mcount) ?_
  refine pw_p (pw_if (by decide) (fun _ _ => fm_r54) (fun w1 => ?_) (fun w1 => ?_))
  · have h1 := H.1 w1
    exact pw_p (pw_ret (by decide) (fun _ _ => fm_r55) h1)
  · have h1 := H.2 w1
    obtain ⟨Q1, hc, hk⟩ := h1
    exact pw_p (pw_call (by decide) (fun _ _ => fm_r56) hc hk)
set_option maxRecDepth 100000 in
theorem fm_r57 {a0 : Int32} {a1 : Int64} {a2 : Int32} {a3 : Int32} {a4 : Int64} : ∀ G : ez_F, fx_up X 2 G 225 46 [.ref 35, .int a0, .long a1, ez_fill, .int a2] [.int a3, .long a4] (ev_hp I J R T) cz kz = bif decide (¬ a0 = (0 : Int32)) then G 225 57 [.ref 35, .int a0, .long a1, ez_fill, .int a2] [.int a3, .long a4] (ev_hp I J R T) cz kz else G 225 50 [.ref 35, .int a0, .long a1, ez_fill, .int a2] [.int a3, .long a4] (ev_hp I J R T) cz kz := by
  intro G
  rfl
set_option maxRecDepth 100000 in
theorem fm_r58 {a0 : Int32} {a1 : Int64} {a2 : Int32} {a3 : Int32} {a4 : Int64} : ∀ G : ez_F, fx_up X 2 G 225 57 [.ref 35, .int a0, .long a1, ez_fill, .int a2] [.int a3, .long a4] (ev_hp I J R T) cz kz = bif decide (¬ a3 = (0 : Int32)) then G 225 68 [.ref 35, .int a0, .long a1, ez_fill, .int a2] [.long a4] (ev_hp I J R T) cz kz else G 225 61 [.ref 35, .int a0, .long a1, ez_fill, .int a2] [.long a4] (ev_hp I J R T) cz kz := by
  intro G
  rfl
set_option maxRecDepth 100000 in
theorem fm_r59 {a0 : Int32} {a1 : Int64} {a2 : Int32} {a3 : Int64} : ∀ G : ez_F, fx_up X 5 G 225 68 [.ref 35, .int a0, .long a1, ez_fill, .int a2] [.long a3] (ev_hp I J R T) cz kz = G 225 30 [.ref 35, .int a0, .long (a3 ||| (0 : Int64)), ez_fill, .int (a2 + (1 : Int32))] [] (ev_hp I J R T) cz kz := by
  intro G
  rfl
set_option maxRecDepth 100000 in
theorem fm_r60 {a0 : Int32} {a1 : Int64} {a2 : Int32} {a3 : Int64} : ∀ G : ez_F, fx_up X 8 G 225 61 [.ref 35, .int a0, .long a1, ez_fill, .int a2] [.long a3] (ev_hp I J R T) cz kz = G 225 30 [.ref 35, .int a0, .long (a3 ||| ((1 : Int64) <<< (a2.toInt64 &&& (63 : Int64)))), ez_fill, .int (a2 + (1 : Int32))] [] (ev_hp I J R T) cz kz := by
  intro G
  rfl
set_option maxRecDepth 100000 in
theorem fm_r61 {a0 : Int32} {a1 : Int64} {a2 : Int32} {a3 : Int32} {a4 : Int64} : ∀ G : ez_F, fx_up X 2 G 225 50 [.ref 35, .int a0, .long a1, ez_fill, .int a2] [.int a3, .long a4] (ev_hp I J R T) cz kz = G 225 54 [.ref 35, .int a0, .long a1, ez_fill, .int a2] [.int (I 35 24), .int a3, .long a4] (ev_hp I J R T) cz kz := by
  intro G
  rfl
set_option maxRecDepth 100000 in
theorem fm_r62 {a0 : Int32} {a1 : Int64} {a2 : Int32} {a3 : Int32} {a4 : Int32} {a5 : Int64} : ∀ G : ez_F, fx_up X 2 G 225 54 [.ref 35, .int a0, .long a1, ez_fill, .int a2] [.int a3, .int a4, .long a5] (ev_hp I J R T) cz kz = bif decide (¬ a4 = a3) then G 225 68 [.ref 35, .int a0, .long a1, ez_fill, .int a2] [.long a5] (ev_hp I J R T) cz kz else G 225 61 [.ref 35, .int a0, .long a1, ez_fill, .int a2] [.long a5] (ev_hp I J R T) cz kz := by
  intro G
  rfl
theorem mq_46 {v x c : Int32} {z : Int64}
    (H : ((¬ x = (0 : Int32) → ((¬ v = (0 : Int32) → pw N X 225 30 [.ref 35, .int x, .long (z ||| (0 : Int64)), ez_fill, .int (c + (1 : Int32))] [] (ev_hp I J R T) Q) ∧ (¬ (¬ v = (0 : Int32)) → pw N X 225 30 [.ref 35, .int x, .long (z ||| ((1 : Int64) <<< (c.toInt64 &&& (63 : Int64)))), ez_fill, .int (c + (1 : Int32))] [] (ev_hp I J R T) Q))) ∧ (¬ (¬ x = (0 : Int32)) → ((¬ v = (I 35 24) → pw N X 225 30 [.ref 35, .int x, .long (z ||| (0 : Int64)), ez_fill, .int (c + (1 : Int32))] [] (ev_hp I J R T) Q) ∧ (¬ (¬ v = (I 35 24)) → pw N X 225 30 [.ref 35, .int x, .long (z ||| ((1 : Int64) <<< (c.toInt64 &&& (63 : Int64)))), ez_fill, .int (c + (1 : Int32))] [] (ev_hp I J R T) Q))))) : pw (N + 1) X 225 46 [.ref 35, .int x, .long z, ez_fill, .int c] [.int v, .long z] (ev_hp I J R T) Q := by
  refine pw_if (by decide) (fun _ _ => fm_r57) (fun w1 => ?_) (fun w1 => ?_)
  · have h1 := H.1 w1
    refine pw_p (pw_if (by decide) (fun _ _ => fm_r58) (fun w2 => ?_) (fun w2 => ?_))
    · have h2 := h1.1 w2
      refine pw_p (pw_seg (by decide) (fun _ _ => fm_r59) ?_)
      exact h2
    · have h2 := h1.2 w2
      refine pw_p (pw_seg (by decide) (fun _ _ => fm_r60) ?_)
      exact h2
  · have h1 := H.2 w1
    refine pw_p (pw_seg (by decide) (fun _ _ => fm_r61) ?_)
    refine pw_p (pw_if (by decide) (fun _ _ => fm_r62) (fun w2 => ?_) (fun w2 => ?_))
    · have h2 := h1.1 w2
      refine pw_p (pw_seg (by decide) (fun _ _ => fm_r59) ?_)
      exact h2
    · have h2 := h1.2 w2
      refine pw_p (pw_seg (by decide) (fun _ _ => fm_r60) ?_)
      exact h2
set_option maxRecDepth 100000 in
theorem fm_r63 {a0 : Int32} {a1 : Int32} : ∀ G : ez_F, fx_up X 3 G 214 0 [.ref 35, .int a0, .int a1] [] (ev_hp I J R T) cz kz = ev_C G 200 [.ref 35, .int a0] (ev_hp I J R T) fun r h1 c1 k1 => G 214 5 [.ref 35, .int a0, .int a1] (r.toList ++ []) h1 (cz + c1) (kz + k1) := by
  intro G
  rfl
set_option maxRecDepth 100000 in
theorem fm_r64 {a0 : Int32} {a1 : Int32} {a2 : Int32} : ∀ G : ez_F, fx_up X 1 G 214 5 [.ref 35, .int a0, .int a1] [.int a2] (ev_hp I J R T) cz kz = bif decide (¬ a2 = (0 : Int32)) then G 214 11 [.ref 35, .int a0, .int a1] [] (ev_hp I J R T) cz kz else G 214 8 [.ref 35, .int a0, .int a1] [] (ev_hp I J R T) cz kz := by
  intro G
  rfl
set_option maxRecDepth 100000 in
theorem fm_r65 {a0 : Int32} {a1 : Int32} : ∀ G : ez_F, fx_up X 5 G 214 11 [.ref 35, .int a0, .int a1] [] (ev_hp I J R T) cz kz = ev_C G 198 [.long a1.toInt64, .long (0 : Int64), .long (2 : Int64)] (ev_hp I J R T) fun r h1 c1 k1 => G 214 20 [.ref 35, .int a0, .int a1] (r.toList ++ []) h1 (cz + c1) (kz + k1) := by
  intro G
  rfl
set_option maxRecDepth 100000 in
theorem fm_r66 {a0 : Int32} {a1 : Int32} {a2 : Int32} : ∀ G : ez_F, fx_up X 1 G 214 20 [.ref 35, .int a0, .int a1] [.int a2] (ev_hp I J R T) cz kz = bif decide (¬ a2 = (0 : Int32)) then G 214 26 [.ref 35, .int a0, .int a1] [] (ev_hp I J R T) cz kz else G 214 23 [.ref 35, .int a0, .int a1] [] (ev_hp I J R T) cz kz := by
  intro G
  rfl
set_option maxRecDepth 100000 in
theorem fm_r67 {a0 : Int32} {a1 : Int32} : ∀ G : ez_F, fx_up X 2 G 214 26 [.ref 35, .int a0, .int a1] [] (ev_hp I J R T) cz kz = ev_C G 188 [.ref 35] (ev_hp I J R T) fun r h1 c1 k1 => G 214 30 [.ref 35, .int a0, .int a1] (r.toList ++ []) h1 (cz + c1) (kz + k1) := by
  intro G
  rfl
set_option maxRecDepth 100000 in
theorem fm_r68 {a0 : Int32} {a1 : Int32} : ∀ G : ez_F, fx_up X 2 G 214 23 [.ref 35, .int a0, .int a1] [] (ev_hp I J R T) cz kz = some (some (.int (-3 : Int32)), (ev_hp I J R T), cz, kz) := by
  intro G
  rfl
set_option maxRecDepth 100000 in
theorem fm_r69 {a0 : Int32} {a1 : Int32} : ∀ G : ez_F, fx_up X 2 G 214 8 [.ref 35, .int a0, .int a1] [] (ev_hp I J R T) cz kz = some (some (.int (-2 : Int32)), (ev_hp I J R T), cz, kz) := by
  intro G
  rfl
theorem mp_0 {x y : Int32}
    (H : ((¬ (ev_il (x.toInt64) 0 (((((I 35 0) * (I 35 1))) - (1 : Int32)).toInt64)) = (0 : Int32) → ((¬ (ev_il y.toInt64 (0 : Int64) (2 : Int64)) = (0 : Int32) → (∃ Q1 : pw_Q, pe N X 188 [.ref 35] (ev_hp I J R T) Q1 ∧ ∀ (r : Option Value) (h1 : ez_H), Q1 r h1 → pw N X 214 30 [.ref 35, .int x, .int y] (r.toList ++ []) h1 Q)) ∧ (¬ (¬ (ev_il y.toInt64 (0 : Int64) (2 : Int64)) = (0 : Int32)) → Q (some (.int (-3 : Int32))) (ev_hp I J R T)))) ∧ (¬ (¬ (ev_il (x.toInt64) 0 (((((I 35 0) * (I 35 1))) - (1 : Int32)).toInt64)) = (0 : Int32)) → Q (some (.int (-2 : Int32))) (ev_hp I J R T)))) : pw (N + 1) X 214 0 [.ref 35, .int x, .int y] [] (ev_hp I J R T) Q := by
  refine pw_callp (by decide) (fun _ _ => fm_r63) (pe_is (em_isCell _ _ _ _ _ _)) ?_
  refine pw_p (pw_if (by decide) (fun _ _ => fm_r64) (fun w1 => ?_) (fun w1 => ?_))
  · have h1 := H.1 w1
    refine pw_p (pw_callp (by decide) (fun _ _ => fm_r65) (pe_is (ec_in _ _ _ _ _)) ?_)
    refine pw_p (pw_if (by decide) (fun _ _ => fm_r66) (fun w2 => ?_) (fun w2 => ?_))
    · have h2 := h1.1 w2
      obtain ⟨Q1, hc, hk⟩ := h2
      exact pw_p (pw_call (by decide) (fun _ _ => fm_r67) hc hk)
    · have h2 := h1.2 w2
      exact pw_p (pw_ret (by decide) (fun _ _ => fm_r68) h2)
  · have h1 := H.2 w1
    exact pw_p (pw_ret (by decide) (fun _ _ => fm_r69) h1)
set_option maxRecDepth 100000 in
theorem fm_r70 {a0 : Int32} {a1 : Int32} {a2 : Int32} : ∀ G : ez_F, fx_up X 1 G 214 30 [.ref 35, .int a0, .int a1] [.int a2] (ev_hp I J R T) cz kz = bif decide (¬ a2 = (0 : Int32)) then G 214 36 [.ref 35, .int a0, .int a1] [] (ev_hp I J R T) cz kz else G 214 33 [.ref 35, .int a0, .int a1] [] (ev_hp I J R T) cz kz := by
  intro G
  rfl
set_option maxRecDepth 100000 in
theorem fm_r71 {a0 : Int32} {a1 : Int32} : ∀ G : ez_F, fx_up X 4 G 214 36 [.ref 35, .int a0, .int a1] [] (ev_hp I J R T) cz kz = ev_C G 193 [.ref 35, .int a0, .int (-1 : Int32)] (ev_hp I J R T) fun r h1 c1 k1 => G 214 42 [.ref 35, .int a0, .int a1] (r.toList ++ []) h1 (cz + c1) (kz + k1) := by
  intro G
  rfl
set_option maxRecDepth 100000 in
theorem fm_r72 {a0 : Int32} {a1 : Int32} : ∀ G : ez_F, fx_up X 2 G 214 33 [.ref 35, .int a0, .int a1] [] (ev_hp I J R T) cz kz = some (some (.int (-6 : Int32)), (ev_hp I J R T), cz, kz) := by
  intro G
  rfl
theorem mp_30 {v x y : Int32}
    (H : ((¬ v = (0 : Int32) → (∃ Q1 : pw_Q, pe N X 193 [.ref 35, .int x, .int (-1 : Int32)] (ev_hp I J R T) Q1 ∧ ∀ (r : Option Value) (h1 : ez_H), Q1 r h1 → pw N X 214 42 [.ref 35, .int x, .int y] (r.toList ++ []) h1 Q)) ∧ (¬ (¬ v = (0 : Int32)) → Q (some (.int (-6 : Int32))) (ev_hp I J R T)))) : pw (N + 1) X 214 30 [.ref 35, .int x, .int y] [.int v] (ev_hp I J R T) Q := by
  refine pw_if (by decide) (fun _ _ => fm_r70) (fun w1 => ?_) (fun w1 => ?_)
  · have h1 := H.1 w1
    obtain ⟨Q1, hc, hk⟩ := h1
    exact pw_p (pw_call (by decide) (fun _ _ => fm_r71) hc hk)
  · have h1 := H.2 w1
    exact pw_p (pw_ret (by decide) (fun _ _ => fm_r72) h1)
set_option maxRecDepth 100000 in
theorem fm_r73 {a0 : Int32} {a1 : Int32} {a2 : Int32} : ∀ G : ez_F, fx_up X 4 G 214 42 [.ref 35, .int a0, .int a1] [.int a2] (ev_hp I J R T) cz kz = G 214 48 [.ref 35, .int a0, .int a1] [.int a1, .ref 53] (ev_hp I J R T) cz kz := by
  intro G
  rfl
set_option maxRecDepth 100000 in
theorem fm_r74 {a0 : Int32} {a1 : Int32} {a2 : Int32} : ∀ G : ez_F, fx_up X 1 G 214 49 [.ref 35, .int a0, .int a1] [.int a2] (ev_hp I J R T) cz kz = some (some (.int a2), (ev_hp I J R T), cz, kz) := by
  intro G
  rfl
theorem mp_42 {v x y : Int32}
    (H : (ev_ix y 4 → Q (some (.int (I 53 y.toNatClampNeg))) (ev_hp I J R T))) : pw (N + 1) X 214 42 [.ref 35, .int x, .int y] [.int v] (ev_hp I J R T) Q := by
  refine pw_seg (by decide) (fun _ _ => fm_r73) ?_
  refine pw_p (pw_iald (by rfl) (cx_getI (show cx_Ds[53]? = some (0, 4, []) from rfl)) (fun w1 => ?_))
  have h1 := H w1
  exact pw_p (pw_ret (by decide) (fun _ _ => fm_r74) h1)
set_option maxRecDepth 100000 in
theorem fm_r75 {a0 : Int32} : ∀ G : ez_F, fx_up X 5 G 169 0 [.ref 35, .int a0] [] (ev_hp I J R T) cz kz = ev_C G 198 [.long a0.toInt64, .long (0 : Int64), .long (1 : Int64)] (ev_hp I J R T) fun r h1 c1 k1 => G 169 7 [.ref 35, .int a0] (r.toList ++ []) h1 (cz + c1) (kz + k1) := by
  intro G
  rfl
set_option maxRecDepth 100000 in
theorem fm_r76 {a0 : Int32} {a1 : Int32} : ∀ G : ez_F, fx_up X 1 G 169 7 [.ref 35, .int a0] [.int a1] (ev_hp I J R T) cz kz = bif decide (¬ a1 = (0 : Int32)) then G 169 13 [.ref 35, .int a0] [] (ev_hp I J R T) cz kz else G 169 10 [.ref 35, .int a0] [] (ev_hp I J R T) cz kz := by
  intro G
  rfl
set_option maxRecDepth 100000 in
theorem fm_r77 {a0 : Int32} : ∀ G : ez_F, fx_up X 2 G 169 13 [.ref 35, .int a0] [] (ev_hp I J R T) cz kz = ev_C G 188 [.ref 35] (ev_hp I J R T) fun r h1 c1 k1 => G 169 17 [.ref 35, .int a0] (r.toList ++ []) h1 (cz + c1) (kz + k1) := by
  intro G
  rfl
set_option maxRecDepth 100000 in
theorem fm_r78 {a0 : Int32} : ∀ G : ez_F, fx_up X 2 G 169 10 [.ref 35, .int a0] [] (ev_hp I J R T) cz kz = some (some (.int (-3 : Int32)), (ev_hp I J R T), cz, kz) := by
  intro G
  rfl
theorem mb_0 {x : Int32}
    (H : ((¬ (ev_il x.toInt64 (0 : Int64) (1 : Int64)) = (0 : Int32) → (∃ Q1 : pw_Q, pe N X 188 [.ref 35] (ev_hp I J R T) Q1 ∧ ∀ (r : Option Value) (h1 : ez_H), Q1 r h1 → pw N X 169 17 [.ref 35, .int x] (r.toList ++ []) h1 Q)) ∧ (¬ (¬ (ev_il x.toInt64 (0 : Int64) (1 : Int64)) = (0 : Int32)) → Q (some (.int (-3 : Int32))) (ev_hp I J R T)))) : pw (N + 1) X 169 0 [.ref 35, .int x] [] (ev_hp I J R T) Q := by
  refine pw_callp (by decide) (fun _ _ => fm_r75) (pe_is (ec_in _ _ _ _ _)) ?_
  refine pw_p (pw_if (by decide) (fun _ _ => fm_r76) (fun w1 => ?_) (fun w1 => ?_))
  · have h1 := H.1 w1
    obtain ⟨Q1, hc, hk⟩ := h1
    exact pw_p (pw_call (by decide) (fun _ _ => fm_r77) hc hk)
  · have h1 := H.2 w1
    exact pw_p (pw_ret (by decide) (fun _ _ => fm_r78) h1)
set_option maxRecDepth 100000 in
theorem fm_r79 {a0 : Int32} {a1 : Int32} : ∀ G : ez_F, fx_up X 1 G 169 17 [.ref 35, .int a0] [.int a1] (ev_hp I J R T) cz kz = bif decide (¬ a1 = (0 : Int32)) then G 169 23 [.ref 35, .int a0] [] (ev_hp I J R T) cz kz else G 169 20 [.ref 35, .int a0] [] (ev_hp I J R T) cz kz := by
  intro G
  rfl
set_option maxRecDepth 100000 in
theorem fm_r80 {a0 : Int32} : ∀ G : ez_F, fx_up X 2 G 169 23 [.ref 35, .int a0] [] (ev_hp I J R T) cz kz = G 169 27 [.ref 35, .int a0] [.int (I 35 24)] (ev_hp I J R T) cz kz := by
  intro G
  rfl
set_option maxRecDepth 100000 in
theorem fm_r81 {a0 : Int32} {a1 : Int32} : ∀ G : ez_F, fx_up X 1 G 169 27 [.ref 35, .int a0] [.int a1] (ev_hp I J R T) cz kz = bif decide (¬ a1 = (0 : Int32)) then G 169 32 [.ref 35, .int a0] [] (ev_hp I J R T) cz kz else G 169 30 [.ref 35, .int a0] [] (ev_hp I J R T) cz kz := by
  intro G
  rfl
set_option maxRecDepth 100000 in
theorem fm_r82 {a0 : Int32} : ∀ G : ez_F, fx_up X 6 G 169 32 [.ref 35, .int a0] [] (ev_hp I J R T) cz kz = ev_C G 193 [.ref 35, .int (0 : Int32), .int (-1 : Int32)] (ev_hp I J R T) fun r h1 c1 k1 => G 169 40 [.ref 35, .int a0, .int (0 : Int32)] (r.toList ++ []) h1 (cz + c1) (kz + k1) := by
  intro G
  rfl
set_option maxRecDepth 100000 in
theorem fm_r83 {a0 : Int32} : ∀ G : ez_F, fx_up X 2 G 169 30 [.ref 35, .int a0] [] (ev_hp I J R T) cz kz = some (some (.int (-1 : Int32)), (ev_hp I J R T), cz, kz) := by
  intro G
  rfl
set_option maxRecDepth 100000 in
theorem fm_r84 {a0 : Int32} : ∀ G : ez_F, fx_up X 2 G 169 20 [.ref 35, .int a0] [] (ev_hp I J R T) cz kz = some (some (.int (-6 : Int32)), (ev_hp I J R T), cz, kz) := by
  intro G
  rfl
theorem mb_17 {v x : Int32}
    (H : ((¬ v = (0 : Int32) → ((¬ (I 35 24) = (0 : Int32) → (∃ Q1 : pw_Q, pe N X 193 [.ref 35, .int (0 : Int32), .int (-1 : Int32)] (ev_hp I J R T) Q1 ∧ ∀ (r : Option Value) (h1 : ez_H), Q1 r h1 → pw N X 169 40 [.ref 35, .int x, .int (0 : Int32)] (r.toList ++ []) h1 Q)) ∧ (¬ (¬ (I 35 24) = (0 : Int32)) → Q (some (.int (-1 : Int32))) (ev_hp I J R T)))) ∧ (¬ (¬ v = (0 : Int32)) → Q (some (.int (-6 : Int32))) (ev_hp I J R T)))) : pw (N + 1) X 169 17 [.ref 35, .int x] [.int v] (ev_hp I J R T) Q := by
  refine pw_if (by decide) (fun _ _ => fm_r79) (fun w1 => ?_) (fun w1 => ?_)
  · have h1 := H.1 w1
    refine pw_p (pw_seg (by decide) (fun _ _ => fm_r80) ?_)
    refine pw_p (pw_if (by decide) (fun _ _ => fm_r81) (fun w2 => ?_) (fun w2 => ?_))
    · have h2 := h1.1 w2
      obtain ⟨Q1, hc, hk⟩ := h2
      exact pw_p (pw_call (by decide) (fun _ _ => fm_r82) hc hk)
    · have h2 := h1.2 w2
      exact pw_p (pw_ret (by decide) (fun _ _ => fm_r83) h2)
  · have h1 := H.2 w1
    exact pw_p (pw_ret (by decide) (fun _ _ => fm_r84) h1)
set_option maxRecDepth 100000 in
theorem fm_r85 {a0 : Int32} {a1 : Int32} {a2 : Int32} : ∀ G : ez_F, fx_up X 3 G 169 40 [.ref 35, .int a0, .int a1] [.int a2] (ev_hp I J R T) cz kz = G 169 44 [.ref 35, .int a0, .int a1, .int a2, .int (1 : Int32)] [] (ev_hp I J R T) cz kz := by
  intro G
  rfl
theorem mb_40 {v x b : Int32}
    (H : pw N X 169 44 [.ref 35, .int x, .int b, .int v, .int (1 : Int32)] [] (ev_hp I J R T) Q) : pw (N + 1) X 169 40 [.ref 35, .int x, .int b] [.int v] (ev_hp I J R T) Q := by
  refine pw_seg (by decide) (fun _ _ => fm_r85) ?_
  exact H
set_option maxRecDepth 100000 in
theorem fm_r86 {a0 : Int32} {a1 : Int32} {a2 : Int32} {a3 : Int32} : ∀ G : ez_F, fx_up X 3 G 169 44 [.ref 35, .int a0, .int a1, .int a2, .int a3] [] (ev_hp I J R T) cz kz = ev_C G 179 [.ref 35] (ev_hp I J R T) fun r h1 c1 k1 => G 169 50 [.ref 35, .int a0, .int a1, .int a2, .int a3] (r.toList ++ [.int a3]) h1 (cz + c1) (kz + k1) := by
  intro G
  rfl
set_option maxRecDepth 100000 in
theorem fm_r87 {a0 : Int32} {a1 : Int32} {a2 : Int32} {a3 : Int32} {a4 : Int32} {a5 : Int32} : ∀ G : ez_F, fx_up X 1 G 169 50 [.ref 35, .int a0, .int a1, .int a2, .int a3] [.int a4, .int a5] (ev_hp I J R T) cz kz = bif decide (a4 ≤ a5) then G 169 94 [.ref 35, .int a0, .int a1, .int a2, .int a3] [] (ev_hp I J R T) cz kz else G 169 53 [.ref 35, .int a0, .int a1, .int a2, .int a3] [] (ev_hp I J R T) cz kz := by
  intro G
  rfl
set_option maxRecDepth 100000 in
theorem fm_r88 {a0 : Int32} {a1 : Int32} {a2 : Int32} {a3 : Int32} : ∀ G : ez_F, fx_up X 2 G 169 94 [.ref 35, .int a0, .int a1, .int a2, .int a3] [] (ev_hp I J R T) cz kz = bif decide (¬ a0 = (0 : Int32)) then G 169 102 [.ref 35, .int a0, .int a1, .int a2, .int a3] [] (ev_hp I J R T) cz kz else G 169 98 [.ref 35, .int a0, .int a1, .int a2, .int a3] [] (ev_hp I J R T) cz kz := by
  intro G
  rfl
set_option maxRecDepth 100000 in
theorem fm_r89 {a0 : Int32} {a1 : Int32} {a2 : Int32} {a3 : Int32} : ∀ G : ez_F, fx_up X 2 G 169 102 [.ref 35, .int a0, .int a1, .int a2, .int a3] [] (ev_hp I J R T) cz kz = some (some (.int a2), (ev_hp I J R T), cz, kz) := by
  intro G
  rfl
set_option maxRecDepth 100000 in
theorem fm_r90 {a0 : Int32} {a1 : Int32} {a2 : Int32} {a3 : Int32} : ∀ G : ez_F, fx_up X 3 G 169 98 [.ref 35, .int a0, .int a1, .int a2, .int a3] [] (ev_hp I J R T) cz kz = some (some (.int a1), (ev_hp I J R T), cz, kz) := by
  intro G
  rfl
set_option maxRecDepth 100000 in
theorem fm_r91 {a0 : Int32} {a1 : Int32} {a2 : Int32} {a3 : Int32} : ∀ G : ez_F, fx_up X 4 G 169 53 [.ref 35, .int a0, .int a1, .int a2, .int a3] [] (ev_hp I J R T) cz kz = ev_C G 193 [.ref 35, .int a3, .int (-1 : Int32)] (ev_hp I J R T) fun r h1 c1 k1 => G 169 60 [.ref 35, .int a0, .int a1, .int a2, .int a3] (r.toList ++ []) h1 (cz + c1) (kz + k1) := by
  intro G
  rfl
theorem mb_44 {x b l c : Int32}
    (H : ((((I 35 0) * (I 35 1)) ≤ c → ((¬ x = (0 : Int32) → Q (some (.int l)) (ev_hp I J R T)) ∧ (¬ (¬ x = (0 : Int32)) → Q (some (.int b)) (ev_hp I J R T)))) ∧ (¬ (((I 35 0) * (I 35 1)) ≤ c) → (∃ Q1 : pw_Q, pe N X 193 [.ref 35, .int c, .int (-1 : Int32)] (ev_hp I J R T) Q1 ∧ ∀ (r : Option Value) (h1 : ez_H), Q1 r h1 → pw N X 169 60 [.ref 35, .int x, .int b, .int l, .int c] (r.toList ++ []) h1 Q)))) : pw (N + 1) X 169 44 [.ref 35, .int x, .int b, .int l, .int c] [] (ev_hp I J R T) Q := by
  refine pw_callp (by decide) (fun _ _ => fm_r86) (pe_mcount) ?_
  refine pw_p (pw_if (by decide) (fun _ _ => fm_r87) (fun w1 => ?_) (fun w1 => ?_))
  · have h1 := H.1 w1
    refine pw_p (pw_if (by decide) (fun _ _ => fm_r88) (fun w2 => ?_) (fun w2 => ?_))
    · have h2 := h1.1 w2
      exact pw_p (pw_ret (by decide) (fun _ _ => fm_r89) h2)
    · have h2 := h1.2 w2
      exact pw_p (pw_ret (by decide) (fun _ _ => fm_r90) h2)
  · have h1 := H.2 w1
    obtain ⟨Q1, hc, hk⟩ := h1
    exact pw_p (pw_call (by decide) (fun _ _ => fm_r91) hc hk)
set_option maxRecDepth 100000 in
theorem fm_r92 {a0 : Int32} {a1 : Int32} {a2 : Int32} {a3 : Int32} {a4 : Int32} : ∀ G : ez_F, fx_up X 4 G 169 60 [.ref 35, .int a0, .int a1, .int a2, .int a3] [.int a4] (ev_hp I J R T) cz kz = bif decide (a2 ≤ a4) then G 169 73 [.ref 35, .int a0, .int a1, .int a2, .int a3, .int a4] [] (ev_hp I J R T) cz kz else G 169 68 [.ref 35, .int a0, .int a1, .int a2, .int a3, .int a4] [] (ev_hp I J R T) cz kz := by
  intro G
  rfl
set_option maxRecDepth 100000 in
theorem fm_r93 {a0 : Int32} {a1 : Int32} {a2 : Int32} {a3 : Int32} {a4 : Int32} : ∀ G : ez_F, fx_up X 5 G 169 73 [.ref 35, .int a0, .int a1, .int a2, .int a3, .int a4] [] (ev_hp I J R T) cz kz = bif decide (a2 ≤ a4) then G 169 86 [.ref 35, .int a0, .int a1, .int a2, .int a3, .int a4] [] (ev_hp I J R T) cz kz else G 169 81 [.ref 35, .int a0, .int a1, .int a2, .int a3, .int a4] [] (ev_hp I J R T) cz kz := by
  intro G
  rfl
set_option maxRecDepth 100000 in
theorem fm_r94 {a0 : Int32} {a1 : Int32} {a2 : Int32} {a3 : Int32} {a4 : Int32} : ∀ G : ez_F, fx_up X 4 G 169 86 [.ref 35, .int a0, .int a1, .int a2, .int a3, .int a4] [] (ev_hp I J R T) cz kz = G 169 44 [.ref 35, .int a0, .int a1, .int a2, .int (a3 + (1 : Int32)), .int a4] [] (ev_hp I J R T) cz kz := by
  intro G
  rfl
set_option maxRecDepth 100000 in
theorem fm_r95 {a0 : Int32} {a1 : Int32} {a2 : Int32} {a3 : Int32} {a4 : Int32} : ∀ G : ez_F, fx_up X 5 G 169 81 [.ref 35, .int a0, .int a1, .int a2, .int a3, .int a4] [] (ev_hp I J R T) cz kz = G 169 44 [.ref 35, .int a0, .int a1, .int a4, .int (a3 + (1 : Int32)), .int a4] [] (ev_hp I J R T) cz kz := by
  intro G
  rfl
set_option maxRecDepth 100000 in
theorem fm_r96 {a0 : Int32} {a1 : Int32} {a2 : Int32} {a3 : Int32} {a4 : Int32} : ∀ G : ez_F, fx_up X 6 G 169 68 [.ref 35, .int a0, .int a1, .int a2, .int a3, .int a4] [] (ev_hp I J R T) cz kz = bif decide (a2 ≤ a4) then G 169 86 [.ref 35, .int a0, .int a3, .int a2, .int a3, .int a4] [] (ev_hp I J R T) cz kz else G 169 81 [.ref 35, .int a0, .int a3, .int a2, .int a3, .int a4] [] (ev_hp I J R T) cz kz := by
  intro G
  rfl
theorem mb_60 {v x b l c : Int32}
    (H : ((l ≤ v → ((l ≤ v → pw N X 169 44 [.ref 35, .int x, .int b, .int l, .int (c + (1 : Int32))] [] (ev_hp I J R T) Q) ∧ (¬ (l ≤ v) → pw N X 169 44 [.ref 35, .int x, .int b, .int v, .int (c + (1 : Int32))] [] (ev_hp I J R T) Q))) ∧ (¬ (l ≤ v) → ((l ≤ v → pw N X 169 44 [.ref 35, .int x, .int c, .int l, .int (c + (1 : Int32))] [] (ev_hp I J R T) Q) ∧ (¬ (l ≤ v) → pw N X 169 44 [.ref 35, .int x, .int c, .int v, .int (c + (1 : Int32))] [] (ev_hp I J R T) Q))))) : pw (N + 1) X 169 60 [.ref 35, .int x, .int b, .int l, .int c] [.int v] (ev_hp I J R T) Q := by
  refine pw_if (by decide) (fun _ _ => fm_r92) (fun w1 => ?_) (fun w1 => ?_)
  · have h1 := H.1 w1
    refine pw_p (pw_if (by decide) (fun _ _ => fm_r93) (fun w2 => ?_) (fun w2 => ?_))
    · have h2 := h1.1 w2
      refine pw_p (pw_seg (by decide) (fun _ _ => fm_r94) ?_)
      refine pw_cutl (by rfl) ?_
      exact h2
    · have h2 := h1.2 w2
      refine pw_p (pw_seg (by decide) (fun _ _ => fm_r95) ?_)
      refine pw_cutl (by rfl) ?_
      exact h2
  · have h1 := H.2 w1
    refine pw_p (pw_if (by decide) (fun _ _ => fm_r96) (fun w2 => ?_) (fun w2 => ?_))
    · have h2 := h1.1 w2
      refine pw_p (pw_seg (by decide) (fun _ _ => fm_r94) ?_)
      refine pw_cutl (by rfl) ?_
      exact h2
    · have h2 := h1.2 w2
      refine pw_p (pw_seg (by decide) (fun _ _ => fm_r95) ?_)
      refine pw_cutl (by rfl) ?_
      exact h2
end
theorem cq_mono {p : Nat → Bool} {a : Nat} : ∀ d, cq p a ≤ cq p (a + d) := by
  intro d
  induction d with
  | zero => exact Nat.le_refl _
  | succ d ih =>
    have e : cq p (a + d + 1) = cq p (a + d) + (bif p (a + d) then 1 else 0) := rfl
    show _ ≤ cq p (a + d + 1)
    omega
theorem cq_lt {p : Nat → Bool} {a b : Nat} (hab : a < b) (hp : p a = true) : cq p a < cq p b := by
  have h := cq_mono (p := p) (a := a + 1) (b - (a + 1))
  have e : cq p (a + 1) = cq p a + (bif p a then 1 else 0) := rfl
  rw [show a + 1 + (b - (a + 1)) = b by omega, e, hp] at h
  show cq p a + 1 ≤ cq p b
  exact h
/-! the wrong answers -/
theorem kb_us1 (z : Int64) (n : Nat) : kb (us z 1) n = kb z (1 + n) := by
  show ((z.toUInt64 >>> ((1 : Int32).toInt64.toUInt64 &&& Int64.toUInt64 63)).toBitVec).getLsbD n = _
  rw [UInt64.toBitVec_shiftRight, BitVec.ushiftRight_eq', show (((1 : Int32).toInt64.toUInt64 &&& Int64.toUInt64 63).toBitVec % 64).toNat = 1 from by decide, BitVec.getLsbD_ushiftRight]
  rfl
/-- the told answers other than true, as the reference sees them -/
noncomputable def wc (I : Nat → Nat → Int32) (J : Nat → Nat → Int64) (t : ly_t) (c : Nat) : Bool := decide (¬ I 44 c = -1 ∧ ¬ I 44 c = Int32.ofNat (xt I J t c))
theorem wc_b {a0 a1 : Bool} {v : Int32} (h : v = 0 ∨ v = 1 ∨ v = 2) : (Bool.xor (kb v.toInt64 0) a0 || Bool.xor (kb v.toInt64 1) a1) = decide (¬ td_v a0 a1 = -1 ∧ ¬ td_v a0 a1 = v) := by
  rcases h with rfl | rfl | rfl <;> cases a0 <;> cases a1 <;> decide
section
variable {I : Nat → Nat → Int32} {J : Nat → Nat → Int64} {t : ly_t}
/-- and in the class's words -/
theorem wr_bit (hc3 : C3 (ck I J)) (ht : ∀ c, c < nca I → xt I J t c ≤ 2) : (∀ c, c < nca I → kb (wrB (J 8 2) (J 8 3) (xz I J t (nca I))) (2 * c) = wc I J t c) ∧ (∀ i, kb (wrB (J 8 2) (J 8 3) (xz I J t (nca I))) i = true → i % 2 = 0 ∧ i / 2 < nca I) ∧ nca I ≤ 30 := by
  obtain ⟨k, e81, hk, -, hr, hK, -⟩ := c3_of hc3
  have enc : nca I = k := by
    unfold nca
    rw [e81, io_ti (by omega)]
    exact Int.toNat_natCast k
  rw [enc] at ht ⊢
  have hw : ∀ i, kb (wrB (J 8 2) (J 8 3) (xz I J t k)) i = ((Bool.xor (kb (xz I J t k) i) (kb (J 8 2) i) || Bool.xor (kb (xz I J t k) (1 + i)) (kb (J 8 2) (1 + i))) && kb (J 8 3) i) := fun i => by
    unfold wrB
    rw [kb_and, kb_or, kb_xor, kb_us1, kb_xor]
  refine ⟨fun c hc => ?_, fun i hi => ?_, hk⟩
  · obtain ⟨-, -, -, htd, -⟩ := hr c hc
    have hz := (pl_z_kb k hk ht).2
    have z0 : kb (xz I J t k) (2 * c) = kb (Int32.ofNat (xt I J t c)).toInt64 0 := hz c 0 hc (by decide)
    have z1 : kb (xz I J t k) (2 * c + 1) = kb (Int32.ofNat (xt I J t c)).toInt64 1 := hz c 1 hc (by decide)
    rw [hw, Nat.add_comm 1 (2 * c), z0, z1, wc_b (n012 (ht c hc))]
    unfold wc
    rw [← htd]
    unfold td_at
    cases kb (J 8 3) (2 * c)
    · rw [Bool.and_false]
      exact (decide_eq_false fun z => z.1 rfl).symm
    · rw [Bool.and_true]
      rfl
  · rw [hw] at hi
    exact hK i (Bool.and_eq_true_iff.mp hi).2
theorem wr_pc (hc3 : C3 (ck I J)) (ht : ∀ c, c < nca I → xt I J t c ≤ 2) : pcJ (wrB (J 8 2) (J 8 3) (xz I J t (nca I))) = cq (wc I J t) (nca I) := by
  obtain ⟨h1, h2, h3⟩ := wr_bit hc3 ht
  have e1 : cq (kb (wrB (J 8 2) (J 8 3) (xz I J t (nca I)))) (2 * 32) = cq (fun c => kb (wrB (J 8 2) (J 8 3) (xz I J t (nca I))) (2 * c)) 32 := cq_even (fun i => by
    cases h : kb (wrB (J 8 2) (J 8 3) (xz I J t (nca I))) (2 * i + 1)
    · rfl
    · have := (h2 _ h).1
      omega) 32
  have e2 := cq_pad (p := fun c => kb (wrB (J 8 2) (J 8 3) (xz I J t (nca I))) (2 * c)) (k := nca I) (fun i hi => by
    cases h : kb (wrB (J 8 2) (J 8 3) (xz I J t (nca I))) (2 * i)
    · rfl
    · have := (h2 _ h).2
      omega) (32 - nca I)
  rw [show nca I + (32 - nca I) = 32 by omega] at e2
  rw [pcJ_cq]
  exact (e1.trans e2).trans (cq_c _ h1)
end
section
variable {N : Nat} {X : ez_X} {I A A' : Nat → Nat → Int32} {J B B' : Nat → Nat → Int64} {R R1 : Nat → Nat} {T T1 : List ez_C} {x y : Int32} {W HH n : Nat}
theorem pe_mwrong {p : Nat → Bool} (e16 : A 35 16 = Int32.ofNat n) (hn : n ≤ 30) (hp : ∀ c, c < n → p c = decide (¬ A 44 c = -1 ∧ ¬ A 44 c = A 48 c)) : pe N X 233 [.ref 35] (ev_hp A B R T) (fun r h => r = some (.int (Int32.ofNat (cq p n))) ∧ h = ev_hp A B R T) := by
  have loop : ∀ (d c : Nat), c + d = n → ∀ N, pw N X 233 4 [.ref 35, .int (Int32.ofNat (cq p c)), .int (Int32.ofNat c)] [] (ev_hp A B R T) (fun r h => r = some (.int (Int32.ofNat (cq p n))) ∧ h = ev_hp A B R T) := by
    intro d
    induction d with
    | zero =>
      intro c hc N
      obtain rfl : c = n := by omega
      refine pw_p (wv_4 ⟨fun _ => ⟨rfl, rfl⟩, fun g => ?_⟩)
      rw [e16] at g
      exact absurd (Int32.le_refl _) g
    | succ d ih =>
      intro c hcd N
      have hc : c < n := by omega
      have e : cq p (c + 1) = cq p c + (bif p c then 1 else 0) := rfl
      have h5 := ih (c + 1) (by omega) N
      rw [e] at h5
      refine pw_p (wv_4 ?_)
      rw [e16, io_cl (by omega), io_1, io_1, Int32.add_zero]
      refine ⟨fun g => ?_, fun _ _ => ⟨fun g => ?_, fun g _ _ => ⟨fun g2 => ?_, fun g2 => ?_⟩⟩⟩
      · rw [io_le (by omega) (by omega)] at g
        omega
      · rw [hp c hc, decide_eq_false (fun z => z.1 g)] at h5
        exact h5
      · rw [hp c hc, decide_eq_false (fun z => z.2 g2)] at h5
        exact h5
      · rw [hp c hc, decide_eq_true ⟨g, g2⟩] at h5
        exact h5
  exact pe_of (pw_p (wv_0 (loop n 0 (by omega) _)))
/-- the reference's cells, while it goes through layings -/
noncomputable def rg (I : Nat → Nat → Int32) (J : Nat → Nat → Int64) (W HH n : Nat) (A : Nat → Nat → Int32) (B : Nat → Nat → Int64) : Prop := gk A B W HH (rf_n I) n ∧ bk A B = bk I J ∧ ml_row (A 41) (ls I J) ∧ (∀ s, s < rf_n I → ∀ a, a < in_n I s → B 39 (300 * s + a) = J 4 (288 * s + a)) ∧ A 35 14 = Int32.ofNat (ls I J).length ∧ A 35 16 = Int32.ofNat n ∧ A 35 8 = I 2 2 ∧ A 44 = I 44 ∧ A 35 0 = I 35 0 ∧ A 35 1 = I 35 1
theorem rg_c (h : rg I J W HH n A B) (hA : ∀ a, a ≠ 35 → a ≠ 48 → a ≠ 49 → a ≠ 53 → A' a = A a) (h35 : ∀ k, k ≠ 24 → A' 35 k = A 35 k) (hB : ∀ a, a ≠ 45 → a ≠ 46 → a ≠ 47 → a ≠ 50 → a ≠ 51 → B' a = B a) : rg I J W HH n A' B' := by
  obtain ⟨h1, h2, h3, h4, h5, h6, h7, h8, h9, h10⟩ := h
  have hm : mvF A' B' = mvF A B := funext fun z => by
    unfold mvF
    rw [hA 1 (by decide) (by decide) (by decide) (by decide), hB 1 (by decide) (by decide) (by decide) (by decide) (by decide)]
  have hd : drF A' = drF A := by
    unfold drF
    rw [hA 1 (by decide) (by decide) (by decide) (by decide)]
  refine ⟨?_, ?_, ?_, ?_, ?_, ?_, ?_, ?_, ?_, ?_⟩
  · unfold gk
    rw [h35 0 (by decide), h35 1 (by decide), h35 3 (by decide), h35 7 (by decide), h35 9 (by decide), h35 10 (by decide), hA 2 (by decide) (by decide) (by decide) (by decide), hA 42 (by decide) (by decide) (by decide) (by decide), hA 43 (by decide) (by decide) (by decide) (by decide), hB 9 (by decide) (by decide) (by decide) (by decide) (by decide), hm, hd]
    exact h1
  · rw [← h2]
    unfold bk
    rw [hA 8 (by decide) (by decide) (by decide) (by decide), hA 3 (by decide) (by decide) (by decide) (by decide), hA 5 (by decide) (by decide) (by decide) (by decide), hA 2 (by decide) (by decide) (by decide) (by decide), hA 1 (by decide) (by decide) (by decide) (by decide), hA 33 (by decide) (by decide) (by decide) (by decide), hB 4 (by decide) (by decide) (by decide) (by decide) (by decide), hB 9 (by decide) (by decide) (by decide) (by decide) (by decide), hB 1 (by decide) (by decide) (by decide) (by decide) (by decide), hB 8 (by decide) (by decide) (by decide) (by decide) (by decide)]
  · rw [hA 41 (by decide) (by decide) (by decide) (by decide)]
    exact h3
  · rw [hB 39 (by decide) (by decide) (by decide) (by decide) (by decide)]
    exact h4
  · rw [h35 14 (by decide)]
    exact h5
  · rw [h35 16 (by decide)]
    exact h6
  · rw [h35 8 (by decide)]
    exact h7
  · rw [hA 44 (by decide) (by decide) (by decide) (by decide)]
    exact h8
  · rw [h35 0 (by decide)]
    exact h9
  · rw [h35 1 (by decide)]
    exact h10
/-- laying k is gone through, wherever the reference stands -/
theorem pe_goes2 (h : rl3 I J R1 T1) (hB : cx_hB cx_B0 I) (hg : gk I J W HH (rf_n I) n) (hA : rg I J W HH n A B) {k m : Nat} (hk : k < (ls I J).length) (hlen : (ls I J).length ≤ 10000) (hx : x = Int32.ofNat k) (hy : y = Int32.ofNat m) (hm : m ≤ n) :
    pe N X 192 [.ref 35, .int x, .int y] (ev_hp A B R T) (fun r h => r = none ∧ ∃ f K G1 G2, h = ev_hp (ev_sI A 48 f) (ev_sJ (ev_sJ (ev_sJ B 47 K) 45 G1) 46 G2) R T ∧ (∀ s, s < rf_n I → G1 s = (xq I J (ls I J)[k] m).1 s ∧ G2 s = (xq I J (ls I J)[k] m).2 s) ∧ ∀ c, c < m → f c = Int32.ofNat (xt I J (ls I J)[k] c)) := by
  have hr := h.1.1
  have e3 : I 3 3 = I 35 3 := (km_0 hr.1).2.2.2
  have hmem := List.getElem_mem hk
  obtain ⟨gA, eX, h41, fE, -⟩ := hA
  have hw2 := h41 k hk
  obtain ⟨e0, e1, hW, hH, -⟩ := hg
  have hpk := pk_ls hr hB hmem e0 e1 hW hH
  have hl : ∀ s, s < rf_n I → ly_at (ls I J)[k] s < in_n I s ∧ in_n I s ≤ 288 := fun s hs => by
    have hs' : s < (I 3 3).toInt.toNat := by rw [e3]; exact hs
    exact ⟨ly_in hr hB hmem hs', (fi_n hr hs').2.1⟩
  have hn3 := (rf_ns hB).2
  refine pe_mono (pe_go (t := (ls I J)[k]) (m := m) gA (by rw [(bk_xq eX _).1]; exact hpk) hx (by omega) (fun s hs => ?_) (fun s hs => ?_) (fun s hs => ?_) hy hm) ?_
  · rcases (show s = 0 ∨ s = 1 ∨ s = 2 by omega) with rfl | rfl | rfl
    · exact hw2.1
    · exact hw2.2.1
    · exact hw2.2.2
  · have := hl s hs
    omega
  · rw [fE s hs _ (hl s hs).1, (bk_xq eX _).1]
    unfold ly_s
    rw [if_pos (by rw [e3]; exact hs)]
  · rintro r h' ⟨rfl, I2, J2, rfl, f, K, G1, G2, rfl, rfl, q1, q2⟩
    rw [(bk_xq eX _).2.1] at q1
    rw [(bk_xq eX _).2.2.1] at q2
    exact ⟨rfl, f, K, G1, G2, rfl, q1, q2⟩
/-- those of the first k that are left, noted -/
noncomputable def lnt (I : Nat → Nat → Int32) (J : Nat → Nat → Int64) (k : Nat) (A : Nat → Nat → Int32) (B : Nat → Nat → Int64) : Prop := A 35 24 = Int32.ofNat (cq (lkf I J) k) ∧ ∀ j, j < k → lkf I J j = true → A 49 (cq (lkf I J) j) = Int32.ofNat j ∧ ∀ s, s < 3 → B 50 (3 * cq (lkf I J) j + s) = (xq I J ((ls I J).getD j (0, 0, 0)) (nca I)).1 s ∧ (s < rf_n I → B 51 (3 * cq (lkf I J) j + s) = (xq I J ((ls I J).getD j (0, 0, 0)) (nca I)).2 s)
theorem io_3 (i s : Nat) : (3 : Int32) * Int32.ofNat i + Int32.ofNat s = Int32.ofNat (3 * i + s) := by
  rw [show (3 : Int32) = Int32.ofNat 3 from rfl, io_mul, io_add]
noncomputable def fl_Q (I : Nat → Nat → Int32) (J : Nat → Nat → Int64) (R : Nat → Nat) (T : List ez_C) : pw_Q := fun r h => ∃ A B, h = ev_hp A B R T ∧ ((¬ sn I 0 * (sn I 1 * sn I 2) ≤ 10000 ∧ r = some (.int 0)) ∨ (sn I 0 * (sn I 1 * sn I 2) ≤ 10000 ∧ (ls I J).length ≤ 10000 ∧ r = some (.int 1) ∧ ∃ W HH, gk I J W HH (rf_n I) (nca I) ∧ rg I J W HH (nca I) A B ∧ lnt I J (ls I J).length A B))
/-- one that is left is noted -/
theorem fl_in {i k l : Nat} {Q : pw_Q} {P H : Nat → Int64} (e24 : A 35 24 = Int32.ofNat i) (hi : i ≤ 10000) (e3 : A 35 3 = Int32.ofNat l) (hl : l ≤ 3) (hP : ∀ s, s < l → B 45 s = P s ∧ B 46 s = H s) (hz : ∀ s, l ≤ s → s < 3 → P s = 0)
    (go : ∀ F1 F2, (∀ q, q < 3 * i → F1 q = B 50 q ∧ F2 q = B 51 q) → (∀ s, s < 3 → F1 (3 * i + s) = P s ∧ (s < l → F2 (3 * i + s) = H s)) → ∀ N, pw N X 188 16 [.ref 35, .int (Int32.ofNat (k + 1))] [] (ev_hp (ev_sI A 35 (upd (A 35) 24 (Int32.ofNat (i + 1)))) (ev_sJ (ev_sJ B 50 F1) 51 F2) R T) Q) :
    ∀ (d s : Nat), s + d = 3 → ∀ F1 F2, (∀ q, q < 3 * i → F1 q = B 50 q ∧ F2 q = B 51 q) → (∀ s', s' < s → F1 (3 * i + s') = P s' ∧ (s' < l → F2 (3 * i + s') = H s')) → ∀ N, pw N X 188 56 [.ref 35, .int (Int32.ofNat k), .int (Int32.ofNat s)] [] (ev_hp A (ev_sJ (ev_sJ B 50 F1) 51 F2) R T) Q := by
  intro d
  induction d with
  | zero =>
    intro s hs F1 F2 h1 h2 N
    obtain rfl : s = 3 := by omega
    refine pw_p (fv_56 ⟨fun _ => ?_, fun g => absurd (by decide) g⟩)
    rw [e24, io_1, io_1]
    exact go F1 F2 h1 h2 N
  | succ d ih =>
    intro s hsd F1 F2 h1 h2 N
    have hs : s < 3 := by omega
    have nxt : ∀ v w, v = P s → (s < l → w = H s) → ∀ N, pw N X 188 56 [.ref 35, .int (Int32.ofNat k), .int (Int32.ofNat s + (1 : Int32))] [] (ev_hp A (ev_sJ (ev_sJ (ev_sJ (ev_sJ B 50 F1) 51 F2) 50 (vp_updL F1 (3 * i + s) v)) 51 (vp_updL F2 (3 * i + s) w)) R T) Q := fun v w hv hw N => by
      rw [sJ_sw (ev_sJ B 50 F1) F2 (vp_updL F1 (3 * i + s) v) (show (51 : Nat) ≠ 50 by decide), sJ2, sJ2, io_1]
      refine ih (s + 1) (by omega) _ _ (fun q hq => ?_) (fun s' hs' => ?_) N
      · rw [pv_n _ _ (by omega), pv_n _ _ (by omega)]
        exact h1 q hq
      · by_cases e : s' = s
        · subst e
          rw [pv_s, pv_s]
          exact ⟨hv, hw⟩
        · rw [pv_n _ _ (by omega), pv_n _ _ (by omega)]
          exact h2 s' (by omega)
    refine pw_p (fv_56 ?_)
    rw [e24, e3, io_3, io_cl (by omega), io_cl (by omega), cx_sJ_s, cx_sJ_n _ _ (show (50 : Nat) ≠ 51 by decide), cx_sJ_s, cx_sJ_n _ _ (show (45 : Nat) ≠ 51 by decide), cx_sJ_n _ _ (show (45 : Nat) ≠ 50 by decide), cx_sJ_n _ _ (show (46 : Nat) ≠ 51 by decide), cx_sJ_n _ _ (show (46 : Nat) ≠ 50 by decide)]
    refine ⟨fun g => ?_, fun _ => ⟨fun g _ => ⟨fun _ _ => ?_, fun g2 => absurd g g2⟩, fun g _ _ => ⟨fun g2 => absurd g2 g, fun _ _ _ => ?_⟩⟩⟩
    · rw [show (3 : Int32) = Int32.ofNat 3 from rfl, io_le (by omega) (by omega)] at g
      omega
    · rw [io_le (by omega) (by omega)] at g
      exact nxt _ _ (hz s g hs).symm (fun z => by omega) N
    · rw [io_le (by omega) (by omega)] at g
      have h3 := hP s (by omega)
      exact nxt _ _ h3.1 (fun _ => h3.2) N
theorem pe_findLeft (h : rl3 I J R1 T1) (hB : cx_hB cx_B0 I) (N : Nat) : pe N X 188 [.ref 35] (ev_hp I J R T) (fl_Q I J R T) := by
  obtain ⟨W, HH, n, hg, ek, ek2⟩ := gk_of h hB
  have enc : nca I = n := by
    unfold nca
    have hn30 : n ≤ 30 := by
      obtain ⟨-, -, -, -, -, -, -, -, -, z, -⟩ := hg
      exact z
    rw [ek, io_ti (by omega)]
    exact Int.toNat_natCast n
  subst enc
  have hr := h.1.1
  have hn30 : nca I ≤ 30 := by
    obtain ⟨-, -, -, -, -, -, -, -, -, z, -⟩ := hg
    exact z
  have hg0 := hg
  obtain ⟨e0, e1, hW, hH, e35, hn3, -⟩ := hg0
  refine pe_of (pw_p (fv_0 ⟨_, pe_laid hr hB _, ?_⟩))
  rintro r h' ⟨I', J', ⟨fI, fJ, fE⟩, ⟨h1, rfl, rfl⟩ | ⟨h1, rfl, w', rfl, hw'⟩⟩
  · refine pw_p (fv_4 ⟨fun z => absurd rfl z, fun _ _ => ⟨I', J', rfl, Or.inl ⟨?_, rfl⟩⟩⟩)
    rw [pr_is hr hB]
    omega
  · have hlen := ly_1l (lm_p (rf_n I) (rf_f J) (rf_g I J)) (lm_q (rf_n I) (rf_f J) (rf_g I J)) (mm (in_n I) (rf_n I) 1) (mm (in_n I) (rf_n I) 2) (mm (in_n I) (rf_n I) 0)
    have hlen2 : (lm_L (rf_n I) (in_n I) (rf_f J) (rf_g I J)).length ≤ 10000 := Nat.le_trans hlen (by rw [pr_mm _ (rf_ns hB).2]; exact h1)
    rw [← ls_is hr h.1.2.1 hB] at hw' hlen2 ⊢
    have hsn : sn I 0 * (sn I 1 * sn I 2) ≤ 10000 := by
      rw [pr_is hr hB]
      exact h1
    obtain ⟨g1, eb, e35k, e14, e41, eI⟩ := al_gk hg fI fJ w' (ls I J).length
    have base : rg I J W HH (nca I) (al_I I' w' (ls I J).length) J' := by
      refine ⟨g1, eb, by rw [e41]; exact hw', fun s hs a ha => ((fE s hs).2 a ha).1, e14, ?_, ?_, eI 44 (by decide) (by decide) (by decide), e35k 0 (by decide), e35k 1 (by decide)⟩
      · rw [e35k 16 (by decide), ek2, ek]
      · rw [e35k 8 (by decide)]
        exact (congrArg (fun K : kt_K => K.2.2.2.2.2.2.2.2.1) hr.1).symm
    have loop : ∀ (d k : Nat), k + d = (ls I J).length → ∀ A B, rg I J W HH (nca I) A B → lnt I J k A B → ∀ N, pw N X 188 16 [.ref 35, .int (Int32.ofNat k)] [] (ev_hp A B R T) (fl_Q I J R T) := by
      intro d
      induction d with
      | zero =>
        intro k hk A B hA hL N
        obtain rfl : k = (ls I J).length := by omega
        refine pw_p (fv_16 ⟨fun _ _ => ⟨A, B, rfl, Or.inr ⟨hsn, hlen2, rfl, W, HH, hg, hA, hL⟩⟩, fun g => ?_⟩)
        rw [hA.2.2.2.2.1] at g
        exact absurd (Int32.le_refl _) g
      | succ d ih =>
        intro k hkd A B hA hL N
        have hk : k < (ls I J).length := by omega
        have hA0 := hA
        obtain ⟨a1, a2, a3, a4, a5, a6, a7, a8, a9, a10⟩ := hA0
        obtain ⟨l1, l2⟩ := hL
        have hpk := pk_ls hr hB (List.getElem_mem hk) e0 e1 hW hH
        have hpq := pk_q (sr := I 2 1) (tg := J 9) (gk_mv hg) hpk (nca I)
        have hxt : ∀ c, c < nca I → xt I J (ls I J)[k] c ≤ 2 := fun c hc => xt_le hg hpk hc
        have hp : lkf I J k = decide (cq (wc I J (ls I J)[k]) (nca I) ≤ (I 2 2).toInt.toNat) := by
          unfold lkf lfB
          rw [ly_gd hk, wr_pc h.2 hxt]
        have ez : cq (lkf I J) (k + 1) = cq (lkf I J) k + (bif lkf I J k then 1 else 0) := rfl
        have hle := cq_le (lkf I J) k
        have hwl := cq_le (wc I J (ls I J)[k]) (nca I)
        have hb22 := b_lie hB
        refine pw_p (fv_16 ⟨fun g => ?_, fun _ => ⟨_, pe_goes2 (m := nca I) h hB hg hA hk hlen2 rfl a6 (Nat.le_refl _), ?_⟩⟩)
        · rw [a5, io_le (by omega) (by omega)] at g
          omega
        rintro r h' ⟨rfl, f, K, G1, G2, rfl, q1, q2⟩
        have c35 : ev_sI A 48 f 35 = A 35 := cx_sI_n _ _ (by decide)
        refine pw_p (fv_33 ⟨_, pe_mwrong (p := wc I J (ls I J)[k]) (n := nca I) (by rw [c35]; exact a6) hn30 (fun c hc => ?_), ?_⟩)
        · rw [cx_sI_n _ _ (show (44 : Nat) ≠ 48 by decide), cx_sI_s, a8, q2 c hc]
          rfl
        rintro r h' ⟨rfl, rfl⟩
        refine pw_p (fv_37 ?_)
        rw [c35, a7, l1, io_1, show I 2 2 = Int32.ofNat (I 2 2).toInt.toNat from io_nat hb22.1, io_lt (by omega) (by omega), io_cl (by omega), cx_sI_n _ _ (show (49 : Nat) ≠ 48 by decide)]
        refine ⟨fun g => ?_, fun g _ => ?_⟩
        · have hf : lkf I J k = false := by rw [hp]; exact decide_eq_false (by omega)
          refine ih (k + 1) (by omega) (ev_sI A 48 f) (ev_sJ (ev_sJ (ev_sJ B 47 K) 45 G1) 46 G2) (rg_c hA (fun a _ h48 _ _ => cx_sI_n _ _ h48) (fun k _ => by rw [c35]) (fun a h5 h6 h7 _ _ => by rw [cx_sJ_n _ _ h6, cx_sJ_n _ _ h5, cx_sJ_n _ _ h7])) ⟨?_, fun j hj hpj => ?_⟩ N
          · rw [c35, l1, ez, hf]
            rfl
          · by_cases e : j = k
            · rw [e, hf] at hpj
              cases hpj
            · rw [cx_sI_n _ _ (show (49 : Nat) ≠ 48 by decide), cx_sJ_n _ _ (show (50 : Nat) ≠ 46 by decide), cx_sJ_n _ _ (show (50 : Nat) ≠ 45 by decide), cx_sJ_n _ _ (show (50 : Nat) ≠ 47 by decide), cx_sJ_n _ _ (show (51 : Nat) ≠ 46 by decide), cx_sJ_n _ _ (show (51 : Nat) ≠ 45 by decide), cx_sJ_n _ _ (show (51 : Nat) ≠ 47 by decide)]
              exact l2 j (by omega) hpj
        · have hf : lkf I J k = true := by rw [hp]; exact decide_eq_true (by omega)
          have c352 : ev_sI (ev_sI A 48 f) 49 (upd (A 49) (cq (lkf I J) k) (Int32.ofNat k)) 35 = A 35 := by rw [cx_sI_n _ _ (by decide), c35]
          have hin := fl_in (X := X) (R := R) (T := T) (Q := fl_Q I J R T) (A := ev_sI (ev_sI A 48 f) 49 (upd (A 49) (cq (lkf I J) k) (Int32.ofNat k))) (B := ev_sJ (ev_sJ (ev_sJ B 47 K) 45 G1) 46 G2) (i := cq (lkf I J) k) (k := k) (l := rf_n I) (P := (xq I J (ls I J)[k] (nca I)).1) (H := (xq I J (ls I J)[k] (nca I)).2) (by rw [c352]; exact l1) (by omega) (by rw [c352]; exact (a1.2.2.2.2.1)) hn3 (fun s hs => by
            rw [cx_sJ_n _ _ (show (45 : Nat) ≠ 46 by decide), cx_sJ_s, cx_sJ_s]
            exact q1 s hs) hpq.2.2 (fun F1 F2 f1 f2 N => ?_) 3 0 (by omega) (B 50) (B 51) (fun q hq => by
            rw [cx_sJ_n _ _ (show (50 : Nat) ≠ 46 by decide), cx_sJ_n _ _ (show (50 : Nat) ≠ 45 by decide), cx_sJ_n _ _ (show (50 : Nat) ≠ 47 by decide), cx_sJ_n _ _ (show (51 : Nat) ≠ 46 by decide), cx_sJ_n _ _ (show (51 : Nat) ≠ 45 by decide), cx_sJ_n _ _ (show (51 : Nat) ≠ 47 by decide)]
            exact ⟨rfl, rfl⟩) (fun s hs => absurd hs (by omega)) N
          · have e5 : ev_sJ (ev_sJ (ev_sJ (ev_sJ (ev_sJ B 47 K) 45 G1) 46 G2) 50 (B 50)) 51 (B 51) = ev_sJ (ev_sJ (ev_sJ B 47 K) 45 G1) 46 G2 := by
              have e50 : ev_sJ (ev_sJ (ev_sJ B 47 K) 45 G1) 46 G2 50 = B 50 := by rw [cx_sJ_n _ _ (show (50 : Nat) ≠ 46 by decide), cx_sJ_n _ _ (show (50 : Nat) ≠ 45 by decide), cx_sJ_n _ _ (show (50 : Nat) ≠ 47 by decide)]
              have e51 : ev_sJ (ev_sJ (ev_sJ B 47 K) 45 G1) 46 G2 51 = B 51 := by rw [cx_sJ_n _ _ (show (51 : Nat) ≠ 46 by decide), cx_sJ_n _ _ (show (51 : Nat) ≠ 45 by decide), cx_sJ_n _ _ (show (51 : Nat) ≠ 47 by decide)]
              rw [← e50, sJ_self, ← e51, sJ_self]
            rw [e5] at hin
            exact hin
          · refine ih (k + 1) (by omega) (ev_sI (ev_sI (ev_sI A 48 f) 49 (upd (A 49) (cq (lkf I J) k) (Int32.ofNat k))) 35 (upd (ev_sI (ev_sI A 48 f) 49 (upd (A 49) (cq (lkf I J) k) (Int32.ofNat k)) 35) 24 (Int32.ofNat (cq (lkf I J) k + 1)))) (ev_sJ (ev_sJ (ev_sJ (ev_sJ (ev_sJ B 47 K) 45 G1) 46 G2) 50 F1) 51 F2) (rg_c hA (fun a h35 h48 h49 _ => by rw [cx_sI_n _ _ h35, cx_sI_n _ _ h49, cx_sI_n _ _ h48]) (fun q hq => by rw [cx_sI_s, upd_n _ _ hq, c352]) (fun a h5 h6 h7 h0 h1 => by rw [cx_sJ_n _ _ h1, cx_sJ_n _ _ h0, cx_sJ_n _ _ h6, cx_sJ_n _ _ h5, cx_sJ_n _ _ h7])) ⟨?_, fun j hj hpj => ?_⟩ N
            · rw [cx_sI_s, upd_s, ez, hf]
              rfl
            · rw [cx_sI_n _ _ (show (49 : Nat) ≠ 35 by decide), cx_sI_s, cx_sJ_n _ _ (show (50 : Nat) ≠ 51 by decide), cx_sJ_s, cx_sJ_s]
              by_cases e : j = k
              · subst e
                rw [upd_s, ly_gd hk]
                exact ⟨rfl, f2⟩
              · have hlt := cq_lt (p := lkf I J) (show j < k by omega) hpj
                rw [upd_n _ _ (by omega)]
                obtain ⟨m1, m2⟩ := l2 j (by omega) hpj
                refine ⟨m1, fun s hs => ?_⟩
                have f3 := f1 (3 * cq (lkf I J) j + s) (by omega)
                rw [f3.1, f3.2, cx_sJ_n _ _ (show (50 : Nat) ≠ 46 by decide), cx_sJ_n _ _ (show (50 : Nat) ≠ 45 by decide), cx_sJ_n _ _ (show (50 : Nat) ≠ 47 by decide), cx_sJ_n _ _ (show (51 : Nat) ≠ 46 by decide), cx_sJ_n _ _ (show (51 : Nat) ≠ 45 by decide), cx_sJ_n _ _ (show (51 : Nat) ≠ 47 by decide)]
                exact m2 s hs
    refine pw_p (fv_4 ⟨fun _ => ?_, fun z => absurd (by decide) z⟩)
    refine loop (ls I J).length 0 (by omega) (ev_sI (al_I I' w' (ls I J).length) 35 (upd (al_I I' w' (ls I J).length 35) 24 (0 : Int32))) J' (rg_c base (fun a h35 _ _ _ => cx_sI_n _ _ h35) (fun q hq => by rw [cx_sI_s, upd_n _ _ hq]) (fun _ _ _ _ _ _ => rfl)) ⟨?_, fun j hj => absurd hj (by omega)⟩ _
    rw [cx_sI_s, upd_s]
    rfl
end
end
section
/-! The reference: what those that are left would say. -/
section
variable {N : Nat} {X : ez_X} {I A A' : Nat → Nat → Int32} {J B B' : Nat → Nat → Int64} {R R1 : Nat → Nat} {T T1 : List ez_C} {x y : Int32} {W HH n : Nat}
theorem pe_useLeft {i l : Nat} (e3 : A 35 3 = Int32.ofNat l) (hl : l ≤ 3) (hi : i ≤ 10000) (hx : x = Int32.ofNat i) : pe N X 231 [.ref 35, .int x] (ev_hp A B R T) (fun r h => r = none ∧ ∃ G1 G2, h = ev_hp A (ev_sJ (ev_sJ B 45 G1) 46 G2) R T ∧ ∀ s, s < l → G1 s = B 50 (3 * i + s) ∧ G2 s = B 51 (3 * i + s)) := by
  subst hx
  have loop : ∀ (d s : Nat), s + d = l → ∀ G1 G2, (∀ s', s' < s → G1 s' = B 50 (3 * i + s') ∧ G2 s' = B 51 (3 * i + s')) → ∀ N, pw N X 231 2 [.ref 35, .int (Int32.ofNat i), .int (Int32.ofNat s)] [] (ev_hp A (ev_sJ (ev_sJ B 45 G1) 46 G2) R T) (fun r h => r = none ∧ ∃ G1 G2, h = ev_hp A (ev_sJ (ev_sJ B 45 G1) 46 G2) R T ∧ ∀ s, s < l → G1 s = B 50 (3 * i + s) ∧ G2 s = B 51 (3 * i + s)) := by
    intro d
    induction d with
    | zero =>
      intro s hs G1 G2 hG N
      obtain rfl : s = l := by omega
      refine pw_p (uv_2 ⟨fun _ => ⟨rfl, G1, G2, rfl, hG⟩, fun g => ?_⟩)
      rw [e3] at g
      exact absurd (Int32.le_refl _) g
    | succ d ih =>
      intro s hsd G1 G2 hG N
      refine pw_p (uv_2 ?_)
      rw [e3, io_3, io_cl (by omega), io_cl (by omega), io_1, cx_sJ_n _ _ (show (50 : Nat) ≠ 46 by decide), cx_sJ_n _ _ (show (50 : Nat) ≠ 45 by decide), cx_sJ_n _ _ (show (51 : Nat) ≠ 46 by decide), cx_sJ_n _ _ (show (51 : Nat) ≠ 45 by decide), cx_sJ_n _ _ (show (45 : Nat) ≠ 46 by decide), cx_sJ_s, cx_sJ_s, sJ_sw (ev_sJ B 45 G1) G2 _ (show (46 : Nat) ≠ 45 by decide), sJ2, sJ2]
      refine ⟨fun g => ?_, fun _ _ _ _ _ => ih (s + 1) (by omega) _ _ (fun s' hs' => ?_) N⟩
      · rw [io_le (by omega) (by omega)] at g
        omega
      · by_cases e : s' = s
        · subst e
          rw [pv_s, pv_s]
          exact ⟨rfl, rfl⟩
        · rw [pv_n _ _ e, pv_n _ _ e]
          exact hG s' (by omega)
  refine pe_of (pw_p (uv_0 ?_))
  have h0 := loop l 0 (by omega) (B 45) (B 46) (fun s hs => absurd hs (by omega)) N
  rw [sJ_self, sJ_self] at h0
  exact h0
theorem lnt_c {k : Nat} (h : lnt I J k A B) (h24 : A' 35 24 = A 35 24) (h49 : A' 49 = A 49) (h50 : B' 50 = B 50) (h51 : B' 51 = B 51) : lnt I J k A' B' := by
  unfold lnt
  rw [h24, h49, h50, h51]
  exact h
/-- one that is left is taken up -/
theorem pe_use (h : rl3 I J R1 T1) (hB : cx_hB cx_B0 I) (hA : rg I J W HH n A B) (hlen : (ls I J).length ≤ 10000) (hL : lnt I J (ls I J).length A B) {k : Nat} (hk : k < (ls I J).length) (hp : lkf I J k = true) (hx : x = Int32.ofNat (cq (lkf I J) k)) : pe N X 231 [.ref 35, .int x] (ev_hp A B R T) (fun r h => r = none ∧ ∃ G1 G2, h = ev_hp A (ev_sJ (ev_sJ B 45 G1) 46 G2) R T ∧ ∀ s, s < rf_n I → G1 s = (xq I J (ls I J)[k] (nca I)).1 s ∧ G2 s = (xq I J (ls I J)[k] (nca I)).2 s) := by
  have hle := cq_le (lkf I J) k
  have hn3 := (rf_ns hB).2
  refine pe_mono (pe_useLeft (l := rf_n I) hA.1.2.2.2.2.1 hn3 (by omega) hx) ?_
  rintro r h' ⟨rfl, G1, G2, rfl, hG⟩
  refine ⟨rfl, G1, G2, rfl, fun s hs => ?_⟩
  have h3 := (hL.2 k hk hp).2 s (by omega)
  rw [ly_gd hk] at h3
  rw [(hG s hs).1, (hG s hs).2]
  exact ⟨h3.1, h3.2 hs⟩
/-- what lies where a laying that was played has its ships -/
theorem lq_pk (h : rl3 I J R1 T1) (hB : cx_hB cx_B0 I) (hg : gk I J W HH (rf_n I) n) {k : Nat} (hk : k < (ls I J).length) (m : Nat) : pk (W * HH) (rf_n I) (xq I J (ls I J)[k] m).1 := by
  have hg0 := hg
  obtain ⟨e0, e1, hW, hH, -⟩ := hg0
  exact pk_q (gk_mv hg) (pk_ls h.1.1 hB (List.getElem_mem hk) e0 e1 hW hH) m
theorem xp_kb (t : ly_t) (m c : Nat) : kb (xp I J t m) c = ((kb ((xq I J t m).1 0) c || kb ((xq I J t m).1 1) c) || kb ((xq I J t m).1 2) c) := by
  show kb (((xq I J t m).1 0 ||| (xq I J t m).1 1) ||| (xq I J t m).1 2) c = _
  rw [kb_or, kb_or]
theorem xp_yes {t : ly_t} {m c s : Nat} (hs : s < 3) (h : kb ((xq I J t m).1 s) c = true) : kb (xp I J t m) c = true := by
  rw [xp_kb]
  rcases (show s = 0 ∨ s = 1 ∨ s = 2 by omega) with rfl | rfl | rfl <;> rw [h] <;> simp
theorem xp_no {t : ly_t} {m c : Nat} (h : ∀ s, s < 3 → kb ((xq I J t m).1 s) c = false) : kb (xp I J t m) c = false := by
  rw [xp_kb, h 0 (by decide), h 1 (by decide), h 2 (by decide)]
  rfl
theorem pe_thereIn (h : rl3 I J R1 T1) (hB : cx_hB cx_B0 I) (hg : gk I J W HH (rf_n I) (nca I)) (hlen : (ls I J).length ≤ 10000) {c : Nat} (hx : x = Int32.ofNat c) (hc : c < 36) (hA : rg I J W HH (nca I) A B) (hL : lnt I J (ls I J).length A B) : pe N X 228 [.ref 35, .int x] (ev_hp A B R T) (fun r h => r = some (.int (Int32.ofNat (tS I J c))) ∧ ∃ B', h = ev_hp A B' R T ∧ rg I J W HH (nca I) A B' ∧ lnt I J (ls I J).length A B') := by
  subst hx
  have hn3 := (rf_ns hB).2
  have eS : ∀ k, k < (ls I J).length → cq (fun k => lkf I J k && kb (xp I J ((ls I J).getD k (0, 0, 0)) (nca I)) c) (k + 1) = cq (fun k => lkf I J k && kb (xp I J ((ls I J).getD k (0, 0, 0)) (nca I)) c) k + (bif lkf I J k && kb (xp I J ((ls I J).getD k (0, 0, 0)) (nca I)) c then 1 else 0) := fun k _ => rfl
  have eL : ∀ k, cq (lkf I J) (k + 1) = cq (lkf I J) k + (bif lkf I J k then 1 else 0) := fun k => rfl
  have loop : ∀ (d k : Nat), k + d = (ls I J).length → ∀ B, rg I J W HH (nca I) A B → lnt I J (ls I J).length A B → ∀ N, pw N X 228 4 [.ref 35, .int (Int32.ofNat c), .int (Int32.ofNat (cq (fun k => lkf I J k && kb (xp I J ((ls I J).getD k (0, 0, 0)) (nca I)) c) k)), .int (Int32.ofNat (cq (lkf I J) k))] [] (ev_hp A B R T) (fun r h => r = some (.int (Int32.ofNat (tS I J c))) ∧ ∃ B', h = ev_hp A B' R T ∧ rg I J W HH (nca I) A B' ∧ lnt I J (ls I J).length A B') := by
    intro d
    induction d with
    | zero =>
      intro k hk B hA hL N
      obtain rfl : k = (ls I J).length := by omega
      refine pw_p (tv_4 ⟨fun _ => ⟨rfl, B, rfl, hA, hL⟩, fun g => ?_⟩)
      rw [hL.1] at g
      exact absurd (Int32.le_refl _) g
    | succ d ih =>
      intro k hkd B hA hL N
      have hk : k < (ls I J).length := by omega
      have h5 := fun B' a b => ih (k + 1) (by omega) B' a b
      cases hp : lkf I J k
      · have h6 := h5 B hA hL N
        rw [eS k hk, eL, hp] at h6
        exact h6
      · have hlt := cq_lt (p := lkf I J) hk hp
        have hll := cq_le (lkf I J) (ls I J).length
        refine pw_p (tv_4 ⟨fun g => ?_, fun _ => ⟨_, pe_use h hB hA hlen hL hk hp rfl, ?_⟩⟩)
        · rw [hL.1, io_le (by omega) (by omega)] at g
          omega
        rintro r h' ⟨rfl, G1, G2, rfl, hG⟩
        have hA2 : rg I J W HH (nca I) A (ev_sJ (ev_sJ B 45 G1) 46 G2) := rg_c hA (fun _ _ _ _ _ => rfl) (fun _ _ => rfl) (fun a h5 h6 _ _ _ => by rw [cx_sJ_n _ _ h6, cx_sJ_n _ _ h5])
        have hL2 : lnt I J (ls I J).length A (ev_sJ (ev_sJ B 45 G1) 46 G2) := lnt_c hL rfl rfl (by rw [cx_sJ_n _ _ (show (50 : Nat) ≠ 46 by decide), cx_sJ_n _ _ (show (50 : Nat) ≠ 45 by decide)]) (by rw [cx_sJ_n _ _ (show (51 : Nat) ≠ 46 by decide), cx_sJ_n _ _ (show (51 : Nat) ≠ 45 by decide)])
        have c45 : ev_sJ (ev_sJ B 45 G1) 46 G2 45 = G1 := by rw [cx_sJ_n _ _ (by decide), cx_sJ_s]
        have hpk := lq_pk h hB hg hk (nca I)
        refine pw_p (tv_17 ⟨_, pe_shipAt (c := c) hA2.1.2.2.2.2.1 hn3 rfl (by omega), ?_⟩)
        rintro r h' ⟨rfl, ⟨rfl, g⟩ | ⟨s, hs, rfl, g⟩⟩
        · have hz : kb (xp I J ((ls I J).getD k (0, 0, 0)) (nca I)) c = false := by
            rw [ly_gd hk]
            refine xp_no fun s hs => ?_
            by_cases hsn : s < rf_n I
            · have := g s hsn
              rw [c45, (hG s hsn).1] at this
              exact this
            · rw [hpk.2.2 s (by omega) hs]
              exact kb_0 c
          refine pw_p (tv_23 ⟨fun z => absurd rfl z, fun _ => ?_⟩)
          have h6 := h5 _ hA2 hL2 N
          rw [eS k hk, eL, hp, hz] at h6
          rw [Int32.add_zero, io_1]
          exact h6
        · have hz : kb (xp I J ((ls I J).getD k (0, 0, 0)) (nca I)) c = true := by
            rw [ly_gd hk]
            refine xp_yes (s := s) (by omega) ?_
            rw [c45, (hG s hs).1] at g
            exact g
          refine pw_p (tv_23 ⟨fun _ => ?_, fun z => absurd (fun e => ?_) z⟩)
          · have h6 := h5 _ hA2 hL2 N
            rw [eS k hk, eL, hp, hz] at h6
            rw [io_1, io_1]
            exact h6
          · have e2 := congrArg Int32.toInt e
            rw [io_ti (by omega), show ((-1 : Int32)).toInt = -1 from by decide] at e2
            omega
  exact pe_of (pw_p (tv_0 (loop (ls I J).length 0 (by omega) B hA hL N)))
end
/-! what a call of one cell gets -/
theorem q_sub {sr : Int32} {dr : Bool} {mv : Int64 → Int64} {tg P0 : Nat → Int64} : ∀ c s i, kb ((pl_q sr dr mv tg P0 c).2 s) i = true → kb ((pl_q sr dr mv tg P0 c).1 s) i = true := by
  intro c
  induction c with
  | zero =>
    intro s i h
    rw [show (pl_q sr dr mv tg P0 0).2 s = 0 from rfl, kb_0] at h
    cases h
  | succ c ih =>
    intro s i h
    have hH : ∀ i, kb (pl_h (pl_q sr dr mv tg P0 c).1 (pl_q sr dr mv tg P0 c).2 (tg c) s) i = true → kb ((pl_q sr dr mv tg P0 c).1 s) i = true := fun i h => by
      unfold pl_h at h
      rw [kb_or, kb_and] at h
      rcases Bool.or_eq_true_iff.mp h with h | h
      · exact ih s i h
      · exact (Bool.and_eq_true_iff.mp h).1
    have h1 : kb (pl_h (pl_q sr dr mv tg P0 c).1 (pl_q sr dr mv tg P0 c).2 (tg c) s) i = true := h
    show kb (pl_f sr dr mv (pl_q sr dr mv tg P0 c).1 (pl_q sr dr mv tg P0 c).2 (tg c) s) i = true
    unfold pl_f
    cases dr && Nat.beq (pl_a sr (pl_q sr dr mv tg P0 c).1 (pl_q sr dr mv tg P0 c).2 (tg c)) 0
    · exact hH i h1
    · show kb (pl_m mv (pl_q sr dr mv tg P0 c).1 (pl_h (pl_q sr dr mv tg P0 c).1 (pl_q sr dr mv tg P0 c).2 (tg c)) s) i = true
      unfold pl_m
      cases pl_o (pl_x mv (pl_q sr dr mv tg P0 c).1 (pl_h (pl_q sr dr mv tg P0 c).1 (pl_q sr dr mv tg P0 c).2 (tg c)))
      · exact hH i h1
      · show kb (pl_x mv (pl_q sr dr mv tg P0 c).1 (pl_h (pl_q sr dr mv tg P0 c).1 (pl_q sr dr mv tg P0 c).2 (tg c)) s) i = true
        unfold pl_x
        by_cases e : pl_h (pl_q sr dr mv tg P0 c).1 (pl_q sr dr mv tg P0 c).2 (tg c) s = 0
        · rw [e, kb_0] at h1
          cases h1
        · rw [if_neg e]
          exact hH i h1
theorem cq_two {p : Nat → Bool} {a b m : Nat} (hab : a < b) (hbm : b < m) (ha : p a = true) (hb : p b = true) : 2 ≤ cq p m := by
  have h1 := cq_lt hab ha
  have h2 := cq_lt hbm hb
  omega
theorem on1_kb {P H : Int64} {c : Nat} (hc : c < 64) (hs : ∀ i, kb H i = true → kb P i = true) (hp : kb P c = true) : kb (on1 (P &&& (H ^^^ (18446744073709551615 : Int64)))) c = (!kb H c && decide (H ||| cell1 c = P)) := by
  have hz : ∀ i, i < 64 → kb (P &&& (H ^^^ (18446744073709551615 : Int64))) i = (kb P i && !kb H i) := fun i hi => by
    rw [kb_and, show (18446744073709551615 : Int64) = -1 from by decide, kb_not H hi]
  have hzc := hz c hc
  cases hh : kb H c
  · rw [hp, hh] at hzc
    have hzc : kb (P &&& (H ^^^ (18446744073709551615 : Int64))) c = true := hzc
    by_cases e : H ||| cell1 c = P
    · rw [decide_eq_true e]
      have ez : P &&& (H ^^^ (18446744073709551615 : Int64)) = cell1 c := kb_ext fun i hi => by
        rw [hz i hi, ← e, kb_or]
        unfold cell1
        rw [kb_one hc]
        by_cases ei : i = c
        · rw [ei, hh, decide_eq_true rfl]
          rfl
        · rw [decide_eq_false ei, Bool.or_false]
          cases kb H i <;> rfl
      unfold on1
      rw [ez, pcJ_bc, pc_bt hc, if_pos (show Int32.ofNat 1 = 1 from rfl)]
      unfold cell1
      rw [kb_one hc, decide_eq_true rfl]
      rfl
    · rw [decide_eq_false e]
      have hne : pcJ (P &&& (H ^^^ (18446744073709551615 : Int64))) ≠ 1 := fun z => e (kb_ext fun i hi => by
        rw [kb_or]
        unfold cell1
        rw [kb_one hc]
        by_cases ei : i = c
        · rw [ei, hp, decide_eq_true rfl, Bool.or_true]
        · rw [decide_eq_false ei, Bool.or_false]
          cases hpi : kb P i
          · cases hhi : kb H i
            · rfl
            · rw [hs i hhi] at hpi
              cases hpi
          · cases hhi : kb H i
            · have h1 := hz i hi
              rw [hpi, hhi] at h1
              have h1 : kb (P &&& (H ^^^ (18446744073709551615 : Int64))) i = true := h1
              rw [pcJ_cq] at z
              rcases Nat.lt_or_gt_of_ne ei with hl | hl
              · have := cq_two hl hc h1 hzc
                omega
              · have := cq_two hl hi hzc h1
                omega
            · rfl)
      unfold on1
      rw [pcJ_bc, if_neg (fun z => hne (by
        have h64 := pcJ_le (P &&& (H ^^^ (18446744073709551615 : Int64)))
        rw [show (1 : Int32) = Int32.ofNat 1 from rfl, io_eq (by omega) (by omega)] at z
        exact z)), kb_0]
      rfl
  · rw [hp, hh] at hzc
    rw [on1_sub hzc]
    rfl
theorem an_is {sr : Int32} {P H : Nat → Int64} {c : Nat} (hc : c < 64) (hD : Dj P) (hs : ∀ s i, kb (H s) i = true → kb (P s) i = true) : pl_a sr P H (cell1 c) = (bif kb (pl_w P) c then (bif (decide (sr = 1) && kb (skF P H) c) then 2 else 1) else 0) := by
  have hw : kb (pl_w P) c = ((kb (P 0) c || kb (P 1) c) || kb (P 2) c) := by
    unfold pl_w
    rw [kb_or, kb_or]
  have hk : kb (skF P H) c = ((kb (on1 (P 0 &&& (H 0 ^^^ (18446744073709551615 : Int64)))) c || kb (on1 (P 1 &&& (H 1 ^^^ (18446744073709551615 : Int64)))) c) || kb (on1 (P 2 &&& (H 2 ^^^ (18446744073709551615 : Int64)))) c) := by
    unfold skF
    rw [kb_or, kb_or, kb_or, kb_0, Bool.false_or]
  by_cases h : ∃ s, s < 3 ∧ kb (P s) c = true
  · obtain ⟨s, hs3, h⟩ := h
    obtain ⟨h1, -, -⟩ := pl_one (sr := sr) (H := H) hc hs3 hD h
    have ho : ∀ s', s' < 3 → s' ≠ s → kb (P s') c = false ∧ kb (on1 (P s' &&& (H s' ^^^ (18446744073709551615 : Int64)))) c = false := fun s' h3 hne => by
      have hf := Dj_kb hD hs3 h3 (fun z => hne z.symm) h
      exact ⟨hf, on1_sub (by rw [kb_and, hf, Bool.false_and])⟩
    have hk1 := on1_kb hc (hs s) h
    rw [h1]
    have e1 : kb (pl_w P) c = true := by
      rw [hw]
      rcases (show s = 0 ∨ s = 1 ∨ s = 2 by omega) with rfl | rfl | rfl <;> rw [h] <;> simp
    have e2 : kb (skF P H) c = (!kb (H s) c && decide (H s ||| cell1 c = P s)) := by
      rw [hk, ← hk1]
      rcases (show s = 0 ∨ s = 1 ∨ s = 2 by omega) with rfl | rfl | rfl
      · rw [(ho 1 (by decide) (by decide)).2, (ho 2 (by decide) (by decide)).2, Bool.or_false, Bool.or_false]
      · rw [(ho 0 (by decide) (by decide)).2, (ho 2 (by decide) (by decide)).2, Bool.or_false, Bool.false_or]
      · rw [(ho 0 (by decide) (by decide)).2, (ho 1 (by decide) (by decide)).2, Bool.or_false, Bool.false_or]
    rw [e1, e2]
    rfl
  · have h0 : ∀ s, s < 3 → kb (P s) c = false := fun s hs => by
      cases hk : kb (P s) c
      · rfl
      · exact absurd ⟨s, hs, hk⟩ h
    rw [(pl_none (sr := sr) (H := H) hc h0).1, hw, h0 0 (by decide), h0 1 (by decide), h0 2 (by decide)]
    rfl
theorem sk_sub {P H : Nat → Int64} {c : Nat} (h : kb (skF P H) c = true) : kb (pl_w P) c = true := by
  cases hw : kb (pl_w P) c
  · unfold pl_w at hw
    rw [kb_or, kb_or] at hw
    have h2 := Bool.or_eq_false_iff.mp hw
    have h3 := Bool.or_eq_false_iff.mp h2.1
    have ho : ∀ s, kb (P s) c = false → kb (on1 (P s &&& (H s ^^^ (18446744073709551615 : Int64)))) c = false := fun s hf => on1_sub (by rw [kb_and, hf, Bool.false_and])
    unfold skF at h
    rw [kb_or, kb_or, kb_or, kb_0, ho 0 h3.1, ho 1 h3.2, ho 2 h2.2] at h
    cases h
  · rfl
theorem cq_split (p q : Nat → Bool) : ∀ m, cq p m = cq (fun i => p i && q i) m + cq (fun i => p i && !q i) m := by
  intro m
  induction m with
  | zero => rfl
  | succ m ih =>
    have e1 : cq p (m + 1) = cq p m + (bif p m then 1 else 0) := rfl
    have e2 : cq (fun i => p i && q i) (m + 1) = cq (fun i => p i && q i) m + (bif p m && q m then 1 else 0) := rfl
    have e3 : cq (fun i => p i && !q i) (m + 1) = cq (fun i => p i && !q i) m + (bif p m && !q m then 1 else 0) := rfl
    rw [e1, e2, e3, ih]
    cases p m <;> cases q m <;> simp <;> omega
end
section
/-! The reference: the answers over those that are left. -/
theorem imx_i (a b : Int32) : (imx a b).toInt = max a.toInt b.toInt := by
  unfold imx
  split
  · rename_i h
    rw [Int32.lt_iff_toInt_lt] at h
    omega
  · rename_i h
    rw [Int32.lt_iff_toInt_lt] at h
    omega
theorem imx_3 {a b c v : Int32} (h : v.toInt = max a.toInt (max b.toInt c.toInt)) : v = imx a (imx b c) := Int32.toInt_inj.mp (by rw [imx_i, imx_i, h])
theorem io_subx (a b : Nat) : Int32.ofNat (a + b) - Int32.ofNat a = Int32.ofNat b := by
  rw [Nat.add_comm, Int32.ofNat_add, Int32.add_sub_cancel]
/-- what laying k would say of a cell -/
noncomputable def anF (I : Nat → Nat → Int32) (J : Nat → Nat → Int64) (c k : Nat) : Nat := pl_a (I 2 1) (xq I J ((ls I J).getD k (0, 0, 0)) (nca I)).1 (xq I J ((ls I J).getD k (0, 0, 0)) (nca I)).2 (cell1 c)
noncomputable def anR (I : Nat → Nat → Int32) (J : Nat → Nat → Int64) (c v k : Nat) : Bool := lkf I J k && decide (anF I J c k = v)
section
variable {N : Nat} {X : ez_X} {I A A' : Nat → Nat → Int32} {J B B' : Nat → Nat → Int64} {R R1 : Nat → Nat} {T T1 : List ez_C} {x y : Int32} {W HH n : Nat}
theorem an_of (h : rl3 I J R1 T1) (hB : cx_hB cx_B0 I) (hg : gk I J W HH (rf_n I) (nca I)) {c : Nat} (hc : c < 36) {k : Nat} (hk : k < (ls I J).length) : anF I J c k = (bif kb (xp I J ((ls I J).getD k (0, 0, 0)) (nca I)) c then (bif kb (xs I J ((ls I J).getD k (0, 0, 0)) (nca I)) c then 2 else 1) else 0) ∧ (kb (xs I J ((ls I J).getD k (0, 0, 0)) (nca I)) c = true → kb (xp I J ((ls I J).getD k (0, 0, 0)) (nca I)) c = true) := by
  have hpk := lq_pk h hB hg hk (nca I)
  rw [← ly_gd (d := (0, 0, 0)) hk] at hpk
  have ex : kb (xs I J ((ls I J).getD k (0, 0, 0)) (nca I)) c = (decide (I 2 1 = 1) && kb (skF (xq I J ((ls I J).getD k (0, 0, 0)) (nca I)).1 (xq I J ((ls I J).getD k (0, 0, 0)) (nca I)).2) c) := by
    unfold xs
    by_cases e : I 2 1 = 1
    · rw [if_pos e, decide_eq_true e, Bool.true_and]
    · rw [if_neg e, decide_eq_false e, kb_0]
      rfl
  refine ⟨?_, fun hx => ?_⟩
  · unfold anF
    rw [an_is (by omega) hpk.1 (fun s i => q_sub (nca I) s i), ex]
    rfl
  · rw [ex] at hx
    exact sk_sub (Bool.and_eq_true_iff.mp hx).2
/-- the three parts, as the class has them -/
theorem an_ip (h : rl3 I J R1 T1) (hB : cx_hB cx_B0 I) (hg : gk I J W HH (rf_n I) (nca I)) {c : Nat} (hc : c < 36) : Int32.ofNat (cq (anR I J c 0) (ls I J).length) = ipN I J c 0 ∧ Int32.ofNat (cq (anR I J c 1) (ls I J).length) = ipN I J c 1 ∧ Int32.ofNat (cq (anR I J c 2) (ls I J).length) = ipN I J c 2 := by
  have hk := fun k (hk : k < (ls I J).length) => an_of h hB hg hc hk
  have e0 : cq (anR I J c 0) (ls I J).length = cq (fun k => lkf I J k && !kb (xp I J ((ls I J).getD k (0, 0, 0)) (nca I)) c) (ls I J).length := cq_c _ fun k hkl => by
    unfold anR
    rw [(hk k hkl).1]
    cases kb (xp I J ((ls I J).getD k (0, 0, 0)) (nca I)) c <;> cases kb (xs I J ((ls I J).getD k (0, 0, 0)) (nca I)) c <;> rfl
  have e1 : cq (anR I J c 1) (ls I J).length = cq (fun k => (lkf I J k && kb (xp I J ((ls I J).getD k (0, 0, 0)) (nca I)) c) && !kb (xs I J ((ls I J).getD k (0, 0, 0)) (nca I)) c) (ls I J).length := cq_c _ fun k hkl => by
    unfold anR
    rw [(hk k hkl).1]
    cases lkf I J k <;> cases kb (xp I J ((ls I J).getD k (0, 0, 0)) (nca I)) c <;> cases kb (xs I J ((ls I J).getD k (0, 0, 0)) (nca I)) c <;> rfl
  have e2 : cq (anR I J c 2) (ls I J).length = tK I J c := cq_c _ fun k hkl => by
    have h2 := hk k hkl
    unfold anR
    rw [h2.1]
    cases hx : kb (xs I J ((ls I J).getD k (0, 0, 0)) (nca I)) c
    · cases lkf I J k <;> cases kb (xp I J ((ls I J).getD k (0, 0, 0)) (nca I)) c <;> rfl
    · rw [h2.2 hx]
      cases lkf I J k <;> rfl
  have e3 : cq (fun k => (lkf I J k && kb (xp I J ((ls I J).getD k (0, 0, 0)) (nca I)) c) && kb (xs I J ((ls I J).getD k (0, 0, 0)) (nca I)) c) (ls I J).length = tK I J c := cq_c _ fun k hkl => by
    have h2 := hk k hkl
    cases hx : kb (xs I J ((ls I J).getD k (0, 0, 0)) (nca I)) c
    · rw [Bool.and_false, Bool.and_false]
    · rw [h2.2 hx, Bool.and_true]
  have s1 : tN I J = tS I J c + cq (fun k => lkf I J k && !kb (xp I J ((ls I J).getD k (0, 0, 0)) (nca I)) c) (ls I J).length := cq_split (lkf I J) (fun k => kb (xp I J ((ls I J).getD k (0, 0, 0)) (nca I)) c) _
  have s2 : tS I J c = cq (fun k => (lkf I J k && kb (xp I J ((ls I J).getD k (0, 0, 0)) (nca I)) c) && kb (xs I J ((ls I J).getD k (0, 0, 0)) (nca I)) c) (ls I J).length + cq (fun k => (lkf I J k && kb (xp I J ((ls I J).getD k (0, 0, 0)) (nca I)) c) && !kb (xs I J ((ls I J).getD k (0, 0, 0)) (nca I)) c) (ls I J).length := cq_split (fun k => lkf I J k && kb (xp I J ((ls I J).getD k (0, 0, 0)) (nca I)) c) (fun k => kb (xs I J ((ls I J).getD k (0, 0, 0)) (nca I)) c) _
  rw [e3] at s2
  unfold ipN
  refine ⟨?_, ?_, ?_⟩
  · rw [if_pos rfl, e0, s1, io_subx]
  · rw [if_neg (by decide), if_pos rfl, e1, s2, io_subx]
  · rw [if_neg (by decide), if_neg (by decide), e2]
/-- behind greatest: the parts -/
noncomputable def gr_Q (I : Nat → Nat → Int32) (J : Nat → Nat → Int64) (W HH c : Nat) (A : Nat → Nat → Int32) (R : Nat → Nat) (T : List ez_C) : pw_Q := fun r h => r = some (.int (gtN I J c)) ∧ ∃ F B', h = ev_hp (ev_sI A 53 F) B' R T ∧ F 0 = ipN I J c 0 ∧ F 1 = ipN I J c 1 ∧ F 2 = ipN I J c 2 ∧ rg I J W HH (nca I) (ev_sI A 53 F) B' ∧ lnt I J (ls I J).length (ev_sI A 53 F) B'
theorem pe_mgreat (h : rl3 I J R1 T1) (hB : cx_hB cx_B0 I) (hg : gk I J W HH (rf_n I) (nca I)) (hlen : (ls I J).length ≤ 10000) {c : Nat} (hx : x = Int32.ofNat c) (hc : c < 36) (hA : rg I J W HH (nca I) A B) (hL : lnt I J (ls I J).length A B) : pe N X 193 [.ref 35, .int x, .int (-1 : Int32)] (ev_hp A B R T) (gr_Q I J W HH c A R T) := by
  subst hx
  have hn3 := (rf_ns hB).2
  obtain ⟨i0, i1, i2⟩ := an_ip h hB hg hc
  have eR : ∀ v k, cq (anR I J c v) (k + 1) = cq (anR I J c v) k + (bif anR I J c v k then 1 else 0) := fun v k => rfl
  have eL : ∀ k, cq (lkf I J) (k + 1) = cq (lkf I J) k + (bif lkf I J k then 1 else 0) := fun k => rfl
  have loop : ∀ (d k : Nat), k + d = (ls I J).length → ∀ F B, rg I J W HH (nca I) (ev_sI A 53 F) B → lnt I J (ls I J).length (ev_sI A 53 F) B → (∀ v, v < 3 → F v = Int32.ofNat (cq (anR I J c v) k)) → ∀ N, pw N X 193 23 [.ref 35, .int (Int32.ofNat c), .int (-1 : Int32), .int (Int32.ofNat (cq (lkf I J) k))] [] (ev_hp (ev_sI A 53 F) B R T) (gr_Q I J W HH c A R T) := by
    intro d
    induction d with
    | zero =>
      intro k hk F B hA hL hF N
      obtain rfl : k = (ls I J).length := by omega
      have f0 := (hF 0 (by decide)).trans i0
      have f1 := (hF 1 (by decide)).trans i1
      have f2 := (hF 2 (by decide)).trans i2
      have fin : ∀ v : Int32, v.toInt = max (F 0).toInt (max (F 1).toInt (F 2).toInt) → gr_Q I J W HH c A R T (some (.int v)) (ev_hp (ev_sI A 53 F) B R T) := fun v hv => by
        rw [f0, f1, f2] at hv
        refine ⟨?_, F, B, rfl, f0, f1, f2, hA, hL⟩
        rw [imx_3 hv]
        rfl
      refine pw_p (gv_23 ?_)
      rw [cx_sI_s, show (0 : Int32).toNatClampNeg = 0 from rfl, show (1 : Int32).toNatClampNeg = 1 from rfl, show (2 : Int32).toNatClampNeg = 2 from rfl]
      refine ⟨fun _ _ _ => ⟨fun g _ _ => ⟨fun g2 => fin _ ?_, fun g2 _ => fin _ ?_⟩, fun g _ _ => ⟨fun g2 => fin _ ?_, fun g2 _ => fin _ ?_⟩⟩, fun g => ?_⟩
      · rw [Int32.le_iff_toInt_le] at g g2
        omega
      · rw [Int32.le_iff_toInt_le] at g g2
        omega
      · rw [Int32.le_iff_toInt_le] at g g2
        omega
      · rw [Int32.le_iff_toInt_le] at g g2
        omega
      · rw [hL.1] at g
        exact absurd (Int32.le_refl _) g
    | succ d ih =>
      intro k hkd F B hA hL hF N
      have hk : k < (ls I J).length := by omega
      cases hp : lkf I J k
      · have h6 := ih (k + 1) (by omega) F B hA hL (fun v hv => by
          rw [hF v hv, eR]
          unfold anR
          rw [hp]
          rfl) N
        rw [eL, hp] at h6
        exact h6
      · have hlt := cq_lt (p := lkf I J) hk hp
        have hll := cq_le (lkf I J) (ls I J).length
        refine pw_p (gv_23 ⟨fun g => ?_, fun _ => ⟨_, pe_use h hB hA hlen hL hk hp rfl, ?_⟩⟩)
        · rw [hL.1, io_le (by omega) (by omega)] at g
          omega
        rintro r h' ⟨rfl, G1, G2, rfl, hG⟩
        have hA2 : rg I J W HH (nca I) (ev_sI A 53 F) (ev_sJ (ev_sJ B 45 G1) 46 G2) := rg_c hA (fun _ _ _ _ _ => rfl) (fun _ _ => rfl) (fun a h5 h6 _ _ _ => by rw [cx_sJ_n _ _ h6, cx_sJ_n _ _ h5])
        have hpk := lq_pk h hB hg hk (nca I)
        have e35 : ev_sI A 53 F 35 7 = I 2 1 := by
          rw [← hA2.1.2.2.2.2.2.2.1, (bk_at hA2.2.1).2.2.2.2.1]
        refine pw_p (gv_36 ⟨_, pe_callCell (P := (xq I J (ls I J)[k] (nca I)).1) (H := (xq I J (ls I J)[k] (nca I)).2) (c := c) hA2.1.2.2.2.2.1 hn3 (fun s hs => ?_) hpk.2.2 hpk.1 rfl (by omega), ?_⟩)
        · rw [cx_sJ_n _ _ (show (45 : Nat) ≠ 46 by decide), cx_sJ_s, cx_sJ_s]
          exact hG s hs
        rintro r h' ⟨rfl, G, rfl, -⟩
        rw [e35, sJ2]
        have ea : pl_a (I 2 1) (xq I J (ls I J)[k] (nca I)).1 (xq I J (ls I J)[k] (nca I)).2 (cell1 c) = anF I J c k := by
          unfold anF
          rw [ly_gd hk]
        rw [ea]
        have ha2 : anF I J c k ≤ 2 := by
          rw [(an_of h hB hg hc hk).1]
          cases kb (xp I J ((ls I J).getD k (0, 0, 0)) (nca I)) c <;> cases kb (xs I J ((ls I J).getD k (0, 0, 0)) (nca I)) c <;> decide
        refine pw_p (gv_41 ?_)
        rw [io_cl (by omega), cx_sI_s, nd_sI2, io_1]
        intro _ _
        have h6 := ih (k + 1) (by omega) (upd F (anF I J c k) (F (anF I J c k) + 1)) (ev_sJ (ev_sJ B 45 G1) 46 G) (rg_c hA (fun a _ _ _ h5 => by rw [cx_sI_n _ _ h5, cx_sI_n _ _ h5]) (fun q _ => by rw [cx_sI_n _ _ (show (35 : Nat) ≠ 53 by decide), cx_sI_n _ _ (show (35 : Nat) ≠ 53 by decide)]) (fun a h5 h6 _ _ _ => by rw [cx_sJ_n _ _ h6, cx_sJ_n _ _ h5])) (lnt_c hL (by rw [cx_sI_n _ _ (show (35 : Nat) ≠ 53 by decide), cx_sI_n _ _ (show (35 : Nat) ≠ 53 by decide)]) (by rw [cx_sI_n _ _ (show (49 : Nat) ≠ 53 by decide), cx_sI_n _ _ (show (49 : Nat) ≠ 53 by decide)]) (by rw [cx_sJ_n _ _ (show (50 : Nat) ≠ 46 by decide), cx_sJ_n _ _ (show (50 : Nat) ≠ 45 by decide)]) (by rw [cx_sJ_n _ _ (show (51 : Nat) ≠ 46 by decide), cx_sJ_n _ _ (show (51 : Nat) ≠ 45 by decide)])) (fun v hv => by
          rw [eR]
          by_cases e : v = anF I J c k
          · subst e
            have er : anR I J c (anF I J c k) k = true := by
              unfold anR
              rw [hp, decide_eq_true rfl]
              rfl
            rw [upd_s, hF _ hv, er, io_1]
            rfl
          · have er : anR I J c v k = false := by
              unfold anR
              rw [decide_eq_false (fun z => e z.symm), Bool.and_false]
            rw [upd_n _ _ e, hF v hv, er]
            rfl) N
        rw [eL, hp] at h6
        exact h6
  refine pe_of (pw_p (gv_0 fun _ _ _ => ?_))
  rw [nd_sI2, nd_sI2]
  exact loop (ls I J).length 0 (by omega) _ B (rg_c hA (fun a _ _ _ h5 => cx_sI_n _ _ h5) (fun q _ => by rw [cx_sI_n _ _ (show (35 : Nat) ≠ 53 by decide)]) (fun _ _ _ _ _ _ => rfl)) (lnt_c hL (by rw [cx_sI_n _ _ (show (35 : Nat) ≠ 53 by decide)]) (by rw [cx_sI_n _ _ (show (49 : Nat) ≠ 53 by decide)]) rfl rfl) (fun v hv => by
    rcases (show v = 0 ∨ v = 1 ∨ v = 2 by omega) with rfl | rfl | rfl <;> rfl) _
/-! the calls, by the reference -/
theorem cells_is (h : rl3 I J R1 T1) : I 1 6 = I 35 0 * I 35 1 := by
  obtain ⟨a0, a1, -, -⟩ := km_0 h.1.1.1
  rw [h.1.2.1.1, a0, a1]
theorem pe_mleft (h : rl3 I J R T) (hB : cx_hB cx_B0 I) : pe N X 207 [.ref 35] (ev_hp I J R T) (fun r _ => r = some (.int (v_left I J))) := by
  refine pe_of (pw_p (ml_0 ⟨_, pe_findLeft h hB _, ?_⟩))
  rintro r h' ⟨A, B, rfl, ⟨h1, rfl⟩ | ⟨h1, hlen, rfl, W, HH, hg, hA, hL⟩⟩
  · refine pw_p (ml_4 ⟨fun _ => ?_, fun z => absurd rfl z⟩)
    unfold v_left
    rw [if_neg h1]
  · refine pw_p (ml_4 ⟨fun z => absurd z (by decide), fun _ => ?_⟩)
    unfold v_left
    rw [if_pos h1, hL.1]
    rfl
theorem wF_at {p : Nat → Bool} {i : Nat} : ∀ m, m < 2147483648 → (∃ k, k < m ∧ p k = true ∧ cq p k = i ∧ wF p i m = Int32.ofNat k) ∨ (cq p m ≤ i ∧ wF p i m = -1) := by
  intro m
  induction m with
  | zero => exact fun _ => Or.inr ⟨Nat.zero_le _, rfl⟩
  | succ m ih =>
    intro hm
    have e : cq p (m + 1) = cq p m + (bif p m then 1 else 0) := rfl
    rcases ih (by omega) with ⟨k, h1, h2, h3, h4⟩ | ⟨h1, h2⟩
    · refine Or.inl ⟨k, by omega, h2, h3, ?_⟩
      have hno : ∀ j, j < k → p j = true → cq p j ≠ i := fun j hj hpj z => by
        have := cq_lt hj hpj
        omega
      have := wF_hit h2 h3 hno (by omega) (m - k)
      rw [show k + 1 + (m - k) = m + 1 by omega] at this
      exact this
    · by_cases hc : p m = true ∧ cq p m = i
      · refine Or.inl ⟨m, Nat.lt_succ_self m, hc.1, hc.2, ?_⟩
        show (if wF p i m = -1 then (if p m = true ∧ cq p m = i then Int32.ofNat m else -1) else wF p i m) = _
        rw [h2, if_pos rfl, if_pos hc]
      · refine Or.inr ⟨?_, ?_⟩
        · rw [e]
          cases hpm : p m
          · exact h1
          · have : cq p m ≠ i := fun z => hc ⟨hpm, z⟩
            show cq p m + 1 ≤ i
            omega
        · show (if wF p i m = -1 then (if p m = true ∧ cq p m = i then Int32.ofNat m else -1) else wF p i m) = _
          rw [h2, if_pos rfl, if_neg hc]
theorem pe_mwhich (h : rl3 I J R T) (hB : cx_hB cx_B0 I) : pe N X 232 [.ref 35, .int x] (ev_hp I J R T) (fun r _ => r = some (.int (v_which I J x))) := by
  refine pe_of (pw_p (mh_0 ⟨fun hx => ⟨_, pe_findLeft h hB _, ?_⟩, fun hx => ?_⟩))
  · rintro r h' ⟨A, B, rfl, ⟨h1, rfl⟩ | ⟨h1, hlen, rfl, W, HH, hg, hA, hL⟩⟩
    · refine pw_p (mh_11 ⟨fun z => absurd rfl z, fun _ => ?_⟩)
      unfold v_which
      rw [if_pos hx, if_neg h1]
    · have hx0 : 0 ≤ x.toInt := by
        rw [Int32.le_iff_toInt_le, show (0 : Int32).toInt = 0 from by decide] at hx
        exact hx
      have hxl := Int32.toInt_lt x
      have ex := io_nat hx0
      have hll := cq_le (lkf I J) (ls I J).length
      have hw := wF_at (p := lkf I J) (i := x.toInt.toNat) (ls I J).length (by omega)
      have hv : v_which I J x = wF (lkf I J) x.toInt.toNat (ls I J).length := by
        unfold v_which
        rw [if_pos hx, if_pos h1]
      refine pw_p (mh_11 ⟨fun _ => ⟨fun g => ?_, fun g _ => ?_⟩, fun z => absurd (by decide) z⟩)
      · rw [hL.1, ex, io_le (by omega) (by omega)] at g
        rcases hw with ⟨k, k1, k2, k3, -⟩ | ⟨-, k4⟩
        · have := cq_lt k1 k2
          omega
        · rw [hv, k4]
      · rw [hL.1, ex, io_le (by omega) (by omega)] at g
        rcases hw with ⟨k, k1, k2, k3, k4⟩ | ⟨k3, -⟩
        · rw [hv, k4, show x.toNatClampNeg = cq (lkf I J) k from by rw [k3]; rfl, (hL.2 k k1 k2).1]
        · omega
  · unfold v_which
    rw [if_neg hx]
theorem pe_mthere (h : rl3 I J R T) (hB : cx_hB cx_B0 I) : pe N X 227 [.ref 35, .int x] (ev_hp I J R T) (fun r _ => r = some (.int (v_there I J x))) := by
  obtain ⟨m, en, -, hn⟩ := b_16 hB
  refine pe_of (pw_p (mz_0 ⟨fun hx => ⟨_, pe_findLeft h hB _, ?_⟩, fun hx => ?_⟩))
  · rw [il_0, ← cells_is h] at hx
    rintro r h' ⟨A, B, rfl, ⟨h1, rfl⟩ | ⟨h1, hlen, rfl, W, HH, hg, hA, hL⟩⟩
    · refine pw_p (mz_15 ⟨fun _ => ?_, fun z => absurd rfl z⟩)
      unfold v_there
      rw [if_neg hx, if_neg h1]
    · have hx2 := hx
      rw [en] at hx2
      obtain ⟨c, rfl, hc⟩ := wi_len (by omega) hx2
      refine pw_p (mz_15 ⟨fun z => absurd z (by decide), fun _ => ⟨_, pe_thereIn h hB hg hlen rfl (by omega) hA hL, ?_⟩⟩)
      rintro r h' ⟨rfl, B', rfl, -⟩
      refine pw_p (mz_23 ?_)
      unfold v_there
      rw [if_neg hx, if_pos h1, io_ti (by omega), Int.toNat_natCast]
  · rw [il_0, ← cells_is h] at hx
    unfold v_there
    rw [if_pos (Classical.not_not.mp hx)]
theorem pe_mpart (h : rl3 I J R T) (hB : cx_hB cx_B0 I) : pe N X 214 [.ref 35, .int x, .int y] (ev_hp I J R T) (fun r _ => r = some (.int (v_part I J x y))) := by
  obtain ⟨m, en, -, hn⟩ := b_16 hB
  refine pe_of (pw_p (mp_0 ⟨fun hx => ⟨fun hy => ⟨_, pe_findLeft h hB _, ?_⟩, fun hy => ?_⟩, fun hx => ?_⟩))
  · rw [il_0, ← cells_is h] at hx
    rw [il_02] at hy
    rintro r h' ⟨A, B, rfl, ⟨h1, rfl⟩ | ⟨h1, hlen, rfl, W, HH, hg, hA, hL⟩⟩
    · refine pw_p (mp_30 ⟨fun z => absurd rfl z, fun _ => ?_⟩)
      unfold v_part
      rw [if_neg hx, if_neg hy, if_neg h1]
    · have hx2 := hx
      rw [en] at hx2
      obtain ⟨c, rfl, hc⟩ := wi_len (by omega) hx2
      have hy2 := hy
      rw [show (2 : Int32) = Int32.ofNat 2 from rfl] at hy2
      obtain ⟨v, rfl, hv⟩ := wi_le (by decide) hy2
      refine pw_p (mp_30 ⟨fun _ => ⟨_, pe_mgreat h hB hg hlen rfl (by omega) hA hL, ?_⟩, fun z => absurd (by decide) z⟩)
      rintro r h' ⟨rfl, F, B', rfl, f0, f1, f2, -⟩
      refine pw_p (mp_42 fun _ => ?_)
      unfold v_part
      rw [if_neg hx, if_neg hy, if_pos h1, cx_sI_s, io_cl (by omega), io_ti (by omega), Int.toNat_natCast]
      rcases (show v = 0 ∨ v = 1 ∨ v = 2 by omega) with rfl | rfl | rfl
      · rw [f0]
        rfl
      · rw [f1]
        rfl
      · rw [f2]
        rfl
  · rw [il_0, ← cells_is h] at hx
    rw [il_02] at hy
    unfold v_part
    rw [if_neg hx, if_pos (Classical.not_not.mp hy)]
  · rw [il_0, ← cells_is h] at hx
    unfold v_part
    rw [if_pos (Classical.not_not.mp hx)]
theorem pe_msure (h : rl3 I J R T) (hB : cx_hB cx_B0 I) : pe N X 225 [.ref 35, .int x] (ev_hp I J R T) (fun r _ => r = some (.long (v_sure I J x))) := by
  obtain ⟨m, en, -, hn⟩ := b_16 hB
  refine pe_of (pw_p (mq_0 ⟨fun hx => ⟨_, pe_findLeft h hB _, ?_⟩, fun hx => ?_⟩))
  · rw [il_01] at hx
    rintro r h' ⟨A, B, rfl, ⟨h1, rfl⟩ | ⟨h1, hlen, rfl, W, HH, hg, hA, hL⟩⟩
    · refine pw_p (mq_18 ⟨fun z => absurd rfl z, fun _ => ?_⟩)
      unfold v_sure
      rw [if_neg hx, if_neg h1]
    · have hv : v_sure I J x = scF (fun c => decide (Int32.ofNat (tS I J c) = if x = 0 then Int32.ofNat (tN I J) else 0)) m := by
        unfold v_sure
        rw [if_neg hx, if_pos h1, en, io_ti (by omega), Int.toNat_natCast]
      have ec : ∀ A B, rg I J W HH (nca I) A B → A 35 0 * A 35 1 = Int32.ofNat m := fun A B hA => by
        rw [hA.2.2.2.2.2.2.2.2.1, hA.2.2.2.2.2.2.2.2.2, ← cells_is h, en]
      have loop : ∀ (d c : Nat), c + d = m → ∀ B, rg I J W HH (nca I) A B → lnt I J (ls I J).length A B → ∀ N, pw N X 225 30 [.ref 35, .int x, .long (scF (fun c => decide (Int32.ofNat (tS I J c) = if x = 0 then Int32.ofNat (tN I J) else 0)) c), ez_fill, .int (Int32.ofNat c)] [] (ev_hp A B R T) (fun r _ => r = some (.long (v_sure I J x))) := by
        intro d
        induction d with
        | zero =>
          intro c hc B hA hL N
          obtain rfl : c = m := by omega
          refine pw_p (mq_30 ⟨fun _ => by rw [hv], fun g => ?_⟩)
          rw [ec A B hA] at g
          exact absurd (Int32.le_refl _) g
        | succ d ih =>
          intro c hcd B hA hL N
          have e : scF (fun c => decide (Int32.ofNat (tS I J c) = if x = 0 then Int32.ofNat (tN I J) else 0)) (c + 1) = if decide (Int32.ofNat (tS I J c) = if x = 0 then Int32.ofNat (tN I J) else 0) = true then scF (fun c => decide (Int32.ofNat (tS I J c) = if x = 0 then Int32.ofNat (tN I J) else 0)) c ||| cell1 c else scF (fun c => decide (Int32.ofNat (tS I J c) = if x = 0 then Int32.ofNat (tN I J) else 0)) c := rfl
          refine pw_p (mq_30 ⟨fun g => ?_, fun _ => ⟨_, pe_thereIn h hB hg hlen rfl (by omega) hA hL, ?_⟩⟩)
          · rw [ec A B hA, io_le (by omega) (by omega)] at g
            omega
          rintro r h' ⟨rfl, B', rfl, hA', hL'⟩
          have h5 := ih (c + 1) (by omega) B' hA' hL' N
          rw [e] at h5
          refine pw_p (mq_46 ?_)
          rw [hL'.1, io_1, Int64.or_zero]
          refine ⟨fun gx => ⟨fun g => ?_, fun g => ?_⟩, fun gx => ⟨fun g => ?_, fun g => ?_⟩⟩
          · have hd : ¬ Int32.ofNat (tS I J c) = if x = 0 then Int32.ofNat (tN I J) else 0 := by rw [if_neg gx]; exact g
            rw [decide_eq_false hd, if_neg (by decide)] at h5
            exact h5
          · have hd : Int32.ofNat (tS I J c) = if x = 0 then Int32.ofNat (tN I J) else 0 := by rw [if_neg gx]; exact Classical.not_not.mp g
            rw [decide_eq_true hd, if_pos rfl] at h5
            exact h5
          · have hd : ¬ Int32.ofNat (tS I J c) = if x = 0 then Int32.ofNat (tN I J) else 0 := by rw [if_pos (Classical.not_not.mp gx)]; exact g
            rw [decide_eq_false hd, if_neg (by decide)] at h5
            exact h5
          · have hd : Int32.ofNat (tS I J c) = if x = 0 then Int32.ofNat (tN I J) else 0 := by rw [if_pos (Classical.not_not.mp gx)]; exact Classical.not_not.mp g
            rw [decide_eq_true hd, if_pos rfl] at h5
            exact h5
      refine pw_p (mq_18 ⟨fun _ => ?_, fun z => absurd (by decide) z⟩)
      exact loop m 0 (by omega) B hA hL _
  · rw [il_01] at hx
    unfold v_sure
    rw [if_pos (Classical.not_not.mp hx)]
theorem pe_mbest (h : rl3 I J R T) (hB : cx_hB cx_B0 I) : pe N X 169 [.ref 35, .int x] (ev_hp I J R T) (fun r _ => r = some (.int (v_best I J x))) := by
  obtain ⟨m, en, hm4, hn⟩ := b_16 hB
  refine pe_of (pw_p (mb_0 ⟨fun hx => ⟨_, pe_findLeft h hB _, ?_⟩, fun hx => ?_⟩))
  · rw [il_01] at hx
    rintro r h' ⟨A, B, rfl, ⟨h1, rfl⟩ | ⟨h1, hlen, rfl, W, HH, hg, hA, hL⟩⟩
    · refine pw_p (mb_17 ⟨fun z => absurd rfl z, fun _ => ?_⟩)
      unfold v_best
      rw [if_neg hx, if_neg h1]
    · have ec : ∀ A B, rg I J W HH (nca I) A B → A 35 0 * A 35 1 = Int32.ofNat m := fun A B hA => by
        rw [hA.2.2.2.2.2.2.2.2.1, hA.2.2.2.2.2.2.2.2.2, ← cells_is h, en]
      have loop : ∀ (d c : Nat), c + d = m → ¬ Int32.ofNat (tN I J) = 0 → 0 < c → ∀ F B, rg I J W HH (nca I) (ev_sI A 53 F) B → lnt I J (ls I J).length (ev_sI A 53 F) B → ∀ N, pw N X 169 44 [.ref 35, .int x, .int (Int32.ofNat (bF (gtN I J) c)), .int (gtN I J (bF (gtN I J) c)), .int (Int32.ofNat c)] [] (ev_hp (ev_sI A 53 F) B R T) (fun r _ => r = some (.int (v_best I J x))) := by
        intro d
        induction d with
        | zero =>
          intro c hc hz _ F B hA hL N
          obtain rfl : c = m := by omega
          refine pw_p (mb_44 ⟨fun _ => ⟨fun g => ?_, fun g => ?_⟩, fun g => ?_⟩)
          · unfold v_best
            rw [if_neg hx, if_pos h1, if_neg hz, if_neg g, en, io_ti (by omega), Int.toNat_natCast]
          · unfold v_best
            rw [if_neg hx, if_pos h1, if_neg hz, if_pos (Classical.not_not.mp g), en, io_ti (by omega), Int.toNat_natCast]
          · rw [ec _ B hA] at g
            exact absurd (Int32.le_refl _) g
        | succ d ih =>
          intro c hcd hz hc0 F B hA hL N
          have e : bF (gtN I J) (c + 1) = if gtN I J c < gtN I J (bF (gtN I J) c) then c else bF (gtN I J) c := rfl
          refine pw_p (mb_44 ⟨fun g => ?_, fun _ => ⟨_, pe_mgreat h hB hg hlen rfl (by omega) hA hL, ?_⟩⟩)
          · rw [ec _ B hA, io_le (by omega) (by omega)] at g
            omega
          rintro r h' ⟨rfl, F', B', rfl, -, -, -, hA', hL'⟩
          rw [nd_sI2] at hA' hL' ⊢
          have h5 := ih (c + 1) (by omega) hz (by omega) F' B' hA' hL' N
          rw [e] at h5
          refine pw_p (mb_60 ?_)
          rw [io_1]
          refine ⟨fun g => ⟨fun _ => ?_, fun g2 => absurd g g2⟩, fun g => ⟨fun g2 => absurd g2 g, fun _ => ?_⟩⟩
          · rw [if_neg (fun z => by
              rw [Int32.le_iff_toInt_le] at g
              rw [Int32.lt_iff_toInt_lt] at z
              omega)] at h5
            exact h5
          · rw [if_pos (by
              rw [Int32.le_iff_toInt_le] at g
              rw [Int32.lt_iff_toInt_lt]
              omega)] at h5
            exact h5
      refine pw_p (mb_17 ⟨fun _ => ⟨fun g => ⟨_, pe_mgreat (c := 0) h hB hg hlen rfl (by omega) hA hL, ?_⟩, fun g => ?_⟩, fun z => absurd (by decide) z⟩)
      · rw [hL.1] at g
        rintro r h' ⟨rfl, F, B', rfl, -, -, -, hA', hL'⟩
        refine pw_p (mb_40 ?_)
        have e1 : bF (gtN I J) 1 = 0 := by
          show (if gtN I J 0 < gtN I J 0 then 0 else 0) = 0
          split <;> rfl
        have h5 := loop (m - 1) 1 (by omega) g (by omega) F B' hA' hL' N
        rw [e1] at h5
        exact h5
      · rw [hL.1] at g
        unfold v_best
        rw [if_neg hx, if_pos h1, if_pos (show Int32.ofNat (tN I J) = 0 from Classical.not_not.mp g)]
  · rw [il_01] at hx
    unfold v_best
    rw [if_pos (Classical.not_not.mp hx)]
end
end
