/-! The class's calls over the ledger and the tally. -/
section
variable {N : Nat} {X : ez_X} {I : Nat → Nat → Int32} {J : Nat → Nat → Int64} {R : Nat → Nat} {T : List ez_C} {Q : pw_Q} {cz kz : Nat}
set_option maxRecDepth 100000 in
theorem zc_r0  : ∀ G : ez_F, fx_up X 3 G 30 0 [.ref 0] [] (ev_hp I J R T) cz kz = ev_C G 112 [.ref 13] (ev_hp I J R T) fun r h1 c1 k1 => G 30 7 [.ref 0] (r.toList ++ []) h1 (cz + c1) (kz + k1) := by
  intro G
  rfl
theorem lz_0 
    (H : (∃ Q1 : pw_Q, pe N X 112 [.ref 13] (ev_hp I J R T) Q1 ∧ ∀ (r : Option Value) (h1 : ez_H), Q1 r h1 → pw N X 30 7 [.ref 0] (r.toList ++ []) h1 Q)) : pw (N + 1) X 30 0 [.ref 0] [] (ev_hp I J R T) Q := by
  obtain ⟨Q1, hc, hk⟩ := H
  exact pw_call (by decide) (fun _ _ => zc_r0) hc hk
set_option maxRecDepth 100000 in
theorem zc_r1  : ∀ G : ez_F, fx_up X 3 G 30 7 [.ref 0] [] (ev_hp I J R T) cz kz = ev_C G 105 [.ref 13] (ev_hp I J R T) fun r h1 c1 k1 => G 30 14 [.ref 0] (r.toList ++ []) h1 (cz + c1) (kz + k1) := by
  intro G
  rfl
theorem lz_7 
    (H : (∃ Q1 : pw_Q, pe N X 105 [.ref 13] (ev_hp I J R T) Q1 ∧ ∀ (r : Option Value) (h1 : ez_H), Q1 r h1 → pw N X 30 14 [.ref 0] (r.toList ++ []) h1 Q)) : pw (N + 1) X 30 7 [.ref 0] [] (ev_hp I J R T) Q := by
  obtain ⟨Q1, hc, hk⟩ := H
  exact pw_call (by decide) (fun _ _ => zc_r1) hc hk
set_option maxRecDepth 100000 in
theorem zc_r2  : ∀ G : ez_F, fx_up X 4 G 30 14 [.ref 0] [] (ev_hp I J R T) cz kz = some (some (.ref 14), (ev_hp I J R T), cz, kz) := by
  intro G
  rfl
theorem lz_14 
    (H : Q (some (.ref 14)) (ev_hp I J R T)) : pw (N + 1) X 30 14 [.ref 0] [] (ev_hp I J R T) Q := by
  exact pw_ret (by decide) (fun _ _ => zc_r2) H
set_option maxRecDepth 100000 in
theorem zc_r3 {a0 : Int32} : ∀ G : ez_F, fx_up X 4 G 163 0 [.ref 14, .int a0] [] (ev_hp I J R T) cz kz = ev_C G 3 [.ref 15, .int a0] (ev_hp I J R T) fun r h1 c1 k1 => G 163 8 [.ref 14, .int a0] (r.toList ++ []) h1 (cz + c1) (kz + k1) := by
  intro G
  rfl
set_option maxRecDepth 100000 in
theorem zc_r4 {a0 : Int32} {a1 : Int32} : ∀ G : ez_F, fx_up X 1 G 163 8 [.ref 14, .int a0] [.int a1] (ev_hp I J R T) cz kz = some (some (.int a1), (ev_hp I J R T), cz, kz) := by
  intro G
  rfl
theorem sh_0 {c : Int32}
    (H : Q (some (.int (ev_at 36 (I 15) c))) (ev_hp I J R T)) : pw (N + 1) X 163 0 [.ref 14, .int c] [] (ev_hp I J R T) Q := by
  refine pw_callp (by decide) (fun _ _ => zc_r3) (pe_at (show cx_Ds[15]? = some (0, 36, []) from rfl) (by decide)) ?_
  exact pw_p (pw_ret (by decide) (fun _ _ => zc_r4) H)
set_option maxRecDepth 100000 in
theorem zc_r5 {a0 : Int32} {a1 : Int32} : ∀ G : ez_F, fx_up X 2 G 162 0 [.ref 14, .int a0, .int a1] [] (ev_hp I J R T) cz kz = bif decide (¬ a1 = (0 : Int32)) then G 162 18 [.ref 14, .int a0, .int a1] [] (ev_hp I J R T) cz kz else G 162 4 [.ref 14, .int a0, .int a1] [] (ev_hp I J R T) cz kz := by
  intro G
  rfl
set_option maxRecDepth 100000 in
theorem zc_r6 {a0 : Int32} {a1 : Int32} : ∀ G : ez_F, fx_up X 3 G 162 18 [.ref 14, .int a0, .int a1] [] (ev_hp I J R T) cz kz = bif decide (¬ a1 = (1 : Int32)) then G 162 43 [.ref 14, .int a0, .int a1] [] (ev_hp I J R T) cz kz else G 162 23 [.ref 14, .int a0, .int a1] [] (ev_hp I J R T) cz kz := by
  intro G
  rfl
set_option maxRecDepth 100000 in
theorem zc_r7 {a0 : Int32} {a1 : Int32} : ∀ G : ez_F, fx_up X 4 G 162 43 [.ref 14, .int a0, .int a1] [] (ev_hp I J R T) cz kz = ev_C G 3 [.ref 16, .int a0] (ev_hp I J R T) fun r h1 c1 k1 => G 162 51 [.ref 14, .int a0, .int a1] (r.toList ++ []) h1 (cz + c1) (kz + k1) := by
  intro G
  rfl
set_option maxRecDepth 100000 in
theorem zc_r8 {a0 : Int32} {a1 : Int32} {a2 : Int32} : ∀ G : ez_F, fx_up X 1 G 162 51 [.ref 14, .int a0, .int a1] [.int a2] (ev_hp I J R T) cz kz = some (some (.int a2), (ev_hp I J R T), cz, kz) := by
  intro G
  rfl
set_option maxRecDepth 100000 in
theorem zc_r9 {a0 : Int32} {a1 : Int32} : ∀ G : ez_F, fx_up X 4 G 162 23 [.ref 14, .int a0, .int a1] [] (ev_hp I J R T) cz kz = ev_C G 3 [.ref 15, .int a0] (ev_hp I J R T) fun r h1 c1 k1 => G 162 31 [.ref 14, .int a0, .int a1] (r.toList ++ []) h1 (cz + c1) (kz + k1) := by
  intro G
  rfl
set_option maxRecDepth 100000 in
theorem zc_r10 {a0 : Int32} {a1 : Int32} {a2 : Int32} : ∀ G : ez_F, fx_up X 4 G 162 31 [.ref 14, .int a0, .int a1] [.int a2] (ev_hp I J R T) cz kz = ev_C G 3 [.ref 16, .int a0] (ev_hp I J R T) fun r h1 c1 k1 => G 162 39 [.ref 14, .int a0, .int a1] (r.toList ++ [.int a2]) h1 (cz + c1) (kz + k1) := by
  intro G
  rfl
set_option maxRecDepth 100000 in
theorem zc_r11 {a0 : Int32} {a1 : Int32} {a2 : Int32} {a3 : Int32} : ∀ G : ez_F, fx_up X 3 G 162 39 [.ref 14, .int a0, .int a1] [.int a2, .int a3] (ev_hp I J R T) cz kz = some (some (.int (a3 - a2)), (ev_hp I J R T), cz, kz) := by
  intro G
  rfl
set_option maxRecDepth 100000 in
theorem zc_r12 {a0 : Int32} {a1 : Int32} : ∀ G : ez_F, fx_up X 2 G 162 4 [.ref 14, .int a0, .int a1] [] (ev_hp I J R T) cz kz = G 162 8 [.ref 14, .int a0, .int a1] [.int (I 14 2)] (ev_hp I J R T) cz kz := by
  intro G
  rfl
set_option maxRecDepth 100000 in
theorem zc_r13 {a0 : Int32} {a1 : Int32} {a2 : Int32} : ∀ G : ez_F, fx_up X 4 G 162 8 [.ref 14, .int a0, .int a1] [.int a2] (ev_hp I J R T) cz kz = ev_C G 3 [.ref 15, .int a0] (ev_hp I J R T) fun r h1 c1 k1 => G 162 16 [.ref 14, .int a0, .int a1] (r.toList ++ [.int a2]) h1 (cz + c1) (kz + k1) := by
  intro G
  rfl
set_option maxRecDepth 100000 in
theorem zc_r14 {a0 : Int32} {a1 : Int32} {a2 : Int32} {a3 : Int32} : ∀ G : ez_F, fx_up X 2 G 162 16 [.ref 14, .int a0, .int a1] [.int a2, .int a3] (ev_hp I J R T) cz kz = some (some (.int (a3 - a2)), (ev_hp I J R T), cz, kz) := by
  intro G
  rfl
theorem ip_0 {c v : Int32}
    (H : ((¬ v = (0 : Int32) → ((¬ v = (1 : Int32) → Q (some (.int (ev_at 36 (I 16) c))) (ev_hp I J R T)) ∧ (¬ (¬ v = (1 : Int32)) → Q (some (.int ((ev_at 36 (I 15) c) - (ev_at 36 (I 16) c)))) (ev_hp I J R T)))) ∧ (¬ (¬ v = (0 : Int32)) → Q (some (.int ((I 14 2) - (ev_at 36 (I 15) c)))) (ev_hp I J R T)))) : pw (N + 1) X 162 0 [.ref 14, .int c, .int v] [] (ev_hp I J R T) Q := by
  refine pw_if (by decide) (fun _ _ => zc_r5) (fun w1 => ?_) (fun w1 => ?_)
  · have h1 := H.1 w1
    refine pw_p (pw_if (by decide) (fun _ _ => zc_r6) (fun w2 => ?_) (fun w2 => ?_))
    · have h2 := h1.1 w2
      refine pw_p (pw_callp (by decide) (fun _ _ => zc_r7) (pe_at (show cx_Ds[16]? = some (0, 36, []) from rfl) (by decide)) ?_)
      exact pw_p (pw_ret (by decide) (fun _ _ => zc_r8) h2)
    · have h2 := h1.2 w2
      refine pw_p (pw_callp (by decide) (fun _ _ => zc_r9) (pe_at (show cx_Ds[15]? = some (0, 36, []) from rfl) (by decide)) ?_)
      refine pw_p (pw_callp (by decide) (fun _ _ => zc_r10) (pe_at (show cx_Ds[16]? = some (0, 36, []) from rfl) (by decide)) ?_)
      exact pw_p (pw_ret (by decide) (fun _ _ => zc_r11) h2)
  · have h1 := H.2 w1
    refine pw_p (pw_seg (by decide) (fun _ _ => zc_r12) ?_)
    refine pw_p (pw_callp (by decide) (fun _ _ => zc_r13) (pe_at (show cx_Ds[15]? = some (0, 36, []) from rfl) (by decide)) ?_)
    exact pw_p (pw_ret (by decide) (fun _ _ => zc_r14) h1)
end
def ipF (F14 F15 F16 : Nat → Int32) (c v : Int32) : Int32 := if v = 0 then F14 2 - ev_at 36 F15 c else if v = 1 then ev_at 36 F15 c - ev_at 36 F16 c else ev_at 36 F16 c
def imx (a b : Int32) : Int32 := if a < b then b else a
def gtF (F14 F15 F16 : Nat → Int32) (c : Int32) : Int32 := imx (ipF F14 F15 F16 c 0) (imx (ipF F14 F15 F16 c 1) (ipF F14 F15 F16 c 2))
section
variable {N : Nat} {X : ez_X} {I : Nat → Nat → Int32} {J : Nat → Nat → Int64} {R : Nat → Nat} {T : List ez_C} {x y : Int32}
theorem pe_shipsAt : pe N X 163 [.ref 14, .int x] (ev_hp I J R T) (fun r h => r = some (.int (ev_at 36 (I 15) x)) ∧ h = ev_hp I J R T) := pe_of (pw_p (sh_0 ⟨rfl, rfl⟩))
theorem pe_inPart : pe N X 162 [.ref 14, .int x, .int y] (ev_hp I J R T) (fun r h => r = some (.int (ipF (I 14) (I 15) (I 16) x y)) ∧ h = ev_hp I J R T) := by
  unfold ipF
  refine pe_of (pw_p (ip_0 ?_))
  refine ⟨fun g0 => ⟨fun g1 => ⟨?_, rfl⟩, fun g1 => ⟨?_, rfl⟩⟩, fun g0 => ⟨?_, rfl⟩⟩
  · rw [if_neg g0, if_neg g1]
  · rw [if_neg g0, if_pos (Classical.not_not.mp g1)]
  · rw [if_pos (Classical.not_not.mp g0)]
end
section
variable {N : Nat} {X : ez_X} {I : Nat → Nat → Int32} {J : Nat → Nat → Int64} {R : Nat → Nat} {T : List ez_C} {Q : pw_Q} {cz kz : Nat}
set_option maxRecDepth 100000 in
theorem zd_r0 {a0 : Int32} : ∀ G : ez_F, fx_up X 4 G 161 0 [.ref 14, .int a0] [] (ev_hp I J R T) cz kz = ev_C G 162 [.ref 14, .int a0, .int (0 : Int32)] (ev_hp I J R T) fun r h1 c1 k1 => G 161 6 [.ref 14, .int a0] (r.toList ++ []) h1 (cz + c1) (kz + k1) := by
  intro G
  rfl
set_option maxRecDepth 100000 in
theorem zd_r1 {a0 : Int32} {a1 : Int32} : ∀ G : ez_F, fx_up X 4 G 161 6 [.ref 14, .int a0] [.int a1] (ev_hp I J R T) cz kz = ev_C G 162 [.ref 14, .int a0, .int (1 : Int32)] (ev_hp I J R T) fun r h1 c1 k1 => G 161 12 [.ref 14, .int a0] (r.toList ++ [.int a1]) h1 (cz + c1) (kz + k1) := by
  intro G
  rfl
set_option maxRecDepth 100000 in
theorem zd_r2 {a0 : Int32} {a1 : Int32} {a2 : Int32} : ∀ G : ez_F, fx_up X 4 G 161 12 [.ref 14, .int a0] [.int a1, .int a2] (ev_hp I J R T) cz kz = ev_C G 162 [.ref 14, .int a0, .int (2 : Int32)] (ev_hp I J R T) fun r h1 c1 k1 => G 161 18 [.ref 14, .int a0] (r.toList ++ [.int a1, .int a2]) h1 (cz + c1) (kz + k1) := by
  intro G
  rfl
set_option maxRecDepth 100000 in
theorem zd_r3 {a0 : Int32} {a1 : Int32} {a2 : Int32} {a3 : Int32} : ∀ G : ez_F, fx_up X 3 G 161 18 [.ref 14, .int a0] [.int a1, .int a2, .int a3] (ev_hp I J R T) cz kz = some (some (.int (if a3 < (if a2 < a1 then a1 else a2) then (if a2 < a1 then a1 else a2) else a3)), (ev_hp I J R T), cz, kz) := by
  intro G
  rfl
theorem gt_0 {c : Int32}
    (H : Q (some (.int (if (ipF (I 14) (I 15) (I 16) c (0 : Int32)) < (if (ipF (I 14) (I 15) (I 16) c (1 : Int32)) < (ipF (I 14) (I 15) (I 16) c (2 : Int32)) then (ipF (I 14) (I 15) (I 16) c (2 : Int32)) else (ipF (I 14) (I 15) (I 16) c (1 : Int32))) then (if (ipF (I 14) (I 15) (I 16) c (1 : Int32)) < (ipF (I 14) (I 15) (I 16) c (2 : Int32)) then (ipF (I 14) (I 15) (I 16) c (2 : Int32)) else (ipF (I 14) (I 15) (I 16) c (1 : Int32))) else (ipF (I 14) (I 15) (I 16) c (0 : Int32))))) (ev_hp I J R T)) : pw (N + 1) X 161 0 [.ref 14, .int c] [] (ev_hp I J R T) Q := by
  refine pw_callp (by decide) (fun _ _ => zd_r0) (pe_inPart) ?_
  refine pw_p (pw_callp (by decide) (fun _ _ => zd_r1) (pe_inPart) ?_)
  refine pw_p (pw_callp (by decide) (fun _ _ => zd_r2) (pe_inPart) ?_)
  exact pw_p (pw_ret (by decide) (fun _ _ => zd_r3) H)
end
section
variable {N : Nat} {X : ez_X} {I : Nat → Nat → Int32} {J : Nat → Nat → Int64} {R : Nat → Nat} {T : List ez_C} {x : Int32}
theorem pe_greatest : pe N X 161 [.ref 14, .int x] (ev_hp I J R T) (fun r h => r = some (.int (gtF (I 14) (I 15) (I 16) x)) ∧ h = ev_hp I J R T) := pe_of (pw_p (gt_0 ⟨rfl, rfl⟩))
end
section
variable {N : Nat} {X : ez_X} {I : Nat → Nat → Int32} {J : Nat → Nat → Int64} {R : Nat → Nat} {T : List ez_C} {Q : pw_Q} {cz kz : Nat}
set_option maxRecDepth 100000 in
theorem ze_r0 {a0 : Int32} {a1 : Int32} : ∀ G : ez_F, fx_up X 4 G 158 0 [.ref 14, .int a0, .int a1] [] (ev_hp I J R T) cz kz = G 158 5 [.ref 14, .int a0, .int a1, .long (0 : Int64), ez_fill, .int (0 : Int32)] [] (ev_hp I J R T) cz kz := by
  intro G
  rfl
theorem cw0_0 {n m : Int32}
    (H : pw N X 158 5 [.ref 14, .int n, .int m, .long (0 : Int64), ez_fill, .int (0 : Int32)] [] (ev_hp I J R T) Q) : pw (N + 1) X 158 0 [.ref 14, .int n, .int m] [] (ev_hp I J R T) Q := by
  refine pw_seg (by decide) (fun _ _ => ze_r0) ?_
  exact H
set_option maxRecDepth 100000 in
theorem ze_r1 {a0 : Int32} {a1 : Int32} {a2 : Int64} {a3 : Int32} : ∀ G : ez_F, fx_up X 3 G 158 5 [.ref 14, .int a0, .int a1, .long a2, ez_fill, .int a3] [] (ev_hp I J R T) cz kz = bif decide (a1 ≤ a3) then G 158 37 [.ref 14, .int a0, .int a1, .long a2, ez_fill, .int a3] [] (ev_hp I J R T) cz kz else G 158 11 [.ref 14, .int a0, .int a1, .long a2, ez_fill, .int a3] [] (ev_hp I J R T) cz kz := by
  intro G
  rfl
set_option maxRecDepth 100000 in
theorem ze_r2 {a0 : Int32} {a1 : Int32} {a2 : Int64} {a3 : Int32} : ∀ G : ez_F, fx_up X 2 G 158 37 [.ref 14, .int a0, .int a1, .long a2, ez_fill, .int a3] [] (ev_hp I J R T) cz kz = some (some (.long a2), (ev_hp I J R T), cz, kz) := by
  intro G
  rfl
set_option maxRecDepth 100000 in
theorem ze_r3 {a0 : Int32} {a1 : Int32} {a2 : Int64} {a3 : Int32} : ∀ G : ez_F, fx_up X 4 G 158 11 [.ref 14, .int a0, .int a1, .long a2, ez_fill, .int a3] [] (ev_hp I J R T) cz kz = ev_C G 3 [.ref 15, .int a3] (ev_hp I J R T) fun r h1 c1 k1 => G 158 20 [.ref 14, .int a0, .int a1, .long a2, ez_fill, .int a3] (r.toList ++ []) h1 (cz + c1) (kz + k1) := by
  intro G
  rfl
set_option maxRecDepth 100000 in
theorem ze_r4 {a0 : Int32} {a1 : Int32} {a2 : Int64} {a3 : Int32} {a4 : Int32} : ∀ G : ez_F, fx_up X 2 G 158 20 [.ref 14, .int a0, .int a1, .long a2, ez_fill, .int a3] [.int a4] (ev_hp I J R T) cz kz = bif decide (¬ a4 = a0) then G 158 31 [.ref 14, .int a0, .int a1, .long a2, ez_fill, .int a3] [] (ev_hp I J R T) cz kz else G 158 24 [.ref 14, .int a0, .int a1, .long a2, ez_fill, .int a3] [] (ev_hp I J R T) cz kz := by
  intro G
  rfl
set_option maxRecDepth 100000 in
theorem ze_r5 {a0 : Int32} {a1 : Int32} {a2 : Int64} {a3 : Int32} : ∀ G : ez_F, fx_up X 2 G 158 31 [.ref 14, .int a0, .int a1, .long a2, ez_fill, .int a3] [] (ev_hp I J R T) cz kz = G 158 5 [.ref 14, .int a0, .int a1, .long a2, ez_fill, .int (a3 + (1 : Int32))] [] (ev_hp I J R T) cz kz := by
  intro G
  rfl
set_option maxRecDepth 100000 in
theorem ze_r6 {a0 : Int32} {a1 : Int32} {a2 : Int64} {a3 : Int32} : ∀ G : ez_F, fx_up X 8 G 158 24 [.ref 14, .int a0, .int a1, .long a2, ez_fill, .int a3] [] (ev_hp I J R T) cz kz = G 158 5 [.ref 14, .int a0, .int a1, .long (a2 ||| ((1 : Int64) <<< (a3.toInt64 &&& (63 : Int64)))), ez_fill, .int (a3 + (1 : Int32))] [] (ev_hp I J R T) cz kz := by
  intro G
  rfl
theorem cw0_5 {n m c : Int32} {z : Int64}
    (H : ((m ≤ c → Q (some (.long z)) (ev_hp I J R T)) ∧ (¬ (m ≤ c) → ((¬ (ev_at 36 (I 15) c) = n → pw N X 158 5 [.ref 14, .int n, .int m, .long z, ez_fill, .int (c + (1 : Int32))] [] (ev_hp I J R T) Q) ∧ (¬ (¬ (ev_at 36 (I 15) c) = n) → pw N X 158 5 [.ref 14, .int n, .int m, .long (z ||| ((1 : Int64) <<< (c.toInt64 &&& (63 : Int64)))), ez_fill, .int (c + (1 : Int32))] [] (ev_hp I J R T) Q))))) : pw (N + 1) X 158 5 [.ref 14, .int n, .int m, .long z, ez_fill, .int c] [] (ev_hp I J R T) Q := by
  refine pw_if (by decide) (fun _ _ => ze_r1) (fun w1 => ?_) (fun w1 => ?_)
  · have h1 := H.1 w1
    exact pw_p (pw_ret (by decide) (fun _ _ => ze_r2) h1)
  · have h1 := H.2 w1
    refine pw_p (pw_callp (by decide) (fun _ _ => ze_r3) (pe_at (show cx_Ds[15]? = some (0, 36, []) from rfl) (by decide)) ?_)
    refine pw_p (pw_if (by decide) (fun _ _ => ze_r4) (fun w2 => ?_) (fun w2 => ?_))
    · have h2 := h1.1 w2
      refine pw_p (pw_seg (by decide) (fun _ _ => ze_r5) ?_)
      exact h2
    · have h2 := h1.2 w2
      refine pw_p (pw_seg (by decide) (fun _ _ => ze_r6) ?_)
      exact h2
set_option maxRecDepth 100000 in
theorem ze_r7 {a0 : Int32} : ∀ G : ez_F, fx_up X 4 G 157 0 [.ref 14, .int a0] [] (ev_hp I J R T) cz kz = G 157 4 [.ref 14, .int a0, .int (0 : Int32), .int (1 : Int32)] [] (ev_hp I J R T) cz kz := by
  intro G
  rfl
theorem be_0 {m : Int32}
    (H : pw N X 157 4 [.ref 14, .int m, .int (0 : Int32), .int (1 : Int32)] [] (ev_hp I J R T) Q) : pw (N + 1) X 157 0 [.ref 14, .int m] [] (ev_hp I J R T) Q := by
  refine pw_seg (by decide) (fun _ _ => ze_r7) ?_
  exact H
set_option maxRecDepth 100000 in
theorem ze_r8 {a0 : Int32} {a1 : Int32} {a2 : Int32} : ∀ G : ez_F, fx_up X 3 G 157 4 [.ref 14, .int a0, .int a1, .int a2] [] (ev_hp I J R T) cz kz = bif decide (a0 ≤ a2) then G 157 30 [.ref 14, .int a0, .int a1, .int a2] [] (ev_hp I J R T) cz kz else G 157 9 [.ref 14, .int a0, .int a1, .int a2] [] (ev_hp I J R T) cz kz := by
  intro G
  rfl
set_option maxRecDepth 100000 in
theorem ze_r9 {a0 : Int32} {a1 : Int32} {a2 : Int32} : ∀ G : ez_F, fx_up X 2 G 157 30 [.ref 14, .int a0, .int a1, .int a2] [] (ev_hp I J R T) cz kz = some (some (.int a1), (ev_hp I J R T), cz, kz) := by
  intro G
  rfl
set_option maxRecDepth 100000 in
theorem ze_r10 {a0 : Int32} {a1 : Int32} {a2 : Int32} : ∀ G : ez_F, fx_up X 3 G 157 9 [.ref 14, .int a0, .int a1, .int a2] [] (ev_hp I J R T) cz kz = ev_C G 161 [.ref 14, .int a2] (ev_hp I J R T) fun r h1 c1 k1 => G 157 14 [.ref 14, .int a0, .int a1, .int a2] (r.toList ++ []) h1 (cz + c1) (kz + k1) := by
  intro G
  rfl
set_option maxRecDepth 100000 in
theorem ze_r11 {a0 : Int32} {a1 : Int32} {a2 : Int32} {a3 : Int32} : ∀ G : ez_F, fx_up X 3 G 157 14 [.ref 14, .int a0, .int a1, .int a2] [.int a3] (ev_hp I J R T) cz kz = ev_C G 161 [.ref 14, .int a1] (ev_hp I J R T) fun r h1 c1 k1 => G 157 19 [.ref 14, .int a0, .int a1, .int a2] (r.toList ++ [.int a3]) h1 (cz + c1) (kz + k1) := by
  intro G
  rfl
set_option maxRecDepth 100000 in
theorem ze_r12 {a0 : Int32} {a1 : Int32} {a2 : Int32} {a3 : Int32} {a4 : Int32} : ∀ G : ez_F, fx_up X 1 G 157 19 [.ref 14, .int a0, .int a1, .int a2] [.int a3, .int a4] (ev_hp I J R T) cz kz = bif decide (a3 ≤ a4) then G 157 24 [.ref 14, .int a0, .int a1, .int a2] [] (ev_hp I J R T) cz kz else G 157 22 [.ref 14, .int a0, .int a1, .int a2] [] (ev_hp I J R T) cz kz := by
  intro G
  rfl
set_option maxRecDepth 100000 in
theorem ze_r13 {a0 : Int32} {a1 : Int32} {a2 : Int32} : ∀ G : ez_F, fx_up X 2 G 157 24 [.ref 14, .int a0, .int a1, .int a2] [] (ev_hp I J R T) cz kz = G 157 4 [.ref 14, .int a0, .int a1, .int (a2 + (1 : Int32))] [] (ev_hp I J R T) cz kz := by
  intro G
  rfl
set_option maxRecDepth 100000 in
theorem ze_r14 {a0 : Int32} {a1 : Int32} {a2 : Int32} : ∀ G : ez_F, fx_up X 4 G 157 22 [.ref 14, .int a0, .int a1, .int a2] [] (ev_hp I J R T) cz kz = G 157 4 [.ref 14, .int a0, .int a2, .int (a2 + (1 : Int32))] [] (ev_hp I J R T) cz kz := by
  intro G
  rfl
theorem be_4 {m b c : Int32}
    (H : ((m ≤ c → Q (some (.int b)) (ev_hp I J R T)) ∧ (¬ (m ≤ c) → (((gtF (I 14) (I 15) (I 16) b) ≤ (gtF (I 14) (I 15) (I 16) c) → pw N X 157 4 [.ref 14, .int m, .int b, .int (c + (1 : Int32))] [] (ev_hp I J R T) Q) ∧ (¬ ((gtF (I 14) (I 15) (I 16) b) ≤ (gtF (I 14) (I 15) (I 16) c)) → pw N X 157 4 [.ref 14, .int m, .int c, .int (c + (1 : Int32))] [] (ev_hp I J R T) Q))))) : pw (N + 1) X 157 4 [.ref 14, .int m, .int b, .int c] [] (ev_hp I J R T) Q := by
  refine pw_if (by decide) (fun _ _ => ze_r8) (fun w1 => ?_) (fun w1 => ?_)
  · have h1 := H.1 w1
    exact pw_p (pw_ret (by decide) (fun _ _ => ze_r9) h1)
  · have h1 := H.2 w1
    refine pw_p (pw_callp (by decide) (fun _ _ => ze_r10) (pe_greatest) ?_)
    refine pw_p (pw_callp (by decide) (fun _ _ => ze_r11) (pe_greatest) ?_)
    refine pw_p (pw_if (by decide) (fun _ _ => ze_r12) (fun w2 => ?_) (fun w2 => ?_))
    · have h2 := h1.1 w2
      refine pw_p (pw_seg (by decide) (fun _ _ => ze_r13) ?_)
      exact h2
    · have h2 := h1.2 w2
      refine pw_p (pw_seg (by decide) (fun _ _ => ze_r14) ?_)
      exact h2
set_option maxRecDepth 100000 in
theorem ze_r15 {a0 : Int32} : ∀ G : ez_F, fx_up X 4 G 110 0 [.ref 13, .int a0] [] (ev_hp I J R T) cz kz = G 110 4 [.ref 13, .int a0, .int (0 : Int32), .int (0 : Int32)] [] (ev_hp I J R T) cz kz := by
  intro G
  rfl
theorem nf_0 {i : Int32}
    (H : pw N X 110 4 [.ref 13, .int i, .int (0 : Int32), .int (0 : Int32)] [] (ev_hp I J R T) Q) : pw (N + 1) X 110 0 [.ref 13, .int i] [] (ev_hp I J R T) Q := by
  refine pw_seg (by decide) (fun _ _ => ze_r15) ?_
  exact H
set_option maxRecDepth 100000 in
theorem ze_r16 {a0 : Int32} {a1 : Int32} {a2 : Int32} : ∀ G : ez_F, fx_up X 4 G 110 4 [.ref 13, .int a0, .int a1, .int a2] [] (ev_hp I J R T) cz kz = G 110 12 [.ref 13, .int a0, .int a1, .int a2] [.int (I 6 3), .int a2] (ev_hp I J R T) cz kz := by
  intro G
  rfl
set_option maxRecDepth 100000 in
theorem ze_r17 {a0 : Int32} {a1 : Int32} {a2 : Int32} {a3 : Int32} {a4 : Int32} : ∀ G : ez_F, fx_up X 1 G 110 12 [.ref 13, .int a0, .int a1, .int a2] [.int a3, .int a4] (ev_hp I J R T) cz kz = bif decide (a3 ≤ a4) then G 110 39 [.ref 13, .int a0, .int a1, .int a2] [] (ev_hp I J R T) cz kz else G 110 15 [.ref 13, .int a0, .int a1, .int a2] [] (ev_hp I J R T) cz kz := by
  intro G
  rfl
set_option maxRecDepth 100000 in
theorem ze_r18 {a0 : Int32} {a1 : Int32} {a2 : Int32} : ∀ G : ez_F, fx_up X 2 G 110 39 [.ref 13, .int a0, .int a1, .int a2] [] (ev_hp I J R T) cz kz = some (some (.int (-1 : Int32)), (ev_hp I J R T), cz, kz) := by
  intro G
  rfl
set_option maxRecDepth 100000 in
theorem ze_r19 {a0 : Int32} {a1 : Int32} {a2 : Int32} : ∀ G : ez_F, fx_up X 3 G 110 15 [.ref 13, .int a0, .int a1, .int a2] [] (ev_hp I J R T) cz kz = ev_C G 109 [.ref 13, .int a2] (ev_hp I J R T) fun r h1 c1 k1 => G 110 20 [.ref 13, .int a0, .int a1, .int a2] (r.toList ++ []) h1 (cz + c1) (kz + k1) := by
  intro G
  rfl
theorem nf_4 {i a k : Int32}
    (H : (((I 6 3) ≤ k → Q (some (.int (-1 : Int32))) (ev_hp I J R T)) ∧ (¬ ((I 6 3) ≤ k) → (∃ Q1 : pw_Q, pe N X 109 [.ref 13, .int k] (ev_hp I J R T) Q1 ∧ ∀ (r : Option Value) (h1 : ez_H), Q1 r h1 → pw N X 110 20 [.ref 13, .int i, .int a, .int k] (r.toList ++ []) h1 Q)))) : pw (N + 1) X 110 4 [.ref 13, .int i, .int a, .int k] [] (ev_hp I J R T) Q := by
  refine pw_seg (by decide) (fun _ _ => ze_r16) ?_
  refine pw_p (pw_if (by decide) (fun _ _ => ze_r17) (fun w1 => ?_) (fun w1 => ?_))
  · have h1 := H.1 w1
    exact pw_p (pw_ret (by decide) (fun _ _ => ze_r18) h1)
  · have h1 := H.2 w1
    obtain ⟨Q1, hc, hk⟩ := h1
    exact pw_p (pw_call (by decide) (fun _ _ => ze_r19) hc hk)
set_option maxRecDepth 100000 in
theorem ze_r20 {a0 : Int32} {a1 : Int32} {a2 : Int32} {a3 : Int32} : ∀ G : ez_F, fx_up X 1 G 110 20 [.ref 13, .int a0, .int a1, .int a2] [.int a3] (ev_hp I J R T) cz kz = bif decide (a3 = (0 : Int32)) then G 110 33 [.ref 13, .int a0, .int a1, .int a2] [] (ev_hp I J R T) cz kz else G 110 23 [.ref 13, .int a0, .int a1, .int a2] [] (ev_hp I J R T) cz kz := by
  intro G
  rfl
set_option maxRecDepth 100000 in
theorem ze_r21 {a0 : Int32} {a1 : Int32} {a2 : Int32} : ∀ G : ez_F, fx_up X 2 G 110 33 [.ref 13, .int a0, .int a1, .int a2] [] (ev_hp I J R T) cz kz = G 110 4 [.ref 13, .int a0, .int a1, .int (a2 + (1 : Int32))] [] (ev_hp I J R T) cz kz := by
  intro G
  rfl
set_option maxRecDepth 100000 in
theorem ze_r22 {a0 : Int32} {a1 : Int32} {a2 : Int32} : ∀ G : ez_F, fx_up X 3 G 110 23 [.ref 13, .int a0, .int a1, .int a2] [] (ev_hp I J R T) cz kz = bif decide (¬ a1 = a0) then G 110 30 [.ref 13, .int a0, .int a1, .int a2] [] (ev_hp I J R T) cz kz else G 110 28 [.ref 13, .int a0, .int a1, .int a2] [] (ev_hp I J R T) cz kz := by
  intro G
  rfl
set_option maxRecDepth 100000 in
theorem ze_r23 {a0 : Int32} {a1 : Int32} {a2 : Int32} : ∀ G : ez_F, fx_up X 3 G 110 30 [.ref 13, .int a0, .int a1, .int a2] [] (ev_hp I J R T) cz kz = G 110 4 [.ref 13, .int a0, .int (a1 + (1 : Int32)), .int (a2 + (1 : Int32))] [] (ev_hp I J R T) cz kz := by
  intro G
  rfl
set_option maxRecDepth 100000 in
theorem ze_r24 {a0 : Int32} {a1 : Int32} {a2 : Int32} : ∀ G : ez_F, fx_up X 2 G 110 28 [.ref 13, .int a0, .int a1, .int a2] [] (ev_hp I J R T) cz kz = some (some (.int a2), (ev_hp I J R T), cz, kz) := by
  intro G
  rfl
theorem nf_20 {i a k v : Int32}
    (H : ((v = (0 : Int32) → pw N X 110 4 [.ref 13, .int i, .int a, .int (k + (1 : Int32))] [] (ev_hp I J R T) Q) ∧ (¬ (v = (0 : Int32)) → ((¬ a = i → pw N X 110 4 [.ref 13, .int i, .int (a + (1 : Int32)), .int (k + (1 : Int32))] [] (ev_hp I J R T) Q) ∧ (¬ (¬ a = i) → Q (some (.int k)) (ev_hp I J R T)))))) : pw (N + 1) X 110 20 [.ref 13, .int i, .int a, .int k] [.int v] (ev_hp I J R T) Q := by
  refine pw_if (by decide) (fun _ _ => ze_r20) (fun w1 => ?_) (fun w1 => ?_)
  · have h1 := H.1 w1
    refine pw_p (pw_seg (by decide) (fun _ _ => ze_r21) ?_)
    exact h1
  · have h1 := H.2 w1
    refine pw_p (pw_if (by decide) (fun _ _ => ze_r22) (fun w2 => ?_) (fun w2 => ?_))
    · have h2 := h1.1 w2
      refine pw_p (pw_seg (by decide) (fun _ _ => ze_r23) ?_)
      exact h2
    · have h2 := h1.2 w2
      exact pw_p (pw_ret (by decide) (fun _ _ => ze_r24) h2)
set_option maxRecDepth 100000 in
theorem ze_r25 {a0 : Int32} : ∀ G : ez_F, fx_up X 1 G 29 4 [.ref 0] [.int a0] (ev_hp I J R T) cz kz = bif decide (a0 = (0 : Int32)) then G 29 12 [.ref 0] [] (ev_hp I J R T) cz kz else G 29 7 [.ref 0] [] (ev_hp I J R T) cz kz := by
  intro G
  rfl
set_option maxRecDepth 100000 in
theorem ze_r26  : ∀ G : ez_F, fx_up X 2 G 29 12 [.ref 0] [] (ev_hp I J R T) cz kz = ev_C G 30 [.ref 0] (ev_hp I J R T) fun r h1 c1 k1 => G 29 16 [.ref 0] (r.toList ++ []) h1 (cz + c1) (kz + k1) := by
  intro G
  rfl
set_option maxRecDepth 100000 in
theorem ze_r27  : ∀ G : ez_F, fx_up X 3 G 29 7 [.ref 0] [] (ev_hp I J R T) cz kz = some (some (.int (-6 : Int32)), (ev_hp I J R T), cz, kz) := by
  intro G
  rfl
theorem le_4 {v : Int32}
    (H : ((v = (0 : Int32) → (∃ Q1 : pw_Q, pe N X 30 [.ref 0] (ev_hp I J R T) Q1 ∧ ∀ (r : Option Value) (h1 : ez_H), Q1 r h1 → pw N X 29 16 [.ref 0] (r.toList ++ []) h1 Q)) ∧ (¬ (v = (0 : Int32)) → Q (some (.int (-6 : Int32))) (ev_hp I J R T)))) : pw (N + 1) X 29 4 [.ref 0] [.int v] (ev_hp I J R T) Q := by
  refine pw_if (by decide) (fun _ _ => ze_r25) (fun w1 => ?_) (fun w1 => ?_)
  · have h1 := H.1 w1
    obtain ⟨Q1, hc, hk⟩ := h1
    exact pw_p (pw_call (by decide) (fun _ _ => ze_r26) hc hk)
  · have h1 := H.2 w1
    exact pw_p (pw_ret (by decide) (fun _ _ => ze_r27) h1)
set_option maxRecDepth 100000 in
theorem ze_r28  : ∀ G : ez_F, fx_up X 1 G 29 16 [.ref 0] [.ref 14] (ev_hp I J R T) cz kz = G 29 19 [.ref 0] [.int (I 14 2)] (ev_hp I J R T) cz kz := by
  intro G
  rfl
set_option maxRecDepth 100000 in
theorem ze_r29 {a0 : Int32} : ∀ G : ez_F, fx_up X 1 G 29 19 [.ref 0] [.int a0] (ev_hp I J R T) cz kz = some (some (.int a0), (ev_hp I J R T), cz, kz) := by
  intro G
  rfl
theorem le_16 
    (H : Q (some (.int (I 14 2))) (ev_hp I J R T)) : pw (N + 1) X 29 16 [.ref 0] [.ref 14] (ev_hp I J R T) Q := by
  refine pw_seg (by decide) (fun _ _ => ze_r28) ?_
  exact pw_p (pw_ret (by decide) (fun _ _ => ze_r29) H)
set_option maxRecDepth 100000 in
theorem ze_r30 {a0 : Int32} {a1 : Int32} : ∀ G : ez_F, fx_up X 1 G 54 11 [.ref 0, .int a0] [.int a1] (ev_hp I J R T) cz kz = bif decide (a1 = (0 : Int32)) then G 54 17 [.ref 0, .int a0] [] (ev_hp I J R T) cz kz else G 54 14 [.ref 0, .int a0] [] (ev_hp I J R T) cz kz := by
  intro G
  rfl
set_option maxRecDepth 100000 in
theorem ze_r31 {a0 : Int32} : ∀ G : ez_F, fx_up X 3 G 54 17 [.ref 0, .int a0] [] (ev_hp I J R T) cz kz = ev_C G 112 [.ref 13] (ev_hp I J R T) fun r h1 c1 k1 => G 54 24 [.ref 0, .int a0] (r.toList ++ []) h1 (cz + c1) (kz + k1) := by
  intro G
  rfl
set_option maxRecDepth 100000 in
theorem ze_r32 {a0 : Int32} : ∀ G : ez_F, fx_up X 2 G 54 14 [.ref 0, .int a0] [] (ev_hp I J R T) cz kz = some (some (.int (-6 : Int32)), (ev_hp I J R T), cz, kz) := by
  intro G
  rfl
theorem wh_11 {v x : Int32}
    (H : ((v = (0 : Int32) → (∃ Q1 : pw_Q, pe N X 112 [.ref 13] (ev_hp I J R T) Q1 ∧ ∀ (r : Option Value) (h1 : ez_H), Q1 r h1 → pw N X 54 24 [.ref 0, .int x] (r.toList ++ []) h1 Q)) ∧ (¬ (v = (0 : Int32)) → Q (some (.int (-6 : Int32))) (ev_hp I J R T)))) : pw (N + 1) X 54 11 [.ref 0, .int x] [.int v] (ev_hp I J R T) Q := by
  refine pw_if (by decide) (fun _ _ => ze_r30) (fun w1 => ?_) (fun w1 => ?_)
  · have h1 := H.1 w1
    obtain ⟨Q1, hc, hk⟩ := h1
    exact pw_p (pw_call (by decide) (fun _ _ => ze_r31) hc hk)
  · have h1 := H.2 w1
    exact pw_p (pw_ret (by decide) (fun _ _ => ze_r32) h1)
set_option maxRecDepth 100000 in
theorem ze_r33 {a0 : Int32} : ∀ G : ez_F, fx_up X 4 G 54 24 [.ref 0, .int a0] [] (ev_hp I J R T) cz kz = ev_C G 110 [.ref 13, .int a0] (ev_hp I J R T) fun r h1 c1 k1 => G 54 32 [.ref 0, .int a0] (r.toList ++ []) h1 (cz + c1) (kz + k1) := by
  intro G
  rfl
theorem wh_24 {x : Int32}
    (H : (∃ Q1 : pw_Q, pe N X 110 [.ref 13, .int x] (ev_hp I J R T) Q1 ∧ ∀ (r : Option Value) (h1 : ez_H), Q1 r h1 → pw N X 54 32 [.ref 0, .int x] (r.toList ++ []) h1 Q)) : pw (N + 1) X 54 24 [.ref 0, .int x] [] (ev_hp I J R T) Q := by
  obtain ⟨Q1, hc, hk⟩ := H
  exact pw_call (by decide) (fun _ _ => ze_r33) hc hk
set_option maxRecDepth 100000 in
theorem ze_r34 {a0 : Int32} {a1 : Int32} : ∀ G : ez_F, fx_up X 1 G 54 32 [.ref 0, .int a0] [.int a1] (ev_hp I J R T) cz kz = some (some (.int a1), (ev_hp I J R T), cz, kz) := by
  intro G
  rfl
theorem wh_32 {v x : Int32}
    (H : Q (some (.int v)) (ev_hp I J R T)) : pw (N + 1) X 54 32 [.ref 0, .int x] [.int v] (ev_hp I J R T) Q := by
  exact pw_ret (by decide) (fun _ _ => ze_r34) H
set_option maxRecDepth 100000 in
theorem ze_r35 {a0 : Int32} {a1 : Int32} : ∀ G : ez_F, fx_up X 1 G 51 15 [.ref 0, .int a0] [.int a1] (ev_hp I J R T) cz kz = bif decide (a1 = (0 : Int32)) then G 51 23 [.ref 0, .int a0] [] (ev_hp I J R T) cz kz else G 51 18 [.ref 0, .int a0] [] (ev_hp I J R T) cz kz := by
  intro G
  rfl
set_option maxRecDepth 100000 in
theorem ze_r36 {a0 : Int32} : ∀ G : ez_F, fx_up X 2 G 51 23 [.ref 0, .int a0] [] (ev_hp I J R T) cz kz = ev_C G 30 [.ref 0] (ev_hp I J R T) fun r h1 c1 k1 => G 51 27 [.ref 0, .int a0] (r.toList ++ []) h1 (cz + c1) (kz + k1) := by
  intro G
  rfl
set_option maxRecDepth 100000 in
theorem ze_r37 {a0 : Int32} : ∀ G : ez_F, fx_up X 3 G 51 18 [.ref 0, .int a0] [] (ev_hp I J R T) cz kz = some (some (.int (-6 : Int32)), (ev_hp I J R T), cz, kz) := by
  intro G
  rfl
theorem th_15 {v x : Int32}
    (H : ((v = (0 : Int32) → (∃ Q1 : pw_Q, pe N X 30 [.ref 0] (ev_hp I J R T) Q1 ∧ ∀ (r : Option Value) (h1 : ez_H), Q1 r h1 → pw N X 51 27 [.ref 0, .int x] (r.toList ++ []) h1 Q)) ∧ (¬ (v = (0 : Int32)) → Q (some (.int (-6 : Int32))) (ev_hp I J R T)))) : pw (N + 1) X 51 15 [.ref 0, .int x] [.int v] (ev_hp I J R T) Q := by
  refine pw_if (by decide) (fun _ _ => ze_r35) (fun w1 => ?_) (fun w1 => ?_)
  · have h1 := H.1 w1
    obtain ⟨Q1, hc, hk⟩ := h1
    exact pw_p (pw_call (by decide) (fun _ _ => ze_r36) hc hk)
  · have h1 := H.2 w1
    exact pw_p (pw_ret (by decide) (fun _ _ => ze_r37) h1)
set_option maxRecDepth 100000 in
theorem ze_r38 {a0 : Int32} : ∀ G : ez_F, fx_up X 2 G 51 27 [.ref 0, .int a0] [.ref 14] (ev_hp I J R T) cz kz = ev_C G 163 [.ref 14, .int a0] (ev_hp I J R T) fun r h1 c1 k1 => G 51 31 [.ref 0, .int a0] (r.toList ++ []) h1 (cz + c1) (kz + k1) := by
  intro G
  rfl
set_option maxRecDepth 100000 in
theorem ze_r39 {a0 : Int32} {a1 : Int32} : ∀ G : ez_F, fx_up X 1 G 51 31 [.ref 0, .int a0] [.int a1] (ev_hp I J R T) cz kz = some (some (.int a1), (ev_hp I J R T), cz, kz) := by
  intro G
  rfl
theorem th_27 {x : Int32}
    (H : Q (some (.int (ev_at 36 (I 15) x))) (ev_hp I J R T)) : pw (N + 1) X 51 27 [.ref 0, .int x] [.ref 14] (ev_hp I J R T) Q := by
  refine pw_callp (by decide) (fun _ _ => ze_r38) (pe_shipsAt) ?_
  exact pw_p (pw_ret (by decide) (fun _ _ => ze_r39) H)
set_option maxRecDepth 100000 in
theorem ze_r40 {a0 : Int32} {a1 : Int32} : ∀ G : ez_F, fx_up X 1 G 48 17 [.ref 0, .int a0] [.int a1] (ev_hp I J R T) cz kz = bif decide (a1 = (0 : Int32)) then G 48 24 [.ref 0, .int a0] [] (ev_hp I J R T) cz kz else G 48 20 [.ref 0, .int a0] [] (ev_hp I J R T) cz kz := by
  intro G
  rfl
set_option maxRecDepth 100000 in
theorem ze_r41 {a0 : Int32} : ∀ G : ez_F, fx_up X 2 G 48 24 [.ref 0, .int a0] [] (ev_hp I J R T) cz kz = ev_C G 30 [.ref 0] (ev_hp I J R T) fun r h1 c1 k1 => G 48 28 [.ref 0, .int a0] (r.toList ++ []) h1 (cz + c1) (kz + k1) := by
  intro G
  rfl
set_option maxRecDepth 100000 in
theorem ze_r42 {a0 : Int32} : ∀ G : ez_F, fx_up X 2 G 48 20 [.ref 0, .int a0] [] (ev_hp I J R T) cz kz = some (some (.long (18446744073709551610 : Int64)), (ev_hp I J R T), cz, kz) := by
  intro G
  rfl
theorem su_17 {v x : Int32}
    (H : ((v = (0 : Int32) → (∃ Q1 : pw_Q, pe N X 30 [.ref 0] (ev_hp I J R T) Q1 ∧ ∀ (r : Option Value) (h1 : ez_H), Q1 r h1 → pw N X 48 28 [.ref 0, .int x] (r.toList ++ []) h1 Q)) ∧ (¬ (v = (0 : Int32)) → Q (some (.long (18446744073709551610 : Int64))) (ev_hp I J R T)))) : pw (N + 1) X 48 17 [.ref 0, .int x] [.int v] (ev_hp I J R T) Q := by
  refine pw_if (by decide) (fun _ _ => ze_r40) (fun w1 => ?_) (fun w1 => ?_)
  · have h1 := H.1 w1
    obtain ⟨Q1, hc, hk⟩ := h1
    exact pw_p (pw_call (by decide) (fun _ _ => ze_r41) hc hk)
  · have h1 := H.2 w1
    exact pw_p (pw_ret (by decide) (fun _ _ => ze_r42) h1)
set_option maxRecDepth 100000 in
theorem ze_r43 {a0 : Int32} : ∀ G : ez_F, fx_up X 4 G 48 28 [.ref 0, .int a0] [.ref 14] (ev_hp I J R T) cz kz = bif decide (¬ a0 = (0 : Int32)) then G 48 41 [.ref 0, .int a0, .ref 14] [.ref 14] (ev_hp I J R T) cz kz else G 48 34 [.ref 0, .int a0, .ref 14] [.ref 14] (ev_hp I J R T) cz kz := by
  intro G
  rfl
set_option maxRecDepth 100000 in
theorem ze_r44 {a0 : Int32} : ∀ G : ez_F, fx_up X 4 G 48 41 [.ref 0, .int a0, .ref 14] [.ref 14] (ev_hp I J R T) cz kz = G 48 49 [.ref 0, .int a0, .ref 14] [.int (I 1 6), .int (0 : Int32), .ref 14] (ev_hp I J R T) cz kz := by
  intro G
  rfl
set_option maxRecDepth 100000 in
theorem ze_r45 {a0 : Int32} {a1 : Int32} {a2 : Int32} : ∀ G : ez_F, fx_up X 1 G 48 49 [.ref 0, .int a0, .ref 14] [.int a1, .int a2, .ref 14] (ev_hp I J R T) cz kz = ev_C G 158 [.ref 14, .int a2, .int a1] (ev_hp I J R T) fun r h1 c1 k1 => G 48 52 [.ref 0, .int a0, .ref 14] (r.toList ++ []) h1 (cz + c1) (kz + k1) := by
  intro G
  rfl
set_option maxRecDepth 100000 in
theorem ze_r46 {a0 : Int32} : ∀ G : ez_F, fx_up X 2 G 48 34 [.ref 0, .int a0, .ref 14] [.ref 14] (ev_hp I J R T) cz kz = G 48 38 [.ref 0, .int a0, .ref 14] [.int (I 14 2), .ref 14] (ev_hp I J R T) cz kz := by
  intro G
  rfl
set_option maxRecDepth 100000 in
theorem ze_r47 {a0 : Int32} {a1 : Int32} : ∀ G : ez_F, fx_up X 4 G 48 38 [.ref 0, .int a0, .ref 14] [.int a1, .ref 14] (ev_hp I J R T) cz kz = G 48 49 [.ref 0, .int a0, .ref 14] [.int (I 1 6), .int a1, .ref 14] (ev_hp I J R T) cz kz := by
  intro G
  rfl
theorem su_28 {x : Int32}
    (H : ((¬ x = (0 : Int32) → (∃ Q1 : pw_Q, pe N X 158 [.ref 14, .int (0 : Int32), .int (I 1 6)] (ev_hp I J R T) Q1 ∧ ∀ (r : Option Value) (h1 : ez_H), Q1 r h1 → pw N X 48 52 [.ref 0, .int x, .ref 14] (r.toList ++ []) h1 Q)) ∧ (¬ (¬ x = (0 : Int32)) → (∃ Q1 : pw_Q, pe N X 158 [.ref 14, .int (I 14 2), .int (I 1 6)] (ev_hp I J R T) Q1 ∧ ∀ (r : Option Value) (h1 : ez_H), Q1 r h1 → pw N X 48 52 [.ref 0, .int x, .ref 14] (r.toList ++ []) h1 Q)))) : pw (N + 1) X 48 28 [.ref 0, .int x] [.ref 14] (ev_hp I J R T) Q := by
  refine pw_if (by decide) (fun _ _ => ze_r43) (fun w1 => ?_) (fun w1 => ?_)
  · have h1 := H.1 w1
    refine pw_p (pw_seg (by decide) (fun _ _ => ze_r44) ?_)
    obtain ⟨Q1, hc, hk⟩ := h1
    exact pw_p (pw_call (by decide) (fun _ _ => ze_r45) hc hk)
  · have h1 := H.2 w1
    refine pw_p (pw_seg (by decide) (fun _ _ => ze_r46) ?_)
    refine pw_p (pw_seg (by decide) (fun _ _ => ze_r47) ?_)
    obtain ⟨Q1, hc, hk⟩ := h1
    exact pw_p (pw_call (by decide) (fun _ _ => ze_r45) hc hk)
set_option maxRecDepth 100000 in
theorem ze_r48 {a0 : Int32} {a1 : Int64} : ∀ G : ez_F, fx_up X 1 G 48 52 [.ref 0, .int a0, .ref 14] [.long a1] (ev_hp I J R T) cz kz = some (some (.long a1), (ev_hp I J R T), cz, kz) := by
  intro G
  rfl
theorem su_52 {x : Int32} {z : Int64}
    (H : Q (some (.long z)) (ev_hp I J R T)) : pw (N + 1) X 48 52 [.ref 0, .int x, .ref 14] [.long z] (ev_hp I J R T) Q := by
  exact pw_ret (by decide) (fun _ _ => ze_r48) H
set_option maxRecDepth 100000 in
theorem ze_r49 {a0 : Int32} {a1 : Int32} {a2 : Int32} : ∀ G : ez_F, fx_up X 1 G 37 27 [.ref 0, .int a0, .int a1] [.int a2] (ev_hp I J R T) cz kz = bif decide (a2 = (0 : Int32)) then G 37 35 [.ref 0, .int a0, .int a1] [] (ev_hp I J R T) cz kz else G 37 30 [.ref 0, .int a0, .int a1] [] (ev_hp I J R T) cz kz := by
  intro G
  rfl
set_option maxRecDepth 100000 in
theorem ze_r50 {a0 : Int32} {a1 : Int32} : ∀ G : ez_F, fx_up X 2 G 37 35 [.ref 0, .int a0, .int a1] [] (ev_hp I J R T) cz kz = ev_C G 30 [.ref 0] (ev_hp I J R T) fun r h1 c1 k1 => G 37 39 [.ref 0, .int a0, .int a1] (r.toList ++ []) h1 (cz + c1) (kz + k1) := by
  intro G
  rfl
set_option maxRecDepth 100000 in
theorem ze_r51 {a0 : Int32} {a1 : Int32} : ∀ G : ez_F, fx_up X 3 G 37 30 [.ref 0, .int a0, .int a1] [] (ev_hp I J R T) cz kz = some (some (.int (-6 : Int32)), (ev_hp I J R T), cz, kz) := by
  intro G
  rfl
theorem pa_27 {v x y : Int32}
    (H : ((v = (0 : Int32) → (∃ Q1 : pw_Q, pe N X 30 [.ref 0] (ev_hp I J R T) Q1 ∧ ∀ (r : Option Value) (h1 : ez_H), Q1 r h1 → pw N X 37 39 [.ref 0, .int x, .int y] (r.toList ++ []) h1 Q)) ∧ (¬ (v = (0 : Int32)) → Q (some (.int (-6 : Int32))) (ev_hp I J R T)))) : pw (N + 1) X 37 27 [.ref 0, .int x, .int y] [.int v] (ev_hp I J R T) Q := by
  refine pw_if (by decide) (fun _ _ => ze_r49) (fun w1 => ?_) (fun w1 => ?_)
  · have h1 := H.1 w1
    obtain ⟨Q1, hc, hk⟩ := h1
    exact pw_p (pw_call (by decide) (fun _ _ => ze_r50) hc hk)
  · have h1 := H.2 w1
    exact pw_p (pw_ret (by decide) (fun _ _ => ze_r51) h1)
set_option maxRecDepth 100000 in
theorem ze_r52 {a0 : Int32} {a1 : Int32} : ∀ G : ez_F, fx_up X 3 G 37 39 [.ref 0, .int a0, .int a1] [.ref 14] (ev_hp I J R T) cz kz = ev_C G 162 [.ref 14, .int a0, .int a1] (ev_hp I J R T) fun r h1 c1 k1 => G 37 44 [.ref 0, .int a0, .int a1] (r.toList ++ []) h1 (cz + c1) (kz + k1) := by
  intro G
  rfl
set_option maxRecDepth 100000 in
theorem ze_r53 {a0 : Int32} {a1 : Int32} {a2 : Int32} : ∀ G : ez_F, fx_up X 1 G 37 44 [.ref 0, .int a0, .int a1] [.int a2] (ev_hp I J R T) cz kz = some (some (.int a2), (ev_hp I J R T), cz, kz) := by
  intro G
  rfl
theorem pa_39 {x y : Int32}
    (H : Q (some (.int (ipF (I 14) (I 15) (I 16) x y))) (ev_hp I J R T)) : pw (N + 1) X 37 39 [.ref 0, .int x, .int y] [.ref 14] (ev_hp I J R T) Q := by
  refine pw_callp (by decide) (fun _ _ => ze_r52) (pe_inPart) ?_
  exact pw_p (pw_ret (by decide) (fun _ _ => ze_r53) H)
set_option maxRecDepth 100000 in
theorem ze_r54 {a0 : Int32} {a1 : Int32} : ∀ G : ez_F, fx_up X 1 G 6 16 [.ref 0, .int a0] [.int a1] (ev_hp I J R T) cz kz = bif decide (a1 = (0 : Int32)) then G 6 22 [.ref 0, .int a0] [] (ev_hp I J R T) cz kz else G 6 19 [.ref 0, .int a0] [] (ev_hp I J R T) cz kz := by
  intro G
  rfl
set_option maxRecDepth 100000 in
theorem ze_r55 {a0 : Int32} : ∀ G : ez_F, fx_up X 2 G 6 22 [.ref 0, .int a0] [] (ev_hp I J R T) cz kz = ev_C G 30 [.ref 0] (ev_hp I J R T) fun r h1 c1 k1 => G 6 26 [.ref 0, .int a0] (r.toList ++ []) h1 (cz + c1) (kz + k1) := by
  intro G
  rfl
set_option maxRecDepth 100000 in
theorem ze_r56 {a0 : Int32} : ∀ G : ez_F, fx_up X 2 G 6 19 [.ref 0, .int a0] [] (ev_hp I J R T) cz kz = some (some (.int (-6 : Int32)), (ev_hp I J R T), cz, kz) := by
  intro G
  rfl
theorem bs_16 {v x : Int32}
    (H : ((v = (0 : Int32) → (∃ Q1 : pw_Q, pe N X 30 [.ref 0] (ev_hp I J R T) Q1 ∧ ∀ (r : Option Value) (h1 : ez_H), Q1 r h1 → pw N X 6 26 [.ref 0, .int x] (r.toList ++ []) h1 Q)) ∧ (¬ (v = (0 : Int32)) → Q (some (.int (-6 : Int32))) (ev_hp I J R T)))) : pw (N + 1) X 6 16 [.ref 0, .int x] [.int v] (ev_hp I J R T) Q := by
  refine pw_if (by decide) (fun _ _ => ze_r54) (fun w1 => ?_) (fun w1 => ?_)
  · have h1 := H.1 w1
    obtain ⟨Q1, hc, hk⟩ := h1
    exact pw_p (pw_call (by decide) (fun _ _ => ze_r55) hc hk)
  · have h1 := H.2 w1
    exact pw_p (pw_ret (by decide) (fun _ _ => ze_r56) h1)
set_option maxRecDepth 100000 in
theorem ze_r57 {a0 : Int32} : ∀ G : ez_F, fx_up X 3 G 6 26 [.ref 0, .int a0] [.ref 14] (ev_hp I J R T) cz kz = G 6 31 [.ref 0, .int a0, .ref 14] [.int (I 14 2)] (ev_hp I J R T) cz kz := by
  intro G
  rfl
set_option maxRecDepth 100000 in
theorem ze_r58 {a0 : Int32} {a1 : Int32} : ∀ G : ez_F, fx_up X 1 G 6 31 [.ref 0, .int a0, .ref 14] [.int a1] (ev_hp I J R T) cz kz = bif decide (¬ a1 = (0 : Int32)) then G 6 36 [.ref 0, .int a0, .ref 14] [] (ev_hp I J R T) cz kz else G 6 34 [.ref 0, .int a0, .ref 14] [] (ev_hp I J R T) cz kz := by
  intro G
  rfl
set_option maxRecDepth 100000 in
theorem ze_r59 {a0 : Int32} : ∀ G : ez_F, fx_up X 4 G 6 36 [.ref 0, .int a0, .ref 14] [] (ev_hp I J R T) cz kz = G 6 44 [.ref 0, .int a0, .ref 14] [.int (I 1 6), .ref 14] (ev_hp I J R T) cz kz := by
  intro G
  rfl
set_option maxRecDepth 100000 in
theorem ze_r60 {a0 : Int32} {a1 : Int32} : ∀ G : ez_F, fx_up X 1 G 6 44 [.ref 0, .int a0, .ref 14] [.int a1, .ref 14] (ev_hp I J R T) cz kz = ev_C G 157 [.ref 14, .int a1] (ev_hp I J R T) fun r h1 c1 k1 => G 6 47 [.ref 0, .int a0, .ref 14] (r.toList ++ []) h1 (cz + c1) (kz + k1) := by
  intro G
  rfl
set_option maxRecDepth 100000 in
theorem ze_r61 {a0 : Int32} : ∀ G : ez_F, fx_up X 2 G 6 34 [.ref 0, .int a0, .ref 14] [] (ev_hp I J R T) cz kz = some (some (.int (-1 : Int32)), (ev_hp I J R T), cz, kz) := by
  intro G
  rfl
theorem bs_26 {x : Int32}
    (H : ((¬ (I 14 2) = (0 : Int32) → (∃ Q1 : pw_Q, pe N X 157 [.ref 14, .int (I 1 6)] (ev_hp I J R T) Q1 ∧ ∀ (r : Option Value) (h1 : ez_H), Q1 r h1 → pw N X 6 47 [.ref 0, .int x, .ref 14] (r.toList ++ []) h1 Q)) ∧ (¬ (¬ (I 14 2) = (0 : Int32)) → Q (some (.int (-1 : Int32))) (ev_hp I J R T)))) : pw (N + 1) X 6 26 [.ref 0, .int x] [.ref 14] (ev_hp I J R T) Q := by
  refine pw_seg (by decide) (fun _ _ => ze_r57) ?_
  refine pw_p (pw_if (by decide) (fun _ _ => ze_r58) (fun w1 => ?_) (fun w1 => ?_))
  · have h1 := H.1 w1
    refine pw_p (pw_seg (by decide) (fun _ _ => ze_r59) ?_)
    obtain ⟨Q1, hc, hk⟩ := h1
    exact pw_p (pw_call (by decide) (fun _ _ => ze_r60) hc hk)
  · have h1 := H.2 w1
    exact pw_p (pw_ret (by decide) (fun _ _ => ze_r61) h1)
set_option maxRecDepth 100000 in
theorem ze_r62 {a0 : Int32} {a1 : Int32} : ∀ G : ez_F, fx_up X 3 G 6 47 [.ref 0, .int a0, .ref 14] [.int a1] (ev_hp I J R T) cz kz = bif decide (¬ a0 = (0 : Int32)) then G 6 56 [.ref 0, .int a0, .ref 14, .int a1] [] (ev_hp I J R T) cz kz else G 6 52 [.ref 0, .int a0, .ref 14, .int a1] [] (ev_hp I J R T) cz kz := by
  intro G
  rfl
set_option maxRecDepth 100000 in
theorem ze_r63 {a0 : Int32} {a1 : Int32} : ∀ G : ez_F, fx_up X 3 G 6 56 [.ref 0, .int a0, .ref 14, .int a1] [] (ev_hp I J R T) cz kz = ev_C G 161 [.ref 14, .int a1] (ev_hp I J R T) fun r h1 c1 k1 => G 6 61 [.ref 0, .int a0, .ref 14, .int a1] (r.toList ++ []) h1 (cz + c1) (kz + k1) := by
  intro G
  rfl
set_option maxRecDepth 100000 in
theorem ze_r64 {a0 : Int32} {a1 : Int32} {a2 : Int32} : ∀ G : ez_F, fx_up X 1 G 6 61 [.ref 0, .int a0, .ref 14, .int a1] [.int a2] (ev_hp I J R T) cz kz = some (some (.int a2), (ev_hp I J R T), cz, kz) := by
  intro G
  rfl
set_option maxRecDepth 100000 in
theorem ze_r65 {a0 : Int32} {a1 : Int32} : ∀ G : ez_F, fx_up X 3 G 6 52 [.ref 0, .int a0, .ref 14, .int a1] [] (ev_hp I J R T) cz kz = some (some (.int a1), (ev_hp I J R T), cz, kz) := by
  intro G
  rfl
theorem bs_47 {v x : Int32}
    (H : ((¬ x = (0 : Int32) → Q (some (.int (gtF (I 14) (I 15) (I 16) v))) (ev_hp I J R T)) ∧ (¬ (¬ x = (0 : Int32)) → Q (some (.int v)) (ev_hp I J R T)))) : pw (N + 1) X 6 47 [.ref 0, .int x, .ref 14] [.int v] (ev_hp I J R T) Q := by
  refine pw_if (by decide) (fun _ _ => ze_r62) (fun w1 => ?_) (fun w1 => ?_)
  · have h1 := H.1 w1
    refine pw_p (pw_callp (by decide) (fun _ _ => ze_r63) (pe_greatest) ?_)
    exact pw_p (pw_ret (by decide) (fun _ _ => ze_r64) h1)
  · have h1 := H.2 w1
    exact pw_p (pw_ret (by decide) (fun _ _ => ze_r65) h1)
end
/-! the tally in numbers -/
def lkf (I : Nat → Nat → Int32) (J : Nat → Nat → Int64) (k : Nat) : Bool := lfB I J (xz I J ((ls I J).getD k (0, 0, 0)) (nca I))
def tN (I : Nat → Nat → Int32) (J : Nat → Nat → Int64) : Nat := cq (lkf I J) (ls I J).length
def tS (I : Nat → Nat → Int32) (J : Nat → Nat → Int64) (c : Nat) : Nat := cq (fun k => lkf I J k && kb (xp I J ((ls I J).getD k (0, 0, 0)) (nca I)) c) (ls I J).length
def tK (I : Nat → Nat → Int32) (J : Nat → Nat → Int64) (c : Nat) : Nat := cq (fun k => lkf I J k && kb (xs I J ((ls I J).getD k (0, 0, 0)) (nca I)) c) (ls I J).length
def ipN (I : Nat → Nat → Int32) (J : Nat → Nat → Int64) (c : Nat) (v : Int32) : Int32 := if v = 0 then Int32.ofNat (tN I J) - Int32.ofNat (tS I J c) else if v = 1 then Int32.ofNat (tS I J c) - Int32.ofNat (tK I J c) else Int32.ofNat (tK I J c)
def gtN (I : Nat → Nat → Int32) (J : Nat → Nat → Int64) (c : Nat) : Int32 := imx (ipN I J c 0) (imx (ipN I J c 1) (ipN I J c 2))
def wF (p : Nat → Bool) (i : Nat) : Nat → Int32
  | 0 => -1
  | n + 1 => if wF p i n = -1 then (if p n = true ∧ cq p n = i then Int32.ofNat n else -1) else wF p i n
def scF (p : Nat → Bool) : Nat → Int64
  | 0 => 0
  | c + 1 => if p c = true then scF p c ||| cell1 c else scF p c
def bF (G : Nat → Int32) : Nat → Nat
  | 0 => 0
  | c + 1 => if G c < G (bF G c) then c else bF G c
theorem tal_at {I A : Nat → Nat → Int32} {J : Nat → Nat → Int64} (h : tal I J (ls I J) (nca I) A) : A 14 2 = Int32.ofNat (tN I J) ∧ ∀ c, c < 36 → A 15 c = Int32.ofNat (tS I J c) ∧ A 16 c = Int32.ofNat (tK I J c) := h
theorem ip_at {I A : Nat → Nat → Int32} {J : Nat → Nat → Int64} (h : tal I J (ls I J) (nca I) A) {c : Nat} (hc : c < 36) (v : Int32) : ipF (A 14) (A 15) (A 16) (Int32.ofNat c) v = ipN I J c v := by
  obtain ⟨h1, h2⟩ := tal_at h
  unfold ipF ipN
  rw [at_in hc (by decide), at_in hc (by decide), h1, (h2 c hc).1, (h2 c hc).2]
theorem gt_at {I A : Nat → Nat → Int32} {J : Nat → Nat → Int64} (h : tal I J (ls I J) (nca I) A) {c : Nat} (hc : c < 36) : gtF (A 14) (A 15) (A 16) (Int32.ofNat c) = gtN I J c := by
  unfold gtF gtN
  rw [ip_at h hc, ip_at h hc, ip_at h hc]
theorem bF_lt (G : Nat → Int32) : ∀ n, 0 < n → bF G n < n := by
  intro n
  induction n with
  | zero => intro h; omega
  | succ n ih =>
    intro _
    unfold bF
    split
    · omega
    · by_cases h : n = 0
      · subst h
        exact Nat.zero_lt_one
      · have := ih (by omega)
        omega
section
variable {N : Nat} {X : ez_X} {I : Nat → Nat → Int32} {J : Nat → Nat → Int64} {R : Nat → Nat} {T : List ez_C} {x y : Int32} {z : Int64} {h0 : ez_H}
/-- behind a replay -/
def rq_Q (I : Nat → Nat → Int32) (J : Nat → Nat → Int64) (L : List ly_t) (nc : Nat) (A : Nat → Nat → Int32) (B : Nat → Nat → Int64) (R' : Nat → Nat) (T' : List ez_C) : Prop := (∀ a, a ≠ 6 → a ≠ 13 → a ≠ 14 → a ≠ 15 → a ≠ 16 → A a = I a) ∧ A 6 3 = Int32.ofNat L.length ∧ A 13 8 = 1 ∧ (∀ a, a ≠ 11 → a ≠ 12 → B a = J a) ∧ (∃ n f, rowT (R' 0) T' n f ∧ L.length ≤ n ∧ n ≤ 10000 ∧ ly_row f L) ∧ rd3 R' ∧ lgr I J R' T' L nc
theorem rq_b4 {A : Nat → Nat → Int32} {B : Nat → Nat → Int64} {R' : Nat → Nat} {T' : List ez_C} {L : List ly_t} {nc : Nat} (h : rq_Q I J L nc A B R' T') : bk A B = bk I J := by
  obtain ⟨h1, -, -, h2, -⟩ := h
  unfold bk
  rw [h1 8 (by decide) (by decide) (by decide) (by decide) (by decide), h1 3 (by decide) (by decide) (by decide) (by decide) (by decide), h1 5 (by decide) (by decide) (by decide) (by decide) (by decide), h1 2 (by decide) (by decide) (by decide) (by decide) (by decide), h1 1 (by decide) (by decide) (by decide) (by decide) (by decide), h1 33 (by decide) (by decide) (by decide) (by decide) (by decide), h2 4 (by decide) (by decide), h2 9 (by decide) (by decide), h2 1 (by decide) (by decide), h2 8 (by decide) (by decide)]
/-- relation 4 there -/
theorem rq_d4 {A : Nat → Nat → Int32} {B : Nat → Nat → Int64} {R' : Nat → Nat} {T' : List ez_C} (h : rq_Q I J (ls I J) (nca I) A B R' T') (ht : A 13 9 = 1 → tal I J (ls I J) (nca I) A) : d4 A B R' T' := by
  obtain ⟨e1, e2, e3, e4⟩ := b4_bk (rq_b4 h)
  obtain ⟨l1, l2, -⟩ := b4_use e1
  refine ⟨h.2.2.2.2.2.1, fun _ => ?_, fun z => ?_⟩
  · rw [l1, l2]
    exact lgr_b e1 ⟨rfl, rfl, rfl⟩ (fun _ _ _ _ q => q) h.2.2.2.2.2.2
  · rw [l1, l2]
    exact tal_b e1 e2 e3 e4 rfl rfl rfl (ht z)
theorem b_13 (hB : cx_hB cx_B0 I) : (I 13 8 = 0 ∨ I 13 8 = 1) ∧ (I 13 9 = 0 ∨ I 13 9 = 1) := by
  have h8 := hB 13 8
  have h9 := hB 13 9
  rw [show cx_B0 13 8 = (0, 1) from rfl] at h8
  rw [show cx_B0 13 9 = (0, 1) from rfl] at h9
  exact ⟨cx_01 h8.1 h8.2, cx_01 h9.1 h9.2⟩
/-- all layings are played, behind tooMany -/
theorem pe_rep (h : rl3 I J R T) (hd : d4 I J R T) (hh : cx_hok cx_B0 I R T) (hs : se_Q I J R T (ls I J) h0) (N : Nat) : pe N X 112 [.ref 13] h0 (fun r h => r = none ∧ ∃ A B R' T', h = ev_hp A B R' T' ∧ rq_Q I J (ls I J) (nca I) A B R' T' ∧ A 13 9 = I 13 9 ∧ A 14 = I 14 ∧ A 15 = I 15 ∧ A 16 = I 16) := by
  have hr := h.1.1
  obtain ⟨k0, ek, hk30, -⟩ := c3_of h.2
  have enc : nca I = k0 := by
    unfold nca
    rw [ek, io_ti (by omega)]
    exact Int.toNat_natCast k0
  obtain ⟨f6, R6, T6, rfl, f64, ⟨g2, n0, f, g3, g4, g5, g6⟩, k1, k2, k3, k4⟩ := hs
  obtain ⟨m0, fm, r0, -⟩ := rows_0 hh.2
  obtain ⟨-, n0', n1, n4, a0, a1, a2, a3, a4, -, b1, -⟩ := hh.2
  have mv : ∀ p n g, rowJ p T n g → rowJ p T6 n g := fun p n g hp => by
    rcases hp with hp | ⟨h1, h2⟩
    · exact Or.inl hp
    · have hne := row_ne r0 (Or.inr ⟨h1, h2⟩ : rowJ p T n g)
      exact Or.inr ⟨h1, by rw [k4 (p - 65) (List.getElem?_eq_some_iff.mp h2).1 (by omega)]; exact h2⟩
  obtain ⟨j1, q1⟩ := rowJ_of a1
  obtain ⟨j2, q2⟩ := rowJ_of a2
  obtain ⟨j3, q3⟩ := rowJ_of a3
  have e1 : R6 1 = R 1 := k1 1 (by decide)
  have e2 : R6 2 = R 2 := k1 2 (by decide)
  have e3 : R6 3 = R 3 := k1 3 (by decide)
  have eb : bk (ev_sI I 6 f6) J = bk I J := by
    unfold bk
    rw [cx_sI_n _ _ (show (8 : Nat) ≠ 6 by decide), cx_sI_n _ _ (show (3 : Nat) ≠ 6 by decide), cx_sI_n _ _ (show (5 : Nat) ≠ 6 by decide), cx_sI_n _ _ (show (2 : Nat) ≠ 6 by decide), cx_sI_n _ _ (show (1 : Nat) ≠ 6 by decide), cx_sI_n _ _ (show (33 : Nat) ≠ 6 by decide)]
  have b4e := (b4_bk eb).1
  have c3 : ev_sI I 6 f6 3 = I 3 := cx_sI_n _ _ (by decide)
  have c8 : ev_sI I 6 f6 8 = I 8 := cx_sI_n _ _ (by decide)
  have c13 : ev_sI I 6 f6 13 = I 13 := cx_sI_n _ _ (by decide)
  have hd6 : rd3 R6 := by
    unfold rd3
    rw [e1, e2, e3]
    exact hd.1
  refine pe_mono (pe_replay (L := ls I J) (nc := k0) (f := f) (n0 := n0) (m := n1) (g1 := j1) (g2 := j2) (g3' := j3) g2 g3 g4 g5 g6 (by rw [c3]; exact (b_sh hh.1).1) (fun t ht => ls_512 hr hh.1 ht) (fun t ht s hs => ?_) (by rw [c8]; exact ek) hk30 (by rw [c13]; exact (b_13 hh.1).1) (fun z => ?_) b1 (by rw [e1]; exact mv _ _ _ q1) (by rw [e2]; exact mv _ _ _ q2) (by rw [e3]; exact mv _ _ _ q3) hd6) ?_
  · rw [c3] at hs
    have := ly_in hr hh.1 ht hs
    have := (fi_n hr hs).2.1
    omega
  · rw [c13] at z
    have h5 := hd.2.1 z
    rw [enc] at h5
    exact lgr_b b4e ⟨e1, e2, e3⟩ (fun p n g _ hp => mv p n g hp) h5
  · rintro r h' ⟨rfl, B, R', T', rfl, w1, w2, w3, w4, w5, w6⟩
    have dn : ∀ a, a ≠ 6 → a ≠ 13 → ev_sI (ev_sI I 6 f6) 13 (upd (ev_sI I 6 f6 13) 8 1) a = I a := fun a h1 h2 => by rw [cx_sI_n _ _ h2, cx_sI_n _ _ h1]
    refine ⟨rfl, _, B, R', T', rfl, ⟨fun a h1 h2 _ _ _ => dn a h1 h2, ?_, ?_, w1, ⟨n0, f, by rw [w2]; exact w4, g4, g5, g6⟩, w5, ?_⟩, ?_, dn 14 (by decide) (by decide), dn 15 (by decide) (by decide), dn 16 (by decide) (by decide)⟩
    · rw [cx_sI_n _ _ (by decide)]
      exact g2
    · rw [cx_sI_s, upd_s]
    · rw [enc]
      exact lgr_b (b4e.symm) ⟨rfl, rfl, rfl⟩ (fun _ _ _ _ q => q) w6
    · rw [cx_sI_s, upd_n _ _ (by decide), c13]
theorem on1_sub {z : Int64} {i : Nat} (h : kb z i = false) : kb (on1 z) i = false := by
  unfold on1
  split
  · exact h
  · exact kb_0 i
/-- places and cells that would sink a ship lie on the paper -/
theorem xps_on (h : rl3 I J R T) (hB : cx_hB cx_B0 I) {t : ly_t} (ht : t ∈ ls I J) (n : Nat) : onp 36 (xp I J t n) ∧ onp 36 (xs I J t n) := by
  obtain ⟨W, HH, k0, hg, ek, -⟩ := gk_of h hB
  have hg0 := hg
  obtain ⟨e0, e1, hW, hH, -⟩ := hg
  have hpk := (pk_q (sr := I 2 1) (tg := J 9) (gk_mv hg0) (pk_ls h.1.1 hB ht e0 e1 hW hH) n).2.1
  have h36 : W * HH ≤ 6 * 6 := Nat.mul_le_mul hW.2 hH.2
  have ho : ∀ s, s < 3 → onp 36 ((xq I J t n).1 s) := fun s hs i hi => hpk s hs i (by omega)
  constructor
  · intro i hi
    show kb (((xq I J t n).1 0 ||| (xq I J t n).1 1) ||| (xq I J t n).1 2) i = false
    rw [kb_or, kb_or, ho 0 (by decide) i hi, ho 1 (by decide) i hi, ho 2 (by decide) i hi]
    rfl
  · intro i hi
    have ha : ∀ s, s < 3 → kb (on1 ((xq I J t n).1 s &&& ((xq I J t n).2 s ^^^ (18446744073709551615 : Int64)))) i = false := fun s hs => on1_sub (by rw [kb_and, ho s hs i hi, Bool.false_and])
    unfold xs
    split
    · unfold skF
      rw [kb_or, kb_or, kb_or, ha 0 (by decide), ha 1 (by decide), ha 2 (by decide), kb_0]
      rfl
    · exact kb_0 i
/-- and those that are left are counted -/
theorem pe_lt (h : rl3 I J R T) (hd : d4 I J R T) (hh : cx_hok cx_B0 I R T) (hs : se_Q I J R T (ls I J) h0) (N : Nat) : pe N X 30 [.ref 0] h0 (fun r h => r = some (.ref 14) ∧ ∃ A B R' T', h = ev_hp A B R' T' ∧ rq_Q I J (ls I J) (nca I) A B R' T' ∧ tal I J (ls I J) (nca I) A) := by
  have hs' := hs
  obtain ⟨f6, R6, T6, e, -⟩ := hs'
  have hrep := pe_rep (X := X) h hd hh hs N
  subst e
  refine pe_of (pw_p (lz_0 ⟨_, hrep, ?_⟩))
  rintro r h' ⟨rfl, A, B, R', T', rfl, hq, q9, q14, q15, q16⟩
  have hq0 := hq
  have hbk := rq_b4 hq0
  obtain ⟨a1, a2, a3, a4, a5, a6, n, g1, g2, g3, r1, r2, r3, r4, r5, r6⟩ := hq
  have eA2 : A 2 = I 2 := a1 2 (by decide) (by decide) (by decide) (by decide) (by decide)
  have hlf : ∀ z, lfB A B z = lfB I J z := fun z => by
    unfold lfB
    rw [eA2, a4 8 (by decide) (by decide)]
  refine pw_p (lz_7 ⟨_, pe_countLeft (g1 := g1) (g2 := g2) (g3 := g3) a2 r4 r5 r1 r2 r3 (by rw [eA2]; exact b_lie hh.1) (fun k hk => ?_) (by rw [q9]; exact (b_13 hh.1).2), ?_⟩)
  · obtain ⟨-, h2, h3⟩ := r6 k hk
    rw [h2, h3]
    exact xps_on h hh.1 (List.getElem_mem hk) _
  rintro r h' ⟨rfl, A2, rfl, w1, w2, w3⟩
  have hq2 : rq_Q I J (ls I J) (nca I) A2 B R' T' := by
    refine ⟨fun a h1 h2 h3 h4 h5 => (w1 a h2 h3 h4 h5).trans (a1 a h1 h2 h3 h4 h5), ?_, ?_, a4, a5, a6, n, g1, g2, g3, r1, r2, r3, r4, r5, r6⟩
    · rw [w1 6 (by decide) (by decide) (by decide) (by decide)]
      exact a2
    · rw [w2, upd_n _ _ (by decide)]
      exact a3
  refine pw_p (lz_14 ⟨rfl, A2, B, R', T', rfl, hq2, ?_⟩)
  rcases w3 with ⟨-, t1, t2⟩ | ⟨e9, rfl⟩
  · have eg : ∀ k, k < (ls I J).length → g1 k = xz I J ((ls I J).getD k (0, 0, 0)) (nca I) ∧ g2 k = xp I J ((ls I J).getD k (0, 0, 0)) (nca I) ∧ g3 k = xs I J ((ls I J).getD k (0, 0, 0)) (nca I) := fun k hk => by
      rw [ly_gd hk]
      exact r6 k hk
    refine ⟨?_, fun c hc => ⟨?_, ?_⟩⟩
    · exact t1.trans (congrArg Int32.ofNat (cq_c _ fun k hk => by rw [hlf, (eg k hk).1]))
    · exact (t2 c hc).1.trans (congrArg Int32.ofNat (cq_c _ fun k hk => by rw [hlf, (eg k hk).1, (eg k hk).2.1]))
    · exact (t2 c hc).2.trans (congrArg Int32.ofNat (cq_c _ fun k hk => by rw [hlf, (eg k hk).1, (eg k hk).2.2]))
  · rw [q9] at e9
    exact tal_b rfl rfl rfl rfl (by rw [q14]) q15 q16 (hd.2.2 e9)
/-- what a call leaves -/
def F4 (h : ez_H) : Prop := ∃ A B R' T', h = ev_hp A B R' T' ∧ d4 A B R' T'
theorem F4_tm (hd : d4 I J R T) : F4 (ev_hp I J R T) := ⟨I, J, R, T, rfl, hd⟩
theorem F4_rq {A : Nat → Nat → Int32} {B : Nat → Nat → Int64} {R' : Nat → Nat} {T' : List ez_C} (h : rq_Q I J (ls I J) (nca I) A B R' T') (ht : tal I J (ls I J) (nca I) A) : F4 (ev_hp A B R' T') := ⟨A, B, R', T', rfl, rq_d4 h fun _ => ht⟩
def v_left (I : Nat → Nat → Int32) (J : Nat → Nat → Int64) : Int32 := if sn I 0 * (sn I 1 * sn I 2) ≤ 10000 then Int32.ofNat (tN I J) else -6
theorem pe_xleft (h : rl3 I J R T) (hd : d4 I J R T) (hh : cx_hok cx_B0 I R T) : pe N X 29 [.ref 0] (ev_hp I J R T) (fun r h => r = some (.int (v_left I J)) ∧ F4 h) := by
  refine pe_of (pw_p (xo_left ⟨_, pe_tm h.1.1 hh h.1.2, ?_⟩))
  rintro r h' (⟨h1, rfl, rfl⟩ | ⟨h1, rfl, h2⟩)
  · refine pw_p (le_4 ⟨fun z => absurd z (by decide), fun _ => ⟨?_, F4_tm hd⟩⟩)
    unfold v_left
    rw [if_neg (by omega)]
  · have hl := fun N => pe_lt (X := X) h hd hh h2 N
    obtain ⟨f6, R6, T6, rfl, -⟩ := h2
    refine pw_p (le_4 ⟨fun _ => ⟨_, hl _, ?_⟩, fun z => absurd rfl z⟩)
    rintro r h' ⟨rfl, A, B, R', T', rfl, hq, ht⟩
    refine pw_p (le_16 ⟨?_, F4_rq hq ht⟩)
    unfold v_left
    rw [if_pos h1, (tal_at ht).1]
theorem wF_no {p : Nat → Bool} {i : Nat} : ∀ n, (∀ k, k < n → p k = true → cq p k ≠ i) → wF p i n = -1 := by
  intro n
  induction n with
  | zero => intro _; rfl
  | succ n ih =>
    intro h
    unfold wF
    rw [ih fun k hk => h k (by omega), if_pos rfl, if_neg fun z => h n (Nat.lt_succ_self n) z.1 z.2]
theorem wF_hit {p : Nat → Bool} {i k : Nat} (hk : p k = true) (hc : cq p k = i) (hno : ∀ j, j < k → p j = true → cq p j ≠ i) (hb : k < 2147483648) : ∀ d, wF p i (k + 1 + d) = Int32.ofNat k := by
  have hne : ¬ Int32.ofNat k = -1 := by
    intro z
    have z2 := congrArg Int32.toInt z
    rw [io_ti hb, show ((-1 : Int32)).toInt = -1 from by decide] at z2
    omega
  intro d
  induction d with
  | zero =>
    show wF p i (k + 1) = _
    unfold wF
    rw [wF_no k hno, if_pos rfl, if_pos ⟨hk, hc⟩]
  | succ d ih =>
    show (if wF p i (k + 1 + d) = -1 then _ else wF p i (k + 1 + d)) = _
    rw [ih, if_neg hne]
/-- the number of one that is left -/
theorem pe_numberOfLeft {g : Nat → Int64} {n l i : Nat} (r1 : rowJ (R 1) T n g) (hl : l ≤ n) (hn : n ≤ 10000) (hb : 0 ≤ (I 2 2).toInt ∧ (I 2 2).toInt ≤ 2) (e63 : I 6 3 = Int32.ofNat l) (hx : x = Int32.ofNat i) (hi : i < 2147483648) : pe N X 110 [.ref 13, .int x] (ev_hp I J R T) (fun r h => r = some (.int (wF (fun k => lfB I J (g k)) i l)) ∧ h = ev_hp I J R T) := by
  subst hx
  have loop : ∀ (d k : Nat), k + d = l → (∀ j, j < k → lfB I J (g j) = true → cq (fun k => lfB I J (g k)) j ≠ i) → ∀ N, pw N X 110 4 [.ref 13, .int (Int32.ofNat i), .int (Int32.ofNat (cq (fun k => lfB I J (g k)) k)), .int (Int32.ofNat k)] [] (ev_hp I J R T) (fun r h => r = some (.int (wF (fun k => lfB I J (g k)) i l)) ∧ h = ev_hp I J R T) := by
    intro d
    induction d with
    | zero =>
      intro k hk hno N
      obtain rfl : k = l := by omega
      refine pw_p (nf_4 ⟨fun _ => ⟨by rw [wF_no k hno], rfl⟩, fun g => ?_⟩)
      rw [e63] at g
      exact absurd (Int32.le_refl _) g
    | succ d ih =>
      intro k hkd hno N
      have hk : k < l := by omega
      have ez : cq (fun k => lfB I J (g k)) (k + 1) = cq (fun k => lfB I J (g k)) k + (bif lfB I J (g k) then 1 else 0) := rfl
      have hle := cq_le (fun k => lfB I J (g k)) k
      refine pw_p (nf_4 ⟨fun g => ?_, fun _ => ⟨_, pe_isLeft r1 hn (by omega) hb rfl, ?_⟩⟩)
      · rw [e63, io_le (by omega) (by omega)] at g
        omega
      · rintro r h ⟨rfl, rfl⟩
        refine pw_p (nf_20 ⟨fun g2 => ?_, fun g2 => ⟨fun g3 => ?_, fun g3 => ?_⟩⟩)
        · have hf : lfB I J (g k) = false := by
            cases hz : lfB I J (g k)
            · rfl
            · rw [hz] at g2
              exact absurd g2 (by decide)
          have h5 := ih (k + 1) (by omega) (fun j hj hp => by
            by_cases hjk : j = k
            · rw [hjk, hf] at hp
              cases hp
            · exact hno j (by omega) hp) N
          rw [ez, hf] at h5
          rw [io_1]
          exact h5
        all_goals
          have hf : lfB I J (g k) = true := by
            cases hz : lfB I J (g k)
            · rw [hz] at g2
              exact absurd rfl g2
            · rfl
        · have h5 := ih (k + 1) (by omega) (fun j hj hp => by
            by_cases hjk : j = k
            · rw [hjk]
              intro z
              exact g3 (by rw [z])
            · exact hno j (by omega) hp) N
          rw [ez, hf] at h5
          rw [io_1, io_1]
          exact h5
        · have g3 := Classical.not_not.mp g3
          rw [io_eq (by omega) hi] at g3
          have h6 := wF_hit (p := fun k => lfB I J (g k)) hf g3 hno (by omega) (l - (k + 1))
          rw [show k + 1 + (l - (k + 1)) = l by omega] at h6
          exact ⟨by rw [h6], rfl⟩
  exact pe_of (pw_p (nf_0 (loop l 0 (by omega) (fun j hj => absurd hj (by omega)) _)))
theorem wF_c {p q : Nat → Bool} {i : Nat} : ∀ n, (∀ k, k < n → p k = q k) → wF p i n = wF q i n := by
  intro n
  induction n with
  | zero => intro _; rfl
  | succ n ih =>
    intro h
    unfold wF
    rw [ih fun k hk => h k (by omega), h n (Nat.lt_succ_self n), cq_c n fun k hk => h k (by omega)]
def v_which (I : Nat → Nat → Int32) (J : Nat → Nat → Int64) (x : Int32) : Int32 := if 0 ≤ x then (if sn I 0 * (sn I 1 * sn I 2) ≤ 10000 then wF (lkf I J) x.toInt.toNat (ls I J).length else -6) else -3
theorem pe_xwhich (h : rl3 I J R T) (hd : d4 I J R T) (hh : cx_hok cx_B0 I R T) : pe N X 54 [.ref 0, .int x] (ev_hp I J R T) (fun r h => r = some (.int (v_which I J x)) ∧ F4 h) := by
  refine pe_of (pw_p (xo_which ⟨fun hx => ⟨_, pe_tm h.1.1 hh h.1.2, ?_⟩, fun hx => ⟨?_, F4_tm hd⟩⟩))
  · rintro r h' (⟨h1, rfl, rfl⟩ | ⟨h1, rfl, h2⟩)
    · refine pw_p (wh_11 ⟨fun z => absurd z (by decide), fun _ => ⟨?_, F4_tm hd⟩⟩)
      unfold v_which
      rw [if_pos hx, if_neg (by omega)]
    · have hl := fun N => pe_rep (X := X) h hd hh h2 N
      obtain ⟨f6, R6, T6, rfl, -⟩ := h2
      refine pw_p (wh_11 ⟨fun _ => ⟨_, hl _, ?_⟩, fun z => absurd rfl z⟩)
      rintro r h' ⟨rfl, A, B, R', T', rfl, hq, q9, q14, q15, q16⟩
      have hq0 := hq
      obtain ⟨a1, a2, a3, a4, a5, a6, n, g1, g2, g3, r1, r2, r3, r4, r5, r6⟩ := hq
      have eA2 : A 2 = I 2 := a1 2 (by decide) (by decide) (by decide) (by decide) (by decide)
      have hlf : ∀ z, lfB A B z = lfB I J z := fun z => by
        unfold lfB
        rw [eA2, a4 8 (by decide) (by decide)]
      have hx0 : 0 ≤ x.toInt := by
        rw [Int32.le_iff_toInt_le, show (0 : Int32).toInt = 0 from by decide] at hx
        exact hx
      have hxl := Int32.toInt_lt x
      refine pw_p (wh_24 ⟨_, pe_numberOfLeft r1 r4 r5 (by rw [eA2]; exact b_lie hh.1) a2 (io_nat hx0) (by omega), ?_⟩)
      rintro r h' ⟨rfl, rfl⟩
      refine pw_p (wh_32 ⟨?_, A, B, R', T', rfl, rq_d4 hq0 fun z => ?_⟩)
      · unfold v_which
        rw [if_pos hx, if_pos h1]
        exact congrArg (fun q => some (Value.int q)) (wF_c _ fun k hk => by
          unfold lkf
          rw [hlf, ly_gd hk, (r6 k hk).1])
      · exact tal_b rfl rfl rfl rfl (by rw [q14]) q15 q16 (hd.2.2 (q9.symm.trans z))
  · unfold v_which
    rw [if_neg hx]
/-- there -/
def v_there (I : Nat → Nat → Int32) (J : Nat → Nat → Int64) (x : Int32) : Int32 := if ev_wi x 0 (I 1 6 - 1) = 0 then -2 else if sn I 0 * (sn I 1 * sn I 2) ≤ 10000 then Int32.ofNat (tS I J x.toInt.toNat) else -6
theorem b_16 (hB : cx_hB cx_B0 I) : ∃ n, I 1 6 = Int32.ofNat n ∧ 4 ≤ n ∧ n ≤ 36 := by
  have h := hB 1 6
  rw [show cx_B0 1 6 = (4, 36) from rfl] at h
  simp only at h
  exact ⟨(I 1 6).toInt.toNat, io_nat (by omega), by omega, by omega⟩
theorem pe_xthere (h : rl3 I J R T) (hd : d4 I J R T) (hh : cx_hok cx_B0 I R T) : pe N X 51 [.ref 0, .int x] (ev_hp I J R T) (fun r h => r = some (.int (v_there I J x)) ∧ F4 h) := by
  obtain ⟨n, en, -, hn⟩ := b_16 hh.1
  refine pe_of (pw_p (xo_there ⟨fun hx => ⟨_, pe_tm h.1.1 hh h.1.2, ?_⟩, fun hx => ⟨?_, F4_tm hd⟩⟩))
  · rintro r h' (⟨h1, rfl, rfl⟩ | ⟨h1, rfl, h2⟩)
    · refine pw_p (th_15 ⟨fun z => absurd z (by decide), fun _ => ⟨?_, F4_tm hd⟩⟩)
      unfold v_there
      rw [if_neg hx, if_neg (by omega)]
    · have hl := fun N => pe_lt (X := X) h hd hh h2 N
      obtain ⟨f6, R6, T6, rfl, -⟩ := h2
      refine pw_p (th_15 ⟨fun _ => ⟨_, hl _, ?_⟩, fun z => absurd rfl z⟩)
      rintro r h' ⟨rfl, A, B, R', T', rfl, hq, ht⟩
      refine pw_p (th_27 ⟨?_, F4_rq hq ht⟩)
      have hx2 := hx
      rw [en] at hx2
      obtain ⟨c, rfl, hc⟩ := wi_len (by omega) hx2
      unfold v_there
      rw [if_neg hx, if_pos h1, at_in (by omega) (by decide), ((tal_at ht).2 c (by omega)).1, io_ti (by omega), Int.toNat_natCast]
  · unfold v_there
    rw [if_pos (Classical.not_not.mp hx)]
def v_part (I : Nat → Nat → Int32) (J : Nat → Nat → Int64) (x y : Int32) : Int32 := if ev_wi x 0 (I 1 6 - 1) = 0 then -2 else if ev_wi y 0 2 = 0 then -3 else if sn I 0 * (sn I 1 * sn I 2) ≤ 10000 then ipN I J x.toInt.toNat y else -6
theorem pe_xpart (h : rl3 I J R T) (hd : d4 I J R T) (hh : cx_hok cx_B0 I R T) : pe N X 37 [.ref 0, .int x, .int y] (ev_hp I J R T) (fun r h => r = some (.int (v_part I J x y)) ∧ F4 h) := by
  obtain ⟨n, en, -, hn⟩ := b_16 hh.1
  refine pe_of (pw_p (xo_part ⟨fun hx => ⟨fun hy => ⟨_, pe_tm h.1.1 hh h.1.2, ?_⟩, fun hy => ⟨?_, F4_tm hd⟩⟩, fun hx => ⟨?_, F4_tm hd⟩⟩))
  · rintro r h' (⟨h1, rfl, rfl⟩ | ⟨h1, rfl, h2⟩)
    · refine pw_p (pa_27 ⟨fun z => absurd z (by decide), fun _ => ⟨?_, F4_tm hd⟩⟩)
      unfold v_part
      rw [if_neg hx, if_neg hy, if_neg (by omega)]
    · have hl := fun N => pe_lt (X := X) h hd hh h2 N
      obtain ⟨f6, R6, T6, rfl, -⟩ := h2
      refine pw_p (pa_27 ⟨fun _ => ⟨_, hl _, ?_⟩, fun z => absurd rfl z⟩)
      rintro r h' ⟨rfl, A, B, R', T', rfl, hq, ht⟩
      refine pw_p (pa_39 ⟨?_, F4_rq hq ht⟩)
      have hx2 := hx
      rw [en] at hx2
      obtain ⟨c, rfl, hc⟩ := wi_len (by omega) hx2
      unfold v_part
      rw [if_neg hx, if_neg hy, if_pos h1, ip_at ht (by omega), io_ti (by omega), Int.toNat_natCast]
  · unfold v_part
    rw [if_neg hx, if_pos (Classical.not_not.mp hy)]
  · unfold v_part
    rw [if_pos (Classical.not_not.mp hx)]
theorem pe_cellsWith {m : Nat} (hm : m ≤ 36) (hx : y = Int32.ofNat m) : pe N X 158 [.ref 14, .int x, .int y] (ev_hp I J R T) (fun r h => r = some (.long (scF (fun c => decide (I 15 c = x)) m)) ∧ h = ev_hp I J R T) := by
  subst hx
  have loop : ∀ (d c : Nat), c + d = m → ∀ N, pw N X 158 5 [.ref 14, .int x, .int (Int32.ofNat m), .long (scF (fun c => decide (I 15 c = x)) c), ez_fill, .int (Int32.ofNat c)] [] (ev_hp I J R T) (fun r h => r = some (.long (scF (fun c => decide (I 15 c = x)) m)) ∧ h = ev_hp I J R T) := by
    intro d
    induction d with
    | zero =>
      intro c hc N
      obtain rfl : c = m := by omega
      exact pw_p (cw0_5 ⟨fun _ => ⟨rfl, rfl⟩, fun g => absurd (Int32.le_refl _) g⟩)
    | succ d ih =>
      intro c hcd N
      have e : scF (fun c => decide (I 15 c = x)) (c + 1) = if decide (I 15 c = x) = true then scF (fun c => decide (I 15 c = x)) c ||| cell1 c else scF (fun c => decide (I 15 c = x)) c := rfl
      have h5 := ih (c + 1) (by omega) N
      rw [e] at h5
      refine pw_p (cw0_5 ?_)
      rw [at_in (by omega) (by decide), io_1]
      refine ⟨fun g => ?_, fun _ => ⟨fun g => ?_, fun g => ?_⟩⟩
      · rw [io_le (by omega) (by omega)] at g
        omega
      · rw [if_neg (by rw [decide_eq_false g]; decide)] at h5
        exact h5
      · rw [if_pos (decide_eq_true (Classical.not_not.mp g))] at h5
        exact h5
  exact pe_of (pw_p (cw0_0 (loop m 0 (by omega) _)))
theorem scF_c {p q : Nat → Bool} : ∀ n, (∀ k, k < n → p k = q k) → scF p n = scF q n := by
  intro n
  induction n with
  | zero => intro _; rfl
  | succ n ih =>
    intro h
    unfold scF
    rw [ih fun k hk => h k (by omega), h n (Nat.lt_succ_self n)]
def v_sure (I : Nat → Nat → Int32) (J : Nat → Nat → Int64) (x : Int32) : Int64 := if ev_wi x 0 1 = 0 then 18446744073709551613 else if sn I 0 * (sn I 1 * sn I 2) ≤ 10000 then scF (fun c => decide (Int32.ofNat (tS I J c) = if x = 0 then Int32.ofNat (tN I J) else 0)) (I 1 6).toInt.toNat else 18446744073709551610
theorem pe_xsure (h : rl3 I J R T) (hd : d4 I J R T) (hh : cx_hok cx_B0 I R T) : pe N X 48 [.ref 0, .int x] (ev_hp I J R T) (fun r h => r = some (.long (v_sure I J x)) ∧ F4 h) := by
  obtain ⟨n, en, -, hn⟩ := b_16 hh.1
  refine pe_of (pw_p (xo_sure ⟨fun hx => ⟨_, pe_tm h.1.1 hh h.1.2, ?_⟩, fun hx => ⟨?_, F4_tm hd⟩⟩))
  · rintro r h' (⟨h1, rfl, rfl⟩ | ⟨h1, rfl, h2⟩)
    · refine pw_p (su_17 ⟨fun z => absurd z (by decide), fun _ => ⟨?_, F4_tm hd⟩⟩)
      unfold v_sure
      rw [if_neg hx, if_neg (by omega)]
    · have hl := fun N => pe_lt (X := X) h hd hh h2 N
      obtain ⟨f6, R6, T6, rfl, -⟩ := h2
      refine pw_p (su_17 ⟨fun _ => ⟨_, hl _, ?_⟩, fun z => absurd rfl z⟩)
      rintro r h' ⟨rfl, A, B, R', T', rfl, hq, ht⟩
      have e16 : A 1 6 = Int32.ofNat n := by rw [hq.1 1 (by decide) (by decide) (by decide) (by decide) (by decide)]; exact en
      have fin : ∀ v, v = (if x = 0 then Int32.ofNat (tN I J) else 0) → (some (.long (scF (fun c => decide (A 15 c = v)) n)) : Option Value) = some (.long (v_sure I J x)) := by
        rintro v rfl
        unfold v_sure
        rw [if_neg hx, if_pos h1, en, io_ti (by omega), Int.toNat_natCast]
        exact congrArg (fun q => some (Value.long q)) (scF_c n fun c hc => by rw [((tal_at ht).2 c (by omega)).1])
      refine pw_p (su_28 ⟨fun g => ⟨_, pe_cellsWith hn e16, ?_⟩, fun g => ⟨_, pe_cellsWith hn e16, ?_⟩⟩)
      · rintro r h' ⟨rfl, rfl⟩
        exact pw_p (su_52 ⟨fin _ (if_neg g).symm, F4_rq hq ht⟩)
      · rintro r h' ⟨rfl, rfl⟩
        exact pw_p (su_52 ⟨fin _ ((tal_at ht).1.trans (if_pos (Classical.not_not.mp g)).symm), F4_rq hq ht⟩)
  · unfold v_sure
    rw [if_pos (Classical.not_not.mp hx)]
theorem pe_bestCell {A : Nat → Nat → Int32} (ht : tal I J (ls I J) (nca I) A) {B : Nat → Nat → Int64} {m : Nat} (h0 : 0 < m) (hm : m ≤ 36) (hx : y = Int32.ofNat m) : pe N X 157 [.ref 14, .int y] (ev_hp A B R T) (fun r h => r = some (.int (Int32.ofNat (bF (gtN I J) m))) ∧ h = ev_hp A B R T) := by
  subst hx
  have loop : ∀ (d c : Nat), c + d = m → 0 < c → ∀ N, pw N X 157 4 [.ref 14, .int (Int32.ofNat m), .int (Int32.ofNat (bF (gtN I J) c)), .int (Int32.ofNat c)] [] (ev_hp A B R T) (fun r h => r = some (.int (Int32.ofNat (bF (gtN I J) m))) ∧ h = ev_hp A B R T) := by
    intro d
    induction d with
    | zero =>
      intro c hc _ N
      obtain rfl : c = m := by omega
      exact pw_p (be_4 ⟨fun _ => ⟨rfl, rfl⟩, fun g => absurd (Int32.le_refl _) g⟩)
    | succ d ih =>
      intro c hcd hc0 N
      have hb := bF_lt (gtN I J) c hc0
      have e : bF (gtN I J) (c + 1) = if gtN I J c < gtN I J (bF (gtN I J) c) then c else bF (gtN I J) c := rfl
      have h5 := ih (c + 1) (by omega) (by omega) N
      rw [e] at h5
      refine pw_p (be_4 ?_)
      rw [gt_at ht (by omega), gt_at ht (by omega), io_1]
      refine ⟨fun g => ?_, fun _ => ⟨fun g => ?_, fun g => ?_⟩⟩
      · rw [io_le (by omega) (by omega)] at g
        omega
      · rw [if_neg (fun z => by
          rw [Int32.le_iff_toInt_le] at g
          rw [Int32.lt_iff_toInt_lt] at z
          omega)] at h5
        exact h5
      · rw [if_pos (by
          rw [Int32.le_iff_toInt_le] at g
          rw [Int32.lt_iff_toInt_lt]
          omega)] at h5
        exact h5
  refine pe_of (pw_p (be_0 ?_))
  have e1 : bF (gtN I J) 1 = 0 := by
    show (if gtN I J 0 < gtN I J 0 then 0 else 0) = 0
    split <;> rfl
  have h5 := loop (m - 1) 1 (by omega) (by omega) N
  rw [e1] at h5
  exact h5
def v_best (I : Nat → Nat → Int32) (J : Nat → Nat → Int64) (x : Int32) : Int32 := if ev_wi x 0 1 = 0 then -3 else if sn I 0 * (sn I 1 * sn I 2) ≤ 10000 then (if Int32.ofNat (tN I J) = 0 then -1 else if x = 0 then Int32.ofNat (bF (gtN I J) (I 1 6).toInt.toNat) else gtN I J (bF (gtN I J) (I 1 6).toInt.toNat)) else -6
theorem pe_xbest (h : rl3 I J R T) (hd : d4 I J R T) (hh : cx_hok cx_B0 I R T) : pe N X 6 [.ref 0, .int x] (ev_hp I J R T) (fun r h => r = some (.int (v_best I J x)) ∧ F4 h) := by
  obtain ⟨n, en, hn4, hn⟩ := b_16 hh.1
  refine pe_of (pw_p (xo_best ⟨fun hx => ⟨_, pe_tm h.1.1 hh h.1.2, ?_⟩, fun hx => ⟨?_, F4_tm hd⟩⟩))
  · rintro r h' (⟨h1, rfl, rfl⟩ | ⟨h1, rfl, h2⟩)
    · refine pw_p (bs_16 ⟨fun z => absurd z (by decide), fun _ => ⟨?_, F4_tm hd⟩⟩)
      unfold v_best
      rw [if_neg hx, if_neg (by omega)]
    · have hl := fun N => pe_lt (X := X) h hd hh h2 N
      obtain ⟨f6, R6, T6, rfl, -⟩ := h2
      refine pw_p (bs_16 ⟨fun _ => ⟨_, hl _, ?_⟩, fun z => absurd rfl z⟩)
      rintro r h' ⟨rfl, A, B, R', T', rfl, hq, ht⟩
      have e16 : A 1 6 = Int32.ofNat n := by rw [hq.1 1 (by decide) (by decide) (by decide) (by decide) (by decide)]; exact en
      have hb := bF_lt (gtN I J) n (by omega)
      refine pw_p (bs_26 ?_)
      rw [(tal_at ht).1]
      refine ⟨fun g => ⟨_, pe_bestCell ht (by omega) hn e16, ?_⟩, fun g => ⟨?_, F4_rq hq ht⟩⟩
      · rintro r h' ⟨rfl, rfl⟩
        refine pw_p (bs_47 ?_)
        rw [gt_at ht (by omega)]
        refine ⟨fun g2 => ⟨?_, F4_rq hq ht⟩, fun g2 => ⟨?_, F4_rq hq ht⟩⟩
        · unfold v_best
          rw [if_neg hx, if_pos h1, if_neg g, if_neg g2, en, io_ti (by omega), Int.toNat_natCast]
        · unfold v_best
          rw [if_neg hx, if_pos h1, if_neg g, if_pos (Classical.not_not.mp g2), en, io_ti (by omega), Int.toNat_natCast]
      · unfold v_best
        rw [if_neg hx, if_pos h1, if_pos (Classical.not_not.mp g)]
  · unfold v_best
    rw [if_pos (Classical.not_not.mp hx)]
end
