/-! The answers of fitting, both sides. -/
section
variable {N : Nat} {X : ez_X} {I : Nat → Nat → Int32} {J : Nat → Nat → Int64} {R : Nat → Nat} {T : List ez_C} {Q : pw_Q} {cz kz : Nat}
set_option maxRecDepth 100000 in
theorem fo_r0  : ∀ G : ez_F, fx_up X 2 G 151 0 [.ref 1] [] (ev_hp I J R T) cz kz = G 151 4 [.ref 1] [.int (I 1 4)] (ev_hp I J R T) cz kz := by
  intro G
  rfl
set_option maxRecDepth 100000 in
theorem fo_r1 {a0 : Int32} : ∀ G : ez_F, fx_up X 2 G 151 4 [.ref 1] [.int a0] (ev_hp I J R T) cz kz = G 151 8 [.ref 1] [.int (I 1 3), .int a0] (ev_hp I J R T) cz kz := by
  intro G
  rfl
set_option maxRecDepth 100000 in
theorem fo_r2 {a0 : Int32} {a1 : Int32} : ∀ G : ez_F, fx_up X 2 G 151 8 [.ref 1] [.int a0, .int a1] (ev_hp I J R T) cz kz = some (some (.int (a1 + a0)), (ev_hp I J R T), cz, kz) := by
  intro G
  rfl
theorem fo_0 
    (H : Q (some (.int ((I 1 4) + (I 1 3)))) (ev_hp I J R T)) : pw (N + 1) X 151 0 [.ref 1] [] (ev_hp I J R T) Q := by
  refine pw_seg (by decide) (fun _ _ => fo_r0) ?_
  refine pw_p (pw_seg (by decide) (fun _ _ => fo_r1) ?_)
  exact pw_p (pw_ret (by decide) (fun _ _ => fo_r2) H)
end
theorem pe_rimTotal {N : Nat} {X : ez_X} {I : Nat → Nat → Int32} {J : Nat → Nat → Int64} {R : Nat → Nat} {T : List ez_C} : pe N X 151 [.ref 1] (ev_hp I J R T) (fun r h => r = some (.int (I 1 4 + I 1 3)) ∧ h = ev_hp I J R T) := pe_of (pw_p (fo_0 ⟨rfl, rfl⟩))
section
variable {N : Nat} {X : ez_X} {I : Nat → Nat → Int32} {J : Nat → Nat → Int64} {R : Nat → Nat} {T : List ez_C} {Q : pw_Q} {cz kz : Nat}
set_option maxRecDepth 100000 in
theorem fp_r0 {a0 : Int64} : ∀ G : ez_F, fx_up X 3 G 75 0 [.ref 32, .long a0, ez_fill] [] (ev_hp I J R T) cz kz = ev_C G 151 [.ref 1] (ev_hp I J R T) fun r h1 c1 k1 => G 75 7 [.ref 32, .long a0, ez_fill] (r.toList ++ []) h1 (cz + c1) (kz + k1) := by
  intro G
  rfl
set_option maxRecDepth 100000 in
theorem fp_r1 {a0 : Int64} {a1 : Int32} : ∀ G : ez_F, fx_up X 3 G 75 7 [.ref 32, .long a0, ez_fill] [.int a1] (ev_hp I J R T) cz kz = G 75 11 [.ref 32, .long a0, ez_fill, .int a1, .int (0 : Int32)] [] (ev_hp I J R T) cz kz := by
  intro G
  rfl
theorem fa_0 {u : Int64}
    (H : pw N X 75 11 [.ref 32, .long u, ez_fill, .int ((I 1 4) + (I 1 3)), .int (0 : Int32)] [] (ev_hp I J R T) Q) : pw (N + 1) X 75 0 [.ref 32, .long u, ez_fill] [] (ev_hp I J R T) Q := by
  refine pw_callp (by decide) (fun _ _ => fp_r0) (pe_rimTotal) ?_
  refine pw_p (pw_seg (by decide) (fun _ _ => fp_r1) ?_)
  exact H
set_option maxRecDepth 100000 in
theorem fp_r2 {a0 : Int64} {a1 : Int32} {a2 : Int32} : ∀ G : ez_F, fx_up X 3 G 75 11 [.ref 32, .long a0, ez_fill, .int a1, .int a2] [] (ev_hp I J R T) cz kz = bif decide (a1 ≤ a2) then G 75 54 [.ref 32, .long a0, ez_fill, .int a1, .int a2] [] (ev_hp I J R T) cz kz else G 75 17 [.ref 32, .long a0, ez_fill, .int a1, .int a2] [] (ev_hp I J R T) cz kz := by
  intro G
  rfl
set_option maxRecDepth 100000 in
theorem fp_r3 {a0 : Int64} {a1 : Int32} {a2 : Int32} : ∀ G : ez_F, fx_up X 1 G 75 54 [.ref 32, .long a0, ez_fill, .int a1, .int a2] [] (ev_hp I J R T) cz kz = G 75 55 [.ref 32, .long a0, ez_fill, .int a1, .int a2] [.int (1 : Int32)] (ev_hp I J R T) cz kz := by
  intro G
  rfl
set_option maxRecDepth 100000 in
theorem fp_r4 {a0 : Int64} {a1 : Int32} {a2 : Int32} : ∀ G : ez_F, fx_up X 4 G 75 17 [.ref 32, .long a0, ez_fill, .int a1, .int a2] [] (ev_hp I J R T) cz kz = ev_C G 3 [.ref 33, .int a2] (ev_hp I J R T) fun r h1 c1 k1 => G 75 26 [.ref 32, .long a0, ez_fill, .int a1, .int a2] (r.toList ++ []) h1 (cz + c1) (kz + k1) := by
  intro G
  rfl
set_option maxRecDepth 100000 in
theorem fp_r5 {a0 : Int64} {a1 : Int32} {a2 : Int32} {a3 : Int32} : ∀ G : ez_F, fx_up X 4 G 75 26 [.ref 32, .long a0, ez_fill, .int a1, .int a2] [.int a3] (ev_hp I J R T) cz kz = bif decide (a3 = (-1 : Int32)) then G 75 48 [.ref 32, .long a0, ez_fill, .int a1, .int a2, .int a3] [] (ev_hp I J R T) cz kz else G 75 34 [.ref 32, .long a0, ez_fill, .int a1, .int a2, .int a3] [] (ev_hp I J R T) cz kz := by
  intro G
  rfl
set_option maxRecDepth 100000 in
theorem fp_r6 {a0 : Int64} {a1 : Int32} {a2 : Int32} {a3 : Int32} : ∀ G : ez_F, fx_up X 2 G 75 48 [.ref 32, .long a0, ez_fill, .int a1, .int a2, .int a3] [] (ev_hp I J R T) cz kz = G 75 11 [.ref 32, .long a0, ez_fill, .int a1, .int (a2 + (1 : Int32)), .int a3] [] (ev_hp I J R T) cz kz := by
  intro G
  rfl
set_option maxRecDepth 100000 in
theorem fp_r7 {a0 : Int64} {a1 : Int32} {a2 : Int32} {a3 : Int32} : ∀ G : ez_F, fx_up X 5 G 75 34 [.ref 32, .long a0, ez_fill, .int a1, .int a2, .int a3] [] (ev_hp I J R T) cz kz = ev_C G 73 [.ref 32, .long a0, .int a2] (ev_hp I J R T) fun r h1 c1 k1 => G 75 43 [.ref 32, .long a0, ez_fill, .int a1, .int a2, .int a3] (r.toList ++ [.int a3]) h1 (cz + c1) (kz + k1) := by
  intro G
  rfl
theorem fa_11 {n x : Int32} {u : Int64}
    (H : ((n ≤ x → ((1 : Int32) = 0 ∨ (1 : Int32) = 1 → Q (some (.int (1 : Int32))) (ev_hp I J R T))) ∧ (¬ (n ≤ x) → (((ev_at 12 (I 33) x) = (-1 : Int32) → pw N X 75 11 [.ref 32, .long u, ez_fill, .int n, .int (x + (1 : Int32))] [] (ev_hp I J R T) Q) ∧ (¬ ((ev_at 12 (I 33) x) = (-1 : Int32)) → (∃ Q1 : pw_Q, pe N X 73 [.ref 32, .long u, .int x] (ev_hp I J R T) Q1 ∧ ∀ (r : Option Value) (h1 : ez_H), Q1 r h1 → pw N X 75 43 [.ref 32, .long u, ez_fill, .int n, .int x, .int (ev_at 12 (I 33) x)] (r.toList ++ [.int (ev_at 12 (I 33) x)]) h1 Q)))))) : pw (N + 1) X 75 11 [.ref 32, .long u, ez_fill, .int n, .int x] [] (ev_hp I J R T) Q := by
  refine pw_if (by decide) (fun _ _ => fp_r2) (fun w1 => ?_) (fun w1 => ?_)
  · have h1 := H.1 w1
    refine pw_p (pw_seg (by decide) (fun _ _ => fp_r3) ?_)
    exact pw_p (pw_zret (by rfl) h1)
  · have h1 := H.2 w1
    refine pw_p (pw_callp (by decide) (fun _ _ => fp_r4) (pe_at (show cx_Ds[33]? = some (0, 12, []) from rfl) (by decide)) ?_)
    refine pw_p (pw_if (by decide) (fun _ _ => fp_r5) (fun w2 => ?_) (fun w2 => ?_))
    · have h2 := h1.1 w2
      refine pw_p (pw_seg (by decide) (fun _ _ => fp_r6) ?_)
      refine pw_cutl (by rfl) ?_
      exact h2
    · have h2 := h1.2 w2
      obtain ⟨Q1, hc, hk⟩ := h2
      exact pw_p (pw_call (by decide) (fun _ _ => fp_r7) hc hk)
set_option maxRecDepth 100000 in
theorem fp_r8 {a0 : Int64} {a1 : Int32} {a2 : Int32} {a3 : Int32} {a4 : Int32} {a5 : Int32} : ∀ G : ez_F, fx_up X 1 G 75 43 [.ref 32, .long a0, ez_fill, .int a1, .int a2, .int a3] [.int a4, .int a5] (ev_hp I J R T) cz kz = bif decide (a5 = a4) then G 75 48 [.ref 32, .long a0, ez_fill, .int a1, .int a2, .int a3] [] (ev_hp I J R T) cz kz else G 75 46 [.ref 32, .long a0, ez_fill, .int a1, .int a2, .int a3] [] (ev_hp I J R T) cz kz := by
  intro G
  rfl
set_option maxRecDepth 100000 in
theorem fp_r9 {a0 : Int64} {a1 : Int32} {a2 : Int32} {a3 : Int32} : ∀ G : ez_F, fx_up X 1 G 75 46 [.ref 32, .long a0, ez_fill, .int a1, .int a2, .int a3] [] (ev_hp I J R T) cz kz = G 75 47 [.ref 32, .long a0, ez_fill, .int a1, .int a2, .int a3] [.int (0 : Int32)] (ev_hp I J R T) cz kz := by
  intro G
  rfl
theorem fa_43 {n x d v : Int32} {u : Int64}
    (H : ((d = v → pw N X 75 11 [.ref 32, .long u, ez_fill, .int n, .int (x + (1 : Int32))] [] (ev_hp I J R T) Q) ∧ (¬ (d = v) → ((0 : Int32) = 0 ∨ (0 : Int32) = 1 → Q (some (.int (0 : Int32))) (ev_hp I J R T))))) : pw (N + 1) X 75 43 [.ref 32, .long u, ez_fill, .int n, .int x, .int d] [.int v, .int d] (ev_hp I J R T) Q := by
  refine pw_if (by decide) (fun _ _ => fp_r8) (fun w1 => ?_) (fun w1 => ?_)
  · have h1 := H.1 w1
    refine pw_p (pw_seg (by decide) (fun _ _ => fp_r6) ?_)
    refine pw_cutl (by rfl) ?_
    exact h1
  · have h1 := H.2 w1
    refine pw_p (pw_seg (by decide) (fun _ _ => fp_r9) ?_)
    exact pw_p (pw_zret (by rfl) h1)
set_option maxRecDepth 100000 in
theorem fp_r10  : ∀ G : ez_F, fx_up X 3 G 76 0 [.ref 32] [] (ev_hp I J R T) cz kz = G 76 7 [.ref 32] [.int (I 6 3)] (ev_hp I J R T) cz kz := by
  intro G
  rfl
set_option maxRecDepth 100000 in
theorem fp_r11 {a0 : Int32} : ∀ G : ez_F, fx_up X 5 G 76 7 [.ref 32] [.int a0] (ev_hp I J R T) cz kz = G 76 12 [.ref 32, .int a0, .int (0 : Int32), .int (0 : Int32)] [] (ev_hp I J R T) cz kz := by
  intro G
  rfl
theorem fb_0 
    (H : pw N X 76 12 [.ref 32, .int (I 6 3), .int (0 : Int32), .int (0 : Int32)] [] (ev_hp I J R T) Q) : pw (N + 1) X 76 0 [.ref 32] [] (ev_hp I J R T) Q := by
  refine pw_seg (by decide) (fun _ _ => fp_r10) ?_
  refine pw_p (pw_seg (by decide) (fun _ _ => fp_r11) ?_)
  exact H
set_option maxRecDepth 100000 in
theorem fp_r12 {a0 : Int32} {a1 : Int32} {a2 : Int32} : ∀ G : ez_F, fx_up X 3 G 76 12 [.ref 32, .int a0, .int a1, .int a2] [] (ev_hp I J R T) cz kz = bif decide (a0 ≤ a2) then G 76 41 [.ref 32, .int a0, .int a1, .int a2] [] (ev_hp I J R T) cz kz else G 76 17 [.ref 32, .int a0, .int a1, .int a2] [] (ev_hp I J R T) cz kz := by
  intro G
  rfl
set_option maxRecDepth 100000 in
theorem fp_r13 {a0 : Int32} {a1 : Int32} {a2 : Int32} : ∀ G : ez_F, fx_up X 2 G 76 41 [.ref 32, .int a0, .int a1, .int a2] [] (ev_hp I J R T) cz kz = some (some (.int a1), (ev_hp I J R T), cz, kz) := by
  intro G
  rfl
set_option maxRecDepth 100000 in
theorem fp_r14 {a0 : Int32} {a1 : Int32} {a2 : Int32} : ∀ G : ez_F, fx_up X 5 G 76 17 [.ref 32, .int a0, .int a1, .int a2] [] (ev_hp I J R T) cz kz = ev_C G 137 [.ref 6, .int a2] (ev_hp I J R T) fun r h1 c1 k1 => G 76 26 [.ref 32, .int a0, .int a1, .int a2] (r.toList ++ [.ref 32]) h1 (cz + c1) (kz + k1) := by
  intro G
  rfl
theorem fb_12 {t n k : Int32}
    (H : ((t ≤ k → Q (some (.int n)) (ev_hp I J R T)) ∧ (¬ (t ≤ k) → (∃ Q1 : pw_Q, pe N X 137 [.ref 6, .int k] (ev_hp I J R T) Q1 ∧ ∀ (r : Option Value) (h1 : ez_H), Q1 r h1 → pw N X 76 26 [.ref 32, .int t, .int n, .int k] (r.toList ++ [.ref 32]) h1 Q)))) : pw (N + 1) X 76 12 [.ref 32, .int t, .int n, .int k] [] (ev_hp I J R T) Q := by
  refine pw_if (by decide) (fun _ _ => fp_r12) (fun w1 => ?_) (fun w1 => ?_)
  · have h1 := H.1 w1
    exact pw_p (pw_ret (by decide) (fun _ _ => fp_r13) h1)
  · have h1 := H.2 w1
    obtain ⟨Q1, hc, hk⟩ := h1
    exact pw_p (pw_call (by decide) (fun _ _ => fp_r14) hc hk)
set_option maxRecDepth 100000 in
theorem fp_r15 {a0 : Int32} {a1 : Int32} {a2 : Int32} {a3 : Int64} : ∀ G : ez_F, fx_up X 1 G 76 26 [.ref 32, .int a0, .int a1, .int a2] [.long a3, .ref 32] (ev_hp I J R T) cz kz = ev_C G 75 [.ref 32, .long a3] (ev_hp I J R T) fun r h1 c1 k1 => G 76 29 [.ref 32, .int a0, .int a1, .int a2] (r.toList ++ []) h1 (cz + c1) (kz + k1) := by
  intro G
  rfl
theorem fb_26 {t n k : Int32} {u : Int64}
    (H : (∃ Q1 : pw_Q, pe N X 75 [.ref 32, .long u] (ev_hp I J R T) Q1 ∧ ∀ (r : Option Value) (h1 : ez_H), Q1 r h1 → pw N X 76 29 [.ref 32, .int t, .int n, .int k] (r.toList ++ []) h1 Q)) : pw (N + 1) X 76 26 [.ref 32, .int t, .int n, .int k] [.long u, .ref 32] (ev_hp I J R T) Q := by
  obtain ⟨Q1, hc, hk⟩ := H
  exact pw_call (by decide) (fun _ _ => fp_r15) hc hk
set_option maxRecDepth 100000 in
theorem fp_r16 {a0 : Int32} {a1 : Int32} {a2 : Int32} {a3 : Int32} : ∀ G : ez_F, fx_up X 1 G 76 29 [.ref 32, .int a0, .int a1, .int a2] [.int a3] (ev_hp I J R T) cz kz = bif decide (a3 = (0 : Int32)) then G 76 35 [.ref 32, .int a0, .int a1, .int a2] [] (ev_hp I J R T) cz kz else G 76 32 [.ref 32, .int a0, .int a1, .int a2] [] (ev_hp I J R T) cz kz := by
  intro G
  rfl
set_option maxRecDepth 100000 in
theorem fp_r17 {a0 : Int32} {a1 : Int32} {a2 : Int32} : ∀ G : ez_F, fx_up X 2 G 76 35 [.ref 32, .int a0, .int a1, .int a2] [] (ev_hp I J R T) cz kz = G 76 12 [.ref 32, .int a0, .int a1, .int (a2 + (1 : Int32))] [] (ev_hp I J R T) cz kz := by
  intro G
  rfl
set_option maxRecDepth 100000 in
theorem fp_r18 {a0 : Int32} {a1 : Int32} {a2 : Int32} : ∀ G : ez_F, fx_up X 3 G 76 32 [.ref 32, .int a0, .int a1, .int a2] [] (ev_hp I J R T) cz kz = G 76 12 [.ref 32, .int a0, .int (a1 + (1 : Int32)), .int (a2 + (1 : Int32))] [] (ev_hp I J R T) cz kz := by
  intro G
  rfl
theorem fb_29 {t n k v : Int32}
    (H : ((v = (0 : Int32) → pw N X 76 12 [.ref 32, .int t, .int n, .int (k + (1 : Int32))] [] (ev_hp I J R T) Q) ∧ (¬ (v = (0 : Int32)) → pw N X 76 12 [.ref 32, .int t, .int (n + (1 : Int32)), .int (k + (1 : Int32))] [] (ev_hp I J R T) Q))) : pw (N + 1) X 76 29 [.ref 32, .int t, .int n, .int k] [.int v] (ev_hp I J R T) Q := by
  refine pw_if (by decide) (fun _ _ => fp_r16) (fun w1 => ?_) (fun w1 => ?_)
  · have h1 := H.1 w1
    refine pw_p (pw_seg (by decide) (fun _ _ => fp_r17) ?_)
    exact h1
  · have h1 := H.2 w1
    refine pw_p (pw_seg (by decide) (fun _ _ => fp_r18) ?_)
    exact h1
set_option maxRecDepth 100000 in
theorem fp_r19 {a0 : Int32} : ∀ G : ez_F, fx_up X 1 G 17 4 [.ref 0] [.int a0] (ev_hp I J R T) cz kz = bif decide (a0 = (0 : Int32)) then G 17 12 [.ref 0] [] (ev_hp I J R T) cz kz else G 17 7 [.ref 0] [] (ev_hp I J R T) cz kz := by
  intro G
  rfl
set_option maxRecDepth 100000 in
theorem fp_r20  : ∀ G : ez_F, fx_up X 3 G 17 12 [.ref 0] [] (ev_hp I J R T) cz kz = ev_C G 76 [.ref 32] (ev_hp I J R T) fun r h1 c1 k1 => G 17 19 [.ref 0] (r.toList ++ []) h1 (cz + c1) (kz + k1) := by
  intro G
  rfl
set_option maxRecDepth 100000 in
theorem fp_r21  : ∀ G : ez_F, fx_up X 2 G 17 7 [.ref 0] [] (ev_hp I J R T) cz kz = G 17 19 [.ref 0] [.int (-6 : Int32)] (ev_hp I J R T) cz kz := by
  intro G
  rfl
theorem fc_4 {v : Int32}
    (H : ((v = (0 : Int32) → (∃ Q1 : pw_Q, pe N X 76 [.ref 32] (ev_hp I J R T) Q1 ∧ ∀ (r : Option Value) (h1 : ez_H), Q1 r h1 → pw N X 17 19 [.ref 0] (r.toList ++ []) h1 Q)) ∧ (¬ (v = (0 : Int32)) → pw N X 17 19 [.ref 0] [.int (-6 : Int32)] (ev_hp I J R T) Q))) : pw (N + 1) X 17 4 [.ref 0] [.int v] (ev_hp I J R T) Q := by
  refine pw_if (by decide) (fun _ _ => fp_r19) (fun w1 => ?_) (fun w1 => ?_)
  · have h1 := H.1 w1
    obtain ⟨Q1, hc, hk⟩ := h1
    exact pw_p (pw_call (by decide) (fun _ _ => fp_r20) hc hk)
  · have h1 := H.2 w1
    refine pw_p (pw_seg (by decide) (fun _ _ => fp_r21) ?_)
    exact h1
set_option maxRecDepth 100000 in
theorem fp_r22 {a0 : Int32} : ∀ G : ez_F, fx_up X 1 G 17 19 [.ref 0] [.int a0] (ev_hp I J R T) cz kz = some (some (.int a0), (ev_hp I J R T), cz, kz) := by
  intro G
  rfl
theorem fc_19 {v : Int32}
    (H : Q (some (.int v)) (ev_hp I J R T)) : pw (N + 1) X 17 19 [.ref 0] [.int v] (ev_hp I J R T) Q := by
  exact pw_ret (by decide) (fun _ _ => fp_r22) H
set_option maxRecDepth 100000 in
theorem fp_r23  : ∀ G : ez_F, fx_up X 2 G 191 0 [.ref 35] [] (ev_hp I J R T) cz kz = ev_C G 167 [.ref 35] (ev_hp I J R T) fun r h1 c1 k1 => G 191 4 [.ref 35] (r.toList ++ []) h1 (cz + c1) (kz + k1) := by
  intro G
  rfl
theorem fm_0 
    (H : (∃ Q1 : pw_Q, pe N X 167 [.ref 35] (ev_hp I J R T) Q1 ∧ ∀ (r : Option Value) (h1 : ez_H), Q1 r h1 → pw N X 191 4 [.ref 35] (r.toList ++ []) h1 Q)) : pw (N + 1) X 191 0 [.ref 35] [] (ev_hp I J R T) Q := by
  obtain ⟨Q1, hc, hk⟩ := H
  exact pw_call (by decide) (fun _ _ => fp_r23) hc hk
set_option maxRecDepth 100000 in
theorem fp_r24 {a0 : Int32} : ∀ G : ez_F, fx_up X 1 G 191 4 [.ref 35] [.int a0] (ev_hp I J R T) cz kz = bif decide (¬ a0 = (0 : Int32)) then G 191 10 [.ref 35] [] (ev_hp I J R T) cz kz else G 191 7 [.ref 35] [] (ev_hp I J R T) cz kz := by
  intro G
  rfl
set_option maxRecDepth 100000 in
theorem fp_r25  : ∀ G : ez_F, fx_up X 4 G 191 10 [.ref 35] [] (ev_hp I J R T) cz kz = G 191 14 [.ref 35, .int (0 : Int32), .int (0 : Int32)] [] (ev_hp I J R T) cz kz := by
  intro G
  rfl
set_option maxRecDepth 100000 in
theorem fp_r26  : ∀ G : ez_F, fx_up X 2 G 191 7 [.ref 35] [] (ev_hp I J R T) cz kz = some (some (.int (-6 : Int32)), (ev_hp I J R T), cz, kz) := by
  intro G
  rfl
theorem fm_4 {v : Int32}
    (H : ((¬ v = (0 : Int32) → pw N X 191 14 [.ref 35, .int (0 : Int32), .int (0 : Int32)] [] (ev_hp I J R T) Q) ∧ (¬ (¬ v = (0 : Int32)) → Q (some (.int (-6 : Int32))) (ev_hp I J R T)))) : pw (N + 1) X 191 4 [.ref 35] [.int v] (ev_hp I J R T) Q := by
  refine pw_if (by decide) (fun _ _ => fp_r24) (fun w1 => ?_) (fun w1 => ?_)
  · have h1 := H.1 w1
    refine pw_p (pw_seg (by decide) (fun _ _ => fp_r25) ?_)
    exact h1
  · have h1 := H.2 w1
    exact pw_p (pw_ret (by decide) (fun _ _ => fp_r26) h1)
set_option maxRecDepth 100000 in
theorem fp_r27 {a0 : Int32} {a1 : Int32} : ∀ G : ez_F, fx_up X 3 G 191 14 [.ref 35, .int a0, .int a1] [] (ev_hp I J R T) cz kz = G 191 19 [.ref 35, .int a0, .int a1] [.int (I 35 14), .int a1] (ev_hp I J R T) cz kz := by
  intro G
  rfl
set_option maxRecDepth 100000 in
theorem fp_r28 {a0 : Int32} {a1 : Int32} {a2 : Int32} {a3 : Int32} : ∀ G : ez_F, fx_up X 1 G 191 19 [.ref 35, .int a0, .int a1] [.int a2, .int a3] (ev_hp I J R T) cz kz = bif decide (a2 ≤ a3) then G 191 113 [.ref 35, .int a0, .int a1] [] (ev_hp I J R T) cz kz else G 191 22 [.ref 35, .int a0, .int a1] [] (ev_hp I J R T) cz kz := by
  intro G
  rfl
set_option maxRecDepth 100000 in
theorem fp_r29 {a0 : Int32} {a1 : Int32} : ∀ G : ez_F, fx_up X 2 G 191 113 [.ref 35, .int a0, .int a1] [] (ev_hp I J R T) cz kz = some (some (.int a0), (ev_hp I J R T), cz, kz) := by
  intro G
  rfl
set_option maxRecDepth 100000 in
theorem fp_r30 {a0 : Int32} {a1 : Int32} : ∀ G : ez_F, fx_up X 3 G 191 22 [.ref 35, .int a0, .int a1] [] (ev_hp I J R T) cz kz = ev_C G 180 [.ref 35, .int a1] (ev_hp I J R T) fun r h1 c1 k1 => G 191 27 [.ref 35, .int a0, .int a1] (r.toList ++ []) h1 (cz + c1) (kz + k1) := by
  intro G
  rfl
theorem fm_14 {n k : Int32}
    (H : (((I 35 14) ≤ k → Q (some (.int n)) (ev_hp I J R T)) ∧ (¬ ((I 35 14) ≤ k) → (∃ Q1 : pw_Q, pe N X 180 [.ref 35, .int k] (ev_hp I J R T) Q1 ∧ ∀ (r : Option Value) (h1 : ez_H), Q1 r h1 → pw N X 191 27 [.ref 35, .int n, .int k] (r.toList ++ []) h1 Q)))) : pw (N + 1) X 191 14 [.ref 35, .int n, .int k] [] (ev_hp I J R T) Q := by
  refine pw_seg (by decide) (fun _ _ => fp_r27) ?_
  refine pw_p (pw_if (by decide) (fun _ _ => fp_r28) (fun w1 => ?_) (fun w1 => ?_))
  · have h1 := H.1 w1
    exact pw_p (pw_ret (by decide) (fun _ _ => fp_r29) h1)
  · have h1 := H.2 w1
    obtain ⟨Q1, hc, hk⟩ := h1
    exact pw_p (pw_call (by decide) (fun _ _ => fp_r30) hc hk)
set_option maxRecDepth 100000 in
theorem fp_r31 {a0 : Int32} {a1 : Int32} {a2 : Int64} : ∀ G : ez_F, fx_up X 5 G 191 27 [.ref 35, .int a0, .int a1] [.long a2] (ev_hp I J R T) cz kz = G 191 34 [.ref 35, .int a0, .int a1, .long a2, ez_fill, .int (1 : Int32), .int (0 : Int32)] [] (ev_hp I J R T) cz kz := by
  intro G
  rfl
theorem fm_27 {n k : Int32} {u : Int64}
    (H : pw N X 191 34 [.ref 35, .int n, .int k, .long u, ez_fill, .int (1 : Int32), .int (0 : Int32)] [] (ev_hp I J R T) Q) : pw (N + 1) X 191 27 [.ref 35, .int n, .int k] [.long u] (ev_hp I J R T) Q := by
  refine pw_seg (by decide) (fun _ _ => fp_r31) ?_
  exact H
set_option maxRecDepth 100000 in
theorem fp_r32 {a0 : Int32} {a1 : Int32} {a2 : Int64} {a3 : Int32} {a4 : Int32} : ∀ G : ez_F, fx_up X 3 G 191 34 [.ref 35, .int a0, .int a1, .long a2, ez_fill, .int a3, .int a4] [] (ev_hp I J R T) cz kz = G 191 40 [.ref 35, .int a0, .int a1, .long a2, ez_fill, .int a3, .int a4] [.int (I 35 0), .int a4] (ev_hp I J R T) cz kz := by
  intro G
  rfl
set_option maxRecDepth 100000 in
theorem fp_r33 {a0 : Int32} {a1 : Int32} {a2 : Int64} {a3 : Int32} {a4 : Int32} {a5 : Int32} {a6 : Int32} : ∀ G : ez_F, fx_up X 2 G 191 40 [.ref 35, .int a0, .int a1, .long a2, ez_fill, .int a3, .int a4] [.int a5, .int a6] (ev_hp I J R T) cz kz = G 191 44 [.ref 35, .int a0, .int a1, .long a2, ez_fill, .int a3, .int a4] [.int (I 35 1), .int a5, .int a6] (ev_hp I J R T) cz kz := by
  intro G
  rfl
set_option maxRecDepth 100000 in
theorem fp_r34 {a0 : Int32} {a1 : Int32} {a2 : Int64} {a3 : Int32} {a4 : Int32} {a5 : Int32} {a6 : Int32} {a7 : Int32} : ∀ G : ez_F, fx_up X 2 G 191 44 [.ref 35, .int a0, .int a1, .long a2, ez_fill, .int a3, .int a4] [.int a5, .int a6, .int a7] (ev_hp I J R T) cz kz = bif decide ((a6 + a5) ≤ a7) then G 191 94 [.ref 35, .int a0, .int a1, .long a2, ez_fill, .int a3, .int a4] [] (ev_hp I J R T) cz kz else G 191 48 [.ref 35, .int a0, .int a1, .long a2, ez_fill, .int a3, .int a4] [] (ev_hp I J R T) cz kz := by
  intro G
  rfl
set_option maxRecDepth 100000 in
theorem fp_r35 {a0 : Int32} {a1 : Int32} {a2 : Int64} {a3 : Int32} {a4 : Int32} : ∀ G : ez_F, fx_up X 2 G 191 48 [.ref 35, .int a0, .int a1, .long a2, ez_fill, .int a3, .int a4] [] (ev_hp I J R T) cz kz = bif decide (a3 = (0 : Int32)) then G 191 94 [.ref 35, .int a0, .int a1, .long a2, ez_fill, .int a3, .int a4] [] (ev_hp I J R T) cz kz else G 191 53 [.ref 35, .int a0, .int a1, .long a2, ez_fill, .int a3, .int a4] [] (ev_hp I J R T) cz kz := by
  intro G
  rfl
set_option maxRecDepth 100000 in
theorem fp_r36 {a0 : Int32} {a1 : Int32} {a2 : Int64} {a3 : Int32} {a4 : Int32} : ∀ G : ez_F, fx_up X 3 G 191 53 [.ref 35, .int a0, .int a1, .long a2, ez_fill, .int a3, .int a4] [] (ev_hp I J R T) cz kz = G 191 59 [.ref 35, .int a0, .int a1, .long a2, ez_fill, .int a3, .int a4] [.int a4, .ref 61] (ev_hp I J R T) cz kz := by
  intro G
  rfl
set_option maxRecDepth 100000 in
theorem fp_r37 {a0 : Int32} {a1 : Int32} {a2 : Int64} {a3 : Int32} {a4 : Int32} {a5 : Int32} : ∀ G : ez_F, fx_up X 2 G 191 60 [.ref 35, .int a0, .int a1, .long a2, ez_fill, .int a3, .int a4] [.int a5] (ev_hp I J R T) cz kz = bif decide (a5 = (-1 : Int32)) then G 191 81 [.ref 35, .int a0, .int a1, .long a2, ez_fill, .int a3, .int a4] [] (ev_hp I J R T) cz kz else G 191 64 [.ref 35, .int a0, .int a1, .long a2, ez_fill, .int a3, .int a4] [] (ev_hp I J R T) cz kz := by
  intro G
  rfl
set_option maxRecDepth 100000 in
theorem fp_r38 {a0 : Int32} {a1 : Int32} {a2 : Int64} {a3 : Int32} {a4 : Int32} : ∀ G : ez_F, fx_up X 5 G 191 81 [.ref 35, .int a0, .int a1, .long a2, ez_fill, .int a3, .int a4] [] (ev_hp I J R T) cz kz = G 191 34 [.ref 35, .int a0, .int a1, .long a2, ez_fill, .int (1 : Int32), .int (a4 + (1 : Int32))] [] (ev_hp I J R T) cz kz := by
  intro G
  rfl
set_option maxRecDepth 100000 in
theorem fp_r39 {a0 : Int32} {a1 : Int32} {a2 : Int64} {a3 : Int32} {a4 : Int32} : ∀ G : ez_F, fx_up X 3 G 191 64 [.ref 35, .int a0, .int a1, .long a2, ez_fill, .int a3, .int a4] [] (ev_hp I J R T) cz kz = G 191 70 [.ref 35, .int a0, .int a1, .long a2, ez_fill, .int a3, .int a4] [.int a4, .ref 61] (ev_hp I J R T) cz kz := by
  intro G
  rfl
set_option maxRecDepth 100000 in
theorem fp_r40 {a0 : Int32} {a1 : Int32} {a2 : Int64} {a3 : Int32} {a4 : Int32} {a5 : Int32} : ∀ G : ez_F, fx_up X 4 G 191 71 [.ref 35, .int a0, .int a1, .long a2, ez_fill, .int a3, .int a4] [.int a5] (ev_hp I J R T) cz kz = ev_C G 183 [.ref 35, .long a2, .int a4] (ev_hp I J R T) fun r h1 c1 k1 => G 191 78 [.ref 35, .int a0, .int a1, .long a2, ez_fill, .int a3, .int a4] (r.toList ++ [.int a5]) h1 (cz + c1) (kz + k1) := by
  intro G
  rfl
theorem fm_34 {n k b e : Int32} {u : Int64}
    (H : ((((I 35 0) + (I 35 1)) ≤ e → pw N X 191 94 [.ref 35, .int n, .int k, .long u, ez_fill, .int b, .int e] [] (ev_hp I J R T) Q) ∧ (¬ (((I 35 0) + (I 35 1)) ≤ e) → ((b = (0 : Int32) → pw N X 191 94 [.ref 35, .int n, .int k, .long u, ez_fill, .int b, .int e] [] (ev_hp I J R T) Q) ∧ (¬ (b = (0 : Int32)) → (ev_ix e 12 → (((I 61 e.toNatClampNeg) = (-1 : Int32) → pw N X 191 34 [.ref 35, .int n, .int k, .long u, ez_fill, .int (1 : Int32), .int (e + (1 : Int32))] [] (ev_hp I J R T) Q) ∧ (¬ ((I 61 e.toNatClampNeg) = (-1 : Int32)) → (ev_ix e 12 → (∃ Q1 : pw_Q, pe N X 183 [.ref 35, .long u, .int e] (ev_hp I J R T) Q1 ∧ ∀ (r : Option Value) (h1 : ez_H), Q1 r h1 → pw N X 191 78 [.ref 35, .int n, .int k, .long u, ez_fill, .int b, .int e] (r.toList ++ [.int (I 61 e.toNatClampNeg)]) h1 Q)))))))))) : pw (N + 1) X 191 34 [.ref 35, .int n, .int k, .long u, ez_fill, .int b, .int e] [] (ev_hp I J R T) Q := by
  refine pw_seg (by decide) (fun _ _ => fp_r32) ?_
  refine pw_p (pw_seg (by decide) (fun _ _ => fp_r33) ?_)
  refine pw_p (pw_if (by decide) (fun _ _ => fp_r34) (fun w1 => ?_) (fun w1 => ?_))
  · have h1 := H.1 w1
    exact h1
  · have h1 := H.2 w1
    refine pw_p (pw_if (by decide) (fun _ _ => fp_r35) (fun w2 => ?_) (fun w2 => ?_))
    · have h2 := h1.1 w2
      exact h2
    · have h2 := h1.2 w2
      refine pw_p (pw_seg (by decide) (fun _ _ => fp_r36) ?_)
      refine pw_p (pw_iald (by rfl) (cx_getI (show cx_Ds[61]? = some (0, 12, []) from rfl)) (fun w3 => ?_))
      have h3 := h2 w3
      refine pw_p (pw_if (by decide) (fun _ _ => fp_r37) (fun w3 => ?_) (fun w3 => ?_))
      · have h3 := h3.1 w3
        refine pw_p (pw_seg (by decide) (fun _ _ => fp_r38) ?_)
        exact h3
      · have h3 := h3.2 w3
        refine pw_p (pw_seg (by decide) (fun _ _ => fp_r39) ?_)
        refine pw_p (pw_iald (by rfl) (cx_getI (show cx_Ds[61]? = some (0, 12, []) from rfl)) (fun w4 => ?_))
        have h4 := h3 w4
        obtain ⟨Q1, hc, hk⟩ := h4
        exact pw_p (pw_call (by decide) (fun _ _ => fp_r40) hc hk)
set_option maxRecDepth 100000 in
theorem fp_r41 {a0 : Int32} {a1 : Int32} {a2 : Int64} {a3 : Int32} {a4 : Int32} {a5 : Int32} {a6 : Int32} : ∀ G : ez_F, fx_up X 1 G 191 78 [.ref 35, .int a0, .int a1, .long a2, ez_fill, .int a3, .int a4] [.int a5, .int a6] (ev_hp I J R T) cz kz = bif decide (¬ a6 = a5) then G 191 85 [.ref 35, .int a0, .int a1, .long a2, ez_fill, .int a3, .int a4] [] (ev_hp I J R T) cz kz else G 191 81 [.ref 35, .int a0, .int a1, .long a2, ez_fill, .int a3, .int a4] [] (ev_hp I J R T) cz kz := by
  intro G
  rfl
set_option maxRecDepth 100000 in
theorem fp_r42 {a0 : Int32} {a1 : Int32} {a2 : Int64} {a3 : Int32} {a4 : Int32} : ∀ G : ez_F, fx_up X 4 G 191 85 [.ref 35, .int a0, .int a1, .long a2, ez_fill, .int a3, .int a4] [] (ev_hp I J R T) cz kz = G 191 34 [.ref 35, .int a0, .int a1, .long a2, ez_fill, .int (0 : Int32), .int (a4 + (1 : Int32))] [] (ev_hp I J R T) cz kz := by
  intro G
  rfl
set_option maxRecDepth 100000 in
theorem fp_r43 {a0 : Int32} {a1 : Int32} {a2 : Int64} {a3 : Int32} {a4 : Int32} : ∀ G : ez_F, fx_up X 5 G 191 81 [.ref 35, .int a0, .int a1, .long a2, ez_fill, .int a3, .int a4] [] (ev_hp I J R T) cz kz = G 191 34 [.ref 35, .int a0, .int a1, .long a2, ez_fill, .int (1 : Int32), .int (a4 + (1 : Int32))] [] (ev_hp I J R T) cz kz := by
  intro G
  rfl
theorem fm_78 {n k b e v c : Int32} {u : Int64}
    (H : ((¬ c = v → pw N X 191 34 [.ref 35, .int n, .int k, .long u, ez_fill, .int (0 : Int32), .int (e + (1 : Int32))] [] (ev_hp I J R T) Q) ∧ (¬ (¬ c = v) → pw N X 191 34 [.ref 35, .int n, .int k, .long u, ez_fill, .int (1 : Int32), .int (e + (1 : Int32))] [] (ev_hp I J R T) Q))) : pw (N + 1) X 191 78 [.ref 35, .int n, .int k, .long u, ez_fill, .int b, .int e] [.int v, .int c] (ev_hp I J R T) Q := by
  refine pw_if (by decide) (fun _ _ => fp_r41) (fun w1 => ?_) (fun w1 => ?_)
  · have h1 := H.1 w1
    refine pw_p (pw_seg (by decide) (fun _ _ => fp_r42) ?_)
    exact h1
  · have h1 := H.2 w1
    refine pw_p (pw_seg (by decide) (fun _ _ => fp_r43) ?_)
    exact h1
set_option maxRecDepth 100000 in
theorem fp_r44 {a0 : Int32} {a1 : Int32} {a2 : Int64} {a3 : Int32} {a4 : Int32} : ∀ G : ez_F, fx_up X 3 G 191 94 [.ref 35, .int a0, .int a1, .long a2, ez_fill, .int a3, .int a4] [] (ev_hp I J R T) cz kz = bif decide (a3 = (0 : Int32)) then G 191 104 [.ref 35, .int a0, .int a1, .long a2, ez_fill, .int a3, .int a4] [.int a0] (ev_hp I J R T) cz kz else G 191 100 [.ref 35, .int a0, .int a1, .long a2, ez_fill, .int a3, .int a4] [.int a0] (ev_hp I J R T) cz kz := by
  intro G
  rfl
set_option maxRecDepth 100000 in
theorem fp_r45 {a0 : Int32} {a1 : Int32} {a2 : Int64} {a3 : Int32} {a4 : Int32} {a5 : Int32} : ∀ G : ez_F, fx_up X 5 G 191 104 [.ref 35, .int a0, .int a1, .long a2, ez_fill, .int a3, .int a4] [.int a5] (ev_hp I J R T) cz kz = G 191 14 [.ref 35, .int (a5 + (0 : Int32)), .int (a1 + (1 : Int32)), .long a2, ez_fill, .int a3, .int a4] [] (ev_hp I J R T) cz kz := by
  intro G
  rfl
set_option maxRecDepth 100000 in
theorem fp_r46 {a0 : Int32} {a1 : Int32} {a2 : Int64} {a3 : Int32} {a4 : Int32} {a5 : Int32} : ∀ G : ez_F, fx_up X 6 G 191 100 [.ref 35, .int a0, .int a1, .long a2, ez_fill, .int a3, .int a4] [.int a5] (ev_hp I J R T) cz kz = G 191 14 [.ref 35, .int (a5 + (1 : Int32)), .int (a1 + (1 : Int32)), .long a2, ez_fill, .int a3, .int a4] [] (ev_hp I J R T) cz kz := by
  intro G
  rfl
theorem fm_94 {n k b e : Int32} {u : Int64}
    (H : ((b = (0 : Int32) → pw N X 191 14 [.ref 35, .int (n + (0 : Int32)), .int (k + (1 : Int32))] [] (ev_hp I J R T) Q) ∧ (¬ (b = (0 : Int32)) → pw N X 191 14 [.ref 35, .int (n + (1 : Int32)), .int (k + (1 : Int32))] [] (ev_hp I J R T) Q))) : pw (N + 1) X 191 94 [.ref 35, .int n, .int k, .long u, ez_fill, .int b, .int e] [] (ev_hp I J R T) Q := by
  refine pw_if (by decide) (fun _ _ => fp_r44) (fun w1 => ?_) (fun w1 => ?_)
  · have h1 := H.1 w1
    refine pw_p (pw_seg (by decide) (fun _ _ => fp_r45) ?_)
    refine pw_cutl (by rfl) ?_
    exact h1
  · have h1 := H.2 w1
    refine pw_p (pw_seg (by decide) (fun _ _ => fp_r46) ?_)
    refine pw_cutl (by rfl) ?_
    exact h1
end
def fal (p : Nat → Bool) : Nat → Bool
  | 0 => true
  | k + 1 => fal p k && p k
theorem fal_le {p : Nat → Bool} {k : Nat} (h : fal p k = false) : ∀ d, fal p (k + d) = false := by
  intro d
  induction d with
  | zero => exact h
  | succ d ih =>
    show (fal p (k + d) && p (k + d)) = false
    rw [ih]
    rfl
theorem fal_f {p : Nat → Bool} {k m : Nat} (hk : k < m) (h : p k = false) : fal p m = false := by
  have h1 : fal p (k + 1) = false := by
    show (fal p k && p k) = false
    rw [h, Bool.and_false]
  have h2 := fal_le h1 (m - (k + 1))
  rw [show k + 1 + (m - (k + 1)) = m by omega] at h2
  exact h2
theorem fal_c {p q : Nat → Bool} : ∀ k, (∀ i, i < k → p i = q i) → fal p k = fal q k := by
  intro k
  induction k with
  | zero => intro _; rfl
  | succ k ih =>
    intro h
    unfold fal
    rw [ih fun i hi => h i (by omega), h k (Nat.lt_succ_self k)]
def ftq (c : Nat → Int32) (w h : Nat) (u : Int64) (r : Nat) : Bool := decide (c r = -1) || decide (c r = Int32.ofNat (rq w h r u))
abbrev fit1 (c : Nat → Int32) (w h : Nat) (u : Int64) : Bool := fal (ftq c w h u) (w + h)
section
variable {N : Nat} {X : ez_X} {I I' I1 : Nat → Nat → Int32} {J J' J1 : Nat → Nat → Int64} {R R' R1 : Nat → Nat} {T T' T1 : List ez_C} {v x y : Int32} {f6 : Nat → Int32} {t : ly_t} {u : Int64} {w h : Nat}
theorem pe_fits (e3 : I 1 3 = Int32.ofNat w) (e4 : I 1 4 = Int32.ofNat h) (e8 : J 1 8 = fc_F (I 1 3) (I 1 4)) (hw : 2 ≤ w ∧ w ≤ 6) (hh : 2 ≤ h ∧ h ≤ 6) : pe N X 75 [.ref 32, .long u] (ev_hp I J R T) (fun q hp => q = some (.int (bif fit1 (I 33) w h u then 1 else 0)) ∧ hp = ev_hp I J R T) := by
  have loop : ∀ (d r : Nat), r + d = w + h → fal (ftq (I 33) w h u) r = true → ∀ N, pw N X 75 11 [.ref 32, .long u, ez_fill, .int (Int32.ofNat (w + h)), .int (Int32.ofNat r)] [] (ev_hp I J R T) (fun q hp => q = some (.int (bif fit1 (I 33) w h u then 1 else 0)) ∧ hp = ev_hp I J R T) := by
    intro d
    induction d with
    | zero =>
      intro r hr hf N
      obtain rfl : r = w + h := by omega
      exact pw_p (fa_11 ⟨fun _ _ => ⟨by unfold fit1; rw [hf]; rfl, rfl⟩, fun g => absurd (Int32.le_refl _) g⟩)
    | succ d ih =>
      intro r hr hf N
      have next : ftq (I 33) w h u r = true → pw N X 75 11 [.ref 32, .long u, ez_fill, .int (Int32.ofNat (w + h)), .int (Int32.ofNat r + (1 : Int32))] [] (ev_hp I J R T) (fun q hp => q = some (.int (bif fit1 (I 33) w h u then 1 else 0)) ∧ hp = ev_hp I J R T) := by
        intro g
        rw [io_1]
        refine ih (r + 1) (by omega) ?_ N
        show (fal (ftq (I 33) w h u) r && ftq (I 33) w h u r) = true
        rw [hf, g]
        rfl
      refine pw_p (fa_11 ?_)
      rw [at_in (by omega) (by decide)]
      refine ⟨fun g => ?_, fun _ => ⟨fun g => next ?_, fun g => ⟨_, pe_countIn (r := r) e3 e4 e8 hw hh (by omega) rfl, ?_⟩⟩⟩
      · rw [io_le (by omega) (by omega)] at g
        omega
      · unfold ftq
        rw [decide_eq_true g]
        rfl
      · rintro q hp ⟨rfl, rfl⟩
        refine pw_p (fa_43 ⟨fun g2 => next ?_, fun g2 _ => ⟨?_, rfl⟩⟩)
        · unfold ftq
          rw [decide_eq_true g2, Bool.or_true]
        · have hz : ftq (I 33) w h u r = false := by
            unfold ftq
            rw [decide_eq_false g, decide_eq_false g2]
            rfl
          unfold fit1
          rw [fal_f (k := r) (by omega) hz]
          rfl
  refine pe_of (pw_p (fa_0 ?_))
  rw [e3, e4, io_add, Nat.add_comm h w]
  exact loop (w + h) 0 (by omega) rfl N
def fitP (c : Nat → Int32) (w h : Nat) (I : Nat → Nat → Int32) (J : Nat → Nat → Int64) (L : List ly_t) (k : Nat) : Bool := fit1 c w h (ly_w I J (L.getD k (0, 0, 0)))
theorem pe_fitL {L : List ly_t} {n : Nat} {f : Nat → Int32} (g2 : I 6 3 = Int32.ofNat L.length) (g3 : rowT (R 0) T n f) (g4 : L.length ≤ n) (g5 : n ≤ 10000) (g6 : ∀ (k : Nat) (hk : k < L.length), f k = ly_c L[k]) (hns : 0 ≤ (I 3 3).toInt ∧ (I 3 3).toInt ≤ 3) (hb : ∀ t, t ∈ L → t.1 < 512 ∧ t.2.1 < 512 ∧ t.2.2 < 512) (hin : ∀ t, t ∈ L → ∀ s, s < (I 3 3).toInt.toNat → ly_at t s < 288) (e3 : I 1 3 = Int32.ofNat w) (e4 : I 1 4 = Int32.ofNat h) (e8 : J 1 8 = fc_F (I 1 3) (I 1 4)) (hw : 2 ≤ w ∧ w ≤ 6) (hh : 2 ≤ h ∧ h ≤ 6) : pe N X 76 [.ref 32] (ev_hp I J R T) (fun q hp => q = some (.int (Int32.ofNat (cq (fitP (I 33) w h I J L) L.length))) ∧ hp = ev_hp I J R T) := by
  have loop : ∀ (d k : Nat), k + d = L.length → ∀ N, pw N X 76 12 [.ref 32, .int (Int32.ofNat L.length), .int (Int32.ofNat (cq (fitP (I 33) w h I J L) k)), .int (Int32.ofNat k)] [] (ev_hp I J R T) (fun q hp => q = some (.int (Int32.ofNat (cq (fitP (I 33) w h I J L) L.length))) ∧ hp = ev_hp I J R T) := by
    intro d
    induction d with
    | zero =>
      intro k hk N
      obtain rfl : k = L.length := by omega
      exact pw_p (fb_12 ⟨fun _ => ⟨rfl, rfl⟩, fun g => absurd (Int32.le_refl _) g⟩)
    | succ d ih =>
      intro k hkd N
      have hk : k < L.length := by omega
      have hm := List.getElem_mem hk
      obtain ⟨b0, b1, b2⟩ := hb _ hm
      refine pw_p (fb_12 ⟨fun g => ?_, fun _ => ⟨_, pe_cellsOf (t := L[k]) g3 g5 (by rw [at_k (by omega) g5, g6 k hk]) hns b0 b1 b2 (hin _ hm), ?_⟩⟩)
      · rw [io_le (by omega) (by omega)] at g
        omega
      · rintro q hp ⟨rfl, rfl⟩
        refine pw_p (fb_26 ⟨_, pe_fits e3 e4 e8 hw hh, ?_⟩)
        rintro q hp ⟨rfl, rfl⟩
        have hq : cq (fitP (I 33) w h I J L) (k + 1) = cq (fitP (I 33) w h I J L) k + (bif fitP (I 33) w h I J L k then 1 else 0) := rfl
        have hP : fitP (I 33) w h I J L k = fit1 (I 33) w h (ly_w I J L[k]) := by
          unfold fitP
          rw [ly_gd hk]
        rw [hP] at hq
        have h5 := ih (k + 1) (by omega) N
        rw [hq] at h5
        cases hz : fit1 (I 33) w h (ly_w I J L[k])
        · rw [hz] at h5
          refine pw_p (fb_29 ⟨fun _ => ?_, fun g => absurd rfl g⟩)
          rw [io_1]
          exact h5
        · rw [hz] at h5
          refine pw_p (fb_29 ⟨fun g => absurd g (by decide), fun _ => ?_⟩)
          rw [io_1, io_1]
          exact h5
  refine pe_of (pw_p (fb_0 ?_))
  rw [g2]
  exact loop L.length 0 (by omega) N
def v_fit (I : Nat → Nat → Int32) (J : Nat → Nat → Int64) : Int32 := if sn I 0 * (sn I 1 * sn I 2) ≤ 10000 then Int32.ofNat (cq (fitP (I 33) (I 1 3).toInt.toNat (I 1 4).toInt.toNat I J (ls I J)) (ls I J).length) else -6
theorem pe_xfit (hr : rl I J) (hh : cx_hok cx_B0 I R T) (hc : cp I J R T) : pe N X 17 [.ref 0] (ev_hp I J R T) (fun r h => r = some (.int (v_fit I J)) ∧ se_H I J R T h) := by
  have hns := (b_sh hh.1).1
  obtain ⟨w, ht, ew, eh, hw, hhh⟩ := wh_is hh.1
  refine pe_of (pw_p (xo_fitting ⟨_, pe_tm hr hh hc, ?_⟩))
  rintro r h (⟨h1, rfl, rfl⟩ | ⟨h1, rfl, h2⟩)
  · refine pw_p (fc_4 ⟨fun z => absurd z (by decide), fun _ => pw_p (fc_19 ⟨?_, Or.inl rfl⟩)⟩)
    unfold v_fit
    rw [if_neg (by omega)]
  · obtain ⟨f6, R', T', rfl, g1, ⟨g2, n, f, g3, g4, g5, g6⟩, g7⟩ := h2
    have c1 : ev_sI I 6 f6 1 = I 1 := cx_sI_n _ _ (by decide)
    have c3 : ev_sI I 6 f6 3 = I 3 := cx_sI_n _ _ (by decide)
    have c33 : ev_sI I 6 f6 33 = I 33 := cx_sI_n _ _ (by decide)
    refine pw_p (fc_4 ⟨fun _ => ⟨_, pe_fitL (w := w) (h := ht) g2 g3 g4 g5 g6 (by rw [c3]; exact hns) (fun t ht => ls_512 hr hh.1 ht) (fun t ht s hs => ?_) (by rw [c1]; exact ew) (by rw [c1]; exact eh) (by rw [c1]; exact hc.1.2.2.1) hw hhh, ?_⟩, fun z => absurd rfl z⟩)
    · rw [c3] at hs
      have := ly_in hr hh.1 ht hs
      have := (fi_n hr hs).2.1
      omega
    · rintro q h ⟨rfl, rfl⟩
      refine pw_p (fc_19 ⟨?_, Or.inr ⟨f6, R', T', rfl⟩⟩)
      unfold v_fit
      rw [if_pos h1, c33, ew, eh, io_ti (by omega), io_ti (by omega), Int.toNat_natCast, Int.toNat_natCast]
      congr 3
theorem km_c (e : kx I = km I) {r : Nat} (hr : r < 12) : I 33 r = I 61 r := by
  have h : (if r < 12 then I 33 r else 0) = (if r < 12 then I 61 r else 0) := congrFun (congrArg (fun K : kt_K => K.2.2.2.2.2.2.2.2.2.2.2) e) r
  rw [if_pos hr, if_pos hr] at h
  exact h
theorem pw_mfits {n k : Int32} {Q : pw_Q} (e0 : I 35 0 = Int32.ofNat w) (e1 : I 35 1 = Int32.ofNat h) (hw : 2 ≤ w ∧ w ≤ 6) (hh : 2 ≤ h ∧ h ≤ 6) (H : ∀ (r : Int32) (N : Nat), pw N X 191 94 [.ref 35, .int n, .int k, .long u, ez_fill, .int (bif fit1 (I 61) w h u then 1 else 0), .int r] [] (ev_hp I J R T) Q) : ∀ N, pw N X 191 34 [.ref 35, .int n, .int k, .long u, ez_fill, .int (1 : Int32), .int (0 : Int32)] [] (ev_hp I J R T) Q := by
  have loop : ∀ (d r : Nat), r + d = w + h → ∀ N, pw N X 191 34 [.ref 35, .int n, .int k, .long u, ez_fill, .int (bif fal (ftq (I 61) w h u) r then 1 else 0), .int (Int32.ofNat r)] [] (ev_hp I J R T) Q := by
    intro d
    induction d with
    | zero =>
      intro r hr N
      obtain rfl : r = w + h := by omega
      refine pw_p (fm_34 ⟨fun _ => H _ _, fun g => ?_⟩)
      rw [e0, e1, io_add] at g
      exact absurd (Int32.le_refl _) g
    | succ d ih =>
      intro r hr N
      have hs : fal (ftq (I 61) w h u) (r + 1) = (fal (ftq (I 61) w h u) r && ftq (I 61) w h u r) := rfl
      have h5 := ih (r + 1) (by omega) N
      rw [hs] at h5
      refine pw_p (fm_34 ?_)
      rw [e0, e1, io_add, io_cl (by omega)]
      refine ⟨fun g => ?_, fun _ => ⟨fun g => ?_, fun g _ => ⟨fun g2 => ?_, fun g2 _ => ⟨_, pe_countOf (r := r) e0 e1 hw hh (by omega) rfl, ?_⟩⟩⟩⟩
      · rw [io_le (by omega) (by omega)] at g
        omega
      · cases hz : fal (ftq (I 61) w h u) r
        · have h6 := H (Int32.ofNat r) N
          have h7 := fal_le hz (w + h - r)
          rw [show r + (w + h - r) = w + h by omega] at h7
          unfold fit1 at h6
          rw [h7] at h6
          exact h6
        · rw [hz] at g
          exact absurd g (by decide)
      · have hz : fal (ftq (I 61) w h u) r = true := by
          cases hz : fal (ftq (I 61) w h u) r
          · rw [hz] at g
            exact absurd rfl g
          · rfl
        have hf : ftq (I 61) w h u r = true := by
          unfold ftq
          rw [decide_eq_true g2]
          rfl
        rw [hz, hf] at h5
        rw [io_1]
        exact h5
      · have hz : fal (ftq (I 61) w h u) r = true := by
          cases hz : fal (ftq (I 61) w h u) r
          · rw [hz] at g
            exact absurd rfl g
          · rfl
        rintro q hp ⟨rfl, rfl⟩
        refine pw_p (fm_78 ⟨fun g3 => ?_, fun g3 => ?_⟩)
        · have hf : ftq (I 61) w h u r = false := by
            unfold ftq
            rw [decide_eq_false g2, decide_eq_false g3]
            rfl
          rw [hz, hf] at h5
          rw [io_1]
          exact h5
        · have hf : ftq (I 61) w h u r = true := by
            unfold ftq
            rw [decide_eq_true (Classical.not_not.mp g3), Bool.or_true]
          rw [hz, hf] at h5
          rw [io_1]
          exact h5
  exact loop (w + h) 0 (by omega)
theorem pe_mfit (hr : rl I J) (hm : mk I J) (hB : cx_hB cx_B0 I) : pe N X 191 [.ref 35] (ev_hp I J R T) (fun r _ => r = some (.int (v_fit I J))) := by
  have hns := (b_sh hB).1
  obtain ⟨e0, e1, -, e3⟩ := km_0 hr.1
  obtain ⟨w, ht, ew, eh, hw, hhh⟩ := wh_is hB
  refine pe_of (pw_p (fm_0 ⟨_, pe_laid hr hB N, ?_⟩))
  rintro r h ⟨I', J', ⟨fI, fJ, fE⟩, ⟨h1, rfl, rfl⟩ | ⟨h1, rfl, w', rfl, hw'⟩⟩
  · refine pw_p (fm_4 ⟨fun z => absurd rfl z, fun _ => ?_⟩)
    unfold v_fit
    rw [pr_is hr hB, if_neg (by omega)]
  · have hlen := ly_1l (lm_p (rf_n I) (rf_f J) (rf_g I J)) (lm_q (rf_n I) (rf_f J) (rf_g I J)) (mm (in_n I) (rf_n I) 1) (mm (in_n I) (rf_n I) 2) (mm (in_n I) (rf_n I) 0)
    have hlen2 : (lm_L (rf_n I) (in_n I) (rf_f J) (rf_g I J)).length ≤ 10000 := Nat.le_trans hlen (by rw [pr_mm _ (rf_ns hB).2]; exact h1)
    rw [← ls_is hr hm hB] at hw' hlen2 ⊢
    have e14 : al_I I' w' (ls I J).length 35 14 = Int32.ofNat (ls I J).length := by
      unfold al_I
      rw [cx_sI_s, upd_s]
    have e41 : al_I I' w' (ls I J).length 41 = w' := by
      unfold al_I
      rw [cx_sI_n _ _ (by decide), cx_sI_s]
    have e61 : al_I I' w' (ls I J).length 61 = I 61 := by
      unfold al_I
      rw [cx_sI_n _ _ (by decide), cx_sI_n _ _ (by decide), fI 61 (by decide)]
    have e35 : ∀ k, k ≠ 14 → al_I I' w' (ls I J).length 35 k = I 35 k := fun k hk => by
      unfold al_I
      rw [cx_sI_s, upd_n _ _ hk, fI 35 (by decide)]
    have hfit : ∀ u, fit1 (I 61) w ht u = fit1 (I 33) w ht u := fun u => fal_c _ fun r hr2 => by
      unfold ftq
      rw [km_c hr.1 (show r < 12 by omega)]
    have loop : ∀ (d k : Nat), k + d = (ls I J).length → ∀ N, pw N X 191 14 [.ref 35, .int (Int32.ofNat (cq (fitP (I 33) w ht I J (ls I J)) k)), .int (Int32.ofNat k)] [] (ev_hp (al_I I' w' (ls I J).length) J' R T) (fun r _ => r = some (.int (Int32.ofNat (cq (fitP (I 33) w ht I J (ls I J)) (ls I J).length)))) := by
      intro d
      induction d with
      | zero =>
        intro k hk N
        obtain rfl : k = (ls I J).length := by omega
        refine pw_p (fm_14 ⟨fun _ => rfl, fun g => ?_⟩)
        rw [e14] at g
        exact absurd (Int32.le_refl _) g
      | succ d ih =>
        intro k hkd N
        have hk : k < (ls I J).length := by omega
        have hmem := List.getElem_mem hk
        have hw2 := hw' k hk
        refine pw_p (fm_14 ⟨fun g => ?_, fun _ => ⟨_, pe_mcells (t := (ls I J)[k]) (k := k) (ns := rf_n I) (e := fun s => J 4 (288 * s + ly_at (ls I J)[k] s)) rfl (by omega) (by rw [e35 3 (by decide)]; exact (rf_ns hB).1) (rf_ns hB).2 (fun s hs => ?_) (fun s hs => ?_) (fun s hs => ?_), ?_⟩⟩)
        · rw [e14, io_le (by omega) (by omega)] at g
          omega
        · rw [e41]
          have := (rf_ns hB).2
          rcases (show s = 0 ∨ s = 1 ∨ s = 2 by omega) with rfl | rfl | rfl
          · exact hw2.1
          · exact hw2.2.1
          · exact hw2.2.2
        · have hs' : s < (I 3 3).toInt.toNat := by rw [e3]; exact hs
          have := ly_in hr hB hmem hs'
          have := (fi_n hr hs').2.1
          omega
        · have hs' : s < (I 3 3).toInt.toNat := by rw [e3]; exact hs
          exact ((fE s hs).2 _ (ly_in hr hB hmem hs')).1
        · rintro q h ⟨rfl, rfl⟩
          refine pw_p (fm_27 (pw_mfits (w := w) (h := ht) (by rw [e35 0 (by decide), ← e0]; exact ew) (by rw [e35 1 (by decide), ← e1]; exact eh) hw hhh (fun r N => ?_) _))
          have en : rf_n I = (I 3 3).toInt.toNat := by unfold rf_n; rw [e3]
          rw [e61, hfit, en, ← ly_w_or (by omega)]
          have hq : cq (fitP (I 33) w ht I J (ls I J)) (k + 1) = cq (fitP (I 33) w ht I J (ls I J)) k + (bif fitP (I 33) w ht I J (ls I J) k then 1 else 0) := rfl
          have hP : fitP (I 33) w ht I J (ls I J) k = fit1 (I 33) w ht (ly_w I J (ls I J)[k]) := by
            unfold fitP
            rw [ly_gd hk]
          rw [hP] at hq
          have h5 := ih (k + 1) (by omega) N
          rw [hq] at h5
          cases hz : fit1 (I 33) w ht (ly_w I J (ls I J)[k])
          · rw [hz] at h5
            refine pw_p (fm_94 ⟨fun _ => ?_, fun g => absurd rfl g⟩)
            rw [io_1, Int32.add_zero]
            exact h5
          · rw [hz] at h5
            refine pw_p (fm_94 ⟨fun g => absurd g (by decide), fun _ => ?_⟩)
            rw [io_1, io_1]
            exact h5
    refine pw_p (fm_4 ⟨fun _ => ?_, fun z => absurd (by decide) z⟩)
    unfold v_fit
    rw [pr_is hr hB, if_pos h1, ew, eh, io_ti (by omega), io_ti (by omega), Int.toNat_natCast, Int.toNat_natCast]
    exact loop (ls I J).length 0 (by omega) N
theorem lxc_fitting (hX2 : X.1 < 2 ^ 31) (hh : cx_hok cx_B0 I R T) (hr : rl2 I J R T) : ev_W X 17 0 (ez_lay [.ref 0]) [] (ev_hp I J R T) 0 0 (lw_mid T (fun v I1 J1 R1 T1 => v = v_fit I1 J1 ∧ rl2 I1 J1 R1 T1)) := by
  refine (W_pe (l2x_fitting hX2 hh hr) (fun N => pe_xfit (N := N) hr.1 hh hr.2)).mono ?_
  rintro r h c k ⟨⟨v, I1, J1, R1, T1, e1, e2, e3, e4, e5, e6⟩, q1, q2⟩
  refine ⟨v, I1, J1, R1, T1, e1, e2, e3, e4, e5, ?_, e6⟩
  rw [e1] at q1
  injection q1 with q1
  injection q1 with q1
  rw [e2] at q2
  obtain ⟨h1, h2⟩ := ls_H q2
  have hf : ∀ (p n cc k q : Nat) (fl : List (Nat × Nat)), p ≠ 6 → cx_Ds[p]? = some (n + 2, cc, fl) → fl[k]? = some (0, q) → I1 p k = I p k := by
    intro p n cc k q fl hp hd hq
    rcases q2 with e | ⟨f6, R2, T2, e⟩
    · exact h1_f hd hq (by rw [e])
    · have e7 : I1 p k = ev_sI I 6 f6 p k := h1_f hd hq (by rw [e])
      rw [e7, cx_sI_n _ _ hp]
  have h4 : J1 4 = J 4 := by
    rcases q2 with e | ⟨f6, R2, T2, e⟩
    · exact hp_rowJ (show cx_Ds[4]? = some (1, _, _) from rfl) e
    · exact hp_rowJ (show cx_Ds[4]? = some (1, _, _) from rfl) e
  have h33r : I1 33 = I 33 := by
    rcases q2 with e | ⟨f6, R2, T2, e⟩
    · exact hp_row (show cx_Ds[33]? = some (0, _, _) from rfl) e
    · have e7 : I1 33 = ev_sI I 6 f6 33 := hp_row (show cx_Ds[33]? = some (0, _, _) from rfl) e
      rw [e7, cx_sI_n _ _ (by decide)]
  have h33 : I1 3 3 = I 3 3 := hf 3 0 _ 3 _ _ (by decide) (show cx_Ds[3]? = some (0 + 2, _, _) from rfl) rfl
  have h13 : I1 1 3 = I 1 3 := hf 1 0 _ 3 _ _ (by decide) (show cx_Ds[1]? = some (0 + 2, _, _) from rfl) rfl
  have h14 : I1 1 4 = I 1 4 := hf 1 0 _ 4 _ _ (by decide) (show cx_Ds[1]? = some (0 + 2, _, _) from rfl) rfl
  have hP : fitP (I1 33) (I1 1 3).toInt.toNat (I1 1 4).toInt.toNat I1 J1 (ls I1 J1) = fitP (I 33) (I 1 3).toInt.toNat (I 1 4).toInt.toNat I J (ls I J) := funext fun k => by
    unfold fitP ly_w ly_s
    rw [h1, h33r, h33, h13, h14, h4]
  rw [q1]
  unfold v_fit
  rw [hP, h1, h2 0, h2 1, h2 2]
theorem lmc_fitting (hX2 : X.1 < 2 ^ 31) (hh : cx_hok cx_B0 I R T) (hr : rl2 I J R T) (hh1 : cx_hok cx_B0 I1 R1 T1) (hm : v = v_fit I1 J1 ∧ rl2 I1 J1 R1 T1) : ev_W X 191 0 (ez_lay [.ref 35]) [] (ev_hp I1 J1 R1 T1) 0 0 (lw_mid T1 (fun u I2 J2 R2 T2 => u = v ∧ rl2 I2 J2 R2 T2)) := by
  refine (W_pe (l2m_fitting hX2 hh1 hm.2) (fun N => pe_mfit (N := N) hm.2.1 hm.2.2.1 hh1.1)).mono ?_
  rintro r h c k ⟨⟨u, I2, J2, R2, T2, e1, e2, e3, e4, e5, e6⟩, q1⟩
  refine ⟨u, I2, J2, R2, T2, e1, e2, e3, e4, e5, ?_, e6⟩
  rw [e1] at q1
  injection q1 with q1
  injection q1 with q1
  rw [q1]
  exact hm.1.symm
end
