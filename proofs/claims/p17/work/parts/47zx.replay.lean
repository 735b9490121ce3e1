/-! All layings are played; who is left. -/
section
variable {N : Nat} {X : ez_X} {I : Nat → Nat → Int32} {J : Nat → Nat → Int64} {R : Nat → Nat} {T : List ez_C} {Q : pw_Q} {cz kz : Nat}
set_option maxRecDepth 100000 in
theorem on_r0 {a0 : Int64} : ∀ G : ez_F, fx_up X 2 G 36 0 [.long a0, ez_fill] [] (ev_hp I J R T) cz kz = ev_C G 237 [.long a0] (ev_hp I J R T) fun r h1 c1 k1 => G 36 4 [.long a0, ez_fill] (r.toList ++ []) h1 (cz + c1) (kz + k1) := by
  intro G
  rfl
set_option maxRecDepth 100000 in
theorem on_r1 {a0 : Int64} {a1 : Int32} : ∀ G : ez_F, fx_up X 2 G 36 4 [.long a0, ez_fill] [.int a1] (ev_hp I J R T) cz kz = bif decide (¬ a1 = (1 : Int32)) then G 36 12 [.long a0, ez_fill] [] (ev_hp I J R T) cz kz else G 36 8 [.long a0, ez_fill] [] (ev_hp I J R T) cz kz := by
  intro G
  rfl
set_option maxRecDepth 100000 in
theorem on_r2 {a0 : Int64} : ∀ G : ez_F, fx_up X 2 G 36 12 [.long a0, ez_fill] [] (ev_hp I J R T) cz kz = some (some (.long (0 : Int64)), (ev_hp I J R T), cz, kz) := by
  intro G
  rfl
set_option maxRecDepth 100000 in
theorem on_r3 {a0 : Int64} : ∀ G : ez_F, fx_up X 3 G 36 8 [.long a0, ez_fill] [] (ev_hp I J R T) cz kz = some (some (.long a0), (ev_hp I J R T), cz, kz) := by
  intro G
  rfl
theorem on_0 {z : Int64}
    (H : ((¬ (ev_bcJ z) = (1 : Int32) → Q (some (.long (0 : Int64))) (ev_hp I J R T)) ∧ (¬ (¬ (ev_bcJ z) = (1 : Int32)) → Q (some (.long z)) (ev_hp I J R T)))) : pw (N + 1) X 36 0 [.long z, ez_fill] [] (ev_hp I J R T) Q := by
  refine pw_callp (by decide) (fun _ _ => on_r0) (pe_is (ec_bcJ _ _ _)) ?_
  refine pw_p (pw_if (by decide) (fun _ _ => on_r1) (fun w1 => ?_) (fun w1 => ?_))
  · have h1 := H.1 w1
    exact pw_p (pw_ret (by decide) (fun _ _ => on_r2) h1)
  · have h1 := H.2 w1
    exact pw_p (pw_ret (by decide) (fun _ _ => on_r3) h1)
end
def on1 (z : Int64) : Int64 := if ev_bcJ z = 1 then z else 0
section
variable {N : Nat} {X : ez_X} {I : Nat → Nat → Int32} {J : Nat → Nat → Int64} {R : Nat → Nat} {T : List ez_C} {z : Int64}
theorem pe_onlyOne : pe N X 36 [.long z] (ev_hp I J R T) (fun r h => r = some (.long (on1 z)) ∧ h = ev_hp I J R T) := by
  unfold on1
  refine pe_of (pw_p (on_0 ⟨fun g => ⟨?_, rfl⟩, fun g => ⟨?_, rfl⟩⟩))
  · rw [if_neg g]
  · rw [if_pos (Classical.not_not.mp g)]
end
section
variable {N : Nat} {X : ez_X} {I : Nat → Nat → Int32} {J : Nat → Nat → Int64} {R : Nat → Nat} {T : List ez_C} {Q : pw_Q} {cz kz : Nat}
set_option maxRecDepth 100000 in
theorem ap_r0  : ∀ G : ez_F, fx_up X 4 G 129 0 [.ref 10] [] (ev_hp I J R T) cz kz = ev_C G 4 [.ref 11, .int (0 : Int32)] (ev_hp I J R T) fun r h1 c1 k1 => G 129 8 [.ref 10] (r.toList ++ []) h1 (cz + c1) (kz + k1) := by
  intro G
  rfl
set_option maxRecDepth 100000 in
theorem ap_r1 {a0 : Int64} : ∀ G : ez_F, fx_up X 4 G 129 8 [.ref 10] [.long a0] (ev_hp I J R T) cz kz = ev_C G 4 [.ref 11, .int (1 : Int32)] (ev_hp I J R T) fun r h1 c1 k1 => G 129 16 [.ref 10] (r.toList ++ [.long a0]) h1 (cz + c1) (kz + k1) := by
  intro G
  rfl
set_option maxRecDepth 100000 in
theorem ap_r2 {a0 : Int64} {a1 : Int64} : ∀ G : ez_F, fx_up X 5 G 129 16 [.ref 10] [.long a0, .long a1] (ev_hp I J R T) cz kz = ev_C G 4 [.ref 11, .int (2 : Int32)] (ev_hp I J R T) fun r h1 c1 k1 => G 129 25 [.ref 10] (r.toList ++ [.long (a1 ||| a0)]) h1 (cz + c1) (kz + k1) := by
  intro G
  rfl
set_option maxRecDepth 100000 in
theorem ap_r3 {a0 : Int64} {a1 : Int64} : ∀ G : ez_F, fx_up X 2 G 129 25 [.ref 10] [.long a0, .long a1] (ev_hp I J R T) cz kz = some (some (.long (a1 ||| a0)), (ev_hp I J R T), cz, kz) := by
  intro G
  rfl
theorem ap_0 
    (H : Q (some (.long (((ev_atJ 3 (J 11) (0 : Int32)) ||| (ev_atJ 3 (J 11) (1 : Int32))) ||| (ev_atJ 3 (J 11) (2 : Int32))))) (ev_hp I J R T)) : pw (N + 1) X 129 0 [.ref 10] [] (ev_hp I J R T) Q := by
  refine pw_callp (by decide) (fun _ _ => ap_r0) (pe_atJ (show cx_Ds[11]? = some (1, 3, []) from rfl) (by decide)) ?_
  refine pw_p (pw_callp (by decide) (fun _ _ => ap_r1) (pe_atJ (show cx_Ds[11]? = some (1, 3, []) from rfl) (by decide)) ?_)
  refine pw_p (pw_callp (by decide) (fun _ _ => ap_r2) (pe_atJ (show cx_Ds[11]? = some (1, 3, []) from rfl) (by decide)) ?_)
  exact pw_p (pw_ret (by decide) (fun _ _ => ap_r3) H)
end
section
variable {N : Nat} {X : ez_X} {I : Nat → Nat → Int32} {J : Nat → Nat → Int64} {R : Nat → Nat} {T : List ez_C}
theorem pe_allPlaces : pe N X 129 [.ref 10] (ev_hp I J R T) (fun r h => r = some (.long ((ev_atJ 3 (J 11) (0 : Int32) ||| ev_atJ 3 (J 11) (1 : Int32)) ||| ev_atJ 3 (J 11) (2 : Int32))) ∧ h = ev_hp I J R T) := pe_of (pw_p (ap_0 ⟨rfl, rfl⟩))
end
section
variable {N : Nat} {X : ez_X} {I : Nat → Nat → Int32} {J : Nat → Nat → Int64} {R : Nat → Nat} {T : List ez_C} {Q : pw_Q} {cz kz : Nat}
set_option maxRecDepth 100000 in
theorem rp_r0  : ∀ G : ez_F, fx_up X 4 G 134 0 [.ref 10] [] (ev_hp I J R T) cz kz = G 134 4 [.ref 10, .long (0 : Int64), ez_fill, .int (0 : Int32)] [] (ev_hp I J R T) cz kz := by
  intro G
  rfl
theorem sk_0 
    (H : pw N X 134 4 [.ref 10, .long (0 : Int64), ez_fill, .int (0 : Int32)] [] (ev_hp I J R T) Q) : pw (N + 1) X 134 0 [.ref 10] [] (ev_hp I J R T) Q := by
  refine pw_seg (by decide) (fun _ _ => rp_r0) ?_
  exact H
set_option maxRecDepth 100000 in
theorem rp_r1 {a0 : Int64} {a1 : Int32} : ∀ G : ez_F, fx_up X 3 G 134 4 [.ref 10, .long a0, ez_fill, .int a1] [] (ev_hp I J R T) cz kz = bif decide ((3 : Int32) ≤ a1) then G 134 42 [.ref 10, .long a0, ez_fill, .int a1] [] (ev_hp I J R T) cz kz else G 134 9 [.ref 10, .long a0, ez_fill, .int a1] [] (ev_hp I J R T) cz kz := by
  intro G
  rfl
set_option maxRecDepth 100000 in
theorem rp_r2 {a0 : Int64} {a1 : Int32} : ∀ G : ez_F, fx_up X 2 G 134 42 [.ref 10, .long a0, ez_fill, .int a1] [] (ev_hp I J R T) cz kz = some (some (.long a0), (ev_hp I J R T), cz, kz) := by
  intro G
  rfl
set_option maxRecDepth 100000 in
theorem rp_r3 {a0 : Int64} {a1 : Int32} : ∀ G : ez_F, fx_up X 5 G 134 9 [.ref 10, .long a0, ez_fill, .int a1] [] (ev_hp I J R T) cz kz = ev_C G 4 [.ref 11, .int a1] (ev_hp I J R T) fun r h1 c1 k1 => G 134 18 [.ref 10, .long a0, ez_fill, .int a1] (r.toList ++ [.long a0]) h1 (cz + c1) (kz + k1) := by
  intro G
  rfl
set_option maxRecDepth 100000 in
theorem rp_r4 {a0 : Int64} {a1 : Int32} {a2 : Int64} {a3 : Int64} : ∀ G : ez_F, fx_up X 4 G 134 18 [.ref 10, .long a0, ez_fill, .int a1] [.long a2, .long a3] (ev_hp I J R T) cz kz = ev_C G 4 [.ref 12, .int a1] (ev_hp I J R T) fun r h1 c1 k1 => G 134 26 [.ref 10, .long a0, ez_fill, .int a1] (r.toList ++ [.long a2, .long a3]) h1 (cz + c1) (kz + k1) := by
  intro G
  rfl
set_option maxRecDepth 100000 in
theorem rp_r5 {a0 : Int64} {a1 : Int32} {a2 : Int64} {a3 : Int64} {a4 : Int64} : ∀ G : ez_F, fx_up X 4 G 134 26 [.ref 10, .long a0, ez_fill, .int a1] [.long a2, .long a3, .long a4] (ev_hp I J R T) cz kz = ev_C G 36 [.long (a3 &&& (a2 ^^^ (18446744073709551615 : Int64)))] (ev_hp I J R T) fun r h1 c1 k1 => G 134 34 [.ref 10, .long a0, ez_fill, .int a1] (r.toList ++ [.long a4]) h1 (cz + c1) (kz + k1) := by
  intro G
  rfl
set_option maxRecDepth 100000 in
theorem rp_r6 {a0 : Int64} {a1 : Int32} {a2 : Int64} {a3 : Int64} : ∀ G : ez_F, fx_up X 4 G 134 34 [.ref 10, .long a0, ez_fill, .int a1] [.long a2, .long a3] (ev_hp I J R T) cz kz = G 134 4 [.ref 10, .long (a3 ||| a2), ez_fill, .int (a1 + (1 : Int32))] [] (ev_hp I J R T) cz kz := by
  intro G
  rfl
theorem sk_4 {z : Int64} {s : Int32}
    (H : (((3 : Int32) ≤ s → Q (some (.long z)) (ev_hp I J R T)) ∧ (¬ ((3 : Int32) ≤ s) → pw N X 134 4 [.ref 10, .long (z ||| (on1 ((ev_atJ 3 (J 11) s) &&& ((ev_atJ 3 (J 12) s) ^^^ (18446744073709551615 : Int64))))), ez_fill, .int (s + (1 : Int32))] [] (ev_hp I J R T) Q))) : pw (N + 1) X 134 4 [.ref 10, .long z, ez_fill, .int s] [] (ev_hp I J R T) Q := by
  refine pw_if (by decide) (fun _ _ => rp_r1) (fun w1 => ?_) (fun w1 => ?_)
  · have h1 := H.1 w1
    exact pw_p (pw_ret (by decide) (fun _ _ => rp_r2) h1)
  · have h1 := H.2 w1
    refine pw_p (pw_callp (by decide) (fun _ _ => rp_r3) (pe_atJ (show cx_Ds[11]? = some (1, 3, []) from rfl) (by decide)) ?_)
    refine pw_p (pw_callp (by decide) (fun _ _ => rp_r4) (pe_atJ (show cx_Ds[12]? = some (1, 3, []) from rfl) (by decide)) ?_)
    refine pw_p (pw_callp (by decide) (fun _ _ => rp_r5) (pe_onlyOne) ?_)
    refine pw_p (pw_seg (by decide) (fun _ _ => rp_r6) ?_)
    exact h1
set_option maxRecDepth 100000 in
theorem rp_r7 {a0 : Int32} : ∀ G : ez_F, fx_up X 2 G 108 0 [.ref 13, .int a0] [] (ev_hp I J R T) cz kz = G 108 4 [.ref 13, .int a0] [.ref (R 1)] (ev_hp I J R T) cz kz := by
  intro G
  rfl
theorem gq_0 {w : Int32}
    (H : pw N X 108 4 [.ref 13, .int w] [.ref (R 1)] (ev_hp I J R T) Q) : pw (N + 1) X 108 0 [.ref 13, .int w] [] (ev_hp I J R T) Q := by
  refine pw_seg (by decide) (fun _ _ => rp_r7) ?_
  exact H
set_option maxRecDepth 100000 in
theorem rp_r8 {a0 : Int32} {a1 : Int32} : ∀ G : ez_F, fx_up X 2 G 108 5 [.ref 13, .int a0] [.int a1] (ev_hp I J R T) cz kz = ev_C G 19 [.int a1, .int a0] (ev_hp I J R T) fun r h1 c1 k1 => G 108 9 [.ref 13, .int a0] (r.toList ++ []) h1 (cz + c1) (kz + k1) := by
  intro G
  rfl
theorem gq_5 {w l : Int32}
    (H : (∃ Q1 : pw_Q, pe N X 19 [.int l, .int w] (ev_hp I J R T) Q1 ∧ ∀ (r : Option Value) (h1 : ez_H), Q1 r h1 → pw N X 108 9 [.ref 13, .int w] (r.toList ++ []) h1 Q)) : pw (N + 1) X 108 5 [.ref 13, .int w] [.int l] (ev_hp I J R T) Q := by
  obtain ⟨Q1, hc, hk⟩ := H
  exact pw_call (by decide) (fun _ _ => rp_r8) hc hk
set_option maxRecDepth 100000 in
theorem rp_r9 {a0 : Int32} {a1 : Int32} : ∀ G : ez_F, fx_up X 4 G 108 9 [.ref 13, .int a0] [.int a1] (ev_hp I J R T) cz kz = G 108 15 [.ref 13, .int a0, .int a1] [.ref (R 1), .int a0] (ev_hp I J R T) cz kz := by
  intro G
  rfl
theorem gq_9 {w g : Int32}
    (H : pw N X 108 15 [.ref 13, .int w, .int g] [.ref (R 1), .int w] (ev_hp I J R T) Q) : pw (N + 1) X 108 9 [.ref 13, .int w] [.int g] (ev_hp I J R T) Q := by
  refine pw_seg (by decide) (fun _ _ => rp_r9) ?_
  exact H
set_option maxRecDepth 100000 in
theorem rp_r10 {a0 : Int32} {a1 : Int32} {a2 : Int32} {a3 : Int32} : ∀ G : ez_F, fx_up X 1 G 108 16 [.ref 13, .int a0, .int a1] [.int a2, .int a3] (ev_hp I J R T) cz kz = bif decide (a3 ≤ a2) then G 108 49 [.ref 13, .int a0, .int a1] [] (ev_hp I J R T) cz kz else G 108 19 [.ref 13, .int a0, .int a1] [] (ev_hp I J R T) cz kz := by
  intro G
  rfl
set_option maxRecDepth 100000 in
theorem rp_r11 {a0 : Int32} {a1 : Int32} : ∀ G : ez_F, fx_up X 3 G 108 19 [.ref 13, .int a0, .int a1] [] (ev_hp I J R T) cz kz = G 108 24 [.ref 13, .int a0, .int a1] [.ref (R 1), .int a1] (ev_hp I J R T) cz kz := by
  intro G
  rfl
theorem gq_16 {w g l : Int32}
    (H : ((w ≤ l → pw N X 108 49 [.ref 13, .int w, .int g] [] (ev_hp I J R T) Q) ∧ (¬ (w ≤ l) → pw N X 108 24 [.ref 13, .int w, .int g] [.ref (R 1), .int g] (ev_hp I J R T) Q))) : pw (N + 1) X 108 16 [.ref 13, .int w, .int g] [.int l, .int w] (ev_hp I J R T) Q := by
  refine pw_if (by decide) (fun _ _ => rp_r10) (fun w1 => ?_) (fun w1 => ?_)
  · have h1 := H.1 w1
    exact h1
  · have h1 := H.2 w1
    refine pw_p (pw_seg (by decide) (fun _ _ => rp_r11) ?_)
    exact h1
set_option maxRecDepth 100000 in
theorem rp_r12 {a0 : Int32} {a1 : Int32} {a2 : Int32} {a3 : Int32} : ∀ G : ez_F, fx_up X 1 G 108 25 [.ref 13, .int a0, .int a1] [.int a2, .int a3] (ev_hp I J R T) cz kz = bif decide (a3 ≤ a2) then G 108 49 [.ref 13, .int a0, .int a1] [] (ev_hp I J R T) cz kz else G 108 28 [.ref 13, .int a0, .int a1] [] (ev_hp I J R T) cz kz := by
  intro G
  rfl
set_option maxRecDepth 100000 in
theorem rp_r13 {a0 : Int32} {a1 : Int32} : ∀ G : ez_F, fx_up X 2 G 108 28 [.ref 13, .int a0, .int a1] [] (ev_hp I J R T) cz kz = G 108 30 [.ref 13, .int a0, .int a1] [.int a1, .ref 13] (ev_hp I J R T) cz kz := by
  intro G
  rfl
theorem gq_25 {w g l : Int32}
    (H : ((g ≤ l → pw N X 108 49 [.ref 13, .int w, .int g] [] (ev_hp I J R T) Q) ∧ (¬ (g ≤ l) → pw N X 108 30 [.ref 13, .int w, .int g] [.int g, .ref 13] (ev_hp I J R T) Q))) : pw (N + 1) X 108 25 [.ref 13, .int w, .int g] [.int l, .int g] (ev_hp I J R T) Q := by
  refine pw_if (by decide) (fun _ _ => rp_r12) (fun w1 => ?_) (fun w1 => ?_)
  · have h1 := H.1 w1
    exact h1
  · have h1 := H.2 w1
    refine pw_p (pw_seg (by decide) (fun _ _ => rp_r13) ?_)
    exact h1
set_option maxRecDepth 100000 in
theorem rp_r14 {a0 : Int32} {a1 : Int32} {a2 : Nat} : ∀ G : ez_F, fx_up X 1 G 108 32 [.ref 13, .int a0, .int a1] [.ref a2, .ref 13] (ev_hp I J R T) cz kz = G 108 35 [.ref 13, .int a0, .int a1] [] (ev_hp I J (ev_sR R 1 a2) T) cz kz := by
  intro G
  rfl
set_option maxRecDepth 100000 in
theorem rp_r15 {a0 : Int32} {a1 : Int32} : ∀ G : ez_F, fx_up X 2 G 108 35 [.ref 13, .int a0, .int a1] [] (ev_hp I J R T) cz kz = G 108 37 [.ref 13, .int a0, .int a1] [.int a1, .ref 13] (ev_hp I J R T) cz kz := by
  intro G
  rfl
theorem gq_32 {w g : Int32} {p : Nat}
    (H : pw N X 108 37 [.ref 13, .int w, .int g] [.int g, .ref 13] (ev_hp I J (ev_sR R 1 (p)) T) Q) : pw (N + 1) X 108 32 [.ref 13, .int w, .int g] [.ref (p), .ref 13] (ev_hp I J R T) Q := by
  refine pw_seg (by decide) (fun _ _ => rp_r14) ?_
  refine pw_p (pw_seg (by decide) (fun _ _ => rp_r15) ?_)
  exact H
set_option maxRecDepth 100000 in
theorem rp_r16 {a0 : Int32} {a1 : Int32} {a2 : Nat} : ∀ G : ez_F, fx_up X 1 G 108 39 [.ref 13, .int a0, .int a1] [.ref a2, .ref 13] (ev_hp I J R T) cz kz = G 108 42 [.ref 13, .int a0, .int a1] [] (ev_hp I J (ev_sR R 2 a2) T) cz kz := by
  intro G
  rfl
set_option maxRecDepth 100000 in
theorem rp_r17 {a0 : Int32} {a1 : Int32} : ∀ G : ez_F, fx_up X 2 G 108 42 [.ref 13, .int a0, .int a1] [] (ev_hp I J R T) cz kz = G 108 44 [.ref 13, .int a0, .int a1] [.int a1, .ref 13] (ev_hp I J R T) cz kz := by
  intro G
  rfl
theorem gq_39 {w g : Int32} {p : Nat}
    (H : pw N X 108 44 [.ref 13, .int w, .int g] [.int g, .ref 13] (ev_hp I J (ev_sR R 2 (p)) T) Q) : pw (N + 1) X 108 39 [.ref 13, .int w, .int g] [.ref (p), .ref 13] (ev_hp I J R T) Q := by
  refine pw_seg (by decide) (fun _ _ => rp_r16) ?_
  refine pw_p (pw_seg (by decide) (fun _ _ => rp_r17) ?_)
  exact H
set_option maxRecDepth 100000 in
theorem rp_r18 {a0 : Int32} {a1 : Int32} {a2 : Nat} : ∀ G : ez_F, fx_up X 1 G 108 46 [.ref 13, .int a0, .int a1] [.ref a2, .ref 13] (ev_hp I J R T) cz kz = G 108 49 [.ref 13, .int a0, .int a1] [] (ev_hp I J (ev_sR R 3 a2) T) cz kz := by
  intro G
  rfl
set_option maxRecDepth 100000 in
theorem rp_r19 {a0 : Int32} {a1 : Int32} : ∀ G : ez_F, fx_up X 1 G 108 49 [.ref 13, .int a0, .int a1] [] (ev_hp I J R T) cz kz = some (none, (ev_hp I J R T), cz, kz) := by
  intro G
  rfl
theorem gq_46 {w g : Int32} {p : Nat}
    (H : Q none (ev_hp I J (ev_sR R 3 (p)) T)) : pw (N + 1) X 108 46 [.ref 13, .int w, .int g] [.ref (p), .ref 13] (ev_hp I J R T) Q := by
  refine pw_seg (by decide) (fun _ _ => rp_r18) ?_
  exact pw_p (pw_ret (by decide) (fun _ _ => rp_r19) H)
theorem gq_49 {w g : Int32}
    (H : Q none (ev_hp I J R T)) : pw (N + 1) X 108 49 [.ref 13, .int w, .int g] [] (ev_hp I J R T) Q := by
  exact pw_ret (by decide) (fun _ _ => rp_r19) H
set_option maxRecDepth 100000 in
theorem rp_r20  : ∀ G : ez_F, fx_up X 2 G 112 0 [.ref 13] [] (ev_hp I J R T) cz kz = G 112 4 [.ref 13] [.int (I 13 8)] (ev_hp I J R T) cz kz := by
  intro G
  rfl
set_option maxRecDepth 100000 in
theorem rp_r21 {a0 : Int32} : ∀ G : ez_F, fx_up X 1 G 112 4 [.ref 13] [.int a0] (ev_hp I J R T) cz kz = bif decide (a0 = (0 : Int32)) then G 112 8 [.ref 13] [] (ev_hp I J R T) cz kz else G 112 7 [.ref 13] [] (ev_hp I J R T) cz kz := by
  intro G
  rfl
set_option maxRecDepth 100000 in
theorem rp_r22  : ∀ G : ez_F, fx_up X 4 G 112 8 [.ref 13] [] (ev_hp I J R T) cz kz = G 112 16 [.ref 13] [.int (I 6 3), .ref 13] (ev_hp I J R T) cz kz := by
  intro G
  rfl
set_option maxRecDepth 100000 in
theorem rp_r23 {a0 : Int32} : ∀ G : ez_F, fx_up X 1 G 112 16 [.ref 13] [.int a0, .ref 13] (ev_hp I J R T) cz kz = ev_C G 108 [.ref 13, .int a0] (ev_hp I J R T) fun r h1 c1 k1 => G 112 19 [.ref 13] (r.toList ++ []) h1 (cz + c1) (kz + k1) := by
  intro G
  rfl
set_option maxRecDepth 100000 in
theorem rp_r24  : ∀ G : ez_F, fx_up X 1 G 112 7 [.ref 13] [] (ev_hp I J R T) cz kz = some (none, (ev_hp I J R T), cz, kz) := by
  intro G
  rfl
theorem rp_0 
    (H : (((I 13 8) = (0 : Int32) → (∃ Q1 : pw_Q, pe N X 108 [.ref 13, .int (I 6 3)] (ev_hp I J R T) Q1 ∧ ∀ (r : Option Value) (h1 : ez_H), Q1 r h1 → pw N X 112 19 [.ref 13] (r.toList ++ []) h1 Q)) ∧ (¬ ((I 13 8) = (0 : Int32)) → Q none (ev_hp I J R T)))) : pw (N + 1) X 112 0 [.ref 13] [] (ev_hp I J R T) Q := by
  refine pw_seg (by decide) (fun _ _ => rp_r20) ?_
  refine pw_p (pw_if (by decide) (fun _ _ => rp_r21) (fun w1 => ?_) (fun w1 => ?_))
  · have h1 := H.1 w1
    refine pw_p (pw_seg (by decide) (fun _ _ => rp_r22) ?_)
    obtain ⟨Q1, hc, hk⟩ := h1
    exact pw_p (pw_call (by decide) (fun _ _ => rp_r23) hc hk)
  · have h1 := H.2 w1
    exact pw_p (pw_ret (by decide) (fun _ _ => rp_r24) h1)
set_option maxRecDepth 100000 in
theorem rp_r25  : ∀ G : ez_F, fx_up X 4 G 112 19 [.ref 13] [] (ev_hp I J R T) cz kz = ev_C G 152 [.ref 1, .int (1 : Int32)] (ev_hp I J R T) fun r h1 c1 k1 => G 112 27 [.ref 13] (r.toList ++ []) h1 (cz + c1) (kz + k1) := by
  intro G
  rfl
set_option maxRecDepth 100000 in
theorem rp_r26 {a0 : Int32} : ∀ G : ez_F, fx_up X 2 G 112 27 [.ref 13] [.int a0] (ev_hp I J R T) cz kz = bif decide (¬ a0 = (1 : Int32)) then G 112 35 [.ref 13] [] (ev_hp I J R T) cz kz else G 112 31 [.ref 13] [] (ev_hp I J R T) cz kz := by
  intro G
  rfl
set_option maxRecDepth 100000 in
theorem rp_r27  : ∀ G : ez_F, fx_up X 4 G 112 35 [.ref 13] [] (ev_hp I J R T) cz kz = G 112 39 [.ref 13, .int (0 : Int32), .int (0 : Int32)] [] (ev_hp I J R T) cz kz := by
  intro G
  rfl
set_option maxRecDepth 100000 in
theorem rp_r28  : ∀ G : ez_F, fx_up X 5 G 112 31 [.ref 13] [] (ev_hp I J R T) cz kz = G 112 39 [.ref 13, .int (1 : Int32), .int (0 : Int32)] [] (ev_hp I J R T) cz kz := by
  intro G
  rfl
theorem rp_19 
    (H : ((¬ (ev_at 3 (I 2) (1 : Int32)) = (1 : Int32) → pw N X 112 39 [.ref 13, .int (0 : Int32), .int (0 : Int32)] [] (ev_hp I J R T) Q) ∧ (¬ (¬ (ev_at 3 (I 2) (1 : Int32)) = (1 : Int32)) → pw N X 112 39 [.ref 13, .int (1 : Int32), .int (0 : Int32)] [] (ev_hp I J R T) Q))) : pw (N + 1) X 112 19 [.ref 13] [] (ev_hp I J R T) Q := by
  refine pw_callp (by decide) (fun _ _ => rp_r25) (pe_rule2) ?_
  refine pw_p (pw_if (by decide) (fun _ _ => rp_r26) (fun w1 => ?_) (fun w1 => ?_))
  · have h1 := H.1 w1
    refine pw_p (pw_seg (by decide) (fun _ _ => rp_r27) ?_)
    exact h1
  · have h1 := H.2 w1
    refine pw_p (pw_seg (by decide) (fun _ _ => rp_r28) ?_)
    exact h1
set_option maxRecDepth 100000 in
theorem rp_r29 {a0 : Int32} {a1 : Int32} : ∀ G : ez_F, fx_up X 4 G 112 39 [.ref 13, .int a0, .int a1] [] (ev_hp I J R T) cz kz = G 112 47 [.ref 13, .int a0, .int a1] [.int (I 6 3), .int a1] (ev_hp I J R T) cz kz := by
  intro G
  rfl
set_option maxRecDepth 100000 in
theorem rp_r30 {a0 : Int32} {a1 : Int32} {a2 : Int32} {a3 : Int32} : ∀ G : ez_F, fx_up X 1 G 112 47 [.ref 13, .int a0, .int a1] [.int a2, .int a3] (ev_hp I J R T) cz kz = bif decide (a2 ≤ a3) then G 112 117 [.ref 13, .int a0, .int a1] [] (ev_hp I J R T) cz kz else G 112 50 [.ref 13, .int a0, .int a1] [] (ev_hp I J R T) cz kz := by
  intro G
  rfl
set_option maxRecDepth 100000 in
theorem rp_r31 {a0 : Int32} {a1 : Int32} : ∀ G : ez_F, fx_up X 3 G 112 117 [.ref 13, .int a0, .int a1] [] (ev_hp I J R T) cz kz = G 112 122 [.ref 13, .int a0, .int a1] [] (ev_hp (ev_sI I 13 (upd (I 13) 8 (1 : Int32))) J R T) cz kz := by
  intro G
  rfl
set_option maxRecDepth 100000 in
theorem rp_r32 {a0 : Int32} {a1 : Int32} : ∀ G : ez_F, fx_up X 1 G 112 122 [.ref 13, .int a0, .int a1] [] (ev_hp I J R T) cz kz = some (none, (ev_hp I J R T), cz, kz) := by
  intro G
  rfl
set_option maxRecDepth 100000 in
theorem rp_r33 {a0 : Int32} {a1 : Int32} : ∀ G : ez_F, fx_up X 2 G 112 50 [.ref 13, .int a0, .int a1] [] (ev_hp I J R T) cz kz = G 112 54 [.ref 13, .int a0, .int a1] [.ref (R 1)] (ev_hp I J R T) cz kz := by
  intro G
  rfl
set_option maxRecDepth 100000 in
theorem rp_r34 {a0 : Int32} {a1 : Int32} {a2 : Nat} : ∀ G : ez_F, fx_up X 7 G 112 54 [.ref 13, .int a0, .int a1] [.ref a2] (ev_hp I J R T) cz kz = G 112 67 [.ref 13, .int a0, .int a1] [.int (I 8 1), .int a1, .ref 10, .int a1, .ref a2] (ev_hp I J R T) cz kz := by
  intro G
  rfl
set_option maxRecDepth 100000 in
theorem rp_r35 {a0 : Int32} {a1 : Int32} {a2 : Int32} {a3 : Int32} {a4 : Int32} {a5 : Nat} : ∀ G : ez_F, fx_up X 1 G 112 67 [.ref 13, .int a0, .int a1] [.int a2, .int a3, .ref 10, .int a4, .ref a5] (ev_hp I J R T) cz kz = ev_C G 135 [.ref 10, .int a3, .int a2] (ev_hp I J R T) fun r h1 c1 k1 => G 112 70 [.ref 13, .int a0, .int a1] (r.toList ++ [.int a4, .ref a5]) h1 (cz + c1) (kz + k1) := by
  intro G
  rfl
theorem rp_39 {b k : Int32}
    (H : (((I 6 3) ≤ k → Q none (ev_hp (ev_sI I 13 (upd (I 13) 8 (1 : Int32))) J R T)) ∧ (¬ ((I 6 3) ≤ k) → (∃ Q1 : pw_Q, pe N X 135 [.ref 10, .int k, .int (I 8 1)] (ev_hp I J R T) Q1 ∧ ∀ (r : Option Value) (h1 : ez_H), Q1 r h1 → pw N X 112 70 [.ref 13, .int b, .int k] (r.toList ++ [.int k, .ref (R 1)]) h1 Q)))) : pw (N + 1) X 112 39 [.ref 13, .int b, .int k] [] (ev_hp I J R T) Q := by
  refine pw_seg (by decide) (fun _ _ => rp_r29) ?_
  refine pw_p (pw_if (by decide) (fun _ _ => rp_r30) (fun w1 => ?_) (fun w1 => ?_))
  · have h1 := H.1 w1
    refine pw_p (pw_seg (by decide) (fun _ _ => rp_r31) ?_)
    exact pw_p (pw_ret (by decide) (fun _ _ => rp_r32) h1)
  · have h1 := H.2 w1
    refine pw_p (pw_seg (by decide) (fun _ _ => rp_r33) ?_)
    refine pw_p (pw_seg (by decide) (fun _ _ => rp_r34) ?_)
    obtain ⟨Q1, hc, hk⟩ := h1
    exact pw_p (pw_call (by decide) (fun _ _ => rp_r35) hc hk)
set_option maxRecDepth 100000 in
theorem rp_r36 {a0 : Int32} {a1 : Int32} {a2 : Int64} {a3 : Int32} {a4 : Nat} : ∀ G : ez_F, fx_up X 1 G 112 70 [.ref 13, .int a0, .int a1] [.long a2, .int a3, .ref a4] (ev_hp I J R T) cz kz = ev_C G 39 [.ref a4, .int a3, .long a2] (ev_hp I J R T) fun r h1 c1 k1 => G 112 73 [.ref 13, .int a0, .int a1] (r.toList ++ []) h1 (cz + c1) (kz + k1) := by
  intro G
  rfl
theorem rp_70 {b k : Int32} {z : Int64} {p : Nat}
    (H : (∃ Q1 : pw_Q, pe N X 39 [.ref (p), .int k, .long z] (ev_hp I J R T) Q1 ∧ ∀ (r : Option Value) (h1 : ez_H), Q1 r h1 → pw N X 112 73 [.ref 13, .int b, .int k] (r.toList ++ []) h1 Q)) : pw (N + 1) X 112 70 [.ref 13, .int b, .int k] [.long z, .int k, .ref (p)] (ev_hp I J R T) Q := by
  obtain ⟨Q1, hc, hk⟩ := H
  exact pw_call (by decide) (fun _ _ => rp_r36) hc hk
set_option maxRecDepth 100000 in
theorem rp_r37 {a0 : Int32} {a1 : Int32} : ∀ G : ez_F, fx_up X 2 G 112 73 [.ref 13, .int a0, .int a1] [] (ev_hp I J R T) cz kz = G 112 77 [.ref 13, .int a0, .int a1] [.ref (R 2)] (ev_hp I J R T) cz kz := by
  intro G
  rfl
set_option maxRecDepth 100000 in
theorem rp_r38 {a0 : Int32} {a1 : Int32} {a2 : Nat} : ∀ G : ez_F, fx_up X 4 G 112 77 [.ref 13, .int a0, .int a1] [.ref a2] (ev_hp I J R T) cz kz = ev_C G 129 [.ref 10] (ev_hp I J R T) fun r h1 c1 k1 => G 112 85 [.ref 13, .int a0, .int a1] (r.toList ++ [.int a1, .ref a2]) h1 (cz + c1) (kz + k1) := by
  intro G
  rfl
set_option maxRecDepth 100000 in
theorem rp_r39 {a0 : Int32} {a1 : Int32} {a2 : Int64} {a3 : Int32} {a4 : Nat} : ∀ G : ez_F, fx_up X 1 G 112 85 [.ref 13, .int a0, .int a1] [.long a2, .int a3, .ref a4] (ev_hp I J R T) cz kz = ev_C G 39 [.ref a4, .int a3, .long a2] (ev_hp I J R T) fun r h1 c1 k1 => G 112 88 [.ref 13, .int a0, .int a1] (r.toList ++ []) h1 (cz + c1) (kz + k1) := by
  intro G
  rfl
theorem rp_73 {b k : Int32}
    (H : (∃ Q1 : pw_Q, pe N X 39 [.ref (R 2), .int k, .long (((ev_atJ 3 (J 11) (0 : Int32)) ||| (ev_atJ 3 (J 11) (1 : Int32))) ||| (ev_atJ 3 (J 11) (2 : Int32)))] (ev_hp I J R T) Q1 ∧ ∀ (r : Option Value) (h1 : ez_H), Q1 r h1 → pw N X 112 88 [.ref 13, .int b, .int k] (r.toList ++ []) h1 Q)) : pw (N + 1) X 112 73 [.ref 13, .int b, .int k] [] (ev_hp I J R T) Q := by
  refine pw_seg (by decide) (fun _ _ => rp_r37) ?_
  refine pw_p (pw_callp (by decide) (fun _ _ => rp_r38) (pe_allPlaces) ?_)
  obtain ⟨Q1, hc, hk⟩ := H
  exact pw_p (pw_call (by decide) (fun _ _ => rp_r39) hc hk)
set_option maxRecDepth 100000 in
theorem rp_r40 {a0 : Int32} {a1 : Int32} : ∀ G : ez_F, fx_up X 2 G 112 88 [.ref 13, .int a0, .int a1] [] (ev_hp I J R T) cz kz = G 112 92 [.ref 13, .int a0, .int a1] [.ref (R 3)] (ev_hp I J R T) cz kz := by
  intro G
  rfl
set_option maxRecDepth 100000 in
theorem rp_r41 {a0 : Int32} {a1 : Int32} {a2 : Nat} : ∀ G : ez_F, fx_up X 3 G 112 92 [.ref 13, .int a0, .int a1] [.ref a2] (ev_hp I J R T) cz kz = bif decide (a0 = (0 : Int32)) then G 112 107 [.ref 13, .int a0, .int a1] [.int a1, .ref a2] (ev_hp I J R T) cz kz else G 112 97 [.ref 13, .int a0, .int a1] [.int a1, .ref a2] (ev_hp I J R T) cz kz := by
  intro G
  rfl
set_option maxRecDepth 100000 in
theorem rp_r42 {a0 : Int32} {a1 : Int32} {a2 : Int32} {a3 : Nat} : ∀ G : ez_F, fx_up X 1 G 112 107 [.ref 13, .int a0, .int a1] [.int a2, .ref a3] (ev_hp I J R T) cz kz = G 112 108 [.ref 13, .int a0, .int a1] [.long (0 : Int64), .int a2, .ref a3] (ev_hp I J R T) cz kz := by
  intro G
  rfl
set_option maxRecDepth 100000 in
theorem rp_r43 {a0 : Int32} {a1 : Int32} {a2 : Int32} {a3 : Nat} : ∀ G : ez_F, fx_up X 3 G 112 97 [.ref 13, .int a0, .int a1] [.int a2, .ref a3] (ev_hp I J R T) cz kz = ev_C G 134 [.ref 10] (ev_hp I J R T) fun r h1 c1 k1 => G 112 104 [.ref 13, .int a0, .int a1] (r.toList ++ [.int a2, .ref a3]) h1 (cz + c1) (kz + k1) := by
  intro G
  rfl
theorem rp_88 {b k : Int32}
    (H : ((b = (0 : Int32) → pw N X 112 108 [.ref 13, .int b, .int k] [.long (0 : Int64), .int k, .ref (R 3)] (ev_hp I J R T) Q) ∧ (¬ (b = (0 : Int32)) → (∃ Q1 : pw_Q, pe N X 134 [.ref 10] (ev_hp I J R T) Q1 ∧ ∀ (r : Option Value) (h1 : ez_H), Q1 r h1 → pw N X 112 104 [.ref 13, .int b, .int k] (r.toList ++ [.int k, .ref (R 3)]) h1 Q)))) : pw (N + 1) X 112 88 [.ref 13, .int b, .int k] [] (ev_hp I J R T) Q := by
  refine pw_seg (by decide) (fun _ _ => rp_r40) ?_
  refine pw_p (pw_if (by decide) (fun _ _ => rp_r41) (fun w1 => ?_) (fun w1 => ?_))
  · have h1 := H.1 w1
    refine pw_p (pw_seg (by decide) (fun _ _ => rp_r42) ?_)
    exact h1
  · have h1 := H.2 w1
    obtain ⟨Q1, hc, hk⟩ := h1
    exact pw_p (pw_call (by decide) (fun _ _ => rp_r43) hc hk)
set_option maxRecDepth 100000 in
theorem rp_r44 {a0 : Int32} {a1 : Int32} {a2 : Int64} {a3 : Int32} {a4 : Nat} : ∀ G : ez_F, fx_up X 1 G 112 104 [.ref 13, .int a0, .int a1] [.long a2, .int a3, .ref a4] (ev_hp I J R T) cz kz = G 112 108 [.ref 13, .int a0, .int a1] [.long a2, .int a3, .ref a4] (ev_hp I J R T) cz kz := by
  intro G
  rfl
theorem rp_104 {b k : Int32} {z : Int64} {p : Nat}
    (H : pw N X 112 108 [.ref 13, .int b, .int k] [.long z, .int k, .ref (p)] (ev_hp I J R T) Q) : pw (N + 1) X 112 104 [.ref 13, .int b, .int k] [.long z, .int k, .ref (p)] (ev_hp I J R T) Q := by
  refine pw_seg (by decide) (fun _ _ => rp_r44) ?_
  exact H
set_option maxRecDepth 100000 in
theorem rp_r45 {a0 : Int32} {a1 : Int32} {a2 : Int64} {a3 : Int32} {a4 : Nat} : ∀ G : ez_F, fx_up X 1 G 112 108 [.ref 13, .int a0, .int a1] [.long a2, .int a3, .ref a4] (ev_hp I J R T) cz kz = ev_C G 39 [.ref a4, .int a3, .long a2] (ev_hp I J R T) fun r h1 c1 k1 => G 112 111 [.ref 13, .int a0, .int a1] (r.toList ++ []) h1 (cz + c1) (kz + k1) := by
  intro G
  rfl
theorem rp_108 {b k : Int32} {z : Int64} {p : Nat}
    (H : (∃ Q1 : pw_Q, pe N X 39 [.ref (p), .int k, .long z] (ev_hp I J R T) Q1 ∧ ∀ (r : Option Value) (h1 : ez_H), Q1 r h1 → pw N X 112 111 [.ref 13, .int b, .int k] (r.toList ++ []) h1 Q)) : pw (N + 1) X 112 108 [.ref 13, .int b, .int k] [.long z, .int k, .ref (p)] (ev_hp I J R T) Q := by
  obtain ⟨Q1, hc, hk⟩ := H
  exact pw_call (by decide) (fun _ _ => rp_r45) hc hk
set_option maxRecDepth 100000 in
theorem rp_r46 {a0 : Int32} {a1 : Int32} : ∀ G : ez_F, fx_up X 2 G 112 111 [.ref 13, .int a0, .int a1] [] (ev_hp I J R T) cz kz = G 112 39 [.ref 13, .int a0, .int (a1 + (1 : Int32))] [] (ev_hp I J R T) cz kz := by
  intro G
  rfl
theorem rp_111 {b k : Int32}
    (H : pw N X 112 39 [.ref 13, .int b, .int (k + (1 : Int32))] [] (ev_hp I J R T) Q) : pw (N + 1) X 112 111 [.ref 13, .int b, .int k] [] (ev_hp I J R T) Q := by
  refine pw_seg (by decide) (fun _ _ => rp_r46) ?_
  exact H
set_option maxRecDepth 100000 in
theorem rp_r47 {a0 : Int32} : ∀ G : ez_F, fx_up X 2 G 113 0 [.ref 13, .int a0] [] (ev_hp I J R T) cz kz = G 113 4 [.ref 13, .int a0] [.ref (R 1)] (ev_hp I J R T) cz kz := by
  intro G
  rfl
set_option maxRecDepth 100000 in
theorem rp_r48 {a0 : Int32} {a1 : Nat} : ∀ G : ez_F, fx_up X 2 G 113 4 [.ref 13, .int a0] [.ref a1] (ev_hp I J R T) cz kz = ev_C G 4 [.ref a1, .int a0] (ev_hp I J R T) fun r h1 c1 k1 => G 113 8 [.ref 13, .int a0] (r.toList ++ []) h1 (cz + c1) (kz + k1) := by
  intro G
  rfl
theorem wg_0 {k : Int32}
    (H : (∃ Q1 : pw_Q, pe N X 4 [.ref (R 1), .int k] (ev_hp I J R T) Q1 ∧ ∀ (r : Option Value) (h1 : ez_H), Q1 r h1 → pw N X 113 8 [.ref 13, .int k] (r.toList ++ []) h1 Q)) : pw (N + 1) X 113 0 [.ref 13, .int k] [] (ev_hp I J R T) Q := by
  refine pw_seg (by decide) (fun _ _ => rp_r47) ?_
  obtain ⟨Q1, hc, hk⟩ := H
  exact pw_p (pw_call (by decide) (fun _ _ => rp_r48) hc hk)
set_option maxRecDepth 100000 in
theorem rp_r49 {a0 : Int32} {a1 : Int64} : ∀ G : ez_F, fx_up X 3 G 113 8 [.ref 13, .int a0] [.long a1] (ev_hp I J R T) cz kz = G 113 15 [.ref 13, .int a0] [.long (J 8 2), .long a1] (ev_hp I J R T) cz kz := by
  intro G
  rfl
set_option maxRecDepth 100000 in
theorem rp_r50 {a0 : Int32} {a1 : Int64} {a2 : Int64} : ∀ G : ez_F, fx_up X 10 G 113 15 [.ref 13, .int a0] [.long a1, .long a2] (ev_hp I J R T) cz kz = G 113 29 [.ref 13, .int a0, .long (a2 ^^^ a1), ez_fill] [.long (J 8 3), .long ((a2 ^^^ a1) ||| ((a2 ^^^ a1).toUInt64 >>> ((1 : Int32).toInt64.toUInt64 &&& Int64.toUInt64 63)).toInt64)] (ev_hp I J R T) cz kz := by
  intro G
  rfl
set_option maxRecDepth 100000 in
theorem rp_r51 {a0 : Int32} {a1 : Int64} {a2 : Int64} {a3 : Int64} : ∀ G : ez_F, fx_up X 2 G 113 29 [.ref 13, .int a0, .long a1, ez_fill] [.long a2, .long a3] (ev_hp I J R T) cz kz = some (some (.long (a3 &&& a2)), (ev_hp I J R T), cz, kz) := by
  intro G
  rfl
theorem wg_8 {k : Int32} {z : Int64}
    (H : Q (some (.long (((z ^^^ (J 8 2)) ||| ((z ^^^ (J 8 2)).toUInt64 >>> ((1 : Int32).toInt64.toUInt64 &&& Int64.toUInt64 63)).toInt64) &&& (J 8 3)))) (ev_hp I J R T)) : pw (N + 1) X 113 8 [.ref 13, .int k] [.long z] (ev_hp I J R T) Q := by
  refine pw_seg (by decide) (fun _ _ => rp_r49) ?_
  refine pw_p (pw_seg (by decide) (fun _ _ => rp_r50) ?_)
  exact pw_p (pw_ret (by decide) (fun _ _ => rp_r51) H)
set_option maxRecDepth 100000 in
theorem rp_r52 {a0 : Int32} : ∀ G : ez_F, fx_up X 3 G 109 0 [.ref 13, .int a0] [] (ev_hp I J R T) cz kz = ev_C G 113 [.ref 13, .int a0] (ev_hp I J R T) fun r h1 c1 k1 => G 109 5 [.ref 13, .int a0] (r.toList ++ []) h1 (cz + c1) (kz + k1) := by
  intro G
  rfl
theorem il_0x {k : Int32}
    (H : (∃ Q1 : pw_Q, pe N X 113 [.ref 13, .int k] (ev_hp I J R T) Q1 ∧ ∀ (r : Option Value) (h1 : ez_H), Q1 r h1 → pw N X 109 5 [.ref 13, .int k] (r.toList ++ []) h1 Q)) : pw (N + 1) X 109 0 [.ref 13, .int k] [] (ev_hp I J R T) Q := by
  obtain ⟨Q1, hc, hk⟩ := H
  exact pw_call (by decide) (fun _ _ => rp_r52) hc hk
set_option maxRecDepth 100000 in
theorem rp_r53 {a0 : Int32} {a1 : Int64} : ∀ G : ez_F, fx_up X 1 G 109 5 [.ref 13, .int a0] [.long a1] (ev_hp I J R T) cz kz = ev_C G 237 [.long a1] (ev_hp I J R T) fun r h1 c1 k1 => G 109 8 [.ref 13, .int a0] (r.toList ++ []) h1 (cz + c1) (kz + k1) := by
  intro G
  rfl
set_option maxRecDepth 100000 in
theorem rp_r54 {a0 : Int32} {a1 : Int32} : ∀ G : ez_F, fx_up X 4 G 109 8 [.ref 13, .int a0] [.int a1] (ev_hp I J R T) cz kz = ev_C G 152 [.ref 1, .int (2 : Int32)] (ev_hp I J R T) fun r h1 c1 k1 => G 109 16 [.ref 13, .int a0] (r.toList ++ [.int a1]) h1 (cz + c1) (kz + k1) := by
  intro G
  rfl
set_option maxRecDepth 100000 in
theorem rp_r55 {a0 : Int32} {a1 : Int32} {a2 : Int32} : ∀ G : ez_F, fx_up X 1 G 109 16 [.ref 13, .int a0] [.int a1, .int a2] (ev_hp I J R T) cz kz = bif decide (a1 < a2) then G 109 23 [.ref 13, .int a0] [] (ev_hp I J R T) cz kz else G 109 19 [.ref 13, .int a0] [] (ev_hp I J R T) cz kz := by
  intro G
  rfl
set_option maxRecDepth 100000 in
theorem rp_r56 {a0 : Int32} : ∀ G : ez_F, fx_up X 1 G 109 23 [.ref 13, .int a0] [] (ev_hp I J R T) cz kz = G 109 24 [.ref 13, .int a0] [.int (0 : Int32)] (ev_hp I J R T) cz kz := by
  intro G
  rfl
set_option maxRecDepth 100000 in
theorem rp_r57 {a0 : Int32} : ∀ G : ez_F, fx_up X 2 G 109 19 [.ref 13, .int a0] [] (ev_hp I J R T) cz kz = G 109 24 [.ref 13, .int a0] [.int (1 : Int32)] (ev_hp I J R T) cz kz := by
  intro G
  rfl
theorem il_5x {k : Int32} {z : Int64}
    (H : (((ev_at 3 (I 2) (2 : Int32)) < (ev_bcJ z) → ((0 : Int32) = 0 ∨ (0 : Int32) = 1 → Q (some (.int (0 : Int32))) (ev_hp I J R T))) ∧ (¬ ((ev_at 3 (I 2) (2 : Int32)) < (ev_bcJ z)) → ((1 : Int32) = 0 ∨ (1 : Int32) = 1 → Q (some (.int (1 : Int32))) (ev_hp I J R T))))) : pw (N + 1) X 109 5 [.ref 13, .int k] [.long z] (ev_hp I J R T) Q := by
  refine pw_callp (by decide) (fun _ _ => rp_r53) (pe_is (ec_bcJ _ _ _)) ?_
  refine pw_p (pw_callp (by decide) (fun _ _ => rp_r54) (pe_rule2) ?_)
  refine pw_p (pw_if (by decide) (fun _ _ => rp_r55) (fun w1 => ?_) (fun w1 => ?_))
  · have h1 := H.1 w1
    refine pw_p (pw_seg (by decide) (fun _ _ => rp_r56) ?_)
    exact pw_p (pw_zret (by rfl) h1)
  · have h1 := H.2 w1
    refine pw_p (pw_seg (by decide) (fun _ _ => rp_r57) ?_)
    exact pw_p (pw_zret (by rfl) h1)
end
/-! rows of longs, made anew or none yet -/
def rowJ (p : Nat) (T : List ez_C) (n : Nat) (g : Nat → Int64) : Prop := (n = 0 ∧ ∃ t, cx_Ds[p]? = some (1, 0, t)) ∨ (65 ≤ p ∧ T[p - 65]? = some (.inl (n, .inr (.inl g))))
theorem putJ0 (g : Nat → Int64) (i : Int32) (y : Int64) : ev_putJ 0 g i y = g := by
  unfold ev_putJ
  split
  · rfl
  · split
    · rfl
    · rename_i a b
      exact absurd (Int32.not_lt.mp a) b
section
variable {N : Nat} {X : ez_X} {I : Nat → Nat → Int32} {J : Nat → Nat → Int64} {R : Nat → Nat} {T T' : List ez_C} {p q n m : Nat} {g g' : Nat → Int64} {f : Nat → Int32} {i : Int32} {y : Int64}
theorem rowJ_hp (h : rowJ p T n g) : ∃ g', (ev_hp I J R T)[p]? = some (.inl (n, .inr (.inl g'))) ∧ (n = 0 ∨ g' = g) := by
  rcases h with ⟨rfl, t, h⟩ | ⟨h1, h2⟩
  · exact ⟨J p, cx_getJ h, Or.inl rfl⟩
  · exact ⟨g, by rw [cx_tlen rfl h1]; exact h2, Or.inr rfl⟩
theorem rowJ_of (h : cx_rowl T 1 p n) : ∃ g, rowJ p T n g := by
  rcases h with ⟨-, rfl, t, h⟩ | ⟨h0, x, h1, h2⟩
  · exact ⟨fun _ => 0, Or.inl ⟨rfl, t, h⟩⟩
  · rcases h2 with ⟨h, -⟩ | ⟨-, g, rfl⟩
    · cases h
    · exact ⟨g, Or.inr ⟨h0, h1⟩⟩
theorem pe_putRJ (h : rowJ p T n g) (hn : n < 2 ^ 31) : pe N X 39 [.ref p, .int i, .long y] (ev_hp I J R T) (fun r h => r = none ∧ ∃ T', h = ev_hp I J R T' ∧ rowJ p T' n (ev_putJ n g i y) ∧ keepT p T T') := by
  rcases h with ⟨rfl, t, h⟩ | ⟨h1, h2⟩
  · have hg := cx_getJ (I := I) (J := J) (R := R) (T := T) h
    refine pe_mono (pe_is (ec_putJ X _ 0 p i y (J p) hg hn)) ?_
    rintro r h1 ⟨rfl, rfl⟩
    rw [putJ0, ev_set_self hg]
    exact ⟨rfl, T, rfl, Or.inl ⟨rfl, t, h⟩, keepT_r _ _⟩
  · have hg : (ev_hp I J R T)[p]? = some (.inl (n, .inr (.inl g))) := by rw [cx_tlen rfl h1]; exact h2
    refine pe_mono (pe_is (ec_putJ X _ n p i y g hg hn)) ?_
    rintro r h3 ⟨rfl, rfl⟩
    rw [cx_setT h1]
    refine ⟨rfl, _, rfl, Or.inr ⟨h1, ?_⟩, by simp, fun j hj => ?_⟩
    · rw [List.getElem?_set_self (List.getElem?_eq_some_iff.mp h2).1]
    · rw [List.getElem?_set_ne (by omega)]
theorem pe_atRJ (h : rowJ p T n g) (hn : n < 2 ^ 31) : pe N X 4 [.ref p, .int i] (ev_hp I J R T) (fun r h => r = some (.long (ev_atJ n g i)) ∧ h = ev_hp I J R T) := by
  obtain ⟨g', h1, h2⟩ := rowJ_hp (I := I) (J := J) (R := R) h
  refine pe_mono (pe_is (ec_atJ X _ n p i g' h1 hn)) ?_
  rintro r h3 ⟨rfl, rfl⟩
  refine ⟨?_, rfl⟩
  rcases h2 with rfl | rfl
  · have e0 : ∀ g : Nat → Int64, ev_atJ 0 g i = 0 := fun g => by
      unfold ev_atJ
      split
      · rfl
      · split
        · rfl
        · rename_i a b
          exact absurd (Int32.not_lt.mp a) b
    rw [e0, e0]
  · rfl
theorem rowJ_keep (h : rowJ p T n g) (hp : p ≠ q) (hk : keepT q T T') : rowJ p T' n g := by
  rcases h with h | ⟨h1, h2⟩
  · exact Or.inl h
  · exact Or.inr ⟨h1, by rw [hk.2 (p - 65) (by omega)]; exact h2⟩
theorem rowT_keep (h : rowT p T n f) (hp : p ≠ q) (hk : keepT q T T') : rowT p T' n f := by
  rcases h with h | ⟨h1, h2⟩
  · exact Or.inl h
  · exact Or.inr ⟨h1, by rw [hk.2 (p - 65) (by omega)]; exact h2⟩
theorem ds_lt {x : Nat × Nat × List (Nat × Nat)} (h : cx_Ds[p]? = some x) : p < 65 := by
  have := (List.getElem?_eq_some_iff.mp h).1
  have e : cx_Ds.length = 65 := rfl
  omega
theorem row_ne (h : rowT p T n f) (h' : rowJ q T m g) : p ≠ q := by
  rintro rfl
  rcases h with ⟨-, t, h⟩ | ⟨h1, h2⟩ <;> rcases h' with ⟨-, t', h'⟩ | ⟨h3, h4⟩
  · rw [h] at h'
    cases h'
  · have := ds_lt h
    omega
  · have := ds_lt h'
    omega
  · rw [h2] at h4
    cases h4
theorem rowT_app {x : List ez_C} (h : rowT p T n f) : rowT p (T ++ x) n f := by
  rcases h with h | ⟨h1, h2⟩
  · exact Or.inl h
  · exact Or.inr ⟨h1, by rw [List.getElem?_append_left (List.getElem?_eq_some_iff.mp h2).1]; exact h2⟩
theorem rowJ_app {x : List ez_C} (h : rowJ p T n g) : rowJ p (T ++ x) n g := by
  rcases h with h | ⟨h1, h2⟩
  · exact Or.inl h
  · exact Or.inr ⟨h1, by rw [List.getElem?_append_left (List.getElem?_eq_some_iff.mp h2).1]; exact h2⟩
theorem rowJ_new : rowJ (65 + T.length) (T ++ [.inl (n, .inr (.inl fun _ => 0))]) n (fun _ => 0) := Or.inr ⟨by omega, by rw [show 65 + T.length - 65 = T.length by omega, List.getElem?_append_right (Nat.le_refl _), Nat.sub_self]; rfl⟩
theorem pw_newJ {mm pc a b cut w d n : Nat} {ls st : List Value} {Q : pw_Q} (hP : ez_P0 mm pc = some (.newarray .long, 2, a, b, cut, w, d)) (hn : n < 1000000) (e : pw N X mm (pc + 2) (ez_cut cut ls) (.ref (65 + T.length) :: st) (ev_hp I J R (T ++ [.inl (n, .inr (.inl fun _ => 0))])) Q) : pw (N + 1) X mm pc ls (.int (Int32.ofNat n) :: st) (ev_hp I J R T) Q :=
  pw_up (a := 1) (by decide) fun c k F hF r h1 c1 k1 hz => by
    rw [ev_up1] at hz
    unfold ez_stp at hz
    rw [hP] at hz
    dsimp only at hz
    obtain ⟨-, hz⟩ := ez_bifN hz
    rw [ix_cl (by omega)] at hz
    have el : (ev_hp I J R T).length = 65 + T.length := by
      rw [cx_hp_is, List.length_append, cx_mk_len]
      rfl
    have ea : ev_hp I J R T ++ [.inl (n, .inr (.inl fun _ => 0))] = ev_hp I J R (T ++ [.inl (n, .inr (.inl fun _ => 0))]) := by
      rw [cx_hp_is, cx_hp_is, List.append_assoc]
    rw [el, ea] at hz
    exact e _ _ F hF r h1 c1 k1 hz
end
/-- the cells whose call would sink a ship -/
def skF (P H : Nat → Int64) : Int64 := ((0 ||| on1 (P 0 &&& (H 0 ^^^ (18446744073709551615 : Int64)))) ||| on1 (P 1 &&& (H 1 ^^^ (18446744073709551615 : Int64)))) ||| on1 (P 2 &&& (H 2 ^^^ (18446744073709551615 : Int64)))
def pl_w (P : Nat → Int64) : Int64 := (P 0 ||| P 1) ||| P 2
def xp (I : Nat → Nat → Int32) (J : Nat → Nat → Int64) (t : ly_t) (n : Nat) : Int64 := pl_w (xq I J t n).1
def xs (I : Nat → Nat → Int32) (J : Nat → Nat → Int64) (t : ly_t) (n : Nat) : Int64 := if I 2 1 = 1 then skF (xq I J t n).1 (xq I J t n).2 else 0
/-- the class's ledger holds these layings' plays -/
def lgr (I : Nat → Nat → Int32) (J : Nat → Nat → Int64) (R : Nat → Nat) (T : List ez_C) (L : List ly_t) (nc : Nat) : Prop := ∃ n g1 g2 g3, rowJ (R 1) T n g1 ∧ rowJ (R 2) T n g2 ∧ rowJ (R 3) T n g3 ∧ L.length ≤ n ∧ n ≤ 10000 ∧ ∀ (k : Nat) (hk : k < L.length), g1 k = xz I J L[k] nc ∧ g2 k = xp I J L[k] nc ∧ g3 k = xs I J L[k] nc
def rd3 (R : Nat → Nat) : Prop := R 1 ≠ R 2 ∧ R 1 ≠ R 3 ∧ R 2 ≠ R 3
section
variable {N : Nat} {X : ez_X} {I : Nat → Nat → Int32} {J : Nat → Nat → Int64} {R : Nat → Nat} {T T' : List ez_C} {L : List ly_t} {n0 m nc : Nat} {f : Nat → Int32}
theorem pe_sinking : pe N X 134 [.ref 10] (ev_hp I J R T) (fun r h => r = some (.long (skF (J 11) (J 12))) ∧ h = ev_hp I J R T) := by
  refine pe_of (pw_p (sk_0 (pw_p (sk_4 ⟨fun g => absurd g (by decide), fun _ => ?_⟩))))
  rw [show (0 : Int32) = Int32.ofNat 0 from rfl, atJ_in (j := 0) (by decide) (by decide), atJ_in (j := 0) (by decide) (by decide), io_1]
  refine pw_p (sk_4 ⟨fun g => absurd g (by decide), fun _ => ?_⟩)
  rw [atJ_in (j := 1) (by decide) (by decide), atJ_in (j := 1) (by decide) (by decide), io_1]
  refine pw_p (sk_4 ⟨fun g => absurd g (by decide), fun _ => ?_⟩)
  rw [atJ_in (j := 2) (by decide) (by decide), atJ_in (j := 2) (by decide) (by decide), io_1]
  exact pw_p (sk_4 ⟨fun _ => ⟨rfl, rfl⟩, fun g => absurd (by decide) g⟩)
/-- rows long enough -/
theorem pe_grow {l : Nat} (hl : l ≤ 10000) (hm : m ≤ 10000) {g1 g2 g3 : Nat → Int64} (h1 : rowJ (R 1) T m g1) (h2 : rowJ (R 2) T m g2) (h3 : rowJ (R 3) T m g3) (hd : rd3 R) (h0 : rowT (R 0) T n0 f) {x : Int32} (hx : x = Int32.ofNat l) : pe N X 108 [.ref 13, .int x] (ev_hp I J R T) (fun r h => r = none ∧ ∃ R' T' n g1 g2 g3, h = ev_hp I J R' T' ∧ rowJ (R' 1) T' n g1 ∧ rowJ (R' 2) T' n g2 ∧ rowJ (R' 3) T' n g3 ∧ l ≤ n ∧ n ≤ 10000 ∧ rd3 R' ∧ R' 0 = R 0 ∧ R' 4 = R 4 ∧ rowT (R 0) T' n0 f) := by
  subst hx
  obtain ⟨f1, q1, -⟩ := rowJ_hp (I := I) (J := J) (R := R) h1
  refine pe_of (pw_p (gq_0 (pw_p (pw_alenJ (by rfl) q1 ?_))))
  refine pw_p (gq_5 ⟨_, pe_grown, ?_⟩)
  rintro r h ⟨rfl, rfl⟩
  obtain ⟨n', e', k1, k2⟩ := gw_n (h := m) (w := l) hm hl
  rw [e']
  refine pw_p (gq_9 (pw_p (pw_alenJ (by rfl) q1 ?_)))
  refine pw_p (gq_16 ⟨fun g => ?_, fun g => ?_⟩)
  · rw [io_le (by omega) (by omega)] at g
    exact pw_p (gq_49 ⟨rfl, R, T, m, g1, g2, g3, rfl, h1, h2, h3, g, hm, hd, rfl, rfl, h0⟩)
  · rw [io_le (by omega) (by omega)] at g
    refine pw_p (pw_alenJ (by rfl) q1 ?_)
    refine pw_p (gq_25 ⟨fun g2 => ?_, fun _ => ?_⟩)
    · rw [io_le (by omega) (by omega)] at g2
      omega
    · refine pw_p (pw_newJ (by rfl) (by omega) (pw_p (gq_32 ?_)))
      refine pw_p (pw_newJ (by rfl) (by omega) (pw_p (gq_39 ?_)))
      refine pw_p (pw_newJ (by rfl) (by omega) (pw_p (gq_46 ?_)))
      have l1 : (T ++ [.inl (n', .inr (.inl fun _ => 0))] : List ez_C).length = T.length + 1 := by simp
      have l2 : (T ++ [.inl (n', .inr (.inl fun _ => 0))] ++ [.inl (n', .inr (.inl fun _ => 0))] : List ez_C).length = T.length + 2 := by simp
      have r1 : ∀ (a b c : Nat) (R : Nat → Nat), ev_sR (ev_sR (ev_sR R 1 a) 2 b) 3 c 1 = a ∧ ev_sR (ev_sR (ev_sR R 1 a) 2 b) 3 c 2 = b ∧ ev_sR (ev_sR (ev_sR R 1 a) 2 b) 3 c 3 = c ∧ ev_sR (ev_sR (ev_sR R 1 a) 2 b) 3 c 0 = R 0 ∧ ev_sR (ev_sR (ev_sR R 1 a) 2 b) 3 c 4 = R 4 := fun a b c R => ⟨rfl, rfl, rfl, rfl, rfl⟩
      obtain ⟨a1, a2, a3, a0, a4⟩ := r1 (65 + T.length) (65 + (T ++ [.inl (n', .inr (.inl fun _ => 0))] : List ez_C).length) (65 + (T ++ [.inl (n', .inr (.inl fun _ => 0))] ++ [.inl (n', .inr (.inl fun _ => 0))] : List ez_C).length) R
      refine ⟨rfl, _, _, n', fun _ => 0, fun _ => 0, fun _ => 0, rfl, ?_, ?_, ?_, k1, k2, ⟨?_, ?_, ?_⟩, a0, a4, rowT_app (rowT_app (rowT_app h0))⟩
      · rw [a1]
        exact rowJ_app (rowJ_app rowJ_new)
      · rw [a2]
        exact rowJ_app rowJ_new
      · rw [a3]
        exact rowJ_new
      · rw [a1, a2, l1]
        omega
      · rw [a1, a3, l2]
        omega
      · rw [a2, a3, l1, l2]
        omega
/-- two worlds alike but for the rows of one play -/
theorem bk_11 {J1 : Nat → Nat → Int64} (h : ∀ a, a ≠ 11 → a ≠ 12 → J1 a = J a) : bk I J1 = bk I J := by
  unfold bk
  rw [h 4 (by decide) (by decide), h 9 (by decide) (by decide), h 1 (by decide) (by decide), h 8 (by decide) (by decide)]
theorem xp_b {I' : Nat → Nat → Int32} {J' : Nat → Nat → Int64} (e : bk I' J' = bk I J) (t : ly_t) : xp I' J' t = xp I J t ∧ xs I' J' t = xs I J t := by
  have e2 := (bk_at e).2.2.2.2.1
  constructor
  · funext n
    unfold xp
    rw [(bk_xq e t).2.1]
  · funext n
    unfold xs
    rw [(bk_xq e t).2.1, e2]
theorem pe_replay (e63 : I 6 3 = Int32.ofNat L.length) (g3 : rowT (R 0) T n0 f) (g4 : L.length ≤ n0) (g5 : n0 ≤ 10000) (g6 : ly_row f L) (hns : 0 ≤ (I 3 3).toInt ∧ (I 3 3).toInt ≤ 3) (hb : ∀ t, t ∈ L → t.1 < 512 ∧ t.2.1 < 512 ∧ t.2.2 < 512) (hin : ∀ t, t ∈ L → ∀ s, s < (I 3 3).toInt.toNat → ly_at t s < 288) (e81 : I 8 1 = Int32.ofNat nc) (hnc : nc ≤ 30)
    (h13 : I 13 8 = 0 ∨ I 13 8 = 1) (hpl : I 13 8 = 1 → lgr I J R T L nc) (hm : m ≤ 10000) {g1 g2 g3' : Nat → Int64} (q1 : rowJ (R 1) T m g1) (q2 : rowJ (R 2) T m g2) (q3 : rowJ (R 3) T m g3') (hd : rd3 R) :
    pe N X 112 [.ref 13] (ev_hp I J R T) (fun r h => r = none ∧ ∃ J' R' T', h = ev_hp (ev_sI I 13 (upd (I 13) 8 1)) J' R' T' ∧ (∀ a, a ≠ 11 → a ≠ 12 → J' a = J a) ∧ R' 0 = R 0 ∧ R' 4 = R 4 ∧ rowT (R 0) T' n0 f ∧ rd3 R' ∧ lgr I J R' T' L nc) := by
  refine pe_of (pw_p (rp_0 ⟨fun _ => ⟨_, pe_grow (show L.length ≤ 10000 by omega) hm q1 q2 q3 hd g3 e63, ?_⟩, fun g => ?_⟩))
  rotate_left
  · have e1 : I 13 8 = 1 := h13.resolve_left g
    refine ⟨rfl, J, R, T, ?_, fun _ _ _ => rfl, rfl, rfl, g3, hd, hpl e1⟩
    rw [← e1, upd_self, sI_self]
  rintro r h ⟨rfl, R', T1, n, a1, a2, a3, rfl, q1, q2, q3, hl, hn, hd', hR0, hR4, g3⟩
  have loop : ∀ (d k : Nat), k + d = L.length → ∀ (J1 : Nat → Nat → Int64) (T1 : List ez_C) (a1 a2 a3 : Nat → Int64), (∀ a, a ≠ 11 → a ≠ 12 → J1 a = J a) → rowT (R 0) T1 n0 f → rowJ (R' 1) T1 n a1 → rowJ (R' 2) T1 n a2 → rowJ (R' 3) T1 n a3 → (∀ (i : Nat) (hi : i < L.length), i < k → a1 i = xz I J L[i] nc ∧ a2 i = xp I J L[i] nc ∧ a3 i = xs I J L[i] nc) → ∀ N, pw N X 112 39 [.ref 13, .int (if I 2 1 = 1 then 1 else 0), .int (Int32.ofNat k)] [] (ev_hp I J1 R' T1) (fun r h => r = none ∧ ∃ J' R' T', h = ev_hp (ev_sI I 13 (upd (I 13) 8 1)) J' R' T' ∧ (∀ a, a ≠ 11 → a ≠ 12 → J' a = J a) ∧ R' 0 = R 0 ∧ R' 4 = R 4 ∧ rowT (R 0) T' n0 f ∧ rd3 R' ∧ lgr I J R' T' L nc) := by
    intro d
    induction d with
    | zero =>
      intro k hk J1 T1 a1 a2 a3 hJ h0 q1 q2 q3 ha N
      obtain rfl : k = L.length := by omega
      refine pw_p (rp_39 ⟨fun _ => ⟨rfl, J1, R', T1, rfl, hJ, hR0, hR4, h0, hd', n, a1, a2, a3, q1, q2, q3, hl, hn, fun i hi => ha i hi hi⟩, fun g => ?_⟩)
      rw [e63] at g
      exact absurd (Int32.le_refl _) g
    | succ d ih =>
      intro k hkd J1 T1 a1 a2 a3 hJ h0 q1 q2 q3 ha N
      have hk : k < L.length := by omega
      have hmem := List.getElem_mem hk
      obtain ⟨b0, b1, b2⟩ := hb _ hmem
      have eb := bk_11 (I := I) hJ
      have h0' : rowT (R' 0) T1 n0 f := by rw [hR0]; exact h0
      refine pw_p (rp_39 ⟨fun g => ?_, fun _ => ⟨_, pe_through (n := nc) h0' g5 (by rw [at_k (by omega) g5, g6 k hk]) hns b0 b1 b2 (hin _ hmem) e81 hnc, ?_⟩⟩)
      · rw [e63, io_le (by omega) (by omega)] at g
        omega
      · rintro r h ⟨rfl, J2, rfl, G1, G2, rfl, hG⟩
        rw [(bk_xq eb _).2.1] at hG
        rw [(bk_xq eb _).2.2.2]
        refine pw_p (rp_70 ⟨_, pe_putRJ q1 (by omega), ?_⟩)
        rintro r h ⟨rfl, T2, rfl, w1, k1⟩
        have w2 := rowJ_keep q2 (fun e => hd'.1 e.symm) k1
        have w3 := rowJ_keep q3 (fun e => hd'.2.1 e.symm) k1
        have w0 := rowT_keep h0 (row_ne h0 q1) k1
        refine pw_p (rp_73 ?_)
        have e11 : ev_sJ (ev_sJ J1 11 G1) 12 G2 11 = G1 := by rw [cx_sJ_n _ _ (show (11 : Nat) ≠ 12 by decide), cx_sJ_s]
        have e12 : ev_sJ (ev_sJ J1 11 G1) 12 G2 12 = G2 := cx_sJ_s _ _ _
        rw [e11, show ev_atJ 3 G1 (0 : Int32) = G1 0 from atJ_in (j := 0) (by decide) (by decide), show ev_atJ 3 G1 (1 : Int32) = G1 1 from atJ_in (j := 1) (by decide) (by decide), show ev_atJ 3 G1 (2 : Int32) = G1 2 from atJ_in (j := 2) (by decide) (by decide), (hG 0 (by decide)).1, (hG 1 (by decide)).1, (hG 2 (by decide)).1]
        refine ⟨_, pe_putRJ w2 (by omega), ?_⟩
        rintro r h ⟨rfl, T3, rfl, x2, k2⟩
        have x1 := rowJ_keep w1 hd'.1 k2
        have x3 := rowJ_keep w3 (fun e => hd'.2.2 e.symm) k2
        have x0 := rowT_keep w0 (row_ne w0 w2) k2
        have last : ∀ z, z = xs I J L[k] nc → ∀ N, pw N X 112 108 [.ref 13, .int (if I 2 1 = 1 then 1 else 0), .int (Int32.ofNat k)] [.long z, .int (Int32.ofNat k), .ref (R' 3)] (ev_hp I (ev_sJ (ev_sJ J1 11 G1) 12 G2) R' T3) (fun r h => r = none ∧ ∃ J' R' T', h = ev_hp (ev_sI I 13 (upd (I 13) 8 1)) J' R' T' ∧ (∀ a, a ≠ 11 → a ≠ 12 → J' a = J a) ∧ R' 0 = R 0 ∧ R' 4 = R 4 ∧ rowT (R 0) T' n0 f ∧ rd3 R' ∧ lgr I J R' T' L nc) := by
          rintro z rfl N
          refine pw_p (rp_108 ⟨_, pe_putRJ x3 (by omega), ?_⟩)
          rintro r h ⟨rfl, T4, rfl, y3, k3⟩
          have y1 := rowJ_keep x1 hd'.2.1 k3
          have y2 := rowJ_keep x2 hd'.2.2 k3
          have y0 := rowT_keep x0 (row_ne x0 x3) k3
          refine pw_p (rp_111 ?_)
          rw [io_1]
          rw [putJ_in (by omega) (by omega)] at y1 y2 y3
          refine ih (k + 1) (by omega) _ T4 _ _ _ (fun a h1 h2 => ?_) y0 y1 y2 y3 (fun i hi hik => ?_) N
          · rw [cx_sJ_n _ _ h2, cx_sJ_n _ _ h1]
            exact hJ a h1 h2
          · by_cases hik2 : i = k
            · subst hik2
              rw [pv_s, pv_s, pv_s]
              exact ⟨rfl, rfl, rfl⟩
            · rw [pv_n _ _ hik2, pv_n _ _ hik2, pv_n _ _ hik2]
              exact ha i hi (by omega)
        refine pw_p (rp_88 ⟨fun g => last 0 ?_ N, fun g => ⟨_, pe_sinking, ?_⟩⟩)
        · unfold xs
          by_cases hz : I 2 1 = 1
          · rw [if_pos hz] at g
            exact absurd g (by decide)
          · rw [if_neg hz]
        · rintro r h ⟨rfl, rfl⟩
          refine pw_p (rp_104 (last _ ?_ N))
          rw [e11, e12]
          unfold xs
          by_cases hz : I 2 1 = 1
          · rw [if_pos hz]
            unfold skF
            rw [(hG 0 (by decide)).1, (hG 1 (by decide)).1, (hG 2 (by decide)).1, (hG 0 (by decide)).2, (hG 1 (by decide)).2, (hG 2 (by decide)).2]
          · rw [if_neg hz] at g
            exact absurd rfl g
  have hr : ev_at 3 (I 2) (1 : Int32) = I 2 1 := at_in (j := 1) (by decide) (by decide)
  have h0 := loop L.length 0 (by omega) J T1 a1 a2 a3 (fun _ _ _ => rfl) g3 q1 q2 q3 (fun i _ hi => absurd hi (by omega))
  refine pw_p (rp_19 ?_)
  rw [hr]
  refine ⟨fun g => ?_, fun g => ?_⟩
  · rw [if_neg g] at h0
    exact h0 _
  · rw [if_pos (Classical.not_not.mp g)] at h0
    exact h0 _
end
