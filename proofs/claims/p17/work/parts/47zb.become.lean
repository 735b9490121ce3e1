/-! The paper is laid anew: what its sets hold. -/
theorem pw_putf {N : Nat} {X : ez_X} {m pc a b cut w d p c : Nat} {ls st fs : List Value} {h h2 : ez_H} {Q : pw_Q} {v : Value} {idx : Nat} (hP : ez_P0 m pc = some (.putfield idx, 3, a, b, cut, w, d)) (hp : h[p]? = some (.inr (c, fs))) (hs : h.set p (.inr (c, fs.set b v)) = h2)
    (e : pw N X m (pc + 3) (ez_cut cut ls) st h2 Q) : pw (N + 1) X m pc ls (v :: .ref p :: st) h Q := by
  refine pw_b (I := .putfield idx) (len := 3) (a := a) (b := b) (cut := cut) (fun G c k => ?_) fun ls' st' h' hb => ?_
  · unfold ez_stp
    rw [hP]
    rfl
  · have hb : (ez_set (ez_ty0 a b) a b h (v :: .ref p :: st)).map (fun t => (ez_cut cut ls, t.1, t.2)) = some (ls', st', h') := hb
    obtain ⟨e1, rfl⟩ := q_mapH hb
    obtain ⟨w2, p2, c2, fs2, e2, e3, -, rfl⟩ := q_setf e1
    injection e2 with e2 e4
    injection e4 with e4 e5
    injection e4 with e4
    subst e2 e4 e5
    rw [hp] at e3
    injection e3 with e3
    injection e3 with e3
    injection e3 with e3 e6
    subst e3 e6
    rw [hs]
    exact e
section
variable {N : Nat} {X : ez_X} {I : Nat → Nat → Int32} {J : Nat → Nat → Int64} {R : Nat → Nat} {T : List ez_C} {Q : pw_Q} {cz kz : Nat}
set_option maxRecDepth 100000 in
theorem bc_r0 {a0 : Int32} {a1 : Int32} {a2 : Int32} : ∀ G : ez_F, fx_up X 3 G 145 0 [.ref 1, .int a0, .int a1, .int a2] [] (ev_hp I J R T) cz kz = G 145 5 [.ref 1, .int a0, .int a1, .int a2] [] (ev_hp (ev_sI I 1 (upd (I 1) 3 a0)) J R T) cz kz := by
  intro G
  rfl
set_option maxRecDepth 100000 in
theorem bc_r1 {a0 : Int32} {a1 : Int32} {a2 : Int32} : ∀ G : ez_F, fx_up X 3 G 145 5 [.ref 1, .int a0, .int a1, .int a2] [] (ev_hp I J R T) cz kz = G 145 10 [.ref 1, .int a0, .int a1, .int a2] [] (ev_hp (ev_sI I 1 (upd (I 1) 4 a1)) J R T) cz kz := by
  intro G
  rfl
set_option maxRecDepth 100000 in
theorem bc_r2 {a0 : Int32} {a1 : Int32} {a2 : Int32} : ∀ G : ez_F, fx_up X 2 G 145 10 [.ref 1, .int a0, .int a1, .int a2] [] (ev_hp I J R T) cz kz = G 145 12 [.ref 1, .int a0, .int a1, .int a2] [.int a2, .ref 1] (ev_hp I J R T) cz kz := by
  intro G
  rfl
set_option maxRecDepth 100000 in
theorem bc_r3 {a0 : Int32} {a1 : Int32} {a2 : Int32} : ∀ G : ez_F, fx_up X 5 G 145 15 [.ref 1, .int a0, .int a1, .int a2] [] (ev_hp I J R T) cz kz = G 145 22 [.ref 1, .int a0, .int a1, .int a2] [] (ev_hp (ev_sI I 1 (upd (I 1) 6 (a0 * a1))) J R T) cz kz := by
  intro G
  rfl
set_option maxRecDepth 100000 in
theorem bc_r4 {a0 : Int32} {a1 : Int32} {a2 : Int32} : ∀ G : ez_F, fx_up X 3 G 145 22 [.ref 1, .int a0, .int a1, .int a2] [] (ev_hp I J R T) cz kz = G 145 27 [.ref 1, .int a0, .int a1, .int a2] [] (ev_hp (ev_sI I 1 (upd (I 1) 1 (0 : Int32))) J R T) cz kz := by
  intro G
  rfl
set_option maxRecDepth 100000 in
theorem bc_r5 {a0 : Int32} {a1 : Int32} {a2 : Int32} : ∀ G : ez_F, fx_up X 3 G 145 27 [.ref 1, .int a0, .int a1, .int a2] [] (ev_hp I J R T) cz kz = G 145 32 [.ref 1, .int a0, .int a1, .int a2] [] (ev_hp (ev_sI I 1 (upd (I 1) 2 (0 : Int32))) J R T) cz kz := by
  intro G
  rfl
set_option maxRecDepth 100000 in
theorem bc_r6 {a0 : Int32} {a1 : Int32} {a2 : Int32} : ∀ G : ez_F, fx_up X 4 G 145 32 [.ref 1, .int a0, .int a1, .int a2] [] (ev_hp I J R T) cz kz = G 145 38 [.ref 1, .int a0, .int a1, .int a2] [.int (I 1 6), .long (1 : Int64), .ref 1] (ev_hp I J R T) cz kz := by
  intro G
  rfl
set_option maxRecDepth 100000 in
theorem bc_r7 {a0 : Int32} {a1 : Int32} {a2 : Int32} {a3 : Int32} {a4 : Int64} : ∀ G : ez_F, fx_up X 4 G 145 38 [.ref 1, .int a0, .int a1, .int a2] [.int a3, .long a4, .ref 1] (ev_hp I J R T) cz kz = G 145 44 [.ref 1, .int a0, .int a1, .int a2] [] (ev_hp I (ev_sJ J 1 (vp_updL (J 1) 7 ((a4 <<< (a3.toInt64 &&& (63 : Int64))) - (1 : Int64)))) R T) cz kz := by
  intro G
  rfl
set_option maxRecDepth 100000 in
theorem bc_r8 {a0 : Int32} {a1 : Int32} {a2 : Int32} : ∀ G : ez_F, fx_up X 3 G 145 44 [.ref 1, .int a0, .int a1, .int a2] [] (ev_hp I J R T) cz kz = G 145 49 [.ref 1, .int a0, .int a1, .int a2] [] (ev_hp I (ev_sJ J 1 (vp_updL (J 1) 8 (0 : Int64))) R T) cz kz := by
  intro G
  rfl
set_option maxRecDepth 100000 in
theorem bc_r9 {a0 : Int32} {a1 : Int32} {a2 : Int32} : ∀ G : ez_F, fx_up X 2 G 145 49 [.ref 1, .int a0, .int a1, .int a2] [] (ev_hp I J R T) cz kz = G 145 52 [.ref 1, .int a0, .int a1, .int a2, .int (0 : Int32)] [] (ev_hp I J R T) cz kz := by
  intro G
  rfl
theorem bc_0 {w h b : Int32}
    (H : pw N X 145 52 [.ref 1, .int w, .int h, .int b, .int (0 : Int32)] [] (ev_hp (ev_sI (ev_sI (ev_sI (ev_sI (ev_sI (ev_sI I 1 (upd (I 1) 3 w)) 1 (upd (upd (I 1) 3 w) 4 h)) 1 (upd (upd (upd (I 1) 3 w) 4 h) 5 b)) 1 (upd (upd (upd (upd (I 1) 3 w) 4 h) 5 b) 6 (w * h))) 1 (upd (upd (upd (upd (upd (I 1) 3 w) 4 h) 5 b) 6 (w * h)) 1 (0 : Int32))) 1 (upd (upd (upd (upd (upd (upd (I 1) 3 w) 4 h) 5 b) 6 (w * h)) 1 (0 : Int32)) 2 (0 : Int32))) (ev_sJ (ev_sJ J 1 (vp_updL (J 1) 7 (((1 : Int64) <<< ((w * h).toInt64 &&& (63 : Int64))) - (1 : Int64)))) 1 (vp_updL (vp_updL (J 1) 7 (((1 : Int64) <<< ((w * h).toInt64 &&& (63 : Int64))) - (1 : Int64))) 8 (0 : Int64))) R T) Q) : pw (N + 1) X 145 0 [.ref 1, .int w, .int h, .int b] [] (ev_hp I J R T) Q := by
  refine pw_seg (by decide) (fun _ _ => bc_r0) ?_
  refine pw_p (pw_seg (by decide) (fun _ _ => bc_r1) ?_)
  refine pw_p (pw_seg (by decide) (fun _ _ => bc_r2) ?_)
  refine pw_p (pw_putf (by rfl) (cx_getC (n := 0) (show cx_Ds[1]? = some (0 + 2, 9, _) from rfl)) (cx_setF (n := 0) (k := 5) (show cx_Ds[1]? = some (0 + 2, 9, _) from rfl) rfl _) ?_)
  refine pw_p (pw_seg (by decide) (fun _ _ => bc_r3) ?_)
  refine pw_p (pw_seg (by decide) (fun _ _ => bc_r4) ?_)
  refine pw_p (pw_seg (by decide) (fun _ _ => bc_r5) ?_)
  refine pw_p (pw_seg (by decide) (fun _ _ => bc_r6) ?_)
  refine pw_p (pw_seg (by decide) (fun _ _ => bc_r7) ?_)
  refine pw_p (pw_seg (by decide) (fun _ _ => bc_r8) ?_)
  refine pw_p (pw_seg (by decide) (fun _ _ => bc_r9) ?_)
  exact H
set_option maxRecDepth 100000 in
theorem bc_r10 {a0 : Int32} {a1 : Int32} {a2 : Int32} {a3 : Int32} : ∀ G : ez_F, fx_up X 3 G 145 52 [.ref 1, .int a0, .int a1, .int a2, .int a3] [] (ev_hp I J R T) cz kz = bif decide (a1 ≤ a3) then G 145 79 [.ref 1, .int a0, .int a1, .int a2, .int a3] [] (ev_hp I J R T) cz kz else G 145 58 [.ref 1, .int a0, .int a1, .int a2, .int a3] [] (ev_hp I J R T) cz kz := by
  intro G
  rfl
set_option maxRecDepth 100000 in
theorem bc_r11 {a0 : Int32} {a1 : Int32} {a2 : Int32} {a3 : Int32} : ∀ G : ez_F, fx_up X 3 G 145 79 [.ref 1, .int a0, .int a1, .int a2, .int a3] [] (ev_hp I J R T) cz kz = G 145 84 [.ref 1, .int a0, .int a1, .int a2, .int a3] [.long (J 1 8), .ref 1] (ev_hp I J R T) cz kz := by
  intro G
  rfl
set_option maxRecDepth 100000 in
theorem bc_r12 {a0 : Int32} {a1 : Int32} {a2 : Int32} {a3 : Int32} {a4 : Int64} : ∀ G : ez_F, fx_up X 5 G 145 84 [.ref 1, .int a0, .int a1, .int a2, .int a3] [.long a4, .ref 1] (ev_hp I J R T) cz kz = G 145 91 [.ref 1, .int a0, .int a1, .int a2, .int a3] [] (ev_hp I (ev_sJ J 1 (vp_updL (J 1) 9 (a4 <<< ((a0 - (1 : Int32)).toInt64 &&& (63 : Int64))))) R T) cz kz := by
  intro G
  rfl
set_option maxRecDepth 100000 in
theorem bc_r13 {a0 : Int32} {a1 : Int32} {a2 : Int32} {a3 : Int32} : ∀ G : ez_F, fx_up X 1 G 145 91 [.ref 1, .int a0, .int a1, .int a2, .int a3] [] (ev_hp I J R T) cz kz = some (none, (ev_hp I J R T), cz, kz) := by
  intro G
  rfl
set_option maxRecDepth 100000 in
theorem bc_r14 {a0 : Int32} {a1 : Int32} {a2 : Int32} {a3 : Int32} : ∀ G : ez_F, fx_up X 3 G 145 58 [.ref 1, .int a0, .int a1, .int a2, .int a3] [] (ev_hp I J R T) cz kz = G 145 63 [.ref 1, .int a0, .int a1, .int a2, .int a3] [.long (J 1 8), .ref 1] (ev_hp I J R T) cz kz := by
  intro G
  rfl
set_option maxRecDepth 100000 in
theorem bc_r15 {a0 : Int32} {a1 : Int32} {a2 : Int32} {a3 : Int32} {a4 : Int64} : ∀ G : ez_F, fx_up X 7 G 145 63 [.ref 1, .int a0, .int a1, .int a2, .int a3] [.long a4, .ref 1] (ev_hp I J R T) cz kz = G 145 73 [.ref 1, .int a0, .int a1, .int a2, .int a3] [] (ev_hp I (ev_sJ J 1 (vp_updL (J 1) 8 (a4 ||| ((1 : Int64) <<< ((a0 * a3).toInt64 &&& (63 : Int64)))))) R T) cz kz := by
  intro G
  rfl
set_option maxRecDepth 100000 in
theorem bc_r16 {a0 : Int32} {a1 : Int32} {a2 : Int32} {a3 : Int32} : ∀ G : ez_F, fx_up X 2 G 145 73 [.ref 1, .int a0, .int a1, .int a2, .int a3] [] (ev_hp I J R T) cz kz = G 145 52 [.ref 1, .int a0, .int a1, .int a2, .int (a3 + (1 : Int32))] [] (ev_hp I J R T) cz kz := by
  intro G
  rfl
theorem bc_52 {w h b y : Int32}
    (H : ((h ≤ y → Q none (ev_hp I (ev_sJ J 1 (vp_updL (J 1) 9 ((J 1 8) <<< ((w - (1 : Int32)).toInt64 &&& (63 : Int64))))) R T)) ∧ (¬ (h ≤ y) → pw N X 145 52 [.ref 1, .int w, .int h, .int b, .int (y + (1 : Int32))] [] (ev_hp I (ev_sJ J 1 (vp_updL (J 1) 8 ((J 1 8) ||| ((1 : Int64) <<< ((w * y).toInt64 &&& (63 : Int64)))))) R T) Q))) : pw (N + 1) X 145 52 [.ref 1, .int w, .int h, .int b, .int y] [] (ev_hp I J R T) Q := by
  refine pw_if (by decide) (fun _ _ => bc_r10) (fun w1 => ?_) (fun w1 => ?_)
  · have h1 := H.1 w1
    refine pw_p (pw_seg (by decide) (fun _ _ => bc_r11) ?_)
    refine pw_p (pw_seg (by decide) (fun _ _ => bc_r12) ?_)
    exact pw_p (pw_ret (by decide) (fun _ _ => bc_r13) h1)
  · have h1 := H.2 w1
    refine pw_p (pw_seg (by decide) (fun _ _ => bc_r14) ?_)
    refine pw_p (pw_seg (by decide) (fun _ _ => bc_r15) ?_)
    refine pw_p (pw_seg (by decide) (fun _ _ => bc_r16) ?_)
    exact h1
end
/-- the paper's sets are those of its cells -/
def mk (I : Nat → Nat → Int32) (J : Nat → Nat → Int64) : Prop := I 1 6 = I 1 3 * I 1 4 ∧ J 1 7 = al_F (I 1 6) ∧ J 1 8 = fc_F (I 1 3) (I 1 4) ∧ J 1 9 = lc_F (I 1 3) (I 1 4)
section
variable {X : ez_X} {I : Nat → Nat → Int32} {J : Nat → Nat → Int64} {R : Nat → Nat} {T : List ez_C} {w h b : Int32}
def bc_I (I : Nat → Nat → Int32) (w h b : Int32) : Nat → Nat → Int32 := ev_sI I 1 (upd (upd (upd (upd (upd (upd (I 1) 3 w) 4 h) 5 b) 6 (w * h)) 1 0) 2 0)
theorem bc_loop : ∀ (r : Nat) (y : Int32) (I' : Nat → Nat → Int32) (J' : Nat → Nat → Int64), y.toInt + r = h.toInt → 0 ≤ y.toInt → y.toInt < 100 → h.toInt ≤ 6 → fc_L w r y (J' 1 8) = fc_F w h → J' 1 7 = al_F (w * h) → (∀ a, a ≠ 1 → J' a = J a) → ∀ N,
    pw N X 145 52 [.ref 1, .int w, .int h, .int b, .int y] [] (ev_hp I' J' R T) (fun r hp => r = none ∧ ∃ J2, hp = ev_hp I' J2 R T ∧ J2 1 7 = al_F (w * h) ∧ J2 1 8 = fc_F w h ∧ J2 1 9 = lc_F w h ∧ ∀ a, a ≠ 1 → J2 a = J a) := by
  intro r
  induction r with
  | zero =>
    intro y I' J' hy h0 h9 h6 hf h7 hJ N
    refine pw_p (bc_52 ⟨fun _ => ?_, fun z => absurd (Int32.le_iff_toInt_le.mpr (by omega)) z⟩)
    have e8 : J' 1 8 = fc_F w h := hf
    refine ⟨rfl, _, rfl, ?_, ?_, ?_, fun a ha => by rw [cx_sJ_n _ _ ha]; exact hJ a ha⟩
    · rw [cx_sJ_s, updL_n _ _ (by decide)]
      exact h7
    · rw [cx_sJ_s, updL_n _ _ (by decide)]
      exact e8
    · rw [cx_sJ_s, updL_s, e8]
      rfl
  | succ r ih =>
    intro y I' J' hy h0 h9 h6 hf h7 hJ N
    refine pw_p (bc_52 ⟨fun z => ?_, fun _ => ?_⟩)
    · rw [Int32.le_iff_toInt_le] at z
      omega
    · have e1 := i_inc (x := y) (by omega)
      refine ih (y + 1) I' _ (by omega) (by omega) (by omega) h6 ?_ ?_ (fun a ha => by rw [cx_sJ_n _ _ ha]; exact hJ a ha) N
      · rw [cx_sJ_s, updL_s]
        exact hf
      · rw [cx_sJ_s, updL_n _ _ (by decide)]
        exact h7
theorem pe_become (hh : 2 ≤ h.toInt ∧ h.toInt ≤ 6) (N : Nat) : pe N X 145 [.ref 1, .int w, .int h, .int b] (ev_hp I J R T) (fun r hp => r = none ∧ ∃ J2, hp = ev_hp (bc_I I w h b) J2 R T ∧ J2 1 7 = al_F (w * h) ∧ J2 1 8 = fc_F w h ∧ J2 1 9 = lc_F w h ∧ ∀ a, a ≠ 1 → J2 a = J a) := by
  refine pe_of (pw_p (bc_0 ?_))
  simp only [sI2, fs_sJ2]
  refine bc_loop h.toInt.toNat 0 (bc_I I w h b) _ (by rw [show (0 : Int32).toInt = 0 from by decide]; omega) (by decide) (by decide) hh.2 ?_ ?_ (fun a ha => by rw [cx_sJ_n _ _ ha]) N
  · rw [cx_sJ_s, updL_s]
    rfl
  · rw [cx_sJ_s, updL_n _ _ (by decide), updL_s]
    rfl
end
