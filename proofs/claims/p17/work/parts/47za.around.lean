/-! Cells about a set: the class's way, by whole rows and columns, and the reference's, cell by cell. -/
def us (z : Int64) (n : Int32) : Int64 := (z.toUInt64 >>> (n.toInt64.toUInt64 &&& Int64.toUInt64 63)).toInt64
def sl (z : Int64) (n : Int32) : Int64 := z <<< (n.toInt64 &&& (63 : Int64))
def xm (z m : Int64) : Int64 := z ^^^ (z &&& m)
def ma (W wr : Int32) (fc lc z : Int64) (s : Int32) : Int64 := if s = 0 then z else if s ≤ 0 then us (xm z fc) 1 ||| sl (if wr = 0 then 0 else z &&& fc) (W - 1) else sl (xm z lc) 1 ||| us (if wr = 0 then 0 else z &&& lc) (W - 1)
def md (W wr C : Int32) (al z : Int64) (s : Int32) : Int64 := if s = 0 then z else if s ≤ 0 then (us z W ||| (if wr = 0 then 0 else sl z (C - W))) &&& al else (sl z W ||| (if wr = 0 then 0 else us z (C - W))) &&& al
section
variable {N : Nat} {X : ez_X} {I : Nat → Nat → Int32} {J : Nat → Nat → Int64} {R : Nat → Nat} {T : List ez_C} {Q : pw_Q} {cz kz : Nat}
set_option maxRecDepth 100000 in
theorem mv1_r0 {a0 : Int64} {a1 : Int32} : ∀ G : ez_F, fx_up X 2 G 147 0 [.ref 1, .long a0, ez_fill, .int a1] [] (ev_hp I J R T) cz kz = bif decide (¬ a1 = (0 : Int32)) then G 147 6 [.ref 1, .long a0, ez_fill, .int a1] [] (ev_hp I J R T) cz kz else G 147 4 [.ref 1, .long a0, ez_fill, .int a1] [] (ev_hp I J R T) cz kz := by
  intro G
  rfl
set_option maxRecDepth 100000 in
theorem mv1_r1 {a0 : Int64} {a1 : Int32} : ∀ G : ez_F, fx_up X 3 G 147 6 [.ref 1, .long a0, ez_fill, .int a1] [] (ev_hp I J R T) cz kz = bif decide (a1 ≤ (0 : Int32)) then G 147 18 [.ref 1, .long a0, ez_fill, .int a1] [.long a0] (ev_hp I J R T) cz kz else G 147 11 [.ref 1, .long a0, ez_fill, .int a1] [.long a0] (ev_hp I J R T) cz kz := by
  intro G
  rfl
set_option maxRecDepth 100000 in
theorem mv1_r2 {a0 : Int64} {a1 : Int32} {a2 : Int64} : ∀ G : ez_F, fx_up X 2 G 147 18 [.ref 1, .long a0, ez_fill, .int a1] [.long a2] (ev_hp I J R T) cz kz = G 147 22 [.ref 1, .long a0, ez_fill, .int a1] [.long (J 1 8), .long a2] (ev_hp I J R T) cz kz := by
  intro G
  rfl
set_option maxRecDepth 100000 in
theorem mv1_r3 {a0 : Int64} {a1 : Int32} {a2 : Int64} {a3 : Int64} : ∀ G : ez_F, fx_up X 4 G 147 22 [.ref 1, .long a0, ez_fill, .int a1] [.long a2, .long a3] (ev_hp I J R T) cz kz = G 147 29 [.ref 1, .long a0, ez_fill, .int a1, .long (a3 &&& a2), ez_fill] [.int (I 1 5)] (ev_hp I J R T) cz kz := by
  intro G
  rfl
set_option maxRecDepth 100000 in
theorem mv1_r4 {a0 : Int64} {a1 : Int32} {a2 : Int64} {a3 : Int32} : ∀ G : ez_F, fx_up X 1 G 147 29 [.ref 1, .long a0, ez_fill, .int a1, .long a2, ez_fill] [.int a3] (ev_hp I J R T) cz kz = bif decide (a3 = (0 : Int32)) then G 147 37 [.ref 1, .long a0, ez_fill, .int a1, .long a2, ez_fill] [] (ev_hp I J R T) cz kz else G 147 32 [.ref 1, .long a0, ez_fill, .int a1, .long a2, ez_fill] [] (ev_hp I J R T) cz kz := by
  intro G
  rfl
set_option maxRecDepth 100000 in
theorem mv1_r5 {a0 : Int64} {a1 : Int32} {a2 : Int64} : ∀ G : ez_F, fx_up X 8 G 147 37 [.ref 1, .long a0, ez_fill, .int a1, .long a2, ez_fill] [] (ev_hp I J R T) cz kz = bif decide (a1 ≤ (0 : Int32)) then G 147 65 [.ref 1, .long a0, ez_fill, .int a1, .long a2, ez_fill, .long (0 : Int64), ez_fill, .long (a0 ^^^ a2), ez_fill] [] (ev_hp I J R T) cz kz else G 147 50 [.ref 1, .long a0, ez_fill, .int a1, .long a2, ez_fill, .long (0 : Int64), ez_fill, .long (a0 ^^^ a2), ez_fill] [] (ev_hp I J R T) cz kz := by
  intro G
  rfl
set_option maxRecDepth 100000 in
theorem mv1_r6 {a0 : Int64} {a1 : Int32} {a2 : Int64} {a3 : Int64} {a4 : Int64} : ∀ G : ez_F, fx_up X 6 G 147 65 [.ref 1, .long a0, ez_fill, .int a1, .long a2, ez_fill, .long a3, ez_fill, .long a4, ez_fill] [] (ev_hp I J R T) cz kz = G 147 75 [.ref 1, .long a0, ez_fill, .int a1, .long a2, ez_fill, .long a3, ez_fill, .long a4, ez_fill] [.int (I 1 3), .long a3, .long (a4.toUInt64 >>> ((1 : Int32).toInt64.toUInt64 &&& Int64.toUInt64 63)).toInt64] (ev_hp I J R T) cz kz := by
  intro G
  rfl
set_option maxRecDepth 100000 in
theorem mv1_r7 {a0 : Int64} {a1 : Int32} {a2 : Int64} {a3 : Int64} {a4 : Int64} {a5 : Int32} {a6 : Int64} {a7 : Int64} : ∀ G : ez_F, fx_up X 5 G 147 75 [.ref 1, .long a0, ez_fill, .int a1, .long a2, ez_fill, .long a3, ez_fill, .long a4, ez_fill] [.int a5, .long a6, .long a7] (ev_hp I J R T) cz kz = some (some (.long (a7 ||| (a6 <<< ((a5 - (1 : Int32)).toInt64 &&& (63 : Int64))))), (ev_hp I J R T), cz, kz) := by
  intro G
  rfl
set_option maxRecDepth 100000 in
theorem mv1_r8 {a0 : Int64} {a1 : Int32} {a2 : Int64} {a3 : Int64} {a4 : Int64} : ∀ G : ez_F, fx_up X 6 G 147 50 [.ref 1, .long a0, ez_fill, .int a1, .long a2, ez_fill, .long a3, ez_fill, .long a4, ez_fill] [] (ev_hp I J R T) cz kz = G 147 60 [.ref 1, .long a0, ez_fill, .int a1, .long a2, ez_fill, .long a3, ez_fill, .long a4, ez_fill] [.int (I 1 3), .long a3, .long (a4 <<< ((1 : Int32).toInt64 &&& (63 : Int64)))] (ev_hp I J R T) cz kz := by
  intro G
  rfl
set_option maxRecDepth 100000 in
theorem mv1_r9 {a0 : Int64} {a1 : Int32} {a2 : Int64} {a3 : Int64} {a4 : Int64} {a5 : Int32} {a6 : Int64} {a7 : Int64} : ∀ G : ez_F, fx_up X 5 G 147 60 [.ref 1, .long a0, ez_fill, .int a1, .long a2, ez_fill, .long a3, ez_fill, .long a4, ez_fill] [.int a5, .long a6, .long a7] (ev_hp I J R T) cz kz = some (some (.long (a7 ||| (a6.toUInt64 >>> ((a5 - (1 : Int32)).toInt64.toUInt64 &&& Int64.toUInt64 63)).toInt64)), (ev_hp I J R T), cz, kz) := by
  intro G
  rfl
set_option maxRecDepth 100000 in
theorem mv1_r10 {a0 : Int64} {a1 : Int32} {a2 : Int64} : ∀ G : ez_F, fx_up X 9 G 147 32 [.ref 1, .long a0, ez_fill, .int a1, .long a2, ez_fill] [] (ev_hp I J R T) cz kz = bif decide (a1 ≤ (0 : Int32)) then G 147 65 [.ref 1, .long a0, ez_fill, .int a1, .long a2, ez_fill, .long a2, ez_fill, .long (a0 ^^^ a2), ez_fill] [] (ev_hp I J R T) cz kz else G 147 50 [.ref 1, .long a0, ez_fill, .int a1, .long a2, ez_fill, .long a2, ez_fill, .long (a0 ^^^ a2), ez_fill] [] (ev_hp I J R T) cz kz := by
  intro G
  rfl
set_option maxRecDepth 100000 in
theorem mv1_r11 {a0 : Int64} {a1 : Int32} {a2 : Int64} : ∀ G : ez_F, fx_up X 2 G 147 11 [.ref 1, .long a0, ez_fill, .int a1] [.long a2] (ev_hp I J R T) cz kz = G 147 15 [.ref 1, .long a0, ez_fill, .int a1] [.long (J 1 9), .long a2] (ev_hp I J R T) cz kz := by
  intro G
  rfl
set_option maxRecDepth 100000 in
theorem mv1_r12 {a0 : Int64} {a1 : Int32} {a2 : Int64} {a3 : Int64} : ∀ G : ez_F, fx_up X 5 G 147 15 [.ref 1, .long a0, ez_fill, .int a1] [.long a2, .long a3] (ev_hp I J R T) cz kz = G 147 29 [.ref 1, .long a0, ez_fill, .int a1, .long (a3 &&& a2), ez_fill] [.int (I 1 5)] (ev_hp I J R T) cz kz := by
  intro G
  rfl
set_option maxRecDepth 100000 in
theorem mv1_r13 {a0 : Int64} {a1 : Int32} : ∀ G : ez_F, fx_up X 2 G 147 4 [.ref 1, .long a0, ez_fill, .int a1] [] (ev_hp I J R T) cz kz = some (some (.long a0), (ev_hp I J R T), cz, kz) := by
  intro G
  rfl
theorem ac_0 {z : Int64} {s : Int32}
    (H : ((¬ s = (0 : Int32) → ((s ≤ (0 : Int32) → (((I 1 5) = (0 : Int32) → ((s ≤ (0 : Int32) → Q (some (.long (((z ^^^ (z &&& (J 1 8))).toUInt64 >>> ((1 : Int32).toInt64.toUInt64 &&& Int64.toUInt64 63)).toInt64 ||| ((0 : Int64) <<< (((I 1 3) - (1 : Int32)).toInt64 &&& (63 : Int64)))))) (ev_hp I J R T)) ∧ (¬ (s ≤ (0 : Int32)) → Q (some (.long (((z ^^^ (z &&& (J 1 8))) <<< ((1 : Int32).toInt64 &&& (63 : Int64))) ||| ((0 : Int64).toUInt64 >>> (((I 1 3) - (1 : Int32)).toInt64.toUInt64 &&& Int64.toUInt64 63)).toInt64))) (ev_hp I J R T)))) ∧ (¬ ((I 1 5) = (0 : Int32)) → ((s ≤ (0 : Int32) → Q (some (.long (((z ^^^ (z &&& (J 1 8))).toUInt64 >>> ((1 : Int32).toInt64.toUInt64 &&& Int64.toUInt64 63)).toInt64 ||| ((z &&& (J 1 8)) <<< (((I 1 3) - (1 : Int32)).toInt64 &&& (63 : Int64)))))) (ev_hp I J R T)) ∧ (¬ (s ≤ (0 : Int32)) → Q (some (.long (((z ^^^ (z &&& (J 1 8))) <<< ((1 : Int32).toInt64 &&& (63 : Int64))) ||| ((z &&& (J 1 8)).toUInt64 >>> (((I 1 3) - (1 : Int32)).toInt64.toUInt64 &&& Int64.toUInt64 63)).toInt64))) (ev_hp I J R T)))))) ∧ (¬ (s ≤ (0 : Int32)) → (((I 1 5) = (0 : Int32) → ((s ≤ (0 : Int32) → Q (some (.long (((z ^^^ (z &&& (J 1 9))).toUInt64 >>> ((1 : Int32).toInt64.toUInt64 &&& Int64.toUInt64 63)).toInt64 ||| ((0 : Int64) <<< (((I 1 3) - (1 : Int32)).toInt64 &&& (63 : Int64)))))) (ev_hp I J R T)) ∧ (¬ (s ≤ (0 : Int32)) → Q (some (.long (((z ^^^ (z &&& (J 1 9))) <<< ((1 : Int32).toInt64 &&& (63 : Int64))) ||| ((0 : Int64).toUInt64 >>> (((I 1 3) - (1 : Int32)).toInt64.toUInt64 &&& Int64.toUInt64 63)).toInt64))) (ev_hp I J R T)))) ∧ (¬ ((I 1 5) = (0 : Int32)) → ((s ≤ (0 : Int32) → Q (some (.long (((z ^^^ (z &&& (J 1 9))).toUInt64 >>> ((1 : Int32).toInt64.toUInt64 &&& Int64.toUInt64 63)).toInt64 ||| ((z &&& (J 1 9)) <<< (((I 1 3) - (1 : Int32)).toInt64 &&& (63 : Int64)))))) (ev_hp I J R T)) ∧ (¬ (s ≤ (0 : Int32)) → Q (some (.long (((z ^^^ (z &&& (J 1 9))) <<< ((1 : Int32).toInt64 &&& (63 : Int64))) ||| ((z &&& (J 1 9)).toUInt64 >>> (((I 1 3) - (1 : Int32)).toInt64.toUInt64 &&& Int64.toUInt64 63)).toInt64))) (ev_hp I J R T)))))))) ∧ (¬ (¬ s = (0 : Int32)) → Q (some (.long z)) (ev_hp I J R T)))) : pw (N + 1) X 147 0 [.ref 1, .long z, ez_fill, .int s] [] (ev_hp I J R T) Q := by
  refine pw_if (by decide) (fun _ _ => mv1_r0) (fun w1 => ?_) (fun w1 => ?_)
  · have h1 := H.1 w1
    refine pw_p (pw_if (by decide) (fun _ _ => mv1_r1) (fun w2 => ?_) (fun w2 => ?_))
    · have h2 := h1.1 w2
      refine pw_p (pw_seg (by decide) (fun _ _ => mv1_r2) ?_)
      refine pw_p (pw_seg (by decide) (fun _ _ => mv1_r3) ?_)
      refine pw_p (pw_if (by decide) (fun _ _ => mv1_r4) (fun w3 => ?_) (fun w3 => ?_))
      · have h3 := h2.1 w3
        refine pw_p (pw_if (by decide) (fun _ _ => mv1_r5) (fun w4 => ?_) (fun w4 => ?_))
        · have h4 := h3.1 w4
          refine pw_p (pw_seg (by decide) (fun _ _ => mv1_r6) ?_)
          exact pw_p (pw_ret (by decide) (fun _ _ => mv1_r7) h4)
        · have h4 := h3.2 w4
          refine pw_p (pw_seg (by decide) (fun _ _ => mv1_r8) ?_)
          exact pw_p (pw_ret (by decide) (fun _ _ => mv1_r9) h4)
      · have h3 := h2.2 w3
        refine pw_p (pw_if (by decide) (fun _ _ => mv1_r10) (fun w4 => ?_) (fun w4 => ?_))
        · have h4 := h3.1 w4
          refine pw_p (pw_seg (by decide) (fun _ _ => mv1_r6) ?_)
          exact pw_p (pw_ret (by decide) (fun _ _ => mv1_r7) h4)
        · have h4 := h3.2 w4
          refine pw_p (pw_seg (by decide) (fun _ _ => mv1_r8) ?_)
          exact pw_p (pw_ret (by decide) (fun _ _ => mv1_r9) h4)
    · have h2 := h1.2 w2
      refine pw_p (pw_seg (by decide) (fun _ _ => mv1_r11) ?_)
      refine pw_p (pw_seg (by decide) (fun _ _ => mv1_r12) ?_)
      refine pw_p (pw_if (by decide) (fun _ _ => mv1_r4) (fun w3 => ?_) (fun w3 => ?_))
      · have h3 := h2.1 w3
        refine pw_p (pw_if (by decide) (fun _ _ => mv1_r5) (fun w4 => ?_) (fun w4 => ?_))
        · have h4 := h3.1 w4
          refine pw_p (pw_seg (by decide) (fun _ _ => mv1_r6) ?_)
          exact pw_p (pw_ret (by decide) (fun _ _ => mv1_r7) h4)
        · have h4 := h3.2 w4
          refine pw_p (pw_seg (by decide) (fun _ _ => mv1_r8) ?_)
          exact pw_p (pw_ret (by decide) (fun _ _ => mv1_r9) h4)
      · have h3 := h2.2 w3
        refine pw_p (pw_if (by decide) (fun _ _ => mv1_r10) (fun w4 => ?_) (fun w4 => ?_))
        · have h4 := h3.1 w4
          refine pw_p (pw_seg (by decide) (fun _ _ => mv1_r6) ?_)
          exact pw_p (pw_ret (by decide) (fun _ _ => mv1_r7) h4)
        · have h4 := h3.2 w4
          refine pw_p (pw_seg (by decide) (fun _ _ => mv1_r8) ?_)
          exact pw_p (pw_ret (by decide) (fun _ _ => mv1_r9) h4)
  · have h1 := H.2 w1
    exact pw_p (pw_ret (by decide) (fun _ _ => mv1_r13) h1)
set_option maxRecDepth 100000 in
theorem mv1_r14 {a0 : Int64} {a1 : Int32} : ∀ G : ez_F, fx_up X 2 G 148 0 [.ref 1, .long a0, ez_fill, .int a1] [] (ev_hp I J R T) cz kz = bif decide (¬ a1 = (0 : Int32)) then G 148 6 [.ref 1, .long a0, ez_fill, .int a1] [] (ev_hp I J R T) cz kz else G 148 4 [.ref 1, .long a0, ez_fill, .int a1] [] (ev_hp I J R T) cz kz := by
  intro G
  rfl
set_option maxRecDepth 100000 in
theorem mv1_r15 {a0 : Int64} {a1 : Int32} : ∀ G : ez_F, fx_up X 2 G 148 6 [.ref 1, .long a0, ez_fill, .int a1] [] (ev_hp I J R T) cz kz = G 148 10 [.ref 1, .long a0, ez_fill, .int a1] [.int (I 1 6)] (ev_hp I J R T) cz kz := by
  intro G
  rfl
set_option maxRecDepth 100000 in
theorem mv1_r16 {a0 : Int64} {a1 : Int32} {a2 : Int32} : ∀ G : ez_F, fx_up X 2 G 148 10 [.ref 1, .long a0, ez_fill, .int a1] [.int a2] (ev_hp I J R T) cz kz = G 148 14 [.ref 1, .long a0, ez_fill, .int a1] [.int (I 1 3), .int a2] (ev_hp I J R T) cz kz := by
  intro G
  rfl
set_option maxRecDepth 100000 in
theorem mv1_r17 {a0 : Int64} {a1 : Int32} {a2 : Int32} {a3 : Int32} : ∀ G : ez_F, fx_up X 4 G 148 14 [.ref 1, .long a0, ez_fill, .int a1] [.int a2, .int a3] (ev_hp I J R T) cz kz = bif decide (a1 ≤ (0 : Int32)) then G 148 49 [.ref 1, .long a0, ez_fill, .int a1, .int (a3 - a2)] [] (ev_hp I J R T) cz kz else G 148 21 [.ref 1, .long a0, ez_fill, .int a1, .int (a3 - a2)] [] (ev_hp I J R T) cz kz := by
  intro G
  rfl
set_option maxRecDepth 100000 in
theorem mv1_r18 {a0 : Int64} {a1 : Int32} {a2 : Int32} : ∀ G : ez_F, fx_up X 3 G 148 49 [.ref 1, .long a0, ez_fill, .int a1, .int a2] [] (ev_hp I J R T) cz kz = G 148 54 [.ref 1, .long a0, ez_fill, .int a1, .int a2] [.int (I 1 3), .long a0] (ev_hp I J R T) cz kz := by
  intro G
  rfl
set_option maxRecDepth 100000 in
theorem mv1_r19 {a0 : Int64} {a1 : Int32} {a2 : Int32} {a3 : Int32} {a4 : Int64} : ∀ G : ez_F, fx_up X 3 G 148 54 [.ref 1, .long a0, ez_fill, .int a1, .int a2] [.int a3, .long a4] (ev_hp I J R T) cz kz = G 148 59 [.ref 1, .long a0, ez_fill, .int a1, .int a2] [.int (I 1 5), .long (a4.toUInt64 >>> (a3.toInt64.toUInt64 &&& Int64.toUInt64 63)).toInt64] (ev_hp I J R T) cz kz := by
  intro G
  rfl
set_option maxRecDepth 100000 in
theorem mv1_r20 {a0 : Int64} {a1 : Int32} {a2 : Int32} {a3 : Int32} {a4 : Int64} : ∀ G : ez_F, fx_up X 1 G 148 59 [.ref 1, .long a0, ez_fill, .int a1, .int a2] [.int a3, .long a4] (ev_hp I J R T) cz kz = bif decide (a3 = (0 : Int32)) then G 148 69 [.ref 1, .long a0, ez_fill, .int a1, .int a2] [.long a4] (ev_hp I J R T) cz kz else G 148 62 [.ref 1, .long a0, ez_fill, .int a1, .int a2] [.long a4] (ev_hp I J R T) cz kz := by
  intro G
  rfl
set_option maxRecDepth 100000 in
theorem mv1_r21 {a0 : Int64} {a1 : Int32} {a2 : Int32} {a3 : Int64} : ∀ G : ez_F, fx_up X 4 G 148 69 [.ref 1, .long a0, ez_fill, .int a1, .int a2] [.long a3] (ev_hp I J R T) cz kz = G 148 75 [.ref 1, .long a0, ez_fill, .int a1, .int a2] [.long (J 1 7), .long (a3 ||| (0 : Int64))] (ev_hp I J R T) cz kz := by
  intro G
  rfl
set_option maxRecDepth 100000 in
theorem mv1_r22 {a0 : Int64} {a1 : Int32} {a2 : Int32} {a3 : Int64} {a4 : Int64} : ∀ G : ez_F, fx_up X 2 G 148 75 [.ref 1, .long a0, ez_fill, .int a1, .int a2] [.long a3, .long a4] (ev_hp I J R T) cz kz = some (some (.long (a4 &&& a3)), (ev_hp I J R T), cz, kz) := by
  intro G
  rfl
set_option maxRecDepth 100000 in
theorem mv1_r23 {a0 : Int64} {a1 : Int32} {a2 : Int32} {a3 : Int64} : ∀ G : ez_F, fx_up X 7 G 148 62 [.ref 1, .long a0, ez_fill, .int a1, .int a2] [.long a3] (ev_hp I J R T) cz kz = G 148 75 [.ref 1, .long a0, ez_fill, .int a1, .int a2] [.long (J 1 7), .long (a3 ||| (a0 <<< (a2.toInt64 &&& (63 : Int64))))] (ev_hp I J R T) cz kz := by
  intro G
  rfl
set_option maxRecDepth 100000 in
theorem mv1_r24 {a0 : Int64} {a1 : Int32} {a2 : Int32} : ∀ G : ez_F, fx_up X 3 G 148 21 [.ref 1, .long a0, ez_fill, .int a1, .int a2] [] (ev_hp I J R T) cz kz = G 148 26 [.ref 1, .long a0, ez_fill, .int a1, .int a2] [.int (I 1 3), .long a0] (ev_hp I J R T) cz kz := by
  intro G
  rfl
set_option maxRecDepth 100000 in
theorem mv1_r25 {a0 : Int64} {a1 : Int32} {a2 : Int32} {a3 : Int32} {a4 : Int64} : ∀ G : ez_F, fx_up X 3 G 148 26 [.ref 1, .long a0, ez_fill, .int a1, .int a2] [.int a3, .long a4] (ev_hp I J R T) cz kz = G 148 31 [.ref 1, .long a0, ez_fill, .int a1, .int a2] [.int (I 1 5), .long (a4 <<< (a3.toInt64 &&& (63 : Int64)))] (ev_hp I J R T) cz kz := by
  intro G
  rfl
set_option maxRecDepth 100000 in
theorem mv1_r26 {a0 : Int64} {a1 : Int32} {a2 : Int32} {a3 : Int32} {a4 : Int64} : ∀ G : ez_F, fx_up X 1 G 148 31 [.ref 1, .long a0, ez_fill, .int a1, .int a2] [.int a3, .long a4] (ev_hp I J R T) cz kz = bif decide (a3 = (0 : Int32)) then G 148 41 [.ref 1, .long a0, ez_fill, .int a1, .int a2] [.long a4] (ev_hp I J R T) cz kz else G 148 34 [.ref 1, .long a0, ez_fill, .int a1, .int a2] [.long a4] (ev_hp I J R T) cz kz := by
  intro G
  rfl
set_option maxRecDepth 100000 in
theorem mv1_r27 {a0 : Int64} {a1 : Int32} {a2 : Int32} {a3 : Int64} : ∀ G : ez_F, fx_up X 4 G 148 41 [.ref 1, .long a0, ez_fill, .int a1, .int a2] [.long a3] (ev_hp I J R T) cz kz = G 148 47 [.ref 1, .long a0, ez_fill, .int a1, .int a2] [.long (J 1 7), .long (a3 ||| (0 : Int64))] (ev_hp I J R T) cz kz := by
  intro G
  rfl
set_option maxRecDepth 100000 in
theorem mv1_r28 {a0 : Int64} {a1 : Int32} {a2 : Int32} {a3 : Int64} {a4 : Int64} : ∀ G : ez_F, fx_up X 2 G 148 47 [.ref 1, .long a0, ez_fill, .int a1, .int a2] [.long a3, .long a4] (ev_hp I J R T) cz kz = some (some (.long (a4 &&& a3)), (ev_hp I J R T), cz, kz) := by
  intro G
  rfl
set_option maxRecDepth 100000 in
theorem mv1_r29 {a0 : Int64} {a1 : Int32} {a2 : Int32} {a3 : Int64} : ∀ G : ez_F, fx_up X 7 G 148 34 [.ref 1, .long a0, ez_fill, .int a1, .int a2] [.long a3] (ev_hp I J R T) cz kz = G 148 47 [.ref 1, .long a0, ez_fill, .int a1, .int a2] [.long (J 1 7), .long (a3 ||| (a0.toUInt64 >>> (a2.toInt64.toUInt64 &&& Int64.toUInt64 63)).toInt64)] (ev_hp I J R T) cz kz := by
  intro G
  rfl
set_option maxRecDepth 100000 in
theorem mv1_r30 {a0 : Int64} {a1 : Int32} : ∀ G : ez_F, fx_up X 2 G 148 4 [.ref 1, .long a0, ez_fill, .int a1] [] (ev_hp I J R T) cz kz = some (some (.long a0), (ev_hp I J R T), cz, kz) := by
  intro G
  rfl
theorem dn_0 {z : Int64} {s : Int32}
    (H : ((¬ s = (0 : Int32) → ((s ≤ (0 : Int32) → (((I 1 5) = (0 : Int32) → Q (some (.long (((z.toUInt64 >>> ((I 1 3).toInt64.toUInt64 &&& Int64.toUInt64 63)).toInt64 ||| (0 : Int64)) &&& (J 1 7)))) (ev_hp I J R T)) ∧ (¬ ((I 1 5) = (0 : Int32)) → Q (some (.long (((z.toUInt64 >>> ((I 1 3).toInt64.toUInt64 &&& Int64.toUInt64 63)).toInt64 ||| (z <<< (((I 1 6) - (I 1 3)).toInt64 &&& (63 : Int64)))) &&& (J 1 7)))) (ev_hp I J R T)))) ∧ (¬ (s ≤ (0 : Int32)) → (((I 1 5) = (0 : Int32) → Q (some (.long (((z <<< ((I 1 3).toInt64 &&& (63 : Int64))) ||| (0 : Int64)) &&& (J 1 7)))) (ev_hp I J R T)) ∧ (¬ ((I 1 5) = (0 : Int32)) → Q (some (.long (((z <<< ((I 1 3).toInt64 &&& (63 : Int64))) ||| (z.toUInt64 >>> (((I 1 6) - (I 1 3)).toInt64.toUInt64 &&& Int64.toUInt64 63)).toInt64) &&& (J 1 7)))) (ev_hp I J R T)))))) ∧ (¬ (¬ s = (0 : Int32)) → Q (some (.long z)) (ev_hp I J R T)))) : pw (N + 1) X 148 0 [.ref 1, .long z, ez_fill, .int s] [] (ev_hp I J R T) Q := by
  refine pw_if (by decide) (fun _ _ => mv1_r14) (fun w1 => ?_) (fun w1 => ?_)
  · have h1 := H.1 w1
    refine pw_p (pw_seg (by decide) (fun _ _ => mv1_r15) ?_)
    refine pw_p (pw_seg (by decide) (fun _ _ => mv1_r16) ?_)
    refine pw_p (pw_if (by decide) (fun _ _ => mv1_r17) (fun w2 => ?_) (fun w2 => ?_))
    · have h2 := h1.1 w2
      refine pw_p (pw_seg (by decide) (fun _ _ => mv1_r18) ?_)
      refine pw_p (pw_seg (by decide) (fun _ _ => mv1_r19) ?_)
      refine pw_p (pw_if (by decide) (fun _ _ => mv1_r20) (fun w3 => ?_) (fun w3 => ?_))
      · have h3 := h2.1 w3
        refine pw_p (pw_seg (by decide) (fun _ _ => mv1_r21) ?_)
        exact pw_p (pw_ret (by decide) (fun _ _ => mv1_r22) h3)
      · have h3 := h2.2 w3
        refine pw_p (pw_seg (by decide) (fun _ _ => mv1_r23) ?_)
        exact pw_p (pw_ret (by decide) (fun _ _ => mv1_r22) h3)
    · have h2 := h1.2 w2
      refine pw_p (pw_seg (by decide) (fun _ _ => mv1_r24) ?_)
      refine pw_p (pw_seg (by decide) (fun _ _ => mv1_r25) ?_)
      refine pw_p (pw_if (by decide) (fun _ _ => mv1_r26) (fun w3 => ?_) (fun w3 => ?_))
      · have h3 := h2.1 w3
        refine pw_p (pw_seg (by decide) (fun _ _ => mv1_r27) ?_)
        exact pw_p (pw_ret (by decide) (fun _ _ => mv1_r28) h3)
      · have h3 := h2.2 w3
        refine pw_p (pw_seg (by decide) (fun _ _ => mv1_r29) ?_)
        exact pw_p (pw_ret (by decide) (fun _ _ => mv1_r28) h3)
  · have h1 := H.2 w1
    exact pw_p (pw_ret (by decide) (fun _ _ => mv1_r30) h1)
end
section
variable {N : Nat} {X : ez_X} {I : Nat → Nat → Int32} {J : Nat → Nat → Int64} {R : Nat → Nat} {T : List ez_C} {z : Int64} {s : Int32}
theorem pe_across : pe N X 147 [.ref 1, .long z, .int s] (ev_hp I J R T) (fun r h => r = some (.long (ma (I 1 3) (I 1 5) (J 1 8) (J 1 9) z s)) ∧ h = ev_hp I J R T) := by
  unfold ma
  refine pe_of (pw_p (ac_0 ⟨fun h => ⟨fun h2 => ⟨fun h3 => ⟨fun _ => ?_, fun h4 => absurd h2 h4⟩, fun h3 => ⟨fun _ => ?_, fun h4 => absurd h2 h4⟩⟩, fun h2 => ⟨fun h3 => ⟨fun h4 => absurd h4 h2, fun _ => ?_⟩, fun h3 => ⟨fun h4 => absurd h4 h2, fun _ => ?_⟩⟩⟩, fun h => ?_⟩))
  · rw [if_neg h, if_pos h2, if_pos h3]
    exact ⟨rfl, rfl⟩
  · rw [if_neg h, if_pos h2, if_neg h3]
    exact ⟨rfl, rfl⟩
  · rw [if_neg h, if_neg h2, if_pos h3]
    exact ⟨rfl, rfl⟩
  · rw [if_neg h, if_neg h2, if_neg h3]
    exact ⟨rfl, rfl⟩
  · rw [if_pos (Classical.not_not.mp h)]
    exact ⟨rfl, rfl⟩
theorem pe_down : pe N X 148 [.ref 1, .long z, .int s] (ev_hp I J R T) (fun r h => r = some (.long (md (I 1 3) (I 1 5) (I 1 6) (J 1 7) z s)) ∧ h = ev_hp I J R T) := by
  unfold md
  refine pe_of (pw_p (dn_0 ⟨fun h => ⟨fun h2 => ⟨fun h3 => ?_, fun h3 => ?_⟩, fun h2 => ⟨fun h3 => ?_, fun h3 => ?_⟩⟩, fun h => ?_⟩))
  · rw [if_neg h, if_pos h2, if_pos h3]
    exact ⟨rfl, rfl⟩
  · rw [if_neg h, if_pos h2, if_neg h3]
    exact ⟨rfl, rfl⟩
  · rw [if_neg h, if_neg h2, if_pos h3]
    exact ⟨rfl, rfl⟩
  · rw [if_neg h, if_neg h2, if_neg h3]
    exact ⟨rfl, rfl⟩
  · rw [if_pos (Classical.not_not.mp h)]
    exact ⟨rfl, rfl⟩
end
section
variable {N : Nat} {X : ez_X} {I : Nat → Nat → Int32} {J : Nat → Nat → Int64} {R : Nat → Nat} {T : List ez_C} {Q : pw_Q} {cz kz : Nat}
set_option maxRecDepth 100000 in
theorem ar1_r0 {a0 : Int64} : ∀ G : ez_F, fx_up X 4 G 144 0 [.ref 1, .long a0, ez_fill] [] (ev_hp I J R T) cz kz = ev_C G 3 [.ref 2, .int (0 : Int32)] (ev_hp I J R T) fun r h1 c1 k1 => G 144 8 [.ref 1, .long a0, ez_fill] (r.toList ++ []) h1 (cz + c1) (kz + k1) := by
  intro G
  rfl
set_option maxRecDepth 100000 in
theorem ar1_r1 {a0 : Int64} {a1 : Int32} : ∀ G : ez_F, fx_up X 3 G 144 8 [.ref 1, .long a0, ez_fill] [.int a1] (ev_hp I J R T) cz kz = bif decide (¬ a1 = (0 : Int32)) then G 144 15 [.ref 1, .long a0, ez_fill, .int a1] [] (ev_hp I J R T) cz kz else G 144 13 [.ref 1, .long a0, ez_fill, .int a1] [] (ev_hp I J R T) cz kz := by
  intro G
  rfl
set_option maxRecDepth 100000 in
theorem ar1_r2 {a0 : Int64} {a1 : Int32} : ∀ G : ez_F, fx_up X 5 G 144 15 [.ref 1, .long a0, ez_fill, .int a1] [] (ev_hp I J R T) cz kz = ev_C G 147 [.ref 1, .long a0, .int (1 : Int32)] (ev_hp I J R T) fun r h1 c1 k1 => G 144 22 [.ref 1, .long a0, ez_fill, .int a1] (r.toList ++ [.long a0]) h1 (cz + c1) (kz + k1) := by
  intro G
  rfl
set_option maxRecDepth 100000 in
theorem ar1_r3 {a0 : Int64} {a1 : Int32} {a2 : Int64} {a3 : Int64} : ∀ G : ez_F, fx_up X 5 G 144 22 [.ref 1, .long a0, ez_fill, .int a1] [.long a2, .long a3] (ev_hp I J R T) cz kz = ev_C G 147 [.ref 1, .long a0, .int (-1 : Int32)] (ev_hp I J R T) fun r h1 c1 k1 => G 144 29 [.ref 1, .long a0, ez_fill, .int a1] (r.toList ++ [.long (a3 ||| a2)]) h1 (cz + c1) (kz + k1) := by
  intro G
  rfl
set_option maxRecDepth 100000 in
theorem ar1_r4 {a0 : Int64} {a1 : Int32} {a2 : Int64} {a3 : Int64} : ∀ G : ez_F, fx_up X 5 G 144 29 [.ref 1, .long a0, ez_fill, .int a1] [.long a2, .long a3] (ev_hp I J R T) cz kz = bif decide (¬ a1 = (1 : Int32)) then G 144 41 [.ref 1, .long a0, ez_fill, .int a1, .long (a3 ||| a2), ez_fill] [] (ev_hp I J R T) cz kz else G 144 37 [.ref 1, .long a0, ez_fill, .int a1, .long (a3 ||| a2), ez_fill] [] (ev_hp I J R T) cz kz := by
  intro G
  rfl
set_option maxRecDepth 100000 in
theorem ar1_r5 {a0 : Int64} {a1 : Int32} {a2 : Int64} : ∀ G : ez_F, fx_up X 7 G 144 41 [.ref 1, .long a0, ez_fill, .int a1, .long a2, ez_fill] [] (ev_hp I J R T) cz kz = ev_C G 148 [.ref 1, .long a2, .int (1 : Int32)] (ev_hp I J R T) fun r h1 c1 k1 => G 144 54 [.ref 1, .long a0, ez_fill, .int a1, .long a2, ez_fill, .long a2, ez_fill] (r.toList ++ [.long a2]) h1 (cz + c1) (kz + k1) := by
  intro G
  rfl
set_option maxRecDepth 100000 in
theorem ar1_r6 {a0 : Int64} {a1 : Int32} {a2 : Int64} {a3 : Int64} {a4 : Int64} {a5 : Int64} : ∀ G : ez_F, fx_up X 5 G 144 54 [.ref 1, .long a0, ez_fill, .int a1, .long a2, ez_fill, .long a3, ez_fill] [.long a4, .long a5] (ev_hp I J R T) cz kz = ev_C G 148 [.ref 1, .long a3, .int (-1 : Int32)] (ev_hp I J R T) fun r h1 c1 k1 => G 144 62 [.ref 1, .long a0, ez_fill, .int a1, .long a2, ez_fill, .long a3, ez_fill] (r.toList ++ [.long (a5 ||| a4)]) h1 (cz + c1) (kz + k1) := by
  intro G
  rfl
set_option maxRecDepth 100000 in
theorem ar1_r7 {a0 : Int64} {a1 : Int32} {a2 : Int64} {a3 : Int64} {a4 : Int64} {a5 : Int64} : ∀ G : ez_F, fx_up X 2 G 144 62 [.ref 1, .long a0, ez_fill, .int a1, .long a2, ez_fill, .long a3, ez_fill] [.long a4, .long a5] (ev_hp I J R T) cz kz = some (some (.long (a5 ||| a4)), (ev_hp I J R T), cz, kz) := by
  intro G
  rfl
set_option maxRecDepth 100000 in
theorem ar1_r8 {a0 : Int64} {a1 : Int32} {a2 : Int64} : ∀ G : ez_F, fx_up X 8 G 144 37 [.ref 1, .long a0, ez_fill, .int a1, .long a2, ez_fill] [] (ev_hp I J R T) cz kz = ev_C G 148 [.ref 1, .long a0, .int (1 : Int32)] (ev_hp I J R T) fun r h1 c1 k1 => G 144 54 [.ref 1, .long a0, ez_fill, .int a1, .long a2, ez_fill, .long a0, ez_fill] (r.toList ++ [.long a2]) h1 (cz + c1) (kz + k1) := by
  intro G
  rfl
set_option maxRecDepth 100000 in
theorem ar1_r9 {a0 : Int64} {a1 : Int32} : ∀ G : ez_F, fx_up X 2 G 144 13 [.ref 1, .long a0, ez_fill, .int a1] [] (ev_hp I J R T) cz kz = some (some (.long a0), (ev_hp I J R T), cz, kz) := by
  intro G
  rfl
theorem ar_0 {z : Int64}
    (H : ((¬ (ev_at 3 (I 2) (0 : Int32)) = (0 : Int32) → ((¬ (ev_at 3 (I 2) (0 : Int32)) = (1 : Int32) → Q (some (.long ((((z ||| (ma (I 1 3) (I 1 5) (J 1 8) (J 1 9) z (1 : Int32))) ||| (ma (I 1 3) (I 1 5) (J 1 8) (J 1 9) z (-1 : Int32))) ||| (md (I 1 3) (I 1 5) (I 1 6) (J 1 7) ((z ||| (ma (I 1 3) (I 1 5) (J 1 8) (J 1 9) z (1 : Int32))) ||| (ma (I 1 3) (I 1 5) (J 1 8) (J 1 9) z (-1 : Int32))) (1 : Int32))) ||| (md (I 1 3) (I 1 5) (I 1 6) (J 1 7) ((z ||| (ma (I 1 3) (I 1 5) (J 1 8) (J 1 9) z (1 : Int32))) ||| (ma (I 1 3) (I 1 5) (J 1 8) (J 1 9) z (-1 : Int32))) (-1 : Int32))))) (ev_hp I J R T)) ∧ (¬ (¬ (ev_at 3 (I 2) (0 : Int32)) = (1 : Int32)) → Q (some (.long ((((z ||| (ma (I 1 3) (I 1 5) (J 1 8) (J 1 9) z (1 : Int32))) ||| (ma (I 1 3) (I 1 5) (J 1 8) (J 1 9) z (-1 : Int32))) ||| (md (I 1 3) (I 1 5) (I 1 6) (J 1 7) z (1 : Int32))) ||| (md (I 1 3) (I 1 5) (I 1 6) (J 1 7) z (-1 : Int32))))) (ev_hp I J R T)))) ∧ (¬ (¬ (ev_at 3 (I 2) (0 : Int32)) = (0 : Int32)) → Q (some (.long z)) (ev_hp I J R T)))) : pw (N + 1) X 144 0 [.ref 1, .long z, ez_fill] [] (ev_hp I J R T) Q := by
  refine pw_callp (by decide) (fun _ _ => ar1_r0) (pe_at (show cx_Ds[2]? = some (0, 3, []) from rfl) (by decide)) ?_
  refine pw_p (pw_if (by decide) (fun _ _ => ar1_r1) (fun w1 => ?_) (fun w1 => ?_))
  · have h1 := H.1 w1
    refine pw_p (pw_callp (by decide) (fun _ _ => ar1_r2) (pe_across) ?_)
    refine pw_p (pw_callp (by decide) (fun _ _ => ar1_r3) (pe_across) ?_)
    refine pw_p (pw_if (by decide) (fun _ _ => ar1_r4) (fun w2 => ?_) (fun w2 => ?_))
    · have h2 := h1.1 w2
      refine pw_p (pw_callp (by decide) (fun _ _ => ar1_r5) (pe_down) ?_)
      refine pw_p (pw_callp (by decide) (fun _ _ => ar1_r6) (pe_down) ?_)
      exact pw_p (pw_ret (by decide) (fun _ _ => ar1_r7) h2)
    · have h2 := h1.2 w2
      refine pw_p (pw_callp (by decide) (fun _ _ => ar1_r8) (pe_down) ?_)
      refine pw_p (pw_callp (by decide) (fun _ _ => ar1_r6) (pe_down) ?_)
      exact pw_p (pw_ret (by decide) (fun _ _ => ar1_r7) h2)
  · have h1 := H.2 w1
    exact pw_p (pw_ret (by decide) (fun _ _ => ar1_r9) h1)
end
def aw (W wr : Int32) (fc lc z : Int64) : Int64 := (z ||| ma W wr fc lc z 1) ||| ma W wr fc lc z (-1)
def ar (W wr C : Int32) (al fc lc : Int64) (t : Int32) (z : Int64) : Int64 := if t = 0 then z else if t = 1 then (aw W wr fc lc z ||| md W wr C al z 1) ||| md W wr C al z (-1) else (aw W wr fc lc z ||| md W wr C al (aw W wr fc lc z) 1) ||| md W wr C al (aw W wr fc lc z) (-1)
section
variable {N : Nat} {X : ez_X} {I : Nat → Nat → Int32} {J : Nat → Nat → Int64} {R : Nat → Nat} {T : List ez_C} {z : Int64}
theorem pe_around : pe N X 144 [.ref 1, .long z] (ev_hp I J R T) (fun r h => r = some (.long (ar (I 1 3) (I 1 5) (I 1 6) (J 1 7) (J 1 8) (J 1 9) (I 2 0) z)) ∧ h = ev_hp I J R T) := by
  unfold ar
  refine pe_of (pw_p (ar_0 ?_))
  rw [at3_0]
  refine ⟨fun h => ⟨fun h2 => ?_, fun h2 => ?_⟩, fun h => ?_⟩
  · rw [if_neg h, if_neg h2]
    exact ⟨rfl, rfl⟩
  · rw [if_neg h, if_pos (Classical.not_not.mp h2)]
    exact ⟨rfl, rfl⟩
  · rw [if_pos (Classical.not_not.mp h)]
    exact ⟨rfl, rfl⟩
end
/-! both ways take a union apart -/
theorem kb_xor (x y : Int64) (n : Nat) : kb (x ^^^ y) n = Bool.xor (kb x n) (kb y n) := by
  unfold kb
  rw [Int64.toBitVec_xor, BitVec.getLsbD_xor]
theorem us_or (x y : Int64) (n : Int32) : us (x ||| y) n = us x n ||| us y n := by
  unfold us
  rw [Int64.toUInt64_or, UInt64.shiftRight_or, UInt64.toInt64_or]
theorem sl_or (x y : Int64) (n : Int32) : sl (x ||| y) n = sl x n ||| sl y n := Int64.shiftLeft_or
theorem and_o (x y m : Int64) : (x ||| y) &&& m = (x &&& m) ||| (y &&& m) := kb_ext fun n _ => by
  rw [kb_and, kb_or, kb_or, kb_and, kb_and]
  cases kb x n <;> cases kb y n <;> cases kb m n <;> rfl
theorem xm_or (x y m : Int64) : xm (x ||| y) m = xm x m ||| xm y m := kb_ext fun n _ => by
  unfold xm
  rw [kb_xor, kb_and, kb_or, kb_or, kb_xor, kb_and, kb_xor, kb_and]
  cases kb x n <;> cases kb y n <;> cases kb m n <;> rfl
theorem or4 (a b c d : Int64) : (a ||| b) ||| (c ||| d) = (a ||| c) ||| (b ||| d) := kb_ext fun n _ => by
  simp only [kb_or]
  cases kb a n <;> cases kb b n <;> cases kb c n <;> cases kb d n <;> rfl
theorem if_o {P : Prop} {d : Decidable P} (x y : Int64) : (if P then (0 : Int64) else x ||| y) = (if P then 0 else x) ||| (if P then 0 else y) := by
  split
  · exact Int64.or_zero.symm
  · rfl
section
variable (W wr C : Int32) (al fc lc x y : Int64) (s t : Int32)
theorem ma_or : ma W wr fc lc (x ||| y) s = ma W wr fc lc x s ||| ma W wr fc lc y s := by
  unfold ma
  split
  · rfl
  split
  · rw [xm_or, us_or, and_o, if_o, sl_or, or4]
  · rw [xm_or, sl_or, and_o, if_o, us_or, or4]
theorem md_or : md W wr C al (x ||| y) s = md W wr C al x s ||| md W wr C al y s := by
  unfold md
  split
  · rfl
  split
  · rw [us_or, sl_or, if_o, or4, and_o]
  · rw [us_or, sl_or, if_o, or4, and_o]
theorem aw_or : aw W wr fc lc (x ||| y) = aw W wr fc lc x ||| aw W wr fc lc y := by
  unfold aw
  rw [ma_or, ma_or, or4 x y, or4]
theorem ar_or : ar W wr C al fc lc t (x ||| y) = ar W wr C al fc lc t x ||| ar W wr C al fc lc t y := by
  unfold ar
  split
  · rfl
  split
  · rw [aw_or, md_or, md_or, or4 (aw W wr fc lc x), or4]
  · rw [aw_or, md_or, md_or, or4 (aw W wr fc lc x), or4]
end
/-! sets of cells of the paper -/
def fc_L (W : Int32) : Nat → Int32 → Int64 → Int64
  | 0, _, f => f
  | r + 1, y, f => fc_L W r (y + 1) (f ||| ((1 : Int64) <<< ((W * y).toInt64 &&& (63 : Int64))))
def al_F (C : Int32) : Int64 := ((1 : Int64) <<< (C.toInt64 &&& (63 : Int64))) - 1
def fc_F (W H : Int32) : Int64 := fc_L W H.toInt.toNat 0 0
def lc_F (W H : Int32) : Int64 := fc_F W H <<< ((W - 1).toInt64 &&& (63 : Int64))
def cell1 (c : Nat) : Int64 := (1 : Int64) <<< ((Int32.ofNat c).toInt64 &&& (63 : Int64))
def ar_paper (W H wr t : Int32) (z : Int64) : Int64 := ar W wr (W * H) (al_F (W * H)) (fc_F W H) (lc_F W H) t z
def ar_tab (W H : Nat) : Bool := (List.range 2).all fun wr => (List.range 2).all fun t => (List.range (W * H)).all fun c => decide (ar_paper (Int32.ofNat W) (Int32.ofNat H) (Int32.ofNat wr) (Int32.ofNat (t + 1)) (cell1 c) = cell1 c ||| ab_K (Int32.ofNat W) (Int32.ofNat H) (Int32.ofNat wr) (Int32.ofNat (t + 1)) (Int32.ofNat c) 9 0 0)
theorem ar_t2 : ((List.range 5).all fun h => ar_tab 2 (h + 2)) = true := by decide +kernel
theorem ar_t3 : ((List.range 5).all fun h => ar_tab 3 (h + 2)) = true := by decide +kernel
theorem ar_t4 : ((List.range 5).all fun h => ar_tab 4 (h + 2)) = true := by decide +kernel
theorem ar_t5 : ((List.range 5).all fun h => ar_tab 5 (h + 2)) = true := by decide +kernel
theorem ar_t6 : ((List.range 5).all fun h => ar_tab 6 (h + 2)) = true := by decide +kernel
theorem ar_ts {W H wr t c : Nat} (hW : 2 ≤ W ∧ W ≤ 6) (hH : 2 ≤ H ∧ H ≤ 6) (hwr : wr < 2) (ht : t = 1 ∨ t = 2) (hc : c < W * H) : ar_paper (Int32.ofNat W) (Int32.ofNat H) (Int32.ofNat wr) (Int32.ofNat t) (cell1 c) = cell1 c ||| ab_K (Int32.ofNat W) (Int32.ofNat H) (Int32.ofNat wr) (Int32.ofNat t) (Int32.ofNat c) 9 0 0 := by
  have h0 : ar_tab W H = true := by
    have key : ∀ w, ((List.range 5).all fun h => ar_tab w (h + 2)) = true → ar_tab w H = true := fun w h => by
      have := List.all_eq_true.mp h (H - 2) (List.mem_range.mpr (by omega))
      rw [show H - 2 + 2 = H by omega] at this
      exact this
    rcases (show W = 2 ∨ W = 3 ∨ W = 4 ∨ W = 5 ∨ W = 6 by omega) with rfl | rfl | rfl | rfl | rfl
    · exact key 2 ar_t2
    · exact key 3 ar_t3
    · exact key 4 ar_t4
    · exact key 5 ar_t5
    · exact key 6 ar_t6
  have h1 := List.all_eq_true.mp h0 wr (List.mem_range.mpr hwr)
  have h2 := List.all_eq_true.mp h1 (t - 1) (List.mem_range.mpr (by omega))
  have h3 := of_decide_eq_true (List.all_eq_true.mp h2 c (List.mem_range.mpr hc))
  rw [show t - 1 + 1 = t by omega] at h3
  exact h3
/-! the reference gathers what is about each cell -/
section
variable (W H wr far : Int32)
theorem ab_q_or (d1 d2 x' y' : Int32) (y : Int64) : ab_q W H far d1 d2 x' y' y = y ||| ab_q W H far d1 d2 x' y' 0 := by
  unfold ab_q
  split
  · exact Int64.or_zero.symm
  split
  · exact Int64.or_zero.symm
  split
  · rw [Int64.zero_or]
  · exact Int64.or_zero.symm
theorem ab_K_or (c : Int32) : ∀ (r : Nat) (k : Int32) (y : Int64), ab_K W H wr far c r k y = y ||| ab_K W H wr far c r k 0 := by
  intro r
  induction r with
  | zero => exact fun k y => Int64.or_zero.symm
  | succ r ih =>
    intro k y
    unfold ab_K
    rw [ih, ih (k + 1) (ab_p W H wr far c k 0)]
    unfold ab_p
    rw [ab_q_or W H far _ _ _ _ y, Int64.or_assoc]
/-- the first c cells of a set, and what is about them -/
def pz (z : Int64) : Nat → Int64
  | 0 => 0
  | c + 1 => if kb z c = true then pz z c ||| cell1 c else pz z c
def pq (z : Int64) : Nat → Int64
  | 0 => 0
  | c + 1 => if kb z c = true then pq z c ||| ab_K W H wr far (Int32.ofNat c) 9 0 0 else pq z c
theorem pz_kb (z : Int64) : ∀ (c : Nat), c ≤ 64 → ∀ n, kb (pz z c) n = (decide (n < c) && kb z n) := by
  intro c
  induction c with
  | zero =>
    intro _ n
    rw [decide_eq_false (Nat.not_lt_zero n)]
    exact kb_0 n
  | succ c ih =>
    intro hc n
    unfold pz
    split
    · rename_i hk
      rw [kb_or, ih (by omega), cell1, kb_one (by omega)]
      by_cases h : n = c
      · subst h
        rw [decide_eq_true rfl, decide_eq_true (Nat.lt_succ_self n), hk]
        simp
      · rw [decide_eq_false h, Bool.or_false]
        by_cases h2 : n < c
        · rw [decide_eq_true h2, decide_eq_true (show n < c + 1 by omega)]
        · rw [decide_eq_false h2, decide_eq_false (show ¬ n < c + 1 by omega)]
    · rename_i hk
      rw [ih (by omega)]
      by_cases h : n = c
      · subst h
        rw [decide_eq_false (Nat.lt_irrefl n), Bool.false_and]
        cases hz : kb z n with
        | true => exact absurd hz hk
        | false => simp
      · by_cases h2 : n < c
        · rw [decide_eq_true h2, decide_eq_true (show n < c + 1 by omega)]
        · rw [decide_eq_false h2, decide_eq_false (show ¬ n < c + 1 by omega)]
theorem pz_all {z : Int64} {C : Nat} (hC : C ≤ 64) (hz : ∀ n, C ≤ n → kb z n = false) : pz z C = z := kb_ext fun n _ => by
  rw [pz_kb z C hC]
  by_cases h : n < C
  · rw [decide_eq_true h, Bool.true_and]
  · rw [decide_eq_false h, Bool.false_and, hz n (by omega)]
theorem ab_C_is (z : Int64) {C : Nat} (hC : C ≤ 64) : ∀ (r c : Nat) (y : Int64), c + r = C → y = z ||| pq W H wr far z c → ab_C W H wr far z r (Int32.ofNat c) y = z ||| pq W H wr far z C := by
  intro r
  induction r with
  | zero =>
    intro c y hc hy
    obtain rfl : c = C := by omega
    exact hy
  | succ r ih =>
    intro c y hc hy
    unfold ab_C
    rw [io_1]
    refine ih (c + 1) _ (by omega) ?_
    unfold pq
    have hk := has_kb z (j := c) (by omega)
    by_cases h : kb z c = true
    · rw [if_neg (fun e => by rw [hk.mp e] at h; cases h), if_pos h, ab_K_or, hy, Int64.or_assoc]
    · rw [if_pos (hk.mpr (by cases hz : kb z c with | true => exact absurd hz h | false => rfl)), if_neg h]
      exact hy
end
/-- the same cells -/
theorem ar_ab {W H wr t : Nat} (hW : 2 ≤ W ∧ W ≤ 6) (hH : 2 ≤ H ∧ H ≤ 6) (hwr : wr < 2) (ht : t ≤ 2) {z : Int64} (hz : ∀ n, W * H ≤ n → kb z n = false) : ar_paper (Int32.ofNat W) (Int32.ofNat H) (Int32.ofNat wr) (Int32.ofNat t) z = ab_F (Int32.ofNat W) (Int32.ofNat H) (Int32.ofNat wr) (Int32.ofNat t) z := by
  by_cases h0 : t = 0
  · subst h0
    rfl
  have m1 : W * H ≤ 6 * 6 := Nat.mul_le_mul hW.2 hH.2
  have hnp : ¬ Int32.ofNat t ≤ 0 := fun e => by
    rw [io_le0 (by omega)] at e
    exact h0 e
  have hC : (Int32.ofNat W * Int32.ofNat H).toInt.toNat = W * H := by
    rw [io_mul, io_ti (by omega)]
    omega
  unfold ab_F
  rw [if_neg hnp, hC, show (0 : Int32) = Int32.ofNat 0 from rfl, ab_C_is _ _ _ _ z (C := W * H) (by omega) (W * H) 0 z (by omega) Int64.or_zero.symm]
  have key : ∀ c, c ≤ W * H → ar_paper (Int32.ofNat W) (Int32.ofNat H) (Int32.ofNat wr) (Int32.ofNat t) (pz z c) = pz z c ||| pq (Int32.ofNat W) (Int32.ofNat H) (Int32.ofNat wr) (Int32.ofNat t) z c := by
    intro c
    induction c with
    | zero =>
      intro _
      have e : ar_paper (Int32.ofNat W) (Int32.ofNat H) (Int32.ofNat wr) (Int32.ofNat t) 0 = 0 := by
        have h1 : ∀ s, us 0 s = 0 := fun s => by
          unfold us
          rw [show Int64.toUInt64 0 = 0 from rfl, UInt64.zero_shiftRight]
          rfl
        have h2 : ∀ s, sl 0 s = 0 := fun s => Int64.zero_shiftLeft
        have h3 : ∀ m, xm 0 m = 0 := fun m => kb_ext fun n _ => by
          unfold xm
          rw [kb_xor, kb_and, kb_0]
          rfl
        have h4 : ∀ m : Int64, 0 &&& m = 0 := fun m => kb_ext fun n _ => by
          rw [kb_and, kb_0]
          rfl
        have h5 : ∀ (W wr : Int32) (fc lc : Int64) s, ma W wr fc lc 0 s = 0 := fun W wr fc lc s => by
          unfold ma
          simp only [h1, h2, h3, h4, ite_self, Int64.or_zero]
        have h6 : ∀ (W wr C : Int32) (al : Int64) s, md W wr C al 0 s = 0 := fun W wr C al s => by
          unfold md
          simp only [h1, h2, h4, ite_self, Int64.or_zero]
        unfold ar_paper ar aw
        simp only [h5, h6, Int64.or_zero, ite_self]
      exact e.trans Int64.or_zero.symm
    | succ c ih =>
      intro hc
      unfold pz pq
      split
      · have e := ar_or (Int32.ofNat W) (Int32.ofNat wr) (Int32.ofNat W * Int32.ofNat H) (al_F (Int32.ofNat W * Int32.ofNat H)) (fc_F (Int32.ofNat W) (Int32.ofNat H)) (lc_F (Int32.ofNat W) (Int32.ofNat H)) (pz z c) (cell1 c) (Int32.ofNat t)
        have e2 := ar_ts (c := c) hW hH hwr (t := t) (by omega) (Nat.lt_of_succ_le hc)
        have e1 := ih (Nat.le_of_succ_le hc)
        unfold ar_paper at e1 e2 ⊢
        rw [e, e1, e2, or4]
      · exact ih (Nat.le_of_succ_le hc)
  have h1 := key (W * H) (Nat.le_refl _)
  rw [pz_all (by omega) hz] at h1
  exact h1
