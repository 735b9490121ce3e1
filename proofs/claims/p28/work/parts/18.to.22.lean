section
/-! Contracts of the small ones: what is within, what stands at a place of a row, what is put there. -/
noncomputable def ev_wi (v a b : Int32) : Int32 := if v < a then 0 else if b < v then 0 else 1
noncomputable def ev_il (v a b : Int64) : Int32 := if lg_cmp v a < 0 then 0 else if 0 < lg_cmp v b then 0 else 1
theorem ev_wi_01 (v a b : Int32) : ev_wi v a b = 0 ∨ ev_wi v a b = 1 := by
  unfold ev_wi
  split
  · exact Or.inl rfl
  · split
    · exact Or.inl rfl
    · exact Or.inr rfl
theorem ev_il_01 (v a b : Int64) : ev_il v a b = 0 ∨ ev_il v a b = 1 := by
  unfold ev_il
  split
  · exact Or.inl rfl
  · split
    · exact Or.inl rfl
    · exact Or.inr rfl
theorem ev_01 {v e : Int32} (h : e = v) (h2 : e = 0 ∨ e = 1) : v = 0 ∨ v = 1 := h ▸ h2
set_option maxRecDepth 100000 in
set_option maxHeartbeats 100000 in
theorem ec_within_r1 (X : ez_X) (h : ez_H) (v : Int32) (a : Int32) (b : Int32) (cz kz : Nat) : ∀ G : ez_F, fx_up X 3 G 55 0 [.int v, .int a, .int b] [] h cz kz = bif decide (v < a) then G 55 14 [.int v, .int a, .int b] [] h cz kz else G 55 5 [.int v, .int a, .int b] [] h cz kz := by
  intro G
  rfl
set_option maxRecDepth 100000 in
set_option maxHeartbeats 100000 in
theorem ec_within_r2 (X : ez_X) (h : ez_H) (v : Int32) (a : Int32) (b : Int32) (cz kz : Nat) : ∀ G : ez_F, fx_up X 2 G 55 14 [.int v, .int a, .int b] [] h cz kz = some (some (.int 0), h, cz, kz) := by
  intro G
  rfl
set_option maxRecDepth 100000 in
set_option maxHeartbeats 100000 in
theorem ec_within_r3 (X : ez_X) (h : ez_H) (v : Int32) (a : Int32) (b : Int32) (cz kz : Nat) : ∀ G : ez_F, fx_up X 3 G 55 5 [.int v, .int a, .int b] [] h cz kz = bif decide (b < v) then G 55 14 [.int v, .int a, .int b] [] h cz kz else G 55 10 [.int v, .int a, .int b] [] h cz kz := by
  intro G
  rfl
set_option maxRecDepth 100000 in
set_option maxHeartbeats 100000 in
theorem ec_within_r4 (X : ez_X) (h : ez_H) (v : Int32) (a : Int32) (b : Int32) (cz kz : Nat) : ∀ G : ez_F, fx_up X 2 G 55 14 [.int v, .int a, .int b] [] h cz kz = some (some (.int 0), h, cz, kz) := by
  intro G
  rfl
set_option maxRecDepth 100000 in
set_option maxHeartbeats 100000 in
theorem ec_within_r5 (X : ez_X) (h : ez_H) (v : Int32) (a : Int32) (b : Int32) (cz kz : Nat) : ∀ G : ez_F, fx_up X 3 G 55 10 [.int v, .int a, .int b] [] h cz kz = some (some (.int 1), h, cz, kz) := by
  intro G
  rfl
theorem ec_within (X : ez_X) (h : ez_H) (v : Int32) (a : Int32) (b : Int32)  : ev_W X 55 0 (ez_lay [.int v, .int a, .int b]) [] h 0 0 (ev_is (some (.int (ev_wi v a b))) h) := by
  refine ev_if (ec_within_r1 X h v a b _ _) (fun b1 => ?_) (fun b1 => ?_)
  · replace b1 := of_decide_eq_true b1
    refine ev_ret (ec_within_r2 X h v a b _ _) ?_
    exact ⟨by rw [ev_wi, if_pos b1], rfl, rfl, rfl⟩
  · replace b1 := of_decide_eq_false b1
    refine ev_if (ec_within_r3 X h v a b _ _) (fun b2 => ?_) (fun b2 => ?_)
    · replace b2 := of_decide_eq_true b2
      refine ev_ret (ec_within_r4 X h v a b _ _) ?_
      exact ⟨by rw [ev_wi, if_neg b1, if_pos b2], rfl, rfl, rfl⟩
    · replace b2 := of_decide_eq_false b2
      refine ev_ret (ec_within_r5 X h v a b _ _) ?_
      exact ⟨by rw [ev_wi, if_neg b1, if_neg b2], rfl, rfl, rfl⟩
set_option maxRecDepth 100000 in
set_option maxHeartbeats 100000 in
theorem ec_in_r1 (X : ez_X) (h : ez_H) (v : Int64) (a : Int64) (b : Int64) (cz kz : Nat) : ∀ G : ez_F, fx_up X 4 G 198 0 [.long v, ez_fill, .long a, ez_fill, .long b, ez_fill] [] h cz kz = bif decide ((lg_cmp v a) < 0) then G 198 17 [.long v, ez_fill, .long a, ez_fill, .long b, ez_fill] [] h cz kz else G 198 6 [.long v, ez_fill, .long a, ez_fill, .long b, ez_fill] [] h cz kz := by
  intro G
  rfl
set_option maxRecDepth 100000 in
set_option maxHeartbeats 100000 in
theorem ec_in_r2 (X : ez_X) (h : ez_H) (v : Int64) (a : Int64) (b : Int64) (cz kz : Nat) : ∀ G : ez_F, fx_up X 2 G 198 17 [.long v, ez_fill, .long a, ez_fill, .long b, ez_fill] [] h cz kz = some (some (.int 0), h, cz, kz) := by
  intro G
  rfl
set_option maxRecDepth 100000 in
set_option maxHeartbeats 100000 in
theorem ec_in_r3 (X : ez_X) (h : ez_H) (v : Int64) (a : Int64) (b : Int64) (cz kz : Nat) : ∀ G : ez_F, fx_up X 4 G 198 6 [.long v, ez_fill, .long a, ez_fill, .long b, ez_fill] [] h cz kz = bif decide (0 < (lg_cmp v b)) then G 198 17 [.long v, ez_fill, .long a, ez_fill, .long b, ez_fill] [] h cz kz else G 198 13 [.long v, ez_fill, .long a, ez_fill, .long b, ez_fill] [] h cz kz := by
  intro G
  rfl
set_option maxRecDepth 100000 in
set_option maxHeartbeats 100000 in
theorem ec_in_r4 (X : ez_X) (h : ez_H) (v : Int64) (a : Int64) (b : Int64) (cz kz : Nat) : ∀ G : ez_F, fx_up X 2 G 198 17 [.long v, ez_fill, .long a, ez_fill, .long b, ez_fill] [] h cz kz = some (some (.int 0), h, cz, kz) := by
  intro G
  rfl
set_option maxRecDepth 100000 in
set_option maxHeartbeats 100000 in
theorem ec_in_r5 (X : ez_X) (h : ez_H) (v : Int64) (a : Int64) (b : Int64) (cz kz : Nat) : ∀ G : ez_F, fx_up X 3 G 198 13 [.long v, ez_fill, .long a, ez_fill, .long b, ez_fill] [] h cz kz = some (some (.int 1), h, cz, kz) := by
  intro G
  rfl
theorem ec_in (X : ez_X) (h : ez_H) (v : Int64) (a : Int64) (b : Int64)  : ev_W X 198 0 (ez_lay [.long v, .long a, .long b]) [] h 0 0 (ev_is (some (.int (ev_il v a b))) h) := by
  refine ev_if (ec_in_r1 X h v a b _ _) (fun b1 => ?_) (fun b1 => ?_)
  · replace b1 := of_decide_eq_true b1
    refine ev_ret (ec_in_r2 X h v a b _ _) ?_
    exact ⟨by rw [ev_il, if_pos b1], rfl, rfl, rfl⟩
  · replace b1 := of_decide_eq_false b1
    refine ev_if (ec_in_r3 X h v a b _ _) (fun b2 => ?_) (fun b2 => ?_)
    · replace b2 := of_decide_eq_true b2
      refine ev_ret (ec_in_r4 X h v a b _ _) ?_
      exact ⟨by rw [ev_il, if_neg b1, if_pos b2], rfl, rfl, rfl⟩
    · replace b2 := of_decide_eq_false b2
      refine ev_ret (ec_in_r5 X h v a b _ _) ?_
      exact ⟨by rw [ev_il, if_neg b1, if_neg b2], rfl, rfl, rfl⟩
set_option maxRecDepth 100000 in
set_option maxHeartbeats 100000 in
theorem ec_at_r1 (X : ez_X) (h : ez_H) (n : Nat) (p : Nat) (i : Int32) (f : Nat → Int32) (cz kz : Nat) : ∀ G : ez_F, fx_up X 2 G 3 0 [.ref p, .int i] [] h cz kz = bif decide (i < 0) then G 3 16 [.ref p, .int i] [] h cz kz else G 3 4 [.ref p, .int i] [] h cz kz := by
  intro G
  rfl
set_option maxRecDepth 100000 in
set_option maxHeartbeats 100000 in
theorem ec_at_r2 (X : ez_X) (h : ez_H) (n : Nat) (p : Nat) (i : Int32) (f : Nat → Int32) (cz kz : Nat) : ∀ G : ez_F, fx_up X 2 G 3 16 [.ref p, .int i] [] h cz kz = some (some (.int 0), h, cz, kz) := by
  intro G
  rfl
set_option maxRecDepth 100000 in
set_option maxHeartbeats 100000 in
theorem ec_at_r3 (X : ez_X) (h : ez_H) (n : Nat) (p : Nat) (i : Int32) (f : Nat → Int32) (cz kz : Nat) : ∀ G : ez_F, fx_up X 2 G 3 4 [.ref p, .int i] [] h cz kz = G 3 6 [.ref p, .int i] [.ref p, .int i] h cz kz := by
  intro G
  rfl
set_option maxRecDepth 100000 in
set_option maxHeartbeats 100000 in
theorem ec_at_r4 (X : ez_X) (h : ez_H) (n : Nat) (p : Nat) (i : Int32) (f : Nat → Int32) (cz kz : Nat) : ∀ G : ez_F, fx_up X 1 G 3 7 [.ref p, .int i] [.int (Int32.ofNat n), .int i] h cz kz = bif decide ((Int32.ofNat n) ≤ i) then G 3 16 [.ref p, .int i] [] h cz kz else G 3 10 [.ref p, .int i] [] h cz kz := by
  intro G
  rfl
set_option maxRecDepth 100000 in
set_option maxHeartbeats 100000 in
theorem ec_at_r5 (X : ez_X) (h : ez_H) (n : Nat) (p : Nat) (i : Int32) (f : Nat → Int32) (cz kz : Nat) : ∀ G : ez_F, fx_up X 2 G 3 16 [.ref p, .int i] [] h cz kz = some (some (.int 0), h, cz, kz) := by
  intro G
  rfl
set_option maxRecDepth 100000 in
set_option maxHeartbeats 100000 in
theorem ec_at_r6 (X : ez_X) (h : ez_H) (n : Nat) (p : Nat) (i : Int32) (f : Nat → Int32) (cz kz : Nat) : ∀ G : ez_F, fx_up X 2 G 3 10 [.ref p, .int i] [] h cz kz = G 3 12 [.ref p, .int i] [.int i, .ref p] h cz kz := by
  intro G
  rfl
set_option maxRecDepth 100000 in
set_option maxHeartbeats 100000 in
theorem ec_at_r7 (X : ez_X) (h : ez_H) (n : Nat) (p : Nat) (i : Int32) (f : Nat → Int32) (cz kz : Nat) : ∀ G : ez_F, fx_up X 2 G 3 13 [.ref p, .int i] [.int (f i.toNatClampNeg)] h cz kz = some (some (.int (f i.toNatClampNeg)), h, cz, kz) := by
  intro G
  rfl
theorem ec_at (X : ez_X) (h : ez_H) (n : Nat) (p : Nat) (i : Int32) (f : Nat → Int32) (hp : h[p]? = some (.inl (n, .inl f))) (hn : n < 2 ^ 31) : ev_W X 3 0 (ez_lay [.ref p, .int i]) [] h 0 0 (ev_is (some (.int (ev_at n f i))) h) := by
  refine ev_if (ec_at_r1 X h n p i f _ _) (fun b1 => ?_) (fun b1 => ?_)
  · replace b1 := of_decide_eq_true b1
    refine ev_ret (ec_at_r2 X h n p i f _ _) ?_
    exact ⟨by rw [ev_at, if_pos b1], rfl, rfl, rfl⟩
  · replace b1 := of_decide_eq_false b1
    refine ev_seg (ec_at_r3 X h n p i f _ _) ?_
    refine ev_alenI (n := n) (by rfl) hp ?_
    refine ev_if (ec_at_r4 X h n p i f _ _) (fun b2 => ?_) (fun b2 => ?_)
    · replace b2 := of_decide_eq_true b2
      refine ev_ret (ec_at_r5 X h n p i f _ _) ?_
      exact ⟨by rw [ev_at, if_neg b1, if_pos b2], rfl, rfl, rfl⟩
    · replace b2 := of_decide_eq_false b2
      refine ev_seg (ec_at_r6 X h n p i f _ _) ?_
      refine ev_iald (by rfl) hp (ev_ix_of hn b1 b2) ?_
      refine ev_ret (ec_at_r7 X h n p i f _ _) ?_
      exact ⟨by rw [ev_at, if_neg b1, if_neg b2], rfl, rfl, rfl⟩
set_option maxRecDepth 100000 in
set_option maxHeartbeats 100000 in
theorem ec_atJ_r1 (X : ez_X) (h : ez_H) (n : Nat) (p : Nat) (i : Int32) (f : Nat → Int64) (cz kz : Nat) : ∀ G : ez_F, fx_up X 2 G 4 0 [.ref p, .int i] [] h cz kz = bif decide (i < 0) then G 4 16 [.ref p, .int i] [] h cz kz else G 4 4 [.ref p, .int i] [] h cz kz := by
  intro G
  rfl
set_option maxRecDepth 100000 in
set_option maxHeartbeats 100000 in
theorem ec_atJ_r2 (X : ez_X) (h : ez_H) (n : Nat) (p : Nat) (i : Int32) (f : Nat → Int64) (cz kz : Nat) : ∀ G : ez_F, fx_up X 2 G 4 16 [.ref p, .int i] [] h cz kz = some (some (.long 0), h, cz, kz) := by
  intro G
  rfl
set_option maxRecDepth 100000 in
set_option maxHeartbeats 100000 in
theorem ec_atJ_r3 (X : ez_X) (h : ez_H) (n : Nat) (p : Nat) (i : Int32) (f : Nat → Int64) (cz kz : Nat) : ∀ G : ez_F, fx_up X 2 G 4 4 [.ref p, .int i] [] h cz kz = G 4 6 [.ref p, .int i] [.ref p, .int i] h cz kz := by
  intro G
  rfl
set_option maxRecDepth 100000 in
set_option maxHeartbeats 100000 in
theorem ec_atJ_r4 (X : ez_X) (h : ez_H) (n : Nat) (p : Nat) (i : Int32) (f : Nat → Int64) (cz kz : Nat) : ∀ G : ez_F, fx_up X 1 G 4 7 [.ref p, .int i] [.int (Int32.ofNat n), .int i] h cz kz = bif decide ((Int32.ofNat n) ≤ i) then G 4 16 [.ref p, .int i] [] h cz kz else G 4 10 [.ref p, .int i] [] h cz kz := by
  intro G
  rfl
set_option maxRecDepth 100000 in
set_option maxHeartbeats 100000 in
theorem ec_atJ_r5 (X : ez_X) (h : ez_H) (n : Nat) (p : Nat) (i : Int32) (f : Nat → Int64) (cz kz : Nat) : ∀ G : ez_F, fx_up X 2 G 4 16 [.ref p, .int i] [] h cz kz = some (some (.long 0), h, cz, kz) := by
  intro G
  rfl
set_option maxRecDepth 100000 in
set_option maxHeartbeats 100000 in
theorem ec_atJ_r6 (X : ez_X) (h : ez_H) (n : Nat) (p : Nat) (i : Int32) (f : Nat → Int64) (cz kz : Nat) : ∀ G : ez_F, fx_up X 2 G 4 10 [.ref p, .int i] [] h cz kz = G 4 12 [.ref p, .int i] [.int i, .ref p] h cz kz := by
  intro G
  rfl
set_option maxRecDepth 100000 in
set_option maxHeartbeats 100000 in
theorem ec_atJ_r7 (X : ez_X) (h : ez_H) (n : Nat) (p : Nat) (i : Int32) (f : Nat → Int64) (cz kz : Nat) : ∀ G : ez_F, fx_up X 2 G 4 13 [.ref p, .int i] [.long (f i.toNatClampNeg)] h cz kz = some (some (.long (f i.toNatClampNeg)), h, cz, kz) := by
  intro G
  rfl
theorem ec_atJ (X : ez_X) (h : ez_H) (n : Nat) (p : Nat) (i : Int32) (f : Nat → Int64) (hp : h[p]? = some (.inl (n, .inr (.inl f)))) (hn : n < 2 ^ 31) : ev_W X 4 0 (ez_lay [.ref p, .int i]) [] h 0 0 (ev_is (some (.long (ev_atJ n f i))) h) := by
  refine ev_if (ec_atJ_r1 X h n p i f _ _) (fun b1 => ?_) (fun b1 => ?_)
  · replace b1 := of_decide_eq_true b1
    refine ev_ret (ec_atJ_r2 X h n p i f _ _) ?_
    exact ⟨by rw [ev_atJ, if_pos b1], rfl, rfl, rfl⟩
  · replace b1 := of_decide_eq_false b1
    refine ev_seg (ec_atJ_r3 X h n p i f _ _) ?_
    refine ev_alenJ (n := n) (by rfl) hp ?_
    refine ev_if (ec_atJ_r4 X h n p i f _ _) (fun b2 => ?_) (fun b2 => ?_)
    · replace b2 := of_decide_eq_true b2
      refine ev_ret (ec_atJ_r5 X h n p i f _ _) ?_
      exact ⟨by rw [ev_atJ, if_neg b1, if_pos b2], rfl, rfl, rfl⟩
    · replace b2 := of_decide_eq_false b2
      refine ev_seg (ec_atJ_r6 X h n p i f _ _) ?_
      refine ev_lald (by rfl) hp (ev_ix_of hn b1 b2) ?_
      refine ev_ret (ec_atJ_r7 X h n p i f _ _) ?_
      exact ⟨by rw [ev_atJ, if_neg b1, if_neg b2], rfl, rfl, rfl⟩
set_option maxRecDepth 100000 in
set_option maxHeartbeats 100000 in
theorem ec_put_r1 (X : ez_X) (h : ez_H) (n : Nat) (p : Nat) (i : Int32) (x : Int32) (f : Nat → Int32) (cz kz : Nat) : ∀ G : ez_F, fx_up X 2 G 38 0 [.ref p, .int i, .int x] [] h cz kz = bif decide (i < 0) then G 38 14 [.ref p, .int i, .int x] [] h cz kz else G 38 4 [.ref p, .int i, .int x] [] h cz kz := by
  intro G
  rfl
set_option maxRecDepth 100000 in
set_option maxHeartbeats 100000 in
theorem ec_put_r2 (X : ez_X) (h : ez_H) (n : Nat) (p : Nat) (i : Int32) (x : Int32) (f : Nat → Int32) (cz kz : Nat) : ∀ G : ez_F, fx_up X 1 G 38 14 [.ref p, .int i, .int x] [] h cz kz = some (none, h, cz, kz) := by
  intro G
  rfl
set_option maxRecDepth 100000 in
set_option maxHeartbeats 100000 in
theorem ec_put_r3 (X : ez_X) (h : ez_H) (n : Nat) (p : Nat) (i : Int32) (x : Int32) (f : Nat → Int32) (cz kz : Nat) : ∀ G : ez_F, fx_up X 2 G 38 4 [.ref p, .int i, .int x] [] h cz kz = G 38 6 [.ref p, .int i, .int x] [.ref p, .int i] h cz kz := by
  intro G
  rfl
set_option maxRecDepth 100000 in
set_option maxHeartbeats 100000 in
theorem ec_put_r4 (X : ez_X) (h : ez_H) (n : Nat) (p : Nat) (i : Int32) (x : Int32) (f : Nat → Int32) (cz kz : Nat) : ∀ G : ez_F, fx_up X 1 G 38 7 [.ref p, .int i, .int x] [.int (Int32.ofNat n), .int i] h cz kz = bif decide ((Int32.ofNat n) ≤ i) then G 38 14 [.ref p, .int i, .int x] [] h cz kz else G 38 10 [.ref p, .int i, .int x] [] h cz kz := by
  intro G
  rfl
set_option maxRecDepth 100000 in
set_option maxHeartbeats 100000 in
theorem ec_put_r5 (X : ez_X) (h : ez_H) (n : Nat) (p : Nat) (i : Int32) (x : Int32) (f : Nat → Int32) (cz kz : Nat) : ∀ G : ez_F, fx_up X 1 G 38 14 [.ref p, .int i, .int x] [] h cz kz = some (none, h, cz, kz) := by
  intro G
  rfl
set_option maxRecDepth 100000 in
set_option maxHeartbeats 100000 in
theorem ec_put_r6 (X : ez_X) (h : ez_H) (n : Nat) (p : Nat) (i : Int32) (x : Int32) (f : Nat → Int32) (cz kz : Nat) : ∀ G : ez_F, fx_up X 3 G 38 10 [.ref p, .int i, .int x] [] h cz kz = G 38 13 [.ref p, .int i, .int x] [.int x, .int i, .ref p] h cz kz := by
  intro G
  rfl
set_option maxRecDepth 100000 in
set_option maxHeartbeats 100000 in
theorem ec_put_r7 (X : ez_X) (h : ez_H) (n : Nat) (p : Nat) (i : Int32) (x : Int32) (f : Nat → Int32) (cz kz : Nat) : ∀ G : ez_F, fx_up X 1 G 38 14 [.ref p, .int i, .int x] [] (h.set p (.inl (n, .inl (upd f i.toNatClampNeg x)))) cz kz = some (none, (h.set p (.inl (n, .inl (upd f i.toNatClampNeg x)))), cz, kz) := by
  intro G
  rfl
theorem ec_put (X : ez_X) (h : ez_H) (n : Nat) (p : Nat) (i : Int32) (x : Int32) (f : Nat → Int32) (hp : h[p]? = some (.inl (n, .inl f))) (hn : n < 2 ^ 31) : ev_W X 38 0 (ez_lay [.ref p, .int i, .int x]) [] h 0 0 (ev_is none (h.set p (.inl (n, .inl (ev_put n f i x))))) := by
  refine ev_if (ec_put_r1 X h n p i x f _ _) (fun b1 => ?_) (fun b1 => ?_)
  · replace b1 := of_decide_eq_true b1
    refine ev_ret (ec_put_r2 X h n p i x f _ _) ?_
    exact ⟨rfl, by rw [ev_put, if_pos b1] <;> exact (ev_set_self hp).symm, rfl, rfl⟩
  · replace b1 := of_decide_eq_false b1
    refine ev_seg (ec_put_r3 X h n p i x f _ _) ?_
    refine ev_alenI (n := n) (by rfl) hp ?_
    refine ev_if (ec_put_r4 X h n p i x f _ _) (fun b2 => ?_) (fun b2 => ?_)
    · replace b2 := of_decide_eq_true b2
      refine ev_ret (ec_put_r5 X h n p i x f _ _) ?_
      exact ⟨rfl, by rw [ev_put, if_neg b1, if_pos b2] <;> exact (ev_set_self hp).symm, rfl, rfl⟩
    · replace b2 := of_decide_eq_false b2
      refine ev_seg (ec_put_r6 X h n p i x f _ _) ?_
      refine ev_iast (by rfl) hp (ev_ix_of hn b1 b2) ?_
      refine ev_ret (ec_put_r7 X h n p i x f _ _) ?_
      exact ⟨rfl, by rw [ev_put, if_neg b1, if_neg b2] <;> exact (ev_set_self hp).symm, rfl, rfl⟩
set_option maxRecDepth 100000 in
set_option maxHeartbeats 100000 in
theorem ec_putJ_r1 (X : ez_X) (h : ez_H) (n : Nat) (p : Nat) (i : Int32) (x : Int64) (f : Nat → Int64) (cz kz : Nat) : ∀ G : ez_F, fx_up X 2 G 39 0 [.ref p, .int i, .long x, ez_fill] [] h cz kz = bif decide (i < 0) then G 39 14 [.ref p, .int i, .long x, ez_fill] [] h cz kz else G 39 4 [.ref p, .int i, .long x, ez_fill] [] h cz kz := by
  intro G
  rfl
set_option maxRecDepth 100000 in
set_option maxHeartbeats 100000 in
theorem ec_putJ_r2 (X : ez_X) (h : ez_H) (n : Nat) (p : Nat) (i : Int32) (x : Int64) (f : Nat → Int64) (cz kz : Nat) : ∀ G : ez_F, fx_up X 1 G 39 14 [.ref p, .int i, .long x, ez_fill] [] h cz kz = some (none, h, cz, kz) := by
  intro G
  rfl
set_option maxRecDepth 100000 in
set_option maxHeartbeats 100000 in
theorem ec_putJ_r3 (X : ez_X) (h : ez_H) (n : Nat) (p : Nat) (i : Int32) (x : Int64) (f : Nat → Int64) (cz kz : Nat) : ∀ G : ez_F, fx_up X 2 G 39 4 [.ref p, .int i, .long x, ez_fill] [] h cz kz = G 39 6 [.ref p, .int i, .long x, ez_fill] [.ref p, .int i] h cz kz := by
  intro G
  rfl
set_option maxRecDepth 100000 in
set_option maxHeartbeats 100000 in
theorem ec_putJ_r4 (X : ez_X) (h : ez_H) (n : Nat) (p : Nat) (i : Int32) (x : Int64) (f : Nat → Int64) (cz kz : Nat) : ∀ G : ez_F, fx_up X 1 G 39 7 [.ref p, .int i, .long x, ez_fill] [.int (Int32.ofNat n), .int i] h cz kz = bif decide ((Int32.ofNat n) ≤ i) then G 39 14 [.ref p, .int i, .long x, ez_fill] [] h cz kz else G 39 10 [.ref p, .int i, .long x, ez_fill] [] h cz kz := by
  intro G
  rfl
set_option maxRecDepth 100000 in
set_option maxHeartbeats 100000 in
theorem ec_putJ_r5 (X : ez_X) (h : ez_H) (n : Nat) (p : Nat) (i : Int32) (x : Int64) (f : Nat → Int64) (cz kz : Nat) : ∀ G : ez_F, fx_up X 1 G 39 14 [.ref p, .int i, .long x, ez_fill] [] h cz kz = some (none, h, cz, kz) := by
  intro G
  rfl
set_option maxRecDepth 100000 in
set_option maxHeartbeats 100000 in
theorem ec_putJ_r6 (X : ez_X) (h : ez_H) (n : Nat) (p : Nat) (i : Int32) (x : Int64) (f : Nat → Int64) (cz kz : Nat) : ∀ G : ez_F, fx_up X 3 G 39 10 [.ref p, .int i, .long x, ez_fill] [] h cz kz = G 39 13 [.ref p, .int i, .long x, ez_fill] [.long x, .int i, .ref p] h cz kz := by
  intro G
  rfl
set_option maxRecDepth 100000 in
set_option maxHeartbeats 100000 in
theorem ec_putJ_r7 (X : ez_X) (h : ez_H) (n : Nat) (p : Nat) (i : Int32) (x : Int64) (f : Nat → Int64) (cz kz : Nat) : ∀ G : ez_F, fx_up X 1 G 39 14 [.ref p, .int i, .long x, ez_fill] [] (h.set p (.inl (n, .inr (.inl (vp_updL f i.toNatClampNeg x))))) cz kz = some (none, (h.set p (.inl (n, .inr (.inl (vp_updL f i.toNatClampNeg x))))), cz, kz) := by
  intro G
  rfl
theorem ec_putJ (X : ez_X) (h : ez_H) (n : Nat) (p : Nat) (i : Int32) (x : Int64) (f : Nat → Int64) (hp : h[p]? = some (.inl (n, .inr (.inl f)))) (hn : n < 2 ^ 31) : ev_W X 39 0 (ez_lay [.ref p, .int i, .long x]) [] h 0 0 (ev_is none (h.set p (.inl (n, .inr (.inl (ev_putJ n f i x)))))) := by
  refine ev_if (ec_putJ_r1 X h n p i x f _ _) (fun b1 => ?_) (fun b1 => ?_)
  · replace b1 := of_decide_eq_true b1
    refine ev_ret (ec_putJ_r2 X h n p i x f _ _) ?_
    exact ⟨rfl, by rw [ev_putJ, if_pos b1] <;> exact (ev_set_self hp).symm, rfl, rfl⟩
  · replace b1 := of_decide_eq_false b1
    refine ev_seg (ec_putJ_r3 X h n p i x f _ _) ?_
    refine ev_alenJ (n := n) (by rfl) hp ?_
    refine ev_if (ec_putJ_r4 X h n p i x f _ _) (fun b2 => ?_) (fun b2 => ?_)
    · replace b2 := of_decide_eq_true b2
      refine ev_ret (ec_putJ_r5 X h n p i x f _ _) ?_
      exact ⟨rfl, by rw [ev_putJ, if_neg b1, if_pos b2] <;> exact (ev_set_self hp).symm, rfl, rfl⟩
    · replace b2 := of_decide_eq_false b2
      refine ev_seg (ec_putJ_r6 X h n p i x f _ _) ?_
      refine ev_last (by rfl) hp (ev_ix_of hn b1 b2) ?_
      refine ev_ret (ec_putJ_r7 X h n p i x f _ _) ?_
      exact ⟨rfl, by rw [ev_putJ, if_neg b1, if_neg b2] <;> exact (ev_set_self hp).symm, rfl, rfl⟩
end
section
/-! Rows made anew: what is read and written within their ends. -/
theorem cx_pot_le (n : Nat) : cx_pot n ≤ 30000 := by
  unfold cx_pot
  split <;> omega
theorem cx_isrow_mem {q n : Nat} {x : ez_C} (h : cx_isrow q n x) (t : List ez_C) : cx_mem (x :: t) = n + cx_mem t := by
  rcases h with ⟨-, f, rfl⟩ | ⟨-, g, rfl⟩ <;> rfl
theorem cx_isrow_u {q n q' n' : Nat} {x : ez_C} (h : cx_isrow q n x) (h' : cx_isrow q' n' x) : q' = q ∧ n' = n := by
  rcases h with ⟨rfl, f, rfl⟩ | ⟨rfl, g, rfl⟩ <;> rcases h' with ⟨rfl, f', e⟩ | ⟨rfl, g', e⟩ <;> cases e <;> exact ⟨rfl, rfl⟩
theorem cx_mem_le {q n : Nat} {x : ez_C} (hr : cx_isrow q n x) : ∀ {T : List ez_C}, x ∈ T → n ≤ cx_mem T := by
  intro T
  induction T with
  | nil => intro h; cases h
  | cons y t ih =>
    intro h
    rcases List.mem_cons.mp h with rfl | h
    · rw [cx_isrow_mem hr]; omega
    · have := ih h
      rcases y with ⟨m, a⟩ | b
      · simp only [cx_mem]; omega
      · simp only [cx_mem]; exact this
theorem cx_mem_top {R : Nat → Nat} {T : List ez_C} (h : cx_rows R T) : cx_mem T ≤ 150000 := by
  obtain ⟨-, n0, n1, n4, -, -, -, -, -, -, -, -, hm⟩ := h
  have := cx_pot_le n0
  have := cx_pot_le n1
  have := cx_pot_le n4
  omega
theorem cx_rows_n {R : Nat → Nat} {T : List ez_C} {q p n : Nat} (h : cx_rows R T) (hr : cx_rowl T q p n) : n < 2 ^ 31 := by
  rcases hr with ⟨-, rfl, -⟩ | ⟨-, x, h1, h2⟩
  · decide
  · have := cx_mem_le h2 (List.mem_of_getElem? h1)
    have := cx_mem_top h
    omega
theorem cx_row_I {I : Nat → Nat → Int32} {J : Nat → Nat → Int64} {R : Nat → Nat} {T : List ez_C} {p n : Nat} (hr : cx_rowl T 0 p n) : ∃ f, (ev_hp I J R T)[p]? = some (.inl (n, .inl f)) := by
  rcases hr with ⟨-, rfl, t, h⟩ | ⟨h0, x, h1, h2⟩
  · exact ⟨_, cx_getI h⟩
  · rcases h2 with ⟨-, f, rfl⟩ | ⟨h, -⟩
    · exact ⟨f, by rw [cx_tlen rfl h0]; exact h1⟩
    · cases h
theorem cx_row_J {I : Nat → Nat → Int32} {J : Nat → Nat → Int64} {R : Nat → Nat} {T : List ez_C} {p n : Nat} (hr : cx_rowl T 1 p n) : ∃ f, (ev_hp I J R T)[p]? = some (.inl (n, .inr (.inl f))) := by
  rcases hr with ⟨-, rfl, t, h⟩ | ⟨h0, x, h1, h2⟩
  · exact ⟨_, cx_getJ h⟩
  · rcases h2 with ⟨h, -⟩ | ⟨-, f, rfl⟩
    · cases h
    · exact ⟨f, by rw [cx_tlen rfl h0]; exact h1⟩
theorem cx_setT {I : Nat → Nat → Int32} {J : Nat → Nat → Int64} {R : Nat → Nat} {T : List ez_C} {p : Nat} (hp : 65 ≤ p) (x : ez_C) : (ev_hp I J R T).set p x = ev_hp I J R (T.set (p - 65) x) := by
  have hl : (cx_mk I J R 0 cx_Ds).length = 65 := by rw [cx_mk_len]; rfl
  rw [cx_hp_is, cx_hp_is, List.set_append_right _ _ (by rw [hl]; exact hp), hl]
theorem cx_leT_set {T : List ez_C} {j q n : Nat} {x x' : ez_C} (hx : T[j]? = some x) (hr : cx_isrow q n x) (hr' : cx_isrow q n x') : cx_leT T (T.set j x') := by
  intro j2 q2 n2 y h1 h2
  by_cases hj : j = j2
  · subst hj
    rw [hx] at h1
    injection h1 with h1
    subst h1
    obtain ⟨rfl, rfl⟩ := cx_isrow_u hr h2
    refine ⟨x', ?_, hr'⟩
    rw [List.getElem?_set_self (List.getElem?_eq_some_iff.mp hx).1]
  · exact ⟨y, by rw [List.getElem?_set_ne hj]; exact h1, h2⟩
theorem cx_mem_set {q n : Nat} {x x' : ez_C} (hr : cx_isrow q n x) (hr' : cx_isrow q n x') : ∀ {T : List ez_C} {j : Nat}, T[j]? = some x → cx_mem (T.set j x') = cx_mem T := by
  intro T
  induction T with
  | nil => intro j h; simp at h
  | cons y t ih =>
    intro j h
    cases j with
    | zero =>
      simp at h
      subst h
      rw [List.set_cons_zero, cx_isrow_mem hr, cx_isrow_mem hr']
    | succ j =>
      simp at h
      rw [List.set_cons_succ]
      rcases y with ⟨m, a⟩ | b
      · simp only [cx_mem, ih h]
      · simp only [cx_mem, ih h]
theorem cx_rows_set {R : Nat → Nat} {T : List ez_C} {j q n : Nat} {x x' : ez_C} (h : cx_rows R T) (hx : T[j]? = some x) (hr : cx_isrow q n x) (hr' : cx_isrow q n x') : cx_rows R (T.set j x') := by
  obtain ⟨h0, n0, n1, n4, a0, a1, a2, a3, a4, hn⟩ := h
  have hT := cx_leT_set hx hr hr'
  refine ⟨fun y hy => ?_, n0, n1, n4, cx_rowl_T hT a0, cx_rowl_T hT a1, cx_rowl_T hT a2, cx_rowl_T hT a3, cx_rowl_T hT a4, ?_⟩
  · rcases List.mem_or_eq_of_mem_set hy with h1 | rfl
    · exact h0 y h1
    · obtain ⟨q2, n2', e1, e2⟩ := h0 x (List.mem_of_getElem? hx)
      obtain ⟨-, rfl⟩ := cx_isrow_u hr e1
      exact ⟨q, _, hr', e2⟩
  · rw [cx_mem_set hr hr' hx]
    exact hn
/-- an end that tells nothing of what was: any int, any long, nothing -/
theorem cx_ok_int {σ : List Int} {iv : List cx_Iv} (h : cx_iv σ iv) (v : Int32) (I : Nat → Nat → Int32) (T : List ez_C) : cx_ok (σ ++ [v.toInt]) ([], [(0, iv.length)], iv ++ [cx_i32], [], [], []) [] [.int v] I T :=
  ⟨trivial, ⟨⟨v, rfl, cx_top h _⟩, trivial⟩, cx_iv_push h (cx_full32 v), cx_nil, fun e he => (by cases he), fun e he => (by cases he)⟩
theorem cx_ok_long {σ : List Int} {iv : List cx_Iv} (h : cx_iv σ iv) (v : Int64) (I : Nat → Nat → Int32) (T : List ez_C) : cx_ok (σ ++ [v.toInt]) ([], [(1, iv.length)], iv ++ [cx_i64], [], [], []) [] [.long v] I T :=
  ⟨trivial, ⟨⟨v, rfl, cx_top h _⟩, trivial⟩, cx_iv_push h (cx_full64 v), cx_nil, fun e he => (by cases he), fun e he => (by cases he)⟩
theorem cx_ok_none {σ : List Int} {iv : List cx_Iv} (h : cx_iv σ iv) (I : Nat → Nat → Int32) (T : List ez_C) : cx_ok σ ([], [], iv, [], [], []) [] [] I T :=
  ⟨trivial, trivial, h, cx_nil, fun e he => (by cases he), fun e he => (by cases he)⟩
theorem cx_same {B : Nat → Nat → cx_Iv} {K : cx_K} {σ0 : List Int} {I : Nat → Nat → Int32} {J : Nat → Nat → Int64} {R : Nat → Nat} {T T' : List ez_C} {r : Option Value} {E : cx_S} {τ : List Int} (hh : cx_hok B I R T') (hT : cx_leT T T') (hl : T'.length = T.length) (hm : cx_mem T' = cx_mem T)
    (hE : E ∈ K.2.2) (he : cx_ext σ0 τ) (ho : cx_ok τ E [] r.toList I T') : cx_post B K σ0 I J T 0 0 r (ev_hp I J R T') 0 0 :=
  ⟨I, J, R, T', rfl, hh, cx_fr_r _ _ _, hT, by omega, by omega, E, hE, τ, he, ho⟩
theorem ev_put0 (f : Nat → Int32) (i x : Int32) : ev_put 0 f i x = f := by
  unfold ev_put
  split
  · rfl
  · split
    · rfl
    · rename_i h1 h2
      exact absurd (Int32.not_lt.mp h1) h2
theorem ev_putJ0 (f : Nat → Int64) (i : Int32) (x : Int64) : ev_putJ 0 f i x = f := by
  unfold ev_putJ
  split
  · rfl
  · split
    · rfl
    · rename_i h1 h2
      exact absurd (Int32.not_lt.mp h1) h2
theorem cv_atI : cx_valid cx_B0 3 ck_atI := by
  intro X σ0 ls I J R T _ hh hok
  obtain ⟨v1, t1, rfl, ⟨p, rfl, n, hr⟩, g2⟩ := cx_L_inv hok.1
  obtain ⟨v2, t2, rfl, ⟨i, rfl, hi⟩, g4⟩ := cx_L_inv g2
  obtain rfl := cx_L_nil g4 rfl
  obtain ⟨f, hf⟩ := cx_row_I (I := I) (J := J) (R := R) hr
  refine (ec_at X _ n p i f hf (cx_rows_n hh.2 hr)).mono ?_
  rintro r h1 c1 k1 ⟨rfl, rfl, rfl, rfl⟩
  exact cx_same hh (cx_leT_r T) rfl rfl List.mem_cons_self (cx_ext_app σ0 _) (cx_ok_int hok.2.2.1 _ I T)
theorem cv_atJ : cx_valid cx_B0 4 ck_atJ := by
  intro X σ0 ls I J R T _ hh hok
  obtain ⟨v1, t1, rfl, ⟨p, rfl, n, hr⟩, g2⟩ := cx_L_inv hok.1
  obtain ⟨v2, t2, rfl, ⟨i, rfl, hi⟩, g4⟩ := cx_L_inv g2
  obtain rfl := cx_L_nil g4 rfl
  obtain ⟨f, hf⟩ := cx_row_J (I := I) (J := J) (R := R) hr
  refine (ec_atJ X _ n p i f hf (cx_rows_n hh.2 hr)).mono ?_
  rintro r h1 c1 k1 ⟨rfl, rfl, rfl, rfl⟩
  exact cx_same hh (cx_leT_r T) rfl rfl List.mem_cons_self (cx_ext_app σ0 _) (cx_ok_long hok.2.2.1 _ I T)
theorem cv_puI : cx_valid cx_B0 38 ck_puI := by
  intro X σ0 ls I J R T _ hh hok
  obtain ⟨v1, t1, rfl, ⟨p, rfl, n, hr⟩, g2⟩ := cx_L_inv hok.1
  obtain ⟨v2, t2, rfl, ⟨i, rfl, hi⟩, g4⟩ := cx_L_inv g2
  obtain ⟨v3, t3, rfl, ⟨x, rfl, hx⟩, g6⟩ := cx_L_inv g4
  obtain rfl := cx_L_nil g6 rfl
  obtain ⟨f, hf⟩ := cx_row_I (I := I) (J := J) (R := R) hr
  refine (ec_put X _ n p i x f hf (cx_rows_n hh.2 hr)).mono ?_
  rintro r h1 c1 k1 ⟨rfl, rfl, rfl, rfl⟩
  rcases hr with ⟨-, rfl, t, hd⟩ | ⟨h0, y, h1, h2⟩
  · rw [ev_put0, ev_set_self hf]
    exact cx_same hh (cx_leT_r T) rfl rfl List.mem_cons_self (cx_ext_r σ0) (cx_ok_none hok.2.2.1 I T)
  · rw [cx_setT h0]
    have h3 : cx_isrow 0 n (.inl (n, .inl (ev_put n f i x))) := Or.inl ⟨rfl, _, rfl⟩
    exact cx_same ⟨hh.1, cx_rows_set hh.2 h1 h2 h3⟩ (cx_leT_set h1 h2 h3) (by simp) (cx_mem_set h2 h3 h1) List.mem_cons_self (cx_ext_r σ0) (cx_ok_none hok.2.2.1 I _)
theorem cv_puJ : cx_valid cx_B0 39 ck_puJ := by
  intro X σ0 ls I J R T _ hh hok
  obtain ⟨v1, t1, rfl, ⟨p, rfl, n, hr⟩, g2⟩ := cx_L_inv hok.1
  obtain ⟨v2, t2, rfl, ⟨i, rfl, hi⟩, g4⟩ := cx_L_inv g2
  obtain ⟨v3, t3, rfl, ⟨x, rfl, hx⟩, g6⟩ := cx_L_inv g4
  obtain ⟨v4, t4, rfl, rfl, g8⟩ := cx_L_inv g6
  obtain rfl := cx_L_nil g8 rfl
  obtain ⟨f, hf⟩ := cx_row_J (I := I) (J := J) (R := R) hr
  refine (ec_putJ X _ n p i x f hf (cx_rows_n hh.2 hr)).mono ?_
  rintro r h1 c1 k1 ⟨rfl, rfl, rfl, rfl⟩
  rcases hr with ⟨-, rfl, t, hd⟩ | ⟨h0, y, h1, h2⟩
  · rw [ev_putJ0, ev_set_self hf]
    exact cx_same hh (cx_leT_r T) rfl rfl List.mem_cons_self (cx_ext_r σ0) (cx_ok_none hok.2.2.1 I T)
  · rw [cx_setT h0]
    have h3 : cx_isrow 1 n (.inl (n, .inr (.inl (ev_putJ n f i x)))) := Or.inr ⟨rfl, _, rfl⟩
    exact cx_same ⟨hh.1, cx_rows_set hh.2 h1 h2 h3⟩ (cx_leT_set h1 h2 h3) (by simp) (cx_mem_set h2 h3 h1) List.mem_cons_self (cx_ext_r σ0) (cx_ok_none hok.2.2.1 I _)
end
section
/-! Rows that are made longer. -/
section CXG
variable {X : ez_X} {m pc a b cut w d : Nat} {ls st : List Value} {h : ez_H} {c k : Nat} {Q : ev_Q} {I : Nat → Nat → Int32} {J : Nat → Nat → Int64} {R : Nat → Nat} {T : List ez_C} {n : Int32}
theorem cx_app (I : Nat → Nat → Int32) (J : Nat → Nat → Int64) (R : Nat → Nat) (T : List ez_C) (x : ez_C) : ev_hp I J R T ++ [x] = ev_hp I J R (T ++ [x]) := by rw [cx_hp_is, cx_hp_is, List.append_assoc]
theorem cx_len (I : Nat → Nat → Int32) (J : Nat → Nat → Int64) (R : Nat → Nat) (T : List ez_C) : (ev_hp I J R T).length = 65 + T.length := by
  rw [cx_hp_is, List.length_append, cx_mk_len]
  rfl
theorem ev_new0 (h0 : 0 ≤ n.toInt) (h1 : n.toInt ≤ 10000) : (decide (n < 0) || Nat.ble 1000000 n.toNatClampNeg) = false := by
  have e0 : (0 : Int32).toInt = 0 := by decide
  have e1 : ¬ n < 0 := fun z => by
    have := Int32.lt_iff_toInt_lt.mp z
    omega
  have e2 : n.toNatClampNeg = n.toInt.toNat := rfl
  rw [decide_eq_false e1, e2]
  cases hz : Nat.ble 1000000 n.toInt.toNat with
  | false => rfl
  | true =>
    have := Nat.le_of_ble_eq_true hz
    omega
theorem ev_newI (hP : ez_P0 m pc = some (.newarray .int, 2, a, b, cut, w, d)) (h0 : 0 ≤ n.toInt) (h1 : n.toInt ≤ 10000)
    (e : ev_W X m (pc + 2) (ez_cut cut ls) (.ref (65 + T.length) :: st) (ev_hp I J R (T ++ [.inl (n.toInt.toNat, .inl fun _ => 0)])) (c + 1) (k + n.toInt.toNat) Q) : ev_W X m pc ls (.int n :: st) (ev_hp I J R T) c k Q := by
  refine ev_seg (a := 1) (fun F => ?_) e
  rw [ev_up1]
  unfold ez_stp
  rw [hP]
  simp only [ev_new0 h0 h1, cond_false]
  rw [cx_app, cx_len]
  rfl
theorem ev_newJ (hP : ez_P0 m pc = some (.newarray .long, 2, a, b, cut, w, d)) (h0 : 0 ≤ n.toInt) (h1 : n.toInt ≤ 10000)
    (e : ev_W X m (pc + 2) (ez_cut cut ls) (.ref (65 + T.length) :: st) (ev_hp I J R (T ++ [.inl (n.toInt.toNat, .inr (.inl fun _ => 0))])) (c + 1) (k + n.toInt.toNat) Q) : ev_W X m pc ls (.int n :: st) (ev_hp I J R T) c k Q := by
  refine ev_seg (a := 1) (fun F => ?_) e
  rw [ev_up1]
  unfold ez_stp
  rw [hP]
  simp only [ev_new0 h0 h1, cond_false]
  rw [cx_app, cx_len]
  rfl
end CXG
theorem cx_rowl_u {T : List ez_C} {q p n n' : Nat} (h : cx_rowl T q p n) (h' : cx_rowl T q p n') : n = n' := by
  have hl : cx_Ds.length = 65 := rfl
  rcases h with ⟨-, rfl, t, h⟩ | ⟨h0, x, h1, h2⟩ <;> rcases h' with ⟨-, rfl, t', h'⟩ | ⟨h0', x', h1', h2'⟩
  · rfl
  · have := (List.getElem?_eq_some_iff.mp h).1
    omega
  · have := (List.getElem?_eq_some_iff.mp h').1
    omega
  · rw [h1] at h1'
    injection h1' with h1'
    subst h1'
    exact (cx_isrow_u h2 h2').2.symm
theorem cx_mem_app {q n : Nat} {x : ez_C} (hr : cx_isrow q n x) : ∀ (T : List ez_C), cx_mem (T ++ [x]) = cx_mem T + n := by
  intro T
  induction T with
  | nil => rw [List.nil_append, cx_isrow_mem hr]; simp [cx_mem]
  | cons y t ih =>
    rcases y with ⟨m, a⟩ | b
    · simp only [List.cons_append, cx_mem, ih]; omega
    · simp only [List.cons_append, cx_mem, ih]
theorem cx_leT_app (T : List ez_C) (x : ez_C) : cx_leT T (T ++ [x]) := fun j q n y h h2 => ⟨y, by rw [List.getElem?_append_left (List.getElem?_eq_some_iff.mp h).1]; exact h, h2⟩
theorem cx_rowl_new {q n : Nat} {x : ez_C} (hr : cx_isrow q n x) (T : List ez_C) : cx_rowl (T ++ [x]) q (65 + T.length) n := Or.inr ⟨by omega, x, by simp, hr⟩
theorem cx_pot_new {n n' : Nat} (h : n < n') (h2 : 2 * n ≤ n' ∨ n' = 10000) (h3 : n' ≤ 10000) : cx_pot n + n' ≤ cx_pot n' := by
  unfold cx_pot
  split <;> split <;> omega
theorem cx_T_app {q n : Nat} {x : ez_C} (hr : cx_isrow q n x) (hn : 1 ≤ n) {T : List ez_C} (h : ∀ x ∈ T, ∃ q n, cx_isrow q n x ∧ 1 ≤ n) : ∀ y ∈ T ++ [x], ∃ q n, cx_isrow q n y ∧ 1 ≤ n := by
  intro y hy
  rcases List.mem_append.mp hy with h1 | h1
  · exact h y h1
  · rw [List.mem_singleton.mp h1]
    exact ⟨q, n, hr, hn⟩
theorem cx_rows_0 {R : Nat → Nat} {T : List ez_C} {n n' : Nat} {x : ez_C} (h : cx_rows R T) (hr : cx_rowl T 0 (R 0) n) (hx : cx_isrow 0 n' x) (h1 : n < n') (h2 : 2 * n ≤ n' ∨ n' = 10000) (h3 : n' ≤ 10000) : cx_rows (ev_sR R 0 (65 + T.length)) (T ++ [x]) := by
  obtain ⟨h0, n0, n1, n4, a0, a1, a2, a3, a4, b0, b1, b4, hm⟩ := h
  obtain rfl := cx_rowl_u hr a0
  have hT := cx_leT_app T x
  have := cx_pot_new h1 h2 h3
  exact ⟨cx_T_app hx (by omega) h0, n', n1, n4, cx_rowl_new hx T, cx_rowl_T hT a1, cx_rowl_T hT a2, cx_rowl_T hT a3, cx_rowl_T hT a4, h3, b1, b4, by rw [cx_mem_app hx]; omega⟩
theorem cx_rows_4 {R : Nat → Nat} {T : List ez_C} {n n' : Nat} {x : ez_C} (h : cx_rows R T) (hr : cx_rowl T 0 (R 4) n) (hx : cx_isrow 0 n' x) (h1 : n < n') (h2 : 2 * n ≤ n' ∨ n' = 10000) (h3 : n' ≤ 10000) : cx_rows (ev_sR R 4 (65 + T.length)) (T ++ [x]) := by
  obtain ⟨h0, n0, n1, n4, a0, a1, a2, a3, a4, b0, b1, b4, hm⟩ := h
  obtain rfl := cx_rowl_u hr a4
  have hT := cx_leT_app T x
  have := cx_pot_new h1 h2 h3
  exact ⟨cx_T_app hx (by omega) h0, n0, n1, n', cx_rowl_T hT a0, cx_rowl_T hT a1, cx_rowl_T hT a2, cx_rowl_T hT a3, cx_rowl_new hx T, b0, b1, h3, by rw [cx_mem_app hx]; omega⟩
theorem cx_rows_123 {R : Nat → Nat} {T : List ez_C} {n n' : Nat} {x : ez_C} (h : cx_rows R T) (hr : cx_rowl T 1 (R 1) n) (hx : cx_isrow 1 n' x) (h1 : n < n') (h2 : 2 * n ≤ n' ∨ n' = 10000) (h3 : n' ≤ 10000) :
    cx_rows (ev_sR (ev_sR (ev_sR R 1 (65 + T.length)) 2 (65 + (T ++ [x]).length)) 3 (65 + (T ++ [x] ++ [x]).length)) (T ++ [x] ++ [x] ++ [x]) := by
  obtain ⟨h0, n0, n1, n4, a0, a1, a2, a3, a4, b0, b1, b4, hm⟩ := h
  obtain rfl := cx_rowl_u hr a1
  have t1 := cx_leT_app T x
  have t2 := cx_leT_app (T ++ [x]) x
  have t3 := cx_leT_app (T ++ [x] ++ [x]) x
  have tt := cx_leT_t t1 (cx_leT_t t2 t3)
  have := cx_pot_new h1 h2 h3
  have hn : 1 ≤ n' := by omega
  exact ⟨cx_T_app hx hn (cx_T_app hx hn (cx_T_app hx hn h0)), n0, n', n4, cx_rowl_T tt a0, cx_rowl_T t3 (cx_rowl_T t2 (cx_rowl_new hx T)), cx_rowl_T t3 (cx_rowl_new hx _), cx_rowl_new hx _, cx_rowl_T tt a4, b0, h3, b4, by rw [cx_mem_app hx, cx_mem_app hx, cx_mem_app hx]; omega⟩
end
section
/-! Rows made longer in the class: the caller's order, the ledger's rows. -/
noncomputable def ev_grown (had wanted : Int32) : Int32 := if 0 < (if (if wanted < 2 * had then 2 * had else wanted) < 10000 then (if wanted < 2 * had then 2 * had else wanted) else 10000) then (if (if wanted < 2 * had then 2 * had else wanted) < 10000 then (if wanted < 2 * had then 2 * had else wanted) else 10000) else 0
theorem eh_grown_r (X : ez_X) (h : ez_H) (had wanted : Int32) (cz kz : Nat) : ∀ G : ez_F, fx_up X 10 G 19 0 [.int had, .int wanted] [] h cz kz = some (some (.int (ev_grown had wanted)), h, cz, kz) := by
  intro G
  rfl
theorem eh_grown (X : ez_X) (h : ez_H) (had wanted : Int32) : ev_W X 19 0 (ez_lay [.int had, .int wanted]) [] h 0 0 (ev_is (some (.int (ev_grown had wanted))) h) :=
  ev_ret (eh_grown_r X h had wanted 0 0) ⟨rfl, rfl, rfl, rfl⟩
theorem ev_grown_s {n : Nat} {w : Int32} (hn : n ≤ 10000) : 0 ≤ (ev_grown (Int32.ofNat n) w).toInt ∧ (ev_grown (Int32.ofNat n) w).toInt ≤ 10000 ∧ (2 * (n : Int) ≤ (ev_grown (Int32.ofNat n) w).toInt ∨ (ev_grown (Int32.ofNat n) w).toInt = 10000) ∧ (w.toInt ≤ 10000 → w.toInt ≤ (ev_grown (Int32.ofNat n) w).toInt) := by
  have e0 : (0 : Int32).toInt = 0 := by decide
  have e1 : (10000 : Int32).toInt = 10000 := by decide
  have en : (Int32.ofNat n).toInt = n := Int32.toInt_ofNat_of_lt (by omega)
  have e2 : (2 * Int32.ofNat n).toInt = 2 * (n : Int) := by
    rw [Int32.toInt_mul, en, show (2 : Int32).toInt = 2 from by decide, cx_bm32]
    simp only [cx_i32]
    omega
  generalize hq : 2 * Int32.ofNat n = q at e2
  unfold ev_grown
  rw [hq]
  have l1 : ∀ x y : Int32, x < y ↔ x.toInt < y.toInt := fun x y => Int32.lt_iff_toInt_lt
  obtain ⟨m, hm, hm1, hm2⟩ : ∃ m : Int32, (if w < q then q else w) = m ∧ q.toInt ≤ m.toInt ∧ w.toInt ≤ m.toInt ∧ (m = q ∨ m = w) := by
    by_cases h : w < q
    · exact ⟨q, if_pos h, Int.le_refl _, Int.le_of_lt ((l1 _ _).mp h), Or.inl rfl⟩
    · exact ⟨w, if_neg h, Int.not_lt.mp fun z => h ((l1 _ _).mpr z), Int.le_refl _, Or.inr rfl⟩
  rw [hm]
  obtain ⟨p, hp, hp1⟩ : ∃ p : Int32, (if m < 10000 then m else 10000) = p ∧ ((p.toInt = m.toInt ∧ m.toInt < 10000) ∨ (p.toInt = 10000 ∧ 10000 ≤ m.toInt)) := by
    by_cases h : m < 10000
    · exact ⟨m, if_pos h, Or.inl ⟨rfl, by have := (l1 _ _).mp h; omega⟩⟩
    · exact ⟨10000, if_neg h, Or.inr ⟨e1, by have : ¬ m.toInt < (10000 : Int32).toInt := fun z => h ((l1 _ _).mpr z); omega⟩⟩
  rw [hp]
  by_cases h : 0 < p
  · rw [if_pos h]
    have := (l1 _ _).mp h
    omega
  · rw [if_neg h]
    have : ¬ (0 : Int32).toInt < p.toInt := fun z => h ((l1 _ _).mpr z)
    omega
section
variable (X : ez_X) (I : Nat → Nat → Int32) (J : Nat → Nat → Int64) (R : Nat → Nat) (T : List ez_C)
theorem eh_gw_r1 (w : Int32) (cz kz : Nat) : ∀ G : ez_F, fx_up X 2 G 108 0 [.ref 13, .int w] [] (ev_hp I J R T) cz kz = G 108 4 [.ref 13, .int w] [.ref (R 1)] (ev_hp I J R T) cz kz := by
  intro G
  rfl
theorem eh_gw_r2 (w n : Int32) (cz kz : Nat) : ∀ G : ez_F, fx_up X 2 G 108 5 [.ref 13, .int w] [.int n] (ev_hp I J R T) cz kz = ev_C G 19 [.int n, .int w] (ev_hp I J R T) fun r h1 c1 k1 => G 108 9 [.ref 13, .int w] (r.toList ++ []) h1 (cz + c1) (kz + k1) := by
  intro G
  rfl
theorem eh_gw_r3 (w g : Int32) (cz kz : Nat) : ∀ G : ez_F, fx_up X 4 G 108 9 [.ref 13, .int w] [.int g] (ev_hp I J R T) cz kz = G 108 15 [.ref 13, .int w, .int g] [.ref (R 1), .int w] (ev_hp I J R T) cz kz := by
  intro G
  rfl
theorem eh_gw_r4 (w g n : Int32) (cz kz : Nat) : ∀ G : ez_F, fx_up X 1 G 108 16 [.ref 13, .int w, .int g] [.int n, .int w] (ev_hp I J R T) cz kz = bif decide (w ≤ n) then G 108 49 [.ref 13, .int w, .int g] [] (ev_hp I J R T) cz kz else G 108 19 [.ref 13, .int w, .int g] [] (ev_hp I J R T) cz kz := by
  intro G
  rfl
theorem eh_gw_r5 (w g : Int32) (cz kz : Nat) : ∀ G : ez_F, fx_up X 3 G 108 19 [.ref 13, .int w, .int g] [] (ev_hp I J R T) cz kz = G 108 24 [.ref 13, .int w, .int g] [.ref (R 1), .int g] (ev_hp I J R T) cz kz := by
  intro G
  rfl
theorem eh_gw_r6 (w g n : Int32) (cz kz : Nat) : ∀ G : ez_F, fx_up X 1 G 108 25 [.ref 13, .int w, .int g] [.int n, .int g] (ev_hp I J R T) cz kz = bif decide (g ≤ n) then G 108 49 [.ref 13, .int w, .int g] [] (ev_hp I J R T) cz kz else G 108 28 [.ref 13, .int w, .int g] [] (ev_hp I J R T) cz kz := by
  intro G
  rfl
theorem eh_gw_r7 (w g : Int32) (cz kz : Nat) : ∀ G : ez_F, fx_up X 2 G 108 28 [.ref 13, .int w, .int g] [] (ev_hp I J R T) cz kz = G 108 30 [.ref 13, .int w, .int g] [.int g, .ref 13] (ev_hp I J R T) cz kz := by
  intro G
  rfl
theorem eh_gw_r8 (w g : Int32) (v : Nat) (cz kz : Nat) : ∀ G : ez_F, fx_up X 3 G 108 32 [.ref 13, .int w, .int g] [.ref v, .ref 13] (ev_hp I J R T) cz kz = G 108 37 [.ref 13, .int w, .int g] [.int g, .ref 13] (ev_hp I J (ev_sR R 1 v) T) cz kz := by
  intro G
  rfl
theorem eh_gw_r9 (w g : Int32) (v : Nat) (cz kz : Nat) : ∀ G : ez_F, fx_up X 3 G 108 39 [.ref 13, .int w, .int g] [.ref v, .ref 13] (ev_hp I J R T) cz kz = G 108 44 [.ref 13, .int w, .int g] [.int g, .ref 13] (ev_hp I J (ev_sR R 2 v) T) cz kz := by
  intro G
  rfl
theorem eh_gw_rA (w g : Int32) (v : Nat) (cz kz : Nat) : ∀ G : ez_F, fx_up X 1 G 108 46 [.ref 13, .int w, .int g] [.ref v, .ref 13] (ev_hp I J R T) cz kz = G 108 49 [.ref 13, .int w, .int g] [] (ev_hp I J (ev_sR R 3 v) T) cz kz := by
  intro G
  rfl
theorem eh_gw_rB (w g : Int32) (cz kz : Nat) : ∀ G : ez_F, fx_up X 1 G 108 49 [.ref 13, .int w, .int g] [] (ev_hp I J R T) cz kz = some (none, ev_hp I J R T, cz, kz) := by
  intro G
  rfl
end
theorem cv_Ledger_grow : cx_valid cx_B0 108 ck_Ledger_grow := by
  intro X σ0 ls I J R T _ hh hok
  obtain ⟨v1, t1, rfl, rfl, g2⟩ := cx_L_inv hok.1
  obtain ⟨v2, t2, rfl, ⟨w, rfl, hw⟩, g4⟩ := cx_L_inv g2
  obtain rfl := cx_L_nil g4 rfl
  have hwb := hok.2.2.1.2 0 w.toInt (0, 10000) hw rfl
  simp only at hwb
  obtain ⟨-, n0, n1, n4, a0, a1, a2, a3, a4, b0, b1, b4, hm⟩ := id hh.2
  obtain ⟨f, hf⟩ := cx_row_J (I := I) (J := J) (R := R) a1
  have en : (Int32.ofNat n1).toInt = n1 := Int32.toInt_ofNat_of_lt (by omega)
  have fin : cx_post cx_B0 ck_Ledger_grow σ0 I J T 0 0 none (ev_hp I J R T) 0 0 := cx_same hh (cx_leT_r T) rfl rfl List.mem_cons_self (cx_ext_r σ0) (cx_ok_none hok.2.2.1 I T)
  obtain ⟨q1, q2, q3, q4⟩ := ev_grown_s (w := w) b1
  refine ev_seg (eh_gw_r1 X I J R T w _ _) ?_
  refine ev_alenJ (by rfl) hf ?_
  refine ev_call (eh_gw_r2 X I J R T w _ _ _) (eh_grown X _ _ _) ?_
  rintro _ _ _ _ ⟨rfl, rfl, rfl, rfl⟩
  generalize ev_grown (Int32.ofNat n1) w = g at q1 q2 q3 q4
  refine ev_seg (eh_gw_r3 X I J R T w g _ _) ?_
  refine ev_alenJ (by rfl) hf ?_
  refine ev_if (eh_gw_r4 X I J R T w g _ _ _) (fun ht => ev_ret (eh_gw_rB X I J R T w g _ _) fin) (fun ht => ?_)
  refine ev_seg (eh_gw_r5 X I J R T w g _ _) ?_
  refine ev_alenJ (by rfl) hf ?_
  refine ev_if (eh_gw_r6 X I J R T w g _ _ _) (fun ht => ev_ret (eh_gw_rB X I J R T w g _ _) fin) (fun ht2 => ?_)
  have hlt : (n1 : Int) < g.toInt := by
    have z := of_decide_eq_false ht2
    have : ¬ g.toInt ≤ (Int32.ofNat n1).toInt := fun y => z (Int32.le_iff_toInt_le.mpr y)
    omega
  refine ev_seg (eh_gw_r7 X I J R T w g _ _) ?_
  refine ev_newJ (by rfl) q1 q2 ?_
  refine ev_seg (eh_gw_r8 X I J R _ w g _ _ _) ?_
  refine ev_newJ (by rfl) q1 q2 ?_
  refine ev_seg (eh_gw_r9 X I J _ _ w g _ _ _) ?_
  refine ev_newJ (by rfl) q1 q2 ?_
  refine ev_seg (eh_gw_rA X I J _ _ w g _ _ _) ?_
  refine ev_ret (eh_gw_rB X I J _ _ w g _ _) ?_
  have hx : cx_isrow 1 g.toInt.toNat (.inl (g.toInt.toNat, .inr (.inl fun _ => 0))) := Or.inr ⟨rfl, _, rfl⟩
  have hr := cx_rows_123 hh.2 a1 hx (by omega) (by omega) (by omega)
  have t1 := cx_leT_app T (.inl (g.toInt.toNat, .inr (.inl fun _ => 0)))
  have t2 := cx_leT_t t1 (cx_leT_app _ (.inl (g.toInt.toNat, .inr (.inl fun _ => 0))))
  have t3 := cx_leT_t t2 (cx_leT_app _ (.inl (g.toInt.toNat, .inr (.inl fun _ => 0))))
  exact ⟨I, J, _, _, rfl, ⟨hh.1, hr⟩, cx_fr_r _ _ _, t3, by simp only [List.length_append, List.length_cons, List.length_nil]; omega, by rw [cx_mem_app hx, cx_mem_app hx, cx_mem_app hx]; omega, _, List.mem_cons_self, σ0, cx_ext_r σ0, cx_ok_none hok.2.2.1 I _⟩
end
section
/-! Roads between told places, for proofs by hand. -/
theorem cx_seg {B : Nat → Nat → cx_Iv} {G : List (Nat × cx_K)} {K : cx_K} {m n pc : Nat} {An : List (Nat × cx_A)} {first : Bool} (hA : cx_hA B) (hG : ∀ g ∈ G, cx_valid B g.1 g.2) (hv : cx_run false B G K m (cx_fAn An) none n first pc K.1 = true)
    {X : ez_X} {σ0 : List Int} {ls st : List Value} {I : Nat → Nat → Int32} {J : Nat → Nat → Int64} {R : Nat → Nat} {T : List ez_C} {c k : Nat} {Q : ev_Q} (hX2 : X.1 < 2 ^ 31) (hh : cx_hok B I R T) (hok : cx_ok σ0 K.1 ls st I T)
    (hQ : ∀ r h' c' k', cx_post B K σ0 I J T c k r h' c' k' → Q r h' c' k')
    (hAn : ∀ (pc' : Nat) (A : cx_A), cx_fAn An pc' = some A → ∀ (σ : List Int) (ls' st' : List Value) (I' : Nat → Nat → Int32) (J' : Nat → Nat → Int64) (R' : Nat → Nat) (T' : List ez_C) (c' k' : Nat), cx_ext σ0 σ → cx_hok B I' R' T' → cx_fr K.2.1 I J I' J' → cx_leT T T' →
      c' + T.length = c + T'.length → k' + cx_mem T = k + cx_mem T' → cx_ok σ A.1 ls' st' I' T' → ev_W X m pc' ls' st' (ev_hp I' J' R' T') c' k' Q) :
    ev_W X m pc ls st (ev_hp I J R T) c k Q := by
  refine cx_run_s (σA := σ0) (org := none) (An := cx_fAn An) (sc := false) hQ hA (fun z => by cases z) hX2 hG hok.2.2.1.1 (fun rk0 ho => by cases ho) (fun pc' A' hpc' σ' ls' st' I' J' R' T' c' k' _ hs' hok' => ?_) n first pc K.1 hv σ0 ls st I J R T c k
    ⟨cx_ext_r _, cx_ext_r _, hh, cx_fr_r _ _ _, cx_leT_r T, rfl, rfl⟩ hok
  obtain ⟨s1, -, s3, s4, s5, s6, s7⟩ := hs'
  exact hAn pc' A' hpc' σ' ls' st' I' J' R' T' c' k' s1 s3 s4 s5 s6 s7 hok'
/-- signs that are told one by one -/
theorem cx_iv_cons {σ : List Int} {iv : List cx_Iv} {v : Int} {p : cx_Iv} (h : p.1 ≤ v ∧ v ≤ p.2) (t : cx_iv σ iv) : cx_iv (v :: σ) (p :: iv) := by
  refine ⟨by simp [t.1], fun s w q h1 h2 => ?_⟩
  cases s with
  | zero =>
    simp at h1 h2
    rw [← h1, ← h2]
    exact h
  | succ s => simp at h1 h2; exact t.2 s w q h1 h2
theorem cx_iv_nil : cx_iv [] [] := ⟨rfl, fun s v p h => by simp at h⟩
theorem cx_i32_eq {x y : Int32} (h : x.toInt = y.toInt) : x = y := Int32.toInt_inj.mp h
theorem cx_fAn1 {p pc : Nat} {A A' : cx_A} (h : cx_fAn [(p, A)] pc = some A') : pc = p ∧ A' = A := by
  obtain ⟨e, he, rfl⟩ := Option.map_eq_some_iff.mp h
  have hm := List.mem_of_find?_eq_some he
  have hp := List.find?_some he
  rw [List.mem_singleton.mp hm] at hp ⊢
  exact ⟨(Nat.eq_of_beq_eq_true hp).symm, rfl⟩
theorem cx_fAn2 {p q pc : Nat} {A C A' : cx_A} (h : cx_fAn [(p, A), (q, C)] pc = some A') : (pc = p ∧ A' = A) ∨ (pc = q ∧ A' = C) := by
  obtain ⟨e, he, rfl⟩ := Option.map_eq_some_iff.mp h
  have hm := List.mem_of_find?_eq_some he
  have hp := List.find?_some he
  rcases List.mem_cons.mp hm with e1 | e1
  · rw [e1] at hp ⊢
    exact Or.inl ⟨(Nat.eq_of_beq_eq_true hp).symm, rfl⟩
  · rw [List.mem_singleton.mp e1] at hp ⊢
    exact Or.inr ⟨(Nat.eq_of_beq_eq_true hp).symm, rfl⟩
end
section
/-! Building a ship: it ends, whatever the sheet; what it writes. -/
abbrev ev_anyI (h : ez_H) : ev_Q := fun r h1 c1 k1 => (∃ v, r = some (.int v)) ∧ h1 = h ∧ c1 = 0 ∧ k1 = 0
abbrev ev_anyJ (h : ez_H) : ev_Q := fun r h1 c1 k1 => (∃ v, r = some (.long v)) ∧ h1 = h ∧ c1 = 0 ∧ k1 = 0
abbrev ev_anyZ (h : ez_H) : ev_Q := fun r h1 c1 k1 => (∃ v, r = some (.int v) ∧ (v = 0 ∨ v = 1)) ∧ h1 = h ∧ c1 = 0 ∧ k1 = 0
theorem ev_inc {i b : Int32} (h : i < b) : (i + 1).toInt = i.toInt + 1 := by
  have h1 := Int32.lt_iff_toInt_lt.mp h
  have h2 := Int32.toInt_lt b
  have h3 := Int32.le_toInt i
  exact Jvm.Kit.i32_add (x := i) (y := 1) (by show _ ≤ i.toInt + 1; omega) (by show i.toInt + 1 < _; omega)
theorem ev_dec {i b : Int32} (h : b < i) : (i + -1).toInt = i.toInt - 1 := by
  have h1 := Int32.lt_iff_toInt_lt.mp h
  have h2 := Int32.toInt_lt i
  have h3 := Int32.le_toInt b
  have e : (-1 : Int32).toInt = -1 := by decide
  have := Jvm.Kit.i32_add (x := i) (y := -1) (by rw [e]; omega) (by rw [e]; omega)
  rw [this, e]
  omega
theorem ev_up {n : Nat} {i b : Int32} (hm : (b.toInt - i.toInt).toNat < n + 1) (h : ¬ b ≤ i) : (b.toInt - (i + 1).toInt).toNat < n := by
  have h1 := Int32.not_le.mp h
  rw [ev_inc h1]
  have h2 := Int32.lt_iff_toInt_lt.mp h1
  omega
theorem ev_down {n : Nat} {i b : Int32} (hm : (i.toInt - b.toInt).toNat < n + 1) (h : ¬ i ≤ b) : ((i + -1).toInt - b.toInt).toNat < n := by
  have h1 := Int32.not_le.mp h
  rw [ev_dec h1]
  have h2 := Int32.lt_iff_toInt_lt.mp h1
  omega

set_option maxRecDepth 100000 in
set_option maxHeartbeats 100000 in
theorem ec_fmod_r1 (X : ez_X) (h : ez_H) (x : Int32) (y : Int32) (cz kz : Nat) : ∀ G : ez_F, fx_up X 2 G 240 0 [.int x, .int y] [] h cz kz = G 240 2 [.int x, .int y] [.int y, .int x] h cz kz := by
  intro G
  rfl
set_option maxRecDepth 100000 in
set_option maxHeartbeats 100000 in
theorem ec_fmod_r2 (X : ez_X) (h : ez_H) (x : Int32) (y : Int32) (cz kz : Nat) : ∀ G : ez_F, fx_up X 5 G 240 3 [.int x, .int y] [.int (x - x / y * y)] h cz kz = bif decide (0 ≤ (x ^^^ y)) then G 240 18 [.int x, .int y, .int (x - x / y * y)] [] h cz kz else G 240 10 [.int x, .int y, .int (x - x / y * y)] [] h cz kz := by
  intro G
  rfl
set_option maxRecDepth 100000 in
set_option maxHeartbeats 100000 in
theorem ec_fmod_r3 (X : ez_X) (h : ez_H) (x : Int32) (y : Int32) (cz kz : Nat) : ∀ G : ez_F, fx_up X 2 G 240 18 [.int x, .int y, .int (x - x / y * y)] [] h cz kz = some (some (.int (x - x / y * y)), h, cz, kz) := by
  intro G
  rfl
set_option maxRecDepth 100000 in
set_option maxHeartbeats 100000 in
theorem ec_fmod_r4 (X : ez_X) (h : ez_H) (x : Int32) (y : Int32) (cz kz : Nat) : ∀ G : ez_F, fx_up X 2 G 240 10 [.int x, .int y, .int (x - x / y * y)] [] h cz kz = bif decide ((x - x / y * y) = 0) then G 240 18 [.int x, .int y, .int (x - x / y * y)] [] h cz kz else G 240 14 [.int x, .int y, .int (x - x / y * y)] [] h cz kz := by
  intro G
  rfl
set_option maxRecDepth 100000 in
set_option maxHeartbeats 100000 in
theorem ec_fmod_r5 (X : ez_X) (h : ez_H) (x : Int32) (y : Int32) (cz kz : Nat) : ∀ G : ez_F, fx_up X 2 G 240 18 [.int x, .int y, .int (x - x / y * y)] [] h cz kz = some (some (.int (x - x / y * y)), h, cz, kz) := by
  intro G
  rfl
set_option maxRecDepth 100000 in
set_option maxHeartbeats 100000 in
theorem ec_fmod_r6 (X : ez_X) (h : ez_H) (x : Int32) (y : Int32) (cz kz : Nat) : ∀ G : ez_F, fx_up X 4 G 240 14 [.int x, .int y, .int (x - x / y * y)] [] h cz kz = some (some (.int ((x - x / y * y) + y)), h, cz, kz) := by
  intro G
  rfl
theorem ec_fmod (X : ez_X) (h : ez_H) (x : Int32) (y : Int32) (hy : ¬ y = 0) : ev_W X 240 0 (ez_lay [.int x, .int y]) [] h 0 0 (ev_anyI h) := by
  refine ev_seg (ec_fmod_r1 X h x y _ _) ?_
  refine ev_irem (by rfl) hy ?_
  refine ev_if (ec_fmod_r2 X h x y _ _) (fun b1 => ?_) (fun b1 => ?_)
  · replace b1 := of_decide_eq_true b1
    refine ev_ret (ec_fmod_r3 X h x y _ _) ?_
    exact ⟨⟨_, rfl⟩, rfl, rfl, rfl⟩
  · replace b1 := of_decide_eq_false b1
    refine ev_if (ec_fmod_r4 X h x y _ _) (fun b2 => ?_) (fun b2 => ?_)
    · replace b2 := of_decide_eq_true b2
      refine ev_ret (ec_fmod_r5 X h x y _ _) ?_
      exact ⟨⟨_, rfl⟩, rfl, rfl, rfl⟩
    · replace b2 := of_decide_eq_false b2
      refine ev_ret (ec_fmod_r6 X h x y _ _) ?_
      exact ⟨⟨_, rfl⟩, rfl, rfl, rfl⟩
set_option maxRecDepth 100000 in
set_option maxHeartbeats 100000 in
theorem ec_wrapped_r1 (X : ez_X) (I : Nat → Nat → Int32) (J : Nat → Nat → Int64) (R : Nat → Nat) (T : List ez_C) (v : Int32) (z : Int32) (cz kz : Nat) : ∀ G : ez_F, fx_up X 3 G 154 0 [.ref 1, .int v, .int z] [] (ev_hp I J R T) cz kz = bif decide ((I 1 5) = 0) then G 154 19 [.ref 1, .int v, .int z] [] (ev_hp I J R T) cz kz else G 154 7 [.ref 1, .int v, .int z] [] (ev_hp I J R T) cz kz := by
  intro G
  rfl
set_option maxRecDepth 100000 in
set_option maxHeartbeats 100000 in
theorem ec_wrapped_r2 (X : ez_X) (I : Nat → Nat → Int32) (J : Nat → Nat → Int64) (R : Nat → Nat) (T : List ez_C) (v : Int32) (z : Int32) (cz kz : Nat) : ∀ G : ez_F, fx_up X 2 G 154 19 [.ref 1, .int v, .int z] [] (ev_hp I J R T) cz kz = some (some (.int v), (ev_hp I J R T), cz, kz) := by
  intro G
  rfl
set_option maxRecDepth 100000 in
set_option maxHeartbeats 100000 in
theorem ec_wrapped_r3 (X : ez_X) (I : Nat → Nat → Int32) (J : Nat → Nat → Int64) (R : Nat → Nat) (T : List ez_C) (v : Int32) (z : Int32) (cz kz : Nat) : ∀ G : ez_F, fx_up X 2 G 154 7 [.ref 1, .int v, .int z] [] (ev_hp I J R T) cz kz = bif decide (z ≤ 0) then G 154 19 [.ref 1, .int v, .int z] [] (ev_hp I J R T) cz kz else G 154 11 [.ref 1, .int v, .int z] [] (ev_hp I J R T) cz kz := by
  intro G
  rfl
set_option maxRecDepth 100000 in
set_option maxHeartbeats 100000 in
theorem ec_wrapped_r4 (X : ez_X) (I : Nat → Nat → Int32) (J : Nat → Nat → Int64) (R : Nat → Nat) (T : List ez_C) (v : Int32) (z : Int32) (cz kz : Nat) : ∀ G : ez_F, fx_up X 2 G 154 19 [.ref 1, .int v, .int z] [] (ev_hp I J R T) cz kz = some (some (.int v), (ev_hp I J R T), cz, kz) := by
  intro G
  rfl
set_option maxRecDepth 100000 in
set_option maxHeartbeats 100000 in
theorem ec_wrapped_r5 (X : ez_X) (I : Nat → Nat → Int32) (J : Nat → Nat → Int64) (R : Nat → Nat) (T : List ez_C) (v : Int32) (z : Int32) (cz kz : Nat) : ∀ G : ez_F, fx_up X 3 G 154 11 [.ref 1, .int v, .int z] [] (ev_hp I J R T) cz kz = ev_C G 240 [.int v, .int z] (ev_hp I J R T) fun r h1 c1 k1 => G 154 16 [.ref 1, .int v, .int z] (r.toList ++ []) h1 (cz + c1) (kz + k1) := by
  intro G
  rfl
set_option maxRecDepth 100000 in
set_option maxHeartbeats 100000 in
theorem ec_wrapped_r6 (X : ez_X) (I : Nat → Nat → Int32) (J : Nat → Nat → Int64) (R : Nat → Nat) (T : List ez_C) (v : Int32) (z : Int32) (v1 : Int32) (cz kz : Nat) : ∀ G : ez_F, fx_up X 2 G 154 16 [.ref 1, .int v, .int z] [.int v1] (ev_hp I J R T) cz kz = some (some (.int v1), (ev_hp I J R T), cz, kz) := by
  intro G
  rfl
theorem ec_wrapped (X : ez_X) (I : Nat → Nat → Int32) (J : Nat → Nat → Int64) (R : Nat → Nat) (T : List ez_C) (v : Int32) (z : Int32)  : ev_W X 154 0 (ez_lay [.ref 1, .int v, .int z]) [] (ev_hp I J R T) 0 0 (ev_anyI (ev_hp I J R T)) := by
  refine ev_if (ec_wrapped_r1 X I J R T v z _ _) (fun b1 => ?_) (fun b1 => ?_)
  · replace b1 := of_decide_eq_true b1
    refine ev_ret (ec_wrapped_r2 X I J R T v z _ _) ?_
    exact ⟨⟨_, rfl⟩, rfl, rfl, rfl⟩
  · replace b1 := of_decide_eq_false b1
    refine ev_if (ec_wrapped_r3 X I J R T v z _ _) (fun b2 => ?_) (fun b2 => ?_)
    · replace b2 := of_decide_eq_true b2
      refine ev_ret (ec_wrapped_r4 X I J R T v z _ _) ?_
      exact ⟨⟨_, rfl⟩, rfl, rfl, rfl⟩
    · replace b2 := of_decide_eq_false b2
      refine ev_call (ec_wrapped_r5 X I J R T v z _ _) (ec_fmod X (ev_hp I J R T) v z (fun hz => b2 (by rw [hz]; decide))) ?_
      rintro _ _ _ _ ⟨⟨v1, rfl⟩, rfl, rfl, rfl⟩
      refine ev_ret (ec_wrapped_r6 X I J R T v z v1 _ _) ?_
      exact ⟨⟨_, rfl⟩, rfl, rfl, rfl⟩
noncomputable def ev_bcI (x : Int32) : Int32 := ((((((((x - ((x.toUInt32 >>> 1).toInt32 &&& (1431655765 : Int32))) &&& (858993459 : Int32)) + (((x - ((x.toUInt32 >>> 1).toInt32 &&& (1431655765 : Int32))).toUInt32 >>> 2).toInt32 &&& (858993459 : Int32))) + ((((x - ((x.toUInt32 >>> 1).toInt32 &&& (1431655765 : Int32))) &&& (858993459 : Int32)) + (((x - ((x.toUInt32 >>> 1).toInt32 &&& (1431655765 : Int32))).toUInt32 >>> 2).toInt32 &&& (858993459 : Int32))).toUInt32 >>> 4).toInt32) &&& (252645135 : Int32)) + ((((((x - ((x.toUInt32 >>> 1).toInt32 &&& (1431655765 : Int32))) &&& (858993459 : Int32)) + (((x - ((x.toUInt32 >>> 1).toInt32 &&& (1431655765 : Int32))).toUInt32 >>> 2).toInt32 &&& (858993459 : Int32))) + ((((x - ((x.toUInt32 >>> 1).toInt32 &&& (1431655765 : Int32))) &&& (858993459 : Int32)) + (((x - ((x.toUInt32 >>> 1).toInt32 &&& (1431655765 : Int32))).toUInt32 >>> 2).toInt32 &&& (858993459 : Int32))).toUInt32 >>> 4).toInt32) &&& (252645135 : Int32)).toUInt32 >>> 8).toInt32) + (((((((x - ((x.toUInt32 >>> 1).toInt32 &&& (1431655765 : Int32))) &&& (858993459 : Int32)) + (((x - ((x.toUInt32 >>> 1).toInt32 &&& (1431655765 : Int32))).toUInt32 >>> 2).toInt32 &&& (858993459 : Int32))) + ((((x - ((x.toUInt32 >>> 1).toInt32 &&& (1431655765 : Int32))) &&& (858993459 : Int32)) + (((x - ((x.toUInt32 >>> 1).toInt32 &&& (1431655765 : Int32))).toUInt32 >>> 2).toInt32 &&& (858993459 : Int32))).toUInt32 >>> 4).toInt32) &&& (252645135 : Int32)) + ((((((x - ((x.toUInt32 >>> 1).toInt32 &&& (1431655765 : Int32))) &&& (858993459 : Int32)) + (((x - ((x.toUInt32 >>> 1).toInt32 &&& (1431655765 : Int32))).toUInt32 >>> 2).toInt32 &&& (858993459 : Int32))) + ((((x - ((x.toUInt32 >>> 1).toInt32 &&& (1431655765 : Int32))) &&& (858993459 : Int32)) + (((x - ((x.toUInt32 >>> 1).toInt32 &&& (1431655765 : Int32))).toUInt32 >>> 2).toInt32 &&& (858993459 : Int32))).toUInt32 >>> 4).toInt32) &&& (252645135 : Int32)).toUInt32 >>> 8).toInt32).toUInt32 >>> 16).toInt32) &&& (63 : Int32))
set_option maxRecDepth 100000 in
set_option maxHeartbeats 100000 in
theorem ec_bcI_r1 (X : ez_X) (h : ez_H) (x : Int32) (cz kz : Nat) : ∀ G : ez_F, fx_up X 42 G 234 0 [.int x] [] h cz kz = some (some (.int (ev_bcI x)), h, cz, kz) := by
  intro G
  rfl
theorem ec_bcI (X : ez_X) (h : ez_H) (x : Int32) : ev_W X 234 0 (ez_lay [.int x]) [] h 0 0 (ev_is (some (.int (ev_bcI x))) h) := by
  exact ev_ret (ec_bcI_r1 X h x _ _) ⟨rfl, rfl, rfl, rfl⟩
noncomputable def ev_bcJ (x : Int64) : Int32 := ((((((((((x - (((x.toUInt64 >>> 1).toInt64) &&& (6148914691236517205 : Int64))) &&& (3689348814741910323 : Int64)) + ((((x - (((x.toUInt64 >>> 1).toInt64) &&& (6148914691236517205 : Int64))).toUInt64 >>> 2).toInt64) &&& (3689348814741910323 : Int64))) + (((((x - (((x.toUInt64 >>> 1).toInt64) &&& (6148914691236517205 : Int64))) &&& (3689348814741910323 : Int64)) + ((((x - (((x.toUInt64 >>> 1).toInt64) &&& (6148914691236517205 : Int64))).toUInt64 >>> 2).toInt64) &&& (3689348814741910323 : Int64))).toUInt64 >>> 4).toInt64)) &&& (1085102592571150095 : Int64)) + (((((((x - (((x.toUInt64 >>> 1).toInt64) &&& (6148914691236517205 : Int64))) &&& (3689348814741910323 : Int64)) + ((((x - (((x.toUInt64 >>> 1).toInt64) &&& (6148914691236517205 : Int64))).toUInt64 >>> 2).toInt64) &&& (3689348814741910323 : Int64))) + (((((x - (((x.toUInt64 >>> 1).toInt64) &&& (6148914691236517205 : Int64))) &&& (3689348814741910323 : Int64)) + ((((x - (((x.toUInt64 >>> 1).toInt64) &&& (6148914691236517205 : Int64))).toUInt64 >>> 2).toInt64) &&& (3689348814741910323 : Int64))).toUInt64 >>> 4).toInt64)) &&& (1085102592571150095 : Int64)).toUInt64 >>> 8).toInt64)) + ((((((((x - (((x.toUInt64 >>> 1).toInt64) &&& (6148914691236517205 : Int64))) &&& (3689348814741910323 : Int64)) + ((((x - (((x.toUInt64 >>> 1).toInt64) &&& (6148914691236517205 : Int64))).toUInt64 >>> 2).toInt64) &&& (3689348814741910323 : Int64))) + (((((x - (((x.toUInt64 >>> 1).toInt64) &&& (6148914691236517205 : Int64))) &&& (3689348814741910323 : Int64)) + ((((x - (((x.toUInt64 >>> 1).toInt64) &&& (6148914691236517205 : Int64))).toUInt64 >>> 2).toInt64) &&& (3689348814741910323 : Int64))).toUInt64 >>> 4).toInt64)) &&& (1085102592571150095 : Int64)) + (((((((x - (((x.toUInt64 >>> 1).toInt64) &&& (6148914691236517205 : Int64))) &&& (3689348814741910323 : Int64)) + ((((x - (((x.toUInt64 >>> 1).toInt64) &&& (6148914691236517205 : Int64))).toUInt64 >>> 2).toInt64) &&& (3689348814741910323 : Int64))) + (((((x - (((x.toUInt64 >>> 1).toInt64) &&& (6148914691236517205 : Int64))) &&& (3689348814741910323 : Int64)) + ((((x - (((x.toUInt64 >>> 1).toInt64) &&& (6148914691236517205 : Int64))).toUInt64 >>> 2).toInt64) &&& (3689348814741910323 : Int64))).toUInt64 >>> 4).toInt64)) &&& (1085102592571150095 : Int64)).toUInt64 >>> 8).toInt64)).toUInt64 >>> 16).toInt64)) + (((((((((x - (((x.toUInt64 >>> 1).toInt64) &&& (6148914691236517205 : Int64))) &&& (3689348814741910323 : Int64)) + ((((x - (((x.toUInt64 >>> 1).toInt64) &&& (6148914691236517205 : Int64))).toUInt64 >>> 2).toInt64) &&& (3689348814741910323 : Int64))) + (((((x - (((x.toUInt64 >>> 1).toInt64) &&& (6148914691236517205 : Int64))) &&& (3689348814741910323 : Int64)) + ((((x - (((x.toUInt64 >>> 1).toInt64) &&& (6148914691236517205 : Int64))).toUInt64 >>> 2).toInt64) &&& (3689348814741910323 : Int64))).toUInt64 >>> 4).toInt64)) &&& (1085102592571150095 : Int64)) + (((((((x - (((x.toUInt64 >>> 1).toInt64) &&& (6148914691236517205 : Int64))) &&& (3689348814741910323 : Int64)) + ((((x - (((x.toUInt64 >>> 1).toInt64) &&& (6148914691236517205 : Int64))).toUInt64 >>> 2).toInt64) &&& (3689348814741910323 : Int64))) + (((((x - (((x.toUInt64 >>> 1).toInt64) &&& (6148914691236517205 : Int64))) &&& (3689348814741910323 : Int64)) + ((((x - (((x.toUInt64 >>> 1).toInt64) &&& (6148914691236517205 : Int64))).toUInt64 >>> 2).toInt64) &&& (3689348814741910323 : Int64))).toUInt64 >>> 4).toInt64)) &&& (1085102592571150095 : Int64)).toUInt64 >>> 8).toInt64)) + ((((((((x - (((x.toUInt64 >>> 1).toInt64) &&& (6148914691236517205 : Int64))) &&& (3689348814741910323 : Int64)) + ((((x - (((x.toUInt64 >>> 1).toInt64) &&& (6148914691236517205 : Int64))).toUInt64 >>> 2).toInt64) &&& (3689348814741910323 : Int64))) + (((((x - (((x.toUInt64 >>> 1).toInt64) &&& (6148914691236517205 : Int64))) &&& (3689348814741910323 : Int64)) + ((((x - (((x.toUInt64 >>> 1).toInt64) &&& (6148914691236517205 : Int64))).toUInt64 >>> 2).toInt64) &&& (3689348814741910323 : Int64))).toUInt64 >>> 4).toInt64)) &&& (1085102592571150095 : Int64)) + (((((((x - (((x.toUInt64 >>> 1).toInt64) &&& (6148914691236517205 : Int64))) &&& (3689348814741910323 : Int64)) + ((((x - (((x.toUInt64 >>> 1).toInt64) &&& (6148914691236517205 : Int64))).toUInt64 >>> 2).toInt64) &&& (3689348814741910323 : Int64))) + (((((x - (((x.toUInt64 >>> 1).toInt64) &&& (6148914691236517205 : Int64))) &&& (3689348814741910323 : Int64)) + ((((x - (((x.toUInt64 >>> 1).toInt64) &&& (6148914691236517205 : Int64))).toUInt64 >>> 2).toInt64) &&& (3689348814741910323 : Int64))).toUInt64 >>> 4).toInt64)) &&& (1085102592571150095 : Int64)).toUInt64 >>> 8).toInt64)).toUInt64 >>> 16).toInt64)).toUInt64 >>> 32).toInt64)).toInt32) &&& (127 : Int32))
set_option maxRecDepth 100000 in
set_option maxHeartbeats 100000 in
theorem ec_bcJ_r1 (X : ez_X) (h : ez_H) (x : Int64) (cz kz : Nat) : ∀ G : ez_F, fx_up X 49 G 237 0 [.long x, ez_fill] [] h cz kz = some (some (.int (ev_bcJ x)), h, cz, kz) := by
  intro G
  rfl
theorem ec_bcJ (X : ez_X) (h : ez_H) (x : Int64) : ev_W X 237 0 (ez_lay [.long x]) [] h 0 0 (ev_is (some (.int (ev_bcJ x))) h) := by
  exact ev_ret (ec_bcJ_r1 X h x _ _) ⟨rfl, rfl, rfl, rfl⟩
set_option maxRecDepth 100000 in
set_option maxHeartbeats 100000 in
theorem ec_placed_l_r1 (X : ez_X) (I : Nat → Nat → Int32) (J : Nat → Nat → Int64) (R : Nat → Nat) (T : List ez_C) (s : Int32) (x : Int32) (y : Int32) (z : Int64) (i : Int32) (cz kz : Nat) : ∀ G : ez_F, fx_up X 3 G 149 6 [.ref 1, .int s, .int x, .int y, .long z, ez_fill, .int i] [] (ev_hp I J R T) cz kz = bif decide (16 ≤ i) then G 149 112 [.ref 1, .int s, .int x, .int y, .long z, ez_fill, .int i] [] (ev_hp I J R T) cz kz else G 149 13 [.ref 1, .int s, .int x, .int y, .long z, ez_fill, .int i] [] (ev_hp I J R T) cz kz := by
  intro G
  rfl
set_option maxRecDepth 100000 in
set_option maxHeartbeats 100000 in
theorem ec_placed_l_r2 (X : ez_X) (I : Nat → Nat → Int32) (J : Nat → Nat → Int64) (R : Nat → Nat) (T : List ez_C) (s : Int32) (x : Int32) (y : Int32) (z : Int64) (i : Int32) (cz kz : Nat) : ∀ G : ez_F, fx_up X 2 G 149 112 [.ref 1, .int s, .int x, .int y, .long z, ez_fill, .int i] [] (ev_hp I J R T) cz kz = ev_C G 237 [.long z] (ev_hp I J R T) fun r h1 c1 k1 => G 149 117 [.ref 1, .int s, .int x, .int y, .long z, ez_fill, .int i] (r.toList ++ []) h1 (cz + c1) (kz + k1) := by
  intro G
  rfl
set_option maxRecDepth 100000 in
set_option maxHeartbeats 100000 in
theorem ec_placed_l_r3 (X : ez_X) (I : Nat → Nat → Int32) (J : Nat → Nat → Int64) (R : Nat → Nat) (T : List ez_C) (s : Int32) (x : Int32) (y : Int32) (z : Int64) (i : Int32) (q1 : Int32) (cz kz : Nat) : ∀ G : ez_F, fx_up X 2 G 149 117 [.ref 1, .int s, .int x, .int y, .long z, ez_fill, .int i] [.int q1] (ev_hp I J R T) cz kz = ev_C G 234 [.int s] (ev_hp I J R T) fun r h1 c1 k1 => G 149 121 [.ref 1, .int s, .int x, .int y, .long z, ez_fill, .int i] (r.toList ++ [.int q1]) h1 (cz + c1) (kz + k1) := by
  intro G
  rfl
set_option maxRecDepth 100000 in
set_option maxHeartbeats 100000 in
theorem ec_placed_l_r4 (X : ez_X) (I : Nat → Nat → Int32) (J : Nat → Nat → Int64) (R : Nat → Nat) (T : List ez_C) (s : Int32) (x : Int32) (y : Int32) (z : Int64) (i : Int32) (q1 : Int32) (q2 : Int32) (cz kz : Nat) : ∀ G : ez_F, fx_up X 1 G 149 121 [.ref 1, .int s, .int x, .int y, .long z, ez_fill, .int i] [.int q2, .int q1] (ev_hp I J R T) cz kz = bif decide (¬ q1 = q2) then G 149 129 [.ref 1, .int s, .int x, .int y, .long z, ez_fill, .int i] [] (ev_hp I J R T) cz kz else G 149 124 [.ref 1, .int s, .int x, .int y, .long z, ez_fill, .int i] [] (ev_hp I J R T) cz kz := by
  intro G
  rfl
set_option maxRecDepth 100000 in
set_option maxHeartbeats 100000 in
theorem ec_placed_l_r5 (X : ez_X) (I : Nat → Nat → Int32) (J : Nat → Nat → Int64) (R : Nat → Nat) (T : List ez_C) (s : Int32) (x : Int32) (y : Int32) (z : Int64) (i : Int32) (q1 : Int32) (q2 : Int32) (cz kz : Nat) : ∀ G : ez_F, fx_up X 2 G 149 129 [.ref 1, .int s, .int x, .int y, .long z, ez_fill, .int i] [] (ev_hp I J R T) cz kz = some (some (.long 0), (ev_hp I J R T), cz, kz) := by
  intro G
  rfl
set_option maxRecDepth 100000 in
set_option maxHeartbeats 100000 in
theorem ec_placed_l_r6 (X : ez_X) (I : Nat → Nat → Int32) (J : Nat → Nat → Int64) (R : Nat → Nat) (T : List ez_C) (s : Int32) (x : Int32) (y : Int32) (z : Int64) (i : Int32) (q1 : Int32) (q2 : Int32) (cz kz : Nat) : ∀ G : ez_F, fx_up X 3 G 149 124 [.ref 1, .int s, .int x, .int y, .long z, ez_fill, .int i] [] (ev_hp I J R T) cz kz = some (some (.long z), (ev_hp I J R T), cz, kz) := by
  intro G
  rfl
set_option maxRecDepth 100000 in
set_option maxHeartbeats 100000 in
theorem ec_placed_l_r7 (X : ez_X) (I : Nat → Nat → Int32) (J : Nat → Nat → Int64) (R : Nat → Nat) (T : List ez_C) (s : Int32) (x : Int32) (y : Int32) (z : Int64) (i : Int32) (cz kz : Nat) : ∀ G : ez_F, fx_up X 6 G 149 13 [.ref 1, .int s, .int x, .int y, .long z, ez_fill, .int i] [] (ev_hp I J R T) cz kz = bif decide (¬ ((s >>> (i &&& 31)) &&& (1 : Int32)) = 0) then G 149 25 [.ref 1, .int s, .int x, .int y, .long z, ez_fill, .int i] [] (ev_hp I J R T) cz kz else G 149 22 [.ref 1, .int s, .int x, .int y, .long z, ez_fill, .int i] [] (ev_hp I J R T) cz kz := by
  intro G
  rfl
set_option maxRecDepth 100000 in
set_option maxHeartbeats 100000 in
theorem ec_placed_l_r8 (X : ez_X) (I : Nat → Nat → Int32) (J : Nat → Nat → Int64) (R : Nat → Nat) (T : List ez_C) (s : Int32) (x : Int32) (y : Int32) (z : Int64) (i : Int32) (cz kz : Nat) : ∀ G : ez_F, fx_up X 9 G 149 25 [.ref 1, .int s, .int x, .int y, .long z, ez_fill, .int i] [] (ev_hp I J R T) cz kz = ev_C G 154 [.ref 1, .int ((i &&& (3 : Int32)) + x), .int (I 1 3)] (ev_hp I J R T) fun r h1 c1 k1 => G 149 39 [.ref 1, .int s, .int x, .int y, .long z, ez_fill, .int i] (r.toList ++ []) h1 (cz + c1) (kz + k1) := by
  intro G
  rfl
set_option maxRecDepth 100000 in
set_option maxHeartbeats 100000 in
theorem ec_placed_l_r9 (X : ez_X) (I : Nat → Nat → Int32) (J : Nat → Nat → Int64) (R : Nat → Nat) (T : List ez_C) (s : Int32) (x : Int32) (y : Int32) (z : Int64) (i : Int32) (v2 : Int32) (cz kz : Nat) : ∀ G : ez_F, fx_up X 10 G 149 39 [.ref 1, .int s, .int x, .int y, .long z, ez_fill, .int i] [.int v2] (ev_hp I J R T) cz kz = ev_C G 154 [.ref 1, .int ((i >>> 2) + y), .int (I 1 4)] (ev_hp I J R T) fun r h1 c1 k1 => G 149 55 [.ref 1, .int s, .int x, .int y, .long z, ez_fill, .int i, .int v2] (r.toList ++ []) h1 (cz + c1) (kz + k1) := by
  intro G
  rfl
set_option maxRecDepth 100000 in
set_option maxHeartbeats 100000 in
theorem ec_placed_l_r10 (X : ez_X) (I : Nat → Nat → Int32) (J : Nat → Nat → Int64) (R : Nat → Nat) (T : List ez_C) (s : Int32) (x : Int32) (y : Int32) (z : Int64) (i : Int32) (v2 : Int32) (v3 : Int32) (cz kz : Nat) : ∀ G : ez_F, fx_up X 8 G 149 55 [.ref 1, .int s, .int x, .int y, .long z, ez_fill, .int i, .int v2] [.int v3] (ev_hp I J R T) cz kz = ev_C G 55 [.int v2, .int 0, .int ((I 1 3) - (1 : Int32))] (ev_hp I J R T) fun r h1 c1 k1 => G 149 69 [.ref 1, .int s, .int x, .int y, .long z, ez_fill, .int i, .int v2, .int v3] (r.toList ++ []) h1 (cz + c1) (kz + k1) := by
  intro G
  rfl
set_option maxRecDepth 100000 in
set_option maxHeartbeats 100000 in
theorem ec_placed_l_r11 (X : ez_X) (I : Nat → Nat → Int32) (J : Nat → Nat → Int64) (R : Nat → Nat) (T : List ez_C) (s : Int32) (x : Int32) (y : Int32) (z : Int64) (i : Int32) (v2 : Int32) (v3 : Int32) (q3 : Int32) (cz kz : Nat) : ∀ G : ez_F, fx_up X 1 G 149 69 [.ref 1, .int s, .int x, .int y, .long z, ez_fill, .int i, .int v2, .int v3] [.int q3] (ev_hp I J R T) cz kz = bif decide (q3 = 0) then G 149 87 [.ref 1, .int s, .int x, .int y, .long z, ez_fill, .int i, .int v2, .int v3] [] (ev_hp I J R T) cz kz else G 149 72 [.ref 1, .int s, .int x, .int y, .long z, ez_fill, .int i, .int v2, .int v3] [] (ev_hp I J R T) cz kz := by
  intro G
  rfl
set_option maxRecDepth 100000 in
set_option maxHeartbeats 100000 in
theorem ec_placed_l_r12 (X : ez_X) (I : Nat → Nat → Int32) (J : Nat → Nat → Int64) (R : Nat → Nat) (T : List ez_C) (s : Int32) (x : Int32) (y : Int32) (z : Int64) (i : Int32) (v2 : Int32) (v3 : Int32) (q3 : Int32) (cz kz : Nat) : ∀ G : ez_F, fx_up X 2 G 149 87 [.ref 1, .int s, .int x, .int y, .long z, ez_fill, .int i, .int v2, .int v3] [] (ev_hp I J R T) cz kz = some (some (.long 0), (ev_hp I J R T), cz, kz) := by
  intro G
  rfl
set_option maxRecDepth 100000 in
set_option maxHeartbeats 100000 in
theorem ec_placed_l_r13 (X : ez_X) (I : Nat → Nat → Int32) (J : Nat → Nat → Int64) (R : Nat → Nat) (T : List ez_C) (s : Int32) (x : Int32) (y : Int32) (z : Int64) (i : Int32) (v2 : Int32) (v3 : Int32) (q3 : Int32) (cz kz : Nat) : ∀ G : ez_F, fx_up X 7 G 149 72 [.ref 1, .int s, .int x, .int y, .long z, ez_fill, .int i, .int v2, .int v3] [] (ev_hp I J R T) cz kz = ev_C G 55 [.int v3, .int 0, .int ((I 1 4) - (1 : Int32))] (ev_hp I J R T) fun r h1 c1 k1 => G 149 84 [.ref 1, .int s, .int x, .int y, .long z, ez_fill, .int i, .int v2, .int v3] (r.toList ++ []) h1 (cz + c1) (kz + k1) := by
  intro G
  rfl
set_option maxRecDepth 100000 in
set_option maxHeartbeats 100000 in
theorem ec_placed_l_r14 (X : ez_X) (I : Nat → Nat → Int32) (J : Nat → Nat → Int64) (R : Nat → Nat) (T : List ez_C) (s : Int32) (x : Int32) (y : Int32) (z : Int64) (i : Int32) (v2 : Int32) (v3 : Int32) (q3 : Int32) (q4 : Int32) (cz kz : Nat) : ∀ G : ez_F, fx_up X 1 G 149 84 [.ref 1, .int s, .int x, .int y, .long z, ez_fill, .int i, .int v2, .int v3] [.int q4] (ev_hp I J R T) cz kz = bif decide (¬ q4 = 0) then G 149 89 [.ref 1, .int s, .int x, .int y, .long z, ez_fill, .int i, .int v2, .int v3] [] (ev_hp I J R T) cz kz else G 149 87 [.ref 1, .int s, .int x, .int y, .long z, ez_fill, .int i, .int v2, .int v3] [] (ev_hp I J R T) cz kz := by
  intro G
  rfl
set_option maxRecDepth 100000 in
set_option maxHeartbeats 100000 in
theorem ec_placed_l_r15 (X : ez_X) (I : Nat → Nat → Int32) (J : Nat → Nat → Int64) (R : Nat → Nat) (T : List ez_C) (s : Int32) (x : Int32) (y : Int32) (z : Int64) (i : Int32) (v2 : Int32) (v3 : Int32) (q3 : Int32) (q4 : Int32) (cz kz : Nat) : ∀ G : ez_F, fx_up X 13 G 149 89 [.ref 1, .int s, .int x, .int y, .long z, ez_fill, .int i, .int v2, .int v3] [] (ev_hp I J R T) cz kz = G 149 6 [.ref 1, .int s, .int x, .int y, .long (z ||| ((1 : Int64) <<< (((((I 1 3) * v3) + v2) : Int32).toInt64 &&& 63))), ez_fill, .int (i + (1 : Int32))] [] (ev_hp I J R T) cz kz := by
  intro G
  rfl
set_option maxRecDepth 100000 in
set_option maxHeartbeats 100000 in
theorem ec_placed_l_r16 (X : ez_X) (I : Nat → Nat → Int32) (J : Nat → Nat → Int64) (R : Nat → Nat) (T : List ez_C) (s : Int32) (x : Int32) (y : Int32) (z : Int64) (i : Int32) (v2 : Int32) (v3 : Int32) (q3 : Int32) (q4 : Int32) (cz kz : Nat) : ∀ G : ez_F, fx_up X 2 G 149 87 [.ref 1, .int s, .int x, .int y, .long z, ez_fill, .int i, .int v2, .int v3] [] (ev_hp I J R T) cz kz = some (some (.long 0), (ev_hp I J R T), cz, kz) := by
  intro G
  rfl
set_option maxRecDepth 100000 in
set_option maxHeartbeats 100000 in
theorem ec_placed_l_r17 (X : ez_X) (I : Nat → Nat → Int32) (J : Nat → Nat → Int64) (R : Nat → Nat) (T : List ez_C) (s : Int32) (x : Int32) (y : Int32) (z : Int64) (i : Int32) (cz kz : Nat) : ∀ G : ez_F, fx_up X 3 G 149 22 [.ref 1, .int s, .int x, .int y, .long z, ez_fill, .int i] [] (ev_hp I J R T) cz kz = G 149 6 [.ref 1, .int s, .int x, .int y, .long z, ez_fill, .int (i + (1 : Int32))] [] (ev_hp I J R T) cz kz := by
  intro G
  rfl
theorem ec_placed_l (X : ez_X) (I : Nat → Nat → Int32) (J : Nat → Nat → Int64) (R : Nat → Nat) (T : List ez_C) (s : Int32) (x : Int32) (y : Int32)  : ∀ (n : Nat) (z : Int64) (i : Int32), ((16 : Int32).toInt - i.toInt).toNat < n → ev_W X 149 6 [.ref 1, .int s, .int x, .int y, .long z, ez_fill, .int i] [] (ev_hp I J R T) 0 0 (ev_anyJ (ev_hp I J R T)) := by
  intro n
  induction n with
  | zero => intro z i hm; exact absurd hm (Nat.not_lt_zero _)
  | succ n ih =>
    intro z i hm
    refine ev_if (ec_placed_l_r1 X I J R T s x y z i _ _) (fun b1 => ?_) (fun b1 => ?_)
    · replace b1 := of_decide_eq_true b1
      refine ev_call (ec_placed_l_r2 X I J R T s x y z i _ _) (ec_bcJ X (ev_hp I J R T) z) ?_
      rintro _ _ _ _ ⟨rfl, rfl, rfl, rfl⟩
      generalize hq1 : (ev_bcJ z) = q1
      refine ev_call (ec_placed_l_r3 X I J R T s x y z i q1 _ _) (ec_bcI X (ev_hp I J R T) s) ?_
      rintro _ _ _ _ ⟨rfl, rfl, rfl, rfl⟩
      generalize hq2 : (ev_bcI s) = q2
      refine ev_if (ec_placed_l_r4 X I J R T s x y z i q1 q2 _ _) (fun b2 => ?_) (fun b2 => ?_)
      · replace b2 := of_decide_eq_true b2
        refine ev_ret (ec_placed_l_r5 X I J R T s x y z i q1 q2 _ _) ?_
        exact ⟨⟨_, rfl⟩, rfl, rfl, rfl⟩
      · replace b2 := of_decide_eq_false b2
        refine ev_ret (ec_placed_l_r6 X I J R T s x y z i q1 q2 _ _) ?_
        exact ⟨⟨_, rfl⟩, rfl, rfl, rfl⟩
    · replace b1 := of_decide_eq_false b1
      refine ev_if (ec_placed_l_r7 X I J R T s x y z i _ _) (fun b3 => ?_) (fun b3 => ?_)
      · replace b3 := of_decide_eq_true b3
        refine ev_call (ec_placed_l_r8 X I J R T s x y z i _ _) (ec_wrapped X I J R T ((i &&& (3 : Int32)) + x) (I 1 3)) ?_
        rintro _ _ _ _ ⟨⟨v2, rfl⟩, rfl, rfl, rfl⟩
        refine ev_call (ec_placed_l_r9 X I J R T s x y z i v2 _ _) (ec_wrapped X I J R T ((i >>> 2) + y) (I 1 4)) ?_
        rintro _ _ _ _ ⟨⟨v3, rfl⟩, rfl, rfl, rfl⟩
        refine ev_call (ec_placed_l_r10 X I J R T s x y z i v2 v3 _ _) (ec_within X (ev_hp I J R T) v2 0 ((I 1 3) - (1 : Int32))) ?_
        rintro _ _ _ _ ⟨rfl, rfl, rfl, rfl⟩
        generalize hq3 : (ev_wi v2 0 ((I 1 3) - (1 : Int32))) = q3
        refine ev_if (ec_placed_l_r11 X I J R T s x y z i v2 v3 q3 _ _) (fun b4 => ?_) (fun b4 => ?_)
        · replace b4 := of_decide_eq_true b4
          refine ev_ret (ec_placed_l_r12 X I J R T s x y z i v2 v3 q3 _ _) ?_
          exact ⟨⟨_, rfl⟩, rfl, rfl, rfl⟩
        · replace b4 := of_decide_eq_false b4
          refine ev_call (ec_placed_l_r13 X I J R T s x y z i v2 v3 q3 _ _) (ec_within X (ev_hp I J R T) v3 0 ((I 1 4) - (1 : Int32))) ?_
          rintro _ _ _ _ ⟨rfl, rfl, rfl, rfl⟩
          generalize hq4 : (ev_wi v3 0 ((I 1 4) - (1 : Int32))) = q4
          refine ev_if (ec_placed_l_r14 X I J R T s x y z i v2 v3 q3 q4 _ _) (fun b5 => ?_) (fun b5 => ?_)
          · replace b5 := of_decide_eq_true b5
            refine ev_seg (ec_placed_l_r15 X I J R T s x y z i v2 v3 q3 q4 _ _) ?_
            exact ih _ _ (ev_up hm b1)
          · replace b5 := of_decide_eq_false b5
            refine ev_ret (ec_placed_l_r16 X I J R T s x y z i v2 v3 q3 q4 _ _) ?_
            exact ⟨⟨_, rfl⟩, rfl, rfl, rfl⟩
      · replace b3 := of_decide_eq_false b3
        refine ev_seg (ec_placed_l_r17 X I J R T s x y z i _ _) ?_
        exact ih _ _ (ev_up hm b1)
set_option maxRecDepth 100000 in
set_option maxHeartbeats 100000 in
theorem ec_placed_r1 (X : ez_X) (I : Nat → Nat → Int32) (J : Nat → Nat → Int64) (R : Nat → Nat) (T : List ez_C) (s : Int32) (x : Int32) (y : Int32) (cz kz : Nat) : ∀ G : ez_F, fx_up X 4 G 149 0 [.ref 1, .int s, .int x, .int y] [] (ev_hp I J R T) cz kz = G 149 6 [.ref 1, .int s, .int x, .int y, .long 0, ez_fill, .int 0] [] (ev_hp I J R T) cz kz := by
  intro G
  rfl
theorem ec_placed (X : ez_X) (I : Nat → Nat → Int32) (J : Nat → Nat → Int64) (R : Nat → Nat) (T : List ez_C) (s : Int32) (x : Int32) (y : Int32)  : ev_W X 149 0 (ez_lay [.ref 1, .int s, .int x, .int y]) [] (ev_hp I J R T) 0 0 (ev_anyJ (ev_hp I J R T)) := by
  refine ev_seg (ec_placed_r1 X I J R T s x y _ _) ?_
  exact ec_placed_l X I J R T s x y _ _ _ (Nat.lt_succ_self _)
set_option maxRecDepth 100000 in
set_option maxHeartbeats 100000 in
theorem ec_note_b_r1 (X : ez_X) (I : Nat → Nat → Int32) (J : Nat → Nat → Int64) (R : Nat → Nat) (T : List ez_C) (t : Int32) (s : Int64) (a : Int32) (d : Int32) (p : Int32) (b : Int32) (f : Nat → Int32) (i : Int32) (g : Nat → Int64) (cz kz : Nat) : ∀ G : ez_F, fx_up X 3 G 91 100 [.ref 3, .int t, .long s, ez_fill, .int a, .int d, .int p, .int b, .int i] [] (ev_hp (ev_sI I 5 f) (ev_sJ J 4 g) R T) cz kz = bif decide (i ≤ p) then G 91 139 [.ref 3, .int t, .long s, ez_fill, .int a, .int d, .int p, .int b, .int i] [] (ev_hp (ev_sI I 5 f) (ev_sJ J 4 g) R T) cz kz else G 91 107 [.ref 3, .int t, .long s, ez_fill, .int a, .int d, .int p, .int b, .int i] [] (ev_hp (ev_sI I 5 f) (ev_sJ J 4 g) R T) cz kz := by
  intro G
  rfl
set_option maxRecDepth 100000 in
set_option maxHeartbeats 100000 in
theorem ec_note_b_r2 (X : ez_X) (I : Nat → Nat → Int32) (J : Nat → Nat → Int64) (R : Nat → Nat) (T : List ez_C) (t : Int32) (s : Int64) (a : Int32) (d : Int32) (p : Int32) (b : Int32) (f : Nat → Int32) (i : Int32) (g : Nat → Int64) (cz kz : Nat) : ∀ G : ez_F, fx_up X 7 G 91 139 [.ref 3, .int t, .long s, ez_fill, .int a, .int d, .int p, .int b, .int i] [] (ev_hp (ev_sI I 5 f) (ev_sJ J 4 g) R T) cz kz = ev_C G 39 [.ref 4, .int (a + p), .long s] (ev_hp (ev_sI I 5 f) (ev_sJ J 4 g) R T) fun r h1 c1 k1 => G 91 152 [.ref 3, .int t, .long s, ez_fill, .int a, .int d, .int p, .int b, .int i] (r.toList ++ []) h1 (cz + c1) (kz + k1) := by
  intro G
  rfl
set_option maxRecDepth 100000 in
set_option maxHeartbeats 100000 in
theorem ec_note_b_r3 (X : ez_X) (I : Nat → Nat → Int32) (J : Nat → Nat → Int64) (R : Nat → Nat) (T : List ez_C) (t : Int32) (s : Int64) (a : Int32) (d : Int32) (p : Int32) (b : Int32) (f : Nat → Int32) (i : Int32) (g : Nat → Int64) (cz kz : Nat) : ∀ G : ez_F, fx_up X 7 G 91 152 [.ref 3, .int t, .long s, ez_fill, .int a, .int d, .int p, .int b, .int i] [] (ev_hp (ev_sI I 5 f) (ev_sJ J 4 (ev_putJ 864 g (a + p) s)) R T) cz kz = ev_C G 38 [.ref 5, .int t, .int (d + (1 : Int32))] (ev_hp (ev_sI I 5 f) (ev_sJ J 4 (ev_putJ 864 g (a + p) s)) R T) fun r h1 c1 k1 => G 91 164 [.ref 3, .int t, .long s, ez_fill, .int a, .int d, .int p, .int b, .int i] (r.toList ++ []) h1 (cz + c1) (kz + k1) := by
  intro G
  rfl
set_option maxRecDepth 100000 in
set_option maxHeartbeats 100000 in
theorem ec_note_b_r4 (X : ez_X) (I : Nat → Nat → Int32) (J : Nat → Nat → Int64) (R : Nat → Nat) (T : List ez_C) (t : Int32) (s : Int64) (a : Int32) (d : Int32) (p : Int32) (b : Int32) (f : Nat → Int32) (i : Int32) (g : Nat → Int64) (cz kz : Nat) : ∀ G : ez_F, fx_up X 1 G 91 164 [.ref 3, .int t, .long s, ez_fill, .int a, .int d, .int p, .int b, .int i] [] (ev_hp (ev_sI I 5 (ev_put 3 f t (d + (1 : Int32)))) (ev_sJ J 4 (ev_putJ 864 g (a + p) s)) R T) cz kz = some (none, (ev_hp (ev_sI I 5 (ev_put 3 f t (d + (1 : Int32)))) (ev_sJ J 4 (ev_putJ 864 g (a + p) s)) R T), cz, kz) := by
  intro G
  rfl
set_option maxRecDepth 100000 in
set_option maxHeartbeats 100000 in
theorem ec_note_b_r5 (X : ez_X) (I : Nat → Nat → Int32) (J : Nat → Nat → Int64) (R : Nat → Nat) (T : List ez_C) (t : Int32) (s : Int64) (a : Int32) (d : Int32) (p : Int32) (b : Int32) (f : Nat → Int32) (i : Int32) (g : Nat → Int64) (cz kz : Nat) : ∀ G : ez_F, fx_up X 13 G 91 107 [.ref 3, .int t, .long s, ez_fill, .int a, .int d, .int p, .int b, .int i] [] (ev_hp (ev_sI I 5 f) (ev_sJ J 4 g) R T) cz kz = ev_C G 4 [.ref 4, .int ((a + i) - (1 : Int32))] (ev_hp (ev_sI I 5 f) (ev_sJ J 4 g) R T) fun r h1 c1 k1 => G 91 130 [.ref 3, .int t, .long s, ez_fill, .int a, .int d, .int p, .int b, .int i] (r.toList ++ [.int (a + i), .ref 4]) h1 (cz + c1) (kz + k1) := by
  intro G
  rfl
set_option maxRecDepth 100000 in
set_option maxHeartbeats 100000 in
theorem ec_note_b_r6 (X : ez_X) (I : Nat → Nat → Int32) (J : Nat → Nat → Int64) (R : Nat → Nat) (T : List ez_C) (t : Int32) (s : Int64) (a : Int32) (d : Int32) (p : Int32) (b : Int32) (f : Nat → Int32) (i : Int32) (g : Nat → Int64) (q5 : Int64) (cz kz : Nat) : ∀ G : ez_F, fx_up X 1 G 91 130 [.ref 3, .int t, .long s, ez_fill, .int a, .int d, .int p, .int b, .int i] [.long q5, .int (a + i), .ref 4] (ev_hp (ev_sI I 5 f) (ev_sJ J 4 g) R T) cz kz = ev_C G 39 [.ref 4, .int (a + i), .long q5] (ev_hp (ev_sI I 5 f) (ev_sJ J 4 g) R T) fun r h1 c1 k1 => G 91 133 [.ref 3, .int t, .long s, ez_fill, .int a, .int d, .int p, .int b, .int i] (r.toList ++ []) h1 (cz + c1) (kz + k1) := by
  intro G
  rfl
set_option maxRecDepth 100000 in
set_option maxHeartbeats 100000 in
theorem ec_note_b_r7 (X : ez_X) (I : Nat → Nat → Int32) (J : Nat → Nat → Int64) (R : Nat → Nat) (T : List ez_C) (t : Int32) (s : Int64) (a : Int32) (d : Int32) (p : Int32) (b : Int32) (f : Nat → Int32) (i : Int32) (g : Nat → Int64) (q5 : Int64) (cz kz : Nat) : ∀ G : ez_F, fx_up X 2 G 91 133 [.ref 3, .int t, .long s, ez_fill, .int a, .int d, .int p, .int b, .int i] [] (ev_hp (ev_sI I 5 f) (ev_sJ J 4 (ev_putJ 864 g (a + i) q5)) R T) cz kz = G 91 100 [.ref 3, .int t, .long s, ez_fill, .int a, .int d, .int p, .int b, .int (i + ((-1) : Int32))] [] (ev_hp (ev_sI I 5 f) (ev_sJ J 4 (ev_putJ 864 g (a + i) q5)) R T) cz kz := by
  intro G
  rfl
theorem ec_note_b (X : ez_X) (I : Nat → Nat → Int32) (J : Nat → Nat → Int64) (R : Nat → Nat) (T : List ez_C) (t : Int32) (s : Int64) (a : Int32) (d : Int32) (p : Int32) (b : Int32) (f : Nat → Int32)  : ∀ (n : Nat) (i : Int32) (g : Nat → Int64), (i.toInt - p.toInt).toNat < n → ev_W X 91 100 [.ref 3, .int t, .long s, ez_fill, .int a, .int d, .int p, .int b, .int i] [] (ev_hp (ev_sI I 5 f) (ev_sJ J 4 g) R T) 0 0 (fun r h1 c1 k1 => r = none ∧ (∃ f g, h1 = ev_hp (ev_sI I 5 f) (ev_sJ J 4 g) R T) ∧ c1 = 0 ∧ k1 = 0) := by
  intro n
  induction n with
  | zero => intro i g hm; exact absurd hm (Nat.not_lt_zero _)
  | succ n ih =>
    intro i g hm
    refine ev_if (ec_note_b_r1 X I J R T t s a d p b f i g _ _) (fun b1 => ?_) (fun b1 => ?_)
    · replace b1 := of_decide_eq_true b1
      refine ev_call (ec_note_b_r2 X I J R T t s a d p b f i g _ _) (ec_putJ X (ev_hp (ev_sI I 5 f) (ev_sJ J 4 g) R T) 864 4 (a + p) s g rfl (by decide)) ?_
      rintro _ _ _ _ ⟨rfl, rfl, rfl, rfl⟩
      refine ev_call (ec_note_b_r3 X I J R T t s a d p b f i g _ _) (ec_put X (ev_hp (ev_sI I 5 f) (ev_sJ J 4 (ev_putJ 864 g (a + p) s)) R T) 3 5 t (d + (1 : Int32)) f rfl (by decide)) ?_
      rintro _ _ _ _ ⟨rfl, rfl, rfl, rfl⟩
      refine ev_ret (ec_note_b_r4 X I J R T t s a d p b f i g _ _) ?_
      exact ⟨rfl, ⟨_, _, rfl⟩, rfl, rfl⟩
    · replace b1 := of_decide_eq_false b1
      refine ev_call (ec_note_b_r5 X I J R T t s a d p b f i g _ _) (ec_atJ X (ev_hp (ev_sI I 5 f) (ev_sJ J 4 g) R T) 864 4 ((a + i) - (1 : Int32)) g rfl (by decide)) ?_
      rintro _ _ _ _ ⟨rfl, rfl, rfl, rfl⟩
      generalize hq5 : ev_atJ 864 g ((a + i) - (1 : Int32)) = q5
      refine ev_call (ec_note_b_r6 X I J R T t s a d p b f i g q5 _ _) (ec_putJ X (ev_hp (ev_sI I 5 f) (ev_sJ J 4 g) R T) 864 4 (a + i) q5 g rfl (by decide)) ?_
      rintro _ _ _ _ ⟨rfl, rfl, rfl, rfl⟩
      refine ev_seg (ec_note_b_r7 X I J R T t s a d p b f i g q5 _ _) ?_
      exact ih _ _ (ev_down hm b1)
set_option maxRecDepth 100000 in
set_option maxHeartbeats 100000 in
theorem ec_note_a_r1 (X : ez_X) (I : Nat → Nat → Int32) (J : Nat → Nat → Int64) (R : Nat → Nat) (T : List ez_C) (t : Int32) (s : Int64) (a : Int32) (d : Int32) (f : Nat → Int32) (g : Nat → Int64) (p : Int32) (cz kz : Nat) : ∀ G : ez_F, fx_up X 2 G 91 21 [.ref 3, .int t, .long s, ez_fill, .int a, .int d, .int p] [] (ev_hp (ev_sI I 5 f) (ev_sJ J 4 g) R T) cz kz = bif decide (p ≤ 0) then G 91 51 [.ref 3, .int t, .long s, ez_fill, .int a, .int d, .int p] [] (ev_hp (ev_sI I 5 f) (ev_sJ J 4 g) R T) cz kz else G 91 26 [.ref 3, .int t, .long s, ez_fill, .int a, .int d, .int p] [] (ev_hp (ev_sI I 5 f) (ev_sJ J 4 g) R T) cz kz := by
  intro G
  rfl
set_option maxRecDepth 100000 in
set_option maxHeartbeats 100000 in
theorem ec_note_a_r2 (X : ez_X) (I : Nat → Nat → Int32) (J : Nat → Nat → Int64) (R : Nat → Nat) (T : List ez_C) (t : Int32) (s : Int64) (a : Int32) (d : Int32) (f : Nat → Int32) (g : Nat → Int64) (p : Int32) (cz kz : Nat) : ∀ G : ez_F, fx_up X 3 G 91 51 [.ref 3, .int t, .long s, ez_fill, .int a, .int d, .int p] [] (ev_hp (ev_sI I 5 f) (ev_sJ J 4 g) R T) cz kz = bif decide (d ≤ p) then G 91 79 [.ref 3, .int t, .long s, ez_fill, .int a, .int d, .int p] [] (ev_hp (ev_sI I 5 f) (ev_sJ J 4 g) R T) cz kz else G 91 58 [.ref 3, .int t, .long s, ez_fill, .int a, .int d, .int p] [] (ev_hp (ev_sI I 5 f) (ev_sJ J 4 g) R T) cz kz := by
  intro G
  rfl
set_option maxRecDepth 100000 in
set_option maxHeartbeats 100000 in
theorem ec_note_a_r3 (X : ez_X) (I : Nat → Nat → Int32) (J : Nat → Nat → Int64) (R : Nat → Nat) (T : List ez_C) (t : Int32) (s : Int64) (a : Int32) (d : Int32) (f : Nat → Int32) (g : Nat → Int64) (p : Int32) (cz kz : Nat) : ∀ G : ez_F, fx_up X 7 G 91 79 [.ref 3, .int t, .long s, ez_fill, .int a, .int d, .int p] [] (ev_hp (ev_sI I 5 f) (ev_sJ J 4 g) R T) cz kz = bif decide (d < 288) then G 91 96 [.ref 3, .int t, .long s, ez_fill, .int a, .int d, .int p, .int 0] [] (ev_hp (ev_sI I 5 f) (ev_sJ J 4 g) R T) cz kz else G 91 95 [.ref 3, .int t, .long s, ez_fill, .int a, .int d, .int p, .int 0] [] (ev_hp (ev_sI I 5 f) (ev_sJ J 4 g) R T) cz kz := by
  intro G
  rfl
set_option maxRecDepth 100000 in
set_option maxHeartbeats 100000 in
theorem ec_note_a_r4 (X : ez_X) (I : Nat → Nat → Int32) (J : Nat → Nat → Int64) (R : Nat → Nat) (T : List ez_C) (t : Int32) (s : Int64) (a : Int32) (d : Int32) (f : Nat → Int32) (g : Nat → Int64) (p : Int32) (cz kz : Nat) : ∀ G : ez_F, fx_up X 2 G 91 96 [.ref 3, .int t, .long s, ez_fill, .int a, .int d, .int p, .int 0] [] (ev_hp (ev_sI I 5 f) (ev_sJ J 4 g) R T) cz kz = G 91 100 [.ref 3, .int t, .long s, ez_fill, .int a, .int d, .int p, .int 0, .int d] [] (ev_hp (ev_sI I 5 f) (ev_sJ J 4 g) R T) cz kz := by
  intro G
  rfl
set_option maxRecDepth 100000 in
set_option maxHeartbeats 100000 in
theorem ec_note_a_r5 (X : ez_X) (I : Nat → Nat → Int32) (J : Nat → Nat → Int64) (R : Nat → Nat) (T : List ez_C) (t : Int32) (s : Int64) (a : Int32) (d : Int32) (f : Nat → Int32) (g : Nat → Int64) (p : Int32) (cz kz : Nat) : ∀ G : ez_F, fx_up X 1 G 91 95 [.ref 3, .int t, .long s, ez_fill, .int a, .int d, .int p, .int 0] [] (ev_hp (ev_sI I 5 f) (ev_sJ J 4 g) R T) cz kz = some (none, (ev_hp (ev_sI I 5 f) (ev_sJ J 4 g) R T), cz, kz) := by
  intro G
  rfl
set_option maxRecDepth 100000 in
set_option maxHeartbeats 100000 in
theorem ec_note_a_r6 (X : ez_X) (I : Nat → Nat → Int32) (J : Nat → Nat → Int64) (R : Nat → Nat) (T : List ez_C) (t : Int32) (s : Int64) (a : Int32) (d : Int32) (f : Nat → Int32) (g : Nat → Int64) (p : Int32) (cz kz : Nat) : ∀ G : ez_F, fx_up X 6 G 91 58 [.ref 3, .int t, .long s, ez_fill, .int a, .int d, .int p] [] (ev_hp (ev_sI I 5 f) (ev_sJ J 4 g) R T) cz kz = ev_C G 4 [.ref 4, .int (a + p)] (ev_hp (ev_sI I 5 f) (ev_sJ J 4 g) R T) fun r h1 c1 k1 => G 91 70 [.ref 3, .int t, .long s, ez_fill, .int a, .int d, .int p] (r.toList ++ []) h1 (cz + c1) (kz + k1) := by
  intro G
  rfl
set_option maxRecDepth 100000 in
set_option maxHeartbeats 100000 in
theorem ec_note_a_r7 (X : ez_X) (I : Nat → Nat → Int32) (J : Nat → Nat → Int64) (R : Nat → Nat) (T : List ez_C) (t : Int32) (s : Int64) (a : Int32) (d : Int32) (f : Nat → Int32) (g : Nat → Int64) (p : Int32) (q6 : Int64) (cz kz : Nat) : ∀ G : ez_F, fx_up X 3 G 91 70 [.ref 3, .int t, .long s, ez_fill, .int a, .int d, .int p] [.long q6] (ev_hp (ev_sI I 5 f) (ev_sJ J 4 g) R T) cz kz = bif decide (¬ (lg_cmp q6 s) = 0) then G 91 79 [.ref 3, .int t, .long s, ez_fill, .int a, .int d, .int p] [] (ev_hp (ev_sI I 5 f) (ev_sJ J 4 g) R T) cz kz else G 91 75 [.ref 3, .int t, .long s, ez_fill, .int a, .int d, .int p] [] (ev_hp (ev_sI I 5 f) (ev_sJ J 4 g) R T) cz kz := by
  intro G
  rfl
set_option maxRecDepth 100000 in
set_option maxHeartbeats 100000 in
theorem ec_note_a_r8 (X : ez_X) (I : Nat → Nat → Int32) (J : Nat → Nat → Int64) (R : Nat → Nat) (T : List ez_C) (t : Int32) (s : Int64) (a : Int32) (d : Int32) (f : Nat → Int32) (g : Nat → Int64) (p : Int32) (q6 : Int64) (cz kz : Nat) : ∀ G : ez_F, fx_up X 7 G 91 79 [.ref 3, .int t, .long s, ez_fill, .int a, .int d, .int p] [] (ev_hp (ev_sI I 5 f) (ev_sJ J 4 g) R T) cz kz = bif decide (d < 288) then G 91 96 [.ref 3, .int t, .long s, ez_fill, .int a, .int d, .int p, .int 0] [] (ev_hp (ev_sI I 5 f) (ev_sJ J 4 g) R T) cz kz else G 91 95 [.ref 3, .int t, .long s, ez_fill, .int a, .int d, .int p, .int 0] [] (ev_hp (ev_sI I 5 f) (ev_sJ J 4 g) R T) cz kz := by
  intro G
  rfl
set_option maxRecDepth 100000 in
set_option maxHeartbeats 100000 in
theorem ec_note_a_r9 (X : ez_X) (I : Nat → Nat → Int32) (J : Nat → Nat → Int64) (R : Nat → Nat) (T : List ez_C) (t : Int32) (s : Int64) (a : Int32) (d : Int32) (f : Nat → Int32) (g : Nat → Int64) (p : Int32) (q6 : Int64) (cz kz : Nat) : ∀ G : ez_F, fx_up X 2 G 91 96 [.ref 3, .int t, .long s, ez_fill, .int a, .int d, .int p, .int 0] [] (ev_hp (ev_sI I 5 f) (ev_sJ J 4 g) R T) cz kz = G 91 100 [.ref 3, .int t, .long s, ez_fill, .int a, .int d, .int p, .int 0, .int d] [] (ev_hp (ev_sI I 5 f) (ev_sJ J 4 g) R T) cz kz := by
  intro G
  rfl
set_option maxRecDepth 100000 in
set_option maxHeartbeats 100000 in
theorem ec_note_a_r10 (X : ez_X) (I : Nat → Nat → Int32) (J : Nat → Nat → Int64) (R : Nat → Nat) (T : List ez_C) (t : Int32) (s : Int64) (a : Int32) (d : Int32) (f : Nat → Int32) (g : Nat → Int64) (p : Int32) (q6 : Int64) (cz kz : Nat) : ∀ G : ez_F, fx_up X 1 G 91 95 [.ref 3, .int t, .long s, ez_fill, .int a, .int d, .int p, .int 0] [] (ev_hp (ev_sI I 5 f) (ev_sJ J 4 g) R T) cz kz = some (none, (ev_hp (ev_sI I 5 f) (ev_sJ J 4 g) R T), cz, kz) := by
  intro G
  rfl
set_option maxRecDepth 100000 in
set_option maxHeartbeats 100000 in
theorem ec_note_a_r11 (X : ez_X) (I : Nat → Nat → Int32) (J : Nat → Nat → Int64) (R : Nat → Nat) (T : List ez_C) (t : Int32) (s : Int64) (a : Int32) (d : Int32) (f : Nat → Int32) (g : Nat → Int64) (p : Int32) (q6 : Int64) (cz kz : Nat) : ∀ G : ez_F, fx_up X 6 G 91 75 [.ref 3, .int t, .long s, ez_fill, .int a, .int d, .int p] [] (ev_hp (ev_sI I 5 f) (ev_sJ J 4 g) R T) cz kz = some (none, (ev_hp (ev_sI I 5 f) (ev_sJ J 4 g) R T), cz, kz) := by
  intro G
  rfl
set_option maxRecDepth 100000 in
set_option maxHeartbeats 100000 in
theorem ec_note_a_r12 (X : ez_X) (I : Nat → Nat → Int32) (J : Nat → Nat → Int64) (R : Nat → Nat) (T : List ez_C) (t : Int32) (s : Int64) (a : Int32) (d : Int32) (f : Nat → Int32) (g : Nat → Int64) (p : Int32) (cz kz : Nat) : ∀ G : ez_F, fx_up X 8 G 91 26 [.ref 3, .int t, .long s, ez_fill, .int a, .int d, .int p] [] (ev_hp (ev_sI I 5 f) (ev_sJ J 4 g) R T) cz kz = ev_C G 4 [.ref 4, .int ((a + p) - (1 : Int32))] (ev_hp (ev_sI I 5 f) (ev_sJ J 4 g) R T) fun r h1 c1 k1 => G 91 40 [.ref 3, .int t, .long s, ez_fill, .int a, .int d, .int p] (r.toList ++ []) h1 (cz + c1) (kz + k1) := by
  intro G
  rfl
set_option maxRecDepth 100000 in
set_option maxHeartbeats 100000 in
theorem ec_note_a_r13 (X : ez_X) (I : Nat → Nat → Int32) (J : Nat → Nat → Int64) (R : Nat → Nat) (T : List ez_C) (t : Int32) (s : Int64) (a : Int32) (d : Int32) (f : Nat → Int32) (g : Nat → Int64) (p : Int32) (q7 : Int64) (cz kz : Nat) : ∀ G : ez_F, fx_up X 3 G 91 40 [.ref 3, .int t, .long s, ez_fill, .int a, .int d, .int p] [.long q7] (ev_hp (ev_sI I 5 f) (ev_sJ J 4 g) R T) cz kz = bif decide ((lg_cmp q7 s) < 0) then G 91 51 [.ref 3, .int t, .long s, ez_fill, .int a, .int d, .int p] [] (ev_hp (ev_sI I 5 f) (ev_sJ J 4 g) R T) cz kz else G 91 45 [.ref 3, .int t, .long s, ez_fill, .int a, .int d, .int p] [] (ev_hp (ev_sI I 5 f) (ev_sJ J 4 g) R T) cz kz := by
  intro G
  rfl
set_option maxRecDepth 100000 in
set_option maxHeartbeats 100000 in
theorem ec_note_a_r14 (X : ez_X) (I : Nat → Nat → Int32) (J : Nat → Nat → Int64) (R : Nat → Nat) (T : List ez_C) (t : Int32) (s : Int64) (a : Int32) (d : Int32) (f : Nat → Int32) (g : Nat → Int64) (p : Int32) (q7 : Int64) (cz kz : Nat) : ∀ G : ez_F, fx_up X 3 G 91 51 [.ref 3, .int t, .long s, ez_fill, .int a, .int d, .int p] [] (ev_hp (ev_sI I 5 f) (ev_sJ J 4 g) R T) cz kz = bif decide (d ≤ p) then G 91 79 [.ref 3, .int t, .long s, ez_fill, .int a, .int d, .int p] [] (ev_hp (ev_sI I 5 f) (ev_sJ J 4 g) R T) cz kz else G 91 58 [.ref 3, .int t, .long s, ez_fill, .int a, .int d, .int p] [] (ev_hp (ev_sI I 5 f) (ev_sJ J 4 g) R T) cz kz := by
  intro G
  rfl
set_option maxRecDepth 100000 in
set_option maxHeartbeats 100000 in
theorem ec_note_a_r15 (X : ez_X) (I : Nat → Nat → Int32) (J : Nat → Nat → Int64) (R : Nat → Nat) (T : List ez_C) (t : Int32) (s : Int64) (a : Int32) (d : Int32) (f : Nat → Int32) (g : Nat → Int64) (p : Int32) (q7 : Int64) (cz kz : Nat) : ∀ G : ez_F, fx_up X 7 G 91 79 [.ref 3, .int t, .long s, ez_fill, .int a, .int d, .int p] [] (ev_hp (ev_sI I 5 f) (ev_sJ J 4 g) R T) cz kz = bif decide (d < 288) then G 91 96 [.ref 3, .int t, .long s, ez_fill, .int a, .int d, .int p, .int 0] [] (ev_hp (ev_sI I 5 f) (ev_sJ J 4 g) R T) cz kz else G 91 95 [.ref 3, .int t, .long s, ez_fill, .int a, .int d, .int p, .int 0] [] (ev_hp (ev_sI I 5 f) (ev_sJ J 4 g) R T) cz kz := by
  intro G
  rfl
set_option maxRecDepth 100000 in
set_option maxHeartbeats 100000 in
theorem ec_note_a_r16 (X : ez_X) (I : Nat → Nat → Int32) (J : Nat → Nat → Int64) (R : Nat → Nat) (T : List ez_C) (t : Int32) (s : Int64) (a : Int32) (d : Int32) (f : Nat → Int32) (g : Nat → Int64) (p : Int32) (q7 : Int64) (cz kz : Nat) : ∀ G : ez_F, fx_up X 2 G 91 96 [.ref 3, .int t, .long s, ez_fill, .int a, .int d, .int p, .int 0] [] (ev_hp (ev_sI I 5 f) (ev_sJ J 4 g) R T) cz kz = G 91 100 [.ref 3, .int t, .long s, ez_fill, .int a, .int d, .int p, .int 0, .int d] [] (ev_hp (ev_sI I 5 f) (ev_sJ J 4 g) R T) cz kz := by
  intro G
  rfl
set_option maxRecDepth 100000 in
set_option maxHeartbeats 100000 in
theorem ec_note_a_r17 (X : ez_X) (I : Nat → Nat → Int32) (J : Nat → Nat → Int64) (R : Nat → Nat) (T : List ez_C) (t : Int32) (s : Int64) (a : Int32) (d : Int32) (f : Nat → Int32) (g : Nat → Int64) (p : Int32) (q7 : Int64) (cz kz : Nat) : ∀ G : ez_F, fx_up X 1 G 91 95 [.ref 3, .int t, .long s, ez_fill, .int a, .int d, .int p, .int 0] [] (ev_hp (ev_sI I 5 f) (ev_sJ J 4 g) R T) cz kz = some (none, (ev_hp (ev_sI I 5 f) (ev_sJ J 4 g) R T), cz, kz) := by
  intro G
  rfl
set_option maxRecDepth 100000 in
set_option maxHeartbeats 100000 in
theorem ec_note_a_r18 (X : ez_X) (I : Nat → Nat → Int32) (J : Nat → Nat → Int64) (R : Nat → Nat) (T : List ez_C) (t : Int32) (s : Int64) (a : Int32) (d : Int32) (f : Nat → Int32) (g : Nat → Int64) (p : Int32) (q7 : Int64) (cz kz : Nat) : ∀ G : ez_F, fx_up X 6 G 91 58 [.ref 3, .int t, .long s, ez_fill, .int a, .int d, .int p] [] (ev_hp (ev_sI I 5 f) (ev_sJ J 4 g) R T) cz kz = ev_C G 4 [.ref 4, .int (a + p)] (ev_hp (ev_sI I 5 f) (ev_sJ J 4 g) R T) fun r h1 c1 k1 => G 91 70 [.ref 3, .int t, .long s, ez_fill, .int a, .int d, .int p] (r.toList ++ []) h1 (cz + c1) (kz + k1) := by
  intro G
  rfl
set_option maxRecDepth 100000 in
set_option maxHeartbeats 100000 in
theorem ec_note_a_r19 (X : ez_X) (I : Nat → Nat → Int32) (J : Nat → Nat → Int64) (R : Nat → Nat) (T : List ez_C) (t : Int32) (s : Int64) (a : Int32) (d : Int32) (f : Nat → Int32) (g : Nat → Int64) (p : Int32) (q7 : Int64) (q8 : Int64) (cz kz : Nat) : ∀ G : ez_F, fx_up X 3 G 91 70 [.ref 3, .int t, .long s, ez_fill, .int a, .int d, .int p] [.long q8] (ev_hp (ev_sI I 5 f) (ev_sJ J 4 g) R T) cz kz = bif decide (¬ (lg_cmp q8 s) = 0) then G 91 79 [.ref 3, .int t, .long s, ez_fill, .int a, .int d, .int p] [] (ev_hp (ev_sI I 5 f) (ev_sJ J 4 g) R T) cz kz else G 91 75 [.ref 3, .int t, .long s, ez_fill, .int a, .int d, .int p] [] (ev_hp (ev_sI I 5 f) (ev_sJ J 4 g) R T) cz kz := by
  intro G
  rfl
set_option maxRecDepth 100000 in
set_option maxHeartbeats 100000 in
theorem ec_note_a_r20 (X : ez_X) (I : Nat → Nat → Int32) (J : Nat → Nat → Int64) (R : Nat → Nat) (T : List ez_C) (t : Int32) (s : Int64) (a : Int32) (d : Int32) (f : Nat → Int32) (g : Nat → Int64) (p : Int32) (q7 : Int64) (q8 : Int64) (cz kz : Nat) : ∀ G : ez_F, fx_up X 7 G 91 79 [.ref 3, .int t, .long s, ez_fill, .int a, .int d, .int p] [] (ev_hp (ev_sI I 5 f) (ev_sJ J 4 g) R T) cz kz = bif decide (d < 288) then G 91 96 [.ref 3, .int t, .long s, ez_fill, .int a, .int d, .int p, .int 0] [] (ev_hp (ev_sI I 5 f) (ev_sJ J 4 g) R T) cz kz else G 91 95 [.ref 3, .int t, .long s, ez_fill, .int a, .int d, .int p, .int 0] [] (ev_hp (ev_sI I 5 f) (ev_sJ J 4 g) R T) cz kz := by
  intro G
  rfl
set_option maxRecDepth 100000 in
set_option maxHeartbeats 100000 in
theorem ec_note_a_r21 (X : ez_X) (I : Nat → Nat → Int32) (J : Nat → Nat → Int64) (R : Nat → Nat) (T : List ez_C) (t : Int32) (s : Int64) (a : Int32) (d : Int32) (f : Nat → Int32) (g : Nat → Int64) (p : Int32) (q7 : Int64) (q8 : Int64) (cz kz : Nat) : ∀ G : ez_F, fx_up X 2 G 91 96 [.ref 3, .int t, .long s, ez_fill, .int a, .int d, .int p, .int 0] [] (ev_hp (ev_sI I 5 f) (ev_sJ J 4 g) R T) cz kz = G 91 100 [.ref 3, .int t, .long s, ez_fill, .int a, .int d, .int p, .int 0, .int d] [] (ev_hp (ev_sI I 5 f) (ev_sJ J 4 g) R T) cz kz := by
  intro G
  rfl
set_option maxRecDepth 100000 in
set_option maxHeartbeats 100000 in
theorem ec_note_a_r22 (X : ez_X) (I : Nat → Nat → Int32) (J : Nat → Nat → Int64) (R : Nat → Nat) (T : List ez_C) (t : Int32) (s : Int64) (a : Int32) (d : Int32) (f : Nat → Int32) (g : Nat → Int64) (p : Int32) (q7 : Int64) (q8 : Int64) (cz kz : Nat) : ∀ G : ez_F, fx_up X 1 G 91 95 [.ref 3, .int t, .long s, ez_fill, .int a, .int d, .int p, .int 0] [] (ev_hp (ev_sI I 5 f) (ev_sJ J 4 g) R T) cz kz = some (none, (ev_hp (ev_sI I 5 f) (ev_sJ J 4 g) R T), cz, kz) := by
  intro G
  rfl
set_option maxRecDepth 100000 in
set_option maxHeartbeats 100000 in
theorem ec_note_a_r23 (X : ez_X) (I : Nat → Nat → Int32) (J : Nat → Nat → Int64) (R : Nat → Nat) (T : List ez_C) (t : Int32) (s : Int64) (a : Int32) (d : Int32) (f : Nat → Int32) (g : Nat → Int64) (p : Int32) (q7 : Int64) (q8 : Int64) (cz kz : Nat) : ∀ G : ez_F, fx_up X 6 G 91 75 [.ref 3, .int t, .long s, ez_fill, .int a, .int d, .int p] [] (ev_hp (ev_sI I 5 f) (ev_sJ J 4 g) R T) cz kz = some (none, (ev_hp (ev_sI I 5 f) (ev_sJ J 4 g) R T), cz, kz) := by
  intro G
  rfl
set_option maxRecDepth 100000 in
set_option maxHeartbeats 100000 in
theorem ec_note_a_r24 (X : ez_X) (I : Nat → Nat → Int32) (J : Nat → Nat → Int64) (R : Nat → Nat) (T : List ez_C) (t : Int32) (s : Int64) (a : Int32) (d : Int32) (f : Nat → Int32) (g : Nat → Int64) (p : Int32) (q7 : Int64) (cz kz : Nat) : ∀ G : ez_F, fx_up X 2 G 91 45 [.ref 3, .int t, .long s, ez_fill, .int a, .int d, .int p] [] (ev_hp (ev_sI I 5 f) (ev_sJ J 4 g) R T) cz kz = G 91 21 [.ref 3, .int t, .long s, ez_fill, .int a, .int d, .int (p + ((-1) : Int32))] [] (ev_hp (ev_sI I 5 f) (ev_sJ J 4 g) R T) cz kz := by
  intro G
  rfl
theorem ec_note_a (X : ez_X) (I : Nat → Nat → Int32) (J : Nat → Nat → Int64) (R : Nat → Nat) (T : List ez_C) (t : Int32) (s : Int64) (a : Int32) (d : Int32) (f : Nat → Int32) (g : Nat → Int64)  : ∀ (n : Nat) (p : Int32), (p.toInt - (0 : Int32).toInt).toNat < n → ev_W X 91 21 [.ref 3, .int t, .long s, ez_fill, .int a, .int d, .int p] [] (ev_hp (ev_sI I 5 f) (ev_sJ J 4 g) R T) 0 0 (fun r h1 c1 k1 => r = none ∧ (∃ f g, h1 = ev_hp (ev_sI I 5 f) (ev_sJ J 4 g) R T) ∧ c1 = 0 ∧ k1 = 0) := by
  intro n
  induction n with
  | zero => intro p hm; exact absurd hm (Nat.not_lt_zero _)
  | succ n ih =>
    intro p hm
    refine ev_if (ec_note_a_r1 X I J R T t s a d f g p _ _) (fun b1 => ?_) (fun b1 => ?_)
    · replace b1 := of_decide_eq_true b1
      refine ev_if (ec_note_a_r2 X I J R T t s a d f g p _ _) (fun b2 => ?_) (fun b2 => ?_)
      · replace b2 := of_decide_eq_true b2
        refine ev_if (ec_note_a_r3 X I J R T t s a d f g p _ _) (fun b3 => ?_) (fun b3 => ?_)
        · replace b3 := of_decide_eq_true b3
          refine ev_seg (ec_note_a_r4 X I J R T t s a d f g p _ _) ?_
          exact ec_note_b X I J R T t s _ _ _ _ _ _ _ _ (Nat.lt_succ_self _)
        · replace b3 := of_decide_eq_false b3
          refine ev_ret (ec_note_a_r5 X I J R T t s a d f g p _ _) ?_
          exact ⟨rfl, ⟨_, _, rfl⟩, rfl, rfl⟩
      · replace b2 := of_decide_eq_false b2
        refine ev_call (ec_note_a_r6 X I J R T t s a d f g p _ _) (ec_atJ X (ev_hp (ev_sI I 5 f) (ev_sJ J 4 g) R T) 864 4 (a + p) g rfl (by decide)) ?_
        rintro _ _ _ _ ⟨rfl, rfl, rfl, rfl⟩
        generalize hq6 : ev_atJ 864 g (a + p) = q6
        refine ev_if (ec_note_a_r7 X I J R T t s a d f g p q6 _ _) (fun b4 => ?_) (fun b4 => ?_)
        · replace b4 := of_decide_eq_true b4
          refine ev_if (ec_note_a_r8 X I J R T t s a d f g p q6 _ _) (fun b5 => ?_) (fun b5 => ?_)
          · replace b5 := of_decide_eq_true b5
            refine ev_seg (ec_note_a_r9 X I J R T t s a d f g p q6 _ _) ?_
            exact ec_note_b X I J R T t s _ _ _ _ _ _ _ _ (Nat.lt_succ_self _)
          · replace b5 := of_decide_eq_false b5
            refine ev_ret (ec_note_a_r10 X I J R T t s a d f g p q6 _ _) ?_
            exact ⟨rfl, ⟨_, _, rfl⟩, rfl, rfl⟩
        · replace b4 := of_decide_eq_false b4
          refine ev_ret (ec_note_a_r11 X I J R T t s a d f g p q6 _ _) ?_
          exact ⟨rfl, ⟨_, _, rfl⟩, rfl, rfl⟩
    · replace b1 := of_decide_eq_false b1
      refine ev_call (ec_note_a_r12 X I J R T t s a d f g p _ _) (ec_atJ X (ev_hp (ev_sI I 5 f) (ev_sJ J 4 g) R T) 864 4 ((a + p) - (1 : Int32)) g rfl (by decide)) ?_
      rintro _ _ _ _ ⟨rfl, rfl, rfl, rfl⟩
      generalize hq7 : ev_atJ 864 g ((a + p) - (1 : Int32)) = q7
      refine ev_if (ec_note_a_r13 X I J R T t s a d f g p q7 _ _) (fun b6 => ?_) (fun b6 => ?_)
      · replace b6 := of_decide_eq_true b6
        refine ev_if (ec_note_a_r14 X I J R T t s a d f g p q7 _ _) (fun b7 => ?_) (fun b7 => ?_)
        · replace b7 := of_decide_eq_true b7
          refine ev_if (ec_note_a_r15 X I J R T t s a d f g p q7 _ _) (fun b8 => ?_) (fun b8 => ?_)
          · replace b8 := of_decide_eq_true b8
            refine ev_seg (ec_note_a_r16 X I J R T t s a d f g p q7 _ _) ?_
            exact ec_note_b X I J R T t s _ _ _ _ _ _ _ _ (Nat.lt_succ_self _)
          · replace b8 := of_decide_eq_false b8
            refine ev_ret (ec_note_a_r17 X I J R T t s a d f g p q7 _ _) ?_
            exact ⟨rfl, ⟨_, _, rfl⟩, rfl, rfl⟩
        · replace b7 := of_decide_eq_false b7
          refine ev_call (ec_note_a_r18 X I J R T t s a d f g p q7 _ _) (ec_atJ X (ev_hp (ev_sI I 5 f) (ev_sJ J 4 g) R T) 864 4 (a + p) g rfl (by decide)) ?_
          rintro _ _ _ _ ⟨rfl, rfl, rfl, rfl⟩
          generalize hq8 : ev_atJ 864 g (a + p) = q8
          refine ev_if (ec_note_a_r19 X I J R T t s a d f g p q7 q8 _ _) (fun b9 => ?_) (fun b9 => ?_)
          · replace b9 := of_decide_eq_true b9
            refine ev_if (ec_note_a_r20 X I J R T t s a d f g p q7 q8 _ _) (fun b10 => ?_) (fun b10 => ?_)
            · replace b10 := of_decide_eq_true b10
              refine ev_seg (ec_note_a_r21 X I J R T t s a d f g p q7 q8 _ _) ?_
              exact ec_note_b X I J R T t s _ _ _ _ _ _ _ _ (Nat.lt_succ_self _)
            · replace b10 := of_decide_eq_false b10
              refine ev_ret (ec_note_a_r22 X I J R T t s a d f g p q7 q8 _ _) ?_
              exact ⟨rfl, ⟨_, _, rfl⟩, rfl, rfl⟩
          · replace b9 := of_decide_eq_false b9
            refine ev_ret (ec_note_a_r23 X I J R T t s a d f g p q7 q8 _ _) ?_
            exact ⟨rfl, ⟨_, _, rfl⟩, rfl, rfl⟩
      · replace b6 := of_decide_eq_false b6
        refine ev_seg (ec_note_a_r24 X I J R T t s a d f g p q7 _ _) ?_
        exact ih _ (ev_down hm b1)
set_option maxRecDepth 100000 in
set_option maxHeartbeats 100000 in
theorem ec_note_r1 (X : ez_X) (I : Nat → Nat → Int32) (J : Nat → Nat → Int64) (R : Nat → Nat) (T : List ez_C) (t : Int32) (s : Int64) (f : Nat → Int32) (g : Nat → Int64) (cz kz : Nat) : ∀ G : ez_F, fx_up X 8 G 91 0 [.ref 3, .int t, .long s, ez_fill] [] (ev_hp (ev_sI I 5 f) (ev_sJ J 4 g) R T) cz kz = ev_C G 3 [.ref 5, .int t] (ev_hp (ev_sI I 5 f) (ev_sJ J 4 g) R T) fun r h1 c1 k1 => G 91 15 [.ref 3, .int t, .long s, ez_fill, .int ((288 : Int32) * t)] (r.toList ++ []) h1 (cz + c1) (kz + k1) := by
  intro G
  rfl
set_option maxRecDepth 100000 in
set_option maxHeartbeats 100000 in
theorem ec_note_r2 (X : ez_X) (I : Nat → Nat → Int32) (J : Nat → Nat → Int64) (R : Nat → Nat) (T : List ez_C) (t : Int32) (s : Int64) (f : Nat → Int32) (g : Nat → Int64) (q9 : Int32) (cz kz : Nat) : ∀ G : ez_F, fx_up X 3 G 91 15 [.ref 3, .int t, .long s, ez_fill, .int ((288 : Int32) * t)] [.int q9] (ev_hp (ev_sI I 5 f) (ev_sJ J 4 g) R T) cz kz = G 91 21 [.ref 3, .int t, .long s, ez_fill, .int ((288 : Int32) * t), .int q9, .int q9] [] (ev_hp (ev_sI I 5 f) (ev_sJ J 4 g) R T) cz kz := by
  intro G
  rfl
theorem ec_note (X : ez_X) (I : Nat → Nat → Int32) (J : Nat → Nat → Int64) (R : Nat → Nat) (T : List ez_C) (t : Int32) (s : Int64) (f : Nat → Int32) (g : Nat → Int64)  : ev_W X 91 0 (ez_lay [.ref 3, .int t, .long s]) [] (ev_hp (ev_sI I 5 f) (ev_sJ J 4 g) R T) 0 0 (fun r h1 c1 k1 => r = none ∧ (∃ f g, h1 = ev_hp (ev_sI I 5 f) (ev_sJ J 4 g) R T) ∧ c1 = 0 ∧ k1 = 0) := by
  refine ev_call (ec_note_r1 X I J R T t s f g _ _) (ec_at X (ev_hp (ev_sI I 5 f) (ev_sJ J 4 g) R T) 3 5 t f rfl (by decide)) ?_
  rintro _ _ _ _ ⟨rfl, rfl, rfl, rfl⟩
  generalize hq9 : ev_at 3 f t = q9
  refine ev_seg (ec_note_r2 X I J R T t s f g q9 _ _) ?_
  exact ec_note_a X I J R T t s _ _ _ _ _ _ (Nat.lt_succ_self _)
set_option maxRecDepth 100000 in
set_option maxHeartbeats 100000 in
theorem ec_nev_r_r1 (X : ez_X) (I : Nat → Nat → Int32) (J : Nat → Nat → Int64) (R : Nat → Nat) (T : List ez_C) (t : Int32) (s : Int32) (d : Int32) (i : Int32) (f : Nat → Int32) (g : Nat → Int64) (cz kz : Nat) : ∀ G : ez_F, fx_up X 5 G 92 18 [.ref 3, .int t, .int s, .int d, .int i] [] (ev_hp (ev_sI I 5 f) (ev_sJ J 4 g) R T) cz kz = bif decide ((I 1 3) ≤ i) then G 92 63 [.ref 3, .int t, .int s, .int d, .int i] [] (ev_hp (ev_sI I 5 f) (ev_sJ J 4 g) R T) cz kz else G 92 30 [.ref 3, .int t, .int s, .int d, .int i] [] (ev_hp (ev_sI I 5 f) (ev_sJ J 4 g) R T) cz kz := by
  intro G
  rfl
set_option maxRecDepth 100000 in
set_option maxHeartbeats 100000 in
theorem ec_nev_r_r2 (X : ez_X) (I : Nat → Nat → Int32) (J : Nat → Nat → Int64) (R : Nat → Nat) (T : List ez_C) (t : Int32) (s : Int32) (d : Int32) (i : Int32) (f : Nat → Int32) (g : Nat → Int64) (cz kz : Nat) : ∀ G : ez_F, fx_up X 2 G 92 63 [.ref 3, .int t, .int s, .int d, .int i] [] (ev_hp (ev_sI I 5 f) (ev_sJ J 4 g) R T) cz kz = G 92 3 [.ref 3, .int t, .int s, .int (d + (1 : Int32)), .int i] [] (ev_hp (ev_sI I 5 f) (ev_sJ J 4 g) R T) cz kz := by
  intro G
  rfl
set_option maxRecDepth 100000 in
set_option maxHeartbeats 100000 in
theorem ec_nev_r_r3 (X : ez_X) (I : Nat → Nat → Int32) (J : Nat → Nat → Int64) (R : Nat → Nat) (T : List ez_C) (t : Int32) (s : Int32) (d : Int32) (i : Int32) (f : Nat → Int32) (g : Nat → Int64) (cz kz : Nat) : ∀ G : ez_F, fx_up X 6 G 92 30 [.ref 3, .int t, .int s, .int d, .int i] [] (ev_hp (ev_sI I 5 f) (ev_sJ J 4 g) R T) cz kz = ev_C G 149 [.ref 1, .int s, .int i, .int d] (ev_hp (ev_sI I 5 f) (ev_sJ J 4 g) R T) fun r h1 c1 k1 => G 92 41 [.ref 3, .int t, .int s, .int d, .int i] (r.toList ++ []) h1 (cz + c1) (kz + k1) := by
  intro G
  rfl
set_option maxRecDepth 100000 in
set_option maxHeartbeats 100000 in
theorem ec_nev_r_r4 (X : ez_X) (I : Nat → Nat → Int32) (J : Nat → Nat → Int64) (R : Nat → Nat) (T : List ez_C) (t : Int32) (s : Int32) (d : Int32) (i : Int32) (f : Nat → Int32) (g : Nat → Int64) (v4 : Int64) (cz kz : Nat) : ∀ G : ez_F, fx_up X 5 G 92 41 [.ref 3, .int t, .int s, .int d, .int i] [.long v4] (ev_hp (ev_sI I 5 f) (ev_sJ J 4 g) R T) cz kz = bif decide ((lg_cmp v4 0) = 0) then G 92 57 [.ref 3, .int t, .int s, .int d, .int i, .long v4, ez_fill] [] (ev_hp (ev_sI I 5 f) (ev_sJ J 4 g) R T) cz kz else G 92 50 [.ref 3, .int t, .int s, .int d, .int i, .long v4, ez_fill] [] (ev_hp (ev_sI I 5 f) (ev_sJ J 4 g) R T) cz kz := by
  intro G
  rfl
set_option maxRecDepth 100000 in
set_option maxHeartbeats 100000 in
theorem ec_nev_r_r5 (X : ez_X) (I : Nat → Nat → Int32) (J : Nat → Nat → Int64) (R : Nat → Nat) (T : List ez_C) (t : Int32) (s : Int32) (d : Int32) (i : Int32) (f : Nat → Int32) (g : Nat → Int64) (v4 : Int64) (cz kz : Nat) : ∀ G : ez_F, fx_up X 2 G 92 57 [.ref 3, .int t, .int s, .int d, .int i, .long v4, ez_fill] [] (ev_hp (ev_sI I 5 f) (ev_sJ J 4 g) R T) cz kz = G 92 18 [.ref 3, .int t, .int s, .int d, .int (i + (1 : Int32)), .long v4, ez_fill] [] (ev_hp (ev_sI I 5 f) (ev_sJ J 4 g) R T) cz kz := by
  intro G
  rfl
set_option maxRecDepth 100000 in
set_option maxHeartbeats 100000 in
theorem ec_nev_r_r6 (X : ez_X) (I : Nat → Nat → Int32) (J : Nat → Nat → Int64) (R : Nat → Nat) (T : List ez_C) (t : Int32) (s : Int32) (d : Int32) (i : Int32) (f : Nat → Int32) (g : Nat → Int64) (v4 : Int64) (cz kz : Nat) : ∀ G : ez_F, fx_up X 4 G 92 50 [.ref 3, .int t, .int s, .int d, .int i, .long v4, ez_fill] [] (ev_hp (ev_sI I 5 f) (ev_sJ J 4 g) R T) cz kz = ev_C G 91 [.ref 3, .int t, .long v4] (ev_hp (ev_sI I 5 f) (ev_sJ J 4 g) R T) fun r h1 c1 k1 => G 92 57 [.ref 3, .int t, .int s, .int d, .int i, .long v4, ez_fill] (r.toList ++ []) h1 (cz + c1) (kz + k1) := by
  intro G
  rfl
set_option maxRecDepth 100000 in
set_option maxHeartbeats 100000 in
theorem ec_nev_r_r7 (X : ez_X) (I : Nat → Nat → Int32) (J : Nat → Nat → Int64) (R : Nat → Nat) (T : List ez_C) (t : Int32) (s : Int32) (d : Int32) (i : Int32) (f : Nat → Int32) (g : Nat → Int64) (v4 : Int64) (f5 : Nat → Int32) (g6 : Nat → Int64) (cz kz : Nat) : ∀ G : ez_F, fx_up X 2 G 92 57 [.ref 3, .int t, .int s, .int d, .int i, .long v4, ez_fill] [] (ev_hp (ev_sI I 5 f5) (ev_sJ J 4 g6) R T) cz kz = G 92 18 [.ref 3, .int t, .int s, .int d, .int (i + (1 : Int32)), .long v4, ez_fill] [] (ev_hp (ev_sI I 5 f5) (ev_sJ J 4 g6) R T) cz kz := by
  intro G
  rfl
theorem ec_nev_r (X : ez_X) (I : Nat → Nat → Int32) (J : Nat → Nat → Int64) (R : Nat → Nat) (T : List ez_C) (t : Int32) (s : Int32) (d : Int32) (kk : ∀ f g, ev_W X 92 3 [.ref 3, .int t, .int s, .int (d + 1)] [] (ev_hp (ev_sI I 5 f) (ev_sJ J 4 g) R T) 0 0 (fun r h1 c1 k1 => r = none ∧ (∃ f g, h1 = ev_hp (ev_sI I 5 f) (ev_sJ J 4 g) R T) ∧ c1 = 0 ∧ k1 = 0)) : ∀ (n : Nat) (i : Int32) (f : Nat → Int32) (g : Nat → Int64), ((I 1 3).toInt - i.toInt).toNat < n → ev_W X 92 18 [.ref 3, .int t, .int s, .int d, .int i] [] (ev_hp (ev_sI I 5 f) (ev_sJ J 4 g) R T) 0 0 (fun r h1 c1 k1 => r = none ∧ (∃ f g, h1 = ev_hp (ev_sI I 5 f) (ev_sJ J 4 g) R T) ∧ c1 = 0 ∧ k1 = 0) := by
  intro n
  induction n with
  | zero => intro i f g hm; exact absurd hm (Nat.not_lt_zero _)
  | succ n ih =>
    intro i f g hm
    refine ev_if (ec_nev_r_r1 X I J R T t s d i f g _ _) (fun b1 => ?_) (fun b1 => ?_)
    · replace b1 := of_decide_eq_true b1
      refine ev_seg (ec_nev_r_r2 X I J R T t s d i f g _ _) ?_
      refine ev_cutl (by rfl) ?_
      exact kk _ _
    · replace b1 := of_decide_eq_false b1
      refine ev_call (ec_nev_r_r3 X I J R T t s d i f g _ _) (ec_placed X (ev_sI I 5 f) (ev_sJ J 4 g) R T s i d) ?_
      rintro _ _ _ _ ⟨⟨v4, rfl⟩, rfl, rfl, rfl⟩
      refine ev_if (ec_nev_r_r4 X I J R T t s d i f g v4 _ _) (fun b2 => ?_) (fun b2 => ?_)
      · replace b2 := of_decide_eq_true b2
        refine ev_seg (ec_nev_r_r5 X I J R T t s d i f g v4 _ _) ?_
        refine ev_cutl (by rfl) ?_
        exact ih _ _ _ (ev_up hm b1)
      · replace b2 := of_decide_eq_false b2
        refine ev_call (ec_nev_r_r6 X I J R T t s d i f g v4 _ _) (ec_note X I J R T t v4 f g) ?_
        rintro _ _ _ _ ⟨rfl, ⟨f5, g6, rfl⟩, rfl, rfl⟩
        refine ev_seg (ec_nev_r_r7 X I J R T t s d i f g v4 f5 g6 _ _) ?_
        refine ev_cutl (by rfl) ?_
        exact ih _ _ _ (ev_up hm b1)
set_option maxRecDepth 100000 in
set_option maxHeartbeats 100000 in
theorem ec_nev_d_r1 (X : ez_X) (I : Nat → Nat → Int32) (J : Nat → Nat → Int64) (R : Nat → Nat) (T : List ez_C) (t : Int32) (s : Int32) (i : Int32) (f : Nat → Int32) (g : Nat → Int64) (cz kz : Nat) : ∀ G : ez_F, fx_up X 5 G 92 3 [.ref 3, .int t, .int s, .int i] [] (ev_hp (ev_sI I 5 f) (ev_sJ J 4 g) R T) cz kz = bif decide ((I 1 4) ≤ i) then G 92 69 [.ref 3, .int t, .int s, .int i] [] (ev_hp (ev_sI I 5 f) (ev_sJ J 4 g) R T) cz kz else G 92 14 [.ref 3, .int t, .int s, .int i] [] (ev_hp (ev_sI I 5 f) (ev_sJ J 4 g) R T) cz kz := by
  intro G
  rfl
set_option maxRecDepth 100000 in
set_option maxHeartbeats 100000 in
theorem ec_nev_d_r2 (X : ez_X) (I : Nat → Nat → Int32) (J : Nat → Nat → Int64) (R : Nat → Nat) (T : List ez_C) (t : Int32) (s : Int32) (i : Int32) (f : Nat → Int32) (g : Nat → Int64) (cz kz : Nat) : ∀ G : ez_F, fx_up X 1 G 92 69 [.ref 3, .int t, .int s, .int i] [] (ev_hp (ev_sI I 5 f) (ev_sJ J 4 g) R T) cz kz = some (none, (ev_hp (ev_sI I 5 f) (ev_sJ J 4 g) R T), cz, kz) := by
  intro G
  rfl
set_option maxRecDepth 100000 in
set_option maxHeartbeats 100000 in
theorem ec_nev_d_r3 (X : ez_X) (I : Nat → Nat → Int32) (J : Nat → Nat → Int64) (R : Nat → Nat) (T : List ez_C) (t : Int32) (s : Int32) (i : Int32) (f : Nat → Int32) (g : Nat → Int64) (cz kz : Nat) : ∀ G : ez_F, fx_up X 2 G 92 14 [.ref 3, .int t, .int s, .int i] [] (ev_hp (ev_sI I 5 f) (ev_sJ J 4 g) R T) cz kz = G 92 18 [.ref 3, .int t, .int s, .int i, .int (-3)] [] (ev_hp (ev_sI I 5 f) (ev_sJ J 4 g) R T) cz kz := by
  intro G
  rfl
theorem ec_nev_d (X : ez_X) (I : Nat → Nat → Int32) (J : Nat → Nat → Int64) (R : Nat → Nat) (T : List ez_C) (t : Int32) (s : Int32)  : ∀ (n : Nat) (i : Int32) (f : Nat → Int32) (g : Nat → Int64), ((I 1 4).toInt - i.toInt).toNat < n → ev_W X 92 3 [.ref 3, .int t, .int s, .int i] [] (ev_hp (ev_sI I 5 f) (ev_sJ J 4 g) R T) 0 0 (fun r h1 c1 k1 => r = none ∧ (∃ f g, h1 = ev_hp (ev_sI I 5 f) (ev_sJ J 4 g) R T) ∧ c1 = 0 ∧ k1 = 0) := by
  intro n
  induction n with
  | zero => intro i f g hm; exact absurd hm (Nat.not_lt_zero _)
  | succ n ih =>
    intro i f g hm
    refine ev_if (ec_nev_d_r1 X I J R T t s i f g _ _) (fun b1 => ?_) (fun b1 => ?_)
    · replace b1 := of_decide_eq_true b1
      refine ev_ret (ec_nev_d_r2 X I J R T t s i f g _ _) ?_
      exact ⟨rfl, ⟨_, _, rfl⟩, rfl, rfl⟩
    · replace b1 := of_decide_eq_false b1
      refine ev_seg (ec_nev_d_r3 X I J R T t s i f g _ _) ?_
      exact ec_nev_r X I J R T t s i (fun f g => ih _ f g (ev_up hm b1)) _ _ _ _ (Nat.lt_succ_self _)
set_option maxRecDepth 100000 in
set_option maxHeartbeats 100000 in
theorem ec_nev_r1 (X : ez_X) (I : Nat → Nat → Int32) (J : Nat → Nat → Int64) (R : Nat → Nat) (T : List ez_C) (t : Int32) (s : Int32) (f : Nat → Int32) (g : Nat → Int64) (cz kz : Nat) : ∀ G : ez_F, fx_up X 2 G 92 0 [.ref 3, .int t, .int s] [] (ev_hp (ev_sI I 5 f) (ev_sJ J 4 g) R T) cz kz = G 92 3 [.ref 3, .int t, .int s, .int (-3)] [] (ev_hp (ev_sI I 5 f) (ev_sJ J 4 g) R T) cz kz := by
  intro G
  rfl
theorem ec_nev (X : ez_X) (I : Nat → Nat → Int32) (J : Nat → Nat → Int64) (R : Nat → Nat) (T : List ez_C) (t : Int32) (s : Int32) (f : Nat → Int32) (g : Nat → Int64)  : ev_W X 92 0 (ez_lay [.ref 3, .int t, .int s]) [] (ev_hp (ev_sI I 5 f) (ev_sJ J 4 g) R T) 0 0 (fun r h1 c1 k1 => r = none ∧ (∃ f g, h1 = ev_hp (ev_sI I 5 f) (ev_sJ J 4 g) R T) ∧ c1 = 0 ∧ k1 = 0) := by
  refine ev_seg (ec_nev_r1 X I J R T t s f g _ _) ?_
  exact ec_nev_d X I J R T t s _ _ _ _ (Nat.lt_succ_self _)
set_option maxRecDepth 100000 in
set_option maxHeartbeats 100000 in
theorem ec_qt_l_r1 (X : ez_X) (h : ez_H) (s : Int32) (t : Int32) (i : Int32) (cz kz : Nat) : ∀ G : ez_F, fx_up X 3 G 93 4 [.int s, .int t, .int i] [] h cz kz = bif decide (16 ≤ i) then G 93 38 [.int s, .int t, .int i] [] h cz kz else G 93 10 [.int s, .int t, .int i] [] h cz kz := by
  intro G
  rfl
set_option maxRecDepth 100000 in
set_option maxHeartbeats 100000 in
theorem ec_qt_l_r2 (X : ez_X) (h : ez_H) (s : Int32) (t : Int32) (i : Int32) (cz kz : Nat) : ∀ G : ez_F, fx_up X 2 G 93 38 [.int s, .int t, .int i] [] h cz kz = some (some (.int t), h, cz, kz) := by
  intro G
  rfl
set_option maxRecDepth 100000 in
set_option maxHeartbeats 100000 in
theorem ec_qt_l_r3 (X : ez_X) (h : ez_H) (s : Int32) (t : Int32) (i : Int32) (cz kz : Nat) : ∀ G : ez_F, fx_up X 24 G 93 10 [.int s, .int t, .int i] [] h cz kz = G 93 4 [.int s, .int (t ||| (((s >>> (i &&& 31)) &&& (1 : Int32)) <<< (((((4 : Int32) * (i &&& (3 : Int32))) + (3 : Int32)) - (i >>> 2)) &&& 31))), .int (i + (1 : Int32)), .int ((((4 : Int32) * (i &&& (3 : Int32))) + (3 : Int32)) - (i >>> 2))] [] h cz kz := by
  intro G
  rfl
theorem ec_qt_l (X : ez_X) (h : ez_H) (s : Int32)  : ∀ (n : Nat) (t : Int32) (i : Int32), ((16 : Int32).toInt - i.toInt).toNat < n → ev_W X 93 4 [.int s, .int t, .int i] [] h 0 0 (ev_anyI h) := by
  intro n
  induction n with
  | zero => intro t i hm; exact absurd hm (Nat.not_lt_zero _)
  | succ n ih =>
    intro t i hm
    refine ev_if (ec_qt_l_r1 X h s t i _ _) (fun b1 => ?_) (fun b1 => ?_)
    · replace b1 := of_decide_eq_true b1
      refine ev_ret (ec_qt_l_r2 X h s t i _ _) ?_
      exact ⟨⟨_, rfl⟩, rfl, rfl, rfl⟩
    · replace b1 := of_decide_eq_false b1
      refine ev_seg (ec_qt_l_r3 X h s t i _ _) ?_
      refine ev_cutl (by rfl) ?_
      exact ih _ _ (ev_up hm b1)
set_option maxRecDepth 100000 in
set_option maxHeartbeats 100000 in
theorem ec_qt_r1 (X : ez_X) (h : ez_H) (s : Int32) (cz kz : Nat) : ∀ G : ez_F, fx_up X 4 G 93 0 [.int s] [] h cz kz = G 93 4 [.int s, .int 0, .int 0] [] h cz kz := by
  intro G
  rfl
theorem ec_qt (X : ez_X) (h : ez_H) (s : Int32)  : ev_W X 93 0 (ez_lay [.int s]) [] h 0 0 (ev_anyI h) := by
  refine ev_seg (ec_qt_r1 X h s _ _) ?_
  exact ec_qt_l X h s _ _ _ (Nat.lt_succ_self _)
set_option maxRecDepth 100000 in
set_option maxHeartbeats 100000 in
theorem ec_mir_l_r1 (X : ez_X) (h : ez_H) (s : Int32) (t : Int32) (i : Int32) (cz kz : Nat) : ∀ G : ez_F, fx_up X 3 G 90 4 [.int s, .int t, .int i] [] h cz kz = bif decide (16 ≤ i) then G 90 28 [.int s, .int t, .int i] [] h cz kz else G 90 10 [.int s, .int t, .int i] [] h cz kz := by
  intro G
  rfl
set_option maxRecDepth 100000 in
set_option maxHeartbeats 100000 in
theorem ec_mir_l_r2 (X : ez_X) (h : ez_H) (s : Int32) (t : Int32) (i : Int32) (cz kz : Nat) : ∀ G : ez_F, fx_up X 2 G 90 28 [.int s, .int t, .int i] [] h cz kz = some (some (.int t), h, cz, kz) := by
  intro G
  rfl
set_option maxRecDepth 100000 in
set_option maxHeartbeats 100000 in
theorem ec_mir_l_r3 (X : ez_X) (h : ez_H) (s : Int32) (t : Int32) (i : Int32) (cz kz : Nat) : ∀ G : ez_F, fx_up X 14 G 90 10 [.int s, .int t, .int i] [] h cz kz = G 90 4 [.int s, .int (t ||| (((s >>> (i &&& 31)) &&& (1 : Int32)) <<< ((i ^^^ (3 : Int32)) &&& 31))), .int (i + (1 : Int32))] [] h cz kz := by
  intro G
  rfl
theorem ec_mir_l (X : ez_X) (h : ez_H) (s : Int32)  : ∀ (n : Nat) (t : Int32) (i : Int32), ((16 : Int32).toInt - i.toInt).toNat < n → ev_W X 90 4 [.int s, .int t, .int i] [] h 0 0 (ev_anyI h) := by
  intro n
  induction n with
  | zero => intro t i hm; exact absurd hm (Nat.not_lt_zero _)
  | succ n ih =>
    intro t i hm
    refine ev_if (ec_mir_l_r1 X h s t i _ _) (fun b1 => ?_) (fun b1 => ?_)
    · replace b1 := of_decide_eq_true b1
      refine ev_ret (ec_mir_l_r2 X h s t i _ _) ?_
      exact ⟨⟨_, rfl⟩, rfl, rfl, rfl⟩
    · replace b1 := of_decide_eq_false b1
      refine ev_seg (ec_mir_l_r3 X h s t i _ _) ?_
      exact ih _ _ (ev_up hm b1)
set_option maxRecDepth 100000 in
set_option maxHeartbeats 100000 in
theorem ec_mir_r1 (X : ez_X) (h : ez_H) (s : Int32) (cz kz : Nat) : ∀ G : ez_F, fx_up X 4 G 90 0 [.int s] [] h cz kz = G 90 4 [.int s, .int 0, .int 0] [] h cz kz := by
  intro G
  rfl
theorem ec_mir (X : ez_X) (h : ez_H) (s : Int32)  : ev_W X 90 0 (ez_lay [.int s]) [] h 0 0 (ev_anyI h) := by
  refine ev_seg (ec_mir_r1 X h s _ _) ?_
  exact ec_mir_l X h s _ _ _ (Nat.lt_succ_self _)
set_option maxRecDepth 100000 in
set_option maxHeartbeats 100000 in
theorem ec_build_q_r1 (X : ez_X) (I : Nat → Nat → Int32) (J : Nat → Nat → Int64) (R : Nat → Nat) (T : List ez_C) (s0 : Int32) (u : Int32) (w : Int32) (d : Int32) (s : Int32) (i : Int32) (f : Nat → Int32) (g : Nat → Int64) (cz kz : Nat) : ∀ G : ez_F, fx_up X 3 G 85 38 [.ref 3, .int s0, .int u, .int w, .int s, .int d, .int i] [] (ev_hp (ev_sI I 5 f) (ev_sJ J 4 g) R T) cz kz = bif decide (¬ u = 0) then G 85 48 [.ref 3, .int s0, .int u, .int w, .int s, .int d, .int i] [.int i] (ev_hp (ev_sI I 5 f) (ev_sJ J 4 g) R T) cz kz else G 85 44 [.ref 3, .int s0, .int u, .int w, .int s, .int d, .int i] [.int i] (ev_hp (ev_sI I 5 f) (ev_sJ J 4 g) R T) cz kz := by
  intro G
  rfl
set_option maxRecDepth 100000 in
set_option maxHeartbeats 100000 in
theorem ec_build_q_r2 (X : ez_X) (I : Nat → Nat → Int32) (J : Nat → Nat → Int64) (R : Nat → Nat) (T : List ez_C) (s0 : Int32) (u : Int32) (w : Int32) (d : Int32) (s : Int32) (i : Int32) (f : Nat → Int32) (g : Nat → Int64) (cz kz : Nat) : ∀ G : ez_F, fx_up X 2 G 85 48 [.ref 3, .int s0, .int u, .int w, .int s, .int d, .int i] [.int i] (ev_hp (ev_sI I 5 f) (ev_sJ J 4 g) R T) cz kz = bif decide (4 ≤ i) then G 85 72 [.ref 3, .int s0, .int u, .int w, .int s, .int d, .int i] [] (ev_hp (ev_sI I 5 f) (ev_sJ J 4 g) R T) cz kz else G 85 52 [.ref 3, .int s0, .int u, .int w, .int s, .int d, .int i] [] (ev_hp (ev_sI I 5 f) (ev_sJ J 4 g) R T) cz kz := by
  intro G
  rfl
set_option maxRecDepth 100000 in
set_option maxHeartbeats 100000 in
theorem ec_build_q_r3 (X : ez_X) (I : Nat → Nat → Int32) (J : Nat → Nat → Int64) (R : Nat → Nat) (T : List ez_C) (s0 : Int32) (u : Int32) (w : Int32) (d : Int32) (s : Int32) (i : Int32) (f : Nat → Int32) (g : Nat → Int64) (cz kz : Nat) : ∀ G : ez_F, fx_up X 2 G 85 72 [.ref 3, .int s0, .int u, .int w, .int s, .int d, .int i] [] (ev_hp (ev_sI I 5 f) (ev_sJ J 4 g) R T) cz kz = ev_C G 90 [.int s] (ev_hp (ev_sI I 5 f) (ev_sJ J 4 g) R T) fun r h1 c1 k1 => G 85 77 [.ref 3, .int s0, .int u, .int w, .int s, .int d, .int i] (r.toList ++ []) h1 (cz + c1) (kz + k1) := by
  intro G
  rfl
set_option maxRecDepth 100000 in
set_option maxHeartbeats 100000 in
theorem ec_build_q_r4 (X : ez_X) (I : Nat → Nat → Int32) (J : Nat → Nat → Int64) (R : Nat → Nat) (T : List ez_C) (s0 : Int32) (u : Int32) (w : Int32) (d : Int32) (s : Int32) (i : Int32) (f : Nat → Int32) (g : Nat → Int64) (v7 : Int32) (cz kz : Nat) : ∀ G : ez_F, fx_up X 3 G 85 77 [.ref 3, .int s0, .int u, .int w, .int s, .int d, .int i] [.int v7] (ev_hp (ev_sI I 5 f) (ev_sJ J 4 g) R T) cz kz = G 85 20 [.ref 3, .int s0, .int u, .int w, .int v7, .int (d + (1 : Int32)), .int i] [] (ev_hp (ev_sI I 5 f) (ev_sJ J 4 g) R T) cz kz := by
  intro G
  rfl
set_option maxRecDepth 100000 in
set_option maxHeartbeats 100000 in
theorem ec_build_q_r5 (X : ez_X) (I : Nat → Nat → Int32) (J : Nat → Nat → Int64) (R : Nat → Nat) (T : List ez_C) (s0 : Int32) (u : Int32) (w : Int32) (d : Int32) (s : Int32) (i : Int32) (f : Nat → Int32) (g : Nat → Int64) (cz kz : Nat) : ∀ G : ez_F, fx_up X 4 G 85 52 [.ref 3, .int s0, .int u, .int w, .int s, .int d, .int i] [] (ev_hp (ev_sI I 5 f) (ev_sJ J 4 g) R T) cz kz = ev_C G 92 [.ref 3, .int w, .int s] (ev_hp (ev_sI I 5 f) (ev_sJ J 4 g) R T) fun r h1 c1 k1 => G 85 59 [.ref 3, .int s0, .int u, .int w, .int s, .int d, .int i] (r.toList ++ []) h1 (cz + c1) (kz + k1) := by
  intro G
  rfl
set_option maxRecDepth 100000 in
set_option maxHeartbeats 100000 in
theorem ec_build_q_r6 (X : ez_X) (I : Nat → Nat → Int32) (J : Nat → Nat → Int64) (R : Nat → Nat) (T : List ez_C) (s0 : Int32) (u : Int32) (w : Int32) (d : Int32) (s : Int32) (i : Int32) (f : Nat → Int32) (g : Nat → Int64) (f8 : Nat → Int32) (g9 : Nat → Int64) (cz kz : Nat) : ∀ G : ez_F, fx_up X 2 G 85 59 [.ref 3, .int s0, .int u, .int w, .int s, .int d, .int i] [] (ev_hp (ev_sI I 5 f8) (ev_sJ J 4 g9) R T) cz kz = ev_C G 93 [.int s] (ev_hp (ev_sI I 5 f8) (ev_sJ J 4 g9) R T) fun r h1 c1 k1 => G 85 64 [.ref 3, .int s0, .int u, .int w, .int s, .int d, .int i] (r.toList ++ []) h1 (cz + c1) (kz + k1) := by
  intro G
  rfl
set_option maxRecDepth 100000 in
set_option maxHeartbeats 100000 in
theorem ec_build_q_r7 (X : ez_X) (I : Nat → Nat → Int32) (J : Nat → Nat → Int64) (R : Nat → Nat) (T : List ez_C) (s0 : Int32) (u : Int32) (w : Int32) (d : Int32) (s : Int32) (i : Int32) (f : Nat → Int32) (g : Nat → Int64) (f8 : Nat → Int32) (g9 : Nat → Int64) (v10 : Int32) (cz kz : Nat) : ∀ G : ez_F, fx_up X 3 G 85 64 [.ref 3, .int s0, .int u, .int w, .int s, .int d, .int i] [.int v10] (ev_hp (ev_sI I 5 f8) (ev_sJ J 4 g9) R T) cz kz = G 85 38 [.ref 3, .int s0, .int u, .int w, .int v10, .int d, .int (i + (1 : Int32))] [] (ev_hp (ev_sI I 5 f8) (ev_sJ J 4 g9) R T) cz kz := by
  intro G
  rfl
set_option maxRecDepth 100000 in
set_option maxHeartbeats 100000 in
theorem ec_build_q_r8 (X : ez_X) (I : Nat → Nat → Int32) (J : Nat → Nat → Int64) (R : Nat → Nat) (T : List ez_C) (s0 : Int32) (u : Int32) (w : Int32) (d : Int32) (s : Int32) (i : Int32) (f : Nat → Int32) (g : Nat → Int64) (cz kz : Nat) : ∀ G : ez_F, fx_up X 3 G 85 44 [.ref 3, .int s0, .int u, .int w, .int s, .int d, .int i] [.int i] (ev_hp (ev_sI I 5 f) (ev_sJ J 4 g) R T) cz kz = bif decide (1 ≤ i) then G 85 72 [.ref 3, .int s0, .int u, .int w, .int s, .int d, .int i] [] (ev_hp (ev_sI I 5 f) (ev_sJ J 4 g) R T) cz kz else G 85 52 [.ref 3, .int s0, .int u, .int w, .int s, .int d, .int i] [] (ev_hp (ev_sI I 5 f) (ev_sJ J 4 g) R T) cz kz := by
  intro G
  rfl
set_option maxRecDepth 100000 in
set_option maxHeartbeats 100000 in
theorem ec_build_q_r9 (X : ez_X) (I : Nat → Nat → Int32) (J : Nat → Nat → Int64) (R : Nat → Nat) (T : List ez_C) (s0 : Int32) (u : Int32) (w : Int32) (d : Int32) (s : Int32) (i : Int32) (f : Nat → Int32) (g : Nat → Int64) (cz kz : Nat) : ∀ G : ez_F, fx_up X 2 G 85 72 [.ref 3, .int s0, .int u, .int w, .int s, .int d, .int i] [] (ev_hp (ev_sI I 5 f) (ev_sJ J 4 g) R T) cz kz = ev_C G 90 [.int s] (ev_hp (ev_sI I 5 f) (ev_sJ J 4 g) R T) fun r h1 c1 k1 => G 85 77 [.ref 3, .int s0, .int u, .int w, .int s, .int d, .int i] (r.toList ++ []) h1 (cz + c1) (kz + k1) := by
  intro G
  rfl
set_option maxRecDepth 100000 in
set_option maxHeartbeats 100000 in
theorem ec_build_q_r10 (X : ez_X) (I : Nat → Nat → Int32) (J : Nat → Nat → Int64) (R : Nat → Nat) (T : List ez_C) (s0 : Int32) (u : Int32) (w : Int32) (d : Int32) (s : Int32) (i : Int32) (f : Nat → Int32) (g : Nat → Int64) (v11 : Int32) (cz kz : Nat) : ∀ G : ez_F, fx_up X 3 G 85 77 [.ref 3, .int s0, .int u, .int w, .int s, .int d, .int i] [.int v11] (ev_hp (ev_sI I 5 f) (ev_sJ J 4 g) R T) cz kz = G 85 20 [.ref 3, .int s0, .int u, .int w, .int v11, .int (d + (1 : Int32)), .int i] [] (ev_hp (ev_sI I 5 f) (ev_sJ J 4 g) R T) cz kz := by
  intro G
  rfl
set_option maxRecDepth 100000 in
set_option maxHeartbeats 100000 in
theorem ec_build_q_r11 (X : ez_X) (I : Nat → Nat → Int32) (J : Nat → Nat → Int64) (R : Nat → Nat) (T : List ez_C) (s0 : Int32) (u : Int32) (w : Int32) (d : Int32) (s : Int32) (i : Int32) (f : Nat → Int32) (g : Nat → Int64) (cz kz : Nat) : ∀ G : ez_F, fx_up X 4 G 85 52 [.ref 3, .int s0, .int u, .int w, .int s, .int d, .int i] [] (ev_hp (ev_sI I 5 f) (ev_sJ J 4 g) R T) cz kz = ev_C G 92 [.ref 3, .int w, .int s] (ev_hp (ev_sI I 5 f) (ev_sJ J 4 g) R T) fun r h1 c1 k1 => G 85 59 [.ref 3, .int s0, .int u, .int w, .int s, .int d, .int i] (r.toList ++ []) h1 (cz + c1) (kz + k1) := by
  intro G
  rfl
set_option maxRecDepth 100000 in
set_option maxHeartbeats 100000 in
theorem ec_build_q_r12 (X : ez_X) (I : Nat → Nat → Int32) (J : Nat → Nat → Int64) (R : Nat → Nat) (T : List ez_C) (s0 : Int32) (u : Int32) (w : Int32) (d : Int32) (s : Int32) (i : Int32) (f : Nat → Int32) (g : Nat → Int64) (f12 : Nat → Int32) (g13 : Nat → Int64) (cz kz : Nat) : ∀ G : ez_F, fx_up X 2 G 85 59 [.ref 3, .int s0, .int u, .int w, .int s, .int d, .int i] [] (ev_hp (ev_sI I 5 f12) (ev_sJ J 4 g13) R T) cz kz = ev_C G 93 [.int s] (ev_hp (ev_sI I 5 f12) (ev_sJ J 4 g13) R T) fun r h1 c1 k1 => G 85 64 [.ref 3, .int s0, .int u, .int w, .int s, .int d, .int i] (r.toList ++ []) h1 (cz + c1) (kz + k1) := by
  intro G
  rfl
set_option maxRecDepth 100000 in
set_option maxHeartbeats 100000 in
theorem ec_build_q_r13 (X : ez_X) (I : Nat → Nat → Int32) (J : Nat → Nat → Int64) (R : Nat → Nat) (T : List ez_C) (s0 : Int32) (u : Int32) (w : Int32) (d : Int32) (s : Int32) (i : Int32) (f : Nat → Int32) (g : Nat → Int64) (f12 : Nat → Int32) (g13 : Nat → Int64) (v14 : Int32) (cz kz : Nat) : ∀ G : ez_F, fx_up X 3 G 85 64 [.ref 3, .int s0, .int u, .int w, .int s, .int d, .int i] [.int v14] (ev_hp (ev_sI I 5 f12) (ev_sJ J 4 g13) R T) cz kz = G 85 38 [.ref 3, .int s0, .int u, .int w, .int v14, .int d, .int (i + (1 : Int32))] [] (ev_hp (ev_sI I 5 f12) (ev_sJ J 4 g13) R T) cz kz := by
  intro G
  rfl
theorem ec_build_q (X : ez_X) (I : Nat → Nat → Int32) (J : Nat → Nat → Int64) (R : Nat → Nat) (T : List ez_C) (s0 : Int32) (u : Int32) (w : Int32) (d : Int32) (kk : ∀ s f g, ev_W X 85 20 [.ref 3, .int s0, .int u, .int w, .int s, .int (d + 1)] [] (ev_hp (ev_sI I 5 f) (ev_sJ J 4 g) R T) 0 0 (fun r h1 c1 k1 => r = some (.int w) ∧ (∃ f g, h1 = ev_hp (ev_sI (ev_sI I 3 (upd (I 3) 3 (w + 1))) 5 f) (ev_sJ J 4 g) R T) ∧ c1 = 0 ∧ k1 = 0)) : ∀ (n : Nat) (s : Int32) (i : Int32) (f : Nat → Int32) (g : Nat → Int64), ((4 : Int32).toInt - i.toInt).toNat < n → ev_W X 85 38 [.ref 3, .int s0, .int u, .int w, .int s, .int d, .int i] [] (ev_hp (ev_sI I 5 f) (ev_sJ J 4 g) R T) 0 0 (fun r h1 c1 k1 => r = some (.int w) ∧ (∃ f g, h1 = ev_hp (ev_sI (ev_sI I 3 (upd (I 3) 3 (w + 1))) 5 f) (ev_sJ J 4 g) R T) ∧ c1 = 0 ∧ k1 = 0) := by
  intro n
  induction n with
  | zero => intro s i f g hm; exact absurd hm (Nat.not_lt_zero _)
  | succ n ih =>
    intro s i f g hm
    refine ev_if (ec_build_q_r1 X I J R T s0 u w d s i f g _ _) (fun b1 => ?_) (fun b1 => ?_)
    · replace b1 := of_decide_eq_true b1
      refine ev_if (ec_build_q_r2 X I J R T s0 u w d s i f g _ _) (fun b2 => ?_) (fun b2 => ?_)
      · replace b2 := of_decide_eq_true b2
        refine ev_call (ec_build_q_r3 X I J R T s0 u w d s i f g _ _) (ec_mir X (ev_hp (ev_sI I 5 f) (ev_sJ J 4 g) R T) s) ?_
        rintro _ _ _ _ ⟨⟨v7, rfl⟩, rfl, rfl, rfl⟩
        refine ev_seg (ec_build_q_r4 X I J R T s0 u w d s i f g v7 _ _) ?_
        refine ev_cutl (by rfl) ?_
        exact kk _ _ _
      · replace b2 := of_decide_eq_false b2
        refine ev_call (ec_build_q_r5 X I J R T s0 u w d s i f g _ _) (ec_nev X I J R T w s f g) ?_
        rintro _ _ _ _ ⟨rfl, ⟨f8, g9, rfl⟩, rfl, rfl⟩
        refine ev_call (ec_build_q_r6 X I J R T s0 u w d s i f g f8 g9 _ _) (ec_qt X (ev_hp (ev_sI I 5 f8) (ev_sJ J 4 g9) R T) s) ?_
        rintro _ _ _ _ ⟨⟨v10, rfl⟩, rfl, rfl, rfl⟩
        refine ev_seg (ec_build_q_r7 X I J R T s0 u w d s i f g f8 g9 v10 _ _) ?_
        exact ih _ _ _ _ (by first | exact ev_up hm b2 | exact ev_up hm (fun z => b2 (Int32.le_trans (by decide) z)))
    · replace b1 := of_decide_eq_false b1
      refine ev_if (ec_build_q_r8 X I J R T s0 u w d s i f g _ _) (fun b3 => ?_) (fun b3 => ?_)
      · replace b3 := of_decide_eq_true b3
        refine ev_call (ec_build_q_r9 X I J R T s0 u w d s i f g _ _) (ec_mir X (ev_hp (ev_sI I 5 f) (ev_sJ J 4 g) R T) s) ?_
        rintro _ _ _ _ ⟨⟨v11, rfl⟩, rfl, rfl, rfl⟩
        refine ev_seg (ec_build_q_r10 X I J R T s0 u w d s i f g v11 _ _) ?_
        refine ev_cutl (by rfl) ?_
        exact kk _ _ _
      · replace b3 := of_decide_eq_false b3
        refine ev_call (ec_build_q_r11 X I J R T s0 u w d s i f g _ _) (ec_nev X I J R T w s f g) ?_
        rintro _ _ _ _ ⟨rfl, ⟨f12, g13, rfl⟩, rfl, rfl⟩
        refine ev_call (ec_build_q_r12 X I J R T s0 u w d s i f g f12 g13 _ _) (ec_qt X (ev_hp (ev_sI I 5 f12) (ev_sJ J 4 g13) R T) s) ?_
        rintro _ _ _ _ ⟨⟨v14, rfl⟩, rfl, rfl, rfl⟩
        refine ev_seg (ec_build_q_r13 X I J R T s0 u w d s i f g f12 g13 v14 _ _) ?_
        exact ih _ _ _ _ (by first | exact ev_up hm b3 | exact ev_up hm (fun z => b3 (Int32.le_trans (by decide) z)))
set_option maxRecDepth 100000 in
set_option maxHeartbeats 100000 in
theorem ec_build_s_r1 (X : ez_X) (I : Nat → Nat → Int32) (J : Nat → Nat → Int64) (R : Nat → Nat) (T : List ez_C) (s0 : Int32) (u : Int32) (w : Int32) (s : Int32) (i : Int32) (f : Nat → Int32) (g : Nat → Int64) (cz kz : Nat) : ∀ G : ez_F, fx_up X 4 G 85 20 [.ref 3, .int s0, .int u, .int w, .int s, .int i] [] (ev_hp (ev_sI I 5 f) (ev_sJ J 4 g) R T) cz kz = bif decide (¬ u = 2) then G 85 31 [.ref 3, .int s0, .int u, .int w, .int s, .int i] [.int i] (ev_hp (ev_sI I 5 f) (ev_sJ J 4 g) R T) cz kz else G 85 27 [.ref 3, .int s0, .int u, .int w, .int s, .int i] [.int i] (ev_hp (ev_sI I 5 f) (ev_sJ J 4 g) R T) cz kz := by
  intro G
  rfl
set_option maxRecDepth 100000 in
set_option maxHeartbeats 100000 in
theorem ec_build_s_r2 (X : ez_X) (I : Nat → Nat → Int32) (J : Nat → Nat → Int64) (R : Nat → Nat) (T : List ez_C) (s0 : Int32) (u : Int32) (w : Int32) (s : Int32) (i : Int32) (f : Nat → Int32) (g : Nat → Int64) (cz kz : Nat) : ∀ G : ez_F, fx_up X 2 G 85 31 [.ref 3, .int s0, .int u, .int w, .int s, .int i] [.int i] (ev_hp (ev_sI I 5 f) (ev_sJ J 4 g) R T) cz kz = bif decide (1 ≤ i) then G 85 85 [.ref 3, .int s0, .int u, .int w, .int s, .int i] [] (ev_hp (ev_sI I 5 f) (ev_sJ J 4 g) R T) cz kz else G 85 35 [.ref 3, .int s0, .int u, .int w, .int s, .int i] [] (ev_hp (ev_sI I 5 f) (ev_sJ J 4 g) R T) cz kz := by
  intro G
  rfl
set_option maxRecDepth 100000 in
set_option maxHeartbeats 100000 in
theorem ec_build_s_r3 (X : ez_X) (I : Nat → Nat → Int32) (J : Nat → Nat → Int64) (R : Nat → Nat) (T : List ez_C) (s0 : Int32) (u : Int32) (w : Int32) (s : Int32) (i : Int32) (f : Nat → Int32) (g : Nat → Int64) (cz kz : Nat) : ∀ G : ez_F, fx_up X 7 G 85 85 [.ref 3, .int s0, .int u, .int w, .int s, .int i] [] (ev_hp (ev_sI I 5 f) (ev_sJ J 4 g) R T) cz kz = some (some (.int w), (ev_hp (ev_sI (ev_sI I 3 (upd (I 3) 3 (w + (1 : Int32)))) 5 f) (ev_sJ J 4 g) R T), cz, kz) := by
  intro G
  rfl
set_option maxRecDepth 100000 in
set_option maxHeartbeats 100000 in
theorem ec_build_s_r4 (X : ez_X) (I : Nat → Nat → Int32) (J : Nat → Nat → Int64) (R : Nat → Nat) (T : List ez_C) (s0 : Int32) (u : Int32) (w : Int32) (s : Int32) (i : Int32) (f : Nat → Int32) (g : Nat → Int64) (cz kz : Nat) : ∀ G : ez_F, fx_up X 2 G 85 35 [.ref 3, .int s0, .int u, .int w, .int s, .int i] [] (ev_hp (ev_sI I 5 f) (ev_sJ J 4 g) R T) cz kz = G 85 38 [.ref 3, .int s0, .int u, .int w, .int s, .int i, .int 0] [] (ev_hp (ev_sI I 5 f) (ev_sJ J 4 g) R T) cz kz := by
  intro G
  rfl
set_option maxRecDepth 100000 in
set_option maxHeartbeats 100000 in
theorem ec_build_s_r5 (X : ez_X) (I : Nat → Nat → Int32) (J : Nat → Nat → Int64) (R : Nat → Nat) (T : List ez_C) (s0 : Int32) (u : Int32) (w : Int32) (s : Int32) (i : Int32) (f : Nat → Int32) (g : Nat → Int64) (cz kz : Nat) : ∀ G : ez_F, fx_up X 3 G 85 27 [.ref 3, .int s0, .int u, .int w, .int s, .int i] [.int i] (ev_hp (ev_sI I 5 f) (ev_sJ J 4 g) R T) cz kz = bif decide (2 ≤ i) then G 85 85 [.ref 3, .int s0, .int u, .int w, .int s, .int i] [] (ev_hp (ev_sI I 5 f) (ev_sJ J 4 g) R T) cz kz else G 85 35 [.ref 3, .int s0, .int u, .int w, .int s, .int i] [] (ev_hp (ev_sI I 5 f) (ev_sJ J 4 g) R T) cz kz := by
  intro G
  rfl
set_option maxRecDepth 100000 in
set_option maxHeartbeats 100000 in
theorem ec_build_s_r6 (X : ez_X) (I : Nat → Nat → Int32) (J : Nat → Nat → Int64) (R : Nat → Nat) (T : List ez_C) (s0 : Int32) (u : Int32) (w : Int32) (s : Int32) (i : Int32) (f : Nat → Int32) (g : Nat → Int64) (cz kz : Nat) : ∀ G : ez_F, fx_up X 7 G 85 85 [.ref 3, .int s0, .int u, .int w, .int s, .int i] [] (ev_hp (ev_sI I 5 f) (ev_sJ J 4 g) R T) cz kz = some (some (.int w), (ev_hp (ev_sI (ev_sI I 3 (upd (I 3) 3 (w + (1 : Int32)))) 5 f) (ev_sJ J 4 g) R T), cz, kz) := by
  intro G
  rfl
set_option maxRecDepth 100000 in
set_option maxHeartbeats 100000 in
theorem ec_build_s_r7 (X : ez_X) (I : Nat → Nat → Int32) (J : Nat → Nat → Int64) (R : Nat → Nat) (T : List ez_C) (s0 : Int32) (u : Int32) (w : Int32) (s : Int32) (i : Int32) (f : Nat → Int32) (g : Nat → Int64) (cz kz : Nat) : ∀ G : ez_F, fx_up X 2 G 85 35 [.ref 3, .int s0, .int u, .int w, .int s, .int i] [] (ev_hp (ev_sI I 5 f) (ev_sJ J 4 g) R T) cz kz = G 85 38 [.ref 3, .int s0, .int u, .int w, .int s, .int i, .int 0] [] (ev_hp (ev_sI I 5 f) (ev_sJ J 4 g) R T) cz kz := by
  intro G
  rfl
theorem ec_build_s (X : ez_X) (I : Nat → Nat → Int32) (J : Nat → Nat → Int64) (R : Nat → Nat) (T : List ez_C) (s0 : Int32) (u : Int32) (w : Int32)  : ∀ (n : Nat) (s : Int32) (i : Int32) (f : Nat → Int32) (g : Nat → Int64), ((2 : Int32).toInt - i.toInt).toNat < n → ev_W X 85 20 [.ref 3, .int s0, .int u, .int w, .int s, .int i] [] (ev_hp (ev_sI I 5 f) (ev_sJ J 4 g) R T) 0 0 (fun r h1 c1 k1 => r = some (.int w) ∧ (∃ f g, h1 = ev_hp (ev_sI (ev_sI I 3 (upd (I 3) 3 (w + 1))) 5 f) (ev_sJ J 4 g) R T) ∧ c1 = 0 ∧ k1 = 0) := by
  intro n
  induction n with
  | zero => intro s i f g hm; exact absurd hm (Nat.not_lt_zero _)
  | succ n ih =>
    intro s i f g hm
    refine ev_if (ec_build_s_r1 X I J R T s0 u w s i f g _ _) (fun b1 => ?_) (fun b1 => ?_)
    · replace b1 := of_decide_eq_true b1
      refine ev_if (ec_build_s_r2 X I J R T s0 u w s i f g _ _) (fun b2 => ?_) (fun b2 => ?_)
      · replace b2 := of_decide_eq_true b2
        refine ev_ret (ec_build_s_r3 X I J R T s0 u w s i f g _ _) ?_
        exact ⟨rfl, ⟨_, _, rfl⟩, rfl, rfl⟩
      · replace b2 := of_decide_eq_false b2
        refine ev_seg (ec_build_s_r4 X I J R T s0 u w s i f g _ _) ?_
        exact ec_build_q X I J R T s0 u w i (fun s f g => ih _ _ f g (by first | exact ev_up hm b2 | exact ev_up hm (fun z => b2 (Int32.le_trans (by decide) z)))) _ _ _ _ _ (Nat.lt_succ_self _)
    · replace b1 := of_decide_eq_false b1
      refine ev_if (ec_build_s_r5 X I J R T s0 u w s i f g _ _) (fun b3 => ?_) (fun b3 => ?_)
      · replace b3 := of_decide_eq_true b3
        refine ev_ret (ec_build_s_r6 X I J R T s0 u w s i f g _ _) ?_
        exact ⟨rfl, ⟨_, _, rfl⟩, rfl, rfl⟩
      · replace b3 := of_decide_eq_false b3
        refine ev_seg (ec_build_s_r7 X I J R T s0 u w s i f g _ _) ?_
        exact ec_build_q X I J R T s0 u w i (fun s f g => ih _ _ f g (by first | exact ev_up hm b3 | exact ev_up hm (fun z => b3 (Int32.le_trans (by decide) z)))) _ _ _ _ _ (Nat.lt_succ_self _)
set_option maxRecDepth 100000 in
set_option maxHeartbeats 100000 in
theorem ec_build_r1 (X : ez_X) (I : Nat → Nat → Int32) (J : Nat → Nat → Int64) (R : Nat → Nat) (T : List ez_C) (s0 : Int32) (u : Int32) (cz kz : Nat) : ∀ G : ez_F, fx_up X 8 G 85 0 [.ref 3, .int s0, .int u] [] (ev_hp I J R T) cz kz = ev_C G 38 [.ref 5, .int (I 3 3), .int 0] (ev_hp I J R T) fun r h1 c1 k1 => G 85 14 [.ref 3, .int s0, .int u, .int (I 3 3)] (r.toList ++ []) h1 (cz + c1) (kz + k1) := by
  intro G
  rfl
set_option maxRecDepth 100000 in
set_option maxHeartbeats 100000 in
theorem ec_build_r2 (X : ez_X) (I : Nat → Nat → Int32) (J : Nat → Nat → Int64) (R : Nat → Nat) (T : List ez_C) (s0 : Int32) (u : Int32) (cz kz : Nat) : ∀ G : ez_F, fx_up X 4 G 85 14 [.ref 3, .int s0, .int u, .int (I 3 3)] [] (ev_hp (ev_sI I 5 (ev_put 3 (I 5) (I 3 3) 0)) J R T) cz kz = G 85 20 [.ref 3, .int s0, .int u, .int (I 3 3), .int s0, .int 0] [] (ev_hp (ev_sI I 5 (ev_put 3 (I 5) (I 3 3) 0)) J R T) cz kz := by
  intro G
  rfl
theorem ec_build (X : ez_X) (I : Nat → Nat → Int32) (J : Nat → Nat → Int64) (R : Nat → Nat) (T : List ez_C) (s0 : Int32) (u : Int32)  : ev_W X 85 0 (ez_lay [.ref 3, .int s0, .int u]) [] (ev_hp I J R T) 0 0 (fun r h1 c1 k1 => r = some (.int (I 3 3)) ∧ (∃ f g, h1 = ev_hp (ev_sI (ev_sI I 3 (upd (I 3) 3 ((I 3 3) + 1))) 5 f) (ev_sJ J 4 g) R T) ∧ c1 = 0 ∧ k1 = 0) := by
  refine ev_call (ec_build_r1 X I J R T s0 u _ _) (ec_put X (ev_hp I J R T) 3 5 (I 3 3) 0 (I 5) rfl (by decide)) ?_
  rintro _ _ _ _ ⟨rfl, rfl, rfl, rfl⟩
  refine ev_seg (ec_build_r2 X I J R T s0 u _ _) ?_
  exact ec_build_s X I J R T s0 u _ _ _ _ _ (J 4) (Nat.lt_succ_self _)
end
section
/-! The easy calls, by all their ends. -/
set_option maxRecDepth 100000 in
set_option maxHeartbeats 100000 in
theorem ea_S_Fleet_clear_88_3_r1 (X : ez_X) (I : Nat → Nat → Int32) (J : Nat → Nat → Int64) (R : Nat → Nat) (T : List ez_C) (cz kz : Nat) : ∀ G : ez_F, fx_up X 4 G 88 0 [.ref 3] [] (ev_hp I J R T) cz kz = some (none, (ev_hp (ev_sI I 3 (upd (I 3) 3 0)) J R T), cz, kz) := by
  intro G
  rfl
theorem ea_S_Fleet_clear_88_3 (X : ez_X) (I : Nat → Nat → Int32) (J : Nat → Nat → Int64) (R : Nat → Nat) (T : List ez_C)  : ev_W X 88 0 (ez_lay [.ref 3]) [] (ev_hp I J R T) 0 0 (fun r h1 c1 k1 => (r = none ∧ h1 = (ev_hp (ev_sI I 3 (upd (I 3) 3 0)) J R T) ∧ c1 = 0 ∧ k1 = 0)) := by
  refine ev_ret (ea_S_Fleet_clear_88_3_r1 X I J R T _ _) ?_
  exact ⟨rfl, rfl, rfl, rfl⟩
set_option maxRecDepth 100000 in
set_option maxHeartbeats 100000 in
theorem ea_S_Paper_clear_122_8_r1 (X : ez_X) (I : Nat → Nat → Int32) (J : Nat → Nat → Int64) (R : Nat → Nat) (T : List ez_C) (cz kz : Nat) : ∀ G : ez_F, fx_up X 10 G 122 0 [.ref 8] [] (ev_hp I J R T) cz kz = some (none, (ev_hp (ev_sI I 8 (upd (I 8) 1 0)) (ev_sJ J 8 (vp_updL (vp_updL (J 8) 2 0) 3 0)) R T), cz, kz) := by
  intro G
  rfl
theorem ea_S_Paper_clear_122_8 (X : ez_X) (I : Nat → Nat → Int32) (J : Nat → Nat → Int64) (R : Nat → Nat) (T : List ez_C)  : ev_W X 122 0 (ez_lay [.ref 8]) [] (ev_hp I J R T) 0 0 (fun r h1 c1 k1 => (r = none ∧ h1 = (ev_hp (ev_sI I 8 (upd (I 8) 1 0)) (ev_sJ J 8 (vp_updL (vp_updL (J 8) 2 0) 3 0)) R T) ∧ c1 = 0 ∧ k1 = 0)) := by
  refine ev_ret (ea_S_Paper_clear_122_8_r1 X I J R T _ _) ?_
  exact ⟨rfl, rfl, rfl, rfl⟩
set_option maxRecDepth 100000 in
set_option maxHeartbeats 100000 in
theorem ea_S_Register_forget_139_6_r1 (X : ez_X) (I : Nat → Nat → Int32) (J : Nat → Nat → Int64) (R : Nat → Nat) (T : List ez_C) (cz kz : Nat) : ∀ G : ez_F, fx_up X 4 G 139 0 [.ref 6] [] (ev_hp I J R T) cz kz = some (none, (ev_hp (ev_sI I 6 (upd (I 6) 4 0)) J R T), cz, kz) := by
  intro G
  rfl
theorem ea_S_Register_forget_139_6 (X : ez_X) (I : Nat → Nat → Int32) (J : Nat → Nat → Int64) (R : Nat → Nat) (T : List ez_C)  : ev_W X 139 0 (ez_lay [.ref 6]) [] (ev_hp I J R T) 0 0 (fun r h1 c1 k1 => (r = none ∧ h1 = (ev_hp (ev_sI I 6 (upd (I 6) 4 0)) J R T) ∧ c1 = 0 ∧ k1 = 0)) := by
  refine ev_ret (ea_S_Register_forget_139_6_r1 X I J R T _ _) ?_
  exact ⟨rfl, rfl, rfl, rfl⟩
set_option maxRecDepth 100000 in
set_option maxHeartbeats 100000 in
theorem ea_S_Caller_forget_62_22_r1 (X : ez_X) (I : Nat → Nat → Int32) (J : Nat → Nat → Int64) (R : Nat → Nat) (T : List ez_C) (cz kz : Nat) : ∀ G : ez_F, fx_up X 7 G 62 0 [.ref 22] [] (ev_hp I J R T) cz kz = some (none, (ev_hp (ev_sI I 22 (upd (upd (I 22) 8 0) 11 (-1))) J R T), cz, kz) := by
  intro G
  rfl
theorem ea_S_Caller_forget_62_22 (X : ez_X) (I : Nat → Nat → Int32) (J : Nat → Nat → Int64) (R : Nat → Nat) (T : List ez_C)  : ev_W X 62 0 (ez_lay [.ref 22]) [] (ev_hp I J R T) 0 0 (fun r h1 c1 k1 => (r = none ∧ h1 = (ev_hp (ev_sI I 22 (upd (upd (I 22) 8 0) 11 (-1))) J R T) ∧ c1 = 0 ∧ k1 = 0)) := by
  refine ev_ret (ea_S_Caller_forget_62_22_r1 X I J R T _ _) ?_
  exact ⟨rfl, rfl, rfl, rfl⟩
set_option maxRecDepth 100000 in
set_option maxHeartbeats 100000 in
theorem ea_S_Ledger_forgetPlays_106_13_r1 (X : ez_X) (I : Nat → Nat → Int32) (J : Nat → Nat → Int64) (R : Nat → Nat) (T : List ez_C) (cz kz : Nat) : ∀ G : ez_F, fx_up X 4 G 106 0 [.ref 13] [] (ev_hp I J R T) cz kz = some (none, (ev_hp (ev_sI I 13 (upd (I 13) 8 0)) J R T), cz, kz) := by
  intro G
  rfl
theorem ea_S_Ledger_forgetPlays_106_13 (X : ez_X) (I : Nat → Nat → Int32) (J : Nat → Nat → Int64) (R : Nat → Nat) (T : List ez_C)  : ev_W X 106 0 (ez_lay [.ref 13]) [] (ev_hp I J R T) 0 0 (fun r h1 c1 k1 => (r = none ∧ h1 = (ev_hp (ev_sI I 13 (upd (I 13) 8 0)) J R T) ∧ c1 = 0 ∧ k1 = 0)) := by
  refine ev_ret (ea_S_Ledger_forgetPlays_106_13_r1 X I J R T _ _) ?_
  exact ⟨rfl, rfl, rfl, rfl⟩
set_option maxRecDepth 100000 in
set_option maxHeartbeats 100000 in
theorem ea_S_Ledger_forgetTally_107_13_r1 (X : ez_X) (I : Nat → Nat → Int32) (J : Nat → Nat → Int64) (R : Nat → Nat) (T : List ez_C) (cz kz : Nat) : ∀ G : ez_F, fx_up X 4 G 107 0 [.ref 13] [] (ev_hp I J R T) cz kz = some (none, (ev_hp (ev_sI I 13 (upd (I 13) 9 0)) J R T), cz, kz) := by
  intro G
  rfl
theorem ea_S_Ledger_forgetTally_107_13 (X : ez_X) (I : Nat → Nat → Int32) (J : Nat → Nat → Int64) (R : Nat → Nat) (T : List ez_C)  : ev_W X 107 0 (ez_lay [.ref 13]) [] (ev_hp I J R T) 0 0 (fun r h1 c1 k1 => (r = none ∧ h1 = (ev_hp (ev_sI I 13 (upd (I 13) 9 0)) J R T) ∧ c1 = 0 ∧ k1 = 0)) := by
  refine ev_ret (ea_S_Ledger_forgetTally_107_13_r1 X I J R T _ _) ?_
  exact ⟨rfl, rfl, rfl, rfl⟩
set_option maxRecDepth 100000 in
set_option maxHeartbeats 100000 in
theorem ea_S_Pairs_forget_117_20_r1 (X : ez_X) (I : Nat → Nat → Int32) (J : Nat → Nat → Int64) (R : Nat → Nat) (T : List ez_C) (cz kz : Nat) : ∀ G : ez_F, fx_up X 4 G 117 0 [.ref 20] [] (ev_hp I J R T) cz kz = some (none, (ev_hp (ev_sI I 20 (upd (I 20) 3 0)) J R T), cz, kz) := by
  intro G
  rfl
theorem ea_S_Pairs_forget_117_20 (X : ez_X) (I : Nat → Nat → Int32) (J : Nat → Nat → Int64) (R : Nat → Nat) (T : List ez_C)  : ev_W X 117 0 (ez_lay [.ref 20]) [] (ev_hp I J R T) 0 0 (fun r h1 c1 k1 => (r = none ∧ h1 = (ev_hp (ev_sI I 20 (upd (I 20) 3 0)) J R T) ∧ c1 = 0 ∧ k1 = 0)) := by
  refine ev_ret (ea_S_Pairs_forget_117_20_r1 X I J R T _ _) ?_
  exact ⟨rfl, rfl, rfl, rfl⟩
set_option maxRecDepth 100000 in
set_option maxHeartbeats 100000 in
theorem ea_S_answersChanged_2_0_r1 (X : ez_X) (I : Nat → Nat → Int32) (J : Nat → Nat → Int64) (R : Nat → Nat) (T : List ez_C) (cz kz : Nat) : ∀ G : ez_F, fx_up X 3 G 2 0 [.ref 0] [] (ev_hp I J R T) cz kz = ev_C G 107 [.ref 13] (ev_hp I J R T) fun r h1 c1 k1 => G 2 7 [.ref 0] (r.toList ++ []) h1 (cz + c1) (kz + k1) := by
  intro G
  rfl
set_option maxRecDepth 100000 in
set_option maxHeartbeats 100000 in
theorem ea_S_answersChanged_2_0_r2 (X : ez_X) (I : Nat → Nat → Int32) (J : Nat → Nat → Int64) (R : Nat → Nat) (T : List ez_C) (cz kz : Nat) : ∀ G : ez_F, fx_up X 3 G 2 7 [.ref 0] [] (ev_hp (ev_sI I 13 (upd (I 13) 9 0)) J R T) cz kz = ev_C G 117 [.ref 20] (ev_hp (ev_sI I 13 (upd (I 13) 9 0)) J R T) fun r h1 c1 k1 => G 2 14 [.ref 0] (r.toList ++ []) h1 (cz + c1) (kz + k1) := by
  intro G
  rfl
set_option maxRecDepth 100000 in
set_option maxHeartbeats 100000 in
theorem ea_S_answersChanged_2_0_r3 (X : ez_X) (I : Nat → Nat → Int32) (J : Nat → Nat → Int64) (R : Nat → Nat) (T : List ez_C) (cz kz : Nat) : ∀ G : ez_F, fx_up X 1 G 2 14 [.ref 0] [] (ev_hp (ev_sI (ev_sI I 13 (upd (I 13) 9 0)) 20 (upd (I 20) 3 0)) J R T) cz kz = some (none, (ev_hp (ev_sI (ev_sI I 13 (upd (I 13) 9 0)) 20 (upd (I 20) 3 0)) J R T), cz, kz) := by
  intro G
  rfl
theorem ea_S_answersChanged_2_0 (X : ez_X) (I : Nat → Nat → Int32) (J : Nat → Nat → Int64) (R : Nat → Nat) (T : List ez_C)  : ev_W X 2 0 (ez_lay [.ref 0]) [] (ev_hp I J R T) 0 0 (fun r h1 c1 k1 => (r = none ∧ h1 = (ev_hp (ev_sI (ev_sI I 13 (upd (I 13) 9 0)) 20 (upd (I 20) 3 0)) J R T) ∧ c1 = 0 ∧ k1 = 0)) := by
  refine ev_call (ea_S_answersChanged_2_0_r1 X I J R T _ _) (ea_S_Ledger_forgetTally_107_13 X I J R T) ?_
  rintro r0 _ _ _ (⟨rfl, rfl, rfl, rfl⟩)
  refine ev_call (ea_S_answersChanged_2_0_r2 X I J R T _ _) (ea_S_Pairs_forget_117_20 X (ev_sI I 13 (upd (I 13) 9 0)) J R T) ?_
  rintro r0 _ _ _ (⟨rfl, rfl, rfl, rfl⟩)
  refine ev_ret (ea_S_answersChanged_2_0_r3 X I J R T _ _) ?_
  exact ⟨rfl, rfl, rfl, rfl⟩
set_option maxRecDepth 100000 in
set_option maxHeartbeats 100000 in
theorem ea_S_callsChanged_12_0_r1 (X : ez_X) (I : Nat → Nat → Int32) (J : Nat → Nat → Int64) (R : Nat → Nat) (T : List ez_C) (cz kz : Nat) : ∀ G : ez_F, fx_up X 3 G 12 0 [.ref 0] [] (ev_hp I J R T) cz kz = ev_C G 106 [.ref 13] (ev_hp I J R T) fun r h1 c1 k1 => G 12 7 [.ref 0] (r.toList ++ []) h1 (cz + c1) (kz + k1) := by
  intro G
  rfl
set_option maxRecDepth 100000 in
set_option maxHeartbeats 100000 in
theorem ea_S_callsChanged_12_0_r2 (X : ez_X) (I : Nat → Nat → Int32) (J : Nat → Nat → Int64) (R : Nat → Nat) (T : List ez_C) (cz kz : Nat) : ∀ G : ez_F, fx_up X 2 G 12 7 [.ref 0] [] (ev_hp (ev_sI I 13 (upd (I 13) 8 0)) J R T) cz kz = ev_C G 2 [.ref 0] (ev_hp (ev_sI I 13 (upd (I 13) 8 0)) J R T) fun r h1 c1 k1 => G 12 11 [.ref 0] (r.toList ++ []) h1 (cz + c1) (kz + k1) := by
  intro G
  rfl
set_option maxRecDepth 100000 in
set_option maxHeartbeats 100000 in
theorem ea_S_callsChanged_12_0_r3 (X : ez_X) (I : Nat → Nat → Int32) (J : Nat → Nat → Int64) (R : Nat → Nat) (T : List ez_C) (cz kz : Nat) : ∀ G : ez_F, fx_up X 1 G 12 11 [.ref 0] [] (ev_hp (ev_sI (ev_sI I 13 (upd (upd (I 13) 8 0) 9 0)) 20 (upd (I 20) 3 0)) J R T) cz kz = some (none, (ev_hp (ev_sI (ev_sI I 13 (upd (upd (I 13) 8 0) 9 0)) 20 (upd (I 20) 3 0)) J R T), cz, kz) := by
  intro G
  rfl
theorem ea_S_callsChanged_12_0 (X : ez_X) (I : Nat → Nat → Int32) (J : Nat → Nat → Int64) (R : Nat → Nat) (T : List ez_C)  : ev_W X 12 0 (ez_lay [.ref 0]) [] (ev_hp I J R T) 0 0 (fun r h1 c1 k1 => (r = none ∧ h1 = (ev_hp (ev_sI (ev_sI I 13 (upd (upd (I 13) 8 0) 9 0)) 20 (upd (I 20) 3 0)) J R T) ∧ c1 = 0 ∧ k1 = 0)) := by
  refine ev_call (ea_S_callsChanged_12_0_r1 X I J R T _ _) (ea_S_Ledger_forgetPlays_106_13 X I J R T) ?_
  rintro r0 _ _ _ (⟨rfl, rfl, rfl, rfl⟩)
  refine ev_call (ea_S_callsChanged_12_0_r2 X I J R T _ _) (ea_S_answersChanged_2_0 X (ev_sI I 13 (upd (I 13) 8 0)) J R T) ?_
  rintro r0 _ _ _ (⟨rfl, rfl, rfl, rfl⟩)
  refine ev_ret (ea_S_callsChanged_12_0_r3 X I J R T _ _) ?_
  exact ⟨rfl, rfl, rfl, rfl⟩
set_option maxRecDepth 100000 in
set_option maxHeartbeats 100000 in
theorem ea_S_layingsChanged_28_0_r1 (X : ez_X) (I : Nat → Nat → Int32) (J : Nat → Nat → Int64) (R : Nat → Nat) (T : List ez_C) (cz kz : Nat) : ∀ G : ez_F, fx_up X 3 G 28 0 [.ref 0] [] (ev_hp I J R T) cz kz = ev_C G 139 [.ref 6] (ev_hp I J R T) fun r h1 c1 k1 => G 28 7 [.ref 0] (r.toList ++ []) h1 (cz + c1) (kz + k1) := by
  intro G
  rfl
set_option maxRecDepth 100000 in
set_option maxHeartbeats 100000 in
theorem ea_S_layingsChanged_28_0_r2 (X : ez_X) (I : Nat → Nat → Int32) (J : Nat → Nat → Int64) (R : Nat → Nat) (T : List ez_C) (cz kz : Nat) : ∀ G : ez_F, fx_up X 3 G 28 7 [.ref 0] [] (ev_hp (ev_sI I 6 (upd (I 6) 4 0)) J R T) cz kz = ev_C G 62 [.ref 22] (ev_hp (ev_sI I 6 (upd (I 6) 4 0)) J R T) fun r h1 c1 k1 => G 28 14 [.ref 0] (r.toList ++ []) h1 (cz + c1) (kz + k1) := by
  intro G
  rfl
set_option maxRecDepth 100000 in
set_option maxHeartbeats 100000 in
theorem ea_S_layingsChanged_28_0_r3 (X : ez_X) (I : Nat → Nat → Int32) (J : Nat → Nat → Int64) (R : Nat → Nat) (T : List ez_C) (cz kz : Nat) : ∀ G : ez_F, fx_up X 2 G 28 14 [.ref 0] [] (ev_hp (ev_sI (ev_sI I 6 (upd (I 6) 4 0)) 22 (upd (upd (I 22) 8 0) 11 (-1))) J R T) cz kz = ev_C G 12 [.ref 0] (ev_hp (ev_sI (ev_sI I 6 (upd (I 6) 4 0)) 22 (upd (upd (I 22) 8 0) 11 (-1))) J R T) fun r h1 c1 k1 => G 28 18 [.ref 0] (r.toList ++ []) h1 (cz + c1) (kz + k1) := by
  intro G
  rfl
set_option maxRecDepth 100000 in
set_option maxHeartbeats 100000 in
theorem ea_S_layingsChanged_28_0_r4 (X : ez_X) (I : Nat → Nat → Int32) (J : Nat → Nat → Int64) (R : Nat → Nat) (T : List ez_C) (cz kz : Nat) : ∀ G : ez_F, fx_up X 1 G 28 18 [.ref 0] [] (ev_hp (ev_sI (ev_sI (ev_sI (ev_sI I 6 (upd (I 6) 4 0)) 13 (upd (upd (I 13) 8 0) 9 0)) 20 (upd (I 20) 3 0)) 22 (upd (upd (I 22) 8 0) 11 (-1))) J R T) cz kz = some (none, (ev_hp (ev_sI (ev_sI (ev_sI (ev_sI I 6 (upd (I 6) 4 0)) 13 (upd (upd (I 13) 8 0) 9 0)) 20 (upd (I 20) 3 0)) 22 (upd (upd (I 22) 8 0) 11 (-1))) J R T), cz, kz) := by
  intro G
  rfl
theorem ea_S_layingsChanged_28_0 (X : ez_X) (I : Nat → Nat → Int32) (J : Nat → Nat → Int64) (R : Nat → Nat) (T : List ez_C)  : ev_W X 28 0 (ez_lay [.ref 0]) [] (ev_hp I J R T) 0 0 (fun r h1 c1 k1 => (r = none ∧ h1 = (ev_hp (ev_sI (ev_sI (ev_sI (ev_sI I 6 (upd (I 6) 4 0)) 13 (upd (upd (I 13) 8 0) 9 0)) 20 (upd (I 20) 3 0)) 22 (upd (upd (I 22) 8 0) 11 (-1))) J R T) ∧ c1 = 0 ∧ k1 = 0)) := by
  refine ev_call (ea_S_layingsChanged_28_0_r1 X I J R T _ _) (ea_S_Register_forget_139_6 X I J R T) ?_
  rintro r0 _ _ _ (⟨rfl, rfl, rfl, rfl⟩)
  refine ev_call (ea_S_layingsChanged_28_0_r2 X I J R T _ _) (ea_S_Caller_forget_62_22 X (ev_sI I 6 (upd (I 6) 4 0)) J R T) ?_
  rintro r0 _ _ _ (⟨rfl, rfl, rfl, rfl⟩)
  refine ev_call (ea_S_layingsChanged_28_0_r3 X I J R T _ _) (ea_S_callsChanged_12_0 X (ev_sI (ev_sI I 6 (upd (I 6) 4 0)) 22 (upd (upd (I 22) 8 0) 11 (-1))) J R T) ?_
  rintro r0 _ _ _ (⟨rfl, rfl, rfl, rfl⟩)
  refine ev_ret (ea_S_layingsChanged_28_0_r4 X I J R T _ _) ?_
  exact ⟨rfl, rfl, rfl, rfl⟩
set_option maxRecDepth 100000 in
set_option maxHeartbeats 100000 in
theorem ea_S_Sheet_changeRule_146_1_r1 (X : ez_X) (I : Nat → Nat → Int32) (J : Nat → Nat → Int64) (R : Nat → Nat) (T : List ez_C) (a1 : Int32) (a2 : Int32) (cz kz : Nat) : ∀ G : ez_F, fx_up X 4 G 146 0 [.ref 1, .int a1, .int a2] [] (ev_hp I J R T) cz kz = ev_C G 3 [.ref 2, .int a1] (ev_hp I J R T) fun r h1 c1 k1 => G 146 8 [.ref 1, .int a1, .int a2] (r.toList ++ []) h1 (cz + c1) (kz + k1) := by
  intro G
  rfl
set_option maxRecDepth 100000 in
set_option maxHeartbeats 100000 in
theorem ea_S_Sheet_changeRule_146_1_r2 (X : ez_X) (I : Nat → Nat → Int32) (J : Nat → Nat → Int64) (R : Nat → Nat) (T : List ez_C) (a1 : Int32) (a2 : Int32) (q16 : Int32) (cz kz : Nat) : ∀ G : ez_F, fx_up X 6 G 146 8 [.ref 1, .int a1, .int a2] [.int q16] (ev_hp I J R T) cz kz = ev_C G 38 [.ref 2, .int a1, .int a2] (ev_hp I J R T) fun r h1 c1 k1 => G 146 18 [.ref 1, .int a1, .int a2, .int q16] (r.toList ++ []) h1 (cz + c1) (kz + k1) := by
  intro G
  rfl
set_option maxRecDepth 100000 in
set_option maxHeartbeats 100000 in
theorem ea_S_Sheet_changeRule_146_1_r3 (X : ez_X) (I : Nat → Nat → Int32) (J : Nat → Nat → Int64) (R : Nat → Nat) (T : List ez_C) (a1 : Int32) (a2 : Int32) (q16 : Int32) (cz kz : Nat) : ∀ G : ez_F, fx_up X 2 G 146 18 [.ref 1, .int a1, .int a2, .int q16] [] (ev_hp (ev_sI I 2 (ev_put 3 (I 2) a1 a2)) J R T) cz kz = some (some (.int q16), (ev_hp (ev_sI I 2 (ev_put 3 (I 2) a1 a2)) J R T), cz, kz) := by
  intro G
  rfl
theorem ea_S_Sheet_changeRule_146_1 (X : ez_X) (I : Nat → Nat → Int32) (J : Nat → Nat → Int64) (R : Nat → Nat) (T : List ez_C) (a1 : Int32) (a2 : Int32)  : ev_W X 146 0 (ez_lay [.ref 1, .int a1, .int a2]) [] (ev_hp I J R T) 0 0 (fun r h1 c1 k1 => (r = some (.int (ev_at 3 (I 2) a1)) ∧ h1 = (ev_hp (ev_sI I 2 (ev_put 3 (I 2) a1 a2)) J R T) ∧ c1 = 0 ∧ k1 = 0)) := by
  refine ev_call (ea_S_Sheet_changeRule_146_1_r1 X I J R T a1 a2 _ _) (ec_at X (ev_hp I J R T) 3 2 a1 (I 2) rfl (by decide)) ?_
  rintro _ _ _ _ ⟨rfl, rfl, rfl, rfl⟩
  generalize hq16 : ev_at 3 (I 2) a1 = q16
  refine ev_call (ea_S_Sheet_changeRule_146_1_r2 X I J R T a1 a2 q16 _ _) (ec_put X (ev_hp I J R T) 3 2 a1 a2 (I 2) rfl (by decide)) ?_
  rintro _ _ _ _ ⟨rfl, rfl, rfl, rfl⟩
  refine ev_ret (ea_S_Sheet_changeRule_146_1_r3 X I J R T a1 a2 q16 _ _) ?_
  subst hq16
  exact ⟨rfl, rfl, rfl, rfl⟩
set_option maxRecDepth 100000 in
set_option maxHeartbeats 100000 in
theorem ea_S_Sheet_setDrift_153_1_r1 (X : ez_X) (I : Nat → Nat → Int32) (J : Nat → Nat → Int64) (R : Nat → Nat) (T : List ez_C) (a1 : Int32) (a2 : Int32) (cz kz : Nat) : ∀ G : ez_F, fx_up X 7 G 153 0 [.ref 1, .int a1, .int a2] [] (ev_hp I J R T) cz kz = some (none, (ev_hp (ev_sI I 1 (upd (upd (I 1) 1 a1) 2 a2)) J R T), cz, kz) := by
  intro G
  rfl
theorem ea_S_Sheet_setDrift_153_1 (X : ez_X) (I : Nat → Nat → Int32) (J : Nat → Nat → Int64) (R : Nat → Nat) (T : List ez_C) (a1 : Int32) (a2 : Int32)  : ev_W X 153 0 (ez_lay [.ref 1, .int a1, .int a2]) [] (ev_hp I J R T) 0 0 (fun r h1 c1 k1 => (r = none ∧ h1 = (ev_hp (ev_sI I 1 (upd (upd (I 1) 1 a1) 2 a2)) J R T) ∧ c1 = 0 ∧ k1 = 0)) := by
  refine ev_ret (ea_S_Sheet_setDrift_153_1_r1 X I J R T a1 a2 _ _) ?_
  exact ⟨rfl, rfl, rfl, rfl⟩
set_option maxRecDepth 100000 in
set_option maxHeartbeats 100000 in
theorem ea_S_Sheet_rimTotal_151_1_r1 (X : ez_X) (I : Nat → Nat → Int32) (J : Nat → Nat → Int64) (R : Nat → Nat) (T : List ez_C) (cz kz : Nat) : ∀ G : ez_F, fx_up X 6 G 151 0 [.ref 1] [] (ev_hp I J R T) cz kz = some (some (.int ((I 1 4) + (I 1 3))), (ev_hp I J R T), cz, kz) := by
  intro G
  rfl
theorem ea_S_Sheet_rimTotal_151_1 (X : ez_X) (I : Nat → Nat → Int32) (J : Nat → Nat → Int64) (R : Nat → Nat) (T : List ez_C)  : ev_W X 151 0 (ez_lay [.ref 1]) [] (ev_hp I J R T) 0 0 (fun r h1 c1 k1 => (r = some (.int ((I 1 4) + (I 1 3))) ∧ h1 = (ev_hp I J R T) ∧ c1 = 0 ∧ k1 = 0)) := by
  refine ev_ret (ea_S_Sheet_rimTotal_151_1_r1 X I J R T _ _) ?_
  exact ⟨rfl, rfl, rfl, rfl⟩
set_option maxRecDepth 100000 in
set_option maxHeartbeats 100000 in
theorem ea_S_Paper_add_121_8_r1 (X : ez_X) (I : Nat → Nat → Int32) (J : Nat → Nat → Int64) (R : Nat → Nat) (T : List ez_C) (a1 : Int64) (cz kz : Nat) : ∀ G : ez_F, fx_up X 6 G 121 0 [.ref 8, .long a1, ez_fill] [] (ev_hp I J R T) cz kz = ev_C G 39 [.ref 9, .int (I 8 1), .long a1] (ev_hp I J R T) fun r h1 c1 k1 => G 121 12 [.ref 8, .long a1, ez_fill] (r.toList ++ []) h1 (cz + c1) (kz + k1) := by
  intro G
  rfl
set_option maxRecDepth 100000 in
set_option maxHeartbeats 100000 in
theorem ea_S_Paper_add_121_8_r2 (X : ez_X) (I : Nat → Nat → Int32) (J : Nat → Nat → Int64) (R : Nat → Nat) (T : List ez_C) (a1 : Int64) (cz kz : Nat) : ∀ G : ez_F, fx_up X 11 G 121 12 [.ref 8, .long a1, ez_fill] [] (ev_hp I (ev_sJ J 9 (ev_putJ 30 (J 9) (I 8 1) a1)) R T) cz kz = some (some (.int (((I 8 1) + (1 : Int32)) - (1 : Int32))), (ev_hp (ev_sI I 8 (upd (I 8) 1 ((I 8 1) + (1 : Int32)))) (ev_sJ J 9 (ev_putJ 30 (J 9) (I 8 1) a1)) R T), cz, kz) := by
  intro G
  rfl
theorem ea_S_Paper_add_121_8 (X : ez_X) (I : Nat → Nat → Int32) (J : Nat → Nat → Int64) (R : Nat → Nat) (T : List ez_C) (a1 : Int64)  : ev_W X 121 0 (ez_lay [.ref 8, .long a1]) [] (ev_hp I J R T) 0 0 (fun r h1 c1 k1 => (r = some (.int (((I 8 1) + (1 : Int32)) - (1 : Int32))) ∧ h1 = (ev_hp (ev_sI I 8 (upd (I 8) 1 ((I 8 1) + (1 : Int32)))) (ev_sJ J 9 (ev_putJ 30 (J 9) (I 8 1) a1)) R T) ∧ c1 = 0 ∧ k1 = 0)) := by
  refine ev_call (ea_S_Paper_add_121_8_r1 X I J R T a1 _ _) (ec_putJ X (ev_hp I J R T) 30 9 (I 8 1) a1 (J 9) rfl (by decide)) ?_
  rintro _ _ _ _ ⟨rfl, rfl, rfl, rfl⟩
  refine ev_ret (ea_S_Paper_add_121_8_r2 X I J R T a1 _ _) ?_
  exact ⟨rfl, rfl, rfl, rfl⟩
set_option maxRecDepth 100000 in
set_option maxHeartbeats 100000 in
theorem ea_S_Paper_untell_127_8_r1 (X : ez_X) (I : Nat → Nat → Int32) (J : Nat → Nat → Int64) (R : Nat → Nat) (T : List ez_C) (a1 : Int32) (cz kz : Nat) : ∀ G : ez_F, fx_up X 24 G 127 0 [.ref 8, .int a1] [] (ev_hp I J R T) cz kz = G 127 38 [.ref 8, .int a1] [] (ev_hp I (ev_sJ J 8 (vp_updL (vp_updL (J 8) 2 ((J 8 2) &&& (((3 : Int64) <<< ((((2 : Int32) * a1) : Int32).toInt64 &&& 63)) ^^^ ((-1) : Int64)))) 3 ((J 8 3) &&& (((1 : Int64) <<< ((((2 : Int32) * a1) : Int32).toInt64 &&& 63)) ^^^ ((-1) : Int64))))) R T) cz kz := by
  intro G
  rfl
set_option maxRecDepth 100000 in
set_option maxHeartbeats 100000 in
theorem ea_S_Paper_untell_127_8_r2 (X : ez_X) (I : Nat → Nat → Int32) (J : Nat → Nat → Int64) (R : Nat → Nat) (T : List ez_C) (a1 : Int32) (cz kz : Nat) : ∀ G : ez_F, fx_up X 1 G 127 38 [.ref 8, .int a1] [] (ev_hp I (ev_sJ J 8 (vp_updL (vp_updL (J 8) 2 ((J 8 2) &&& (((3 : Int64) <<< ((((2 : Int32) * a1) : Int32).toInt64 &&& 63)) ^^^ ((-1) : Int64)))) 3 ((J 8 3) &&& (((1 : Int64) <<< ((((2 : Int32) * a1) : Int32).toInt64 &&& 63)) ^^^ ((-1) : Int64))))) R T) cz kz = some (none, (ev_hp I (ev_sJ J 8 (vp_updL (vp_updL (J 8) 2 ((J 8 2) &&& (((3 : Int64) <<< ((((2 : Int32) * a1) : Int32).toInt64 &&& 63)) ^^^ ((-1) : Int64)))) 3 ((J 8 3) &&& (((1 : Int64) <<< ((((2 : Int32) * a1) : Int32).toInt64 &&& 63)) ^^^ ((-1) : Int64))))) R T), cz, kz) := by
  intro G
  rfl
theorem ea_S_Paper_untell_127_8 (X : ez_X) (I : Nat → Nat → Int32) (J : Nat → Nat → Int64) (R : Nat → Nat) (T : List ez_C) (a1 : Int32)  : ev_W X 127 0 (ez_lay [.ref 8, .int a1]) [] (ev_hp I J R T) 0 0 (fun r h1 c1 k1 => (r = none ∧ h1 = (ev_hp I (ev_sJ J 8 (vp_updL (vp_updL (J 8) 2 ((J 8 2) &&& (((3 : Int64) <<< ((((2 : Int32) * a1) : Int32).toInt64 &&& 63)) ^^^ ((-1) : Int64)))) 3 ((J 8 3) &&& (((1 : Int64) <<< ((((2 : Int32) * a1) : Int32).toInt64 &&& 63)) ^^^ ((-1) : Int64))))) R T) ∧ c1 = 0 ∧ k1 = 0)) := by
  refine ev_seg (ea_S_Paper_untell_127_8_r1 X I J R T a1 _ _) ?_
  refine ev_ret (ea_S_Paper_untell_127_8_r2 X I J R T a1 _ _) ?_
  exact ⟨rfl, rfl, rfl, rfl⟩
set_option maxRecDepth 100000 in
set_option maxHeartbeats 100000 in
theorem ea_S_Paper_tell_125_8_r1 (X : ez_X) (I : Nat → Nat → Int32) (J : Nat → Nat → Int64) (R : Nat → Nat) (T : List ez_C) (a1 : Int32) (a2 : Int32) (cz kz : Nat) : ∀ G : ez_F, fx_up X 3 G 125 0 [.ref 8, .int a1, .int a2] [] (ev_hp I J R T) cz kz = ev_C G 127 [.ref 8, .int a1] (ev_hp I J R T) fun r h1 c1 k1 => G 125 5 [.ref 8, .int a1, .int a2] (r.toList ++ []) h1 (cz + c1) (kz + k1) := by
  intro G
  rfl
set_option maxRecDepth 100000 in
set_option maxHeartbeats 100000 in
theorem ea_S_Paper_tell_125_8_r2 (X : ez_X) (I : Nat → Nat → Int32) (J : Nat → Nat → Int64) (R : Nat → Nat) (T : List ez_C) (a1 : Int32) (a2 : Int32) (cz kz : Nat) : ∀ G : ez_F, fx_up X 22 G 125 5 [.ref 8, .int a1, .int a2] [] (ev_hp I (ev_sJ J 8 (vp_updL (vp_updL (J 8) 2 ((J 8 2) &&& (((3 : Int64) <<< ((((2 : Int32) * a1) : Int32).toInt64 &&& 63)) ^^^ ((-1) : Int64)))) 3 ((J 8 3) &&& (((1 : Int64) <<< ((((2 : Int32) * a1) : Int32).toInt64 &&& 63)) ^^^ ((-1) : Int64))))) R T) cz kz = some (none, (ev_hp I (ev_sJ J 8 (vp_updL (vp_updL (J 8) 2 (((J 8 2) &&& (((3 : Int64) <<< ((((2 : Int32) * a1) : Int32).toInt64 &&& 63)) ^^^ ((-1) : Int64))) ||| ((a2.toInt64) <<< ((((2 : Int32) * a1) : Int32).toInt64 &&& 63)))) 3 (((J 8 3) &&& (((1 : Int64) <<< ((((2 : Int32) * a1) : Int32).toInt64 &&& 63)) ^^^ ((-1) : Int64))) ||| ((1 : Int64) <<< ((((2 : Int32) * a1) : Int32).toInt64 &&& 63))))) R T), cz, kz) := by
  intro G
  rfl
theorem ea_S_Paper_tell_125_8 (X : ez_X) (I : Nat → Nat → Int32) (J : Nat → Nat → Int64) (R : Nat → Nat) (T : List ez_C) (a1 : Int32) (a2 : Int32)  : ev_W X 125 0 (ez_lay [.ref 8, .int a1, .int a2]) [] (ev_hp I J R T) 0 0 (fun r h1 c1 k1 => (r = none ∧ h1 = (ev_hp I (ev_sJ J 8 (vp_updL (vp_updL (J 8) 2 (((J 8 2) &&& (((3 : Int64) <<< ((((2 : Int32) * a1) : Int32).toInt64 &&& 63)) ^^^ ((-1) : Int64))) ||| ((a2.toInt64) <<< ((((2 : Int32) * a1) : Int32).toInt64 &&& 63)))) 3 (((J 8 3) &&& (((1 : Int64) <<< ((((2 : Int32) * a1) : Int32).toInt64 &&& 63)) ^^^ ((-1) : Int64))) ||| ((1 : Int64) <<< ((((2 : Int32) * a1) : Int32).toInt64 &&& 63))))) R T) ∧ c1 = 0 ∧ k1 = 0)) := by
  refine ev_call (ea_S_Paper_tell_125_8_r1 X I J R T a1 a2 _ _) (ea_S_Paper_untell_127_8 X I J R T a1) ?_
  rintro r0 _ _ _ (⟨rfl, rfl, rfl, rfl⟩)
  refine ev_ret (ea_S_Paper_tell_125_8_r2 X I J R T a1 a2 _ _) ?_
  exact ⟨rfl, rfl, rfl, rfl⟩
set_option maxRecDepth 100000 in
set_option maxHeartbeats 100000 in
theorem ea_S_Paper_dropLast_123_8_r1 (X : ez_X) (I : Nat → Nat → Int32) (J : Nat → Nat → Int64) (R : Nat → Nat) (T : List ez_C) (cz kz : Nat) : ∀ G : ez_F, fx_up X 3 G 123 0 [.ref 8] [] (ev_hp I J R T) cz kz = bif decide ((I 8 1) ≤ 0) then G 123 25 [.ref 8] [] (ev_hp I J R T) cz kz else G 123 7 [.ref 8] [] (ev_hp I J R T) cz kz := by
  intro G
  rfl
set_option maxRecDepth 100000 in
set_option maxHeartbeats 100000 in
theorem ea_S_Paper_dropLast_123_8_r2 (X : ez_X) (I : Nat → Nat → Int32) (J : Nat → Nat → Int64) (R : Nat → Nat) (T : List ez_C) (cz kz : Nat) : ∀ G : ez_F, fx_up X 1 G 123 25 [.ref 8] [] (ev_hp I J R T) cz kz = some (none, (ev_hp I J R T), cz, kz) := by
  intro G
  rfl
set_option maxRecDepth 100000 in
set_option maxHeartbeats 100000 in
theorem ea_S_Paper_dropLast_123_8_r3 (X : ez_X) (I : Nat → Nat → Int32) (J : Nat → Nat → Int64) (R : Nat → Nat) (T : List ez_C) (cz kz : Nat) : ∀ G : ez_F, fx_up X 10 G 123 7 [.ref 8] [] (ev_hp I J R T) cz kz = ev_C G 127 [.ref 8, .int ((I 8 1) - (1 : Int32))] (ev_hp (ev_sI I 8 (upd (I 8) 1 ((I 8 1) - (1 : Int32)))) J R T) fun r h1 c1 k1 => G 123 25 [.ref 8] (r.toList ++ []) h1 (cz + c1) (kz + k1) := by
  intro G
  rfl
set_option maxRecDepth 100000 in
set_option maxHeartbeats 100000 in
theorem ea_S_Paper_dropLast_123_8_r4 (X : ez_X) (I : Nat → Nat → Int32) (J : Nat → Nat → Int64) (R : Nat → Nat) (T : List ez_C) (cz kz : Nat) : ∀ G : ez_F, fx_up X 1 G 123 25 [.ref 8] [] (ev_hp (ev_sI I 8 (upd (I 8) 1 ((I 8 1) - (1 : Int32)))) (ev_sJ J 8 (vp_updL (vp_updL (J 8) 2 ((J 8 2) &&& (((3 : Int64) <<< ((((2 : Int32) * ((I 8 1) - (1 : Int32))) : Int32).toInt64 &&& 63)) ^^^ ((-1) : Int64)))) 3 ((J 8 3) &&& (((1 : Int64) <<< ((((2 : Int32) * ((I 8 1) - (1 : Int32))) : Int32).toInt64 &&& 63)) ^^^ ((-1) : Int64))))) R T) cz kz = some (none, (ev_hp (ev_sI I 8 (upd (I 8) 1 ((I 8 1) - (1 : Int32)))) (ev_sJ J 8 (vp_updL (vp_updL (J 8) 2 ((J 8 2) &&& (((3 : Int64) <<< ((((2 : Int32) * ((I 8 1) - (1 : Int32))) : Int32).toInt64 &&& 63)) ^^^ ((-1) : Int64)))) 3 ((J 8 3) &&& (((1 : Int64) <<< ((((2 : Int32) * ((I 8 1) - (1 : Int32))) : Int32).toInt64 &&& 63)) ^^^ ((-1) : Int64))))) R T), cz, kz) := by
  intro G
  rfl
theorem ea_S_Paper_dropLast_123_8 (X : ez_X) (I : Nat → Nat → Int32) (J : Nat → Nat → Int64) (R : Nat → Nat) (T : List ez_C)  : ev_W X 123 0 (ez_lay [.ref 8]) [] (ev_hp I J R T) 0 0 (fun r h1 c1 k1 => (((I 8 1) ≤ 0) ∧ r = none ∧ h1 = (ev_hp I J R T) ∧ c1 = 0 ∧ k1 = 0) ∨ ((¬ ((I 8 1) ≤ 0)) ∧ r = none ∧ h1 = (ev_hp (ev_sI I 8 (upd (I 8) 1 ((I 8 1) - (1 : Int32)))) (ev_sJ J 8 (vp_updL (vp_updL (J 8) 2 ((J 8 2) &&& (((3 : Int64) <<< ((((2 : Int32) * ((I 8 1) - (1 : Int32))) : Int32).toInt64 &&& 63)) ^^^ ((-1) : Int64)))) 3 ((J 8 3) &&& (((1 : Int64) <<< ((((2 : Int32) * ((I 8 1) - (1 : Int32))) : Int32).toInt64 &&& 63)) ^^^ ((-1) : Int64))))) R T) ∧ c1 = 0 ∧ k1 = 0)) := by
  refine ev_if (ea_S_Paper_dropLast_123_8_r1 X I J R T _ _) (fun b1 => ?_) (fun b1 => ?_)
  · replace b1 := of_decide_eq_true b1
    refine ev_ret (ea_S_Paper_dropLast_123_8_r2 X I J R T _ _) ?_
    exact Or.inl ⟨b1, rfl, rfl, rfl, rfl⟩
  · replace b1 := of_decide_eq_false b1
    refine ev_call (ea_S_Paper_dropLast_123_8_r3 X I J R T _ _) (ea_S_Paper_untell_127_8 X (ev_sI I 8 (upd (I 8) 1 ((I 8 1) - (1 : Int32)))) J R T ((I 8 1) - (1 : Int32))) ?_
    rintro r0 _ _ _ (⟨rfl, rfl, rfl, rfl⟩)
    refine ev_ret (ea_S_Paper_dropLast_123_8_r4 X I J R T _ _) ?_
    exact Or.inr (⟨b1, rfl, rfl, rfl, rfl⟩)
set_option maxRecDepth 100000 in
set_option maxHeartbeats 100000 in
theorem ea_S_Edges_tell_81_32_r1 (X : ez_X) (I : Nat → Nat → Int32) (J : Nat → Nat → Int64) (R : Nat → Nat) (T : List ez_C) (a1 : Int32) (a2 : Int32) (cz kz : Nat) : ∀ G : ez_F, fx_up X 4 G 81 0 [.ref 32, .int a1, .int a2] [] (ev_hp I J R T) cz kz = ev_C G 3 [.ref 33, .int a1] (ev_hp I J R T) fun r h1 c1 k1 => G 81 8 [.ref 32, .int a1, .int a2] (r.toList ++ []) h1 (cz + c1) (kz + k1) := by
  intro G
  rfl
set_option maxRecDepth 100000 in
set_option maxHeartbeats 100000 in
theorem ea_S_Edges_tell_81_32_r2 (X : ez_X) (I : Nat → Nat → Int32) (J : Nat → Nat → Int64) (R : Nat → Nat) (T : List ez_C) (a1 : Int32) (a2 : Int32) (q41 : Int32) (cz kz : Nat) : ∀ G : ez_F, fx_up X 6 G 81 8 [.ref 32, .int a1, .int a2] [.int q41] (ev_hp I J R T) cz kz = ev_C G 38 [.ref 33, .int a1, .int a2] (ev_hp I J R T) fun r h1 c1 k1 => G 81 18 [.ref 32, .int a1, .int a2, .int q41] (r.toList ++ []) h1 (cz + c1) (kz + k1) := by
  intro G
  rfl
set_option maxRecDepth 100000 in
set_option maxHeartbeats 100000 in
theorem ea_S_Edges_tell_81_32_r3 (X : ez_X) (I : Nat → Nat → Int32) (J : Nat → Nat → Int64) (R : Nat → Nat) (T : List ez_C) (a1 : Int32) (a2 : Int32) (q41 : Int32) (cz kz : Nat) : ∀ G : ez_F, fx_up X 2 G 81 18 [.ref 32, .int a1, .int a2, .int q41] [] (ev_hp (ev_sI I 33 (ev_put 12 (I 33) a1 a2)) J R T) cz kz = some (some (.int q41), (ev_hp (ev_sI I 33 (ev_put 12 (I 33) a1 a2)) J R T), cz, kz) := by
  intro G
  rfl
theorem ea_S_Edges_tell_81_32 (X : ez_X) (I : Nat → Nat → Int32) (J : Nat → Nat → Int64) (R : Nat → Nat) (T : List ez_C) (a1 : Int32) (a2 : Int32)  : ev_W X 81 0 (ez_lay [.ref 32, .int a1, .int a2]) [] (ev_hp I J R T) 0 0 (fun r h1 c1 k1 => (r = some (.int (ev_at 12 (I 33) a1)) ∧ h1 = (ev_hp (ev_sI I 33 (ev_put 12 (I 33) a1 a2)) J R T) ∧ c1 = 0 ∧ k1 = 0)) := by
  refine ev_call (ea_S_Edges_tell_81_32_r1 X I J R T a1 a2 _ _) (ec_at X (ev_hp I J R T) 12 33 a1 (I 33) rfl (by decide)) ?_
  rintro _ _ _ _ ⟨rfl, rfl, rfl, rfl⟩
  generalize hq41 : ev_at 12 (I 33) a1 = q41
  refine ev_call (ea_S_Edges_tell_81_32_r2 X I J R T a1 a2 q41 _ _) (ec_put X (ev_hp I J R T) 12 33 a1 a2 (I 33) rfl (by decide)) ?_
  rintro _ _ _ _ ⟨rfl, rfl, rfl, rfl⟩
  refine ev_ret (ea_S_Edges_tell_81_32_r3 X I J R T a1 a2 q41 _ _) ?_
  subst hq41
  exact ⟨rfl, rfl, rfl, rfl⟩
set_option maxRecDepth 100000 in
set_option maxHeartbeats 100000 in
theorem ec_become_l0_r1 (X : ez_X) (I : Nat → Nat → Int32) (J : Nat → Nat → Int64) (R : Nat → Nat) (T : List ez_C) (w : Int32) (h : Int32) (z : Int64) (y : Int32) (cz kz : Nat) : ∀ G : ez_F, fx_up X 3 G 145 52 [.ref 1, .int w, .int h, .int 0, .int y] [] (ev_hp (ev_sI I 1 (upd (upd (upd (upd (upd (upd (I 1) 3 w) 4 h) 5 0) 6 (w * h)) 1 0) 2 0)) (ev_sJ J 1 (vp_updL (vp_updL (J 1) 7 (((1 : Int64) <<< ((w * h).toInt64 &&& 63)) - (1 : Int64))) 8 z)) R T) cz kz = bif decide (h ≤ y) then G 145 79 [.ref 1, .int w, .int h, .int 0, .int y] [] (ev_hp (ev_sI I 1 (upd (upd (upd (upd (upd (upd (I 1) 3 w) 4 h) 5 0) 6 (w * h)) 1 0) 2 0)) (ev_sJ J 1 (vp_updL (vp_updL (J 1) 7 (((1 : Int64) <<< ((w * h).toInt64 &&& 63)) - (1 : Int64))) 8 z)) R T) cz kz else G 145 58 [.ref 1, .int w, .int h, .int 0, .int y] [] (ev_hp (ev_sI I 1 (upd (upd (upd (upd (upd (upd (I 1) 3 w) 4 h) 5 0) 6 (w * h)) 1 0) 2 0)) (ev_sJ J 1 (vp_updL (vp_updL (J 1) 7 (((1 : Int64) <<< ((w * h).toInt64 &&& 63)) - (1 : Int64))) 8 z)) R T) cz kz := by
  intro G
  rfl
set_option maxRecDepth 100000 in
set_option maxHeartbeats 100000 in
theorem ec_become_l0_r2 (X : ez_X) (I : Nat → Nat → Int32) (J : Nat → Nat → Int64) (R : Nat → Nat) (T : List ez_C) (w : Int32) (h : Int32) (z : Int64) (y : Int32) (cz kz : Nat) : ∀ G : ez_F, fx_up X 9 G 145 79 [.ref 1, .int w, .int h, .int 0, .int y] [] (ev_hp (ev_sI I 1 (upd (upd (upd (upd (upd (upd (I 1) 3 w) 4 h) 5 0) 6 (w * h)) 1 0) 2 0)) (ev_sJ J 1 (vp_updL (vp_updL (J 1) 7 (((1 : Int64) <<< ((w * h).toInt64 &&& 63)) - (1 : Int64))) 8 z)) R T) cz kz = some (none, (ev_hp (ev_sI I 1 (upd (upd (upd (upd (upd (upd (I 1) 3 w) 4 h) 5 0) 6 (w * h)) 1 0) 2 0)) (ev_sJ J 1 (vp_updL (vp_updL (vp_updL (J 1) 7 (((1 : Int64) <<< ((w * h).toInt64 &&& 63)) - (1 : Int64))) 8 z) 9 (z <<< (((w - (1 : Int32)) : Int32).toInt64 &&& 63)))) R T), cz, kz) := by
  intro G
  rfl
set_option maxRecDepth 100000 in
set_option maxHeartbeats 100000 in
theorem ec_become_l0_r3 (X : ez_X) (I : Nat → Nat → Int32) (J : Nat → Nat → Int64) (R : Nat → Nat) (T : List ez_C) (w : Int32) (h : Int32) (z : Int64) (y : Int32) (cz kz : Nat) : ∀ G : ez_F, fx_up X 12 G 145 58 [.ref 1, .int w, .int h, .int 0, .int y] [] (ev_hp (ev_sI I 1 (upd (upd (upd (upd (upd (upd (I 1) 3 w) 4 h) 5 0) 6 (w * h)) 1 0) 2 0)) (ev_sJ J 1 (vp_updL (vp_updL (J 1) 7 (((1 : Int64) <<< ((w * h).toInt64 &&& 63)) - (1 : Int64))) 8 z)) R T) cz kz = G 145 52 [.ref 1, .int w, .int h, .int 0, .int (y + (1 : Int32))] [] (ev_hp (ev_sI I 1 (upd (upd (upd (upd (upd (upd (I 1) 3 w) 4 h) 5 0) 6 (w * h)) 1 0) 2 0)) (ev_sJ J 1 (vp_updL (vp_updL (J 1) 7 (((1 : Int64) <<< ((w * h).toInt64 &&& 63)) - (1 : Int64))) 8 (z ||| ((1 : Int64) <<< (((w * y) : Int32).toInt64 &&& 63))))) R T) cz kz := by
  intro G
  rfl
theorem ec_become_l0 (X : ez_X) (I : Nat → Nat → Int32) (J : Nat → Nat → Int64) (R : Nat → Nat) (T : List ez_C) (w : Int32) (h : Int32)  : ∀ (n : Nat) (z : Int64) (y : Int32), (h.toInt - y.toInt).toNat < n → ev_W X 145 52 [.ref 1, .int w, .int h, .int 0, .int y] [] (ev_hp (ev_sI I 1 (upd (upd (upd (upd (upd (upd (I 1) 3 w) 4 h) 5 0) 6 (w * h)) 1 0) 2 0)) (ev_sJ J 1 (vp_updL (vp_updL (J 1) 7 (((1 : Int64) <<< ((w * h).toInt64 &&& 63)) - (1 : Int64))) 8 z)) R T) 0 0 (fun r0 h1 c1 k1 => r0 = none ∧ (∃ z y : Int64, h1 = ev_hp (ev_sI I 1 (upd (upd (upd (upd (upd (upd (I 1) 3 w) 4 h) 5 0) 6 (w * h)) 1 0) 2 0)) (ev_sJ J 1 (vp_updL (vp_updL (vp_updL (J 1) 7 (((1 : Int64) <<< ((w * h).toInt64 &&& 63)) - (1 : Int64))) 8 z) 9 y)) R T) ∧ c1 = 0 ∧ k1 = 0) := by
  intro n
  induction n with
  | zero => intro z y hm; exact absurd hm (Nat.not_lt_zero _)
  | succ n ih =>
    intro z y hm
    refine ev_if (ec_become_l0_r1 X I J R T w h z y _ _) (fun b1 => ?_) (fun b1 => ?_)
    · replace b1 := of_decide_eq_true b1
      refine ev_ret (ec_become_l0_r2 X I J R T w h z y _ _) ?_
      exact ⟨rfl, ⟨_, _, rfl⟩, rfl, rfl⟩
    · replace b1 := of_decide_eq_false b1
      refine ev_seg (ec_become_l0_r3 X I J R T w h z y _ _) ?_
      exact ih _ _ (ev_up hm b1)
set_option maxRecDepth 100000 in
set_option maxHeartbeats 100000 in
theorem ec_become0_r1 (X : ez_X) (I : Nat → Nat → Int32) (J : Nat → Nat → Int64) (R : Nat → Nat) (T : List ez_C) (w : Int32) (h : Int32) (cz kz : Nat) : ∀ G : ez_F, fx_up X 24 G 145 0 [.ref 1, .int w, .int h, .int 0] [] (ev_hp I J R T) cz kz = G 145 38 [.ref 1, .int w, .int h, .int 0] [.int (w * h), .long 1, .ref 1] (ev_hp (ev_sI I 1 (upd (upd (upd (upd (upd (upd (I 1) 3 w) 4 h) 5 0) 6 (w * h)) 1 0) 2 0)) J R T) cz kz := by
  intro G
  rfl
set_option maxRecDepth 100000 in
set_option maxHeartbeats 100000 in
theorem ec_become0_r2 (X : ez_X) (I : Nat → Nat → Int32) (J : Nat → Nat → Int64) (R : Nat → Nat) (T : List ez_C) (w : Int32) (h : Int32) (cz kz : Nat) : ∀ G : ez_F, fx_up X 9 G 145 38 [.ref 1, .int w, .int h, .int 0] [.int (w * h), .long 1, .ref 1] (ev_hp (ev_sI I 1 (upd (upd (upd (upd (upd (upd (I 1) 3 w) 4 h) 5 0) 6 (w * h)) 1 0) 2 0)) J R T) cz kz = G 145 52 [.ref 1, .int w, .int h, .int 0, .int 0] [] (ev_hp (ev_sI I 1 (upd (upd (upd (upd (upd (upd (I 1) 3 w) 4 h) 5 0) 6 (w * h)) 1 0) 2 0)) (ev_sJ J 1 (vp_updL (vp_updL (J 1) 7 (((1 : Int64) <<< (((w * h) : Int32).toInt64 &&& 63)) - (1 : Int64))) 8 0)) R T) cz kz := by
  intro G
  rfl
theorem ec_become0 (X : ez_X) (I : Nat → Nat → Int32) (J : Nat → Nat → Int64) (R : Nat → Nat) (T : List ez_C) (w : Int32) (h : Int32)  : ev_W X 145 0 (ez_lay [.ref 1, .int w, .int h, .int 0]) [] (ev_hp I J R T) 0 0 (fun r0 h1 c1 k1 => r0 = none ∧ (∃ z y : Int64, h1 = ev_hp (ev_sI I 1 (upd (upd (upd (upd (upd (upd (I 1) 3 w) 4 h) 5 0) 6 (w * h)) 1 0) 2 0)) (ev_sJ J 1 (vp_updL (vp_updL (vp_updL (J 1) 7 (((1 : Int64) <<< ((w * h).toInt64 &&& 63)) - (1 : Int64))) 8 z) 9 y)) R T) ∧ c1 = 0 ∧ k1 = 0) := by
  refine ev_seg (ec_become0_r1 X I J R T w h _ _) ?_
  refine ev_seg (ec_become0_r2 X I J R T w h _ _) ?_
  exact ec_become_l0 X I J R T w h _ _ _ (Nat.lt_succ_self _)
set_option maxRecDepth 100000 in
set_option maxHeartbeats 100000 in
theorem ec_become_l1_r1 (X : ez_X) (I : Nat → Nat → Int32) (J : Nat → Nat → Int64) (R : Nat → Nat) (T : List ez_C) (w : Int32) (h : Int32) (z : Int64) (y : Int32) (cz kz : Nat) : ∀ G : ez_F, fx_up X 3 G 145 52 [.ref 1, .int w, .int h, .int 1, .int y] [] (ev_hp (ev_sI I 1 (upd (upd (upd (upd (upd (upd (I 1) 3 w) 4 h) 5 1) 6 (w * h)) 1 0) 2 0)) (ev_sJ J 1 (vp_updL (vp_updL (J 1) 7 (((1 : Int64) <<< ((w * h).toInt64 &&& 63)) - (1 : Int64))) 8 z)) R T) cz kz = bif decide (h ≤ y) then G 145 79 [.ref 1, .int w, .int h, .int 1, .int y] [] (ev_hp (ev_sI I 1 (upd (upd (upd (upd (upd (upd (I 1) 3 w) 4 h) 5 1) 6 (w * h)) 1 0) 2 0)) (ev_sJ J 1 (vp_updL (vp_updL (J 1) 7 (((1 : Int64) <<< ((w * h).toInt64 &&& 63)) - (1 : Int64))) 8 z)) R T) cz kz else G 145 58 [.ref 1, .int w, .int h, .int 1, .int y] [] (ev_hp (ev_sI I 1 (upd (upd (upd (upd (upd (upd (I 1) 3 w) 4 h) 5 1) 6 (w * h)) 1 0) 2 0)) (ev_sJ J 1 (vp_updL (vp_updL (J 1) 7 (((1 : Int64) <<< ((w * h).toInt64 &&& 63)) - (1 : Int64))) 8 z)) R T) cz kz := by
  intro G
  rfl
set_option maxRecDepth 100000 in
set_option maxHeartbeats 100000 in
theorem ec_become_l1_r2 (X : ez_X) (I : Nat → Nat → Int32) (J : Nat → Nat → Int64) (R : Nat → Nat) (T : List ez_C) (w : Int32) (h : Int32) (z : Int64) (y : Int32) (cz kz : Nat) : ∀ G : ez_F, fx_up X 9 G 145 79 [.ref 1, .int w, .int h, .int 1, .int y] [] (ev_hp (ev_sI I 1 (upd (upd (upd (upd (upd (upd (I 1) 3 w) 4 h) 5 1) 6 (w * h)) 1 0) 2 0)) (ev_sJ J 1 (vp_updL (vp_updL (J 1) 7 (((1 : Int64) <<< ((w * h).toInt64 &&& 63)) - (1 : Int64))) 8 z)) R T) cz kz = some (none, (ev_hp (ev_sI I 1 (upd (upd (upd (upd (upd (upd (I 1) 3 w) 4 h) 5 1) 6 (w * h)) 1 0) 2 0)) (ev_sJ J 1 (vp_updL (vp_updL (vp_updL (J 1) 7 (((1 : Int64) <<< ((w * h).toInt64 &&& 63)) - (1 : Int64))) 8 z) 9 (z <<< (((w - (1 : Int32)) : Int32).toInt64 &&& 63)))) R T), cz, kz) := by
  intro G
  rfl
set_option maxRecDepth 100000 in
set_option maxHeartbeats 100000 in
theorem ec_become_l1_r3 (X : ez_X) (I : Nat → Nat → Int32) (J : Nat → Nat → Int64) (R : Nat → Nat) (T : List ez_C) (w : Int32) (h : Int32) (z : Int64) (y : Int32) (cz kz : Nat) : ∀ G : ez_F, fx_up X 12 G 145 58 [.ref 1, .int w, .int h, .int 1, .int y] [] (ev_hp (ev_sI I 1 (upd (upd (upd (upd (upd (upd (I 1) 3 w) 4 h) 5 1) 6 (w * h)) 1 0) 2 0)) (ev_sJ J 1 (vp_updL (vp_updL (J 1) 7 (((1 : Int64) <<< ((w * h).toInt64 &&& 63)) - (1 : Int64))) 8 z)) R T) cz kz = G 145 52 [.ref 1, .int w, .int h, .int 1, .int (y + (1 : Int32))] [] (ev_hp (ev_sI I 1 (upd (upd (upd (upd (upd (upd (I 1) 3 w) 4 h) 5 1) 6 (w * h)) 1 0) 2 0)) (ev_sJ J 1 (vp_updL (vp_updL (J 1) 7 (((1 : Int64) <<< ((w * h).toInt64 &&& 63)) - (1 : Int64))) 8 (z ||| ((1 : Int64) <<< (((w * y) : Int32).toInt64 &&& 63))))) R T) cz kz := by
  intro G
  rfl
theorem ec_become_l1 (X : ez_X) (I : Nat → Nat → Int32) (J : Nat → Nat → Int64) (R : Nat → Nat) (T : List ez_C) (w : Int32) (h : Int32)  : ∀ (n : Nat) (z : Int64) (y : Int32), (h.toInt - y.toInt).toNat < n → ev_W X 145 52 [.ref 1, .int w, .int h, .int 1, .int y] [] (ev_hp (ev_sI I 1 (upd (upd (upd (upd (upd (upd (I 1) 3 w) 4 h) 5 1) 6 (w * h)) 1 0) 2 0)) (ev_sJ J 1 (vp_updL (vp_updL (J 1) 7 (((1 : Int64) <<< ((w * h).toInt64 &&& 63)) - (1 : Int64))) 8 z)) R T) 0 0 (fun r0 h1 c1 k1 => r0 = none ∧ (∃ z y : Int64, h1 = ev_hp (ev_sI I 1 (upd (upd (upd (upd (upd (upd (I 1) 3 w) 4 h) 5 1) 6 (w * h)) 1 0) 2 0)) (ev_sJ J 1 (vp_updL (vp_updL (vp_updL (J 1) 7 (((1 : Int64) <<< ((w * h).toInt64 &&& 63)) - (1 : Int64))) 8 z) 9 y)) R T) ∧ c1 = 0 ∧ k1 = 0) := by
  intro n
  induction n with
  | zero => intro z y hm; exact absurd hm (Nat.not_lt_zero _)
  | succ n ih =>
    intro z y hm
    refine ev_if (ec_become_l1_r1 X I J R T w h z y _ _) (fun b1 => ?_) (fun b1 => ?_)
    · replace b1 := of_decide_eq_true b1
      refine ev_ret (ec_become_l1_r2 X I J R T w h z y _ _) ?_
      exact ⟨rfl, ⟨_, _, rfl⟩, rfl, rfl⟩
    · replace b1 := of_decide_eq_false b1
      refine ev_seg (ec_become_l1_r3 X I J R T w h z y _ _) ?_
      exact ih _ _ (ev_up hm b1)
set_option maxRecDepth 100000 in
set_option maxHeartbeats 100000 in
theorem ec_become1_r1 (X : ez_X) (I : Nat → Nat → Int32) (J : Nat → Nat → Int64) (R : Nat → Nat) (T : List ez_C) (w : Int32) (h : Int32) (cz kz : Nat) : ∀ G : ez_F, fx_up X 24 G 145 0 [.ref 1, .int w, .int h, .int 1] [] (ev_hp I J R T) cz kz = G 145 38 [.ref 1, .int w, .int h, .int 1] [.int (w * h), .long 1, .ref 1] (ev_hp (ev_sI I 1 (upd (upd (upd (upd (upd (upd (I 1) 3 w) 4 h) 5 1) 6 (w * h)) 1 0) 2 0)) J R T) cz kz := by
  intro G
  rfl
set_option maxRecDepth 100000 in
set_option maxHeartbeats 100000 in
theorem ec_become1_r2 (X : ez_X) (I : Nat → Nat → Int32) (J : Nat → Nat → Int64) (R : Nat → Nat) (T : List ez_C) (w : Int32) (h : Int32) (cz kz : Nat) : ∀ G : ez_F, fx_up X 9 G 145 38 [.ref 1, .int w, .int h, .int 1] [.int (w * h), .long 1, .ref 1] (ev_hp (ev_sI I 1 (upd (upd (upd (upd (upd (upd (I 1) 3 w) 4 h) 5 1) 6 (w * h)) 1 0) 2 0)) J R T) cz kz = G 145 52 [.ref 1, .int w, .int h, .int 1, .int 0] [] (ev_hp (ev_sI I 1 (upd (upd (upd (upd (upd (upd (I 1) 3 w) 4 h) 5 1) 6 (w * h)) 1 0) 2 0)) (ev_sJ J 1 (vp_updL (vp_updL (J 1) 7 (((1 : Int64) <<< (((w * h) : Int32).toInt64 &&& 63)) - (1 : Int64))) 8 0)) R T) cz kz := by
  intro G
  rfl
theorem ec_become1 (X : ez_X) (I : Nat → Nat → Int32) (J : Nat → Nat → Int64) (R : Nat → Nat) (T : List ez_C) (w : Int32) (h : Int32)  : ev_W X 145 0 (ez_lay [.ref 1, .int w, .int h, .int 1]) [] (ev_hp I J R T) 0 0 (fun r0 h1 c1 k1 => r0 = none ∧ (∃ z y : Int64, h1 = ev_hp (ev_sI I 1 (upd (upd (upd (upd (upd (upd (I 1) 3 w) 4 h) 5 1) 6 (w * h)) 1 0) 2 0)) (ev_sJ J 1 (vp_updL (vp_updL (vp_updL (J 1) 7 (((1 : Int64) <<< ((w * h).toInt64 &&& 63)) - (1 : Int64))) 8 z) 9 y)) R T) ∧ c1 = 0 ∧ k1 = 0) := by
  refine ev_seg (ec_become1_r1 X I J R T w h _ _) ?_
  refine ev_seg (ec_become1_r2 X I J R T w h _ _) ?_
  exact ec_become_l1 X I J R T w h _ _ _ (Nat.lt_succ_self _)
theorem ev_clr {f : Nat → Int32} {i : Int32} (h0 : 0 ≤ i.toInt) (hf : ∀ j : Nat, (j : Int) < i.toInt → f j = -1) (hi : ¬ 12 ≤ i) : 0 ≤ (i + 1).toInt ∧ ∀ j : Nat, (j : Int) < (i + 1).toInt → ev_put 12 f i (-1) j = -1 := by
  rw [ev_inc (Int32.not_le.mp hi)]
  refine ⟨by omega, fun j hj => ?_⟩
  have h3 : ¬ i < 0 := fun z => by
    have := Int32.lt_iff_toInt_lt.mp z
    have e : (0 : Int32).toInt = 0 := by decide
    omega
  unfold ev_put
  rw [if_neg h3, if_neg (show ¬ Int32.ofNat 12 ≤ i from hi)]
  unfold upd
  split
  · rfl
  · rename_i hne
    refine hf j ?_
    have e2 : i.toNatClampNeg = i.toInt.toNat := rfl
    omega
set_option maxRecDepth 100000 in
set_option maxHeartbeats 100000 in
theorem ec_eclear_l_r1 (X : ez_X) (I : Nat → Nat → Int32) (J : Nat → Nat → Int64) (R : Nat → Nat) (T : List ez_C) (i : Int32) (f : Nat → Int32) (cz kz : Nat) : ∀ G : ez_F, fx_up X 3 G 72 2 [.ref 32, .int i] [] (ev_hp (ev_sI I 33 f) J R T) cz kz = bif decide (12 ≤ i) then G 72 23 [.ref 32, .int i] [] (ev_hp (ev_sI I 33 f) J R T) cz kz else G 72 8 [.ref 32, .int i] [] (ev_hp (ev_sI I 33 f) J R T) cz kz := by
  intro G
  rfl
set_option maxRecDepth 100000 in
set_option maxHeartbeats 100000 in
theorem ec_eclear_l_r2 (X : ez_X) (I : Nat → Nat → Int32) (J : Nat → Nat → Int64) (R : Nat → Nat) (T : List ez_C) (i : Int32) (f : Nat → Int32) (cz kz : Nat) : ∀ G : ez_F, fx_up X 1 G 72 23 [.ref 32, .int i] [] (ev_hp (ev_sI I 33 f) J R T) cz kz = some (none, (ev_hp (ev_sI I 33 f) J R T), cz, kz) := by
  intro G
  rfl
set_option maxRecDepth 100000 in
set_option maxHeartbeats 100000 in
theorem ec_eclear_l_r3 (X : ez_X) (I : Nat → Nat → Int32) (J : Nat → Nat → Int64) (R : Nat → Nat) (T : List ez_C) (i : Int32) (f : Nat → Int32) (cz kz : Nat) : ∀ G : ez_F, fx_up X 5 G 72 8 [.ref 32, .int i] [] (ev_hp (ev_sI I 33 f) J R T) cz kz = ev_C G 38 [.ref 33, .int i, .int (-1)] (ev_hp (ev_sI I 33 f) J R T) fun r h1 c1 k1 => G 72 17 [.ref 32, .int i] (r.toList ++ []) h1 (cz + c1) (kz + k1) := by
  intro G
  rfl
set_option maxRecDepth 100000 in
set_option maxHeartbeats 100000 in
theorem ec_eclear_l_r4 (X : ez_X) (I : Nat → Nat → Int32) (J : Nat → Nat → Int64) (R : Nat → Nat) (T : List ez_C) (i : Int32) (f : Nat → Int32) (cz kz : Nat) : ∀ G : ez_F, fx_up X 2 G 72 17 [.ref 32, .int i] [] (ev_hp (ev_sI I 33 (ev_put 12 f i (-1))) J R T) cz kz = G 72 2 [.ref 32, .int (i + (1 : Int32))] [] (ev_hp (ev_sI I 33 (ev_put 12 f i (-1))) J R T) cz kz := by
  intro G
  rfl
theorem ec_eclear_l (X : ez_X) (I : Nat → Nat → Int32) (J : Nat → Nat → Int64) (R : Nat → Nat) (T : List ez_C)  : ∀ (n : Nat) (i : Int32) (f : Nat → Int32), ((12 : Int32).toInt - i.toInt).toNat < n → (0 ≤ i.toInt ∧ ∀ j : Nat, (j : Int) < i.toInt → f j = -1) → ev_W X 72 2 [.ref 32, .int i] [] (ev_hp (ev_sI I 33 f) J R T) 0 0 (fun r h1 c1 k1 => r = none ∧ (∃ f : Nat → Int32, (∀ j, j < 12 → f j = -1) ∧ h1 = ev_hp (ev_sI I 33 f) J R T) ∧ c1 = 0 ∧ k1 = 0) := by
  intro n
  induction n with
  | zero => intro i f hm; exact absurd hm (Nat.not_lt_zero _)
  | succ n ih =>
    intro i f hm h1
    refine ev_if (ec_eclear_l_r1 X I J R T i f _ _) (fun b1 => ?_) (fun b1 => ?_)
    · replace b1 := of_decide_eq_true b1
      refine ev_ret (ec_eclear_l_r2 X I J R T i f _ _) ?_
      refine ⟨rfl, ⟨_, fun j hj => h1.2 j ?_, rfl⟩, rfl, rfl⟩
      have := Int32.le_iff_toInt_le.mp b1
      have e : (12 : Int32).toInt = 12 := by decide
      omega
    · replace b1 := of_decide_eq_false b1
      refine ev_call (ec_eclear_l_r3 X I J R T i f _ _) (ec_put X (ev_hp (ev_sI I 33 f) J R T) 12 33 i (-1) f rfl (by decide)) ?_
      rintro _ _ _ _ ⟨rfl, rfl, rfl, rfl⟩
      refine ev_seg (ec_eclear_l_r4 X I J R T i f _ _) ?_
      exact ih _ _ (ev_up hm b1) (ev_clr h1.1 h1.2 b1)
set_option maxRecDepth 100000 in
set_option maxHeartbeats 100000 in
theorem ec_eclear_r1 (X : ez_X) (I : Nat → Nat → Int32) (J : Nat → Nat → Int64) (R : Nat → Nat) (T : List ez_C) (cz kz : Nat) : ∀ G : ez_F, fx_up X 2 G 72 0 [.ref 32] [] (ev_hp I J R T) cz kz = G 72 2 [.ref 32, .int 0] [] (ev_hp I J R T) cz kz := by
  intro G
  rfl
theorem ec_eclear (X : ez_X) (I : Nat → Nat → Int32) (J : Nat → Nat → Int64) (R : Nat → Nat) (T : List ez_C)  : ev_W X 72 0 (ez_lay [.ref 32]) [] (ev_hp I J R T) 0 0 (fun r h1 c1 k1 => r = none ∧ (∃ f : Nat → Int32, (∀ j, j < 12 → f j = -1) ∧ h1 = ev_hp (ev_sI I 33 f) J R T) ∧ c1 = 0 ∧ k1 = 0) := by
  refine ev_seg (ec_eclear_r1 X I J R T _ _) ?_
  exact ec_eclear_l X I J R T _ _ (I 33) (Nat.lt_succ_self _) ⟨by decide, fun j hj => absurd hj (Int.not_lt.mpr (Int.natCast_nonneg j))⟩
set_option maxRecDepth 100000 in
set_option maxHeartbeats 100000 in
theorem eg_grid0_r1 (X : ez_X) (I : Nat → Nat → Int32) (J : Nat → Nat → Int64) (R : Nat → Nat) (T : List ez_C) (w : Int32) (h : Int32) (cz kz : Nat) : ∀ G : ez_F, fx_up X 4 G 18 0 [.ref 0, .int w, .int h, .int 0] [] (ev_hp I J R T) cz kz = ev_C G 55 [.int w, .int 2, .int 6] (ev_hp I J R T) fun r h1 c1 k1 => G 18 7 [.ref 0, .int w, .int h, .int 0] (r.toList ++ []) h1 (cz + c1) (kz + k1) := by
  intro G
  rfl
set_option maxRecDepth 100000 in
set_option maxHeartbeats 100000 in
theorem eg_grid0_r2 (X : ez_X) (I : Nat → Nat → Int32) (J : Nat → Nat → Int64) (R : Nat → Nat) (T : List ez_C) (w : Int32) (h : Int32) (q10 : Int32) (cz kz : Nat) : ∀ G : ez_F, fx_up X 1 G 18 7 [.ref 0, .int w, .int h, .int 0] [.int q10] (ev_hp I J R T) cz kz = bif decide (q10 = 0) then G 18 20 [.ref 0, .int w, .int h, .int 0] [] (ev_hp I J R T) cz kz else G 18 10 [.ref 0, .int w, .int h, .int 0] [] (ev_hp I J R T) cz kz := by
  intro G
  rfl
set_option maxRecDepth 100000 in
set_option maxHeartbeats 100000 in
theorem eg_grid0_r3 (X : ez_X) (I : Nat → Nat → Int32) (J : Nat → Nat → Int64) (R : Nat → Nat) (T : List ez_C) (w : Int32) (h : Int32) (q10 : Int32) (cz kz : Nat) : ∀ G : ez_F, fx_up X 2 G 18 20 [.ref 0, .int w, .int h, .int 0] [] (ev_hp I J R T) cz kz = some (some (.int (-3)), (ev_hp I J R T), cz, kz) := by
  intro G
  rfl
set_option maxRecDepth 100000 in
set_option maxHeartbeats 100000 in
theorem eg_grid0_r4 (X : ez_X) (I : Nat → Nat → Int32) (J : Nat → Nat → Int64) (R : Nat → Nat) (T : List ez_C) (w : Int32) (h : Int32) (q10 : Int32) (cz kz : Nat) : ∀ G : ez_F, fx_up X 4 G 18 10 [.ref 0, .int w, .int h, .int 0] [] (ev_hp I J R T) cz kz = ev_C G 55 [.int h, .int 2, .int 6] (ev_hp I J R T) fun r h1 c1 k1 => G 18 17 [.ref 0, .int w, .int h, .int 0] (r.toList ++ []) h1 (cz + c1) (kz + k1) := by
  intro G
  rfl
set_option maxRecDepth 100000 in
set_option maxHeartbeats 100000 in
theorem eg_grid0_r5 (X : ez_X) (I : Nat → Nat → Int32) (J : Nat → Nat → Int64) (R : Nat → Nat) (T : List ez_C) (w : Int32) (h : Int32) (q10 : Int32) (q11 : Int32) (cz kz : Nat) : ∀ G : ez_F, fx_up X 1 G 18 17 [.ref 0, .int w, .int h, .int 0] [.int q11] (ev_hp I J R T) cz kz = bif decide (¬ q11 = 0) then G 18 23 [.ref 0, .int w, .int h, .int 0] [] (ev_hp I J R T) cz kz else G 18 20 [.ref 0, .int w, .int h, .int 0] [] (ev_hp I J R T) cz kz := by
  intro G
  rfl
set_option maxRecDepth 100000 in
set_option maxHeartbeats 100000 in
theorem eg_grid0_r6 (X : ez_X) (I : Nat → Nat → Int32) (J : Nat → Nat → Int64) (R : Nat → Nat) (T : List ez_C) (w : Int32) (h : Int32) (q10 : Int32) (q11 : Int32) (cz kz : Nat) : ∀ G : ez_F, fx_up X 6 G 18 23 [.ref 0, .int w, .int h, .int 0] [] (ev_hp I J R T) cz kz = ev_C G 145 [.ref 1, .int w, .int h, .int 0] (ev_hp I J R T) fun r h1 c1 k1 => G 18 33 [.ref 0, .int w, .int h, .int 0] (r.toList ++ []) h1 (cz + c1) (kz + k1) := by
  intro G
  rfl
set_option maxRecDepth 100000 in
set_option maxHeartbeats 100000 in
theorem eg_grid0_r7 (X : ez_X) (I : Nat → Nat → Int32) (J : Nat → Nat → Int64) (R : Nat → Nat) (T : List ez_C) (w : Int32) (h : Int32) (q10 : Int32) (q11 : Int32) (z15 : Int64) (y16 : Int64) (cz kz : Nat) : ∀ G : ez_F, fx_up X 3 G 18 33 [.ref 0, .int w, .int h, .int 0] [] (ev_hp (ev_sI I 1 (upd (upd (upd (upd (upd (upd (I 1) 3 w) 4 h) 5 0) 6 (w * h)) 1 0) 2 0)) (ev_sJ J 1 (vp_updL (vp_updL (vp_updL (J 1) 7 (((1 : Int64) <<< ((w * h).toInt64 &&& 63)) - (1 : Int64))) 8 z15) 9 y16)) R T) cz kz = ev_C G 88 [.ref 3] (ev_hp (ev_sI I 1 (upd (upd (upd (upd (upd (upd (I 1) 3 w) 4 h) 5 0) 6 (w * h)) 1 0) 2 0)) (ev_sJ J 1 (vp_updL (vp_updL (vp_updL (J 1) 7 (((1 : Int64) <<< ((w * h).toInt64 &&& 63)) - (1 : Int64))) 8 z15) 9 y16)) R T) fun r h1 c1 k1 => G 18 40 [.ref 0, .int w, .int h, .int 0] (r.toList ++ []) h1 (cz + c1) (kz + k1) := by
  intro G
  rfl
set_option maxRecDepth 100000 in
set_option maxHeartbeats 100000 in
theorem eg_grid0_r8 (X : ez_X) (I : Nat → Nat → Int32) (J : Nat → Nat → Int64) (R : Nat → Nat) (T : List ez_C) (w : Int32) (h : Int32) (q10 : Int32) (q11 : Int32) (z15 : Int64) (y16 : Int64) (cz kz : Nat) : ∀ G : ez_F, fx_up X 3 G 18 40 [.ref 0, .int w, .int h, .int 0] [] (ev_hp (ev_sI (ev_sI I 1 (upd (upd (upd (upd (upd (upd (I 1) 3 w) 4 h) 5 0) 6 (w * h)) 1 0) 2 0)) 3 (upd (I 3) 3 0)) (ev_sJ J 1 (vp_updL (vp_updL (vp_updL (J 1) 7 (((1 : Int64) <<< ((w * h).toInt64 &&& 63)) - (1 : Int64))) 8 z15) 9 y16)) R T) cz kz = ev_C G 122 [.ref 8] (ev_hp (ev_sI (ev_sI I 1 (upd (upd (upd (upd (upd (upd (I 1) 3 w) 4 h) 5 0) 6 (w * h)) 1 0) 2 0)) 3 (upd (I 3) 3 0)) (ev_sJ J 1 (vp_updL (vp_updL (vp_updL (J 1) 7 (((1 : Int64) <<< ((w * h).toInt64 &&& 63)) - (1 : Int64))) 8 z15) 9 y16)) R T) fun r h1 c1 k1 => G 18 47 [.ref 0, .int w, .int h, .int 0] (r.toList ++ []) h1 (cz + c1) (kz + k1) := by
  intro G
  rfl
set_option maxRecDepth 100000 in
set_option maxHeartbeats 100000 in
theorem eg_grid0_r9 (X : ez_X) (I : Nat → Nat → Int32) (J : Nat → Nat → Int64) (R : Nat → Nat) (T : List ez_C) (w : Int32) (h : Int32) (q10 : Int32) (q11 : Int32) (z15 : Int64) (y16 : Int64) (cz kz : Nat) : ∀ G : ez_F, fx_up X 3 G 18 47 [.ref 0, .int w, .int h, .int 0] [] (ev_hp (ev_sI (ev_sI (ev_sI I 1 (upd (upd (upd (upd (upd (upd (I 1) 3 w) 4 h) 5 0) 6 (w * h)) 1 0) 2 0)) 3 (upd (I 3) 3 0)) 8 (upd (I 8) 1 0)) (ev_sJ (ev_sJ J 1 (vp_updL (vp_updL (vp_updL (J 1) 7 (((1 : Int64) <<< ((w * h).toInt64 &&& 63)) - (1 : Int64))) 8 z15) 9 y16)) 8 (vp_updL (vp_updL (J 8) 2 0) 3 0)) R T) cz kz = ev_C G 72 [.ref 32] (ev_hp (ev_sI (ev_sI (ev_sI I 1 (upd (upd (upd (upd (upd (upd (I 1) 3 w) 4 h) 5 0) 6 (w * h)) 1 0) 2 0)) 3 (upd (I 3) 3 0)) 8 (upd (I 8) 1 0)) (ev_sJ (ev_sJ J 1 (vp_updL (vp_updL (vp_updL (J 1) 7 (((1 : Int64) <<< ((w * h).toInt64 &&& 63)) - (1 : Int64))) 8 z15) 9 y16)) 8 (vp_updL (vp_updL (J 8) 2 0) 3 0)) R T) fun r h1 c1 k1 => G 18 54 [.ref 0, .int w, .int h, .int 0] (r.toList ++ []) h1 (cz + c1) (kz + k1) := by
  intro G
  rfl
set_option maxRecDepth 100000 in
set_option maxHeartbeats 100000 in
theorem eg_grid0_r10 (X : ez_X) (I : Nat → Nat → Int32) (J : Nat → Nat → Int64) (R : Nat → Nat) (T : List ez_C) (w : Int32) (h : Int32) (q10 : Int32) (q11 : Int32) (z15 : Int64) (y16 : Int64) (f17 : Nat → Int32) (cz kz : Nat) : ∀ G : ez_F, fx_up X 2 G 18 54 [.ref 0, .int w, .int h, .int 0] [] (ev_hp (ev_sI (ev_sI (ev_sI (ev_sI I 1 (upd (upd (upd (upd (upd (upd (I 1) 3 w) 4 h) 5 0) 6 (w * h)) 1 0) 2 0)) 3 (upd (I 3) 3 0)) 8 (upd (I 8) 1 0)) 33 f17) (ev_sJ (ev_sJ J 1 (vp_updL (vp_updL (vp_updL (J 1) 7 (((1 : Int64) <<< ((w * h).toInt64 &&& 63)) - (1 : Int64))) 8 z15) 9 y16)) 8 (vp_updL (vp_updL (J 8) 2 0) 3 0)) R T) cz kz = ev_C G 28 [.ref 0] (ev_hp (ev_sI (ev_sI (ev_sI (ev_sI I 1 (upd (upd (upd (upd (upd (upd (I 1) 3 w) 4 h) 5 0) 6 (w * h)) 1 0) 2 0)) 3 (upd (I 3) 3 0)) 8 (upd (I 8) 1 0)) 33 f17) (ev_sJ (ev_sJ J 1 (vp_updL (vp_updL (vp_updL (J 1) 7 (((1 : Int64) <<< ((w * h).toInt64 &&& 63)) - (1 : Int64))) 8 z15) 9 y16)) 8 (vp_updL (vp_updL (J 8) 2 0) 3 0)) R T) fun r h1 c1 k1 => G 18 58 [.ref 0, .int w, .int h, .int 0] (r.toList ++ []) h1 (cz + c1) (kz + k1) := by
  intro G
  rfl
set_option maxRecDepth 100000 in
set_option maxHeartbeats 100000 in
theorem eg_grid0_r11 (X : ez_X) (I : Nat → Nat → Int32) (J : Nat → Nat → Int64) (R : Nat → Nat) (T : List ez_C) (w : Int32) (h : Int32) (q10 : Int32) (q11 : Int32) (z15 : Int64) (y16 : Int64) (f17 : Nat → Int32) (cz kz : Nat) : ∀ G : ez_F, fx_up X 4 G 18 58 [.ref 0, .int w, .int h, .int 0] [] (ev_hp (ev_sI (ev_sI (ev_sI (ev_sI (ev_sI (ev_sI (ev_sI (ev_sI I 1 (upd (upd (upd (upd (upd (upd (I 1) 3 w) 4 h) 5 0) 6 (w * h)) 1 0) 2 0)) 3 (upd (I 3) 3 0)) 6 (upd (I 6) 4 0)) 8 (upd (I 8) 1 0)) 13 (upd (upd (I 13) 8 0) 9 0)) 20 (upd (I 20) 3 0)) 22 (upd (upd (I 22) 8 0) 11 (-1))) 33 f17) (ev_sJ (ev_sJ J 1 (vp_updL (vp_updL (vp_updL (J 1) 7 (((1 : Int64) <<< ((w * h).toInt64 &&& 63)) - (1 : Int64))) 8 z15) 9 y16)) 8 (vp_updL (vp_updL (J 8) 2 0) 3 0)) R T) cz kz = some (some (.int (w * h)), (ev_hp (ev_sI (ev_sI (ev_sI (ev_sI (ev_sI (ev_sI (ev_sI (ev_sI I 1 (upd (upd (upd (upd (upd (upd (I 1) 3 w) 4 h) 5 0) 6 (w * h)) 1 0) 2 0)) 3 (upd (I 3) 3 0)) 6 (upd (I 6) 4 0)) 8 (upd (I 8) 1 0)) 13 (upd (upd (I 13) 8 0) 9 0)) 20 (upd (I 20) 3 0)) 22 (upd (upd (I 22) 8 0) 11 (-1))) 33 f17) (ev_sJ (ev_sJ J 1 (vp_updL (vp_updL (vp_updL (J 1) 7 (((1 : Int64) <<< ((w * h).toInt64 &&& 63)) - (1 : Int64))) 8 z15) 9 y16)) 8 (vp_updL (vp_updL (J 8) 2 0) 3 0)) R T), cz, kz) := by
  intro G
  rfl
set_option maxRecDepth 100000 in
set_option maxHeartbeats 100000 in
theorem eg_grid0_r12 (X : ez_X) (I : Nat → Nat → Int32) (J : Nat → Nat → Int64) (R : Nat → Nat) (T : List ez_C) (w : Int32) (h : Int32) (q10 : Int32) (q11 : Int32) (cz kz : Nat) : ∀ G : ez_F, fx_up X 2 G 18 20 [.ref 0, .int w, .int h, .int 0] [] (ev_hp I J R T) cz kz = some (some (.int (-3)), (ev_hp I J R T), cz, kz) := by
  intro G
  rfl
theorem eg_grid0 (X : ez_X) (I : Nat → Nat → Int32) (J : Nat → Nat → Int64) (R : Nat → Nat) (T : List ez_C) (w : Int32) (h : Int32)  : ev_W X 18 0 (ez_lay [.ref 0, .int w, .int h, .int 0]) [] (ev_hp I J R T) 0 0 (fun r h1 c1 k1 => ((((ev_wi w 2 6)) = 0) ∧ r = some (.int (-3)) ∧ h1 = (ev_hp I J R T) ∧ c1 = 0 ∧ k1 = 0) ∨ (∃ z15 : Int64, ∃ y16 : Int64, ∃ f17 : Nat → Int32, (∀ j, j < 12 → f17 j = -1) ∧ (¬ (((ev_wi w 2 6)) = 0)) ∧ (¬ ((ev_wi h 2 6)) = 0) ∧ r = some (.int (w * h)) ∧ h1 = (ev_hp (ev_sI (ev_sI (ev_sI (ev_sI (ev_sI (ev_sI (ev_sI (ev_sI I 1 (upd (upd (upd (upd (upd (upd (I 1) 3 w) 4 h) 5 0) 6 (w * h)) 1 0) 2 0)) 3 (upd (I 3) 3 0)) 6 (upd (I 6) 4 0)) 8 (upd (I 8) 1 0)) 13 (upd (upd (I 13) 8 0) 9 0)) 20 (upd (I 20) 3 0)) 22 (upd (upd (I 22) 8 0) 11 (-1))) 33 f17) (ev_sJ (ev_sJ J 1 (vp_updL (vp_updL (vp_updL (J 1) 7 (((1 : Int64) <<< ((w * h).toInt64 &&& 63)) - (1 : Int64))) 8 z15) 9 y16)) 8 (vp_updL (vp_updL (J 8) 2 0) 3 0)) R T) ∧ c1 = 0 ∧ k1 = 0) ∨ ((¬ (((ev_wi w 2 6)) = 0)) ∧ (¬ (¬ ((ev_wi h 2 6)) = 0)) ∧ r = some (.int (-3)) ∧ h1 = (ev_hp I J R T) ∧ c1 = 0 ∧ k1 = 0)) := by
  refine ev_call (eg_grid0_r1 X I J R T w h _ _) (ec_within X (ev_hp I J R T) w 2 6) ?_
  rintro _ _ _ _ ⟨rfl, rfl, rfl, rfl⟩
  generalize hq10 : (ev_wi w 2 6) = q10
  refine ev_if (eg_grid0_r2 X I J R T w h q10 _ _) (fun b1 => ?_) (fun b1 => ?_)
  · replace b1 := of_decide_eq_true b1
    refine ev_ret (eg_grid0_r3 X I J R T w h q10 _ _) ?_
    subst hq10
    exact Or.inl ⟨b1, rfl, rfl, rfl, rfl⟩
  · replace b1 := of_decide_eq_false b1
    refine ev_call (eg_grid0_r4 X I J R T w h q10 _ _) (ec_within X (ev_hp I J R T) h 2 6) ?_
    rintro _ _ _ _ ⟨rfl, rfl, rfl, rfl⟩
    generalize hq11 : (ev_wi h 2 6) = q11
    refine ev_if (eg_grid0_r5 X I J R T w h q10 q11 _ _) (fun b2 => ?_) (fun b2 => ?_)
    · replace b2 := of_decide_eq_true b2
      refine ev_call (eg_grid0_r6 X I J R T w h q10 q11 _ _) (ec_become0 X I J R T w h) ?_
      rintro _ _ _ _ ⟨rfl, ⟨z15, y16, rfl⟩, rfl, rfl⟩
      refine ev_call (eg_grid0_r7 X I J R T w h q10 q11 z15 y16 _ _) (ea_S_Fleet_clear_88_3 X (ev_sI I 1 (upd (upd (upd (upd (upd (upd (I 1) 3 w) 4 h) 5 0) 6 (w * h)) 1 0) 2 0)) (ev_sJ J 1 (vp_updL (vp_updL (vp_updL (J 1) 7 (((1 : Int64) <<< ((w * h).toInt64 &&& 63)) - (1 : Int64))) 8 z15) 9 y16)) R T) ?_
      rintro r0 _ _ _ (⟨rfl, rfl, rfl, rfl⟩)
      refine ev_call (eg_grid0_r8 X I J R T w h q10 q11 z15 y16 _ _) (ea_S_Paper_clear_122_8 X (ev_sI (ev_sI I 1 (upd (upd (upd (upd (upd (upd (I 1) 3 w) 4 h) 5 0) 6 (w * h)) 1 0) 2 0)) 3 (upd (I 3) 3 0)) (ev_sJ J 1 (vp_updL (vp_updL (vp_updL (J 1) 7 (((1 : Int64) <<< ((w * h).toInt64 &&& 63)) - (1 : Int64))) 8 z15) 9 y16)) R T) ?_
      rintro r0 _ _ _ (⟨rfl, rfl, rfl, rfl⟩)
      refine ev_call (eg_grid0_r9 X I J R T w h q10 q11 z15 y16 _ _) (ec_eclear X (ev_sI (ev_sI (ev_sI I 1 (upd (upd (upd (upd (upd (upd (I 1) 3 w) 4 h) 5 0) 6 (w * h)) 1 0) 2 0)) 3 (upd (I 3) 3 0)) 8 (upd (I 8) 1 0)) (ev_sJ (ev_sJ J 1 (vp_updL (vp_updL (vp_updL (J 1) 7 (((1 : Int64) <<< ((w * h).toInt64 &&& 63)) - (1 : Int64))) 8 z15) 9 y16)) 8 (vp_updL (vp_updL (J 8) 2 0) 3 0)) R T) ?_
      rintro _ _ _ _ ⟨rfl, ⟨f17, hf17, rfl⟩, rfl, rfl⟩
      refine ev_call (eg_grid0_r10 X I J R T w h q10 q11 z15 y16 f17 _ _) (ea_S_layingsChanged_28_0 X (ev_sI (ev_sI (ev_sI (ev_sI I 1 (upd (upd (upd (upd (upd (upd (I 1) 3 w) 4 h) 5 0) 6 (w * h)) 1 0) 2 0)) 3 (upd (I 3) 3 0)) 8 (upd (I 8) 1 0)) 33 f17) (ev_sJ (ev_sJ J 1 (vp_updL (vp_updL (vp_updL (J 1) 7 (((1 : Int64) <<< ((w * h).toInt64 &&& 63)) - (1 : Int64))) 8 z15) 9 y16)) 8 (vp_updL (vp_updL (J 8) 2 0) 3 0)) R T) ?_
      rintro r0 _ _ _ (⟨rfl, rfl, rfl, rfl⟩)
      refine ev_ret (eg_grid0_r11 X I J R T w h q10 q11 z15 y16 f17 _ _) ?_
      subst hq11
      subst hq10
      exact Or.inr (Or.inl ⟨z15, y16, f17, hf17, b1, b2, rfl, rfl, rfl, rfl⟩)
    · replace b2 := of_decide_eq_false b2
      refine ev_ret (eg_grid0_r12 X I J R T w h q10 q11 _ _) ?_
      subst hq11
      subst hq10
      exact Or.inr (Or.inr (⟨b1, b2, rfl, rfl, rfl, rfl⟩))
set_option maxRecDepth 100000 in
set_option maxHeartbeats 100000 in
theorem eg_grid1_r1 (X : ez_X) (I : Nat → Nat → Int32) (J : Nat → Nat → Int64) (R : Nat → Nat) (T : List ez_C) (w : Int32) (h : Int32) (cz kz : Nat) : ∀ G : ez_F, fx_up X 4 G 18 0 [.ref 0, .int w, .int h, .int 1] [] (ev_hp I J R T) cz kz = ev_C G 55 [.int w, .int 2, .int 6] (ev_hp I J R T) fun r h1 c1 k1 => G 18 7 [.ref 0, .int w, .int h, .int 1] (r.toList ++ []) h1 (cz + c1) (kz + k1) := by
  intro G
  rfl
set_option maxRecDepth 100000 in
set_option maxHeartbeats 100000 in
theorem eg_grid1_r2 (X : ez_X) (I : Nat → Nat → Int32) (J : Nat → Nat → Int64) (R : Nat → Nat) (T : List ez_C) (w : Int32) (h : Int32) (q12 : Int32) (cz kz : Nat) : ∀ G : ez_F, fx_up X 1 G 18 7 [.ref 0, .int w, .int h, .int 1] [.int q12] (ev_hp I J R T) cz kz = bif decide (q12 = 0) then G 18 20 [.ref 0, .int w, .int h, .int 1] [] (ev_hp I J R T) cz kz else G 18 10 [.ref 0, .int w, .int h, .int 1] [] (ev_hp I J R T) cz kz := by
  intro G
  rfl
set_option maxRecDepth 100000 in
set_option maxHeartbeats 100000 in
theorem eg_grid1_r3 (X : ez_X) (I : Nat → Nat → Int32) (J : Nat → Nat → Int64) (R : Nat → Nat) (T : List ez_C) (w : Int32) (h : Int32) (q12 : Int32) (cz kz : Nat) : ∀ G : ez_F, fx_up X 2 G 18 20 [.ref 0, .int w, .int h, .int 1] [] (ev_hp I J R T) cz kz = some (some (.int (-3)), (ev_hp I J R T), cz, kz) := by
  intro G
  rfl
set_option maxRecDepth 100000 in
set_option maxHeartbeats 100000 in
theorem eg_grid1_r4 (X : ez_X) (I : Nat → Nat → Int32) (J : Nat → Nat → Int64) (R : Nat → Nat) (T : List ez_C) (w : Int32) (h : Int32) (q12 : Int32) (cz kz : Nat) : ∀ G : ez_F, fx_up X 4 G 18 10 [.ref 0, .int w, .int h, .int 1] [] (ev_hp I J R T) cz kz = ev_C G 55 [.int h, .int 2, .int 6] (ev_hp I J R T) fun r h1 c1 k1 => G 18 17 [.ref 0, .int w, .int h, .int 1] (r.toList ++ []) h1 (cz + c1) (kz + k1) := by
  intro G
  rfl
set_option maxRecDepth 100000 in
set_option maxHeartbeats 100000 in
theorem eg_grid1_r5 (X : ez_X) (I : Nat → Nat → Int32) (J : Nat → Nat → Int64) (R : Nat → Nat) (T : List ez_C) (w : Int32) (h : Int32) (q12 : Int32) (q13 : Int32) (cz kz : Nat) : ∀ G : ez_F, fx_up X 1 G 18 17 [.ref 0, .int w, .int h, .int 1] [.int q13] (ev_hp I J R T) cz kz = bif decide (¬ q13 = 0) then G 18 23 [.ref 0, .int w, .int h, .int 1] [] (ev_hp I J R T) cz kz else G 18 20 [.ref 0, .int w, .int h, .int 1] [] (ev_hp I J R T) cz kz := by
  intro G
  rfl
set_option maxRecDepth 100000 in
set_option maxHeartbeats 100000 in
theorem eg_grid1_r6 (X : ez_X) (I : Nat → Nat → Int32) (J : Nat → Nat → Int64) (R : Nat → Nat) (T : List ez_C) (w : Int32) (h : Int32) (q12 : Int32) (q13 : Int32) (cz kz : Nat) : ∀ G : ez_F, fx_up X 6 G 18 23 [.ref 0, .int w, .int h, .int 1] [] (ev_hp I J R T) cz kz = ev_C G 145 [.ref 1, .int w, .int h, .int 1] (ev_hp I J R T) fun r h1 c1 k1 => G 18 33 [.ref 0, .int w, .int h, .int 1] (r.toList ++ []) h1 (cz + c1) (kz + k1) := by
  intro G
  rfl
set_option maxRecDepth 100000 in
set_option maxHeartbeats 100000 in
theorem eg_grid1_r7 (X : ez_X) (I : Nat → Nat → Int32) (J : Nat → Nat → Int64) (R : Nat → Nat) (T : List ez_C) (w : Int32) (h : Int32) (q12 : Int32) (q13 : Int32) (z18 : Int64) (y19 : Int64) (cz kz : Nat) : ∀ G : ez_F, fx_up X 3 G 18 33 [.ref 0, .int w, .int h, .int 1] [] (ev_hp (ev_sI I 1 (upd (upd (upd (upd (upd (upd (I 1) 3 w) 4 h) 5 1) 6 (w * h)) 1 0) 2 0)) (ev_sJ J 1 (vp_updL (vp_updL (vp_updL (J 1) 7 (((1 : Int64) <<< ((w * h).toInt64 &&& 63)) - (1 : Int64))) 8 z18) 9 y19)) R T) cz kz = ev_C G 88 [.ref 3] (ev_hp (ev_sI I 1 (upd (upd (upd (upd (upd (upd (I 1) 3 w) 4 h) 5 1) 6 (w * h)) 1 0) 2 0)) (ev_sJ J 1 (vp_updL (vp_updL (vp_updL (J 1) 7 (((1 : Int64) <<< ((w * h).toInt64 &&& 63)) - (1 : Int64))) 8 z18) 9 y19)) R T) fun r h1 c1 k1 => G 18 40 [.ref 0, .int w, .int h, .int 1] (r.toList ++ []) h1 (cz + c1) (kz + k1) := by
  intro G
  rfl
set_option maxRecDepth 100000 in
set_option maxHeartbeats 100000 in
theorem eg_grid1_r8 (X : ez_X) (I : Nat → Nat → Int32) (J : Nat → Nat → Int64) (R : Nat → Nat) (T : List ez_C) (w : Int32) (h : Int32) (q12 : Int32) (q13 : Int32) (z18 : Int64) (y19 : Int64) (cz kz : Nat) : ∀ G : ez_F, fx_up X 3 G 18 40 [.ref 0, .int w, .int h, .int 1] [] (ev_hp (ev_sI (ev_sI I 1 (upd (upd (upd (upd (upd (upd (I 1) 3 w) 4 h) 5 1) 6 (w * h)) 1 0) 2 0)) 3 (upd (I 3) 3 0)) (ev_sJ J 1 (vp_updL (vp_updL (vp_updL (J 1) 7 (((1 : Int64) <<< ((w * h).toInt64 &&& 63)) - (1 : Int64))) 8 z18) 9 y19)) R T) cz kz = ev_C G 122 [.ref 8] (ev_hp (ev_sI (ev_sI I 1 (upd (upd (upd (upd (upd (upd (I 1) 3 w) 4 h) 5 1) 6 (w * h)) 1 0) 2 0)) 3 (upd (I 3) 3 0)) (ev_sJ J 1 (vp_updL (vp_updL (vp_updL (J 1) 7 (((1 : Int64) <<< ((w * h).toInt64 &&& 63)) - (1 : Int64))) 8 z18) 9 y19)) R T) fun r h1 c1 k1 => G 18 47 [.ref 0, .int w, .int h, .int 1] (r.toList ++ []) h1 (cz + c1) (kz + k1) := by
  intro G
  rfl
set_option maxRecDepth 100000 in
set_option maxHeartbeats 100000 in
theorem eg_grid1_r9 (X : ez_X) (I : Nat → Nat → Int32) (J : Nat → Nat → Int64) (R : Nat → Nat) (T : List ez_C) (w : Int32) (h : Int32) (q12 : Int32) (q13 : Int32) (z18 : Int64) (y19 : Int64) (cz kz : Nat) : ∀ G : ez_F, fx_up X 3 G 18 47 [.ref 0, .int w, .int h, .int 1] [] (ev_hp (ev_sI (ev_sI (ev_sI I 1 (upd (upd (upd (upd (upd (upd (I 1) 3 w) 4 h) 5 1) 6 (w * h)) 1 0) 2 0)) 3 (upd (I 3) 3 0)) 8 (upd (I 8) 1 0)) (ev_sJ (ev_sJ J 1 (vp_updL (vp_updL (vp_updL (J 1) 7 (((1 : Int64) <<< ((w * h).toInt64 &&& 63)) - (1 : Int64))) 8 z18) 9 y19)) 8 (vp_updL (vp_updL (J 8) 2 0) 3 0)) R T) cz kz = ev_C G 72 [.ref 32] (ev_hp (ev_sI (ev_sI (ev_sI I 1 (upd (upd (upd (upd (upd (upd (I 1) 3 w) 4 h) 5 1) 6 (w * h)) 1 0) 2 0)) 3 (upd (I 3) 3 0)) 8 (upd (I 8) 1 0)) (ev_sJ (ev_sJ J 1 (vp_updL (vp_updL (vp_updL (J 1) 7 (((1 : Int64) <<< ((w * h).toInt64 &&& 63)) - (1 : Int64))) 8 z18) 9 y19)) 8 (vp_updL (vp_updL (J 8) 2 0) 3 0)) R T) fun r h1 c1 k1 => G 18 54 [.ref 0, .int w, .int h, .int 1] (r.toList ++ []) h1 (cz + c1) (kz + k1) := by
  intro G
  rfl
set_option maxRecDepth 100000 in
set_option maxHeartbeats 100000 in
theorem eg_grid1_r10 (X : ez_X) (I : Nat → Nat → Int32) (J : Nat → Nat → Int64) (R : Nat → Nat) (T : List ez_C) (w : Int32) (h : Int32) (q12 : Int32) (q13 : Int32) (z18 : Int64) (y19 : Int64) (f20 : Nat → Int32) (cz kz : Nat) : ∀ G : ez_F, fx_up X 2 G 18 54 [.ref 0, .int w, .int h, .int 1] [] (ev_hp (ev_sI (ev_sI (ev_sI (ev_sI I 1 (upd (upd (upd (upd (upd (upd (I 1) 3 w) 4 h) 5 1) 6 (w * h)) 1 0) 2 0)) 3 (upd (I 3) 3 0)) 8 (upd (I 8) 1 0)) 33 f20) (ev_sJ (ev_sJ J 1 (vp_updL (vp_updL (vp_updL (J 1) 7 (((1 : Int64) <<< ((w * h).toInt64 &&& 63)) - (1 : Int64))) 8 z18) 9 y19)) 8 (vp_updL (vp_updL (J 8) 2 0) 3 0)) R T) cz kz = ev_C G 28 [.ref 0] (ev_hp (ev_sI (ev_sI (ev_sI (ev_sI I 1 (upd (upd (upd (upd (upd (upd (I 1) 3 w) 4 h) 5 1) 6 (w * h)) 1 0) 2 0)) 3 (upd (I 3) 3 0)) 8 (upd (I 8) 1 0)) 33 f20) (ev_sJ (ev_sJ J 1 (vp_updL (vp_updL (vp_updL (J 1) 7 (((1 : Int64) <<< ((w * h).toInt64 &&& 63)) - (1 : Int64))) 8 z18) 9 y19)) 8 (vp_updL (vp_updL (J 8) 2 0) 3 0)) R T) fun r h1 c1 k1 => G 18 58 [.ref 0, .int w, .int h, .int 1] (r.toList ++ []) h1 (cz + c1) (kz + k1) := by
  intro G
  rfl
set_option maxRecDepth 100000 in
set_option maxHeartbeats 100000 in
theorem eg_grid1_r11 (X : ez_X) (I : Nat → Nat → Int32) (J : Nat → Nat → Int64) (R : Nat → Nat) (T : List ez_C) (w : Int32) (h : Int32) (q12 : Int32) (q13 : Int32) (z18 : Int64) (y19 : Int64) (f20 : Nat → Int32) (cz kz : Nat) : ∀ G : ez_F, fx_up X 4 G 18 58 [.ref 0, .int w, .int h, .int 1] [] (ev_hp (ev_sI (ev_sI (ev_sI (ev_sI (ev_sI (ev_sI (ev_sI (ev_sI I 1 (upd (upd (upd (upd (upd (upd (I 1) 3 w) 4 h) 5 1) 6 (w * h)) 1 0) 2 0)) 3 (upd (I 3) 3 0)) 6 (upd (I 6) 4 0)) 8 (upd (I 8) 1 0)) 13 (upd (upd (I 13) 8 0) 9 0)) 20 (upd (I 20) 3 0)) 22 (upd (upd (I 22) 8 0) 11 (-1))) 33 f20) (ev_sJ (ev_sJ J 1 (vp_updL (vp_updL (vp_updL (J 1) 7 (((1 : Int64) <<< ((w * h).toInt64 &&& 63)) - (1 : Int64))) 8 z18) 9 y19)) 8 (vp_updL (vp_updL (J 8) 2 0) 3 0)) R T) cz kz = some (some (.int (w * h)), (ev_hp (ev_sI (ev_sI (ev_sI (ev_sI (ev_sI (ev_sI (ev_sI (ev_sI I 1 (upd (upd (upd (upd (upd (upd (I 1) 3 w) 4 h) 5 1) 6 (w * h)) 1 0) 2 0)) 3 (upd (I 3) 3 0)) 6 (upd (I 6) 4 0)) 8 (upd (I 8) 1 0)) 13 (upd (upd (I 13) 8 0) 9 0)) 20 (upd (I 20) 3 0)) 22 (upd (upd (I 22) 8 0) 11 (-1))) 33 f20) (ev_sJ (ev_sJ J 1 (vp_updL (vp_updL (vp_updL (J 1) 7 (((1 : Int64) <<< ((w * h).toInt64 &&& 63)) - (1 : Int64))) 8 z18) 9 y19)) 8 (vp_updL (vp_updL (J 8) 2 0) 3 0)) R T), cz, kz) := by
  intro G
  rfl
set_option maxRecDepth 100000 in
set_option maxHeartbeats 100000 in
theorem eg_grid1_r12 (X : ez_X) (I : Nat → Nat → Int32) (J : Nat → Nat → Int64) (R : Nat → Nat) (T : List ez_C) (w : Int32) (h : Int32) (q12 : Int32) (q13 : Int32) (cz kz : Nat) : ∀ G : ez_F, fx_up X 2 G 18 20 [.ref 0, .int w, .int h, .int 1] [] (ev_hp I J R T) cz kz = some (some (.int (-3)), (ev_hp I J R T), cz, kz) := by
  intro G
  rfl
theorem eg_grid1 (X : ez_X) (I : Nat → Nat → Int32) (J : Nat → Nat → Int64) (R : Nat → Nat) (T : List ez_C) (w : Int32) (h : Int32)  : ev_W X 18 0 (ez_lay [.ref 0, .int w, .int h, .int 1]) [] (ev_hp I J R T) 0 0 (fun r h1 c1 k1 => ((((ev_wi w 2 6)) = 0) ∧ r = some (.int (-3)) ∧ h1 = (ev_hp I J R T) ∧ c1 = 0 ∧ k1 = 0) ∨ (∃ z18 : Int64, ∃ y19 : Int64, ∃ f20 : Nat → Int32, (∀ j, j < 12 → f20 j = -1) ∧ (¬ (((ev_wi w 2 6)) = 0)) ∧ (¬ ((ev_wi h 2 6)) = 0) ∧ r = some (.int (w * h)) ∧ h1 = (ev_hp (ev_sI (ev_sI (ev_sI (ev_sI (ev_sI (ev_sI (ev_sI (ev_sI I 1 (upd (upd (upd (upd (upd (upd (I 1) 3 w) 4 h) 5 1) 6 (w * h)) 1 0) 2 0)) 3 (upd (I 3) 3 0)) 6 (upd (I 6) 4 0)) 8 (upd (I 8) 1 0)) 13 (upd (upd (I 13) 8 0) 9 0)) 20 (upd (I 20) 3 0)) 22 (upd (upd (I 22) 8 0) 11 (-1))) 33 f20) (ev_sJ (ev_sJ J 1 (vp_updL (vp_updL (vp_updL (J 1) 7 (((1 : Int64) <<< ((w * h).toInt64 &&& 63)) - (1 : Int64))) 8 z18) 9 y19)) 8 (vp_updL (vp_updL (J 8) 2 0) 3 0)) R T) ∧ c1 = 0 ∧ k1 = 0) ∨ ((¬ (((ev_wi w 2 6)) = 0)) ∧ (¬ (¬ ((ev_wi h 2 6)) = 0)) ∧ r = some (.int (-3)) ∧ h1 = (ev_hp I J R T) ∧ c1 = 0 ∧ k1 = 0)) := by
  refine ev_call (eg_grid1_r1 X I J R T w h _ _) (ec_within X (ev_hp I J R T) w 2 6) ?_
  rintro _ _ _ _ ⟨rfl, rfl, rfl, rfl⟩
  generalize hq12 : (ev_wi w 2 6) = q12
  refine ev_if (eg_grid1_r2 X I J R T w h q12 _ _) (fun b1 => ?_) (fun b1 => ?_)
  · replace b1 := of_decide_eq_true b1
    refine ev_ret (eg_grid1_r3 X I J R T w h q12 _ _) ?_
    subst hq12
    exact Or.inl ⟨b1, rfl, rfl, rfl, rfl⟩
  · replace b1 := of_decide_eq_false b1
    refine ev_call (eg_grid1_r4 X I J R T w h q12 _ _) (ec_within X (ev_hp I J R T) h 2 6) ?_
    rintro _ _ _ _ ⟨rfl, rfl, rfl, rfl⟩
    generalize hq13 : (ev_wi h 2 6) = q13
    refine ev_if (eg_grid1_r5 X I J R T w h q12 q13 _ _) (fun b2 => ?_) (fun b2 => ?_)
    · replace b2 := of_decide_eq_true b2
      refine ev_call (eg_grid1_r6 X I J R T w h q12 q13 _ _) (ec_become1 X I J R T w h) ?_
      rintro _ _ _ _ ⟨rfl, ⟨z18, y19, rfl⟩, rfl, rfl⟩
      refine ev_call (eg_grid1_r7 X I J R T w h q12 q13 z18 y19 _ _) (ea_S_Fleet_clear_88_3 X (ev_sI I 1 (upd (upd (upd (upd (upd (upd (I 1) 3 w) 4 h) 5 1) 6 (w * h)) 1 0) 2 0)) (ev_sJ J 1 (vp_updL (vp_updL (vp_updL (J 1) 7 (((1 : Int64) <<< ((w * h).toInt64 &&& 63)) - (1 : Int64))) 8 z18) 9 y19)) R T) ?_
      rintro r0 _ _ _ (⟨rfl, rfl, rfl, rfl⟩)
      refine ev_call (eg_grid1_r8 X I J R T w h q12 q13 z18 y19 _ _) (ea_S_Paper_clear_122_8 X (ev_sI (ev_sI I 1 (upd (upd (upd (upd (upd (upd (I 1) 3 w) 4 h) 5 1) 6 (w * h)) 1 0) 2 0)) 3 (upd (I 3) 3 0)) (ev_sJ J 1 (vp_updL (vp_updL (vp_updL (J 1) 7 (((1 : Int64) <<< ((w * h).toInt64 &&& 63)) - (1 : Int64))) 8 z18) 9 y19)) R T) ?_
      rintro r0 _ _ _ (⟨rfl, rfl, rfl, rfl⟩)
      refine ev_call (eg_grid1_r9 X I J R T w h q12 q13 z18 y19 _ _) (ec_eclear X (ev_sI (ev_sI (ev_sI I 1 (upd (upd (upd (upd (upd (upd (I 1) 3 w) 4 h) 5 1) 6 (w * h)) 1 0) 2 0)) 3 (upd (I 3) 3 0)) 8 (upd (I 8) 1 0)) (ev_sJ (ev_sJ J 1 (vp_updL (vp_updL (vp_updL (J 1) 7 (((1 : Int64) <<< ((w * h).toInt64 &&& 63)) - (1 : Int64))) 8 z18) 9 y19)) 8 (vp_updL (vp_updL (J 8) 2 0) 3 0)) R T) ?_
      rintro _ _ _ _ ⟨rfl, ⟨f20, hf20, rfl⟩, rfl, rfl⟩
      refine ev_call (eg_grid1_r10 X I J R T w h q12 q13 z18 y19 f20 _ _) (ea_S_layingsChanged_28_0 X (ev_sI (ev_sI (ev_sI (ev_sI I 1 (upd (upd (upd (upd (upd (upd (I 1) 3 w) 4 h) 5 1) 6 (w * h)) 1 0) 2 0)) 3 (upd (I 3) 3 0)) 8 (upd (I 8) 1 0)) 33 f20) (ev_sJ (ev_sJ J 1 (vp_updL (vp_updL (vp_updL (J 1) 7 (((1 : Int64) <<< ((w * h).toInt64 &&& 63)) - (1 : Int64))) 8 z18) 9 y19)) 8 (vp_updL (vp_updL (J 8) 2 0) 3 0)) R T) ?_
      rintro r0 _ _ _ (⟨rfl, rfl, rfl, rfl⟩)
      refine ev_ret (eg_grid1_r11 X I J R T w h q12 q13 z18 y19 f20 _ _) ?_
      subst hq13
      subst hq12
      exact Or.inr (Or.inl ⟨z18, y19, f20, hf20, b1, b2, rfl, rfl, rfl, rfl⟩)
    · replace b2 := of_decide_eq_false b2
      refine ev_ret (eg_grid1_r12 X I J R T w h q12 q13 _ _) ?_
      subst hq13
      subst hq12
      exact Or.inr (Or.inr (⟨b1, b2, rfl, rfl, rfl, rfl⟩))
set_option maxRecDepth 100000 in
set_option maxHeartbeats 100000 in
theorem eg_set_r1 (X : ez_X) (I : Nat → Nat → Int32) (J : Nat → Nat → Int64) (R : Nat → Nat) (T : List ez_C) (a : Int32) (b : Int32) (cz kz : Nat) : ∀ G : ez_F, fx_up X 4 G 42 0 [.ref 0, .int a, .int b] [] (ev_hp I J R T) cz kz = ev_C G 55 [.int a, .int 0, .int 2] (ev_hp I J R T) fun r h1 c1 k1 => G 42 6 [.ref 0, .int a, .int b] (r.toList ++ []) h1 (cz + c1) (kz + k1) := by
  intro G
  rfl
set_option maxRecDepth 100000 in
set_option maxHeartbeats 100000 in
theorem eg_set_r2 (X : ez_X) (I : Nat → Nat → Int32) (J : Nat → Nat → Int64) (R : Nat → Nat) (T : List ez_C) (a : Int32) (b : Int32) (q14 : Int32) (cz kz : Nat) : ∀ G : ez_F, fx_up X 1 G 42 6 [.ref 0, .int a, .int b] [.int q14] (ev_hp I J R T) cz kz = bif decide (q14 = 0) then G 42 27 [.ref 0, .int a, .int b] [] (ev_hp I J R T) cz kz else G 42 9 [.ref 0, .int a, .int b] [] (ev_hp I J R T) cz kz := by
  intro G
  rfl
set_option maxRecDepth 100000 in
set_option maxHeartbeats 100000 in
theorem eg_set_r3 (X : ez_X) (I : Nat → Nat → Int32) (J : Nat → Nat → Int64) (R : Nat → Nat) (T : List ez_C) (a : Int32) (b : Int32) (q14 : Int32) (cz kz : Nat) : ∀ G : ez_F, fx_up X 2 G 42 27 [.ref 0, .int a, .int b] [] (ev_hp I J R T) cz kz = some (some (.int (-3)), (ev_hp I J R T), cz, kz) := by
  intro G
  rfl
set_option maxRecDepth 100000 in
set_option maxHeartbeats 100000 in
theorem eg_set_r4 (X : ez_X) (I : Nat → Nat → Int32) (J : Nat → Nat → Int64) (R : Nat → Nat) (T : List ez_C) (a : Int32) (b : Int32) (q14 : Int32) (cz kz : Nat) : ∀ G : ez_F, fx_up X 5 G 42 9 [.ref 0, .int a, .int b] [] (ev_hp I J R T) cz kz = bif decide (¬ a = 1) then G 42 20 [.ref 0, .int a, .int b] [.int 0, .int b] (ev_hp I J R T) cz kz else G 42 16 [.ref 0, .int a, .int b] [.int 0, .int b] (ev_hp I J R T) cz kz := by
  intro G
  rfl
set_option maxRecDepth 100000 in
set_option maxHeartbeats 100000 in
theorem eg_set_r5 (X : ez_X) (I : Nat → Nat → Int32) (J : Nat → Nat → Int64) (R : Nat → Nat) (T : List ez_C) (a : Int32) (b : Int32) (q14 : Int32) (cz kz : Nat) : ∀ G : ez_F, fx_up X 2 G 42 20 [.ref 0, .int a, .int b] [.int 0, .int b] (ev_hp I J R T) cz kz = ev_C G 55 [.int b, .int 0, .int 2] (ev_hp I J R T) fun r h1 c1 k1 => G 42 24 [.ref 0, .int a, .int b] (r.toList ++ []) h1 (cz + c1) (kz + k1) := by
  intro G
  rfl
set_option maxRecDepth 100000 in
set_option maxHeartbeats 100000 in
theorem eg_set_r6 (X : ez_X) (I : Nat → Nat → Int32) (J : Nat → Nat → Int64) (R : Nat → Nat) (T : List ez_C) (a : Int32) (b : Int32) (q14 : Int32) (q15 : Int32) (cz kz : Nat) : ∀ G : ez_F, fx_up X 1 G 42 24 [.ref 0, .int a, .int b] [.int q15] (ev_hp I J R T) cz kz = bif decide (¬ q15 = 0) then G 42 30 [.ref 0, .int a, .int b] [] (ev_hp I J R T) cz kz else G 42 27 [.ref 0, .int a, .int b] [] (ev_hp I J R T) cz kz := by
  intro G
  rfl
set_option maxRecDepth 100000 in
set_option maxHeartbeats 100000 in
theorem eg_set_r7 (X : ez_X) (I : Nat → Nat → Int32) (J : Nat → Nat → Int64) (R : Nat → Nat) (T : List ez_C) (a : Int32) (b : Int32) (q14 : Int32) (q15 : Int32) (cz kz : Nat) : ∀ G : ez_F, fx_up X 5 G 42 30 [.ref 0, .int a, .int b] [] (ev_hp I J R T) cz kz = ev_C G 146 [.ref 1, .int a, .int b] (ev_hp I J R T) fun r h1 c1 k1 => G 42 39 [.ref 0, .int a, .int b] (r.toList ++ []) h1 (cz + c1) (kz + k1) := by
  intro G
  rfl
set_option maxRecDepth 100000 in
set_option maxHeartbeats 100000 in
theorem eg_set_r8 (X : ez_X) (I : Nat → Nat → Int32) (J : Nat → Nat → Int64) (R : Nat → Nat) (T : List ez_C) (a : Int32) (b : Int32) (q14 : Int32) (q15 : Int32) (q17 : Int32) (cz kz : Nat) : ∀ G : ez_F, fx_up X 3 G 42 39 [.ref 0, .int a, .int b] [.int q17] (ev_hp (ev_sI I 2 (ev_put 3 (I 2) a b)) J R T) cz kz = bif decide (¬ a = 0) then G 42 51 [.ref 0, .int a, .int b, .int q17] [] (ev_hp (ev_sI I 2 (ev_put 3 (I 2) a b)) J R T) cz kz else G 42 44 [.ref 0, .int a, .int b, .int q17] [] (ev_hp (ev_sI I 2 (ev_put 3 (I 2) a b)) J R T) cz kz := by
  intro G
  rfl
set_option maxRecDepth 100000 in
set_option maxHeartbeats 100000 in
theorem eg_set_r9 (X : ez_X) (I : Nat → Nat → Int32) (J : Nat → Nat → Int64) (R : Nat → Nat) (T : List ez_C) (a : Int32) (b : Int32) (q14 : Int32) (q15 : Int32) (q17 : Int32) (cz kz : Nat) : ∀ G : ez_F, fx_up X 3 G 42 51 [.ref 0, .int a, .int b, .int q17] [] (ev_hp (ev_sI I 2 (ev_put 3 (I 2) a b)) J R T) cz kz = bif decide (¬ a = 1) then G 42 70 [.ref 0, .int a, .int b, .int q17] [] (ev_hp (ev_sI I 2 (ev_put 3 (I 2) a b)) J R T) cz kz else G 42 56 [.ref 0, .int a, .int b, .int q17] [] (ev_hp (ev_sI I 2 (ev_put 3 (I 2) a b)) J R T) cz kz := by
  intro G
  rfl
set_option maxRecDepth 100000 in
set_option maxHeartbeats 100000 in
theorem eg_set_r10 (X : ez_X) (I : Nat → Nat → Int32) (J : Nat → Nat → Int64) (R : Nat → Nat) (T : List ez_C) (a : Int32) (b : Int32) (q14 : Int32) (q15 : Int32) (q17 : Int32) (cz kz : Nat) : ∀ G : ez_F, fx_up X 2 G 42 70 [.ref 0, .int a, .int b, .int q17] [] (ev_hp (ev_sI I 2 (ev_put 3 (I 2) a b)) J R T) cz kz = ev_C G 2 [.ref 0] (ev_hp (ev_sI I 2 (ev_put 3 (I 2) a b)) J R T) fun r h1 c1 k1 => G 42 74 [.ref 0, .int a, .int b, .int q17] (r.toList ++ []) h1 (cz + c1) (kz + k1) := by
  intro G
  rfl
set_option maxRecDepth 100000 in
set_option maxHeartbeats 100000 in
theorem eg_set_r11 (X : ez_X) (I : Nat → Nat → Int32) (J : Nat → Nat → Int64) (R : Nat → Nat) (T : List ez_C) (a : Int32) (b : Int32) (q14 : Int32) (q15 : Int32) (q17 : Int32) (cz kz : Nat) : ∀ G : ez_F, fx_up X 2 G 42 74 [.ref 0, .int a, .int b, .int q17] [] (ev_hp (ev_sI (ev_sI (ev_sI I 2 (ev_put 3 (I 2) a b)) 13 (upd (I 13) 9 0)) 20 (upd (I 20) 3 0)) J R T) cz kz = some (some (.int q17), (ev_hp (ev_sI (ev_sI (ev_sI I 2 (ev_put 3 (I 2) a b)) 13 (upd (I 13) 9 0)) 20 (upd (I 20) 3 0)) J R T), cz, kz) := by
  intro G
  rfl
set_option maxRecDepth 100000 in
set_option maxHeartbeats 100000 in
theorem eg_set_r12 (X : ez_X) (I : Nat → Nat → Int32) (J : Nat → Nat → Int64) (R : Nat → Nat) (T : List ez_C) (a : Int32) (b : Int32) (q14 : Int32) (q15 : Int32) (q17 : Int32) (cz kz : Nat) : ∀ G : ez_F, fx_up X 3 G 42 56 [.ref 0, .int a, .int b, .int q17] [] (ev_hp (ev_sI I 2 (ev_put 3 (I 2) a b)) J R T) cz kz = ev_C G 62 [.ref 22] (ev_hp (ev_sI I 2 (ev_put 3 (I 2) a b)) J R T) fun r h1 c1 k1 => G 42 63 [.ref 0, .int a, .int b, .int q17] (r.toList ++ []) h1 (cz + c1) (kz + k1) := by
  intro G
  rfl
set_option maxRecDepth 100000 in
set_option maxHeartbeats 100000 in
theorem eg_set_r13 (X : ez_X) (I : Nat → Nat → Int32) (J : Nat → Nat → Int64) (R : Nat → Nat) (T : List ez_C) (a : Int32) (b : Int32) (q14 : Int32) (q15 : Int32) (q17 : Int32) (cz kz : Nat) : ∀ G : ez_F, fx_up X 2 G 42 63 [.ref 0, .int a, .int b, .int q17] [] (ev_hp (ev_sI (ev_sI I 2 (ev_put 3 (I 2) a b)) 22 (upd (upd (I 22) 8 0) 11 (-1))) J R T) cz kz = ev_C G 12 [.ref 0] (ev_hp (ev_sI (ev_sI I 2 (ev_put 3 (I 2) a b)) 22 (upd (upd (I 22) 8 0) 11 (-1))) J R T) fun r h1 c1 k1 => G 42 67 [.ref 0, .int a, .int b, .int q17] (r.toList ++ []) h1 (cz + c1) (kz + k1) := by
  intro G
  rfl
set_option maxRecDepth 100000 in
set_option maxHeartbeats 100000 in
theorem eg_set_r14 (X : ez_X) (I : Nat → Nat → Int32) (J : Nat → Nat → Int64) (R : Nat → Nat) (T : List ez_C) (a : Int32) (b : Int32) (q14 : Int32) (q15 : Int32) (q17 : Int32) (cz kz : Nat) : ∀ G : ez_F, fx_up X 3 G 42 67 [.ref 0, .int a, .int b, .int q17] [] (ev_hp (ev_sI (ev_sI (ev_sI (ev_sI I 2 (ev_put 3 (I 2) a b)) 13 (upd (upd (I 13) 8 0) 9 0)) 20 (upd (I 20) 3 0)) 22 (upd (upd (I 22) 8 0) 11 (-1))) J R T) cz kz = some (some (.int q17), (ev_hp (ev_sI (ev_sI (ev_sI (ev_sI I 2 (ev_put 3 (I 2) a b)) 13 (upd (upd (I 13) 8 0) 9 0)) 20 (upd (I 20) 3 0)) 22 (upd (upd (I 22) 8 0) 11 (-1))) J R T), cz, kz) := by
  intro G
  rfl
set_option maxRecDepth 100000 in
set_option maxHeartbeats 100000 in
theorem eg_set_r15 (X : ez_X) (I : Nat → Nat → Int32) (J : Nat → Nat → Int64) (R : Nat → Nat) (T : List ez_C) (a : Int32) (b : Int32) (q14 : Int32) (q15 : Int32) (q17 : Int32) (cz kz : Nat) : ∀ G : ez_F, fx_up X 2 G 42 44 [.ref 0, .int a, .int b, .int q17] [] (ev_hp (ev_sI I 2 (ev_put 3 (I 2) a b)) J R T) cz kz = ev_C G 28 [.ref 0] (ev_hp (ev_sI I 2 (ev_put 3 (I 2) a b)) J R T) fun r h1 c1 k1 => G 42 48 [.ref 0, .int a, .int b, .int q17] (r.toList ++ []) h1 (cz + c1) (kz + k1) := by
  intro G
  rfl
set_option maxRecDepth 100000 in
set_option maxHeartbeats 100000 in
theorem eg_set_r16 (X : ez_X) (I : Nat → Nat → Int32) (J : Nat → Nat → Int64) (R : Nat → Nat) (T : List ez_C) (a : Int32) (b : Int32) (q14 : Int32) (q15 : Int32) (q17 : Int32) (cz kz : Nat) : ∀ G : ez_F, fx_up X 3 G 42 48 [.ref 0, .int a, .int b, .int q17] [] (ev_hp (ev_sI (ev_sI (ev_sI (ev_sI (ev_sI I 2 (ev_put 3 (I 2) a b)) 6 (upd (I 6) 4 0)) 13 (upd (upd (I 13) 8 0) 9 0)) 20 (upd (I 20) 3 0)) 22 (upd (upd (I 22) 8 0) 11 (-1))) J R T) cz kz = some (some (.int q17), (ev_hp (ev_sI (ev_sI (ev_sI (ev_sI (ev_sI I 2 (ev_put 3 (I 2) a b)) 6 (upd (I 6) 4 0)) 13 (upd (upd (I 13) 8 0) 9 0)) 20 (upd (I 20) 3 0)) 22 (upd (upd (I 22) 8 0) 11 (-1))) J R T), cz, kz) := by
  intro G
  rfl
set_option maxRecDepth 100000 in
set_option maxHeartbeats 100000 in
theorem eg_set_r17 (X : ez_X) (I : Nat → Nat → Int32) (J : Nat → Nat → Int64) (R : Nat → Nat) (T : List ez_C) (a : Int32) (b : Int32) (q14 : Int32) (q15 : Int32) (cz kz : Nat) : ∀ G : ez_F, fx_up X 2 G 42 27 [.ref 0, .int a, .int b] [] (ev_hp I J R T) cz kz = some (some (.int (-3)), (ev_hp I J R T), cz, kz) := by
  intro G
  rfl
set_option maxRecDepth 100000 in
set_option maxHeartbeats 100000 in
theorem eg_set_r18 (X : ez_X) (I : Nat → Nat → Int32) (J : Nat → Nat → Int64) (R : Nat → Nat) (T : List ez_C) (a : Int32) (b : Int32) (q14 : Int32) (cz kz : Nat) : ∀ G : ez_F, fx_up X 3 G 42 16 [.ref 0, .int a, .int b] [.int 0, .int b] (ev_hp I J R T) cz kz = ev_C G 55 [.int b, .int 0, .int 1] (ev_hp I J R T) fun r h1 c1 k1 => G 42 24 [.ref 0, .int a, .int b] (r.toList ++ []) h1 (cz + c1) (kz + k1) := by
  intro G
  rfl
set_option maxRecDepth 100000 in
set_option maxHeartbeats 100000 in
theorem eg_set_r19 (X : ez_X) (I : Nat → Nat → Int32) (J : Nat → Nat → Int64) (R : Nat → Nat) (T : List ez_C) (a : Int32) (b : Int32) (q14 : Int32) (q18 : Int32) (cz kz : Nat) : ∀ G : ez_F, fx_up X 1 G 42 24 [.ref 0, .int a, .int b] [.int q18] (ev_hp I J R T) cz kz = bif decide (¬ q18 = 0) then G 42 30 [.ref 0, .int a, .int b] [] (ev_hp I J R T) cz kz else G 42 27 [.ref 0, .int a, .int b] [] (ev_hp I J R T) cz kz := by
  intro G
  rfl
set_option maxRecDepth 100000 in
set_option maxHeartbeats 100000 in
theorem eg_set_r20 (X : ez_X) (I : Nat → Nat → Int32) (J : Nat → Nat → Int64) (R : Nat → Nat) (T : List ez_C) (a : Int32) (b : Int32) (q14 : Int32) (q18 : Int32) (cz kz : Nat) : ∀ G : ez_F, fx_up X 5 G 42 30 [.ref 0, .int a, .int b] [] (ev_hp I J R T) cz kz = ev_C G 146 [.ref 1, .int a, .int b] (ev_hp I J R T) fun r h1 c1 k1 => G 42 39 [.ref 0, .int a, .int b] (r.toList ++ []) h1 (cz + c1) (kz + k1) := by
  intro G
  rfl
set_option maxRecDepth 100000 in
set_option maxHeartbeats 100000 in
theorem eg_set_r21 (X : ez_X) (I : Nat → Nat → Int32) (J : Nat → Nat → Int64) (R : Nat → Nat) (T : List ez_C) (a : Int32) (b : Int32) (q14 : Int32) (q18 : Int32) (q19 : Int32) (cz kz : Nat) : ∀ G : ez_F, fx_up X 3 G 42 39 [.ref 0, .int a, .int b] [.int q19] (ev_hp (ev_sI I 2 (ev_put 3 (I 2) a b)) J R T) cz kz = bif decide (¬ a = 0) then G 42 51 [.ref 0, .int a, .int b, .int q19] [] (ev_hp (ev_sI I 2 (ev_put 3 (I 2) a b)) J R T) cz kz else G 42 44 [.ref 0, .int a, .int b, .int q19] [] (ev_hp (ev_sI I 2 (ev_put 3 (I 2) a b)) J R T) cz kz := by
  intro G
  rfl
set_option maxRecDepth 100000 in
set_option maxHeartbeats 100000 in
theorem eg_set_r22 (X : ez_X) (I : Nat → Nat → Int32) (J : Nat → Nat → Int64) (R : Nat → Nat) (T : List ez_C) (a : Int32) (b : Int32) (q14 : Int32) (q18 : Int32) (q19 : Int32) (cz kz : Nat) : ∀ G : ez_F, fx_up X 3 G 42 51 [.ref 0, .int a, .int b, .int q19] [] (ev_hp (ev_sI I 2 (ev_put 3 (I 2) a b)) J R T) cz kz = bif decide (¬ a = 1) then G 42 70 [.ref 0, .int a, .int b, .int q19] [] (ev_hp (ev_sI I 2 (ev_put 3 (I 2) a b)) J R T) cz kz else G 42 56 [.ref 0, .int a, .int b, .int q19] [] (ev_hp (ev_sI I 2 (ev_put 3 (I 2) a b)) J R T) cz kz := by
  intro G
  rfl
set_option maxRecDepth 100000 in
set_option maxHeartbeats 100000 in
theorem eg_set_r23 (X : ez_X) (I : Nat → Nat → Int32) (J : Nat → Nat → Int64) (R : Nat → Nat) (T : List ez_C) (a : Int32) (b : Int32) (q14 : Int32) (q18 : Int32) (q19 : Int32) (cz kz : Nat) : ∀ G : ez_F, fx_up X 2 G 42 70 [.ref 0, .int a, .int b, .int q19] [] (ev_hp (ev_sI I 2 (ev_put 3 (I 2) a b)) J R T) cz kz = ev_C G 2 [.ref 0] (ev_hp (ev_sI I 2 (ev_put 3 (I 2) a b)) J R T) fun r h1 c1 k1 => G 42 74 [.ref 0, .int a, .int b, .int q19] (r.toList ++ []) h1 (cz + c1) (kz + k1) := by
  intro G
  rfl
set_option maxRecDepth 100000 in
set_option maxHeartbeats 100000 in
theorem eg_set_r24 (X : ez_X) (I : Nat → Nat → Int32) (J : Nat → Nat → Int64) (R : Nat → Nat) (T : List ez_C) (a : Int32) (b : Int32) (q14 : Int32) (q18 : Int32) (q19 : Int32) (cz kz : Nat) : ∀ G : ez_F, fx_up X 2 G 42 74 [.ref 0, .int a, .int b, .int q19] [] (ev_hp (ev_sI (ev_sI (ev_sI I 2 (ev_put 3 (I 2) a b)) 13 (upd (I 13) 9 0)) 20 (upd (I 20) 3 0)) J R T) cz kz = some (some (.int q19), (ev_hp (ev_sI (ev_sI (ev_sI I 2 (ev_put 3 (I 2) a b)) 13 (upd (I 13) 9 0)) 20 (upd (I 20) 3 0)) J R T), cz, kz) := by
  intro G
  rfl
set_option maxRecDepth 100000 in
set_option maxHeartbeats 100000 in
theorem eg_set_r25 (X : ez_X) (I : Nat → Nat → Int32) (J : Nat → Nat → Int64) (R : Nat → Nat) (T : List ez_C) (a : Int32) (b : Int32) (q14 : Int32) (q18 : Int32) (q19 : Int32) (cz kz : Nat) : ∀ G : ez_F, fx_up X 3 G 42 56 [.ref 0, .int a, .int b, .int q19] [] (ev_hp (ev_sI I 2 (ev_put 3 (I 2) a b)) J R T) cz kz = ev_C G 62 [.ref 22] (ev_hp (ev_sI I 2 (ev_put 3 (I 2) a b)) J R T) fun r h1 c1 k1 => G 42 63 [.ref 0, .int a, .int b, .int q19] (r.toList ++ []) h1 (cz + c1) (kz + k1) := by
  intro G
  rfl
set_option maxRecDepth 100000 in
set_option maxHeartbeats 100000 in
theorem eg_set_r26 (X : ez_X) (I : Nat → Nat → Int32) (J : Nat → Nat → Int64) (R : Nat → Nat) (T : List ez_C) (a : Int32) (b : Int32) (q14 : Int32) (q18 : Int32) (q19 : Int32) (cz kz : Nat) : ∀ G : ez_F, fx_up X 2 G 42 63 [.ref 0, .int a, .int b, .int q19] [] (ev_hp (ev_sI (ev_sI I 2 (ev_put 3 (I 2) a b)) 22 (upd (upd (I 22) 8 0) 11 (-1))) J R T) cz kz = ev_C G 12 [.ref 0] (ev_hp (ev_sI (ev_sI I 2 (ev_put 3 (I 2) a b)) 22 (upd (upd (I 22) 8 0) 11 (-1))) J R T) fun r h1 c1 k1 => G 42 67 [.ref 0, .int a, .int b, .int q19] (r.toList ++ []) h1 (cz + c1) (kz + k1) := by
  intro G
  rfl
set_option maxRecDepth 100000 in
set_option maxHeartbeats 100000 in
theorem eg_set_r27 (X : ez_X) (I : Nat → Nat → Int32) (J : Nat → Nat → Int64) (R : Nat → Nat) (T : List ez_C) (a : Int32) (b : Int32) (q14 : Int32) (q18 : Int32) (q19 : Int32) (cz kz : Nat) : ∀ G : ez_F, fx_up X 3 G 42 67 [.ref 0, .int a, .int b, .int q19] [] (ev_hp (ev_sI (ev_sI (ev_sI (ev_sI I 2 (ev_put 3 (I 2) a b)) 13 (upd (upd (I 13) 8 0) 9 0)) 20 (upd (I 20) 3 0)) 22 (upd (upd (I 22) 8 0) 11 (-1))) J R T) cz kz = some (some (.int q19), (ev_hp (ev_sI (ev_sI (ev_sI (ev_sI I 2 (ev_put 3 (I 2) a b)) 13 (upd (upd (I 13) 8 0) 9 0)) 20 (upd (I 20) 3 0)) 22 (upd (upd (I 22) 8 0) 11 (-1))) J R T), cz, kz) := by
  intro G
  rfl
set_option maxRecDepth 100000 in
set_option maxHeartbeats 100000 in
theorem eg_set_r28 (X : ez_X) (I : Nat → Nat → Int32) (J : Nat → Nat → Int64) (R : Nat → Nat) (T : List ez_C) (a : Int32) (b : Int32) (q14 : Int32) (q18 : Int32) (q19 : Int32) (cz kz : Nat) : ∀ G : ez_F, fx_up X 2 G 42 44 [.ref 0, .int a, .int b, .int q19] [] (ev_hp (ev_sI I 2 (ev_put 3 (I 2) a b)) J R T) cz kz = ev_C G 28 [.ref 0] (ev_hp (ev_sI I 2 (ev_put 3 (I 2) a b)) J R T) fun r h1 c1 k1 => G 42 48 [.ref 0, .int a, .int b, .int q19] (r.toList ++ []) h1 (cz + c1) (kz + k1) := by
  intro G
  rfl
set_option maxRecDepth 100000 in
set_option maxHeartbeats 100000 in
theorem eg_set_r29 (X : ez_X) (I : Nat → Nat → Int32) (J : Nat → Nat → Int64) (R : Nat → Nat) (T : List ez_C) (a : Int32) (b : Int32) (q14 : Int32) (q18 : Int32) (q19 : Int32) (cz kz : Nat) : ∀ G : ez_F, fx_up X 3 G 42 48 [.ref 0, .int a, .int b, .int q19] [] (ev_hp (ev_sI (ev_sI (ev_sI (ev_sI (ev_sI I 2 (ev_put 3 (I 2) a b)) 6 (upd (I 6) 4 0)) 13 (upd (upd (I 13) 8 0) 9 0)) 20 (upd (I 20) 3 0)) 22 (upd (upd (I 22) 8 0) 11 (-1))) J R T) cz kz = some (some (.int q19), (ev_hp (ev_sI (ev_sI (ev_sI (ev_sI (ev_sI I 2 (ev_put 3 (I 2) a b)) 6 (upd (I 6) 4 0)) 13 (upd (upd (I 13) 8 0) 9 0)) 20 (upd (I 20) 3 0)) 22 (upd (upd (I 22) 8 0) 11 (-1))) J R T), cz, kz) := by
  intro G
  rfl
set_option maxRecDepth 100000 in
set_option maxHeartbeats 100000 in
theorem eg_set_r30 (X : ez_X) (I : Nat → Nat → Int32) (J : Nat → Nat → Int64) (R : Nat → Nat) (T : List ez_C) (a : Int32) (b : Int32) (q14 : Int32) (q18 : Int32) (cz kz : Nat) : ∀ G : ez_F, fx_up X 2 G 42 27 [.ref 0, .int a, .int b] [] (ev_hp I J R T) cz kz = some (some (.int (-3)), (ev_hp I J R T), cz, kz) := by
  intro G
  rfl
theorem eg_set (X : ez_X) (I : Nat → Nat → Int32) (J : Nat → Nat → Int64) (R : Nat → Nat) (T : List ez_C) (a : Int32) (b : Int32)  : ev_W X 42 0 (ez_lay [.ref 0, .int a, .int b]) [] (ev_hp I J R T) 0 0 (fun r h1 c1 k1 => ((((ev_wi a 0 2)) = 0) ∧ r = some (.int (-3)) ∧ h1 = (ev_hp I J R T) ∧ c1 = 0 ∧ k1 = 0) ∨ ((¬ (((ev_wi a 0 2)) = 0)) ∧ (¬ a = 1) ∧ (¬ ((ev_wi b 0 2)) = 0) ∧ (¬ a = 0) ∧ (¬ a = 1) ∧ r = some (.int ((ev_at 3 (I 2) a))) ∧ h1 = (ev_hp (ev_sI (ev_sI (ev_sI I 2 (ev_put 3 (I 2) a b)) 13 (upd (I 13) 9 0)) 20 (upd (I 20) 3 0)) J R T) ∧ c1 = 0 ∧ k1 = 0) ∨ ((¬ (((ev_wi a 0 2)) = 0)) ∧ (¬ a = 1) ∧ (¬ ((ev_wi b 0 2)) = 0) ∧ (¬ a = 0) ∧ (¬ (¬ a = 1)) ∧ r = some (.int ((ev_at 3 (I 2) a))) ∧ h1 = (ev_hp (ev_sI (ev_sI (ev_sI (ev_sI I 2 (ev_put 3 (I 2) a b)) 13 (upd (upd (I 13) 8 0) 9 0)) 20 (upd (I 20) 3 0)) 22 (upd (upd (I 22) 8 0) 11 (-1))) J R T) ∧ c1 = 0 ∧ k1 = 0) ∨ ((¬ (((ev_wi a 0 2)) = 0)) ∧ (¬ a = 1) ∧ (¬ ((ev_wi b 0 2)) = 0) ∧ (¬ (¬ a = 0)) ∧ r = some (.int ((ev_at 3 (I 2) a))) ∧ h1 = (ev_hp (ev_sI (ev_sI (ev_sI (ev_sI (ev_sI I 2 (ev_put 3 (I 2) a b)) 6 (upd (I 6) 4 0)) 13 (upd (upd (I 13) 8 0) 9 0)) 20 (upd (I 20) 3 0)) 22 (upd (upd (I 22) 8 0) 11 (-1))) J R T) ∧ c1 = 0 ∧ k1 = 0) ∨ ((¬ (((ev_wi a 0 2)) = 0)) ∧ (¬ a = 1) ∧ (¬ (¬ ((ev_wi b 0 2)) = 0)) ∧ r = some (.int (-3)) ∧ h1 = (ev_hp I J R T) ∧ c1 = 0 ∧ k1 = 0) ∨ ((¬ (((ev_wi a 0 2)) = 0)) ∧ (¬ (¬ a = 1)) ∧ (¬ ((ev_wi b 0 1)) = 0) ∧ (¬ a = 0) ∧ (¬ a = 1) ∧ r = some (.int ((ev_at 3 (I 2) a))) ∧ h1 = (ev_hp (ev_sI (ev_sI (ev_sI I 2 (ev_put 3 (I 2) a b)) 13 (upd (I 13) 9 0)) 20 (upd (I 20) 3 0)) J R T) ∧ c1 = 0 ∧ k1 = 0) ∨ ((¬ (((ev_wi a 0 2)) = 0)) ∧ (¬ (¬ a = 1)) ∧ (¬ ((ev_wi b 0 1)) = 0) ∧ (¬ a = 0) ∧ (¬ (¬ a = 1)) ∧ r = some (.int ((ev_at 3 (I 2) a))) ∧ h1 = (ev_hp (ev_sI (ev_sI (ev_sI (ev_sI I 2 (ev_put 3 (I 2) a b)) 13 (upd (upd (I 13) 8 0) 9 0)) 20 (upd (I 20) 3 0)) 22 (upd (upd (I 22) 8 0) 11 (-1))) J R T) ∧ c1 = 0 ∧ k1 = 0) ∨ ((¬ (((ev_wi a 0 2)) = 0)) ∧ (¬ (¬ a = 1)) ∧ (¬ ((ev_wi b 0 1)) = 0) ∧ (¬ (¬ a = 0)) ∧ r = some (.int ((ev_at 3 (I 2) a))) ∧ h1 = (ev_hp (ev_sI (ev_sI (ev_sI (ev_sI (ev_sI I 2 (ev_put 3 (I 2) a b)) 6 (upd (I 6) 4 0)) 13 (upd (upd (I 13) 8 0) 9 0)) 20 (upd (I 20) 3 0)) 22 (upd (upd (I 22) 8 0) 11 (-1))) J R T) ∧ c1 = 0 ∧ k1 = 0) ∨ ((¬ (((ev_wi a 0 2)) = 0)) ∧ (¬ (¬ a = 1)) ∧ (¬ (¬ ((ev_wi b 0 1)) = 0)) ∧ r = some (.int (-3)) ∧ h1 = (ev_hp I J R T) ∧ c1 = 0 ∧ k1 = 0)) := by
  refine ev_call (eg_set_r1 X I J R T a b _ _) (ec_within X (ev_hp I J R T) a 0 2) ?_
  rintro _ _ _ _ ⟨rfl, rfl, rfl, rfl⟩
  generalize hq14 : (ev_wi a 0 2) = q14
  refine ev_if (eg_set_r2 X I J R T a b q14 _ _) (fun b1 => ?_) (fun b1 => ?_)
  · replace b1 := of_decide_eq_true b1
    refine ev_ret (eg_set_r3 X I J R T a b q14 _ _) ?_
    subst hq14
    exact Or.inl ⟨b1, rfl, rfl, rfl, rfl⟩
  · replace b1 := of_decide_eq_false b1
    refine ev_if (eg_set_r4 X I J R T a b q14 _ _) (fun b2 => ?_) (fun b2 => ?_)
    · replace b2 := of_decide_eq_true b2
      refine ev_call (eg_set_r5 X I J R T a b q14 _ _) (ec_within X (ev_hp I J R T) b 0 2) ?_
      rintro _ _ _ _ ⟨rfl, rfl, rfl, rfl⟩
      generalize hq15 : (ev_wi b 0 2) = q15
      refine ev_if (eg_set_r6 X I J R T a b q14 q15 _ _) (fun b3 => ?_) (fun b3 => ?_)
      · replace b3 := of_decide_eq_true b3
        refine ev_call (eg_set_r7 X I J R T a b q14 q15 _ _) (ea_S_Sheet_changeRule_146_1 X I J R T a b) ?_
        rintro r0 _ _ _ (⟨hr0, rfl, rfl, rfl⟩)
        obtain ⟨q17, hq17⟩ : ∃ z : Int32, (ev_at 3 (I 2) a) = z := ⟨_, rfl⟩
        have eq17 : r0 = some (.int q17) := hr0.trans (by subst hq17; rfl)
        subst eq17
        refine ev_if (eg_set_r8 X I J R T a b q14 q15 q17 _ _) (fun b4 => ?_) (fun b4 => ?_)
        · replace b4 := of_decide_eq_true b4
          refine ev_if (eg_set_r9 X I J R T a b q14 q15 q17 _ _) (fun b5 => ?_) (fun b5 => ?_)
          · replace b5 := of_decide_eq_true b5
            refine ev_call (eg_set_r10 X I J R T a b q14 q15 q17 _ _) (ea_S_answersChanged_2_0 X (ev_sI I 2 (ev_put 3 (I 2) a b)) J R T) ?_
            rintro r0 _ _ _ (⟨rfl, rfl, rfl, rfl⟩)
            refine ev_ret (eg_set_r11 X I J R T a b q14 q15 q17 _ _) ?_
            subst hq17
            subst hq15
            subst hq14
            exact Or.inr (Or.inl ⟨b1, b2, b3, b4, b5, rfl, rfl, rfl, rfl⟩)
          · replace b5 := of_decide_eq_false b5
            refine ev_call (eg_set_r12 X I J R T a b q14 q15 q17 _ _) (ea_S_Caller_forget_62_22 X (ev_sI I 2 (ev_put 3 (I 2) a b)) J R T) ?_
            rintro r0 _ _ _ (⟨rfl, rfl, rfl, rfl⟩)
            refine ev_call (eg_set_r13 X I J R T a b q14 q15 q17 _ _) (ea_S_callsChanged_12_0 X (ev_sI (ev_sI I 2 (ev_put 3 (I 2) a b)) 22 (upd (upd (I 22) 8 0) 11 (-1))) J R T) ?_
            rintro r0 _ _ _ (⟨rfl, rfl, rfl, rfl⟩)
            refine ev_ret (eg_set_r14 X I J R T a b q14 q15 q17 _ _) ?_
            subst hq17
            subst hq15
            subst hq14
            exact Or.inr (Or.inr (Or.inl ⟨b1, b2, b3, b4, b5, rfl, rfl, rfl, rfl⟩))
        · replace b4 := of_decide_eq_false b4
          refine ev_call (eg_set_r15 X I J R T a b q14 q15 q17 _ _) (ea_S_layingsChanged_28_0 X (ev_sI I 2 (ev_put 3 (I 2) a b)) J R T) ?_
          rintro r0 _ _ _ (⟨rfl, rfl, rfl, rfl⟩)
          refine ev_ret (eg_set_r16 X I J R T a b q14 q15 q17 _ _) ?_
          subst hq17
          subst hq15
          subst hq14
          exact Or.inr (Or.inr (Or.inr (Or.inl ⟨b1, b2, b3, b4, rfl, rfl, rfl, rfl⟩)))
      · replace b3 := of_decide_eq_false b3
        refine ev_ret (eg_set_r17 X I J R T a b q14 q15 _ _) ?_
        subst hq15
        subst hq14
        exact Or.inr (Or.inr (Or.inr (Or.inr (Or.inl ⟨b1, b2, b3, rfl, rfl, rfl, rfl⟩))))
    · replace b2 := of_decide_eq_false b2
      refine ev_call (eg_set_r18 X I J R T a b q14 _ _) (ec_within X (ev_hp I J R T) b 0 1) ?_
      rintro _ _ _ _ ⟨rfl, rfl, rfl, rfl⟩
      generalize hq18 : (ev_wi b 0 1) = q18
      refine ev_if (eg_set_r19 X I J R T a b q14 q18 _ _) (fun b6 => ?_) (fun b6 => ?_)
      · replace b6 := of_decide_eq_true b6
        refine ev_call (eg_set_r20 X I J R T a b q14 q18 _ _) (ea_S_Sheet_changeRule_146_1 X I J R T a b) ?_
        rintro r0 _ _ _ (⟨hr0, rfl, rfl, rfl⟩)
        obtain ⟨q19, hq19⟩ : ∃ z : Int32, (ev_at 3 (I 2) a) = z := ⟨_, rfl⟩
        have eq19 : r0 = some (.int q19) := hr0.trans (by subst hq19; rfl)
        subst eq19
        refine ev_if (eg_set_r21 X I J R T a b q14 q18 q19 _ _) (fun b7 => ?_) (fun b7 => ?_)
        · replace b7 := of_decide_eq_true b7
          refine ev_if (eg_set_r22 X I J R T a b q14 q18 q19 _ _) (fun b8 => ?_) (fun b8 => ?_)
          · replace b8 := of_decide_eq_true b8
            refine ev_call (eg_set_r23 X I J R T a b q14 q18 q19 _ _) (ea_S_answersChanged_2_0 X (ev_sI I 2 (ev_put 3 (I 2) a b)) J R T) ?_
            rintro r0 _ _ _ (⟨rfl, rfl, rfl, rfl⟩)
            refine ev_ret (eg_set_r24 X I J R T a b q14 q18 q19 _ _) ?_
            subst hq19
            subst hq18
            subst hq14
            exact Or.inr (Or.inr (Or.inr (Or.inr (Or.inr (Or.inl ⟨b1, b2, b6, b7, b8, rfl, rfl, rfl, rfl⟩)))))
          · replace b8 := of_decide_eq_false b8
            refine ev_call (eg_set_r25 X I J R T a b q14 q18 q19 _ _) (ea_S_Caller_forget_62_22 X (ev_sI I 2 (ev_put 3 (I 2) a b)) J R T) ?_
            rintro r0 _ _ _ (⟨rfl, rfl, rfl, rfl⟩)
            refine ev_call (eg_set_r26 X I J R T a b q14 q18 q19 _ _) (ea_S_callsChanged_12_0 X (ev_sI (ev_sI I 2 (ev_put 3 (I 2) a b)) 22 (upd (upd (I 22) 8 0) 11 (-1))) J R T) ?_
            rintro r0 _ _ _ (⟨rfl, rfl, rfl, rfl⟩)
            refine ev_ret (eg_set_r27 X I J R T a b q14 q18 q19 _ _) ?_
            subst hq19
            subst hq18
            subst hq14
            exact Or.inr (Or.inr (Or.inr (Or.inr (Or.inr (Or.inr (Or.inl ⟨b1, b2, b6, b7, b8, rfl, rfl, rfl, rfl⟩))))))
        · replace b7 := of_decide_eq_false b7
          refine ev_call (eg_set_r28 X I J R T a b q14 q18 q19 _ _) (ea_S_layingsChanged_28_0 X (ev_sI I 2 (ev_put 3 (I 2) a b)) J R T) ?_
          rintro r0 _ _ _ (⟨rfl, rfl, rfl, rfl⟩)
          refine ev_ret (eg_set_r29 X I J R T a b q14 q18 q19 _ _) ?_
          subst hq19
          subst hq18
          subst hq14
          exact Or.inr (Or.inr (Or.inr (Or.inr (Or.inr (Or.inr (Or.inr (Or.inl ⟨b1, b2, b6, b7, rfl, rfl, rfl, rfl⟩)))))))
      · replace b6 := of_decide_eq_false b6
        refine ev_ret (eg_set_r30 X I J R T a b q14 q18 _ _) ?_
        subst hq18
        subst hq14
        exact Or.inr (Or.inr (Or.inr (Or.inr (Or.inr (Or.inr (Or.inr (Or.inr (⟨b1, b2, b6, rfl, rfl, rfl, rfl⟩))))))))
set_option maxRecDepth 100000 in
set_option maxHeartbeats 100000 in
theorem eg_drift_r1 (X : ez_X) (I : Nat → Nat → Int32) (J : Nat → Nat → Int64) (R : Nat → Nat) (T : List ez_C) (a : Int32) (b : Int32) (cz kz : Nat) : ∀ G : ez_F, fx_up X 4 G 16 0 [.ref 0, .int a, .int b] [] (ev_hp I J R T) cz kz = ev_C G 55 [.int a, .int (-1), .int 1] (ev_hp I J R T) fun r h1 c1 k1 => G 16 6 [.ref 0, .int a, .int b] (r.toList ++ []) h1 (cz + c1) (kz + k1) := by
  intro G
  rfl
set_option maxRecDepth 100000 in
set_option maxHeartbeats 100000 in
theorem eg_drift_r2 (X : ez_X) (I : Nat → Nat → Int32) (J : Nat → Nat → Int64) (R : Nat → Nat) (T : List ez_C) (a : Int32) (b : Int32) (q20 : Int32) (cz kz : Nat) : ∀ G : ez_F, fx_up X 1 G 16 6 [.ref 0, .int a, .int b] [.int q20] (ev_hp I J R T) cz kz = bif decide (q20 = 0) then G 16 18 [.ref 0, .int a, .int b] [] (ev_hp I J R T) cz kz else G 16 9 [.ref 0, .int a, .int b] [] (ev_hp I J R T) cz kz := by
  intro G
  rfl
set_option maxRecDepth 100000 in
set_option maxHeartbeats 100000 in
theorem eg_drift_r3 (X : ez_X) (I : Nat → Nat → Int32) (J : Nat → Nat → Int64) (R : Nat → Nat) (T : List ez_C) (a : Int32) (b : Int32) (q20 : Int32) (cz kz : Nat) : ∀ G : ez_F, fx_up X 2 G 16 18 [.ref 0, .int a, .int b] [] (ev_hp I J R T) cz kz = some (some (.int (-3)), (ev_hp I J R T), cz, kz) := by
  intro G
  rfl
set_option maxRecDepth 100000 in
set_option maxHeartbeats 100000 in
theorem eg_drift_r4 (X : ez_X) (I : Nat → Nat → Int32) (J : Nat → Nat → Int64) (R : Nat → Nat) (T : List ez_C) (a : Int32) (b : Int32) (q20 : Int32) (cz kz : Nat) : ∀ G : ez_F, fx_up X 4 G 16 9 [.ref 0, .int a, .int b] [] (ev_hp I J R T) cz kz = ev_C G 55 [.int b, .int (-1), .int 1] (ev_hp I J R T) fun r h1 c1 k1 => G 16 15 [.ref 0, .int a, .int b] (r.toList ++ []) h1 (cz + c1) (kz + k1) := by
  intro G
  rfl
set_option maxRecDepth 100000 in
set_option maxHeartbeats 100000 in
theorem eg_drift_r5 (X : ez_X) (I : Nat → Nat → Int32) (J : Nat → Nat → Int64) (R : Nat → Nat) (T : List ez_C) (a : Int32) (b : Int32) (q20 : Int32) (q21 : Int32) (cz kz : Nat) : ∀ G : ez_F, fx_up X 1 G 16 15 [.ref 0, .int a, .int b] [.int q21] (ev_hp I J R T) cz kz = bif decide (¬ q21 = 0) then G 16 21 [.ref 0, .int a, .int b] [] (ev_hp I J R T) cz kz else G 16 18 [.ref 0, .int a, .int b] [] (ev_hp I J R T) cz kz := by
  intro G
  rfl
set_option maxRecDepth 100000 in
set_option maxHeartbeats 100000 in
theorem eg_drift_r6 (X : ez_X) (I : Nat → Nat → Int32) (J : Nat → Nat → Int64) (R : Nat → Nat) (T : List ez_C) (a : Int32) (b : Int32) (q20 : Int32) (q21 : Int32) (cz kz : Nat) : ∀ G : ez_F, fx_up X 4 G 16 21 [.ref 0, .int a, .int b] [] (ev_hp I J R T) cz kz = bif decide (¬ (I 1 5) = 0) then G 16 34 [.ref 0, .int a, .int b] [] (ev_hp I J R T) cz kz else G 16 31 [.ref 0, .int a, .int b] [] (ev_hp I J R T) cz kz := by
  intro G
  rfl
set_option maxRecDepth 100000 in
set_option maxHeartbeats 100000 in
theorem eg_drift_r7 (X : ez_X) (I : Nat → Nat → Int32) (J : Nat → Nat → Int64) (R : Nat → Nat) (T : List ez_C) (a : Int32) (b : Int32) (q20 : Int32) (q21 : Int32) (cz kz : Nat) : ∀ G : ez_F, fx_up X 5 G 16 34 [.ref 0, .int a, .int b] [] (ev_hp I J R T) cz kz = ev_C G 153 [.ref 1, .int a, .int b] (ev_hp I J R T) fun r h1 c1 k1 => G 16 43 [.ref 0, .int a, .int b] (r.toList ++ []) h1 (cz + c1) (kz + k1) := by
  intro G
  rfl
set_option maxRecDepth 100000 in
set_option maxHeartbeats 100000 in
theorem eg_drift_r8 (X : ez_X) (I : Nat → Nat → Int32) (J : Nat → Nat → Int64) (R : Nat → Nat) (T : List ez_C) (a : Int32) (b : Int32) (q20 : Int32) (q21 : Int32) (cz kz : Nat) : ∀ G : ez_F, fx_up X 2 G 16 43 [.ref 0, .int a, .int b] [] (ev_hp (ev_sI I 1 (upd (upd (I 1) 1 a) 2 b)) J R T) cz kz = ev_C G 12 [.ref 0] (ev_hp (ev_sI I 1 (upd (upd (I 1) 1 a) 2 b)) J R T) fun r h1 c1 k1 => G 16 47 [.ref 0, .int a, .int b] (r.toList ++ []) h1 (cz + c1) (kz + k1) := by
  intro G
  rfl
set_option maxRecDepth 100000 in
set_option maxHeartbeats 100000 in
theorem eg_drift_r9 (X : ez_X) (I : Nat → Nat → Int32) (J : Nat → Nat → Int64) (R : Nat → Nat) (T : List ez_C) (a : Int32) (b : Int32) (q20 : Int32) (q21 : Int32) (cz kz : Nat) : ∀ G : ez_F, fx_up X 2 G 16 47 [.ref 0, .int a, .int b] [] (ev_hp (ev_sI (ev_sI (ev_sI I 1 (upd (upd (I 1) 1 a) 2 b)) 13 (upd (upd (I 13) 8 0) 9 0)) 20 (upd (I 20) 3 0)) J R T) cz kz = some (some (.int 1), (ev_hp (ev_sI (ev_sI (ev_sI I 1 (upd (upd (I 1) 1 a) 2 b)) 13 (upd (upd (I 13) 8 0) 9 0)) 20 (upd (I 20) 3 0)) J R T), cz, kz) := by
  intro G
  rfl
set_option maxRecDepth 100000 in
set_option maxHeartbeats 100000 in
theorem eg_drift_r10 (X : ez_X) (I : Nat → Nat → Int32) (J : Nat → Nat → Int64) (R : Nat → Nat) (T : List ez_C) (a : Int32) (b : Int32) (q20 : Int32) (q21 : Int32) (cz kz : Nat) : ∀ G : ez_F, fx_up X 2 G 16 31 [.ref 0, .int a, .int b] [] (ev_hp I J R T) cz kz = some (some (.int (-4)), (ev_hp I J R T), cz, kz) := by
  intro G
  rfl
set_option maxRecDepth 100000 in
set_option maxHeartbeats 100000 in
theorem eg_drift_r11 (X : ez_X) (I : Nat → Nat → Int32) (J : Nat → Nat → Int64) (R : Nat → Nat) (T : List ez_C) (a : Int32) (b : Int32) (q20 : Int32) (q21 : Int32) (cz kz : Nat) : ∀ G : ez_F, fx_up X 2 G 16 18 [.ref 0, .int a, .int b] [] (ev_hp I J R T) cz kz = some (some (.int (-3)), (ev_hp I J R T), cz, kz) := by
  intro G
  rfl
theorem eg_drift (X : ez_X) (I : Nat → Nat → Int32) (J : Nat → Nat → Int64) (R : Nat → Nat) (T : List ez_C) (a : Int32) (b : Int32)  : ev_W X 16 0 (ez_lay [.ref 0, .int a, .int b]) [] (ev_hp I J R T) 0 0 (fun r h1 c1 k1 => ((((ev_wi a (-1) 1)) = 0) ∧ r = some (.int (-3)) ∧ h1 = (ev_hp I J R T) ∧ c1 = 0 ∧ k1 = 0) ∨ ((¬ (((ev_wi a (-1) 1)) = 0)) ∧ (¬ ((ev_wi b (-1) 1)) = 0) ∧ (¬ (I 1 5) = 0) ∧ r = some (.int 1) ∧ h1 = (ev_hp (ev_sI (ev_sI (ev_sI I 1 (upd (upd (I 1) 1 a) 2 b)) 13 (upd (upd (I 13) 8 0) 9 0)) 20 (upd (I 20) 3 0)) J R T) ∧ c1 = 0 ∧ k1 = 0) ∨ ((¬ (((ev_wi a (-1) 1)) = 0)) ∧ (¬ ((ev_wi b (-1) 1)) = 0) ∧ (¬ (¬ (I 1 5) = 0)) ∧ r = some (.int (-4)) ∧ h1 = (ev_hp I J R T) ∧ c1 = 0 ∧ k1 = 0) ∨ ((¬ (((ev_wi a (-1) 1)) = 0)) ∧ (¬ (¬ ((ev_wi b (-1) 1)) = 0)) ∧ r = some (.int (-3)) ∧ h1 = (ev_hp I J R T) ∧ c1 = 0 ∧ k1 = 0)) := by
  refine ev_call (eg_drift_r1 X I J R T a b _ _) (ec_within X (ev_hp I J R T) a (-1) 1) ?_
  rintro _ _ _ _ ⟨rfl, rfl, rfl, rfl⟩
  generalize hq20 : (ev_wi a (-1) 1) = q20
  refine ev_if (eg_drift_r2 X I J R T a b q20 _ _) (fun b1 => ?_) (fun b1 => ?_)
  · replace b1 := of_decide_eq_true b1
    refine ev_ret (eg_drift_r3 X I J R T a b q20 _ _) ?_
    subst hq20
    exact Or.inl ⟨b1, rfl, rfl, rfl, rfl⟩
  · replace b1 := of_decide_eq_false b1
    refine ev_call (eg_drift_r4 X I J R T a b q20 _ _) (ec_within X (ev_hp I J R T) b (-1) 1) ?_
    rintro _ _ _ _ ⟨rfl, rfl, rfl, rfl⟩
    generalize hq21 : (ev_wi b (-1) 1) = q21
    refine ev_if (eg_drift_r5 X I J R T a b q20 q21 _ _) (fun b2 => ?_) (fun b2 => ?_)
    · replace b2 := of_decide_eq_true b2
      refine ev_if (eg_drift_r6 X I J R T a b q20 q21 _ _) (fun b3 => ?_) (fun b3 => ?_)
      · replace b3 := of_decide_eq_true b3
        refine ev_call (eg_drift_r7 X I J R T a b q20 q21 _ _) (ea_S_Sheet_setDrift_153_1 X I J R T a b) ?_
        rintro r0 _ _ _ (⟨rfl, rfl, rfl, rfl⟩)
        refine ev_call (eg_drift_r8 X I J R T a b q20 q21 _ _) (ea_S_callsChanged_12_0 X (ev_sI I 1 (upd (upd (I 1) 1 a) 2 b)) J R T) ?_
        rintro r0 _ _ _ (⟨rfl, rfl, rfl, rfl⟩)
        refine ev_ret (eg_drift_r9 X I J R T a b q20 q21 _ _) ?_
        subst hq21
        subst hq20
        exact Or.inr (Or.inl ⟨b1, b2, b3, rfl, rfl, rfl, rfl⟩)
      · replace b3 := of_decide_eq_false b3
        refine ev_ret (eg_drift_r10 X I J R T a b q20 q21 _ _) ?_
        subst hq21
        subst hq20
        exact Or.inr (Or.inr (Or.inl ⟨b1, b2, b3, rfl, rfl, rfl, rfl⟩))
    · replace b2 := of_decide_eq_false b2
      refine ev_ret (eg_drift_r11 X I J R T a b q20 q21 _ _) ?_
      subst hq21
      subst hq20
      exact Or.inr (Or.inr (Or.inr (⟨b1, b2, rfl, rfl, rfl, rfl⟩)))
set_option maxRecDepth 100000 in
set_option maxHeartbeats 100000 in
theorem eg_isCell_r1 (X : ez_X) (I : Nat → Nat → Int32) (J : Nat → Nat → Int64) (R : Nat → Nat) (T : List ez_C) (a : Int32) (cz kz : Nat) : ∀ G : ez_F, fx_up X 8 G 22 0 [.ref 0, .int a] [] (ev_hp I J R T) cz kz = ev_C G 55 [.int a, .int 0, .int ((I 1 6) - (1 : Int32))] (ev_hp I J R T) fun r h1 c1 k1 => G 22 14 [.ref 0, .int a] (r.toList ++ []) h1 (cz + c1) (kz + k1) := by
  intro G
  rfl
theorem eg_isCell (X : ez_X) (I : Nat → Nat → Int32) (J : Nat → Nat → Int64) (R : Nat → Nat) (T : List ez_C) (a : Int32)  : ev_W X 22 0 (ez_lay [.ref 0, .int a]) [] (ev_hp I J R T) 0 0 (fun r h1 c1 k1 => (r = some (.int ((ev_wi a 0 ((I 1 6) - (1 : Int32))))) ∧ h1 = (ev_hp I J R T) ∧ c1 = 0 ∧ k1 = 0)) := by
  refine ev_call (eg_isCell_r1 X I J R T a _ _) (ec_within X (ev_hp I J R T) a 0 ((I 1 6) - (1 : Int32))) ?_
  rintro _ _ _ _ ⟨rfl, rfl, rfl, rfl⟩
  generalize hq22 : (ev_wi a 0 ((I 1 6) - (1 : Int32))) = q22
  refine ev_zret (by rfl) (by first | (rw [← hq22]; exact ev_wi_01 _ _ _) | (rw [← hq22]; exact ev_il_01 _ _ _) | assumption | exact ev_01 hq22) ?_
  subst hq22
  exact ⟨rfl, rfl, rfl, rfl⟩
set_option maxRecDepth 100000 in
set_option maxHeartbeats 100000 in
theorem eg_isShip_r1 (X : ez_X) (I : Nat → Nat → Int32) (J : Nat → Nat → Int64) (R : Nat → Nat) (T : List ez_C) (a : Int32) (cz kz : Nat) : ∀ G : ez_F, fx_up X 8 G 25 0 [.ref 0, .int a] [] (ev_hp I J R T) cz kz = ev_C G 55 [.int a, .int 0, .int ((I 3 3) - (1 : Int32))] (ev_hp I J R T) fun r h1 c1 k1 => G 25 14 [.ref 0, .int a] (r.toList ++ []) h1 (cz + c1) (kz + k1) := by
  intro G
  rfl
theorem eg_isShip (X : ez_X) (I : Nat → Nat → Int32) (J : Nat → Nat → Int64) (R : Nat → Nat) (T : List ez_C) (a : Int32)  : ev_W X 25 0 (ez_lay [.ref 0, .int a]) [] (ev_hp I J R T) 0 0 (fun r h1 c1 k1 => (r = some (.int ((ev_wi a 0 ((I 3 3) - (1 : Int32))))) ∧ h1 = (ev_hp I J R T) ∧ c1 = 0 ∧ k1 = 0)) := by
  refine ev_call (eg_isShip_r1 X I J R T a _ _) (ec_within X (ev_hp I J R T) a 0 ((I 3 3) - (1 : Int32))) ?_
  rintro _ _ _ _ ⟨rfl, rfl, rfl, rfl⟩
  generalize hq23 : (ev_wi a 0 ((I 3 3) - (1 : Int32))) = q23
  refine ev_zret (by rfl) (by first | (rw [← hq23]; exact ev_wi_01 _ _ _) | (rw [← hq23]; exact ev_il_01 _ _ _) | assumption | exact ev_01 hq23) ?_
  subst hq23
  exact ⟨rfl, rfl, rfl, rfl⟩
set_option maxRecDepth 100000 in
set_option maxHeartbeats 100000 in
theorem eg_isCall_r1 (X : ez_X) (I : Nat → Nat → Int32) (J : Nat → Nat → Int64) (R : Nat → Nat) (T : List ez_C) (a : Int32) (cz kz : Nat) : ∀ G : ez_F, fx_up X 8 G 21 0 [.ref 0, .int a] [] (ev_hp I J R T) cz kz = ev_C G 55 [.int a, .int 0, .int ((I 8 1) - (1 : Int32))] (ev_hp I J R T) fun r h1 c1 k1 => G 21 14 [.ref 0, .int a] (r.toList ++ []) h1 (cz + c1) (kz + k1) := by
  intro G
  rfl
theorem eg_isCall (X : ez_X) (I : Nat → Nat → Int32) (J : Nat → Nat → Int64) (R : Nat → Nat) (T : List ez_C) (a : Int32)  : ev_W X 21 0 (ez_lay [.ref 0, .int a]) [] (ev_hp I J R T) 0 0 (fun r h1 c1 k1 => (r = some (.int ((ev_wi a 0 ((I 8 1) - (1 : Int32))))) ∧ h1 = (ev_hp I J R T) ∧ c1 = 0 ∧ k1 = 0)) := by
  refine ev_call (eg_isCall_r1 X I J R T a _ _) (ec_within X (ev_hp I J R T) a 0 ((I 8 1) - (1 : Int32))) ?_
  rintro _ _ _ _ ⟨rfl, rfl, rfl, rfl⟩
  generalize hq24 : (ev_wi a 0 ((I 8 1) - (1 : Int32))) = q24
  refine ev_zret (by rfl) (by first | (rw [← hq24]; exact ev_wi_01 _ _ _) | (rw [← hq24]; exact ev_il_01 _ _ _) | assumption | exact ev_01 hq24) ?_
  subst hq24
  exact ⟨rfl, rfl, rfl, rfl⟩
set_option maxRecDepth 100000 in
set_option maxHeartbeats 100000 in
theorem eg_isRim_r1 (X : ez_X) (I : Nat → Nat → Int32) (J : Nat → Nat → Int64) (R : Nat → Nat) (T : List ez_C) (a : Int32) (cz kz : Nat) : ∀ G : ez_F, fx_up X 5 G 24 0 [.ref 0, .int a] [] (ev_hp I J R T) cz kz = ev_C G 151 [.ref 1] (ev_hp I J R T) fun r h1 c1 k1 => G 24 9 [.ref 0, .int a] (r.toList ++ [.int 0, .int a]) h1 (cz + c1) (kz + k1) := by
  intro G
  rfl
set_option maxRecDepth 100000 in
set_option maxHeartbeats 100000 in
theorem eg_isRim_r2 (X : ez_X) (I : Nat → Nat → Int32) (J : Nat → Nat → Int64) (R : Nat → Nat) (T : List ez_C) (a : Int32) (q25 : Int32) (cz kz : Nat) : ∀ G : ez_F, fx_up X 3 G 24 9 [.ref 0, .int a] [.int q25, .int 0, .int a] (ev_hp I J R T) cz kz = ev_C G 55 [.int a, .int 0, .int (q25 - (1 : Int32))] (ev_hp I J R T) fun r h1 c1 k1 => G 24 14 [.ref 0, .int a] (r.toList ++ []) h1 (cz + c1) (kz + k1) := by
  intro G
  rfl
theorem eg_isRim (X : ez_X) (I : Nat → Nat → Int32) (J : Nat → Nat → Int64) (R : Nat → Nat) (T : List ez_C) (a : Int32)  : ev_W X 24 0 (ez_lay [.ref 0, .int a]) [] (ev_hp I J R T) 0 0 (fun r h1 c1 k1 => (r = some (.int ((ev_wi a 0 ((((I 1 4) + (I 1 3))) - (1 : Int32))))) ∧ h1 = (ev_hp I J R T) ∧ c1 = 0 ∧ k1 = 0)) := by
  refine ev_call (eg_isRim_r1 X I J R T a _ _) (ea_S_Sheet_rimTotal_151_1 X I J R T) ?_
  rintro r0 _ _ _ (⟨hr0, rfl, rfl, rfl⟩)
  obtain ⟨q25, hq25⟩ : ∃ z : Int32, ((I 1 4) + (I 1 3)) = z := ⟨_, rfl⟩
  have eq25 : r0 = some (.int q25) := hr0.trans (by subst hq25; rfl)
  subst eq25
  refine ev_call (eg_isRim_r2 X I J R T a q25 _ _) (ec_within X (ev_hp I J R T) a 0 (q25 - (1 : Int32))) ?_
  rintro _ _ _ _ ⟨rfl, rfl, rfl, rfl⟩
  generalize hq26 : (ev_wi a 0 (q25 - (1 : Int32))) = q26
  refine ev_zret (by rfl) (by first | (rw [← hq26]; exact ev_wi_01 _ _ _) | (rw [← hq26]; exact ev_il_01 _ _ _) | assumption | exact ev_01 hq26) ?_
  subst hq26
  subst hq25
  exact ⟨rfl, rfl, rfl, rfl⟩
set_option maxRecDepth 100000 in
set_option maxHeartbeats 100000 in
theorem eg_isLaying_r1 (X : ez_X) (I : Nat → Nat → Int32) (J : Nat → Nat → Int64) (R : Nat → Nat) (T : List ez_C) (a : Int32) (cz kz : Nat) : ∀ G : ez_F, fx_up X 8 G 23 0 [.ref 0, .int a] [] (ev_hp I J R T) cz kz = ev_C G 55 [.int a, .int 0, .int ((I 6 3) - (1 : Int32))] (ev_hp I J R T) fun r h1 c1 k1 => G 23 14 [.ref 0, .int a] (r.toList ++ []) h1 (cz + c1) (kz + k1) := by
  intro G
  rfl
theorem eg_isLaying (X : ez_X) (I : Nat → Nat → Int32) (J : Nat → Nat → Int64) (R : Nat → Nat) (T : List ez_C) (a : Int32)  : ev_W X 23 0 (ez_lay [.ref 0, .int a]) [] (ev_hp I J R T) 0 0 (fun r h1 c1 k1 => (r = some (.int ((ev_wi a 0 ((I 6 3) - (1 : Int32))))) ∧ h1 = (ev_hp I J R T) ∧ c1 = 0 ∧ k1 = 0)) := by
  refine ev_call (eg_isLaying_r1 X I J R T a _ _) (ec_within X (ev_hp I J R T) a 0 ((I 6 3) - (1 : Int32))) ?_
  rintro _ _ _ _ ⟨rfl, rfl, rfl, rfl⟩
  generalize hq27 : (ev_wi a 0 ((I 6 3) - (1 : Int32))) = q27
  refine ev_zret (by rfl) (by first | (rw [← hq27]; exact ev_wi_01 _ _ _) | (rw [← hq27]; exact ev_il_01 _ _ _) | assumption | exact ev_01 hq27) ?_
  subst hq27
  exact ⟨rfl, rfl, rfl, rfl⟩
set_option maxRecDepth 100000 in
set_option maxHeartbeats 100000 in
theorem eg_noted_r1 (X : ez_X) (I : Nat → Nat → Int32) (J : Nat → Nat → Int64) (R : Nat → Nat) (T : List ez_C) (a : Int64) (cz kz : Nat) : ∀ G : ez_F, fx_up X 5 G 35 0 [.ref 0, .long a, ez_fill] [] (ev_hp I J R T) cz kz = bif decide ((I 8 1) < 30) then G 35 15 [.ref 0, .long a, ez_fill] [] (ev_hp I J R T) cz kz else G 35 12 [.ref 0, .long a, ez_fill] [] (ev_hp I J R T) cz kz := by
  intro G
  rfl
set_option maxRecDepth 100000 in
set_option maxHeartbeats 100000 in
theorem eg_noted_r2 (X : ez_X) (I : Nat → Nat → Int32) (J : Nat → Nat → Int64) (R : Nat → Nat) (T : List ez_C) (a : Int64) (cz kz : Nat) : ∀ G : ez_F, fx_up X 4 G 35 15 [.ref 0, .long a, ez_fill] [] (ev_hp I J R T) cz kz = ev_C G 121 [.ref 8, .long a] (ev_hp I J R T) fun r h1 c1 k1 => G 35 23 [.ref 0, .long a, ez_fill] (r.toList ++ []) h1 (cz + c1) (kz + k1) := by
  intro G
  rfl
set_option maxRecDepth 100000 in
set_option maxHeartbeats 100000 in
theorem eg_noted_r3 (X : ez_X) (I : Nat → Nat → Int32) (J : Nat → Nat → Int64) (R : Nat → Nat) (T : List ez_C) (a : Int64) (q28 : Int32) (cz kz : Nat) : ∀ G : ez_F, fx_up X 3 G 35 23 [.ref 0, .long a, ez_fill] [.int q28] (ev_hp (ev_sI I 8 (upd (I 8) 1 ((I 8 1) + (1 : Int32)))) (ev_sJ J 9 (ev_putJ 30 (J 9) (I 8 1) a)) R T) cz kz = ev_C G 12 [.ref 0] (ev_hp (ev_sI I 8 (upd (I 8) 1 ((I 8 1) + (1 : Int32)))) (ev_sJ J 9 (ev_putJ 30 (J 9) (I 8 1) a)) R T) fun r h1 c1 k1 => G 35 28 [.ref 0, .long a, ez_fill, .int q28] (r.toList ++ []) h1 (cz + c1) (kz + k1) := by
  intro G
  rfl
set_option maxRecDepth 100000 in
set_option maxHeartbeats 100000 in
theorem eg_noted_r4 (X : ez_X) (I : Nat → Nat → Int32) (J : Nat → Nat → Int64) (R : Nat → Nat) (T : List ez_C) (a : Int64) (q28 : Int32) (cz kz : Nat) : ∀ G : ez_F, fx_up X 2 G 35 28 [.ref 0, .long a, ez_fill, .int q28] [] (ev_hp (ev_sI (ev_sI (ev_sI I 8 (upd (I 8) 1 ((I 8 1) + (1 : Int32)))) 13 (upd (upd (I 13) 8 0) 9 0)) 20 (upd (I 20) 3 0)) (ev_sJ J 9 (ev_putJ 30 (J 9) (I 8 1) a)) R T) cz kz = some (some (.int q28), (ev_hp (ev_sI (ev_sI (ev_sI I 8 (upd (I 8) 1 ((I 8 1) + (1 : Int32)))) 13 (upd (upd (I 13) 8 0) 9 0)) 20 (upd (I 20) 3 0)) (ev_sJ J 9 (ev_putJ 30 (J 9) (I 8 1) a)) R T), cz, kz) := by
  intro G
  rfl
set_option maxRecDepth 100000 in
set_option maxHeartbeats 100000 in
theorem eg_noted_r5 (X : ez_X) (I : Nat → Nat → Int32) (J : Nat → Nat → Int64) (R : Nat → Nat) (T : List ez_C) (a : Int64) (cz kz : Nat) : ∀ G : ez_F, fx_up X 2 G 35 12 [.ref 0, .long a, ez_fill] [] (ev_hp I J R T) cz kz = some (some (.int (-5)), (ev_hp I J R T), cz, kz) := by
  intro G
  rfl
theorem eg_noted (X : ez_X) (I : Nat → Nat → Int32) (J : Nat → Nat → Int64) (R : Nat → Nat) (T : List ez_C) (a : Int64)  : ev_W X 35 0 (ez_lay [.ref 0, .long a]) [] (ev_hp I J R T) 0 0 (fun r h1 c1 k1 => (((I 8 1) < 30) ∧ r = some (.int ((((I 8 1) + (1 : Int32)) - (1 : Int32)))) ∧ h1 = (ev_hp (ev_sI (ev_sI (ev_sI I 8 (upd (I 8) 1 ((I 8 1) + (1 : Int32)))) 13 (upd (upd (I 13) 8 0) 9 0)) 20 (upd (I 20) 3 0)) (ev_sJ J 9 (ev_putJ 30 (J 9) (I 8 1) a)) R T) ∧ c1 = 0 ∧ k1 = 0) ∨ ((¬ ((I 8 1) < 30)) ∧ r = some (.int (-5)) ∧ h1 = (ev_hp I J R T) ∧ c1 = 0 ∧ k1 = 0)) := by
  refine ev_if (eg_noted_r1 X I J R T a _ _) (fun b1 => ?_) (fun b1 => ?_)
  · replace b1 := of_decide_eq_true b1
    refine ev_call (eg_noted_r2 X I J R T a _ _) (ea_S_Paper_add_121_8 X I J R T a) ?_
    rintro r0 _ _ _ (⟨hr0, rfl, rfl, rfl⟩)
    obtain ⟨q28, hq28⟩ : ∃ z : Int32, (((I 8 1) + (1 : Int32)) - (1 : Int32)) = z := ⟨_, rfl⟩
    have eq28 : r0 = some (.int q28) := hr0.trans (by subst hq28; rfl)
    subst eq28
    refine ev_call (eg_noted_r3 X I J R T a q28 _ _) (ea_S_callsChanged_12_0 X (ev_sI I 8 (upd (I 8) 1 ((I 8 1) + (1 : Int32)))) (ev_sJ J 9 (ev_putJ 30 (J 9) (I 8 1) a)) R T) ?_
    rintro r0 _ _ _ (⟨rfl, rfl, rfl, rfl⟩)
    refine ev_ret (eg_noted_r4 X I J R T a q28 _ _) ?_
    subst hq28
    exact Or.inl ⟨b1, rfl, rfl, rfl, rfl⟩
  · replace b1 := of_decide_eq_false b1
    refine ev_ret (eg_noted_r5 X I J R T a _ _) ?_
    exact Or.inr (⟨b1, rfl, rfl, rfl, rfl⟩)
set_option maxRecDepth 100000 in
set_option maxHeartbeats 100000 in
theorem eg_call_r1 (X : ez_X) (I : Nat → Nat → Int32) (J : Nat → Nat → Int64) (R : Nat → Nat) (T : List ez_C) (a : Int32) (cz kz : Nat) : ∀ G : ez_F, fx_up X 3 G 10 0 [.ref 0, .int a] [] (ev_hp I J R T) cz kz = ev_C G 22 [.ref 0, .int a] (ev_hp I J R T) fun r h1 c1 k1 => G 10 5 [.ref 0, .int a] (r.toList ++ []) h1 (cz + c1) (kz + k1) := by
  intro G
  rfl
set_option maxRecDepth 100000 in
set_option maxHeartbeats 100000 in
theorem eg_call_r2 (X : ez_X) (I : Nat → Nat → Int32) (J : Nat → Nat → Int64) (R : Nat → Nat) (T : List ez_C) (a : Int32) (q29 : Int32) (cz kz : Nat) : ∀ G : ez_F, fx_up X 1 G 10 5 [.ref 0, .int a] [.int q29] (ev_hp I J R T) cz kz = bif decide (q29 = 0) then G 10 18 [.ref 0, .int a] [] (ev_hp I J R T) cz kz else G 10 8 [.ref 0, .int a] [] (ev_hp I J R T) cz kz := by
  intro G
  rfl
set_option maxRecDepth 100000 in
set_option maxHeartbeats 100000 in
theorem eg_call_r3 (X : ez_X) (I : Nat → Nat → Int32) (J : Nat → Nat → Int64) (R : Nat → Nat) (T : List ez_C) (a : Int32) (q29 : Int32) (cz kz : Nat) : ∀ G : ez_F, fx_up X 2 G 10 18 [.ref 0, .int a] [] (ev_hp I J R T) cz kz = some (some (.int (-2)), (ev_hp I J R T), cz, kz) := by
  intro G
  rfl
set_option maxRecDepth 100000 in
set_option maxHeartbeats 100000 in
theorem eg_call_r4 (X : ez_X) (I : Nat → Nat → Int32) (J : Nat → Nat → Int64) (R : Nat → Nat) (T : List ez_C) (a : Int32) (q29 : Int32) (cz kz : Nat) : ∀ G : ez_F, fx_up X 5 G 10 8 [.ref 0, .int a] [] (ev_hp I J R T) cz kz = ev_C G 35 [.ref 0, .long ((1 : Int64) <<< ((a : Int32).toInt64 &&& 63))] (ev_hp I J R T) fun r h1 c1 k1 => G 10 15 [.ref 0, .int a] (r.toList ++ []) h1 (cz + c1) (kz + k1) := by
  intro G
  rfl
set_option maxRecDepth 100000 in
set_option maxHeartbeats 100000 in
theorem eg_call_r5 (X : ez_X) (I : Nat → Nat → Int32) (J : Nat → Nat → Int64) (R : Nat → Nat) (T : List ez_C) (a : Int32) (q29 : Int32) (q30 : Int32) (cz kz : Nat) : ∀ G : ez_F, fx_up X 2 G 10 15 [.ref 0, .int a] [.int q30] (ev_hp (ev_sI (ev_sI (ev_sI I 8 (upd (I 8) 1 ((I 8 1) + (1 : Int32)))) 13 (upd (upd (I 13) 8 0) 9 0)) 20 (upd (I 20) 3 0)) (ev_sJ J 9 (ev_putJ 30 (J 9) (I 8 1) ((1 : Int64) <<< ((a : Int32).toInt64 &&& 63)))) R T) cz kz = some (some (.int q30), (ev_hp (ev_sI (ev_sI (ev_sI I 8 (upd (I 8) 1 ((I 8 1) + (1 : Int32)))) 13 (upd (upd (I 13) 8 0) 9 0)) 20 (upd (I 20) 3 0)) (ev_sJ J 9 (ev_putJ 30 (J 9) (I 8 1) ((1 : Int64) <<< ((a : Int32).toInt64 &&& 63)))) R T), cz, kz) := by
  intro G
  rfl
set_option maxRecDepth 100000 in
set_option maxHeartbeats 100000 in
theorem eg_call_r6 (X : ez_X) (I : Nat → Nat → Int32) (J : Nat → Nat → Int64) (R : Nat → Nat) (T : List ez_C) (a : Int32) (q29 : Int32) (cz kz : Nat) : ∀ G : ez_F, fx_up X 2 G 10 15 [.ref 0, .int a] [.int (-5)] (ev_hp I J R T) cz kz = some (some (.int (-5)), (ev_hp I J R T), cz, kz) := by
  intro G
  rfl
theorem eg_call (X : ez_X) (I : Nat → Nat → Int32) (J : Nat → Nat → Int64) (R : Nat → Nat) (T : List ez_C) (a : Int32)  : ev_W X 10 0 (ez_lay [.ref 0, .int a]) [] (ev_hp I J R T) 0 0 (fun r h1 c1 k1 => (((((ev_wi a 0 ((I 1 6) - (1 : Int32))))) = 0) ∧ r = some (.int (-2)) ∧ h1 = (ev_hp I J R T) ∧ c1 = 0 ∧ k1 = 0) ∨ ((¬ ((((ev_wi a 0 ((I 1 6) - (1 : Int32))))) = 0)) ∧ (((I 8 1) < 30)) ∧ r = some (.int (((((I 8 1) + (1 : Int32)) - (1 : Int32))))) ∧ h1 = (ev_hp (ev_sI (ev_sI (ev_sI I 8 (upd (I 8) 1 ((I 8 1) + (1 : Int32)))) 13 (upd (upd (I 13) 8 0) 9 0)) 20 (upd (I 20) 3 0)) (ev_sJ J 9 (ev_putJ 30 (J 9) (I 8 1) ((1 : Int64) <<< ((a : Int32).toInt64 &&& 63)))) R T) ∧ c1 = 0 ∧ k1 = 0) ∨ ((¬ ((((ev_wi a 0 ((I 1 6) - (1 : Int32))))) = 0)) ∧ ((¬ ((I 8 1) < 30))) ∧ r = some (.int (-5)) ∧ h1 = (ev_hp I J R T) ∧ c1 = 0 ∧ k1 = 0)) := by
  refine ev_call (eg_call_r1 X I J R T a _ _) (eg_isCell X I J R T a) ?_
  rintro r0 _ _ _ (⟨hr0, rfl, rfl, rfl⟩)
  obtain ⟨q29, hq29⟩ : ∃ z : Int32, ((ev_wi a 0 ((I 1 6) - (1 : Int32)))) = z := ⟨_, rfl⟩
  have eq29 : r0 = some (.int q29) := hr0.trans (by subst hq29; rfl)
  subst eq29
  refine ev_if (eg_call_r2 X I J R T a q29 _ _) (fun b1 => ?_) (fun b1 => ?_)
  · replace b1 := of_decide_eq_true b1
    refine ev_ret (eg_call_r3 X I J R T a q29 _ _) ?_
    subst hq29
    exact Or.inl ⟨b1, rfl, rfl, rfl, rfl⟩
  · replace b1 := of_decide_eq_false b1
    refine ev_call (eg_call_r4 X I J R T a q29 _ _) (eg_noted X I J R T ((1 : Int64) <<< ((a : Int32).toInt64 &&& 63))) ?_
    rintro r0 _ _ _ (⟨d21, hr0, rfl, rfl, rfl⟩ | ⟨d22, rfl, rfl, rfl, rfl⟩)
    · skip
      obtain ⟨q30, hq30⟩ : ∃ z : Int32, ((((I 8 1) + (1 : Int32)) - (1 : Int32))) = z := ⟨_, rfl⟩
      have eq30 : r0 = some (.int q30) := hr0.trans (by subst hq30; rfl)
      subst eq30
      refine ev_ret (eg_call_r5 X I J R T a q29 q30 _ _) ?_
      subst hq30
      subst hq29
      exact Or.inr (Or.inl ⟨b1, d21, rfl, rfl, rfl, rfl⟩)
    · skip
      refine ev_ret (eg_call_r6 X I J R T a q29 _ _) ?_
      subst hq29
      exact Or.inr (Or.inr (⟨b1, d22, rfl, rfl, rfl, rfl⟩))
set_option maxRecDepth 100000 in
set_option maxHeartbeats 100000 in
theorem eg_salvo_r1 (X : ez_X) (I : Nat → Nat → Int32) (J : Nat → Nat → Int64) (R : Nat → Nat) (T : List ez_C) (a : Int32) (b : Int32) (cz kz : Nat) : ∀ G : ez_F, fx_up X 3 G 41 0 [.ref 0, .int a, .int b] [] (ev_hp I J R T) cz kz = ev_C G 22 [.ref 0, .int a] (ev_hp I J R T) fun r h1 c1 k1 => G 41 5 [.ref 0, .int a, .int b] (r.toList ++ []) h1 (cz + c1) (kz + k1) := by
  intro G
  rfl
set_option maxRecDepth 100000 in
set_option maxHeartbeats 100000 in
theorem eg_salvo_r2 (X : ez_X) (I : Nat → Nat → Int32) (J : Nat → Nat → Int64) (R : Nat → Nat) (T : List ez_C) (a : Int32) (b : Int32) (q31 : Int32) (cz kz : Nat) : ∀ G : ez_F, fx_up X 1 G 41 5 [.ref 0, .int a, .int b] [.int q31] (ev_hp I J R T) cz kz = bif decide (q31 = 0) then G 41 16 [.ref 0, .int a, .int b] [] (ev_hp I J R T) cz kz else G 41 8 [.ref 0, .int a, .int b] [] (ev_hp I J R T) cz kz := by
  intro G
  rfl
set_option maxRecDepth 100000 in
set_option maxHeartbeats 100000 in
theorem eg_salvo_r3 (X : ez_X) (I : Nat → Nat → Int32) (J : Nat → Nat → Int64) (R : Nat → Nat) (T : List ez_C) (a : Int32) (b : Int32) (q31 : Int32) (cz kz : Nat) : ∀ G : ez_F, fx_up X 2 G 41 16 [.ref 0, .int a, .int b] [] (ev_hp I J R T) cz kz = some (some (.int (-2)), (ev_hp I J R T), cz, kz) := by
  intro G
  rfl
set_option maxRecDepth 100000 in
set_option maxHeartbeats 100000 in
theorem eg_salvo_r4 (X : ez_X) (I : Nat → Nat → Int32) (J : Nat → Nat → Int64) (R : Nat → Nat) (T : List ez_C) (a : Int32) (b : Int32) (q31 : Int32) (cz kz : Nat) : ∀ G : ez_F, fx_up X 3 G 41 8 [.ref 0, .int a, .int b] [] (ev_hp I J R T) cz kz = ev_C G 22 [.ref 0, .int b] (ev_hp I J R T) fun r h1 c1 k1 => G 41 13 [.ref 0, .int a, .int b] (r.toList ++ []) h1 (cz + c1) (kz + k1) := by
  intro G
  rfl
set_option maxRecDepth 100000 in
set_option maxHeartbeats 100000 in
theorem eg_salvo_r5 (X : ez_X) (I : Nat → Nat → Int32) (J : Nat → Nat → Int64) (R : Nat → Nat) (T : List ez_C) (a : Int32) (b : Int32) (q31 : Int32) (q32 : Int32) (cz kz : Nat) : ∀ G : ez_F, fx_up X 1 G 41 13 [.ref 0, .int a, .int b] [.int q32] (ev_hp I J R T) cz kz = bif decide (¬ q32 = 0) then G 41 19 [.ref 0, .int a, .int b] [] (ev_hp I J R T) cz kz else G 41 16 [.ref 0, .int a, .int b] [] (ev_hp I J R T) cz kz := by
  intro G
  rfl
set_option maxRecDepth 100000 in
set_option maxHeartbeats 100000 in
theorem eg_salvo_r6 (X : ez_X) (I : Nat → Nat → Int32) (J : Nat → Nat → Int64) (R : Nat → Nat) (T : List ez_C) (a : Int32) (b : Int32) (q31 : Int32) (q32 : Int32) (cz kz : Nat) : ∀ G : ez_F, fx_up X 3 G 41 19 [.ref 0, .int a, .int b] [] (ev_hp I J R T) cz kz = bif decide (¬ a = b) then G 41 29 [.ref 0, .int a, .int b] [] (ev_hp I J R T) cz kz else G 41 24 [.ref 0, .int a, .int b] [] (ev_hp I J R T) cz kz := by
  intro G
  rfl
set_option maxRecDepth 100000 in
set_option maxHeartbeats 100000 in
theorem eg_salvo_r7 (X : ez_X) (I : Nat → Nat → Int32) (J : Nat → Nat → Int64) (R : Nat → Nat) (T : List ez_C) (a : Int32) (b : Int32) (q31 : Int32) (q32 : Int32) (cz kz : Nat) : ∀ G : ez_F, fx_up X 9 G 41 29 [.ref 0, .int a, .int b] [] (ev_hp I J R T) cz kz = ev_C G 35 [.ref 0, .long (((1 : Int64) <<< ((a : Int32).toInt64 &&& 63)) ||| ((1 : Int64) <<< ((b : Int32).toInt64 &&& 63)))] (ev_hp I J R T) fun r h1 c1 k1 => G 41 40 [.ref 0, .int a, .int b] (r.toList ++ []) h1 (cz + c1) (kz + k1) := by
  intro G
  rfl
set_option maxRecDepth 100000 in
set_option maxHeartbeats 100000 in
theorem eg_salvo_r8 (X : ez_X) (I : Nat → Nat → Int32) (J : Nat → Nat → Int64) (R : Nat → Nat) (T : List ez_C) (a : Int32) (b : Int32) (q31 : Int32) (q32 : Int32) (q33 : Int32) (cz kz : Nat) : ∀ G : ez_F, fx_up X 1 G 41 40 [.ref 0, .int a, .int b] [.int q33] (ev_hp (ev_sI (ev_sI (ev_sI I 8 (upd (I 8) 1 ((I 8 1) + (1 : Int32)))) 13 (upd (upd (I 13) 8 0) 9 0)) 20 (upd (I 20) 3 0)) (ev_sJ J 9 (ev_putJ 30 (J 9) (I 8 1) (((1 : Int64) <<< ((a : Int32).toInt64 &&& 63)) ||| ((1 : Int64) <<< ((b : Int32).toInt64 &&& 63))))) R T) cz kz = some (some (.int q33), (ev_hp (ev_sI (ev_sI (ev_sI I 8 (upd (I 8) 1 ((I 8 1) + (1 : Int32)))) 13 (upd (upd (I 13) 8 0) 9 0)) 20 (upd (I 20) 3 0)) (ev_sJ J 9 (ev_putJ 30 (J 9) (I 8 1) (((1 : Int64) <<< ((a : Int32).toInt64 &&& 63)) ||| ((1 : Int64) <<< ((b : Int32).toInt64 &&& 63))))) R T), cz, kz) := by
  intro G
  rfl
set_option maxRecDepth 100000 in
set_option maxHeartbeats 100000 in
theorem eg_salvo_r9 (X : ez_X) (I : Nat → Nat → Int32) (J : Nat → Nat → Int64) (R : Nat → Nat) (T : List ez_C) (a : Int32) (b : Int32) (q31 : Int32) (q32 : Int32) (cz kz : Nat) : ∀ G : ez_F, fx_up X 1 G 41 40 [.ref 0, .int a, .int b] [.int (-5)] (ev_hp I J R T) cz kz = some (some (.int (-5)), (ev_hp I J R T), cz, kz) := by
  intro G
  rfl
set_option maxRecDepth 100000 in
set_option maxHeartbeats 100000 in
theorem eg_salvo_r10 (X : ez_X) (I : Nat → Nat → Int32) (J : Nat → Nat → Int64) (R : Nat → Nat) (T : List ez_C) (a : Int32) (b : Int32) (q31 : Int32) (q32 : Int32) (cz kz : Nat) : ∀ G : ez_F, fx_up X 3 G 41 24 [.ref 0, .int a, .int b] [] (ev_hp I J R T) cz kz = some (some (.int (-3)), (ev_hp I J R T), cz, kz) := by
  intro G
  rfl
set_option maxRecDepth 100000 in
set_option maxHeartbeats 100000 in
theorem eg_salvo_r11 (X : ez_X) (I : Nat → Nat → Int32) (J : Nat → Nat → Int64) (R : Nat → Nat) (T : List ez_C) (a : Int32) (b : Int32) (q31 : Int32) (q32 : Int32) (cz kz : Nat) : ∀ G : ez_F, fx_up X 2 G 41 16 [.ref 0, .int a, .int b] [] (ev_hp I J R T) cz kz = some (some (.int (-2)), (ev_hp I J R T), cz, kz) := by
  intro G
  rfl
theorem eg_salvo (X : ez_X) (I : Nat → Nat → Int32) (J : Nat → Nat → Int64) (R : Nat → Nat) (T : List ez_C) (a : Int32) (b : Int32)  : ev_W X 41 0 (ez_lay [.ref 0, .int a, .int b]) [] (ev_hp I J R T) 0 0 (fun r h1 c1 k1 => (((((ev_wi a 0 ((I 1 6) - (1 : Int32))))) = 0) ∧ r = some (.int (-2)) ∧ h1 = (ev_hp I J R T) ∧ c1 = 0 ∧ k1 = 0) ∨ ((¬ ((((ev_wi a 0 ((I 1 6) - (1 : Int32))))) = 0)) ∧ (¬ (((ev_wi b 0 ((I 1 6) - (1 : Int32))))) = 0) ∧ (¬ a = b) ∧ (((I 8 1) < 30)) ∧ r = some (.int (((((I 8 1) + (1 : Int32)) - (1 : Int32))))) ∧ h1 = (ev_hp (ev_sI (ev_sI (ev_sI I 8 (upd (I 8) 1 ((I 8 1) + (1 : Int32)))) 13 (upd (upd (I 13) 8 0) 9 0)) 20 (upd (I 20) 3 0)) (ev_sJ J 9 (ev_putJ 30 (J 9) (I 8 1) (((1 : Int64) <<< ((a : Int32).toInt64 &&& 63)) ||| ((1 : Int64) <<< ((b : Int32).toInt64 &&& 63))))) R T) ∧ c1 = 0 ∧ k1 = 0) ∨ ((¬ ((((ev_wi a 0 ((I 1 6) - (1 : Int32))))) = 0)) ∧ (¬ (((ev_wi b 0 ((I 1 6) - (1 : Int32))))) = 0) ∧ (¬ a = b) ∧ ((¬ ((I 8 1) < 30))) ∧ r = some (.int (-5)) ∧ h1 = (ev_hp I J R T) ∧ c1 = 0 ∧ k1 = 0) ∨ ((¬ ((((ev_wi a 0 ((I 1 6) - (1 : Int32))))) = 0)) ∧ (¬ (((ev_wi b 0 ((I 1 6) - (1 : Int32))))) = 0) ∧ (¬ (¬ a = b)) ∧ r = some (.int (-3)) ∧ h1 = (ev_hp I J R T) ∧ c1 = 0 ∧ k1 = 0) ∨ ((¬ ((((ev_wi a 0 ((I 1 6) - (1 : Int32))))) = 0)) ∧ (¬ (¬ (((ev_wi b 0 ((I 1 6) - (1 : Int32))))) = 0)) ∧ r = some (.int (-2)) ∧ h1 = (ev_hp I J R T) ∧ c1 = 0 ∧ k1 = 0)) := by
  refine ev_call (eg_salvo_r1 X I J R T a b _ _) (eg_isCell X I J R T a) ?_
  rintro r0 _ _ _ (⟨hr0, rfl, rfl, rfl⟩)
  obtain ⟨q31, hq31⟩ : ∃ z : Int32, ((ev_wi a 0 ((I 1 6) - (1 : Int32)))) = z := ⟨_, rfl⟩
  have eq31 : r0 = some (.int q31) := hr0.trans (by subst hq31; rfl)
  subst eq31
  refine ev_if (eg_salvo_r2 X I J R T a b q31 _ _) (fun b1 => ?_) (fun b1 => ?_)
  · replace b1 := of_decide_eq_true b1
    refine ev_ret (eg_salvo_r3 X I J R T a b q31 _ _) ?_
    subst hq31
    exact Or.inl ⟨b1, rfl, rfl, rfl, rfl⟩
  · replace b1 := of_decide_eq_false b1
    refine ev_call (eg_salvo_r4 X I J R T a b q31 _ _) (eg_isCell X I J R T b) ?_
    rintro r0 _ _ _ (⟨hr0, rfl, rfl, rfl⟩)
    obtain ⟨q32, hq32⟩ : ∃ z : Int32, ((ev_wi b 0 ((I 1 6) - (1 : Int32)))) = z := ⟨_, rfl⟩
    have eq32 : r0 = some (.int q32) := hr0.trans (by subst hq32; rfl)
    subst eq32
    refine ev_if (eg_salvo_r5 X I J R T a b q31 q32 _ _) (fun b2 => ?_) (fun b2 => ?_)
    · replace b2 := of_decide_eq_true b2
      refine ev_if (eg_salvo_r6 X I J R T a b q31 q32 _ _) (fun b3 => ?_) (fun b3 => ?_)
      · replace b3 := of_decide_eq_true b3
        refine ev_call (eg_salvo_r7 X I J R T a b q31 q32 _ _) (eg_noted X I J R T (((1 : Int64) <<< ((a : Int32).toInt64 &&& 63)) ||| ((1 : Int64) <<< ((b : Int32).toInt64 &&& 63)))) ?_
        rintro r0 _ _ _ (⟨d23, hr0, rfl, rfl, rfl⟩ | ⟨d24, rfl, rfl, rfl, rfl⟩)
        · skip
          obtain ⟨q33, hq33⟩ : ∃ z : Int32, ((((I 8 1) + (1 : Int32)) - (1 : Int32))) = z := ⟨_, rfl⟩
          have eq33 : r0 = some (.int q33) := hr0.trans (by subst hq33; rfl)
          subst eq33
          refine ev_ret (eg_salvo_r8 X I J R T a b q31 q32 q33 _ _) ?_
          subst hq33
          subst hq32
          subst hq31
          exact Or.inr (Or.inl ⟨b1, b2, b3, d23, rfl, rfl, rfl, rfl⟩)
        · skip
          refine ev_ret (eg_salvo_r9 X I J R T a b q31 q32 _ _) ?_
          subst hq32
          subst hq31
          exact Or.inr (Or.inr (Or.inl ⟨b1, b2, b3, d24, rfl, rfl, rfl, rfl⟩))
      · replace b3 := of_decide_eq_false b3
        refine ev_ret (eg_salvo_r10 X I J R T a b q31 q32 _ _) ?_
        subst hq32
        subst hq31
        exact Or.inr (Or.inr (Or.inr (Or.inl ⟨b1, b2, b3, rfl, rfl, rfl, rfl⟩)))
    · replace b2 := of_decide_eq_false b2
      refine ev_ret (eg_salvo_r11 X I J R T a b q31 q32 _ _) ?_
      subst hq32
      subst hq31
      exact Or.inr (Or.inr (Or.inr (Or.inr (⟨b1, b2, rfl, rfl, rfl, rfl⟩))))
set_option maxRecDepth 100000 in
set_option maxHeartbeats 100000 in
theorem eg_toldAt_r1 (X : ez_X) (I : Nat → Nat → Int32) (J : Nat → Nat → Int64) (R : Nat → Nat) (T : List ez_C) (a : Int32) (cz kz : Nat) : ∀ G : ez_F, fx_up X 11 G 126 0 [.ref 8, .int a] [] (ev_hp I J R T) cz kz = bif decide (¬ (lg_cmp ((((J 8 3).toUInt64 >>> ((((2 : Int32) * a) : Int32).toInt64.toUInt64 &&& 63)).toInt64) &&& (1 : Int64)) 0) = 0) then G 126 17 [.ref 8, .int a] [] (ev_hp I J R T) cz kz else G 126 15 [.ref 8, .int a] [] (ev_hp I J R T) cz kz := by
  intro G
  rfl
set_option maxRecDepth 100000 in
set_option maxHeartbeats 100000 in
theorem eg_toldAt_r2 (X : ez_X) (I : Nat → Nat → Int32) (J : Nat → Nat → Int64) (R : Nat → Nat) (T : List ez_C) (a : Int32) (cz kz : Nat) : ∀ G : ez_F, fx_up X 10 G 126 17 [.ref 8, .int a] [] (ev_hp I J R T) cz kz = some (some (.int (((((J 8 2).toUInt64 >>> ((((2 : Int32) * a) : Int32).toInt64.toUInt64 &&& 63)).toInt64) &&& (3 : Int64)).toInt32)), (ev_hp I J R T), cz, kz) := by
  intro G
  rfl
set_option maxRecDepth 100000 in
set_option maxHeartbeats 100000 in
theorem eg_toldAt_r3 (X : ez_X) (I : Nat → Nat → Int32) (J : Nat → Nat → Int64) (R : Nat → Nat) (T : List ez_C) (a : Int32) (cz kz : Nat) : ∀ G : ez_F, fx_up X 2 G 126 15 [.ref 8, .int a] [] (ev_hp I J R T) cz kz = some (some (.int (-1)), (ev_hp I J R T), cz, kz) := by
  intro G
  rfl
theorem eg_toldAt (X : ez_X) (I : Nat → Nat → Int32) (J : Nat → Nat → Int64) (R : Nat → Nat) (T : List ez_C) (a : Int32)  : ev_W X 126 0 (ez_lay [.ref 8, .int a]) [] (ev_hp I J R T) 0 0 (fun r h1 c1 k1 => ((¬ (lg_cmp ((((J 8 3).toUInt64 >>> ((((2 : Int32) * a) : Int32).toInt64.toUInt64 &&& 63)).toInt64) &&& (1 : Int64)) 0) = 0) ∧ r = some (.int (((((J 8 2).toUInt64 >>> ((((2 : Int32) * a) : Int32).toInt64.toUInt64 &&& 63)).toInt64) &&& (3 : Int64)).toInt32)) ∧ h1 = (ev_hp I J R T) ∧ c1 = 0 ∧ k1 = 0) ∨ ((¬ (¬ (lg_cmp ((((J 8 3).toUInt64 >>> ((((2 : Int32) * a) : Int32).toInt64.toUInt64 &&& 63)).toInt64) &&& (1 : Int64)) 0) = 0)) ∧ r = some (.int (-1)) ∧ h1 = (ev_hp I J R T) ∧ c1 = 0 ∧ k1 = 0)) := by
  refine ev_if (eg_toldAt_r1 X I J R T a _ _) (fun b1 => ?_) (fun b1 => ?_)
  · replace b1 := of_decide_eq_true b1
    refine ev_ret (eg_toldAt_r2 X I J R T a _ _) ?_
    exact Or.inl ⟨b1, rfl, rfl, rfl, rfl⟩
  · replace b1 := of_decide_eq_false b1
    refine ev_ret (eg_toldAt_r3 X I J R T a _ _) ?_
    exact Or.inr (⟨b1, rfl, rfl, rfl, rfl⟩)
set_option maxRecDepth 100000 in
set_option maxHeartbeats 100000 in
theorem eg_answer_r1 (X : ez_X) (I : Nat → Nat → Int32) (J : Nat → Nat → Int64) (R : Nat → Nat) (T : List ez_C) (a : Int32) (b : Int32) (cz kz : Nat) : ∀ G : ez_F, fx_up X 3 G 1 0 [.ref 0, .int a, .int b] [] (ev_hp I J R T) cz kz = ev_C G 21 [.ref 0, .int a] (ev_hp I J R T) fun r h1 c1 k1 => G 1 5 [.ref 0, .int a, .int b] (r.toList ++ []) h1 (cz + c1) (kz + k1) := by
  intro G
  rfl
set_option maxRecDepth 100000 in
set_option maxHeartbeats 100000 in
theorem eg_answer_r2 (X : ez_X) (I : Nat → Nat → Int32) (J : Nat → Nat → Int64) (R : Nat → Nat) (T : List ez_C) (a : Int32) (b : Int32) (q34 : Int32) (cz kz : Nat) : ∀ G : ez_F, fx_up X 1 G 1 5 [.ref 0, .int a, .int b] [.int q34] (ev_hp I J R T) cz kz = bif decide (¬ q34 = 0) then G 1 11 [.ref 0, .int a, .int b] [] (ev_hp I J R T) cz kz else G 1 8 [.ref 0, .int a, .int b] [] (ev_hp I J R T) cz kz := by
  intro G
  rfl
set_option maxRecDepth 100000 in
set_option maxHeartbeats 100000 in
theorem eg_answer_r3 (X : ez_X) (I : Nat → Nat → Int32) (J : Nat → Nat → Int64) (R : Nat → Nat) (T : List ez_C) (a : Int32) (b : Int32) (q34 : Int32) (cz kz : Nat) : ∀ G : ez_F, fx_up X 4 G 1 11 [.ref 0, .int a, .int b] [] (ev_hp I J R T) cz kz = ev_C G 55 [.int b, .int 0, .int 2] (ev_hp I J R T) fun r h1 c1 k1 => G 1 17 [.ref 0, .int a, .int b] (r.toList ++ []) h1 (cz + c1) (kz + k1) := by
  intro G
  rfl
set_option maxRecDepth 100000 in
set_option maxHeartbeats 100000 in
theorem eg_answer_r4 (X : ez_X) (I : Nat → Nat → Int32) (J : Nat → Nat → Int64) (R : Nat → Nat) (T : List ez_C) (a : Int32) (b : Int32) (q34 : Int32) (q35 : Int32) (cz kz : Nat) : ∀ G : ez_F, fx_up X 1 G 1 17 [.ref 0, .int a, .int b] [.int q35] (ev_hp I J R T) cz kz = bif decide (¬ q35 = 0) then G 1 23 [.ref 0, .int a, .int b] [] (ev_hp I J R T) cz kz else G 1 20 [.ref 0, .int a, .int b] [] (ev_hp I J R T) cz kz := by
  intro G
  rfl
set_option maxRecDepth 100000 in
set_option maxHeartbeats 100000 in
theorem eg_answer_r5 (X : ez_X) (I : Nat → Nat → Int32) (J : Nat → Nat → Int64) (R : Nat → Nat) (T : List ez_C) (a : Int32) (b : Int32) (q34 : Int32) (q35 : Int32) (cz kz : Nat) : ∀ G : ez_F, fx_up X 4 G 1 23 [.ref 0, .int a, .int b] [] (ev_hp I J R T) cz kz = ev_C G 126 [.ref 8, .int a] (ev_hp I J R T) fun r h1 c1 k1 => G 1 31 [.ref 0, .int a, .int b] (r.toList ++ []) h1 (cz + c1) (kz + k1) := by
  intro G
  rfl
set_option maxRecDepth 100000 in
set_option maxHeartbeats 100000 in
theorem eg_answer_r6 (X : ez_X) (I : Nat → Nat → Int32) (J : Nat → Nat → Int64) (R : Nat → Nat) (T : List ez_C) (a : Int32) (b : Int32) (q34 : Int32) (q35 : Int32) (q36 : Int32) (cz kz : Nat) : ∀ G : ez_F, fx_up X 6 G 1 31 [.ref 0, .int a, .int b] [.int q36] (ev_hp I J R T) cz kz = ev_C G 125 [.ref 8, .int a, .int b] (ev_hp I J R T) fun r h1 c1 k1 => G 1 41 [.ref 0, .int a, .int b, .int q36] (r.toList ++ []) h1 (cz + c1) (kz + k1) := by
  intro G
  rfl
set_option maxRecDepth 100000 in
set_option maxHeartbeats 100000 in
theorem eg_answer_r7 (X : ez_X) (I : Nat → Nat → Int32) (J : Nat → Nat → Int64) (R : Nat → Nat) (T : List ez_C) (a : Int32) (b : Int32) (q34 : Int32) (q35 : Int32) (q36 : Int32) (cz kz : Nat) : ∀ G : ez_F, fx_up X 2 G 1 41 [.ref 0, .int a, .int b, .int q36] [] (ev_hp I (ev_sJ J 8 (vp_updL (vp_updL (J 8) 2 (((J 8 2) &&& (((3 : Int64) <<< ((((2 : Int32) * a) : Int32).toInt64 &&& 63)) ^^^ ((-1) : Int64))) ||| ((b.toInt64) <<< ((((2 : Int32) * a) : Int32).toInt64 &&& 63)))) 3 (((J 8 3) &&& (((1 : Int64) <<< ((((2 : Int32) * a) : Int32).toInt64 &&& 63)) ^^^ ((-1) : Int64))) ||| ((1 : Int64) <<< ((((2 : Int32) * a) : Int32).toInt64 &&& 63))))) R T) cz kz = ev_C G 2 [.ref 0] (ev_hp I (ev_sJ J 8 (vp_updL (vp_updL (J 8) 2 (((J 8 2) &&& (((3 : Int64) <<< ((((2 : Int32) * a) : Int32).toInt64 &&& 63)) ^^^ ((-1) : Int64))) ||| ((b.toInt64) <<< ((((2 : Int32) * a) : Int32).toInt64 &&& 63)))) 3 (((J 8 3) &&& (((1 : Int64) <<< ((((2 : Int32) * a) : Int32).toInt64 &&& 63)) ^^^ ((-1) : Int64))) ||| ((1 : Int64) <<< ((((2 : Int32) * a) : Int32).toInt64 &&& 63))))) R T) fun r h1 c1 k1 => G 1 45 [.ref 0, .int a, .int b, .int q36] (r.toList ++ []) h1 (cz + c1) (kz + k1) := by
  intro G
  rfl
set_option maxRecDepth 100000 in
set_option maxHeartbeats 100000 in
theorem eg_answer_r8 (X : ez_X) (I : Nat → Nat → Int32) (J : Nat → Nat → Int64) (R : Nat → Nat) (T : List ez_C) (a : Int32) (b : Int32) (q34 : Int32) (q35 : Int32) (q36 : Int32) (cz kz : Nat) : ∀ G : ez_F, fx_up X 2 G 1 45 [.ref 0, .int a, .int b, .int q36] [] (ev_hp (ev_sI (ev_sI I 13 (upd (I 13) 9 0)) 20 (upd (I 20) 3 0)) (ev_sJ J 8 (vp_updL (vp_updL (J 8) 2 (((J 8 2) &&& (((3 : Int64) <<< ((((2 : Int32) * a) : Int32).toInt64 &&& 63)) ^^^ ((-1) : Int64))) ||| ((b.toInt64) <<< ((((2 : Int32) * a) : Int32).toInt64 &&& 63)))) 3 (((J 8 3) &&& (((1 : Int64) <<< ((((2 : Int32) * a) : Int32).toInt64 &&& 63)) ^^^ ((-1) : Int64))) ||| ((1 : Int64) <<< ((((2 : Int32) * a) : Int32).toInt64 &&& 63))))) R T) cz kz = some (some (.int q36), (ev_hp (ev_sI (ev_sI I 13 (upd (I 13) 9 0)) 20 (upd (I 20) 3 0)) (ev_sJ J 8 (vp_updL (vp_updL (J 8) 2 (((J 8 2) &&& (((3 : Int64) <<< ((((2 : Int32) * a) : Int32).toInt64 &&& 63)) ^^^ ((-1) : Int64))) ||| ((b.toInt64) <<< ((((2 : Int32) * a) : Int32).toInt64 &&& 63)))) 3 (((J 8 3) &&& (((1 : Int64) <<< ((((2 : Int32) * a) : Int32).toInt64 &&& 63)) ^^^ ((-1) : Int64))) ||| ((1 : Int64) <<< ((((2 : Int32) * a) : Int32).toInt64 &&& 63))))) R T), cz, kz) := by
  intro G
  rfl
set_option maxRecDepth 100000 in
set_option maxHeartbeats 100000 in
theorem eg_answer_r9 (X : ez_X) (I : Nat → Nat → Int32) (J : Nat → Nat → Int64) (R : Nat → Nat) (T : List ez_C) (a : Int32) (b : Int32) (q34 : Int32) (q35 : Int32) (cz kz : Nat) : ∀ G : ez_F, fx_up X 6 G 1 31 [.ref 0, .int a, .int b] [.int (-1)] (ev_hp I J R T) cz kz = ev_C G 125 [.ref 8, .int a, .int b] (ev_hp I J R T) fun r h1 c1 k1 => G 1 41 [.ref 0, .int a, .int b, .int (-1)] (r.toList ++ []) h1 (cz + c1) (kz + k1) := by
  intro G
  rfl
set_option maxRecDepth 100000 in
set_option maxHeartbeats 100000 in
theorem eg_answer_r10 (X : ez_X) (I : Nat → Nat → Int32) (J : Nat → Nat → Int64) (R : Nat → Nat) (T : List ez_C) (a : Int32) (b : Int32) (q34 : Int32) (q35 : Int32) (cz kz : Nat) : ∀ G : ez_F, fx_up X 2 G 1 41 [.ref 0, .int a, .int b, .int (-1)] [] (ev_hp I (ev_sJ J 8 (vp_updL (vp_updL (J 8) 2 (((J 8 2) &&& (((3 : Int64) <<< ((((2 : Int32) * a) : Int32).toInt64 &&& 63)) ^^^ ((-1) : Int64))) ||| ((b.toInt64) <<< ((((2 : Int32) * a) : Int32).toInt64 &&& 63)))) 3 (((J 8 3) &&& (((1 : Int64) <<< ((((2 : Int32) * a) : Int32).toInt64 &&& 63)) ^^^ ((-1) : Int64))) ||| ((1 : Int64) <<< ((((2 : Int32) * a) : Int32).toInt64 &&& 63))))) R T) cz kz = ev_C G 2 [.ref 0] (ev_hp I (ev_sJ J 8 (vp_updL (vp_updL (J 8) 2 (((J 8 2) &&& (((3 : Int64) <<< ((((2 : Int32) * a) : Int32).toInt64 &&& 63)) ^^^ ((-1) : Int64))) ||| ((b.toInt64) <<< ((((2 : Int32) * a) : Int32).toInt64 &&& 63)))) 3 (((J 8 3) &&& (((1 : Int64) <<< ((((2 : Int32) * a) : Int32).toInt64 &&& 63)) ^^^ ((-1) : Int64))) ||| ((1 : Int64) <<< ((((2 : Int32) * a) : Int32).toInt64 &&& 63))))) R T) fun r h1 c1 k1 => G 1 45 [.ref 0, .int a, .int b, .int (-1)] (r.toList ++ []) h1 (cz + c1) (kz + k1) := by
  intro G
  rfl
set_option maxRecDepth 100000 in
set_option maxHeartbeats 100000 in
theorem eg_answer_r11 (X : ez_X) (I : Nat → Nat → Int32) (J : Nat → Nat → Int64) (R : Nat → Nat) (T : List ez_C) (a : Int32) (b : Int32) (q34 : Int32) (q35 : Int32) (cz kz : Nat) : ∀ G : ez_F, fx_up X 2 G 1 45 [.ref 0, .int a, .int b, .int (-1)] [] (ev_hp (ev_sI (ev_sI I 13 (upd (I 13) 9 0)) 20 (upd (I 20) 3 0)) (ev_sJ J 8 (vp_updL (vp_updL (J 8) 2 (((J 8 2) &&& (((3 : Int64) <<< ((((2 : Int32) * a) : Int32).toInt64 &&& 63)) ^^^ ((-1) : Int64))) ||| ((b.toInt64) <<< ((((2 : Int32) * a) : Int32).toInt64 &&& 63)))) 3 (((J 8 3) &&& (((1 : Int64) <<< ((((2 : Int32) * a) : Int32).toInt64 &&& 63)) ^^^ ((-1) : Int64))) ||| ((1 : Int64) <<< ((((2 : Int32) * a) : Int32).toInt64 &&& 63))))) R T) cz kz = some (some (.int (-1)), (ev_hp (ev_sI (ev_sI I 13 (upd (I 13) 9 0)) 20 (upd (I 20) 3 0)) (ev_sJ J 8 (vp_updL (vp_updL (J 8) 2 (((J 8 2) &&& (((3 : Int64) <<< ((((2 : Int32) * a) : Int32).toInt64 &&& 63)) ^^^ ((-1) : Int64))) ||| ((b.toInt64) <<< ((((2 : Int32) * a) : Int32).toInt64 &&& 63)))) 3 (((J 8 3) &&& (((1 : Int64) <<< ((((2 : Int32) * a) : Int32).toInt64 &&& 63)) ^^^ ((-1) : Int64))) ||| ((1 : Int64) <<< ((((2 : Int32) * a) : Int32).toInt64 &&& 63))))) R T), cz, kz) := by
  intro G
  rfl
set_option maxRecDepth 100000 in
set_option maxHeartbeats 100000 in
theorem eg_answer_r12 (X : ez_X) (I : Nat → Nat → Int32) (J : Nat → Nat → Int64) (R : Nat → Nat) (T : List ez_C) (a : Int32) (b : Int32) (q34 : Int32) (q35 : Int32) (cz kz : Nat) : ∀ G : ez_F, fx_up X 2 G 1 20 [.ref 0, .int a, .int b] [] (ev_hp I J R T) cz kz = some (some (.int (-3)), (ev_hp I J R T), cz, kz) := by
  intro G
  rfl
set_option maxRecDepth 100000 in
set_option maxHeartbeats 100000 in
theorem eg_answer_r13 (X : ez_X) (I : Nat → Nat → Int32) (J : Nat → Nat → Int64) (R : Nat → Nat) (T : List ez_C) (a : Int32) (b : Int32) (q34 : Int32) (cz kz : Nat) : ∀ G : ez_F, fx_up X 2 G 1 8 [.ref 0, .int a, .int b] [] (ev_hp I J R T) cz kz = some (some (.int (-2)), (ev_hp I J R T), cz, kz) := by
  intro G
  rfl
theorem eg_answer (X : ez_X) (I : Nat → Nat → Int32) (J : Nat → Nat → Int64) (R : Nat → Nat) (T : List ez_C) (a : Int32) (b : Int32)  : ev_W X 1 0 (ez_lay [.ref 0, .int a, .int b]) [] (ev_hp I J R T) 0 0 (fun r h1 c1 k1 => ((¬ (((ev_wi a 0 ((I 8 1) - (1 : Int32))))) = 0) ∧ (¬ ((ev_wi b 0 2)) = 0) ∧ ((¬ (lg_cmp ((((J 8 3).toUInt64 >>> ((((2 : Int32) * a) : Int32).toInt64.toUInt64 &&& 63)).toInt64) &&& (1 : Int64)) 0) = 0)) ∧ r = some (.int ((((((J 8 2).toUInt64 >>> ((((2 : Int32) * a) : Int32).toInt64.toUInt64 &&& 63)).toInt64) &&& (3 : Int64)).toInt32))) ∧ h1 = (ev_hp (ev_sI (ev_sI I 13 (upd (I 13) 9 0)) 20 (upd (I 20) 3 0)) (ev_sJ J 8 (vp_updL (vp_updL (J 8) 2 (((J 8 2) &&& (((3 : Int64) <<< ((((2 : Int32) * a) : Int32).toInt64 &&& 63)) ^^^ ((-1) : Int64))) ||| ((b.toInt64) <<< ((((2 : Int32) * a) : Int32).toInt64 &&& 63)))) 3 (((J 8 3) &&& (((1 : Int64) <<< ((((2 : Int32) * a) : Int32).toInt64 &&& 63)) ^^^ ((-1) : Int64))) ||| ((1 : Int64) <<< ((((2 : Int32) * a) : Int32).toInt64 &&& 63))))) R T) ∧ c1 = 0 ∧ k1 = 0) ∨ ((¬ (((ev_wi a 0 ((I 8 1) - (1 : Int32))))) = 0) ∧ (¬ ((ev_wi b 0 2)) = 0) ∧ ((¬ (¬ (lg_cmp ((((J 8 3).toUInt64 >>> ((((2 : Int32) * a) : Int32).toInt64.toUInt64 &&& 63)).toInt64) &&& (1 : Int64)) 0) = 0))) ∧ r = some (.int (-1)) ∧ h1 = (ev_hp (ev_sI (ev_sI I 13 (upd (I 13) 9 0)) 20 (upd (I 20) 3 0)) (ev_sJ J 8 (vp_updL (vp_updL (J 8) 2 (((J 8 2) &&& (((3 : Int64) <<< ((((2 : Int32) * a) : Int32).toInt64 &&& 63)) ^^^ ((-1) : Int64))) ||| ((b.toInt64) <<< ((((2 : Int32) * a) : Int32).toInt64 &&& 63)))) 3 (((J 8 3) &&& (((1 : Int64) <<< ((((2 : Int32) * a) : Int32).toInt64 &&& 63)) ^^^ ((-1) : Int64))) ||| ((1 : Int64) <<< ((((2 : Int32) * a) : Int32).toInt64 &&& 63))))) R T) ∧ c1 = 0 ∧ k1 = 0) ∨ ((¬ (((ev_wi a 0 ((I 8 1) - (1 : Int32))))) = 0) ∧ (¬ (¬ ((ev_wi b 0 2)) = 0)) ∧ r = some (.int (-3)) ∧ h1 = (ev_hp I J R T) ∧ c1 = 0 ∧ k1 = 0) ∨ ((¬ (¬ (((ev_wi a 0 ((I 8 1) - (1 : Int32))))) = 0)) ∧ r = some (.int (-2)) ∧ h1 = (ev_hp I J R T) ∧ c1 = 0 ∧ k1 = 0)) := by
  refine ev_call (eg_answer_r1 X I J R T a b _ _) (eg_isCall X I J R T a) ?_
  rintro r0 _ _ _ (⟨hr0, rfl, rfl, rfl⟩)
  obtain ⟨q34, hq34⟩ : ∃ z : Int32, ((ev_wi a 0 ((I 8 1) - (1 : Int32)))) = z := ⟨_, rfl⟩
  have eq34 : r0 = some (.int q34) := hr0.trans (by subst hq34; rfl)
  subst eq34
  refine ev_if (eg_answer_r2 X I J R T a b q34 _ _) (fun b1 => ?_) (fun b1 => ?_)
  · replace b1 := of_decide_eq_true b1
    refine ev_call (eg_answer_r3 X I J R T a b q34 _ _) (ec_within X (ev_hp I J R T) b 0 2) ?_
    rintro _ _ _ _ ⟨rfl, rfl, rfl, rfl⟩
    generalize hq35 : (ev_wi b 0 2) = q35
    refine ev_if (eg_answer_r4 X I J R T a b q34 q35 _ _) (fun b2 => ?_) (fun b2 => ?_)
    · replace b2 := of_decide_eq_true b2
      refine ev_call (eg_answer_r5 X I J R T a b q34 q35 _ _) (eg_toldAt X I J R T a) ?_
      rintro r0 _ _ _ (⟨d25, hr0, rfl, rfl, rfl⟩ | ⟨d26, rfl, rfl, rfl, rfl⟩)
      · skip
        obtain ⟨q36, hq36⟩ : ∃ z : Int32, (((((J 8 2).toUInt64 >>> ((((2 : Int32) * a) : Int32).toInt64.toUInt64 &&& 63)).toInt64) &&& (3 : Int64)).toInt32) = z := ⟨_, rfl⟩
        have eq36 : r0 = some (.int q36) := hr0.trans (by subst hq36; rfl)
        subst eq36
        refine ev_call (eg_answer_r6 X I J R T a b q34 q35 q36 _ _) (ea_S_Paper_tell_125_8 X I J R T a b) ?_
        rintro r0 _ _ _ (⟨rfl, rfl, rfl, rfl⟩)
        refine ev_call (eg_answer_r7 X I J R T a b q34 q35 q36 _ _) (ea_S_answersChanged_2_0 X I (ev_sJ J 8 (vp_updL (vp_updL (J 8) 2 (((J 8 2) &&& (((3 : Int64) <<< ((((2 : Int32) * a) : Int32).toInt64 &&& 63)) ^^^ ((-1) : Int64))) ||| ((b.toInt64) <<< ((((2 : Int32) * a) : Int32).toInt64 &&& 63)))) 3 (((J 8 3) &&& (((1 : Int64) <<< ((((2 : Int32) * a) : Int32).toInt64 &&& 63)) ^^^ ((-1) : Int64))) ||| ((1 : Int64) <<< ((((2 : Int32) * a) : Int32).toInt64 &&& 63))))) R T) ?_
        rintro r0 _ _ _ (⟨rfl, rfl, rfl, rfl⟩)
        refine ev_ret (eg_answer_r8 X I J R T a b q34 q35 q36 _ _) ?_
        subst hq36
        subst hq35
        subst hq34
        exact Or.inl ⟨b1, b2, d25, rfl, rfl, rfl, rfl⟩
      · skip
        refine ev_call (eg_answer_r9 X I J R T a b q34 q35 _ _) (ea_S_Paper_tell_125_8 X I J R T a b) ?_
        rintro r0 _ _ _ (⟨rfl, rfl, rfl, rfl⟩)
        refine ev_call (eg_answer_r10 X I J R T a b q34 q35 _ _) (ea_S_answersChanged_2_0 X I (ev_sJ J 8 (vp_updL (vp_updL (J 8) 2 (((J 8 2) &&& (((3 : Int64) <<< ((((2 : Int32) * a) : Int32).toInt64 &&& 63)) ^^^ ((-1) : Int64))) ||| ((b.toInt64) <<< ((((2 : Int32) * a) : Int32).toInt64 &&& 63)))) 3 (((J 8 3) &&& (((1 : Int64) <<< ((((2 : Int32) * a) : Int32).toInt64 &&& 63)) ^^^ ((-1) : Int64))) ||| ((1 : Int64) <<< ((((2 : Int32) * a) : Int32).toInt64 &&& 63))))) R T) ?_
        rintro r0 _ _ _ (⟨rfl, rfl, rfl, rfl⟩)
        refine ev_ret (eg_answer_r11 X I J R T a b q34 q35 _ _) ?_
        subst hq35
        subst hq34
        exact Or.inr (Or.inl ⟨b1, b2, d26, rfl, rfl, rfl, rfl⟩)
    · replace b2 := of_decide_eq_false b2
      refine ev_ret (eg_answer_r12 X I J R T a b q34 q35 _ _) ?_
      subst hq35
      subst hq34
      exact Or.inr (Or.inr (Or.inl ⟨b1, b2, rfl, rfl, rfl, rfl⟩))
  · replace b1 := of_decide_eq_false b1
    refine ev_ret (eg_answer_r13 X I J R T a b q34 _ _) ?_
    subst hq34
    exact Or.inr (Or.inr (Or.inr (⟨b1, rfl, rfl, rfl, rfl⟩)))
set_option maxRecDepth 100000 in
set_option maxHeartbeats 100000 in
theorem eg_lose_r1 (X : ez_X) (I : Nat → Nat → Int32) (J : Nat → Nat → Int64) (R : Nat → Nat) (T : List ez_C) (a : Int32) (cz kz : Nat) : ∀ G : ez_F, fx_up X 3 G 32 0 [.ref 0, .int a] [] (ev_hp I J R T) cz kz = ev_C G 21 [.ref 0, .int a] (ev_hp I J R T) fun r h1 c1 k1 => G 32 5 [.ref 0, .int a] (r.toList ++ []) h1 (cz + c1) (kz + k1) := by
  intro G
  rfl
set_option maxRecDepth 100000 in
set_option maxHeartbeats 100000 in
theorem eg_lose_r2 (X : ez_X) (I : Nat → Nat → Int32) (J : Nat → Nat → Int64) (R : Nat → Nat) (T : List ez_C) (a : Int32) (q37 : Int32) (cz kz : Nat) : ∀ G : ez_F, fx_up X 1 G 32 5 [.ref 0, .int a] [.int q37] (ev_hp I J R T) cz kz = bif decide (¬ q37 = 0) then G 32 11 [.ref 0, .int a] [] (ev_hp I J R T) cz kz else G 32 8 [.ref 0, .int a] [] (ev_hp I J R T) cz kz := by
  intro G
  rfl
set_option maxRecDepth 100000 in
set_option maxHeartbeats 100000 in
theorem eg_lose_r3 (X : ez_X) (I : Nat → Nat → Int32) (J : Nat → Nat → Int64) (R : Nat → Nat) (T : List ez_C) (a : Int32) (q37 : Int32) (cz kz : Nat) : ∀ G : ez_F, fx_up X 4 G 32 11 [.ref 0, .int a] [] (ev_hp I J R T) cz kz = ev_C G 126 [.ref 8, .int a] (ev_hp I J R T) fun r h1 c1 k1 => G 32 19 [.ref 0, .int a] (r.toList ++ []) h1 (cz + c1) (kz + k1) := by
  intro G
  rfl
set_option maxRecDepth 100000 in
set_option maxHeartbeats 100000 in
theorem eg_lose_r4 (X : ez_X) (I : Nat → Nat → Int32) (J : Nat → Nat → Int64) (R : Nat → Nat) (T : List ez_C) (a : Int32) (q37 : Int32) (q38 : Int32) (cz kz : Nat) : ∀ G : ez_F, fx_up X 2 G 32 19 [.ref 0, .int a] [.int q38] (ev_hp I J R T) cz kz = bif decide (¬ q38 = (-1)) then G 32 26 [.ref 0, .int a] [] (ev_hp I J R T) cz kz else G 32 23 [.ref 0, .int a] [] (ev_hp I J R T) cz kz := by
  intro G
  rfl
set_option maxRecDepth 100000 in
set_option maxHeartbeats 100000 in
theorem eg_lose_r5 (X : ez_X) (I : Nat → Nat → Int32) (J : Nat → Nat → Int64) (R : Nat → Nat) (T : List ez_C) (a : Int32) (q37 : Int32) (q38 : Int32) (cz kz : Nat) : ∀ G : ez_F, fx_up X 4 G 32 26 [.ref 0, .int a] [] (ev_hp I J R T) cz kz = ev_C G 127 [.ref 8, .int a] (ev_hp I J R T) fun r h1 c1 k1 => G 32 34 [.ref 0, .int a] (r.toList ++ []) h1 (cz + c1) (kz + k1) := by
  intro G
  rfl
set_option maxRecDepth 100000 in
set_option maxHeartbeats 100000 in
theorem eg_lose_r6 (X : ez_X) (I : Nat → Nat → Int32) (J : Nat → Nat → Int64) (R : Nat → Nat) (T : List ez_C) (a : Int32) (q37 : Int32) (q38 : Int32) (cz kz : Nat) : ∀ G : ez_F, fx_up X 2 G 32 34 [.ref 0, .int a] [] (ev_hp I (ev_sJ J 8 (vp_updL (vp_updL (J 8) 2 ((J 8 2) &&& (((3 : Int64) <<< ((((2 : Int32) * a) : Int32).toInt64 &&& 63)) ^^^ ((-1) : Int64)))) 3 ((J 8 3) &&& (((1 : Int64) <<< ((((2 : Int32) * a) : Int32).toInt64 &&& 63)) ^^^ ((-1) : Int64))))) R T) cz kz = ev_C G 2 [.ref 0] (ev_hp I (ev_sJ J 8 (vp_updL (vp_updL (J 8) 2 ((J 8 2) &&& (((3 : Int64) <<< ((((2 : Int32) * a) : Int32).toInt64 &&& 63)) ^^^ ((-1) : Int64)))) 3 ((J 8 3) &&& (((1 : Int64) <<< ((((2 : Int32) * a) : Int32).toInt64 &&& 63)) ^^^ ((-1) : Int64))))) R T) fun r h1 c1 k1 => G 32 38 [.ref 0, .int a] (r.toList ++ []) h1 (cz + c1) (kz + k1) := by
  intro G
  rfl
set_option maxRecDepth 100000 in
set_option maxHeartbeats 100000 in
theorem eg_lose_r7 (X : ez_X) (I : Nat → Nat → Int32) (J : Nat → Nat → Int64) (R : Nat → Nat) (T : List ez_C) (a : Int32) (q37 : Int32) (q38 : Int32) (cz kz : Nat) : ∀ G : ez_F, fx_up X 2 G 32 38 [.ref 0, .int a] [] (ev_hp (ev_sI (ev_sI I 13 (upd (I 13) 9 0)) 20 (upd (I 20) 3 0)) (ev_sJ J 8 (vp_updL (vp_updL (J 8) 2 ((J 8 2) &&& (((3 : Int64) <<< ((((2 : Int32) * a) : Int32).toInt64 &&& 63)) ^^^ ((-1) : Int64)))) 3 ((J 8 3) &&& (((1 : Int64) <<< ((((2 : Int32) * a) : Int32).toInt64 &&& 63)) ^^^ ((-1) : Int64))))) R T) cz kz = some (some (.int 1), (ev_hp (ev_sI (ev_sI I 13 (upd (I 13) 9 0)) 20 (upd (I 20) 3 0)) (ev_sJ J 8 (vp_updL (vp_updL (J 8) 2 ((J 8 2) &&& (((3 : Int64) <<< ((((2 : Int32) * a) : Int32).toInt64 &&& 63)) ^^^ ((-1) : Int64)))) 3 ((J 8 3) &&& (((1 : Int64) <<< ((((2 : Int32) * a) : Int32).toInt64 &&& 63)) ^^^ ((-1) : Int64))))) R T), cz, kz) := by
  intro G
  rfl
set_option maxRecDepth 100000 in
set_option maxHeartbeats 100000 in
theorem eg_lose_r8 (X : ez_X) (I : Nat → Nat → Int32) (J : Nat → Nat → Int64) (R : Nat → Nat) (T : List ez_C) (a : Int32) (q37 : Int32) (q38 : Int32) (cz kz : Nat) : ∀ G : ez_F, fx_up X 2 G 32 23 [.ref 0, .int a] [] (ev_hp I J R T) cz kz = some (some (.int (-4)), (ev_hp I J R T), cz, kz) := by
  intro G
  rfl
set_option maxRecDepth 100000 in
set_option maxHeartbeats 100000 in
theorem eg_lose_r9 (X : ez_X) (I : Nat → Nat → Int32) (J : Nat → Nat → Int64) (R : Nat → Nat) (T : List ez_C) (a : Int32) (q37 : Int32) (cz kz : Nat) : ∀ G : ez_F, fx_up X 4 G 32 19 [.ref 0, .int a] [.int (-1)] (ev_hp I J R T) cz kz = some (some (.int (-4)), (ev_hp I J R T), cz, kz) := by
  intro G
  rfl
set_option maxRecDepth 100000 in
set_option maxHeartbeats 100000 in
theorem eg_lose_r10 (X : ez_X) (I : Nat → Nat → Int32) (J : Nat → Nat → Int64) (R : Nat → Nat) (T : List ez_C) (a : Int32) (q37 : Int32) (cz kz : Nat) : ∀ G : ez_F, fx_up X 2 G 32 8 [.ref 0, .int a] [] (ev_hp I J R T) cz kz = some (some (.int (-2)), (ev_hp I J R T), cz, kz) := by
  intro G
  rfl
theorem eg_lose (X : ez_X) (I : Nat → Nat → Int32) (J : Nat → Nat → Int64) (R : Nat → Nat) (T : List ez_C) (a : Int32)  : ev_W X 32 0 (ez_lay [.ref 0, .int a]) [] (ev_hp I J R T) 0 0 (fun r h1 c1 k1 => ((¬ (((ev_wi a 0 ((I 8 1) - (1 : Int32))))) = 0) ∧ ((¬ (lg_cmp ((((J 8 3).toUInt64 >>> ((((2 : Int32) * a) : Int32).toInt64.toUInt64 &&& 63)).toInt64) &&& (1 : Int64)) 0) = 0)) ∧ (¬ ((((((J 8 2).toUInt64 >>> ((((2 : Int32) * a) : Int32).toInt64.toUInt64 &&& 63)).toInt64) &&& (3 : Int64)).toInt32)) = (-1)) ∧ r = some (.int 1) ∧ h1 = (ev_hp (ev_sI (ev_sI I 13 (upd (I 13) 9 0)) 20 (upd (I 20) 3 0)) (ev_sJ J 8 (vp_updL (vp_updL (J 8) 2 ((J 8 2) &&& (((3 : Int64) <<< ((((2 : Int32) * a) : Int32).toInt64 &&& 63)) ^^^ ((-1) : Int64)))) 3 ((J 8 3) &&& (((1 : Int64) <<< ((((2 : Int32) * a) : Int32).toInt64 &&& 63)) ^^^ ((-1) : Int64))))) R T) ∧ c1 = 0 ∧ k1 = 0) ∨ ((¬ (((ev_wi a 0 ((I 8 1) - (1 : Int32))))) = 0) ∧ ((¬ (lg_cmp ((((J 8 3).toUInt64 >>> ((((2 : Int32) * a) : Int32).toInt64.toUInt64 &&& 63)).toInt64) &&& (1 : Int64)) 0) = 0)) ∧ (¬ (¬ ((((((J 8 2).toUInt64 >>> ((((2 : Int32) * a) : Int32).toInt64.toUInt64 &&& 63)).toInt64) &&& (3 : Int64)).toInt32)) = (-1))) ∧ r = some (.int (-4)) ∧ h1 = (ev_hp I J R T) ∧ c1 = 0 ∧ k1 = 0) ∨ ((¬ (((ev_wi a 0 ((I 8 1) - (1 : Int32))))) = 0) ∧ ((¬ (¬ (lg_cmp ((((J 8 3).toUInt64 >>> ((((2 : Int32) * a) : Int32).toInt64.toUInt64 &&& 63)).toInt64) &&& (1 : Int64)) 0) = 0))) ∧ r = some (.int (-4)) ∧ h1 = (ev_hp I J R T) ∧ c1 = 0 ∧ k1 = 0) ∨ ((¬ (¬ (((ev_wi a 0 ((I 8 1) - (1 : Int32))))) = 0)) ∧ r = some (.int (-2)) ∧ h1 = (ev_hp I J R T) ∧ c1 = 0 ∧ k1 = 0)) := by
  refine ev_call (eg_lose_r1 X I J R T a _ _) (eg_isCall X I J R T a) ?_
  rintro r0 _ _ _ (⟨hr0, rfl, rfl, rfl⟩)
  obtain ⟨q37, hq37⟩ : ∃ z : Int32, ((ev_wi a 0 ((I 8 1) - (1 : Int32)))) = z := ⟨_, rfl⟩
  have eq37 : r0 = some (.int q37) := hr0.trans (by subst hq37; rfl)
  subst eq37
  refine ev_if (eg_lose_r2 X I J R T a q37 _ _) (fun b1 => ?_) (fun b1 => ?_)
  · replace b1 := of_decide_eq_true b1
    refine ev_call (eg_lose_r3 X I J R T a q37 _ _) (eg_toldAt X I J R T a) ?_
    rintro r0 _ _ _ (⟨d27, hr0, rfl, rfl, rfl⟩ | ⟨d28, rfl, rfl, rfl, rfl⟩)
    · skip
      obtain ⟨q38, hq38⟩ : ∃ z : Int32, (((((J 8 2).toUInt64 >>> ((((2 : Int32) * a) : Int32).toInt64.toUInt64 &&& 63)).toInt64) &&& (3 : Int64)).toInt32) = z := ⟨_, rfl⟩
      have eq38 : r0 = some (.int q38) := hr0.trans (by subst hq38; rfl)
      subst eq38
      refine ev_if (eg_lose_r4 X I J R T a q37 q38 _ _) (fun b2 => ?_) (fun b2 => ?_)
      · replace b2 := of_decide_eq_true b2
        refine ev_call (eg_lose_r5 X I J R T a q37 q38 _ _) (ea_S_Paper_untell_127_8 X I J R T a) ?_
        rintro r0 _ _ _ (⟨rfl, rfl, rfl, rfl⟩)
        refine ev_call (eg_lose_r6 X I J R T a q37 q38 _ _) (ea_S_answersChanged_2_0 X I (ev_sJ J 8 (vp_updL (vp_updL (J 8) 2 ((J 8 2) &&& (((3 : Int64) <<< ((((2 : Int32) * a) : Int32).toInt64 &&& 63)) ^^^ ((-1) : Int64)))) 3 ((J 8 3) &&& (((1 : Int64) <<< ((((2 : Int32) * a) : Int32).toInt64 &&& 63)) ^^^ ((-1) : Int64))))) R T) ?_
        rintro r0 _ _ _ (⟨rfl, rfl, rfl, rfl⟩)
        refine ev_ret (eg_lose_r7 X I J R T a q37 q38 _ _) ?_
        subst hq38
        subst hq37
        exact Or.inl ⟨b1, d27, b2, rfl, rfl, rfl, rfl⟩
      · replace b2 := of_decide_eq_false b2
        refine ev_ret (eg_lose_r8 X I J R T a q37 q38 _ _) ?_
        subst hq38
        subst hq37
        exact Or.inr (Or.inl ⟨b1, d27, b2, rfl, rfl, rfl, rfl⟩)
    · skip
      refine ev_ret (eg_lose_r9 X I J R T a q37 _ _) ?_
      subst hq37
      exact Or.inr (Or.inr (Or.inl ⟨b1, d28, rfl, rfl, rfl, rfl⟩))
  · replace b1 := of_decide_eq_false b1
    refine ev_ret (eg_lose_r10 X I J R T a q37 _ _) ?_
    subst hq37
    exact Or.inr (Or.inr (Or.inr (⟨b1, rfl, rfl, rfl, rfl⟩)))
set_option maxRecDepth 100000 in
set_option maxHeartbeats 100000 in
theorem eg_back_r1 (X : ez_X) (I : Nat → Nat → Int32) (J : Nat → Nat → Int64) (R : Nat → Nat) (T : List ez_C) (cz kz : Nat) : ∀ G : ez_F, fx_up X 5 G 5 0 [.ref 0] [] (ev_hp I J R T) cz kz = bif decide (1 ≤ (I 8 1)) then G 5 14 [.ref 0] [] (ev_hp I J R T) cz kz else G 5 11 [.ref 0] [] (ev_hp I J R T) cz kz := by
  intro G
  rfl
set_option maxRecDepth 100000 in
set_option maxHeartbeats 100000 in
theorem eg_back_r2 (X : ez_X) (I : Nat → Nat → Int32) (J : Nat → Nat → Int64) (R : Nat → Nat) (T : List ez_C) (cz kz : Nat) : ∀ G : ez_F, fx_up X 3 G 5 14 [.ref 0] [] (ev_hp I J R T) cz kz = ev_C G 123 [.ref 8] (ev_hp I J R T) fun r h1 c1 k1 => G 5 21 [.ref 0] (r.toList ++ []) h1 (cz + c1) (kz + k1) := by
  intro G
  rfl
set_option maxRecDepth 100000 in
set_option maxHeartbeats 100000 in
theorem eg_back_r3 (X : ez_X) (I : Nat → Nat → Int32) (J : Nat → Nat → Int64) (R : Nat → Nat) (T : List ez_C) (cz kz : Nat) : ∀ G : ez_F, fx_up X 2 G 5 21 [.ref 0] [] (ev_hp I J R T) cz kz = ev_C G 12 [.ref 0] (ev_hp I J R T) fun r h1 c1 k1 => G 5 25 [.ref 0] (r.toList ++ []) h1 (cz + c1) (kz + k1) := by
  intro G
  rfl
set_option maxRecDepth 100000 in
set_option maxHeartbeats 100000 in
theorem eg_back_r4 (X : ez_X) (I : Nat → Nat → Int32) (J : Nat → Nat → Int64) (R : Nat → Nat) (T : List ez_C) (cz kz : Nat) : ∀ G : ez_F, fx_up X 4 G 5 25 [.ref 0] [] (ev_hp (ev_sI (ev_sI I 13 (upd (upd (I 13) 8 0) 9 0)) 20 (upd (I 20) 3 0)) J R T) cz kz = some (some (.int (I 8 1)), (ev_hp (ev_sI (ev_sI I 13 (upd (upd (I 13) 8 0) 9 0)) 20 (upd (I 20) 3 0)) J R T), cz, kz) := by
  intro G
  rfl
set_option maxRecDepth 100000 in
set_option maxHeartbeats 100000 in
theorem eg_back_r5 (X : ez_X) (I : Nat → Nat → Int32) (J : Nat → Nat → Int64) (R : Nat → Nat) (T : List ez_C) (cz kz : Nat) : ∀ G : ez_F, fx_up X 2 G 5 21 [.ref 0] [] (ev_hp (ev_sI I 8 (upd (I 8) 1 ((I 8 1) - (1 : Int32)))) (ev_sJ J 8 (vp_updL (vp_updL (J 8) 2 ((J 8 2) &&& (((3 : Int64) <<< ((((2 : Int32) * ((I 8 1) - (1 : Int32))) : Int32).toInt64 &&& 63)) ^^^ ((-1) : Int64)))) 3 ((J 8 3) &&& (((1 : Int64) <<< ((((2 : Int32) * ((I 8 1) - (1 : Int32))) : Int32).toInt64 &&& 63)) ^^^ ((-1) : Int64))))) R T) cz kz = ev_C G 12 [.ref 0] (ev_hp (ev_sI I 8 (upd (I 8) 1 ((I 8 1) - (1 : Int32)))) (ev_sJ J 8 (vp_updL (vp_updL (J 8) 2 ((J 8 2) &&& (((3 : Int64) <<< ((((2 : Int32) * ((I 8 1) - (1 : Int32))) : Int32).toInt64 &&& 63)) ^^^ ((-1) : Int64)))) 3 ((J 8 3) &&& (((1 : Int64) <<< ((((2 : Int32) * ((I 8 1) - (1 : Int32))) : Int32).toInt64 &&& 63)) ^^^ ((-1) : Int64))))) R T) fun r h1 c1 k1 => G 5 25 [.ref 0] (r.toList ++ []) h1 (cz + c1) (kz + k1) := by
  intro G
  rfl
set_option maxRecDepth 100000 in
set_option maxHeartbeats 100000 in
theorem eg_back_r6 (X : ez_X) (I : Nat → Nat → Int32) (J : Nat → Nat → Int64) (R : Nat → Nat) (T : List ez_C) (cz kz : Nat) : ∀ G : ez_F, fx_up X 4 G 5 25 [.ref 0] [] (ev_hp (ev_sI (ev_sI (ev_sI I 8 (upd (I 8) 1 ((I 8 1) - (1 : Int32)))) 13 (upd (upd (I 13) 8 0) 9 0)) 20 (upd (I 20) 3 0)) (ev_sJ J 8 (vp_updL (vp_updL (J 8) 2 ((J 8 2) &&& (((3 : Int64) <<< ((((2 : Int32) * ((I 8 1) - (1 : Int32))) : Int32).toInt64 &&& 63)) ^^^ ((-1) : Int64)))) 3 ((J 8 3) &&& (((1 : Int64) <<< ((((2 : Int32) * ((I 8 1) - (1 : Int32))) : Int32).toInt64 &&& 63)) ^^^ ((-1) : Int64))))) R T) cz kz = some (some (.int ((I 8 1) - (1 : Int32))), (ev_hp (ev_sI (ev_sI (ev_sI I 8 (upd (I 8) 1 ((I 8 1) - (1 : Int32)))) 13 (upd (upd (I 13) 8 0) 9 0)) 20 (upd (I 20) 3 0)) (ev_sJ J 8 (vp_updL (vp_updL (J 8) 2 ((J 8 2) &&& (((3 : Int64) <<< ((((2 : Int32) * ((I 8 1) - (1 : Int32))) : Int32).toInt64 &&& 63)) ^^^ ((-1) : Int64)))) 3 ((J 8 3) &&& (((1 : Int64) <<< ((((2 : Int32) * ((I 8 1) - (1 : Int32))) : Int32).toInt64 &&& 63)) ^^^ ((-1) : Int64))))) R T), cz, kz) := by
  intro G
  rfl
set_option maxRecDepth 100000 in
set_option maxHeartbeats 100000 in
theorem eg_back_r7 (X : ez_X) (I : Nat → Nat → Int32) (J : Nat → Nat → Int64) (R : Nat → Nat) (T : List ez_C) (cz kz : Nat) : ∀ G : ez_F, fx_up X 2 G 5 11 [.ref 0] [] (ev_hp I J R T) cz kz = some (some (.int (-4)), (ev_hp I J R T), cz, kz) := by
  intro G
  rfl
theorem eg_back (X : ez_X) (I : Nat → Nat → Int32) (J : Nat → Nat → Int64) (R : Nat → Nat) (T : List ez_C)  : ev_W X 5 0 (ez_lay [.ref 0]) [] (ev_hp I J R T) 0 0 (fun r h1 c1 k1 => ((1 ≤ (I 8 1)) ∧ (((I 8 1) ≤ 0)) ∧ r = some (.int (I 8 1)) ∧ h1 = (ev_hp (ev_sI (ev_sI I 13 (upd (upd (I 13) 8 0) 9 0)) 20 (upd (I 20) 3 0)) J R T) ∧ c1 = 0 ∧ k1 = 0) ∨ ((1 ≤ (I 8 1)) ∧ ((¬ ((I 8 1) ≤ 0))) ∧ r = some (.int ((I 8 1) - (1 : Int32))) ∧ h1 = (ev_hp (ev_sI (ev_sI (ev_sI I 8 (upd (I 8) 1 ((I 8 1) - (1 : Int32)))) 13 (upd (upd (I 13) 8 0) 9 0)) 20 (upd (I 20) 3 0)) (ev_sJ J 8 (vp_updL (vp_updL (J 8) 2 ((J 8 2) &&& (((3 : Int64) <<< ((((2 : Int32) * ((I 8 1) - (1 : Int32))) : Int32).toInt64 &&& 63)) ^^^ ((-1) : Int64)))) 3 ((J 8 3) &&& (((1 : Int64) <<< ((((2 : Int32) * ((I 8 1) - (1 : Int32))) : Int32).toInt64 &&& 63)) ^^^ ((-1) : Int64))))) R T) ∧ c1 = 0 ∧ k1 = 0) ∨ ((¬ (1 ≤ (I 8 1))) ∧ r = some (.int (-4)) ∧ h1 = (ev_hp I J R T) ∧ c1 = 0 ∧ k1 = 0)) := by
  refine ev_if (eg_back_r1 X I J R T _ _) (fun b1 => ?_) (fun b1 => ?_)
  · replace b1 := of_decide_eq_true b1
    refine ev_call (eg_back_r2 X I J R T _ _) (ea_S_Paper_dropLast_123_8 X I J R T) ?_
    rintro r0 _ _ _ (⟨d29, rfl, rfl, rfl, rfl⟩ | ⟨d30, rfl, rfl, rfl, rfl⟩)
    · skip
      refine ev_call (eg_back_r3 X I J R T _ _) (ea_S_callsChanged_12_0 X I J R T) ?_
      rintro r0 _ _ _ (⟨rfl, rfl, rfl, rfl⟩)
      refine ev_ret (eg_back_r4 X I J R T _ _) ?_
      exact Or.inl ⟨b1, d29, rfl, rfl, rfl, rfl⟩
    · skip
      refine ev_call (eg_back_r5 X I J R T _ _) (ea_S_callsChanged_12_0 X (ev_sI I 8 (upd (I 8) 1 ((I 8 1) - (1 : Int32)))) (ev_sJ J 8 (vp_updL (vp_updL (J 8) 2 ((J 8 2) &&& (((3 : Int64) <<< ((((2 : Int32) * ((I 8 1) - (1 : Int32))) : Int32).toInt64 &&& 63)) ^^^ ((-1) : Int64)))) 3 ((J 8 3) &&& (((1 : Int64) <<< ((((2 : Int32) * ((I 8 1) - (1 : Int32))) : Int32).toInt64 &&& 63)) ^^^ ((-1) : Int64))))) R T) ?_
      rintro r0 _ _ _ (⟨rfl, rfl, rfl, rfl⟩)
      refine ev_ret (eg_back_r6 X I J R T _ _) ?_
      exact Or.inr (Or.inl ⟨b1, d30, rfl, rfl, rfl, rfl⟩)
  · replace b1 := of_decide_eq_false b1
    refine ev_ret (eg_back_r7 X I J R T _ _) ?_
    exact Or.inr (Or.inr (⟨b1, rfl, rfl, rfl, rfl⟩))
set_option maxRecDepth 100000 in
set_option maxHeartbeats 100000 in
theorem eg_count_r1 (X : ez_X) (I : Nat → Nat → Int32) (J : Nat → Nat → Int64) (R : Nat → Nat) (T : List ez_C) (a : Int32) (b : Int32) (cz kz : Nat) : ∀ G : ez_F, fx_up X 3 G 14 0 [.ref 0, .int a, .int b] [] (ev_hp I J R T) cz kz = ev_C G 24 [.ref 0, .int a] (ev_hp I J R T) fun r h1 c1 k1 => G 14 5 [.ref 0, .int a, .int b] (r.toList ++ []) h1 (cz + c1) (kz + k1) := by
  intro G
  rfl
set_option maxRecDepth 100000 in
set_option maxHeartbeats 100000 in
theorem eg_count_r2 (X : ez_X) (I : Nat → Nat → Int32) (J : Nat → Nat → Int64) (R : Nat → Nat) (T : List ez_C) (a : Int32) (b : Int32) (q39 : Int32) (cz kz : Nat) : ∀ G : ez_F, fx_up X 1 G 14 5 [.ref 0, .int a, .int b] [.int q39] (ev_hp I J R T) cz kz = bif decide (¬ q39 = 0) then G 14 11 [.ref 0, .int a, .int b] [] (ev_hp I J R T) cz kz else G 14 8 [.ref 0, .int a, .int b] [] (ev_hp I J R T) cz kz := by
  intro G
  rfl
set_option maxRecDepth 100000 in
set_option maxHeartbeats 100000 in
theorem eg_count_r3 (X : ez_X) (I : Nat → Nat → Int32) (J : Nat → Nat → Int64) (R : Nat → Nat) (T : List ez_C) (a : Int32) (b : Int32) (q39 : Int32) (cz kz : Nat) : ∀ G : ez_F, fx_up X 4 G 14 11 [.ref 0, .int a, .int b] [] (ev_hp I J R T) cz kz = ev_C G 55 [.int b, .int 0, .int 7] (ev_hp I J R T) fun r h1 c1 k1 => G 14 18 [.ref 0, .int a, .int b] (r.toList ++ []) h1 (cz + c1) (kz + k1) := by
  intro G
  rfl
set_option maxRecDepth 100000 in
set_option maxHeartbeats 100000 in
theorem eg_count_r4 (X : ez_X) (I : Nat → Nat → Int32) (J : Nat → Nat → Int64) (R : Nat → Nat) (T : List ez_C) (a : Int32) (b : Int32) (q39 : Int32) (q40 : Int32) (cz kz : Nat) : ∀ G : ez_F, fx_up X 1 G 14 18 [.ref 0, .int a, .int b] [.int q40] (ev_hp I J R T) cz kz = bif decide (q40 = 0) then G 14 43 [.ref 0, .int a, .int b] [] (ev_hp I J R T) cz kz else G 14 21 [.ref 0, .int a, .int b] [] (ev_hp I J R T) cz kz := by
  intro G
  rfl
set_option maxRecDepth 100000 in
set_option maxHeartbeats 100000 in
theorem eg_count_r5 (X : ez_X) (I : Nat → Nat → Int32) (J : Nat → Nat → Int64) (R : Nat → Nat) (T : List ez_C) (a : Int32) (b : Int32) (q39 : Int32) (q40 : Int32) (cz kz : Nat) : ∀ G : ez_F, fx_up X 2 G 14 43 [.ref 0, .int a, .int b] [] (ev_hp I J R T) cz kz = some (some (.int (-3)), (ev_hp I J R T), cz, kz) := by
  intro G
  rfl
set_option maxRecDepth 100000 in
set_option maxHeartbeats 100000 in
theorem eg_count_r6 (X : ez_X) (I : Nat → Nat → Int32) (J : Nat → Nat → Int64) (R : Nat → Nat) (T : List ez_C) (a : Int32) (b : Int32) (q39 : Int32) (q40 : Int32) (cz kz : Nat) : ∀ G : ez_F, fx_up X 6 G 14 21 [.ref 0, .int a, .int b] [] (ev_hp I J R T) cz kz = bif decide (¬ b = 7) then G 14 36 [.ref 0, .int a, .int b] [.int a, .ref 32] (ev_hp I J R T) cz kz else G 14 32 [.ref 0, .int a, .int b] [.int a, .ref 32] (ev_hp I J R T) cz kz := by
  intro G
  rfl
set_option maxRecDepth 100000 in
set_option maxHeartbeats 100000 in
theorem eg_count_r7 (X : ez_X) (I : Nat → Nat → Int32) (J : Nat → Nat → Int64) (R : Nat → Nat) (T : List ez_C) (a : Int32) (b : Int32) (q39 : Int32) (q40 : Int32) (cz kz : Nat) : ∀ G : ez_F, fx_up X 2 G 14 36 [.ref 0, .int a, .int b] [.int a, .ref 32] (ev_hp I J R T) cz kz = ev_C G 81 [.ref 32, .int a, .int b] (ev_hp I J R T) fun r h1 c1 k1 => G 14 40 [.ref 0, .int a, .int b] (r.toList ++ []) h1 (cz + c1) (kz + k1) := by
  intro G
  rfl
set_option maxRecDepth 100000 in
set_option maxHeartbeats 100000 in
theorem eg_count_r8 (X : ez_X) (I : Nat → Nat → Int32) (J : Nat → Nat → Int64) (R : Nat → Nat) (T : List ez_C) (a : Int32) (b : Int32) (q39 : Int32) (q40 : Int32) (q42 : Int32) (cz kz : Nat) : ∀ G : ez_F, fx_up X 2 G 14 40 [.ref 0, .int a, .int b] [.int q42] (ev_hp (ev_sI I 33 (ev_put 12 (I 33) a b)) J R T) cz kz = some (some (.int q42), (ev_hp (ev_sI I 33 (ev_put 12 (I 33) a b)) J R T), cz, kz) := by
  intro G
  rfl
set_option maxRecDepth 100000 in
set_option maxHeartbeats 100000 in
theorem eg_count_r9 (X : ez_X) (I : Nat → Nat → Int32) (J : Nat → Nat → Int64) (R : Nat → Nat) (T : List ez_C) (a : Int32) (b : Int32) (q39 : Int32) (q40 : Int32) (cz kz : Nat) : ∀ G : ez_F, fx_up X 3 G 14 32 [.ref 0, .int a, .int b] [.int a, .ref 32] (ev_hp I J R T) cz kz = ev_C G 81 [.ref 32, .int a, .int (-1)] (ev_hp I J R T) fun r h1 c1 k1 => G 14 40 [.ref 0, .int a, .int b] (r.toList ++ []) h1 (cz + c1) (kz + k1) := by
  intro G
  rfl
set_option maxRecDepth 100000 in
set_option maxHeartbeats 100000 in
theorem eg_count_r10 (X : ez_X) (I : Nat → Nat → Int32) (J : Nat → Nat → Int64) (R : Nat → Nat) (T : List ez_C) (a : Int32) (b : Int32) (q39 : Int32) (q40 : Int32) (q43 : Int32) (cz kz : Nat) : ∀ G : ez_F, fx_up X 2 G 14 40 [.ref 0, .int a, .int b] [.int q43] (ev_hp (ev_sI I 33 (ev_put 12 (I 33) a ((-1) : Int32))) J R T) cz kz = some (some (.int q43), (ev_hp (ev_sI I 33 (ev_put 12 (I 33) a ((-1) : Int32))) J R T), cz, kz) := by
  intro G
  rfl
set_option maxRecDepth 100000 in
set_option maxHeartbeats 100000 in
theorem eg_count_r11 (X : ez_X) (I : Nat → Nat → Int32) (J : Nat → Nat → Int64) (R : Nat → Nat) (T : List ez_C) (a : Int32) (b : Int32) (q39 : Int32) (cz kz : Nat) : ∀ G : ez_F, fx_up X 2 G 14 8 [.ref 0, .int a, .int b] [] (ev_hp I J R T) cz kz = some (some (.int (-2)), (ev_hp I J R T), cz, kz) := by
  intro G
  rfl
theorem eg_count (X : ez_X) (I : Nat → Nat → Int32) (J : Nat → Nat → Int64) (R : Nat → Nat) (T : List ez_C) (a : Int32) (b : Int32)  : ev_W X 14 0 (ez_lay [.ref 0, .int a, .int b]) [] (ev_hp I J R T) 0 0 (fun r h1 c1 k1 => ((¬ (((ev_wi a 0 ((((I 1 4) + (I 1 3))) - (1 : Int32))))) = 0) ∧ (((ev_wi b 0 7)) = 0) ∧ r = some (.int (-3)) ∧ h1 = (ev_hp I J R T) ∧ c1 = 0 ∧ k1 = 0) ∨ ((¬ (((ev_wi a 0 ((((I 1 4) + (I 1 3))) - (1 : Int32))))) = 0) ∧ (¬ (((ev_wi b 0 7)) = 0)) ∧ (¬ b = 7) ∧ r = some (.int ((ev_at 12 (I 33) a))) ∧ h1 = (ev_hp (ev_sI I 33 (ev_put 12 (I 33) a b)) J R T) ∧ c1 = 0 ∧ k1 = 0) ∨ ((¬ (((ev_wi a 0 ((((I 1 4) + (I 1 3))) - (1 : Int32))))) = 0) ∧ (¬ (((ev_wi b 0 7)) = 0)) ∧ (¬ (¬ b = 7)) ∧ r = some (.int ((ev_at 12 (I 33) a))) ∧ h1 = (ev_hp (ev_sI I 33 (ev_put 12 (I 33) a ((-1) : Int32))) J R T) ∧ c1 = 0 ∧ k1 = 0) ∨ ((¬ (¬ (((ev_wi a 0 ((((I 1 4) + (I 1 3))) - (1 : Int32))))) = 0)) ∧ r = some (.int (-2)) ∧ h1 = (ev_hp I J R T) ∧ c1 = 0 ∧ k1 = 0)) := by
  refine ev_call (eg_count_r1 X I J R T a b _ _) (eg_isRim X I J R T a) ?_
  rintro r0 _ _ _ (⟨hr0, rfl, rfl, rfl⟩)
  obtain ⟨q39, hq39⟩ : ∃ z : Int32, ((ev_wi a 0 ((((I 1 4) + (I 1 3))) - (1 : Int32)))) = z := ⟨_, rfl⟩
  have eq39 : r0 = some (.int q39) := hr0.trans (by subst hq39; rfl)
  subst eq39
  refine ev_if (eg_count_r2 X I J R T a b q39 _ _) (fun b1 => ?_) (fun b1 => ?_)
  · replace b1 := of_decide_eq_true b1
    refine ev_call (eg_count_r3 X I J R T a b q39 _ _) (ec_within X (ev_hp I J R T) b 0 7) ?_
    rintro _ _ _ _ ⟨rfl, rfl, rfl, rfl⟩
    generalize hq40 : (ev_wi b 0 7) = q40
    refine ev_if (eg_count_r4 X I J R T a b q39 q40 _ _) (fun b2 => ?_) (fun b2 => ?_)
    · replace b2 := of_decide_eq_true b2
      refine ev_ret (eg_count_r5 X I J R T a b q39 q40 _ _) ?_
      subst hq40
      subst hq39
      exact Or.inl ⟨b1, b2, rfl, rfl, rfl, rfl⟩
    · replace b2 := of_decide_eq_false b2
      refine ev_if (eg_count_r6 X I J R T a b q39 q40 _ _) (fun b3 => ?_) (fun b3 => ?_)
      · replace b3 := of_decide_eq_true b3
        refine ev_call (eg_count_r7 X I J R T a b q39 q40 _ _) (ea_S_Edges_tell_81_32 X I J R T a b) ?_
        rintro r0 _ _ _ (⟨hr0, rfl, rfl, rfl⟩)
        obtain ⟨q42, hq42⟩ : ∃ z : Int32, (ev_at 12 (I 33) a) = z := ⟨_, rfl⟩
        have eq42 : r0 = some (.int q42) := hr0.trans (by subst hq42; rfl)
        subst eq42
        refine ev_ret (eg_count_r8 X I J R T a b q39 q40 q42 _ _) ?_
        subst hq42
        subst hq40
        subst hq39
        exact Or.inr (Or.inl ⟨b1, b2, b3, rfl, rfl, rfl, rfl⟩)
      · replace b3 := of_decide_eq_false b3
        refine ev_call (eg_count_r9 X I J R T a b q39 q40 _ _) (ea_S_Edges_tell_81_32 X I J R T a ((-1) : Int32)) ?_
        rintro r0 _ _ _ (⟨hr0, rfl, rfl, rfl⟩)
        obtain ⟨q43, hq43⟩ : ∃ z : Int32, (ev_at 12 (I 33) a) = z := ⟨_, rfl⟩
        have eq43 : r0 = some (.int q43) := hr0.trans (by subst hq43; rfl)
        subst eq43
        refine ev_ret (eg_count_r10 X I J R T a b q39 q40 q43 _ _) ?_
        subst hq43
        subst hq40
        subst hq39
        exact Or.inr (Or.inr (Or.inl ⟨b1, b2, b3, rfl, rfl, rfl, rfl⟩))
  · replace b1 := of_decide_eq_false b1
    refine ev_ret (eg_count_r11 X I J R T a b q39 _ _) ?_
    subst hq39
    exact Or.inr (Or.inr (Or.inr (⟨b1, rfl, rfl, rfl, rfl⟩)))
end
