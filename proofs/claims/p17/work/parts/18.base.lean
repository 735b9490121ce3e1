/-! Contracts of the small ones: what is within, what stands at a place of a row, what is put there. -/
def ev_wi (v a b : Int32) : Int32 := if v < a then 0 else if b < v then 0 else 1
def ev_il (v a b : Int64) : Int32 := if lg_cmp v a < 0 then 0 else if 0 < lg_cmp v b then 0 else 1
theorem ev_wi_01 (v a b : Int32) : ev_wi v a b = 0 ∨ ev_wi v a b = 1 := by
  unfold ev_wi
  split
  · exact Or.inl rfl
  · split
    · exact Or.inl rfl
    · exact Or.inr rfl
theorem ev_il_01 (v a b : Int64) : ev_il v a b = 0 ∨ ev_il v a b = 1 := by
  unfold ev_il
  split
  · exact Or.inl rfl
  · split
    · exact Or.inl rfl
    · exact Or.inr rfl
theorem ev_01 {v e : Int32} (h : e = v) (h2 : e = 0 ∨ e = 1) : v = 0 ∨ v = 1 := h ▸ h2
set_option maxRecDepth 100000 in
set_option maxHeartbeats 100000 in
theorem ec_within_r1 (X : ez_X) (h : ez_H) (v : Int32) (a : Int32) (b : Int32) (cz kz : Nat) : ∀ G : ez_F, fx_up X 3 G 55 0 [.int v, .int a, .int b] [] h cz kz = bif decide (v < a) then G 55 14 [.int v, .int a, .int b] [] h cz kz else G 55 5 [.int v, .int a, .int b] [] h cz kz := by
  intro G
  rfl
set_option maxRecDepth 100000 in
set_option maxHeartbeats 100000 in
theorem ec_within_r2 (X : ez_X) (h : ez_H) (v : Int32) (a : Int32) (b : Int32) (cz kz : Nat) : ∀ G : ez_F, fx_up X 2 G 55 14 [.int v, .int a, .int b] [] h cz kz = some (some (.int 0), h, cz, kz) := by
  intro G
  rfl
set_option maxRecDepth 100000 in
set_option maxHeartbeats 100000 in
theorem ec_within_r3 (X : ez_X) (h : ez_H) (v : Int32) (a : Int32) (b : Int32) (cz kz : Nat) : ∀ G : ez_F, fx_up X 3 G 55 5 [.int v, .int a, .int b] [] h cz kz = bif decide (b < v) then G 55 14 [.int v, .int a, .int b] [] h cz kz else G 55 10 [.int v, .int a, .int b] [] h cz kz := by
  intro G
  rfl
set_option maxRecDepth 100000 in
set_option maxHeartbeats 100000 in
theorem ec_within_r4 (X : ez_X) (h : ez_H) (v : Int32) (a : Int32) (b : Int32) (cz kz : Nat) : ∀ G : ez_F, fx_up X 2 G 55 14 [.int v, .int a, .int b] [] h cz kz = some (some (.int 0), h, cz, kz) := by
  intro G
  rfl
set_option maxRecDepth 100000 in
set_option maxHeartbeats 100000 in
theorem ec_within_r5 (X : ez_X) (h : ez_H) (v : Int32) (a : Int32) (b : Int32) (cz kz : Nat) : ∀ G : ez_F, fx_up X 3 G 55 10 [.int v, .int a, .int b] [] h cz kz = some (some (.int 1), h, cz, kz) := by
  intro G
  rfl
theorem ec_within (X : ez_X) (h : ez_H) (v : Int32) (a : Int32) (b : Int32)  : ev_W X 55 0 (ez_lay [.int v, .int a, .int b]) [] h 0 0 (ev_is (some (.int (ev_wi v a b))) h) := by
  refine ev_if (ec_within_r1 X h v a b _ _) (fun b1 => ?_) (fun b1 => ?_)
  · replace b1 := of_decide_eq_true b1
    refine ev_ret (ec_within_r2 X h v a b _ _) ?_
    exact ⟨by rw [ev_wi, if_pos b1], rfl, rfl, rfl⟩
  · replace b1 := of_decide_eq_false b1
    refine ev_if (ec_within_r3 X h v a b _ _) (fun b2 => ?_) (fun b2 => ?_)
    · replace b2 := of_decide_eq_true b2
      refine ev_ret (ec_within_r4 X h v a b _ _) ?_
      exact ⟨by rw [ev_wi, if_neg b1, if_pos b2], rfl, rfl, rfl⟩
    · replace b2 := of_decide_eq_false b2
      refine ev_ret (ec_within_r5 X h v a b _ _) ?_
      exact ⟨by rw [ev_wi, if_neg b1, if_neg b2], rfl, rfl, rfl⟩
set_option maxRecDepth 100000 in
set_option maxHeartbeats 100000 in
theorem ec_in_r1 (X : ez_X) (h : ez_H) (v : Int64) (a : Int64) (b : Int64) (cz kz : Nat) : ∀ G : ez_F, fx_up X 4 G 198 0 [.long v, ez_fill, .long a, ez_fill, .long b, ez_fill] [] h cz kz = bif decide ((lg_cmp v a) < 0) then G 198 17 [.long v, ez_fill, .long a, ez_fill, .long b, ez_fill] [] h cz kz else G 198 6 [.long v, ez_fill, .long a, ez_fill, .long b, ez_fill] [] h cz kz := by
  intro G
  rfl
set_option maxRecDepth 100000 in
set_option maxHeartbeats 100000 in
theorem ec_in_r2 (X : ez_X) (h : ez_H) (v : Int64) (a : Int64) (b : Int64) (cz kz : Nat) : ∀ G : ez_F, fx_up X 2 G 198 17 [.long v, ez_fill, .long a, ez_fill, .long b, ez_fill] [] h cz kz = some (some (.int 0), h, cz, kz) := by
  intro G
  rfl
set_option maxRecDepth 100000 in
set_option maxHeartbeats 100000 in
theorem ec_in_r3 (X : ez_X) (h : ez_H) (v : Int64) (a : Int64) (b : Int64) (cz kz : Nat) : ∀ G : ez_F, fx_up X 4 G 198 6 [.long v, ez_fill, .long a, ez_fill, .long b, ez_fill] [] h cz kz = bif decide (0 < (lg_cmp v b)) then G 198 17 [.long v, ez_fill, .long a, ez_fill, .long b, ez_fill] [] h cz kz else G 198 13 [.long v, ez_fill, .long a, ez_fill, .long b, ez_fill] [] h cz kz := by
  intro G
  rfl
set_option maxRecDepth 100000 in
set_option maxHeartbeats 100000 in
theorem ec_in_r4 (X : ez_X) (h : ez_H) (v : Int64) (a : Int64) (b : Int64) (cz kz : Nat) : ∀ G : ez_F, fx_up X 2 G 198 17 [.long v, ez_fill, .long a, ez_fill, .long b, ez_fill] [] h cz kz = some (some (.int 0), h, cz, kz) := by
  intro G
  rfl
set_option maxRecDepth 100000 in
set_option maxHeartbeats 100000 in
theorem ec_in_r5 (X : ez_X) (h : ez_H) (v : Int64) (a : Int64) (b : Int64) (cz kz : Nat) : ∀ G : ez_F, fx_up X 3 G 198 13 [.long v, ez_fill, .long a, ez_fill, .long b, ez_fill] [] h cz kz = some (some (.int 1), h, cz, kz) := by
  intro G
  rfl
theorem ec_in (X : ez_X) (h : ez_H) (v : Int64) (a : Int64) (b : Int64)  : ev_W X 198 0 (ez_lay [.long v, .long a, .long b]) [] h 0 0 (ev_is (some (.int (ev_il v a b))) h) := by
  refine ev_if (ec_in_r1 X h v a b _ _) (fun b1 => ?_) (fun b1 => ?_)
  · replace b1 := of_decide_eq_true b1
    refine ev_ret (ec_in_r2 X h v a b _ _) ?_
    exact ⟨by rw [ev_il, if_pos b1], rfl, rfl, rfl⟩
  · replace b1 := of_decide_eq_false b1
    refine ev_if (ec_in_r3 X h v a b _ _) (fun b2 => ?_) (fun b2 => ?_)
    · replace b2 := of_decide_eq_true b2
      refine ev_ret (ec_in_r4 X h v a b _ _) ?_
      exact ⟨by rw [ev_il, if_neg b1, if_pos b2], rfl, rfl, rfl⟩
    · replace b2 := of_decide_eq_false b2
      refine ev_ret (ec_in_r5 X h v a b _ _) ?_
      exact ⟨by rw [ev_il, if_neg b1, if_neg b2], rfl, rfl, rfl⟩
set_option maxRecDepth 100000 in
set_option maxHeartbeats 100000 in
theorem ec_at_r1 (X : ez_X) (h : ez_H) (n : Nat) (p : Nat) (i : Int32) (f : Nat → Int32) (cz kz : Nat) : ∀ G : ez_F, fx_up X 2 G 3 0 [.ref p, .int i] [] h cz kz = bif decide (i < 0) then G 3 16 [.ref p, .int i] [] h cz kz else G 3 4 [.ref p, .int i] [] h cz kz := by
  intro G
  rfl
set_option maxRecDepth 100000 in
set_option maxHeartbeats 100000 in
theorem ec_at_r2 (X : ez_X) (h : ez_H) (n : Nat) (p : Nat) (i : Int32) (f : Nat → Int32) (cz kz : Nat) : ∀ G : ez_F, fx_up X 2 G 3 16 [.ref p, .int i] [] h cz kz = some (some (.int 0), h, cz, kz) := by
  intro G
  rfl
set_option maxRecDepth 100000 in
set_option maxHeartbeats 100000 in
theorem ec_at_r3 (X : ez_X) (h : ez_H) (n : Nat) (p : Nat) (i : Int32) (f : Nat → Int32) (cz kz : Nat) : ∀ G : ez_F, fx_up X 2 G 3 4 [.ref p, .int i] [] h cz kz = G 3 6 [.ref p, .int i] [.ref p, .int i] h cz kz := by
  intro G
  rfl
set_option maxRecDepth 100000 in
set_option maxHeartbeats 100000 in
theorem ec_at_r4 (X : ez_X) (h : ez_H) (n : Nat) (p : Nat) (i : Int32) (f : Nat → Int32) (cz kz : Nat) : ∀ G : ez_F, fx_up X 1 G 3 7 [.ref p, .int i] [.int (Int32.ofNat n), .int i] h cz kz = bif decide ((Int32.ofNat n) ≤ i) then G 3 16 [.ref p, .int i] [] h cz kz else G 3 10 [.ref p, .int i] [] h cz kz := by
  intro G
  rfl
set_option maxRecDepth 100000 in
set_option maxHeartbeats 100000 in
theorem ec_at_r5 (X : ez_X) (h : ez_H) (n : Nat) (p : Nat) (i : Int32) (f : Nat → Int32) (cz kz : Nat) : ∀ G : ez_F, fx_up X 2 G 3 16 [.ref p, .int i] [] h cz kz = some (some (.int 0), h, cz, kz) := by
  intro G
  rfl
set_option maxRecDepth 100000 in
set_option maxHeartbeats 100000 in
theorem ec_at_r6 (X : ez_X) (h : ez_H) (n : Nat) (p : Nat) (i : Int32) (f : Nat → Int32) (cz kz : Nat) : ∀ G : ez_F, fx_up X 2 G 3 10 [.ref p, .int i] [] h cz kz = G 3 12 [.ref p, .int i] [.int i, .ref p] h cz kz := by
  intro G
  rfl
set_option maxRecDepth 100000 in
set_option maxHeartbeats 100000 in
theorem ec_at_r7 (X : ez_X) (h : ez_H) (n : Nat) (p : Nat) (i : Int32) (f : Nat → Int32) (cz kz : Nat) : ∀ G : ez_F, fx_up X 2 G 3 13 [.ref p, .int i] [.int (f i.toNatClampNeg)] h cz kz = some (some (.int (f i.toNatClampNeg)), h, cz, kz) := by
  intro G
  rfl
theorem ec_at (X : ez_X) (h : ez_H) (n : Nat) (p : Nat) (i : Int32) (f : Nat → Int32) (hp : h[p]? = some (.inl (n, .inl f))) (hn : n < 2 ^ 31) : ev_W X 3 0 (ez_lay [.ref p, .int i]) [] h 0 0 (ev_is (some (.int (ev_at n f i))) h) := by
  refine ev_if (ec_at_r1 X h n p i f _ _) (fun b1 => ?_) (fun b1 => ?_)
  · replace b1 := of_decide_eq_true b1
    refine ev_ret (ec_at_r2 X h n p i f _ _) ?_
    exact ⟨by rw [ev_at, if_pos b1], rfl, rfl, rfl⟩
  · replace b1 := of_decide_eq_false b1
    refine ev_seg (ec_at_r3 X h n p i f _ _) ?_
    refine ev_alenI (n := n) (by rfl) hp ?_
    refine ev_if (ec_at_r4 X h n p i f _ _) (fun b2 => ?_) (fun b2 => ?_)
    · replace b2 := of_decide_eq_true b2
      refine ev_ret (ec_at_r5 X h n p i f _ _) ?_
      exact ⟨by rw [ev_at, if_neg b1, if_pos b2], rfl, rfl, rfl⟩
    · replace b2 := of_decide_eq_false b2
      refine ev_seg (ec_at_r6 X h n p i f _ _) ?_
      refine ev_iald (by rfl) hp (ev_ix_of hn b1 b2) ?_
      refine ev_ret (ec_at_r7 X h n p i f _ _) ?_
      exact ⟨by rw [ev_at, if_neg b1, if_neg b2], rfl, rfl, rfl⟩
set_option maxRecDepth 100000 in
set_option maxHeartbeats 100000 in
theorem ec_atJ_r1 (X : ez_X) (h : ez_H) (n : Nat) (p : Nat) (i : Int32) (f : Nat → Int64) (cz kz : Nat) : ∀ G : ez_F, fx_up X 2 G 4 0 [.ref p, .int i] [] h cz kz = bif decide (i < 0) then G 4 16 [.ref p, .int i] [] h cz kz else G 4 4 [.ref p, .int i] [] h cz kz := by
  intro G
  rfl
set_option maxRecDepth 100000 in
set_option maxHeartbeats 100000 in
theorem ec_atJ_r2 (X : ez_X) (h : ez_H) (n : Nat) (p : Nat) (i : Int32) (f : Nat → Int64) (cz kz : Nat) : ∀ G : ez_F, fx_up X 2 G 4 16 [.ref p, .int i] [] h cz kz = some (some (.long 0), h, cz, kz) := by
  intro G
  rfl
set_option maxRecDepth 100000 in
set_option maxHeartbeats 100000 in
theorem ec_atJ_r3 (X : ez_X) (h : ez_H) (n : Nat) (p : Nat) (i : Int32) (f : Nat → Int64) (cz kz : Nat) : ∀ G : ez_F, fx_up X 2 G 4 4 [.ref p, .int i] [] h cz kz = G 4 6 [.ref p, .int i] [.ref p, .int i] h cz kz := by
  intro G
  rfl
set_option maxRecDepth 100000 in
set_option maxHeartbeats 100000 in
theorem ec_atJ_r4 (X : ez_X) (h : ez_H) (n : Nat) (p : Nat) (i : Int32) (f : Nat → Int64) (cz kz : Nat) : ∀ G : ez_F, fx_up X 1 G 4 7 [.ref p, .int i] [.int (Int32.ofNat n), .int i] h cz kz = bif decide ((Int32.ofNat n) ≤ i) then G 4 16 [.ref p, .int i] [] h cz kz else G 4 10 [.ref p, .int i] [] h cz kz := by
  intro G
  rfl
set_option maxRecDepth 100000 in
set_option maxHeartbeats 100000 in
theorem ec_atJ_r5 (X : ez_X) (h : ez_H) (n : Nat) (p : Nat) (i : Int32) (f : Nat → Int64) (cz kz : Nat) : ∀ G : ez_F, fx_up X 2 G 4 16 [.ref p, .int i] [] h cz kz = some (some (.long 0), h, cz, kz) := by
  intro G
  rfl
set_option maxRecDepth 100000 in
set_option maxHeartbeats 100000 in
theorem ec_atJ_r6 (X : ez_X) (h : ez_H) (n : Nat) (p : Nat) (i : Int32) (f : Nat → Int64) (cz kz : Nat) : ∀ G : ez_F, fx_up X 2 G 4 10 [.ref p, .int i] [] h cz kz = G 4 12 [.ref p, .int i] [.int i, .ref p] h cz kz := by
  intro G
  rfl
set_option maxRecDepth 100000 in
set_option maxHeartbeats 100000 in
theorem ec_atJ_r7 (X : ez_X) (h : ez_H) (n : Nat) (p : Nat) (i : Int32) (f : Nat → Int64) (cz kz : Nat) : ∀ G : ez_F, fx_up X 2 G 4 13 [.ref p, .int i] [.long (f i.toNatClampNeg)] h cz kz = some (some (.long (f i.toNatClampNeg)), h, cz, kz) := by
  intro G
  rfl
theorem ec_atJ (X : ez_X) (h : ez_H) (n : Nat) (p : Nat) (i : Int32) (f : Nat → Int64) (hp : h[p]? = some (.inl (n, .inr (.inl f)))) (hn : n < 2 ^ 31) : ev_W X 4 0 (ez_lay [.ref p, .int i]) [] h 0 0 (ev_is (some (.long (ev_atJ n f i))) h) := by
  refine ev_if (ec_atJ_r1 X h n p i f _ _) (fun b1 => ?_) (fun b1 => ?_)
  · replace b1 := of_decide_eq_true b1
    refine ev_ret (ec_atJ_r2 X h n p i f _ _) ?_
    exact ⟨by rw [ev_atJ, if_pos b1], rfl, rfl, rfl⟩
  · replace b1 := of_decide_eq_false b1
    refine ev_seg (ec_atJ_r3 X h n p i f _ _) ?_
    refine ev_alenJ (n := n) (by rfl) hp ?_
    refine ev_if (ec_atJ_r4 X h n p i f _ _) (fun b2 => ?_) (fun b2 => ?_)
    · replace b2 := of_decide_eq_true b2
      refine ev_ret (ec_atJ_r5 X h n p i f _ _) ?_
      exact ⟨by rw [ev_atJ, if_neg b1, if_pos b2], rfl, rfl, rfl⟩
    · replace b2 := of_decide_eq_false b2
      refine ev_seg (ec_atJ_r6 X h n p i f _ _) ?_
      refine ev_lald (by rfl) hp (ev_ix_of hn b1 b2) ?_
      refine ev_ret (ec_atJ_r7 X h n p i f _ _) ?_
      exact ⟨by rw [ev_atJ, if_neg b1, if_neg b2], rfl, rfl, rfl⟩
set_option maxRecDepth 100000 in
set_option maxHeartbeats 100000 in
theorem ec_put_r1 (X : ez_X) (h : ez_H) (n : Nat) (p : Nat) (i : Int32) (x : Int32) (f : Nat → Int32) (cz kz : Nat) : ∀ G : ez_F, fx_up X 2 G 38 0 [.ref p, .int i, .int x] [] h cz kz = bif decide (i < 0) then G 38 14 [.ref p, .int i, .int x] [] h cz kz else G 38 4 [.ref p, .int i, .int x] [] h cz kz := by
  intro G
  rfl
set_option maxRecDepth 100000 in
set_option maxHeartbeats 100000 in
theorem ec_put_r2 (X : ez_X) (h : ez_H) (n : Nat) (p : Nat) (i : Int32) (x : Int32) (f : Nat → Int32) (cz kz : Nat) : ∀ G : ez_F, fx_up X 1 G 38 14 [.ref p, .int i, .int x] [] h cz kz = some (none, h, cz, kz) := by
  intro G
  rfl
set_option maxRecDepth 100000 in
set_option maxHeartbeats 100000 in
theorem ec_put_r3 (X : ez_X) (h : ez_H) (n : Nat) (p : Nat) (i : Int32) (x : Int32) (f : Nat → Int32) (cz kz : Nat) : ∀ G : ez_F, fx_up X 2 G 38 4 [.ref p, .int i, .int x] [] h cz kz = G 38 6 [.ref p, .int i, .int x] [.ref p, .int i] h cz kz := by
  intro G
  rfl
set_option maxRecDepth 100000 in
set_option maxHeartbeats 100000 in
theorem ec_put_r4 (X : ez_X) (h : ez_H) (n : Nat) (p : Nat) (i : Int32) (x : Int32) (f : Nat → Int32) (cz kz : Nat) : ∀ G : ez_F, fx_up X 1 G 38 7 [.ref p, .int i, .int x] [.int (Int32.ofNat n), .int i] h cz kz = bif decide ((Int32.ofNat n) ≤ i) then G 38 14 [.ref p, .int i, .int x] [] h cz kz else G 38 10 [.ref p, .int i, .int x] [] h cz kz := by
  intro G
  rfl
set_option maxRecDepth 100000 in
set_option maxHeartbeats 100000 in
theorem ec_put_r5 (X : ez_X) (h : ez_H) (n : Nat) (p : Nat) (i : Int32) (x : Int32) (f : Nat → Int32) (cz kz : Nat) : ∀ G : ez_F, fx_up X 1 G 38 14 [.ref p, .int i, .int x] [] h cz kz = some (none, h, cz, kz) := by
  intro G
  rfl
set_option maxRecDepth 100000 in
set_option maxHeartbeats 100000 in
theorem ec_put_r6 (X : ez_X) (h : ez_H) (n : Nat) (p : Nat) (i : Int32) (x : Int32) (f : Nat → Int32) (cz kz : Nat) : ∀ G : ez_F, fx_up X 3 G 38 10 [.ref p, .int i, .int x] [] h cz kz = G 38 13 [.ref p, .int i, .int x] [.int x, .int i, .ref p] h cz kz := by
  intro G
  rfl
set_option maxRecDepth 100000 in
set_option maxHeartbeats 100000 in
theorem ec_put_r7 (X : ez_X) (h : ez_H) (n : Nat) (p : Nat) (i : Int32) (x : Int32) (f : Nat → Int32) (cz kz : Nat) : ∀ G : ez_F, fx_up X 1 G 38 14 [.ref p, .int i, .int x] [] (h.set p (.inl (n, .inl (upd f i.toNatClampNeg x)))) cz kz = some (none, (h.set p (.inl (n, .inl (upd f i.toNatClampNeg x)))), cz, kz) := by
  intro G
  rfl
theorem ec_put (X : ez_X) (h : ez_H) (n : Nat) (p : Nat) (i : Int32) (x : Int32) (f : Nat → Int32) (hp : h[p]? = some (.inl (n, .inl f))) (hn : n < 2 ^ 31) : ev_W X 38 0 (ez_lay [.ref p, .int i, .int x]) [] h 0 0 (ev_is none (h.set p (.inl (n, .inl (ev_put n f i x))))) := by
  refine ev_if (ec_put_r1 X h n p i x f _ _) (fun b1 => ?_) (fun b1 => ?_)
  · replace b1 := of_decide_eq_true b1
    refine ev_ret (ec_put_r2 X h n p i x f _ _) ?_
    exact ⟨rfl, by rw [ev_put, if_pos b1] <;> exact (ev_set_self hp).symm, rfl, rfl⟩
  · replace b1 := of_decide_eq_false b1
    refine ev_seg (ec_put_r3 X h n p i x f _ _) ?_
    refine ev_alenI (n := n) (by rfl) hp ?_
    refine ev_if (ec_put_r4 X h n p i x f _ _) (fun b2 => ?_) (fun b2 => ?_)
    · replace b2 := of_decide_eq_true b2
      refine ev_ret (ec_put_r5 X h n p i x f _ _) ?_
      exact ⟨rfl, by rw [ev_put, if_neg b1, if_pos b2] <;> exact (ev_set_self hp).symm, rfl, rfl⟩
    · replace b2 := of_decide_eq_false b2
      refine ev_seg (ec_put_r6 X h n p i x f _ _) ?_
      refine ev_iast (by rfl) hp (ev_ix_of hn b1 b2) ?_
      refine ev_ret (ec_put_r7 X h n p i x f _ _) ?_
      exact ⟨rfl, by rw [ev_put, if_neg b1, if_neg b2] <;> exact (ev_set_self hp).symm, rfl, rfl⟩
set_option maxRecDepth 100000 in
set_option maxHeartbeats 100000 in
theorem ec_putJ_r1 (X : ez_X) (h : ez_H) (n : Nat) (p : Nat) (i : Int32) (x : Int64) (f : Nat → Int64) (cz kz : Nat) : ∀ G : ez_F, fx_up X 2 G 39 0 [.ref p, .int i, .long x, ez_fill] [] h cz kz = bif decide (i < 0) then G 39 14 [.ref p, .int i, .long x, ez_fill] [] h cz kz else G 39 4 [.ref p, .int i, .long x, ez_fill] [] h cz kz := by
  intro G
  rfl
set_option maxRecDepth 100000 in
set_option maxHeartbeats 100000 in
theorem ec_putJ_r2 (X : ez_X) (h : ez_H) (n : Nat) (p : Nat) (i : Int32) (x : Int64) (f : Nat → Int64) (cz kz : Nat) : ∀ G : ez_F, fx_up X 1 G 39 14 [.ref p, .int i, .long x, ez_fill] [] h cz kz = some (none, h, cz, kz) := by
  intro G
  rfl
set_option maxRecDepth 100000 in
set_option maxHeartbeats 100000 in
theorem ec_putJ_r3 (X : ez_X) (h : ez_H) (n : Nat) (p : Nat) (i : Int32) (x : Int64) (f : Nat → Int64) (cz kz : Nat) : ∀ G : ez_F, fx_up X 2 G 39 4 [.ref p, .int i, .long x, ez_fill] [] h cz kz = G 39 6 [.ref p, .int i, .long x, ez_fill] [.ref p, .int i] h cz kz := by
  intro G
  rfl
set_option maxRecDepth 100000 in
set_option maxHeartbeats 100000 in
theorem ec_putJ_r4 (X : ez_X) (h : ez_H) (n : Nat) (p : Nat) (i : Int32) (x : Int64) (f : Nat → Int64) (cz kz : Nat) : ∀ G : ez_F, fx_up X 1 G 39 7 [.ref p, .int i, .long x, ez_fill] [.int (Int32.ofNat n), .int i] h cz kz = bif decide ((Int32.ofNat n) ≤ i) then G 39 14 [.ref p, .int i, .long x, ez_fill] [] h cz kz else G 39 10 [.ref p, .int i, .long x, ez_fill] [] h cz kz := by
  intro G
  rfl
set_option maxRecDepth 100000 in
set_option maxHeartbeats 100000 in
theorem ec_putJ_r5 (X : ez_X) (h : ez_H) (n : Nat) (p : Nat) (i : Int32) (x : Int64) (f : Nat → Int64) (cz kz : Nat) : ∀ G : ez_F, fx_up X 1 G 39 14 [.ref p, .int i, .long x, ez_fill] [] h cz kz = some (none, h, cz, kz) := by
  intro G
  rfl
set_option maxRecDepth 100000 in
set_option maxHeartbeats 100000 in
theorem ec_putJ_r6 (X : ez_X) (h : ez_H) (n : Nat) (p : Nat) (i : Int32) (x : Int64) (f : Nat → Int64) (cz kz : Nat) : ∀ G : ez_F, fx_up X 3 G 39 10 [.ref p, .int i, .long x, ez_fill] [] h cz kz = G 39 13 [.ref p, .int i, .long x, ez_fill] [.long x, .int i, .ref p] h cz kz := by
  intro G
  rfl
set_option maxRecDepth 100000 in
set_option maxHeartbeats 100000 in
theorem ec_putJ_r7 (X : ez_X) (h : ez_H) (n : Nat) (p : Nat) (i : Int32) (x : Int64) (f : Nat → Int64) (cz kz : Nat) : ∀ G : ez_F, fx_up X 1 G 39 14 [.ref p, .int i, .long x, ez_fill] [] (h.set p (.inl (n, .inr (.inl (vp_updL f i.toNatClampNeg x))))) cz kz = some (none, (h.set p (.inl (n, .inr (.inl (vp_updL f i.toNatClampNeg x))))), cz, kz) := by
  intro G
  rfl
theorem ec_putJ (X : ez_X) (h : ez_H) (n : Nat) (p : Nat) (i : Int32) (x : Int64) (f : Nat → Int64) (hp : h[p]? = some (.inl (n, .inr (.inl f)))) (hn : n < 2 ^ 31) : ev_W X 39 0 (ez_lay [.ref p, .int i, .long x]) [] h 0 0 (ev_is none (h.set p (.inl (n, .inr (.inl (ev_putJ n f i x)))))) := by
  refine ev_if (ec_putJ_r1 X h n p i x f _ _) (fun b1 => ?_) (fun b1 => ?_)
  · replace b1 := of_decide_eq_true b1
    refine ev_ret (ec_putJ_r2 X h n p i x f _ _) ?_
    exact ⟨rfl, by rw [ev_putJ, if_pos b1] <;> exact (ev_set_self hp).symm, rfl, rfl⟩
  · replace b1 := of_decide_eq_false b1
    refine ev_seg (ec_putJ_r3 X h n p i x f _ _) ?_
    refine ev_alenJ (n := n) (by rfl) hp ?_
    refine ev_if (ec_putJ_r4 X h n p i x f _ _) (fun b2 => ?_) (fun b2 => ?_)
    · replace b2 := of_decide_eq_true b2
      refine ev_ret (ec_putJ_r5 X h n p i x f _ _) ?_
      exact ⟨rfl, by rw [ev_putJ, if_neg b1, if_pos b2] <;> exact (ev_set_self hp).symm, rfl, rfl⟩
    · replace b2 := of_decide_eq_false b2
      refine ev_seg (ec_putJ_r6 X h n p i x f _ _) ?_
      refine ev_last (by rfl) hp (ev_ix_of hn b1 b2) ?_
      refine ev_ret (ec_putJ_r7 X h n p i x f _ _) ?_
      exact ⟨rfl, by rw [ev_putJ, if_neg b1, if_neg b2] <;> exact (ev_set_self hp).symm, rfl, rfl⟩
