/-! What the answer of plain says, whatever is called. -/
theorem pl_hit_r (I : Nat → Nat → Int32) (set : Int64) (cell : Int32) (called : Int64) : pl_hit I set cell called = 1 ∨ pl_hit I set cell called = 2 := by
  unfold pl_hit
  split
  · split
    · split
      · exact Or.inr rfl
      · exact Or.inl rfl
    · exact Or.inl rfl
  · exact Or.inl rfl
theorem pl_F_r (I : Nat → Nat → Int32) (J : Nat → Nat → Int64) (k cell : Int32) (called : Int64) : ∀ (r : Nat) (s : Int32), pl_F I J k cell called r s = 0 ∨ pl_F I J k cell called r s = 1 ∨ pl_F I J k cell called r s = 2 := by
  intro r
  induction r with
  | zero => exact fun s => Or.inl rfl
  | succ r ih =>
    intro s
    unfold pl_F
    split
    · exact ih (s + 1)
    · exact Or.inr (pl_hit_r I _ cell called)
/-- called already: it says whether a ship has the cell, and nothing of what else is called -/
theorem pl_F_called (I : Nat → Nat → Int32) (J : Nat → Nat → Int64) (k cell : Int32) (c1 c2 : Int64) (h1 : ev_has c1 cell ≠ 0) (h2 : ev_has c2 cell ≠ 0) : ∀ (r : Nat) (s : Int32), pl_F I J k cell c1 r s = pl_F I J k cell c2 r s := by
  intro r
  induction r with
  | zero => exact fun s => rfl
  | succ r ih =>
    intro s
    unfold pl_F
    split
    · exact ih (s + 1)
    · unfold pl_hit
      rw [if_neg h1, if_neg h2]
/-- two layings that plain answers the same, whatever was called, agree on a cell once it is called -/
theorem pl_F_agree (I : Nat → Nat → Int32) (J : Nat → Nat → Int64) (cell : Int32) (cd cd2 : Int64) (h2 : ev_has cd2 cell ≠ 0) : ∀ (r : Nat) (a b s : Int32), (pl_F I J a cell cd r s = 0 ↔ pl_F I J a cell cd2 r s = 0) := by
  intro r
  induction r with
  | zero => exact fun _ _ s => Iff.rfl
  | succ r ih =>
    intro a b s
    unfold pl_F
    split
    · exact ih a b (s + 1)
    · constructor
      · intro z
        rcases pl_hit_r I (pl_set I J a s) cell cd with e | e <;> rw [e] at z <;> exact absurd z (by decide)
      · intro z
        rcases pl_hit_r I (pl_set I J a s) cell cd2 with e | e <;> rw [e] at z <;> exact absurd z (by decide)
