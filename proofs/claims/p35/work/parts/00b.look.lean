/-! The words, each by its table and its place there. -/
/-- all words but those on private methods (their selection stands beside) -/
def ez_fine : Cond → Bool
  | .privateMethod _ => false
  | _ => true
/-- the words that the machine stands on -/
def ez_tb : List Cond := lw_tbl.filter ez_fine
def ez_pt (q : Nat) : List Cond := bif Nat.beq q 0 then k2_sels lw_privs else bif Nat.beq q 1 then tables_1_1 else bif Nat.beq q 2 then tables_1_2 else bif Nat.beq q 3 then tables_1_3 else bif Nat.beq q 4 then tables_1_4 else bif Nat.beq q 5 then tables_1_5 else bif Nat.beq q 6 then tables_1_6 else bif Nat.beq q 7 then tables_1_7 else []
theorem ez_pt_if {b : Bool} {l1 l2 : List Cond} {x : Cond} (h : x ∈ (bif b then l1 else l2)) : x ∈ l1 ∨ x ∈ l2 := by
  cases b
  · exact Or.inr h
  · exact Or.inl h
theorem ez_pt_in {q : Nat} {x : Cond} (h : x ∈ ez_pt q) : x ∈ lw_tbl := by
  unfold ez_pt at h
  rcases ez_pt_if h with h | h
  · exact List.mem_append.mpr (Or.inl h)
  rcases ez_pt_if h with h | h
  · exact List.mem_append.mpr (Or.inr (show x ∈ tables_1 from List.mem_append.mpr (Or.inl h)))
  rcases ez_pt_if h with h | h
  · exact List.mem_append.mpr (Or.inr (show x ∈ tables_1 from List.mem_append.mpr (Or.inr (List.mem_append.mpr (Or.inl h)))))
  rcases ez_pt_if h with h | h
  · exact List.mem_append.mpr (Or.inr (show x ∈ tables_1 from List.mem_append.mpr (Or.inr (List.mem_append.mpr (Or.inr (List.mem_append.mpr (Or.inl h)))))))
  rcases ez_pt_if h with h | h
  · exact List.mem_append.mpr (Or.inr (show x ∈ tables_1 from List.mem_append.mpr (Or.inr (List.mem_append.mpr (Or.inr (List.mem_append.mpr (Or.inr (List.mem_append.mpr (Or.inl h)))))))))
  rcases ez_pt_if h with h | h
  · exact List.mem_append.mpr (Or.inr (show x ∈ tables_1 from List.mem_append.mpr (Or.inr (List.mem_append.mpr (Or.inr (List.mem_append.mpr (Or.inr (List.mem_append.mpr (Or.inr (List.mem_append.mpr (Or.inl h)))))))))))
  rcases ez_pt_if h with h | h
  · exact List.mem_append.mpr (Or.inr (show x ∈ tables_1 from List.mem_append.mpr (Or.inr (List.mem_append.mpr (Or.inr (List.mem_append.mpr (Or.inr (List.mem_append.mpr (Or.inr (List.mem_append.mpr (Or.inr (List.mem_append.mpr (Or.inl h)))))))))))))
  rcases ez_pt_if h with h | h
  · exact List.mem_append.mpr (Or.inr (show x ∈ tables_1 from List.mem_append.mpr (Or.inr (List.mem_append.mpr (Or.inr (List.mem_append.mpr (Or.inr (List.mem_append.mpr (Or.inr (List.mem_append.mpr (Or.inr (List.mem_append.mpr (Or.inr (h))))))))))))))
  · cases h
