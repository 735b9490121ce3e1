/-! The best salvo of new objects. -/
theorem eo_bestSalvo_0 (xs : Nat → Int32) : ev_P1 (ev_x1 xs 0) 786 := sorry
theorem eo_bestSalvo_1 (xs : Nat → Int32) : ev_P1 (ev_x1 xs 1) 786 := sorry
theorem eo_bestSalvo_2 (xs : Nat → Int32) : ev_P1 (ev_x1 xs 2) 786 := sorry
