/-! Yet to be proved. -/
theorem cv_SquaredShipsModel_needOf : cx_valid cx_B0 213 ck_SquaredShipsModel_needOf := sorry
theorem cv_SquaredShipsModel_findNeeds : cx_valid cx_B0 189 ck_SquaredShipsModel_findNeeds := sorry
