/-! Calls on new objects that the kernel runs. -/
set_option maxRecDepth 1000000 in
theorem ek_bestSalvo0 : ∀ xs, (([0] : List Int).all fun a => ev_chk (ev_x1 xs a) 786) = true := ev_all (fun xs => ([0] : List Int).all fun a => ev_chk (ev_x1 xs a) 786) (by decide +kernel)
set_option maxRecDepth 1000000 in
theorem ek_bestSalvo1 : ∀ xs, (([1] : List Int).all fun a => ev_chk (ev_x1 xs a) 786) = true := ev_all (fun xs => ([1] : List Int).all fun a => ev_chk (ev_x1 xs a) 786) (by decide +kernel)
set_option maxRecDepth 1000000 in
theorem ek_bestSalvo2 : ∀ xs, (([2] : List Int).all fun a => ev_chk (ev_x1 xs a) 786) = true := ev_all (fun xs => ([2] : List Int).all fun a => ev_chk (ev_x1 xs a) 786) (by decide +kernel)
