/-! Calls on new objects that the kernel runs. -/
set_option maxRecDepth 1000000 in
theorem ek_there : ∀ xs, (([0, 1, 2, 3, 4, 5, 6, 7, 8, 9, 10, 11, 12, 13, 14, 15, 16, 17, 18, 19, 20, 21, 22, 23, 24] : List Int).all fun a => ev_chk (ev_x1 xs a) 683) = true := ev_all (fun xs => ([0, 1, 2, 3, 4, 5, 6, 7, 8, 9, 10, 11, 12, 13, 14, 15, 16, 17, 18, 19, 20, 21, 22, 23, 24] : List Int).all fun a => ev_chk (ev_x1 xs a) 683) (by decide +kernel)
set_option maxRecDepth 1000000 in
theorem ek_part0 : ∀ xs, (([0, 1, 2, 3, 4] : List Int).all fun a => ([0, 1, 2] : List Int).all fun b => ev_chk (ev_x2 xs a b) 730) = true := ev_all (fun xs => ([0, 1, 2, 3, 4] : List Int).all fun a => ([0, 1, 2] : List Int).all fun b => ev_chk (ev_x2 xs a b) 730) (by decide +kernel)
set_option maxRecDepth 1000000 in
theorem ek_part5 : ∀ xs, (([5, 6, 7, 8, 9] : List Int).all fun a => ([0, 1, 2] : List Int).all fun b => ev_chk (ev_x2 xs a b) 730) = true := ev_all (fun xs => ([5, 6, 7, 8, 9] : List Int).all fun a => ([0, 1, 2] : List Int).all fun b => ev_chk (ev_x2 xs a b) 730) (by decide +kernel)
set_option maxRecDepth 1000000 in
theorem ek_part10 : ∀ xs, (([10, 11, 12, 13, 14] : List Int).all fun a => ([0, 1, 2] : List Int).all fun b => ev_chk (ev_x2 xs a b) 730) = true := ev_all (fun xs => ([10, 11, 12, 13, 14] : List Int).all fun a => ([0, 1, 2] : List Int).all fun b => ev_chk (ev_x2 xs a b) 730) (by decide +kernel)
set_option maxRecDepth 1000000 in
theorem ek_part15 : ∀ xs, (([15, 16, 17, 18, 19] : List Int).all fun a => ([0, 1, 2] : List Int).all fun b => ev_chk (ev_x2 xs a b) 730) = true := ev_all (fun xs => ([15, 16, 17, 18, 19] : List Int).all fun a => ([0, 1, 2] : List Int).all fun b => ev_chk (ev_x2 xs a b) 730) (by decide +kernel)
set_option maxRecDepth 1000000 in
theorem ek_part20 : ∀ xs, (([20, 21, 22, 23, 24] : List Int).all fun a => ([0, 1, 2] : List Int).all fun b => ev_chk (ev_x2 xs a b) 730) = true := ev_all (fun xs => ([20, 21, 22, 23, 24] : List Int).all fun a => ([0, 1, 2] : List Int).all fun b => ev_chk (ev_x2 xs a b) 730) (by decide +kernel)
