/-! Calls on new objects that the kernel runs. -/
set_option maxRecDepth 1000000 in
theorem ek_layings : ∀ xs, ev_chk (4, xs) 399 = true := ev_all (fun xs => ev_chk (4, xs) 399) (by decide +kernel)
set_option maxRecDepth 1000000 in
theorem ek_back : ∀ xs, ev_chk (4, xs) 557 = true := ev_all (fun xs => ev_chk (4, xs) 557) (by decide +kernel)
set_option maxRecDepth 1000000 in
theorem ek_left : ∀ xs, ev_chk (4, xs) 647 = true := ev_all (fun xs => ev_chk (4, xs) 647) (by decide +kernel)
set_option maxRecDepth 1000000 in
theorem ek_stray : ∀ xs, ev_chk (4, xs) 888 = true := ev_all (fun xs => ev_chk (4, xs) 888) (by decide +kernel)
set_option maxRecDepth 1000000 in
theorem ek_blame : ∀ xs, ev_chk (4, xs) 901 = true := ev_all (fun xs => ev_chk (4, xs) 901) (by decide +kernel)
set_option maxRecDepth 1000000 in
theorem ek_blamed : ∀ xs, ev_chk (4, xs) 914 = true := ev_all (fun xs => ev_chk (4, xs) 914) (by decide +kernel)
set_option maxRecDepth 1000000 in
theorem ek_fitting : ∀ xs, ev_chk (4, xs) 1016 = true := ev_all (fun xs => ev_chk (4, xs) 1016) (by decide +kernel)
set_option maxRecDepth 1000000 in
theorem ek_none : ∀ xs, ev_chk (4, xs) 1075 = true := ev_all (fun xs => ev_chk (4, xs) 1075) (by decide +kernel)
set_option maxRecDepth 1000000 in
theorem ek_set0 : ∀ xs, (([0, 2] : List Int).all fun a => ([0, 1, 2] : List Int).all fun b => ev_chk (ev_x2 xs a b) 276) = true := ev_all (fun xs => ([0, 2] : List Int).all fun a => ([0, 1, 2] : List Int).all fun b => ev_chk (ev_x2 xs a b) 276) (by decide +kernel)
set_option maxRecDepth 1000000 in
theorem ek_set1 : ∀ xs, (([1] : List Int).all fun a => ([0, 1] : List Int).all fun b => ev_chk (ev_x2 xs a b) 276) = true := ev_all (fun xs => ([1] : List Int).all fun a => ([0, 1] : List Int).all fun b => ev_chk (ev_x2 xs a b) 276) (by decide +kernel)
set_option maxRecDepth 1000000 in
theorem ek_drift : ∀ xs, (([(-1), 0, 1] : List Int).all fun a => ([(-1), 0, 1] : List Int).all fun b => ev_chk (ev_x2 xs a b) 309) = true := ev_all (fun xs => ([(-1), 0, 1] : List Int).all fun a => ([(-1), 0, 1] : List Int).all fun b => ev_chk (ev_x2 xs a b) 309) (by decide +kernel)
set_option maxRecDepth 1000000 in
theorem ek_call : ∀ xs, (([0, 1, 2, 3, 4, 5, 6, 7, 8, 9, 10, 11, 12, 13, 14, 15, 16, 17, 18, 19, 20, 21, 22, 23, 24] : List Int).all fun a => ev_chk (ev_x1 xs a) 445) = true := ev_all (fun xs => ([0, 1, 2, 3, 4, 5, 6, 7, 8, 9, 10, 11, 12, 13, 14, 15, 16, 17, 18, 19, 20, 21, 22, 23, 24] : List Int).all fun a => ev_chk (ev_x1 xs a) 445) (by decide +kernel)
set_option maxRecDepth 1000000 in
theorem ek_many : ∀ xs, (([0, 1, 2, 3, 4] : List Int).all fun a => ev_chk (ev_x1 xs a) 1052) = true := ev_all (fun xs => ([0, 1, 2, 3, 4] : List Int).all fun a => ev_chk (ev_x1 xs a) 1052) (by decide +kernel)
set_option maxRecDepth 1000000 in
theorem ek_count : ∀ xs, (([0, 1, 2, 3, 4, 5, 6, 7, 8, 9] : List Int).all fun a => ([0, 1, 2, 3, 4, 5, 6, 7] : List Int).all fun b => ev_chk (ev_x2 xs a b) 950) = true := ev_all (fun xs => ([0, 1, 2, 3, 4, 5, 6, 7, 8, 9] : List Int).all fun a => ([0, 1, 2, 3, 4, 5, 6, 7] : List Int).all fun b => ev_chk (ev_x2 xs a b) 950) (by decide +kernel)
set_option maxRecDepth 1000000 in
theorem ek_which : ∀ xs, (([0] : List Int).all fun a => ev_chk (ev_x1 xs a) 660) = true := ev_all (fun xs => ([0] : List Int).all fun a => ev_chk (ev_x1 xs a) 660) (by decide +kernel)
set_option maxRecDepth 1000000 in
theorem ek_sure : ∀ xs, (([0, 1] : List Int).all fun a => ev_chk (ev_x1 xs a) 706) = true := ev_all (fun xs => ([0, 1] : List Int).all fun a => ev_chk (ev_x1 xs a) 706) (by decide +kernel)
set_option maxRecDepth 1000000 in
theorem ek_best : ∀ xs, (([0, 1] : List Int).all fun a => ev_chk (ev_x1 xs a) 763) = true := ev_all (fun xs => ([0, 1] : List Int).all fun a => ev_chk (ev_x1 xs a) 763) (by decide +kernel)
set_option maxRecDepth 1000000 in
theorem ek_need : ∀ xs, (([0] : List Int).all fun a => ev_chk (ev_x1 xs a) 809) = true := ev_all (fun xs => ([0] : List Int).all fun a => ev_chk (ev_x1 xs a) 809) (by decide +kernel)
set_option maxRecDepth 1000000 in
theorem ek_hardest : ∀ xs, (([0, 1, 2] : List Int).all fun a => ev_chk (ev_x1 xs a) 865) = true := ev_all (fun xs => ([0, 1, 2] : List Int).all fun a => ev_chk (ev_x1 xs a) 865) (by decide +kernel)
set_option maxRecDepth 1000000 in
theorem ek_switched : ∀ xs, (([0, 1] : List Int).all fun a => ev_chk (ev_x1 xs a) 927) = true := ev_all (fun xs => ([0, 1] : List Int).all fun a => ev_chk (ev_x1 xs a) 927) (by decide +kernel)
set_option maxRecDepth 1000000 in
theorem ek_rim : ∀ xs, (([0] : List Int).all fun a => ([0, 1, 2, 3, 4, 5, 6, 7, 8, 9] : List Int).all fun b => ev_chk (ev_x2 xs a b) 983) = true := ev_all (fun xs => ([0] : List Int).all fun a => ([0, 1, 2, 3, 4, 5, 6, 7, 8, 9] : List Int).all fun b => ev_chk (ev_x2 xs a b) 983) (by decide +kernel)
set_option maxRecDepth 1000000 in
theorem ek_salvo0 : ∀ xs, (([0, 1, 2, 3, 4] : List Int).all fun a => ([0, 1, 2, 3, 4, 5, 6, 7, 8, 9, 10, 11, 12, 13, 14, 15, 16, 17, 18, 19, 20, 21, 22, 23, 24] : List Int).all fun b => ev_chk (ev_x2 xs a b) 468) = true := ev_all (fun xs => ([0, 1, 2, 3, 4] : List Int).all fun a => ([0, 1, 2, 3, 4, 5, 6, 7, 8, 9, 10, 11, 12, 13, 14, 15, 16, 17, 18, 19, 20, 21, 22, 23, 24] : List Int).all fun b => ev_chk (ev_x2 xs a b) 468) (by decide +kernel)
set_option maxRecDepth 1000000 in
theorem ek_salvo5 : ∀ xs, (([5, 6, 7, 8, 9] : List Int).all fun a => ([0, 1, 2, 3, 4, 5, 6, 7, 8, 9, 10, 11, 12, 13, 14, 15, 16, 17, 18, 19, 20, 21, 22, 23, 24] : List Int).all fun b => ev_chk (ev_x2 xs a b) 468) = true := ev_all (fun xs => ([5, 6, 7, 8, 9] : List Int).all fun a => ([0, 1, 2, 3, 4, 5, 6, 7, 8, 9, 10, 11, 12, 13, 14, 15, 16, 17, 18, 19, 20, 21, 22, 23, 24] : List Int).all fun b => ev_chk (ev_x2 xs a b) 468) (by decide +kernel)
set_option maxRecDepth 1000000 in
theorem ek_salvo10 : ∀ xs, (([10, 11, 12, 13, 14] : List Int).all fun a => ([0, 1, 2, 3, 4, 5, 6, 7, 8, 9, 10, 11, 12, 13, 14, 15, 16, 17, 18, 19, 20, 21, 22, 23, 24] : List Int).all fun b => ev_chk (ev_x2 xs a b) 468) = true := ev_all (fun xs => ([10, 11, 12, 13, 14] : List Int).all fun a => ([0, 1, 2, 3, 4, 5, 6, 7, 8, 9, 10, 11, 12, 13, 14, 15, 16, 17, 18, 19, 20, 21, 22, 23, 24] : List Int).all fun b => ev_chk (ev_x2 xs a b) 468) (by decide +kernel)
set_option maxRecDepth 1000000 in
theorem ek_salvo15 : ∀ xs, (([15, 16, 17, 18, 19] : List Int).all fun a => ([0, 1, 2, 3, 4, 5, 6, 7, 8, 9, 10, 11, 12, 13, 14, 15, 16, 17, 18, 19, 20, 21, 22, 23, 24] : List Int).all fun b => ev_chk (ev_x2 xs a b) 468) = true := ev_all (fun xs => ([15, 16, 17, 18, 19] : List Int).all fun a => ([0, 1, 2, 3, 4, 5, 6, 7, 8, 9, 10, 11, 12, 13, 14, 15, 16, 17, 18, 19, 20, 21, 22, 23, 24] : List Int).all fun b => ev_chk (ev_x2 xs a b) 468) (by decide +kernel)
set_option maxRecDepth 1000000 in
theorem ek_salvo20 : ∀ xs, (([20, 21, 22, 23, 24] : List Int).all fun a => ([0, 1, 2, 3, 4, 5, 6, 7, 8, 9, 10, 11, 12, 13, 14, 15, 16, 17, 18, 19, 20, 21, 22, 23, 24] : List Int).all fun b => ev_chk (ev_x2 xs a b) 468) = true := ev_all (fun xs => ([20, 21, 22, 23, 24] : List Int).all fun a => ([0, 1, 2, 3, 4, 5, 6, 7, 8, 9, 10, 11, 12, 13, 14, 15, 16, 17, 18, 19, 20, 21, 22, 23, 24] : List Int).all fun b => ev_chk (ev_x2 xs a b) 468) (by decide +kernel)
