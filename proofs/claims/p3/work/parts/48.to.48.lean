section
/-! The law: its roads between the loop and the cases. -/
noncomputable def cl_head : cx_K := (([(6, 0), (2, 0), (2, 35), (0, 1)], [], [(0, 2048), (0, 2048)], [], [], []), [], [([], [(0, 2)], [(0, 2048), (0, 2048), (1, 1)], [], [], [])])
noncomputable def cl_head_A : List (Nat × cx_A) := [(184, ([(6, 0), (2, 0), (2, 35), (0, 1)], [], [(0, 2048), (0, 2044)], [(1, 0, -4)], [], []), []), (243, ([(6, 0), (2, 0), (2, 35), (0, 1)], [], [(0, 2048), (0, 2044)], [(1, 0, -4)], [], []), []), (276, ([(6, 0), (2, 0), (2, 35), (0, 1)], [], [(0, 2048), (0, 2044)], [(1, 0, -4)], [], []), []), (309, ([(6, 0), (2, 0), (2, 35), (0, 1)], [], [(0, 2048), (0, 2044)], [(1, 0, -4)], [], []), []), (342, ([(6, 0), (2, 0), (2, 35), (0, 1)], [], [(0, 2048), (0, 2044)], [(1, 0, -4)], [], []), []), (365, ([(6, 0), (2, 0), (2, 35), (0, 1)], [], [(0, 2048), (0, 2044)], [(1, 0, -4)], [], []), []), (398, ([(6, 0), (2, 0), (2, 35), (0, 1)], [], [(0, 2048), (0, 2044)], [(1, 0, -4)], [], []), []), (411, ([(6, 0), (2, 0), (2, 35), (0, 1)], [], [(0, 2048), (0, 2044)], [(1, 0, -4)], [], []), []), (444, ([(6, 0), (2, 0), (2, 35), (0, 1)], [], [(0, 2048), (0, 2044)], [(1, 0, -4)], [], []), []), (467, ([(6, 0), (2, 0), (2, 35), (0, 1)], [], [(0, 2048), (0, 2044)], [(1, 0, -4)], [], []), []), (500, ([(6, 0), (2, 0), (2, 35), (0, 1)], [], [(0, 2048), (0, 2044)], [(1, 0, -4)], [], []), []), (533, ([(6, 0), (2, 0), (2, 35), (0, 1)], [], [(0, 2048), (0, 2044)], [(1, 0, -4)], [], []), []), (556, ([(6, 0), (2, 0), (2, 35), (0, 1)], [], [(0, 2048), (0, 2044)], [(1, 0, -4)], [], []), []), (569, ([(6, 0), (2, 0), (2, 35), (0, 1)], [], [(0, 2048), (0, 2044)], [(1, 0, -4)], [], []), []), (602, ([(6, 0), (2, 0), (2, 35), (0, 1)], [], [(0, 2048), (0, 2044)], [(1, 0, -4)], [], []), []), (645, ([(6, 0), (2, 0), (2, 35), (0, 1)], [], [(0, 2048), (0, 2044)], [(1, 0, -4)], [], []), []), (658, ([(6, 0), (2, 0), (2, 35), (0, 1)], [], [(0, 2048), (0, 2044)], [(1, 0, -4)], [], []), []), (681, ([(6, 0), (2, 0), (2, 35), (0, 1)], [], [(0, 2048), (0, 2044)], [(1, 0, -4)], [], []), []), (704, ([(6, 0), (2, 0), (2, 35), (0, 1)], [], [(0, 2048), (0, 2044)], [(1, 0, -4)], [], []), []), (727, ([(6, 0), (2, 0), (2, 35), (0, 1)], [], [(0, 2048), (0, 2044)], [(1, 0, -4)], [], []), []), (760, ([(6, 0), (2, 0), (2, 35), (0, 1)], [], [(0, 2048), (0, 2044)], [(1, 0, -4)], [], []), []), (783, ([(6, 0), (2, 0), (2, 35), (0, 1)], [], [(0, 2048), (0, 2044)], [(1, 0, -4)], [], []), []), (806, ([(6, 0), (2, 0), (2, 35), (0, 1)], [], [(0, 2048), (0, 2044)], [(1, 0, -4)], [], []), []), (829, ([(6, 0), (2, 0), (2, 35), (0, 1)], [], [(0, 2048), (0, 2044)], [(1, 0, -4)], [], []), []), (862, ([(6, 0), (2, 0), (2, 35), (0, 1)], [], [(0, 2048), (0, 2044)], [(1, 0, -4)], [], []), []), (885, ([(6, 0), (2, 0), (2, 35), (0, 1)], [], [(0, 2048), (0, 2044)], [(1, 0, -4)], [], []), []), (898, ([(6, 0), (2, 0), (2, 35), (0, 1)], [], [(0, 2048), (0, 2044)], [(1, 0, -4)], [], []), []), (911, ([(6, 0), (2, 0), (2, 35), (0, 1)], [], [(0, 2048), (0, 2044)], [(1, 0, -4)], [], []), []), (924, ([(6, 0), (2, 0), (2, 35), (0, 1)], [], [(0, 2048), (0, 2044)], [(1, 0, -4)], [], []), []), (947, ([(6, 0), (2, 0), (2, 35), (0, 1)], [], [(0, 2048), (0, 2044)], [(1, 0, -4)], [], []), []), (980, ([(6, 0), (2, 0), (2, 35), (0, 1)], [], [(0, 2048), (0, 2044)], [(1, 0, -4)], [], []), []), (1013, ([(6, 0), (2, 0), (2, 35), (0, 1)], [], [(0, 2048), (0, 2044)], [(1, 0, -4)], [], []), []), (1026, ([(6, 0), (2, 0), (2, 35), (0, 1)], [], [(0, 2048), (0, 2044)], [(1, 0, -4)], [], []), []), (1049, ([(6, 0), (2, 0), (2, 35), (0, 1)], [], [(0, 2048), (0, 2044)], [(1, 0, -4)], [], []), []), (1072, ([(6, 0), (2, 0), (2, 35), (0, 1)], [], [(0, 2048), (0, 2044)], [(1, 0, -4)], [], []), [])]
noncomputable def cl_head_G : List (Nat × cx_K) := []
theorem cl_head_g : ∀ g ∈ cl_head_G, cx_valid cx_B0 g.1 g.2 := cx_Gn
set_option maxRecDepth 1000000 in
theorem cl_head_v : cx_run true cx_B0 cl_head_G cl_head 241 (cx_fAn cl_head_A) none 16 false 18 cl_head.1 = true := by decide +kernel
noncomputable def cl_none : cx_K := (([(6, 0), (2, 0), (2, 35), (0, 1)], [], [(0, 2048), (0, 2044)], [(1, 0, -4)], [], []), [], [])
noncomputable def cl_none_A : List (Nat × cx_A) := [(18, ([(6, 0), (2, 0), (2, 35), (0, 2)], [], [(0, 2048), (0, 2044), (4, 2048)], [(2, 1, 4), (1, 2, -4)], [], []), [])]
noncomputable def cl_none_G : List (Nat × cx_K) := []
theorem cl_none_g : ∀ g ∈ cl_none_G, cx_valid cx_B0 g.1 g.2 := cx_Gn
set_option maxRecDepth 1000000 in
theorem cl_none_v : cx_run true cx_B0 cl_none_G cl_none 241 (cx_fAn cl_none_A) none 6 false 1072 cl_none.1 = true := by decide +kernel
noncomputable def cl_spots : cx_K := (([(6, 0), (2, 0), (2, 35), (0, 1)], [], [(0, 2048), (0, 2044)], [(1, 0, -4)], [], []), [(38, 999), (39, 999), (40, 999)], [])
noncomputable def cl_spots_A : List (Nat × cx_A) := [(18, ([(6, 0), (2, 0), (2, 35), (0, 2)], [], [(0, 2048), (0, 2044), (4, 2048)], [(2, 1, 4), (1, 2, -4)], [], []), [])]
noncomputable def cl_spots_G : List (Nat × cx_K) := [(46, ck_46_0), (223, ck_223_0)]
theorem cl_spots_g : ∀ g ∈ cl_spots_G, cx_valid cx_B0 g.1 g.2 := (cx_Gc cv_46_0 (cx_Gc cv_223_0 cx_Gn))
set_option maxRecDepth 1000000 in
theorem cl_spots_v : cx_run true cx_B0 cl_spots_G cl_spots 241 (cx_fAn cl_spots_A) none 23 false 342 cl_spots.1 = true := by decide +kernel
noncomputable def cl_spot : cx_K := (([(6, 0), (2, 0), (2, 35), (0, 1)], [], [(0, 2048), (0, 2044)], [(1, 0, -4)], [], []), [(38, 999), (39, 999), (40, 999)], [])
noncomputable def cl_spot_A : List (Nat × cx_A) := [(18, ([(6, 0), (2, 0), (2, 35), (0, 2)], [], [(0, 2048), (0, 2044), (4, 2048)], [(2, 1, 4), (1, 2, -4)], [], []), [])]
noncomputable def cl_spot_G : List (Nat × cx_K) := [(44, ck_44_0), (222, ck_222_0)]
theorem cl_spot_g : ∀ g ∈ cl_spot_G, cx_valid cx_B0 g.1 g.2 := (cx_Gc cv_44_0 (cx_Gc cv_222_0 cx_Gn))
set_option maxRecDepth 1000000 in
theorem cl_spot_v : cx_run true cx_B0 cl_spot_G cl_spot 241 (cx_fAn cl_spot_A) none 33 false 365 cl_spot.1 = true := by decide +kernel
noncomputable def cl_layings : cx_K := (([(6, 0), (2, 0), (2, 35), (0, 1)], [], [(0, 2048), (0, 2044)], [(1, 0, -4)], [], []), [(6, 3), (6, 4), (35, 14), (38, 999), (39, 999), (40, 999), (41, 999)], [])
noncomputable def cl_layings_A : List (Nat × cx_A) := [(18, ([(6, 0), (2, 0), (2, 35), (0, 2)], [], [(0, 2048), (0, 2044), (4, 2048)], [(2, 1, 4), (1, 2, -4)], [], []), [])]
noncomputable def cl_layings_G : List (Nat × cx_K) := [(27, ck_27_0), (206, ck_206_0)]
theorem cl_layings_g : ∀ g ∈ cl_layings_G, cx_valid cx_B0 g.1 g.2 := (cx_Gc cv_27_0 (cx_Gc cv_206_0 cx_Gn))
set_option maxRecDepth 1000000 in
theorem cl_layings_v : cx_run true cx_B0 cl_layings_G cl_layings 241 (cx_fAn cl_layings_A) none 13 false 398 cl_layings.1 = true := by decide +kernel
noncomputable def cl_laid : cx_K := (([(6, 0), (2, 0), (2, 35), (0, 1)], [], [(0, 2048), (0, 2044)], [(1, 0, -4)], [], []), [(6, 3), (6, 4), (35, 14), (38, 999), (39, 999), (40, 999), (41, 999)], [])
noncomputable def cl_laid_A : List (Nat × cx_A) := [(18, ([(6, 0), (2, 0), (2, 35), (0, 2)], [], [(0, 2048), (0, 2044), (4, 2048)], [(2, 1, 4), (1, 2, -4)], [], []), [])]
noncomputable def cl_laid_G : List (Nat × cx_K) := [(26, ck_26_0), (205, ck_205_0)]
theorem cl_laid_g : ∀ g ∈ cl_laid_G, cx_valid cx_B0 g.1 g.2 := (cx_Gc cv_26_0 (cx_Gc cv_205_0 cx_Gn))
set_option maxRecDepth 1000000 in
theorem cl_laid_v : cx_run true cx_B0 cl_laid_G cl_laid 241 (cx_fAn cl_laid_A) none 33 false 411 cl_laid.1 = true := by decide +kernel
noncomputable def cl_answer : cx_K := (([(6, 0), (2, 0), (2, 35), (0, 1)], [], [(0, 2048), (0, 2044)], [(1, 0, -4)], [], []), [(8, 2), (8, 3), (13, 9), (20, 3), (44, 999)], [])
noncomputable def cl_answer_A : List (Nat × cx_A) := [(18, ([(6, 0), (2, 0), (2, 35), (0, 2)], [], [(0, 2048), (0, 2044), (4, 2048)], [(2, 1, 4), (1, 2, -4)], [], []), [])]
noncomputable def cl_answer_G : List (Nat × cx_K) := [(1, ck_1_0), (166, ck_166_0)]
theorem cl_answer_g : ∀ g ∈ cl_answer_G, cx_valid cx_B0 g.1 g.2 := (cx_Gc cv_1_0 (cx_Gc cv_166_0 cx_Gn))
set_option maxRecDepth 1000000 in
theorem cl_answer_v : cx_run true cx_B0 cl_answer_G cl_answer 241 (cx_fAn cl_answer_A) none 33 false 500 cl_answer.1 = true := by decide +kernel
noncomputable def cl_lose : cx_K := (([(6, 0), (2, 0), (2, 35), (0, 1)], [], [(0, 2048), (0, 2044)], [(1, 0, -4)], [], []), [(8, 2), (8, 3), (13, 9), (20, 3), (44, 999)], [])
noncomputable def cl_lose_A : List (Nat × cx_A) := [(18, ([(6, 0), (2, 0), (2, 35), (0, 2)], [], [(0, 2048), (0, 2044), (4, 2048)], [(2, 1, 4), (1, 2, -4)], [], []), [])]
noncomputable def cl_lose_G : List (Nat × cx_K) := [(32, ck_32_0), (209, ck_209_0)]
theorem cl_lose_g : ∀ g ∈ cl_lose_G, cx_valid cx_B0 g.1 g.2 := (cx_Gc cv_32_0 (cx_Gc cv_209_0 cx_Gn))
set_option maxRecDepth 1000000 in
theorem cl_lose_v : cx_run true cx_B0 cl_lose_G cl_lose 241 (cx_fAn cl_lose_A) none 23 false 533 cl_lose.1 = true := by decide +kernel
noncomputable def cl_truth : cx_K := (([(6, 0), (2, 0), (2, 35), (0, 1)], [], [(0, 2048), (0, 2044)], [(1, 0, -4)], [], []), [(6, 3), (6, 4), (11, 999), (12, 999), (35, 14), (38, 999), (39, 999), (40, 999), (41, 999), (45, 999), (46, 999), (47, 999), (48, 999)], [])
noncomputable def cl_truth_A : List (Nat × cx_A) := [(18, ([(6, 0), (2, 0), (2, 35), (0, 2)], [], [(0, 2048), (0, 2044), (4, 2048)], [(2, 1, 4), (1, 2, -4)], [], []), [])]
noncomputable def cl_truth_G : List (Nat × cx_K) := [(53, ck_53_0), (229, ck_229_0)]
theorem cl_truth_g : ∀ g ∈ cl_truth_G, cx_valid cx_B0 g.1 g.2 := (cx_Gc cv_53_0 (cx_Gc cv_229_0 cx_Gn))
set_option maxRecDepth 1000000 in
theorem cl_truth_v : cx_run true cx_B0 cl_truth_G cl_truth 241 (cx_fAn cl_truth_A) none 33 false 569 cl_truth.1 = true := by decide +kernel
noncomputable def cl_lies : cx_K := (([(6, 0), (2, 0), (2, 35), (0, 1)], [], [(0, 2048), (0, 2044)], [(1, 0, -4)], [], []), [(6, 3), (6, 4), (11, 999), (12, 999), (35, 14), (38, 999), (39, 999), (40, 999), (41, 999), (45, 999), (46, 999), (47, 999), (48, 999)], [])
noncomputable def cl_lies_A : List (Nat × cx_A) := [(18, ([(6, 0), (2, 0), (2, 35), (0, 2)], [], [(0, 2048), (0, 2044), (4, 2048)], [(2, 1, 4), (1, 2, -4)], [], []), [])]
noncomputable def cl_lies_G : List (Nat × cx_K) := [(31, ck_31_0), (208, ck_208_0)]
theorem cl_lies_g : ∀ g ∈ cl_lies_G, cx_valid cx_B0 g.1 g.2 := (cx_Gc cv_31_0 (cx_Gc cv_208_0 cx_Gn))
set_option maxRecDepth 1000000 in
theorem cl_lies_v : cx_run true cx_B0 cl_lies_G cl_lies 241 (cx_fAn cl_lies_A) none 43 false 602 cl_lies.1 = true := by decide +kernel
noncomputable def cl_left : cx_K := (([(6, 0), (2, 0), (2, 35), (0, 1)], [], [(0, 2048), (0, 2044)], [(1, 0, -4)], [], []), [(6, 3), (6, 4), (11, 999), (12, 999), (13, 8), (13, 9), (14, 2), (15, 999), (16, 999), (35, 14), (35, 24), (38, 999), (39, 999), (40, 999), (41, 999), (45, 999), (46, 999), (47, 999), (48, 999), (49, 999), (50, 999), (51, 999)], [])
noncomputable def cl_left_A : List (Nat × cx_A) := [(18, ([(6, 0), (2, 0), (2, 35), (0, 2)], [], [(0, 2048), (0, 2044), (4, 2048)], [(2, 1, 4), (1, 2, -4)], [], []), [])]
noncomputable def cl_left_G : List (Nat × cx_K) := [(29, ck_29_0), (207, ck_207_0)]
theorem cl_left_g : ∀ g ∈ cl_left_G, cx_valid cx_B0 g.1 g.2 := (cx_Gc cv_29_0 (cx_Gc cv_207_0 cx_Gn))
set_option maxRecDepth 1000000 in
theorem cl_left_v : cx_run true cx_B0 cl_left_G cl_left 241 (cx_fAn cl_left_A) none 13 false 645 cl_left.1 = true := by decide +kernel
noncomputable def cl_which : cx_K := (([(6, 0), (2, 0), (2, 35), (0, 1)], [], [(0, 2048), (0, 2044)], [(1, 0, -4)], [], []), [(6, 3), (6, 4), (11, 999), (12, 999), (13, 8), (35, 14), (35, 24), (38, 999), (39, 999), (40, 999), (41, 999), (45, 999), (46, 999), (47, 999), (48, 999), (49, 999), (50, 999), (51, 999)], [])
noncomputable def cl_which_A : List (Nat × cx_A) := [(18, ([(6, 0), (2, 0), (2, 35), (0, 2)], [], [(0, 2048), (0, 2044), (4, 2048)], [(2, 1, 4), (1, 2, -4)], [], []), [])]
noncomputable def cl_which_G : List (Nat × cx_K) := [(54, ck_54_0), (232, ck_232_0)]
theorem cl_which_g : ∀ g ∈ cl_which_G, cx_valid cx_B0 g.1 g.2 := (cx_Gc cv_54_0 (cx_Gc cv_232_0 cx_Gn))
set_option maxRecDepth 1000000 in
theorem cl_which_v : cx_run true cx_B0 cl_which_G cl_which 241 (cx_fAn cl_which_A) none 23 false 658 cl_which.1 = true := by decide +kernel
noncomputable def cl_there : cx_K := (([(6, 0), (2, 0), (2, 35), (0, 1)], [], [(0, 2048), (0, 2044)], [(1, 0, -4)], [], []), [(6, 3), (6, 4), (11, 999), (12, 999), (13, 8), (13, 9), (14, 2), (15, 999), (16, 999), (35, 14), (35, 24), (38, 999), (39, 999), (40, 999), (41, 999), (45, 999), (46, 999), (47, 999), (48, 999), (49, 999), (50, 999), (51, 999)], [])
noncomputable def cl_there_A : List (Nat × cx_A) := [(18, ([(6, 0), (2, 0), (2, 35), (0, 2)], [], [(0, 2048), (0, 2044), (4, 2048)], [(2, 1, 4), (1, 2, -4)], [], []), [])]
noncomputable def cl_there_G : List (Nat × cx_K) := [(51, ck_51_0), (227, ck_227_0)]
theorem cl_there_g : ∀ g ∈ cl_there_G, cx_valid cx_B0 g.1 g.2 := (cx_Gc cv_51_0 (cx_Gc cv_227_0 cx_Gn))
set_option maxRecDepth 1000000 in
theorem cl_there_v : cx_run true cx_B0 cl_there_G cl_there 241 (cx_fAn cl_there_A) none 23 false 681 cl_there.1 = true := by decide +kernel
noncomputable def cl_sure : cx_K := (([(6, 0), (2, 0), (2, 35), (0, 1)], [], [(0, 2048), (0, 2044)], [(1, 0, -4)], [], []), [(6, 3), (6, 4), (11, 999), (12, 999), (13, 8), (13, 9), (14, 2), (15, 999), (16, 999), (35, 14), (35, 24), (38, 999), (39, 999), (40, 999), (41, 999), (45, 999), (46, 999), (47, 999), (48, 999), (49, 999), (50, 999), (51, 999)], [])
noncomputable def cl_sure_A : List (Nat × cx_A) := [(18, ([(6, 0), (2, 0), (2, 35), (0, 2)], [], [(0, 2048), (0, 2044), (4, 2048)], [(2, 1, 4), (1, 2, -4)], [], []), [])]
noncomputable def cl_sure_G : List (Nat × cx_K) := [(48, ck_48_0), (225, ck_225_0)]
theorem cl_sure_g : ∀ g ∈ cl_sure_G, cx_valid cx_B0 g.1 g.2 := (cx_Gc cv_48_0 (cx_Gc cv_225_0 cx_Gn))
set_option maxRecDepth 1000000 in
theorem cl_sure_v : cx_run true cx_B0 cl_sure_G cl_sure 241 (cx_fAn cl_sure_A) none 23 false 704 cl_sure.1 = true := by decide +kernel
noncomputable def cl_part : cx_K := (([(6, 0), (2, 0), (2, 35), (0, 1)], [], [(0, 2048), (0, 2044)], [(1, 0, -4)], [], []), [(6, 3), (6, 4), (11, 999), (12, 999), (13, 8), (13, 9), (14, 2), (15, 999), (16, 999), (35, 14), (35, 24), (38, 999), (39, 999), (40, 999), (41, 999), (45, 999), (46, 999), (47, 999), (48, 999), (49, 999), (50, 999), (51, 999), (53, 999)], [])
noncomputable def cl_part_A : List (Nat × cx_A) := [(18, ([(6, 0), (2, 0), (2, 35), (0, 2)], [], [(0, 2048), (0, 2044), (4, 2048)], [(2, 1, 4), (1, 2, -4)], [], []), [])]
noncomputable def cl_part_G : List (Nat × cx_K) := [(37, ck_37_0), (214, ck_214_0)]
theorem cl_part_g : ∀ g ∈ cl_part_G, cx_valid cx_B0 g.1 g.2 := (cx_Gc cv_37_0 (cx_Gc cv_214_0 cx_Gn))
set_option maxRecDepth 1000000 in
theorem cl_part_v : cx_run true cx_B0 cl_part_G cl_part 241 (cx_fAn cl_part_A) none 33 false 727 cl_part.1 = true := by decide +kernel
noncomputable def cl_best : cx_K := (([(6, 0), (2, 0), (2, 35), (0, 1)], [], [(0, 2048), (0, 2044)], [(1, 0, -4)], [], []), [(6, 3), (6, 4), (11, 999), (12, 999), (13, 8), (13, 9), (14, 2), (15, 999), (16, 999), (35, 14), (35, 24), (38, 999), (39, 999), (40, 999), (41, 999), (45, 999), (46, 999), (47, 999), (48, 999), (49, 999), (50, 999), (51, 999), (53, 999)], [])
noncomputable def cl_best_A : List (Nat × cx_A) := [(18, ([(6, 0), (2, 0), (2, 35), (0, 2)], [], [(0, 2048), (0, 2044), (4, 2048)], [(2, 1, 4), (1, 2, -4)], [], []), [])]
noncomputable def cl_best_G : List (Nat × cx_K) := [(6, ck_6_0), (169, ck_169_0)]
theorem cl_best_g : ∀ g ∈ cl_best_G, cx_valid cx_B0 g.1 g.2 := (cx_Gc cv_6_0 (cx_Gc cv_169_0 cx_Gn))
set_option maxRecDepth 1000000 in
theorem cl_best_v : cx_run true cx_B0 cl_best_G cl_best 241 (cx_fAn cl_best_A) none 23 false 760 cl_best.1 = true := by decide +kernel
noncomputable def cl_bestSalvo : cx_K := (([(6, 0), (2, 0), (2, 35), (0, 1)], [], [(0, 2048), (0, 2044)], [(1, 0, -4)], [], []), [(6, 3), (6, 4), (11, 999), (12, 999), (13, 8), (13, 9), (14, 2), (15, 999), (16, 999), (20, 3), (20, 4), (20, 5), (20, 6), (21, 999), (35, 14), (35, 24), (38, 999), (39, 999), (40, 999), (41, 999), (45, 999), (46, 999), (47, 999), (48, 999), (49, 999), (50, 999), (51, 999), (52, 999), (53, 999)], [])
noncomputable def cl_bestSalvo_A : List (Nat × cx_A) := [(18, ([(6, 0), (2, 0), (2, 35), (0, 2)], [], [(0, 2048), (0, 2044), (4, 2048)], [(2, 1, 4), (1, 2, -4)], [], []), [])]
noncomputable def cl_bestSalvo_G : List (Nat × cx_K) := [(7, ck_7_0), (170, ck_170_0)]
theorem cl_bestSalvo_g : ∀ g ∈ cl_bestSalvo_G, cx_valid cx_B0 g.1 g.2 := (cx_Gc cv_7_0 (cx_Gc cv_170_0 cx_Gn))
set_option maxRecDepth 1000000 in
theorem cl_bestSalvo_v : cx_run true cx_B0 cl_bestSalvo_G cl_bestSalvo 241 (cx_fAn cl_bestSalvo_A) none 23 false 783 cl_bestSalvo.1 = true := by decide +kernel
noncomputable def cl_need : cx_K := (([(6, 0), (2, 0), (2, 35), (0, 1)], [], [(0, 2048), (0, 2044)], [(1, 0, -4)], [], []), [(6, 3), (6, 4), (22, 8), (23, 2), (24, 999), (25, 999), (27, 999), (28, 999), (29, 999), (35, 14), (35, 36), (38, 999), (39, 999), (40, 999), (41, 999), (53, 999), (59, 999), (60, 999)], [])
noncomputable def cl_need_A : List (Nat × cx_A) := [(18, ([(6, 0), (2, 0), (2, 35), (0, 2)], [], [(0, 2048), (0, 2044), (4, 2048)], [(2, 1, 4), (1, 2, -4)], [], []), [])]
noncomputable def cl_need_G : List (Nat × cx_K) := [(34, ck_34_0), (212, ck_212_0)]
theorem cl_need_g : ∀ g ∈ cl_need_G, cx_valid cx_B0 g.1 g.2 := (cx_Gc cv_34_0 (cx_Gc cv_212_0 cx_Gn))
set_option maxRecDepth 1000000 in
theorem cl_need_v : cx_run true cx_B0 cl_need_G cl_need 241 (cx_fAn cl_need_A) none 23 false 806 cl_need.1 = true := by decide +kernel
noncomputable def cl_calls : cx_K := (([(6, 0), (2, 0), (2, 35), (0, 1)], [], [(0, 2048), (0, 2044)], [(1, 0, -4)], [], []), [(6, 3), (6, 4), (22, 10), (22, 11), (23, 2), (24, 999), (25, 999), (30, 999), (35, 14), (35, 36), (38, 999), (39, 999), (40, 999), (41, 999), (53, 999), (59, 999), (60, 999)], [])
noncomputable def cl_calls_A : List (Nat × cx_A) := [(18, ([(6, 0), (2, 0), (2, 35), (0, 2)], [], [(0, 2048), (0, 2044), (4, 2048)], [(2, 1, 4), (1, 2, -4)], [], []), [])]
noncomputable def cl_calls_G : List (Nat × cx_K) := [(11, ck_11_0), (178, ck_178_0)]
theorem cl_calls_g : ∀ g ∈ cl_calls_G, cx_valid cx_B0 g.1 g.2 := (cx_Gc cv_11_0 (cx_Gc cv_178_0 cx_Gn))
set_option maxRecDepth 1000000 in
theorem cl_calls_v : cx_run true cx_B0 cl_calls_G cl_calls 241 (cx_fAn cl_calls_A) none 33 false 829 cl_calls.1 = true := by decide +kernel
noncomputable def cl_hardest : cx_K := (([(6, 0), (2, 0), (2, 35), (0, 1)], [], [(0, 2048), (0, 2044)], [(1, 0, -4)], [], []), [(6, 3), (6, 4), (22, 8), (23, 2), (24, 999), (25, 999), (27, 999), (28, 999), (29, 999), (35, 14), (38, 999), (39, 999), (40, 999), (41, 999), (53, 999), (54, 999), (55, 999), (56, 999), (57, 999), (58, 999), (59, 999)], [])
noncomputable def cl_hardest_A : List (Nat × cx_A) := [(18, ([(6, 0), (2, 0), (2, 35), (0, 2)], [], [(0, 2048), (0, 2044), (4, 2048)], [(2, 1, 4), (1, 2, -4)], [], []), [])]
noncomputable def cl_hardest_G : List (Nat × cx_K) := [(20, ck_20_0), (196, ck_196_0)]
theorem cl_hardest_g : ∀ g ∈ cl_hardest_G, cx_valid cx_B0 g.1 g.2 := (cx_Gc cv_20_0 (cx_Gc cv_196_0 cx_Gn))
set_option maxRecDepth 1000000 in
theorem cl_hardest_v : cx_run true cx_B0 cl_hardest_G cl_hardest 241 (cx_fAn cl_hardest_A) none 23 false 862 cl_hardest.1 = true := by decide +kernel
noncomputable def cl_stray : cx_K := (([(6, 0), (2, 0), (2, 35), (0, 1)], [], [(0, 2048), (0, 2044)], [(1, 0, -4)], [], []), [(6, 3), (6, 4), (11, 999), (12, 999), (13, 8), (35, 14), (38, 999), (39, 999), (40, 999), (41, 999), (45, 999), (46, 999), (47, 999), (48, 999)], [])
noncomputable def cl_stray_A : List (Nat × cx_A) := [(18, ([(6, 0), (2, 0), (2, 35), (0, 2)], [], [(0, 2048), (0, 2044), (4, 2048)], [(2, 1, 4), (1, 2, -4)], [], []), [])]
noncomputable def cl_stray_G : List (Nat × cx_K) := [(47, ck_47_0), (224, ck_224_0)]
theorem cl_stray_g : ∀ g ∈ cl_stray_G, cx_valid cx_B0 g.1 g.2 := (cx_Gc cv_47_0 (cx_Gc cv_224_0 cx_Gn))
set_option maxRecDepth 1000000 in
theorem cl_stray_v : cx_run true cx_B0 cl_stray_G cl_stray 241 (cx_fAn cl_stray_A) none 13 false 885 cl_stray.1 = true := by decide +kernel
noncomputable def cl_blame : cx_K := (([(6, 0), (2, 0), (2, 35), (0, 1)], [], [(0, 2048), (0, 2044)], [(1, 0, -4)], [], []), [(6, 3), (6, 4), (11, 999), (12, 999), (13, 8), (35, 14), (38, 999), (39, 999), (40, 999), (41, 999), (45, 999), (46, 999), (47, 999), (48, 999)], [])
noncomputable def cl_blame_A : List (Nat × cx_A) := [(18, ([(6, 0), (2, 0), (2, 35), (0, 2)], [], [(0, 2048), (0, 2044), (4, 2048)], [(2, 1, 4), (1, 2, -4)], [], []), [])]
noncomputable def cl_blame_G : List (Nat × cx_K) := [(8, ck_8_0), (172, ck_172_0)]
theorem cl_blame_g : ∀ g ∈ cl_blame_G, cx_valid cx_B0 g.1 g.2 := (cx_Gc cv_8_0 (cx_Gc cv_172_0 cx_Gn))
set_option maxRecDepth 1000000 in
theorem cl_blame_v : cx_run true cx_B0 cl_blame_G cl_blame 241 (cx_fAn cl_blame_A) none 13 false 898 cl_blame.1 = true := by decide +kernel
noncomputable def cl_blamed : cx_K := (([(6, 0), (2, 0), (2, 35), (0, 1)], [], [(0, 2048), (0, 2044)], [(1, 0, -4)], [], []), [(6, 3), (6, 4), (11, 999), (12, 999), (13, 8), (35, 14), (38, 999), (39, 999), (40, 999), (41, 999), (45, 999), (46, 999), (47, 999), (48, 999)], [])
noncomputable def cl_blamed_A : List (Nat × cx_A) := [(18, ([(6, 0), (2, 0), (2, 35), (0, 2)], [], [(0, 2048), (0, 2044), (4, 2048)], [(2, 1, 4), (1, 2, -4)], [], []), [])]
noncomputable def cl_blamed_G : List (Nat × cx_K) := [(9, ck_9_0), (174, ck_174_0)]
theorem cl_blamed_g : ∀ g ∈ cl_blamed_G, cx_valid cx_B0 g.1 g.2 := (cx_Gc cv_9_0 (cx_Gc cv_174_0 cx_Gn))
set_option maxRecDepth 1000000 in
theorem cl_blamed_v : cx_run true cx_B0 cl_blamed_G cl_blamed 241 (cx_fAn cl_blamed_A) none 13 false 911 cl_blamed.1 = true := by decide +kernel
noncomputable def cl_switched : cx_K := (([(6, 0), (2, 0), (2, 35), (0, 1)], [], [(0, 2048), (0, 2044)], [(1, 0, -4)], [], []), [(6, 3), (6, 4), (11, 999), (12, 999), (13, 8), (31, 4), (31, 5), (35, 14), (38, 999), (39, 999), (40, 999), (41, 999), (45, 999), (46, 999), (47, 999), (48, 999), (62, 999), (63, 999)], [])
noncomputable def cl_switched_A : List (Nat × cx_A) := [(18, ([(6, 0), (2, 0), (2, 35), (0, 2)], [], [(0, 2048), (0, 2044), (4, 2048)], [(2, 1, 4), (1, 2, -4)], [], []), [])]
noncomputable def cl_switched_G : List (Nat × cx_K) := [(50, ck_50_0), (226, ck_226_0)]
theorem cl_switched_g : ∀ g ∈ cl_switched_G, cx_valid cx_B0 g.1 g.2 := (cx_Gc cv_50_0 (cx_Gc cv_226_0 cx_Gn))
set_option maxRecDepth 1000000 in
theorem cl_switched_v : cx_run true cx_B0 cl_switched_G cl_switched 241 (cx_fAn cl_switched_A) none 23 false 924 cl_switched.1 = true := by decide +kernel
noncomputable def cl_rim : cx_K := (([(6, 0), (2, 0), (2, 35), (0, 1)], [], [(0, 2048), (0, 2044)], [(1, 0, -4)], [], []), [(6, 3), (6, 4), (35, 14), (38, 999), (39, 999), (40, 999), (41, 999)], [])
noncomputable def cl_rim_A : List (Nat × cx_A) := [(18, ([(6, 0), (2, 0), (2, 35), (0, 2)], [], [(0, 2048), (0, 2044), (4, 2048)], [(2, 1, 4), (1, 2, -4)], [], []), [])]
noncomputable def cl_rim_G : List (Nat × cx_K) := [(40, ck_40_0), (217, ck_217_0)]
theorem cl_rim_g : ∀ g ∈ cl_rim_G, cx_valid cx_B0 g.1 g.2 := (cx_Gc cv_40_0 (cx_Gc cv_217_0 cx_Gn))
set_option maxRecDepth 1000000 in
theorem cl_rim_v : cx_run true cx_B0 cl_rim_G cl_rim 241 (cx_fAn cl_rim_A) none 33 false 980 cl_rim.1 = true := by decide +kernel
noncomputable def cl_fitting : cx_K := (([(6, 0), (2, 0), (2, 35), (0, 1)], [], [(0, 2048), (0, 2044)], [(1, 0, -4)], [], []), [(6, 3), (6, 4), (35, 14), (38, 999), (39, 999), (40, 999), (41, 999)], [])
noncomputable def cl_fitting_A : List (Nat × cx_A) := [(18, ([(6, 0), (2, 0), (2, 35), (0, 2)], [], [(0, 2048), (0, 2044), (4, 2048)], [(2, 1, 4), (1, 2, -4)], [], []), [])]
noncomputable def cl_fitting_G : List (Nat × cx_K) := [(17, ck_17_0), (191, ck_191_0)]
theorem cl_fitting_g : ∀ g ∈ cl_fitting_G, cx_valid cx_B0 g.1 g.2 := (cx_Gc cv_17_0 (cx_Gc cv_191_0 cx_Gn))
set_option maxRecDepth 1000000 in
theorem cl_fitting_v : cx_run true cx_B0 cl_fitting_G cl_fitting 241 (cx_fAn cl_fitting_A) none 13 false 1013 cl_fitting.1 = true := by decide +kernel
noncomputable def cl_clues : cx_K := (([(6, 0), (2, 0), (2, 35), (0, 1)], [], [(0, 2048), (0, 2044)], [(1, 0, -4)], [], []), [(6, 3), (6, 4), (34, 999), (35, 14), (38, 999), (39, 999), (40, 999), (41, 999), (64, 999)], [])
noncomputable def cl_clues_A : List (Nat × cx_A) := [(18, ([(6, 0), (2, 0), (2, 35), (0, 2)], [], [(0, 2048), (0, 2044), (4, 2048)], [(2, 1, 4), (1, 2, -4)], [], []), [])]
noncomputable def cl_clues_G : List (Nat × cx_K) := [(13, ck_13_0), (181, ck_181_0)]
theorem cl_clues_g : ∀ g ∈ cl_clues_G, cx_valid cx_B0 g.1 g.2 := (cx_Gc cv_13_0 (cx_Gc cv_181_0 cx_Gn))
set_option maxRecDepth 1000000 in
theorem cl_clues_v : cx_run true cx_B0 cl_clues_G cl_clues 241 (cx_fAn cl_clues_A) none 23 false 1026 cl_clues.1 = true := by decide +kernel
noncomputable def cl_many : cx_K := (([(6, 0), (2, 0), (2, 35), (0, 1)], [], [(0, 2048), (0, 2044)], [(1, 0, -4)], [], []), [], [])
noncomputable def cl_many_A : List (Nat × cx_A) := [(18, ([(6, 0), (2, 0), (2, 35), (0, 2)], [], [(0, 2048), (0, 2044), (4, 2048)], [(2, 1, 4), (1, 2, -4)], [], []), [])]
noncomputable def cl_many_G : List (Nat × cx_K) := [(33, ck_33_0), (210, ck_210_0)]
theorem cl_many_g : ∀ g ∈ cl_many_G, cx_valid cx_B0 g.1 g.2 := (cx_Gc cv_33_0 (cx_Gc cv_210_0 cx_Gn))
set_option maxRecDepth 1000000 in
theorem cl_many_v : cx_run true cx_B0 cl_many_G cl_many 241 (cx_fAn cl_many_A) none 23 false 1049 cl_many.1 = true := by decide +kernel
end
