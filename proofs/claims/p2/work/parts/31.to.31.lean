section
/-! Methods that keep what is asked: the rest. -/
set_option maxRecDepth 1000000 in
theorem cv_52_0 : cx_valid cx_B0 52 ck_52_0 := cx_chk_s (G := [(89, ck_89_0), (140, ck_Register_search)]) (An := []) (n := 13) cx_hA0 (cx_Gc cv_89_0 (cx_Gc cv_Register_search cx_Gn)) (by decide +kernel)
set_option maxRecDepth 1000000 in
theorem cv_27_0 : cx_valid cx_B0 27 ck_27_0 := cx_chk_s (G := [(52, ck_52_0)]) (An := []) (n := 10) cx_hA0 (cx_Gc cv_52_0 cx_Gn) (by decide +kernel)
set_option maxRecDepth 1000000 in
theorem cv_26_0 : cx_valid cx_B0 26 ck_26_0 := cx_chk_s (G := [(25, ck_25_0), (52, ck_52_0), (23, ck_23_0), (138, ck_138_0), (45, ck_45_0)]) (An := []) (n := 22) cx_hA0 (cx_Gc cv_25_0 (cx_Gc cv_52_0 (cx_Gc cv_23_0 (cx_Gc cv_138_0 (cx_Gc cv_45_0 cx_Gn))))) (by decide +kernel)
set_option maxRecDepth 1000000 in
theorem cv_53_0 : cx_valid cx_B0 53 ck_53_0 := cx_chk_s (G := [(21, ck_21_0), (52, ck_52_0), (23, ck_23_0), (135, ck_135_0)]) (An := []) (n := 29) cx_hA0 (cx_Gc cv_21_0 (cx_Gc cv_52_0 (cx_Gc cv_23_0 (cx_Gc cv_135_0 cx_Gn)))) (by decide +kernel)
set_option maxRecDepth 1000000 in
theorem cv_31_0 : cx_valid cx_B0 31 ck_31_0 := cx_chk_s (G := [(25, ck_25_0), (55, ck_55_0), (52, ck_52_0), (23, ck_23_0), (135, ck_135_0), (133, ck_133_0)]) (An := []) (n := 32) cx_hA0 (cx_Gc cv_25_0 (cx_Gc cv_55_0 (cx_Gc cv_52_0 (cx_Gc cv_23_0 (cx_Gc cv_135_0 (cx_Gc cv_133_0 cx_Gn)))))) (by decide +kernel)
set_option maxRecDepth 1000000 in
theorem cv_112_0 : cx_valid cx_B0 112 ck_112_0 := cx_chk_s (G := [(108, ck_Ledger_grow), (152, ck_152_0), (135, ck_135_0), (39, ck_puJ), (129, ck_129_0), (134, ck_134_0)]) (An := [(39, ([(2, 13), (0, 0), (0, 1)], [], [(0, 1), (0, 10000), (0, 10000), (0, 0)], [], [(6, 3, 2), (13, 8, 3)], []), [(0, 99961), (1, 1)])]) (n := 39) cx_hA0 (cx_Gc cv_Ledger_grow (cx_Gc cv_152_0 (cx_Gc cv_135_0 (cx_Gc cv_puJ (cx_Gc cv_129_0 (cx_Gc cv_134_0 cx_Gn)))))) (by decide +kernel)
set_option maxRecDepth 1000000 in
theorem cv_30_0 : cx_valid cx_B0 30 ck_30_0 := cx_chk_s (G := [(112, ck_112_0), (105, ck_105_0)]) (An := []) (n := 13) cx_hA0 (cx_Gc cv_112_0 (cx_Gc cv_105_0 cx_Gn)) (by decide +kernel)
set_option maxRecDepth 1000000 in
theorem cv_29_0 : cx_valid cx_B0 29 ck_29_0 := cx_chk_s (G := [(52, ck_52_0), (30, ck_30_0)]) (An := []) (n := 10) cx_hA0 (cx_Gc cv_52_0 (cx_Gc cv_30_0 cx_Gn)) (by decide +kernel)
set_option maxRecDepth 1000000 in
theorem cv_54_0 : cx_valid cx_B0 54 ck_54_0 := cx_chk_s (G := [(52, ck_52_0), (112, ck_112_0), (110, ck_110_0)]) (An := []) (n := 16) cx_hA0 (cx_Gc cv_52_0 (cx_Gc cv_112_0 (cx_Gc cv_110_0 cx_Gn))) (by decide +kernel)
set_option maxRecDepth 1000000 in
theorem cv_51_0 : cx_valid cx_B0 51 ck_51_0 := cx_chk_s (G := [(22, ck_22_0), (52, ck_52_0), (30, ck_30_0), (163, ck_163_0)]) (An := []) (n := 15) cx_hA0 (cx_Gc cv_22_0 (cx_Gc cv_52_0 (cx_Gc cv_30_0 (cx_Gc cv_163_0 cx_Gn)))) (by decide +kernel)
set_option maxRecDepth 1000000 in
theorem cv_48_0 : cx_valid cx_B0 48 ck_48_0 := cx_chk_s (G := [(55, ck_55_0), (52, ck_52_0), (30, ck_30_0), (158, ck_158_0)]) (An := []) (n := 25) cx_hA0 (cx_Gc cv_55_0 (cx_Gc cv_52_0 (cx_Gc cv_30_0 (cx_Gc cv_158_0 cx_Gn)))) (by decide +kernel)
set_option maxRecDepth 1000000 in
theorem cv_37_0 : cx_valid cx_B0 37 ck_37_0 := cx_chk_s (G := [(22, ck_22_0), (55, ck_55_0), (52, ck_52_0), (30, ck_30_0), (162, ck_162_0)]) (An := []) (n := 21) cx_hA0 (cx_Gc cv_22_0 (cx_Gc cv_55_0 (cx_Gc cv_52_0 (cx_Gc cv_30_0 (cx_Gc cv_162_0 cx_Gn))))) (by decide +kernel)
set_option maxRecDepth 1000000 in
theorem cv_6_0 : cx_valid cx_B0 6 ck_6_0 := cx_chk_s (G := [(55, ck_55_0), (52, ck_52_0), (30, ck_30_0), (157, ck_157_0), (161, ck_161_0)]) (An := []) (n := 29) cx_hA0 (cx_Gc cv_55_0 (cx_Gc cv_52_0 (cx_Gc cv_30_0 (cx_Gc cv_157_0 (cx_Gc cv_161_0 cx_Gn))))) (by decide +kernel)
set_option maxRecDepth 1000000 in
theorem cv_7_0 : cx_valid cx_B0 7 ck_7_0 := cx_chk_s (G := [(55, ck_55_0), (52, ck_52_0), (30, ck_30_0), (119, ck_119_0)]) (An := []) (n := 34) cx_hA0 (cx_Gc cv_55_0 (cx_Gc cv_52_0 (cx_Gc cv_30_0 (cx_Gc cv_119_0 cx_Gn)))) (by decide +kernel)
set_option maxRecDepth 1000000 in
theorem cv_15_0 : cx_valid cx_B0 15 ck_15_0 := cx_chk_s (G := [(52, ck_52_0)]) (An := []) (n := 14) cx_hA0 (cx_Gc cv_52_0 cx_Gn) (by decide +kernel)
set_option maxRecDepth 1000000 in
theorem cv_67_0 : cx_valid cx_B0 67 ck_67_0 := cx_chk_s (G := [(66, ck_Caller_putInOrder), (38, ck_38_6), (38, ck_38_7), (39, ck_39_5), (3, ck_3_6), (69, ck_69_0)]) (An := [(29, ([(2, 22), (0, 0), (0, 1)], [], [(0, 400), (0, 400), (0, 0), (0, 400)], [], [(22, 8, 2), (6, 3, 3)], []), [(0, 99971), (1, 1)]), (71, ([(2, 22), (0, 0), (0, 1), (0, 2)], [], [(0, 400), cx_i32, (0, 9999), (0, 0), (0, 400)], [], [(22, 8, 3), (6, 3, 4)], []), [(0, 99929), (1, 2)])]) (n := 24) cx_hA0 (cx_Gc cv_Caller_putInOrder (cx_Gc cv_38_6 (cx_Gc cv_38_7 (cx_Gc cv_39_5 (cx_Gc cv_3_6 (cx_Gc cv_69_0 cx_Gn)))))) (by decide +kernel)
set_option maxRecDepth 1000000 in
theorem cv_34_0 : cx_valid cx_B0 34 ck_34_0 := cx_chk_s (G := [(15, ck_15_0), (23, ck_23_0), (67, ck_67_0), (65, ck_65_0)]) (An := []) (n := 18) cx_hA0 (cx_Gc cv_15_0 (cx_Gc cv_23_0 (cx_Gc cv_67_0 (cx_Gc cv_65_0 cx_Gn)))) (by decide +kernel)
set_option maxRecDepth 1000000 in
theorem cv_70_0 : cx_valid cx_B0 70 ck_70_0 := cx_chk_s (G := [(66, ck_Caller_putInOrder), (61, ck_61_0), (38, ck_38_11), (58, ck_58_0), (63, ck_63_0)]) (An := [(36, ([(2, 22), (0, 0), (0, 1), (1, 2), (4, 0), (0, 3)], [], [cx_i32, cx_i32, cx_i64, (0, 36), (0, 36), (0, 10000)], [], [(22, 10, 4), (22, 11, 0), (6, 3, 5)], []), [(0, 99964), (1, 3)])]) (n := 46) cx_hA0 (cx_Gc cv_Caller_putInOrder (cx_Gc cv_61_0 (cx_Gc cv_38_11 (cx_Gc cv_58_0 (cx_Gc cv_63_0 cx_Gn))))) (by decide +kernel)
set_option maxRecDepth 1000000 in
theorem cv_11_0 : cx_valid cx_B0 11 ck_11_0 := cx_chk_s (G := [(52, ck_52_0), (23, ck_23_0), (70, ck_70_0), (60, ck_60_0)]) (An := []) (n := 21) cx_hA0 (cx_Gc cv_52_0 (cx_Gc cv_23_0 (cx_Gc cv_70_0 (cx_Gc cv_60_0 cx_Gn)))) (by decide +kernel)
set_option maxRecDepth 1000000 in
theorem cv_20_0 : cx_valid cx_B0 20 ck_20_0 := cx_chk_s (G := [(55, ck_55_0), (15, ck_15_0), (67, ck_67_0), (64, ck_64_0), (65, ck_65_0), (57, ck_57_0)]) (An := []) (n := 32) cx_hA0 (cx_Gc cv_55_0 (cx_Gc cv_15_0 (cx_Gc cv_67_0 (cx_Gc cv_64_0 (cx_Gc cv_65_0 (cx_Gc cv_57_0 cx_Gn)))))) (by decide +kernel)
set_option maxRecDepth 1000000 in
theorem cv_47_0 : cx_valid cx_B0 47 ck_47_0 := cx_chk_s (G := [(52, ck_52_0), (112, ck_112_0), (98, ck_98_0)]) (An := []) (n := 13) cx_hA0 (cx_Gc cv_52_0 (cx_Gc cv_112_0 (cx_Gc cv_98_0 cx_Gn))) (by decide +kernel)
set_option maxRecDepth 1000000 in
theorem cv_8_0 : cx_valid cx_B0 8 ck_8_0 := cx_chk_s (G := [(52, ck_52_0), (112, ck_112_0), (100, ck_100_0), (113, ck_113_0), (237, ck_237_0)]) (An := []) (n := 22) cx_hA0 (cx_Gc cv_52_0 (cx_Gc cv_112_0 (cx_Gc cv_100_0 (cx_Gc cv_113_0 (cx_Gc cv_237_0 cx_Gn))))) (by decide +kernel)
set_option maxRecDepth 1000000 in
theorem cv_9_0 : cx_valid cx_B0 9 ck_9_0 := cx_chk_s (G := [(52, ck_52_0), (112, ck_112_0), (100, ck_100_0), (103, ck_103_0)]) (An := []) (n := 21) cx_hA0 (cx_Gc cv_52_0 (cx_Gc cv_112_0 (cx_Gc cv_100_0 (cx_Gc cv_103_0 cx_Gn)))) (by decide +kernel)
set_option maxRecDepth 1000000 in
theorem cv_50_0 : cx_valid cx_B0 50 ck_50_0 := cx_chk_s (G := [(55, ck_55_0), (15, ck_15_0), (112, ck_112_0), (102, ck_102_0), (101, ck_101_0)]) (An := []) (n := 28) cx_hA0 (cx_Gc cv_55_0 (cx_Gc cv_15_0 (cx_Gc cv_112_0 (cx_Gc cv_102_0 (cx_Gc cv_101_0 cx_Gn))))) (by decide +kernel)
set_option maxRecDepth 1000000 in
theorem cv_40_0 : cx_valid cx_B0 40 ck_40_0 := cx_chk_s (G := [(24, ck_24_0), (52, ck_52_0), (23, ck_23_0), (137, ck_137_0), (73, ck_73_0)]) (An := []) (n := 24) cx_hA0 (cx_Gc cv_24_0 (cx_Gc cv_52_0 (cx_Gc cv_23_0 (cx_Gc cv_137_0 (cx_Gc cv_73_0 cx_Gn))))) (by decide +kernel)
set_option maxRecDepth 1000000 in
theorem cv_17_0 : cx_valid cx_B0 17 ck_17_0 := cx_chk_s (G := [(52, ck_52_0), (76, ck_76_0)]) (An := []) (n := 10) cx_hA0 (cx_Gc cv_52_0 (cx_Gc cv_76_0 cx_Gn)) (by decide +kernel)
set_option maxRecDepth 1000000 in
theorem cv_13_0 : cx_valid cx_B0 13 ck_13_0 := cx_chk_s (G := [(15, ck_15_0), (23, ck_23_0), (74, ck_74_0)]) (An := []) (n := 16) cx_hA0 (cx_Gc cv_15_0 (cx_Gc cv_23_0 (cx_Gc cv_74_0 cx_Gn))) (by decide +kernel)
set_option maxRecDepth 1000000 in
theorem cv_223_0 : cx_valid cx_B0 223 ck_223_0 := cx_chk_s (G := [(204, ck_204_0), (190, ck_SquaredShipsModel_findSpots)]) (An := []) (n := 15) cx_hA0 (cx_Gc cv_204_0 (cx_Gc cv_SquaredShipsModel_findSpots cx_Gn)) (by decide +kernel)
set_option maxRecDepth 1000000 in
theorem cv_222_0 : cx_valid cx_B0 222 ck_222_0 := cx_chk_s (G := [(204, ck_204_0), (190, ck_SquaredShipsModel_findSpots), (198, ck_198_0)]) (An := []) (n := 32) cx_hA0 (cx_Gc cv_204_0 (cx_Gc cv_SquaredShipsModel_findSpots (cx_Gc cv_198_0 cx_Gn))) (by decide +kernel)
set_option maxRecDepth 1000000 in
theorem cv_206_0 : cx_valid cx_B0 206 ck_206_0 := cx_chk_s (G := [(167, ck_SquaredShipsModel_areLaid)]) (An := []) (n := 10) cx_hA0 (cx_Gc cv_SquaredShipsModel_areLaid cx_Gn) (by decide +kernel)
set_option maxRecDepth 1000000 in
theorem cv_205_0 : cx_valid cx_B0 205 ck_205_0 := cx_chk_s (G := [(204, ck_204_0), (167, ck_SquaredShipsModel_areLaid), (202, ck_202_0)]) (An := []) (n := 24) cx_hA0 (cx_Gc cv_204_0 (cx_Gc cv_SquaredShipsModel_areLaid (cx_Gc cv_202_0 cx_Gn))) (by decide +kernel)
set_option maxRecDepth 1000000 in
theorem cv_229_0 : cx_valid cx_B0 229 ck_229_0 := cx_chk_s (G := [(199, ck_199_0), (167, ck_SquaredShipsModel_areLaid), (202, ck_202_0), (192, ck_192_0)]) (An := []) (n := 24) cx_hA0 (cx_Gc cv_199_0 (cx_Gc cv_SquaredShipsModel_areLaid (cx_Gc cv_202_0 (cx_Gc cv_192_0 cx_Gn)))) (by decide +kernel)
set_option maxRecDepth 1000000 in
theorem cv_208_0 : cx_valid cx_B0 208 ck_208_0 := cx_chk_s (G := [(204, ck_204_0), (198, ck_198_0), (167, ck_SquaredShipsModel_areLaid), (202, ck_202_0), (192, ck_192_0)]) (An := []) (n := 31) cx_hA0 (cx_Gc cv_204_0 (cx_Gc cv_198_0 (cx_Gc cv_SquaredShipsModel_areLaid (cx_Gc cv_202_0 (cx_Gc cv_192_0 cx_Gn))))) (by decide +kernel)
set_option maxRecDepth 1000000 in
theorem cv_188_0 : cx_valid cx_B0 188 ck_188_0 := cx_chk_s (G := [(167, ck_SquaredShipsModel_areLaid), (192, ck_192_0), (233, ck_233_0)]) (An := [(16, ([(2, 35), (0, 0)], [], [(0, 10000), (0, 10000)], [(1, 0, 0)], [(35, 24, 1)], []), [(0, 99984), (1, 0), (0, 300000), (0, 0)]), (56, ([(2, 35), (0, 0), (0, 1)], [], [(0, 9999), (0, 3), (0, 2), (0, 30), (1, 10000), (0, 10000)], [(0, 4, -1), (2, 0, 2), (2, 1, 2), (2, 3, 2), (2, 4, 1), (2, 5, 2), (5, 0, 0), (5, 4, -1)], [(35, 8, 2), (35, 16, 3), (35, 14, 4), (35, 24, 5)], []), [(0, 99984), (1, 0), (0, 99944), (1, 1)])]) (n := 45) cx_hA0 (cx_Gc cv_SquaredShipsModel_areLaid (cx_Gc cv_192_0 (cx_Gc cv_233_0 cx_Gn))) (by decide +kernel)
set_option maxRecDepth 1000000 in
theorem cv_207_0 : cx_valid cx_B0 207 ck_207_0 := cx_chk_s (G := [(188, ck_188_0)]) (An := []) (n := 10) cx_hA0 (cx_Gc cv_188_0 cx_Gn) (by decide +kernel)
set_option maxRecDepth 1000000 in
theorem cv_232_0 : cx_valid cx_B0 232 ck_232_0 := cx_chk_s (G := [(188, ck_188_0)]) (An := []) (n := 18) cx_hA0 (cx_Gc cv_188_0 cx_Gn) (by decide +kernel)
set_option maxRecDepth 1000000 in
theorem cv_227_0 : cx_valid cx_B0 227 ck_227_0 := cx_chk_s (G := [(200, ck_200_0), (188, ck_188_0), (228, ck_228_0)]) (An := []) (n := 15) cx_hA0 (cx_Gc cv_200_0 (cx_Gc cv_188_0 (cx_Gc cv_228_0 cx_Gn))) (by decide +kernel)
set_option maxRecDepth 1000000 in
theorem cv_225_0 : cx_valid cx_B0 225 ck_225_0 := cx_chk_s (G := [(198, ck_198_0), (188, ck_188_0), (179, ck_179_0), (228, ck_228_0)]) (An := [(30, ([(2, 35), (0, 0), (1, 1), (4, 0), (0, 2)], [], [cx_i32, cx_i64, (0, 36)], [], [], []), [(0, 99970), (1, 2)])]) (n := 26) cx_hA0 (cx_Gc cv_198_0 (cx_Gc cv_188_0 (cx_Gc cv_179_0 (cx_Gc cv_228_0 cx_Gn)))) (by decide +kernel)
set_option maxRecDepth 1000000 in
theorem cv_214_0 : cx_valid cx_B0 214 ck_214_0 := cx_chk_s (G := [(200, ck_200_0), (198, ck_198_0), (188, ck_188_0), (193, ck_193_0)]) (An := []) (n := 26) cx_hA0 (cx_Gc cv_200_0 (cx_Gc cv_198_0 (cx_Gc cv_188_0 (cx_Gc cv_193_0 cx_Gn)))) (by decide +kernel)
set_option maxRecDepth 1000000 in
theorem cv_169_0 : cx_valid cx_B0 169 ck_169_0 := cx_chk_s (G := [(198, ck_198_0), (188, ck_188_0), (193, ck_193_0), (179, ck_179_0)]) (An := [(44, ([(2, 35), (0, 0), (0, 1), (0, 2), (0, 3)], [], [cx_i32, (0, 35), cx_i32, (1, 36), (1, 10000)], [], [(35, 24, 4)], []), [(0, 99956), (1, 3)])]) (n := 27) cx_hA0 (cx_Gc cv_198_0 (cx_Gc cv_188_0 (cx_Gc cv_193_0 (cx_Gc cv_179_0 cx_Gn)))) (by decide +kernel)
set_option maxRecDepth 1000000 in
theorem cv_170_0 : cx_valid cx_B0 170 ck_170_0 := cx_chk_s (G := [(198, ck_198_0), (188, ck_188_0), (179, ck_179_0), (194, ck_194_0)]) (An := [(49, ([(2, 35), (0, 0), (0, 1), (0, 2), (0, 3), (0, 4)], [], [cx_i32, (0, 0), (1, 1), (2, 10001), (0, 10000), (1, 10000)], [], [(35, 24, 5)], []), [(0, 99951), (1, 4), (0, 300000), (0, 0)]), (107, ([(2, 35), (0, 0), (0, 1), (0, 2), (0, 3), (0, 4)], [], [cx_i32, (0, 35), (1, 35), (-2147483648, 10001), (0, 36), (1, 10000)], [], [(35, 24, 5)], []), [(0, 99893), (1, 4), (0, 300000), (0, 0)]), (122, ([(2, 35), (0, 0), (0, 1), (0, 2), (0, 3), (0, 4), (0, 5)], [], [cx_i32, (0, 35), (1, 35), (-2147483648, 10001), (0, 35), (1, 36), (1, 10000)], [], [(35, 24, 6)], []), [(0, 99893), (1, 4), (0, 99878), (1, 5)])]) (n := 38) cx_hA0 (cx_Gc cv_198_0 (cx_Gc cv_188_0 (cx_Gc cv_179_0 (cx_Gc cv_194_0 cx_Gn)))) (by decide +kernel)
set_option maxRecDepth 1000000 in
theorem cv_201_0 : cx_valid cx_B0 201 ck_201_0 := cx_chk_s (G := [(167, ck_SquaredShipsModel_areLaid)]) (An := []) (n := 13) cx_hA0 (cx_Gc cv_SquaredShipsModel_areLaid cx_Gn) (by decide +kernel)
set_option maxRecDepth 1000000 in
theorem cv_212_0 : cx_valid cx_B0 212 ck_212_0 := cx_chk_s (G := [(201, ck_201_0), (202, ck_202_0), (213, ck_SquaredShipsModel_needOf)]) (An := []) (n := 15) cx_hA0 (cx_Gc cv_201_0 (cx_Gc cv_202_0 (cx_Gc cv_SquaredShipsModel_needOf cx_Gn))) (by decide +kernel)
set_option maxRecDepth 1000000 in
theorem cv_178_0 : cx_valid cx_B0 178 ck_178_0 := cx_chk_s (G := [(201, ck_201_0), (202, ck_202_0), (213, ck_SquaredShipsModel_needOf)]) (An := []) (n := 23) cx_hA0 (cx_Gc cv_201_0 (cx_Gc cv_202_0 (cx_Gc cv_SquaredShipsModel_needOf cx_Gn))) (by decide +kernel)
set_option maxRecDepth 1000000 in
theorem cv_196_0 : cx_valid cx_B0 196 ck_196_0 := cx_chk_s (G := [(198, ck_198_0), (201, ck_201_0), (189, ck_SquaredShipsModel_findNeeds)]) (An := [(39, ([(2, 35), (0, 0), (0, 1), (0, 2), (0, 3), (0, 4)], [], [cx_i32, (-1, 399), (-1, 2147483647), cx_i32, (0, 400), (0, 400)], [], [(35, 14, 5)], []), [(0, 99961), (1, 4)])]) (n := 31) cx_hA0 (cx_Gc cv_198_0 (cx_Gc cv_201_0 (cx_Gc cv_SquaredShipsModel_findNeeds cx_Gn))) (by decide +kernel)
set_option maxRecDepth 1000000 in
theorem cv_224_0 : cx_valid cx_B0 224 ck_224_0 := cx_chk_s (G := [(167, ck_SquaredShipsModel_areLaid), (192, ck_192_0)]) (An := [(14, ([(2, 35), (0, 0), (0, 1)], [], [(0, 30), (0, 10000)], [], [], []), [(0, 99986), (1, 1), (0, 300000), (0, 0)]), (44, ([(2, 35), (0, 0), (0, 1), (0, 2), (0, 3)], [], [(0, 30), (0, 9999), (0, 30), (-1, 29), (0, 30), (1, 10000)], [], [(35, 16, 4), (35, 14, 5)], []), [(0, 99986), (1, 1), (0, 99956), (2, 3)]), (107, ([(2, 35), (0, 0), (0, 1)], [], [(0, 30), (0, 10000), (0, 10000)], [], [(35, 14, 2)], []), [(0, 99893), (1, 0), (0, 300000), (0, 0)])]) (n := 26) cx_hA0 (cx_Gc cv_SquaredShipsModel_areLaid (cx_Gc cv_192_0 cx_Gn)) (by decide +kernel)
set_option maxRecDepth 1000000 in
theorem cv_172_0 : cx_valid cx_B0 172 ck_172_0 := cx_chk_s (G := [(167, ck_SquaredShipsModel_areLaid), (173, ck_173_0)]) (An := []) (n := 10) cx_hA0 (cx_Gc cv_SquaredShipsModel_areLaid (cx_Gc cv_173_0 cx_Gn)) (by decide +kernel)
set_option maxRecDepth 1000000 in
theorem cv_174_0 : cx_valid cx_B0 174 ck_174_0 := cx_chk_s (G := [(167, ck_SquaredShipsModel_areLaid), (173, ck_173_0), (192, ck_192_0), (233, ck_233_0)]) (An := [(17, ([(2, 35), (0, 0), (0, 1)], [], [cx_i32, (0, 10000)], [], [], []), [(0, 99983), (1, 1)]), (47, ([(2, 35), (0, 0), (0, 1), (0, 2), (0, 3)], [], [cx_i32, (0, 9999), cx_i32, (0, 30), (0, 30), (1, 10000)], [], [(35, 16, 4), (35, 14, 5)], []), [(0, 99953), (1, 3)])]) (n := 32) cx_hA0 (cx_Gc cv_SquaredShipsModel_areLaid (cx_Gc cv_173_0 (cx_Gc cv_192_0 (cx_Gc cv_233_0 cx_Gn)))) (by decide +kernel)
set_option maxRecDepth 1000000 in
theorem cv_226_0 : cx_valid cx_B0 226 ck_226_0 := cx_chk_s (G := [(198, ck_198_0), (201, ck_201_0), (192, ck_192_0), (184, ck_184_0)]) (An := [(27, ([(2, 35), (0, 0), (0, 1), (0, 2)], [], [cx_i32, (0, 1), (0, 400), (0, 400)], [], [(35, 14, 3)], []), [(0, 99973), (1, 2), (0, 300000), (0, 0), (0, 300000), (0, 0), (0, 300000), (0, 0)]), (64, ([(2, 35), (0, 0), (0, 1), (0, 2), (0, 3)], [], [cx_i32, (0, 1), (0, 399), (0, 30), (0, 30), (1, 400)], [], [(35, 16, 4), (35, 14, 5)], []), [(0, 99973), (1, 2), (0, 99936), (1, 3), (0, 300000), (0, 0), (0, 300000), (0, 0)]), (206, ([(2, 35), (0, 0), (0, 1), (0, 2)], [], [cx_i32, (0, 0), (0, 30), (0, 400)], [], [(35, 14, 3)], []), [(0, 99794), (1, 2), (0, 300000), (0, 0), (0, 300000), (0, 0), (0, 300000), (0, 0)]), (217, ([(2, 35), (0, 0), (0, 1), (0, 2), (0, 3)], [], [cx_i32, (0, 0), (0, 29), (0, 3), (1, 30), (0, 400)], [], [(35, 16, 4), (35, 14, 5)], []), [(0, 99794), (1, 2), (0, 99783), (1, 3), (0, 300000), (0, 0), (0, 300000), (0, 0)]), (229, ([(2, 35), (0, 0), (0, 1), (0, 2), (0, 3), (0, 4)], [], [cx_i32, (0, 0), (0, 29), (0, 2), (0, 400), (1, 3), (1, 30), (0, 400)], [], [(35, 3, 5), (35, 16, 6), (35, 14, 7)], []), [(0, 99794), (1, 2), (0, 99783), (1, 3), (0, 99771), (1, 4), (0, 300000), (0, 0)]), (241, ([(2, 35), (0, 0), (0, 1), (0, 2), (0, 3), (0, 4), (0, 5)], [], [cx_i32, (0, 0), (0, 29), (0, 2), (0, 399), (0, 400), (1, 3), (1, 30), (1, 400)], [], [(35, 3, 6), (35, 16, 7), (35, 14, 8)], []), [(0, 99794), (1, 2), (0, 99783), (1, 3), (0, 99771), (1, 4), (0, 99759), (1, 5)])]) (n := 53) cx_hA0 (cx_Gc cv_198_0 (cx_Gc cv_201_0 (cx_Gc cv_192_0 (cx_Gc cv_184_0 cx_Gn)))) (by decide +kernel)
set_option maxRecDepth 1000000 in
theorem cv_217_0 : cx_valid cx_B0 217 ck_217_0 := cx_chk_s (G := [(203, ck_203_0), (167, ck_SquaredShipsModel_areLaid), (202, ck_202_0), (180, ck_180_0), (183, ck_183_0)]) (An := []) (n := 22) cx_hA0 (cx_Gc cv_203_0 (cx_Gc cv_SquaredShipsModel_areLaid (cx_Gc cv_202_0 (cx_Gc cv_180_0 (cx_Gc cv_183_0 cx_Gn))))) (by decide +kernel)
set_option maxRecDepth 1000000 in
theorem cv_191_0 : cx_valid cx_B0 191 ck_191_0 := cx_chk_s (G := [(167, ck_SquaredShipsModel_areLaid), (180, ck_180_0), (183, ck_183_0)]) (An := [(14, ([(2, 35), (0, 0), (0, 1)], [], [cx_i32, (0, 10000)], [], [], []), [(0, 99986), (1, 1), (0, 300000), (0, 0)]), (34, ([(2, 35), (0, 0), (0, 1), (1, 2), (4, 0), (0, 3), (0, 4)], [], [cx_i32, (0, 9999), cx_i64, (0, 1), (0, 29), (1, 10000)], [], [(35, 14, 5)], []), [(0, 99986), (1, 1), (0, 99966), (1, 4)])]) (n := 33) cx_hA0 (cx_Gc cv_SquaredShipsModel_areLaid (cx_Gc cv_180_0 (cx_Gc cv_183_0 cx_Gn))) (by decide +kernel)
set_option maxRecDepth 1000000 in
theorem cv_181_0 : cx_valid cx_B0 181 ck_181_0 := cx_chk_s (G := [(201, ck_201_0), (202, ck_202_0), (180, ck_180_0), (171, ck_171_0), (183, ck_183_0)]) (An := [(33, ([(2, 35), (0, 0), (1, 1), (4, 0), (0, 2), (0, 3)], [], [cx_i32, cx_i64, (0, 400), (0, 400), (1, 400)], [(0, 4, -1), (2, 3, 0), (3, 4, 0)], [(35, 14, 4)], []), [(0, 99967), (1, 3), (0, 300000), (0, 0)]), (68, ([(2, 35), (0, 0), (1, 1), (4, 0), (0, 2), (0, 3), (1, 4), (4, 0), (0, 5)], [], [cx_i32, cx_i64, (0, 400), (0, 399), cx_i64, (0, 29), (1, 400)], [(0, 6, -1), (2, 3, 0), (2, 6, -1), (3, 6, -1)], [(35, 14, 6)], []), [(0, 99967), (1, 3), (0, 99932), (1, 5)]), (144, ([(2, 35), (0, 0), (1, 1), (4, 0), (0, 2), (0, 3), (0, 4)], [], [cx_i32, cx_i64, (0, 400), (-1, 2147483646), (0, 2147483647), (1, 400)], [(0, 5, -1), (3, 4, -1)], [(35, 14, 5)], []), [(0, 99856), (1, 4), (0, 300000), (0, 0)]), (187, ([(2, 35), (0, 0), (1, 1), (4, 0), (0, 2), (0, 3), (0, 4), (0, 5), (0, 6)], [], [cx_i32, cx_i64, (0, 400), (-1, 2147483646), (0, 2147483646), (0, 1), (0, 400), (2, 6), (2, 6), (1, 400)], [(0, 9, -1), (3, 4, -1), (5, 2, 1), (5, 3, 2), (5, 4, 1), (5, 6, 1), (5, 7, -1), (5, 8, -1), (5, 9, 0), (6, 2, 0), (7, 8, 4), (8, 7, 4)], [(35, 1, 7), (35, 0, 8), (35, 14, 9)], []), [(0, 99856), (1, 4), (0, 99813), (1, 6)])]) (n := 35) cx_hA0 (cx_Gc cv_201_0 (cx_Gc cv_202_0 (cx_Gc cv_180_0 (cx_Gc cv_171_0 (cx_Gc cv_183_0 cx_Gn))))) (by decide +kernel)
end
