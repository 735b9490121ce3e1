section
/-! Methods that keep what is asked: the rest. -/
set_option maxRecDepth 1000000 in
theorem cv_52_0 : cx_valid cx_B0 52 ck_52_0 := cx_chk_s (G := [(89, ck_89_0), (140, ck_Register_search)]) (An := []) (n := 13) cx_hA0 (cx_Gc cv_89_0 (cx_Gc cv_Register_search cx_Gn)) (by decide +kernel)
set_option maxRecDepth 1000000 in
theorem cv_27_0 : cx_valid cx_B0 27 ck_27_0 := cx_chk_s (G := [(52, ck_52_0)]) (An := []) (n := 10) cx_hA0 (cx_Gc cv_52_0 cx_Gn) (by decide +kernel)
set_option maxRecDepth 1000000 in
theorem cv_26_0 : cx_valid cx_B0 26 ck_26_0 := cx_chk_s (G := [(25, ck_25_0), (52, ck_52_0), (23, ck_23_0), (138, ck_138_0), (45, ck_45_0)]) (An := []) (n := 22) cx_hA0 (cx_Gc cv_25_0 (cx_Gc cv_52_0 (cx_Gc cv_23_0 (cx_Gc cv_138_0 (cx_Gc cv_45_0 cx_Gn))))) (by decide +kernel)
set_option maxRecDepth 1000000 in
theorem cv_53_0 : cx_valid cx_B0 53 ck_53_0 := cx_chk_s (G := [(21, ck_21_0), (52, ck_52_0), (23, ck_23_0), (135, ck_135_0)]) (An := []) (n := 29) cx_hA0 (cx_Gc cv_21_0 (cx_Gc cv_52_0 (cx_Gc cv_23_0 (cx_Gc cv_135_0 cx_Gn)))) (by decide +kernel)
set_option maxRecDepth 1000000 in
theorem cv_31_0 : cx_valid cx_B0 31 ck_31_0 := cx_chk_s (G := [(25, ck_25_0), (55, ck_55_0), (52, ck_52_0), (23, ck_23_0), (135, ck_135_0), (133, ck_133_0)]) (An := []) (n := 32) cx_hA0 (cx_Gc cv_25_0 (cx_Gc cv_55_0 (cx_Gc cv_52_0 (cx_Gc cv_23_0 (cx_Gc cv_135_0 (cx_Gc cv_133_0 cx_Gn)))))) (by decide +kernel)
set_option maxRecDepth 1000000 in
theorem cv_112_0 : cx_valid cx_B0 112 ck_112_0 := cx_chk_s (G := [(108, ck_Ledger_grow), (152, ck_152_0), (135, ck_135_0), (39, ck_puJ), (129, ck_129_0), (134, ck_134_0)]) (An := [(39, ([(2, 13), (0, 0), (0, 1)], [], [(0, 1), (0, 10000), (0, 10000), (0, 0)], [], [(6, 3, 2), (13, 8, 3)], []), [(0, 99961), (1, 1)])]) (n := 39) cx_hA0 (cx_Gc cv_Ledger_grow (cx_Gc cv_152_0 (cx_Gc cv_135_0 (cx_Gc cv_puJ (cx_Gc cv_129_0 (cx_Gc cv_134_0 cx_Gn)))))) (by decide +kernel)
set_option maxRecDepth 1000000 in
theorem cv_30_0 : cx_valid cx_B0 30 ck_30_0 := cx_chk_s (G := [(112, ck_112_0), (105, ck_105_0)]) (An := []) (n := 13) cx_hA0 (cx_Gc cv_112_0 (cx_Gc cv_105_0 cx_Gn)) (by decide +kernel)
set_option maxRecDepth 1000000 in
theorem cv_29_0 : cx_valid cx_B0 29 ck_29_0 := cx_chk_s (G := [(52, ck_52_0), (30, ck_30_0)]) (An := []) (n := 10) cx_hA0 (cx_Gc cv_52_0 (cx_Gc cv_30_0 cx_Gn)) (by decide +kernel)
set_option maxRecDepth 1000000 in
theorem cv_54_0 : cx_valid cx_B0 54 ck_54_0 := cx_chk_s (G := [(52, ck_52_0), (112, ck_112_0), (110, ck_110_0)]) (An := []) (n := 16) cx_hA0 (cx_Gc cv_52_0 (cx_Gc cv_112_0 (cx_Gc cv_110_0 cx_Gn))) (by decide +kernel)
set_option maxRecDepth 1000000 in
theorem cv_51_0 : cx_valid cx_B0 51 ck_51_0 := cx_chk_s (G := [(22, ck_22_0), (52, ck_52_0), (30, ck_30_0), (163, ck_163_0)]) (An := []) (n := 15) cx_hA0 (cx_Gc cv_22_0 (cx_Gc cv_52_0 (cx_Gc cv_30_0 (cx_Gc cv_163_0 cx_Gn)))) (by decide +kernel)
set_option maxRecDepth 1000000 in
theorem cv_48_0 : cx_valid cx_B0 48 ck_48_0 := cx_chk_s (G := [(55, ck_55_0), (52, ck_52_0), (30, ck_30_0), (158, ck_158_0)]) (An := []) (n := 25) cx_hA0 (cx_Gc cv_55_0 (cx_Gc cv_52_0 (cx_Gc cv_30_0 (cx_Gc cv_158_0 cx_Gn)))) (by decide +kernel)
set_option maxRecDepth 1000000 in
theorem cv_37_0 : cx_valid cx_B0 37 ck_37_0 := cx_chk_s (G := [(22, ck_22_0), (55, ck_55_0), (52, ck_52_0), (30, ck_30_0), (162, ck_162_0)]) (An := []) (n := 21) cx_hA0 (cx_Gc cv_22_0 (cx_Gc cv_55_0 (cx_Gc cv_52_0 (cx_Gc cv_30_0 (cx_Gc cv_162_0 cx_Gn))))) (by decide +kernel)
set_option maxRecDepth 1000000 in
theorem cv_6_0 : cx_valid cx_B0 6 ck_6_0 := cx_chk_s (G := [(55, ck_55_0), (52, ck_52_0), (30, ck_30_0), (157, ck_157_0), (161, ck_161_0)]) (An := []) (n := 29) cx_hA0 (cx_Gc cv_55_0 (cx_Gc cv_52_0 (cx_Gc cv_30_0 (cx_Gc cv_157_0 (cx_Gc cv_161_0 cx_Gn))))) (by decide +kernel)
set_option maxRecDepth 1000000 in
theorem cv_7_0 : cx_valid cx_B0 7 ck_7_0 := cx_chk_s (G := [(55, ck_55_0), (52, ck_52_0), (30, ck_30_0), (119, ck_119_0)]) (An := []) (n := 34) cx_hA0 (cx_Gc cv_55_0 (cx_Gc cv_52_0 (cx_Gc cv_30_0 (cx_Gc cv_119_0 cx_Gn)))) (by decide +kernel)
set_option maxRecDepth 1000000 in
theorem cv_15_0 : cx_valid cx_B0 15 ck_15_0 := cx_chk_s (G := [(52, ck_52_0)]) (An := []) (n := 14) cx_hA0 (cx_Gc cv_52_0 cx_Gn) (by decide +kernel)
set_option maxRecDepth 1000000 in
theorem cv_67_0 : cx_valid cx_B0 67 ck_67_0 := cx_chk_s (G := [(66, ck_Caller_putInOrder), (38, ck_38_6), (38, ck_38_7), (39, ck_39_5), (3, ck_3_6), (69, ck_69_0)]) (An := [(29, ([(2, 22), (0, 0), (0, 1)], [], [(0, 400), (0, 400), (0, 0), (0, 400)], [], [(22, 8, 2), (6, 3, 3)], []), [(0, 99971), (1, 1)]), (71, ([(2, 22), (0, 0), (0, 1), (0, 2)], [], [(0, 400), cx_i32, (0, 9999), (0, 0), (0, 400)], [], [(22, 8, 3), (6, 3, 4)], []), [(0, 99929), (1, 2)])]) (n := 24) cx_hA0 (cx_Gc cv_Caller_putInOrder (cx_Gc cv_38_6 (cx_Gc cv_38_7 (cx_Gc cv_39_5 (cx_Gc cv_3_6 (cx_Gc cv_69_0 cx_Gn)))))) (by decide +kernel)
set_option maxRecDepth 1000000 in
theorem cv_34_0 : cx_valid cx_B0 34 ck_34_0 := cx_chk_s (G := [(15, ck_15_0), (23, ck_23_0), (67, ck_67_0), (65, ck_65_0)]) (An := []) (n := 18) cx_hA0 (cx_Gc cv_15_0 (cx_Gc cv_23_0 (cx_Gc cv_67_0 (cx_Gc cv_65_0 cx_Gn)))) (by decide +kernel)
set_option maxRecDepth 1000000 in
theorem cv_70_0 : cx_valid cx_B0 70 ck_70_0 := cx_chk_s (G := [(66, ck_Caller_putInOrder), (61, ck_61_0), (38, ck_38_11), (58, ck_58_0), (63, ck_63_0)]) (An := [(36, ([(2, 22), (0, 0), (0, 1), (1, 2), (4, 0), (0, 3)], [], [cx_i32, cx_i32, cx_i64, (0, 36), (0, 36), (0, 10000)], [], [(22, 10, 4), (22, 11, 0), (6, 3, 5)], []), [(0, 99964), (1, 3)])]) (n := 46) cx_hA0 (cx_Gc cv_Caller_putInOrder (cx_Gc cv_61_0 (cx_Gc cv_38_11 (cx_Gc cv_58_0 (cx_Gc cv_63_0 cx_Gn))))) (by decide +kernel)
set_option maxRecDepth 1000000 in
theorem cv_11_0 : cx_valid cx_B0 11 ck_11_0 := cx_chk_s (G := [(52, ck_52_0), (23, ck_23_0), (70, ck_70_0), (60, ck_60_0)]) (An := []) (n := 21) cx_hA0 (cx_Gc cv_52_0 (cx_Gc cv_23_0 (cx_Gc cv_70_0 (cx_Gc cv_60_0 cx_Gn)))) (by decide +kernel)
set_option maxRecDepth 1000000 in
theorem cv_20_0 : cx_valid cx_B0 20 ck_20_0 := cx_chk_s (G := [(55, ck_55_0), (15, ck_15_0), (67, ck_67_0), (64, ck_64_0), (65, ck_65_0), (57, ck_57_0)]) (An := []) (n := 32) cx_hA0 (cx_Gc cv_55_0 (cx_Gc cv_15_0 (cx_Gc cv_67_0 (cx_Gc cv_64_0 (cx_Gc cv_65_0 (cx_Gc cv_57_0 cx_Gn)))))) (by decide +kernel)
set_option maxRecDepth 1000000 in
theorem cv_47_0 : cx_valid cx_B0 47 ck_47_0 := cx_chk_s (G := [(52, ck_52_0), (112, ck_112_0), (98, ck_98_0)]) (An := []) (n := 13) cx_hA0 (cx_Gc cv_52_0 (cx_Gc cv_112_0 (cx_Gc cv_98_0 cx_Gn))) (by decide +kernel)
set_option maxRecDepth 1000000 in
theorem cv_8_0 : cx_valid cx_B0 8 ck_8_0 := cx_chk_s (G := [(52, ck_52_0), (112, ck_112_0), (100, ck_100_0), (113, ck_113_0), (237, ck_237_0)]) (An := []) (n := 22) cx_hA0 (cx_Gc cv_52_0 (cx_Gc cv_112_0 (cx_Gc cv_100_0 (cx_Gc cv_113_0 (cx_Gc cv_237_0 cx_Gn))))) (by decide +kernel)
set_option maxRecDepth 1000000 in
theorem cv_9_0 : cx_valid cx_B0 9 ck_9_0 := cx_chk_s (G := [(52, ck_52_0), (112, ck_112_0), (100, ck_100_0), (103, ck_103_0)]) (An := []) (n := 21) cx_hA0 (cx_Gc cv_52_0 (cx_Gc cv_112_0 (cx_Gc cv_100_0 (cx_Gc cv_103_0 cx_Gn)))) (by decide +kernel)
set_option maxRecDepth 1000000 in
theorem cv_50_0 : cx_valid cx_B0 50 ck_50_0 := cx_chk_s (G := [(55, ck_55_0), (15, ck_15_0), (112, ck_112_0), (102, ck_102_0), (101, ck_101_0)]) (An := []) (n := 28) cx_hA0 (cx_Gc cv_55_0 (cx_Gc cv_15_0 (cx_Gc cv_112_0 (cx_Gc cv_102_0 (cx_Gc cv_101_0 cx_Gn))))) (by decide +kernel)
set_option maxRecDepth 1000000 in
theorem cv_40_0 : cx_valid cx_B0 40 ck_40_0 := cx_chk_s (G := [(24, ck_24_0), (52, ck_52_0), (23, ck_23_0), (137, ck_137_0), (73, ck_73_0)]) (An := []) (n := 24) cx_hA0 (cx_Gc cv_24_0 (cx_Gc cv_52_0 (cx_Gc cv_23_0 (cx_Gc cv_137_0 (cx_Gc cv_73_0 cx_Gn))))) (by decide +kernel)
set_option maxRecDepth 1000000 in
theorem cv_17_0 : cx_valid cx_B0 17 ck_17_0 := cx_chk_s (G := [(52, ck_52_0), (76, ck_76_0)]) (An := []) (n := 10) cx_hA0 (cx_Gc cv_52_0 (cx_Gc cv_76_0 cx_Gn)) (by decide +kernel)
set_option maxRecDepth 1000000 in
theorem cv_13_0 : cx_valid cx_B0 13 ck_13_0 := cx_chk_s (G := [(15, ck_15_0), (23, ck_23_0), (74, ck_74_0)]) (An := []) (n := 16) cx_hA0 (cx_Gc cv_15_0 (cx_Gc cv_23_0 (cx_Gc cv_74_0 cx_Gn))) (by decide +kernel)
set_option maxRecDepth 1000000 in
theorem cv_223_0 : cx_valid cx_B0 223 ck_223_0 := cx_chk_s (G := [(204, ck_204_0), (190, ck_SquaredShipsModel_findSpots)]) (An := []) (n := 15) cx_hA0 (cx_Gc cv_204_0 (cx_Gc cv_SquaredShipsModel_findSpots cx_Gn)) (by decide +kernel)
set_option maxRecDepth 1000000 in
theorem cv_222_0 : cx_valid cx_B0 222 ck_222_0 := cx_chk_s (G := [(204, ck_204_0), (190, ck_SquaredShipsModel_findSpots), (198, ck_198_0)]) (An := []) (n := 32) cx_hA0 (cx_Gc cv_204_0 (cx_Gc cv_SquaredShipsModel_findSpots (cx_Gc cv_198_0 cx_Gn))) (by decide +kernel)
set_option maxRecDepth 1000000 in
theorem cv_206_0 : cx_valid cx_B0 206 ck_206_0 := cx_chk_s (G := [(167, ck_SquaredShipsModel_areLaid)]) (An := []) (n := 10) cx_hA0 (cx_Gc cv_SquaredShipsModel_areLaid cx_Gn) (by decide +kernel)
set_option maxRecDepth 1000000 in
theorem cv_205_0 : cx_valid cx_B0 205 ck_205_0 := cx_chk_s (G := [(204, ck_204_0), (167, ck_SquaredShipsModel_areLaid), (202, ck_202_0)]) (An := []) (n := 24) cx_hA0 (cx_Gc cv_204_0 (cx_Gc cv_SquaredShipsModel_areLaid (cx_Gc cv_202_0 cx_Gn))) (by decide +kernel)
set_option maxRecDepth 1000000 in
theorem cv_229_0 : cx_valid cx_B0 229 ck_229_0 := cx_chk_s (G := [(199, ck_199_0), (167, ck_SquaredShipsModel_areLaid), (202, ck_202_0), (192, ck_192_0)]) (An := []) (n := 24) cx_hA0 (cx_Gc cv_199_0 (cx_Gc cv_SquaredShipsModel_areLaid (cx_Gc cv_202_0 (cx_Gc cv_192_0 cx_Gn)))) (by decide +kernel)
set_option maxRecDepth 1000000 in
theorem cv_208_0 : cx_valid cx_B0 208 ck_208_0 := cx_chk_s (G := [(204, ck_204_0), (198, ck_198_0), (167, ck_SquaredShipsModel_areLaid), (202, ck_202_0), (192, ck_192_0)]) (An := []) (n := 31) cx_hA0 (cx_Gc cv_204_0 (cx_Gc cv_198_0 (cx_Gc cv_SquaredShipsModel_areLaid (cx_Gc cv_202_0 (cx_Gc cv_192_0 cx_Gn))))) (by decide +kernel)
set_option maxRecDepth 1000000 in
theorem cv_188_0 : cx_valid cx_B0 188 ck_188_0 := cx_chk_s (G := [(167, ck_SquaredShipsModel_areLaid), (192, ck_192_0), (233, ck_233_0)]) (An := [(16, ([(2, 35), (0, 0)], [], [(0, 10000), (0, 10000)], [(1, 0, 0)], [(35, 24, 1)], []), [(0, 99984), (1, 0), (0, 300000), (0, 0)]), (56, ([(2, 35), (0, 0), (0, 1)], [], [(0, 9999), (0, 3), (0, 2), (0, 30), (1, 10000), (0, 10000)], [(0, 4, -1), (2, 0, 2), (2, 1, 2), (2, 3, 2), (2, 4, 1), (2, 5, 2), (5, 0, 0), (5, 4, -1)], [(35, 8, 2), (35, 16, 3), (35, 14, 4), (35, 24, 5)], []), [(0, 99984), (1, 0), (0, 99944), (1, 1)])]) (n := 45) cx_hA0 (cx_Gc cv_SquaredShipsModel_areLaid (cx_Gc cv_192_0 (cx_Gc cv_233_0 cx_Gn))) (by decide +kernel)
set_option maxRecDepth 1000000 in
theorem cv_207_0 : cx_valid cx_B0 207 ck_207_0 := cx_chk_s (G := [(188, ck_188_0)]) (An := []) (n := 10) cx_hA0 (cx_Gc cv_188_0 cx_Gn) (by decide +kernel)
set_option maxRecDepth 1000000 in
theorem cv_232_0 : cx_valid cx_B0 232 ck_232_0 := cx_chk_s (G := [(188, ck_188_0)]) (An := []) (n := 18) cx_hA0 (cx_Gc cv_188_0 cx_Gn) (by decide +kernel)
set_option maxRecDepth 1000000 in
theorem cv_227_0 : cx_valid cx_B0 227 ck_227_0 := cx_chk_s (G := [(200, ck_200_0), (188, ck_188_0), (228, ck_228_0)]) (An := []) (n := 15) cx_hA0 (cx_Gc cv_200_0 (cx_Gc cv_188_0 (cx_Gc cv_228_0 cx_Gn))) (by decide +kernel)
set_option maxRecDepth 1000000 in
theorem cv_225_0 : cx_valid cx_B0 225 ck_225_0 := cx_chk_s (G := [(198, ck_198_0), (188, ck_188_0), (179, ck_179_0), (228, ck_228_0)]) (An := [(30, ([(2, 35), (0, 0), (1, 1), (4, 0), (0, 2)], [], [cx_i32, cx_i64, (0, 36)], [], [], []), [(0, 99970), (1, 2)])]) (n := 26) cx_hA0 (cx_Gc cv_198_0 (cx_Gc cv_188_0 (cx_Gc cv_179_0 (cx_Gc cv_228_0 cx_Gn)))) (by decide +kernel)
set_option maxRecDepth 1000000 in
theorem cv_214_0 : cx_valid cx_B0 214 ck_214_0 := cx_chk_s (G := [(200, ck_200_0), (198, ck_198_0), (188, ck_188_0), (193, ck_193_0)]) (An := []) (n := 26) cx_hA0 (cx_Gc cv_200_0 (cx_Gc cv_198_0 (cx_Gc cv_188_0 (cx_Gc cv_193_0 cx_Gn)))) (by decide +kernel)
set_option maxRecDepth 1000000 in
theorem cv_169_0 : cx_valid cx_B0 169 ck_169_0 := cx_chk_s (G := [(198, ck_198_0), (188, ck_188_0), (193, ck_193_0), (179, ck_179_0)]) (An := [(44, ([(2, 35), (0, 0), (0, 1), (0, 2), (0, 3)], [], [cx_i32, (0, 35), cx_i32, (1, 36), (1, 10000)], [], [(35, 24, 4)], []), [(0, 99956), (1, 3)])]) (n := 27) cx_hA0 (cx_Gc cv_198_0 (cx_Gc cv_188_0 (cx_Gc cv_193_0 (cx_Gc cv_179_0 cx_Gn)))) (by decide +kernel)
set_option maxRecDepth 1000000 in
theorem cv_170_0 : cx_valid cx_B0 170 ck_170_0 := cx_chk_s (G := [(198, ck_198_0), (188, ck_188_0), (179, ck_179_0), (194, ck_194_0)]) (An := [(49, ([(2, 35), (0, 0), (0, 1), (0, 2), (0, 3), (0, 4)], [], [cx_i32, (0, 0), (1, 1), (2, 10001), (0, 10000), (1, 10000)], [], [(35, 24, 5)], []), [(0, 99951), (1, 4), (0, 300000), (0, 0)]), (107, ([(2, 35), (0, 0), (0, 1), (0, 2), (0, 3), (0, 4)], [], [cx_i32, (0, 35), (1, 35), (-2147483648, 10001), (0, 36), (1, 10000)], [], [(35, 24, 5)], []), [(0, 99893), (1, 4), (0, 300000), (0, 0)]), (122, ([(2, 35), (0, 0), (0, 1), (0, 2), (0, 3), (0, 4), (0, 5)], [], [cx_i32, (0, 35), (1, 35), (-2147483648, 10001), (0, 35), (1, 36), (1, 10000)], [], [(35, 24, 6)], []), [(0, 99893), (1, 4), (0, 99878), (1, 5)])]) (n := 38) cx_hA0 (cx_Gc cv_198_0 (cx_Gc cv_188_0 (cx_Gc cv_179_0 (cx_Gc cv_194_0 cx_Gn)))) (by decide +kernel)
set_option maxRecDepth 1000000 in
theorem cv_201_0 : cx_valid cx_B0 201 ck_201_0 := cx_chk_s (G := [(167, ck_SquaredShipsModel_areLaid)]) (An := []) (n := 13) cx_hA0 (cx_Gc cv_SquaredShipsModel_areLaid cx_Gn) (by decide +kernel)
set_option maxRecDepth 1000000 in
theorem cv_212_0 : cx_valid cx_B0 212 ck_212_0 := cx_chk_s (G := [(201, ck_201_0), (202, ck_202_0), (213, ck_SquaredShipsModel_needOf)]) (An := []) (n := 15) cx_hA0 (cx_Gc cv_201_0 (cx_Gc cv_202_0 (cx_Gc cv_SquaredShipsModel_needOf cx_Gn))) (by decide +kernel)
set_option maxRecDepth 1000000 in
theorem cv_178_0 : cx_valid cx_B0 178 ck_178_0 := cx_chk_s (G := [(201, ck_201_0), (202, ck_202_0), (213, ck_SquaredShipsModel_needOf)]) (An := []) (n := 23) cx_hA0 (cx_Gc cv_201_0 (cx_Gc cv_202_0 (cx_Gc cv_SquaredShipsModel_needOf cx_Gn))) (by decide +kernel)
set_option maxRecDepth 1000000 in
theorem cv_196_0 : cx_valid cx_B0 196 ck_196_0 := cx_chk_s (G := [(198, ck_198_0), (201, ck_201_0), (189, ck_SquaredShipsModel_findNeeds)]) (An := [(39, ([(2, 35), (0, 0), (0, 1), (0, 2), (0, 3), (0, 4)], [], [cx_i32, (-1, 399), (-1, 2147483647), cx_i32, (0, 400), (0, 400)], [], [(35, 14, 5)], []), [(0, 99961), (1, 4)])]) (n := 31) cx_hA0 (cx_Gc cv_198_0 (cx_Gc cv_201_0 (cx_Gc cv_SquaredShipsModel_findNeeds cx_Gn))) (by decide +kernel)
set_option maxRecDepth 1000000 in
theorem cv_224_0 : cx_valid cx_B0 224 ck_224_0 := cx_chk_s (G := [(167, ck_SquaredShipsModel_areLaid), (192, ck_192_0)]) (An := [(14, ([(2, 35), (0, 0), (0, 1)], [], [(0, 30), (0, 10000)], [], [], []), [(0, 99986), (1, 1), (0, 300000), (0, 0)]), (44, ([(2, 35), (0, 0), (0, 1), (0, 2), (0, 3)], [], [(0, 30), (0, 9999), (0, 30), (-1, 29), (0, 30), (1, 10000)], [], [(35, 16, 4), (35, 14, 5)], []), [(0, 99986), (1, 1), (0, 99956), (2, 3)]), (107, ([(2, 35), (0, 0), (0, 1)], [], [(0, 30), (0, 10000), (0, 10000)], [], [(35, 14, 2)], []), [(0, 99893), (1, 0), (0, 300000), (0, 0)])]) (n := 26) cx_hA0 (cx_Gc cv_SquaredShipsModel_areLaid (cx_Gc cv_192_0 cx_Gn)) (by decide +kernel)
set_option maxRecDepth 1000000 in
theorem cv_172_0 : cx_valid cx_B0 172 ck_172_0 := cx_chk_s (G := [(167, ck_SquaredShipsModel_areLaid), (173, ck_173_0)]) (An := []) (n := 10) cx_hA0 (cx_Gc cv_SquaredShipsModel_areLaid (cx_Gc cv_173_0 cx_Gn)) (by decide +kernel)
set_option maxRecDepth 1000000 in
theorem cv_174_0 : cx_valid cx_B0 174 ck_174_0 := cx_chk_s (G := [(167, ck_SquaredShipsModel_areLaid), (173, ck_173_0), (192, ck_192_0), (233, ck_233_0)]) (An := [(17, ([(2, 35), (0, 0), (0, 1)], [], [cx_i32, (0, 10000)], [], [], []), [(0, 99983), (1, 1)]), (47, ([(2, 35), (0, 0), (0, 1), (0, 2), (0, 3)], [], [cx_i32, (0, 9999), cx_i32, (0, 30), (0, 30), (1, 10000)], [], [(35, 16, 4), (35, 14, 5)], []), [(0, 99953), (1, 3)])]) (n := 32) cx_hA0 (cx_Gc cv_SquaredShipsModel_areLaid (cx_Gc cv_173_0 (cx_Gc cv_192_0 (cx_Gc cv_233_0 cx_Gn)))) (by decide +kernel)
set_option maxRecDepth 1000000 in
theorem cv_226_0 : cx_valid cx_B0 226 ck_226_0 := cx_chk_s (G := [(198, ck_198_0), (201, ck_201_0), (192, ck_192_0), (184, ck_184_0)]) (An := [(27, ([(2, 35), (0, 0), (0, 1), (0, 2)], [], [cx_i32, (0, 1), (0, 400), (0, 400)], [], [(35, 14, 3)], []), [(0, 99973), (1, 2), (0, 300000), (0, 0), (0, 300000), (0, 0), (0, 300000), (0, 0)]), (64, ([(2, 35), (0, 0), (0, 1), (0, 2), (0, 3)], [], [cx_i32, (0, 1), (0, 399), (0, 30), (0, 30), (1, 400)], [], [(35, 16, 4), (35, 14, 5)], []), [(0, 99973), (1, 2), (0, 99936), (1, 3), (0, 300000), (0, 0), (0, 300000), (0, 0)]), (206, ([(2, 35), (0, 0), (0, 1), (0, 2)], [], [cx_i32, (0, 0), (0, 30), (0, 400)], [], [(35, 14, 3)], []), [(0, 99794), (1, 2), (0, 300000), (0, 0), (0, 300000), (0, 0), (0, 300000), (0, 0)]), (217, ([(2, 35), (0, 0), (0, 1), (0, 2), (0, 3)], [], [cx_i32, (0, 0), (0, 29), (0, 3), (1, 30), (0, 400)], [], [(35, 16, 4), (35, 14, 5)], []), [(0, 99794), (1, 2), (0, 99783), (1, 3), (0, 300000), (0, 0), (0, 300000), (0, 0)]), (229, ([(2, 35), (0, 0), (0, 1), (0, 2), (0, 3), (0, 4)], [], [cx_i32, (0, 0), (0, 29), (0, 2), (0, 400), (1, 3), (1, 30), (0, 400)], [], [(35, 3, 5), (35, 16, 6), (35, 14, 7)], []), [(0, 99794), (1, 2), (0, 99783), (1, 3), (0, 99771), (1, 4), (0, 300000), (0, 0)]), (241, ([(2, 35), (0, 0), (0, 1), (0, 2), (0, 3), (0, 4), (0, 5)], [], [cx_i32, (0, 0), (0, 29), (0, 2), (0, 399), (0, 400), (1, 3), (1, 30), (1, 400)], [], [(35, 3, 6), (35, 16, 7), (35, 14, 8)], []), [(0, 99794), (1, 2), (0, 99783), (1, 3), (0, 99771), (1, 4), (0, 99759), (1, 5)])]) (n := 53) cx_hA0 (cx_Gc cv_198_0 (cx_Gc cv_201_0 (cx_Gc cv_192_0 (cx_Gc cv_184_0 cx_Gn)))) (by decide +kernel)
set_option maxRecDepth 1000000 in
theorem cv_217_0 : cx_valid cx_B0 217 ck_217_0 := cx_chk_s (G := [(203, ck_203_0), (167, ck_SquaredShipsModel_areLaid), (202, ck_202_0), (180, ck_180_0), (183, ck_183_0)]) (An := []) (n := 22) cx_hA0 (cx_Gc cv_203_0 (cx_Gc cv_SquaredShipsModel_areLaid (cx_Gc cv_202_0 (cx_Gc cv_180_0 (cx_Gc cv_183_0 cx_Gn))))) (by decide +kernel)
set_option maxRecDepth 1000000 in
theorem cv_191_0 : cx_valid cx_B0 191 ck_191_0 := cx_chk_s (G := [(167, ck_SquaredShipsModel_areLaid), (180, ck_180_0), (183, ck_183_0)]) (An := [(14, ([(2, 35), (0, 0), (0, 1)], [], [cx_i32, (0, 10000)], [], [], []), [(0, 99986), (1, 1), (0, 300000), (0, 0)]), (34, ([(2, 35), (0, 0), (0, 1), (1, 2), (4, 0), (0, 3), (0, 4)], [], [cx_i32, (0, 9999), cx_i64, (0, 1), (0, 29), (1, 10000)], [], [(35, 14, 5)], []), [(0, 99986), (1, 1), (0, 99966), (1, 4)])]) (n := 33) cx_hA0 (cx_Gc cv_SquaredShipsModel_areLaid (cx_Gc cv_180_0 (cx_Gc cv_183_0 cx_Gn))) (by decide +kernel)
set_option maxRecDepth 1000000 in
theorem cv_181_0 : cx_valid cx_B0 181 ck_181_0 := cx_chk_s (G := [(201, ck_201_0), (202, ck_202_0), (180, ck_180_0), (171, ck_171_0), (183, ck_183_0)]) (An := [(33, ([(2, 35), (0, 0), (1, 1), (4, 0), (0, 2), (0, 3)], [], [cx_i32, cx_i64, (0, 400), (0, 400), (1, 400)], [(0, 4, -1), (2, 3, 0), (3, 4, 0)], [(35, 14, 4)], []), [(0, 99967), (1, 3), (0, 300000), (0, 0)]), (68, ([(2, 35), (0, 0), (1, 1), (4, 0), (0, 2), (0, 3), (1, 4), (4, 0), (0, 5)], [], [cx_i32, cx_i64, (0, 400), (0, 399), cx_i64, (0, 29), (1, 400)], [(0, 6, -1), (2, 3, 0), (2, 6, -1), (3, 6, -1)], [(35, 14, 6)], []), [(0, 99967), (1, 3), (0, 99932), (1, 5)]), (144, ([(2, 35), (0, 0), (1, 1), (4, 0), (0, 2), (0, 3), (0, 4)], [], [cx_i32, cx_i64, (0, 400), (-1, 2147483646), (0, 2147483647), (1, 400)], [(0, 5, -1), (3, 4, -1)], [(35, 14, 5)], []), [(0, 99856), (1, 4), (0, 300000), (0, 0)]), (187, ([(2, 35), (0, 0), (1, 1), (4, 0), (0, 2), (0, 3), (0, 4), (0, 5), (0, 6)], [], [cx_i32, cx_i64, (0, 400), (-1, 2147483646), (0, 2147483646), (0, 1), (0, 400), (2, 6), (2, 6), (1, 400)], [(0, 9, -1), (3, 4, -1), (5, 2, 1), (5, 3, 2), (5, 4, 1), (5, 6, 1), (5, 7, -1), (5, 8, -1), (5, 9, 0), (6, 2, 0), (7, 8, 4), (8, 7, 4)], [(35, 1, 7), (35, 0, 8), (35, 14, 9)], []), [(0, 99856), (1, 4), (0, 99813), (1, 6)])]) (n := 35) cx_hA0 (cx_Gc cv_201_0 (cx_Gc cv_202_0 (cx_Gc cv_180_0 (cx_Gc cv_171_0 (cx_Gc cv_183_0 cx_Gn))))) (by decide +kernel)
end
section
/-! How many bits a set has: the JDK's count of a long is the plain one. -/
noncomputable def pc : Nat → Nat → Nat
  | 0, _ => 0
  | k + 1, s => s % 2 + pc k (s / 2)
noncomputable def sc_m1 : Nat → Nat
  | 0 => 0
  | n + 1 => 1 + 4 * sc_m1 n
noncomputable def sc_m2 : Nat → Nat
  | 0 => 0
  | n + 1 => 3 + 16 * sc_m2 n
noncomputable def sc_m4 : Nat → Nat
  | 0 => 0
  | n + 1 => 15 + 256 * sc_m4 n
theorem sc_land {k a b c e : Nat} (ha : a < 2 ^ k) (hc : c < 2 ^ k) : (a + 2 ^ k * b) &&& (c + 2 ^ k * e) = (a &&& c) + 2 ^ k * (b &&& e) := by
  apply Nat.eq_of_testBit_eq
  intro i
  rw [Nat.testBit_and, Nat.add_comm a, Nat.add_comm c, Nat.add_comm (a &&& c), Nat.testBit_two_pow_mul_add _ ha, Nat.testBit_two_pow_mul_add _ hc, Nat.testBit_two_pow_mul_add _ (Nat.and_lt_two_pow a hc)]
  split
  · rw [Nat.testBit_and]
  · rw [Nat.testBit_and]
noncomputable def sc_G1 : Nat → Nat → Nat
  | 0, _ => 0
  | n + 1, s => (s % 4 + 1) / 2 + 4 * sc_G1 n (s / 4)
noncomputable def sc_G2 : Nat → Nat → Nat
  | 0, _ => 0
  | n + 1, t => (t % 4 + t % 16 / 4) + 16 * sc_G2 n (t / 16)
noncomputable def sc_G3 : Nat → Nat → Nat
  | 0, _ => 0
  | n + 1, u => (u % 16 + u % 256 / 16) + 256 * sc_G3 n (u / 256)
noncomputable def sc_Nb : Nat → Nat → Prop
  | 0, _ => True
  | n + 1, u => u % 16 ≤ 4 ∧ u % 256 / 16 ≤ 4 ∧ sc_Nb n (u / 256)
theorem sc_P1 : ∀ (n s : Nat), s < 4 ^ n → (s / 2) &&& sc_m1 n ≤ s ∧ s - ((s / 2) &&& sc_m1 n) = sc_G1 n s := by
  intro n
  induction n with
  | zero =>
    intro s h
    have : s = 0 := by simpa using h
    subst this
    exact ⟨by decide, rfl⟩
  | succ n ih =>
    intro s h
    rw [Nat.pow_succ] at h
    obtain ⟨i1, i2⟩ := ih (s / 4) (by omega)
    have e : s / 2 = (2 * (s / 4 % 2) + s % 4 / 2) + 2 ^ 2 * (s / 4 / 2) := by omega
    have h2 : (s / 2) &&& sc_m1 (n + 1) = (s % 4 / 2) + 4 * ((s / 4 / 2) &&& sc_m1 n) := by
      show (s / 2) &&& (1 + 2 ^ 2 * sc_m1 n) = _
      rw [e, sc_land (by omega) (by omega), Nat.and_one_is_mod]
      omega
    rw [h2]
    generalize (s / 4 / 2) &&& sc_m1 n = L at i1 i2
    show (s % 4 / 2) + 4 * L ≤ s ∧ s - ((s % 4 / 2) + 4 * L) = (s % 4 + 1) / 2 + 4 * sc_G1 n (s / 4)
    omega
theorem sc_and3 (a : Nat) : a &&& 3 = a % 4 := Nat.and_two_pow_sub_one_eq_mod a 2
theorem sc_and15 (a : Nat) : a &&& 15 = a % 16 := Nat.and_two_pow_sub_one_eq_mod a 4
theorem sc_and127 (a : Nat) : a &&& 127 = a % 128 := Nat.and_two_pow_sub_one_eq_mod a 7
theorem sc_P2 : ∀ (n t : Nat), t < 16 ^ n → (t &&& sc_m2 n) + ((t / 4) &&& sc_m2 n) = sc_G2 n t := by
  intro n
  induction n with
  | zero =>
    intro t h
    have : t = 0 := by simpa using h
    subst this
    rfl
  | succ n ih =>
    intro t h
    rw [Nat.pow_succ] at h
    have i1 := ih (t / 16) (by omega)
    have e0 : t = t % 16 + 2 ^ 4 * (t / 16) := by omega
    have e1 : t / 4 = (t % 16 / 4 + 4 * (t / 16 % 4)) + 2 ^ 4 * (t / 16 / 4) := by omega
    have h1 : t &&& sc_m2 (n + 1) = t % 4 + 16 * ((t / 16) &&& sc_m2 n) := by
      show t &&& (3 + 2 ^ 4 * sc_m2 n) = _
      rw [show t &&& (3 + 2 ^ 4 * sc_m2 n) = (t % 16 + 2 ^ 4 * (t / 16)) &&& (3 + 2 ^ 4 * sc_m2 n) from by rw [← e0], sc_land (by omega) (by decide), sc_and3]
      omega
    have h2 : (t / 4) &&& sc_m2 (n + 1) = t % 16 / 4 + 16 * ((t / 16 / 4) &&& sc_m2 n) := by
      show (t / 4) &&& (3 + 2 ^ 4 * sc_m2 n) = _
      rw [e1, sc_land (by omega) (by decide), sc_and3]
      omega
    rw [h1, h2]
    show _ = (t % 4 + t % 16 / 4) + 16 * sc_G2 n (t / 16)
    rw [← i1]
    omega
theorem sc_P3 : ∀ (n u : Nat), u < 256 ^ n → sc_Nb n u → (u + u / 16) &&& sc_m4 n = sc_G3 n u := by
  intro n
  induction n with
  | zero =>
    intro u h _
    have : u = 0 := by simpa using h
    subst this
    rfl
  | succ n ih =>
    intro u h hb
    rw [Nat.pow_succ] at h
    obtain ⟨b0, b1, b2⟩ := hb
    have i1 := ih (u / 256) (by omega) b2
    have hy : u / 256 % 16 ≤ 4 := by
      cases n with
      | zero =>
        have : u / 256 = 0 := by simp at h; omega
        rw [this]
        decide
      | succ n => exact b2.1
    have e1 : u + u / 16 = (u % 16 + u % 256 / 16 + 16 * (u % 256 / 16 + u / 256 % 16)) + 2 ^ 8 * (u / 256 + u / 256 / 16) := by omega
    show (u + u / 16) &&& (15 + 2 ^ 8 * sc_m4 n) = (u % 16 + u % 256 / 16) + 256 * sc_G3 n (u / 256)
    rw [e1, sc_land (by omega) (by decide), sc_and15, i1]
    omega
/-! by bytes -/
theorem sc_B1 (n s : Nat) : sc_G1 (4 * (n + 1)) s = sc_G1 4 (s % 256) + 256 * sc_G1 (4 * n) (s / 256) := by
  rw [show 4 * (n + 1) = 4 * n + 1 + 1 + 1 + 1 by omega]
  simp only [sc_G1]
  rw [show s / 4 / 4 / 4 / 4 = s / 256 by omega]
  omega
theorem sc_B2 (n t : Nat) : sc_G2 (2 * (n + 1)) t = sc_G2 2 (t % 256) + 256 * sc_G2 (2 * n) (t / 256) := by
  rw [show 2 * (n + 1) = 2 * n + 1 + 1 by omega]
  simp only [sc_G2]
  rw [show t / 16 / 16 = t / 256 by omega]
  omega
theorem sc_pc8 (n s : Nat) : pc (8 + n) s = pc 8 (s % 256) + pc n (s / 256) := by
  rw [show 8 + n = n + 1 + 1 + 1 + 1 + 1 + 1 + 1 + 1 by omega]
  simp only [pc]
  rw [show s / 2 / 2 / 2 / 2 / 2 / 2 / 2 / 2 = s / 256 by omega]
  omega
noncomputable def sc_kb (d : Nat) : Nat := sc_G3 1 (sc_G2 2 (sc_G1 4 d))
theorem sc_tab : ((List.range 256).all fun d => Nat.blt (sc_G1 4 d) 256 && (Nat.blt (sc_G2 2 (sc_G1 4 d)) 256 && (Nat.beq (sc_kb d) (pc 8 d) && (Nat.ble (pc 8 d) 8 && (Nat.ble (sc_G2 2 (sc_G1 4 d) % 16) 4 && Nat.ble (sc_G2 2 (sc_G1 4 d) % 256 / 16) 4))))) = true := by decide +kernel
theorem sc_tab_s {d : Nat} (h : d < 256) : sc_G1 4 d < 256 ∧ sc_G2 2 (sc_G1 4 d) < 256 ∧ sc_kb d = pc 8 d ∧ pc 8 d ≤ 8 ∧ sc_G2 2 (sc_G1 4 d) % 16 ≤ 4 ∧ sc_G2 2 (sc_G1 4 d) % 256 / 16 ≤ 4 := by
  have h1 := List.all_eq_true.mp sc_tab d (List.mem_range.mpr h)
  simp only [Bool.and_eq_true] at h1
  obtain ⟨a, b, c, e, f, g⟩ := h1
  exact ⟨Nat.le_of_ble_eq_true a, Nat.le_of_ble_eq_true b, Nat.eq_of_beq_eq_true c, Nat.le_of_ble_eq_true e, Nat.le_of_ble_eq_true f, Nat.le_of_ble_eq_true g⟩
theorem sc_K (n s : Nat) : sc_G3 (n + 1) (sc_G2 (2 * (n + 1)) (sc_G1 (4 * (n + 1)) s)) = pc 8 (s % 256) + 256 * sc_G3 n (sc_G2 (2 * n) (sc_G1 (4 * n) (s / 256))) ∧ (sc_Nb n (sc_G2 (2 * n) (sc_G1 (4 * n) (s / 256))) → sc_Nb (n + 1) (sc_G2 (2 * (n + 1)) (sc_G1 (4 * (n + 1)) s))) := by
  obtain ⟨a, b, c, -, f, g⟩ := sc_tab_s (d := s % 256) (by omega)
  have e1 := sc_B1 n s
  have e2 := sc_B2 n (sc_G1 (4 * (n + 1)) s)
  rw [e1, show (sc_G1 4 (s % 256) + 256 * sc_G1 (4 * n) (s / 256)) % 256 = sc_G1 4 (s % 256) by omega, show (sc_G1 4 (s % 256) + 256 * sc_G1 (4 * n) (s / 256)) / 256 = sc_G1 (4 * n) (s / 256) by omega] at e2
  rw [e1, e2]
  generalize sc_G2 (2 * n) (sc_G1 (4 * n) (s / 256)) = y
  unfold sc_kb at c
  simp only [sc_G3] at c
  generalize sc_G2 2 (sc_G1 4 (s % 256)) = d at b c f g ⊢
  constructor
  · show (_ % 16 + _ % 256 / 16) + 256 * sc_G3 n ((d + 256 * y) / 256) = _
    rw [show (d + 256 * y) / 256 = y by omega, ← c]
    omega
  · intro h
    refine ⟨by omega, by omega, ?_⟩
    rw [show (d + 256 * y) / 256 = y by omega]
    exact h
noncomputable def sc_KK (n x : Nat) : Nat := sc_G3 n (sc_G2 (2 * n) (sc_G1 (4 * n) x))
theorem sc_KK_s (n x : Nat) : sc_KK (n + 1) x = pc 8 (x % 256) + 256 * sc_KK n (x / 256) := (sc_K n x).1
theorem sc_NbA : ∀ (n s : Nat), sc_Nb n (sc_G2 (2 * n) (sc_G1 (4 * n) s)) := by
  intro n
  induction n with
  | zero => exact fun _ => trivial
  | succ n ih => exact fun s => (sc_K n s).2 (ih (s / 256))
theorem sc_G1_lt : ∀ (n s : Nat), sc_G1 n s < 4 ^ n := by
  intro n
  induction n with
  | zero => exact fun _ => Nat.zero_lt_one
  | succ n ih =>
    intro s
    have := ih (s / 4)
    rw [Nat.pow_succ]
    simp only [sc_G1]
    omega
theorem sc_G2_lt : ∀ (n s : Nat), sc_G2 n s < 16 ^ n := by
  intro n
  induction n with
  | zero => exact fun _ => Nat.zero_lt_one
  | succ n ih =>
    intro s
    have := ih (s / 16)
    rw [Nat.pow_succ]
    simp only [sc_G2]
    omega
noncomputable def sc_1 (s : Nat) : Nat := s - ((s >>> 1) &&& 6148914691236517205)
noncomputable def sc_2 (s : Nat) : Nat := (s &&& 3689348814741910323) + ((s >>> 2) &&& 3689348814741910323)
noncomputable def sc_3 (s : Nat) : Nat := (s + (s >>> 4)) &&& 1085102592571150095
noncomputable def sc_4 (s : Nat) : Nat := s + (s >>> 8)
noncomputable def sc_5 (s : Nat) : Nat := s + (s >>> 16)
noncomputable def sc_6 (s : Nat) : Nat := s + (s >>> 32)
theorem sc_d8 {b t : Nat} (h : b ≤ 8) : (b + 256 * t) / 2 ^ 8 = t := by
  show (b + 256 * t) / 256 = t
  omega
theorem sc_d16 {w t : Nat} (h : w < 65536) : (w + 65536 * t) / 2 ^ 16 = t := by
  show (w + 65536 * t) / 65536 = t
  omega
theorem sc_d32 {w t : Nat} (h : w < 4294967296) : (w + 4294967296 * t) / 2 ^ 32 = t := by
  show (w + 4294967296 * t) / 4294967296 = t
  omega
theorem sc_two (b0 b1 b2 t : Nat) : (b0 + 256 * (b1 + 256 * (b2 + 256 * t))) + (b1 + 256 * (b2 + 256 * t)) = (b0 + b1 + 256 * (b1 + b2)) + 65536 * ((b2 + 256 * t) + t) := by omega
theorem sc_four (w0 w1 w2 w3 : Nat) : (w0 + 65536 * (w1 + 65536 * (w2 + 65536 * w3))) + (w1 + 65536 * (w2 + 65536 * w3)) = (w0 + w1 + 65536 * (w1 + w2)) + 4294967296 * (w2 + w3 + 65536 * w3) := by omega
theorem sc_all (w0 w1 w2 w3 : Nat) : ((w0 + w1 + 65536 * (w1 + w2)) + 4294967296 * (w2 + w3 + 65536 * w3)) + (w2 + w3 + 65536 * w3) = (w0 + w1 + w2 + w3) + 128 * (512 * (w1 + w2) + 33554432 * (w2 + w3 + 65536 * w3) + 512 * w3) := by omega
theorem sc_sum {b0 b1 b2 b3 b4 b5 b6 b7 : Nat} (h0 : b0 ≤ 8) (h1 : b1 ≤ 8) (h2 : b2 ≤ 8) (h3 : b3 ≤ 8) (h4 : b4 ≤ 8) (h5 : b5 ≤ 8) (h6 : b6 ≤ 8) (h7 : b7 ≤ 8) :
    sc_6 (sc_5 (sc_4 (b0 + 256 * (b1 + 256 * (b2 + 256 * (b3 + 256 * (b4 + 256 * (b5 + 256 * (b6 + 256 * b7))))))))) % 128 = b0 + b1 + b2 + b3 + b4 + b5 + b6 + b7 := by
  have e7 : (b6 + 256 * b7) + b7 = b6 + b7 + 256 * b7 := by omega
  unfold sc_4
  rw [Nat.shiftRight_eq_div_pow, sc_d8 h0, sc_two, sc_two, sc_two, e7]
  have k0 : b0 + b1 + 256 * (b1 + b2) < 65536 := by omega
  have k1 : b2 + b3 + 256 * (b3 + b4) < 65536 := by omega
  have k2 : b4 + b5 + 256 * (b5 + b6) < 65536 := by omega
  have ks : (b0 + b1 + 256 * (b1 + b2)) + (b2 + b3 + 256 * (b3 + b4)) + 65536 * ((b2 + b3 + 256 * (b3 + b4)) + (b4 + b5 + 256 * (b5 + b6))) < 4294967296 := by omega
  have hq : (b0 + b1 + 256 * (b1 + b2)) + (b2 + b3 + 256 * (b3 + b4)) + (b4 + b5 + 256 * (b5 + b6)) + (b6 + b7 + 256 * b7) = (b0 + b1 + b2 + b3 + b4 + b5 + b6 + b7) + 128 * (2 * (b1 + b2 + b3 + b4 + b5 + b6 + b7)) := by omega
  have hl : b0 + b1 + b2 + b3 + b4 + b5 + b6 + b7 < 128 := by omega
  unfold sc_5
  rw [Nat.shiftRight_eq_div_pow, sc_d16 k0, sc_four]
  unfold sc_6
  rw [Nat.shiftRight_eq_div_pow, sc_d32 ks, sc_all, Nat.add_mul_mod_self_left, hq, Nat.add_mul_mod_self_left, Nat.mod_eq_of_lt hl]
theorem sc_nat {s : Nat} (hs : s < 2 ^ 64) : sc_6 (sc_5 (sc_4 (sc_3 (sc_2 (sc_1 s))))) &&& 127 = pc 64 s := by
  have e1 : sc_1 s = sc_G1 32 s := by
    have h := (sc_P1 32 s (by omega)).2
    unfold sc_1
    rw [Nat.shiftRight_eq_div_pow, show (6148914691236517205 : Nat) = sc_m1 32 from by decide +kernel]
    exact h
  have e2 : sc_2 (sc_G1 32 s) = sc_G2 16 (sc_G1 32 s) := by
    have h := sc_P2 16 (sc_G1 32 s) (Nat.lt_of_lt_of_eq (sc_G1_lt 32 s) (by decide +kernel))
    unfold sc_2
    rw [Nat.shiftRight_eq_div_pow, show (3689348814741910323 : Nat) = sc_m2 16 from by decide +kernel]
    exact h
  have e3 : sc_3 (sc_G2 16 (sc_G1 32 s)) = sc_G3 8 (sc_G2 16 (sc_G1 32 s)) := by
    have h := sc_P3 8 (sc_G2 16 (sc_G1 32 s)) (Nat.lt_of_lt_of_eq (sc_G2_lt 16 _) (by decide +kernel)) (sc_NbA 8 s)
    unfold sc_3
    rw [Nat.shiftRight_eq_div_pow, show (1085102592571150095 : Nat) = sc_m4 8 from by decide +kernel]
    exact h
  rw [e1, e2, e3, sc_and127]
  have e : sc_G3 8 (sc_G2 16 (sc_G1 32 s)) = sc_KK 8 s := rfl
  have k7 : ∀ x, sc_KK 8 x = pc 8 (x % 256) + 256 * sc_KK 7 (x / 256) := sc_KK_s 7
  have k6 : ∀ x, sc_KK 7 x = pc 8 (x % 256) + 256 * sc_KK 6 (x / 256) := sc_KK_s 6
  have k5 : ∀ x, sc_KK 6 x = pc 8 (x % 256) + 256 * sc_KK 5 (x / 256) := sc_KK_s 5
  have k4 : ∀ x, sc_KK 5 x = pc 8 (x % 256) + 256 * sc_KK 4 (x / 256) := sc_KK_s 4
  have k3 : ∀ x, sc_KK 4 x = pc 8 (x % 256) + 256 * sc_KK 3 (x / 256) := sc_KK_s 3
  have k2 : ∀ x, sc_KK 3 x = pc 8 (x % 256) + 256 * sc_KK 2 (x / 256) := sc_KK_s 2
  have k1 : ∀ x, sc_KK 2 x = pc 8 (x % 256) + 256 * sc_KK 1 (x / 256) := sc_KK_s 1
  have k0 : ∀ x, sc_KK 1 x = pc 8 (x % 256) := fun x => by
    have h : sc_KK 1 x = pc 8 (x % 256) + 256 * sc_KK 0 (x / 256) := sc_KK_s 0 x
    rw [h]
    rfl
  rw [e, k7, k6, k5, k4, k3, k2, k1, k0]
  have t : ∀ q : Nat, pc 8 (q % 256) ≤ 8 := fun q => (sc_tab_s (d := q % 256) (by omega)).2.2.2.1
  rw [sc_sum (t _) (t _) (t _) (t _) (t _) (t _) (t _) (t _)]
  have q0 : pc 64 s = pc 8 (s % 256) + pc 56 (s / 256) := sc_pc8 56 s
  have q1 : ∀ x, pc 56 x = pc 8 (x % 256) + pc 48 (x / 256) := sc_pc8 48
  have q2 : ∀ x, pc 48 x = pc 8 (x % 256) + pc 40 (x / 256) := sc_pc8 40
  have q3 : ∀ x, pc 40 x = pc 8 (x % 256) + pc 32 (x / 256) := sc_pc8 32
  have q4 : ∀ x, pc 32 x = pc 8 (x % 256) + pc 24 (x / 256) := sc_pc8 24
  have q5 : ∀ x, pc 24 x = pc 8 (x % 256) + pc 16 (x / 256) := sc_pc8 16
  have q6 : ∀ x, pc 16 x = pc 8 (x % 256) + pc 8 (x / 256) := sc_pc8 8
  rw [q0, q1, q2, q3, q4, q5, q6]
  have l : pc 8 (s / 256 / 256 / 256 / 256 / 256 / 256 / 256) = pc 8 (s / 256 / 256 / 256 / 256 / 256 / 256 / 256 % 256) := by
    rw [Nat.mod_eq_of_lt]
    omega
  omega
/-! over longs -/
theorem sc_andJ (a b : Nat) : Int64.ofNat a &&& Int64.ofNat b = Int64.ofNat (a &&& b) := by
  apply Int64.toBitVec_inj.1
  show BitVec.ofNat 64 a &&& BitVec.ofNat 64 b = BitVec.ofNat 64 (a &&& b)
  apply BitVec.eq_of_getLsbD_eq
  intro i hi
  simp [hi]
theorem sc_andI (a b : Nat) : Int32.ofNat a &&& Int32.ofNat b = Int32.ofNat (a &&& b) := by
  apply Int32.toBitVec_inj.1
  show BitVec.ofNat 32 a &&& BitVec.ofNat 32 b = BitVec.ofNat 32 (a &&& b)
  apply BitVec.eq_of_getLsbD_eq
  intro i hi
  simp [hi]
theorem sc_ush {s : Nat} (k : Nat) (hk : k < 64) (hs : s < 2 ^ 64) : ((Int64.ofNat s).toUInt64 >>> (UInt64.ofNat k)).toInt64 = Int64.ofNat (s >>> k) := by
  have h1 : s >>> k ≤ s := by rw [Nat.shiftRight_eq_div_pow]; exact Nat.div_le_self _ _
  have e : UInt64.ofNat s >>> UInt64.ofNat k = UInt64.ofNat (s >>> k) := UInt64.toNat_inj.mp (by
    rw [UInt64.toNat_shiftRight, UInt64.toNat_ofNat', UInt64.toNat_ofNat', UInt64.toNat_ofNat', Nat.mod_eq_of_lt hs, Nat.mod_eq_of_lt (show k < 2 ^ 64 by omega), Nat.mod_eq_of_lt hk, Nat.mod_eq_of_lt (show s >>> k < 2 ^ 64 by omega)])
  show (UInt64.ofNat s >>> UInt64.ofNat k).toInt64 = _
  rw [e]
  rfl
theorem sc_x1 {s : Nat} (hs : s < 2 ^ 64) : Int64.ofNat s - ((((Int64.ofNat s).toUInt64 >>> 1).toInt64) &&& (6148914691236517205 : Int64)) = Int64.ofNat (sc_1 s) := by
  have e := sc_ush 1 (by decide) hs
  rw [show ((Int64.ofNat s).toUInt64 >>> 1).toInt64 = Int64.ofNat (s >>> 1) from e, show (6148914691236517205 : Int64) = Int64.ofNat 6148914691236517205 from rfl, sc_andJ]
  unfold sc_1
  rw [Int64.ofNat_sub]
  exact Nat.le_trans Nat.and_le_left (by rw [Nat.shiftRight_eq_div_pow]; exact Nat.div_le_self _ _)
theorem sc_x2 {s : Nat} (hs : s < 2 ^ 64) : (Int64.ofNat s &&& (3689348814741910323 : Int64)) + ((((Int64.ofNat s).toUInt64 >>> 2).toInt64) &&& (3689348814741910323 : Int64)) = Int64.ofNat (sc_2 s) := by
  have e := sc_ush 2 (by decide) hs
  rw [show ((Int64.ofNat s).toUInt64 >>> 2).toInt64 = Int64.ofNat (s >>> 2) from e, show (3689348814741910323 : Int64) = Int64.ofNat 3689348814741910323 from rfl, sc_andJ, sc_andJ, ← Int64.ofNat_add]
  rfl
theorem sc_x3 {s : Nat} (hs : s < 2 ^ 64) : (Int64.ofNat s + (((Int64.ofNat s).toUInt64 >>> 4).toInt64)) &&& (1085102592571150095 : Int64) = Int64.ofNat (sc_3 s) := by
  have e := sc_ush 4 (by decide) hs
  rw [show ((Int64.ofNat s).toUInt64 >>> 4).toInt64 = Int64.ofNat (s >>> 4) from e, show (1085102592571150095 : Int64) = Int64.ofNat 1085102592571150095 from rfl, ← Int64.ofNat_add, sc_andJ]
  rfl
theorem sc_x4 {s : Nat} (hs : s < 2 ^ 64) : Int64.ofNat s + (((Int64.ofNat s).toUInt64 >>> 8).toInt64) = Int64.ofNat (sc_4 s) := by
  have e := sc_ush 8 (by decide) hs
  rw [show ((Int64.ofNat s).toUInt64 >>> 8).toInt64 = Int64.ofNat (s >>> 8) from e, ← Int64.ofNat_add]
  rfl
theorem sc_x5 {s : Nat} (hs : s < 2 ^ 64) : Int64.ofNat s + (((Int64.ofNat s).toUInt64 >>> 16).toInt64) = Int64.ofNat (sc_5 s) := by
  have e := sc_ush 16 (by decide) hs
  rw [show ((Int64.ofNat s).toUInt64 >>> 16).toInt64 = Int64.ofNat (s >>> 16) from e, ← Int64.ofNat_add]
  rfl
theorem sc_x6 {s : Nat} (hs : s < 2 ^ 64) : Int64.ofNat s + (((Int64.ofNat s).toUInt64 >>> 32).toInt64) = Int64.ofNat (sc_6 s) := by
  have e := sc_ush 32 (by decide) hs
  rw [show ((Int64.ofNat s).toUInt64 >>> 32).toInt64 = Int64.ofNat (s >>> 32) from e, ← Int64.ofNat_add]
  rfl
theorem sc_half (s k : Nat) : s >>> k ≤ s := by rw [Nat.shiftRight_eq_div_pow]; exact Nat.div_le_self _ _
theorem sc_bcJ {s : Nat} (hs : s < 2 ^ 64) : ev_bcJ (Int64.ofNat s) = Int32.ofNat (pc 64 s) := by
  have b1 : sc_1 s ≤ s := Nat.sub_le _ _
  have b2 : sc_2 (sc_1 s) ≤ 3689348814741910323 + 3689348814741910323 := Nat.add_le_add Nat.and_le_right Nat.and_le_right
  have b3 : sc_3 (sc_2 (sc_1 s)) ≤ 1085102592571150095 := Nat.and_le_right
  have b4 : sc_4 (sc_3 (sc_2 (sc_1 s))) ≤ sc_3 (sc_2 (sc_1 s)) + sc_3 (sc_2 (sc_1 s)) := Nat.add_le_add_left (sc_half _ _) _
  have b5 : sc_5 (sc_4 (sc_3 (sc_2 (sc_1 s)))) ≤ sc_4 (sc_3 (sc_2 (sc_1 s))) + sc_4 (sc_3 (sc_2 (sc_1 s))) := Nat.add_le_add_left (sc_half _ _) _
  unfold ev_bcJ
  rw [sc_x1 (by omega), sc_x2 (by omega), sc_x3 (by omega), sc_x4 (by omega), sc_x5 (by omega), sc_x6 (by omega), Int64.toInt32_ofNat', show (127 : Int32) = Int32.ofNat 127 from rfl, sc_andI, sc_nat hs]
end
section
/-! How many bits a shape has: the JDK's count and the reference's are one. -/
noncomputable def sb_x1 (s : Nat) : Nat := s - ((s >>> 1) &&& 1431655765)
noncomputable def sb_x2 (s : Nat) : Nat := (s &&& 858993459) + ((s >>> 2) &&& 858993459)
noncomputable def sb_x3 (s : Nat) : Nat := (s + (s >>> 4)) &&& 252645135
noncomputable def sb_x4 (s : Nat) : Nat := s + (s >>> 8)
noncomputable def sb_x5 (s : Nat) : Nat := s + (s >>> 16)
noncomputable def sb_n (s : Nat) : Nat := sb_x5 (sb_x4 (sb_x3 (sb_x2 (sb_x1 s)))) &&& 63
theorem sb_and (a b : Nat) : Int32.ofNat a &&& Int32.ofNat b = Int32.ofNat (a &&& b) := by
  apply Int32.toBitVec_inj.1
  show BitVec.ofNat 32 a &&& BitVec.ofNat 32 b = BitVec.ofNat 32 (a &&& b)
  apply BitVec.eq_of_getLsbD_eq
  intro i hi
  simp [hi]
theorem sb_ush {s : Nat} (k : Nat) (hk : k < 32) (hs : s < 2 ^ 31) : ((Int32.ofNat s).toUInt32 >>> (UInt32.ofNat k)).toInt32 = Int32.ofNat (s >>> k) := by
  have h1 : s >>> k ≤ s := by rw [Nat.shiftRight_eq_div_pow]; exact Nat.div_le_self _ _
  have e : UInt32.ofNat s >>> UInt32.ofNat k = UInt32.ofNat (s >>> k) := UInt32.toNat_inj.mp (by
    rw [UInt32.toNat_shiftRight, UInt32.toNat_ofNat', UInt32.toNat_ofNat', UInt32.toNat_ofNat', Nat.mod_eq_of_lt (show s < 2 ^ 32 by omega), Nat.mod_eq_of_lt (show k < 2 ^ 32 by omega), Nat.mod_eq_of_lt hk, Nat.mod_eq_of_lt (show s >>> k < 2 ^ 32 by omega)])
  show (UInt32.ofNat s >>> UInt32.ofNat k).toInt32 = _
  rw [e]
  rfl
theorem sb_le (s k : Nat) : s >>> k ≤ s := by rw [Nat.shiftRight_eq_div_pow]; exact Nat.div_le_self _ _
theorem sb_1 {s : Nat} (hs : s < 2 ^ 31) : Int32.ofNat s - (((Int32.ofNat s).toUInt32 >>> 1).toInt32 &&& (1431655765 : Int32)) = Int32.ofNat (sb_x1 s) := by
  have e := sb_ush 1 (by decide) hs
  rw [show ((Int32.ofNat s).toUInt32 >>> 1).toInt32 = Int32.ofNat (s >>> 1) from e, show (1431655765 : Int32) = Int32.ofNat 1431655765 from rfl, sb_and]
  unfold sb_x1
  rw [Int32.ofNat_sub]
  exact Nat.le_trans Nat.and_le_left (sb_le s 1)
theorem sb_2 {s : Nat} (hs : s < 2 ^ 31) : (Int32.ofNat s &&& (858993459 : Int32)) + (((Int32.ofNat s).toUInt32 >>> 2).toInt32 &&& (858993459 : Int32)) = Int32.ofNat (sb_x2 s) := by
  have e := sb_ush 2 (by decide) hs
  rw [show ((Int32.ofNat s).toUInt32 >>> 2).toInt32 = Int32.ofNat (s >>> 2) from e, show (858993459 : Int32) = Int32.ofNat 858993459 from rfl, sb_and, sb_and, ← Int32.ofNat_add]
  rfl
theorem sb_3 {s : Nat} (hs : s < 2 ^ 31) : (Int32.ofNat s + ((Int32.ofNat s).toUInt32 >>> 4).toInt32) &&& (252645135 : Int32) = Int32.ofNat (sb_x3 s) := by
  have e := sb_ush 4 (by decide) hs
  rw [show ((Int32.ofNat s).toUInt32 >>> 4).toInt32 = Int32.ofNat (s >>> 4) from e, show (252645135 : Int32) = Int32.ofNat 252645135 from rfl, ← Int32.ofNat_add, sb_and]
  rfl
theorem sb_4 {s : Nat} (hs : s < 2 ^ 31) : Int32.ofNat s + ((Int32.ofNat s).toUInt32 >>> 8).toInt32 = Int32.ofNat (sb_x4 s) := by
  have e := sb_ush 8 (by decide) hs
  rw [show ((Int32.ofNat s).toUInt32 >>> 8).toInt32 = Int32.ofNat (s >>> 8) from e, ← Int32.ofNat_add]
  rfl
theorem sb_5 {s : Nat} (hs : s < 2 ^ 31) : (Int32.ofNat s + ((Int32.ofNat s).toUInt32 >>> 16).toInt32) &&& (63 : Int32) = Int32.ofNat (sb_x5 s &&& 63) := by
  have e := sb_ush 16 (by decide) hs
  rw [show ((Int32.ofNat s).toUInt32 >>> 16).toInt32 = Int32.ofNat (s >>> 16) from e, show (63 : Int32) = Int32.ofNat 63 from rfl, ← Int32.ofNat_add, sb_and]
  rfl
theorem sb_bcI {s : Nat} (hs : s < 65536) : ev_bcI (Int32.ofNat s) = Int32.ofNat (sb_n s) := by
  have b1 : sb_x1 s ≤ s := Nat.sub_le _ _
  have b2 : sb_x2 (sb_x1 s) ≤ sb_x1 s + sb_x1 s := Nat.add_le_add Nat.and_le_left (Nat.le_trans Nat.and_le_left (sb_le _ _))
  have b3 : sb_x3 (sb_x2 (sb_x1 s)) ≤ sb_x2 (sb_x1 s) + sb_x2 (sb_x1 s) := Nat.le_trans Nat.and_le_left (Nat.add_le_add_left (sb_le _ _) _)
  have b4 : sb_x4 (sb_x3 (sb_x2 (sb_x1 s))) ≤ sb_x3 (sb_x2 (sb_x1 s)) + sb_x3 (sb_x2 (sb_x1 s)) := Nat.add_le_add_left (sb_le _ _) _
  unfold ev_bcI
  rw [sb_1 (by omega), sb_2 (by omega), sb_3 (by omega), sb_4 (by omega), sb_5 (by omega)]
  rfl
/-- the reference's count, over naturals -/
noncomputable def sb_cnt (s : Nat) : Nat → Nat → Nat → Nat
  | 0, _, n => n
  | r + 1, k, n => sb_cnt s r (k + 1) (n + (s >>> k) % 2)
theorem sb_c36 : ∀ j, j < 36 → ((Int32.ofNat j).toInt64 &&& 63) = Int64.ofNat j := by decide +kernel
theorem sb_d36 : ∀ j, j < 36 → ((Int64.ofNat j).toBitVec.smod 64).toNat = j := by decide +kernel
theorem sb_toInt {a : Nat} (h : a < 2 ^ 63) : (Int64.ofNat a).toInt = (a : Int) := Int64.toInt_ofNat_of_lt h
theorem sb_shr {a j : Nat} (hj : j < 36) (h : a < 2 ^ 62) : Int64.ofNat a >>> Int64.ofNat j = Int64.ofNat (a >>> j) := by
  have hd : a >>> j ≤ a := sb_le a j
  apply Int64.toInt_inj.mp
  have e : (Int64.ofNat a >>> Int64.ofNat j).toInt = (Int64.ofNat a).toInt >>> j := by
    have h2 := sb_d36 j hj
    show ((Int64.ofNat a).toBitVec.sshiftRight ((Int64.ofNat j).toBitVec.smod 64).toNat).toInt = (Int64.ofNat a).toBitVec.toInt >>> j
    rw [h2, BitVec.toInt_sshiftRight]
  rw [e, Int.shiftRight_eq_div_pow, sb_toInt (by omega), sb_toInt (by omega), Nat.shiftRight_eq_div_pow]
  rfl
theorem sb_and1 (a : Nat) : Int64.ofNat a &&& (1 : Int64) = Int64.ofNat (a % 2) := by
  apply Int64.toBitVec_inj.1
  show BitVec.ofNat 64 a &&& BitVec.ofNat 64 1 = BitVec.ofNat 64 (a % 2)
  apply BitVec.eq_of_toNat_eq
  rw [BitVec.toNat_and, BitVec.toNat_ofNat, BitVec.toNat_ofNat, BitVec.toNat_ofNat]
  show a % 2 ^ 64 &&& 1 = a % 2 % 2 ^ 64
  rw [show (1 : Nat) = 2 ^ 1 - 1 from rfl, Nat.and_two_pow_sub_one_eq_mod]
  omega
theorem sb_has {s j : Nat} (hs : s < 65536) (hj : j < 36) : ev_has (Int64.ofNat s) (Int32.ofNat j) = Int32.ofNat ((s >>> j) % 2) := by
  unfold ev_has
  rw [sb_c36 j hj, sb_shr hj (by omega), sb_and1]
  rcases Nat.mod_two_eq_zero_or_one (s >>> j) with h | h <;> rw [h] <;> decide +kernel
theorem sb_bitsF {s : Nat} (hs : s < 65536) : ∀ r j n, j + r = 36 → ev_bitsF (Int64.ofNat s) r (Int32.ofNat j) (Int32.ofNat n) = Int32.ofNat (sb_cnt s r j n) := by
  intro r
  induction r with
  | zero => intro j n h; rfl
  | succ r ih =>
    intro j n h
    show ev_bitsF (Int64.ofNat s) r (Int32.ofNat j + 1) (Int32.ofNat n + ev_has (Int64.ofNat s) (Int32.ofNat j)) = _
    rw [sb_has hs (by omega), ← Int32.ofNat_add, show Int32.ofNat j + 1 = Int32.ofNat (j + 1) from (Int32.ofNat_add j 1).symm, ih _ _ (by omega)]
    rfl
theorem sbq_cnt (s : Nat) : ∀ r j n, sb_cnt s r j n = n + pc r (s >>> j) := by
  intro r
  induction r with
  | zero => exact fun _ _ => rfl
  | succ r ih =>
    intro j n
    show sb_cnt s r (j + 1) (n + (s >>> j) % 2) = n + ((s >>> j) % 2 + pc r ((s >>> j) / 2))
    rw [ih, Nat.shiftRight_succ, Nat.add_assoc]
theorem sbq_zero : ∀ k, pc k 0 = 0 := by
  intro k
  induction k with
  | zero => rfl
  | succ k ih =>
    show 0 % 2 + pc k (0 / 2) = 0
    rw [Nat.zero_div, ih]
theorem sbq_sum {b0 b1 b2 b3 : Nat} (h0 : b0 ≤ 8) (h1 : b1 ≤ 8) (h2 : b2 ≤ 8) (h3 : b3 ≤ 8) : sb_x5 (sb_x4 (b0 + 256 * (b1 + 256 * (b2 + 256 * b3)))) % 64 = b0 + b1 + b2 + b3 := by
  have e1 : b0 + 256 * (b1 + 256 * (b2 + 256 * b3)) + (b1 + 256 * (b2 + 256 * b3)) = (b0 + b1 + 256 * (b1 + b2)) + 65536 * (b2 + b3 + 256 * b3) := by omega
  have k0 : b0 + b1 + 256 * (b1 + b2) < 65536 := by omega
  have e2 : (b0 + b1 + 256 * (b1 + b2)) + 65536 * (b2 + b3 + 256 * b3) + (b2 + b3 + 256 * b3) = (b0 + b1 + b2 + b3) + 64 * (4 * (b1 + b2) + 1024 * (b2 + b3 + 256 * b3) + 4 * b3) := by omega
  have hl : b0 + b1 + b2 + b3 < 64 := by omega
  unfold sb_x4
  rw [Nat.shiftRight_eq_div_pow, sc_d8 h0, e1]
  unfold sb_x5
  rw [Nat.shiftRight_eq_div_pow, sc_d16 k0, e2, Nat.add_mul_mod_self_left, Nat.mod_eq_of_lt hl]
theorem sb_eq {s : Nat} (hs : s < 65536) : sb_cnt s 36 0 0 = sb_n s := by
  have e1 : sb_x1 s = sc_G1 16 s := by
    have h := (sc_P1 16 s (by omega)).2
    unfold sb_x1
    rw [Nat.shiftRight_eq_div_pow, show (1431655765 : Nat) = sc_m1 16 from by decide +kernel]
    exact h
  have e2 : sb_x2 (sc_G1 16 s) = sc_G2 8 (sc_G1 16 s) := by
    have h := sc_P2 8 (sc_G1 16 s) (Nat.lt_of_lt_of_eq (sc_G1_lt 16 s) (by decide +kernel))
    unfold sb_x2
    rw [Nat.shiftRight_eq_div_pow, show (858993459 : Nat) = sc_m2 8 from by decide +kernel]
    exact h
  have e3 : sb_x3 (sc_G2 8 (sc_G1 16 s)) = sc_G3 4 (sc_G2 8 (sc_G1 16 s)) := by
    have h := sc_P3 4 (sc_G2 8 (sc_G1 16 s)) (Nat.lt_of_lt_of_eq (sc_G2_lt 8 _) (by decide +kernel)) (sc_NbA 4 s)
    unfold sb_x3
    rw [Nat.shiftRight_eq_div_pow, show (252645135 : Nat) = sc_m4 4 from by decide +kernel]
    exact h
  have k3 : ∀ x, sc_KK 4 x = pc 8 (x % 256) + 256 * sc_KK 3 (x / 256) := sc_KK_s 3
  have k2 : ∀ x, sc_KK 3 x = pc 8 (x % 256) + 256 * sc_KK 2 (x / 256) := sc_KK_s 2
  have k1 : ∀ x, sc_KK 2 x = pc 8 (x % 256) + 256 * sc_KK 1 (x / 256) := sc_KK_s 1
  have k0 : ∀ x, sc_KK 1 x = pc 8 (x % 256) := fun x => by
    have h : sc_KK 1 x = pc 8 (x % 256) + 256 * sc_KK 0 (x / 256) := sc_KK_s 0 x
    rw [h]
    rfl
  have e : sc_G3 4 (sc_G2 8 (sc_G1 16 s)) = sc_KK 4 s := rfl
  have t : ∀ q : Nat, pc 8 (q % 256) ≤ 8 := fun q => (sc_tab_s (d := q % 256) (by omega)).2.2.2.1
  have a63 : ∀ a : Nat, a &&& 63 = a % 64 := fun a => Nat.and_two_pow_sub_one_eq_mod a 6
  unfold sb_n
  rw [e1, e2, e3, a63, e, k3, k2, k1, k0, sbq_sum (t _) (t _) (t _) (t _), sbq_cnt, Nat.zero_add, Nat.shiftRight_zero]
  have q0 : pc 36 s = pc 8 (s % 256) + pc 28 (s / 256) := sc_pc8 28 s
  have q1 : ∀ x, pc 28 x = pc 8 (x % 256) + pc 20 (x / 256) := sc_pc8 20
  have q2 : ∀ x, pc 20 x = pc 8 (x % 256) + pc 12 (x / 256) := sc_pc8 12
  have q3 : ∀ x, pc 12 x = pc 8 (x % 256) + pc 4 (x / 256) := sc_pc8 4
  have z : s / 256 / 256 = 0 := by omega
  rw [q0, q1, q2, q3, z, sbq_zero]
  rfl
theorem sb_n_le (s : Nat) : sb_n s ≤ 63 := Nat.and_le_right
/-- both counts are above five together -/
theorem sb_bits {a : Int32} (h : ¬ ev_wi a 1 65535 = 0) : ev_bcI a = ev_bits a.toInt64 := by
  obtain ⟨h1, h2⟩ := ev_wi_ne h
  have e1 : (1 : Int32).toInt = 1 := by decide
  have e2 : (65535 : Int32).toInt = 65535 := by decide
  rw [e1] at h1
  rw [e2] at h2
  obtain ⟨s, hs⟩ : ∃ s : Nat, a.toInt = s := ⟨a.toInt.toNat, by omega⟩
  have ha : a = Int32.ofNat s := Int32.toInt_inj.mp (by rw [hs, Int32.toInt_ofNat_of_lt (by omega)])
  have hs2 : s < 65536 := by omega
  have e3 : a.toInt64 = Int64.ofNat s := Int64.toInt_inj.mp (by rw [Int32.toInt_toInt64, hs, sb_toInt (by omega)])
  rw [e3, ha, sb_bcI hs2]
  show _ = ev_bitsF (Int64.ofNat s) 36 (Int32.ofNat 0) (Int32.ofNat 0)
  rw [sb_bitsF hs2 36 0 0 rfl, sb_eq hs2]
end
section
/-! Bits of sets and shapes, and how many they are. -/
noncomputable def kb (x : Int64) (n : Nat) : Bool := x.toBitVec.getLsbD n
noncomputable def kbI (x : Int32) (n : Nat) : Bool := x.toBitVec.getLsbD n
theorem kb_and (x y : Int64) (n : Nat) : kb (x &&& y) n = (kb x n && kb y n) := by
  unfold kb
  rw [Int64.toBitVec_and, BitVec.getLsbD_and]
theorem kb_or (x y : Int64) (n : Nat) : kb (x ||| y) n = (kb x n || kb y n) := by
  unfold kb
  rw [Int64.toBitVec_or, BitVec.getLsbD_or]
theorem kb_ext {x y : Int64} (h : ∀ n, n < 64 → kb x n = kb y n) : x = y := Int64.toBitVec_inj.mp (BitVec.eq_of_getLsbD_eq fun n hn => h n hn)
theorem kb_hi {x : Int64} {k : Nat} (h : x.toBitVec.toNat < 2 ^ k) {n : Nat} (hn : k ≤ n) : kb x n = false := by
  show x.toBitVec.toNat.testBit n = false
  exact Nat.testBit_lt_two_pow (Nat.lt_of_lt_of_le h (Nat.pow_le_pow_right (by decide) hn))
theorem kb_0 (n : Nat) : kb 0 n = false := kb_hi (k := 0) (by decide) (Nat.zero_le n)
theorem kb_1 {n : Nat} (hn : 1 ≤ n) : kb 1 n = false := kb_hi (k := 1) (by decide) hn
theorem kb_64 (x : Int64) {n : Nat} (hn : 64 ≤ n) : kb x n = false := kb_hi x.toBitVec.isLt hn
theorem sh_6 : ∀ j, j < 64 → (((Int32.ofNat j).toInt64 &&& 63).toBitVec.smod 64).toNat = j := by decide +kernel
theorem sh_5 : ∀ j, j < 32 → ((Int32.ofNat j &&& 31).toBitVec.smod 32).toNat = j := by decide +kernel
/-- one cell -/
theorem kb_one {j : Nat} (hj : j < 64) (n : Nat) : kb ((1 : Int64) <<< ((Int32.ofNat j).toInt64 &&& 63)) n = decide (n = j) := by
  unfold kb
  rw [Int64.toBitVec_shiftLeft, BitVec.shiftLeft_eq', sh_6 j hj, BitVec.getLsbD_shiftLeft]
  show (decide (n < 64) && !decide (n < j) && kb 1 (n - j)) = _
  by_cases h1 : n = j
  · subst h1
    rw [decide_eq_true hj, decide_eq_false (Nat.lt_irrefl _), Nat.sub_self, show kb 1 0 = true from by decide, decide_eq_true rfl]
    rfl
  · rw [decide_eq_false h1]
    by_cases h2 : n < j
    · rw [decide_eq_true h2]
      cases decide (n < 64) <;> rfl
    · rw [kb_1 (by omega), Bool.and_false]
theorem kb_sar0 (z : Int64) {j : Nat} (hj : j < 64) : kb (z >>> ((Int32.ofNat j).toInt64 &&& 63)) 0 = kb z j := by
  unfold kb
  rw [Int64.toBitVec_shiftRight, BitVec.getLsbD_sshiftRight', sh_6 j hj, Nat.add_zero, if_pos hj]
  rfl
theorem kb_and1 (u : Int64) : (u &&& (1 : Int64) = 1) ↔ kb u 0 = true := by
  constructor
  · intro h
    have h2 : kb (u &&& (1 : Int64)) 0 = kb 1 0 := by rw [h]
    rw [kb_and, show kb 1 0 = true from by decide, Bool.and_true] at h2
    exact h2
  · intro h
    refine kb_ext fun n _ => ?_
    rw [kb_and]
    cases n with
    | zero => rw [h]; rfl
    | succ n => rw [kb_1 (by omega), Bool.and_false]
theorem has_kb (z : Int64) {j : Nat} (hj : j < 64) : ev_has z (Int32.ofNat j) = 0 ↔ kb z j = false := by
  have h := nd_has_is z (Int32.ofNat j)
  rw [kb_and1, kb_sar0 z hj] at h
  constructor
  · intro h0
    cases hb : kb z j with
    | false => rfl
    | true => exact absurd h0 (h.mpr hb)
  · intro h0
    apply Classical.byContradiction
    intro hn
    rw [h.mp hn] at h0
    cases h0
theorem kbI_ext {x y : Int32} (h : ∀ n, n < 32 → kbI x n = kbI y n) : x = y := Int32.toBitVec_inj.mp (BitVec.eq_of_getLsbD_eq fun n hn => h n hn)
theorem kbI_hi {x : Int32} {k : Nat} (h : x.toBitVec.toNat < 2 ^ k) {n : Nat} (hn : k ≤ n) : kbI x n = false := by
  show x.toBitVec.toNat.testBit n = false
  exact Nat.testBit_lt_two_pow (Nat.lt_of_lt_of_le h (Nat.pow_le_pow_right (by decide) hn))
theorem kbI_or (x y : Int32) (n : Nat) : kbI (x ||| y) n = (kbI x n || kbI y n) := by
  unfold kbI
  rw [Int32.toBitVec_or, BitVec.getLsbD_or]
theorem kbI_and (x y : Int32) (n : Nat) : kbI (x &&& y) n = (kbI x n && kbI y n) := by
  unfold kbI
  rw [Int32.toBitVec_and, BitVec.getLsbD_and]
theorem kbI_sar0 (z : Int32) {j : Nat} (hj : j < 32) : kbI (z >>> (Int32.ofNat j &&& 31)) 0 = kbI z j := by
  unfold kbI
  rw [Int32.toBitVec_shiftRight, BitVec.getLsbD_sshiftRight', sh_5 j hj, Nat.add_zero, if_pos hj]
  rfl
theorem kbI_and1 (u : Int32) : (u &&& (1 : Int32)) = bif kbI u 0 then 1 else 0 := by
  refine kbI_ext fun n _ => ?_
  rw [kbI_and]
  cases n with
  | zero => cases kbI u 0 <;> decide
  | succ n =>
    rw [kbI_hi (x := 1) (k := 1) (by decide) (by omega), Bool.and_false]
    cases kbI u 0
    · exact (kbI_hi (x := 0) (k := 0) (by decide) (by omega)).symm
    · exact (kbI_hi (x := 1) (k := 1) (by decide) (by omega)).symm
theorem kbI_of {s : Nat} (hs : s < 65536) {j : Nat} : kbI (Int32.ofNat s) j = s.testBit j := by
  show (BitVec.ofNat 32 s).toNat.testBit j = _
  rw [BitVec.toNat_ofNat, Nat.mod_eq_of_lt (by omega)]
theorem kb_of {s : Nat} (hs : s < 65536) {j : Nat} : kb (Int32.ofNat s).toInt64 j = s.testBit j := by
  have e : (Int32.ofNat s).toInt64 = Int64.ofNat s := Int64.toInt_inj.mp (by rw [Int32.toInt_toInt64, Int32.toInt_ofNat_of_lt (by omega), Int64.toInt_ofNat_of_lt (by omega)])
  rw [e]
  show (BitVec.ofNat 64 s).toNat.testBit j = _
  rw [BitVec.toNat_ofNat, Nat.mod_eq_of_lt (by omega)]
/-! counted from the top -/
theorem pc_top : ∀ k n, pc (k + 1) n = pc k n + (bif n.testBit k then 1 else 0) := by
  intro k
  induction k with
  | zero =>
    intro n
    show n % 2 + 0 = 0 + _
    rw [Nat.testBit_zero]
    rcases Nat.mod_two_eq_zero_or_one n with h | h <;> rw [h] <;> rfl
  | succ k ih =>
    intro n
    show n % 2 + pc (k + 1) (n / 2) = (n % 2 + pc k (n / 2)) + _
    rw [ih (n / 2), Nat.testBit_succ]
    omega
theorem pc_le : ∀ k n, pc k n ≤ k := by
  intro k
  induction k with
  | zero => exact fun _ => Nat.le_refl _
  | succ k ih =>
    intro n
    have := ih (n / 2)
    show n % 2 + pc k (n / 2) ≤ k + 1
    omega
theorem pc_add {p n n' : Nat} : ∀ k, (∀ i, i < k → n'.testBit i = (n.testBit i || decide (i = p))) → pc k n' = pc k n + (bif decide (p < k) && !n.testBit p then 1 else 0) := by
  intro k
  induction k with
  | zero => exact fun _ => rfl
  | succ k ih =>
    intro h
    rw [pc_top, pc_top, ih fun i hi => h i (by omega), h k (by omega)]
    by_cases hp : k = p
    · subst hp
      rw [decide_eq_false (Nat.lt_irrefl _), decide_eq_true rfl, decide_eq_true (show k < k + 1 by omega)]
      cases n.testBit k <;> rfl
    · rw [decide_eq_false hp, Bool.or_false]
      by_cases h2 : p < k
      · rw [decide_eq_true h2, decide_eq_true (show p < k + 1 by omega)]
        omega
      · rw [decide_eq_false h2, decide_eq_false (show ¬ p < k + 1 by omega)]
        omega
theorem pc_zero : ∀ k, pc k 0 = 0 := by
  intro k
  induction k with
  | zero => rfl
  | succ k ih => show 0 % 2 + pc k (0 / 2) = 0; rw [ih]
theorem pc_more {n : Nat} : ∀ k d, n < 2 ^ k → pc (k + d) n = pc k n := by
  intro k d
  induction d with
  | zero => exact fun _ => rfl
  | succ d ih =>
    intro h
    rw [← Nat.add_assoc, pc_top, ih h, Nat.testBit_lt_two_pow (Nat.lt_of_lt_of_le h (Nat.pow_le_pow_right (by decide) (by omega)))]
    rfl
noncomputable def pcJ (z : Int64) : Nat := pc 64 z.toBitVec.toNat
theorem pcJ_bc (z : Int64) : ev_bcJ z = Int32.ofNat (pcJ z) := by
  have e : z = Int64.ofNat z.toBitVec.toNat := Int64.toBitVec_inj.mp (by
    show z.toBitVec = BitVec.ofNat 64 z.toBitVec.toNat
    rw [BitVec.ofNat_toNat, BitVec.setWidth_eq])
  unfold pcJ
  rw [← sc_bcJ z.toBitVec.isLt, ← e]
theorem pcJ_le (z : Int64) : pcJ z ≤ 64 := pc_le 64 _
/-- one cell more -/
theorem pcJ_or (z : Int64) {j : Nat} (hj : j < 64) : pcJ (z ||| ((1 : Int64) <<< ((Int32.ofNat j).toInt64 &&& 63))) = pcJ z + (bif kb z j then 0 else 1) := by
  have h : ∀ i, i < 64 → (z ||| ((1 : Int64) <<< ((Int32.ofNat j).toInt64 &&& 63))).toBitVec.toNat.testBit i = (z.toBitVec.toNat.testBit i || decide (i = j)) := by
    intro i _
    have e := kb_or z ((1 : Int64) <<< ((Int32.ofNat j).toInt64 &&& 63)) i
    rw [kb_one hj i] at e
    exact e
  unfold pcJ
  rw [pc_add 64 h, decide_eq_true hj]
  show _ = pc 64 z.toBitVec.toNat + (bif z.toBitVec.toNat.testBit j then 0 else 1)
  cases z.toBitVec.toNat.testBit j <;> rfl
theorem sb_cnt_pc (s : Nat) : ∀ r j n, sb_cnt s r j n = n + pc r (s >>> j) := by
  intro r
  induction r with
  | zero => exact fun _ _ => rfl
  | succ r ih =>
    intro j n
    show sb_cnt s r (j + 1) (n + (s >>> j) % 2) = n + ((s >>> j) % 2 + pc r ((s >>> j) / 2))
    rw [ih, Nat.shiftRight_succ, Nat.add_assoc]
theorem bcI_pc {s : Nat} (hs : s < 65536) : ev_bcI (Int32.ofNat s) = Int32.ofNat (pc 16 s) := by
  rw [sb_bcI hs, ← sb_eq hs, sb_cnt_pc, Nat.zero_add, Nat.shiftRight_zero, show (36 : Nat) = 16 + 20 from rfl, pc_more 16 20 hs]
end
section
/-! Where the class puts a shape: the same as the reference moves it. -/
section
variable {X : ez_X} {I : Nat → Nat → Int32} {J : Nat → Nat → Int64} {R : Nat → Nat} {T : List ez_C} {cz kz : Nat}
theorem wp_r0 {v : Int32} {z : Int32} : ∀ G : ez_F, fx_up X 3 G 154 0 [.ref 1, .int v, .int z] [] (ev_hp I J R T) cz kz = bif decide ((I 1 5) = (0 : Int32)) then G 154 19 [.ref 1, .int v, .int z] [] (ev_hp I J R T) cz kz else G 154 7 [.ref 1, .int v, .int z] [] (ev_hp I J R T) cz kz := by
  intro G
  rfl
theorem wp_r1 {v : Int32} {z : Int32} : ∀ G : ez_F, fx_up X 2 G 154 7 [.ref 1, .int v, .int z] [] (ev_hp I J R T) cz kz = bif decide (z ≤ (0 : Int32)) then G 154 19 [.ref 1, .int v, .int z] [] (ev_hp I J R T) cz kz else G 154 11 [.ref 1, .int v, .int z] [] (ev_hp I J R T) cz kz := by
  intro G
  rfl
theorem wp_r2 {v : Int32} {z : Int32} : ∀ G : ez_F, fx_up X 3 G 154 11 [.ref 1, .int v, .int z] [] (ev_hp I J R T) cz kz = ev_C G 240 [.int v, .int z] (ev_hp I J R T) fun r h1 c1 k1 => G 154 16 [.ref 1, .int v, .int z] (r.toList ++ []) h1 (cz + c1) (kz + k1) := by
  intro G
  rfl
theorem wp_r3 {v : Int32} {z : Int32} {q : Int32} : ∀ G : ez_F, fx_up X 2 G 154 16 [.ref 1, .int v, .int z] [.int q] (ev_hp I J R T) cz kz = some (some (.int q), ev_hp I J R T, cz, kz) := by
  intro G
  rfl
theorem wp_r4 {v : Int32} {z : Int32} : ∀ G : ez_F, fx_up X 2 G 154 19 [.ref 1, .int v, .int z] [] (ev_hp I J R T) cz kz = some (some (.int v), ev_hp I J R T, cz, kz) := by
  intro G
  rfl
end
section
variable {X : ez_X} {I : Nat → Nat → Int32} {J : Nat → Nat → Int64} {R : Nat → Nat} {T : List ez_C} {cz kz : Nat}
theorem pd_r0 {s : Int32} {x : Int32} {y : Int32} : ∀ G : ez_F, fx_up X 4 G 149 0 [.ref 1, .int s, .int x, .int y] [] (ev_hp I J R T) cz kz = G 149 6 [.ref 1, .int s, .int x, .int y, .long 0, ez_fill, .int 0] [] (ev_hp I J R T) cz kz := by
  intro G
  rfl
theorem pd_r1 {s : Int32} {x : Int32} {y : Int32} {z : Int64} {i : Int32} : ∀ G : ez_F, fx_up X 3 G 149 6 [.ref 1, .int s, .int x, .int y, .long z, ez_fill, .int i] [] (ev_hp I J R T) cz kz = bif decide ((16 : Int32) ≤ i) then G 149 112 [.ref 1, .int s, .int x, .int y, .long z, ez_fill, .int i] [] (ev_hp I J R T) cz kz else G 149 13 [.ref 1, .int s, .int x, .int y, .long z, ez_fill, .int i] [] (ev_hp I J R T) cz kz := by
  intro G
  rfl
theorem pd_r2 {s : Int32} {x : Int32} {y : Int32} {z : Int64} {i : Int32} : ∀ G : ez_F, fx_up X 2 G 149 112 [.ref 1, .int s, .int x, .int y, .long z, ez_fill, .int i] [] (ev_hp I J R T) cz kz = ev_C G 237 [.long z] (ev_hp I J R T) fun r h1 c1 k1 => G 149 117 [.ref 1, .int s, .int x, .int y, .long z, ez_fill, .int i] (r.toList ++ []) h1 (cz + c1) (kz + k1) := by
  intro G
  rfl
theorem pd_r3 {s : Int32} {x : Int32} {y : Int32} {z : Int64} {i : Int32} {q : Int32} : ∀ G : ez_F, fx_up X 2 G 149 117 [.ref 1, .int s, .int x, .int y, .long z, ez_fill, .int i] [.int q] (ev_hp I J R T) cz kz = ev_C G 234 [.int s] (ev_hp I J R T) fun r h1 c1 k1 => G 149 121 [.ref 1, .int s, .int x, .int y, .long z, ez_fill, .int i] (r.toList ++ [.int q]) h1 (cz + c1) (kz + k1) := by
  intro G
  rfl
theorem pd_r4 {s : Int32} {x : Int32} {y : Int32} {z : Int64} {i : Int32} {p : Int32} {q : Int32} : ∀ G : ez_F, fx_up X 1 G 149 121 [.ref 1, .int s, .int x, .int y, .long z, ez_fill, .int i] [.int p, .int q] (ev_hp I J R T) cz kz = bif decide (¬ q = p) then G 149 129 [.ref 1, .int s, .int x, .int y, .long z, ez_fill, .int i] [] (ev_hp I J R T) cz kz else G 149 124 [.ref 1, .int s, .int x, .int y, .long z, ez_fill, .int i] [] (ev_hp I J R T) cz kz := by
  intro G
  rfl
theorem pd_r5 {s : Int32} {x : Int32} {y : Int32} {z : Int64} {i : Int32} : ∀ G : ez_F, fx_up X 2 G 149 129 [.ref 1, .int s, .int x, .int y, .long z, ez_fill, .int i] [] (ev_hp I J R T) cz kz = some (some (.long 0), ev_hp I J R T, cz, kz) := by
  intro G
  rfl
theorem pd_r6 {s : Int32} {x : Int32} {y : Int32} {z : Int64} {i : Int32} : ∀ G : ez_F, fx_up X 3 G 149 124 [.ref 1, .int s, .int x, .int y, .long z, ez_fill, .int i] [] (ev_hp I J R T) cz kz = some (some (.long z), ev_hp I J R T, cz, kz) := by
  intro G
  rfl
theorem pd_r7 {s : Int32} {x : Int32} {y : Int32} {z : Int64} {i : Int32} : ∀ G : ez_F, fx_up X 6 G 149 13 [.ref 1, .int s, .int x, .int y, .long z, ez_fill, .int i] [] (ev_hp I J R T) cz kz = bif decide (¬ ((s >>> (i &&& (31 : Int32))) &&& (1 : Int32)) = (0 : Int32)) then G 149 25 [.ref 1, .int s, .int x, .int y, .long z, ez_fill, .int i] [] (ev_hp I J R T) cz kz else G 149 22 [.ref 1, .int s, .int x, .int y, .long z, ez_fill, .int i] [] (ev_hp I J R T) cz kz := by
  intro G
  rfl
theorem pd_r8 {s : Int32} {x : Int32} {y : Int32} {z : Int64} {i : Int32} : ∀ G : ez_F, fx_up X 3 G 149 22 [.ref 1, .int s, .int x, .int y, .long z, ez_fill, .int i] [] (ev_hp I J R T) cz kz = G 149 6 [.ref 1, .int s, .int x, .int y, .long z, ez_fill, .int (i + 1)] [] (ev_hp I J R T) cz kz := by
  intro G
  rfl
theorem pd_r9 {s : Int32} {x : Int32} {y : Int32} {z : Int64} {i : Int32} : ∀ G : ez_F, fx_up X 9 G 149 25 [.ref 1, .int s, .int x, .int y, .long z, ez_fill, .int i] [] (ev_hp I J R T) cz kz = ev_C G 154 [.ref 1, .int ((i &&& (3 : Int32)) + x), .int (I 1 3)] (ev_hp I J R T) fun r h1 c1 k1 => G 149 39 [.ref 1, .int s, .int x, .int y, .long z, ez_fill, .int i] (r.toList ++ []) h1 (cz + c1) (kz + k1) := by
  intro G
  rfl
set_option maxRecDepth 100000 in
theorem pd_r10 {s : Int32} {x : Int32} {y : Int32} {z : Int64} {i : Int32} {u : Int32} : ∀ G : ez_F, fx_up X 10 G 149 39 [.ref 1, .int s, .int x, .int y, .long z, ez_fill, .int i] [.int u] (ev_hp I J R T) cz kz = ev_C G 154 [.ref 1, .int ((i >>> 2) + y), .int (I 1 4)] (ev_hp I J R T) fun r h1 c1 k1 => G 149 55 [.ref 1, .int s, .int x, .int y, .long z, ez_fill, .int i, .int u] (r.toList ++ []) h1 (cz + c1) (kz + k1) := by
  intro G
  rfl
theorem pd_r11 {s : Int32} {x : Int32} {y : Int32} {z : Int64} {i : Int32} {u : Int32} {v : Int32} : ∀ G : ez_F, fx_up X 8 G 149 55 [.ref 1, .int s, .int x, .int y, .long z, ez_fill, .int i, .int u] [.int v] (ev_hp I J R T) cz kz = ev_C G 55 [.int u, .int 0, .int ((I 1 3) - 1)] (ev_hp I J R T) fun r h1 c1 k1 => G 149 69 [.ref 1, .int s, .int x, .int y, .long z, ez_fill, .int i, .int u, .int v] (r.toList ++ []) h1 (cz + c1) (kz + k1) := by
  intro G
  rfl
theorem pd_r12 {s : Int32} {x : Int32} {y : Int32} {z : Int64} {i : Int32} {u : Int32} {v : Int32} {q : Int32} : ∀ G : ez_F, fx_up X 1 G 149 69 [.ref 1, .int s, .int x, .int y, .long z, ez_fill, .int i, .int u, .int v] [.int q] (ev_hp I J R T) cz kz = bif decide (q = (0 : Int32)) then G 149 87 [.ref 1, .int s, .int x, .int y, .long z, ez_fill, .int i, .int u, .int v] [] (ev_hp I J R T) cz kz else G 149 72 [.ref 1, .int s, .int x, .int y, .long z, ez_fill, .int i, .int u, .int v] [] (ev_hp I J R T) cz kz := by
  intro G
  rfl
theorem pd_r13 {s : Int32} {x : Int32} {y : Int32} {z : Int64} {i : Int32} {u : Int32} {v : Int32} : ∀ G : ez_F, fx_up X 2 G 149 87 [.ref 1, .int s, .int x, .int y, .long z, ez_fill, .int i, .int u, .int v] [] (ev_hp I J R T) cz kz = some (some (.long 0), ev_hp I J R T, cz, kz) := by
  intro G
  rfl
theorem pd_r14 {s : Int32} {x : Int32} {y : Int32} {z : Int64} {i : Int32} {u : Int32} {v : Int32} : ∀ G : ez_F, fx_up X 7 G 149 72 [.ref 1, .int s, .int x, .int y, .long z, ez_fill, .int i, .int u, .int v] [] (ev_hp I J R T) cz kz = ev_C G 55 [.int v, .int 0, .int ((I 1 4) - 1)] (ev_hp I J R T) fun r h1 c1 k1 => G 149 84 [.ref 1, .int s, .int x, .int y, .long z, ez_fill, .int i, .int u, .int v] (r.toList ++ []) h1 (cz + c1) (kz + k1) := by
  intro G
  rfl
theorem pd_r15 {s : Int32} {x : Int32} {y : Int32} {z : Int64} {i : Int32} {u : Int32} {v : Int32} {q : Int32} : ∀ G : ez_F, fx_up X 1 G 149 84 [.ref 1, .int s, .int x, .int y, .long z, ez_fill, .int i, .int u, .int v] [.int q] (ev_hp I J R T) cz kz = bif decide (¬ q = (0 : Int32)) then G 149 89 [.ref 1, .int s, .int x, .int y, .long z, ez_fill, .int i, .int u, .int v] [] (ev_hp I J R T) cz kz else G 149 87 [.ref 1, .int s, .int x, .int y, .long z, ez_fill, .int i, .int u, .int v] [] (ev_hp I J R T) cz kz := by
  intro G
  rfl
set_option maxRecDepth 100000 in
theorem pd_r16 {s : Int32} {x : Int32} {y : Int32} {z : Int64} {i : Int32} {u : Int32} {v : Int32} : ∀ G : ez_F, fx_up X 13 G 149 89 [.ref 1, .int s, .int x, .int y, .long z, ez_fill, .int i, .int u, .int v] [] (ev_hp I J R T) cz kz = G 149 6 [.ref 1, .int s, .int x, .int y, .long (z ||| (1 <<< ((((I 1 3) * v) + u).toInt64 &&& 63))), ez_fill, .int (i + 1)] [] (ev_hp I J R T) cz kz := by
  intro G
  rfl
end
noncomputable def fm_F (x y : Int32) : Int32 := if 0 ≤ (x ^^^ y) then x - x / y * y else if x - x / y * y = 0 then x - x / y * y else x - x / y * y + y
noncomputable def wr_F (wr v z : Int32) : Int32 := if wr = 0 then v else if z ≤ 0 then v else fm_F v z
noncomputable def pd_F (W H wr s x y : Int32) : Nat → Int32 → Int64 → Int64
  | 0, _, z => if ev_bcJ z = ev_bcI s then z else 0
  | r + 1, i, z => if ((s >>> (i &&& 31)) &&& 1) = 0 then pd_F W H wr s x y r (i + 1) z else
    if ev_wi (wr_F wr ((i &&& 3) + x) W) 0 (W - 1) = 0 then 0 else
    if ev_wi (wr_F wr ((i >>> 2) + y) H) 0 (H - 1) = 0 then 0 else
    pd_F W H wr s x y r (i + 1) (z ||| ((1 : Int64) <<< ((W * wr_F wr ((i >>> 2) + y) H + wr_F wr ((i &&& 3) + x) W).toInt64 &&& 63)))
theorem ex_fmod (X : ez_X) (h : ez_H) (x y : Int32) (hy : ¬ y = 0) : ev_W X 240 0 (ez_lay [.int x, .int y]) [] h 0 0 (ev_is (some (.int (fm_F x y))) h) := by
  unfold fm_F
  refine ev_seg (ec_fmod_r1 X h x y _ _) ?_
  refine ev_irem (by rfl) hy ?_
  refine ev_if (ec_fmod_r2 X h x y _ _) (fun b1 => ?_) (fun b1 => ?_)
  · rw [if_pos (of_decide_eq_true b1)]
    exact ev_ret (ec_fmod_r3 X h x y _ _) ⟨rfl, rfl, rfl, rfl⟩
  · rw [if_neg (of_decide_eq_false b1)]
    refine ev_if (ec_fmod_r4 X h x y _ _) (fun b2 => ?_) (fun b2 => ?_)
    · rw [if_pos (of_decide_eq_true b2)]
      exact ev_ret (ec_fmod_r5 X h x y _ _) ⟨rfl, rfl, rfl, rfl⟩
    · rw [if_neg (of_decide_eq_false b2)]
      exact ev_ret (ec_fmod_r6 X h x y _ _) ⟨rfl, rfl, rfl, rfl⟩
theorem ex_wrapped (X : ez_X) (I : Nat → Nat → Int32) (J : Nat → Nat → Int64) (R : Nat → Nat) (T : List ez_C) (v z : Int32) : ev_W X 154 0 (ez_lay [.ref 1, .int v, .int z]) [] (ev_hp I J R T) 0 0 (ev_is (some (.int (wr_F (I 1 5) v z))) (ev_hp I J R T)) := by
  unfold wr_F
  refine ev_if wp_r0 (fun b1 => ?_) (fun b1 => ?_)
  · rw [if_pos (of_decide_eq_true b1)]
    exact ev_ret wp_r4 ⟨rfl, rfl, rfl, rfl⟩
  · rw [if_neg (of_decide_eq_false b1)]
    refine ev_if wp_r1 (fun b2 => ?_) (fun b2 => ?_)
    · rw [if_pos (of_decide_eq_true b2)]
      exact ev_ret wp_r4 ⟨rfl, rfl, rfl, rfl⟩
    · rw [if_neg (of_decide_eq_false b2)]
      refine ev_call wp_r2 (ex_fmod X _ v z (fun hz => (of_decide_eq_false b2) (by rw [hz]; decide))) ?_
      rintro _ _ _ _ ⟨rfl, rfl, rfl, rfl⟩
      exact ev_ret wp_r3 ⟨rfl, rfl, rfl, rfl⟩
section
variable (X : ez_X) (I : Nat → Nat → Int32) (J : Nat → Nat → Int64) (R : Nat → Nat) (T : List ez_C) (s x y : Int32)
theorem ex_placed_l : ∀ (r : Nat) (i : Int32) (z : Int64) (cz kz : Nat), i.toInt + (r : Int) = 16 → 0 ≤ i.toInt →
    ev_W X 149 6 [.ref 1, .int s, .int x, .int y, .long z, ez_fill, .int i] [] (ev_hp I J R T) cz kz (fun q h' c' k' => q = some (.long (pd_F (I 1 3) (I 1 4) (I 1 5) s x y r i z)) ∧ h' = ev_hp I J R T ∧ c' = cz ∧ k' = kz) := by
  have e16 : (16 : Int32).toInt = 16 := by decide
  intro r
  induction r with
  | zero =>
    intro i z cz kz hi h0
    refine ev_if pd_r1 (fun _ => ?_) (fun ht => ?_)
    · refine ev_call pd_r2 (ec_bcJ X _ z) ?_
      rintro _ _ _ _ ⟨rfl, rfl, rfl, rfl⟩
      refine ev_call pd_r3 (ec_bcI X _ s) ?_
      rintro _ _ _ _ ⟨rfl, rfl, rfl, rfl⟩
      unfold pd_F
      refine ev_if pd_r4 (fun h => ?_) (fun h => ?_)
      · rw [if_neg (of_decide_eq_true h)]
        exact ev_ret pd_r5 ⟨rfl, rfl, rfl, rfl⟩
      · rw [if_pos (Classical.not_not.mp (of_decide_eq_false h))]
        exact ev_ret pd_r6 ⟨rfl, rfl, rfl, rfl⟩
    · exact absurd (Int32.le_iff_toInt_le.mpr (by rw [e16]; omega)) (of_decide_eq_false ht)
  | succ r ih =>
    intro i z cz kz hi h0
    have hi1 : (i + 1).toInt = i.toInt + 1 := nd_inc h0 (by omega)
    refine ev_if pd_r1 (fun ht => ?_) (fun _ => ?_)
    · have := Int32.le_iff_toInt_le.mp (of_decide_eq_true ht)
      rw [e16] at this
      omega
    unfold pd_F
    refine ev_if pd_r7 (fun ht => ?_) (fun ht => ?_)
    rotate_left
    · rw [if_pos (Classical.not_not.mp (of_decide_eq_false ht))]
      refine ev_seg pd_r8 ?_
      exact ih (i + 1) z _ _ (by omega) (by omega)
    rw [if_neg (of_decide_eq_true ht)]
    refine ev_call pd_r9 (ex_wrapped X I J R T _ _) ?_
    rintro _ _ _ _ ⟨rfl, rfl, rfl, rfl⟩
    refine ev_call pd_r10 (ex_wrapped X I J R T _ _) ?_
    rintro _ _ _ _ ⟨rfl, rfl, rfl, rfl⟩
    generalize wr_F (I 1 5) ((i &&& 3) + x) (I 1 3) = u
    generalize wr_F (I 1 5) ((i >>> 2) + y) (I 1 4) = v
    refine ev_call pd_r11 (ec_within X _ u 0 _) ?_
    rintro _ _ _ _ ⟨rfl, rfl, rfl, rfl⟩
    refine ev_if pd_r12 (fun h1 => ?_) (fun h1 => ?_)
    · rw [if_pos (of_decide_eq_true h1)]
      exact ev_ret pd_r13 ⟨rfl, rfl, rfl, rfl⟩
    rw [if_neg (of_decide_eq_false h1)]
    refine ev_call pd_r14 (ec_within X _ v 0 _) ?_
    rintro _ _ _ _ ⟨rfl, rfl, rfl, rfl⟩
    refine ev_if pd_r15 (fun h2 => ?_) (fun h2 => ?_)
    rotate_left
    · rw [if_pos (Classical.not_not.mp (of_decide_eq_false h2))]
      exact ev_ret pd_r13 ⟨rfl, rfl, rfl, rfl⟩
    rw [if_neg (of_decide_eq_true h2)]
    refine ev_seg pd_r16 ?_
    exact ih (i + 1) _ _ _ (by omega) (by omega)
theorem ex_placed : ev_W X 149 0 (ez_lay [.ref 1, .int s, .int x, .int y]) [] (ev_hp I J R T) 0 0 (ev_is (some (.long (pd_F (I 1 3) (I 1 4) (I 1 5) s x y 16 0 0))) (ev_hp I J R T)) := by
  refine ev_seg pd_r0 ?_
  exact ex_placed_l X I J R T s x y 16 0 0 _ _ (by decide) (by decide)
end
/-! the same as moved's -/
theorem pd_ij : ((List.range 16).all fun j => decide ((Int32.ofNat j &&& 3) = Int32.ofNat j - Int32.ofNat j / 4 * 4) && (decide ((Int32.ofNat j >>> 2) = Int32.ofNat j / 4) && decide (Int32.ofNat j + 1 = Int32.ofNat (j + 1)))) = true := by decide +kernel
theorem pd_ij_s {j : Nat} (hj : j < 16) : (Int32.ofNat j &&& 3) = Int32.ofNat j - Int32.ofNat j / 4 * 4 ∧ (Int32.ofNat j >>> 2) = Int32.ofNat j / 4 ∧ Int32.ofNat j + 1 = Int32.ofNat (j + 1) := by
  have h := List.all_eq_true.mp pd_ij j (List.mem_range.mpr hj)
  obtain ⟨h1, h2⟩ := Bool.and_eq_true_iff.mp h
  obtain ⟨h2, h3⟩ := Bool.and_eq_true_iff.mp h2
  exact ⟨of_decide_eq_true h1, of_decide_eq_true h2, of_decide_eq_true h3⟩
noncomputable def pd_vs : List Int := [-4, -3, -2, -1, 0, 1, 2, 3, 4, 5, 6, 7, 8]
theorem pd_wt : (([2, 3, 4, 5, 6] : List Int).all fun W => pd_vs.all fun v => decide (wr_F 1 (Int32.ofInt v) (Int32.ofInt W) = mv_c (Int32.ofInt W) 1 (Int32.ofInt v))) = true := by decide +kernel
theorem pd_w {wr W v : Int32} (hwr : wr = 0 ∨ wr = 1) (hW : 2 ≤ W.toInt ∧ W.toInt ≤ 6) (hv : -4 ≤ v.toInt ∧ v.toInt ≤ 8) : wr_F wr v W = mv_c W wr v := by
  rcases hwr with rfl | rfl
  · rfl
  · have h1 := List.all_eq_true.mp pd_wt W.toInt (by
      rcases (show W.toInt = 2 ∨ W.toInt = 3 ∨ W.toInt = 4 ∨ W.toInt = 5 ∨ W.toInt = 6 by omega) with e | e | e | e | e <;> rw [e] <;> decide)
    have h2 := List.all_eq_true.mp h1 v.toInt (by
      rcases (show v.toInt = -4 ∨ v.toInt = -3 ∨ v.toInt = -2 ∨ v.toInt = -1 ∨ v.toInt = 0 ∨ v.toInt = 1 ∨ v.toInt = 2 ∨ v.toInt = 3 ∨ v.toInt = 4 ∨ v.toInt = 5 ∨ v.toInt = 6 ∨ v.toInt = 7 ∨ v.toInt = 8 by omega) with e | e | e | e | e | e | e | e | e | e | e | e | e <;> rw [e] <;> decide)
    have h3 := of_decide_eq_true h2
    rw [Int32.ofInt_toInt, Int32.ofInt_toInt] at h3
    exact h3
theorem il_z (a b : Int32) : ev_il a.toInt64 0 b.toInt64 = ev_wi a 0 b := by
  have h := ev_il_wi a 0 b
  rw [show (0 : Int32).toInt64 = 0 from by decide] at h
  exact h
section
variable {W H wr x y : Int32} {s : Nat}
/-- a cell within the paper, by its number -/
theorem pd_cell (hW : 2 ≤ W.toInt ∧ W.toInt ≤ 6) (hH : 2 ≤ H.toInt ∧ H.toInt ≤ 6) {u v : Int32} (hu : ¬ ev_wi u 0 (W - 1) = 0) (hv : ¬ ev_wi v 0 (H - 1) = 0) : ∃ p : Nat, p < 36 ∧ W * v + u = Int32.ofNat p := by
  have e0 : (0 : Int32).toInt = 0 := by decide
  obtain ⟨u0, u1⟩ := ev_wi_ne hu
  obtain ⟨v0, v1⟩ := ev_wi_ne hv
  rw [mv_w1 hW] at u1
  rw [mv_w1 hH] at v1
  have m0 : 0 ≤ W.toInt * v.toInt := Int.mul_nonneg (by omega) (by omega)
  have m1 : W.toInt * v.toInt ≤ 6 * 5 := Int.mul_le_mul hW.2 (by omega) (by omega) (by decide)
  have em : (W * v).toInt = W.toInt * v.toInt := by
    rw [Int32.toInt_mul, cx_bm32]
    simp only [cx_i32]
    omega
  have ea : (W * v + u).toInt = W.toInt * v.toInt + u.toInt := by
    rw [Int32.toInt_add, em, cx_bm32]
    simp only [cx_i32]
    omega
  exact ⟨(W * v + u).toInt.toNat, by omega, (nd_ofNat (by omega)).symm⟩
theorem pd_bit (hs : s < 65536) {j : Nat} (hj : j < 16) : (((Int32.ofNat s >>> (Int32.ofNat j &&& 31)) &&& 1) = 0 ↔ s.testBit j = false) ∧ (ev_has (Int32.ofNat s).toInt64 (Int32.ofNat j) = 0 ↔ s.testBit j = false) := by
  refine ⟨?_, ?_⟩
  · rw [kbI_and1, kbI_sar0 _ (by omega), kbI_of hs]
    cases s.testBit j <;> decide
  · rw [has_kb _ (by omega), kb_of hs]
/-- once two of its cells fell together, it is no place -/
theorem pd_less (hW : 2 ≤ W.toInt ∧ W.toInt ≤ 6) (hH : 2 ≤ H.toInt ∧ H.toInt ≤ 6) (hs : s < 65536) : ∀ (r j : Nat) (z : Int64), j + r = 16 → pcJ z < pc j s → pd_F W H wr (Int32.ofNat s) x y r (Int32.ofNat j) z = 0 := by
  intro r
  induction r with
  | zero =>
    intro j z hj hp
    unfold pd_F
    rw [if_neg]
    rw [pcJ_bc, bcI_pc hs]
    intro e
    have e2 := congrArg Int32.toInt e
    have l1 := pcJ_le z
    have l2 := pc_le 16 s
    rw [Int32.toInt_ofNat_of_lt (by omega), Int32.toInt_ofNat_of_lt (by omega)] at e2
    obtain rfl : j = 16 := by omega
    omega
  | succ r ih =>
    intro j z hj hp
    obtain ⟨-, -, e3⟩ := pd_ij_s (j := j) (by omega)
    have ht := pc_top j s
    unfold pd_F
    rw [e3]
    by_cases hb : s.testBit j = false
    · rw [if_pos ((pd_bit hs (by omega)).1.mpr hb)]
      rw [hb] at ht
      exact ih (j + 1) z (by omega) (by rw [ht]; exact hp)
    · rw [if_neg (fun h => hb ((pd_bit hs (by omega)).1.mp h))]
      have hb2 : s.testBit j = true := by
        cases h : s.testBit j with
        | true => rfl
        | false => exact absurd h hb
      rw [hb2] at ht
      split
      · rfl
      · rename_i h1
        split
        · rfl
        · rename_i h2
          obtain ⟨p, hp2, ep⟩ := pd_cell hW hH h1 h2
          rw [ep]
          refine ih (j + 1) _ (by omega) ?_
          rw [pcJ_or z (by omega), ht]
          cases kb z p
          · show pcJ z + 1 < pc j s + 1
            omega
          · show pcJ z + 0 < pc j s + 1
            omega
theorem pd_mv (hwr : wr = 0 ∨ wr = 1) (hW : 2 ≤ W.toInt ∧ W.toInt ≤ 6) (hH : 2 ≤ H.toInt ∧ H.toInt ≤ 6) (hx : -4 ≤ x.toInt ∧ x.toInt ≤ 5) (hy : -4 ≤ y.toInt ∧ y.toInt ≤ 5) (hs : s < 65536) : ∀ (r j : Nat) (z : Int64), j + r = 16 → pcJ z = pc j s →
    pd_F W H wr (Int32.ofNat s) x y r (Int32.ofNat j) z = mv_F W H wr (Int32.ofNat s) x y r (Int32.ofNat j) z := by
  intro r
  induction r with
  | zero =>
    intro j z hj hp
    obtain rfl : j = 16 := by omega
    unfold pd_F mv_F
    rw [if_pos (by rw [pcJ_bc, bcI_pc hs, hp])]
  | succ r ih =>
    intro j z hj hp
    obtain ⟨e1, e2, e3⟩ := pd_ij_s (j := j) (by omega)
    have ht := pc_top j s
    have hk0 : 0 ≤ (Int32.ofNat j).toInt := by rw [Int32.toInt_ofNat_of_lt (by omega)]; omega
    have hk1 : (Int32.ofNat j).toInt < 16 := by rw [Int32.toInt_ofNat_of_lt (by omega)]; omega
    obtain ⟨a1, a2⟩ := mv_k4_s hk0 hk1
    unfold pd_F mv_F
    rw [e1, e2, e3]
    by_cases hb : s.testBit j = false
    · rw [if_pos ((pd_bit hs (by omega)).1.mpr hb), if_pos ((pd_bit hs (by omega)).2.mpr hb)]
      rw [hb] at ht
      exact ih (j + 1) z (by omega) (by rw [ht]; exact hp)
    · rw [if_neg (fun h => hb ((pd_bit hs (by omega)).1.mp h)), if_neg (fun h => hb ((pd_bit hs (by omega)).2.mp h))]
      have hb2 : s.testBit j = true := by
        cases h : s.testBit j with
        | true => rfl
        | false => exact absurd h hb
      rw [hb2] at ht
      have x1 := mv_ad a1 hx
      have y1 := mv_ad a2 hy
      rw [pd_w hwr hW (v := Int32.ofNat j - Int32.ofNat j / 4 * 4 + x) (by omega), pd_w hwr hH (v := Int32.ofNat j / 4 + y) (by omega), il_z, il_z]
      generalize mv_c W wr (Int32.ofNat j - Int32.ofNat j / 4 * 4 + x) = u
      generalize mv_c H wr (Int32.ofNat j / 4 + y) = v
      by_cases h1 : ev_wi u 0 (W - 1) = 0
      · rw [if_pos h1, if_pos h1]
      rw [if_neg h1, if_neg h1]
      by_cases h2 : ev_wi v 0 (H - 1) = 0
      · rw [if_pos h2, if_pos h2]
      rw [if_neg h2, if_neg h2]
      obtain ⟨p, hp2, ep⟩ := pd_cell hW hH h1 h2
      rw [ep]
      have ho := pcJ_or z (show p < 64 by omega)
      by_cases hk : kb z p = false
      · rw [if_pos ((has_kb z (by omega)).mpr hk)]
        rw [hk] at ho
        exact ih (j + 1) _ (by omega) (by rw [ho, ht, hp]; rfl)
      · rw [if_neg (fun h => hk ((has_kb z (by omega)).mp h))]
        have hk2 : kb z p = true := by
          cases h : kb z p with
          | true => rfl
          | false => exact absurd h hk
        rw [hk2] at ho
        refine pd_less hW hH hs r (j + 1) _ (by omega) ?_
        rw [ho, ht, hp]
        show pc j s + 0 < pc j s + 1
        omega
theorem pd_is (hwr : wr = 0 ∨ wr = 1) (hW : 2 ≤ W.toInt ∧ W.toInt ≤ 6) (hH : 2 ≤ H.toInt ∧ H.toInt ≤ 6) (hx : -4 ≤ x.toInt ∧ x.toInt ≤ 5) (hy : -4 ≤ y.toInt ∧ y.toInt ≤ 5) (hs : s < 65536) : pd_F W H wr (Int32.ofNat s) x y 16 0 0 = mv_F W H wr (Int32.ofNat s) x y 16 0 0 :=
  pd_mv hwr hW hH hx hy hs 16 0 0 rfl (by unfold pcJ; rw [show (0 : Int64).toBitVec.toNat = 0 from by decide, pc_zero]; rfl)
end
end
section
/-! Shapes turned and mirrored: the class and the reference come to the same. -/
section
variable {X : ez_X} {I : Nat → Nat → Int32} {J : Nat → Nat → Int64} {R : Nat → Nat} {T : List ez_C} {cz kz : Nat}
theorem qt_r0 {s : Int32} : ∀ G : ez_F, fx_up X 4 G 93 0 [.int s] [] (ev_hp I J R T) cz kz = G 93 4 [.int s, .int 0, .int 0] [] (ev_hp I J R T) cz kz := by
  intro G
  rfl
theorem qt_r1 {s : Int32} {t : Int32} {i : Int32} : ∀ G : ez_F, fx_up X 3 G 93 4 [.int s, .int t, .int i] [] (ev_hp I J R T) cz kz = bif decide ((16 : Int32) ≤ i) then G 93 38 [.int s, .int t, .int i] [] (ev_hp I J R T) cz kz else G 93 10 [.int s, .int t, .int i] [] (ev_hp I J R T) cz kz := by
  intro G
  rfl
theorem qt_r2 {s : Int32} {t : Int32} {i : Int32} : ∀ G : ez_F, fx_up X 2 G 93 38 [.int s, .int t, .int i] [] (ev_hp I J R T) cz kz = some (some (.int t), ev_hp I J R T, cz, kz) := by
  intro G
  rfl
set_option maxRecDepth 100000 in
theorem qt_r3 {s : Int32} {t : Int32} {i : Int32} : ∀ G : ez_F, fx_up X 24 G 93 10 [.int s, .int t, .int i] [] (ev_hp I J R T) cz kz = G 93 4 [.int s, .int (t ||| (((s >>> (i &&& (31 : Int32))) &&& (1 : Int32)) <<< (((((4 : Int32) * (i &&& (3 : Int32))) + (3 : Int32)) - (i >>> 2)) &&& (31 : Int32)))), .int (i + 1), .int ((((4 : Int32) * (i &&& (3 : Int32))) + (3 : Int32)) - (i >>> 2))] [] (ev_hp I J R T) cz kz := by
  intro G
  rfl
end
section
variable {X : ez_X} {I : Nat → Nat → Int32} {J : Nat → Nat → Int64} {R : Nat → Nat} {T : List ez_C} {cz kz : Nat}
theorem mi_r0 {s : Int32} : ∀ G : ez_F, fx_up X 4 G 90 0 [.int s] [] (ev_hp I J R T) cz kz = G 90 4 [.int s, .int 0, .int 0] [] (ev_hp I J R T) cz kz := by
  intro G
  rfl
theorem mi_r1 {s : Int32} {t : Int32} {i : Int32} : ∀ G : ez_F, fx_up X 3 G 90 4 [.int s, .int t, .int i] [] (ev_hp I J R T) cz kz = bif decide ((16 : Int32) ≤ i) then G 90 28 [.int s, .int t, .int i] [] (ev_hp I J R T) cz kz else G 90 10 [.int s, .int t, .int i] [] (ev_hp I J R T) cz kz := by
  intro G
  rfl
theorem mi_r2 {s : Int32} {t : Int32} {i : Int32} : ∀ G : ez_F, fx_up X 2 G 90 28 [.int s, .int t, .int i] [] (ev_hp I J R T) cz kz = some (some (.int t), ev_hp I J R T, cz, kz) := by
  intro G
  rfl
set_option maxRecDepth 100000 in
theorem mi_r3 {s : Int32} {t : Int32} {i : Int32} : ∀ G : ez_F, fx_up X 14 G 90 10 [.int s, .int t, .int i] [] (ev_hp I J R T) cz kz = G 90 4 [.int s, .int (t ||| (((s >>> (i &&& (31 : Int32))) &&& (1 : Int32)) <<< ((i ^^^ (3 : Int32)) &&& (31 : Int32)))), .int (i + 1)] [] (ev_hp I J R T) cz kz := by
  intro G
  rfl
end
section
variable {X : ez_X} {I : Nat → Nat → Int32} {J : Nat → Nat → Int64} {R : Nat → Nat} {T : List ez_C} {cz kz : Nat}
theorem tu_r0 {b : Int32} {t : Int32} : ∀ G : ez_F, fx_up X 4 G 230 0 [.int b, .int t] [] (ev_hp I J R T) cz kz = G 230 4 [.int b, .int t, .int 0, .int 0] [] (ev_hp I J R T) cz kz := by
  intro G
  rfl
theorem tu_r1 {b : Int32} {t : Int32} {g : Int32} {k : Int32} : ∀ G : ez_F, fx_up X 3 G 230 4 [.int b, .int t, .int g, .int k] [] (ev_hp I J R T) cz kz = bif decide ((16 : Int32) ≤ k) then G 230 91 [.int b, .int t, .int g, .int k] [] (ev_hp I J R T) cz kz else G 230 10 [.int b, .int t, .int g, .int k] [] (ev_hp I J R T) cz kz := by
  intro G
  rfl
theorem tu_r2 {b : Int32} {t : Int32} {g : Int32} {k : Int32} : ∀ G : ez_F, fx_up X 4 G 230 10 [.int b, .int t, .int g, .int k] [] (ev_hp I J R T) cz kz = ev_C G 197 [.long (b.toInt64), .int k] (ev_hp I J R T) fun r h1 c1 k1 => G 230 16 [.int b, .int t, .int g, .int k] (r.toList ++ []) h1 (cz + c1) (kz + k1) := by
  intro G
  rfl
theorem tu_r3 {b : Int32} {t : Int32} {g : Int32} {k : Int32} {v : Int32} : ∀ G : ez_F, fx_up X 1 G 230 16 [.int b, .int t, .int g, .int k] [.int v] (ev_hp I J R T) cz kz = bif decide (v = (0 : Int32)) then G 230 85 [.int b, .int t, .int g, .int k] [] (ev_hp I J R T) cz kz else G 230 19 [.int b, .int t, .int g, .int k] [] (ev_hp I J R T) cz kz := by
  intro G
  rfl
theorem tu_r4 {b : Int32} {t : Int32} {g : Int32} {k : Int32} : ∀ G : ez_F, fx_up X 2 G 230 85 [.int b, .int t, .int g, .int k] [] (ev_hp I J R T) cz kz = G 230 4 [.int b, .int t, .int g, .int (k + 1)] [] (ev_hp I J R T) cz kz := by
  intro G
  rfl
theorem tu_r5 {b : Int32} {t : Int32} {g : Int32} {k : Int32} : ∀ G : ez_F, fx_up X 3 G 230 19 [.int b, .int t, .int g, .int k] [] (ev_hp I J R T) cz kz = bif decide (t ≤ (3 : Int32)) then G 230 32 [.int b, .int t, .int g, .int k] [] (ev_hp I J R T) cz kz else G 230 24 [.int b, .int t, .int g, .int k] [] (ev_hp I J R T) cz kz := by
  intro G
  rfl
theorem tu_r6 {b : Int32} {t : Int32} {g : Int32} {k : Int32} : ∀ G : ez_F, fx_up X 3 G 230 24 [.int b, .int t, .int g, .int k] [] (ev_hp I J R T) cz kz = G 230 27 [.int b, .int t, .int g, .int k] [.int 4, .int k, .int 3] (ev_hp I J R T) cz kz := by
  intro G
  rfl
theorem tu_r7 {b : Int32} {t : Int32} {g : Int32} {k : Int32} {m : Int32} : ∀ G : ez_F, fx_up X 5 G 230 28 [.int b, .int t, .int g, .int k] [.int m, .int 3] (ev_hp I J R T) cz kz = G 230 39 [.int b, .int t, .int g, .int k, .int (3 - m)] [.int 4, .int k] (ev_hp I J R T) cz kz := by
  intro G
  rfl
theorem tu_r8 {b : Int32} {t : Int32} {g : Int32} {k : Int32} : ∀ G : ez_F, fx_up X 2 G 230 32 [.int b, .int t, .int g, .int k] [] (ev_hp I J R T) cz kz = G 230 34 [.int b, .int t, .int g, .int k] [.int 4, .int k] (ev_hp I J R T) cz kz := by
  intro G
  rfl
theorem tu_r9 {b : Int32} {t : Int32} {g : Int32} {k : Int32} {m : Int32} : ∀ G : ez_F, fx_up X 3 G 230 35 [.int b, .int t, .int g, .int k] [.int m] (ev_hp I J R T) cz kz = G 230 39 [.int b, .int t, .int g, .int k, .int m] [.int 4, .int k] (ev_hp I J R T) cz kz := by
  intro G
  rfl
theorem tu_r10 {b : Int32} {t : Int32} {g : Int32} {k : Int32} {x : Int32} {m : Int32} : ∀ G : ez_F, fx_up X 3 G 230 40 [.int b, .int t, .int g, .int k, .int x] [.int m] (ev_hp I J R T) cz kz = G 230 45 [.int b, .int t, .int g, .int k, .int x, .int m, .int 0] [] (ev_hp I J R T) cz kz := by
  intro G
  rfl
theorem tu_r11 {b : Int32} {t : Int32} {g : Int32} {k : Int32} {x : Int32} {y : Int32} {q : Int32} : ∀ G : ez_F, fx_up X 3 G 230 45 [.int b, .int t, .int g, .int k, .int x, .int y, .int q] [] (ev_hp I J R T) cz kz = G 230 49 [.int b, .int t, .int g, .int k, .int x, .int y, .int q] [.int 4, .int t, .int q] (ev_hp I J R T) cz kz := by
  intro G
  rfl
theorem tu_r12 {b : Int32} {t : Int32} {g : Int32} {k : Int32} {x : Int32} {y : Int32} {q : Int32} {m : Int32} : ∀ G : ez_F, fx_up X 1 G 230 50 [.int b, .int t, .int g, .int k, .int x, .int y, .int q] [.int m, .int q] (ev_hp I J R T) cz kz = bif decide (m ≤ q) then G 230 73 [.int b, .int t, .int g, .int k, .int x, .int y, .int q] [] (ev_hp I J R T) cz kz else G 230 53 [.int b, .int t, .int g, .int k, .int x, .int y, .int q] [] (ev_hp I J R T) cz kz := by
  intro G
  rfl
set_option maxRecDepth 100000 in
theorem tu_r13 {b : Int32} {t : Int32} {g : Int32} {k : Int32} {x : Int32} {y : Int32} {q : Int32} : ∀ G : ez_F, fx_up X 10 G 230 53 [.int b, .int t, .int g, .int k, .int x, .int y, .int q] [] (ev_hp I J R T) cz kz = G 230 45 [.int b, .int t, .int g, .int k, .int (3 - y), .int x, .int (q + 1), .int x] [] (ev_hp I J R T) cz kz := by
  intro G
  rfl
set_option maxRecDepth 100000 in
theorem tu_r14 {b : Int32} {t : Int32} {g : Int32} {k : Int32} {x : Int32} {y : Int32} {q : Int32} : ∀ G : ez_F, fx_up X 10 G 230 73 [.int b, .int t, .int g, .int k, .int x, .int y, .int q] [] (ev_hp I J R T) cz kz = G 230 85 [.int b, .int t, .int (g ||| (1 <<< (((4 * y) + x) &&& (31 : Int32)))), .int k, .int x, .int y, .int q] [] (ev_hp I J R T) cz kz := by
  intro G
  rfl
theorem tu_r15 {b : Int32} {t : Int32} {g : Int32} {k : Int32} : ∀ G : ez_F, fx_up X 2 G 230 91 [.int b, .int t, .int g, .int k] [] (ev_hp I J R T) cz kz = some (some (.int g), ev_hp I J R T, cz, kz) := by
  intro G
  rfl
end
/-- the cells of a shape, each carried to its place -/
noncomputable def pm (ρ : Nat → Nat) (s : Nat) : Nat → Nat
  | 0 => 0
  | j + 1 => pm ρ s j ||| (bif s.testBit j then 2 ^ ρ j else 0)
theorem pm_bit (ρ : Nat → Nat) (s k : Nat) : ∀ n, (pm ρ s n).testBit k = true ↔ ∃ j, j < n ∧ ρ j = k ∧ s.testBit j = true := by
  intro n
  induction n with
  | zero =>
    constructor
    · intro h
      rw [show pm ρ s 0 = 0 from rfl, Nat.zero_testBit] at h
      cases h
    · rintro ⟨j, hj, -⟩
      omega
  | succ n ih =>
    rw [show pm ρ s (n + 1) = pm ρ s n ||| (bif s.testBit n then 2 ^ ρ n else 0) from rfl, Nat.testBit_or, Bool.or_eq_true, ih]
    constructor
    · rintro (⟨j, h1, h2, h3⟩ | h)
      · exact ⟨j, by omega, h2, h3⟩
      · cases hb : s.testBit n with
        | false =>
          rw [hb] at h
          rw [show (bif false then 2 ^ ρ n else 0) = 0 from rfl, Nat.zero_testBit] at h
          cases h
        | true =>
          rw [hb] at h
          rw [show (bif true then 2 ^ ρ n else 0) = 2 ^ ρ n from rfl, Nat.testBit_two_pow] at h
          exact ⟨n, by omega, of_decide_eq_true h, hb⟩
    · rintro ⟨j, h1, h2, h3⟩
      by_cases hj : j = n
      · subst hj
        refine Or.inr ?_
        rw [h3, show (bif true then 2 ^ ρ j else 0) = 2 ^ ρ j from rfl, Nat.testBit_two_pow]
        exact decide_eq_true h2
      · exact Or.inl ⟨j, by omega, h2, h3⟩
theorem pm_eq {a b : Nat} (h : ∀ k, a.testBit k = true ↔ b.testBit k = true) : a = b := Nat.eq_of_testBit_eq fun k => by
  have := h k
  cases ha : a.testBit k <;> cases hb : b.testBit k <;> simp_all
theorem pm_lt {ρ : Nat → Nat} (h : ∀ j, j < 16 → ρ j < 16) (s : Nat) {n : Nat} (hn : n ≤ 16) : pm ρ s n < 65536 := by
  refine Nat.lt_pow_two_of_testBit (n := 16) _ fun k hk => ?_
  cases hb : (pm ρ s n).testBit k with
  | false => rfl
  | true =>
    obtain ⟨j, h1, h2, -⟩ := (pm_bit ρ s k n).mp hb
    have := h j (by omega)
    omega
theorem pm_comp {σ ρ : Nat → Nat} (h : ∀ j, j < 16 → ρ j < 16) (s : Nat) : pm σ (pm ρ s 16) 16 = pm (fun j => σ (ρ j)) s 16 := pm_eq fun k => by
  rw [pm_bit, pm_bit]
  constructor
  · rintro ⟨m, h1, h2, h3⟩
    obtain ⟨j, g1, g2, g3⟩ := (pm_bit ρ s m 16).mp h3
    exact ⟨j, g1, by rw [← h2, ← g2], g3⟩
  · rintro ⟨j, h1, h2, h3⟩
    exact ⟨ρ j, h j h1, h2, (pm_bit ρ s (ρ j) 16).mpr ⟨j, h1, rfl, h3⟩⟩
theorem pm_congr {ρ ρ' : Nat → Nat} (s : Nat) : ∀ n, (∀ j, j < n → ρ j = ρ' j) → pm ρ s n = pm ρ' s n := by
  intro n
  induction n with
  | zero => exact fun _ => rfl
  | succ n ih =>
    intro h
    show pm ρ s n ||| _ = pm ρ' s n ||| _
    rw [ih fun j hj => h j (by omega), h n (by omega)]
theorem pm_id {s : Nat} (hs : s < 65536) : pm (fun j => j) s 16 = s := pm_eq fun k => by
  rw [pm_bit]
  constructor
  · rintro ⟨j, -, h2, h3⟩
    rw [← h2]
    exact h3
  · intro h
    refine ⟨k, ?_, rfl, h⟩
    apply Classical.byContradiction
    intro hk
    have hp : (2 : Nat) ^ 16 ≤ 2 ^ k := Nat.pow_le_pow_right (by decide) (by omega)
    rw [Nat.testBit_lt_two_pow (Nat.lt_of_lt_of_le (show s < 2 ^ 16 from hs) hp)] at h
    cases h
noncomputable def sg (j : Nat) : Nat := 4 * (j % 4) + 3 - j / 4
noncomputable def ta (j : Nat) : Nat := j ^^^ 3
theorem si_or (a b : Nat) : Int32.ofNat a ||| Int32.ofNat b = Int32.ofNat (a ||| b) := by
  apply Int32.toBitVec_inj.1
  show BitVec.ofNat 32 a ||| BitVec.ofNat 32 b = BitVec.ofNat 32 (a ||| b)
  apply BitVec.eq_of_getLsbD_eq
  intro i hi
  simp [hi]
theorem sg_tab : ((List.range 16).all fun j => decide ((1 : Int32) <<< (((((4 : Int32) * (Int32.ofNat j &&& (3 : Int32))) + (3 : Int32)) - (Int32.ofNat j >>> 2)) &&& (31 : Int32)) = Int32.ofNat (2 ^ sg j)) && (decide ((0 : Int32) <<< (((((4 : Int32) * (Int32.ofNat j &&& (3 : Int32))) + (3 : Int32)) - (Int32.ofNat j >>> 2)) &&& (31 : Int32)) = 0) &&
  (decide ((1 : Int32) <<< ((Int32.ofNat j ^^^ (3 : Int32)) &&& (31 : Int32)) = Int32.ofNat (2 ^ ta j)) && (decide ((0 : Int32) <<< ((Int32.ofNat j ^^^ (3 : Int32)) &&& (31 : Int32)) = 0) && (decide (sg j < 16) && (decide (ta j < 16) && decide (Int32.ofNat j + 1 = Int32.ofNat (j + 1)))))))) = true := by decide +kernel
theorem sg_tab_s {j : Nat} (hj : j < 16) : (1 : Int32) <<< (((((4 : Int32) * (Int32.ofNat j &&& (3 : Int32))) + (3 : Int32)) - (Int32.ofNat j >>> 2)) &&& (31 : Int32)) = Int32.ofNat (2 ^ sg j) ∧ (0 : Int32) <<< (((((4 : Int32) * (Int32.ofNat j &&& (3 : Int32))) + (3 : Int32)) - (Int32.ofNat j >>> 2)) &&& (31 : Int32)) = 0 ∧ (1 : Int32) <<< ((Int32.ofNat j ^^^ (3 : Int32)) &&& (31 : Int32)) = Int32.ofNat (2 ^ ta j) ∧ (0 : Int32) <<< ((Int32.ofNat j ^^^ (3 : Int32)) &&& (31 : Int32)) = 0 ∧ sg j < 16 ∧ ta j < 16 ∧ Int32.ofNat j + 1 = Int32.ofNat (j + 1) := by
  have h := List.all_eq_true.mp sg_tab j (List.mem_range.mpr hj)
  simp only [Bool.and_eq_true, decide_eq_true_eq] at h
  exact h
section
variable (X : ez_X) (I : Nat → Nat → Int32) (J : Nat → Nat → Int64) (R : Nat → Nat) (T : List ez_C)
theorem ex_qt {s : Nat} (hs : s < 65536) : ev_W X 93 0 (ez_lay [.int (Int32.ofNat s)]) [] (ev_hp I J R T) 0 0 (ev_is (some (.int (Int32.ofNat (pm sg s 16)))) (ev_hp I J R T)) := by
  have loop : ∀ (r j : Nat) (cz kz : Nat), j + r = 16 → ev_W X 93 4 [.int (Int32.ofNat s), .int (Int32.ofNat (pm sg s j)), .int (Int32.ofNat j)] [] (ev_hp I J R T) cz kz (fun q h' c' k' => q = some (.int (Int32.ofNat (pm sg s 16))) ∧ h' = ev_hp I J R T ∧ c' = cz ∧ k' = kz) := by
    intro r
    induction r with
    | zero =>
      intro j cz kz hj
      obtain rfl : j = 16 := by omega
      exact ev_if qt_r1 (fun _ => ev_ret qt_r2 ⟨rfl, rfl, rfl, rfl⟩) (fun h => absurd (by decide) (of_decide_eq_false h))
    | succ r ih =>
      intro j cz kz hj
      obtain ⟨t1, t2, -, -, -, -, t7⟩ := sg_tab_s (j := j) (by omega)
      refine ev_if qt_r1 (fun h => ?_) (fun _ => ?_)
      · have := Int32.le_iff_toInt_le.mp (of_decide_eq_true h)
        rw [Int32.toInt_ofNat_of_lt (by omega), show (16 : Int32).toInt = 16 from by decide] at this
        omega
      refine ev_seg qt_r3 ?_
      refine ev_cutl (by rfl) ?_
      have e : Int32.ofNat (pm sg s j) ||| (((Int32.ofNat s >>> (Int32.ofNat j &&& (31 : Int32))) &&& (1 : Int32)) <<< (((((4 : Int32) * (Int32.ofNat j &&& (3 : Int32))) + (3 : Int32)) - (Int32.ofNat j >>> 2)) &&& (31 : Int32))) = Int32.ofNat (pm sg s (j + 1)) := by
        rw [kbI_and1, kbI_sar0 _ (by omega), kbI_of hs]
        show _ = Int32.ofNat (pm sg s j ||| (bif s.testBit j then 2 ^ sg j else 0))
        rw [← si_or]
        cases s.testBit j
        · show _ ||| ((0 : Int32) <<< _) = _
          rw [t2]
          rfl
        · show _ ||| ((1 : Int32) <<< _) = _
          rw [t1]
          rfl
      rw [e, t7]
      exact ih (j + 1) _ _ (by omega)
  refine ev_seg qt_r0 ?_
  exact loop 16 0 _ _ rfl
theorem ex_mi {s : Nat} (hs : s < 65536) : ev_W X 90 0 (ez_lay [.int (Int32.ofNat s)]) [] (ev_hp I J R T) 0 0 (ev_is (some (.int (Int32.ofNat (pm ta s 16)))) (ev_hp I J R T)) := by
  have loop : ∀ (r j : Nat) (cz kz : Nat), j + r = 16 → ev_W X 90 4 [.int (Int32.ofNat s), .int (Int32.ofNat (pm ta s j)), .int (Int32.ofNat j)] [] (ev_hp I J R T) cz kz (fun q h' c' k' => q = some (.int (Int32.ofNat (pm ta s 16))) ∧ h' = ev_hp I J R T ∧ c' = cz ∧ k' = kz) := by
    intro r
    induction r with
    | zero =>
      intro j cz kz hj
      obtain rfl : j = 16 := by omega
      exact ev_if mi_r1 (fun _ => ev_ret mi_r2 ⟨rfl, rfl, rfl, rfl⟩) (fun h => absurd (by decide) (of_decide_eq_false h))
    | succ r ih =>
      intro j cz kz hj
      obtain ⟨-, -, t3, t4, -, -, t7⟩ := sg_tab_s (j := j) (by omega)
      refine ev_if mi_r1 (fun h => ?_) (fun _ => ?_)
      · have := Int32.le_iff_toInt_le.mp (of_decide_eq_true h)
        rw [Int32.toInt_ofNat_of_lt (by omega), show (16 : Int32).toInt = 16 from by decide] at this
        omega
      refine ev_seg mi_r3 ?_
      have e : Int32.ofNat (pm ta s j) ||| (((Int32.ofNat s >>> (Int32.ofNat j &&& (31 : Int32))) &&& (1 : Int32)) <<< ((Int32.ofNat j ^^^ (3 : Int32)) &&& (31 : Int32))) = Int32.ofNat (pm ta s (j + 1)) := by
        rw [kbI_and1, kbI_sar0 _ (by omega), kbI_of hs]
        show _ = Int32.ofNat (pm ta s j ||| (bif s.testBit j then 2 ^ ta j else 0))
        rw [← si_or]
        cases s.testBit j
        · show _ ||| ((0 : Int32) <<< _) = _
          rw [t4]
          rfl
        · show _ ||| ((1 : Int32) <<< _) = _
          rw [t3]
          rfl
      rw [e, t7]
      exact ih (j + 1) _ _ (by omega)
  refine ev_seg mi_r0 ?_
  exact loop 16 0 _ _ rfl
end
/-! the reference's turns -/
noncomputable def itf : Nat → Nat → Nat → Nat × Nat
  | 0, x, y => (x, y)
  | d + 1, x, y => itf d (3 - y) x
noncomputable def rt (t j : Nat) : Nat := 4 * (itf (t % 4) (if t > 3 then 3 - j % 4 else j % 4) (j / 4)).2 + (itf (t % 4) (if t > 3 then 3 - j % 4 else j % 4) (j / 4)).1
theorem rt_tab : ((List.range 16).all fun j => decide (Int32.ofNat j - Int32.ofNat j / 4 * 4 = Int32.ofNat (j % 4)) && (decide (Int32.ofNat j / 4 = Int32.ofNat (j / 4)) && (decide (Int32.ofNat j + 1 = Int32.ofNat (j + 1)) && ((List.range 8).all fun t => decide (rt t j < 16))))) = true := by decide +kernel
theorem rt_tab_s {j : Nat} (hj : j < 16) : Int32.ofNat j - Int32.ofNat j / 4 * 4 = Int32.ofNat (j % 4) ∧ Int32.ofNat j / 4 = Int32.ofNat (j / 4) ∧ Int32.ofNat j + 1 = Int32.ofNat (j + 1) ∧ ∀ t, t < 8 → rt t j < 16 := by
  have h := List.all_eq_true.mp rt_tab j (List.mem_range.mpr hj)
  simp only [Bool.and_eq_true, decide_eq_true_eq] at h
  obtain ⟨h1, h2, h3, h4⟩ := h
  exact ⟨h1, h2, h3, fun t ht => of_decide_eq_true (List.all_eq_true.mp h4 t (List.mem_range.mpr ht))⟩
theorem rt_lt {t : Nat} (ht : t < 8) (j : Nat) (hj : j < 16) : rt t j < 16 := (rt_tab_s hj).2.2.2 t ht
theorem rt_4 : ((List.range 4).all fun y => decide ((3 : Int32) - Int32.ofNat y = Int32.ofNat (3 - y)) && ((List.range 4).all fun x => decide ((1 : Int32) <<< (((4 * Int32.ofNat y) + Int32.ofNat x) &&& (31 : Int32)) = Int32.ofNat (2 ^ (4 * y + x))))) = true := by decide +kernel
theorem rt_4_s {y : Nat} (hy : y < 4) : (3 : Int32) - Int32.ofNat y = Int32.ofNat (3 - y) ∧ ∀ x, x < 4 → (1 : Int32) <<< (((4 * Int32.ofNat y) + Int32.ofNat x) &&& (31 : Int32)) = Int32.ofNat (2 ^ (4 * y + x)) := by
  have h := List.all_eq_true.mp rt_4 y (List.mem_range.mpr hy)
  obtain ⟨h1, h2⟩ := Bool.and_eq_true_iff.mp h
  exact ⟨of_decide_eq_true h1, fun x hx => of_decide_eq_true (List.all_eq_true.mp h2 x (List.mem_range.mpr hx))⟩
theorem rt_8 : ((List.range 8).all fun t => decide (Int32.ofNat t - Int32.ofNat t / 4 * 4 = Int32.ofNat (t % 4)) && decide (Int32.ofNat t ≤ 3 ↔ t ≤ 3)) = true := by decide +kernel
theorem rt_8_s {t : Nat} (ht : t < 8) : Int32.ofNat t - Int32.ofNat t / 4 * 4 = Int32.ofNat (t % 4) ∧ (Int32.ofNat t ≤ 3 ↔ t ≤ 3) := by
  have h := List.all_eq_true.mp rt_8 t (List.mem_range.mpr ht)
  obtain ⟨h1, h2⟩ := Bool.and_eq_true_iff.mp h
  exact ⟨of_decide_eq_true h1, of_decide_eq_true h2⟩
theorem itf_lt : ∀ d x y, x < 4 → y < 4 → (itf d x y).1 < 4 ∧ (itf d x y).2 < 4 := by
  intro d
  induction d with
  | zero => exact fun x y h1 h2 => ⟨h1, h2⟩
  | succ d ih => exact fun x y h1 h2 => ih (3 - y) x (by omega) h1
section
variable (X : ez_X) (I : Nat → Nat → Int32) (J : Nat → Nat → Int64) (R : Nat → Nat) (T : List ez_C)
theorem ex_tu_q {t : Nat} (ht : t < 8) {b g k : Int32} {Q : ev_Q} {cz kz : Nat} : ∀ (D q x y : Nat), q + D = t % 4 → x < 4 → y < 4 →
    (∀ q' : Int32, ev_W X 230 73 [.int b, .int (Int32.ofNat t), .int g, .int k, .int (Int32.ofNat (itf D x y).1), .int (Int32.ofNat (itf D x y).2), .int q'] [] (ev_hp I J R T) cz kz Q) →
    ev_W X 230 45 [.int b, .int (Int32.ofNat t), .int g, .int k, .int (Int32.ofNat x), .int (Int32.ofNat y), .int (Int32.ofNat q)] [] (ev_hp I J R T) cz kz Q := by
  have e := (rt_8_s ht).1
  intro D
  induction D with
  | zero =>
    intro q x y hq hx hy cont
    refine ev_seg tu_r11 ?_
    refine ev_irem (by rfl) (by decide) ?_
    rw [e]
    refine ev_if tu_r12 (fun _ => cont _) (fun h => ?_)
    exact absurd (Int32.le_iff_toInt_le.mpr (by rw [Int32.toInt_ofNat_of_lt (by omega), Int32.toInt_ofNat_of_lt (by omega)]; omega)) (of_decide_eq_false h)
  | succ D ih =>
    intro q x y hq hx hy cont
    refine ev_seg tu_r11 ?_
    refine ev_irem (by rfl) (by decide) ?_
    rw [e]
    refine ev_if tu_r12 (fun h => ?_) (fun _ => ?_)
    · have := Int32.le_iff_toInt_le.mp (of_decide_eq_true h)
      rw [Int32.toInt_ofNat_of_lt (by omega), Int32.toInt_ofNat_of_lt (by omega)] at this
      omega
    refine ev_seg tu_r13 ?_
    refine ev_cutl (by rfl) ?_
    rw [(rt_4_s hy).1, (rt_tab_s (j := q) (by omega)).2.2.1]
    exact ih (q + 1) (3 - y) x (by omega) (by omega) hx cont
theorem ex_tu {s t : Nat} (hs : s < 65536) (ht : t < 8) : ev_W X 230 0 (ez_lay [.int (Int32.ofNat s), .int (Int32.ofNat t)]) [] (ev_hp I J R T) 0 0 (ev_is (some (.int (Int32.ofNat (pm (rt t) s 16)))) (ev_hp I J R T)) := by
  have loop : ∀ (r j : Nat) (cz kz : Nat), j + r = 16 → ev_W X 230 4 [.int (Int32.ofNat s), .int (Int32.ofNat t), .int (Int32.ofNat (pm (rt t) s j)), .int (Int32.ofNat j)] [] (ev_hp I J R T) cz kz (fun q h' c' k' => q = some (.int (Int32.ofNat (pm (rt t) s 16))) ∧ h' = ev_hp I J R T ∧ c' = cz ∧ k' = kz) := by
    intro r
    induction r with
    | zero =>
      intro j cz kz hj
      obtain rfl : j = 16 := by omega
      exact ev_if tu_r1 (fun _ => ev_ret tu_r15 ⟨rfl, rfl, rfl, rfl⟩) (fun h => absurd (by decide) (of_decide_eq_false h))
    | succ r ih =>
      intro j cz kz hj
      obtain ⟨j1, j2, j3, -⟩ := rt_tab_s (j := j) (by omega)
      refine ev_if tu_r1 (fun h => ?_) (fun _ => ?_)
      · have := Int32.le_iff_toInt_le.mp (of_decide_eq_true h)
        rw [Int32.toInt_ofNat_of_lt (by omega), show (16 : Int32).toInt = 16 from by decide] at this
        omega
      refine ev_call tu_r2 (em_has X _ _ _) ?_
      rintro _ _ _ _ ⟨rfl, rfl, rfl, rfl⟩
      have hb := has_kb (Int32.ofNat s).toInt64 (j := j) (by omega)
      rw [kb_of hs] at hb
      have nx : pm (rt t) s (j + 1) = pm (rt t) s j ||| (bif s.testBit j then 2 ^ rt t j else 0) := rfl
      refine ev_if tu_r3 (fun h => ?_) (fun h => ?_)
      · have h0 := hb.mp (of_decide_eq_true h)
        rw [h0] at nx
        have nx : pm (rt t) s (j + 1) = pm (rt t) s j := by rw [nx]; exact Nat.or_zero _
        refine ev_seg tu_r4 ?_
        rw [j3, ← nx]
        exact ih (j + 1) _ _ (by omega)
      · have h1 : s.testBit j = true := by
          cases hz : s.testBit j with
          | true => rfl
          | false => exact absurd (hb.mpr hz) (of_decide_eq_false h)
        rw [h1] at nx
        have nx : pm (rt t) s (j + 1) = pm (rt t) s j ||| 2 ^ rt t j := nx
        -- behind the coordinates
        have rest : ∀ (x y : Nat) (cz kz : Nat), x < 4 → y < 4 → itf (t % 4) x y = itf (t % 4) (if t > 3 then 3 - j % 4 else j % 4) (j / 4) → ev_W X 230 45 [.int (Int32.ofNat s), .int (Int32.ofNat t), .int (Int32.ofNat (pm (rt t) s j)), .int (Int32.ofNat j), .int (Int32.ofNat x), .int (Int32.ofNat y), .int (Int32.ofNat 0)] [] (ev_hp I J R T) cz kz (fun q h' c' k' => q = some (.int (Int32.ofNat (pm (rt t) s 16))) ∧ h' = ev_hp I J R T ∧ c' = cz ∧ k' = kz) := by
          intro x y cz kz hx hy he
          refine ex_tu_q X I J R T ht (t % 4) 0 x y (by omega) hx hy (fun q' => ?_)
          obtain ⟨l1, l2⟩ := itf_lt (t % 4) x y hx hy
          refine ev_seg tu_r14 ?_
          refine ev_cutl (by rfl) ?_
          refine ev_seg tu_r4 ?_
          rw [(rt_4_s l2).2 _ l1, si_or, j3, he, show 4 * (itf (t % 4) (if t > 3 then 3 - j % 4 else j % 4) (j / 4)).2 + (itf (t % 4) (if t > 3 then 3 - j % 4 else j % 4) (j / 4)).1 = rt t j from rfl, ← nx]
          exact ih (j + 1) _ _ (by omega)
        refine ev_if tu_r5 (fun h => ?_) (fun h => ?_)
        · have h3 := (rt_8_s ht).2.mp (of_decide_eq_true h)
          refine ev_seg tu_r8 ?_
          refine ev_irem (by rfl) (by decide) ?_
          refine ev_seg tu_r9 ?_
          refine ev_idiv (by rfl) (by decide) ?_
          refine ev_seg tu_r10 ?_
          rw [j1, j2]
          exact rest (j % 4) (j / 4) _ _ (by omega) (by omega) (by rw [if_neg (by omega)])
        · have h3 : ¬ t ≤ 3 := fun z => (of_decide_eq_false h) ((rt_8_s ht).2.mpr z)
          refine ev_seg tu_r6 ?_
          refine ev_irem (by rfl) (by decide) ?_
          refine ev_seg tu_r7 ?_
          refine ev_idiv (by rfl) (by decide) ?_
          refine ev_seg tu_r10 ?_
          rw [j1, j2, (rt_4_s (y := j % 4) (by omega)).1]
          exact rest (3 - j % 4) (j / 4) _ _ (by omega) (by omega) (by rw [if_pos (by omega)])
  refine ev_seg tu_r0 ?_
  exact loop 16 0 _ _ rfl
end
/-! turns one behind another -/
theorem rt_next : ((List.range 16).all fun j => decide (rt 0 j = j) && (decide (sg (rt 0 j) = rt 1 j) && (decide (sg (rt 1 j) = rt 2 j) && (decide (sg (rt 2 j) = rt 3 j) && (decide (ta (sg (rt 3 j)) = rt 4 j) && (decide (sg (rt 4 j) = rt 5 j) && (decide (sg (rt 5 j) = rt 6 j) && decide (sg (rt 6 j) = rt 7 j)))))))) = true := by decide +kernel
theorem rt_next_s {j : Nat} (hj : j < 16) : rt 0 j = j ∧ sg (rt 0 j) = rt 1 j ∧ sg (rt 1 j) = rt 2 j ∧ sg (rt 2 j) = rt 3 j ∧ ta (sg (rt 3 j)) = rt 4 j ∧ sg (rt 4 j) = rt 5 j ∧ sg (rt 5 j) = rt 6 j ∧ sg (rt 6 j) = rt 7 j := by
  have h := List.all_eq_true.mp rt_next j (List.mem_range.mpr hj)
  simp only [Bool.and_eq_true, decide_eq_true_eq] at h
  exact h
theorem sg_lt (j : Nat) (hj : j < 16) : sg j < 16 := (sg_tab_s hj).2.2.2.2.1
theorem ta_lt (j : Nat) (hj : j < 16) : ta j < 16 := (sg_tab_s hj).2.2.2.2.2.1
theorem tn_0 {s : Nat} (hs : s < 65536) : pm (rt 0) s 16 = s := (pm_congr s 16 fun j hj => (rt_next_s hj).1).trans (pm_id hs)
theorem tn_q (s : Nat) {t : Nat} (ht : t < 8) (h3 : ¬ t = 3) (h7 : ¬ t = 7) : pm sg (pm (rt t) s 16) 16 = pm (rt (t + 1)) s 16 := by
  rw [pm_comp (rt_lt ht)]
  refine pm_congr s 16 fun j hj => ?_
  obtain ⟨-, a, b, c, -, d, e, f⟩ := rt_next_s hj
  rcases (show t = 0 ∨ t = 1 ∨ t = 2 ∨ t = 4 ∨ t = 5 ∨ t = 6 by omega) with rfl | rfl | rfl | rfl | rfl | rfl
  · exact a
  · exact b
  · exact c
  · exact d
  · exact e
  · exact f
theorem tn_m (s : Nat) : pm ta (pm sg (pm (rt 3) s 16) 16) 16 = pm (rt 4) s 16 := by
  rw [pm_comp (rt_lt (by decide)), pm_comp fun j hj => sg_lt _ (rt_lt (by decide) j hj)]
  exact pm_congr s 16 fun j hj => (rt_next_s hj).2.2.2.2.1
end
