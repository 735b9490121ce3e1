/-! Methods that keep what is asked: those that need no proof by hand. -/
set_option maxRecDepth 1000000 in
theorem cv_3_0 : cx_valid cx_B0 3 ck_3_0 := cx_chk_s (G := []) (An := []) (n := 14) cx_hA0 cx_Gn (by decide +kernel)
set_option maxRecDepth 1000000 in
theorem cv_147_0 : cx_valid cx_B0 147 ck_147_0 := cx_chk_s (G := []) (An := []) (n := 36) cx_hA0 cx_Gn (by decide +kernel)
set_option maxRecDepth 1000000 in
theorem cv_148_0 : cx_valid cx_B0 148 ck_148_0 := cx_chk_s (G := []) (An := []) (n := 29) cx_hA0 cx_Gn (by decide +kernel)
set_option maxRecDepth 1000000 in
theorem cv_144_0 : cx_valid cx_B0 144 ck_144_0 := cx_chk_s (G := [(3, ck_3_0), (147, ck_147_0), (148, ck_148_0)]) (An := []) (n := 40) cx_hA0 (cx_Gc cv_3_0 (cx_Gc cv_147_0 (cx_Gc cv_148_0 cx_Gn))) (by decide +kernel)
set_option maxRecDepth 1000000 in
theorem cv_197_0 : cx_valid cx_B0 197 ck_197_0 := cx_chk_s (G := []) (An := []) (n := 14) cx_hA0 cx_Gn (by decide +kernel)
set_option maxRecDepth 1000000 in
theorem cv_230_0 : cx_valid cx_B0 230 ck_230_0 := cx_chk_s (G := [(197, ck_197_0)]) (An := [(4, ([(0, 0), (0, 1), (0, 2), (0, 3)], [], [cx_i32, cx_i32, cx_i32, (0, 30)], [], [], []), [(0, 99996), (1, 3), (0, 300000), (0, 0)]), (45, ([(0, 0), (0, 1), (0, 2), (0, 3), (0, 4), (0, 5), (0, 6)], [], [cx_i32, cx_i32, cx_i32, (0, 29), cx_i32, cx_i32, (0, 2147483647)], [], [], []), [(0, 99996), (1, 3), (0, 99955), (1, 6)])]) (n := 28) cx_hA0 (cx_Gc cv_197_0 cx_Gn) (by decide +kernel)
set_option maxRecDepth 1000000 in
theorem cv_179_0 : cx_valid cx_B0 179 ck_179_0 := cx_chk_s (G := []) (An := []) (n := 9) cx_hA0 cx_Gn (by decide +kernel)
set_option maxRecDepth 1000000 in
theorem cv_198_0 : cx_valid cx_B0 198 ck_198_0 := cx_chk_s (G := []) (An := []) (n := 14) cx_hA0 cx_Gn (by decide +kernel)
set_option maxRecDepth 1000000 in
theorem cv_165_0 : cx_valid cx_B0 165 ck_165_0 := cx_chk_s (G := [(179, ck_179_0), (197, ck_197_0), (198, ck_198_0)]) (An := [(6, ([(2, 35), (1, 0), (4, 0), (0, 1), (1, 2), (4, 0), (0, 3)], [], [cx_i64, cx_i32, cx_i64, (0, 36)], [], [], []), [(0, 99994), (1, 3), (0, 300000), (0, 0)]), (31, ([(2, 35), (1, 0), (4, 0), (0, 1), (1, 2), (4, 0), (0, 3), (0, 4)], [], [cx_i64, cx_i32, cx_i64, (0, 35), (0, 29)], [], [], []), [(0, 99994), (1, 3), (0, 99969), (1, 4)])]) (n := 92) cx_hA0 (cx_Gc cv_179_0 (cx_Gc cv_197_0 (cx_Gc cv_198_0 cx_Gn))) (by decide +kernel)
set_option maxRecDepth 1000000 in
theorem cv_216_0 : cx_valid cx_B0 216 ck_216_0 := cx_chk_s (G := [(197, ck_197_0)]) (An := [(3, ([(2, 35), (0, 0), (0, 1), (1, 2), (4, 0), (0, 3)], [], [(0, 9999), cx_i32, cx_i64, (0, 3)], [], [], []), [(0, 99997), (1, 3)])]) (n := 55) cx_hA0 (cx_Gc cv_197_0 cx_Gn) (by decide +kernel)
set_option maxRecDepth 1000000 in
theorem cv_177_0 : cx_valid cx_B0 177 ck_177_0 := cx_chk_s (G := [(179, ck_179_0), (216, ck_216_0)]) (An := [(11, ([(2, 35), (0, 0), (0, 1), (1, 2), (4, 0), (0, 3), (0, 4), (0, 5)], [], [(0, 400), (0, 400), cx_i64, (-1, 35), (-2147483648, 400), (0, 36)], [], [], []), [(0, 99989), (1, 5), (0, 300000), (0, 0)]), (44, ([(2, 35), (0, 0), (0, 1), (1, 2), (4, 0), (0, 3), (0, 4), (0, 5), (0, 6)], [], [(0, 400), (0, 400), cx_i64, (-1, 35), (-2147483648, 400), (0, 35), (0, 400)], [], [], []), [(0, 99989), (1, 5), (0, 99956), (1, 6)])]) (n := 48) cx_hA0 (cx_Gc cv_179_0 (cx_Gc cv_216_0 cx_Gn)) (by decide +kernel)
set_option maxRecDepth 1000000 in
theorem cv_55_0 : cx_valid cx_B0 55 ck_55_0 := cx_chk_s (G := []) (An := []) (n := 12) cx_hA0 cx_Gn (by decide +kernel)
set_option maxRecDepth 1000000 in
theorem cv_145_0 : cx_valid cx_B0 145 ck_145_0 := cx_chk_s (G := []) (An := [(52, ([(2, 1), (0, 0), (0, 1), (0, 2), (0, 3)], [], [(2, 6), (2, 6), (0, 1), (0, 29), (0, 0), (0, 0), (4, 36)], [], [(1, 2, 4), (1, 1, 5), (1, 6, 6), (1, 5, 2), (1, 4, 1), (1, 3, 0)], []), [(0, 99948), (1, 3)])]) (n := 37) cx_hA0 cx_Gn (by decide +kernel)
set_option maxRecDepth 1000000 in
theorem cv_88_0 : cx_valid cx_B0 88 ck_88_0 := cx_chk_s (G := []) (An := []) (n := 7) cx_hA0 cx_Gn (by decide +kernel)
set_option maxRecDepth 1000000 in
theorem cv_122_0 : cx_valid cx_B0 122 ck_122_0 := cx_chk_s (G := []) (An := []) (n := 13) cx_hA0 cx_Gn (by decide +kernel)
set_option maxRecDepth 1000000 in
theorem cv_38_0 : cx_valid cx_B0 38 ck_38_0 := cx_chk_s (G := []) (An := []) (n := 14) cx_hA0 cx_Gn (by decide +kernel)
set_option maxRecDepth 1000000 in
theorem cv_72_0 : cx_valid cx_B0 72 ck_72_0 := cx_chk_s (G := [(38, ck_38_0)]) (An := [(2, ([(2, 32), (0, 0)], [], [(0, 29)], [], [], []), [(0, 99998), (1, 0)])]) (n := 14) cx_hA0 (cx_Gc cv_38_0 cx_Gn) (by decide +kernel)
set_option maxRecDepth 1000000 in
theorem cv_139_0 : cx_valid cx_B0 139 ck_139_0 := cx_chk_s (G := []) (An := []) (n := 7) cx_hA0 cx_Gn (by decide +kernel)
set_option maxRecDepth 1000000 in
theorem cv_62_0 : cx_valid cx_B0 62 ck_62_0 := cx_chk_s (G := []) (An := []) (n := 10) cx_hA0 cx_Gn (by decide +kernel)
set_option maxRecDepth 1000000 in
theorem cv_106_0 : cx_valid cx_B0 106 ck_106_0 := cx_chk_s (G := []) (An := []) (n := 7) cx_hA0 cx_Gn (by decide +kernel)
set_option maxRecDepth 1000000 in
theorem cv_107_0 : cx_valid cx_B0 107 ck_107_0 := cx_chk_s (G := []) (An := []) (n := 7) cx_hA0 cx_Gn (by decide +kernel)
set_option maxRecDepth 1000000 in
theorem cv_117_0 : cx_valid cx_B0 117 ck_117_0 := cx_chk_s (G := []) (An := []) (n := 7) cx_hA0 cx_Gn (by decide +kernel)
set_option maxRecDepth 1000000 in
theorem cv_2_0 : cx_valid cx_B0 2 ck_2_0 := cx_chk_s (G := [(107, ck_107_0), (117, ck_117_0)]) (An := []) (n := 10) cx_hA0 (cx_Gc cv_107_0 (cx_Gc cv_117_0 cx_Gn)) (by decide +kernel)
set_option maxRecDepth 1000000 in
theorem cv_12_0 : cx_valid cx_B0 12 ck_12_0 := cx_chk_s (G := [(106, ck_106_0), (2, ck_2_0)]) (An := []) (n := 9) cx_hA0 (cx_Gc cv_106_0 (cx_Gc cv_2_0 cx_Gn)) (by decide +kernel)
set_option maxRecDepth 1000000 in
theorem cv_28_0 : cx_valid cx_B0 28 ck_28_0 := cx_chk_s (G := [(139, ck_139_0), (62, ck_62_0), (12, ck_12_0)]) (An := []) (n := 12) cx_hA0 (cx_Gc cv_139_0 (cx_Gc cv_62_0 (cx_Gc cv_12_0 cx_Gn))) (by decide +kernel)
set_option maxRecDepth 1000000 in
theorem cv_18_0 : cx_valid cx_B0 18 ck_18_0 := cx_chk_s (G := [(55, ck_55_0), (145, ck_145_0), (88, ck_88_0), (122, ck_122_0), (72, ck_72_0), (28, ck_28_0)]) (An := []) (n := 34) cx_hA0 (cx_Gc cv_55_0 (cx_Gc cv_145_0 (cx_Gc cv_88_0 (cx_Gc cv_122_0 (cx_Gc cv_72_0 (cx_Gc cv_28_0 cx_Gn)))))) (by decide +kernel)
set_option maxRecDepth 1000000 in
theorem cv_234_0 : cx_valid cx_B0 234 ck_234_0 := cx_chk_s (G := []) (An := []) (n := 45) cx_hA0 cx_Gn (by decide +kernel)
set_option maxRecDepth 1000000 in
theorem cv_38_1 : cx_valid cx_B0 38 ck_38_1 := cx_chk_s (G := []) (An := []) (n := 14) cx_hA0 cx_Gn (by decide +kernel)
set_option maxRecDepth 1000000 in
theorem cv_240_0 : cx_valid cx_B0 240 ck_240_0 := cx_chk_s (G := []) (An := []) (n := 17) cx_hA0 cx_Gn (by decide +kernel)
set_option maxRecDepth 1000000 in
theorem cv_154_0 : cx_valid cx_B0 154 ck_154_0 := cx_chk_s (G := [(240, ck_240_0)]) (An := []) (n := 13) cx_hA0 (cx_Gc cv_240_0 cx_Gn) (by decide +kernel)
set_option maxRecDepth 1000000 in
theorem cv_237_0 : cx_valid cx_B0 237 ck_237_0 := cx_chk_s (G := []) (An := []) (n := 52) cx_hA0 cx_Gn (by decide +kernel)
set_option maxRecDepth 1000000 in
theorem cv_149_0 : cx_valid cx_B0 149 ck_149_0 := cx_chk_s (G := [(237, ck_237_0), (234, ck_234_0), (154, ck_154_0), (55, ck_55_0)]) (An := [(6, ([(2, 1), (0, 0), (0, 1), (0, 2), (1, 3), (4, 0), (0, 4)], [], [cx_i32, cx_i32, cx_i32, cx_i64, (0, 29)], [], [], []), [(0, 99994), (1, 4)])]) (n := 62) cx_hA0 (cx_Gc cv_237_0 (cx_Gc cv_234_0 (cx_Gc cv_154_0 (cx_Gc cv_55_0 cx_Gn)))) (by decide +kernel)
set_option maxRecDepth 1000000 in
theorem cv_3_1 : cx_valid cx_B0 3 ck_3_1 := cx_chk_s (G := []) (An := []) (n := 14) cx_hA0 cx_Gn (by decide +kernel)
set_option maxRecDepth 1000000 in
theorem cv_4_0 : cx_valid cx_B0 4 ck_4_0 := cx_chk_s (G := []) (An := []) (n := 14) cx_hA0 cx_Gn (by decide +kernel)
set_option maxRecDepth 1000000 in
theorem cv_39_0 : cx_valid cx_B0 39 ck_39_0 := cx_chk_s (G := []) (An := []) (n := 14) cx_hA0 cx_Gn (by decide +kernel)
set_option maxRecDepth 1000000 in
theorem cv_91_0 : cx_valid cx_B0 91 ck_91_0 := cx_chk_s (G := [(3, ck_3_1), (4, ck_4_0), (39, ck_39_0), (38, ck_38_1)]) (An := [(21, ([(2, 3), (0, 0), (1, 1), (4, 0), (0, 2), (0, 3), (0, 4)], [], [cx_i32, cx_i64, cx_i32, (0, 288), (0, 288)], [], [], []), [(0, 99979), (2, 4)]), (100, ([(2, 3), (0, 0), (1, 1), (4, 0), (0, 2), (0, 3), (0, 4), (0, 5), (0, 6)], [], [cx_i32, cx_i64, cx_i32, (0, 287), (0, 288), (0, 0), (0, 287)], [], [], []), [(0, 99900), (2, 6)])]) (n := 38) cx_hA0 (cx_Gc cv_3_1 (cx_Gc cv_4_0 (cx_Gc cv_39_0 (cx_Gc cv_38_1 cx_Gn)))) (by decide +kernel)
set_option maxRecDepth 1000000 in
theorem cv_92_0 : cx_valid cx_B0 92 ck_92_0 := cx_chk_s (G := [(149, ck_149_0), (91, ck_91_0)]) (An := [(3, ([(2, 3), (0, 0), (0, 1), (0, 2)], [], [cx_i32, cx_i32, (-3, 30)], [], [], []), [(0, 99997), (1, 2), (0, 300000), (0, 0)]), (18, ([(2, 3), (0, 0), (0, 1), (0, 2), (0, 3)], [], [cx_i32, cx_i32, (-3, 29), (-3, 29), (2, 6)], [], [(1, 4, 4)], []), [(0, 99997), (1, 2), (0, 99982), (1, 3)])]) (n := 26) cx_hA0 (cx_Gc cv_149_0 (cx_Gc cv_91_0 cx_Gn)) (by decide +kernel)
set_option maxRecDepth 1000000 in
theorem cv_93_0 : cx_valid cx_B0 93 ck_93_0 := cx_chk_s (G := []) (An := [(4, ([(0, 0), (0, 1), (0, 2)], [], [cx_i32, cx_i32, (0, 29)], [], [], []), [(0, 99996), (1, 2)])]) (n := 31) cx_hA0 cx_Gn (by decide +kernel)
set_option maxRecDepth 1000000 in
theorem cv_90_0 : cx_valid cx_B0 90 ck_90_0 := cx_chk_s (G := []) (An := [(4, ([(0, 0), (0, 1), (0, 2)], [], [cx_i32, cx_i32, (0, 29)], [], [], []), [(0, 99996), (1, 2)])]) (n := 21) cx_hA0 cx_Gn (by decide +kernel)
set_option maxRecDepth 1000000 in
theorem cv_85_0 : cx_valid cx_B0 85 ck_85_0 := cx_chk_s (G := [(38, ck_38_1), (90, ck_90_0), (92, ck_92_0), (93, ck_93_0)]) (An := [(20, ([(2, 3), (0, 0), (0, 1), (0, 2), (0, 3), (0, 4)], [], [cx_i32, cx_i32, (0, 2), cx_i32, (0, 2)], [], [(3, 3, 2)], []), [(0, 99980), (1, 4), (0, 300000), (0, 0)]), (38, ([(2, 3), (0, 0), (0, 1), (0, 2), (0, 3), (0, 4), (0, 5)], [], [cx_i32, cx_i32, (0, 2), cx_i32, (0, 1), (0, 29)], [], [(3, 3, 2)], []), [(0, 99980), (1, 4), (0, 99962), (1, 5)])]) (n := 19) cx_hA0 (cx_Gc cv_38_1 (cx_Gc cv_90_0 (cx_Gc cv_92_0 (cx_Gc cv_93_0 cx_Gn)))) (by decide +kernel)
set_option maxRecDepth 1000000 in
theorem cv_43_0 : cx_valid cx_B0 43 ck_43_0 := cx_chk_s (G := [(55, ck_55_0), (234, ck_234_0), (85, ck_85_0), (28, ck_28_0)]) (An := []) (n := 36) cx_hA0 (cx_Gc cv_55_0 (cx_Gc cv_234_0 (cx_Gc cv_85_0 (cx_Gc cv_28_0 cx_Gn)))) (by decide +kernel)
set_option maxRecDepth 1000000 in
theorem cv_38_2 : cx_valid cx_B0 38 ck_38_2 := cx_chk_s (G := []) (An := []) (n := 14) cx_hA0 cx_Gn (by decide +kernel)
set_option maxRecDepth 1000000 in
theorem cv_146_0 : cx_valid cx_B0 146 ck_146_0 := cx_chk_s (G := [(3, ck_3_0), (38, ck_38_2)]) (An := []) (n := 15) cx_hA0 (cx_Gc cv_3_0 (cx_Gc cv_38_2 cx_Gn)) (by decide +kernel)
set_option maxRecDepth 1000000 in
theorem cv_42_0 : cx_valid cx_B0 42 ck_42_0 := cx_chk_s (G := [(55, ck_55_0), (146, ck_146_0), (2, ck_2_0), (62, ck_62_0), (12, ck_12_0), (28, ck_28_0)]) (An := []) (n := 36) cx_hA0 (cx_Gc cv_55_0 (cx_Gc cv_146_0 (cx_Gc cv_2_0 (cx_Gc cv_62_0 (cx_Gc cv_12_0 (cx_Gc cv_28_0 cx_Gn)))))) (by decide +kernel)
set_option maxRecDepth 1000000 in
theorem cv_153_0 : cx_valid cx_B0 153 ck_153_0 := cx_chk_s (G := []) (An := []) (n := 10) cx_hA0 cx_Gn (by decide +kernel)
set_option maxRecDepth 1000000 in
theorem cv_16_0 : cx_valid cx_B0 16 ck_16_0 := cx_chk_s (G := [(55, ck_55_0), (153, ck_153_0), (12, ck_12_0)]) (An := []) (n := 26) cx_hA0 (cx_Gc cv_55_0 (cx_Gc cv_153_0 (cx_Gc cv_12_0 cx_Gn))) (by decide +kernel)
set_option maxRecDepth 1000000 in
theorem cv_25_0 : cx_valid cx_B0 25 ck_25_0 := cx_chk_s (G := [(55, ck_55_0)]) (An := []) (n := 12) cx_hA0 (cx_Gc cv_55_0 cx_Gn) (by decide +kernel)
set_option maxRecDepth 1000000 in
theorem cv_94_0 : cx_valid cx_B0 94 ck_94_0 := cx_chk_s (G := [(3, ck_3_1)]) (An := []) (n := 13) cx_hA0 (cx_Gc cv_3_1 cx_Gn) (by decide +kernel)
set_option maxRecDepth 1000000 in
theorem cv_46_0 : cx_valid cx_B0 46 ck_46_0 := cx_chk_s (G := [(25, ck_25_0), (94, ck_94_0)]) (An := []) (n := 13) cx_hA0 (cx_Gc cv_25_0 (cx_Gc cv_94_0 cx_Gn)) (by decide +kernel)
set_option maxRecDepth 1000000 in
theorem cv_86_0 : cx_valid cx_B0 86 ck_86_0 := cx_chk_s (G := []) (An := []) (n := 26) cx_hA0 cx_Gn (by decide +kernel)
set_option maxRecDepth 1000000 in
theorem cv_44_0 : cx_valid cx_B0 44 ck_44_0 := cx_chk_s (G := [(25, ck_25_0), (94, ck_94_0), (55, ck_55_0), (86, ck_86_0)]) (An := []) (n := 24) cx_hA0 (cx_Gc cv_25_0 (cx_Gc cv_94_0 (cx_Gc cv_55_0 (cx_Gc cv_86_0 cx_Gn)))) (by decide +kernel)
set_option maxRecDepth 1000000 in
theorem cv_89_0 : cx_valid cx_B0 89 ck_89_0 := cx_chk_s (G := [(94, ck_94_0)]) (An := []) (n := 15) cx_hA0 (cx_Gc cv_94_0 cx_Gn) (by decide +kernel)
set_option maxRecDepth 1000000 in
theorem cv_23_0 : cx_valid cx_B0 23 ck_23_0 := cx_chk_s (G := [(55, ck_55_0)]) (An := []) (n := 12) cx_hA0 (cx_Gc cv_55_0 cx_Gn) (by decide +kernel)
set_option maxRecDepth 1000000 in
theorem cv_138_0 : cx_valid cx_B0 138 ck_138_0 := cx_chk_s (G := [(3, ck_atI)]) (An := []) (n := 8) cx_hA0 (cx_Gc cv_atI cx_Gn) (by decide +kernel)
set_option maxRecDepth 1000000 in
theorem cv_45_0 : cx_valid cx_B0 45 ck_45_0 := cx_chk_s (G := []) (An := []) (n := 13) cx_hA0 cx_Gn (by decide +kernel)
set_option maxRecDepth 1000000 in
theorem cv_22_0 : cx_valid cx_B0 22 ck_22_0 := cx_chk_s (G := [(55, ck_55_0)]) (An := []) (n := 12) cx_hA0 (cx_Gc cv_55_0 cx_Gn) (by decide +kernel)
set_option maxRecDepth 1000000 in
theorem cv_39_1 : cx_valid cx_B0 39 ck_39_1 := cx_chk_s (G := []) (An := []) (n := 14) cx_hA0 cx_Gn (by decide +kernel)
set_option maxRecDepth 1000000 in
theorem cv_121_0 : cx_valid cx_B0 121 ck_121_0 := cx_chk_s (G := [(39, ck_39_1)]) (An := []) (n := 20) cx_hA0 (cx_Gc cv_39_1 cx_Gn) (by decide +kernel)
set_option maxRecDepth 1000000 in
theorem cv_35_0 : cx_valid cx_B0 35 ck_35_0 := cx_chk_s (G := [(121, ck_121_0), (12, ck_12_0)]) (An := []) (n := 17) cx_hA0 (cx_Gc cv_121_0 (cx_Gc cv_12_0 cx_Gn)) (by decide +kernel)
set_option maxRecDepth 1000000 in
theorem cv_10_0 : cx_valid cx_B0 10 ck_10_0 := cx_chk_s (G := [(22, ck_22_0), (35, ck_35_0)]) (An := []) (n := 14) cx_hA0 (cx_Gc cv_22_0 (cx_Gc cv_35_0 cx_Gn)) (by decide +kernel)
set_option maxRecDepth 1000000 in
theorem cv_41_0 : cx_valid cx_B0 41 ck_41_0 := cx_chk_s (G := [(22, ck_22_0), (35, ck_35_0)]) (An := []) (n := 24) cx_hA0 (cx_Gc cv_22_0 (cx_Gc cv_35_0 cx_Gn)) (by decide +kernel)
set_option maxRecDepth 1000000 in
theorem cv_21_0 : cx_valid cx_B0 21 ck_21_0 := cx_chk_s (G := [(55, ck_55_0)]) (An := []) (n := 12) cx_hA0 (cx_Gc cv_55_0 cx_Gn) (by decide +kernel)
set_option maxRecDepth 1000000 in
theorem cv_126_0 : cx_valid cx_B0 126 ck_126_0 := cx_chk_s (G := []) (An := []) (n := 24) cx_hA0 cx_Gn (by decide +kernel)
set_option maxRecDepth 1000000 in
theorem cv_127_0 : cx_valid cx_B0 127 ck_127_0 := cx_chk_s (G := []) (An := []) (n := 28) cx_hA0 cx_Gn (by decide +kernel)
set_option maxRecDepth 1000000 in
theorem cv_125_0 : cx_valid cx_B0 125 ck_125_0 := cx_chk_s (G := [(127, ck_127_0)]) (An := []) (n := 28) cx_hA0 (cx_Gc cv_127_0 cx_Gn) (by decide +kernel)
set_option maxRecDepth 1000000 in
theorem cv_1_0 : cx_valid cx_B0 1 ck_1_0 := cx_chk_s (G := [(21, ck_21_0), (55, ck_55_0), (126, ck_126_0), (125, ck_125_0), (2, ck_2_0)]) (An := []) (n := 26) cx_hA0 (cx_Gc cv_21_0 (cx_Gc cv_55_0 (cx_Gc cv_126_0 (cx_Gc cv_125_0 (cx_Gc cv_2_0 cx_Gn))))) (by decide +kernel)
set_option maxRecDepth 1000000 in
theorem cv_32_0 : cx_valid cx_B0 32 ck_32_0 := cx_chk_s (G := [(21, ck_21_0), (126, ck_126_0), (127, ck_127_0), (2, ck_2_0)]) (An := []) (n := 21) cx_hA0 (cx_Gc cv_21_0 (cx_Gc cv_126_0 (cx_Gc cv_127_0 (cx_Gc cv_2_0 cx_Gn)))) (by decide +kernel)
set_option maxRecDepth 1000000 in
theorem cv_123_0 : cx_valid cx_B0 123 ck_123_0 := cx_chk_s (G := [(127, ck_127_0)]) (An := []) (n := 17) cx_hA0 (cx_Gc cv_127_0 cx_Gn) (by decide +kernel)
set_option maxRecDepth 1000000 in
theorem cv_5_0 : cx_valid cx_B0 5 ck_5_0 := cx_chk_s (G := [(123, ck_123_0), (12, ck_12_0)]) (An := []) (n := 17) cx_hA0 (cx_Gc cv_123_0 (cx_Gc cv_12_0 cx_Gn)) (by decide +kernel)
set_option maxRecDepth 1000000 in
theorem cv_87_0 : cx_valid cx_B0 87 ck_87_0 := cx_chk_s (G := [(45, ck_45_0)]) (An := []) (n := 28) cx_hA0 (cx_Gc cv_45_0 cx_Gn) (by decide +kernel)
set_option maxRecDepth 1000000 in
theorem cv_39_2 : cx_valid cx_B0 39 ck_39_2 := cx_chk_s (G := []) (An := []) (n := 14) cx_hA0 cx_Gn (by decide +kernel)
set_option maxRecDepth 1000000 in
theorem cv_39_3 : cx_valid cx_B0 39 ck_39_3 := cx_chk_s (G := []) (An := []) (n := 14) cx_hA0 cx_Gn (by decide +kernel)
set_option maxRecDepth 1000000 in
theorem cv_4_1 : cx_valid cx_B0 4 ck_4_1 := cx_chk_s (G := []) (An := []) (n := 14) cx_hA0 cx_Gn (by decide +kernel)
set_option maxRecDepth 1000000 in
theorem cv_124_0 : cx_valid cx_B0 124 ck_124_0 := cx_chk_s (G := [(4, ck_4_1)]) (An := []) (n := 8) cx_hA0 (cx_Gc cv_4_1 cx_Gn) (by decide +kernel)
set_option maxRecDepth 1000000 in
theorem cv_4_2 : cx_valid cx_B0 4 ck_4_2 := cx_chk_s (G := []) (An := []) (n := 14) cx_hA0 cx_Gn (by decide +kernel)
set_option maxRecDepth 1000000 in
theorem cv_4_3 : cx_valid cx_B0 4 ck_4_3 := cx_chk_s (G := []) (An := []) (n := 14) cx_hA0 cx_Gn (by decide +kernel)
set_option maxRecDepth 1000000 in
theorem cv_152_0 : cx_valid cx_B0 152 ck_152_0 := cx_chk_s (G := [(3, ck_3_0)]) (An := []) (n := 8) cx_hA0 (cx_Gc cv_3_0 cx_Gn) (by decide +kernel)
set_option maxRecDepth 1000000 in
theorem cv_130_0 : cx_valid cx_B0 130 ck_130_0 := cx_chk_s (G := [(237, ck_237_0), (152, ck_152_0), (4, ck_4_2), (4, ck_4_3), (39, ck_39_3)]) (An := [(8, ([(2, 10), (1, 0), (4, 0), (0, 1), (0, 2), (0, 3)], [], [cx_i64, cx_i32, (0, 1), (0, 3)], [], [], []), [(0, 99992), (1, 3)])]) (n := 54) cx_hA0 (cx_Gc cv_237_0 (cx_Gc cv_152_0 (cx_Gc cv_4_2 (cx_Gc cv_4_3 (cx_Gc cv_39_3 cx_Gn))))) (by decide +kernel)
set_option maxRecDepth 1000000 in
theorem cv_132_0 : cx_valid cx_B0 132 ck_132_0 := cx_chk_s (G := [(4, ck_4_2), (4, ck_4_3), (147, ck_147_0), (148, ck_148_0)]) (An := []) (n := 29) cx_hA0 (cx_Gc cv_4_2 (cx_Gc cv_4_3 (cx_Gc cv_147_0 (cx_Gc cv_148_0 cx_Gn)))) (by decide +kernel)
set_option maxRecDepth 1000000 in
theorem cv_131_0 : cx_valid cx_B0 131 ck_131_0 := cx_chk_s (G := [(132, ck_132_0), (39, ck_39_2)]) (An := []) (n := 45) cx_hA0 (cx_Gc cv_132_0 (cx_Gc cv_39_2 cx_Gn)) (by decide +kernel)
set_option maxRecDepth 1000000 in
theorem cv_135_0 : cx_valid cx_B0 135 ck_135_0 := cx_chk_s (G := [(138, ck_138_0), (87, ck_87_0), (39, ck_39_2), (39, ck_39_3), (124, ck_124_0), (130, ck_130_0), (131, ck_131_0)]) (An := [(12, ([(2, 10), (0, 0), (0, 1), (0, 2), (0, 3)], [], [cx_i32, cx_i32, cx_i32, (0, 3)], [], [], []), [(0, 99988), (1, 3)]), (86, ([(2, 10), (0, 0), (0, 1), (0, 2), (0, 3), (1, 4), (4, 0), (0, 5)], [], [cx_i32, cx_i32, cx_i32, (0, 1), cx_i64, (0, 2147483647), (-1, 1)], [], [(1, 1, 6)], []), [(0, 99914), (1, 5)])]) (n := 33) cx_hA0 (cx_Gc cv_138_0 (cx_Gc cv_87_0 (cx_Gc cv_39_2 (cx_Gc cv_39_3 (cx_Gc cv_124_0 (cx_Gc cv_130_0 (cx_Gc cv_131_0 cx_Gn))))))) (by decide +kernel)
set_option maxRecDepth 1000000 in
theorem cv_133_0 : cx_valid cx_B0 133 ck_133_0 := cx_chk_s (G := [(4, ck_4_2)]) (An := []) (n := 8) cx_hA0 (cx_Gc cv_4_2 cx_Gn) (by decide +kernel)
set_option maxRecDepth 1000000 in
theorem cv_129_0 : cx_valid cx_B0 129 ck_129_0 := cx_chk_s (G := [(4, ck_4_2)]) (An := []) (n := 18) cx_hA0 (cx_Gc cv_4_2 cx_Gn) (by decide +kernel)
set_option maxRecDepth 1000000 in
theorem cv_36_0 : cx_valid cx_B0 36 ck_36_0 := cx_chk_s (G := [(237, ck_237_0)]) (An := []) (n := 10) cx_hA0 (cx_Gc cv_237_0 cx_Gn) (by decide +kernel)
set_option maxRecDepth 1000000 in
theorem cv_134_0 : cx_valid cx_B0 134 ck_134_0 := cx_chk_s (G := [(4, ck_4_2), (4, ck_4_3), (36, ck_36_0)]) (An := [(4, ([(2, 10), (1, 0), (4, 0), (0, 1)], [], [cx_i64, (0, 3)], [], [], []), [(0, 99996), (1, 1)])]) (n := 24) cx_hA0 (cx_Gc cv_4_2 (cx_Gc cv_4_3 (cx_Gc cv_36_0 cx_Gn))) (by decide +kernel)
set_option maxRecDepth 1000000 in
theorem cv_38_3 : cx_valid cx_B0 38 ck_38_3 := cx_chk_s (G := []) (An := []) (n := 14) cx_hA0 cx_Gn (by decide +kernel)
set_option maxRecDepth 1000000 in
theorem cv_38_4 : cx_valid cx_B0 38 ck_38_4 := cx_chk_s (G := []) (An := []) (n := 14) cx_hA0 cx_Gn (by decide +kernel)
set_option maxRecDepth 1000000 in
theorem cv_159_0 : cx_valid cx_B0 159 ck_159_0 := cx_chk_s (G := [(38, ck_38_3), (38, ck_38_4)]) (An := [(7, ([(2, 14), (0, 0)], [], [(0, 36), (0, 0)], [], [(14, 2, 1)], []), [(0, 99993), (1, 0)])]) (n := 19) cx_hA0 (cx_Gc cv_38_3 (cx_Gc cv_38_4 cx_Gn)) (by decide +kernel)
set_option maxRecDepth 1000000 in
theorem cv_113_0 : cx_valid cx_B0 113 ck_113_0 := cx_chk_s (G := [(4, ck_atJ)]) (An := []) (n := 22) cx_hA0 (cx_Gc cv_atJ cx_Gn) (by decide +kernel)
set_option maxRecDepth 1000000 in
theorem cv_109_0 : cx_valid cx_B0 109 ck_109_0 := cx_chk_s (G := [(113, ck_113_0), (237, ck_237_0), (152, ck_152_0)]) (An := []) (n := 15) cx_hA0 (cx_Gc cv_113_0 (cx_Gc cv_237_0 (cx_Gc cv_152_0 cx_Gn))) (by decide +kernel)
set_option maxRecDepth 1000000 in
theorem cv_236_0 : cx_valid cx_B0 236 ck_236_0 := cx_chk_s (G := []) (An := []) (n := 53) cx_hA0 cx_Gn (by decide +kernel)
set_option maxRecDepth 1000000 in
theorem cv_239_0 : cx_valid cx_B0 239 ck_239_0 := cx_chk_s (G := [(236, ck_236_0)]) (An := []) (n := 17) cx_hA0 (cx_Gc cv_236_0 cx_Gn) (by decide +kernel)
set_option maxRecDepth 1000000 in
theorem cv_3_3 : cx_valid cx_B0 3 ck_3_3 := cx_chk_s (G := []) (An := []) (n := 14) cx_hA0 cx_Gn (by decide +kernel)
set_option maxRecDepth 1000000 in
theorem cv_160_0 : cx_valid cx_B0 160 ck_160_0 := cx_chk_s (G := [(239, ck_239_0), (3, ck_3_3), (38, ck_38_3)]) (An := [(5, ([(2, 15), (1, 0), (4, 0), (1, 1), (4, 0), (0, 2)], [], [cx_i64, cx_i64, (0, 36)], [], [], []), [(0, 99995), (1, 2)])]) (n := 30) cx_hA0 (cx_Gc cv_239_0 (cx_Gc cv_3_3 (cx_Gc cv_38_3 cx_Gn))) (by decide +kernel)
set_option maxRecDepth 1000000 in
theorem cv_3_4 : cx_valid cx_B0 3 ck_3_4 := cx_chk_s (G := []) (An := []) (n := 14) cx_hA0 cx_Gn (by decide +kernel)
set_option maxRecDepth 1000000 in
theorem cv_160_1 : cx_valid cx_B0 160 ck_160_1 := cx_chk_s (G := [(239, ck_239_0), (3, ck_3_4), (38, ck_38_4)]) (An := [(5, ([(2, 16), (1, 0), (4, 0), (1, 1), (4, 0), (0, 2)], [], [cx_i64, cx_i64, (0, 36)], [], [], []), [(0, 99995), (1, 2)])]) (n := 30) cx_hA0 (cx_Gc cv_239_0 (cx_Gc cv_3_4 (cx_Gc cv_38_4 cx_Gn))) (by decide +kernel)
set_option maxRecDepth 1000000 in
theorem cv_156_0 : cx_valid cx_B0 156 ck_156_0 := cx_chk_s (G := [(160, ck_160_0), (160, ck_160_1)]) (An := []) (n := 18) cx_hA0 (cx_Gc cv_160_0 (cx_Gc cv_160_1 cx_Gn)) (by decide +kernel)
set_option maxRecDepth 1000000 in
theorem cv_105_0 : cx_valid cx_B0 105 ck_105_0 := cx_chk_s (G := [(159, ck_159_0), (109, ck_109_0), (4, ck_atJ), (156, ck_156_0)]) (An := [(17, ([(2, 13), (0, 0)], [], [(0, 10000), (0, 0)], [], [(13, 9, 1)], []), [(0, 99983), (1, 0)])]) (n := 26) cx_hA0 (cx_Gc cv_159_0 (cx_Gc cv_109_0 (cx_Gc cv_atJ (cx_Gc cv_156_0 cx_Gn)))) (by decide +kernel)
set_option maxRecDepth 1000000 in
theorem cv_110_0 : cx_valid cx_B0 110 ck_110_0 := cx_chk_s (G := [(109, ck_109_0)]) (An := [(4, ([(2, 13), (0, 0), (0, 1), (0, 2)], [], [cx_i32, cx_i32, (0, 10000)], [], [], []), [(0, 99996), (1, 2)])]) (n := 19) cx_hA0 (cx_Gc cv_109_0 cx_Gn) (by decide +kernel)
set_option maxRecDepth 1000000 in
theorem cv_163_0 : cx_valid cx_B0 163 ck_163_0 := cx_chk_s (G := [(3, ck_3_3)]) (An := []) (n := 8) cx_hA0 (cx_Gc cv_3_3 cx_Gn) (by decide +kernel)
set_option maxRecDepth 1000000 in
theorem cv_158_0 : cx_valid cx_B0 158 ck_158_0 := cx_chk_s (G := [(3, ck_3_3)]) (An := [(5, ([(2, 14), (0, 0), (0, 1), (1, 2), (4, 0), (0, 3)], [], [cx_i32, cx_i32, cx_i64, (0, 2147483647)], [], [], []), [(0, 99995), (1, 3)])]) (n := 21) cx_hA0 (cx_Gc cv_3_3 cx_Gn) (by decide +kernel)
set_option maxRecDepth 1000000 in
theorem cv_162_0 : cx_valid cx_B0 162 ck_162_0 := cx_chk_s (G := [(3, ck_3_4), (3, ck_3_3)]) (An := []) (n := 19) cx_hA0 (cx_Gc cv_3_4 (cx_Gc cv_3_3 cx_Gn)) (by decide +kernel)
set_option maxRecDepth 1000000 in
theorem cv_161_0 : cx_valid cx_B0 161 ck_161_0 := cx_chk_s (G := [(162, ck_162_0)]) (An := []) (n := 18) cx_hA0 (cx_Gc cv_162_0 cx_Gn) (by decide +kernel)
set_option maxRecDepth 1000000 in
theorem cv_157_0 : cx_valid cx_B0 157 ck_157_0 := cx_chk_s (G := [(161, ck_161_0)]) (An := [(4, ([(2, 14), (0, 0), (0, 1), (0, 2)], [], [cx_i32, (0, 2147483646), (1, 2147483647)], [], [], []), [(0, 99996), (1, 2)])]) (n := 18) cx_hA0 (cx_Gc cv_161_0 cx_Gn) (by decide +kernel)
set_option maxRecDepth 1000000 in
theorem cv_111_0 : cx_valid cx_B0 111 ck_111_0 := cx_chk_s (G := [(4, ck_atJ)]) (An := []) (n := 8) cx_hA0 (cx_Gc cv_atJ cx_Gn) (by decide +kernel)
set_option maxRecDepth 1000000 in
theorem cv_3_5 : cx_valid cx_B0 3 ck_3_5 := cx_chk_s (G := []) (An := []) (n := 14) cx_hA0 cx_Gn (by decide +kernel)
set_option maxRecDepth 1000000 in
theorem cv_38_5 : cx_valid cx_B0 38 ck_38_5 := cx_chk_s (G := []) (An := []) (n := 14) cx_hA0 cx_Gn (by decide +kernel)
set_option maxRecDepth 1000000 in
theorem cv_116_0 : cx_valid cx_B0 116 ck_116_0 := cx_chk_s (G := [(239, ck_239_0), (3, ck_3_5), (38, ck_38_5)]) (An := [(5, ([(2, 20), (1, 0), (4, 0), (1, 1), (4, 0), (0, 2)], [], [cx_i64, cx_i64, (0, 36)], [], [], []), [(0, 99995), (1, 2), (0, 300000), (0, 0)]), (36, ([(2, 20), (1, 0), (4, 0), (1, 1), (4, 0), (0, 2), (0, 3), (1, 4), (4, 0), (0, 5)], [], [cx_i64, cx_i64, (0, 35), cx_i32, cx_i64, (0, 36)], [], [], []), [(0, 99995), (1, 2), (0, 99964), (1, 5)])]) (n := 36) cx_hA0 (cx_Gc cv_239_0 (cx_Gc cv_3_5 (cx_Gc cv_38_5 cx_Gn))) (by decide +kernel)
set_option maxRecDepth 1000000 in
theorem cv_115_0 : cx_valid cx_B0 115 ck_115_0 := cx_chk_s (G := [(109, ck_109_0), (111, ck_111_0), (116, ck_116_0)]) (An := [(2, ([(2, 20), (0, 0)], [], [(0, 9999)], [], [], []), [(0, 99998), (1, 0)]), (26, ([(2, 20), (0, 0)], [], [(0, 10000)], [], [], []), [(0, 99974), (1, 0)])]) (n := 22) cx_hA0 (cx_Gc cv_109_0 (cx_Gc cv_111_0 (cx_Gc cv_116_0 cx_Gn))) (by decide +kernel)
set_option maxRecDepth 1000000 in
theorem cv_118_0 : cx_valid cx_B0 118 ck_118_0 := cx_chk_s (G := [(3, ck_3_5), (163, ck_163_0)]) (An := []) (n := 35) cx_hA0 (cx_Gc cv_3_5 (cx_Gc cv_163_0 cx_Gn)) (by decide +kernel)
set_option maxRecDepth 1000000 in
theorem cv_119_0 : cx_valid cx_B0 119 ck_119_0 := cx_chk_s (G := [(115, ck_115_0), (118, ck_118_0)]) (An := [(24, ([(2, 20), (2, 14), (0, 0), (0, 1)], [], [(4, 36), (0, 36), cx_i32, cx_i32, (0, 0)], [], [(20, 6, 2), (14, 2, 3), (20, 3, 4)], []), [(0, 99976), (1, 1), (0, 300000), (0, 0)]), (34, ([(2, 20), (2, 14), (0, 0), (0, 1), (0, 2)], [], [(4, 36), (0, 35), (1, 36), cx_i32, cx_i32, (0, 0)], [], [(20, 6, 3), (14, 2, 4), (20, 3, 5)], []), [(0, 99976), (1, 1), (0, 99966), (1, 2)])]) (n := 28) cx_hA0 (cx_Gc cv_115_0 (cx_Gc cv_118_0 cx_Gn)) (by decide +kernel)
set_option maxRecDepth 1000000 in
theorem cv_38_6 : cx_valid cx_B0 38 ck_38_6 := cx_chk_s (G := []) (An := []) (n := 14) cx_hA0 cx_Gn (by decide +kernel)
set_option maxRecDepth 1000000 in
theorem cv_38_7 : cx_valid cx_B0 38 ck_38_7 := cx_chk_s (G := []) (An := []) (n := 14) cx_hA0 cx_Gn (by decide +kernel)
set_option maxRecDepth 1000000 in
theorem cv_39_5 : cx_valid cx_B0 39 ck_39_5 := cx_chk_s (G := []) (An := []) (n := 14) cx_hA0 cx_Gn (by decide +kernel)
set_option maxRecDepth 1000000 in
theorem cv_3_6 : cx_valid cx_B0 3 ck_3_6 := cx_chk_s (G := []) (An := []) (n := 14) cx_hA0 cx_Gn (by decide +kernel)
set_option maxRecDepth 1000000 in
theorem cv_4_5 : cx_valid cx_B0 4 ck_4_5 := cx_chk_s (G := []) (An := []) (n := 14) cx_hA0 cx_Gn (by decide +kernel)
set_option maxRecDepth 1000000 in
theorem cv_38_8 : cx_valid cx_B0 38 ck_38_8 := cx_chk_s (G := []) (An := []) (n := 14) cx_hA0 cx_Gn (by decide +kernel)
set_option maxRecDepth 1000000 in
theorem cv_38_9 : cx_valid cx_B0 38 ck_38_9 := cx_chk_s (G := []) (An := []) (n := 14) cx_hA0 cx_Gn (by decide +kernel)
set_option maxRecDepth 1000000 in
theorem cv_159_1 : cx_valid cx_B0 159 ck_159_1 := cx_chk_s (G := [(38, ck_38_8), (38, ck_38_9)]) (An := [(7, ([(2, 23), (0, 0)], [], [(0, 36), (0, 0)], [], [(23, 2, 1)], []), [(0, 99993), (1, 0)])]) (n := 19) cx_hA0 (cx_Gc cv_38_8 (cx_Gc cv_38_9 cx_Gn)) (by decide +kernel)
set_option maxRecDepth 1000000 in
theorem cv_3_7 : cx_valid cx_B0 3 ck_3_7 := cx_chk_s (G := []) (An := []) (n := 14) cx_hA0 cx_Gn (by decide +kernel)
set_option maxRecDepth 1000000 in
theorem cv_3_8 : cx_valid cx_B0 3 ck_3_8 := cx_chk_s (G := []) (An := []) (n := 14) cx_hA0 cx_Gn (by decide +kernel)
set_option maxRecDepth 1000000 in
theorem cv_162_1 : cx_valid cx_B0 162 ck_162_1 := cx_chk_s (G := [(3, ck_3_7), (3, ck_3_8)]) (An := []) (n := 19) cx_hA0 (cx_Gc cv_3_7 (cx_Gc cv_3_8 cx_Gn)) (by decide +kernel)
set_option maxRecDepth 1000000 in
theorem cv_161_1 : cx_valid cx_B0 161 ck_161_1 := cx_chk_s (G := [(162, ck_162_1)]) (An := []) (n := 18) cx_hA0 (cx_Gc cv_162_1 cx_Gn) (by decide +kernel)
set_option maxRecDepth 1000000 in
theorem cv_157_1 : cx_valid cx_B0 157 ck_157_1 := cx_chk_s (G := [(161, ck_161_1)]) (An := [(4, ([(2, 23), (0, 0), (0, 1), (0, 2)], [], [cx_i32, (0, 2147483646), (1, 2147483647)], [], [], []), [(0, 99996), (1, 2)])]) (n := 18) cx_hA0 (cx_Gc cv_161_1 cx_Gn) (by decide +kernel)
set_option maxRecDepth 1000000 in
theorem cv_137_0 : cx_valid cx_B0 137 ck_137_0 := cx_chk_s (G := [(3, ck_atI), (87, ck_87_0)]) (An := []) (n := 26) cx_hA0 (cx_Gc cv_atI (cx_Gc cv_87_0 cx_Gn)) (by decide +kernel)
set_option maxRecDepth 1000000 in
theorem cv_68_0 : cx_valid cx_B0 68 ck_68_0 := cx_chk_s (G := [(152, ck_152_0), (138, ck_138_0), (87, ck_87_0), (36, ck_36_0)]) (An := [(29, ([(2, 22), (0, 0), (1, 1), (4, 0), (0, 2), (1, 3), (4, 0), (0, 4)], [], [cx_i32, cx_i64, cx_i32, cx_i64, (0, 3)], [], [], []), [(0, 99971), (1, 4)])]) (n := 22) cx_hA0 (cx_Gc cv_152_0 (cx_Gc cv_138_0 (cx_Gc cv_87_0 (cx_Gc cv_36_0 cx_Gn)))) (by decide +kernel)
set_option maxRecDepth 1000000 in
theorem cv_160_2 : cx_valid cx_B0 160 ck_160_2 := cx_chk_s (G := [(239, ck_239_0), (3, ck_3_8), (38, ck_38_8)]) (An := [(5, ([(2, 24), (1, 0), (4, 0), (1, 1), (4, 0), (0, 2)], [], [cx_i64, cx_i64, (0, 36)], [], [], []), [(0, 99995), (1, 2)])]) (n := 30) cx_hA0 (cx_Gc cv_239_0 (cx_Gc cv_3_8 (cx_Gc cv_38_8 cx_Gn))) (by decide +kernel)
set_option maxRecDepth 1000000 in
theorem cv_160_3 : cx_valid cx_B0 160 ck_160_3 := cx_chk_s (G := [(239, ck_239_0), (3, ck_3_7), (38, ck_38_9)]) (An := [(5, ([(2, 25), (1, 0), (4, 0), (1, 1), (4, 0), (0, 2)], [], [cx_i64, cx_i64, (0, 36)], [], [], []), [(0, 99995), (1, 2)])]) (n := 30) cx_hA0 (cx_Gc cv_239_0 (cx_Gc cv_3_7 (cx_Gc cv_38_9 cx_Gn))) (by decide +kernel)
set_option maxRecDepth 1000000 in
theorem cv_156_1 : cx_valid cx_B0 156 ck_156_1 := cx_chk_s (G := [(160, ck_160_2), (160, ck_160_3)]) (An := []) (n := 18) cx_hA0 (cx_Gc cv_160_2 (cx_Gc cv_160_3 cx_Gn)) (by decide +kernel)
set_option maxRecDepth 1000000 in
theorem cv_61_0 : cx_valid cx_B0 61 ck_61_0 := cx_chk_s (G := [(159, ck_159_1), (157, ck_157_1), (161, ck_161_1), (3, ck_atI), (137, ck_137_0), (68, ck_68_0), (156, ck_156_1)]) (An := [(19, ([(2, 22), (0, 0), (0, 1), (1, 2), (4, 0), (0, 3)], [], [cx_i32, cx_i32, cx_i64, cx_i32], [], [], []), [(0, 99981), (1, 3)])]) (n := 25) cx_hA0 (cx_Gc cv_159_1 (cx_Gc cv_157_1 (cx_Gc cv_161_1 (cx_Gc cv_atI (cx_Gc cv_137_0 (cx_Gc cv_68_0 (cx_Gc cv_156_1 cx_Gn))))))) (by decide +kernel)
set_option maxRecDepth 1000000 in
theorem cv_58_0 : cx_valid cx_B0 58 ck_58_0 := cx_chk_s (G := [(137, ck_137_0), (68, ck_68_0)]) (An := []) (n := 28) cx_hA0 (cx_Gc cv_137_0 (cx_Gc cv_68_0 cx_Gn)) (by decide +kernel)
set_option maxRecDepth 1000000 in
theorem cv_49_0 : cx_valid cx_B0 49 ck_49_0 := cx_chk_s (G := [(3, ck_atI), (38, ck_puI)]) (An := []) (n := 18) cx_hA0 (cx_Gc cv_atI (cx_Gc cv_puI cx_Gn)) (by decide +kernel)
set_option maxRecDepth 1000000 in
theorem cv_63_0 : cx_valid cx_B0 63 ck_63_0 := cx_chk_s (G := [(3, ck_atI), (58, ck_58_0), (49, ck_49_0)]) (An := [(6, ([(2, 22), (0, 0), (0, 1), (0, 2), (1, 3), (4, 0), (0, 4), (0, 5), (0, 6)], [], [cx_i32, cx_i32, cx_i32, cx_i64, cx_i32, cx_i32, cx_i32], [], [], []), [(0, 99994), (1, 6)])]) (n := 25) cx_hA0 (cx_Gc cv_atI (cx_Gc cv_58_0 (cx_Gc cv_49_0 cx_Gn))) (by decide +kernel)
set_option maxRecDepth 1000000 in
theorem cv_59_0 : cx_valid cx_B0 59 ck_59_0 := cx_chk_s (G := [(38, ck_38_6)]) (An := []) (n := 12) cx_hA0 (cx_Gc cv_38_6 cx_Gn) (by decide +kernel)
set_option maxRecDepth 1000000 in
theorem cv_3_9 : cx_valid cx_B0 3 ck_3_9 := cx_chk_s (G := []) (An := []) (n := 14) cx_hA0 cx_Gn (by decide +kernel)
set_option maxRecDepth 1000000 in
theorem cv_69_0 : cx_valid cx_B0 69 ck_69_0 := cx_chk_s (G := [(3, ck_atI), (4, ck_4_5), (61, ck_61_0), (63, ck_63_0), (59, ck_59_0), (3, ck_3_9), (38, ck_38_7), (39, ck_39_5)]) (An := [(61, ([(2, 22), (0, 0), (0, 1), (1, 2), (4, 0), (0, 3), (0, 4), (0, 5), (0, 6)], [], [cx_i32, cx_i32, cx_i64, (0, 2147483646), cx_i32, cx_i32, cx_i32], [], [], []), [(0, 99939), (1, 6)])]) (n := 39) cx_hA0 (cx_Gc cv_atI (cx_Gc cv_4_5 (cx_Gc cv_61_0 (cx_Gc cv_63_0 (cx_Gc cv_59_0 (cx_Gc cv_3_9 (cx_Gc cv_38_7 (cx_Gc cv_39_5 cx_Gn)))))))) (by decide +kernel)
set_option maxRecDepth 1000000 in
theorem cv_65_0 : cx_valid cx_B0 65 ck_65_0 := cx_chk_s (G := [(3, ck_3_9)]) (An := []) (n := 8) cx_hA0 (cx_Gc cv_3_9 cx_Gn) (by decide +kernel)
set_option maxRecDepth 1000000 in
theorem cv_38_11 : cx_valid cx_B0 38 ck_38_11 := cx_chk_s (G := []) (An := []) (n := 14) cx_hA0 cx_Gn (by decide +kernel)
set_option maxRecDepth 1000000 in
theorem cv_3_10 : cx_valid cx_B0 3 ck_3_10 := cx_chk_s (G := []) (An := []) (n := 14) cx_hA0 cx_Gn (by decide +kernel)
set_option maxRecDepth 1000000 in
theorem cv_60_0 : cx_valid cx_B0 60 ck_60_0 := cx_chk_s (G := [(3, ck_3_10)]) (An := []) (n := 13) cx_hA0 (cx_Gc cv_3_10 cx_Gn) (by decide +kernel)
set_option maxRecDepth 1000000 in
theorem cv_64_0 : cx_valid cx_B0 64 ck_64_0 := cx_chk_s (G := [(3, ck_3_9)]) (An := [(4, ([(2, 22), (0, 0), (0, 1)], [], [(0, 9999), (1, 10000)], [], [], []), [(0, 99996), (1, 1)])]) (n := 22) cx_hA0 (cx_Gc cv_3_9 cx_Gn) (by decide +kernel)
set_option maxRecDepth 1000000 in
theorem cv_57_0 : cx_valid cx_B0 57 ck_57_0 := cx_chk_s (G := [(3, ck_3_9)]) (An := [(4, ([(2, 22), (0, 0), (0, 1)], [], [cx_i32, (0, 10000)], [], [], []), [(0, 99996), (1, 1)])]) (n := 18) cx_hA0 (cx_Gc cv_3_9 cx_Gn) (by decide +kernel)
set_option maxRecDepth 1000000 in
theorem cv_97_0 : cx_valid cx_B0 97 ck_97_0 := cx_chk_s (G := [(239, ck_239_0)]) (An := []) (n := 8) cx_hA0 (cx_Gc cv_239_0 cx_Gn) (by decide +kernel)
set_option maxRecDepth 1000000 in
theorem cv_98_0 : cx_valid cx_B0 98 ck_98_0 := cx_chk_s (G := [(97, ck_97_0), (113, ck_113_0)]) (An := [(43, ([(2, 31), (0, 0), (0, 1), (0, 2)], [], [(1, 10000), (-1, 2147483647), (0, 10000), (1, 10000)], [], [(6, 3, 3)], []), [(0, 99957), (1, 2)])]) (n := 23) cx_hA0 (cx_Gc cv_97_0 (cx_Gc cv_113_0 cx_Gn)) (by decide +kernel)
set_option maxRecDepth 1000000 in
theorem cv_100_0 : cx_valid cx_B0 100 ck_100_0 := cx_chk_s (G := [(113, ck_113_0), (237, ck_237_0)]) (An := [(16, ([(2, 31), (0, 0), (0, 1), (0, 2), (0, 3)], [], [(0, 10000), (-1, 9999), (0, 31), (0, 10000), (0, 10000)], [], [(6, 3, 4)], []), [(0, 99984), (1, 3)])]) (n := 22) cx_hA0 (cx_Gc cv_113_0 (cx_Gc cv_237_0 cx_Gn)) (by decide +kernel)
set_option maxRecDepth 1000000 in
theorem cv_103_0 : cx_valid cx_B0 103 ck_103_0 := cx_chk_s (G := [(113, ck_113_0)]) (An := [(15, ([(2, 31), (0, 0), (1, 1), (4, 0), (0, 2), (0, 3)], [], [cx_i32, cx_i64, cx_i32, (0, 30)], [], [], []), [(0, 99985), (1, 3)])]) (n := 25) cx_hA0 (cx_Gc cv_113_0 cx_Gn) (by decide +kernel)
set_option maxRecDepth 1000000 in
theorem cv_102_0 : cx_valid cx_B0 102 ck_102_0 := cx_chk_s (G := [(100, ck_100_0), (113, ck_113_0)]) (An := []) (n := 19) cx_hA0 (cx_Gc cv_100_0 (cx_Gc cv_113_0 cx_Gn)) (by decide +kernel)
set_option maxRecDepth 1000000 in
theorem cv_235_0 : cx_valid cx_B0 235 ck_235_0 := cx_chk_s (G := []) (An := []) (n := 45) cx_hA0 cx_Gn (by decide +kernel)
set_option maxRecDepth 1000000 in
theorem cv_238_0 : cx_valid cx_B0 238 ck_238_0 := cx_chk_s (G := [(235, ck_235_0)]) (An := []) (n := 17) cx_hA0 (cx_Gc cv_235_0 cx_Gn) (by decide +kernel)
set_option maxRecDepth 1000000 in
theorem cv_99_0 : cx_valid cx_B0 99 ck_99_0 := cx_chk_s (G := [(238, ck_238_0)]) (An := []) (n := 10) cx_hA0 (cx_Gc cv_238_0 cx_Gn) (by decide +kernel)
set_option maxRecDepth 1000000 in
theorem cv_96_0 : cx_valid cx_B0 96 ck_96_0 := cx_chk_s (G := [(138, ck_138_0), (113, ck_113_0), (97, ck_97_0)]) (An := [(25, ([(2, 31), (0, 0), (0, 1), (0, 2), (0, 3), (0, 4), (0, 5), (0, 6)], [], [cx_i32, cx_i32, cx_i32, cx_i32, cx_i32, cx_i32, (0, 2147483647)], [], [], []), [(0, 99975), (1, 6)])]) (n := 36) cx_hA0 (cx_Gc cv_138_0 (cx_Gc cv_113_0 (cx_Gc cv_97_0 cx_Gn))) (by decide +kernel)
set_option maxRecDepth 1000000 in
theorem cv_101_0 : cx_valid cx_B0 101 ck_101_0 := cx_chk_s (G := [(113, ck_113_0), (99, ck_99_0), (96, ck_96_0)]) (An := [(20, ([(2, 31), (0, 0), (0, 1)], [], [(0, 10000), (0, 3), (-1, 2), cx_i32, (0, 10000)], [], [(31, 5, 2), (31, 4, 3), (6, 3, 4)], []), [(0, 99980), (1, 1), (0, 300000), (0, 0)]), (33, ([(2, 31), (0, 0), (0, 1), (0, 2)], [], [(0, 10000), (0, 2), (0, 10000), (1, 3), (-1, 2), cx_i32, (0, 10000)], [], [(3, 3, 3), (31, 5, 4), (31, 4, 5), (6, 3, 6)], []), [(0, 99980), (1, 1), (0, 99967), (1, 2)])]) (n := 43) cx_hA0 (cx_Gc cv_113_0 (cx_Gc cv_99_0 (cx_Gc cv_96_0 cx_Gn))) (by decide +kernel)
set_option maxRecDepth 1000000 in
theorem cv_151_0 : cx_valid cx_B0 151 ck_151_0 := cx_chk_s (G := []) (An := []) (n := 9) cx_hA0 cx_Gn (by decide +kernel)
set_option maxRecDepth 1000000 in
theorem cv_24_0 : cx_valid cx_B0 24 ck_24_0 := cx_chk_s (G := [(151, ck_151_0), (55, ck_55_0)]) (An := []) (n := 12) cx_hA0 (cx_Gc cv_151_0 (cx_Gc cv_55_0 cx_Gn)) (by decide +kernel)
set_option maxRecDepth 1000000 in
theorem cv_3_11 : cx_valid cx_B0 3 ck_3_11 := cx_chk_s (G := []) (An := []) (n := 14) cx_hA0 cx_Gn (by decide +kernel)
set_option maxRecDepth 1000000 in
theorem cv_81_0 : cx_valid cx_B0 81 ck_81_0 := cx_chk_s (G := [(3, ck_3_11), (38, ck_38_0)]) (An := []) (n := 15) cx_hA0 (cx_Gc cv_3_11 (cx_Gc cv_38_0 cx_Gn)) (by decide +kernel)
set_option maxRecDepth 1000000 in
theorem cv_14_0 : cx_valid cx_B0 14 ck_14_0 := cx_chk_s (G := [(24, ck_24_0), (55, ck_55_0), (81, ck_81_0)]) (An := []) (n := 23) cx_hA0 (cx_Gc cv_24_0 (cx_Gc cv_55_0 (cx_Gc cv_81_0 cx_Gn))) (by decide +kernel)
set_option maxRecDepth 1000000 in
theorem cv_150_0 : cx_valid cx_B0 150 ck_150_0 := cx_chk_s (G := []) (An := []) (n := 19) cx_hA0 cx_Gn (by decide +kernel)
set_option maxRecDepth 1000000 in
theorem cv_73_0 : cx_valid cx_B0 73 ck_73_0 := cx_chk_s (G := [(150, ck_150_0), (237, ck_237_0)]) (An := []) (n := 11) cx_hA0 (cx_Gc cv_150_0 (cx_Gc cv_237_0 cx_Gn)) (by decide +kernel)
set_option maxRecDepth 1000000 in
theorem cv_75_0 : cx_valid cx_B0 75 ck_75_0 := cx_chk_s (G := [(151, ck_151_0), (3, ck_3_11), (73, ck_73_0)]) (An := [(11, ([(2, 32), (1, 0), (4, 0), (0, 1), (0, 2)], [], [cx_i64, (4, 12), (0, 29)], [], [], []), [(0, 99989), (1, 2)])]) (n := 23) cx_hA0 (cx_Gc cv_151_0 (cx_Gc cv_3_11 (cx_Gc cv_73_0 cx_Gn))) (by decide +kernel)
set_option maxRecDepth 1000000 in
theorem cv_76_0 : cx_valid cx_B0 76 ck_76_0 := cx_chk_s (G := [(137, ck_137_0), (75, ck_75_0)]) (An := [(12, ([(2, 32), (0, 0), (0, 1), (0, 2)], [], [(0, 10000), cx_i32, (0, 10000), (0, 10000)], [], [(6, 3, 3)], []), [(0, 99988), (1, 2)])]) (n := 17) cx_hA0 (cx_Gc cv_137_0 (cx_Gc cv_75_0 cx_Gn)) (by decide +kernel)
set_option maxRecDepth 1000000 in
theorem cv_83_0 : cx_valid cx_B0 83 ck_83_0 := cx_chk_s (G := [(151, ck_151_0), (73, ck_73_0)]) (An := [(15, ([(2, 32), (1, 0), (4, 0), (1, 1), (4, 0), (0, 2), (0, 3), (0, 4)], [], [cx_i64, cx_i64, (4, 12), cx_i32, (0, 29)], [], [], []), [(0, 99985), (1, 4)])]) (n := 24) cx_hA0 (cx_Gc cv_151_0 (cx_Gc cv_73_0 cx_Gn)) (by decide +kernel)
set_option maxRecDepth 1000000 in
theorem cv_4_6 : cx_valid cx_B0 4 ck_4_6 := cx_chk_s (G := []) (An := []) (n := 14) cx_hA0 cx_Gn (by decide +kernel)
set_option maxRecDepth 1000000 in
theorem cv_39_6 : cx_valid cx_B0 39 ck_39_6 := cx_chk_s (G := []) (An := []) (n := 14) cx_hA0 cx_Gn (by decide +kernel)
set_option maxRecDepth 1000000 in
theorem cv_77_0 : cx_valid cx_B0 77 ck_77_0 := cx_chk_s (G := [(4, ck_4_6), (39, ck_39_6)]) (An := []) (n := 22) cx_hA0 (cx_Gc cv_4_6 (cx_Gc cv_39_6 cx_Gn)) (by decide +kernel)
set_option maxRecDepth 1000000 in
theorem cv_79_0 : cx_valid cx_B0 79 ck_79_0 := cx_chk_s (G := [(137, ck_137_0), (83, ck_83_0), (77, ck_77_0)]) (An := [(2, ([(2, 32), (0, 0), (0, 1)], [], [cx_i32, (0, 287)], [], [], []), [(0, 99998), (1, 1)]), (45, ([(2, 32), (0, 0), (1, 1), (4, 0), (0, 2), (0, 3)], [], [cx_i32, cx_i64, (0, 10000), (0, 10000), (0, 10000)], [], [(6, 3, 4)], []), [(0, 99955), (1, 3)])]) (n := 24) cx_hA0 (cx_Gc cv_137_0 (cx_Gc cv_83_0 (cx_Gc cv_77_0 cx_Gn))) (by decide +kernel)
set_option maxRecDepth 1000000 in
theorem cv_78_0 : cx_valid cx_B0 78 ck_78_0 := cx_chk_s (G := [(4, ck_4_6)]) (An := []) (n := 21) cx_hA0 (cx_Gc cv_4_6 cx_Gn) (by decide +kernel)
set_option maxRecDepth 1000000 in
theorem cv_80_0 : cx_valid cx_B0 80 ck_80_0 := cx_chk_s (G := [(78, ck_78_0), (77, ck_77_0)]) (An := [(2, ([(2, 32), (0, 0), (0, 1)], [], [cx_i32, (0, 30)], [], [], []), [(0, 99998), (1, 1), (0, 300000), (0, 0)]), (15, ([(2, 32), (0, 0), (0, 1), (0, 2), (0, 3)], [], [cx_i32, (0, 29), cx_i32, (0, 2147483647)], [], [], []), [(0, 99998), (1, 1), (0, 99985), (1, 3)])]) (n := 22) cx_hA0 (cx_Gc cv_78_0 (cx_Gc cv_77_0 cx_Gn)) (by decide +kernel)
set_option maxRecDepth 1000000 in
theorem cv_74_0 : cx_valid cx_B0 74 ck_74_0 := cx_chk_s (G := [(151, ck_151_0), (79, ck_79_0), (80, ck_80_0), (78, ck_78_0), (234, ck_234_0)]) (An := [(25, ([(2, 32), (0, 0), (0, 1), (0, 2), (0, 3)], [], [cx_i32, cx_i32, (-1, 2147483646), (0, 2147483647)], [], [], []), [(0, 99975), (1, 3)])]) (n := 32) cx_hA0 (cx_Gc cv_151_0 (cx_Gc cv_79_0 (cx_Gc cv_80_0 (cx_Gc cv_78_0 (cx_Gc cv_234_0 cx_Gn))))) (by decide +kernel)
set_option maxRecDepth 1000000 in
theorem cv_82_0 : cx_valid cx_B0 82 ck_82_0 := cx_chk_s (G := [(3, ck_3_11)]) (An := [(4, ([(2, 32), (0, 0), (0, 1)], [], [cx_i32, (0, 29)], [], [], []), [(0, 99996), (1, 1)])]) (n := 16) cx_hA0 (cx_Gc cv_3_11 cx_Gn) (by decide +kernel)
set_option maxRecDepth 1000000 in
theorem cv_33_0 : cx_valid cx_B0 33 ck_33_0 := cx_chk_s (G := [(237, ck_237_0), (82, ck_82_0)]) (An := []) (n := 10) cx_hA0 (cx_Gc cv_237_0 (cx_Gc cv_82_0 cx_Gn)) (by decide +kernel)
set_option maxRecDepth 1000000 in
theorem cv_195_0 : cx_valid cx_B0 195 ck_195_0 := cx_chk_s (G := [(198, ck_198_0), (179, ck_179_0)]) (An := [(69, ([(2, 35), (0, 0), (0, 1), (0, 2), (0, 3)], [], [cx_i32, cx_i32, (0, 1), (0, 29), (0, 0), (0, 0), (0, 0), (0, 0)], [], [(35, 10, 4), (35, 9, 5), (35, 16, 6), (35, 3, 7), (35, 2, 2), (35, 1, 1), (35, 0, 0)], []), [(0, 99931), (1, 3)])]) (n := 39) cx_hA0 (cx_Gc cv_198_0 (cx_Gc cv_179_0 cx_Gn)) (by decide +kernel)
set_option maxRecDepth 1000000 in
theorem cv_171_0 : cx_valid cx_B0 171 ck_171_0 := cx_chk_s (G := [(197, ck_197_0)]) (An := [(4, ([(1, 0), (4, 0), (0, 1), (0, 2)], [], [cx_i64, cx_i32, (0, 36)], [], [], []), [(0, 99996), (1, 2)])]) (n := 18) cx_hA0 (cx_Gc cv_197_0 cx_Gn) (by decide +kernel)
set_option maxRecDepth 1000000 in
theorem cv_220_0 : cx_valid cx_B0 220 ck_220_0 := cx_chk_s (G := [(198, ck_198_0), (171, ck_171_0)]) (An := []) (n := 50) cx_hA0 (cx_Gc cv_198_0 (cx_Gc cv_171_0 cx_Gn)) (by decide +kernel)
set_option maxRecDepth 1000000 in
theorem cv_219_0 : cx_valid cx_B0 219 ck_219_0 := cx_chk_s (G := [(198, ck_198_0)]) (An := []) (n := 25) cx_hA0 (cx_Gc cv_198_0 cx_Gn) (by decide +kernel)
set_option maxRecDepth 1000000 in
theorem cv_185_0 : cx_valid cx_B0 185 ck_185_0 := cx_chk_s (G := [(198, ck_198_0)]) (An := []) (n := 26) cx_hA0 (cx_Gc cv_198_0 cx_Gn) (by decide +kernel)
set_option maxRecDepth 1000000 in
theorem cv_204_0 : cx_valid cx_B0 204 ck_204_0 := cx_chk_s (G := [(198, ck_198_0)]) (An := []) (n := 13) cx_hA0 (cx_Gc cv_198_0 cx_Gn) (by decide +kernel)
set_option maxRecDepth 1000000 in
theorem cv_202_0 : cx_valid cx_B0 202 ck_202_0 := cx_chk_s (G := [(198, ck_198_0)]) (An := []) (n := 13) cx_hA0 (cx_Gc cv_198_0 cx_Gn) (by decide +kernel)
set_option maxRecDepth 1000000 in
theorem cv_200_0 : cx_valid cx_B0 200 ck_200_0 := cx_chk_s (G := [(179, ck_179_0), (198, ck_198_0)]) (An := []) (n := 13) cx_hA0 (cx_Gc cv_179_0 (cx_Gc cv_198_0 cx_Gn)) (by decide +kernel)
set_option maxRecDepth 1000000 in
theorem cv_175_0 : cx_valid cx_B0 175 ck_175_0 := cx_chk_s (G := [(200, ck_200_0)]) (An := []) (n := 40) cx_hA0 (cx_Gc cv_200_0 cx_Gn) (by decide +kernel)
set_option maxRecDepth 1000000 in
theorem cv_218_0 : cx_valid cx_B0 218 ck_218_0 := cx_chk_s (G := [(200, ck_200_0)]) (An := []) (n := 47) cx_hA0 (cx_Gc cv_200_0 cx_Gn) (by decide +kernel)
set_option maxRecDepth 1000000 in
theorem cv_199_0 : cx_valid cx_B0 199 ck_199_0 := cx_chk_s (G := [(198, ck_198_0)]) (An := []) (n := 13) cx_hA0 (cx_Gc cv_198_0 cx_Gn) (by decide +kernel)
set_option maxRecDepth 1000000 in
theorem cv_166_0 : cx_valid cx_B0 166 ck_166_0 := cx_chk_s (G := [(199, ck_199_0), (198, ck_198_0)]) (An := []) (n := 25) cx_hA0 (cx_Gc cv_199_0 (cx_Gc cv_198_0 cx_Gn)) (by decide +kernel)
set_option maxRecDepth 1000000 in
theorem cv_209_0 : cx_valid cx_B0 209 ck_209_0 := cx_chk_s (G := [(199, ck_199_0)]) (An := []) (n := 20) cx_hA0 (cx_Gc cv_199_0 cx_Gn) (by decide +kernel)
set_option maxRecDepth 1000000 in
theorem cv_168_0 : cx_valid cx_B0 168 ck_168_0 := cx_chk_s (G := []) (An := []) (n := 15) cx_hA0 cx_Gn (by decide +kernel)
set_option maxRecDepth 1000000 in
theorem cv_215_0 : cx_valid cx_B0 215 ck_215_0 := cx_chk_s (G := []) (An := [(2, ([(2, 35), (0, 0), (0, 1)], [], [(0, 9999), (0, 3)], [], [], []), [(0, 99998), (1, 1)])]) (n := 34) cx_hA0 cx_Gn (by decide +kernel)
set_option maxRecDepth 1000000 in
theorem cv_221_0 : cx_valid cx_B0 221 ck_221_0 := cx_chk_s (G := [(197, ck_197_0)]) (An := [(2, ([(2, 35), (0, 0), (0, 1)], [], [cx_i32, (0, 3)], [], [], []), [(0, 99998), (1, 1)])]) (n := 17) cx_hA0 (cx_Gc cv_197_0 cx_Gn) (by decide +kernel)
set_option maxRecDepth 1000000 in
theorem cv_176_0 : cx_valid cx_B0 176 ck_176_0 := cx_chk_s (G := [(221, ck_221_0), (197, ck_197_0)]) (An := []) (n := 51) cx_hA0 (cx_Gc cv_221_0 (cx_Gc cv_197_0 cx_Gn)) (by decide +kernel)
set_option maxRecDepth 1000000 in
theorem cv_187_0 : cx_valid cx_B0 187 ck_187_0 := cx_chk_s (G := [(179, ck_179_0)]) (An := [(15, ([(2, 35), (1, 0), (4, 0), (1, 1), (4, 0), (1, 2), (4, 0), (0, 3)], [], [cx_i64, cx_i64, cx_i64, (0, 29)], [], [], []), [(0, 99985), (1, 3)])]) (n := 68) cx_hA0 (cx_Gc cv_179_0 cx_Gn) (by decide +kernel)
set_option maxRecDepth 1000000 in
theorem cv_186_0 : cx_valid cx_B0 186 ck_186_0 := cx_chk_s (G := [(187, ck_187_0)]) (An := [(22, ([(2, 35), (1, 0), (4, 0), (0, 1), (0, 2)], [], [cx_i64, (0, 1), (0, 3), (-1, 1)], [], [(35, 9, 3)], []), [(0, 99978), (1, 2)]), (114, ([(2, 35), (1, 0), (4, 0), (0, 1), (0, 2)], [], [cx_i64, (0, 1), (0, 3), (0, 3), (-1, 1)], [], [(35, 3, 3), (35, 9, 4)], []), [(0, 99886), (1, 2)])]) (n := 49) cx_hA0 (cx_Gc cv_187_0 cx_Gn) (by decide +kernel)
set_option maxRecDepth 1000000 in
theorem cv_192_0 : cx_valid cx_B0 192 ck_192_0 := cx_chk_s (G := [(215, ck_215_0), (176, ck_176_0), (186, ck_186_0)]) (An := [(7, ([(2, 35), (0, 0), (0, 1), (0, 2)], [], [(0, 9999), (0, 30), (0, 30)], [], [], []), [(0, 99993), (1, 2)])]) (n := 45) cx_hA0 (cx_Gc cv_215_0 (cx_Gc cv_176_0 (cx_Gc cv_186_0 cx_Gn))) (by decide +kernel)
set_option maxRecDepth 1000000 in
theorem cv_233_0 : cx_valid cx_B0 233 ck_233_0 := cx_chk_s (G := []) (An := [(4, ([(2, 35), (0, 0), (0, 1)], [], [cx_i32, (0, 30)], [], [], []), [(0, 99996), (1, 1)])]) (n := 30) cx_hA0 cx_Gn (by decide +kernel)
set_option maxRecDepth 1000000 in
theorem cv_231_0 : cx_valid cx_B0 231 ck_231_0 := cx_chk_s (G := []) (An := [(2, ([(2, 35), (0, 0), (0, 1)], [], [(0, 9999), (0, 3)], [], [], []), [(0, 99998), (1, 1)])]) (n := 34) cx_hA0 cx_Gn (by decide +kernel)
set_option maxRecDepth 1000000 in
theorem cv_228_0 : cx_valid cx_B0 228 ck_228_0 := cx_chk_s (G := [(231, ck_231_0), (221, ck_221_0)]) (An := [(4, ([(2, 35), (0, 0), (0, 1), (0, 2)], [], [cx_i32, cx_i32, (0, 10000)], [], [], []), [(0, 99996), (1, 2)])]) (n := 23) cx_hA0 (cx_Gc cv_231_0 (cx_Gc cv_221_0 cx_Gn)) (by decide +kernel)
set_option maxRecDepth 1000000 in
theorem cv_193_0 : cx_valid cx_B0 193 ck_193_0 := cx_chk_s (G := [(231, ck_231_0), (176, ck_176_0)]) (An := [(23, ([(2, 35), (0, 0), (0, 1), (0, 2)], [], [cx_i32, cx_i32, (0, 10000)], [], [], []), [(0, 99977), (1, 2)])]) (n := 40) cx_hA0 (cx_Gc cv_231_0 (cx_Gc cv_176_0 cx_Gn)) (by decide +kernel)
set_option maxRecDepth 1000000 in
theorem cv_194_0 : cx_valid cx_B0 194 ck_194_0 := cx_chk_s (G := []) (An := [(23, ([(2, 35), (0, 0), (0, 1), (0, 2)], [], [cx_i32, cx_i32, (0, 10000)], [], [], []), [(0, 99977), (1, 2)])]) (n := 35) cx_hA0 cx_Gn (by decide +kernel)
set_option maxRecDepth 1000000 in
theorem cv_173_0 : cx_valid cx_B0 173 ck_173_0 := cx_chk_s (G := [(192, ck_192_0), (233, ck_233_0)]) (An := [(4, ([(2, 35), (0, 0), (0, 1)], [], [cx_i32, (0, 10000)], [], [], []), [(0, 99996), (1, 1)])]) (n := 27) cx_hA0 (cx_Gc cv_192_0 (cx_Gc cv_233_0 cx_Gn)) (by decide +kernel)
set_option maxRecDepth 1000000 in
theorem cv_184_0 : cx_valid cx_B0 184 ck_184_0 := cx_chk_s (G := []) (An := [(33, ([(2, 35), (0, 0), (0, 1), (0, 2), (0, 3), (0, 4)], [], [(0, 9999), (0, 9999), (0, 2), (0, 1), (0, 3)], [], [], []), [(0, 99967), (1, 4)])]) (n := 35) cx_hA0 cx_Gn (by decide +kernel)
set_option maxRecDepth 1000000 in
theorem cv_203_0 : cx_valid cx_B0 203 ck_203_0 := cx_chk_s (G := [(198, ck_198_0)]) (An := []) (n := 16) cx_hA0 (cx_Gc cv_198_0 cx_Gn) (by decide +kernel)
set_option maxRecDepth 1000000 in
theorem cv_182_0 : cx_valid cx_B0 182 ck_182_0 := cx_chk_s (G := [(203, ck_203_0), (198, ck_198_0)]) (An := []) (n := 29) cx_hA0 (cx_Gc cv_203_0 (cx_Gc cv_198_0 cx_Gn)) (by decide +kernel)
set_option maxRecDepth 1000000 in
theorem cv_180_0 : cx_valid cx_B0 180 ck_180_0 := cx_chk_s (G := []) (An := [(5, ([(2, 35), (0, 0), (1, 1), (4, 0), (0, 2)], [], [(0, 9999), cx_i64, (0, 3)], [], [], []), [(0, 99995), (1, 2)])]) (n := 28) cx_hA0 cx_Gn (by decide +kernel)
set_option maxRecDepth 1000000 in
theorem cv_183_0 : cx_valid cx_B0 183 ck_183_0 := cx_chk_s (G := [(179, ck_179_0), (197, ck_197_0)]) (An := [(6, ([(2, 35), (1, 0), (4, 0), (0, 1), (0, 2), (0, 3)], [], [cx_i64, cx_i32, cx_i32, (0, 36)], [], [], []), [(0, 99994), (1, 3)])]) (n := 37) cx_hA0 (cx_Gc cv_179_0 (cx_Gc cv_197_0 cx_Gn)) (by decide +kernel)
set_option maxRecDepth 1000000 in
theorem cv_210_0 : cx_valid cx_B0 210 ck_210_0 := cx_chk_s (G := [(179, ck_179_0)]) (An := [(53, ([(2, 35), (0, 0), (0, 1), (0, 2)], [], [cx_i32, cx_i32, (0, 30)], [], [], []), [(0, 99947), (1, 2)]), (89, ([(2, 35), (0, 0), (0, 1), (0, 2)], [], [cx_i32, cx_i32, (0, 29)], [], [], []), [(0, 99911), (1, 2)])]) (n := 24) cx_hA0 (cx_Gc cv_179_0 cx_Gn) (by decide +kernel)
