/-! The checks together. -/
def ez_pi (m : Nat) : Prop := ∀ (pc : Nat) (x : ez_I), ez_P0 m pc = some x → ez_okI lw_tbl ez_M0 ez_K0 ez_nM 13 m pc x = true
theorem ez_pi_0 : ∀ a, a < 0 → ez_pi a := lt_0
theorem ez_pi_10 : ∀ a, a < 10 → ez_pi a := lt_s (lt_s (lt_s (lt_s (lt_s (lt_s (lt_s (lt_s (lt_s (lt_s ez_pi_0 ez_i0) ez_i1) ez_i2) ez_i3) ez_i4) ez_i5) ez_i6) ez_i7) ez_i8) ez_i9
theorem ez_pi_20 : ∀ a, a < 20 → ez_pi a := lt_s (lt_s (lt_s (lt_s (lt_s (lt_s (lt_s (lt_s (lt_s (lt_s ez_pi_10 ez_i10) ez_i11) ez_i12) ez_i13) ez_i14) ez_i15) ez_i16) ez_i17) ez_i18) ez_i19
theorem ez_pi_30 : ∀ a, a < 30 → ez_pi a := lt_s (lt_s (lt_s (lt_s (lt_s (lt_s (lt_s (lt_s (lt_s (lt_s ez_pi_20 ez_i20) ez_i21) ez_i22) ez_i23) ez_i24) ez_i25) ez_i26) ez_i27) ez_i28) ez_i29
theorem ez_pi_40 : ∀ a, a < 40 → ez_pi a := lt_s (lt_s (lt_s (lt_s (lt_s (lt_s (lt_s (lt_s (lt_s (lt_s ez_pi_30 ez_i30) ez_i31) ez_i32) ez_i33) ez_i34) ez_i35) ez_i36) ez_i37) ez_i38) ez_i39
theorem ez_pi_50 : ∀ a, a < 50 → ez_pi a := lt_s (lt_s (lt_s (lt_s (lt_s (lt_s (lt_s (lt_s (lt_s (lt_s ez_pi_40 ez_i40) ez_i41) ez_i42) ez_i43) ez_i44) ez_i45) ez_i46) ez_i47) ez_i48) ez_i49
theorem ez_pi_60 : ∀ a, a < 60 → ez_pi a := lt_s (lt_s (lt_s (lt_s (lt_s (lt_s (lt_s (lt_s (lt_s (lt_s ez_pi_50 ez_i50) ez_i51) ez_i52) ez_i53) ez_i54) ez_i55) ez_i56) ez_i57) ez_i58) ez_i59
theorem ez_pi_70 : ∀ a, a < 70 → ez_pi a := lt_s (lt_s (lt_s (lt_s (lt_s (lt_s (lt_s (lt_s (lt_s (lt_s ez_pi_60 ez_i60) ez_i61) ez_i62) ez_i63) ez_i64) ez_i65) ez_i66) ez_i67) ez_i68) ez_i69
theorem ez_pi_80 : ∀ a, a < 80 → ez_pi a := lt_s (lt_s (lt_s (lt_s (lt_s (lt_s (lt_s (lt_s (lt_s (lt_s ez_pi_70 ez_i70) ez_i71) ez_i72) ez_i73) ez_i74) ez_i75) ez_i76) ez_i77) ez_i78) ez_i79
theorem ez_pi_90 : ∀ a, a < 90 → ez_pi a := lt_s (lt_s (lt_s (lt_s (lt_s (lt_s (lt_s (lt_s (lt_s (lt_s ez_pi_80 ez_i80) ez_i81) ez_i82) ez_i83) ez_i84) ez_i85) ez_i86) ez_i87) ez_i88) ez_i89
theorem ez_pi_100 : ∀ a, a < 100 → ez_pi a := lt_s (lt_s (lt_s (lt_s (lt_s (lt_s (lt_s (lt_s (lt_s (lt_s ez_pi_90 ez_i90) ez_i91) ez_i92) ez_i93) ez_i94) ez_i95) ez_i96) ez_i97) ez_i98) ez_i99
theorem ez_pi_110 : ∀ a, a < 110 → ez_pi a := lt_s (lt_s (lt_s (lt_s (lt_s (lt_s (lt_s (lt_s (lt_s (lt_s ez_pi_100 ez_i100) ez_i101) ez_i102) ez_i103) ez_i104) ez_i105) ez_i106) ez_i107) ez_i108) ez_i109
theorem ez_pi_120 : ∀ a, a < 120 → ez_pi a := lt_s (lt_s (lt_s (lt_s (lt_s (lt_s (lt_s (lt_s (lt_s (lt_s ez_pi_110 ez_i110) ez_i111) ez_i112) ez_i113) ez_i114) ez_i115) ez_i116) ez_i117) ez_i118) ez_i119
theorem ez_pi_130 : ∀ a, a < 130 → ez_pi a := lt_s (lt_s (lt_s (lt_s (lt_s (lt_s (lt_s (lt_s (lt_s (lt_s ez_pi_120 ez_i120) ez_i121) ez_i122) ez_i123) ez_i124) ez_i125) ez_i126) ez_i127) ez_i128) ez_i129
theorem ez_pi_140 : ∀ a, a < 140 → ez_pi a := lt_s (lt_s (lt_s (lt_s (lt_s (lt_s (lt_s (lt_s (lt_s (lt_s ez_pi_130 ez_i130) ez_i131) ez_i132) ez_i133) ez_i134) ez_i135) ez_i136) ez_i137) ez_i138) ez_i139
theorem ez_pi_150 : ∀ a, a < 150 → ez_pi a := lt_s (lt_s (lt_s (lt_s (lt_s (lt_s (lt_s (lt_s (lt_s (lt_s ez_pi_140 ez_i140) ez_i141) ez_i142) ez_i143) ez_i144) ez_i145) ez_i146) ez_i147) ez_i148) ez_i149
theorem ez_pi_160 : ∀ a, a < 160 → ez_pi a := lt_s (lt_s (lt_s (lt_s (lt_s (lt_s (lt_s (lt_s (lt_s (lt_s ez_pi_150 ez_i150) ez_i151) ez_i152) ez_i153) ez_i154) ez_i155) ez_i156) ez_i157) ez_i158) ez_i159
theorem ez_pi_170 : ∀ a, a < 170 → ez_pi a := lt_s (lt_s (lt_s (lt_s (lt_s (lt_s (lt_s (lt_s (lt_s (lt_s ez_pi_160 ez_i160) ez_i161) ez_i162) ez_i163) ez_i164) ez_i165) ez_i166) ez_i167) ez_i168) ez_i169
theorem ez_pi_180 : ∀ a, a < 180 → ez_pi a := lt_s (lt_s (lt_s (lt_s (lt_s (lt_s (lt_s (lt_s (lt_s (lt_s ez_pi_170 ez_i170) ez_i171) ez_i172) ez_i173) ez_i174) ez_i175) ez_i176) ez_i177) ez_i178) ez_i179
theorem ez_pi_190 : ∀ a, a < 190 → ez_pi a := lt_s (lt_s (lt_s (lt_s (lt_s (lt_s (lt_s (lt_s (lt_s (lt_s ez_pi_180 ez_i180) ez_i181) ez_i182) ez_i183) ez_i184) ez_i185) ez_i186) ez_i187) ez_i188) ez_i189
theorem ez_pi_200 : ∀ a, a < 200 → ez_pi a := lt_s (lt_s (lt_s (lt_s (lt_s (lt_s (lt_s (lt_s (lt_s (lt_s ez_pi_190 ez_i190) ez_i191) ez_i192) ez_i193) ez_i194) ez_i195) ez_i196) ez_i197) ez_i198) ez_i199
theorem ez_pi_210 : ∀ a, a < 210 → ez_pi a := lt_s (lt_s (lt_s (lt_s (lt_s (lt_s (lt_s (lt_s (lt_s (lt_s ez_pi_200 ez_i200) ez_i201) ez_i202) ez_i203) ez_i204) ez_i205) ez_i206) ez_i207) ez_i208) ez_i209
theorem ez_pi_220 : ∀ a, a < 220 → ez_pi a := lt_s (lt_s (lt_s (lt_s (lt_s (lt_s (lt_s (lt_s (lt_s (lt_s ez_pi_210 ez_i210) ez_i211) ez_i212) ez_i213) ez_i214) ez_i215) ez_i216) ez_i217) ez_i218) ez_i219
theorem ez_pi_230 : ∀ a, a < 230 → ez_pi a := lt_s (lt_s (lt_s (lt_s (lt_s (lt_s (lt_s (lt_s (lt_s (lt_s ez_pi_220 ez_i220) ez_i221) ez_i222) ez_i223) ez_i224) ez_i225) ez_i226) ez_i227) ez_i228) ez_i229
theorem ez_pi_240 : ∀ a, a < 240 → ez_pi a := lt_s (lt_s (lt_s (lt_s (lt_s (lt_s (lt_s (lt_s (lt_s (lt_s ez_pi_230 ez_i230) ez_i231) ez_i232) ez_i233) ez_i234) ez_i235) ez_i236) ez_i237) ez_i238) ez_i239
theorem ez_pi_241 : ∀ a, a < 241 → ez_pi a := lt_s ez_pi_240 ez_i240
theorem ez_hI : ∀ m, m ≤ ez_nM → ez_pi m := fun m hm => ez_pi_241 m (Nat.lt_succ_of_le hm)
theorem ez_h0 : ez_mok lw_tbl ez_M0 0 := ez_mok_of (w1 := 90) (w2 := 70) (w3 := 89) (w4 := 0) (by decide +kernel)
theorem ez_h1 : ez_mok lw_tbl ez_M0 1 := ez_mok_of (w1 := 696) (w2 := 70) (w3 := 694) (w4 := 695) (by decide +kernel)
theorem ez_h2 : ez_mok lw_tbl ez_M0 2 := ez_mok_of (w1 := 500) (w2 := 70) (w3 := 499) (w4 := 2) (by decide +kernel)
theorem ez_h3 : ez_mok lw_tbl ez_M0 3 := ez_mok_of (w1 := 554) (w2 := 70) (w3 := 553) (w4 := 0) (by decide +kernel)
theorem ez_h4 : ez_mok lw_tbl ez_M0 4 := ez_mok_of (w1 := 557) (w2 := 70) (w3 := 556) (w4 := 0) (by decide +kernel)
theorem ez_h5 : ez_mok lw_tbl ez_M0 5 := ez_mok_of (w1 := 723) (w2 := 70) (w3 := 721) (w4 := 722) (by decide +kernel)
theorem ez_h6 : ez_mok lw_tbl ez_M0 6 := ez_mok_of (w1 := 880) (w2 := 70) (w3 := 878) (w4 := 879) (by decide +kernel)
theorem ez_h7 : ez_mok lw_tbl ez_M0 7 := ez_mok_of (w1 := 895) (w2 := 70) (w3 := 893) (w4 := 894) (by decide +kernel)
theorem ez_h8 : ez_mok lw_tbl ez_M0 8 := ez_mok_of (w1 := 1031) (w2 := 70) (w3 := 1029) (w4 := 1030) (by decide +kernel)
theorem ez_h9 : ez_mok lw_tbl ez_M0 9 := ez_mok_of (w1 := 1041) (w2 := 70) (w3 := 1039) (w4 := 1040) (by decide +kernel)
theorem ez_h10 : ez_mok lw_tbl ez_M0 10 := ez_mok_of (w1 := 675) (w2 := 70) (w3 := 673) (w4 := 674) (by decide +kernel)
theorem ez_h11 : ez_mok lw_tbl ez_M0 11 := ez_mok_of (w1 := 993) (w2 := 70) (w3 := 991) (w4 := 992) (by decide +kernel)
theorem ez_h12 : ez_mok lw_tbl ez_M0 12 := ez_mok_of (w1 := 492) (w2 := 70) (w3 := 491) (w4 := 1) (by decide +kernel)
theorem ez_h13 : ez_mok lw_tbl ez_M0 13 := ez_mok_of (w1 := 1122) (w2 := 70) (w3 := 1120) (w4 := 1121) (by decide +kernel)
theorem ez_h14 : ez_mok lw_tbl ez_M0 14 := ez_mok_of (w1 := 1076) (w2 := 70) (w3 := 1074) (w4 := 1075) (by decide +kernel)
theorem ez_h15 : ez_mok lw_tbl ez_M0 15 := ez_mok_of (w1 := 929) (w2 := 70) (w3 := 928) (w4 := 22) (by decide +kernel)
theorem ez_h16 : ez_mok lw_tbl ez_M0 16 := ez_mok_of (w1 := 579) (w2 := 70) (w3 := 577) (w4 := 578) (by decide +kernel)
theorem ez_h17 : ez_mok lw_tbl ez_M0 17 := ez_mok_of (w1 := 1107) (w2 := 70) (w3 := 1105) (w4 := 1106) (by decide +kernel)
theorem ez_h18 : ez_mok lw_tbl ez_M0 18 := ez_mok_of (w1 := 463) (w2 := 70) (w3 := 461) (w4 := 462) (by decide +kernel)
theorem ez_h19 : ez_mok lw_tbl ez_M0 19 := ez_mok_of (w1 := 626) (w2 := 70) (w3 := 625) (w4 := 0) (by decide +kernel)
theorem ez_h20 : ez_mok lw_tbl ez_M0 20 := ez_mok_of (w1 := 1005) (w2 := 70) (w3 := 1003) (w4 := 1004) (by decide +kernel)
theorem ez_h21 : ez_mok lw_tbl ez_M0 21 := ez_mok_of (w1 := 700) (w2 := 70) (w3 := 699) (w4 := 13) (by decide +kernel)
theorem ez_h22 : ez_mok lw_tbl ez_M0 22 := ez_mok_of (w1 := 679) (w2 := 70) (w3 := 678) (w4 := 11) (by decide +kernel)
theorem ez_h23 : ez_mok lw_tbl ez_M0 23 := ez_mok_of (w1 := 663) (w2 := 70) (w3 := 662) (w4 := 10) (by decide +kernel)
theorem ez_h24 : ez_mok lw_tbl ez_M0 24 := ez_mok_of (w1 := 1080) (w2 := 70) (w3 := 1079) (w4 := 31) (by decide +kernel)
theorem ez_h25 : ez_mok lw_tbl ez_M0 25 := ez_mok_of (w1 := 591) (w2 := 70) (w3 := 590) (w4 := 6) (by decide +kernel)
theorem ez_h26 : ez_mok lw_tbl ez_M0 26 := ez_mok_of (w1 := 659) (w2 := 70) (w3 := 657) (w4 := 658) (by decide +kernel)
theorem ez_h27 : ez_mok lw_tbl ez_M0 27 := ez_mok_of (w1 := 609) (w2 := 70) (w3 := 607) (w4 := 608) (by decide +kernel)
theorem ez_h28 : ez_mok lw_tbl ez_M0 28 := ez_mok_of (w1 := 480) (w2 := 70) (w3 := 479) (w4 := 0) (by decide +kernel)
theorem ez_h29 : ez_mok lw_tbl ez_M0 29 := ez_mok_of (w1 := 781) (w2 := 70) (w3 := 779) (w4 := 780) (by decide +kernel)
theorem ez_h30 : ez_mok lw_tbl ez_M0 30 := ez_mok_of (w1 := 785) (w2 := 70) (w3 := 784) (w4 := 17) (by decide +kernel)
theorem ez_h31 : ez_mok lw_tbl ez_M0 31 := ez_mok_of (w1 := 772) (w2 := 70) (w3 := 770) (w4 := 771) (by decide +kernel)
theorem ez_h32 : ez_mok lw_tbl ez_M0 32 := ez_mok_of (w1 := 718) (w2 := 70) (w3 := 716) (w4 := 717) (by decide +kernel)
theorem ez_h33 : ez_mok lw_tbl ez_M0 33 := ez_mok_of (w1 := 1153) (w2 := 70) (w3 := 1151) (w4 := 1152) (by decide +kernel)
theorem ez_h34 : ez_mok lw_tbl ez_M0 34 := ez_mok_of (w1 := 925) (w2 := 70) (w3 := 923) (w4 := 924) (by decide +kernel)
theorem ez_h35 : ez_mok lw_tbl ez_M0 35 := ez_mok_of (w1 := 683) (w2 := 70) (w3 := 682) (w4 := 12) (by decide +kernel)
theorem ez_h36 : ez_mok lw_tbl ez_M0 36 := ez_mok_of (w1 := 809) (w2 := 70) (w3 := 808) (w4 := 0) (by decide +kernel)
theorem ez_h37 : ez_mok lw_tbl ez_M0 37 := ez_mok_of (w1 := 872) (w2 := 70) (w3 := 870) (w4 := 871) (by decide +kernel)
theorem ez_h38 : ez_mok lw_tbl ez_M0 38 := ez_mok_of (w1 := 102) (w2 := 70) (w3 := 101) (w4 := 0) (by decide +kernel)
theorem ez_h39 : ez_mok lw_tbl ez_M0 39 := ez_mok_of (w1 := 560) (w2 := 70) (w3 := 559) (w4 := 0) (by decide +kernel)
theorem ez_h40 : ez_mok lw_tbl ez_M0 40 := ez_mok_of (w1 := 1093) (w2 := 70) (w3 := 1091) (w4 := 1092) (by decide +kernel)
theorem ez_h41 : ez_mok lw_tbl ez_M0 41 := ez_mok_of (w1 := 692) (w2 := 70) (w3 := 690) (w4 := 691) (by decide +kernel)
theorem ez_h42 : ez_mok lw_tbl ez_M0 42 := ez_mok_of (w1 := 570) (w2 := 70) (w3 := 568) (w4 := 569) (by decide +kernel)
theorem ez_h43 : ez_mok lw_tbl ez_M0 43 := ez_mok_of (w1 := 512) (w2 := 70) (w3 := 510) (w4 := 511) (by decide +kernel)
theorem ez_h44 : ez_mok lw_tbl ez_M0 44 := ez_mok_of (w1 := 599) (w2 := 70) (w3 := 597) (w4 := 598) (by decide +kernel)
theorem ez_h45 : ez_mok lw_tbl ez_M0 45 := ez_mok_of (w1 := 671) (w2 := 70) (w3 := 670) (w4 := 0) (by decide +kernel)
theorem ez_h46 : ez_mok lw_tbl ez_M0 46 := ez_mok_of (w1 := 587) (w2 := 70) (w3 := 585) (w4 := 586) (by decide +kernel)
theorem ez_h47 : ez_mok lw_tbl ez_M0 47 := ez_mok_of (w1 := 1017) (w2 := 70) (w3 := 1015) (w4 := 1016) (by decide +kernel)
theorem ez_h48 : ez_mok lw_tbl ez_M0 48 := ez_mok_of (w1 := 864) (w2 := 70) (w3 := 862) (w4 := 863) (by decide +kernel)
theorem ez_h49 : ez_mok lw_tbl ez_M0 49 := ez_mok_of (w1 := 979) (w2 := 70) (w3 := 978) (w4 := 0) (by decide +kernel)
theorem ez_h50 : ez_mok lw_tbl ez_M0 50 := ez_mok_of (w1 := 1049) (w2 := 70) (w3 := 1047) (w4 := 1048) (by decide +kernel)
theorem ez_h51 : ez_mok lw_tbl ez_M0 51 := ez_mok_of (w1 := 856) (w2 := 70) (w3 := 854) (w4 := 855) (by decide +kernel)
theorem ez_h52 : ez_mok lw_tbl ez_M0 52 := ez_mok_of (w1 := 613) (w2 := 70) (w3 := 612) (w4 := 7) (by decide +kernel)
theorem ez_h53 : ez_mok lw_tbl ez_M0 53 := ez_mok_of (w1 := 731) (w2 := 70) (w3 := 729) (w4 := 730) (by decide +kernel)
theorem ez_h54 : ez_mok lw_tbl ez_M0 54 := ez_mok_of (w1 := 848) (w2 := 70) (w3 := 846) (w4 := 847) (by decide +kernel)
theorem ez_h55 : ez_mok lw_tbl ez_M0 55 := ez_mok_of (w1 := 466) (w2 := 70) (w3 := 465) (w4 := 0) (by decide +kernel)
theorem ez_h56 : ez_mok lw_tbl ez_M0 56 := ez_mok_of (w1 := 337) (w2 := 79) (w3 := 336) (w4 := 0) (by decide +kernel)
theorem ez_h57 : ez_mok lw_tbl ez_M0 57 := ez_mok_of (w1 := 1009) (w2 := 79) (w3 := 1007) (w4 := 1008) (by decide +kernel)
theorem ez_h58 : ez_mok lw_tbl ez_M0 58 := ez_mok_of (w1 := 976) (w2 := 79) (w3 := 975) (w4 := 28) (by decide +kernel)
theorem ez_h59 : ez_mok lw_tbl ez_M0 59 := ez_mok_of (w1 := 985) (w2 := 79) (w3 := 984) (w4 := 29) (by decide +kernel)
theorem ez_h60 : ez_mok lw_tbl ez_M0 60 := ez_mok_of (w1 := 1001) (w2 := 79) (w3 := 999) (w4 := 1000) (by decide +kernel)
theorem ez_h61 : ez_mok lw_tbl ez_M0 61 := ez_mok_of (w1 := 950) (w2 := 79) (w3 := 949) (w4 := 25) (by decide +kernel)
theorem ez_h62 : ez_mok lw_tbl ez_M0 62 := ez_mok_of (w1 := 488) (w2 := 79) (w3 := 486) (w4 := 487) (by decide +kernel)
theorem ez_h63 : ez_mok lw_tbl ez_M0 63 := ez_mok_of (w1 := 972) (w2 := 79) (w3 := 971) (w4 := 27) (by decide +kernel)
theorem ez_h64 : ez_mok lw_tbl ez_M0 64 := ez_mok_of (w1 := 1013) (w2 := 79) (w3 := 1011) (w4 := 1012) (by decide +kernel)
theorem ez_h65 : ez_mok lw_tbl ez_M0 65 := ez_mok_of (w1 := 989) (w2 := 79) (w3 := 987) (w4 := 988) (by decide +kernel)
theorem ez_h66 : ez_mok lw_tbl ez_M0 66 := ez_mok_of (w1 := 937) (w2 := 79) (w3 := 936) (w4 := 23) (by decide +kernel)
theorem ez_h67 : ez_mok lw_tbl ez_M0 67 := ez_mok_of (w1 := 933) (w2 := 79) (w3 := 931) (w4 := 932) (by decide +kernel)
theorem ez_h68 : ez_mok lw_tbl ez_M0 68 := ez_mok_of (w1 := 960) (w2 := 79) (w3 := 959) (w4 := 26) (by decide +kernel)
theorem ez_h69 : ez_mok lw_tbl ez_M0 69 := ez_mok_of (w1 := 945) (w2 := 79) (w3 := 944) (w4 := 24) (by decide +kernel)
theorem ez_h70 : ez_mok lw_tbl ez_M0 70 := ez_mok_of (w1 := 997) (w2 := 79) (w3 := 995) (w4 := 996) (by decide +kernel)
theorem ez_h71 : ez_mok lw_tbl ez_M0 71 := ez_mok_of (w1 := 409) (w2 := 81) (w3 := 408) (w4 := 0) (by decide +kernel)
theorem ez_h72 : ez_mok lw_tbl ez_M0 72 := ez_mok_of (w1 := 414) (w2 := 81) (w3 := 412) (w4 := 413) (by decide +kernel)
theorem ez_h73 : ez_mok lw_tbl ez_M0 73 := ez_mok_of (w1 := 1098) (w2 := 81) (w3 := 1096) (w4 := 1097) (by decide +kernel)
theorem ez_h74 : ez_mok lw_tbl ez_M0 74 := ez_mok_of (w1 := 1126) (w2 := 81) (w3 := 1124) (w4 := 1125) (by decide +kernel)
theorem ez_h75 : ez_mok lw_tbl ez_M0 75 := ez_mok_of (w1 := 1116) (w2 := 81) (w3 := 1115) (w4 := 32) (by decide +kernel)
theorem ez_h76 : ez_mok lw_tbl ez_M0 76 := ez_mok_of (w1 := 1111) (w2 := 81) (w3 := 1109) (w4 := 1110) (by decide +kernel)
theorem ez_h77 : ez_mok lw_tbl ez_M0 77 := ez_mok_of (w1 := 1138) (w2 := 81) (w3 := 1137) (w4 := 35) (by decide +kernel)
theorem ez_h78 : ez_mok lw_tbl ez_M0 78 := ez_mok_of (w1 := 1148) (w2 := 81) (w3 := 1147) (w4 := 37) (by decide +kernel)
theorem ez_h79 : ez_mok lw_tbl ez_M0 79 := ez_mok_of (w1 := 1130) (w2 := 81) (w3 := 1129) (w4 := 33) (by decide +kernel)
theorem ez_h80 : ez_mok lw_tbl ez_M0 80 := ez_mok_of (w1 := 1144) (w2 := 81) (w3 := 1143) (w4 := 36) (by decide +kernel)
theorem ez_h81 : ez_mok lw_tbl ez_M0 81 := ez_mok_of (w1 := 1088) (w2 := 81) (w3 := 1086) (w4 := 1087) (by decide +kernel)
theorem ez_h82 : ez_mok lw_tbl ez_M0 82 := ez_mok_of (w1 := 1157) (w2 := 81) (w3 := 1155) (w4 := 1156) (by decide +kernel)
theorem ez_h83 : ez_mok lw_tbl ez_M0 83 := ez_mok_of (w1 := 1134) (w2 := 81) (w3 := 1133) (w4 := 34) (by decide +kernel)
theorem ez_h84 : ez_mok lw_tbl ez_M0 84 := ez_mok_of (w1 := 150) (w2 := 72) (w3 := 149) (w4 := 0) (by decide +kernel)
theorem ez_h85 : ez_mok lw_tbl ez_M0 85 := ez_mok_of (w1 := 523) (w2 := 72) (w3 := 521) (w4 := 522) (by decide +kernel)
theorem ez_h86 : ez_mok lw_tbl ez_M0 86 := ez_mok_of (w1 := 604) (w2 := 72) (w3 := 602) (w4 := 603) (by decide +kernel)
theorem ez_h87 : ez_mok lw_tbl ez_M0 87 := ez_mok_of (w1 := 740) (w2 := 72) (w3 := 738) (w4 := 739) (by decide +kernel)
theorem ez_h88 : ez_mok lw_tbl ez_M0 88 := ez_mok_of (w1 := 471) (w2 := 72) (w3 := 469) (w4 := 470) (by decide +kernel)
theorem ez_h89 : ez_mok lw_tbl ez_M0 89 := ez_mok_of (w1 := 617) (w2 := 72) (w3 := 615) (w4 := 616) (by decide +kernel)
theorem ez_h90 : ez_mok lw_tbl ez_M0 90 := ez_mok_of (w1 := 566) (w2 := 72) (w3 := 565) (w4 := 0) (by decide +kernel)
theorem ez_h91 : ez_mok lw_tbl ez_M0 91 := ez_mok_of (w1 := 551) (w2 := 72) (w3 := 550) (w4 := 5) (by decide +kernel)
theorem ez_h92 : ez_mok lw_tbl ez_M0 92 := ez_mok_of (w1 := 528) (w2 := 72) (w3 := 527) (w4 := 3) (by decide +kernel)
theorem ez_h93 : ez_mok lw_tbl ez_M0 93 := ez_mok_of (w1 := 563) (w2 := 72) (w3 := 562) (w4 := 0) (by decide +kernel)
theorem ez_h94 : ez_mok lw_tbl ez_M0 94 := ez_mok_of (w1 := 595) (w2 := 72) (w3 := 593) (w4 := 594) (by decide +kernel)
theorem ez_h95 : ez_mok lw_tbl ez_M0 95 := ez_mok_of (w1 := 382) (w2 := 80) (w3 := 381) (w4 := 0) (by decide +kernel)
theorem ez_h96 : ez_mok lw_tbl ez_M0 96 := ez_mok_of (w1 := 1071) (w2 := 80) (w3 := 1070) (w4 := 30) (by decide +kernel)
theorem ez_h97 : ez_mok lw_tbl ez_M0 97 := ez_mok_of (w1 := 1024) (w2 := 80) (w3 := 1023) (w4 := 0) (by decide +kernel)
theorem ez_h98 : ez_mok lw_tbl ez_M0 98 := ez_mok_of (w1 := 1021) (w2 := 80) (w3 := 1019) (w4 := 1020) (by decide +kernel)
theorem ez_h99 : ez_mok lw_tbl ez_M0 99 := ez_mok_of (w1 := 1061) (w2 := 80) (w3 := 1060) (w4 := 0) (by decide +kernel)
theorem ez_h100 : ez_mok lw_tbl ez_M0 100 := ez_mok_of (w1 := 1035) (w2 := 80) (w3 := 1033) (w4 := 1034) (by decide +kernel)
theorem ez_h101 : ez_mok lw_tbl ez_M0 101 := ez_mok_of (w1 := 1058) (w2 := 80) (w3 := 1056) (w4 := 1057) (by decide +kernel)
theorem ez_h102 : ez_mok lw_tbl ez_M0 102 := ez_mok_of (w1 := 1053) (w2 := 80) (w3 := 1051) (w4 := 1052) (by decide +kernel)
theorem ez_h103 : ez_mok lw_tbl ez_M0 103 := ez_mok_of (w1 := 1045) (w2 := 80) (w3 := 1043) (w4 := 1044) (by decide +kernel)
theorem ez_h104 : ez_mok lw_tbl ez_M0 104 := ez_mok_of (w1 := 250) (w2 := 76) (w3 := 249) (w4 := 0) (by decide +kernel)
theorem ez_h105 : ez_mok lw_tbl ez_M0 105 := ez_mok_of (w1 := 814) (w2 := 76) (w3 := 812) (w4 := 813) (by decide +kernel)
theorem ez_h106 : ez_mok lw_tbl ez_M0 106 := ez_mok_of (w1 := 496) (w2 := 76) (w3 := 494) (w4 := 495) (by decide +kernel)
theorem ez_h107 : ez_mok lw_tbl ez_M0 107 := ez_mok_of (w1 := 504) (w2 := 76) (w3 := 502) (w4 := 503) (by decide +kernel)
theorem ez_h108 : ez_mok lw_tbl ez_M0 108 := ez_mok_of (w1 := 793) (w2 := 76) (w3 := 792) (w4 := 18) (by decide +kernel)
theorem ez_h109 : ez_mok lw_tbl ez_M0 109 := ez_mok_of (w1 := 823) (w2 := 76) (w3 := 821) (w4 := 822) (by decide +kernel)
theorem ez_h110 : ez_mok lw_tbl ez_M0 110 := ez_mok_of (w1 := 852) (w2 := 76) (w3 := 850) (w4 := 851) (by decide +kernel)
theorem ez_h111 : ez_mok lw_tbl ez_M0 111 := ez_mok_of (w1 := 908) (w2 := 76) (w3 := 906) (w4 := 907) (by decide +kernel)
theorem ez_h112 : ez_mok lw_tbl ez_M0 112 := ez_mok_of (w1 := 789) (w2 := 76) (w3 := 787) (w4 := 788) (by decide +kernel)
theorem ez_h113 : ez_mok lw_tbl ez_M0 113 := ez_mok_of (w1 := 827) (w2 := 76) (w3 := 825) (w4 := 826) (by decide +kernel)
theorem ez_h114 : ez_mok lw_tbl ez_M0 114 := ez_mok_of (w1 := 306) (w2 := 78) (w3 := 305) (w4 := 0) (by decide +kernel)
theorem ez_h115 : ez_mok lw_tbl ez_M0 115 := ez_mok_of (w1 := 903) (w2 := 78) (w3 := 902) (w4 := 19) (by decide +kernel)
theorem ez_h116 : ez_mok lw_tbl ez_M0 116 := ez_mok_of (w1 := 912) (w2 := 78) (w3 := 911) (w4 := 20) (by decide +kernel)
theorem ez_h117 : ez_mok lw_tbl ez_M0 117 := ez_mok_of (w1 := 508) (w2 := 78) (w3 := 506) (w4 := 507) (by decide +kernel)
theorem ez_h118 : ez_mok lw_tbl ez_M0 118 := ez_mok_of (w1 := 919) (w2 := 78) (w3 := 918) (w4 := 21) (by decide +kernel)
theorem ez_h119 : ez_mok lw_tbl ez_M0 119 := ez_mok_of (w1 := 899) (w2 := 78) (w3 := 897) (w4 := 898) (by decide +kernel)
theorem ez_h120 : ez_mok lw_tbl ez_M0 120 := ez_mok_of (w1 := 200) (w2 := 74) (w3 := 199) (w4 := 0) (by decide +kernel)
theorem ez_h121 : ez_mok lw_tbl ez_M0 121 := ez_mok_of (w1 := 687) (w2 := 74) (w3 := 685) (w4 := 686) (by decide +kernel)
theorem ez_h122 : ez_mok lw_tbl ez_M0 122 := ez_mok_of (w1 := 475) (w2 := 74) (w3 := 473) (w4 := 474) (by decide +kernel)
theorem ez_h123 : ez_mok lw_tbl ez_M0 123 := ez_mok_of (w1 := 727) (w2 := 74) (w3 := 725) (w4 := 726) (by decide +kernel)
theorem ez_h124 : ez_mok lw_tbl ez_M0 124 := ez_mok_of (w1 := 746) (w2 := 74) (w3 := 744) (w4 := 745) (by decide +kernel)
theorem ez_h125 : ez_mok lw_tbl ez_M0 125 := ez_mok_of (w1 := 709) (w2 := 74) (w3 := 707) (w4 := 708) (by decide +kernel)
theorem ez_h126 : ez_mok lw_tbl ez_M0 126 := ez_mok_of (w1 := 704) (w2 := 74) (w3 := 702) (w4 := 703) (by decide +kernel)
theorem ez_h127 : ez_mok lw_tbl ez_M0 127 := ez_mok_of (w1 := 713) (w2 := 74) (w3 := 711) (w4 := 712) (by decide +kernel)
theorem ez_h128 : ez_mok lw_tbl ez_M0 128 := ez_mok_of (w1 := 225) (w2 := 75) (w3 := 224) (w4 := 0) (by decide +kernel)
theorem ez_h129 : ez_mok lw_tbl ez_M0 129 := ez_mok_of (w1 := 801) (w2 := 75) (w3 := 799) (w4 := 800) (by decide +kernel)
theorem ez_h130 : ez_mok lw_tbl ez_M0 130 := ez_mok_of (w1 := 751) (w2 := 75) (w3 := 750) (w4 := 14) (by decide +kernel)
theorem ez_h131 : ez_mok lw_tbl ez_M0 131 := ez_mok_of (w1 := 761) (w2 := 75) (w3 := 760) (w4 := 15) (by decide +kernel)
theorem ez_h132 : ez_mok lw_tbl ez_M0 132 := ez_mok_of (w1 := 765) (w2 := 75) (w3 := 764) (w4 := 16) (by decide +kernel)
theorem ez_h133 : ez_mok lw_tbl ez_M0 133 := ez_mok_of (w1 := 777) (w2 := 75) (w3 := 775) (w4 := 776) (by decide +kernel)
theorem ez_h134 : ez_mok lw_tbl ez_M0 134 := ez_mok_of (w1 := 805) (w2 := 75) (w3 := 803) (w4 := 804) (by decide +kernel)
theorem ez_h135 : ez_mok lw_tbl ez_M0 135 := ez_mok_of (w1 := 735) (w2 := 75) (w3 := 733) (w4 := 734) (by decide +kernel)
theorem ez_h136 : ez_mok lw_tbl ez_M0 136 := ez_mok_of (w1 := 172) (w2 := 73) (w3 := 171) (w4 := 0) (by decide +kernel)
theorem ez_h137 : ez_mok lw_tbl ez_M0 137 := ez_mok_of (w1 := 955) (w2 := 73) (w3 := 953) (w4 := 954) (by decide +kernel)
theorem ez_h138 : ez_mok lw_tbl ez_M0 138 := ez_mok_of (w1 := 667) (w2 := 73) (w3 := 665) (w4 := 666) (by decide +kernel)
theorem ez_h139 : ez_mok lw_tbl ez_M0 139 := ez_mok_of (w1 := 484) (w2 := 73) (w3 := 482) (w4 := 483) (by decide +kernel)
theorem ez_h140 : ez_mok lw_tbl ez_M0 140 := ez_mok_of (w1 := 622) (w2 := 73) (w3 := 620) (w4 := 621) (by decide +kernel)
theorem ez_h141 : ez_mok lw_tbl ez_M0 141 := ez_mok_of (w1 := 650) (w2 := 73) (w3 := 649) (w4 := 8) (by decide +kernel)
theorem ez_h142 : ez_mok lw_tbl ez_M0 142 := ez_mok_of (w1 := 654) (w2 := 73) (w3 := 653) (w4 := 9) (by decide +kernel)
theorem ez_h143 : ez_mok lw_tbl ez_M0 143 := ez_mok_of (w1 := 98) (w2 := 71) (w3 := 97) (w4 := 0) (by decide +kernel)
theorem ez_h144 : ez_mok lw_tbl ez_M0 144 := ez_mok_of (w1 := 638) (w2 := 71) (w3 := 636) (w4 := 637) (by decide +kernel)
theorem ez_h145 : ez_mok lw_tbl ez_M0 145 := ez_mok_of (w1 := 106) (w2 := 71) (w3 := 104) (w4 := 105) (by decide +kernel)
theorem ez_h146 : ez_mok lw_tbl ez_M0 146 := ez_mok_of (w1 := 574) (w2 := 71) (w3 := 572) (w4 := 573) (by decide +kernel)
theorem ez_h147 : ez_mok lw_tbl ez_M0 147 := ez_mok_of (w1 := 642) (w2 := 71) (w3 := 640) (w4 := 641) (by decide +kernel)
theorem ez_h148 : ez_mok lw_tbl ez_M0 148 := ez_mok_of (w1 := 646) (w2 := 71) (w3 := 644) (w4 := 645) (by decide +kernel)
theorem ez_h149 : ez_mok lw_tbl ez_M0 149 := ez_mok_of (w1 := 532) (w2 := 71) (w3 := 530) (w4 := 531) (by decide +kernel)
theorem ez_h150 : ez_mok lw_tbl ez_M0 150 := ez_mok_of (w1 := 1102) (w2 := 71) (w3 := 1100) (w4 := 1101) (by decide +kernel)
theorem ez_h151 : ez_mok lw_tbl ez_M0 151 := ez_mok_of (w1 := 1084) (w2 := 71) (w3 := 1082) (w4 := 1083) (by decide +kernel)
theorem ez_h152 : ez_mok lw_tbl ez_M0 152 := ez_mok_of (w1 := 757) (w2 := 71) (w3 := 755) (w4 := 756) (by decide +kernel)
theorem ez_h153 : ez_mok lw_tbl ez_M0 153 := ez_mok_of (w1 := 583) (w2 := 71) (w3 := 581) (w4 := 582) (by decide +kernel)
theorem ez_h154 : ez_mok lw_tbl ez_M0 154 := ez_mok_of (w1 := 536) (w2 := 71) (w3 := 535) (w4 := 4) (by decide +kernel)
theorem ez_h155 : ez_mok lw_tbl ez_M0 155 := ez_mok_of (w1 := 256) (w2 := 77) (w3 := 255) (w4 := 0) (by decide +kernel)
theorem ez_h156 : ez_mok lw_tbl ez_M0 156 := ez_mok_of (w1 := 833) (w2 := 77) (w3 := 831) (w4 := 832) (by decide +kernel)
theorem ez_h157 : ez_mok lw_tbl ez_M0 157 := ez_mok_of (w1 := 884) (w2 := 77) (w3 := 882) (w4 := 883) (by decide +kernel)
theorem ez_h158 : ez_mok lw_tbl ez_M0 158 := ez_mok_of (w1 := 868) (w2 := 77) (w3 := 866) (w4 := 867) (by decide +kernel)
theorem ez_h159 : ez_mok lw_tbl ez_M0 159 := ez_mok_of (w1 := 818) (w2 := 77) (w3 := 816) (w4 := 817) (by decide +kernel)
theorem ez_h160 : ez_mok lw_tbl ez_M0 160 := ez_mok_of (w1 := 836) (w2 := 77) (w3 := 835) (w4 := 0) (by decide +kernel)
theorem ez_h161 : ez_mok lw_tbl ez_M0 161 := ez_mok_of (w1 := 888) (w2 := 77) (w3 := 886) (w4 := 887) (by decide +kernel)
theorem ez_h162 : ez_mok lw_tbl ez_M0 162 := ez_mok_of (w1 := 876) (w2 := 77) (w3 := 874) (w4 := 875) (by decide +kernel)
theorem ez_h163 : ez_mok lw_tbl ez_M0 163 := ez_mok_of (w1 := 860) (w2 := 77) (w3 := 858) (w4 := 859) (by decide +kernel)
theorem ez_h164 : ez_mok lw_tbl ez_M0 164 := ez_mok_of (w1 := 1162) (w2 := 82) (w3 := 1161) (w4 := 0) (by decide +kernel)
theorem ez_h165 : ez_mok lw_tbl ez_M0 165 := ez_mok_of (w1 := 1346) (w2 := 82) (w3 := 1345) (w4 := 42) (by decide +kernel)
theorem ez_h166 : ez_mok lw_tbl ez_M0 166 := ez_mok_of (w1 := 1385) (w2 := 82) (w3 := 1383) (w4 := 1384) (by decide +kernel)
theorem ez_h167 : ez_mok lw_tbl ez_M0 167 := ez_mok_of (w1 := 1360) (w2 := 82) (w3 := 1359) (w4 := 43) (by decide +kernel)
theorem ez_h168 : ez_mok lw_tbl ez_M0 168 := ez_mok_of (w1 := 1397) (w2 := 82) (w3 := 1395) (w4 := 1396) (by decide +kernel)
theorem ez_h169 : ez_mok lw_tbl ez_M0 169 := ez_mok_of (w1 := 1474) (w2 := 82) (w3 := 1472) (w4 := 1473) (by decide +kernel)
theorem ez_h170 : ez_mok lw_tbl ez_M0 170 := ez_mok_of (w1 := 1478) (w2 := 82) (w3 := 1476) (w4 := 1477) (by decide +kernel)
theorem ez_h171 : ez_mok lw_tbl ez_M0 171 := ez_mok_of (w1 := 1311) (w2 := 82) (w3 := 1310) (w4 := 0) (by decide +kernel)
theorem ez_h172 : ez_mok lw_tbl ez_M0 172 := ez_mok_of (w1 := 1522) (w2 := 82) (w3 := 1520) (w4 := 1521) (by decide +kernel)
theorem ez_h173 : ez_mok lw_tbl ez_M0 173 := ez_mok_of (w1 := 1526) (w2 := 82) (w3 := 1525) (w4 := 64) (by decide +kernel)
theorem ez_h174 : ez_mok lw_tbl ez_M0 174 := ez_mok_of (w1 := 1530) (w2 := 82) (w3 := 1528) (w4 := 1529) (by decide +kernel)
theorem ez_h175 : ez_mok lw_tbl ez_M0 175 := ez_mok_of (w1 := 1373) (w2 := 82) (w3 := 1371) (w4 := 1372) (by decide +kernel)
theorem ez_h176 : ez_mok lw_tbl ez_M0 176 := ez_mok_of (w1 := 1413) (w2 := 82) (w3 := 1412) (w4 := 49) (by decide +kernel)
theorem ez_h177 : ez_mok lw_tbl ez_M0 177 := ez_mok_of (w1 := 1514) (w2 := 82) (w3 := 1513) (w4 := 63) (by decide +kernel)
theorem ez_h178 : ez_mok lw_tbl ez_M0 178 := ez_mok_of (w1 := 1502) (w2 := 82) (w3 := 1500) (w4 := 1501) (by decide +kernel)
theorem ez_h179 : ez_mok lw_tbl ez_M0 179 := ez_mok_of (w1 := 1303) (w2 := 82) (w3 := 1302) (w4 := 38) (by decide +kernel)
theorem ez_h180 : ez_mok lw_tbl ez_M0 180 := ez_mok_of (w1 := 1555) (w2 := 82) (w3 := 1554) (w4 := 67) (by decide +kernel)
theorem ez_h181 : ez_mok lw_tbl ez_M0 181 := ez_mok_of (w1 := 1567) (w2 := 82) (w3 := 1565) (w4 := 1566) (by decide +kernel)
theorem ez_h182 : ez_mok lw_tbl ez_M0 182 := ez_mok_of (w1 := 1542) (w2 := 82) (w3 := 1540) (w4 := 1541) (by decide +kernel)
theorem ez_h183 : ez_mok lw_tbl ez_M0 183 := ez_mok_of (w1 := 1559) (w2 := 82) (w3 := 1558) (w4 := 68) (by decide +kernel)
theorem ez_h184 : ez_mok lw_tbl ez_M0 184 := ez_mok_of (w1 := 1538) (w2 := 82) (w3 := 1537) (w4 := 65) (by decide +kernel)
theorem ez_h185 : ez_mok lw_tbl ez_M0 185 := ez_mok_of (w1 := 1322) (w2 := 82) (w3 := 1320) (w4 := 1321) (by decide +kernel)
theorem ez_h186 : ez_mok lw_tbl ez_M0 186 := ez_mok_of (w1 := 1421) (w2 := 82) (w3 := 1420) (w4 := 51) (by decide +kernel)
theorem ez_h187 : ez_mok lw_tbl ez_M0 187 := ez_mok_of (w1 := 1425) (w2 := 82) (w3 := 1424) (w4 := 52) (by decide +kernel)
theorem ez_h188 : ez_mok lw_tbl ez_M0 188 := ez_mok_of (w1 := 1438) (w2 := 82) (w3 := 1437) (w4 := 53) (by decide +kernel)
theorem ez_h189 : ez_mok lw_tbl ez_M0 189 := ez_mok_of (w1 := 1510) (w2 := 82) (w3 := 1509) (w4 := 62) (by decide +kernel)
theorem ez_h190 : ez_mok lw_tbl ez_M0 190 := ez_mok_of (w1 := 1335) (w2 := 82) (w3 := 1334) (w4 := 40) (by decide +kernel)
theorem ez_h191 : ez_mok lw_tbl ez_M0 191 := ez_mok_of (w1 := 1563) (w2 := 82) (w3 := 1561) (w4 := 1562) (by decide +kernel)
theorem ez_h192 : ez_mok lw_tbl ez_M0 192 := ez_mok_of (w1 := 1405) (w2 := 82) (w3 := 1404) (w4 := 47) (by decide +kernel)
theorem ez_h193 : ez_mok lw_tbl ez_M0 193 := ez_mok_of (w1 := 1470) (w2 := 82) (w3 := 1469) (w4 := 57) (by decide +kernel)
theorem ez_h194 : ez_mok lw_tbl ez_M0 194 := ez_mok_of (w1 := 1482) (w2 := 82) (w3 := 1481) (w4 := 58) (by decide +kernel)
theorem ez_h195 : ez_mok lw_tbl ez_M0 195 := ez_mok_of (w1 := 1294) (w2 := 82) (w3 := 1292) (w4 := 1293) (by decide +kernel)
theorem ez_h196 : ez_mok lw_tbl ez_M0 196 := ez_mok_of (w1 := 1506) (w2 := 82) (w3 := 1504) (w4 := 1505) (by decide +kernel)
theorem ez_h197 : ez_mok lw_tbl ez_M0 197 := ez_mok_of (w1 := 1314) (w2 := 82) (w3 := 1313) (w4 := 0) (by decide +kernel)
theorem ez_h198 : ez_mok lw_tbl ez_M0 198 := ez_mok_of (w1 := 1299) (w2 := 82) (w3 := 1298) (w4 := 0) (by decide +kernel)
theorem ez_h199 : ez_mok lw_tbl ez_M0 199 := ez_mok_of (w1 := 1389) (w2 := 82) (w3 := 1388) (w4 := 46) (by decide +kernel)
theorem ez_h200 : ez_mok lw_tbl ez_M0 200 := ez_mok_of (w1 := 1377) (w2 := 82) (w3 := 1376) (w4 := 45) (by decide +kernel)
theorem ez_h201 : ez_mok lw_tbl ez_M0 201 := ez_mok_of (w1 := 1490) (w2 := 82) (w3 := 1489) (w4 := 59) (by decide +kernel)
theorem ez_h202 : ez_mok lw_tbl ez_M0 202 := ez_mok_of (w1 := 1369) (w2 := 82) (w3 := 1368) (w4 := 44) (by decide +kernel)
theorem ez_h203 : ez_mok lw_tbl ez_M0 203 := ez_mok_of (w1 := 1546) (w2 := 82) (w3 := 1545) (w4 := 66) (by decide +kernel)
theorem ez_h204 : ez_mok lw_tbl ez_M0 204 := ez_mok_of (w1 := 1331) (w2 := 82) (w3 := 1330) (w4 := 39) (by decide +kernel)
theorem ez_h205 : ez_mok lw_tbl ez_M0 205 := ez_mok_of (w1 := 1365) (w2 := 82) (w3 := 1363) (w4 := 1364) (by decide +kernel)
theorem ez_h206 : ez_mok lw_tbl ez_M0 206 := ez_mok_of (w1 := 1356) (w2 := 82) (w3 := 1354) (w4 := 1355) (by decide +kernel)
theorem ez_h207 : ez_mok lw_tbl ez_M0 207 := ez_mok_of (w1 := 1434) (w2 := 82) (w3 := 1432) (w4 := 1433) (by decide +kernel)
theorem ez_h208 : ez_mok lw_tbl ez_M0 208 := ez_mok_of (w1 := 1429) (w2 := 82) (w3 := 1427) (w4 := 1428) (by decide +kernel)
theorem ez_h209 : ez_mok lw_tbl ez_M0 209 := ez_mok_of (w1 := 1393) (w2 := 82) (w3 := 1391) (w4 := 1392) (by decide +kernel)
theorem ez_h210 : ez_mok lw_tbl ez_M0 210 := ez_mok_of (w1 := 1571) (w2 := 82) (w3 := 1569) (w4 := 1570) (by decide +kernel)
theorem ez_h211 : ez_mok lw_tbl ez_M0 211 := ez_mok_of (w1 := 1342) (w2 := 82) (w3 := 1341) (w4 := 41) (by decide +kernel)
theorem ez_h212 : ez_mok lw_tbl ez_M0 212 := ez_mok_of (w1 := 1486) (w2 := 82) (w3 := 1484) (w4 := 1485) (by decide +kernel)
theorem ez_h213 : ez_mok lw_tbl ez_M0 213 := ez_mok_of (w1 := 1494) (w2 := 82) (w3 := 1493) (w4 := 60) (by decide +kernel)
theorem ez_h214 : ez_mok lw_tbl ez_M0 214 := ez_mok_of (w1 := 1466) (w2 := 82) (w3 := 1464) (w4 := 1465) (by decide +kernel)
theorem ez_h215 : ez_mok lw_tbl ez_M0 215 := ez_mok_of (w1 := 1409) (w2 := 82) (w3 := 1408) (w4 := 48) (by decide +kernel)
theorem ez_h216 : ez_mok lw_tbl ez_M0 216 := ez_mok_of (w1 := 1498) (w2 := 82) (w3 := 1497) (w4 := 61) (by decide +kernel)
theorem ez_h217 : ez_mok lw_tbl ez_M0 217 := ez_mok_of (w1 := 1551) (w2 := 82) (w3 := 1549) (w4 := 1550) (by decide +kernel)
theorem ez_h218 : ez_mok lw_tbl ez_M0 218 := ez_mok_of (w1 := 1381) (w2 := 82) (w3 := 1379) (w4 := 1380) (by decide +kernel)
theorem ez_h219 : ez_mok lw_tbl ez_M0 219 := ez_mok_of (w1 := 1318) (w2 := 82) (w3 := 1316) (w4 := 1317) (by decide +kernel)
theorem ez_h220 : ez_mok lw_tbl ez_M0 220 := ez_mok_of (w1 := 1307) (w2 := 82) (w3 := 1305) (w4 := 1306) (by decide +kernel)
theorem ez_h221 : ez_mok lw_tbl ez_M0 221 := ez_mok_of (w1 := 1417) (w2 := 82) (w3 := 1416) (w4 := 50) (by decide +kernel)
theorem ez_h222 : ez_mok lw_tbl ez_M0 222 := ez_mok_of (w1 := 1350) (w2 := 82) (w3 := 1348) (w4 := 1349) (by decide +kernel)
theorem ez_h223 : ez_mok lw_tbl ez_M0 223 := ez_mok_of (w1 := 1327) (w2 := 82) (w3 := 1325) (w4 := 1326) (by decide +kernel)
theorem ez_h224 : ez_mok lw_tbl ez_M0 224 := ez_mok_of (w1 := 1518) (w2 := 82) (w3 := 1516) (w4 := 1517) (by decide +kernel)
theorem ez_h225 : ez_mok lw_tbl ez_M0 225 := ez_mok_of (w1 := 1462) (w2 := 82) (w3 := 1460) (w4 := 1461) (by decide +kernel)
theorem ez_h226 : ez_mok lw_tbl ez_M0 226 := ez_mok_of (w1 := 1534) (w2 := 82) (w3 := 1532) (w4 := 1533) (by decide +kernel)
theorem ez_h227 : ez_mok lw_tbl ez_M0 227 := ez_mok_of (w1 := 1450) (w2 := 82) (w3 := 1448) (w4 := 1449) (by decide +kernel)
theorem ez_h228 : ez_mok lw_tbl ez_M0 228 := ez_mok_of (w1 := 1454) (w2 := 82) (w3 := 1453) (w4 := 55) (by decide +kernel)
theorem ez_h229 : ez_mok lw_tbl ez_M0 229 := ez_mok_of (w1 := 1401) (w2 := 82) (w3 := 1399) (w4 := 1400) (by decide +kernel)
theorem ez_h230 : ez_mok lw_tbl ez_M0 230 := ez_mok_of (w1 := 1338) (w2 := 82) (w3 := 1337) (w4 := 0) (by decide +kernel)
theorem ez_h231 : ez_mok lw_tbl ez_M0 231 := ez_mok_of (w1 := 1458) (w2 := 82) (w3 := 1457) (w4 := 56) (by decide +kernel)
theorem ez_h232 : ez_mok lw_tbl ez_M0 232 := ez_mok_of (w1 := 1446) (w2 := 82) (w3 := 1444) (w4 := 1445) (by decide +kernel)
theorem ez_h233 : ez_mok lw_tbl ez_M0 233 := ez_mok_of (w1 := 1442) (w2 := 82) (w3 := 1441) (w4 := 54) (by decide +kernel)
theorem ez_h234 : ez_mok lw_tbl ez_M0 234 := ez_mok_of (w1 := 516) (w2 := 83) (w3 := 515) (w4 := 0) (by decide +kernel)
theorem ez_h235 : ez_mok lw_tbl ez_M0 235 := ez_mok_of (w1 := 1067) (w2 := 83) (w3 := 1066) (w4 := 0) (by decide +kernel)
theorem ez_h236 : ez_mok lw_tbl ez_M0 236 := ez_mok_of (w1 := 842) (w2 := 83) (w3 := 841) (w4 := 0) (by decide +kernel)
theorem ez_h237 : ez_mok lw_tbl ez_M0 237 := ez_mok_of (w1 := 543) (w2 := 85) (w3 := 542) (w4 := 0) (by decide +kernel)
theorem ez_h238 : ez_mok lw_tbl ez_M0 238 := ez_mok_of (w1 := 1064) (w2 := 85) (w3 := 1063) (w4 := 0) (by decide +kernel)
theorem ez_h239 : ez_mok lw_tbl ez_M0 239 := ez_mok_of (w1 := 839) (w2 := 85) (w3 := 838) (w4 := 0) (by decide +kernel)
theorem ez_ph_0 : ∀ a, a < 0 → ez_mok lw_tbl ez_M0 a := lt_0
theorem ez_ph_10 : ∀ a, a < 10 → ez_mok lw_tbl ez_M0 a := lt_s (lt_s (lt_s (lt_s (lt_s (lt_s (lt_s (lt_s (lt_s (lt_s ez_ph_0 ez_h0) ez_h1) ez_h2) ez_h3) ez_h4) ez_h5) ez_h6) ez_h7) ez_h8) ez_h9
theorem ez_ph_20 : ∀ a, a < 20 → ez_mok lw_tbl ez_M0 a := lt_s (lt_s (lt_s (lt_s (lt_s (lt_s (lt_s (lt_s (lt_s (lt_s ez_ph_10 ez_h10) ez_h11) ez_h12) ez_h13) ez_h14) ez_h15) ez_h16) ez_h17) ez_h18) ez_h19
theorem ez_ph_30 : ∀ a, a < 30 → ez_mok lw_tbl ez_M0 a := lt_s (lt_s (lt_s (lt_s (lt_s (lt_s (lt_s (lt_s (lt_s (lt_s ez_ph_20 ez_h20) ez_h21) ez_h22) ez_h23) ez_h24) ez_h25) ez_h26) ez_h27) ez_h28) ez_h29
theorem ez_ph_40 : ∀ a, a < 40 → ez_mok lw_tbl ez_M0 a := lt_s (lt_s (lt_s (lt_s (lt_s (lt_s (lt_s (lt_s (lt_s (lt_s ez_ph_30 ez_h30) ez_h31) ez_h32) ez_h33) ez_h34) ez_h35) ez_h36) ez_h37) ez_h38) ez_h39
theorem ez_ph_50 : ∀ a, a < 50 → ez_mok lw_tbl ez_M0 a := lt_s (lt_s (lt_s (lt_s (lt_s (lt_s (lt_s (lt_s (lt_s (lt_s ez_ph_40 ez_h40) ez_h41) ez_h42) ez_h43) ez_h44) ez_h45) ez_h46) ez_h47) ez_h48) ez_h49
theorem ez_ph_60 : ∀ a, a < 60 → ez_mok lw_tbl ez_M0 a := lt_s (lt_s (lt_s (lt_s (lt_s (lt_s (lt_s (lt_s (lt_s (lt_s ez_ph_50 ez_h50) ez_h51) ez_h52) ez_h53) ez_h54) ez_h55) ez_h56) ez_h57) ez_h58) ez_h59
theorem ez_ph_70 : ∀ a, a < 70 → ez_mok lw_tbl ez_M0 a := lt_s (lt_s (lt_s (lt_s (lt_s (lt_s (lt_s (lt_s (lt_s (lt_s ez_ph_60 ez_h60) ez_h61) ez_h62) ez_h63) ez_h64) ez_h65) ez_h66) ez_h67) ez_h68) ez_h69
theorem ez_ph_80 : ∀ a, a < 80 → ez_mok lw_tbl ez_M0 a := lt_s (lt_s (lt_s (lt_s (lt_s (lt_s (lt_s (lt_s (lt_s (lt_s ez_ph_70 ez_h70) ez_h71) ez_h72) ez_h73) ez_h74) ez_h75) ez_h76) ez_h77) ez_h78) ez_h79
theorem ez_ph_90 : ∀ a, a < 90 → ez_mok lw_tbl ez_M0 a := lt_s (lt_s (lt_s (lt_s (lt_s (lt_s (lt_s (lt_s (lt_s (lt_s ez_ph_80 ez_h80) ez_h81) ez_h82) ez_h83) ez_h84) ez_h85) ez_h86) ez_h87) ez_h88) ez_h89
theorem ez_ph_100 : ∀ a, a < 100 → ez_mok lw_tbl ez_M0 a := lt_s (lt_s (lt_s (lt_s (lt_s (lt_s (lt_s (lt_s (lt_s (lt_s ez_ph_90 ez_h90) ez_h91) ez_h92) ez_h93) ez_h94) ez_h95) ez_h96) ez_h97) ez_h98) ez_h99
theorem ez_ph_110 : ∀ a, a < 110 → ez_mok lw_tbl ez_M0 a := lt_s (lt_s (lt_s (lt_s (lt_s (lt_s (lt_s (lt_s (lt_s (lt_s ez_ph_100 ez_h100) ez_h101) ez_h102) ez_h103) ez_h104) ez_h105) ez_h106) ez_h107) ez_h108) ez_h109
theorem ez_ph_120 : ∀ a, a < 120 → ez_mok lw_tbl ez_M0 a := lt_s (lt_s (lt_s (lt_s (lt_s (lt_s (lt_s (lt_s (lt_s (lt_s ez_ph_110 ez_h110) ez_h111) ez_h112) ez_h113) ez_h114) ez_h115) ez_h116) ez_h117) ez_h118) ez_h119
theorem ez_ph_130 : ∀ a, a < 130 → ez_mok lw_tbl ez_M0 a := lt_s (lt_s (lt_s (lt_s (lt_s (lt_s (lt_s (lt_s (lt_s (lt_s ez_ph_120 ez_h120) ez_h121) ez_h122) ez_h123) ez_h124) ez_h125) ez_h126) ez_h127) ez_h128) ez_h129
theorem ez_ph_140 : ∀ a, a < 140 → ez_mok lw_tbl ez_M0 a := lt_s (lt_s (lt_s (lt_s (lt_s (lt_s (lt_s (lt_s (lt_s (lt_s ez_ph_130 ez_h130) ez_h131) ez_h132) ez_h133) ez_h134) ez_h135) ez_h136) ez_h137) ez_h138) ez_h139
theorem ez_ph_150 : ∀ a, a < 150 → ez_mok lw_tbl ez_M0 a := lt_s (lt_s (lt_s (lt_s (lt_s (lt_s (lt_s (lt_s (lt_s (lt_s ez_ph_140 ez_h140) ez_h141) ez_h142) ez_h143) ez_h144) ez_h145) ez_h146) ez_h147) ez_h148) ez_h149
theorem ez_ph_160 : ∀ a, a < 160 → ez_mok lw_tbl ez_M0 a := lt_s (lt_s (lt_s (lt_s (lt_s (lt_s (lt_s (lt_s (lt_s (lt_s ez_ph_150 ez_h150) ez_h151) ez_h152) ez_h153) ez_h154) ez_h155) ez_h156) ez_h157) ez_h158) ez_h159
theorem ez_ph_170 : ∀ a, a < 170 → ez_mok lw_tbl ez_M0 a := lt_s (lt_s (lt_s (lt_s (lt_s (lt_s (lt_s (lt_s (lt_s (lt_s ez_ph_160 ez_h160) ez_h161) ez_h162) ez_h163) ez_h164) ez_h165) ez_h166) ez_h167) ez_h168) ez_h169
theorem ez_ph_180 : ∀ a, a < 180 → ez_mok lw_tbl ez_M0 a := lt_s (lt_s (lt_s (lt_s (lt_s (lt_s (lt_s (lt_s (lt_s (lt_s ez_ph_170 ez_h170) ez_h171) ez_h172) ez_h173) ez_h174) ez_h175) ez_h176) ez_h177) ez_h178) ez_h179
theorem ez_ph_190 : ∀ a, a < 190 → ez_mok lw_tbl ez_M0 a := lt_s (lt_s (lt_s (lt_s (lt_s (lt_s (lt_s (lt_s (lt_s (lt_s ez_ph_180 ez_h180) ez_h181) ez_h182) ez_h183) ez_h184) ez_h185) ez_h186) ez_h187) ez_h188) ez_h189
theorem ez_ph_200 : ∀ a, a < 200 → ez_mok lw_tbl ez_M0 a := lt_s (lt_s (lt_s (lt_s (lt_s (lt_s (lt_s (lt_s (lt_s (lt_s ez_ph_190 ez_h190) ez_h191) ez_h192) ez_h193) ez_h194) ez_h195) ez_h196) ez_h197) ez_h198) ez_h199
theorem ez_ph_210 : ∀ a, a < 210 → ez_mok lw_tbl ez_M0 a := lt_s (lt_s (lt_s (lt_s (lt_s (lt_s (lt_s (lt_s (lt_s (lt_s ez_ph_200 ez_h200) ez_h201) ez_h202) ez_h203) ez_h204) ez_h205) ez_h206) ez_h207) ez_h208) ez_h209
theorem ez_ph_220 : ∀ a, a < 220 → ez_mok lw_tbl ez_M0 a := lt_s (lt_s (lt_s (lt_s (lt_s (lt_s (lt_s (lt_s (lt_s (lt_s ez_ph_210 ez_h210) ez_h211) ez_h212) ez_h213) ez_h214) ez_h215) ez_h216) ez_h217) ez_h218) ez_h219
theorem ez_ph_230 : ∀ a, a < 230 → ez_mok lw_tbl ez_M0 a := lt_s (lt_s (lt_s (lt_s (lt_s (lt_s (lt_s (lt_s (lt_s (lt_s ez_ph_220 ez_h220) ez_h221) ez_h222) ez_h223) ez_h224) ez_h225) ez_h226) ez_h227) ez_h228) ez_h229
theorem ez_ph_240 : ∀ a, a < 240 → ez_mok lw_tbl ez_M0 a := lt_s (lt_s (lt_s (lt_s (lt_s (lt_s (lt_s (lt_s (lt_s (lt_s ez_ph_230 ez_h230) ez_h231) ez_h232) ez_h233) ez_h234) ez_h235) ez_h236) ez_h237) ez_h238) ez_h239
theorem ez_c0 : ez_okC lw_tbl ez_cl0 ez_K0 ez_ty0 ez_nw0 0 := ⟨rfl, by decide +kernel, by decide +kernel, by decide +kernel, List.mem_of_getElem? (i := 334) (by decide +kernel), List.mem_of_getElem? (i := 79) (by decide +kernel), by decide +kernel, by decide +kernel⟩
theorem ez_c1 : ez_okC lw_tbl ez_cl0 ez_K0 ez_ty0 ez_nw0 1 := ⟨rfl, by decide +kernel, by decide +kernel, by decide +kernel, List.mem_of_getElem? (i := 406) (by decide +kernel), List.mem_of_getElem? (i := 81) (by decide +kernel), by decide +kernel, by decide +kernel⟩
theorem ez_c2 : ez_okC lw_tbl ez_cl0 ez_K0 ez_ty0 ez_nw0 2 := ⟨rfl, by decide +kernel, by decide +kernel, by decide +kernel, List.mem_of_getElem? (i := 147) (by decide +kernel), List.mem_of_getElem? (i := 72) (by decide +kernel), by decide +kernel, by decide +kernel⟩
theorem ez_c3 : ez_okC lw_tbl ez_cl0 ez_K0 ez_ty0 ez_nw0 3 := ⟨rfl, by decide +kernel, by decide +kernel, by decide +kernel, List.mem_of_getElem? (i := 379) (by decide +kernel), List.mem_of_getElem? (i := 80) (by decide +kernel), by decide +kernel, by decide +kernel⟩
theorem ez_c4 : ez_okC lw_tbl ez_cl0 ez_K0 ez_ty0 ez_nw0 4 := ⟨rfl, by decide +kernel, by decide +kernel, by decide +kernel, List.mem_of_getElem? (i := 247) (by decide +kernel), List.mem_of_getElem? (i := 76) (by decide +kernel), by decide +kernel, by decide +kernel⟩
theorem ez_c5 : ez_okC lw_tbl ez_cl0 ez_K0 ez_ty0 ez_nw0 5 := ⟨rfl, by decide +kernel, by decide +kernel, by decide +kernel, List.mem_of_getElem? (i := 303) (by decide +kernel), List.mem_of_getElem? (i := 78) (by decide +kernel), by decide +kernel, by decide +kernel⟩
theorem ez_c6 : ez_okC lw_tbl ez_cl0 ez_K0 ez_ty0 ez_nw0 6 := ⟨rfl, by decide +kernel, by decide +kernel, by decide +kernel, List.mem_of_getElem? (i := 197) (by decide +kernel), List.mem_of_getElem? (i := 74) (by decide +kernel), by decide +kernel, by decide +kernel⟩
theorem ez_c7 : ez_okC lw_tbl ez_cl0 ez_K0 ez_ty0 ez_nw0 7 := ⟨rfl, by decide +kernel, by decide +kernel, by decide +kernel, List.mem_of_getElem? (i := 222) (by decide +kernel), List.mem_of_getElem? (i := 75) (by decide +kernel), by decide +kernel, by decide +kernel⟩
theorem ez_c8 : ez_okC lw_tbl ez_cl0 ez_K0 ez_ty0 ez_nw0 8 := ⟨rfl, by decide +kernel, by decide +kernel, by decide +kernel, List.mem_of_getElem? (i := 169) (by decide +kernel), List.mem_of_getElem? (i := 73) (by decide +kernel), by decide +kernel, by decide +kernel⟩
theorem ez_c9 : ez_okC lw_tbl ez_cl0 ez_K0 ez_ty0 ez_nw0 9 := ⟨rfl, by decide +kernel, by decide +kernel, by decide +kernel, List.mem_of_getElem? (i := 95) (by decide +kernel), List.mem_of_getElem? (i := 71) (by decide +kernel), by decide +kernel, by decide +kernel⟩
theorem ez_c10 : ez_okC lw_tbl ez_cl0 ez_K0 ez_ty0 ez_nw0 10 := ⟨rfl, by decide +kernel, by decide +kernel, by decide +kernel, List.mem_of_getElem? (i := 253) (by decide +kernel), List.mem_of_getElem? (i := 77) (by decide +kernel), by decide +kernel, by decide +kernel⟩
theorem ez_c11 : ez_okC lw_tbl ez_cl0 ez_K0 ez_ty0 ez_nw0 11 := ⟨rfl, by decide +kernel, by decide +kernel, by decide +kernel, List.mem_of_getElem? (i := 87) (by decide +kernel), List.mem_of_getElem? (i := 70) (by decide +kernel), by decide +kernel, by decide +kernel⟩
theorem ez_c12 : ez_okC lw_tbl ez_cl0 ez_K0 ez_ty0 ez_nw0 12 := ⟨rfl, by decide +kernel, by decide +kernel, by decide +kernel, List.mem_of_getElem? (i := 1159) (by decide +kernel), List.mem_of_getElem? (i := 82) (by decide +kernel), by decide +kernel, by decide +kernel⟩
theorem ez_hC : ∀ ci, ci < 13 → ez_okC lw_tbl ez_cl0 ez_K0 ez_ty0 ez_nw0 ci := lt_s (lt_s (lt_s (lt_s (lt_s (lt_s (lt_s (lt_s (lt_s (lt_s (lt_s (lt_s (lt_s (lt_0) ez_c0) ez_c1) ez_c2) ez_c3) ez_c4) ez_c5) ez_c6) ez_c7) ez_c8) ez_c9) ez_c10) ez_c11) ez_c12
theorem ez_hg : ∀ w ∈ lw_tbl, goodWord w = true := List.all_eq_true.mp (by decide +kernel)
theorem ez_hmax : Cond.static Lib.Math.max.name ∈ lw_tbl ∧ Cond.initialized "java/lang/Math" ∈ lw_tbl ∧ Cond.code Lib.Math.max.name Lib.Math.max.code 2 (some .int) ∈ lw_tbl := ⟨List.mem_of_getElem? (i := 628) (by decide +kernel), List.mem_of_getElem? (i := 84) (by decide +kernel), List.mem_of_getElem? (i := 629) (by decide +kernel)⟩
theorem ez_hmin : Cond.static Lib.Math.min.name ∈ lw_tbl ∧ Cond.code Lib.Math.min.name Lib.Math.min.code 2 (some .int) ∈ lw_tbl := ⟨List.mem_of_getElem? (i := 631) (by decide +kernel), List.mem_of_getElem? (i := 632) (by decide +kernel)⟩
theorem ez_hobj : Cond.instanceMethod Lib.objectInit ∈ lw_tbl ∧ Cond.code Lib.objectInit ⟨#[0xb1]⟩ 1 none ∈ lw_tbl := ⟨List.mem_of_getElem? (i := 92) (by decide +kernel), List.mem_of_getElem? (i := 93) (by decide +kernel)⟩
