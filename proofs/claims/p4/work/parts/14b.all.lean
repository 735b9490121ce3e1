/-! The checks together. -/
def ez_pi (m : Nat) : Prop := ∀ (pc : Nat) (x : ez_I), ez_P0 m pc = some x → ez_okI ez_tb ez_M0 ez_K0 ez_nM 13 m pc x = true
theorem ez_pi_0 : ∀ a, a < 0 → ez_pi a := lt_0
theorem ez_pi_10 : ∀ a, a < 10 → ez_pi a := lt_s (lt_s (lt_s (lt_s (lt_s (lt_s (lt_s (lt_s (lt_s (lt_s ez_pi_0 ez_i0) ez_i1) ez_i2) ez_i3) ez_i4) ez_i5) ez_i6) ez_i7) ez_i8) ez_i9
theorem ez_pi_20 : ∀ a, a < 20 → ez_pi a := lt_s (lt_s (lt_s (lt_s (lt_s (lt_s (lt_s (lt_s (lt_s (lt_s ez_pi_10 ez_i10) ez_i11) ez_i12) ez_i13) ez_i14) ez_i15) ez_i16) ez_i17) ez_i18) ez_i19
theorem ez_pi_30 : ∀ a, a < 30 → ez_pi a := lt_s (lt_s (lt_s (lt_s (lt_s (lt_s (lt_s (lt_s (lt_s (lt_s ez_pi_20 ez_i20) ez_i21) ez_i22) ez_i23) ez_i24) ez_i25) ez_i26) ez_i27) ez_i28) ez_i29
theorem ez_pi_40 : ∀ a, a < 40 → ez_pi a := lt_s (lt_s (lt_s (lt_s (lt_s (lt_s (lt_s (lt_s (lt_s (lt_s ez_pi_30 ez_i30) ez_i31) ez_i32) ez_i33) ez_i34) ez_i35) ez_i36) ez_i37) ez_i38) ez_i39
theorem ez_pi_50 : ∀ a, a < 50 → ez_pi a := lt_s (lt_s (lt_s (lt_s (lt_s (lt_s (lt_s (lt_s (lt_s (lt_s ez_pi_40 ez_i40) ez_i41) ez_i42) ez_i43) ez_i44) ez_i45) ez_i46) ez_i47) ez_i48) ez_i49
theorem ez_pi_60 : ∀ a, a < 60 → ez_pi a := lt_s (lt_s (lt_s (lt_s (lt_s (lt_s (lt_s (lt_s (lt_s (lt_s ez_pi_50 ez_i50) ez_i51) ez_i52) ez_i53) ez_i54) ez_i55) ez_i56) ez_i57) ez_i58) ez_i59
theorem ez_pi_70 : ∀ a, a < 70 → ez_pi a := lt_s (lt_s (lt_s (lt_s (lt_s (lt_s (lt_s (lt_s (lt_s (lt_s ez_pi_60 ez_i60) ez_i61) ez_i62) ez_i63) ez_i64) ez_i65) ez_i66) ez_i67) ez_i68) ez_i69
theorem ez_pi_80 : ∀ a, a < 80 → ez_pi a := lt_s (lt_s (lt_s (lt_s (lt_s (lt_s (lt_s (lt_s (lt_s (lt_s ez_pi_70 ez_i70) ez_i71) ez_i72) ez_i73) ez_i74) ez_i75) ez_i76) ez_i77) ez_i78) ez_i79
theorem ez_pi_90 : ∀ a, a < 90 → ez_pi a := lt_s (lt_s (lt_s (lt_s (lt_s (lt_s (lt_s (lt_s (lt_s (lt_s ez_pi_80 ez_i80) ez_i81) ez_i82) ez_i83) ez_i84) ez_i85) ez_i86) ez_i87) ez_i88) ez_i89
theorem ez_pi_100 : ∀ a, a < 100 → ez_pi a := lt_s (lt_s (lt_s (lt_s (lt_s (lt_s (lt_s (lt_s (lt_s (lt_s ez_pi_90 ez_i90) ez_i91) ez_i92) ez_i93) ez_i94) ez_i95) ez_i96) ez_i97) ez_i98) ez_i99
theorem ez_pi_110 : ∀ a, a < 110 → ez_pi a := lt_s (lt_s (lt_s (lt_s (lt_s (lt_s (lt_s (lt_s (lt_s (lt_s ez_pi_100 ez_i100) ez_i101) ez_i102) ez_i103) ez_i104) ez_i105) ez_i106) ez_i107) ez_i108) ez_i109
theorem ez_pi_120 : ∀ a, a < 120 → ez_pi a := lt_s (lt_s (lt_s (lt_s (lt_s (lt_s (lt_s (lt_s (lt_s (lt_s ez_pi_110 ez_i110) ez_i111) ez_i112) ez_i113) ez_i114) ez_i115) ez_i116) ez_i117) ez_i118) ez_i119
theorem ez_pi_130 : ∀ a, a < 130 → ez_pi a := lt_s (lt_s (lt_s (lt_s (lt_s (lt_s (lt_s (lt_s (lt_s (lt_s ez_pi_120 ez_i120) ez_i121) ez_i122) ez_i123) ez_i124) ez_i125) ez_i126) ez_i127) ez_i128) ez_i129
theorem ez_pi_140 : ∀ a, a < 140 → ez_pi a := lt_s (lt_s (lt_s (lt_s (lt_s (lt_s (lt_s (lt_s (lt_s (lt_s ez_pi_130 ez_i130) ez_i131) ez_i132) ez_i133) ez_i134) ez_i135) ez_i136) ez_i137) ez_i138) ez_i139
theorem ez_pi_150 : ∀ a, a < 150 → ez_pi a := lt_s (lt_s (lt_s (lt_s (lt_s (lt_s (lt_s (lt_s (lt_s (lt_s ez_pi_140 ez_i140) ez_i141) ez_i142) ez_i143) ez_i144) ez_i145) ez_i146) ez_i147) ez_i148) ez_i149
theorem ez_pi_160 : ∀ a, a < 160 → ez_pi a := lt_s (lt_s (lt_s (lt_s (lt_s (lt_s (lt_s (lt_s (lt_s (lt_s ez_pi_150 ez_i150) ez_i151) ez_i152) ez_i153) ez_i154) ez_i155) ez_i156) ez_i157) ez_i158) ez_i159
theorem ez_pi_170 : ∀ a, a < 170 → ez_pi a := lt_s (lt_s (lt_s (lt_s (lt_s (lt_s (lt_s (lt_s (lt_s (lt_s ez_pi_160 ez_i160) ez_i161) ez_i162) ez_i163) ez_i164) ez_i165) ez_i166) ez_i167) ez_i168) ez_i169
theorem ez_pi_180 : ∀ a, a < 180 → ez_pi a := lt_s (lt_s (lt_s (lt_s (lt_s (lt_s (lt_s (lt_s (lt_s (lt_s ez_pi_170 ez_i170) ez_i171) ez_i172) ez_i173) ez_i174) ez_i175) ez_i176) ez_i177) ez_i178) ez_i179
theorem ez_pi_190 : ∀ a, a < 190 → ez_pi a := lt_s (lt_s (lt_s (lt_s (lt_s (lt_s (lt_s (lt_s (lt_s (lt_s ez_pi_180 ez_i180) ez_i181) ez_i182) ez_i183) ez_i184) ez_i185) ez_i186) ez_i187) ez_i188) ez_i189
theorem ez_pi_200 : ∀ a, a < 200 → ez_pi a := lt_s (lt_s (lt_s (lt_s (lt_s (lt_s (lt_s (lt_s (lt_s (lt_s ez_pi_190 ez_i190) ez_i191) ez_i192) ez_i193) ez_i194) ez_i195) ez_i196) ez_i197) ez_i198) ez_i199
theorem ez_pi_210 : ∀ a, a < 210 → ez_pi a := lt_s (lt_s (lt_s (lt_s (lt_s (lt_s (lt_s (lt_s (lt_s (lt_s ez_pi_200 ez_i200) ez_i201) ez_i202) ez_i203) ez_i204) ez_i205) ez_i206) ez_i207) ez_i208) ez_i209
theorem ez_pi_220 : ∀ a, a < 220 → ez_pi a := lt_s (lt_s (lt_s (lt_s (lt_s (lt_s (lt_s (lt_s (lt_s (lt_s ez_pi_210 ez_i210) ez_i211) ez_i212) ez_i213) ez_i214) ez_i215) ez_i216) ez_i217) ez_i218) ez_i219
theorem ez_pi_230 : ∀ a, a < 230 → ez_pi a := lt_s (lt_s (lt_s (lt_s (lt_s (lt_s (lt_s (lt_s (lt_s (lt_s ez_pi_220 ez_i220) ez_i221) ez_i222) ez_i223) ez_i224) ez_i225) ez_i226) ez_i227) ez_i228) ez_i229
theorem ez_pi_240 : ∀ a, a < 240 → ez_pi a := lt_s (lt_s (lt_s (lt_s (lt_s (lt_s (lt_s (lt_s (lt_s (lt_s ez_pi_230 ez_i230) ez_i231) ez_i232) ez_i233) ez_i234) ez_i235) ez_i236) ez_i237) ez_i238) ez_i239
theorem ez_pi_242 : ∀ a, a < 242 → ez_pi a := lt_s (lt_s ez_pi_240 ez_i240) ez_i241
theorem ez_hI : ∀ m, m ≤ ez_nM → ez_pi m := fun m hm => ez_pi_242 m (Nat.lt_succ_of_le hm)
theorem ez_gh0 : ∀ b ∈ [ez_okH ez_tb ez_M0 0 90 70 89 0, ez_okH ez_tb ez_M0 1 683 70 681 682, ez_okH ez_tb ez_M0 2 497 70 496 2, ez_okH ez_tb ez_M0 3 548 70 547 0, ez_okH ez_tb ez_M0 4 551 70 550 0, ez_okH ez_tb ez_M0 5 709 70 707 708, ez_okH ez_tb ez_M0 6 861 70 859 860, ez_okH ez_tb ez_M0 7 876 70 874 875, ez_okH ez_tb ez_M0 8 1001 70 999 1000, ez_okH ez_tb ez_M0 9 1011 70 1009 1010, ez_okH ez_tb ez_M0 10 664 70 662 663, ez_okH ez_tb ez_M0 11 963 70 961 962, ez_okH ez_tb ez_M0 12 490 70 489 1, ez_okH ez_tb ez_M0 13 1089 70 1087 1088, ez_okH ez_tb ez_M0 14 1045 70 1043 1044, ez_okH ez_tb ez_M0 15 906 70 905 22, ez_okH ez_tb ez_M0 16 573 70 571 572, ez_okH ez_tb ez_M0 17 1075 70 1073 1074, ez_okH ez_tb ez_M0 18 463 70 461 462, ez_okH ez_tb ez_M0 19 618 70 617 0, ez_okH ez_tb ez_M0 20 975 70 973 974, ez_okH ez_tb ez_M0 21 686 70 685 13, ez_okH ez_tb ez_M0 22 667 70 666 11, ez_okH ez_tb ez_M0 23 652 70 651 10, ez_okH ez_tb ez_M0 24 1048 70 1047 31, ez_okH ez_tb ez_M0 25 584 70 583 6, ez_okH ez_tb ez_M0 26 649 70 647 648, ez_okH ez_tb ez_M0 27 602 70 600 601, ez_okH ez_tb ez_M0 28 479 70 478 0, ez_okH ez_tb ez_M0 29 764 70 762 763, ez_okH ez_tb ez_M0 30 767 70 766 17, ez_okH ez_tb ez_M0 31 755 70 753 754, ez_okH ez_tb ez_M0 32 704 70 702 703, ez_okH ez_tb ez_M0 33 1115 70 1113 1114, ez_okH ez_tb ez_M0 34 903 70 901 902, ez_okH ez_tb ez_M0 35 670 70 669 12, ez_okH ez_tb ez_M0 36 790 70 789 0, ez_okH ez_tb ez_M0 37 853 70 851 852, ez_okH ez_tb ez_M0 38 102 70 101 0, ez_okH ez_tb ez_M0 39 554 70 553 0], b = true := by decide +kernel
theorem ez_h0 : ez_mok ez_tb ez_M0 0 := ez_mok_of (w1 := 90) (w2 := 70) (w3 := 89) (w4 := 0) (ez_gh0 _ (List.mem_of_getElem? (i := 0) rfl))
theorem ez_h1 : ez_mok ez_tb ez_M0 1 := ez_mok_of (w1 := 683) (w2 := 70) (w3 := 681) (w4 := 682) (ez_gh0 _ (List.mem_of_getElem? (i := 1) rfl))
theorem ez_h2 : ez_mok ez_tb ez_M0 2 := ez_mok_of (w1 := 497) (w2 := 70) (w3 := 496) (w4 := 2) (ez_gh0 _ (List.mem_of_getElem? (i := 2) rfl))
theorem ez_h3 : ez_mok ez_tb ez_M0 3 := ez_mok_of (w1 := 548) (w2 := 70) (w3 := 547) (w4 := 0) (ez_gh0 _ (List.mem_of_getElem? (i := 3) rfl))
theorem ez_h4 : ez_mok ez_tb ez_M0 4 := ez_mok_of (w1 := 551) (w2 := 70) (w3 := 550) (w4 := 0) (ez_gh0 _ (List.mem_of_getElem? (i := 4) rfl))
theorem ez_h5 : ez_mok ez_tb ez_M0 5 := ez_mok_of (w1 := 709) (w2 := 70) (w3 := 707) (w4 := 708) (ez_gh0 _ (List.mem_of_getElem? (i := 5) rfl))
theorem ez_h6 : ez_mok ez_tb ez_M0 6 := ez_mok_of (w1 := 861) (w2 := 70) (w3 := 859) (w4 := 860) (ez_gh0 _ (List.mem_of_getElem? (i := 6) rfl))
theorem ez_h7 : ez_mok ez_tb ez_M0 7 := ez_mok_of (w1 := 876) (w2 := 70) (w3 := 874) (w4 := 875) (ez_gh0 _ (List.mem_of_getElem? (i := 7) rfl))
theorem ez_h8 : ez_mok ez_tb ez_M0 8 := ez_mok_of (w1 := 1001) (w2 := 70) (w3 := 999) (w4 := 1000) (ez_gh0 _ (List.mem_of_getElem? (i := 8) rfl))
theorem ez_h9 : ez_mok ez_tb ez_M0 9 := ez_mok_of (w1 := 1011) (w2 := 70) (w3 := 1009) (w4 := 1010) (ez_gh0 _ (List.mem_of_getElem? (i := 9) rfl))
theorem ez_h10 : ez_mok ez_tb ez_M0 10 := ez_mok_of (w1 := 664) (w2 := 70) (w3 := 662) (w4 := 663) (ez_gh0 _ (List.mem_of_getElem? (i := 10) rfl))
theorem ez_h11 : ez_mok ez_tb ez_M0 11 := ez_mok_of (w1 := 963) (w2 := 70) (w3 := 961) (w4 := 962) (ez_gh0 _ (List.mem_of_getElem? (i := 11) rfl))
theorem ez_h12 : ez_mok ez_tb ez_M0 12 := ez_mok_of (w1 := 490) (w2 := 70) (w3 := 489) (w4 := 1) (ez_gh0 _ (List.mem_of_getElem? (i := 12) rfl))
theorem ez_h13 : ez_mok ez_tb ez_M0 13 := ez_mok_of (w1 := 1089) (w2 := 70) (w3 := 1087) (w4 := 1088) (ez_gh0 _ (List.mem_of_getElem? (i := 13) rfl))
theorem ez_h14 : ez_mok ez_tb ez_M0 14 := ez_mok_of (w1 := 1045) (w2 := 70) (w3 := 1043) (w4 := 1044) (ez_gh0 _ (List.mem_of_getElem? (i := 14) rfl))
theorem ez_h15 : ez_mok ez_tb ez_M0 15 := ez_mok_of (w1 := 906) (w2 := 70) (w3 := 905) (w4 := 22) (ez_gh0 _ (List.mem_of_getElem? (i := 15) rfl))
theorem ez_h16 : ez_mok ez_tb ez_M0 16 := ez_mok_of (w1 := 573) (w2 := 70) (w3 := 571) (w4 := 572) (ez_gh0 _ (List.mem_of_getElem? (i := 16) rfl))
theorem ez_h17 : ez_mok ez_tb ez_M0 17 := ez_mok_of (w1 := 1075) (w2 := 70) (w3 := 1073) (w4 := 1074) (ez_gh0 _ (List.mem_of_getElem? (i := 17) rfl))
theorem ez_h18 : ez_mok ez_tb ez_M0 18 := ez_mok_of (w1 := 463) (w2 := 70) (w3 := 461) (w4 := 462) (ez_gh0 _ (List.mem_of_getElem? (i := 18) rfl))
theorem ez_h19 : ez_mok ez_tb ez_M0 19 := ez_mok_of (w1 := 618) (w2 := 70) (w3 := 617) (w4 := 0) (ez_gh0 _ (List.mem_of_getElem? (i := 19) rfl))
theorem ez_h20 : ez_mok ez_tb ez_M0 20 := ez_mok_of (w1 := 975) (w2 := 70) (w3 := 973) (w4 := 974) (ez_gh0 _ (List.mem_of_getElem? (i := 20) rfl))
theorem ez_h21 : ez_mok ez_tb ez_M0 21 := ez_mok_of (w1 := 686) (w2 := 70) (w3 := 685) (w4 := 13) (ez_gh0 _ (List.mem_of_getElem? (i := 21) rfl))
theorem ez_h22 : ez_mok ez_tb ez_M0 22 := ez_mok_of (w1 := 667) (w2 := 70) (w3 := 666) (w4 := 11) (ez_gh0 _ (List.mem_of_getElem? (i := 22) rfl))
theorem ez_h23 : ez_mok ez_tb ez_M0 23 := ez_mok_of (w1 := 652) (w2 := 70) (w3 := 651) (w4 := 10) (ez_gh0 _ (List.mem_of_getElem? (i := 23) rfl))
theorem ez_h24 : ez_mok ez_tb ez_M0 24 := ez_mok_of (w1 := 1048) (w2 := 70) (w3 := 1047) (w4 := 31) (ez_gh0 _ (List.mem_of_getElem? (i := 24) rfl))
theorem ez_h25 : ez_mok ez_tb ez_M0 25 := ez_mok_of (w1 := 584) (w2 := 70) (w3 := 583) (w4 := 6) (ez_gh0 _ (List.mem_of_getElem? (i := 25) rfl))
theorem ez_h26 : ez_mok ez_tb ez_M0 26 := ez_mok_of (w1 := 649) (w2 := 70) (w3 := 647) (w4 := 648) (ez_gh0 _ (List.mem_of_getElem? (i := 26) rfl))
theorem ez_h27 : ez_mok ez_tb ez_M0 27 := ez_mok_of (w1 := 602) (w2 := 70) (w3 := 600) (w4 := 601) (ez_gh0 _ (List.mem_of_getElem? (i := 27) rfl))
theorem ez_h28 : ez_mok ez_tb ez_M0 28 := ez_mok_of (w1 := 479) (w2 := 70) (w3 := 478) (w4 := 0) (ez_gh0 _ (List.mem_of_getElem? (i := 28) rfl))
theorem ez_h29 : ez_mok ez_tb ez_M0 29 := ez_mok_of (w1 := 764) (w2 := 70) (w3 := 762) (w4 := 763) (ez_gh0 _ (List.mem_of_getElem? (i := 29) rfl))
theorem ez_h30 : ez_mok ez_tb ez_M0 30 := ez_mok_of (w1 := 767) (w2 := 70) (w3 := 766) (w4 := 17) (ez_gh0 _ (List.mem_of_getElem? (i := 30) rfl))
theorem ez_h31 : ez_mok ez_tb ez_M0 31 := ez_mok_of (w1 := 755) (w2 := 70) (w3 := 753) (w4 := 754) (ez_gh0 _ (List.mem_of_getElem? (i := 31) rfl))
theorem ez_h32 : ez_mok ez_tb ez_M0 32 := ez_mok_of (w1 := 704) (w2 := 70) (w3 := 702) (w4 := 703) (ez_gh0 _ (List.mem_of_getElem? (i := 32) rfl))
theorem ez_h33 : ez_mok ez_tb ez_M0 33 := ez_mok_of (w1 := 1115) (w2 := 70) (w3 := 1113) (w4 := 1114) (ez_gh0 _ (List.mem_of_getElem? (i := 33) rfl))
theorem ez_h34 : ez_mok ez_tb ez_M0 34 := ez_mok_of (w1 := 903) (w2 := 70) (w3 := 901) (w4 := 902) (ez_gh0 _ (List.mem_of_getElem? (i := 34) rfl))
theorem ez_h35 : ez_mok ez_tb ez_M0 35 := ez_mok_of (w1 := 670) (w2 := 70) (w3 := 669) (w4 := 12) (ez_gh0 _ (List.mem_of_getElem? (i := 35) rfl))
theorem ez_h36 : ez_mok ez_tb ez_M0 36 := ez_mok_of (w1 := 790) (w2 := 70) (w3 := 789) (w4 := 0) (ez_gh0 _ (List.mem_of_getElem? (i := 36) rfl))
theorem ez_h37 : ez_mok ez_tb ez_M0 37 := ez_mok_of (w1 := 853) (w2 := 70) (w3 := 851) (w4 := 852) (ez_gh0 _ (List.mem_of_getElem? (i := 37) rfl))
theorem ez_h38 : ez_mok ez_tb ez_M0 38 := ez_mok_of (w1 := 102) (w2 := 70) (w3 := 101) (w4 := 0) (ez_gh0 _ (List.mem_of_getElem? (i := 38) rfl))
theorem ez_h39 : ez_mok ez_tb ez_M0 39 := ez_mok_of (w1 := 554) (w2 := 70) (w3 := 553) (w4 := 0) (ez_gh0 _ (List.mem_of_getElem? (i := 39) rfl))
theorem ez_gh1 : ∀ b ∈ [ez_okH ez_tb ez_M0 40 1061 70 1059 1060, ez_okH ez_tb ez_M0 41 679 70 677 678, ez_okH ez_tb ez_M0 42 564 70 562 563, ez_okH ez_tb ez_M0 43 509 70 507 508, ez_okH ez_tb ez_M0 44 592 70 590 591, ez_okH ez_tb ez_M0 45 660 70 659 0, ez_okH ez_tb ez_M0 46 581 70 579 580, ez_okH ez_tb ez_M0 47 987 70 985 986, ez_okH ez_tb ez_M0 48 845 70 843 844, ez_okH ez_tb ez_M0 49 950 70 949 0, ez_okH ez_tb ez_M0 50 1019 70 1017 1018, ez_okH ez_tb ez_M0 51 837 70 835 836, ez_okH ez_tb ez_M0 52 605 70 604 7, ez_okH ez_tb ez_M0 53 717 70 715 716, ez_okH ez_tb ez_M0 54 829 70 827 828, ez_okH ez_tb ez_M0 55 466 70 465 0, ez_okH ez_tb ez_M0 56 337 79 336 0, ez_okH ez_tb ez_M0 57 979 79 977 978, ez_okH ez_tb ez_M0 58 947 79 946 28, ez_okH ez_tb ez_M0 59 955 79 954 29, ez_okH ez_tb ez_M0 60 971 79 969 970, ez_okH ez_tb ez_M0 61 924 79 923 25, ez_okH ez_tb ez_M0 62 487 79 485 486, ez_okH ez_tb ez_M0 63 944 79 943 27, ez_okH ez_tb ez_M0 64 983 79 981 982, ez_okH ez_tb ez_M0 65 959 79 957 958, ez_okH ez_tb ez_M0 66 913 79 912 23, ez_okH ez_tb ez_M0 67 910 79 908 909, ez_okH ez_tb ez_M0 68 933 79 932 26, ez_okH ez_tb ez_M0 69 920 79 919 24, ez_okH ez_tb ez_M0 70 967 79 965 966, ez_okH ez_tb ez_M0 71 409 81 408 0, ez_okH ez_tb ez_M0 72 414 81 412 413, ez_okH ez_tb ez_M0 73 1066 81 1064 1065, ez_okH ez_tb ez_M0 74 1093 81 1091 1092, ez_okH ez_tb ez_M0 75 1083 81 1082 32, ez_okH ez_tb ez_M0 76 1079 81 1077 1078, ez_okH ez_tb ez_M0 77 1102 81 1101 35, ez_okH ez_tb ez_M0 78 1110 81 1109 37, ez_okH ez_tb ez_M0 79 1096 81 1095 33], b = true := by decide +kernel
theorem ez_h40 : ez_mok ez_tb ez_M0 40 := ez_mok_of (w1 := 1061) (w2 := 70) (w3 := 1059) (w4 := 1060) (ez_gh1 _ (List.mem_of_getElem? (i := 0) rfl))
theorem ez_h41 : ez_mok ez_tb ez_M0 41 := ez_mok_of (w1 := 679) (w2 := 70) (w3 := 677) (w4 := 678) (ez_gh1 _ (List.mem_of_getElem? (i := 1) rfl))
theorem ez_h42 : ez_mok ez_tb ez_M0 42 := ez_mok_of (w1 := 564) (w2 := 70) (w3 := 562) (w4 := 563) (ez_gh1 _ (List.mem_of_getElem? (i := 2) rfl))
theorem ez_h43 : ez_mok ez_tb ez_M0 43 := ez_mok_of (w1 := 509) (w2 := 70) (w3 := 507) (w4 := 508) (ez_gh1 _ (List.mem_of_getElem? (i := 3) rfl))
theorem ez_h44 : ez_mok ez_tb ez_M0 44 := ez_mok_of (w1 := 592) (w2 := 70) (w3 := 590) (w4 := 591) (ez_gh1 _ (List.mem_of_getElem? (i := 4) rfl))
theorem ez_h45 : ez_mok ez_tb ez_M0 45 := ez_mok_of (w1 := 660) (w2 := 70) (w3 := 659) (w4 := 0) (ez_gh1 _ (List.mem_of_getElem? (i := 5) rfl))
theorem ez_h46 : ez_mok ez_tb ez_M0 46 := ez_mok_of (w1 := 581) (w2 := 70) (w3 := 579) (w4 := 580) (ez_gh1 _ (List.mem_of_getElem? (i := 6) rfl))
theorem ez_h47 : ez_mok ez_tb ez_M0 47 := ez_mok_of (w1 := 987) (w2 := 70) (w3 := 985) (w4 := 986) (ez_gh1 _ (List.mem_of_getElem? (i := 7) rfl))
theorem ez_h48 : ez_mok ez_tb ez_M0 48 := ez_mok_of (w1 := 845) (w2 := 70) (w3 := 843) (w4 := 844) (ez_gh1 _ (List.mem_of_getElem? (i := 8) rfl))
theorem ez_h49 : ez_mok ez_tb ez_M0 49 := ez_mok_of (w1 := 950) (w2 := 70) (w3 := 949) (w4 := 0) (ez_gh1 _ (List.mem_of_getElem? (i := 9) rfl))
theorem ez_h50 : ez_mok ez_tb ez_M0 50 := ez_mok_of (w1 := 1019) (w2 := 70) (w3 := 1017) (w4 := 1018) (ez_gh1 _ (List.mem_of_getElem? (i := 10) rfl))
theorem ez_h51 : ez_mok ez_tb ez_M0 51 := ez_mok_of (w1 := 837) (w2 := 70) (w3 := 835) (w4 := 836) (ez_gh1 _ (List.mem_of_getElem? (i := 11) rfl))
theorem ez_h52 : ez_mok ez_tb ez_M0 52 := ez_mok_of (w1 := 605) (w2 := 70) (w3 := 604) (w4 := 7) (ez_gh1 _ (List.mem_of_getElem? (i := 12) rfl))
theorem ez_h53 : ez_mok ez_tb ez_M0 53 := ez_mok_of (w1 := 717) (w2 := 70) (w3 := 715) (w4 := 716) (ez_gh1 _ (List.mem_of_getElem? (i := 13) rfl))
theorem ez_h54 : ez_mok ez_tb ez_M0 54 := ez_mok_of (w1 := 829) (w2 := 70) (w3 := 827) (w4 := 828) (ez_gh1 _ (List.mem_of_getElem? (i := 14) rfl))
theorem ez_h55 : ez_mok ez_tb ez_M0 55 := ez_mok_of (w1 := 466) (w2 := 70) (w3 := 465) (w4 := 0) (ez_gh1 _ (List.mem_of_getElem? (i := 15) rfl))
theorem ez_h56 : ez_mok ez_tb ez_M0 56 := ez_mok_of (w1 := 337) (w2 := 79) (w3 := 336) (w4 := 0) (ez_gh1 _ (List.mem_of_getElem? (i := 16) rfl))
theorem ez_h57 : ez_mok ez_tb ez_M0 57 := ez_mok_of (w1 := 979) (w2 := 79) (w3 := 977) (w4 := 978) (ez_gh1 _ (List.mem_of_getElem? (i := 17) rfl))
theorem ez_h58 : ez_mok ez_tb ez_M0 58 := ez_mok_of (w1 := 947) (w2 := 79) (w3 := 946) (w4 := 28) (ez_gh1 _ (List.mem_of_getElem? (i := 18) rfl))
theorem ez_h59 : ez_mok ez_tb ez_M0 59 := ez_mok_of (w1 := 955) (w2 := 79) (w3 := 954) (w4 := 29) (ez_gh1 _ (List.mem_of_getElem? (i := 19) rfl))
theorem ez_h60 : ez_mok ez_tb ez_M0 60 := ez_mok_of (w1 := 971) (w2 := 79) (w3 := 969) (w4 := 970) (ez_gh1 _ (List.mem_of_getElem? (i := 20) rfl))
theorem ez_h61 : ez_mok ez_tb ez_M0 61 := ez_mok_of (w1 := 924) (w2 := 79) (w3 := 923) (w4 := 25) (ez_gh1 _ (List.mem_of_getElem? (i := 21) rfl))
theorem ez_h62 : ez_mok ez_tb ez_M0 62 := ez_mok_of (w1 := 487) (w2 := 79) (w3 := 485) (w4 := 486) (ez_gh1 _ (List.mem_of_getElem? (i := 22) rfl))
theorem ez_h63 : ez_mok ez_tb ez_M0 63 := ez_mok_of (w1 := 944) (w2 := 79) (w3 := 943) (w4 := 27) (ez_gh1 _ (List.mem_of_getElem? (i := 23) rfl))
theorem ez_h64 : ez_mok ez_tb ez_M0 64 := ez_mok_of (w1 := 983) (w2 := 79) (w3 := 981) (w4 := 982) (ez_gh1 _ (List.mem_of_getElem? (i := 24) rfl))
theorem ez_h65 : ez_mok ez_tb ez_M0 65 := ez_mok_of (w1 := 959) (w2 := 79) (w3 := 957) (w4 := 958) (ez_gh1 _ (List.mem_of_getElem? (i := 25) rfl))
theorem ez_h66 : ez_mok ez_tb ez_M0 66 := ez_mok_of (w1 := 913) (w2 := 79) (w3 := 912) (w4 := 23) (ez_gh1 _ (List.mem_of_getElem? (i := 26) rfl))
theorem ez_h67 : ez_mok ez_tb ez_M0 67 := ez_mok_of (w1 := 910) (w2 := 79) (w3 := 908) (w4 := 909) (ez_gh1 _ (List.mem_of_getElem? (i := 27) rfl))
theorem ez_h68 : ez_mok ez_tb ez_M0 68 := ez_mok_of (w1 := 933) (w2 := 79) (w3 := 932) (w4 := 26) (ez_gh1 _ (List.mem_of_getElem? (i := 28) rfl))
theorem ez_h69 : ez_mok ez_tb ez_M0 69 := ez_mok_of (w1 := 920) (w2 := 79) (w3 := 919) (w4 := 24) (ez_gh1 _ (List.mem_of_getElem? (i := 29) rfl))
theorem ez_h70 : ez_mok ez_tb ez_M0 70 := ez_mok_of (w1 := 967) (w2 := 79) (w3 := 965) (w4 := 966) (ez_gh1 _ (List.mem_of_getElem? (i := 30) rfl))
theorem ez_h71 : ez_mok ez_tb ez_M0 71 := ez_mok_of (w1 := 409) (w2 := 81) (w3 := 408) (w4 := 0) (ez_gh1 _ (List.mem_of_getElem? (i := 31) rfl))
theorem ez_h72 : ez_mok ez_tb ez_M0 72 := ez_mok_of (w1 := 414) (w2 := 81) (w3 := 412) (w4 := 413) (ez_gh1 _ (List.mem_of_getElem? (i := 32) rfl))
theorem ez_h73 : ez_mok ez_tb ez_M0 73 := ez_mok_of (w1 := 1066) (w2 := 81) (w3 := 1064) (w4 := 1065) (ez_gh1 _ (List.mem_of_getElem? (i := 33) rfl))
theorem ez_h74 : ez_mok ez_tb ez_M0 74 := ez_mok_of (w1 := 1093) (w2 := 81) (w3 := 1091) (w4 := 1092) (ez_gh1 _ (List.mem_of_getElem? (i := 34) rfl))
theorem ez_h75 : ez_mok ez_tb ez_M0 75 := ez_mok_of (w1 := 1083) (w2 := 81) (w3 := 1082) (w4 := 32) (ez_gh1 _ (List.mem_of_getElem? (i := 35) rfl))
theorem ez_h76 : ez_mok ez_tb ez_M0 76 := ez_mok_of (w1 := 1079) (w2 := 81) (w3 := 1077) (w4 := 1078) (ez_gh1 _ (List.mem_of_getElem? (i := 36) rfl))
theorem ez_h77 : ez_mok ez_tb ez_M0 77 := ez_mok_of (w1 := 1102) (w2 := 81) (w3 := 1101) (w4 := 35) (ez_gh1 _ (List.mem_of_getElem? (i := 37) rfl))
theorem ez_h78 : ez_mok ez_tb ez_M0 78 := ez_mok_of (w1 := 1110) (w2 := 81) (w3 := 1109) (w4 := 37) (ez_gh1 _ (List.mem_of_getElem? (i := 38) rfl))
theorem ez_h79 : ez_mok ez_tb ez_M0 79 := ez_mok_of (w1 := 1096) (w2 := 81) (w3 := 1095) (w4 := 33) (ez_gh1 _ (List.mem_of_getElem? (i := 39) rfl))
theorem ez_gh2 : ∀ b ∈ [ez_okH ez_tb ez_M0 80 1107 81 1106 36, ez_okH ez_tb ez_M0 81 1056 81 1054 1055, ez_okH ez_tb ez_M0 82 1119 81 1117 1118, ez_okH ez_tb ez_M0 83 1099 81 1098 34, ez_okH ez_tb ez_M0 84 150 72 149 0, ez_okH ez_tb ez_M0 85 520 72 518 519, ez_okH ez_tb ez_M0 86 597 72 595 596, ez_okH ez_tb ez_M0 87 726 72 724 725, ez_okH ez_tb ez_M0 88 471 72 469 470, ez_okH ez_tb ez_M0 89 609 72 607 608, ez_okH ez_tb ez_M0 90 560 72 559 0, ez_okH ez_tb ez_M0 91 545 72 544 5, ez_okH ez_tb ez_M0 92 524 72 523 3, ez_okH ez_tb ez_M0 93 557 72 556 0, ez_okH ez_tb ez_M0 94 588 72 586 587, ez_okH ez_tb ez_M0 95 382 80 381 0, ez_okH ez_tb ez_M0 96 1040 80 1039 30, ez_okH ez_tb ez_M0 97 994 80 993 0, ez_okH ez_tb ez_M0 98 991 80 989 990, ez_okH ez_tb ez_M0 99 1031 80 1030 0, ez_okH ez_tb ez_M0 100 1005 80 1003 1004, ez_okH ez_tb ez_M0 101 1028 80 1026 1027, ez_okH ez_tb ez_M0 102 1023 80 1021 1022, ez_okH ez_tb ez_M0 103 1015 80 1013 1014, ez_okH ez_tb ez_M0 104 250 76 249 0, ez_okH ez_tb ez_M0 105 795 76 793 794, ez_okH ez_tb ez_M0 106 494 76 492 493, ez_okH ez_tb ez_M0 107 501 76 499 500, ez_okH ez_tb ez_M0 108 774 76 773 18, ez_okH ez_tb ez_M0 109 804 76 802 803, ez_okH ez_tb ez_M0 110 833 76 831 832, ez_okH ez_tb ez_M0 111 888 76 886 887, ez_okH ez_tb ez_M0 112 771 76 769 770, ez_okH ez_tb ez_M0 113 808 76 806 807, ez_okH ez_tb ez_M0 114 306 78 305 0, ez_okH ez_tb ez_M0 115 883 78 882 19, ez_okH ez_tb ez_M0 116 891 78 890 20, ez_okH ez_tb ez_M0 117 505 78 503 504, ez_okH ez_tb ez_M0 118 897 78 896 21, ez_okH ez_tb ez_M0 119 880 78 878 879], b = true := by decide +kernel
theorem ez_h80 : ez_mok ez_tb ez_M0 80 := ez_mok_of (w1 := 1107) (w2 := 81) (w3 := 1106) (w4 := 36) (ez_gh2 _ (List.mem_of_getElem? (i := 0) rfl))
theorem ez_h81 : ez_mok ez_tb ez_M0 81 := ez_mok_of (w1 := 1056) (w2 := 81) (w3 := 1054) (w4 := 1055) (ez_gh2 _ (List.mem_of_getElem? (i := 1) rfl))
theorem ez_h82 : ez_mok ez_tb ez_M0 82 := ez_mok_of (w1 := 1119) (w2 := 81) (w3 := 1117) (w4 := 1118) (ez_gh2 _ (List.mem_of_getElem? (i := 2) rfl))
theorem ez_h83 : ez_mok ez_tb ez_M0 83 := ez_mok_of (w1 := 1099) (w2 := 81) (w3 := 1098) (w4 := 34) (ez_gh2 _ (List.mem_of_getElem? (i := 3) rfl))
theorem ez_h84 : ez_mok ez_tb ez_M0 84 := ez_mok_of (w1 := 150) (w2 := 72) (w3 := 149) (w4 := 0) (ez_gh2 _ (List.mem_of_getElem? (i := 4) rfl))
theorem ez_h85 : ez_mok ez_tb ez_M0 85 := ez_mok_of (w1 := 520) (w2 := 72) (w3 := 518) (w4 := 519) (ez_gh2 _ (List.mem_of_getElem? (i := 5) rfl))
theorem ez_h86 : ez_mok ez_tb ez_M0 86 := ez_mok_of (w1 := 597) (w2 := 72) (w3 := 595) (w4 := 596) (ez_gh2 _ (List.mem_of_getElem? (i := 6) rfl))
theorem ez_h87 : ez_mok ez_tb ez_M0 87 := ez_mok_of (w1 := 726) (w2 := 72) (w3 := 724) (w4 := 725) (ez_gh2 _ (List.mem_of_getElem? (i := 7) rfl))
theorem ez_h88 : ez_mok ez_tb ez_M0 88 := ez_mok_of (w1 := 471) (w2 := 72) (w3 := 469) (w4 := 470) (ez_gh2 _ (List.mem_of_getElem? (i := 8) rfl))
theorem ez_h89 : ez_mok ez_tb ez_M0 89 := ez_mok_of (w1 := 609) (w2 := 72) (w3 := 607) (w4 := 608) (ez_gh2 _ (List.mem_of_getElem? (i := 9) rfl))
theorem ez_h90 : ez_mok ez_tb ez_M0 90 := ez_mok_of (w1 := 560) (w2 := 72) (w3 := 559) (w4 := 0) (ez_gh2 _ (List.mem_of_getElem? (i := 10) rfl))
theorem ez_h91 : ez_mok ez_tb ez_M0 91 := ez_mok_of (w1 := 545) (w2 := 72) (w3 := 544) (w4 := 5) (ez_gh2 _ (List.mem_of_getElem? (i := 11) rfl))
theorem ez_h92 : ez_mok ez_tb ez_M0 92 := ez_mok_of (w1 := 524) (w2 := 72) (w3 := 523) (w4 := 3) (ez_gh2 _ (List.mem_of_getElem? (i := 12) rfl))
theorem ez_h93 : ez_mok ez_tb ez_M0 93 := ez_mok_of (w1 := 557) (w2 := 72) (w3 := 556) (w4 := 0) (ez_gh2 _ (List.mem_of_getElem? (i := 13) rfl))
theorem ez_h94 : ez_mok ez_tb ez_M0 94 := ez_mok_of (w1 := 588) (w2 := 72) (w3 := 586) (w4 := 587) (ez_gh2 _ (List.mem_of_getElem? (i := 14) rfl))
theorem ez_h95 : ez_mok ez_tb ez_M0 95 := ez_mok_of (w1 := 382) (w2 := 80) (w3 := 381) (w4 := 0) (ez_gh2 _ (List.mem_of_getElem? (i := 15) rfl))
theorem ez_h96 : ez_mok ez_tb ez_M0 96 := ez_mok_of (w1 := 1040) (w2 := 80) (w3 := 1039) (w4 := 30) (ez_gh2 _ (List.mem_of_getElem? (i := 16) rfl))
theorem ez_h97 : ez_mok ez_tb ez_M0 97 := ez_mok_of (w1 := 994) (w2 := 80) (w3 := 993) (w4 := 0) (ez_gh2 _ (List.mem_of_getElem? (i := 17) rfl))
theorem ez_h98 : ez_mok ez_tb ez_M0 98 := ez_mok_of (w1 := 991) (w2 := 80) (w3 := 989) (w4 := 990) (ez_gh2 _ (List.mem_of_getElem? (i := 18) rfl))
theorem ez_h99 : ez_mok ez_tb ez_M0 99 := ez_mok_of (w1 := 1031) (w2 := 80) (w3 := 1030) (w4 := 0) (ez_gh2 _ (List.mem_of_getElem? (i := 19) rfl))
theorem ez_h100 : ez_mok ez_tb ez_M0 100 := ez_mok_of (w1 := 1005) (w2 := 80) (w3 := 1003) (w4 := 1004) (ez_gh2 _ (List.mem_of_getElem? (i := 20) rfl))
theorem ez_h101 : ez_mok ez_tb ez_M0 101 := ez_mok_of (w1 := 1028) (w2 := 80) (w3 := 1026) (w4 := 1027) (ez_gh2 _ (List.mem_of_getElem? (i := 21) rfl))
theorem ez_h102 : ez_mok ez_tb ez_M0 102 := ez_mok_of (w1 := 1023) (w2 := 80) (w3 := 1021) (w4 := 1022) (ez_gh2 _ (List.mem_of_getElem? (i := 22) rfl))
theorem ez_h103 : ez_mok ez_tb ez_M0 103 := ez_mok_of (w1 := 1015) (w2 := 80) (w3 := 1013) (w4 := 1014) (ez_gh2 _ (List.mem_of_getElem? (i := 23) rfl))
theorem ez_h104 : ez_mok ez_tb ez_M0 104 := ez_mok_of (w1 := 250) (w2 := 76) (w3 := 249) (w4 := 0) (ez_gh2 _ (List.mem_of_getElem? (i := 24) rfl))
theorem ez_h105 : ez_mok ez_tb ez_M0 105 := ez_mok_of (w1 := 795) (w2 := 76) (w3 := 793) (w4 := 794) (ez_gh2 _ (List.mem_of_getElem? (i := 25) rfl))
theorem ez_h106 : ez_mok ez_tb ez_M0 106 := ez_mok_of (w1 := 494) (w2 := 76) (w3 := 492) (w4 := 493) (ez_gh2 _ (List.mem_of_getElem? (i := 26) rfl))
theorem ez_h107 : ez_mok ez_tb ez_M0 107 := ez_mok_of (w1 := 501) (w2 := 76) (w3 := 499) (w4 := 500) (ez_gh2 _ (List.mem_of_getElem? (i := 27) rfl))
theorem ez_h108 : ez_mok ez_tb ez_M0 108 := ez_mok_of (w1 := 774) (w2 := 76) (w3 := 773) (w4 := 18) (ez_gh2 _ (List.mem_of_getElem? (i := 28) rfl))
theorem ez_h109 : ez_mok ez_tb ez_M0 109 := ez_mok_of (w1 := 804) (w2 := 76) (w3 := 802) (w4 := 803) (ez_gh2 _ (List.mem_of_getElem? (i := 29) rfl))
theorem ez_h110 : ez_mok ez_tb ez_M0 110 := ez_mok_of (w1 := 833) (w2 := 76) (w3 := 831) (w4 := 832) (ez_gh2 _ (List.mem_of_getElem? (i := 30) rfl))
theorem ez_h111 : ez_mok ez_tb ez_M0 111 := ez_mok_of (w1 := 888) (w2 := 76) (w3 := 886) (w4 := 887) (ez_gh2 _ (List.mem_of_getElem? (i := 31) rfl))
theorem ez_h112 : ez_mok ez_tb ez_M0 112 := ez_mok_of (w1 := 771) (w2 := 76) (w3 := 769) (w4 := 770) (ez_gh2 _ (List.mem_of_getElem? (i := 32) rfl))
theorem ez_h113 : ez_mok ez_tb ez_M0 113 := ez_mok_of (w1 := 808) (w2 := 76) (w3 := 806) (w4 := 807) (ez_gh2 _ (List.mem_of_getElem? (i := 33) rfl))
theorem ez_h114 : ez_mok ez_tb ez_M0 114 := ez_mok_of (w1 := 306) (w2 := 78) (w3 := 305) (w4 := 0) (ez_gh2 _ (List.mem_of_getElem? (i := 34) rfl))
theorem ez_h115 : ez_mok ez_tb ez_M0 115 := ez_mok_of (w1 := 883) (w2 := 78) (w3 := 882) (w4 := 19) (ez_gh2 _ (List.mem_of_getElem? (i := 35) rfl))
theorem ez_h116 : ez_mok ez_tb ez_M0 116 := ez_mok_of (w1 := 891) (w2 := 78) (w3 := 890) (w4 := 20) (ez_gh2 _ (List.mem_of_getElem? (i := 36) rfl))
theorem ez_h117 : ez_mok ez_tb ez_M0 117 := ez_mok_of (w1 := 505) (w2 := 78) (w3 := 503) (w4 := 504) (ez_gh2 _ (List.mem_of_getElem? (i := 37) rfl))
theorem ez_h118 : ez_mok ez_tb ez_M0 118 := ez_mok_of (w1 := 897) (w2 := 78) (w3 := 896) (w4 := 21) (ez_gh2 _ (List.mem_of_getElem? (i := 38) rfl))
theorem ez_h119 : ez_mok ez_tb ez_M0 119 := ez_mok_of (w1 := 880) (w2 := 78) (w3 := 878) (w4 := 879) (ez_gh2 _ (List.mem_of_getElem? (i := 39) rfl))
theorem ez_gh3 : ∀ b ∈ [ez_okH ez_tb ez_M0 120 200 74 199 0, ez_okH ez_tb ez_M0 121 674 74 672 673, ez_okH ez_tb ez_M0 122 475 74 473 474, ez_okH ez_tb ez_M0 123 713 74 711 712, ez_okH ez_tb ez_M0 124 732 74 730 731, ez_okH ez_tb ez_M0 125 695 74 693 694, ez_okH ez_tb ez_M0 126 690 74 688 689, ez_okH ez_tb ez_M0 127 699 74 697 698, ez_okH ez_tb ez_M0 128 225 75 224 0, ez_okH ez_tb ez_M0 129 782 75 780 781, ez_okH ez_tb ez_M0 130 736 75 735 14, ez_okH ez_tb ez_M0 131 745 75 744 15, ez_okH ez_tb ez_M0 132 748 75 747 16, ez_okH ez_tb ez_M0 133 760 75 758 759, ez_okH ez_tb ez_M0 134 786 75 784 785, ez_okH ez_tb ez_M0 135 721 75 719 720, ez_okH ez_tb ez_M0 136 172 73 171 0, ez_okH ez_tb ez_M0 137 929 73 927 928, ez_okH ez_tb ez_M0 138 656 73 654 655, ez_okH ez_tb ez_M0 139 483 73 481 482, ez_okH ez_tb ez_M0 140 614 73 612 613, ez_okH ez_tb ez_M0 141 641 73 640 8, ez_okH ez_tb ez_M0 142 644 73 643 9, ez_okH ez_tb ez_M0 143 98 71 97 0, ez_okH ez_tb ez_M0 144 630 71 628 629, ez_okH ez_tb ez_M0 145 106 71 104 105, ez_okH ez_tb ez_M0 146 568 71 566 567, ez_okH ez_tb ez_M0 147 634 71 632 633, ez_okH ez_tb ez_M0 148 638 71 636 637, ez_okH ez_tb ez_M0 149 528 71 526 527, ez_okH ez_tb ez_M0 150 1070 71 1068 1069, ez_okH ez_tb ez_M0 151 1052 71 1050 1051, ez_okH ez_tb ez_M0 152 742 71 740 741, ez_okH ez_tb ez_M0 153 577 71 575 576, ez_okH ez_tb ez_M0 154 531 71 530 4, ez_okH ez_tb ez_M0 155 256 77 255 0, ez_okH ez_tb ez_M0 156 814 77 812 813, ez_okH ez_tb ez_M0 157 865 77 863 864, ez_okH ez_tb ez_M0 158 849 77 847 848, ez_okH ez_tb ez_M0 159 799 77 797 798], b = true := by decide +kernel
theorem ez_h120 : ez_mok ez_tb ez_M0 120 := ez_mok_of (w1 := 200) (w2 := 74) (w3 := 199) (w4 := 0) (ez_gh3 _ (List.mem_of_getElem? (i := 0) rfl))
theorem ez_h121 : ez_mok ez_tb ez_M0 121 := ez_mok_of (w1 := 674) (w2 := 74) (w3 := 672) (w4 := 673) (ez_gh3 _ (List.mem_of_getElem? (i := 1) rfl))
theorem ez_h122 : ez_mok ez_tb ez_M0 122 := ez_mok_of (w1 := 475) (w2 := 74) (w3 := 473) (w4 := 474) (ez_gh3 _ (List.mem_of_getElem? (i := 2) rfl))
theorem ez_h123 : ez_mok ez_tb ez_M0 123 := ez_mok_of (w1 := 713) (w2 := 74) (w3 := 711) (w4 := 712) (ez_gh3 _ (List.mem_of_getElem? (i := 3) rfl))
theorem ez_h124 : ez_mok ez_tb ez_M0 124 := ez_mok_of (w1 := 732) (w2 := 74) (w3 := 730) (w4 := 731) (ez_gh3 _ (List.mem_of_getElem? (i := 4) rfl))
theorem ez_h125 : ez_mok ez_tb ez_M0 125 := ez_mok_of (w1 := 695) (w2 := 74) (w3 := 693) (w4 := 694) (ez_gh3 _ (List.mem_of_getElem? (i := 5) rfl))
theorem ez_h126 : ez_mok ez_tb ez_M0 126 := ez_mok_of (w1 := 690) (w2 := 74) (w3 := 688) (w4 := 689) (ez_gh3 _ (List.mem_of_getElem? (i := 6) rfl))
theorem ez_h127 : ez_mok ez_tb ez_M0 127 := ez_mok_of (w1 := 699) (w2 := 74) (w3 := 697) (w4 := 698) (ez_gh3 _ (List.mem_of_getElem? (i := 7) rfl))
theorem ez_h128 : ez_mok ez_tb ez_M0 128 := ez_mok_of (w1 := 225) (w2 := 75) (w3 := 224) (w4 := 0) (ez_gh3 _ (List.mem_of_getElem? (i := 8) rfl))
theorem ez_h129 : ez_mok ez_tb ez_M0 129 := ez_mok_of (w1 := 782) (w2 := 75) (w3 := 780) (w4 := 781) (ez_gh3 _ (List.mem_of_getElem? (i := 9) rfl))
theorem ez_h130 : ez_mok ez_tb ez_M0 130 := ez_mok_of (w1 := 736) (w2 := 75) (w3 := 735) (w4 := 14) (ez_gh3 _ (List.mem_of_getElem? (i := 10) rfl))
theorem ez_h131 : ez_mok ez_tb ez_M0 131 := ez_mok_of (w1 := 745) (w2 := 75) (w3 := 744) (w4 := 15) (ez_gh3 _ (List.mem_of_getElem? (i := 11) rfl))
theorem ez_h132 : ez_mok ez_tb ez_M0 132 := ez_mok_of (w1 := 748) (w2 := 75) (w3 := 747) (w4 := 16) (ez_gh3 _ (List.mem_of_getElem? (i := 12) rfl))
theorem ez_h133 : ez_mok ez_tb ez_M0 133 := ez_mok_of (w1 := 760) (w2 := 75) (w3 := 758) (w4 := 759) (ez_gh3 _ (List.mem_of_getElem? (i := 13) rfl))
theorem ez_h134 : ez_mok ez_tb ez_M0 134 := ez_mok_of (w1 := 786) (w2 := 75) (w3 := 784) (w4 := 785) (ez_gh3 _ (List.mem_of_getElem? (i := 14) rfl))
theorem ez_h135 : ez_mok ez_tb ez_M0 135 := ez_mok_of (w1 := 721) (w2 := 75) (w3 := 719) (w4 := 720) (ez_gh3 _ (List.mem_of_getElem? (i := 15) rfl))
theorem ez_h136 : ez_mok ez_tb ez_M0 136 := ez_mok_of (w1 := 172) (w2 := 73) (w3 := 171) (w4 := 0) (ez_gh3 _ (List.mem_of_getElem? (i := 16) rfl))
theorem ez_h137 : ez_mok ez_tb ez_M0 137 := ez_mok_of (w1 := 929) (w2 := 73) (w3 := 927) (w4 := 928) (ez_gh3 _ (List.mem_of_getElem? (i := 17) rfl))
theorem ez_h138 : ez_mok ez_tb ez_M0 138 := ez_mok_of (w1 := 656) (w2 := 73) (w3 := 654) (w4 := 655) (ez_gh3 _ (List.mem_of_getElem? (i := 18) rfl))
theorem ez_h139 : ez_mok ez_tb ez_M0 139 := ez_mok_of (w1 := 483) (w2 := 73) (w3 := 481) (w4 := 482) (ez_gh3 _ (List.mem_of_getElem? (i := 19) rfl))
theorem ez_h140 : ez_mok ez_tb ez_M0 140 := ez_mok_of (w1 := 614) (w2 := 73) (w3 := 612) (w4 := 613) (ez_gh3 _ (List.mem_of_getElem? (i := 20) rfl))
theorem ez_h141 : ez_mok ez_tb ez_M0 141 := ez_mok_of (w1 := 641) (w2 := 73) (w3 := 640) (w4 := 8) (ez_gh3 _ (List.mem_of_getElem? (i := 21) rfl))
theorem ez_h142 : ez_mok ez_tb ez_M0 142 := ez_mok_of (w1 := 644) (w2 := 73) (w3 := 643) (w4 := 9) (ez_gh3 _ (List.mem_of_getElem? (i := 22) rfl))
theorem ez_h143 : ez_mok ez_tb ez_M0 143 := ez_mok_of (w1 := 98) (w2 := 71) (w3 := 97) (w4 := 0) (ez_gh3 _ (List.mem_of_getElem? (i := 23) rfl))
theorem ez_h144 : ez_mok ez_tb ez_M0 144 := ez_mok_of (w1 := 630) (w2 := 71) (w3 := 628) (w4 := 629) (ez_gh3 _ (List.mem_of_getElem? (i := 24) rfl))
theorem ez_h145 : ez_mok ez_tb ez_M0 145 := ez_mok_of (w1 := 106) (w2 := 71) (w3 := 104) (w4 := 105) (ez_gh3 _ (List.mem_of_getElem? (i := 25) rfl))
theorem ez_h146 : ez_mok ez_tb ez_M0 146 := ez_mok_of (w1 := 568) (w2 := 71) (w3 := 566) (w4 := 567) (ez_gh3 _ (List.mem_of_getElem? (i := 26) rfl))
theorem ez_h147 : ez_mok ez_tb ez_M0 147 := ez_mok_of (w1 := 634) (w2 := 71) (w3 := 632) (w4 := 633) (ez_gh3 _ (List.mem_of_getElem? (i := 27) rfl))
theorem ez_h148 : ez_mok ez_tb ez_M0 148 := ez_mok_of (w1 := 638) (w2 := 71) (w3 := 636) (w4 := 637) (ez_gh3 _ (List.mem_of_getElem? (i := 28) rfl))
theorem ez_h149 : ez_mok ez_tb ez_M0 149 := ez_mok_of (w1 := 528) (w2 := 71) (w3 := 526) (w4 := 527) (ez_gh3 _ (List.mem_of_getElem? (i := 29) rfl))
theorem ez_h150 : ez_mok ez_tb ez_M0 150 := ez_mok_of (w1 := 1070) (w2 := 71) (w3 := 1068) (w4 := 1069) (ez_gh3 _ (List.mem_of_getElem? (i := 30) rfl))
theorem ez_h151 : ez_mok ez_tb ez_M0 151 := ez_mok_of (w1 := 1052) (w2 := 71) (w3 := 1050) (w4 := 1051) (ez_gh3 _ (List.mem_of_getElem? (i := 31) rfl))
theorem ez_h152 : ez_mok ez_tb ez_M0 152 := ez_mok_of (w1 := 742) (w2 := 71) (w3 := 740) (w4 := 741) (ez_gh3 _ (List.mem_of_getElem? (i := 32) rfl))
theorem ez_h153 : ez_mok ez_tb ez_M0 153 := ez_mok_of (w1 := 577) (w2 := 71) (w3 := 575) (w4 := 576) (ez_gh3 _ (List.mem_of_getElem? (i := 33) rfl))
theorem ez_h154 : ez_mok ez_tb ez_M0 154 := ez_mok_of (w1 := 531) (w2 := 71) (w3 := 530) (w4 := 4) (ez_gh3 _ (List.mem_of_getElem? (i := 34) rfl))
theorem ez_h155 : ez_mok ez_tb ez_M0 155 := ez_mok_of (w1 := 256) (w2 := 77) (w3 := 255) (w4 := 0) (ez_gh3 _ (List.mem_of_getElem? (i := 35) rfl))
theorem ez_h156 : ez_mok ez_tb ez_M0 156 := ez_mok_of (w1 := 814) (w2 := 77) (w3 := 812) (w4 := 813) (ez_gh3 _ (List.mem_of_getElem? (i := 36) rfl))
theorem ez_h157 : ez_mok ez_tb ez_M0 157 := ez_mok_of (w1 := 865) (w2 := 77) (w3 := 863) (w4 := 864) (ez_gh3 _ (List.mem_of_getElem? (i := 37) rfl))
theorem ez_h158 : ez_mok ez_tb ez_M0 158 := ez_mok_of (w1 := 849) (w2 := 77) (w3 := 847) (w4 := 848) (ez_gh3 _ (List.mem_of_getElem? (i := 38) rfl))
theorem ez_h159 : ez_mok ez_tb ez_M0 159 := ez_mok_of (w1 := 799) (w2 := 77) (w3 := 797) (w4 := 798) (ez_gh3 _ (List.mem_of_getElem? (i := 39) rfl))
theorem ez_gh4 : ∀ b ∈ [ez_okH ez_tb ez_M0 160 817 77 816 0, ez_okH ez_tb ez_M0 161 869 77 867 868, ez_okH ez_tb ez_M0 162 857 77 855 856, ez_okH ez_tb ez_M0 163 841 77 839 840, ez_okH ez_tb ez_M0 164 1124 82 1123 0, ez_okH ez_tb ez_M0 165 1303 82 1302 42, ez_okH ez_tb ez_M0 166 1339 82 1337 1338, ez_okH ez_tb ez_M0 167 1316 82 1315 43, ez_okH ez_tb ez_M0 168 1350 82 1348 1349, ez_okH ez_tb ez_M0 169 1416 82 1414 1415, ez_okH ez_tb ez_M0 170 1420 82 1418 1419, ez_okH ez_tb ez_M0 171 1272 82 1271 0, ez_okH ez_tb ez_M0 172 1458 82 1456 1457, ez_okH ez_tb ez_M0 173 1461 82 1460 64, ez_okH ez_tb ez_M0 174 1465 82 1463 1464, ez_okH ez_tb ez_M0 175 1328 82 1326 1327, ez_okH ez_tb ez_M0 176 1363 82 1362 49, ez_okH ez_tb ez_M0 177 1450 82 1449 63, ez_okH ez_tb ez_M0 178 1440 82 1438 1439, ez_okH ez_tb ez_M0 179 1264 82 1263 38, ez_okH ez_tb ez_M0 180 1487 82 1486 67, ez_okH ez_tb ez_M0 181 1498 82 1496 1497, ez_okH ez_tb ez_M0 182 1476 82 1474 1475, ez_okH ez_tb ez_M0 183 1490 82 1489 68, ez_okH ez_tb ez_M0 184 1472 82 1471 65, ez_okH ez_tb ez_M0 185 1283 82 1281 1282, ez_okH ez_tb ez_M0 186 1369 82 1368 51, ez_okH ez_tb ez_M0 187 1372 82 1371 52, ez_okH ez_tb ez_M0 188 1384 82 1383 53, ez_okH ez_tb ez_M0 189 1447 82 1446 62, ez_okH ez_tb ez_M0 190 1294 82 1293 40, ez_okH ez_tb ez_M0 191 1494 82 1492 1493, ez_okH ez_tb ez_M0 192 1357 82 1356 47, ez_okH ez_tb ez_M0 193 1412 82 1411 57, ez_okH ez_tb ez_M0 194 1423 82 1422 58, ez_okH ez_tb ez_M0 195 1256 82 1254 1255, ez_okH ez_tb ez_M0 196 1444 82 1442 1443, ez_okH ez_tb ez_M0 197 1275 82 1274 0, ez_okH ez_tb ez_M0 198 1261 82 1260 0, ez_okH ez_tb ez_M0 199 1342 82 1341 46], b = true := by decide +kernel
theorem ez_h160 : ez_mok ez_tb ez_M0 160 := ez_mok_of (w1 := 817) (w2 := 77) (w3 := 816) (w4 := 0) (ez_gh4 _ (List.mem_of_getElem? (i := 0) rfl))
theorem ez_h161 : ez_mok ez_tb ez_M0 161 := ez_mok_of (w1 := 869) (w2 := 77) (w3 := 867) (w4 := 868) (ez_gh4 _ (List.mem_of_getElem? (i := 1) rfl))
theorem ez_h162 : ez_mok ez_tb ez_M0 162 := ez_mok_of (w1 := 857) (w2 := 77) (w3 := 855) (w4 := 856) (ez_gh4 _ (List.mem_of_getElem? (i := 2) rfl))
theorem ez_h163 : ez_mok ez_tb ez_M0 163 := ez_mok_of (w1 := 841) (w2 := 77) (w3 := 839) (w4 := 840) (ez_gh4 _ (List.mem_of_getElem? (i := 3) rfl))
theorem ez_h164 : ez_mok ez_tb ez_M0 164 := ez_mok_of (w1 := 1124) (w2 := 82) (w3 := 1123) (w4 := 0) (ez_gh4 _ (List.mem_of_getElem? (i := 4) rfl))
theorem ez_h165 : ez_mok ez_tb ez_M0 165 := ez_mok_of (w1 := 1303) (w2 := 82) (w3 := 1302) (w4 := 42) (ez_gh4 _ (List.mem_of_getElem? (i := 5) rfl))
theorem ez_h166 : ez_mok ez_tb ez_M0 166 := ez_mok_of (w1 := 1339) (w2 := 82) (w3 := 1337) (w4 := 1338) (ez_gh4 _ (List.mem_of_getElem? (i := 6) rfl))
theorem ez_h167 : ez_mok ez_tb ez_M0 167 := ez_mok_of (w1 := 1316) (w2 := 82) (w3 := 1315) (w4 := 43) (ez_gh4 _ (List.mem_of_getElem? (i := 7) rfl))
theorem ez_h168 : ez_mok ez_tb ez_M0 168 := ez_mok_of (w1 := 1350) (w2 := 82) (w3 := 1348) (w4 := 1349) (ez_gh4 _ (List.mem_of_getElem? (i := 8) rfl))
theorem ez_h169 : ez_mok ez_tb ez_M0 169 := ez_mok_of (w1 := 1416) (w2 := 82) (w3 := 1414) (w4 := 1415) (ez_gh4 _ (List.mem_of_getElem? (i := 9) rfl))
theorem ez_h170 : ez_mok ez_tb ez_M0 170 := ez_mok_of (w1 := 1420) (w2 := 82) (w3 := 1418) (w4 := 1419) (ez_gh4 _ (List.mem_of_getElem? (i := 10) rfl))
theorem ez_h171 : ez_mok ez_tb ez_M0 171 := ez_mok_of (w1 := 1272) (w2 := 82) (w3 := 1271) (w4 := 0) (ez_gh4 _ (List.mem_of_getElem? (i := 11) rfl))
theorem ez_h172 : ez_mok ez_tb ez_M0 172 := ez_mok_of (w1 := 1458) (w2 := 82) (w3 := 1456) (w4 := 1457) (ez_gh4 _ (List.mem_of_getElem? (i := 12) rfl))
theorem ez_h173 : ez_mok ez_tb ez_M0 173 := ez_mok_of (w1 := 1461) (w2 := 82) (w3 := 1460) (w4 := 64) (ez_gh4 _ (List.mem_of_getElem? (i := 13) rfl))
theorem ez_h174 : ez_mok ez_tb ez_M0 174 := ez_mok_of (w1 := 1465) (w2 := 82) (w3 := 1463) (w4 := 1464) (ez_gh4 _ (List.mem_of_getElem? (i := 14) rfl))
theorem ez_h175 : ez_mok ez_tb ez_M0 175 := ez_mok_of (w1 := 1328) (w2 := 82) (w3 := 1326) (w4 := 1327) (ez_gh4 _ (List.mem_of_getElem? (i := 15) rfl))
theorem ez_h176 : ez_mok ez_tb ez_M0 176 := ez_mok_of (w1 := 1363) (w2 := 82) (w3 := 1362) (w4 := 49) (ez_gh4 _ (List.mem_of_getElem? (i := 16) rfl))
theorem ez_h177 : ez_mok ez_tb ez_M0 177 := ez_mok_of (w1 := 1450) (w2 := 82) (w3 := 1449) (w4 := 63) (ez_gh4 _ (List.mem_of_getElem? (i := 17) rfl))
theorem ez_h178 : ez_mok ez_tb ez_M0 178 := ez_mok_of (w1 := 1440) (w2 := 82) (w3 := 1438) (w4 := 1439) (ez_gh4 _ (List.mem_of_getElem? (i := 18) rfl))
theorem ez_h179 : ez_mok ez_tb ez_M0 179 := ez_mok_of (w1 := 1264) (w2 := 82) (w3 := 1263) (w4 := 38) (ez_gh4 _ (List.mem_of_getElem? (i := 19) rfl))
theorem ez_h180 : ez_mok ez_tb ez_M0 180 := ez_mok_of (w1 := 1487) (w2 := 82) (w3 := 1486) (w4 := 67) (ez_gh4 _ (List.mem_of_getElem? (i := 20) rfl))
theorem ez_h181 : ez_mok ez_tb ez_M0 181 := ez_mok_of (w1 := 1498) (w2 := 82) (w3 := 1496) (w4 := 1497) (ez_gh4 _ (List.mem_of_getElem? (i := 21) rfl))
theorem ez_h182 : ez_mok ez_tb ez_M0 182 := ez_mok_of (w1 := 1476) (w2 := 82) (w3 := 1474) (w4 := 1475) (ez_gh4 _ (List.mem_of_getElem? (i := 22) rfl))
theorem ez_h183 : ez_mok ez_tb ez_M0 183 := ez_mok_of (w1 := 1490) (w2 := 82) (w3 := 1489) (w4 := 68) (ez_gh4 _ (List.mem_of_getElem? (i := 23) rfl))
theorem ez_h184 : ez_mok ez_tb ez_M0 184 := ez_mok_of (w1 := 1472) (w2 := 82) (w3 := 1471) (w4 := 65) (ez_gh4 _ (List.mem_of_getElem? (i := 24) rfl))
theorem ez_h185 : ez_mok ez_tb ez_M0 185 := ez_mok_of (w1 := 1283) (w2 := 82) (w3 := 1281) (w4 := 1282) (ez_gh4 _ (List.mem_of_getElem? (i := 25) rfl))
theorem ez_h186 : ez_mok ez_tb ez_M0 186 := ez_mok_of (w1 := 1369) (w2 := 82) (w3 := 1368) (w4 := 51) (ez_gh4 _ (List.mem_of_getElem? (i := 26) rfl))
theorem ez_h187 : ez_mok ez_tb ez_M0 187 := ez_mok_of (w1 := 1372) (w2 := 82) (w3 := 1371) (w4 := 52) (ez_gh4 _ (List.mem_of_getElem? (i := 27) rfl))
theorem ez_h188 : ez_mok ez_tb ez_M0 188 := ez_mok_of (w1 := 1384) (w2 := 82) (w3 := 1383) (w4 := 53) (ez_gh4 _ (List.mem_of_getElem? (i := 28) rfl))
theorem ez_h189 : ez_mok ez_tb ez_M0 189 := ez_mok_of (w1 := 1447) (w2 := 82) (w3 := 1446) (w4 := 62) (ez_gh4 _ (List.mem_of_getElem? (i := 29) rfl))
theorem ez_h190 : ez_mok ez_tb ez_M0 190 := ez_mok_of (w1 := 1294) (w2 := 82) (w3 := 1293) (w4 := 40) (ez_gh4 _ (List.mem_of_getElem? (i := 30) rfl))
theorem ez_h191 : ez_mok ez_tb ez_M0 191 := ez_mok_of (w1 := 1494) (w2 := 82) (w3 := 1492) (w4 := 1493) (ez_gh4 _ (List.mem_of_getElem? (i := 31) rfl))
theorem ez_h192 : ez_mok ez_tb ez_M0 192 := ez_mok_of (w1 := 1357) (w2 := 82) (w3 := 1356) (w4 := 47) (ez_gh4 _ (List.mem_of_getElem? (i := 32) rfl))
theorem ez_h193 : ez_mok ez_tb ez_M0 193 := ez_mok_of (w1 := 1412) (w2 := 82) (w3 := 1411) (w4 := 57) (ez_gh4 _ (List.mem_of_getElem? (i := 33) rfl))
theorem ez_h194 : ez_mok ez_tb ez_M0 194 := ez_mok_of (w1 := 1423) (w2 := 82) (w3 := 1422) (w4 := 58) (ez_gh4 _ (List.mem_of_getElem? (i := 34) rfl))
theorem ez_h195 : ez_mok ez_tb ez_M0 195 := ez_mok_of (w1 := 1256) (w2 := 82) (w3 := 1254) (w4 := 1255) (ez_gh4 _ (List.mem_of_getElem? (i := 35) rfl))
theorem ez_h196 : ez_mok ez_tb ez_M0 196 := ez_mok_of (w1 := 1444) (w2 := 82) (w3 := 1442) (w4 := 1443) (ez_gh4 _ (List.mem_of_getElem? (i := 36) rfl))
theorem ez_h197 : ez_mok ez_tb ez_M0 197 := ez_mok_of (w1 := 1275) (w2 := 82) (w3 := 1274) (w4 := 0) (ez_gh4 _ (List.mem_of_getElem? (i := 37) rfl))
theorem ez_h198 : ez_mok ez_tb ez_M0 198 := ez_mok_of (w1 := 1261) (w2 := 82) (w3 := 1260) (w4 := 0) (ez_gh4 _ (List.mem_of_getElem? (i := 38) rfl))
theorem ez_h199 : ez_mok ez_tb ez_M0 199 := ez_mok_of (w1 := 1342) (w2 := 82) (w3 := 1341) (w4 := 46) (ez_gh4 _ (List.mem_of_getElem? (i := 39) rfl))
theorem ez_gh5 : ∀ b ∈ [ez_okH ez_tb ez_M0 200 1331 82 1330 45, ez_okH ez_tb ez_M0 201 1430 82 1429 59, ez_okH ez_tb ez_M0 202 1324 82 1323 44, ez_okH ez_tb ez_M0 203 1479 82 1478 66, ez_okH ez_tb ez_M0 204 1291 82 1290 39, ez_okH ez_tb ez_M0 205 1321 82 1319 1320, ez_okH ez_tb ez_M0 206 1313 82 1311 1312, ez_okH ez_tb ez_M0 207 1381 82 1379 1380, ez_okH ez_tb ez_M0 208 1376 82 1374 1375, ez_okH ez_tb ez_M0 209 1346 82 1344 1345, ez_okH ez_tb ez_M0 210 1502 82 1500 1501, ez_okH ez_tb ez_M0 211 1300 82 1299 41, ez_okH ez_tb ez_M0 212 1427 82 1425 1426, ez_okH ez_tb ez_M0 213 1433 82 1432 60, ez_okH ez_tb ez_M0 214 1409 82 1407 1408, ez_okH ez_tb ez_M0 215 1360 82 1359 48, ez_okH ez_tb ez_M0 216 1436 82 1435 61, ez_okH ez_tb ez_M0 217 1484 82 1482 1483, ez_okH ez_tb ez_M0 218 1335 82 1333 1334, ez_okH ez_tb ez_M0 219 1279 82 1277 1278, ez_okH ez_tb ez_M0 220 1268 82 1266 1267, ez_okH ez_tb ez_M0 221 1366 82 1365 50, ez_okH ez_tb ez_M0 222 1307 82 1305 1306, ez_okH ez_tb ez_M0 223 1288 82 1286 1287, ez_okH ez_tb ez_M0 224 1454 82 1452 1453, ez_okH ez_tb ez_M0 225 1405 82 1403 1404, ez_okH ez_tb ez_M0 226 1469 82 1467 1468, ez_okH ez_tb ez_M0 227 1395 82 1393 1394, ez_okH ez_tb ez_M0 228 1398 82 1397 55, ez_okH ez_tb ez_M0 229 1354 82 1352 1353, ez_okH ez_tb ez_M0 230 1297 82 1296 0, ez_okH ez_tb ez_M0 231 1401 82 1400 56, ez_okH ez_tb ez_M0 232 1391 82 1389 1390, ez_okH ez_tb ez_M0 233 1387 82 1386 54, ez_okH ez_tb ez_M0 234 513 83 512 0, ez_okH ez_tb ez_M0 235 1037 83 1036 0, ez_okH ez_tb ez_M0 236 823 83 822 0, ez_okH ez_tb ez_M0 237 538 85 537 0, ez_okH ez_tb ez_M0 238 1034 85 1033 0, ez_okH ez_tb ez_M0 239 820 85 819 0], b = true := by decide +kernel
theorem ez_h200 : ez_mok ez_tb ez_M0 200 := ez_mok_of (w1 := 1331) (w2 := 82) (w3 := 1330) (w4 := 45) (ez_gh5 _ (List.mem_of_getElem? (i := 0) rfl))
theorem ez_h201 : ez_mok ez_tb ez_M0 201 := ez_mok_of (w1 := 1430) (w2 := 82) (w3 := 1429) (w4 := 59) (ez_gh5 _ (List.mem_of_getElem? (i := 1) rfl))
theorem ez_h202 : ez_mok ez_tb ez_M0 202 := ez_mok_of (w1 := 1324) (w2 := 82) (w3 := 1323) (w4 := 44) (ez_gh5 _ (List.mem_of_getElem? (i := 2) rfl))
theorem ez_h203 : ez_mok ez_tb ez_M0 203 := ez_mok_of (w1 := 1479) (w2 := 82) (w3 := 1478) (w4 := 66) (ez_gh5 _ (List.mem_of_getElem? (i := 3) rfl))
theorem ez_h204 : ez_mok ez_tb ez_M0 204 := ez_mok_of (w1 := 1291) (w2 := 82) (w3 := 1290) (w4 := 39) (ez_gh5 _ (List.mem_of_getElem? (i := 4) rfl))
theorem ez_h205 : ez_mok ez_tb ez_M0 205 := ez_mok_of (w1 := 1321) (w2 := 82) (w3 := 1319) (w4 := 1320) (ez_gh5 _ (List.mem_of_getElem? (i := 5) rfl))
theorem ez_h206 : ez_mok ez_tb ez_M0 206 := ez_mok_of (w1 := 1313) (w2 := 82) (w3 := 1311) (w4 := 1312) (ez_gh5 _ (List.mem_of_getElem? (i := 6) rfl))
theorem ez_h207 : ez_mok ez_tb ez_M0 207 := ez_mok_of (w1 := 1381) (w2 := 82) (w3 := 1379) (w4 := 1380) (ez_gh5 _ (List.mem_of_getElem? (i := 7) rfl))
theorem ez_h208 : ez_mok ez_tb ez_M0 208 := ez_mok_of (w1 := 1376) (w2 := 82) (w3 := 1374) (w4 := 1375) (ez_gh5 _ (List.mem_of_getElem? (i := 8) rfl))
theorem ez_h209 : ez_mok ez_tb ez_M0 209 := ez_mok_of (w1 := 1346) (w2 := 82) (w3 := 1344) (w4 := 1345) (ez_gh5 _ (List.mem_of_getElem? (i := 9) rfl))
theorem ez_h210 : ez_mok ez_tb ez_M0 210 := ez_mok_of (w1 := 1502) (w2 := 82) (w3 := 1500) (w4 := 1501) (ez_gh5 _ (List.mem_of_getElem? (i := 10) rfl))
theorem ez_h211 : ez_mok ez_tb ez_M0 211 := ez_mok_of (w1 := 1300) (w2 := 82) (w3 := 1299) (w4 := 41) (ez_gh5 _ (List.mem_of_getElem? (i := 11) rfl))
theorem ez_h212 : ez_mok ez_tb ez_M0 212 := ez_mok_of (w1 := 1427) (w2 := 82) (w3 := 1425) (w4 := 1426) (ez_gh5 _ (List.mem_of_getElem? (i := 12) rfl))
theorem ez_h213 : ez_mok ez_tb ez_M0 213 := ez_mok_of (w1 := 1433) (w2 := 82) (w3 := 1432) (w4 := 60) (ez_gh5 _ (List.mem_of_getElem? (i := 13) rfl))
theorem ez_h214 : ez_mok ez_tb ez_M0 214 := ez_mok_of (w1 := 1409) (w2 := 82) (w3 := 1407) (w4 := 1408) (ez_gh5 _ (List.mem_of_getElem? (i := 14) rfl))
theorem ez_h215 : ez_mok ez_tb ez_M0 215 := ez_mok_of (w1 := 1360) (w2 := 82) (w3 := 1359) (w4 := 48) (ez_gh5 _ (List.mem_of_getElem? (i := 15) rfl))
theorem ez_h216 : ez_mok ez_tb ez_M0 216 := ez_mok_of (w1 := 1436) (w2 := 82) (w3 := 1435) (w4 := 61) (ez_gh5 _ (List.mem_of_getElem? (i := 16) rfl))
theorem ez_h217 : ez_mok ez_tb ez_M0 217 := ez_mok_of (w1 := 1484) (w2 := 82) (w3 := 1482) (w4 := 1483) (ez_gh5 _ (List.mem_of_getElem? (i := 17) rfl))
theorem ez_h218 : ez_mok ez_tb ez_M0 218 := ez_mok_of (w1 := 1335) (w2 := 82) (w3 := 1333) (w4 := 1334) (ez_gh5 _ (List.mem_of_getElem? (i := 18) rfl))
theorem ez_h219 : ez_mok ez_tb ez_M0 219 := ez_mok_of (w1 := 1279) (w2 := 82) (w3 := 1277) (w4 := 1278) (ez_gh5 _ (List.mem_of_getElem? (i := 19) rfl))
theorem ez_h220 : ez_mok ez_tb ez_M0 220 := ez_mok_of (w1 := 1268) (w2 := 82) (w3 := 1266) (w4 := 1267) (ez_gh5 _ (List.mem_of_getElem? (i := 20) rfl))
theorem ez_h221 : ez_mok ez_tb ez_M0 221 := ez_mok_of (w1 := 1366) (w2 := 82) (w3 := 1365) (w4 := 50) (ez_gh5 _ (List.mem_of_getElem? (i := 21) rfl))
theorem ez_h222 : ez_mok ez_tb ez_M0 222 := ez_mok_of (w1 := 1307) (w2 := 82) (w3 := 1305) (w4 := 1306) (ez_gh5 _ (List.mem_of_getElem? (i := 22) rfl))
theorem ez_h223 : ez_mok ez_tb ez_M0 223 := ez_mok_of (w1 := 1288) (w2 := 82) (w3 := 1286) (w4 := 1287) (ez_gh5 _ (List.mem_of_getElem? (i := 23) rfl))
theorem ez_h224 : ez_mok ez_tb ez_M0 224 := ez_mok_of (w1 := 1454) (w2 := 82) (w3 := 1452) (w4 := 1453) (ez_gh5 _ (List.mem_of_getElem? (i := 24) rfl))
theorem ez_h225 : ez_mok ez_tb ez_M0 225 := ez_mok_of (w1 := 1405) (w2 := 82) (w3 := 1403) (w4 := 1404) (ez_gh5 _ (List.mem_of_getElem? (i := 25) rfl))
theorem ez_h226 : ez_mok ez_tb ez_M0 226 := ez_mok_of (w1 := 1469) (w2 := 82) (w3 := 1467) (w4 := 1468) (ez_gh5 _ (List.mem_of_getElem? (i := 26) rfl))
theorem ez_h227 : ez_mok ez_tb ez_M0 227 := ez_mok_of (w1 := 1395) (w2 := 82) (w3 := 1393) (w4 := 1394) (ez_gh5 _ (List.mem_of_getElem? (i := 27) rfl))
theorem ez_h228 : ez_mok ez_tb ez_M0 228 := ez_mok_of (w1 := 1398) (w2 := 82) (w3 := 1397) (w4 := 55) (ez_gh5 _ (List.mem_of_getElem? (i := 28) rfl))
theorem ez_h229 : ez_mok ez_tb ez_M0 229 := ez_mok_of (w1 := 1354) (w2 := 82) (w3 := 1352) (w4 := 1353) (ez_gh5 _ (List.mem_of_getElem? (i := 29) rfl))
theorem ez_h230 : ez_mok ez_tb ez_M0 230 := ez_mok_of (w1 := 1297) (w2 := 82) (w3 := 1296) (w4 := 0) (ez_gh5 _ (List.mem_of_getElem? (i := 30) rfl))
theorem ez_h231 : ez_mok ez_tb ez_M0 231 := ez_mok_of (w1 := 1401) (w2 := 82) (w3 := 1400) (w4 := 56) (ez_gh5 _ (List.mem_of_getElem? (i := 31) rfl))
theorem ez_h232 : ez_mok ez_tb ez_M0 232 := ez_mok_of (w1 := 1391) (w2 := 82) (w3 := 1389) (w4 := 1390) (ez_gh5 _ (List.mem_of_getElem? (i := 32) rfl))
theorem ez_h233 : ez_mok ez_tb ez_M0 233 := ez_mok_of (w1 := 1387) (w2 := 82) (w3 := 1386) (w4 := 54) (ez_gh5 _ (List.mem_of_getElem? (i := 33) rfl))
theorem ez_h234 : ez_mok ez_tb ez_M0 234 := ez_mok_of (w1 := 513) (w2 := 83) (w3 := 512) (w4 := 0) (ez_gh5 _ (List.mem_of_getElem? (i := 34) rfl))
theorem ez_h235 : ez_mok ez_tb ez_M0 235 := ez_mok_of (w1 := 1037) (w2 := 83) (w3 := 1036) (w4 := 0) (ez_gh5 _ (List.mem_of_getElem? (i := 35) rfl))
theorem ez_h236 : ez_mok ez_tb ez_M0 236 := ez_mok_of (w1 := 823) (w2 := 83) (w3 := 822) (w4 := 0) (ez_gh5 _ (List.mem_of_getElem? (i := 36) rfl))
theorem ez_h237 : ez_mok ez_tb ez_M0 237 := ez_mok_of (w1 := 538) (w2 := 85) (w3 := 537) (w4 := 0) (ez_gh5 _ (List.mem_of_getElem? (i := 37) rfl))
theorem ez_h238 : ez_mok ez_tb ez_M0 238 := ez_mok_of (w1 := 1034) (w2 := 85) (w3 := 1033) (w4 := 0) (ez_gh5 _ (List.mem_of_getElem? (i := 38) rfl))
theorem ez_h239 : ez_mok ez_tb ez_M0 239 := ez_mok_of (w1 := 820) (w2 := 85) (w3 := 819) (w4 := 0) (ez_gh5 _ (List.mem_of_getElem? (i := 39) rfl))
theorem ez_gh6 : ∀ b ∈ [ez_okH ez_tb ez_M0 240 534 84 533 0], b = true := by decide +kernel
theorem ez_h240 : ez_mok ez_tb ez_M0 240 := ez_mok_of (w1 := 534) (w2 := 84) (w3 := 533) (w4 := 0) (ez_gh6 _ (List.mem_of_getElem? (i := 0) rfl))
theorem ez_ph_0 : ∀ a, a < 0 → ez_mok ez_tb ez_M0 a := lt_0
theorem ez_ph_10 : ∀ a, a < 10 → ez_mok ez_tb ez_M0 a := lt_s (lt_s (lt_s (lt_s (lt_s (lt_s (lt_s (lt_s (lt_s (lt_s ez_ph_0 ez_h0) ez_h1) ez_h2) ez_h3) ez_h4) ez_h5) ez_h6) ez_h7) ez_h8) ez_h9
theorem ez_ph_20 : ∀ a, a < 20 → ez_mok ez_tb ez_M0 a := lt_s (lt_s (lt_s (lt_s (lt_s (lt_s (lt_s (lt_s (lt_s (lt_s ez_ph_10 ez_h10) ez_h11) ez_h12) ez_h13) ez_h14) ez_h15) ez_h16) ez_h17) ez_h18) ez_h19
theorem ez_ph_30 : ∀ a, a < 30 → ez_mok ez_tb ez_M0 a := lt_s (lt_s (lt_s (lt_s (lt_s (lt_s (lt_s (lt_s (lt_s (lt_s ez_ph_20 ez_h20) ez_h21) ez_h22) ez_h23) ez_h24) ez_h25) ez_h26) ez_h27) ez_h28) ez_h29
theorem ez_ph_40 : ∀ a, a < 40 → ez_mok ez_tb ez_M0 a := lt_s (lt_s (lt_s (lt_s (lt_s (lt_s (lt_s (lt_s (lt_s (lt_s ez_ph_30 ez_h30) ez_h31) ez_h32) ez_h33) ez_h34) ez_h35) ez_h36) ez_h37) ez_h38) ez_h39
theorem ez_ph_50 : ∀ a, a < 50 → ez_mok ez_tb ez_M0 a := lt_s (lt_s (lt_s (lt_s (lt_s (lt_s (lt_s (lt_s (lt_s (lt_s ez_ph_40 ez_h40) ez_h41) ez_h42) ez_h43) ez_h44) ez_h45) ez_h46) ez_h47) ez_h48) ez_h49
theorem ez_ph_60 : ∀ a, a < 60 → ez_mok ez_tb ez_M0 a := lt_s (lt_s (lt_s (lt_s (lt_s (lt_s (lt_s (lt_s (lt_s (lt_s ez_ph_50 ez_h50) ez_h51) ez_h52) ez_h53) ez_h54) ez_h55) ez_h56) ez_h57) ez_h58) ez_h59
theorem ez_ph_70 : ∀ a, a < 70 → ez_mok ez_tb ez_M0 a := lt_s (lt_s (lt_s (lt_s (lt_s (lt_s (lt_s (lt_s (lt_s (lt_s ez_ph_60 ez_h60) ez_h61) ez_h62) ez_h63) ez_h64) ez_h65) ez_h66) ez_h67) ez_h68) ez_h69
theorem ez_ph_80 : ∀ a, a < 80 → ez_mok ez_tb ez_M0 a := lt_s (lt_s (lt_s (lt_s (lt_s (lt_s (lt_s (lt_s (lt_s (lt_s ez_ph_70 ez_h70) ez_h71) ez_h72) ez_h73) ez_h74) ez_h75) ez_h76) ez_h77) ez_h78) ez_h79
theorem ez_ph_90 : ∀ a, a < 90 → ez_mok ez_tb ez_M0 a := lt_s (lt_s (lt_s (lt_s (lt_s (lt_s (lt_s (lt_s (lt_s (lt_s ez_ph_80 ez_h80) ez_h81) ez_h82) ez_h83) ez_h84) ez_h85) ez_h86) ez_h87) ez_h88) ez_h89
theorem ez_ph_100 : ∀ a, a < 100 → ez_mok ez_tb ez_M0 a := lt_s (lt_s (lt_s (lt_s (lt_s (lt_s (lt_s (lt_s (lt_s (lt_s ez_ph_90 ez_h90) ez_h91) ez_h92) ez_h93) ez_h94) ez_h95) ez_h96) ez_h97) ez_h98) ez_h99
theorem ez_ph_110 : ∀ a, a < 110 → ez_mok ez_tb ez_M0 a := lt_s (lt_s (lt_s (lt_s (lt_s (lt_s (lt_s (lt_s (lt_s (lt_s ez_ph_100 ez_h100) ez_h101) ez_h102) ez_h103) ez_h104) ez_h105) ez_h106) ez_h107) ez_h108) ez_h109
theorem ez_ph_120 : ∀ a, a < 120 → ez_mok ez_tb ez_M0 a := lt_s (lt_s (lt_s (lt_s (lt_s (lt_s (lt_s (lt_s (lt_s (lt_s ez_ph_110 ez_h110) ez_h111) ez_h112) ez_h113) ez_h114) ez_h115) ez_h116) ez_h117) ez_h118) ez_h119
theorem ez_ph_130 : ∀ a, a < 130 → ez_mok ez_tb ez_M0 a := lt_s (lt_s (lt_s (lt_s (lt_s (lt_s (lt_s (lt_s (lt_s (lt_s ez_ph_120 ez_h120) ez_h121) ez_h122) ez_h123) ez_h124) ez_h125) ez_h126) ez_h127) ez_h128) ez_h129
theorem ez_ph_140 : ∀ a, a < 140 → ez_mok ez_tb ez_M0 a := lt_s (lt_s (lt_s (lt_s (lt_s (lt_s (lt_s (lt_s (lt_s (lt_s ez_ph_130 ez_h130) ez_h131) ez_h132) ez_h133) ez_h134) ez_h135) ez_h136) ez_h137) ez_h138) ez_h139
theorem ez_ph_150 : ∀ a, a < 150 → ez_mok ez_tb ez_M0 a := lt_s (lt_s (lt_s (lt_s (lt_s (lt_s (lt_s (lt_s (lt_s (lt_s ez_ph_140 ez_h140) ez_h141) ez_h142) ez_h143) ez_h144) ez_h145) ez_h146) ez_h147) ez_h148) ez_h149
theorem ez_ph_160 : ∀ a, a < 160 → ez_mok ez_tb ez_M0 a := lt_s (lt_s (lt_s (lt_s (lt_s (lt_s (lt_s (lt_s (lt_s (lt_s ez_ph_150 ez_h150) ez_h151) ez_h152) ez_h153) ez_h154) ez_h155) ez_h156) ez_h157) ez_h158) ez_h159
theorem ez_ph_170 : ∀ a, a < 170 → ez_mok ez_tb ez_M0 a := lt_s (lt_s (lt_s (lt_s (lt_s (lt_s (lt_s (lt_s (lt_s (lt_s ez_ph_160 ez_h160) ez_h161) ez_h162) ez_h163) ez_h164) ez_h165) ez_h166) ez_h167) ez_h168) ez_h169
theorem ez_ph_180 : ∀ a, a < 180 → ez_mok ez_tb ez_M0 a := lt_s (lt_s (lt_s (lt_s (lt_s (lt_s (lt_s (lt_s (lt_s (lt_s ez_ph_170 ez_h170) ez_h171) ez_h172) ez_h173) ez_h174) ez_h175) ez_h176) ez_h177) ez_h178) ez_h179
theorem ez_ph_190 : ∀ a, a < 190 → ez_mok ez_tb ez_M0 a := lt_s (lt_s (lt_s (lt_s (lt_s (lt_s (lt_s (lt_s (lt_s (lt_s ez_ph_180 ez_h180) ez_h181) ez_h182) ez_h183) ez_h184) ez_h185) ez_h186) ez_h187) ez_h188) ez_h189
theorem ez_ph_200 : ∀ a, a < 200 → ez_mok ez_tb ez_M0 a := lt_s (lt_s (lt_s (lt_s (lt_s (lt_s (lt_s (lt_s (lt_s (lt_s ez_ph_190 ez_h190) ez_h191) ez_h192) ez_h193) ez_h194) ez_h195) ez_h196) ez_h197) ez_h198) ez_h199
theorem ez_ph_210 : ∀ a, a < 210 → ez_mok ez_tb ez_M0 a := lt_s (lt_s (lt_s (lt_s (lt_s (lt_s (lt_s (lt_s (lt_s (lt_s ez_ph_200 ez_h200) ez_h201) ez_h202) ez_h203) ez_h204) ez_h205) ez_h206) ez_h207) ez_h208) ez_h209
theorem ez_ph_220 : ∀ a, a < 220 → ez_mok ez_tb ez_M0 a := lt_s (lt_s (lt_s (lt_s (lt_s (lt_s (lt_s (lt_s (lt_s (lt_s ez_ph_210 ez_h210) ez_h211) ez_h212) ez_h213) ez_h214) ez_h215) ez_h216) ez_h217) ez_h218) ez_h219
theorem ez_ph_230 : ∀ a, a < 230 → ez_mok ez_tb ez_M0 a := lt_s (lt_s (lt_s (lt_s (lt_s (lt_s (lt_s (lt_s (lt_s (lt_s ez_ph_220 ez_h220) ez_h221) ez_h222) ez_h223) ez_h224) ez_h225) ez_h226) ez_h227) ez_h228) ez_h229
theorem ez_ph_240 : ∀ a, a < 240 → ez_mok ez_tb ez_M0 a := lt_s (lt_s (lt_s (lt_s (lt_s (lt_s (lt_s (lt_s (lt_s (lt_s ez_ph_230 ez_h230) ez_h231) ez_h232) ez_h233) ez_h234) ez_h235) ez_h236) ez_h237) ez_h238) ez_h239
theorem ez_ph_241 : ∀ a, a < 241 → ez_mok ez_tb ez_M0 a := lt_s ez_ph_240 ez_h240
theorem ez_c0 : ez_okC ez_tb ez_cl0 ez_K0 ez_ty0 ez_nw0 0 := ⟨rfl, by decide +kernel, by decide +kernel, by decide +kernel, List.mem_of_getElem? (i := 334) (by decide +kernel), List.mem_of_getElem? (i := 79) (by decide +kernel), by decide +kernel, by decide +kernel⟩
theorem ez_c1 : ez_okC ez_tb ez_cl0 ez_K0 ez_ty0 ez_nw0 1 := ⟨rfl, by decide +kernel, by decide +kernel, by decide +kernel, List.mem_of_getElem? (i := 406) (by decide +kernel), List.mem_of_getElem? (i := 81) (by decide +kernel), by decide +kernel, by decide +kernel⟩
theorem ez_c2 : ez_okC ez_tb ez_cl0 ez_K0 ez_ty0 ez_nw0 2 := ⟨rfl, by decide +kernel, by decide +kernel, by decide +kernel, List.mem_of_getElem? (i := 147) (by decide +kernel), List.mem_of_getElem? (i := 72) (by decide +kernel), by decide +kernel, by decide +kernel⟩
theorem ez_c3 : ez_okC ez_tb ez_cl0 ez_K0 ez_ty0 ez_nw0 3 := ⟨rfl, by decide +kernel, by decide +kernel, by decide +kernel, List.mem_of_getElem? (i := 379) (by decide +kernel), List.mem_of_getElem? (i := 80) (by decide +kernel), by decide +kernel, by decide +kernel⟩
theorem ez_c4 : ez_okC ez_tb ez_cl0 ez_K0 ez_ty0 ez_nw0 4 := ⟨rfl, by decide +kernel, by decide +kernel, by decide +kernel, List.mem_of_getElem? (i := 247) (by decide +kernel), List.mem_of_getElem? (i := 76) (by decide +kernel), by decide +kernel, by decide +kernel⟩
theorem ez_c5 : ez_okC ez_tb ez_cl0 ez_K0 ez_ty0 ez_nw0 5 := ⟨rfl, by decide +kernel, by decide +kernel, by decide +kernel, List.mem_of_getElem? (i := 303) (by decide +kernel), List.mem_of_getElem? (i := 78) (by decide +kernel), by decide +kernel, by decide +kernel⟩
theorem ez_c6 : ez_okC ez_tb ez_cl0 ez_K0 ez_ty0 ez_nw0 6 := ⟨rfl, by decide +kernel, by decide +kernel, by decide +kernel, List.mem_of_getElem? (i := 197) (by decide +kernel), List.mem_of_getElem? (i := 74) (by decide +kernel), by decide +kernel, by decide +kernel⟩
theorem ez_c7 : ez_okC ez_tb ez_cl0 ez_K0 ez_ty0 ez_nw0 7 := ⟨rfl, by decide +kernel, by decide +kernel, by decide +kernel, List.mem_of_getElem? (i := 222) (by decide +kernel), List.mem_of_getElem? (i := 75) (by decide +kernel), by decide +kernel, by decide +kernel⟩
theorem ez_c8 : ez_okC ez_tb ez_cl0 ez_K0 ez_ty0 ez_nw0 8 := ⟨rfl, by decide +kernel, by decide +kernel, by decide +kernel, List.mem_of_getElem? (i := 169) (by decide +kernel), List.mem_of_getElem? (i := 73) (by decide +kernel), by decide +kernel, by decide +kernel⟩
theorem ez_c9 : ez_okC ez_tb ez_cl0 ez_K0 ez_ty0 ez_nw0 9 := ⟨rfl, by decide +kernel, by decide +kernel, by decide +kernel, List.mem_of_getElem? (i := 95) (by decide +kernel), List.mem_of_getElem? (i := 71) (by decide +kernel), by decide +kernel, by decide +kernel⟩
theorem ez_c10 : ez_okC ez_tb ez_cl0 ez_K0 ez_ty0 ez_nw0 10 := ⟨rfl, by decide +kernel, by decide +kernel, by decide +kernel, List.mem_of_getElem? (i := 253) (by decide +kernel), List.mem_of_getElem? (i := 77) (by decide +kernel), by decide +kernel, by decide +kernel⟩
theorem ez_c11 : ez_okC ez_tb ez_cl0 ez_K0 ez_ty0 ez_nw0 11 := ⟨rfl, by decide +kernel, by decide +kernel, by decide +kernel, List.mem_of_getElem? (i := 87) (by decide +kernel), List.mem_of_getElem? (i := 70) (by decide +kernel), by decide +kernel, by decide +kernel⟩
theorem ez_c12 : ez_okC ez_tb ez_cl0 ez_K0 ez_ty0 ez_nw0 12 := ⟨rfl, by decide +kernel, by decide +kernel, by decide +kernel, List.mem_of_getElem? (i := 1121) (by decide +kernel), List.mem_of_getElem? (i := 82) (by decide +kernel), by decide +kernel, by decide +kernel⟩
theorem ez_hC : ∀ ci, ci < 13 → ez_okC ez_tb ez_cl0 ez_K0 ez_ty0 ez_nw0 ci := lt_s (lt_s (lt_s (lt_s (lt_s (lt_s (lt_s (lt_s (lt_s (lt_s (lt_s (lt_s (lt_s (lt_0) ez_c0) ez_c1) ez_c2) ez_c3) ez_c4) ez_c5) ez_c6) ez_c7) ez_c8) ez_c9) ez_c10) ez_c11) ez_c12
theorem ez_hg : ∀ w ∈ ez_tb, (goodWord w || ez_nest w) = true := List.all_eq_true.mp (by decide +kernel)
theorem ez_hmax : Cond.static Lib.Math.max.name ∈ ez_tb ∧ Cond.initialized "java/lang/Math" ∈ ez_tb ∧ Cond.code Lib.Math.max.name Lib.Math.max.code 2 (some .int) ∈ ez_tb := ⟨List.mem_of_getElem? (i := 620) (by decide +kernel), List.mem_of_getElem? (i := 84) (by decide +kernel), List.mem_of_getElem? (i := 621) (by decide +kernel)⟩
theorem ez_hmin : Cond.static Lib.Math.min.name ∈ ez_tb ∧ Cond.code Lib.Math.min.name Lib.Math.min.code 2 (some .int) ∈ ez_tb := ⟨List.mem_of_getElem? (i := 623) (by decide +kernel), List.mem_of_getElem? (i := 624) (by decide +kernel)⟩
theorem ez_hobj : Cond.instanceMethod Lib.objectInit ∈ ez_tb ∧ Cond.code Lib.objectInit ⟨#[0xb1]⟩ 1 none ∈ ez_tb := ⟨List.mem_of_getElem? (i := 92) (by decide +kernel), List.mem_of_getElem? (i := 93) (by decide +kernel)⟩
