section
/-! The checks together. -/
noncomputable def ez_pi (m : Nat) : Prop := ∀ (pc : Nat) (x : ez_I), ez_P0 m pc = some x → ez_okI () ez_M0 ez_K0 ez_nM 13 m pc x = true
theorem ez_pi_0 : ∀ a, a < 0 → ez_pi a := lt_0
theorem ez_pi_10 : ∀ a, a < 10 → ez_pi a := lt_s (lt_s (lt_s (lt_s (lt_s (lt_s (lt_s (lt_s (lt_s (lt_s ez_pi_0 ez_i0) ez_i1) ez_i2) ez_i3) ez_i4) ez_i5) ez_i6) ez_i7) ez_i8) ez_i9
theorem ez_pi_20 : ∀ a, a < 20 → ez_pi a := lt_s (lt_s (lt_s (lt_s (lt_s (lt_s (lt_s (lt_s (lt_s (lt_s ez_pi_10 ez_i10) ez_i11) ez_i12) ez_i13) ez_i14) ez_i15) ez_i16) ez_i17) ez_i18) ez_i19
theorem ez_pi_30 : ∀ a, a < 30 → ez_pi a := lt_s (lt_s (lt_s (lt_s (lt_s (lt_s (lt_s (lt_s (lt_s (lt_s ez_pi_20 ez_i20) ez_i21) ez_i22) ez_i23) ez_i24) ez_i25) ez_i26) ez_i27) ez_i28) ez_i29
theorem ez_pi_40 : ∀ a, a < 40 → ez_pi a := lt_s (lt_s (lt_s (lt_s (lt_s (lt_s (lt_s (lt_s (lt_s (lt_s ez_pi_30 ez_i30) ez_i31) ez_i32) ez_i33) ez_i34) ez_i35) ez_i36) ez_i37) ez_i38) ez_i39
theorem ez_pi_50 : ∀ a, a < 50 → ez_pi a := lt_s (lt_s (lt_s (lt_s (lt_s (lt_s (lt_s (lt_s (lt_s (lt_s ez_pi_40 ez_i40) ez_i41) ez_i42) ez_i43) ez_i44) ez_i45) ez_i46) ez_i47) ez_i48) ez_i49
theorem ez_pi_60 : ∀ a, a < 60 → ez_pi a := lt_s (lt_s (lt_s (lt_s (lt_s (lt_s (lt_s (lt_s (lt_s (lt_s ez_pi_50 ez_i50) ez_i51) ez_i52) ez_i53) ez_i54) ez_i55) ez_i56) ez_i57) ez_i58) ez_i59
theorem ez_pi_70 : ∀ a, a < 70 → ez_pi a := lt_s (lt_s (lt_s (lt_s (lt_s (lt_s (lt_s (lt_s (lt_s (lt_s ez_pi_60 ez_i60) ez_i61) ez_i62) ez_i63) ez_i64) ez_i65) ez_i66) ez_i67) ez_i68) ez_i69
theorem ez_pi_80 : ∀ a, a < 80 → ez_pi a := lt_s (lt_s (lt_s (lt_s (lt_s (lt_s (lt_s (lt_s (lt_s (lt_s ez_pi_70 ez_i70) ez_i71) ez_i72) ez_i73) ez_i74) ez_i75) ez_i76) ez_i77) ez_i78) ez_i79
theorem ez_pi_90 : ∀ a, a < 90 → ez_pi a := lt_s (lt_s (lt_s (lt_s (lt_s (lt_s (lt_s (lt_s (lt_s (lt_s ez_pi_80 ez_i80) ez_i81) ez_i82) ez_i83) ez_i84) ez_i85) ez_i86) ez_i87) ez_i88) ez_i89
theorem ez_pi_100 : ∀ a, a < 100 → ez_pi a := lt_s (lt_s (lt_s (lt_s (lt_s (lt_s (lt_s (lt_s (lt_s (lt_s ez_pi_90 ez_i90) ez_i91) ez_i92) ez_i93) ez_i94) ez_i95) ez_i96) ez_i97) ez_i98) ez_i99
theorem ez_pi_110 : ∀ a, a < 110 → ez_pi a := lt_s (lt_s (lt_s (lt_s (lt_s (lt_s (lt_s (lt_s (lt_s (lt_s ez_pi_100 ez_i100) ez_i101) ez_i102) ez_i103) ez_i104) ez_i105) ez_i106) ez_i107) ez_i108) ez_i109
theorem ez_pi_120 : ∀ a, a < 120 → ez_pi a := lt_s (lt_s (lt_s (lt_s (lt_s (lt_s (lt_s (lt_s (lt_s (lt_s ez_pi_110 ez_i110) ez_i111) ez_i112) ez_i113) ez_i114) ez_i115) ez_i116) ez_i117) ez_i118) ez_i119
theorem ez_pi_130 : ∀ a, a < 130 → ez_pi a := lt_s (lt_s (lt_s (lt_s (lt_s (lt_s (lt_s (lt_s (lt_s (lt_s ez_pi_120 ez_i120) ez_i121) ez_i122) ez_i123) ez_i124) ez_i125) ez_i126) ez_i127) ez_i128) ez_i129
theorem ez_pi_140 : ∀ a, a < 140 → ez_pi a := lt_s (lt_s (lt_s (lt_s (lt_s (lt_s (lt_s (lt_s (lt_s (lt_s ez_pi_130 ez_i130) ez_i131) ez_i132) ez_i133) ez_i134) ez_i135) ez_i136) ez_i137) ez_i138) ez_i139
theorem ez_pi_150 : ∀ a, a < 150 → ez_pi a := lt_s (lt_s (lt_s (lt_s (lt_s (lt_s (lt_s (lt_s (lt_s (lt_s ez_pi_140 ez_i140) ez_i141) ez_i142) ez_i143) ez_i144) ez_i145) ez_i146) ez_i147) ez_i148) ez_i149
theorem ez_pi_160 : ∀ a, a < 160 → ez_pi a := lt_s (lt_s (lt_s (lt_s (lt_s (lt_s (lt_s (lt_s (lt_s (lt_s ez_pi_150 ez_i150) ez_i151) ez_i152) ez_i153) ez_i154) ez_i155) ez_i156) ez_i157) ez_i158) ez_i159
theorem ez_pi_170 : ∀ a, a < 170 → ez_pi a := lt_s (lt_s (lt_s (lt_s (lt_s (lt_s (lt_s (lt_s (lt_s (lt_s ez_pi_160 ez_i160) ez_i161) ez_i162) ez_i163) ez_i164) ez_i165) ez_i166) ez_i167) ez_i168) ez_i169
theorem ez_pi_180 : ∀ a, a < 180 → ez_pi a := lt_s (lt_s (lt_s (lt_s (lt_s (lt_s (lt_s (lt_s (lt_s (lt_s ez_pi_170 ez_i170) ez_i171) ez_i172) ez_i173) ez_i174) ez_i175) ez_i176) ez_i177) ez_i178) ez_i179
theorem ez_pi_190 : ∀ a, a < 190 → ez_pi a := lt_s (lt_s (lt_s (lt_s (lt_s (lt_s (lt_s (lt_s (lt_s (lt_s ez_pi_180 ez_i180) ez_i181) ez_i182) ez_i183) ez_i184) ez_i185) ez_i186) ez_i187) ez_i188) ez_i189
theorem ez_pi_200 : ∀ a, a < 200 → ez_pi a := lt_s (lt_s (lt_s (lt_s (lt_s (lt_s (lt_s (lt_s (lt_s (lt_s ez_pi_190 ez_i190) ez_i191) ez_i192) ez_i193) ez_i194) ez_i195) ez_i196) ez_i197) ez_i198) ez_i199
theorem ez_pi_210 : ∀ a, a < 210 → ez_pi a := lt_s (lt_s (lt_s (lt_s (lt_s (lt_s (lt_s (lt_s (lt_s (lt_s ez_pi_200 ez_i200) ez_i201) ez_i202) ez_i203) ez_i204) ez_i205) ez_i206) ez_i207) ez_i208) ez_i209
theorem ez_pi_220 : ∀ a, a < 220 → ez_pi a := lt_s (lt_s (lt_s (lt_s (lt_s (lt_s (lt_s (lt_s (lt_s (lt_s ez_pi_210 ez_i210) ez_i211) ez_i212) ez_i213) ez_i214) ez_i215) ez_i216) ez_i217) ez_i218) ez_i219
theorem ez_pi_230 : ∀ a, a < 230 → ez_pi a := lt_s (lt_s (lt_s (lt_s (lt_s (lt_s (lt_s (lt_s (lt_s (lt_s ez_pi_220 ez_i220) ez_i221) ez_i222) ez_i223) ez_i224) ez_i225) ez_i226) ez_i227) ez_i228) ez_i229
theorem ez_pi_240 : ∀ a, a < 240 → ez_pi a := lt_s (lt_s (lt_s (lt_s (lt_s (lt_s (lt_s (lt_s (lt_s (lt_s ez_pi_230 ez_i230) ez_i231) ez_i232) ez_i233) ez_i234) ez_i235) ez_i236) ez_i237) ez_i238) ez_i239
theorem ez_pi_242 : ∀ a, a < 242 → ez_pi a := lt_s (lt_s ez_pi_240 ez_i240) ez_i241
theorem ez_hI : ∀ m, m ≤ ez_nM → ez_pi m := fun m hm => ez_pi_242 m (Nat.lt_succ_of_le hm)
theorem ez_h0 : ez_mok () ez_M0 0 := ez_mok_of (w1 := 1021) (w2 := 1001) (w3 := 1020) (w4 := 0) (by decide +kernel)
theorem ez_h1 : ez_mok () ez_M0 1 := ez_mok_of (w1 := 3147) (w2 := 1001) (w3 := 3145) (w4 := 3146) (by decide +kernel)
theorem ez_h2 : ez_mok () ez_M0 2 := ez_mok_of (w1 := 2191) (w2 := 1001) (w3 := 2190) (w4 := 2) (by decide +kernel)
theorem ez_h3 : ez_mok () ez_M0 3 := ez_mok_of (w1 := 3005) (w2 := 1001) (w3 := 3004) (w4 := 0) (by decide +kernel)
theorem ez_h4 : ez_mok () ez_M0 4 := ez_mok_of (w1 := 3008) (w2 := 1001) (w3 := 3007) (w4 := 0) (by decide +kernel)
theorem ez_h5 : ez_mok () ez_M0 5 := ez_mok_of (w1 := 3174) (w2 := 1001) (w3 := 3172) (w4 := 3173) (by decide +kernel)
theorem ez_h6 : ez_mok () ez_M0 6 := ez_mok_of (w1 := 4091) (w2 := 1001) (w3 := 4089) (w4 := 4090) (by decide +kernel)
theorem ez_h7 : ez_mok () ez_M0 7 := ez_mok_of (w1 := 4106) (w2 := 1001) (w3 := 4104) (w4 := 4105) (by decide +kernel)
theorem ez_h8 : ez_mok () ez_M0 8 := ez_mok_of (w1 := 5002) (w2 := 1001) (w3 := 5000) (w4 := 5001) (by decide +kernel)
theorem ez_h9 : ez_mok () ez_M0 9 := ez_mok_of (w1 := 5012) (w2 := 1001) (w3 := 5010) (w4 := 5011) (by decide +kernel)
theorem ez_h10 : ez_mok () ez_M0 10 := ez_mok_of (w1 := 3126) (w2 := 1001) (w3 := 3124) (w4 := 3125) (by decide +kernel)
theorem ez_h11 : ez_mok () ez_M0 11 := ez_mok_of (w1 := 4204) (w2 := 1001) (w3 := 4202) (w4 := 4203) (by decide +kernel)
theorem ez_h12 : ez_mok () ez_M0 12 := ez_mok_of (w1 := 2183) (w2 := 1001) (w3 := 2182) (w4 := 1) (by decide +kernel)
theorem ez_h13 : ez_mok () ez_M0 13 := ez_mok_of (w1 := 5093) (w2 := 1001) (w3 := 5091) (w4 := 5092) (by decide +kernel)
theorem ez_h14 : ez_mok () ez_M0 14 := ez_mok_of (w1 := 5047) (w2 := 1001) (w3 := 5045) (w4 := 5046) (by decide +kernel)
theorem ez_h15 : ez_mok () ez_M0 15 := ez_mok_of (w1 := 4140) (w2 := 1001) (w3 := 4139) (w4 := 22) (by decide +kernel)
theorem ez_h16 : ez_mok () ez_M0 16 := ez_mok_of (w1 := 3030) (w2 := 1001) (w3 := 3028) (w4 := 3029) (by decide +kernel)
theorem ez_h17 : ez_mok () ez_M0 17 := ez_mok_of (w1 := 5078) (w2 := 1001) (w3 := 5076) (w4 := 5077) (by decide +kernel)
theorem ez_h18 : ez_mok () ez_M0 18 := ez_mok_of (w1 := 2154) (w2 := 1001) (w3 := 2152) (w4 := 2153) (by decide +kernel)
theorem ez_h19 : ez_mok () ez_M0 19 := ez_mok_of (w1 := 3077) (w2 := 1001) (w3 := 3076) (w4 := 0) (by decide +kernel)
theorem ez_h20 : ez_mok () ez_M0 20 := ez_mok_of (w1 := 4216) (w2 := 1001) (w3 := 4214) (w4 := 4215) (by decide +kernel)
theorem ez_h21 : ez_mok () ez_M0 21 := ez_mok_of (w1 := 3151) (w2 := 1001) (w3 := 3150) (w4 := 13) (by decide +kernel)
theorem ez_h22 : ez_mok () ez_M0 22 := ez_mok_of (w1 := 3130) (w2 := 1001) (w3 := 3129) (w4 := 11) (by decide +kernel)
theorem ez_h23 : ez_mok () ez_M0 23 := ez_mok_of (w1 := 3114) (w2 := 1001) (w3 := 3113) (w4 := 10) (by decide +kernel)
theorem ez_h24 : ez_mok () ez_M0 24 := ez_mok_of (w1 := 5051) (w2 := 1001) (w3 := 5050) (w4 := 31) (by decide +kernel)
theorem ez_h25 : ez_mok () ez_M0 25 := ez_mok_of (w1 := 3042) (w2 := 1001) (w3 := 3041) (w4 := 6) (by decide +kernel)
theorem ez_h26 : ez_mok () ez_M0 26 := ez_mok_of (w1 := 3110) (w2 := 1001) (w3 := 3108) (w4 := 3109) (by decide +kernel)
theorem ez_h27 : ez_mok () ez_M0 27 := ez_mok_of (w1 := 3060) (w2 := 1001) (w3 := 3058) (w4 := 3059) (by decide +kernel)
theorem ez_h28 : ez_mok () ez_M0 28 := ez_mok_of (w1 := 2171) (w2 := 1001) (w3 := 2170) (w4 := 0) (by decide +kernel)
theorem ez_h29 : ez_mok () ez_M0 29 := ez_mok_of (w1 := 3232) (w2 := 1001) (w3 := 3230) (w4 := 3231) (by decide +kernel)
theorem ez_h30 : ez_mok () ez_M0 30 := ez_mok_of (w1 := 3236) (w2 := 1001) (w3 := 3235) (w4 := 17) (by decide +kernel)
theorem ez_h31 : ez_mok () ez_M0 31 := ez_mok_of (w1 := 3223) (w2 := 1001) (w3 := 3221) (w4 := 3222) (by decide +kernel)
theorem ez_h32 : ez_mok () ez_M0 32 := ez_mok_of (w1 := 3169) (w2 := 1001) (w3 := 3167) (w4 := 3168) (by decide +kernel)
theorem ez_h33 : ez_mok () ez_M0 33 := ez_mok_of (w1 := 5124) (w2 := 1001) (w3 := 5122) (w4 := 5123) (by decide +kernel)
theorem ez_h34 : ez_mok () ez_M0 34 := ez_mok_of (w1 := 4136) (w2 := 1001) (w3 := 4134) (w4 := 4135) (by decide +kernel)
theorem ez_h35 : ez_mok () ez_M0 35 := ez_mok_of (w1 := 3134) (w2 := 1001) (w3 := 3133) (w4 := 12) (by decide +kernel)
theorem ez_h36 : ez_mok () ez_M0 36 := ez_mok_of (w1 := 4020) (w2 := 1001) (w3 := 4019) (w4 := 0) (by decide +kernel)
theorem ez_h37 : ez_mok () ez_M0 37 := ez_mok_of (w1 := 4083) (w2 := 1001) (w3 := 4081) (w4 := 4082) (by decide +kernel)
theorem ez_h38 : ez_mok () ez_M0 38 := ez_mok_of (w1 := 1033) (w2 := 1001) (w3 := 1032) (w4 := 0) (by decide +kernel)
theorem ez_h39 : ez_mok () ez_M0 39 := ez_mok_of (w1 := 3011) (w2 := 1001) (w3 := 3010) (w4 := 0) (by decide +kernel)
theorem ez_h40 : ez_mok () ez_M0 40 := ez_mok_of (w1 := 5064) (w2 := 1001) (w3 := 5062) (w4 := 5063) (by decide +kernel)
theorem ez_h41 : ez_mok () ez_M0 41 := ez_mok_of (w1 := 3143) (w2 := 1001) (w3 := 3141) (w4 := 3142) (by decide +kernel)
theorem ez_h42 : ez_mok () ez_M0 42 := ez_mok_of (w1 := 3021) (w2 := 1001) (w3 := 3019) (w4 := 3020) (by decide +kernel)
theorem ez_h43 : ez_mok () ez_M0 43 := ez_mok_of (w1 := 2203) (w2 := 1001) (w3 := 2201) (w4 := 2202) (by decide +kernel)
theorem ez_h44 : ez_mok () ez_M0 44 := ez_mok_of (w1 := 3050) (w2 := 1001) (w3 := 3048) (w4 := 3049) (by decide +kernel)
theorem ez_h45 : ez_mok () ez_M0 45 := ez_mok_of (w1 := 3122) (w2 := 1001) (w3 := 3121) (w4 := 0) (by decide +kernel)
theorem ez_h46 : ez_mok () ez_M0 46 := ez_mok_of (w1 := 3038) (w2 := 1001) (w3 := 3036) (w4 := 3037) (by decide +kernel)
theorem ez_h47 : ez_mok () ez_M0 47 := ez_mok_of (w1 := 4228) (w2 := 1001) (w3 := 4226) (w4 := 4227) (by decide +kernel)
theorem ez_h48 : ez_mok () ez_M0 48 := ez_mok_of (w1 := 4075) (w2 := 1001) (w3 := 4073) (w4 := 4074) (by decide +kernel)
theorem ez_h49 : ez_mok () ez_M0 49 := ez_mok_of (w1 := 4190) (w2 := 1001) (w3 := 4189) (w4 := 0) (by decide +kernel)
theorem ez_h50 : ez_mok () ez_M0 50 := ez_mok_of (w1 := 5020) (w2 := 1001) (w3 := 5018) (w4 := 5019) (by decide +kernel)
theorem ez_h51 : ez_mok () ez_M0 51 := ez_mok_of (w1 := 4067) (w2 := 1001) (w3 := 4065) (w4 := 4066) (by decide +kernel)
theorem ez_h52 : ez_mok () ez_M0 52 := ez_mok_of (w1 := 3064) (w2 := 1001) (w3 := 3063) (w4 := 7) (by decide +kernel)
theorem ez_h53 : ez_mok () ez_M0 53 := ez_mok_of (w1 := 3182) (w2 := 1001) (w3 := 3180) (w4 := 3181) (by decide +kernel)
theorem ez_h54 : ez_mok () ez_M0 54 := ez_mok_of (w1 := 4059) (w2 := 1001) (w3 := 4057) (w4 := 4058) (by decide +kernel)
theorem ez_h55 : ez_mok () ez_M0 55 := ez_mok_of (w1 := 2157) (w2 := 1001) (w3 := 2156) (w4 := 0) (by decide +kernel)
theorem ez_h56 : ez_mok () ez_M0 56 := ez_mok_of (w1 := 2028) (w2 := 1010) (w3 := 2027) (w4 := 0) (by decide +kernel)
theorem ez_h57 : ez_mok () ez_M0 57 := ez_mok_of (w1 := 4220) (w2 := 1010) (w3 := 4218) (w4 := 4219) (by decide +kernel)
theorem ez_h58 : ez_mok () ez_M0 58 := ez_mok_of (w1 := 4187) (w2 := 1010) (w3 := 4186) (w4 := 28) (by decide +kernel)
theorem ez_h59 : ez_mok () ez_M0 59 := ez_mok_of (w1 := 4196) (w2 := 1010) (w3 := 4195) (w4 := 29) (by decide +kernel)
theorem ez_h60 : ez_mok () ez_M0 60 := ez_mok_of (w1 := 4212) (w2 := 1010) (w3 := 4210) (w4 := 4211) (by decide +kernel)
theorem ez_h61 : ez_mok () ez_M0 61 := ez_mok_of (w1 := 4161) (w2 := 1010) (w3 := 4160) (w4 := 25) (by decide +kernel)
theorem ez_h62 : ez_mok () ez_M0 62 := ez_mok_of (w1 := 2179) (w2 := 1010) (w3 := 2177) (w4 := 2178) (by decide +kernel)
theorem ez_h63 : ez_mok () ez_M0 63 := ez_mok_of (w1 := 4183) (w2 := 1010) (w3 := 4182) (w4 := 27) (by decide +kernel)
theorem ez_h64 : ez_mok () ez_M0 64 := ez_mok_of (w1 := 4224) (w2 := 1010) (w3 := 4222) (w4 := 4223) (by decide +kernel)
theorem ez_h65 : ez_mok () ez_M0 65 := ez_mok_of (w1 := 4200) (w2 := 1010) (w3 := 4198) (w4 := 4199) (by decide +kernel)
theorem ez_h66 : ez_mok () ez_M0 66 := ez_mok_of (w1 := 4148) (w2 := 1010) (w3 := 4147) (w4 := 23) (by decide +kernel)
theorem ez_h67 : ez_mok () ez_M0 67 := ez_mok_of (w1 := 4144) (w2 := 1010) (w3 := 4142) (w4 := 4143) (by decide +kernel)
theorem ez_h68 : ez_mok () ez_M0 68 := ez_mok_of (w1 := 4171) (w2 := 1010) (w3 := 4170) (w4 := 26) (by decide +kernel)
theorem ez_h69 : ez_mok () ez_M0 69 := ez_mok_of (w1 := 4156) (w2 := 1010) (w3 := 4155) (w4 := 24) (by decide +kernel)
theorem ez_h70 : ez_mok () ez_M0 70 := ez_mok_of (w1 := 4208) (w2 := 1010) (w3 := 4206) (w4 := 4207) (by decide +kernel)
theorem ez_h71 : ez_mok () ez_M0 71 := ez_mok_of (w1 := 2100) (w2 := 1012) (w3 := 2099) (w4 := 0) (by decide +kernel)
theorem ez_h72 : ez_mok () ez_M0 72 := ez_mok_of (w1 := 2105) (w2 := 1012) (w3 := 2103) (w4 := 2104) (by decide +kernel)
theorem ez_h73 : ez_mok () ez_M0 73 := ez_mok_of (w1 := 5069) (w2 := 1012) (w3 := 5067) (w4 := 5068) (by decide +kernel)
theorem ez_h74 : ez_mok () ez_M0 74 := ez_mok_of (w1 := 5097) (w2 := 1012) (w3 := 5095) (w4 := 5096) (by decide +kernel)
theorem ez_h75 : ez_mok () ez_M0 75 := ez_mok_of (w1 := 5087) (w2 := 1012) (w3 := 5086) (w4 := 32) (by decide +kernel)
theorem ez_h76 : ez_mok () ez_M0 76 := ez_mok_of (w1 := 5082) (w2 := 1012) (w3 := 5080) (w4 := 5081) (by decide +kernel)
theorem ez_h77 : ez_mok () ez_M0 77 := ez_mok_of (w1 := 5109) (w2 := 1012) (w3 := 5108) (w4 := 35) (by decide +kernel)
theorem ez_h78 : ez_mok () ez_M0 78 := ez_mok_of (w1 := 5119) (w2 := 1012) (w3 := 5118) (w4 := 37) (by decide +kernel)
theorem ez_h79 : ez_mok () ez_M0 79 := ez_mok_of (w1 := 5101) (w2 := 1012) (w3 := 5100) (w4 := 33) (by decide +kernel)
theorem ez_h80 : ez_mok () ez_M0 80 := ez_mok_of (w1 := 5115) (w2 := 1012) (w3 := 5114) (w4 := 36) (by decide +kernel)
theorem ez_h81 : ez_mok () ez_M0 81 := ez_mok_of (w1 := 5059) (w2 := 1012) (w3 := 5057) (w4 := 5058) (by decide +kernel)
theorem ez_h82 : ez_mok () ez_M0 82 := ez_mok_of (w1 := 5128) (w2 := 1012) (w3 := 5126) (w4 := 5127) (by decide +kernel)
theorem ez_h83 : ez_mok () ez_M0 83 := ez_mok_of (w1 := 5105) (w2 := 1012) (w3 := 5104) (w4 := 34) (by decide +kernel)
theorem ez_h84 : ez_mok () ez_M0 84 := ez_mok_of (w1 := 1081) (w2 := 1003) (w3 := 1080) (w4 := 0) (by decide +kernel)
theorem ez_h85 : ez_mok () ez_M0 85 := ez_mok_of (w1 := 2214) (w2 := 1003) (w3 := 2212) (w4 := 2213) (by decide +kernel)
theorem ez_h86 : ez_mok () ez_M0 86 := ez_mok_of (w1 := 3055) (w2 := 1003) (w3 := 3053) (w4 := 3054) (by decide +kernel)
theorem ez_h87 : ez_mok () ez_M0 87 := ez_mok_of (w1 := 3191) (w2 := 1003) (w3 := 3189) (w4 := 3190) (by decide +kernel)
theorem ez_h88 : ez_mok () ez_M0 88 := ez_mok_of (w1 := 2162) (w2 := 1003) (w3 := 2160) (w4 := 2161) (by decide +kernel)
theorem ez_h89 : ez_mok () ez_M0 89 := ez_mok_of (w1 := 3068) (w2 := 1003) (w3 := 3066) (w4 := 3067) (by decide +kernel)
theorem ez_h90 : ez_mok () ez_M0 90 := ez_mok_of (w1 := 3017) (w2 := 1003) (w3 := 3016) (w4 := 0) (by decide +kernel)
theorem ez_h91 : ez_mok () ez_M0 91 := ez_mok_of (w1 := 3002) (w2 := 1003) (w3 := 3001) (w4 := 5) (by decide +kernel)
theorem ez_h92 : ez_mok () ez_M0 92 := ez_mok_of (w1 := 2219) (w2 := 1003) (w3 := 2218) (w4 := 3) (by decide +kernel)
theorem ez_h93 : ez_mok () ez_M0 93 := ez_mok_of (w1 := 3014) (w2 := 1003) (w3 := 3013) (w4 := 0) (by decide +kernel)
theorem ez_h94 : ez_mok () ez_M0 94 := ez_mok_of (w1 := 3046) (w2 := 1003) (w3 := 3044) (w4 := 3045) (by decide +kernel)
theorem ez_h95 : ez_mok () ez_M0 95 := ez_mok_of (w1 := 2073) (w2 := 1011) (w3 := 2072) (w4 := 0) (by decide +kernel)
theorem ez_h96 : ez_mok () ez_M0 96 := ez_mok_of (w1 := 5042) (w2 := 1011) (w3 := 5041) (w4 := 30) (by decide +kernel)
theorem ez_h97 : ez_mok () ez_M0 97 := ez_mok_of (w1 := 4235) (w2 := 1011) (w3 := 4234) (w4 := 0) (by decide +kernel)
theorem ez_h98 : ez_mok () ez_M0 98 := ez_mok_of (w1 := 4232) (w2 := 1011) (w3 := 4230) (w4 := 4231) (by decide +kernel)
theorem ez_h99 : ez_mok () ez_M0 99 := ez_mok_of (w1 := 5032) (w2 := 1011) (w3 := 5031) (w4 := 0) (by decide +kernel)
theorem ez_h100 : ez_mok () ez_M0 100 := ez_mok_of (w1 := 5006) (w2 := 1011) (w3 := 5004) (w4 := 5005) (by decide +kernel)
theorem ez_h101 : ez_mok () ez_M0 101 := ez_mok_of (w1 := 5029) (w2 := 1011) (w3 := 5027) (w4 := 5028) (by decide +kernel)
theorem ez_h102 : ez_mok () ez_M0 102 := ez_mok_of (w1 := 5024) (w2 := 1011) (w3 := 5022) (w4 := 5023) (by decide +kernel)
theorem ez_h103 : ez_mok () ez_M0 103 := ez_mok_of (w1 := 5016) (w2 := 1011) (w3 := 5014) (w4 := 5015) (by decide +kernel)
theorem ez_h104 : ez_mok () ez_M0 104 := ez_mok_of (w1 := 1181) (w2 := 1007) (w3 := 1180) (w4 := 0) (by decide +kernel)
theorem ez_h105 : ez_mok () ez_M0 105 := ez_mok_of (w1 := 4025) (w2 := 1007) (w3 := 4023) (w4 := 4024) (by decide +kernel)
theorem ez_h106 : ez_mok () ez_M0 106 := ez_mok_of (w1 := 2187) (w2 := 1007) (w3 := 2185) (w4 := 2186) (by decide +kernel)
theorem ez_h107 : ez_mok () ez_M0 107 := ez_mok_of (w1 := 2195) (w2 := 1007) (w3 := 2193) (w4 := 2194) (by decide +kernel)
theorem ez_h108 : ez_mok () ez_M0 108 := ez_mok_of (w1 := 4004) (w2 := 1007) (w3 := 4003) (w4 := 18) (by decide +kernel)
theorem ez_h109 : ez_mok () ez_M0 109 := ez_mok_of (w1 := 4034) (w2 := 1007) (w3 := 4032) (w4 := 4033) (by decide +kernel)
theorem ez_h110 : ez_mok () ez_M0 110 := ez_mok_of (w1 := 4063) (w2 := 1007) (w3 := 4061) (w4 := 4062) (by decide +kernel)
theorem ez_h111 : ez_mok () ez_M0 111 := ez_mok_of (w1 := 4119) (w2 := 1007) (w3 := 4117) (w4 := 4118) (by decide +kernel)
theorem ez_h112 : ez_mok () ez_M0 112 := ez_mok_of (w1 := 4000) (w2 := 1007) (w3 := 3238) (w4 := 3239) (by decide +kernel)
theorem ez_h113 : ez_mok () ez_M0 113 := ez_mok_of (w1 := 4038) (w2 := 1007) (w3 := 4036) (w4 := 4037) (by decide +kernel)
theorem ez_h114 : ez_mok () ez_M0 114 := ez_mok_of (w1 := 1237) (w2 := 1009) (w3 := 1236) (w4 := 0) (by decide +kernel)
theorem ez_h115 : ez_mok () ez_M0 115 := ez_mok_of (w1 := 4114) (w2 := 1009) (w3 := 4113) (w4 := 19) (by decide +kernel)
theorem ez_h116 : ez_mok () ez_M0 116 := ez_mok_of (w1 := 4123) (w2 := 1009) (w3 := 4122) (w4 := 20) (by decide +kernel)
theorem ez_h117 : ez_mok () ez_M0 117 := ez_mok_of (w1 := 2199) (w2 := 1009) (w3 := 2197) (w4 := 2198) (by decide +kernel)
theorem ez_h118 : ez_mok () ez_M0 118 := ez_mok_of (w1 := 4130) (w2 := 1009) (w3 := 4129) (w4 := 21) (by decide +kernel)
theorem ez_h119 : ez_mok () ez_M0 119 := ez_mok_of (w1 := 4110) (w2 := 1009) (w3 := 4108) (w4 := 4109) (by decide +kernel)
theorem ez_h120 : ez_mok () ez_M0 120 := ez_mok_of (w1 := 1131) (w2 := 1005) (w3 := 1130) (w4 := 0) (by decide +kernel)
theorem ez_h121 : ez_mok () ez_M0 121 := ez_mok_of (w1 := 3138) (w2 := 1005) (w3 := 3136) (w4 := 3137) (by decide +kernel)
theorem ez_h122 : ez_mok () ez_M0 122 := ez_mok_of (w1 := 2166) (w2 := 1005) (w3 := 2164) (w4 := 2165) (by decide +kernel)
theorem ez_h123 : ez_mok () ez_M0 123 := ez_mok_of (w1 := 3178) (w2 := 1005) (w3 := 3176) (w4 := 3177) (by decide +kernel)
theorem ez_h124 : ez_mok () ez_M0 124 := ez_mok_of (w1 := 3197) (w2 := 1005) (w3 := 3195) (w4 := 3196) (by decide +kernel)
theorem ez_h125 : ez_mok () ez_M0 125 := ez_mok_of (w1 := 3160) (w2 := 1005) (w3 := 3158) (w4 := 3159) (by decide +kernel)
theorem ez_h126 : ez_mok () ez_M0 126 := ez_mok_of (w1 := 3155) (w2 := 1005) (w3 := 3153) (w4 := 3154) (by decide +kernel)
theorem ez_h127 : ez_mok () ez_M0 127 := ez_mok_of (w1 := 3164) (w2 := 1005) (w3 := 3162) (w4 := 3163) (by decide +kernel)
theorem ez_h128 : ez_mok () ez_M0 128 := ez_mok_of (w1 := 1156) (w2 := 1006) (w3 := 1155) (w4 := 0) (by decide +kernel)
theorem ez_h129 : ez_mok () ez_M0 129 := ez_mok_of (w1 := 4012) (w2 := 1006) (w3 := 4010) (w4 := 4011) (by decide +kernel)
theorem ez_h130 : ez_mok () ez_M0 130 := ez_mok_of (w1 := 3202) (w2 := 1006) (w3 := 3201) (w4 := 14) (by decide +kernel)
theorem ez_h131 : ez_mok () ez_M0 131 := ez_mok_of (w1 := 3212) (w2 := 1006) (w3 := 3211) (w4 := 15) (by decide +kernel)
theorem ez_h132 : ez_mok () ez_M0 132 := ez_mok_of (w1 := 3216) (w2 := 1006) (w3 := 3215) (w4 := 16) (by decide +kernel)
theorem ez_h133 : ez_mok () ez_M0 133 := ez_mok_of (w1 := 3228) (w2 := 1006) (w3 := 3226) (w4 := 3227) (by decide +kernel)
theorem ez_h134 : ez_mok () ez_M0 134 := ez_mok_of (w1 := 4016) (w2 := 1006) (w3 := 4014) (w4 := 4015) (by decide +kernel)
theorem ez_h135 : ez_mok () ez_M0 135 := ez_mok_of (w1 := 3186) (w2 := 1006) (w3 := 3184) (w4 := 3185) (by decide +kernel)
theorem ez_h136 : ez_mok () ez_M0 136 := ez_mok_of (w1 := 1103) (w2 := 1004) (w3 := 1102) (w4 := 0) (by decide +kernel)
theorem ez_h137 : ez_mok () ez_M0 137 := ez_mok_of (w1 := 4166) (w2 := 1004) (w3 := 4164) (w4 := 4165) (by decide +kernel)
theorem ez_h138 : ez_mok () ez_M0 138 := ez_mok_of (w1 := 3118) (w2 := 1004) (w3 := 3116) (w4 := 3117) (by decide +kernel)
theorem ez_h139 : ez_mok () ez_M0 139 := ez_mok_of (w1 := 2175) (w2 := 1004) (w3 := 2173) (w4 := 2174) (by decide +kernel)
theorem ez_h140 : ez_mok () ez_M0 140 := ez_mok_of (w1 := 3073) (w2 := 1004) (w3 := 3071) (w4 := 3072) (by decide +kernel)
theorem ez_h141 : ez_mok () ez_M0 141 := ez_mok_of (w1 := 3101) (w2 := 1004) (w3 := 3100) (w4 := 8) (by decide +kernel)
theorem ez_h142 : ez_mok () ez_M0 142 := ez_mok_of (w1 := 3105) (w2 := 1004) (w3 := 3104) (w4 := 9) (by decide +kernel)
theorem ez_h143 : ez_mok () ez_M0 143 := ez_mok_of (w1 := 1029) (w2 := 1002) (w3 := 1028) (w4 := 0) (by decide +kernel)
theorem ez_h144 : ez_mok () ez_M0 144 := ez_mok_of (w1 := 3089) (w2 := 1002) (w3 := 3087) (w4 := 3088) (by decide +kernel)
theorem ez_h145 : ez_mok () ez_M0 145 := ez_mok_of (w1 := 1037) (w2 := 1002) (w3 := 1035) (w4 := 1036) (by decide +kernel)
theorem ez_h146 : ez_mok () ez_M0 146 := ez_mok_of (w1 := 3025) (w2 := 1002) (w3 := 3023) (w4 := 3024) (by decide +kernel)
theorem ez_h147 : ez_mok () ez_M0 147 := ez_mok_of (w1 := 3093) (w2 := 1002) (w3 := 3091) (w4 := 3092) (by decide +kernel)
theorem ez_h148 : ez_mok () ez_M0 148 := ez_mok_of (w1 := 3097) (w2 := 1002) (w3 := 3095) (w4 := 3096) (by decide +kernel)
theorem ez_h149 : ez_mok () ez_M0 149 := ez_mok_of (w1 := 2223) (w2 := 1002) (w3 := 2221) (w4 := 2222) (by decide +kernel)
theorem ez_h150 : ez_mok () ez_M0 150 := ez_mok_of (w1 := 5073) (w2 := 1002) (w3 := 5071) (w4 := 5072) (by decide +kernel)
theorem ez_h151 : ez_mok () ez_M0 151 := ez_mok_of (w1 := 5055) (w2 := 1002) (w3 := 5053) (w4 := 5054) (by decide +kernel)
theorem ez_h152 : ez_mok () ez_M0 152 := ez_mok_of (w1 := 3208) (w2 := 1002) (w3 := 3206) (w4 := 3207) (by decide +kernel)
theorem ez_h153 : ez_mok () ez_M0 153 := ez_mok_of (w1 := 3034) (w2 := 1002) (w3 := 3032) (w4 := 3033) (by decide +kernel)
theorem ez_h154 : ez_mok () ez_M0 154 := ez_mok_of (w1 := 2227) (w2 := 1002) (w3 := 2226) (w4 := 4) (by decide +kernel)
theorem ez_h155 : ez_mok () ez_M0 155 := ez_mok_of (w1 := 1187) (w2 := 1008) (w3 := 1186) (w4 := 0) (by decide +kernel)
theorem ez_h156 : ez_mok () ez_M0 156 := ez_mok_of (w1 := 4044) (w2 := 1008) (w3 := 4042) (w4 := 4043) (by decide +kernel)
theorem ez_h157 : ez_mok () ez_M0 157 := ez_mok_of (w1 := 4095) (w2 := 1008) (w3 := 4093) (w4 := 4094) (by decide +kernel)
theorem ez_h158 : ez_mok () ez_M0 158 := ez_mok_of (w1 := 4079) (w2 := 1008) (w3 := 4077) (w4 := 4078) (by decide +kernel)
theorem ez_h159 : ez_mok () ez_M0 159 := ez_mok_of (w1 := 4029) (w2 := 1008) (w3 := 4027) (w4 := 4028) (by decide +kernel)
theorem ez_h160 : ez_mok () ez_M0 160 := ez_mok_of (w1 := 4047) (w2 := 1008) (w3 := 4046) (w4 := 0) (by decide +kernel)
theorem ez_h161 : ez_mok () ez_M0 161 := ez_mok_of (w1 := 4099) (w2 := 1008) (w3 := 4097) (w4 := 4098) (by decide +kernel)
theorem ez_h162 : ez_mok () ez_M0 162 := ez_mok_of (w1 := 4087) (w2 := 1008) (w3 := 4085) (w4 := 4086) (by decide +kernel)
theorem ez_h163 : ez_mok () ez_M0 163 := ez_mok_of (w1 := 4071) (w2 := 1008) (w3 := 4069) (w4 := 4070) (by decide +kernel)
theorem ez_h164 : ez_mok () ez_M0 164 := ez_mok_of (w1 := 5133) (w2 := 1013) (w3 := 5132) (w4 := 0) (by decide +kernel)
theorem ez_h165 : ez_mok () ez_M0 165 := ez_mok_of (w1 := 6077) (w2 := 1013) (w3 := 6076) (w4 := 42) (by decide +kernel)
theorem ez_h166 : ez_mok () ez_M0 166 := ez_mok_of (w1 := 6116) (w2 := 1013) (w3 := 6114) (w4 := 6115) (by decide +kernel)
theorem ez_h167 : ez_mok () ez_M0 167 := ez_mok_of (w1 := 6091) (w2 := 1013) (w3 := 6090) (w4 := 43) (by decide +kernel)
theorem ez_h168 : ez_mok () ez_M0 168 := ez_mok_of (w1 := 6128) (w2 := 1013) (w3 := 6126) (w4 := 6127) (by decide +kernel)
theorem ez_h169 : ez_mok () ez_M0 169 := ez_mok_of (w1 := 6205) (w2 := 1013) (w3 := 6203) (w4 := 6204) (by decide +kernel)
theorem ez_h170 : ez_mok () ez_M0 170 := ez_mok_of (w1 := 6209) (w2 := 1013) (w3 := 6207) (w4 := 6208) (by decide +kernel)
theorem ez_h171 : ez_mok () ez_M0 171 := ez_mok_of (w1 := 6042) (w2 := 1013) (w3 := 6041) (w4 := 0) (by decide +kernel)
theorem ez_h172 : ez_mok () ez_M0 172 := ez_mok_of (w1 := 7013) (w2 := 1013) (w3 := 7011) (w4 := 7012) (by decide +kernel)
theorem ez_h173 : ez_mok () ez_M0 173 := ez_mok_of (w1 := 7017) (w2 := 1013) (w3 := 7016) (w4 := 64) (by decide +kernel)
theorem ez_h174 : ez_mok () ez_M0 174 := ez_mok_of (w1 := 7021) (w2 := 1013) (w3 := 7019) (w4 := 7020) (by decide +kernel)
theorem ez_h175 : ez_mok () ez_M0 175 := ez_mok_of (w1 := 6104) (w2 := 1013) (w3 := 6102) (w4 := 6103) (by decide +kernel)
theorem ez_h176 : ez_mok () ez_M0 176 := ez_mok_of (w1 := 6144) (w2 := 1013) (w3 := 6143) (w4 := 49) (by decide +kernel)
theorem ez_h177 : ez_mok () ez_M0 177 := ez_mok_of (w1 := 7005) (w2 := 1013) (w3 := 7004) (w4 := 63) (by decide +kernel)
theorem ez_h178 : ez_mok () ez_M0 178 := ez_mok_of (w1 := 6233) (w2 := 1013) (w3 := 6231) (w4 := 6232) (by decide +kernel)
theorem ez_h179 : ez_mok () ez_M0 179 := ez_mok_of (w1 := 6034) (w2 := 1013) (w3 := 6033) (w4 := 38) (by decide +kernel)
theorem ez_h180 : ez_mok () ez_M0 180 := ez_mok_of (w1 := 7046) (w2 := 1013) (w3 := 7045) (w4 := 67) (by decide +kernel)
theorem ez_h181 : ez_mok () ez_M0 181 := ez_mok_of (w1 := 7058) (w2 := 1013) (w3 := 7056) (w4 := 7057) (by decide +kernel)
theorem ez_h182 : ez_mok () ez_M0 182 := ez_mok_of (w1 := 7033) (w2 := 1013) (w3 := 7031) (w4 := 7032) (by decide +kernel)
theorem ez_h183 : ez_mok () ez_M0 183 := ez_mok_of (w1 := 7050) (w2 := 1013) (w3 := 7049) (w4 := 68) (by decide +kernel)
theorem ez_h184 : ez_mok () ez_M0 184 := ez_mok_of (w1 := 7029) (w2 := 1013) (w3 := 7028) (w4 := 65) (by decide +kernel)
theorem ez_h185 : ez_mok () ez_M0 185 := ez_mok_of (w1 := 6053) (w2 := 1013) (w3 := 6051) (w4 := 6052) (by decide +kernel)
theorem ez_h186 : ez_mok () ez_M0 186 := ez_mok_of (w1 := 6152) (w2 := 1013) (w3 := 6151) (w4 := 51) (by decide +kernel)
theorem ez_h187 : ez_mok () ez_M0 187 := ez_mok_of (w1 := 6156) (w2 := 1013) (w3 := 6155) (w4 := 52) (by decide +kernel)
theorem ez_h188 : ez_mok () ez_M0 188 := ez_mok_of (w1 := 6169) (w2 := 1013) (w3 := 6168) (w4 := 53) (by decide +kernel)
theorem ez_h189 : ez_mok () ez_M0 189 := ez_mok_of (w1 := 7001) (w2 := 1013) (w3 := 7000) (w4 := 62) (by decide +kernel)
theorem ez_h190 : ez_mok () ez_M0 190 := ez_mok_of (w1 := 6066) (w2 := 1013) (w3 := 6065) (w4 := 40) (by decide +kernel)
theorem ez_h191 : ez_mok () ez_M0 191 := ez_mok_of (w1 := 7054) (w2 := 1013) (w3 := 7052) (w4 := 7053) (by decide +kernel)
theorem ez_h192 : ez_mok () ez_M0 192 := ez_mok_of (w1 := 6136) (w2 := 1013) (w3 := 6135) (w4 := 47) (by decide +kernel)
theorem ez_h193 : ez_mok () ez_M0 193 := ez_mok_of (w1 := 6201) (w2 := 1013) (w3 := 6200) (w4 := 57) (by decide +kernel)
theorem ez_h194 : ez_mok () ez_M0 194 := ez_mok_of (w1 := 6213) (w2 := 1013) (w3 := 6212) (w4 := 58) (by decide +kernel)
theorem ez_h195 : ez_mok () ez_M0 195 := ez_mok_of (w1 := 6025) (w2 := 1013) (w3 := 6023) (w4 := 6024) (by decide +kernel)
theorem ez_h196 : ez_mok () ez_M0 196 := ez_mok_of (w1 := 6237) (w2 := 1013) (w3 := 6235) (w4 := 6236) (by decide +kernel)
theorem ez_h197 : ez_mok () ez_M0 197 := ez_mok_of (w1 := 6045) (w2 := 1013) (w3 := 6044) (w4 := 0) (by decide +kernel)
theorem ez_h198 : ez_mok () ez_M0 198 := ez_mok_of (w1 := 6030) (w2 := 1013) (w3 := 6029) (w4 := 0) (by decide +kernel)
theorem ez_h199 : ez_mok () ez_M0 199 := ez_mok_of (w1 := 6120) (w2 := 1013) (w3 := 6119) (w4 := 46) (by decide +kernel)
theorem ez_h200 : ez_mok () ez_M0 200 := ez_mok_of (w1 := 6108) (w2 := 1013) (w3 := 6107) (w4 := 45) (by decide +kernel)
theorem ez_h201 : ez_mok () ez_M0 201 := ez_mok_of (w1 := 6221) (w2 := 1013) (w3 := 6220) (w4 := 59) (by decide +kernel)
theorem ez_h202 : ez_mok () ez_M0 202 := ez_mok_of (w1 := 6100) (w2 := 1013) (w3 := 6099) (w4 := 44) (by decide +kernel)
theorem ez_h203 : ez_mok () ez_M0 203 := ez_mok_of (w1 := 7037) (w2 := 1013) (w3 := 7036) (w4 := 66) (by decide +kernel)
theorem ez_h204 : ez_mok () ez_M0 204 := ez_mok_of (w1 := 6062) (w2 := 1013) (w3 := 6061) (w4 := 39) (by decide +kernel)
theorem ez_h205 : ez_mok () ez_M0 205 := ez_mok_of (w1 := 6096) (w2 := 1013) (w3 := 6094) (w4 := 6095) (by decide +kernel)
theorem ez_h206 : ez_mok () ez_M0 206 := ez_mok_of (w1 := 6087) (w2 := 1013) (w3 := 6085) (w4 := 6086) (by decide +kernel)
theorem ez_h207 : ez_mok () ez_M0 207 := ez_mok_of (w1 := 6165) (w2 := 1013) (w3 := 6163) (w4 := 6164) (by decide +kernel)
theorem ez_h208 : ez_mok () ez_M0 208 := ez_mok_of (w1 := 6160) (w2 := 1013) (w3 := 6158) (w4 := 6159) (by decide +kernel)
theorem ez_h209 : ez_mok () ez_M0 209 := ez_mok_of (w1 := 6124) (w2 := 1013) (w3 := 6122) (w4 := 6123) (by decide +kernel)
theorem ez_h210 : ez_mok () ez_M0 210 := ez_mok_of (w1 := 7062) (w2 := 1013) (w3 := 7060) (w4 := 7061) (by decide +kernel)
theorem ez_h211 : ez_mok () ez_M0 211 := ez_mok_of (w1 := 6073) (w2 := 1013) (w3 := 6072) (w4 := 41) (by decide +kernel)
theorem ez_h212 : ez_mok () ez_M0 212 := ez_mok_of (w1 := 6217) (w2 := 1013) (w3 := 6215) (w4 := 6216) (by decide +kernel)
theorem ez_h213 : ez_mok () ez_M0 213 := ez_mok_of (w1 := 6225) (w2 := 1013) (w3 := 6224) (w4 := 60) (by decide +kernel)
theorem ez_h214 : ez_mok () ez_M0 214 := ez_mok_of (w1 := 6197) (w2 := 1013) (w3 := 6195) (w4 := 6196) (by decide +kernel)
theorem ez_h215 : ez_mok () ez_M0 215 := ez_mok_of (w1 := 6140) (w2 := 1013) (w3 := 6139) (w4 := 48) (by decide +kernel)
theorem ez_h216 : ez_mok () ez_M0 216 := ez_mok_of (w1 := 6229) (w2 := 1013) (w3 := 6228) (w4 := 61) (by decide +kernel)
theorem ez_h217 : ez_mok () ez_M0 217 := ez_mok_of (w1 := 7042) (w2 := 1013) (w3 := 7040) (w4 := 7041) (by decide +kernel)
theorem ez_h218 : ez_mok () ez_M0 218 := ez_mok_of (w1 := 6112) (w2 := 1013) (w3 := 6110) (w4 := 6111) (by decide +kernel)
theorem ez_h219 : ez_mok () ez_M0 219 := ez_mok_of (w1 := 6049) (w2 := 1013) (w3 := 6047) (w4 := 6048) (by decide +kernel)
theorem ez_h220 : ez_mok () ez_M0 220 := ez_mok_of (w1 := 6038) (w2 := 1013) (w3 := 6036) (w4 := 6037) (by decide +kernel)
theorem ez_h221 : ez_mok () ez_M0 221 := ez_mok_of (w1 := 6148) (w2 := 1013) (w3 := 6147) (w4 := 50) (by decide +kernel)
theorem ez_h222 : ez_mok () ez_M0 222 := ez_mok_of (w1 := 6081) (w2 := 1013) (w3 := 6079) (w4 := 6080) (by decide +kernel)
theorem ez_h223 : ez_mok () ez_M0 223 := ez_mok_of (w1 := 6058) (w2 := 1013) (w3 := 6056) (w4 := 6057) (by decide +kernel)
theorem ez_h224 : ez_mok () ez_M0 224 := ez_mok_of (w1 := 7009) (w2 := 1013) (w3 := 7007) (w4 := 7008) (by decide +kernel)
theorem ez_h225 : ez_mok () ez_M0 225 := ez_mok_of (w1 := 6193) (w2 := 1013) (w3 := 6191) (w4 := 6192) (by decide +kernel)
theorem ez_h226 : ez_mok () ez_M0 226 := ez_mok_of (w1 := 7025) (w2 := 1013) (w3 := 7023) (w4 := 7024) (by decide +kernel)
theorem ez_h227 : ez_mok () ez_M0 227 := ez_mok_of (w1 := 6181) (w2 := 1013) (w3 := 6179) (w4 := 6180) (by decide +kernel)
theorem ez_h228 : ez_mok () ez_M0 228 := ez_mok_of (w1 := 6185) (w2 := 1013) (w3 := 6184) (w4 := 55) (by decide +kernel)
theorem ez_h229 : ez_mok () ez_M0 229 := ez_mok_of (w1 := 6132) (w2 := 1013) (w3 := 6130) (w4 := 6131) (by decide +kernel)
theorem ez_h230 : ez_mok () ez_M0 230 := ez_mok_of (w1 := 6069) (w2 := 1013) (w3 := 6068) (w4 := 0) (by decide +kernel)
theorem ez_h231 : ez_mok () ez_M0 231 := ez_mok_of (w1 := 6189) (w2 := 1013) (w3 := 6188) (w4 := 56) (by decide +kernel)
theorem ez_h232 : ez_mok () ez_M0 232 := ez_mok_of (w1 := 6177) (w2 := 1013) (w3 := 6175) (w4 := 6176) (by decide +kernel)
theorem ez_h233 : ez_mok () ez_M0 233 := ez_mok_of (w1 := 6173) (w2 := 1013) (w3 := 6172) (w4 := 54) (by decide +kernel)
theorem ez_h234 : ez_mok () ez_M0 234 := ez_mok_of (w1 := 2207) (w2 := 1014) (w3 := 2206) (w4 := 0) (by decide +kernel)
theorem ez_h235 : ez_mok () ez_M0 235 := ez_mok_of (w1 := 5038) (w2 := 1014) (w3 := 5037) (w4 := 0) (by decide +kernel)
theorem ez_h236 : ez_mok () ez_M0 236 := ez_mok_of (w1 := 4053) (w2 := 1014) (w3 := 4052) (w4 := 0) (by decide +kernel)
theorem ez_h237 : ez_mok () ez_M0 237 := ez_mok_of (w1 := 2234) (w2 := 1016) (w3 := 2233) (w4 := 0) (by decide +kernel)
theorem ez_h238 : ez_mok () ez_M0 238 := ez_mok_of (w1 := 5035) (w2 := 1016) (w3 := 5034) (w4 := 0) (by decide +kernel)
theorem ez_h239 : ez_mok () ez_M0 239 := ez_mok_of (w1 := 4050) (w2 := 1016) (w3 := 4049) (w4 := 0) (by decide +kernel)
theorem ez_h240 : ez_mok () ez_M0 240 := ez_mok_of (w1 := 2230) (w2 := 1015) (w3 := 2229) (w4 := 0) (by decide +kernel)
theorem ez_ph_0 : ∀ a, a < 0 → ez_mok () ez_M0 a := lt_0
theorem ez_ph_10 : ∀ a, a < 10 → ez_mok () ez_M0 a := lt_s (lt_s (lt_s (lt_s (lt_s (lt_s (lt_s (lt_s (lt_s (lt_s ez_ph_0 ez_h0) ez_h1) ez_h2) ez_h3) ez_h4) ez_h5) ez_h6) ez_h7) ez_h8) ez_h9
theorem ez_ph_20 : ∀ a, a < 20 → ez_mok () ez_M0 a := lt_s (lt_s (lt_s (lt_s (lt_s (lt_s (lt_s (lt_s (lt_s (lt_s ez_ph_10 ez_h10) ez_h11) ez_h12) ez_h13) ez_h14) ez_h15) ez_h16) ez_h17) ez_h18) ez_h19
theorem ez_ph_30 : ∀ a, a < 30 → ez_mok () ez_M0 a := lt_s (lt_s (lt_s (lt_s (lt_s (lt_s (lt_s (lt_s (lt_s (lt_s ez_ph_20 ez_h20) ez_h21) ez_h22) ez_h23) ez_h24) ez_h25) ez_h26) ez_h27) ez_h28) ez_h29
theorem ez_ph_40 : ∀ a, a < 40 → ez_mok () ez_M0 a := lt_s (lt_s (lt_s (lt_s (lt_s (lt_s (lt_s (lt_s (lt_s (lt_s ez_ph_30 ez_h30) ez_h31) ez_h32) ez_h33) ez_h34) ez_h35) ez_h36) ez_h37) ez_h38) ez_h39
theorem ez_ph_50 : ∀ a, a < 50 → ez_mok () ez_M0 a := lt_s (lt_s (lt_s (lt_s (lt_s (lt_s (lt_s (lt_s (lt_s (lt_s ez_ph_40 ez_h40) ez_h41) ez_h42) ez_h43) ez_h44) ez_h45) ez_h46) ez_h47) ez_h48) ez_h49
theorem ez_ph_60 : ∀ a, a < 60 → ez_mok () ez_M0 a := lt_s (lt_s (lt_s (lt_s (lt_s (lt_s (lt_s (lt_s (lt_s (lt_s ez_ph_50 ez_h50) ez_h51) ez_h52) ez_h53) ez_h54) ez_h55) ez_h56) ez_h57) ez_h58) ez_h59
theorem ez_ph_70 : ∀ a, a < 70 → ez_mok () ez_M0 a := lt_s (lt_s (lt_s (lt_s (lt_s (lt_s (lt_s (lt_s (lt_s (lt_s ez_ph_60 ez_h60) ez_h61) ez_h62) ez_h63) ez_h64) ez_h65) ez_h66) ez_h67) ez_h68) ez_h69
theorem ez_ph_80 : ∀ a, a < 80 → ez_mok () ez_M0 a := lt_s (lt_s (lt_s (lt_s (lt_s (lt_s (lt_s (lt_s (lt_s (lt_s ez_ph_70 ez_h70) ez_h71) ez_h72) ez_h73) ez_h74) ez_h75) ez_h76) ez_h77) ez_h78) ez_h79
theorem ez_ph_90 : ∀ a, a < 90 → ez_mok () ez_M0 a := lt_s (lt_s (lt_s (lt_s (lt_s (lt_s (lt_s (lt_s (lt_s (lt_s ez_ph_80 ez_h80) ez_h81) ez_h82) ez_h83) ez_h84) ez_h85) ez_h86) ez_h87) ez_h88) ez_h89
theorem ez_ph_100 : ∀ a, a < 100 → ez_mok () ez_M0 a := lt_s (lt_s (lt_s (lt_s (lt_s (lt_s (lt_s (lt_s (lt_s (lt_s ez_ph_90 ez_h90) ez_h91) ez_h92) ez_h93) ez_h94) ez_h95) ez_h96) ez_h97) ez_h98) ez_h99
theorem ez_ph_110 : ∀ a, a < 110 → ez_mok () ez_M0 a := lt_s (lt_s (lt_s (lt_s (lt_s (lt_s (lt_s (lt_s (lt_s (lt_s ez_ph_100 ez_h100) ez_h101) ez_h102) ez_h103) ez_h104) ez_h105) ez_h106) ez_h107) ez_h108) ez_h109
theorem ez_ph_120 : ∀ a, a < 120 → ez_mok () ez_M0 a := lt_s (lt_s (lt_s (lt_s (lt_s (lt_s (lt_s (lt_s (lt_s (lt_s ez_ph_110 ez_h110) ez_h111) ez_h112) ez_h113) ez_h114) ez_h115) ez_h116) ez_h117) ez_h118) ez_h119
theorem ez_ph_130 : ∀ a, a < 130 → ez_mok () ez_M0 a := lt_s (lt_s (lt_s (lt_s (lt_s (lt_s (lt_s (lt_s (lt_s (lt_s ez_ph_120 ez_h120) ez_h121) ez_h122) ez_h123) ez_h124) ez_h125) ez_h126) ez_h127) ez_h128) ez_h129
theorem ez_ph_140 : ∀ a, a < 140 → ez_mok () ez_M0 a := lt_s (lt_s (lt_s (lt_s (lt_s (lt_s (lt_s (lt_s (lt_s (lt_s ez_ph_130 ez_h130) ez_h131) ez_h132) ez_h133) ez_h134) ez_h135) ez_h136) ez_h137) ez_h138) ez_h139
theorem ez_ph_150 : ∀ a, a < 150 → ez_mok () ez_M0 a := lt_s (lt_s (lt_s (lt_s (lt_s (lt_s (lt_s (lt_s (lt_s (lt_s ez_ph_140 ez_h140) ez_h141) ez_h142) ez_h143) ez_h144) ez_h145) ez_h146) ez_h147) ez_h148) ez_h149
theorem ez_ph_160 : ∀ a, a < 160 → ez_mok () ez_M0 a := lt_s (lt_s (lt_s (lt_s (lt_s (lt_s (lt_s (lt_s (lt_s (lt_s ez_ph_150 ez_h150) ez_h151) ez_h152) ez_h153) ez_h154) ez_h155) ez_h156) ez_h157) ez_h158) ez_h159
theorem ez_ph_170 : ∀ a, a < 170 → ez_mok () ez_M0 a := lt_s (lt_s (lt_s (lt_s (lt_s (lt_s (lt_s (lt_s (lt_s (lt_s ez_ph_160 ez_h160) ez_h161) ez_h162) ez_h163) ez_h164) ez_h165) ez_h166) ez_h167) ez_h168) ez_h169
theorem ez_ph_180 : ∀ a, a < 180 → ez_mok () ez_M0 a := lt_s (lt_s (lt_s (lt_s (lt_s (lt_s (lt_s (lt_s (lt_s (lt_s ez_ph_170 ez_h170) ez_h171) ez_h172) ez_h173) ez_h174) ez_h175) ez_h176) ez_h177) ez_h178) ez_h179
theorem ez_ph_190 : ∀ a, a < 190 → ez_mok () ez_M0 a := lt_s (lt_s (lt_s (lt_s (lt_s (lt_s (lt_s (lt_s (lt_s (lt_s ez_ph_180 ez_h180) ez_h181) ez_h182) ez_h183) ez_h184) ez_h185) ez_h186) ez_h187) ez_h188) ez_h189
theorem ez_ph_200 : ∀ a, a < 200 → ez_mok () ez_M0 a := lt_s (lt_s (lt_s (lt_s (lt_s (lt_s (lt_s (lt_s (lt_s (lt_s ez_ph_190 ez_h190) ez_h191) ez_h192) ez_h193) ez_h194) ez_h195) ez_h196) ez_h197) ez_h198) ez_h199
theorem ez_ph_210 : ∀ a, a < 210 → ez_mok () ez_M0 a := lt_s (lt_s (lt_s (lt_s (lt_s (lt_s (lt_s (lt_s (lt_s (lt_s ez_ph_200 ez_h200) ez_h201) ez_h202) ez_h203) ez_h204) ez_h205) ez_h206) ez_h207) ez_h208) ez_h209
theorem ez_ph_220 : ∀ a, a < 220 → ez_mok () ez_M0 a := lt_s (lt_s (lt_s (lt_s (lt_s (lt_s (lt_s (lt_s (lt_s (lt_s ez_ph_210 ez_h210) ez_h211) ez_h212) ez_h213) ez_h214) ez_h215) ez_h216) ez_h217) ez_h218) ez_h219
theorem ez_ph_230 : ∀ a, a < 230 → ez_mok () ez_M0 a := lt_s (lt_s (lt_s (lt_s (lt_s (lt_s (lt_s (lt_s (lt_s (lt_s ez_ph_220 ez_h220) ez_h221) ez_h222) ez_h223) ez_h224) ez_h225) ez_h226) ez_h227) ez_h228) ez_h229
theorem ez_ph_240 : ∀ a, a < 240 → ez_mok () ez_M0 a := lt_s (lt_s (lt_s (lt_s (lt_s (lt_s (lt_s (lt_s (lt_s (lt_s ez_ph_230 ez_h230) ez_h231) ez_h232) ez_h233) ez_h234) ez_h235) ez_h236) ez_h237) ez_h238) ez_h239
theorem ez_ph_241 : ∀ a, a < 241 → ez_mok () ez_M0 a := lt_s ez_ph_240 ez_h240
theorem ez_c0 : ez_okC () ez_cl0 ez_K0 ez_ty0 ez_nw0 0 := ⟨rfl, by decide +kernel, by decide +kernel, by decide +kernel, List.mem_of_getElem? (i := 334) (by decide +kernel), List.mem_of_getElem? (i := 79) (by decide +kernel), by decide +kernel, by decide +kernel⟩
theorem ez_c1 : ez_okC () ez_cl0 ez_K0 ez_ty0 ez_nw0 1 := ⟨rfl, by decide +kernel, by decide +kernel, by decide +kernel, List.mem_of_getElem? (i := 406) (by decide +kernel), List.mem_of_getElem? (i := 81) (by decide +kernel), by decide +kernel, by decide +kernel⟩
theorem ez_c2 : ez_okC () ez_cl0 ez_K0 ez_ty0 ez_nw0 2 := ⟨rfl, by decide +kernel, by decide +kernel, by decide +kernel, List.mem_of_getElem? (i := 147) (by decide +kernel), List.mem_of_getElem? (i := 72) (by decide +kernel), by decide +kernel, by decide +kernel⟩
theorem ez_c3 : ez_okC () ez_cl0 ez_K0 ez_ty0 ez_nw0 3 := ⟨rfl, by decide +kernel, by decide +kernel, by decide +kernel, List.mem_of_getElem? (i := 379) (by decide +kernel), List.mem_of_getElem? (i := 80) (by decide +kernel), by decide +kernel, by decide +kernel⟩
theorem ez_c4 : ez_okC () ez_cl0 ez_K0 ez_ty0 ez_nw0 4 := ⟨rfl, by decide +kernel, by decide +kernel, by decide +kernel, List.mem_of_getElem? (i := 247) (by decide +kernel), List.mem_of_getElem? (i := 76) (by decide +kernel), by decide +kernel, by decide +kernel⟩
theorem ez_c5 : ez_okC () ez_cl0 ez_K0 ez_ty0 ez_nw0 5 := ⟨rfl, by decide +kernel, by decide +kernel, by decide +kernel, List.mem_of_getElem? (i := 303) (by decide +kernel), List.mem_of_getElem? (i := 78) (by decide +kernel), by decide +kernel, by decide +kernel⟩
theorem ez_c6 : ez_okC () ez_cl0 ez_K0 ez_ty0 ez_nw0 6 := ⟨rfl, by decide +kernel, by decide +kernel, by decide +kernel, List.mem_of_getElem? (i := 197) (by decide +kernel), List.mem_of_getElem? (i := 74) (by decide +kernel), by decide +kernel, by decide +kernel⟩
theorem ez_c7 : ez_okC () ez_cl0 ez_K0 ez_ty0 ez_nw0 7 := ⟨rfl, by decide +kernel, by decide +kernel, by decide +kernel, List.mem_of_getElem? (i := 222) (by decide +kernel), List.mem_of_getElem? (i := 75) (by decide +kernel), by decide +kernel, by decide +kernel⟩
theorem ez_c8 : ez_okC () ez_cl0 ez_K0 ez_ty0 ez_nw0 8 := ⟨rfl, by decide +kernel, by decide +kernel, by decide +kernel, List.mem_of_getElem? (i := 169) (by decide +kernel), List.mem_of_getElem? (i := 73) (by decide +kernel), by decide +kernel, by decide +kernel⟩
theorem ez_c9 : ez_okC () ez_cl0 ez_K0 ez_ty0 ez_nw0 9 := ⟨rfl, by decide +kernel, by decide +kernel, by decide +kernel, List.mem_of_getElem? (i := 95) (by decide +kernel), List.mem_of_getElem? (i := 71) (by decide +kernel), by decide +kernel, by decide +kernel⟩
theorem ez_c10 : ez_okC () ez_cl0 ez_K0 ez_ty0 ez_nw0 10 := ⟨rfl, by decide +kernel, by decide +kernel, by decide +kernel, List.mem_of_getElem? (i := 253) (by decide +kernel), List.mem_of_getElem? (i := 77) (by decide +kernel), by decide +kernel, by decide +kernel⟩
theorem ez_c11 : ez_okC () ez_cl0 ez_K0 ez_ty0 ez_nw0 11 := ⟨rfl, by decide +kernel, by decide +kernel, by decide +kernel, List.mem_of_getElem? (i := 87) (by decide +kernel), List.mem_of_getElem? (i := 70) (by decide +kernel), by decide +kernel, by decide +kernel⟩
theorem ez_c12 : ez_okC () ez_cl0 ez_K0 ez_ty0 ez_nw0 12 := ⟨rfl, by decide +kernel, by decide +kernel, by decide +kernel, List.mem_of_getElem? (i := 1121) (by decide +kernel), List.mem_of_getElem? (i := 82) (by decide +kernel), by decide +kernel, by decide +kernel⟩
theorem ez_hC : ∀ ci, ci < 13 → ez_okC () ez_cl0 ez_K0 ez_ty0 ez_nw0 ci := lt_s (lt_s (lt_s (lt_s (lt_s (lt_s (lt_s (lt_s (lt_s (lt_s (lt_s (lt_s (lt_s (lt_0) ez_c0) ez_c1) ez_c2) ez_c3) ez_c4) ez_c5) ez_c6) ez_c7) ez_c8) ez_c9) ez_c10) ez_c11) ez_c12
theorem ez_hg : ∀ w ∈ ez_tb, (goodWord w || ez_nest w) = true := List.all_eq_true.mp (by decide +kernel)
theorem ez_hmax : Cond.static Lib.Math.max.name ∈ ez_tb ∧ Cond.initialized "java/lang/Math" ∈ ez_tb ∧ Cond.code Lib.Math.max.name Lib.Math.max.code 2 (some .int) ∈ ez_tb := ⟨List.mem_of_getElem? (i := 620) (by decide +kernel), List.mem_of_getElem? (i := 84) (by decide +kernel), List.mem_of_getElem? (i := 621) (by decide +kernel)⟩
theorem ez_hmin : Cond.static Lib.Math.min.name ∈ ez_tb ∧ Cond.code Lib.Math.min.name Lib.Math.min.code 2 (some .int) ∈ ez_tb := ⟨List.mem_of_getElem? (i := 623) (by decide +kernel), List.mem_of_getElem? (i := 624) (by decide +kernel)⟩
theorem ez_hobj : Cond.instanceMethod Lib.objectInit ∈ ez_tb ∧ Cond.code Lib.objectInit ⟨#[0xb1]⟩ 1 none ∈ ez_tb := ⟨List.mem_of_getElem? (i := 92) (by decide +kernel), List.mem_of_getElem? (i := 93) (by decide +kernel)⟩
end
