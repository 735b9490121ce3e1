section
/-! PART A of the kit's skeleton: the tables' words (a starting text). -/
/-- a private method of a class that the tables say can be made, by its rows of tables_1 -/
noncomputable def lw_okq (q : MethodName × Nat) : Prop := (q.1.cls ≠ "java/lang/invoke/MethodHandle" ∧ q.1.cls ≠ "java/lang/invoke/VarHandle") ∧ Cond.instantiable q.1.cls q.2 ∈ tables_1 ∧ Cond.privateMethod q.1 ∈ tables_1 ∧ Cond.instanceMethod q.1 ∈ tables_1
theorem lw_p0 : lw_okq (⟨"SquaredShips", "layingsChanged", "()V"⟩, 10) := ⟨⟨by decide +kernel, by decide +kernel⟩, List.mem_of_getElem? (i := 18) (by decide +kernel), List.mem_of_getElem? (i := 409) (by decide +kernel), List.mem_of_getElem? (i := 410) (by decide +kernel)⟩
theorem lw_p1 : lw_okq (⟨"SquaredShips", "callsChanged", "()V"⟩, 10) := ⟨⟨by decide +kernel, by decide +kernel⟩, List.mem_of_getElem? (i := 18) (by decide +kernel), List.mem_of_getElem? (i := 421) (by decide +kernel), List.mem_of_getElem? (i := 422) (by decide +kernel)⟩
theorem lw_p2 : lw_okq (⟨"SquaredShips", "answersChanged", "()V"⟩, 10) := ⟨⟨by decide +kernel, by decide +kernel⟩, List.mem_of_getElem? (i := 18) (by decide +kernel), List.mem_of_getElem? (i := 429) (by decide +kernel), List.mem_of_getElem? (i := 430) (by decide +kernel)⟩
theorem lw_p3 : lw_okq (⟨"SquaredShips$Fleet", "noteEverywhere", "(II)V"⟩, 4) := ⟨⟨by decide +kernel, by decide +kernel⟩, List.mem_of_getElem? (i := 78) (by decide +kernel), List.mem_of_getElem? (i := 457) (by decide +kernel), List.mem_of_getElem? (i := 458) (by decide +kernel)⟩
theorem lw_p4 : lw_okq (⟨"SquaredShips$Sheet", "wrapped", "(II)I"⟩, 10) := ⟨⟨by decide +kernel, by decide +kernel⟩, List.mem_of_getElem? (i := 26) (by decide +kernel), List.mem_of_getElem? (i := 465) (by decide +kernel), List.mem_of_getElem? (i := 466) (by decide +kernel)⟩
theorem lw_p5 : lw_okq (⟨"SquaredShips$Fleet", "note", "(IJ)V"⟩, 4) := ⟨⟨by decide +kernel, by decide +kernel⟩, List.mem_of_getElem? (i := 78) (by decide +kernel), List.mem_of_getElem? (i := 480) (by decide +kernel), List.mem_of_getElem? (i := 481) (by decide +kernel)⟩
theorem lw_p6 : lw_okq (⟨"SquaredShips", "isShip", "(I)Z"⟩, 10) := ⟨⟨by decide +kernel, by decide +kernel⟩, List.mem_of_getElem? (i := 18) (by decide +kernel), List.mem_of_getElem? (i := 520) (by decide +kernel), List.mem_of_getElem? (i := 521) (by decide +kernel)⟩
theorem lw_p7 : lw_okq (⟨"SquaredShips", "tooMany", "()Z"⟩, 10) := ⟨⟨by decide +kernel, by decide +kernel⟩, List.mem_of_getElem? (i := 18) (by decide +kernel), List.mem_of_getElem? (i := 542) (by decide +kernel), List.mem_of_getElem? (i := 543) (by decide +kernel)⟩
theorem lw_p8 : lw_okq (⟨"SquaredShips$Register", "searchSecond", "(IJ)V"⟩, 5) := ⟨⟨by decide +kernel, by decide +kernel⟩, List.mem_of_getElem? (i := 100) (by decide +kernel), List.mem_of_getElem? (i := 579) (by decide +kernel), List.mem_of_getElem? (i := 580) (by decide +kernel)⟩
theorem lw_p9 : lw_okq (⟨"SquaredShips$Register", "searchThird", "(IJ)V"⟩, 5) := ⟨⟨by decide +kernel, by decide +kernel⟩, List.mem_of_getElem? (i := 100) (by decide +kernel), List.mem_of_getElem? (i := 583) (by decide +kernel), List.mem_of_getElem? (i := 584) (by decide +kernel)⟩
theorem lw_p10 : lw_okq (⟨"SquaredShips", "isLaying", "(I)Z"⟩, 10) := ⟨⟨by decide +kernel, by decide +kernel⟩, List.mem_of_getElem? (i := 18) (by decide +kernel), List.mem_of_getElem? (i := 592) (by decide +kernel), List.mem_of_getElem? (i := 593) (by decide +kernel)⟩
theorem lw_p11 : lw_okq (⟨"SquaredShips", "isCell", "(I)Z"⟩, 10) := ⟨⟨by decide +kernel, by decide +kernel⟩, List.mem_of_getElem? (i := 18) (by decide +kernel), List.mem_of_getElem? (i := 608) (by decide +kernel), List.mem_of_getElem? (i := 609) (by decide +kernel)⟩
theorem lw_p12 : lw_okq (⟨"SquaredShips", "noted", "(J)I"⟩, 10) := ⟨⟨by decide +kernel, by decide +kernel⟩, List.mem_of_getElem? (i := 18) (by decide +kernel), List.mem_of_getElem? (i := 612) (by decide +kernel), List.mem_of_getElem? (i := 613) (by decide +kernel)⟩
theorem lw_p13 : lw_okq (⟨"SquaredShips", "isCall", "(I)Z"⟩, 10) := ⟨⟨by decide +kernel, by decide +kernel⟩, List.mem_of_getElem? (i := 18) (by decide +kernel), List.mem_of_getElem? (i := 629) (by decide +kernel), List.mem_of_getElem? (i := 630) (by decide +kernel)⟩
theorem lw_p14 : lw_okq (⟨"SquaredShips$Play", "fire", "(J)I"⟩, 6) := ⟨⟨by decide +kernel, by decide +kernel⟩, List.mem_of_getElem? (i := 153) (by decide +kernel), List.mem_of_getElem? (i := 680) (by decide +kernel), List.mem_of_getElem? (i := 681) (by decide +kernel)⟩
theorem lw_p15 : lw_okq (⟨"SquaredShips$Play", "move", "()V"⟩, 6) := ⟨⟨by decide +kernel, by decide +kernel⟩, List.mem_of_getElem? (i := 153) (by decide +kernel), List.mem_of_getElem? (i := 690) (by decide +kernel), List.mem_of_getElem? (i := 691) (by decide +kernel)⟩
noncomputable def lw_privs_1 : List (MethodName × Nat) := [(⟨"SquaredShips", "layingsChanged", "()V"⟩, 10), (⟨"SquaredShips", "callsChanged", "()V"⟩, 10), (⟨"SquaredShips", "answersChanged", "()V"⟩, 10), (⟨"SquaredShips$Fleet", "noteEverywhere", "(II)V"⟩, 4), (⟨"SquaredShips$Sheet", "wrapped", "(II)I"⟩, 10), (⟨"SquaredShips$Fleet", "note", "(IJ)V"⟩, 4), (⟨"SquaredShips", "isShip", "(I)Z"⟩, 10), (⟨"SquaredShips", "tooMany", "()Z"⟩, 10), (⟨"SquaredShips$Register", "searchSecond", "(IJ)V"⟩, 5), (⟨"SquaredShips$Register", "searchThird", "(IJ)V"⟩, 5), (⟨"SquaredShips", "isLaying", "(I)Z"⟩, 10), (⟨"SquaredShips", "isCell", "(I)Z"⟩, 10), (⟨"SquaredShips", "noted", "(J)I"⟩, 10), (⟨"SquaredShips", "isCall", "(I)Z"⟩, 10), (⟨"SquaredShips$Play", "fire", "(J)I"⟩, 6), (⟨"SquaredShips$Play", "move", "()V"⟩, 6)]
theorem lw_r1 : ∀ q ∈ lw_privs_1, lw_okq q := List.forall_mem_cons.mpr ⟨lw_p0, List.forall_mem_cons.mpr ⟨lw_p1, List.forall_mem_cons.mpr ⟨lw_p2, List.forall_mem_cons.mpr ⟨lw_p3, List.forall_mem_cons.mpr ⟨lw_p4, List.forall_mem_cons.mpr ⟨lw_p5, List.forall_mem_cons.mpr ⟨lw_p6, List.forall_mem_cons.mpr ⟨lw_p7, List.forall_mem_cons.mpr ⟨lw_p8, List.forall_mem_cons.mpr ⟨lw_p9, List.forall_mem_cons.mpr ⟨lw_p10, List.forall_mem_cons.mpr ⟨lw_p11, List.forall_mem_cons.mpr ⟨lw_p12, List.forall_mem_cons.mpr ⟨lw_p13, List.forall_mem_cons.mpr ⟨lw_p14, List.forall_mem_cons.mpr ⟨lw_p15, fun _ h => absurd h List.not_mem_nil⟩⟩⟩⟩⟩⟩⟩⟩⟩⟩⟩⟩⟩⟩⟩⟩
theorem lw_p16 : lw_okq (⟨"SquaredShips$Play", "nextPlace", "(I)J"⟩, 6) := ⟨⟨by decide +kernel, by decide +kernel⟩, List.mem_of_getElem? (i := 153) (by decide +kernel), List.mem_of_getElem? (i := 694) (by decide +kernel), List.mem_of_getElem? (i := 695) (by decide +kernel)⟩
theorem lw_p17 : lw_okq (⟨"SquaredShips", "leftTally", "()LSquaredShips$Tally;"⟩, 10) := ⟨⟨by decide +kernel, by decide +kernel⟩, List.mem_of_getElem? (i := 18) (by decide +kernel), List.mem_of_getElem? (i := 714) (by decide +kernel), List.mem_of_getElem? (i := 715) (by decide +kernel)⟩
theorem lw_p18 : lw_okq (⟨"SquaredShips$Ledger", "grow", "(I)V"⟩, 10) := ⟨⟨by decide +kernel, by decide +kernel⟩, List.mem_of_getElem? (i := 178) (by decide +kernel), List.mem_of_getElem? (i := 722) (by decide +kernel), List.mem_of_getElem? (i := 723) (by decide +kernel)⟩
theorem lw_p19 : lw_okq (⟨"SquaredShips$Pairs", "countPairs", "()V"⟩, 7) := ⟨⟨by decide +kernel, by decide +kernel⟩, List.mem_of_getElem? (i := 234) (by decide +kernel), List.mem_of_getElem? (i := 832) (by decide +kernel), List.mem_of_getElem? (i := 833) (by decide +kernel)⟩
theorem lw_p20 : lw_okq (⟨"SquaredShips$Pairs", "countPairsIn", "(J)V"⟩, 7) := ⟨⟨by decide +kernel, by decide +kernel⟩, List.mem_of_getElem? (i := 234) (by decide +kernel), List.mem_of_getElem? (i := 841) (by decide +kernel), List.mem_of_getElem? (i := 842) (by decide +kernel)⟩
theorem lw_p21 : lw_okq (⟨"SquaredShips$Pairs", "greatestPart", "(LSquaredShips$Tally;II)I"⟩, 7) := ⟨⟨by decide +kernel, by decide +kernel⟩, List.mem_of_getElem? (i := 234) (by decide +kernel), List.mem_of_getElem? (i := 848) (by decide +kernel), List.mem_of_getElem? (i := 849) (by decide +kernel)⟩
theorem lw_p22 : lw_okq (⟨"SquaredShips", "crowded", "()Z"⟩, 10) := ⟨⟨by decide +kernel, by decide +kernel⟩, List.mem_of_getElem? (i := 18) (by decide +kernel), List.mem_of_getElem? (i := 858) (by decide +kernel), List.mem_of_getElem? (i := 859) (by decide +kernel)⟩
theorem lw_p23 : lw_okq (⟨"SquaredShips$Caller", "putInOrder", "()V"⟩, 12) := ⟨⟨by decide +kernel, by decide +kernel⟩, List.mem_of_getElem? (i := 265) (by decide +kernel), List.mem_of_getElem? (i := 866) (by decide +kernel), List.mem_of_getElem? (i := 867) (by decide +kernel)⟩
theorem lw_p24 : lw_okq (⟨"SquaredShips$Caller", "split", "(II)Z"⟩, 12) := ⟨⟨by decide +kernel, by decide +kernel⟩, List.mem_of_getElem? (i := 265) (by decide +kernel), List.mem_of_getElem? (i := 874) (by decide +kernel), List.mem_of_getElem? (i := 875) (by decide +kernel)⟩
theorem lw_p25 : lw_okq (⟨"SquaredShips$Caller", "chosen", "(IIJ)I"⟩, 12) := ⟨⟨by decide +kernel, by decide +kernel⟩, List.mem_of_getElem? (i := 265) (by decide +kernel), List.mem_of_getElem? (i := 879) (by decide +kernel), List.mem_of_getElem? (i := 880) (by decide +kernel)⟩
theorem lw_p26 : lw_okq (⟨"SquaredShips$Caller", "sinkingIn", "(IJ)J"⟩, 12) := ⟨⟨by decide +kernel, by decide +kernel⟩, List.mem_of_getElem? (i := 265) (by decide +kernel), List.mem_of_getElem? (i := 889) (by decide +kernel), List.mem_of_getElem? (i := 890) (by decide +kernel)⟩
theorem lw_p27 : lw_okq (⟨"SquaredShips$Caller", "gathered", "(IIIJI)I"⟩, 12) := ⟨⟨by decide +kernel, by decide +kernel⟩, List.mem_of_getElem? (i := 265) (by decide +kernel), List.mem_of_getElem? (i := 901) (by decide +kernel), List.mem_of_getElem? (i := 902) (by decide +kernel)⟩
theorem lw_p28 : lw_okq (⟨"SquaredShips$Caller", "answerOf", "(IIJ)I"⟩, 12) := ⟨⟨by decide +kernel, by decide +kernel⟩, List.mem_of_getElem? (i := 265) (by decide +kernel), List.mem_of_getElem? (i := 905) (by decide +kernel), List.mem_of_getElem? (i := 906) (by decide +kernel)⟩
theorem lw_p29 : lw_okq (⟨"SquaredShips$Caller", "beginGroup", "(II)V"⟩, 12) := ⟨⟨by decide +kernel, by decide +kernel⟩, List.mem_of_getElem? (i := 265) (by decide +kernel), List.mem_of_getElem? (i := 914) (by decide +kernel), List.mem_of_getElem? (i := 915) (by decide +kernel)⟩
theorem lw_p30 : lw_okq (⟨"SquaredShips$Inquiry", "comesFrom", "(IIII)Z"⟩, 6) := ⟨⟨by decide +kernel, by decide +kernel⟩, List.mem_of_getElem? (i := 310) (by decide +kernel), List.mem_of_getElem? (i := 1000) (by decide +kernel), List.mem_of_getElem? (i := 1001) (by decide +kernel)⟩
theorem lw_p31 : lw_okq (⟨"SquaredShips", "isRim", "(I)Z"⟩, 10) := ⟨⟨by decide +kernel, by decide +kernel⟩, List.mem_of_getElem? (i := 18) (by decide +kernel), List.mem_of_getElem? (i := 1009) (by decide +kernel), List.mem_of_getElem? (i := 1010) (by decide +kernel)⟩
noncomputable def lw_privs_2 : List (MethodName × Nat) := [(⟨"SquaredShips$Play", "nextPlace", "(I)J"⟩, 6), (⟨"SquaredShips", "leftTally", "()LSquaredShips$Tally;"⟩, 10), (⟨"SquaredShips$Ledger", "grow", "(I)V"⟩, 10), (⟨"SquaredShips$Pairs", "countPairs", "()V"⟩, 7), (⟨"SquaredShips$Pairs", "countPairsIn", "(J)V"⟩, 7), (⟨"SquaredShips$Pairs", "greatestPart", "(LSquaredShips$Tally;II)I"⟩, 7), (⟨"SquaredShips", "crowded", "()Z"⟩, 10), (⟨"SquaredShips$Caller", "putInOrder", "()V"⟩, 12), (⟨"SquaredShips$Caller", "split", "(II)Z"⟩, 12), (⟨"SquaredShips$Caller", "chosen", "(IIJ)I"⟩, 12), (⟨"SquaredShips$Caller", "sinkingIn", "(IJ)J"⟩, 12), (⟨"SquaredShips$Caller", "gathered", "(IIIJI)I"⟩, 12), (⟨"SquaredShips$Caller", "answerOf", "(IIJ)I"⟩, 12), (⟨"SquaredShips$Caller", "beginGroup", "(II)V"⟩, 12), (⟨"SquaredShips$Inquiry", "comesFrom", "(IIII)Z"⟩, 6), (⟨"SquaredShips", "isRim", "(I)Z"⟩, 10)]
theorem lw_r2 : ∀ q ∈ lw_privs_2, lw_okq q := List.forall_mem_cons.mpr ⟨lw_p16, List.forall_mem_cons.mpr ⟨lw_p17, List.forall_mem_cons.mpr ⟨lw_p18, List.forall_mem_cons.mpr ⟨lw_p19, List.forall_mem_cons.mpr ⟨lw_p20, List.forall_mem_cons.mpr ⟨lw_p21, List.forall_mem_cons.mpr ⟨lw_p22, List.forall_mem_cons.mpr ⟨lw_p23, List.forall_mem_cons.mpr ⟨lw_p24, List.forall_mem_cons.mpr ⟨lw_p25, List.forall_mem_cons.mpr ⟨lw_p26, List.forall_mem_cons.mpr ⟨lw_p27, List.forall_mem_cons.mpr ⟨lw_p28, List.forall_mem_cons.mpr ⟨lw_p29, List.forall_mem_cons.mpr ⟨lw_p30, List.forall_mem_cons.mpr ⟨lw_p31, fun _ h => absurd h List.not_mem_nil⟩⟩⟩⟩⟩⟩⟩⟩⟩⟩⟩⟩⟩⟩⟩⟩
theorem lw_p32 : lw_okq (⟨"SquaredShips$Edges", "fits", "(J)Z"⟩, 4) := ⟨⟨by decide +kernel, by decide +kernel⟩, List.mem_of_getElem? (i := 337) (by decide +kernel), List.mem_of_getElem? (i := 1045) (by decide +kernel), List.mem_of_getElem? (i := 1046) (by decide +kernel)⟩
theorem lw_p33 : lw_okq (⟨"SquaredShips$Edges", "markUnlike", "(I)V"⟩, 4) := ⟨⟨by decide +kernel, by decide +kernel⟩, List.mem_of_getElem? (i := 337) (by decide +kernel), List.mem_of_getElem? (i := 1059) (by decide +kernel), List.mem_of_getElem? (i := 1060) (by decide +kernel)⟩
theorem lw_p34 : lw_okq (⟨"SquaredShips$Edges", "unlikeRims", "(JJ)I"⟩, 4) := ⟨⟨by decide +kernel, by decide +kernel⟩, List.mem_of_getElem? (i := 337) (by decide +kernel), List.mem_of_getElem? (i := 1063) (by decide +kernel), List.mem_of_getElem? (i := 1064) (by decide +kernel)⟩
theorem lw_p35 : lw_okq (⟨"SquaredShips$Edges", "hide", "(I)V"⟩, 4) := ⟨⟨by decide +kernel, by decide +kernel⟩, List.mem_of_getElem? (i := 337) (by decide +kernel), List.mem_of_getElem? (i := 1067) (by decide +kernel), List.mem_of_getElem? (i := 1068) (by decide +kernel)⟩
theorem lw_p36 : lw_okq (⟨"SquaredShips$Edges", "spread", "(I)V"⟩, 4) := ⟨⟨by decide +kernel, by decide +kernel⟩, List.mem_of_getElem? (i := 337) (by decide +kernel), List.mem_of_getElem? (i := 1073) (by decide +kernel), List.mem_of_getElem? (i := 1074) (by decide +kernel)⟩
theorem lw_p37 : lw_okq (⟨"SquaredShips$Edges", "isHidden", "(I)Z"⟩, 4) := ⟨⟨by decide +kernel, by decide +kernel⟩, List.mem_of_getElem? (i := 337) (by decide +kernel), List.mem_of_getElem? (i := 1077) (by decide +kernel), List.mem_of_getElem? (i := 1078) (by decide +kernel)⟩
theorem lw_p38 : lw_okq (⟨"SquaredShipsModel", "cells", "()I"⟩, 42) := ⟨⟨by decide +kernel, by decide +kernel⟩, List.mem_of_getElem? (i := 1090) (by decide +kernel), List.mem_of_getElem? (i := 1232) (by decide +kernel), List.mem_of_getElem? (i := 1233) (by decide +kernel)⟩
theorem lw_p39 : lw_okq (⟨"SquaredShipsModel", "isShip", "(I)Z"⟩, 42) := ⟨⟨by decide +kernel, by decide +kernel⟩, List.mem_of_getElem? (i := 1090) (by decide +kernel), List.mem_of_getElem? (i := 1260) (by decide +kernel), List.mem_of_getElem? (i := 1261) (by decide +kernel)⟩
theorem lw_p40 : lw_okq (⟨"SquaredShipsModel", "findSpots", "(I)V"⟩, 42) := ⟨⟨by decide +kernel, by decide +kernel⟩, List.mem_of_getElem? (i := 1090) (by decide +kernel), List.mem_of_getElem? (i := 1264) (by decide +kernel), List.mem_of_getElem? (i := 1265) (by decide +kernel)⟩
theorem lw_p41 : lw_okq (⟨"SquaredShipsModel", "moved", "(III)J"⟩, 42) := ⟨⟨by decide +kernel, by decide +kernel⟩, List.mem_of_getElem? (i := 1090) (by decide +kernel), List.mem_of_getElem? (i := 1271) (by decide +kernel), List.mem_of_getElem? (i := 1272) (by decide +kernel)⟩
theorem lw_p42 : lw_okq (⟨"SquaredShipsModel", "about", "(JI)J"⟩, 42) := ⟨⟨by decide +kernel, by decide +kernel⟩, List.mem_of_getElem? (i := 1090) (by decide +kernel), List.mem_of_getElem? (i := 1275) (by decide +kernel), List.mem_of_getElem? (i := 1276) (by decide +kernel)⟩
theorem lw_p43 : lw_okq (⟨"SquaredShipsModel", "areLaid", "()Z"⟩, 42) := ⟨⟨by decide +kernel, by decide +kernel⟩, List.mem_of_getElem? (i := 1090) (by decide +kernel), List.mem_of_getElem? (i := 1289) (by decide +kernel), List.mem_of_getElem? (i := 1290) (by decide +kernel)⟩
theorem lw_p44 : lw_okq (⟨"SquaredShipsModel", "isLaying", "(I)Z"⟩, 42) := ⟨⟨by decide +kernel, by decide +kernel⟩, List.mem_of_getElem? (i := 1090) (by decide +kernel), List.mem_of_getElem? (i := 1298) (by decide +kernel), List.mem_of_getElem? (i := 1299) (by decide +kernel)⟩
theorem lw_p45 : lw_okq (⟨"SquaredShipsModel", "isCell", "(I)Z"⟩, 42) := ⟨⟨by decide +kernel, by decide +kernel⟩, List.mem_of_getElem? (i := 1090) (by decide +kernel), List.mem_of_getElem? (i := 1306) (by decide +kernel), List.mem_of_getElem? (i := 1307) (by decide +kernel)⟩
theorem lw_p46 : lw_okq (⟨"SquaredShipsModel", "isCall", "(I)Z"⟩, 42) := ⟨⟨by decide +kernel, by decide +kernel⟩, List.mem_of_getElem? (i := 1090) (by decide +kernel), List.mem_of_getElem? (i := 1318) (by decide +kernel), List.mem_of_getElem? (i := 1319) (by decide +kernel)⟩
theorem lw_p47 : lw_okq (⟨"SquaredShipsModel", "go", "(II)V"⟩, 42) := ⟨⟨by decide +kernel, by decide +kernel⟩, List.mem_of_getElem? (i := 1090) (by decide +kernel), List.mem_of_getElem? (i := 1334) (by decide +kernel), List.mem_of_getElem? (i := 1335) (by decide +kernel)⟩
noncomputable def lw_privs_3 : List (MethodName × Nat) := [(⟨"SquaredShips$Edges", "fits", "(J)Z"⟩, 4), (⟨"SquaredShips$Edges", "markUnlike", "(I)V"⟩, 4), (⟨"SquaredShips$Edges", "unlikeRims", "(JJ)I"⟩, 4), (⟨"SquaredShips$Edges", "hide", "(I)V"⟩, 4), (⟨"SquaredShips$Edges", "spread", "(I)V"⟩, 4), (⟨"SquaredShips$Edges", "isHidden", "(I)Z"⟩, 4), (⟨"SquaredShipsModel", "cells", "()I"⟩, 42), (⟨"SquaredShipsModel", "isShip", "(I)Z"⟩, 42), (⟨"SquaredShipsModel", "findSpots", "(I)V"⟩, 42), (⟨"SquaredShipsModel", "moved", "(III)J"⟩, 42), (⟨"SquaredShipsModel", "about", "(JI)J"⟩, 42), (⟨"SquaredShipsModel", "areLaid", "()Z"⟩, 42), (⟨"SquaredShipsModel", "isLaying", "(I)Z"⟩, 42), (⟨"SquaredShipsModel", "isCell", "(I)Z"⟩, 42), (⟨"SquaredShipsModel", "isCall", "(I)Z"⟩, 42), (⟨"SquaredShipsModel", "go", "(II)V"⟩, 42)]
theorem lw_r3 : ∀ q ∈ lw_privs_3, lw_okq q := List.forall_mem_cons.mpr ⟨lw_p32, List.forall_mem_cons.mpr ⟨lw_p33, List.forall_mem_cons.mpr ⟨lw_p34, List.forall_mem_cons.mpr ⟨lw_p35, List.forall_mem_cons.mpr ⟨lw_p36, List.forall_mem_cons.mpr ⟨lw_p37, List.forall_mem_cons.mpr ⟨lw_p38, List.forall_mem_cons.mpr ⟨lw_p39, List.forall_mem_cons.mpr ⟨lw_p40, List.forall_mem_cons.mpr ⟨lw_p41, List.forall_mem_cons.mpr ⟨lw_p42, List.forall_mem_cons.mpr ⟨lw_p43, List.forall_mem_cons.mpr ⟨lw_p44, List.forall_mem_cons.mpr ⟨lw_p45, List.forall_mem_cons.mpr ⟨lw_p46, List.forall_mem_cons.mpr ⟨lw_p47, fun _ h => absurd h List.not_mem_nil⟩⟩⟩⟩⟩⟩⟩⟩⟩⟩⟩⟩⟩⟩⟩⟩
theorem lw_p48 : lw_okq (⟨"SquaredShipsModel", "place", "(I)V"⟩, 42) := ⟨⟨by decide +kernel, by decide +kernel⟩, List.mem_of_getElem? (i := 1090) (by decide +kernel), List.mem_of_getElem? (i := 1338) (by decide +kernel), List.mem_of_getElem? (i := 1339) (by decide +kernel)⟩
theorem lw_p49 : lw_okq (⟨"SquaredShipsModel", "callCell", "(I)I"⟩, 42) := ⟨⟨by decide +kernel, by decide +kernel⟩, List.mem_of_getElem? (i := 1090) (by decide +kernel), List.mem_of_getElem? (i := 1342) (by decide +kernel), List.mem_of_getElem? (i := 1343) (by decide +kernel)⟩
theorem lw_p50 : lw_okq (⟨"SquaredShipsModel", "shipAt", "(I)I"⟩, 42) := ⟨⟨by decide +kernel, by decide +kernel⟩, List.mem_of_getElem? (i := 1090) (by decide +kernel), List.mem_of_getElem? (i := 1346) (by decide +kernel), List.mem_of_getElem? (i := 1347) (by decide +kernel)⟩
theorem lw_p51 : lw_okq (⟨"SquaredShipsModel", "driftAll", "()V"⟩, 42) := ⟨⟨by decide +kernel, by decide +kernel⟩, List.mem_of_getElem? (i := 1090) (by decide +kernel), List.mem_of_getElem? (i := 1350) (by decide +kernel), List.mem_of_getElem? (i := 1351) (by decide +kernel)⟩
theorem lw_p52 : lw_okq (⟨"SquaredShipsModel", "driftOf", "(J)J"⟩, 42) := ⟨⟨by decide +kernel, by decide +kernel⟩, List.mem_of_getElem? (i := 1090) (by decide +kernel), List.mem_of_getElem? (i := 1354) (by decide +kernel), List.mem_of_getElem? (i := 1355) (by decide +kernel)⟩
theorem lw_p53 : lw_okq (⟨"SquaredShipsModel", "findLeft", "()Z"⟩, 42) := ⟨⟨by decide +kernel, by decide +kernel⟩, List.mem_of_getElem? (i := 1090) (by decide +kernel), List.mem_of_getElem? (i := 1367) (by decide +kernel), List.mem_of_getElem? (i := 1368) (by decide +kernel)⟩
theorem lw_p54 : lw_okq (⟨"SquaredShipsModel", "wrong", "()I"⟩, 42) := ⟨⟨by decide +kernel, by decide +kernel⟩, List.mem_of_getElem? (i := 1090) (by decide +kernel), List.mem_of_getElem? (i := 1371) (by decide +kernel), List.mem_of_getElem? (i := 1372) (by decide +kernel)⟩
theorem lw_p55 : lw_okq (⟨"SquaredShipsModel", "thereIn", "(I)I"⟩, 42) := ⟨⟨by decide +kernel, by decide +kernel⟩, List.mem_of_getElem? (i := 1090) (by decide +kernel), List.mem_of_getElem? (i := 1383) (by decide +kernel), List.mem_of_getElem? (i := 1384) (by decide +kernel)⟩
theorem lw_p56 : lw_okq (⟨"SquaredShipsModel", "useLeft", "(I)V"⟩, 42) := ⟨⟨by decide +kernel, by decide +kernel⟩, List.mem_of_getElem? (i := 1090) (by decide +kernel), List.mem_of_getElem? (i := 1387) (by decide +kernel), List.mem_of_getElem? (i := 1388) (by decide +kernel)⟩
theorem lw_p57 : lw_okq (⟨"SquaredShipsModel", "greatest", "(II)I"⟩, 42) := ⟨⟨by decide +kernel, by decide +kernel⟩, List.mem_of_getElem? (i := 1090) (by decide +kernel), List.mem_of_getElem? (i := 1399) (by decide +kernel), List.mem_of_getElem? (i := 1400) (by decide +kernel)⟩
theorem lw_p58 : lw_okq (⟨"SquaredShipsModel", "greatestOfTwo", "(II)I"⟩, 42) := ⟨⟨by decide +kernel, by decide +kernel⟩, List.mem_of_getElem? (i := 1090) (by decide +kernel), List.mem_of_getElem? (i := 1411) (by decide +kernel), List.mem_of_getElem? (i := 1412) (by decide +kernel)⟩
theorem lw_p59 : lw_okq (⟨"SquaredShipsModel", "isCrowded", "()Z"⟩, 42) := ⟨⟨by decide +kernel, by decide +kernel⟩, List.mem_of_getElem? (i := 1090) (by decide +kernel), List.mem_of_getElem? (i := 1419) (by decide +kernel), List.mem_of_getElem? (i := 1420) (by decide +kernel)⟩
theorem lw_p60 : lw_okq (⟨"SquaredShipsModel", "needOf", "(I)I"⟩, 42) := ⟨⟨by decide +kernel, by decide +kernel⟩, List.mem_of_getElem? (i := 1090) (by decide +kernel), List.mem_of_getElem? (i := 1423) (by decide +kernel), List.mem_of_getElem? (i := 1424) (by decide +kernel)⟩
theorem lw_p61 : lw_okq (⟨"SquaredShipsModel", "plain", "(IIJ)I"⟩, 42) := ⟨⟨by decide +kernel, by decide +kernel⟩, List.mem_of_getElem? (i := 1090) (by decide +kernel), List.mem_of_getElem? (i := 1427) (by decide +kernel), List.mem_of_getElem? (i := 1428) (by decide +kernel)⟩
theorem lw_p62 : lw_okq (⟨"SquaredShipsModel", "findNeeds", "()V"⟩, 42) := ⟨⟨by decide +kernel, by decide +kernel⟩, List.mem_of_getElem? (i := 1090) (by decide +kernel), List.mem_of_getElem? (i := 1439) (by decide +kernel), List.mem_of_getElem? (i := 1440) (by decide +kernel)⟩
theorem lw_p63 : lw_okq (⟨"SquaredShipsModel", "callFor", "(IIJ)I"⟩, 42) := ⟨⟨by decide +kernel, by decide +kernel⟩, List.mem_of_getElem? (i := 1090) (by decide +kernel), List.mem_of_getElem? (i := 1443) (by decide +kernel), List.mem_of_getElem? (i := 1444) (by decide +kernel)⟩
noncomputable def lw_privs_4 : List (MethodName × Nat) := [(⟨"SquaredShipsModel", "place", "(I)V"⟩, 42), (⟨"SquaredShipsModel", "callCell", "(I)I"⟩, 42), (⟨"SquaredShipsModel", "shipAt", "(I)I"⟩, 42), (⟨"SquaredShipsModel", "driftAll", "()V"⟩, 42), (⟨"SquaredShipsModel", "driftOf", "(J)J"⟩, 42), (⟨"SquaredShipsModel", "findLeft", "()Z"⟩, 42), (⟨"SquaredShipsModel", "wrong", "()I"⟩, 42), (⟨"SquaredShipsModel", "thereIn", "(I)I"⟩, 42), (⟨"SquaredShipsModel", "useLeft", "(I)V"⟩, 42), (⟨"SquaredShipsModel", "greatest", "(II)I"⟩, 42), (⟨"SquaredShipsModel", "greatestOfTwo", "(II)I"⟩, 42), (⟨"SquaredShipsModel", "isCrowded", "()Z"⟩, 42), (⟨"SquaredShipsModel", "needOf", "(I)I"⟩, 42), (⟨"SquaredShipsModel", "plain", "(IIJ)I"⟩, 42), (⟨"SquaredShipsModel", "findNeeds", "()V"⟩, 42), (⟨"SquaredShipsModel", "callFor", "(IIJ)I"⟩, 42)]
theorem lw_r4 : ∀ q ∈ lw_privs_4, lw_okq q := List.forall_mem_cons.mpr ⟨lw_p48, List.forall_mem_cons.mpr ⟨lw_p49, List.forall_mem_cons.mpr ⟨lw_p50, List.forall_mem_cons.mpr ⟨lw_p51, List.forall_mem_cons.mpr ⟨lw_p52, List.forall_mem_cons.mpr ⟨lw_p53, List.forall_mem_cons.mpr ⟨lw_p54, List.forall_mem_cons.mpr ⟨lw_p55, List.forall_mem_cons.mpr ⟨lw_p56, List.forall_mem_cons.mpr ⟨lw_p57, List.forall_mem_cons.mpr ⟨lw_p58, List.forall_mem_cons.mpr ⟨lw_p59, List.forall_mem_cons.mpr ⟨lw_p60, List.forall_mem_cons.mpr ⟨lw_p61, List.forall_mem_cons.mpr ⟨lw_p62, List.forall_mem_cons.mpr ⟨lw_p63, fun _ h => absurd h List.not_mem_nil⟩⟩⟩⟩⟩⟩⟩⟩⟩⟩⟩⟩⟩⟩⟩⟩
theorem lw_p64 : lw_okq (⟨"SquaredShipsModel", "blameOf", "()I"⟩, 42) := ⟨⟨by decide +kernel, by decide +kernel⟩, List.mem_of_getElem? (i := 1090) (by decide +kernel), List.mem_of_getElem? (i := 1455) (by decide +kernel), List.mem_of_getElem? (i := 1456) (by decide +kernel)⟩
theorem lw_p65 : lw_okq (⟨"SquaredShipsModel", "differAlone", "(III)Z"⟩, 42) := ⟨⟨by decide +kernel, by decide +kernel⟩, List.mem_of_getElem? (i := 1090) (by decide +kernel), List.mem_of_getElem? (i := 1467) (by decide +kernel), List.mem_of_getElem? (i := 1468) (by decide +kernel)⟩
theorem lw_p66 : lw_okq (⟨"SquaredShipsModel", "isRim", "(I)Z"⟩, 42) := ⟨⟨by decide +kernel, by decide +kernel⟩, List.mem_of_getElem? (i := 1090) (by decide +kernel), List.mem_of_getElem? (i := 1475) (by decide +kernel), List.mem_of_getElem? (i := 1476) (by decide +kernel)⟩
theorem lw_p67 : lw_okq (⟨"SquaredShipsModel", "cellsOf", "(I)J"⟩, 42) := ⟨⟨by decide +kernel, by decide +kernel⟩, List.mem_of_getElem? (i := 1090) (by decide +kernel), List.mem_of_getElem? (i := 1484) (by decide +kernel), List.mem_of_getElem? (i := 1485) (by decide +kernel)⟩
theorem lw_p68 : lw_okq (⟨"SquaredShipsModel", "countOf", "(JI)I"⟩, 42) := ⟨⟨by decide +kernel, by decide +kernel⟩, List.mem_of_getElem? (i := 1090) (by decide +kernel), List.mem_of_getElem? (i := 1488) (by decide +kernel), List.mem_of_getElem? (i := 1489) (by decide +kernel)⟩
noncomputable def lw_privs_5 : List (MethodName × Nat) := [(⟨"SquaredShipsModel", "blameOf", "()I"⟩, 42), (⟨"SquaredShipsModel", "differAlone", "(III)Z"⟩, 42), (⟨"SquaredShipsModel", "isRim", "(I)Z"⟩, 42), (⟨"SquaredShipsModel", "cellsOf", "(I)J"⟩, 42), (⟨"SquaredShipsModel", "countOf", "(JI)I"⟩, 42)]
theorem lw_r5 : ∀ q ∈ lw_privs_5, lw_okq q := List.forall_mem_cons.mpr ⟨lw_p64, List.forall_mem_cons.mpr ⟨lw_p65, List.forall_mem_cons.mpr ⟨lw_p66, List.forall_mem_cons.mpr ⟨lw_p67, List.forall_mem_cons.mpr ⟨lw_p68, fun _ h => absurd h List.not_mem_nil⟩⟩⟩⟩⟩
noncomputable def lw_privs : List (MethodName × Nat) := lw_privs_1 ++ (lw_privs_2 ++ (lw_privs_3 ++ (lw_privs_4 ++ (lw_privs_5))))
noncomputable def lw_tbl : List Cond := k2_sels lw_privs ++ tables_1
theorem lw_privs_ok : ∀ q ∈ lw_privs, lw_okq q := by
  show ∀ q ∈ lw_privs_1 ++ (lw_privs_2 ++ (lw_privs_3 ++ (lw_privs_4 ++ (lw_privs_5)))), lw_okq q
  exact List.forall_mem_append.mpr ⟨lw_r1, List.forall_mem_append.mpr ⟨lw_r2, List.forall_mem_append.mpr ⟨lw_r3, List.forall_mem_append.mpr ⟨lw_r4, lw_r5⟩⟩⟩⟩
end
section
/-! The words, each by its table and its place there. -/
/-- all words but those on private methods (their selection stands beside) -/
noncomputable def ez_fine : Cond → Bool
  | .privateMethod _ => false
  | _ => true
/-- the words that the machine stands on -/
noncomputable def ez_tb : List Cond := lw_tbl.filter ez_fine
noncomputable def ez_pt (q : Nat) : List Cond := bif Nat.beq q 0 then k2_sels lw_privs else bif Nat.beq q 1 then tables_1_1 else bif Nat.beq q 2 then tables_1_2 else bif Nat.beq q 3 then tables_1_3 else bif Nat.beq q 4 then tables_1_4 else bif Nat.beq q 5 then tables_1_5 else bif Nat.beq q 6 then tables_1_6 else bif Nat.beq q 7 then tables_1_7 else []
theorem ez_pt_if {b : Bool} {l1 l2 : List Cond} {x : Cond} (h : x ∈ (bif b then l1 else l2)) : x ∈ l1 ∨ x ∈ l2 := by
  cases b
  · exact Or.inr h
  · exact Or.inl h
theorem ez_pt_in {q : Nat} {x : Cond} (h : x ∈ ez_pt q) : x ∈ lw_tbl := by
  unfold ez_pt at h
  rcases ez_pt_if h with h | h
  · exact List.mem_append.mpr (Or.inl h)
  rcases ez_pt_if h with h | h
  · exact List.mem_append.mpr (Or.inr (show x ∈ tables_1 from List.mem_append.mpr (Or.inl h)))
  rcases ez_pt_if h with h | h
  · exact List.mem_append.mpr (Or.inr (show x ∈ tables_1 from List.mem_append.mpr (Or.inr (List.mem_append.mpr (Or.inl h)))))
  rcases ez_pt_if h with h | h
  · exact List.mem_append.mpr (Or.inr (show x ∈ tables_1 from List.mem_append.mpr (Or.inr (List.mem_append.mpr (Or.inr (List.mem_append.mpr (Or.inl h)))))))
  rcases ez_pt_if h with h | h
  · exact List.mem_append.mpr (Or.inr (show x ∈ tables_1 from List.mem_append.mpr (Or.inr (List.mem_append.mpr (Or.inr (List.mem_append.mpr (Or.inr (List.mem_append.mpr (Or.inl h)))))))))
  rcases ez_pt_if h with h | h
  · exact List.mem_append.mpr (Or.inr (show x ∈ tables_1 from List.mem_append.mpr (Or.inr (List.mem_append.mpr (Or.inr (List.mem_append.mpr (Or.inr (List.mem_append.mpr (Or.inr (List.mem_append.mpr (Or.inl h)))))))))))
  rcases ez_pt_if h with h | h
  · exact List.mem_append.mpr (Or.inr (show x ∈ tables_1 from List.mem_append.mpr (Or.inr (List.mem_append.mpr (Or.inr (List.mem_append.mpr (Or.inr (List.mem_append.mpr (Or.inr (List.mem_append.mpr (Or.inr (List.mem_append.mpr (Or.inl h)))))))))))))
  rcases ez_pt_if h with h | h
  · exact List.mem_append.mpr (Or.inr (show x ∈ tables_1 from List.mem_append.mpr (Or.inr (List.mem_append.mpr (Or.inr (List.mem_append.mpr (Or.inr (List.mem_append.mpr (Or.inr (List.mem_append.mpr (Or.inr (List.mem_append.mpr (Or.inr (h))))))))))))))
  · cases h
end
section
/-! A small machine that runs the class's bytecode over a world of cells counted from 0; 02 proves that what it answers, the methods answer. -/
/-- a cell of the world: an array, or an object (its class's number, its fields) -/
abbrev ez_C : Type := vp_A ⊕ (Nat × List Value)
abbrev ez_H : Type := List ez_C
/-- an instruction: itself, its length, two operands that are resolved, locals to keep (200: all), a place in the tables, a class's number -/
abbrev ez_I : Type := Instr × Nat × Nat × Nat × Nat × Nat × Nat
abbrev ez_O : Type := Option (Option Value × ez_H × Nat × Nat)
abbrev ez_P : Type := Nat → Nat → Option ez_I
/-- the script: its length, its ints -/
abbrev ez_X : Type := Nat × (Nat → Int32)
noncomputable def ez_fill : Value := .retAddr 0
noncomputable def ez_scr : Value := .retAddr 1
noncomputable def ez_real : Value → Bool
  | .retAddr n => n == 1
  | _ => true
/-- set a place, the list grown by fillers where it is short -/
noncomputable def ez_put : List Value → Nat → Value → List Value
  | [], 0, v => [v]
  | [], n + 1, v => ez_fill :: ez_put [] n v
  | _ :: t, 0, v => v :: t
  | a :: t, n + 1, v => a :: ez_put t n v
noncomputable def ez_isL (v : Value) : Bool := Nat.beq v.category 2
/-- a store over the second half of a long takes the long away -/
noncomputable def ez_clr (ls : List Value) : Nat → List Value
  | 0 => ls
  | n + 1 => match ls[n]? with
    | some v => bif ez_isL v then ez_put ls n ez_fill else ls
    | none => ls
noncomputable def ez_st1 (ls : List Value) (i : Nat) (v : Value) : List Value := ez_put (ez_clr ls i) i v
noncomputable def ez_st2 (ls : List Value) (i : Nat) (v : Value) : List Value := ez_put (ez_put (ez_clr ls i) i v) (i + 1) ez_fill
noncomputable def ez_lay : List Value → List Value
  | [] => []
  | v :: t => bif ez_isL v then v :: ez_fill :: ez_lay t else v :: ez_lay t
noncomputable def ez_cut (n : Nat) (ls : List Value) : List Value := bif Nat.ble 200 n then ls else ls.take n
noncomputable def ez_bin (f : Int32 → Int32 → Int32) : List Value → Option (List Value)
  | .int y :: .int x :: r => some (.int (f x y) :: r)
  | _ => none
noncomputable def ez_binD (f : Int32 → Int32 → Int32) : List Value → Option (List Value)
  | .int y :: .int x :: r => bif decide (y = 0) then none else some (.int (f x y) :: r)
  | _ => none
noncomputable def ez_binL (f : Int64 → Int64 → Int64) : List Value → Option (List Value)
  | .long y :: .long x :: r => some (.long (f x y) :: r)
  | _ => none
noncomputable def ez_sh (f : Int64 → Int32 → Int64) : List Value → Option (List Value)
  | .int y :: .long x :: r => some (.long (f x y) :: r)
  | _ => none
noncomputable def ez_lcmp : List Value → Option (List Value)
  | .long y :: .long x :: r => some (.int (lg_cmp x y) :: r)
  | _ => none
noncomputable def ez_i2l : List Value → Option (List Value)
  | .int x :: r => some (.long x.toInt64 :: r)
  | _ => none
noncomputable def ez_l2i : List Value → Option (List Value)
  | .long x :: r => some (.int x.toInt32 :: r)
  | _ => none
noncomputable def ez_cat1 : Value → Bool
  | .int _ => true
  | .ref _ => true
  | _ => false
noncomputable def ez_dup : List Value → Option (List Value)
  | v :: r => bif ez_cat1 v then some (v :: v :: r) else none
  | _ => none
noncomputable def ez_dup2 : List Value → Option (List Value)
  | v :: w :: r => bif ez_cat1 v && ez_cat1 w then some (v :: w :: v :: w :: r) else none
  | _ => none
noncomputable def ez_pop : List Value → Option (List Value)
  | v :: r => bif ez_cat1 v then some r else none
  | _ => none
noncomputable def ez_pop2 : List Value → Option (List Value)
  | v :: r => bif ez_isL v then some r else none
  | _ => none
noncomputable def ez_ldI (ls : List Value) (i : Nat) (st : List Value) : Option (List Value) := match ls[i]? with
  | some (.int v) => some (.int v :: st)
  | _ => none
noncomputable def ez_ldL (ls : List Value) (i : Nat) (st : List Value) : Option (List Value) := match ls[i]? with
  | some (.long v) => some (.long v :: st)
  | _ => none
noncomputable def ez_ldA (ls : List Value) (i : Nat) (st : List Value) : Option (List Value) := match ls[i]? with
  | some (.ref v) => some (.ref v :: st)
  | some (.retAddr n) => bif n == 1 then some (ez_scr :: st) else none
  | _ => none
noncomputable def ez_in {α : Type} (i : Int32) (n : Nat) (x : α) : Option α := bif decide (i < 0) then none else bif Nat.ble n i.toNatClampNeg then none else some x
noncomputable def ez_iald (X : ez_X) (h : ez_H) : List Value → Option (List Value)
  | .int i :: .ref p :: r => match h[p]? with
    | some (.inl (n, .inl f)) => ez_in i n (.int (f i.toNatClampNeg) :: r)
    | _ => none
  | .int i :: .retAddr n :: r => bif n == 1 then ez_in i X.1 (.int (X.2 i.toNatClampNeg) :: r) else none
  | _ => none
noncomputable def ez_lald (h : ez_H) : List Value → Option (List Value)
  | .int i :: .ref p :: r => match h[p]? with
    | some (.inl (n, .inr (.inl f))) => ez_in i n (.long (f i.toNatClampNeg) :: r)
    | _ => none
  | _ => none
noncomputable def ez_iast (h : ez_H) : List Value → Option (List Value × ez_H)
  | .int x :: .int i :: .ref p :: r => match h[p]? with
    | some (.inl (n, .inl f)) => ez_in i n (r, h.set p (.inl (n, .inl (upd f i.toNatClampNeg x))))
    | _ => none
  | _ => none
noncomputable def ez_last (h : ez_H) : List Value → Option (List Value × ez_H)
  | .long x :: .int i :: .ref p :: r => match h[p]? with
    | some (.inl (n, .inr (.inl f))) => ez_in i n (r, h.set p (.inl (n, .inr (.inl (vp_updL f i.toNatClampNeg x)))))
    | _ => none
  | _ => none
noncomputable def ez_alen (X : ez_X) (h : ez_H) : List Value → Option (List Value)
  | .ref p :: r => match h[p]? with
    | some (.inl (n, .inl _)) => some (.int (Int32.ofNat n) :: r)
    | some (.inl (n, .inr (.inl _))) => some (.int (Int32.ofNat n) :: r)
    | _ => none
  | .retAddr n :: r => bif n == 1 then some (.int (Int32.ofNat X.1) :: r) else none
  | _ => none
noncomputable def ez_get (ci k : Nat) (h : ez_H) : List Value → Option (List Value)
  | .ref p :: r => match h[p]? with
    | some (.inr (cj, fs)) => bif Nat.beq cj ci then (match fs[k]? with
      | some v => some (v :: r)
      | none => none) else none
    | _ => none
  | _ => none
noncomputable def ez_set (ty : FieldType) (ci k : Nat) (h : ez_H) : List Value → Option (List Value × ez_H)
  | v :: .ref p :: r => match h[p]? with
    | some (.inr (cj, fs)) => bif Nat.beq cj ci && fits ty v && Nat.blt k fs.length then some (r, h.set p (.inr (cj, fs.set k v))) else none
    | _ => none
  | _ => none
noncomputable def ez_icmp (o : ClassFile.Cond) : List Value → Option (Bool × List Value)
  | .int y :: .int x :: r => some (match o with
    | .eq => decide (x = y)
    | .ne => decide (¬ x = y)
    | .lt => decide (x < y)
    | .ge => decide (y ≤ x)
    | .gt => decide (y < x)
    | .le => decide (x ≤ y), r)
  | _ => none
noncomputable def ez_ifc (o : ClassFile.Cond) : List Value → Option (Bool × List Value)
  | .int x :: r => some (match o with
    | .eq => decide (x = 0)
    | .ne => decide (¬ x = 0)
    | .lt => decide (x < 0)
    | .ge => decide (0 ≤ x)
    | .gt => decide (0 < x)
    | .le => decide (x ≤ 0), r)
  | _ => none
noncomputable def ez_tg (pc : Nat) (off : Int) : Option Nat := bif decide ((pc : Int) + off < 0) then none else some ((pc : Int) + off).toNat
noncomputable def ez_sw (dflt lo hi : Int) (offs : Array Int) (pc : Nat) (x : Int32) : Option Nat :=
  bif decide (x.toInt < lo ∨ hi < x.toInt) then ez_tg pc dflt else (match offs[(x.toInt - lo).toNat]? with
    | some off => ez_tg pc off
    | none => none)
/-- the instructions that neither make, call, jump nor end -/
noncomputable def ez_b (X : ez_X) (ty : Nat → Nat → FieldType) (i : Instr) (a b : Nat) (ls st : List Value) (h : ez_H) : Option (List Value × List Value × ez_H) := match i with
  | .aload_n k => (ez_ldA ls k.val st).map fun t => (ls, t, h)
  | .aload k => (ez_ldA ls k st).map fun t => (ls, t, h)
  | .iload_n k => (ez_ldI ls k.val st).map fun t => (ls, t, h)
  | .iload k => (ez_ldI ls k st).map fun t => (ls, t, h)
  | .lload_n k => (ez_ldL ls k.val st).map fun t => (ls, t, h)
  | .lload k => (ez_ldL ls k st).map fun t => (ls, t, h)
  | .istore_n k => match st with
    | .int v :: r => some (ez_st1 ls k.val (.int v), r, h)
    | _ => none
  | .istore k => match st with
    | .int v :: r => some (ez_st1 ls k (.int v), r, h)
    | _ => none
  | .lstore_n k => match st with
    | .long v :: r => some (ez_st2 ls k.val (.long v), r, h)
    | _ => none
  | .lstore k => match st with
    | .long v :: r => some (ez_st2 ls k (.long v), r, h)
    | _ => none
  | .astore_n k => match st with
    | .ref v :: r => some (ez_st1 ls k.val (.ref v), r, h)
    | _ => none
  | .astore k => match st with
    | .ref v :: r => some (ez_st1 ls k (.ref v), r, h)
    | _ => none
  | .iinc k n => match ls[k]? with
    | some (.int v) => some (ez_st1 ls k (.int (v + Int32.ofInt n)), st, h)
    | _ => none
  | .iconst n => some (ls, .int (Int32.ofInt n) :: st, h)
  | .lconst n => some (ls, .long (Int64.ofNat n.val) :: st, h)
  | .bipush n => some (ls, .int (Int8.ofInt n).toInt32 :: st, h)
  | .sipush n => some (ls, .int (Int16.ofInt n).toInt32 :: st, h)
  | .ldc _ => some (ls, .int (Int32.ofNat b) :: st, h)
  | .ldc_w _ => some (ls, .int (Int32.ofNat b) :: st, h)
  | .ldc2_w _ => some (ls, .long (Int64.ofNat b) :: st, h)
  | .iadd => (ez_bin (fun x y => x + y) st).map fun t => (ls, t, h)
  | .isub => (ez_bin (fun x y => x - y) st).map fun t => (ls, t, h)
  | .imul => (ez_bin (fun x y => x * y) st).map fun t => (ls, t, h)
  | .idiv => (ez_binD (fun x y => x / y) st).map fun t => (ls, t, h)
  | .irem => (ez_binD (fun x y => x - x / y * y) st).map fun t => (ls, t, h)
  | .iand => (ez_bin (fun x y => x &&& y) st).map fun t => (ls, t, h)
  | .ior => (ez_bin (fun x y => x ||| y) st).map fun t => (ls, t, h)
  | .ixor => (ez_bin (fun x y => x ^^^ y) st).map fun t => (ls, t, h)
  | .ishl => (ez_bin (fun x y => x <<< (y &&& 31)) st).map fun t => (ls, t, h)
  | .ishr => (ez_bin (fun x y => x >>> (y &&& 31)) st).map fun t => (ls, t, h)
  | .iushr => (ez_bin (fun x y => (x.toUInt32 >>> (y.toUInt32 &&& Int32.toUInt32 31)).toInt32) st).map fun t => (ls, t, h)
  | .ladd => (ez_binL (fun x y => x + y) st).map fun t => (ls, t, h)
  | .lsub => (ez_binL (fun x y => x - y) st).map fun t => (ls, t, h)
  | .lmul => (ez_binL (fun x y => x * y) st).map fun t => (ls, t, h)
  | .land => (ez_binL (fun x y => x &&& y) st).map fun t => (ls, t, h)
  | .lor => (ez_binL (fun x y => x ||| y) st).map fun t => (ls, t, h)
  | .lxor => (ez_binL (fun x y => x ^^^ y) st).map fun t => (ls, t, h)
  | .lshl => (ez_sh (fun x y => x <<< (y.toInt64 &&& 63)) st).map fun t => (ls, t, h)
  | .lshr => (ez_sh (fun x y => x >>> (y.toInt64 &&& 63)) st).map fun t => (ls, t, h)
  | .lushr => (ez_sh (fun x y => (x.toUInt64 >>> (y.toInt64.toUInt64 &&& Int64.toUInt64 63)).toInt64) st).map fun t => (ls, t, h)
  | .lcmp => (ez_lcmp st).map fun t => (ls, t, h)
  | .i2l => (ez_i2l st).map fun t => (ls, t, h)
  | .l2i => (ez_l2i st).map fun t => (ls, t, h)
  | .dup => (ez_dup st).map fun t => (ls, t, h)
  | .dup2 => (ez_dup2 st).map fun t => (ls, t, h)
  | .pop => (ez_pop st).map fun t => (ls, t, h)
  | .pop2 => (ez_pop2 st).map fun t => (ls, t, h)
  | .iaload => (ez_iald X h st).map fun t => (ls, t, h)
  | .laload => (ez_lald h st).map fun t => (ls, t, h)
  | .iastore => (ez_iast h st).map fun t => (ls, t.1, t.2)
  | .lastore => (ez_last h st).map fun t => (ls, t.1, t.2)
  | .arraylength => (ez_alen X h st).map fun t => (ls, t, h)
  | .getfield _ => (ez_get a b h st).map fun t => (ls, t, h)
  | .putfield _ => (ez_set (ty a b) a b h st).map fun t => (ls, t.1, t.2)
  | _ => none
/-- what a machine that answers a call with 'ih' does at one instruction -/
abbrev ez_F : Type := Nat → Nat → List Value → List Value → ez_H → Nat → Nat → ez_O
noncomputable def ez_cats : List Value → Nat
  | [] => 0
  | v :: t => v.category + ez_cats t
/-- a receiver's class -/
noncomputable def ez_isO (ci : Nat) (h : ez_H) : List Value → Bool
  | .ref p :: _ => match h[p]? with
    | some (.inr (cj, _)) => Nat.beq cj ci
    | _ => false
  | _ => false
noncomputable def ez_isR : List Value → Bool
  | .ref _ :: _ => true
  | _ => false
noncomputable def ez_go (mL : Nat → Nat) (ih : ez_F) (m pc a n : Nat) (ls st : List Value) (h : ez_H) (c k : Nat) : ez_O :=
  bif Nat.ble n st.length && (Nat.ble (ez_cats (st.drop n)) 8 && Nat.ble (ez_cats (st.take n).reverse) (mL a)) then (match ih a 0 (ez_lay (st.take n).reverse) [] h 0 0 with
    | some (r, h', c1, k1) => ih m (pc + 3) ls (r.toList ++ st.drop n) h' (c + c1) (k + k1)
    | none => none) else none
noncomputable def ez_stp (P : ez_P) (X : ez_X) (ty : Nat → Nat → FieldType) (nw : Nat → List Value) (mL : Nat → Nat) (ih : ez_F) : ez_F := fun m pc ls0 st h c k =>
  match P m pc with
  | none => none
  | some (i, len, a, b, cut, _, d) => match i with
    | .goto _ => ih m a (ez_cut cut ls0) st h c k
    | .if_icmp o _ => match ez_icmp o st with
      | some (t, r) => bif t then ih m a (ez_cut cut ls0) r h c k else ih m (pc + 3) (ez_cut cut ls0) r h c k
      | none => none
    | .ifCond o _ => match ez_ifc o st with
      | some (t, r) => bif t then ih m a (ez_cut cut ls0) r h c k else ih m (pc + 3) (ez_cut cut ls0) r h c k
      | none => none
    | .tableswitch dflt lo hi offs => match st with
      | .int x :: r => match ez_sw dflt lo hi offs pc x with
        | some q => ih m q (ez_cut cut ls0) r h c k
        | none => none
      | _ => none
    | .ireturn => match st with
      | [.int v] => bif Nat.beq b 0 || decide (v = 0) || decide (v = 1) then some (some (.int v), h, c, k) else none
      | _ => none
    | .lreturn => match st with
      | [.long v] => some (some (.long v), h, c, k)
      | _ => none
    | .areturn => match st with
      | [.ref v] => some (some (.ref v), h, c, k)
      | _ => none
    | .return_ => match st with
      | [] => some (none, h, c, k)
      | _ => none
    | .new _ => ih m (pc + 3) (ez_cut cut ls0) (.ref h.length :: st) (h ++ [.inr (a, nw a)]) (c + 1) (k + b)
    | .newarray ty => match st with
      | .int n :: r => bif decide (n < 0) || Nat.ble 1000000 n.toNatClampNeg then none else (match ty with
        | .int => ih m (pc + 2) (ez_cut cut ls0) (.ref h.length :: r) (h ++ [.inl (n.toNatClampNeg, .inl fun _ => 0)]) (c + 1) (k + n.toNatClampNeg)
        | .long => ih m (pc + 2) (ez_cut cut ls0) (.ref h.length :: r) (h ++ [.inl (n.toNatClampNeg, .inr (.inl fun _ => 0))]) (c + 1) (k + n.toNatClampNeg)
        | _ => none)
      | _ => none
    | .invokevirtual _ => bif ez_isO d h (st.take b).reverse then ez_go mL ih m pc a b (ez_cut cut ls0) st h c k else none
    | .invokestatic _ => bif Nat.beq a 901 then (match st with
        | .int y :: .int x :: r => bif Nat.ble (ez_cats r) 8 then ih m (pc + 3) (ez_cut cut ls0) (.int (if x < y then y else x) :: r) h c k else none
        | _ => none) else bif Nat.beq a 902 then (match st with
        | .int y :: .int x :: r => bif Nat.ble (ez_cats r) 8 then ih m (pc + 3) (ez_cut cut ls0) (.int (if y < x then y else x) :: r) h c k else none
        | _ => none) else ez_go mL ih m pc a b (ez_cut cut ls0) st h c k
    | .invokespecial _ => bif Nat.beq a 900 then (match st with
        | .ref _ :: r => bif Nat.ble (ez_cats r) 8 then ih m (pc + 3) (ez_cut cut ls0) r h c k else none
        | _ => none) else bif ez_isR (st.take b).reverse then ez_go mL ih m pc a b (ez_cut cut ls0) st h c k else none
    | i => match ez_b X ty i a b (ez_cut cut ls0) st h with
      | some (ls', st', h') => ih m (pc + len) ls' st' h' c k
      | none => none
noncomputable def ez_ev (P : ez_P) (X : ez_X) (ty : Nat → Nat → FieldType) (nw : Nat → List Value) (mL : Nat → Nat) (F : Nat) : ez_F :=
  Nat.rec (motive := fun _ => ez_F) (fun _ _ _ _ _ _ _ => none) (fun _ ih => ez_stp P X ty nw mL ih) F
theorem ez_ev_s (P : ez_P) (X : ez_X) (ty : Nat → Nat → FieldType) (nw : Nat → List Value) (mL : Nat → Nat) (F : Nat) : ez_ev P X ty nw mL (F + 1) = ez_stp P X ty nw mL (ez_ev P X ty nw mL F) := rfl
end
section
/-! The world of the machine against the heap. S0: where the world begins; b0: the script's cell; cI, cJ: the classes of int and of long arrays. -/
noncomputable def ez_mv (S0 b0 : Nat) : Value → Value
  | .ref p => .ref (S0 + p)
  | .retAddr n => bif n == 1 then .ref b0 else .retAddr n
  | v => v
noncomputable def ez_mc (S0 b0 : Nat) (cI cJ : ClassId) : ez_C → va_E
  | .inl (n, .inl f) => .inl (cI, n, .inl f)
  | .inl (n, .inr x) => .inl (cJ, n, .inr x)
  | .inr (ci, fs) => .inr (ci, fs.map (ez_mv S0 b0))
noncomputable def ez_ws (S0 b0 : Nat) (cI cJ : ClassId) : Nat → ez_H → va_W
  | _, [] => []
  | n, c :: t => (S0 + n, ez_mc S0 b0 cI cJ c) :: ez_ws S0 b0 cI cJ (n + 1) t
theorem ez_ws_get (S0 b0 : Nat) (cI cJ : ClassId) : ∀ (h : ez_H) (n k : Nat), (ez_ws S0 b0 cI cJ n h)[k]? = (h[k]?).map fun c => (S0 + (n + k), ez_mc S0 b0 cI cJ c) := by
  intro h
  induction h with
  | nil => intro n k; simp [ez_ws]
  | cons c t ih =>
    intro n k
    cases k with
    | zero => simp [ez_ws]
    | succ k =>
      show (ez_ws S0 b0 cI cJ (n + 1) t)[k]? = _
      rw [ih, show n + 1 + k = n + (k + 1) by omega]
      simp
theorem ez_ws_set (S0 b0 : Nat) (cI cJ : ClassId) (c : ez_C) : ∀ (h : ez_H) (n k : Nat), ez_ws S0 b0 cI cJ n (h.set k c) = (ez_ws S0 b0 cI cJ n h).set k (S0 + (n + k), ez_mc S0 b0 cI cJ c) := by
  intro h
  induction h with
  | nil => intro n k; simp [ez_ws]
  | cons a t ih =>
    intro n k
    cases k with
    | zero => simp [ez_ws]
    | succ k =>
      show (S0 + n, ez_mc S0 b0 cI cJ a) :: ez_ws S0 b0 cI cJ (n + 1) (t.set k c) = _
      rw [ih, show n + 1 + k = n + (k + 1) by omega]
      simp [ez_ws]
theorem ez_ws_app (S0 b0 : Nat) (cI cJ : ClassId) (c : ez_C) : ∀ (h : ez_H) (n : Nat), ez_ws S0 b0 cI cJ n (h ++ [c]) = ez_ws S0 b0 cI cJ n h ++ [(S0 + (n + h.length), ez_mc S0 b0 cI cJ c)] := by
  intro h
  induction h with
  | nil => intro n; simp [ez_ws]
  | cons a t ih =>
    intro n
    show (S0 + n, ez_mc S0 b0 cI cJ a) :: ez_ws S0 b0 cI cJ (n + 1) (t ++ [c]) = _
    rw [ih]
    simp [ez_ws, show n + 1 + t.length = n + (t.length + 1) by omega]
noncomputable def ez_A (S0 : Nat) : Nat → Prop := fun q => S0 ≤ q
theorem ez_ws_D (S0 b0 : Nat) (cI cJ : ClassId) (h : ez_H) : va_D (ez_A S0) (ez_ws S0 b0 cI cJ 0 h) := by
  have key : ∀ (k : Nat) (q : Nat × va_E), (ez_ws S0 b0 cI cJ 0 h)[k]? = some q → q.1 = S0 + k := by
    intro k q hk
    rw [ez_ws_get] at hk
    obtain ⟨c, -, e⟩ := Option.map_eq_some_iff.mp hk
    rw [← e]
    simp
  refine ⟨fun i j p q hi hj e => ?_, fun k q hk => ?_⟩
  · have h1 := key i p hi
    have h2 := key j q hj
    omega
  · have h1 := key k q hk
    show S0 ≤ q.1
    omega
/-- the heap holds the world, and nothing stands behind it -/
noncomputable def ez_R (D : va_G) (cl : List vw_C) (S0 b0 : Nat) (cI cJ : ClassId) (h : ez_H) (H : Heap) : Prop := H.size = S0 + h.length ∧ va_P D cl (ez_ws S0 b0 cI cJ 0 h) H
theorem ez_ws_at {S0 b0 : Nat} {cI cJ : ClassId} {h : ez_H} {p : Nat} {c : ez_C} (hp : h[p]? = some c) : (ez_ws S0 b0 cI cJ 0 h)[p]? = some (S0 + p, ez_mc S0 b0 cI cJ c) := by
  rw [ez_ws_get, hp]
  simp
theorem ez_mv_cat (S0 b0 : Nat) (v : Value) : (ez_mv S0 b0 v).category = v.category := by
  cases v <;> simp [ez_mv, Value.category]
  rename_i n
  cases n == 1 <;> rfl
theorem ez_cats_sum (S0 b0 : Nat) (st : List Value) : ((st.map (ez_mv S0 b0)).map fun v => v.category).sum = ez_cats st := by
  induction st with
  | nil => rfl
  | cons v t ih => simp only [List.map_cons, List.sum_cons, ez_cats, ih, ez_mv_cat]
/-! locals -/
noncomputable def ez_lv (S0 b0 : Nat) : Nat → List Value → List (Nat × Value)
  | _, [] => []
  | i, v :: t => bif ez_real v then (i, ez_mv S0 b0 v) :: ez_lv S0 b0 (i + 1) t else ez_lv S0 b0 (i + 1) t
theorem ez_lv_mem (S0 b0 : Nat) : ∀ (ls : List Value) (n : Nat) (q : Nat × Value), q ∈ ez_lv S0 b0 n ls ↔ ∃ (k : Nat) (v : Value), ls[k]? = some v ∧ ez_real v = true ∧ q = (n + k, ez_mv S0 b0 v) := by
  intro ls
  induction ls with
  | nil => intro n q; simp [ez_lv]
  | cons a t ih =>
    intro n q
    have hc : q ∈ ez_lv S0 b0 n (a :: t) ↔ (ez_real a = true ∧ q = (n, ez_mv S0 b0 a)) ∨ q ∈ ez_lv S0 b0 (n + 1) t := by
      show q ∈ (bif ez_real a then (n, ez_mv S0 b0 a) :: ez_lv S0 b0 (n + 1) t else ez_lv S0 b0 (n + 1) t) ↔ _
      cases ha : ez_real a <;> simp
    rw [hc, ih]
    constructor
    · rintro (⟨h1, h2⟩ | ⟨k, v, h1, h2, h3⟩)
      · exact ⟨0, a, rfl, h1, by simpa using h2⟩
      · exact ⟨k + 1, v, by simpa using h1, h2, by rw [h3]; congr 1; omega⟩
    · rintro ⟨k, v, h1, h2, h3⟩
      cases k with
      | zero =>
        have : a = v := by simpa using h1
        subst this
        exact Or.inl ⟨h2, by simpa using h3⟩
      | succ k => exact Or.inr ⟨k, v, by simpa using h1, h2, by rw [h3]; congr 1; omega⟩
theorem ez_has_sub {ls : Array Slot} {nL : Nat} {l l' : List (Nat × Value)} (h : lv_has ls nL l) (hs : ∀ q ∈ l', q ∈ l) : lv_has ls nL l' := ⟨h.1, h.2.1, fun q hq => h.2.2 q (hs q hq)⟩
theorem ez_lv_take {S0 b0 : Nat} {lsA : Array Slot} {nL : Nat} {ls : List Value} (n : Nat) (h : lv_has lsA nL (ez_lv S0 b0 0 ls)) : lv_has lsA nL (ez_lv S0 b0 0 (ez_cut n ls)) := by
  unfold ez_cut
  cases Nat.ble 200 n with
  | true => exact h
  | false =>
    refine ez_has_sub h fun q hq => ?_
    obtain ⟨k, v, h1, h2, h3⟩ := (ez_lv_mem _ _ _ _ _).mp hq
    refine (ez_lv_mem _ _ _ _ _).mpr ⟨k, v, ?_, h2, h3⟩
    have h1' : (ls.take n)[k]? = some v := h1
    rw [List.getElem?_take] at h1'
    split at h1'
    · exact h1'
    · cases h1'
theorem ez_put_get : ∀ (ls : List Value) (i : Nat) (v : Value) (j : Nat) (w : Value), (ez_put ls i v)[j]? = some w → (j = i ∧ w = v) ∨ (j ≠ i ∧ (ls[j]? = some w ∨ w = ez_fill)) := by
  intro ls
  induction ls with
  | nil =>
    intro i
    induction i with
    | zero =>
      intro v j w h
      cases j with
      | zero => exact Or.inl ⟨rfl, (by simpa [ez_put] using h.symm)⟩
      | succ j => simp [ez_put] at h
    | succ i ih =>
      intro v j w h
      cases j with
      | zero => exact Or.inr ⟨by omega, Or.inr (by simpa [ez_put] using h.symm)⟩
      | succ j =>
        rcases ih v j w (by simpa [ez_put] using h) with ⟨h1, h2⟩ | ⟨h1, h2⟩
        · exact Or.inl ⟨by omega, h2⟩
        · refine Or.inr ⟨by omega, ?_⟩
          rcases h2 with h2 | h2
          · simp at h2
          · exact Or.inr h2
  | cons a t ih =>
    intro i v j w h
    cases i with
    | zero =>
      cases j with
      | zero => exact Or.inl ⟨rfl, (by simpa [ez_put] using h.symm)⟩
      | succ j => exact Or.inr ⟨by omega, Or.inl (by simpa [ez_put] using h)⟩
    | succ i =>
      cases j with
      | zero => exact Or.inr ⟨by omega, Or.inl (by simpa [ez_put] using h)⟩
      | succ j =>
        rcases ih i v j w (by simpa [ez_put] using h) with ⟨h1, h2⟩ | ⟨h1, h2⟩
        · exact Or.inl ⟨by omega, h2⟩
        · exact Or.inr ⟨by omega, (by simpa using h2)⟩
theorem ez_real_fill : ez_real ez_fill = false := rfl
theorem ez_clr_get (ls : List Value) (i j : Nat) (w : Value) (hw : ez_real w = true) (h : (ez_clr ls i)[j]? = some w) : ls[j]? = some w ∧ ¬ (j + 1 = i ∧ w.category = 2) := by
  cases i with
  | zero => exact ⟨h, fun q => by omega⟩
  | succ n =>
    cases hn : ls[n]? with
    | none =>
      simp only [ez_clr, hn] at h
      refine ⟨h, fun q => ?_⟩
      have : j = n := by omega
      subst this
      rw [hn] at h
      cases h
    | some v =>
      simp only [ez_clr, hn] at h
      cases hv : ez_isL v with
      | false =>
        simp only [hv, cond_false] at h
        refine ⟨h, fun q => ?_⟩
        have : j = n := by omega
        subst this
        have e : v = w := Option.some.inj (hn.symm.trans h)
        subst e
        have := q.2
        simp [ez_isL, this] at hv
      | true =>
        simp only [hv, cond_true] at h
        rcases ez_put_get ls n ez_fill j w h with ⟨h1, h2⟩ | ⟨h1, h2⟩
        · subst h2
          cases hw
        · rcases h2 with h2 | h2
          · exact ⟨h2, fun q => h1 (by omega)⟩
          · subst h2
            cases hw
theorem ez_st1_in {S0 b0 : Nat} {ls : List Value} {i : Nat} {v : Value} : ∀ q ∈ ez_lv S0 b0 0 (ez_st1 ls i v), q ∈ (i, ez_mv S0 b0 v) :: (ez_lv S0 b0 0 ls).filter (fun q => !(q.1 == i) && !(q.1 + 1 == i && q.2.category == 2)) := by
  intro q hq
  obtain ⟨k, w, h1, h2, rfl⟩ := (ez_lv_mem _ _ _ _ _).mp hq
  rcases ez_put_get _ _ _ _ _ h1 with ⟨rfl, rfl⟩ | ⟨h3, h4⟩
  · simp
  · rcases h4 with h4 | rfl
    · obtain ⟨h5, h6⟩ := ez_clr_get _ _ _ _ h2 h4
      refine List.mem_cons_of_mem _ (List.mem_filter.mpr ⟨(ez_lv_mem _ _ _ _ _).mpr ⟨k, w, h5, h2, rfl⟩, ?_⟩)
      simp only [Nat.zero_add, ez_mv_cat]
      simp only [Bool.and_eq_true, Bool.not_eq_true', beq_eq_false_iff_ne, ne_eq, Bool.and_eq_false_iff]
      refine ⟨h3, ?_⟩
      by_cases hk : k + 1 = i
      · exact Or.inr fun z => h6 ⟨hk, z⟩
      · exact Or.inl hk
    · cases h2
theorem ez_st2_in {S0 b0 : Nat} {ls : List Value} {i : Nat} {v : Value} : ∀ q ∈ ez_lv S0 b0 0 (ez_st2 ls i v), q ∈ (i, ez_mv S0 b0 v) :: (ez_lv S0 b0 0 ls).filter (fun q => !(q.1 == i) && (!(q.1 == i + 1) && !(q.1 + 1 == i && q.2.category == 2))) := by
  intro q hq
  obtain ⟨k, w, h1, h2, rfl⟩ := (ez_lv_mem _ _ _ _ _).mp hq
  rcases ez_put_get _ _ _ _ _ h1 with ⟨rfl, rfl⟩ | ⟨h0, h1⟩
  · cases h2
  rcases h1 with h1 | rfl
  · rcases ez_put_get _ _ _ _ _ h1 with ⟨rfl, rfl⟩ | ⟨h3, h4⟩
    · simp
    · rcases h4 with h4 | rfl
      · obtain ⟨h5, h6⟩ := ez_clr_get _ _ _ _ h2 h4
        refine List.mem_cons_of_mem _ (List.mem_filter.mpr ⟨(ez_lv_mem _ _ _ _ _).mpr ⟨k, w, h5, h2, rfl⟩, ?_⟩)
        simp only [Nat.zero_add, ez_mv_cat]
        simp only [Bool.and_eq_true, Bool.not_eq_true', beq_eq_false_iff_ne, ne_eq, Bool.and_eq_false_iff]
        refine ⟨h3, h0, ?_⟩
        by_cases hk : k + 1 = i
        · exact Or.inr fun z => h6 ⟨hk, z⟩
        · exact Or.inl hk
      · cases h2
  · cases h2
/-- the locals with which a method begins -/
theorem ez_lay_in {S0 b0 : Nat} : ∀ (vs : List Value) (n : Nat), ∀ q ∈ ez_lv S0 b0 n (ez_lay vs), q ∈ lv_args n (vs.map (ez_mv S0 b0)) := by
  intro vs
  induction vs with
  | nil => intro n q hq; simp [ez_lay, ez_lv] at hq
  | cons v t ih =>
    intro n q hq
    show q ∈ (n, ez_mv S0 b0 v) :: lv_args (if (ez_mv S0 b0 v).category = 2 then n + 2 else n + 1) (t.map (ez_mv S0 b0))
    rw [ez_mv_cat]
    unfold ez_lay at hq
    cases hv : ez_isL v with
    | true =>
      have h2 : v.category = 2 := by simpa [ez_isL] using hv
      rw [if_pos h2]
      rw [hv] at hq
      obtain ⟨k, w, h1, h3, rfl⟩ := (ez_lv_mem _ _ _ _ _).mp hq
      match k, h1 with
      | 0, h1 =>
        have : v = w := by simpa using h1
        subst this
        simp
      | 1, h1 =>
        have : ez_fill = w := by simpa using h1
        subst this
        cases h3
      | k + 2, h1 =>
        refine List.mem_cons_of_mem _ (ih (n + 2) _ ((ez_lv_mem _ _ _ _ _).mpr ⟨k, w, by simpa using h1, h3, ?_⟩))
        congr 1
        omega
    | false =>
      have h2 : ¬ v.category = 2 := by
        intro z
        simp [ez_isL, z] at hv
      rw [if_neg h2]
      rw [hv] at hq
      obtain ⟨k, w, h1, h3, rfl⟩ := (ez_lv_mem _ _ _ _ _).mp hq
      match k, h1 with
      | 0, h1 =>
        have : v = w := by simpa using h1
        subst this
        simp
      | k + 1, h1 =>
        refine List.mem_cons_of_mem _ (ih (n + 1) _ ((ez_lv_mem _ _ _ _ _).mpr ⟨k, w, by simpa using h1, h3, ?_⟩))
        congr 1
        omega
end
section
/-! Rows of the machine over the heap: a store or a making, and how large the heap is behind it. -/
section EZROWS
variable {p : Program} {l : Launch} {e : Env} {R : Room} {s : State} {m : MethodId} {args : Array Value} {below : List Frame} {meth : Method} {c : Code} {H : Heap} {locs : List Loc} {cells slots : Nat} {Q : State → Prop}
variable {cc : ByteArray} {pc : Nat} {ls : Array Slot} {rest : List Value}
variable {D : va_G} {cl : List vw_C} {S0 b0 : Nat} {cI cJ : ClassId} {h : ez_H} {H0 : Heap} {tbl : List Cond}
theorem ez_R.put {H1 : Heap} {q : Nat} {x y : ez_C} (hR : ez_R D cl S0 b0 cI cJ h H) (hq : h[q]? = some x) (z : H1.size = H.size) (o : ∀ j : Nat, j ≠ S0 + q → H1[j]? = H[j]?) (hy : va_at D cl (S0 + q, ez_mc S0 b0 cI cJ y) H1) : ez_R D cl S0 b0 cI cJ (h.set q y) H1 := by
  refine ⟨by rw [z, hR.1, List.length_set], ?_⟩
  rw [ez_ws_set, Nat.zero_add]
  exact hR.2.set (ez_ws_D S0 b0 cI cJ h) (ez_ws_at hq) hy o
theorem ez_R.push {H1 : Heap} {y : ez_C} (hR : ez_R D cl S0 b0 cI cJ h H) (z : H1.size = H.size + 1) (o : ∀ j : Nat, j < H.size → H1[j]? = H[j]?) (hy : va_at D cl (H.size, ez_mc S0 b0 cI cJ y) H1) : ez_R D cl S0 b0 cI cJ (h ++ [y]) H1 := by
  refine ⟨by rw [z, hR.1, List.length_append]; rfl, ?_⟩
  rw [ez_ws_app, Nat.zero_add, ← hR.1]
  refine (hR.2.kept fun k q hk => o q.1 (hR.2 k q hk).lt).app fun k q hk => ?_
  have hz : k < 1 := (List.getElem?_eq_some_iff.mp hk).1
  rw [show k = 0 by omega] at hk
  cases hk
  exact hy
theorem ez_S.push {H1 : Heap} (hS : va_S (ez_A S0) H0 H locs) (z : H1.size = H.size + 1) (o : ∀ j : Nat, j < H.size → H1[j]? = H[j]?) : va_S (ez_A S0) H0 H1 locs :=
  ⟨Nat.le_trans hS.1 (by omega), fun q h1 h2 => (o q (Nat.lt_of_lt_of_le h1 hS.1)).trans (hS.2.1 q h1 h2), hS.2.2⟩
/-- a field is written, by any of the three kinds of links -/
theorem ez_putrow (hexec : p.tables.exec = Jvm.exec) (hb : c.code = cc) {own C : String} {T : u_T} {N ci index q : Nat} (hts : ∀ w ∈ tbl, w.before args s = true) (hin : ∀ w ∈ u_ws C T N, w ∈ tbl) (ty : Nat → FieldType) (hty : ∀ k, k < N → parseFieldDescriptor (T k).2.2.1 = some (ty k)) (hnm : ∀ a, a < N → ∀ b, b < N → a ≠ b → (T a).2.1 ≠ (T b).2.1) (hown : s.vm.findClass own = some m.cls)
    {tys : List (ClassId × FieldType)} (hK : va_K D cl tys s) (hR : ez_R D cl S0 b0 cI cJ h H) (hS0 : va_S (ez_A S0) H0 H locs) {fs : List Value} (he : h[q]? = some (.inr (ci, fs))) (hc : cl[ci]? = some (C, T, N)) (k : Nat) (hk : k < N)
    (hlink : ((Cond.fieldLink own index (T k).1 (T k).2.1 (T k).2.2.1).before args s = true ∧ ((T k).2.2.2 = false ∨ ((T k).2.2.2 = true ∧ meth.name = "<init>" ∧ (T k).1 = own))) ∨ (∃ host, (Cond.fieldLinkNest own index (T k).1 (T k).2.1 (T k).2.2.1 host).before args s = true ∧ (T k).2.2.2 = false))
    {v : Value} (hn : narrow (ty k) (ez_mv S0 b0 v) = ez_mv S0 b0 v) (hfit : fits (ty k) (ez_mv S0 b0 v) = true) (hl : k < fs.length) (hdg : decode cc pc = .ok (.putfield index, 3))
    (kk : ∀ (H1 : Heap) (locs1 : List Loc), ez_R D cl S0 b0 cI cJ (h.set q (.inr (ci, fs.set k v))) H1 → va_S (ez_A S0) H0 H1 locs1 → W p l e R s m args below meth c H1 locs1 cells slots Q (F0 m (pc + 3) ls rest)) : W p l e R s m args below meth c H locs cells slots Q (F0 m pc ls (ez_mv S0 b0 v :: .ref (S0 + q) :: rest)) := by
  have hap := va_apart (own := own) hts hin ty hty hnm hK hc
  obtain ⟨r, h1, cell, q1, q2, q3, q4⟩ := hR.2 q _ (ez_ws_at he)
  have hr : r = (C, T, N) := Option.some.inj (h1.symm.trans hc)
  subst hr
  obtain ⟨hS, hfc, kC, hkC, hkind⟩ := hK.1 ci _ hc
  obtain ⟨cf, kf, fi, f, hi, hsl⟩ := hS k hk
  have hst := (u_facts hfc hkC (u_lays hts hin hk) hi).1
  have hlay := hts _ (hin _ (u_in_lay hk))
  unfold u_lay at hlay
  have fin : ∀ H' : Heap, H'[S0 + q]? = some (cell.setSlot f.slot (ez_mv S0 b0 v)) → H'.size = H.size → (∀ j, j ≠ S0 + q → H'[j]? = H[j]?) → W p l e R s m args below meth c H' (locs ++ [⟨S0 + q, f.slot⟩]) cells slots Q (F0 m (pc + 3) ls rest) := by
    intro H' e1 e2 e3
    rw [hsl] at e1 ⊢
    refine kk H' _ (hR.put he e2 e3 ?_) (hS0.put e2 e3 (Nat.le_add_right S0 q))
    refine ⟨_, hc, t_OB.to (V := updV (vp_V (fs.map (ez_mv S0 b0))) k (ez_mv S0 b0 v)) ⟨_, e1, q2, q3, t_set q4 hap hk _⟩ fun j _ => ?_⟩
    rw [vp_updV_set (by rw [List.length_map]; exact hl), ← List.map_set]
  have hz : k2_hasslot (q4 k hk) = k2_hasslot (q4 k hk) := rfl
  rcases hlink with ⟨hlink, hf | ⟨hf, hi2, hdecl⟩⟩ | ⟨host, hlink, hf⟩
  · rw [if_neg (by rw [hf]; decide)] at hlay
    have h6 := u_store hfc hkC hkind hlay hi (hty k hk) hn hfit
    exact W.putK hexec hb (f := f) ⟨hown, hlink, ⟨_, _, _, hi⟩, hst⟩ (by rw [q2]; exact h6) q1 q3 (by rw [hsl]; exact k2_hasslot (q4 k hk)) rfl rfl hdg fin
  · rw [if_pos hf] at hlay
    have hcf : m.cls = cf := by
      obtain ⟨_, _, c', _, _, _, -, -, hf', -, -, -, hown2, -⟩ := Cond.laysFinal_spec hlay
      have e1 : c' = cf := by have := hi.symm.trans hf'; simp at this; exact this.1.symm
      rw [hdecl] at hown2
      rw [← e1]; exact Option.some.inj (hown.symm.trans hown2)
    have h6 := u_fits hfc hkC hkind (Or.inr hlay) hi (hty k hk) hn hfit
    exact W.putFinK hexec hb hown hlink hi hst hcf hi2 (by rw [q2]; exact h6) q1 q3 (by rw [hsl]; exact k2_hasslot (q4 k hk)) rfl rfl hdg fin
  · rw [if_neg (by rw [hf]; decide)] at hlay
    have h6 := u_store hfc hkC hkind hlay hi (hty k hk) hn hfit
    exact va_WputK hexec hb (f := f) hown hlink hi hst (by rw [q2]; exact h6) q1 q3 (by rw [hsl]; exact k2_hasslot (q4 k hk)) rfl rfl hdg fin
theorem ez_iastrow (hexec : p.tables.exec = Jvm.exec) (hb : c.code = cc) (hK : va_K D cl [(cI, .int), (cJ, .long)] s) (hR : ez_R D cl S0 b0 cI cJ h H) (hS0 : va_S (ez_A S0) H0 H locs) {q n : Nat} {f : Nat → Int32} (he : h[q]? = some (.inl (n, .inl f))) {i x : Int32} (hin : vp_in i n) (hdg : decode cc pc = .ok (.iastore, 1))
    (kk : ∀ (H1 : Heap) (locs1 : List Loc), ez_R D cl S0 b0 cI cJ (h.set q (.inl (n, .inl (upd f i.toNatClampNeg x)))) H1 → va_S (ez_A S0) H0 H1 locs1 → W p l e R s m args below meth c H1 locs1 cells slots Q (F0 m (pc + 1) ls rest)) : W p l e R s m args below meth c H locs cells slots Q (F0 m pc ls (.int x :: .int i :: .ref (S0 + q) :: rest)) := by
  refine W.iast hexec hb (hR.2 q _ (ez_ws_at he)) ((hK.2 0 _ rfl).1 n (fun j => .int (f j))) (fun q => by cases q) (by show ¬ (i < 0 ∨ (arrV _ _ _).slots.size ≤ _); rw [arrV_size]; exact hin) rfl rfl hdg fun H1 e1 z o => ?_
  refine kk H1 _ (hR.put he z o ?_) (hS0.put z o (Nat.le_add_right S0 q))
  show H1[S0 + q]? = some (vp_cell _ _)
  rw [e1]
  show some ((arrV cI n fun j => .int (f j)).setSlot _ _) = some (arrV cI n fun j => .int (upd f i.toNatClampNeg x j))
  rw [arrV_store]
  congr 2
  funext j
  show (if j = i.toNatClampNeg then Value.int x else .int (f j)) = .int (if j = i.toNatClampNeg then x else f j)
  split <;> rfl
theorem ez_lastrow (hexec : p.tables.exec = Jvm.exec) (hb : c.code = cc) (hK : va_K D cl [(cI, .int), (cJ, .long)] s) (hR : ez_R D cl S0 b0 cI cJ h H) (hS0 : va_S (ez_A S0) H0 H locs) {q n : Nat} {f : Nat → Int64} (he : h[q]? = some (.inl (n, .inr (.inl f)))) {i : Int32} {x : Int64} (hin : vp_in i n) (hdg : decode cc pc = .ok (.lastore, 1))
    (kk : ∀ (H1 : Heap) (locs1 : List Loc), ez_R D cl S0 b0 cI cJ (h.set q (.inl (n, .inr (.inl (vp_updL f i.toNatClampNeg x))))) H1 → va_S (ez_A S0) H0 H1 locs1 → W p l e R s m args below meth c H1 locs1 cells slots Q (F0 m (pc + 1) ls rest)) : W p l e R s m args below meth c H locs cells slots Q (F0 m pc ls (.long x :: .int i :: .ref (S0 + q) :: rest)) := by
  refine W.last hexec hb (hR.2 q _ (ez_ws_at he)) ((hK.2 1 _ rfl).1 n (fun j => .long (f j))) (fun q => by cases q) (by show ¬ (i < 0 ∨ (arrV _ _ _).slots.size ≤ _); rw [arrV_size]; exact hin) rfl rfl hdg fun H1 e1 z o => ?_
  refine kk H1 _ (hR.put he z o ?_) (hS0.put z o (Nat.le_add_right S0 q))
  show H1[S0 + q]? = some (vp_cell _ _)
  rw [e1]
  show some ((arrV cJ n fun j => .long (f j)).setSlot _ _) = some (arrV cJ n fun j => .long (vp_updL f i.toNatClampNeg x j))
  rw [arrV_store]
  congr 2
  funext j
  show (if j = i.toNatClampNeg then Value.long x else .long (f j)) = .long (if j = i.toNatClampNeg then x else f j)
  split <;> rfl
theorem ez_newrow (hexec : p.tables.exec = Jvm.exec) (hb : c.code = cc) {own C : String} {T : u_T} {N ci index : Nat} (hts : ∀ w ∈ tbl, w.before args s = true) (hin : ∀ w ∈ u_ws C T N, w ∈ tbl) (ty : Nat → FieldType) (hty : ∀ k, k < N → parseFieldDescriptor (T k).2.2.1 = some (ty k)) (hown : s.vm.findClass own = some m.cls)
    (hcl : (Cond.classLink own index C).before args s = true) (hinst : (Cond.instantiable C N).before args s = true) (hini : (Cond.initialized C).before args s = true)
    {tys : List (ClassId × FieldType)} (hK : va_K D cl tys s) (hR : ez_R D cl S0 b0 cI cJ h H) (hS0 : va_S (ez_A S0) H0 H locs) (hc : cl[ci]? = some (C, T, N)) {fs : List Value} (hfs : ∀ j, j < N → defaultValue (ty j) = vp_V (fs.map (ez_mv S0 b0)) j) (hcells : cells + 1 ≤ R.cells) (hslots : slots + N ≤ R.slots) (hdg : decode cc pc = .ok (.new index, 3))
    (kk : ∀ H1 : Heap, ez_R D cl S0 b0 cI cJ (h ++ [.inr (ci, fs)]) H1 → va_S (ez_A S0) H0 H1 locs → W p l e R s m args below meth c H1 locs (cells + 1) (slots + N) Q (F0 m (pc + 3) ls (.ref (S0 + h.length) :: rest))) : W p l e R s m args below meth c H locs cells slots Q (F0 m pc ls rest) := by
  have hKn := hK.1 ci _ hc
  refine W.newcK hexec hb hown hcl hinst hini rfl hdg hcells hslots hKn.2.1 rfl fun H1 kC hkC e1 z1 o1 => ?_
  rw [hR.1]
  exact kk H1 (hR.push z1 o1 ⟨_, hc, (u_born ty hts hin hKn hkC e1 hty).to hfs⟩) (ez_S.push hS0 z1 o1)
theorem ez_cls_eq {ty : FieldType} {cA cB : ClassId} (hty : ty = .int ∨ ty = .long) (h1 : s.vm.findClass ("[" ++ ty.toString) = some cA) (h2 : va_RA s cB ty) : cA = cB := by
  rcases hty with rfl | rfl
  · exact Option.some.inj (h1.symm.trans h2)
  · exact Option.some.inj (h1.symm.trans h2)
theorem ez_newIrow (hexec : p.tables.exec = Jvm.exec) (hb : c.code = cc) (harr : (Cond.arrayClass .int).before args s = true) (hK : va_K D cl [(cI, .int), (cJ, .long)] s) (hR : ez_R D cl S0 b0 cI cJ h H) (hS0 : va_S (ez_A S0) H0 H locs)
    {n : Int32} (hn : ¬ n < 0) (hbytes : n.toNatClampNeg ≤ 1000000) (hcells : cells + 1 ≤ R.cells) (hslots : slots + n.toNatClampNeg ≤ R.slots) (hdg : decode cc pc = .ok (.newarray .int, 2))
    (kk : ∀ H1 : Heap, ez_R D cl S0 b0 cI cJ (h ++ [.inl (n.toNatClampNeg, .inl fun _ => 0)]) H1 → va_S (ez_A S0) H0 H1 locs → W p l e R s m args below meth c H1 locs (cells + 1) (slots + n.toNatClampNeg) Q (F0 m (pc + 2) ls (.ref (S0 + h.length) :: rest))) : W p l e R s m args below meth c H locs cells slots Q (F0 m pc ls (.int n :: rest)) := by
  refine va_newaK hexec hb (atype := .int) harr rfl hdg rfl hn rfl (by show _ * 4 ≤ _; omega) hcells hslots rfl fun H1 cA e1 z1 o1 hAr hNm => ?_
  have he : cA = cI := ez_cls_eq (Or.inl rfl) hNm (hK.2 0 _ rfl).2
  subst he
  rw [hR.1]
  exact kk H1 (hR.push z1 o1 e1) (ez_S.push hS0 z1 o1)
theorem ez_newJrow (hexec : p.tables.exec = Jvm.exec) (hb : c.code = cc) (harr : (Cond.arrayClass .long).before args s = true) (hK : va_K D cl [(cI, .int), (cJ, .long)] s) (hR : ez_R D cl S0 b0 cI cJ h H) (hS0 : va_S (ez_A S0) H0 H locs)
    {n : Int32} (hn : ¬ n < 0) (hbytes : n.toNatClampNeg ≤ 1000000) (hcells : cells + 1 ≤ R.cells) (hslots : slots + n.toNatClampNeg ≤ R.slots) (hdg : decode cc pc = .ok (.newarray .long, 2))
    (kk : ∀ H1 : Heap, ez_R D cl S0 b0 cI cJ (h ++ [.inl (n.toNatClampNeg, .inr (.inl fun _ => 0))]) H1 → va_S (ez_A S0) H0 H1 locs → W p l e R s m args below meth c H1 locs (cells + 1) (slots + n.toNatClampNeg) Q (F0 m (pc + 2) ls (.ref (S0 + h.length) :: rest))) : W p l e R s m args below meth c H locs cells slots Q (F0 m pc ls (.int n :: rest)) := by
  refine va_newaK hexec hb (atype := .long) harr rfl hdg rfl hn rfl (by show _ * 8 ≤ _; omega) hcells hslots rfl fun H1 cA e1 z1 o1 hAr hNm => ?_
  have he : cA = cJ := ez_cls_eq (Or.inr rfl) hNm (hK.2 1 _ rfl).2
  subst he
  rw [hR.1]
  exact kk H1 (hR.push z1 o1 e1) (ez_S.push hS0 z1 o1)
end EZROWS
end
section
/-! What the tables must say of the machine's code, and that the machine is sound. -/
/-- methods: name, bytes, locals, result, frames below, words below, parameters, kind (0 static, 1 of an object, 2 a constructor) -/
abbrev ez_M : Type := Nat → MethodName × ByteArray × Nat × Option FieldType × Nat × Nat × Nat × Nat
abbrev ez_K : Type := Nat → String × u_T × Nat
noncomputable def ez_my (M : ez_M) (m : Nat) : MethodName := (M m).1
noncomputable def ez_mb (M : ez_M) (m : Nat) : ByteArray := (M m).2.1
noncomputable def ez_mL (M : ez_M) (m : Nat) : Nat := (M m).2.2.1
noncomputable def ez_mr (M : ez_M) (m : Nat) : Option FieldType := (M m).2.2.2.1
noncomputable def ez_md (M : ez_M) (m : Nat) : Nat := (M m).2.2.2.2.1
noncomputable def ez_ml (M : ez_M) (m : Nat) : Nat := (M m).2.2.2.2.2.1
noncomputable def ez_mn (M : ez_M) (m : Nat) : Nat := (M m).2.2.2.2.2.2.1
noncomputable def ez_mk (M : ez_M) (m : Nat) : Nat := (M m).2.2.2.2.2.2.2
noncomputable def ez_ln : Instr → Nat
  | .aload _ => 2
  | .iload _ => 2
  | .lload _ => 2
  | _ => 1
noncomputable def ez_w (_ : Unit) (w : Nat) (x : Cond) : Bool := ez_fine x && decide ((ez_pt (w / 1000))[w % 1000]? = some x)
theorem ez_w_mem {tbl : Unit} {w : Nat} {x : Cond} (h : ez_w tbl w x = true) : x ∈ ez_tb := by
  obtain ⟨h1, h2⟩ := Bool.and_eq_true_iff.mp h
  exact List.mem_filter.mpr ⟨ez_pt_in (List.mem_of_getElem? (of_decide_eq_true h2)), h1⟩
/-- links between nest mates: they go by the contract's own premise -/
noncomputable def ez_nest : Cond → Bool
  | .fieldLinkNest .. => true
  | .methodLinkNest .. => true
  | _ => false
/-- the nest's host -/
noncomputable def ez_host : String := "SquaredShips"
noncomputable def ez_okJ (tbl : Unit) (M : ez_M) (K : ez_K) (nM nK m pc : Nat) (i : Instr) (len a b w d : Nat) : Bool := match i with
  | .istore_n k => Nat.blt k.val (ez_mL M m) && Nat.beq len 1
  | .istore k => Nat.blt k (ez_mL M m) && Nat.beq len 2
  | .astore_n k => Nat.blt k.val (ez_mL M m) && Nat.beq len 1
  | .astore k => Nat.blt k (ez_mL M m) && Nat.beq len 2
  | .lstore_n k => Nat.blt (k.val + 1) (ez_mL M m) && Nat.beq len 1
  | .lstore k => Nat.blt (k + 1) (ez_mL M m) && Nat.beq len 2
  | .iinc k _ => Nat.blt k (ez_mL M m) && Nat.beq len 3
  | .bipush _ => Nat.beq len 2
  | .sipush _ => Nat.beq len 3
  | .ldc idx => ez_w tbl w (.constant (ez_my M m).cls idx (Int32.ofNat b)) && Nat.beq len 2
  | .ldc_w idx => ez_w tbl w (.constant (ez_my M m).cls idx (Int32.ofNat b)) && Nat.beq len 3
  | .ldc2_w idx => ez_w tbl w (.constantLong (ez_my M m).cls idx (Int64.ofNat b)) && Nat.beq len 3
  | .getfield idx => Nat.blt a nK && (Nat.blt b (K a).2.2 && (Nat.beq len 3 && (ez_w tbl w (.fieldLink (ez_my M m).cls idx ((K a).2.1 b).1 ((K a).2.1 b).2.1 ((K a).2.1 b).2.2.1) || ez_w tbl w (.fieldLinkNest (ez_my M m).cls idx ((K a).2.1 b).1 ((K a).2.1 b).2.1 ((K a).2.1 b).2.2.1 ez_host))))
  | .putfield idx => Nat.blt a nK && (Nat.blt b (K a).2.2 && (Nat.beq len 3 && ((ez_w tbl w (.fieldLink (ez_my M m).cls idx ((K a).2.1 b).1 ((K a).2.1 b).2.1 ((K a).2.1 b).2.2.1) && (decide (((K a).2.1 b).2.2.2 = false) || (decide (((K a).2.1 b).2.2.2 = true) && (decide ((ez_my M m).name = "<init>") && decide (((K a).2.1 b).1 = (ez_my M m).cls))))) || (ez_w tbl w (.fieldLinkNest (ez_my M m).cls idx ((K a).2.1 b).1 ((K a).2.1 b).2.1 ((K a).2.1 b).2.2.1 ez_host) && decide (((K a).2.1 b).2.2.2 = false)))))
  | .goto off => decide ((pc : Int) + off = (a : Int)) && Nat.beq len 3
  | .if_icmp _ off => decide ((pc : Int) + off = (a : Int)) && Nat.beq len 3
  | .ifCond _ off => decide ((pc : Int) + off = (a : Int)) && Nat.beq len 3
  | .tableswitch _ _ _ _ => true
  | .new idx => Nat.blt a nK && (Nat.beq b (K a).2.2 && (Nat.beq len 3 && ez_w tbl w (.classLink (ez_my M m).cls idx (K a).1)))
  | .newarray .int => ez_w tbl w (.arrayClass .int) && Nat.beq len 2
  | .newarray .long => ez_w tbl w (.arrayClass .long) && Nat.beq len 2
  | .newarray _ => false
  | .invokestatic idx => Nat.beq len 3 && (bif Nat.beq a 901 then Nat.ble 1 (ez_md M m) && (Nat.ble 21 (ez_ml M m) && ez_w tbl w (.methodLink (ez_my M m).cls idx Lib.Math.max.name)) else bif Nat.beq a 902 then Nat.ble 1 (ez_md M m) && (Nat.ble 21 (ez_ml M m) && ez_w tbl w (.methodLink (ez_my M m).cls idx Lib.Math.min.name)) else
      Nat.blt a nM && (Nat.blt (ez_md M a) (ez_md M m) && (Nat.ble (19 + ez_mL M a + ez_ml M a) (ez_ml M m) && (Nat.beq b (ez_mn M a) && (Nat.beq (ez_mk M a) 0 && (ez_w tbl w (.methodLink (ez_my M m).cls idx (ez_my M a)) || ez_w tbl w (.methodLinkNest (ez_my M m).cls idx (ez_my M a) ez_host)))))))
  | .invokevirtual idx => Nat.beq len 3 && (Nat.blt a nM && (Nat.blt (ez_md M a) (ez_md M m) && (Nat.ble (19 + ez_mL M a + ez_ml M a) (ez_ml M m) && (Nat.beq b (ez_mn M a + 1) && (Nat.beq (ez_mk M a) 1 && (Nat.blt d nK && (decide ((K d).1 = (ez_my M a).cls) && (ez_w tbl w (.methodLink (ez_my M m).cls idx (ez_my M a)) || ez_w tbl w (.methodLinkNest (ez_my M m).cls idx (ez_my M a) ez_host)))))))))
  | .invokespecial idx => Nat.beq len 3 && (bif Nat.beq a 900 then Nat.ble 1 (ez_md M m) && (Nat.ble 20 (ez_ml M m) && ez_w tbl w (.methodLink (ez_my M m).cls idx Lib.objectInit)) else
      Nat.blt a nM && (Nat.blt (ez_md M a) (ez_md M m) && (Nat.ble (19 + ez_mL M a + ez_ml M a) (ez_ml M m) && (Nat.beq b (ez_mn M a + 1) && (Nat.beq (ez_mk M a) 2 && ez_w tbl w (.methodLink (ez_my M m).cls idx (ez_my M a)))))))
  | .ireturn => (bif Nat.beq b 0 then decide (ez_mr M m = some .int) else decide (ez_mr M m = some .boolean)) && Nat.beq len 1
  | .lreturn => decide (ez_mr M m = some .long) && Nat.beq len 1
  | .areturn => (match ez_mr M m with
    | some (.object _) => true
    | _ => false) && Nat.beq len 1
  | .return_ => decide (ez_mr M m = none) && Nat.beq len 1
  | i => Nat.beq len (ez_ln i)
noncomputable def ez_okI (tbl : Unit) (M : ez_M) (K : ez_K) (nM nK m pc : Nat) : ez_I → Bool := fun (i, len, a, b, _, w, d) =>
  decide (decode (ez_mb M m) pc = .ok (i, len)) && ez_okJ tbl M K nM nK m pc i len a b w d
/-- a method's own words -/
noncomputable def ez_okH (tbl : Unit) (M : ez_M) (m w1 w2 w3 w4 : Nat) : Bool :=
  plainFor (ez_my M m) && (decide ((ez_my M m).cls ≠ "java/lang/invoke/MethodHandle") && (decide ((ez_my M m).cls ≠ "java/lang/invoke/VarHandle") && (ez_w tbl w1 (.code (ez_my M m) (ez_mb M m) (ez_mL M m) (ez_mr M m)) && (ez_w tbl w2 (.initialized (ez_my M m).cls) && (decide ((parseMethodDescriptor (ez_my M m).desc).map (fun d => d.parameters.length) = some (ez_mn M m)) &&
    (match ez_mk M m with
    | 0 => ez_w tbl w3 (.static (ez_my M m))
    | 1 => ez_w tbl w3 (.instanceMethod (ez_my M m)) && ez_w tbl w4 (.selects (ez_my M m).cls (ez_my M m) (ez_my M m))
    | _ => ez_w tbl w3 (.instanceMethod (ez_my M m)) && (decide ((ez_my M m).name = "<init>") && decide (ez_mr M m = none))))))))
noncomputable def ez_tyok : FieldType → Bool
  | .int => true
  | .long => true
  | .boolean => true
  | .object _ => true
  | .array _ => true
  | _ => false
/-- a class's own words -/
noncomputable def ez_okC (tbl : Unit) (cl : List vw_C) (K : ez_K) (ty : Nat → Nat → FieldType) (nw : Nat → List Value) (ci : Nat) : Prop :=
  cl[ci]? = some (K ci) ∧ (∀ w ∈ u_ws (K ci).1 (K ci).2.1 (K ci).2.2, w ∈ ez_tb) ∧ (∀ k, k < (K ci).2.2 → parseFieldDescriptor ((K ci).2.1 k).2.2.1 = some (ty ci k) ∧ ez_tyok (ty ci k) = true) ∧
  (∀ a, a < (K ci).2.2 → ∀ b, b < (K ci).2.2 → a ≠ b → ((K ci).2.1 a).2.1 ≠ ((K ci).2.1 b).2.1) ∧ Cond.instantiable (K ci).1 (K ci).2.2 ∈ ez_tb ∧ Cond.initialized (K ci).1 ∈ ez_tb ∧
  (∀ j, j < (K ci).2.2 → defaultValue (ty ci j) = vp_V (nw ci) j) ∧ (∀ v ∈ nw ci, v = .int 0 ∨ v = .long 0 ∨ v = .null)
/-! the machine's pieces, read backwards -/
theorem ez_bif {α : Type} {c : Bool} {x : Option α} {y : α} (h : (bif c then x else none) = some y) : c = true ∧ x = some y := by
  cases c with
  | true => exact ⟨rfl, h⟩
  | false => cases h
theorem ez_bifN {α : Type} {c : Bool} {x : Option α} {y : α} (h : (bif c then none else x) = some y) : c = false ∧ x = some y := by
  cases c with
  | true => cases h
  | false => exact ⟨rfl, h⟩
theorem ez_bin_s {f : Int32 → Int32 → Int32} {st t : List Value} (h : ez_bin f st = some t) : ∃ x y r, st = .int y :: .int x :: r ∧ t = .int (f x y) :: r := by
  unfold ez_bin at h
  split at h
  · exact ⟨_, _, _, rfl, (Option.some.inj h).symm⟩
  · cases h
theorem ez_binD_s {f : Int32 → Int32 → Int32} {st t : List Value} (h : ez_binD f st = some t) : ∃ x y r, st = .int y :: .int x :: r ∧ t = .int (f x y) :: r ∧ ¬ y = 0 := by
  unfold ez_binD at h
  split at h
  · obtain ⟨h1, h2⟩ := ez_bifN h
    exact ⟨_, _, _, rfl, (Option.some.inj h2).symm, of_decide_eq_false h1⟩
  · cases h
theorem ez_binL_s {f : Int64 → Int64 → Int64} {st t : List Value} (h : ez_binL f st = some t) : ∃ x y r, st = .long y :: .long x :: r ∧ t = .long (f x y) :: r := by
  unfold ez_binL at h
  split at h
  · exact ⟨_, _, _, rfl, (Option.some.inj h).symm⟩
  · cases h
theorem ez_sh_s {f : Int64 → Int32 → Int64} {st t : List Value} (h : ez_sh f st = some t) : ∃ x y r, st = .int y :: .long x :: r ∧ t = .long (f x y) :: r := by
  unfold ez_sh at h
  split at h
  · exact ⟨_, _, _, rfl, (Option.some.inj h).symm⟩
  · cases h
theorem ez_lcmp_s {st t : List Value} (h : ez_lcmp st = some t) : ∃ x y r, st = .long y :: .long x :: r ∧ t = .int (lg_cmp x y) :: r := by
  unfold ez_lcmp at h
  split at h
  · exact ⟨_, _, _, rfl, (Option.some.inj h).symm⟩
  · cases h
theorem ez_i2l_s {st t : List Value} (h : ez_i2l st = some t) : ∃ x r, st = .int x :: r ∧ t = .long x.toInt64 :: r := by
  unfold ez_i2l at h
  split at h
  · exact ⟨_, _, rfl, (Option.some.inj h).symm⟩
  · cases h
theorem ez_l2i_s {st t : List Value} (h : ez_l2i st = some t) : ∃ x r, st = .long x :: r ∧ t = .int x.toInt32 :: r := by
  unfold ez_l2i at h
  split at h
  · exact ⟨_, _, rfl, (Option.some.inj h).symm⟩
  · cases h
theorem ez_cat1_s {v : Value} (h : ez_cat1 v = true) : v.category = 1 := by
  unfold ez_cat1 at h
  split at h
  · rfl
  · rfl
  · cases h
theorem ez_dup_s {st t : List Value} (h : ez_dup st = some t) : ∃ v r, st = v :: r ∧ t = v :: v :: r ∧ v.category = 1 := by
  unfold ez_dup at h
  split at h
  · obtain ⟨h1, h2⟩ := ez_bif h
    exact ⟨_, _, rfl, (Option.some.inj h2).symm, ez_cat1_s h1⟩
  · cases h
theorem ez_dup2_s {st t : List Value} (h : ez_dup2 st = some t) : ∃ v w r, st = v :: w :: r ∧ t = v :: w :: v :: w :: r ∧ v.category = 1 ∧ w.category = 1 := by
  unfold ez_dup2 at h
  split at h
  · obtain ⟨h1, h2⟩ := ez_bif h
    obtain ⟨h3, h4⟩ := Bool.and_eq_true_iff.mp h1
    exact ⟨_, _, _, rfl, (Option.some.inj h2).symm, ez_cat1_s h3, ez_cat1_s h4⟩
  · cases h
theorem ez_pop_s {st t : List Value} (h : ez_pop st = some t) : ∃ v, st = v :: t ∧ v.category = 1 := by
  unfold ez_pop at h
  split at h
  · obtain ⟨h1, h2⟩ := ez_bif h
    cases h2
    exact ⟨_, rfl, ez_cat1_s h1⟩
  · cases h
theorem ez_pop2_s {st t : List Value} (h : ez_pop2 st = some t) : ∃ v, st = v :: t ∧ v.category = 2 := by
  unfold ez_pop2 at h
  split at h
  · obtain ⟨h1, h2⟩ := ez_bif h
    cases h2
    exact ⟨_, rfl, Nat.eq_of_beq_eq_true h1⟩
  · cases h
theorem ez_ldI_s {ls st t : List Value} {i : Nat} (h : ez_ldI ls i st = some t) : ∃ v, ls[i]? = some (.int v) ∧ t = .int v :: st := by
  unfold ez_ldI at h
  split at h
  · exact ⟨_, by assumption, (Option.some.inj h).symm⟩
  · cases h
theorem ez_ldL_s {ls st t : List Value} {i : Nat} (h : ez_ldL ls i st = some t) : ∃ v, ls[i]? = some (.long v) ∧ t = .long v :: st := by
  unfold ez_ldL at h
  split at h
  · exact ⟨_, by assumption, (Option.some.inj h).symm⟩
  · cases h
theorem ez_ldA_s {S0 b0 : Nat} {ls st t : List Value} {i : Nat} (h : ez_ldA ls i st = some t) : ∃ v x, ls[i]? = some v ∧ ez_real v = true ∧ t = v :: st ∧ ez_mv S0 b0 v = .ref x := by
  unfold ez_ldA at h
  split at h
  · exact ⟨_, _, by assumption, rfl, (Option.some.inj h).symm, rfl⟩
  · rename_i n hn
    obtain ⟨h1, h2⟩ := ez_bif h
    have h3 : n = 1 := by simpa using h1
    subst h3
    exact ⟨_, b0, hn, rfl, (Option.some.inj h2).symm, rfl⟩
  · cases h
theorem ez_in_s {α : Type} {i : Int32} {n : Nat} {x y : α} (h : ez_in i n x = some y) : vp_in i n ∧ x = y := by
  unfold ez_in at h
  obtain ⟨h1, h2⟩ := ez_bifN h
  obtain ⟨h3, h4⟩ := ez_bifN h2
  refine ⟨?_, Option.some.inj h4⟩
  rintro (q | q)
  · exact of_decide_eq_false h1 q
  · rw [Nat.ble_eq_true_of_le q] at h3
    cases h3
theorem ez_lv_at {S0 b0 : Nat} {lsA : Array Slot} {nL : Nat} {ls : List Value} (hl : lv_has lsA nL (ez_lv S0 b0 0 ls)) {i : Nat} {v : Value} (h : ls[i]? = some v) (hr : ez_real v = true) : lsA[i]? = some (.val (ez_mv S0 b0 v)) :=
  hl.2.2 (i, ez_mv S0 b0 v) ((ez_lv_mem _ _ _ _ _).mpr ⟨i, v, h, hr, by rw [Nat.zero_add]⟩)
end
section
/-! The instructions that neither make, call, jump nor end: each is a row of the kit. -/
/-- what a walk of method m stands on -/
noncomputable def ez_ctx (tbl : Unit) (M : ez_M) (D : va_G) (cl : List vw_C) (b0 : Nat) (cI cJ : ClassId) (X : ez_X) (m : Nat) (p : Program) (s : State) (mid : MethodId) (args : Array Value) (meth : Method) (c : Code) : Prop :=
  p.tables.exec = Jvm.exec ∧ c.code = ez_mb M m ∧ c.maxLocals = ez_mL M m ∧ s.vm.findClass (ez_my M m).cls = some mid.cls ∧ (∀ w ∈ ez_tb, w.before args s = true) ∧ va_K D cl [(cI, .int), (cJ, .long)] s ∧ va_X b0 X.1 X.2 s s.heap ∧ b0 < s.heap.size ∧ ((ez_my M m).name = "<init>" → meth.name = "<init>")
theorem ez_narrow {ty : FieldType} {v : Value} (ht : ez_tyok ty = true) (h : fits ty v = true) : narrow ty v = v := by
  cases ty <;> first | (cases ht; done) | skip
  all_goals cases v <;> first | rfl | (simp [fits] at h; done) | skip
  rename_i x
  simp only [fits, Bool.or_eq_true, beq_iff_eq] at h
  rcases h with rfl | rfl <;> decide +kernel
section EZB
variable {p : Program} {l : Launch} {e : Env} {R : Room} {s : State} {mid : MethodId} {args : Array Value} {below : List Frame} {meth : Method} {c : Code} {H : Heap} {locs : List Loc} {cells slots : Nat} {Q : State → Prop}
variable {tbl : Unit} {M : ez_M} {K : ez_K} {ty : Nat → Nat → FieldType} {nw : Nat → List Value} {D : va_G} {cl : List vw_C} {S0 b0 : Nat} {cI cJ : ClassId} {X : ez_X}
theorem ez_fits_mv (t : FieldType) (v : Value) (h : fits t v = true) : fits t (ez_mv S0 b0 v) = true := by
  cases v <;> first | exact h | (cases t <;> first | exact h | (simp [fits] at h; done))
set_option maxHeartbeats 4000000 in
theorem ez_b_ok {nM nK m pc len a b w d : Nat} {i : Instr} {ls st ls' st' : List Value} {h h' : ez_H} {lsA : Array Slot} (hC : ∀ ci, ci < nK → ez_okC tbl cl K ty nw ci) (C : ez_ctx tbl M D cl b0 cI cJ X m p s mid args meth c) (hb0 : b0 < S0)
    (hrun : ez_b X ty i a b ls st h = some (ls', st', h')) (hdg : decode (ez_mb M m) pc = .ok (i, len)) (hok : ez_okJ tbl M K nM nK m pc i len a b w d = true)
    (hR : ez_R D cl S0 b0 cI cJ h H) (hS : va_S (ez_A S0) s.heap H locs) (hl : lv_has lsA (ez_mL M m) (ez_lv S0 b0 0 ls))
    (kk : ∀ (H1 : Heap) (locs1 : List Loc) (lsB : Array Slot), ez_R D cl S0 b0 cI cJ h' H1 → va_S (ez_A S0) s.heap H1 locs1 → lv_has lsB (ez_mL M m) (ez_lv S0 b0 0 ls') → W p l e R s mid args below meth c H1 locs1 cells slots Q (F0 mid (pc + len) lsB (st'.map (ez_mv S0 b0)))) :
    W p l e R s mid args below meth c H locs cells slots Q (F0 mid pc lsA (st.map (ez_mv S0 b0))) := by
  obtain ⟨hx, hb, hml, hown, hts, hK, hX, hbl, hin⟩ := C
  have hbA : ¬ ez_A S0 b0 := Nat.not_le.mpr hb0
  cases i
  case aload_n k =>
    obtain ⟨t, ht, he⟩ := Option.map_eq_some_iff.mp hrun
    cases he
    obtain rfl : len = 1 := Nat.eq_of_beq_eq_true hok
    obtain ⟨v, x, h1, h2, rfl, h3⟩ := ez_ldA_s (S0 := S0) (b0 := b0) ht
    have h4 := ez_lv_at hl h1 h2
    rw [h3] at h4
    have kk := kk _ _ _ hR hS hl
    rw [List.map_cons, h3] at kk
    exact lv_aload_n hx hb hdg rfl h4 kk
  case aload k =>
    obtain ⟨t, ht, he⟩ := Option.map_eq_some_iff.mp hrun
    cases he
    obtain rfl : len = 2 := Nat.eq_of_beq_eq_true hok
    obtain ⟨v, x, h1, h2, rfl, h3⟩ := ez_ldA_s (S0 := S0) (b0 := b0) ht
    have h4 := ez_lv_at hl h1 h2
    rw [h3] at h4
    have kk := kk _ _ _ hR hS hl
    rw [List.map_cons, h3] at kk
    exact lv_aload hx hb hdg h4 kk
  case iload_n k =>
    obtain ⟨t, ht, he⟩ := Option.map_eq_some_iff.mp hrun
    cases he
    obtain rfl : len = 1 := Nat.eq_of_beq_eq_true hok
    obtain ⟨v, h1, rfl⟩ := ez_ldI_s ht
    exact lv_iload_n hx hb hdg rfl (ez_lv_at hl h1 rfl) (kk _ _ _ hR hS hl)
  case iload k =>
    obtain ⟨t, ht, he⟩ := Option.map_eq_some_iff.mp hrun
    cases he
    obtain rfl : len = 2 := Nat.eq_of_beq_eq_true hok
    obtain ⟨v, h1, rfl⟩ := ez_ldI_s ht
    exact lv_iload hx hb hdg (ez_lv_at hl h1 rfl) (kk _ _ _ hR hS hl)
  case lload_n k =>
    obtain ⟨t, ht, he⟩ := Option.map_eq_some_iff.mp hrun
    cases he
    obtain rfl : len = 1 := Nat.eq_of_beq_eq_true hok
    obtain ⟨v, h1, rfl⟩ := ez_ldL_s ht
    exact lv_lload_n hx hb hdg rfl (ez_lv_at hl h1 rfl) (kk _ _ _ hR hS hl)
  case lload k =>
    obtain ⟨t, ht, he⟩ := Option.map_eq_some_iff.mp hrun
    cases he
    obtain rfl : len = 2 := Nat.eq_of_beq_eq_true hok
    obtain ⟨v, h1, rfl⟩ := ez_ldL_s ht
    exact lv_lload hx hb hdg (ez_lv_at hl h1 rfl) (kk _ _ _ hR hS hl)
  case istore_n k =>
    obtain ⟨h1, h2⟩ := Bool.and_eq_true_iff.mp hok
    obtain rfl : len = 1 := Nat.eq_of_beq_eq_true h2
    simp only [ez_b] at hrun
    split at hrun
    · rename_i v r
      cases hrun
      exact lv_istore_n hx hb hdg rfl hl (Nat.le_of_ble_eq_true h1) rfl fun lsB hB => kk _ _ _ hR hS (ez_has_sub hB ez_st1_in)
    · cases hrun
  case istore k =>
    obtain ⟨h1, h2⟩ := Bool.and_eq_true_iff.mp hok
    obtain rfl : len = 2 := Nat.eq_of_beq_eq_true h2
    simp only [ez_b] at hrun
    split at hrun
    · rename_i v r
      cases hrun
      exact lv_istore hx hb hdg hl (Nat.le_of_ble_eq_true h1) rfl fun lsB hB => kk _ _ _ hR hS (ez_has_sub hB ez_st1_in)
    · cases hrun
  case astore_n k =>
    obtain ⟨h1, h2⟩ := Bool.and_eq_true_iff.mp hok
    obtain rfl : len = 1 := Nat.eq_of_beq_eq_true h2
    simp only [ez_b] at hrun
    split at hrun
    · rename_i v r
      cases hrun
      exact lv_astore_n hx hb hdg rfl hl (Nat.le_of_ble_eq_true h1) rfl fun lsB hB => kk _ _ _ hR hS (ez_has_sub hB ez_st1_in)
    · cases hrun
  case astore k =>
    obtain ⟨h1, h2⟩ := Bool.and_eq_true_iff.mp hok
    obtain rfl : len = 2 := Nat.eq_of_beq_eq_true h2
    simp only [ez_b] at hrun
    split at hrun
    · rename_i v r
      cases hrun
      exact lv_astore hx hb hdg hl (Nat.le_of_ble_eq_true h1) rfl fun lsB hB => kk _ _ _ hR hS (ez_has_sub hB ez_st1_in)
    · cases hrun
  case lstore_n k =>
    obtain ⟨h1, h2⟩ := Bool.and_eq_true_iff.mp hok
    obtain rfl : len = 1 := Nat.eq_of_beq_eq_true h2
    simp only [ez_b] at hrun
    split at hrun
    · rename_i v r
      cases hrun
      exact lv_lstore_n hx hb hdg rfl hl (Nat.le_of_ble_eq_true h1) rfl fun lsB hB => kk _ _ _ hR hS (ez_has_sub hB ez_st2_in)
    · cases hrun
  case lstore k =>
    obtain ⟨h1, h2⟩ := Bool.and_eq_true_iff.mp hok
    obtain rfl : len = 2 := Nat.eq_of_beq_eq_true h2
    simp only [ez_b] at hrun
    split at hrun
    · rename_i v r
      cases hrun
      exact lv_lstore hx hb hdg hl (Nat.le_of_ble_eq_true h1) rfl fun lsB hB => kk _ _ _ hR hS (ez_has_sub hB ez_st2_in)
    · cases hrun
  case iinc k n =>
    obtain ⟨h1, h2⟩ := Bool.and_eq_true_iff.mp hok
    obtain rfl : len = 3 := Nat.eq_of_beq_eq_true h2
    simp only [ez_b] at hrun
    split at hrun
    · rename_i v hv
      cases hrun
      obtain ⟨j, hj⟩ := List.getElem?_of_mem ((ez_lv_mem S0 b0 _ 0 _).mpr ⟨k, _, hv, rfl, rfl⟩)
      rw [Nat.zero_add] at hj
      exact lv_iinc hx hb hdg hl (k := j) hj rfl (Nat.le_of_ble_eq_true h1) rfl fun lsB hB => kk _ _ _ hR hS (ez_has_sub hB ez_st1_in)
    · cases hrun
  case iconst n =>
    obtain rfl : len = 1 := Nat.eq_of_beq_eq_true hok
    cases hrun
    exact lv_iconst hx hb hdg rfl (kk _ _ _ hR hS hl)
  case lconst n =>
    obtain rfl : len = 1 := Nat.eq_of_beq_eq_true hok
    cases hrun
    exact lv_lconst hx hb hdg rfl (kk _ _ _ hR hS hl)
  case bipush n =>
    obtain rfl : len = 2 := Nat.eq_of_beq_eq_true hok
    cases hrun
    exact lv_bipush hx hb hdg rfl (kk _ _ _ hR hS hl)
  case sipush n =>
    obtain rfl : len = 3 := Nat.eq_of_beq_eq_true hok
    cases hrun
    exact lv_sipush hx hb hdg rfl (kk _ _ _ hR hS hl)
  case ldc n =>
    obtain ⟨h1, h2⟩ := Bool.and_eq_true_iff.mp hok
    obtain rfl : len = 2 := Nat.eq_of_beq_eq_true h2
    cases hrun
    exact lv_ldc hx hb hown (hts _ (ez_w_mem h1)) hdg (kk _ _ _ hR hS hl)
  case ldc_w n =>
    obtain ⟨h1, h2⟩ := Bool.and_eq_true_iff.mp hok
    obtain rfl : len = 3 := Nat.eq_of_beq_eq_true h2
    cases hrun
    exact lv_ldcw hx hb hown (hts _ (ez_w_mem h1)) hdg (kk _ _ _ hR hS hl)
  case ldc2_w n =>
    obtain ⟨h1, h2⟩ := Bool.and_eq_true_iff.mp hok
    obtain rfl : len = 3 := Nat.eq_of_beq_eq_true h2
    cases hrun
    exact lv_ldc2 hx hb hown (hts _ (ez_w_mem h1)) hdg (kk _ _ _ hR hS hl)
  case iadd =>
    obtain ⟨t, ht, he⟩ := Option.map_eq_some_iff.mp hrun
    cases he
    obtain rfl : len = 1 := Nat.eq_of_beq_eq_true hok
    obtain ⟨x, y, r, rfl, rfl⟩ := ez_bin_s ht
    exact lv_iadd hx hb hdg (kk _ _ _ hR hS hl)
  case isub =>
    obtain ⟨t, ht, he⟩ := Option.map_eq_some_iff.mp hrun
    cases he
    obtain rfl : len = 1 := Nat.eq_of_beq_eq_true hok
    obtain ⟨x, y, r, rfl, rfl⟩ := ez_bin_s ht
    exact lv_isub hx hb hdg (kk _ _ _ hR hS hl)
  case imul =>
    obtain ⟨t, ht, he⟩ := Option.map_eq_some_iff.mp hrun
    cases he
    obtain rfl : len = 1 := Nat.eq_of_beq_eq_true hok
    obtain ⟨x, y, r, rfl, rfl⟩ := ez_bin_s ht
    exact lv_imul hx hb hdg (kk _ _ _ hR hS hl)
  case iand =>
    obtain ⟨t, ht, he⟩ := Option.map_eq_some_iff.mp hrun
    cases he
    obtain rfl : len = 1 := Nat.eq_of_beq_eq_true hok
    obtain ⟨x, y, r, rfl, rfl⟩ := ez_bin_s ht
    exact lv_iand hx hb hdg (kk _ _ _ hR hS hl)
  case ior =>
    obtain ⟨t, ht, he⟩ := Option.map_eq_some_iff.mp hrun
    cases he
    obtain rfl : len = 1 := Nat.eq_of_beq_eq_true hok
    obtain ⟨x, y, r, rfl, rfl⟩ := ez_bin_s ht
    exact lv_ior hx hb hdg (kk _ _ _ hR hS hl)
  case ixor =>
    obtain ⟨t, ht, he⟩ := Option.map_eq_some_iff.mp hrun
    cases he
    obtain rfl : len = 1 := Nat.eq_of_beq_eq_true hok
    obtain ⟨x, y, r, rfl, rfl⟩ := ez_bin_s ht
    exact lv_ixor hx hb hdg (kk _ _ _ hR hS hl)
  case ishl =>
    obtain ⟨t, ht, he⟩ := Option.map_eq_some_iff.mp hrun
    cases he
    obtain rfl : len = 1 := Nat.eq_of_beq_eq_true hok
    obtain ⟨x, y, r, rfl, rfl⟩ := ez_bin_s ht
    exact lv_ishl hx hb hdg (kk _ _ _ hR hS hl)
  case ishr =>
    obtain ⟨t, ht, he⟩ := Option.map_eq_some_iff.mp hrun
    cases he
    obtain rfl : len = 1 := Nat.eq_of_beq_eq_true hok
    obtain ⟨x, y, r, rfl, rfl⟩ := ez_bin_s ht
    exact lv_ishr hx hb hdg (kk _ _ _ hR hS hl)
  case iushr =>
    obtain ⟨t, ht, he⟩ := Option.map_eq_some_iff.mp hrun
    cases he
    obtain rfl : len = 1 := Nat.eq_of_beq_eq_true hok
    obtain ⟨x, y, r, rfl, rfl⟩ := ez_bin_s ht
    exact lv_iushr hx hb hdg rfl (kk _ _ _ hR hS hl)
  case idiv =>
    obtain ⟨t, ht, he⟩ := Option.map_eq_some_iff.mp hrun
    cases he
    obtain rfl : len = 1 := Nat.eq_of_beq_eq_true hok
    obtain ⟨x, y, r, rfl, rfl, h1⟩ := ez_binD_s ht
    exact lv_idiv hx hb hdg h1 (kk _ _ _ hR hS hl)
  case irem =>
    obtain ⟨t, ht, he⟩ := Option.map_eq_some_iff.mp hrun
    cases he
    obtain rfl : len = 1 := Nat.eq_of_beq_eq_true hok
    obtain ⟨x, y, r, rfl, rfl, h1⟩ := ez_binD_s ht
    exact lv_irem hx hb hdg h1 (kk _ _ _ hR hS hl)
  case ladd =>
    obtain ⟨t, ht, he⟩ := Option.map_eq_some_iff.mp hrun
    cases he
    obtain rfl : len = 1 := Nat.eq_of_beq_eq_true hok
    obtain ⟨x, y, r, rfl, rfl⟩ := ez_binL_s ht
    exact lv_ladd hx hb hdg (kk _ _ _ hR hS hl)
  case lsub =>
    obtain ⟨t, ht, he⟩ := Option.map_eq_some_iff.mp hrun
    cases he
    obtain rfl : len = 1 := Nat.eq_of_beq_eq_true hok
    obtain ⟨x, y, r, rfl, rfl⟩ := ez_binL_s ht
    exact lv_lsub hx hb hdg (kk _ _ _ hR hS hl)
  case lmul =>
    obtain ⟨t, ht, he⟩ := Option.map_eq_some_iff.mp hrun
    cases he
    obtain rfl : len = 1 := Nat.eq_of_beq_eq_true hok
    obtain ⟨x, y, r, rfl, rfl⟩ := ez_binL_s ht
    exact lv_lmul hx hb hdg (kk _ _ _ hR hS hl)
  case land =>
    obtain ⟨t, ht, he⟩ := Option.map_eq_some_iff.mp hrun
    cases he
    obtain rfl : len = 1 := Nat.eq_of_beq_eq_true hok
    obtain ⟨x, y, r, rfl, rfl⟩ := ez_binL_s ht
    exact lv_land hx hb hdg (kk _ _ _ hR hS hl)
  case lor =>
    obtain ⟨t, ht, he⟩ := Option.map_eq_some_iff.mp hrun
    cases he
    obtain rfl : len = 1 := Nat.eq_of_beq_eq_true hok
    obtain ⟨x, y, r, rfl, rfl⟩ := ez_binL_s ht
    exact lv_lor hx hb hdg (kk _ _ _ hR hS hl)
  case lxor =>
    obtain ⟨t, ht, he⟩ := Option.map_eq_some_iff.mp hrun
    cases he
    obtain rfl : len = 1 := Nat.eq_of_beq_eq_true hok
    obtain ⟨x, y, r, rfl, rfl⟩ := ez_binL_s ht
    exact lv_lxor hx hb hdg (kk _ _ _ hR hS hl)
  case lshl =>
    obtain ⟨t, ht, he⟩ := Option.map_eq_some_iff.mp hrun
    cases he
    obtain rfl : len = 1 := Nat.eq_of_beq_eq_true hok
    obtain ⟨x, y, r, rfl, rfl⟩ := ez_sh_s ht
    exact lv_lshl hx hb hdg rfl (kk _ _ _ hR hS hl)
  case lshr =>
    obtain ⟨t, ht, he⟩ := Option.map_eq_some_iff.mp hrun
    cases he
    obtain rfl : len = 1 := Nat.eq_of_beq_eq_true hok
    obtain ⟨x, y, r, rfl, rfl⟩ := ez_sh_s ht
    exact lv_lshr hx hb hdg rfl (kk _ _ _ hR hS hl)
  case lushr =>
    obtain ⟨t, ht, he⟩ := Option.map_eq_some_iff.mp hrun
    cases he
    obtain rfl : len = 1 := Nat.eq_of_beq_eq_true hok
    obtain ⟨x, y, r, rfl, rfl⟩ := ez_sh_s ht
    exact lv_lushr hx hb hdg rfl (kk _ _ _ hR hS hl)
  case lcmp =>
    obtain ⟨t, ht, he⟩ := Option.map_eq_some_iff.mp hrun
    cases he
    obtain rfl : len = 1 := Nat.eq_of_beq_eq_true hok
    obtain ⟨x, y, r, rfl, rfl⟩ := ez_lcmp_s ht
    exact W.lcmp hx hb hdg (kk _ _ _ hR hS hl)
  case i2l =>
    obtain ⟨t, ht, he⟩ := Option.map_eq_some_iff.mp hrun
    cases he
    obtain rfl : len = 1 := Nat.eq_of_beq_eq_true hok
    obtain ⟨x, r, rfl, rfl⟩ := ez_i2l_s ht
    exact lv_i2l hx hb hdg rfl (kk _ _ _ hR hS hl)
  case l2i =>
    obtain ⟨t, ht, he⟩ := Option.map_eq_some_iff.mp hrun
    cases he
    obtain rfl : len = 1 := Nat.eq_of_beq_eq_true hok
    obtain ⟨x, r, rfl, rfl⟩ := ez_l2i_s ht
    exact lv_l2i hx hb hdg rfl (kk _ _ _ hR hS hl)
  case dup =>
    obtain ⟨t, ht, he⟩ := Option.map_eq_some_iff.mp hrun
    cases he
    obtain rfl : len = 1 := Nat.eq_of_beq_eq_true hok
    obtain ⟨v, r, rfl, rfl, h1⟩ := ez_dup_s ht
    exact lv_dup hx hb hdg ((ez_mv_cat S0 b0 v).trans h1) (kk _ _ _ hR hS hl)
  case dup2 =>
    obtain ⟨t, ht, he⟩ := Option.map_eq_some_iff.mp hrun
    cases he
    obtain rfl : len = 1 := Nat.eq_of_beq_eq_true hok
    obtain ⟨v, w, r, rfl, rfl, h1, h2⟩ := ez_dup2_s ht
    exact lv_dup2_11 hx hb hdg ((ez_mv_cat S0 b0 v).trans h1) ((ez_mv_cat S0 b0 w).trans h2) (kk _ _ _ hR hS hl)
  case pop =>
    obtain ⟨t, ht, he⟩ := Option.map_eq_some_iff.mp hrun
    cases he
    obtain rfl : len = 1 := Nat.eq_of_beq_eq_true hok
    obtain ⟨v, rfl, h1⟩ := ez_pop_s ht
    exact lv_pop hx hb hdg ((ez_mv_cat S0 b0 v).trans h1) (kk _ _ _ hR hS hl)
  case pop2 =>
    obtain ⟨t, ht, he⟩ := Option.map_eq_some_iff.mp hrun
    cases he
    obtain rfl : len = 1 := Nat.eq_of_beq_eq_true hok
    obtain ⟨v, rfl, h1⟩ := ez_pop2_s ht
    exact lv_pop2_2 hx hb hdg ((ez_mv_cat S0 b0 v).trans h1) (kk _ _ _ hR hS hl)
  case iaload =>
    obtain ⟨t, ht, he⟩ := Option.map_eq_some_iff.mp hrun
    cases he
    obtain rfl : len = 1 := Nat.eq_of_beq_eq_true hok
    unfold ez_iald at ht
    split at ht
    · rename_i i q r
      split at ht
      · rename_i n f hq
        obtain ⟨h1, rfl⟩ := ez_in_s ht
        exact va_iald hx hb hK hR.2 q 0 (ez_ws_at hq) rfl h1 hdg (kk _ _ _ hR hS hl)
      · cases ht
    · rename_i i n r
      obtain ⟨h0, ht⟩ := ez_bif ht
      obtain ⟨h1, rfl⟩ := ez_in_s ht
      have h3 : n = 1 := by simpa using h0
      subst h3
      exact va_sld hx hb hX hbl hbA hS h1 hdg (kk _ _ _ hR hS hl)
    · cases ht
  case laload =>
    obtain ⟨t, ht, he⟩ := Option.map_eq_some_iff.mp hrun
    cases he
    obtain rfl : len = 1 := Nat.eq_of_beq_eq_true hok
    unfold ez_lald at ht
    split at ht
    · rename_i i q r
      split at ht
      · rename_i n f hq
        obtain ⟨h1, rfl⟩ := ez_in_s ht
        exact va_lald hx hb hK hR.2 q 1 (ez_ws_at hq) rfl h1 hdg (kk _ _ _ hR hS hl)
      · cases ht
    · cases ht
  case iastore =>
    obtain ⟨t, ht, he⟩ := Option.map_eq_some_iff.mp hrun
    cases he
    obtain rfl : len = 1 := Nat.eq_of_beq_eq_true hok
    unfold ez_iast at ht
    split at ht
    · rename_i x i q r
      split at ht
      · rename_i n f hq
        obtain ⟨h1, rfl⟩ := ez_in_s ht
        exact ez_iastrow hx hb hK hR hS hq h1 hdg fun H1 locs1 hR1 hS1 => kk _ _ _ hR1 hS1 hl
      · cases ht
    · cases ht
  case lastore =>
    obtain ⟨t, ht, he⟩ := Option.map_eq_some_iff.mp hrun
    cases he
    obtain rfl : len = 1 := Nat.eq_of_beq_eq_true hok
    unfold ez_last at ht
    split at ht
    · rename_i x i q r
      split at ht
      · rename_i n f hq
        obtain ⟨h1, rfl⟩ := ez_in_s ht
        exact ez_lastrow hx hb hK hR hS hq h1 hdg fun H1 locs1 hR1 hS1 => kk _ _ _ hR1 hS1 hl
      · cases ht
    · cases ht
  case arraylength =>
    obtain ⟨t, ht, he⟩ := Option.map_eq_some_iff.mp hrun
    cases he
    obtain rfl : len = 1 := Nat.eq_of_beq_eq_true hok
    unfold ez_alen at ht
    split at ht
    · rename_i q r
      split at ht
      · rename_i n f hq
        cases ht
        exact va_alen hx hb hK hR.2 q 0 (ez_ws_at hq) rfl rfl hdg (kk _ _ _ hR hS hl)
      · rename_i n f hq
        cases ht
        exact va_alen hx hb hK hR.2 q 1 (ez_ws_at hq) rfl rfl hdg (kk _ _ _ hR hS hl)
      · cases ht
    · rename_i n r
      obtain ⟨h0, ht⟩ := ez_bif ht
      cases ht
      have h3 : n = 1 := by simpa using h0
      subst h3
      exact va_slen hx hb hX hbl hbA hS hdg (kk _ _ _ hR hS hl)
    · cases ht
  case getfield idx =>
    obtain ⟨t, ht, he⟩ := Option.map_eq_some_iff.mp hrun
    cases he
    obtain ⟨ha, hok⟩ := Bool.and_eq_true_iff.mp hok
    obtain ⟨hb1, hok⟩ := Bool.and_eq_true_iff.mp hok
    obtain ⟨h2, hok⟩ := Bool.and_eq_true_iff.mp hok
    obtain rfl : len = 3 := Nat.eq_of_beq_eq_true h2
    obtain ⟨c1, c2, c3, c4, -⟩ := hC a (Nat.le_of_ble_eq_true ha)
    unfold ez_get at ht
    split at ht
    · rename_i q r
      split at ht
      · rename_i cj fs hq
        obtain ⟨h3, ht2⟩ := ez_bif ht
        clear ht
        obtain rfl : cj = a := Nat.eq_of_beq_eq_true h3
        split at ht2
        · rename_i v hv
          cases ht2
          have hv' : (fs.map (ez_mv S0 b0))[b]? = some (ez_mv S0 b0 v) := by rw [List.getElem?_map, hv]; rfl
          rcases Bool.or_eq_true_iff.mp hok with hw | hw
          · exact va_get hx hb hts c2 hown hK hR.2 q (ez_ws_at hq) c1 b (Nat.le_of_ble_eq_true hb1) (hts _ (ez_w_mem hw)) (fun _ h9 => h9) hv' hdg (kk _ _ _ hR hS hl)
          · exact va_getN hx hb hts c2 hown hK hR.2 q (ez_ws_at hq) c1 b (Nat.le_of_ble_eq_true hb1) (hts _ (ez_w_mem hw)) (fun _ h9 => h9) hv' hdg (kk _ _ _ hR hS hl)
        · cases ht2
      · cases ht
    · cases ht
  case putfield idx =>
    obtain ⟨t, ht, he⟩ := Option.map_eq_some_iff.mp hrun
    cases he
    obtain ⟨ha, hok⟩ := Bool.and_eq_true_iff.mp hok
    obtain ⟨hb1, hok⟩ := Bool.and_eq_true_iff.mp hok
    obtain ⟨h2, hok⟩ := Bool.and_eq_true_iff.mp hok
    obtain rfl : len = 3 := Nat.eq_of_beq_eq_true h2
    obtain ⟨c1, c2, c3, c4, -⟩ := hC a (Nat.le_of_ble_eq_true ha)
    unfold ez_set at ht
    split at ht
    · rename_i v q r
      split at ht
      · rename_i cj fs hq
        obtain ⟨h3, ht2⟩ := ez_bif ht
        clear ht
        obtain ⟨h3, h5⟩ := Bool.and_eq_true_iff.mp h3
        obtain ⟨h3, h4⟩ := Bool.and_eq_true_iff.mp h3
        obtain rfl : cj = a := Nat.eq_of_beq_eq_true h3
        cases ht2
        have hf := ez_fits_mv (S0 := S0) (b0 := b0) _ _ h4
        refine ez_putrow hx hb hts c2 (ty cj) (fun k hk => (c3 k hk).1) c4 hown hK hR hS hq c1 b (Nat.le_of_ble_eq_true hb1) ?_ (ez_narrow (c3 b (Nat.le_of_ble_eq_true hb1)).2 hf) hf (Nat.le_of_ble_eq_true h5) hdg fun H1 locs1 hR1 hS1 => kk _ _ _ hR1 hS1 hl
        rcases Bool.or_eq_true_iff.mp hok with hw | hw
        · obtain ⟨hw, hz⟩ := Bool.and_eq_true_iff.mp hw
          refine Or.inl ⟨hts _ (ez_w_mem hw), ?_⟩
          rcases Bool.or_eq_true_iff.mp hz with hz | hz
          · exact Or.inl (of_decide_eq_true hz)
          · obtain ⟨z1, hz⟩ := Bool.and_eq_true_iff.mp hz
            obtain ⟨z2, z3⟩ := Bool.and_eq_true_iff.mp hz
            exact Or.inr ⟨of_decide_eq_true z1, hin (of_decide_eq_true z2), of_decide_eq_true z3⟩
        · obtain ⟨hw, hz⟩ := Bool.and_eq_true_iff.mp hw
          exact Or.inr ⟨ez_host, hts _ (ez_w_mem hw), of_decide_eq_true hz⟩
      · cases ht
    · cases ht
  all_goals (simp [ez_b] at hrun; done)
end EZB
end
section
/-! A method's contract out of a run of the machine, and a call. -/
/-- a method's words -/
noncomputable def ez_wsm (tbl : Unit) (M : ez_M) (m : Nat) : List Cond := .code (ez_my M m) (ez_mb M m) (ez_mL M m) (ez_mr M m) :: ez_tb.filter goodWord
/-- the nest mates' links in a state -/
noncomputable def ez_Nw (tbl : Unit) (U : State) : Prop := ∀ w ∈ ez_tb, ez_nest w = true → va_Nw w U
theorem ez_nest_on {w : Cond} (h : ez_nest w = true) : w.onTables = true := by
  cases w <;> first | rfl | (cases h; done)
theorem ez_Nw.of {tbl : Unit} {A : Array Value} {s : State} (h : ∀ w ∈ ez_tb, w.before A s = true) : ez_Nw tbl s := fun w hw hn => va_Nw.of (ez_nest_on hn) (h w hw)
theorem ez_Nw.warm {tbl : Unit} {s U : State} (hW : s.WarmedH U.vm) (h : ez_Nw tbl s) : ez_Nw tbl U := by
  intro w hw hn
  have h1 := h w hw hn
  cases w <;> first | (cases hn; done) | exact va_Nw.warmF hW h1 | exact va_Nw.warmM hW h1
noncomputable def ez_rm (M : ez_M) (m c k : Nat) : Room := { frames := ez_md M m, cells := c, slots := k, locals := ez_ml M m }
noncomputable def ez_Pc (tbl : Unit) (D : va_G) (cl : List vw_C) (S0 b0 : Nat) (cI cJ : ClassId) (X : ez_X) (as : List Value) (h : ez_H) : Array Value → State → Prop := fun v U => v = (as.map (ez_mv S0 b0)).toArray ∧ ez_R D cl S0 b0 cI cJ h U.heap ∧ va_K D cl [(cI, .int), (cJ, .long)] U ∧ va_X b0 X.1 X.2 U U.heap ∧ ez_Nw tbl U
noncomputable def ez_Qc (D : va_G) (cl : List vw_C) (S0 b0 : Nat) (cI cJ : ClassId) (r : Option Value) (h : ez_H) : Array Value → State → Outcome → State → Prop := fun _ st oc t => oc = .returned (r.map (ez_mv S0 b0)) ∧ ez_R D cl S0 b0 cI cJ h t.heap ∧ va_F (ez_A S0) st t
/-- the instruction at which a method ends, and its answer -/
noncomputable def ez_rt (ret : Option FieldType) (i : Instr) (r : Option Value) : Prop :=
  (i = .ireturn ∧ ∃ v, r = some (.int v) ∧ (ret = some .int ∨ (ret = some .boolean ∧ (v = 0 ∨ v = 1)))) ∨ (i = .lreturn ∧ ∃ v, r = some (.long v) ∧ ret = some .long) ∨ (i = .areturn ∧ ∃ q C, r = some (.ref q) ∧ ret = some (.object C)) ∨ (i = .return_ ∧ r = none ∧ ret = none)
theorem ez_blind {tbl : Unit} {D : va_G} {cl : List vw_C} {S0 b0 : Nat} {cI cJ : ClassId} {X : ez_X} {as : List Value} {h : ez_H} : FrameBlind (ez_Pc tbl D cl S0 b0 cI cJ X as h) := by
  intro a U g mk q
  obtain ⟨q0, q1, q2, q3, q4⟩ := q
  exact ⟨q0, q1, va_K.moved (u := U) (U := U.calling g mk a) (Vm.Alike.refl U.vm) q2, va_X.moved (u := U) (U := U.calling g mk a) (Vm.Alike.refl U.vm) q3, fun w hw hn => va_Nw.same (u := U) (U := U.calling g mk a) (ez_nest_on hn) rfl (q4 w hw hn)⟩
theorem ez_sl_len (S0 b0 : Nat) (as : List Value) : (lg_sl (as.map (ez_mv S0 b0))).length = ez_cats as := by
  induction as with
  | nil => rfl
  | cons v t ih =>
    have h : lg_sl ((v :: t).map (ez_mv S0 b0)) = (if (ez_mv S0 b0 v).category = 2 then [.val (ez_mv S0 b0 v), .second] else [.val (ez_mv S0 b0 v)]) ++ lg_sl (t.map (ez_mv S0 b0)) := rfl
    rw [h, List.length_append, ih, ez_mv_cat]
    show _ = v.category + ez_cats t
    rcases lv_cat v with h1 | h1
    · rw [h1]; rfl
    · rw [h1]; rfl
section EZC
variable {p : Program} {l : Launch} {e : Env} {R : Room} {s : State} {mid : MethodId} {args : Array Value} {below : List Frame} {meth : Method} {c : Code} {H : Heap} {locs : List Loc} {cells slots : Nat} {Q : State → Prop}
variable {tbl : Unit} {M : ez_M} {D : va_G} {cl : List vw_C} {S0 b0 : Nat} {cI cJ : ClassId} {X : ez_X}
/-- a script that a walk hasn't touched -/
theorem ez_X_kept {U : State} (hX : va_X b0 X.1 X.2 s s.heap) (hb0 : b0 < S0) (hbl : b0 < s.heap.size) (hS : va_S (ez_A S0) s.heap H locs) (hU : U.heap = H) (hW : s.WarmedH U.vm) : va_X b0 X.1 X.2 U U.heap := by
  rw [hU]
  exact (hX.kept (hS.2.1 b0 hbl (Nat.not_le.mpr hb0))).moved hW.alike
theorem ez_back {pc : Nat} {ls : Array Slot} {rest st0 : List Value} {a : Array Value} {mc ms : Nat} {r : Option Value} {h' : ez_H}
    (hr : va_Run p l e R s mid args below meth c H locs cells slots mc ms (F0 mid pc ls st0) rest (ez_Qc D cl S0 b0 cI cJ r h' a) (ez_A S0)) (hS : va_S (ez_A S0) s.heap H locs)
    (kk : ∀ (H1 : Heap) (locs1 : List Loc), ez_R D cl S0 b0 cI cJ h' H1 → va_S (ez_A S0) s.heap H1 locs1 → W p l e R s mid args below meth c H1 locs1 (cells + mc) (slots + ms) Q (F0 mid (pc + 3) ls ((r.map (ez_mv S0 b0)).toList ++ rest))) :
    W p l e R s mid args below meth c H locs cells slots Q (F0 mid pc ls st0) := by
  intro T hT X0
  obtain ⟨v, st₀, t, T', L, h0, X', hL, e1, e2, ⟨hv, hR1, hz, hk⟩, st⟩ := hr T hT X0
  cases hv
  rw [h0] at hz hk
  obtain ⟨t2, a1, b1⟩ := kk T'.heap (locs ++ L) (by rw [e1]; exact hR1) ⟨Nat.le_trans hS.1 (by rw [e1]; exact hz), fun q h1 h2 => by rw [e1, hk q (Nat.lt_of_lt_of_le h1 hS.1) h2]; exact hS.2.1 q h1 h2, fun q hq => by
      rcases List.mem_append.mp hq with h | h
      · exact hS.2.2 q h
      · exact hL q h⟩ T' rfl X'
  exact ⟨t2, st t2 a1, b1⟩
end EZC
end
section
/-! The machine is sound: what it answers, the method answers. -/
noncomputable def ez_exit (l : Launch) (M : ez_M) (D : va_G) (cl : List vw_C) (S0 b0 : Nat) (cI cJ : ClassId) (m : Nat) (r : Option Value) (h' : ez_H) (c' k' : Nat) (p : Program) (e : Env) (R : Room) (s : State) (mid : MethodId) (args : Array Value) (below : List Frame) (meth : Method) (co : Code) (Q : State → Prop) : Prop :=
  ∀ (i : Instr) (q : Nat) (lsB : Array Slot) (H1 : Heap) (locs1 : List Loc), decode (ez_mb M m) q = .ok (i, 1) → ez_rt (ez_mr M m) i r → ez_R D cl S0 b0 cI cJ h' H1 → va_S (ez_A S0) s.heap H1 locs1 → W p l e R s mid args below meth co H1 locs1 c' k' Q (F0 mid q lsB (r.map (ez_mv S0 b0)).toList)
noncomputable def ez_snd (l : Launch) (tbl : Unit) (M : ez_M) (P : ez_P) (X : ez_X) (ty : Nat → Nat → FieldType) (nw : Nat → List Value) (cl : List vw_C) (S0 b0 nM F : Nat) : Prop :=
  ∀ (m pc : Nat) (ls st : List Value) (h : ez_H) (c k : Nat) (r : Option Value) (h' : ez_H) (c' k' : Nat), m ≤ nM → ez_ev P X ty nw (ez_mL M) F m pc ls st h c k = some (r, h', c', k') → (c ≤ c' ∧ k ≤ k') ∧
    ∀ (D : va_G) (cI cJ : ClassId) (p : Program) (e : Env) (R : Room) (s : State) (mid : MethodId) (args : Array Value) (below : List Frame) (meth : Method) (co : Code) (H : Heap) (locs : List Loc) (lsA : Array Slot) (Q : State → Prop),
      ez_ctx tbl M D cl b0 cI cJ X m p s mid args meth co → ez_md M m ≤ R.frames → ez_ml M m ≤ R.locals → c' ≤ R.cells → k' ≤ R.slots → ez_R D cl S0 b0 cI cJ h H → va_S (ez_A S0) s.heap H locs → lv_has lsA (ez_mL M m) (ez_lv S0 b0 0 ls) →
      ez_exit l M D cl S0 b0 cI cJ m r h' c' k' p e R s mid args below meth co Q → W p l e R s mid args below meth co H locs c k Q (F0 mid pc lsA (st.map (ez_mv S0 b0)))
/-- a method's words, one by one -/
noncomputable def ez_mok (tbl : Unit) (M : ez_M) (m : Nat) : Prop :=
  plainFor (ez_my M m) = true ∧ ((ez_my M m).cls ≠ "java/lang/invoke/MethodHandle" ∧ (ez_my M m).cls ≠ "java/lang/invoke/VarHandle" ∧ (parseMethodDescriptor (ez_my M m).desc).map (fun d => d.parameters.length) = some (ez_mn M m)) ∧ Cond.code (ez_my M m) (ez_mb M m) (ez_mL M m) (ez_mr M m) ∈ ez_tb ∧ Cond.initialized (ez_my M m).cls ∈ ez_tb ∧
  (ez_mk M m = 0 → Cond.static (ez_my M m) ∈ ez_tb) ∧ (ez_mk M m = 1 → Cond.instanceMethod (ez_my M m) ∈ ez_tb ∧ Cond.selects (ez_my M m).cls (ez_my M m) (ez_my M m) ∈ ez_tb) ∧ (ez_mk M m = 2 → Cond.instanceMethod (ez_my M m) ∈ ez_tb ∧ (ez_my M m).name = "<init>" ∧ ez_mr M m = none)
theorem ez_mok_of {tbl : Unit} {M : ez_M} {m w1 w2 w3 w4 : Nat} (h : ez_okH tbl M m w1 w2 w3 w4 = true) : ez_mok tbl M m := by
  obtain ⟨h1, h⟩ := Bool.and_eq_true_iff.mp h
  obtain ⟨h2, h⟩ := Bool.and_eq_true_iff.mp h
  obtain ⟨h3, h⟩ := Bool.and_eq_true_iff.mp h
  obtain ⟨h4, h⟩ := Bool.and_eq_true_iff.mp h
  obtain ⟨h5, h⟩ := Bool.and_eq_true_iff.mp h
  obtain ⟨h6, h⟩ := Bool.and_eq_true_iff.mp h
  refine ⟨h1, ⟨of_decide_eq_true h2, of_decide_eq_true h3, of_decide_eq_true h6⟩, ez_w_mem h4, ez_w_mem h5, fun z => ?_, fun z => ?_, fun z => ?_⟩
  · rw [z] at h
    exact ez_w_mem h
  · rw [z] at h
    obtain ⟨g1, g2⟩ := Bool.and_eq_true_iff.mp h
    exact ⟨ez_w_mem g1, ez_w_mem g2⟩
  · rw [z] at h
    obtain ⟨g1, g2⟩ := Bool.and_eq_true_iff.mp h
    obtain ⟨g2, g3⟩ := Bool.and_eq_true_iff.mp g2
    exact ⟨ez_w_mem g1, of_decide_eq_true g2, of_decide_eq_true g3⟩
/-- a contract out of a walk, for a method for which no native row stands -/
theorem ez_ofW {l : Launch} {y : MethodName} {ws ws' : List Cond} {rm : Room} {Pc : Array Value → State → Prop} {Qc : Array Value → State → Outcome → State → Prop} {mc ms : Nat} {free : Addr → Prop} {cc : ByteArray} {maxL : Nat} {ret : Option FieldType}
    (hy : plainFor y = true) (hw : ws = Cond.code y cc maxL ret :: ws')
    (body : ∀ p e s m args below meth c s₁, BodyLoose p l y (headSpec ws rm) cc maxL ret e s m args below meth c s₁ → c.maxLocals = maxL → Pc args s →
      W p l e (headSpec ws rm).room s m args below meth c s.heap [] 0 0 (MQ below Qc args s mc ms free) (entryFrame m args maxL)) : Met l y ws rm Pc Qc mc ms free := by
  refine MetFree.of_bodySF (code := cc) (maxLocals := maxL) (ret := ret) hy ?_ ?_
  · intro args s m h hn
    obtain ⟨meth, c, h1, h2, h3, h4, h5, h6, -, -⟩ := Cond.code_spec hn (atoms_spec (ws := ws) h _ (by rw [hw]; exact List.mem_cons_self))
    exact ⟨meth, c, h1, h2, h3, h4, h5, h6⟩
  · intro p e s m args below meth c s₁ B hml hP _
    have hh0 : s₁.heap = s.heap := by rw [B.state]; rfl
    obtain ⟨t, a1, o, b1, b2, b3⟩ := body p e s m args below meth c s₁ B hml hP s₁ hh0 (Stand.of_body B)
    exact ⟨t, o, a1, b1, b2, ⟨b3.1, b3.2⟩⟩
section EZS
variable {l : Launch} {tbl : Unit} {M : ez_M} {K : ez_K} {P : ez_P} {X : ez_X} {ty : Nat → Nat → FieldType} {nw : Nat → List Value} {cl : List vw_C} {S0 b0 nM nK : Nat}
theorem ez_good (hg : ∀ w ∈ ez_tb, (goodWord w || ez_nest w) = true) {m : Nat} (hm : ez_mok tbl M m) : GoodIn ez_tb (ez_wsm tbl M m) := by
  intro w hw
  rcases List.mem_cons.mp hw with rfl | hw
  · exact ⟨hm.2.2.1, good_of_word rfl⟩
  · obtain ⟨h1, h2⟩ := List.mem_filter.mp hw
    exact ⟨h1, good_of_word h2⟩
theorem ez_met (hg : ∀ w ∈ ez_tb, (goodWord w || ez_nest w) = true) {F a : Nat} {as : List Value} {h h' : ez_H} {r : Option Value} {c1 k1 : Nat} (D : va_G) (cI cJ : ClassId) (hb0 : b0 < S0) (hF : ez_snd l tbl M P X ty nw cl S0 b0 nM F) (ha : a ≤ nM) (hm : ez_mok tbl M a) (hrun : ez_ev P X ty nw (ez_mL M) F a 0 (ez_lay as) [] h 0 0 = some (r, h', c1, k1)) (hcat : ez_cats as ≤ ez_mL M a) :
    Met l (ez_my M a) (ez_wsm tbl M a) (ez_rm M a c1 k1) (ez_Pc tbl D cl S0 b0 cI cJ X as h) (ez_Qc D cl S0 b0 cI cJ r h') c1 k1 (ez_A S0) := by
  refine ez_ofW (cc := ez_mb M a) (maxL := ez_mL M a) (ret := ez_mr M a) hm.1 rfl ?_
  intro p e s mid args below meth co s₁ B hml hP
  obtain ⟨rfl, hR, hK, hX, hN⟩ := hP
  have hts0 := atoms_spec (ws := ez_wsm tbl M a) B.pre
  have hts : ∀ w ∈ ez_tb, w.before ((as.map (ez_mv S0 b0)).toArray) s = true := by
    intro w hw
    rcases Bool.or_eq_true_iff.mp (hg w hw) with h1 | h1
    · exact hts0 w (List.mem_cons_of_mem _ (List.mem_filter.mpr ⟨hw, h1⟩))
    · exact va_Nw.use (ez_nest_on h1) (hN w hw h1)
  have hown : s.vm.findClass (ez_my M a).cls = some mid.cls := findClass_of_methodNamed B.named
  have hl := ez_has_sub (lv_entry (as.map (ez_mv S0 b0)) (n := ez_mL M a) (by rw [ez_sl_len]; exact hcat)) (ez_lay_in as 0)
  rw [lg_entry_eq]
  have hbl : b0 < s.heap.size := by rw [hR.1]; omega
  obtain ⟨-, hw⟩ := hF a 0 (ez_lay as) [] h 0 0 r h' c1 k1 ha hrun
  refine hw D cI cJ p e _ s mid _ below meth co s.heap [] _ _ ⟨B.exec, B.bytes, hml, hown, hts, hK, hX, hbl, fun z => (name_of_methodNamed B.named B.method).1.trans z⟩ (Nat.le_refl _) (Nat.le_refl _) (Nat.le_refl _) (Nat.le_refl _) hR va_S.rf hl ?_
  intro i q lsB H1 locs1 hdg hrt hR1 hS1
  have hlocks := B.notSynchronized
  rcases hrt with ⟨rfl, v, rfl, hz | ⟨hz, hv⟩⟩ | ⟨rfl, v, rfl, hz⟩ | ⟨rfl, q1, C, rfl, hz⟩ | ⟨rfl, rfl, hz⟩
  · exact W.iret B.exec B.bytes (B.returns.trans hz) (fun t ht hW => ⟨rfl, by rw [ht]; exact hR1, hS1.F ht⟩) hS1.2.2 hdg hlocks
  · exact W.zret B.exec B.bytes (B.returns.trans hz) (by rcases hv with rfl | rfl <;> decide +kernel) (fun t ht hW => ⟨rfl, by rw [ht]; exact hR1, hS1.F ht⟩) hS1.2.2 hdg hlocks
  · exact W.lret B.exec B.bytes (B.returns.trans hz) (fun t ht hW => ⟨rfl, by rw [ht]; exact hR1, hS1.F ht⟩) hS1.2.2 hdg hlocks
  · exact W.aret B.exec B.bytes (B.returns.trans hz) (Or.inl ⟨C, rfl⟩) (Or.inr ⟨S0 + q1, rfl⟩) (fun t ht hW => ⟨rfl, by rw [ht]; exact hR1, hS1.F ht⟩) hS1.2.2 hdg hlocks
  · exact W.vret B.exec B.bytes (B.returns.trans hz) (fun t ht hW => ⟨rfl, by rw [ht]; exact hR1, hS1.F ht⟩) hS1.2.2 hdg hlocks
/-- what a call comes to, once its own row is at hand -/
theorem ez_go_ok {F m pc a n : Nat} {ls st : List Value} {h h' : ez_H} {c k c' k' : Nat} {r : Option Value} (hF : ez_snd l tbl M P X ty nw cl S0 b0 nM F) (hm : m ≤ nM)
    (hgo : ez_go (ez_mL M) (ez_ev P X ty nw (ez_mL M) F) m pc a n ls st h c k = some (r, h', c', k')) :
    ∃ (r1 : Option Value) (h1 : ez_H) (c1 k1 : Nat), n ≤ st.length ∧ ez_cats (st.drop n) ≤ 8 ∧ ez_cats (st.take n).reverse ≤ ez_mL M a ∧ ez_ev P X ty nw (ez_mL M) F a 0 (ez_lay (st.take n).reverse) [] h 0 0 = some (r1, h1, c1, k1) ∧ ez_ev P X ty nw (ez_mL M) F m (pc + 3) ls (r1.toList ++ st.drop n) h1 (c + c1) (k + k1) = some (r, h', c', k') ∧ c + c1 ≤ c' ∧ k + k1 ≤ k' := by
  unfold ez_go at hgo
  obtain ⟨hz, hgo⟩ := ez_bif hgo
  obtain ⟨z1, hz⟩ := Bool.and_eq_true_iff.mp hz
  obtain ⟨z2, z3⟩ := Bool.and_eq_true_iff.mp hz
  split at hgo
  · rename_i r1 h1 c1 k1 h2
    obtain ⟨⟨g1, g2⟩, -⟩ := hF m _ _ _ _ _ _ _ _ _ _ hm hgo
    exact ⟨r1, h1, c1, k1, Nat.le_of_ble_eq_true z1, Nat.le_of_ble_eq_true z2, Nat.le_of_ble_eq_true z3, h2, hgo, g1, g2⟩
  · cases hgo
end EZS
end
section
section EZM
variable {l : Launch} {tbl : Unit} {M : ez_M} {K : ez_K} {P : ez_P} {X : ez_X} {ty : Nat → Nat → FieldType} {nw : Nat → List Value} {cl : List vw_C} {S0 b0 nM nK : Nat}
theorem ez_isO_s {d q : Nat} {h : ez_H} {as : List Value} (hz : ez_isO d h as = true) : ∃ (q : Nat) (bs : List Value) (fs : List Value), as = .ref q :: bs ∧ h[q]? = some (.inr (d, fs)) := by
  unfold ez_isO at hz
  split at hz
  · rename_i q bs
    split at hz
    · rename_i cj fs hq
      obtain rfl : cj = d := Nat.eq_of_beq_eq_true hz
      exact ⟨q, bs, fs, rfl, hq⟩
    · cases hz
  · cases hz
theorem ez_isR_s {as : List Value} (hz : ez_isR as = true) : ∃ (q : Nat) (bs : List Value), as = .ref q :: bs := by
  unfold ez_isR at hz
  split at hz
  · exact ⟨_, _, rfl⟩
  · cases hz
/-- the stack at a call: the arguments upside down, then the rest -/
theorem ez_stk {S0 b0 n : Nat} {st as : List Value} (h : (st.take n).reverse = as) : st.map (ez_mv S0 b0) = (as.map (ez_mv S0 b0)).reverse ++ (st.drop n).map (ez_mv S0 b0) := by
  rw [← h, ← List.map_reverse, List.reverse_reverse, ← List.map_append, List.take_append_drop]
theorem ez_tg_s {pc q : Nat} {off : Int} (h : ez_tg pc off = some q) : (pc : Int) + off = (q : Int) := by
  unfold ez_tg at h
  obtain ⟨h1, h2⟩ := ez_bifN h
  have h3 := of_decide_eq_false h1
  have h4 := Option.some.inj h2
  omega
theorem ez_sw_s {dflt lo hi : Int} {offs : Array Int} {pc q : Nat} {x : Int32} (h : ez_sw dflt lo hi offs pc x = some q) : ((x.toInt < lo ∨ hi < x.toInt) ∧ (pc : Int) + dflt = (q : Int)) ∨ (¬ x.toInt < lo ∧ ¬ hi < x.toInt ∧ ∃ off, offs[(x.toInt - lo).toNat]? = some off ∧ (pc : Int) + off = (q : Int)) := by
  unfold ez_sw at h
  cases hz : decide (x.toInt < lo ∨ hi < x.toInt) with
  | true =>
    rw [hz] at h
    exact Or.inl ⟨of_decide_eq_true hz, ez_tg_s h⟩
  | false =>
    rw [hz] at h
    have h0 := of_decide_eq_false hz
    refine Or.inr ⟨fun z => h0 (Or.inl z), fun z => h0 (Or.inr z), ?_⟩
    simp only [cond_false] at h
    split at h
    · rename_i off ho
      exact ⟨off, ho, ez_tg_s h⟩
    · cases h
theorem ez_icmp_s {o : ClassFile.Cond} {st r : List Value} {t : Bool} (h : ez_icmp o st = some (t, r)) : ∃ x y, st = .int y :: .int x :: r := by
  unfold ez_icmp at h
  split at h
  · cases h; exact ⟨_, _, rfl⟩
  · cases h
theorem ez_ifc_s {o : ClassFile.Cond} {st r : List Value} {t : Bool} (h : ez_ifc o st = some (t, r)) : ∃ x, st = .int x :: r := by
  unfold ez_ifc at h
  split at h
  · cases h; exact ⟨_, rfl⟩
  · cases h
theorem ez_br {α : Type} {t : Bool} {x y : Option α} {z : α} (h : (bif t then x else y) = some z) : (t = true ∧ x = some z) ∨ (t = false ∧ y = some z) := by
  cases t with
  | true => exact Or.inl ⟨rfl, h⟩
  | false => exact Or.inr ⟨rfl, h⟩
theorem ez_nw_mv {S0 b0 : Nat} {fs : List Value} (h : ∀ v ∈ fs, v = .int 0 ∨ v = .long 0 ∨ v = .null) : fs.map (ez_mv S0 b0) = fs := by
  induction fs with
  | nil => rfl
  | cons v t ih =>
    rw [List.map_cons, ih (fun w hw => h w (List.mem_cons_of_mem _ hw))]
    rcases h v List.mem_cons_self with rfl | rfl | rfl <;> rfl
set_option maxHeartbeats 16000000 in
theorem ez_sound (hb0 : b0 < S0) (hg : ∀ w ∈ ez_tb, (goodWord w || ez_nest w) = true) (hM : ∀ a, a < nM → ez_mok tbl M a) (hC : ∀ ci, ci < nK → ez_okC tbl cl K ty nw ci)
    (hI : ∀ m, m ≤ nM → ∀ (pc : Nat) (x : ez_I), P m pc = some x → ez_okI tbl M K nM nK m pc x = true)
    (hmax : Cond.static Lib.Math.max.name ∈ ez_tb ∧ Cond.initialized "java/lang/Math" ∈ ez_tb ∧ Cond.code Lib.Math.max.name Lib.Math.max.code 2 (some .int) ∈ ez_tb)
    (hmin : Cond.static Lib.Math.min.name ∈ ez_tb ∧ Cond.code Lib.Math.min.name Lib.Math.min.code 2 (some .int) ∈ ez_tb)
    (hobj : Cond.instanceMethod Lib.objectInit ∈ ez_tb ∧ Cond.code Lib.objectInit ⟨#[0xb1]⟩ 1 none ∈ ez_tb) : ∀ F, ez_snd l tbl M P X ty nw cl S0 b0 nM F := by
  intro F
  induction F with
  | zero => intro m pc ls st h c k r h' c' k' hm hrun; cases hrun
  | succ F hF =>
    intro m pc ls0 st h c k r h' c' k' hm hrun
    rw [ez_ev_s] at hrun
    unfold ez_stp at hrun
    split at hrun
    · cases hrun
    rename_i i len a b cut w d hP
    have hok0 := hI m hm pc _ hP
    obtain ⟨hdg0, hok⟩ := Bool.and_eq_true_iff.mp hok0
    have hdg := of_decide_eq_true hdg0
    clear hok0 hdg0 hP
    cases i
    case goto off =>
      dsimp only at hrun
      obtain ⟨g1, g2⟩ := Bool.and_eq_true_iff.mp hok
      obtain rfl : len = 3 := Nat.eq_of_beq_eq_true g2
      obtain ⟨hc, hw⟩ := hF m a _ _ _ _ _ _ _ _ _ hm hrun
      refine ⟨hc, ?_⟩
      intro D cI cJ p e R s mid args below meth co H locs lsA Q C hfr hlo hcc hkk hR hS hl hex
      have C0 := C
      obtain ⟨hx, hb, hml, hown, hts, hK, hX, hbl, hin⟩ := C
      exact lv_goto hx hb hdg (of_decide_eq_true g1) (hw D cI cJ p e R s mid args below meth co H locs lsA Q C0 hfr hlo hcc hkk hR hS (ez_lv_take cut hl) hex)
    case if_icmp o off =>
      dsimp only at hrun
      obtain ⟨g1, g2⟩ := Bool.and_eq_true_iff.mp hok
      obtain rfl : len = 3 := Nat.eq_of_beq_eq_true g2
      split at hrun
      · rename_i t r1 hz
        obtain ⟨x, y, rfl⟩ := ez_icmp_s hz
        simp only [ez_icmp, Option.some.injEq, Prod.mk.injEq, and_true] at hz
        rcases ez_br hrun with ⟨ht, hr⟩ | ⟨ht, hr⟩
        · obtain ⟨hc, hw⟩ := hF m _ _ _ _ _ _ _ _ _ _ hm hr
          refine ⟨hc, ?_⟩
          intro D cI cJ p e R s mid args below meth co H locs lsA Q C hfr hlo hcc hkk hR hS hl hex
          have C0 := C
          obtain ⟨hx, hb, hml, hown, hts, hK, hX, hbl, hin⟩ := C
          rw [ht] at hz
          cases o
          case eq =>
            have h0 := of_decide_eq_true hz
            exact lv_icmp_eq hx hb hdg (of_decide_eq_true g1) (fun _ => hw D cI cJ p e R s mid args below meth co H locs lsA Q C0 hfr hlo hcc hkk hR hS (ez_lv_take cut hl) hex) (fun q => absurd h0 q)
          case ne =>
            have h0 := of_decide_eq_true hz
            exact lv_icmp_ne hx hb hdg (of_decide_eq_true g1) (fun _ => hw D cI cJ p e R s mid args below meth co H locs lsA Q C0 hfr hlo hcc hkk hR hS (ez_lv_take cut hl) hex) (fun q => absurd q h0)
          case lt =>
            have h0 := of_decide_eq_true hz
            exact lv_icmp_lt hx hb hdg (of_decide_eq_true g1) (fun _ => hw D cI cJ p e R s mid args below meth co H locs lsA Q C0 hfr hlo hcc hkk hR hS (ez_lv_take cut hl) hex) (fun q => absurd h0 q)
          case ge =>
            have h0 := of_decide_eq_true hz
            exact lv_icmp_ge hx hb hdg (of_decide_eq_true g1) (fun _ => hw D cI cJ p e R s mid args below meth co H locs lsA Q C0 hfr hlo hcc hkk hR hS (ez_lv_take cut hl) hex) (fun q => absurd h0 q)
          case gt =>
            have h0 := of_decide_eq_true hz
            exact lv_icmp_gt hx hb hdg (of_decide_eq_true g1) (fun _ => hw D cI cJ p e R s mid args below meth co H locs lsA Q C0 hfr hlo hcc hkk hR hS (ez_lv_take cut hl) hex) (fun q => absurd h0 q)
          case le =>
            have h0 := of_decide_eq_true hz
            exact lv_icmp_le hx hb hdg (of_decide_eq_true g1) (fun _ => hw D cI cJ p e R s mid args below meth co H locs lsA Q C0 hfr hlo hcc hkk hR hS (ez_lv_take cut hl) hex) (fun q => absurd h0 q)
        · obtain ⟨hc, hw⟩ := hF m _ _ _ _ _ _ _ _ _ _ hm hr
          refine ⟨hc, ?_⟩
          intro D cI cJ p e R s mid args below meth co H locs lsA Q C hfr hlo hcc hkk hR hS hl hex
          have C0 := C
          obtain ⟨hx, hb, hml, hown, hts, hK, hX, hbl, hin⟩ := C
          rw [ht] at hz
          cases o
          case eq =>
            have h0 := of_decide_eq_false hz
            exact lv_icmp_eq hx hb hdg (of_decide_eq_true g1) (fun q => absurd q h0) (fun _ => hw D cI cJ p e R s mid args below meth co H locs lsA Q C0 hfr hlo hcc hkk hR hS (ez_lv_take cut hl) hex)
          case ne =>
            have h0 := of_decide_eq_false hz
            exact lv_icmp_ne hx hb hdg (of_decide_eq_true g1) (fun q => absurd q h0) (fun _ => hw D cI cJ p e R s mid args below meth co H locs lsA Q C0 hfr hlo hcc hkk hR hS (ez_lv_take cut hl) hex)
          case lt =>
            have h0 := of_decide_eq_false hz
            exact lv_icmp_lt hx hb hdg (of_decide_eq_true g1) (fun q => absurd q h0) (fun _ => hw D cI cJ p e R s mid args below meth co H locs lsA Q C0 hfr hlo hcc hkk hR hS (ez_lv_take cut hl) hex)
          case ge =>
            have h0 := of_decide_eq_false hz
            exact lv_icmp_ge hx hb hdg (of_decide_eq_true g1) (fun q => absurd q h0) (fun _ => hw D cI cJ p e R s mid args below meth co H locs lsA Q C0 hfr hlo hcc hkk hR hS (ez_lv_take cut hl) hex)
          case gt =>
            have h0 := of_decide_eq_false hz
            exact lv_icmp_gt hx hb hdg (of_decide_eq_true g1) (fun q => absurd q h0) (fun _ => hw D cI cJ p e R s mid args below meth co H locs lsA Q C0 hfr hlo hcc hkk hR hS (ez_lv_take cut hl) hex)
          case le =>
            have h0 := of_decide_eq_false hz
            exact lv_icmp_le hx hb hdg (of_decide_eq_true g1) (fun q => absurd q h0) (fun _ => hw D cI cJ p e R s mid args below meth co H locs lsA Q C0 hfr hlo hcc hkk hR hS (ez_lv_take cut hl) hex)
      · cases hrun
    case ifCond o off =>
      dsimp only at hrun
      obtain ⟨g1, g2⟩ := Bool.and_eq_true_iff.mp hok
      obtain rfl : len = 3 := Nat.eq_of_beq_eq_true g2
      split at hrun
      · rename_i t r1 hz
        obtain ⟨x, rfl⟩ := ez_ifc_s hz
        simp only [ez_ifc, Option.some.injEq, Prod.mk.injEq, and_true] at hz
        rcases ez_br hrun with ⟨ht, hr⟩ | ⟨ht, hr⟩
        · obtain ⟨hc, hw⟩ := hF m _ _ _ _ _ _ _ _ _ _ hm hr
          refine ⟨hc, ?_⟩
          intro D cI cJ p e R s mid args below meth co H locs lsA Q C hfr hlo hcc hkk hR hS hl hex
          have C0 := C
          obtain ⟨hx, hb, hml, hown, hts, hK, hX, hbl, hin⟩ := C
          rw [ht] at hz
          cases o
          case eq =>
            have h0 := of_decide_eq_true hz
            exact lv_if_eq hx hb hdg (of_decide_eq_true g1) (fun _ => hw D cI cJ p e R s mid args below meth co H locs lsA Q C0 hfr hlo hcc hkk hR hS (ez_lv_take cut hl) hex) (fun q => absurd h0 q)
          case ne =>
            have h0 := of_decide_eq_true hz
            exact lv_if_ne hx hb hdg (of_decide_eq_true g1) (fun _ => hw D cI cJ p e R s mid args below meth co H locs lsA Q C0 hfr hlo hcc hkk hR hS (ez_lv_take cut hl) hex) (fun q => absurd q h0)
          case lt =>
            have h0 := of_decide_eq_true hz
            exact lv_if_lt hx hb hdg (of_decide_eq_true g1) (fun _ => hw D cI cJ p e R s mid args below meth co H locs lsA Q C0 hfr hlo hcc hkk hR hS (ez_lv_take cut hl) hex) (fun q => absurd h0 q)
          case ge =>
            have h0 := of_decide_eq_true hz
            exact lv_if_ge hx hb hdg (of_decide_eq_true g1) (fun _ => hw D cI cJ p e R s mid args below meth co H locs lsA Q C0 hfr hlo hcc hkk hR hS (ez_lv_take cut hl) hex) (fun q => absurd h0 q)
          case gt =>
            have h0 := of_decide_eq_true hz
            exact lv_if_gt hx hb hdg (of_decide_eq_true g1) (fun _ => hw D cI cJ p e R s mid args below meth co H locs lsA Q C0 hfr hlo hcc hkk hR hS (ez_lv_take cut hl) hex) (fun q => absurd h0 q)
          case le =>
            have h0 := of_decide_eq_true hz
            exact lv_if_le hx hb hdg (of_decide_eq_true g1) (fun _ => hw D cI cJ p e R s mid args below meth co H locs lsA Q C0 hfr hlo hcc hkk hR hS (ez_lv_take cut hl) hex) (fun q => absurd h0 q)
        · obtain ⟨hc, hw⟩ := hF m _ _ _ _ _ _ _ _ _ _ hm hr
          refine ⟨hc, ?_⟩
          intro D cI cJ p e R s mid args below meth co H locs lsA Q C hfr hlo hcc hkk hR hS hl hex
          have C0 := C
          obtain ⟨hx, hb, hml, hown, hts, hK, hX, hbl, hin⟩ := C
          rw [ht] at hz
          cases o
          case eq =>
            have h0 := of_decide_eq_false hz
            exact lv_if_eq hx hb hdg (of_decide_eq_true g1) (fun q => absurd q h0) (fun _ => hw D cI cJ p e R s mid args below meth co H locs lsA Q C0 hfr hlo hcc hkk hR hS (ez_lv_take cut hl) hex)
          case ne =>
            have h0 := of_decide_eq_false hz
            exact lv_if_ne hx hb hdg (of_decide_eq_true g1) (fun q => absurd q h0) (fun _ => hw D cI cJ p e R s mid args below meth co H locs lsA Q C0 hfr hlo hcc hkk hR hS (ez_lv_take cut hl) hex)
          case lt =>
            have h0 := of_decide_eq_false hz
            exact lv_if_lt hx hb hdg (of_decide_eq_true g1) (fun q => absurd q h0) (fun _ => hw D cI cJ p e R s mid args below meth co H locs lsA Q C0 hfr hlo hcc hkk hR hS (ez_lv_take cut hl) hex)
          case ge =>
            have h0 := of_decide_eq_false hz
            exact lv_if_ge hx hb hdg (of_decide_eq_true g1) (fun q => absurd q h0) (fun _ => hw D cI cJ p e R s mid args below meth co H locs lsA Q C0 hfr hlo hcc hkk hR hS (ez_lv_take cut hl) hex)
          case gt =>
            have h0 := of_decide_eq_false hz
            exact lv_if_gt hx hb hdg (of_decide_eq_true g1) (fun q => absurd q h0) (fun _ => hw D cI cJ p e R s mid args below meth co H locs lsA Q C0 hfr hlo hcc hkk hR hS (ez_lv_take cut hl) hex)
          case le =>
            have h0 := of_decide_eq_false hz
            exact lv_if_le hx hb hdg (of_decide_eq_true g1) (fun q => absurd q h0) (fun _ => hw D cI cJ p e R s mid args below meth co H locs lsA Q C0 hfr hlo hcc hkk hR hS (ez_lv_take cut hl) hex)
      · cases hrun
    case tableswitch dflt lo hi offs =>
      dsimp only at hrun
      split at hrun
      · rename_i x r1
        split at hrun
        · rename_i q hz
          obtain ⟨hc, hw⟩ := hF m _ _ _ _ _ _ _ _ _ _ hm hrun
          refine ⟨hc, ?_⟩
          intro D cI cJ p e R s mid args below meth co H locs lsA Q C hfr hlo hcc hkk hR hS hl hex
          have C0 := C
          obtain ⟨hx, hb, hml, hown, hts, hK, hX, hbl, hin⟩ := C
          rcases ez_sw_s hz with ⟨z1, z2⟩ | ⟨z1, z2, off, z3, z4⟩
          · exact lv_tableOut hx hb hdg z1 z2 (hw D cI cJ p e R s mid args below meth co H locs lsA Q C0 hfr hlo hcc hkk hR hS (ez_lv_take cut hl) hex)
          · exact lv_tableIn hx hb hdg z1 z2 z3 z4 (hw D cI cJ p e R s mid args below meth co H locs lsA Q C0 hfr hlo hcc hkk hR hS (ez_lv_take cut hl) hex)
        · cases hrun
      · cases hrun
    case ireturn =>
      dsimp only at hrun
      obtain ⟨g1, g2⟩ := Bool.and_eq_true_iff.mp hok
      obtain rfl : len = 1 := Nat.eq_of_beq_eq_true g2
      split at hrun
      · rename_i v
        obtain ⟨hz, hrun⟩ := ez_bif hrun
        cases hrun
        refine ⟨⟨Nat.le_refl _, Nat.le_refl _⟩, ?_⟩
        intro D cI cJ p e R s mid args below meth co H locs lsA Q C hfr hlo hcc hkk hR hS hl hex
        have C0 := C
        obtain ⟨hx, hb, hml, hown, hts, hK, hX, hbl, hin⟩ := C
        refine hex .ireturn pc lsA H locs hdg (Or.inl ⟨rfl, v, rfl, ?_⟩) hR hS
        cases hb0' : Nat.beq b 0 with
        | true =>
          rw [hb0'] at g1
          exact Or.inl (of_decide_eq_true g1)
        | false =>
          rw [hb0'] at g1 hz
          refine Or.inr ⟨of_decide_eq_true g1, ?_⟩
          rcases Bool.or_eq_true_iff.mp hz with hz | hz
          · exact Or.inl (of_decide_eq_true hz)
          · exact Or.inr (of_decide_eq_true hz)
      · cases hrun
    case lreturn =>
      dsimp only at hrun
      obtain ⟨g1, g2⟩ := Bool.and_eq_true_iff.mp hok
      obtain rfl : len = 1 := Nat.eq_of_beq_eq_true g2
      split at hrun
      · rename_i v
        cases hrun
        refine ⟨⟨Nat.le_refl _, Nat.le_refl _⟩, ?_⟩
        intro D cI cJ p e R s mid args below meth co H locs lsA Q C hfr hlo hcc hkk hR hS hl hex
        have C0 := C
        obtain ⟨hx, hb, hml, hown, hts, hK, hX, hbl, hin⟩ := C
        exact hex .lreturn pc lsA H locs hdg (Or.inr (Or.inl ⟨rfl, v, rfl, of_decide_eq_true g1⟩)) hR hS
      · cases hrun
    case areturn =>
      dsimp only at hrun
      obtain ⟨g1, g2⟩ := Bool.and_eq_true_iff.mp hok
      obtain rfl : len = 1 := Nat.eq_of_beq_eq_true g2
      split at hrun
      · rename_i v
        cases hrun
        refine ⟨⟨Nat.le_refl _, Nat.le_refl _⟩, ?_⟩
        intro D cI cJ p e R s mid args below meth co H locs lsA Q C hfr hlo hcc hkk hR hS hl hex
        have C0 := C
        obtain ⟨hx, hb, hml, hown, hts, hK, hX, hbl, hin⟩ := C
        split at g1
        · rename_i C hret
          exact hex .areturn pc lsA H locs hdg (Or.inr (Or.inr (Or.inl ⟨rfl, v, C, rfl, hret⟩))) hR hS
        · cases g1
      · cases hrun
    case return_ =>
      dsimp only at hrun
      obtain ⟨g1, g2⟩ := Bool.and_eq_true_iff.mp hok
      obtain rfl : len = 1 := Nat.eq_of_beq_eq_true g2
      split at hrun
      · cases hrun
        refine ⟨⟨Nat.le_refl _, Nat.le_refl _⟩, ?_⟩
        intro D cI cJ p e R s mid args below meth co H locs lsA Q C hfr hlo hcc hkk hR hS hl hex
        have C0 := C
        obtain ⟨hx, hb, hml, hown, hts, hK, hX, hbl, hin⟩ := C
        exact hex .return_ pc lsA H locs hdg (Or.inr (Or.inr (Or.inr ⟨rfl, rfl, of_decide_eq_true g1⟩))) hR hS
      · cases hrun
    case new idx =>
      dsimp only at hrun
      obtain ⟨g1, hok⟩ := Bool.and_eq_true_iff.mp hok
      obtain ⟨g2, hok⟩ := Bool.and_eq_true_iff.mp hok
      obtain ⟨g3, g4⟩ := Bool.and_eq_true_iff.mp hok
      obtain rfl : len = 3 := Nat.eq_of_beq_eq_true g3
      have hbk : b = (K a).2.2 := Nat.eq_of_beq_eq_true g2
      obtain ⟨⟨hc1, hc2⟩, hw⟩ := hF m _ _ _ _ _ _ _ _ _ _ hm hrun
      refine ⟨⟨by omega, by omega⟩, ?_⟩
      intro D cI cJ p e R s mid args below meth co H locs lsA Q C hfr hlo hcc hkk hR hS hl hex
      have C0 := C
      obtain ⟨hx, hb, hml, hown, hts, hK, hX, hbl, hin⟩ := C
      obtain ⟨d1, d2, d3, d4, d5, d6, d7, d8⟩ := hC a (Nat.le_of_ble_eq_true g1)
      subst hbk
      refine ez_newrow hx hb hts d2 (ty a) (fun k hk => (d3 k hk).1) hown (hts _ (ez_w_mem g4)) (hts _ d5) (hts _ d6) hK hR hS d1 (fs := nw a) (by rw [ez_nw_mv d8]; exact d7) (by omega) (by omega) hdg fun H1 hR1 hS1 => ?_
      exact hw D cI cJ p e R s mid args below meth co H1 locs lsA Q C0 hfr hlo hcc hkk hR1 hS1 (ez_lv_take cut hl) hex
    case newarray at0 =>
      dsimp only at hrun
      split at hrun
      · rename_i n r1
        obtain ⟨hz, hrun⟩ := ez_bifN hrun
        obtain ⟨z1, z2⟩ := Bool.or_eq_false_iff.mp hz
        have z3 : n.toNatClampNeg < 1000000 := by
          rcases Nat.lt_or_ge n.toNatClampNeg 1000000 with q | q
          · exact q
          · rw [Nat.ble_eq_true_of_le q] at z2
            cases z2
        split at hrun
        · obtain ⟨g1, g2⟩ := Bool.and_eq_true_iff.mp hok
          obtain rfl : len = 2 := Nat.eq_of_beq_eq_true g2
          obtain ⟨⟨hc1, hc2⟩, hw⟩ := hF m _ _ _ _ _ _ _ _ _ _ hm hrun
          refine ⟨⟨by omega, by omega⟩, ?_⟩
          intro D cI cJ p e R s mid args below meth co H locs lsA Q C hfr hlo hcc hkk hR hS hl hex
          have C0 := C
          obtain ⟨hx, hb, hml, hown, hts, hK, hX, hbl, hin⟩ := C
          refine ez_newIrow hx hb (hts _ (ez_w_mem g1)) hK hR hS (of_decide_eq_false z1) (by omega) (by omega) (by omega) hdg fun H1 hR1 hS1 => ?_
          exact hw D cI cJ p e R s mid args below meth co H1 locs lsA Q C0 hfr hlo hcc hkk hR1 hS1 (ez_lv_take cut hl) hex
        · obtain ⟨g1, g2⟩ := Bool.and_eq_true_iff.mp hok
          obtain rfl : len = 2 := Nat.eq_of_beq_eq_true g2
          obtain ⟨⟨hc1, hc2⟩, hw⟩ := hF m _ _ _ _ _ _ _ _ _ _ hm hrun
          refine ⟨⟨by omega, by omega⟩, ?_⟩
          intro D cI cJ p e R s mid args below meth co H locs lsA Q C hfr hlo hcc hkk hR hS hl hex
          have C0 := C
          obtain ⟨hx, hb, hml, hown, hts, hK, hX, hbl, hin⟩ := C
          refine ez_newJrow hx hb (hts _ (ez_w_mem g1)) hK hR hS (of_decide_eq_false z1) (by omega) (by omega) (by omega) hdg fun H1 hR1 hS1 => ?_
          exact hw D cI cJ p e R s mid args below meth co H1 locs lsA Q C0 hfr hlo hcc hkk hR1 hS1 (ez_lv_take cut hl) hex
        · cases hrun
      · cases hrun
    case invokevirtual idx =>
      dsimp only at hrun
      obtain ⟨g0, hok⟩ := Bool.and_eq_true_iff.mp hok
      obtain rfl : len = 3 := Nat.eq_of_beq_eq_true g0
      obtain ⟨g4, hok⟩ := Bool.and_eq_true_iff.mp hok
      obtain ⟨g5, hok⟩ := Bool.and_eq_true_iff.mp hok
      obtain ⟨g6, hok⟩ := Bool.and_eq_true_iff.mp hok
      obtain ⟨g7, hok⟩ := Bool.and_eq_true_iff.mp hok
      obtain ⟨g8, hok⟩ := Bool.and_eq_true_iff.mp hok
      have g4 : a < nM := Nat.le_of_ble_eq_true g4
      have g5 : ez_md M a < ez_md M m := Nat.le_of_ble_eq_true g5
      have g6 : 19 + ez_mL M a + ez_ml M a ≤ ez_ml M m := Nat.le_of_ble_eq_true g6
      have g7 := Nat.eq_of_beq_eq_true g7
      have g8 := Nat.eq_of_beq_eq_true g8
      obtain ⟨g9, hok⟩ := Bool.and_eq_true_iff.mp hok
      obtain ⟨g10, hok⟩ := Bool.and_eq_true_iff.mp hok
      have g9 : d < nK := Nat.le_of_ble_eq_true g9
      have g10 := of_decide_eq_true g10
      obtain ⟨hz, hrun⟩ := ez_bif hrun
      obtain ⟨r1, h1, c1, k1, y1, y2, y3, y4, y5, y6, y7⟩ := ez_go_ok hF hm hrun
      obtain ⟨-, hw⟩ := hF m _ _ _ _ _ _ _ _ _ _ hm y5
      refine ⟨⟨by omega, by omega⟩, ?_⟩
      intro D cI cJ p e R s mid args below meth co H locs lsA Q C hfr hlo hcc hkk hR hS hl hex
      have C0 := C
      obtain ⟨hx, hb, hml, hown, hts, hK, hX, hbl, hin⟩ := C
      obtain ⟨q, bs, fs, hq1, hq2⟩ := ez_isO_s (q := 0) hz
      have hst := ez_stk (S0 := S0) (b0 := b0) hq1
      rw [hq1] at y3 y4
      have hmet := ez_met hg D cI cJ hb0 hF (Nat.le_of_lt g4) (hM a g4) y4 y3
      obtain ⟨m1, m2, m3, m4, m5, m6, m7⟩ := hM a g4
      have hroom : (ez_rm M a c1 k1).frames + 1 ≤ R.frames ∧ 8 + (ez_mL M a + 11) + (ez_rm M a c1 k1).locals ≤ R.locals := ⟨by show ez_md M a + 1 ≤ _; omega, by show _ + ez_ml M a ≤ _; omega⟩
      have hlen : (bs.map (ez_mv S0 b0)).length = ez_mn M a := by
        have h9 := congrArg List.length hq1
        rw [List.length_reverse, List.length_take, Nat.min_eq_left y1] at h9
        rw [List.length_map]
        simp only [List.length_cons] at h9
        omega
      have hst2 : st.map (ez_mv S0 b0) = (bs.map (ez_mv S0 b0)).reverse ++ .ref (S0 + q) :: (st.drop b).map (ez_mv S0 b0) := by
        rw [hst]
        show (.ref (S0 + q) :: bs.map (ez_mv S0 b0)).reverse ++ _ = _
        simp
      have hrecv := va_recv hK hR.2 (hC d g9).1 (ez_ws_at hq2)
      rw [g10] at hrecv
      have hrest : 2 * (F0 mid pc lsA (st.map (ez_mv S0 b0))).monitorRoom + (((st.drop b).map (ez_mv S0 b0)).map fun v => v.category).sum ≤ 8 := lv_room (by rw [ez_cats_sum]; exact y2)
      have hpre : PreV s H (ez_my M a).cls (S0 + q) (ez_Pc tbl D cl S0 b0 cI cJ X (.ref q :: bs) h) (bs.map (ez_mv S0 b0)) := ⟨ez_blind, hrecv, fun U hU hW => ⟨rfl, by rw [hU]; exact hR, va_K.moved hW.alike hK, ez_X_kept hX hb0 hbl hS hU hW, ez_Nw.warm hW (ez_Nw.of hts)⟩⟩
      rcases Bool.or_eq_true_iff.mp hok with hwd | hwd
      · have cw : CallW R s args (ez_my M m).cls (ez_my M a).cls _ (ez_my M a) (ez_mb M a) (ez_mL M a) (ez_mr M a) (ez_wsm tbl M a) (ez_rm M a c1 k1) c1 k1 (ez_mn M a) := ⟨callB_of (ez_mn M a) hts (ez_good hg (hM a g4)) rfl rfl rfl (hts _ m4) (hts _ (ez_w_mem hwd)) m2 hroom, hts _ (m6 g8).1, hts _ (m6 g8).2⟩
        refine ez_back (rest := (st.drop b).map (ez_mv S0 b0)) (r := r1) (h' := h1) (va_runV (nL := ez_mL M m) ⟨hx, hb, hml, hown, hts⟩ hmet cw hpre rfl hlen hl.1 hst2 hrest hdg ⟨by omega, by omega⟩) hS fun H1 locs1 hR1 hS1 => ?_
        have hw := hw D cI cJ p e R s mid args below meth co H1 locs1 lsA Q C0 hfr hlo hcc hkk hR1 hS1 (ez_lv_take cut hl) hex
        rw [List.map_append] at hw
        have e1 : r1.toList.map (ez_mv S0 b0) = (r1.map (ez_mv S0 b0)).toList := by cases r1 <;> rfl
        rw [e1] at hw
        exact hw
      · have cw : va_CN R s args (ez_my M m).cls _ (ez_my M a) ez_host (ez_mb M a) (ez_mL M a) (ez_mr M a) (ez_wsm tbl M a) (ez_rm M a c1 k1) c1 k1 (ez_mn M a) := va_cnB (ez_mn M a) hts (ez_good hg (hM a g4)) rfl rfl rfl (va_Nw.of rfl (hts _ (ez_w_mem hwd))) (hts _ m4) m2 hroom
        refine ez_back (rest := (st.drop b).map (ez_mv S0 b0)) (r := r1) (h' := h1) (va_runVN (nL := ez_mL M m) ⟨hx, hb, hml, hown, hts⟩ hmet ⟨cw, hts _ (m6 g8).1, hts _ (m6 g8).2⟩ hpre rfl hlen hl.1 hst2 hrest hdg ⟨by omega, by omega⟩) hS fun H1 locs1 hR1 hS1 => ?_
        have hw := hw D cI cJ p e R s mid args below meth co H1 locs1 lsA Q C0 hfr hlo hcc hkk hR1 hS1 (ez_lv_take cut hl) hex
        rw [List.map_append] at hw
        have e1 : r1.toList.map (ez_mv S0 b0) = (r1.map (ez_mv S0 b0)).toList := by cases r1 <;> rfl
        rw [e1] at hw
        exact hw
    case invokestatic idx =>
      dsimp only at hrun
      obtain ⟨g0, hok2⟩ := Bool.and_eq_true_iff.mp hok
      clear hok
      obtain rfl : len = 3 := Nat.eq_of_beq_eq_true g0
      cases ha1 : Nat.beq a 901 with
      | true =>
        simp only [ha1, cond_true] at hok2 hrun
        split at hrun
        · rename_i y x r1
          obtain ⟨hz, hrun⟩ := ez_bif hrun
          obtain ⟨hc, hw⟩ := hF m _ _ _ _ _ _ _ _ _ _ hm hrun
          refine ⟨hc, ?_⟩
          intro D cI cJ p e R s mid args below meth co H locs lsA Q C hfr hlo hcc hkk hR hS hl hex
          have C0 := C
          obtain ⟨hx, hb, hml, hown, hts, hK, hX, hbl, hin⟩ := C
          obtain ⟨g1, hok2⟩ := Bool.and_eq_true_iff.mp hok2
          obtain ⟨g2, g3⟩ := Bool.and_eq_true_iff.mp hok2
          have g1 := Nat.le_of_ble_eq_true g1
          have g2 := Nat.le_of_ble_eq_true g2
          have hz := Nat.le_of_ble_eq_true hz
          exact va_mmax hx hb (hml.trans hl.1.symm) hown (hts _ (ez_w_mem g3)) (hts _ hmax.1) (hts _ hmax.2.1) (hts _ hmax.2.2) (by omega) (by rw [ez_cats_sum]; omega) (by omega) (by omega) hdg (hw D cI cJ p e R s mid args below meth co H locs lsA Q C0 hfr hlo hcc hkk hR hS (ez_lv_take cut hl) hex)
        · cases hrun
      | false =>
      cases ha2 : Nat.beq a 902 with
      | true =>
        simp only [ha1, ha2, cond_true, cond_false] at hok2 hrun
        split at hrun
        · rename_i y x r1
          obtain ⟨hz, hrun⟩ := ez_bif hrun
          obtain ⟨hc, hw⟩ := hF m _ _ _ _ _ _ _ _ _ _ hm hrun
          refine ⟨hc, ?_⟩
          intro D cI cJ p e R s mid args below meth co H locs lsA Q C hfr hlo hcc hkk hR hS hl hex
          have C0 := C
          obtain ⟨hx, hb, hml, hown, hts, hK, hX, hbl, hin⟩ := C
          obtain ⟨g1, hok2⟩ := Bool.and_eq_true_iff.mp hok2
          obtain ⟨g2, g3⟩ := Bool.and_eq_true_iff.mp hok2
          have g1 := Nat.le_of_ble_eq_true g1
          have g2 := Nat.le_of_ble_eq_true g2
          have hz := Nat.le_of_ble_eq_true hz
          exact va_mmin hx hb (hml.trans hl.1.symm) hown (hts _ (ez_w_mem g3)) (hts _ hmin.1) (hts _ hmax.2.1) (hts _ hmin.2) (by omega) (by rw [ez_cats_sum]; omega) (by omega) (by omega) hdg (hw D cI cJ p e R s mid args below meth co H locs lsA Q C0 hfr hlo hcc hkk hR hS (ez_lv_take cut hl) hex)
        · cases hrun
      | false =>
      simp only [ha1, ha2, cond_false] at hok2 hrun
      obtain ⟨g4, hok2⟩ := Bool.and_eq_true_iff.mp hok2
      obtain ⟨g5, hok2⟩ := Bool.and_eq_true_iff.mp hok2
      obtain ⟨g6, hok2⟩ := Bool.and_eq_true_iff.mp hok2
      obtain ⟨g7, hok2⟩ := Bool.and_eq_true_iff.mp hok2
      obtain ⟨g8, hok2⟩ := Bool.and_eq_true_iff.mp hok2
      have g4 : a < nM := Nat.le_of_ble_eq_true g4
      have g5 : ez_md M a < ez_md M m := Nat.le_of_ble_eq_true g5
      have g6 : 19 + ez_mL M a + ez_ml M a ≤ ez_ml M m := Nat.le_of_ble_eq_true g6
      have g7 := Nat.eq_of_beq_eq_true g7
      have g8 := Nat.eq_of_beq_eq_true g8
      obtain ⟨r1, h1, c1, k1, y1, y2, y3, y4, y5, y6, y7⟩ := ez_go_ok hF hm hrun
      obtain ⟨-, hw⟩ := hF m _ _ _ _ _ _ _ _ _ _ hm y5
      refine ⟨⟨by omega, by omega⟩, ?_⟩
      intro D cI cJ p e R s mid args below meth co H locs lsA Q C hfr hlo hcc hkk hR hS hl hex
      have C0 := C
      obtain ⟨hx, hb, hml, hown, hts, hK, hX, hbl, hin⟩ := C
      obtain ⟨bs, hq1⟩ : ∃ bs, (st.take b).reverse = bs := ⟨_, rfl⟩
      have hst := ez_stk (S0 := S0) (b0 := b0) hq1
      rw [hq1] at y3 y4
      have hmet := ez_met hg D cI cJ hb0 hF (Nat.le_of_lt g4) (hM a g4) y4 y3
      obtain ⟨m1, m2, m3, m4, m5, m6, m7⟩ := hM a g4
      have hroom : (ez_rm M a c1 k1).frames + 1 ≤ R.frames ∧ 8 + (ez_mL M a + 11) + (ez_rm M a c1 k1).locals ≤ R.locals := ⟨by show ez_md M a + 1 ≤ _; omega, by show _ + ez_ml M a ≤ _; omega⟩
      have hlen : (bs.map (ez_mv S0 b0)).length = ez_mn M a := by
        have h9 := congrArg List.length hq1
        rw [List.length_reverse, List.length_take, Nat.min_eq_left y1] at h9
        rw [List.length_map]
        omega
      have hrest : 2 * (F0 mid pc lsA (st.map (ez_mv S0 b0))).monitorRoom + (((st.drop b).map (ez_mv S0 b0)).map fun v => v.category).sum ≤ 8 := lv_room (by rw [ez_cats_sum]; exact y2)
      have hpre : PreS s H (ez_Pc tbl D cl S0 b0 cI cJ X bs h) (bs.map (ez_mv S0 b0)) := ⟨ez_blind, fun U hU hW => ⟨rfl, by rw [hU]; exact hR, va_K.moved hW.alike hK, ez_X_kept hX hb0 hbl hS hU hW, ez_Nw.warm hW (ez_Nw.of hts)⟩⟩
      rcases Bool.or_eq_true_iff.mp hok2 with hwd | hwd
      · have cw : CallB R s args (ez_my M m).cls _ (ez_my M a) (ez_mb M a) (ez_mL M a) (ez_mr M a) (ez_wsm tbl M a) (ez_rm M a c1 k1) c1 k1 (ez_mn M a) := callB_of (ez_mn M a) hts (ez_good hg (hM a g4)) rfl rfl rfl (hts _ m4) (hts _ (ez_w_mem hwd)) m2 hroom
        refine ez_back (rest := (st.drop b).map (ez_mv S0 b0)) (r := r1) (h' := h1) (va_runS (nL := ez_mL M m) ⟨hx, hb, hml, hown, hts⟩ hmet ⟨cw, hts _ (m5 g8)⟩ hpre rfl hlen hl.1 hst hrest hdg ⟨by omega, by omega⟩) hS fun H1 locs1 hR1 hS1 => ?_
        have hw := hw D cI cJ p e R s mid args below meth co H1 locs1 lsA Q C0 hfr hlo hcc hkk hR1 hS1 (ez_lv_take cut hl) hex
        rw [List.map_append] at hw
        have e1 : r1.toList.map (ez_mv S0 b0) = (r1.map (ez_mv S0 b0)).toList := by cases r1 <;> rfl
        rw [e1] at hw
        exact hw
      · have cw : va_CN R s args (ez_my M m).cls _ (ez_my M a) ez_host (ez_mb M a) (ez_mL M a) (ez_mr M a) (ez_wsm tbl M a) (ez_rm M a c1 k1) c1 k1 (ez_mn M a) := va_cnB (ez_mn M a) hts (ez_good hg (hM a g4)) rfl rfl rfl (va_Nw.of rfl (hts _ (ez_w_mem hwd))) (hts _ m4) m2 hroom
        refine ez_back (rest := (st.drop b).map (ez_mv S0 b0)) (r := r1) (h' := h1) (va_runSN (nL := ez_mL M m) ⟨hx, hb, hml, hown, hts⟩ hmet ⟨cw, hts _ (m5 g8), trivial⟩ hpre rfl hlen hl.1 hst hrest hdg ⟨by omega, by omega⟩) hS fun H1 locs1 hR1 hS1 => ?_
        have hw := hw D cI cJ p e R s mid args below meth co H1 locs1 lsA Q C0 hfr hlo hcc hkk hR1 hS1 (ez_lv_take cut hl) hex
        rw [List.map_append] at hw
        have e1 : r1.toList.map (ez_mv S0 b0) = (r1.map (ez_mv S0 b0)).toList := by cases r1 <;> rfl
        rw [e1] at hw
        exact hw
    case invokespecial idx =>
      dsimp only at hrun
      obtain ⟨g0, hok2⟩ := Bool.and_eq_true_iff.mp hok
      clear hok
      obtain rfl : len = 3 := Nat.eq_of_beq_eq_true g0
      cases ha1 : Nat.beq a 900 with
      | true =>
        simp only [ha1, cond_true] at hok2 hrun
        split at hrun
        · rename_i q r1
          obtain ⟨hz, hrun⟩ := ez_bif hrun
          obtain ⟨hc, hw⟩ := hF m _ _ _ _ _ _ _ _ _ _ hm hrun
          refine ⟨hc, ?_⟩
          intro D cI cJ p e R s mid args below meth co H locs lsA Q C hfr hlo hcc hkk hR hS hl hex
          have C0 := C
          obtain ⟨hx, hb, hml, hown, hts, hK, hX, hbl, hin⟩ := C
          obtain ⟨g1, hok2⟩ := Bool.and_eq_true_iff.mp hok2
          obtain ⟨g2, g3⟩ := Bool.and_eq_true_iff.mp hok2
          have g1 := Nat.le_of_ble_eq_true g1
          have g2 := Nat.le_of_ble_eq_true g2
          have hz := Nat.le_of_ble_eq_true hz
          have hrest : 2 * (F0 mid pc lsA ((Value.ref q :: r1).map (ez_mv S0 b0))).monitorRoom + ((r1.map (ez_mv S0 b0)).map fun v => v.category).sum ≤ 8 := lv_room (by rw [ez_cats_sum]; exact hz)
          exact W.objInit hx hb hown (hts _ (ez_w_mem g3)) (hts _ hobj.1) (hts _ hobj.2) rfl (hl.1.trans hml.symm) rfl hdg (by omega) (by omega) (hw D cI cJ p e R s mid args below meth co H locs lsA Q C0 hfr hlo hcc hkk hR hS (ez_lv_take cut hl) hex)
        · cases hrun
      | false =>
      simp only [ha1, cond_false] at hok2 hrun
      obtain ⟨g4, hok2⟩ := Bool.and_eq_true_iff.mp hok2
      obtain ⟨g5, hok2⟩ := Bool.and_eq_true_iff.mp hok2
      obtain ⟨g6, hok2⟩ := Bool.and_eq_true_iff.mp hok2
      obtain ⟨g7, hok2⟩ := Bool.and_eq_true_iff.mp hok2
      obtain ⟨g8, hok2⟩ := Bool.and_eq_true_iff.mp hok2
      have g4 : a < nM := Nat.le_of_ble_eq_true g4
      have g5 : ez_md M a < ez_md M m := Nat.le_of_ble_eq_true g5
      have g6 : 19 + ez_mL M a + ez_ml M a ≤ ez_ml M m := Nat.le_of_ble_eq_true g6
      have g7 := Nat.eq_of_beq_eq_true g7
      have g8 := Nat.eq_of_beq_eq_true g8
      obtain ⟨hz, hrun⟩ := ez_bif hrun
      obtain ⟨r1, h1, c1, k1, y1, y2, y3, y4, y5, y6, y7⟩ := ez_go_ok hF hm hrun
      obtain ⟨-, hw⟩ := hF m _ _ _ _ _ _ _ _ _ _ hm y5
      refine ⟨⟨by omega, by omega⟩, ?_⟩
      intro D cI cJ p e R s mid args below meth co H locs lsA Q C hfr hlo hcc hkk hR hS hl hex
      have C0 := C
      obtain ⟨hx, hb, hml, hown, hts, hK, hX, hbl, hin⟩ := C
      obtain ⟨q, bs, hq1⟩ := ez_isR_s hz
      have hst := ez_stk (S0 := S0) (b0 := b0) hq1
      rw [hq1] at y3 y4
      have hmet := ez_met hg D cI cJ hb0 hF (Nat.le_of_lt g4) (hM a g4) y4 y3
      obtain ⟨m1, m2, m3, m4, m5, m6, m7⟩ := hM a g4
      have hroom : (ez_rm M a c1 k1).frames + 1 ≤ R.frames ∧ 8 + (ez_mL M a + 11) + (ez_rm M a c1 k1).locals ≤ R.locals := ⟨by show ez_md M a + 1 ≤ _; omega, by show _ + ez_ml M a ≤ _; omega⟩
      have hlen : (bs.map (ez_mv S0 b0)).length = ez_mn M a := by
        have h9 := congrArg List.length hq1
        rw [List.length_reverse, List.length_take, Nat.min_eq_left y1] at h9
        rw [List.length_map]
        simp only [List.length_cons] at h9
        omega
      have hst2 : st.map (ez_mv S0 b0) = (bs.map (ez_mv S0 b0)).reverse ++ .ref (S0 + q) :: (st.drop b).map (ez_mv S0 b0) := by
        rw [hst]
        show (.ref (S0 + q) :: bs.map (ez_mv S0 b0)).reverse ++ _ = _
        simp
      have hrest : 2 * (F0 mid pc lsA (st.map (ez_mv S0 b0))).monitorRoom + (((st.drop b).map (ez_mv S0 b0)).map fun v => v.category).sum ≤ 8 := lv_room (by rw [ez_cats_sum]; exact y2)
      have hpre : PreS s H (ez_Pc tbl D cl S0 b0 cI cJ X (.ref q :: bs) h) (.ref (S0 + q) :: bs.map (ez_mv S0 b0)) := ⟨ez_blind, fun U hU hW => ⟨rfl, by rw [hU]; exact hR, va_K.moved hW.alike hK, ez_X_kept hX hb0 hbl hS hU hW, ez_Nw.warm hW (ez_Nw.of hts)⟩⟩
      have cw : CallB R s args (ez_my M m).cls _ (ez_my M a) (ez_mb M a) (ez_mL M a) none (ez_wsm tbl M a) (ez_rm M a c1 k1) c1 k1 (ez_mn M a) := callB_of (ws' := ez_tb.filter goodWord) (ez_mn M a) hts (ez_good hg (hM a g4)) (by unfold ez_wsm; rw [(m7 g8).2.2]) rfl rfl (hts _ m4) (hts _ (ez_w_mem hok2)) m2 hroom
      refine ez_back (rest := (st.drop b).map (ez_mv S0 b0)) (r := r1) (h' := h1) (va_runI (nL := ez_mL M m) ⟨hx, hb, hml, hown, hts⟩ hmet ⟨cw, (m7 g8).2.1, hts _ (m7 g8).1⟩ hpre rfl hlen hl.1 hst2 hrest hdg ⟨by omega, by omega⟩) hS fun H1 locs1 hR1 hS1 => ?_
      have hw := hw D cI cJ p e R s mid args below meth co H1 locs1 lsA Q C0 hfr hlo hcc hkk hR1 hS1 (ez_lv_take cut hl) hex
      rw [List.map_append] at hw
      have e1 : r1.toList.map (ez_mv S0 b0) = (r1.map (ez_mv S0 b0)).toList := by cases r1 <;> rfl
      rw [e1] at hw
      exact hw
    all_goals
      dsimp only at hrun
      split at hrun
      · rename_i ls1 st1 h1 hz
        obtain ⟨hc, hw⟩ := hF m _ _ _ _ _ _ _ _ _ _ hm hrun
        refine ⟨hc, ?_⟩
        intro D cI cJ p e R s mid args below meth co H locs lsA Q C hfr hlo hcc hkk hR hS hl hex
        have C0 := C
        obtain ⟨hx, hb, hml, hown, hts, hK, hX, hbl, hin⟩ := C
        exact ez_b_ok hC C0 hb0 hz hdg hok hR hS (ez_lv_take cut hl) fun H1 locs1 lsB hR1 hS1 hB => hw D cI cJ p e R s mid args below meth co H1 locs1 lsB Q C0 hfr hlo hcc hkk hR1 hS1 hB hex
      · cases hrun
end EZM
end
