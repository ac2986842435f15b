-- ===== PART A: goes FIRST, ahead of the names: the tables' words, and 'selects' of the private methods out of them =====
/-- a private method of a class that the tables say can be made, by its rows of tables_1 -/
def lw_okq (q : MethodName × Nat) : Prop := (q.1.cls ≠ "java/lang/invoke/MethodHandle" ∧ q.1.cls ≠ "java/lang/invoke/VarHandle") ∧ Cond.instantiable q.1.cls q.2 ∈ tables_1 ∧ Cond.privateMethod q.1 ∈ tables_1 ∧ Cond.instanceMethod q.1 ∈ tables_1
theorem lw_p0 : lw_okq (⟨"OnTheRoof", "shelfAt", "(I)LOnTheRoof$Shelf;"⟩, 9) := ⟨⟨by decide +kernel, by decide +kernel⟩, List.mem_of_getElem? (i := 17) (by decide +kernel), List.mem_of_getElem? (i := 206) (by decide +kernel), List.mem_of_getElem? (i := 207) (by decide +kernel)⟩
theorem lw_p1 : lw_okq (⟨"OnTheRoof", "refuse", "(I)I"⟩, 9) := ⟨⟨by decide +kernel, by decide +kernel⟩, List.mem_of_getElem? (i := 17) (by decide +kernel), List.mem_of_getElem? (i := 213) (by decide +kernel), List.mem_of_getElem? (i := 214) (by decide +kernel)⟩
theorem lw_p2 : lw_okq (⟨"OnTheRoof$Shelf", "keptOf", "(J)J"⟩, 3) := ⟨⟨by decide +kernel, by decide +kernel⟩, List.mem_of_getElem? (i := 156) (by decide +kernel), List.mem_of_getElem? (i := 243) (by decide +kernel), List.mem_of_getElem? (i := 244) (by decide +kernel)⟩
theorem lw_p3 : lw_okq (⟨"OnTheRoof", "isBendOrNone", "(I)Z"⟩, 9) := ⟨⟨by decide +kernel, by decide +kernel⟩, List.mem_of_getElem? (i := 17) (by decide +kernel), List.mem_of_getElem? (i := 283) (by decide +kernel), List.mem_of_getElem? (i := 284) (by decide +kernel)⟩
theorem lw_p4 : lw_okq (⟨"OnTheRoof$Table", "cellOf", "(II)I"⟩, 3) := ⟨⟨by decide +kernel, by decide +kernel⟩, List.mem_of_getElem? (i := 31) (by decide +kernel), List.mem_of_getElem? (i := 308) (by decide +kernel), List.mem_of_getElem? (i := 309) (by decide +kernel)⟩
theorem lw_p5 : lw_okq (⟨"OnTheRoof$Road", "fallBy", "(IIII)I"⟩, 8) := ⟨⟨by decide +kernel, by decide +kernel⟩, List.mem_of_getElem? (i := 25) (by decide +kernel), List.mem_of_getElem? (i := 319) (by decide +kernel), List.mem_of_getElem? (i := 320) (by decide +kernel)⟩
theorem lw_p6 : lw_okq (⟨"OnTheRoof", "isSign", "(II)Z"⟩, 9) := ⟨⟨by decide +kernel, by decide +kernel⟩, List.mem_of_getElem? (i := 17) (by decide +kernel), List.mem_of_getElem? (i := 372) (by decide +kernel), List.mem_of_getElem? (i := 373) (by decide +kernel)⟩
theorem lw_p7 : lw_okq (⟨"OnTheRoof$Tape", "step", "()V"⟩, 6) := ⟨⟨by decide +kernel, by decide +kernel⟩, List.mem_of_getElem? (i := 129) (by decide +kernel), List.mem_of_getElem? (i := 422) (by decide +kernel), List.mem_of_getElem? (i := 423) (by decide +kernel)⟩
theorem lw_p8 : lw_okq (⟨"OnTheRoof$Tape", "byteAt", "(I)I"⟩, 6) := ⟨⟨by decide +kernel, by decide +kernel⟩, List.mem_of_getElem? (i := 129) (by decide +kernel), List.mem_of_getElem? (i := 426) (by decide +kernel), List.mem_of_getElem? (i := 427) (by decide +kernel)⟩
theorem lw_p9 : lw_okq (⟨"OnTheRoof$Tape", "readStatement", "(LOnTheRoof$Road;)Z"⟩, 6) := ⟨⟨by decide +kernel, by decide +kernel⟩, List.mem_of_getElem? (i := 129) (by decide +kernel), List.mem_of_getElem? (i := 433) (by decide +kernel), List.mem_of_getElem? (i := 434) (by decide +kernel)⟩
theorem lw_p10 : lw_okq (⟨"OnTheRoof$Tape", "statementOf", "()I"⟩, 6) := ⟨⟨by decide +kernel, by decide +kernel⟩, List.mem_of_getElem? (i := 129) (by decide +kernel), List.mem_of_getElem? (i := 437) (by decide +kernel), List.mem_of_getElem? (i := 438) (by decide +kernel)⟩
theorem lw_p11 : lw_okq (⟨"OnTheRoof$Tape", "isWord", "(Ljava/lang/String;)Z"⟩, 6) := ⟨⟨by decide +kernel, by decide +kernel⟩, List.mem_of_getElem? (i := 129) (by decide +kernel), List.mem_of_getElem? (i := 442) (by decide +kernel), List.mem_of_getElem? (i := 443) (by decide +kernel)⟩
theorem lw_p12 : lw_okq (⟨"OnTheRoof$Tape", "valueOf", "()I"⟩, 6) := ⟨⟨by decide +kernel, by decide +kernel⟩, List.mem_of_getElem? (i := 129) (by decide +kernel), List.mem_of_getElem? (i := 511) (by decide +kernel), List.mem_of_getElem? (i := 512) (by decide +kernel)⟩
theorem lw_p13 : lw_okq (⟨"OnTheRoof$Tape", "carryOut", "(LOnTheRoof$Road;I)V"⟩, 6) := ⟨⟨by decide +kernel, by decide +kernel⟩, List.mem_of_getElem? (i := 129) (by decide +kernel), List.mem_of_getElem? (i := 516) (by decide +kernel), List.mem_of_getElem? (i := 517) (by decide +kernel)⟩
theorem lw_p14 : lw_okq (⟨"OnTheRoof", "thousandthsOfAll", "(I)I"⟩, 9) := ⟨⟨by decide +kernel, by decide +kernel⟩, List.mem_of_getElem? (i := 17) (by decide +kernel), List.mem_of_getElem? (i := 596) (by decide +kernel), List.mem_of_getElem? (i := 597) (by decide +kernel)⟩
theorem lw_p15 : lw_okq (⟨"OnTheRoof", "isLookAt", "(II)Z"⟩, 9) := ⟨⟨by decide +kernel, by decide +kernel⟩, List.mem_of_getElem? (i := 17) (by decide +kernel), List.mem_of_getElem? (i := 670) (by decide +kernel), List.mem_of_getElem? (i := 671) (by decide +kernel)⟩
def lw_privs_1 : List (MethodName × Nat) := [(⟨"OnTheRoof", "shelfAt", "(I)LOnTheRoof$Shelf;"⟩, 9), (⟨"OnTheRoof", "refuse", "(I)I"⟩, 9), (⟨"OnTheRoof$Shelf", "keptOf", "(J)J"⟩, 3), (⟨"OnTheRoof", "isBendOrNone", "(I)Z"⟩, 9), (⟨"OnTheRoof$Table", "cellOf", "(II)I"⟩, 3), (⟨"OnTheRoof$Road", "fallBy", "(IIII)I"⟩, 8), (⟨"OnTheRoof", "isSign", "(II)Z"⟩, 9), (⟨"OnTheRoof$Tape", "step", "()V"⟩, 6), (⟨"OnTheRoof$Tape", "byteAt", "(I)I"⟩, 6), (⟨"OnTheRoof$Tape", "readStatement", "(LOnTheRoof$Road;)Z"⟩, 6), (⟨"OnTheRoof$Tape", "statementOf", "()I"⟩, 6), (⟨"OnTheRoof$Tape", "isWord", "(Ljava/lang/String;)Z"⟩, 6), (⟨"OnTheRoof$Tape", "valueOf", "()I"⟩, 6), (⟨"OnTheRoof$Tape", "carryOut", "(LOnTheRoof$Road;I)V"⟩, 6), (⟨"OnTheRoof", "thousandthsOfAll", "(I)I"⟩, 9), (⟨"OnTheRoof", "isLookAt", "(II)Z"⟩, 9)]
theorem lw_r1 : ∀ q ∈ lw_privs_1, lw_okq q := List.forall_mem_cons.mpr ⟨lw_p0, List.forall_mem_cons.mpr ⟨lw_p1, List.forall_mem_cons.mpr ⟨lw_p2, List.forall_mem_cons.mpr ⟨lw_p3, List.forall_mem_cons.mpr ⟨lw_p4, List.forall_mem_cons.mpr ⟨lw_p5, List.forall_mem_cons.mpr ⟨lw_p6, List.forall_mem_cons.mpr ⟨lw_p7, List.forall_mem_cons.mpr ⟨lw_p8, List.forall_mem_cons.mpr ⟨lw_p9, List.forall_mem_cons.mpr ⟨lw_p10, List.forall_mem_cons.mpr ⟨lw_p11, List.forall_mem_cons.mpr ⟨lw_p12, List.forall_mem_cons.mpr ⟨lw_p13, List.forall_mem_cons.mpr ⟨lw_p14, List.forall_mem_cons.mpr ⟨lw_p15, fun _ h => absurd h List.not_mem_nil⟩⟩⟩⟩⟩⟩⟩⟩⟩⟩⟩⟩⟩⟩⟩⟩
theorem lw_p16 : lw_okq (⟨"OnTheRoof$Plan", "chooseLook", "(II)V"⟩, 4) := ⟨⟨by decide +kernel, by decide +kernel⟩, List.mem_of_getElem? (i := 110) (by decide +kernel), List.mem_of_getElem? (i := 701) (by decide +kernel), List.mem_of_getElem? (i := 702) (by decide +kernel)⟩
theorem lw_p17 : lw_okq (⟨"OnTheRoof$Weights", "rateOf", "(LOnTheRoof$Road;II)J"⟩, 4) := ⟨⟨by decide +kernel, by decide +kernel⟩, List.mem_of_getElem? (i := 90) (by decide +kernel), List.mem_of_getElem? (i := 721) (by decide +kernel), List.mem_of_getElem? (i := 722) (by decide +kernel)⟩
theorem lw_p18 : lw_okq (⟨"OnTheRoof", "heldNow", "()I"⟩, 9) := ⟨⟨by decide +kernel, by decide +kernel⟩, List.mem_of_getElem? (i := 17) (by decide +kernel), List.mem_of_getElem? (i := 800) (by decide +kernel), List.mem_of_getElem? (i := 801) (by decide +kernel)⟩
theorem lw_p19 : lw_okq (⟨"OnTheRoof", "heardBy", "(I)I"⟩, 9) := ⟨⟨by decide +kernel, by decide +kernel⟩, List.mem_of_getElem? (i := 17) (by decide +kernel), List.mem_of_getElem? (i := 821) (by decide +kernel), List.mem_of_getElem? (i := 822) (by decide +kernel)⟩
theorem lw_p20 : lw_okq (⟨"OnTheRoof", "minutesOf", "(I)I"⟩, 9) := ⟨⟨by decide +kernel, by decide +kernel⟩, List.mem_of_getElem? (i := 17) (by decide +kernel), List.mem_of_getElem? (i := 830) (by decide +kernel), List.mem_of_getElem? (i := 831) (by decide +kernel)⟩
theorem lw_p21 : lw_okq (⟨"OnTheRoof", "heardBySet", "(I)I"⟩, 9) := ⟨⟨by decide +kernel, by decide +kernel⟩, List.mem_of_getElem? (i := 17) (by decide +kernel), List.mem_of_getElem? (i := 835) (by decide +kernel), List.mem_of_getElem? (i := 836) (by decide +kernel)⟩
theorem lw_p22 : lw_okq (⟨"OnTheRoof", "wrongPiece", "(LOnTheRoof$Shelf;I)I"⟩, 9) := ⟨⟨by decide +kernel, by decide +kernel⟩, List.mem_of_getElem? (i := 17) (by decide +kernel), List.mem_of_getElem? (i := 849) (by decide +kernel), List.mem_of_getElem? (i := 850) (by decide +kernel)⟩
theorem lw_p23 : lw_okq (⟨"OnTheRoof", "isToldLook", "(J)Z"⟩, 9) := ⟨⟨by decide +kernel, by decide +kernel⟩, List.mem_of_getElem? (i := 17) (by decide +kernel), List.mem_of_getElem? (i := 861) (by decide +kernel), List.mem_of_getElem? (i := 862) (by decide +kernel)⟩
theorem lw_p24 : lw_okq (⟨"OnTheRoof$Road", "draw", "(I)I"⟩, 8) := ⟨⟨by decide +kernel, by decide +kernel⟩, List.mem_of_getElem? (i := 25) (by decide +kernel), List.mem_of_getElem? (i := 880) (by decide +kernel), List.mem_of_getElem? (i := 881) (by decide +kernel)⟩
theorem lw_p25 : lw_okq (⟨"OnTheRoof", "refused", "(I)I"⟩, 9) := ⟨⟨by decide +kernel, by decide +kernel⟩, List.mem_of_getElem? (i := 17) (by decide +kernel), List.mem_of_getElem? (i := 915) (by decide +kernel), List.mem_of_getElem? (i := 916) (by decide +kernel)⟩
theorem lw_p26 : lw_okq (⟨"OnTheRoof", "fullShelves", "()I"⟩, 9) := ⟨⟨by decide +kernel, by decide +kernel⟩, List.mem_of_getElem? (i := 17) (by decide +kernel), List.mem_of_getElem? (i := 919) (by decide +kernel), List.mem_of_getElem? (i := 920) (by decide +kernel)⟩
theorem lw_p27 : lw_okq (⟨"OnTheRoofModel", "refuse", "(I)I"⟩, 43) := ⟨⟨by decide +kernel, by decide +kernel⟩, List.mem_of_getElem? (i := 927) (by decide +kernel), List.mem_of_getElem? (i := 1077) (by decide +kernel), List.mem_of_getElem? (i := 1078) (by decide +kernel)⟩
theorem lw_p28 : lw_okq (⟨"OnTheRoofModel", "noRow", "(I)I"⟩, 43) := ⟨⟨by decide +kernel, by decide +kernel⟩, List.mem_of_getElem? (i := 927) (by decide +kernel), List.mem_of_getElem? (i := 1085) (by decide +kernel), List.mem_of_getElem? (i := 1086) (by decide +kernel)⟩
theorem lw_p29 : lw_okq (⟨"OnTheRoofModel", "isBend", "(J)Z"⟩, 43) := ⟨⟨by decide +kernel, by decide +kernel⟩, List.mem_of_getElem? (i := 927) (by decide +kernel), List.mem_of_getElem? (i := 1108) (by decide +kernel), List.mem_of_getElem? (i := 1109) (by decide +kernel)⟩
theorem lw_p30 : lw_okq (⟨"OnTheRoofModel", "fallOf", "(II)I"⟩, 43) := ⟨⟨by decide +kernel, by decide +kernel⟩, List.mem_of_getElem? (i := 927) (by decide +kernel), List.mem_of_getElem? (i := 1120) (by decide +kernel), List.mem_of_getElem? (i := 1121) (by decide +kernel)⟩
theorem lw_p31 : lw_okq (⟨"OnTheRoofModel", "addBend", "(IIII)V"⟩, 43) := ⟨⟨by decide +kernel, by decide +kernel⟩, List.mem_of_getElem? (i := 927) (by decide +kernel), List.mem_of_getElem? (i := 1131) (by decide +kernel), List.mem_of_getElem? (i := 1132) (by decide +kernel)⟩
def lw_privs_2 : List (MethodName × Nat) := [(⟨"OnTheRoof$Plan", "chooseLook", "(II)V"⟩, 4), (⟨"OnTheRoof$Weights", "rateOf", "(LOnTheRoof$Road;II)J"⟩, 4), (⟨"OnTheRoof", "heldNow", "()I"⟩, 9), (⟨"OnTheRoof", "heardBy", "(I)I"⟩, 9), (⟨"OnTheRoof", "minutesOf", "(I)I"⟩, 9), (⟨"OnTheRoof", "heardBySet", "(I)I"⟩, 9), (⟨"OnTheRoof", "wrongPiece", "(LOnTheRoof$Shelf;I)I"⟩, 9), (⟨"OnTheRoof", "isToldLook", "(J)Z"⟩, 9), (⟨"OnTheRoof$Road", "draw", "(I)I"⟩, 8), (⟨"OnTheRoof", "refused", "(I)I"⟩, 9), (⟨"OnTheRoof", "fullShelves", "()I"⟩, 9), (⟨"OnTheRoofModel", "refuse", "(I)I"⟩, 43), (⟨"OnTheRoofModel", "noRow", "(I)I"⟩, 43), (⟨"OnTheRoofModel", "isBend", "(J)Z"⟩, 43), (⟨"OnTheRoofModel", "fallOf", "(II)I"⟩, 43), (⟨"OnTheRoofModel", "addBend", "(IIII)V"⟩, 43)]
theorem lw_r2 : ∀ q ∈ lw_privs_2, lw_okq q := List.forall_mem_cons.mpr ⟨lw_p16, List.forall_mem_cons.mpr ⟨lw_p17, List.forall_mem_cons.mpr ⟨lw_p18, List.forall_mem_cons.mpr ⟨lw_p19, List.forall_mem_cons.mpr ⟨lw_p20, List.forall_mem_cons.mpr ⟨lw_p21, List.forall_mem_cons.mpr ⟨lw_p22, List.forall_mem_cons.mpr ⟨lw_p23, List.forall_mem_cons.mpr ⟨lw_p24, List.forall_mem_cons.mpr ⟨lw_p25, List.forall_mem_cons.mpr ⟨lw_p26, List.forall_mem_cons.mpr ⟨lw_p27, List.forall_mem_cons.mpr ⟨lw_p28, List.forall_mem_cons.mpr ⟨lw_p29, List.forall_mem_cons.mpr ⟨lw_p30, List.forall_mem_cons.mpr ⟨lw_p31, fun _ h => absurd h List.not_mem_nil⟩⟩⟩⟩⟩⟩⟩⟩⟩⟩⟩⟩⟩⟩⟩⟩
theorem lw_p32 : lw_okq (⟨"OnTheRoofModel", "addSign", "(III)V"⟩, 43) := ⟨⟨by decide +kernel, by decide +kernel⟩, List.mem_of_getElem? (i := 927) (by decide +kernel), List.mem_of_getElem? (i := 1145) (by decide +kernel), List.mem_of_getElem? (i := 1146) (by decide +kernel)⟩
theorem lw_p33 : lw_okq (⟨"OnTheRoofModel", "noSigns", "()I"⟩, 43) := ⟨⟨by decide +kernel, by decide +kernel⟩, List.mem_of_getElem? (i := 927) (by decide +kernel), List.mem_of_getElem? (i := 1153) (by decide +kernel), List.mem_of_getElem? (i := 1154) (by decide +kernel)⟩
theorem lw_p34 : lw_okq (⟨"OnTheRoofModel", "addCall", "(III)V"⟩, 43) := ⟨⟨by decide +kernel, by decide +kernel⟩, List.mem_of_getElem? (i := 927) (by decide +kernel), List.mem_of_getElem? (i := 1162) (by decide +kernel), List.mem_of_getElem? (i := 1163) (by decide +kernel)⟩
theorem lw_p35 : lw_okq (⟨"OnTheRoofModel", "fresh", "()LOnTheRoofModel;"⟩, 43) := ⟨⟨by decide +kernel, by decide +kernel⟩, List.mem_of_getElem? (i := 927) (by decide +kernel), List.mem_of_getElem? (i := 1179) (by decide +kernel), List.mem_of_getElem? (i := 1180) (by decide +kernel)⟩
theorem lw_p36 : lw_okq (⟨"OnTheRoofModel", "takeFrom", "(LOnTheRoofModel;)V"⟩, 43) := ⟨⟨by decide +kernel, by decide +kernel⟩, List.mem_of_getElem? (i := 927) (by decide +kernel), List.mem_of_getElem? (i := 1185) (by decide +kernel), List.mem_of_getElem? (i := 1186) (by decide +kernel)⟩
theorem lw_p37 : lw_okq (⟨"OnTheRoofModel", "readAll", "()Z"⟩, 43) := ⟨⟨by decide +kernel, by decide +kernel⟩, List.mem_of_getElem? (i := 927) (by decide +kernel), List.mem_of_getElem? (i := 1192) (by decide +kernel), List.mem_of_getElem? (i := 1193) (by decide +kernel)⟩
theorem lw_p38 : lw_okq (⟨"OnTheRoofModel", "token", "()V"⟩, 43) := ⟨⟨by decide +kernel, by decide +kernel⟩, List.mem_of_getElem? (i := 927) (by decide +kernel), List.mem_of_getElem? (i := 1196) (by decide +kernel), List.mem_of_getElem? (i := 1197) (by decide +kernel)⟩
theorem lw_p39 : lw_okq (⟨"OnTheRoofModel", "statement", "()Z"⟩, 43) := ⟨⟨by decide +kernel, by decide +kernel⟩, List.mem_of_getElem? (i := 927) (by decide +kernel), List.mem_of_getElem? (i := 1207) (by decide +kernel), List.mem_of_getElem? (i := 1208) (by decide +kernel)⟩
theorem lw_p40 : lw_okq (⟨"OnTheRoofModel", "isWord", "(Ljava/lang/String;)Z"⟩, 43) := ⟨⟨by decide +kernel, by decide +kernel⟩, List.mem_of_getElem? (i := 927) (by decide +kernel), List.mem_of_getElem? (i := 1212) (by decide +kernel), List.mem_of_getElem? (i := 1213) (by decide +kernel)⟩
theorem lw_p41 : lw_okq (⟨"OnTheRoofModel", "tells", "(II)Z"⟩, 43) := ⟨⟨by decide +kernel, by decide +kernel⟩, List.mem_of_getElem? (i := 927) (by decide +kernel), List.mem_of_getElem? (i := 1218) (by decide +kernel), List.mem_of_getElem? (i := 1219) (by decide +kernel)⟩
theorem lw_p42 : lw_okq (⟨"OnTheRoofModel", "number", "(III)Z"⟩, 43) := ⟨⟨by decide +kernel, by decide +kernel⟩, List.mem_of_getElem? (i := 927) (by decide +kernel), List.mem_of_getElem? (i := 1222) (by decide +kernel), List.mem_of_getElem? (i := 1223) (by decide +kernel)⟩
theorem lw_p43 : lw_okq (⟨"OnTheRoofModel", "wrong", "()Z"⟩, 43) := ⟨⟨by decide +kernel, by decide +kernel⟩, List.mem_of_getElem? (i := 927) (by decide +kernel), List.mem_of_getElem? (i := 1226) (by decide +kernel), List.mem_of_getElem? (i := 1227) (by decide +kernel)⟩
theorem lw_p44 : lw_okq (⟨"OnTheRoofModel", "asked", "(III)Z"⟩, 43) := ⟨⟨by decide +kernel, by decide +kernel⟩, List.mem_of_getElem? (i := 927) (by decide +kernel), List.mem_of_getElem? (i := 1231) (by decide +kernel), List.mem_of_getElem? (i := 1232) (by decide +kernel)⟩
theorem lw_p45 : lw_okq (⟨"OnTheRoofModel", "misses", "(II)V"⟩, 43) := ⟨⟨by decide +kernel, by decide +kernel⟩, List.mem_of_getElem? (i := 927) (by decide +kernel), List.mem_of_getElem? (i := 1242) (by decide +kernel), List.mem_of_getElem? (i := 1243) (by decide +kernel)⟩
theorem lw_p46 : lw_okq (⟨"OnTheRoofModel", "yardsTo", "(I)I"⟩, 43) := ⟨⟨by decide +kernel, by decide +kernel⟩, List.mem_of_getElem? (i := 927) (by decide +kernel), List.mem_of_getElem? (i := 1256) (by decide +kernel), List.mem_of_getElem? (i := 1257) (by decide +kernel)⟩
theorem lw_p47 : lw_okq (⟨"OnTheRoofModel", "goes", "(III)V"⟩, 43) := ⟨⟨by decide +kernel, by decide +kernel⟩, List.mem_of_getElem? (i := 927) (by decide +kernel), List.mem_of_getElem? (i := 1277) (by decide +kernel), List.mem_of_getElem? (i := 1278) (by decide +kernel)⟩
def lw_privs_3 : List (MethodName × Nat) := [(⟨"OnTheRoofModel", "addSign", "(III)V"⟩, 43), (⟨"OnTheRoofModel", "noSigns", "()I"⟩, 43), (⟨"OnTheRoofModel", "addCall", "(III)V"⟩, 43), (⟨"OnTheRoofModel", "fresh", "()LOnTheRoofModel;"⟩, 43), (⟨"OnTheRoofModel", "takeFrom", "(LOnTheRoofModel;)V"⟩, 43), (⟨"OnTheRoofModel", "readAll", "()Z"⟩, 43), (⟨"OnTheRoofModel", "token", "()V"⟩, 43), (⟨"OnTheRoofModel", "statement", "()Z"⟩, 43), (⟨"OnTheRoofModel", "isWord", "(Ljava/lang/String;)Z"⟩, 43), (⟨"OnTheRoofModel", "tells", "(II)Z"⟩, 43), (⟨"OnTheRoofModel", "number", "(III)Z"⟩, 43), (⟨"OnTheRoofModel", "wrong", "()Z"⟩, 43), (⟨"OnTheRoofModel", "asked", "(III)Z"⟩, 43), (⟨"OnTheRoofModel", "misses", "(II)V"⟩, 43), (⟨"OnTheRoofModel", "yardsTo", "(I)I"⟩, 43), (⟨"OnTheRoofModel", "goes", "(III)V"⟩, 43)]
theorem lw_r3 : ∀ q ∈ lw_privs_3, lw_okq q := List.forall_mem_cons.mpr ⟨lw_p32, List.forall_mem_cons.mpr ⟨lw_p33, List.forall_mem_cons.mpr ⟨lw_p34, List.forall_mem_cons.mpr ⟨lw_p35, List.forall_mem_cons.mpr ⟨lw_p36, List.forall_mem_cons.mpr ⟨lw_p37, List.forall_mem_cons.mpr ⟨lw_p38, List.forall_mem_cons.mpr ⟨lw_p39, List.forall_mem_cons.mpr ⟨lw_p40, List.forall_mem_cons.mpr ⟨lw_p41, List.forall_mem_cons.mpr ⟨lw_p42, List.forall_mem_cons.mpr ⟨lw_p43, List.forall_mem_cons.mpr ⟨lw_p44, List.forall_mem_cons.mpr ⟨lw_p45, List.forall_mem_cons.mpr ⟨lw_p46, List.forall_mem_cons.mpr ⟨lw_p47, fun _ h => absurd h List.not_mem_nil⟩⟩⟩⟩⟩⟩⟩⟩⟩⟩⟩⟩⟩⟩⟩⟩
theorem lw_p48 : lw_okq (⟨"OnTheRoofModel", "weigh", "()V"⟩, 43) := ⟨⟨by decide +kernel, by decide +kernel⟩, List.mem_of_getElem? (i := 927) (by decide +kernel), List.mem_of_getElem? (i := 1289) (by decide +kernel), List.mem_of_getElem? (i := 1290) (by decide +kernel)⟩
theorem lw_p49 : lw_okq (⟨"OnTheRoofModel", "thousandths", "(J)I"⟩, 43) := ⟨⟨by decide +kernel, by decide +kernel⟩, List.mem_of_getElem? (i := 927) (by decide +kernel), List.mem_of_getElem? (i := 1297) (by decide +kernel), List.mem_of_getElem? (i := 1298) (by decide +kernel)⟩
theorem lw_p50 : lw_okq (⟨"OnTheRoofModel", "sumOf", "(II)I"⟩, 43) := ⟨⟨by decide +kernel, by decide +kernel⟩, List.mem_of_getElem? (i := 927) (by decide +kernel), List.mem_of_getElem? (i := 1305) (by decide +kernel), List.mem_of_getElem? (i := 1306) (by decide +kernel)⟩
theorem lw_p51 : lw_okq (⟨"OnTheRoofModel", "secondsOf", "(II)I"⟩, 43) := ⟨⟨by decide +kernel, by decide +kernel⟩, List.mem_of_getElem? (i := 927) (by decide +kernel), List.mem_of_getElem? (i := 1337) (by decide +kernel), List.mem_of_getElem? (i := 1338) (by decide +kernel)⟩
theorem lw_p52 : lw_okq (⟨"OnTheRoofModel", "foundBy", "(II)I"⟩, 43) := ⟨⟨by decide +kernel, by decide +kernel⟩, List.mem_of_getElem? (i := 927) (by decide +kernel), List.mem_of_getElem? (i := 1345) (by decide +kernel), List.mem_of_getElem? (i := 1346) (by decide +kernel)⟩
theorem lw_p53 : lw_okq (⟨"OnTheRoofModel", "findMost", "()V"⟩, 43) := ⟨⟨by decide +kernel, by decide +kernel⟩, List.mem_of_getElem? (i := 927) (by decide +kernel), List.mem_of_getElem? (i := 1354) (by decide +kernel), List.mem_of_getElem? (i := 1355) (by decide +kernel)⟩
theorem lw_p54 : lw_okq (⟨"OnTheRoofModel", "mostBy", "(III)I"⟩, 43) := ⟨⟨by decide +kernel, by decide +kernel⟩, List.mem_of_getElem? (i := 927) (by decide +kernel), List.mem_of_getElem? (i := 1358) (by decide +kernel), List.mem_of_getElem? (i := 1359) (by decide +kernel)⟩
theorem lw_p55 : lw_okq (⟨"OnTheRoofModel", "tensOf", "(II)I"⟩, 43) := ⟨⟨by decide +kernel, by decide +kernel⟩, List.mem_of_getElem? (i := 927) (by decide +kernel), List.mem_of_getElem? (i := 1362) (by decide +kernel), List.mem_of_getElem? (i := 1363) (by decide +kernel)⟩
theorem lw_p56 : lw_okq (⟨"OnTheRoofModel", "nextNow", "()I"⟩, 43) := ⟨⟨by decide +kernel, by decide +kernel⟩, List.mem_of_getElem? (i := 927) (by decide +kernel), List.mem_of_getElem? (i := 1370) (by decide +kernel), List.mem_of_getElem? (i := 1371) (by decide +kernel)⟩
theorem lw_p57 : lw_okq (⟨"OnTheRoofModel", "vainly", "(I)LOnTheRoofModel;"⟩, 43) := ⟨⟨by decide +kernel, by decide +kernel⟩, List.mem_of_getElem? (i := 927) (by decide +kernel), List.mem_of_getElem? (i := 1383) (by decide +kernel), List.mem_of_getElem? (i := 1384) (by decide +kernel)⟩
theorem lw_p58 : lw_okq (⟨"OnTheRoofModel", "heldBy", "(I)I"⟩, 43) := ⟨⟨by decide +kernel, by decide +kernel⟩, List.mem_of_getElem? (i := 927) (by decide +kernel), List.mem_of_getElem? (i := 1400) (by decide +kernel), List.mem_of_getElem? (i := 1401) (by decide +kernel)⟩
theorem lw_p59 : lw_okq (⟨"OnTheRoofModel", "hearsOf", "(I)I"⟩, 43) := ⟨⟨by decide +kernel, by decide +kernel⟩, List.mem_of_getElem? (i := 927) (by decide +kernel), List.mem_of_getElem? (i := 1447) (by decide +kernel), List.mem_of_getElem? (i := 1448) (by decide +kernel)⟩
theorem lw_p60 : lw_okq (⟨"OnTheRoofModel", "noList", "(II)I"⟩, 43) := ⟨⟨by decide +kernel, by decide +kernel⟩, List.mem_of_getElem? (i := 927) (by decide +kernel), List.mem_of_getElem? (i := 1465) (by decide +kernel), List.mem_of_getElem? (i := 1466) (by decide +kernel)⟩
theorem lw_p61 : lw_okq (⟨"OnTheRoofModel", "wrongIn", "([JI)I"⟩, 43) := ⟨⟨by decide +kernel, by decide +kernel⟩, List.mem_of_getElem? (i := 927) (by decide +kernel), List.mem_of_getElem? (i := 1469) (by decide +kernel), List.mem_of_getElem? (i := 1470) (by decide +kernel)⟩
theorem lw_p62 : lw_okq (⟨"OnTheRoofModel", "areLooks", "([JI)Z"⟩, 43) := ⟨⟨by decide +kernel, by decide +kernel⟩, List.mem_of_getElem? (i := 927) (by decide +kernel), List.mem_of_getElem? (i := 1481) (by decide +kernel), List.mem_of_getElem? (i := 1482) (by decide +kernel)⟩
theorem lw_p63 : lw_okq (⟨"OnTheRoofModel", "driven", "()I"⟩, 43) := ⟨⟨by decide +kernel, by decide +kernel⟩, List.mem_of_getElem? (i := 927) (by decide +kernel), List.mem_of_getElem? (i := 1493) (by decide +kernel), List.mem_of_getElem? (i := 1494) (by decide +kernel)⟩
def lw_privs_4 : List (MethodName × Nat) := [(⟨"OnTheRoofModel", "weigh", "()V"⟩, 43), (⟨"OnTheRoofModel", "thousandths", "(J)I"⟩, 43), (⟨"OnTheRoofModel", "sumOf", "(II)I"⟩, 43), (⟨"OnTheRoofModel", "secondsOf", "(II)I"⟩, 43), (⟨"OnTheRoofModel", "foundBy", "(II)I"⟩, 43), (⟨"OnTheRoofModel", "findMost", "()V"⟩, 43), (⟨"OnTheRoofModel", "mostBy", "(III)I"⟩, 43), (⟨"OnTheRoofModel", "tensOf", "(II)I"⟩, 43), (⟨"OnTheRoofModel", "nextNow", "()I"⟩, 43), (⟨"OnTheRoofModel", "vainly", "(I)LOnTheRoofModel;"⟩, 43), (⟨"OnTheRoofModel", "heldBy", "(I)I"⟩, 43), (⟨"OnTheRoofModel", "hearsOf", "(I)I"⟩, 43), (⟨"OnTheRoofModel", "noList", "(II)I"⟩, 43), (⟨"OnTheRoofModel", "wrongIn", "([JI)I"⟩, 43), (⟨"OnTheRoofModel", "areLooks", "([JI)Z"⟩, 43), (⟨"OnTheRoofModel", "driven", "()I"⟩, 43)]
theorem lw_r4 : ∀ q ∈ lw_privs_4, lw_okq q := List.forall_mem_cons.mpr ⟨lw_p48, List.forall_mem_cons.mpr ⟨lw_p49, List.forall_mem_cons.mpr ⟨lw_p50, List.forall_mem_cons.mpr ⟨lw_p51, List.forall_mem_cons.mpr ⟨lw_p52, List.forall_mem_cons.mpr ⟨lw_p53, List.forall_mem_cons.mpr ⟨lw_p54, List.forall_mem_cons.mpr ⟨lw_p55, List.forall_mem_cons.mpr ⟨lw_p56, List.forall_mem_cons.mpr ⟨lw_p57, List.forall_mem_cons.mpr ⟨lw_p58, List.forall_mem_cons.mpr ⟨lw_p59, List.forall_mem_cons.mpr ⟨lw_p60, List.forall_mem_cons.mpr ⟨lw_p61, List.forall_mem_cons.mpr ⟨lw_p62, List.forall_mem_cons.mpr ⟨lw_p63, fun _ h => absurd h List.not_mem_nil⟩⟩⟩⟩⟩⟩⟩⟩⟩⟩⟩⟩⟩⟩⟩⟩
theorem lw_p64 : lw_okq (⟨"OnTheRoofModel", "below", "(I)I"⟩, 43) := ⟨⟨by decide +kernel, by decide +kernel⟩, List.mem_of_getElem? (i := 927) (by decide +kernel), List.mem_of_getElem? (i := 1497) (by decide +kernel), List.mem_of_getElem? (i := 1498) (by decide +kernel)⟩
theorem lw_p65 : lw_okq (⟨"OnTheRoofModel", "looked", "()I"⟩, 43) := ⟨⟨by decide +kernel, by decide +kernel⟩, List.mem_of_getElem? (i := 927) (by decide +kernel), List.mem_of_getElem? (i := 1526) (by decide +kernel), List.mem_of_getElem? (i := 1527) (by decide +kernel)⟩
def lw_privs_5 : List (MethodName × Nat) := [(⟨"OnTheRoofModel", "below", "(I)I"⟩, 43), (⟨"OnTheRoofModel", "looked", "()I"⟩, 43)]
theorem lw_r5 : ∀ q ∈ lw_privs_5, lw_okq q := List.forall_mem_cons.mpr ⟨lw_p64, List.forall_mem_cons.mpr ⟨lw_p65, fun _ h => absurd h List.not_mem_nil⟩⟩
def lw_privs : List (MethodName × Nat) := lw_privs_1 ++ (lw_privs_2 ++ (lw_privs_3 ++ (lw_privs_4 ++ (lw_privs_5))))
def lw_tbl : List Cond := k2_sels lw_privs ++ tables_1
theorem lw_privs_ok : ∀ q ∈ lw_privs, lw_okq q := by
  show ∀ q ∈ lw_privs_1 ++ (lw_privs_2 ++ (lw_privs_3 ++ (lw_privs_4 ++ (lw_privs_5)))), lw_okq q
  exact List.forall_mem_append.mpr ⟨lw_r1, List.forall_mem_append.mpr ⟨lw_r2, List.forall_mem_append.mpr ⟨lw_r3, List.forall_mem_append.mpr ⟨lw_r4, lw_r5⟩⟩⟩⟩
theorem goodIn_r {big : List Cond} (ws : List Cond) (ps : List Nat) (hp : ws = ps.filterMap (fun i => big[i]?)) (h : ws.all goodWord = true) : GoodIn big ws := by
  intro w hw
  have h1 := List.all_eq_true.mp h w hw
  rw [hp] at hw
  obtain ⟨i, -, hi⟩ := List.mem_filterMap.mp hw
  have hm : w ∈ big := by first | exact List.mem_of_getElem? hi | exact List.getElem?_mem hi
  exact ⟨hm, good_of_word h1⟩
theorem goodIn_app {big a b : List Cond} (ha : GoodIn big a) (hb : GoodIn big b) : GoodIn big (a ++ b) := fun w h => (List.mem_append.mp h).elim (ha w) (hb w)
theorem goodIn_ca {big a b : List Cond} {c : Cond} (ha : GoodIn big (c :: a)) (hb : GoodIn big b) : GoodIn big (c :: (a ++ b)) := fun w h => (List.mem_cons.mp h).elim (fun e => ha w (List.mem_cons.mpr (Or.inl e))) (fun h => (List.mem_append.mp h).elim (fun h => ha w (List.mem_cons.mpr (Or.inr h))) (hb w))
theorem goodIn_sub {big ws : List Cond} (hm : ∀ w ∈ ws, w ∈ big) (h : ws.all goodWord = true) : GoodIn big ws := fun w hw => ⟨hm w hw, good_of_word (List.all_eq_true.mp h w hw)⟩
def RX0 : String := "OnTheRoof$Plan"
def TX0 : u_T := fun k => match k with
  | 0 => ("OnTheRoof$Plan", "most", "[I", true)
  | 1 => ("OnTheRoof$Plan", "rows", "[I", true)
  | 2 => ("OnTheRoof$Plan", "tensOf", "[I", true)
  | _ => ("OnTheRoof$Plan", "gainOf", "[I", true)
def tyX0 : Nat → FieldType := fun k => match k with
  | 0 => .array .int
  | 1 => .array .int
  | 2 => .array .int
  | _ => .array .int
abbrev wsX00 : List Cond := u_ws RX0 TX0 4
theorem nmX0 : ∀ a, a < 4 → ∀ b, b < 4 → a ≠ b → (TX0 a).2.1 ≠ (TX0 b).2.1 := by decide +kernel
theorem tyX0_ok : ∀ k, k < 4 → parseFieldDescriptor (TX0 k).2.2.1 = some (tyX0 k) := by decide +kernel
abbrev cX0_init : ByteArray := prog_2_method_1_code
def yX0_init : MethodName := ⟨RX0, "<init>", "()V"⟩
abbrev cX0_make : ByteArray := prog_2_method_2_code
def yX0_make : MethodName := ⟨RX0, "make", "(LOnTheRoof$Weights;LOnTheRoof$Road;I)V"⟩
abbrev cX0_chooseLook : ByteArray := prog_2_method_3_code
def yX0_chooseLook : MethodName := ⟨RX0, "chooseLook", "(II)V"⟩
abbrev cX0_foundIn : ByteArray := prog_2_method_4_code
def yX0_foundIn : MethodName := ⟨RX0, "foundIn", "(I)I"⟩
abbrev cX0_lookIn : ByteArray := prog_2_method_5_code
def yX0_lookIn : MethodName := ⟨RX0, "lookIn", "(II)I"⟩
def RX1 : String := "OnTheRoof$Road"
def TX1 : u_T := fun k => match k with
  | 0 => ("OnTheRoof$Road", "bends", "LOnTheRoof$Table;", true)
  | 1 => ("OnTheRoof$Road", "signs", "LOnTheRoof$Table;", true)
  | 2 => ("OnTheRoof$Road", "calls", "LOnTheRoof$Table;", true)
  | 3 => ("OnTheRoof$Road", "pace", "I", false)
  | 4 => ("OnTheRoof$Road", "wet", "I", false)
  | 5 => ("OnTheRoof$Road", "grip", "I", false)
  | 6 => ("OnTheRoof$Road", "lies", "I", false)
  | _ => ("OnTheRoof$Road", "seed", "I", false)
def tyX1 : Nat → FieldType := fun k => match k with
  | 0 => .object "OnTheRoof$Table"
  | 1 => .object "OnTheRoof$Table"
  | 2 => .object "OnTheRoof$Table"
  | 3 => .int
  | 4 => .int
  | 5 => .int
  | 6 => .int
  | _ => .int
abbrev wsX10 : List Cond := u_ws RX1 TX1 8
theorem nmX1 : ∀ a, a < 8 → ∀ b, b < 8 → a ≠ b → (TX1 a).2.1 ≠ (TX1 b).2.1 := by decide +kernel
theorem tyX1_ok : ∀ k, k < 8 → parseFieldDescriptor (TX1 k).2.2.1 = some (tyX1 k) := by decide +kernel
abbrev cX1_init : ByteArray := prog_3_method_1_code
def yX1_init : MethodName := ⟨RX1, "<init>", "()V"⟩
abbrev cX1_takeFrom : ByteArray := prog_3_method_2_code
def yX1_takeFrom : MethodName := ⟨RX1, "takeFrom", "(LOnTheRoof$Road;)V"⟩
abbrev cX1_numbersOf : ByteArray := prog_3_method_3_code
def yX1_numbersOf : MethodName := ⟨RX1, "numbersOf", "(I)I"⟩
abbrev cX1_takes : ByteArray := prog_3_method_4_code
def yX1_takes : MethodName := ⟨RX1, "takes", "(III)Z"⟩
abbrev cX1_hasRoomFor : ByteArray := prog_3_method_5_code
def yX1_hasRoomFor : MethodName := ⟨RX1, "hasRoomFor", "(I)Z"⟩
abbrev cX1_addBend : ByteArray := prog_3_method_6_code
def yX1_addBend : MethodName := ⟨RX1, "addBend", "(IIII)I"⟩
abbrev cX1_addSign : ByteArray := prog_3_method_7_code
def yX1_addSign : MethodName := ⟨RX1, "addSign", "(IZI)V"⟩
abbrev cX1_addCall : ByteArray := prog_3_method_8_code
def yX1_addCall : MethodName := ⟨RX1, "addCall", "(III)I"⟩
abbrev cX1_settle : ByteArray := prog_3_method_9_code
def yX1_settle : MethodName := ⟨RX1, "settle", "(II)I"⟩
abbrev cX1_lookInVain : ByteArray := prog_3_method_10_code
def yX1_lookInVain : MethodName := ⟨RX1, "lookInVain", "(II)V"⟩
abbrev cX1_forget : ByteArray := prog_3_method_11_code
def yX1_forget : MethodName := ⟨RX1, "forget", "()V"⟩
abbrev cX1_bendsLookedAt : ByteArray := prog_3_method_12_code
def yX1_bendsLookedAt : MethodName := ⟨RX1, "bendsLookedAt", "()I"⟩
abbrev cX1_yardsTo : ByteArray := prog_3_method_13_code
def yX1_yardsTo : MethodName := ⟨RX1, "yardsTo", "(I)I"⟩
abbrev cX1_secondsOf : ByteArray := prog_3_method_14_code
def yX1_secondsOf : MethodName := ⟨RX1, "secondsOf", "(II)I"⟩
abbrev cX1_fallAt : ByteArray := prog_3_method_15_code
def yX1_fallAt : MethodName := ⟨RX1, "fallAt", "(II)I"⟩
abbrev cX1_fallBy : ByteArray := prog_3_method_16_code
def yX1_fallBy : MethodName := ⟨RX1, "fallBy", "(IIII)I"⟩
abbrev cX1_dryFall : ByteArray := prog_3_method_17_code
def yX1_dryFall : MethodName := ⟨RX1, "dryFall", "(III)I"⟩
abbrev cX1_fellAt : ByteArray := prog_3_method_18_code
def yX1_fellAt : MethodName := ⟨RX1, "fellAt", "(II)I"⟩
abbrev cX1_heldBy : ByteArray := prog_3_method_19_code
def yX1_heldBy : MethodName := ⟨RX1, "heldBy", "(III)I"⟩
abbrev cX1_heldWith : ByteArray := prog_3_method_20_code
def yX1_heldWith : MethodName := ⟨RX1, "heldWith", "(II)I"⟩
abbrev cX1_draw : ByteArray := prog_3_method_21_code
def yX1_draw : MethodName := ⟨RX1, "draw", "(I)I"⟩
abbrev cX1_driveInTruth : ByteArray := prog_3_method_22_code
def yX1_driveInTruth : MethodName := ⟨RX1, "driveInTruth", "()I"⟩
abbrev cX1_lookInTruth : ByteArray := prog_3_method_23_code
def yX1_lookInTruth : MethodName := ⟨RX1, "lookInTruth", "(II)I"⟩
def RX2 : String := "OnTheRoof$Shelf"
def TX2 : u_T := fun k => match k with
  | 0 => ("OnTheRoof$Shelf", "holding", "I", false)
  | 1 => ("OnTheRoof$Shelf", "size", "I", false)
  | _ => ("OnTheRoof$Shelf", "elements", "[J", true)
def tyX2 : Nat → FieldType := fun k => match k with
  | 0 => .int
  | 1 => .int
  | _ => .array .long
abbrev wsX20 : List Cond := u_ws RX2 TX2 3
theorem nmX2 : ∀ a, a < 3 → ∀ b, b < 3 → a ≠ b → (TX2 a).2.1 ≠ (TX2 b).2.1 := by decide +kernel
theorem tyX2_ok : ∀ k, k < 3 → parseFieldDescriptor (TX2 k).2.2.1 = some (tyX2 k) := by decide +kernel
abbrev cX2_init : ByteArray := prog_4_method_1_code
def yX2_init : MethodName := ⟨RX2, "<init>", "()V"⟩
abbrev cX2_isEmpty : ByteArray := prog_4_method_2_code
def yX2_isEmpty : MethodName := ⟨RX2, "isEmpty", "()Z"⟩
abbrev cX2_isRow : ByteArray := prog_4_method_3_code
def yX2_isRow : MethodName := ⟨RX2, "isRow", "()Z"⟩
abbrev cX2_isBend : ByteArray := prog_4_method_4_code
def yX2_isBend : MethodName := ⟨RX2, "isBend", "()Z"⟩
abbrev cX2_bendNumber : ByteArray := prog_4_method_5_code
def yX2_bendNumber : MethodName := ⟨RX2, "bendNumber", "()I"⟩
abbrev cX2_takeRow : ByteArray := prog_4_method_6_code
def yX2_takeRow : MethodName := ⟨RX2, "takeRow", "(II)V"⟩
abbrev cX2_takeBend : ByteArray := prog_4_method_7_code
def yX2_takeBend : MethodName := ⟨RX2, "takeBend", "(I)V"⟩
abbrev cX2_hasElement : ByteArray := prog_4_method_8_code
def yX2_hasElement : MethodName := ⟨RX2, "hasElement", "(I)Z"⟩
abbrev cX2_hasElements : ByteArray := prog_4_method_9_code
def yX2_hasElements : MethodName := ⟨RX2, "hasElements", "(II)Z"⟩
abbrev cX2_elementAt : ByteArray := prog_4_method_10_code
def yX2_elementAt : MethodName := ⟨RX2, "elementAt", "(I)J"⟩
abbrev cX2_putElement : ByteArray := prog_4_method_11_code
def yX2_putElement : MethodName := ⟨RX2, "putElement", "(IJ)V"⟩
abbrev cX2_takeElements : ByteArray := prog_4_method_12_code
def yX2_takeElements : MethodName := ⟨RX2, "takeElements", "(LOnTheRoof$Shelf;III)V"⟩
abbrev cX2_refusalOfTold : ByteArray := prog_4_method_13_code
def yX2_refusalOfTold : MethodName := ⟨RX2, "refusalOfTold", "(I)I"⟩
abbrev cX2_keptOf : ByteArray := prog_4_method_14_code
def yX2_keptOf : MethodName := ⟨RX2, "keptOf", "(J)J"⟩
def RX3 : String := "OnTheRoof$Table"
def TX3 : u_T := fun k => match k with
  | 0 => ("OnTheRoof$Table", "cells", "[I", true)
  | 1 => ("OnTheRoof$Table", "width", "I", true)
  | _ => ("OnTheRoof$Table", "count", "I", false)
def tyX3 : Nat → FieldType := fun k => match k with
  | 0 => .array .int
  | 1 => .int
  | _ => .int
abbrev wsX30 : List Cond := u_ws RX3 TX3 3
theorem nmX3 : ∀ a, a < 3 → ∀ b, b < 3 → a ≠ b → (TX3 a).2.1 ≠ (TX3 b).2.1 := by decide +kernel
theorem tyX3_ok : ∀ k, k < 3 → parseFieldDescriptor (TX3 k).2.2.1 = some (tyX3 k) := by decide +kernel
abbrev cX3_init : ByteArray := prog_5_method_1_code
def yX3_init : MethodName := ⟨RX3, "<init>", "(II)V"⟩
abbrev cX3_has : ByteArray := prog_5_method_2_code
def yX3_has : MethodName := ⟨RX3, "has", "(I)Z"⟩
abbrev cX3_isFull : ByteArray := prog_5_method_3_code
def yX3_isFull : MethodName := ⟨RX3, "isFull", "()Z"⟩
abbrev cX3_at : ByteArray := prog_5_method_4_code
def yX3_at : MethodName := ⟨RX3, "at", "(II)I"⟩
abbrev cX3_put : ByteArray := prog_5_method_5_code
def yX3_put : MethodName := ⟨RX3, "put", "(III)V"⟩
abbrev cX3_grow : ByteArray := prog_5_method_6_code
def yX3_grow : MethodName := ⟨RX3, "grow", "()I"⟩
abbrev cX3_takeFrom : ByteArray := prog_5_method_7_code
def yX3_takeFrom : MethodName := ⟨RX3, "takeFrom", "(LOnTheRoof$Table;)V"⟩
abbrev cX3_cellOf : ByteArray := prog_5_method_8_code
def yX3_cellOf : MethodName := ⟨RX3, "cellOf", "(II)I"⟩
def RX4 : String := "OnTheRoof$Tape"
def TX4 : u_T := fun k => match k with
  | 0 => ("OnTheRoof$Tape", "bytes", "[I", true)
  | 1 => ("OnTheRoof$Tape", "size", "I", false)
  | 2 => ("OnTheRoof$Tape", "sort", "I", false)
  | 3 => ("OnTheRoof$Tape", "start", "I", false)
  | 4 => ("OnTheRoof$Tape", "end", "I", false)
  | _ => ("OnTheRoof$Tape", "numbers", "[I", true)
def tyX4 : Nat → FieldType := fun k => match k with
  | 0 => .array .int
  | 1 => .int
  | 2 => .int
  | 3 => .int
  | 4 => .int
  | _ => .array .int
abbrev wsX40 : List Cond := u_ws RX4 TX4 6
theorem nmX4 : ∀ a, a < 6 → ∀ b, b < 6 → a ≠ b → (TX4 a).2.1 ≠ (TX4 b).2.1 := by decide +kernel
theorem tyX4_ok : ∀ k, k < 6 → parseFieldDescriptor (TX4 k).2.2.1 = some (tyX4 k) := by decide +kernel
abbrev cX4_init : ByteArray := prog_6_method_1_code
def yX4_init : MethodName := ⟨RX4, "<init>", "()V"⟩
abbrev cX4_isFull : ByteArray := prog_6_method_2_code
def yX4_isFull : MethodName := ⟨RX4, "isFull", "()Z"⟩
abbrev cX4_write : ByteArray := prog_6_method_3_code
def yX4_write : MethodName := ⟨RX4, "write", "(I)V"⟩
abbrev cX4_readInto : ByteArray := prog_6_method_4_code
def yX4_readInto : MethodName := ⟨RX4, "readInto", "(LOnTheRoof$Road;)I"⟩
abbrev cX4_readStatement : ByteArray := prog_6_method_5_code
def yX4_readStatement : MethodName := ⟨RX4, "readStatement", "(LOnTheRoof$Road;)Z"⟩
abbrev cX4_carryOut : ByteArray := prog_6_method_6_code
def yX4_carryOut : MethodName := ⟨RX4, "carryOut", "(LOnTheRoof$Road;I)V"⟩
abbrev cX4_step : ByteArray := prog_6_method_7_code
def yX4_step : MethodName := ⟨RX4, "step", "()V"⟩
abbrev cX4_byteAt : ByteArray := prog_6_method_8_code
def yX4_byteAt : MethodName := ⟨RX4, "byteAt", "(I)I"⟩
abbrev cX4_sortOf : ByteArray := prog_6_method_9_code
def yX4_sortOf : MethodName := ⟨RX4, "sortOf", "(I)I"⟩
abbrev cX4_valueOf : ByteArray := prog_6_method_10_code
def yX4_valueOf : MethodName := ⟨RX4, "valueOf", "()I"⟩
abbrev cX4_statementOf : ByteArray := prog_6_method_11_code
def yX4_statementOf : MethodName := ⟨RX4, "statementOf", "()I"⟩
abbrev cX4_isWord : ByteArray := prog_6_method_12_code
def yX4_isWord : MethodName := ⟨RX4, "isWord", "(Ljava/lang/String;)Z"⟩
def RX5 : String := "OnTheRoof$Weights"
def TX5 : u_T := fun k => match k with
  | 0 => ("OnTheRoof$Weights", "fallen", "[I", true)
  | 1 => ("OnTheRoof$Weights", "miss", "[I", true)
  | 2 => ("OnTheRoof$Weights", "bends", "I", false)
  | _ => ("OnTheRoof$Weights", "held", "I", false)
def tyX5 : Nat → FieldType := fun k => match k with
  | 0 => .array .int
  | 1 => .array .int
  | 2 => .int
  | _ => .int
abbrev wsX50 : List Cond := u_ws RX5 TX5 4
theorem nmX5 : ∀ a, a < 4 → ∀ b, b < 4 → a ≠ b → (TX5 a).2.1 ≠ (TX5 b).2.1 := by decide +kernel
theorem tyX5_ok : ∀ k, k < 4 → parseFieldDescriptor (TX5 k).2.2.1 = some (tyX5 k) := by decide +kernel
abbrev cX5_init : ByteArray := prog_7_method_1_code
def yX5_init : MethodName := ⟨RX5, "<init>", "()V"⟩
abbrev cX5_weigh : ByteArray := prog_7_method_2_code
def yX5_weigh : MethodName := ⟨RX5, "weigh", "(LOnTheRoof$Road;)V"⟩
abbrev cX5_heed : ByteArray := prog_7_method_3_code
def yX5_heed : MethodName := ⟨RX5, "heed", "(IZI)V"⟩
abbrev cX5_at : ByteArray := prog_7_method_4_code
def yX5_at : MethodName := ⟨RX5, "at", "(I)I"⟩
abbrev cX5_sum : ByteArray := prog_7_method_5_code
def yX5_sum : MethodName := ⟨RX5, "sum", "(II)I"⟩
abbrev cX5_all : ByteArray := prog_7_method_6_code
def yX5_all : MethodName := ⟨RX5, "all", "()I"⟩
abbrev cX5_greatestBut : ByteArray := prog_7_method_7_code
def yX5_greatestBut : MethodName := ⟨RX5, "greatestBut", "(I)I"⟩
abbrev cX5_fewestFor : ByteArray := prog_7_method_8_code
def yX5_fewestFor : MethodName := ⟨RX5, "fewestFor", "(I)I"⟩
abbrev cX5_evenestBend : ByteArray := prog_7_method_9_code
def yX5_evenestBend : MethodName := ⟨RX5, "evenestBend", "()I"⟩
abbrev cX5_foundBy : ByteArray := prog_7_method_10_code
def yX5_foundBy : MethodName := ⟨RX5, "foundBy", "(II)I"⟩
abbrev cX5_lookInVain : ByteArray := prog_7_method_11_code
def yX5_lookInVain : MethodName := ⟨RX5, "lookInVain", "(II)V"⟩
abbrev cX5_nextLook : ByteArray := prog_7_method_12_code
def yX5_nextLook : MethodName := ⟨RX5, "nextLook", "(LOnTheRoof$Road;)I"⟩
abbrev cX5_rateOf : ByteArray := prog_7_method_13_code
def yX5_rateOf : MethodName := ⟨RX5, "rateOf", "(LOnTheRoof$Road;II)J"⟩
abbrev cX5_lookOnInVain : ByteArray := prog_7_method_14_code
def yX5_lookOnInVain : MethodName := ⟨RX5, "lookOnInVain", "(LOnTheRoof$Road;I)V"⟩
def RX6 : String := "OnTheRoof"
def TX6 : u_T := fun k => match k with
  | 0 => ("OnTheRoof", "road", "LOnTheRoof$Road;", true)
  | 1 => ("OnTheRoof", "kept", "LOnTheRoof$Road;", true)
  | 2 => ("OnTheRoof", "draft", "LOnTheRoof$Road;", true)
  | 3 => ("OnTheRoof", "weights", "LOnTheRoof$Weights;", true)
  | 4 => ("OnTheRoof", "plan", "LOnTheRoof$Plan;", true)
  | 5 => ("OnTheRoof", "tape", "LOnTheRoof$Tape;", true)
  | 6 => ("OnTheRoof", "shelves", "[LOnTheRoof$Shelf;", true)
  | 7 => ("OnTheRoof", "refusals", "[I", true)
  | _ => ("OnTheRoof", "hasKept", "Z", false)
def tyX6 : Nat → FieldType := fun k => match k with
  | 0 => .object "OnTheRoof$Road"
  | 1 => .object "OnTheRoof$Road"
  | 2 => .object "OnTheRoof$Road"
  | 3 => .object "OnTheRoof$Weights"
  | 4 => .object "OnTheRoof$Plan"
  | 5 => .object "OnTheRoof$Tape"
  | 6 => .array (.object "OnTheRoof$Shelf")
  | 7 => .array .int
  | _ => .boolean
abbrev wsX60 : List Cond := u_ws RX6 TX6 9
theorem nmX6 : ∀ a, a < 9 → ∀ b, b < 9 → a ≠ b → (TX6 a).2.1 ≠ (TX6 b).2.1 := by decide +kernel
theorem tyX6_ok : ∀ k, k < 9 → parseFieldDescriptor (TX6 k).2.2.1 = some (tyX6 k) := by decide +kernel
abbrev cX6_init : ByteArray := prog_1_method_1_code
def yX6_init : MethodName := ⟨RX6, "<init>", "()V"⟩
abbrev cX6_row : ByteArray := prog_1_method_2_code
def yX6_row : MethodName := ⟨RX6, "row", "(III)I"⟩
abbrev cX6_set : ByteArray := prog_1_method_3_code
def yX6_set : MethodName := ⟨RX6, "set", "(IIJ)I"⟩
abbrev cX6_copy : ByteArray := prog_1_method_4_code
def yX6_copy : MethodName := ⟨RX6, "copy", "(IIIII)I"⟩
abbrev cX6_element : ByteArray := prog_1_method_5_code
def yX6_element : MethodName := ⟨RX6, "element", "(II)J"⟩
abbrev cX6_holds : ByteArray := prog_1_method_6_code
def yX6_holds : MethodName := ⟨RX6, "holds", "(I)I"⟩
abbrev cX6_show : ByteArray := prog_1_method_7_code
def yX6_show : MethodName := ⟨RX6, "show", "(II)I"⟩
abbrev cX6_says : ByteArray := prog_1_method_8_code
def yX6_says : MethodName := ⟨RX6, "says", "(II)I"⟩
abbrev cX6_bend : ByteArray := prog_1_method_9_code
def yX6_bend : MethodName := ⟨RX6, "bend", "(IIII)I"⟩
abbrev cX6_ask : ByteArray := prog_1_method_10_code
def yX6_ask : MethodName := ⟨RX6, "ask", "(II)I"⟩
abbrev cX6_sign : ByteArray := prog_1_method_11_code
def yX6_sign : MethodName := ⟨RX6, "sign", "(IZI)I"⟩
abbrev cX6_anew : ByteArray := prog_1_method_12_code
def yX6_anew : MethodName := ⟨RX6, "anew", "()I"⟩
abbrev cX6_feed : ByteArray := prog_1_method_13_code
def yX6_feed : MethodName := ⟨RX6, "feed", "(I)I"⟩
abbrev cX6_wipe : ByteArray := prog_1_method_14_code
def yX6_wipe : MethodName := ⟨RX6, "wipe", "()I"⟩
abbrev cX6_way : ByteArray := prog_1_method_15_code
def yX6_way : MethodName := ⟨RX6, "way", "()I"⟩
abbrev cX6_bendOf : ByteArray := prog_1_method_16_code
def yX6_bendOf : MethodName := ⟨RX6, "bendOf", "(II)I"⟩
abbrev cX6_signOf : ByteArray := prog_1_method_17_code
def yX6_signOf : MethodName := ⟨RX6, "signOf", "(II)I"⟩
abbrev cX6_call : ByteArray := prog_1_method_18_code
def yX6_call : MethodName := ⟨RX6, "call", "(III)I"⟩
abbrev cX6_callOf : ByteArray := prog_1_method_19_code
def yX6_callOf : MethodName := ⟨RX6, "callOf", "(II)I"⟩
abbrev cX6_fall : ByteArray := prog_1_method_20_code
def yX6_fall : MethodName := ⟨RX6, "fall", "(II)I"⟩
abbrev cX6_fell : ByteArray := prog_1_method_21_code
def yX6_fell : MethodName := ⟨RX6, "fell", "(II)I"⟩
abbrev cX6_weight : ByteArray := prog_1_method_22_code
def yX6_weight : MethodName := ⟨RX6, "weight", "(I)I"⟩
abbrev cX6_likely : ByteArray := prog_1_method_23_code
def yX6_likely : MethodName := ⟨RX6, "likely", "(I)I"⟩
abbrev cX6_between : ByteArray := prog_1_method_24_code
def yX6_between : MethodName := ⟨RX6, "between", "(II)I"⟩
abbrev cX6_half : ByteArray := prog_1_method_25_code
def yX6_half : MethodName := ⟨RX6, "half", "()I"⟩
abbrev cX6_few : ByteArray := prog_1_method_26_code
def yX6_few : MethodName := ⟨RX6, "few", "(I)I"⟩
abbrev cX6_asks : ByteArray := prog_1_method_27_code
def yX6_asks : MethodName := ⟨RX6, "asks", "()I"⟩
abbrev cX6_after : ByteArray := prog_1_method_28_code
def yX6_after : MethodName := ⟨RX6, "after", "(IZI)I"⟩
abbrev cX6_where : ByteArray := prog_1_method_29_code
def yX6_where : MethodName := ⟨RX6, "where", "()I"⟩
abbrev cX6_last : ByteArray := prog_1_method_30_code
def yX6_last : MethodName := ⟨RX6, "last", "()I"⟩
abbrev cX6_worst : ByteArray := prog_1_method_31_code
def yX6_worst : MethodName := ⟨RX6, "worst", "()I"⟩
abbrev cX6_seconds : ByteArray := prog_1_method_32_code
def yX6_seconds : MethodName := ⟨RX6, "seconds", "(II)I"⟩
abbrev cX6_found : ByteArray := prog_1_method_33_code
def yX6_found : MethodName := ⟨RX6, "found", "(II)I"⟩
abbrev cX6_best : ByteArray := prog_1_method_34_code
def yX6_best : MethodName := ⟨RX6, "best", "(II)I"⟩
abbrev cX6_next : ByteArray := prog_1_method_35_code
def yX6_next : MethodName := ⟨RX6, "next", "()I"⟩
abbrev cX6_soonest : ByteArray := prog_1_method_36_code
def yX6_soonest : MethodName := ⟨RX6, "soonest", "(I)I"⟩
abbrev cX6_order : ByteArray := prog_1_method_37_code
def yX6_order : MethodName := ⟨RX6, "order", "(I)I"⟩
abbrev cX6_vain : ByteArray := prog_1_method_38_code
def yX6_vain : MethodName := ⟨RX6, "vain", "(I)I"⟩
abbrev cX6_others : ByteArray := prog_1_method_39_code
def yX6_others : MethodName := ⟨RX6, "others", "(I)I"⟩
abbrev cX6_fast : ByteArray := prog_1_method_40_code
def yX6_fast : MethodName := ⟨RX6, "fast", "(I)I"⟩
abbrev cX6_drove : ByteArray := prog_1_method_41_code
def yX6_drove : MethodName := ⟨RX6, "drove", "(I)I"⟩
abbrev cX6_gripFor : ByteArray := prog_1_method_42_code
def yX6_gripFor : MethodName := ⟨RX6, "gripFor", "(I)I"⟩
abbrev cX6_otherwise : ByteArray := prog_1_method_43_code
def yX6_otherwise : MethodName := ⟨RX6, "otherwise", "()I"⟩
abbrev cX6_slows : ByteArray := prog_1_method_44_code
def yX6_slows : MethodName := ⟨RX6, "slows", "(I)I"⟩
abbrev cX6_without : ByteArray := prog_1_method_45_code
def yX6_without : MethodName := ⟨RX6, "without", "(I)I"⟩
abbrev cX6_once : ByteArray := prog_1_method_46_code
def yX6_once : MethodName := ⟨RX6, "once", "(I)I"⟩
abbrev cX6_until : ByteArray := prog_1_method_47_code
def yX6_until : MethodName := ⟨RX6, "until", "(I)I"⟩
abbrev cX6_worth : ByteArray := prog_1_method_48_code
def yX6_worth : MethodName := ⟨RX6, "worth", "(III)I"⟩
abbrev cX6_hears : ByteArray := prog_1_method_49_code
def yX6_hears : MethodName := ⟨RX6, "hears", "(I)I"⟩
abbrev cX6_rings : ByteArray := prog_1_method_50_code
def yX6_rings : MethodName := ⟨RX6, "rings", "(I)I"⟩
abbrev cX6_judge : ByteArray := prog_1_method_51_code
def yX6_judge : MethodName := ⟨RX6, "judge", "(II)I"⟩
abbrev cX6_apart : ByteArray := prog_1_method_52_code
def yX6_apart : MethodName := ⟨RX6, "apart", "(II)I"⟩
abbrev cX6_search : ByteArray := prog_1_method_53_code
def yX6_search : MethodName := ⟨RX6, "search", "(III)I"⟩
abbrev cX6_lies : ByteArray := prog_1_method_54_code
def yX6_lies : MethodName := ⟨RX6, "lies", "(I)I"⟩
abbrev cX6_drive : ByteArray := prog_1_method_55_code
def yX6_drive : MethodName := ⟨RX6, "drive", "()I"⟩
abbrev cX6_look : ByteArray := prog_1_method_56_code
def yX6_look : MethodName := ⟨RX6, "look", "(II)I"⟩
abbrev cX6_trips : ByteArray := prog_1_method_57_code
def yX6_trips : MethodName := ⟨RX6, "trips", "(I)I"⟩
abbrev cX6_seed : ByteArray := prog_1_method_58_code
def yX6_seed : MethodName := ⟨RX6, "seed", "(I)I"⟩
abbrev cX6_image : ByteArray := prog_1_method_59_code
def yX6_image : MethodName := ⟨RX6, "image", "()I"⟩
abbrev cX6_back : ByteArray := prog_1_method_60_code
def yX6_back : MethodName := ⟨RX6, "back", "()I"⟩
abbrev cX6_status : ByteArray := prog_1_method_61_code
def yX6_status : MethodName := ⟨RX6, "status", "(I)I"⟩
abbrev cX6_refuse : ByteArray := prog_1_method_62_code
def yX6_refuse : MethodName := ⟨RX6, "refuse", "(I)I"⟩
abbrev cX6_refused : ByteArray := prog_1_method_63_code
def yX6_refused : MethodName := ⟨RX6, "refused", "(I)I"⟩
abbrev cX6_shelfAt : ByteArray := prog_1_method_64_code
def yX6_shelfAt : MethodName := ⟨RX6, "shelfAt", "(I)LOnTheRoof$Shelf;"⟩
abbrev cX6_fullShelves : ByteArray := prog_1_method_65_code
def yX6_fullShelves : MethodName := ⟨RX6, "fullShelves", "()I"⟩
abbrev cX6_isBendOrNone : ByteArray := prog_1_method_66_code
def yX6_isBendOrNone : MethodName := ⟨RX6, "isBendOrNone", "(I)Z"⟩
abbrev cX6_isLookAt : ByteArray := prog_1_method_67_code
def yX6_isLookAt : MethodName := ⟨RX6, "isLookAt", "(II)Z"⟩
abbrev cX6_isSign : ByteArray := prog_1_method_68_code
def yX6_isSign : MethodName := ⟨RX6, "isSign", "(II)Z"⟩
abbrev cX6_isToldLook : ByteArray := prog_1_method_69_code
def yX6_isToldLook : MethodName := ⟨RX6, "isToldLook", "(J)Z"⟩
abbrev cX6_heldNow : ByteArray := prog_1_method_70_code
def yX6_heldNow : MethodName := ⟨RX6, "heldNow", "()I"⟩
abbrev cX6_thousandthsOfAll : ByteArray := prog_1_method_71_code
def yX6_thousandthsOfAll : MethodName := ⟨RX6, "thousandthsOfAll", "(I)I"⟩
abbrev cX6_heardBy : ByteArray := prog_1_method_72_code
def yX6_heardBy : MethodName := ⟨RX6, "heardBy", "(I)I"⟩
abbrev cX6_heardBySet : ByteArray := prog_1_method_73_code
def yX6_heardBySet : MethodName := ⟨RX6, "heardBySet", "(I)I"⟩
abbrev cX6_minutesOf : ByteArray := prog_1_method_74_code
def yX6_minutesOf : MethodName := ⟨RX6, "minutesOf", "(I)I"⟩
abbrev cX6_wrongPiece : ByteArray := prog_1_method_75_code
def yX6_wrongPiece : MethodName := ⟨RX6, "wrongPiece", "(LOnTheRoof$Shelf;I)I"⟩
abbrev cX6_isWithin : ByteArray := prog_1_method_76_code
def yX6_isWithin : MethodName := ⟨RX6, "isWithin", "(III)Z"⟩
abbrev cX6_isIn : ByteArray := prog_1_method_77_code
def yX6_isIn : MethodName := ⟨RX6, "isIn", "(II)Z"⟩
abbrev cX6_isLook : ByteArray := prog_1_method_78_code
def yX6_isLook : MethodName := ⟨RX6, "isLook", "(I)Z"⟩
abbrev cX6_isUnder : ByteArray := prog_1_method_79_code
def yX6_isUnder : MethodName := ⟨RX6, "isUnder", "(II)Z"⟩
abbrev cX6_seenBy : ByteArray := prog_1_method_80_code
def yX6_seenBy : MethodName := ⟨RX6, "seenBy", "(I)I"⟩
abbrev cX6_missBehind : ByteArray := prog_1_method_81_code
def yX6_missBehind : MethodName := ⟨RX6, "missBehind", "(II)I"⟩
abbrev cX6_goneBy : ByteArray := prog_1_method_82_code
def yX6_goneBy : MethodName := ⟨RX6, "goneBy", "(III)I"⟩
abbrev cX6_afterTrip : ByteArray := prog_1_method_83_code
def yX6_afterTrip : MethodName := ⟨RX6, "afterTrip", "(II)I"⟩
def RX7 : String := "OnTheRoofModel"
def TX7 : u_T := fun k => match k with
  | 0 => ("OnTheRoofModel", "shelf", "[I", true)
  | 1 => ("OnTheRoofModel", "rowSort", "[I", true)
  | 2 => ("OnTheRoofModel", "rowSize", "[I", true)
  | 3 => ("OnTheRoofModel", "rows", "[[J", true)
  | 4 => ("OnTheRoofModel", "moved", "[J", true)
  | 5 => ("OnTheRoofModel", "shown", "[I", true)
  | 6 => ("OnTheRoofModel", "tape", "[I", true)
  | 7 => ("OnTheRoofModel", "tapeSize", "I", false)
  | 8 => ("OnTheRoofModel", "refused", "[I", true)
  | 9 => ("OnTheRoofModel", "bends", "I", false)
  | 10 => ("OnTheRoofModel", "kind", "[I", true)
  | 11 => ("OnTheRoofModel", "by", "[I", true)
  | 12 => ("OnTheRoofModel", "yards", "[I", true)
  | 13 => ("OnTheRoofModel", "people", "[I", true)
  | 14 => ("OnTheRoofModel", "miss", "[I", true)
  | 15 => ("OnTheRoofModel", "signs", "I", false)
  | 16 => ("OnTheRoofModel", "signAt", "[I", true)
  | 17 => ("OnTheRoofModel", "signIs", "[I", true)
  | 18 => ("OnTheRoofModel", "sure", "[I", true)
  | 19 => ("OnTheRoofModel", "calls", "I", false)
  | 20 => ("OnTheRoofModel", "callAt", "[I", true)
  | 21 => ("OnTheRoofModel", "minutes", "[I", true)
  | 22 => ("OnTheRoofModel", "knows", "[I", true)
  | 23 => ("OnTheRoofModel", "pace", "I", false)
  | 24 => ("OnTheRoofModel", "wet", "I", false)
  | 25 => ("OnTheRoofModel", "grip", "I", false)
  | 26 => ("OnTheRoofModel", "lies", "I", false)
  | 27 => ("OnTheRoofModel", "seed", "I", false)
  | 28 => ("OnTheRoofModel", "kept", "LOnTheRoofModel;", false)
  | 29 => ("OnTheRoofModel", "tried", "LOnTheRoofModel;", false)
  | 30 => ("OnTheRoofModel", "at", "I", false)
  | 31 => ("OnTheRoofModel", "token", "I", false)
  | 32 => ("OnTheRoofModel", "from", "I", false)
  | 33 => ("OnTheRoofModel", "figures", "I", false)
  | 34 => ("OnTheRoofModel", "fault", "I", false)
  | 35 => ("OnTheRoofModel", "told", "[I", true)
  | 36 => ("OnTheRoofModel", "statements", "I", false)
  | 37 => ("OnTheRoofModel", "fell", "[I", true)
  | 38 => ("OnTheRoofModel", "held", "I", false)
  | 39 => ("OnTheRoofModel", "weight", "[I", true)
  | 40 => ("OnTheRoofModel", "weightHeld", "I", false)
  | 41 => ("OnTheRoofModel", "weights", "I", false)
  | _ => ("OnTheRoofModel", "most", "[[I", true)
def tyX7 : Nat → FieldType := fun k => match k with
  | 0 => .array .int
  | 1 => .array .int
  | 2 => .array .int
  | 3 => .array (.array .long)
  | 4 => .array .long
  | 5 => .array .int
  | 6 => .array .int
  | 7 => .int
  | 8 => .array .int
  | 9 => .int
  | 10 => .array .int
  | 11 => .array .int
  | 12 => .array .int
  | 13 => .array .int
  | 14 => .array .int
  | 15 => .int
  | 16 => .array .int
  | 17 => .array .int
  | 18 => .array .int
  | 19 => .int
  | 20 => .array .int
  | 21 => .array .int
  | 22 => .array .int
  | 23 => .int
  | 24 => .int
  | 25 => .int
  | 26 => .int
  | 27 => .int
  | 28 => .object "OnTheRoofModel"
  | 29 => .object "OnTheRoofModel"
  | 30 => .int
  | 31 => .int
  | 32 => .int
  | 33 => .int
  | 34 => .int
  | 35 => .array .int
  | 36 => .int
  | 37 => .array .int
  | 38 => .int
  | 39 => .array .int
  | 40 => .int
  | 41 => .int
  | _ => .array (.array .int)
abbrev wsX70 : List Cond := u_ws RX7 TX7 43
theorem nmX7 : ∀ a, a < 43 → ∀ b, b < 43 → a ≠ b → (TX7 a).2.1 ≠ (TX7 b).2.1 := by decide +kernel
theorem tyX7_ok : ∀ k, k < 43 → parseFieldDescriptor (TX7 k).2.2.1 = some (tyX7 k) := by decide +kernel
abbrev cX7_init : ByteArray := prog_9_method_1_code
def yX7_init : MethodName := ⟨RX7, "<init>", "()V"⟩
abbrev cX7_refuse : ByteArray := prog_9_method_2_code
def yX7_refuse : MethodName := ⟨RX7, "refuse", "(I)I"⟩
abbrev cX7_in : ByteArray := prog_9_method_3_code
def yX7_in : MethodName := ⟨RX7, "in", "(JJJ)Z"⟩
abbrev cX7_isBend : ByteArray := prog_9_method_4_code
def yX7_isBend : MethodName := ⟨RX7, "isBend", "(J)Z"⟩
abbrev cX7_has : ByteArray := prog_9_method_5_code
def yX7_has : MethodName := ⟨RX7, "has", "(II)Z"⟩
abbrev cX7_bits : ByteArray := prog_9_method_6_code
def yX7_bits : MethodName := ⟨RX7, "bits", "(I)I"⟩
abbrev cX7_row : ByteArray := prog_9_method_7_code
def yX7_row : MethodName := ⟨RX7, "row", "(III)I"⟩
abbrev cX7_fit : ByteArray := prog_9_method_8_code
def yX7_fit : MethodName := ⟨RX7, "fit", "(IJ)J"⟩
abbrev cX7_noRow : ByteArray := prog_9_method_9_code
def yX7_noRow : MethodName := ⟨RX7, "noRow", "(I)I"⟩
abbrev cX7_set : ByteArray := prog_9_method_10_code
def yX7_set : MethodName := ⟨RX7, "set", "(IIJ)I"⟩
abbrev cX7_copy : ByteArray := prog_9_method_11_code
def yX7_copy : MethodName := ⟨RX7, "copy", "(IIIII)I"⟩
abbrev cX7_element : ByteArray := prog_9_method_12_code
def yX7_element : MethodName := ⟨RX7, "element", "(II)J"⟩
abbrev cX7_holds : ByteArray := prog_9_method_13_code
def yX7_holds : MethodName := ⟨RX7, "holds", "(I)I"⟩
abbrev cX7_show : ByteArray := prog_9_method_14_code
def yX7_show : MethodName := ⟨RX7, "show", "(II)I"⟩
abbrev cX7_isUnder : ByteArray := prog_9_method_15_code
def yX7_isUnder : MethodName := ⟨RX7, "isUnder", "(II)Z"⟩
abbrev cX7_says : ByteArray := prog_9_method_16_code
def yX7_says : MethodName := ⟨RX7, "says", "(II)I"⟩
abbrev cX7_addBend : ByteArray := prog_9_method_17_code
def yX7_addBend : MethodName := ⟨RX7, "addBend", "(IIII)V"⟩
abbrev cX7_bend : ByteArray := prog_9_method_18_code
def yX7_bend : MethodName := ⟨RX7, "bend", "(IIII)I"⟩
abbrev cX7_ask : ByteArray := prog_9_method_19_code
def yX7_ask : MethodName := ⟨RX7, "ask", "(II)I"⟩
abbrev cX7_addSign : ByteArray := prog_9_method_20_code
def yX7_addSign : MethodName := ⟨RX7, "addSign", "(III)V"⟩
abbrev cX7_sign : ByteArray := prog_9_method_21_code
def yX7_sign : MethodName := ⟨RX7, "sign", "(IZI)I"⟩
abbrev cX7_noSigns : ByteArray := prog_9_method_22_code
def yX7_noSigns : MethodName := ⟨RX7, "noSigns", "()I"⟩
abbrev cX7_anew : ByteArray := prog_9_method_23_code
def yX7_anew : MethodName := ⟨RX7, "anew", "()I"⟩
abbrev cX7_addCall : ByteArray := prog_9_method_24_code
def yX7_addCall : MethodName := ⟨RX7, "addCall", "(III)V"⟩
abbrev cX7_call : ByteArray := prog_9_method_25_code
def yX7_call : MethodName := ⟨RX7, "call", "(III)I"⟩
abbrev cX7_feed : ByteArray := prog_9_method_26_code
def yX7_feed : MethodName := ⟨RX7, "feed", "(I)I"⟩
abbrev cX7_wipe : ByteArray := prog_9_method_27_code
def yX7_wipe : MethodName := ⟨RX7, "wipe", "()I"⟩
abbrev cX7_isLetter : ByteArray := prog_9_method_28_code
def yX7_isLetter : MethodName := ⟨RX7, "isLetter", "(I)Z"⟩
abbrev cX7_isDigit : ByteArray := prog_9_method_29_code
def yX7_isDigit : MethodName := ⟨RX7, "isDigit", "(I)Z"⟩
abbrev cX7_token : ByteArray := prog_9_method_30_code
def yX7_token : MethodName := ⟨RX7, "token", "()V"⟩
abbrev cX7_wrong : ByteArray := prog_9_method_31_code
def yX7_wrong : MethodName := ⟨RX7, "wrong", "()Z"⟩
abbrev cX7_isWord : ByteArray := prog_9_method_32_code
def yX7_isWord : MethodName := ⟨RX7, "isWord", "(Ljava/lang/String;)Z"⟩
abbrev cX7_number : ByteArray := prog_9_method_33_code
def yX7_number : MethodName := ⟨RX7, "number", "(III)Z"⟩
abbrev cX7_tells : ByteArray := prog_9_method_34_code
def yX7_tells : MethodName := ⟨RX7, "tells", "(II)Z"⟩
abbrev cX7_asked : ByteArray := prog_9_method_35_code
def yX7_asked : MethodName := ⟨RX7, "asked", "(III)Z"⟩
abbrev cX7_statement : ByteArray := prog_9_method_36_code
def yX7_statement : MethodName := ⟨RX7, "statement", "()Z"⟩
abbrev cX7_readAll : ByteArray := prog_9_method_37_code
def yX7_readAll : MethodName := ⟨RX7, "readAll", "()Z"⟩
abbrev cX7_fresh : ByteArray := prog_9_method_38_code
def yX7_fresh : MethodName := ⟨RX7, "fresh", "()LOnTheRoofModel;"⟩
abbrev cX7_way : ByteArray := prog_9_method_39_code
def yX7_way : MethodName := ⟨RX7, "way", "()I"⟩
abbrev cX7_yardsTo : ByteArray := prog_9_method_40_code
def yX7_yardsTo : MethodName := ⟨RX7, "yardsTo", "(I)I"⟩
abbrev cX7_bendOf : ByteArray := prog_9_method_41_code
def yX7_bendOf : MethodName := ⟨RX7, "bendOf", "(II)I"⟩
abbrev cX7_signOf : ByteArray := prog_9_method_42_code
def yX7_signOf : MethodName := ⟨RX7, "signOf", "(II)I"⟩
abbrev cX7_callOf : ByteArray := prog_9_method_43_code
def yX7_callOf : MethodName := ⟨RX7, "callOf", "(II)I"⟩
abbrev cX7_fallOf : ByteArray := prog_9_method_44_code
def yX7_fallOf : MethodName := ⟨RX7, "fallOf", "(II)I"⟩
abbrev cX7_fall : ByteArray := prog_9_method_45_code
def yX7_fall : MethodName := ⟨RX7, "fall", "(II)I"⟩
abbrev cX7_goes : ByteArray := prog_9_method_46_code
def yX7_goes : MethodName := ⟨RX7, "goes", "(III)V"⟩
abbrev cX7_heldBy : ByteArray := prog_9_method_47_code
def yX7_heldBy : MethodName := ⟨RX7, "heldBy", "(I)I"⟩
abbrev cX7_fell : ByteArray := prog_9_method_48_code
def yX7_fell : MethodName := ⟨RX7, "fell", "(II)I"⟩
abbrev cX7_part : ByteArray := prog_9_method_49_code
def yX7_part : MethodName := ⟨RX7, "part", "(II)I"⟩
abbrev cX7_weigh : ByteArray := prog_9_method_50_code
def yX7_weigh : MethodName := ⟨RX7, "weigh", "()V"⟩
abbrev cX7_weight : ByteArray := prog_9_method_51_code
def yX7_weight : MethodName := ⟨RX7, "weight", "(I)I"⟩
abbrev cX7_thousandths : ByteArray := prog_9_method_52_code
def yX7_thousandths : MethodName := ⟨RX7, "thousandths", "(J)I"⟩
abbrev cX7_likely : ByteArray := prog_9_method_53_code
def yX7_likely : MethodName := ⟨RX7, "likely", "(I)I"⟩
abbrev cX7_sumOf : ByteArray := prog_9_method_54_code
def yX7_sumOf : MethodName := ⟨RX7, "sumOf", "(II)I"⟩
abbrev cX7_between : ByteArray := prog_9_method_55_code
def yX7_between : MethodName := ⟨RX7, "between", "(II)I"⟩
abbrev cX7_half : ByteArray := prog_9_method_56_code
def yX7_half : MethodName := ⟨RX7, "half", "()I"⟩
abbrev cX7_few : ByteArray := prog_9_method_57_code
def yX7_few : MethodName := ⟨RX7, "few", "(I)I"⟩
abbrev cX7_asks : ByteArray := prog_9_method_58_code
def yX7_asks : MethodName := ⟨RX7, "asks", "()I"⟩
abbrev cX7_after : ByteArray := prog_9_method_59_code
def yX7_after : MethodName := ⟨RX7, "after", "(IZI)I"⟩
abbrev cX7_where : ByteArray := prog_9_method_60_code
def yX7_where : MethodName := ⟨RX7, "where", "()I"⟩
abbrev cX7_sees : ByteArray := prog_9_method_61_code
def yX7_sees : MethodName := ⟨RX7, "sees", "(I)I"⟩
abbrev cX7_misses : ByteArray := prog_9_method_62_code
def yX7_misses : MethodName := ⟨RX7, "misses", "(II)V"⟩
abbrev cX7_secondsOf : ByteArray := prog_9_method_63_code
def yX7_secondsOf : MethodName := ⟨RX7, "secondsOf", "(II)I"⟩
abbrev cX7_isLook : ByteArray := prog_9_method_64_code
def yX7_isLook : MethodName := ⟨RX7, "isLook", "(I)Z"⟩
abbrev cX7_seconds : ByteArray := prog_9_method_65_code
def yX7_seconds : MethodName := ⟨RX7, "seconds", "(II)I"⟩
abbrev cX7_foundBy : ByteArray := prog_9_method_66_code
def yX7_foundBy : MethodName := ⟨RX7, "foundBy", "(II)I"⟩
abbrev cX7_found : ByteArray := prog_9_method_67_code
def yX7_found : MethodName := ⟨RX7, "found", "(II)I"⟩
abbrev cX7_tensOf : ByteArray := prog_9_method_68_code
def yX7_tensOf : MethodName := ⟨RX7, "tensOf", "(II)I"⟩
abbrev cX7_mostBy : ByteArray := prog_9_method_69_code
def yX7_mostBy : MethodName := ⟨RX7, "mostBy", "(III)I"⟩
abbrev cX7_findMost : ByteArray := prog_9_method_70_code
def yX7_findMost : MethodName := ⟨RX7, "findMost", "()V"⟩
abbrev cX7_best : ByteArray := prog_9_method_71_code
def yX7_best : MethodName := ⟨RX7, "best", "(II)I"⟩
abbrev cX7_nextNow : ByteArray := prog_9_method_72_code
def yX7_nextNow : MethodName := ⟨RX7, "nextNow", "()I"⟩
abbrev cX7_next : ByteArray := prog_9_method_73_code
def yX7_next : MethodName := ⟨RX7, "next", "()I"⟩
abbrev cX7_soonest : ByteArray := prog_9_method_74_code
def yX7_soonest : MethodName := ⟨RX7, "soonest", "(I)I"⟩
abbrev cX7_vainly : ByteArray := prog_9_method_75_code
def yX7_vainly : MethodName := ⟨RX7, "vainly", "(I)LOnTheRoofModel;"⟩
abbrev cX7_order : ByteArray := prog_9_method_76_code
def yX7_order : MethodName := ⟨RX7, "order", "(I)I"⟩
abbrev cX7_vain : ByteArray := prog_9_method_77_code
def yX7_vain : MethodName := ⟨RX7, "vain", "(I)I"⟩
abbrev cX7_others : ByteArray := prog_9_method_78_code
def yX7_others : MethodName := ⟨RX7, "others", "(I)I"⟩
abbrev cX7_fast : ByteArray := prog_9_method_79_code
def yX7_fast : MethodName := ⟨RX7, "fast", "(I)I"⟩
abbrev cX7_drove : ByteArray := prog_9_method_80_code
def yX7_drove : MethodName := ⟨RX7, "drove", "(I)I"⟩
abbrev cX7_gripFor : ByteArray := prog_9_method_81_code
def yX7_gripFor : MethodName := ⟨RX7, "gripFor", "(I)I"⟩
abbrev cX7_otherwise : ByteArray := prog_9_method_82_code
def yX7_otherwise : MethodName := ⟨RX7, "otherwise", "()I"⟩
abbrev cX7_slows : ByteArray := prog_9_method_83_code
def yX7_slows : MethodName := ⟨RX7, "slows", "(I)I"⟩
abbrev cX7_without : ByteArray := prog_9_method_84_code
def yX7_without : MethodName := ⟨RX7, "without", "(I)I"⟩
abbrev cX7_once : ByteArray := prog_9_method_85_code
def yX7_once : MethodName := ⟨RX7, "once", "(I)I"⟩
abbrev cX7_until : ByteArray := prog_9_method_86_code
def yX7_until : MethodName := ⟨RX7, "until", "(I)I"⟩
abbrev cX7_worst : ByteArray := prog_9_method_87_code
def yX7_worst : MethodName := ⟨RX7, "worst", "()I"⟩
abbrev cX7_last : ByteArray := prog_9_method_88_code
def yX7_last : MethodName := ⟨RX7, "last", "()I"⟩
abbrev cX7_hearsOf : ByteArray := prog_9_method_89_code
def yX7_hearsOf : MethodName := ⟨RX7, "hearsOf", "(I)I"⟩
abbrev cX7_hears : ByteArray := prog_9_method_90_code
def yX7_hears : MethodName := ⟨RX7, "hears", "(I)I"⟩
abbrev cX7_rings : ByteArray := prog_9_method_91_code
def yX7_rings : MethodName := ⟨RX7, "rings", "(I)I"⟩
abbrev cX7_worth : ByteArray := prog_9_method_92_code
def yX7_worth : MethodName := ⟨RX7, "worth", "(III)I"⟩
abbrev cX7_noList : ByteArray := prog_9_method_93_code
def yX7_noList : MethodName := ⟨RX7, "noList", "(II)I"⟩
abbrev cX7_wrongIn : ByteArray := prog_9_method_94_code
def yX7_wrongIn : MethodName := ⟨RX7, "wrongIn", "([JI)I"⟩
abbrev cX7_judge : ByteArray := prog_9_method_95_code
def yX7_judge : MethodName := ⟨RX7, "judge", "(II)I"⟩
abbrev cX7_apart : ByteArray := prog_9_method_96_code
def yX7_apart : MethodName := ⟨RX7, "apart", "(II)I"⟩
abbrev cX7_areLooks : ByteArray := prog_9_method_97_code
def yX7_areLooks : MethodName := ⟨RX7, "areLooks", "([JI)Z"⟩
abbrev cX7_search : ByteArray := prog_9_method_98_code
def yX7_search : MethodName := ⟨RX7, "search", "(III)I"⟩
abbrev cX7_lies : ByteArray := prog_9_method_99_code
def yX7_lies : MethodName := ⟨RX7, "lies", "(I)I"⟩
abbrev cX7_below : ByteArray := prog_9_method_100_code
def yX7_below : MethodName := ⟨RX7, "below", "(I)I"⟩
abbrev cX7_driven : ByteArray := prog_9_method_101_code
def yX7_driven : MethodName := ⟨RX7, "driven", "()I"⟩
abbrev cX7_drive : ByteArray := prog_9_method_102_code
def yX7_drive : MethodName := ⟨RX7, "drive", "()I"⟩
abbrev cX7_look : ByteArray := prog_9_method_103_code
def yX7_look : MethodName := ⟨RX7, "look", "(II)I"⟩
abbrev cX7_trips : ByteArray := prog_9_method_104_code
def yX7_trips : MethodName := ⟨RX7, "trips", "(I)I"⟩
abbrev cX7_seed : ByteArray := prog_9_method_105_code
def yX7_seed : MethodName := ⟨RX7, "seed", "(I)I"⟩
abbrev cX7_copied : ByteArray := prog_9_method_106_code
def yX7_copied : MethodName := ⟨RX7, "copied", "([I[I)V"⟩
abbrev cX7_takeFrom : ByteArray := prog_9_method_107_code
def yX7_takeFrom : MethodName := ⟨RX7, "takeFrom", "(LOnTheRoofModel;)V"⟩
abbrev cX7_image : ByteArray := prog_9_method_108_code
def yX7_image : MethodName := ⟨RX7, "image", "()I"⟩
abbrev cX7_back : ByteArray := prog_9_method_109_code
def yX7_back : MethodName := ⟨RX7, "back", "()I"⟩
abbrev cX7_looked : ByteArray := prog_9_method_110_code
def yX7_looked : MethodName := ⟨RX7, "looked", "()I"⟩
abbrev cX7_status : ByteArray := prog_9_method_111_code
def yX7_status : MethodName := ⟨RX7, "status", "(I)I"⟩
def RJ6 : String := "java/lang/Integer"
def TJ6 : u_T := fun k => match k with
  | _ => ("", "", "", false)
def tyJ6 : Nat → FieldType := fun k => match k with
  | _ => .int
abbrev wsJ60 : List Cond := u_ws RJ6 TJ6 0
theorem nmJ6 : ∀ a, a < 0 → ∀ b, b < 0 → a ≠ b → (TJ6 a).2.1 ≠ (TJ6 b).2.1 := by decide +kernel
theorem tyJ6_ok : ∀ k, k < 0 → parseFieldDescriptor (TJ6 k).2.2.1 = some (tyJ6 k) := by decide +kernel
abbrev cJ6_bitCount_0f7a4 : ByteArray := prog_10_method_49_code
def yJ6_bitCount_0f7a4 : MethodName := ⟨RJ6, "bitCount", "(I)I"⟩
def RJ9 : String := "java/lang/Math"
def TJ9 : u_T := fun k => match k with
  | _ => ("", "", "", false)
def tyJ9 : Nat → FieldType := fun k => match k with
  | _ => .int
abbrev wsJ90 : List Cond := u_ws RJ9 TJ9 0
theorem nmJ9 : ∀ a, a < 0 → ∀ b, b < 0 → a ≠ b → (TJ9 a).2.1 ≠ (TJ9 b).2.1 := by decide +kernel
theorem tyJ9_ok : ∀ k, k < 0 → parseFieldDescriptor (TJ9 k).2.2.1 = some (tyJ9 k) := by decide +kernel
abbrev cJ9_abs_0f7a4 : ByteArray := prog_11_method_59_code
def yJ9_abs_0f7a4 : MethodName := ⟨RJ9, "abs", "(I)I"⟩
abbrev cJ9_max_7cf53 : ByteArray := prog_11_method_65_code
def yJ9_max_7cf53 : MethodName := ⟨RJ9, "max", "(II)I"⟩
abbrev cJ9_min_7cf53 : ByteArray := prog_11_method_69_code
def yJ9_min_7cf53 : MethodName := ⟨RJ9, "min", "(II)I"⟩
def RJ0 : String := "java/lang/String"
def TJ0 : u_T := fun k => match k with
  | _ => ("", "", "", false)
def tyJ0 : Nat → FieldType := fun k => match k with
  | _ => .int
abbrev wsJ00 : List Cond := u_ws RJ0 TJ0 0
theorem nmJ0 : ∀ a, a < 0 → ∀ b, b < 0 → a ≠ b → (TJ0 a).2.1 ≠ (TJ0 b).2.1 := by decide +kernel
theorem tyJ0_ok : ∀ k, k < 0 → parseFieldDescriptor (TJ0 k).2.2.1 = some (tyJ0 k) := by decide +kernel
abbrev cJ0_length_8abf5 : ByteArray := prog_12_method_54_code
def yJ0_length_8abf5 : MethodName := ⟨RJ0, "length", "()I"⟩
abbrev cJ0_charAt_5068e : ByteArray := prog_12_method_56_code
def yJ0_charAt_5068e : MethodName := ⟨RJ0, "charAt", "(I)C"⟩
abbrev cJ0_coder_7d493 : ByteArray := prog_12_method_152_code
def yJ0_coder_7d493 : MethodName := ⟨RJ0, "coder", "()B"⟩
abbrev cJ0_isLatin1_aae02 : ByteArray := prog_12_method_154_code
def yJ0_isLatin1_aae02 : MethodName := ⟨RJ0, "isLatin1", "()Z"⟩
abbrev cJ0_checkIndex_df160 : ByteArray := prog_12_method_155_code
def yJ0_checkIndex_df160 : MethodName := ⟨RJ0, "checkIndex", "(II)V"⟩
def RJ1 : String := "java/lang/StringLatin1"
def TJ1 : u_T := fun k => match k with
  | _ => ("", "", "", false)
def tyJ1 : Nat → FieldType := fun k => match k with
  | _ => .int
abbrev wsJ10 : List Cond := u_ws RJ1 TJ1 0
theorem nmJ1 : ∀ a, a < 0 → ∀ b, b < 0 → a ≠ b → (TJ1 a).2.1 ≠ (TJ1 b).2.1 := by decide +kernel
theorem tyJ1_ok : ∀ k, k < 0 → parseFieldDescriptor (TJ1 k).2.2.1 = some (tyJ1 k) := by decide +kernel
abbrev cJ1_charAt_3b067 : ByteArray := prog_13_method_2_code
def yJ1_charAt_3b067 : MethodName := ⟨RJ1, "charAt", "([BI)C"⟩
def RJ2 : String := "java/lang/StringUTF16"
def TJ2 : u_T := fun k => match k with
  | _ => ("", "", "", false)
def tyJ2 : Nat → FieldType := fun k => match k with
  | _ => .int
abbrev wsJ20 : List Cond := u_ws RJ2 TJ2 0
theorem nmJ2 : ∀ a, a < 0 → ∀ b, b < 0 → a ≠ b → (TJ2 a).2.1 ≠ (TJ2 b).2.1 := by decide +kernel
theorem tyJ2_ok : ∀ k, k < 0 → parseFieldDescriptor (TJ2 k).2.2.1 = some (tyJ2 k) := by decide +kernel
abbrev cJ2_getChar_3b067 : ByteArray := prog_14_method_5_code
def yJ2_getChar_3b067 : MethodName := ⟨RJ2, "getChar", "([BI)C"⟩
abbrev cJ2_length_9d52b : ByteArray := prog_14_method_6_code
def yJ2_length_9d52b : MethodName := ⟨RJ2, "length", "([B)I"⟩
abbrev cJ2_charAt_3b067 : ByteArray := prog_14_method_83_code
def yJ2_charAt_3b067 : MethodName := ⟨RJ2, "charAt", "([BI)C"⟩
abbrev cJ2_checkIndex_2214a : ByteArray := prog_14_method_91_code
def yJ2_checkIndex_2214a : MethodName := ⟨RJ2, "checkIndex", "(I[B)V"⟩
def RJ10 : String := "java/lang/System"
def TJ10 : u_T := fun k => match k with
  | _ => ("", "", "", false)
def tyJ10 : Nat → FieldType := fun k => match k with
  | _ => .int
abbrev wsJ100 : List Cond := u_ws RJ10 TJ10 0
theorem nmJ10 : ∀ a, a < 0 → ∀ b, b < 0 → a ≠ b → (TJ10 a).2.1 ≠ (TJ10 b).2.1 := by decide +kernel
theorem tyJ10_ok : ∀ k, k < 0 → parseFieldDescriptor (TJ10 k).2.2.1 = some (tyJ10 k) := by decide +kernel
def RJ3 : String := "jdk/internal/util/Preconditions"
def TJ3 : u_T := fun k => match k with
  | _ => ("", "", "", false)
def tyJ3 : Nat → FieldType := fun k => match k with
  | _ => .int
abbrev wsJ30 : List Cond := u_ws RJ3 TJ3 0
theorem nmJ3 : ∀ a, a < 0 → ∀ b, b < 0 → a ≠ b → (TJ3 a).2.1 ≠ (TJ3 b).2.1 := by decide +kernel
theorem tyJ3_ok : ∀ k, k < 0 → parseFieldDescriptor (TJ3 k).2.2.1 = some (tyJ3 k) := by decide +kernel
abbrev cJ3_checkIndex_8e157 : ByteArray := prog_16_method_11_code
def yJ3_checkIndex_8e157 : MethodName := ⟨RJ3, "checkIndex", "(IILjava/util/function/BiFunction;)I"⟩
def RL : String := "OnTheRoofLaw"
abbrev cL_law : ByteArray := code
def yL_law : MethodName := ⟨RL, "law", "([I)Z"⟩
abbrev vwCl : List vw_C := [(RX0, TX0, 4), (RX1, TX1, 8), (RX2, TX2, 3), (RX3, TX3, 3), (RX4, TX4, 6), (RX5, TX5, 4), (RX6, TX6, 9), (RX7, TX7, 43)]
