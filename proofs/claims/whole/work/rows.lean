section
-- ===== PART A: goes FIRST, ahead of the names: the tables' words, and 'selects' of the private methods out of them =====
/-- a private method of a class that the tables say can be made, by its rows of tables_1 -/
def lw_okq (q : MethodName × Nat) : Prop := (q.1.cls ≠ "java/lang/invoke/MethodHandle" ∧ q.1.cls ≠ "java/lang/invoke/VarHandle") ∧ Cond.instantiable q.1.cls q.2 ∈ tables_1 ∧ Cond.privateMethod q.1 ∈ tables_1 ∧ Cond.instanceMethod q.1 ∈ tables_1
theorem lw_p0 : lw_okq (⟨"OnTheRoof", "shelfAt", "(I)LOnTheRoof$Shelf;"⟩, 9) := ⟨⟨by decide +kernel, by decide +kernel⟩, List.mem_of_getElem? (i := 17) (by decide +kernel), List.mem_of_getElem? (i := 206) (by decide +kernel), List.mem_of_getElem? (i := 207) (by decide +kernel)⟩
theorem lw_p1 : lw_okq (⟨"OnTheRoof", "refuse", "(I)I"⟩, 9) := ⟨⟨by decide +kernel, by decide +kernel⟩, List.mem_of_getElem? (i := 17) (by decide +kernel), List.mem_of_getElem? (i := 213) (by decide +kernel), List.mem_of_getElem? (i := 214) (by decide +kernel)⟩
theorem lw_p2 : lw_okq (⟨"OnTheRoof$Shelf", "keptOf", "(J)J"⟩, 3) := ⟨⟨by decide +kernel, by decide +kernel⟩, List.mem_of_getElem? (i := 156) (by decide +kernel), List.mem_of_getElem? (i := 243) (by decide +kernel), List.mem_of_getElem? (i := 244) (by decide +kernel)⟩
theorem lw_p3 : lw_okq (⟨"OnTheRoof", "isBendOrNone", "(I)Z"⟩, 9) := ⟨⟨by decide +kernel, by decide +kernel⟩, List.mem_of_getElem? (i := 17) (by decide +kernel), List.mem_of_getElem? (i := 283) (by decide +kernel), List.mem_of_getElem? (i := 284) (by decide +kernel)⟩
theorem lw_p4 : lw_okq (⟨"OnTheRoof$Table", "cellOf", "(II)I"⟩, 3) := ⟨⟨by decide +kernel, by decide +kernel⟩, List.mem_of_getElem? (i := 31) (by decide +kernel), List.mem_of_getElem? (i := 308) (by decide +kernel), List.mem_of_getElem? (i := 309) (by decide +kernel)⟩
theorem lw_p5 : lw_okq (⟨"OnTheRoof$Road", "fallBy", "(IIII)I"⟩, 8) := ⟨⟨by decide +kernel, by decide +kernel⟩, List.mem_of_getElem? (i := 25) (by decide +kernel), List.mem_of_getElem? (i := 320) (by decide +kernel), List.mem_of_getElem? (i := 321) (by decide +kernel)⟩
theorem lw_p6 : lw_okq (⟨"OnTheRoof", "isSign", "(II)Z"⟩, 9) := ⟨⟨by decide +kernel, by decide +kernel⟩, List.mem_of_getElem? (i := 17) (by decide +kernel), List.mem_of_getElem? (i := 373) (by decide +kernel), List.mem_of_getElem? (i := 374) (by decide +kernel)⟩
theorem lw_p7 : lw_okq (⟨"OnTheRoof$Tape", "step", "()V"⟩, 6) := ⟨⟨by decide +kernel, by decide +kernel⟩, List.mem_of_getElem? (i := 129) (by decide +kernel), List.mem_of_getElem? (i := 423) (by decide +kernel), List.mem_of_getElem? (i := 424) (by decide +kernel)⟩
theorem lw_p8 : lw_okq (⟨"OnTheRoof$Tape", "byteAt", "(I)I"⟩, 6) := ⟨⟨by decide +kernel, by decide +kernel⟩, List.mem_of_getElem? (i := 129) (by decide +kernel), List.mem_of_getElem? (i := 427) (by decide +kernel), List.mem_of_getElem? (i := 428) (by decide +kernel)⟩
theorem lw_p9 : lw_okq (⟨"OnTheRoof$Tape", "readStatement", "(LOnTheRoof$Road;)Z"⟩, 6) := ⟨⟨by decide +kernel, by decide +kernel⟩, List.mem_of_getElem? (i := 129) (by decide +kernel), List.mem_of_getElem? (i := 434) (by decide +kernel), List.mem_of_getElem? (i := 435) (by decide +kernel)⟩
theorem lw_p10 : lw_okq (⟨"OnTheRoof$Tape", "statementOf", "()I"⟩, 6) := ⟨⟨by decide +kernel, by decide +kernel⟩, List.mem_of_getElem? (i := 129) (by decide +kernel), List.mem_of_getElem? (i := 438) (by decide +kernel), List.mem_of_getElem? (i := 439) (by decide +kernel)⟩
theorem lw_p11 : lw_okq (⟨"OnTheRoof$Tape", "isWord", "(Ljava/lang/String;)Z"⟩, 6) := ⟨⟨by decide +kernel, by decide +kernel⟩, List.mem_of_getElem? (i := 129) (by decide +kernel), List.mem_of_getElem? (i := 443) (by decide +kernel), List.mem_of_getElem? (i := 444) (by decide +kernel)⟩
theorem lw_p12 : lw_okq (⟨"OnTheRoof$Tape", "valueOf", "()I"⟩, 6) := ⟨⟨by decide +kernel, by decide +kernel⟩, List.mem_of_getElem? (i := 129) (by decide +kernel), List.mem_of_getElem? (i := 512) (by decide +kernel), List.mem_of_getElem? (i := 513) (by decide +kernel)⟩
theorem lw_p13 : lw_okq (⟨"OnTheRoof$Tape", "carryOut", "(LOnTheRoof$Road;I)V"⟩, 6) := ⟨⟨by decide +kernel, by decide +kernel⟩, List.mem_of_getElem? (i := 129) (by decide +kernel), List.mem_of_getElem? (i := 517) (by decide +kernel), List.mem_of_getElem? (i := 518) (by decide +kernel)⟩
theorem lw_p14 : lw_okq (⟨"OnTheRoof", "thousandthsOfAll", "(I)I"⟩, 9) := ⟨⟨by decide +kernel, by decide +kernel⟩, List.mem_of_getElem? (i := 17) (by decide +kernel), List.mem_of_getElem? (i := 597) (by decide +kernel), List.mem_of_getElem? (i := 598) (by decide +kernel)⟩
theorem lw_p15 : lw_okq (⟨"OnTheRoof", "isLookAt", "(II)Z"⟩, 9) := ⟨⟨by decide +kernel, by decide +kernel⟩, List.mem_of_getElem? (i := 17) (by decide +kernel), List.mem_of_getElem? (i := 671) (by decide +kernel), List.mem_of_getElem? (i := 672) (by decide +kernel)⟩
def lw_privs_1 : List (MethodName × Nat) := [(⟨"OnTheRoof", "shelfAt", "(I)LOnTheRoof$Shelf;"⟩, 9), (⟨"OnTheRoof", "refuse", "(I)I"⟩, 9), (⟨"OnTheRoof$Shelf", "keptOf", "(J)J"⟩, 3), (⟨"OnTheRoof", "isBendOrNone", "(I)Z"⟩, 9), (⟨"OnTheRoof$Table", "cellOf", "(II)I"⟩, 3), (⟨"OnTheRoof$Road", "fallBy", "(IIII)I"⟩, 8), (⟨"OnTheRoof", "isSign", "(II)Z"⟩, 9), (⟨"OnTheRoof$Tape", "step", "()V"⟩, 6), (⟨"OnTheRoof$Tape", "byteAt", "(I)I"⟩, 6), (⟨"OnTheRoof$Tape", "readStatement", "(LOnTheRoof$Road;)Z"⟩, 6), (⟨"OnTheRoof$Tape", "statementOf", "()I"⟩, 6), (⟨"OnTheRoof$Tape", "isWord", "(Ljava/lang/String;)Z"⟩, 6), (⟨"OnTheRoof$Tape", "valueOf", "()I"⟩, 6), (⟨"OnTheRoof$Tape", "carryOut", "(LOnTheRoof$Road;I)V"⟩, 6), (⟨"OnTheRoof", "thousandthsOfAll", "(I)I"⟩, 9), (⟨"OnTheRoof", "isLookAt", "(II)Z"⟩, 9)]
theorem lw_r1 : ∀ q ∈ lw_privs_1, lw_okq q := List.forall_mem_cons.mpr ⟨lw_p0, List.forall_mem_cons.mpr ⟨lw_p1, List.forall_mem_cons.mpr ⟨lw_p2, List.forall_mem_cons.mpr ⟨lw_p3, List.forall_mem_cons.mpr ⟨lw_p4, List.forall_mem_cons.mpr ⟨lw_p5, List.forall_mem_cons.mpr ⟨lw_p6, List.forall_mem_cons.mpr ⟨lw_p7, List.forall_mem_cons.mpr ⟨lw_p8, List.forall_mem_cons.mpr ⟨lw_p9, List.forall_mem_cons.mpr ⟨lw_p10, List.forall_mem_cons.mpr ⟨lw_p11, List.forall_mem_cons.mpr ⟨lw_p12, List.forall_mem_cons.mpr ⟨lw_p13, List.forall_mem_cons.mpr ⟨lw_p14, List.forall_mem_cons.mpr ⟨lw_p15, fun _ h => absurd h List.not_mem_nil⟩⟩⟩⟩⟩⟩⟩⟩⟩⟩⟩⟩⟩⟩⟩⟩
theorem lw_p16 : lw_okq (⟨"OnTheRoof$Plan", "chooseLook", "(II)V"⟩, 4) := ⟨⟨by decide +kernel, by decide +kernel⟩, List.mem_of_getElem? (i := 110) (by decide +kernel), List.mem_of_getElem? (i := 702) (by decide +kernel), List.mem_of_getElem? (i := 703) (by decide +kernel)⟩
theorem lw_p17 : lw_okq (⟨"OnTheRoof$Weights", "rateOf", "(LOnTheRoof$Road;II)J"⟩, 4) := ⟨⟨by decide +kernel, by decide +kernel⟩, List.mem_of_getElem? (i := 90) (by decide +kernel), List.mem_of_getElem? (i := 722) (by decide +kernel), List.mem_of_getElem? (i := 723) (by decide +kernel)⟩
theorem lw_p18 : lw_okq (⟨"OnTheRoof", "heldNow", "()I"⟩, 9) := ⟨⟨by decide +kernel, by decide +kernel⟩, List.mem_of_getElem? (i := 17) (by decide +kernel), List.mem_of_getElem? (i := 801) (by decide +kernel), List.mem_of_getElem? (i := 802) (by decide +kernel)⟩
theorem lw_p19 : lw_okq (⟨"OnTheRoof", "heardBy", "(I)I"⟩, 9) := ⟨⟨by decide +kernel, by decide +kernel⟩, List.mem_of_getElem? (i := 17) (by decide +kernel), List.mem_of_getElem? (i := 822) (by decide +kernel), List.mem_of_getElem? (i := 823) (by decide +kernel)⟩
theorem lw_p20 : lw_okq (⟨"OnTheRoof", "minutesOf", "(I)I"⟩, 9) := ⟨⟨by decide +kernel, by decide +kernel⟩, List.mem_of_getElem? (i := 17) (by decide +kernel), List.mem_of_getElem? (i := 831) (by decide +kernel), List.mem_of_getElem? (i := 832) (by decide +kernel)⟩
theorem lw_p21 : lw_okq (⟨"OnTheRoof", "heardBySet", "(I)I"⟩, 9) := ⟨⟨by decide +kernel, by decide +kernel⟩, List.mem_of_getElem? (i := 17) (by decide +kernel), List.mem_of_getElem? (i := 836) (by decide +kernel), List.mem_of_getElem? (i := 837) (by decide +kernel)⟩
theorem lw_p22 : lw_okq (⟨"OnTheRoof", "wrongPiece", "(LOnTheRoof$Shelf;I)I"⟩, 9) := ⟨⟨by decide +kernel, by decide +kernel⟩, List.mem_of_getElem? (i := 17) (by decide +kernel), List.mem_of_getElem? (i := 850) (by decide +kernel), List.mem_of_getElem? (i := 851) (by decide +kernel)⟩
theorem lw_p23 : lw_okq (⟨"OnTheRoof", "isToldLook", "(J)Z"⟩, 9) := ⟨⟨by decide +kernel, by decide +kernel⟩, List.mem_of_getElem? (i := 17) (by decide +kernel), List.mem_of_getElem? (i := 862) (by decide +kernel), List.mem_of_getElem? (i := 863) (by decide +kernel)⟩
theorem lw_p24 : lw_okq (⟨"OnTheRoof$Road", "draw", "(I)I"⟩, 8) := ⟨⟨by decide +kernel, by decide +kernel⟩, List.mem_of_getElem? (i := 25) (by decide +kernel), List.mem_of_getElem? (i := 881) (by decide +kernel), List.mem_of_getElem? (i := 882) (by decide +kernel)⟩
theorem lw_p25 : lw_okq (⟨"OnTheRoof", "refused", "(I)I"⟩, 9) := ⟨⟨by decide +kernel, by decide +kernel⟩, List.mem_of_getElem? (i := 17) (by decide +kernel), List.mem_of_getElem? (i := 916) (by decide +kernel), List.mem_of_getElem? (i := 917) (by decide +kernel)⟩
theorem lw_p26 : lw_okq (⟨"OnTheRoof", "fullShelves", "()I"⟩, 9) := ⟨⟨by decide +kernel, by decide +kernel⟩, List.mem_of_getElem? (i := 17) (by decide +kernel), List.mem_of_getElem? (i := 920) (by decide +kernel), List.mem_of_getElem? (i := 921) (by decide +kernel)⟩
theorem lw_p27 : lw_okq (⟨"OnTheRoofModel", "refuse", "(I)I"⟩, 43) := ⟨⟨by decide +kernel, by decide +kernel⟩, List.mem_of_getElem? (i := 928) (by decide +kernel), List.mem_of_getElem? (i := 1078) (by decide +kernel), List.mem_of_getElem? (i := 1079) (by decide +kernel)⟩
theorem lw_p28 : lw_okq (⟨"OnTheRoofModel", "noRow", "(I)I"⟩, 43) := ⟨⟨by decide +kernel, by decide +kernel⟩, List.mem_of_getElem? (i := 928) (by decide +kernel), List.mem_of_getElem? (i := 1086) (by decide +kernel), List.mem_of_getElem? (i := 1087) (by decide +kernel)⟩
theorem lw_p29 : lw_okq (⟨"OnTheRoofModel", "isBend", "(J)Z"⟩, 43) := ⟨⟨by decide +kernel, by decide +kernel⟩, List.mem_of_getElem? (i := 928) (by decide +kernel), List.mem_of_getElem? (i := 1109) (by decide +kernel), List.mem_of_getElem? (i := 1110) (by decide +kernel)⟩
theorem lw_p30 : lw_okq (⟨"OnTheRoofModel", "fallOf", "(II)I"⟩, 43) := ⟨⟨by decide +kernel, by decide +kernel⟩, List.mem_of_getElem? (i := 928) (by decide +kernel), List.mem_of_getElem? (i := 1121) (by decide +kernel), List.mem_of_getElem? (i := 1122) (by decide +kernel)⟩
theorem lw_p31 : lw_okq (⟨"OnTheRoofModel", "addBend", "(IIII)V"⟩, 43) := ⟨⟨by decide +kernel, by decide +kernel⟩, List.mem_of_getElem? (i := 928) (by decide +kernel), List.mem_of_getElem? (i := 1132) (by decide +kernel), List.mem_of_getElem? (i := 1133) (by decide +kernel)⟩
def lw_privs_2 : List (MethodName × Nat) := [(⟨"OnTheRoof$Plan", "chooseLook", "(II)V"⟩, 4), (⟨"OnTheRoof$Weights", "rateOf", "(LOnTheRoof$Road;II)J"⟩, 4), (⟨"OnTheRoof", "heldNow", "()I"⟩, 9), (⟨"OnTheRoof", "heardBy", "(I)I"⟩, 9), (⟨"OnTheRoof", "minutesOf", "(I)I"⟩, 9), (⟨"OnTheRoof", "heardBySet", "(I)I"⟩, 9), (⟨"OnTheRoof", "wrongPiece", "(LOnTheRoof$Shelf;I)I"⟩, 9), (⟨"OnTheRoof", "isToldLook", "(J)Z"⟩, 9), (⟨"OnTheRoof$Road", "draw", "(I)I"⟩, 8), (⟨"OnTheRoof", "refused", "(I)I"⟩, 9), (⟨"OnTheRoof", "fullShelves", "()I"⟩, 9), (⟨"OnTheRoofModel", "refuse", "(I)I"⟩, 43), (⟨"OnTheRoofModel", "noRow", "(I)I"⟩, 43), (⟨"OnTheRoofModel", "isBend", "(J)Z"⟩, 43), (⟨"OnTheRoofModel", "fallOf", "(II)I"⟩, 43), (⟨"OnTheRoofModel", "addBend", "(IIII)V"⟩, 43)]
theorem lw_r2 : ∀ q ∈ lw_privs_2, lw_okq q := List.forall_mem_cons.mpr ⟨lw_p16, List.forall_mem_cons.mpr ⟨lw_p17, List.forall_mem_cons.mpr ⟨lw_p18, List.forall_mem_cons.mpr ⟨lw_p19, List.forall_mem_cons.mpr ⟨lw_p20, List.forall_mem_cons.mpr ⟨lw_p21, List.forall_mem_cons.mpr ⟨lw_p22, List.forall_mem_cons.mpr ⟨lw_p23, List.forall_mem_cons.mpr ⟨lw_p24, List.forall_mem_cons.mpr ⟨lw_p25, List.forall_mem_cons.mpr ⟨lw_p26, List.forall_mem_cons.mpr ⟨lw_p27, List.forall_mem_cons.mpr ⟨lw_p28, List.forall_mem_cons.mpr ⟨lw_p29, List.forall_mem_cons.mpr ⟨lw_p30, List.forall_mem_cons.mpr ⟨lw_p31, fun _ h => absurd h List.not_mem_nil⟩⟩⟩⟩⟩⟩⟩⟩⟩⟩⟩⟩⟩⟩⟩⟩
theorem lw_p32 : lw_okq (⟨"OnTheRoofModel", "addSign", "(III)V"⟩, 43) := ⟨⟨by decide +kernel, by decide +kernel⟩, List.mem_of_getElem? (i := 928) (by decide +kernel), List.mem_of_getElem? (i := 1146) (by decide +kernel), List.mem_of_getElem? (i := 1147) (by decide +kernel)⟩
theorem lw_p33 : lw_okq (⟨"OnTheRoofModel", "noSigns", "()I"⟩, 43) := ⟨⟨by decide +kernel, by decide +kernel⟩, List.mem_of_getElem? (i := 928) (by decide +kernel), List.mem_of_getElem? (i := 1154) (by decide +kernel), List.mem_of_getElem? (i := 1155) (by decide +kernel)⟩
theorem lw_p34 : lw_okq (⟨"OnTheRoofModel", "addCall", "(III)V"⟩, 43) := ⟨⟨by decide +kernel, by decide +kernel⟩, List.mem_of_getElem? (i := 928) (by decide +kernel), List.mem_of_getElem? (i := 1163) (by decide +kernel), List.mem_of_getElem? (i := 1164) (by decide +kernel)⟩
theorem lw_p35 : lw_okq (⟨"OnTheRoofModel", "fresh", "()LOnTheRoofModel;"⟩, 43) := ⟨⟨by decide +kernel, by decide +kernel⟩, List.mem_of_getElem? (i := 928) (by decide +kernel), List.mem_of_getElem? (i := 1180) (by decide +kernel), List.mem_of_getElem? (i := 1181) (by decide +kernel)⟩
theorem lw_p36 : lw_okq (⟨"OnTheRoofModel", "takeFrom", "(LOnTheRoofModel;)V"⟩, 43) := ⟨⟨by decide +kernel, by decide +kernel⟩, List.mem_of_getElem? (i := 928) (by decide +kernel), List.mem_of_getElem? (i := 1186) (by decide +kernel), List.mem_of_getElem? (i := 1187) (by decide +kernel)⟩
theorem lw_p37 : lw_okq (⟨"OnTheRoofModel", "readAll", "()Z"⟩, 43) := ⟨⟨by decide +kernel, by decide +kernel⟩, List.mem_of_getElem? (i := 928) (by decide +kernel), List.mem_of_getElem? (i := 1193) (by decide +kernel), List.mem_of_getElem? (i := 1194) (by decide +kernel)⟩
theorem lw_p38 : lw_okq (⟨"OnTheRoofModel", "token", "()V"⟩, 43) := ⟨⟨by decide +kernel, by decide +kernel⟩, List.mem_of_getElem? (i := 928) (by decide +kernel), List.mem_of_getElem? (i := 1197) (by decide +kernel), List.mem_of_getElem? (i := 1198) (by decide +kernel)⟩
theorem lw_p39 : lw_okq (⟨"OnTheRoofModel", "statement", "()Z"⟩, 43) := ⟨⟨by decide +kernel, by decide +kernel⟩, List.mem_of_getElem? (i := 928) (by decide +kernel), List.mem_of_getElem? (i := 1208) (by decide +kernel), List.mem_of_getElem? (i := 1209) (by decide +kernel)⟩
theorem lw_p40 : lw_okq (⟨"OnTheRoofModel", "isWord", "(Ljava/lang/String;)Z"⟩, 43) := ⟨⟨by decide +kernel, by decide +kernel⟩, List.mem_of_getElem? (i := 928) (by decide +kernel), List.mem_of_getElem? (i := 1213) (by decide +kernel), List.mem_of_getElem? (i := 1214) (by decide +kernel)⟩
theorem lw_p41 : lw_okq (⟨"OnTheRoofModel", "tells", "(II)Z"⟩, 43) := ⟨⟨by decide +kernel, by decide +kernel⟩, List.mem_of_getElem? (i := 928) (by decide +kernel), List.mem_of_getElem? (i := 1219) (by decide +kernel), List.mem_of_getElem? (i := 1220) (by decide +kernel)⟩
theorem lw_p42 : lw_okq (⟨"OnTheRoofModel", "number", "(III)Z"⟩, 43) := ⟨⟨by decide +kernel, by decide +kernel⟩, List.mem_of_getElem? (i := 928) (by decide +kernel), List.mem_of_getElem? (i := 1223) (by decide +kernel), List.mem_of_getElem? (i := 1224) (by decide +kernel)⟩
theorem lw_p43 : lw_okq (⟨"OnTheRoofModel", "wrong", "()Z"⟩, 43) := ⟨⟨by decide +kernel, by decide +kernel⟩, List.mem_of_getElem? (i := 928) (by decide +kernel), List.mem_of_getElem? (i := 1227) (by decide +kernel), List.mem_of_getElem? (i := 1228) (by decide +kernel)⟩
theorem lw_p44 : lw_okq (⟨"OnTheRoofModel", "asked", "(III)Z"⟩, 43) := ⟨⟨by decide +kernel, by decide +kernel⟩, List.mem_of_getElem? (i := 928) (by decide +kernel), List.mem_of_getElem? (i := 1232) (by decide +kernel), List.mem_of_getElem? (i := 1233) (by decide +kernel)⟩
theorem lw_p45 : lw_okq (⟨"OnTheRoofModel", "misses", "(II)V"⟩, 43) := ⟨⟨by decide +kernel, by decide +kernel⟩, List.mem_of_getElem? (i := 928) (by decide +kernel), List.mem_of_getElem? (i := 1243) (by decide +kernel), List.mem_of_getElem? (i := 1244) (by decide +kernel)⟩
theorem lw_p46 : lw_okq (⟨"OnTheRoofModel", "yardsTo", "(I)I"⟩, 43) := ⟨⟨by decide +kernel, by decide +kernel⟩, List.mem_of_getElem? (i := 928) (by decide +kernel), List.mem_of_getElem? (i := 1257) (by decide +kernel), List.mem_of_getElem? (i := 1258) (by decide +kernel)⟩
theorem lw_p47 : lw_okq (⟨"OnTheRoofModel", "goes", "(III)V"⟩, 43) := ⟨⟨by decide +kernel, by decide +kernel⟩, List.mem_of_getElem? (i := 928) (by decide +kernel), List.mem_of_getElem? (i := 1278) (by decide +kernel), List.mem_of_getElem? (i := 1279) (by decide +kernel)⟩
def lw_privs_3 : List (MethodName × Nat) := [(⟨"OnTheRoofModel", "addSign", "(III)V"⟩, 43), (⟨"OnTheRoofModel", "noSigns", "()I"⟩, 43), (⟨"OnTheRoofModel", "addCall", "(III)V"⟩, 43), (⟨"OnTheRoofModel", "fresh", "()LOnTheRoofModel;"⟩, 43), (⟨"OnTheRoofModel", "takeFrom", "(LOnTheRoofModel;)V"⟩, 43), (⟨"OnTheRoofModel", "readAll", "()Z"⟩, 43), (⟨"OnTheRoofModel", "token", "()V"⟩, 43), (⟨"OnTheRoofModel", "statement", "()Z"⟩, 43), (⟨"OnTheRoofModel", "isWord", "(Ljava/lang/String;)Z"⟩, 43), (⟨"OnTheRoofModel", "tells", "(II)Z"⟩, 43), (⟨"OnTheRoofModel", "number", "(III)Z"⟩, 43), (⟨"OnTheRoofModel", "wrong", "()Z"⟩, 43), (⟨"OnTheRoofModel", "asked", "(III)Z"⟩, 43), (⟨"OnTheRoofModel", "misses", "(II)V"⟩, 43), (⟨"OnTheRoofModel", "yardsTo", "(I)I"⟩, 43), (⟨"OnTheRoofModel", "goes", "(III)V"⟩, 43)]
theorem lw_r3 : ∀ q ∈ lw_privs_3, lw_okq q := List.forall_mem_cons.mpr ⟨lw_p32, List.forall_mem_cons.mpr ⟨lw_p33, List.forall_mem_cons.mpr ⟨lw_p34, List.forall_mem_cons.mpr ⟨lw_p35, List.forall_mem_cons.mpr ⟨lw_p36, List.forall_mem_cons.mpr ⟨lw_p37, List.forall_mem_cons.mpr ⟨lw_p38, List.forall_mem_cons.mpr ⟨lw_p39, List.forall_mem_cons.mpr ⟨lw_p40, List.forall_mem_cons.mpr ⟨lw_p41, List.forall_mem_cons.mpr ⟨lw_p42, List.forall_mem_cons.mpr ⟨lw_p43, List.forall_mem_cons.mpr ⟨lw_p44, List.forall_mem_cons.mpr ⟨lw_p45, List.forall_mem_cons.mpr ⟨lw_p46, List.forall_mem_cons.mpr ⟨lw_p47, fun _ h => absurd h List.not_mem_nil⟩⟩⟩⟩⟩⟩⟩⟩⟩⟩⟩⟩⟩⟩⟩⟩
theorem lw_p48 : lw_okq (⟨"OnTheRoofModel", "weigh", "()V"⟩, 43) := ⟨⟨by decide +kernel, by decide +kernel⟩, List.mem_of_getElem? (i := 928) (by decide +kernel), List.mem_of_getElem? (i := 1290) (by decide +kernel), List.mem_of_getElem? (i := 1291) (by decide +kernel)⟩
theorem lw_p49 : lw_okq (⟨"OnTheRoofModel", "thousandths", "(J)I"⟩, 43) := ⟨⟨by decide +kernel, by decide +kernel⟩, List.mem_of_getElem? (i := 928) (by decide +kernel), List.mem_of_getElem? (i := 1298) (by decide +kernel), List.mem_of_getElem? (i := 1299) (by decide +kernel)⟩
theorem lw_p50 : lw_okq (⟨"OnTheRoofModel", "sumOf", "(II)I"⟩, 43) := ⟨⟨by decide +kernel, by decide +kernel⟩, List.mem_of_getElem? (i := 928) (by decide +kernel), List.mem_of_getElem? (i := 1306) (by decide +kernel), List.mem_of_getElem? (i := 1307) (by decide +kernel)⟩
theorem lw_p51 : lw_okq (⟨"OnTheRoofModel", "secondsOf", "(II)I"⟩, 43) := ⟨⟨by decide +kernel, by decide +kernel⟩, List.mem_of_getElem? (i := 928) (by decide +kernel), List.mem_of_getElem? (i := 1338) (by decide +kernel), List.mem_of_getElem? (i := 1339) (by decide +kernel)⟩
theorem lw_p52 : lw_okq (⟨"OnTheRoofModel", "foundBy", "(II)I"⟩, 43) := ⟨⟨by decide +kernel, by decide +kernel⟩, List.mem_of_getElem? (i := 928) (by decide +kernel), List.mem_of_getElem? (i := 1346) (by decide +kernel), List.mem_of_getElem? (i := 1347) (by decide +kernel)⟩
theorem lw_p53 : lw_okq (⟨"OnTheRoofModel", "findMost", "()V"⟩, 43) := ⟨⟨by decide +kernel, by decide +kernel⟩, List.mem_of_getElem? (i := 928) (by decide +kernel), List.mem_of_getElem? (i := 1355) (by decide +kernel), List.mem_of_getElem? (i := 1356) (by decide +kernel)⟩
theorem lw_p54 : lw_okq (⟨"OnTheRoofModel", "mostBy", "(III)I"⟩, 43) := ⟨⟨by decide +kernel, by decide +kernel⟩, List.mem_of_getElem? (i := 928) (by decide +kernel), List.mem_of_getElem? (i := 1359) (by decide +kernel), List.mem_of_getElem? (i := 1360) (by decide +kernel)⟩
theorem lw_p55 : lw_okq (⟨"OnTheRoofModel", "tensOf", "(II)I"⟩, 43) := ⟨⟨by decide +kernel, by decide +kernel⟩, List.mem_of_getElem? (i := 928) (by decide +kernel), List.mem_of_getElem? (i := 1363) (by decide +kernel), List.mem_of_getElem? (i := 1364) (by decide +kernel)⟩
theorem lw_p56 : lw_okq (⟨"OnTheRoofModel", "nextNow", "()I"⟩, 43) := ⟨⟨by decide +kernel, by decide +kernel⟩, List.mem_of_getElem? (i := 928) (by decide +kernel), List.mem_of_getElem? (i := 1371) (by decide +kernel), List.mem_of_getElem? (i := 1372) (by decide +kernel)⟩
theorem lw_p57 : lw_okq (⟨"OnTheRoofModel", "vainly", "(I)LOnTheRoofModel;"⟩, 43) := ⟨⟨by decide +kernel, by decide +kernel⟩, List.mem_of_getElem? (i := 928) (by decide +kernel), List.mem_of_getElem? (i := 1384) (by decide +kernel), List.mem_of_getElem? (i := 1385) (by decide +kernel)⟩
theorem lw_p58 : lw_okq (⟨"OnTheRoofModel", "heldBy", "(I)I"⟩, 43) := ⟨⟨by decide +kernel, by decide +kernel⟩, List.mem_of_getElem? (i := 928) (by decide +kernel), List.mem_of_getElem? (i := 1401) (by decide +kernel), List.mem_of_getElem? (i := 1402) (by decide +kernel)⟩
theorem lw_p59 : lw_okq (⟨"OnTheRoofModel", "hearsOf", "(I)I"⟩, 43) := ⟨⟨by decide +kernel, by decide +kernel⟩, List.mem_of_getElem? (i := 928) (by decide +kernel), List.mem_of_getElem? (i := 1448) (by decide +kernel), List.mem_of_getElem? (i := 1449) (by decide +kernel)⟩
theorem lw_p60 : lw_okq (⟨"OnTheRoofModel", "noList", "(II)I"⟩, 43) := ⟨⟨by decide +kernel, by decide +kernel⟩, List.mem_of_getElem? (i := 928) (by decide +kernel), List.mem_of_getElem? (i := 1466) (by decide +kernel), List.mem_of_getElem? (i := 1467) (by decide +kernel)⟩
theorem lw_p61 : lw_okq (⟨"OnTheRoofModel", "wrongIn", "([JI)I"⟩, 43) := ⟨⟨by decide +kernel, by decide +kernel⟩, List.mem_of_getElem? (i := 928) (by decide +kernel), List.mem_of_getElem? (i := 1470) (by decide +kernel), List.mem_of_getElem? (i := 1471) (by decide +kernel)⟩
theorem lw_p62 : lw_okq (⟨"OnTheRoofModel", "areLooks", "([JI)Z"⟩, 43) := ⟨⟨by decide +kernel, by decide +kernel⟩, List.mem_of_getElem? (i := 928) (by decide +kernel), List.mem_of_getElem? (i := 1482) (by decide +kernel), List.mem_of_getElem? (i := 1483) (by decide +kernel)⟩
theorem lw_p63 : lw_okq (⟨"OnTheRoofModel", "driven", "()I"⟩, 43) := ⟨⟨by decide +kernel, by decide +kernel⟩, List.mem_of_getElem? (i := 928) (by decide +kernel), List.mem_of_getElem? (i := 1494) (by decide +kernel), List.mem_of_getElem? (i := 1495) (by decide +kernel)⟩
def lw_privs_4 : List (MethodName × Nat) := [(⟨"OnTheRoofModel", "weigh", "()V"⟩, 43), (⟨"OnTheRoofModel", "thousandths", "(J)I"⟩, 43), (⟨"OnTheRoofModel", "sumOf", "(II)I"⟩, 43), (⟨"OnTheRoofModel", "secondsOf", "(II)I"⟩, 43), (⟨"OnTheRoofModel", "foundBy", "(II)I"⟩, 43), (⟨"OnTheRoofModel", "findMost", "()V"⟩, 43), (⟨"OnTheRoofModel", "mostBy", "(III)I"⟩, 43), (⟨"OnTheRoofModel", "tensOf", "(II)I"⟩, 43), (⟨"OnTheRoofModel", "nextNow", "()I"⟩, 43), (⟨"OnTheRoofModel", "vainly", "(I)LOnTheRoofModel;"⟩, 43), (⟨"OnTheRoofModel", "heldBy", "(I)I"⟩, 43), (⟨"OnTheRoofModel", "hearsOf", "(I)I"⟩, 43), (⟨"OnTheRoofModel", "noList", "(II)I"⟩, 43), (⟨"OnTheRoofModel", "wrongIn", "([JI)I"⟩, 43), (⟨"OnTheRoofModel", "areLooks", "([JI)Z"⟩, 43), (⟨"OnTheRoofModel", "driven", "()I"⟩, 43)]
theorem lw_r4 : ∀ q ∈ lw_privs_4, lw_okq q := List.forall_mem_cons.mpr ⟨lw_p48, List.forall_mem_cons.mpr ⟨lw_p49, List.forall_mem_cons.mpr ⟨lw_p50, List.forall_mem_cons.mpr ⟨lw_p51, List.forall_mem_cons.mpr ⟨lw_p52, List.forall_mem_cons.mpr ⟨lw_p53, List.forall_mem_cons.mpr ⟨lw_p54, List.forall_mem_cons.mpr ⟨lw_p55, List.forall_mem_cons.mpr ⟨lw_p56, List.forall_mem_cons.mpr ⟨lw_p57, List.forall_mem_cons.mpr ⟨lw_p58, List.forall_mem_cons.mpr ⟨lw_p59, List.forall_mem_cons.mpr ⟨lw_p60, List.forall_mem_cons.mpr ⟨lw_p61, List.forall_mem_cons.mpr ⟨lw_p62, List.forall_mem_cons.mpr ⟨lw_p63, fun _ h => absurd h List.not_mem_nil⟩⟩⟩⟩⟩⟩⟩⟩⟩⟩⟩⟩⟩⟩⟩⟩
theorem lw_p64 : lw_okq (⟨"OnTheRoofModel", "below", "(I)I"⟩, 43) := ⟨⟨by decide +kernel, by decide +kernel⟩, List.mem_of_getElem? (i := 928) (by decide +kernel), List.mem_of_getElem? (i := 1498) (by decide +kernel), List.mem_of_getElem? (i := 1499) (by decide +kernel)⟩
theorem lw_p65 : lw_okq (⟨"OnTheRoofModel", "looked", "()I"⟩, 43) := ⟨⟨by decide +kernel, by decide +kernel⟩, List.mem_of_getElem? (i := 928) (by decide +kernel), List.mem_of_getElem? (i := 1527) (by decide +kernel), List.mem_of_getElem? (i := 1528) (by decide +kernel)⟩
def lw_privs_5 : List (MethodName × Nat) := [(⟨"OnTheRoofModel", "below", "(I)I"⟩, 43), (⟨"OnTheRoofModel", "looked", "()I"⟩, 43)]
theorem lw_r5 : ∀ q ∈ lw_privs_5, lw_okq q := List.forall_mem_cons.mpr ⟨lw_p64, List.forall_mem_cons.mpr ⟨lw_p65, fun _ h => absurd h List.not_mem_nil⟩⟩
def lw_privs : List (MethodName × Nat) := lw_privs_1 ++ (lw_privs_2 ++ (lw_privs_3 ++ (lw_privs_4 ++ (lw_privs_5))))
def lw_tbl : List Cond := k2_sels lw_privs ++ tables_1
theorem lw_privs_ok : ∀ q ∈ lw_privs, lw_okq q := by
  show ∀ q ∈ lw_privs_1 ++ (lw_privs_2 ++ (lw_privs_3 ++ (lw_privs_4 ++ (lw_privs_5)))), lw_okq q
  exact List.forall_mem_append.mpr ⟨lw_r1, List.forall_mem_append.mpr ⟨lw_r2, List.forall_mem_append.mpr ⟨lw_r3, List.forall_mem_append.mpr ⟨lw_r4, lw_r5⟩⟩⟩⟩
theorem goodIn_r {big : List Cond} (ws : List Cond) (ps : List Nat) (hp : ws = ps.filterMap (fun i => big[i]?)) (h : ws.all goodWord = true) : GoodIn big ws := by
  intro w hw
  have h1 := List.all_eq_true.mp h w hw
  rw [hp] at hw
  obtain ⟨i, -, hi⟩ := List.mem_filterMap.mp hw
  have hm : w ∈ big := by first | exact List.mem_of_getElem? hi | exact List.getElem?_mem hi
  exact ⟨hm, good_of_word h1⟩
theorem goodIn_app {big a b : List Cond} (ha : GoodIn big a) (hb : GoodIn big b) : GoodIn big (a ++ b) := fun w h => (List.mem_append.mp h).elim (ha w) (hb w)
theorem goodIn_ca {big a b : List Cond} {c : Cond} (ha : GoodIn big (c :: a)) (hb : GoodIn big b) : GoodIn big (c :: (a ++ b)) := fun w h => (List.mem_cons.mp h).elim (fun e => ha w (List.mem_cons.mpr (Or.inl e))) (fun h => (List.mem_append.mp h).elim (fun h => ha w (List.mem_cons.mpr (Or.inr h))) (hb w))
theorem goodIn_sub {big ws : List Cond} (hm : ∀ w ∈ ws, w ∈ big) (h : ws.all goodWord = true) : GoodIn big ws := fun w hw => ⟨hm w hw, good_of_word (List.all_eq_true.mp h w hw)⟩
def RX0 : String := "OnTheRoof$Plan"
def TX0 : u_T := fun k => match k with
  | 0 => ("OnTheRoof$Plan", "most", "[I", true)
  | 1 => ("OnTheRoof$Plan", "rows", "[I", true)
  | 2 => ("OnTheRoof$Plan", "tensOf", "[I", true)
  | _ => ("OnTheRoof$Plan", "gainOf", "[I", true)
def tyX0 : Nat → FieldType := fun k => match k with
  | 0 => .array .int
  | 1 => .array .int
  | 2 => .array .int
  | _ => .array .int
abbrev wsX00 : List Cond := u_ws RX0 TX0 4
theorem nmX0 : ∀ a, a < 4 → ∀ b, b < 4 → a ≠ b → (TX0 a).2.1 ≠ (TX0 b).2.1 := by decide +kernel
theorem tyX0_ok : ∀ k, k < 4 → parseFieldDescriptor (TX0 k).2.2.1 = some (tyX0 k) := by decide +kernel
abbrev cX0_init : ByteArray := prog_2_method_1_code
def yX0_init : MethodName := ⟨RX0, "<init>", "()V"⟩
abbrev cX0_make : ByteArray := prog_2_method_2_code
def yX0_make : MethodName := ⟨RX0, "make", "(LOnTheRoof$Weights;LOnTheRoof$Road;I)V"⟩
abbrev cX0_chooseLook : ByteArray := prog_2_method_3_code
def yX0_chooseLook : MethodName := ⟨RX0, "chooseLook", "(II)V"⟩
abbrev cX0_foundIn : ByteArray := prog_2_method_4_code
def yX0_foundIn : MethodName := ⟨RX0, "foundIn", "(I)I"⟩
abbrev cX0_lookIn : ByteArray := prog_2_method_5_code
def yX0_lookIn : MethodName := ⟨RX0, "lookIn", "(II)I"⟩
def RX1 : String := "OnTheRoof$Road"
def TX1 : u_T := fun k => match k with
  | 0 => ("OnTheRoof$Road", "bends", "LOnTheRoof$Table;", true)
  | 1 => ("OnTheRoof$Road", "signs", "LOnTheRoof$Table;", true)
  | 2 => ("OnTheRoof$Road", "calls", "LOnTheRoof$Table;", true)
  | 3 => ("OnTheRoof$Road", "pace", "I", false)
  | 4 => ("OnTheRoof$Road", "wet", "I", false)
  | 5 => ("OnTheRoof$Road", "grip", "I", false)
  | 6 => ("OnTheRoof$Road", "lies", "I", false)
  | _ => ("OnTheRoof$Road", "seed", "I", false)
def tyX1 : Nat → FieldType := fun k => match k with
  | 0 => .object "OnTheRoof$Table"
  | 1 => .object "OnTheRoof$Table"
  | 2 => .object "OnTheRoof$Table"
  | 3 => .int
  | 4 => .int
  | 5 => .int
  | 6 => .int
  | _ => .int
abbrev wsX10 : List Cond := u_ws RX1 TX1 8
theorem nmX1 : ∀ a, a < 8 → ∀ b, b < 8 → a ≠ b → (TX1 a).2.1 ≠ (TX1 b).2.1 := by decide +kernel
theorem tyX1_ok : ∀ k, k < 8 → parseFieldDescriptor (TX1 k).2.2.1 = some (tyX1 k) := by decide +kernel
abbrev cX1_init : ByteArray := prog_3_method_1_code
def yX1_init : MethodName := ⟨RX1, "<init>", "()V"⟩
abbrev cX1_takeFrom : ByteArray := prog_3_method_2_code
def yX1_takeFrom : MethodName := ⟨RX1, "takeFrom", "(LOnTheRoof$Road;)V"⟩
abbrev cX1_numbersOf : ByteArray := prog_3_method_3_code
def yX1_numbersOf : MethodName := ⟨RX1, "numbersOf", "(I)I"⟩
abbrev cX1_takes : ByteArray := prog_3_method_4_code
def yX1_takes : MethodName := ⟨RX1, "takes", "(III)Z"⟩
abbrev cX1_hasRoomFor : ByteArray := prog_3_method_5_code
def yX1_hasRoomFor : MethodName := ⟨RX1, "hasRoomFor", "(I)Z"⟩
abbrev cX1_addBend : ByteArray := prog_3_method_6_code
def yX1_addBend : MethodName := ⟨RX1, "addBend", "(IIII)I"⟩
abbrev cX1_addSign : ByteArray := prog_3_method_7_code
def yX1_addSign : MethodName := ⟨RX1, "addSign", "(IZI)V"⟩
abbrev cX1_addCall : ByteArray := prog_3_method_8_code
def yX1_addCall : MethodName := ⟨RX1, "addCall", "(III)I"⟩
abbrev cX1_settle : ByteArray := prog_3_method_9_code
def yX1_settle : MethodName := ⟨RX1, "settle", "(II)I"⟩
abbrev cX1_lookInVain : ByteArray := prog_3_method_10_code
def yX1_lookInVain : MethodName := ⟨RX1, "lookInVain", "(II)V"⟩
abbrev cX1_forget : ByteArray := prog_3_method_11_code
def yX1_forget : MethodName := ⟨RX1, "forget", "()V"⟩
abbrev cX1_bendsLookedAt : ByteArray := prog_3_method_12_code
def yX1_bendsLookedAt : MethodName := ⟨RX1, "bendsLookedAt", "()I"⟩
abbrev cX1_yardsTo : ByteArray := prog_3_method_13_code
def yX1_yardsTo : MethodName := ⟨RX1, "yardsTo", "(I)I"⟩
abbrev cX1_secondsOf : ByteArray := prog_3_method_14_code
def yX1_secondsOf : MethodName := ⟨RX1, "secondsOf", "(II)I"⟩
abbrev cX1_fallAt : ByteArray := prog_3_method_15_code
def yX1_fallAt : MethodName := ⟨RX1, "fallAt", "(II)I"⟩
abbrev cX1_fallBy : ByteArray := prog_3_method_16_code
def yX1_fallBy : MethodName := ⟨RX1, "fallBy", "(IIII)I"⟩
abbrev cX1_dryFall : ByteArray := prog_3_method_17_code
def yX1_dryFall : MethodName := ⟨RX1, "dryFall", "(III)I"⟩
abbrev cX1_fellAt : ByteArray := prog_3_method_18_code
def yX1_fellAt : MethodName := ⟨RX1, "fellAt", "(II)I"⟩
abbrev cX1_heldBy : ByteArray := prog_3_method_19_code
def yX1_heldBy : MethodName := ⟨RX1, "heldBy", "(III)I"⟩
abbrev cX1_heldWith : ByteArray := prog_3_method_20_code
def yX1_heldWith : MethodName := ⟨RX1, "heldWith", "(II)I"⟩
abbrev cX1_draw : ByteArray := prog_3_method_21_code
def yX1_draw : MethodName := ⟨RX1, "draw", "(I)I"⟩
abbrev cX1_driveInTruth : ByteArray := prog_3_method_22_code
def yX1_driveInTruth : MethodName := ⟨RX1, "driveInTruth", "()I"⟩
abbrev cX1_lookInTruth : ByteArray := prog_3_method_23_code
def yX1_lookInTruth : MethodName := ⟨RX1, "lookInTruth", "(II)I"⟩
def RX2 : String := "OnTheRoof$Shelf"
def TX2 : u_T := fun k => match k with
  | 0 => ("OnTheRoof$Shelf", "holding", "I", false)
  | 1 => ("OnTheRoof$Shelf", "size", "I", false)
  | _ => ("OnTheRoof$Shelf", "elements", "[J", true)
def tyX2 : Nat → FieldType := fun k => match k with
  | 0 => .int
  | 1 => .int
  | _ => .array .long
abbrev wsX20 : List Cond := u_ws RX2 TX2 3
theorem nmX2 : ∀ a, a < 3 → ∀ b, b < 3 → a ≠ b → (TX2 a).2.1 ≠ (TX2 b).2.1 := by decide +kernel
theorem tyX2_ok : ∀ k, k < 3 → parseFieldDescriptor (TX2 k).2.2.1 = some (tyX2 k) := by decide +kernel
abbrev cX2_init : ByteArray := prog_4_method_1_code
def yX2_init : MethodName := ⟨RX2, "<init>", "()V"⟩
abbrev cX2_isEmpty : ByteArray := prog_4_method_2_code
def yX2_isEmpty : MethodName := ⟨RX2, "isEmpty", "()Z"⟩
abbrev cX2_isRow : ByteArray := prog_4_method_3_code
def yX2_isRow : MethodName := ⟨RX2, "isRow", "()Z"⟩
abbrev cX2_isBend : ByteArray := prog_4_method_4_code
def yX2_isBend : MethodName := ⟨RX2, "isBend", "()Z"⟩
abbrev cX2_bendNumber : ByteArray := prog_4_method_5_code
def yX2_bendNumber : MethodName := ⟨RX2, "bendNumber", "()I"⟩
abbrev cX2_takeRow : ByteArray := prog_4_method_6_code
def yX2_takeRow : MethodName := ⟨RX2, "takeRow", "(II)V"⟩
abbrev cX2_takeBend : ByteArray := prog_4_method_7_code
def yX2_takeBend : MethodName := ⟨RX2, "takeBend", "(I)V"⟩
abbrev cX2_hasElement : ByteArray := prog_4_method_8_code
def yX2_hasElement : MethodName := ⟨RX2, "hasElement", "(I)Z"⟩
abbrev cX2_hasElements : ByteArray := prog_4_method_9_code
def yX2_hasElements : MethodName := ⟨RX2, "hasElements", "(II)Z"⟩
abbrev cX2_elementAt : ByteArray := prog_4_method_10_code
def yX2_elementAt : MethodName := ⟨RX2, "elementAt", "(I)J"⟩
abbrev cX2_putElement : ByteArray := prog_4_method_11_code
def yX2_putElement : MethodName := ⟨RX2, "putElement", "(IJ)V"⟩
abbrev cX2_takeElements : ByteArray := prog_4_method_12_code
def yX2_takeElements : MethodName := ⟨RX2, "takeElements", "(LOnTheRoof$Shelf;III)V"⟩
abbrev cX2_refusalOfTold : ByteArray := prog_4_method_13_code
def yX2_refusalOfTold : MethodName := ⟨RX2, "refusalOfTold", "(I)I"⟩
abbrev cX2_keptOf : ByteArray := prog_4_method_14_code
def yX2_keptOf : MethodName := ⟨RX2, "keptOf", "(J)J"⟩
def RX3 : String := "OnTheRoof$Table"
def TX3 : u_T := fun k => match k with
  | 0 => ("OnTheRoof$Table", "cells", "[I", true)
  | 1 => ("OnTheRoof$Table", "width", "I", true)
  | _ => ("OnTheRoof$Table", "count", "I", false)
def tyX3 : Nat → FieldType := fun k => match k with
  | 0 => .array .int
  | 1 => .int
  | _ => .int
abbrev wsX30 : List Cond := u_ws RX3 TX3 3
theorem nmX3 : ∀ a, a < 3 → ∀ b, b < 3 → a ≠ b → (TX3 a).2.1 ≠ (TX3 b).2.1 := by decide +kernel
theorem tyX3_ok : ∀ k, k < 3 → parseFieldDescriptor (TX3 k).2.2.1 = some (tyX3 k) := by decide +kernel
abbrev cX3_init : ByteArray := prog_5_method_1_code
def yX3_init : MethodName := ⟨RX3, "<init>", "(II)V"⟩
abbrev cX3_has : ByteArray := prog_5_method_2_code
def yX3_has : MethodName := ⟨RX3, "has", "(I)Z"⟩
abbrev cX3_isFull : ByteArray := prog_5_method_3_code
def yX3_isFull : MethodName := ⟨RX3, "isFull", "()Z"⟩
abbrev cX3_at : ByteArray := prog_5_method_4_code
def yX3_at : MethodName := ⟨RX3, "at", "(II)I"⟩
abbrev cX3_put : ByteArray := prog_5_method_5_code
def yX3_put : MethodName := ⟨RX3, "put", "(III)V"⟩
abbrev cX3_grow : ByteArray := prog_5_method_6_code
def yX3_grow : MethodName := ⟨RX3, "grow", "()I"⟩
abbrev cX3_takeFrom : ByteArray := prog_5_method_7_code
def yX3_takeFrom : MethodName := ⟨RX3, "takeFrom", "(LOnTheRoof$Table;)V"⟩
abbrev cX3_cellOf : ByteArray := prog_5_method_8_code
def yX3_cellOf : MethodName := ⟨RX3, "cellOf", "(II)I"⟩
def RX4 : String := "OnTheRoof$Tape"
def TX4 : u_T := fun k => match k with
  | 0 => ("OnTheRoof$Tape", "bytes", "[I", true)
  | 1 => ("OnTheRoof$Tape", "size", "I", false)
  | 2 => ("OnTheRoof$Tape", "sort", "I", false)
  | 3 => ("OnTheRoof$Tape", "start", "I", false)
  | 4 => ("OnTheRoof$Tape", "end", "I", false)
  | _ => ("OnTheRoof$Tape", "numbers", "[I", true)
def tyX4 : Nat → FieldType := fun k => match k with
  | 0 => .array .int
  | 1 => .int
  | 2 => .int
  | 3 => .int
  | 4 => .int
  | _ => .array .int
abbrev wsX40 : List Cond := u_ws RX4 TX4 6
theorem nmX4 : ∀ a, a < 6 → ∀ b, b < 6 → a ≠ b → (TX4 a).2.1 ≠ (TX4 b).2.1 := by decide +kernel
theorem tyX4_ok : ∀ k, k < 6 → parseFieldDescriptor (TX4 k).2.2.1 = some (tyX4 k) := by decide +kernel
abbrev cX4_init : ByteArray := prog_6_method_1_code
def yX4_init : MethodName := ⟨RX4, "<init>", "()V"⟩
abbrev cX4_isFull : ByteArray := prog_6_method_2_code
def yX4_isFull : MethodName := ⟨RX4, "isFull", "()Z"⟩
abbrev cX4_write : ByteArray := prog_6_method_3_code
def yX4_write : MethodName := ⟨RX4, "write", "(I)V"⟩
abbrev cX4_readInto : ByteArray := prog_6_method_4_code
def yX4_readInto : MethodName := ⟨RX4, "readInto", "(LOnTheRoof$Road;)I"⟩
abbrev cX4_readStatement : ByteArray := prog_6_method_5_code
def yX4_readStatement : MethodName := ⟨RX4, "readStatement", "(LOnTheRoof$Road;)Z"⟩
abbrev cX4_carryOut : ByteArray := prog_6_method_6_code
def yX4_carryOut : MethodName := ⟨RX4, "carryOut", "(LOnTheRoof$Road;I)V"⟩
abbrev cX4_step : ByteArray := prog_6_method_7_code
def yX4_step : MethodName := ⟨RX4, "step", "()V"⟩
abbrev cX4_byteAt : ByteArray := prog_6_method_8_code
def yX4_byteAt : MethodName := ⟨RX4, "byteAt", "(I)I"⟩
abbrev cX4_sortOf : ByteArray := prog_6_method_9_code
def yX4_sortOf : MethodName := ⟨RX4, "sortOf", "(I)I"⟩
abbrev cX4_valueOf : ByteArray := prog_6_method_10_code
def yX4_valueOf : MethodName := ⟨RX4, "valueOf", "()I"⟩
abbrev cX4_statementOf : ByteArray := prog_6_method_11_code
def yX4_statementOf : MethodName := ⟨RX4, "statementOf", "()I"⟩
abbrev cX4_isWord : ByteArray := prog_6_method_12_code
def yX4_isWord : MethodName := ⟨RX4, "isWord", "(Ljava/lang/String;)Z"⟩
def RX5 : String := "OnTheRoof$Weights"
def TX5 : u_T := fun k => match k with
  | 0 => ("OnTheRoof$Weights", "fallen", "[I", true)
  | 1 => ("OnTheRoof$Weights", "miss", "[I", true)
  | 2 => ("OnTheRoof$Weights", "bends", "I", false)
  | _ => ("OnTheRoof$Weights", "held", "I", false)
def tyX5 : Nat → FieldType := fun k => match k with
  | 0 => .array .int
  | 1 => .array .int
  | 2 => .int
  | _ => .int
abbrev wsX50 : List Cond := u_ws RX5 TX5 4
theorem nmX5 : ∀ a, a < 4 → ∀ b, b < 4 → a ≠ b → (TX5 a).2.1 ≠ (TX5 b).2.1 := by decide +kernel
theorem tyX5_ok : ∀ k, k < 4 → parseFieldDescriptor (TX5 k).2.2.1 = some (tyX5 k) := by decide +kernel
abbrev cX5_init : ByteArray := prog_7_method_1_code
def yX5_init : MethodName := ⟨RX5, "<init>", "()V"⟩
abbrev cX5_weigh : ByteArray := prog_7_method_2_code
def yX5_weigh : MethodName := ⟨RX5, "weigh", "(LOnTheRoof$Road;)V"⟩
abbrev cX5_heed : ByteArray := prog_7_method_3_code
def yX5_heed : MethodName := ⟨RX5, "heed", "(IZI)V"⟩
abbrev cX5_at : ByteArray := prog_7_method_4_code
def yX5_at : MethodName := ⟨RX5, "at", "(I)I"⟩
abbrev cX5_sum : ByteArray := prog_7_method_5_code
def yX5_sum : MethodName := ⟨RX5, "sum", "(II)I"⟩
abbrev cX5_all : ByteArray := prog_7_method_6_code
def yX5_all : MethodName := ⟨RX5, "all", "()I"⟩
abbrev cX5_greatestBut : ByteArray := prog_7_method_7_code
def yX5_greatestBut : MethodName := ⟨RX5, "greatestBut", "(I)I"⟩
abbrev cX5_fewestFor : ByteArray := prog_7_method_8_code
def yX5_fewestFor : MethodName := ⟨RX5, "fewestFor", "(I)I"⟩
abbrev cX5_evenestBend : ByteArray := prog_7_method_9_code
def yX5_evenestBend : MethodName := ⟨RX5, "evenestBend", "()I"⟩
abbrev cX5_foundBy : ByteArray := prog_7_method_10_code
def yX5_foundBy : MethodName := ⟨RX5, "foundBy", "(II)I"⟩
abbrev cX5_lookInVain : ByteArray := prog_7_method_11_code
def yX5_lookInVain : MethodName := ⟨RX5, "lookInVain", "(II)V"⟩
abbrev cX5_nextLook : ByteArray := prog_7_method_12_code
def yX5_nextLook : MethodName := ⟨RX5, "nextLook", "(LOnTheRoof$Road;)I"⟩
abbrev cX5_rateOf : ByteArray := prog_7_method_13_code
def yX5_rateOf : MethodName := ⟨RX5, "rateOf", "(LOnTheRoof$Road;II)J"⟩
abbrev cX5_lookOnInVain : ByteArray := prog_7_method_14_code
def yX5_lookOnInVain : MethodName := ⟨RX5, "lookOnInVain", "(LOnTheRoof$Road;I)V"⟩
def RX6 : String := "OnTheRoof"
def TX6 : u_T := fun k => match k with
  | 0 => ("OnTheRoof", "road", "LOnTheRoof$Road;", true)
  | 1 => ("OnTheRoof", "kept", "LOnTheRoof$Road;", true)
  | 2 => ("OnTheRoof", "draft", "LOnTheRoof$Road;", true)
  | 3 => ("OnTheRoof", "weights", "LOnTheRoof$Weights;", true)
  | 4 => ("OnTheRoof", "plan", "LOnTheRoof$Plan;", true)
  | 5 => ("OnTheRoof", "tape", "LOnTheRoof$Tape;", true)
  | 6 => ("OnTheRoof", "shelves", "[LOnTheRoof$Shelf;", true)
  | 7 => ("OnTheRoof", "refusals", "[I", true)
  | _ => ("OnTheRoof", "hasKept", "Z", false)
def tyX6 : Nat → FieldType := fun k => match k with
  | 0 => .object "OnTheRoof$Road"
  | 1 => .object "OnTheRoof$Road"
  | 2 => .object "OnTheRoof$Road"
  | 3 => .object "OnTheRoof$Weights"
  | 4 => .object "OnTheRoof$Plan"
  | 5 => .object "OnTheRoof$Tape"
  | 6 => .array (.object "OnTheRoof$Shelf")
  | 7 => .array .int
  | _ => .boolean
abbrev wsX60 : List Cond := u_ws RX6 TX6 9
theorem nmX6 : ∀ a, a < 9 → ∀ b, b < 9 → a ≠ b → (TX6 a).2.1 ≠ (TX6 b).2.1 := by decide +kernel
theorem tyX6_ok : ∀ k, k < 9 → parseFieldDescriptor (TX6 k).2.2.1 = some (tyX6 k) := by decide +kernel
abbrev cX6_init : ByteArray := prog_1_method_1_code
def yX6_init : MethodName := ⟨RX6, "<init>", "()V"⟩
abbrev cX6_row : ByteArray := prog_1_method_2_code
def yX6_row : MethodName := ⟨RX6, "row", "(III)I"⟩
abbrev cX6_set : ByteArray := prog_1_method_3_code
def yX6_set : MethodName := ⟨RX6, "set", "(IIJ)I"⟩
abbrev cX6_copy : ByteArray := prog_1_method_4_code
def yX6_copy : MethodName := ⟨RX6, "copy", "(IIIII)I"⟩
abbrev cX6_element : ByteArray := prog_1_method_5_code
def yX6_element : MethodName := ⟨RX6, "element", "(II)J"⟩
abbrev cX6_holds : ByteArray := prog_1_method_6_code
def yX6_holds : MethodName := ⟨RX6, "holds", "(I)I"⟩
abbrev cX6_show : ByteArray := prog_1_method_7_code
def yX6_show : MethodName := ⟨RX6, "show", "(II)I"⟩
abbrev cX6_says : ByteArray := prog_1_method_8_code
def yX6_says : MethodName := ⟨RX6, "says", "(II)I"⟩
abbrev cX6_bend : ByteArray := prog_1_method_9_code
def yX6_bend : MethodName := ⟨RX6, "bend", "(IIII)I"⟩
abbrev cX6_ask : ByteArray := prog_1_method_10_code
def yX6_ask : MethodName := ⟨RX6, "ask", "(II)I"⟩
abbrev cX6_sign : ByteArray := prog_1_method_11_code
def yX6_sign : MethodName := ⟨RX6, "sign", "(IZI)I"⟩
abbrev cX6_anew : ByteArray := prog_1_method_12_code
def yX6_anew : MethodName := ⟨RX6, "anew", "()I"⟩
abbrev cX6_feed : ByteArray := prog_1_method_13_code
def yX6_feed : MethodName := ⟨RX6, "feed", "(I)I"⟩
abbrev cX6_wipe : ByteArray := prog_1_method_14_code
def yX6_wipe : MethodName := ⟨RX6, "wipe", "()I"⟩
abbrev cX6_way : ByteArray := prog_1_method_15_code
def yX6_way : MethodName := ⟨RX6, "way", "()I"⟩
abbrev cX6_bendOf : ByteArray := prog_1_method_16_code
def yX6_bendOf : MethodName := ⟨RX6, "bendOf", "(II)I"⟩
abbrev cX6_signOf : ByteArray := prog_1_method_17_code
def yX6_signOf : MethodName := ⟨RX6, "signOf", "(II)I"⟩
abbrev cX6_call : ByteArray := prog_1_method_18_code
def yX6_call : MethodName := ⟨RX6, "call", "(III)I"⟩
abbrev cX6_callOf : ByteArray := prog_1_method_19_code
def yX6_callOf : MethodName := ⟨RX6, "callOf", "(II)I"⟩
abbrev cX6_fall : ByteArray := prog_1_method_20_code
def yX6_fall : MethodName := ⟨RX6, "fall", "(II)I"⟩
abbrev cX6_fell : ByteArray := prog_1_method_21_code
def yX6_fell : MethodName := ⟨RX6, "fell", "(II)I"⟩
abbrev cX6_weight : ByteArray := prog_1_method_22_code
def yX6_weight : MethodName := ⟨RX6, "weight", "(I)I"⟩
abbrev cX6_likely : ByteArray := prog_1_method_23_code
def yX6_likely : MethodName := ⟨RX6, "likely", "(I)I"⟩
abbrev cX6_between : ByteArray := prog_1_method_24_code
def yX6_between : MethodName := ⟨RX6, "between", "(II)I"⟩
abbrev cX6_half : ByteArray := prog_1_method_25_code
def yX6_half : MethodName := ⟨RX6, "half", "()I"⟩
abbrev cX6_few : ByteArray := prog_1_method_26_code
def yX6_few : MethodName := ⟨RX6, "few", "(I)I"⟩
abbrev cX6_asks : ByteArray := prog_1_method_27_code
def yX6_asks : MethodName := ⟨RX6, "asks", "()I"⟩
abbrev cX6_after : ByteArray := prog_1_method_28_code
def yX6_after : MethodName := ⟨RX6, "after", "(IZI)I"⟩
abbrev cX6_where : ByteArray := prog_1_method_29_code
def yX6_where : MethodName := ⟨RX6, "where", "()I"⟩
abbrev cX6_last : ByteArray := prog_1_method_30_code
def yX6_last : MethodName := ⟨RX6, "last", "()I"⟩
abbrev cX6_worst : ByteArray := prog_1_method_31_code
def yX6_worst : MethodName := ⟨RX6, "worst", "()I"⟩
abbrev cX6_seconds : ByteArray := prog_1_method_32_code
def yX6_seconds : MethodName := ⟨RX6, "seconds", "(II)I"⟩
abbrev cX6_found : ByteArray := prog_1_method_33_code
def yX6_found : MethodName := ⟨RX6, "found", "(II)I"⟩
abbrev cX6_best : ByteArray := prog_1_method_34_code
def yX6_best : MethodName := ⟨RX6, "best", "(II)I"⟩
abbrev cX6_next : ByteArray := prog_1_method_35_code
def yX6_next : MethodName := ⟨RX6, "next", "()I"⟩
abbrev cX6_soonest : ByteArray := prog_1_method_36_code
def yX6_soonest : MethodName := ⟨RX6, "soonest", "(I)I"⟩
abbrev cX6_order : ByteArray := prog_1_method_37_code
def yX6_order : MethodName := ⟨RX6, "order", "(I)I"⟩
abbrev cX6_vain : ByteArray := prog_1_method_38_code
def yX6_vain : MethodName := ⟨RX6, "vain", "(I)I"⟩
abbrev cX6_others : ByteArray := prog_1_method_39_code
def yX6_others : MethodName := ⟨RX6, "others", "(I)I"⟩
abbrev cX6_fast : ByteArray := prog_1_method_40_code
def yX6_fast : MethodName := ⟨RX6, "fast", "(I)I"⟩
abbrev cX6_drove : ByteArray := prog_1_method_41_code
def yX6_drove : MethodName := ⟨RX6, "drove", "(I)I"⟩
abbrev cX6_gripFor : ByteArray := prog_1_method_42_code
def yX6_gripFor : MethodName := ⟨RX6, "gripFor", "(I)I"⟩
abbrev cX6_otherwise : ByteArray := prog_1_method_43_code
def yX6_otherwise : MethodName := ⟨RX6, "otherwise", "()I"⟩
abbrev cX6_slows : ByteArray := prog_1_method_44_code
def yX6_slows : MethodName := ⟨RX6, "slows", "(I)I"⟩
abbrev cX6_without : ByteArray := prog_1_method_45_code
def yX6_without : MethodName := ⟨RX6, "without", "(I)I"⟩
abbrev cX6_once : ByteArray := prog_1_method_46_code
def yX6_once : MethodName := ⟨RX6, "once", "(I)I"⟩
abbrev cX6_until : ByteArray := prog_1_method_47_code
def yX6_until : MethodName := ⟨RX6, "until", "(I)I"⟩
abbrev cX6_worth : ByteArray := prog_1_method_48_code
def yX6_worth : MethodName := ⟨RX6, "worth", "(III)I"⟩
abbrev cX6_hears : ByteArray := prog_1_method_49_code
def yX6_hears : MethodName := ⟨RX6, "hears", "(I)I"⟩
abbrev cX6_rings : ByteArray := prog_1_method_50_code
def yX6_rings : MethodName := ⟨RX6, "rings", "(I)I"⟩
abbrev cX6_judge : ByteArray := prog_1_method_51_code
def yX6_judge : MethodName := ⟨RX6, "judge", "(II)I"⟩
abbrev cX6_apart : ByteArray := prog_1_method_52_code
def yX6_apart : MethodName := ⟨RX6, "apart", "(II)I"⟩
abbrev cX6_search : ByteArray := prog_1_method_53_code
def yX6_search : MethodName := ⟨RX6, "search", "(III)I"⟩
abbrev cX6_lies : ByteArray := prog_1_method_54_code
def yX6_lies : MethodName := ⟨RX6, "lies", "(I)I"⟩
abbrev cX6_drive : ByteArray := prog_1_method_55_code
def yX6_drive : MethodName := ⟨RX6, "drive", "()I"⟩
abbrev cX6_look : ByteArray := prog_1_method_56_code
def yX6_look : MethodName := ⟨RX6, "look", "(II)I"⟩
abbrev cX6_trips : ByteArray := prog_1_method_57_code
def yX6_trips : MethodName := ⟨RX6, "trips", "(I)I"⟩
abbrev cX6_seed : ByteArray := prog_1_method_58_code
def yX6_seed : MethodName := ⟨RX6, "seed", "(I)I"⟩
abbrev cX6_image : ByteArray := prog_1_method_59_code
def yX6_image : MethodName := ⟨RX6, "image", "()I"⟩
abbrev cX6_back : ByteArray := prog_1_method_60_code
def yX6_back : MethodName := ⟨RX6, "back", "()I"⟩
abbrev cX6_status : ByteArray := prog_1_method_61_code
def yX6_status : MethodName := ⟨RX6, "status", "(I)I"⟩
abbrev cX6_refuse : ByteArray := prog_1_method_62_code
def yX6_refuse : MethodName := ⟨RX6, "refuse", "(I)I"⟩
abbrev cX6_refused : ByteArray := prog_1_method_63_code
def yX6_refused : MethodName := ⟨RX6, "refused", "(I)I"⟩
abbrev cX6_shelfAt : ByteArray := prog_1_method_64_code
def yX6_shelfAt : MethodName := ⟨RX6, "shelfAt", "(I)LOnTheRoof$Shelf;"⟩
abbrev cX6_fullShelves : ByteArray := prog_1_method_65_code
def yX6_fullShelves : MethodName := ⟨RX6, "fullShelves", "()I"⟩
abbrev cX6_isBendOrNone : ByteArray := prog_1_method_66_code
def yX6_isBendOrNone : MethodName := ⟨RX6, "isBendOrNone", "(I)Z"⟩
abbrev cX6_isLookAt : ByteArray := prog_1_method_67_code
def yX6_isLookAt : MethodName := ⟨RX6, "isLookAt", "(II)Z"⟩
abbrev cX6_isSign : ByteArray := prog_1_method_68_code
def yX6_isSign : MethodName := ⟨RX6, "isSign", "(II)Z"⟩
abbrev cX6_isToldLook : ByteArray := prog_1_method_69_code
def yX6_isToldLook : MethodName := ⟨RX6, "isToldLook", "(J)Z"⟩
abbrev cX6_heldNow : ByteArray := prog_1_method_70_code
def yX6_heldNow : MethodName := ⟨RX6, "heldNow", "()I"⟩
abbrev cX6_thousandthsOfAll : ByteArray := prog_1_method_71_code
def yX6_thousandthsOfAll : MethodName := ⟨RX6, "thousandthsOfAll", "(I)I"⟩
abbrev cX6_heardBy : ByteArray := prog_1_method_72_code
def yX6_heardBy : MethodName := ⟨RX6, "heardBy", "(I)I"⟩
abbrev cX6_heardBySet : ByteArray := prog_1_method_73_code
def yX6_heardBySet : MethodName := ⟨RX6, "heardBySet", "(I)I"⟩
abbrev cX6_minutesOf : ByteArray := prog_1_method_74_code
def yX6_minutesOf : MethodName := ⟨RX6, "minutesOf", "(I)I"⟩
abbrev cX6_wrongPiece : ByteArray := prog_1_method_75_code
def yX6_wrongPiece : MethodName := ⟨RX6, "wrongPiece", "(LOnTheRoof$Shelf;I)I"⟩
abbrev cX6_isWithin : ByteArray := prog_1_method_76_code
def yX6_isWithin : MethodName := ⟨RX6, "isWithin", "(III)Z"⟩
abbrev cX6_isIn : ByteArray := prog_1_method_77_code
def yX6_isIn : MethodName := ⟨RX6, "isIn", "(II)Z"⟩
abbrev cX6_isLook : ByteArray := prog_1_method_78_code
def yX6_isLook : MethodName := ⟨RX6, "isLook", "(I)Z"⟩
abbrev cX6_isUnder : ByteArray := prog_1_method_79_code
def yX6_isUnder : MethodName := ⟨RX6, "isUnder", "(II)Z"⟩
abbrev cX6_seenBy : ByteArray := prog_1_method_80_code
def yX6_seenBy : MethodName := ⟨RX6, "seenBy", "(I)I"⟩
abbrev cX6_missBehind : ByteArray := prog_1_method_81_code
def yX6_missBehind : MethodName := ⟨RX6, "missBehind", "(II)I"⟩
abbrev cX6_goneBy : ByteArray := prog_1_method_82_code
def yX6_goneBy : MethodName := ⟨RX6, "goneBy", "(III)I"⟩
abbrev cX6_afterTrip : ByteArray := prog_1_method_83_code
def yX6_afterTrip : MethodName := ⟨RX6, "afterTrip", "(II)I"⟩
def RX7 : String := "OnTheRoofModel"
def TX7 : u_T := fun k => match k with
  | 0 => ("OnTheRoofModel", "shelf", "[I", true)
  | 1 => ("OnTheRoofModel", "rowSort", "[I", true)
  | 2 => ("OnTheRoofModel", "rowSize", "[I", true)
  | 3 => ("OnTheRoofModel", "rows", "[[J", true)
  | 4 => ("OnTheRoofModel", "moved", "[J", true)
  | 5 => ("OnTheRoofModel", "shown", "[I", true)
  | 6 => ("OnTheRoofModel", "tape", "[I", true)
  | 7 => ("OnTheRoofModel", "tapeSize", "I", false)
  | 8 => ("OnTheRoofModel", "refused", "[I", true)
  | 9 => ("OnTheRoofModel", "bends", "I", false)
  | 10 => ("OnTheRoofModel", "kind", "[I", true)
  | 11 => ("OnTheRoofModel", "by", "[I", true)
  | 12 => ("OnTheRoofModel", "yards", "[I", true)
  | 13 => ("OnTheRoofModel", "people", "[I", true)
  | 14 => ("OnTheRoofModel", "miss", "[I", true)
  | 15 => ("OnTheRoofModel", "signs", "I", false)
  | 16 => ("OnTheRoofModel", "signAt", "[I", true)
  | 17 => ("OnTheRoofModel", "signIs", "[I", true)
  | 18 => ("OnTheRoofModel", "sure", "[I", true)
  | 19 => ("OnTheRoofModel", "calls", "I", false)
  | 20 => ("OnTheRoofModel", "callAt", "[I", true)
  | 21 => ("OnTheRoofModel", "minutes", "[I", true)
  | 22 => ("OnTheRoofModel", "knows", "[I", true)
  | 23 => ("OnTheRoofModel", "pace", "I", false)
  | 24 => ("OnTheRoofModel", "wet", "I", false)
  | 25 => ("OnTheRoofModel", "grip", "I", false)
  | 26 => ("OnTheRoofModel", "lies", "I", false)
  | 27 => ("OnTheRoofModel", "seed", "I", false)
  | 28 => ("OnTheRoofModel", "kept", "LOnTheRoofModel;", false)
  | 29 => ("OnTheRoofModel", "tried", "LOnTheRoofModel;", false)
  | 30 => ("OnTheRoofModel", "at", "I", false)
  | 31 => ("OnTheRoofModel", "token", "I", false)
  | 32 => ("OnTheRoofModel", "from", "I", false)
  | 33 => ("OnTheRoofModel", "figures", "I", false)
  | 34 => ("OnTheRoofModel", "fault", "I", false)
  | 35 => ("OnTheRoofModel", "told", "[I", true)
  | 36 => ("OnTheRoofModel", "statements", "I", false)
  | 37 => ("OnTheRoofModel", "fell", "[I", true)
  | 38 => ("OnTheRoofModel", "held", "I", false)
  | 39 => ("OnTheRoofModel", "weight", "[I", true)
  | 40 => ("OnTheRoofModel", "weightHeld", "I", false)
  | 41 => ("OnTheRoofModel", "weights", "I", false)
  | _ => ("OnTheRoofModel", "most", "[[I", true)
def tyX7 : Nat → FieldType := fun k => match k with
  | 0 => .array .int
  | 1 => .array .int
  | 2 => .array .int
  | 3 => .array (.array .long)
  | 4 => .array .long
  | 5 => .array .int
  | 6 => .array .int
  | 7 => .int
  | 8 => .array .int
  | 9 => .int
  | 10 => .array .int
  | 11 => .array .int
  | 12 => .array .int
  | 13 => .array .int
  | 14 => .array .int
  | 15 => .int
  | 16 => .array .int
  | 17 => .array .int
  | 18 => .array .int
  | 19 => .int
  | 20 => .array .int
  | 21 => .array .int
  | 22 => .array .int
  | 23 => .int
  | 24 => .int
  | 25 => .int
  | 26 => .int
  | 27 => .int
  | 28 => .object "OnTheRoofModel"
  | 29 => .object "OnTheRoofModel"
  | 30 => .int
  | 31 => .int
  | 32 => .int
  | 33 => .int
  | 34 => .int
  | 35 => .array .int
  | 36 => .int
  | 37 => .array .int
  | 38 => .int
  | 39 => .array .int
  | 40 => .int
  | 41 => .int
  | _ => .array (.array .int)
abbrev wsX70 : List Cond := u_ws RX7 TX7 43
theorem nmX7 : ∀ a, a < 43 → ∀ b, b < 43 → a ≠ b → (TX7 a).2.1 ≠ (TX7 b).2.1 := by decide +kernel
theorem tyX7_ok : ∀ k, k < 43 → parseFieldDescriptor (TX7 k).2.2.1 = some (tyX7 k) := by decide +kernel
abbrev cX7_init : ByteArray := prog_9_method_1_code
def yX7_init : MethodName := ⟨RX7, "<init>", "()V"⟩
abbrev cX7_refuse : ByteArray := prog_9_method_2_code
def yX7_refuse : MethodName := ⟨RX7, "refuse", "(I)I"⟩
abbrev cX7_in : ByteArray := prog_9_method_3_code
def yX7_in : MethodName := ⟨RX7, "in", "(JJJ)Z"⟩
abbrev cX7_isBend : ByteArray := prog_9_method_4_code
def yX7_isBend : MethodName := ⟨RX7, "isBend", "(J)Z"⟩
abbrev cX7_has : ByteArray := prog_9_method_5_code
def yX7_has : MethodName := ⟨RX7, "has", "(II)Z"⟩
abbrev cX7_bits : ByteArray := prog_9_method_6_code
def yX7_bits : MethodName := ⟨RX7, "bits", "(I)I"⟩
abbrev cX7_row : ByteArray := prog_9_method_7_code
def yX7_row : MethodName := ⟨RX7, "row", "(III)I"⟩
abbrev cX7_fit : ByteArray := prog_9_method_8_code
def yX7_fit : MethodName := ⟨RX7, "fit", "(IJ)J"⟩
abbrev cX7_noRow : ByteArray := prog_9_method_9_code
def yX7_noRow : MethodName := ⟨RX7, "noRow", "(I)I"⟩
abbrev cX7_set : ByteArray := prog_9_method_10_code
def yX7_set : MethodName := ⟨RX7, "set", "(IIJ)I"⟩
abbrev cX7_copy : ByteArray := prog_9_method_11_code
def yX7_copy : MethodName := ⟨RX7, "copy", "(IIIII)I"⟩
abbrev cX7_element : ByteArray := prog_9_method_12_code
def yX7_element : MethodName := ⟨RX7, "element", "(II)J"⟩
abbrev cX7_holds : ByteArray := prog_9_method_13_code
def yX7_holds : MethodName := ⟨RX7, "holds", "(I)I"⟩
abbrev cX7_show : ByteArray := prog_9_method_14_code
def yX7_show : MethodName := ⟨RX7, "show", "(II)I"⟩
abbrev cX7_isUnder : ByteArray := prog_9_method_15_code
def yX7_isUnder : MethodName := ⟨RX7, "isUnder", "(II)Z"⟩
abbrev cX7_says : ByteArray := prog_9_method_16_code
def yX7_says : MethodName := ⟨RX7, "says", "(II)I"⟩
abbrev cX7_addBend : ByteArray := prog_9_method_17_code
def yX7_addBend : MethodName := ⟨RX7, "addBend", "(IIII)V"⟩
abbrev cX7_bend : ByteArray := prog_9_method_18_code
def yX7_bend : MethodName := ⟨RX7, "bend", "(IIII)I"⟩
abbrev cX7_ask : ByteArray := prog_9_method_19_code
def yX7_ask : MethodName := ⟨RX7, "ask", "(II)I"⟩
abbrev cX7_addSign : ByteArray := prog_9_method_20_code
def yX7_addSign : MethodName := ⟨RX7, "addSign", "(III)V"⟩
abbrev cX7_sign : ByteArray := prog_9_method_21_code
def yX7_sign : MethodName := ⟨RX7, "sign", "(IZI)I"⟩
abbrev cX7_noSigns : ByteArray := prog_9_method_22_code
def yX7_noSigns : MethodName := ⟨RX7, "noSigns", "()I"⟩
abbrev cX7_anew : ByteArray := prog_9_method_23_code
def yX7_anew : MethodName := ⟨RX7, "anew", "()I"⟩
abbrev cX7_addCall : ByteArray := prog_9_method_24_code
def yX7_addCall : MethodName := ⟨RX7, "addCall", "(III)V"⟩
abbrev cX7_call : ByteArray := prog_9_method_25_code
def yX7_call : MethodName := ⟨RX7, "call", "(III)I"⟩
abbrev cX7_feed : ByteArray := prog_9_method_26_code
def yX7_feed : MethodName := ⟨RX7, "feed", "(I)I"⟩
abbrev cX7_wipe : ByteArray := prog_9_method_27_code
def yX7_wipe : MethodName := ⟨RX7, "wipe", "()I"⟩
abbrev cX7_isLetter : ByteArray := prog_9_method_28_code
def yX7_isLetter : MethodName := ⟨RX7, "isLetter", "(I)Z"⟩
abbrev cX7_isDigit : ByteArray := prog_9_method_29_code
def yX7_isDigit : MethodName := ⟨RX7, "isDigit", "(I)Z"⟩
abbrev cX7_token : ByteArray := prog_9_method_30_code
def yX7_token : MethodName := ⟨RX7, "token", "()V"⟩
abbrev cX7_wrong : ByteArray := prog_9_method_31_code
def yX7_wrong : MethodName := ⟨RX7, "wrong", "()Z"⟩
abbrev cX7_isWord : ByteArray := prog_9_method_32_code
def yX7_isWord : MethodName := ⟨RX7, "isWord", "(Ljava/lang/String;)Z"⟩
abbrev cX7_number : ByteArray := prog_9_method_33_code
def yX7_number : MethodName := ⟨RX7, "number", "(III)Z"⟩
abbrev cX7_tells : ByteArray := prog_9_method_34_code
def yX7_tells : MethodName := ⟨RX7, "tells", "(II)Z"⟩
abbrev cX7_asked : ByteArray := prog_9_method_35_code
def yX7_asked : MethodName := ⟨RX7, "asked", "(III)Z"⟩
abbrev cX7_statement : ByteArray := prog_9_method_36_code
def yX7_statement : MethodName := ⟨RX7, "statement", "()Z"⟩
abbrev cX7_readAll : ByteArray := prog_9_method_37_code
def yX7_readAll : MethodName := ⟨RX7, "readAll", "()Z"⟩
abbrev cX7_fresh : ByteArray := prog_9_method_38_code
def yX7_fresh : MethodName := ⟨RX7, "fresh", "()LOnTheRoofModel;"⟩
abbrev cX7_way : ByteArray := prog_9_method_39_code
def yX7_way : MethodName := ⟨RX7, "way", "()I"⟩
abbrev cX7_yardsTo : ByteArray := prog_9_method_40_code
def yX7_yardsTo : MethodName := ⟨RX7, "yardsTo", "(I)I"⟩
abbrev cX7_bendOf : ByteArray := prog_9_method_41_code
def yX7_bendOf : MethodName := ⟨RX7, "bendOf", "(II)I"⟩
abbrev cX7_signOf : ByteArray := prog_9_method_42_code
def yX7_signOf : MethodName := ⟨RX7, "signOf", "(II)I"⟩
abbrev cX7_callOf : ByteArray := prog_9_method_43_code
def yX7_callOf : MethodName := ⟨RX7, "callOf", "(II)I"⟩
abbrev cX7_fallOf : ByteArray := prog_9_method_44_code
def yX7_fallOf : MethodName := ⟨RX7, "fallOf", "(II)I"⟩
abbrev cX7_fall : ByteArray := prog_9_method_45_code
def yX7_fall : MethodName := ⟨RX7, "fall", "(II)I"⟩
abbrev cX7_goes : ByteArray := prog_9_method_46_code
def yX7_goes : MethodName := ⟨RX7, "goes", "(III)V"⟩
abbrev cX7_heldBy : ByteArray := prog_9_method_47_code
def yX7_heldBy : MethodName := ⟨RX7, "heldBy", "(I)I"⟩
abbrev cX7_fell : ByteArray := prog_9_method_48_code
def yX7_fell : MethodName := ⟨RX7, "fell", "(II)I"⟩
abbrev cX7_part : ByteArray := prog_9_method_49_code
def yX7_part : MethodName := ⟨RX7, "part", "(II)I"⟩
abbrev cX7_weigh : ByteArray := prog_9_method_50_code
def yX7_weigh : MethodName := ⟨RX7, "weigh", "()V"⟩
abbrev cX7_weight : ByteArray := prog_9_method_51_code
def yX7_weight : MethodName := ⟨RX7, "weight", "(I)I"⟩
abbrev cX7_thousandths : ByteArray := prog_9_method_52_code
def yX7_thousandths : MethodName := ⟨RX7, "thousandths", "(J)I"⟩
abbrev cX7_likely : ByteArray := prog_9_method_53_code
def yX7_likely : MethodName := ⟨RX7, "likely", "(I)I"⟩
abbrev cX7_sumOf : ByteArray := prog_9_method_54_code
def yX7_sumOf : MethodName := ⟨RX7, "sumOf", "(II)I"⟩
abbrev cX7_between : ByteArray := prog_9_method_55_code
def yX7_between : MethodName := ⟨RX7, "between", "(II)I"⟩
abbrev cX7_half : ByteArray := prog_9_method_56_code
def yX7_half : MethodName := ⟨RX7, "half", "()I"⟩
abbrev cX7_few : ByteArray := prog_9_method_57_code
def yX7_few : MethodName := ⟨RX7, "few", "(I)I"⟩
abbrev cX7_asks : ByteArray := prog_9_method_58_code
def yX7_asks : MethodName := ⟨RX7, "asks", "()I"⟩
abbrev cX7_after : ByteArray := prog_9_method_59_code
def yX7_after : MethodName := ⟨RX7, "after", "(IZI)I"⟩
abbrev cX7_where : ByteArray := prog_9_method_60_code
def yX7_where : MethodName := ⟨RX7, "where", "()I"⟩
abbrev cX7_sees : ByteArray := prog_9_method_61_code
def yX7_sees : MethodName := ⟨RX7, "sees", "(I)I"⟩
abbrev cX7_misses : ByteArray := prog_9_method_62_code
def yX7_misses : MethodName := ⟨RX7, "misses", "(II)V"⟩
abbrev cX7_secondsOf : ByteArray := prog_9_method_63_code
def yX7_secondsOf : MethodName := ⟨RX7, "secondsOf", "(II)I"⟩
abbrev cX7_isLook : ByteArray := prog_9_method_64_code
def yX7_isLook : MethodName := ⟨RX7, "isLook", "(I)Z"⟩
abbrev cX7_seconds : ByteArray := prog_9_method_65_code
def yX7_seconds : MethodName := ⟨RX7, "seconds", "(II)I"⟩
abbrev cX7_foundBy : ByteArray := prog_9_method_66_code
def yX7_foundBy : MethodName := ⟨RX7, "foundBy", "(II)I"⟩
abbrev cX7_found : ByteArray := prog_9_method_67_code
def yX7_found : MethodName := ⟨RX7, "found", "(II)I"⟩
abbrev cX7_tensOf : ByteArray := prog_9_method_68_code
def yX7_tensOf : MethodName := ⟨RX7, "tensOf", "(II)I"⟩
abbrev cX7_mostBy : ByteArray := prog_9_method_69_code
def yX7_mostBy : MethodName := ⟨RX7, "mostBy", "(III)I"⟩
abbrev cX7_findMost : ByteArray := prog_9_method_70_code
def yX7_findMost : MethodName := ⟨RX7, "findMost", "()V"⟩
abbrev cX7_best : ByteArray := prog_9_method_71_code
def yX7_best : MethodName := ⟨RX7, "best", "(II)I"⟩
abbrev cX7_nextNow : ByteArray := prog_9_method_72_code
def yX7_nextNow : MethodName := ⟨RX7, "nextNow", "()I"⟩
abbrev cX7_next : ByteArray := prog_9_method_73_code
def yX7_next : MethodName := ⟨RX7, "next", "()I"⟩
abbrev cX7_soonest : ByteArray := prog_9_method_74_code
def yX7_soonest : MethodName := ⟨RX7, "soonest", "(I)I"⟩
abbrev cX7_vainly : ByteArray := prog_9_method_75_code
def yX7_vainly : MethodName := ⟨RX7, "vainly", "(I)LOnTheRoofModel;"⟩
abbrev cX7_order : ByteArray := prog_9_method_76_code
def yX7_order : MethodName := ⟨RX7, "order", "(I)I"⟩
abbrev cX7_vain : ByteArray := prog_9_method_77_code
def yX7_vain : MethodName := ⟨RX7, "vain", "(I)I"⟩
abbrev cX7_others : ByteArray := prog_9_method_78_code
def yX7_others : MethodName := ⟨RX7, "others", "(I)I"⟩
abbrev cX7_fast : ByteArray := prog_9_method_79_code
def yX7_fast : MethodName := ⟨RX7, "fast", "(I)I"⟩
abbrev cX7_drove : ByteArray := prog_9_method_80_code
def yX7_drove : MethodName := ⟨RX7, "drove", "(I)I"⟩
abbrev cX7_gripFor : ByteArray := prog_9_method_81_code
def yX7_gripFor : MethodName := ⟨RX7, "gripFor", "(I)I"⟩
abbrev cX7_otherwise : ByteArray := prog_9_method_82_code
def yX7_otherwise : MethodName := ⟨RX7, "otherwise", "()I"⟩
abbrev cX7_slows : ByteArray := prog_9_method_83_code
def yX7_slows : MethodName := ⟨RX7, "slows", "(I)I"⟩
abbrev cX7_without : ByteArray := prog_9_method_84_code
def yX7_without : MethodName := ⟨RX7, "without", "(I)I"⟩
abbrev cX7_once : ByteArray := prog_9_method_85_code
def yX7_once : MethodName := ⟨RX7, "once", "(I)I"⟩
abbrev cX7_until : ByteArray := prog_9_method_86_code
def yX7_until : MethodName := ⟨RX7, "until", "(I)I"⟩
abbrev cX7_worst : ByteArray := prog_9_method_87_code
def yX7_worst : MethodName := ⟨RX7, "worst", "()I"⟩
abbrev cX7_last : ByteArray := prog_9_method_88_code
def yX7_last : MethodName := ⟨RX7, "last", "()I"⟩
abbrev cX7_hearsOf : ByteArray := prog_9_method_89_code
def yX7_hearsOf : MethodName := ⟨RX7, "hearsOf", "(I)I"⟩
abbrev cX7_hears : ByteArray := prog_9_method_90_code
def yX7_hears : MethodName := ⟨RX7, "hears", "(I)I"⟩
abbrev cX7_rings : ByteArray := prog_9_method_91_code
def yX7_rings : MethodName := ⟨RX7, "rings", "(I)I"⟩
abbrev cX7_worth : ByteArray := prog_9_method_92_code
def yX7_worth : MethodName := ⟨RX7, "worth", "(III)I"⟩
abbrev cX7_noList : ByteArray := prog_9_method_93_code
def yX7_noList : MethodName := ⟨RX7, "noList", "(II)I"⟩
abbrev cX7_wrongIn : ByteArray := prog_9_method_94_code
def yX7_wrongIn : MethodName := ⟨RX7, "wrongIn", "([JI)I"⟩
abbrev cX7_judge : ByteArray := prog_9_method_95_code
def yX7_judge : MethodName := ⟨RX7, "judge", "(II)I"⟩
abbrev cX7_apart : ByteArray := prog_9_method_96_code
def yX7_apart : MethodName := ⟨RX7, "apart", "(II)I"⟩
abbrev cX7_areLooks : ByteArray := prog_9_method_97_code
def yX7_areLooks : MethodName := ⟨RX7, "areLooks", "([JI)Z"⟩
abbrev cX7_search : ByteArray := prog_9_method_98_code
def yX7_search : MethodName := ⟨RX7, "search", "(III)I"⟩
abbrev cX7_lies : ByteArray := prog_9_method_99_code
def yX7_lies : MethodName := ⟨RX7, "lies", "(I)I"⟩
abbrev cX7_below : ByteArray := prog_9_method_100_code
def yX7_below : MethodName := ⟨RX7, "below", "(I)I"⟩
abbrev cX7_driven : ByteArray := prog_9_method_101_code
def yX7_driven : MethodName := ⟨RX7, "driven", "()I"⟩
abbrev cX7_drive : ByteArray := prog_9_method_102_code
def yX7_drive : MethodName := ⟨RX7, "drive", "()I"⟩
abbrev cX7_look : ByteArray := prog_9_method_103_code
def yX7_look : MethodName := ⟨RX7, "look", "(II)I"⟩
abbrev cX7_trips : ByteArray := prog_9_method_104_code
def yX7_trips : MethodName := ⟨RX7, "trips", "(I)I"⟩
abbrev cX7_seed : ByteArray := prog_9_method_105_code
def yX7_seed : MethodName := ⟨RX7, "seed", "(I)I"⟩
abbrev cX7_copied : ByteArray := prog_9_method_106_code
def yX7_copied : MethodName := ⟨RX7, "copied", "([I[I)V"⟩
abbrev cX7_takeFrom : ByteArray := prog_9_method_107_code
def yX7_takeFrom : MethodName := ⟨RX7, "takeFrom", "(LOnTheRoofModel;)V"⟩
abbrev cX7_image : ByteArray := prog_9_method_108_code
def yX7_image : MethodName := ⟨RX7, "image", "()I"⟩
abbrev cX7_back : ByteArray := prog_9_method_109_code
def yX7_back : MethodName := ⟨RX7, "back", "()I"⟩
abbrev cX7_looked : ByteArray := prog_9_method_110_code
def yX7_looked : MethodName := ⟨RX7, "looked", "()I"⟩
abbrev cX7_status : ByteArray := prog_9_method_111_code
def yX7_status : MethodName := ⟨RX7, "status", "(I)I"⟩
def RJ6 : String := "java/lang/Integer"
def TJ6 : u_T := fun k => match k with
  | _ => ("", "", "", false)
def tyJ6 : Nat → FieldType := fun k => match k with
  | _ => .int
abbrev wsJ60 : List Cond := u_ws RJ6 TJ6 0
theorem nmJ6 : ∀ a, a < 0 → ∀ b, b < 0 → a ≠ b → (TJ6 a).2.1 ≠ (TJ6 b).2.1 := by decide +kernel
theorem tyJ6_ok : ∀ k, k < 0 → parseFieldDescriptor (TJ6 k).2.2.1 = some (tyJ6 k) := by decide +kernel
abbrev cJ6_bitCount_0f7a4 : ByteArray := prog_10_method_49_code
def yJ6_bitCount_0f7a4 : MethodName := ⟨RJ6, "bitCount", "(I)I"⟩
def RJ9 : String := "java/lang/Math"
def TJ9 : u_T := fun k => match k with
  | _ => ("", "", "", false)
def tyJ9 : Nat → FieldType := fun k => match k with
  | _ => .int
abbrev wsJ90 : List Cond := u_ws RJ9 TJ9 0
theorem nmJ9 : ∀ a, a < 0 → ∀ b, b < 0 → a ≠ b → (TJ9 a).2.1 ≠ (TJ9 b).2.1 := by decide +kernel
theorem tyJ9_ok : ∀ k, k < 0 → parseFieldDescriptor (TJ9 k).2.2.1 = some (tyJ9 k) := by decide +kernel
abbrev cJ9_abs_0f7a4 : ByteArray := prog_11_method_59_code
def yJ9_abs_0f7a4 : MethodName := ⟨RJ9, "abs", "(I)I"⟩
abbrev cJ9_max_7cf53 : ByteArray := prog_11_method_65_code
def yJ9_max_7cf53 : MethodName := ⟨RJ9, "max", "(II)I"⟩
abbrev cJ9_min_7cf53 : ByteArray := prog_11_method_69_code
def yJ9_min_7cf53 : MethodName := ⟨RJ9, "min", "(II)I"⟩
def RJ0 : String := "java/lang/String"
def TJ0 : u_T := fun k => match k with
  | _ => ("", "", "", false)
def tyJ0 : Nat → FieldType := fun k => match k with
  | _ => .int
abbrev wsJ00 : List Cond := u_ws RJ0 TJ0 0
theorem nmJ0 : ∀ a, a < 0 → ∀ b, b < 0 → a ≠ b → (TJ0 a).2.1 ≠ (TJ0 b).2.1 := by decide +kernel
theorem tyJ0_ok : ∀ k, k < 0 → parseFieldDescriptor (TJ0 k).2.2.1 = some (tyJ0 k) := by decide +kernel
abbrev cJ0_length_8abf5 : ByteArray := prog_12_method_54_code
def yJ0_length_8abf5 : MethodName := ⟨RJ0, "length", "()I"⟩
abbrev cJ0_charAt_5068e : ByteArray := prog_12_method_56_code
def yJ0_charAt_5068e : MethodName := ⟨RJ0, "charAt", "(I)C"⟩
abbrev cJ0_coder_7d493 : ByteArray := prog_12_method_152_code
def yJ0_coder_7d493 : MethodName := ⟨RJ0, "coder", "()B"⟩
abbrev cJ0_isLatin1_aae02 : ByteArray := prog_12_method_154_code
def yJ0_isLatin1_aae02 : MethodName := ⟨RJ0, "isLatin1", "()Z"⟩
abbrev cJ0_checkIndex_df160 : ByteArray := prog_12_method_155_code
def yJ0_checkIndex_df160 : MethodName := ⟨RJ0, "checkIndex", "(II)V"⟩
def RJ1 : String := "java/lang/StringLatin1"
def TJ1 : u_T := fun k => match k with
  | _ => ("", "", "", false)
def tyJ1 : Nat → FieldType := fun k => match k with
  | _ => .int
abbrev wsJ10 : List Cond := u_ws RJ1 TJ1 0
theorem nmJ1 : ∀ a, a < 0 → ∀ b, b < 0 → a ≠ b → (TJ1 a).2.1 ≠ (TJ1 b).2.1 := by decide +kernel
theorem tyJ1_ok : ∀ k, k < 0 → parseFieldDescriptor (TJ1 k).2.2.1 = some (tyJ1 k) := by decide +kernel
abbrev cJ1_charAt_3b067 : ByteArray := prog_13_method_2_code
def yJ1_charAt_3b067 : MethodName := ⟨RJ1, "charAt", "([BI)C"⟩
def RJ2 : String := "java/lang/StringUTF16"
def TJ2 : u_T := fun k => match k with
  | _ => ("", "", "", false)
def tyJ2 : Nat → FieldType := fun k => match k with
  | _ => .int
abbrev wsJ20 : List Cond := u_ws RJ2 TJ2 0
theorem nmJ2 : ∀ a, a < 0 → ∀ b, b < 0 → a ≠ b → (TJ2 a).2.1 ≠ (TJ2 b).2.1 := by decide +kernel
theorem tyJ2_ok : ∀ k, k < 0 → parseFieldDescriptor (TJ2 k).2.2.1 = some (tyJ2 k) := by decide +kernel
abbrev cJ2_getChar_3b067 : ByteArray := prog_14_method_5_code
def yJ2_getChar_3b067 : MethodName := ⟨RJ2, "getChar", "([BI)C"⟩
abbrev cJ2_length_9d52b : ByteArray := prog_14_method_6_code
def yJ2_length_9d52b : MethodName := ⟨RJ2, "length", "([B)I"⟩
abbrev cJ2_charAt_3b067 : ByteArray := prog_14_method_83_code
def yJ2_charAt_3b067 : MethodName := ⟨RJ2, "charAt", "([BI)C"⟩
abbrev cJ2_checkIndex_2214a : ByteArray := prog_14_method_91_code
def yJ2_checkIndex_2214a : MethodName := ⟨RJ2, "checkIndex", "(I[B)V"⟩
def RJ10 : String := "java/lang/System"
def TJ10 : u_T := fun k => match k with
  | _ => ("", "", "", false)
def tyJ10 : Nat → FieldType := fun k => match k with
  | _ => .int
abbrev wsJ100 : List Cond := u_ws RJ10 TJ10 0
theorem nmJ10 : ∀ a, a < 0 → ∀ b, b < 0 → a ≠ b → (TJ10 a).2.1 ≠ (TJ10 b).2.1 := by decide +kernel
theorem tyJ10_ok : ∀ k, k < 0 → parseFieldDescriptor (TJ10 k).2.2.1 = some (tyJ10 k) := by decide +kernel
def RJ3 : String := "jdk/internal/util/Preconditions"
def TJ3 : u_T := fun k => match k with
  | _ => ("", "", "", false)
def tyJ3 : Nat → FieldType := fun k => match k with
  | _ => .int
abbrev wsJ30 : List Cond := u_ws RJ3 TJ3 0
theorem nmJ3 : ∀ a, a < 0 → ∀ b, b < 0 → a ≠ b → (TJ3 a).2.1 ≠ (TJ3 b).2.1 := by decide +kernel
theorem tyJ3_ok : ∀ k, k < 0 → parseFieldDescriptor (TJ3 k).2.2.1 = some (tyJ3 k) := by decide +kernel
abbrev cJ3_checkIndex_8e157 : ByteArray := prog_16_method_11_code
def yJ3_checkIndex_8e157 : MethodName := ⟨RJ3, "checkIndex", "(IILjava/util/function/BiFunction;)I"⟩
def RL : String := "OnTheRoofLaw"
abbrev cL_law : ByteArray := code
def yL_law : MethodName := ⟨RL, "law", "([I)Z"⟩
abbrev vwCl : List vw_C := [(RX0, TX0, 4), (RX1, TX1, 8), (RX2, TX2, 3), (RX3, TX3, 3), (RX4, TX4, 6), (RX5, TX5, 4), (RX6, TX6, 9), (RX7, TX7, 43)]
end
section
/-! MY OWN LAYER: the program's memory as three functions over a fixed shape; a run of a method from a place in it. -/
/-- the words that every method is given: those of the tables that hold in every later state -/
def zTb : List Cond := lw_tbl.filter goodWord
/-- a value: an int, a long, null or a place (block, cell) -/
abbrev zV : Type := Int32 ⊕ Int64 ⊕ Option (Nat × Nat)
/-- a field of a shape: a fixed value; an int of the memory; null or a place, by an int of the memory -/
abbrev zF : Type := zV ⊕ Option (Nat × Nat)
/-- a shape: an array of ints (0) or longs (1), its length; an object, its class, its fields; an array of places, its kind -/
abbrev zS : Type := (Nat × Nat) ⊕ (Nat × List zF) ⊕ (Nat × List (Option (Nat × Nat)))
abbrev zG : Type := va_G × (Nat → ClassId)
def rv (ad : Nat → Nat → Nat) : zV → Value
  | .inl x => .int x
  | .inr (.inl x) => .long x
  | .inr (.inr none) => .null
  | .inr (.inr (some (b, k))) => .ref (ad b k)
def zty : Nat → FieldType
  | 0 => .int
  | 1 => .long
  | 2 => .object "OnTheRoof$Shelf"
  | 3 => .array .int
  | _ => .array .long
abbrev ztys (g : zG) : List (ClassId × FieldType) := [(g.2 0, .int), (g.2 1, .long), (g.2 2, .object "OnTheRoof$Shelf"), (g.2 3, .array .int), (g.2 4, .array .long)]
def zK (g : zG) (U : State) : Prop := va_K g.1 vwCl (ztys g) U
/-- what a field holds -/
def zfv (I : Nat → Nat → Nat → Int32) (b k j : Nat) : zF → zV
  | .inl v => v
  | .inr none => .inl (I b k j)
  | .inr (some q) => if I b k j = 0 then .inr (.inr none) else .inr (.inr (some q))
def zpl (ad : Nat → Nat → Nat) : Option (Option (Nat × Nat)) → Option Nat
  | some (some (b, k)) => some (ad b k)
  | _ => none
/-- a cell of the heap, by its shape and the memory -/
def zcell (g : zG) (ad : Nat → Nat → Nat) (I X : Nat → Nat → Nat → Int32) (Y : Nat → Nat → Nat → Int64) (b k : Nat) : zS → va_E
  | .inl (0, n) => .inl (g.2 0, (n, .inl (X b k)))
  | .inl (_ + 1, n) => .inl (g.2 1, (n, .inr (.inl (Y b k))))
  | .inr (.inl (ci, fl)) => .inr (ci, fl.mapIdx (fun j f => rv ad (zfv I b k j f)))
  | .inr (.inr (t, el)) => .inl (g.2 (t + 2), (el.length, .inr (.inr (.inr (.inr (fun j => zpl ad el[j]?))))))
/-- the heap holds the shapes -/
def zW (g : zG) (A : Nat → Prop) (ad : Nat → Nat → Nat) (S : Nat → Nat → Option zS) (I X : Nat → Nat → Nat → Int32) (Y : Nat → Nat → Nat → Int64) (H : Heap) : Prop :=
  (∀ b k sh, S b k = some sh → va_at g.1 vwCl (ad b k, zcell g ad I X Y b k sh) H ∧ A (ad b k)) ∧
  ∀ b k b' k', S b k ≠ none → S b' k' ≠ none → ad b k = ad b' k' → b = b' ∧ k = k'
/-- locals -/
def zlv (ad : Nat → Nat → Nat) (ls : Array Slot) (nL : Nat) (lo : List (Option zV)) : Prop :=
  ls.size = nL ∧ lv_wf ls ∧ ∀ (i : Nat) (v : zV), lo[i]? = some (some v) → ls[i]? = some (.val (rv ad v))
def zcat : Option (Option zV) → Nat
  | some (some (.inr (.inl _))) => 2
  | _ => 1
/-- the local ahead of it is no long -/
def zok (lo : List (Option zV)) : Nat → Bool
  | 0 => true
  | i + 1 => zcat lo[i]? == 1
def zal (ad : Nat → Nat → Nat) (lo : List (Option zV)) : List (Nat × Value) := lo.zipIdx.filterMap (fun q => q.1.map (fun v => (q.2, rv ad v)))
theorem zal_mem {ad : Nat → Nat → Nat} {lo : List (Option zV)} {q : Nat × Value} : q ∈ zal ad lo ↔ ∃ v, lo[q.1]? = some (some v) ∧ q.2 = rv ad v := by
  unfold zal
  rw [List.mem_filterMap]
  constructor
  · rintro ⟨⟨w, i⟩, h1, h2⟩
    have h3 := List.mem_zipIdx_iff_getElem?.mp h1
    cases w with
    | none => simp at h2
    | some v => simp at h2; subst h2; exact ⟨v, h3, rfl⟩
  · rintro ⟨v, h1, h2⟩
    refine ⟨(some v, q.1), List.mem_zipIdx_iff_getElem?.mpr h1, ?_⟩
    simp [← h2]
theorem zlv_has {ad : Nat → Nat → Nat} {ls : Array Slot} {nL : Nat} {lo : List (Option zV)} (h : zlv ad ls nL lo) : lv_has ls nL (zal ad lo) := by
  refine ⟨h.1, h.2.1, fun q hq => ?_⟩
  obtain ⟨v, h1, h2⟩ := zal_mem.mp hq
  rw [h2]
  exact h.2.2 q.1 v h1
theorem rv_cat (ad : Nat → Nat → Nat) (v : zV) : (rv ad v).category = zcat (some (some v)) := by
  rcases v with x | x | _ | ⟨b, k⟩ <;> rfl
theorem zlv_st1 {ad : Nat → Nat → Nat} {ls' : Array Slot} {nL i : Nat} {lo : List (Option zV)} {v : zV} (hk : zok lo i = true)
    (h' : lv_has ls' nL ((i, rv ad v) :: (zal ad lo).filter (fun q => !(q.1 == i) && !(q.1 + 1 == i && q.2.category == 2)))) : zlv ad ls' nL (lo.set i (some v)) := by
  refine ⟨h'.1, h'.2.1, fun j w hj => ?_⟩
  by_cases hji : i = j
  · subst hji
    rw [List.getElem?_set_self'] at hj
    have hw : w = v := by
      cases hlo : lo[i]? with
      | none => rw [hlo] at hj; simp at hj
      | some z => rw [hlo] at hj; simp at hj; exact hj.symm
    subst hw
    exact h'.2.2 (i, rv ad w) List.mem_cons_self
  · rw [List.getElem?_set_ne hji] at hj
    refine h'.2.2 (j, rv ad w) (List.mem_cons_of_mem _ (List.mem_filter.mpr ⟨zal_mem.mpr ⟨w, hj, rfl⟩, ?_⟩))
    have h1 : (j == i) = false := by simp; exact fun e => hji e.symm
    have h2 : (j + 1 == i && (rv ad w).category == 2) = false := by
      by_cases e : j + 1 = i
      · subst e
        have h3 : (zcat lo[j]? == 1) = true := hk
        rw [hj] at h3
        have h4 : zcat (some (some w)) = 1 := by simpa using h3
        rw [rv_cat, h4]
        simp
      · have : (j + 1 == i) = false := by simp; exact e
        rw [this]; rfl
    show (!(j == i) && !(j + 1 == i && (rv ad w).category == 2)) = true
    rw [h1, h2]; rfl
theorem zlv_st2 {ad : Nat → Nat → Nat} {ls' : Array Slot} {nL i : Nat} {lo : List (Option zV)} {v : zV} (hk : zok lo i = true)
    (h' : lv_has ls' nL ((i, rv ad v) :: (zal ad lo).filter (fun q => !(q.1 == i) && (!(q.1 == i + 1) && !(q.1 + 1 == i && q.2.category == 2))))) : zlv ad ls' nL ((lo.set i (some v)).set (i + 1) none) := by
  refine ⟨h'.1, h'.2.1, fun j w hj => ?_⟩
  by_cases hj1 : i + 1 = j
  · subst hj1
    rw [List.getElem?_set_self'] at hj
    cases hlo : (lo.set i (some v))[i + 1]? with
    | none => rw [hlo] at hj; simp at hj
    | some z => rw [hlo] at hj; simp at hj
  rw [List.getElem?_set_ne hj1] at hj
  by_cases hji : i = j
  · subst hji
    rw [List.getElem?_set_self'] at hj
    have hw : w = v := by
      cases hlo : lo[i]? with
      | none => rw [hlo] at hj; simp at hj
      | some z => rw [hlo] at hj; simp at hj; exact hj.symm
    subst hw
    exact h'.2.2 (i, rv ad w) List.mem_cons_self
  · rw [List.getElem?_set_ne hji] at hj
    refine h'.2.2 (j, rv ad w) (List.mem_cons_of_mem _ (List.mem_filter.mpr ⟨zal_mem.mpr ⟨w, hj, rfl⟩, ?_⟩))
    have h1 : (j == i) = false := by simp; exact fun e => hji e.symm
    have h0 : (j == i + 1) = false := by simp; exact fun e => hj1 e.symm
    have h2 : (j + 1 == i && (rv ad w).category == 2) = false := by
      by_cases e : j + 1 = i
      · subst e
        have h3 : (zcat lo[j]? == 1) = true := hk
        rw [hj] at h3
        have h4 : zcat (some (some w)) = 1 := by simpa using h3
        rw [rv_cat, h4]
        simp
      · have : (j + 1 == i) = false := by simp; exact e
        rw [this]; rfl
    show (!(j == i) && (!(j == i + 1) && !(j + 1 == i && (rv ad w).category == 2))) = true
    rw [h1, h0, h2]; rfl
theorem zlv_weak {ad : Nat → Nat → Nat} {ls : Array Slot} {nL : Nat} {lo lo' : List (Option zV)} (h : zlv ad ls nL lo) (hw : ∀ (i : Nat) (v : zV), lo'[i]? = some (some v) → lo[i]? = some (some v)) : zlv ad ls nL lo' := ⟨h.1, h.2.1, fun i v hi => h.2.2 i v (hw i v hi)⟩
/-- old things: strings, statics -/
def zSw : List (List Int32) := [[98, 101, 110, 100], [112, 97, 99, 101], [119, 101, 116], [103, 114, 105, 112], [115, 101, 101, 110], [103, 111, 110, 101], [99, 97, 108, 108], [108, 111, 111, 107]]
def zSl : List Nat := [4, 4, 3, 4, 4, 4, 4, 4]
def zAn : Nat → String
  | 0 => "NUMBERS"
  | 1 => "LEAST"
  | _ => "MOST"
def zAl : Nat → List Int32
  | 0 => [4, 1, 1, 1, 2, 2, 3, 2]
  | 1 => [0, 0, 1, 0, 1, 0, 0, 0, 0, 0, 0, 0, 0, 0, 0, 0, 0, 0, 0, 0, 0, 0, 0, 0, 0, 1, 0, 0, 0, 0, 0, 0]
  | _ => [5, 9, 999, 1000, 9, 0, 0, 0, 1, 0, 0, 0, 10, 0, 0, 0, -1, 100, 0, 0, -1, 100, 0, 0, -1, 99, 100, 0, -1, 2, 0, 0]

theorem zTb_all : ∀ w ∈ zTb, w ∈ lw_tbl := fun _ h => (List.mem_filter.mp h).1
theorem zTb_good {ws : List Cond} (h : ∀ w ∈ ws, w ∈ zTb) : GoodIn zTb ws := fun w hw => ⟨h w hw, good_of_word (List.mem_filter.mp (h w hw)).2⟩
/-- a word by its place in the tables -/
theorem zin {i : Nat} {w : Cond} (h : tables_1[i]? = some w) (hg : goodWord w = true) : w ∈ zTb :=
  List.mem_filter.mpr ⟨List.mem_append_right _ (List.mem_of_getElem? h), hg⟩
theorem zinP {i : Nat} {q : MethodName × Nat} (h : lw_privs[i]? = some q) (hg : goodWord (Cond.selects q.1.cls q.1 q.1) = true) : Cond.selects q.1.cls q.1 q.1 ∈ zTb :=
  List.mem_filter.mpr ⟨List.mem_append_left _ (List.mem_map.mpr ⟨q, List.mem_of_getElem? h, rfl⟩), hg⟩
end
section
/-! what is old: strings, statics, what the tables say of arrays of arrays -/
def zRefs : List (String × Nat × String × Nat) := [("OnTheRoof$Tape", 89, "bend", 0), ("OnTheRoof$Tape", 95, "pace", 1), ("OnTheRoof$Tape", 97, "wet", 2), ("OnTheRoof$Tape", 99, "grip", 3), ("OnTheRoof$Tape", 101, "seen", 4), ("OnTheRoof$Tape", 103, "gone", 5), ("OnTheRoof$Tape", 105, "call", 6), ("OnTheRoof$Tape", 107, "look", 7),
  ("OnTheRoofModel", 224, "bend", 0), ("OnTheRoofModel", 230, "pace", 1), ("OnTheRoofModel", 234, "wet", 2), ("OnTheRoofModel", 235, "grip", 3), ("OnTheRoofModel", 236, "seen", 4), ("OnTheRoofModel", 238, "gone", 5), ("OnTheRoofModel", 240, "call", 6), ("OnTheRoofModel", 242, "look", 7)]
def zOver (U : State) : Prop := (Cond.arrayOver (.object "OnTheRoof$Shelf")).before #[] U = true ∧ (Cond.arrayOver (.array .int)).before #[] U = true ∧ (Cond.arrayOver (.array .long)).before #[] U = true
def zNests : List (String × Nat × MethodName × String) := [("OnTheRoof$Road", 75, ⟨"OnTheRoof", "missBehind", "(II)I"⟩, "OnTheRoof"), ("OnTheRoof$Weights", 66, ⟨"OnTheRoof", "isIn", "(II)Z"⟩, "OnTheRoof"), ("OnTheRoof$Weights", 82, ⟨"OnTheRoof", "seenBy", "(I)I"⟩, "OnTheRoof"), ("OnTheRoof$Weights", 85, ⟨"OnTheRoof", "missBehind", "(II)I"⟩, "OnTheRoof"), ("OnTheRoof$Road", 98, ⟨"OnTheRoof", "isIn", "(II)Z"⟩, "OnTheRoof"), ("OnTheRoof$Shelf", 47, ⟨"OnTheRoof", "isWithin", "(III)Z"⟩, "OnTheRoof"), ("OnTheRoof$Road", 110, ⟨"OnTheRoof", "seenBy", "(I)I"⟩, "OnTheRoof")]
def zFmt : String := "Ljava/util/function/BiFunction;"
def zOld (ad : Nat → Nat → Nat) (A : Nat → Prop) (U : State) (H : Heap) : Prop :=
  vk_S 8 zSl zSw (ad 5) (ad 6) A U H ∧ (∀ q ∈ zRefs, vk_R q.1 q.2.1 q.2.2.1 (ad 5 q.2.2.2) U) ∧ va_Z "java/lang/String" "COMPACT_STRINGS" "Z" (.int 1) A U H ∧
  (∀ j, j < 3 → va_Z "OnTheRoof$Road" (zAn j) "[I" (.ref (ad 4 j)) A U H ∧ va_T .int (ad 4 j) (zAl j).length (fun i => .int ((zAl j).getD i 0)) A U H) ∧ zOver U ∧
  (va_Z "jdk/internal/util/Preconditions" "SIOOBE_FORMATTER" zFmt .null A U H ∨ va_Z "jdk/internal/util/Preconditions" "SIOOBE_FORMATTER" zFmt (.ref (ad 7 0)) A U H) ∧
  ∀ q ∈ zNests, va_Nw (.methodLinkNest q.1 q.2.1 q.2.2.1 q.2.2.2) U
theorem zAOA_moved {t : FieldType} {u U : State} (hvm : u.vm.Alike U.vm) (h : (Cond.arrayOver (.array t)).before #[] u = true) : (Cond.arrayOver (.array t)).before #[] U = true := by
  obtain ⟨comp, c, k, h1, h2, h3, h4, h5⟩ := arrayOver_specB h
  obtain ⟨k', hk', he⟩ := hvm.2.2 _ _ h3
  have hi : (U.vm.classes.findIdx? fun (x : Class) => match x.kind with | .array component _ => component == comp | _ => false) = some c := by
    refine (va_idx_bare U.vm comp).symm.trans ?_
    first | rw [hvm.bare_eq] | rw [← hvm.bare_eq]
    exact (va_idx_bare u.vm comp).trans h2
  have hkind : k'.kind = .array comp (.array t) := by rw [he]; exact h4
  have f1 : U.vm.findClass (FieldType.array t).toString = some comp := by rw [hvm.findClass]; exact h1
  have f2 : U.vm.findClass ("[" ++ (FieldType.array t).toString) = some c := by rw [hvm.findClass]; exact h5
  unfold Cond.before Cond.holds
  simp only [Cond.value]
  rw [f1, Option.bind_some]
  refine (congrArg (fun o : Option Nat => (o.bind (fun c => (U.vm.classes[c]?).map fun (k : Class) => match k.kind with | .array _ ty => decide (ty = FieldType.array t) && decide (U.vm.findClass ("[" ++ (FieldType.array t).toString) = some c) | _ => false) == some true)) hi).trans ?_
  simp [hk', hkind, f2]
theorem zOver.moved {u U : State} (hvm : u.vm.Alike U.vm) (h : zOver u) : zOver U := ⟨va_AO.moved hvm h.1, zAOA_moved hvm h.2.1, zAOA_moved hvm h.2.2⟩
theorem zOld.to {ad : Nat → Nat → Nat} {A B : Nat → Prop} {s U : State} {H : Heap} (h : zOld ad A s s.heap) (hS : ∀ a : Nat, a < s.heap.size → ¬ A a → H[a]? = s.heap[a]?) (hAB : ∀ q, B q → A q) (hW : s.WarmedH U.vm) : zOld ad B U H := by
  obtain ⟨h1, h2, h3, h4, h5, h6, h7⟩ := h
  have hv := hW.alike
  exact ⟨((h1.kept hS).narrow hAB).moved hv, fun q hq => (h2 q hq).warm hW, ((h3.kept hS).narrow hAB).moved hv, fun j hj => ⟨(((h4 j hj).1.kept hS).narrow hAB).moved hv, (((h4 j hj).2.kept hS).narrow hAB).moved hv⟩, h5.moved hv,
    h6.imp (fun h => ((h.kept hS).narrow hAB).moved hv) (fun h => ((h.kept hS).narrow hAB).moved hv), fun q hq => (h7 q hq).warmM hW⟩
theorem zOld.same {ad : Nat → Nat → Nat} {A : Nat → Prop} {u U : State} {H : Heap} (hv : U.vm = u.vm) (h : zOld ad A u H) : zOld ad A U H := by
  obtain ⟨h1, h2, h3, h4, h5, h6, h7⟩ := h
  have ha : u.vm.Alike U.vm := by rw [hv]; exact Vm.Alike.refl _
  exact ⟨h1.moved ha, fun q hq => (h2 q hq).same hv, h3.moved ha, fun j hj => ⟨(h4 j hj).1.moved ha, (h4 j hj).2.moved ha⟩, h5.moved ha, h6.imp (fun h => h.moved ha) (fun h => h.moved ha), fun q hq => va_Nw.same rfl hv.symm (h7 q hq)⟩
/-! a run from a place in a method -/
abbrev zC : Type := Program × Launch × Env × Room × State × MethodId × Array Value × List Frame × Method × Code × (State → Prop) × zG × (Nat → Prop)
abbrev cp (C : zC) : Program := C.1
abbrev cl (C : zC) : Launch := C.2.1
abbrev ce (C : zC) : Env := C.2.2.1
abbrev cR (C : zC) : Room := C.2.2.2.1
abbrev cs (C : zC) : State := C.2.2.2.2.1
abbrev cm (C : zC) : MethodId := C.2.2.2.2.2.1
abbrev ca (C : zC) : Array Value := C.2.2.2.2.2.2.1
abbrev cb (C : zC) : List Frame := C.2.2.2.2.2.2.2.1
abbrev ch (C : zC) : Method := C.2.2.2.2.2.2.2.2.1
abbrev cc (C : zC) : Code := C.2.2.2.2.2.2.2.2.2.1
abbrev cZ (C : zC) : State → Prop := C.2.2.2.2.2.2.2.2.2.2.1
abbrev cg (C : zC) : zG := C.2.2.2.2.2.2.2.2.2.2.2.1
abbrev cA (C : zC) : Nat → Prop := C.2.2.2.2.2.2.2.2.2.2.2.2
abbrev zSh : Type := Nat → Nat → Option zS
abbrev zI : Type := Nat → Nat → Nat → Int32
abbrev zY : Type := Nat → Nat → Nat → Int64
abbrev zA : Type := Nat → Nat → Nat
def zL (C : zC) (nL : Nat) (ad : zA) (S : zSh) (cells slots sz : Nat) (I X : zI) (Y : zY) (pc : Nat) (lo : List (Option zV)) (st : List zV) : Prop :=
  ∀ (H : Heap) (locs : List Loc) (ls : Array Slot), (zW (cg C) (cA C) ad S I X Y H ∧ H.size = sz) → va_S (cA C) (cs C).heap H locs → zlv ad ls nL lo →
    W (cp C) (cl C) (ce C) (cR C) (cs C) (cm C) (ca C) (cb C) (ch C) (cc C) H locs cells slots (cZ C) (F0 (cm C) pc ls (st.map (rv ad)))
/-- what holds while a method runs: its bytes, its class, its locals, its answer's type, its room -/
def zOk (bt : ByteArray) (own : String) (nL : Nat) (ret : Option FieldType) (N mc ms : Nat) (C : zC) (ad : zA) : Prop :=
  (cp C).tables.exec = Jvm.exec ∧ (cc C).code = bt ∧ (cc C).maxLocals = nL ∧ (cs C).vm.findClass own = some (cm C).cls ∧ (∀ w ∈ zTb, w.before (ca C) (cs C) = true) ∧
  (ch C).sig.returnType = ret ∧ (ch C).locks = false ∧ (N ≤ (cR C).frames ∧ 36 * N ≤ (cR C).locals ∧ mc ≤ (cR C).cells ∧ ms ≤ (cR C).slots) ∧
  zK (cg C) (cs C) ∧ zOld ad (cA C) (cs C) (cs C).heap ∧ (∀ q, (cs C).heap.size ≤ q → cA C q)
section ZR
variable {C : zC} {nL : Nat} {ad : zA} {S : zSh} {cells slots sz : Nat} {I X : zI} {Y : zY} {pc : Nat} {lo : List (Option zV)} {st : List zV}
variable {bt : ByteArray} {own : String} {ret : Option FieldType} {N mc ms : Nat}
theorem z_iload (hC : zOk bt own nL ret N mc ms C ad) {i : Nat} {x : Int32} (d : decode bt pc = .ok (.iload i, 2)) (hl : lo[i]? = some (some (.inl x))) (k : zL C nL ad S cells slots sz I X Y (pc + 2) lo ((.inl x) :: st)) : zL C nL ad S cells slots sz I X Y pc lo (st) :=
  fun H locs ls h1 h2 h3 => lv_iload hC.1 hC.2.1 d (h3.2.2 i _ hl) (k H locs ls h1 h2 h3)
theorem z_iload_n (hC : zOk bt own nL ret N mc ms C ad) {n : Fin 4} {x : Int32} (d : decode bt pc = .ok (.iload_n n, 1)) (hl : lo[n.val]? = some (some (.inl x))) (k : zL C nL ad S cells slots sz I X Y (pc + 1) lo ((.inl x) :: st)) : zL C nL ad S cells slots sz I X Y pc lo (st) :=
  fun H locs ls h1 h2 h3 => lv_iload_n hC.1 hC.2.1 d rfl (h3.2.2 n.val _ hl) (k H locs ls h1 h2 h3)
theorem z_lload (hC : zOk bt own nL ret N mc ms C ad) {i : Nat} {x : Int64} (d : decode bt pc = .ok (.lload i, 2)) (hl : lo[i]? = some (some (.inr (.inl x)))) (k : zL C nL ad S cells slots sz I X Y (pc + 2) lo ((.inr (.inl x)) :: st)) : zL C nL ad S cells slots sz I X Y pc lo (st) :=
  fun H locs ls h1 h2 h3 => lv_lload hC.1 hC.2.1 d (h3.2.2 i _ hl) (k H locs ls h1 h2 h3)
theorem z_lload_n (hC : zOk bt own nL ret N mc ms C ad) {n : Fin 4} {x : Int64} (d : decode bt pc = .ok (.lload_n n, 1)) (hl : lo[n.val]? = some (some (.inr (.inl x)))) (k : zL C nL ad S cells slots sz I X Y (pc + 1) lo ((.inr (.inl x)) :: st)) : zL C nL ad S cells slots sz I X Y pc lo (st) :=
  fun H locs ls h1 h2 h3 => lv_lload_n hC.1 hC.2.1 d rfl (h3.2.2 n.val _ hl) (k H locs ls h1 h2 h3)
theorem z_aload (hC : zOk bt own nL ret N mc ms C ad) {i b j : Nat} (d : decode bt pc = .ok (.aload i, 2)) (hl : lo[i]? = some (some (.inr (.inr (some (b, j)))))) (k : zL C nL ad S cells slots sz I X Y (pc + 2) lo ((.inr (.inr (some (b, j)))) :: st)) : zL C nL ad S cells slots sz I X Y pc lo (st) :=
  fun H locs ls h1 h2 h3 => lv_aload hC.1 hC.2.1 d (h3.2.2 i _ hl) (k H locs ls h1 h2 h3)
theorem z_aload_n (hC : zOk bt own nL ret N mc ms C ad) {n : Fin 4} {b j : Nat} (d : decode bt pc = .ok (.aload_n n, 1)) (hl : lo[n.val]? = some (some (.inr (.inr (some (b, j)))))) (k : zL C nL ad S cells slots sz I X Y (pc + 1) lo ((.inr (.inr (some (b, j)))) :: st)) : zL C nL ad S cells slots sz I X Y pc lo (st) :=
  fun H locs ls h1 h2 h3 => lv_aload_n hC.1 hC.2.1 d rfl (h3.2.2 n.val _ hl) (k H locs ls h1 h2 h3)
theorem z_istore (hC : zOk bt own nL ret N mc ms C ad) {i : Nat} {x : Int32} {lo2 : List (Option zV)} (d : decode bt pc = .ok (.istore i, 2)) (hn : i < nL) (hk : zok lo i = true) (hl : lo.set i (some (.inl x)) = lo2) (k : zL C nL ad S cells slots sz I X Y (pc + 2) lo2 (st)) : zL C nL ad S cells slots sz I X Y pc lo ((.inl x) :: st) :=
  fun H locs ls h1 h2 h3 => lv_istore hC.1 hC.2.1 d (zlv_has h3) hn rfl (fun ls2 h4 => k H locs ls2 h1 h2 (hl ▸ zlv_st1 (v := .inl x) hk h4))
theorem z_istore_n (hC : zOk bt own nL ret N mc ms C ad) {n : Fin 4} {x : Int32} {lo2 : List (Option zV)} (d : decode bt pc = .ok (.istore_n n, 1)) (hn : n.val < nL) (hk : zok lo n.val = true) (hl : lo.set n.val (some (.inl x)) = lo2) (k : zL C nL ad S cells slots sz I X Y (pc + 1) lo2 (st)) : zL C nL ad S cells slots sz I X Y pc lo ((.inl x) :: st) :=
  fun H locs ls h1 h2 h3 => lv_istore_n hC.1 hC.2.1 d rfl (zlv_has h3) hn rfl (fun ls2 h4 => k H locs ls2 h1 h2 (hl ▸ zlv_st1 (v := .inl x) hk h4))
theorem z_astore (hC : zOk bt own nL ret N mc ms C ad) {i : Nat} {b j : Nat} {lo2 : List (Option zV)} (d : decode bt pc = .ok (.astore i, 2)) (hn : i < nL) (hk : zok lo i = true) (hl : lo.set i (some (.inr (.inr (some (b, j))))) = lo2) (k : zL C nL ad S cells slots sz I X Y (pc + 2) lo2 (st)) : zL C nL ad S cells slots sz I X Y pc lo ((.inr (.inr (some (b, j)))) :: st) :=
  fun H locs ls h1 h2 h3 => lv_astore hC.1 hC.2.1 d (zlv_has h3) hn rfl (fun ls2 h4 => k H locs ls2 h1 h2 (hl ▸ zlv_st1 (v := .inr (.inr (some (b, j)))) hk h4))
theorem z_astore_n (hC : zOk bt own nL ret N mc ms C ad) {n : Fin 4} {b j : Nat} {lo2 : List (Option zV)} (d : decode bt pc = .ok (.astore_n n, 1)) (hn : n.val < nL) (hk : zok lo n.val = true) (hl : lo.set n.val (some (.inr (.inr (some (b, j))))) = lo2) (k : zL C nL ad S cells slots sz I X Y (pc + 1) lo2 (st)) : zL C nL ad S cells slots sz I X Y pc lo ((.inr (.inr (some (b, j)))) :: st) :=
  fun H locs ls h1 h2 h3 => lv_astore_n hC.1 hC.2.1 d rfl (zlv_has h3) hn rfl (fun ls2 h4 => k H locs ls2 h1 h2 (hl ▸ zlv_st1 (v := .inr (.inr (some (b, j)))) hk h4))
theorem z_lstore (hC : zOk bt own nL ret N mc ms C ad) {i : Nat} {x : Int64} {lo2 : List (Option zV)} (d : decode bt pc = .ok (.lstore i, 2)) (hn : i + 1 < nL) (hk : zok lo i = true) (hl : (lo.set i (some (.inr (.inl x)))).set (i + 1) none = lo2) (k : zL C nL ad S cells slots sz I X Y (pc + 2) lo2 (st)) : zL C nL ad S cells slots sz I X Y pc lo ((.inr (.inl x)) :: st) :=
  fun H locs ls h1 h2 h3 => lv_lstore hC.1 hC.2.1 d (zlv_has h3) hn rfl (fun ls2 h4 => k H locs ls2 h1 h2 (hl ▸ zlv_st2 (v := .inr (.inl x)) hk h4))
theorem z_lstore_n (hC : zOk bt own nL ret N mc ms C ad) {n : Fin 4} {x : Int64} {lo2 : List (Option zV)} (d : decode bt pc = .ok (.lstore_n n, 1)) (hn : n.val + 1 < nL) (hk : zok lo n.val = true) (hl : (lo.set n.val (some (.inr (.inl x)))).set (n.val + 1) none = lo2) (k : zL C nL ad S cells slots sz I X Y (pc + 1) lo2 (st)) : zL C nL ad S cells slots sz I X Y pc lo ((.inr (.inl x)) :: st) :=
  fun H locs ls h1 h2 h3 => lv_lstore_n hC.1 hC.2.1 d rfl (zlv_has h3) hn rfl (fun ls2 h4 => k H locs ls2 h1 h2 (hl ▸ zlv_st2 (v := .inr (.inl x)) hk h4))
theorem zal_at {ad : zA} {lo : List (Option zV)} {i : Nat} {v : zV} (h : lo[i]? = some (some v)) : ∃ k : Nat, (zal ad lo)[k]? = some (i, rv ad v) := List.getElem?_of_mem (zal_mem.mpr ⟨v, h, rfl⟩)
theorem z_iinc (hC : zOk bt own nL ret N mc ms C ad) {i : Nat} {n : Int} {x v : Int32} {lo2 : List (Option zV)} (d : decode bt pc = .ok (.iinc i n, 3)) (hx : lo[i]? = some (some (.inl x))) (hv : Int32.ofInt n = v) (hn : i < nL) (hk : zok lo i = true) (hl : lo.set i (some (.inl (x + v))) = lo2) (k : zL C nL ad S cells slots sz I X Y (pc + 3) lo2 st) : zL C nL ad S cells slots sz I X Y pc lo st := by
  intro H locs ls h1 h2 h3
  obtain ⟨q, hq⟩ := zal_at (ad := ad) hx
  subst hv
  exact lv_iinc hC.1 hC.2.1 d (zlv_has h3) hq rfl hn rfl (fun ls2 h4 => k H locs ls2 h1 h2 (hl ▸ zlv_st1 (v := .inl (x + Int32.ofInt n)) hk h4))
theorem z_iconst (hC : zOk bt own nL ret N mc ms C ad) {n : Int} {v : Int32} (d : decode bt pc = .ok (.iconst n, 1)) (hv : Int32.ofInt n = v) (k : zL C nL ad S cells slots sz I X Y (pc + 1) lo ((.inl v) :: st)) : zL C nL ad S cells slots sz I X Y pc lo (st) :=
  fun H locs ls h1 h2 h3 => lv_iconst hC.1 hC.2.1 d hv (k H locs ls h1 h2 h3)
theorem z_bipush (hC : zOk bt own nL ret N mc ms C ad) {n : Int} {v : Int32} (d : decode bt pc = .ok (.bipush n, 2)) (hv : (Int8.ofInt n).toInt32 = v) (k : zL C nL ad S cells slots sz I X Y (pc + 2) lo ((.inl v) :: st)) : zL C nL ad S cells slots sz I X Y pc lo (st) :=
  fun H locs ls h1 h2 h3 => lv_bipush hC.1 hC.2.1 d hv (k H locs ls h1 h2 h3)
theorem z_sipush (hC : zOk bt own nL ret N mc ms C ad) {n : Int} {v : Int32} (d : decode bt pc = .ok (.sipush n, 3)) (hv : (Int16.ofInt n).toInt32 = v) (k : zL C nL ad S cells slots sz I X Y (pc + 3) lo ((.inl v) :: st)) : zL C nL ad S cells slots sz I X Y pc lo (st) :=
  fun H locs ls h1 h2 h3 => lv_sipush hC.1 hC.2.1 d hv (k H locs ls h1 h2 h3)
theorem z_lconst (hC : zOk bt own nL ret N mc ms C ad) {n : Fin 2} {v : Int64} (d : decode bt pc = .ok (.lconst n, 1)) (hv : Int64.ofNat (n : Nat) = v) (k : zL C nL ad S cells slots sz I X Y (pc + 1) lo ((.inr (.inl v)) :: st)) : zL C nL ad S cells slots sz I X Y pc lo (st) :=
  fun H locs ls h1 h2 h3 => lv_lconst hC.1 hC.2.1 d hv (k H locs ls h1 h2 h3)
theorem z_ldc (hC : zOk bt own nL ret N mc ms C ad) {i : Nat} {v : Int32} (d : decode bt pc = .ok (.ldc i, 2)) (hw : Cond.constant own i v ∈ zTb) (k : zL C nL ad S cells slots sz I X Y (pc + 2) lo ((.inl v) :: st)) : zL C nL ad S cells slots sz I X Y pc lo (st) :=
  fun H locs ls h1 h2 h3 => lv_ldc hC.1 hC.2.1 hC.2.2.2.1 (hC.2.2.2.2.1 _ hw) d (k H locs ls h1 h2 h3)
theorem z_ldcw (hC : zOk bt own nL ret N mc ms C ad) {i : Nat} {v : Int32} (d : decode bt pc = .ok (.ldc_w i, 3)) (hw : Cond.constant own i v ∈ zTb) (k : zL C nL ad S cells slots sz I X Y (pc + 3) lo ((.inl v) :: st)) : zL C nL ad S cells slots sz I X Y pc lo (st) :=
  fun H locs ls h1 h2 h3 => lv_ldcw hC.1 hC.2.1 hC.2.2.2.1 (hC.2.2.2.2.1 _ hw) d (k H locs ls h1 h2 h3)
theorem z_ldc2 (hC : zOk bt own nL ret N mc ms C ad) {i : Nat} {v : Int64} (d : decode bt pc = .ok (.ldc2_w i, 3)) (hw : Cond.constantLong own i v ∈ zTb) (k : zL C nL ad S cells slots sz I X Y (pc + 3) lo ((.inr (.inl v)) :: st)) : zL C nL ad S cells slots sz I X Y pc lo (st) :=
  fun H locs ls h1 h2 h3 => lv_ldc2 hC.1 hC.2.1 hC.2.2.2.1 (hC.2.2.2.2.1 _ hw) d (k H locs ls h1 h2 h3)
theorem z_null (hC : zOk bt own nL ret N mc ms C ad)  (d : decode bt pc = .ok (.aconst_null, 1)) (k : zL C nL ad S cells slots sz I X Y (pc + 1) lo ((.inr (.inr none)) :: st)) : zL C nL ad S cells slots sz I X Y pc lo (st) :=
  fun H locs ls h1 h2 h3 => lv_null hC.1 hC.2.1 d (k H locs ls h1 h2 h3)
theorem z_iadd (hC : zOk bt own nL ret N mc ms C ad) {x y : Int32} (d : decode bt pc = .ok (.iadd, 1)) (k : zL C nL ad S cells slots sz I X Y (pc + 1) lo ((.inl (x + y)) :: st)) : zL C nL ad S cells slots sz I X Y pc lo ((.inl y) :: (.inl x) :: st) :=
  fun H locs ls h1 h2 h3 => lv_iadd hC.1 hC.2.1 d (k H locs ls h1 h2 h3)
theorem z_isub (hC : zOk bt own nL ret N mc ms C ad) {x y : Int32} (d : decode bt pc = .ok (.isub, 1)) (k : zL C nL ad S cells slots sz I X Y (pc + 1) lo ((.inl (x - y)) :: st)) : zL C nL ad S cells slots sz I X Y pc lo ((.inl y) :: (.inl x) :: st) :=
  fun H locs ls h1 h2 h3 => lv_isub hC.1 hC.2.1 d (k H locs ls h1 h2 h3)
theorem z_imul (hC : zOk bt own nL ret N mc ms C ad) {x y : Int32} (d : decode bt pc = .ok (.imul, 1)) (k : zL C nL ad S cells slots sz I X Y (pc + 1) lo ((.inl (x * y)) :: st)) : zL C nL ad S cells slots sz I X Y pc lo ((.inl y) :: (.inl x) :: st) :=
  fun H locs ls h1 h2 h3 => lv_imul hC.1 hC.2.1 d (k H locs ls h1 h2 h3)
theorem z_iand (hC : zOk bt own nL ret N mc ms C ad) {x y : Int32} (d : decode bt pc = .ok (.iand, 1)) (k : zL C nL ad S cells slots sz I X Y (pc + 1) lo ((.inl (x &&& y)) :: st)) : zL C nL ad S cells slots sz I X Y pc lo ((.inl y) :: (.inl x) :: st) :=
  fun H locs ls h1 h2 h3 => lv_iand hC.1 hC.2.1 d (k H locs ls h1 h2 h3)
theorem z_ior (hC : zOk bt own nL ret N mc ms C ad) {x y : Int32} (d : decode bt pc = .ok (.ior, 1)) (k : zL C nL ad S cells slots sz I X Y (pc + 1) lo ((.inl (x ||| y)) :: st)) : zL C nL ad S cells slots sz I X Y pc lo ((.inl y) :: (.inl x) :: st) :=
  fun H locs ls h1 h2 h3 => lv_ior hC.1 hC.2.1 d (k H locs ls h1 h2 h3)
theorem z_ishl (hC : zOk bt own nL ret N mc ms C ad) {x y : Int32} (d : decode bt pc = .ok (.ishl, 1)) (k : zL C nL ad S cells slots sz I X Y (pc + 1) lo ((.inl (x <<< (y &&& 31))) :: st)) : zL C nL ad S cells slots sz I X Y pc lo ((.inl y) :: (.inl x) :: st) :=
  fun H locs ls h1 h2 h3 => lv_ishl hC.1 hC.2.1 d (k H locs ls h1 h2 h3)
theorem z_ishr (hC : zOk bt own nL ret N mc ms C ad) {x y : Int32} (d : decode bt pc = .ok (.ishr, 1)) (k : zL C nL ad S cells slots sz I X Y (pc + 1) lo ((.inl (x >>> (y &&& 31))) :: st)) : zL C nL ad S cells slots sz I X Y pc lo ((.inl y) :: (.inl x) :: st) :=
  fun H locs ls h1 h2 h3 => lv_ishr hC.1 hC.2.1 d (k H locs ls h1 h2 h3)
theorem z_iushr (hC : zOk bt own nL ret N mc ms C ad) {x y : Int32} (d : decode bt pc = .ok (.iushr, 1)) (k : zL C nL ad S cells slots sz I X Y (pc + 1) lo ((.inl ((x.toUInt32 >>> (y.toUInt32 &&& Int32.toUInt32 31)).toInt32)) :: st)) : zL C nL ad S cells slots sz I X Y pc lo ((.inl y) :: (.inl x) :: st) :=
  fun H locs ls h1 h2 h3 => lv_iushr hC.1 hC.2.1 d rfl (k H locs ls h1 h2 h3)
theorem z_idiv (hC : zOk bt own nL ret N mc ms C ad) {x y : Int32} (d : decode bt pc = .ok (.idiv, 1)) (hne : ¬ y = 0) (k : zL C nL ad S cells slots sz I X Y (pc + 1) lo ((.inl (x / y)) :: st)) : zL C nL ad S cells slots sz I X Y pc lo ((.inl y) :: (.inl x) :: st) :=
  fun H locs ls h1 h2 h3 => lv_idiv hC.1 hC.2.1 d hne (k H locs ls h1 h2 h3)
theorem z_irem (hC : zOk bt own nL ret N mc ms C ad) {x y : Int32} (d : decode bt pc = .ok (.irem, 1)) (hne : ¬ y = 0) (k : zL C nL ad S cells slots sz I X Y (pc + 1) lo ((.inl (x - x / y * y)) :: st)) : zL C nL ad S cells slots sz I X Y pc lo ((.inl y) :: (.inl x) :: st) :=
  fun H locs ls h1 h2 h3 => lv_irem hC.1 hC.2.1 d hne (k H locs ls h1 h2 h3)
theorem z_ladd (hC : zOk bt own nL ret N mc ms C ad) {x y : Int64} (d : decode bt pc = .ok (.ladd, 1)) (k : zL C nL ad S cells slots sz I X Y (pc + 1) lo ((.inr (.inl (x + y))) :: st)) : zL C nL ad S cells slots sz I X Y pc lo ((.inr (.inl y)) :: (.inr (.inl x)) :: st) :=
  fun H locs ls h1 h2 h3 => lv_ladd hC.1 hC.2.1 d (k H locs ls h1 h2 h3)
theorem z_lsub (hC : zOk bt own nL ret N mc ms C ad) {x y : Int64} (d : decode bt pc = .ok (.lsub, 1)) (k : zL C nL ad S cells slots sz I X Y (pc + 1) lo ((.inr (.inl (x - y))) :: st)) : zL C nL ad S cells slots sz I X Y pc lo ((.inr (.inl y)) :: (.inr (.inl x)) :: st) :=
  fun H locs ls h1 h2 h3 => lv_lsub hC.1 hC.2.1 d (k H locs ls h1 h2 h3)
theorem z_lmul (hC : zOk bt own nL ret N mc ms C ad) {x y : Int64} (d : decode bt pc = .ok (.lmul, 1)) (k : zL C nL ad S cells slots sz I X Y (pc + 1) lo ((.inr (.inl (x * y))) :: st)) : zL C nL ad S cells slots sz I X Y pc lo ((.inr (.inl y)) :: (.inr (.inl x)) :: st) :=
  fun H locs ls h1 h2 h3 => lv_lmul hC.1 hC.2.1 d (k H locs ls h1 h2 h3)
theorem z_land (hC : zOk bt own nL ret N mc ms C ad) {x y : Int64} (d : decode bt pc = .ok (.land, 1)) (k : zL C nL ad S cells slots sz I X Y (pc + 1) lo ((.inr (.inl (x &&& y))) :: st)) : zL C nL ad S cells slots sz I X Y pc lo ((.inr (.inl y)) :: (.inr (.inl x)) :: st) :=
  fun H locs ls h1 h2 h3 => lv_land hC.1 hC.2.1 d (k H locs ls h1 h2 h3)
theorem z_lor (hC : zOk bt own nL ret N mc ms C ad) {x y : Int64} (d : decode bt pc = .ok (.lor, 1)) (k : zL C nL ad S cells slots sz I X Y (pc + 1) lo ((.inr (.inl (x ||| y))) :: st)) : zL C nL ad S cells slots sz I X Y pc lo ((.inr (.inl y)) :: (.inr (.inl x)) :: st) :=
  fun H locs ls h1 h2 h3 => lv_lor hC.1 hC.2.1 d (k H locs ls h1 h2 h3)
theorem z_ldiv (hC : zOk bt own nL ret N mc ms C ad) {x y : Int64} (d : decode bt pc = .ok (.ldiv, 1)) (hne : ¬ y = 0) (k : zL C nL ad S cells slots sz I X Y (pc + 1) lo ((.inr (.inl (x / y))) :: st)) : zL C nL ad S cells slots sz I X Y pc lo ((.inr (.inl y)) :: (.inr (.inl x)) :: st) :=
  fun H locs ls h1 h2 h3 => lv_ldiv hC.1 hC.2.1 d hne (k H locs ls h1 h2 h3)
theorem z_lrem (hC : zOk bt own nL ret N mc ms C ad) {x y : Int64} (d : decode bt pc = .ok (.lrem, 1)) (hne : ¬ y = 0) (k : zL C nL ad S cells slots sz I X Y (pc + 1) lo ((.inr (.inl (x - x / y * y))) :: st)) : zL C nL ad S cells slots sz I X Y pc lo ((.inr (.inl y)) :: (.inr (.inl x)) :: st) :=
  fun H locs ls h1 h2 h3 => lv_lrem hC.1 hC.2.1 d hne (k H locs ls h1 h2 h3)
theorem z_lshl (hC : zOk bt own nL ret N mc ms C ad) {x : Int64} {y : Int32} (d : decode bt pc = .ok (.lshl, 1)) (k : zL C nL ad S cells slots sz I X Y (pc + 1) lo ((.inr (.inl (x <<< (y.toInt64 &&& 63)))) :: st)) : zL C nL ad S cells slots sz I X Y pc lo ((.inl y) :: (.inr (.inl x)) :: st) :=
  fun H locs ls h1 h2 h3 => lv_lshl hC.1 hC.2.1 d rfl (k H locs ls h1 h2 h3)
theorem z_ineg (hC : zOk bt own nL ret N mc ms C ad) {x : Int32} (d : decode bt pc = .ok (.ineg, 1)) (k : zL C nL ad S cells slots sz I X Y (pc + 1) lo ((.inl (-x)) :: st)) : zL C nL ad S cells slots sz I X Y pc lo ((.inl x) :: st) :=
  fun H locs ls h1 h2 h3 => lv_ineg hC.1 hC.2.1 d (k H locs ls h1 h2 h3)
theorem z_i2l (hC : zOk bt own nL ret N mc ms C ad) {x : Int32} (d : decode bt pc = .ok (.i2l, 1)) (k : zL C nL ad S cells slots sz I X Y (pc + 1) lo ((.inr (.inl x.toInt64)) :: st)) : zL C nL ad S cells slots sz I X Y pc lo ((.inl x) :: st) :=
  fun H locs ls h1 h2 h3 => lv_i2l hC.1 hC.2.1 d rfl (k H locs ls h1 h2 h3)
theorem z_l2i (hC : zOk bt own nL ret N mc ms C ad) {x : Int64} (d : decode bt pc = .ok (.l2i, 1)) (k : zL C nL ad S cells slots sz I X Y (pc + 1) lo ((.inl x.toInt32) :: st)) : zL C nL ad S cells slots sz I X Y pc lo ((.inr (.inl x)) :: st) :=
  fun H locs ls h1 h2 h3 => lv_l2i hC.1 hC.2.1 d rfl (k H locs ls h1 h2 h3)
theorem z_i2b (hC : zOk bt own nL ret N mc ms C ad) {x : Int32} (d : decode bt pc = .ok (.i2b, 1)) (k : zL C nL ad S cells slots sz I X Y (pc + 1) lo ((.inl x.toInt8.toInt32) :: st)) : zL C nL ad S cells slots sz I X Y pc lo ((.inl x) :: st) :=
  fun H locs ls h1 h2 h3 => lv_i2b hC.1 hC.2.1 d rfl (k H locs ls h1 h2 h3)
theorem z_i2s (hC : zOk bt own nL ret N mc ms C ad) {x : Int32} (d : decode bt pc = .ok (.i2s, 1)) (k : zL C nL ad S cells slots sz I X Y (pc + 1) lo ((.inl x.toInt16.toInt32) :: st)) : zL C nL ad S cells slots sz I X Y pc lo ((.inl x) :: st) :=
  fun H locs ls h1 h2 h3 => lv_i2s hC.1 hC.2.1 d rfl (k H locs ls h1 h2 h3)
theorem z_lcmp (hC : zOk bt own nL ret N mc ms C ad) {x y : Int64} (d : decode bt pc = .ok (.lcmp, 1)) (k : zL C nL ad S cells slots sz I X Y (pc + 1) lo ((.inl (lg_cmp x y)) :: st)) : zL C nL ad S cells slots sz I X Y pc lo ((.inr (.inl y)) :: (.inr (.inl x)) :: st) :=
  fun H locs ls h1 h2 h3 => W.lcmp hC.1 hC.2.1 d (k H locs ls h1 h2 h3)
theorem z_dup (hC : zOk bt own nL ret N mc ms C ad) {v : zV} (d : decode bt pc = .ok (.dup, 1)) (hc : zcat (some (some v)) = 1) (k : zL C nL ad S cells slots sz I X Y (pc + 1) lo (v :: v :: st)) : zL C nL ad S cells slots sz I X Y pc lo (v :: st) :=
  fun H locs ls h1 h2 h3 => lv_dup hC.1 hC.2.1 d (by rw [rv_cat]; exact hc) (k H locs ls h1 h2 h3)
theorem z_dup_x1 (hC : zOk bt own nL ret N mc ms C ad) {v w : zV} (d : decode bt pc = .ok (.dup_x1, 1)) (hc : zcat (some (some v)) = 1) (hc2 : zcat (some (some w)) = 1) (k : zL C nL ad S cells slots sz I X Y (pc + 1) lo (v :: w :: v :: st)) : zL C nL ad S cells slots sz I X Y pc lo (v :: w :: st) :=
  fun H locs ls h1 h2 h3 => lv_dup_x1 hC.1 hC.2.1 d (by rw [rv_cat]; exact hc) (by rw [rv_cat]; exact hc2) (k H locs ls h1 h2 h3)
theorem z_dup2 (hC : zOk bt own nL ret N mc ms C ad) {v w : zV} (d : decode bt pc = .ok (.dup2, 1)) (hc : zcat (some (some v)) = 1) (hc2 : zcat (some (some w)) = 1) (k : zL C nL ad S cells slots sz I X Y (pc + 1) lo (v :: w :: v :: w :: st)) : zL C nL ad S cells slots sz I X Y pc lo (v :: w :: st) :=
  fun H locs ls h1 h2 h3 => lv_dup2_11 hC.1 hC.2.1 d (by rw [rv_cat]; exact hc) (by rw [rv_cat]; exact hc2) (k H locs ls h1 h2 h3)
theorem z_pop (hC : zOk bt own nL ret N mc ms C ad) {v : zV} (d : decode bt pc = .ok (.pop, 1)) (hc : zcat (some (some v)) = 1) (k : zL C nL ad S cells slots sz I X Y (pc + 1) lo (st)) : zL C nL ad S cells slots sz I X Y pc lo (v :: st) :=
  fun H locs ls h1 h2 h3 => lv_pop hC.1 hC.2.1 d (by rw [rv_cat]; exact hc) (k H locs ls h1 h2 h3)
theorem z_icmp_eq (hC : zOk bt own nL ret N mc ms C ad) {x y : Int32} {off : Int} {tgt : Nat} (d : decode bt pc = .ok (.if_icmp .eq off, 3)) (ht : (pc : Int) + off = (tgt : Int)) (kt : x = y → zL C nL ad S cells slots sz I X Y tgt lo st) (kf : ¬ x = y → zL C nL ad S cells slots sz I X Y (pc + 3) lo st) : zL C nL ad S cells slots sz I X Y pc lo ((.inl y) :: (.inl x) :: st) :=
  fun H locs ls h1 h2 h3 => lv_icmp_eq hC.1 hC.2.1 d ht (fun q => kt q H locs ls h1 h2 h3) (fun q => kf q H locs ls h1 h2 h3)
theorem z_if_eq (hC : zOk bt own nL ret N mc ms C ad) {x : Int32} {off : Int} {tgt : Nat} (d : decode bt pc = .ok (.ifCond .eq off, 3)) (ht : (pc : Int) + off = (tgt : Int)) (kt : x = 0 → zL C nL ad S cells slots sz I X Y tgt lo st) (kf : ¬ x = 0 → zL C nL ad S cells slots sz I X Y (pc + 3) lo st) : zL C nL ad S cells slots sz I X Y pc lo ((.inl x) :: st) :=
  fun H locs ls h1 h2 h3 => lv_if_eq hC.1 hC.2.1 d ht (fun q => kt q H locs ls h1 h2 h3) (fun q => kf q H locs ls h1 h2 h3)
theorem z_icmp_ne (hC : zOk bt own nL ret N mc ms C ad) {x y : Int32} {off : Int} {tgt : Nat} (d : decode bt pc = .ok (.if_icmp .ne off, 3)) (ht : (pc : Int) + off = (tgt : Int)) (kt : ¬ x = y → zL C nL ad S cells slots sz I X Y tgt lo st) (kf : x = y → zL C nL ad S cells slots sz I X Y (pc + 3) lo st) : zL C nL ad S cells slots sz I X Y pc lo ((.inl y) :: (.inl x) :: st) :=
  fun H locs ls h1 h2 h3 => lv_icmp_ne hC.1 hC.2.1 d ht (fun q => kt q H locs ls h1 h2 h3) (fun q => kf q H locs ls h1 h2 h3)
theorem z_if_ne (hC : zOk bt own nL ret N mc ms C ad) {x : Int32} {off : Int} {tgt : Nat} (d : decode bt pc = .ok (.ifCond .ne off, 3)) (ht : (pc : Int) + off = (tgt : Int)) (kt : ¬ x = 0 → zL C nL ad S cells slots sz I X Y tgt lo st) (kf : x = 0 → zL C nL ad S cells slots sz I X Y (pc + 3) lo st) : zL C nL ad S cells slots sz I X Y pc lo ((.inl x) :: st) :=
  fun H locs ls h1 h2 h3 => lv_if_ne hC.1 hC.2.1 d ht (fun q => kt q H locs ls h1 h2 h3) (fun q => kf q H locs ls h1 h2 h3)
theorem z_icmp_lt (hC : zOk bt own nL ret N mc ms C ad) {x y : Int32} {off : Int} {tgt : Nat} (d : decode bt pc = .ok (.if_icmp .lt off, 3)) (ht : (pc : Int) + off = (tgt : Int)) (kt : x < y → zL C nL ad S cells slots sz I X Y tgt lo st) (kf : ¬ x < y → zL C nL ad S cells slots sz I X Y (pc + 3) lo st) : zL C nL ad S cells slots sz I X Y pc lo ((.inl y) :: (.inl x) :: st) :=
  fun H locs ls h1 h2 h3 => lv_icmp_lt hC.1 hC.2.1 d ht (fun q => kt q H locs ls h1 h2 h3) (fun q => kf q H locs ls h1 h2 h3)
theorem z_if_lt (hC : zOk bt own nL ret N mc ms C ad) {x : Int32} {off : Int} {tgt : Nat} (d : decode bt pc = .ok (.ifCond .lt off, 3)) (ht : (pc : Int) + off = (tgt : Int)) (kt : x < 0 → zL C nL ad S cells slots sz I X Y tgt lo st) (kf : ¬ x < 0 → zL C nL ad S cells slots sz I X Y (pc + 3) lo st) : zL C nL ad S cells slots sz I X Y pc lo ((.inl x) :: st) :=
  fun H locs ls h1 h2 h3 => lv_if_lt hC.1 hC.2.1 d ht (fun q => kt q H locs ls h1 h2 h3) (fun q => kf q H locs ls h1 h2 h3)
theorem z_icmp_ge (hC : zOk bt own nL ret N mc ms C ad) {x y : Int32} {off : Int} {tgt : Nat} (d : decode bt pc = .ok (.if_icmp .ge off, 3)) (ht : (pc : Int) + off = (tgt : Int)) (kt : y ≤ x → zL C nL ad S cells slots sz I X Y tgt lo st) (kf : ¬ y ≤ x → zL C nL ad S cells slots sz I X Y (pc + 3) lo st) : zL C nL ad S cells slots sz I X Y pc lo ((.inl y) :: (.inl x) :: st) :=
  fun H locs ls h1 h2 h3 => lv_icmp_ge hC.1 hC.2.1 d ht (fun q => kt q H locs ls h1 h2 h3) (fun q => kf q H locs ls h1 h2 h3)
theorem z_if_ge (hC : zOk bt own nL ret N mc ms C ad) {x : Int32} {off : Int} {tgt : Nat} (d : decode bt pc = .ok (.ifCond .ge off, 3)) (ht : (pc : Int) + off = (tgt : Int)) (kt : 0 ≤ x → zL C nL ad S cells slots sz I X Y tgt lo st) (kf : ¬ 0 ≤ x → zL C nL ad S cells slots sz I X Y (pc + 3) lo st) : zL C nL ad S cells slots sz I X Y pc lo ((.inl x) :: st) :=
  fun H locs ls h1 h2 h3 => lv_if_ge hC.1 hC.2.1 d ht (fun q => kt q H locs ls h1 h2 h3) (fun q => kf q H locs ls h1 h2 h3)
theorem z_icmp_gt (hC : zOk bt own nL ret N mc ms C ad) {x y : Int32} {off : Int} {tgt : Nat} (d : decode bt pc = .ok (.if_icmp .gt off, 3)) (ht : (pc : Int) + off = (tgt : Int)) (kt : y < x → zL C nL ad S cells slots sz I X Y tgt lo st) (kf : ¬ y < x → zL C nL ad S cells slots sz I X Y (pc + 3) lo st) : zL C nL ad S cells slots sz I X Y pc lo ((.inl y) :: (.inl x) :: st) :=
  fun H locs ls h1 h2 h3 => lv_icmp_gt hC.1 hC.2.1 d ht (fun q => kt q H locs ls h1 h2 h3) (fun q => kf q H locs ls h1 h2 h3)
theorem z_if_gt (hC : zOk bt own nL ret N mc ms C ad) {x : Int32} {off : Int} {tgt : Nat} (d : decode bt pc = .ok (.ifCond .gt off, 3)) (ht : (pc : Int) + off = (tgt : Int)) (kt : 0 < x → zL C nL ad S cells slots sz I X Y tgt lo st) (kf : ¬ 0 < x → zL C nL ad S cells slots sz I X Y (pc + 3) lo st) : zL C nL ad S cells slots sz I X Y pc lo ((.inl x) :: st) :=
  fun H locs ls h1 h2 h3 => lv_if_gt hC.1 hC.2.1 d ht (fun q => kt q H locs ls h1 h2 h3) (fun q => kf q H locs ls h1 h2 h3)
theorem z_icmp_le (hC : zOk bt own nL ret N mc ms C ad) {x y : Int32} {off : Int} {tgt : Nat} (d : decode bt pc = .ok (.if_icmp .le off, 3)) (ht : (pc : Int) + off = (tgt : Int)) (kt : x ≤ y → zL C nL ad S cells slots sz I X Y tgt lo st) (kf : ¬ x ≤ y → zL C nL ad S cells slots sz I X Y (pc + 3) lo st) : zL C nL ad S cells slots sz I X Y pc lo ((.inl y) :: (.inl x) :: st) :=
  fun H locs ls h1 h2 h3 => lv_icmp_le hC.1 hC.2.1 d ht (fun q => kt q H locs ls h1 h2 h3) (fun q => kf q H locs ls h1 h2 h3)
theorem z_if_le (hC : zOk bt own nL ret N mc ms C ad) {x : Int32} {off : Int} {tgt : Nat} (d : decode bt pc = .ok (.ifCond .le off, 3)) (ht : (pc : Int) + off = (tgt : Int)) (kt : x ≤ 0 → zL C nL ad S cells slots sz I X Y tgt lo st) (kf : ¬ x ≤ 0 → zL C nL ad S cells slots sz I X Y (pc + 3) lo st) : zL C nL ad S cells slots sz I X Y pc lo ((.inl x) :: st) :=
  fun H locs ls h1 h2 h3 => lv_if_le hC.1 hC.2.1 d ht (fun q => kt q H locs ls h1 h2 h3) (fun q => kf q H locs ls h1 h2 h3)
theorem z_goto (hC : zOk bt own nL ret N mc ms C ad) {off : Int} {tgt : Nat} (d : decode bt pc = .ok (.goto off, 3)) (ht : (pc : Int) + off = (tgt : Int)) (k : zL C nL ad S cells slots sz I X Y tgt lo st) : zL C nL ad S cells slots sz I X Y pc lo st :=
  fun H locs ls h1 h2 h3 => lv_goto hC.1 hC.2.1 d ht (k H locs ls h1 h2 h3)
theorem z_ifnonnull (hC : zOk bt own nL ret N mc ms C ad) {b j : Nat} {off : Int} {tgt : Nat} (d : decode bt pc = .ok (.ifnonnull off, 3)) (ht : (pc : Int) + off = (tgt : Int)) (k : zL C nL ad S cells slots sz I X Y tgt lo st) : zL C nL ad S cells slots sz I X Y pc lo ((.inr (.inr (some (b, j)))) :: st) :=
  fun H locs ls h1 h2 h3 => lv_ifnonnull hC.1 hC.2.1 d ht (k H locs ls h1 h2 h3)
theorem z_ifnonnullN (hC : zOk bt own nL ret N mc ms C ad) {off : Int} (d : decode bt pc = .ok (.ifnonnull off, 3)) (k : zL C nL ad S cells slots sz I X Y (pc + 3) lo st) : zL C nL ad S cells slots sz I X Y pc lo ((.inr (.inr none)) :: st) :=
  fun H locs ls h1 h2 h3 => lv_ifnonnullN hC.1 hC.2.1 d (k H locs ls h1 h2 h3)
theorem z_ifnull (hC : zOk bt own nL ret N mc ms C ad) {b j : Nat} {off : Int} (d : decode bt pc = .ok (.ifnull off, 3)) (k : zL C nL ad S cells slots sz I X Y (pc + 3) lo st) : zL C nL ad S cells slots sz I X Y pc lo ((.inr (.inr (some (b, j)))) :: st) :=
  fun H locs ls h1 h2 h3 => lv_ifnull hC.1 hC.2.1 d (k H locs ls h1 h2 h3)
theorem z_ifnullN (hC : zOk bt own nL ret N mc ms C ad) {off : Int} {tgt : Nat} (d : decode bt pc = .ok (.ifnull off, 3)) (ht : (pc : Int) + off = (tgt : Int)) (k : zL C nL ad S cells slots sz I X Y tgt lo st) : zL C nL ad S cells slots sz I X Y pc lo ((.inr (.inr none)) :: st) :=
  fun H locs ls h1 h2 h3 => lv_ifnullN hC.1 hC.2.1 d ht (k H locs ls h1 h2 h3)
theorem z_tableOut (hC : zOk bt own nL ret N mc ms C ad) {dflt lo' hi : Int} {offs : Array Int} {len : Nat} {x : Int32} {tgt : Nat} (d : decode bt pc = .ok (.tableswitch dflt lo' hi offs, len)) (h : x.toInt < lo' ∨ hi < x.toInt) (ht : (pc : Int) + dflt = (tgt : Int)) (k : zL C nL ad S cells slots sz I X Y tgt lo st) : zL C nL ad S cells slots sz I X Y pc lo (.inl x :: st) :=
  fun H locs ls h1 h2 h3 => lv_tableOut hC.1 hC.2.1 d h ht (k H locs ls h1 h2 h3)
theorem z_tableIn (hC : zOk bt own nL ret N mc ms C ad) {dflt lo' hi : Int} {offs : Array Int} {len : Nat} {x : Int32} {off : Int} {tgt : Nat} (d : decode bt pc = .ok (.tableswitch dflt lo' hi offs, len)) (g1 : ¬ x.toInt < lo') (g2 : ¬ hi < x.toInt) (ho : offs[(x.toInt - lo').toNat]? = some off) (ht : (pc : Int) + off = (tgt : Int)) (k : zL C nL ad S cells slots sz I X Y tgt lo st) : zL C nL ad S cells slots sz I X Y pc lo (.inl x :: st) :=
  fun H locs ls h1 h2 h3 => lv_tableIn hC.1 hC.2.1 d g1 g2 ho ht (k H locs ls h1 h2 h3)
theorem z_lookup (hC : zOk bt own nL ret N mc ms C ad) {dflt : Int} {ps : Array (Int × Int)} {len : Nat} {x : Int32} {off : Int} {tgt : Nat} (d : decode bt pc = .ok (.lookupswitch dflt ps, len)) (hp : (ps.toList.zip (ps.toList.drop 1)).all (fun (a, next) => a.1 < next.1) = true) (ho : Op.lookupswitch.offset ps.toList dflt x.toInt = off) (ht : (pc : Int) + off = (tgt : Int)) (k : zL C nL ad S cells slots sz I X Y tgt lo st) : zL C nL ad S cells slots sz I X Y pc lo (.inl x :: st) :=
  fun H locs ls h1 h2 h3 => lv_lookup hC.1 hC.2.1 d hp ho ht (k H locs ls h1 h2 h3)
theorem z_weak {lo2 : List (Option zV)} (hw : ∀ (i : Nat) (v : zV), lo2[i]? = some (some v) → lo[i]? = some (some v)) (k : zL C nL ad S cells slots sz I X Y pc lo2 st) : zL C nL ad S cells slots sz I X Y pc lo st :=
  fun H locs ls h1 h2 h3 => k H locs ls h1 h2 (zlv_weak h3 hw)
end ZR
end
section
theorem zlays {ws : List Cond} {ps : List Nat} (h : ws = ps.filterMap (fun i => tables_1[i]?)) (g : ws.all goodWord = true) : ∀ w ∈ ws, w ∈ zTb := by
  intro w hw
  have g1 := List.all_eq_true.mp g w hw
  rw [h] at hw
  obtain ⟨i, -, hi⟩ := List.mem_filterMap.mp hw
  exact zin hi g1
theorem zlay0 : ∀ w ∈ u_ws RX0 TX0 4, w ∈ zTb := by
  have h : u_ws RX0 TX0 4 = [119, 121, 123, 125].filterMap (fun i => tables_1[i]?) := by decide +kernel
  have g : (u_ws RX0 TX0 4).all goodWord = true := by decide +kernel
  exact zlays h g
theorem zlay1 : ∀ w ∈ u_ws RX1 TX1 8, w ∈ zTb := by
  have h : u_ws RX1 TX1 8 = [72, 74, 76, 78, 80, 82, 84, 86].filterMap (fun i => tables_1[i]?) := by decide +kernel
  have g : (u_ws RX1 TX1 8).all goodWord = true := by decide +kernel
  exact zlays h g
theorem zlay2 : ∀ w ∈ u_ws RX2 TX2 3, w ∈ zTb := by
  have h : u_ws RX2 TX2 3 = [165, 167, 169].filterMap (fun i => tables_1[i]?) := by decide +kernel
  have g : (u_ws RX2 TX2 3).all goodWord = true := by decide +kernel
  exact zlays h g
theorem zlay3 : ∀ w ∈ u_ws RX3 TX3 3, w ∈ zTb := by
  have h : u_ws RX3 TX3 3 = [45, 47, 49].filterMap (fun i => tables_1[i]?) := by decide +kernel
  have g : (u_ws RX3 TX3 3).all goodWord = true := by decide +kernel
  exact zlays h g
theorem zlay4 : ∀ w ∈ u_ws RX4 TX4 6, w ∈ zTb := by
  have h : u_ws RX4 TX4 6 = [141, 143, 145, 147, 149, 151].filterMap (fun i => tables_1[i]?) := by decide +kernel
  have g : (u_ws RX4 TX4 6).all goodWord = true := by decide +kernel
  exact zlays h g
theorem zlay5 : ∀ w ∈ u_ws RX5 TX5 4, w ∈ zTb := by
  have h : u_ws RX5 TX5 4 = [100, 102, 104, 106].filterMap (fun i => tables_1[i]?) := by decide +kernel
  have g : (u_ws RX5 TX5 4).all goodWord = true := by decide +kernel
  exact zlays h g
theorem zlay6 : ∀ w ∈ u_ws RX6 TX6 9, w ∈ zTb := by
  have h : u_ws RX6 TX6 9 = [182, 184, 186, 188, 190, 192, 194, 196, 198].filterMap (fun i => tables_1[i]?) := by decide +kernel
  have g : (u_ws RX6 TX6 9).all goodWord = true := by decide +kernel
  exact zlays h g
theorem zlay7 : ∀ w ∈ u_ws RX7 TX7 43, w ∈ zTb := by
  have h : u_ws RX7 TX7 43 = [980, 982, 984, 986, 988, 990, 992, 994, 996, 998, 1000, 1002, 1004, 1006, 1008, 1010, 1012, 1014, 1016, 1018, 1020, 1022, 1024, 1026, 1028, 1030, 1032, 1034, 1036, 1038, 1040, 1042, 1044, 1046, 1048, 1050, 1052, 1054, 1056, 1058, 1060, 1062, 1064].filterMap (fun i => tables_1[i]?) := by decide +kernel
  have g : (u_ws RX7 TX7 43).all goodWord = true := by decide +kernel
  exact zlays h g
/-- what the tables say of a class of mine -/
theorem zcls (ci : Nat) (q : vw_C) (h : vwCl[ci]? = some q) : (∀ w ∈ u_ws q.1 q.2.1 q.2.2, w ∈ zTb) ∧ (∃ ty : Nat → FieldType, ∀ k, k < q.2.2 → parseFieldDescriptor (q.2.1 k).2.2.1 = some (ty k)) ∧ (∀ a, a < q.2.2 → ∀ b, b < q.2.2 → a ≠ b → (q.2.1 a).2.1 ≠ (q.2.1 b).2.1) := by
  match ci, h with
  | 0, h => cases h; exact ⟨zlay0, ⟨tyX0, tyX0_ok⟩, nmX0⟩
  | 1, h => cases h; exact ⟨zlay1, ⟨tyX1, tyX1_ok⟩, nmX1⟩
  | 2, h => cases h; exact ⟨zlay2, ⟨tyX2, tyX2_ok⟩, nmX2⟩
  | 3, h => cases h; exact ⟨zlay3, ⟨tyX3, tyX3_ok⟩, nmX3⟩
  | 4, h => cases h; exact ⟨zlay4, ⟨tyX4, tyX4_ok⟩, nmX4⟩
  | 5, h => cases h; exact ⟨zlay5, ⟨tyX5, tyX5_ok⟩, nmX5⟩
  | 6, h => cases h; exact ⟨zlay6, ⟨tyX6, tyX6_ok⟩, nmX6⟩
  | 7, h => cases h; exact ⟨zlay7, ⟨tyX7, tyX7_ok⟩, nmX7⟩
  | ci + 8, h => exact absurd h (by simp [vwCl])
/-- a field's link: of class ci the field k, by entry idx of own -/
def zFld (own : String) (idx ci k : Nat) : Prop := ∃ q : vw_C, vwCl[ci]? = some q ∧ k < q.2.2 ∧ Cond.fieldLink own idx (q.2.1 k).1 (q.2.1 k).2.1 (q.2.1 k).2.2.1 ∈ zTb
def up3 {α : Type} (f : Nat → Nat → Nat → α) (b k j : Nat) (v : α) : Nat → Nat → Nat → α := fun b' k' j' => if b' = b ∧ k' = k ∧ j' = j then v else f b' k' j'
theorem up3_eq {α : Type} (f : Nat → Nat → Nat → α) (b k j : Nat) (v : α) : up3 f b k j v b k j = v := by simp [up3]
theorem up3_ne {α : Type} {f : Nat → Nat → Nat → α} {b k j b' k' j' : Nat} {v : α} (h : ¬ (b' = b ∧ k' = k ∧ j' = j)) : up3 f b k j v b' k' j' = f b' k' j' := if_neg h
section ZW
variable {g : zG} {A : Nat → Prop} {ad : zA} {S : zSh} {I X I' X' : zI} {Y Y' : zY} {H H1 : Heap}
theorem zfv_off {b k j : Nat} {f : zF} (hI : I' b k j = I b k j) : zfv I' b k j f = zfv I b k j f := by
  rcases f with v | _ | q
  · rfl
  · show Sum.inl (I' b k j) = Sum.inl (I b k j)
    rw [hI]
  · show (if I' b k j = 0 then _ else _) = (if I b k j = 0 then _ else _)
    rw [hI]
theorem zcell_off {b k : Nat} {sh : zS} (hI : ∀ j, I' b k j = I b k j) (hX : ∀ j, X' b k j = X b k j) (hY : ∀ j, Y' b k j = Y b k j) : zcell g ad I' X' Y' b k sh = zcell g ad I X Y b k sh := by
  rcases sh with ⟨t, n⟩ | ⟨ci, fl⟩ | ⟨t, el⟩
  · cases t with
    | zero =>
      show Sum.inl (g.2 0, (n, Sum.inl (X' b k))) = Sum.inl (g.2 0, (n, Sum.inl (X b k)))
      rw [show X' b k = X b k from funext hX]
    | succ t =>
      show Sum.inl (g.2 1, (n, Sum.inr (Sum.inl (Y' b k)))) = Sum.inl (g.2 1, (n, Sum.inr (Sum.inl (Y b k))))
      rw [show Y' b k = Y b k from funext hY]
  · show Sum.inr (ci, fl.mapIdx (fun j f => rv ad (zfv I' b k j f))) = Sum.inr (ci, fl.mapIdx (fun j f => rv ad (zfv I b k j f)))
    rw [show (fun (j : Nat) (f : zF) => rv ad (zfv I' b k j f)) = fun j f => rv ad (zfv I b k j f) from funext fun j => funext fun f => by rw [zfv_off (hI j)]]
  · rfl
/-- one cell changes -/
theorem zW.put {b k : Nat} {sh : zS} (h : zW g A ad S I X Y H) (hs : S b k = some sh) (hI : ∀ b' k' j, ¬ (b' = b ∧ k' = k) → I' b' k' j = I b' k' j) (hX : ∀ b' k' j, ¬ (b' = b ∧ k' = k) → X' b' k' j = X b' k' j) (hY : ∀ b' k' j, ¬ (b' = b ∧ k' = k) → Y' b' k' j = Y b' k' j)
    (hnew : va_at g.1 vwCl (ad b k, zcell g ad I' X' Y' b k sh) H1) (oq : ∀ q, q ≠ ad b k → H1[q]? = H[q]?) : zW g A ad S I' X' Y' H1 := by
  refine ⟨fun b' k' sh' h' => ?_, h.2⟩
  obtain ⟨h1, h2⟩ := h.1 b' k' sh' h'
  refine ⟨?_, h2⟩
  by_cases e : b' = b ∧ k' = k
  · obtain ⟨rfl, rfl⟩ := e
    rw [hs] at h'
    cases h'
    exact hnew
  · rw [zcell_off (fun j => hI b' k' j e) (fun j => hX b' k' j e) (fun j => hY b' k' j e)]
    refine h1.kept (oq _ fun e2 => e (h.2 b' k' b k (by rw [h']; exact fun z => by cases z) (by rw [hs]; exact fun z => by cases z) e2))
/-- one shape changes -/
def zset (S : zSh) (b k : Nat) (sh : zS) : zSh := fun b' k' => if b' = b ∧ k' = k then some sh else S b' k'
theorem zset_eq (S : zSh) (b k : Nat) (sh : zS) : zset S b k sh b k = some sh := by simp [zset]
theorem zset_ne {S : zSh} {b k b' k' : Nat} {sh : zS} (h : ¬ (b' = b ∧ k' = k)) : zset S b k sh b' k' = S b' k' := if_neg h
theorem zW.reshape {b k : Nat} {sh sh2 : zS} (h : zW g A ad S I X Y H) (hs : S b k = some sh) (hnew : va_at g.1 vwCl (ad b k, zcell g ad I X Y b k sh2) H1) (oq : ∀ q, q ≠ ad b k → H1[q]? = H[q]?) : zW g A ad (zset S b k sh2) I X Y H1 := by
  have hlive : ∀ b' k', zset S b k sh2 b' k' ≠ none → S b' k' ≠ none := by
    intro b' k' h'
    by_cases e : b' = b ∧ k' = k
    · obtain ⟨rfl, rfl⟩ := e
      rw [hs]; exact fun z => by cases z
    · rwa [zset_ne e] at h'
  refine ⟨fun b' k' sh' h' => ?_, fun b1 k1 b2 k2 h1 h2 e => h.2 b1 k1 b2 k2 (hlive _ _ h1) (hlive _ _ h2) e⟩
  by_cases e : b' = b ∧ k' = k
  · obtain ⟨rfl, rfl⟩ := e
    rw [zset_eq] at h'
    cases h'
    exact ⟨hnew, (h.1 b' k' sh hs).2⟩
  · rw [zset_ne e] at h'
    obtain ⟨h1, h2⟩ := h.1 b' k' sh' h'
    exact ⟨h1.kept (oq _ fun e2 => e (h.2 b' k' b k (by rw [h']; exact fun z => by cases z) (by rw [hs]; exact fun z => by cases z) e2)), h2⟩
/-- a new cell -/
theorem zW.grow {b k : Nat} {sh : zS} (h : zW g A ad S I X Y H) (hs : S b k = none) (hz : ad b k = H.size) (hA : A H.size) (hI : ∀ b' k' j, ¬ (b' = b ∧ k' = k) → I' b' k' j = I b' k' j) (hX : ∀ b' k' j, ¬ (b' = b ∧ k' = k) → X' b' k' j = X b' k' j) (hY : ∀ b' k' j, ¬ (b' = b ∧ k' = k) → Y' b' k' j = Y b' k' j)
    (hnew : va_at g.1 vwCl (H.size, zcell g ad I' X' Y' b k sh) H1) (oq : ∀ q, q < H.size → H1[q]? = H[q]?) : zW g A ad (zset S b k sh) I' X' Y' H1 := by
  have hlt : ∀ b' k' sh', S b' k' = some sh' → ad b' k' < H.size := fun b' k' sh' h' => (h.1 b' k' sh' h').1.lt
  have hne : ∀ b' k', ¬ (b' = b ∧ k' = k) → zset S b k sh b' k' ≠ none → ad b' k' < H.size := by
    intro b' k' e h'
    rw [zset_ne e] at h'
    cases hq : S b' k' with
    | none => exact absurd hq h'
    | some sh' => exact hlt b' k' sh' hq
  refine ⟨fun b' k' sh' h' => ?_, fun b1 k1 b2 k2 h1 h2 e => ?_⟩
  · by_cases e : b' = b ∧ k' = k
    · obtain ⟨rfl, rfl⟩ := e
      rw [zset_eq] at h'
      cases h'
      rw [hz]
      exact ⟨hnew, hA⟩
    · rw [zset_ne e] at h'
      obtain ⟨h1, h2⟩ := h.1 b' k' sh' h'
      rw [zcell_off (fun j => hI b' k' j e) (fun j => hX b' k' j e) (fun j => hY b' k' j e)]
      exact ⟨h1.kept (oq _ h1.lt), h2⟩
  · by_cases e1 : b1 = b ∧ k1 = k <;> by_cases e2 : b2 = b ∧ k2 = k
    · exact ⟨e1.1.trans e2.1.symm, e1.2.trans e2.2.symm⟩
    · have := hne b2 k2 e2 h2
      obtain ⟨rfl, rfl⟩ := e1
      omega
    · have := hne b1 k1 e1 h1
      obtain ⟨rfl, rfl⟩ := e2
      omega
    · rw [zset_ne e1] at h1
      rw [zset_ne e2] at h2
      exact h.2 b1 k1 b2 k2 h1 h2 e
/-- memory of a cell that isn't there -/
theorem zW.ghost (h : zW g A ad S I X Y H) (hI : ∀ b k j, S b k ≠ none → I' b k j = I b k j) (hX : ∀ b k j, S b k ≠ none → X' b k j = X b k j) (hY : ∀ b k j, S b k ≠ none → Y' b k j = Y b k j) : zW g A ad S I' X' Y' H := by
  refine ⟨fun b k sh hs => ?_, h.2⟩
  have hn : S b k ≠ none := by rw [hs]; exact fun z => by cases z
  rw [zcell_off (fun j => hI b k j hn) (fun j => hX b k j hn) (fun j => hY b k j hn)]
  exact h.1 b k sh hs
theorem zW.weaken {B : Nat → Prop} (h : zW g A ad S I X Y H) (hB : ∀ b k sh, S b k = some sh → B (ad b k)) : zW g B ad S I X Y H := ⟨fun b k sh hs => ⟨(h.1 b k sh hs).1, hB b k sh hs⟩, h.2⟩
end ZW
section ZH
variable {C : zC} {nL : Nat} {ad : zA} {S : zSh} {cells slots sz : Nat} {I X : zI} {Y : zY} {pc : Nat} {lo : List (Option zV)} {st : List zV}
variable {bt : ByteArray} {own : String} {ret : Option FieldType} {N mc ms : Nat}
theorem zsing {D : va_G} {cl : List vw_C} {q : Nat × va_E} {H : Heap} (h : va_at D cl q H) : va_P D cl [q] H := by
  intro k x hx
  have h0 : k < 1 := (List.getElem?_eq_some_iff.mp hx).1
  rw [show k = 0 by omega] at hx
  cases hx
  exact h
theorem z_get (hC : zOk bt own nL ret N mc ms C ad) {b j idx ci k : Nat} {fl : List zF} {f : zF} (d : decode bt pc = .ok (.getfield idx, 3)) (hs : S b j = some (.inr (.inl (ci, fl)))) (hf : zFld own idx ci k) (hk : fl[k]? = some f)
    (kk : zL C nL ad S cells slots sz I X Y (pc + 3) lo (zfv I b j k f :: st)) : zL C nL ad S cells slots sz I X Y pc lo (.inr (.inr (some (b, j))) :: st) := by
  intro H locs ls h1 h2 h3
  obtain ⟨q, hc, hkq, hl⟩ := hf
  obtain ⟨z1, z2, z3⟩ := zcls ci q hc
  exact va_get (C := q.1) (T := q.2.1) (N := q.2.2) hC.1 hC.2.1 hC.2.2.2.2.1 z1 hC.2.2.2.1 hC.2.2.2.2.2.2.2.2.1 (zsing (h1.1.1 b j _ hs).1) 0 rfl hc k hkq (hC.2.2.2.2.1 _ hl) (fun _ h => h) (by rw [List.getElem?_mapIdx, hk]; rfl) d (kk H locs ls h1 h2 h3)
theorem z_getI (hC : zOk bt own nL ret N mc ms C ad) {b j idx ci k : Nat} {fl : List zF} (d : decode bt pc = .ok (.getfield idx, 3)) (hs : S b j = some (.inr (.inl (ci, fl)))) (hf : zFld own idx ci k) (hk : fl[k]? = some (.inr none))
    (kk : zL C nL ad S cells slots sz I X Y (pc + 3) lo (.inl (I b j k) :: st)) : zL C nL ad S cells slots sz I X Y pc lo (.inr (.inr (some (b, j))) :: st) := z_get hC d hs hf hk kk
theorem z_getR (hC : zOk bt own nL ret N mc ms C ad) {b j idx ci k : Nat} {fl : List zF} {v : zV} (d : decode bt pc = .ok (.getfield idx, 3)) (hs : S b j = some (.inr (.inl (ci, fl)))) (hf : zFld own idx ci k) (hk : fl[k]? = some (.inl v))
    (kk : zL C nL ad S cells slots sz I X Y (pc + 3) lo (v :: st)) : zL C nL ad S cells slots sz I X Y pc lo (.inr (.inr (some (b, j))) :: st) := z_get hC d hs hf hk kk
theorem z_getO (hC : zOk bt own nL ret N mc ms C ad) {b j idx ci k : Nat} {fl : List zF} {q : Nat × Nat} (d : decode bt pc = .ok (.getfield idx, 3)) (hs : S b j = some (.inr (.inl (ci, fl)))) (hf : zFld own idx ci k) (hk : fl[k]? = some (.inr (some q)))
    (k0 : I b j k = 0 → zL C nL ad S cells slots sz I X Y (pc + 3) lo (.inr (.inr none) :: st)) (k1 : ¬ I b j k = 0 → zL C nL ad S cells slots sz I X Y (pc + 3) lo (.inr (.inr (some q)) :: st)) : zL C nL ad S cells slots sz I X Y pc lo (.inr (.inr (some (b, j))) :: st) := by
  refine z_get hC d hs hf hk ?_
  by_cases e : I b j k = 0
  · have h : zfv I b j k (.inr (some q)) = .inr (.inr none) := if_pos e
    rw [h]; exact k0 e
  · have h : zfv I b j k (.inr (some q)) = .inr (.inr (some q)) := if_neg e
    rw [h]; exact k1 e
/-- the heap behind a store into a field -/
def zStored (C : zC) (ad : zA) (I : zI) (b j ci k : Nat) (fl : List zF) (v : Value) (H H1 : Heap) : Prop :=
  (∃ r : vw_C, vwCl[ci]? = some r ∧ t_OB (ad b j) ((cg C).1.1 ci) r.2.2 ((cg C).1.2 ci) H1 (updV (vp_V (fl.mapIdx (fun i f => rv ad (zfv I b j i f)))) k v)) ∧ H1.size = H.size ∧ ∀ q, q ≠ ad b j → H1[q]? = H[q]?
theorem z_putX (hC : zOk bt own nL ret N mc ms C ad) {b j idx ci k : Nat} {fl : List zF} {v : zV} (d : decode bt pc = .ok (.putfield idx, 3)) (hs : S b j = some (.inr (.inl (ci, fl)))) {q : vw_C} (hc : vwCl[ci]? = some q) (hkq : k < q.2.2) (hl : Cond.fieldLink own idx (q.2.1 k).1 (q.2.1 k).2.1 (q.2.1 k).2.2.1 ∈ zTb)
    (hfin : (q.2.1 k).2.2.2 = false) {ty : FieldType} (hd : parseFieldDescriptor (q.2.1 k).2.2.1 = some ty) (hn : narrow ty (rv ad v) = rv ad v) (hfit : fits ty (rv ad v) = true)
    (kk : ∀ (H H1 : Heap) (locs : List Loc) (ls : Array Slot), zW (cg C) (cA C) ad S I X Y H → H.size = sz → zStored C ad I b j ci k fl (rv ad v) H H1 → va_S (cA C) (cs C).heap H1 locs → zlv ad ls nL lo → W (cp C) (cl C) (ce C) (cR C) (cs C) (cm C) (ca C) (cb C) (ch C) (cc C) H1 locs cells slots (cZ C) (F0 (cm C) (pc + 3) ls (st.map (rv ad)))) :
    zL C nL ad S cells slots sz I X Y pc lo (v :: .inr (.inr (some (b, j))) :: st) := by
  intro H locs ls h1 h2 h3
  obtain ⟨z1, ⟨ty0, z2⟩, z3⟩ := zcls ci q hc
  have hK := hC.2.2.2.2.2.2.2.2.1
  have hts := hC.2.2.2.2.1
  have hown := hC.2.2.2.1
  have hap := va_apart (own := own) (args := ca C) hts z1 ty0 z2 z3 hK hc
  obtain ⟨r, g1, cell, q1, q2, q3, q4⟩ := (h1.1.1 b j _ hs).1
  have hr : r = q := Option.some.inj (g1.symm.trans hc)
  subst hr
  obtain ⟨hS, hfc, kC, hkC, hkind⟩ := hK.1 ci _ hc
  obtain ⟨cf, kf, fi, f, hi, hsl⟩ := hS k hkq
  have hlay := hts _ (z1 _ (u_in_lay hkq))
  unfold u_lay at hlay
  rw [if_neg (by rw [hfin]; decide)] at hlay
  have hst := (u_facts hfc hkC (u_lays hts z1 hkq) hi).1
  have h6 := u_store hfc hkC hkind hlay hi hd hn hfit
  refine W.putK hC.1 hC.2.1 (f := f) ⟨hown, hts _ hl, ⟨_, _, _, hi⟩, hst⟩ (by rw [q2]; exact h6) q1 q3 (by rw [hsl]; exact k2_hasslot (q4 k hkq)) rfl rfl d fun H' e1 e2 e3 => ?_
  rw [hsl] at e1 ⊢
  exact kk H H' _ ls h1.1 h1.2 ⟨⟨_, hc, _, e1, q2, q3, t_set q4 hap hkq _⟩, e2, e3⟩ (h2.put e2 e3 (h1.1.1 b j _ hs).2) h3
theorem z_putXF (hC : zOk bt own nL ret N mc ms C ad) (hin : (ch C).name = "<init>") {b j idx ci k : Nat} {fl : List zF} {v : zV} (d : decode bt pc = .ok (.putfield idx, 3)) (hs : S b j = some (.inr (.inl (ci, fl)))) {q : vw_C} (hc : vwCl[ci]? = some q) (hkq : k < q.2.2) (hl : Cond.fieldLink own idx (q.2.1 k).1 (q.2.1 k).2.1 (q.2.1 k).2.2.1 ∈ zTb)
    (hfin : (q.2.1 k).2.2.2 = true) (hdecl : (q.2.1 k).1 = own) {ty : FieldType} (hd : parseFieldDescriptor (q.2.1 k).2.2.1 = some ty) (hn : narrow ty (rv ad v) = rv ad v) (hfit : fits ty (rv ad v) = true)
    (kk : ∀ (H H1 : Heap) (locs : List Loc) (ls : Array Slot), zW (cg C) (cA C) ad S I X Y H → H.size = sz → zStored C ad I b j ci k fl (rv ad v) H H1 → va_S (cA C) (cs C).heap H1 locs → zlv ad ls nL lo → W (cp C) (cl C) (ce C) (cR C) (cs C) (cm C) (ca C) (cb C) (ch C) (cc C) H1 locs cells slots (cZ C) (F0 (cm C) (pc + 3) ls (st.map (rv ad)))) :
    zL C nL ad S cells slots sz I X Y pc lo (v :: .inr (.inr (some (b, j))) :: st) := by
  intro H locs ls h1 h2 h3
  obtain ⟨z1, ⟨ty0, z2⟩, z3⟩ := zcls ci q hc
  have hK := hC.2.2.2.2.2.2.2.2.1
  have hts := hC.2.2.2.2.1
  have hown := hC.2.2.2.1
  have hap := va_apart (own := own) (args := ca C) hts z1 ty0 z2 z3 hK hc
  obtain ⟨r, g1, cell, q1, q2, q3, q4⟩ := (h1.1.1 b j _ hs).1
  have hr : r = q := Option.some.inj (g1.symm.trans hc)
  subst hr
  obtain ⟨hS, hfc, kC, hkC, hkind⟩ := hK.1 ci _ hc
  obtain ⟨cf, kf, fi, f, hi, hsl⟩ := hS k hkq
  have hlay := hts _ (z1 _ (u_in_lay hkq))
  unfold u_lay at hlay
  rw [if_pos hfin] at hlay
  have hst := (u_facts hfc hkC (u_lays hts z1 hkq) hi).1
  have hcf : (cm C).cls = cf := by
    obtain ⟨_, _, c', _, _, _, -, -, hf', -, -, -, hown2, -⟩ := Cond.laysFinal_spec hlay
    have e1 : c' = cf := by have := hi.symm.trans hf'; simp at this; exact this.1.symm
    rw [hdecl] at hown2
    rw [← e1]; exact Option.some.inj (hown.symm.trans hown2)
  have h6 := u_fits hfc hkC hkind (Or.inr hlay) hi hd hn hfit
  refine W.putFinK hC.1 hC.2.1 hown (hts _ hl) hi hst hcf hin (by rw [q2]; exact h6) q1 q3 (by rw [hsl]; exact k2_hasslot (q4 k hkq)) rfl rfl d fun H' e1 e2 e3 => ?_
  rw [hsl] at e1 ⊢
  exact kk H H' _ ls h1.1 h1.2 ⟨⟨_, hc, _, e1, q2, q3, t_set q4 hap hkq _⟩, e2, e3⟩ (h2.put e2 e3 (h1.1.1 b j _ hs).2) h3
end ZH
end
section
section ZH2
variable {C : zC} {nL : Nat} {ad : zA} {S : zSh} {cells slots sz : Nat} {I X : zI} {Y : zY} {pc : Nat} {lo : List (Option zV)} {st : List zV}
variable {bt : ByteArray} {own : String} {ret : Option FieldType} {N mc ms : Nat}
/-- the fields' list behind a store: values agree -/
theorem zmap_set {ad : zA} {I I' : zI} {b j k : Nat} {fl fl' : List zF} {v : Value} (hlen : fl'.length = fl.length) (hk : k < fl.length) (hnew : (fl'[k]?).map (fun f => rv ad (zfv I' b j k f)) = some v) (hold : ∀ i, i ≠ k → (fl'[i]?).map (fun f => rv ad (zfv I' b j i f)) = (fl[i]?).map (fun f => rv ad (zfv I b j i f))) (i : Nat) :
    updV (vp_V (fl.mapIdx (fun i f => rv ad (zfv I b j i f)))) k v i = vp_V (fl'.mapIdx (fun i f => rv ad (zfv I' b j i f))) i := by
  by_cases e : i = k
  · subst e
    simp only [updV, vp_V, List.getD_eq_getElem?_getD, List.getElem?_mapIdx, if_pos]
    rw [hnew]; rfl
  · simp only [updV, vp_V, List.getD_eq_getElem?_getD, List.getElem?_mapIdx, if_neg e]
    rw [hold i e]
theorem zStored.at {C : zC} {ad : zA} {I I' : zI} {X' : zI} {Y' : zY} {b j ci k : Nat} {fl fl' : List zF} {v : Value} {H H1 : Heap} (h : zStored C ad I b j ci k fl v H H1) (hlen : fl'.length = fl.length) (hk : k < fl.length) (hnew : (fl'[k]?).map (fun f => rv ad (zfv I' b j k f)) = some v) (hold : ∀ i, i ≠ k → (fl'[i]?).map (fun f => rv ad (zfv I' b j i f)) = (fl[i]?).map (fun f => rv ad (zfv I b j i f))) :
    va_at (cg C).1 vwCl (ad b j, zcell (cg C) ad I' X' Y' b j (.inr (.inl (ci, fl')))) H1 := by
  obtain ⟨⟨r, h1, h2⟩, -, -⟩ := h
  exact ⟨r, h1, t_OB.to h2 fun i _ => zmap_set hlen hk hnew hold i⟩
theorem zlt {fl : List zF} {k : Nat} {f : zF} (h : fl[k]? = some f) : k < fl.length := (List.getElem?_eq_some_iff.mp h).1
theorem zhI {ad : zA} {I : zI} {b j k : Nat} {fl : List zF} {x : Int32} (hk : fl[k]? = some (.inr none)) : (fl[k]?).map (fun f => rv ad (zfv (up3 I b j k x) b j k f)) = some (.int x) := by
  rw [hk]
  show some (Value.int (up3 I b j k x b j k)) = _
  rw [up3_eq]
theorem zhO {ad : zA} {I : zI} {b j k b2 j2 : Nat} {fl : List zF} (hk : fl[k]? = some (.inr (some (b2, j2)))) : (fl[k]?).map (fun f => rv ad (zfv (up3 I b j k 1) b j k f)) = some (.ref (ad b2 j2)) := by
  rw [hk]
  have h : zfv (up3 I b j k 1) b j k (.inr (some (b2, j2))) = .inr (.inr (some (b2, j2))) := by
    show (if up3 I b j k 1 b j k = 0 then _ else _) = _
    rw [up3_eq]
    exact if_neg (by decide)
  show some (rv ad (zfv _ b j k _)) = _
  rw [h]; rfl
theorem zhR {ad : zA} {I : zI} {b j k b2 j2 : Nat} {fl : List zF} {f0 : zF} (hk : fl[k]? = some f0) : ((fl.set k (.inl (.inr (.inr (some (b2, j2))))))[k]?).map (fun f => rv ad (zfv I b j k f)) = some (.ref (ad b2 j2)) := by
  rw [List.getElem?_set_self (zlt hk)]
  rfl
/-- an int field -/
theorem z_putI (hC : zOk bt own nL ret N mc ms C ad) {b j idx ci k : Nat} {fl : List zF} {x : Int32} (d : decode bt pc = .ok (.putfield idx, 3)) (hs : S b j = some (.inr (.inl (ci, fl)))) (hf : zFld own idx ci k) (hk : fl[k]? = some (.inr none)) {q : vw_C} (hc : vwCl[ci]? = some q) (hfin : (q.2.1 k).2.2.2 = false) (hd : (q.2.1 k).2.2.1 = "I")
    (kk : zL C nL ad S cells slots sz (up3 I b j k x) X Y (pc + 3) lo st) : zL C nL ad S cells slots sz I X Y pc lo (.inl x :: .inr (.inr (some (b, j))) :: st) := by
  obtain ⟨q', hc', hkq, hl⟩ := hf
  have e := Option.some.inj (hc'.symm.trans hc)
  subst e
  refine z_putX hC d hs hc hkq hl hfin (ty := .int) (v := .inl x) (by rw [hd]; decide +kernel) rfl rfl fun H H1 locs ls w0 w1 w2 w3 w4 => ?_
  refine kk H1 locs ls ⟨w0.put hs (fun b' k' i e => up3_ne fun z => e ⟨z.1, z.2.1⟩) (fun _ _ _ _ => rfl) (fun _ _ _ _ => rfl) (w2.at (I' := up3 I b j k x) rfl (zlt hk) (zhI (I := I) (x := x) hk) (fun i hi => ?_)) w2.2.2, by rw [w2.2.1]; exact w1⟩ w3 w4
  congr 1
  funext f
  rw [zfv_off (up3_ne fun z => hi z.2.2)]
/-- a boolean field -/
theorem z_putZ (hC : zOk bt own nL ret N mc ms C ad) {b j idx ci k : Nat} {fl : List zF} {x : Int32} (hx : narrow .boolean (.int x) = .int x) (hx2 : fits .boolean (.int x) = true) (d : decode bt pc = .ok (.putfield idx, 3)) (hs : S b j = some (.inr (.inl (ci, fl)))) (hf : zFld own idx ci k) (hk : fl[k]? = some (.inr none)) {q : vw_C} (hc : vwCl[ci]? = some q) (hfin : (q.2.1 k).2.2.2 = false) (hd : (q.2.1 k).2.2.1 = "Z")
    (kk : zL C nL ad S cells slots sz (up3 I b j k x) X Y (pc + 3) lo st) : zL C nL ad S cells slots sz I X Y pc lo (.inl x :: .inr (.inr (some (b, j))) :: st) := by
  obtain ⟨q', hc', hkq, hl⟩ := hf
  have e := Option.some.inj (hc'.symm.trans hc)
  subst e
  refine z_putX hC d hs hc hkq hl hfin (ty := .boolean) (v := .inl x) (by rw [hd]; decide +kernel) hx hx2 fun H H1 locs ls w0 w1 w2 w3 w4 => ?_
  refine kk H1 locs ls ⟨w0.put hs (fun b' k' i e => up3_ne fun z => e ⟨z.1, z.2.1⟩) (fun _ _ _ _ => rfl) (fun _ _ _ _ => rfl) (w2.at (I' := up3 I b j k x) rfl (zlt hk) (zhI (I := I) (x := x) hk) (fun i hi => ?_)) w2.2.2, by rw [w2.2.1]; exact w1⟩ w3 w4
  congr 1
  funext f
  rw [zfv_off (up3_ne fun z => hi z.2.2)]
/-- a final int field, in a constructor -/
theorem z_putIF (hC : zOk bt own nL ret N mc ms C ad) (hin : (ch C).name = "<init>") {b j idx ci k : Nat} {fl : List zF} {x : Int32} (d : decode bt pc = .ok (.putfield idx, 3)) (hs : S b j = some (.inr (.inl (ci, fl)))) (hf : zFld own idx ci k) (hk : fl[k]? = some (.inr none)) {q : vw_C} (hc : vwCl[ci]? = some q) (hfin : (q.2.1 k).2.2.2 = true) (hdecl : (q.2.1 k).1 = own) (hd : (q.2.1 k).2.2.1 = "I")
    (kk : zL C nL ad S cells slots sz (up3 I b j k x) X Y (pc + 3) lo st) : zL C nL ad S cells slots sz I X Y pc lo (.inl x :: .inr (.inr (some (b, j))) :: st) := by
  obtain ⟨q', hc', hkq, hl⟩ := hf
  have e := Option.some.inj (hc'.symm.trans hc)
  subst e
  refine z_putXF hC hin d hs hc hkq hl hfin hdecl (ty := .int) (v := .inl x) (by rw [hd]; decide +kernel) rfl rfl fun H H1 locs ls w0 w1 w2 w3 w4 => ?_
  refine kk H1 locs ls ⟨w0.put hs (fun b' k' i e => up3_ne fun z => e ⟨z.1, z.2.1⟩) (fun _ _ _ _ => rfl) (fun _ _ _ _ => rfl) (w2.at (I' := up3 I b j k x) rfl (zlt hk) (zhI (I := I) (x := x) hk) (fun i hi => ?_)) w2.2.2, by rw [w2.2.1]; exact w1⟩ w3 w4
  congr 1
  funext f
  rw [zfv_off (up3_ne fun z => hi z.2.2)]
/-- a final field that holds a place, in a constructor -/
theorem z_putRF (hC : zOk bt own nL ret N mc ms C ad) (hin : (ch C).name = "<init>") {b j idx ci k : Nat} {fl : List zF} {f0 : zF} {b2 j2 : Nat} (d : decode bt pc = .ok (.putfield idx, 3)) (hs : S b j = some (.inr (.inl (ci, fl)))) (hf : zFld own idx ci k) (hk : fl[k]? = some f0) {q : vw_C} (hc : vwCl[ci]? = some q) (hfin : (q.2.1 k).2.2.2 = true) (hdecl : (q.2.1 k).1 = own) {ty : FieldType} (hd : parseFieldDescriptor (q.2.1 k).2.2.1 = some ty) (hn : ∀ a, narrow ty (.ref a) = .ref a) (hfit : ∀ a, fits ty (.ref a) = true)
    (kk : zL C nL ad (zset S b j (.inr (.inl (ci, fl.set k (.inl (.inr (.inr (some (b2, j2))))))))) cells slots sz I X Y (pc + 3) lo st) : zL C nL ad S cells slots sz I X Y pc lo (.inr (.inr (some (b2, j2))) :: .inr (.inr (some (b, j))) :: st) := by
  obtain ⟨q', hc', hkq, hl⟩ := hf
  have e := Option.some.inj (hc'.symm.trans hc)
  subst e
  refine z_putXF hC hin d hs hc hkq hl hfin hdecl (ty := ty) (v := .inr (.inr (some (b2, j2)))) hd (hn _) (hfit _) fun H H1 locs ls w0 w1 w2 w3 w4 => ?_
  refine kk H1 locs ls ⟨w0.reshape hs (w2.at (I' := I) (by simp) (zlt hk) (zhR (I := I) hk) (fun i hi => ?_)) w2.2.2, by rw [w2.2.1]; exact w1⟩ w3 w4
  rw [List.getElem?_set_ne (Ne.symm hi)]
/-- a field that holds null or one place -/
theorem z_putO (hC : zOk bt own nL ret N mc ms C ad) {b j idx ci k : Nat} {fl : List zF} {q2 : Nat × Nat} (d : decode bt pc = .ok (.putfield idx, 3)) (hs : S b j = some (.inr (.inl (ci, fl)))) (hf : zFld own idx ci k) (hk : fl[k]? = some (.inr (some q2))) {q : vw_C} (hc : vwCl[ci]? = some q) (hfin : (q.2.1 k).2.2.2 = false) {ty : FieldType} (hd : parseFieldDescriptor (q.2.1 k).2.2.1 = some ty) (hn : ∀ a, narrow ty (.ref a) = .ref a) (hfit : ∀ a, fits ty (.ref a) = true)
    (kk : zL C nL ad S cells slots sz (up3 I b j k 1) X Y (pc + 3) lo st) : zL C nL ad S cells slots sz I X Y pc lo (.inr (.inr (some q2)) :: .inr (.inr (some (b, j))) :: st) := by
  obtain ⟨q', hc', hkq, hl⟩ := hf
  have e := Option.some.inj (hc'.symm.trans hc)
  subst e
  obtain ⟨b2, j2⟩ := q2
  refine z_putX hC d hs hc hkq hl hfin (ty := ty) (v := .inr (.inr (some (b2, j2)))) hd (hn _) (hfit _) fun H H1 locs ls w0 w1 w2 w3 w4 => ?_
  refine kk H1 locs ls ⟨w0.put hs (fun b' k' i e => up3_ne fun z => e ⟨z.1, z.2.1⟩) (fun _ _ _ _ => rfl) (fun _ _ _ _ => rfl) (w2.at (I' := up3 I b j k 1) rfl (zlt hk) (zhO (I := I) hk) (fun i hi => ?_)) w2.2.2, by rw [w2.2.1]; exact w1⟩ w3 w4
  congr 1
  funext f
  rw [zfv_off (up3_ne fun z => hi z.2.2)]
/-! arrays -/
theorem z_iald (hC : zOk bt own nL ret N mc ms C ad) {b j n : Nat} {i : Int32} (d : decode bt pc = .ok (.iaload, 1)) (hs : S b j = some (.inl (0, n))) (hi : vp_in i n) (kk : zL C nL ad S cells slots sz I X Y (pc + 1) lo (.inl (X b j i.toNatClampNeg) :: st)) : zL C nL ad S cells slots sz I X Y pc lo (.inl i :: .inr (.inr (some (b, j))) :: st) :=
  fun H locs ls h1 h2 h3 => va_iald hC.1 hC.2.1 hC.2.2.2.2.2.2.2.2.1 (zsing (h1.1.1 b j _ hs).1) 0 0 rfl rfl hi d (kk H locs ls h1 h2 h3)
theorem z_lald (hC : zOk bt own nL ret N mc ms C ad) {b j n : Nat} {i : Int32} (d : decode bt pc = .ok (.laload, 1)) (hs : S b j = some (.inl (1, n))) (hi : vp_in i n) (kk : zL C nL ad S cells slots sz I X Y (pc + 1) lo (.inr (.inl (Y b j i.toNatClampNeg)) :: st)) : zL C nL ad S cells slots sz I X Y pc lo (.inl i :: .inr (.inr (some (b, j))) :: st) :=
  fun H locs ls h1 h2 h3 => va_lald hC.1 hC.2.1 hC.2.2.2.2.2.2.2.2.1 (zsing (h1.1.1 b j _ hs).1) 0 1 rfl rfl hi d (kk H locs ls h1 h2 h3)
theorem z_iast (hC : zOk bt own nL ret N mc ms C ad) {b j n : Nat} {i x : Int32} (d : decode bt pc = .ok (.iastore, 1)) (hs : S b j = some (.inl (0, n))) (hi : vp_in i n) (kk : zL C nL ad S cells slots sz I (up3 X b j i.toNatClampNeg x) Y (pc + 1) lo st) : zL C nL ad S cells slots sz I X Y pc lo (.inl x :: .inl i :: .inr (.inr (some (b, j))) :: st) := by
  intro H locs ls h1 h2 h3
  obtain ⟨g1, g2⟩ := h1.1.1 b j _ hs
  refine W.iast hC.1 hC.2.1 g1 ((hC.2.2.2.2.2.2.2.2.1.2 0 _ rfl).1 n (fun j' => .int (X b j j'))) (fun q => by cases q) (by show ¬ (i < 0 ∨ (arrV _ _ _).slots.size ≤ _); rw [arrV_size]; exact hi) rfl rfl d fun H1 e z oq => ?_
  refine kk H1 _ ls ⟨h1.1.put hs (fun _ _ _ _ => rfl) (fun b' k' i' e => up3_ne fun z => e ⟨z.1, z.2.1⟩) (fun _ _ _ _ => rfl) ?_ oq, by rw [z]; exact h1.2⟩ (h2.put z oq g2) h3
  show H1[ad b j]? = some (vp_cell _ _)
  rw [e]
  show some ((vp_cell _ _).setSlot _ _) = _
  rw [vp_cell_i, vp_cell_i, arrV_store]
  congr 2
  funext j'
  by_cases e2 : j' = i.toNatClampNeg
  · subst e2; simp [updV, up3]
  · simp [updV, up3, e2]
theorem z_last (hC : zOk bt own nL ret N mc ms C ad) {b j n : Nat} {i : Int32} {x : Int64} (d : decode bt pc = .ok (.lastore, 1)) (hs : S b j = some (.inl (1, n))) (hi : vp_in i n) (kk : zL C nL ad S cells slots sz I X (up3 Y b j i.toNatClampNeg x) (pc + 1) lo st) : zL C nL ad S cells slots sz I X Y pc lo (.inr (.inl x) :: .inl i :: .inr (.inr (some (b, j))) :: st) := by
  intro H locs ls h1 h2 h3
  obtain ⟨g1, g2⟩ := h1.1.1 b j _ hs
  refine W.last hC.1 hC.2.1 g1 ((hC.2.2.2.2.2.2.2.2.1.2 1 _ rfl).1 n (fun j' => .long (Y b j j'))) (fun q => by cases q) (by show ¬ (i < 0 ∨ (arrV _ _ _).slots.size ≤ _); rw [arrV_size]; exact hi) rfl rfl d fun H1 e z oq => ?_
  refine kk H1 _ ls ⟨h1.1.put hs (fun _ _ _ _ => rfl) (fun _ _ _ _ => rfl) (fun b' k' i' e => up3_ne fun z => e ⟨z.1, z.2.1⟩) ?_ oq, by rw [z]; exact h1.2⟩ (h2.put z oq g2) h3
  show H1[ad b j]? = some (vp_cell _ _)
  rw [e]
  show some ((vp_cell _ _).setSlot _ _) = _
  rw [vp_cell_l, vp_cell_l, arrV_store]
  congr 2
  funext j'
  by_cases e2 : j' = i.toNatClampNeg
  · subst e2; simp [updV, up3]
  · simp [updV, up3, e2]
theorem z_alen (hC : zOk bt own nL ret N mc ms C ad) {b j n t : Nat} (d : decode bt pc = .ok (.arraylength, 1)) (hs : S b j = some (.inl (t, n))) {v : Int32} (hv : Int32.ofNat n = v) (kk : zL C nL ad S cells slots sz I X Y (pc + 1) lo (.inl v :: st)) : zL C nL ad S cells slots sz I X Y pc lo (.inr (.inr (some (b, j))) :: st) := by
  intro H locs ls h1 h2 h3
  cases t with
  | zero => exact va_alen hC.1 hC.2.1 hC.2.2.2.2.2.2.2.2.1 (zsing (h1.1.1 b j _ hs).1) 0 0 rfl rfl hv d (kk H locs ls h1 h2 h3)
  | succ t => exact va_alen hC.1 hC.2.1 hC.2.2.2.2.2.2.2.2.1 (zsing (h1.1.1 b j _ hs).1) 0 1 rfl rfl hv d (kk H locs ls h1 h2 h3)
theorem zty2 {t : Nat} (ht : t < 3) : ∃ ty : FieldType, zty (t + 2) = ty := ⟨_, rfl⟩
/-- an array of places: its length, an element -/
theorem z_alenQ (hC : zOk bt own nL ret N mc ms C ad) {b j t : Nat} {el : List (Option (Nat × Nat))} (ht : t < 3) (d : decode bt pc = .ok (.arraylength, 1)) (hs : S b j = some (.inr (.inr (t, el)))) {v : Int32} (hv : Int32.ofNat el.length = v) (kk : zL C nL ad S cells slots sz I X Y (pc + 1) lo (.inl v :: st)) : zL C nL ad S cells slots sz I X Y pc lo (.inr (.inr (some (b, j))) :: st) := by
  intro H locs ls h1 h2 h3
  match t, ht, hs with
  | 0, _, hs => exact va_alen hC.1 hC.2.1 hC.2.2.2.2.2.2.2.2.1 (zsing (h1.1.1 b j _ hs).1) 0 2 rfl rfl hv d (kk H locs ls h1 h2 h3)
  | 1, _, hs => exact va_alen hC.1 hC.2.1 hC.2.2.2.2.2.2.2.2.1 (zsing (h1.1.1 b j _ hs).1) 0 3 rfl rfl hv d (kk H locs ls h1 h2 h3)
  | 2, _, hs => exact va_alen hC.1 hC.2.1 hC.2.2.2.2.2.2.2.2.1 (zsing (h1.1.1 b j _ hs).1) 0 4 rfl rfl hv d (kk H locs ls h1 h2 h3)
theorem z_aald (hC : zOk bt own nL ret N mc ms C ad) {b j t : Nat} {el : List (Option (Nat × Nat))} {i : Int32} {b2 j2 : Nat} (ht : t < 3) (d : decode bt pc = .ok (.aaload, 1)) (hs : S b j = some (.inr (.inr (t, el)))) (hi : vp_in i el.length) (he : el[i.toNatClampNeg]? = some (some (b2, j2))) (kk : zL C nL ad S cells slots sz I X Y (pc + 1) lo (.inr (.inr (some (b2, j2))) :: st)) : zL C nL ad S cells slots sz I X Y pc lo (.inl i :: .inr (.inr (some (b, j))) :: st) := by
  intro H locs ls h1 h2 h3
  have hk := kk H locs ls h1 h2 h3
  have e2 : va_rf (zpl ad el[i.toNatClampNeg]?) = .ref (ad b2 j2) := by rw [he]; rfl
  have hlt : i.toNatClampNeg < el.length := Nat.not_le.mp fun q => hi (Or.inr q)
  have hv : ∀ cA : ClassId, (vp_cell cA (el.length, .inr (.inr (.inr (.inr (fun j => zpl ad el[j]?)))))).slots[i.toNatClampNeg]? = some (.ref (ad b2 j2)) := by
    intro cA
    rw [vp_cell_q, arrV_read _ _ hlt, e2]
  have hsz : ∀ cA : ClassId, ¬ (i < 0 ∨ (vp_cell cA (el.length, .inr (.inr (.inr (.inr (fun j => zpl ad el[j]?)))))).slots.size ≤ i.toNatClampNeg) := by
    intro cA
    rw [vp_cell_q, arrV_size]; exact hi
  match t, ht, hs with
  | 0, _, hs => exact W.aald (ty := .object "OnTheRoof$Shelf") hC.1 hC.2.1 (h1.1.1 b j _ hs).1 ((hC.2.2.2.2.2.2.2.2.1.2 2 _ rfl).1 _ (fun j => va_rf (zpl ad el[j]?))) rfl (fun q => by cases q) (hsz _) (hv _) rfl rfl d hk
  | 1, _, hs => exact W.aald (ty := .array .int) hC.1 hC.2.1 (h1.1.1 b j _ hs).1 ((hC.2.2.2.2.2.2.2.2.1.2 3 _ rfl).1 _ (fun j => va_rf (zpl ad el[j]?))) rfl (fun q => by cases q) (hsz _) (hv _) rfl rfl d hk
  | 2, _, hs => exact W.aald (ty := .array .long) hC.1 hC.2.1 (h1.1.1 b j _ hs).1 ((hC.2.2.2.2.2.2.2.2.1.2 4 _ rfl).1 _ (fun j => va_rf (zpl ad el[j]?))) rfl (fun q => by cases q) (hsz _) (hv _) rfl rfl d hk
end ZH2
end
section
/-! contracts, calls, returns -/
abbrev zM : Type := MethodName × ByteArray × Nat × Option FieldType
def zws (y : zM) : List Cond := .code y.1 y.2.1 y.2.2.1 y.2.2.2 :: zTb
def zrm (n mc ms : Nat) : Room := { frames := n, cells := mc, slots := ms, locals := 36 * n }
def zFr (ad : zA) (S : zSh) (sz : Nat) : Nat → Prop := fun q => (∃ b k, S b k ≠ none ∧ q = ad b k) ∨ sz ≤ q
def zPre (g : zG) (ad : zA) (S : zSh) (I X : zI) (Y : zY) (sz : Nat) (U : State) : Prop := U.heap.size = sz ∧ zW g (zFr ad S sz) ad S I X Y U.heap ∧ zK g U ∧ zOld ad (zFr ad S sz) U U.heap
def zPost (g : zG) (ad : zA) (S0 : zSh) (sz0 : Nat) (v : Option zV) (S : zSh) (I X : zI) (Y : zY) (sz : Nat) : Array Value → State → Outcome → State → Prop :=
  fun _ st o t => (o = .returned (v.map (rv ad)) ∧ zW g (fun _ => True) ad S I X Y t.heap ∧ t.heap.size = sz ∧ ∀ b k sh, S b k = some sh → zFr ad S0 sz0 (ad b k)) ∧ va_F (zFr ad S0 sz0) st t
/-- from the memory (I, X, Y) over the shapes S the method y called with args answers v and leaves (I', X', Y') over S' -/
def zCall (y : zM) (n mc ms : Nat) (args : List zV) (v : Option zV) (ad : zA) (S : zSh) (I X : zI) (Y : zY) (sz : Nat) (S' : zSh) (I' X' : zI) (Y' : zY) (sz' : Nat) : Prop :=
  ∀ (l : Launch) (g : zG), Met l y.1 (zws y) (zrm n mc ms) (va_Pc (args.map (rv ad)) (zPre g ad S I X Y sz)) (zPost g ad S sz v S' I' X' Y' sz') mc ms (zFr ad S sz)
/-- what a method's last instruction owes -/
def zEnd (C : zC) (ad : zA) (S : zSh) (I X : zI) (Y : zY) (sz : Nat) (v : Option zV) (mc ms : Nat) : Prop :=
  ∃ (Qc : Array Value → State → Outcome → State → Prop) (free : Addr → Prop), cZ C = MQ (cb C) Qc (ca C) (cs C) mc ms free ∧
    ∀ (H : Heap) (locs : List Loc), zW (cg C) (cA C) ad S I X Y H → H.size = sz → va_S (cA C) (cs C).heap H locs → (∀ t : State, t.heap = H → (cs C).WarmedH t.vm → Qc (ca C) (cs C) (.returned (v.map (rv ad))) t) ∧ ∀ q ∈ locs, free q.base
theorem zEnd.to {C : zC} {ad : zA} {S : zSh} {I X I' X' : zI} {Y Y' : zY} {sz mc ms : Nat} {v v' : Option zV} (h : zEnd C ad S I X Y sz v mc ms) (hv : v = v') (hI : I = I') (hX : X = X') (hY : Y = Y') : zEnd C ad S I' X' Y' sz v' mc ms := by
  subst hv; subst hI; subst hX; subst hY; exact h
def zent (args : List zV) (nL : Nat) : List (Option zV) := (args.flatMap (fun v => if zcat (some (some v)) = 2 then [some v, none] else [some v]))
theorem zent_args {ad : zA} : ∀ (args : List zV) (o i : Nat) (v : zV), (zent args 0)[i]? = some (some v) → (o + i, rv ad v) ∈ lv_args o (args.map (rv ad)) := by
  intro args
  induction args with
  | nil => intro o i v h; simp [zent] at h
  | cons a t ih =>
    intro o i v h
    show _ ∈ lv_args o (rv ad a :: t.map (rv ad))
    unfold lv_args
    rw [rv_cat]
    by_cases hc : zcat (some (some a)) = 2
    · have he : zent (a :: t) 0 = some a :: none :: zent t 0 := by simp [zent, hc]
      rw [he] at h
      match i, h with
      | 0, h => simp at h; subst h; exact List.mem_cons_self
      | 1, h => simp at h
      | i + 2, h =>
        have h' : (zent t 0)[i]? = some (some v) := by simpa using h
        have := ih (o + 2) i v h'
        rw [hc]
        rw [show o + (i + 2) = o + 2 + i by omega]
        exact List.mem_cons_of_mem _ this
    · have he : zent (a :: t) 0 = some a :: zent t 0 := by simp [zent, hc]
      have h1 : zcat (some (some a)) = 1 := by
        rcases a with x | x | _ | ⟨b, k⟩ <;> first | rfl | exact absurd rfl hc
      rw [he] at h
      match i, h with
      | 0, h => simp at h; subst h; exact List.mem_cons_self
      | i + 1, h =>
        have h' : (zent t 0)[i]? = some (some v) := by simpa using h
        have := ih (o + 1) i v h'
        rw [h1]
        rw [show o + (i + 1) = o + 1 + i by omega]
        exact List.mem_cons_of_mem _ this
theorem zent_len {ad : zA} (args : List zV) : (lg_sl (args.map (rv ad))).length = (zent args 0).length := by
  induction args with
  | nil => rfl
  | cons a t ih =>
    by_cases hc : zcat (some (some a)) = 2
    · have he : zent (a :: t) 0 = some a :: none :: zent t 0 := by simp [zent, hc]
      have h2 : lg_sl ((a :: t).map (rv ad)) = .val (rv ad a) :: .second :: lg_sl (t.map (rv ad)) := by simp [lg_sl, rv_cat, hc]
      rw [he, h2]; simp [ih]
    · have he : zent (a :: t) 0 = some a :: zent t 0 := by simp [zent, hc]
      have h2 : lg_sl ((a :: t).map (rv ad)) = .val (rv ad a) :: lg_sl (t.map (rv ad)) := by simp [lg_sl, rv_cat, hc]
      rw [he, h2]; simp [ih]
theorem zFr_A {ad : zA} {S : zSh} {sz : Nat} {b k : Nat} {sh : zS} (h : S b k = some sh) : zFr ad S sz (ad b k) := Or.inl ⟨b, k, fun z => (by rw [h] at z; cases z), rfl⟩
/-- a contract out of a walk of the body -/
theorem zCall.of {y : zM} {n mc ms k : Nat} {args : List zV} {v : Option zV} {ad : zA} {S S' : zSh} {I X I' X' : zI} {Y Y' : zY} {sz sz' : Nat} {lo : List (Option zV)} (hp : plainName y.1.cls = true) (hlen : (zent args 0).length ≤ y.2.2.1) (hlo : zent args 0 ++ List.replicate k none = lo)
    (body : ∀ C : zC, zOk y.2.1 y.1.cls y.2.2.1 y.2.2.2 n mc ms C ad → (ch C).name = y.1.name → zEnd C ad S' I' X' Y' sz' v mc ms → zL C y.2.2.1 ad S 0 0 sz I X Y 0 lo []) : zCall y n mc ms args v ad S I X Y sz S' I' X' Y' sz' := by
  intro l g
  refine Met.ofW (cc := y.2.1) (maxL := y.2.2.1) (ret := y.2.2.2) hp rfl ?_
  intro p e s m args' below meth c s₁ B hml hv
  obtain ⟨rfl, hsz, hW, hK, hO⟩ := hv
  have hts : ∀ w ∈ zTb, w.before (args.map (rv ad)).toArray s = true := fun w hw => atoms_spec (ws := zws y) B.pre w (List.mem_cons_of_mem _ hw)
  have hown : s.vm.findClass y.1.cls = some m.cls := findClass_of_methodNamed B.named
  have hnm : meth.name = y.1.name := (name_of_methodNamed B.named B.method).1
  have hl := lv_entry (args.map (rv ad)) (n := y.2.2.1) (by rw [zent_len]; exact hlen)
  rw [lg_entry_eq]
  generalize (lg_sl (args.map (rv ad)) ++ List.replicate (y.2.2.1 - (lg_sl (args.map (rv ad))).length) Slot.unset).toArray = ls at hl ⊢
  have hl2 : zlv ad ls y.2.2.1 lo := by
    refine ⟨hl.1, hl.2.1, fun i w hw => ?_⟩
    rw [← hlo] at hw
    have hw2 : (zent args 0)[i]? = some (some w) := by
      by_cases hi : i < (zent args 0).length
      · rwa [List.getElem?_append_left hi] at hw
      · rw [List.getElem?_append_right (by omega), List.getElem?_replicate] at hw
        split at hw <;> simp at hw
    have := hl.2.2 (0 + i, rv ad w) (zent_args args 0 i w hw2)
    simpa using this
  have hbody := body (p, l, e, (headSpec (zws y) (zrm n mc ms)).room, s, m, (args.map (rv ad)).toArray, below, meth, c, MQ below (zPost g ad S sz v S' I' X' Y' sz') (args.map (rv ad)).toArray s mc ms (zFr ad S sz), g, zFr ad S sz)
    ⟨B.exec, B.bytes, hml, hown, hts, B.returns, B.notSynchronized, ⟨Nat.le_refl _, Nat.le_refl _, Nat.le_refl _, Nat.le_refl _⟩, hK, hO, fun q hq => Or.inr (by rw [← hsz]; exact hq)⟩ hnm
    ⟨_, _, rfl, fun H locs w0 w1 w2 => ⟨fun t ht _ => ⟨⟨rfl, by rw [ht]; exact w0.weaken (fun _ _ _ _ => trivial), by rw [ht]; exact w1, fun b k sh h => (w0.1 b k sh h).2⟩, w2.F ht⟩, w2.2.2⟩⟩
  exact hbody s.heap [] ls ⟨hW, hsz⟩ va_S.rf hl2
section ZE
variable {C : zC} {nL : Nat} {ad : zA} {S : zSh} {cells slots sz : Nat} {I X : zI} {Y : zY} {pc : Nat} {lo : List (Option zV)} {st : List zV}
variable {bt : ByteArray} {own : String} {ret : Option FieldType} {N mc ms : Nat}
theorem z_iret (hC : zOk bt own nL (some .int) N mc ms C ad) {x : Int32} (d : decode bt pc = .ok (.ireturn, 1)) (hE : zEnd C ad S I X Y sz (some (.inl x)) cells slots) : zL C nL ad S cells slots sz I X Y pc lo [.inl x] := by
  intro H locs ls h1 h2 h3
  obtain ⟨Qc, free, hZ, h⟩ := hE
  obtain ⟨g1, g2⟩ := h H locs h1.1 h1.2 h2
  rw [hZ]
  exact W.iret hC.1 hC.2.1 hC.2.2.2.2.2.1 (fun t ht hw => g1 t ht hw) g2 d hC.2.2.2.2.2.2.1
theorem z_zret (hC : zOk bt own nL (some .boolean) N mc ms C ad) {x : Int32} (d : decode bt pc = .ok (.ireturn, 1)) (hn : narrow .boolean (.int x) = .int x) (hE : zEnd C ad S I X Y sz (some (.inl x)) cells slots) : zL C nL ad S cells slots sz I X Y pc lo [.inl x] := by
  intro H locs ls h1 h2 h3
  obtain ⟨Qc, free, hZ, h⟩ := hE
  obtain ⟨g1, g2⟩ := h H locs h1.1 h1.2 h2
  rw [hZ]
  exact W.zret hC.1 hC.2.1 hC.2.2.2.2.2.1 hn (fun t ht hw => g1 t ht hw) g2 d hC.2.2.2.2.2.2.1
theorem z_tret {ret0 : FieldType} (hC : zOk bt own nL (some ret0) N mc ms C ad) {x : Int32} (d : decode bt pc = .ok (.ireturn, 1)) (hn : narrow ret0 (.int x) = .int x) (hE : zEnd C ad S I X Y sz (some (.inl x)) cells slots) : zL C nL ad S cells slots sz I X Y pc lo [.inl x] := by
  intro H locs ls h1 h2 h3
  obtain ⟨Qc, free, hZ, h⟩ := hE
  obtain ⟨g1, g2⟩ := h H locs h1.1 h1.2 h2
  rw [hZ]
  exact W.zret hC.1 hC.2.1 hC.2.2.2.2.2.1 hn (fun t ht hw => g1 t ht hw) g2 d hC.2.2.2.2.2.2.1
theorem z_lret (hC : zOk bt own nL (some .long) N mc ms C ad) {x : Int64} (d : decode bt pc = .ok (.lreturn, 1)) (hE : zEnd C ad S I X Y sz (some (.inr (.inl x))) cells slots) : zL C nL ad S cells slots sz I X Y pc lo [.inr (.inl x)] := by
  intro H locs ls h1 h2 h3
  obtain ⟨Qc, free, hZ, h⟩ := hE
  obtain ⟨g1, g2⟩ := h H locs h1.1 h1.2 h2
  rw [hZ]
  exact W.lret hC.1 hC.2.1 hC.2.2.2.2.2.1 (fun t ht hw => g1 t ht hw) g2 d hC.2.2.2.2.2.2.1
theorem z_aret {cn : String} (hC : zOk bt own nL (some (.object cn)) N mc ms C ad) {v : Option (Nat × Nat)} (d : decode bt pc = .ok (.areturn, 1)) (hE : zEnd C ad S I X Y sz (some (.inr (.inr v))) cells slots) : zL C nL ad S cells slots sz I X Y pc lo [.inr (.inr v)] := by
  intro H locs ls h1 h2 h3
  obtain ⟨Qc, free, hZ, h⟩ := hE
  obtain ⟨g1, g2⟩ := h H locs h1.1 h1.2 h2
  rw [hZ]
  refine W.aret hC.1 hC.2.1 hC.2.2.2.2.2.1 (Or.inl ⟨_, rfl⟩) ?_ (fun t ht hw => g1 t ht hw) g2 d hC.2.2.2.2.2.2.1
  rcases v with _ | ⟨b, k⟩
  · exact Or.inl rfl
  · exact Or.inr ⟨_, rfl⟩
theorem z_vret (hC : zOk bt own nL none N mc ms C ad) (d : decode bt pc = .ok (.return_, 1)) (hE : zEnd C ad S I X Y sz none cells slots) : zL C nL ad S cells slots sz I X Y pc lo [] := by
  intro H locs ls h1 h2 h3
  obtain ⟨Qc, free, hZ, h⟩ := hE
  obtain ⟨g1, g2⟩ := h H locs h1.1 h1.2 h2
  rw [hZ]
  exact W.vret hC.1 hC.2.1 hC.2.2.2.2.2.1 (fun t ht hw => g1 t ht hw) g2 d hC.2.2.2.2.2.2.1
theorem z_widen {k n : Nat} (h1 : cells ≤ k) (h2 : slots ≤ n) (kk : zL C nL ad S k n sz I X Y pc lo st) : zL C nL ad S cells slots sz I X Y pc lo st :=
  fun H locs ls w1 w2 w3 => W.widen h1 h2 (kk H locs ls w1 w2 w3)
end ZE
/-! links -/
def zPay (y : zM) (np : Nat) : Prop := Cond.code y.1 y.2.1 y.2.2.1 y.2.2.2 ∈ zTb ∧ Cond.initialized y.1.cls ∈ zTb ∧ (y.1.cls ≠ "java/lang/invoke/MethodHandle" ∧ y.1.cls ≠ "java/lang/invoke/VarHandle" ∧ (parseMethodDescriptor y.1.desc).map (fun d => d.parameters.length) = some np) ∧ y.2.2.1 ≤ 17
def zVir (own : String) (idx : Nat) (y : zM) (np : Nat) : Prop := zPay y np ∧ Cond.methodLink own idx y.1 ∈ zTb ∧ Cond.instanceMethod y.1 ∈ zTb ∧ Cond.selects y.1.cls y.1 y.1 ∈ zTb
def zSta (own : String) (idx : Nat) (y : zM) (np : Nat) : Prop := zPay y np ∧ Cond.methodLink own idx y.1 ∈ zTb ∧ Cond.static y.1 ∈ zTb
def zNst (own : String) (idx : Nat) (y : zM) (np : Nat) : Prop := zPay y np ∧ (∃ h, (own, idx, y.1, h) ∈ zNests) ∧ Cond.static y.1 ∈ zTb
def zIni (own : String) (idx : Nat) (y : zM) (np : Nat) : Prop := zPay y np ∧ Cond.methodLink own idx y.1 ∈ zTb ∧ Cond.instanceMethod y.1 ∈ zTb ∧ y.1.name = "<init>" ∧ y.2.2.2 = none
section ZX
variable {C : zC} {nL : Nat} {ad : zA} {S S' : zSh} {cells slots sz sz' : Nat} {I X I' X' : zI} {Y Y' : zY} {pc : Nat} {lo : List (Option zV)} {st : List zV}
variable {bt : ByteArray} {own : String} {ret : Option FieldType} {N mc ms : Nat} {y : zM} {np idx n mc1 ms1 : Nat}
theorem zpayB (hC : zOk bt own nL ret N mc ms C ad) (hp : zPay y np) (hn : n + 1 ≤ N) (hl : (Cond.methodLink own idx y.1).before (ca C) (cs C) = true) : CallB (cR C) (cs C) (ca C) own idx y.1 y.2.1 y.2.2.1 y.2.2.2 (zws y) (zrm n mc1 ms1) mc1 ms1 np := by
  obtain ⟨p1, p2, p3, p4⟩ := hp
  have hts := hC.2.2.2.2.1
  have hR := hC.2.2.2.2.2.2.2.1
  refine callB_of np hts (zTb_good fun w hw => ?_) rfl rfl rfl (hts _ p2) hl p3 ⟨?_, ?_⟩
  · rcases List.mem_cons.mp hw with rfl | h
    · exact p1
    · exact h
  · exact Nat.le_trans hn hR.1
  · show 8 + (y.2.2.1 + 11) + 36 * n ≤ _
    have := hR.2.1
    omega
/-- behind a call -/
theorem z_after {v : Option zV} {st0 : List Value} {a : Array Value} (hC : zOk bt own nL ret N mc ms C ad) {H : Heap} {locs : List Loc} {ls : Array Slot} (h1 : zW (cg C) (cA C) ad S I X Y H ∧ H.size = sz) (h2 : va_S (cA C) (cs C).heap H locs) (h3 : zlv ad ls nL lo)
    (hr : va_Run (cp C) (cl C) (ce C) (cR C) (cs C) (cm C) (ca C) (cb C) (ch C) (cc C) H locs cells slots mc1 ms1 (F0 (cm C) pc ls st0) (st.map (rv ad)) (zPost (cg C) ad S sz v S' I' X' Y' sz' a) (zFr ad S sz))
    (kk : zL C nL ad S' (cells + mc1) (slots + ms1) sz' I' X' Y' (pc + 3) lo (v.toList ++ st)) :
    W (cp C) (cl C) (ce C) (cR C) (cs C) (cm C) (ca C) (cb C) (ch C) (cc C) H locs cells slots (cZ C) (F0 (cm C) pc ls st0) := by
  intro T hT Xs
  obtain ⟨v', st₀, t, T', L, h0, X', hL, e1, e2, ⟨⟨hv, hW, hz, hA⟩, hz2, hk⟩, stp⟩ := hr T hT Xs
  rw [h0] at hz2 hk
  have hsub : ∀ q, zFr ad S sz q → cA C q := by
    intro q hq
    rcases hq with ⟨b, k, hs, rfl⟩ | hq
    · cases hsh : S b k with
      | none => exact absurd hsh hs
      | some sh => exact (h1.1.1 b k sh hsh).2
    · refine hC.2.2.2.2.2.2.2.2.2.2 q (Nat.le_trans h2.1 ?_)
      rw [h1.2]; exact hq
  cases hv
  have hst : (Option.map (rv ad) v).toList ++ st.map (rv ad) = (v.toList ++ st).map (rv ad) := by cases v <;> rfl
  rw [hst] at stp
  obtain ⟨t2, a1, b1⟩ := kk T'.heap (locs ++ L) ls ⟨⟨fun b k sh hs => ⟨by rw [e1]; exact (hW.1 b k sh hs).1, hsub _ (hA b k sh hs)⟩, hW.2⟩, by rw [e1]; exact hz⟩
    ⟨Nat.le_trans h2.1 (by rw [e1]; exact hz2), fun q g1 g2 => by rw [e1, hk q (Nat.lt_of_lt_of_le g1 h2.1) (fun z => g2 (hsub q z))]; exact h2.2.1 q g1 g2, fun q hq => by
      rcases List.mem_append.mp hq with h | h
      · exact h2.2.2 q h
      · exact hsub _ (hL q h)⟩ h3 T' rfl X'
  exact ⟨t2, stp t2 a1, b1⟩
theorem zpreS {args : List zV} (hC : zOk bt own nL ret N mc ms C ad) {H : Heap} {locs : List Loc} (h1 : zW (cg C) (cA C) ad S I X Y H ∧ H.size = sz) (h2 : va_S (cA C) (cs C).heap H locs) : PreS (cs C) H (va_Pc (args.map (rv ad)) (zPre (cg C) ad S I X Y sz)) (args.map (rv ad)) := by
  refine ⟨fun a U g mk q => ⟨q.1, q.2.1, q.2.2.1, ?_, ?_⟩, fun U hU hW => ⟨rfl, by rw [hU]; exact h1.2, ?_, ?_, ?_⟩⟩
  · exact va_K.moved (u := U) (U := U.calling g mk a) (Vm.Alike.refl U.vm) q.2.2.2.1
  · exact zOld.same (u := U) (U := U.calling g mk a) rfl q.2.2.2.2
  · rw [hU]; exact h1.1.weaken fun b k sh hs => zFr_A hs
  · exact va_K.moved hW.alike hC.2.2.2.2.2.2.2.2.1
  · rw [hU]
    refine hC.2.2.2.2.2.2.2.2.2.1.to h2.2.1 ?_ hW
    intro q hq
    rcases hq with ⟨b, k, hs, rfl⟩ | hq
    · cases hsh : S b k with
      | none => exact absurd hsh hs
      | some sh => exact (h1.1.1 b k sh hsh).2
    · refine hC.2.2.2.2.2.2.2.2.2.2 q (Nat.le_trans h2.1 ?_)
      rw [h1.2]; exact hq
theorem zwords {st : List zV} (h : (st.map (fun v => zcat (some (some v)))).sum ≤ 8) : ((st.map (rv ad)).map fun v => v.category).sum ≤ 8 := by
  rw [List.map_map, show (fun v : Value => v.category) ∘ rv ad = fun v => zcat (some (some v)) from funext fun v => rv_cat ad v]
  exact h
theorem z_callS {As : List zV} {v : Option zV} {st0 : List zV} (hC : zOk bt own nL ret N mc ms C ad) (d : decode bt pc = .ok (.invokestatic idx, 3)) (hy : zSta own idx y np) (hM : zCall y n mc1 ms1 As v ad S I X Y sz S' I' X' Y' sz') (hst : st0 = As.reverse ++ st) (hnp : As.length = np) (hn : n + 1 ≤ N) (hw : (st.map (fun v => zcat (some (some v)))).sum ≤ 8) (hroom : cells + mc1 ≤ mc ∧ slots + ms1 ≤ ms)
    (kk : zL C nL ad S' (cells + mc1) (slots + ms1) sz' I' X' Y' (pc + 3) lo (v.toList ++ st)) : zL C nL ad S cells slots sz I X Y pc lo st0 := by
  intro H locs ls h1 h2 h3
  have hts := hC.2.2.2.2.1
  have hR := hC.2.2.2.2.2.2.2.1
  refine z_after hC h1 h2 h3 (va_runS (As := As.map (rv ad)) (rest := st.map (rv ad)) ⟨hC.1, hC.2.1, hC.2.2.1, hC.2.2.2.1, hts⟩ (hM (cl C) (cg C)) ⟨zpayB hC hy.1 hn (hts _ hy.2.1), hts _ hy.2.2⟩ (zpreS hC h1 h2) rfl (by rw [List.length_map]; exact hnp) h3.1 (by rw [hst]; simp) (lv_room (zwords hw)) d ⟨Nat.le_trans hroom.1 hR.2.2.1, Nat.le_trans hroom.2 hR.2.2.2⟩) kk
theorem z_callN {As : List zV} {v : Option zV} {st0 : List zV} (hC : zOk bt own nL ret N mc ms C ad) (d : decode bt pc = .ok (.invokestatic idx, 3)) (hy : zNst own idx y np) (hM : zCall y n mc1 ms1 As v ad S I X Y sz S' I' X' Y' sz') (hst : st0 = As.reverse ++ st) (hnp : As.length = np) (hn : n + 1 ≤ N) (hw : (st.map (fun v => zcat (some (some v)))).sum ≤ 8) (hroom : cells + mc1 ≤ mc ∧ slots + ms1 ≤ ms)
    (kk : zL C nL ad S' (cells + mc1) (slots + ms1) sz' I' X' Y' (pc + 3) lo (v.toList ++ st)) : zL C nL ad S cells slots sz I X Y pc lo st0 := by
  intro H locs ls h1 h2 h3
  have hts := hC.2.2.2.2.1
  have hR := hC.2.2.2.2.2.2.2.1
  obtain ⟨⟨p1, p2, p3, p4⟩, ⟨host, hh⟩, y3⟩ := hy
  have hnest := hC.2.2.2.2.2.2.2.2.2.1.2.2.2.2.2.2 _ hh
  refine z_after hC h1 h2 h3 (va_runSN (host := host) (As := As.map (rv ad)) (rest := st.map (rv ad)) ⟨hC.1, hC.2.1, hC.2.2.1, hC.2.2.2.1, hts⟩ (hM (cl C) (cg C)) ⟨va_cnB np hts (zTb_good fun w hw => ?_) rfl rfl rfl hnest (hts _ p2) p3 ⟨Nat.le_trans hn hR.1, ?_⟩, hts _ y3, trivial⟩ (zpreS hC h1 h2) rfl (by rw [List.length_map]; exact hnp) h3.1 (by rw [hst]; simp) (lv_room (zwords hw)) d ⟨Nat.le_trans hroom.1 hR.2.2.1, Nat.le_trans hroom.2 hR.2.2.2⟩) kk
  · rcases List.mem_cons.mp hw with rfl | h
    · exact p1
    · exact h
  · show 8 + (y.2.2.1 + 11) + 36 * n ≤ _
    have := hR.2.1
    omega
theorem zrecv (hC : zOk bt own nL ret N mc ms C ad) {H : Heap} (h1 : zW (cg C) (cA C) ad S I X Y H ∧ H.size = sz) {b j ci : Nat} {fl : List zF} {q : vw_C} (hs : S b j = some (.inr (.inl (ci, fl)))) (hc : vwCl[ci]? = some q) : ∃ cellB : Cell, H[ad b j]? = some cellB ∧ cellB.vm.isStatics = false ∧ (cs C).vm.findClass q.1 = some cellB.cls :=
  va_recv (q0 := 0) hC.2.2.2.2.2.2.2.2.1 (zsing (h1.1.1 b j _ hs).1) hc rfl
theorem z_callV {As : List zV} {v : Option zV} {st0 : List zV} {b j ci : Nat} {fl : List zF} {q : vw_C} (hC : zOk bt own nL ret N mc ms C ad) (d : decode bt pc = .ok (.invokevirtual idx, 3)) (hy : zVir own idx y np) (hM : zCall y n mc1 ms1 (.inr (.inr (some (b, j))) :: As) v ad S I X Y sz S' I' X' Y' sz') (hs : S b j = some (.inr (.inl (ci, fl)))) (hc : vwCl[ci]? = some q) (hq : q.1 = y.1.cls) (hst : st0 = As.reverse ++ .inr (.inr (some (b, j))) :: st) (hnp : As.length = np) (hn : n + 1 ≤ N) (hw : (st.map (fun v => zcat (some (some v)))).sum ≤ 8) (hroom : cells + mc1 ≤ mc ∧ slots + ms1 ≤ ms)
    (kk : zL C nL ad S' (cells + mc1) (slots + ms1) sz' I' X' Y' (pc + 3) lo (v.toList ++ st)) : zL C nL ad S cells slots sz I X Y pc lo st0 := by
  intro H locs ls h1 h2 h3
  have hts := hC.2.2.2.2.1
  have hR := hC.2.2.2.2.2.2.2.1
  have hpS := zpreS (args := .inr (.inr (some (b, j))) :: As) hC h1 h2
  obtain ⟨y1, y2, y3, y4⟩ := hy
  refine z_after hC h1 h2 h3 (va_runV (C := y.1.cls) (b := ad b j) (As := As.map (rv ad)) (rest := st.map (rv ad)) ⟨hC.1, hC.2.1, hC.2.2.1, hC.2.2.2.1, hts⟩ (hM (cl C) (cg C)) ⟨zpayB hC y1 hn (hts _ y2), hts _ y3, hts _ y4⟩ ⟨hpS.1, by rw [← hq]; exact zrecv hC h1 hs hc, hpS.2⟩ rfl (by rw [List.length_map]; exact hnp) h3.1 (by rw [hst]; simp [rv]) (lv_room (zwords hw)) d ⟨Nat.le_trans hroom.1 hR.2.2.1, Nat.le_trans hroom.2 hR.2.2.2⟩) kk
theorem z_callI {As : List zV} {v : Option zV} {st0 : List zV} {b j : Nat} (hC : zOk bt own nL ret N mc ms C ad) (d : decode bt pc = .ok (.invokespecial idx, 3)) (hy : zIni own idx y np) (hM : zCall y n mc1 ms1 (.inr (.inr (some (b, j))) :: As) v ad S I X Y sz S' I' X' Y' sz') (hst : st0 = As.reverse ++ .inr (.inr (some (b, j))) :: st) (hnp : As.length = np) (hn : n + 1 ≤ N) (hw : (st.map (fun v => zcat (some (some v)))).sum ≤ 8) (hroom : cells + mc1 ≤ mc ∧ slots + ms1 ≤ ms)
    (kk : zL C nL ad S' (cells + mc1) (slots + ms1) sz' I' X' Y' (pc + 3) lo (v.toList ++ st)) : zL C nL ad S cells slots sz I X Y pc lo st0 := by
  intro H locs ls h1 h2 h3
  have hts := hC.2.2.2.2.1
  have hR := hC.2.2.2.2.2.2.2.1
  obtain ⟨y1, y2, y3, y4, y5⟩ := hy
  obtain ⟨ym, yb, yl, yr⟩ := y
  cases y5
  exact z_after hC h1 h2 h3 (va_runI (b := ad b j) (As := As.map (rv ad)) (rest := st.map (rv ad)) ⟨hC.1, hC.2.1, hC.2.2.1, hC.2.2.2.1, hts⟩ (hM (cl C) (cg C)) ⟨zpayB hC y1 hn (hts _ y2), y4, hts _ y3⟩ (zpreS (args := .inr (.inr (some (b, j))) :: As) hC h1 h2) rfl (by rw [List.length_map]; exact hnp) h3.1 (by rw [hst]; simp [rv]) (lv_room (zwords hw)) d ⟨Nat.le_trans hroom.1 hR.2.2.1, Nat.le_trans hroom.2 hR.2.2.2⟩) kk
end ZX
end
section
section ZM
variable {C : zC} {nL : Nat} {ad : zA} {S S' : zSh} {cells slots sz sz' : Nat} {I X I' X' : zI} {Y Y' : zY} {pc : Nat} {lo : List (Option zV)} {st : List zV}
variable {bt : ByteArray} {own : String} {ret : Option FieldType} {N mc ms : Nat}
/-! statics, strings -/
theorem zOld_of (hC : zOk bt own nL ret N mc ms C ad) : zOld ad (cA C) (cs C) (cs C).heap := hC.2.2.2.2.2.2.2.2.2.1
theorem z_gets (hC : zOk bt own nL ret N mc ms C ad) {q : zV} {cn n ds : String} {idx : Nat} (hZ : va_Z cn n ds (rv ad q) (cA C) (cs C) (cs C).heap) (hl : Cond.fieldLink own idx cn n ds ∈ zTb) (d : decode bt pc = .ok (.getstatic idx, 3)) (kk : zL C nL ad S cells slots sz I X Y (pc + 3) lo (q :: st)) : zL C nL ad S cells slots sz I X Y pc lo st :=
  fun H locs ls h1 h2 h3 => va_gets hC.1 hC.2.1 hZ h2 hC.2.2.2.1 (hC.2.2.2.2.1 _ hl) (fun _ h => h) d (kk H locs ls h1 h2 h3)
/-- NUMBERS (0), LEAST (1), MOST (2) -/
theorem z_getA (hC : zOk bt own nL ret N mc ms C ad) {j idx : Nat} (hj : j < 3) (hl : Cond.fieldLink own idx "OnTheRoof$Road" (zAn j) "[I" ∈ zTb) (d : decode bt pc = .ok (.getstatic idx, 3)) (kk : zL C nL ad S cells slots sz I X Y (pc + 3) lo (.inr (.inr (some (4, j))) :: st)) : zL C nL ad S cells slots sz I X Y pc lo st :=
  z_gets hC (q := .inr (.inr (some (4, j)))) ((zOld_of hC).2.2.2.1 j hj).1 hl d kk
theorem z_aldA (hC : zOk bt own nL ret N mc ms C ad) {j : Nat} {i : Int32} (hj : j < 3) (hi : vp_in i (zAl j).length) (d : decode bt pc = .ok (.iaload, 1)) (kk : zL C nL ad S cells slots sz I X Y (pc + 1) lo (.inl ((zAl j).getD i.toNatClampNeg 0) :: st)) : zL C nL ad S cells slots sz I X Y pc lo (.inl i :: .inr (.inr (some (4, j))) :: st) :=
  fun H locs ls h1 h2 h3 => va_ti hC.1 hC.2.1 ((zOld_of hC).2.2.2.1 j hj).2 h2 hi rfl d (kk H locs ls h1 h2 h3)
theorem z_lenA (hC : zOk bt own nL ret N mc ms C ad) {j : Nat} {v : Int32} (hj : j < 3) (hv : Int32.ofNat (zAl j).length = v) (d : decode bt pc = .ok (.arraylength, 1)) (kk : zL C nL ad S cells slots sz I X Y (pc + 1) lo (.inl v :: st)) : zL C nL ad S cells slots sz I X Y pc lo (.inr (.inr (some (4, j))) :: st) :=
  fun H locs ls h1 h2 h3 => va_tlen hC.1 hC.2.1 ((zOld_of hC).2.2.2.1 j hj).2 h2 hv d (kk H locs ls h1 h2 h3)
theorem z_getC (hC : zOk bt own nL ret N mc ms C ad) {idx : Nat} (hl : Cond.fieldLink own idx "java/lang/String" "COMPACT_STRINGS" "Z" ∈ zTb) (d : decode bt pc = .ok (.getstatic idx, 3)) (kk : zL C nL ad S cells slots sz I X Y (pc + 3) lo (.inl 1 :: st)) : zL C nL ad S cells slots sz I X Y pc lo st :=
  z_gets hC (q := .inl 1) (zOld_of hC).2.2.1 hl d kk
theorem z_getF (hC : zOk bt own nL ret N mc ms C ad) {idx : Nat} (hl : Cond.fieldLink own idx "jdk/internal/util/Preconditions" "SIOOBE_FORMATTER" zFmt ∈ zTb) (d : decode bt pc = .ok (.getstatic idx, 3)) (kk : ∀ q : Option (Nat × Nat), zL C nL ad S cells slots sz I X Y (pc + 3) lo (.inr (.inr q) :: st)) : zL C nL ad S cells slots sz I X Y pc lo st := by
  rcases (zOld_of hC).2.2.2.2.2.1 with h | h
  · exact z_gets hC (q := .inr (.inr none)) h hl d (kk none)
  · exact z_gets hC (q := .inr (.inr (some (7, 0)))) h hl d (kk (some (7, 0)))
theorem z_ldcS (hC : zOk bt own nL ret N mc ms C ad) {j idx : Nat} {tx : String} (hj : (own, idx, tx, j) ∈ zRefs) (d : decode bt pc = .ok (.ldc idx, 2)) (kk : zL C nL ad S cells slots sz I X Y (pc + 2) lo (.inr (.inr (some (5, j))) :: st)) : zL C nL ad S cells slots sz I X Y pc lo st :=
  fun H locs ls h1 h2 h3 => va_ldcS hC.1 hC.2.1 hC.2.2.2.1 ((zOld_of hC).2.1 _ hj) d (kk H locs ls h1 h2 h3)
theorem z_strV (hC : zOk bt own nL ret N mc ms C ad) {j idx : Nat} (hj : j < 8) (hl : Cond.fieldLink own idx "java/lang/String" "value" "[B" ∈ zTb) (d : decode bt pc = .ok (.getfield idx, 3)) (kk : zL C nL ad S cells slots sz I X Y (pc + 3) lo (.inr (.inr (some (6, j))) :: st)) : zL C nL ad S cells slots sz I X Y pc lo (.inr (.inr (some (5, j))) :: st) :=
  fun H locs ls h1 h2 h3 => vk_getf hC.1 hC.2.1 ((zOld_of hC).1.1 j hj).2.2.1 h2 hC.2.2.2.1 (hC.2.2.2.2.1 _ hl) (fun _ h => h) d (kk H locs ls h1 h2 h3)
theorem z_strC (hC : zOk bt own nL ret N mc ms C ad) {j idx : Nat} (hj : j < 8) (hl : Cond.fieldLink own idx "java/lang/String" "coder" "B" ∈ zTb) (d : decode bt pc = .ok (.getfield idx, 3)) (kk : zL C nL ad S cells slots sz I X Y (pc + 3) lo (.inl 0 :: st)) : zL C nL ad S cells slots sz I X Y pc lo (.inr (.inr (some (5, j))) :: st) :=
  fun H locs ls h1 h2 h3 => vk_getf hC.1 hC.2.1 ((zOld_of hC).1.1 j hj).2.1 h2 hC.2.2.2.1 (hC.2.2.2.2.1 _ hl) (fun _ h => h) d (kk H locs ls h1 h2 h3)
theorem z_bald (hC : zOk bt own nL ret N mc ms C ad) {j : Nat} {i : Int32} (hj : j < 8) (hi : vp_in i (zSl.getD j 0)) (d : decode bt pc = .ok (.baload, 1)) (kk : zL C nL ad S cells slots sz I X Y (pc + 1) lo (.inl ((zSw.getD j []).getD i.toNatClampNeg 0) :: st)) : zL C nL ad S cells slots sz I X Y pc lo (.inl i :: .inr (.inr (some (6, j))) :: st) :=
  fun H locs ls h1 h2 h3 => va_tb hC.1 hC.2.1 ((zOld_of hC).1.1 j hj).2.2.2 h2 hi rfl d (kk H locs ls h1 h2 h3)
theorem z_blen (hC : zOk bt own nL ret N mc ms C ad) {j : Nat} {v : Int32} (hj : j < 8) (hv : Int32.ofNat (zSl.getD j 0) = v) (d : decode bt pc = .ok (.arraylength, 1)) (kk : zL C nL ad S cells slots sz I X Y (pc + 1) lo (.inl v :: st)) : zL C nL ad S cells slots sz I X Y pc lo (.inr (.inr (some (6, j))) :: st) :=
  fun H locs ls h1 h2 h3 => va_tlen hC.1 hC.2.1 ((zOld_of hC).1.1 j hj).2.2.2 h2 hv d (kk H locs ls h1 h2 h3)
theorem z_callT {As : List zV} {v : Option zV} {st0 : List zV} {y : zM} {np idx n mc1 ms1 j : Nat} (hC : zOk bt own nL ret N mc ms C ad) (d : decode bt pc = .ok (.invokevirtual idx, 3)) (hy : zVir own idx y np) (hM : zCall y n mc1 ms1 (.inr (.inr (some (5, j))) :: As) v ad S I X Y sz S' I' X' Y' sz') (hj : j < 8) (hq : y.1.cls = "java/lang/String") (hst : st0 = As.reverse ++ .inr (.inr (some (5, j))) :: st) (hnp : As.length = np) (hn : n + 1 ≤ N) (hw : (st.map (fun v => zcat (some (some v)))).sum ≤ 8) (hroom : cells + mc1 ≤ mc ∧ slots + ms1 ≤ ms)
    (kk : zL C nL ad S' (cells + mc1) (slots + ms1) sz' I' X' Y' (pc + 3) lo (v.toList ++ st)) : zL C nL ad S cells slots sz I X Y pc lo st0 := by
  intro H locs ls h1 h2 h3
  have hts := hC.2.2.2.2.1
  have hR := hC.2.2.2.2.2.2.2.1
  have hpS := zpreS (args := .inr (.inr (some (5, j))) :: As) hC h1 h2
  obtain ⟨y1, y2, y3, y4⟩ := hy
  refine z_after hC h1 h2 h3 (va_runV (C := y.1.cls) (b := ad 5 j) (As := As.map (rv ad)) (rest := st.map (rv ad)) ⟨hC.1, hC.2.1, hC.2.2.1, hC.2.2.2.1, hts⟩ (hM (cl C) (cg C)) ⟨zpayB hC y1 hn (hts _ y2), hts _ y3, hts _ y4⟩ ⟨hpS.1, by rw [hq]; exact vk_recv (zOld_of hC).1 hj h2, hpS.2⟩ rfl (by rw [List.length_map]; exact hnp) h3.1 (by rw [hst]; simp [rv]) (lv_room (zwords hw)) d ⟨Nat.le_trans hroom.1 hR.2.2.1, Nat.le_trans hroom.2 hR.2.2.2⟩) kk
/-! Math -/
theorem z_max (hC : zOk bt own nL ret N mc ms C ad) {idx : Nat} {x y : Int32} (d : decode bt pc = .ok (.invokestatic idx, 3)) (hl : Cond.methodLink own idx Lib.Math.max.name ∈ zTb) (g : Cond.static Lib.Math.max.name ∈ zTb ∧ Cond.initialized "java/lang/Math" ∈ zTb ∧ Cond.code Lib.Math.max.name Lib.Math.max.code 2 (some .int) ∈ zTb) (hN : 1 ≤ N) (hw : (st.map (fun v => zcat (some (some v)))).sum ≤ 8) (hc : cells ≤ mc) (hs : slots ≤ ms)
    (kk : zL C nL ad S cells slots sz I X Y (pc + 3) lo (.inl (if x < y then y else x) :: st)) : zL C nL ad S cells slots sz I X Y pc lo (.inl y :: .inl x :: st) := by
  intro H locs ls h1 h2 h3
  have hts := hC.2.2.2.2.1
  have hR := hC.2.2.2.2.2.2.2.1
  have h8 := zwords (ad := ad) hw
  exact va_mmax hC.1 hC.2.1 (by rw [hC.2.2.1]; exact h3.1.symm) hC.2.2.2.1 (hts _ hl) (hts _ g.1) (hts _ g.2.1) (hts _ g.2.2) (Nat.le_trans hN hR.1) (by have := hR.2.1; omega) (Nat.le_trans hc hR.2.2.1) (Nat.le_trans hs hR.2.2.2) d (kk H locs ls h1 h2 h3)
theorem z_min (hC : zOk bt own nL ret N mc ms C ad) {idx : Nat} {x y : Int32} (d : decode bt pc = .ok (.invokestatic idx, 3)) (hl : Cond.methodLink own idx Lib.Math.min.name ∈ zTb) (g : Cond.static Lib.Math.min.name ∈ zTb ∧ Cond.initialized "java/lang/Math" ∈ zTb ∧ Cond.code Lib.Math.min.name Lib.Math.min.code 2 (some .int) ∈ zTb) (hN : 1 ≤ N) (hw : (st.map (fun v => zcat (some (some v)))).sum ≤ 8) (hc : cells ≤ mc) (hs : slots ≤ ms)
    (kk : zL C nL ad S cells slots sz I X Y (pc + 3) lo (.inl (if y < x then y else x) :: st)) : zL C nL ad S cells slots sz I X Y pc lo (.inl y :: .inl x :: st) := by
  intro H locs ls h1 h2 h3
  have hts := hC.2.2.2.2.1
  have hR := hC.2.2.2.2.2.2.2.1
  have h8 := zwords (ad := ad) hw
  exact va_mmin hC.1 hC.2.1 (by rw [hC.2.2.1]; exact h3.1.symm) hC.2.2.2.1 (hts _ hl) (hts _ g.1) (hts _ g.2.1) (hts _ g.2.2) (Nat.le_trans hN hR.1) (by have := hR.2.1; omega) (Nat.le_trans hc hR.2.2.1) (Nat.le_trans hs hR.2.2.2) d (kk H locs ls h1 h2 h3)
theorem z_abs (hC : zOk bt own nL ret N mc ms C ad) {idx : Nat} {x : Int32} (d : decode bt pc = .ok (.invokestatic idx, 3)) (hl : Cond.methodLink own idx Lib.Math.abs.name ∈ zTb) (g : Cond.static Lib.Math.abs.name ∈ zTb ∧ Cond.initialized "java/lang/Math" ∈ zTb ∧ Cond.code Lib.Math.abs.name Lib.Math.abs.code 1 (some .int) ∈ zTb) (hN : 1 ≤ N) (hw : (st.map (fun v => zcat (some (some v)))).sum ≤ 8) (hc : cells ≤ mc) (hs : slots ≤ ms)
    (kk : zL C nL ad S cells slots sz I X Y (pc + 3) lo (.inl (if 0 ≤ x then x else 0 - x) :: st)) : zL C nL ad S cells slots sz I X Y pc lo (.inl x :: st) := by
  intro H locs ls h1 h2 h3
  have hts := hC.2.2.2.2.1
  have hR := hC.2.2.2.2.2.2.2.1
  have h8 := zwords (ad := ad) hw
  exact va_mabs hC.1 hC.2.1 (by rw [hC.2.2.1]; exact h3.1.symm) hC.2.2.2.1 (hts _ hl) (hts _ g.1) (hts _ g.2.1) (hts _ g.2.2) (Nat.le_trans hN hR.1) (by have := hR.2.1; omega) (Nat.le_trans hc hR.2.2.1) (Nat.le_trans hs hR.2.2.2) d (kk H locs ls h1 h2 h3)
/-! System.arraycopy -/
def zcpW (own : String) (idx : Nat) : Prop := Cond.methodLink own idx arraycopyName ∈ zTb ∧ Cond.native arraycopyName ∈ zTb ∧ Cond.static arraycopyName ∈ zTb ∧ Cond.initialized "java/lang/System" ∈ zTb
theorem znn {z : Int32} (hz : ¬ z < 0) : z.toInt = (z.toNatClampNeg : Int) := by
  have hz0 : (0 : Int) ≤ z.toInt := by
    have := Int32.not_lt.mp hz
    simpa using Int32.le_iff_toInt_le.mp this
  show z.toInt = ((z.toInt.toNat : Nat) : Int)
  omega
/-- the memory behind a copy -/
def up2 {α : Type} (f : Nat → Nat → Nat → α) (b k : Nat) (g : Nat → α) : Nat → Nat → Nat → α := fun b' k' => if b' = b ∧ k' = k then g else f b' k'
theorem up2_eq {α : Type} (f : Nat → Nat → Nat → α) (b k : Nat) (g : Nat → α) : up2 f b k g b k = g := by simp [up2]
theorem up2_ne {α : Type} {f : Nat → Nat → Nat → α} {b k b' k' : Nat} {g : Nat → α} (h : ¬ (b' = b ∧ k' = k)) : up2 f b k g b' k' = f b' k' := by simp [up2, h]
theorem zafter_copy {H : Heap} {locs : List Loc} {a : Nat} {z : Cell} {A : Nat → Prop} {H0 : Heap} (hl : a < H.size) (hS : va_S A H0 H locs) (ha : A a) : (H.setIfInBounds a z)[a]? = some z ∧ (∀ q : Nat, q ≠ a → (H.setIfInBounds a z)[q]? = H[q]?) ∧ (H.setIfInBounds a z).size = H.size ∧ ∀ L : List Loc, (∀ q ∈ L, q.base = a) → va_S A H0 (H.setIfInBounds a z) (locs ++ L) := by
  have oq : ∀ q : Nat, q ≠ a → (H.setIfInBounds a z)[q]? = H[q]? := fun q hq => by simp [Array.getElem?_setIfInBounds, Ne.symm hq]
  refine ⟨by simp [Array.getElem?_setIfInBounds, hl], oq, by simp, fun L hL => ⟨by simp; exact hS.1, fun q g1 g2 => ?_, fun q hq => ?_⟩⟩
  · rw [oq q (fun e => g2 (by rw [e]; exact ha))]
    exact hS.2.1 q g1 g2
  · rcases List.mem_append.mp hq with h | h
    · exact hS.2.2 q h
    · rw [hL q h]
      exact ha
end ZM
end
section
section ZCP
variable {C : zC} {nL : Nat} {ad : zA} {S : zSh} {cells slots sz : Nat} {I X : zI} {Y : zY} {pc : Nat} {lo : List (Option zV)} {st : List zV}
variable {bt : ByteArray} {own : String} {ret : Option FieldType} {N mc ms : Nat}
theorem z_copyi (hC : zOk bt own nL ret N mc ms C ad) {idx b1 j1 n1 b2 j2 n2 : Nat} {sp dp n : Int32} (d : decode bt pc = .ok (.invokestatic idx, 3)) (hl : zcpW own idx) (hs1 : S b1 j1 = some (.inl (0, n1))) (hs2 : S b2 j2 = some (.inl (0, n2))) (g1 : ¬ sp < 0) (g2 : ¬ dp < 0) (g3 : ¬ n < 0) (g4 : sp.toNatClampNeg + n.toNatClampNeg ≤ n1) (g5 : dp.toNatClampNeg + n.toNatClampNeg ≤ n2) (hN : 1 ≤ N) (hst : st = [])
    (kk : zL C nL ad S cells slots sz I (up2 X b2 j2 (va_cpy (X b1 j1) (X b2 j2) sp.toNatClampNeg dp.toNatClampNeg n.toNatClampNeg)) Y (pc + 3) lo st) : zL C nL ad S cells slots sz I X Y pc lo (.inl n :: .inl dp :: .inr (.inr (some (b2, j2))) :: .inl sp :: .inr (.inr (some (b1, j1))) :: st) := by
  subst hst
  intro H locs ls h1 h2 h3 T hT Xs
  have hts := hC.2.2.2.2.1
  have hR := hC.2.2.2.2.2.2.2.1
  have hK := hC.2.2.2.2.2.2.2.2.1
  have hc0 : H[ad b1 j1]? = some (vp_cell ((cg C).2 0) (n1, .inl (X b1 j1))) := (h1.1.1 b1 j1 _ hs1).1
  have hc1 : H[ad b2 j2]? = some (vp_cell ((cg C).2 0) (n2, .inl (X b2 j2))) := (h1.1.1 b2 j2 _ hs2).1
  have hl1 : ad b2 j2 < H.size := (Array.getElem?_eq_some_iff.mp hc1).1
  obtain ⟨-, k0, hk0, cm0, hkk0⟩ := (hK.2 0 _ rfl).1 n1 (fun j => .int (X b1 j1 j))
  obtain ⟨-, k1, hk1, cm1, hkk1⟩ := (hK.2 0 _ rfl).1 n2 (fun j => .int (X b2 j2 j))
  have ea : ∀ (m : Nat) (f : Nat → Int32), (vp_cell ((cg C).2 0) (m, .inl f)).slots.size = m := fun m f => by rw [vp_cell_i, arrV_size]
  have ln : 11 + (nativeFrameWords "java/lang/System" "arraycopy" 5) ≤ 36 := by decide +kernel
  obtain ⟨vm', X', step⟩ := Xs.arraycopy hC.1 hC.2.2.2.1 (hts _ hl.1) (hts _ hl.2.1) (hts _ hl.2.2.1) (hts _ hl.2.2.2) (src := ad b1 j1) (dst := ad b2 j2) (cs := vp_cell ((cg C).2 0) (n1, .inl (X b1 j1))) (cd := vp_cell ((cg C).2 0) (n2, .inl (X b2 j2))) (srcPos := sp) (destPos := dp) (n := n) (by rw [hT]; exact hc0) (by rw [hT]; exact hc1)
    (fun _ h => by cases h) (fun _ h => by cases h) (fun h => by cases h) (fun h => by cases h) hk0 hk1 hkk0 hkk1 (by simp [refKind]) g1 g2 g3 (by rw [znn g1, znn g3, ea]; omega) (by rw [znn g2, znn g3, ea]; omega)
    (fun vm₁ _ i hi => by
      have e : (vp_cell ((cg C).2 0) (n1, .inl (X b1 j1))).slots.getD (sp.toNatClampNeg + i) .null = .int (X b1 j1 (sp.toNatClampNeg + i)) := by
        rw [vp_cell_i, Array.getD_eq_getD_getElem?, arrV_read _ _ (by omega)]; rfl
      exact ⟨by rw [e]; rfl, by rw [e]; exact trivial⟩)
    (g := F0 (cm C) pc ls (List.map (rv ad) (.inl n :: .inl dp :: .inr (.inr (some (b2, j2))) :: .inl sp :: .inr (.inr (some (b1, j1))) :: []))) rfl (by rw [hC.2.2.1]; exact h3.1) (rest := []) rfl (by rw [hC.2.1]; exact d) (Nat.le_trans hN hR.1) (by show 2 * 0 + 0 + _ ≤ _; have := hR.2.1; omega)
  have e1 := va_copied (fun z => .int z) ((cg C).2 0) ((cg C).2 0) (X b1 j1) (X b2 j2) (n0 := n1) (n1 := n2) (sp := sp.toNatClampNeg) (dp := dp.toNatClampNeg) (n := n.toNatClampNeg) g4
  have e1 : copied (vp_cell ((cg C).2 0) (n1, .inl (X b1 j1))) (vp_cell ((cg C).2 0) (n2, .inl (X b2 j2))) sp dp n = vp_cell ((cg C).2 0) (n2, .inl (va_cpy (X b1 j1) (X b2 j2) sp.toNatClampNeg dp.toNatClampNeg n.toNatClampNeg)) := e1
  rw [e1] at X' step
  obtain ⟨w1, w2, w3, w4⟩ := zafter_copy (z := vp_cell ((cg C).2 0) (n2, .inl (va_cpy (X b1 j1) (X b2 j2) sp.toNatClampNeg dp.toNatClampNeg n.toNatClampNeg))) hl1 h2 (h1.1.1 b2 j2 _ hs2).2
  have hnew : zW (cg C) (cA C) ad S I (up2 X b2 j2 (va_cpy (X b1 j1) (X b2 j2) sp.toNatClampNeg dp.toNatClampNeg n.toNatClampNeg)) Y (H.setIfInBounds (ad b2 j2) (vp_cell ((cg C).2 0) (n2, .inl (va_cpy (X b1 j1) (X b2 j2) sp.toNatClampNeg dp.toNatClampNeg n.toNatClampNeg)))) := by
    refine h1.1.put hs2 (fun _ _ _ _ => rfl) (fun b' k' i e => by rw [up2_ne e]) (fun _ _ _ _ => rfl) ?_ w2
    show (H.setIfInBounds _ _)[ad b2 j2]? = some (vp_cell _ (n2, .inl (up2 X b2 j2 _ b2 j2)))
    rw [w1, up2_eq]
  obtain ⟨t, a1, b3⟩ := kk _ _ ls ⟨hnew, by rw [w3]; exact h1.2⟩ (w4 _ (fun q hq => by obtain ⟨z, -, hz⟩ := List.mem_map.mp hq; rw [← hz])) h3 ((T.setVm vm').setCell (ad b2 j2) (vp_cell ((cg C).2 0) (n2, .inl (va_cpy (X b1 j1) (X b2 j2) sp.toNatClampNeg dp.toNatClampNeg n.toNatClampNeg)))) (by rw [← hT]; rfl) X'
  exact ⟨t, step t a1, b3⟩
theorem z_copyl (hC : zOk bt own nL ret N mc ms C ad) {idx b1 j1 n1 b2 j2 n2 : Nat} {sp dp n : Int32} (d : decode bt pc = .ok (.invokestatic idx, 3)) (hl : zcpW own idx) (hs1 : S b1 j1 = some (.inl (1, n1))) (hs2 : S b2 j2 = some (.inl (1, n2))) (g1 : ¬ sp < 0) (g2 : ¬ dp < 0) (g3 : ¬ n < 0) (g4 : sp.toNatClampNeg + n.toNatClampNeg ≤ n1) (g5 : dp.toNatClampNeg + n.toNatClampNeg ≤ n2) (hN : 1 ≤ N) (hst : st = [])
    (kk : zL C nL ad S cells slots sz I X (up2 Y b2 j2 (va_cpy (Y b1 j1) (Y b2 j2) sp.toNatClampNeg dp.toNatClampNeg n.toNatClampNeg)) (pc + 3) lo st) : zL C nL ad S cells slots sz I X Y pc lo (.inl n :: .inl dp :: .inr (.inr (some (b2, j2))) :: .inl sp :: .inr (.inr (some (b1, j1))) :: st) := by
  subst hst
  intro H locs ls h1 h2 h3 T hT Xs
  have hts := hC.2.2.2.2.1
  have hR := hC.2.2.2.2.2.2.2.1
  have hK := hC.2.2.2.2.2.2.2.2.1
  have hc0 : H[ad b1 j1]? = some (vp_cell ((cg C).2 1) (n1, .inr (.inl (Y b1 j1)))) := (h1.1.1 b1 j1 _ hs1).1
  have hc1 : H[ad b2 j2]? = some (vp_cell ((cg C).2 1) (n2, .inr (.inl (Y b2 j2)))) := (h1.1.1 b2 j2 _ hs2).1
  have hl1 : ad b2 j2 < H.size := (Array.getElem?_eq_some_iff.mp hc1).1
  obtain ⟨-, k0, hk0, cm0, hkk0⟩ := (hK.2 1 _ rfl).1 n1 (fun j => .long (Y b1 j1 j))
  obtain ⟨-, k1, hk1, cm1, hkk1⟩ := (hK.2 1 _ rfl).1 n2 (fun j => .long (Y b2 j2 j))
  have ea : ∀ (m : Nat) (f : Nat → Int64), (vp_cell ((cg C).2 1) (m, .inr (.inl f))).slots.size = m := fun m f => by rw [vp_cell_l, arrV_size]
  have ln : 11 + (nativeFrameWords "java/lang/System" "arraycopy" 5) ≤ 36 := by decide +kernel
  obtain ⟨vm', X', step⟩ := Xs.arraycopy hC.1 hC.2.2.2.1 (hts _ hl.1) (hts _ hl.2.1) (hts _ hl.2.2.1) (hts _ hl.2.2.2) (src := ad b1 j1) (dst := ad b2 j2) (cs := vp_cell ((cg C).2 1) (n1, .inr (.inl (Y b1 j1)))) (cd := vp_cell ((cg C).2 1) (n2, .inr (.inl (Y b2 j2)))) (srcPos := sp) (destPos := dp) (n := n) (by rw [hT]; exact hc0) (by rw [hT]; exact hc1)
    (fun _ h => by cases h) (fun _ h => by cases h) (fun h => by cases h) (fun h => by cases h) hk0 hk1 hkk0 hkk1 (by simp [refKind]) g1 g2 g3 (by rw [znn g1, znn g3, ea]; omega) (by rw [znn g2, znn g3, ea]; omega)
    (fun vm₁ _ i hi => by
      have e : (vp_cell ((cg C).2 1) (n1, .inr (.inl (Y b1 j1)))).slots.getD (sp.toNatClampNeg + i) .null = .long (Y b1 j1 (sp.toNatClampNeg + i)) := by
        rw [vp_cell_l, Array.getD_eq_getD_getElem?, arrV_read _ _ (by omega)]; rfl
      exact ⟨by rw [e]; rfl, by rw [e]; exact trivial⟩)
    (g := F0 (cm C) pc ls (List.map (rv ad) (.inl n :: .inl dp :: .inr (.inr (some (b2, j2))) :: .inl sp :: .inr (.inr (some (b1, j1))) :: []))) rfl (by rw [hC.2.2.1]; exact h3.1) (rest := []) rfl (by rw [hC.2.1]; exact d) (Nat.le_trans hN hR.1) (by show 2 * 0 + 0 + _ ≤ _; have := hR.2.1; omega)
  have e1 := va_copied (fun z => .long z) ((cg C).2 1) ((cg C).2 1) (Y b1 j1) (Y b2 j2) (n0 := n1) (n1 := n2) (sp := sp.toNatClampNeg) (dp := dp.toNatClampNeg) (n := n.toNatClampNeg) g4
  have e1 : copied (vp_cell ((cg C).2 1) (n1, .inr (.inl (Y b1 j1)))) (vp_cell ((cg C).2 1) (n2, .inr (.inl (Y b2 j2)))) sp dp n = vp_cell ((cg C).2 1) (n2, .inr (.inl (va_cpy (Y b1 j1) (Y b2 j2) sp.toNatClampNeg dp.toNatClampNeg n.toNatClampNeg))) := e1
  rw [e1] at X' step
  obtain ⟨w1, w2, w3, w4⟩ := zafter_copy (z := vp_cell ((cg C).2 1) (n2, .inr (.inl (va_cpy (Y b1 j1) (Y b2 j2) sp.toNatClampNeg dp.toNatClampNeg n.toNatClampNeg)))) hl1 h2 (h1.1.1 b2 j2 _ hs2).2
  have hnew : zW (cg C) (cA C) ad S I X (up2 Y b2 j2 (va_cpy (Y b1 j1) (Y b2 j2) sp.toNatClampNeg dp.toNatClampNeg n.toNatClampNeg)) (H.setIfInBounds (ad b2 j2) (vp_cell ((cg C).2 1) (n2, .inr (.inl (va_cpy (Y b1 j1) (Y b2 j2) sp.toNatClampNeg dp.toNatClampNeg n.toNatClampNeg))))) := by
    refine h1.1.put hs2 (fun _ _ _ _ => rfl) (fun _ _ _ _ => rfl) (fun b' k' i e => by rw [up2_ne e]) ?_ w2
    show (H.setIfInBounds _ _)[ad b2 j2]? = some (vp_cell _ (n2, .inr (.inl (up2 Y b2 j2 _ b2 j2))))
    rw [w1, up2_eq]
  obtain ⟨t, a1, b3⟩ := kk _ _ ls ⟨hnew, by rw [w3]; exact h1.2⟩ (w4 _ (fun q hq => by obtain ⟨z, -, hz⟩ := List.mem_map.mp hq; rw [← hz])) h3 ((T.setVm vm').setCell (ad b2 j2) (vp_cell ((cg C).2 1) (n2, .inr (.inl (va_cpy (Y b1 j1) (Y b2 j2) sp.toNatClampNeg dp.toNatClampNeg n.toNatClampNeg))))) (by rw [← hT]; rfl) X'
  exact ⟨t, step t a1, b3⟩
end ZCP
end
