-- ===== PART A: goes FIRST, ahead of the names: the tables' words, and 'selects' of the private methods out of them =====
/-- a private method of a class that the tables say can be made, by its rows of tables_1 -/
def lw_okq (q : MethodName × Nat) : Prop := (q.1.cls ≠ "java/lang/invoke/MethodHandle" ∧ q.1.cls ≠ "java/lang/invoke/VarHandle") ∧ Cond.instantiable q.1.cls q.2 ∈ tables_1 ∧ Cond.privateMethod q.1 ∈ tables_1 ∧ Cond.instanceMethod q.1 ∈ tables_1
theorem lw_p0 : lw_okq (⟨"TwoCards", "areTwo", "(II)Z"⟩, 11) := ⟨⟨by decide +kernel, by decide +kernel⟩, List.mem_of_getElem? (i := 21) (by decide +kernel), List.mem_of_getElem? (i := 371) (by decide +kernel), List.mem_of_getElem? (i := 372) (by decide +kernel)⟩
theorem lw_p1 : lw_okq (⟨"TwoCards$Tokens", "add", "(III)V"⟩, 4) := ⟨⟨by decide +kernel, by decide +kernel⟩, List.mem_of_getElem? (i := 103) (by decide +kernel), List.mem_of_getElem? (i := 474) (by decide +kernel), List.mem_of_getElem? (i := 475) (by decide +kernel)⟩
theorem lw_p2 : lw_okq (⟨"TwoCards$Reader", "readHead", "()Z"⟩, 6) := ⟨⟨by decide +kernel, by decide +kernel⟩, List.mem_of_getElem? (i := 97) (by decide +kernel), List.mem_of_getElem? (i := 494) (by decide +kernel), List.mem_of_getElem? (i := 495) (by decide +kernel)⟩
theorem lw_p3 : lw_okq (⟨"TwoCards$Reader", "wordFrom", "(II)I"⟩, 6) := ⟨⟨by decide +kernel, by decide +kernel⟩, List.mem_of_getElem? (i := 97) (by decide +kernel), List.mem_of_getElem? (i := 498) (by decide +kernel), List.mem_of_getElem? (i := 499) (by decide +kernel)⟩
theorem lw_p4 : lw_okq (⟨"TwoCards$Reader", "fail", "(I)Z"⟩, 6) := ⟨⟨by decide +kernel, by decide +kernel⟩, List.mem_of_getElem? (i := 97) (by decide +kernel), List.mem_of_getElem? (i := 506) (by decide +kernel), List.mem_of_getElem? (i := 507) (by decide +kernel)⟩
theorem lw_p5 : lw_okq (⟨"TwoCards$Reader", "readWeight", "(III)Z"⟩, 6) := ⟨⟨by decide +kernel, by decide +kernel⟩, List.mem_of_getElem? (i := 97) (by decide +kernel), List.mem_of_getElem? (i := 518) (by decide +kernel), List.mem_of_getElem? (i := 519) (by decide +kernel)⟩
theorem lw_p6 : lw_okq (⟨"TwoCards$Reader", "takesNumber", "(II)Z"⟩, 6) := ⟨⟨by decide +kernel, by decide +kernel⟩, List.mem_of_getElem? (i := 97) (by decide +kernel), List.mem_of_getElem? (i := 526) (by decide +kernel), List.mem_of_getElem? (i := 527) (by decide +kernel)⟩
theorem lw_p7 : lw_okq (⟨"TwoCards$Reader", "takes", "(I)Z"⟩, 6) := ⟨⟨by decide +kernel, by decide +kernel⟩, List.mem_of_getElem? (i := 97) (by decide +kernel), List.mem_of_getElem? (i := 535) (by decide +kernel), List.mem_of_getElem? (i := 536) (by decide +kernel)⟩
theorem lw_p8 : lw_okq (⟨"TwoCards$Reader", "readMeasure", "(III)Z"⟩, 6) := ⟨⟨by decide +kernel, by decide +kernel⟩, List.mem_of_getElem? (i := 97) (by decide +kernel), List.mem_of_getElem? (i := 539) (by decide +kernel), List.mem_of_getElem? (i := 540) (by decide +kernel)⟩
theorem lw_p9 : lw_okq (⟨"TwoCards$Reader", "readTest", "(I)Z"⟩, 6) := ⟨⟨by decide +kernel, by decide +kernel⟩, List.mem_of_getElem? (i := 97) (by decide +kernel), List.mem_of_getElem? (i := 547) (by decide +kernel), List.mem_of_getElem? (i := 548) (by decide +kernel)⟩
theorem lw_p10 : lw_okq (⟨"TwoCards$Reader", "readPart", "(I)Z"⟩, 6) := ⟨⟨by decide +kernel, by decide +kernel⟩, List.mem_of_getElem? (i := 97) (by decide +kernel), List.mem_of_getElem? (i := 551) (by decide +kernel), List.mem_of_getElem? (i := 552) (by decide +kernel)⟩
theorem lw_p11 : lw_okq (⟨"TwoCards$Reader", "readFact", "(I)Z"⟩, 6) := ⟨⟨by decide +kernel, by decide +kernel⟩, List.mem_of_getElem? (i := 97) (by decide +kernel), List.mem_of_getElem? (i := 555) (by decide +kernel), List.mem_of_getElem? (i := 556) (by decide +kernel)⟩
theorem lw_p12 : lw_okq (⟨"TwoCards$Reader", "readSum", "()Z"⟩, 6) := ⟨⟨by decide +kernel, by decide +kernel⟩, List.mem_of_getElem? (i := 97) (by decide +kernel), List.mem_of_getElem? (i := 559) (by decide +kernel), List.mem_of_getElem? (i := 560) (by decide +kernel)⟩
theorem lw_p13 : lw_okq (⟨"TwoCards$Reader", "readValue", "()Z"⟩, 6) := ⟨⟨by decide +kernel, by decide +kernel⟩, List.mem_of_getElem? (i := 97) (by decide +kernel), List.mem_of_getElem? (i := 563) (by decide +kernel), List.mem_of_getElem? (i := 564) (by decide +kernel)⟩
theorem lw_p14 : lw_okq (⟨"TwoCards$Reader", "takesPart", "()Z"⟩, 6) := ⟨⟨by decide +kernel, by decide +kernel⟩, List.mem_of_getElem? (i := 97) (by decide +kernel), List.mem_of_getElem? (i := 567) (by decide +kernel), List.mem_of_getElem? (i := 568) (by decide +kernel)⟩
theorem lw_p15 : lw_okq (⟨"TwoCards", "hasCode", "(I)Z"⟩, 11) := ⟨⟨by decide +kernel, by decide +kernel⟩, List.mem_of_getElem? (i := 21) (by decide +kernel), List.mem_of_getElem? (i := 583) (by decide +kernel), List.mem_of_getElem? (i := 584) (by decide +kernel)⟩
def lw_privs_1 : List (MethodName × Nat) := [(⟨"TwoCards", "areTwo", "(II)Z"⟩, 11), (⟨"TwoCards$Tokens", "add", "(III)V"⟩, 4), (⟨"TwoCards$Reader", "readHead", "()Z"⟩, 6), (⟨"TwoCards$Reader", "wordFrom", "(II)I"⟩, 6), (⟨"TwoCards$Reader", "fail", "(I)Z"⟩, 6), (⟨"TwoCards$Reader", "readWeight", "(III)Z"⟩, 6), (⟨"TwoCards$Reader", "takesNumber", "(II)Z"⟩, 6), (⟨"TwoCards$Reader", "takes", "(I)Z"⟩, 6), (⟨"TwoCards$Reader", "readMeasure", "(III)Z"⟩, 6), (⟨"TwoCards$Reader", "readTest", "(I)Z"⟩, 6), (⟨"TwoCards$Reader", "readPart", "(I)Z"⟩, 6), (⟨"TwoCards$Reader", "readFact", "(I)Z"⟩, 6), (⟨"TwoCards$Reader", "readSum", "()Z"⟩, 6), (⟨"TwoCards$Reader", "readValue", "()Z"⟩, 6), (⟨"TwoCards$Reader", "takesPart", "()Z"⟩, 6), (⟨"TwoCards", "hasCode", "(I)Z"⟩, 11)]
theorem lw_r1 : ∀ q ∈ lw_privs_1, lw_okq q := List.forall_mem_cons.mpr ⟨lw_p0, List.forall_mem_cons.mpr ⟨lw_p1, List.forall_mem_cons.mpr ⟨lw_p2, List.forall_mem_cons.mpr ⟨lw_p3, List.forall_mem_cons.mpr ⟨lw_p4, List.forall_mem_cons.mpr ⟨lw_p5, List.forall_mem_cons.mpr ⟨lw_p6, List.forall_mem_cons.mpr ⟨lw_p7, List.forall_mem_cons.mpr ⟨lw_p8, List.forall_mem_cons.mpr ⟨lw_p9, List.forall_mem_cons.mpr ⟨lw_p10, List.forall_mem_cons.mpr ⟨lw_p11, List.forall_mem_cons.mpr ⟨lw_p12, List.forall_mem_cons.mpr ⟨lw_p13, List.forall_mem_cons.mpr ⟨lw_p14, List.forall_mem_cons.mpr ⟨lw_p15, fun _ h => absurd h List.not_mem_nil⟩⟩⟩⟩⟩⟩⟩⟩⟩⟩⟩⟩⟩⟩⟩⟩
theorem lw_p16 : lw_okq (⟨"TwoCards", "codeAt", "(I)LTwoCards$Code;"⟩, 11) := ⟨⟨by decide +kernel, by decide +kernel⟩, List.mem_of_getElem? (i := 21) (by decide +kernel), List.mem_of_getElem? (i := 595) (by decide +kernel), List.mem_of_getElem? (i := 596) (by decide +kernel)⟩
theorem lw_p17 : lw_okq (⟨"TwoCards$Code", "slotOf", "(I)I"⟩, 12) := ⟨⟨by decide +kernel, by decide +kernel⟩, List.mem_of_getElem? (i := 46) (by decide +kernel), List.mem_of_getElem? (i := 628) (by decide +kernel), List.mem_of_getElem? (i := 629) (by decide +kernel)⟩
theorem lw_p18 : lw_okq (⟨"TwoCards$Code", "holds", "(ILTwoCards$Sight;)Z"⟩, 12) := ⟨⟨by decide +kernel, by decide +kernel⟩, List.mem_of_getElem? (i := 46) (by decide +kernel), List.mem_of_getElem? (i := 632) (by decide +kernel), List.mem_of_getElem? (i := 633) (by decide +kernel)⟩
theorem lw_p19 : lw_okq (⟨"TwoCards", "study", "(LTwoCards$Quarrel;)V"⟩, 11) := ⟨⟨by decide +kernel, by decide +kernel⟩, List.mem_of_getElem? (i := 21) (by decide +kernel), List.mem_of_getElem? (i := 664) (by decide +kernel), List.mem_of_getElem? (i := 665) (by decide +kernel)⟩
theorem lw_p20 : lw_okq (⟨"TwoCards$Affair", "codeOf", "(I)LTwoCards$Code;"⟩, 9) := ⟨⟨by decide +kernel, by decide +kernel⟩, List.mem_of_getElem? (i := 235) (by decide +kernel), List.mem_of_getElem? (i := 734) (by decide +kernel), List.mem_of_getElem? (i := 735) (by decide +kernel)⟩
theorem lw_p21 : lw_okq (⟨"TwoCards$Affair", "look", "(I)I"⟩, 9) := ⟨⟨by decide +kernel, by decide +kernel⟩, List.mem_of_getElem? (i := 235) (by decide +kernel), List.mem_of_getElem? (i := 746) (by decide +kernel), List.mem_of_getElem? (i := 747) (by decide +kernel)⟩
theorem lw_p22 : lw_okq (⟨"TwoCards$Affair", "weighed", "(ILTwoCards$Code;)I"⟩, 9) := ⟨⟨by decide +kernel, by decide +kernel⟩, List.mem_of_getElem? (i := 235) (by decide +kernel), List.mem_of_getElem? (i := 761) (by decide +kernel), List.mem_of_getElem? (i := 762) (by decide +kernel)⟩
theorem lw_p23 : lw_okq (⟨"TwoCards$Affair", "lessOf", "(II)I"⟩, 9) := ⟨⟨by decide +kernel, by decide +kernel⟩, List.mem_of_getElem? (i := 235) (by decide +kernel), List.mem_of_getElem? (i := 775) (by decide +kernel), List.mem_of_getElem? (i := 776) (by decide +kernel)⟩
theorem lw_p24 : lw_okq (⟨"TwoCards$Walk", "reach", "(IJI)V"⟩, 9) := ⟨⟨by decide +kernel, by decide +kernel⟩, List.mem_of_getElem? (i := 287) (by decide +kernel), List.mem_of_getElem? (i := 801) (by decide +kernel), List.mem_of_getElem? (i := 802) (by decide +kernel)⟩
theorem lw_p25 : lw_okq (⟨"TwoCards$Walk", "arrive", "(IJI)V"⟩, 9) := ⟨⟨by decide +kernel, by decide +kernel⟩, List.mem_of_getElem? (i := 287) (by decide +kernel), List.mem_of_getElem? (i := 805) (by decide +kernel), List.mem_of_getElem? (i := 806) (by decide +kernel)⟩
theorem lw_p26 : lw_okq (⟨"TwoCards$Walk", "spread", "(LTwoCards$Affair;I)V"⟩, 9) := ⟨⟨by decide +kernel, by decide +kernel⟩, List.mem_of_getElem? (i := 287) (by decide +kernel), List.mem_of_getElem? (i := 810) (by decide +kernel), List.mem_of_getElem? (i := 811) (by decide +kernel)⟩
theorem lw_p27 : lw_okq (⟨"TwoCards$Game", "settle", "(LTwoCards$Affair;II)I"⟩, 2) := ⟨⟨by decide +kernel, by decide +kernel⟩, List.mem_of_getElem? (i := 274) (by decide +kernel), List.mem_of_getElem? (i := 865) (by decide +kernel), List.mem_of_getElem? (i := 866) (by decide +kernel)⟩
theorem lw_p28 : lw_okq (⟨"TwoCardsModel", "areTwo", "(II)Z"⟩, 46) := ⟨⟨by decide +kernel, by decide +kernel⟩, List.mem_of_getElem? (i := 1004) (by decide +kernel), List.mem_of_getElem? (i := 1163) (by decide +kernel), List.mem_of_getElem? (i := 1164) (by decide +kernel)⟩
theorem lw_p29 : lw_okq (⟨"TwoCardsModel", "isPerson", "(I)Z"⟩, 46) := ⟨⟨by decide +kernel, by decide +kernel⟩, List.mem_of_getElem? (i := 1004) (by decide +kernel), List.mem_of_getElem? (i := 1167) (by decide +kernel), List.mem_of_getElem? (i := 1168) (by decide +kernel)⟩
theorem lw_p30 : lw_okq (⟨"TwoCardsModel", "four", "(I)V"⟩, 46) := ⟨⟨by decide +kernel, by decide +kernel⟩, List.mem_of_getElem? (i := 1004) (by decide +kernel), List.mem_of_getElem? (i := 1175) (by decide +kernel), List.mem_of_getElem? (i := 1176) (by decide +kernel)⟩
theorem lw_p31 : lw_okq (⟨"TwoCardsModel", "clauseHere", "()Z"⟩, 46) := ⟨⟨by decide +kernel, by decide +kernel⟩, List.mem_of_getElem? (i := 1004) (by decide +kernel), List.mem_of_getElem? (i := 1187) (by decide +kernel), List.mem_of_getElem? (i := 1188) (by decide +kernel)⟩
def lw_privs_2 : List (MethodName × Nat) := [(⟨"TwoCards", "codeAt", "(I)LTwoCards$Code;"⟩, 11), (⟨"TwoCards$Code", "slotOf", "(I)I"⟩, 12), (⟨"TwoCards$Code", "holds", "(ILTwoCards$Sight;)Z"⟩, 12), (⟨"TwoCards", "study", "(LTwoCards$Quarrel;)V"⟩, 11), (⟨"TwoCards$Affair", "codeOf", "(I)LTwoCards$Code;"⟩, 9), (⟨"TwoCards$Affair", "look", "(I)I"⟩, 9), (⟨"TwoCards$Affair", "weighed", "(ILTwoCards$Code;)I"⟩, 9), (⟨"TwoCards$Affair", "lessOf", "(II)I"⟩, 9), (⟨"TwoCards$Walk", "reach", "(IJI)V"⟩, 9), (⟨"TwoCards$Walk", "arrive", "(IJI)V"⟩, 9), (⟨"TwoCards$Walk", "spread", "(LTwoCards$Affair;I)V"⟩, 9), (⟨"TwoCards$Game", "settle", "(LTwoCards$Affair;II)I"⟩, 2), (⟨"TwoCardsModel", "areTwo", "(II)Z"⟩, 46), (⟨"TwoCardsModel", "isPerson", "(I)Z"⟩, 46), (⟨"TwoCardsModel", "four", "(I)V"⟩, 46), (⟨"TwoCardsModel", "clauseHere", "()Z"⟩, 46)]
theorem lw_r2 : ∀ q ∈ lw_privs_2, lw_okq q := List.forall_mem_cons.mpr ⟨lw_p16, List.forall_mem_cons.mpr ⟨lw_p17, List.forall_mem_cons.mpr ⟨lw_p18, List.forall_mem_cons.mpr ⟨lw_p19, List.forall_mem_cons.mpr ⟨lw_p20, List.forall_mem_cons.mpr ⟨lw_p21, List.forall_mem_cons.mpr ⟨lw_p22, List.forall_mem_cons.mpr ⟨lw_p23, List.forall_mem_cons.mpr ⟨lw_p24, List.forall_mem_cons.mpr ⟨lw_p25, List.forall_mem_cons.mpr ⟨lw_p26, List.forall_mem_cons.mpr ⟨lw_p27, List.forall_mem_cons.mpr ⟨lw_p28, List.forall_mem_cons.mpr ⟨lw_p29, List.forall_mem_cons.mpr ⟨lw_p30, List.forall_mem_cons.mpr ⟨lw_p31, fun _ h => absurd h List.not_mem_nil⟩⟩⟩⟩⟩⟩⟩⟩⟩⟩⟩⟩⟩⟩⟩⟩
theorem lw_p32 : lw_okq (⟨"TwoCardsModel", "see", "()I"⟩, 46) := ⟨⟨by decide +kernel, by decide +kernel⟩, List.mem_of_getElem? (i := 1004) (by decide +kernel), List.mem_of_getElem? (i := 1191) (by decide +kernel), List.mem_of_getElem? (i := 1192) (by decide +kernel)⟩
theorem lw_p33 : lw_okq (⟨"TwoCardsModel", "isWord", "(J)Z"⟩, 46) := ⟨⟨by decide +kernel, by decide +kernel⟩, List.mem_of_getElem? (i := 1004) (by decide +kernel), List.mem_of_getElem? (i := 1196) (by decide +kernel), List.mem_of_getElem? (i := 1197) (by decide +kernel)⟩
theorem lw_p34 : lw_okq (⟨"TwoCardsModel", "isLetter", "(I)Z"⟩, 46) := ⟨⟨by decide +kernel, by decide +kernel⟩, List.mem_of_getElem? (i := 1004) (by decide +kernel), List.mem_of_getElem? (i := 1200) (by decide +kernel), List.mem_of_getElem? (i := 1201) (by decide +kernel)⟩
theorem lw_p35 : lw_okq (⟨"TwoCardsModel", "fails", "(II)Z"⟩, 46) := ⟨⟨by decide +kernel, by decide +kernel⟩, List.mem_of_getElem? (i := 1004) (by decide +kernel), List.mem_of_getElem? (i := 1209) (by decide +kernel), List.mem_of_getElem? (i := 1210) (by decide +kernel)⟩
theorem lw_p36 : lw_okq (⟨"TwoCardsModel", "kinded", "(I)Z"⟩, 46) := ⟨⟨by decide +kernel, by decide +kernel⟩, List.mem_of_getElem? (i := 1004) (by decide +kernel), List.mem_of_getElem? (i := 1213) (by decide +kernel), List.mem_of_getElem? (i := 1214) (by decide +kernel)⟩
theorem lw_p37 : lw_okq (⟨"TwoCardsModel", "passWord", "()V"⟩, 46) := ⟨⟨by decide +kernel, by decide +kernel⟩, List.mem_of_getElem? (i := 1004) (by decide +kernel), List.mem_of_getElem? (i := 1217) (by decide +kernel), List.mem_of_getElem? (i := 1218) (by decide +kernel)⟩
theorem lw_p38 : lw_okq (⟨"TwoCardsModel", "kindHere", "()I"⟩, 46) := ⟨⟨by decide +kernel, by decide +kernel⟩, List.mem_of_getElem? (i := 1004) (by decide +kernel), List.mem_of_getElem? (i := 1221) (by decide +kernel), List.mem_of_getElem? (i := 1222) (by decide +kernel)⟩
theorem lw_p39 : lw_okq (⟨"TwoCardsModel", "meansHere", "()I"⟩, 46) := ⟨⟨by decide +kernel, by decide +kernel⟩, List.mem_of_getElem? (i := 1004) (by decide +kernel), List.mem_of_getElem? (i := 1229) (by decide +kernel), List.mem_of_getElem? (i := 1230) (by decide +kernel)⟩
theorem lw_p40 : lw_okq (⟨"TwoCardsModel", "number", "(II)Z"⟩, 46) := ⟨⟨by decide +kernel, by decide +kernel⟩, List.mem_of_getElem? (i := 1004) (by decide +kernel), List.mem_of_getElem? (i := 1237) (by decide +kernel), List.mem_of_getElem? (i := 1238) (by decide +kernel)⟩
theorem lw_p41 : lw_okq (⟨"TwoCardsModel", "isDigit", "(I)Z"⟩, 46) := ⟨⟨by decide +kernel, by decide +kernel⟩, List.mem_of_getElem? (i := 1004) (by decide +kernel), List.mem_of_getElem? (i := 1241) (by decide +kernel), List.mem_of_getElem? (i := 1242) (by decide +kernel)⟩
theorem lw_p42 : lw_okq (⟨"TwoCardsModel", "takesWord", "(J)Z"⟩, 46) := ⟨⟨by decide +kernel, by decide +kernel⟩, List.mem_of_getElem? (i := 1004) (by decide +kernel), List.mem_of_getElem? (i := 1246) (by decide +kernel), List.mem_of_getElem? (i := 1247) (by decide +kernel)⟩
theorem lw_p43 : lw_okq (⟨"TwoCardsModel", "weighed", "(IIIZ)Z"⟩, 46) := ⟨⟨by decide +kernel, by decide +kernel⟩, List.mem_of_getElem? (i := 1004) (by decide +kernel), List.mem_of_getElem? (i := 1250) (by decide +kernel), List.mem_of_getElem? (i := 1251) (by decide +kernel)⟩
theorem lw_p44 : lw_okq (⟨"TwoCardsModel", "test", "()Z"⟩, 46) := ⟨⟨by decide +kernel, by decide +kernel⟩, List.mem_of_getElem? (i := 1004) (by decide +kernel), List.mem_of_getElem? (i := 1254) (by decide +kernel), List.mem_of_getElem? (i := 1255) (by decide +kernel)⟩
theorem lw_p45 : lw_okq (⟨"TwoCardsModel", "fact", "()Z"⟩, 46) := ⟨⟨by decide +kernel, by decide +kernel⟩, List.mem_of_getElem? (i := 1004) (by decide +kernel), List.mem_of_getElem? (i := 1258) (by decide +kernel), List.mem_of_getElem? (i := 1259) (by decide +kernel)⟩
theorem lw_p46 : lw_okq (⟨"TwoCardsModel", "opens", "(I)Z"⟩, 46) := ⟨⟨by decide +kernel, by decide +kernel⟩, List.mem_of_getElem? (i := 1004) (by decide +kernel), List.mem_of_getElem? (i := 1263) (by decide +kernel), List.mem_of_getElem? (i := 1264) (by decide +kernel)⟩
theorem lw_p47 : lw_okq (⟨"TwoCardsModel", "compare", "()Z"⟩, 46) := ⟨⟨by decide +kernel, by decide +kernel⟩, List.mem_of_getElem? (i := 1004) (by decide +kernel), List.mem_of_getElem? (i := 1267) (by decide +kernel), List.mem_of_getElem? (i := 1268) (by decide +kernel)⟩
def lw_privs_3 : List (MethodName × Nat) := [(⟨"TwoCardsModel", "see", "()I"⟩, 46), (⟨"TwoCardsModel", "isWord", "(J)Z"⟩, 46), (⟨"TwoCardsModel", "isLetter", "(I)Z"⟩, 46), (⟨"TwoCardsModel", "fails", "(II)Z"⟩, 46), (⟨"TwoCardsModel", "kinded", "(I)Z"⟩, 46), (⟨"TwoCardsModel", "passWord", "()V"⟩, 46), (⟨"TwoCardsModel", "kindHere", "()I"⟩, 46), (⟨"TwoCardsModel", "meansHere", "()I"⟩, 46), (⟨"TwoCardsModel", "number", "(II)Z"⟩, 46), (⟨"TwoCardsModel", "isDigit", "(I)Z"⟩, 46), (⟨"TwoCardsModel", "takesWord", "(J)Z"⟩, 46), (⟨"TwoCardsModel", "weighed", "(IIIZ)Z"⟩, 46), (⟨"TwoCardsModel", "test", "()Z"⟩, 46), (⟨"TwoCardsModel", "fact", "()Z"⟩, 46), (⟨"TwoCardsModel", "opens", "(I)Z"⟩, 46), (⟨"TwoCardsModel", "compare", "()Z"⟩, 46)]
theorem lw_r3 : ∀ q ∈ lw_privs_3, lw_okq q := List.forall_mem_cons.mpr ⟨lw_p32, List.forall_mem_cons.mpr ⟨lw_p33, List.forall_mem_cons.mpr ⟨lw_p34, List.forall_mem_cons.mpr ⟨lw_p35, List.forall_mem_cons.mpr ⟨lw_p36, List.forall_mem_cons.mpr ⟨lw_p37, List.forall_mem_cons.mpr ⟨lw_p38, List.forall_mem_cons.mpr ⟨lw_p39, List.forall_mem_cons.mpr ⟨lw_p40, List.forall_mem_cons.mpr ⟨lw_p41, List.forall_mem_cons.mpr ⟨lw_p42, List.forall_mem_cons.mpr ⟨lw_p43, List.forall_mem_cons.mpr ⟨lw_p44, List.forall_mem_cons.mpr ⟨lw_p45, List.forall_mem_cons.mpr ⟨lw_p46, List.forall_mem_cons.mpr ⟨lw_p47, fun _ h => absurd h List.not_mem_nil⟩⟩⟩⟩⟩⟩⟩⟩⟩⟩⟩⟩⟩⟩⟩⟩
theorem lw_p48 : lw_okq (⟨"TwoCardsModel", "sum", "()Z"⟩, 46) := ⟨⟨by decide +kernel, by decide +kernel⟩, List.mem_of_getElem? (i := 1004) (by decide +kernel), List.mem_of_getElem? (i := 1271) (by decide +kernel), List.mem_of_getElem? (i := 1272) (by decide +kernel)⟩
theorem lw_p49 : lw_okq (⟨"TwoCardsModel", "value", "()Z"⟩, 46) := ⟨⟨by decide +kernel, by decide +kernel⟩, List.mem_of_getElem? (i := 1004) (by decide +kernel), List.mem_of_getElem? (i := 1275) (by decide +kernel), List.mem_of_getElem? (i := 1276) (by decide +kernel)⟩
theorem lw_p50 : lw_okq (⟨"TwoCardsModel", "makes", "(I)Z"⟩, 46) := ⟨⟨by decide +kernel, by decide +kernel⟩, List.mem_of_getElem? (i := 1004) (by decide +kernel), List.mem_of_getElem? (i := 1279) (by decide +kernel), List.mem_of_getElem? (i := 1280) (by decide +kernel)⟩
theorem lw_p51 : lw_okq (⟨"TwoCardsModel", "puts", "(II)V"⟩, 46) := ⟨⟨by decide +kernel, by decide +kernel⟩, List.mem_of_getElem? (i := 1004) (by decide +kernel), List.mem_of_getElem? (i := 1283) (by decide +kernel), List.mem_of_getElem? (i := 1284) (by decide +kernel)⟩
theorem lw_p52 : lw_okq (⟨"TwoCardsModel", "wordHere", "()I"⟩, 46) := ⟨⟨by decide +kernel, by decide +kernel⟩, List.mem_of_getElem? (i := 1004) (by decide +kernel), List.mem_of_getElem? (i := 1287) (by decide +kernel), List.mem_of_getElem? (i := 1288) (by decide +kernel)⟩
theorem lw_p53 : lw_okq (⟨"TwoCardsModel", "closes", "()V"⟩, 46) := ⟨⟨by decide +kernel, by decide +kernel⟩, List.mem_of_getElem? (i := 1004) (by decide +kernel), List.mem_of_getElem? (i := 1301) (by decide +kernel), List.mem_of_getElem? (i := 1302) (by decide +kernel)⟩
theorem lw_p54 : lw_okq (⟨"TwoCardsModel", "settles", "(I)V"⟩, 46) := ⟨⟨by decide +kernel, by decide +kernel⟩, List.mem_of_getElem? (i := 1004) (by decide +kernel), List.mem_of_getElem? (i := 1305) (by decide +kernel), List.mem_of_getElem? (i := 1306) (by decide +kernel)⟩
theorem lw_p55 : lw_okq (⟨"TwoCardsModel", "isInside", "()Z"⟩, 46) := ⟨⟨by decide +kernel, by decide +kernel⟩, List.mem_of_getElem? (i := 1004) (by decide +kernel), List.mem_of_getElem? (i := 1312) (by decide +kernel), List.mem_of_getElem? (i := 1313) (by decide +kernel)⟩
theorem lw_p56 : lw_okq (⟨"TwoCardsModel", "sets", "([IIII)Z"⟩, 46) := ⟨⟨by decide +kernel, by decide +kernel⟩, List.mem_of_getElem? (i := 1004) (by decide +kernel), List.mem_of_getElem? (i := 1318) (by decide +kernel), List.mem_of_getElem? (i := 1319) (by decide +kernel)⟩
theorem lw_p57 : lw_okq (⟨"TwoCardsModel", "isCode", "(I)Z"⟩, 46) := ⟨⟨by decide +kernel, by decide +kernel⟩, List.mem_of_getElem? (i := 1004) (by decide +kernel), List.mem_of_getElem? (i := 1326) (by decide +kernel), List.mem_of_getElem? (i := 1327) (by decide +kernel)⟩
theorem lw_p58 : lw_okq (⟨"TwoCardsModel", "words", "(IIIIII)V"⟩, 46) := ⟨⟨by decide +kernel, by decide +kernel⟩, List.mem_of_getElem? (i := 1004) (by decide +kernel), List.mem_of_getElem? (i := 1341) (by decide +kernel), List.mem_of_getElem? (i := 1342) (by decide +kernel)⟩
theorem lw_p59 : lw_okq (⟨"TwoCardsModel", "degree", "(II)I"⟩, 46) := ⟨⟨by decide +kernel, by decide +kernel⟩, List.mem_of_getElem? (i := 1004) (by decide +kernel), List.mem_of_getElem? (i := 1345) (by decide +kernel), List.mem_of_getElem? (i := 1346) (by decide +kernel)⟩
theorem lw_p60 : lw_okq (⟨"TwoCardsModel", "weigh", "(III)I"⟩, 46) := ⟨⟨by decide +kernel, by decide +kernel⟩, List.mem_of_getElem? (i := 1004) (by decide +kernel), List.mem_of_getElem? (i := 1349) (by decide +kernel), List.mem_of_getElem? (i := 1350) (by decide +kernel)⟩
theorem lw_p61 : lw_okq (⟨"TwoCardsModel", "isTrue", "(III)Z"⟩, 46) := ⟨⟨by decide +kernel, by decide +kernel⟩, List.mem_of_getElem? (i := 1004) (by decide +kernel), List.mem_of_getElem? (i := 1353) (by decide +kernel), List.mem_of_getElem? (i := 1354) (by decide +kernel)⟩
theorem lw_p62 : lw_okq (⟨"TwoCardsModel", "push", "(I)V"⟩, 46) := ⟨⟨by decide +kernel, by decide +kernel⟩, List.mem_of_getElem? (i := 1004) (by decide +kernel), List.mem_of_getElem? (i := 1357) (by decide +kernel), List.mem_of_getElem? (i := 1358) (by decide +kernel)⟩
theorem lw_p63 : lw_okq (⟨"TwoCardsModel", "pop", "()I"⟩, 46) := ⟨⟨by decide +kernel, by decide +kernel⟩, List.mem_of_getElem? (i := 1004) (by decide +kernel), List.mem_of_getElem? (i := 1361) (by decide +kernel), List.mem_of_getElem? (i := 1362) (by decide +kernel)⟩
def lw_privs_4 : List (MethodName × Nat) := [(⟨"TwoCardsModel", "sum", "()Z"⟩, 46), (⟨"TwoCardsModel", "value", "()Z"⟩, 46), (⟨"TwoCardsModel", "makes", "(I)Z"⟩, 46), (⟨"TwoCardsModel", "puts", "(II)V"⟩, 46), (⟨"TwoCardsModel", "wordHere", "()I"⟩, 46), (⟨"TwoCardsModel", "closes", "()V"⟩, 46), (⟨"TwoCardsModel", "settles", "(I)V"⟩, 46), (⟨"TwoCardsModel", "isInside", "()Z"⟩, 46), (⟨"TwoCardsModel", "sets", "([IIII)Z"⟩, 46), (⟨"TwoCardsModel", "isCode", "(I)Z"⟩, 46), (⟨"TwoCardsModel", "words", "(IIIIII)V"⟩, 46), (⟨"TwoCardsModel", "degree", "(II)I"⟩, 46), (⟨"TwoCardsModel", "weigh", "(III)I"⟩, 46), (⟨"TwoCardsModel", "isTrue", "(III)Z"⟩, 46), (⟨"TwoCardsModel", "push", "(I)V"⟩, 46), (⟨"TwoCardsModel", "pop", "()I"⟩, 46)]
theorem lw_r4 : ∀ q ∈ lw_privs_4, lw_okq q := List.forall_mem_cons.mpr ⟨lw_p48, List.forall_mem_cons.mpr ⟨lw_p49, List.forall_mem_cons.mpr ⟨lw_p50, List.forall_mem_cons.mpr ⟨lw_p51, List.forall_mem_cons.mpr ⟨lw_p52, List.forall_mem_cons.mpr ⟨lw_p53, List.forall_mem_cons.mpr ⟨lw_p54, List.forall_mem_cons.mpr ⟨lw_p55, List.forall_mem_cons.mpr ⟨lw_p56, List.forall_mem_cons.mpr ⟨lw_p57, List.forall_mem_cons.mpr ⟨lw_p58, List.forall_mem_cons.mpr ⟨lw_p59, List.forall_mem_cons.mpr ⟨lw_p60, List.forall_mem_cons.mpr ⟨lw_p61, List.forall_mem_cons.mpr ⟨lw_p62, List.forall_mem_cons.mpr ⟨lw_p63, fun _ h => absurd h List.not_mem_nil⟩⟩⟩⟩⟩⟩⟩⟩⟩⟩⟩⟩⟩⟩⟩⟩
theorem lw_p64 : lw_okq (⟨"TwoCardsModel", "takes", "(II)I"⟩, 46) := ⟨⟨by decide +kernel, by decide +kernel⟩, List.mem_of_getElem? (i := 1004) (by decide +kernel), List.mem_of_getElem? (i := 1368) (by decide +kernel), List.mem_of_getElem? (i := 1369) (by decide +kernel)⟩
theorem lw_p65 : lw_okq (⟨"TwoCardsModel", "mayRefuse", "(I)Z"⟩, 46) := ⟨⟨by decide +kernel, by decide +kernel⟩, List.mem_of_getElem? (i := 1004) (by decide +kernel), List.mem_of_getElem? (i := 1372) (by decide +kernel), List.mem_of_getElem? (i := 1373) (by decide +kernel)⟩
theorem lw_p66 : lw_okq (⟨"TwoCardsModel", "party", "(I)V"⟩, 46) := ⟨⟨by decide +kernel, by decide +kernel⟩, List.mem_of_getElem? (i := 1004) (by decide +kernel), List.mem_of_getElem? (i := 1380) (by decide +kernel), List.mem_of_getElem? (i := 1381) (by decide +kernel)⟩
theorem lw_p67 : lw_okq (⟨"TwoCardsModel", "meets", "(IIIII)V"⟩, 46) := ⟨⟨by decide +kernel, by decide +kernel⟩, List.mem_of_getElem? (i := 1004) (by decide +kernel), List.mem_of_getElem? (i := 1384) (by decide +kernel), List.mem_of_getElem? (i := 1385) (by decide +kernel)⟩
theorem lw_p68 : lw_okq (⟨"TwoCardsModel", "slightsFirst", "(IZ)V"⟩, 46) := ⟨⟨by decide +kernel, by decide +kernel⟩, List.mem_of_getElem? (i := 1004) (by decide +kernel), List.mem_of_getElem? (i := 1388) (by decide +kernel), List.mem_of_getElem? (i := 1389) (by decide +kernel)⟩
theorem lw_p69 : lw_okq (⟨"TwoCardsModel", "spoken", "()V"⟩, 46) := ⟨⟨by decide +kernel, by decide +kernel⟩, List.mem_of_getElem? (i := 1004) (by decide +kernel), List.mem_of_getElem? (i := 1392) (by decide +kernel), List.mem_of_getElem? (i := 1393) (by decide +kernel)⟩
theorem lw_p70 : lw_okq (⟨"TwoCardsModel", "isPeace", "()Z"⟩, 46) := ⟨⟨by decide +kernel, by decide +kernel⟩, List.mem_of_getElem? (i := 1004) (by decide +kernel), List.mem_of_getElem? (i := 1396) (by decide +kernel), List.mem_of_getElem? (i := 1397) (by decide +kernel)⟩
theorem lw_p71 : lw_okq (⟨"TwoCardsModel", "writes", "(II)V"⟩, 46) := ⟨⟨by decide +kernel, by decide +kernel⟩, List.mem_of_getElem? (i := 1004) (by decide +kernel), List.mem_of_getElem? (i := 1400) (by decide +kernel), List.mem_of_getElem? (i := 1401) (by decide +kernel)⟩
theorem lw_p72 : lw_okq (⟨"TwoCardsModel", "isQuarrel", "(I)Z"⟩, 46) := ⟨⟨by decide +kernel, by decide +kernel⟩, List.mem_of_getElem? (i := 1004) (by decide +kernel), List.mem_of_getElem? (i := 1408) (by decide +kernel), List.mem_of_getElem? (i := 1409) (by decide +kernel)⟩
theorem lw_p73 : lw_okq (⟨"TwoCardsModel", "loadLast", "(I)V"⟩, 46) := ⟨⟨by decide +kernel, by decide +kernel⟩, List.mem_of_getElem? (i := 1004) (by decide +kernel), List.mem_of_getElem? (i := 1413) (by decide +kernel), List.mem_of_getElem? (i := 1414) (by decide +kernel)⟩
theorem lw_p74 : lw_okq (⟨"TwoCardsModel", "load", "(II)V"⟩, 46) := ⟨⟨by decide +kernel, by decide +kernel⟩, List.mem_of_getElem? (i := 1004) (by decide +kernel), List.mem_of_getElem? (i := 1417) (by decide +kernel), List.mem_of_getElem? (i := 1418) (by decide +kernel)⟩
theorem lw_p75 : lw_okq (⟨"TwoCardsModel", "can", "(I)Z"⟩, 46) := ⟨⟨by decide +kernel, by decide +kernel⟩, List.mem_of_getElem? (i := 1004) (by decide +kernel), List.mem_of_getElem? (i := 1425) (by decide +kernel), List.mem_of_getElem? (i := 1426) (by decide +kernel)⟩
theorem lw_p76 : lw_okq (⟨"TwoCardsModel", "does", "(IZ)V"⟩, 46) := ⟨⟨by decide +kernel, by decide +kernel⟩, List.mem_of_getElem? (i := 1004) (by decide +kernel), List.mem_of_getElem? (i := 1434) (by decide +kernel), List.mem_of_getElem? (i := 1435) (by decide +kernel)⟩
theorem lw_p77 : lw_okq (⟨"TwoCardsModel", "worksFrom", "(II)I"⟩, 46) := ⟨⟨by decide +kernel, by decide +kernel⟩, List.mem_of_getElem? (i := 1004) (by decide +kernel), List.mem_of_getElem? (i := 1446) (by decide +kernel), List.mem_of_getElem? (i := 1447) (by decide +kernel)⟩
theorem lw_p78 : lw_okq (⟨"TwoCardsModel", "place", "()I"⟩, 46) := ⟨⟨by decide +kernel, by decide +kernel⟩, List.mem_of_getElem? (i := 1004) (by decide +kernel), List.mem_of_getElem? (i := 1450) (by decide +kernel), List.mem_of_getElem? (i := 1451) (by decide +kernel)⟩
theorem lw_p79 : lw_okq (⟨"TwoCardsModel", "forgets", "()V"⟩, 46) := ⟨⟨by decide +kernel, by decide +kernel⟩, List.mem_of_getElem? (i := 1004) (by decide +kernel), List.mem_of_getElem? (i := 1454) (by decide +kernel), List.mem_of_getElem? (i := 1455) (by decide +kernel)⟩
def lw_privs_5 : List (MethodName × Nat) := [(⟨"TwoCardsModel", "takes", "(II)I"⟩, 46), (⟨"TwoCardsModel", "mayRefuse", "(I)Z"⟩, 46), (⟨"TwoCardsModel", "party", "(I)V"⟩, 46), (⟨"TwoCardsModel", "meets", "(IIIII)V"⟩, 46), (⟨"TwoCardsModel", "slightsFirst", "(IZ)V"⟩, 46), (⟨"TwoCardsModel", "spoken", "()V"⟩, 46), (⟨"TwoCardsModel", "isPeace", "()Z"⟩, 46), (⟨"TwoCardsModel", "writes", "(II)V"⟩, 46), (⟨"TwoCardsModel", "isQuarrel", "(I)Z"⟩, 46), (⟨"TwoCardsModel", "loadLast", "(I)V"⟩, 46), (⟨"TwoCardsModel", "load", "(II)V"⟩, 46), (⟨"TwoCardsModel", "can", "(I)Z"⟩, 46), (⟨"TwoCardsModel", "does", "(IZ)V"⟩, 46), (⟨"TwoCardsModel", "worksFrom", "(II)I"⟩, 46), (⟨"TwoCardsModel", "place", "()I"⟩, 46), (⟨"TwoCardsModel", "forgets", "()V"⟩, 46)]
theorem lw_r5 : ∀ q ∈ lw_privs_5, lw_okq q := List.forall_mem_cons.mpr ⟨lw_p64, List.forall_mem_cons.mpr ⟨lw_p65, List.forall_mem_cons.mpr ⟨lw_p66, List.forall_mem_cons.mpr ⟨lw_p67, List.forall_mem_cons.mpr ⟨lw_p68, List.forall_mem_cons.mpr ⟨lw_p69, List.forall_mem_cons.mpr ⟨lw_p70, List.forall_mem_cons.mpr ⟨lw_p71, List.forall_mem_cons.mpr ⟨lw_p72, List.forall_mem_cons.mpr ⟨lw_p73, List.forall_mem_cons.mpr ⟨lw_p74, List.forall_mem_cons.mpr ⟨lw_p75, List.forall_mem_cons.mpr ⟨lw_p76, List.forall_mem_cons.mpr ⟨lw_p77, List.forall_mem_cons.mpr ⟨lw_p78, List.forall_mem_cons.mpr ⟨lw_p79, fun _ h => absurd h List.not_mem_nil⟩⟩⟩⟩⟩⟩⟩⟩⟩⟩⟩⟩⟩⟩⟩⟩
theorem lw_p80 : lw_okq (⟨"TwoCardsModel", "works", "(I)V"⟩, 46) := ⟨⟨by decide +kernel, by decide +kernel⟩, List.mem_of_getElem? (i := 1004) (by decide +kernel), List.mem_of_getElem? (i := 1458) (by decide +kernel), List.mem_of_getElem? (i := 1459) (by decide +kernel)⟩
theorem lw_p81 : lw_okq (⟨"TwoCardsModel", "spreads", "()V"⟩, 46) := ⟨⟨by decide +kernel, by decide +kernel⟩, List.mem_of_getElem? (i := 1004) (by decide +kernel), List.mem_of_getElem? (i := 1462) (by decide +kernel), List.mem_of_getElem? (i := 1463) (by decide +kernel)⟩
theorem lw_p82 : lw_okq (⟨"TwoCardsModel", "goTo", "(I)V"⟩, 46) := ⟨⟨by decide +kernel, by decide +kernel⟩, List.mem_of_getElem? (i := 1004) (by decide +kernel), List.mem_of_getElem? (i := 1466) (by decide +kernel), List.mem_of_getElem? (i := 1467) (by decide +kernel)⟩
theorem lw_p83 : lw_okq (⟨"TwoCardsModel", "outcome", "()I"⟩, 46) := ⟨⟨by decide +kernel, by decide +kernel⟩, List.mem_of_getElem? (i := 1004) (by decide +kernel), List.mem_of_getElem? (i := 1470) (by decide +kernel), List.mem_of_getElem? (i := 1471) (by decide +kernel)⟩
theorem lw_p84 : lw_okq (⟨"TwoCardsModel", "mustField", "()Z"⟩, 46) := ⟨⟨by decide +kernel, by decide +kernel⟩, List.mem_of_getElem? (i := 1004) (by decide +kernel), List.mem_of_getElem? (i := 1491) (by decide +kernel), List.mem_of_getElem? (i := 1492) (by decide +kernel)⟩
theorem lw_p85 : lw_okq (⟨"TwoCardsModel", "plays", "()I"⟩, 46) := ⟨⟨by decide +kernel, by decide +kernel⟩, List.mem_of_getElem? (i := 1004) (by decide +kernel), List.mem_of_getElem? (i := 1507) (by decide +kernel), List.mem_of_getElem? (i := 1508) (by decide +kernel)⟩
theorem lw_p86 : lw_okq (⟨"TwoCardsModel", "again", "(II)V"⟩, 46) := ⟨⟨by decide +kernel, by decide +kernel⟩, List.mem_of_getElem? (i := 1004) (by decide +kernel), List.mem_of_getElem? (i := 1515) (by decide +kernel), List.mem_of_getElem? (i := 1516) (by decide +kernel)⟩
theorem lw_p87 : lw_okq (⟨"TwoCardsModel", "waitsFor", "(I)I"⟩, 46) := ⟨⟨by decide +kernel, by decide +kernel⟩, List.mem_of_getElem? (i := 1004) (by decide +kernel), List.mem_of_getElem? (i := 1531) (by decide +kernel), List.mem_of_getElem? (i := 1532) (by decide +kernel)⟩
theorem lw_p88 : lw_okq (⟨"TwoCardsModel", "isOn", "(I)Z"⟩, 46) := ⟨⟨by decide +kernel, by decide +kernel⟩, List.mem_of_getElem? (i := 1004) (by decide +kernel), List.mem_of_getElem? (i := 1535) (by decide +kernel), List.mem_of_getElem? (i := 1536) (by decide +kernel)⟩
theorem lw_p89 : lw_okq (⟨"TwoCardsModel", "firstOf", "(I)I"⟩, 46) := ⟨⟨by decide +kernel, by decide +kernel⟩, List.mem_of_getElem? (i := 1004) (by decide +kernel), List.mem_of_getElem? (i := 1539) (by decide +kernel), List.mem_of_getElem? (i := 1540) (by decide +kernel)⟩
theorem lw_p90 : lw_okq (⟨"TwoCardsModel", "endsInField", "(IIIII)Z"⟩, 46) := ⟨⟨by decide +kernel, by decide +kernel⟩, List.mem_of_getElem? (i := 1004) (by decide +kernel), List.mem_of_getElem? (i := 1555) (by decide +kernel), List.mem_of_getElem? (i := 1556) (by decide +kernel)⟩
def lw_privs_6 : List (MethodName × Nat) := [(⟨"TwoCardsModel", "works", "(I)V"⟩, 46), (⟨"TwoCardsModel", "spreads", "()V"⟩, 46), (⟨"TwoCardsModel", "goTo", "(I)V"⟩, 46), (⟨"TwoCardsModel", "outcome", "()I"⟩, 46), (⟨"TwoCardsModel", "mustField", "()Z"⟩, 46), (⟨"TwoCardsModel", "plays", "()I"⟩, 46), (⟨"TwoCardsModel", "again", "(II)V"⟩, 46), (⟨"TwoCardsModel", "waitsFor", "(I)I"⟩, 46), (⟨"TwoCardsModel", "isOn", "(I)Z"⟩, 46), (⟨"TwoCardsModel", "firstOf", "(I)I"⟩, 46), (⟨"TwoCardsModel", "endsInField", "(IIIII)Z"⟩, 46)]
theorem lw_r6 : ∀ q ∈ lw_privs_6, lw_okq q := List.forall_mem_cons.mpr ⟨lw_p80, List.forall_mem_cons.mpr ⟨lw_p81, List.forall_mem_cons.mpr ⟨lw_p82, List.forall_mem_cons.mpr ⟨lw_p83, List.forall_mem_cons.mpr ⟨lw_p84, List.forall_mem_cons.mpr ⟨lw_p85, List.forall_mem_cons.mpr ⟨lw_p86, List.forall_mem_cons.mpr ⟨lw_p87, List.forall_mem_cons.mpr ⟨lw_p88, List.forall_mem_cons.mpr ⟨lw_p89, List.forall_mem_cons.mpr ⟨lw_p90, fun _ h => absurd h List.not_mem_nil⟩⟩⟩⟩⟩⟩⟩⟩⟩⟩⟩
def lw_privs : List (MethodName × Nat) := lw_privs_1 ++ (lw_privs_2 ++ (lw_privs_3 ++ (lw_privs_4 ++ (lw_privs_5 ++ (lw_privs_6)))))
def lw_tbl : List Cond := k2_sels lw_privs ++ tables_1
theorem lw_privs_ok : ∀ q ∈ lw_privs, lw_okq q := by
  show ∀ q ∈ lw_privs_1 ++ (lw_privs_2 ++ (lw_privs_3 ++ (lw_privs_4 ++ (lw_privs_5 ++ (lw_privs_6))))), lw_okq q
  exact List.forall_mem_append.mpr ⟨lw_r1, List.forall_mem_append.mpr ⟨lw_r2, List.forall_mem_append.mpr ⟨lw_r3, List.forall_mem_append.mpr ⟨lw_r4, List.forall_mem_append.mpr ⟨lw_r5, lw_r6⟩⟩⟩⟩⟩
/-! ===== BEGIN words of one list among another's, by their places ===== -/
theorem goodIn_r {big : List Cond} (ws : List Cond) (ps : List Nat) (hp : ws = ps.filterMap (fun i => big[i]?)) (h : ws.all goodWord = true) : GoodIn big ws := by
  intro w hw
  have h1 := List.all_eq_true.mp h w hw
  rw [hp] at hw
  obtain ⟨i, -, hi⟩ := List.mem_filterMap.mp hw
  have hm : w ∈ big := by first | exact List.mem_of_getElem? hi | exact List.getElem?_mem hi
  exact ⟨hm, good_of_word h1⟩
theorem goodIn_app {big a b : List Cond} (ha : GoodIn big a) (hb : GoodIn big b) : GoodIn big (a ++ b) := fun w h => (List.mem_append.mp h).elim (ha w) (hb w)
theorem goodIn_ca {big a b : List Cond} {c : Cond} (ha : GoodIn big (c :: a)) (hb : GoodIn big b) : GoodIn big (c :: (a ++ b)) := fun w h => (List.mem_cons.mp h).elim (fun e => ha w (List.mem_cons.mpr (Or.inl e))) (fun h => (List.mem_append.mp h).elim (fun h => ha w (List.mem_cons.mpr (Or.inr h))) (hb w))
theorem goodIn_sub {big ws : List Cond} (hm : ∀ w ∈ ws, w ∈ big) (h : ws.all goodWord = true) : GoodIn big ws := fun w hw => ⟨hm w hw, good_of_word (List.all_eq_true.mp h w hw)⟩
/-! ===== END ===== -/

/-! ===== BEGIN printed: names, fields, word lists, decode rows ===== -/
def RX0 : String := "TwoCards$Affair"
def TX0 : u_T := fun k => match k with
  | 0 => ("TwoCards$Affair", "ofFirst", "LTwoCards$Sight;", true)
  | 1 => ("TwoCards$Affair", "ofSecond", "LTwoCards$Sight;", true)
  | 2 => ("TwoCards$Affair", "firstCode", "LTwoCards$Code;", false)
  | 3 => ("TwoCards$Affair", "secondCode", "LTwoCards$Code;", false)
  | 4 => ("TwoCards$Affair", "hours", "I", false)
  | 5 => ("TwoCards$Affair", "raised", "I", false)
  | 6 => ("TwoCards$Affair", "seen", "[I", true)
  | 7 => ("TwoCards$Affair", "marks", "[I", true)
  | _ => ("TwoCards$Affair", "mark", "I", false)
def tyX0 : Nat → FieldType := fun k => match k with
  | 0 => .object "TwoCards$Sight"
  | 1 => .object "TwoCards$Sight"
  | 2 => .object "TwoCards$Code"
  | 3 => .object "TwoCards$Code"
  | 4 => .int
  | 5 => .int
  | 6 => .array .int
  | 7 => .array .int
  | _ => .int
abbrev wsX00 : List Cond := u_ws RX0 TX0 9
theorem nmX0 : ∀ a, a < 9 → ∀ b, b < 9 → a ≠ b → (TX0 a).2.1 ≠ (TX0 b).2.1 := by decide +kernel
theorem tyX0_ok : ∀ k, k < 9 → parseFieldDescriptor (TX0 k).2.2.1 = some (tyX0 k) := by decide +kernel
abbrev cX0_init : ByteArray := prog_2_method_1_code
def yX0_init : MethodName := ⟨RX0, "<init>", "()V"⟩
abbrev cX0_set : ByteArray := prog_2_method_2_code
def yX0_set : MethodName := ⟨RX0, "set", "(LTwoCards$Book;IIILTwoCards$Code;LTwoCards$Code;)V"⟩
abbrev cX0_open : ByteArray := prog_2_method_3_code
def yX0_open : MethodName := ⟨RX0, "open", "(IZ)I"⟩
abbrev cX0_allows : ByteArray := prog_2_method_4_code
def yX0_allows : MethodName := ⟨RX0, "allows", "(II)Z"⟩
abbrev cX0_after : ByteArray := prog_2_method_5_code
def yX0_after : MethodName := ⟨RX0, "after", "(IIZ)I"⟩
abbrev cX0_heard : ByteArray := prog_2_method_6_code
def yX0_heard : MethodName := ⟨RX0, "heard", "(LTwoCards$Quarrel;I)I"⟩
abbrev cX0_reckoned : ByteArray := prog_2_method_7_code
def yX0_reckoned : MethodName := ⟨RX0, "reckoned", "(LTwoCards$Quarrel;I)I"⟩
abbrev cX0_changed : ByteArray := prog_2_method_8_code
def yX0_changed : MethodName := ⟨RX0, "changed", "(III)I"⟩
abbrev cX0_lessOf : ByteArray := prog_2_method_9_code
def yX0_lessOf : MethodName := ⟨RX0, "lessOf", "(II)I"⟩
abbrev cX0_weighed : ByteArray := prog_2_method_10_code
def yX0_weighed : MethodName := ⟨RX0, "weighed", "(ILTwoCards$Code;)I"⟩
abbrev cX0_look : ByteArray := prog_2_method_11_code
def yX0_look : MethodName := ⟨RX0, "look", "(I)I"⟩
abbrev cX0_codeOf : ByteArray := prog_2_method_12_code
def yX0_codeOf : MethodName := ⟨RX0, "codeOf", "(I)LTwoCards$Code;"⟩
def RX1 : String := "TwoCards$Book"
def TX1 : u_T := fun k => match k with
  | 0 => ("TwoCards$Book", "ages", "[I", true)
  | 1 => ("TwoCards$Book", "ranks", "[I", true)
  | 2 => ("TwoCards$Book", "houses", "[I", true)
  | 3 => ("TwoCards$Book", "kept", "[I", true)
  | 4 => ("TwoCards$Book", "owing", "[I", true)
  | 5 => ("TwoCards$Book", "quarrels", "[LTwoCards$Quarrel;", true)
  | 6 => ("TwoCards$Book", "peopleCount", "I", false)
  | 7 => ("TwoCards$Book", "quarrelCount", "I", false)
  | _ => ("TwoCards$Book", "isMade", "Z", false)
def tyX1 : Nat → FieldType := fun k => match k with
  | 0 => .array .int
  | 1 => .array .int
  | 2 => .array .int
  | 3 => .array .int
  | 4 => .array .int
  | 5 => .array (.object "TwoCards$Quarrel")
  | 6 => .int
  | 7 => .int
  | _ => .boolean
abbrev wsX10 : List Cond := u_ws RX1 TX1 9
theorem nmX1 : ∀ a, a < 9 → ∀ b, b < 9 → a ≠ b → (TX1 a).2.1 ≠ (TX1 b).2.1 := by decide +kernel
theorem tyX1_ok : ∀ k, k < 9 → parseFieldDescriptor (TX1 k).2.2.1 = some (tyX1 k) := by decide +kernel
abbrev cX1_init : ByteArray := prog_3_method_1_code
def yX1_init : MethodName := ⟨RX1, "<init>", "()V"⟩
abbrev cX1_addPerson : ByteArray := prog_3_method_2_code
def yX1_addPerson : MethodName := ⟨RX1, "addPerson", "(III)I"⟩
abbrev cX1_hasPerson : ByteArray := prog_3_method_3_code
def yX1_hasPerson : MethodName := ⟨RX1, "hasPerson", "(I)Z"⟩
abbrev cX1_ageOf : ByteArray := prog_3_method_4_code
def yX1_ageOf : MethodName := ⟨RX1, "ageOf", "(I)I"⟩
abbrev cX1_rankOf : ByteArray := prog_3_method_5_code
def yX1_rankOf : MethodName := ⟨RX1, "rankOf", "(I)I"⟩
abbrev cX1_houseOf : ByteArray := prog_3_method_6_code
def yX1_houseOf : MethodName := ⟨RX1, "houseOf", "(I)I"⟩
abbrev cX1_codeOf : ByteArray := prog_3_method_7_code
def yX1_codeOf : MethodName := ⟨RX1, "codeOf", "(I)I"⟩
abbrev cX1_setCode : ByteArray := prog_3_method_8_code
def yX1_setCode : MethodName := ⟨RX1, "setCode", "(II)V"⟩
abbrev cX1_isOwing : ByteArray := prog_3_method_9_code
def yX1_isOwing : MethodName := ⟨RX1, "isOwing", "(II)Z"⟩
abbrev cX1_setOwing : ByteArray := prog_3_method_10_code
def yX1_setOwing : MethodName := ⟨RX1, "setOwing", "(IIZ)V"⟩
abbrev cX1_addQuarrel : ByteArray := prog_3_method_11_code
def yX1_addQuarrel : MethodName := ⟨RX1, "addQuarrel", "(III)I"⟩
abbrev cX1_quarrelAt : ByteArray := prog_3_method_12_code
def yX1_quarrelAt : MethodName := ⟨RX1, "quarrelAt", "(I)LTwoCards$Quarrel;"⟩
abbrev cX1_goingOn : ByteArray := prog_3_method_13_code
def yX1_goingOn : MethodName := ⟨RX1, "goingOn", "()I"⟩
abbrev cX1_takenFirst : ByteArray := prog_3_method_14_code
def yX1_takenFirst : MethodName := ⟨RX1, "takenFirst", "(I)I"⟩
abbrev cX1_waitedFor : ByteArray := prog_3_method_15_code
def yX1_waitedFor : MethodName := ⟨RX1, "waitedFor", "(I)I"⟩
abbrev cX1_isInRing : ByteArray := prog_3_method_16_code
def yX1_isInRing : MethodName := ⟨RX1, "isInRing", "(I)Z"⟩
abbrev cX1_copy : ByteArray := prog_3_method_17_code
def yX1_copy : MethodName := ⟨RX1, "copy", "(LTwoCards$Book;)V"⟩
def RX2 : String := "TwoCards$Code"
def TX2 : u_T := fun k => match k with
  | 0 => ("TwoCards$Code", "sorts", "[I", true)
  | 1 => ("TwoCards$Code", "kinds", "[I", true)
  | 2 => ("TwoCards$Code", "numbers", "[I", true)
  | 3 => ("TwoCards$Code", "starts", "[I", true)
  | 4 => ("TwoCards$Code", "stops", "[I", true)
  | 5 => ("TwoCards$Code", "steps", "[I", true)
  | 6 => ("TwoCards$Code", "stack", "[I", true)
  | 7 => ("TwoCards$Code", "stepCount", "I", false)
  | 8 => ("TwoCards$Code", "clauses", "I", false)
  | 9 => ("TwoCards$Code", "ask", "I", false)
  | 10 => ("TwoCards$Code", "hours", "I", false)
  | _ => ("TwoCards$Code", "must", "I", false)
def tyX2 : Nat → FieldType := fun k => match k with
  | 0 => .array .int
  | 1 => .array .int
  | 2 => .array .int
  | 3 => .array .int
  | 4 => .array .int
  | 5 => .array .int
  | 6 => .array .int
  | 7 => .int
  | 8 => .int
  | 9 => .int
  | 10 => .int
  | _ => .int
abbrev wsX20 : List Cond := u_ws RX2 TX2 12
theorem nmX2 : ∀ a, a < 12 → ∀ b, b < 12 → a ≠ b → (TX2 a).2.1 ≠ (TX2 b).2.1 := by decide +kernel
theorem tyX2_ok : ∀ k, k < 12 → parseFieldDescriptor (TX2 k).2.2.1 = some (tyX2 k) := by decide +kernel
abbrev cX2_init : ByteArray := prog_4_method_1_code
def yX2_init : MethodName := ⟨RX2, "<init>", "()V"⟩
abbrev cX2_clear : ByteArray := prog_4_method_2_code
def yX2_clear : MethodName := ⟨RX2, "clear", "()V"⟩
abbrev cX2_addClause : ByteArray := prog_4_method_3_code
def yX2_addClause : MethodName := ⟨RX2, "addClause", "(III)V"⟩
abbrev cX2_addStep : ByteArray := prog_4_method_4_code
def yX2_addStep : MethodName := ⟨RX2, "addStep", "(I)V"⟩
abbrev cX2_setMeasure : ByteArray := prog_4_method_5_code
def yX2_setMeasure : MethodName := ⟨RX2, "setMeasure", "(II)V"⟩
abbrev cX2_has : ByteArray := prog_4_method_6_code
def yX2_has : MethodName := ⟨RX2, "has", "(I)Z"⟩
abbrev cX2_numberOf : ByteArray := prog_4_method_7_code
def yX2_numberOf : MethodName := ⟨RX2, "numberOf", "(I)I"⟩
abbrev cX2_weight : ByteArray := prog_4_method_8_code
def yX2_weight : MethodName := ⟨RX2, "weight", "(ILTwoCards$Sight;)I"⟩
abbrev cX2_weighing : ByteArray := prog_4_method_9_code
def yX2_weighing : MethodName := ⟨RX2, "weighing", "(LTwoCards$Sight;)I"⟩
abbrev cX2_letsRefuse : ByteArray := prog_4_method_10_code
def yX2_letsRefuse : MethodName := ⟨RX2, "letsRefuse", "(LTwoCards$Sight;)Z"⟩
abbrev cX2_countOfBacks : ByteArray := prog_4_method_11_code
def yX2_countOfBacks : MethodName := ⟨RX2, "countOfBacks", "(I)I"⟩
abbrev cX2_backClauses : ByteArray := prog_4_method_12_code
def yX2_backClauses : MethodName := ⟨RX2, "backClauses", "(I)I"⟩
abbrev cX2_slotOf : ByteArray := prog_4_method_13_code
def yX2_slotOf : MethodName := ⟨RX2, "slotOf", "(I)I"⟩
abbrev cX2_holds : ByteArray := prog_4_method_14_code
def yX2_holds : MethodName := ⟨RX2, "holds", "(ILTwoCards$Sight;)Z"⟩
abbrev cX2_joined : ByteArray := prog_4_method_15_code
def yX2_joined : MethodName := ⟨RX2, "joined", "(III)I"⟩
def RX3 : String := "TwoCards$Game"
def TX3 : u_T := fun k => match k with
  | 0 => ("TwoCards$Game", "known", "[I", true)
  | _ => ("TwoCards$Game", "mark", "I", false)
def tyX3 : Nat → FieldType := fun k => match k with
  | 0 => .array .int
  | _ => .int
abbrev wsX30 : List Cond := u_ws RX3 TX3 2
theorem nmX3 : ∀ a, a < 2 → ∀ b, b < 2 → a ≠ b → (TX3 a).2.1 ≠ (TX3 b).2.1 := by decide +kernel
theorem tyX3_ok : ∀ k, k < 2 → parseFieldDescriptor (TX3 k).2.2.1 = some (tyX3 k) := by decide +kernel
abbrev cX3_init : ByteArray := prog_5_method_1_code
def yX3_init : MethodName := ⟨RX3, "<init>", "()V"⟩
abbrev cX3_begin : ByteArray := prog_5_method_2_code
def yX3_begin : MethodName := ⟨RX3, "begin", "()V"⟩
abbrev cX3_outcomeFrom : ByteArray := prog_5_method_3_code
def yX3_outcomeFrom : MethodName := ⟨RX3, "outcomeFrom", "(LTwoCards$Affair;I)I"⟩
abbrev cX3_moveFrom : ByteArray := prog_5_method_4_code
def yX3_moveFrom : MethodName := ⟨RX3, "moveFrom", "(LTwoCards$Affair;I)I"⟩
abbrev cX3_settle : ByteArray := prog_5_method_5_code
def yX3_settle : MethodName := ⟨RX3, "settle", "(LTwoCards$Affair;II)I"⟩
abbrev cX3_worthOf : ByteArray := prog_5_method_6_code
def yX3_worthOf : MethodName := ⟨RX3, "worthOf", "(II)I"⟩
def RX4 : String := "TwoCards$Quarrel"
def TX4 : u_T := fun k => match k with
  | 0 => ("TwoCards$Quarrel", "moves", "[I", true)
  | 1 => ("TwoCards$Quarrel", "states", "[I", true)
  | 2 => ("TwoCards$Quarrel", "first", "I", false)
  | 3 => ("TwoCards$Quarrel", "second", "I", false)
  | 4 => ("TwoCards$Quarrel", "firstCode", "I", false)
  | 5 => ("TwoCards$Quarrel", "secondCode", "I", false)
  | 6 => ("TwoCards$Quarrel", "ladies", "I", false)
  | _ => ("TwoCards$Quarrel", "done", "I", false)
def tyX4 : Nat → FieldType := fun k => match k with
  | 0 => .array .int
  | 1 => .array .int
  | 2 => .int
  | 3 => .int
  | 4 => .int
  | 5 => .int
  | 6 => .int
  | _ => .int
abbrev wsX40 : List Cond := u_ws RX4 TX4 8
theorem nmX4 : ∀ a, a < 8 → ∀ b, b < 8 → a ≠ b → (TX4 a).2.1 ≠ (TX4 b).2.1 := by decide +kernel
theorem tyX4_ok : ∀ k, k < 8 → parseFieldDescriptor (TX4 k).2.2.1 = some (tyX4 k) := by decide +kernel
abbrev cX4_init : ByteArray := prog_6_method_1_code
def yX4_init : MethodName := ⟨RX4, "<init>", "()V"⟩
abbrev cX4_add : ByteArray := prog_6_method_2_code
def yX4_add : MethodName := ⟨RX4, "add", "(II)V"⟩
abbrev cX4_moveAt : ByteArray := prog_6_method_3_code
def yX4_moveAt : MethodName := ⟨RX4, "moveAt", "(I)I"⟩
abbrev cX4_stateAt : ByteArray := prog_6_method_4_code
def yX4_stateAt : MethodName := ⟨RX4, "stateAt", "(I)I"⟩
abbrev cX4_now : ByteArray := prog_6_method_5_code
def yX4_now : MethodName := ⟨RX4, "now", "()I"⟩
abbrev cX4_goesOn : ByteArray := prog_6_method_6_code
def yX4_goesOn : MethodName := ⟨RX4, "goesOn", "()Z"⟩
abbrev cX4_sideOf : ByteArray := prog_6_method_7_code
def yX4_sideOf : MethodName := ⟨RX4, "sideOf", "(I)I"⟩
abbrev cX4_personOn : ByteArray := prog_6_method_8_code
def yX4_personOn : MethodName := ⟨RX4, "personOn", "(I)I"⟩
abbrev cX4_spoken : ByteArray := prog_6_method_9_code
def yX4_spoken : MethodName := ⟨RX4, "spoken", "()I"⟩
abbrev cX4_copy : ByteArray := prog_6_method_10_code
def yX4_copy : MethodName := ⟨RX4, "copy", "(LTwoCards$Quarrel;)V"⟩
def RX5 : String := "TwoCards$Reader"
def TX5 : u_T := fun k => match k with
  | 0 => ("TwoCards$Reader", "tokens", "LTwoCards$Tokens;", true)
  | 1 => ("TwoCards$Reader", "code", "LTwoCards$Code;", false)
  | 2 => ("TwoCards$Reader", "at", "I", false)
  | 3 => ("TwoCards$Reader", "parts", "I", false)
  | 4 => ("TwoCards$Reader", "fault", "I", false)
  | _ => ("TwoCards$Reader", "isTested", "Z", false)
def tyX5 : Nat → FieldType := fun k => match k with
  | 0 => .object "TwoCards$Tokens"
  | 1 => .object "TwoCards$Code"
  | 2 => .int
  | 3 => .int
  | 4 => .int
  | _ => .boolean
abbrev wsX50 : List Cond := u_ws RX5 TX5 6
theorem nmX5 : ∀ a, a < 6 → ∀ b, b < 6 → a ≠ b → (TX5 a).2.1 ≠ (TX5 b).2.1 := by decide +kernel
theorem tyX5_ok : ∀ k, k < 6 → parseFieldDescriptor (TX5 k).2.2.1 = some (tyX5 k) := by decide +kernel
abbrev cX5_init : ByteArray := prog_7_method_1_code
def yX5_init : MethodName := ⟨RX5, "<init>", "()V"⟩
abbrev cX5_read : ByteArray := prog_7_method_2_code
def yX5_read : MethodName := ⟨RX5, "read", "(LTwoCards$Tape;LTwoCards$Code;)I"⟩
abbrev cX5_readHead : ByteArray := prog_7_method_3_code
def yX5_readHead : MethodName := ⟨RX5, "readHead", "()Z"⟩
abbrev cX5_readWeight : ByteArray := prog_7_method_4_code
def yX5_readWeight : MethodName := ⟨RX5, "readWeight", "(III)Z"⟩
abbrev cX5_readMeasure : ByteArray := prog_7_method_5_code
def yX5_readMeasure : MethodName := ⟨RX5, "readMeasure", "(III)Z"⟩
abbrev cX5_readTest : ByteArray := prog_7_method_6_code
def yX5_readTest : MethodName := ⟨RX5, "readTest", "(I)Z"⟩
abbrev cX5_readPart : ByteArray := prog_7_method_7_code
def yX5_readPart : MethodName := ⟨RX5, "readPart", "(I)Z"⟩
abbrev cX5_readFact : ByteArray := prog_7_method_8_code
def yX5_readFact : MethodName := ⟨RX5, "readFact", "(I)Z"⟩
abbrev cX5_comparisonOf : ByteArray := prog_7_method_9_code
def yX5_comparisonOf : MethodName := ⟨RX5, "comparisonOf", "(I)I"⟩
abbrev cX5_readSum : ByteArray := prog_7_method_10_code
def yX5_readSum : MethodName := ⟨RX5, "readSum", "()Z"⟩
abbrev cX5_readValue : ByteArray := prog_7_method_11_code
def yX5_readValue : MethodName := ⟨RX5, "readValue", "()Z"⟩
abbrev cX5_takesPart : ByteArray := prog_7_method_12_code
def yX5_takesPart : MethodName := ⟨RX5, "takesPart", "()Z"⟩
abbrev cX5_takesNumber : ByteArray := prog_7_method_13_code
def yX5_takesNumber : MethodName := ⟨RX5, "takesNumber", "(II)Z"⟩
abbrev cX5_takes : ByteArray := prog_7_method_14_code
def yX5_takes : MethodName := ⟨RX5, "takes", "(I)Z"⟩
abbrev cX5_wordFrom : ByteArray := prog_7_method_15_code
def yX5_wordFrom : MethodName := ⟨RX5, "wordFrom", "(II)I"⟩
abbrev cX5_fail : ByteArray := prog_7_method_16_code
def yX5_fail : MethodName := ⟨RX5, "fail", "(I)Z"⟩
def RX6 : String := "TwoCards$Sight"
def TX6 : u_T := fun k => match k with
  | _ => ("TwoCards$Sight", "values", "[I", true)
def tyX6 : Nat → FieldType := fun k => match k with
  | _ => .array .int
abbrev wsX60 : List Cond := u_ws RX6 TX6 1
theorem nmX6 : ∀ a, a < 1 → ∀ b, b < 1 → a ≠ b → (TX6 a).2.1 ≠ (TX6 b).2.1 := by decide +kernel
theorem tyX6_ok : ∀ k, k < 1 → parseFieldDescriptor (TX6 k).2.2.1 = some (tyX6 k) := by decide +kernel
abbrev cX6_init : ByteArray := prog_8_method_1_code
def yX6_init : MethodName := ⟨RX6, "<init>", "()V"⟩
abbrev cX6_turnTo : ByteArray := prog_8_method_2_code
def yX6_turnTo : MethodName := ⟨RX6, "turnTo", "(LTwoCards$Book;III)V"⟩
abbrev cX6_setHour : ByteArray := prog_8_method_3_code
def yX6_setHour : MethodName := ⟨RX6, "setHour", "(III)V"⟩
abbrev cX6_valueOf : ByteArray := prog_8_method_4_code
def yX6_valueOf : MethodName := ⟨RX6, "valueOf", "(I)I"⟩
def RX7 : String := "TwoCards$State"
def TX7 : u_T := fun k => match k with
  | _ => ("", "", "", false)
def tyX7 : Nat → FieldType := fun k => match k with
  | _ => .int
abbrev wsX70 : List Cond := u_ws RX7 TX7 0
theorem nmX7 : ∀ a, a < 0 → ∀ b, b < 0 → a ≠ b → (TX7 a).2.1 ≠ (TX7 b).2.1 := by decide +kernel
theorem tyX7_ok : ∀ k, k < 0 → parseFieldDescriptor (TX7 k).2.2.1 = some (tyX7 k) := by decide +kernel
abbrev cX7_of : ByteArray := prog_9_method_2_code
def yX7_of : MethodName := ⟨RX7, "of", "(IIIII)I"⟩
abbrev cX7_ended : ByteArray := prog_9_method_3_code
def yX7_ended : MethodName := ⟨RX7, "ended", "(III)I"⟩
abbrev cX7_owed : ByteArray := prog_9_method_4_code
def yX7_owed : MethodName := ⟨RX7, "owed", "(II)I"⟩
abbrev cX7_left : ByteArray := prog_9_method_5_code
def yX7_left : MethodName := ⟨RX7, "left", "(I)I"⟩
abbrev cX7_turn : ByteArray := prog_9_method_6_code
def yX7_turn : MethodName := ⟨RX7, "turn", "(I)I"⟩
abbrev cX7_asked : ByteArray := prog_9_method_7_code
def yX7_asked : MethodName := ⟨RX7, "asked", "(I)I"⟩
abbrev cX7_ending : ByteArray := prog_9_method_8_code
def yX7_ending : MethodName := ⟨RX7, "ending", "(I)I"⟩
abbrev cX7_less : ByteArray := prog_9_method_9_code
def yX7_less : MethodName := ⟨RX7, "less", "(I)I"⟩
abbrev cX7_outcome : ByteArray := prog_9_method_10_code
def yX7_outcome : MethodName := ⟨RX7, "outcome", "(I)I"⟩
abbrev cX7_spot : ByteArray := prog_9_method_11_code
def yX7_spot : MethodName := ⟨RX7, "spot", "(I)I"⟩
def RX8 : String := "TwoCards$Tape"
def TX8 : u_T := fun k => match k with
  | 0 => ("TwoCards$Tape", "bytes", "[I", true)
  | _ => ("TwoCards$Tape", "length", "I", false)
def tyX8 : Nat → FieldType := fun k => match k with
  | 0 => .array .int
  | _ => .int
abbrev wsX80 : List Cond := u_ws RX8 TX8 2
theorem nmX8 : ∀ a, a < 2 → ∀ b, b < 2 → a ≠ b → (TX8 a).2.1 ≠ (TX8 b).2.1 := by decide +kernel
theorem tyX8_ok : ∀ k, k < 2 → parseFieldDescriptor (TX8 k).2.2.1 = some (tyX8 k) := by decide +kernel
abbrev cX8_init : ByteArray := prog_10_method_1_code
def yX8_init : MethodName := ⟨RX8, "<init>", "()V"⟩
abbrev cX8_add : ByteArray := prog_10_method_2_code
def yX8_add : MethodName := ⟨RX8, "add", "(I)V"⟩
abbrev cX8_byteAt : ByteArray := prog_10_method_3_code
def yX8_byteAt : MethodName := ⟨RX8, "byteAt", "(I)I"⟩
def RX9 : String := "TwoCards$Tokens"
def TX9 : u_T := fun k => match k with
  | 0 => ("TwoCards$Tokens", "kinds", "[I", true)
  | 1 => ("TwoCards$Tokens", "places", "[I", true)
  | 2 => ("TwoCards$Tokens", "numbers", "[I", true)
  | _ => ("TwoCards$Tokens", "size", "I", false)
def tyX9 : Nat → FieldType := fun k => match k with
  | 0 => .array .int
  | 1 => .array .int
  | 2 => .array .int
  | _ => .int
abbrev wsX90 : List Cond := u_ws RX9 TX9 4
theorem nmX9 : ∀ a, a < 4 → ∀ b, b < 4 → a ≠ b → (TX9 a).2.1 ≠ (TX9 b).2.1 := by decide +kernel
theorem tyX9_ok : ∀ k, k < 4 → parseFieldDescriptor (TX9 k).2.2.1 = some (tyX9 k) := by decide +kernel
abbrev cX9_init : ByteArray := prog_11_method_1_code
def yX9_init : MethodName := ⟨RX9, "<init>", "()V"⟩
abbrev cX9_take : ByteArray := prog_11_method_2_code
def yX9_take : MethodName := ⟨RX9, "take", "(LTwoCards$Tape;)V"⟩
abbrev cX9_kindAt : ByteArray := prog_11_method_3_code
def yX9_kindAt : MethodName := ⟨RX9, "kindAt", "(I)I"⟩
abbrev cX9_placeAt : ByteArray := prog_11_method_4_code
def yX9_placeAt : MethodName := ⟨RX9, "placeAt", "(I)I"⟩
abbrev cX9_numberAt : ByteArray := prog_11_method_5_code
def yX9_numberAt : MethodName := ⟨RX9, "numberAt", "(I)I"⟩
abbrev cX9_add : ByteArray := prog_11_method_6_code
def yX9_add : MethodName := ⟨RX9, "add", "(III)V"⟩
abbrev cX9_wordEnd : ByteArray := prog_11_method_7_code
def yX9_wordEnd : MethodName := ⟨RX9, "wordEnd", "(LTwoCards$Tape;I)I"⟩
abbrev cX9_numberEnd : ByteArray := prog_11_method_8_code
def yX9_numberEnd : MethodName := ⟨RX9, "numberEnd", "(LTwoCards$Tape;I)I"⟩
abbrev cX9_wordOf : ByteArray := prog_11_method_9_code
def yX9_wordOf : MethodName := ⟨RX9, "wordOf", "(LTwoCards$Tape;II)I"⟩
abbrev cX9_numberOf : ByteArray := prog_11_method_10_code
def yX9_numberOf : MethodName := ⟨RX9, "numberOf", "(LTwoCards$Tape;II)I"⟩
abbrev cX9_signOf : ByteArray := prog_11_method_11_code
def yX9_signOf : MethodName := ⟨RX9, "signOf", "(II)I"⟩
abbrev cX9_isLetter : ByteArray := prog_11_method_12_code
def yX9_isLetter : MethodName := ⟨RX9, "isLetter", "(I)Z"⟩
abbrev cX9_isDigit : ByteArray := prog_11_method_13_code
def yX9_isDigit : MethodName := ⟨RX9, "isDigit", "(I)Z"⟩
def RX10 : String := "TwoCards$Walk"
def TX10 : u_T := fun k => match k with
  | 0 => ("TwoCards$Walk", "states", "[I", true)
  | 1 => ("TwoCards$Walk", "counts", "[J", true)
  | 2 => ("TwoCards$Walk", "origins", "[I", true)
  | 3 => ("TwoCards$Walk", "places", "[I", true)
  | 4 => ("TwoCards$Walk", "waysTo", "[J", true)
  | 5 => ("TwoCards$Walk", "firstTo", "[I", true)
  | 6 => ("TwoCards$Walk", "size", "I", false)
  | 7 => ("TwoCards$Walk", "mark", "I", false)
  | _ => ("TwoCards$Walk", "isOver", "Z", false)
def tyX10 : Nat → FieldType := fun k => match k with
  | 0 => .array .int
  | 1 => .array .long
  | 2 => .array .int
  | 3 => .array .int
  | 4 => .array .long
  | 5 => .array .int
  | 6 => .int
  | 7 => .int
  | _ => .boolean
abbrev wsX100 : List Cond := u_ws RX10 TX10 9
theorem nmX10 : ∀ a, a < 9 → ∀ b, b < 9 → a ≠ b → (TX10 a).2.1 ≠ (TX10 b).2.1 := by decide +kernel
theorem tyX10_ok : ∀ k, k < 9 → parseFieldDescriptor (TX10 k).2.2.1 = some (tyX10 k) := by decide +kernel
abbrev cX10_init : ByteArray := prog_12_method_1_code
def yX10_init : MethodName := ⟨RX10, "<init>", "()V"⟩
abbrev cX10_go : ByteArray := prog_12_method_2_code
def yX10_go : MethodName := ⟨RX10, "go", "(LTwoCards$Affair;I)V"⟩
abbrev cX10_outcomes : ByteArray := prog_12_method_3_code
def yX10_outcomes : MethodName := ⟨RX10, "outcomes", "()I"⟩
abbrev cX10_waysTo : ByteArray := prog_12_method_4_code
def yX10_waysTo : MethodName := ⟨RX10, "waysTo", "(I)J"⟩
abbrev cX10_fewestTo : ByteArray := prog_12_method_5_code
def yX10_fewestTo : MethodName := ⟨RX10, "fewestTo", "(I)I"⟩
abbrev cX10_moveTo : ByteArray := prog_12_method_6_code
def yX10_moveTo : MethodName := ⟨RX10, "moveTo", "(II)I"⟩
abbrev cX10_spread : ByteArray := prog_12_method_7_code
def yX10_spread : MethodName := ⟨RX10, "spread", "(LTwoCards$Affair;I)V"⟩
abbrev cX10_reach : ByteArray := prog_12_method_8_code
def yX10_reach : MethodName := ⟨RX10, "reach", "(IJI)V"⟩
abbrev cX10_arrive : ByteArray := prog_12_method_9_code
def yX10_arrive : MethodName := ⟨RX10, "arrive", "(IJI)V"⟩
def RX11 : String := "TwoCards"
def TX11 : u_T := fun k => match k with
  | 0 => ("TwoCards", "tape", "LTwoCards$Tape;", true)
  | 1 => ("TwoCards", "codes", "[LTwoCards$Code;", true)
  | 2 => ("TwoCards", "blank", "LTwoCards$Code;", true)
  | 3 => ("TwoCards", "reader", "LTwoCards$Reader;", true)
  | 4 => ("TwoCards", "book", "LTwoCards$Book;", true)
  | 5 => ("TwoCards", "images", "[LTwoCards$Book;", true)
  | 6 => ("TwoCards", "sight", "LTwoCards$Sight;", true)
  | 7 => ("TwoCards", "affair", "LTwoCards$Affair;", true)
  | 8 => ("TwoCards", "play", "LTwoCards$Game;", true)
  | 9 => ("TwoCards", "walk", "LTwoCards$Walk;", true)
  | _ => ("TwoCards", "codeCount", "I", false)
def tyX11 : Nat → FieldType := fun k => match k with
  | 0 => .object "TwoCards$Tape"
  | 1 => .array (.object "TwoCards$Code")
  | 2 => .object "TwoCards$Code"
  | 3 => .object "TwoCards$Reader"
  | 4 => .object "TwoCards$Book"
  | 5 => .array (.object "TwoCards$Book")
  | 6 => .object "TwoCards$Sight"
  | 7 => .object "TwoCards$Affair"
  | 8 => .object "TwoCards$Game"
  | 9 => .object "TwoCards$Walk"
  | _ => .int
abbrev wsX110 : List Cond := u_ws RX11 TX11 11
theorem nmX11 : ∀ a, a < 11 → ∀ b, b < 11 → a ≠ b → (TX11 a).2.1 ≠ (TX11 b).2.1 := by decide +kernel
theorem tyX11_ok : ∀ k, k < 11 → parseFieldDescriptor (TX11 k).2.2.1 = some (tyX11 k) := by decide +kernel
abbrev cX11_init : ByteArray := prog_1_method_1_code
def yX11_init : MethodName := ⟨RX11, "<init>", "()V"⟩
abbrev cX11_person : ByteArray := prog_1_method_2_code
def yX11_person : MethodName := ⟨RX11, "person", "(III)I"⟩
abbrev cX11_debt : ByteArray := prog_1_method_3_code
def yX11_debt : MethodName := ⟨RX11, "debt", "(IIZ)Z"⟩
abbrev cX11_feed : ByteArray := prog_1_method_4_code
def yX11_feed : MethodName := ⟨RX11, "feed", "(IIIII)I"⟩
abbrev cX11_end : ByteArray := prog_1_method_5_code
def yX11_end : MethodName := ⟨RX11, "end", "(I)I"⟩
abbrev cX11_code : ByteArray := prog_1_method_6_code
def yX11_code : MethodName := ⟨RX11, "code", "()I"⟩
abbrev cX11_keeps : ByteArray := prog_1_method_7_code
def yX11_keeps : MethodName := ⟨RX11, "keeps", "(II)Z"⟩
abbrev cX11_told : ByteArray := prog_1_method_8_code
def yX11_told : MethodName := ⟨RX11, "told", "(II)I"⟩
abbrev cX11_weighs : ByteArray := prog_1_method_9_code
def yX11_weighs : MethodName := ⟨RX11, "weighs", "(IIIIIIII)I"⟩
abbrev cX11_quarrel : ByteArray := prog_1_method_10_code
def yX11_quarrel : MethodName := ⟨RX11, "quarrel", "(IIII)I"⟩
abbrev cX11_state : ByteArray := prog_1_method_11_code
def yX11_state : MethodName := ⟨RX11, "state", "(II)I"⟩
abbrev cX11_may : ByteArray := prog_1_method_12_code
def yX11_may : MethodName := ⟨RX11, "may", "(I)I"⟩
abbrev cX11_move : ByteArray := prog_1_method_13_code
def yX11_move : MethodName := ⟨RX11, "move", "(II)I"⟩
abbrev cX11_history : ByteArray := prog_1_method_14_code
def yX11_history : MethodName := ⟨RX11, "history", "(II)I"⟩
abbrev cX11_ends : ByteArray := prog_1_method_15_code
def yX11_ends : MethodName := ⟨RX11, "ends", "(I)I"⟩
abbrev cX11_ways : ByteArray := prog_1_method_16_code
def yX11_ways : MethodName := ⟨RX11, "ways", "(II)J"⟩
abbrev cX11_brief : ByteArray := prog_1_method_17_code
def yX11_brief : MethodName := ⟨RX11, "brief", "(III)I"⟩
abbrev cX11_must : ByteArray := prog_1_method_18_code
def yX11_must : MethodName := ⟨RX11, "must", "(I)I"⟩
abbrev cX11_late : ByteArray := prog_1_method_19_code
def yX11_late : MethodName := ⟨RX11, "late", "(I)I"⟩
abbrev cX11_game : ByteArray := prog_1_method_20_code
def yX11_game : MethodName := ⟨RX11, "game", "(II)I"⟩
abbrev cX11_otherwise : ByteArray := prog_1_method_21_code
def yX11_otherwise : MethodName := ⟨RX11, "otherwise", "(III)I"⟩
abbrev cX11_doubt : ByteArray := prog_1_method_22_code
def yX11_doubt : MethodName := ⟨RX11, "doubt", "(II)I"⟩
abbrev cX11_hangs : ByteArray := prog_1_method_23_code
def yX11_hangs : MethodName := ⟨RX11, "hangs", "(I)I"⟩
abbrev cX11_thinks : ByteArray := prog_1_method_24_code
def yX11_thinks : MethodName := ⟨RX11, "thinks", "(III)I"⟩
abbrev cX11_waits : ByteArray := prog_1_method_25_code
def yX11_waits : MethodName := ⟨RX11, "waits", "(I)I"⟩
abbrev cX11_ring : ByteArray := prog_1_method_26_code
def yX11_ring : MethodName := ⟨RX11, "ring", "(I)I"⟩
abbrev cX11_first : ByteArray := prog_1_method_27_code
def yX11_first : MethodName := ⟨RX11, "first", "(I)I"⟩
abbrev cX11_harsh : ByteArray := prog_1_method_28_code
def yX11_harsh : MethodName := ⟨RX11, "harsh", "(IIII)I"⟩
abbrev cX11_mend : ByteArray := prog_1_method_29_code
def yX11_mend : MethodName := ⟨RX11, "mend", "(IIIII)I"⟩
abbrev cX11_image : ByteArray := prog_1_method_30_code
def yX11_image : MethodName := ⟨RX11, "image", "(I)I"⟩
abbrev cX11_back : ByteArray := prog_1_method_31_code
def yX11_back : MethodName := ⟨RX11, "back", "(I)I"⟩
abbrev cX11_count : ByteArray := prog_1_method_32_code
def yX11_count : MethodName := ⟨RX11, "count", "(I)I"⟩
abbrev cX11_isWithin : ByteArray := prog_1_method_33_code
def yX11_isWithin : MethodName := ⟨RX11, "isWithin", "(III)Z"⟩
abbrev cX11_areTwo : ByteArray := prog_1_method_34_code
def yX11_areTwo : MethodName := ⟨RX11, "areTwo", "(II)Z"⟩
abbrev cX11_hasCode : ByteArray := prog_1_method_35_code
def yX11_hasCode : MethodName := ⟨RX11, "hasCode", "(I)Z"⟩
abbrev cX11_codeAt : ByteArray := prog_1_method_36_code
def yX11_codeAt : MethodName := ⟨RX11, "codeAt", "(I)LTwoCards$Code;"⟩
abbrev cX11_study : ByteArray := prog_1_method_37_code
def yX11_study : MethodName := ⟨RX11, "study", "(LTwoCards$Quarrel;)V"⟩
abbrev cX11_mustMeet : ByteArray := prog_1_method_38_code
def yX11_mustMeet : MethodName := ⟨RX11, "mustMeet", "(I)Z"⟩
def RX12 : String := "TwoCardsModel"
def TX12 : u_T := fun k => match k with
  | 0 => ("TwoCardsModel", "people", "I", false)
  | 1 => ("TwoCardsModel", "person", "[I", true)
  | 2 => ("TwoCardsModel", "owes", "[I", true)
  | 3 => ("TwoCardsModel", "tape", "[B", true)
  | 4 => ("TwoCardsModel", "taped", "I", false)
  | 5 => ("TwoCardsModel", "codes", "I", false)
  | 6 => ("TwoCardsModel", "row", "[I", true)
  | 7 => ("TwoCardsModel", "length", "[I", true)
  | 8 => ("TwoCardsModel", "clause", "[I", true)
  | 9 => ("TwoCardsModel", "clauses", "[I", true)
  | 10 => ("TwoCardsModel", "all", "[I", true)
  | 11 => ("TwoCardsModel", "ask", "[I", true)
  | 12 => ("TwoCardsModel", "hours", "[I", true)
  | 13 => ("TwoCardsModel", "must", "[I", true)
  | 14 => ("TwoCardsModel", "next", "I", false)
  | 15 => ("TwoCardsModel", "wrong", "I", false)
  | 16 => ("TwoCardsModel", "said", "I", false)
  | 17 => ("TwoCardsModel", "text", "I", false)
  | 18 => ("TwoCardsModel", "made", "I", false)
  | 19 => ("TwoCardsModel", "deep", "I", false)
  | 20 => ("TwoCardsModel", "open", "[I", true)
  | 21 => ("TwoCardsModel", "opened", "I", false)
  | 22 => ("TwoCardsModel", "word", "[I", true)
  | 23 => ("TwoCardsModel", "stack", "[I", true)
  | 24 => ("TwoCardsModel", "top", "I", false)
  | 25 => ("TwoCardsModel", "mended", "I", false)
  | 26 => ("TwoCardsModel", "who", "[I", true)
  | 27 => ("TwoCardsModel", "keep", "[I", true)
  | 28 => ("TwoCardsModel", "ladiesNow", "I", false)
  | 29 => ("TwoCardsModel", "hoursFirst", "I", false)
  | 30 => ("TwoCardsModel", "owed", "[I", true)
  | 31 => ("TwoCardsModel", "turn", "I", false)
  | 32 => ("TwoCardsModel", "asked", "I", false)
  | 33 => ("TwoCardsModel", "left", "I", false)
  | 34 => ("TwoCardsModel", "ended", "I", false)
  | 35 => ("TwoCardsModel", "less", "I", false)
  | 36 => ("TwoCardsModel", "comes", "[Z", true)
  | 37 => ("TwoCardsModel", "gameOf", "[I", true)
  | 38 => ("TwoCardsModel", "gameMove", "[I", true)
  | 39 => ("TwoCardsModel", "endsOf", "[I", true)
  | 40 => ("TwoCardsModel", "waysOf", "[J", true)
  | 41 => ("TwoCardsModel", "briefOf", "[I", true)
  | 42 => ("TwoCardsModel", "quarrels", "I", false)
  | 43 => ("TwoCardsModel", "told", "[I", true)
  | 44 => ("TwoCardsModel", "images", "[I", true)
  | _ => ("TwoCardsModel", "isMade", "[Z", true)
def tyX12 : Nat → FieldType := fun k => match k with
  | 0 => .int
  | 1 => .array .int
  | 2 => .array .int
  | 3 => .array .byte
  | 4 => .int
  | 5 => .int
  | 6 => .array .int
  | 7 => .array .int
  | 8 => .array .int
  | 9 => .array .int
  | 10 => .array .int
  | 11 => .array .int
  | 12 => .array .int
  | 13 => .array .int
  | 14 => .int
  | 15 => .int
  | 16 => .int
  | 17 => .int
  | 18 => .int
  | 19 => .int
  | 20 => .array .int
  | 21 => .int
  | 22 => .array .int
  | 23 => .array .int
  | 24 => .int
  | 25 => .int
  | 26 => .array .int
  | 27 => .array .int
  | 28 => .int
  | 29 => .int
  | 30 => .array .int
  | 31 => .int
  | 32 => .int
  | 33 => .int
  | 34 => .int
  | 35 => .int
  | 36 => .array .boolean
  | 37 => .array .int
  | 38 => .array .int
  | 39 => .array .int
  | 40 => .array .long
  | 41 => .array .int
  | 42 => .int
  | 43 => .array .int
  | 44 => .array .int
  | _ => .array .boolean
abbrev wsX120 : List Cond := u_ws RX12 TX12 46
theorem nmX12 : ∀ a, a < 46 → ∀ b, b < 46 → a ≠ b → (TX12 a).2.1 ≠ (TX12 b).2.1 := by decide +kernel
theorem tyX12_ok : ∀ k, k < 46 → parseFieldDescriptor (TX12 k).2.2.1 = some (tyX12 k) := by decide +kernel
abbrev cX12_init : ByteArray := prog_14_method_1_code
def yX12_init : MethodName := ⟨RX12, "<init>", "()V"⟩
abbrev cX12_in : ByteArray := prog_14_method_2_code
def yX12_in : MethodName := ⟨RX12, "in", "(JJJ)Z"⟩
abbrev cX12_person : ByteArray := prog_14_method_3_code
def yX12_person : MethodName := ⟨RX12, "person", "(III)I"⟩
abbrev cX12_isPerson : ByteArray := prog_14_method_4_code
def yX12_isPerson : MethodName := ⟨RX12, "isPerson", "(I)Z"⟩
abbrev cX12_areTwo : ByteArray := prog_14_method_5_code
def yX12_areTwo : MethodName := ⟨RX12, "areTwo", "(II)Z"⟩
abbrev cX12_debt : ByteArray := prog_14_method_6_code
def yX12_debt : MethodName := ⟨RX12, "debt", "(IIZ)Z"⟩
abbrev cX12_four : ByteArray := prog_14_method_7_code
def yX12_four : MethodName := ⟨RX12, "four", "(I)V"⟩
abbrev cX12_feed : ByteArray := prog_14_method_8_code
def yX12_feed : MethodName := ⟨RX12, "feed", "(IIIII)I"⟩
abbrev cX12_end : ByteArray := prog_14_method_9_code
def yX12_end : MethodName := ⟨RX12, "end", "(I)I"⟩
abbrev cX12_fails : ByteArray := prog_14_method_10_code
def yX12_fails : MethodName := ⟨RX12, "fails", "(II)Z"⟩
abbrev cX12_see : ByteArray := prog_14_method_11_code
def yX12_see : MethodName := ⟨RX12, "see", "()I"⟩
abbrev cX12_isDigit : ByteArray := prog_14_method_12_code
def yX12_isDigit : MethodName := ⟨RX12, "isDigit", "(I)Z"⟩
abbrev cX12_isLetter : ByteArray := prog_14_method_13_code
def yX12_isLetter : MethodName := ⟨RX12, "isLetter", "(I)Z"⟩
abbrev cX12_isWord : ByteArray := prog_14_method_14_code
def yX12_isWord : MethodName := ⟨RX12, "isWord", "(J)Z"⟩
abbrev cX12_passWord : ByteArray := prog_14_method_15_code
def yX12_passWord : MethodName := ⟨RX12, "passWord", "()V"⟩
abbrev cX12_takesWord : ByteArray := prog_14_method_16_code
def yX12_takesWord : MethodName := ⟨RX12, "takesWord", "(J)Z"⟩
abbrev cX12_number : ByteArray := prog_14_method_17_code
def yX12_number : MethodName := ⟨RX12, "number", "(II)Z"⟩
abbrev cX12_wordHere : ByteArray := prog_14_method_18_code
def yX12_wordHere : MethodName := ⟨RX12, "wordHere", "()I"⟩
abbrev cX12_kindHere : ByteArray := prog_14_method_19_code
def yX12_kindHere : MethodName := ⟨RX12, "kindHere", "()I"⟩
abbrev cX12_meansHere : ByteArray := prog_14_method_20_code
def yX12_meansHere : MethodName := ⟨RX12, "meansHere", "()I"⟩
abbrev cX12_puts : ByteArray := prog_14_method_21_code
def yX12_puts : MethodName := ⟨RX12, "puts", "(II)V"⟩
abbrev cX12_makes : ByteArray := prog_14_method_22_code
def yX12_makes : MethodName := ⟨RX12, "makes", "(I)Z"⟩
abbrev cX12_value : ByteArray := prog_14_method_23_code
def yX12_value : MethodName := ⟨RX12, "value", "()Z"⟩
abbrev cX12_sum : ByteArray := prog_14_method_24_code
def yX12_sum : MethodName := ⟨RX12, "sum", "()Z"⟩
abbrev cX12_compare : ByteArray := prog_14_method_25_code
def yX12_compare : MethodName := ⟨RX12, "compare", "()Z"⟩
abbrev cX12_strength : ByteArray := prog_14_method_26_code
def yX12_strength : MethodName := ⟨RX12, "strength", "(I)I"⟩
abbrev cX12_settles : ByteArray := prog_14_method_27_code
def yX12_settles : MethodName := ⟨RX12, "settles", "(I)V"⟩
abbrev cX12_opens : ByteArray := prog_14_method_28_code
def yX12_opens : MethodName := ⟨RX12, "opens", "(I)Z"⟩
abbrev cX12_fact : ByteArray := prog_14_method_29_code
def yX12_fact : MethodName := ⟨RX12, "fact", "()Z"⟩
abbrev cX12_isInside : ByteArray := prog_14_method_30_code
def yX12_isInside : MethodName := ⟨RX12, "isInside", "()Z"⟩
abbrev cX12_closes : ByteArray := prog_14_method_31_code
def yX12_closes : MethodName := ⟨RX12, "closes", "()V"⟩
abbrev cX12_test : ByteArray := prog_14_method_32_code
def yX12_test : MethodName := ⟨RX12, "test", "()Z"⟩
abbrev cX12_weighed : ByteArray := prog_14_method_33_code
def yX12_weighed : MethodName := ⟨RX12, "weighed", "(IIIZ)Z"⟩
abbrev cX12_kinded : ByteArray := prog_14_method_34_code
def yX12_kinded : MethodName := ⟨RX12, "kinded", "(I)Z"⟩
abbrev cX12_sets : ByteArray := prog_14_method_35_code
def yX12_sets : MethodName := ⟨RX12, "sets", "([IIII)Z"⟩
abbrev cX12_clauseHere : ByteArray := prog_14_method_36_code
def yX12_clauseHere : MethodName := ⟨RX12, "clauseHere", "()Z"⟩
abbrev cX12_code : ByteArray := prog_14_method_37_code
def yX12_code : MethodName := ⟨RX12, "code", "()I"⟩
abbrev cX12_isCode : ByteArray := prog_14_method_38_code
def yX12_isCode : MethodName := ⟨RX12, "isCode", "(I)Z"⟩
abbrev cX12_keeps : ByteArray := prog_14_method_39_code
def yX12_keeps : MethodName := ⟨RX12, "keeps", "(II)Z"⟩
abbrev cX12_told : ByteArray := prog_14_method_40_code
def yX12_told : MethodName := ⟨RX12, "told", "(II)I"⟩
abbrev cX12_push : ByteArray := prog_14_method_41_code
def yX12_push : MethodName := ⟨RX12, "push", "(I)V"⟩
abbrev cX12_pop : ByteArray := prog_14_method_42_code
def yX12_pop : MethodName := ⟨RX12, "pop", "()I"⟩
abbrev cX12_compared : ByteArray := prog_14_method_43_code
def yX12_compared : MethodName := ⟨RX12, "compared", "(III)I"⟩
abbrev cX12_isTrue : ByteArray := prog_14_method_44_code
def yX12_isTrue : MethodName := ⟨RX12, "isTrue", "(III)Z"⟩
abbrev cX12_words : ByteArray := prog_14_method_45_code
def yX12_words : MethodName := ⟨RX12, "words", "(IIIIII)V"⟩
abbrev cX12_weigh : ByteArray := prog_14_method_46_code
def yX12_weigh : MethodName := ⟨RX12, "weigh", "(III)I"⟩
abbrev cX12_degree : ByteArray := prog_14_method_47_code
def yX12_degree : MethodName := ⟨RX12, "degree", "(II)I"⟩
abbrev cX12_takes : ByteArray := prog_14_method_48_code
def yX12_takes : MethodName := ⟨RX12, "takes", "(II)I"⟩
abbrev cX12_mayRefuse : ByteArray := prog_14_method_49_code
def yX12_mayRefuse : MethodName := ⟨RX12, "mayRefuse", "(I)Z"⟩
abbrev cX12_weighs : ByteArray := prog_14_method_50_code
def yX12_weighs : MethodName := ⟨RX12, "weighs", "(IIIIIIII)I"⟩
abbrev cX12_meets : ByteArray := prog_14_method_51_code
def yX12_meets : MethodName := ⟨RX12, "meets", "(IIIII)V"⟩
abbrev cX12_spoken : ByteArray := prog_14_method_52_code
def yX12_spoken : MethodName := ⟨RX12, "spoken", "()V"⟩
abbrev cX12_isPeace : ByteArray := prog_14_method_53_code
def yX12_isPeace : MethodName := ⟨RX12, "isPeace", "()Z"⟩
abbrev cX12_slightsFirst : ByteArray := prog_14_method_54_code
def yX12_slightsFirst : MethodName := ⟨RX12, "slightsFirst", "(IZ)V"⟩
abbrev cX12_can : ByteArray := prog_14_method_55_code
def yX12_can : MethodName := ⟨RX12, "can", "(I)Z"⟩
abbrev cX12_does : ByteArray := prog_14_method_56_code
def yX12_does : MethodName := ⟨RX12, "does", "(IZ)V"⟩
abbrev cX12_outcome : ByteArray := prog_14_method_57_code
def yX12_outcome : MethodName := ⟨RX12, "outcome", "()I"⟩
abbrev cX12_place : ByteArray := prog_14_method_58_code
def yX12_place : MethodName := ⟨RX12, "place", "()I"⟩
abbrev cX12_goTo : ByteArray := prog_14_method_59_code
def yX12_goTo : MethodName := ⟨RX12, "goTo", "(I)V"⟩
abbrev cX12_forgets : ByteArray := prog_14_method_60_code
def yX12_forgets : MethodName := ⟨RX12, "forgets", "()V"⟩
abbrev cX12_worth : ByteArray := prog_14_method_61_code
def yX12_worth : MethodName := ⟨RX12, "worth", "(II)I"⟩
abbrev cX12_spreads : ByteArray := prog_14_method_62_code
def yX12_spreads : MethodName := ⟨RX12, "spreads", "()V"⟩
abbrev cX12_works : ByteArray := prog_14_method_63_code
def yX12_works : MethodName := ⟨RX12, "works", "(I)V"⟩
abbrev cX12_plays : ByteArray := prog_14_method_64_code
def yX12_plays : MethodName := ⟨RX12, "plays", "()I"⟩
abbrev cX12_isQuarrel : ByteArray := prog_14_method_65_code
def yX12_isQuarrel : MethodName := ⟨RX12, "isQuarrel", "(I)Z"⟩
abbrev cX12_party : ByteArray := prog_14_method_66_code
def yX12_party : MethodName := ⟨RX12, "party", "(I)V"⟩
abbrev cX12_load : ByteArray := prog_14_method_67_code
def yX12_load : MethodName := ⟨RX12, "load", "(II)V"⟩
abbrev cX12_loadLast : ByteArray := prog_14_method_68_code
def yX12_loadLast : MethodName := ⟨RX12, "loadLast", "(I)V"⟩
abbrev cX12_writes : ByteArray := prog_14_method_69_code
def yX12_writes : MethodName := ⟨RX12, "writes", "(II)V"⟩
abbrev cX12_quarrel : ByteArray := prog_14_method_70_code
def yX12_quarrel : MethodName := ⟨RX12, "quarrel", "(IIII)I"⟩
abbrev cX12_isOn : ByteArray := prog_14_method_71_code
def yX12_isOn : MethodName := ⟨RX12, "isOn", "(I)Z"⟩
abbrev cX12_state : ByteArray := prog_14_method_72_code
def yX12_state : MethodName := ⟨RX12, "state", "(II)I"⟩
abbrev cX12_may : ByteArray := prog_14_method_73_code
def yX12_may : MethodName := ⟨RX12, "may", "(I)I"⟩
abbrev cX12_move : ByteArray := prog_14_method_74_code
def yX12_move : MethodName := ⟨RX12, "move", "(II)I"⟩
abbrev cX12_history : ByteArray := prog_14_method_75_code
def yX12_history : MethodName := ⟨RX12, "history", "(II)I"⟩
abbrev cX12_worksFrom : ByteArray := prog_14_method_76_code
def yX12_worksFrom : MethodName := ⟨RX12, "worksFrom", "(II)I"⟩
abbrev cX12_ends : ByteArray := prog_14_method_77_code
def yX12_ends : MethodName := ⟨RX12, "ends", "(I)I"⟩
abbrev cX12_ways : ByteArray := prog_14_method_78_code
def yX12_ways : MethodName := ⟨RX12, "ways", "(II)J"⟩
abbrev cX12_brief : ByteArray := prog_14_method_79_code
def yX12_brief : MethodName := ⟨RX12, "brief", "(III)I"⟩
abbrev cX12_mustField : ByteArray := prog_14_method_80_code
def yX12_mustField : MethodName := ⟨RX12, "mustField", "()Z"⟩
abbrev cX12_must : ByteArray := prog_14_method_81_code
def yX12_must : MethodName := ⟨RX12, "must", "(I)I"⟩
abbrev cX12_late : ByteArray := prog_14_method_82_code
def yX12_late : MethodName := ⟨RX12, "late", "(I)I"⟩
abbrev cX12_game : ByteArray := prog_14_method_83_code
def yX12_game : MethodName := ⟨RX12, "game", "(II)I"⟩
abbrev cX12_otherwise : ByteArray := prog_14_method_84_code
def yX12_otherwise : MethodName := ⟨RX12, "otherwise", "(III)I"⟩
abbrev cX12_again : ByteArray := prog_14_method_85_code
def yX12_again : MethodName := ⟨RX12, "again", "(II)V"⟩
abbrev cX12_doubt : ByteArray := prog_14_method_86_code
def yX12_doubt : MethodName := ⟨RX12, "doubt", "(II)I"⟩
abbrev cX12_hangs : ByteArray := prog_14_method_87_code
def yX12_hangs : MethodName := ⟨RX12, "hangs", "(I)I"⟩
abbrev cX12_thinks : ByteArray := prog_14_method_88_code
def yX12_thinks : MethodName := ⟨RX12, "thinks", "(III)I"⟩
abbrev cX12_firstOf : ByteArray := prog_14_method_89_code
def yX12_firstOf : MethodName := ⟨RX12, "firstOf", "(I)I"⟩
abbrev cX12_waitsFor : ByteArray := prog_14_method_90_code
def yX12_waitsFor : MethodName := ⟨RX12, "waitsFor", "(I)I"⟩
abbrev cX12_waits : ByteArray := prog_14_method_91_code
def yX12_waits : MethodName := ⟨RX12, "waits", "(I)I"⟩
abbrev cX12_ring : ByteArray := prog_14_method_92_code
def yX12_ring : MethodName := ⟨RX12, "ring", "(I)I"⟩
abbrev cX12_first : ByteArray := prog_14_method_93_code
def yX12_first : MethodName := ⟨RX12, "first", "(I)I"⟩
abbrev cX12_endsInField : ByteArray := prog_14_method_94_code
def yX12_endsInField : MethodName := ⟨RX12, "endsInField", "(IIIII)Z"⟩
abbrev cX12_harsh : ByteArray := prog_14_method_95_code
def yX12_harsh : MethodName := ⟨RX12, "harsh", "(IIII)I"⟩
abbrev cX12_bits : ByteArray := prog_14_method_96_code
def yX12_bits : MethodName := ⟨RX12, "bits", "(I)I"⟩
abbrev cX12_mend : ByteArray := prog_14_method_97_code
def yX12_mend : MethodName := ⟨RX12, "mend", "(IIIII)I"⟩
abbrev cX12_image : ByteArray := prog_14_method_98_code
def yX12_image : MethodName := ⟨RX12, "image", "(I)I"⟩
abbrev cX12_back : ByteArray := prog_14_method_99_code
def yX12_back : MethodName := ⟨RX12, "back", "(I)I"⟩
abbrev cX12_count : ByteArray := prog_14_method_100_code
def yX12_count : MethodName := ⟨RX12, "count", "(I)I"⟩
def RJ6 : String := "java/lang/Integer"
def TJ6 : u_T := fun k => match k with
  | _ => ("", "", "", false)
def tyJ6 : Nat → FieldType := fun k => match k with
  | _ => .int
abbrev wsJ60 : List Cond := u_ws RJ6 TJ6 0
theorem nmJ6 : ∀ a, a < 0 → ∀ b, b < 0 → a ≠ b → (TJ6 a).2.1 ≠ (TJ6 b).2.1 := by decide +kernel
theorem tyJ6_ok : ∀ k, k < 0 → parseFieldDescriptor (TJ6 k).2.2.1 = some (tyJ6 k) := by decide +kernel
abbrev cJ6_bitCount_0f7a4 : ByteArray := prog_15_method_49_code
def yJ6_bitCount_0f7a4 : MethodName := ⟨RJ6, "bitCount", "(I)I"⟩
def RJ9 : String := "java/lang/Math"
def TJ9 : u_T := fun k => match k with
  | _ => ("", "", "", false)
def tyJ9 : Nat → FieldType := fun k => match k with
  | _ => .int
abbrev wsJ90 : List Cond := u_ws RJ9 TJ9 0
theorem nmJ9 : ∀ a, a < 0 → ∀ b, b < 0 → a ≠ b → (TJ9 a).2.1 ≠ (TJ9 b).2.1 := by decide +kernel
theorem tyJ9_ok : ∀ k, k < 0 → parseFieldDescriptor (TJ9 k).2.2.1 = some (tyJ9 k) := by decide +kernel
abbrev cJ9_max_7cf53 : ByteArray := prog_16_method_65_code
def yJ9_max_7cf53 : MethodName := ⟨RJ9, "max", "(II)I"⟩
abbrev cJ9_min_7cf53 : ByteArray := prog_16_method_69_code
def yJ9_min_7cf53 : MethodName := ⟨RJ9, "min", "(II)I"⟩
def RJ0 : String := "java/lang/String"
def TJ0 : u_T := fun k => match k with
  | _ => ("", "", "", false)
def tyJ0 : Nat → FieldType := fun k => match k with
  | _ => .int
abbrev wsJ00 : List Cond := u_ws RJ0 TJ0 0
theorem nmJ0 : ∀ a, a < 0 → ∀ b, b < 0 → a ≠ b → (TJ0 a).2.1 ≠ (TJ0 b).2.1 := by decide +kernel
theorem tyJ0_ok : ∀ k, k < 0 → parseFieldDescriptor (TJ0 k).2.2.1 = some (tyJ0 k) := by decide +kernel
abbrev cJ0_length_8abf5 : ByteArray := prog_17_method_54_code
def yJ0_length_8abf5 : MethodName := ⟨RJ0, "length", "()I"⟩
abbrev cJ0_charAt_5068e : ByteArray := prog_17_method_56_code
def yJ0_charAt_5068e : MethodName := ⟨RJ0, "charAt", "(I)C"⟩
abbrev cJ0_coder_7d493 : ByteArray := prog_17_method_152_code
def yJ0_coder_7d493 : MethodName := ⟨RJ0, "coder", "()B"⟩
abbrev cJ0_isLatin1_aae02 : ByteArray := prog_17_method_154_code
def yJ0_isLatin1_aae02 : MethodName := ⟨RJ0, "isLatin1", "()Z"⟩
abbrev cJ0_checkIndex_df160 : ByteArray := prog_17_method_155_code
def yJ0_checkIndex_df160 : MethodName := ⟨RJ0, "checkIndex", "(II)V"⟩
def RJ1 : String := "java/lang/StringLatin1"
def TJ1 : u_T := fun k => match k with
  | _ => ("", "", "", false)
def tyJ1 : Nat → FieldType := fun k => match k with
  | _ => .int
abbrev wsJ10 : List Cond := u_ws RJ1 TJ1 0
theorem nmJ1 : ∀ a, a < 0 → ∀ b, b < 0 → a ≠ b → (TJ1 a).2.1 ≠ (TJ1 b).2.1 := by decide +kernel
theorem tyJ1_ok : ∀ k, k < 0 → parseFieldDescriptor (TJ1 k).2.2.1 = some (tyJ1 k) := by decide +kernel
abbrev cJ1_charAt_3b067 : ByteArray := prog_18_method_2_code
def yJ1_charAt_3b067 : MethodName := ⟨RJ1, "charAt", "([BI)C"⟩
def RJ2 : String := "java/lang/StringUTF16"
def TJ2 : u_T := fun k => match k with
  | _ => ("", "", "", false)
def tyJ2 : Nat → FieldType := fun k => match k with
  | _ => .int
abbrev wsJ20 : List Cond := u_ws RJ2 TJ2 0
theorem nmJ2 : ∀ a, a < 0 → ∀ b, b < 0 → a ≠ b → (TJ2 a).2.1 ≠ (TJ2 b).2.1 := by decide +kernel
theorem tyJ2_ok : ∀ k, k < 0 → parseFieldDescriptor (TJ2 k).2.2.1 = some (tyJ2 k) := by decide +kernel
abbrev cJ2_getChar_3b067 : ByteArray := prog_19_method_5_code
def yJ2_getChar_3b067 : MethodName := ⟨RJ2, "getChar", "([BI)C"⟩
abbrev cJ2_length_9d52b : ByteArray := prog_19_method_6_code
def yJ2_length_9d52b : MethodName := ⟨RJ2, "length", "([B)I"⟩
abbrev cJ2_charAt_3b067 : ByteArray := prog_19_method_83_code
def yJ2_charAt_3b067 : MethodName := ⟨RJ2, "charAt", "([BI)C"⟩
abbrev cJ2_checkIndex_2214a : ByteArray := prog_19_method_91_code
def yJ2_checkIndex_2214a : MethodName := ⟨RJ2, "checkIndex", "(I[B)V"⟩
def RJ3 : String := "jdk/internal/util/Preconditions"
def TJ3 : u_T := fun k => match k with
  | _ => ("", "", "", false)
def tyJ3 : Nat → FieldType := fun k => match k with
  | _ => .int
abbrev wsJ30 : List Cond := u_ws RJ3 TJ3 0
theorem nmJ3 : ∀ a, a < 0 → ∀ b, b < 0 → a ≠ b → (TJ3 a).2.1 ≠ (TJ3 b).2.1 := by decide +kernel
theorem tyJ3_ok : ∀ k, k < 0 → parseFieldDescriptor (TJ3 k).2.2.1 = some (tyJ3 k) := by decide +kernel
abbrev cJ3_checkIndex_8e157 : ByteArray := prog_20_method_11_code
def yJ3_checkIndex_8e157 : MethodName := ⟨RJ3, "checkIndex", "(IILjava/util/function/BiFunction;)I"⟩
def RL : String := "TwoCardsLaw"
abbrev cL_law : ByteArray := code
def yL_law : MethodName := ⟨RL, "law", "([I)Z"⟩
def wsL_law_r1 : List Cond := [Cond.classLink RL 7 RX11, Cond.instantiable RX11 11, Cond.initialized RX11, Cond.classLink RL 10 RX12, Cond.instantiable RX12 46, Cond.initialized RX12, Cond.methodLink RL 9 yX11_init, Cond.instanceMethod yX11_init, Cond.code yX11_init cX11_init 2 none, Cond.methodLink RX11 3 objectInit, Cond.instanceMethod objectInit, Cond.code objectInit ⟨#[0xb1]⟩ 1 none, Cond.classLink RX11 9 RX8, Cond.instantiable RX8 2, Cond.initialized RX8, Cond.fieldLink RX11 12 "TwoCards" "tape" "LTwoCards$Tape;", Cond.classLink RX11 16 RX2, Cond.fieldLink RX11 18 "TwoCards" "codes" "[LTwoCards$Code;", Cond.instantiable RX2 12, Cond.initialized RX2, Cond.fieldLink RX11 23 "TwoCards" "blank" "LTwoCards$Code;", Cond.classLink RX11 27 RX5, Cond.instantiable RX5 6, Cond.initialized RX5]
def wsL_law_r2 : List Cond := [Cond.fieldLink RX11 30 "TwoCards" "reader" "LTwoCards$Reader;", Cond.classLink RX11 34 RX1, Cond.instantiable RX1 9, Cond.initialized RX1, Cond.fieldLink RX11 37 "TwoCards" "book" "LTwoCards$Book;", Cond.fieldLink RX11 41 "TwoCards" "images" "[LTwoCards$Book;", Cond.classLink RX11 45 RX6, Cond.instantiable RX6 1, Cond.initialized RX6, Cond.fieldLink RX11 48 "TwoCards" "sight" "LTwoCards$Sight;", Cond.classLink RX11 52 RX0, Cond.instantiable RX0 9, Cond.initialized RX0, Cond.fieldLink RX11 55 "TwoCards" "affair" "LTwoCards$Affair;", Cond.classLink RX11 59 RX3, Cond.instantiable RX3 2, Cond.initialized RX3, Cond.fieldLink RX11 62 "TwoCards" "play" "LTwoCards$Game;", Cond.classLink RX11 66 RX10, Cond.instantiable RX10 9, Cond.initialized RX10, Cond.fieldLink RX11 69 "TwoCards" "walk" "LTwoCards$Walk;", Cond.instanceMethod yX8_init, Cond.code yX8_init cX8_init 1 none]
def wsL_law_r3 : List Cond := [Cond.methodLink RX8 3 objectInit, Cond.arrayClass .int, Cond.fieldLink RX8 9 "TwoCards$Tape" "bytes" "[I", Cond.instanceMethod yX2_init, Cond.code yX2_init cX2_init 1 none, Cond.methodLink RX2 5 objectInit, Cond.fieldLink RX2 11 "TwoCards$Code" "sorts" "[I", Cond.fieldLink RX2 15 "TwoCards$Code" "kinds" "[I", Cond.fieldLink RX2 18 "TwoCards$Code" "numbers" "[I", Cond.fieldLink RX2 21 "TwoCards$Code" "starts" "[I", Cond.fieldLink RX2 24 "TwoCards$Code" "stops" "[I", Cond.fieldLink RX2 27 "TwoCards$Code" "steps" "[I", Cond.fieldLink RX2 30 "TwoCards$Code" "stack" "[I", Cond.fieldLink RX2 33 "TwoCards$Code" "ask" "I", Cond.fieldLink RX2 37 "TwoCards$Code" "hours" "I", Cond.fieldLink RX2 40 "TwoCards$Code" "must" "I", Cond.instanceMethod yX5_init, Cond.code yX5_init cX5_init 1 none, Cond.methodLink RX5 3 objectInit, Cond.classLink RX5 9 RX9, Cond.instantiable RX9 4, Cond.initialized RX9, Cond.fieldLink RX5 12 "TwoCards$Reader" "tokens" "LTwoCards$Tokens;", Cond.classLink RX5 18 RX2]
def wsL_law_r4 : List Cond := [Cond.fieldLink RX5 21 "TwoCards$Reader" "code" "LTwoCards$Code;", Cond.instanceMethod yX9_init, Cond.code yX9_init cX9_init 1 none, Cond.methodLink RX9 3 objectInit, Cond.fieldLink RX9 9 "TwoCards$Tokens" "kinds" "[I", Cond.fieldLink RX9 15 "TwoCards$Tokens" "places" "[I", Cond.fieldLink RX9 18 "TwoCards$Tokens" "numbers" "[I", Cond.methodLink RX11 36 yX1_init, Cond.instanceMethod yX1_init, Cond.code yX1_init cX1_init 2 none, Cond.methodLink RX1 3 objectInit, Cond.fieldLink RX1 9 "TwoCards$Book" "ages" "[I", Cond.fieldLink RX1 15 "TwoCards$Book" "ranks" "[I", Cond.fieldLink RX1 18 "TwoCards$Book" "houses" "[I", Cond.fieldLink RX1 21 "TwoCards$Book" "kept" "[I", Cond.fieldLink RX1 24 "TwoCards$Book" "owing" "[I", Cond.classLink RX1 27 RX4, Cond.fieldLink RX1 29 "TwoCards$Book" "quarrels" "[LTwoCards$Quarrel;", Cond.instantiable RX4 8, Cond.initialized RX4, Cond.instanceMethod yX4_init, Cond.code yX4_init cX4_init 1 none, Cond.methodLink RX4 3 objectInit, Cond.fieldLink RX4 9 "TwoCards$Quarrel" "moves" "[I"]
def wsL_law_r5 : List Cond := [Cond.fieldLink RX4 15 "TwoCards$Quarrel" "states" "[I", Cond.instanceMethod yX6_init, Cond.code yX6_init cX6_init 1 none, Cond.methodLink RX6 1 objectInit, Cond.fieldLink RX6 9 "TwoCards$Sight" "values" "[I", Cond.instanceMethod yX0_init, Cond.code yX0_init cX0_init 1 none, Cond.methodLink RX0 3 objectInit, Cond.classLink RX0 9 RX6, Cond.fieldLink RX0 12 "TwoCards$Affair" "ofFirst" "LTwoCards$Sight;", Cond.fieldLink RX0 18 "TwoCards$Affair" "ofSecond" "LTwoCards$Sight;", Cond.classLink RX0 21 RX2, Cond.fieldLink RX0 24 "TwoCards$Affair" "firstCode" "LTwoCards$Code;", Cond.fieldLink RX0 28 "TwoCards$Affair" "secondCode" "LTwoCards$Code;", Cond.fieldLink RX0 31 "TwoCards$Affair" "seen" "[I", Cond.fieldLink RX0 35 "TwoCards$Affair" "marks" "[I", Cond.instanceMethod yX3_init, Cond.code yX3_init cX3_init 1 none, Cond.methodLink RX3 3 objectInit, Cond.fieldLink RX3 9 "TwoCards$Game" "known" "[I", Cond.instanceMethod yX10_init, Cond.code yX10_init cX10_init 1 none, Cond.methodLink RX10 3 objectInit, Cond.fieldLink RX10 9 "TwoCards$Walk" "states" "[I"]
def wsL_law_r6 : List Cond := [Cond.arrayClass .long, Cond.fieldLink RX10 15 "TwoCards$Walk" "counts" "[J", Cond.fieldLink RX10 19 "TwoCards$Walk" "origins" "[I", Cond.fieldLink RX10 22 "TwoCards$Walk" "places" "[I", Cond.fieldLink RX10 25 "TwoCards$Walk" "waysTo" "[J", Cond.fieldLink RX10 28 "TwoCards$Walk" "firstTo" "[I", Cond.methodLink RL 12 yX12_init, Cond.instanceMethod yX12_init, Cond.code yX12_init cX12_init 1 none, Cond.methodLink RX12 1 objectInit, Cond.fieldLink RX12 7 "TwoCardsModel" "person" "[I", Cond.fieldLink RX12 13 "TwoCardsModel" "owes" "[I", Cond.arrayClass .byte, Cond.fieldLink RX12 16 "TwoCardsModel" "tape" "[B", Cond.fieldLink RX12 20 "TwoCardsModel" "row" "[I", Cond.fieldLink RX12 23 "TwoCardsModel" "length" "[I", Cond.fieldLink RX12 26 "TwoCardsModel" "clause" "[I", Cond.fieldLink RX12 29 "TwoCardsModel" "clauses" "[I", Cond.fieldLink RX12 32 "TwoCardsModel" "all" "[I", Cond.fieldLink RX12 35 "TwoCardsModel" "ask" "[I", Cond.fieldLink RX12 38 "TwoCardsModel" "hours" "[I", Cond.fieldLink RX12 41 "TwoCardsModel" "must" "[I", Cond.fieldLink RX12 44 "TwoCardsModel" "open" "[I", Cond.fieldLink RX12 47 "TwoCardsModel" "word" "[I"]
def wsL_law_r7 : List Cond := [Cond.fieldLink RX12 50 "TwoCardsModel" "stack" "[I", Cond.fieldLink RX12 53 "TwoCardsModel" "who" "[I", Cond.fieldLink RX12 56 "TwoCardsModel" "keep" "[I", Cond.fieldLink RX12 59 "TwoCardsModel" "owed" "[I", Cond.arrayClass .boolean, Cond.fieldLink RX12 62 "TwoCardsModel" "comes" "[Z", Cond.fieldLink RX12 66 "TwoCardsModel" "gameOf" "[I", Cond.fieldLink RX12 69 "TwoCardsModel" "gameMove" "[I", Cond.fieldLink RX12 72 "TwoCardsModel" "endsOf" "[I", Cond.fieldLink RX12 75 "TwoCardsModel" "waysOf" "[J", Cond.fieldLink RX12 79 "TwoCardsModel" "briefOf" "[I", Cond.fieldLink RX12 82 "TwoCardsModel" "told" "[I", Cond.fieldLink RX12 85 "TwoCardsModel" "images" "[I", Cond.fieldLink RX12 88 "TwoCardsModel" "isMade" "[Z", Cond.methodLink RL 13 yX11_person, Cond.instanceMethod yX11_person, Cond.selects RX11 yX11_person yX11_person, Cond.code yX11_person cX11_person 4 (some .int), Cond.methodLink RX11 73 yX11_isWithin, Cond.static yX11_isWithin, Cond.code yX11_isWithin cX11_isWithin 3 (some .boolean), Cond.methodLink RX11 77 yX1_addPerson, Cond.instanceMethod yX1_addPerson, Cond.selects RX1 yX1_addPerson yX1_addPerson]
def wsL_law_r8 : List Cond := [Cond.code yX1_addPerson cX1_addPerson 5 (some .int), Cond.fieldLink RX1 34 "TwoCards$Book" "peopleCount" "I", Cond.methodLink RL 17 yX12_person, Cond.instanceMethod yX12_person, Cond.selects RX12 yX12_person yX12_person, Cond.code yX12_person cX12_person 5 (some .int), Cond.fieldLink RX12 91 "TwoCardsModel" "people" "I", Cond.constantLong RX12 95 (99), Cond.constantLong RX12 101 (9), Cond.methodLink RX12 97 yX12_in, Cond.static yX12_in, Cond.code yX12_in cX12_in 6 (some .boolean), Cond.methodLink RL 18 yX11_debt, Cond.instanceMethod yX11_debt, Cond.selects RX11 yX11_debt yX11_debt, Cond.code yX11_debt cX11_debt 4 (some .boolean), Cond.methodLink RX11 81 yX11_areTwo, Cond.instanceMethod yX11_areTwo, Cond.selects RX11 yX11_areTwo yX11_areTwo, Cond.code yX11_areTwo cX11_areTwo 3 (some .boolean), Cond.methodLink RX11 107 yX1_hasPerson, Cond.instanceMethod yX1_hasPerson, Cond.selects RX1 yX1_hasPerson yX1_hasPerson, Cond.code yX1_hasPerson cX1_hasPerson 2 (some .boolean)]
def wsL_law_r9 : List Cond := [Cond.methodLink RX11 85 yX1_isOwing, Cond.instanceMethod yX1_isOwing, Cond.selects RX1 yX1_isOwing yX1_isOwing, Cond.code yX1_isOwing cX1_isOwing 3 (some .boolean), Cond.methodLink RX1 38 yX1_hasPerson, Cond.methodLink RX11 88 yX1_setOwing, Cond.instanceMethod yX1_setOwing, Cond.selects RX1 yX1_setOwing yX1_setOwing, Cond.code yX1_setOwing cX1_setOwing 5 none, Cond.methodLink RL 22 yX12_debt, Cond.instanceMethod yX12_debt, Cond.selects RX12 yX12_debt yX12_debt, Cond.code yX12_debt cX12_debt 4 (some .boolean), Cond.methodLink RX12 107 yX12_areTwo, Cond.instanceMethod yX12_areTwo, Cond.selects RX12 yX12_areTwo yX12_areTwo, Cond.code yX12_areTwo cX12_areTwo 3 (some .boolean), Cond.methodLink RX12 103 yX12_isPerson, Cond.instanceMethod yX12_isPerson, Cond.selects RX12 yX12_isPerson yX12_isPerson, Cond.code yX12_isPerson cX12_isPerson 2 (some .boolean), Cond.methodLink RL 23 yX11_feed, Cond.instanceMethod yX11_feed, Cond.selects RX11 yX11_feed yX11_feed]
def wsL_law_r10 : List Cond := [Cond.code yX11_feed cX11_feed 6 (some .int), Cond.fieldLink RX11 92 "TwoCards$Tape" "length" "I", Cond.methodLink RX11 96 yX8_add, Cond.instanceMethod yX8_add, Cond.selects RX8 yX8_add yX8_add, Cond.code yX8_add cX8_add 3 none, Cond.fieldLink RX8 15 "TwoCards$Tape" "length" "I", Cond.methodLink RL 27 yX12_feed, Cond.instanceMethod yX12_feed, Cond.selects RX12 yX12_feed yX12_feed, Cond.code yX12_feed cX12_feed 6 (some .int), Cond.fieldLink RX12 111 "TwoCardsModel" "taped" "I", Cond.methodLink RX12 114 yX12_four, Cond.instanceMethod yX12_four, Cond.selects RX12 yX12_four yX12_four, Cond.code yX12_four cX12_four 3 none, Cond.methodLink RL 28 yX11_end, Cond.instanceMethod yX11_end, Cond.selects RX11 yX11_end yX11_end, Cond.code yX11_end cX11_end 2 (some .int), Cond.methodLink RL 32 yX12_end, Cond.instanceMethod yX12_end, Cond.selects RX12 yX12_end yX12_end, Cond.code yX12_end cX12_end 2 (some .int)]
def wsL_law_r11 : List Cond := [Cond.methodLink RL 33 yX11_code, Cond.instanceMethod yX11_code, Cond.selects RX11 yX11_code yX11_code, Cond.code yX11_code cX11_code 2 (some .int), Cond.fieldLink RX11 100 "TwoCards" "codeCount" "I", Cond.methodLink RX11 103 yX5_read, Cond.instanceMethod yX5_read, Cond.selects RX5 yX5_read yX5_read, Cond.code yX5_read cX5_read 4 (some .int), Cond.fieldLink RX5 32 "TwoCards$Reader" "at" "I", Cond.fieldLink RX5 36 "TwoCards$Reader" "parts" "I", Cond.fieldLink RX5 39 "TwoCards$Reader" "fault" "I", Cond.fieldLink RX5 46 "TwoCards$Reader" "isTested" "Z", Cond.methodLink RX5 25 yX9_take, Cond.instanceMethod yX9_take, Cond.selects RX9 yX9_take yX9_take, Cond.code yX9_take cX9_take 6 none, Cond.fieldLink RX9 21 "TwoCards$Tokens" "size" "I", Cond.fieldLink RX9 25 "TwoCards$Tape" "length" "I", Cond.methodLink RX9 30 yX8_byteAt, Cond.instanceMethod yX8_byteAt, Cond.selects RX8 yX8_byteAt yX8_byteAt, Cond.code yX8_byteAt cX8_byteAt 2 (some .int), Cond.methodLink RX9 34 yX9_isLetter]
def wsL_law_r12 : List Cond := [Cond.static yX9_isLetter, Cond.code yX9_isLetter cX9_isLetter 1 (some .boolean), Cond.methodLink RX9 38 yX9_wordEnd, Cond.static yX9_wordEnd, Cond.code yX9_wordEnd cX9_wordEnd 3 (some .int), Cond.methodLink RX9 42 yX9_wordOf, Cond.static yX9_wordOf, Cond.code yX9_wordOf cX9_wordOf 7 (some .int), Cond.methodLink RX9 65 yJ0_length_8abf5, Cond.instanceMethod yJ0_length_8abf5, Cond.selects RJ0 yJ0_length_8abf5 yJ0_length_8abf5, Cond.initialized RJ0, Cond.code yJ0_length_8abf5 cJ0_length_8abf5 1 (some .int), Cond.fieldLink RJ0 9 "java/lang/String" "value" "[B", Cond.methodLink RJ0 335 yJ0_coder_7d493, Cond.instanceMethod yJ0_coder_7d493, Cond.selects RJ0 yJ0_coder_7d493 yJ0_coder_7d493, Cond.code yJ0_coder_7d493 cJ0_coder_7d493 1 (some .byte), Cond.fieldLink RJ0 38 "java/lang/String" "COMPACT_STRINGS" "Z", Cond.fieldLink RJ0 15 "java/lang/String" "coder" "B", Cond.methodLink RX9 70 yJ0_charAt_5068e, Cond.instanceMethod yJ0_charAt_5068e, Cond.selects RJ0 yJ0_charAt_5068e yJ0_charAt_5068e, Cond.code yJ0_charAt_5068e cJ0_charAt_5068e 2 (some .char)]
def wsL_law_r13 : List Cond := [Cond.methodLink RJ0 492 yJ0_isLatin1_aae02, Cond.instanceMethod yJ0_isLatin1_aae02, Cond.selects RJ0 yJ0_isLatin1_aae02 yJ0_isLatin1_aae02, Cond.code yJ0_isLatin1_aae02 cJ0_isLatin1_aae02 1 (some .boolean), Cond.methodLink RJ0 495 yJ1_charAt_3b067, Cond.static yJ1_charAt_3b067, Cond.initialized RJ1, Cond.code yJ1_charAt_3b067 cJ1_charAt_3b067 2 (some .char), Cond.methodLink RJ1 9 yJ0_checkIndex_df160, Cond.static yJ0_checkIndex_df160, Cond.code yJ0_checkIndex_df160 cJ0_checkIndex_df160 2 none, Cond.fieldLink RJ0 1053 "jdk/internal/util/Preconditions" "SIOOBE_FORMATTER" "Ljava/util/function/BiFunction;", Cond.methodLink RJ0 1059 yJ3_checkIndex_8e157, Cond.static yJ3_checkIndex_8e157, Cond.initialized RJ3, Cond.code yJ3_checkIndex_8e157 cJ3_checkIndex_8e157 3 (some .int), Cond.methodLink RJ0 498 yJ2_charAt_3b067, Cond.static yJ2_charAt_3b067, Cond.initialized RJ2, Cond.code yJ2_charAt_3b067 cJ2_charAt_3b067 2 (some .char), Cond.methodLink RJ2 67 yJ2_checkIndex_2214a, Cond.static yJ2_checkIndex_2214a, Cond.code yJ2_checkIndex_2214a cJ2_checkIndex_2214a 2 none, Cond.methodLink RJ2 48 yJ2_length_9d52b]
def wsL_law_r14 : List Cond := [Cond.static yJ2_length_9d52b, Cond.code yJ2_length_9d52b cJ2_length_9d52b 1 (some .int), Cond.methodLink RJ2 414 yJ0_checkIndex_df160, Cond.methodLink RJ2 71 yJ2_getChar_3b067, Cond.static yJ2_getChar_3b067, Cond.code yJ2_getChar_3b067 cJ2_getChar_3b067 2 (some .char), Cond.fieldLink RJ2 44 "java/lang/StringUTF16" "$assertionsDisabled" "Z", Cond.fieldLink RJ2 59 "java/lang/StringUTF16" "HI_BYTE_SHIFT" "I", Cond.fieldLink RJ2 63 "java/lang/StringUTF16" "LO_BYTE_SHIFT" "I", Cond.methodLink RX9 46 yX9_add, Cond.instanceMethod yX9_add, Cond.selects RX9 yX9_add yX9_add, Cond.code yX9_add cX9_add 4 none, Cond.methodLink RX9 50 yX9_isDigit, Cond.static yX9_isDigit, Cond.code yX9_isDigit cX9_isDigit 1 (some .boolean), Cond.methodLink RX9 53 yX9_numberEnd, Cond.static yX9_numberEnd, Cond.code yX9_numberEnd cX9_numberEnd 3 (some .int), Cond.methodLink RX9 56 yX9_numberOf, Cond.static yX9_numberOf, Cond.code yX9_numberOf cX9_numberOf 5 (some .int), Cond.methodLink RX9 59 yX9_signOf, Cond.static yX9_signOf]
def wsL_law_r15 : List Cond := [Cond.code yX9_signOf cX9_signOf 2 (some .int), Cond.methodLink RX5 29 yX2_clear, Cond.instanceMethod yX2_clear, Cond.selects RX2 yX2_clear yX2_clear, Cond.code yX2_clear cX2_clear 1 none, Cond.fieldLink RX2 43 "TwoCards$Code" "stepCount" "I", Cond.fieldLink RX2 46 "TwoCards$Code" "clauses" "I", Cond.methodLink RX5 42 yX5_readHead, Cond.instanceMethod yX5_readHead, Cond.selects RX5 yX5_readHead yX5_readHead, Cond.code yX5_readHead cX5_readHead 2 (some .boolean), Cond.fieldLink RX5 68 "TwoCards$Code" "clauses" "I", Cond.methodLink RX5 64 yX5_wordFrom, Cond.instanceMethod yX5_wordFrom, Cond.selects RX5 yX5_wordFrom yX5_wordFrom, Cond.code yX5_wordFrom cX5_wordFrom 4 (some .int), Cond.methodLink RX5 54 yX9_kindAt, Cond.instanceMethod yX9_kindAt, Cond.selects RX9 yX9_kindAt yX9_kindAt, Cond.code yX9_kindAt cX9_kindAt 2 (some .int), Cond.methodLink RX5 61 yX5_fail, Cond.instanceMethod yX5_fail, Cond.selects RX5 yX5_fail yX5_fail, Cond.code yX5_fail cX5_fail 2 (some .boolean)]
def wsL_law_r16 : List Cond := [Cond.methodLink RX5 121 yX9_placeAt, Cond.instanceMethod yX9_placeAt, Cond.selects RX9 yX9_placeAt yX9_placeAt, Cond.code yX9_placeAt cX9_placeAt 2 (some .int), Cond.methodLink RX5 71 yX2_has, Cond.instanceMethod yX2_has, Cond.selects RX2 yX2_has yX2_has, Cond.code yX2_has cX2_has 3 (some .boolean), Cond.methodLink RX5 74 yX5_readWeight, Cond.instanceMethod yX5_readWeight, Cond.selects RX5 yX5_readWeight yX5_readWeight, Cond.code yX5_readWeight cX5_readWeight 5 (some .boolean), Cond.methodLink RX5 85 yX9_numberAt, Cond.instanceMethod yX9_numberAt, Cond.selects RX9 yX9_numberAt yX9_numberAt, Cond.code yX9_numberAt cX9_numberAt 2 (some .int), Cond.methodLink RX5 88 yX5_takesNumber, Cond.instanceMethod yX5_takesNumber, Cond.selects RX5 yX5_takesNumber yX5_takesNumber, Cond.code yX5_takesNumber cX5_takesNumber 3 (some .boolean), Cond.methodLink RX5 78 yX2_addClause, Cond.instanceMethod yX2_addClause, Cond.selects RX2 yX2_addClause yX2_addClause, Cond.code yX2_addClause cX2_addClause 4 none]
def wsL_law_r17 : List Cond := [Cond.methodLink RX5 58 yX5_takes, Cond.instanceMethod yX5_takes, Cond.selects RX5 yX5_takes yX5_takes, Cond.code yX5_takes cX5_takes 2 (some .boolean), Cond.methodLink RX5 82 yX5_readMeasure, Cond.instanceMethod yX5_readMeasure, Cond.selects RX5 yX5_readMeasure yX5_readMeasure, Cond.code yX5_readMeasure cX5_readMeasure 5 (some .boolean), Cond.methodLink RX5 92 yX2_setMeasure, Cond.instanceMethod yX2_setMeasure, Cond.selects RX2 yX2_setMeasure yX2_setMeasure, Cond.code yX2_setMeasure cX2_setMeasure 3 none, Cond.methodLink RX5 50 yX5_readTest, Cond.instanceMethod yX5_readTest, Cond.selects RX5 yX5_readTest yX5_readTest, Cond.code yX5_readTest cX5_readTest 3 (some .boolean), Cond.methodLink RX5 96 yX5_readPart, Cond.instanceMethod yX5_readPart, Cond.selects RX5 yX5_readPart yX5_readPart, Cond.methodLink RX5 99 yX2_addStep, Cond.instanceMethod yX2_addStep, Cond.selects RX2 yX2_addStep yX2_addStep, Cond.code yX2_addStep cX2_addStep 2 none, Cond.code yX5_readFact cX5_readFact 5 (some .boolean)]
def wsL_law_r18 : List Cond := [Cond.methodLink RX5 106 yX5_readSum, Cond.instanceMethod yX5_readSum, Cond.selects RX5 yX5_readSum yX5_readSum, Cond.code yX5_readSum cX5_readSum 3 (some .boolean), Cond.methodLink RX5 115 yX5_readValue, Cond.instanceMethod yX5_readValue, Cond.selects RX5 yX5_readValue yX5_readValue, Cond.code yX5_readValue cX5_readValue 3 (some .boolean), Cond.methodLink RX5 112 yX5_takesPart, Cond.instanceMethod yX5_takesPart, Cond.selects RX5 yX5_takesPart yX5_takesPart, Cond.code yX5_takesPart cX5_takesPart 1 (some .boolean), Cond.methodLink RX5 109 yX5_comparisonOf, Cond.static yX5_comparisonOf, Cond.code yX5_comparisonOf cX5_comparisonOf 1 (some .int), Cond.methodLink RX5 103 yX5_readFact, Cond.instanceMethod yX5_readFact, Cond.selects RX5 yX5_readFact yX5_readFact, Cond.code yX5_readPart cX5_readPart 3 (some .boolean), Cond.methodLink RL 37 yX12_code, Cond.instanceMethod yX12_code, Cond.selects RX12 yX12_code yX12_code, Cond.code yX12_code cX12_code 2 (some .int), Cond.fieldLink RX12 280 "TwoCardsModel" "codes" "I"]
def wsL_law_r19 : List Cond := [Cond.fieldLink RX12 183 "TwoCardsModel" "text" "I", Cond.fieldLink RX12 121 "TwoCardsModel" "next" "I", Cond.fieldLink RX12 118 "TwoCardsModel" "wrong" "I", Cond.fieldLink RX12 186 "TwoCardsModel" "made" "I", Cond.methodLink RX12 283 yX12_clauseHere, Cond.instanceMethod yX12_clauseHere, Cond.selects RX12 yX12_clauseHere yX12_clauseHere, Cond.code yX12_clauseHere cX12_clauseHere 3 (some .boolean), Cond.constantLong RX12 261 (126909462046836), Cond.constantLong RX12 263 (1650549611), Cond.constantLong RX12 265 (125779836236645), Cond.constantLong RX12 267 (6386539), Cond.constantLong RX12 269 (448546566771), Cond.constantLong RX12 271 (1836413812), Cond.methodLink RX12 124 yX12_see, Cond.instanceMethod yX12_see, Cond.selects RX12 yX12_see yX12_see, Cond.code yX12_see cX12_see 1 (some .int), Cond.methodLink RX12 131 yX12_isWord, Cond.instanceMethod yX12_isWord, Cond.selects RX12 yX12_isWord yX12_isWord, Cond.code yX12_isWord cX12_isWord 6 (some .boolean), Cond.methodLink RX12 128 yX12_isLetter, Cond.instanceMethod yX12_isLetter]
def wsL_law_r20 : List Cond := [Cond.selects RX12 yX12_isLetter yX12_isLetter, Cond.code yX12_isLetter cX12_isLetter 2 (some .boolean), Cond.methodLink RX12 141 yX12_fails, Cond.instanceMethod yX12_fails, Cond.selects RX12 yX12_fails yX12_fails, Cond.code yX12_fails cX12_fails 3 (some .boolean), Cond.methodLink RX12 273 yX12_kinded, Cond.instanceMethod yX12_kinded, Cond.selects RX12 yX12_kinded yX12_kinded, Cond.code yX12_kinded cX12_kinded 5 (some .boolean), Cond.fieldLink RX12 144 "TwoCardsModel" "said" "I", Cond.constantLong RX12 252 (26982), Cond.methodLink RX12 135 yX12_passWord, Cond.instanceMethod yX12_passWord, Cond.selects RX12 yX12_passWord yX12_passWord, Cond.code yX12_passWord cX12_passWord 1 none, Cond.methodLink RX12 246 yX12_kindHere, Cond.instanceMethod yX12_kindHere, Cond.selects RX12 yX12_kindHere yX12_kindHere, Cond.code yX12_kindHere cX12_kindHere 1 (some .int), Cond.constantLong RX12 167 (1819242347), Cond.constantLong RX12 169 (2003792484), Cond.constantLong RX12 171 (7104869), Cond.constantLong RX12 173 (1651273591)]
def wsL_law_r21 : List Cond := [Cond.methodLink RX12 249 yX12_meansHere, Cond.instanceMethod yX12_meansHere, Cond.selects RX12 yX12_meansHere yX12_meansHere, Cond.code yX12_meansHere cX12_meansHere 1 (some .int), Cond.constantLong RX12 175 (6451063), Cond.constantLong RX12 177 (495791010425), Cond.constantLong RX12 179 (119183001281906), Cond.constantLong RX12 181 (123649464756579), Cond.methodLink RX12 189 yX12_number, Cond.instanceMethod yX12_number, Cond.selects RX12 yX12_number yX12_number, Cond.code yX12_number cX12_number 5 (some .boolean), Cond.methodLink RX12 138 yX12_isDigit, Cond.instanceMethod yX12_isDigit, Cond.selects RX12 yX12_isDigit yX12_isDigit, Cond.code yX12_isDigit cX12_isDigit 2 (some .boolean), Cond.methodLink RX12 254 yX12_takesWord, Cond.instanceMethod yX12_takesWord, Cond.selects RX12 yX12_takesWord yX12_takesWord, Cond.code yX12_takesWord cX12_takesWord 3 (some .boolean), Cond.methodLink RX12 257 yX12_weighed, Cond.instanceMethod yX12_weighed, Cond.selects RX12 yX12_weighed yX12_weighed, Cond.code yX12_weighed cX12_weighed 6 (some .boolean)]
def wsL_law_r22 : List Cond := [Cond.methodLink RX12 243 yX12_test, Cond.instanceMethod yX12_test, Cond.selects RX12 yX12_test yX12_test, Cond.code yX12_test cX12_test 3 (some .boolean), Cond.fieldLink RX12 209 "TwoCardsModel" "opened" "I", Cond.fieldLink RX12 216 "TwoCardsModel" "deep" "I", Cond.constantLong RX12 239 (6385252), Cond.constantLong RX12 241 (28530), Cond.methodLink RX12 233 yX12_fact, Cond.instanceMethod yX12_fact, Cond.selects RX12 yX12_fact yX12_fact, Cond.code yX12_fact cX12_fact 3 (some .boolean), Cond.constantLong RX12 219 (7237492), Cond.methodLink RX12 221 yX12_opens, Cond.instanceMethod yX12_opens, Cond.selects RX12 yX12_opens yX12_opens, Cond.code yX12_opens cX12_opens 2 (some .boolean), Cond.methodLink RX12 224 yX12_compare, Cond.instanceMethod yX12_compare, Cond.selects RX12 yX12_compare yX12_compare, Cond.code yX12_compare cX12_compare 5 (some .boolean), Cond.methodLink RX12 206 yX12_sum, Cond.instanceMethod yX12_sum, Cond.selects RX12 yX12_sum yX12_sum]
def wsL_law_r23 : List Cond := [Cond.code yX12_sum cX12_sum 2 (some .boolean), Cond.methodLink RX12 202 yX12_value, Cond.instanceMethod yX12_value, Cond.selects RX12 yX12_value yX12_value, Cond.code yX12_value cX12_value 3 (some .boolean), Cond.methodLink RX12 192 yX12_makes, Cond.instanceMethod yX12_makes, Cond.selects RX12 yX12_makes yX12_makes, Cond.code yX12_makes cX12_makes 2 (some .boolean), Cond.methodLink RX12 195 yX12_puts, Cond.instanceMethod yX12_puts, Cond.selects RX12 yX12_puts yX12_puts, Cond.code yX12_puts cX12_puts 3 none, Cond.methodLink RX12 199 yX12_wordHere, Cond.instanceMethod yX12_wordHere, Cond.selects RX12 yX12_wordHere yX12_wordHere, Cond.code yX12_wordHere cX12_wordHere 1 (some .int), Cond.constantLong RX12 147 (6383461), Cond.constantLong RX12 149 (1918987883), Cond.constantLong RX12 151 (114802116618085), Cond.constantLong RX12 153 (29389342139051627), Cond.constantLong RX12 155 (7039342), Cond.constantLong RX12 157 (1870095731), Cond.constantLong RX12 159 (119165552256371)]
def wsL_law_r24 : List Cond := [Cond.constantLong RX12 161 (1870095716), Cond.constantLong RX12 163 (1835626085), Cond.constantLong RX12 165 (1735356005), Cond.methodLink RX12 236 yX12_closes, Cond.instanceMethod yX12_closes, Cond.selects RX12 yX12_closes yX12_closes, Cond.code yX12_closes cX12_closes 1 none, Cond.methodLink RX12 227 yX12_settles, Cond.instanceMethod yX12_settles, Cond.selects RX12 yX12_settles yX12_settles, Cond.code yX12_settles cX12_settles 2 none, Cond.methodLink RX12 212 yX12_strength, Cond.static yX12_strength, Cond.code yX12_strength cX12_strength 1 (some .int), Cond.methodLink RX12 230 yX12_isInside, Cond.instanceMethod yX12_isInside, Cond.selects RX12 yX12_isInside yX12_isInside, Cond.code yX12_isInside cX12_isInside 2 (some .boolean), Cond.methodLink RX12 276 yX12_sets, Cond.instanceMethod yX12_sets, Cond.selects RX12 yX12_sets yX12_sets, Cond.code yX12_sets cX12_sets 5 (some .boolean), Cond.methodLink RL 38 yX11_keeps, Cond.instanceMethod yX11_keeps]
def wsL_law_r25 : List Cond := [Cond.selects RX11 yX11_keeps yX11_keeps, Cond.code yX11_keeps cX11_keeps 3 (some .boolean), Cond.methodLink RX11 111 yX11_hasCode, Cond.instanceMethod yX11_hasCode, Cond.selects RX11 yX11_hasCode yX11_hasCode, Cond.code yX11_hasCode cX11_hasCode 2 (some .boolean), Cond.methodLink RX11 114 yX1_setCode, Cond.instanceMethod yX1_setCode, Cond.selects RX1 yX1_setCode yX1_setCode, Cond.code yX1_setCode cX1_setCode 3 none, Cond.methodLink RL 42 yX12_keeps, Cond.instanceMethod yX12_keeps, Cond.selects RX12 yX12_keeps yX12_keeps, Cond.code yX12_keeps cX12_keeps 3 (some .boolean), Cond.methodLink RX12 286 yX12_isCode, Cond.instanceMethod yX12_isCode, Cond.selects RX12 yX12_isCode yX12_isCode, Cond.code yX12_isCode cX12_isCode 2 (some .boolean), Cond.methodLink RL 43 yX11_told, Cond.instanceMethod yX11_told, Cond.selects RX11 yX11_told yX11_told, Cond.code yX11_told cX11_told 4 (some .int), Cond.fieldLink RX11 122 "TwoCards$Code" "ask" "I", Cond.fieldLink RX11 125 "TwoCards$Code" "hours" "I"]
def wsL_law_r26 : List Cond := [Cond.fieldLink RX11 128 "TwoCards$Code" "must" "I", Cond.fieldLink RX11 131 "TwoCards$Code" "clauses" "I", Cond.methodLink RX11 118 yX11_codeAt, Cond.instanceMethod yX11_codeAt, Cond.selects RX11 yX11_codeAt yX11_codeAt, Cond.code yX11_codeAt cX11_codeAt 2 (some (.object "TwoCards$Code")), Cond.methodLink RL 47 yX12_told, Cond.instanceMethod yX12_told, Cond.selects RX12 yX12_told yX12_told, Cond.code yX12_told cX12_told 3 (some .int), Cond.constantLong RX12 289 (3), Cond.methodLink RL 48 yX11_weighs, Cond.instanceMethod yX11_weighs, Cond.selects RX11 yX11_weighs yX11_weighs, Cond.code yX11_weighs cX11_weighs 9 (some .int), Cond.methodLink RX11 134 yX6_turnTo, Cond.instanceMethod yX6_turnTo, Cond.selects RX6 yX6_turnTo yX6_turnTo, Cond.code yX6_turnTo cX6_turnTo 5 none, Cond.methodLink RX6 13 yX1_ageOf, Cond.instanceMethod yX1_ageOf, Cond.selects RX1 yX1_ageOf yX1_ageOf, Cond.code yX1_ageOf cX1_ageOf 2 (some .int), Cond.methodLink RX6 19 yX1_rankOf]
def wsL_law_r27 : List Cond := [Cond.instanceMethod yX1_rankOf, Cond.selects RX1 yX1_rankOf yX1_rankOf, Cond.code yX1_rankOf cX1_rankOf 2 (some .int), Cond.methodLink RX6 22 yX1_houseOf, Cond.instanceMethod yX1_houseOf, Cond.selects RX1 yX1_houseOf yX1_houseOf, Cond.code yX1_houseOf cX1_houseOf 2 (some .int), Cond.methodLink RX6 25 yX1_isOwing, Cond.methodLink RX11 138 yX6_setHour, Cond.instanceMethod yX6_setHour, Cond.selects RX6 yX6_setHour yX6_setHour, Cond.code yX6_setHour cX6_setHour 4 none, Cond.methodLink RX11 142 yX2_weight, Cond.instanceMethod yX2_weight, Cond.selects RX2 yX2_weight yX2_weight, Cond.code yX2_weight cX2_weight 4 (some .int), Cond.methodLink RX2 49 yX2_slotOf, Cond.instanceMethod yX2_slotOf, Cond.selects RX2 yX2_slotOf yX2_slotOf, Cond.code yX2_slotOf cX2_slotOf 3 (some .int), Cond.methodLink RX2 53 yX2_holds, Cond.instanceMethod yX2_holds, Cond.selects RX2 yX2_holds yX2_holds, Cond.code yX2_holds cX2_holds 6 (some .boolean)]
def wsL_law_r28 : List Cond := [Cond.methodLink RX2 57 yX6_valueOf, Cond.instanceMethod yX6_valueOf, Cond.selects RX6 yX6_valueOf yX6_valueOf, Cond.code yX6_valueOf cX6_valueOf 2 (some .int), Cond.methodLink RX2 62 yX2_joined, Cond.static yX2_joined, Cond.code yX2_joined cX2_joined 3 (some .int), Cond.methodLink RX11 146 yX2_letsRefuse, Cond.instanceMethod yX2_letsRefuse, Cond.selects RX2 yX2_letsRefuse yX2_letsRefuse, Cond.code yX2_letsRefuse cX2_letsRefuse 3 (some .boolean), Cond.methodLink RL 52 yX12_weighs, Cond.instanceMethod yX12_weighs, Cond.selects RX12 yX12_weighs yX12_weighs, Cond.code yX12_weighs cX12_weighs 9 (some .int), Cond.constantLong RX12 314 (15), Cond.constantLong RX12 316 (8), Cond.methodLink RX12 318 yX12_words, Cond.instanceMethod yX12_words, Cond.selects RX12 yX12_words yX12_words, Cond.code yX12_words cX12_words 7 none, Cond.methodLink RX12 322 yX12_degree, Cond.instanceMethod yX12_degree, Cond.selects RX12 yX12_degree yX12_degree]
def wsL_law_r29 : List Cond := [Cond.code yX12_degree cX12_degree 4 (some .int), Cond.methodLink RX12 311 yX12_weigh, Cond.instanceMethod yX12_weigh, Cond.selects RX12 yX12_weigh yX12_weigh, Cond.code yX12_weigh cX12_weigh 8 (some .int), Cond.fieldLink RX12 304 "TwoCardsModel" "mended" "I", Cond.methodLink RX12 307 yX12_isTrue, Cond.instanceMethod yX12_isTrue, Cond.selects RX12 yX12_isTrue yX12_isTrue, Cond.code yX12_isTrue cX12_isTrue 9 (some .boolean), Cond.fieldLink RX12 291 "TwoCardsModel" "top" "I", Cond.methodLink RX12 294 yX12_push, Cond.instanceMethod yX12_push, Cond.selects RX12 yX12_push yX12_push, Cond.code yX12_push cX12_push 2 none, Cond.methodLink RX12 297 yX12_pop, Cond.instanceMethod yX12_pop, Cond.selects RX12 yX12_pop yX12_pop, Cond.code yX12_pop cX12_pop 1 (some .int), Cond.methodLink RX12 300 yX12_compared, Cond.static yX12_compared, Cond.code yX12_compared cX12_compared 4 (some .int), Cond.methodLink RX12 326 yX12_takes, Cond.instanceMethod yX12_takes]
def wsL_law_r30 : List Cond := [Cond.selects RX12 yX12_takes yX12_takes, Cond.code yX12_takes cX12_takes 4 (some .int), Cond.methodLink RX12 329 yX12_mayRefuse, Cond.instanceMethod yX12_mayRefuse, Cond.selects RX12 yX12_mayRefuse yX12_mayRefuse, Cond.code yX12_mayRefuse cX12_mayRefuse 2 (some .boolean), Cond.methodLink RL 53 yX11_quarrel, Cond.instanceMethod yX11_quarrel, Cond.selects RX11 yX11_quarrel yX11_quarrel, Cond.code yX11_quarrel cX11_quarrel 7 (some .int), Cond.methodLink RX11 150 yX1_codeOf, Cond.instanceMethod yX1_codeOf, Cond.selects RX1 yX1_codeOf yX1_codeOf, Cond.code yX1_codeOf cX1_codeOf 2 (some .int), Cond.methodLink RX11 154 yX1_addQuarrel, Cond.instanceMethod yX1_addQuarrel, Cond.selects RX1 yX1_addQuarrel yX1_addQuarrel, Cond.code yX1_addQuarrel cX1_addQuarrel 6 (some .int), Cond.fieldLink RX1 42 "TwoCards$Book" "quarrelCount" "I", Cond.fieldLink RX1 45 "TwoCards$Quarrel" "first" "I", Cond.fieldLink RX1 48 "TwoCards$Quarrel" "second" "I", Cond.fieldLink RX1 55 "TwoCards$Quarrel" "firstCode" "I", Cond.fieldLink RX1 58 "TwoCards$Quarrel" "secondCode" "I", Cond.fieldLink RX1 61 "TwoCards$Quarrel" "ladies" "I"]
def wsL_law_r31 : List Cond := [Cond.fieldLink RX1 64 "TwoCards$Quarrel" "done" "I", Cond.methodLink RX1 51 yX1_codeOf, Cond.methodLink RX11 157 yX1_quarrelAt, Cond.instanceMethod yX1_quarrelAt, Cond.selects RX1 yX1_quarrelAt yX1_quarrelAt, Cond.code yX1_quarrelAt cX1_quarrelAt 2 (some (.object "TwoCards$Quarrel")), Cond.methodLink RX11 161 yX11_study, Cond.instanceMethod yX11_study, Cond.selects RX11 yX11_study yX11_study, Cond.code yX11_study cX11_study 2 none, Cond.fieldLink RX11 300 "TwoCards$Quarrel" "first" "I", Cond.fieldLink RX11 303 "TwoCards$Quarrel" "second" "I", Cond.fieldLink RX11 306 "TwoCards$Quarrel" "ladies" "I", Cond.fieldLink RX11 309 "TwoCards$Quarrel" "firstCode" "I", Cond.fieldLink RX11 312 "TwoCards$Quarrel" "secondCode" "I", Cond.methodLink RX11 265 yX0_set, Cond.instanceMethod yX0_set, Cond.selects RX0 yX0_set yX0_set, Cond.code yX0_set cX0_set 7 none, Cond.fieldLink RX0 42 "TwoCards$Code" "hours" "I", Cond.methodLink RX0 46 Lib.Math.min.name, Cond.static Lib.Math.min.name, Cond.initialized "java/lang/Math", Cond.code Lib.Math.min.name Lib.Math.min.code 2 (some .int)]
def wsL_law_r32 : List Cond := [Cond.fieldLink RX0 52 "TwoCards$Affair" "hours" "I", Cond.fieldLink RX0 53 "TwoCards$Affair" "raised" "I", Cond.fieldLink RX0 56 "TwoCards$Affair" "mark" "I", Cond.methodLink RX0 38 yX6_turnTo, Cond.methodLink RX11 165 yX0_open, Cond.instanceMethod yX0_open, Cond.selects RX0 yX0_open yX0_open, Cond.code yX0_open cX0_open 5 (some .int), Cond.methodLink RX0 59 yX6_setHour, Cond.methodLink RX0 63 yX2_weight, Cond.methodLink RX0 67 yX7_of, Cond.static yX7_of, Cond.initialized RX7, Cond.code yX7_of cX7_of 5 (some .int), Cond.methodLink RX0 73 yX7_ended, Cond.static yX7_ended, Cond.code yX7_ended cX7_ended 3 (some .int), Cond.methodLink RX11 169 yX4_add, Cond.instanceMethod yX4_add, Cond.selects RX4 yX4_add yX4_add, Cond.code yX4_add cX4_add 3 none, Cond.fieldLink RX4 18 "TwoCards$Quarrel" "done" "I", Cond.methodLink RL 57 yX12_quarrel, Cond.instanceMethod yX12_quarrel]
def wsL_law_r33 : List Cond := [Cond.selects RX12 yX12_quarrel yX12_quarrel, Cond.code yX12_quarrel cX12_quarrel 6 (some .int), Cond.fieldLink RX12 389 "TwoCardsModel" "quarrels" "I", Cond.methodLink RX12 396 yX12_party, Cond.instanceMethod yX12_party, Cond.selects RX12 yX12_party yX12_party, Cond.code yX12_party cX12_party 3 none, Cond.methodLink RX12 392 yX12_meets, Cond.instanceMethod yX12_meets, Cond.selects RX12 yX12_meets yX12_meets, Cond.code yX12_meets cX12_meets 6 none, Cond.fieldLink RX12 332 "TwoCardsModel" "ladiesNow" "I", Cond.fieldLink RX12 335 "TwoCardsModel" "hoursFirst" "I", Cond.methodLink RX12 402 yX12_slightsFirst, Cond.instanceMethod yX12_slightsFirst, Cond.selects RX12 yX12_slightsFirst yX12_slightsFirst, Cond.code yX12_slightsFirst cX12_slightsFirst 3 none, Cond.fieldLink RX12 338 "TwoCardsModel" "turn" "I", Cond.fieldLink RX12 344 "TwoCardsModel" "asked" "I", Cond.fieldLink RX12 341 "TwoCardsModel" "left" "I", Cond.fieldLink RX12 347 "TwoCardsModel" "ended" "I", Cond.fieldLink RX12 350 "TwoCardsModel" "less" "I", Cond.methodLink RX12 353 yX12_spoken, Cond.instanceMethod yX12_spoken]
def wsL_law_r34 : List Cond := [Cond.selects RX12 yX12_spoken yX12_spoken, Cond.code yX12_spoken cX12_spoken 2 none, Cond.methodLink RX12 356 yX12_isPeace, Cond.instanceMethod yX12_isPeace, Cond.selects RX12 yX12_isPeace yX12_isPeace, Cond.code yX12_isPeace cX12_isPeace 1 (some .boolean), Cond.methodLink RX12 405 yX12_writes, Cond.instanceMethod yX12_writes, Cond.selects RX12 yX12_writes yX12_writes, Cond.code yX12_writes cX12_writes 5 none, Cond.methodLink RL 58 yX11_state, Cond.instanceMethod yX11_state, Cond.selects RX11 yX11_state yX11_state, Cond.code yX11_state cX11_state 5 (some .int), Cond.fieldLink RX11 198 "TwoCards$Quarrel" "done" "I", Cond.methodLink RX11 173 yX4_now, Cond.instanceMethod yX4_now, Cond.selects RX4 yX4_now yX4_now, Cond.code yX4_now cX4_now 1 (some .int), Cond.methodLink RX4 22 yX4_stateAt, Cond.instanceMethod yX4_stateAt, Cond.selects RX4 yX4_stateAt yX4_stateAt, Cond.code yX4_stateAt cX4_stateAt 2 (some .int), Cond.methodLink RX11 177 yX7_ending]
def wsL_law_r35 : List Cond := [Cond.static yX7_ending, Cond.code yX7_ending cX7_ending 1 (some .int), Cond.methodLink RX11 182 yX7_less, Cond.static yX7_less, Cond.code yX7_less cX7_less 1 (some .int), Cond.methodLink RX11 185 yX7_owed, Cond.static yX7_owed, Cond.code yX7_owed cX7_owed 2 (some .int), Cond.methodLink RX11 189 yX7_turn, Cond.static yX7_turn, Cond.code yX7_turn cX7_turn 1 (some .int), Cond.methodLink RX11 192 yX7_asked, Cond.static yX7_asked, Cond.code yX7_asked cX7_asked 1 (some .int), Cond.methodLink RX11 195 yX7_left, Cond.static yX7_left, Cond.code yX7_left cX7_left 1 (some .int), Cond.methodLink RL 61 yX12_state, Cond.instanceMethod yX12_state, Cond.selects RX12 yX12_state yX12_state, Cond.code yX12_state cX12_state 3 (some .int), Cond.constantLong RX12 411 (7), Cond.methodLink RX12 408 yX12_isQuarrel, Cond.instanceMethod yX12_isQuarrel]
def wsL_law_r36 : List Cond := [Cond.selects RX12 yX12_isQuarrel yX12_isQuarrel, Cond.code yX12_isQuarrel cX12_isQuarrel 2 (some .boolean), Cond.methodLink RX12 413 yX12_loadLast, Cond.instanceMethod yX12_loadLast, Cond.selects RX12 yX12_loadLast yX12_loadLast, Cond.code yX12_loadLast cX12_loadLast 2 none, Cond.methodLink RX12 399 yX12_load, Cond.instanceMethod yX12_load, Cond.selects RX12 yX12_load yX12_load, Cond.code yX12_load cX12_load 5 none, Cond.methodLink RL 62 yX11_may, Cond.instanceMethod yX11_may, Cond.selects RX11 yX11_may yX11_may, Cond.code yX11_may cX11_may 6 (some .int), Cond.methodLink RX11 201 yX0_allows, Cond.instanceMethod yX0_allows, Cond.selects RX0 yX0_allows yX0_allows, Cond.code yX0_allows cX0_allows 4 (some .boolean), Cond.fieldLink RX0 94 "TwoCards$Code" "ask" "I", Cond.methodLink RX0 77 yX7_ending, Cond.methodLink RX0 81 yX7_asked, Cond.methodLink RX0 84 yX7_turn, Cond.methodLink RX0 87 yX7_owed, Cond.methodLink RX0 90 yX0_codeOf]
def wsL_law_r37 : List Cond := [Cond.instanceMethod yX0_codeOf, Cond.selects RX0 yX0_codeOf yX0_codeOf, Cond.code yX0_codeOf cX0_codeOf 2 (some (.object "TwoCards$Code")), Cond.methodLink RL 65 yX12_may, Cond.instanceMethod yX12_may, Cond.selects RX12 yX12_may yX12_may, Cond.code yX12_may cX12_may 4 (some .int), Cond.methodLink RX12 364 yX12_can, Cond.instanceMethod yX12_can, Cond.selects RX12 yX12_can yX12_can, Cond.code yX12_can cX12_can 3 (some .boolean), Cond.constantLong RX12 359 (10), Cond.methodLink RL 66 yX11_move, Cond.instanceMethod yX11_move, Cond.selects RX11 yX11_move yX11_move, Cond.code yX11_move cX11_move 5 (some .int), Cond.methodLink RX11 204 yX0_after, Cond.instanceMethod yX0_after, Cond.selects RX0 yX0_after yX0_after, Cond.code yX0_after cX0_after 13 (some .int), Cond.methodLink RX0 97 yX0_look, Cond.instanceMethod yX0_look, Cond.selects RX0 yX0_look yX0_look, Cond.code yX0_look cX0_look 7 (some .int)]
def wsL_law_r38 : List Cond := [Cond.methodLink RX0 142 yX7_spot, Cond.static yX7_spot, Cond.code yX7_spot cX7_spot 1 (some .int), Cond.methodLink RX7 16 yX7_left, Cond.methodLink RX7 19 yX7_asked, Cond.methodLink RX0 107 yX7_left, Cond.methodLink RX0 145 yX2_weighing, Cond.instanceMethod yX2_weighing, Cond.selects RX2 yX2_weighing yX2_weighing, Cond.code yX2_weighing cX2_weighing 5 (some .int), Cond.methodLink RX0 149 yX2_letsRefuse, Cond.methodLink RX0 100 yX0_weighed, Cond.instanceMethod yX0_weighed, Cond.selects RX0 yX0_weighed yX0_weighed, Cond.code yX0_weighed cX0_weighed 3 (some .int), Cond.methodLink RX0 139 yX2_numberOf, Cond.instanceMethod yX2_numberOf, Cond.selects RX2 yX2_numberOf yX2_numberOf, Cond.code yX2_numberOf cX2_numberOf 2 (some .int), Cond.methodLink RX0 104 yX0_changed, Cond.static yX0_changed, Cond.code yX0_changed cX0_changed 3 (some .int), Cond.methodLink RX0 133 Lib.Math.max.name, Cond.static Lib.Math.max.name]
def wsL_law_r39 : List Cond := [Cond.code Lib.Math.max.name Lib.Math.max.code 2 (some .int), Cond.methodLink RX0 110 yX0_lessOf, Cond.instanceMethod yX0_lessOf, Cond.selects RX0 yX0_lessOf yX0_lessOf, Cond.code yX0_lessOf cX0_lessOf 3 (some .int), Cond.fieldLink RX0 136 "TwoCards$Code" "must" "I", Cond.methodLink RL 69 yX12_move, Cond.instanceMethod yX12_move, Cond.selects RX12 yX12_move yX12_move, Cond.code yX12_move cX12_move 3 (some .int), Cond.methodLink RX12 367 yX12_does, Cond.instanceMethod yX12_does, Cond.selects RX12 yX12_does yX12_does, Cond.code yX12_does cX12_does 6 none, Cond.methodLink RL 70 yX11_history, Cond.instanceMethod yX11_history, Cond.selects RX11 yX11_history yX11_history, Cond.code yX11_history cX11_history 4 (some .int), Cond.methodLink RX11 208 yX4_moveAt, Cond.instanceMethod yX4_moveAt, Cond.selects RX4 yX4_moveAt yX4_moveAt, Cond.code yX4_moveAt cX4_moveAt 2 (some .int), Cond.methodLink RL 73 yX12_history, Cond.instanceMethod yX12_history]
def wsL_law_r40 : List Cond := [Cond.selects RX12 yX12_history yX12_history, Cond.code yX12_history cX12_history 3 (some .int), Cond.methodLink RL 74 yX11_ends, Cond.instanceMethod yX11_ends, Cond.selects RX11 yX11_ends yX11_ends, Cond.code yX11_ends cX11_ends 3 (some .int), Cond.methodLink RX11 211 yX10_go, Cond.instanceMethod yX10_go, Cond.selects RX10 yX10_go yX10_go, Cond.code yX10_go cX10_go 4 none, Cond.fieldLink RX10 31 "TwoCards$Walk" "mark" "I", Cond.fieldLink RX10 35 "TwoCards$Walk" "size" "I", Cond.fieldLink RX10 44 "TwoCards$Walk" "isOver" "Z", Cond.methodLink RX10 38 yX7_ending, Cond.methodLink RX10 48 yX7_outcome, Cond.static yX7_outcome, Cond.code yX7_outcome cX7_outcome 1 (some .int), Cond.methodLink RX7 7 yX7_ending, Cond.methodLink RX7 13 yX7_less, Cond.methodLink RX10 51 yX10_reach, Cond.instanceMethod yX10_reach, Cond.selects RX10 yX10_reach yX10_reach, Cond.code yX10_reach cX10_reach 5 none, Cond.methodLink RX10 55 yX10_arrive]
def wsL_law_r41 : List Cond := [Cond.instanceMethod yX10_arrive, Cond.selects RX10 yX10_arrive yX10_arrive, Cond.code yX10_arrive cX10_arrive 6 none, Cond.methodLink RX10 72 yX7_spot, Cond.methodLink RX10 58 yX10_spread, Cond.instanceMethod yX10_spread, Cond.selects RX10 yX10_spread yX10_spread, Cond.code yX10_spread cX10_spread 7 none, Cond.methodLink RX10 62 yX0_allows, Cond.methodLink RX10 68 yX0_after, Cond.methodLink RX11 215 yX10_outcomes, Cond.instanceMethod yX10_outcomes, Cond.selects RX10 yX10_outcomes yX10_outcomes, Cond.code yX10_outcomes cX10_outcomes 3 (some .int), Cond.methodLink RL 77 yX12_ends, Cond.instanceMethod yX12_ends, Cond.selects RX12 yX12_ends yX12_ends, Cond.code yX12_ends cX12_ends 3 (some .int), Cond.methodLink RX12 416 yX12_worksFrom, Cond.instanceMethod yX12_worksFrom, Cond.selects RX12 yX12_worksFrom yX12_worksFrom, Cond.code yX12_worksFrom cX12_worksFrom 4 (some .int), Cond.methodLink RX12 371 yX12_place, Cond.instanceMethod yX12_place]
def wsL_law_r42 : List Cond := [Cond.selects RX12 yX12_place yX12_place, Cond.code yX12_place cX12_place 1 (some .int), Cond.methodLink RX12 383 yX12_forgets, Cond.instanceMethod yX12_forgets, Cond.selects RX12 yX12_forgets yX12_forgets, Cond.code yX12_forgets cX12_forgets 2 none, Cond.methodLink RX12 386 yX12_works, Cond.instanceMethod yX12_works, Cond.selects RX12 yX12_works yX12_works, Cond.code yX12_works cX12_works 8 none, Cond.methodLink RX12 374 yX12_spreads, Cond.instanceMethod yX12_spreads, Cond.selects RX12 yX12_spreads yX12_spreads, Cond.code yX12_spreads cX12_spreads 3 none, Cond.methodLink RX12 361 yX12_goTo, Cond.instanceMethod yX12_goTo, Cond.selects RX12 yX12_goTo yX12_goTo, Cond.code yX12_goTo cX12_goTo 3 none, Cond.methodLink RX12 377 yX12_outcome, Cond.instanceMethod yX12_outcome, Cond.selects RX12 yX12_outcome yX12_outcome, Cond.code yX12_outcome cX12_outcome 1 (some .int), Cond.methodLink RX12 380 yX12_worth, Cond.static yX12_worth]
def wsL_law_r43 : List Cond := [Cond.code yX12_worth cX12_worth 4 (some .int), Cond.methodLink RL 78 yX11_ways, Cond.instanceMethod yX11_ways, Cond.selects RX11 yX11_ways yX11_ways, Cond.code yX11_ways cX11_ways 4 (some .long), Cond.constantLong RX11 218 (-1), Cond.methodLink RX11 220 yX10_waysTo, Cond.instanceMethod yX10_waysTo, Cond.selects RX10 yX10_waysTo yX10_waysTo, Cond.code yX10_waysTo cX10_waysTo 2 (some .long), Cond.methodLink RL 82 yX12_ways, Cond.instanceMethod yX12_ways, Cond.selects RX12 yX12_ways yX12_ways, Cond.code yX12_ways cX12_ways 4 (some .long), Cond.constantLong RX12 419 (19), Cond.constantLong RX12 421 (-1), Cond.methodLink RL 83 yX11_brief, Cond.instanceMethod yX11_brief, Cond.selects RX11 yX11_brief yX11_brief, Cond.code yX11_brief cX11_brief 6 (some .int), Cond.methodLink RX11 224 yX10_fewestTo, Cond.instanceMethod yX10_fewestTo, Cond.selects RX10 yX10_fewestTo yX10_fewestTo, Cond.code yX10_fewestTo cX10_fewestTo 5 (some .int)]
def wsL_law_r44 : List Cond := [Cond.methodLink RX11 227 yX10_moveTo, Cond.instanceMethod yX10_moveTo, Cond.selects RX10 yX10_moveTo yX10_moveTo, Cond.code yX10_moveTo cX10_moveTo 6 (some .int), Cond.methodLink RL 86 yX12_brief, Cond.instanceMethod yX12_brief, Cond.selects RX12 yX12_brief yX12_brief, Cond.code yX12_brief cX12_brief 11 (some .int), Cond.methodLink RL 87 yX11_must, Cond.instanceMethod yX11_must, Cond.selects RX11 yX11_must yX11_must, Cond.code yX11_must cX11_must 3 (some .int), Cond.methodLink RX11 230 yX11_mustMeet, Cond.static yX11_mustMeet, Cond.code yX11_mustMeet cX11_mustMeet 1 (some .boolean), Cond.methodLink RL 90 yX12_must, Cond.instanceMethod yX12_must, Cond.selects RX12 yX12_must yX12_must, Cond.code yX12_must cX12_must 2 (some .int), Cond.methodLink RX12 423 yX12_mustField, Cond.instanceMethod yX12_mustField, Cond.selects RX12 yX12_mustField yX12_mustField, Cond.code yX12_mustField cX12_mustField 2 (some .boolean), Cond.methodLink RL 91 yX11_late]
def wsL_law_r45 : List Cond := [Cond.instanceMethod yX11_late, Cond.selects RX11 yX11_late yX11_late, Cond.code yX11_late cX11_late 4 (some .int), Cond.methodLink RX11 233 yX4_stateAt, Cond.methodLink RL 94 yX12_late, Cond.instanceMethod yX12_late, Cond.selects RX12 yX12_late yX12_late, Cond.code yX12_late cX12_late 3 (some .int), Cond.methodLink RL 95 yX11_game, Cond.instanceMethod yX11_game, Cond.selects RX11 yX11_game yX11_game, Cond.code yX11_game cX11_game 5 (some .int), Cond.methodLink RX11 236 yX3_begin, Cond.instanceMethod yX3_begin, Cond.selects RX3 yX3_begin yX3_begin, Cond.code yX3_begin cX3_begin 1 none, Cond.fieldLink RX3 15 "TwoCards$Game" "mark" "I", Cond.methodLink RX11 239 yX3_outcomeFrom, Cond.instanceMethod yX3_outcomeFrom, Cond.selects RX3 yX3_outcomeFrom yX3_outcomeFrom, Cond.code yX3_outcomeFrom cX3_outcomeFrom 3 (some .int), Cond.methodLink RX3 19 yX3_settle, Cond.instanceMethod yX3_settle, Cond.selects RX3 yX3_settle yX3_settle]
def wsL_law_r46 : List Cond := [Cond.code yX3_settle cX3_settle 11 (some .int), Cond.methodLink RX3 23 yX7_ending, Cond.methodLink RX3 29 yX7_outcome, Cond.methodLink RX3 32 yX7_spot, Cond.methodLink RX3 35 yX7_turn, Cond.methodLink RX3 38 yX0_allows, Cond.methodLink RX3 44 yX0_after, Cond.methodLink RX3 48 yX3_worthOf, Cond.static yX3_worthOf, Cond.code yX3_worthOf cX3_worthOf 5 (some .int), Cond.methodLink RX11 243 yX3_moveFrom, Cond.instanceMethod yX3_moveFrom, Cond.selects RX3 yX3_moveFrom yX3_moveFrom, Cond.code yX3_moveFrom cX3_moveFrom 3 (some .int), Cond.methodLink RL 98 yX12_game, Cond.instanceMethod yX12_game, Cond.selects RX12 yX12_game yX12_game, Cond.code yX12_game cX12_game 4 (some .int), Cond.methodLink RL 99 yX11_otherwise, Cond.instanceMethod yX11_otherwise, Cond.selects RX11 yX11_otherwise yX11_otherwise, Cond.code yX11_otherwise cX11_otherwise 8 (some .int), Cond.methodLink RL 102 yX12_otherwise, Cond.instanceMethod yX12_otherwise]
def wsL_law_r47 : List Cond := [Cond.selects RX12 yX12_otherwise yX12_otherwise, Cond.code yX12_otherwise cX12_otherwise 5 (some .int), Cond.methodLink RX12 426 yX12_plays, Cond.instanceMethod yX12_plays, Cond.selects RX12 yX12_plays yX12_plays, Cond.code yX12_plays cX12_plays 2 (some .int), Cond.methodLink RL 103 yX11_doubt, Cond.instanceMethod yX11_doubt, Cond.selects RX11 yX11_doubt yX11_doubt, Cond.code yX11_doubt cX11_doubt 7 (some .int), Cond.methodLink RX11 246 yX4_spoken, Cond.instanceMethod yX4_spoken, Cond.selects RX4 yX4_spoken yX4_spoken, Cond.code yX4_spoken cX4_spoken 3 (some .int), Cond.methodLink RX11 249 yX0_heard, Cond.instanceMethod yX0_heard, Cond.selects RX0 yX0_heard yX0_heard, Cond.code yX0_heard cX0_heard 5 (some .int), Cond.fieldLink RX0 122 "TwoCards$Quarrel" "done" "I", Cond.methodLink RX0 113 yX4_moveAt, Cond.methodLink RX0 118 yX0_open, Cond.methodLink RX0 125 yX0_allows, Cond.methodLink RX0 129 yX0_after, Cond.methodLink RL 106 yX12_doubt]
def wsL_law_r48 : List Cond := [Cond.instanceMethod yX12_doubt, Cond.selects RX12 yX12_doubt yX12_doubt, Cond.code yX12_doubt cX12_doubt 5 (some .int), Cond.methodLink RX12 429 yX12_again, Cond.instanceMethod yX12_again, Cond.selects RX12 yX12_again yX12_again, Cond.code yX12_again cX12_again 5 none, Cond.methodLink RL 107 yX11_hangs, Cond.instanceMethod yX11_hangs, Cond.selects RX11 yX11_hangs yX11_hangs, Cond.code yX11_hangs cX11_hangs 8 (some .int), Cond.methodLink RL 110 yX12_hangs, Cond.instanceMethod yX12_hangs, Cond.selects RX12 yX12_hangs yX12_hangs, Cond.code yX12_hangs cX12_hangs 5 (some .int), Cond.methodLink RL 111 yX11_thinks, Cond.instanceMethod yX11_thinks, Cond.selects RX11 yX11_thinks yX11_thinks, Cond.code yX11_thinks cX11_thinks 5 (some .int), Cond.methodLink RX11 253 yX0_reckoned, Cond.instanceMethod yX0_reckoned, Cond.selects RX0 yX0_reckoned yX0_reckoned, Cond.code yX0_reckoned cX0_reckoned 9 (some .int), Cond.methodLink RL 114 yX12_thinks]
def wsL_law_r49 : List Cond := [Cond.instanceMethod yX12_thinks, Cond.selects RX12 yX12_thinks yX12_thinks, Cond.code yX12_thinks cX12_thinks 9 (some .int), Cond.methodLink RL 115 yX11_waits, Cond.instanceMethod yX11_waits, Cond.selects RX11 yX11_waits yX11_waits, Cond.code yX11_waits cX11_waits 3 (some .int), Cond.methodLink RX11 256 yX1_waitedFor, Cond.instanceMethod yX1_waitedFor, Cond.selects RX1 yX1_waitedFor yX1_waitedFor, Cond.code yX1_waitedFor cX1_waitedFor 6 (some .int), Cond.methodLink RX1 90 yX1_quarrelAt, Cond.methodLink RX1 67 yX4_goesOn, Cond.instanceMethod yX4_goesOn, Cond.selects RX4 yX4_goesOn yX4_goesOn, Cond.code yX4_goesOn cX4_goesOn 1 (some .boolean), Cond.methodLink RX4 26 yX4_now, Cond.methodLink RX4 30 yX7_ending, Cond.methodLink RX1 84 yX4_personOn, Cond.instanceMethod yX4_personOn, Cond.selects RX4 yX4_personOn yX4_personOn, Cond.code yX4_personOn cX4_personOn 2 (some .int), Cond.fieldLink RX4 35 "TwoCards$Quarrel" "first" "I", Cond.fieldLink RX4 38 "TwoCards$Quarrel" "second" "I"]
def wsL_law_r50 : List Cond := [Cond.methodLink RX1 94 yX1_takenFirst, Cond.instanceMethod yX1_takenFirst, Cond.selects RX1 yX1_takenFirst yX1_takenFirst, Cond.code yX1_takenFirst cX1_takenFirst 8 (some .int), Cond.methodLink RX1 71 yX4_sideOf, Cond.instanceMethod yX4_sideOf, Cond.selects RX4 yX4_sideOf yX4_sideOf, Cond.code yX4_sideOf cX4_sideOf 2 (some .int), Cond.methodLink RX1 74 yX4_now, Cond.methodLink RX1 78 yX7_owed, Cond.methodLink RX1 87 yX1_rankOf, Cond.methodLink RL 118 yX12_waits, Cond.instanceMethod yX12_waits, Cond.selects RX12 yX12_waits yX12_waits, Cond.code yX12_waits cX12_waits 2 (some .int), Cond.methodLink RX12 438 yX12_waitsFor, Cond.instanceMethod yX12_waitsFor, Cond.selects RX12 yX12_waitsFor yX12_waitsFor, Cond.code yX12_waitsFor cX12_waitsFor 3 (some .int), Cond.methodLink RX12 432 yX12_isOn, Cond.instanceMethod yX12_isOn, Cond.selects RX12 yX12_isOn yX12_isOn, Cond.code yX12_isOn cX12_isOn 2 (some .boolean), Cond.methodLink RX12 435 yX12_firstOf]
def wsL_law_r51 : List Cond := [Cond.instanceMethod yX12_firstOf, Cond.selects RX12 yX12_firstOf yX12_firstOf, Cond.code yX12_firstOf cX12_firstOf 7 (some .int), Cond.methodLink RL 119 yX11_ring, Cond.instanceMethod yX11_ring, Cond.selects RX11 yX11_ring yX11_ring, Cond.code yX11_ring cX11_ring 3 (some .int), Cond.methodLink RX11 259 yX1_isInRing, Cond.instanceMethod yX1_isInRing, Cond.selects RX1 yX1_isInRing yX1_isInRing, Cond.code yX1_isInRing cX1_isInRing 7 (some .boolean), Cond.methodLink RX1 97 yX1_waitedFor, Cond.methodLink RL 122 yX12_ring, Cond.instanceMethod yX12_ring, Cond.selects RX12 yX12_ring yX12_ring, Cond.code yX12_ring cX12_ring 5 (some .int), Cond.methodLink RL 123 yX11_first, Cond.instanceMethod yX11_first, Cond.selects RX11 yX11_first yX11_first, Cond.code yX11_first cX11_first 2 (some .int), Cond.methodLink RX11 262 yX1_takenFirst, Cond.methodLink RL 126 yX12_first, Cond.instanceMethod yX12_first, Cond.selects RX12 yX12_first yX12_first]
def wsL_law_r52 : List Cond := [Cond.code yX12_first cX12_first 3 (some .int), Cond.methodLink RL 127 yX11_harsh, Cond.instanceMethod yX11_harsh, Cond.selects RX11 yX11_harsh yX11_harsh, Cond.code yX11_harsh cX11_harsh 7 (some .int), Cond.methodLink RL 130 yX12_harsh, Cond.instanceMethod yX12_harsh, Cond.selects RX12 yX12_harsh yX12_harsh, Cond.code yX12_harsh cX12_harsh 7 (some .int), Cond.methodLink RX12 441 yX12_endsInField, Cond.instanceMethod yX12_endsInField, Cond.selects RX12 yX12_endsInField yX12_endsInField, Cond.code yX12_endsInField cX12_endsInField 6 (some .boolean), Cond.methodLink RL 131 yX11_mend, Cond.instanceMethod yX11_mend, Cond.selects RX11 yX11_mend yX11_mend, Cond.code yX11_mend cX11_mend 10 (some .int), Cond.fieldLink RX11 280 "TwoCards$Affair" "raised" "I", Cond.methodLink RX11 269 yX2_countOfBacks, Cond.instanceMethod yX2_countOfBacks, Cond.selects RX2 yX2_countOfBacks yX2_countOfBacks, Cond.code yX2_countOfBacks cX2_countOfBacks 4 (some .int), Cond.methodLink RX11 272 yJ6_bitCount_0f7a4, Cond.static yJ6_bitCount_0f7a4]
def wsL_law_r53 : List Cond := [Cond.initialized RJ6, Cond.code yJ6_bitCount_0f7a4 cJ6_bitCount_0f7a4 1 (some .int), Cond.constant RJ6 265 (1431655765), Cond.constant RJ6 266 (858993459), Cond.constant RJ6 267 (252645135), Cond.methodLink RX11 277 yX2_backClauses, Cond.instanceMethod yX2_backClauses, Cond.selects RX2 yX2_backClauses yX2_backClauses, Cond.code yX2_backClauses cX2_backClauses 5 (some .int), Cond.methodLink RL 134 yX12_mend, Cond.instanceMethod yX12_mend, Cond.selects RX12 yX12_mend yX12_mend, Cond.code yX12_mend cX12_mend 9 (some .int), Cond.methodLink RX12 445 yX12_bits, Cond.static yX12_bits, Cond.code yX12_bits cX12_bits 3 (some .int), Cond.methodLink RL 135 yX11_image, Cond.instanceMethod yX11_image, Cond.selects RX11 yX11_image yX11_image, Cond.code yX11_image cX11_image 2 (some .int), Cond.fieldLink RX11 287 "TwoCards$Book" "isMade" "Z", Cond.fieldLink RX11 291 "TwoCards$Book" "quarrelCount" "I", Cond.methodLink RX11 283 yX1_copy, Cond.instanceMethod yX1_copy]
def wsL_law_r54 : List Cond := [Cond.selects RX1 yX1_copy yX1_copy, Cond.code yX1_copy cX1_copy 3 none, Cond.methodLink RX1 100 yX4_copy, Cond.instanceMethod yX4_copy, Cond.selects RX4 yX4_copy yX4_copy, Cond.code yX4_copy cX4_copy 3 none, Cond.fieldLink RX4 41 "TwoCards$Quarrel" "firstCode" "I", Cond.fieldLink RX4 44 "TwoCards$Quarrel" "secondCode" "I", Cond.fieldLink RX4 47 "TwoCards$Quarrel" "ladies" "I", Cond.methodLink RL 138 yX12_image, Cond.instanceMethod yX12_image, Cond.selects RX12 yX12_image yX12_image, Cond.code yX12_image cX12_image 4 (some .int), Cond.methodLink RL 139 yX11_back, Cond.instanceMethod yX11_back, Cond.selects RX11 yX11_back yX11_back, Cond.code yX11_back cX11_back 2 (some .int), Cond.methodLink RL 142 yX12_back, Cond.instanceMethod yX12_back, Cond.selects RX12 yX12_back yX12_back, Cond.code yX12_back cX12_back 4 (some .int), Cond.methodLink RL 143 yX11_count, Cond.instanceMethod yX11_count, Cond.selects RX11 yX11_count yX11_count]
def wsL_law_r55 : List Cond := [Cond.code yX11_count cX11_count 2 (some .int), Cond.fieldLink RX11 294 "TwoCards$Book" "peopleCount" "I", Cond.methodLink RX11 297 yX1_goingOn, Cond.instanceMethod yX1_goingOn, Cond.selects RX1 yX1_goingOn yX1_goingOn, Cond.code yX1_goingOn cX1_goingOn 3 (some .int), Cond.methodLink RL 146 yX12_count, Cond.instanceMethod yX12_count, Cond.selects RX12 yX12_count yX12_count, Cond.code yX12_count cX12_count 4 (some .int)]
def wsL_law : List Cond := (wsL_law_r1 ++ (wsL_law_r2 ++ (wsL_law_r3 ++ (wsL_law_r4 ++ (wsL_law_r5 ++ (wsL_law_r6 ++ (wsL_law_r7 ++ (wsL_law_r8 ++ (wsL_law_r9 ++ (wsL_law_r10 ++ (wsL_law_r11 ++ (wsL_law_r12 ++ (wsL_law_r13 ++ (wsL_law_r14 ++ (wsL_law_r15 ++ (wsL_law_r16 ++ (wsL_law_r17 ++ (wsL_law_r18 ++ (wsL_law_r19 ++ (wsL_law_r20 ++ (wsL_law_r21 ++ (wsL_law_r22 ++ (wsL_law_r23 ++ (wsL_law_r24 ++ (wsL_law_r25 ++ (wsL_law_r26 ++ (wsL_law_r27 ++ (wsL_law_r28 ++ (wsL_law_r29 ++ (wsL_law_r30 ++ (wsL_law_r31 ++ (wsL_law_r32 ++ (wsL_law_r33 ++ (wsL_law_r34 ++ (wsL_law_r35 ++ (wsL_law_r36 ++ (wsL_law_r37 ++ (wsL_law_r38 ++ (wsL_law_r39 ++ (wsL_law_r40 ++ (wsL_law_r41 ++ (wsL_law_r42 ++ (wsL_law_r43 ++ (wsL_law_r44 ++ (wsL_law_r45 ++ (wsL_law_r46 ++ (wsL_law_r47 ++ (wsL_law_r48 ++ (wsL_law_r49 ++ (wsL_law_r50 ++ (wsL_law_r51 ++ (wsL_law_r52 ++ (wsL_law_r53 ++ (wsL_law_r54 ++ wsL_law_r55)))))))))))))))))))))))))))))))))))))))))))))))))))))) ++ wsX110 ++ wsX120 ++ wsX80 ++ wsX20 ++ wsX50 ++ wsX10 ++ wsX60 ++ wsX00 ++ wsX30 ++ wsX100 ++ wsX90 ++ wsX40 ++ ([] : List Cond)
theorem inlX0 : ∀ w ∈ wsX00, w ∈ wsL_law := fun _ h => List.mem_append_left _ (List.mem_append_left _ (List.mem_append_left _ (List.mem_append_left _ (List.mem_append_left _ (List.mem_append_right _ h)))))
theorem inlX1 : ∀ w ∈ wsX10, w ∈ wsL_law := fun _ h => List.mem_append_left _ (List.mem_append_left _ (List.mem_append_left _ (List.mem_append_left _ (List.mem_append_left _ (List.mem_append_left _ (List.mem_append_left _ (List.mem_append_right _ h)))))))
theorem inlX2 : ∀ w ∈ wsX20, w ∈ wsL_law := fun _ h => List.mem_append_left _ (List.mem_append_left _ (List.mem_append_left _ (List.mem_append_left _ (List.mem_append_left _ (List.mem_append_left _ (List.mem_append_left _ (List.mem_append_left _ (List.mem_append_left _ (List.mem_append_right _ h)))))))))
theorem inlX3 : ∀ w ∈ wsX30, w ∈ wsL_law := fun _ h => List.mem_append_left _ (List.mem_append_left _ (List.mem_append_left _ (List.mem_append_left _ (List.mem_append_right _ h))))
theorem inlX4 : ∀ w ∈ wsX40, w ∈ wsL_law := fun _ h => List.mem_append_left _ (List.mem_append_right _ h)
theorem inlX5 : ∀ w ∈ wsX50, w ∈ wsL_law := fun _ h => List.mem_append_left _ (List.mem_append_left _ (List.mem_append_left _ (List.mem_append_left _ (List.mem_append_left _ (List.mem_append_left _ (List.mem_append_left _ (List.mem_append_left _ (List.mem_append_right _ h))))))))
theorem inlX6 : ∀ w ∈ wsX60, w ∈ wsL_law := fun _ h => List.mem_append_left _ (List.mem_append_left _ (List.mem_append_left _ (List.mem_append_left _ (List.mem_append_left _ (List.mem_append_left _ (List.mem_append_right _ h))))))
theorem inlX8 : ∀ w ∈ wsX80, w ∈ wsL_law := fun _ h => List.mem_append_left _ (List.mem_append_left _ (List.mem_append_left _ (List.mem_append_left _ (List.mem_append_left _ (List.mem_append_left _ (List.mem_append_left _ (List.mem_append_left _ (List.mem_append_left _ (List.mem_append_left _ (List.mem_append_right _ h))))))))))
theorem inlX9 : ∀ w ∈ wsX90, w ∈ wsL_law := fun _ h => List.mem_append_left _ (List.mem_append_left _ (List.mem_append_right _ h))
theorem inlX10 : ∀ w ∈ wsX100, w ∈ wsL_law := fun _ h => List.mem_append_left _ (List.mem_append_left _ (List.mem_append_left _ (List.mem_append_right _ h)))
theorem inlX11 : ∀ w ∈ wsX110, w ∈ wsL_law := fun _ h => List.mem_append_left _ (List.mem_append_left _ (List.mem_append_left _ (List.mem_append_left _ (List.mem_append_left _ (List.mem_append_left _ (List.mem_append_left _ (List.mem_append_left _ (List.mem_append_left _ (List.mem_append_left _ (List.mem_append_left _ (List.mem_append_left _ (List.mem_append_right _ h))))))))))))
theorem inlX12 : ∀ w ∈ wsX120, w ∈ wsL_law := fun _ h => List.mem_append_left _ (List.mem_append_left _ (List.mem_append_left _ (List.mem_append_left _ (List.mem_append_left _ (List.mem_append_left _ (List.mem_append_left _ (List.mem_append_left _ (List.mem_append_left _ (List.mem_append_left _ (List.mem_append_left _ (List.mem_append_right _ h)))))))))))
abbrev vwCl : List vw_C := [(RX0, TX0, 9), (RX1, TX1, 9), (RX2, TX2, 12), (RX3, TX3, 2), (RX4, TX4, 8), (RX5, TX5, 6), (RX6, TX6, 1), (RX8, TX8, 2), (RX9, TX9, 4), (RX10, TX10, 9), (RX11, TX11, 11), (RX12, TX12, 46)]
/-! every method's words: its code row, then the law's whole list -/
theorem jm_1 : ∀ w ∈ wsL_law_r1, w ∈ wsL_law := fun _ h => List.mem_append_left _ (List.mem_append_left _ (List.mem_append_left _ (List.mem_append_left _ (List.mem_append_left _ (List.mem_append_left _ (List.mem_append_left _ (List.mem_append_left _ (List.mem_append_left _ (List.mem_append_left _ (List.mem_append_left _ (List.mem_append_left _ (List.mem_append_left _ (List.mem_append_left _ h)))))))))))))
theorem jb_1 : wsL_law_r1.all goodWord = true := by decide +kernel
theorem jm_2 : ∀ w ∈ wsL_law_r2, w ∈ wsL_law := fun _ h => List.mem_append_left _ (List.mem_append_left _ (List.mem_append_left _ (List.mem_append_left _ (List.mem_append_left _ (List.mem_append_left _ (List.mem_append_left _ (List.mem_append_left _ (List.mem_append_left _ (List.mem_append_left _ (List.mem_append_left _ (List.mem_append_left _ (List.mem_append_left _ (List.mem_append_right _ (List.mem_append_left _ h))))))))))))))
theorem jb_2 : wsL_law_r2.all goodWord = true := by decide +kernel
theorem jm_3 : ∀ w ∈ wsL_law_r3, w ∈ wsL_law := fun _ h => List.mem_append_left _ (List.mem_append_left _ (List.mem_append_left _ (List.mem_append_left _ (List.mem_append_left _ (List.mem_append_left _ (List.mem_append_left _ (List.mem_append_left _ (List.mem_append_left _ (List.mem_append_left _ (List.mem_append_left _ (List.mem_append_left _ (List.mem_append_left _ (List.mem_append_right _ (List.mem_append_right _ (List.mem_append_left _ h)))))))))))))))
theorem jb_3 : wsL_law_r3.all goodWord = true := by decide +kernel
theorem jm_4 : ∀ w ∈ wsL_law_r4, w ∈ wsL_law := fun _ h => List.mem_append_left _ (List.mem_append_left _ (List.mem_append_left _ (List.mem_append_left _ (List.mem_append_left _ (List.mem_append_left _ (List.mem_append_left _ (List.mem_append_left _ (List.mem_append_left _ (List.mem_append_left _ (List.mem_append_left _ (List.mem_append_left _ (List.mem_append_left _ (List.mem_append_right _ (List.mem_append_right _ (List.mem_append_right _ (List.mem_append_left _ h))))))))))))))))
theorem jb_4 : wsL_law_r4.all goodWord = true := by decide +kernel
theorem jm_5 : ∀ w ∈ wsL_law_r5, w ∈ wsL_law := fun _ h => List.mem_append_left _ (List.mem_append_left _ (List.mem_append_left _ (List.mem_append_left _ (List.mem_append_left _ (List.mem_append_left _ (List.mem_append_left _ (List.mem_append_left _ (List.mem_append_left _ (List.mem_append_left _ (List.mem_append_left _ (List.mem_append_left _ (List.mem_append_left _ (List.mem_append_right _ (List.mem_append_right _ (List.mem_append_right _ (List.mem_append_right _ (List.mem_append_left _ h)))))))))))))))))
theorem jb_5 : wsL_law_r5.all goodWord = true := by decide +kernel
theorem jm_6 : ∀ w ∈ wsL_law_r6, w ∈ wsL_law := fun _ h => List.mem_append_left _ (List.mem_append_left _ (List.mem_append_left _ (List.mem_append_left _ (List.mem_append_left _ (List.mem_append_left _ (List.mem_append_left _ (List.mem_append_left _ (List.mem_append_left _ (List.mem_append_left _ (List.mem_append_left _ (List.mem_append_left _ (List.mem_append_left _ (List.mem_append_right _ (List.mem_append_right _ (List.mem_append_right _ (List.mem_append_right _ (List.mem_append_right _ (List.mem_append_left _ h))))))))))))))))))
theorem jb_6 : wsL_law_r6.all goodWord = true := by decide +kernel
theorem jm_7 : ∀ w ∈ wsL_law_r7, w ∈ wsL_law := fun _ h => List.mem_append_left _ (List.mem_append_left _ (List.mem_append_left _ (List.mem_append_left _ (List.mem_append_left _ (List.mem_append_left _ (List.mem_append_left _ (List.mem_append_left _ (List.mem_append_left _ (List.mem_append_left _ (List.mem_append_left _ (List.mem_append_left _ (List.mem_append_left _ (List.mem_append_right _ (List.mem_append_right _ (List.mem_append_right _ (List.mem_append_right _ (List.mem_append_right _ (List.mem_append_right _ (List.mem_append_left _ h)))))))))))))))))))
theorem jb_7 : wsL_law_r7.all goodWord = true := by decide +kernel
theorem jm_8 : ∀ w ∈ wsL_law_r8, w ∈ wsL_law := fun _ h => List.mem_append_left _ (List.mem_append_left _ (List.mem_append_left _ (List.mem_append_left _ (List.mem_append_left _ (List.mem_append_left _ (List.mem_append_left _ (List.mem_append_left _ (List.mem_append_left _ (List.mem_append_left _ (List.mem_append_left _ (List.mem_append_left _ (List.mem_append_left _ (List.mem_append_right _ (List.mem_append_right _ (List.mem_append_right _ (List.mem_append_right _ (List.mem_append_right _ (List.mem_append_right _ (List.mem_append_right _ (List.mem_append_left _ h))))))))))))))))))))
theorem jb_8 : wsL_law_r8.all goodWord = true := by decide +kernel
theorem jm_9 : ∀ w ∈ wsL_law_r9, w ∈ wsL_law := fun _ h => List.mem_append_left _ (List.mem_append_left _ (List.mem_append_left _ (List.mem_append_left _ (List.mem_append_left _ (List.mem_append_left _ (List.mem_append_left _ (List.mem_append_left _ (List.mem_append_left _ (List.mem_append_left _ (List.mem_append_left _ (List.mem_append_left _ (List.mem_append_left _ (List.mem_append_right _ (List.mem_append_right _ (List.mem_append_right _ (List.mem_append_right _ (List.mem_append_right _ (List.mem_append_right _ (List.mem_append_right _ (List.mem_append_right _ (List.mem_append_left _ h)))))))))))))))))))))
theorem jb_9 : wsL_law_r9.all goodWord = true := by decide +kernel
theorem jm_10 : ∀ w ∈ wsL_law_r10, w ∈ wsL_law := fun _ h => List.mem_append_left _ (List.mem_append_left _ (List.mem_append_left _ (List.mem_append_left _ (List.mem_append_left _ (List.mem_append_left _ (List.mem_append_left _ (List.mem_append_left _ (List.mem_append_left _ (List.mem_append_left _ (List.mem_append_left _ (List.mem_append_left _ (List.mem_append_left _ (List.mem_append_right _ (List.mem_append_right _ (List.mem_append_right _ (List.mem_append_right _ (List.mem_append_right _ (List.mem_append_right _ (List.mem_append_right _ (List.mem_append_right _ (List.mem_append_right _ (List.mem_append_left _ h))))))))))))))))))))))
theorem jb_10 : wsL_law_r10.all goodWord = true := by decide +kernel
theorem jm_11 : ∀ w ∈ wsL_law_r11, w ∈ wsL_law := fun _ h => List.mem_append_left _ (List.mem_append_left _ (List.mem_append_left _ (List.mem_append_left _ (List.mem_append_left _ (List.mem_append_left _ (List.mem_append_left _ (List.mem_append_left _ (List.mem_append_left _ (List.mem_append_left _ (List.mem_append_left _ (List.mem_append_left _ (List.mem_append_left _ (List.mem_append_right _ (List.mem_append_right _ (List.mem_append_right _ (List.mem_append_right _ (List.mem_append_right _ (List.mem_append_right _ (List.mem_append_right _ (List.mem_append_right _ (List.mem_append_right _ (List.mem_append_right _ (List.mem_append_left _ h)))))))))))))))))))))))
theorem jb_11 : wsL_law_r11.all goodWord = true := by decide +kernel
theorem jm_12 : ∀ w ∈ wsL_law_r12, w ∈ wsL_law := fun _ h => List.mem_append_left _ (List.mem_append_left _ (List.mem_append_left _ (List.mem_append_left _ (List.mem_append_left _ (List.mem_append_left _ (List.mem_append_left _ (List.mem_append_left _ (List.mem_append_left _ (List.mem_append_left _ (List.mem_append_left _ (List.mem_append_left _ (List.mem_append_left _ (List.mem_append_right _ (List.mem_append_right _ (List.mem_append_right _ (List.mem_append_right _ (List.mem_append_right _ (List.mem_append_right _ (List.mem_append_right _ (List.mem_append_right _ (List.mem_append_right _ (List.mem_append_right _ (List.mem_append_right _ (List.mem_append_left _ h))))))))))))))))))))))))
theorem jb_12 : wsL_law_r12.all goodWord = true := by decide +kernel
theorem jm_13 : ∀ w ∈ wsL_law_r13, w ∈ wsL_law := fun _ h => List.mem_append_left _ (List.mem_append_left _ (List.mem_append_left _ (List.mem_append_left _ (List.mem_append_left _ (List.mem_append_left _ (List.mem_append_left _ (List.mem_append_left _ (List.mem_append_left _ (List.mem_append_left _ (List.mem_append_left _ (List.mem_append_left _ (List.mem_append_left _ (List.mem_append_right _ (List.mem_append_right _ (List.mem_append_right _ (List.mem_append_right _ (List.mem_append_right _ (List.mem_append_right _ (List.mem_append_right _ (List.mem_append_right _ (List.mem_append_right _ (List.mem_append_right _ (List.mem_append_right _ (List.mem_append_right _ (List.mem_append_left _ h)))))))))))))))))))))))))
theorem jb_13 : wsL_law_r13.all goodWord = true := by decide +kernel
theorem jm_14 : ∀ w ∈ wsL_law_r14, w ∈ wsL_law := fun _ h => List.mem_append_left _ (List.mem_append_left _ (List.mem_append_left _ (List.mem_append_left _ (List.mem_append_left _ (List.mem_append_left _ (List.mem_append_left _ (List.mem_append_left _ (List.mem_append_left _ (List.mem_append_left _ (List.mem_append_left _ (List.mem_append_left _ (List.mem_append_left _ (List.mem_append_right _ (List.mem_append_right _ (List.mem_append_right _ (List.mem_append_right _ (List.mem_append_right _ (List.mem_append_right _ (List.mem_append_right _ (List.mem_append_right _ (List.mem_append_right _ (List.mem_append_right _ (List.mem_append_right _ (List.mem_append_right _ (List.mem_append_right _ (List.mem_append_left _ h))))))))))))))))))))))))))
theorem jb_14 : wsL_law_r14.all goodWord = true := by decide +kernel
theorem jm_15 : ∀ w ∈ wsL_law_r15, w ∈ wsL_law := fun _ h => List.mem_append_left _ (List.mem_append_left _ (List.mem_append_left _ (List.mem_append_left _ (List.mem_append_left _ (List.mem_append_left _ (List.mem_append_left _ (List.mem_append_left _ (List.mem_append_left _ (List.mem_append_left _ (List.mem_append_left _ (List.mem_append_left _ (List.mem_append_left _ (List.mem_append_right _ (List.mem_append_right _ (List.mem_append_right _ (List.mem_append_right _ (List.mem_append_right _ (List.mem_append_right _ (List.mem_append_right _ (List.mem_append_right _ (List.mem_append_right _ (List.mem_append_right _ (List.mem_append_right _ (List.mem_append_right _ (List.mem_append_right _ (List.mem_append_right _ (List.mem_append_left _ h)))))))))))))))))))))))))))
theorem jb_15 : wsL_law_r15.all goodWord = true := by decide +kernel
theorem jm_16 : ∀ w ∈ wsL_law_r16, w ∈ wsL_law := fun _ h => List.mem_append_left _ (List.mem_append_left _ (List.mem_append_left _ (List.mem_append_left _ (List.mem_append_left _ (List.mem_append_left _ (List.mem_append_left _ (List.mem_append_left _ (List.mem_append_left _ (List.mem_append_left _ (List.mem_append_left _ (List.mem_append_left _ (List.mem_append_left _ (List.mem_append_right _ (List.mem_append_right _ (List.mem_append_right _ (List.mem_append_right _ (List.mem_append_right _ (List.mem_append_right _ (List.mem_append_right _ (List.mem_append_right _ (List.mem_append_right _ (List.mem_append_right _ (List.mem_append_right _ (List.mem_append_right _ (List.mem_append_right _ (List.mem_append_right _ (List.mem_append_right _ (List.mem_append_left _ h))))))))))))))))))))))))))))
theorem jb_16 : wsL_law_r16.all goodWord = true := by decide +kernel
theorem jm_17 : ∀ w ∈ wsL_law_r17, w ∈ wsL_law := fun _ h => List.mem_append_left _ (List.mem_append_left _ (List.mem_append_left _ (List.mem_append_left _ (List.mem_append_left _ (List.mem_append_left _ (List.mem_append_left _ (List.mem_append_left _ (List.mem_append_left _ (List.mem_append_left _ (List.mem_append_left _ (List.mem_append_left _ (List.mem_append_left _ (List.mem_append_right _ (List.mem_append_right _ (List.mem_append_right _ (List.mem_append_right _ (List.mem_append_right _ (List.mem_append_right _ (List.mem_append_right _ (List.mem_append_right _ (List.mem_append_right _ (List.mem_append_right _ (List.mem_append_right _ (List.mem_append_right _ (List.mem_append_right _ (List.mem_append_right _ (List.mem_append_right _ (List.mem_append_right _ (List.mem_append_left _ h)))))))))))))))))))))))))))))
theorem jb_17 : wsL_law_r17.all goodWord = true := by decide +kernel
theorem jm_18 : ∀ w ∈ wsL_law_r18, w ∈ wsL_law := fun _ h => List.mem_append_left _ (List.mem_append_left _ (List.mem_append_left _ (List.mem_append_left _ (List.mem_append_left _ (List.mem_append_left _ (List.mem_append_left _ (List.mem_append_left _ (List.mem_append_left _ (List.mem_append_left _ (List.mem_append_left _ (List.mem_append_left _ (List.mem_append_left _ (List.mem_append_right _ (List.mem_append_right _ (List.mem_append_right _ (List.mem_append_right _ (List.mem_append_right _ (List.mem_append_right _ (List.mem_append_right _ (List.mem_append_right _ (List.mem_append_right _ (List.mem_append_right _ (List.mem_append_right _ (List.mem_append_right _ (List.mem_append_right _ (List.mem_append_right _ (List.mem_append_right _ (List.mem_append_right _ (List.mem_append_right _ (List.mem_append_left _ h))))))))))))))))))))))))))))))
theorem jb_18 : wsL_law_r18.all goodWord = true := by decide +kernel
theorem jm_19 : ∀ w ∈ wsL_law_r19, w ∈ wsL_law := fun _ h => List.mem_append_left _ (List.mem_append_left _ (List.mem_append_left _ (List.mem_append_left _ (List.mem_append_left _ (List.mem_append_left _ (List.mem_append_left _ (List.mem_append_left _ (List.mem_append_left _ (List.mem_append_left _ (List.mem_append_left _ (List.mem_append_left _ (List.mem_append_left _ (List.mem_append_right _ (List.mem_append_right _ (List.mem_append_right _ (List.mem_append_right _ (List.mem_append_right _ (List.mem_append_right _ (List.mem_append_right _ (List.mem_append_right _ (List.mem_append_right _ (List.mem_append_right _ (List.mem_append_right _ (List.mem_append_right _ (List.mem_append_right _ (List.mem_append_right _ (List.mem_append_right _ (List.mem_append_right _ (List.mem_append_right _ (List.mem_append_right _ (List.mem_append_left _ h)))))))))))))))))))))))))))))))
theorem jb_19 : wsL_law_r19.all goodWord = true := by decide +kernel
theorem jm_20 : ∀ w ∈ wsL_law_r20, w ∈ wsL_law := fun _ h => List.mem_append_left _ (List.mem_append_left _ (List.mem_append_left _ (List.mem_append_left _ (List.mem_append_left _ (List.mem_append_left _ (List.mem_append_left _ (List.mem_append_left _ (List.mem_append_left _ (List.mem_append_left _ (List.mem_append_left _ (List.mem_append_left _ (List.mem_append_left _ (List.mem_append_right _ (List.mem_append_right _ (List.mem_append_right _ (List.mem_append_right _ (List.mem_append_right _ (List.mem_append_right _ (List.mem_append_right _ (List.mem_append_right _ (List.mem_append_right _ (List.mem_append_right _ (List.mem_append_right _ (List.mem_append_right _ (List.mem_append_right _ (List.mem_append_right _ (List.mem_append_right _ (List.mem_append_right _ (List.mem_append_right _ (List.mem_append_right _ (List.mem_append_right _ (List.mem_append_left _ h))))))))))))))))))))))))))))))))
theorem jb_20 : wsL_law_r20.all goodWord = true := by decide +kernel
theorem jm_21 : ∀ w ∈ wsL_law_r21, w ∈ wsL_law := fun _ h => List.mem_append_left _ (List.mem_append_left _ (List.mem_append_left _ (List.mem_append_left _ (List.mem_append_left _ (List.mem_append_left _ (List.mem_append_left _ (List.mem_append_left _ (List.mem_append_left _ (List.mem_append_left _ (List.mem_append_left _ (List.mem_append_left _ (List.mem_append_left _ (List.mem_append_right _ (List.mem_append_right _ (List.mem_append_right _ (List.mem_append_right _ (List.mem_append_right _ (List.mem_append_right _ (List.mem_append_right _ (List.mem_append_right _ (List.mem_append_right _ (List.mem_append_right _ (List.mem_append_right _ (List.mem_append_right _ (List.mem_append_right _ (List.mem_append_right _ (List.mem_append_right _ (List.mem_append_right _ (List.mem_append_right _ (List.mem_append_right _ (List.mem_append_right _ (List.mem_append_right _ (List.mem_append_left _ h)))))))))))))))))))))))))))))))))
theorem jb_21 : wsL_law_r21.all goodWord = true := by decide +kernel
theorem jm_22 : ∀ w ∈ wsL_law_r22, w ∈ wsL_law := fun _ h => List.mem_append_left _ (List.mem_append_left _ (List.mem_append_left _ (List.mem_append_left _ (List.mem_append_left _ (List.mem_append_left _ (List.mem_append_left _ (List.mem_append_left _ (List.mem_append_left _ (List.mem_append_left _ (List.mem_append_left _ (List.mem_append_left _ (List.mem_append_left _ (List.mem_append_right _ (List.mem_append_right _ (List.mem_append_right _ (List.mem_append_right _ (List.mem_append_right _ (List.mem_append_right _ (List.mem_append_right _ (List.mem_append_right _ (List.mem_append_right _ (List.mem_append_right _ (List.mem_append_right _ (List.mem_append_right _ (List.mem_append_right _ (List.mem_append_right _ (List.mem_append_right _ (List.mem_append_right _ (List.mem_append_right _ (List.mem_append_right _ (List.mem_append_right _ (List.mem_append_right _ (List.mem_append_right _ (List.mem_append_left _ h))))))))))))))))))))))))))))))))))
theorem jb_22 : wsL_law_r22.all goodWord = true := by decide +kernel
theorem jm_23 : ∀ w ∈ wsL_law_r23, w ∈ wsL_law := fun _ h => List.mem_append_left _ (List.mem_append_left _ (List.mem_append_left _ (List.mem_append_left _ (List.mem_append_left _ (List.mem_append_left _ (List.mem_append_left _ (List.mem_append_left _ (List.mem_append_left _ (List.mem_append_left _ (List.mem_append_left _ (List.mem_append_left _ (List.mem_append_left _ (List.mem_append_right _ (List.mem_append_right _ (List.mem_append_right _ (List.mem_append_right _ (List.mem_append_right _ (List.mem_append_right _ (List.mem_append_right _ (List.mem_append_right _ (List.mem_append_right _ (List.mem_append_right _ (List.mem_append_right _ (List.mem_append_right _ (List.mem_append_right _ (List.mem_append_right _ (List.mem_append_right _ (List.mem_append_right _ (List.mem_append_right _ (List.mem_append_right _ (List.mem_append_right _ (List.mem_append_right _ (List.mem_append_right _ (List.mem_append_right _ (List.mem_append_left _ h)))))))))))))))))))))))))))))))))))
theorem jb_23 : wsL_law_r23.all goodWord = true := by decide +kernel
theorem jm_24 : ∀ w ∈ wsL_law_r24, w ∈ wsL_law := fun _ h => List.mem_append_left _ (List.mem_append_left _ (List.mem_append_left _ (List.mem_append_left _ (List.mem_append_left _ (List.mem_append_left _ (List.mem_append_left _ (List.mem_append_left _ (List.mem_append_left _ (List.mem_append_left _ (List.mem_append_left _ (List.mem_append_left _ (List.mem_append_left _ (List.mem_append_right _ (List.mem_append_right _ (List.mem_append_right _ (List.mem_append_right _ (List.mem_append_right _ (List.mem_append_right _ (List.mem_append_right _ (List.mem_append_right _ (List.mem_append_right _ (List.mem_append_right _ (List.mem_append_right _ (List.mem_append_right _ (List.mem_append_right _ (List.mem_append_right _ (List.mem_append_right _ (List.mem_append_right _ (List.mem_append_right _ (List.mem_append_right _ (List.mem_append_right _ (List.mem_append_right _ (List.mem_append_right _ (List.mem_append_right _ (List.mem_append_right _ (List.mem_append_left _ h))))))))))))))))))))))))))))))))))))
theorem jb_24 : wsL_law_r24.all goodWord = true := by decide +kernel
theorem jm_25 : ∀ w ∈ wsL_law_r25, w ∈ wsL_law := fun _ h => List.mem_append_left _ (List.mem_append_left _ (List.mem_append_left _ (List.mem_append_left _ (List.mem_append_left _ (List.mem_append_left _ (List.mem_append_left _ (List.mem_append_left _ (List.mem_append_left _ (List.mem_append_left _ (List.mem_append_left _ (List.mem_append_left _ (List.mem_append_left _ (List.mem_append_right _ (List.mem_append_right _ (List.mem_append_right _ (List.mem_append_right _ (List.mem_append_right _ (List.mem_append_right _ (List.mem_append_right _ (List.mem_append_right _ (List.mem_append_right _ (List.mem_append_right _ (List.mem_append_right _ (List.mem_append_right _ (List.mem_append_right _ (List.mem_append_right _ (List.mem_append_right _ (List.mem_append_right _ (List.mem_append_right _ (List.mem_append_right _ (List.mem_append_right _ (List.mem_append_right _ (List.mem_append_right _ (List.mem_append_right _ (List.mem_append_right _ (List.mem_append_right _ (List.mem_append_left _ h)))))))))))))))))))))))))))))))))))))
theorem jb_25 : wsL_law_r25.all goodWord = true := by decide +kernel
theorem jm_26 : ∀ w ∈ wsL_law_r26, w ∈ wsL_law := fun _ h => List.mem_append_left _ (List.mem_append_left _ (List.mem_append_left _ (List.mem_append_left _ (List.mem_append_left _ (List.mem_append_left _ (List.mem_append_left _ (List.mem_append_left _ (List.mem_append_left _ (List.mem_append_left _ (List.mem_append_left _ (List.mem_append_left _ (List.mem_append_left _ (List.mem_append_right _ (List.mem_append_right _ (List.mem_append_right _ (List.mem_append_right _ (List.mem_append_right _ (List.mem_append_right _ (List.mem_append_right _ (List.mem_append_right _ (List.mem_append_right _ (List.mem_append_right _ (List.mem_append_right _ (List.mem_append_right _ (List.mem_append_right _ (List.mem_append_right _ (List.mem_append_right _ (List.mem_append_right _ (List.mem_append_right _ (List.mem_append_right _ (List.mem_append_right _ (List.mem_append_right _ (List.mem_append_right _ (List.mem_append_right _ (List.mem_append_right _ (List.mem_append_right _ (List.mem_append_right _ (List.mem_append_left _ h))))))))))))))))))))))))))))))))))))))
theorem jb_26 : wsL_law_r26.all goodWord = true := by decide +kernel
theorem jm_27 : ∀ w ∈ wsL_law_r27, w ∈ wsL_law := fun _ h => List.mem_append_left _ (List.mem_append_left _ (List.mem_append_left _ (List.mem_append_left _ (List.mem_append_left _ (List.mem_append_left _ (List.mem_append_left _ (List.mem_append_left _ (List.mem_append_left _ (List.mem_append_left _ (List.mem_append_left _ (List.mem_append_left _ (List.mem_append_left _ (List.mem_append_right _ (List.mem_append_right _ (List.mem_append_right _ (List.mem_append_right _ (List.mem_append_right _ (List.mem_append_right _ (List.mem_append_right _ (List.mem_append_right _ (List.mem_append_right _ (List.mem_append_right _ (List.mem_append_right _ (List.mem_append_right _ (List.mem_append_right _ (List.mem_append_right _ (List.mem_append_right _ (List.mem_append_right _ (List.mem_append_right _ (List.mem_append_right _ (List.mem_append_right _ (List.mem_append_right _ (List.mem_append_right _ (List.mem_append_right _ (List.mem_append_right _ (List.mem_append_right _ (List.mem_append_right _ (List.mem_append_right _ (List.mem_append_left _ h)))))))))))))))))))))))))))))))))))))))
theorem jb_27 : wsL_law_r27.all goodWord = true := by decide +kernel
theorem jm_28 : ∀ w ∈ wsL_law_r28, w ∈ wsL_law := fun _ h => List.mem_append_left _ (List.mem_append_left _ (List.mem_append_left _ (List.mem_append_left _ (List.mem_append_left _ (List.mem_append_left _ (List.mem_append_left _ (List.mem_append_left _ (List.mem_append_left _ (List.mem_append_left _ (List.mem_append_left _ (List.mem_append_left _ (List.mem_append_left _ (List.mem_append_right _ (List.mem_append_right _ (List.mem_append_right _ (List.mem_append_right _ (List.mem_append_right _ (List.mem_append_right _ (List.mem_append_right _ (List.mem_append_right _ (List.mem_append_right _ (List.mem_append_right _ (List.mem_append_right _ (List.mem_append_right _ (List.mem_append_right _ (List.mem_append_right _ (List.mem_append_right _ (List.mem_append_right _ (List.mem_append_right _ (List.mem_append_right _ (List.mem_append_right _ (List.mem_append_right _ (List.mem_append_right _ (List.mem_append_right _ (List.mem_append_right _ (List.mem_append_right _ (List.mem_append_right _ (List.mem_append_right _ (List.mem_append_right _ (List.mem_append_left _ h))))))))))))))))))))))))))))))))))))))))
theorem jb_28 : wsL_law_r28.all goodWord = true := by decide +kernel
theorem jm_29 : ∀ w ∈ wsL_law_r29, w ∈ wsL_law := fun _ h => List.mem_append_left _ (List.mem_append_left _ (List.mem_append_left _ (List.mem_append_left _ (List.mem_append_left _ (List.mem_append_left _ (List.mem_append_left _ (List.mem_append_left _ (List.mem_append_left _ (List.mem_append_left _ (List.mem_append_left _ (List.mem_append_left _ (List.mem_append_left _ (List.mem_append_right _ (List.mem_append_right _ (List.mem_append_right _ (List.mem_append_right _ (List.mem_append_right _ (List.mem_append_right _ (List.mem_append_right _ (List.mem_append_right _ (List.mem_append_right _ (List.mem_append_right _ (List.mem_append_right _ (List.mem_append_right _ (List.mem_append_right _ (List.mem_append_right _ (List.mem_append_right _ (List.mem_append_right _ (List.mem_append_right _ (List.mem_append_right _ (List.mem_append_right _ (List.mem_append_right _ (List.mem_append_right _ (List.mem_append_right _ (List.mem_append_right _ (List.mem_append_right _ (List.mem_append_right _ (List.mem_append_right _ (List.mem_append_right _ (List.mem_append_right _ (List.mem_append_left _ h)))))))))))))))))))))))))))))))))))))))))
theorem jb_29 : wsL_law_r29.all goodWord = true := by decide +kernel
theorem jm_30 : ∀ w ∈ wsL_law_r30, w ∈ wsL_law := fun _ h => List.mem_append_left _ (List.mem_append_left _ (List.mem_append_left _ (List.mem_append_left _ (List.mem_append_left _ (List.mem_append_left _ (List.mem_append_left _ (List.mem_append_left _ (List.mem_append_left _ (List.mem_append_left _ (List.mem_append_left _ (List.mem_append_left _ (List.mem_append_left _ (List.mem_append_right _ (List.mem_append_right _ (List.mem_append_right _ (List.mem_append_right _ (List.mem_append_right _ (List.mem_append_right _ (List.mem_append_right _ (List.mem_append_right _ (List.mem_append_right _ (List.mem_append_right _ (List.mem_append_right _ (List.mem_append_right _ (List.mem_append_right _ (List.mem_append_right _ (List.mem_append_right _ (List.mem_append_right _ (List.mem_append_right _ (List.mem_append_right _ (List.mem_append_right _ (List.mem_append_right _ (List.mem_append_right _ (List.mem_append_right _ (List.mem_append_right _ (List.mem_append_right _ (List.mem_append_right _ (List.mem_append_right _ (List.mem_append_right _ (List.mem_append_right _ (List.mem_append_right _ (List.mem_append_left _ h))))))))))))))))))))))))))))))))))))))))))
theorem jb_30 : wsL_law_r30.all goodWord = true := by decide +kernel
theorem jm_31 : ∀ w ∈ wsL_law_r31, w ∈ wsL_law := fun _ h => List.mem_append_left _ (List.mem_append_left _ (List.mem_append_left _ (List.mem_append_left _ (List.mem_append_left _ (List.mem_append_left _ (List.mem_append_left _ (List.mem_append_left _ (List.mem_append_left _ (List.mem_append_left _ (List.mem_append_left _ (List.mem_append_left _ (List.mem_append_left _ (List.mem_append_right _ (List.mem_append_right _ (List.mem_append_right _ (List.mem_append_right _ (List.mem_append_right _ (List.mem_append_right _ (List.mem_append_right _ (List.mem_append_right _ (List.mem_append_right _ (List.mem_append_right _ (List.mem_append_right _ (List.mem_append_right _ (List.mem_append_right _ (List.mem_append_right _ (List.mem_append_right _ (List.mem_append_right _ (List.mem_append_right _ (List.mem_append_right _ (List.mem_append_right _ (List.mem_append_right _ (List.mem_append_right _ (List.mem_append_right _ (List.mem_append_right _ (List.mem_append_right _ (List.mem_append_right _ (List.mem_append_right _ (List.mem_append_right _ (List.mem_append_right _ (List.mem_append_right _ (List.mem_append_right _ (List.mem_append_left _ h)))))))))))))))))))))))))))))))))))))))))))
theorem jb_31 : wsL_law_r31.all goodWord = true := by decide +kernel
theorem jm_32 : ∀ w ∈ wsL_law_r32, w ∈ wsL_law := fun _ h => List.mem_append_left _ (List.mem_append_left _ (List.mem_append_left _ (List.mem_append_left _ (List.mem_append_left _ (List.mem_append_left _ (List.mem_append_left _ (List.mem_append_left _ (List.mem_append_left _ (List.mem_append_left _ (List.mem_append_left _ (List.mem_append_left _ (List.mem_append_left _ (List.mem_append_right _ (List.mem_append_right _ (List.mem_append_right _ (List.mem_append_right _ (List.mem_append_right _ (List.mem_append_right _ (List.mem_append_right _ (List.mem_append_right _ (List.mem_append_right _ (List.mem_append_right _ (List.mem_append_right _ (List.mem_append_right _ (List.mem_append_right _ (List.mem_append_right _ (List.mem_append_right _ (List.mem_append_right _ (List.mem_append_right _ (List.mem_append_right _ (List.mem_append_right _ (List.mem_append_right _ (List.mem_append_right _ (List.mem_append_right _ (List.mem_append_right _ (List.mem_append_right _ (List.mem_append_right _ (List.mem_append_right _ (List.mem_append_right _ (List.mem_append_right _ (List.mem_append_right _ (List.mem_append_right _ (List.mem_append_right _ (List.mem_append_left _ h))))))))))))))))))))))))))))))))))))))))))))
theorem jb_32 : wsL_law_r32.all goodWord = true := by decide +kernel
theorem jm_33 : ∀ w ∈ wsL_law_r33, w ∈ wsL_law := fun _ h => List.mem_append_left _ (List.mem_append_left _ (List.mem_append_left _ (List.mem_append_left _ (List.mem_append_left _ (List.mem_append_left _ (List.mem_append_left _ (List.mem_append_left _ (List.mem_append_left _ (List.mem_append_left _ (List.mem_append_left _ (List.mem_append_left _ (List.mem_append_left _ (List.mem_append_right _ (List.mem_append_right _ (List.mem_append_right _ (List.mem_append_right _ (List.mem_append_right _ (List.mem_append_right _ (List.mem_append_right _ (List.mem_append_right _ (List.mem_append_right _ (List.mem_append_right _ (List.mem_append_right _ (List.mem_append_right _ (List.mem_append_right _ (List.mem_append_right _ (List.mem_append_right _ (List.mem_append_right _ (List.mem_append_right _ (List.mem_append_right _ (List.mem_append_right _ (List.mem_append_right _ (List.mem_append_right _ (List.mem_append_right _ (List.mem_append_right _ (List.mem_append_right _ (List.mem_append_right _ (List.mem_append_right _ (List.mem_append_right _ (List.mem_append_right _ (List.mem_append_right _ (List.mem_append_right _ (List.mem_append_right _ (List.mem_append_right _ (List.mem_append_left _ h)))))))))))))))))))))))))))))))))))))))))))))
theorem jb_33 : wsL_law_r33.all goodWord = true := by decide +kernel
theorem jm_34 : ∀ w ∈ wsL_law_r34, w ∈ wsL_law := fun _ h => List.mem_append_left _ (List.mem_append_left _ (List.mem_append_left _ (List.mem_append_left _ (List.mem_append_left _ (List.mem_append_left _ (List.mem_append_left _ (List.mem_append_left _ (List.mem_append_left _ (List.mem_append_left _ (List.mem_append_left _ (List.mem_append_left _ (List.mem_append_left _ (List.mem_append_right _ (List.mem_append_right _ (List.mem_append_right _ (List.mem_append_right _ (List.mem_append_right _ (List.mem_append_right _ (List.mem_append_right _ (List.mem_append_right _ (List.mem_append_right _ (List.mem_append_right _ (List.mem_append_right _ (List.mem_append_right _ (List.mem_append_right _ (List.mem_append_right _ (List.mem_append_right _ (List.mem_append_right _ (List.mem_append_right _ (List.mem_append_right _ (List.mem_append_right _ (List.mem_append_right _ (List.mem_append_right _ (List.mem_append_right _ (List.mem_append_right _ (List.mem_append_right _ (List.mem_append_right _ (List.mem_append_right _ (List.mem_append_right _ (List.mem_append_right _ (List.mem_append_right _ (List.mem_append_right _ (List.mem_append_right _ (List.mem_append_right _ (List.mem_append_right _ (List.mem_append_left _ h))))))))))))))))))))))))))))))))))))))))))))))
theorem jb_34 : wsL_law_r34.all goodWord = true := by decide +kernel
theorem jm_35 : ∀ w ∈ wsL_law_r35, w ∈ wsL_law := fun _ h => List.mem_append_left _ (List.mem_append_left _ (List.mem_append_left _ (List.mem_append_left _ (List.mem_append_left _ (List.mem_append_left _ (List.mem_append_left _ (List.mem_append_left _ (List.mem_append_left _ (List.mem_append_left _ (List.mem_append_left _ (List.mem_append_left _ (List.mem_append_left _ (List.mem_append_right _ (List.mem_append_right _ (List.mem_append_right _ (List.mem_append_right _ (List.mem_append_right _ (List.mem_append_right _ (List.mem_append_right _ (List.mem_append_right _ (List.mem_append_right _ (List.mem_append_right _ (List.mem_append_right _ (List.mem_append_right _ (List.mem_append_right _ (List.mem_append_right _ (List.mem_append_right _ (List.mem_append_right _ (List.mem_append_right _ (List.mem_append_right _ (List.mem_append_right _ (List.mem_append_right _ (List.mem_append_right _ (List.mem_append_right _ (List.mem_append_right _ (List.mem_append_right _ (List.mem_append_right _ (List.mem_append_right _ (List.mem_append_right _ (List.mem_append_right _ (List.mem_append_right _ (List.mem_append_right _ (List.mem_append_right _ (List.mem_append_right _ (List.mem_append_right _ (List.mem_append_right _ (List.mem_append_left _ h)))))))))))))))))))))))))))))))))))))))))))))))
theorem jb_35 : wsL_law_r35.all goodWord = true := by decide +kernel
theorem jm_36 : ∀ w ∈ wsL_law_r36, w ∈ wsL_law := fun _ h => List.mem_append_left _ (List.mem_append_left _ (List.mem_append_left _ (List.mem_append_left _ (List.mem_append_left _ (List.mem_append_left _ (List.mem_append_left _ (List.mem_append_left _ (List.mem_append_left _ (List.mem_append_left _ (List.mem_append_left _ (List.mem_append_left _ (List.mem_append_left _ (List.mem_append_right _ (List.mem_append_right _ (List.mem_append_right _ (List.mem_append_right _ (List.mem_append_right _ (List.mem_append_right _ (List.mem_append_right _ (List.mem_append_right _ (List.mem_append_right _ (List.mem_append_right _ (List.mem_append_right _ (List.mem_append_right _ (List.mem_append_right _ (List.mem_append_right _ (List.mem_append_right _ (List.mem_append_right _ (List.mem_append_right _ (List.mem_append_right _ (List.mem_append_right _ (List.mem_append_right _ (List.mem_append_right _ (List.mem_append_right _ (List.mem_append_right _ (List.mem_append_right _ (List.mem_append_right _ (List.mem_append_right _ (List.mem_append_right _ (List.mem_append_right _ (List.mem_append_right _ (List.mem_append_right _ (List.mem_append_right _ (List.mem_append_right _ (List.mem_append_right _ (List.mem_append_right _ (List.mem_append_right _ (List.mem_append_left _ h))))))))))))))))))))))))))))))))))))))))))))))))
theorem jb_36 : wsL_law_r36.all goodWord = true := by decide +kernel
theorem jm_37 : ∀ w ∈ wsL_law_r37, w ∈ wsL_law := fun _ h => List.mem_append_left _ (List.mem_append_left _ (List.mem_append_left _ (List.mem_append_left _ (List.mem_append_left _ (List.mem_append_left _ (List.mem_append_left _ (List.mem_append_left _ (List.mem_append_left _ (List.mem_append_left _ (List.mem_append_left _ (List.mem_append_left _ (List.mem_append_left _ (List.mem_append_right _ (List.mem_append_right _ (List.mem_append_right _ (List.mem_append_right _ (List.mem_append_right _ (List.mem_append_right _ (List.mem_append_right _ (List.mem_append_right _ (List.mem_append_right _ (List.mem_append_right _ (List.mem_append_right _ (List.mem_append_right _ (List.mem_append_right _ (List.mem_append_right _ (List.mem_append_right _ (List.mem_append_right _ (List.mem_append_right _ (List.mem_append_right _ (List.mem_append_right _ (List.mem_append_right _ (List.mem_append_right _ (List.mem_append_right _ (List.mem_append_right _ (List.mem_append_right _ (List.mem_append_right _ (List.mem_append_right _ (List.mem_append_right _ (List.mem_append_right _ (List.mem_append_right _ (List.mem_append_right _ (List.mem_append_right _ (List.mem_append_right _ (List.mem_append_right _ (List.mem_append_right _ (List.mem_append_right _ (List.mem_append_right _ (List.mem_append_left _ h)))))))))))))))))))))))))))))))))))))))))))))))))
theorem jb_37 : wsL_law_r37.all goodWord = true := by decide +kernel
theorem jm_38 : ∀ w ∈ wsL_law_r38, w ∈ wsL_law := fun _ h => List.mem_append_left _ (List.mem_append_left _ (List.mem_append_left _ (List.mem_append_left _ (List.mem_append_left _ (List.mem_append_left _ (List.mem_append_left _ (List.mem_append_left _ (List.mem_append_left _ (List.mem_append_left _ (List.mem_append_left _ (List.mem_append_left _ (List.mem_append_left _ (List.mem_append_right _ (List.mem_append_right _ (List.mem_append_right _ (List.mem_append_right _ (List.mem_append_right _ (List.mem_append_right _ (List.mem_append_right _ (List.mem_append_right _ (List.mem_append_right _ (List.mem_append_right _ (List.mem_append_right _ (List.mem_append_right _ (List.mem_append_right _ (List.mem_append_right _ (List.mem_append_right _ (List.mem_append_right _ (List.mem_append_right _ (List.mem_append_right _ (List.mem_append_right _ (List.mem_append_right _ (List.mem_append_right _ (List.mem_append_right _ (List.mem_append_right _ (List.mem_append_right _ (List.mem_append_right _ (List.mem_append_right _ (List.mem_append_right _ (List.mem_append_right _ (List.mem_append_right _ (List.mem_append_right _ (List.mem_append_right _ (List.mem_append_right _ (List.mem_append_right _ (List.mem_append_right _ (List.mem_append_right _ (List.mem_append_right _ (List.mem_append_right _ (List.mem_append_left _ h))))))))))))))))))))))))))))))))))))))))))))))))))
theorem jb_38 : wsL_law_r38.all goodWord = true := by decide +kernel
theorem jm_39 : ∀ w ∈ wsL_law_r39, w ∈ wsL_law := fun _ h => List.mem_append_left _ (List.mem_append_left _ (List.mem_append_left _ (List.mem_append_left _ (List.mem_append_left _ (List.mem_append_left _ (List.mem_append_left _ (List.mem_append_left _ (List.mem_append_left _ (List.mem_append_left _ (List.mem_append_left _ (List.mem_append_left _ (List.mem_append_left _ (List.mem_append_right _ (List.mem_append_right _ (List.mem_append_right _ (List.mem_append_right _ (List.mem_append_right _ (List.mem_append_right _ (List.mem_append_right _ (List.mem_append_right _ (List.mem_append_right _ (List.mem_append_right _ (List.mem_append_right _ (List.mem_append_right _ (List.mem_append_right _ (List.mem_append_right _ (List.mem_append_right _ (List.mem_append_right _ (List.mem_append_right _ (List.mem_append_right _ (List.mem_append_right _ (List.mem_append_right _ (List.mem_append_right _ (List.mem_append_right _ (List.mem_append_right _ (List.mem_append_right _ (List.mem_append_right _ (List.mem_append_right _ (List.mem_append_right _ (List.mem_append_right _ (List.mem_append_right _ (List.mem_append_right _ (List.mem_append_right _ (List.mem_append_right _ (List.mem_append_right _ (List.mem_append_right _ (List.mem_append_right _ (List.mem_append_right _ (List.mem_append_right _ (List.mem_append_right _ (List.mem_append_left _ h)))))))))))))))))))))))))))))))))))))))))))))))))))
theorem jb_39 : wsL_law_r39.all goodWord = true := by decide +kernel
theorem jm_40 : ∀ w ∈ wsL_law_r40, w ∈ wsL_law := fun _ h => List.mem_append_left _ (List.mem_append_left _ (List.mem_append_left _ (List.mem_append_left _ (List.mem_append_left _ (List.mem_append_left _ (List.mem_append_left _ (List.mem_append_left _ (List.mem_append_left _ (List.mem_append_left _ (List.mem_append_left _ (List.mem_append_left _ (List.mem_append_left _ (List.mem_append_right _ (List.mem_append_right _ (List.mem_append_right _ (List.mem_append_right _ (List.mem_append_right _ (List.mem_append_right _ (List.mem_append_right _ (List.mem_append_right _ (List.mem_append_right _ (List.mem_append_right _ (List.mem_append_right _ (List.mem_append_right _ (List.mem_append_right _ (List.mem_append_right _ (List.mem_append_right _ (List.mem_append_right _ (List.mem_append_right _ (List.mem_append_right _ (List.mem_append_right _ (List.mem_append_right _ (List.mem_append_right _ (List.mem_append_right _ (List.mem_append_right _ (List.mem_append_right _ (List.mem_append_right _ (List.mem_append_right _ (List.mem_append_right _ (List.mem_append_right _ (List.mem_append_right _ (List.mem_append_right _ (List.mem_append_right _ (List.mem_append_right _ (List.mem_append_right _ (List.mem_append_right _ (List.mem_append_right _ (List.mem_append_right _ (List.mem_append_right _ (List.mem_append_right _ (List.mem_append_right _ (List.mem_append_left _ h))))))))))))))))))))))))))))))))))))))))))))))))))))
theorem jb_40 : wsL_law_r40.all goodWord = true := by decide +kernel
theorem jm_41 : ∀ w ∈ wsL_law_r41, w ∈ wsL_law := fun _ h => List.mem_append_left _ (List.mem_append_left _ (List.mem_append_left _ (List.mem_append_left _ (List.mem_append_left _ (List.mem_append_left _ (List.mem_append_left _ (List.mem_append_left _ (List.mem_append_left _ (List.mem_append_left _ (List.mem_append_left _ (List.mem_append_left _ (List.mem_append_left _ (List.mem_append_right _ (List.mem_append_right _ (List.mem_append_right _ (List.mem_append_right _ (List.mem_append_right _ (List.mem_append_right _ (List.mem_append_right _ (List.mem_append_right _ (List.mem_append_right _ (List.mem_append_right _ (List.mem_append_right _ (List.mem_append_right _ (List.mem_append_right _ (List.mem_append_right _ (List.mem_append_right _ (List.mem_append_right _ (List.mem_append_right _ (List.mem_append_right _ (List.mem_append_right _ (List.mem_append_right _ (List.mem_append_right _ (List.mem_append_right _ (List.mem_append_right _ (List.mem_append_right _ (List.mem_append_right _ (List.mem_append_right _ (List.mem_append_right _ (List.mem_append_right _ (List.mem_append_right _ (List.mem_append_right _ (List.mem_append_right _ (List.mem_append_right _ (List.mem_append_right _ (List.mem_append_right _ (List.mem_append_right _ (List.mem_append_right _ (List.mem_append_right _ (List.mem_append_right _ (List.mem_append_right _ (List.mem_append_right _ (List.mem_append_left _ h)))))))))))))))))))))))))))))))))))))))))))))))))))))
theorem jb_41 : wsL_law_r41.all goodWord = true := by decide +kernel
theorem jm_42 : ∀ w ∈ wsL_law_r42, w ∈ wsL_law := fun _ h => List.mem_append_left _ (List.mem_append_left _ (List.mem_append_left _ (List.mem_append_left _ (List.mem_append_left _ (List.mem_append_left _ (List.mem_append_left _ (List.mem_append_left _ (List.mem_append_left _ (List.mem_append_left _ (List.mem_append_left _ (List.mem_append_left _ (List.mem_append_left _ (List.mem_append_right _ (List.mem_append_right _ (List.mem_append_right _ (List.mem_append_right _ (List.mem_append_right _ (List.mem_append_right _ (List.mem_append_right _ (List.mem_append_right _ (List.mem_append_right _ (List.mem_append_right _ (List.mem_append_right _ (List.mem_append_right _ (List.mem_append_right _ (List.mem_append_right _ (List.mem_append_right _ (List.mem_append_right _ (List.mem_append_right _ (List.mem_append_right _ (List.mem_append_right _ (List.mem_append_right _ (List.mem_append_right _ (List.mem_append_right _ (List.mem_append_right _ (List.mem_append_right _ (List.mem_append_right _ (List.mem_append_right _ (List.mem_append_right _ (List.mem_append_right _ (List.mem_append_right _ (List.mem_append_right _ (List.mem_append_right _ (List.mem_append_right _ (List.mem_append_right _ (List.mem_append_right _ (List.mem_append_right _ (List.mem_append_right _ (List.mem_append_right _ (List.mem_append_right _ (List.mem_append_right _ (List.mem_append_right _ (List.mem_append_right _ (List.mem_append_left _ h))))))))))))))))))))))))))))))))))))))))))))))))))))))
theorem jb_42 : wsL_law_r42.all goodWord = true := by decide +kernel
theorem jm_43 : ∀ w ∈ wsL_law_r43, w ∈ wsL_law := fun _ h => List.mem_append_left _ (List.mem_append_left _ (List.mem_append_left _ (List.mem_append_left _ (List.mem_append_left _ (List.mem_append_left _ (List.mem_append_left _ (List.mem_append_left _ (List.mem_append_left _ (List.mem_append_left _ (List.mem_append_left _ (List.mem_append_left _ (List.mem_append_left _ (List.mem_append_right _ (List.mem_append_right _ (List.mem_append_right _ (List.mem_append_right _ (List.mem_append_right _ (List.mem_append_right _ (List.mem_append_right _ (List.mem_append_right _ (List.mem_append_right _ (List.mem_append_right _ (List.mem_append_right _ (List.mem_append_right _ (List.mem_append_right _ (List.mem_append_right _ (List.mem_append_right _ (List.mem_append_right _ (List.mem_append_right _ (List.mem_append_right _ (List.mem_append_right _ (List.mem_append_right _ (List.mem_append_right _ (List.mem_append_right _ (List.mem_append_right _ (List.mem_append_right _ (List.mem_append_right _ (List.mem_append_right _ (List.mem_append_right _ (List.mem_append_right _ (List.mem_append_right _ (List.mem_append_right _ (List.mem_append_right _ (List.mem_append_right _ (List.mem_append_right _ (List.mem_append_right _ (List.mem_append_right _ (List.mem_append_right _ (List.mem_append_right _ (List.mem_append_right _ (List.mem_append_right _ (List.mem_append_right _ (List.mem_append_right _ (List.mem_append_right _ (List.mem_append_left _ h)))))))))))))))))))))))))))))))))))))))))))))))))))))))
theorem jb_43 : wsL_law_r43.all goodWord = true := by decide +kernel
theorem jm_44 : ∀ w ∈ wsL_law_r44, w ∈ wsL_law := fun _ h => List.mem_append_left _ (List.mem_append_left _ (List.mem_append_left _ (List.mem_append_left _ (List.mem_append_left _ (List.mem_append_left _ (List.mem_append_left _ (List.mem_append_left _ (List.mem_append_left _ (List.mem_append_left _ (List.mem_append_left _ (List.mem_append_left _ (List.mem_append_left _ (List.mem_append_right _ (List.mem_append_right _ (List.mem_append_right _ (List.mem_append_right _ (List.mem_append_right _ (List.mem_append_right _ (List.mem_append_right _ (List.mem_append_right _ (List.mem_append_right _ (List.mem_append_right _ (List.mem_append_right _ (List.mem_append_right _ (List.mem_append_right _ (List.mem_append_right _ (List.mem_append_right _ (List.mem_append_right _ (List.mem_append_right _ (List.mem_append_right _ (List.mem_append_right _ (List.mem_append_right _ (List.mem_append_right _ (List.mem_append_right _ (List.mem_append_right _ (List.mem_append_right _ (List.mem_append_right _ (List.mem_append_right _ (List.mem_append_right _ (List.mem_append_right _ (List.mem_append_right _ (List.mem_append_right _ (List.mem_append_right _ (List.mem_append_right _ (List.mem_append_right _ (List.mem_append_right _ (List.mem_append_right _ (List.mem_append_right _ (List.mem_append_right _ (List.mem_append_right _ (List.mem_append_right _ (List.mem_append_right _ (List.mem_append_right _ (List.mem_append_right _ (List.mem_append_right _ (List.mem_append_left _ h))))))))))))))))))))))))))))))))))))))))))))))))))))))))
theorem jb_44 : wsL_law_r44.all goodWord = true := by decide +kernel
theorem jm_45 : ∀ w ∈ wsL_law_r45, w ∈ wsL_law := fun _ h => List.mem_append_left _ (List.mem_append_left _ (List.mem_append_left _ (List.mem_append_left _ (List.mem_append_left _ (List.mem_append_left _ (List.mem_append_left _ (List.mem_append_left _ (List.mem_append_left _ (List.mem_append_left _ (List.mem_append_left _ (List.mem_append_left _ (List.mem_append_left _ (List.mem_append_right _ (List.mem_append_right _ (List.mem_append_right _ (List.mem_append_right _ (List.mem_append_right _ (List.mem_append_right _ (List.mem_append_right _ (List.mem_append_right _ (List.mem_append_right _ (List.mem_append_right _ (List.mem_append_right _ (List.mem_append_right _ (List.mem_append_right _ (List.mem_append_right _ (List.mem_append_right _ (List.mem_append_right _ (List.mem_append_right _ (List.mem_append_right _ (List.mem_append_right _ (List.mem_append_right _ (List.mem_append_right _ (List.mem_append_right _ (List.mem_append_right _ (List.mem_append_right _ (List.mem_append_right _ (List.mem_append_right _ (List.mem_append_right _ (List.mem_append_right _ (List.mem_append_right _ (List.mem_append_right _ (List.mem_append_right _ (List.mem_append_right _ (List.mem_append_right _ (List.mem_append_right _ (List.mem_append_right _ (List.mem_append_right _ (List.mem_append_right _ (List.mem_append_right _ (List.mem_append_right _ (List.mem_append_right _ (List.mem_append_right _ (List.mem_append_right _ (List.mem_append_right _ (List.mem_append_right _ (List.mem_append_left _ h)))))))))))))))))))))))))))))))))))))))))))))))))))))))))
theorem jb_45 : wsL_law_r45.all goodWord = true := by decide +kernel
theorem jm_46 : ∀ w ∈ wsL_law_r46, w ∈ wsL_law := fun _ h => List.mem_append_left _ (List.mem_append_left _ (List.mem_append_left _ (List.mem_append_left _ (List.mem_append_left _ (List.mem_append_left _ (List.mem_append_left _ (List.mem_append_left _ (List.mem_append_left _ (List.mem_append_left _ (List.mem_append_left _ (List.mem_append_left _ (List.mem_append_left _ (List.mem_append_right _ (List.mem_append_right _ (List.mem_append_right _ (List.mem_append_right _ (List.mem_append_right _ (List.mem_append_right _ (List.mem_append_right _ (List.mem_append_right _ (List.mem_append_right _ (List.mem_append_right _ (List.mem_append_right _ (List.mem_append_right _ (List.mem_append_right _ (List.mem_append_right _ (List.mem_append_right _ (List.mem_append_right _ (List.mem_append_right _ (List.mem_append_right _ (List.mem_append_right _ (List.mem_append_right _ (List.mem_append_right _ (List.mem_append_right _ (List.mem_append_right _ (List.mem_append_right _ (List.mem_append_right _ (List.mem_append_right _ (List.mem_append_right _ (List.mem_append_right _ (List.mem_append_right _ (List.mem_append_right _ (List.mem_append_right _ (List.mem_append_right _ (List.mem_append_right _ (List.mem_append_right _ (List.mem_append_right _ (List.mem_append_right _ (List.mem_append_right _ (List.mem_append_right _ (List.mem_append_right _ (List.mem_append_right _ (List.mem_append_right _ (List.mem_append_right _ (List.mem_append_right _ (List.mem_append_right _ (List.mem_append_right _ (List.mem_append_left _ h))))))))))))))))))))))))))))))))))))))))))))))))))))))))))
theorem jb_46 : wsL_law_r46.all goodWord = true := by decide +kernel
theorem jm_47 : ∀ w ∈ wsL_law_r47, w ∈ wsL_law := fun _ h => List.mem_append_left _ (List.mem_append_left _ (List.mem_append_left _ (List.mem_append_left _ (List.mem_append_left _ (List.mem_append_left _ (List.mem_append_left _ (List.mem_append_left _ (List.mem_append_left _ (List.mem_append_left _ (List.mem_append_left _ (List.mem_append_left _ (List.mem_append_left _ (List.mem_append_right _ (List.mem_append_right _ (List.mem_append_right _ (List.mem_append_right _ (List.mem_append_right _ (List.mem_append_right _ (List.mem_append_right _ (List.mem_append_right _ (List.mem_append_right _ (List.mem_append_right _ (List.mem_append_right _ (List.mem_append_right _ (List.mem_append_right _ (List.mem_append_right _ (List.mem_append_right _ (List.mem_append_right _ (List.mem_append_right _ (List.mem_append_right _ (List.mem_append_right _ (List.mem_append_right _ (List.mem_append_right _ (List.mem_append_right _ (List.mem_append_right _ (List.mem_append_right _ (List.mem_append_right _ (List.mem_append_right _ (List.mem_append_right _ (List.mem_append_right _ (List.mem_append_right _ (List.mem_append_right _ (List.mem_append_right _ (List.mem_append_right _ (List.mem_append_right _ (List.mem_append_right _ (List.mem_append_right _ (List.mem_append_right _ (List.mem_append_right _ (List.mem_append_right _ (List.mem_append_right _ (List.mem_append_right _ (List.mem_append_right _ (List.mem_append_right _ (List.mem_append_right _ (List.mem_append_right _ (List.mem_append_right _ (List.mem_append_right _ (List.mem_append_left _ h)))))))))))))))))))))))))))))))))))))))))))))))))))))))))))
theorem jb_47 : wsL_law_r47.all goodWord = true := by decide +kernel
theorem jm_48 : ∀ w ∈ wsL_law_r48, w ∈ wsL_law := fun _ h => List.mem_append_left _ (List.mem_append_left _ (List.mem_append_left _ (List.mem_append_left _ (List.mem_append_left _ (List.mem_append_left _ (List.mem_append_left _ (List.mem_append_left _ (List.mem_append_left _ (List.mem_append_left _ (List.mem_append_left _ (List.mem_append_left _ (List.mem_append_left _ (List.mem_append_right _ (List.mem_append_right _ (List.mem_append_right _ (List.mem_append_right _ (List.mem_append_right _ (List.mem_append_right _ (List.mem_append_right _ (List.mem_append_right _ (List.mem_append_right _ (List.mem_append_right _ (List.mem_append_right _ (List.mem_append_right _ (List.mem_append_right _ (List.mem_append_right _ (List.mem_append_right _ (List.mem_append_right _ (List.mem_append_right _ (List.mem_append_right _ (List.mem_append_right _ (List.mem_append_right _ (List.mem_append_right _ (List.mem_append_right _ (List.mem_append_right _ (List.mem_append_right _ (List.mem_append_right _ (List.mem_append_right _ (List.mem_append_right _ (List.mem_append_right _ (List.mem_append_right _ (List.mem_append_right _ (List.mem_append_right _ (List.mem_append_right _ (List.mem_append_right _ (List.mem_append_right _ (List.mem_append_right _ (List.mem_append_right _ (List.mem_append_right _ (List.mem_append_right _ (List.mem_append_right _ (List.mem_append_right _ (List.mem_append_right _ (List.mem_append_right _ (List.mem_append_right _ (List.mem_append_right _ (List.mem_append_right _ (List.mem_append_right _ (List.mem_append_right _ (List.mem_append_left _ h))))))))))))))))))))))))))))))))))))))))))))))))))))))))))))
theorem jb_48 : wsL_law_r48.all goodWord = true := by decide +kernel
theorem jm_49 : ∀ w ∈ wsL_law_r49, w ∈ wsL_law := fun _ h => List.mem_append_left _ (List.mem_append_left _ (List.mem_append_left _ (List.mem_append_left _ (List.mem_append_left _ (List.mem_append_left _ (List.mem_append_left _ (List.mem_append_left _ (List.mem_append_left _ (List.mem_append_left _ (List.mem_append_left _ (List.mem_append_left _ (List.mem_append_left _ (List.mem_append_right _ (List.mem_append_right _ (List.mem_append_right _ (List.mem_append_right _ (List.mem_append_right _ (List.mem_append_right _ (List.mem_append_right _ (List.mem_append_right _ (List.mem_append_right _ (List.mem_append_right _ (List.mem_append_right _ (List.mem_append_right _ (List.mem_append_right _ (List.mem_append_right _ (List.mem_append_right _ (List.mem_append_right _ (List.mem_append_right _ (List.mem_append_right _ (List.mem_append_right _ (List.mem_append_right _ (List.mem_append_right _ (List.mem_append_right _ (List.mem_append_right _ (List.mem_append_right _ (List.mem_append_right _ (List.mem_append_right _ (List.mem_append_right _ (List.mem_append_right _ (List.mem_append_right _ (List.mem_append_right _ (List.mem_append_right _ (List.mem_append_right _ (List.mem_append_right _ (List.mem_append_right _ (List.mem_append_right _ (List.mem_append_right _ (List.mem_append_right _ (List.mem_append_right _ (List.mem_append_right _ (List.mem_append_right _ (List.mem_append_right _ (List.mem_append_right _ (List.mem_append_right _ (List.mem_append_right _ (List.mem_append_right _ (List.mem_append_right _ (List.mem_append_right _ (List.mem_append_right _ (List.mem_append_left _ h)))))))))))))))))))))))))))))))))))))))))))))))))))))))))))))
theorem jb_49 : wsL_law_r49.all goodWord = true := by decide +kernel
theorem jm_50 : ∀ w ∈ wsL_law_r50, w ∈ wsL_law := fun _ h => List.mem_append_left _ (List.mem_append_left _ (List.mem_append_left _ (List.mem_append_left _ (List.mem_append_left _ (List.mem_append_left _ (List.mem_append_left _ (List.mem_append_left _ (List.mem_append_left _ (List.mem_append_left _ (List.mem_append_left _ (List.mem_append_left _ (List.mem_append_left _ (List.mem_append_right _ (List.mem_append_right _ (List.mem_append_right _ (List.mem_append_right _ (List.mem_append_right _ (List.mem_append_right _ (List.mem_append_right _ (List.mem_append_right _ (List.mem_append_right _ (List.mem_append_right _ (List.mem_append_right _ (List.mem_append_right _ (List.mem_append_right _ (List.mem_append_right _ (List.mem_append_right _ (List.mem_append_right _ (List.mem_append_right _ (List.mem_append_right _ (List.mem_append_right _ (List.mem_append_right _ (List.mem_append_right _ (List.mem_append_right _ (List.mem_append_right _ (List.mem_append_right _ (List.mem_append_right _ (List.mem_append_right _ (List.mem_append_right _ (List.mem_append_right _ (List.mem_append_right _ (List.mem_append_right _ (List.mem_append_right _ (List.mem_append_right _ (List.mem_append_right _ (List.mem_append_right _ (List.mem_append_right _ (List.mem_append_right _ (List.mem_append_right _ (List.mem_append_right _ (List.mem_append_right _ (List.mem_append_right _ (List.mem_append_right _ (List.mem_append_right _ (List.mem_append_right _ (List.mem_append_right _ (List.mem_append_right _ (List.mem_append_right _ (List.mem_append_right _ (List.mem_append_right _ (List.mem_append_right _ (List.mem_append_left _ h))))))))))))))))))))))))))))))))))))))))))))))))))))))))))))))
theorem jb_50 : wsL_law_r50.all goodWord = true := by decide +kernel
theorem jm_51 : ∀ w ∈ wsL_law_r51, w ∈ wsL_law := fun _ h => List.mem_append_left _ (List.mem_append_left _ (List.mem_append_left _ (List.mem_append_left _ (List.mem_append_left _ (List.mem_append_left _ (List.mem_append_left _ (List.mem_append_left _ (List.mem_append_left _ (List.mem_append_left _ (List.mem_append_left _ (List.mem_append_left _ (List.mem_append_left _ (List.mem_append_right _ (List.mem_append_right _ (List.mem_append_right _ (List.mem_append_right _ (List.mem_append_right _ (List.mem_append_right _ (List.mem_append_right _ (List.mem_append_right _ (List.mem_append_right _ (List.mem_append_right _ (List.mem_append_right _ (List.mem_append_right _ (List.mem_append_right _ (List.mem_append_right _ (List.mem_append_right _ (List.mem_append_right _ (List.mem_append_right _ (List.mem_append_right _ (List.mem_append_right _ (List.mem_append_right _ (List.mem_append_right _ (List.mem_append_right _ (List.mem_append_right _ (List.mem_append_right _ (List.mem_append_right _ (List.mem_append_right _ (List.mem_append_right _ (List.mem_append_right _ (List.mem_append_right _ (List.mem_append_right _ (List.mem_append_right _ (List.mem_append_right _ (List.mem_append_right _ (List.mem_append_right _ (List.mem_append_right _ (List.mem_append_right _ (List.mem_append_right _ (List.mem_append_right _ (List.mem_append_right _ (List.mem_append_right _ (List.mem_append_right _ (List.mem_append_right _ (List.mem_append_right _ (List.mem_append_right _ (List.mem_append_right _ (List.mem_append_right _ (List.mem_append_right _ (List.mem_append_right _ (List.mem_append_right _ (List.mem_append_right _ (List.mem_append_left _ h)))))))))))))))))))))))))))))))))))))))))))))))))))))))))))))))
theorem jb_51 : wsL_law_r51.all goodWord = true := by decide +kernel
theorem jm_52 : ∀ w ∈ wsL_law_r52, w ∈ wsL_law := fun _ h => List.mem_append_left _ (List.mem_append_left _ (List.mem_append_left _ (List.mem_append_left _ (List.mem_append_left _ (List.mem_append_left _ (List.mem_append_left _ (List.mem_append_left _ (List.mem_append_left _ (List.mem_append_left _ (List.mem_append_left _ (List.mem_append_left _ (List.mem_append_left _ (List.mem_append_right _ (List.mem_append_right _ (List.mem_append_right _ (List.mem_append_right _ (List.mem_append_right _ (List.mem_append_right _ (List.mem_append_right _ (List.mem_append_right _ (List.mem_append_right _ (List.mem_append_right _ (List.mem_append_right _ (List.mem_append_right _ (List.mem_append_right _ (List.mem_append_right _ (List.mem_append_right _ (List.mem_append_right _ (List.mem_append_right _ (List.mem_append_right _ (List.mem_append_right _ (List.mem_append_right _ (List.mem_append_right _ (List.mem_append_right _ (List.mem_append_right _ (List.mem_append_right _ (List.mem_append_right _ (List.mem_append_right _ (List.mem_append_right _ (List.mem_append_right _ (List.mem_append_right _ (List.mem_append_right _ (List.mem_append_right _ (List.mem_append_right _ (List.mem_append_right _ (List.mem_append_right _ (List.mem_append_right _ (List.mem_append_right _ (List.mem_append_right _ (List.mem_append_right _ (List.mem_append_right _ (List.mem_append_right _ (List.mem_append_right _ (List.mem_append_right _ (List.mem_append_right _ (List.mem_append_right _ (List.mem_append_right _ (List.mem_append_right _ (List.mem_append_right _ (List.mem_append_right _ (List.mem_append_right _ (List.mem_append_right _ (List.mem_append_right _ (List.mem_append_left _ h))))))))))))))))))))))))))))))))))))))))))))))))))))))))))))))))
theorem jb_52 : wsL_law_r52.all goodWord = true := by decide +kernel
theorem jm_53 : ∀ w ∈ wsL_law_r53, w ∈ wsL_law := fun _ h => List.mem_append_left _ (List.mem_append_left _ (List.mem_append_left _ (List.mem_append_left _ (List.mem_append_left _ (List.mem_append_left _ (List.mem_append_left _ (List.mem_append_left _ (List.mem_append_left _ (List.mem_append_left _ (List.mem_append_left _ (List.mem_append_left _ (List.mem_append_left _ (List.mem_append_right _ (List.mem_append_right _ (List.mem_append_right _ (List.mem_append_right _ (List.mem_append_right _ (List.mem_append_right _ (List.mem_append_right _ (List.mem_append_right _ (List.mem_append_right _ (List.mem_append_right _ (List.mem_append_right _ (List.mem_append_right _ (List.mem_append_right _ (List.mem_append_right _ (List.mem_append_right _ (List.mem_append_right _ (List.mem_append_right _ (List.mem_append_right _ (List.mem_append_right _ (List.mem_append_right _ (List.mem_append_right _ (List.mem_append_right _ (List.mem_append_right _ (List.mem_append_right _ (List.mem_append_right _ (List.mem_append_right _ (List.mem_append_right _ (List.mem_append_right _ (List.mem_append_right _ (List.mem_append_right _ (List.mem_append_right _ (List.mem_append_right _ (List.mem_append_right _ (List.mem_append_right _ (List.mem_append_right _ (List.mem_append_right _ (List.mem_append_right _ (List.mem_append_right _ (List.mem_append_right _ (List.mem_append_right _ (List.mem_append_right _ (List.mem_append_right _ (List.mem_append_right _ (List.mem_append_right _ (List.mem_append_right _ (List.mem_append_right _ (List.mem_append_right _ (List.mem_append_right _ (List.mem_append_right _ (List.mem_append_right _ (List.mem_append_right _ (List.mem_append_right _ (List.mem_append_left _ h)))))))))))))))))))))))))))))))))))))))))))))))))))))))))))))))))
theorem jb_53 : wsL_law_r53.all goodWord = true := by decide +kernel
theorem jm_54 : ∀ w ∈ wsL_law_r54, w ∈ wsL_law := fun _ h => List.mem_append_left _ (List.mem_append_left _ (List.mem_append_left _ (List.mem_append_left _ (List.mem_append_left _ (List.mem_append_left _ (List.mem_append_left _ (List.mem_append_left _ (List.mem_append_left _ (List.mem_append_left _ (List.mem_append_left _ (List.mem_append_left _ (List.mem_append_left _ (List.mem_append_right _ (List.mem_append_right _ (List.mem_append_right _ (List.mem_append_right _ (List.mem_append_right _ (List.mem_append_right _ (List.mem_append_right _ (List.mem_append_right _ (List.mem_append_right _ (List.mem_append_right _ (List.mem_append_right _ (List.mem_append_right _ (List.mem_append_right _ (List.mem_append_right _ (List.mem_append_right _ (List.mem_append_right _ (List.mem_append_right _ (List.mem_append_right _ (List.mem_append_right _ (List.mem_append_right _ (List.mem_append_right _ (List.mem_append_right _ (List.mem_append_right _ (List.mem_append_right _ (List.mem_append_right _ (List.mem_append_right _ (List.mem_append_right _ (List.mem_append_right _ (List.mem_append_right _ (List.mem_append_right _ (List.mem_append_right _ (List.mem_append_right _ (List.mem_append_right _ (List.mem_append_right _ (List.mem_append_right _ (List.mem_append_right _ (List.mem_append_right _ (List.mem_append_right _ (List.mem_append_right _ (List.mem_append_right _ (List.mem_append_right _ (List.mem_append_right _ (List.mem_append_right _ (List.mem_append_right _ (List.mem_append_right _ (List.mem_append_right _ (List.mem_append_right _ (List.mem_append_right _ (List.mem_append_right _ (List.mem_append_right _ (List.mem_append_right _ (List.mem_append_right _ (List.mem_append_right _ (List.mem_append_left _ h))))))))))))))))))))))))))))))))))))))))))))))))))))))))))))))))))
theorem jb_54 : wsL_law_r54.all goodWord = true := by decide +kernel
theorem jm_55 : ∀ w ∈ wsL_law_r55, w ∈ wsL_law := fun _ h => List.mem_append_left _ (List.mem_append_left _ (List.mem_append_left _ (List.mem_append_left _ (List.mem_append_left _ (List.mem_append_left _ (List.mem_append_left _ (List.mem_append_left _ (List.mem_append_left _ (List.mem_append_left _ (List.mem_append_left _ (List.mem_append_left _ (List.mem_append_left _ (List.mem_append_right _ (List.mem_append_right _ (List.mem_append_right _ (List.mem_append_right _ (List.mem_append_right _ (List.mem_append_right _ (List.mem_append_right _ (List.mem_append_right _ (List.mem_append_right _ (List.mem_append_right _ (List.mem_append_right _ (List.mem_append_right _ (List.mem_append_right _ (List.mem_append_right _ (List.mem_append_right _ (List.mem_append_right _ (List.mem_append_right _ (List.mem_append_right _ (List.mem_append_right _ (List.mem_append_right _ (List.mem_append_right _ (List.mem_append_right _ (List.mem_append_right _ (List.mem_append_right _ (List.mem_append_right _ (List.mem_append_right _ (List.mem_append_right _ (List.mem_append_right _ (List.mem_append_right _ (List.mem_append_right _ (List.mem_append_right _ (List.mem_append_right _ (List.mem_append_right _ (List.mem_append_right _ (List.mem_append_right _ (List.mem_append_right _ (List.mem_append_right _ (List.mem_append_right _ (List.mem_append_right _ (List.mem_append_right _ (List.mem_append_right _ (List.mem_append_right _ (List.mem_append_right _ (List.mem_append_right _ (List.mem_append_right _ (List.mem_append_right _ (List.mem_append_right _ (List.mem_append_right _ (List.mem_append_right _ (List.mem_append_right _ (List.mem_append_right _ (List.mem_append_right _ (List.mem_append_right _ (List.mem_append_right _ (h)))))))))))))))))))))))))))))))))))))))))))))))))))))))))))))))))))
theorem jb_55 : wsL_law_r55.all goodWord = true := by decide +kernel
theorem jb_wsX110 : wsX110.all goodWord = true := by decide +kernel
theorem jb_wsX120 : wsX120.all goodWord = true := by decide +kernel
theorem jb_wsX80 : wsX80.all goodWord = true := by decide +kernel
theorem jb_wsX20 : wsX20.all goodWord = true := by decide +kernel
theorem jb_wsX50 : wsX50.all goodWord = true := by decide +kernel
theorem jb_wsX10 : wsX10.all goodWord = true := by decide +kernel
theorem jb_wsX60 : wsX60.all goodWord = true := by decide +kernel
theorem jb_wsX00 : wsX00.all goodWord = true := by decide +kernel
theorem jb_wsX30 : wsX30.all goodWord = true := by decide +kernel
theorem jb_wsX100 : wsX100.all goodWord = true := by decide +kernel
theorem jb_wsX90 : wsX90.all goodWord = true := by decide +kernel
theorem jb_wsX40 : wsX40.all goodWord = true := by decide +kernel
theorem jb_app {a b : List Cond} (ha : a.all goodWord = true) (hb : b.all goodWord = true) : (a ++ b).all goodWord = true := by rw [List.all_append, ha, hb]; rfl
theorem jb_law : wsL_law.all goodWord = true := jb_app (jb_app (jb_app (jb_app (jb_app (jb_app (jb_app (jb_app (jb_app (jb_app (jb_app (jb_app (jb_app (jb_app jb_1 (jb_app jb_2 (jb_app jb_3 (jb_app jb_4 (jb_app jb_5 (jb_app jb_6 (jb_app jb_7 (jb_app jb_8 (jb_app jb_9 (jb_app jb_10 (jb_app jb_11 (jb_app jb_12 (jb_app jb_13 (jb_app jb_14 (jb_app jb_15 (jb_app jb_16 (jb_app jb_17 (jb_app jb_18 (jb_app jb_19 (jb_app jb_20 (jb_app jb_21 (jb_app jb_22 (jb_app jb_23 (jb_app jb_24 (jb_app jb_25 (jb_app jb_26 (jb_app jb_27 (jb_app jb_28 (jb_app jb_29 (jb_app jb_30 (jb_app jb_31 (jb_app jb_32 (jb_app jb_33 (jb_app jb_34 (jb_app jb_35 (jb_app jb_36 (jb_app jb_37 (jb_app jb_38 (jb_app jb_39 (jb_app jb_40 (jb_app jb_41 (jb_app jb_42 (jb_app jb_43 (jb_app jb_44 (jb_app jb_45 (jb_app jb_46 (jb_app jb_47 (jb_app jb_48 (jb_app jb_49 (jb_app jb_50 (jb_app jb_51 (jb_app jb_52 (jb_app jb_53 (jb_app jb_54 (jb_55))))))))))))))))))))))))))))))))))))))))))))))))))))))) jb_wsX110) jb_wsX120) jb_wsX80) jb_wsX20) jb_wsX50) jb_wsX10) jb_wsX60) jb_wsX00) jb_wsX30) jb_wsX100) jb_wsX90) jb_wsX40) rfl
theorem jb_in {w : Cond} (h : w ∈ wsL_law) : goodWord w = true := List.all_eq_true.mp jb_law w h
theorem jg_cons {c0 c1 : Cond} (h : c1 ∈ wsL_law) : GoodIn (c0 :: wsL_law) (c1 :: wsL_law) := fun w hw => by
  have hm : w ∈ wsL_law := (List.mem_cons.mp hw).elim (fun e => e ▸ h) id
  exact ⟨List.mem_cons_of_mem _ hm, good_of_word (jb_in hm)⟩
theorem jg_V {c0 : Cond} {own C : String} {idx maxL : Nat} {y : MethodName} {b : ByteArray} {ret : Option FieldType} (h1 : Cond.methodLink own idx y ∈ wsL_law) (h2 : Cond.instanceMethod y ∈ wsL_law) (h3 : Cond.selects C y y ∈ wsL_law) (h4 : Cond.initialized C ∈ wsL_law) (h5 : Cond.code y b maxL ret ∈ wsL_law) : GoodIn (c0 :: wsL_law) (wsV own idx C y (Cond.code y b maxL ret :: wsL_law)) := by
  intro w hw
  have hm : w ∈ wsL_law := by
    rcases List.mem_append.mp hw with h | h
    · simp only [List.mem_cons, List.not_mem_nil, or_false] at h
      rcases h with rfl | rfl | rfl | rfl <;> assumption
    · exact (List.mem_cons.mp h).elim (fun e => e ▸ h5) id
  exact ⟨List.mem_cons_of_mem _ hm, good_of_word (jb_in hm)⟩
theorem jg_S {c0 : Cond} {own : String} {idx maxL : Nat} {y : MethodName} {b : ByteArray} {ret : Option FieldType} (h1 : Cond.methodLink own idx y ∈ wsL_law) (h2 : Cond.static y ∈ wsL_law) (h4 : Cond.initialized y.cls ∈ wsL_law) (h5 : Cond.code y b maxL ret ∈ wsL_law) : GoodIn (c0 :: wsL_law) (va_wsS own idx y (Cond.code y b maxL ret :: wsL_law)) := by
  intro w hw
  have hm : w ∈ wsL_law := by
    rcases List.mem_append.mp hw with h | h
    · simp only [List.mem_cons, List.not_mem_nil, or_false] at h
      rcases h with rfl | rfl | rfl <;> assumption
    · exact (List.mem_cons.mp h).elim (fun e => e ▸ h5) id
  exact ⟨List.mem_cons_of_mem _ hm, good_of_word (jb_in hm)⟩
