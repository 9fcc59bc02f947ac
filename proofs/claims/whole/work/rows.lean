section
-- ===== PART A: goes FIRST, ahead of the names: the tables' words, and 'selects' of the private methods out of them =====
/-- a private method of a class that the tables say can be made, by its rows of tables_1 -/
def lw_okq (q : MethodName × Nat) : Prop := (q.1.cls ≠ "java/lang/invoke/MethodHandle" ∧ q.1.cls ≠ "java/lang/invoke/VarHandle") ∧ Cond.instantiable q.1.cls q.2 ∈ tables_1 ∧ Cond.privateMethod q.1 ∈ tables_1 ∧ Cond.instanceMethod q.1 ∈ tables_1
theorem lw_p0 : lw_okq (⟨"CottonWeeks", "found", "(I)I"⟩, 11) := ⟨⟨by decide +kernel, by decide +kernel⟩, List.mem_of_getElem? (i := 21) (by decide +kernel), List.mem_of_getElem? (i := 326) (by decide +kernel), List.mem_of_getElem? (i := 327) (by decide +kernel)⟩
theorem lw_p1 : lw_okq (⟨"CottonWeeks", "unfound", "(I)I"⟩, 11) := ⟨⟨by decide +kernel, by decide +kernel⟩, List.mem_of_getElem? (i := 21) (by decide +kernel), List.mem_of_getElem? (i := 338) (by decide +kernel), List.mem_of_getElem? (i := 339) (by decide +kernel)⟩
theorem lw_p2 : lw_okq (⟨"CottonWeeks", "passWeek", "()V"⟩, 11) := ⟨⟨by decide +kernel, by decide +kernel⟩, List.mem_of_getElem? (i := 21) (by decide +kernel), List.mem_of_getElem? (i := 476) (by decide +kernel), List.mem_of_getElem? (i := 477) (by decide +kernel)⟩
theorem lw_p3 : lw_okq (⟨"CottonWeeks", "liveHomes", "()V"⟩, 11) := ⟨⟨by decide +kernel, by decide +kernel⟩, List.mem_of_getElem? (i := 21) (by decide +kernel), List.mem_of_getElem? (i := 530) (by decide +kernel), List.mem_of_getElem? (i := 531) (by decide +kernel)⟩
theorem lw_p4 : lw_okq (⟨"CottonWeeks$Rules", "rankGoods", "(I)V"⟩, 7) := ⟨⟨by decide +kernel, by decide +kernel⟩, List.mem_of_getElem? (i := 91) (by decide +kernel), List.mem_of_getElem? (i := 542) (by decide +kernel), List.mem_of_getElem? (i := 543) (by decide +kernel)⟩
theorem lw_p5 : lw_okq (⟨"CottonWeeks", "earned", "(II)I"⟩, 11) := ⟨⟨by decide +kernel, by decide +kernel⟩, List.mem_of_getElem? (i := 21) (by decide +kernel), List.mem_of_getElem? (i := 563) (by decide +kernel), List.mem_of_getElem? (i := 564) (by decide +kernel)⟩
theorem lw_p6 : lw_okq (⟨"CottonWeeks$Tape", "takeToken", "()V"⟩, 8) := ⟨⟨by decide +kernel, by decide +kernel⟩, List.mem_of_getElem? (i := 121) (by decide +kernel), List.mem_of_getElem? (i := 607) (by decide +kernel), List.mem_of_getElem? (i := 608) (by decide +kernel)⟩
theorem lw_p7 : lw_okq (⟨"CottonWeeks$Tape", "takeName", "()V"⟩, 8) := ⟨⟨by decide +kernel, by decide +kernel⟩, List.mem_of_getElem? (i := 121) (by decide +kernel), List.mem_of_getElem? (i := 617) (by decide +kernel), List.mem_of_getElem? (i := 618) (by decide +kernel)⟩
theorem lw_p8 : lw_okq (⟨"CottonWeeks$Tape", "takeNumber", "()V"⟩, 8) := ⟨⟨by decide +kernel, by decide +kernel⟩, List.mem_of_getElem? (i := 121) (by decide +kernel), List.mem_of_getElem? (i := 624) (by decide +kernel), List.mem_of_getElem? (i := 625) (by decide +kernel)⟩
theorem lw_p9 : lw_okq (⟨"CottonWeeks$Tape", "readList", "(LCottonWeeks$Rules;)Z"⟩, 8) := ⟨⟨by decide +kernel, by decide +kernel⟩, List.mem_of_getElem? (i := 121) (by decide +kernel), List.mem_of_getElem? (i := 628) (by decide +kernel), List.mem_of_getElem? (i := 629) (by decide +kernel)⟩
theorem lw_p10 : lw_okq (⟨"CottonWeeks$Tape", "isWord", "(Ljava/lang/String;)Z"⟩, 8) := ⟨⟨by decide +kernel, by decide +kernel⟩, List.mem_of_getElem? (i := 121) (by decide +kernel), List.mem_of_getElem? (i := 633) (by decide +kernel), List.mem_of_getElem? (i := 634) (by decide +kernel)⟩
theorem lw_p11 : lw_okq (⟨"CottonWeeks$Tape", "faulty", "(I)Z"⟩, 8) := ⟨⟨by decide +kernel, by decide +kernel⟩, List.mem_of_getElem? (i := 121) (by decide +kernel), List.mem_of_getElem? (i := 685) (by decide +kernel), List.mem_of_getElem? (i := 686) (by decide +kernel)⟩
theorem lw_p12 : lw_okq (⟨"CottonWeeks$Tape", "isNumberTo", "(I)Z"⟩, 8) := ⟨⟨by decide +kernel, by decide +kernel⟩, List.mem_of_getElem? (i := 121) (by decide +kernel), List.mem_of_getElem? (i := 689) (by decide +kernel), List.mem_of_getElem? (i := 690) (by decide +kernel)⟩
theorem lw_p13 : lw_okq (⟨"CottonWeeks$Tape", "readRule", "(LCottonWeeks$Rules;I)Z"⟩, 8) := ⟨⟨by decide +kernel, by decide +kernel⟩, List.mem_of_getElem? (i := 121) (by decide +kernel), List.mem_of_getElem? (i := 693) (by decide +kernel), List.mem_of_getElem? (i := 694) (by decide +kernel)⟩
theorem lw_p14 : lw_okq (⟨"CottonWeeks$Tape", "ruleOfWord", "()I"⟩, 8) := ⟨⟨by decide +kernel, by decide +kernel⟩, List.mem_of_getElem? (i := 121) (by decide +kernel), List.mem_of_getElem? (i := 697) (by decide +kernel), List.mem_of_getElem? (i := 698) (by decide +kernel)⟩
theorem lw_p15 : lw_okq (⟨"CottonWeeks$Debts", "takeRow", "([IIII)Z"⟩, 5) := ⟨⟨by decide +kernel, by decide +kernel⟩, List.mem_of_getElem? (i := 157) (by decide +kernel), List.mem_of_getElem? (i := 802) (by decide +kernel), List.mem_of_getElem? (i := 803) (by decide +kernel)⟩
def lw_privs_1 : List (MethodName × Nat) := [(⟨"CottonWeeks", "found", "(I)I"⟩, 11), (⟨"CottonWeeks", "unfound", "(I)I"⟩, 11), (⟨"CottonWeeks", "passWeek", "()V"⟩, 11), (⟨"CottonWeeks", "liveHomes", "()V"⟩, 11), (⟨"CottonWeeks$Rules", "rankGoods", "(I)V"⟩, 7), (⟨"CottonWeeks", "earned", "(II)I"⟩, 11), (⟨"CottonWeeks$Tape", "takeToken", "()V"⟩, 8), (⟨"CottonWeeks$Tape", "takeName", "()V"⟩, 8), (⟨"CottonWeeks$Tape", "takeNumber", "()V"⟩, 8), (⟨"CottonWeeks$Tape", "readList", "(LCottonWeeks$Rules;)Z"⟩, 8), (⟨"CottonWeeks$Tape", "isWord", "(Ljava/lang/String;)Z"⟩, 8), (⟨"CottonWeeks$Tape", "faulty", "(I)Z"⟩, 8), (⟨"CottonWeeks$Tape", "isNumberTo", "(I)Z"⟩, 8), (⟨"CottonWeeks$Tape", "readRule", "(LCottonWeeks$Rules;I)Z"⟩, 8), (⟨"CottonWeeks$Tape", "ruleOfWord", "()I"⟩, 8), (⟨"CottonWeeks$Debts", "takeRow", "([IIII)Z"⟩, 5)]
theorem lw_r1 : ∀ q ∈ lw_privs_1, lw_okq q := List.forall_mem_cons.mpr ⟨lw_p0, List.forall_mem_cons.mpr ⟨lw_p1, List.forall_mem_cons.mpr ⟨lw_p2, List.forall_mem_cons.mpr ⟨lw_p3, List.forall_mem_cons.mpr ⟨lw_p4, List.forall_mem_cons.mpr ⟨lw_p5, List.forall_mem_cons.mpr ⟨lw_p6, List.forall_mem_cons.mpr ⟨lw_p7, List.forall_mem_cons.mpr ⟨lw_p8, List.forall_mem_cons.mpr ⟨lw_p9, List.forall_mem_cons.mpr ⟨lw_p10, List.forall_mem_cons.mpr ⟨lw_p11, List.forall_mem_cons.mpr ⟨lw_p12, List.forall_mem_cons.mpr ⟨lw_p13, List.forall_mem_cons.mpr ⟨lw_p14, List.forall_mem_cons.mpr ⟨lw_p15, fun _ h => absurd h List.not_mem_nil⟩⟩⟩⟩⟩⟩⟩⟩⟩⟩⟩⟩⟩⟩⟩⟩
theorem lw_p16 : lw_okq (⟨"CottonWeeks$Debts", "roundChanges", "(I)Z"⟩, 5) := ⟨⟨by decide +kernel, by decide +kernel⟩, List.mem_of_getElem? (i := 157) (by decide +kernel), List.mem_of_getElem? (i := 812) (by decide +kernel), List.mem_of_getElem? (i := 813) (by decide +kernel)⟩
theorem lw_p17 : lw_okq (⟨"CottonWeeks$Debts", "paidTo", "(II)I"⟩, 5) := ⟨⟨by decide +kernel, by decide +kernel⟩, List.mem_of_getElem? (i := 157) (by decide +kernel), List.mem_of_getElem? (i := 816) (by decide +kernel), List.mem_of_getElem? (i := 817) (by decide +kernel)⟩
theorem lw_p18 : lw_okq (⟨"CottonWeeks$Bodies", "bodyFor", "(II)I"⟩, 8) := ⟨⟨by decide +kernel, by decide +kernel⟩, List.mem_of_getElem? (i := 204) (by decide +kernel), List.mem_of_getElem? (i := 901) (by decide +kernel), List.mem_of_getElem? (i := 902) (by decide +kernel)⟩
theorem lw_p19 : lw_okq (⟨"CottonWeeks$Bodies", "begin", "(III)I"⟩, 8) := ⟨⟨by decide +kernel, by decide +kernel⟩, List.mem_of_getElem? (i := 204) (by decide +kernel), List.mem_of_getElem? (i := 909) (by decide +kernel), List.mem_of_getElem? (i := 910) (by decide +kernel)⟩
theorem lw_p20 : lw_okq (⟨"CottonWeeks$Bodies", "leaveTrace", "(I)V"⟩, 8) := ⟨⟨by decide +kernel, by decide +kernel⟩, List.mem_of_getElem? (i := 204) (by decide +kernel), List.mem_of_getElem? (i := 913) (by decide +kernel), List.mem_of_getElem? (i := 914) (by decide +kernel)⟩
theorem lw_p21 : lw_okq (⟨"CottonWeeks$Bodies", "numberOf", "(I)I"⟩, 8) := ⟨⟨by decide +kernel, by decide +kernel⟩, List.mem_of_getElem? (i := 204) (by decide +kernel), List.mem_of_getElem? (i := 917) (by decide +kernel), List.mem_of_getElem? (i := 918) (by decide +kernel)⟩
theorem lw_p22 : lw_okq (⟨"CottonWeeks", "sheetsThere", "()I"⟩, 11) := ⟨⟨by decide +kernel, by decide +kernel⟩, List.mem_of_getElem? (i := 21) (by decide +kernel), List.mem_of_getElem? (i := 929) (by decide +kernel), List.mem_of_getElem? (i := 930) (by decide +kernel)⟩
theorem lw_p23 : lw_okq (⟨"CottonWeeksModel", "finding", "(I)I"⟩, 57) := ⟨⟨by decide +kernel, by decide +kernel⟩, List.mem_of_getElem? (i := 946) (by decide +kernel), List.mem_of_getElem? (i := 1138) (by decide +kernel), List.mem_of_getElem? (i := 1139) (by decide +kernel)⟩
theorem lw_p24 : lw_okq (⟨"CottonWeeksModel", "isMill", "(I)Z"⟩, 57) := ⟨⟨by decide +kernel, by decide +kernel⟩, List.mem_of_getElem? (i := 946) (by decide +kernel), List.mem_of_getElem? (i := 1188) (by decide +kernel), List.mem_of_getElem? (i := 1189) (by decide +kernel)⟩
theorem lw_p25 : lw_okq (⟨"CottonWeeksModel", "stepOnce", "()V"⟩, 57) := ⟨⟨by decide +kernel, by decide +kernel⟩, List.mem_of_getElem? (i := 946) (by decide +kernel), List.mem_of_getElem? (i := 1202) (by decide +kernel), List.mem_of_getElem? (i := 1203) (by decide +kernel)⟩
theorem lw_p26 : lw_okq (⟨"CottonWeeksModel", "priceOf", "(I)I"⟩, 57) := ⟨⟨by decide +kernel, by decide +kernel⟩, List.mem_of_getElem? (i := 946) (by decide +kernel), List.mem_of_getElem? (i := 1206) (by decide +kernel), List.mem_of_getElem? (i := 1207) (by decide +kernel)⟩
theorem lw_p27 : lw_okq (⟨"CottonWeeksModel", "balesOf", "(I)I"⟩, 57) := ⟨⟨by decide +kernel, by decide +kernel⟩, List.mem_of_getElem? (i := 946) (by decide +kernel), List.mem_of_getElem? (i := 1210) (by decide +kernel), List.mem_of_getElem? (i := 1211) (by decide +kernel)⟩
theorem lw_p28 : lw_okq (⟨"CottonWeeksModel", "work", "(I)V"⟩, 57) := ⟨⟨by decide +kernel, by decide +kernel⟩, List.mem_of_getElem? (i := 946) (by decide +kernel), List.mem_of_getElem? (i := 1214) (by decide +kernel), List.mem_of_getElem? (i := 1215) (by decide +kernel)⟩
theorem lw_p29 : lw_okq (⟨"CottonWeeksModel", "earnCoin", "(II)V"⟩, 57) := ⟨⟨by decide +kernel, by decide +kernel⟩, List.mem_of_getElem? (i := 946) (by decide +kernel), List.mem_of_getElem? (i := 1218) (by decide +kernel), List.mem_of_getElem? (i := 1219) (by decide +kernel)⟩
theorem lw_p30 : lw_okq (⟨"CottonWeeksModel", "live", "(I)V"⟩, 57) := ⟨⟨by decide +kernel, by decide +kernel⟩, List.mem_of_getElem? (i := 946) (by decide +kernel), List.mem_of_getElem? (i := 1224) (by decide +kernel), List.mem_of_getElem? (i := 1225) (by decide +kernel)⟩
theorem lw_p31 : lw_okq (⟨"CottonWeeksModel", "findFirst", "(I)I"⟩, 57) := ⟨⟨by decide +kernel, by decide +kernel⟩, List.mem_of_getElem? (i := 946) (by decide +kernel), List.mem_of_getElem? (i := 1228) (by decide +kernel), List.mem_of_getElem? (i := 1229) (by decide +kernel)⟩
def lw_privs_2 : List (MethodName × Nat) := [(⟨"CottonWeeks$Debts", "roundChanges", "(I)Z"⟩, 5), (⟨"CottonWeeks$Debts", "paidTo", "(II)I"⟩, 5), (⟨"CottonWeeks$Bodies", "bodyFor", "(II)I"⟩, 8), (⟨"CottonWeeks$Bodies", "begin", "(III)I"⟩, 8), (⟨"CottonWeeks$Bodies", "leaveTrace", "(I)V"⟩, 8), (⟨"CottonWeeks$Bodies", "numberOf", "(I)I"⟩, 8), (⟨"CottonWeeks", "sheetsThere", "()I"⟩, 11), (⟨"CottonWeeksModel", "finding", "(I)I"⟩, 57), (⟨"CottonWeeksModel", "isMill", "(I)Z"⟩, 57), (⟨"CottonWeeksModel", "stepOnce", "()V"⟩, 57), (⟨"CottonWeeksModel", "priceOf", "(I)I"⟩, 57), (⟨"CottonWeeksModel", "balesOf", "(I)I"⟩, 57), (⟨"CottonWeeksModel", "work", "(I)V"⟩, 57), (⟨"CottonWeeksModel", "earnCoin", "(II)V"⟩, 57), (⟨"CottonWeeksModel", "live", "(I)V"⟩, 57), (⟨"CottonWeeksModel", "findFirst", "(I)I"⟩, 57)]
theorem lw_r2 : ∀ q ∈ lw_privs_2, lw_okq q := List.forall_mem_cons.mpr ⟨lw_p16, List.forall_mem_cons.mpr ⟨lw_p17, List.forall_mem_cons.mpr ⟨lw_p18, List.forall_mem_cons.mpr ⟨lw_p19, List.forall_mem_cons.mpr ⟨lw_p20, List.forall_mem_cons.mpr ⟨lw_p21, List.forall_mem_cons.mpr ⟨lw_p22, List.forall_mem_cons.mpr ⟨lw_p23, List.forall_mem_cons.mpr ⟨lw_p24, List.forall_mem_cons.mpr ⟨lw_p25, List.forall_mem_cons.mpr ⟨lw_p26, List.forall_mem_cons.mpr ⟨lw_p27, List.forall_mem_cons.mpr ⟨lw_p28, List.forall_mem_cons.mpr ⟨lw_p29, List.forall_mem_cons.mpr ⟨lw_p30, List.forall_mem_cons.mpr ⟨lw_p31, fun _ h => absurd h List.not_mem_nil⟩⟩⟩⟩⟩⟩⟩⟩⟩⟩⟩⟩⟩⟩⟩⟩
theorem lw_p32 : lw_okq (⟨"CottonWeeksModel", "earnOn", "(II)I"⟩, 57) := ⟨⟨by decide +kernel, by decide +kernel⟩, List.mem_of_getElem? (i := 946) (by decide +kernel), List.mem_of_getElem? (i := 1232) (by decide +kernel), List.mem_of_getElem? (i := 1233) (by decide +kernel)⟩
theorem lw_p33 : lw_okq (⟨"CottonWeeksModel", "numberFor", "(III)I"⟩, 57) := ⟨⟨by decide +kernel, by decide +kernel⟩, List.mem_of_getElem? (i := 946) (by decide +kernel), List.mem_of_getElem? (i := 1236) (by decide +kernel), List.mem_of_getElem? (i := 1237) (by decide +kernel)⟩
theorem lw_p34 : lw_okq (⟨"CottonWeeksModel", "sell", "(II)V"⟩, 57) := ⟨⟨by decide +kernel, by decide +kernel⟩, List.mem_of_getElem? (i := 946) (by decide +kernel), List.mem_of_getElem? (i := 1240) (by decide +kernel), List.mem_of_getElem? (i := 1241) (by decide +kernel)⟩
theorem lw_p35 : lw_okq (⟨"CottonWeeksModel", "next", "()V"⟩, 57) := ⟨⟨by decide +kernel, by decide +kernel⟩, List.mem_of_getElem? (i := 946) (by decide +kernel), List.mem_of_getElem? (i := 1263) (by decide +kernel), List.mem_of_getElem? (i := 1264) (by decide +kernel)⟩
theorem lw_p36 : lw_okq (⟨"CottonWeeksModel", "byteAt", "(I)I"⟩, 57) := ⟨⟨by decide +kernel, by decide +kernel⟩, List.mem_of_getElem? (i := 946) (by decide +kernel), List.mem_of_getElem? (i := 1267) (by decide +kernel), List.mem_of_getElem? (i := 1268) (by decide +kernel)⟩
theorem lw_p37 : lw_okq (⟨"CottonWeeksModel", "word", "()J"⟩, 57) := ⟨⟨by decide +kernel, by decide +kernel⟩, List.mem_of_getElem? (i := 946) (by decide +kernel), List.mem_of_getElem? (i := 1277) (by decide +kernel), List.mem_of_getElem? (i := 1278) (by decide +kernel)⟩
theorem lw_p38 : lw_okq (⟨"CottonWeeksModel", "must", "(Z)V"⟩, 57) := ⟨⟨by decide +kernel, by decide +kernel⟩, List.mem_of_getElem? (i := 946) (by decide +kernel), List.mem_of_getElem? (i := 1282) (by decide +kernel), List.mem_of_getElem? (i := 1283) (by decide +kernel)⟩
theorem lw_p39 : lw_okq (⟨"CottonWeeksModel", "bad", "(I)V"⟩, 57) := ⟨⟨by decide +kernel, by decide +kernel⟩, List.mem_of_getElem? (i := 946) (by decide +kernel), List.mem_of_getElem? (i := 1286) (by decide +kernel), List.mem_of_getElem? (i := 1287) (by decide +kernel)⟩
theorem lw_p40 : lw_okq (⟨"CottonWeeksModel", "numberTo", "(I)I"⟩, 57) := ⟨⟨by decide +kernel, by decide +kernel⟩, List.mem_of_getElem? (i := 946) (by decide +kernel), List.mem_of_getElem? (i := 1290) (by decide +kernel), List.mem_of_getElem? (i := 1291) (by decide +kernel)⟩
theorem lw_p41 : lw_okq (⟨"CottonWeeksModel", "readRule", "(I)V"⟩, 57) := ⟨⟨by decide +kernel, by decide +kernel⟩, List.mem_of_getElem? (i := 946) (by decide +kernel), List.mem_of_getElem? (i := 1294) (by decide +kernel), List.mem_of_getElem? (i := 1295) (by decide +kernel)⟩
theorem lw_p42 : lw_okq (⟨"CottonWeeksModel", "ruleOfWord", "()I"⟩, 57) := ⟨⟨by decide +kernel, by decide +kernel⟩, List.mem_of_getElem? (i := 946) (by decide +kernel), List.mem_of_getElem? (i := 1298) (by decide +kernel), List.mem_of_getElem? (i := 1299) (by decide +kernel)⟩
theorem lw_p43 : lw_okq (⟨"CottonWeeksModel", "lookItems", "(III)I"⟩, 57) := ⟨⟨by decide +kernel, by decide +kernel⟩, List.mem_of_getElem? (i := 946) (by decide +kernel), List.mem_of_getElem? (i := 1326) (by decide +kernel), List.mem_of_getElem? (i := 1327) (by decide +kernel)⟩
theorem lw_p44 : lw_okq (⟨"CottonWeeksModel", "isThing", "(I)Z"⟩, 57) := ⟨⟨by decide +kernel, by decide +kernel⟩, List.mem_of_getElem? (i := 946) (by decide +kernel), List.mem_of_getElem? (i := 1344) (by decide +kernel), List.mem_of_getElem? (i := 1345) (by decide +kernel)⟩
theorem lw_p45 : lw_okq (⟨"CottonWeeksModel", "sizeBy", "(I)I"⟩, 57) := ⟨⟨by decide +kernel, by decide +kernel⟩, List.mem_of_getElem? (i := 946) (by decide +kernel), List.mem_of_getElem? (i := 1376) (by decide +kernel), List.mem_of_getElem? (i := 1377) (by decide +kernel)⟩
theorem lw_p46 : lw_okq (⟨"CottonWeeksModel", "loanSize", "(I)I"⟩, 57) := ⟨⟨by decide +kernel, by decide +kernel⟩, List.mem_of_getElem? (i := 946) (by decide +kernel), List.mem_of_getElem? (i := 1380) (by decide +kernel), List.mem_of_getElem? (i := 1381) (by decide +kernel)⟩
theorem lw_p47 : lw_okq (⟨"CottonWeeksModel", "began", "(I)V"⟩, 57) := ⟨⟨by decide +kernel, by decide +kernel⟩, List.mem_of_getElem? (i := 946) (by decide +kernel), List.mem_of_getElem? (i := 1384) (by decide +kernel), List.mem_of_getElem? (i := 1385) (by decide +kernel)⟩
def lw_privs_3 : List (MethodName × Nat) := [(⟨"CottonWeeksModel", "earnOn", "(II)I"⟩, 57), (⟨"CottonWeeksModel", "numberFor", "(III)I"⟩, 57), (⟨"CottonWeeksModel", "sell", "(II)V"⟩, 57), (⟨"CottonWeeksModel", "next", "()V"⟩, 57), (⟨"CottonWeeksModel", "byteAt", "(I)I"⟩, 57), (⟨"CottonWeeksModel", "word", "()J"⟩, 57), (⟨"CottonWeeksModel", "must", "(Z)V"⟩, 57), (⟨"CottonWeeksModel", "bad", "(I)V"⟩, 57), (⟨"CottonWeeksModel", "numberTo", "(I)I"⟩, 57), (⟨"CottonWeeksModel", "readRule", "(I)V"⟩, 57), (⟨"CottonWeeksModel", "ruleOfWord", "()I"⟩, 57), (⟨"CottonWeeksModel", "lookItems", "(III)I"⟩, 57), (⟨"CottonWeeksModel", "isThing", "(I)Z"⟩, 57), (⟨"CottonWeeksModel", "sizeBy", "(I)I"⟩, 57), (⟨"CottonWeeksModel", "loanSize", "(I)I"⟩, 57), (⟨"CottonWeeksModel", "began", "(I)V"⟩, 57)]
theorem lw_r3 : ∀ q ∈ lw_privs_3, lw_okq q := List.forall_mem_cons.mpr ⟨lw_p32, List.forall_mem_cons.mpr ⟨lw_p33, List.forall_mem_cons.mpr ⟨lw_p34, List.forall_mem_cons.mpr ⟨lw_p35, List.forall_mem_cons.mpr ⟨lw_p36, List.forall_mem_cons.mpr ⟨lw_p37, List.forall_mem_cons.mpr ⟨lw_p38, List.forall_mem_cons.mpr ⟨lw_p39, List.forall_mem_cons.mpr ⟨lw_p40, List.forall_mem_cons.mpr ⟨lw_p41, List.forall_mem_cons.mpr ⟨lw_p42, List.forall_mem_cons.mpr ⟨lw_p43, List.forall_mem_cons.mpr ⟨lw_p44, List.forall_mem_cons.mpr ⟨lw_p45, List.forall_mem_cons.mpr ⟨lw_p46, List.forall_mem_cons.mpr ⟨lw_p47, fun _ h => absurd h List.not_mem_nil⟩⟩⟩⟩⟩⟩⟩⟩⟩⟩⟩⟩⟩⟩⟩⟩
theorem lw_p48 : lw_okq (⟨"CottonWeeksModel", "markOf", "(I)I"⟩, 57) := ⟨⟨by decide +kernel, by decide +kernel⟩, List.mem_of_getElem? (i := 946) (by decide +kernel), List.mem_of_getElem? (i := 1388) (by decide +kernel), List.mem_of_getElem? (i := 1389) (by decide +kernel)⟩
def lw_privs_4 : List (MethodName × Nat) := [(⟨"CottonWeeksModel", "markOf", "(I)I"⟩, 57)]
theorem lw_r4 : ∀ q ∈ lw_privs_4, lw_okq q := List.forall_mem_cons.mpr ⟨lw_p48, fun _ h => absurd h List.not_mem_nil⟩
def lw_privs : List (MethodName × Nat) := lw_privs_1 ++ (lw_privs_2 ++ (lw_privs_3 ++ (lw_privs_4)))
def lw_tbl : List Cond := k2_sels lw_privs ++ tables_1
theorem lw_privs_ok : ∀ q ∈ lw_privs, lw_okq q := by
  show ∀ q ∈ lw_privs_1 ++ (lw_privs_2 ++ (lw_privs_3 ++ (lw_privs_4))), lw_okq q
  exact List.forall_mem_append.mpr ⟨lw_r1, List.forall_mem_append.mpr ⟨lw_r2, List.forall_mem_append.mpr ⟨lw_r3, lw_r4⟩⟩⟩
-- ===== end of PART A; then your names; then what follows =====
end
section
def RX0 : String := "CottonWeeks$Bodies"
def TX0 : u_T := fun k => match k with
  | 0 => ("CottonWeeks$Bodies", "sorts", "[I", true)
  | 1 => ("CottonWeeks$Bodies", "numbers", "[I", true)
  | 2 => ("CottonWeeks$Bodies", "madeOf", "[I", true)
  | 3 => ("CottonWeeks$Bodies", "trace", "[I", true)
  | 4 => ("CottonWeeks$Bodies", "thingCount", "I", false)
  | 5 => ("CottonWeeks$Bodies", "traceCount", "I", false)
  | 6 => ("CottonWeeks$Bodies", "weekNow", "I", false)
  | _ => ("CottonWeeks$Bodies", "reliefNow", "I", false)
def tyX0 : Nat → FieldType := fun k => match k with
  | 0 => .array .int
  | 1 => .array .int
  | 2 => .array .int
  | 3 => .array .int
  | 4 => .int
  | 5 => .int
  | 6 => .int
  | _ => .int
abbrev wsX00 : List Cond := u_ws RX0 TX0 8
theorem nmX0 : ∀ a, a < 8 → ∀ b, b < 8 → a ≠ b → (TX0 a).2.1 ≠ (TX0 b).2.1 := by decide +kernel
theorem tyX0_ok : ∀ k, k < 8 → parseFieldDescriptor (TX0 k).2.2.1 = some (tyX0 k) := by decide +kernel
abbrev cX0_init : ByteArray := prog_2_method_1_code
def yX0_init : MethodName := ⟨RX0, "<init>", "()V"⟩
abbrev cX0_hasThing : ByteArray := prog_2_method_2_code
def yX0_hasThing : MethodName := ⟨RX0, "hasThing", "(I)Z"⟩
abbrev cX0_canBeMadeOf : ByteArray := prog_2_method_3_code
def yX0_canBeMadeOf : MethodName := ⟨RX0, "canBeMadeOf", "(II)Z"⟩
abbrev cX0_addThing : ByteArray := prog_2_method_4_code
def yX0_addThing : MethodName := ⟨RX0, "addThing", "(III)I"⟩
abbrev cX0_isA : ByteArray := prog_2_method_5_code
def yX0_isA : MethodName := ⟨RX0, "isA", "(II)Z"⟩
abbrev cX0_yarns : ByteArray := prog_2_method_6_code
def yX0_yarns : MethodName := ⟨RX0, "yarns", "()I"⟩
abbrev cX0_answer : ByteArray := prog_2_method_7_code
def yX0_answer : MethodName := ⟨RX0, "answer", "(IIII)I"⟩
abbrev cX0_bodyFor : ByteArray := prog_2_method_8_code
def yX0_bodyFor : MethodName := ⟨RX0, "bodyFor", "(II)I"⟩
abbrev cX0_begin : ByteArray := prog_2_method_9_code
def yX0_begin : MethodName := ⟨RX0, "begin", "(III)I"⟩
abbrev cX0_leaveTrace : ByteArray := prog_2_method_10_code
def yX0_leaveTrace : MethodName := ⟨RX0, "leaveTrace", "(I)V"⟩
abbrev cX0_numberOf : ByteArray := prog_2_method_11_code
def yX0_numberOf : MethodName := ⟨RX0, "numberOf", "(I)I"⟩
def RX1 : String := "CottonWeeks$County"
def TX1 : u_T := fun k => match k with
  | 0 => ("CottonWeeks$County", "base", "[I", true)
  | 1 => ("CottonWeeks$County", "breaks", "[I", true)
  | 2 => ("CottonWeeks$County", "port", "[I", true)
  | 3 => ("CottonWeeks$County", "prices", "[I", true)
  | 4 => ("CottonWeeks$County", "cloth", "I", false)
  | 5 => ("CottonWeeks$County", "fear", "I", false)
  | 6 => ("CottonWeeks$County", "shipWeek", "[I", true)
  | 7 => ("CottonWeeks$County", "shipSort", "[I", true)
  | 8 => ("CottonWeeks$County", "shipBales", "[I", true)
  | 9 => ("CottonWeeks$County", "shipThrough", "[I", true)
  | 10 => ("CottonWeeks$County", "shipCount", "I", false)
  | 11 => ("CottonWeeks$County", "mills", "[LCottonWeeks$Mill;", true)
  | 12 => ("CottonWeeks$County", "millCount", "I", false)
  | _ => ("CottonWeeks$County", "week", "I", false)
def tyX1 : Nat → FieldType := fun k => match k with
  | 0 => .array .int
  | 1 => .array .int
  | 2 => .array .int
  | 3 => .array .int
  | 4 => .int
  | 5 => .int
  | 6 => .array .int
  | 7 => .array .int
  | 8 => .array .int
  | 9 => .array .int
  | 10 => .int
  | 11 => .array (.object "CottonWeeks$Mill")
  | 12 => .int
  | _ => .int
abbrev wsX10 : List Cond := u_ws RX1 TX1 14
theorem nmX1 : ∀ a, a < 14 → ∀ b, b < 14 → a ≠ b → (TX1 a).2.1 ≠ (TX1 b).2.1 := by decide +kernel
theorem tyX1_ok : ∀ k, k < 14 → parseFieldDescriptor (TX1 k).2.2.1 = some (tyX1 k) := by decide +kernel
abbrev cX1_init : ByteArray := prog_3_method_1_code
def yX1_init : MethodName := ⟨RX1, "<init>", "()V"⟩
abbrev cX1_changeCloth : ByteArray := prog_3_method_2_code
def yX1_changeCloth : MethodName := ⟨RX1, "changeCloth", "(I)I"⟩
abbrev cX1_changeFear : ByteArray := prog_3_method_3_code
def yX1_changeFear : MethodName := ⟨RX1, "changeFear", "(I)I"⟩
abbrev cX1_addShip : ByteArray := prog_3_method_4_code
def yX1_addShip : MethodName := ⟨RX1, "addShip", "(IIII)I"⟩
abbrev cX1_addMill : ByteArray := prog_3_method_5_code
def yX1_addMill : MethodName := ⟨RX1, "addMill", "(IIII)I"⟩
abbrev cX1_hasMill : ByteArray := prog_3_method_6_code
def yX1_hasMill : MethodName := ⟨RX1, "hasMill", "(I)Z"⟩
abbrev cX1_sortRun : ByteArray := prog_3_method_7_code
def yX1_sortRun : MethodName := ⟨RX1, "sortRun", "(II)I"⟩
abbrev cX1_balesOf : ByteArray := prog_3_method_8_code
def yX1_balesOf : MethodName := ⟨RX1, "balesOf", "(I)I"⟩
abbrev cX1_allBales : ByteArray := prog_3_method_9_code
def yX1_allBales : MethodName := ⟨RX1, "allBales", "()I"⟩
abbrev cX1_priceNow : ByteArray := prog_3_method_10_code
def yX1_priceNow : MethodName := ⟨RX1, "priceNow", "(I)I"⟩
abbrev cX1_landShips : ByteArray := prog_3_method_11_code
def yX1_landShips : MethodName := ⟨RX1, "landShips", "()V"⟩
abbrev cX1_fixPrices : ByteArray := prog_3_method_12_code
def yX1_fixPrices : MethodName := ⟨RX1, "fixPrices", "()V"⟩
abbrev cX1_workMills : ByteArray := prog_3_method_13_code
def yX1_workMills : MethodName := ⟨RX1, "workMills", "()V"⟩
abbrev cX1_cheapestFor : ByteArray := prog_3_method_14_code
def yX1_cheapestFor : MethodName := ⟨RX1, "cheapestFor", "(LCottonWeeks$Mill;)I"⟩
abbrev cX1_runMill : ByteArray := prog_3_method_15_code
def yX1_runMill : MethodName := ⟨RX1, "runMill", "(LCottonWeeks$Mill;I)V"⟩
abbrev cX1_sellOut : ByteArray := prog_3_method_16_code
def yX1_sellOut : MethodName := ⟨RX1, "sellOut", "(LCottonWeeks$Mill;)V"⟩
def RX2 : String := "CottonWeeks$Debts"
def TX2 : u_T := fun k => match k with
  | 0 => ("CottonWeeks$Debts", "income", "[I", true)
  | 1 => ("CottonWeeks$Debts", "owes", "[[I", true)
  | 2 => ("CottonWeeks$Debts", "owesAll", "[I", true)
  | 3 => ("CottonWeeks$Debts", "pays", "[I", true)
  | _ => ("CottonWeeks$Debts", "paysNext", "[I", true)
def tyX2 : Nat → FieldType := fun k => match k with
  | 0 => .array .int
  | 1 => .array (.array .int)
  | 2 => .array .int
  | 3 => .array .int
  | _ => .array .int
abbrev wsX20 : List Cond := u_ws RX2 TX2 5
theorem nmX2 : ∀ a, a < 5 → ∀ b, b < 5 → a ≠ b → (TX2 a).2.1 ≠ (TX2 b).2.1 := by decide +kernel
theorem tyX2_ok : ∀ k, k < 5 → parseFieldDescriptor (TX2 k).2.2.1 = some (tyX2 k) := by decide +kernel
abbrev cX2_init : ByteArray := prog_4_method_1_code
def yX2_init : MethodName := ⟨RX2, "<init>", "()V"⟩
abbrev cX2_take : ByteArray := prog_4_method_2_code
def yX2_take : MethodName := ⟨RX2, "take", "([III)Z"⟩
abbrev cX2_takeRow : ByteArray := prog_4_method_3_code
def yX2_takeRow : MethodName := ⟨RX2, "takeRow", "([IIII)Z"⟩
abbrev cX2_settle : ByteArray := prog_4_method_4_code
def yX2_settle : MethodName := ⟨RX2, "settle", "(I)I"⟩
abbrev cX2_roundChanges : ByteArray := prog_4_method_5_code
def yX2_roundChanges : MethodName := ⟨RX2, "roundChanges", "(I)Z"⟩
abbrev cX2_paidTo : ByteArray := prog_4_method_6_code
def yX2_paidTo : MethodName := ⟨RX2, "paidTo", "(II)I"⟩
def RX3 : String := "CottonWeeks$Home"
def TX3 : u_T := fun k => match k with
  | 0 => ("CottonWeeks$Home", "mill", "I", true)
  | 1 => ("CottonWeeks$Home", "heads", "I", true)
  | 2 => ("CottonWeeks$Home", "hands", "I", true)
  | 3 => ("CottonWeeks$Home", "rent", "I", true)
  | 4 => ("CottonWeeks$Home", "goods", "[I", true)
  | 5 => ("CottonWeeks$Home", "savings", "I", false)
  | 6 => ("CottonWeeks$Home", "hungered", "I", false)
  | _ => ("CottonWeeks$Home", "relieved", "I", false)
def tyX3 : Nat → FieldType := fun k => match k with
  | 0 => .int
  | 1 => .int
  | 2 => .int
  | 3 => .int
  | 4 => .array .int
  | 5 => .int
  | 6 => .int
  | _ => .int
abbrev wsX30 : List Cond := u_ws RX3 TX3 8
theorem nmX3 : ∀ a, a < 8 → ∀ b, b < 8 → a ≠ b → (TX3 a).2.1 ≠ (TX3 b).2.1 := by decide +kernel
theorem tyX3_ok : ∀ k, k < 8 → parseFieldDescriptor (TX3 k).2.2.1 = some (tyX3 k) := by decide +kernel
abbrev cX3_init : ByteArray := prog_5_method_1_code
def yX3_init : MethodName := ⟨RX3, "<init>", "([II)V"⟩
abbrev cX3_spend : ByteArray := prog_5_method_2_code
def yX3_spend : MethodName := ⟨RX3, "spend", "(I)V"⟩
abbrev cX3_beRelieved : ByteArray := prog_5_method_3_code
def yX3_beRelieved : MethodName := ⟨RX3, "beRelieved", "(II[II)V"⟩
abbrev cX3_sellGoods : ByteArray := prog_5_method_4_code
def yX3_sellGoods : MethodName := ⟨RX3, "sellGoods", "([I)V"⟩
abbrev cX3_hungerIfShort : ByteArray := prog_5_method_5_code
def yX3_hungerIfShort : MethodName := ⟨RX3, "hungerIfShort", "()V"⟩
abbrev cX3_tells : ByteArray := prog_5_method_6_code
def yX3_tells : MethodName := ⟨RX3, "tells", "(I)I"⟩
def RX4 : String := "CottonWeeks$Mill"
def TX4 : u_T := fun k => match k with
  | 0 => ("CottonWeeks$Mill", "need", "I", true)
  | 1 => ("CottonWeeks$Mill", "takes", "I", true)
  | 2 => ("CottonWeeks$Mill", "margin", "I", true)
  | 3 => ("CottonWeeks$Mill", "hold", "I", true)
  | 4 => ("CottonWeeks$Mill", "bales", "[I", true)
  | 5 => ("CottonWeeks$Mill", "ranOn", "[I", true)
  | 6 => ("CottonWeeks$Mill", "coin", "I", false)
  | _ => ("CottonWeeks$Mill", "weeksRun", "I", false)
def tyX4 : Nat → FieldType := fun k => match k with
  | 0 => .int
  | 1 => .int
  | 2 => .int
  | 3 => .int
  | 4 => .array .int
  | 5 => .array .int
  | 6 => .int
  | _ => .int
abbrev wsX40 : List Cond := u_ws RX4 TX4 8
theorem nmX4 : ∀ a, a < 8 → ∀ b, b < 8 → a ≠ b → (TX4 a).2.1 ≠ (TX4 b).2.1 := by decide +kernel
theorem tyX4_ok : ∀ k, k < 8 → parseFieldDescriptor (TX4 k).2.2.1 = some (tyX4 k) := by decide +kernel
abbrev cX4_init : ByteArray := prog_6_method_1_code
def yX4_init : MethodName := ⟨RX4, "<init>", "(IIII)V"⟩
abbrev cX4_canUse : ByteArray := prog_6_method_2_code
def yX4_canUse : MethodName := ⟨RX4, "canUse", "(I)Z"⟩
abbrev cX4_gain : ByteArray := prog_6_method_3_code
def yX4_gain : MethodName := ⟨RX4, "gain", "(J)V"⟩
abbrev cX4_tells : ByteArray := prog_6_method_4_code
def yX4_tells : MethodName := ⟨RX4, "tells", "(I)I"⟩
def RX5 : String := "CottonWeeks$Papers"
def TX5 : u_T := fun k => match k with
  | 0 => ("CottonWeeks$Papers", "whats", "[I", true)
  | 1 => ("CottonWeeks$Papers", "towns", "[I", true)
  | 2 => ("CottonWeeks$Papers", "knownFrom", "[I", true)
  | _ => ("CottonWeeks$Papers", "printed", "I", false)
def tyX5 : Nat → FieldType := fun k => match k with
  | 0 => .array .int
  | 1 => .array .int
  | 2 => .array .int
  | _ => .int
abbrev wsX50 : List Cond := u_ws RX5 TX5 4
theorem nmX5 : ∀ a, a < 4 → ∀ b, b < 4 → a ≠ b → (TX5 a).2.1 ≠ (TX5 b).2.1 := by decide +kernel
theorem tyX5_ok : ∀ k, k < 4 → parseFieldDescriptor (TX5 k).2.2.1 = some (tyX5 k) := by decide +kernel
abbrev cX5_init : ByteArray := prog_7_method_1_code
def yX5_init : MethodName := ⟨RX5, "<init>", "()V"⟩
abbrev cX5_print : ByteArray := prog_7_method_2_code
def yX5_print : MethodName := ⟨RX5, "print", "(III)I"⟩
abbrev cX5_readBy : ByteArray := prog_7_method_3_code
def yX5_readBy : MethodName := ⟨RX5, "readBy", "(II)I"⟩
def RX6 : String := "CottonWeeks$Rules"
def TX6 : u_T := fun k => match k with
  | 0 => ("CottonWeeks$Rules", "weeks", "[I", true)
  | 1 => ("CottonWeeks$Rules", "whats", "[I", true)
  | 2 => ("CottonWeeks$Rules", "values", "[I", true)
  | 3 => ("CottonWeeks$Rules", "order", "[I", true)
  | 4 => ("CottonWeeks$Rules", "ranks", "[I", true)
  | 5 => ("CottonWeeks$Rules", "count", "I", false)
  | _ => ("CottonWeeks$Rules", "staged", "I", false)
def tyX6 : Nat → FieldType := fun k => match k with
  | 0 => .array .int
  | 1 => .array .int
  | 2 => .array .int
  | 3 => .array .int
  | 4 => .array .int
  | 5 => .int
  | _ => .int
abbrev wsX60 : List Cond := u_ws RX6 TX6 7
theorem nmX6 : ∀ a, a < 7 → ∀ b, b < 7 → a ≠ b → (TX6 a).2.1 ≠ (TX6 b).2.1 := by decide +kernel
theorem tyX6_ok : ∀ k, k < 7 → parseFieldDescriptor (TX6 k).2.2.1 = some (tyX6 k) := by decide +kernel
abbrev cX6_init : ByteArray := prog_8_method_1_code
def yX6_init : MethodName := ⟨RX6, "<init>", "()V"⟩
abbrev cX6_stageNone : ByteArray := prog_8_method_2_code
def yX6_stageNone : MethodName := ⟨RX6, "stageNone", "()V"⟩
abbrev cX6_hasRoom : ByteArray := prog_8_method_3_code
def yX6_hasRoom : MethodName := ⟨RX6, "hasRoom", "()Z"⟩
abbrev cX6_stage : ByteArray := prog_8_method_4_code
def yX6_stage : MethodName := ⟨RX6, "stage", "(III)V"⟩
abbrev cX6_keepStaged : ByteArray := prog_8_method_5_code
def yX6_keepStaged : MethodName := ⟨RX6, "keepStaged", "()V"⟩
abbrev cX6_inForce : ByteArray := prog_8_method_6_code
def yX6_inForce : MethodName := ⟨RX6, "inForce", "(II)I"⟩
abbrev cX6_orderGoods : ByteArray := prog_8_method_7_code
def yX6_orderGoods : MethodName := ⟨RX6, "orderGoods", "(I)I"⟩
abbrev cX6_rankGoods : ByteArray := prog_8_method_8_code
def yX6_rankGoods : MethodName := ⟨RX6, "rankGoods", "(I)V"⟩
abbrev cX6_firstSet : ByteArray := prog_8_method_9_code
def yX6_firstSet : MethodName := ⟨RX6, "firstSet", "(I)I"⟩
def RX7 : String := "CottonWeeks$Sheet"
def TX7 : u_T := fun k => match k with
  | 0 => ("CottonWeeks$Sheet", "items", "[I", true)
  | 1 => ("CottonWeeks$Sheet", "missing", "Z", false)
  | 2 => ("CottonWeeks$Sheet", "lane", "I", false)
  | _ => ("CottonWeeks$Sheet", "size", "I", false)
def tyX7 : Nat → FieldType := fun k => match k with
  | 0 => .array .int
  | 1 => .boolean
  | 2 => .int
  | _ => .int
abbrev wsX70 : List Cond := u_ws RX7 TX7 4
theorem nmX7 : ∀ a, a < 4 → ∀ b, b < 4 → a ≠ b → (TX7 a).2.1 ≠ (TX7 b).2.1 := by decide +kernel
theorem tyX7_ok : ∀ k, k < 4 → parseFieldDescriptor (TX7 k).2.2.1 = some (tyX7 k) := by decide +kernel
abbrev cX7_init : ByteArray := prog_9_method_1_code
def yX7_init : MethodName := ⟨RX7, "<init>", "()V"⟩
abbrev cX7_begin : ByteArray := prog_9_method_2_code
def yX7_begin : MethodName := ⟨RX7, "begin", "(II)V"⟩
abbrev cX7_reaches : ByteArray := prog_9_method_3_code
def yX7_reaches : MethodName := ⟨RX7, "reaches", "(II)Z"⟩
abbrev cX7_findingAt : ByteArray := prog_9_method_4_code
def yX7_findingAt : MethodName := ⟨RX7, "findingAt", "(II)I"⟩
abbrev cX7_put : ByteArray := prog_9_method_5_code
def yX7_put : MethodName := ⟨RX7, "put", "(II)I"⟩
def RX8 : String := "CottonWeeks$Tape"
def TX8 : u_T := fun k => match k with
  | 0 => ("CottonWeeks$Tape", "bytes", "[I", true)
  | 1 => ("CottonWeeks$Tape", "length", "I", false)
  | 2 => ("CottonWeeks$Tape", "latestFault", "I", false)
  | 3 => ("CottonWeeks$Tape", "faultPlace", "I", false)
  | 4 => ("CottonWeeks$Tape", "tokenKind", "I", false)
  | 5 => ("CottonWeeks$Tape", "tokenAt", "I", false)
  | 6 => ("CottonWeeks$Tape", "tokenEnd", "I", false)
  | _ => ("CottonWeeks$Tape", "number", "I", false)
def tyX8 : Nat → FieldType := fun k => match k with
  | 0 => .array .int
  | 1 => .int
  | 2 => .int
  | 3 => .int
  | 4 => .int
  | 5 => .int
  | 6 => .int
  | _ => .int
abbrev wsX80 : List Cond := u_ws RX8 TX8 8
theorem nmX8 : ∀ a, a < 8 → ∀ b, b < 8 → a ≠ b → (TX8 a).2.1 ≠ (TX8 b).2.1 := by decide +kernel
theorem tyX8_ok : ∀ k, k < 8 → parseFieldDescriptor (TX8 k).2.2.1 = some (tyX8 k) := by decide +kernel
abbrev cX8_init : ByteArray := prog_10_method_1_code
def yX8_init : MethodName := ⟨RX8, "<init>", "()V"⟩
abbrev cX8_append : ByteArray := prog_10_method_2_code
def yX8_append : MethodName := ⟨RX8, "append", "(JI)I"⟩
abbrev cX8_readInto : ByteArray := prog_10_method_3_code
def yX8_readInto : MethodName := ⟨RX8, "readInto", "(LCottonWeeks$Rules;)Z"⟩
abbrev cX8_readList : ByteArray := prog_10_method_4_code
def yX8_readList : MethodName := ⟨RX8, "readList", "(LCottonWeeks$Rules;)Z"⟩
abbrev cX8_readRule : ByteArray := prog_10_method_5_code
def yX8_readRule : MethodName := ⟨RX8, "readRule", "(LCottonWeeks$Rules;I)Z"⟩
abbrev cX8_ruleOfWord : ByteArray := prog_10_method_6_code
def yX8_ruleOfWord : MethodName := ⟨RX8, "ruleOfWord", "()I"⟩
abbrev cX8_isWord : ByteArray := prog_10_method_7_code
def yX8_isWord : MethodName := ⟨RX8, "isWord", "(Ljava/lang/String;)Z"⟩
abbrev cX8_isNumberTo : ByteArray := prog_10_method_8_code
def yX8_isNumberTo : MethodName := ⟨RX8, "isNumberTo", "(I)Z"⟩
abbrev cX8_faulty : ByteArray := prog_10_method_9_code
def yX8_faulty : MethodName := ⟨RX8, "faulty", "(I)Z"⟩
abbrev cX8_takeToken : ByteArray := prog_10_method_10_code
def yX8_takeToken : MethodName := ⟨RX8, "takeToken", "()V"⟩
abbrev cX8_takeName : ByteArray := prog_10_method_11_code
def yX8_takeName : MethodName := ⟨RX8, "takeName", "()V"⟩
abbrev cX8_takeNumber : ByteArray := prog_10_method_12_code
def yX8_takeNumber : MethodName := ⟨RX8, "takeNumber", "()V"⟩
abbrev cX8_isGap : ByteArray := prog_10_method_13_code
def yX8_isGap : MethodName := ⟨RX8, "isGap", "(I)Z"⟩
abbrev cX8_isLetter : ByteArray := prog_10_method_14_code
def yX8_isLetter : MethodName := ⟨RX8, "isLetter", "(I)Z"⟩
abbrev cX8_isFigure : ByteArray := prog_10_method_15_code
def yX8_isFigure : MethodName := ⟨RX8, "isFigure", "(I)Z"⟩
def RX9 : String := "CottonWeeks$Works"
def TX9 : u_T := fun k => match k with
  | 0 => ("CottonWeeks$Works", "cost", "[I", true)
  | 1 => ("CottonWeeks$Works", "fewer", "[I", true)
  | 2 => ("CottonWeeks$Works", "bestSet", "I", false)
  | 3 => ("CottonWeeks$Works", "bestCost", "I", false)
  | _ => ("CottonWeeks$Works", "bestFewer", "I", false)
def tyX9 : Nat → FieldType := fun k => match k with
  | 0 => .array .int
  | 1 => .array .int
  | 2 => .int
  | 3 => .int
  | _ => .int
abbrev wsX90 : List Cond := u_ws RX9 TX9 5
theorem nmX9 : ∀ a, a < 5 → ∀ b, b < 5 → a ≠ b → (TX9 a).2.1 ≠ (TX9 b).2.1 := by decide +kernel
theorem tyX9_ok : ∀ k, k < 5 → parseFieldDescriptor (TX9 k).2.2.1 = some (tyX9 k) := by decide +kernel
abbrev cX9_init : ByteArray := prog_11_method_1_code
def yX9_init : MethodName := ⟨RX9, "<init>", "()V"⟩
abbrev cX9_take : ByteArray := prog_11_method_2_code
def yX9_take : MethodName := ⟨RX9, "take", "([III)Z"⟩
abbrev cX9_choose : ByteArray := prog_11_method_3_code
def yX9_choose : MethodName := ⟨RX9, "choose", "(II)V"⟩
abbrev cX9_sumOf : ByteArray := prog_11_method_4_code
def yX9_sumOf : MethodName := ⟨RX9, "sumOf", "([III)I"⟩
abbrev cX9_tells : ByteArray := prog_11_method_5_code
def yX9_tells : MethodName := ⟨RX9, "tells", "(I)I"⟩
def RX10 : String := "CottonWeeks"
def TX10 : u_T := fun k => match k with
  | 0 => ("CottonWeeks", "sheets", "[LCottonWeeks$Sheet;", true)
  | 1 => ("CottonWeeks", "county", "LCottonWeeks$County;", true)
  | 2 => ("CottonWeeks", "rules", "LCottonWeeks$Rules;", true)
  | 3 => ("CottonWeeks", "tape", "LCottonWeeks$Tape;", true)
  | 4 => ("CottonWeeks", "homes", "[LCottonWeeks$Home;", true)
  | 5 => ("CottonWeeks", "debts", "LCottonWeeks$Debts;", true)
  | 6 => ("CottonWeeks", "best", "LCottonWeeks$Works;", true)
  | 7 => ("CottonWeeks", "bodies", "LCottonWeeks$Bodies;", true)
  | 8 => ("CottonWeeks", "papers", "LCottonWeeks$Papers;", true)
  | 9 => ("CottonWeeks", "homeCount", "I", false)
  | _ => ("CottonWeeks", "finding", "I", false)
def tyX10 : Nat → FieldType := fun k => match k with
  | 0 => .array (.object "CottonWeeks$Sheet")
  | 1 => .object "CottonWeeks$County"
  | 2 => .object "CottonWeeks$Rules"
  | 3 => .object "CottonWeeks$Tape"
  | 4 => .array (.object "CottonWeeks$Home")
  | 5 => .object "CottonWeeks$Debts"
  | 6 => .object "CottonWeeks$Works"
  | 7 => .object "CottonWeeks$Bodies"
  | 8 => .object "CottonWeeks$Papers"
  | 9 => .int
  | _ => .int
abbrev wsX100 : List Cond := u_ws RX10 TX10 11
theorem nmX10 : ∀ a, a < 11 → ∀ b, b < 11 → a ≠ b → (TX10 a).2.1 ≠ (TX10 b).2.1 := by decide +kernel
theorem tyX10_ok : ∀ k, k < 11 → parseFieldDescriptor (TX10 k).2.2.1 = some (tyX10 k) := by decide +kernel
abbrev cX10_init : ByteArray := prog_1_method_1_code
def yX10_init : MethodName := ⟨RX10, "<init>", "()V"⟩
abbrev cX10_sheet : ByteArray := prog_1_method_2_code
def yX10_sheet : MethodName := ⟨RX10, "sheet", "(III)I"⟩
abbrev cX10_set : ByteArray := prog_1_method_3_code
def yX10_set : MethodName := ⟨RX10, "set", "(III)I"⟩
abbrev cX10_copy : ByteArray := prog_1_method_4_code
def yX10_copy : MethodName := ⟨RX10, "copy", "(IIIII)I"⟩
abbrev cX10_drop : ByteArray := prog_1_method_5_code
def yX10_drop : MethodName := ⟨RX10, "drop", "(I)I"⟩
abbrev cX10_stuff : ByteArray := prog_1_method_6_code
def yX10_stuff : MethodName := ⟨RX10, "stuff", "(III)I"⟩
abbrev cX10_ship : ByteArray := prog_1_method_7_code
def yX10_ship : MethodName := ⟨RX10, "ship", "(IIII)I"⟩
abbrev cX10_mill : ByteArray := prog_1_method_8_code
def yX10_mill : MethodName := ⟨RX10, "mill", "(IIII)I"⟩
abbrev cX10_stock : ByteArray := prog_1_method_9_code
def yX10_stock : MethodName := ⟨RX10, "stock", "(III)I"⟩
abbrev cX10_told : ByteArray := prog_1_method_10_code
def yX10_told : MethodName := ⟨RX10, "told", "(II)I"⟩
abbrev cX10_step : ByteArray := prog_1_method_11_code
def yX10_step : MethodName := ⟨RX10, "step", "(I)I"⟩
abbrev cX10_ran : ByteArray := prog_1_method_12_code
def yX10_ran : MethodName := ⟨RX10, "ran", "(II)I"⟩
abbrev cX10_price : ByteArray := prog_1_method_13_code
def yX10_price : MethodName := ⟨RX10, "price", "(II)I"⟩
abbrev cX10_feed : ByteArray := prog_1_method_14_code
def yX10_feed : MethodName := ⟨RX10, "feed", "(JI)I"⟩
abbrev cX10_lists : ByteArray := prog_1_method_15_code
def yX10_lists : MethodName := ⟨RX10, "lists", "()I"⟩
abbrev cX10_fault : ByteArray := prog_1_method_16_code
def yX10_fault : MethodName := ⟨RX10, "fault", "()I"⟩
abbrev cX10_holds : ByteArray := prog_1_method_17_code
def yX10_holds : MethodName := ⟨RX10, "holds", "(II)I"⟩
abbrev cX10_first : ByteArray := prog_1_method_18_code
def yX10_first : MethodName := ⟨RX10, "first", "(II)I"⟩
abbrev cX10_home : ByteArray := prog_1_method_19_code
def yX10_home : MethodName := ⟨RX10, "home", "(II)I"⟩
abbrev cX10_house : ByteArray := prog_1_method_20_code
def yX10_house : MethodName := ⟨RX10, "house", "(II)I"⟩
abbrev cX10_paid : ByteArray := prog_1_method_21_code
def yX10_paid : MethodName := ⟨RX10, "paid", "(IIII)I"⟩
abbrev cX10_thing : ByteArray := prog_1_method_22_code
def yX10_thing : MethodName := ⟨RX10, "thing", "(III)I"⟩
abbrev cX10_works : ByteArray := prog_1_method_23_code
def yX10_works : MethodName := ⟨RX10, "works", "(IIIII)I"⟩
abbrev cX10_news : ByteArray := prog_1_method_24_code
def yX10_news : MethodName := ⟨RX10, "news", "(IIII)I"⟩
abbrev cX10_known : ByteArray := prog_1_method_25_code
def yX10_known : MethodName := ⟨RX10, "known", "(II)I"⟩
abbrev cX10_kind : ByteArray := prog_1_method_26_code
def yX10_kind : MethodName := ⟨RX10, "kind", "(I)I"⟩
abbrev cX10_as : ByteArray := prog_1_method_27_code
def yX10_as : MethodName := ⟨RX10, "as", "(II)I"⟩
abbrev cX10_ask : ByteArray := prog_1_method_28_code
def yX10_ask : MethodName := ⟨RX10, "ask", "(II)I"⟩
abbrev cX10_trace : ByteArray := prog_1_method_29_code
def yX10_trace : MethodName := ⟨RX10, "trace", "(I)I"⟩
abbrev cX10_count : ByteArray := prog_1_method_30_code
def yX10_count : MethodName := ⟨RX10, "count", "(I)I"⟩
abbrev cX10_status : ByteArray := prog_1_method_31_code
def yX10_status : MethodName := ⟨RX10, "status", "()I"⟩
abbrev cX10_within : ByteArray := prog_1_method_32_code
def yX10_within : MethodName := ⟨RX10, "within", "(III)Z"⟩
abbrev cX10_isSheet : ByteArray := prog_1_method_33_code
def yX10_isSheet : MethodName := ⟨RX10, "isSheet", "(I)Z"⟩
abbrev cX10_isSort : ByteArray := prog_1_method_34_code
def yX10_isSort : MethodName := ⟨RX10, "isSort", "(I)Z"⟩
abbrev cX10_isWeek : ByteArray := prog_1_method_35_code
def yX10_isWeek : MethodName := ⟨RX10, "isWeek", "(I)Z"⟩
abbrev cX10_found : ByteArray := prog_1_method_36_code
def yX10_found : MethodName := ⟨RX10, "found", "(I)I"⟩
abbrev cX10_unfound : ByteArray := prog_1_method_37_code
def yX10_unfound : MethodName := ⟨RX10, "unfound", "(I)I"⟩
abbrev cX10_ofSort : ByteArray := prog_1_method_38_code
def yX10_ofSort : MethodName := ⟨RX10, "ofSort", "([III)I"⟩
abbrev cX10_changed : ByteArray := prog_1_method_39_code
def yX10_changed : MethodName := ⟨RX10, "changed", "([III)I"⟩
abbrev cX10_sheetsThere : ByteArray := prog_1_method_40_code
def yX10_sheetsThere : MethodName := ⟨RX10, "sheetsThere", "()I"⟩
abbrev cX10_earned : ByteArray := prog_1_method_41_code
def yX10_earned : MethodName := ⟨RX10, "earned", "(II)I"⟩
abbrev cX10_passWeek : ByteArray := prog_1_method_42_code
def yX10_passWeek : MethodName := ⟨RX10, "passWeek", "()V"⟩
abbrev cX10_liveHomes : ByteArray := prog_1_method_43_code
def yX10_liveHomes : MethodName := ⟨RX10, "liveHomes", "()V"⟩
abbrev cX10_homeItemsFit : ByteArray := prog_1_method_44_code
def yX10_homeItemsFit : MethodName := ⟨RX10, "homeItemsFit", "([II)Z"⟩
def RX11 : String := "CottonWeeksModel"
def TX11 : u_T := fun k => match k with
  | 0 => ("CottonWeeksModel", "thrown", "I", false)
  | 1 => ("CottonWeeksModel", "status", "I", false)
  | 2 => ("CottonWeeksModel", "lane", "[I", true)
  | 3 => ("CottonWeeksModel", "many", "[I", true)
  | 4 => ("CottonWeeksModel", "item", "[I", true)
  | 5 => ("CottonWeeksModel", "base", "[I", true)
  | 6 => ("CottonWeeksModel", "breaks", "[I", true)
  | 7 => ("CottonWeeksModel", "port", "[I", true)
  | 8 => ("CottonWeeksModel", "cloth", "I", false)
  | 9 => ("CottonWeeksModel", "fear", "I", false)
  | 10 => ("CottonWeeksModel", "week", "I", false)
  | 11 => ("CottonWeeksModel", "ships", "I", false)
  | 12 => ("CottonWeeksModel", "shipWeek", "[I", true)
  | 13 => ("CottonWeeksModel", "shipSort", "[I", true)
  | 14 => ("CottonWeeksModel", "shipBales", "[I", true)
  | 15 => ("CottonWeeksModel", "mills", "I", false)
  | 16 => ("CottonWeeksModel", "need", "[I", true)
  | 17 => ("CottonWeeksModel", "takes", "[I", true)
  | 18 => ("CottonWeeksModel", "margin", "[I", true)
  | 19 => ("CottonWeeksModel", "hold", "[I", true)
  | 20 => ("CottonWeeksModel", "own", "[I", true)
  | 21 => ("CottonWeeksModel", "coin", "[I", true)
  | 22 => ("CottonWeeksModel", "ranOn", "[I", true)
  | 23 => ("CottonWeeksModel", "lastPrice", "[I", true)
  | 24 => ("CottonWeeksModel", "rules", "I", false)
  | 25 => ("CottonWeeksModel", "ruleWeek", "[I", true)
  | 26 => ("CottonWeeksModel", "ruleWhat", "[I", true)
  | 27 => ("CottonWeeksModel", "ruleOf", "[I", true)
  | 28 => ("CottonWeeksModel", "ruleNumber", "[I", true)
  | 29 => ("CottonWeeksModel", "newRules", "I", false)
  | 30 => ("CottonWeeksModel", "tape", "[I", true)
  | 31 => ("CottonWeeksModel", "taped", "I", false)
  | 32 => ("CottonWeeksModel", "latest", "I", false)
  | 33 => ("CottonWeeksModel", "size", "I", false)
  | 34 => ("CottonWeeksModel", "cursor", "I", false)
  | 35 => ("CottonWeeksModel", "token", "I", false)
  | 36 => ("CottonWeeksModel", "from", "I", false)
  | 37 => ("CottonWeeksModel", "till", "I", false)
  | 38 => ("CottonWeeksModel", "fault", "I", false)
  | 39 => ("CottonWeeksModel", "faultAt", "I", false)
  | 40 => ("CottonWeeksModel", "firsts", "I", false)
  | 41 => ("CottonWeeksModel", "goesFirst", "[I", true)
  | 42 => ("CottonWeeksModel", "homes", "I", false)
  | 43 => ("CottonWeeksModel", "row", "[I", true)
  | 44 => ("CottonWeeksModel", "pays", "[I", true)
  | 45 => ("CottonWeeksModel", "paysThen", "[I", true)
  | 46 => ("CottonWeeksModel", "owesAll", "[I", true)
  | 47 => ("CottonWeeksModel", "things", "I", false)
  | 48 => ("CottonWeeksModel", "thingSort", "[I", true)
  | 49 => ("CottonWeeksModel", "thingNumber", "[I", true)
  | 50 => ("CottonWeeksModel", "madeOf", "[I", true)
  | 51 => ("CottonWeeksModel", "news", "I", false)
  | 52 => ("CottonWeeksModel", "newsWhat", "[I", true)
  | 53 => ("CottonWeeksModel", "newsAt", "[I", true)
  | 54 => ("CottonWeeksModel", "newsTown", "[I", true)
  | 55 => ("CottonWeeksModel", "trace", "[I", true)
  | _ => ("CottonWeeksModel", "traced", "I", false)
def tyX11 : Nat → FieldType := fun k => match k with
  | 0 => .int
  | 1 => .int
  | 2 => .array .int
  | 3 => .array .int
  | 4 => .array .int
  | 5 => .array .int
  | 6 => .array .int
  | 7 => .array .int
  | 8 => .int
  | 9 => .int
  | 10 => .int
  | 11 => .int
  | 12 => .array .int
  | 13 => .array .int
  | 14 => .array .int
  | 15 => .int
  | 16 => .array .int
  | 17 => .array .int
  | 18 => .array .int
  | 19 => .array .int
  | 20 => .array .int
  | 21 => .array .int
  | 22 => .array .int
  | 23 => .array .int
  | 24 => .int
  | 25 => .array .int
  | 26 => .array .int
  | 27 => .array .int
  | 28 => .array .int
  | 29 => .int
  | 30 => .array .int
  | 31 => .int
  | 32 => .int
  | 33 => .int
  | 34 => .int
  | 35 => .int
  | 36 => .int
  | 37 => .int
  | 38 => .int
  | 39 => .int
  | 40 => .int
  | 41 => .array .int
  | 42 => .int
  | 43 => .array .int
  | 44 => .array .int
  | 45 => .array .int
  | 46 => .array .int
  | 47 => .int
  | 48 => .array .int
  | 49 => .array .int
  | 50 => .array .int
  | 51 => .int
  | 52 => .array .int
  | 53 => .array .int
  | 54 => .array .int
  | 55 => .array .int
  | _ => .int
abbrev wsX110 : List Cond := u_ws RX11 TX11 57
theorem nmX11 : ∀ a, a < 57 → ∀ b, b < 57 → a ≠ b → (TX11 a).2.1 ≠ (TX11 b).2.1 := by decide +kernel
theorem tyX11_ok : ∀ k, k < 57 → parseFieldDescriptor (TX11 k).2.2.1 = some (tyX11 k) := by decide +kernel
abbrev cX11_in : ByteArray := prog_13_method_2_code
def yX11_in : MethodName := ⟨RX11, "in", "(JJJ)Z"⟩
abbrev cX11_finding : ByteArray := prog_13_method_3_code
def yX11_finding : MethodName := ⟨RX11, "finding", "(I)I"⟩
abbrev cX11_init : ByteArray := prog_13_method_4_code
def yX11_init : MethodName := ⟨RX11, "<init>", "()V"⟩
abbrev cX11_isSheet : ByteArray := prog_13_method_5_code
def yX11_isSheet : MethodName := ⟨RX11, "isSheet", "(I)Z"⟩
abbrev cX11_sheet : ByteArray := prog_13_method_6_code
def yX11_sheet : MethodName := ⟨RX11, "sheet", "(III)I"⟩
abbrev cX11_set : ByteArray := prog_13_method_7_code
def yX11_set : MethodName := ⟨RX11, "set", "(III)I"⟩
abbrev cX11_copy : ByteArray := prog_13_method_8_code
def yX11_copy : MethodName := ⟨RX11, "copy", "(IIIII)I"⟩
abbrev cX11_drop : ByteArray := prog_13_method_9_code
def yX11_drop : MethodName := ⟨RX11, "drop", "(I)I"⟩
abbrev cX11_lookItems : ByteArray := prog_13_method_10_code
def yX11_lookItems : MethodName := ⟨RX11, "lookItems", "(III)I"⟩
abbrev cX11_isSort : ByteArray := prog_13_method_11_code
def yX11_isSort : MethodName := ⟨RX11, "isSort", "(I)Z"⟩
abbrev cX11_isWeek : ByteArray := prog_13_method_12_code
def yX11_isWeek : MethodName := ⟨RX11, "isWeek", "(I)Z"⟩
abbrev cX11_isMill : ByteArray := prog_13_method_13_code
def yX11_isMill : MethodName := ⟨RX11, "isMill", "(I)Z"⟩
abbrev cX11_stuff : ByteArray := prog_13_method_14_code
def yX11_stuff : MethodName := ⟨RX11, "stuff", "(III)I"⟩
abbrev cX11_ship : ByteArray := prog_13_method_15_code
def yX11_ship : MethodName := ⟨RX11, "ship", "(IIII)I"⟩
abbrev cX11_mill : ByteArray := prog_13_method_16_code
def yX11_mill : MethodName := ⟨RX11, "mill", "(IIII)I"⟩
abbrev cX11_stock : ByteArray := prog_13_method_17_code
def yX11_stock : MethodName := ⟨RX11, "stock", "(III)I"⟩
abbrev cX11_told : ByteArray := prog_13_method_18_code
def yX11_told : MethodName := ⟨RX11, "told", "(II)I"⟩
abbrev cX11_balesOf : ByteArray := prog_13_method_19_code
def yX11_balesOf : MethodName := ⟨RX11, "balesOf", "(I)I"⟩
abbrev cX11_priceOf : ByteArray := prog_13_method_20_code
def yX11_priceOf : MethodName := ⟨RX11, "priceOf", "(I)I"⟩
abbrev cX11_earnCoin : ByteArray := prog_13_method_21_code
def yX11_earnCoin : MethodName := ⟨RX11, "earnCoin", "(II)V"⟩
abbrev cX11_work : ByteArray := prog_13_method_22_code
def yX11_work : MethodName := ⟨RX11, "work", "(I)V"⟩
abbrev cX11_stepOnce : ByteArray := prog_13_method_23_code
def yX11_stepOnce : MethodName := ⟨RX11, "stepOnce", "()V"⟩
abbrev cX11_step : ByteArray := prog_13_method_24_code
def yX11_step : MethodName := ⟨RX11, "step", "(I)I"⟩
abbrev cX11_ran : ByteArray := prog_13_method_25_code
def yX11_ran : MethodName := ⟨RX11, "ran", "(II)I"⟩
abbrev cX11_price : ByteArray := prog_13_method_26_code
def yX11_price : MethodName := ⟨RX11, "price", "(II)I"⟩
abbrev cX11_feed : ByteArray := prog_13_method_27_code
def yX11_feed : MethodName := ⟨RX11, "feed", "(JI)I"⟩
abbrev cX11_byteAt : ByteArray := prog_13_method_28_code
def yX11_byteAt : MethodName := ⟨RX11, "byteAt", "(I)I"⟩
abbrev cX11_isLetter : ByteArray := prog_13_method_29_code
def yX11_isLetter : MethodName := ⟨RX11, "isLetter", "(I)Z"⟩
abbrev cX11_isFigure : ByteArray := prog_13_method_30_code
def yX11_isFigure : MethodName := ⟨RX11, "isFigure", "(I)Z"⟩
abbrev cX11_next : ByteArray := prog_13_method_31_code
def yX11_next : MethodName := ⟨RX11, "next", "()V"⟩
abbrev cX11_bad : ByteArray := prog_13_method_32_code
def yX11_bad : MethodName := ⟨RX11, "bad", "(I)V"⟩
abbrev cX11_must : ByteArray := prog_13_method_33_code
def yX11_must : MethodName := ⟨RX11, "must", "(Z)V"⟩
abbrev cX11_word : ByteArray := prog_13_method_34_code
def yX11_word : MethodName := ⟨RX11, "word", "()J"⟩
abbrev cX11_numberTo : ByteArray := prog_13_method_35_code
def yX11_numberTo : MethodName := ⟨RX11, "numberTo", "(I)I"⟩
abbrev cX11_ruleOfWord : ByteArray := prog_13_method_36_code
def yX11_ruleOfWord : MethodName := ⟨RX11, "ruleOfWord", "()I"⟩
abbrev cX11_readRule : ByteArray := prog_13_method_37_code
def yX11_readRule : MethodName := ⟨RX11, "readRule", "(I)V"⟩
abbrev cX11_lists : ByteArray := prog_13_method_38_code
def yX11_lists : MethodName := ⟨RX11, "lists", "()I"⟩
abbrev cX11_fault : ByteArray := prog_13_method_39_code
def yX11_fault : MethodName := ⟨RX11, "fault", "()I"⟩
abbrev cX11_numberFor : ByteArray := prog_13_method_40_code
def yX11_numberFor : MethodName := ⟨RX11, "numberFor", "(III)I"⟩
abbrev cX11_earnOn : ByteArray := prog_13_method_41_code
def yX11_earnOn : MethodName := ⟨RX11, "earnOn", "(II)I"⟩
abbrev cX11_findFirst : ByteArray := prog_13_method_42_code
def yX11_findFirst : MethodName := ⟨RX11, "findFirst", "(I)I"⟩
abbrev cX11_holds : ByteArray := prog_13_method_43_code
def yX11_holds : MethodName := ⟨RX11, "holds", "(II)I"⟩
abbrev cX11_first : ByteArray := prog_13_method_44_code
def yX11_first : MethodName := ⟨RX11, "first", "(II)I"⟩
abbrev cX11_home : ByteArray := prog_13_method_45_code
def yX11_home : MethodName := ⟨RX11, "home", "(II)I"⟩
abbrev cX11_house : ByteArray := prog_13_method_46_code
def yX11_house : MethodName := ⟨RX11, "house", "(II)I"⟩
abbrev cX11_sell : ByteArray := prog_13_method_47_code
def yX11_sell : MethodName := ⟨RX11, "sell", "(II)V"⟩
abbrev cX11_live : ByteArray := prog_13_method_48_code
def yX11_live : MethodName := ⟨RX11, "live", "(I)V"⟩
abbrev cX11_paid : ByteArray := prog_13_method_49_code
def yX11_paid : MethodName := ⟨RX11, "paid", "(IIII)I"⟩
abbrev cX11_isThing : ByteArray := prog_13_method_50_code
def yX11_isThing : MethodName := ⟨RX11, "isThing", "(I)Z"⟩
abbrev cX11_thing : ByteArray := prog_13_method_51_code
def yX11_thing : MethodName := ⟨RX11, "thing", "(III)I"⟩
abbrev cX11_works : ByteArray := prog_13_method_52_code
def yX11_works : MethodName := ⟨RX11, "works", "(IIIII)I"⟩
abbrev cX11_news : ByteArray := prog_13_method_53_code
def yX11_news : MethodName := ⟨RX11, "news", "(IIII)I"⟩
abbrev cX11_known : ByteArray := prog_13_method_54_code
def yX11_known : MethodName := ⟨RX11, "known", "(II)I"⟩
abbrev cX11_isOf : ByteArray := prog_13_method_55_code
def yX11_isOf : MethodName := ⟨RX11, "isOf", "(II)Z"⟩
abbrev cX11_kind : ByteArray := prog_13_method_56_code
def yX11_kind : MethodName := ⟨RX11, "kind", "(I)I"⟩
abbrev cX11_as : ByteArray := prog_13_method_57_code
def yX11_as : MethodName := ⟨RX11, "as", "(II)I"⟩
abbrev cX11_began : ByteArray := prog_13_method_58_code
def yX11_began : MethodName := ⟨RX11, "began", "(I)V"⟩
abbrev cX11_loanSize : ByteArray := prog_13_method_59_code
def yX11_loanSize : MethodName := ⟨RX11, "loanSize", "(I)I"⟩
abbrev cX11_markOf : ByteArray := prog_13_method_60_code
def yX11_markOf : MethodName := ⟨RX11, "markOf", "(I)I"⟩
abbrev cX11_sizeBy : ByteArray := prog_13_method_61_code
def yX11_sizeBy : MethodName := ⟨RX11, "sizeBy", "(I)I"⟩
abbrev cX11_ask : ByteArray := prog_13_method_62_code
def yX11_ask : MethodName := ⟨RX11, "ask", "(II)I"⟩
abbrev cX11_trace : ByteArray := prog_13_method_63_code
def yX11_trace : MethodName := ⟨RX11, "trace", "(I)I"⟩
abbrev cX11_count : ByteArray := prog_13_method_64_code
def yX11_count : MethodName := ⟨RX11, "count", "(I)I"⟩
abbrev cX11_status : ByteArray := prog_13_method_65_code
def yX11_status : MethodName := ⟨RX11, "status", "()I"⟩
def RJ9 : String := "java/lang/Math"
def TJ9 : u_T := fun k => match k with
  | _ => ("", "", "", false)
def tyJ9 : Nat → FieldType := fun k => match k with
  | _ => .int
abbrev wsJ90 : List Cond := u_ws RJ9 TJ9 0
theorem nmJ9 : ∀ a, a < 0 → ∀ b, b < 0 → a ≠ b → (TJ9 a).2.1 ≠ (TJ9 b).2.1 := by decide +kernel
theorem tyJ9_ok : ∀ k, k < 0 → parseFieldDescriptor (TJ9 k).2.2.1 = some (tyJ9 k) := by decide +kernel
abbrev cJ9_max_7cf53 : ByteArray := prog_14_method_65_code
def yJ9_max_7cf53 : MethodName := ⟨RJ9, "max", "(II)I"⟩
abbrev cJ9_min_7cf53 : ByteArray := prog_14_method_69_code
def yJ9_min_7cf53 : MethodName := ⟨RJ9, "min", "(II)I"⟩
abbrev cJ9_min_f86c9 : ByteArray := prog_14_method_70_code
def yJ9_min_f86c9 : MethodName := ⟨RJ9, "min", "(JJ)J"⟩
def RJ0 : String := "java/lang/String"
def TJ0 : u_T := fun k => match k with
  | _ => ("", "", "", false)
def tyJ0 : Nat → FieldType := fun k => match k with
  | _ => .int
abbrev wsJ00 : List Cond := u_ws RJ0 TJ0 0
theorem nmJ0 : ∀ a, a < 0 → ∀ b, b < 0 → a ≠ b → (TJ0 a).2.1 ≠ (TJ0 b).2.1 := by decide +kernel
theorem tyJ0_ok : ∀ k, k < 0 → parseFieldDescriptor (TJ0 k).2.2.1 = some (tyJ0 k) := by decide +kernel
abbrev cJ0_length_8abf5 : ByteArray := prog_15_method_54_code
def yJ0_length_8abf5 : MethodName := ⟨RJ0, "length", "()I"⟩
abbrev cJ0_charAt_5068e : ByteArray := prog_15_method_56_code
def yJ0_charAt_5068e : MethodName := ⟨RJ0, "charAt", "(I)C"⟩
abbrev cJ0_coder_7d493 : ByteArray := prog_15_method_152_code
def yJ0_coder_7d493 : MethodName := ⟨RJ0, "coder", "()B"⟩
abbrev cJ0_isLatin1_aae02 : ByteArray := prog_15_method_154_code
def yJ0_isLatin1_aae02 : MethodName := ⟨RJ0, "isLatin1", "()Z"⟩
abbrev cJ0_checkIndex_df160 : ByteArray := prog_15_method_155_code
def yJ0_checkIndex_df160 : MethodName := ⟨RJ0, "checkIndex", "(II)V"⟩
def RJ1 : String := "java/lang/StringLatin1"
def TJ1 : u_T := fun k => match k with
  | _ => ("", "", "", false)
def tyJ1 : Nat → FieldType := fun k => match k with
  | _ => .int
abbrev wsJ10 : List Cond := u_ws RJ1 TJ1 0
theorem nmJ1 : ∀ a, a < 0 → ∀ b, b < 0 → a ≠ b → (TJ1 a).2.1 ≠ (TJ1 b).2.1 := by decide +kernel
theorem tyJ1_ok : ∀ k, k < 0 → parseFieldDescriptor (TJ1 k).2.2.1 = some (tyJ1 k) := by decide +kernel
abbrev cJ1_charAt_3b067 : ByteArray := prog_16_method_2_code
def yJ1_charAt_3b067 : MethodName := ⟨RJ1, "charAt", "([BI)C"⟩
def RJ2 : String := "java/lang/StringUTF16"
def TJ2 : u_T := fun k => match k with
  | _ => ("", "", "", false)
def tyJ2 : Nat → FieldType := fun k => match k with
  | _ => .int
abbrev wsJ20 : List Cond := u_ws RJ2 TJ2 0
theorem nmJ2 : ∀ a, a < 0 → ∀ b, b < 0 → a ≠ b → (TJ2 a).2.1 ≠ (TJ2 b).2.1 := by decide +kernel
theorem tyJ2_ok : ∀ k, k < 0 → parseFieldDescriptor (TJ2 k).2.2.1 = some (tyJ2 k) := by decide +kernel
abbrev cJ2_getChar_3b067 : ByteArray := prog_17_method_5_code
def yJ2_getChar_3b067 : MethodName := ⟨RJ2, "getChar", "([BI)C"⟩
abbrev cJ2_length_9d52b : ByteArray := prog_17_method_6_code
def yJ2_length_9d52b : MethodName := ⟨RJ2, "length", "([B)I"⟩
abbrev cJ2_charAt_3b067 : ByteArray := prog_17_method_83_code
def yJ2_charAt_3b067 : MethodName := ⟨RJ2, "charAt", "([BI)C"⟩
abbrev cJ2_checkIndex_2214a : ByteArray := prog_17_method_91_code
def yJ2_checkIndex_2214a : MethodName := ⟨RJ2, "checkIndex", "(I[B)V"⟩
def RJ10 : String := "java/lang/System"
def TJ10 : u_T := fun k => match k with
  | _ => ("", "", "", false)
def tyJ10 : Nat → FieldType := fun k => match k with
  | _ => .int
abbrev wsJ100 : List Cond := u_ws RJ10 TJ10 0
theorem nmJ10 : ∀ a, a < 0 → ∀ b, b < 0 → a ≠ b → (TJ10 a).2.1 ≠ (TJ10 b).2.1 := by decide +kernel
theorem tyJ10_ok : ∀ k, k < 0 → parseFieldDescriptor (TJ10 k).2.2.1 = some (tyJ10 k) := by decide +kernel
def RJ7 : String := "java/util/Arrays"
def TJ7 : u_T := fun k => match k with
  | _ => ("", "", "", false)
def tyJ7 : Nat → FieldType := fun k => match k with
  | _ => .int
abbrev wsJ70 : List Cond := u_ws RJ7 TJ7 0
theorem nmJ7 : ∀ a, a < 0 → ∀ b, b < 0 → a ≠ b → (TJ7 a).2.1 ≠ (TJ7 b).2.1 := by decide +kernel
theorem tyJ7_ok : ∀ k, k < 0 → parseFieldDescriptor (TJ7 k).2.2.1 = some (tyJ7 k) := by decide +kernel
abbrev cJ7_fill_53178 : ByteArray := prog_19_method_103_code
def yJ7_fill_53178 : MethodName := ⟨RJ7, "fill", "([II)V"⟩
def RJ3 : String := "jdk/internal/util/Preconditions"
def TJ3 : u_T := fun k => match k with
  | _ => ("", "", "", false)
def tyJ3 : Nat → FieldType := fun k => match k with
  | _ => .int
abbrev wsJ30 : List Cond := u_ws RJ3 TJ3 0
theorem nmJ3 : ∀ a, a < 0 → ∀ b, b < 0 → a ≠ b → (TJ3 a).2.1 ≠ (TJ3 b).2.1 := by decide +kernel
theorem tyJ3_ok : ∀ k, k < 0 → parseFieldDescriptor (TJ3 k).2.2.1 = some (tyJ3 k) := by decide +kernel
abbrev cJ3_checkIndex_8e157 : ByteArray := prog_20_method_11_code
def yJ3_checkIndex_8e157 : MethodName := ⟨RJ3, "checkIndex", "(IILjava/util/function/BiFunction;)I"⟩
def RL : String := "CottonWeeksLaw"
abbrev cL_law : ByteArray := code
def yL_law : MethodName := ⟨RL, "law", "([I)Z"⟩
abbrev vwCl : List vw_C := [(RX0, TX0, 8), (RX1, TX1, 14), (RX2, TX2, 5), (RX3, TX3, 8), (RX4, TX4, 8), (RX5, TX5, 4), (RX6, TX6, 7), (RX7, TX7, 4), (RX8, TX8, 8), (RX9, TX9, 5), (RX10, TX10, 11), (RX11, TX11, 57)]
end
section
/-! the store of both objects: a number for each (sort of cell, which of them, place); the words; the shapes -/
abbrev St : Type := Nat → Nat → Nat → Int32
def up (s : St) (t k j : Nat) (v : Int32) : St := fun a b c => if a = t then (if b = k then (if c = j then v else s a b c) else s a b c) else s a b c
theorem up_ne {s : St} {t k j t' k' : Nat} {v : Int32} (h : ¬ (t' = t ∧ k' = k)) : up s t k j v t' k' = s t' k' := by
  funext c
  unfold up
  by_cases h1 : t' = t
  · by_cases h2 : k' = k
    · exact absurd ⟨h1, h2⟩ h
    · rw [if_pos h1, if_neg h2]
  · rw [if_neg h1]
theorem up_self {s : St} {t k j : Nat} {v : Int32} : up s t k j v t k = upd (s t k) j v := by
  funext c
  simp [up, upd]
theorem up_at {s : St} {t k j : Nat} {v : Int32} : up s t k j v t k j = v := by simp [up]
theorem up_off {s : St} {t k j c : Nat} {v : Int32} (h : c ≠ j) : up s t k j v t k c = s t k c := by simp [up, h]
def gtab : List Cond := lw_tbl.filter goodWord
theorem gtab_in {w : Cond} (h : w ∈ lw_tbl) (hg : goodWord w = true) : w ∈ gtab := List.mem_filter.mpr ⟨h, hg⟩
theorem gtab_good {w : Cond} (h : w ∈ gtab) : w ∈ lw_tbl ∧ goodWord w = true := List.mem_filter.mp h
theorem gtab_goodIn {c1 : Cond} (h : c1 ∈ gtab) : GoodIn gtab (c1 :: gtab) := fun w hw => by
  have hm : w ∈ gtab := by
    rcases List.mem_cons.mp hw with e | e
    · exact e ▸ h
    · exact e
  exact ⟨hm, good_of_word (gtab_good hm).2⟩
/-- the run's constants: classes and slots, array classes, what may change, the world, what the tables say of a state, addresses, how many mills and homes there are, which cells are there -/
abbrev ZE : Type := va_G × (Nat → ClassId) × (Nat → Prop) × (St → Heap → Prop) × (State → Prop) × (Nat → Nat → Nat) × (Nat × Nat) × (Nat → Nat → Prop)
abbrev zD (Z : ZE) : va_G := Z.1
abbrev zc (Z : ZE) : Nat → ClassId := Z.2.1
abbrev zA (Z : ZE) : Nat → Prop := Z.2.2.1
abbrev zW (Z : ZE) : St → Heap → Prop := Z.2.2.2.1
abbrev zS (Z : ZE) : State → Prop := Z.2.2.2.2.1
abbrev za (Z : ZE) : Nat → Nat → Nat := Z.2.2.2.2.2.1
abbrev zg (Z : ZE) : Nat × Nat := Z.2.2.2.2.2.2.1
abbrev zx (Z : ZE) : Nat → Nat → Prop := Z.2.2.2.2.2.2.2
abbrev zT (Z : ZE) : List (ClassId × FieldType) := [(zc Z 0, .int), (zc Z 1, .object "CottonWeeks$Sheet"), (zc Z 2, .object "CottonWeeks$Mill"), (zc Z 3, .object "CottonWeeks$Home"), (zc Z 4, .array .int)]
/-! shapes: which sorts of cells there are, by program out of the field tables -/
-- 0 CottonWeeks; 1 CottonWeeks.sheets; 2 CottonWeeks$Sheet; 3 CottonWeeks$Sheet.items; 4 CottonWeeks$County; 5 CottonWeeks$County.base; 6 CottonWeeks$County.breaks; 7 CottonWeeks$County.port; 8 CottonWeeks$County.prices; 9 CottonWeeks$County.shipWeek; 10 CottonWeeks$County.shipSort; 11 CottonWeeks$County.shipBales; 12 CottonWeeks$County.shipThrough; 13 CottonWeeks$County.mills; 14 CottonWeeks$Mill; 15 CottonWeeks$Mill.bales; 16 CottonWeeks$Mill.ranOn; 17 CottonWeeks$Rules; 18 CottonWeeks$Rules.weeks; 19 CottonWeeks$Rules.whats; 20 CottonWeeks$Rules.values; 21 CottonWeeks$Rules.order; 22 CottonWeeks$Rules.ranks; 23 CottonWeeks$Tape; 24 CottonWeeks$Tape.bytes; 25 CottonWeeks.homes; 26 CottonWeeks$Home; 27 CottonWeeks$Home.goods; 28 CottonWeeks$Debts; 29 CottonWeeks$Debts.income; 30 CottonWeeks$Debts.owes; 31 CottonWeeks$Debts.owes[]; 32 CottonWeeks$Debts.owesAll; 33 CottonWeeks$Debts.pays; 34 CottonWeeks$Debts.paysNext; 35 CottonWeeks$Works; 36 CottonWeeks$Works.cost; 37 CottonWeeks$Works.fewer; 38 CottonWeeks$Bodies; 39 CottonWeeks$Bodies.sorts; 40 CottonWeeks$Bodies.numbers; 41 CottonWeeks$Bodies.madeOf; 42 CottonWeeks$Bodies.trace; 43 CottonWeeks$Papers; 44 CottonWeeks$Papers.whats; 45 CottonWeeks$Papers.towns; 46 CottonWeeks$Papers.knownFrom; 60 CottonWeeksModel; 61 CottonWeeksModel.lane; 62 CottonWeeksModel.many; 63 CottonWeeksModel.item; 64 CottonWeeksModel.base; 65 CottonWeeksModel.breaks; 66 CottonWeeksModel.port; 67 CottonWeeksModel.shipWeek; 68 CottonWeeksModel.shipSort; 69 CottonWeeksModel.shipBales; 70 CottonWeeksModel.need; 71 CottonWeeksModel.takes; 72 CottonWeeksModel.margin; 73 CottonWeeksModel.hold; 74 CottonWeeksModel.own; 75 CottonWeeksModel.coin; 76 CottonWeeksModel.ranOn; 77 CottonWeeksModel.lastPrice; 78 CottonWeeksModel.ruleWeek; 79 CottonWeeksModel.ruleWhat; 80 CottonWeeksModel.ruleOf; 81 CottonWeeksModel.ruleNumber; 82 CottonWeeksModel.tape; 83 CottonWeeksModel.goesFirst; 84 CottonWeeksModel.row; 85 CottonWeeksModel.pays; 86 CottonWeeksModel.paysThen; 87 CottonWeeksModel.owesAll; 88 CottonWeeksModel.thingSort; 89 CottonWeeksModel.thingNumber; 90 CottonWeeksModel.madeOf; 91 CottonWeeksModel.newsWhat; 92 CottonWeeksModel.newsAt; 93 CottonWeeksModel.newsTown; 94 CottonWeeksModel.trace
def shO : Nat → Option (Nat × Nat) := fun t => match t with
  | 0 => some (10, 11)
  | 2 => some (7, 4)
  | 4 => some (1, 14)
  | 14 => some (4, 8)
  | 17 => some (6, 7)
  | 23 => some (8, 8)
  | 26 => some (3, 8)
  | 28 => some (2, 5)
  | 35 => some (9, 5)
  | 38 => some (0, 8)
  | 43 => some (5, 4)
  | 60 => some (11, 57)
  | _ => none
def shA : Nat → Option Nat := fun t => match t with
  | 3 => some 80
  | 5 => some 4
  | 6 => some 4
  | 7 => some 4
  | 8 => some 4
  | 9 => some 30
  | 10 => some 30
  | 11 => some 30
  | 12 => some 30
  | 15 => some 4
  | 16 => some 100
  | 18 => some 30
  | 19 => some 30
  | 20 => some 30
  | 21 => some 4
  | 22 => some 4
  | 24 => some 400
  | 27 => some 4
  | 29 => some 8
  | 31 => some 8
  | 32 => some 8
  | 33 => some 8
  | 34 => some 8
  | 36 => some 10
  | 37 => some 10
  | 39 => some 16
  | 40 => some 16
  | 41 => some 16
  | 42 => some 16
  | 44 => some 20
  | 45 => some 20
  | 46 => some 20
  | 61 => some 8
  | 62 => some 8
  | 63 => some 640
  | 64 => some 4
  | 65 => some 4
  | 66 => some 4
  | 67 => some 30
  | 68 => some 30
  | 69 => some 30
  | 70 => some 6
  | 71 => some 6
  | 72 => some 6
  | 73 => some 6
  | 74 => some 24
  | 75 => some 6
  | 76 => some 600
  | 77 => some 4
  | 78 => some 30
  | 79 => some 30
  | 80 => some 30
  | 81 => some 30
  | 82 => some 400
  | 83 => some 4
  | 84 => some 132
  | 85 => some 8
  | 86 => some 8
  | 87 => some 8
  | 88 => some 16
  | 89 => some 16
  | 90 => some 16
  | 91 => some 20
  | 92 => some 20
  | 93 => some 20
  | 94 => some 16
  | _ => none
def shR : Nat → Option (Nat × Nat × Nat) := fun t => match t with
  | 1 => some (8, 2, 1)
  | 13 => some (6, 14, 2)
  | 25 => some (12, 26, 3)
  | 30 => some (8, 31, 4)
  | _ => none
def shF : Nat → Nat → Option (Nat × Bool) := fun t => match t with
  | 0 => fun j => match j with
    | 0 => some (1, false)
    | 1 => some (4, false)
    | 2 => some (17, false)
    | 3 => some (23, false)
    | 4 => some (25, false)
    | 5 => some (28, false)
    | 6 => some (35, false)
    | 7 => some (38, false)
    | 8 => some (43, false)
    | _ => none
  | 2 => fun j => match j with
    | 0 => some (3, true)
    | _ => none
  | 4 => fun j => match j with
    | 0 => some (5, false)
    | 1 => some (6, false)
    | 2 => some (7, false)
    | 3 => some (8, false)
    | 6 => some (9, false)
    | 7 => some (10, false)
    | 8 => some (11, false)
    | 9 => some (12, false)
    | 11 => some (13, false)
    | _ => none
  | 14 => fun j => match j with
    | 4 => some (15, true)
    | 5 => some (16, true)
    | _ => none
  | 17 => fun j => match j with
    | 0 => some (18, false)
    | 1 => some (19, false)
    | 2 => some (20, false)
    | 3 => some (21, false)
    | 4 => some (22, false)
    | _ => none
  | 23 => fun j => match j with
    | 0 => some (24, false)
    | _ => none
  | 26 => fun j => match j with
    | 4 => some (27, true)
    | _ => none
  | 28 => fun j => match j with
    | 0 => some (29, false)
    | 1 => some (30, false)
    | 2 => some (32, false)
    | 3 => some (33, false)
    | 4 => some (34, false)
    | _ => none
  | 35 => fun j => match j with
    | 0 => some (36, false)
    | 1 => some (37, false)
    | _ => none
  | 38 => fun j => match j with
    | 0 => some (39, false)
    | 1 => some (40, false)
    | 2 => some (41, false)
    | 3 => some (42, false)
    | _ => none
  | 43 => fun j => match j with
    | 0 => some (44, false)
    | 1 => some (45, false)
    | 2 => some (46, false)
    | _ => none
  | 60 => fun j => match j with
    | 2 => some (61, false)
    | 3 => some (62, false)
    | 4 => some (63, false)
    | 5 => some (64, false)
    | 6 => some (65, false)
    | 7 => some (66, false)
    | 12 => some (67, false)
    | 13 => some (68, false)
    | 14 => some (69, false)
    | 16 => some (70, false)
    | 17 => some (71, false)
    | 18 => some (72, false)
    | 19 => some (73, false)
    | 20 => some (74, false)
    | 21 => some (75, false)
    | 22 => some (76, false)
    | 23 => some (77, false)
    | 25 => some (78, false)
    | 26 => some (79, false)
    | 27 => some (80, false)
    | 28 => some (81, false)
    | 30 => some (82, false)
    | 41 => some (83, false)
    | 43 => some (84, false)
    | 44 => some (85, false)
    | 45 => some (86, false)
    | 46 => some (87, false)
    | 48 => some (88, false)
    | 49 => some (89, false)
    | 50 => some (90, false)
    | 52 => some (91, false)
    | 53 => some (92, false)
    | 54 => some (93, false)
    | 55 => some (94, false)
    | _ => none
  | _ => fun _ => none
def shN (g : Nat × Nat) : Nat → Nat := fun t => match t with
  | 2 => 8
  | 3 => 8
  | 14 => g.1
  | 15 => g.1
  | 16 => g.1
  | 26 => g.2
  | 27 => g.2
  | 31 => 8
  | _ => 1
end
section
/-! the world of cells, and the judgement AW: from this place, with these locals, this stack and this store, the method comes to its end as Post says -/
def fvl (Z : ZE) (s : St) (t k j : Nat) : Value := match shF t j with
  | none => .int (s t k j)
  | some (u, b) => .ref (za Z u (if b = true then k else 0))
def cel (Z : ZE) (s : St) (t k : Nat) : va_E := match shO t with
  | some (ci, n) => .inr (ci, (List.range n).map (fvl Z s t k))
  | none => match shA t with
    | some n => .inl (zc Z 0, n, .inl (s t k))
    | none => match shR t with
      | some (n, u, c) => .inl (zc Z c, n, .inr (.inr (.inr (.inr (fun i => if i < shN (zg Z) u then some (za Z u i) else none)))))
      | none => .inl (zc Z 0, 0, .inl (s t k))
theorem cel_O {Z : ZE} {s : St} {t k ci n : Nat} (h : shO t = some (ci, n)) : cel Z s t k = .inr (ci, (List.range n).map (fvl Z s t k)) := by
  unfold cel
  rw [h]
theorem cel_A {Z : ZE} {s : St} {t k n : Nat} (h0 : shO t = none) (h : shA t = some n) : cel Z s t k = .inl (zc Z 0, n, .inl (s t k)) := by
  unfold cel
  rw [h0, h]
theorem cel_R {Z : ZE} {s : St} {t k n u c : Nat} (h0 : shO t = none) (h1 : shA t = none) (h : shR t = some (n, u, c)) : cel Z s t k = .inl (zc Z c, n, .inr (.inr (.inr (.inr (fun i => if i < shN (zg Z) u then some (za Z u i) else none))))) := by
  unfold cel
  rw [h0, h1, h]
/-- the static arrays: class, name, contents -/
def stC : Nat → String × String := fun c => match c with
  | 0 => ("CottonWeeks$Bodies", "MADE_OF")
  | 1 => ("CottonWeeks$Bodies", "PARENT")
  | 2 => ("CottonWeeks$Bodies", "SIZE_BODY")
  | 3 => ("CottonWeeks$Bodies", "MARK_BODY")
  | _ => ("CottonWeeks$Tape", "MOST_VALUE")
def stB : Nat → List Int32 := fun c => match c with
  | 0 => [-1000000, -1000000, 1, 2, -1000000, -1000000]
  | 1 => [-1000000, 0, 1, 2, 0, 4]
  | 2 => [10, 11, 12, 13, 10, 14]
  | 3 => [20, 20, 21, 21, 22, 23]
  | _ => [99, 99, 99, 99, 99, 9999, 99, 3]
def stL : Nat → Nat := fun c => (stB c).length
def stV (c : Nat) (j : Nat) : Int32 := (stB c).getD j 0
/-- the texts: pool number, text, bytes -/
def txK : Nat → Nat × String := fun c => match c with
  | 0 => (38, "from")
  | 1 => (74, "piece")
  | 2 => (76, "relief")
  | 3 => (78, "limit")
  | 4 => (80, "bread")
  | _ => (82, "first")
def txB : List (List Int32) := [[102, 114, 111, 109], [112, 105, 101, 99, 101], [114, 101, 108, 105, 101, 102], [108, 105, 109, 105, 116], [98, 114, 101, 97, 100], [102, 105, 114, 115, 116]]
def txL : List Nat := [4, 5, 6, 5, 5, 5]
def isNst : Cond → Bool
  | .methodLinkNest _ _ _ _ => true
  | _ => false
def nst : List Cond := lw_tbl.filter isNst
theorem nst_in {w : Cond} (h : w ∈ lw_tbl) (hg : isNst w = true) : w ∈ nst := List.mem_filter.mpr ⟨h, hg⟩
def OkZ (Z : ZE) : Prop :=
  (∀ (s : St) (H : Heap) (t k : Nat), zx Z t k → zW Z s H → va_at (zD Z) vwCl (za Z t k, cel Z s t k) H) ∧
  (∀ (s s' : St) (H H' : Heap) (t k : Nat), zx Z t k → zW Z s H → va_at (zD Z) vwCl (za Z t k, cel Z s' t k) H' → H'.size = H.size → (∀ q : Nat, q ≠ za Z t k → H'[q]? = H[q]?) → (∀ t' k' : Nat, ¬ (t' = t ∧ k' = k) → s' t' k' = s t' k') → zW Z s' H') ∧
  (∀ t k : Nat, zx Z t k → zA Z (za Z t k)) ∧
  (∀ s U : State, zS Z s → s.WarmedH U.vm → va_F (zA Z) s U → zS Z U) ∧
  (∀ U U' : State, U'.vm = U.vm → U'.heap = U.heap → zS Z U → zS Z U') ∧
  (∀ s : State, zS Z s → ∀ w ∈ nst, va_Nw w s) ∧
  (∀ s : State, zS Z s → ∀ c : Nat, c < 5 → va_Z (stC c).1 (stC c).2 "[I" (.ref (za Z (100 + c) 0)) (zA Z) s s.heap ∧ va_T .int (za Z (100 + c) 0) (stL c) (fun j => .int (stV c j)) (zA Z) s s.heap) ∧
  (∀ s : State, zS Z s → (∀ c : Nat, c < 6 → vk_R "CottonWeeks$Tape" (txK c).1 (txK c).2 (za Z 110 c) s) ∧ vk_S 6 txL txB (za Z 110) (za Z 111) (zA Z) s s.heap)
/-- a method: its code, its class, how many locals, what it answers, how deep, how many cells and slots it may make -/
abbrev MI : Type := ByteArray × String × Nat × Option FieldType × Nat × Nat × Nat
abbrev mC (M : MI) : ByteArray := M.1
abbrev mO (M : MI) : String := M.2.1
abbrev mL (M : MI) : Nat := M.2.2.1
abbrev mT (M : MI) : Option FieldType := M.2.2.2.1
abbrev mD (M : MI) : Nat := M.2.2.2.2.1
abbrev mK (M : MI) : Nat := M.2.2.2.2.2.1
abbrev mN (M : MI) : Nat := M.2.2.2.2.2.2
abbrev gR (M : MI) : Room := { frames := mD M, cells := mK M, slots := mN M, locals := 40 * mD M }
def gQ (Z : ZE) (Post : Option Value → St → Prop) : Array Value → State → Outcome → State → Prop := fun _ st o t => ∃ (r : Option Value) (s' : St), o = .returned r ∧ Post r s' ∧ zW Z s' t.heap ∧ va_F (zA Z) st t
def CX (Z : ZE) (M : MI) (p : Program) (s : State) (m : MethodId) (args : Array Value) (meth : Method) (c : Code) : Prop :=
  p.tables.exec = Jvm.exec ∧ c.code = mC M ∧ c.maxLocals = mL M ∧ s.vm.findClass (mO M) = some m.cls ∧ (∀ w ∈ gtab, w.before args s = true) ∧ meth.sig.returnType = mT M ∧ meth.locks = false ∧ va_K (zD Z) vwCl (zT Z) s ∧ zS Z s
def AW (Z : ZE) (l : Launch) (M : MI) (Post : Option Value → St → Prop) (kc ks pc : Nat) (lv : List (Nat × Value)) (st : List Value) (s : St) : Prop :=
  ∀ (p : Program) (e : Env) (s0 : State) (m : MethodId) (args : Array Value) (below : List Frame) (meth : Method) (c : Code) (H : Heap) (locs : List Loc) (ls : Array Slot),
    CX Z M p s0 m args meth c → zW Z s H → va_S (zA Z) s0.heap H locs → lv_has ls (mL M) lv →
    W p l e (gR M) s0 m args below meth c H locs kc ks (MQ below (gQ Z Post) args s0 (mK M) (mN M) (zA Z)) (F0 m pc ls st)
/-- a method's contract: from these arguments and this store it answers R.1 and leaves the store R.2 -/
def Sp (Z : ZE) (l : Launch) (y : MethodName) (M : MI) (av : List Value) (s : St) (R : Option Value × St) : Prop :=
  Met l y (Cond.code y (mC M) (mL M) (mT M) :: gtab) (gR M) (va_Pc av (fun U => zW Z s U.heap ∧ va_K (zD Z) vwCl (zT Z) U ∧ zS Z U)) (gQ Z (fun r s' => r = R.1 ∧ s' = R.2)) (mK M) (mN M) (zA Z)
theorem Sp.of {Z : ZE} {l : Launch} {y : MethodName} {M : MI} {av : List Value} {s : St} {R : Option Value × St} (hy : plainName y.cls = true) (ho : y.cls = mO M) (hn : (lg_sl av).length ≤ mL M)
    (k : AW Z l M (fun r s' => r = R.1 ∧ s' = R.2) 0 0 0 (lv_args 0 av) [] s) : Sp Z l y M av s R := by
  refine Met.ofW (cc := mC M) (maxL := mL M) (ret := mT M) hy rfl ?_
  intro p e s0 m args below meth c s₁ B hml hv
  obtain ⟨rfl, hW, hK, hS⟩ := hv
  have hts := atoms_spec (ws := Cond.code y (mC M) (mL M) (mT M) :: gtab) B.pre
  have hown : s0.vm.findClass y.cls = some m.cls := findClass_of_methodNamed B.named
  rw [lg_entry_eq]
  exact k p e s0 m _ below meth c s0.heap [] _ ⟨B.exec, B.bytes, hml, ho ▸ hown, fun w hw => hts w (List.mem_cons_of_mem _ hw), B.returns, B.notSynchronized, hK, hS⟩ hW va_S.rf (lv_entry av hn)
section AWR
variable {Z : ZE} {l : Launch} {M : MI} {Post : Option Value → St → Prop} {kc ks pc : Nat} {lv : List (Nat × Value)} {st : List Value} {s : St}
theorem a_iconst {n : Int} {v : Int32} (hd : decode (mC M) pc = .ok (.iconst n, 1)) (hv : Int32.ofInt n = v) (k : AW Z l M Post kc ks (pc + 1) lv (.int v :: st) s) : AW Z l M Post kc ks pc lv st s :=
  fun p e s0 m args below meth c H locs ls C hW hS hl => lv_iconst C.1 C.2.1 hd hv (k p e s0 m args below meth c H locs ls C hW hS hl)
theorem a_bipush {n : Int} {v : Int32} (hd : decode (mC M) pc = .ok (.bipush n, 2)) (hv : (Int8.ofInt n).toInt32 = v) (k : AW Z l M Post kc ks (pc + 2) lv (.int v :: st) s) : AW Z l M Post kc ks pc lv st s :=
  fun p e s0 m args below meth c H locs ls C hW hS hl => lv_bipush C.1 C.2.1 hd hv (k p e s0 m args below meth c H locs ls C hW hS hl)
theorem a_sipush {n : Int} {v : Int32} (hd : decode (mC M) pc = .ok (.sipush n, 3)) (hv : (Int16.ofInt n).toInt32 = v) (k : AW Z l M Post kc ks (pc + 3) lv (.int v :: st) s) : AW Z l M Post kc ks pc lv st s :=
  fun p e s0 m args below meth c H locs ls C hW hS hl => lv_sipush C.1 C.2.1 hd hv (k p e s0 m args below meth c H locs ls C hW hS hl)
theorem a_lconst {n : Fin 2} {v : Int64} (hd : decode (mC M) pc = .ok (.lconst n, 1)) (hv : Int64.ofNat (n : Nat) = v) (k : AW Z l M Post kc ks (pc + 1) lv (.long v :: st) s) : AW Z l M Post kc ks pc lv st s :=
  fun p e s0 m args below meth c H locs ls C hW hS hl => lv_lconst C.1 C.2.1 hd hv (k p e s0 m args below meth c H locs ls C hW hS hl)
theorem a_ldc {idx : Nat} {v : Int32} (hc : Cond.constant (mO M) idx v ∈ gtab) (hd : decode (mC M) pc = .ok (.ldc idx, 2)) (k : AW Z l M Post kc ks (pc + 2) lv (.int v :: st) s) : AW Z l M Post kc ks pc lv st s :=
  fun p e s0 m args below meth c H locs ls C hW hS hl => lv_ldc C.1 C.2.1 C.2.2.2.1 (C.2.2.2.2.1 _ hc) hd (k p e s0 m args below meth c H locs ls C hW hS hl)
theorem a_ldc2 {idx : Nat} {v : Int64} (hc : Cond.constantLong (mO M) idx v ∈ gtab) (hd : decode (mC M) pc = .ok (.ldc2_w idx, 3)) (k : AW Z l M Post kc ks (pc + 3) lv (.long v :: st) s) : AW Z l M Post kc ks pc lv st s :=
  fun p e s0 m args below meth c H locs ls C hW hS hl => lv_ldc2 C.1 C.2.1 C.2.2.2.1 (C.2.2.2.2.1 _ hc) hd (k p e s0 m args below meth c H locs ls C hW hS hl)
theorem a_iload_n {n : Fin 4} {i : Nat} {x : Int32} (hd : decode (mC M) pc = .ok (.iload_n n, 1)) (q : Nat) (hi : (n : Nat) = i) (hq : lv[q]? = some (i, .int x)) (k : AW Z l M Post kc ks (pc + 1) lv (.int x :: st) s) : AW Z l M Post kc ks pc lv st s :=
  fun p e s0 m args below meth c H locs ls C hW hS hl => lv_iload_n C.1 C.2.1 hd hi (lv_at hl q hq) (k p e s0 m args below meth c H locs ls C hW hS hl)
theorem a_iload {i : Nat} {x : Int32} (hd : decode (mC M) pc = .ok (.iload i, 2)) (q : Nat) (hq : lv[q]? = some (i, .int x)) (k : AW Z l M Post kc ks (pc + 2) lv (.int x :: st) s) : AW Z l M Post kc ks pc lv st s :=
  fun p e s0 m args below meth c H locs ls C hW hS hl => lv_iload C.1 C.2.1 hd (lv_at hl q hq) (k p e s0 m args below meth c H locs ls C hW hS hl)
theorem a_lload_n {n : Fin 4} {i : Nat} {x : Int64} (hd : decode (mC M) pc = .ok (.lload_n n, 1)) (q : Nat) (hi : (n : Nat) = i) (hq : lv[q]? = some (i, .long x)) (k : AW Z l M Post kc ks (pc + 1) lv (.long x :: st) s) : AW Z l M Post kc ks pc lv st s :=
  fun p e s0 m args below meth c H locs ls C hW hS hl => lv_lload_n C.1 C.2.1 hd hi (lv_at hl q hq) (k p e s0 m args below meth c H locs ls C hW hS hl)
theorem a_lload {i : Nat} {x : Int64} (hd : decode (mC M) pc = .ok (.lload i, 2)) (q : Nat) (hq : lv[q]? = some (i, .long x)) (k : AW Z l M Post kc ks (pc + 2) lv (.long x :: st) s) : AW Z l M Post kc ks pc lv st s :=
  fun p e s0 m args below meth c H locs ls C hW hS hl => lv_lload C.1 C.2.1 hd (lv_at hl q hq) (k p e s0 m args below meth c H locs ls C hW hS hl)
theorem a_aload_n {n : Fin 4} {i : Nat} {x : Nat} (hd : decode (mC M) pc = .ok (.aload_n n, 1)) (q : Nat) (hi : (n : Nat) = i) (hq : lv[q]? = some (i, .ref x)) (k : AW Z l M Post kc ks (pc + 1) lv (.ref x :: st) s) : AW Z l M Post kc ks pc lv st s :=
  fun p e s0 m args below meth c H locs ls C hW hS hl => lv_aload_n C.1 C.2.1 hd hi (lv_at hl q hq) (k p e s0 m args below meth c H locs ls C hW hS hl)
theorem a_aload {i : Nat} {x : Nat} (hd : decode (mC M) pc = .ok (.aload i, 2)) (q : Nat) (hq : lv[q]? = some (i, .ref x)) (k : AW Z l M Post kc ks (pc + 2) lv (.ref x :: st) s) : AW Z l M Post kc ks pc lv st s :=
  fun p e s0 m args below meth c H locs ls C hW hS hl => lv_aload C.1 C.2.1 hd (lv_at hl q hq) (k p e s0 m args below meth c H locs ls C hW hS hl)
theorem a_istore_n {n : Fin 4} {i : Nat} {x : Int32} (lv' : List (Nat × Value)) (hd : decode (mC M) pc = .ok (.istore_n n, 1)) (hi : (n : Nat) = i) (hn : i < mL M) (hl' : (i, Value.int x) :: lv.filter (fun q => !(q.1 == i) && !(q.1 + 1 == i && q.2.category == 2)) = lv') (k : AW Z l M Post kc ks (pc + 1) lv' st s) : AW Z l M Post kc ks pc lv (.int x :: st) s :=
  fun p e s0 m args below meth c H locs ls C hW hS hl => lv_istore_n C.1 C.2.1 hd hi hl hn hl' (fun ls' h' => k p e s0 m args below meth c H locs ls' C hW hS h')
theorem a_istore {i : Nat} {x : Int32} (lv' : List (Nat × Value)) (hd : decode (mC M) pc = .ok (.istore i, 2)) (hn : i < mL M) (hl' : (i, Value.int x) :: lv.filter (fun q => !(q.1 == i) && !(q.1 + 1 == i && q.2.category == 2)) = lv') (k : AW Z l M Post kc ks (pc + 2) lv' st s) : AW Z l M Post kc ks pc lv (.int x :: st) s :=
  fun p e s0 m args below meth c H locs ls C hW hS hl => lv_istore C.1 C.2.1 hd hl hn hl' (fun ls' h' => k p e s0 m args below meth c H locs ls' C hW hS h')
theorem a_lstore_n {n : Fin 4} {i : Nat} {x : Int64} (lv' : List (Nat × Value)) (hd : decode (mC M) pc = .ok (.lstore_n n, 1)) (hi : (n : Nat) = i) (hn : i + 1 < mL M) (hl' : (i, Value.long x) :: lv.filter (fun q => !(q.1 == i) && (!(q.1 == i + 1) && !(q.1 + 1 == i && q.2.category == 2))) = lv') (k : AW Z l M Post kc ks (pc + 1) lv' st s) : AW Z l M Post kc ks pc lv (.long x :: st) s :=
  fun p e s0 m args below meth c H locs ls C hW hS hl => lv_lstore_n C.1 C.2.1 hd hi hl hn hl' (fun ls' h' => k p e s0 m args below meth c H locs ls' C hW hS h')
theorem a_astore_n {n : Fin 4} {i : Nat} {x : Nat} (lv' : List (Nat × Value)) (hd : decode (mC M) pc = .ok (.astore_n n, 1)) (hi : (n : Nat) = i) (hn : i < mL M) (hl' : (i, Value.ref x) :: lv.filter (fun q => !(q.1 == i) && !(q.1 + 1 == i && q.2.category == 2)) = lv') (k : AW Z l M Post kc ks (pc + 1) lv' st s) : AW Z l M Post kc ks pc lv (.ref x :: st) s :=
  fun p e s0 m args below meth c H locs ls C hW hS hl => lv_astore_n C.1 C.2.1 hd hi hl hn hl' (fun ls' h' => k p e s0 m args below meth c H locs ls' C hW hS h')
theorem a_astore {i : Nat} {x : Nat} (lv' : List (Nat × Value)) (hd : decode (mC M) pc = .ok (.astore i, 2)) (hn : i < mL M) (hl' : (i, Value.ref x) :: lv.filter (fun q => !(q.1 == i) && !(q.1 + 1 == i && q.2.category == 2)) = lv') (k : AW Z l M Post kc ks (pc + 2) lv' st s) : AW Z l M Post kc ks pc lv (.ref x :: st) s :=
  fun p e s0 m args below meth c H locs ls C hW hS hl => lv_astore C.1 C.2.1 hd hl hn hl' (fun ls' h' => k p e s0 m args below meth c H locs ls' C hW hS h')
theorem a_iinc {i : Nat} {n : Int} {x v : Int32} (lv' : List (Nat × Value)) (hd : decode (mC M) pc = .ok (.iinc i n, 3)) (q : Nat) (hq : lv[q]? = some (i, .int x)) (hv : x + Int32.ofInt n = v) (hn : i < mL M) (hl' : (i, Value.int v) :: lv.filter (fun q => !(q.1 == i) && !(q.1 + 1 == i && q.2.category == 2)) = lv') (k : AW Z l M Post kc ks (pc + 3) lv' st s) : AW Z l M Post kc ks pc lv st s :=
  fun p e s0 m args below meth c H locs ls C hW hS hl => lv_iinc C.1 C.2.1 hd hl hq hv hn hl' (fun ls' h' => k p e s0 m args below meth c H locs ls' C hW hS h')
/-- the locals in another order, or fewer of them -/
theorem a_loc (lv' : List (Nat × Value)) (qs : List Nat) (h : lv_pick lv qs = lv') (k : AW Z l M Post kc ks pc lv' st s) : AW Z l M Post kc ks pc lv st s :=
  fun p e s0 m args below meth c H locs ls C hW hS hl => k p e s0 m args below meth c H locs ls C hW hS (lv_sub hl qs h)
theorem a_eq {st' : List Value} {s' : St} (h1 : st = st') (h2 : s = s') (k : AW Z l M Post kc ks pc lv st' s') : AW Z l M Post kc ks pc lv st s := by
  subst h1
  subst h2
  exact k
theorem a_iadd {x y : Int32} (hd : decode (mC M) pc = .ok (.iadd, 1))  (k : AW Z l M Post kc ks (pc + 1) lv (.int (x + y) :: st) s) : AW Z l M Post kc ks pc lv (.int y :: .int x :: st) s :=
  fun p e s0 m args below meth c H locs ls C hW hS hl => lv_iadd C.1 C.2.1 hd  (k p e s0 m args below meth c H locs ls C hW hS hl)
theorem a_isub {x y : Int32} (hd : decode (mC M) pc = .ok (.isub, 1))  (k : AW Z l M Post kc ks (pc + 1) lv (.int (x - y) :: st) s) : AW Z l M Post kc ks pc lv (.int y :: .int x :: st) s :=
  fun p e s0 m args below meth c H locs ls C hW hS hl => lv_isub C.1 C.2.1 hd  (k p e s0 m args below meth c H locs ls C hW hS hl)
theorem a_imul {x y : Int32} (hd : decode (mC M) pc = .ok (.imul, 1))  (k : AW Z l M Post kc ks (pc + 1) lv (.int (x * y) :: st) s) : AW Z l M Post kc ks pc lv (.int y :: .int x :: st) s :=
  fun p e s0 m args below meth c H locs ls C hW hS hl => lv_imul C.1 C.2.1 hd  (k p e s0 m args below meth c H locs ls C hW hS hl)
theorem a_iand {x y : Int32} (hd : decode (mC M) pc = .ok (.iand, 1))  (k : AW Z l M Post kc ks (pc + 1) lv (.int (x &&& y) :: st) s) : AW Z l M Post kc ks pc lv (.int y :: .int x :: st) s :=
  fun p e s0 m args below meth c H locs ls C hW hS hl => lv_iand C.1 C.2.1 hd  (k p e s0 m args below meth c H locs ls C hW hS hl)
theorem a_ior {x y : Int32} (hd : decode (mC M) pc = .ok (.ior, 1))  (k : AW Z l M Post kc ks (pc + 1) lv (.int (x ||| y) :: st) s) : AW Z l M Post kc ks pc lv (.int y :: .int x :: st) s :=
  fun p e s0 m args below meth c H locs ls C hW hS hl => lv_ior C.1 C.2.1 hd  (k p e s0 m args below meth c H locs ls C hW hS hl)
theorem a_ixor {x y : Int32} (hd : decode (mC M) pc = .ok (.ixor, 1))  (k : AW Z l M Post kc ks (pc + 1) lv (.int (x ^^^ y) :: st) s) : AW Z l M Post kc ks pc lv (.int y :: .int x :: st) s :=
  fun p e s0 m args below meth c H locs ls C hW hS hl => lv_ixor C.1 C.2.1 hd  (k p e s0 m args below meth c H locs ls C hW hS hl)
theorem a_ishl {x y : Int32} (hd : decode (mC M) pc = .ok (.ishl, 1))  (k : AW Z l M Post kc ks (pc + 1) lv (.int (x <<< (y &&& 31)) :: st) s) : AW Z l M Post kc ks pc lv (.int y :: .int x :: st) s :=
  fun p e s0 m args below meth c H locs ls C hW hS hl => lv_ishl C.1 C.2.1 hd  (k p e s0 m args below meth c H locs ls C hW hS hl)
theorem a_ishr {x y : Int32} (hd : decode (mC M) pc = .ok (.ishr, 1))  (k : AW Z l M Post kc ks (pc + 1) lv (.int (x >>> (y &&& 31)) :: st) s) : AW Z l M Post kc ks pc lv (.int y :: .int x :: st) s :=
  fun p e s0 m args below meth c H locs ls C hW hS hl => lv_ishr C.1 C.2.1 hd  (k p e s0 m args below meth c H locs ls C hW hS hl)
theorem a_idiv {x y : Int32} (hd : decode (mC M) pc = .ok (.idiv, 1)) (hne : ¬ y = 0) (k : AW Z l M Post kc ks (pc + 1) lv (.int (x / y) :: st) s) : AW Z l M Post kc ks pc lv (.int y :: .int x :: st) s :=
  fun p e s0 m args below meth c H locs ls C hW hS hl => lv_idiv C.1 C.2.1 hd hne (k p e s0 m args below meth c H locs ls C hW hS hl)
theorem a_irem {x y : Int32} (hd : decode (mC M) pc = .ok (.irem, 1)) (hne : ¬ y = 0) (k : AW Z l M Post kc ks (pc + 1) lv (.int (x - x / y * y) :: st) s) : AW Z l M Post kc ks pc lv (.int y :: .int x :: st) s :=
  fun p e s0 m args below meth c H locs ls C hW hS hl => lv_irem C.1 C.2.1 hd hne (k p e s0 m args below meth c H locs ls C hW hS hl)
theorem a_ladd {x y : Int64} (hd : decode (mC M) pc = .ok (.ladd, 1))  (k : AW Z l M Post kc ks (pc + 1) lv (.long (x + y) :: st) s) : AW Z l M Post kc ks pc lv (.long y :: .long x :: st) s :=
  fun p e s0 m args below meth c H locs ls C hW hS hl => lv_ladd C.1 C.2.1 hd  (k p e s0 m args below meth c H locs ls C hW hS hl)
theorem a_lsub {x y : Int64} (hd : decode (mC M) pc = .ok (.lsub, 1))  (k : AW Z l M Post kc ks (pc + 1) lv (.long (x - y) :: st) s) : AW Z l M Post kc ks pc lv (.long y :: .long x :: st) s :=
  fun p e s0 m args below meth c H locs ls C hW hS hl => lv_lsub C.1 C.2.1 hd  (k p e s0 m args below meth c H locs ls C hW hS hl)
theorem a_lmul {x y : Int64} (hd : decode (mC M) pc = .ok (.lmul, 1))  (k : AW Z l M Post kc ks (pc + 1) lv (.long (x * y) :: st) s) : AW Z l M Post kc ks pc lv (.long y :: .long x :: st) s :=
  fun p e s0 m args below meth c H locs ls C hW hS hl => lv_lmul C.1 C.2.1 hd  (k p e s0 m args below meth c H locs ls C hW hS hl)
theorem a_land {x y : Int64} (hd : decode (mC M) pc = .ok (.land, 1))  (k : AW Z l M Post kc ks (pc + 1) lv (.long (x &&& y) :: st) s) : AW Z l M Post kc ks pc lv (.long y :: .long x :: st) s :=
  fun p e s0 m args below meth c H locs ls C hW hS hl => lv_land C.1 C.2.1 hd  (k p e s0 m args below meth c H locs ls C hW hS hl)
theorem a_lor {x y : Int64} (hd : decode (mC M) pc = .ok (.lor, 1))  (k : AW Z l M Post kc ks (pc + 1) lv (.long (x ||| y) :: st) s) : AW Z l M Post kc ks pc lv (.long y :: .long x :: st) s :=
  fun p e s0 m args below meth c H locs ls C hW hS hl => lv_lor C.1 C.2.1 hd  (k p e s0 m args below meth c H locs ls C hW hS hl)
theorem a_ineg {x : Int32} (hd : decode (mC M) pc = .ok (.ineg, 1))  (k : AW Z l M Post kc ks (pc + 1) lv (.int (-x) :: st) s) : AW Z l M Post kc ks pc lv (.int x :: st) s :=
  fun p e s0 m args below meth c H locs ls C hW hS hl => lv_ineg C.1 C.2.1 hd  (k p e s0 m args below meth c H locs ls C hW hS hl)
theorem a_lneg {x : Int64} (hd : decode (mC M) pc = .ok (.lneg, 1))  (k : AW Z l M Post kc ks (pc + 1) lv (.long (-x) :: st) s) : AW Z l M Post kc ks pc lv (.long x :: st) s :=
  fun p e s0 m args below meth c H locs ls C hW hS hl => lv_lneg C.1 C.2.1 hd  (k p e s0 m args below meth c H locs ls C hW hS hl)
theorem a_lcmp {x y : Int64} (hd : decode (mC M) pc = .ok (.lcmp, 1))  (k : AW Z l M Post kc ks (pc + 1) lv (.int (lg_cmp x y) :: st) s) : AW Z l M Post kc ks pc lv (.long y :: .long x :: st) s :=
  fun p e s0 m args below meth c H locs ls C hW hS hl => W.lcmp C.1 C.2.1 hd  (k p e s0 m args below meth c H locs ls C hW hS hl)
theorem a_i2l {x : Int32} (hd : decode (mC M) pc = .ok (.i2l, 1))  (k : AW Z l M Post kc ks (pc + 1) lv (.long x.toInt64 :: st) s) : AW Z l M Post kc ks pc lv (.int x :: st) s :=
  fun p e s0 m args below meth c H locs ls C hW hS hl => lv_i2l C.1 C.2.1 hd rfl (k p e s0 m args below meth c H locs ls C hW hS hl)
theorem a_l2i {x : Int64} (hd : decode (mC M) pc = .ok (.l2i, 1))  (k : AW Z l M Post kc ks (pc + 1) lv (.int x.toInt32 :: st) s) : AW Z l M Post kc ks pc lv (.long x :: st) s :=
  fun p e s0 m args below meth c H locs ls C hW hS hl => lv_l2i C.1 C.2.1 hd rfl (k p e s0 m args below meth c H locs ls C hW hS hl)
theorem a_i2b {x : Int32} (hd : decode (mC M) pc = .ok (.i2b, 1))  (k : AW Z l M Post kc ks (pc + 1) lv (.int x.toInt8.toInt32 :: st) s) : AW Z l M Post kc ks pc lv (.int x :: st) s :=
  fun p e s0 m args below meth c H locs ls C hW hS hl => lv_i2b C.1 C.2.1 hd rfl (k p e s0 m args below meth c H locs ls C hW hS hl)
theorem a_i2s {x : Int32} (hd : decode (mC M) pc = .ok (.i2s, 1))  (k : AW Z l M Post kc ks (pc + 1) lv (.int x.toInt16.toInt32 :: st) s) : AW Z l M Post kc ks pc lv (.int x :: st) s :=
  fun p e s0 m args below meth c H locs ls C hW hS hl => lv_i2s C.1 C.2.1 hd rfl (k p e s0 m args below meth c H locs ls C hW hS hl)
theorem a_lshl {x : Int64} {y : Int32} (hd : decode (mC M) pc = .ok (.lshl, 1))  (k : AW Z l M Post kc ks (pc + 1) lv (.long (x <<< (y.toInt64 &&& 63)) :: st) s) : AW Z l M Post kc ks pc lv (.int y :: .long x :: st) s :=
  fun p e s0 m args below meth c H locs ls C hW hS hl => lv_lshl C.1 C.2.1 hd rfl (k p e s0 m args below meth c H locs ls C hW hS hl)
theorem a_lshr {x : Int64} {y : Int32} (hd : decode (mC M) pc = .ok (.lshr, 1))  (k : AW Z l M Post kc ks (pc + 1) lv (.long (x >>> (y.toInt64 &&& 63)) :: st) s) : AW Z l M Post kc ks pc lv (.int y :: .long x :: st) s :=
  fun p e s0 m args below meth c H locs ls C hW hS hl => lv_lshr C.1 C.2.1 hd rfl (k p e s0 m args below meth c H locs ls C hW hS hl)
theorem a_dup {va : Value} (hd : decode (mC M) pc = .ok (.dup, 1)) (h1 : va.category = 1) (k : AW Z l M Post kc ks (pc + 1) lv (va :: va :: st) s) : AW Z l M Post kc ks pc lv (va :: st) s :=
  fun p e s0 m args below meth c H locs ls C hW hS hl => lv_dup C.1 C.2.1 hd h1 (k p e s0 m args below meth c H locs ls C hW hS hl)
theorem a_pop {va : Value} (hd : decode (mC M) pc = .ok (.pop, 1)) (h1 : va.category = 1) (k : AW Z l M Post kc ks (pc + 1) lv (st) s) : AW Z l M Post kc ks pc lv (va :: st) s :=
  fun p e s0 m args below meth c H locs ls C hW hS hl => lv_pop C.1 C.2.1 hd h1 (k p e s0 m args below meth c H locs ls C hW hS hl)
theorem a_dup_x1 {va vb : Value} (hd : decode (mC M) pc = .ok (.dup_x1, 1)) (h1 : va.category = 1) (h2 : vb.category = 1) (k : AW Z l M Post kc ks (pc + 1) lv (va :: vb :: va :: st) s) : AW Z l M Post kc ks pc lv (va :: vb :: st) s :=
  fun p e s0 m args below meth c H locs ls C hW hS hl => lv_dup_x1 C.1 C.2.1 hd h1 h2 (k p e s0 m args below meth c H locs ls C hW hS hl)
theorem a_dup_x2 {va vb vd : Value} (hd : decode (mC M) pc = .ok (.dup_x2, 1)) (h1 : va.category = 1) (h2 : vb.category = 1) (h3 : vd.category = 1) (k : AW Z l M Post kc ks (pc + 1) lv (va :: vb :: vd :: va :: st) s) : AW Z l M Post kc ks pc lv (va :: vb :: vd :: st) s :=
  fun p e s0 m args below meth c H locs ls C hW hS hl => lv_dup_x2 C.1 C.2.1 hd h1 h2 h3 (k p e s0 m args below meth c H locs ls C hW hS hl)
theorem a_dup2 {va vb : Value} (hd : decode (mC M) pc = .ok (.dup2, 1)) (h1 : va.category = 1) (h2 : vb.category = 1) (k : AW Z l M Post kc ks (pc + 1) lv (va :: vb :: va :: vb :: st) s) : AW Z l M Post kc ks pc lv (va :: vb :: st) s :=
  fun p e s0 m args below meth c H locs ls C hW hS hl => lv_dup2_11 C.1 C.2.1 hd h1 h2 (k p e s0 m args below meth c H locs ls C hW hS hl)
theorem a_goto {off : Int} (tgt : Nat) (hd : decode (mC M) pc = .ok (.goto off, 3)) (ht : (pc : Int) + off = (tgt : Int)) (k : AW Z l M Post kc ks tgt lv st s) : AW Z l M Post kc ks pc lv st s :=
  fun p e s0 m args below meth c H locs ls C hW hS hl => lv_goto C.1 C.2.1 hd ht (k p e s0 m args below meth c H locs ls C hW hS hl)
theorem a_if_eq {x : Int32} {off : Int} (tgt : Nat) (hd : decode (mC M) pc = .ok (.ifCond .eq off, 3)) (ht : (pc : Int) + off = (tgt : Int)) (kt : x = 0 → AW Z l M Post kc ks tgt lv st s) (kf : ¬ x = 0 → AW Z l M Post kc ks (pc + 3) lv st s) : AW Z l M Post kc ks pc lv (.int x :: st) s :=
  fun p e s0 m args below meth c H locs ls C hW hS hl => lv_if_eq C.1 C.2.1 hd ht (fun q => kt q p e s0 m args below meth c H locs ls C hW hS hl) (fun q => kf q p e s0 m args below meth c H locs ls C hW hS hl)
theorem a_if_ne {x : Int32} {off : Int} (tgt : Nat) (hd : decode (mC M) pc = .ok (.ifCond .ne off, 3)) (ht : (pc : Int) + off = (tgt : Int)) (kt : ¬ x = 0 → AW Z l M Post kc ks tgt lv st s) (kf : x = 0 → AW Z l M Post kc ks (pc + 3) lv st s) : AW Z l M Post kc ks pc lv (.int x :: st) s :=
  fun p e s0 m args below meth c H locs ls C hW hS hl => lv_if_ne C.1 C.2.1 hd ht (fun q => kt q p e s0 m args below meth c H locs ls C hW hS hl) (fun q => kf q p e s0 m args below meth c H locs ls C hW hS hl)
theorem a_if_lt {x : Int32} {off : Int} (tgt : Nat) (hd : decode (mC M) pc = .ok (.ifCond .lt off, 3)) (ht : (pc : Int) + off = (tgt : Int)) (kt : x < 0 → AW Z l M Post kc ks tgt lv st s) (kf : ¬ x < 0 → AW Z l M Post kc ks (pc + 3) lv st s) : AW Z l M Post kc ks pc lv (.int x :: st) s :=
  fun p e s0 m args below meth c H locs ls C hW hS hl => lv_if_lt C.1 C.2.1 hd ht (fun q => kt q p e s0 m args below meth c H locs ls C hW hS hl) (fun q => kf q p e s0 m args below meth c H locs ls C hW hS hl)
theorem a_if_ge {x : Int32} {off : Int} (tgt : Nat) (hd : decode (mC M) pc = .ok (.ifCond .ge off, 3)) (ht : (pc : Int) + off = (tgt : Int)) (kt : 0 ≤ x → AW Z l M Post kc ks tgt lv st s) (kf : ¬ 0 ≤ x → AW Z l M Post kc ks (pc + 3) lv st s) : AW Z l M Post kc ks pc lv (.int x :: st) s :=
  fun p e s0 m args below meth c H locs ls C hW hS hl => lv_if_ge C.1 C.2.1 hd ht (fun q => kt q p e s0 m args below meth c H locs ls C hW hS hl) (fun q => kf q p e s0 m args below meth c H locs ls C hW hS hl)
theorem a_if_gt {x : Int32} {off : Int} (tgt : Nat) (hd : decode (mC M) pc = .ok (.ifCond .gt off, 3)) (ht : (pc : Int) + off = (tgt : Int)) (kt : 0 < x → AW Z l M Post kc ks tgt lv st s) (kf : ¬ 0 < x → AW Z l M Post kc ks (pc + 3) lv st s) : AW Z l M Post kc ks pc lv (.int x :: st) s :=
  fun p e s0 m args below meth c H locs ls C hW hS hl => lv_if_gt C.1 C.2.1 hd ht (fun q => kt q p e s0 m args below meth c H locs ls C hW hS hl) (fun q => kf q p e s0 m args below meth c H locs ls C hW hS hl)
theorem a_if_le {x : Int32} {off : Int} (tgt : Nat) (hd : decode (mC M) pc = .ok (.ifCond .le off, 3)) (ht : (pc : Int) + off = (tgt : Int)) (kt : x ≤ 0 → AW Z l M Post kc ks tgt lv st s) (kf : ¬ x ≤ 0 → AW Z l M Post kc ks (pc + 3) lv st s) : AW Z l M Post kc ks pc lv (.int x :: st) s :=
  fun p e s0 m args below meth c H locs ls C hW hS hl => lv_if_le C.1 C.2.1 hd ht (fun q => kt q p e s0 m args below meth c H locs ls C hW hS hl) (fun q => kf q p e s0 m args below meth c H locs ls C hW hS hl)
theorem a_icmp_eq {x y : Int32} {off : Int} (tgt : Nat) (hd : decode (mC M) pc = .ok (.if_icmp .eq off, 3)) (ht : (pc : Int) + off = (tgt : Int)) (kt : x = y → AW Z l M Post kc ks tgt lv st s) (kf : ¬ x = y → AW Z l M Post kc ks (pc + 3) lv st s) : AW Z l M Post kc ks pc lv (.int y :: .int x :: st) s :=
  fun p e s0 m args below meth c H locs ls C hW hS hl => lv_icmp_eq C.1 C.2.1 hd ht (fun q => kt q p e s0 m args below meth c H locs ls C hW hS hl) (fun q => kf q p e s0 m args below meth c H locs ls C hW hS hl)
theorem a_icmp_ne {x y : Int32} {off : Int} (tgt : Nat) (hd : decode (mC M) pc = .ok (.if_icmp .ne off, 3)) (ht : (pc : Int) + off = (tgt : Int)) (kt : ¬ x = y → AW Z l M Post kc ks tgt lv st s) (kf : x = y → AW Z l M Post kc ks (pc + 3) lv st s) : AW Z l M Post kc ks pc lv (.int y :: .int x :: st) s :=
  fun p e s0 m args below meth c H locs ls C hW hS hl => lv_icmp_ne C.1 C.2.1 hd ht (fun q => kt q p e s0 m args below meth c H locs ls C hW hS hl) (fun q => kf q p e s0 m args below meth c H locs ls C hW hS hl)
theorem a_icmp_lt {x y : Int32} {off : Int} (tgt : Nat) (hd : decode (mC M) pc = .ok (.if_icmp .lt off, 3)) (ht : (pc : Int) + off = (tgt : Int)) (kt : x < y → AW Z l M Post kc ks tgt lv st s) (kf : ¬ x < y → AW Z l M Post kc ks (pc + 3) lv st s) : AW Z l M Post kc ks pc lv (.int y :: .int x :: st) s :=
  fun p e s0 m args below meth c H locs ls C hW hS hl => lv_icmp_lt C.1 C.2.1 hd ht (fun q => kt q p e s0 m args below meth c H locs ls C hW hS hl) (fun q => kf q p e s0 m args below meth c H locs ls C hW hS hl)
theorem a_icmp_ge {x y : Int32} {off : Int} (tgt : Nat) (hd : decode (mC M) pc = .ok (.if_icmp .ge off, 3)) (ht : (pc : Int) + off = (tgt : Int)) (kt : y ≤ x → AW Z l M Post kc ks tgt lv st s) (kf : ¬ y ≤ x → AW Z l M Post kc ks (pc + 3) lv st s) : AW Z l M Post kc ks pc lv (.int y :: .int x :: st) s :=
  fun p e s0 m args below meth c H locs ls C hW hS hl => lv_icmp_ge C.1 C.2.1 hd ht (fun q => kt q p e s0 m args below meth c H locs ls C hW hS hl) (fun q => kf q p e s0 m args below meth c H locs ls C hW hS hl)
theorem a_icmp_gt {x y : Int32} {off : Int} (tgt : Nat) (hd : decode (mC M) pc = .ok (.if_icmp .gt off, 3)) (ht : (pc : Int) + off = (tgt : Int)) (kt : y < x → AW Z l M Post kc ks tgt lv st s) (kf : ¬ y < x → AW Z l M Post kc ks (pc + 3) lv st s) : AW Z l M Post kc ks pc lv (.int y :: .int x :: st) s :=
  fun p e s0 m args below meth c H locs ls C hW hS hl => lv_icmp_gt C.1 C.2.1 hd ht (fun q => kt q p e s0 m args below meth c H locs ls C hW hS hl) (fun q => kf q p e s0 m args below meth c H locs ls C hW hS hl)
theorem a_icmp_le {x y : Int32} {off : Int} (tgt : Nat) (hd : decode (mC M) pc = .ok (.if_icmp .le off, 3)) (ht : (pc : Int) + off = (tgt : Int)) (kt : x ≤ y → AW Z l M Post kc ks tgt lv st s) (kf : ¬ x ≤ y → AW Z l M Post kc ks (pc + 3) lv st s) : AW Z l M Post kc ks pc lv (.int y :: .int x :: st) s :=
  fun p e s0 m args below meth c H locs ls C hW hS hl => lv_icmp_le C.1 C.2.1 hd ht (fun q => kt q p e s0 m args below meth c H locs ls C hW hS hl) (fun q => kf q p e s0 m args below meth c H locs ls C hW hS hl)
theorem a_tableOut {dflt lo hi : Int} {offs : Array Int} {len : Nat} {x : Int32} (tgt : Nat) (hd : decode (mC M) pc = .ok (.tableswitch dflt lo hi offs, len)) (h : x.toInt < lo ∨ hi < x.toInt) (ht : (pc : Int) + dflt = (tgt : Int)) (k : AW Z l M Post kc ks tgt lv st s) : AW Z l M Post kc ks pc lv (.int x :: st) s :=
  fun p e s0 m args below meth c H locs ls C hW hS hl => lv_tableOut C.1 C.2.1 hd h ht (k p e s0 m args below meth c H locs ls C hW hS hl)
theorem a_tableIn {dflt lo hi : Int} {offs : Array Int} {len : Nat} {x : Int32} {off : Int} (tgt : Nat) (hd : decode (mC M) pc = .ok (.tableswitch dflt lo hi offs, len)) (h1 : ¬ x.toInt < lo) (h2 : ¬ hi < x.toInt) (ho : offs[(x.toInt - lo).toNat]? = some off) (ht : (pc : Int) + off = (tgt : Int)) (k : AW Z l M Post kc ks tgt lv st s) : AW Z l M Post kc ks pc lv (.int x :: st) s :=
  fun p e s0 m args below meth c H locs ls C hW hS hl => lv_tableIn C.1 C.2.1 hd h1 h2 ho ht (k p e s0 m args below meth c H locs ls C hW hS hl)
theorem a_iret {v : Int32} (hr : mT M = some .int) (h1 : kc ≤ mK M) (h2 : ks ≤ mN M) (hd : decode (mC M) pc = .ok (.ireturn, 1)) (hp : Post (some (.int v)) s) : AW Z l M Post kc ks pc lv [.int v] s :=
  fun p e s0 m args below meth c H locs ls C hW hS hl => by
    have hlocks : meth.locks = false := C.2.2.2.2.2.2.1
    exact W.widen h1 h2 (W.iret C.1 C.2.1 (C.2.2.2.2.2.1.trans hr) (fun t ht _ => ⟨_, s, rfl, hp, by rw [ht]; exact hW, hS.F ht⟩) hS.2.2 hd)
theorem a_zret {v : Int32} (hr : mT M = some .boolean) (hv : narrow .boolean (.int v) = .int v) (h1 : kc ≤ mK M) (h2 : ks ≤ mN M) (hd : decode (mC M) pc = .ok (.ireturn, 1)) (hp : Post (some (.int v)) s) : AW Z l M Post kc ks pc lv [.int v] s :=
  fun p e s0 m args below meth c H locs ls C hW hS hl => by
    have hlocks : meth.locks = false := C.2.2.2.2.2.2.1
    exact W.widen h1 h2 (W.zret C.1 C.2.1 (C.2.2.2.2.2.1.trans hr) hv (fun t ht _ => ⟨_, s, rfl, hp, by rw [ht]; exact hW, hS.F ht⟩) hS.2.2 hd)
theorem a_lret {v : Int64} (hr : mT M = some .long) (h1 : kc ≤ mK M) (h2 : ks ≤ mN M) (hd : decode (mC M) pc = .ok (.lreturn, 1)) (hp : Post (some (.long v)) s) : AW Z l M Post kc ks pc lv [.long v] s :=
  fun p e s0 m args below meth c H locs ls C hW hS hl => by
    have hlocks : meth.locks = false := C.2.2.2.2.2.2.1
    exact W.widen h1 h2 (W.lret C.1 C.2.1 (C.2.2.2.2.2.1.trans hr) (fun t ht _ => ⟨_, s, rfl, hp, by rw [ht]; exact hW, hS.F ht⟩) hS.2.2 hd)
theorem a_vret (hr : mT M = none) (h1 : kc ≤ mK M) (h2 : ks ≤ mN M) (hd : decode (mC M) pc = .ok (.return_, 1)) (hp : Post none s) : AW Z l M Post kc ks pc lv [] s :=
  fun p e s0 m args below meth c H locs ls C hW hS hl => by
    have hlocks : meth.locks = false := C.2.2.2.2.2.2.1
    exact W.widen h1 h2 (W.vret C.1 C.2.1 (C.2.2.2.2.2.1.trans hr) (fun t ht _ => ⟨_, s, rfl, hp, by rw [ht]; exact hW, hS.F ht⟩) hS.2.2 hd)
theorem one_at {D : va_G} {q : Nat × va_E} {H : Heap} (h : va_at D vwCl q H) : va_P D vwCl [q] H := fun k x hx => by
  have h0 : k < 1 := (List.getElem?_eq_some_iff.mp hx).1
  rw [show k = 0 by omega] at hx
  cases hx
  exact h
/-- a field, as the constant pool of the class 'own' names it at idx: place j of an object of sort t -/
def FL (own : String) (idx t j : Nat) (ty : FieldType) (fin : Bool) : Prop := ∃ (ci n : Nat) (C : String) (T : u_T) (ty0 : Nat → FieldType), shO t = some (ci, n) ∧ j < n ∧ vwCl[ci]? = some (C, T, n) ∧ (∀ w ∈ u_ws C T n, w ∈ gtab) ∧ Cond.fieldLink own idx (T j).1 (T j).2.1 (T j).2.2.1 ∈ gtab ∧
  (∀ k, k < n → parseFieldDescriptor (T k).2.2.1 = some (ty0 k)) ∧ (∀ a, a < n → ∀ b, b < n → a ≠ b → (T a).2.1 ≠ (T b).2.1) ∧ (T j).2.2.2 = fin ∧ parseFieldDescriptor (T j).2.2.1 = some ty
theorem a_get (hZ : OkZ Z) {t k j idx : Nat} {ty : FieldType} {fin : Bool} (hx : zx Z t k) (hf : FL (mO M) idx t j ty fin) (hd : decode (mC M) pc = .ok (.getfield idx, 3)) (kk : AW Z l M Post kc ks (pc + 3) lv (fvl Z s t k j :: st) s) : AW Z l M Post kc ks pc lv (.ref (za Z t k) :: st) s :=
  fun p e s0 m args below meth c H locs ls C hW hS hl => by
    obtain ⟨ci, n, Cn, T, ty0, hO, hj, hc, hin, hlink, -⟩ := hf
    have hP := one_at (hZ.1 s H t k hx hW)
    rw [cel_O hO] at hP
    exact va_get (D := zD Z) (cl := vwCl) (C := Cn) (T := T) (N := n) (ci := ci) (ref := (T j).1) (fs := (List.range n).map (fvl Z s t k)) (v := fvl Z s t k j) C.1 C.2.1 C.2.2.2.2.1 hin C.2.2.2.1 C.2.2.2.2.2.2.2.1 hP 0 rfl hc j hj (C.2.2.2.2.1 _ hlink) (fun _ h9 => h9) (by simp [hj]) hd (kk p e s0 m args below meth c H locs ls C hW hS hl)
theorem a_getI (hZ : OkZ Z) {t k j idx : Nat} {ty : FieldType} {fin : Bool} (x : Int32) (hx : zx Z t k) (hf : FL (mO M) idx t j ty fin) (hF : shF t j = none) (hv : s t k j = x) (hd : decode (mC M) pc = .ok (.getfield idx, 3)) (kk : AW Z l M Post kc ks (pc + 3) lv (.int x :: st) s) : AW Z l M Post kc ks pc lv (.ref (za Z t k) :: st) s :=
  a_get hZ hx hf hd (by unfold fvl; rw [hF]; subst hv; exact kk)
theorem a_getR (hZ : OkZ Z) {t k j idx u : Nat} {b : Bool} {ty : FieldType} {fin : Bool} (hx : zx Z t k) (hf : FL (mO M) idx t j ty fin) (hF : shF t j = some (u, b)) (k2 : Nat) (hk : (if b = true then k else 0) = k2) (hd : decode (mC M) pc = .ok (.getfield idx, 3)) (kk : AW Z l M Post kc ks (pc + 3) lv (.ref (za Z u k2) :: st) s) : AW Z l M Post kc ks pc lv (.ref (za Z t k) :: st) s :=
  a_get hZ hx hf hd (by unfold fvl; rw [hF]; subst hk; exact kk)
theorem fvl_up {t k j n : Nat} {x : Int32} (hF : shF t j = none) (hj : j < n) : (List.range n).map (fvl Z (up s t k j x) t k) = ((List.range n).map (fvl Z s t k)).set j (.int x) := by
  apply List.ext_getElem?
  intro i
  by_cases hi : i = j
  · subst hi
    rw [List.getElem?_set_self (by simp [hj])]
    simp [hj, fvl, hF, up_at]
  · rw [List.getElem?_set_ne (Ne.symm hi)]
    by_cases hn : i < n
    · simp only [List.getElem?_map, List.getElem?_range hn, Option.map_some]
      unfold fvl
      cases shF t i with
      | none => simp only [up_off hi]
      | some q => rfl
    · simp [hn]
theorem a_put (hZ : OkZ Z) {t k j idx : Nat} {ty : FieldType} {x : Int32} (hx : zx Z t k) (hf : FL (mO M) idx t j ty false) (hF : shF t j = none) (hn : narrow ty (.int x) = .int x) (hfit : fits ty (.int x) = true) (hd : decode (mC M) pc = .ok (.putfield idx, 3)) (kk : AW Z l M Post kc ks (pc + 3) lv st (up s t k j x)) : AW Z l M Post kc ks pc lv (.int x :: .ref (za Z t k) :: st) s :=
  fun p e s0 m args below meth c H locs ls C hW hS hl => by
    obtain ⟨ci, n, Cn, T, ty0, hO, hj, hc, hin, hlink, hty, hnm, hfin, hpt⟩ := hf
    have hat := hZ.1 s H t k hx hW
    rw [cel_O hO] at hat
    have hap := va_apart (own := mO M) C.2.2.2.2.1 hin ty0 hty hnm C.2.2.2.2.2.2.2.1 hc
    obtain ⟨r, h1, cell, q1, q2, q3, q4⟩ := hat
    have hr : r = (Cn, T, n) := Option.some.inj (h1.symm.trans hc)
    subst hr
    obtain ⟨hSl, hfc, kC, hkC, hkind⟩ := C.2.2.2.2.2.2.2.1.1 ci _ hc
    obtain ⟨cf, kf, fi, f, hi, hsl⟩ := hSl j hj
    have hlay := C.2.2.2.2.1 _ (hin _ (u_in_lay hj))
    unfold u_lay at hlay
    rw [if_neg (by rw [hfin]; decide)] at hlay
    have hst := (u_facts hfc hkC (u_lays C.2.2.2.2.1 hin hj) hi).1
    have h6 := u_store hfc hkC hkind hlay hi hpt hn hfit
    refine W.putK C.1 C.2.1 (f := f) ⟨C.2.2.2.1, C.2.2.2.2.1 _ hlink, ⟨_, _, _, hi⟩, hst⟩ (by rw [q2]; exact h6) q1 q3 (by rw [hsl]; exact k2_hasslot (q4 j hj)) rfl rfl hd fun H' e1 e2 e3 => ?_
    rw [hsl] at e1 ⊢
    refine kk p e s0 m args below meth c H' _ ls C ?_ (hS.put e2 e3 (hZ.2.2.1 t k hx)) hl
    refine hZ.2.1 s _ H H' t k hx hW ?_ e2 e3 (fun t' k' h => up_ne h)
    rw [cel_O hO, fvl_up hF hj]
    exact ⟨_, hc, t_OB.to (V := updV (vp_V ((List.range n).map (fvl Z s t k))) j (.int x)) ⟨_, e1, q2, q3, t_set q4 hap hj (.int x)⟩ (fun i _ => vp_updV_set (by simp [hj]) (.int x) i)⟩
theorem a_iald (hZ : OkZ Z) {t k n : Nat} {i : Int32} (x : Int32) (hx : zx Z t k) (h0 : shO t = none) (hA : shA t = some n) (hin : vp_in i n) (hv : s t k i.toNatClampNeg = x) (hd : decode (mC M) pc = .ok (.iaload, 1)) (kk : AW Z l M Post kc ks (pc + 1) lv (.int x :: st) s) : AW Z l M Post kc ks pc lv (.int i :: .ref (za Z t k) :: st) s :=
  fun p e s0 m args below meth c H locs ls C hW hS hl => by
    subst hv
    have hP := one_at (hZ.1 s H t k hx hW)
    rw [cel_A h0 hA] at hP
    exact va_iald C.1 C.2.1 C.2.2.2.2.2.2.2.1 hP 0 0 rfl rfl hin hd (kk p e s0 m args below meth c H locs ls C hW hS hl)
theorem a_alen (hZ : OkZ Z) {t k n : Nat} {v : Int32} (hx : zx Z t k) (h0 : shO t = none) (hA : shA t = some n) (hv : Int32.ofNat n = v) (hd : decode (mC M) pc = .ok (.arraylength, 1)) (kk : AW Z l M Post kc ks (pc + 1) lv (.int v :: st) s) : AW Z l M Post kc ks pc lv (.ref (za Z t k) :: st) s :=
  fun p e s0 m args below meth c H locs ls C hW hS hl => by
    have hP := one_at (hZ.1 s H t k hx hW)
    rw [cel_A h0 hA] at hP
    exact va_alen C.1 C.2.1 C.2.2.2.2.2.2.2.1 hP 0 0 rfl rfl hv hd (kk p e s0 m args below meth c H locs ls C hW hS hl)
theorem a_iast (hZ : OkZ Z) {t k n : Nat} {i x : Int32} (hx : zx Z t k) (h0 : shO t = none) (hA : shA t = some n) (hin : vp_in i n) (hd : decode (mC M) pc = .ok (.iastore, 1)) (kk : AW Z l M Post kc ks (pc + 1) lv st (up s t k i.toNatClampNeg x)) : AW Z l M Post kc ks pc lv (.int x :: .int i :: .ref (za Z t k) :: st) s :=
  fun p e s0 m args below meth c H locs ls C hW hS hl => by
    have hat := hZ.1 s H t k hx hW
    rw [cel_A h0 hA] at hat
    refine W.iast C.1 C.2.1 hat ((C.2.2.2.2.2.2.2.1.2 0 _ rfl).1 n (fun j => .int (s t k j))) (fun q => by cases q) (by show ¬ (i < 0 ∨ (arrV _ _ _).slots.size ≤ _); rw [arrV_size]; exact hin) rfl rfl hd fun H' e1 e2 e3 => ?_
    refine kk p e s0 m args below meth c H' _ ls C ?_ (hS.put e2 e3 (hZ.2.2.1 t k hx)) hl
    refine hZ.2.1 s _ H H' t k hx hW ?_ e2 e3 (fun t' k' h => up_ne h)
    rw [cel_A h0 hA, up_self]
    show H'[za Z t k]? = some (vp_cell _ _)
    rw [e1, vp_cell_i, vp_cell_i, arrV_store]
    congr 2
    funext q
    by_cases hq : q = i.toNatClampNeg
    · subst hq
      simp [updV, upd]
    · simp [updV, upd, hq]
theorem a_aald (hZ : OkZ Z) {t k n u c : Nat} {Cn : String} {i : Int32} (hx : zx Z t k) (h0 : shO t = none) (h1 : shA t = none) (hR : shR t = some (n, u, c)) (ht : (zT Z)[c]? = some (zc Z c, .object Cn)) (hin : vp_in i n) (hex : i.toNatClampNeg < shN (zg Z) u) (hd : decode (mC M) pc = .ok (.aaload, 1)) (kk : AW Z l M Post kc ks (pc + 1) lv (.ref (za Z u i.toNatClampNeg) :: st) s) : AW Z l M Post kc ks pc lv (.int i :: .ref (za Z t k) :: st) s :=
  fun p e s0 m args below meth cd H locs ls C hW hS hl => by
    have hP := one_at (hZ.1 s H t k hx hW)
    rw [cel_R h0 h1 hR] at hP
    refine va_aldq C.1 C.2.1 C.2.2.2.2.2.2.2.1 hP 0 c rfl ht hin hd ?_
    rw [if_pos hex]
    exact kk p e s0 m args below meth cd H locs ls C hW hS hl
theorem a_gets (hZ : OkZ Z) {c idx : Nat} (hc : c < 5) (hlink : Cond.fieldLink (mO M) idx (stC c).1 (stC c).2 "[I" ∈ gtab) (hd : decode (mC M) pc = .ok (.getstatic idx, 3)) (kk : AW Z l M Post kc ks (pc + 3) lv (.ref (za Z (100 + c) 0) :: st) s) : AW Z l M Post kc ks pc lv st s :=
  fun p e s0 m args below meth cd H locs ls C hW hS hl => va_gets C.1 C.2.1 (hZ.2.2.2.2.2.2.1 s0 C.2.2.2.2.2.2.2.2 c hc).1 hS C.2.2.2.1 (C.2.2.2.2.1 _ hlink) (fun _ h9 => h9) hd (kk p e s0 m args below meth cd H locs ls C hW hS hl)
theorem a_ti (hZ : OkZ Z) {c : Nat} {i : Int32} (hc : c < 5) (hin : vp_in i (stL c)) (hd : decode (mC M) pc = .ok (.iaload, 1)) (kk : AW Z l M Post kc ks (pc + 1) lv (.int (stV c i.toNatClampNeg) :: st) s) : AW Z l M Post kc ks pc lv (.int i :: .ref (za Z (100 + c) 0) :: st) s :=
  fun p e s0 m args below meth cd H locs ls C hW hS hl => va_ti C.1 C.2.1 (hZ.2.2.2.2.2.2.1 s0 C.2.2.2.2.2.2.2.2 c hc).2 hS hin rfl hd (kk p e s0 m args below meth cd H locs ls C hW hS hl)
theorem a_tlen (hZ : OkZ Z) {c : Nat} (hc : c < 5) (hd : decode (mC M) pc = .ok (.arraylength, 1)) (kk : AW Z l M Post kc ks (pc + 1) lv (.int (Int32.ofNat (stL c)) :: st) s) : AW Z l M Post kc ks pc lv (.ref (za Z (100 + c) 0) :: st) s :=
  fun p e s0 m args below meth cd H locs ls C hW hS hl => va_tlen C.1 C.2.1 (hZ.2.2.2.2.2.2.1 s0 C.2.2.2.2.2.2.2.2 c hc).2 hS rfl hd (kk p e s0 m args below meth cd H locs ls C hW hS hl)
theorem a_ldcS (hZ : OkZ Z) {c idx : Nat} (hc : c < 6) (hi : (txK c).1 = idx) (ho : mO M = "CottonWeeks$Tape") (hd : decode (mC M) pc = .ok (.ldc idx, 2)) (kk : AW Z l M Post kc ks (pc + 2) lv (.ref (za Z 110 c) :: st) s) : AW Z l M Post kc ks pc lv st s :=
  fun p e s0 m args below meth cd H locs ls C hW hS hl => by
    subst hi
    have h1 := C.2.2.2.1
    rw [ho] at h1
    exact va_ldcS C.1 C.2.1 h1 ((hZ.2.2.2.2.2.2.2 s0 C.2.2.2.2.2.2.2.2).1 c hc) hd (kk p e s0 m args below meth cd H locs ls C hW hS hl)
end AWR
def inb (i : Int32) (n : Nat) : Bool := !(decide (i < 0) || decide (n ≤ i.toNatClampNeg))
theorem inb_vp {i : Int32} {n : Nat} (h : inb i n = true) : vp_in i n := by
  unfold inb at h
  unfold vp_in
  simpa using h
def ne0 (y : Int32) : Bool := !(decide (y = 0))
theorem ne0_n {y : Int32} (h : ne0 y = true) : ¬ y = 0 := by simpa [ne0] using h
def isb (y : Int32) : Bool := decide (y = 0) || decide (y = 1)
theorem isb_n {y : Int32} (h : isb y = true) : narrow .boolean (.int y) = .int y := by
  have h2 : y = 0 ∨ y = 1 := by simpa [isb] using h
  rcases h2 with rfl | rfl <;> rfl
def gd {α : Type} (b : Bool) (x : Option α) : Option α := if b = true then x else none
theorem gd_some {α : Type} {b : Bool} {x : Option α} {y : α} (h : gd b x = some y) : b = true ∧ x = some y := by
  unfold gd at h
  split at h
  · exact ⟨by assumption, h⟩
  · cases h
def bd {α β : Type} (x : Option (α × St)) (f : α → St → Option β) : Option β := match x with
  | none => none
  | some q => f q.1 q.2
theorem bd_some {α β : Type} {x : Option (α × St)} {f : α → St → Option β} {y : β} (h : bd x f = some y) : ∃ (r : α) (s : St), x = some (r, s) ∧ f r s = some y := by
  unfold bd at h
  cases x with
  | none => cases h
  | some q => exact ⟨q.1, q.2, rfl, h⟩
def fu : Nat := 1000000
def lna (t : Nat) : Nat := (shA t).getD 0
abbrev Pq (R : Option Value × St) : Option Value → St → Prop := fun r s' => r = R.1 ∧ s' = R.2
def rI (R : Int32 × St) : Option Value × St := (some (.int R.1), R.2)
def rJ (R : Int64 × St) : Option Value × St := (some (.long R.1), R.2)
def rU (R : Unit × St) : Option Value × St := (none, R.2)
theorem ne_ti {x c : Int32} (h : ¬ x = c) : x.toInt ≠ c.toInt := fun q => h (Int32.toInt_inj.mp q)
/-- the cells of the landed class, of the reference -/
def OkX (Z : ZE) : Prop := OkZ Z ∧ ∀ t k : Nat, t < 60 → k < shN (zg Z) t → zx Z t k
def OkM (Z : ZE) : Prop := OkZ Z ∧ ∀ t k : Nat, 60 ≤ t → t < 100 → k < shN (zg Z) t → zx Z t k
end
section
/-! calls -/
theorem g_after {Z : ZE} {p : Program} {l : Launch} {e : Env} {R : Room} {s0 : State} {m : MethodId} {args : Array Value} {below : List Frame} {meth : Method} {c : Code} {H : Heap} {locs : List Loc} {kc ks mc ms pc : Nat} {Q : State → Prop} {ls : Array Slot} {st0 rest : List Value} {a : Array Value} {r : Option Value} {s1 : St}
    (hr : va_Run p l e R s0 m args below meth c H locs kc ks mc ms (F0 m pc ls st0) rest (gQ Z (fun r' s' => r' = r ∧ s' = s1) a) (zA Z)) (hS : va_S (zA Z) s0.heap H locs)
    (kk : ∀ (H1 : Heap) (locs1 : List Loc), zW Z s1 H1 → va_S (zA Z) s0.heap H1 locs1 → W p l e R s0 m args below meth c H1 locs1 (kc + mc) (ks + ms) Q (F0 m (pc + 3) ls (r.toList ++ rest))) : W p l e R s0 m args below meth c H locs kc ks Q (F0 m pc ls st0) := by
  intro T hT X
  obtain ⟨v, st₀, t, T', L, h0, X', hL, e1, e2, ⟨r', s', hv, ⟨hr1, hs1⟩, hw, hz, hk⟩, st⟩ := hr T hT X
  cases hv
  subst hr1
  subst hs1
  rw [h0] at hz hk
  obtain ⟨t2, a1, b1⟩ := kk T'.heap (locs ++ L) (by rw [e1]; exact hw)
    ⟨Nat.le_trans hS.1 (by rw [e1]; exact hz), fun q h1 h2 => by rw [e1, hk q (Nat.lt_of_lt_of_le h1 hS.1) h2]; exact hS.2.1 q h1 h2, fun q hq => by
      rcases List.mem_append.mp hq with h | h
      · exact hS.2.2 q h
      · exact hL q h⟩ T' rfl X'
  exact ⟨t2, st t2 a1, b1⟩
/-- a call's link: an instance method of objects of sort t, of n arguments -/
def LkV (own : String) (idx : Nat) (y : MethodName) (t : Nat) (N : MI) (n : Nat) : Prop := ∃ (ci k : Nat) (T : u_T), shO t = some (ci, k) ∧ vwCl[ci]? = some (y.cls, T, k) ∧ Cond.methodLink own idx y ∈ gtab ∧ Cond.instanceMethod y ∈ gtab ∧ Cond.selects y.cls y y ∈ gtab ∧ Cond.initialized y.cls ∈ gtab ∧ Cond.code y (mC N) (mL N) (mT N) ∈ gtab ∧
  (y.cls ≠ "java/lang/invoke/MethodHandle" ∧ y.cls ≠ "java/lang/invoke/VarHandle" ∧ (parseMethodDescriptor y.desc).map (fun d => d.parameters.length) = some n)
/-- a static method, of n arguments -/
def LkS (own : String) (idx : Nat) (y : MethodName) (N : MI) (n : Nat) : Prop := Cond.methodLink own idx y ∈ gtab ∧ Cond.static y ∈ gtab ∧ Cond.initialized y.cls ∈ gtab ∧ Cond.code y (mC N) (mL N) (mT N) ∈ gtab ∧
  (y.cls ≠ "java/lang/invoke/MethodHandle" ∧ y.cls ≠ "java/lang/invoke/VarHandle" ∧ (parseMethodDescriptor y.desc).map (fun d => d.parameters.length) = some n)
/-- a nest mate's static method -/
def LkN (own : String) (idx : Nat) (y : MethodName) (N : MI) (n : Nat) : Prop := ∃ host : String, Cond.methodLinkNest own idx y host ∈ nst ∧ Cond.static y ∈ gtab ∧ Cond.initialized y.cls ∈ gtab ∧ Cond.code y (mC N) (mL N) (mT N) ∈ gtab ∧
  (y.cls ≠ "java/lang/invoke/MethodHandle" ∧ y.cls ≠ "java/lang/invoke/VarHandle" ∧ (parseMethodDescriptor y.desc).map (fun d => d.parameters.length) = some n)
/-- the callee fits into the caller's room -/
def Fit (M N : MI) (kc ks : Nat) : Prop := (mD N + 1 ≤ mD M ∧ 8 + (mL N + 11) + 40 * mD N ≤ 40 * mD M) ∧ kc + mK N ≤ mK M ∧ ks + mN N ≤ mN M
section AWC
variable {Z : ZE} {l : Launch} {M : MI} {Post : Option Value → St → Prop} {kc ks pc : Nat} {lv : List (Nat × Value)} {st : List Value} {s : St}
theorem g_blind {s : St} {av : List Value} (hZ : OkZ Z) : FrameBlind (va_Pc av (fun U => zW Z s U.heap ∧ va_K (zD Z) vwCl (zT Z) U ∧ zS Z U)) := fun a U g mk q => by
  obtain ⟨q0, q1, q2, q3⟩ := q
  exact ⟨q0, q1, va_K.moved (u := U) (U := U.calling g mk a) (Vm.Alike.refl U.vm) q2, hZ.2.2.2.2.1 U (U.calling g mk a) rfl rfl q3⟩
theorem g_pre {s : St} {H : Heap} {locs : List Loc} {s0 U : State} {av : List Value} (hZ : OkZ Z) (hK : va_K (zD Z) vwCl (zT Z) s0) (hs : zS Z s0) (hW : zW Z s H) (hS : va_S (zA Z) s0.heap H locs) (hU : U.heap = H) (hw : s0.WarmedH U.vm) : va_Pc av (fun U => zW Z s U.heap ∧ va_K (zD Z) vwCl (zT Z) U ∧ zS Z U) av.toArray U :=
  ⟨rfl, by rw [hU]; exact hW, va_K.moved hw.alike hK, hZ.2.2.2.1 s0 U hs hw (hS.F hU)⟩
theorem a_invV (hZ : OkZ Z) {y : MethodName} {N : MI} {idx t k : Nat} {As rest : List Value} {R : Option Value × St} (hx : zx Z t k) (hl0 : LkV (mO M) idx y t N As.length) (hf : Fit M N kc ks) (hst : st = As.reverse ++ .ref (za Z t k) :: rest) (hrest : (rest.map fun v => v.category).sum ≤ 8) (hd : decode (mC M) pc = .ok (.invokevirtual idx, 3)) (hSp : Sp Z l y N (.ref (za Z t k) :: As) s R)
    (kk : AW Z l M Post (kc + mK N) (ks + mN N) (pc + 3) lv (R.1.toList ++ rest) R.2) : AW Z l M Post kc ks pc lv st s :=
  fun p e s0 m args below meth c H locs ls C hW hS hl => by
    subst hst
    obtain ⟨ci, kf, T, hO, hc, h1, h2, h3, h4, h5, h6⟩ := hl0
    have hP := one_at (hZ.1 s H t k hx hW)
    rw [cel_O hO] at hP
    have hG := gtab_goodIn h5
    have hcw : CallW (gR M) s0 args (mO M) y.cls idx y (mC N) (mL N) (mT N) (Cond.code y (mC N) (mL N) (mT N) :: gtab) (gR N) (mK N) (mN N) As.length :=
      ⟨callB_of As.length C.2.2.2.2.1 hG rfl rfl rfl (C.2.2.2.2.1 _ h4) (C.2.2.2.2.1 _ h1) h6 hf.1, C.2.2.2.2.1 _ h2, C.2.2.2.2.1 _ h3⟩
    refine g_after (va_runV (As := As) (rest := rest) ⟨C.1, C.2.1, C.2.2.1, C.2.2.2.1, C.2.2.2.2.1⟩ hSp hcw ⟨g_blind hZ, va_recv C.2.2.2.2.2.2.2.1 hP hc (q0 := 0) rfl, fun U hU hw => g_pre hZ C.2.2.2.2.2.2.2.1 C.2.2.2.2.2.2.2.2 hW hS hU hw⟩ rfl rfl hl.1 rfl (lv_room hrest) hd hf.2) hS (fun H1 locs1 hW1 hS1 => ?_)
    exact kk p e s0 m args below meth c H1 locs1 ls C hW1 hS1 hl
theorem a_invS (hZ : OkZ Z) {y : MethodName} {N : MI} {idx : Nat} {As rest : List Value} {R : Option Value × St} (hl0 : LkS (mO M) idx y N As.length) (hf : Fit M N kc ks) (hst : st = As.reverse ++ rest) (hrest : (rest.map fun v => v.category).sum ≤ 8) (hd : decode (mC M) pc = .ok (.invokestatic idx, 3)) (hSp : Sp Z l y N As s R)
    (kk : AW Z l M Post (kc + mK N) (ks + mN N) (pc + 3) lv (R.1.toList ++ rest) R.2) : AW Z l M Post kc ks pc lv st s :=
  fun p e s0 m args below meth c H locs ls C hW hS hl => by
    subst hst
    obtain ⟨h1, h2, h3, h5, h6⟩ := hl0
    have hG := gtab_goodIn h5
    have hcw : CallB (gR M) s0 args (mO M) idx y (mC N) (mL N) (mT N) (Cond.code y (mC N) (mL N) (mT N) :: gtab) (gR N) (mK N) (mN N) As.length ∧ (Cond.static y).before args s0 = true :=
      ⟨callB_of As.length C.2.2.2.2.1 hG rfl rfl rfl (C.2.2.2.2.1 _ h3) (C.2.2.2.2.1 _ h1) h6 hf.1, C.2.2.2.2.1 _ h2⟩
    refine g_after (va_runS (As := As) (rest := rest) ⟨C.1, C.2.1, C.2.2.1, C.2.2.2.1, C.2.2.2.2.1⟩ hSp hcw ⟨g_blind hZ, fun U hU hw => g_pre hZ C.2.2.2.2.2.2.2.1 C.2.2.2.2.2.2.2.2 hW hS hU hw⟩ rfl rfl hl.1 rfl (lv_room hrest) hd hf.2) hS (fun H1 locs1 hW1 hS1 => ?_)
    exact kk p e s0 m args below meth c H1 locs1 ls C hW1 hS1 hl
theorem a_invN (hZ : OkZ Z) {y : MethodName} {N : MI} {idx : Nat} {As rest : List Value} {R : Option Value × St} (hl0 : LkN (mO M) idx y N As.length) (hf : Fit M N kc ks) (hst : st = As.reverse ++ rest) (hrest : (rest.map fun v => v.category).sum ≤ 8) (hd : decode (mC M) pc = .ok (.invokestatic idx, 3)) (hSp : Sp Z l y N As s R)
    (kk : AW Z l M Post (kc + mK N) (ks + mN N) (pc + 3) lv (R.1.toList ++ rest) R.2) : AW Z l M Post kc ks pc lv st s :=
  fun p e s0 m args below meth c H locs ls C hW hS hl => by
    subst hst
    obtain ⟨host, h1, h2, h3, h5, h6⟩ := hl0
    have hG := gtab_goodIn h5
    have hcw := va_cnB (R := gR M) (s := s0) (args := args) (own := mO M) (host := host) (index := idx) (y := y) (bytes := mC N) (maxL := mL N) (ret := mT N) (rm := gR N) (mc := mK N) (ms := mN N) As.length C.2.2.2.2.1 hG rfl rfl rfl (hZ.2.2.2.2.2.1 s0 C.2.2.2.2.2.2.2.2 _ h1) (C.2.2.2.2.1 _ h3) h6 hf.1
    refine g_after (va_runSN (As := As) (rest := rest) ⟨C.1, C.2.1, C.2.2.1, C.2.2.2.1, C.2.2.2.2.1⟩ hSp ⟨hcw, C.2.2.2.2.1 _ h2, trivial⟩ ⟨g_blind hZ, fun U hU hw => g_pre hZ C.2.2.2.2.2.2.2.1 C.2.2.2.2.2.2.2.2 hW hS hU hw⟩ rfl rfl hl.1 rfl (lv_room hrest) hd hf.2) hS (fun H1 locs1 hW1 hS1 => ?_)
    exact kk p e s0 m args below meth c H1 locs1 ls C hW1 hS1 hl
theorem a_mmax {idx : Nat} {x y : Int32} (h1 : Cond.methodLink (mO M) idx Lib.Math.max.name ∈ gtab) (h2 : Cond.static Lib.Math.max.name ∈ gtab) (h3 : Cond.initialized "java/lang/Math" ∈ gtab) (h4 : Cond.code Lib.Math.max.name Lib.Math.max.code 2 (some .int) ∈ gtab) (hf : 1 ≤ mD M ∧ (st.map fun v => v.category).sum + 13 ≤ 40 * mD M ∧ kc ≤ mK M ∧ ks ≤ mN M) (hd : decode (mC M) pc = .ok (.invokestatic idx, 3)) (kk : AW Z l M Post kc ks (pc + 3) lv (.int (if x < y then y else x) :: st) s) : AW Z l M Post kc ks pc lv (.int y :: .int x :: st) s :=
  fun p e s0 m args below meth c H locs ls C hW hS hl => va_mmax C.1 C.2.1 (C.2.2.1.trans hl.1.symm) C.2.2.2.1 (C.2.2.2.2.1 _ h1) (C.2.2.2.2.1 _ h2) (C.2.2.2.2.1 _ h3) (C.2.2.2.2.1 _ h4) hf.1 hf.2.1 hf.2.2.1 hf.2.2.2 hd (kk p e s0 m args below meth c H locs ls C hW hS hl)
theorem a_mmin {idx : Nat} {x y : Int32} (h1 : Cond.methodLink (mO M) idx Lib.Math.min.name ∈ gtab) (h2 : Cond.static Lib.Math.min.name ∈ gtab) (h3 : Cond.initialized "java/lang/Math" ∈ gtab) (h4 : Cond.code Lib.Math.min.name Lib.Math.min.code 2 (some .int) ∈ gtab) (hf : 1 ≤ mD M ∧ (st.map fun v => v.category).sum + 13 ≤ 40 * mD M ∧ kc ≤ mK M ∧ ks ≤ mN M) (hd : decode (mC M) pc = .ok (.invokestatic idx, 3)) (kk : AW Z l M Post kc ks (pc + 3) lv (.int (if y < x then y else x) :: st) s) : AW Z l M Post kc ks pc lv (.int y :: .int x :: st) s :=
  fun p e s0 m args below meth c H locs ls C hW hS hl => va_mmin C.1 C.2.1 (C.2.2.1.trans hl.1.symm) C.2.2.2.1 (C.2.2.2.2.1 _ h1) (C.2.2.2.2.1 _ h2) (C.2.2.2.2.1 _ h3) (C.2.2.2.2.1 _ h4) hf.1 hf.2.1 hf.2.2.1 hf.2.2.2 hd (kk p e s0 m args below meth c H locs ls C hW hS hl)
theorem a_mminl {idx : Nat} {x y : Int64} (h1 : Cond.methodLink (mO M) idx Lib.MathLoose.min_long.x ∈ gtab) (h2 : Cond.static Lib.MathLoose.min_long.x ∈ gtab) (h3 : Cond.initialized "java/lang/Math" ∈ gtab) (h4 : Cond.code Lib.MathLoose.min_long.x Lib.MathLoose.min_long.code 4 (some .long) ∈ gtab) (hf : 1 ≤ mD M ∧ (st.map fun v => v.category).sum + 15 ≤ 40 * mD M ∧ kc ≤ mK M ∧ ks ≤ mN M) (hd : decode (mC M) pc = .ok (.invokestatic idx, 3)) (kk : AW Z l M Post kc ks (pc + 3) lv (.long (if y < x then y else x) :: st) s) : AW Z l M Post kc ks pc lv (.long y :: .long x :: st) s :=
  fun p e s0 m args below meth c H locs ls C hW hS hl => va_mmin_long C.1 C.2.1 (C.2.2.1.trans hl.1.symm) C.2.2.2.1 (C.2.2.2.2.1 _ h1) (C.2.2.2.2.1 _ h2) (C.2.2.2.2.1 _ h3) (C.2.2.2.2.1 _ h4) hf.1 hf.2.1 hf.2.2.1 hf.2.2.2 hd (kk p e s0 m args below meth c H locs ls C hW hS hl)
end AWC
end
