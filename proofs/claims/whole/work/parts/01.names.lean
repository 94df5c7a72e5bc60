-- ===== PART A: goes FIRST, ahead of the names: the tables' words, and 'selects' of the private methods out of them =====
/-- a private method of a class that the tables say can be made, by its rows of tables_1 -/
def lw_okq (q : MethodName × Nat) : Prop := (q.1.cls ≠ "java/lang/invoke/MethodHandle" ∧ q.1.cls ≠ "java/lang/invoke/VarHandle") ∧ Cond.instantiable q.1.cls q.2 ∈ tables_1 ∧ Cond.privateMethod q.1 ∈ tables_1 ∧ Cond.instanceMethod q.1 ∈ tables_1
theorem lw_p0 : lw_okq (⟨"WavePlan$Land", "freshBar", "(II)I"⟩, 11) := ⟨⟨by decide +kernel, by decide +kernel⟩, List.mem_of_getElem? (i := 31) (by decide +kernel), List.mem_of_getElem? (i := 340) (by decide +kernel), List.mem_of_getElem? (i := 341) (by decide +kernel)⟩
theorem lw_p1 : lw_okq (⟨"WavePlan$Judge", "lackAt", "(IIII)I"⟩, 2) := ⟨⟨by decide +kernel, by decide +kernel⟩, List.mem_of_getElem? (i := 180) (by decide +kernel), List.mem_of_getElem? (i := 486) (by decide +kernel), List.mem_of_getElem? (i := 487) (by decide +kernel)⟩
theorem lw_p2 : lw_okq (⟨"WavePlan$Judge", "sumTogether", "([IIII)Z"⟩, 2) := ⟨⟨by decide +kernel, by decide +kernel⟩, List.mem_of_getElem? (i := 180) (by decide +kernel), List.mem_of_getElem? (i := 505) (by decide +kernel), List.mem_of_getElem? (i := 506) (by decide +kernel)⟩
theorem lw_p3 : lw_okq (⟨"WavePlan$Judge", "sumsOfThree", "([IIII)I"⟩, 2) := ⟨⟨by decide +kernel, by decide +kernel⟩, List.mem_of_getElem? (i := 180) (by decide +kernel), List.mem_of_getElem? (i := 513) (by decide +kernel), List.mem_of_getElem? (i := 514) (by decide +kernel)⟩
theorem lw_p4 : lw_okq (⟨"WavePlan$Trier", "open", "(II)V"⟩, 6) := ⟨⟨by decide +kernel, by decide +kernel⟩, List.mem_of_getElem? (i := 193) (by decide +kernel), List.mem_of_getElem? (i := 550) (by decide +kernel), List.mem_of_getElem? (i := 551) (by decide +kernel)⟩
theorem lw_p5 : lw_okq (⟨"WavePlan$Judge", "tooNear", "([III)J"⟩, 2) := ⟨⟨by decide +kernel, by decide +kernel⟩, List.mem_of_getElem? (i := 180) (by decide +kernel), List.mem_of_getElem? (i := 558) (by decide +kernel), List.mem_of_getElem? (i := 559) (by decide +kernel)⟩
theorem lw_p6 : lw_okq (⟨"WavePlan$Judge", "sumMates", "([IIII)Z"⟩, 2) := ⟨⟨by decide +kernel, by decide +kernel⟩, List.mem_of_getElem? (i := 180) (by decide +kernel), List.mem_of_getElem? (i := 562) (by decide +kernel), List.mem_of_getElem? (i := 563) (by decide +kernel)⟩
theorem lw_p7 : lw_okq (⟨"WavePlan$Judge", "sumTargets", "([III)J"⟩, 2) := ⟨⟨by decide +kernel, by decide +kernel⟩, List.mem_of_getElem? (i := 180) (by decide +kernel), List.mem_of_getElem? (i := 566) (by decide +kernel), List.mem_of_getElem? (i := 567) (by decide +kernel)⟩
theorem lw_p8 : lw_okq (⟨"WavePlan$Trier", "takes", "(I)Z"⟩, 6) := ⟨⟨by decide +kernel, by decide +kernel⟩, List.mem_of_getElem? (i := 193) (by decide +kernel), List.mem_of_getElem? (i := 579) (by decide +kernel), List.mem_of_getElem? (i := 580) (by decide +kernel)⟩
theorem lw_p9 : lw_okq (⟨"WavePlan$Mender", "canChange", "([II)Z"⟩, 2) := ⟨⟨by decide +kernel, by decide +kernel⟩, List.mem_of_getElem? (i := 219) (by decide +kernel), List.mem_of_getElem? (i := 616) (by decide +kernel), List.mem_of_getElem? (i := 617) (by decide +kernel)⟩
theorem lw_p10 : lw_okq (⟨"WavePlan$Judge", "addLacks", "([III)V"⟩, 2) := ⟨⟨by decide +kernel, by decide +kernel⟩, List.mem_of_getElem? (i := 180) (by decide +kernel), List.mem_of_getElem? (i := 625) (by decide +kernel), List.mem_of_getElem? (i := 626) (by decide +kernel)⟩
theorem lw_p11 : lw_okq (⟨"WavePlan$Judge", "addSums", "([IIII)V"⟩, 2) := ⟨⟨by decide +kernel, by decide +kernel⟩, List.mem_of_getElem? (i := 180) (by decide +kernel), List.mem_of_getElem? (i := 630) (by decide +kernel), List.mem_of_getElem? (i := 631) (by decide +kernel)⟩
theorem lw_p12 : lw_okq (⟨"WavePlan$Judge", "addSumAt", "(II)V"⟩, 2) := ⟨⟨by decide +kernel, by decide +kernel⟩, List.mem_of_getElem? (i := 180) (by decide +kernel), List.mem_of_getElem? (i := 634) (by decide +kernel), List.mem_of_getElem? (i := 635) (by decide +kernel)⟩
theorem lw_p13 : lw_okq (⟨"WavePlan$Mender", "leastFree", "([III)I"⟩, 2) := ⟨⟨by decide +kernel, by decide +kernel⟩, List.mem_of_getElem? (i := 219) (by decide +kernel), List.mem_of_getElem? (i := 653) (by decide +kernel), List.mem_of_getElem? (i := 654) (by decide +kernel)⟩
theorem lw_p14 : lw_okq (⟨"WavePlan$Mender", "changeBoth", "([III)Z"⟩, 2) := ⟨⟨by decide +kernel, by decide +kernel⟩, List.mem_of_getElem? (i := 219) (by decide +kernel), List.mem_of_getElem? (i := 662) (by decide +kernel), List.mem_of_getElem? (i := 663) (by decide +kernel)⟩
theorem lw_p15 : lw_okq (⟨"WavePlan$Crowds", "barsAll", "(II)Z"⟩, 5) := ⟨⟨by decide +kernel, by decide +kernel⟩, List.mem_of_getElem? (i := 232) (by decide +kernel), List.mem_of_getElem? (i := 674) (by decide +kernel), List.mem_of_getElem? (i := 675) (by decide +kernel)⟩
def lw_privs_1 : List (MethodName × Nat) := [(⟨"WavePlan$Land", "freshBar", "(II)I"⟩, 11), (⟨"WavePlan$Judge", "lackAt", "(IIII)I"⟩, 2), (⟨"WavePlan$Judge", "sumTogether", "([IIII)Z"⟩, 2), (⟨"WavePlan$Judge", "sumsOfThree", "([IIII)I"⟩, 2), (⟨"WavePlan$Trier", "open", "(II)V"⟩, 6), (⟨"WavePlan$Judge", "tooNear", "([III)J"⟩, 2), (⟨"WavePlan$Judge", "sumMates", "([IIII)Z"⟩, 2), (⟨"WavePlan$Judge", "sumTargets", "([III)J"⟩, 2), (⟨"WavePlan$Trier", "takes", "(I)Z"⟩, 6), (⟨"WavePlan$Mender", "canChange", "([II)Z"⟩, 2), (⟨"WavePlan$Judge", "addLacks", "([III)V"⟩, 2), (⟨"WavePlan$Judge", "addSums", "([IIII)V"⟩, 2), (⟨"WavePlan$Judge", "addSumAt", "(II)V"⟩, 2), (⟨"WavePlan$Mender", "leastFree", "([III)I"⟩, 2), (⟨"WavePlan$Mender", "changeBoth", "([III)Z"⟩, 2), (⟨"WavePlan$Crowds", "barsAll", "(II)Z"⟩, 5)]
theorem lw_r1 : ∀ q ∈ lw_privs_1, lw_okq q := List.forall_mem_cons.mpr ⟨lw_p0, List.forall_mem_cons.mpr ⟨lw_p1, List.forall_mem_cons.mpr ⟨lw_p2, List.forall_mem_cons.mpr ⟨lw_p3, List.forall_mem_cons.mpr ⟨lw_p4, List.forall_mem_cons.mpr ⟨lw_p5, List.forall_mem_cons.mpr ⟨lw_p6, List.forall_mem_cons.mpr ⟨lw_p7, List.forall_mem_cons.mpr ⟨lw_p8, List.forall_mem_cons.mpr ⟨lw_p9, List.forall_mem_cons.mpr ⟨lw_p10, List.forall_mem_cons.mpr ⟨lw_p11, List.forall_mem_cons.mpr ⟨lw_p12, List.forall_mem_cons.mpr ⟨lw_p13, List.forall_mem_cons.mpr ⟨lw_p14, List.forall_mem_cons.mpr ⟨lw_p15, fun _ h => absurd h List.not_mem_nil⟩⟩⟩⟩⟩⟩⟩⟩⟩⟩⟩⟩⟩⟩⟩⟩
theorem lw_p16 : lw_okq (⟨"WavePlan$Crowds", "seat", "(II)I"⟩, 5) := ⟨⟨by decide +kernel, by decide +kernel⟩, List.mem_of_getElem? (i := 232) (by decide +kernel), List.mem_of_getElem? (i := 687) (by decide +kernel), List.mem_of_getElem? (i := 688) (by decide +kernel)⟩
theorem lw_p17 : lw_okq (⟨"WavePlan$Crowds", "sumUp", "(II)V"⟩, 5) := ⟨⟨by decide +kernel, by decide +kernel⟩, List.mem_of_getElem? (i := 232) (by decide +kernel), List.mem_of_getElem? (i := 691) (by decide +kernel), List.mem_of_getElem? (i := 692) (by decide +kernel)⟩
theorem lw_p18 : lw_okq (⟨"WavePlan$Crowds", "leastSum", "(III)I"⟩, 5) := ⟨⟨by decide +kernel, by decide +kernel⟩, List.mem_of_getElem? (i := 232) (by decide +kernel), List.mem_of_getElem? (i := 695) (by decide +kernel), List.mem_of_getElem? (i := 696) (by decide +kernel)⟩
theorem lw_p19 : lw_okq (⟨"WavePlan$Crowds", "boundOfSeated", "(I)I"⟩, 5) := ⟨⟨by decide +kernel, by decide +kernel⟩, List.mem_of_getElem? (i := 232) (by decide +kernel), List.mem_of_getElem? (i := 701) (by decide +kernel), List.mem_of_getElem? (i := 702) (by decide +kernel)⟩
theorem lw_p20 : lw_okq (⟨"WavePlan$Crowds", "grow", "(III)V"⟩, 5) := ⟨⟨by decide +kernel, by decide +kernel⟩, List.mem_of_getElem? (i := 232) (by decide +kernel), List.mem_of_getElem? (i := 713) (by decide +kernel), List.mem_of_getElem? (i := 714) (by decide +kernel)⟩
theorem lw_p21 : lw_okq (⟨"WavePlan$Crowds", "consider", "(II)V"⟩, 5) := ⟨⟨by decide +kernel, by decide +kernel⟩, List.mem_of_getElem? (i := 232) (by decide +kernel), List.mem_of_getElem? (i := 717) (by decide +kernel), List.mem_of_getElem? (i := 718) (by decide +kernel)⟩
theorem lw_p22 : lw_okq (⟨"WavePlan$Land", "partAround", "(I)I"⟩, 11) := ⟨⟨by decide +kernel, by decide +kernel⟩, List.mem_of_getElem? (i := 31) (by decide +kernel), List.mem_of_getElem? (i := 729) (by decide +kernel), List.mem_of_getElem? (i := 730) (by decide +kernel)⟩
theorem lw_p23 : lw_okq (⟨"WavePlan$Land", "joinedTo", "(I)I"⟩, 11) := ⟨⟨by decide +kernel, by decide +kernel⟩, List.mem_of_getElem? (i := 31) (by decide +kernel), List.mem_of_getElem? (i := 733) (by decide +kernel), List.mem_of_getElem? (i := 734) (by decide +kernel)⟩
theorem lw_p24 : lw_okq (⟨"WavePlan", "refusalOfMast", "(I)I"⟩, 9) := ⟨⟨by decide +kernel, by decide +kernel⟩, List.mem_of_getElem? (i := 23) (by decide +kernel), List.mem_of_getElem? (i := 835) (by decide +kernel), List.mem_of_getElem? (i := 836) (by decide +kernel)⟩
theorem lw_p25 : lw_okq (⟨"java/lang/Throwable", "fillInStackTrace", "(I)Ljava/lang/Throwable;"⟩, 6) := ⟨⟨by decide +kernel, by decide +kernel⟩, List.mem_of_getElem? (i := 892) (by decide +kernel), List.mem_of_getElem? (i := 890) (by decide +kernel), List.mem_of_getElem? (i := 891) (by decide +kernel)⟩
theorem lw_p26 : lw_okq (⟨"WavePlanModel", "isMast", "(I)Z"⟩, 39) := ⟨⟨by decide +kernel, by decide +kernel⟩, List.mem_of_getElem? (i := 970) (by decide +kernel), List.mem_of_getElem? (i := 1115) (by decide +kernel), List.mem_of_getElem? (i := 1116) (by decide +kernel)⟩
theorem lw_p27 : lw_okq (⟨"WavePlanModel", "barOf", "(II)I"⟩, 39) := ⟨⟨by decide +kernel, by decide +kernel⟩, List.mem_of_getElem? (i := 970) (by decide +kernel), List.mem_of_getElem? (i := 1119) (by decide +kernel), List.mem_of_getElem? (i := 1120) (by decide +kernel)⟩
theorem lw_p28 : lw_okq (⟨"WavePlanModel", "square", "(II)I"⟩, 39) := ⟨⟨by decide +kernel, by decide +kernel⟩, List.mem_of_getElem? (i := 970) (by decide +kernel), List.mem_of_getElem? (i := 1123) (by decide +kernel), List.mem_of_getElem? (i := 1124) (by decide +kernel)⟩
theorem lw_p29 : lw_okq (⟨"WavePlanModel", "countBits", "(I)I"⟩, 39) := ⟨⟨by decide +kernel, by decide +kernel⟩, List.mem_of_getElem? (i := 970) (by decide +kernel), List.mem_of_getElem? (i := 1135) (by decide +kernel), List.mem_of_getElem? (i := 1136) (by decide +kernel)⟩
theorem lw_p30 : lw_okq (⟨"WavePlanModel", "isWant", "(I)Z"⟩, 39) := ⟨⟨by decide +kernel, by decide +kernel⟩, List.mem_of_getElem? (i := 970) (by decide +kernel), List.mem_of_getElem? (i := 1148) (by decide +kernel), List.mem_of_getElem? (i := 1149) (by decide +kernel)⟩
theorem lw_p31 : lw_okq (⟨"WavePlanModel", "mayHave", "(II)Z"⟩, 39) := ⟨⟨by decide +kernel, by decide +kernel⟩, List.mem_of_getElem? (i := 970) (by decide +kernel), List.mem_of_getElem? (i := 1173) (by decide +kernel), List.mem_of_getElem? (i := 1174) (by decide +kernel)⟩
def lw_privs_2 : List (MethodName × Nat) := [(⟨"WavePlan$Crowds", "seat", "(II)I"⟩, 5), (⟨"WavePlan$Crowds", "sumUp", "(II)V"⟩, 5), (⟨"WavePlan$Crowds", "leastSum", "(III)I"⟩, 5), (⟨"WavePlan$Crowds", "boundOfSeated", "(I)I"⟩, 5), (⟨"WavePlan$Crowds", "grow", "(III)V"⟩, 5), (⟨"WavePlan$Crowds", "consider", "(II)V"⟩, 5), (⟨"WavePlan$Land", "partAround", "(I)I"⟩, 11), (⟨"WavePlan$Land", "joinedTo", "(I)I"⟩, 11), (⟨"WavePlan", "refusalOfMast", "(I)I"⟩, 9), (⟨"java/lang/Throwable", "fillInStackTrace", "(I)Ljava/lang/Throwable;"⟩, 6), (⟨"WavePlanModel", "isMast", "(I)Z"⟩, 39), (⟨"WavePlanModel", "barOf", "(II)I"⟩, 39), (⟨"WavePlanModel", "square", "(II)I"⟩, 39), (⟨"WavePlanModel", "countBits", "(I)I"⟩, 39), (⟨"WavePlanModel", "isWant", "(I)Z"⟩, 39), (⟨"WavePlanModel", "mayHave", "(II)Z"⟩, 39)]
theorem lw_r2 : ∀ q ∈ lw_privs_2, lw_okq q := List.forall_mem_cons.mpr ⟨lw_p16, List.forall_mem_cons.mpr ⟨lw_p17, List.forall_mem_cons.mpr ⟨lw_p18, List.forall_mem_cons.mpr ⟨lw_p19, List.forall_mem_cons.mpr ⟨lw_p20, List.forall_mem_cons.mpr ⟨lw_p21, List.forall_mem_cons.mpr ⟨lw_p22, List.forall_mem_cons.mpr ⟨lw_p23, List.forall_mem_cons.mpr ⟨lw_p24, List.forall_mem_cons.mpr ⟨lw_p25, List.forall_mem_cons.mpr ⟨lw_p26, List.forall_mem_cons.mpr ⟨lw_p27, List.forall_mem_cons.mpr ⟨lw_p28, List.forall_mem_cons.mpr ⟨lw_p29, List.forall_mem_cons.mpr ⟨lw_p30, List.forall_mem_cons.mpr ⟨lw_p31, fun _ h => absurd h List.not_mem_nil⟩⟩⟩⟩⟩⟩⟩⟩⟩⟩⟩⟩⟩⟩⟩⟩
theorem lw_p32 : lw_okq (⟨"WavePlanModel", "isListed", "(II)Z"⟩, 39) := ⟨⟨by decide +kernel, by decide +kernel⟩, List.mem_of_getElem? (i := 970) (by decide +kernel), List.mem_of_getElem? (i := 1177) (by decide +kernel), List.mem_of_getElem? (i := 1178) (by decide +kernel)⟩
theorem lw_p33 : lw_okq (⟨"WavePlanModel", "isFree", "(II)Z"⟩, 39) := ⟨⟨by decide +kernel, by decide +kernel⟩, List.mem_of_getElem? (i := 970) (by decide +kernel), List.mem_of_getElem? (i := 1181) (by decide +kernel), List.mem_of_getElem? (i := 1182) (by decide +kernel)⟩
theorem lw_p34 : lw_okq (⟨"WavePlanModel", "harmNow", "()I"⟩, 39) := ⟨⟨by decide +kernel, by decide +kernel⟩, List.mem_of_getElem? (i := 970) (by decide +kernel), List.mem_of_getElem? (i := 1209) (by decide +kernel), List.mem_of_getElem? (i := 1210) (by decide +kernel)⟩
theorem lw_p35 : lw_okq (⟨"WavePlanModel", "brokenOf", "(I)I"⟩, 39) := ⟨⟨by decide +kernel, by decide +kernel⟩, List.mem_of_getElem? (i := 970) (by decide +kernel), List.mem_of_getElem? (i := 1213) (by decide +kernel), List.mem_of_getElem? (i := 1214) (by decide +kernel)⟩
theorem lw_p36 : lw_okq (⟨"WavePlanModel", "lack", "(II)I"⟩, 39) := ⟨⟨by decide +kernel, by decide +kernel⟩, List.mem_of_getElem? (i := 970) (by decide +kernel), List.mem_of_getElem? (i := 1217) (by decide +kernel), List.mem_of_getElem? (i := 1218) (by decide +kernel)⟩
theorem lw_p37 : lw_okq (⟨"WavePlanModel", "channelsOf", "(I)I"⟩, 39) := ⟨⟨by decide +kernel, by decide +kernel⟩, List.mem_of_getElem? (i := 970) (by decide +kernel), List.mem_of_getElem? (i := 1221) (by decide +kernel), List.mem_of_getElem? (i := 1222) (by decide +kernel)⟩
theorem lw_p38 : lw_okq (⟨"WavePlanModel", "channelOf", "(II)I"⟩, 39) := ⟨⟨by decide +kernel, by decide +kernel⟩, List.mem_of_getElem? (i := 970) (by decide +kernel), List.mem_of_getElem? (i := 1225) (by decide +kernel), List.mem_of_getElem? (i := 1226) (by decide +kernel)⟩
theorem lw_p39 : lw_okq (⟨"WavePlanModel", "areIn", "(III)Z"⟩, 39) := ⟨⟨by decide +kernel, by decide +kernel⟩, List.mem_of_getElem? (i := 970) (by decide +kernel), List.mem_of_getElem? (i := 1229) (by decide +kernel), List.mem_of_getElem? (i := 1230) (by decide +kernel)⟩
theorem lw_p40 : lw_okq (⟨"WavePlanModel", "middles", "(III)I"⟩, 39) := ⟨⟨by decide +kernel, by decide +kernel⟩, List.mem_of_getElem? (i := 970) (by decide +kernel), List.mem_of_getElem? (i := 1233) (by decide +kernel), List.mem_of_getElem? (i := 1234) (by decide +kernel)⟩
theorem lw_p41 : lw_okq (⟨"WavePlanModel", "keepPlan", "()V"⟩, 39) := ⟨⟨by decide +kernel, by decide +kernel⟩, List.mem_of_getElem? (i := 970) (by decide +kernel), List.mem_of_getElem? (i := 1255) (by decide +kernel), List.mem_of_getElem? (i := 1256) (by decide +kernel)⟩
theorem lw_p42 : lw_okq (⟨"WavePlanModel", "tryBelow", "(I)Z"⟩, 39) := ⟨⟨by decide +kernel, by decide +kernel⟩, List.mem_of_getElem? (i := 970) (by decide +kernel), List.mem_of_getElem? (i := 1259) (by decide +kernel), List.mem_of_getElem? (i := 1260) (by decide +kernel)⟩
theorem lw_p43 : lw_okq (⟨"WavePlanModel", "isTaken", "(III)Z"⟩, 39) := ⟨⟨by decide +kernel, by decide +kernel⟩, List.mem_of_getElem? (i := 970) (by decide +kernel), List.mem_of_getElem? (i := 1263) (by decide +kernel), List.mem_of_getElem? (i := 1264) (by decide +kernel)⟩
theorem lw_p44 : lw_okq (⟨"WavePlanModel", "isFine", "(I)Z"⟩, 39) := ⟨⟨by decide +kernel, by decide +kernel⟩, List.mem_of_getElem? (i := 970) (by decide +kernel), List.mem_of_getElem? (i := 1267) (by decide +kernel), List.mem_of_getElem? (i := 1268) (by decide +kernel)⟩
theorem lw_p45 : lw_okq (⟨"WavePlanModel", "givePlan", "()V"⟩, 39) := ⟨⟨by decide +kernel, by decide +kernel⟩, List.mem_of_getElem? (i := 970) (by decide +kernel), List.mem_of_getElem? (i := 1271) (by decide +kernel), List.mem_of_getElem? (i := 1272) (by decide +kernel)⟩
theorem lw_p46 : lw_okq (⟨"WavePlanModel", "isBettered", "()Z"⟩, 39) := ⟨⟨by decide +kernel, by decide +kernel⟩, List.mem_of_getElem? (i := 970) (by decide +kernel), List.mem_of_getElem? (i := 1292) (by decide +kernel), List.mem_of_getElem? (i := 1293) (by decide +kernel)⟩
theorem lw_p47 : lw_okq (⟨"WavePlanModel", "isHealedBy", "(I)Z"⟩, 39) := ⟨⟨by decide +kernel, by decide +kernel⟩, List.mem_of_getElem? (i := 970) (by decide +kernel), List.mem_of_getElem? (i := 1300) (by decide +kernel), List.mem_of_getElem? (i := 1301) (by decide +kernel)⟩
def lw_privs_3 : List (MethodName × Nat) := [(⟨"WavePlanModel", "isListed", "(II)Z"⟩, 39), (⟨"WavePlanModel", "isFree", "(II)Z"⟩, 39), (⟨"WavePlanModel", "harmNow", "()I"⟩, 39), (⟨"WavePlanModel", "brokenOf", "(I)I"⟩, 39), (⟨"WavePlanModel", "lack", "(II)I"⟩, 39), (⟨"WavePlanModel", "channelsOf", "(I)I"⟩, 39), (⟨"WavePlanModel", "channelOf", "(II)I"⟩, 39), (⟨"WavePlanModel", "areIn", "(III)Z"⟩, 39), (⟨"WavePlanModel", "middles", "(III)I"⟩, 39), (⟨"WavePlanModel", "keepPlan", "()V"⟩, 39), (⟨"WavePlanModel", "tryBelow", "(I)Z"⟩, 39), (⟨"WavePlanModel", "isTaken", "(III)Z"⟩, 39), (⟨"WavePlanModel", "isFine", "(I)Z"⟩, 39), (⟨"WavePlanModel", "givePlan", "()V"⟩, 39), (⟨"WavePlanModel", "isBettered", "()Z"⟩, 39), (⟨"WavePlanModel", "isHealedBy", "(I)Z"⟩, 39)]
theorem lw_r3 : ∀ q ∈ lw_privs_3, lw_okq q := List.forall_mem_cons.mpr ⟨lw_p32, List.forall_mem_cons.mpr ⟨lw_p33, List.forall_mem_cons.mpr ⟨lw_p34, List.forall_mem_cons.mpr ⟨lw_p35, List.forall_mem_cons.mpr ⟨lw_p36, List.forall_mem_cons.mpr ⟨lw_p37, List.forall_mem_cons.mpr ⟨lw_p38, List.forall_mem_cons.mpr ⟨lw_p39, List.forall_mem_cons.mpr ⟨lw_p40, List.forall_mem_cons.mpr ⟨lw_p41, List.forall_mem_cons.mpr ⟨lw_p42, List.forall_mem_cons.mpr ⟨lw_p43, List.forall_mem_cons.mpr ⟨lw_p44, List.forall_mem_cons.mpr ⟨lw_p45, List.forall_mem_cons.mpr ⟨lw_p46, List.forall_mem_cons.mpr ⟨lw_p47, fun _ h => absurd h List.not_mem_nil⟩⟩⟩⟩⟩⟩⟩⟩⟩⟩⟩⟩⟩⟩⟩⟩
theorem lw_p48 : lw_okq (⟨"WavePlanModel", "isHealedByTwo", "()Z"⟩, 39) := ⟨⟨by decide +kernel, by decide +kernel⟩, List.mem_of_getElem? (i := 970) (by decide +kernel), List.mem_of_getElem? (i := 1304) (by decide +kernel), List.mem_of_getElem? (i := 1305) (by decide +kernel)⟩
theorem lw_p49 : lw_okq (⟨"WavePlanModel", "isCrowd", "(I)Z"⟩, 39) := ⟨⟨by decide +kernel, by decide +kernel⟩, List.mem_of_getElem? (i := 970) (by decide +kernel), List.mem_of_getElem? (i := 1312) (by decide +kernel), List.mem_of_getElem? (i := 1313) (by decide +kernel)⟩
theorem lw_p50 : lw_okq (⟨"WavePlanModel", "wantsIn", "(I)I"⟩, 39) := ⟨⟨by decide +kernel, by decide +kernel⟩, List.mem_of_getElem? (i := 970) (by decide +kernel), List.mem_of_getElem? (i := 1316) (by decide +kernel), List.mem_of_getElem? (i := 1317) (by decide +kernel)⟩
theorem lw_p51 : lw_okq (⟨"WavePlanModel", "boundOf", "(I)I"⟩, 39) := ⟨⟨by decide +kernel, by decide +kernel⟩, List.mem_of_getElem? (i := 970) (by decide +kernel), List.mem_of_getElem? (i := 1320) (by decide +kernel), List.mem_of_getElem? (i := 1321) (by decide +kernel)⟩
theorem lw_p52 : lw_okq (⟨"WavePlanModel", "findParts", "()I"⟩, 39) := ⟨⟨by decide +kernel, by decide +kernel⟩, List.mem_of_getElem? (i := 970) (by decide +kernel), List.mem_of_getElem? (i := 1333) (by decide +kernel), List.mem_of_getElem? (i := 1334) (by decide +kernel)⟩
theorem lw_p53 : lw_okq (⟨"WavePlanModel", "areNear", "(II)Z"⟩, 39) := ⟨⟨by decide +kernel, by decide +kernel⟩, List.mem_of_getElem? (i := 970) (by decide +kernel), List.mem_of_getElem? (i := 1337) (by decide +kernel), List.mem_of_getElem? (i := 1338) (by decide +kernel)⟩
theorem lw_p54 : lw_okq (⟨"WavePlanModel", "withChannel", "()I"⟩, 39) := ⟨⟨by decide +kernel, by decide +kernel⟩, List.mem_of_getElem? (i := 970) (by decide +kernel), List.mem_of_getElem? (i := 1345) (by decide +kernel), List.mem_of_getElem? (i := 1346) (by decide +kernel)⟩
theorem lw_p55 : lw_okq (⟨"WavePlanModel", "bars", "()I"⟩, 39) := ⟨⟨by decide +kernel, by decide +kernel⟩, List.mem_of_getElem? (i := 970) (by decide +kernel), List.mem_of_getElem? (i := 1357) (by decide +kernel), List.mem_of_getElem? (i := 1358) (by decide +kernel)⟩
theorem lw_p56 : lw_okq (⟨"WavePlanModel", "threes", "()I"⟩, 39) := ⟨⟨by decide +kernel, by decide +kernel⟩, List.mem_of_getElem? (i := 970) (by decide +kernel), List.mem_of_getElem? (i := 1361) (by decide +kernel), List.mem_of_getElem? (i := 1362) (by decide +kernel)⟩
theorem lw_p57 : lw_okq (⟨"WavePlanModel", "weightOf", "(I)I"⟩, 39) := ⟨⟨by decide +kernel, by decide +kernel⟩, List.mem_of_getElem? (i := 970) (by decide +kernel), List.mem_of_getElem? (i := 1376) (by decide +kernel), List.mem_of_getElem? (i := 1377) (by decide +kernel)⟩
theorem lw_p58 : lw_okq (⟨"WavePlanModel", "hasPlaces", "(III)Z"⟩, 39) := ⟨⟨by decide +kernel, by decide +kernel⟩, List.mem_of_getElem? (i := 970) (by decide +kernel), List.mem_of_getElem? (i := 1392) (by decide +kernel), List.mem_of_getElem? (i := 1393) (by decide +kernel)⟩
theorem lw_p59 : lw_okq (⟨"WavePlanModel", "denied", "(I)I"⟩, 39) := ⟨⟨by decide +kernel, by decide +kernel⟩, List.mem_of_getElem? (i := 970) (by decide +kernel), List.mem_of_getElem? (i := 1400) (by decide +kernel), List.mem_of_getElem? (i := 1401) (by decide +kernel)⟩
def lw_privs_4 : List (MethodName × Nat) := [(⟨"WavePlanModel", "isHealedByTwo", "()Z"⟩, 39), (⟨"WavePlanModel", "isCrowd", "(I)Z"⟩, 39), (⟨"WavePlanModel", "wantsIn", "(I)I"⟩, 39), (⟨"WavePlanModel", "boundOf", "(I)I"⟩, 39), (⟨"WavePlanModel", "findParts", "()I"⟩, 39), (⟨"WavePlanModel", "areNear", "(II)Z"⟩, 39), (⟨"WavePlanModel", "withChannel", "()I"⟩, 39), (⟨"WavePlanModel", "bars", "()I"⟩, 39), (⟨"WavePlanModel", "threes", "()I"⟩, 39), (⟨"WavePlanModel", "weightOf", "(I)I"⟩, 39), (⟨"WavePlanModel", "hasPlaces", "(III)Z"⟩, 39), (⟨"WavePlanModel", "denied", "(I)I"⟩, 39)]
theorem lw_r4 : ∀ q ∈ lw_privs_4, lw_okq q := List.forall_mem_cons.mpr ⟨lw_p48, List.forall_mem_cons.mpr ⟨lw_p49, List.forall_mem_cons.mpr ⟨lw_p50, List.forall_mem_cons.mpr ⟨lw_p51, List.forall_mem_cons.mpr ⟨lw_p52, List.forall_mem_cons.mpr ⟨lw_p53, List.forall_mem_cons.mpr ⟨lw_p54, List.forall_mem_cons.mpr ⟨lw_p55, List.forall_mem_cons.mpr ⟨lw_p56, List.forall_mem_cons.mpr ⟨lw_p57, List.forall_mem_cons.mpr ⟨lw_p58, List.forall_mem_cons.mpr ⟨lw_p59, fun _ h => absurd h List.not_mem_nil⟩⟩⟩⟩⟩⟩⟩⟩⟩⟩⟩⟩
def lw_privs : List (MethodName × Nat) := lw_privs_1 ++ (lw_privs_2 ++ (lw_privs_3 ++ (lw_privs_4)))
def lw_tbl : List Cond := k2_sels lw_privs ++ tables_1
theorem lw_privs_ok : ∀ q ∈ lw_privs, lw_okq q := by
  show ∀ q ∈ lw_privs_1 ++ (lw_privs_2 ++ (lw_privs_3 ++ (lw_privs_4))), lw_okq q
  exact List.forall_mem_append.mpr ⟨lw_r1, List.forall_mem_append.mpr ⟨lw_r2, List.forall_mem_append.mpr ⟨lw_r3, lw_r4⟩⟩⟩
/-! ===== BEGIN words of one list among another's, by their places ===== -/
theorem goodIn_r {big : List Cond} (ws : List Cond) (ps : List Nat) (hp : ws = ps.filterMap (fun i => big[i]?)) (h : ws.all goodWord = true) : GoodIn big ws := by
  intro w hw
  have h1 := List.all_eq_true.mp h w hw
  rw [hp] at hw
  obtain ⟨i, -, hi⟩ := List.mem_filterMap.mp hw
  have hm : w ∈ big := by first | exact List.mem_of_getElem? hi | exact List.getElem?_mem hi
  exact ⟨hm, good_of_word h1⟩
theorem goodIn_app {big a b : List Cond} (ha : GoodIn big a) (hb : GoodIn big b) : GoodIn big (a ++ b) := fun w h => (List.mem_append.mp h).elim (ha w) (hb w)
theorem goodIn_ca {big a b : List Cond} {c : Cond} (ha : GoodIn big (c :: a)) (hb : GoodIn big b) : GoodIn big (c :: (a ++ b)) := fun w h => (List.mem_cons.mp h).elim (fun e => ha w (List.mem_cons.mpr (Or.inl e))) (fun h => (List.mem_append.mp h).elim (fun h => ha w (List.mem_cons.mpr (Or.inr h))) (hb w))
theorem goodIn_sub {big ws : List Cond} (hm : ∀ w ∈ ws, w ∈ big) (h : ws.all goodWord = true) : GoodIn big ws := fun w hw => ⟨hm w hw, good_of_word (List.all_eq_true.mp h w hw)⟩
/-! ===== END ===== -/
def RX0 : String := "WavePlan$Crowds"
def TX0 : u_T := fun k => match k with
  | 0 => ("WavePlan$Crowds", "land", "LWavePlan$Land;", true)
  | 1 => ("WavePlan$Crowds", "sums", "[I", true)
  | 2 => ("WavePlan$Crowds", "seats", "[I", true)
  | 3 => ("WavePlan$Crowds", "best", "I", false)
  | _ => ("WavePlan$Crowds", "bestBound", "I", false)
def tyX0 : Nat → FieldType := fun k => match k with
  | 0 => .object "WavePlan$Land"
  | 1 => .array .int
  | 2 => .array .int
  | 3 => .int
  | _ => .int
abbrev wsX00 : List Cond := u_ws RX0 TX0 5
theorem nmX0 : ∀ a, a < 5 → ∀ b, b < 5 → a ≠ b → (TX0 a).2.1 ≠ (TX0 b).2.1 := by decide +kernel
theorem tyX0_ok : ∀ k, k < 5 → parseFieldDescriptor (TX0 k).2.2.1 = some (tyX0 k) := by decide +kernel
abbrev cX0_init : ByteArray := prog_2_method_1_code
def yX0_init : MethodName := ⟨RX0, "<init>", "(LWavePlan$Land;)V"⟩
abbrev cX0_isCrowd : ByteArray := prog_2_method_2_code
def yX0_isCrowd : MethodName := ⟨RX0, "isCrowd", "(I)Z"⟩
abbrev cX0_barsAll : ByteArray := prog_2_method_3_code
def yX0_barsAll : MethodName := ⟨RX0, "barsAll", "(II)Z"⟩
abbrev cX0_wantsOf : ByteArray := prog_2_method_4_code
def yX0_wantsOf : MethodName := ⟨RX0, "wantsOf", "(I)I"⟩
abbrev cX0_boundOf : ByteArray := prog_2_method_5_code
def yX0_boundOf : MethodName := ⟨RX0, "boundOf", "(I)I"⟩
abbrev cX0_greatest : ByteArray := prog_2_method_6_code
def yX0_greatest : MethodName := ⟨RX0, "greatest", "()I"⟩
abbrev cX0_grow : ByteArray := prog_2_method_7_code
def yX0_grow : MethodName := ⟨RX0, "grow", "(III)V"⟩
abbrev cX0_consider : ByteArray := prog_2_method_8_code
def yX0_consider : MethodName := ⟨RX0, "consider", "(II)V"⟩
abbrev cX0_seat : ByteArray := prog_2_method_9_code
def yX0_seat : MethodName := ⟨RX0, "seat", "(II)I"⟩
abbrev cX0_sumUp : ByteArray := prog_2_method_10_code
def yX0_sumUp : MethodName := ⟨RX0, "sumUp", "(II)V"⟩
abbrev cX0_leastSum : ByteArray := prog_2_method_11_code
def yX0_leastSum : MethodName := ⟨RX0, "leastSum", "(III)I"⟩
abbrev cX0_boundOfSeated : ByteArray := prog_2_method_12_code
def yX0_boundOfSeated : MethodName := ⟨RX0, "boundOfSeated", "(I)I"⟩
def RX1 : String := "WavePlan$Frontier"
def TX1 : u_T := fun k => match k with
  | 0 => ("WavePlan$Frontier", "line", "I", false)
  | 1 => ("WavePlan$Frontier", "width", "I", false)
  | 2 => ("WavePlan$Frontier", "first", "I", false)
  | _ => ("WavePlan$Frontier", "second", "I", false)
def tyX1 : Nat → FieldType := fun k => match k with
  | 0 => .int
  | 1 => .int
  | 2 => .int
  | _ => .int
abbrev wsX10 : List Cond := u_ws RX1 TX1 4
theorem nmX1 : ∀ a, a < 4 → ∀ b, b < 4 → a ≠ b → (TX1 a).2.1 ≠ (TX1 b).2.1 := by decide +kernel
theorem tyX1_ok : ∀ k, k < 4 → parseFieldDescriptor (TX1 k).2.2.1 = some (tyX1 k) := by decide +kernel
abbrev cX1_init : ByteArray := prog_3_method_1_code
def yX1_init : MethodName := ⟨RX1, "<init>", "()V"⟩
abbrev cX1_tell : ByteArray := prog_3_method_2_code
def yX1_tell : MethodName := ⟨RX1, "tell", "(IIII)V"⟩
abbrev cX1_swap : ByteArray := prog_3_method_3_code
def yX1_swap : MethodName := ⟨RX1, "swap", "()V"⟩
abbrev cX1_allows : ByteArray := prog_3_method_4_code
def yX1_allows : MethodName := ⟨RX1, "allows", "(LWavePlan$Mast;)I"⟩
def RX2 : String := "WavePlan$Judge"
def TX2 : u_T := fun k => match k with
  | 0 => ("WavePlan$Judge", "land", "LWavePlan$Land;", true)
  | _ => ("WavePlan$Judge", "cost", "[I", true)
def tyX2 : Nat → FieldType := fun k => match k with
  | 0 => .object "WavePlan$Land"
  | _ => .array .int
abbrev wsX20 : List Cond := u_ws RX2 TX2 2
theorem nmX2 : ∀ a, a < 2 → ∀ b, b < 2 → a ≠ b → (TX2 a).2.1 ≠ (TX2 b).2.1 := by decide +kernel
theorem tyX2_ok : ∀ k, k < 2 → parseFieldDescriptor (TX2 k).2.2.1 = some (tyX2 k) := by decide +kernel
abbrev cX2_init : ByteArray := prog_4_method_1_code
def yX2_init : MethodName := ⟨RX2, "<init>", "(LWavePlan$Land;)V"⟩
abbrev cX2_served : ByteArray := prog_4_method_2_code
def yX2_served : MethodName := ⟨RX2, "served", "([I)I"⟩
abbrev cX2_totalHarm : ByteArray := prog_4_method_3_code
def yX2_totalHarm : MethodName := ⟨RX2, "totalHarm", "([I)I"⟩
abbrev cX2_lackOf : ByteArray := prog_4_method_4_code
def yX2_lackOf : MethodName := ⟨RX2, "lackOf", "([III)I"⟩
abbrev cX2_lackAt : ByteArray := prog_4_method_5_code
def yX2_lackAt : MethodName := ⟨RX2, "lackAt", "(IIII)I"⟩
abbrev cX2_lackingTwos : ByteArray := prog_4_method_6_code
def yX2_lackingTwos : MethodName := ⟨RX2, "lackingTwos", "([I)I"⟩
abbrev cX2_lacks : ByteArray := prog_4_method_7_code
def yX2_lacks : MethodName := ⟨RX2, "lacks", "([I)I"⟩
abbrev cX2_sums : ByteArray := prog_4_method_8_code
def yX2_sums : MethodName := ⟨RX2, "sums", "([I)I"⟩
abbrev cX2_sumTogether : ByteArray := prog_4_method_9_code
def yX2_sumTogether : MethodName := ⟨RX2, "sumTogether", "([IIII)Z"⟩
abbrev cX2_sumsOfThree : ByteArray := prog_4_method_10_code
def yX2_sumsOfThree : MethodName := ⟨RX2, "sumsOfThree", "([IIII)I"⟩
abbrev cX2_strayBits : ByteArray := prog_4_method_11_code
def yX2_strayBits : MethodName := ⟨RX2, "strayBits", "([I)I"⟩
abbrev cX2_isClean : ByteArray := prog_4_method_12_code
def yX2_isClean : MethodName := ⟨RX2, "isClean", "([I)Z"⟩
abbrev cX2_freeChannels : ByteArray := prog_4_method_13_code
def yX2_freeChannels : MethodName := ⟨RX2, "freeChannels", "([III)I"⟩
abbrev cX2_sumMates : ByteArray := prog_4_method_14_code
def yX2_sumMates : MethodName := ⟨RX2, "sumMates", "([IIII)Z"⟩
abbrev cX2_tooNear : ByteArray := prog_4_method_15_code
def yX2_tooNear : MethodName := ⟨RX2, "tooNear", "([III)J"⟩
abbrev cX2_sumTargets : ByteArray := prog_4_method_16_code
def yX2_sumTargets : MethodName := ⟨RX2, "sumTargets", "([III)J"⟩
abbrev cX2_bitOf : ByteArray := prog_4_method_17_code
def yX2_bitOf : MethodName := ⟨RX2, "bitOf", "(I)J"⟩
abbrev cX2_weigh : ByteArray := prog_4_method_18_code
def yX2_weigh : MethodName := ⟨RX2, "weigh", "([II)[I"⟩
abbrev cX2_addLacks : ByteArray := prog_4_method_19_code
def yX2_addLacks : MethodName := ⟨RX2, "addLacks", "([III)V"⟩
abbrev cX2_addSums : ByteArray := prog_4_method_20_code
def yX2_addSums : MethodName := ⟨RX2, "addSums", "([IIII)V"⟩
abbrev cX2_addSumAt : ByteArray := prog_4_method_21_code
def yX2_addSumAt : MethodName := ⟨RX2, "addSumAt", "(II)V"⟩
def RX3 : String := "WavePlan$Land"
def TX3 : u_T := fun k => match k with
  | 0 => ("WavePlan$Land", "masts", "[LWavePlan$Mast;", true)
  | 1 => ("WavePlan$Land", "mastOf", "[I", true)
  | 2 => ("WavePlan$Land", "told", "[I", true)
  | 3 => ("WavePlan$Land", "table", "LWavePlan$Table;", true)
  | 4 => ("WavePlan$Land", "frontier", "LWavePlan$Frontier;", true)
  | 5 => ("WavePlan$Land", "bars", "[I", true)
  | 6 => ("WavePlan$Land", "near", "[I", true)
  | 7 => ("WavePlan$Land", "mastCount", "I", false)
  | 8 => ("WavePlan$Land", "wantCount", "I", false)
  | 9 => ("WavePlan$Land", "ownBar", "I", false)
  | _ => ("WavePlan$Land", "sumReach", "I", false)
def tyX3 : Nat → FieldType := fun k => match k with
  | 0 => .array (.object "WavePlan$Mast")
  | 1 => .array .int
  | 2 => .array .int
  | 3 => .object "WavePlan$Table"
  | 4 => .object "WavePlan$Frontier"
  | 5 => .array .int
  | 6 => .array .int
  | 7 => .int
  | 8 => .int
  | 9 => .int
  | _ => .int
abbrev wsX30 : List Cond := u_ws RX3 TX3 11
theorem nmX3 : ∀ a, a < 11 → ∀ b, b < 11 → a ≠ b → (TX3 a).2.1 ≠ (TX3 b).2.1 := by decide +kernel
theorem tyX3_ok : ∀ k, k < 11 → parseFieldDescriptor (TX3 k).2.2.1 = some (tyX3 k) := by decide +kernel
abbrev cX3_init : ByteArray := prog_5_method_1_code
def yX3_init : MethodName := ⟨RX3, "<init>", "()V"⟩
abbrev cX3_hasMast : ByteArray := prog_5_method_2_code
def yX3_hasMast : MethodName := ⟨RX3, "hasMast", "(I)Z"⟩
abbrev cX3_hasWant : ByteArray := prog_5_method_3_code
def yX3_hasWant : MethodName := ⟨RX3, "hasWant", "(I)Z"⟩
abbrev cX3_addMast : ByteArray := prog_5_method_4_code
def yX3_addMast : MethodName := ⟨RX3, "addMast", "(IIII)I"⟩
abbrev cX3_shift : ByteArray := prog_5_method_5_code
def yX3_shift : MethodName := ⟨RX3, "shift", "(II)I"⟩
abbrev cX3_measure : ByteArray := prog_5_method_6_code
def yX3_measure : MethodName := ⟨RX3, "measure", "()V"⟩
abbrev cX3_freshBar : ByteArray := prog_5_method_7_code
def yX3_freshBar : MethodName := ⟨RX3, "freshBar", "(II)I"⟩
abbrev cX3_square : ByteArray := prog_5_method_8_code
def yX3_square : MethodName := ⟨RX3, "square", "(II)I"⟩
abbrev cX3_barOf : ByteArray := prog_5_method_9_code
def yX3_barOf : MethodName := ⟨RX3, "barOf", "(II)I"⟩
abbrev cX3_barOfWants : ByteArray := prog_5_method_10_code
def yX3_barOfWants : MethodName := ⟨RX3, "barOfWants", "(II)I"⟩
abbrev cX3_areNear : ByteArray := prog_5_method_11_code
def yX3_areNear : MethodName := ⟨RX3, "areNear", "(II)Z"⟩
abbrev cX3_areIn : ByteArray := prog_5_method_12_code
def yX3_areIn : MethodName := ⟨RX3, "areIn", "(III)Z"⟩
abbrev cX3_kindOfWant : ByteArray := prog_5_method_13_code
def yX3_kindOfWant : MethodName := ⟨RX3, "kindOfWant", "(I)I"⟩
abbrev cX3_gapOf : ByteArray := prog_5_method_14_code
def yX3_gapOf : MethodName := ⟨RX3, "gapOf", "(I)I"⟩
abbrev cX3_allowed : ByteArray := prog_5_method_15_code
def yX3_allowed : MethodName := ⟨RX3, "allowed", "(I)I"⟩
abbrev cX3_barredTwos : ByteArray := prog_5_method_16_code
def yX3_barredTwos : MethodName := ⟨RX3, "barredTwos", "()I"⟩
abbrev cX3_threesIn : ByteArray := prog_5_method_17_code
def yX3_threesIn : MethodName := ⟨RX3, "threesIn", "()I"⟩
abbrev cX3_parts : ByteArray := prog_5_method_18_code
def yX3_parts : MethodName := ⟨RX3, "parts", "()I"⟩
abbrev cX3_partOf : ByteArray := prog_5_method_19_code
def yX3_partOf : MethodName := ⟨RX3, "partOf", "(I)I"⟩
abbrev cX3_partAround : ByteArray := prog_5_method_20_code
def yX3_partAround : MethodName := ⟨RX3, "partAround", "(I)I"⟩
abbrev cX3_joinedTo : ByteArray := prog_5_method_21_code
def yX3_joinedTo : MethodName := ⟨RX3, "joinedTo", "(I)I"⟩
def RX4 : String := "WavePlan$Mast"
def TX4 : u_T := fun k => match k with
  | 0 => ("WavePlan$Mast", "number", "I", false)
  | 1 => ("WavePlan$Mast", "kind", "I", false)
  | 2 => ("WavePlan$Mast", "x", "I", false)
  | 3 => ("WavePlan$Mast", "y", "I", false)
  | 4 => ("WavePlan$Mast", "strength", "I", false)
  | 5 => ("WavePlan$Mast", "wants", "I", false)
  | 6 => ("WavePlan$Mast", "firstWant", "I", false)
  | 7 => ("WavePlan$Mast", "channels", "I", false)
  | _ => ("WavePlan$Mast", "distance", "I", false)
def tyX4 : Nat → FieldType := fun k => match k with
  | 0 => .int
  | 1 => .int
  | 2 => .int
  | 3 => .int
  | 4 => .int
  | 5 => .int
  | 6 => .int
  | 7 => .int
  | _ => .int
abbrev wsX40 : List Cond := u_ws RX4 TX4 9
theorem nmX4 : ∀ a, a < 9 → ∀ b, b < 9 → a ≠ b → (TX4 a).2.1 ≠ (TX4 b).2.1 := by decide +kernel
theorem tyX4_ok : ∀ k, k < 9 → parseFieldDescriptor (TX4 k).2.2.1 = some (tyX4 k) := by decide +kernel
abbrev cX4_init : ByteArray := prog_6_method_1_code
def yX4_init : MethodName := ⟨RX4, "<init>", "()V"⟩
abbrev cX4_begin : ByteArray := prog_6_method_2_code
def yX4_begin : MethodName := ⟨RX4, "begin", "(IIIIII)V"⟩
abbrev cX4_goTo : ByteArray := prog_6_method_3_code
def yX4_goTo : MethodName := ⟨RX4, "goTo", "(I)V"⟩
abbrev cX4_takeAll : ByteArray := prog_6_method_4_code
def yX4_takeAll : MethodName := ⟨RX4, "takeAll", "(LWavePlan$Mast;)V"⟩
abbrev cX4_trait : ByteArray := prog_6_method_5_code
def yX4_trait : MethodName := ⟨RX4, "trait", "(I)I"⟩
abbrev cX4_heaviness : ByteArray := prog_6_method_6_code
def yX4_heaviness : MethodName := ⟨RX4, "heaviness", "()I"⟩
abbrev cX4_fail : ByteArray := prog_6_method_7_code
def yX4_fail : MethodName := ⟨RX4, "fail", "()V"⟩
def RX5 : String := "WavePlan$Mender"
def TX5 : u_T := fun k => match k with
  | 0 => ("WavePlan$Mender", "land", "LWavePlan$Land;", true)
  | _ => ("WavePlan$Mender", "judge", "LWavePlan$Judge;", true)
def tyX5 : Nat → FieldType := fun k => match k with
  | 0 => .object "WavePlan$Land"
  | _ => .object "WavePlan$Judge"
abbrev wsX50 : List Cond := u_ws RX5 TX5 2
theorem nmX5 : ∀ a, a < 2 → ∀ b, b < 2 → a ≠ b → (TX5 a).2.1 ≠ (TX5 b).2.1 := by decide +kernel
theorem tyX5_ok : ∀ k, k < 2 → parseFieldDescriptor (TX5 k).2.2.1 = some (tyX5 k) := by decide +kernel
abbrev cX5_init : ByteArray := prog_7_method_1_code
def yX5_init : MethodName := ⟨RX5, "<init>", "(LWavePlan$Land;LWavePlan$Judge;)V"⟩
abbrev cX5_canChange : ByteArray := prog_7_method_2_code
def yX5_canChange : MethodName := ⟨RX5, "canChange", "([II)Z"⟩
abbrev cX5_improve : ByteArray := prog_7_method_3_code
def yX5_improve : MethodName := ⟨RX5, "improve", "([I)Z"⟩
abbrev cX5_changeOne : ByteArray := prog_7_method_4_code
def yX5_changeOne : MethodName := ⟨RX5, "changeOne", "([I)Z"⟩
abbrev cX5_changeTwo : ByteArray := prog_7_method_5_code
def yX5_changeTwo : MethodName := ⟨RX5, "changeTwo", "([I)Z"⟩
abbrev cX5_changeBoth : ByteArray := prog_7_method_6_code
def yX5_changeBoth : MethodName := ⟨RX5, "changeBoth", "([III)Z"⟩
abbrev cX5_leastFree : ByteArray := prog_7_method_7_code
def yX5_leastFree : MethodName := ⟨RX5, "leastFree", "([III)I"⟩
def RX6 : String := "WavePlan$Shelf"
def TX6 : u_T := fun k => match k with
  | 0 => ("WavePlan$Shelf", "mast", "LWavePlan$Mast;", true)
  | 1 => ("WavePlan$Shelf", "bytes", "[B", true)
  | 2 => ("WavePlan$Shelf", "longs", "[J", true)
  | 3 => ("WavePlan$Shelf", "held", "I", false)
  | _ => ("WavePlan$Shelf", "length", "I", false)
def tyX6 : Nat → FieldType := fun k => match k with
  | 0 => .object "WavePlan$Mast"
  | 1 => .array .byte
  | 2 => .array .long
  | 3 => .int
  | _ => .int
abbrev wsX60 : List Cond := u_ws RX6 TX6 5
theorem nmX6 : ∀ a, a < 5 → ∀ b, b < 5 → a ≠ b → (TX6 a).2.1 ≠ (TX6 b).2.1 := by decide +kernel
theorem tyX6_ok : ∀ k, k < 5 → parseFieldDescriptor (TX6 k).2.2.1 = some (tyX6 k) := by decide +kernel
abbrev cX6_init : ByteArray := prog_8_method_1_code
def yX6_init : MethodName := ⟨RX6, "<init>", "()V"⟩
abbrev cX6_clear : ByteArray := prog_8_method_2_code
def yX6_clear : MethodName := ⟨RX6, "clear", "()V"⟩
abbrev cX6_takeMast : ByteArray := prog_8_method_3_code
def yX6_takeMast : MethodName := ⟨RX6, "takeMast", "(LWavePlan$Mast;)V"⟩
abbrev cX6_takeChannels : ByteArray := prog_8_method_4_code
def yX6_takeChannels : MethodName := ⟨RX6, "takeChannels", "([II)V"⟩
abbrev cX6_takeSquares : ByteArray := prog_8_method_5_code
def yX6_takeSquares : MethodName := ⟨RX6, "takeSquares", "(LWavePlan$Land;I)V"⟩
abbrev cX6_takeZeros : ByteArray := prog_8_method_6_code
def yX6_takeZeros : MethodName := ⟨RX6, "takeZeros", "(II)V"⟩
abbrev cX6_isRow : ByteArray := prog_8_method_7_code
def yX6_isRow : MethodName := ⟨RX6, "isRow", "()Z"⟩
abbrev cX6_hasRange : ByteArray := prog_8_method_8_code
def yX6_hasRange : MethodName := ⟨RX6, "hasRange", "(II)Z"⟩
abbrev cX6_at : ByteArray := prog_8_method_9_code
def yX6_at : MethodName := ⟨RX6, "at", "(I)J"⟩
abbrev cX6_copyTo : ByteArray := prog_8_method_10_code
def yX6_copyTo : MethodName := ⟨RX6, "copyTo", "(ILWavePlan$Shelf;II)V"⟩
def RX7 : String := "WavePlan$Table"
def TX7 : u_T := fun k => match k with
  | 0 => ("WavePlan$Table", "limits", "[I", true)
  | 1 => ("WavePlan$Table", "powers", "[I", true)
  | 2 => ("WavePlan$Table", "bars", "[I", true)
  | _ => ("WavePlan$Table", "rows", "I", false)
def tyX7 : Nat → FieldType := fun k => match k with
  | 0 => .array .int
  | 1 => .array .int
  | 2 => .array .int
  | _ => .int
abbrev wsX70 : List Cond := u_ws RX7 TX7 4
theorem nmX7 : ∀ a, a < 4 → ∀ b, b < 4 → a ≠ b → (TX7 a).2.1 ≠ (TX7 b).2.1 := by decide +kernel
theorem tyX7_ok : ∀ k, k < 4 → parseFieldDescriptor (TX7 k).2.2.1 = some (tyX7 k) := by decide +kernel
abbrev cX7_init : ByteArray := prog_9_method_1_code
def yX7_init : MethodName := ⟨RX7, "<init>", "()V"⟩
abbrev cX7_add : ByteArray := prog_9_method_2_code
def yX7_add : MethodName := ⟨RX7, "add", "(III)V"⟩
abbrev cX7_greatest : ByteArray := prog_9_method_3_code
def yX7_greatest : MethodName := ⟨RX7, "greatest", "(II)I"⟩
def RX8 : String := "WavePlan$Trier"
def TX8 : u_T := fun k => match k with
  | 0 => ("WavePlan$Trier", "land", "LWavePlan$Land;", true)
  | 1 => ("WavePlan$Trier", "judge", "LWavePlan$Judge;", true)
  | 2 => ("WavePlan$Trier", "trial", "[I", true)
  | 3 => ("WavePlan$Trier", "next", "[I", true)
  | 4 => ("WavePlan$Trier", "usable", "[I", true)
  | _ => ("WavePlan$Trier", "made", "I", false)
def tyX8 : Nat → FieldType := fun k => match k with
  | 0 => .object "WavePlan$Land"
  | 1 => .object "WavePlan$Judge"
  | 2 => .array .int
  | 3 => .array .int
  | 4 => .array .int
  | _ => .int
abbrev wsX80 : List Cond := u_ws RX8 TX8 6
theorem nmX8 : ∀ a, a < 6 → ∀ b, b < 6 → a ≠ b → (TX8 a).2.1 ≠ (TX8 b).2.1 := by decide +kernel
theorem tyX8_ok : ∀ k, k < 6 → parseFieldDescriptor (TX8 k).2.2.1 = some (tyX8 k) := by decide +kernel
abbrev cX8_init : ByteArray := prog_10_method_1_code
def yX8_init : MethodName := ⟨RX8, "<init>", "(LWavePlan$Land;LWavePlan$Judge;)V"⟩
abbrev cX8_search : ByteArray := prog_10_method_2_code
def yX8_search : MethodName := ⟨RX8, "search", "(I)I"⟩
abbrev cX8_handOver : ByteArray := prog_10_method_3_code
def yX8_handOver : MethodName := ⟨RX8, "handOver", "([I)V"⟩
abbrev cX8_open : ByteArray := prog_10_method_4_code
def yX8_open : MethodName := ⟨RX8, "open", "(II)V"⟩
abbrev cX8_takes : ByteArray := prog_10_method_5_code
def yX8_takes : MethodName := ⟨RX8, "takes", "(I)Z"⟩
abbrev cX8_below : ByteArray := prog_10_method_6_code
def yX8_below : MethodName := ⟨RX8, "below", "(I)I"⟩
def RX9 : String := "WavePlan"
def TX9 : u_T := fun k => match k with
  | 0 => ("WavePlan", "land", "LWavePlan$Land;", true)
  | 1 => ("WavePlan", "judge", "LWavePlan$Judge;", true)
  | 2 => ("WavePlan", "trier", "LWavePlan$Trier;", true)
  | 3 => ("WavePlan", "mender", "LWavePlan$Mender;", true)
  | 4 => ("WavePlan", "crowds", "LWavePlan$Crowds;", true)
  | 5 => ("WavePlan", "shelves", "[LWavePlan$Shelf;", true)
  | 6 => ("WavePlan", "chosen", "[I", true)
  | 7 => ("WavePlan", "imaged", "[I", true)
  | _ => ("WavePlan", "imagedWants", "I", false)
def tyX9 : Nat → FieldType := fun k => match k with
  | 0 => .object "WavePlan$Land"
  | 1 => .object "WavePlan$Judge"
  | 2 => .object "WavePlan$Trier"
  | 3 => .object "WavePlan$Mender"
  | 4 => .object "WavePlan$Crowds"
  | 5 => .array (.object "WavePlan$Shelf")
  | 6 => .array .int
  | 7 => .array .int
  | _ => .int
abbrev wsX90 : List Cond := u_ws RX9 TX9 9
theorem nmX9 : ∀ a, a < 9 → ∀ b, b < 9 → a ≠ b → (TX9 a).2.1 ≠ (TX9 b).2.1 := by decide +kernel
theorem tyX9_ok : ∀ k, k < 9 → parseFieldDescriptor (TX9 k).2.2.1 = some (tyX9 k) := by decide +kernel
abbrev cX9_init : ByteArray := prog_1_method_1_code
def yX9_init : MethodName := ⟨RX9, "<init>", "()V"⟩
abbrev cX9_mast : ByteArray := prog_1_method_2_code
def yX9_mast : MethodName := ⟨RX9, "mast", "(IIII)I"⟩
abbrev cX9_move : ByteArray := prog_1_method_3_code
def yX9_move : MethodName := ⟨RX9, "move", "(II)I"⟩
abbrev cX9_list : ByteArray := prog_1_method_4_code
def yX9_list : MethodName := ⟨RX9, "list", "(II)I"⟩
abbrev cX9_gap : ByteArray := prog_1_method_5_code
def yX9_gap : MethodName := ⟨RX9, "gap", "(II)I"⟩
abbrev cX9_stay : ByteArray := prog_1_method_6_code
def yX9_stay : MethodName := ⟨RX9, "stay", "(II)I"⟩
abbrev cX9_row : ByteArray := prog_1_method_7_code
def yX9_row : MethodName := ⟨RX9, "row", "(III)I"⟩
abbrev cX9_own : ByteArray := prog_1_method_8_code
def yX9_own : MethodName := ⟨RX9, "own", "(II)I"⟩
abbrev cX9_border : ByteArray := prog_1_method_9_code
def yX9_border : MethodName := ⟨RX9, "border", "(IIII)I"⟩
abbrev cX9_turn : ByteArray := prog_1_method_10_code
def yX9_turn : MethodName := ⟨RX9, "turn", "()I"⟩
abbrev cX9_bar : ByteArray := prog_1_method_11_code
def yX9_bar : MethodName := ⟨RX9, "bar", "(II)I"⟩
abbrev cX9_may : ByteArray := prog_1_method_12_code
def yX9_may : MethodName := ⟨RX9, "may", "(II)I"⟩
abbrev cX9_set : ByteArray := prog_1_method_13_code
def yX9_set : MethodName := ⟨RX9, "set", "(II)I"⟩
abbrev cX9_channel : ByteArray := prog_1_method_14_code
def yX9_channel : MethodName := ⟨RX9, "channel", "(I)I"⟩
abbrev cX9_of : ByteArray := prog_1_method_15_code
def yX9_of : MethodName := ⟨RX9, "of", "(I)I"⟩
abbrev cX9_harm : ByteArray := prog_1_method_16_code
def yX9_harm : MethodName := ⟨RX9, "harm", "()I"⟩
abbrev cX9_kept : ByteArray := prog_1_method_17_code
def yX9_kept : MethodName := ⟨RX9, "kept", "()I"⟩
abbrev cX9_broken : ByteArray := prog_1_method_18_code
def yX9_broken : MethodName := ⟨RX9, "broken", "(I)I"⟩
abbrev cX9_pair : ByteArray := prog_1_method_19_code
def yX9_pair : MethodName := ⟨RX9, "pair", "(II)I"⟩
abbrev cX9_plan : ByteArray := prog_1_method_20_code
def yX9_plan : MethodName := ⟨RX9, "plan", "(I)I"⟩
abbrev cX9_tries : ByteArray := prog_1_method_21_code
def yX9_tries : MethodName := ⟨RX9, "tries", "()I"⟩
abbrev cX9_least : ByteArray := prog_1_method_22_code
def yX9_least : MethodName := ⟨RX9, "least", "()I"⟩
abbrev cX9_span : ByteArray := prog_1_method_23_code
def yX9_span : MethodName := ⟨RX9, "span", "()I"⟩
abbrev cX9_better : ByteArray := prog_1_method_24_code
def yX9_better : MethodName := ⟨RX9, "better", "(I)I"⟩
abbrev cX9_fewest : ByteArray := prog_1_method_25_code
def yX9_fewest : MethodName := ⟨RX9, "fewest", "(I)I"⟩
abbrev cX9_bound : ByteArray := prog_1_method_26_code
def yX9_bound : MethodName := ⟨RX9, "bound", "(I)I"⟩
abbrev cX9_crowd : ByteArray := prog_1_method_27_code
def yX9_crowd : MethodName := ⟨RX9, "crowd", "()I"⟩
abbrev cX9_part : ByteArray := prog_1_method_28_code
def yX9_part : MethodName := ⟨RX9, "part", "(I)I"⟩
abbrev cX9_image : ByteArray := prog_1_method_29_code
def yX9_image : MethodName := ⟨RX9, "image", "()I"⟩
abbrev cX9_restore : ByteArray := prog_1_method_30_code
def yX9_restore : MethodName := ⟨RX9, "restore", "()I"⟩
abbrev cX9_count : ByteArray := prog_1_method_31_code
def yX9_count : MethodName := ⟨RX9, "count", "(I)I"⟩
abbrev cX9_look : ByteArray := prog_1_method_32_code
def yX9_look : MethodName := ⟨RX9, "look", "(II)I"⟩
abbrev cX9_keep : ByteArray := prog_1_method_33_code
def yX9_keep : MethodName := ⟨RX9, "keep", "(III)I"⟩
abbrev cX9_make : ByteArray := prog_1_method_34_code
def yX9_make : MethodName := ⟨RX9, "make", "(III)I"⟩
abbrev cX9_element : ByteArray := prog_1_method_35_code
def yX9_element : MethodName := ⟨RX9, "element", "(II)J"⟩
abbrev cX9_copy : ByteArray := prog_1_method_36_code
def yX9_copy : MethodName := ⟨RX9, "copy", "(IIIII)I"⟩
abbrev cX9_weight : ByteArray := prog_1_method_37_code
def yX9_weight : MethodName := ⟨RX9, "weight", "(I)I"⟩
abbrev cX9_toss : ByteArray := prog_1_method_38_code
def yX9_toss : MethodName := ⟨RX9, "toss", "(I)I"⟩
abbrev cX9_refusalOfMast : ByteArray := prog_1_method_39_code
def yX9_refusalOfMast : MethodName := ⟨RX9, "refusalOfMast", "(I)I"⟩
abbrev cX9_isShelf : ByteArray := prog_1_method_40_code
def yX9_isShelf : MethodName := ⟨RX9, "isShelf", "(I)Z"⟩
abbrev cX9_isPlace : ByteArray := prog_1_method_41_code
def yX9_isPlace : MethodName := ⟨RX9, "isPlace", "(I)Z"⟩
abbrev cX9_within : ByteArray := prog_1_method_42_code
def yX9_within : MethodName := ⟨RX9, "within", "(III)Z"⟩
def RX10 : String := "WavePlanModel"
def TX10 : u_T := fun k => match k with
  | 0 => ("WavePlanModel", "thrown", "I", false)
  | 1 => ("WavePlanModel", "masts", "I", false)
  | 2 => ("WavePlanModel", "kind", "[I", true)
  | 3 => ("WavePlanModel", "px", "[I", true)
  | 4 => ("WavePlanModel", "py", "[I", true)
  | 5 => ("WavePlanModel", "power", "[I", true)
  | 6 => ("WavePlanModel", "many", "[I", true)
  | 7 => ("WavePlanModel", "firstWant", "[I", true)
  | 8 => ("WavePlanModel", "list", "[I", true)
  | 9 => ("WavePlanModel", "gap", "[I", true)
  | 10 => ("WavePlanModel", "wants", "I", false)
  | 11 => ("WavePlanModel", "mastOf", "[I", true)
  | 12 => ("WavePlanModel", "stays", "[I", true)
  | 13 => ("WavePlanModel", "has", "[I", true)
  | 14 => ("WavePlanModel", "rows", "I", false)
  | 15 => ("WavePlanModel", "rowLimit", "[I", true)
  | 16 => ("WavePlanModel", "rowPower", "[I", true)
  | 17 => ("WavePlanModel", "rowBar", "[I", true)
  | 18 => ("WavePlanModel", "own", "I", false)
  | 19 => ("WavePlanModel", "sums", "I", false)
  | 20 => ("WavePlanModel", "line", "I", false)
  | 21 => ("WavePlanModel", "border", "I", false)
  | 22 => ("WavePlanModel", "firstSet", "I", false)
  | 23 => ("WavePlanModel", "secondSet", "I", false)
  | 24 => ("WavePlanModel", "before", "[I", true)
  | 25 => ("WavePlanModel", "tries", "I", false)
  | 26 => ("WavePlanModel", "spent", "Z", false)
  | 27 => ("WavePlanModel", "kept", "[I", true)
  | 28 => ("WavePlanModel", "crowdWant", "[I", true)
  | 29 => ("WavePlanModel", "best", "[I", true)
  | 30 => ("WavePlanModel", "partOf", "[I", true)
  | 31 => ("WavePlanModel", "imageWants", "I", false)
  | 32 => ("WavePlanModel", "image", "[I", true)
  | 33 => ("WavePlanModel", "shelf", "[I", true)
  | 34 => ("WavePlanModel", "shelfSize", "[I", true)
  | 35 => ("WavePlanModel", "shelfWeight", "[I", true)
  | 36 => ("WavePlanModel", "shelfFailure", "[I", true)
  | 37 => ("WavePlanModel", "shelfRow", "[J", true)
  | _ => ("WavePlanModel", "between", "[J", true)
def tyX10 : Nat → FieldType := fun k => match k with
  | 0 => .int
  | 1 => .int
  | 2 => .array .int
  | 3 => .array .int
  | 4 => .array .int
  | 5 => .array .int
  | 6 => .array .int
  | 7 => .array .int
  | 8 => .array .int
  | 9 => .array .int
  | 10 => .int
  | 11 => .array .int
  | 12 => .array .int
  | 13 => .array .int
  | 14 => .int
  | 15 => .array .int
  | 16 => .array .int
  | 17 => .array .int
  | 18 => .int
  | 19 => .int
  | 20 => .int
  | 21 => .int
  | 22 => .int
  | 23 => .int
  | 24 => .array .int
  | 25 => .int
  | 26 => .boolean
  | 27 => .array .int
  | 28 => .array .int
  | 29 => .array .int
  | 30 => .array .int
  | 31 => .int
  | 32 => .array .int
  | 33 => .array .int
  | 34 => .array .int
  | 35 => .array .int
  | 36 => .array .int
  | 37 => .array .long
  | _ => .array .long
abbrev wsX100 : List Cond := u_ws RX10 TX10 39
theorem nmX10 : ∀ a, a < 39 → ∀ b, b < 39 → a ≠ b → (TX10 a).2.1 ≠ (TX10 b).2.1 := by decide +kernel
theorem tyX10_ok : ∀ k, k < 39 → parseFieldDescriptor (TX10 k).2.2.1 = some (tyX10 k) := by decide +kernel
abbrev cX10_init : ByteArray := prog_12_method_1_code
def yX10_init : MethodName := ⟨RX10, "<init>", "()V"⟩
abbrev cX10_thrown : ByteArray := prog_12_method_2_code
def yX10_thrown : MethodName := ⟨RX10, "thrown", "()I"⟩
abbrev cX10_isIn : ByteArray := prog_12_method_3_code
def yX10_isIn : MethodName := ⟨RX10, "isIn", "(JJJ)Z"⟩
abbrev cX10_isMast : ByteArray := prog_12_method_4_code
def yX10_isMast : MethodName := ⟨RX10, "isMast", "(I)Z"⟩
abbrev cX10_isWant : ByteArray := prog_12_method_5_code
def yX10_isWant : MethodName := ⟨RX10, "isWant", "(I)Z"⟩
abbrev cX10_isPlace : ByteArray := prog_12_method_6_code
def yX10_isPlace : MethodName := ⟨RX10, "isPlace", "(I)Z"⟩
abbrev cX10_isSet : ByteArray := prog_12_method_7_code
def yX10_isSet : MethodName := ⟨RX10, "isSet", "(I)Z"⟩
abbrev cX10_mast : ByteArray := prog_12_method_8_code
def yX10_mast : MethodName := ⟨RX10, "mast", "(IIII)I"⟩
abbrev cX10_square : ByteArray := prog_12_method_9_code
def yX10_square : MethodName := ⟨RX10, "square", "(II)I"⟩
abbrev cX10_barOf : ByteArray := prog_12_method_10_code
def yX10_barOf : MethodName := ⟨RX10, "barOf", "(II)I"⟩
abbrev cX10_move : ByteArray := prog_12_method_11_code
def yX10_move : MethodName := ⟨RX10, "move", "(II)I"⟩
abbrev cX10_countBits : ByteArray := prog_12_method_12_code
def yX10_countBits : MethodName := ⟨RX10, "countBits", "(I)I"⟩
abbrev cX10_list : ByteArray := prog_12_method_13_code
def yX10_list : MethodName := ⟨RX10, "list", "(II)I"⟩
abbrev cX10_gap : ByteArray := prog_12_method_14_code
def yX10_gap : MethodName := ⟨RX10, "gap", "(II)I"⟩
abbrev cX10_stay : ByteArray := prog_12_method_15_code
def yX10_stay : MethodName := ⟨RX10, "stay", "(II)I"⟩
abbrev cX10_row : ByteArray := prog_12_method_16_code
def yX10_row : MethodName := ⟨RX10, "row", "(III)I"⟩
abbrev cX10_own : ByteArray := prog_12_method_17_code
def yX10_own : MethodName := ⟨RX10, "own", "(II)I"⟩
abbrev cX10_border : ByteArray := prog_12_method_18_code
def yX10_border : MethodName := ⟨RX10, "border", "(IIII)I"⟩
abbrev cX10_isFree : ByteArray := prog_12_method_19_code
def yX10_isFree : MethodName := ⟨RX10, "isFree", "(II)Z"⟩
abbrev cX10_isListed : ByteArray := prog_12_method_20_code
def yX10_isListed : MethodName := ⟨RX10, "isListed", "(II)Z"⟩
abbrev cX10_mayHave : ByteArray := prog_12_method_21_code
def yX10_mayHave : MethodName := ⟨RX10, "mayHave", "(II)Z"⟩
abbrev cX10_turn : ByteArray := prog_12_method_22_code
def yX10_turn : MethodName := ⟨RX10, "turn", "()I"⟩
abbrev cX10_bar : ByteArray := prog_12_method_23_code
def yX10_bar : MethodName := ⟨RX10, "bar", "(II)I"⟩
abbrev cX10_may : ByteArray := prog_12_method_24_code
def yX10_may : MethodName := ⟨RX10, "may", "(II)I"⟩
abbrev cX10_set : ByteArray := prog_12_method_25_code
def yX10_set : MethodName := ⟨RX10, "set", "(II)I"⟩
abbrev cX10_channel : ByteArray := prog_12_method_26_code
def yX10_channel : MethodName := ⟨RX10, "channel", "(I)I"⟩
abbrev cX10_of : ByteArray := prog_12_method_27_code
def yX10_of : MethodName := ⟨RX10, "of", "(I)I"⟩
abbrev cX10_channelOf : ByteArray := prog_12_method_28_code
def yX10_channelOf : MethodName := ⟨RX10, "channelOf", "(II)I"⟩
abbrev cX10_channelsOf : ByteArray := prog_12_method_29_code
def yX10_channelsOf : MethodName := ⟨RX10, "channelsOf", "(I)I"⟩
abbrev cX10_lack : ByteArray := prog_12_method_30_code
def yX10_lack : MethodName := ⟨RX10, "lack", "(II)I"⟩
abbrev cX10_areIn : ByteArray := prog_12_method_31_code
def yX10_areIn : MethodName := ⟨RX10, "areIn", "(III)Z"⟩
abbrev cX10_middles : ByteArray := prog_12_method_32_code
def yX10_middles : MethodName := ⟨RX10, "middles", "(III)I"⟩
abbrev cX10_brokenOf : ByteArray := prog_12_method_33_code
def yX10_brokenOf : MethodName := ⟨RX10, "brokenOf", "(I)I"⟩
abbrev cX10_harmNow : ByteArray := prog_12_method_34_code
def yX10_harmNow : MethodName := ⟨RX10, "harmNow", "()I"⟩
abbrev cX10_harm : ByteArray := prog_12_method_35_code
def yX10_harm : MethodName := ⟨RX10, "harm", "()I"⟩
abbrev cX10_kept : ByteArray := prog_12_method_36_code
def yX10_kept : MethodName := ⟨RX10, "kept", "()I"⟩
abbrev cX10_broken : ByteArray := prog_12_method_37_code
def yX10_broken : MethodName := ⟨RX10, "broken", "(I)I"⟩
abbrev cX10_pair : ByteArray := prog_12_method_38_code
def yX10_pair : MethodName := ⟨RX10, "pair", "(II)I"⟩
abbrev cX10_isFine : ByteArray := prog_12_method_39_code
def yX10_isFine : MethodName := ⟨RX10, "isFine", "(I)Z"⟩
abbrev cX10_isTaken : ByteArray := prog_12_method_40_code
def yX10_isTaken : MethodName := ⟨RX10, "isTaken", "(III)Z"⟩
abbrev cX10_tryBelow : ByteArray := prog_12_method_41_code
def yX10_tryBelow : MethodName := ⟨RX10, "tryBelow", "(I)Z"⟩
abbrev cX10_keepPlan : ByteArray := prog_12_method_42_code
def yX10_keepPlan : MethodName := ⟨RX10, "keepPlan", "()V"⟩
abbrev cX10_givePlan : ByteArray := prog_12_method_43_code
def yX10_givePlan : MethodName := ⟨RX10, "givePlan", "()V"⟩
abbrev cX10_plan : ByteArray := prog_12_method_44_code
def yX10_plan : MethodName := ⟨RX10, "plan", "(I)I"⟩
abbrev cX10_tries : ByteArray := prog_12_method_45_code
def yX10_tries : MethodName := ⟨RX10, "tries", "()I"⟩
abbrev cX10_least : ByteArray := prog_12_method_46_code
def yX10_least : MethodName := ⟨RX10, "least", "()I"⟩
abbrev cX10_span : ByteArray := prog_12_method_47_code
def yX10_span : MethodName := ⟨RX10, "span", "()I"⟩
abbrev cX10_isBettered : ByteArray := prog_12_method_48_code
def yX10_isBettered : MethodName := ⟨RX10, "isBettered", "()Z"⟩
abbrev cX10_better : ByteArray := prog_12_method_49_code
def yX10_better : MethodName := ⟨RX10, "better", "(I)I"⟩
abbrev cX10_isHealedBy : ByteArray := prog_12_method_50_code
def yX10_isHealedBy : MethodName := ⟨RX10, "isHealedBy", "(I)Z"⟩
abbrev cX10_isHealedByTwo : ByteArray := prog_12_method_51_code
def yX10_isHealedByTwo : MethodName := ⟨RX10, "isHealedByTwo", "()Z"⟩
abbrev cX10_fewest : ByteArray := prog_12_method_52_code
def yX10_fewest : MethodName := ⟨RX10, "fewest", "(I)I"⟩
abbrev cX10_wantsIn : ByteArray := prog_12_method_53_code
def yX10_wantsIn : MethodName := ⟨RX10, "wantsIn", "(I)I"⟩
abbrev cX10_isCrowd : ByteArray := prog_12_method_54_code
def yX10_isCrowd : MethodName := ⟨RX10, "isCrowd", "(I)Z"⟩
abbrev cX10_boundOf : ByteArray := prog_12_method_55_code
def yX10_boundOf : MethodName := ⟨RX10, "boundOf", "(I)I"⟩
abbrev cX10_bound : ByteArray := prog_12_method_56_code
def yX10_bound : MethodName := ⟨RX10, "bound", "(I)I"⟩
abbrev cX10_crowd : ByteArray := prog_12_method_57_code
def yX10_crowd : MethodName := ⟨RX10, "crowd", "()I"⟩
abbrev cX10_areNear : ByteArray := prog_12_method_58_code
def yX10_areNear : MethodName := ⟨RX10, "areNear", "(II)Z"⟩
abbrev cX10_findParts : ByteArray := prog_12_method_59_code
def yX10_findParts : MethodName := ⟨RX10, "findParts", "()I"⟩
abbrev cX10_part : ByteArray := prog_12_method_60_code
def yX10_part : MethodName := ⟨RX10, "part", "(I)I"⟩
abbrev cX10_withChannel : ByteArray := prog_12_method_61_code
def yX10_withChannel : MethodName := ⟨RX10, "withChannel", "()I"⟩
abbrev cX10_image : ByteArray := prog_12_method_62_code
def yX10_image : MethodName := ⟨RX10, "image", "()I"⟩
abbrev cX10_restore : ByteArray := prog_12_method_63_code
def yX10_restore : MethodName := ⟨RX10, "restore", "()I"⟩
abbrev cX10_bars : ByteArray := prog_12_method_64_code
def yX10_bars : MethodName := ⟨RX10, "bars", "()I"⟩
abbrev cX10_threes : ByteArray := prog_12_method_65_code
def yX10_threes : MethodName := ⟨RX10, "threes", "()I"⟩
abbrev cX10_count : ByteArray := prog_12_method_66_code
def yX10_count : MethodName := ⟨RX10, "count", "(I)I"⟩
abbrev cX10_look : ByteArray := prog_12_method_67_code
def yX10_look : MethodName := ⟨RX10, "look", "(II)I"⟩
abbrev cX10_isShelf : ByteArray := prog_12_method_68_code
def yX10_isShelf : MethodName := ⟨RX10, "isShelf", "(I)Z"⟩
abbrev cX10_weightOf : ByteArray := prog_12_method_69_code
def yX10_weightOf : MethodName := ⟨RX10, "weightOf", "(I)I"⟩
abbrev cX10_keep : ByteArray := prog_12_method_70_code
def yX10_keep : MethodName := ⟨RX10, "keep", "(III)I"⟩
abbrev cX10_make : ByteArray := prog_12_method_71_code
def yX10_make : MethodName := ⟨RX10, "make", "(III)I"⟩
abbrev cX10_element : ByteArray := prog_12_method_72_code
def yX10_element : MethodName := ⟨RX10, "element", "(II)J"⟩
abbrev cX10_hasPlaces : ByteArray := prog_12_method_73_code
def yX10_hasPlaces : MethodName := ⟨RX10, "hasPlaces", "(III)Z"⟩
abbrev cX10_copy : ByteArray := prog_12_method_74_code
def yX10_copy : MethodName := ⟨RX10, "copy", "(IIIII)I"⟩
abbrev cX10_denied : ByteArray := prog_12_method_75_code
def yX10_denied : MethodName := ⟨RX10, "denied", "(I)I"⟩
abbrev cX10_weight : ByteArray := prog_12_method_76_code
def yX10_weight : MethodName := ⟨RX10, "weight", "(I)I"⟩
abbrev cX10_toss : ByteArray := prog_12_method_77_code
def yX10_toss : MethodName := ⟨RX10, "toss", "(I)I"⟩
def RJx145de : String := "java/io/Serializable"
def TJx145de : u_T := fun k => match k with
  | _ => ("", "", "", false)
def tyJx145de : Nat → FieldType := fun k => match k with
  | _ => .int
abbrev wsJx145de0 : List Cond := u_ws RJx145de TJx145de 0
theorem nmJx145de : ∀ a, a < 0 → ∀ b, b < 0 → a ≠ b → (TJx145de a).2.1 ≠ (TJx145de b).2.1 := by decide +kernel
theorem tyJx145de_ok : ∀ k, k < 0 → parseFieldDescriptor (TJx145de k).2.2.1 = some (tyJx145de k) := by decide +kernel
def RJ6 : String := "java/lang/Integer"
def TJ6 : u_T := fun k => match k with
  | _ => ("", "", "", false)
def tyJ6 : Nat → FieldType := fun k => match k with
  | _ => .int
abbrev wsJ60 : List Cond := u_ws RJ6 TJ6 0
theorem nmJ6 : ∀ a, a < 0 → ∀ b, b < 0 → a ≠ b → (TJ6 a).2.1 ≠ (TJ6 b).2.1 := by decide +kernel
theorem tyJ6_ok : ∀ k, k < 0 → parseFieldDescriptor (TJ6 k).2.2.1 = some (tyJ6 k) := by decide +kernel
abbrev cJ6_bitCount_0f7a4 : ByteArray := prog_16_method_49_code
def yJ6_bitCount_0f7a4 : MethodName := ⟨RJ6, "bitCount", "(I)I"⟩
def RJ9 : String := "java/lang/Math"
def TJ9 : u_T := fun k => match k with
  | _ => ("", "", "", false)
def tyJ9 : Nat → FieldType := fun k => match k with
  | _ => .int
abbrev wsJ90 : List Cond := u_ws RJ9 TJ9 0
theorem nmJ9 : ∀ a, a < 0 → ∀ b, b < 0 → a ≠ b → (TJ9 a).2.1 ≠ (TJ9 b).2.1 := by decide +kernel
theorem tyJ9_ok : ∀ k, k < 0 → parseFieldDescriptor (TJ9 k).2.2.1 = some (tyJ9 k) := by decide +kernel
abbrev cJ9_abs_0f7a4 : ByteArray := prog_17_method_59_code
def yJ9_abs_0f7a4 : MethodName := ⟨RJ9, "abs", "(I)I"⟩
abbrev cJ9_max_7cf53 : ByteArray := prog_17_method_65_code
def yJ9_max_7cf53 : MethodName := ⟨RJ9, "max", "(II)I"⟩
abbrev cJ9_min_7cf53 : ByteArray := prog_17_method_69_code
def yJ9_min_7cf53 : MethodName := ⟨RJ9, "min", "(II)I"⟩
def RJ0 : String := "java/lang/String"
def TJ0 : u_T := fun k => match k with
  | _ => ("", "", "", false)
def tyJ0 : Nat → FieldType := fun k => match k with
  | _ => .int
abbrev wsJ00 : List Cond := u_ws RJ0 TJ0 0
theorem nmJ0 : ∀ a, a < 0 → ∀ b, b < 0 → a ≠ b → (TJ0 a).2.1 ≠ (TJ0 b).2.1 := by decide +kernel
theorem tyJ0_ok : ∀ k, k < 0 → parseFieldDescriptor (TJ0 k).2.2.1 = some (tyJ0 k) := by decide +kernel
def RJ10 : String := "java/lang/System"
def TJ10 : u_T := fun k => match k with
  | _ => ("", "", "", false)
def tyJ10 : Nat → FieldType := fun k => match k with
  | _ => .int
abbrev wsJ100 : List Cond := u_ws RJ10 TJ10 0
theorem nmJ10 : ∀ a, a < 0 → ∀ b, b < 0 → a ≠ b → (TJ10 a).2.1 ≠ (TJ10 b).2.1 := by decide +kernel
theorem tyJ10_ok : ∀ k, k < 0 → parseFieldDescriptor (TJ10 k).2.2.1 = some (tyJ10 k) := by decide +kernel
def RJ7 : String := "java/util/Arrays"
def TJ7 : u_T := fun k => match k with
  | _ => ("", "", "", false)
def tyJ7 : Nat → FieldType := fun k => match k with
  | _ => .int
abbrev wsJ70 : List Cond := u_ws RJ7 TJ7 0
theorem nmJ7 : ∀ a, a < 0 → ∀ b, b < 0 → a ≠ b → (TJ7 a).2.1 ≠ (TJ7 b).2.1 := by decide +kernel
theorem tyJ7_ok : ∀ k, k < 0 → parseFieldDescriptor (TJ7 k).2.2.1 = some (tyJ7 k) := by decide +kernel
abbrev cJ7_fill_d0a16 : ByteArray := prog_23_method_101_code
def yJ7_fill_d0a16 : MethodName := ⟨RJ7, "fill", "([JJ)V"⟩
abbrev cJ7_fill_53178 : ByteArray := prog_23_method_103_code
def yJ7_fill_53178 : MethodName := ⟨RJ7, "fill", "([II)V"⟩
abbrev cJ7_fill_031fb : ByteArray := prog_23_method_109_code
def yJ7_fill_031fb : MethodName := ⟨RJ7, "fill", "([BB)V"⟩
def RL : String := "WavePlanLaw"
abbrev cL_element : ByteArray := method_3_code
def yL_element : MethodName := ⟨RL, "element", "(LWavePlan;II[J)I"⟩
abbrev cL_law : ByteArray := code
def yL_law : MethodName := ⟨RL, "law", "([I)Z"⟩
abbrev vwCl : List vw_C := [(RX0, TX0, 5), (RX1, TX1, 4), (RX2, TX2, 2), (RX3, TX3, 11), (RX4, TX4, 9), (RX5, TX5, 2), (RX6, TX6, 5), (RX7, TX7, 4), (RX8, TX8, 6), (RX9, TX9, 9), (RX10, TX10, 39)]
