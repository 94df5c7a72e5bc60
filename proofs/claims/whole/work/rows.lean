section
-- ===== PART A: goes FIRST, ahead of the names: the tables' words, and 'selects' of the private methods out of them =====
/-- a private method of a class that the tables say can be made, by its rows of tables_1 -/
def lw_okq (q : MethodName × Nat) : Prop := (q.1.cls ≠ "java/lang/invoke/MethodHandle" ∧ q.1.cls ≠ "java/lang/invoke/VarHandle") ∧ Cond.instantiable q.1.cls q.2 ∈ tables_1 ∧ Cond.privateMethod q.1 ∈ tables_1 ∧ Cond.instanceMethod q.1 ∈ tables_1
theorem lw_p0 : lw_okq (⟨"WavePlan$Land", "freshBar", "(II)I"⟩, 11) := ⟨⟨by decide +kernel, by decide +kernel⟩, List.mem_of_getElem? (i := 31) (by decide +kernel), List.mem_of_getElem? (i := 340) (by decide +kernel), List.mem_of_getElem? (i := 341) (by decide +kernel)⟩
theorem lw_p1 : lw_okq (⟨"WavePlan$Judge", "lackAt", "(IIII)I"⟩, 2) := ⟨⟨by decide +kernel, by decide +kernel⟩, List.mem_of_getElem? (i := 180) (by decide +kernel), List.mem_of_getElem? (i := 486) (by decide +kernel), List.mem_of_getElem? (i := 487) (by decide +kernel)⟩
theorem lw_p2 : lw_okq (⟨"WavePlan$Judge", "sumTogether", "([IIII)Z"⟩, 2) := ⟨⟨by decide +kernel, by decide +kernel⟩, List.mem_of_getElem? (i := 180) (by decide +kernel), List.mem_of_getElem? (i := 501) (by decide +kernel), List.mem_of_getElem? (i := 502) (by decide +kernel)⟩
theorem lw_p3 : lw_okq (⟨"WavePlan$Judge", "sumsOfThree", "([IIII)I"⟩, 2) := ⟨⟨by decide +kernel, by decide +kernel⟩, List.mem_of_getElem? (i := 180) (by decide +kernel), List.mem_of_getElem? (i := 509) (by decide +kernel), List.mem_of_getElem? (i := 510) (by decide +kernel)⟩
theorem lw_p4 : lw_okq (⟨"WavePlan$Trier", "open", "(II)V"⟩, 6) := ⟨⟨by decide +kernel, by decide +kernel⟩, List.mem_of_getElem? (i := 193) (by decide +kernel), List.mem_of_getElem? (i := 546) (by decide +kernel), List.mem_of_getElem? (i := 547) (by decide +kernel)⟩
theorem lw_p5 : lw_okq (⟨"WavePlan$Judge", "tooNear", "([III)J"⟩, 2) := ⟨⟨by decide +kernel, by decide +kernel⟩, List.mem_of_getElem? (i := 180) (by decide +kernel), List.mem_of_getElem? (i := 554) (by decide +kernel), List.mem_of_getElem? (i := 555) (by decide +kernel)⟩
theorem lw_p6 : lw_okq (⟨"WavePlan$Judge", "sumMates", "([IIII)Z"⟩, 2) := ⟨⟨by decide +kernel, by decide +kernel⟩, List.mem_of_getElem? (i := 180) (by decide +kernel), List.mem_of_getElem? (i := 558) (by decide +kernel), List.mem_of_getElem? (i := 559) (by decide +kernel)⟩
theorem lw_p7 : lw_okq (⟨"WavePlan$Judge", "sumTargets", "([III)J"⟩, 2) := ⟨⟨by decide +kernel, by decide +kernel⟩, List.mem_of_getElem? (i := 180) (by decide +kernel), List.mem_of_getElem? (i := 562) (by decide +kernel), List.mem_of_getElem? (i := 563) (by decide +kernel)⟩
theorem lw_p8 : lw_okq (⟨"WavePlan$Trier", "takes", "(I)Z"⟩, 6) := ⟨⟨by decide +kernel, by decide +kernel⟩, List.mem_of_getElem? (i := 193) (by decide +kernel), List.mem_of_getElem? (i := 575) (by decide +kernel), List.mem_of_getElem? (i := 576) (by decide +kernel)⟩
theorem lw_p9 : lw_okq (⟨"WavePlan$Mender", "canChange", "([II)Z"⟩, 2) := ⟨⟨by decide +kernel, by decide +kernel⟩, List.mem_of_getElem? (i := 219) (by decide +kernel), List.mem_of_getElem? (i := 612) (by decide +kernel), List.mem_of_getElem? (i := 613) (by decide +kernel)⟩
theorem lw_p10 : lw_okq (⟨"WavePlan$Judge", "addLacks", "([III)V"⟩, 2) := ⟨⟨by decide +kernel, by decide +kernel⟩, List.mem_of_getElem? (i := 180) (by decide +kernel), List.mem_of_getElem? (i := 621) (by decide +kernel), List.mem_of_getElem? (i := 622) (by decide +kernel)⟩
theorem lw_p11 : lw_okq (⟨"WavePlan$Judge", "addSums", "([IIII)V"⟩, 2) := ⟨⟨by decide +kernel, by decide +kernel⟩, List.mem_of_getElem? (i := 180) (by decide +kernel), List.mem_of_getElem? (i := 626) (by decide +kernel), List.mem_of_getElem? (i := 627) (by decide +kernel)⟩
theorem lw_p12 : lw_okq (⟨"WavePlan$Judge", "addSumAt", "(II)V"⟩, 2) := ⟨⟨by decide +kernel, by decide +kernel⟩, List.mem_of_getElem? (i := 180) (by decide +kernel), List.mem_of_getElem? (i := 630) (by decide +kernel), List.mem_of_getElem? (i := 631) (by decide +kernel)⟩
theorem lw_p13 : lw_okq (⟨"WavePlan$Mender", "leastFree", "([III)I"⟩, 2) := ⟨⟨by decide +kernel, by decide +kernel⟩, List.mem_of_getElem? (i := 219) (by decide +kernel), List.mem_of_getElem? (i := 649) (by decide +kernel), List.mem_of_getElem? (i := 650) (by decide +kernel)⟩
theorem lw_p14 : lw_okq (⟨"WavePlan$Mender", "changeBoth", "([III)Z"⟩, 2) := ⟨⟨by decide +kernel, by decide +kernel⟩, List.mem_of_getElem? (i := 219) (by decide +kernel), List.mem_of_getElem? (i := 658) (by decide +kernel), List.mem_of_getElem? (i := 659) (by decide +kernel)⟩
theorem lw_p15 : lw_okq (⟨"WavePlan$Crowds", "barsAll", "(II)Z"⟩, 5) := ⟨⟨by decide +kernel, by decide +kernel⟩, List.mem_of_getElem? (i := 232) (by decide +kernel), List.mem_of_getElem? (i := 670) (by decide +kernel), List.mem_of_getElem? (i := 671) (by decide +kernel)⟩
def lw_privs_1 : List (MethodName × Nat) := [(⟨"WavePlan$Land", "freshBar", "(II)I"⟩, 11), (⟨"WavePlan$Judge", "lackAt", "(IIII)I"⟩, 2), (⟨"WavePlan$Judge", "sumTogether", "([IIII)Z"⟩, 2), (⟨"WavePlan$Judge", "sumsOfThree", "([IIII)I"⟩, 2), (⟨"WavePlan$Trier", "open", "(II)V"⟩, 6), (⟨"WavePlan$Judge", "tooNear", "([III)J"⟩, 2), (⟨"WavePlan$Judge", "sumMates", "([IIII)Z"⟩, 2), (⟨"WavePlan$Judge", "sumTargets", "([III)J"⟩, 2), (⟨"WavePlan$Trier", "takes", "(I)Z"⟩, 6), (⟨"WavePlan$Mender", "canChange", "([II)Z"⟩, 2), (⟨"WavePlan$Judge", "addLacks", "([III)V"⟩, 2), (⟨"WavePlan$Judge", "addSums", "([IIII)V"⟩, 2), (⟨"WavePlan$Judge", "addSumAt", "(II)V"⟩, 2), (⟨"WavePlan$Mender", "leastFree", "([III)I"⟩, 2), (⟨"WavePlan$Mender", "changeBoth", "([III)Z"⟩, 2), (⟨"WavePlan$Crowds", "barsAll", "(II)Z"⟩, 5)]
theorem lw_r1 : ∀ q ∈ lw_privs_1, lw_okq q := List.forall_mem_cons.mpr ⟨lw_p0, List.forall_mem_cons.mpr ⟨lw_p1, List.forall_mem_cons.mpr ⟨lw_p2, List.forall_mem_cons.mpr ⟨lw_p3, List.forall_mem_cons.mpr ⟨lw_p4, List.forall_mem_cons.mpr ⟨lw_p5, List.forall_mem_cons.mpr ⟨lw_p6, List.forall_mem_cons.mpr ⟨lw_p7, List.forall_mem_cons.mpr ⟨lw_p8, List.forall_mem_cons.mpr ⟨lw_p9, List.forall_mem_cons.mpr ⟨lw_p10, List.forall_mem_cons.mpr ⟨lw_p11, List.forall_mem_cons.mpr ⟨lw_p12, List.forall_mem_cons.mpr ⟨lw_p13, List.forall_mem_cons.mpr ⟨lw_p14, List.forall_mem_cons.mpr ⟨lw_p15, fun _ h => absurd h List.not_mem_nil⟩⟩⟩⟩⟩⟩⟩⟩⟩⟩⟩⟩⟩⟩⟩⟩
theorem lw_p16 : lw_okq (⟨"WavePlan$Crowds", "seat", "(II)I"⟩, 5) := ⟨⟨by decide +kernel, by decide +kernel⟩, List.mem_of_getElem? (i := 232) (by decide +kernel), List.mem_of_getElem? (i := 683) (by decide +kernel), List.mem_of_getElem? (i := 684) (by decide +kernel)⟩
theorem lw_p17 : lw_okq (⟨"WavePlan$Crowds", "sumUp", "(II)V"⟩, 5) := ⟨⟨by decide +kernel, by decide +kernel⟩, List.mem_of_getElem? (i := 232) (by decide +kernel), List.mem_of_getElem? (i := 687) (by decide +kernel), List.mem_of_getElem? (i := 688) (by decide +kernel)⟩
theorem lw_p18 : lw_okq (⟨"WavePlan$Crowds", "leastSum", "(III)I"⟩, 5) := ⟨⟨by decide +kernel, by decide +kernel⟩, List.mem_of_getElem? (i := 232) (by decide +kernel), List.mem_of_getElem? (i := 691) (by decide +kernel), List.mem_of_getElem? (i := 692) (by decide +kernel)⟩
theorem lw_p19 : lw_okq (⟨"WavePlan$Crowds", "boundOfSeated", "(I)I"⟩, 5) := ⟨⟨by decide +kernel, by decide +kernel⟩, List.mem_of_getElem? (i := 232) (by decide +kernel), List.mem_of_getElem? (i := 697) (by decide +kernel), List.mem_of_getElem? (i := 698) (by decide +kernel)⟩
theorem lw_p20 : lw_okq (⟨"WavePlan$Crowds", "grow", "(III)V"⟩, 5) := ⟨⟨by decide +kernel, by decide +kernel⟩, List.mem_of_getElem? (i := 232) (by decide +kernel), List.mem_of_getElem? (i := 709) (by decide +kernel), List.mem_of_getElem? (i := 710) (by decide +kernel)⟩
theorem lw_p21 : lw_okq (⟨"WavePlan$Crowds", "consider", "(II)V"⟩, 5) := ⟨⟨by decide +kernel, by decide +kernel⟩, List.mem_of_getElem? (i := 232) (by decide +kernel), List.mem_of_getElem? (i := 713) (by decide +kernel), List.mem_of_getElem? (i := 714) (by decide +kernel)⟩
theorem lw_p22 : lw_okq (⟨"WavePlan$Land", "partAround", "(I)I"⟩, 11) := ⟨⟨by decide +kernel, by decide +kernel⟩, List.mem_of_getElem? (i := 31) (by decide +kernel), List.mem_of_getElem? (i := 725) (by decide +kernel), List.mem_of_getElem? (i := 726) (by decide +kernel)⟩
theorem lw_p23 : lw_okq (⟨"WavePlan$Land", "joinedTo", "(I)I"⟩, 11) := ⟨⟨by decide +kernel, by decide +kernel⟩, List.mem_of_getElem? (i := 31) (by decide +kernel), List.mem_of_getElem? (i := 729) (by decide +kernel), List.mem_of_getElem? (i := 730) (by decide +kernel)⟩
theorem lw_p24 : lw_okq (⟨"WavePlan", "refusalOfMast", "(I)I"⟩, 9) := ⟨⟨by decide +kernel, by decide +kernel⟩, List.mem_of_getElem? (i := 23) (by decide +kernel), List.mem_of_getElem? (i := 831) (by decide +kernel), List.mem_of_getElem? (i := 832) (by decide +kernel)⟩
theorem lw_p25 : lw_okq (⟨"java/lang/Throwable", "fillInStackTrace", "(I)Ljava/lang/Throwable;"⟩, 6) := ⟨⟨by decide +kernel, by decide +kernel⟩, List.mem_of_getElem? (i := 888) (by decide +kernel), List.mem_of_getElem? (i := 886) (by decide +kernel), List.mem_of_getElem? (i := 887) (by decide +kernel)⟩
theorem lw_p26 : lw_okq (⟨"WavePlanModel", "isMast", "(I)Z"⟩, 39) := ⟨⟨by decide +kernel, by decide +kernel⟩, List.mem_of_getElem? (i := 966) (by decide +kernel), List.mem_of_getElem? (i := 1111) (by decide +kernel), List.mem_of_getElem? (i := 1112) (by decide +kernel)⟩
theorem lw_p27 : lw_okq (⟨"WavePlanModel", "barOf", "(II)I"⟩, 39) := ⟨⟨by decide +kernel, by decide +kernel⟩, List.mem_of_getElem? (i := 966) (by decide +kernel), List.mem_of_getElem? (i := 1115) (by decide +kernel), List.mem_of_getElem? (i := 1116) (by decide +kernel)⟩
theorem lw_p28 : lw_okq (⟨"WavePlanModel", "square", "(II)I"⟩, 39) := ⟨⟨by decide +kernel, by decide +kernel⟩, List.mem_of_getElem? (i := 966) (by decide +kernel), List.mem_of_getElem? (i := 1119) (by decide +kernel), List.mem_of_getElem? (i := 1120) (by decide +kernel)⟩
theorem lw_p29 : lw_okq (⟨"WavePlanModel", "countBits", "(I)I"⟩, 39) := ⟨⟨by decide +kernel, by decide +kernel⟩, List.mem_of_getElem? (i := 966) (by decide +kernel), List.mem_of_getElem? (i := 1131) (by decide +kernel), List.mem_of_getElem? (i := 1132) (by decide +kernel)⟩
theorem lw_p30 : lw_okq (⟨"WavePlanModel", "isWant", "(I)Z"⟩, 39) := ⟨⟨by decide +kernel, by decide +kernel⟩, List.mem_of_getElem? (i := 966) (by decide +kernel), List.mem_of_getElem? (i := 1144) (by decide +kernel), List.mem_of_getElem? (i := 1145) (by decide +kernel)⟩
theorem lw_p31 : lw_okq (⟨"WavePlanModel", "mayHave", "(II)Z"⟩, 39) := ⟨⟨by decide +kernel, by decide +kernel⟩, List.mem_of_getElem? (i := 966) (by decide +kernel), List.mem_of_getElem? (i := 1169) (by decide +kernel), List.mem_of_getElem? (i := 1170) (by decide +kernel)⟩
def lw_privs_2 : List (MethodName × Nat) := [(⟨"WavePlan$Crowds", "seat", "(II)I"⟩, 5), (⟨"WavePlan$Crowds", "sumUp", "(II)V"⟩, 5), (⟨"WavePlan$Crowds", "leastSum", "(III)I"⟩, 5), (⟨"WavePlan$Crowds", "boundOfSeated", "(I)I"⟩, 5), (⟨"WavePlan$Crowds", "grow", "(III)V"⟩, 5), (⟨"WavePlan$Crowds", "consider", "(II)V"⟩, 5), (⟨"WavePlan$Land", "partAround", "(I)I"⟩, 11), (⟨"WavePlan$Land", "joinedTo", "(I)I"⟩, 11), (⟨"WavePlan", "refusalOfMast", "(I)I"⟩, 9), (⟨"java/lang/Throwable", "fillInStackTrace", "(I)Ljava/lang/Throwable;"⟩, 6), (⟨"WavePlanModel", "isMast", "(I)Z"⟩, 39), (⟨"WavePlanModel", "barOf", "(II)I"⟩, 39), (⟨"WavePlanModel", "square", "(II)I"⟩, 39), (⟨"WavePlanModel", "countBits", "(I)I"⟩, 39), (⟨"WavePlanModel", "isWant", "(I)Z"⟩, 39), (⟨"WavePlanModel", "mayHave", "(II)Z"⟩, 39)]
theorem lw_r2 : ∀ q ∈ lw_privs_2, lw_okq q := List.forall_mem_cons.mpr ⟨lw_p16, List.forall_mem_cons.mpr ⟨lw_p17, List.forall_mem_cons.mpr ⟨lw_p18, List.forall_mem_cons.mpr ⟨lw_p19, List.forall_mem_cons.mpr ⟨lw_p20, List.forall_mem_cons.mpr ⟨lw_p21, List.forall_mem_cons.mpr ⟨lw_p22, List.forall_mem_cons.mpr ⟨lw_p23, List.forall_mem_cons.mpr ⟨lw_p24, List.forall_mem_cons.mpr ⟨lw_p25, List.forall_mem_cons.mpr ⟨lw_p26, List.forall_mem_cons.mpr ⟨lw_p27, List.forall_mem_cons.mpr ⟨lw_p28, List.forall_mem_cons.mpr ⟨lw_p29, List.forall_mem_cons.mpr ⟨lw_p30, List.forall_mem_cons.mpr ⟨lw_p31, fun _ h => absurd h List.not_mem_nil⟩⟩⟩⟩⟩⟩⟩⟩⟩⟩⟩⟩⟩⟩⟩⟩
theorem lw_p32 : lw_okq (⟨"WavePlanModel", "isListed", "(II)Z"⟩, 39) := ⟨⟨by decide +kernel, by decide +kernel⟩, List.mem_of_getElem? (i := 966) (by decide +kernel), List.mem_of_getElem? (i := 1173) (by decide +kernel), List.mem_of_getElem? (i := 1174) (by decide +kernel)⟩
theorem lw_p33 : lw_okq (⟨"WavePlanModel", "isFree", "(II)Z"⟩, 39) := ⟨⟨by decide +kernel, by decide +kernel⟩, List.mem_of_getElem? (i := 966) (by decide +kernel), List.mem_of_getElem? (i := 1177) (by decide +kernel), List.mem_of_getElem? (i := 1178) (by decide +kernel)⟩
theorem lw_p34 : lw_okq (⟨"WavePlanModel", "harmNow", "()I"⟩, 39) := ⟨⟨by decide +kernel, by decide +kernel⟩, List.mem_of_getElem? (i := 966) (by decide +kernel), List.mem_of_getElem? (i := 1205) (by decide +kernel), List.mem_of_getElem? (i := 1206) (by decide +kernel)⟩
theorem lw_p35 : lw_okq (⟨"WavePlanModel", "brokenOf", "(I)I"⟩, 39) := ⟨⟨by decide +kernel, by decide +kernel⟩, List.mem_of_getElem? (i := 966) (by decide +kernel), List.mem_of_getElem? (i := 1209) (by decide +kernel), List.mem_of_getElem? (i := 1210) (by decide +kernel)⟩
theorem lw_p36 : lw_okq (⟨"WavePlanModel", "lack", "(II)I"⟩, 39) := ⟨⟨by decide +kernel, by decide +kernel⟩, List.mem_of_getElem? (i := 966) (by decide +kernel), List.mem_of_getElem? (i := 1213) (by decide +kernel), List.mem_of_getElem? (i := 1214) (by decide +kernel)⟩
theorem lw_p37 : lw_okq (⟨"WavePlanModel", "channelsOf", "(I)I"⟩, 39) := ⟨⟨by decide +kernel, by decide +kernel⟩, List.mem_of_getElem? (i := 966) (by decide +kernel), List.mem_of_getElem? (i := 1217) (by decide +kernel), List.mem_of_getElem? (i := 1218) (by decide +kernel)⟩
theorem lw_p38 : lw_okq (⟨"WavePlanModel", "channelOf", "(II)I"⟩, 39) := ⟨⟨by decide +kernel, by decide +kernel⟩, List.mem_of_getElem? (i := 966) (by decide +kernel), List.mem_of_getElem? (i := 1221) (by decide +kernel), List.mem_of_getElem? (i := 1222) (by decide +kernel)⟩
theorem lw_p39 : lw_okq (⟨"WavePlanModel", "areIn", "(III)Z"⟩, 39) := ⟨⟨by decide +kernel, by decide +kernel⟩, List.mem_of_getElem? (i := 966) (by decide +kernel), List.mem_of_getElem? (i := 1225) (by decide +kernel), List.mem_of_getElem? (i := 1226) (by decide +kernel)⟩
theorem lw_p40 : lw_okq (⟨"WavePlanModel", "middles", "(III)I"⟩, 39) := ⟨⟨by decide +kernel, by decide +kernel⟩, List.mem_of_getElem? (i := 966) (by decide +kernel), List.mem_of_getElem? (i := 1229) (by decide +kernel), List.mem_of_getElem? (i := 1230) (by decide +kernel)⟩
theorem lw_p41 : lw_okq (⟨"WavePlanModel", "keepPlan", "()V"⟩, 39) := ⟨⟨by decide +kernel, by decide +kernel⟩, List.mem_of_getElem? (i := 966) (by decide +kernel), List.mem_of_getElem? (i := 1251) (by decide +kernel), List.mem_of_getElem? (i := 1252) (by decide +kernel)⟩
theorem lw_p42 : lw_okq (⟨"WavePlanModel", "tryBelow", "(I)Z"⟩, 39) := ⟨⟨by decide +kernel, by decide +kernel⟩, List.mem_of_getElem? (i := 966) (by decide +kernel), List.mem_of_getElem? (i := 1255) (by decide +kernel), List.mem_of_getElem? (i := 1256) (by decide +kernel)⟩
theorem lw_p43 : lw_okq (⟨"WavePlanModel", "isTaken", "(III)Z"⟩, 39) := ⟨⟨by decide +kernel, by decide +kernel⟩, List.mem_of_getElem? (i := 966) (by decide +kernel), List.mem_of_getElem? (i := 1259) (by decide +kernel), List.mem_of_getElem? (i := 1260) (by decide +kernel)⟩
theorem lw_p44 : lw_okq (⟨"WavePlanModel", "isFine", "(I)Z"⟩, 39) := ⟨⟨by decide +kernel, by decide +kernel⟩, List.mem_of_getElem? (i := 966) (by decide +kernel), List.mem_of_getElem? (i := 1263) (by decide +kernel), List.mem_of_getElem? (i := 1264) (by decide +kernel)⟩
theorem lw_p45 : lw_okq (⟨"WavePlanModel", "givePlan", "()V"⟩, 39) := ⟨⟨by decide +kernel, by decide +kernel⟩, List.mem_of_getElem? (i := 966) (by decide +kernel), List.mem_of_getElem? (i := 1267) (by decide +kernel), List.mem_of_getElem? (i := 1268) (by decide +kernel)⟩
theorem lw_p46 : lw_okq (⟨"WavePlanModel", "isBettered", "()Z"⟩, 39) := ⟨⟨by decide +kernel, by decide +kernel⟩, List.mem_of_getElem? (i := 966) (by decide +kernel), List.mem_of_getElem? (i := 1288) (by decide +kernel), List.mem_of_getElem? (i := 1289) (by decide +kernel)⟩
theorem lw_p47 : lw_okq (⟨"WavePlanModel", "isHealedBy", "(I)Z"⟩, 39) := ⟨⟨by decide +kernel, by decide +kernel⟩, List.mem_of_getElem? (i := 966) (by decide +kernel), List.mem_of_getElem? (i := 1296) (by decide +kernel), List.mem_of_getElem? (i := 1297) (by decide +kernel)⟩
def lw_privs_3 : List (MethodName × Nat) := [(⟨"WavePlanModel", "isListed", "(II)Z"⟩, 39), (⟨"WavePlanModel", "isFree", "(II)Z"⟩, 39), (⟨"WavePlanModel", "harmNow", "()I"⟩, 39), (⟨"WavePlanModel", "brokenOf", "(I)I"⟩, 39), (⟨"WavePlanModel", "lack", "(II)I"⟩, 39), (⟨"WavePlanModel", "channelsOf", "(I)I"⟩, 39), (⟨"WavePlanModel", "channelOf", "(II)I"⟩, 39), (⟨"WavePlanModel", "areIn", "(III)Z"⟩, 39), (⟨"WavePlanModel", "middles", "(III)I"⟩, 39), (⟨"WavePlanModel", "keepPlan", "()V"⟩, 39), (⟨"WavePlanModel", "tryBelow", "(I)Z"⟩, 39), (⟨"WavePlanModel", "isTaken", "(III)Z"⟩, 39), (⟨"WavePlanModel", "isFine", "(I)Z"⟩, 39), (⟨"WavePlanModel", "givePlan", "()V"⟩, 39), (⟨"WavePlanModel", "isBettered", "()Z"⟩, 39), (⟨"WavePlanModel", "isHealedBy", "(I)Z"⟩, 39)]
theorem lw_r3 : ∀ q ∈ lw_privs_3, lw_okq q := List.forall_mem_cons.mpr ⟨lw_p32, List.forall_mem_cons.mpr ⟨lw_p33, List.forall_mem_cons.mpr ⟨lw_p34, List.forall_mem_cons.mpr ⟨lw_p35, List.forall_mem_cons.mpr ⟨lw_p36, List.forall_mem_cons.mpr ⟨lw_p37, List.forall_mem_cons.mpr ⟨lw_p38, List.forall_mem_cons.mpr ⟨lw_p39, List.forall_mem_cons.mpr ⟨lw_p40, List.forall_mem_cons.mpr ⟨lw_p41, List.forall_mem_cons.mpr ⟨lw_p42, List.forall_mem_cons.mpr ⟨lw_p43, List.forall_mem_cons.mpr ⟨lw_p44, List.forall_mem_cons.mpr ⟨lw_p45, List.forall_mem_cons.mpr ⟨lw_p46, List.forall_mem_cons.mpr ⟨lw_p47, fun _ h => absurd h List.not_mem_nil⟩⟩⟩⟩⟩⟩⟩⟩⟩⟩⟩⟩⟩⟩⟩⟩
theorem lw_p48 : lw_okq (⟨"WavePlanModel", "isHealedByTwo", "()Z"⟩, 39) := ⟨⟨by decide +kernel, by decide +kernel⟩, List.mem_of_getElem? (i := 966) (by decide +kernel), List.mem_of_getElem? (i := 1300) (by decide +kernel), List.mem_of_getElem? (i := 1301) (by decide +kernel)⟩
theorem lw_p49 : lw_okq (⟨"WavePlanModel", "isCrowd", "(I)Z"⟩, 39) := ⟨⟨by decide +kernel, by decide +kernel⟩, List.mem_of_getElem? (i := 966) (by decide +kernel), List.mem_of_getElem? (i := 1308) (by decide +kernel), List.mem_of_getElem? (i := 1309) (by decide +kernel)⟩
theorem lw_p50 : lw_okq (⟨"WavePlanModel", "wantsIn", "(I)I"⟩, 39) := ⟨⟨by decide +kernel, by decide +kernel⟩, List.mem_of_getElem? (i := 966) (by decide +kernel), List.mem_of_getElem? (i := 1312) (by decide +kernel), List.mem_of_getElem? (i := 1313) (by decide +kernel)⟩
theorem lw_p51 : lw_okq (⟨"WavePlanModel", "boundOf", "(I)I"⟩, 39) := ⟨⟨by decide +kernel, by decide +kernel⟩, List.mem_of_getElem? (i := 966) (by decide +kernel), List.mem_of_getElem? (i := 1316) (by decide +kernel), List.mem_of_getElem? (i := 1317) (by decide +kernel)⟩
theorem lw_p52 : lw_okq (⟨"WavePlanModel", "findParts", "()I"⟩, 39) := ⟨⟨by decide +kernel, by decide +kernel⟩, List.mem_of_getElem? (i := 966) (by decide +kernel), List.mem_of_getElem? (i := 1329) (by decide +kernel), List.mem_of_getElem? (i := 1330) (by decide +kernel)⟩
theorem lw_p53 : lw_okq (⟨"WavePlanModel", "areNear", "(II)Z"⟩, 39) := ⟨⟨by decide +kernel, by decide +kernel⟩, List.mem_of_getElem? (i := 966) (by decide +kernel), List.mem_of_getElem? (i := 1333) (by decide +kernel), List.mem_of_getElem? (i := 1334) (by decide +kernel)⟩
theorem lw_p54 : lw_okq (⟨"WavePlanModel", "withChannel", "()I"⟩, 39) := ⟨⟨by decide +kernel, by decide +kernel⟩, List.mem_of_getElem? (i := 966) (by decide +kernel), List.mem_of_getElem? (i := 1341) (by decide +kernel), List.mem_of_getElem? (i := 1342) (by decide +kernel)⟩
theorem lw_p55 : lw_okq (⟨"WavePlanModel", "bars", "()I"⟩, 39) := ⟨⟨by decide +kernel, by decide +kernel⟩, List.mem_of_getElem? (i := 966) (by decide +kernel), List.mem_of_getElem? (i := 1353) (by decide +kernel), List.mem_of_getElem? (i := 1354) (by decide +kernel)⟩
theorem lw_p56 : lw_okq (⟨"WavePlanModel", "threes", "()I"⟩, 39) := ⟨⟨by decide +kernel, by decide +kernel⟩, List.mem_of_getElem? (i := 966) (by decide +kernel), List.mem_of_getElem? (i := 1357) (by decide +kernel), List.mem_of_getElem? (i := 1358) (by decide +kernel)⟩
theorem lw_p57 : lw_okq (⟨"WavePlanModel", "weightOf", "(I)I"⟩, 39) := ⟨⟨by decide +kernel, by decide +kernel⟩, List.mem_of_getElem? (i := 966) (by decide +kernel), List.mem_of_getElem? (i := 1372) (by decide +kernel), List.mem_of_getElem? (i := 1373) (by decide +kernel)⟩
theorem lw_p58 : lw_okq (⟨"WavePlanModel", "hasPlaces", "(III)Z"⟩, 39) := ⟨⟨by decide +kernel, by decide +kernel⟩, List.mem_of_getElem? (i := 966) (by decide +kernel), List.mem_of_getElem? (i := 1388) (by decide +kernel), List.mem_of_getElem? (i := 1389) (by decide +kernel)⟩
theorem lw_p59 : lw_okq (⟨"WavePlanModel", "denied", "(I)I"⟩, 39) := ⟨⟨by decide +kernel, by decide +kernel⟩, List.mem_of_getElem? (i := 966) (by decide +kernel), List.mem_of_getElem? (i := 1396) (by decide +kernel), List.mem_of_getElem? (i := 1397) (by decide +kernel)⟩
def lw_privs_4 : List (MethodName × Nat) := [(⟨"WavePlanModel", "isHealedByTwo", "()Z"⟩, 39), (⟨"WavePlanModel", "isCrowd", "(I)Z"⟩, 39), (⟨"WavePlanModel", "wantsIn", "(I)I"⟩, 39), (⟨"WavePlanModel", "boundOf", "(I)I"⟩, 39), (⟨"WavePlanModel", "findParts", "()I"⟩, 39), (⟨"WavePlanModel", "areNear", "(II)Z"⟩, 39), (⟨"WavePlanModel", "withChannel", "()I"⟩, 39), (⟨"WavePlanModel", "bars", "()I"⟩, 39), (⟨"WavePlanModel", "threes", "()I"⟩, 39), (⟨"WavePlanModel", "weightOf", "(I)I"⟩, 39), (⟨"WavePlanModel", "hasPlaces", "(III)Z"⟩, 39), (⟨"WavePlanModel", "denied", "(I)I"⟩, 39)]
theorem lw_r4 : ∀ q ∈ lw_privs_4, lw_okq q := List.forall_mem_cons.mpr ⟨lw_p48, List.forall_mem_cons.mpr ⟨lw_p49, List.forall_mem_cons.mpr ⟨lw_p50, List.forall_mem_cons.mpr ⟨lw_p51, List.forall_mem_cons.mpr ⟨lw_p52, List.forall_mem_cons.mpr ⟨lw_p53, List.forall_mem_cons.mpr ⟨lw_p54, List.forall_mem_cons.mpr ⟨lw_p55, List.forall_mem_cons.mpr ⟨lw_p56, List.forall_mem_cons.mpr ⟨lw_p57, List.forall_mem_cons.mpr ⟨lw_p58, List.forall_mem_cons.mpr ⟨lw_p59, fun _ h => absurd h List.not_mem_nil⟩⟩⟩⟩⟩⟩⟩⟩⟩⟩⟩⟩
def lw_privs : List (MethodName × Nat) := lw_privs_1 ++ (lw_privs_2 ++ (lw_privs_3 ++ (lw_privs_4)))
def lw_tbl : List Cond := k2_sels lw_privs ++ tables_1
theorem lw_privs_ok : ∀ q ∈ lw_privs, lw_okq q := by
  show ∀ q ∈ lw_privs_1 ++ (lw_privs_2 ++ (lw_privs_3 ++ (lw_privs_4))), lw_okq q
  exact List.forall_mem_append.mpr ⟨lw_r1, List.forall_mem_append.mpr ⟨lw_r2, List.forall_mem_append.mpr ⟨lw_r3, lw_r4⟩⟩⟩
/-! ===== BEGIN words of one list among another's, by their places ===== -/
theorem goodIn_r {big : List Cond} (ws : List Cond) (ps : List Nat) (hp : ws = ps.filterMap (fun i => big[i]?)) (h : ws.all goodWord = true) : GoodIn big ws := by
  intro w hw
  have h1 := List.all_eq_true.mp h w hw
  rw [hp] at hw
  obtain ⟨i, -, hi⟩ := List.mem_filterMap.mp hw
  have hm : w ∈ big := by first | exact List.mem_of_getElem? hi | exact List.getElem?_mem hi
  exact ⟨hm, good_of_word h1⟩
theorem goodIn_app {big a b : List Cond} (ha : GoodIn big a) (hb : GoodIn big b) : GoodIn big (a ++ b) := fun w h => (List.mem_append.mp h).elim (ha w) (hb w)
theorem goodIn_ca {big a b : List Cond} {c : Cond} (ha : GoodIn big (c :: a)) (hb : GoodIn big b) : GoodIn big (c :: (a ++ b)) := fun w h => (List.mem_cons.mp h).elim (fun e => ha w (List.mem_cons.mpr (Or.inl e))) (fun h => (List.mem_append.mp h).elim (fun h => ha w (List.mem_cons.mpr (Or.inr h))) (hb w))
theorem goodIn_sub {big ws : List Cond} (hm : ∀ w ∈ ws, w ∈ big) (h : ws.all goodWord = true) : GoodIn big ws := fun w hw => ⟨hm w hw, good_of_word (List.all_eq_true.mp h w hw)⟩
/-! ===== END ===== -/
def RX0 : String := "WavePlan$Crowds"
def TX0 : u_T := fun k => match k with
  | 0 => ("WavePlan$Crowds", "land", "LWavePlan$Land;", true)
  | 1 => ("WavePlan$Crowds", "sums", "[I", true)
  | 2 => ("WavePlan$Crowds", "seats", "[I", true)
  | 3 => ("WavePlan$Crowds", "best", "I", false)
  | _ => ("WavePlan$Crowds", "bestBound", "I", false)
def tyX0 : Nat → FieldType := fun k => match k with
  | 0 => .object "WavePlan$Land"
  | 1 => .array .int
  | 2 => .array .int
  | 3 => .int
  | _ => .int
abbrev wsX00 : List Cond := u_ws RX0 TX0 5
theorem nmX0 : ∀ a, a < 5 → ∀ b, b < 5 → a ≠ b → (TX0 a).2.1 ≠ (TX0 b).2.1 := by decide +kernel
theorem tyX0_ok : ∀ k, k < 5 → parseFieldDescriptor (TX0 k).2.2.1 = some (tyX0 k) := by decide +kernel
abbrev cX0_init : ByteArray := prog_2_method_1_code
def yX0_init : MethodName := ⟨RX0, "<init>", "(LWavePlan$Land;)V"⟩
abbrev cX0_isCrowd : ByteArray := prog_2_method_2_code
def yX0_isCrowd : MethodName := ⟨RX0, "isCrowd", "(I)Z"⟩
abbrev cX0_barsAll : ByteArray := prog_2_method_3_code
def yX0_barsAll : MethodName := ⟨RX0, "barsAll", "(II)Z"⟩
abbrev cX0_wantsOf : ByteArray := prog_2_method_4_code
def yX0_wantsOf : MethodName := ⟨RX0, "wantsOf", "(I)I"⟩
abbrev cX0_boundOf : ByteArray := prog_2_method_5_code
def yX0_boundOf : MethodName := ⟨RX0, "boundOf", "(I)I"⟩
abbrev cX0_greatest : ByteArray := prog_2_method_6_code
def yX0_greatest : MethodName := ⟨RX0, "greatest", "()I"⟩
abbrev cX0_grow : ByteArray := prog_2_method_7_code
def yX0_grow : MethodName := ⟨RX0, "grow", "(III)V"⟩
abbrev cX0_consider : ByteArray := prog_2_method_8_code
def yX0_consider : MethodName := ⟨RX0, "consider", "(II)V"⟩
abbrev cX0_seat : ByteArray := prog_2_method_9_code
def yX0_seat : MethodName := ⟨RX0, "seat", "(II)I"⟩
abbrev cX0_sumUp : ByteArray := prog_2_method_10_code
def yX0_sumUp : MethodName := ⟨RX0, "sumUp", "(II)V"⟩
abbrev cX0_leastSum : ByteArray := prog_2_method_11_code
def yX0_leastSum : MethodName := ⟨RX0, "leastSum", "(III)I"⟩
abbrev cX0_boundOfSeated : ByteArray := prog_2_method_12_code
def yX0_boundOfSeated : MethodName := ⟨RX0, "boundOfSeated", "(I)I"⟩
def RX1 : String := "WavePlan$Frontier"
def TX1 : u_T := fun k => match k with
  | 0 => ("WavePlan$Frontier", "line", "I", false)
  | 1 => ("WavePlan$Frontier", "width", "I", false)
  | 2 => ("WavePlan$Frontier", "first", "I", false)
  | _ => ("WavePlan$Frontier", "second", "I", false)
def tyX1 : Nat → FieldType := fun k => match k with
  | 0 => .int
  | 1 => .int
  | 2 => .int
  | _ => .int
abbrev wsX10 : List Cond := u_ws RX1 TX1 4
theorem nmX1 : ∀ a, a < 4 → ∀ b, b < 4 → a ≠ b → (TX1 a).2.1 ≠ (TX1 b).2.1 := by decide +kernel
theorem tyX1_ok : ∀ k, k < 4 → parseFieldDescriptor (TX1 k).2.2.1 = some (tyX1 k) := by decide +kernel
abbrev cX1_init : ByteArray := prog_3_method_1_code
def yX1_init : MethodName := ⟨RX1, "<init>", "()V"⟩
abbrev cX1_tell : ByteArray := prog_3_method_2_code
def yX1_tell : MethodName := ⟨RX1, "tell", "(IIII)V"⟩
abbrev cX1_swap : ByteArray := prog_3_method_3_code
def yX1_swap : MethodName := ⟨RX1, "swap", "()V"⟩
abbrev cX1_allows : ByteArray := prog_3_method_4_code
def yX1_allows : MethodName := ⟨RX1, "allows", "(LWavePlan$Mast;)I"⟩
def RX2 : String := "WavePlan$Judge"
def TX2 : u_T := fun k => match k with
  | 0 => ("WavePlan$Judge", "land", "LWavePlan$Land;", true)
  | _ => ("WavePlan$Judge", "cost", "[I", true)
def tyX2 : Nat → FieldType := fun k => match k with
  | 0 => .object "WavePlan$Land"
  | _ => .array .int
abbrev wsX20 : List Cond := u_ws RX2 TX2 2
theorem nmX2 : ∀ a, a < 2 → ∀ b, b < 2 → a ≠ b → (TX2 a).2.1 ≠ (TX2 b).2.1 := by decide +kernel
theorem tyX2_ok : ∀ k, k < 2 → parseFieldDescriptor (TX2 k).2.2.1 = some (tyX2 k) := by decide +kernel
abbrev cX2_init : ByteArray := prog_4_method_1_code
def yX2_init : MethodName := ⟨RX2, "<init>", "(LWavePlan$Land;)V"⟩
abbrev cX2_served : ByteArray := prog_4_method_2_code
def yX2_served : MethodName := ⟨RX2, "served", "([I)I"⟩
abbrev cX2_totalHarm : ByteArray := prog_4_method_3_code
def yX2_totalHarm : MethodName := ⟨RX2, "totalHarm", "([I)I"⟩
abbrev cX2_lackOf : ByteArray := prog_4_method_4_code
def yX2_lackOf : MethodName := ⟨RX2, "lackOf", "([III)I"⟩
abbrev cX2_lackAt : ByteArray := prog_4_method_5_code
def yX2_lackAt : MethodName := ⟨RX2, "lackAt", "(IIII)I"⟩
abbrev cX2_lackingTwos : ByteArray := prog_4_method_6_code
def yX2_lackingTwos : MethodName := ⟨RX2, "lackingTwos", "([I)I"⟩
abbrev cX2_lacks : ByteArray := prog_4_method_7_code
def yX2_lacks : MethodName := ⟨RX2, "lacks", "([I)I"⟩
abbrev cX2_sums : ByteArray := prog_4_method_8_code
def yX2_sums : MethodName := ⟨RX2, "sums", "([I)I"⟩
abbrev cX2_sumTogether : ByteArray := prog_4_method_9_code
def yX2_sumTogether : MethodName := ⟨RX2, "sumTogether", "([IIII)Z"⟩
abbrev cX2_sumsOfThree : ByteArray := prog_4_method_10_code
def yX2_sumsOfThree : MethodName := ⟨RX2, "sumsOfThree", "([IIII)I"⟩
abbrev cX2_strayBits : ByteArray := prog_4_method_11_code
def yX2_strayBits : MethodName := ⟨RX2, "strayBits", "([I)I"⟩
abbrev cX2_isClean : ByteArray := prog_4_method_12_code
def yX2_isClean : MethodName := ⟨RX2, "isClean", "([I)Z"⟩
abbrev cX2_freeChannels : ByteArray := prog_4_method_13_code
def yX2_freeChannels : MethodName := ⟨RX2, "freeChannels", "([III)I"⟩
abbrev cX2_sumMates : ByteArray := prog_4_method_14_code
def yX2_sumMates : MethodName := ⟨RX2, "sumMates", "([IIII)Z"⟩
abbrev cX2_tooNear : ByteArray := prog_4_method_15_code
def yX2_tooNear : MethodName := ⟨RX2, "tooNear", "([III)J"⟩
abbrev cX2_sumTargets : ByteArray := prog_4_method_16_code
def yX2_sumTargets : MethodName := ⟨RX2, "sumTargets", "([III)J"⟩
abbrev cX2_bitOf : ByteArray := prog_4_method_17_code
def yX2_bitOf : MethodName := ⟨RX2, "bitOf", "(I)J"⟩
abbrev cX2_weigh : ByteArray := prog_4_method_18_code
def yX2_weigh : MethodName := ⟨RX2, "weigh", "([II)[I"⟩
abbrev cX2_addLacks : ByteArray := prog_4_method_19_code
def yX2_addLacks : MethodName := ⟨RX2, "addLacks", "([III)V"⟩
abbrev cX2_addSums : ByteArray := prog_4_method_20_code
def yX2_addSums : MethodName := ⟨RX2, "addSums", "([IIII)V"⟩
abbrev cX2_addSumAt : ByteArray := prog_4_method_21_code
def yX2_addSumAt : MethodName := ⟨RX2, "addSumAt", "(II)V"⟩
def RX3 : String := "WavePlan$Land"
def TX3 : u_T := fun k => match k with
  | 0 => ("WavePlan$Land", "masts", "[LWavePlan$Mast;", true)
  | 1 => ("WavePlan$Land", "mastOf", "[I", true)
  | 2 => ("WavePlan$Land", "told", "[I", true)
  | 3 => ("WavePlan$Land", "table", "LWavePlan$Table;", true)
  | 4 => ("WavePlan$Land", "frontier", "LWavePlan$Frontier;", true)
  | 5 => ("WavePlan$Land", "bars", "[I", true)
  | 6 => ("WavePlan$Land", "near", "[I", true)
  | 7 => ("WavePlan$Land", "mastCount", "I", false)
  | 8 => ("WavePlan$Land", "wantCount", "I", false)
  | 9 => ("WavePlan$Land", "ownBar", "I", false)
  | _ => ("WavePlan$Land", "sumReach", "I", false)
def tyX3 : Nat → FieldType := fun k => match k with
  | 0 => .array (.object "WavePlan$Mast")
  | 1 => .array .int
  | 2 => .array .int
  | 3 => .object "WavePlan$Table"
  | 4 => .object "WavePlan$Frontier"
  | 5 => .array .int
  | 6 => .array .int
  | 7 => .int
  | 8 => .int
  | 9 => .int
  | _ => .int
abbrev wsX30 : List Cond := u_ws RX3 TX3 11
theorem nmX3 : ∀ a, a < 11 → ∀ b, b < 11 → a ≠ b → (TX3 a).2.1 ≠ (TX3 b).2.1 := by decide +kernel
theorem tyX3_ok : ∀ k, k < 11 → parseFieldDescriptor (TX3 k).2.2.1 = some (tyX3 k) := by decide +kernel
abbrev cX3_init : ByteArray := prog_5_method_1_code
def yX3_init : MethodName := ⟨RX3, "<init>", "()V"⟩
abbrev cX3_hasMast : ByteArray := prog_5_method_2_code
def yX3_hasMast : MethodName := ⟨RX3, "hasMast", "(I)Z"⟩
abbrev cX3_hasWant : ByteArray := prog_5_method_3_code
def yX3_hasWant : MethodName := ⟨RX3, "hasWant", "(I)Z"⟩
abbrev cX3_addMast : ByteArray := prog_5_method_4_code
def yX3_addMast : MethodName := ⟨RX3, "addMast", "(IIII)I"⟩
abbrev cX3_shift : ByteArray := prog_5_method_5_code
def yX3_shift : MethodName := ⟨RX3, "shift", "(II)I"⟩
abbrev cX3_measure : ByteArray := prog_5_method_6_code
def yX3_measure : MethodName := ⟨RX3, "measure", "()V"⟩
abbrev cX3_freshBar : ByteArray := prog_5_method_7_code
def yX3_freshBar : MethodName := ⟨RX3, "freshBar", "(II)I"⟩
abbrev cX3_square : ByteArray := prog_5_method_8_code
def yX3_square : MethodName := ⟨RX3, "square", "(II)I"⟩
abbrev cX3_barOf : ByteArray := prog_5_method_9_code
def yX3_barOf : MethodName := ⟨RX3, "barOf", "(II)I"⟩
abbrev cX3_barOfWants : ByteArray := prog_5_method_10_code
def yX3_barOfWants : MethodName := ⟨RX3, "barOfWants", "(II)I"⟩
abbrev cX3_areIn : ByteArray := prog_5_method_11_code
def yX3_areIn : MethodName := ⟨RX3, "areIn", "(III)Z"⟩
abbrev cX3_kindOfWant : ByteArray := prog_5_method_12_code
def yX3_kindOfWant : MethodName := ⟨RX3, "kindOfWant", "(I)I"⟩
abbrev cX3_gapOf : ByteArray := prog_5_method_13_code
def yX3_gapOf : MethodName := ⟨RX3, "gapOf", "(I)I"⟩
abbrev cX3_allowed : ByteArray := prog_5_method_14_code
def yX3_allowed : MethodName := ⟨RX3, "allowed", "(I)I"⟩
abbrev cX3_barredTwos : ByteArray := prog_5_method_15_code
def yX3_barredTwos : MethodName := ⟨RX3, "barredTwos", "()I"⟩
abbrev cX3_threesIn : ByteArray := prog_5_method_16_code
def yX3_threesIn : MethodName := ⟨RX3, "threesIn", "()I"⟩
abbrev cX3_parts : ByteArray := prog_5_method_17_code
def yX3_parts : MethodName := ⟨RX3, "parts", "()I"⟩
abbrev cX3_partOf : ByteArray := prog_5_method_18_code
def yX3_partOf : MethodName := ⟨RX3, "partOf", "(I)I"⟩
abbrev cX3_partAround : ByteArray := prog_5_method_19_code
def yX3_partAround : MethodName := ⟨RX3, "partAround", "(I)I"⟩
abbrev cX3_joinedTo : ByteArray := prog_5_method_20_code
def yX3_joinedTo : MethodName := ⟨RX3, "joinedTo", "(I)I"⟩
def RX4 : String := "WavePlan$Mast"
def TX4 : u_T := fun k => match k with
  | 0 => ("WavePlan$Mast", "number", "I", false)
  | 1 => ("WavePlan$Mast", "kind", "I", false)
  | 2 => ("WavePlan$Mast", "x", "I", false)
  | 3 => ("WavePlan$Mast", "y", "I", false)
  | 4 => ("WavePlan$Mast", "strength", "I", false)
  | 5 => ("WavePlan$Mast", "wants", "I", false)
  | 6 => ("WavePlan$Mast", "firstWant", "I", false)
  | 7 => ("WavePlan$Mast", "channels", "I", false)
  | _ => ("WavePlan$Mast", "distance", "I", false)
def tyX4 : Nat → FieldType := fun k => match k with
  | 0 => .int
  | 1 => .int
  | 2 => .int
  | 3 => .int
  | 4 => .int
  | 5 => .int
  | 6 => .int
  | 7 => .int
  | _ => .int
abbrev wsX40 : List Cond := u_ws RX4 TX4 9
theorem nmX4 : ∀ a, a < 9 → ∀ b, b < 9 → a ≠ b → (TX4 a).2.1 ≠ (TX4 b).2.1 := by decide +kernel
theorem tyX4_ok : ∀ k, k < 9 → parseFieldDescriptor (TX4 k).2.2.1 = some (tyX4 k) := by decide +kernel
abbrev cX4_init : ByteArray := prog_6_method_1_code
def yX4_init : MethodName := ⟨RX4, "<init>", "()V"⟩
abbrev cX4_begin : ByteArray := prog_6_method_2_code
def yX4_begin : MethodName := ⟨RX4, "begin", "(IIIIII)V"⟩
abbrev cX4_goTo : ByteArray := prog_6_method_3_code
def yX4_goTo : MethodName := ⟨RX4, "goTo", "(I)V"⟩
abbrev cX4_takeAll : ByteArray := prog_6_method_4_code
def yX4_takeAll : MethodName := ⟨RX4, "takeAll", "(LWavePlan$Mast;)V"⟩
abbrev cX4_trait : ByteArray := prog_6_method_5_code
def yX4_trait : MethodName := ⟨RX4, "trait", "(I)I"⟩
abbrev cX4_heaviness : ByteArray := prog_6_method_6_code
def yX4_heaviness : MethodName := ⟨RX4, "heaviness", "()I"⟩
abbrev cX4_fail : ByteArray := prog_6_method_7_code
def yX4_fail : MethodName := ⟨RX4, "fail", "()V"⟩
def RX5 : String := "WavePlan$Mender"
def TX5 : u_T := fun k => match k with
  | 0 => ("WavePlan$Mender", "land", "LWavePlan$Land;", true)
  | _ => ("WavePlan$Mender", "judge", "LWavePlan$Judge;", true)
def tyX5 : Nat → FieldType := fun k => match k with
  | 0 => .object "WavePlan$Land"
  | _ => .object "WavePlan$Judge"
abbrev wsX50 : List Cond := u_ws RX5 TX5 2
theorem nmX5 : ∀ a, a < 2 → ∀ b, b < 2 → a ≠ b → (TX5 a).2.1 ≠ (TX5 b).2.1 := by decide +kernel
theorem tyX5_ok : ∀ k, k < 2 → parseFieldDescriptor (TX5 k).2.2.1 = some (tyX5 k) := by decide +kernel
abbrev cX5_init : ByteArray := prog_7_method_1_code
def yX5_init : MethodName := ⟨RX5, "<init>", "(LWavePlan$Land;LWavePlan$Judge;)V"⟩
abbrev cX5_canChange : ByteArray := prog_7_method_2_code
def yX5_canChange : MethodName := ⟨RX5, "canChange", "([II)Z"⟩
abbrev cX5_improve : ByteArray := prog_7_method_3_code
def yX5_improve : MethodName := ⟨RX5, "improve", "([I)Z"⟩
abbrev cX5_changeOne : ByteArray := prog_7_method_4_code
def yX5_changeOne : MethodName := ⟨RX5, "changeOne", "([I)Z"⟩
abbrev cX5_changeTwo : ByteArray := prog_7_method_5_code
def yX5_changeTwo : MethodName := ⟨RX5, "changeTwo", "([I)Z"⟩
abbrev cX5_changeBoth : ByteArray := prog_7_method_6_code
def yX5_changeBoth : MethodName := ⟨RX5, "changeBoth", "([III)Z"⟩
abbrev cX5_leastFree : ByteArray := prog_7_method_7_code
def yX5_leastFree : MethodName := ⟨RX5, "leastFree", "([III)I"⟩
def RX6 : String := "WavePlan$Shelf"
def TX6 : u_T := fun k => match k with
  | 0 => ("WavePlan$Shelf", "mast", "LWavePlan$Mast;", true)
  | 1 => ("WavePlan$Shelf", "bytes", "[B", true)
  | 2 => ("WavePlan$Shelf", "longs", "[J", true)
  | 3 => ("WavePlan$Shelf", "held", "I", false)
  | _ => ("WavePlan$Shelf", "length", "I", false)
def tyX6 : Nat → FieldType := fun k => match k with
  | 0 => .object "WavePlan$Mast"
  | 1 => .array .byte
  | 2 => .array .long
  | 3 => .int
  | _ => .int
abbrev wsX60 : List Cond := u_ws RX6 TX6 5
theorem nmX6 : ∀ a, a < 5 → ∀ b, b < 5 → a ≠ b → (TX6 a).2.1 ≠ (TX6 b).2.1 := by decide +kernel
theorem tyX6_ok : ∀ k, k < 5 → parseFieldDescriptor (TX6 k).2.2.1 = some (tyX6 k) := by decide +kernel
abbrev cX6_init : ByteArray := prog_8_method_1_code
def yX6_init : MethodName := ⟨RX6, "<init>", "()V"⟩
abbrev cX6_clear : ByteArray := prog_8_method_2_code
def yX6_clear : MethodName := ⟨RX6, "clear", "()V"⟩
abbrev cX6_takeMast : ByteArray := prog_8_method_3_code
def yX6_takeMast : MethodName := ⟨RX6, "takeMast", "(LWavePlan$Mast;)V"⟩
abbrev cX6_takeChannels : ByteArray := prog_8_method_4_code
def yX6_takeChannels : MethodName := ⟨RX6, "takeChannels", "([II)V"⟩
abbrev cX6_takeSquares : ByteArray := prog_8_method_5_code
def yX6_takeSquares : MethodName := ⟨RX6, "takeSquares", "(LWavePlan$Land;I)V"⟩
abbrev cX6_takeZeros : ByteArray := prog_8_method_6_code
def yX6_takeZeros : MethodName := ⟨RX6, "takeZeros", "(II)V"⟩
abbrev cX6_isRow : ByteArray := prog_8_method_7_code
def yX6_isRow : MethodName := ⟨RX6, "isRow", "()Z"⟩
abbrev cX6_hasRange : ByteArray := prog_8_method_8_code
def yX6_hasRange : MethodName := ⟨RX6, "hasRange", "(II)Z"⟩
abbrev cX6_at : ByteArray := prog_8_method_9_code
def yX6_at : MethodName := ⟨RX6, "at", "(I)J"⟩
abbrev cX6_copyTo : ByteArray := prog_8_method_10_code
def yX6_copyTo : MethodName := ⟨RX6, "copyTo", "(ILWavePlan$Shelf;II)V"⟩
def RX7 : String := "WavePlan$Table"
def TX7 : u_T := fun k => match k with
  | 0 => ("WavePlan$Table", "limits", "[I", true)
  | 1 => ("WavePlan$Table", "powers", "[I", true)
  | 2 => ("WavePlan$Table", "bars", "[I", true)
  | _ => ("WavePlan$Table", "rows", "I", false)
def tyX7 : Nat → FieldType := fun k => match k with
  | 0 => .array .int
  | 1 => .array .int
  | 2 => .array .int
  | _ => .int
abbrev wsX70 : List Cond := u_ws RX7 TX7 4
theorem nmX7 : ∀ a, a < 4 → ∀ b, b < 4 → a ≠ b → (TX7 a).2.1 ≠ (TX7 b).2.1 := by decide +kernel
theorem tyX7_ok : ∀ k, k < 4 → parseFieldDescriptor (TX7 k).2.2.1 = some (tyX7 k) := by decide +kernel
abbrev cX7_init : ByteArray := prog_9_method_1_code
def yX7_init : MethodName := ⟨RX7, "<init>", "()V"⟩
abbrev cX7_add : ByteArray := prog_9_method_2_code
def yX7_add : MethodName := ⟨RX7, "add", "(III)V"⟩
abbrev cX7_greatest : ByteArray := prog_9_method_3_code
def yX7_greatest : MethodName := ⟨RX7, "greatest", "(II)I"⟩
def RX8 : String := "WavePlan$Trier"
def TX8 : u_T := fun k => match k with
  | 0 => ("WavePlan$Trier", "land", "LWavePlan$Land;", true)
  | 1 => ("WavePlan$Trier", "judge", "LWavePlan$Judge;", true)
  | 2 => ("WavePlan$Trier", "trial", "[I", true)
  | 3 => ("WavePlan$Trier", "next", "[I", true)
  | 4 => ("WavePlan$Trier", "usable", "[I", true)
  | _ => ("WavePlan$Trier", "made", "I", false)
def tyX8 : Nat → FieldType := fun k => match k with
  | 0 => .object "WavePlan$Land"
  | 1 => .object "WavePlan$Judge"
  | 2 => .array .int
  | 3 => .array .int
  | 4 => .array .int
  | _ => .int
abbrev wsX80 : List Cond := u_ws RX8 TX8 6
theorem nmX8 : ∀ a, a < 6 → ∀ b, b < 6 → a ≠ b → (TX8 a).2.1 ≠ (TX8 b).2.1 := by decide +kernel
theorem tyX8_ok : ∀ k, k < 6 → parseFieldDescriptor (TX8 k).2.2.1 = some (tyX8 k) := by decide +kernel
abbrev cX8_init : ByteArray := prog_10_method_1_code
def yX8_init : MethodName := ⟨RX8, "<init>", "(LWavePlan$Land;LWavePlan$Judge;)V"⟩
abbrev cX8_search : ByteArray := prog_10_method_2_code
def yX8_search : MethodName := ⟨RX8, "search", "(I)I"⟩
abbrev cX8_handOver : ByteArray := prog_10_method_3_code
def yX8_handOver : MethodName := ⟨RX8, "handOver", "([I)V"⟩
abbrev cX8_open : ByteArray := prog_10_method_4_code
def yX8_open : MethodName := ⟨RX8, "open", "(II)V"⟩
abbrev cX8_takes : ByteArray := prog_10_method_5_code
def yX8_takes : MethodName := ⟨RX8, "takes", "(I)Z"⟩
abbrev cX8_below : ByteArray := prog_10_method_6_code
def yX8_below : MethodName := ⟨RX8, "below", "(I)I"⟩
def RX9 : String := "WavePlan"
def TX9 : u_T := fun k => match k with
  | 0 => ("WavePlan", "land", "LWavePlan$Land;", true)
  | 1 => ("WavePlan", "judge", "LWavePlan$Judge;", true)
  | 2 => ("WavePlan", "trier", "LWavePlan$Trier;", true)
  | 3 => ("WavePlan", "mender", "LWavePlan$Mender;", true)
  | 4 => ("WavePlan", "crowds", "LWavePlan$Crowds;", true)
  | 5 => ("WavePlan", "shelves", "[LWavePlan$Shelf;", true)
  | 6 => ("WavePlan", "chosen", "[I", true)
  | 7 => ("WavePlan", "imaged", "[I", true)
  | _ => ("WavePlan", "imagedWants", "I", false)
def tyX9 : Nat → FieldType := fun k => match k with
  | 0 => .object "WavePlan$Land"
  | 1 => .object "WavePlan$Judge"
  | 2 => .object "WavePlan$Trier"
  | 3 => .object "WavePlan$Mender"
  | 4 => .object "WavePlan$Crowds"
  | 5 => .array (.object "WavePlan$Shelf")
  | 6 => .array .int
  | 7 => .array .int
  | _ => .int
abbrev wsX90 : List Cond := u_ws RX9 TX9 9
theorem nmX9 : ∀ a, a < 9 → ∀ b, b < 9 → a ≠ b → (TX9 a).2.1 ≠ (TX9 b).2.1 := by decide +kernel
theorem tyX9_ok : ∀ k, k < 9 → parseFieldDescriptor (TX9 k).2.2.1 = some (tyX9 k) := by decide +kernel
abbrev cX9_init : ByteArray := prog_1_method_1_code
def yX9_init : MethodName := ⟨RX9, "<init>", "()V"⟩
abbrev cX9_mast : ByteArray := prog_1_method_2_code
def yX9_mast : MethodName := ⟨RX9, "mast", "(IIII)I"⟩
abbrev cX9_move : ByteArray := prog_1_method_3_code
def yX9_move : MethodName := ⟨RX9, "move", "(II)I"⟩
abbrev cX9_list : ByteArray := prog_1_method_4_code
def yX9_list : MethodName := ⟨RX9, "list", "(II)I"⟩
abbrev cX9_gap : ByteArray := prog_1_method_5_code
def yX9_gap : MethodName := ⟨RX9, "gap", "(II)I"⟩
abbrev cX9_stay : ByteArray := prog_1_method_6_code
def yX9_stay : MethodName := ⟨RX9, "stay", "(II)I"⟩
abbrev cX9_row : ByteArray := prog_1_method_7_code
def yX9_row : MethodName := ⟨RX9, "row", "(III)I"⟩
abbrev cX9_own : ByteArray := prog_1_method_8_code
def yX9_own : MethodName := ⟨RX9, "own", "(II)I"⟩
abbrev cX9_border : ByteArray := prog_1_method_9_code
def yX9_border : MethodName := ⟨RX9, "border", "(IIII)I"⟩
abbrev cX9_turn : ByteArray := prog_1_method_10_code
def yX9_turn : MethodName := ⟨RX9, "turn", "()I"⟩
abbrev cX9_bar : ByteArray := prog_1_method_11_code
def yX9_bar : MethodName := ⟨RX9, "bar", "(II)I"⟩
abbrev cX9_may : ByteArray := prog_1_method_12_code
def yX9_may : MethodName := ⟨RX9, "may", "(II)I"⟩
abbrev cX9_set : ByteArray := prog_1_method_13_code
def yX9_set : MethodName := ⟨RX9, "set", "(II)I"⟩
abbrev cX9_channel : ByteArray := prog_1_method_14_code
def yX9_channel : MethodName := ⟨RX9, "channel", "(I)I"⟩
abbrev cX9_of : ByteArray := prog_1_method_15_code
def yX9_of : MethodName := ⟨RX9, "of", "(I)I"⟩
abbrev cX9_harm : ByteArray := prog_1_method_16_code
def yX9_harm : MethodName := ⟨RX9, "harm", "()I"⟩
abbrev cX9_kept : ByteArray := prog_1_method_17_code
def yX9_kept : MethodName := ⟨RX9, "kept", "()I"⟩
abbrev cX9_broken : ByteArray := prog_1_method_18_code
def yX9_broken : MethodName := ⟨RX9, "broken", "(I)I"⟩
abbrev cX9_pair : ByteArray := prog_1_method_19_code
def yX9_pair : MethodName := ⟨RX9, "pair", "(II)I"⟩
abbrev cX9_plan : ByteArray := prog_1_method_20_code
def yX9_plan : MethodName := ⟨RX9, "plan", "(I)I"⟩
abbrev cX9_tries : ByteArray := prog_1_method_21_code
def yX9_tries : MethodName := ⟨RX9, "tries", "()I"⟩
abbrev cX9_least : ByteArray := prog_1_method_22_code
def yX9_least : MethodName := ⟨RX9, "least", "()I"⟩
abbrev cX9_span : ByteArray := prog_1_method_23_code
def yX9_span : MethodName := ⟨RX9, "span", "()I"⟩
abbrev cX9_better : ByteArray := prog_1_method_24_code
def yX9_better : MethodName := ⟨RX9, "better", "(I)I"⟩
abbrev cX9_fewest : ByteArray := prog_1_method_25_code
def yX9_fewest : MethodName := ⟨RX9, "fewest", "(I)I"⟩
abbrev cX9_bound : ByteArray := prog_1_method_26_code
def yX9_bound : MethodName := ⟨RX9, "bound", "(I)I"⟩
abbrev cX9_crowd : ByteArray := prog_1_method_27_code
def yX9_crowd : MethodName := ⟨RX9, "crowd", "()I"⟩
abbrev cX9_part : ByteArray := prog_1_method_28_code
def yX9_part : MethodName := ⟨RX9, "part", "(I)I"⟩
abbrev cX9_image : ByteArray := prog_1_method_29_code
def yX9_image : MethodName := ⟨RX9, "image", "()I"⟩
abbrev cX9_restore : ByteArray := prog_1_method_30_code
def yX9_restore : MethodName := ⟨RX9, "restore", "()I"⟩
abbrev cX9_count : ByteArray := prog_1_method_31_code
def yX9_count : MethodName := ⟨RX9, "count", "(I)I"⟩
abbrev cX9_look : ByteArray := prog_1_method_32_code
def yX9_look : MethodName := ⟨RX9, "look", "(II)I"⟩
abbrev cX9_keep : ByteArray := prog_1_method_33_code
def yX9_keep : MethodName := ⟨RX9, "keep", "(III)I"⟩
abbrev cX9_make : ByteArray := prog_1_method_34_code
def yX9_make : MethodName := ⟨RX9, "make", "(III)I"⟩
abbrev cX9_element : ByteArray := prog_1_method_35_code
def yX9_element : MethodName := ⟨RX9, "element", "(II)J"⟩
abbrev cX9_copy : ByteArray := prog_1_method_36_code
def yX9_copy : MethodName := ⟨RX9, "copy", "(IIIII)I"⟩
abbrev cX9_weight : ByteArray := prog_1_method_37_code
def yX9_weight : MethodName := ⟨RX9, "weight", "(I)I"⟩
abbrev cX9_toss : ByteArray := prog_1_method_38_code
def yX9_toss : MethodName := ⟨RX9, "toss", "(I)I"⟩
abbrev cX9_refusalOfMast : ByteArray := prog_1_method_39_code
def yX9_refusalOfMast : MethodName := ⟨RX9, "refusalOfMast", "(I)I"⟩
abbrev cX9_isShelf : ByteArray := prog_1_method_40_code
def yX9_isShelf : MethodName := ⟨RX9, "isShelf", "(I)Z"⟩
abbrev cX9_isPlace : ByteArray := prog_1_method_41_code
def yX9_isPlace : MethodName := ⟨RX9, "isPlace", "(I)Z"⟩
abbrev cX9_within : ByteArray := prog_1_method_42_code
def yX9_within : MethodName := ⟨RX9, "within", "(III)Z"⟩
def RX10 : String := "WavePlanModel"
def TX10 : u_T := fun k => match k with
  | 0 => ("WavePlanModel", "thrown", "I", false)
  | 1 => ("WavePlanModel", "masts", "I", false)
  | 2 => ("WavePlanModel", "kind", "[I", true)
  | 3 => ("WavePlanModel", "px", "[I", true)
  | 4 => ("WavePlanModel", "py", "[I", true)
  | 5 => ("WavePlanModel", "power", "[I", true)
  | 6 => ("WavePlanModel", "many", "[I", true)
  | 7 => ("WavePlanModel", "firstWant", "[I", true)
  | 8 => ("WavePlanModel", "list", "[I", true)
  | 9 => ("WavePlanModel", "gap", "[I", true)
  | 10 => ("WavePlanModel", "wants", "I", false)
  | 11 => ("WavePlanModel", "mastOf", "[I", true)
  | 12 => ("WavePlanModel", "stays", "[I", true)
  | 13 => ("WavePlanModel", "has", "[I", true)
  | 14 => ("WavePlanModel", "rows", "I", false)
  | 15 => ("WavePlanModel", "rowLimit", "[I", true)
  | 16 => ("WavePlanModel", "rowPower", "[I", true)
  | 17 => ("WavePlanModel", "rowBar", "[I", true)
  | 18 => ("WavePlanModel", "own", "I", false)
  | 19 => ("WavePlanModel", "sums", "I", false)
  | 20 => ("WavePlanModel", "line", "I", false)
  | 21 => ("WavePlanModel", "border", "I", false)
  | 22 => ("WavePlanModel", "firstSet", "I", false)
  | 23 => ("WavePlanModel", "secondSet", "I", false)
  | 24 => ("WavePlanModel", "before", "[I", true)
  | 25 => ("WavePlanModel", "tries", "I", false)
  | 26 => ("WavePlanModel", "spent", "Z", false)
  | 27 => ("WavePlanModel", "kept", "[I", true)
  | 28 => ("WavePlanModel", "crowdWant", "[I", true)
  | 29 => ("WavePlanModel", "best", "[I", true)
  | 30 => ("WavePlanModel", "partOf", "[I", true)
  | 31 => ("WavePlanModel", "imageWants", "I", false)
  | 32 => ("WavePlanModel", "image", "[I", true)
  | 33 => ("WavePlanModel", "shelf", "[I", true)
  | 34 => ("WavePlanModel", "shelfSize", "[I", true)
  | 35 => ("WavePlanModel", "shelfWeight", "[I", true)
  | 36 => ("WavePlanModel", "shelfFailure", "[I", true)
  | 37 => ("WavePlanModel", "shelfRow", "[J", true)
  | _ => ("WavePlanModel", "between", "[J", true)
def tyX10 : Nat → FieldType := fun k => match k with
  | 0 => .int
  | 1 => .int
  | 2 => .array .int
  | 3 => .array .int
  | 4 => .array .int
  | 5 => .array .int
  | 6 => .array .int
  | 7 => .array .int
  | 8 => .array .int
  | 9 => .array .int
  | 10 => .int
  | 11 => .array .int
  | 12 => .array .int
  | 13 => .array .int
  | 14 => .int
  | 15 => .array .int
  | 16 => .array .int
  | 17 => .array .int
  | 18 => .int
  | 19 => .int
  | 20 => .int
  | 21 => .int
  | 22 => .int
  | 23 => .int
  | 24 => .array .int
  | 25 => .int
  | 26 => .boolean
  | 27 => .array .int
  | 28 => .array .int
  | 29 => .array .int
  | 30 => .array .int
  | 31 => .int
  | 32 => .array .int
  | 33 => .array .int
  | 34 => .array .int
  | 35 => .array .int
  | 36 => .array .int
  | 37 => .array .long
  | _ => .array .long
abbrev wsX100 : List Cond := u_ws RX10 TX10 39
theorem nmX10 : ∀ a, a < 39 → ∀ b, b < 39 → a ≠ b → (TX10 a).2.1 ≠ (TX10 b).2.1 := by decide +kernel
theorem tyX10_ok : ∀ k, k < 39 → parseFieldDescriptor (TX10 k).2.2.1 = some (tyX10 k) := by decide +kernel
abbrev cX10_init : ByteArray := prog_12_method_1_code
def yX10_init : MethodName := ⟨RX10, "<init>", "()V"⟩
abbrev cX10_thrown : ByteArray := prog_12_method_2_code
def yX10_thrown : MethodName := ⟨RX10, "thrown", "()I"⟩
abbrev cX10_isIn : ByteArray := prog_12_method_3_code
def yX10_isIn : MethodName := ⟨RX10, "isIn", "(JJJ)Z"⟩
abbrev cX10_isMast : ByteArray := prog_12_method_4_code
def yX10_isMast : MethodName := ⟨RX10, "isMast", "(I)Z"⟩
abbrev cX10_isWant : ByteArray := prog_12_method_5_code
def yX10_isWant : MethodName := ⟨RX10, "isWant", "(I)Z"⟩
abbrev cX10_isPlace : ByteArray := prog_12_method_6_code
def yX10_isPlace : MethodName := ⟨RX10, "isPlace", "(I)Z"⟩
abbrev cX10_isSet : ByteArray := prog_12_method_7_code
def yX10_isSet : MethodName := ⟨RX10, "isSet", "(I)Z"⟩
abbrev cX10_mast : ByteArray := prog_12_method_8_code
def yX10_mast : MethodName := ⟨RX10, "mast", "(IIII)I"⟩
abbrev cX10_square : ByteArray := prog_12_method_9_code
def yX10_square : MethodName := ⟨RX10, "square", "(II)I"⟩
abbrev cX10_barOf : ByteArray := prog_12_method_10_code
def yX10_barOf : MethodName := ⟨RX10, "barOf", "(II)I"⟩
abbrev cX10_move : ByteArray := prog_12_method_11_code
def yX10_move : MethodName := ⟨RX10, "move", "(II)I"⟩
abbrev cX10_countBits : ByteArray := prog_12_method_12_code
def yX10_countBits : MethodName := ⟨RX10, "countBits", "(I)I"⟩
abbrev cX10_list : ByteArray := prog_12_method_13_code
def yX10_list : MethodName := ⟨RX10, "list", "(II)I"⟩
abbrev cX10_gap : ByteArray := prog_12_method_14_code
def yX10_gap : MethodName := ⟨RX10, "gap", "(II)I"⟩
abbrev cX10_stay : ByteArray := prog_12_method_15_code
def yX10_stay : MethodName := ⟨RX10, "stay", "(II)I"⟩
abbrev cX10_row : ByteArray := prog_12_method_16_code
def yX10_row : MethodName := ⟨RX10, "row", "(III)I"⟩
abbrev cX10_own : ByteArray := prog_12_method_17_code
def yX10_own : MethodName := ⟨RX10, "own", "(II)I"⟩
abbrev cX10_border : ByteArray := prog_12_method_18_code
def yX10_border : MethodName := ⟨RX10, "border", "(IIII)I"⟩
abbrev cX10_isFree : ByteArray := prog_12_method_19_code
def yX10_isFree : MethodName := ⟨RX10, "isFree", "(II)Z"⟩
abbrev cX10_isListed : ByteArray := prog_12_method_20_code
def yX10_isListed : MethodName := ⟨RX10, "isListed", "(II)Z"⟩
abbrev cX10_mayHave : ByteArray := prog_12_method_21_code
def yX10_mayHave : MethodName := ⟨RX10, "mayHave", "(II)Z"⟩
abbrev cX10_turn : ByteArray := prog_12_method_22_code
def yX10_turn : MethodName := ⟨RX10, "turn", "()I"⟩
abbrev cX10_bar : ByteArray := prog_12_method_23_code
def yX10_bar : MethodName := ⟨RX10, "bar", "(II)I"⟩
abbrev cX10_may : ByteArray := prog_12_method_24_code
def yX10_may : MethodName := ⟨RX10, "may", "(II)I"⟩
abbrev cX10_set : ByteArray := prog_12_method_25_code
def yX10_set : MethodName := ⟨RX10, "set", "(II)I"⟩
abbrev cX10_channel : ByteArray := prog_12_method_26_code
def yX10_channel : MethodName := ⟨RX10, "channel", "(I)I"⟩
abbrev cX10_of : ByteArray := prog_12_method_27_code
def yX10_of : MethodName := ⟨RX10, "of", "(I)I"⟩
abbrev cX10_channelOf : ByteArray := prog_12_method_28_code
def yX10_channelOf : MethodName := ⟨RX10, "channelOf", "(II)I"⟩
abbrev cX10_channelsOf : ByteArray := prog_12_method_29_code
def yX10_channelsOf : MethodName := ⟨RX10, "channelsOf", "(I)I"⟩
abbrev cX10_lack : ByteArray := prog_12_method_30_code
def yX10_lack : MethodName := ⟨RX10, "lack", "(II)I"⟩
abbrev cX10_areIn : ByteArray := prog_12_method_31_code
def yX10_areIn : MethodName := ⟨RX10, "areIn", "(III)Z"⟩
abbrev cX10_middles : ByteArray := prog_12_method_32_code
def yX10_middles : MethodName := ⟨RX10, "middles", "(III)I"⟩
abbrev cX10_brokenOf : ByteArray := prog_12_method_33_code
def yX10_brokenOf : MethodName := ⟨RX10, "brokenOf", "(I)I"⟩
abbrev cX10_harmNow : ByteArray := prog_12_method_34_code
def yX10_harmNow : MethodName := ⟨RX10, "harmNow", "()I"⟩
abbrev cX10_harm : ByteArray := prog_12_method_35_code
def yX10_harm : MethodName := ⟨RX10, "harm", "()I"⟩
abbrev cX10_kept : ByteArray := prog_12_method_36_code
def yX10_kept : MethodName := ⟨RX10, "kept", "()I"⟩
abbrev cX10_broken : ByteArray := prog_12_method_37_code
def yX10_broken : MethodName := ⟨RX10, "broken", "(I)I"⟩
abbrev cX10_pair : ByteArray := prog_12_method_38_code
def yX10_pair : MethodName := ⟨RX10, "pair", "(II)I"⟩
abbrev cX10_isFine : ByteArray := prog_12_method_39_code
def yX10_isFine : MethodName := ⟨RX10, "isFine", "(I)Z"⟩
abbrev cX10_isTaken : ByteArray := prog_12_method_40_code
def yX10_isTaken : MethodName := ⟨RX10, "isTaken", "(III)Z"⟩
abbrev cX10_tryBelow : ByteArray := prog_12_method_41_code
def yX10_tryBelow : MethodName := ⟨RX10, "tryBelow", "(I)Z"⟩
abbrev cX10_keepPlan : ByteArray := prog_12_method_42_code
def yX10_keepPlan : MethodName := ⟨RX10, "keepPlan", "()V"⟩
abbrev cX10_givePlan : ByteArray := prog_12_method_43_code
def yX10_givePlan : MethodName := ⟨RX10, "givePlan", "()V"⟩
abbrev cX10_plan : ByteArray := prog_12_method_44_code
def yX10_plan : MethodName := ⟨RX10, "plan", "(I)I"⟩
abbrev cX10_tries : ByteArray := prog_12_method_45_code
def yX10_tries : MethodName := ⟨RX10, "tries", "()I"⟩
abbrev cX10_least : ByteArray := prog_12_method_46_code
def yX10_least : MethodName := ⟨RX10, "least", "()I"⟩
abbrev cX10_span : ByteArray := prog_12_method_47_code
def yX10_span : MethodName := ⟨RX10, "span", "()I"⟩
abbrev cX10_isBettered : ByteArray := prog_12_method_48_code
def yX10_isBettered : MethodName := ⟨RX10, "isBettered", "()Z"⟩
abbrev cX10_better : ByteArray := prog_12_method_49_code
def yX10_better : MethodName := ⟨RX10, "better", "(I)I"⟩
abbrev cX10_isHealedBy : ByteArray := prog_12_method_50_code
def yX10_isHealedBy : MethodName := ⟨RX10, "isHealedBy", "(I)Z"⟩
abbrev cX10_isHealedByTwo : ByteArray := prog_12_method_51_code
def yX10_isHealedByTwo : MethodName := ⟨RX10, "isHealedByTwo", "()Z"⟩
abbrev cX10_fewest : ByteArray := prog_12_method_52_code
def yX10_fewest : MethodName := ⟨RX10, "fewest", "(I)I"⟩
abbrev cX10_wantsIn : ByteArray := prog_12_method_53_code
def yX10_wantsIn : MethodName := ⟨RX10, "wantsIn", "(I)I"⟩
abbrev cX10_isCrowd : ByteArray := prog_12_method_54_code
def yX10_isCrowd : MethodName := ⟨RX10, "isCrowd", "(I)Z"⟩
abbrev cX10_boundOf : ByteArray := prog_12_method_55_code
def yX10_boundOf : MethodName := ⟨RX10, "boundOf", "(I)I"⟩
abbrev cX10_bound : ByteArray := prog_12_method_56_code
def yX10_bound : MethodName := ⟨RX10, "bound", "(I)I"⟩
abbrev cX10_crowd : ByteArray := prog_12_method_57_code
def yX10_crowd : MethodName := ⟨RX10, "crowd", "()I"⟩
abbrev cX10_areNear : ByteArray := prog_12_method_58_code
def yX10_areNear : MethodName := ⟨RX10, "areNear", "(II)Z"⟩
abbrev cX10_findParts : ByteArray := prog_12_method_59_code
def yX10_findParts : MethodName := ⟨RX10, "findParts", "()I"⟩
abbrev cX10_part : ByteArray := prog_12_method_60_code
def yX10_part : MethodName := ⟨RX10, "part", "(I)I"⟩
abbrev cX10_withChannel : ByteArray := prog_12_method_61_code
def yX10_withChannel : MethodName := ⟨RX10, "withChannel", "()I"⟩
abbrev cX10_image : ByteArray := prog_12_method_62_code
def yX10_image : MethodName := ⟨RX10, "image", "()I"⟩
abbrev cX10_restore : ByteArray := prog_12_method_63_code
def yX10_restore : MethodName := ⟨RX10, "restore", "()I"⟩
abbrev cX10_bars : ByteArray := prog_12_method_64_code
def yX10_bars : MethodName := ⟨RX10, "bars", "()I"⟩
abbrev cX10_threes : ByteArray := prog_12_method_65_code
def yX10_threes : MethodName := ⟨RX10, "threes", "()I"⟩
abbrev cX10_count : ByteArray := prog_12_method_66_code
def yX10_count : MethodName := ⟨RX10, "count", "(I)I"⟩
abbrev cX10_look : ByteArray := prog_12_method_67_code
def yX10_look : MethodName := ⟨RX10, "look", "(II)I"⟩
abbrev cX10_isShelf : ByteArray := prog_12_method_68_code
def yX10_isShelf : MethodName := ⟨RX10, "isShelf", "(I)Z"⟩
abbrev cX10_weightOf : ByteArray := prog_12_method_69_code
def yX10_weightOf : MethodName := ⟨RX10, "weightOf", "(I)I"⟩
abbrev cX10_keep : ByteArray := prog_12_method_70_code
def yX10_keep : MethodName := ⟨RX10, "keep", "(III)I"⟩
abbrev cX10_make : ByteArray := prog_12_method_71_code
def yX10_make : MethodName := ⟨RX10, "make", "(III)I"⟩
abbrev cX10_element : ByteArray := prog_12_method_72_code
def yX10_element : MethodName := ⟨RX10, "element", "(II)J"⟩
abbrev cX10_hasPlaces : ByteArray := prog_12_method_73_code
def yX10_hasPlaces : MethodName := ⟨RX10, "hasPlaces", "(III)Z"⟩
abbrev cX10_copy : ByteArray := prog_12_method_74_code
def yX10_copy : MethodName := ⟨RX10, "copy", "(IIIII)I"⟩
abbrev cX10_denied : ByteArray := prog_12_method_75_code
def yX10_denied : MethodName := ⟨RX10, "denied", "(I)I"⟩
abbrev cX10_weight : ByteArray := prog_12_method_76_code
def yX10_weight : MethodName := ⟨RX10, "weight", "(I)I"⟩
abbrev cX10_toss : ByteArray := prog_12_method_77_code
def yX10_toss : MethodName := ⟨RX10, "toss", "(I)I"⟩
def RJx145de : String := "java/io/Serializable"
def TJx145de : u_T := fun k => match k with
  | _ => ("", "", "", false)
def tyJx145de : Nat → FieldType := fun k => match k with
  | _ => .int
abbrev wsJx145de0 : List Cond := u_ws RJx145de TJx145de 0
theorem nmJx145de : ∀ a, a < 0 → ∀ b, b < 0 → a ≠ b → (TJx145de a).2.1 ≠ (TJx145de b).2.1 := by decide +kernel
theorem tyJx145de_ok : ∀ k, k < 0 → parseFieldDescriptor (TJx145de k).2.2.1 = some (tyJx145de k) := by decide +kernel
def RJ6 : String := "java/lang/Integer"
def TJ6 : u_T := fun k => match k with
  | _ => ("", "", "", false)
def tyJ6 : Nat → FieldType := fun k => match k with
  | _ => .int
abbrev wsJ60 : List Cond := u_ws RJ6 TJ6 0
theorem nmJ6 : ∀ a, a < 0 → ∀ b, b < 0 → a ≠ b → (TJ6 a).2.1 ≠ (TJ6 b).2.1 := by decide +kernel
theorem tyJ6_ok : ∀ k, k < 0 → parseFieldDescriptor (TJ6 k).2.2.1 = some (tyJ6 k) := by decide +kernel
abbrev cJ6_bitCount_0f7a4 : ByteArray := prog_16_method_49_code
def yJ6_bitCount_0f7a4 : MethodName := ⟨RJ6, "bitCount", "(I)I"⟩
def RJ9 : String := "java/lang/Math"
def TJ9 : u_T := fun k => match k with
  | _ => ("", "", "", false)
def tyJ9 : Nat → FieldType := fun k => match k with
  | _ => .int
abbrev wsJ90 : List Cond := u_ws RJ9 TJ9 0
theorem nmJ9 : ∀ a, a < 0 → ∀ b, b < 0 → a ≠ b → (TJ9 a).2.1 ≠ (TJ9 b).2.1 := by decide +kernel
theorem tyJ9_ok : ∀ k, k < 0 → parseFieldDescriptor (TJ9 k).2.2.1 = some (tyJ9 k) := by decide +kernel
abbrev cJ9_abs_0f7a4 : ByteArray := prog_17_method_59_code
def yJ9_abs_0f7a4 : MethodName := ⟨RJ9, "abs", "(I)I"⟩
abbrev cJ9_max_7cf53 : ByteArray := prog_17_method_65_code
def yJ9_max_7cf53 : MethodName := ⟨RJ9, "max", "(II)I"⟩
abbrev cJ9_min_7cf53 : ByteArray := prog_17_method_69_code
def yJ9_min_7cf53 : MethodName := ⟨RJ9, "min", "(II)I"⟩
def RJ0 : String := "java/lang/String"
def TJ0 : u_T := fun k => match k with
  | _ => ("", "", "", false)
def tyJ0 : Nat → FieldType := fun k => match k with
  | _ => .int
abbrev wsJ00 : List Cond := u_ws RJ0 TJ0 0
theorem nmJ0 : ∀ a, a < 0 → ∀ b, b < 0 → a ≠ b → (TJ0 a).2.1 ≠ (TJ0 b).2.1 := by decide +kernel
theorem tyJ0_ok : ∀ k, k < 0 → parseFieldDescriptor (TJ0 k).2.2.1 = some (tyJ0 k) := by decide +kernel
def RJ10 : String := "java/lang/System"
def TJ10 : u_T := fun k => match k with
  | _ => ("", "", "", false)
def tyJ10 : Nat → FieldType := fun k => match k with
  | _ => .int
abbrev wsJ100 : List Cond := u_ws RJ10 TJ10 0
theorem nmJ10 : ∀ a, a < 0 → ∀ b, b < 0 → a ≠ b → (TJ10 a).2.1 ≠ (TJ10 b).2.1 := by decide +kernel
theorem tyJ10_ok : ∀ k, k < 0 → parseFieldDescriptor (TJ10 k).2.2.1 = some (tyJ10 k) := by decide +kernel
def RJ7 : String := "java/util/Arrays"
def TJ7 : u_T := fun k => match k with
  | _ => ("", "", "", false)
def tyJ7 : Nat → FieldType := fun k => match k with
  | _ => .int
abbrev wsJ70 : List Cond := u_ws RJ7 TJ7 0
theorem nmJ7 : ∀ a, a < 0 → ∀ b, b < 0 → a ≠ b → (TJ7 a).2.1 ≠ (TJ7 b).2.1 := by decide +kernel
theorem tyJ7_ok : ∀ k, k < 0 → parseFieldDescriptor (TJ7 k).2.2.1 = some (tyJ7 k) := by decide +kernel
abbrev cJ7_fill_d0a16 : ByteArray := prog_23_method_101_code
def yJ7_fill_d0a16 : MethodName := ⟨RJ7, "fill", "([JJ)V"⟩
abbrev cJ7_fill_53178 : ByteArray := prog_23_method_103_code
def yJ7_fill_53178 : MethodName := ⟨RJ7, "fill", "([II)V"⟩
abbrev cJ7_fill_031fb : ByteArray := prog_23_method_109_code
def yJ7_fill_031fb : MethodName := ⟨RJ7, "fill", "([BB)V"⟩
def RL : String := "WavePlanLaw"
abbrev cL_element : ByteArray := method_3_code
def yL_element : MethodName := ⟨RL, "element", "(LWavePlan;II[J)I"⟩
abbrev cL_law : ByteArray := code
def yL_law : MethodName := ⟨RL, "law", "([I)Z"⟩
abbrev vwCl : List vw_C := [(RX0, TX0, 5), (RX1, TX1, 4), (RX2, TX2, 2), (RX3, TX3, 11), (RX4, TX4, 9), (RX5, TX5, 2), (RX6, TX6, 5), (RX7, TX7, 4), (RX8, TX8, 6), (RX9, TX9, 9), (RX10, TX10, 39)]
end
section
/-! THE PICTURE: cells have numbers (places in a list of shapes); what they hold is a function of number and slot. -/
section ABdefs
/-- what the cells hold: ints (bytes, booleans) and longs, by the cell's number and the slot -/
abbrev ab_M : Type := (Nat → Nat → Int32) × (Nat → Nat → Int64)
/-- a cell's shape: its class (below 100; 100 int[], 101 byte[], 102 long[], 103 and on arrays of references), its size, its references -/
abbrev ab_S : Type := Nat × Nat × List (Option Nat)
abbrev ab_H : Type := List ab_S
/-- a method: name, the class that it stands in, code, locals, answer -/
abbrev ab_Me : Type := MethodName × String × ByteArray × Nat × Option FieldType
def ab_v (ad : Nat → Nat) (v : Value) : Value := match v with
  | .ref i => .ref (ad i)
  | v => v
/-- which fields are references -/
def ab_RT : List (List Bool) := [[true, true, true, false, false], [false, false, false, false], [true, true], [true, true, true, true, true, true, true, false, false, false, false], [false, false, false, false, false, false, false, false, false], [true, true], [true, true, true, false, false], [true, true, true, false], [true, true, true, true, true, false], [true, true, true, true, true, true, true, true, false], [false, false, true, true, true, true, true, true, true, true, false, true, true, true, false, true, true, true, false, false, false, false, false, false, true, false, false, true, true, true, true, false, true, true, true, true, true, true, true]]
def ab_isR (ci k : Nat) : Bool := (ab_RT.getD ci []).getD k false
def ab_fv (ad : Nat → Nat) (M : ab_M) (id : Nat) (x : ab_S) (k : Nat) : Value := if ab_isR x.1 k = true then va_rf ((x.2.2.getD k none).map ad) else .int (M.1 id k)
def ab_cell (ac : Nat → ClassId) (ad : Nat → Nat) (M : ab_M) (id : Nat) (x : ab_S) : va_E :=
  if x.1 < 100 then .inr (x.1, (List.range x.2.1).map (ab_fv ad M id x))
  else if x.1 < 102 then .inl (ac x.1, x.2.1, .inl (M.1 id))
  else if x.1 = 102 then .inl (ac x.1, x.2.1, .inr (.inl (M.2 id)))
  else .inl (ac x.1, x.2.1, .inr (.inr (.inr (.inr (fun j => (x.2.2.getD j none).map ad)))))
def ab_W (ac : Nat → ClassId) (ad : Nat → Nat) (sh : ab_H) (M : ab_M) : va_W := (List.range sh.length).map (fun id => (ad id, ab_cell ac ad M id (sh.getD id (0, 0, []))))
def ab_tys (ac : Nat → ClassId) : List (ClassId × FieldType) := [(ac 100, .int), (ac 101, .byte), (ac 102, .long), (ac 103, .object "WavePlan$Mast"), (ac 104, .object "WavePlan$Shelf")]
/-- the words of the tables that stay, for every method -/
def ab_G : List Cond := lw_tbl.filter goodWord
def ab_ws (me : ab_Me) : List Cond := .code me.1 me.2.2.1 me.2.2.2.1 me.2.2.2.2 :: ab_G
def ab_isN (w : Cond) : Bool := match w with
  | .fieldLinkNest .. => true
  | .methodLinkNest .. => true
  | _ => false
def ab_nest : List Cond := lw_tbl.filter ab_isN
def ab_N (U : State) : Prop := ∀ w ∈ ab_nest, va_Nw w U
theorem ab_N.warm {s U : State} (hW : s.WarmedH U.vm) (h : ab_N s) : ab_N U := by
  intro w hw
  have h1 := h w hw
  have h2 := (List.mem_filter.mp hw).2
  match w, h1, h2 with
  | .fieldLinkNest .., h1, _ => exact va_Nw.warmF hW h1
  | .methodLinkNest .., h1, _ => exact va_Nw.warmM hW h1
theorem ab_N.same {s U : State} (hv : s.vm = U.vm) (h : ab_N s) : ab_N U := by
  intro w hw
  have h1 := h w hw
  have h2 := (List.mem_filter.mp hw).2
  match w, h1, h2 with
  | .fieldLinkNest .., h1, _ => exact va_Nw.same rfl hv h1
  | .methodLinkNest .., h1, _ => exact va_Nw.same rfl hv h1
theorem ab_G_in {w : Cond} {i : Nat} (h : lw_tbl[i]? = some w) (hg : goodWord w = true) : w ∈ ab_G := List.mem_filter.mpr ⟨List.mem_of_getElem? h, hg⟩
theorem ab_n_in {w : Cond} {i : Nat} (h : lw_tbl[i]? = some w) (hg : ab_isN w = true) : w ∈ ab_nest := List.mem_filter.mpr ⟨List.mem_of_getElem? h, hg⟩
theorem ab_goodIn {me me' : ab_Me} (h : Cond.code me'.1 me'.2.2.1 me'.2.2.2.1 me'.2.2.2.2 ∈ ab_G) : GoodIn (ab_ws me) (ab_ws me') := by
  intro w hw
  rcases List.mem_cons.mp hw with rfl | hw
  · exact ⟨List.mem_cons_of_mem _ h, good_of_word (List.mem_filter.mp h).2⟩
  · exact ⟨List.mem_cons_of_mem _ hw, good_of_word (List.mem_filter.mp hw).2⟩
theorem ab_good1 {me : ab_Me} {w : Cond} (h : w ∈ ab_G) : w ∈ ab_ws me ∧ ((w.onTables && w.keeps) = true ∨ ∃ ty, w = .arrayClass ty) := ⟨List.mem_cons_of_mem _ h, good_of_word (List.mem_filter.mp h).2⟩
/-! what is written -/
def ab_pi (M : ab_M) (o k : Nat) (v : Int32) : ab_M := (fun a b => if a = o ∧ b = k then v else M.1 a b, M.2)
def ab_pl (M : ab_M) (o k : Nat) (v : Int64) : ab_M := (M.1, fun a b => if a = o ∧ b = k then v else M.2 a b)
theorem ab_W_get {ac : Nat → ClassId} {ad : Nat → Nat} {sh : ab_H} {M : ab_M} {id : Nat} {x : ab_S} (h : sh[id]? = some x) : (ab_W ac ad sh M)[id]? = some (ad id, ab_cell ac ad M id x) := by
  obtain ⟨hl, he⟩ := List.getElem?_eq_some_iff.mp h
  simp [ab_W, hl, he]
theorem ab_W_set {ac : Nat → ClassId} {ad : Nat → Nat} {sh : ab_H} {M M' : ab_M} {id : Nat} {x : ab_S} {c' : va_E} (h : sh[id]? = some x) (hc : ab_cell ac ad M' id x = c') (ho : ∀ (j : Nat) (y : ab_S), j ≠ id → ab_cell ac ad M' j y = ab_cell ac ad M j y) : (ab_W ac ad sh M).set id (ad id, c') = ab_W ac ad sh M' := by
  have hl := (List.getElem?_eq_some_iff.mp h).1
  subst hc
  refine List.ext_getElem? (fun k => ?_)
  by_cases hk : k = id
  · subst hk
    rw [List.getElem?_set_self (by simp [ab_W, hl]), ab_W_get h]
  · rw [List.getElem?_set_ne (Ne.symm hk)]
    by_cases hkl : k < sh.length
    · simp [ab_W, hkl, ho k _ hk]
    · simp [ab_W, hkl]
theorem ab_cell_i {ac : Nat → ClassId} {ad : Nat → Nat} {M : ab_M} {o k j : Nat} {v : Int32} {y : ab_S} (h : j ≠ o) : ab_cell ac ad (ab_pi M o k v) j y = ab_cell ac ad M j y := by
  have h1 : (ab_pi M o k v).1 j = M.1 j := by funext b; simp [ab_pi, h]
  have h2 : (ab_pi M o k v).2 = M.2 := rfl
  unfold ab_cell
  rw [h1, h2]
  have h3 : ab_fv ad (ab_pi M o k v) j y = ab_fv ad M j y := by funext b; simp [ab_fv, h1]
  rw [h3]
theorem ab_cell_l {ac : Nat → ClassId} {ad : Nat → Nat} {M : ab_M} {o k j : Nat} {v : Int64} {y : ab_S} (h : j ≠ o) : ab_cell ac ad (ab_pl M o k v) j y = ab_cell ac ad M j y := by
  have h1 : (ab_pl M o k v).2 j = M.2 j := by funext b; simp [ab_pl, h]
  have h2 : (ab_pl M o k v).1 = M.1 := rfl
  unfold ab_cell
  rw [h1, h2]
  have h3 : ab_fv ad (ab_pl M o k v) j y = ab_fv ad M j y := by funext b; simp [ab_fv, h2]
  rw [h3]
theorem ab_cell_obj {ac : Nat → ClassId} {ad : Nat → Nat} {M : ab_M} {id : Nat} {x : ab_S} (h : x.1 < 100) : ab_cell ac ad M id x = .inr (x.1, (List.range x.2.1).map (ab_fv ad M id x)) := by simp [ab_cell, h]
theorem ab_obj_set {ad : Nat → Nat} {M : ab_M} {id : Nat} {x : ab_S} {k : Nat} {v : Int32} (hr : ab_isR x.1 k = false) : ((List.range x.2.1).map (ab_fv ad M id x)).set k (.int v) = (List.range x.2.1).map (ab_fv ad (ab_pi M id k v) id x) := by
  refine List.ext_getElem? (fun j => ?_)
  by_cases hj : j = k
  · subst hj
    by_cases hl : j < x.2.1
    · rw [List.getElem?_set_self (by simpa using hl)]
      simp [hl, ab_fv, hr, ab_pi]
    · rw [List.getElem?_eq_none (by simpa using Nat.not_lt.mp hl), List.getElem?_eq_none (by simpa using Nat.not_lt.mp hl)]
  · rw [List.getElem?_set_ne (Ne.symm hj)]
    by_cases hl : j < x.2.1
    · simp [hl, ab_fv, ab_pi, hj]
    · simp [hl]
end ABdefs
section ABev
/-- the room of a method at depth d -/
abbrev ab_rm (d mc ms : Nat) : Room := { frames := d, cells := mc, slots := ms, locals := 48 * d }
abbrev ab_Rs : Type := Option Value × ab_H × ab_M
def ab_Qc (D : va_G) (ac : Nat → ClassId) (A : Nat → Prop) (ad : Nat → Nat) (n0 : Nat) (r : ab_Rs) : Array Value → State → Outcome → State → Prop := fun _ st oc t =>
  (∃ ad' : Nat → Nat, oc = .returned (r.1.map (ab_v ad')) ∧ (∀ i, i < n0 → ad' i = ad i) ∧ (r.2.1.length ≤ n0 → ad' = ad) ∧ va_P D vwCl (ab_W ac ad' r.2.1 r.2.2) t.heap ∧ va_K D vwCl (ab_tys ac) t ∧ va_D A (ab_W ac ad' r.2.1 r.2.2)) ∧ va_F A st t
def ab_Cx (D : va_G) (ac : Nat → ClassId) (me : ab_Me) (p : Program) (s : State) (m : MethodId) (args : Array Value) (meth : Method) (c : Code) : Prop :=
  p.tables.exec = Jvm.exec ∧ c.code = me.2.2.1 ∧ meth.sig.returnType = me.2.2.2.2 ∧ c.maxLocals = me.2.2.2.1 ∧ s.vm.findClass me.2.1 = some m.cls ∧ (∀ w ∈ ab_ws me, w.before args s = true) ∧ meth.locks = false ∧ meth.name = me.1.name ∧ va_K D vwCl (ab_tys ac) s ∧ ab_N s
def ab_St (D : va_G) (ac : Nat → ClassId) (A : Nat → Prop) (s : State) (ad : Nat → Nat) (sh : ab_H) (M : ab_M) (H : Heap) (locs : List Loc) : Prop :=
  va_P D vwCl (ab_W ac ad sh M) H ∧ va_D A (ab_W ac ad sh M) ∧ va_S A s.heap H locs ∧ ∀ q, s.heap.size ≤ q → A q
def ab_L (ad : Nat → Nat) (ls : Array Slot) (nL : Nat) (lv : List (Option Value)) : Prop := ls.size = nL ∧ lv_wf ls ∧ lv.length = nL ∧ ∀ (i : Nat) (v : Value), lv[i]? = some (some v) → ls[i]? = some (.val (ab_v ad v))
/-- from here (place, locals, stack, cells) the method comes to its end with r -/
def ab_Ev (l : Launch) (D : va_G) (ac : Nat → ClassId) (d : Nat) (me : ab_Me) (n0 mc ms : Nat) (r : ab_Rs) (k n : Nat) (sh : ab_H) (pc : Nat) (lv : List (Option Value)) (st : List Value) (M : ab_M) : Prop :=
  ∀ (p : Program) (e : Env) (s : State) (m : MethodId) (args : Array Value) (below : List Frame) (meth : Method) (c : Code) (H : Heap) (locs : List Loc) (A : Nat → Prop) (ad : Nat → Nat) (ls : Array Slot),
    ab_Cx D ac me p s m args meth c → ab_St D ac A s ad sh M H locs → ab_L ad ls me.2.2.2.1 lv → W p l e (ab_rm d mc ms) s m args below meth c H locs k n (MQ below (ab_Qc D ac A ad n0 r) args s mc ms A) (F0 m pc ls (st.map (ab_v ad)))
/-- a method's contract -/
def ab_Con (l : Launch) (D : va_G) (ac : Nat → ClassId) (d : Nat) (me : ab_Me) (mc ms : Nat) (av : List Value) (sh : ab_H) (M : ab_M) (r : ab_Rs) : Prop :=
  ∀ (ad : Nat → Nat) (sz : Nat), Met l me.1 (ab_ws me) (ab_rm d mc ms) (va_Pc (av.map (ab_v ad)) (fun U => U.heap.size = sz ∧ va_P D vwCl (ab_W ac ad sh M) U.heap ∧ va_K D vwCl (ab_tys ac) U ∧ va_D (fun _ => True) (ab_W ac ad sh M) ∧ ab_N U)) (ab_Qc D ac (va_A (ab_W ac ad sh M) sz) ad sh.length r) mc ms (va_A (ab_W ac ad sh M) sz)
variable {l : Launch} {D : va_G} {ac : Nat → ClassId} {d : Nat} {me : ab_Me} {n0 mc ms : Nat} {r : ab_Rs} {k n : Nat} {sh : ab_H} {pc : Nat} {lv lv' : List (Option Value)} {st : List Value} {M : ab_M}
theorem ab_vc (ad : Nat → Nat) (v : Value) : (ab_v ad v).category = v.category := by cases v <;> rfl
theorem ab_vcs (ad : Nat → Nat) (st : List Value) : ((st.map (ab_v ad)).map fun v => v.category) = st.map fun v => v.category := by
  induction st with
  | nil => rfl
  | cons a t ih => simp only [List.map_cons, ab_vc]; rw [ih]
def ab_prs (ad : Nat → Nat) (lv : List (Option Value)) : List (Nat × Value) := (List.range lv.length).filterMap (fun i => (lv.getD i none).map (fun v => (i, ab_v ad v)))
theorem ab_prs_mem {ad : Nat → Nat} {lv : List (Option Value)} {i : Nat} {v : Value} (h : lv[i]? = some (some v)) : (i, ab_v ad v) ∈ ab_prs ad lv := by
  have hl := (List.getElem?_eq_some_iff.mp h).1
  exact List.mem_filterMap.mpr ⟨i, List.mem_range.mpr hl, by simp [h]⟩
theorem ab_L.has {ad : Nat → Nat} {ls : Array Slot} {nL : Nat} {lv : List (Option Value)} (h : ab_L ad ls nL lv) : lv_has ls nL (ab_prs ad lv) := by
  refine ⟨h.1, h.2.1, fun q hq => ?_⟩
  obtain ⟨i, hi, hv⟩ := List.mem_filterMap.mp hq
  have hl := List.mem_range.mp hi
  cases ho : lv.getD i none with
  | none => rw [ho] at hv; cases hv
  | some v =>
    rw [ho] at hv
    cases hv
    refine h.2.2.2 i v ?_
    rw [List.getD_eq_getElem?_getD] at ho
    rw [List.getElem?_eq_getElem hl] at ho ⊢
    simpa using ho
/-- no long right before place i -/
def ab_sf (lv : List (Option Value)) (i : Nat) : Bool := match i with
  | 0 => true
  | j + 1 => match lv[j]? with
    | some (some v) => v.category == 1
    | _ => true
theorem ab_L.store1 {ad : Nat → Nat} {ls ls' : Array Slot} {nL : Nat} {lv : List (Option Value)} {i : Nat} {v : Value} (h : ab_L ad ls nL lv) (hs : ab_sf lv i = true) (h' : lv_has ls' nL ((i, ab_v ad v) :: (ab_prs ad lv).filter (fun q => !(q.1 == i) && !(q.1 + 1 == i && q.2.category == 2)))) (hi : i < lv.length) : ab_L ad ls' nL (lv.set i (some v)) := by
  refine ⟨h'.1, h'.2.1, by rw [List.length_set]; exact h.2.2.1, fun j w hj => ?_⟩
  by_cases e : j = i
  · subst e
    rw [List.getElem?_set_self hi] at hj
    cases hj
    exact h'.2.2 _ List.mem_cons_self
  · rw [List.getElem?_set_ne (Ne.symm e)] at hj
    refine h'.2.2 (j, ab_v ad w) (List.mem_cons_of_mem _ (List.mem_filter.mpr ⟨ab_prs_mem hj, ?_⟩))
    have hc : j + 1 = i → w.category = 1 := by
      intro e2
      subst e2
      simp only [ab_sf, hj] at hs
      simpa using hs
    by_cases e2 : j + 1 = i
    · simp [e, ab_vc, hc e2]
    · simp [e, e2]
theorem ab_L.store2 {ad : Nat → Nat} {ls ls' : Array Slot} {nL : Nat} {lv : List (Option Value)} {i : Nat} {v : Value} (h : ab_L ad ls nL lv) (hs : ab_sf lv i = true) (h' : lv_has ls' nL ((i, ab_v ad v) :: (ab_prs ad lv).filter (fun q => !(q.1 == i) && (!(q.1 == i + 1) && !(q.1 + 1 == i && q.2.category == 2))))) (hi : i + 1 < lv.length) : ab_L ad ls' nL ((lv.set i (some v)).set (i + 1) none) := by
  refine ⟨h'.1, h'.2.1, by rw [List.length_set, List.length_set]; exact h.2.2.1, fun j w hj => ?_⟩
  by_cases e1 : j = i + 1
  · subst e1
    rw [List.getElem?_set_self (by rw [List.length_set]; exact hi)] at hj
    cases hj
  · rw [List.getElem?_set_ne (Ne.symm e1)] at hj
    by_cases e : j = i
    · subst e
      rw [List.getElem?_set_self (by omega)] at hj
      cases hj
      exact h'.2.2 _ List.mem_cons_self
    · rw [List.getElem?_set_ne (Ne.symm e)] at hj
      refine h'.2.2 (j, ab_v ad w) (List.mem_cons_of_mem _ (List.mem_filter.mpr ⟨ab_prs_mem hj, ?_⟩))
      have hc : j + 1 = i → w.category = 1 := by
        intro e2
        subst e2
        simp only [ab_sf, hj] at hs
        simpa using hs
      by_cases e2 : j + 1 = i
      · simp [e, e1, ab_vc, hc e2]
      · simp [e, e1, e2]
/-- fewer locals are known -/
def ab_sub (lv' lv : List (Option Value)) : Prop := lv'.length = lv.length ∧ ∀ i : Nat, lv'[i]? = some none ∨ lv'[i]? = lv[i]?
theorem ab_sub_nil : ab_sub [] [] := ⟨rfl, fun _ => Or.inr rfl⟩
theorem ab_sub_k {a : Option Value} {x y : List (Option Value)} (h : ab_sub x y) : ab_sub (a :: x) (a :: y) := ⟨by simp [h.1], fun i => by cases i with
  | zero => exact Or.inr rfl
  | succ i => simpa using h.2 i⟩
theorem ab_sub_d {a : Option Value} {x y : List (Option Value)} (h : ab_sub x y) : ab_sub (none :: x) (a :: y) := ⟨by simp [h.1], fun i => by cases i with
  | zero => exact Or.inl rfl
  | succ i => simpa using h.2 i⟩
theorem ev_drop (h : ab_sub lv' lv) (kk : ab_Ev l D ac d me n0 mc ms r k n sh pc lv' st M) : ab_Ev l D ac d me n0 mc ms r k n sh pc lv st M := by
  intro p e s m args below meth c H locs A ad ls C S L
  refine kk p e s m args below meth c H locs A ad ls C S ⟨L.1, L.2.1, h.1.trans L.2.2.1, fun i v hi => ?_⟩
  rcases h.2 i with h2 | h2
  · rw [h2] at hi; cases hi
  · exact L.2.2.2 i v (by rw [← h2]; exact hi)
/-! constants, locals, arithmetic -/
theorem ev_iconst {z : Int} {x : Int32} (hd : decode me.2.2.1 pc = .ok (.iconst z, 1)) (hv : Int32.ofInt z = x) (kk : ab_Ev l D ac d me n0 mc ms r k n sh (pc + 1) lv (.int x :: st) M) : ab_Ev l D ac d me n0 mc ms r k n sh pc lv st M := fun p e s m args below meth c H locs A ad ls C S L => lv_iconst C.1 C.2.1 hd hv (kk p e s m args below meth c H locs A ad ls C S L)
theorem ev_bipush {z : Int} {x : Int32} (hd : decode me.2.2.1 pc = .ok (.bipush z, 2)) (hv : (Int8.ofInt z).toInt32 = x) (kk : ab_Ev l D ac d me n0 mc ms r k n sh (pc + 2) lv (.int x :: st) M) : ab_Ev l D ac d me n0 mc ms r k n sh pc lv st M := fun p e s m args below meth c H locs A ad ls C S L => lv_bipush C.1 C.2.1 hd hv (kk p e s m args below meth c H locs A ad ls C S L)
theorem ev_sipush {z : Int} {x : Int32} (hd : decode me.2.2.1 pc = .ok (.sipush z, 3)) (hv : (Int16.ofInt z).toInt32 = x) (kk : ab_Ev l D ac d me n0 mc ms r k n sh (pc + 3) lv (.int x :: st) M) : ab_Ev l D ac d me n0 mc ms r k n sh pc lv st M := fun p e s m args below meth c H locs A ad ls C S L => lv_sipush C.1 C.2.1 hd hv (kk p e s m args below meth c H locs A ad ls C S L)
theorem ev_lconst {z : Fin 2} {x : Int64} (hd : decode me.2.2.1 pc = .ok (.lconst z, 1)) (hv : Int64.ofNat (z : Nat) = x) (kk : ab_Ev l D ac d me n0 mc ms r k n sh (pc + 1) lv (.long x :: st) M) : ab_Ev l D ac d me n0 mc ms r k n sh pc lv st M := fun p e s m args below meth c H locs A ad ls C S L => lv_lconst C.1 C.2.1 hd hv (kk p e s m args below meth c H locs A ad ls C S L)
theorem ev_ldc {z : Nat} {x : Int32} (hw : Cond.constant me.2.1 z x ∈ ab_G) (hd : decode me.2.2.1 pc = .ok (.ldc z, 2)) (kk : ab_Ev l D ac d me n0 mc ms r k n sh (pc + 2) lv (.int x :: st) M) : ab_Ev l D ac d me n0 mc ms r k n sh pc lv st M := fun p e s m args below meth c H locs A ad ls C S L => lv_ldc C.1 C.2.1 C.2.2.2.2.1 (C.2.2.2.2.2.1 _ (List.mem_cons_of_mem _ hw)) hd (kk p e s m args below meth c H locs A ad ls C S L)
theorem ev_ldcw {z : Nat} {x : Int32} (hw : Cond.constant me.2.1 z x ∈ ab_G) (hd : decode me.2.2.1 pc = .ok (.ldc_w z, 3)) (kk : ab_Ev l D ac d me n0 mc ms r k n sh (pc + 3) lv (.int x :: st) M) : ab_Ev l D ac d me n0 mc ms r k n sh pc lv st M := fun p e s m args below meth c H locs A ad ls C S L => lv_ldcw C.1 C.2.1 C.2.2.2.2.1 (C.2.2.2.2.2.1 _ (List.mem_cons_of_mem _ hw)) hd (kk p e s m args below meth c H locs A ad ls C S L)
theorem ev_ldc2 {z : Nat} {x : Int64} (hw : Cond.constantLong me.2.1 z x ∈ ab_G) (hd : decode me.2.2.1 pc = .ok (.ldc2_w z, 3)) (kk : ab_Ev l D ac d me n0 mc ms r k n sh (pc + 3) lv (.long x :: st) M) : ab_Ev l D ac d me n0 mc ms r k n sh pc lv st M := fun p e s m args below meth c H locs A ad ls C S L => lv_ldc2 C.1 C.2.1 C.2.2.2.2.1 (C.2.2.2.2.2.1 _ (List.mem_cons_of_mem _ hw)) hd (kk p e s m args below meth c H locs A ad ls C S L)
theorem ev_iload_n {q : Fin 4} {x : Int32} (hd : decode me.2.2.1 pc = .ok (.iload_n q, 1)) (hl : lv[(q : Nat)]? = some (some (.int x))) (kk : ab_Ev l D ac d me n0 mc ms r k n sh (pc + 1) lv (.int x :: st) M) : ab_Ev l D ac d me n0 mc ms r k n sh pc lv st M := fun p e s m args below meth c H locs A ad ls C S L => lv_iload_n C.1 C.2.1 hd rfl (L.2.2.2 _ _ hl) (kk p e s m args below meth c H locs A ad ls C S L)
theorem ev_iload {i : Nat} {x : Int32} (hd : decode me.2.2.1 pc = .ok (.iload i, 2)) (hl : lv[i]? = some (some (.int x))) (kk : ab_Ev l D ac d me n0 mc ms r k n sh (pc + 2) lv (.int x :: st) M) : ab_Ev l D ac d me n0 mc ms r k n sh pc lv st M := fun p e s m args below meth c H locs A ad ls C S L => lv_iload C.1 C.2.1 hd (L.2.2.2 _ _ hl) (kk p e s m args below meth c H locs A ad ls C S L)
theorem ev_lload_n {q : Fin 4} {x : Int64} (hd : decode me.2.2.1 pc = .ok (.lload_n q, 1)) (hl : lv[(q : Nat)]? = some (some (.long x))) (kk : ab_Ev l D ac d me n0 mc ms r k n sh (pc + 1) lv (.long x :: st) M) : ab_Ev l D ac d me n0 mc ms r k n sh pc lv st M := fun p e s m args below meth c H locs A ad ls C S L => lv_lload_n C.1 C.2.1 hd rfl (L.2.2.2 _ _ hl) (kk p e s m args below meth c H locs A ad ls C S L)
theorem ev_lload {i : Nat} {x : Int64} (hd : decode me.2.2.1 pc = .ok (.lload i, 2)) (hl : lv[i]? = some (some (.long x))) (kk : ab_Ev l D ac d me n0 mc ms r k n sh (pc + 2) lv (.long x :: st) M) : ab_Ev l D ac d me n0 mc ms r k n sh pc lv st M := fun p e s m args below meth c H locs A ad ls C S L => lv_lload C.1 C.2.1 hd (L.2.2.2 _ _ hl) (kk p e s m args below meth c H locs A ad ls C S L)
theorem ev_aload_n {q : Fin 4} {x : Nat} (hd : decode me.2.2.1 pc = .ok (.aload_n q, 1)) (hl : lv[(q : Nat)]? = some (some (.ref x))) (kk : ab_Ev l D ac d me n0 mc ms r k n sh (pc + 1) lv (.ref x :: st) M) : ab_Ev l D ac d me n0 mc ms r k n sh pc lv st M := fun p e s m args below meth c H locs A ad ls C S L => lv_aload_n C.1 C.2.1 hd rfl (L.2.2.2 _ _ hl) (kk p e s m args below meth c H locs A ad ls C S L)
theorem ev_aload {i : Nat} {x : Nat} (hd : decode me.2.2.1 pc = .ok (.aload i, 2)) (hl : lv[i]? = some (some (.ref x))) (kk : ab_Ev l D ac d me n0 mc ms r k n sh (pc + 2) lv (.ref x :: st) M) : ab_Ev l D ac d me n0 mc ms r k n sh pc lv st M := fun p e s m args below meth c H locs A ad ls C S L => lv_aload C.1 C.2.1 hd (L.2.2.2 _ _ hl) (kk p e s m args below meth c H locs A ad ls C S L)
theorem ev_istore_n {q : Fin 4} {x : Int32} (hd : decode me.2.2.1 pc = .ok (.istore_n q, 1)) (hi : (q : Nat) < lv.length) (hs : ab_sf lv q = true) (hl : lv.set q (some (.int x)) = lv') (kk : ab_Ev l D ac d me n0 mc ms r k n sh (pc + 1) lv' st M) : ab_Ev l D ac d me n0 mc ms r k n sh pc lv (.int x :: st) M := fun p e s m args below meth c H locs A ad ls C S L => lv_istore_n C.1 C.2.1 hd rfl L.has (by rw [← L.2.2.1]; exact hi) rfl (fun ls' h' => kk p e s m args below meth c H locs A ad ls' C S (by rw [← hl]; exact L.store1 hs h' hi))
theorem ev_istore {i : Nat} {x : Int32} (hd : decode me.2.2.1 pc = .ok (.istore i, 2)) (hi : i < lv.length) (hs : ab_sf lv i = true) (hl : lv.set i (some (.int x)) = lv') (kk : ab_Ev l D ac d me n0 mc ms r k n sh (pc + 2) lv' st M) : ab_Ev l D ac d me n0 mc ms r k n sh pc lv (.int x :: st) M := fun p e s m args below meth c H locs A ad ls C S L => lv_istore C.1 C.2.1 hd L.has (by rw [← L.2.2.1]; exact hi) rfl (fun ls' h' => kk p e s m args below meth c H locs A ad ls' C S (by rw [← hl]; exact L.store1 hs h' hi))
theorem ev_astore_n {q : Fin 4} {x : Nat} (hd : decode me.2.2.1 pc = .ok (.astore_n q, 1)) (hi : (q : Nat) < lv.length) (hs : ab_sf lv q = true) (hl : lv.set q (some (.ref x)) = lv') (kk : ab_Ev l D ac d me n0 mc ms r k n sh (pc + 1) lv' st M) : ab_Ev l D ac d me n0 mc ms r k n sh pc lv (.ref x :: st) M := fun p e s m args below meth c H locs A ad ls C S L => lv_astore_n C.1 C.2.1 hd rfl L.has (by rw [← L.2.2.1]; exact hi) rfl (fun ls' h' => kk p e s m args below meth c H locs A ad ls' C S (by rw [← hl]; exact L.store1 (v := .ref x) hs h' hi))
theorem ev_astore {i : Nat} {x : Nat} (hd : decode me.2.2.1 pc = .ok (.astore i, 2)) (hi : i < lv.length) (hs : ab_sf lv i = true) (hl : lv.set i (some (.ref x)) = lv') (kk : ab_Ev l D ac d me n0 mc ms r k n sh (pc + 2) lv' st M) : ab_Ev l D ac d me n0 mc ms r k n sh pc lv (.ref x :: st) M := fun p e s m args below meth c H locs A ad ls C S L => lv_astore C.1 C.2.1 hd L.has (by rw [← L.2.2.1]; exact hi) rfl (fun ls' h' => kk p e s m args below meth c H locs A ad ls' C S (by rw [← hl]; exact L.store1 (v := .ref x) hs h' hi))
theorem ev_lstore_n {q : Fin 4} {x : Int64} (hd : decode me.2.2.1 pc = .ok (.lstore_n q, 1)) (hi : (q : Nat) + 1 < lv.length) (hs : ab_sf lv q = true) (hl : (lv.set q (some (.long x))).set ((q : Nat) + 1) none = lv') (kk : ab_Ev l D ac d me n0 mc ms r k n sh (pc + 1) lv' st M) : ab_Ev l D ac d me n0 mc ms r k n sh pc lv (.long x :: st) M := fun p e s m args below meth c H locs A ad ls C S L => lv_lstore_n C.1 C.2.1 hd rfl L.has (by rw [← L.2.2.1]; exact hi) rfl (fun ls' h' => kk p e s m args below meth c H locs A ad ls' C S (by rw [← hl]; exact L.store2 hs h' hi))
theorem ev_lstore {i : Nat} {x : Int64} (hd : decode me.2.2.1 pc = .ok (.lstore i, 2)) (hi : i + 1 < lv.length) (hs : ab_sf lv i = true) (hl : (lv.set i (some (.long x))).set (i + 1) none = lv') (kk : ab_Ev l D ac d me n0 mc ms r k n sh (pc + 2) lv' st M) : ab_Ev l D ac d me n0 mc ms r k n sh pc lv (.long x :: st) M := fun p e s m args below meth c H locs A ad ls C S L => lv_lstore C.1 C.2.1 hd L.has (by rw [← L.2.2.1]; exact hi) rfl (fun ls' h' => kk p e s m args below meth c H locs A ad ls' C S (by rw [← hl]; exact L.store2 hs h' hi))
theorem ev_iinc {i : Nat} {z : Int} {x y : Int32} (hd : decode me.2.2.1 pc = .ok (.iinc i z, 3)) (hx : lv[i]? = some (some (.int x))) (hv : x + Int32.ofInt z = y) (hs : ab_sf lv i = true) (hl : lv.set i (some (.int y)) = lv') (kk : ab_Ev l D ac d me n0 mc ms r k n sh (pc + 3) lv' st M) : ab_Ev l D ac d me n0 mc ms r k n sh pc lv st M := fun p e s m args below meth c H locs A ad ls C S L => by
  have hi := (List.getElem?_eq_some_iff.mp hx).1
  obtain ⟨j, hj⟩ := List.getElem?_of_mem (ab_prs_mem (ad := ad) hx)
  exact lv_iinc C.1 C.2.1 hd L.has hj hv (by rw [← L.2.2.1]; exact hi) rfl (fun ls' h' => kk p e s m args below meth c H locs A ad ls' C S (by rw [← hl]; exact L.store1 hs h' hi))
theorem ev_iadd {x y : Int32} (hd : decode me.2.2.1 pc = .ok (.iadd, 1)) (kk : ab_Ev l D ac d me n0 mc ms r k n sh (pc + 1) lv (.int (x + y) :: st) M) : ab_Ev l D ac d me n0 mc ms r k n sh pc lv (.int y :: .int x :: st) M := fun p e s m args below meth c H locs A ad ls C S L => lv_iadd C.1 C.2.1 hd (kk p e s m args below meth c H locs A ad ls C S L)
theorem ev_isub {x y : Int32} (hd : decode me.2.2.1 pc = .ok (.isub, 1)) (kk : ab_Ev l D ac d me n0 mc ms r k n sh (pc + 1) lv (.int (x - y) :: st) M) : ab_Ev l D ac d me n0 mc ms r k n sh pc lv (.int y :: .int x :: st) M := fun p e s m args below meth c H locs A ad ls C S L => lv_isub C.1 C.2.1 hd (kk p e s m args below meth c H locs A ad ls C S L)
theorem ev_imul {x y : Int32} (hd : decode me.2.2.1 pc = .ok (.imul, 1)) (kk : ab_Ev l D ac d me n0 mc ms r k n sh (pc + 1) lv (.int (x * y) :: st) M) : ab_Ev l D ac d me n0 mc ms r k n sh pc lv (.int y :: .int x :: st) M := fun p e s m args below meth c H locs A ad ls C S L => lv_imul C.1 C.2.1 hd (kk p e s m args below meth c H locs A ad ls C S L)
theorem ev_iand {x y : Int32} (hd : decode me.2.2.1 pc = .ok (.iand, 1)) (kk : ab_Ev l D ac d me n0 mc ms r k n sh (pc + 1) lv (.int (x &&& y) :: st) M) : ab_Ev l D ac d me n0 mc ms r k n sh pc lv (.int y :: .int x :: st) M := fun p e s m args below meth c H locs A ad ls C S L => lv_iand C.1 C.2.1 hd (kk p e s m args below meth c H locs A ad ls C S L)
theorem ev_ior {x y : Int32} (hd : decode me.2.2.1 pc = .ok (.ior, 1)) (kk : ab_Ev l D ac d me n0 mc ms r k n sh (pc + 1) lv (.int (x ||| y) :: st) M) : ab_Ev l D ac d me n0 mc ms r k n sh pc lv (.int y :: .int x :: st) M := fun p e s m args below meth c H locs A ad ls C S L => lv_ior C.1 C.2.1 hd (kk p e s m args below meth c H locs A ad ls C S L)
theorem ev_ixor {x y : Int32} (hd : decode me.2.2.1 pc = .ok (.ixor, 1)) (kk : ab_Ev l D ac d me n0 mc ms r k n sh (pc + 1) lv (.int (x ^^^ y) :: st) M) : ab_Ev l D ac d me n0 mc ms r k n sh pc lv (.int y :: .int x :: st) M := fun p e s m args below meth c H locs A ad ls C S L => lv_ixor C.1 C.2.1 hd (kk p e s m args below meth c H locs A ad ls C S L)
theorem ev_ishl {x y : Int32} (hd : decode me.2.2.1 pc = .ok (.ishl, 1)) (kk : ab_Ev l D ac d me n0 mc ms r k n sh (pc + 1) lv (.int (x <<< (y &&& 31)) :: st) M) : ab_Ev l D ac d me n0 mc ms r k n sh pc lv (.int y :: .int x :: st) M := fun p e s m args below meth c H locs A ad ls C S L => lv_ishl C.1 C.2.1 hd (kk p e s m args below meth c H locs A ad ls C S L)
theorem ev_ishr {x y : Int32} (hd : decode me.2.2.1 pc = .ok (.ishr, 1)) (kk : ab_Ev l D ac d me n0 mc ms r k n sh (pc + 1) lv (.int (x >>> (y &&& 31)) :: st) M) : ab_Ev l D ac d me n0 mc ms r k n sh pc lv (.int y :: .int x :: st) M := fun p e s m args below meth c H locs A ad ls C S L => lv_ishr C.1 C.2.1 hd (kk p e s m args below meth c H locs A ad ls C S L)
theorem ev_iushr {x y : Int32} (hd : decode me.2.2.1 pc = .ok (.iushr, 1)) (kk : ab_Ev l D ac d me n0 mc ms r k n sh (pc + 1) lv (.int (x.toUInt32 >>> (y.toUInt32 &&& Int32.toUInt32 31)).toInt32 :: st) M) : ab_Ev l D ac d me n0 mc ms r k n sh pc lv (.int y :: .int x :: st) M := fun p e s m args below meth c H locs A ad ls C S L => lv_iushr C.1 C.2.1 hd rfl (kk p e s m args below meth c H locs A ad ls C S L)
theorem ev_ineg {x : Int32} (hd : decode me.2.2.1 pc = .ok (.ineg, 1)) (kk : ab_Ev l D ac d me n0 mc ms r k n sh (pc + 1) lv (.int (-x) :: st) M) : ab_Ev l D ac d me n0 mc ms r k n sh pc lv (.int x :: st) M := fun p e s m args below meth c H locs A ad ls C S L => lv_ineg C.1 C.2.1 hd (kk p e s m args below meth c H locs A ad ls C S L)
theorem ev_ladd {x y : Int64} (hd : decode me.2.2.1 pc = .ok (.ladd, 1)) (kk : ab_Ev l D ac d me n0 mc ms r k n sh (pc + 1) lv (.long (x + y) :: st) M) : ab_Ev l D ac d me n0 mc ms r k n sh pc lv (.long y :: .long x :: st) M := fun p e s m args below meth c H locs A ad ls C S L => lv_ladd C.1 C.2.1 hd (kk p e s m args below meth c H locs A ad ls C S L)
theorem ev_lsub {x y : Int64} (hd : decode me.2.2.1 pc = .ok (.lsub, 1)) (kk : ab_Ev l D ac d me n0 mc ms r k n sh (pc + 1) lv (.long (x - y) :: st) M) : ab_Ev l D ac d me n0 mc ms r k n sh pc lv (.long y :: .long x :: st) M := fun p e s m args below meth c H locs A ad ls C S L => lv_lsub C.1 C.2.1 hd (kk p e s m args below meth c H locs A ad ls C S L)
theorem ev_lor {x y : Int64} (hd : decode me.2.2.1 pc = .ok (.lor, 1)) (kk : ab_Ev l D ac d me n0 mc ms r k n sh (pc + 1) lv (.long (x ||| y) :: st) M) : ab_Ev l D ac d me n0 mc ms r k n sh pc lv (.long y :: .long x :: st) M := fun p e s m args below meth c H locs A ad ls C S L => lv_lor C.1 C.2.1 hd (kk p e s m args below meth c H locs A ad ls C S L)
theorem ev_land {x y : Int64} (hd : decode me.2.2.1 pc = .ok (.land, 1)) (kk : ab_Ev l D ac d me n0 mc ms r k n sh (pc + 1) lv (.long (x &&& y) :: st) M) : ab_Ev l D ac d me n0 mc ms r k n sh pc lv (.long y :: .long x :: st) M := fun p e s m args below meth c H locs A ad ls C S L => lv_land C.1 C.2.1 hd (kk p e s m args below meth c H locs A ad ls C S L)
theorem ev_lxor {x y : Int64} (hd : decode me.2.2.1 pc = .ok (.lxor, 1)) (kk : ab_Ev l D ac d me n0 mc ms r k n sh (pc + 1) lv (.long (x ^^^ y) :: st) M) : ab_Ev l D ac d me n0 mc ms r k n sh pc lv (.long y :: .long x :: st) M := fun p e s m args below meth c H locs A ad ls C S L => lv_lxor C.1 C.2.1 hd (kk p e s m args below meth c H locs A ad ls C S L)
theorem ev_lshl {x : Int64} {y : Int32} (hd : decode me.2.2.1 pc = .ok (.lshl, 1)) (kk : ab_Ev l D ac d me n0 mc ms r k n sh (pc + 1) lv (.long (x <<< (y.toInt64 &&& 63)) :: st) M) : ab_Ev l D ac d me n0 mc ms r k n sh pc lv (.int y :: .long x :: st) M := fun p e s m args below meth c H locs A ad ls C S L => lv_lshl C.1 C.2.1 hd rfl (kk p e s m args below meth c H locs A ad ls C S L)
theorem ev_lushr {x : Int64} {y : Int32} (hd : decode me.2.2.1 pc = .ok (.lushr, 1)) (kk : ab_Ev l D ac d me n0 mc ms r k n sh (pc + 1) lv (.long (x.toUInt64 >>> (y.toInt64.toUInt64 &&& Int64.toUInt64 63)).toInt64 :: st) M) : ab_Ev l D ac d me n0 mc ms r k n sh pc lv (.int y :: .long x :: st) M := fun p e s m args below meth c H locs A ad ls C S L => lv_lushr C.1 C.2.1 hd rfl (kk p e s m args below meth c H locs A ad ls C S L)
theorem ev_i2l {x : Int32} (hd : decode me.2.2.1 pc = .ok (.i2l, 1)) (kk : ab_Ev l D ac d me n0 mc ms r k n sh (pc + 1) lv (.long x.toInt64 :: st) M) : ab_Ev l D ac d me n0 mc ms r k n sh pc lv (.int x :: st) M := fun p e s m args below meth c H locs A ad ls C S L => lv_i2l C.1 C.2.1 hd rfl (kk p e s m args below meth c H locs A ad ls C S L)
theorem ev_l2i {x : Int64} (hd : decode me.2.2.1 pc = .ok (.l2i, 1)) (kk : ab_Ev l D ac d me n0 mc ms r k n sh (pc + 1) lv (.int x.toInt32 :: st) M) : ab_Ev l D ac d me n0 mc ms r k n sh pc lv (.long x :: st) M := fun p e s m args below meth c H locs A ad ls C S L => lv_l2i C.1 C.2.1 hd rfl (kk p e s m args below meth c H locs A ad ls C S L)
theorem ev_i2b {x : Int32} (hd : decode me.2.2.1 pc = .ok (.i2b, 1)) (kk : ab_Ev l D ac d me n0 mc ms r k n sh (pc + 1) lv (.int x.toInt8.toInt32 :: st) M) : ab_Ev l D ac d me n0 mc ms r k n sh pc lv (.int x :: st) M := fun p e s m args below meth c H locs A ad ls C S L => lv_i2b C.1 C.2.1 hd rfl (kk p e s m args below meth c H locs A ad ls C S L)
theorem ev_lcmp {x y : Int64} (hd : decode me.2.2.1 pc = .ok (.lcmp, 1)) (kk : ab_Ev l D ac d me n0 mc ms r k n sh (pc + 1) lv (.int (lg_cmp x y) :: st) M) : ab_Ev l D ac d me n0 mc ms r k n sh pc lv (.long y :: .long x :: st) M := fun p e s m args below meth c H locs A ad ls C S L => W.lcmp C.1 C.2.1 hd (kk p e s m args below meth c H locs A ad ls C S L)
theorem ev_dup {v : Value} (hd : decode me.2.2.1 pc = .ok (.dup, 1)) (hv : v.category = 1) (kk : ab_Ev l D ac d me n0 mc ms r k n sh (pc + 1) lv (v :: v :: st) M) : ab_Ev l D ac d me n0 mc ms r k n sh pc lv (v :: st) M := fun p e s m args below meth c H locs A ad ls C S L => lv_dup C.1 C.2.1 hd ((ab_vc ad v).trans hv) (kk p e s m args below meth c H locs A ad ls C S L)
theorem ev_idiv {x y : Int32} (hd : decode me.2.2.1 pc = .ok (.idiv, 1)) (hy : ¬ y = 0) (kk : ab_Ev l D ac d me n0 mc ms r k n sh (pc + 1) lv (.int (x / y) :: st) M) : ab_Ev l D ac d me n0 mc ms r k n sh pc lv (.int y :: .int x :: st) M := fun p e s m args below meth c H locs A ad ls C S L => lv_idiv C.1 C.2.1 hd hy (kk p e s m args below meth c H locs A ad ls C S L)
theorem ev_irem {x y : Int32} (hd : decode me.2.2.1 pc = .ok (.irem, 1)) (hy : ¬ y = 0) (kk : ab_Ev l D ac d me n0 mc ms r k n sh (pc + 1) lv (.int (x - x / y * y) :: st) M) : ab_Ev l D ac d me n0 mc ms r k n sh pc lv (.int y :: .int x :: st) M := fun p e s m args below meth c H locs A ad ls C S L => lv_irem C.1 C.2.1 hd hy (kk p e s m args below meth c H locs A ad ls C S L)
theorem ev_goto {z : Int} {t : Nat} (hd : decode me.2.2.1 pc = .ok (.goto z, 3)) (ht : (pc : Int) + z = (t : Int)) (kk : ab_Ev l D ac d me n0 mc ms r k n sh t lv st M) : ab_Ev l D ac d me n0 mc ms r k n sh pc lv st M := fun p e s m args below meth c H locs A ad ls C S L => lv_goto C.1 C.2.1 hd ht (kk p e s m args below meth c H locs A ad ls C S L)
theorem ev_if_eq {x : Int32} {z : Int} {t : Nat} (hd : decode me.2.2.1 pc = .ok (.ifCond .eq z, 3)) (ht : (pc : Int) + z = (t : Int)) (kt : x = 0 → ab_Ev l D ac d me n0 mc ms r k n sh t lv st M) (kf : ¬ x = 0 → ab_Ev l D ac d me n0 mc ms r k n sh (pc + 3) lv st M) : ab_Ev l D ac d me n0 mc ms r k n sh pc lv (.int x :: st) M := fun p e s m args below meth c H locs A ad ls C S L => lv_if_eq C.1 C.2.1 hd ht (fun h => kt h p e s m args below meth c H locs A ad ls C S L) (fun h => kf h p e s m args below meth c H locs A ad ls C S L)
theorem ev_icmp_eq {x y : Int32} {z : Int} {t : Nat} (hd : decode me.2.2.1 pc = .ok (.if_icmp .eq z, 3)) (ht : (pc : Int) + z = (t : Int)) (kt : x = y → ab_Ev l D ac d me n0 mc ms r k n sh t lv st M) (kf : ¬ x = y → ab_Ev l D ac d me n0 mc ms r k n sh (pc + 3) lv st M) : ab_Ev l D ac d me n0 mc ms r k n sh pc lv (.int y :: .int x :: st) M := fun p e s m args below meth c H locs A ad ls C S L => lv_icmp_eq C.1 C.2.1 hd ht (fun h => kt h p e s m args below meth c H locs A ad ls C S L) (fun h => kf h p e s m args below meth c H locs A ad ls C S L)
theorem ev_if_ne {x : Int32} {z : Int} {t : Nat} (hd : decode me.2.2.1 pc = .ok (.ifCond .ne z, 3)) (ht : (pc : Int) + z = (t : Int)) (kt : ¬ x = 0 → ab_Ev l D ac d me n0 mc ms r k n sh t lv st M) (kf : x = 0 → ab_Ev l D ac d me n0 mc ms r k n sh (pc + 3) lv st M) : ab_Ev l D ac d me n0 mc ms r k n sh pc lv (.int x :: st) M := fun p e s m args below meth c H locs A ad ls C S L => lv_if_ne C.1 C.2.1 hd ht (fun h => kt h p e s m args below meth c H locs A ad ls C S L) (fun h => kf h p e s m args below meth c H locs A ad ls C S L)
theorem ev_icmp_ne {x y : Int32} {z : Int} {t : Nat} (hd : decode me.2.2.1 pc = .ok (.if_icmp .ne z, 3)) (ht : (pc : Int) + z = (t : Int)) (kt : ¬ x = y → ab_Ev l D ac d me n0 mc ms r k n sh t lv st M) (kf : x = y → ab_Ev l D ac d me n0 mc ms r k n sh (pc + 3) lv st M) : ab_Ev l D ac d me n0 mc ms r k n sh pc lv (.int y :: .int x :: st) M := fun p e s m args below meth c H locs A ad ls C S L => lv_icmp_ne C.1 C.2.1 hd ht (fun h => kt h p e s m args below meth c H locs A ad ls C S L) (fun h => kf h p e s m args below meth c H locs A ad ls C S L)
theorem ev_if_lt {x : Int32} {z : Int} {t : Nat} (hd : decode me.2.2.1 pc = .ok (.ifCond .lt z, 3)) (ht : (pc : Int) + z = (t : Int)) (kt : x < 0 → ab_Ev l D ac d me n0 mc ms r k n sh t lv st M) (kf : ¬ x < 0 → ab_Ev l D ac d me n0 mc ms r k n sh (pc + 3) lv st M) : ab_Ev l D ac d me n0 mc ms r k n sh pc lv (.int x :: st) M := fun p e s m args below meth c H locs A ad ls C S L => lv_if_lt C.1 C.2.1 hd ht (fun h => kt h p e s m args below meth c H locs A ad ls C S L) (fun h => kf h p e s m args below meth c H locs A ad ls C S L)
theorem ev_icmp_lt {x y : Int32} {z : Int} {t : Nat} (hd : decode me.2.2.1 pc = .ok (.if_icmp .lt z, 3)) (ht : (pc : Int) + z = (t : Int)) (kt : x < y → ab_Ev l D ac d me n0 mc ms r k n sh t lv st M) (kf : ¬ x < y → ab_Ev l D ac d me n0 mc ms r k n sh (pc + 3) lv st M) : ab_Ev l D ac d me n0 mc ms r k n sh pc lv (.int y :: .int x :: st) M := fun p e s m args below meth c H locs A ad ls C S L => lv_icmp_lt C.1 C.2.1 hd ht (fun h => kt h p e s m args below meth c H locs A ad ls C S L) (fun h => kf h p e s m args below meth c H locs A ad ls C S L)
theorem ev_if_ge {x : Int32} {z : Int} {t : Nat} (hd : decode me.2.2.1 pc = .ok (.ifCond .ge z, 3)) (ht : (pc : Int) + z = (t : Int)) (kt : 0 ≤ x → ab_Ev l D ac d me n0 mc ms r k n sh t lv st M) (kf : ¬ 0 ≤ x → ab_Ev l D ac d me n0 mc ms r k n sh (pc + 3) lv st M) : ab_Ev l D ac d me n0 mc ms r k n sh pc lv (.int x :: st) M := fun p e s m args below meth c H locs A ad ls C S L => lv_if_ge C.1 C.2.1 hd ht (fun h => kt h p e s m args below meth c H locs A ad ls C S L) (fun h => kf h p e s m args below meth c H locs A ad ls C S L)
theorem ev_icmp_ge {x y : Int32} {z : Int} {t : Nat} (hd : decode me.2.2.1 pc = .ok (.if_icmp .ge z, 3)) (ht : (pc : Int) + z = (t : Int)) (kt : y ≤ x → ab_Ev l D ac d me n0 mc ms r k n sh t lv st M) (kf : ¬ y ≤ x → ab_Ev l D ac d me n0 mc ms r k n sh (pc + 3) lv st M) : ab_Ev l D ac d me n0 mc ms r k n sh pc lv (.int y :: .int x :: st) M := fun p e s m args below meth c H locs A ad ls C S L => lv_icmp_ge C.1 C.2.1 hd ht (fun h => kt h p e s m args below meth c H locs A ad ls C S L) (fun h => kf h p e s m args below meth c H locs A ad ls C S L)
theorem ev_if_gt {x : Int32} {z : Int} {t : Nat} (hd : decode me.2.2.1 pc = .ok (.ifCond .gt z, 3)) (ht : (pc : Int) + z = (t : Int)) (kt : 0 < x → ab_Ev l D ac d me n0 mc ms r k n sh t lv st M) (kf : ¬ 0 < x → ab_Ev l D ac d me n0 mc ms r k n sh (pc + 3) lv st M) : ab_Ev l D ac d me n0 mc ms r k n sh pc lv (.int x :: st) M := fun p e s m args below meth c H locs A ad ls C S L => lv_if_gt C.1 C.2.1 hd ht (fun h => kt h p e s m args below meth c H locs A ad ls C S L) (fun h => kf h p e s m args below meth c H locs A ad ls C S L)
theorem ev_icmp_gt {x y : Int32} {z : Int} {t : Nat} (hd : decode me.2.2.1 pc = .ok (.if_icmp .gt z, 3)) (ht : (pc : Int) + z = (t : Int)) (kt : y < x → ab_Ev l D ac d me n0 mc ms r k n sh t lv st M) (kf : ¬ y < x → ab_Ev l D ac d me n0 mc ms r k n sh (pc + 3) lv st M) : ab_Ev l D ac d me n0 mc ms r k n sh pc lv (.int y :: .int x :: st) M := fun p e s m args below meth c H locs A ad ls C S L => lv_icmp_gt C.1 C.2.1 hd ht (fun h => kt h p e s m args below meth c H locs A ad ls C S L) (fun h => kf h p e s m args below meth c H locs A ad ls C S L)
theorem ev_if_le {x : Int32} {z : Int} {t : Nat} (hd : decode me.2.2.1 pc = .ok (.ifCond .le z, 3)) (ht : (pc : Int) + z = (t : Int)) (kt : x ≤ 0 → ab_Ev l D ac d me n0 mc ms r k n sh t lv st M) (kf : ¬ x ≤ 0 → ab_Ev l D ac d me n0 mc ms r k n sh (pc + 3) lv st M) : ab_Ev l D ac d me n0 mc ms r k n sh pc lv (.int x :: st) M := fun p e s m args below meth c H locs A ad ls C S L => lv_if_le C.1 C.2.1 hd ht (fun h => kt h p e s m args below meth c H locs A ad ls C S L) (fun h => kf h p e s m args below meth c H locs A ad ls C S L)
theorem ev_icmp_le {x y : Int32} {z : Int} {t : Nat} (hd : decode me.2.2.1 pc = .ok (.if_icmp .le z, 3)) (ht : (pc : Int) + z = (t : Int)) (kt : x ≤ y → ab_Ev l D ac d me n0 mc ms r k n sh t lv st M) (kf : ¬ x ≤ y → ab_Ev l D ac d me n0 mc ms r k n sh (pc + 3) lv st M) : ab_Ev l D ac d me n0 mc ms r k n sh pc lv (.int y :: .int x :: st) M := fun p e s m args below meth c H locs A ad ls C S L => lv_icmp_le C.1 C.2.1 hd ht (fun h => kt h p e s m args below meth c H locs A ad ls C S L) (fun h => kf h p e s m args below meth c H locs A ad ls C S L)
theorem ev_tableOut {df lo hi : Int} {offs : Array Int} {len t : Nat} {x : Int32} (hd : decode me.2.2.1 pc = .ok (.tableswitch df lo hi offs, len)) (h : x.toInt < lo ∨ hi < x.toInt) (ht : (pc : Int) + df = (t : Int)) (kk : ab_Ev l D ac d me n0 mc ms r k n sh t lv st M) : ab_Ev l D ac d me n0 mc ms r k n sh pc lv (.int x :: st) M := fun p e s m args below meth c H locs A ad ls C S L => lv_tableOut C.1 C.2.1 hd h ht (kk p e s m args below meth c H locs A ad ls C S L)
theorem ev_tableIn {df lo hi off : Int} {offs : Array Int} {len t : Nat} {x : Int32} (hd : decode me.2.2.1 pc = .ok (.tableswitch df lo hi offs, len)) (h1 : ¬ x.toInt < lo) (h2 : ¬ hi < x.toInt) (ho : offs[(x.toInt - lo).toNat]? = some off) (ht : (pc : Int) + off = (t : Int)) (kk : ab_Ev l D ac d me n0 mc ms r k n sh t lv st M) : ab_Ev l D ac d me n0 mc ms r k n sh pc lv (.int x :: st) M := fun p e s m args below meth c H locs A ad ls C S L => lv_tableIn C.1 C.2.1 hd h1 h2 ho ht (kk p e s m args below meth c H locs A ad ls C S L)
end ABev
end
section
/-! cells: fields, arrays; calls; returns; a contract out of its body -/
section ABheap
variable {l : Launch} {D : va_G} {ac : Nat → ClassId} {d : Nat} {me : ab_Me} {n0 mc ms : Nat} {r : ab_Rs} {k n : Nat} {sh : ab_H} {pc : Nat} {lv lv' : List (Option Value)} {st : List Value} {M : ab_M}
/-- what a field's link says: class own, entry idx, is field kf of class ci -/
def ab_FL (own : String) (idx ci kf : Nat) (ty : FieldType) (fin : Bool) : Prop := ∃ (C : String) (T : u_T) (N : Nat) (ty0 : Nat → FieldType), vwCl[ci]? = some (C, T, N) ∧ kf < N ∧ (∀ w ∈ u_ws C T N, w ∈ ab_G) ∧ (∀ j, j < N → parseFieldDescriptor (T j).2.2.1 = some (ty0 j)) ∧ (∀ a, a < N → ∀ b, b < N → a ≠ b → (T a).2.1 ≠ (T b).2.1) ∧ ty0 kf = ty ∧ (T kf).2.2.2 = fin ∧ (Cond.fieldLink own idx (T kf).1 (T kf).2.1 (T kf).2.2.1 ∈ ab_G ∨ ∃ host, Cond.fieldLinkNest own idx (T kf).1 (T kf).2.1 (T kf).2.2.1 host ∈ ab_nest)
theorem ev_geti {idx o ci nf kf : Nat} {rf : List (Option Nat)} {ty : FieldType} {fin : Bool} (hF : ab_FL me.2.1 idx ci kf ty fin) (hs : sh[o]? = some (ci, nf, rf)) (hci : ci < 100) (hk : kf < nf) (hr : ab_isR ci kf = false) (hd : decode me.2.2.1 pc = .ok (.getfield idx, 3)) (kk : ab_Ev l D ac d me n0 mc ms r k n sh (pc + 3) lv (.int (M.1 o kf) :: st) M) : ab_Ev l D ac d me n0 mc ms r k n sh pc lv (.ref o :: st) M := by
  intro p e s m args below meth c H locs A ad ls C S L
  obtain ⟨hx, hb, -, -, hown, hts, -, -, hK, hN⟩ := id C
  obtain ⟨Cn, T, N, ty0, hc, hkN, hin, -, -, -, -, hlink⟩ := hF
  have he : (ab_W ac ad sh M)[o]? = some (ad o, .inr (ci, (List.range nf).map (ab_fv ad M o (ci, nf, rf)))) := by rw [ab_W_get hs, ab_cell_obj hci]
  have hv : ((List.range nf).map (ab_fv ad M o (ci, nf, rf)))[kf]? = some (.int (M.1 o kf)) := by simp [hk, ab_fv, hr]
  have hin' : ∀ w ∈ u_ws Cn T N, w ∈ ab_ws me := fun w h => List.mem_cons_of_mem _ (hin w h)
  rcases hlink with hlink | ⟨host, hlink⟩
  · exact va_get hx hb hts hin' hown hK S.1 o he hc kf hkN (hts _ (List.mem_cons_of_mem _ hlink)) (fun _ h => h) hv hd (kk p e s m args below meth c H locs A ad ls C S L)
  · exact va_getN hx hb hts hin' hown hK S.1 o he hc kf hkN (va_Nw.use rfl (hN _ hlink)) (fun _ h => h) hv hd (kk p e s m args below meth c H locs A ad ls C S L)
theorem ev_getr {idx o o' ci nf kf : Nat} {rf : List (Option Nat)} {ty : FieldType} {fin : Bool} (hF : ab_FL me.2.1 idx ci kf ty fin) (hs : sh[o]? = some (ci, nf, rf)) (hci : ci < 100) (hk : kf < nf) (hr : ab_isR ci kf = true) (ho : rf.getD kf none = some o') (hd : decode me.2.2.1 pc = .ok (.getfield idx, 3)) (kk : ab_Ev l D ac d me n0 mc ms r k n sh (pc + 3) lv (.ref o' :: st) M) : ab_Ev l D ac d me n0 mc ms r k n sh pc lv (.ref o :: st) M := by
  intro p e s m args below meth c H locs A ad ls C S L
  obtain ⟨hx, hb, -, -, hown, hts, -, -, hK, hN⟩ := id C
  obtain ⟨Cn, T, N, ty0, hc, hkN, hin, -, -, -, -, hlink⟩ := hF
  have he : (ab_W ac ad sh M)[o]? = some (ad o, .inr (ci, (List.range nf).map (ab_fv ad M o (ci, nf, rf)))) := by rw [ab_W_get hs, ab_cell_obj hci]
  have hv : ((List.range nf).map (ab_fv ad M o (ci, nf, rf)))[kf]? = some (.ref (ad o')) := by
    rw [List.getElem?_map, List.getElem?_range hk]
    show some (ab_fv ad M o (ci, nf, rf) kf) = _
    unfold ab_fv
    rw [if_pos hr]
    show some (va_rf ((rf.getD kf none).map ad)) = _
    rw [ho]
    rfl
  have hin' : ∀ w ∈ u_ws Cn T N, w ∈ ab_ws me := fun w h => List.mem_cons_of_mem _ (hin w h)
  rcases hlink with hlink | ⟨host, hlink⟩
  · exact va_get hx hb hts hin' hown hK S.1 o he hc kf hkN (hts _ (List.mem_cons_of_mem _ hlink)) (fun _ h => h) hv hd (kk p e s m args below meth c H locs A ad ls C S L)
  · exact va_getN hx hb hts hin' hown hK S.1 o he hc kf hkN (va_Nw.use rfl (hN _ hlink)) (fun _ h => h) hv hd (kk p e s m args below meth c H locs A ad ls C S L)
theorem ev_puti {idx o ci nf kf : Nat} {rf : List (Option Nat)} {ty : FieldType} {x : Int32} (hF : ab_FL me.2.1 idx ci kf ty false) (hs : sh[o]? = some (ci, nf, rf)) (hci : ci < 100) (hk : kf < nf) (hr : ab_isR ci kf = false) (hn : narrow ty (.int x) = .int x) (hf : fits ty (.int x) = true) (hd : decode me.2.2.1 pc = .ok (.putfield idx, 3)) (kk : ab_Ev l D ac d me n0 mc ms r k n sh (pc + 3) lv st (ab_pi M o kf x)) : ab_Ev l D ac d me n0 mc ms r k n sh pc lv (.int x :: .ref o :: st) M := by
  intro p e s m args below meth c H locs A ad ls C S L
  obtain ⟨hx, hb, -, -, hown, hts, -, -, hK, hN⟩ := id C
  obtain ⟨hP, hD, hS, hA⟩ := S
  obtain ⟨Cn, T, N, ty0, hc, hkN, hin, hty, hnm, ht, hfin, hlink⟩ := hF
  subst ht
  have he : (ab_W ac ad sh M)[o]? = some (ad o, .inr (ci, (List.range nf).map (ab_fv ad M o (ci, nf, rf)))) := by rw [ab_W_get hs, ab_cell_obj hci]
  have hin' : ∀ w ∈ u_ws Cn T N, w ∈ ab_ws me := fun w h => List.mem_cons_of_mem _ (hin w h)
  have hset : (ab_W ac ad sh M).set o (ad o, .inr (ci, ((List.range nf).map (ab_fv ad M o (ci, nf, rf))).set kf (.int x))) = ab_W ac ad sh (ab_pi M o kf x) := by
    rw [ab_obj_set (x := (ci, nf, rf)) hr]
    exact ab_W_set hs (ab_cell_obj hci) (fun j y hj => ab_cell_i hj)
  have hl : kf < ((List.range nf).map (ab_fv ad M o (ci, nf, rf))).length := by simpa using hk
  rcases hlink with hlink | ⟨host, hlink⟩
  · refine va_put (v := .int x) hx hb hts hin' ty0 hty hnm hown hK hP hD hS o he hc kf hkN (hts _ (List.mem_cons_of_mem _ hlink)) (fun _ h => h) hfin (hty kf hkN) hn hf hl hd (fun H1 locs1 hP hD hS => ?_)
    rw [hset] at hP hD
    exact kk p e s m args below meth c H1 locs1 A ad ls C ⟨hP, hD, hS, hA⟩ L
  · refine va_putN (v := .int x) hx hb hts hin' ty0 hty hnm hown hK hP hD hS o he hc kf hkN (va_Nw.use rfl (hN _ hlink)) (fun _ h => h) hfin (hty kf hkN) hn hf hl hd (fun H1 locs1 hP hD hS => ?_)
    rw [hset] at hP hD
    exact kk p e s m args below meth c H1 locs1 A ad ls C ⟨hP, hD, hS, hA⟩ L
/-! arrays -/
theorem ab_ci {ac : Nat → ClassId} {ad : Nat → Nat} {M : ab_M} {id nn : Nat} {rf : List (Option Nat)} : ab_cell ac ad M id (100, nn, rf) = .inl (ac 100, nn, .inl (M.1 id)) := by simp [ab_cell]
theorem ab_cb {ac : Nat → ClassId} {ad : Nat → Nat} {M : ab_M} {id nn : Nat} {rf : List (Option Nat)} : ab_cell ac ad M id (101, nn, rf) = .inl (ac 101, nn, .inl (M.1 id)) := by simp [ab_cell]
theorem ab_cl {ac : Nat → ClassId} {ad : Nat → Nat} {M : ab_M} {id nn : Nat} {rf : List (Option Nat)} : ab_cell ac ad M id (102, nn, rf) = .inl (ac 102, nn, .inr (.inl (M.2 id))) := by simp [ab_cell]
theorem ab_cr {ac : Nat → ClassId} {ad : Nat → Nat} {M : ab_M} {id nn ct : Nat} {rf : List (Option Nat)} (h : 102 < ct) : ab_cell ac ad M id (ct, nn, rf) = .inl (ac ct, nn, .inr (.inr (.inr (.inr (fun j => (rf.getD j none).map ad))))) := by
  have h1 : ¬ ct < 100 := by omega
  have h2 : ¬ ct < 102 := by omega
  have h3 : ¬ ct = 102 := by omega
  simp [ab_cell, h1, h2, h3]
theorem ab_upd (M : ab_M) (o j : Nat) (x : Int32) : (ab_pi M o j x).1 o = upd (M.1 o) j x := by funext b; simp [ab_pi, upd]
theorem ab_updL (M : ab_M) (o j : Nat) (x : Int64) : (ab_pl M o j x).2 o = vp_updL (M.2 o) j x := by funext b; simp [ab_pl, vp_updL]
theorem ev_iaload {o nn : Nat} {rf : List (Option Nat)} {i : Int32} (hs : sh[o]? = some (100, nn, rf)) (hin : vp_in i nn) (hd : decode me.2.2.1 pc = .ok (.iaload, 1)) (kk : ab_Ev l D ac d me n0 mc ms r k n sh (pc + 1) lv (.int (M.1 o i.toNatClampNeg) :: st) M) : ab_Ev l D ac d me n0 mc ms r k n sh pc lv (.int i :: .ref o :: st) M := by
  intro p e s m args below meth c H locs A ad ls C S L
  exact va_iald C.1 C.2.1 C.2.2.2.2.2.2.2.2.1 S.1 o 0 ((ab_W_get hs).trans (by rw [ab_ci])) rfl hin hd (kk p e s m args below meth c H locs A ad ls C S L)
theorem ev_baload {o nn : Nat} {rf : List (Option Nat)} {i : Int32} (hs : sh[o]? = some (101, nn, rf)) (hin : vp_in i nn) (hd : decode me.2.2.1 pc = .ok (.baload, 1)) (kk : ab_Ev l D ac d me n0 mc ms r k n sh (pc + 1) lv (.int (M.1 o i.toNatClampNeg) :: st) M) : ab_Ev l D ac d me n0 mc ms r k n sh pc lv (.int i :: .ref o :: st) M := by
  intro p e s m args below meth c H locs A ad ls C S L
  exact va_bald C.1 C.2.1 C.2.2.2.2.2.2.2.2.1 S.1 o 1 ((ab_W_get hs).trans (by rw [ab_cb])) rfl hin hd (kk p e s m args below meth c H locs A ad ls C S L)
theorem ev_laload {o nn : Nat} {rf : List (Option Nat)} {i : Int32} (hs : sh[o]? = some (102, nn, rf)) (hin : vp_in i nn) (hd : decode me.2.2.1 pc = .ok (.laload, 1)) (kk : ab_Ev l D ac d me n0 mc ms r k n sh (pc + 1) lv (.long (M.2 o i.toNatClampNeg) :: st) M) : ab_Ev l D ac d me n0 mc ms r k n sh pc lv (.int i :: .ref o :: st) M := by
  intro p e s m args below meth c H locs A ad ls C S L
  exact va_lald C.1 C.2.1 C.2.2.2.2.2.2.2.2.1 S.1 o 2 ((ab_W_get hs).trans (by rw [ab_cl])) rfl hin hd (kk p e s m args below meth c H locs A ad ls C S L)
theorem ev_aaload {o o' ct nn : Nat} {rf : List (Option Nat)} {i : Int32} (hs : sh[o]? = some (ct, nn, rf)) (hct : ct = 103 ∨ ct = 104) (hin : vp_in i nn) (ho : rf.getD i.toNatClampNeg none = some o') (hd : decode me.2.2.1 pc = .ok (.aaload, 1)) (kk : ab_Ev l D ac d me n0 mc ms r k n sh (pc + 1) lv (.ref o' :: st) M) : ab_Ev l D ac d me n0 mc ms r k n sh pc lv (.int i :: .ref o :: st) M := by
  intro p e s m args below meth c H locs A ad ls C S L
  have kk := kk p e s m args below meth c H locs A ad ls C S L
  rcases hct with rfl | rfl
  · refine va_aldq C.1 C.2.1 C.2.2.2.2.2.2.2.2.1 S.1 o 3 ((ab_W_get hs).trans (by rw [ab_cr (by decide)])) rfl hin hd ?_
    show W p l e (ab_rm d mc ms) s m args below meth c H locs k n _ (F0 m (pc + 1) ls (va_rf ((rf.getD i.toNatClampNeg none).map ad) :: st.map (ab_v ad)))
    rw [ho]
    exact kk
  · refine va_aldq C.1 C.2.1 C.2.2.2.2.2.2.2.2.1 S.1 o 4 ((ab_W_get hs).trans (by rw [ab_cr (by decide)])) rfl hin hd ?_
    show W p l e (ab_rm d mc ms) s m args below meth c H locs k n _ (F0 m (pc + 1) ls (va_rf ((rf.getD i.toNatClampNeg none).map ad) :: st.map (ab_v ad)))
    rw [ho]
    exact kk
theorem ev_iastore {o nn : Nat} {rf : List (Option Nat)} {i x : Int32} (hs : sh[o]? = some (100, nn, rf)) (hin : vp_in i nn) (hd : decode me.2.2.1 pc = .ok (.iastore, 1)) (kk : ab_Ev l D ac d me n0 mc ms r k n sh (pc + 1) lv st (ab_pi M o i.toNatClampNeg x)) : ab_Ev l D ac d me n0 mc ms r k n sh pc lv (.int x :: .int i :: .ref o :: st) M := by
  intro p e s m args below meth c H locs A ad ls C S L
  obtain ⟨hP, hD, hS, hA⟩ := S
  have hset : (ab_W ac ad sh M).set o (ad o, .inl (ac 100, nn, .inl (upd (M.1 o) i.toNatClampNeg x))) = ab_W ac ad sh (ab_pi M o i.toNatClampNeg x) := ab_W_set hs (by rw [ab_ci, ab_upd]) (fun j y hj => ab_cell_i hj)
  refine va_iast C.1 C.2.1 C.2.2.2.2.2.2.2.2.1 hP hD hS o 0 ((ab_W_get hs).trans (by rw [ab_ci])) rfl hin hd (fun H1 locs1 hP hD hS => ?_)
  rw [hset] at hP hD
  exact kk p e s m args below meth c H1 locs1 A ad ls C ⟨hP, hD, hS, hA⟩ L
theorem ev_bastore {o nn : Nat} {rf : List (Option Nat)} {i x : Int32} (hs : sh[o]? = some (101, nn, rf)) (hin : vp_in i nn) (hd : decode me.2.2.1 pc = .ok (.bastore, 1)) (kk : ab_Ev l D ac d me n0 mc ms r k n sh (pc + 1) lv st (ab_pi M o i.toNatClampNeg x.toInt8.toInt32)) : ab_Ev l D ac d me n0 mc ms r k n sh pc lv (.int x :: .int i :: .ref o :: st) M := by
  intro p e s m args below meth c H locs A ad ls C S L
  obtain ⟨hP, hD, hS, hA⟩ := S
  have hset : (ab_W ac ad sh M).set o (ad o, .inl (ac 101, nn, .inl (upd (M.1 o) i.toNatClampNeg (vp_nar .byte x)))) = ab_W ac ad sh (ab_pi M o i.toNatClampNeg x.toInt8.toInt32) := ab_W_set hs (by rw [ab_cb, ab_upd, vp_nar_byte]) (fun j y hj => ab_cell_i hj)
  refine va_bast C.1 C.2.1 C.2.2.2.2.2.2.2.2.1 hP hD hS o 1 ((ab_W_get hs).trans (by rw [ab_cb])) rfl hin hd (fun H1 locs1 hP hD hS => ?_)
  rw [hset] at hP hD
  exact kk p e s m args below meth c H1 locs1 A ad ls C ⟨hP, hD, hS, hA⟩ L
theorem ev_lastore {o nn : Nat} {rf : List (Option Nat)} {i : Int32} {x : Int64} (hs : sh[o]? = some (102, nn, rf)) (hin : vp_in i nn) (hd : decode me.2.2.1 pc = .ok (.lastore, 1)) (kk : ab_Ev l D ac d me n0 mc ms r k n sh (pc + 1) lv st (ab_pl M o i.toNatClampNeg x)) : ab_Ev l D ac d me n0 mc ms r k n sh pc lv (.long x :: .int i :: .ref o :: st) M := by
  intro p e s m args below meth c H locs A ad ls C S L
  obtain ⟨hP, hD, hS, hA⟩ := S
  have hset : (ab_W ac ad sh M).set o (ad o, .inl (ac 102, nn, .inr (.inl (vp_updL (M.2 o) i.toNatClampNeg x)))) = ab_W ac ad sh (ab_pl M o i.toNatClampNeg x) := ab_W_set hs (by rw [ab_cl, ab_updL]) (fun j y hj => ab_cell_l hj)
  refine va_last C.1 C.2.1 C.2.2.2.2.2.2.2.2.1 hP hD hS o 2 ((ab_W_get hs).trans (by rw [ab_cl])) rfl hin hd (fun H1 locs1 hP hD hS => ?_)
  rw [hset] at hP hD
  exact kk p e s m args below meth c H1 locs1 A ad ls C ⟨hP, hD, hS, hA⟩ L
theorem ev_alen {o nn ct : Nat} {rf : List (Option Nat)} {x : Int32} (hs : sh[o]? = some (ct, nn, rf)) (hct : ct = 100 ∨ ct = 101 ∨ ct = 102) (hx : Int32.ofNat nn = x) (hd : decode me.2.2.1 pc = .ok (.arraylength, 1)) (kk : ab_Ev l D ac d me n0 mc ms r k n sh (pc + 1) lv (.int x :: st) M) : ab_Ev l D ac d me n0 mc ms r k n sh pc lv (.ref o :: st) M := by
  intro p e s m args below meth c H locs A ad ls C S L
  have kk := kk p e s m args below meth c H locs A ad ls C S L
  rcases hct with rfl | rfl | rfl
  · exact va_alen C.1 C.2.1 C.2.2.2.2.2.2.2.2.1 S.1 o 0 ((ab_W_get hs).trans (by rw [ab_ci])) rfl hx hd kk
  · exact va_alen C.1 C.2.1 C.2.2.2.2.2.2.2.2.1 S.1 o 1 ((ab_W_get hs).trans (by rw [ab_cb])) rfl hx hd kk
  · exact va_alen C.1 C.2.1 C.2.2.2.2.2.2.2.2.1 S.1 o 2 ((ab_W_get hs).trans (by rw [ab_cl])) rfl hx hd kk
/-! returns -/
theorem ev_ireturn {x : Int32} (hr : me.2.2.2.2 = some .int) (hd : decode me.2.2.1 pc = .ok (.ireturn, 1)) : ab_Ev l D ac d me n0 mc ms (some (.int x), sh, M) mc ms sh pc lv [.int x] M := by
  intro p e s m args below meth c H locs A ad ls C S L
  obtain ⟨hx, hb, hrt, hml, hown, hts, hlk, hnm, hK, hN⟩ := C
  obtain ⟨hP, hD, hS, hA⟩ := S
  exact W.iret hx hb (hrt.trans hr) (fun t ht hW => ⟨⟨ad, rfl, fun _ _ => rfl, fun _ => rfl, by rw [ht]; exact hP, va_K.moved hW.alike hK, hD⟩, hS.F ht⟩) hS.2.2 hd hlk
theorem ev_zreturn {x : Int32} (hr : me.2.2.2.2 = some .boolean) (hv : x = 0 ∨ x = 1) (hd : decode me.2.2.1 pc = .ok (.ireturn, 1)) : ab_Ev l D ac d me n0 mc ms (some (.int x), sh, M) mc ms sh pc lv [.int x] M := by
  intro p e s m args below meth c H locs A ad ls C S L
  obtain ⟨hx, hb, hrt, hml, hown, hts, hlk, hnm, hK, hN⟩ := C
  obtain ⟨hP, hD, hS, hA⟩ := S
  exact W.zret hx hb (hrt.trans hr) (by rcases hv with rfl | rfl <;> rfl) (fun t ht hW => ⟨⟨ad, rfl, fun _ _ => rfl, fun _ => rfl, by rw [ht]; exact hP, va_K.moved hW.alike hK, hD⟩, hS.F ht⟩) hS.2.2 hd hlk
theorem ev_lreturn {x : Int64} (hr : me.2.2.2.2 = some .long) (hd : decode me.2.2.1 pc = .ok (.lreturn, 1)) : ab_Ev l D ac d me n0 mc ms (some (.long x), sh, M) mc ms sh pc lv [.long x] M := by
  intro p e s m args below meth c H locs A ad ls C S L
  obtain ⟨hx, hb, hrt, hml, hown, hts, hlk, hnm, hK, hN⟩ := C
  obtain ⟨hP, hD, hS, hA⟩ := S
  exact W.lret hx hb (hrt.trans hr) (fun t ht hW => ⟨⟨ad, rfl, fun _ _ => rfl, fun _ => rfl, by rw [ht]; exact hP, va_K.moved hW.alike hK, hD⟩, hS.F ht⟩) hS.2.2 hd hlk
theorem ev_areturn {o : Nat} {ty : FieldType} (hr : me.2.2.2.2 = some (.array ty)) (hd : decode me.2.2.1 pc = .ok (.areturn, 1)) : ab_Ev l D ac d me n0 mc ms (some (.ref o), sh, M) mc ms sh pc lv [.ref o] M := by
  intro p e s m args below meth c H locs A ad ls C S L
  obtain ⟨hx, hb, hrt, hml, hown, hts, hlk, hnm, hK, hN⟩ := C
  obtain ⟨hP, hD, hS, hA⟩ := S
  exact W.aret hx hb (hrt.trans hr) (Or.inr ⟨_, rfl⟩) (Or.inr ⟨_, rfl⟩) (fun t ht hW => ⟨⟨ad, rfl, fun _ _ => rfl, fun _ => rfl, by rw [ht]; exact hP, va_K.moved hW.alike hK, hD⟩, hS.F ht⟩) hS.2.2 hd hlk
theorem ev_return (hr : me.2.2.2.2 = none) (hd : decode me.2.2.1 pc = .ok (.return_, 1)) : ab_Ev l D ac d me n0 mc ms (none, sh, M) mc ms sh pc lv [] M := by
  intro p e s m args below meth c H locs A ad ls C S L
  obtain ⟨hx, hb, hrt, hml, hown, hts, hlk, hnm, hK, hN⟩ := C
  obtain ⟨hP, hD, hS, hA⟩ := S
  exact W.vret hx hb (hrt.trans hr) (fun t ht hW => ⟨⟨ad, rfl, fun _ _ => rfl, fun _ => rfl, by rw [ht]; exact hP, va_K.moved hW.alike hK, hD⟩, hS.F ht⟩) hS.2.2 hd hlk
/-! a contract out of its body -/
def ab_ent (av : List Value) : List (Option Value) := av.flatMap (fun v => if v.category = 2 then [some v, none] else [some v])
theorem ab_ent_args (ad : Nat → Nat) : ∀ (av : List Value) (b i : Nat) (v : Value), (ab_ent av)[i]? = some (some v) → (b + i, ab_v ad v) ∈ lv_args b (av.map (ab_v ad))
  | [], b, i, v, h => by simp [ab_ent] at h
  | a :: av, b, i, v, h => by
    have ih := ab_ent_args ad av
    show (b + i, ab_v ad v) ∈ (b, ab_v ad a) :: lv_args (if (ab_v ad a).category = 2 then b + 2 else b + 1) (av.map (ab_v ad))
    rw [ab_vc]
    by_cases hc : a.category = 2
    · have he : ab_ent (a :: av) = some a :: none :: ab_ent av := by simp [ab_ent, hc]
      rw [he] at h
      rw [if_pos hc]
      match i, h with
      | 0, h => simp at h; subst h; exact List.mem_cons_self
      | 1, h => simp at h
      | i + 2, h =>
        have := ih (b + 2) i v (by simpa using h)
        rw [show b + (i + 2) = b + 2 + i by omega]
        exact List.mem_cons_of_mem _ this
    · have he : ab_ent (a :: av) = some a :: ab_ent av := by simp [ab_ent, hc]
      rw [he] at h
      rw [if_neg hc]
      match i, h with
      | 0, h => simp at h; subst h; exact List.mem_cons_self
      | i + 1, h =>
        have := ih (b + 1) i v (by simpa using h)
        rw [show b + (i + 1) = b + 1 + i by omega]
        exact List.mem_cons_of_mem _ this
theorem ab_ent_len (ad : Nat → Nat) (av : List Value) : (lg_sl (av.map (ab_v ad))).length = (ab_ent av).length := by
  induction av with
  | nil => rfl
  | cons a av ih =>
    simp only [lg_sl, ab_ent, List.map_cons, List.flatMap_cons, List.length_append, ab_vc] at ih ⊢
    rw [ih]
    by_cases hc : a.category = 2 <;> simp [hc]
theorem ab_intro {av : List Value} (hpl : plainName me.1.cls = true) (hcls : me.1.cls = me.2.1) (hlen : (ab_ent av).length ≤ me.2.2.2.1) (hlv : ab_ent av ++ List.replicate (me.2.2.2.1 - (ab_ent av).length) none = lv) (kk : ab_Ev l D ac d me sh.length mc ms r 0 0 sh 0 lv [] M) : ab_Con l D ac d me mc ms av sh M r := by
  intro ad sz
  refine Met.ofW (cc := me.2.2.1) (maxL := me.2.2.2.1) (ret := me.2.2.2.2) hpl rfl ?_
  intro p e s m args below meth c s₁ B hml hv
  obtain ⟨rfl, hsz, hP, hK, hD0, hN⟩ := hv
  have hts := atoms_spec (ws := ab_ws me) B.pre
  have hown : s.vm.findClass me.1.cls = some m.cls := findClass_of_methodNamed B.named
  subst hsz
  have hD := hD0.self (sz := s.heap.size)
  have hl := lv_entry (av.map (ab_v ad)) (n := me.2.2.2.1) (by rw [ab_ent_len]; exact hlen)
  rw [lg_entry_eq]
  refine kk p e s m _ below meth c s.heap [] (va_A (ab_W ac ad sh M) s.heap.size) ad _ ⟨B.exec, B.bytes, B.returns, hml, by rw [← hcls]; exact hown, hts, B.notSynchronized, (name_of_methodNamed B.named B.method).1, hK, hN⟩ ⟨hP, hD, va_S.rf, fun q h => Or.inr h⟩ ⟨hl.1, hl.2.1, ?_, fun i v hi => ?_⟩
  · rw [← hlv, List.length_append, List.length_replicate]; omega
  · rw [← hlv] at hi
    by_cases hlt : i < (ab_ent av).length
    · rw [List.getElem?_append_left hlt] at hi
      have := hl.2.2 _ (ab_ent_args ad av 0 i v hi)
      simpa using this
    · rw [List.getElem?_append_right (Nat.not_lt.mp hlt), List.getElem?_replicate] at hi
      split at hi <;> cases hi
/-! calls -/
theorem ab_callW {p : Program} {e : Env} {R : Room} {s : State} {m : MethodId} {args : Array Value} {below : List Frame} {meth : Method} {c : Code} {H : Heap} {locs : List Loc} {cells slots : Nat} {Q : State → Prop} {pc : Nat} {ls : Array Slot} {rest st0 : List Value} {a : Array Value} {A0 A1 : Nat → Prop} {mc ms n1 : Nat} {free : Addr → Prop} {ad : Nat → Nat} {r : ab_Rs}
    (hr : va_Run p l e R s m args below meth c H locs cells slots mc ms (F0 m pc ls st0) rest (ab_Qc D ac A1 ad n1 r a) free) (hS : va_S A0 s.heap H locs) (hA : ∀ q, q < H.size → A1 q → A0 q) (hf : ∀ q, free q → A0 q)
    (kk : ∀ (ad' : Nat → Nat) (t : State) (H1 : Heap) (locs1 : List Loc), t.heap = H1 → s.vm.Alike t.vm → (∀ i, i < n1 → ad' i = ad i) → (r.2.1.length ≤ n1 → ad' = ad) → va_P D vwCl (ab_W ac ad' r.2.1 r.2.2) H1 → va_D A1 (ab_W ac ad' r.2.1 r.2.2) → H.size ≤ H1.size → (∀ q : Nat, q < H.size → ¬ A1 q → H1[q]? = H[q]?) → va_S A0 s.heap H1 locs1 → W p l e R s m args below meth c H1 locs1 (cells + mc) (slots + ms) Q (F0 m (pc + 3) ls ((r.1.map (ab_v ad')).toList ++ rest))) : W p l e R s m args below meth c H locs cells slots Q (F0 m pc ls st0) := by
  intro T hT X
  obtain ⟨v, st₀, t, T', L, h0, X', hL, e1, e2, ⟨⟨ad', hv, ha1, ha2, hp, hk1, hd1⟩, hz, hk⟩, st⟩ := hr T hT X
  cases hv
  rw [h0] at hz hk
  obtain ⟨t2, a1, b1⟩ := kk ad' t T'.heap (locs ++ L) e1.symm (by rw [← e2]; exact X'.warmed.alike) ha1 ha2 (by rw [e1]; exact hp) hd1 (by rw [e1]; exact hz) (fun q h1 h2 => by rw [e1]; exact hk q h1 h2)
    ⟨Nat.le_trans hS.1 (by rw [e1]; exact hz), fun q h1 h2 => by rw [e1, hk q (Nat.lt_of_lt_of_le h1 hS.1) (fun z => h2 (hA q (Nat.lt_of_lt_of_le h1 hS.1) z))]; exact hS.2.1 q h1 h2, fun q hq => by
      rcases List.mem_append.mp hq with h | h
      · exact hS.2.2 q h
      · exact hf _ (hL q h)⟩ T' rfl X'
  exact ⟨t2, st t2 a1, b1⟩
/-- what is known of a method that is called -/
def ab_MV (me : ab_Me) (ci np : Nat) : Prop := Cond.code me.1 me.2.2.1 me.2.2.2.1 me.2.2.2.2 ∈ ab_G ∧ Cond.instanceMethod me.1 ∈ ab_G ∧ Cond.selects me.1.cls me.1 me.1 ∈ ab_G ∧ Cond.initialized me.1.cls ∈ ab_G ∧ (me.1.cls ≠ "java/lang/invoke/MethodHandle" ∧ me.1.cls ≠ "java/lang/invoke/VarHandle" ∧ (parseMethodDescriptor me.1.desc).map (fun d => d.parameters.length) = some np) ∧ me.2.2.2.1 ≤ 29 ∧ ci < 100 ∧ ∃ T N, vwCl[ci]? = some (me.1.cls, T, N)
def ab_MS (me : ab_Me) (np : Nat) : Prop := Cond.code me.1 me.2.2.1 me.2.2.2.1 me.2.2.2.2 ∈ ab_G ∧ Cond.static me.1 ∈ ab_G ∧ Cond.initialized me.1.cls ∈ ab_G ∧ (me.1.cls ≠ "java/lang/invoke/MethodHandle" ∧ me.1.cls ≠ "java/lang/invoke/VarHandle" ∧ (parseMethodDescriptor me.1.desc).map (fun d => d.parameters.length) = some np) ∧ me.2.2.2.1 ≤ 29
theorem ab_blind {av : List Value} {sz : Nat} {ad : Nat → Nat} : FrameBlind (va_Pc av (fun U => U.heap.size = sz ∧ va_P D vwCl (ab_W ac ad sh M) U.heap ∧ va_K D vwCl (ab_tys ac) U ∧ va_D (fun _ => True) (ab_W ac ad sh M) ∧ ab_N U)) := by
  intro a U g mk q
  obtain ⟨q0, q1, qP, qK, qD, qN⟩ := q
  exact ⟨q0, q1, qP, va_K.moved (u := U) (U := U.calling g mk a) (Vm.Alike.refl U.vm) qK, qD, ab_N.same (s := U) (U := U.calling g mk a) rfl qN⟩
theorem ab_freeW {A : Nat → Prop} {ws : va_W} {H0 H : Heap} {locs : List Loc} (hD : va_D A ws) (hS : va_S A H0 H locs) (hA : ∀ q, H0.size ≤ q → A q) : ∀ q, va_A ws H.size q → A q := by
  intro q h
  rcases h with ⟨k, e, h⟩ | h
  · exact hD.2 k (q, e) h
  · exact hA q (Nat.le_trans hS.1 h)
theorem ev_callV {me' : ab_Me} {d' idx o ci nf : Nat} {rf : List (Option Nat)} {as sk : List Value} {rv : Option Value} {M' : ab_M} (hc : ab_Con l D ac d' me' 0 0 (.ref o :: as) sh M (rv, sh, M')) (hm : ab_MV me' ci as.length) (hs : sh[o]? = some (ci, nf, rf)) (hl : Cond.methodLink me.2.1 idx me'.1 ∈ ab_G) (hd : decode me.2.2.1 pc = .ok (.invokevirtual idx, 3)) (hdd : d' < d) (hk1 : sk = as.reverse ++ .ref o :: st) (hst : (st.map fun v => v.category).sum ≤ 8) (hkn : k ≤ mc ∧ n ≤ ms)
    (kk : ab_Ev l D ac d me n0 mc ms r k n sh (pc + 3) lv (rv.toList ++ st) M') : ab_Ev l D ac d me n0 mc ms r k n sh pc lv sk M := by
  intro p e s m args below meth c H locs A ad ls C S L
  obtain ⟨hx, hb, hrt, hml, hown, hts, hlk, hnm, hK, hN⟩ := id C
  obtain ⟨hP, hD, hS, hA⟩ := S
  obtain ⟨h1, h2, h3, h4, h5, h6, h7, T, N, h8⟩ := hm
  have he : (ab_W ac ad sh M)[o]? = some (ad o, .inr (ci, (List.range nf).map (ab_fv ad M o (ci, nf, rf)))) := by rw [ab_W_get hs, ab_cell_obj h7]
  have hF := ab_freeW hD hS hA
  have hG : GoodIn (ab_ws me) (wsV me.2.1 idx me'.1.cls me'.1 (ab_ws me')) := by
    intro w hw
    unfold wsV at hw
    rcases List.mem_append.mp hw with hw | hw
    · simp only [List.mem_cons, List.not_mem_nil, or_false] at hw
      rcases hw with rfl | rfl | rfl | rfl
      · exact ab_good1 hl
      · exact ab_good1 h2
      · exact ab_good1 h3
      · exact ab_good1 h4
    · exact ab_goodIn h1 w hw
  refine ab_callW (va_runV (As := as.map (ab_v ad)) (rest := st.map (ab_v ad)) (C := me'.1.cls) (b := ad o) ⟨hx, hb, hml, hown, hts⟩ (hc ad H.size) (cwV as.length hts hG rfl rfl rfl ⟨rfl, h5⟩ ⟨by show d' + 1 ≤ d; omega, by show 8 + (me'.2.2.2.1 + 11) + 48 * d' ≤ 48 * d; omega⟩) ⟨ab_blind, va_recv hK hP h8 he, fun U hU hW => ⟨rfl, by rw [hU], by rw [hU]; exact hP, va_K.moved hW.alike hK, hD.weaken (fun _ _ _ _ => trivial), ab_N.warm hW hN⟩⟩ rfl (by simp) L.1 (by subst hk1; simp [ab_v]) (lv_room (by rw [ab_vcs]; exact hst)) hd ⟨by simpa using hkn.1, by simpa using hkn.2⟩) hS (fun q _ h => hF q h) hF (fun ad' t H1 locs1 ht hvm ha1 ha2 hP1 hD1 hz hk hS1 => ?_)
  have e1 : ad' = ad := ha2 (Nat.le_refl _)
  subst e1
  have := kk p e s m args below meth c H1 locs1 A ad' ls C ⟨hP1, hD1.weaken (fun _ _ _ h => hF _ h), hS1, hA⟩ L
  rw [show (rv.toList ++ st).map (ab_v ad') = (rv.map (ab_v ad')).toList ++ st.map (ab_v ad') by cases rv <;> rfl] at this
  exact this
theorem ev_callS {me' : ab_Me} {d' idx : Nat} {as sk : List Value} {rv : Option Value} {M' : ab_M} (hc : ab_Con l D ac d' me' 0 0 as sh M (rv, sh, M')) (hm : ab_MS me' as.length) (hl : Cond.methodLink me.2.1 idx me'.1 ∈ ab_G) (hd : decode me.2.2.1 pc = .ok (.invokestatic idx, 3)) (hdd : d' < d) (hk1 : sk = as.reverse ++ st) (hst : (st.map fun v => v.category).sum ≤ 8) (hkn : k ≤ mc ∧ n ≤ ms)
    (kk : ab_Ev l D ac d me n0 mc ms r k n sh (pc + 3) lv (rv.toList ++ st) M') : ab_Ev l D ac d me n0 mc ms r k n sh pc lv sk M := by
  intro p e s m args below meth c H locs A ad ls C S L
  obtain ⟨hx, hb, hrt, hml, hown, hts, hlk, hnm, hK, hN⟩ := id C
  obtain ⟨hP, hD, hS, hA⟩ := S
  obtain ⟨h1, h2, h4, h5, h6⟩ := hm
  have hF := ab_freeW hD hS hA
  refine ab_callW (va_runS (As := as.map (ab_v ad)) (rest := st.map (ab_v ad)) ⟨hx, hb, hml, hown, hts⟩ (hc ad H.size) ⟨callB_of as.length hts (ab_goodIn h1) rfl rfl rfl (hts _ (List.mem_cons_of_mem _ h4)) (hts _ (List.mem_cons_of_mem _ hl)) h5 ⟨by show d' + 1 ≤ d; omega, by show 8 + (me'.2.2.2.1 + 11) + 48 * d' ≤ 48 * d; omega⟩, hts _ (List.mem_cons_of_mem _ h2)⟩ ⟨ab_blind, fun U hU hW => ⟨rfl, by rw [hU], by rw [hU]; exact hP, va_K.moved hW.alike hK, hD.weaken (fun _ _ _ _ => trivial), ab_N.warm hW hN⟩⟩ rfl (by simp) L.1 (by subst hk1; simp) (lv_room (by rw [ab_vcs]; exact hst)) hd ⟨by simpa using hkn.1, by simpa using hkn.2⟩) hS (fun q _ h => hF q h) hF (fun ad' t H1 locs1 ht hvm ha1 ha2 hP1 hD1 hz hk hS1 => ?_)
  have e1 : ad' = ad := ha2 (Nat.le_refl _)
  subst e1
  have := kk p e s m args below meth c H1 locs1 A ad' ls C ⟨hP1, hD1.weaken (fun _ _ _ h => hF _ h), hS1, hA⟩ L
  rw [show (rv.toList ++ st).map (ab_v ad') = (rv.map (ab_v ad')).toList ++ st.map (ab_v ad') by cases rv <;> rfl] at this
  exact this
theorem ev_callSN {me' : ab_Me} {d' idx : Nat} {host : String} {as sk : List Value} {rv : Option Value} {M' : ab_M} (hc : ab_Con l D ac d' me' 0 0 as sh M (rv, sh, M')) (hm : ab_MS me' as.length) (hl : Cond.methodLinkNest me.2.1 idx me'.1 host ∈ ab_nest) (hd : decode me.2.2.1 pc = .ok (.invokestatic idx, 3)) (hdd : d' < d) (hk1 : sk = as.reverse ++ st) (hst : (st.map fun v => v.category).sum ≤ 8) (hkn : k ≤ mc ∧ n ≤ ms)
    (kk : ab_Ev l D ac d me n0 mc ms r k n sh (pc + 3) lv (rv.toList ++ st) M') : ab_Ev l D ac d me n0 mc ms r k n sh pc lv sk M := by
  intro p e s m args below meth c H locs A ad ls C S L
  obtain ⟨hx, hb, hrt, hml, hown, hts, hlk, hnm, hK, hN⟩ := id C
  obtain ⟨hP, hD, hS, hA⟩ := S
  obtain ⟨h1, h2, h4, h5, h6⟩ := hm
  have hF := ab_freeW hD hS hA
  refine ab_callW (va_runSN (As := as.map (ab_v ad)) (rest := st.map (ab_v ad)) ⟨hx, hb, hml, hown, hts⟩ (hc ad H.size) ⟨va_cnB as.length hts (ab_goodIn h1) rfl rfl rfl (hN _ hl) (hts _ (List.mem_cons_of_mem _ h4)) h5 ⟨by show d' + 1 ≤ d; omega, by show 8 + (me'.2.2.2.1 + 11) + 48 * d' ≤ 48 * d; omega⟩, hts _ (List.mem_cons_of_mem _ h2), trivial⟩ ⟨ab_blind, fun U hU hW => ⟨rfl, by rw [hU], by rw [hU]; exact hP, va_K.moved hW.alike hK, hD.weaken (fun _ _ _ _ => trivial), ab_N.warm hW hN⟩⟩ rfl (by simp) L.1 (by subst hk1; simp) (lv_room (by rw [ab_vcs]; exact hst)) hd ⟨by simpa using hkn.1, by simpa using hkn.2⟩) hS (fun q _ h => hF q h) hF (fun ad' t H1 locs1 ht hvm ha1 ha2 hP1 hD1 hz hk hS1 => ?_)
  have e1 : ad' = ad := ha2 (Nat.le_refl _)
  subst e1
  have := kk p e s m args below meth c H1 locs1 A ad' ls C ⟨hP1, hD1.weaken (fun _ _ _ h => hF _ h), hS1, hA⟩ L
  rw [show (rv.toList ++ st).map (ab_v ad') = (rv.map (ab_v ad')).toList ++ st.map (ab_v ad') by cases rv <;> rfl] at this
  exact this
end ABheap
end
section
/-! small words of the mirrors, and the rules for the JDK's members -/
section ABlib
variable {l : Launch} {D : va_G} {ac : Nat → ClassId} {d : Nat} {me : ab_Me} {n0 mc ms : Nat} {r : ab_Rs} {k n : Nat} {sh : ab_H} {pc : Nat} {lv lv' : List (Option Value)} {st : List Value} {M : ab_M}
/-- how often a loop may go round, more than enough -/
def ab_F : Nat := 100000
noncomputable def ab_chk {α : Type} (c : Prop) (t : Option α) : Option α := @ite _ c (Classical.propDecidable c) t none
theorem ab_chk_some {α : Type} {c : Prop} {t : Option α} {r : α} (h : ab_chk c t = some r) : c ∧ t = some r := by
  unfold ab_chk at h
  split at h
  · exact ⟨by assumption, h⟩
  · cases h
theorem ab_chk_pos {α : Type} {c : Prop} {t : Option α} (h : c) : ab_chk c t = t := if_pos h
theorem ab_pos {α : Type} {c : Prop} [Decidable c] {a b : α} {r : α} (hc : c) (h : (if c then a else b) = r) : a = r := by rw [if_pos hc] at h; exact h
theorem ab_neg {α : Type} {c : Prop} [Decidable c] {a b : α} {r : α} (hc : ¬ c) (h : (if c then a else b) = r) : b = r := by rw [if_neg hc] at h; exact h
theorem ab_bind {α β : Type} {a : Option α} {f : α → Option β} {r : β} (h : a.bind f = some r) : ∃ x, a = some x ∧ f x = some r := by
  cases a with
  | none => cases h
  | some x => exact ⟨x, rfl, h⟩
theorem ab_elim {α β γ : Type} {f : α → Option γ} {g : β → Option γ} {q : Sum α β} {r : γ} (h : Sum.elim f g q = some r) : (∃ y, q = .inl y ∧ f y = some r) ∨ ∃ v, q = .inr v ∧ g v = some r := by
  cases q with
  | inl y => exact Or.inl ⟨y, rfl, h⟩
  | inr v => exact Or.inr ⟨v, rfl, h⟩
abbrev ab_ushr (x y : Int32) : Int32 := (x.toUInt32 >>> (y.toUInt32 &&& Int32.toUInt32 31)).toInt32
abbrev ab_lshl (x : Int64) (y : Int32) : Int64 := x <<< (y.toInt64 &&& 63)
abbrev ab_lushr (x : Int64) (y : Int32) : Int64 := (x.toUInt64 >>> (y.toInt64.toUInt64 &&& Int64.toUInt64 63)).toInt64
abbrev ab_i2b (x : Int32) : Int32 := x.toInt8.toInt32
abbrev ab_rem (x y : Int32) : Int32 := x - x / y * y
abbrev ab_max (x y : Int32) : Int32 := if x < y then y else x
abbrev ab_min (x y : Int32) : Int32 := if y < x then y else x
abbrev ab_abs (x : Int32) : Int32 := if 0 ≤ x then x else 0 - x
def ab_cpi (M : ab_M) (o1 o2 : Nat) (sp dp nn : Int32) : ab_M := (fun a b => if a = o2 then va_cpy (M.1 o1) (M.1 o2) sp.toNatClampNeg dp.toNatClampNeg nn.toNatClampNeg b else M.1 a b, M.2)
def ab_cpl (M : ab_M) (o1 o2 : Nat) (sp dp nn : Int32) : ab_M := (M.1, fun a b => if a = o2 then va_cpy (M.2 o1) (M.2 o2) sp.toNatClampNeg dp.toNatClampNeg nn.toNatClampNeg b else M.2 a b)
theorem ev_dup2 {v w : Value} (hd : decode me.2.2.1 pc = .ok (.dup2, 1)) (hv : v.category = 1) (hw : w.category = 1) (kk : ab_Ev l D ac d me n0 mc ms r k n sh (pc + 1) lv (v :: w :: v :: w :: st) M) : ab_Ev l D ac d me n0 mc ms r k n sh pc lv (v :: w :: st) M := fun p e s m args below meth c H locs A ad ls C S L => lv_dup2_11 C.1 C.2.1 hd ((ab_vc ad v).trans hv) ((ab_vc ad w).trans hw) (kk p e s m args below meth c H locs A ad ls C S L)
theorem ev_nmi {a b : Int32} (h : a = b) (kk : ab_Ev l D ac d me n0 mc ms r k n sh pc lv (.int b :: st) M) : ab_Ev l D ac d me n0 mc ms r k n sh pc lv (.int a :: st) M := by subst h; exact kk
theorem ev_nmr {a b : Nat} (h : a = b) (kk : ab_Ev l D ac d me n0 mc ms r k n sh pc lv (.ref b :: st) M) : ab_Ev l D ac d me n0 mc ms r k n sh pc lv (.ref a :: st) M := by subst h; exact kk
theorem ev_nml {a b : Int64} (h : a = b) (kk : ab_Ev l D ac d me n0 mc ms r k n sh pc lv (.long b :: st) M) : ab_Ev l D ac d me n0 mc ms r k n sh pc lv (.long a :: st) M := by subst h; exact kk
theorem gw_mmax_s : Cond.static Lib.Math.max.name ∈ ab_G := (ab_G_in (i := 412) (by decide +kernel) (by decide +kernel))
theorem gw_mmax_c : Cond.code Lib.Math.max.name Lib.Math.max.code 2 (some .int) ∈ ab_G := (ab_G_in (i := 413) (by decide +kernel) (by decide +kernel))
theorem gw_mmin_s : Cond.static Lib.Math.min.name ∈ ab_G := (ab_G_in (i := 659) (by decide +kernel) (by decide +kernel))
theorem gw_mmin_c : Cond.code Lib.Math.min.name Lib.Math.min.code 2 (some .int) ∈ ab_G := (ab_G_in (i := 660) (by decide +kernel) (by decide +kernel))
theorem gw_mabs_s : Cond.static Lib.Math.abs.name ∈ ab_G := (ab_G_in (i := 500) (by decide +kernel) (by decide +kernel))
theorem gw_mabs_c : Cond.code Lib.Math.abs.name Lib.Math.abs.code 1 (some .int) ∈ ab_G := (ab_G_in (i := 501) (by decide +kernel) (by decide +kernel))
theorem gw_math : Cond.initialized "java/lang/Math" ∈ ab_G := (ab_G_in (i := 73) (by decide +kernel) (by decide +kernel))
theorem gw_acN : Cond.native arraycopyName ∈ ab_G := (ab_G_in (i := 644) (by decide +kernel) (by decide +kernel))
theorem gw_acS : Cond.static arraycopyName ∈ ab_G := (ab_G_in (i := 643) (by decide +kernel) (by decide +kernel))
theorem gw_sys : Cond.initialized "java/lang/System" ∈ ab_G := (ab_G_in (i := 75) (by decide +kernel) (by decide +kernel))
theorem ev_max {idx : Nat} {x y : Int32} (hl : Cond.methodLink me.2.1 idx Lib.Math.max.name ∈ ab_G) (hd : decode me.2.2.1 pc = .ok (.invokestatic idx, 3)) (hdd : 1 < d) (hst : (st.map fun v => v.category).sum ≤ 8) (hkn : k ≤ mc ∧ n ≤ ms) (kk : ab_Ev l D ac d me n0 mc ms r k n sh (pc + 3) lv (.int (ab_max x y) :: st) M) : ab_Ev l D ac d me n0 mc ms r k n sh pc lv (.int y :: .int x :: st) M := by
  intro p e s m args below meth c H locs A ad ls C S L
  obtain ⟨hx, hb, hrt, hml, hown, hts, -⟩ := id C
  have hw : ∀ w, w ∈ ab_G → w.before args s = true := fun w h => hts w (List.mem_cons_of_mem _ h)
  exact va_mmax hx hb (hml.trans L.1.symm) hown (hw _ hl) (hw _ gw_mmax_s) (hw _ gw_math) (hw _ gw_mmax_c) (by show 1 ≤ d; omega) (by rw [ab_vcs]; show _ + 13 ≤ 48 * d; omega) hkn.1 hkn.2 hd (kk p e s m args below meth c H locs A ad ls C S L)
theorem ev_min {idx : Nat} {x y : Int32} (hl : Cond.methodLink me.2.1 idx Lib.Math.min.name ∈ ab_G) (hd : decode me.2.2.1 pc = .ok (.invokestatic idx, 3)) (hdd : 1 < d) (hst : (st.map fun v => v.category).sum ≤ 8) (hkn : k ≤ mc ∧ n ≤ ms) (kk : ab_Ev l D ac d me n0 mc ms r k n sh (pc + 3) lv (.int (ab_min x y) :: st) M) : ab_Ev l D ac d me n0 mc ms r k n sh pc lv (.int y :: .int x :: st) M := by
  intro p e s m args below meth c H locs A ad ls C S L
  obtain ⟨hx, hb, hrt, hml, hown, hts, -⟩ := id C
  have hw : ∀ w, w ∈ ab_G → w.before args s = true := fun w h => hts w (List.mem_cons_of_mem _ h)
  exact va_mmin hx hb (hml.trans L.1.symm) hown (hw _ hl) (hw _ gw_mmin_s) (hw _ gw_math) (hw _ gw_mmin_c) (by show 1 ≤ d; omega) (by rw [ab_vcs]; show _ + 13 ≤ 48 * d; omega) hkn.1 hkn.2 hd (kk p e s m args below meth c H locs A ad ls C S L)
theorem ev_abs {idx : Nat} {x : Int32} (hl : Cond.methodLink me.2.1 idx Lib.Math.abs.name ∈ ab_G) (hd : decode me.2.2.1 pc = .ok (.invokestatic idx, 3)) (hdd : 1 < d) (hst : (st.map fun v => v.category).sum ≤ 8) (hkn : k ≤ mc ∧ n ≤ ms) (kk : ab_Ev l D ac d me n0 mc ms r k n sh (pc + 3) lv (.int (ab_abs x) :: st) M) : ab_Ev l D ac d me n0 mc ms r k n sh pc lv (.int x :: st) M := by
  intro p e s m args below meth c H locs A ad ls C S L
  obtain ⟨hx, hb, hrt, hml, hown, hts, -⟩ := id C
  have hw : ∀ w, w ∈ ab_G → w.before args s = true := fun w h => hts w (List.mem_cons_of_mem _ h)
  exact va_mabs hx hb (hml.trans L.1.symm) hown (hw _ hl) (hw _ gw_mabs_s) (hw _ gw_math) (hw _ gw_mabs_c) (by show 1 ≤ d; omega) (by rw [ab_vcs]; show _ + 13 ≤ 48 * d; omega) hkn.1 hkn.2 hd (kk p e s m args below meth c H locs A ad ls C S L)
theorem ab_cell_cp {ac : Nat → ClassId} {ad : Nat → Nat} {M : ab_M} {o1 o2 j : Nat} {sp dp nn : Int32} {y : ab_S} (h : j ≠ o2) : ab_cell ac ad (ab_cpi M o1 o2 sp dp nn) j y = ab_cell ac ad M j y := by
  have h1 : (ab_cpi M o1 o2 sp dp nn).1 j = M.1 j := by funext b; simp [ab_cpi, h]
  have h2 : (ab_cpi M o1 o2 sp dp nn).2 = M.2 := rfl
  unfold ab_cell
  rw [h1, h2]
  have h3 : ab_fv ad (ab_cpi M o1 o2 sp dp nn) j y = ab_fv ad M j y := by funext b; simp [ab_fv, h1]
  rw [h3]
theorem ab_cell_cpl {ac : Nat → ClassId} {ad : Nat → Nat} {M : ab_M} {o1 o2 j : Nat} {sp dp nn : Int32} {y : ab_S} (h : j ≠ o2) : ab_cell ac ad (ab_cpl M o1 o2 sp dp nn) j y = ab_cell ac ad M j y := by
  have h1 : (ab_cpl M o1 o2 sp dp nn).2 j = M.2 j := by funext b; simp [ab_cpl, h]
  have h2 : (ab_cpl M o1 o2 sp dp nn).1 = M.1 := rfl
  unfold ab_cell
  rw [h1, h2]
  have h3 : ab_fv ad (ab_cpl M o1 o2 sp dp nn) j y = ab_fv ad M j y := by funext b; simp [ab_fv, h2]
  rw [h3]
theorem ab_nfw : nativeFrameWords "java/lang/System" "arraycopy" 5 ≤ 60 := by decide
theorem ev_copyi {idx o1 o2 n1 n2 : Nat} {rf1 rf2 : List (Option Nat)} {sp dp nn : Int32} (hl : Cond.methodLink me.2.1 idx arraycopyName ∈ ab_G) (h1 : sh[o1]? = some (100, n1, rf1)) (h2 : sh[o2]? = some (100, n2, rf2)) (hb : ¬ sp < 0 ∧ ¬ dp < 0 ∧ ¬ nn < 0 ∧ sp.toNatClampNeg + nn.toNatClampNeg ≤ n1 ∧ dp.toNatClampNeg + nn.toNatClampNeg ≤ n2) (hd : decode me.2.2.1 pc = .ok (.invokestatic idx, 3)) (hdd : 1 < d) (hst : (st.map fun v => v.category).sum ≤ 8) (kk : ab_Ev l D ac d me n0 mc ms r k n sh (pc + 3) lv st (ab_cpi M o1 o2 sp dp nn)) : ab_Ev l D ac d me n0 mc ms r k n sh pc lv (.int nn :: .int dp :: .ref o2 :: .int sp :: .ref o1 :: st) M := by
  intro p e s m args below meth c H locs A ad ls C S L
  obtain ⟨hx, hbb, hrt, hml, hown, hts, -, -, hK, -⟩ := id C
  obtain ⟨hP, hD, hS, hA⟩ := S
  obtain ⟨b1, b2, b3, b4, b5⟩ := hb
  have hw : ∀ w, w ∈ ab_G → w.before args s = true := fun w h => hts w (List.mem_cons_of_mem _ h)
  have hset : (ab_W ac ad sh M).set o2 (ad o2, .inl (ac 100, n2, .inl (va_cpy (M.1 o1) (M.1 o2) sp.toNatClampNeg dp.toNatClampNeg nn.toNatClampNeg))) = ab_W ac ad sh (ab_cpi M o1 o2 sp dp nn) := ab_W_set h2 (by rw [ab_ci, show (ab_cpi M o1 o2 sp dp nn).1 o2 = va_cpy (M.1 o1) (M.1 o2) sp.toNatClampNeg dp.toNatClampNeg nn.toNatClampNeg by funext b; simp [ab_cpi]]) (fun j y hj => ab_cell_cp hj)
  have hn := ab_nfw
  refine va_copyi hx hbb (hml.trans L.1.symm) hown (hw _ hl) (hw _ gw_acN) (hw _ gw_acS) (hw _ gw_sys) hK hP hD hS o1 o2 0 0 ((ab_W_get h1).trans (by rw [ab_ci])) ((ab_W_get h2).trans (by rw [ab_ci])) rfl rfl rfl b1 b2 b3 b4 b5 (fun _ _ => rfl) (by show 1 ≤ d; omega) (by rw [ab_vcs]; show _ ≤ 48 * d; omega) hd (fun H1 locs1 hP hD hS => ?_)
  rw [hset] at hP hD
  exact kk p e s m args below meth c H1 locs1 A ad ls C ⟨hP, hD, hS, hA⟩ L
theorem ev_copyb {idx o1 o2 n1 n2 : Nat} {rf1 rf2 : List (Option Nat)} {sp dp nn : Int32} (hl : Cond.methodLink me.2.1 idx arraycopyName ∈ ab_G) (h1 : sh[o1]? = some (101, n1, rf1)) (h2 : sh[o2]? = some (101, n2, rf2)) (hb : ¬ sp < 0 ∧ ¬ dp < 0 ∧ ¬ nn < 0 ∧ sp.toNatClampNeg + nn.toNatClampNeg ≤ n1 ∧ dp.toNatClampNeg + nn.toNatClampNeg ≤ n2 ∧ ∀ i, i < nn.toNatClampNeg → fits .byte (.int (M.1 o1 (sp.toNatClampNeg + i))) = true) (hd : decode me.2.2.1 pc = .ok (.invokestatic idx, 3)) (hdd : 1 < d) (hst : (st.map fun v => v.category).sum ≤ 8) (kk : ab_Ev l D ac d me n0 mc ms r k n sh (pc + 3) lv st (ab_cpi M o1 o2 sp dp nn)) : ab_Ev l D ac d me n0 mc ms r k n sh pc lv (.int nn :: .int dp :: .ref o2 :: .int sp :: .ref o1 :: st) M := by
  intro p e s m args below meth c H locs A ad ls C S L
  obtain ⟨hx, hbb, hrt, hml, hown, hts, -, -, hK, -⟩ := id C
  obtain ⟨hP, hD, hS, hA⟩ := S
  obtain ⟨b1, b2, b3, b4, b5, b6⟩ := hb
  have hw : ∀ w, w ∈ ab_G → w.before args s = true := fun w h => hts w (List.mem_cons_of_mem _ h)
  have hset : (ab_W ac ad sh M).set o2 (ad o2, .inl (ac 101, n2, .inl (va_cpy (M.1 o1) (M.1 o2) sp.toNatClampNeg dp.toNatClampNeg nn.toNatClampNeg))) = ab_W ac ad sh (ab_cpi M o1 o2 sp dp nn) := ab_W_set h2 (by rw [ab_cb, show (ab_cpi M o1 o2 sp dp nn).1 o2 = va_cpy (M.1 o1) (M.1 o2) sp.toNatClampNeg dp.toNatClampNeg nn.toNatClampNeg by funext b; simp [ab_cpi]]) (fun j y hj => ab_cell_cp hj)
  have hn := ab_nfw
  refine va_copyi hx hbb (hml.trans L.1.symm) hown (hw _ hl) (hw _ gw_acN) (hw _ gw_acS) (hw _ gw_sys) hK hP hD hS o1 o2 1 1 ((ab_W_get h1).trans (by rw [ab_cb])) ((ab_W_get h2).trans (by rw [ab_cb])) rfl rfl rfl b1 b2 b3 b4 b5 b6 (by show 1 ≤ d; omega) (by rw [ab_vcs]; show _ ≤ 48 * d; omega) hd (fun H1 locs1 hP hD hS => ?_)
  rw [hset] at hP hD
  exact kk p e s m args below meth c H1 locs1 A ad ls C ⟨hP, hD, hS, hA⟩ L
theorem ev_copyl {idx o1 o2 n1 n2 : Nat} {rf1 rf2 : List (Option Nat)} {sp dp nn : Int32} (hl : Cond.methodLink me.2.1 idx arraycopyName ∈ ab_G) (h1 : sh[o1]? = some (102, n1, rf1)) (h2 : sh[o2]? = some (102, n2, rf2)) (hb : ¬ sp < 0 ∧ ¬ dp < 0 ∧ ¬ nn < 0 ∧ sp.toNatClampNeg + nn.toNatClampNeg ≤ n1 ∧ dp.toNatClampNeg + nn.toNatClampNeg ≤ n2) (hd : decode me.2.2.1 pc = .ok (.invokestatic idx, 3)) (hdd : 1 < d) (hst : (st.map fun v => v.category).sum ≤ 8) (kk : ab_Ev l D ac d me n0 mc ms r k n sh (pc + 3) lv st (ab_cpl M o1 o2 sp dp nn)) : ab_Ev l D ac d me n0 mc ms r k n sh pc lv (.int nn :: .int dp :: .ref o2 :: .int sp :: .ref o1 :: st) M := by
  intro p e s m args below meth c H locs A ad ls C S L
  obtain ⟨hx, hbb, hrt, hml, hown, hts, -, -, hK, -⟩ := id C
  obtain ⟨hP, hD, hS, hA⟩ := S
  obtain ⟨b1, b2, b3, b4, b5⟩ := hb
  have hw : ∀ w, w ∈ ab_G → w.before args s = true := fun w h => hts w (List.mem_cons_of_mem _ h)
  have hset : (ab_W ac ad sh M).set o2 (ad o2, .inl (ac 102, n2, .inr (.inl (va_cpy (M.2 o1) (M.2 o2) sp.toNatClampNeg dp.toNatClampNeg nn.toNatClampNeg)))) = ab_W ac ad sh (ab_cpl M o1 o2 sp dp nn) := ab_W_set h2 (by rw [ab_cl, show (ab_cpl M o1 o2 sp dp nn).2 o2 = va_cpy (M.2 o1) (M.2 o2) sp.toNatClampNeg dp.toNatClampNeg nn.toNatClampNeg by funext b; simp [ab_cpl]]) (fun j y hj => ab_cell_cpl hj)
  have hn := ab_nfw
  refine va_copyl hx hbb (hml.trans L.1.symm) hown (hw _ hl) (hw _ gw_acN) (hw _ gw_acS) (hw _ gw_sys) hK hP hD hS o1 o2 2 2 ((ab_W_get h1).trans (by rw [ab_cl])) ((ab_W_get h2).trans (by rw [ab_cl])) rfl rfl rfl b1 b2 b3 b4 b5 (fun _ _ => rfl) (by show 1 ≤ d; omega) (by rw [ab_vcs]; show _ ≤ 48 * d; omega) hd (fun H1 locs1 hP hD hS => ?_)
  rw [hset] at hP hD
  exact kk p e s m args below meth c H1 locs1 A ad ls C ⟨hP, hD, hS, hA⟩ L
end ABlib
end
section
def ab_SH : ab_H := [
  (9, 9, [some 1, some 24, some 26, some 30, some 31, some 34, some 67, some 68, none]),
  (3, 11, [some 2, some 3, some 4, some 5, some 9, some 10, some 11, none, none, none, none]),
  (103, 12, [some 12, some 13, some 14, some 15, some 16, some 17, some 18, some 19, some 20, some 21, some 22, some 23]),
  (100, 16, []),
  (100, 16, []),
  (7, 4, [some 6, some 7, some 8, none]),
  (100, 8, []),
  (100, 8, []),
  (100, 8, []),
  (1, 4, [none, none, none, none]),
  (100, 144, []),
  (100, 12, []),
  (4, 9, [none, none, none, none, none, none, none, none, none]),
  (4, 9, [none, none, none, none, none, none, none, none, none]),
  (4, 9, [none, none, none, none, none, none, none, none, none]),
  (4, 9, [none, none, none, none, none, none, none, none, none]),
  (4, 9, [none, none, none, none, none, none, none, none, none]),
  (4, 9, [none, none, none, none, none, none, none, none, none]),
  (4, 9, [none, none, none, none, none, none, none, none, none]),
  (4, 9, [none, none, none, none, none, none, none, none, none]),
  (4, 9, [none, none, none, none, none, none, none, none, none]),
  (4, 9, [none, none, none, none, none, none, none, none, none]),
  (4, 9, [none, none, none, none, none, none, none, none, none]),
  (4, 9, [none, none, none, none, none, none, none, none, none]),
  (2, 2, [some 1, some 25]),
  (100, 30, []),
  (8, 6, [some 1, some 24, some 27, some 28, some 29, none]),
  (100, 16, []),
  (100, 16, []),
  (100, 16, []),
  (5, 2, [some 1, some 24]),
  (0, 5, [some 1, some 32, some 33, none, none]),
  (100, 384, []),
  (100, 6, []),
  (104, 8, [some 35, some 39, some 43, some 47, some 51, some 55, some 59, some 63]),
  (6, 5, [some 36, some 37, some 38, none, none]),
  (4, 9, [none, none, none, none, none, none, none, none, none]),
  (101, 60, []),
  (102, 60, []),
  (6, 5, [some 40, some 41, some 42, none, none]),
  (4, 9, [none, none, none, none, none, none, none, none, none]),
  (101, 60, []),
  (102, 60, []),
  (6, 5, [some 44, some 45, some 46, none, none]),
  (4, 9, [none, none, none, none, none, none, none, none, none]),
  (101, 60, []),
  (102, 60, []),
  (6, 5, [some 48, some 49, some 50, none, none]),
  (4, 9, [none, none, none, none, none, none, none, none, none]),
  (101, 60, []),
  (102, 60, []),
  (6, 5, [some 52, some 53, some 54, none, none]),
  (4, 9, [none, none, none, none, none, none, none, none, none]),
  (101, 60, []),
  (102, 60, []),
  (6, 5, [some 56, some 57, some 58, none, none]),
  (4, 9, [none, none, none, none, none, none, none, none, none]),
  (101, 60, []),
  (102, 60, []),
  (6, 5, [some 60, some 61, some 62, none, none]),
  (4, 9, [none, none, none, none, none, none, none, none, none]),
  (101, 60, []),
  (102, 60, []),
  (6, 5, [some 64, some 65, some 66, none, none]),
  (4, 9, [none, none, none, none, none, none, none, none, none]),
  (101, 60, []),
  (102, 60, []),
  (100, 16, []),
  (100, 16, []),
  (10, 39, [none, none, some 70, some 71, some 72, some 73, some 74, some 75, some 76, some 77, none, some 78, some 79, some 80, none, some 81, some 82, some 83, none, none, none, none, none, none, some 84, none, none, some 85, some 86, some 87, some 88, none, some 89, some 90, some 91, some 92, some 93, some 94, some 95]),
  (100, 12, []),
  (100, 12, []),
  (100, 12, []),
  (100, 12, []),
  (100, 12, []),
  (100, 12, []),
  (100, 12, []),
  (100, 12, []),
  (100, 16, []),
  (100, 16, []),
  (100, 16, []),
  (100, 8, []),
  (100, 8, []),
  (100, 8, []),
  (100, 12, []),
  (100, 16, []),
  (100, 6, []),
  (100, 384, []),
  (100, 12, []),
  (100, 16, []),
  (100, 8, []),
  (100, 8, []),
  (100, 8, []),
  (100, 8, []),
  (102, 480, []),
  (102, 60, []),
  (102, 1, [])]
theorem sh_0 : ab_SH[0]? = some (9, 9, [some 1, some 24, some 26, some 30, some 31, some 34, some 67, some 68, none]) := rfl
theorem sh_1 : ab_SH[1]? = some (3, 11, [some 2, some 3, some 4, some 5, some 9, some 10, some 11, none, none, none, none]) := rfl
theorem sh_2 : ab_SH[2]? = some (103, 12, [some 12, some 13, some 14, some 15, some 16, some 17, some 18, some 19, some 20, some 21, some 22, some 23]) := rfl
theorem sh_3 : ab_SH[3]? = some (100, 16, []) := rfl
theorem sh_4 : ab_SH[4]? = some (100, 16, []) := rfl
theorem sh_5 : ab_SH[5]? = some (7, 4, [some 6, some 7, some 8, none]) := rfl
theorem sh_6 : ab_SH[6]? = some (100, 8, []) := rfl
theorem sh_7 : ab_SH[7]? = some (100, 8, []) := rfl
theorem sh_8 : ab_SH[8]? = some (100, 8, []) := rfl
theorem sh_9 : ab_SH[9]? = some (1, 4, [none, none, none, none]) := rfl
theorem sh_10 : ab_SH[10]? = some (100, 144, []) := rfl
theorem sh_11 : ab_SH[11]? = some (100, 12, []) := rfl
theorem sh_12 : ab_SH[12]? = some (4, 9, [none, none, none, none, none, none, none, none, none]) := rfl
theorem sh_13 : ab_SH[13]? = some (4, 9, [none, none, none, none, none, none, none, none, none]) := rfl
theorem sh_14 : ab_SH[14]? = some (4, 9, [none, none, none, none, none, none, none, none, none]) := rfl
theorem sh_15 : ab_SH[15]? = some (4, 9, [none, none, none, none, none, none, none, none, none]) := rfl
theorem sh_16 : ab_SH[16]? = some (4, 9, [none, none, none, none, none, none, none, none, none]) := rfl
theorem sh_17 : ab_SH[17]? = some (4, 9, [none, none, none, none, none, none, none, none, none]) := rfl
theorem sh_18 : ab_SH[18]? = some (4, 9, [none, none, none, none, none, none, none, none, none]) := rfl
theorem sh_19 : ab_SH[19]? = some (4, 9, [none, none, none, none, none, none, none, none, none]) := rfl
theorem sh_20 : ab_SH[20]? = some (4, 9, [none, none, none, none, none, none, none, none, none]) := rfl
theorem sh_21 : ab_SH[21]? = some (4, 9, [none, none, none, none, none, none, none, none, none]) := rfl
theorem sh_22 : ab_SH[22]? = some (4, 9, [none, none, none, none, none, none, none, none, none]) := rfl
theorem sh_23 : ab_SH[23]? = some (4, 9, [none, none, none, none, none, none, none, none, none]) := rfl
theorem sh_24 : ab_SH[24]? = some (2, 2, [some 1, some 25]) := rfl
theorem sh_25 : ab_SH[25]? = some (100, 30, []) := rfl
theorem sh_26 : ab_SH[26]? = some (8, 6, [some 1, some 24, some 27, some 28, some 29, none]) := rfl
theorem sh_27 : ab_SH[27]? = some (100, 16, []) := rfl
theorem sh_28 : ab_SH[28]? = some (100, 16, []) := rfl
theorem sh_29 : ab_SH[29]? = some (100, 16, []) := rfl
theorem sh_30 : ab_SH[30]? = some (5, 2, [some 1, some 24]) := rfl
theorem sh_31 : ab_SH[31]? = some (0, 5, [some 1, some 32, some 33, none, none]) := rfl
theorem sh_32 : ab_SH[32]? = some (100, 384, []) := rfl
theorem sh_33 : ab_SH[33]? = some (100, 6, []) := rfl
theorem sh_34 : ab_SH[34]? = some (104, 8, [some 35, some 39, some 43, some 47, some 51, some 55, some 59, some 63]) := rfl
theorem sh_35 : ab_SH[35]? = some (6, 5, [some 36, some 37, some 38, none, none]) := rfl
theorem sh_36 : ab_SH[36]? = some (4, 9, [none, none, none, none, none, none, none, none, none]) := rfl
theorem sh_37 : ab_SH[37]? = some (101, 60, []) := rfl
theorem sh_38 : ab_SH[38]? = some (102, 60, []) := rfl
theorem sh_39 : ab_SH[39]? = some (6, 5, [some 40, some 41, some 42, none, none]) := rfl
theorem sh_40 : ab_SH[40]? = some (4, 9, [none, none, none, none, none, none, none, none, none]) := rfl
theorem sh_41 : ab_SH[41]? = some (101, 60, []) := rfl
theorem sh_42 : ab_SH[42]? = some (102, 60, []) := rfl
theorem sh_43 : ab_SH[43]? = some (6, 5, [some 44, some 45, some 46, none, none]) := rfl
theorem sh_44 : ab_SH[44]? = some (4, 9, [none, none, none, none, none, none, none, none, none]) := rfl
theorem sh_45 : ab_SH[45]? = some (101, 60, []) := rfl
theorem sh_46 : ab_SH[46]? = some (102, 60, []) := rfl
theorem sh_47 : ab_SH[47]? = some (6, 5, [some 48, some 49, some 50, none, none]) := rfl
theorem sh_48 : ab_SH[48]? = some (4, 9, [none, none, none, none, none, none, none, none, none]) := rfl
theorem sh_49 : ab_SH[49]? = some (101, 60, []) := rfl
theorem sh_50 : ab_SH[50]? = some (102, 60, []) := rfl
theorem sh_51 : ab_SH[51]? = some (6, 5, [some 52, some 53, some 54, none, none]) := rfl
theorem sh_52 : ab_SH[52]? = some (4, 9, [none, none, none, none, none, none, none, none, none]) := rfl
theorem sh_53 : ab_SH[53]? = some (101, 60, []) := rfl
theorem sh_54 : ab_SH[54]? = some (102, 60, []) := rfl
theorem sh_55 : ab_SH[55]? = some (6, 5, [some 56, some 57, some 58, none, none]) := rfl
theorem sh_56 : ab_SH[56]? = some (4, 9, [none, none, none, none, none, none, none, none, none]) := rfl
theorem sh_57 : ab_SH[57]? = some (101, 60, []) := rfl
theorem sh_58 : ab_SH[58]? = some (102, 60, []) := rfl
theorem sh_59 : ab_SH[59]? = some (6, 5, [some 60, some 61, some 62, none, none]) := rfl
theorem sh_60 : ab_SH[60]? = some (4, 9, [none, none, none, none, none, none, none, none, none]) := rfl
theorem sh_61 : ab_SH[61]? = some (101, 60, []) := rfl
theorem sh_62 : ab_SH[62]? = some (102, 60, []) := rfl
theorem sh_63 : ab_SH[63]? = some (6, 5, [some 64, some 65, some 66, none, none]) := rfl
theorem sh_64 : ab_SH[64]? = some (4, 9, [none, none, none, none, none, none, none, none, none]) := rfl
theorem sh_65 : ab_SH[65]? = some (101, 60, []) := rfl
theorem sh_66 : ab_SH[66]? = some (102, 60, []) := rfl
theorem sh_67 : ab_SH[67]? = some (100, 16, []) := rfl
theorem sh_68 : ab_SH[68]? = some (100, 16, []) := rfl
theorem sh_69 : ab_SH[69]? = some (10, 39, [none, none, some 70, some 71, some 72, some 73, some 74, some 75, some 76, some 77, none, some 78, some 79, some 80, none, some 81, some 82, some 83, none, none, none, none, none, none, some 84, none, none, some 85, some 86, some 87, some 88, none, some 89, some 90, some 91, some 92, some 93, some 94, some 95]) := rfl
theorem sh_70 : ab_SH[70]? = some (100, 12, []) := rfl
theorem sh_71 : ab_SH[71]? = some (100, 12, []) := rfl
theorem sh_72 : ab_SH[72]? = some (100, 12, []) := rfl
theorem sh_73 : ab_SH[73]? = some (100, 12, []) := rfl
theorem sh_74 : ab_SH[74]? = some (100, 12, []) := rfl
theorem sh_75 : ab_SH[75]? = some (100, 12, []) := rfl
theorem sh_76 : ab_SH[76]? = some (100, 12, []) := rfl
theorem sh_77 : ab_SH[77]? = some (100, 12, []) := rfl
theorem sh_78 : ab_SH[78]? = some (100, 16, []) := rfl
theorem sh_79 : ab_SH[79]? = some (100, 16, []) := rfl
theorem sh_80 : ab_SH[80]? = some (100, 16, []) := rfl
theorem sh_81 : ab_SH[81]? = some (100, 8, []) := rfl
theorem sh_82 : ab_SH[82]? = some (100, 8, []) := rfl
theorem sh_83 : ab_SH[83]? = some (100, 8, []) := rfl
theorem sh_84 : ab_SH[84]? = some (100, 12, []) := rfl
theorem sh_85 : ab_SH[85]? = some (100, 16, []) := rfl
theorem sh_86 : ab_SH[86]? = some (100, 6, []) := rfl
theorem sh_87 : ab_SH[87]? = some (100, 384, []) := rfl
theorem sh_88 : ab_SH[88]? = some (100, 12, []) := rfl
theorem sh_89 : ab_SH[89]? = some (100, 16, []) := rfl
theorem sh_90 : ab_SH[90]? = some (100, 8, []) := rfl
theorem sh_91 : ab_SH[91]? = some (100, 8, []) := rfl
theorem sh_92 : ab_SH[92]? = some (100, 8, []) := rfl
theorem sh_93 : ab_SH[93]? = some (100, 8, []) := rfl
theorem sh_94 : ab_SH[94]? = some (102, 480, []) := rfl
theorem sh_95 : ab_SH[95]? = some (102, 60, []) := rfl
theorem sh_96 : ab_SH[96]? = some (102, 1, []) := rfl
def ab_isMast (t : Nat) : Prop := ab_SH[t]? = some (4, 9, [none, none, none, none, none, none, none, none, none])
def ab_isPlan (t : Nat) : Prop := ab_SH[t]? = some (100, 16, [])
def ab_isB (t : Nat) : Prop := ab_SH[t]? = some (101, 60, [])
def ab_isJ (t : Nat) : Prop := ab_SH[t]? = some (102, 60, [])
def ab_isShelf (t : Nat) : Prop := ab_SH[t]? = some (6, 5, [some (t + 1), some (t + 2), some (t + 3), none, none]) ∧ ab_isMast (t + 1) ∧ ab_isB (t + 2) ∧ ab_isJ (t + 3)
theorem ab_mast_all : ∀ j, j < 12 → ab_SH[12 + j]? = some (4, 9, [none, none, none, none, none, none, none, none, none]) := by decide +kernel
theorem ab_rf_all : ∀ j, j < 12 → ((103, 12, [some 12, some 13, some 14, some 15, some 16, some 17, some 18, some 19, some 20, some 21, some 22, some 23]) : ab_S).2.2.getD j none = some (12 + j) := by decide +kernel
theorem ab_shelf_0 : ∀ j, j < 8 → ab_SH[35 + 4 * j]? = some (6, 5, [some (35 + 4 * j + 1), some (35 + 4 * j + 2), some (35 + 4 * j + 3), none, none]) := by decide +kernel
theorem ab_shelf_1 : ∀ j, j < 8 → ab_SH[35 + 4 * j + 1]? = some (4, 9, [none, none, none, none, none, none, none, none, none]) := by decide +kernel
theorem ab_shelf_2 : ∀ j, j < 8 → ab_SH[35 + 4 * j + 2]? = some (101, 60, []) := by decide +kernel
theorem ab_shelf_3 : ∀ j, j < 8 → ab_SH[35 + 4 * j + 3]? = some (102, 60, []) := by decide +kernel
theorem ab_rfs_all : ∀ j, j < 8 → ((104, 8, [some 35, some 39, some 43, some 47, some 51, some 55, some 59, some 63]) : ab_S).2.2.getD j none = some (35 + 4 * j) := by decide +kernel
theorem ab_in_lt {i : Int32} {n : Nat} (h : vp_in i n) : i.toNatClampNeg < n := Nat.not_le.mp fun q => h (Or.inr q)
theorem sh_mast {i : Int32} (h : vp_in i 12) : ab_isMast (12 + i.toNatClampNeg) := ab_mast_all _ (ab_in_lt h)
theorem rf_mast {i : Int32} (h : vp_in i 12) : ((103, 12, [some 12, some 13, some 14, some 15, some 16, some 17, some 18, some 19, some 20, some 21, some 22, some 23]) : ab_S).2.2.getD i.toNatClampNeg none = some (12 + i.toNatClampNeg) := ab_rf_all _ (ab_in_lt h)
theorem sh_shelf {i : Int32} (h : vp_in i 8) : ab_isShelf (35 + 4 * i.toNatClampNeg) := ⟨ab_shelf_0 _ (ab_in_lt h), ab_shelf_1 _ (ab_in_lt h), ab_shelf_2 _ (ab_in_lt h), ab_shelf_3 _ (ab_in_lt h)⟩
theorem rf_shelf {i : Int32} (h : vp_in i 8) : ((104, 8, [some 35, some 39, some 43, some 47, some 51, some 55, some 59, some 63]) : ab_S).2.2.getD i.toNatClampNeg none = some (35 + 4 * i.toNatClampNeg) := ab_rfs_all _ (ab_in_lt h)
end
section
abbrev me_J6_bitCount_0f7a4 : ab_Me := (yJ6_bitCount_0f7a4, RJ6, cJ6_bitCount_0f7a4, 1, some .int)
abbrev me_J7_fill_d0a16 : ab_Me := (yJ7_fill_d0a16, RJ7, cJ7_fill_d0a16, 5, none)
abbrev me_J7_fill_031fb : ab_Me := (yJ7_fill_031fb, RJ7, cJ7_fill_031fb, 4, none)
abbrev me_X4_goTo : ab_Me := (yX4_goTo, RX4, cX4_goTo, 2, none)
abbrev me_X4_begin : ab_Me := (yX4_begin, RX4, cX4_begin, 7, none)
abbrev me_X4_takeAll : ab_Me := (yX4_takeAll, RX4, cX4_takeAll, 2, none)
abbrev me_X4_trait : ab_Me := (yX4_trait, RX4, cX4_trait, 2, some .int)
abbrev me_X4_heaviness : ab_Me := (yX4_heaviness, RX4, cX4_heaviness, 2, some .int)
abbrev me_X7_add : ab_Me := (yX7_add, RX7, cX7_add, 4, none)
abbrev me_X7_greatest : ab_Me := (yX7_greatest, RX7, cX7_greatest, 5, some .int)
abbrev me_X1_tell : ab_Me := (yX1_tell, RX1, cX1_tell, 5, none)
abbrev me_X1_swap : ab_Me := (yX1_swap, RX1, cX1_swap, 2, none)
abbrev me_X1_allows : ab_Me := (yX1_allows, RX1, cX1_allows, 2, some .int)
abbrev me_X3_hasMast : ab_Me := (yX3_hasMast, RX3, cX3_hasMast, 2, some .boolean)
abbrev me_X3_hasWant : ab_Me := (yX3_hasWant, RX3, cX3_hasWant, 2, some .boolean)
abbrev me_X3_square : ab_Me := (yX3_square, RX3, cX3_square, 5, some .int)
abbrev me_X3_freshBar : ab_Me := (yX3_freshBar, RX3, cX3_freshBar, 3, some .int)
abbrev me_X3_measure : ab_Me := (yX3_measure, RX3, cX3_measure, 3, none)
abbrev me_X3_addMast : ab_Me := (yX3_addMast, RX3, cX3_addMast, 7, some .int)
abbrev me_X3_barOf : ab_Me := (yX3_barOf, RX3, cX3_barOf, 3, some .int)
abbrev me_X3_shift : ab_Me := (yX3_shift, RX3, cX3_shift, 5, some .int)
abbrev me_X3_barOfWants : ab_Me := (yX3_barOfWants, RX3, cX3_barOfWants, 3, some .int)
abbrev me_X3_areIn : ab_Me := (yX3_areIn, RX3, cX3_areIn, 4, some .boolean)
abbrev me_X3_kindOfWant : ab_Me := (yX3_kindOfWant, RX3, cX3_kindOfWant, 2, some .int)
abbrev me_X3_gapOf : ab_Me := (yX3_gapOf, RX3, cX3_gapOf, 3, some .int)
abbrev me_X3_allowed : ab_Me := (yX3_allowed, RX3, cX3_allowed, 4, some .int)
abbrev me_X3_barredTwos : ab_Me := (yX3_barredTwos, RX3, cX3_barredTwos, 4, some .int)
abbrev me_X3_threesIn : ab_Me := (yX3_threesIn, RX3, cX3_threesIn, 5, some .int)
abbrev me_X3_joinedTo : ab_Me := (yX3_joinedTo, RX3, cX3_joinedTo, 5, some .int)
abbrev me_X3_partAround : ab_Me := (yX3_partAround, RX3, cX3_partAround, 6, some .int)
abbrev me_X3_parts : ab_Me := (yX3_parts, RX3, cX3_parts, 4, some .int)
abbrev me_X3_partOf : ab_Me := (yX3_partOf, RX3, cX3_partOf, 6, some .int)
abbrev me_X9_within : ab_Me := (yX9_within, RX9, cX9_within, 3, some .boolean)
abbrev me_X9_isShelf : ab_Me := (yX9_isShelf, RX9, cX9_isShelf, 1, some .boolean)
abbrev me_X9_isPlace : ab_Me := (yX9_isPlace, RX9, cX9_isPlace, 1, some .boolean)
abbrev me_X2_served : ab_Me := (yX2_served, RX2, cX2_served, 4, some .int)
abbrev me_X2_lackAt : ab_Me := (yX2_lackAt, RX2, cX2_lackAt, 11, some .int)
abbrev me_X2_lackOf : ab_Me := (yX2_lackOf, RX2, cX2_lackOf, 4, some .int)
abbrev me_X2_lacks : ab_Me := (yX2_lacks, RX2, cX2_lacks, 5, some .int)
abbrev me_X2_sumTogether : ab_Me := (yX2_sumTogether, RX2, cX2_sumTogether, 5, some .boolean)
abbrev me_X2_sumsOfThree : ab_Me := (yX2_sumsOfThree, RX2, cX2_sumsOfThree, 12, some .int)
abbrev me_X2_sums : ab_Me := (yX2_sums, RX2, cX2_sums, 6, some .int)
abbrev me_X2_strayBits : ab_Me := (yX2_strayBits, RX2, cX2_strayBits, 5, some .int)
abbrev me_X2_totalHarm : ab_Me := (yX2_totalHarm, RX2, cX2_totalHarm, 2, some .int)
abbrev me_X2_lackingTwos : ab_Me := (yX2_lackingTwos, RX2, cX2_lackingTwos, 5, some .int)
abbrev me_X2_tooNear : ab_Me := (yX2_tooNear, RX2, cX2_tooNear, 9, some .long)
abbrev me_X2_sumMates : ab_Me := (yX2_sumMates, RX2, cX2_sumMates, 5, some .boolean)
abbrev me_X2_bitOf : ab_Me := (yX2_bitOf, RX2, cX2_bitOf, 1, some .long)
abbrev me_X2_sumTargets : ab_Me := (yX2_sumTargets, RX2, cX2_sumTargets, 10, some .long)
abbrev me_X2_freeChannels : ab_Me := (yX2_freeChannels, RX2, cX2_freeChannels, 8, some .int)
abbrev me_X2_isClean : ab_Me := (yX2_isClean, RX2, cX2_isClean, 3, some .boolean)
abbrev me_X2_addLacks : ab_Me := (yX2_addLacks, RX2, cX2_addLacks, 8, none)
abbrev me_X2_addSumAt : ab_Me := (yX2_addSumAt, RX2, cX2_addSumAt, 3, none)
abbrev me_X2_addSums : ab_Me := (yX2_addSums, RX2, cX2_addSums, 9, none)
abbrev me_X2_weigh : ab_Me := (yX2_weigh, RX2, cX2_weigh, 6, some (.array .int))
abbrev me_X8_below : ab_Me := (yX8_below, RX8, cX8_below, 1, some .int)
abbrev me_X8_open : ab_Me := (yX8_open, RX8, cX8_open, 3, none)
abbrev me_X8_takes : ab_Me := (yX8_takes, RX8, cX8_takes, 3, some .boolean)
abbrev me_X8_search : ab_Me := (yX8_search, RX8, cX8_search, 4, some .int)
abbrev me_X8_handOver : ab_Me := (yX8_handOver, RX8, cX8_handOver, 2, none)
abbrev me_X5_canChange : ab_Me := (yX5_canChange, RX5, cX5_canChange, 3, some .boolean)
abbrev me_X5_improve : ab_Me := (yX5_improve, RX5, cX5_improve, 10, some .boolean)
abbrev me_X5_leastFree : ab_Me := (yX5_leastFree, RX5, cX5_leastFree, 6, some .int)
abbrev me_X5_changeOne : ab_Me := (yX5_changeOne, RX5, cX5_changeOne, 4, some .boolean)
abbrev me_X5_changeBoth : ab_Me := (yX5_changeBoth, RX5, cX5_changeBoth, 8, some .boolean)
abbrev me_X5_changeTwo : ab_Me := (yX5_changeTwo, RX5, cX5_changeTwo, 4, some .boolean)
abbrev me_X0_barsAll : ab_Me := (yX0_barsAll, RX0, cX0_barsAll, 4, some .boolean)
abbrev me_X0_isCrowd : ab_Me := (yX0_isCrowd, RX0, cX0_isCrowd, 3, some .boolean)
abbrev me_X0_wantsOf : ab_Me := (yX0_wantsOf, RX0, cX0_wantsOf, 4, some .int)
abbrev me_X0_leastSum : ab_Me := (yX0_leastSum, RX0, cX0_leastSum, 6, some .int)
abbrev me_X0_sumUp : ab_Me := (yX0_sumUp, RX0, cX0_sumUp, 4, none)
abbrev me_X0_seat : ab_Me := (yX0_seat, RX0, cX0_seat, 6, some .int)
abbrev me_X0_boundOfSeated : ab_Me := (yX0_boundOfSeated, RX0, cX0_boundOfSeated, 5, some .int)
abbrev me_X0_boundOf : ab_Me := (yX0_boundOf, RX0, cX0_boundOf, 4, some .int)
abbrev me_X0_consider : ab_Me := (yX0_consider, RX0, cX0_consider, 3, none)
abbrev me_X0_grow : ab_Me := (yX0_grow, RX0, cX0_grow, 7, none)
abbrev me_X0_greatest : ab_Me := (yX0_greatest, RX0, cX0_greatest, 1, some .int)
abbrev me_X6_clear : ab_Me := (yX6_clear, RX6, cX6_clear, 1, none)
abbrev me_X6_takeMast : ab_Me := (yX6_takeMast, RX6, cX6_takeMast, 2, none)
abbrev me_X6_takeChannels : ab_Me := (yX6_takeChannels, RX6, cX6_takeChannels, 4, none)
abbrev me_X6_takeSquares : ab_Me := (yX6_takeSquares, RX6, cX6_takeSquares, 4, none)
abbrev me_X6_takeZeros : ab_Me := (yX6_takeZeros, RX6, cX6_takeZeros, 3, none)
abbrev me_X6_isRow : ab_Me := (yX6_isRow, RX6, cX6_isRow, 1, some .boolean)
abbrev me_X6_hasRange : ab_Me := (yX6_hasRange, RX6, cX6_hasRange, 3, some .boolean)
abbrev me_X6_at : ab_Me := (yX6_at, RX6, cX6_at, 2, some .long)
abbrev me_X6_copyTo : ab_Me := (yX6_copyTo, RX6, cX6_copyTo, 5, none)
abbrev me_X9_mast : ab_Me := (yX9_mast, RX9, cX9_mast, 5, some .int)
abbrev me_X9_move : ab_Me := (yX9_move, RX9, cX9_move, 3, some .int)
abbrev me_X9_list : ab_Me := (yX9_list, RX9, cX9_list, 3, some .int)
abbrev me_X9_gap : ab_Me := (yX9_gap, RX9, cX9_gap, 4, some .int)
abbrev me_X9_stay : ab_Me := (yX9_stay, RX9, cX9_stay, 3, some .int)
abbrev me_X9_row : ab_Me := (yX9_row, RX9, cX9_row, 4, some .int)
abbrev me_X9_own : ab_Me := (yX9_own, RX9, cX9_own, 3, some .int)
abbrev me_X9_border : ab_Me := (yX9_border, RX9, cX9_border, 5, some .int)
abbrev me_X9_turn : ab_Me := (yX9_turn, RX9, cX9_turn, 2, some .int)
abbrev me_X9_bar : ab_Me := (yX9_bar, RX9, cX9_bar, 3, some .int)
abbrev me_X9_may : ab_Me := (yX9_may, RX9, cX9_may, 3, some .int)
abbrev me_X9_set : ab_Me := (yX9_set, RX9, cX9_set, 4, some .int)
abbrev me_X9_channel : ab_Me := (yX9_channel, RX9, cX9_channel, 2, some .int)
abbrev me_X9_of : ab_Me := (yX9_of, RX9, cX9_of, 2, some .int)
abbrev me_X9_harm : ab_Me := (yX9_harm, RX9, cX9_harm, 1, some .int)
abbrev me_X9_kept : ab_Me := (yX9_kept, RX9, cX9_kept, 1, some .int)
abbrev me_X9_broken : ab_Me := (yX9_broken, RX9, cX9_broken, 2, some .int)
abbrev me_X9_pair : ab_Me := (yX9_pair, RX9, cX9_pair, 7, some .int)
abbrev me_X9_plan : ab_Me := (yX9_plan, RX9, cX9_plan, 3, some .int)
abbrev me_X9_tries : ab_Me := (yX9_tries, RX9, cX9_tries, 1, some .int)
abbrev me_X9_least : ab_Me := (yX9_least, RX9, cX9_least, 3, some .int)
abbrev me_X9_span : ab_Me := (yX9_span, RX9, cX9_span, 4, some .int)
abbrev me_X9_better : ab_Me := (yX9_better, RX9, cX9_better, 3, some .int)
abbrev me_X9_fewest : ab_Me := (yX9_fewest, RX9, cX9_fewest, 2, some .int)
abbrev me_X9_bound : ab_Me := (yX9_bound, RX9, cX9_bound, 2, some .int)
abbrev me_X9_crowd : ab_Me := (yX9_crowd, RX9, cX9_crowd, 1, some .int)
abbrev me_X9_part : ab_Me := (yX9_part, RX9, cX9_part, 2, some .int)
abbrev me_X9_image : ab_Me := (yX9_image, RX9, cX9_image, 1, some .int)
abbrev me_X9_restore : ab_Me := (yX9_restore, RX9, cX9_restore, 3, some .int)
abbrev me_X9_count : ab_Me := (yX9_count, RX9, cX9_count, 2, some .int)
abbrev me_X9_look : ab_Me := (yX9_look, RX9, cX9_look, 3, some .int)
abbrev me_X9_keep : ab_Me := (yX9_keep, RX9, cX9_keep, 5, some .int)
abbrev me_X9_make : ab_Me := (yX9_make, RX9, cX9_make, 4, some .int)
abbrev me_X9_copy : ab_Me := (yX9_copy, RX9, cX9_copy, 8, some .int)
abbrev me_X9_refusalOfMast : ab_Me := (yX9_refusalOfMast, RX9, cX9_refusalOfMast, 2, some .int)
abbrev me_X9_weight : ab_Me := (yX9_weight, RX9, cX9_weight, 3, some .int)
abbrev me_X10_thrown : ab_Me := (yX10_thrown, RX10, cX10_thrown, 1, some .int)
abbrev me_X10_isIn : ab_Me := (yX10_isIn, RX10, cX10_isIn, 6, some .boolean)
abbrev me_X10_isMast : ab_Me := (yX10_isMast, RX10, cX10_isMast, 2, some .boolean)
abbrev me_X10_isWant : ab_Me := (yX10_isWant, RX10, cX10_isWant, 2, some .boolean)
abbrev me_X10_isPlace : ab_Me := (yX10_isPlace, RX10, cX10_isPlace, 1, some .boolean)
abbrev me_X10_isSet : ab_Me := (yX10_isSet, RX10, cX10_isSet, 1, some .boolean)
abbrev me_X10_mast : ab_Me := (yX10_mast, RX10, cX10_mast, 6, some .int)
abbrev me_X10_square : ab_Me := (yX10_square, RX10, cX10_square, 3, some .int)
abbrev me_X10_barOf : ab_Me := (yX10_barOf, RX10, cX10_barOf, 6, some .int)
abbrev me_X10_move : ab_Me := (yX10_move, RX10, cX10_move, 5, some .int)
abbrev me_X10_countBits : ab_Me := (yX10_countBits, RX10, cX10_countBits, 4, some .int)
abbrev me_X10_list : ab_Me := (yX10_list, RX10, cX10_list, 3, some .int)
abbrev me_X10_gap : ab_Me := (yX10_gap, RX10, cX10_gap, 4, some .int)
abbrev me_X10_stay : ab_Me := (yX10_stay, RX10, cX10_stay, 3, some .int)
abbrev me_X10_row : ab_Me := (yX10_row, RX10, cX10_row, 4, some .int)
abbrev me_X10_own : ab_Me := (yX10_own, RX10, cX10_own, 3, some .int)
abbrev me_X10_border : ab_Me := (yX10_border, RX10, cX10_border, 5, some .int)
abbrev me_X10_isFree : ab_Me := (yX10_isFree, RX10, cX10_isFree, 4, some .boolean)
abbrev me_X10_isListed : ab_Me := (yX10_isListed, RX10, cX10_isListed, 3, some .boolean)
abbrev me_X10_mayHave : ab_Me := (yX10_mayHave, RX10, cX10_mayHave, 5, some .boolean)
abbrev me_X10_turn : ab_Me := (yX10_turn, RX10, cX10_turn, 5, some .int)
abbrev me_X10_bar : ab_Me := (yX10_bar, RX10, cX10_bar, 3, some .int)
abbrev me_X10_may : ab_Me := (yX10_may, RX10, cX10_may, 3, some .int)
abbrev me_X10_set : ab_Me := (yX10_set, RX10, cX10_set, 4, some .int)
abbrev me_X10_channel : ab_Me := (yX10_channel, RX10, cX10_channel, 2, some .int)
abbrev me_X10_of : ab_Me := (yX10_of, RX10, cX10_of, 2, some .int)
abbrev me_X10_channelOf : ab_Me := (yX10_channelOf, RX10, cX10_channelOf, 3, some .int)
abbrev me_X10_channelsOf : ab_Me := (yX10_channelsOf, RX10, cX10_channelsOf, 2, some .int)
abbrev me_X10_lack : ab_Me := (yX10_lack, RX10, cX10_lack, 9, some .int)
abbrev me_X10_areIn : ab_Me := (yX10_areIn, RX10, cX10_areIn, 4, some .boolean)
abbrev me_X10_middles : ab_Me := (yX10_middles, RX10, cX10_middles, 8, some .int)
abbrev me_X10_brokenOf : ab_Me := (yX10_brokenOf, RX10, cX10_brokenOf, 7, some .int)
abbrev me_X10_harmNow : ab_Me := (yX10_harmNow, RX10, cX10_harmNow, 1, some .int)
abbrev me_X10_harm : ab_Me := (yX10_harm, RX10, cX10_harm, 1, some .int)
abbrev me_X10_kept : ab_Me := (yX10_kept, RX10, cX10_kept, 3, some .int)
abbrev me_X10_broken : ab_Me := (yX10_broken, RX10, cX10_broken, 2, some .int)
abbrev me_X10_pair : ab_Me := (yX10_pair, RX10, cX10_pair, 7, some .int)
abbrev me_X10_isFine : ab_Me := (yX10_isFine, RX10, cX10_isFine, 4, some .boolean)
abbrev me_X10_isTaken : ab_Me := (yX10_isTaken, RX10, cX10_isTaken, 6, some .boolean)
abbrev me_X10_tryBelow : ab_Me := (yX10_tryBelow, RX10, cX10_tryBelow, 5, some .boolean)
abbrev me_X10_keepPlan : ab_Me := (yX10_keepPlan, RX10, cX10_keepPlan, 2, none)
abbrev me_X10_givePlan : ab_Me := (yX10_givePlan, RX10, cX10_givePlan, 2, none)
abbrev me_X10_plan : ab_Me := (yX10_plan, RX10, cX10_plan, 2, some .int)
abbrev me_X10_tries : ab_Me := (yX10_tries, RX10, cX10_tries, 1, some .int)
abbrev me_X10_least : ab_Me := (yX10_least, RX10, cX10_least, 2, some .int)
abbrev me_X10_span : ab_Me := (yX10_span, RX10, cX10_span, 6, some .int)
abbrev me_X10_isBettered : ab_Me := (yX10_isBettered, RX10, cX10_isBettered, 9, some .boolean)
abbrev me_X10_better : ab_Me := (yX10_better, RX10, cX10_better, 3, some .int)
abbrev me_X10_isHealedBy : ab_Me := (yX10_isHealedBy, RX10, cX10_isHealedBy, 4, some .boolean)
abbrev me_X10_isHealedByTwo : ab_Me := (yX10_isHealedByTwo, RX10, cX10_isHealedByTwo, 5, some .boolean)
abbrev me_X10_fewest : ab_Me := (yX10_fewest, RX10, cX10_fewest, 3, some .int)
abbrev me_X10_wantsIn : ab_Me := (yX10_wantsIn, RX10, cX10_wantsIn, 4, some .int)
abbrev me_X10_isCrowd : ab_Me := (yX10_isCrowd, RX10, cX10_isCrowd, 5, some .boolean)
abbrev me_X10_boundOf : ab_Me := (yX10_boundOf, RX10, cX10_boundOf, 9, some .int)
abbrev me_X10_bound : ab_Me := (yX10_bound, RX10, cX10_bound, 2, some .int)
abbrev me_X10_crowd : ab_Me := (yX10_crowd, RX10, cX10_crowd, 5, some .int)
abbrev me_X10_areNear : ab_Me := (yX10_areNear, RX10, cX10_areNear, 5, some .boolean)
abbrev me_X10_findParts : ab_Me := (yX10_findParts, RX10, cX10_findParts, 4, some .int)
abbrev me_X10_part : ab_Me := (yX10_part, RX10, cX10_part, 3, some .int)
abbrev me_X10_withChannel : ab_Me := (yX10_withChannel, RX10, cX10_withChannel, 3, some .int)
abbrev me_X10_image : ab_Me := (yX10_image, RX10, cX10_image, 2, some .int)
abbrev me_X10_restore : ab_Me := (yX10_restore, RX10, cX10_restore, 3, some .int)
abbrev me_X10_bars : ab_Me := (yX10_bars, RX10, cX10_bars, 4, some .int)
abbrev me_X10_threes : ab_Me := (yX10_threes, RX10, cX10_threes, 5, some .int)
abbrev me_X10_count : ab_Me := (yX10_count, RX10, cX10_count, 2, some .int)
abbrev me_X10_look : ab_Me := (yX10_look, RX10, cX10_look, 3, some .int)
abbrev me_X10_isShelf : ab_Me := (yX10_isShelf, RX10, cX10_isShelf, 1, some .boolean)
abbrev me_X10_weightOf : ab_Me := (yX10_weightOf, RX10, cX10_weightOf, 3, some .int)
abbrev me_X10_keep : ab_Me := (yX10_keep, RX10, cX10_keep, 6, some .int)
abbrev me_X10_make : ab_Me := (yX10_make, RX10, cX10_make, 5, some .int)
abbrev me_X10_element : ab_Me := (yX10_element, RX10, cX10_element, 4, some .long)
abbrev me_X10_hasPlaces : ab_Me := (yX10_hasPlaces, RX10, cX10_hasPlaces, 4, some .boolean)
abbrev me_X10_copy : ab_Me := (yX10_copy, RX10, cX10_copy, 7, some .int)
abbrev me_X10_denied : ab_Me := (yX10_denied, RX10, cX10_denied, 2, some .int)
abbrev me_X10_weight : ab_Me := (yX10_weight, RX10, cX10_weight, 3, some .int)
abbrev me_X10_toss : ab_Me := (yX10_toss, RX10, cX10_toss, 3, some .int)
theorem gi_X0 : ∀ w ∈ u_ws RX0 TX0 5, w ∈ ab_G := by
  intro w hw
  have h := goodIn_r (big := lw_tbl) (u_ws RX0 TX0 5) [302, 304, 306, 308, 310] (by decide +kernel) (by decide +kernel) w hw
  exact List.mem_filter.mpr ⟨h.1, List.all_eq_true.mp (show (u_ws RX0 TX0 5).all goodWord = true by decide +kernel) w hw⟩
theorem gi_X1 : ∀ w ∈ u_ws RX1 TX1 4, w ∈ ab_G := by
  intro w hw
  have h := goodIn_r (big := lw_tbl) (u_ws RX1 TX1 4) [129, 131, 133, 135] (by decide +kernel) (by decide +kernel) w hw
  exact List.mem_filter.mpr ⟨h.1, List.all_eq_true.mp (show (u_ws RX1 TX1 4).all goodWord = true by decide +kernel) w hw⟩
theorem gi_X2 : ∀ w ∈ u_ws RX2 TX2 2, w ∈ ab_G := by
  intro w hw
  have h := goodIn_r (big := lw_tbl) (u_ws RX2 TX2 2) [247, 249] (by decide +kernel) (by decide +kernel) w hw
  exact List.mem_filter.mpr ⟨h.1, List.all_eq_true.mp (show (u_ws RX2 TX2 2).all goodWord = true by decide +kernel) w hw⟩
theorem gi_X3 : ∀ w ∈ u_ws RX3 TX3 11, w ∈ ab_G := by
  intro w hw
  have h := goodIn_r (big := lw_tbl) (u_ws RX3 TX3 11) [216, 218, 220, 222, 224, 226, 228, 230, 232, 234, 236] (by decide +kernel) (by decide +kernel) w hw
  exact List.mem_filter.mpr ⟨h.1, List.all_eq_true.mp (show (u_ws RX3 TX3 11).all goodWord = true by decide +kernel) w hw⟩
theorem gi_X4 : ∀ w ∈ u_ws RX4 TX4 9, w ∈ ab_G := by
  intro w hw
  have h := goodIn_r (big := lw_tbl) (u_ws RX4 TX4 9) [165, 167, 169, 171, 173, 175, 177, 179, 181] (by decide +kernel) (by decide +kernel) w hw
  exact List.mem_filter.mpr ⟨h.1, List.all_eq_true.mp (show (u_ws RX4 TX4 9).all goodWord = true by decide +kernel) w hw⟩
theorem gi_X5 : ∀ w ∈ u_ws RX5 TX5 2, w ∈ ab_G := by
  intro w hw
  have h := goodIn_r (big := lw_tbl) (u_ws RX5 TX5 2) [286, 288] (by decide +kernel) (by decide +kernel) w hw
  exact List.mem_filter.mpr ⟨h.1, List.all_eq_true.mp (show (u_ws RX5 TX5 2).all goodWord = true by decide +kernel) w hw⟩
theorem gi_X6 : ∀ w ∈ u_ws RX6 TX6 5, w ∈ ab_G := by
  intro w hw
  have h := goodIn_r (big := lw_tbl) (u_ws RX6 TX6 5) [330, 332, 334, 336, 338] (by decide +kernel) (by decide +kernel) w hw
  exact List.mem_filter.mpr ⟨h.1, List.all_eq_true.mp (show (u_ws RX6 TX6 5).all goodWord = true by decide +kernel) w hw⟩
theorem gi_X7 : ∀ w ∈ u_ws RX7 TX7 4, w ∈ ab_G := by
  intro w hw
  have h := goodIn_r (big := lw_tbl) (u_ws RX7 TX7 4) [109, 111, 113, 115] (by decide +kernel) (by decide +kernel) w hw
  exact List.mem_filter.mpr ⟨h.1, List.all_eq_true.mp (show (u_ws RX7 TX7 4).all goodWord = true by decide +kernel) w hw⟩
theorem gi_X8 : ∀ w ∈ u_ws RX8 TX8 6, w ∈ ab_G := by
  intro w hw
  have h := goodIn_r (big := lw_tbl) (u_ws RX8 TX8 6) [265, 267, 269, 271, 273, 275] (by decide +kernel) (by decide +kernel) w hw
  exact List.mem_filter.mpr ⟨h.1, List.all_eq_true.mp (show (u_ws RX8 TX8 6).all goodWord = true by decide +kernel) w hw⟩
theorem gi_X9 : ∀ w ∈ u_ws RX9 TX9 9, w ∈ ab_G := by
  intro w hw
  have h := goodIn_r (big := lw_tbl) (u_ws RX9 TX9 9) [353, 355, 357, 359, 361, 363, 365, 367, 369] (by decide +kernel) (by decide +kernel) w hw
  exact List.mem_filter.mpr ⟨h.1, List.all_eq_true.mp (show (u_ws RX9 TX9 9).all goodWord = true by decide +kernel) w hw⟩
theorem gi_X10 : ∀ w ∈ u_ws RX10 TX10 39, w ∈ ab_G := by
  intro w hw
  have h := goodIn_r (big := lw_tbl) (u_ws RX10 TX10 39) [1070, 1072, 1074, 1076, 1078, 1080, 1082, 1084, 1086, 1088, 1090, 1092, 1094, 1096, 1098, 1100, 1102, 1104, 1106, 1108, 1110, 1112, 1114, 1116, 1118, 1120, 1122, 1124, 1126, 1128, 1130, 1132, 1134, 1136, 1138, 1140, 1142, 1144, 1146] (by decide +kernel) (by decide +kernel) w hw
  exact List.mem_filter.mpr ⟨h.1, List.all_eq_true.mp (show (u_ws RX10 TX10 39).all goodWord = true by decide +kernel) w hw⟩
theorem fl_RX9_12 : ab_FL RX9 12 9 0 (tyX9 0) true := ⟨RX9, TX9, 9, tyX9, rfl, by decide, gi_X9, tyX9_ok, nmX9, rfl, rfl, Or.inl (ab_G_in (i := 344) (by decide +kernel) (by decide +kernel))⟩
theorem fl_RX9_21 : ab_FL RX9 21 9 1 (tyX9 1) true := ⟨RX9, TX9, 9, tyX9, rfl, by decide, gi_X9, tyX9_ok, nmX9, rfl, rfl, Or.inl (ab_G_in (i := 345) (by decide +kernel) (by decide +kernel))⟩
theorem fl_RX9_30 : ab_FL RX9 30 9 2 (tyX9 2) true := ⟨RX9, TX9, 9, tyX9, rfl, by decide, gi_X9, tyX9_ok, nmX9, rfl, rfl, Or.inl (ab_G_in (i := 346) (by decide +kernel) (by decide +kernel))⟩
theorem fl_RX9_37 : ab_FL RX9 37 9 3 (tyX9 3) true := ⟨RX9, TX9, 9, tyX9, rfl, by decide, gi_X9, tyX9_ok, nmX9, rfl, rfl, Or.inl (ab_G_in (i := 347) (by decide +kernel) (by decide +kernel))⟩
theorem fl_RX9_44 : ab_FL RX9 44 9 4 (tyX9 4) true := ⟨RX9, TX9, 9, tyX9, rfl, by decide, gi_X9, tyX9_ok, nmX9, rfl, rfl, Or.inl (ab_G_in (i := 348) (by decide +kernel) (by decide +kernel))⟩
theorem fl_RX9_50 : ab_FL RX9 50 9 5 (tyX9 5) true := ⟨RX9, TX9, 9, tyX9, rfl, by decide, gi_X9, tyX9_ok, nmX9, rfl, rfl, Or.inl (ab_G_in (i := 349) (by decide +kernel) (by decide +kernel))⟩
theorem fl_RX9_55 : ab_FL RX9 55 9 6 (tyX9 6) true := ⟨RX9, TX9, 9, tyX9, rfl, by decide, gi_X9, tyX9_ok, nmX9, rfl, rfl, Or.inl (ab_G_in (i := 350) (by decide +kernel) (by decide +kernel))⟩
theorem fl_RX9_59 : ab_FL RX9 59 9 7 (tyX9 7) true := ⟨RX9, TX9, 9, tyX9, rfl, by decide, gi_X9, tyX9_ok, nmX9, rfl, rfl, Or.inl (ab_G_in (i := 351) (by decide +kernel) (by decide +kernel))⟩
theorem fl_RX9_68 : ab_FL RX9 68 9 8 (tyX9 8) false := ⟨RX9, TX9, 9, tyX9, rfl, by decide, gi_X9, tyX9_ok, nmX9, rfl, rfl, Or.inl (ab_G_in (i := 352) (by decide +kernel) (by decide +kernel))⟩
theorem fl_RX9_80 : ab_FL RX9 80 3 7 (tyX3 7) false := ⟨RX3, TX3, 11, tyX3, rfl, by decide, gi_X3, tyX3_ok, nmX3, rfl, rfl, Or.inr ⟨"WavePlan", ab_n_in (i := 205) (by decide +kernel) rfl⟩⟩
theorem fl_RX9_83 : ab_FL RX9 83 3 8 (tyX3 8) false := ⟨RX3, TX3, 11, tyX3, rfl, by decide, gi_X3, tyX3_ok, nmX3, rfl, rfl, Or.inr ⟨"WavePlan", ab_n_in (i := 209) (by decide +kernel) rfl⟩⟩
theorem fl_RX9_98 : ab_FL RX9 98 3 0 (tyX3 0) true := ⟨RX3, TX3, 11, tyX3, rfl, by decide, gi_X3, tyX3_ok, nmX3, rfl, rfl, Or.inr ⟨"WavePlan", ab_n_in (i := 188) (by decide +kernel) rfl⟩⟩
theorem fl_RX9_102 : ab_FL RX9 102 4 7 (tyX4 7) false := ⟨RX4, TX4, 9, tyX4, rfl, by decide, gi_X4, tyX4_ok, nmX4, rfl, rfl, Or.inr ⟨"WavePlan", ab_n_in (i := 160) (by decide +kernel) rfl⟩⟩
theorem fl_RX9_113 : ab_FL RX9 113 4 1 (tyX4 1) false := ⟨RX4, TX4, 9, tyX4, rfl, by decide, gi_X4, tyX4_ok, nmX4, rfl, rfl, Or.inr ⟨"WavePlan", ab_n_in (i := 147) (by decide +kernel) rfl⟩⟩
theorem fl_RX9_116 : ab_FL RX9 116 4 8 (tyX4 8) false := ⟨RX4, TX4, 9, tyX4, rfl, by decide, gi_X4, tyX4_ok, nmX4, rfl, rfl, Or.inr ⟨"WavePlan", ab_n_in (i := 163) (by decide +kernel) rfl⟩⟩
theorem fl_RX9_125 : ab_FL RX9 125 3 2 (tyX3 2) true := ⟨RX3, TX3, 11, tyX3, rfl, by decide, gi_X3, tyX3_ok, nmX3, rfl, rfl, Or.inr ⟨"WavePlan", ab_n_in (i := 196) (by decide +kernel) rfl⟩⟩
theorem fl_RX9_128 : ab_FL RX9 128 3 3 (tyX3 3) true := ⟨RX3, TX3, 11, tyX3, rfl, by decide, gi_X3, tyX3_ok, nmX3, rfl, rfl, Or.inr ⟨"WavePlan", ab_n_in (i := 198) (by decide +kernel) rfl⟩⟩
theorem fl_RX9_132 : ab_FL RX9 132 7 3 (tyX7 3) false := ⟨RX7, TX7, 4, tyX7, rfl, by decide, gi_X7, tyX7_ok, nmX7, rfl, rfl, Or.inr ⟨"WavePlan", ab_n_in (i := 108) (by decide +kernel) rfl⟩⟩
theorem fl_RX9_144 : ab_FL RX9 144 3 9 (tyX3 9) false := ⟨RX3, TX3, 11, tyX3, rfl, by decide, gi_X3, tyX3_ok, nmX3, rfl, rfl, Or.inr ⟨"WavePlan", ab_n_in (i := 213) (by decide +kernel) rfl⟩⟩
theorem fl_RX9_147 : ab_FL RX9 147 3 10 (tyX3 10) false := ⟨RX3, TX3, 11, tyX3, rfl, by decide, gi_X3, tyX3_ok, nmX3, rfl, rfl, Or.inr ⟨"WavePlan", ab_n_in (i := 215) (by decide +kernel) rfl⟩⟩
theorem fl_RX9_150 : ab_FL RX9 150 3 4 (tyX3 4) true := ⟨RX3, TX3, 11, tyX3, rfl, by decide, gi_X3, tyX3_ok, nmX3, rfl, rfl, Or.inr ⟨"WavePlan", ab_n_in (i := 200) (by decide +kernel) rfl⟩⟩
theorem fl_RX9_173 : ab_FL RX9 173 3 1 (tyX3 1) true := ⟨RX3, TX3, 11, tyX3, rfl, by decide, gi_X3, tyX3_ok, nmX3, rfl, rfl, Or.inr ⟨"WavePlan", ab_n_in (i := 193) (by decide +kernel) rfl⟩⟩
theorem fl_RX9_195 : ab_FL RX9 195 8 5 (tyX8 5) false := ⟨RX8, TX8, 6, tyX8, rfl, by decide, gi_X8, tyX8_ok, nmX8, rfl, rfl, Or.inr ⟨"WavePlan", ab_n_in (i := 264) (by decide +kernel) rfl⟩⟩
theorem fl_RX9_308 : ab_FL RX9 308 6 3 (tyX6 3) false := ⟨RX6, TX6, 5, tyX6, rfl, by decide, gi_X6, tyX6_ok, nmX6, rfl, rfl, Or.inr ⟨"WavePlan", ab_n_in (i := 327) (by decide +kernel) rfl⟩⟩
theorem fl_RX9_322 : ab_FL RX9 322 6 0 (tyX6 0) true := ⟨RX6, TX6, 5, tyX6, rfl, by decide, gi_X6, tyX6_ok, nmX6, rfl, rfl, Or.inr ⟨"WavePlan", ab_n_in (i := 323) (by decide +kernel) rfl⟩⟩
theorem fl_RX0_9 : ab_FL RX0 9 0 1 (tyX0 1) true := ⟨RX0, TX0, 5, tyX0, rfl, by decide, gi_X0, tyX0_ok, nmX0, rfl, rfl, Or.inl (ab_G_in (i := 298) (by decide +kernel) (by decide +kernel))⟩
theorem fl_RX0_15 : ab_FL RX0 15 0 2 (tyX0 2) true := ⟨RX0, TX0, 5, tyX0, rfl, by decide, gi_X0, tyX0_ok, nmX0, rfl, rfl, Or.inl (ab_G_in (i := 299) (by decide +kernel) (by decide +kernel))⟩
theorem fl_RX0_18 : ab_FL RX0 18 0 0 (tyX0 0) true := ⟨RX0, TX0, 5, tyX0, rfl, by decide, gi_X0, tyX0_ok, nmX0, rfl, rfl, Or.inl (ab_G_in (i := 297) (by decide +kernel) (by decide +kernel))⟩
theorem fl_RX0_22 : ab_FL RX0 22 3 7 (tyX3 7) false := ⟨RX3, TX3, 11, tyX3, rfl, by decide, gi_X3, tyX3_ok, nmX3, rfl, rfl, Or.inr ⟨"WavePlan", ab_n_in (i := 204) (by decide +kernel) rfl⟩⟩
theorem fl_RX0_36 : ab_FL RX0 36 3 0 (tyX3 0) true := ⟨RX3, TX3, 11, tyX3, rfl, by decide, gi_X3, tyX3_ok, nmX3, rfl, rfl, Or.inr ⟨"WavePlan", ab_n_in (i := 189) (by decide +kernel) rfl⟩⟩
theorem fl_RX0_40 : ab_FL RX0 40 4 5 (tyX4 5) false := ⟨RX4, TX4, 9, tyX4, rfl, by decide, gi_X4, tyX4_ok, nmX4, rfl, rfl, Or.inr ⟨"WavePlan", ab_n_in (i := 157) (by decide +kernel) rfl⟩⟩
theorem fl_RX0_52 : ab_FL RX0 52 0 3 (tyX0 3) false := ⟨RX0, TX0, 5, tyX0, rfl, by decide, gi_X0, tyX0_ok, nmX0, rfl, rfl, Or.inl (ab_G_in (i := 300) (by decide +kernel) (by decide +kernel))⟩
theorem fl_RX0_55 : ab_FL RX0 55 0 4 (tyX0 4) false := ⟨RX0, TX0, 5, tyX0, rfl, by decide, gi_X0, tyX0_ok, nmX0, rfl, rfl, Or.inl (ab_G_in (i := 301) (by decide +kernel) (by decide +kernel))⟩
theorem fl_RX1_9 : ab_FL RX1 9 1 0 (tyX1 0) false := ⟨RX1, TX1, 4, tyX1, rfl, by decide, gi_X1, tyX1_ok, nmX1, rfl, rfl, Or.inl (ab_G_in (i := 125) (by decide +kernel) (by decide +kernel))⟩
theorem fl_RX1_15 : ab_FL RX1 15 1 1 (tyX1 1) false := ⟨RX1, TX1, 4, tyX1, rfl, by decide, gi_X1, tyX1_ok, nmX1, rfl, rfl, Or.inl (ab_G_in (i := 126) (by decide +kernel) (by decide +kernel))⟩
theorem fl_RX1_18 : ab_FL RX1 18 1 2 (tyX1 2) false := ⟨RX1, TX1, 4, tyX1, rfl, by decide, gi_X1, tyX1_ok, nmX1, rfl, rfl, Or.inl (ab_G_in (i := 127) (by decide +kernel) (by decide +kernel))⟩
theorem fl_RX1_21 : ab_FL RX1 21 1 3 (tyX1 3) false := ⟨RX1, TX1, 4, tyX1, rfl, by decide, gi_X1, tyX1_ok, nmX1, rfl, rfl, Or.inl (ab_G_in (i := 128) (by decide +kernel) (by decide +kernel))⟩
theorem fl_RX1_24 : ab_FL RX1 24 4 1 (tyX4 1) false := ⟨RX4, TX4, 9, tyX4, rfl, by decide, gi_X4, tyX4_ok, nmX4, rfl, rfl, Or.inr ⟨"WavePlan", ab_n_in (i := 146) (by decide +kernel) rfl⟩⟩
theorem fl_RX1_29 : ab_FL RX1 29 4 2 (tyX4 2) false := ⟨RX4, TX4, 9, tyX4, rfl, by decide, gi_X4, tyX4_ok, nmX4, rfl, rfl, Or.inr ⟨"WavePlan", ab_n_in (i := 150) (by decide +kernel) rfl⟩⟩
theorem fl_RX2_9 : ab_FL RX2 9 2 1 (tyX2 1) true := ⟨RX2, TX2, 2, tyX2, rfl, by decide, gi_X2, tyX2_ok, nmX2, rfl, rfl, Or.inl (ab_G_in (i := 246) (by decide +kernel) (by decide +kernel))⟩
theorem fl_RX2_15 : ab_FL RX2 15 2 0 (tyX2 0) true := ⟨RX2, TX2, 2, tyX2, rfl, by decide, gi_X2, tyX2_ok, nmX2, rfl, rfl, Or.inl (ab_G_in (i := 245) (by decide +kernel) (by decide +kernel))⟩
theorem fl_RX2_19 : ab_FL RX2 19 3 8 (tyX3 8) false := ⟨RX3, TX3, 11, tyX3, rfl, by decide, gi_X3, tyX3_ok, nmX3, rfl, rfl, Or.inr ⟨"WavePlan", ab_n_in (i := 208) (by decide +kernel) rfl⟩⟩
theorem fl_RX2_72 : ab_FL RX2 72 3 1 (tyX3 1) true := ⟨RX3, TX3, 11, tyX3, rfl, by decide, gi_X3, tyX3_ok, nmX3, rfl, rfl, Or.inr ⟨"WavePlan", ab_n_in (i := 192) (by decide +kernel) rfl⟩⟩
theorem fl_RX3_11 : ab_FL RX3 11 3 0 (tyX3 0) true := ⟨RX3, TX3, 11, tyX3, rfl, by decide, gi_X3, tyX3_ok, nmX3, rfl, rfl, Or.inl (ab_G_in (i := 187) (by decide +kernel) (by decide +kernel))⟩
theorem fl_RX3_17 : ab_FL RX3 17 3 1 (tyX3 1) true := ⟨RX3, TX3, 11, tyX3, rfl, by decide, gi_X3, tyX3_ok, nmX3, rfl, rfl, Or.inl (ab_G_in (i := 190) (by decide +kernel) (by decide +kernel))⟩
theorem fl_RX3_21 : ab_FL RX3 21 3 2 (tyX3 2) true := ⟨RX3, TX3, 11, tyX3, rfl, by decide, gi_X3, tyX3_ok, nmX3, rfl, rfl, Or.inl (ab_G_in (i := 194) (by decide +kernel) (by decide +kernel))⟩
theorem fl_RX3_27 : ab_FL RX3 27 3 3 (tyX3 3) true := ⟨RX3, TX3, 11, tyX3, rfl, by decide, gi_X3, tyX3_ok, nmX3, rfl, rfl, Or.inl (ab_G_in (i := 197) (by decide +kernel) (by decide +kernel))⟩
theorem fl_RX3_34 : ab_FL RX3 34 3 4 (tyX3 4) true := ⟨RX3, TX3, 11, tyX3, rfl, by decide, gi_X3, tyX3_ok, nmX3, rfl, rfl, Or.inl (ab_G_in (i := 199) (by decide +kernel) (by decide +kernel))⟩
theorem fl_RX3_38 : ab_FL RX3 38 3 5 (tyX3 5) true := ⟨RX3, TX3, 11, tyX3, rfl, by decide, gi_X3, tyX3_ok, nmX3, rfl, rfl, Or.inl (ab_G_in (i := 201) (by decide +kernel) (by decide +kernel))⟩
theorem fl_RX3_41 : ab_FL RX3 41 3 6 (tyX3 6) true := ⟨RX3, TX3, 11, tyX3, rfl, by decide, gi_X3, tyX3_ok, nmX3, rfl, rfl, Or.inl (ab_G_in (i := 202) (by decide +kernel) (by decide +kernel))⟩
theorem fl_RX3_44 : ab_FL RX3 44 3 9 (tyX3 9) false := ⟨RX3, TX3, 11, tyX3, rfl, by decide, gi_X3, tyX3_ok, nmX3, rfl, rfl, Or.inl (ab_G_in (i := 212) (by decide +kernel) (by decide +kernel))⟩
theorem fl_RX3_48 : ab_FL RX3 48 3 10 (tyX3 10) false := ⟨RX3, TX3, 11, tyX3, rfl, by decide, gi_X3, tyX3_ok, nmX3, rfl, rfl, Or.inl (ab_G_in (i := 214) (by decide +kernel) (by decide +kernel))⟩
theorem fl_RX3_58 : ab_FL RX3 58 3 7 (tyX3 7) false := ⟨RX3, TX3, 11, tyX3, rfl, by decide, gi_X3, tyX3_ok, nmX3, rfl, rfl, Or.inl (ab_G_in (i := 203) (by decide +kernel) (by decide +kernel))⟩
theorem fl_RX3_61 : ab_FL RX3 61 3 8 (tyX3 8) false := ⟨RX3, TX3, 11, tyX3, rfl, by decide, gi_X3, tyX3_ok, nmX3, rfl, rfl, Or.inl (ab_G_in (i := 210) (by decide +kernel) (by decide +kernel))⟩
theorem fl_RX3_85 : ab_FL RX3 85 4 4 (tyX4 4) false := ⟨RX4, TX4, 9, tyX4, rfl, by decide, gi_X4, tyX4_ok, nmX4, rfl, rfl, Or.inr ⟨"WavePlan", ab_n_in (i := 155) (by decide +kernel) rfl⟩⟩
theorem fl_RX3_91 : ab_FL RX3 91 4 2 (tyX4 2) false := ⟨RX4, TX4, 9, tyX4, rfl, by decide, gi_X4, tyX4_ok, nmX4, rfl, rfl, Or.inr ⟨"WavePlan", ab_n_in (i := 151) (by decide +kernel) rfl⟩⟩
theorem fl_RX3_94 : ab_FL RX3 94 4 3 (tyX4 3) false := ⟨RX4, TX4, 9, tyX4, rfl, by decide, gi_X4, tyX4_ok, nmX4, rfl, rfl, Or.inr ⟨"WavePlan", ab_n_in (i := 153) (by decide +kernel) rfl⟩⟩
theorem fl_RX3_97 : ab_FL RX3 97 4 1 (tyX4 1) false := ⟨RX4, TX4, 9, tyX4, rfl, by decide, gi_X4, tyX4_ok, nmX4, rfl, rfl, Or.inr ⟨"WavePlan", ab_n_in (i := 148) (by decide +kernel) rfl⟩⟩
theorem fl_RX3_100 : ab_FL RX3 100 4 8 (tyX4 8) false := ⟨RX4, TX4, 9, tyX4, rfl, by decide, gi_X4, tyX4_ok, nmX4, rfl, rfl, Or.inr ⟨"WavePlan", ab_n_in (i := 164) (by decide +kernel) rfl⟩⟩
theorem fl_RX3_103 : ab_FL RX3 103 4 7 (tyX4 7) false := ⟨RX4, TX4, 9, tyX4, rfl, by decide, gi_X4, tyX4_ok, nmX4, rfl, rfl, Or.inr ⟨"WavePlan", ab_n_in (i := 161) (by decide +kernel) rfl⟩⟩
theorem fl_RX4_9 : ab_FL RX4 9 4 0 (tyX4 0) false := ⟨RX4, TX4, 9, tyX4, rfl, by decide, gi_X4, tyX4_ok, nmX4, rfl, rfl, Or.inl (ab_G_in (i := 143) (by decide +kernel) (by decide +kernel))⟩
theorem fl_RX4_15 : ab_FL RX4 15 4 1 (tyX4 1) false := ⟨RX4, TX4, 9, tyX4, rfl, by decide, gi_X4, tyX4_ok, nmX4, rfl, rfl, Or.inl (ab_G_in (i := 145) (by decide +kernel) (by decide +kernel))⟩
theorem fl_RX4_22 : ab_FL RX4 22 4 4 (tyX4 4) false := ⟨RX4, TX4, 9, tyX4, rfl, by decide, gi_X4, tyX4_ok, nmX4, rfl, rfl, Or.inl (ab_G_in (i := 154) (by decide +kernel) (by decide +kernel))⟩
theorem fl_RX4_25 : ab_FL RX4 25 4 5 (tyX4 5) false := ⟨RX4, TX4, 9, tyX4, rfl, by decide, gi_X4, tyX4_ok, nmX4, rfl, rfl, Or.inl (ab_G_in (i := 156) (by decide +kernel) (by decide +kernel))⟩
theorem fl_RX4_28 : ab_FL RX4 28 4 6 (tyX4 6) false := ⟨RX4, TX4, 9, tyX4, rfl, by decide, gi_X4, tyX4_ok, nmX4, rfl, rfl, Or.inl (ab_G_in (i := 158) (by decide +kernel) (by decide +kernel))⟩
theorem fl_RX4_32 : ab_FL RX4 32 4 7 (tyX4 7) false := ⟨RX4, TX4, 9, tyX4, rfl, by decide, gi_X4, tyX4_ok, nmX4, rfl, rfl, Or.inl (ab_G_in (i := 159) (by decide +kernel) (by decide +kernel))⟩
theorem fl_RX4_35 : ab_FL RX4 35 4 8 (tyX4 8) false := ⟨RX4, TX4, 9, tyX4, rfl, by decide, gi_X4, tyX4_ok, nmX4, rfl, rfl, Or.inl (ab_G_in (i := 162) (by decide +kernel) (by decide +kernel))⟩
theorem fl_RX4_38 : ab_FL RX4 38 4 2 (tyX4 2) false := ⟨RX4, TX4, 9, tyX4, rfl, by decide, gi_X4, tyX4_ok, nmX4, rfl, rfl, Or.inl (ab_G_in (i := 149) (by decide +kernel) (by decide +kernel))⟩
theorem fl_RX4_41 : ab_FL RX4 41 4 3 (tyX4 3) false := ⟨RX4, TX4, 9, tyX4, rfl, by decide, gi_X4, tyX4_ok, nmX4, rfl, rfl, Or.inl (ab_G_in (i := 152) (by decide +kernel) (by decide +kernel))⟩
theorem fl_RX5_9 : ab_FL RX5 9 5 0 (tyX5 0) true := ⟨RX5, TX5, 2, tyX5, rfl, by decide, gi_X5, tyX5_ok, nmX5, rfl, rfl, Or.inl (ab_G_in (i := 284) (by decide +kernel) (by decide +kernel))⟩
theorem fl_RX5_15 : ab_FL RX5 15 5 1 (tyX5 1) true := ⟨RX5, TX5, 2, tyX5, rfl, by decide, gi_X5, tyX5_ok, nmX5, rfl, rfl, Or.inl (ab_G_in (i := 285) (by decide +kernel) (by decide +kernel))⟩
theorem fl_RX5_19 : ab_FL RX5 19 3 2 (tyX3 2) true := ⟨RX3, TX3, 11, tyX3, rfl, by decide, gi_X3, tyX3_ok, nmX3, rfl, rfl, Or.inr ⟨"WavePlan", ab_n_in (i := 195) (by decide +kernel) rfl⟩⟩
theorem fl_RX5_25 : ab_FL RX5 25 3 8 (tyX3 8) false := ⟨RX3, TX3, 11, tyX3, rfl, by decide, gi_X3, tyX3_ok, nmX3, rfl, rfl, Or.inr ⟨"WavePlan", ab_n_in (i := 211) (by decide +kernel) rfl⟩⟩
theorem fl_RX6_12 : ab_FL RX6 12 6 0 (tyX6 0) true := ⟨RX6, TX6, 5, tyX6, rfl, by decide, gi_X6, tyX6_ok, nmX6, rfl, rfl, Or.inl (ab_G_in (i := 322) (by decide +kernel) (by decide +kernel))⟩
theorem fl_RX6_18 : ab_FL RX6 18 6 1 (tyX6 1) true := ⟨RX6, TX6, 5, tyX6, rfl, by decide, gi_X6, tyX6_ok, nmX6, rfl, rfl, Or.inl (ab_G_in (i := 324) (by decide +kernel) (by decide +kernel))⟩
theorem fl_RX6_22 : ab_FL RX6 22 6 2 (tyX6 2) true := ⟨RX6, TX6, 5, tyX6, rfl, by decide, gi_X6, tyX6_ok, nmX6, rfl, rfl, Or.inl (ab_G_in (i := 325) (by decide +kernel) (by decide +kernel))⟩
theorem fl_RX6_26 : ab_FL RX6 26 6 3 (tyX6 3) false := ⟨RX6, TX6, 5, tyX6, rfl, by decide, gi_X6, tyX6_ok, nmX6, rfl, rfl, Or.inl (ab_G_in (i := 326) (by decide +kernel) (by decide +kernel))⟩
theorem fl_RX6_30 : ab_FL RX6 30 6 4 (tyX6 4) false := ⟨RX6, TX6, 5, tyX6, rfl, by decide, gi_X6, tyX6_ok, nmX6, rfl, rfl, Or.inl (ab_G_in (i := 328) (by decide +kernel) (by decide +kernel))⟩
theorem fl_RX6_37 : ab_FL RX6 37 3 7 (tyX3 7) false := ⟨RX3, TX3, 11, tyX3, rfl, by decide, gi_X3, tyX3_ok, nmX3, rfl, rfl, Or.inr ⟨"WavePlan", ab_n_in (i := 206) (by decide +kernel) rfl⟩⟩
theorem fl_RX7_9 : ab_FL RX7 9 7 0 (tyX7 0) true := ⟨RX7, TX7, 4, tyX7, rfl, by decide, gi_X7, tyX7_ok, nmX7, rfl, rfl, Or.inl (ab_G_in (i := 104) (by decide +kernel) (by decide +kernel))⟩
theorem fl_RX7_15 : ab_FL RX7 15 7 1 (tyX7 1) true := ⟨RX7, TX7, 4, tyX7, rfl, by decide, gi_X7, tyX7_ok, nmX7, rfl, rfl, Or.inl (ab_G_in (i := 105) (by decide +kernel) (by decide +kernel))⟩
theorem fl_RX7_18 : ab_FL RX7 18 7 2 (tyX7 2) true := ⟨RX7, TX7, 4, tyX7, rfl, by decide, gi_X7, tyX7_ok, nmX7, rfl, rfl, Or.inl (ab_G_in (i := 106) (by decide +kernel) (by decide +kernel))⟩
theorem fl_RX7_21 : ab_FL RX7 21 7 3 (tyX7 3) false := ⟨RX7, TX7, 4, tyX7, rfl, by decide, gi_X7, tyX7_ok, nmX7, rfl, rfl, Or.inl (ab_G_in (i := 107) (by decide +kernel) (by decide +kernel))⟩
theorem fl_RX8_9 : ab_FL RX8 9 8 2 (tyX8 2) true := ⟨RX8, TX8, 6, tyX8, rfl, by decide, gi_X8, tyX8_ok, nmX8, rfl, rfl, Or.inl (ab_G_in (i := 260) (by decide +kernel) (by decide +kernel))⟩
theorem fl_RX8_15 : ab_FL RX8 15 8 3 (tyX8 3) true := ⟨RX8, TX8, 6, tyX8, rfl, by decide, gi_X8, tyX8_ok, nmX8, rfl, rfl, Or.inl (ab_G_in (i := 261) (by decide +kernel) (by decide +kernel))⟩
theorem fl_RX8_18 : ab_FL RX8 18 8 4 (tyX8 4) true := ⟨RX8, TX8, 6, tyX8, rfl, by decide, gi_X8, tyX8_ok, nmX8, rfl, rfl, Or.inl (ab_G_in (i := 262) (by decide +kernel) (by decide +kernel))⟩
theorem fl_RX8_21 : ab_FL RX8 21 8 0 (tyX8 0) true := ⟨RX8, TX8, 6, tyX8, rfl, by decide, gi_X8, tyX8_ok, nmX8, rfl, rfl, Or.inl (ab_G_in (i := 258) (by decide +kernel) (by decide +kernel))⟩
theorem fl_RX8_25 : ab_FL RX8 25 8 1 (tyX8 1) true := ⟨RX8, TX8, 6, tyX8, rfl, by decide, gi_X8, tyX8_ok, nmX8, rfl, rfl, Or.inl (ab_G_in (i := 259) (by decide +kernel) (by decide +kernel))⟩
theorem fl_RX8_29 : ab_FL RX8 29 3 8 (tyX3 8) false := ⟨RX3, TX3, 11, tyX3, rfl, by decide, gi_X3, tyX3_ok, nmX3, rfl, rfl, Or.inr ⟨"WavePlan", ab_n_in (i := 207) (by decide +kernel) rfl⟩⟩
theorem fl_RX8_39 : ab_FL RX8 39 8 5 (tyX8 5) false := ⟨RX8, TX8, 6, tyX8, rfl, by decide, gi_X8, tyX8_ok, nmX8, rfl, rfl, Or.inl (ab_G_in (i := 263) (by decide +kernel) (by decide +kernel))⟩
theorem fl_RX8_65 : ab_FL RX8 65 3 1 (tyX3 1) true := ⟨RX3, TX3, 11, tyX3, rfl, by decide, gi_X3, tyX3_ok, nmX3, rfl, rfl, Or.inr ⟨"WavePlan", ab_n_in (i := 191) (by decide +kernel) rfl⟩⟩
theorem fl_RX10_7 : ab_FL RX10 7 10 2 (tyX10 2) true := ⟨RX10, TX10, 39, tyX10, rfl, by decide, gi_X10, tyX10_ok, nmX10, rfl, rfl, Or.inl (ab_G_in (i := 1033) (by decide +kernel) (by decide +kernel))⟩
theorem fl_RX10_13 : ab_FL RX10 13 10 3 (tyX10 3) true := ⟨RX10, TX10, 39, tyX10, rfl, by decide, gi_X10, tyX10_ok, nmX10, rfl, rfl, Or.inl (ab_G_in (i := 1034) (by decide +kernel) (by decide +kernel))⟩
theorem fl_RX10_16 : ab_FL RX10 16 10 4 (tyX10 4) true := ⟨RX10, TX10, 39, tyX10, rfl, by decide, gi_X10, tyX10_ok, nmX10, rfl, rfl, Or.inl (ab_G_in (i := 1035) (by decide +kernel) (by decide +kernel))⟩
theorem fl_RX10_19 : ab_FL RX10 19 10 5 (tyX10 5) true := ⟨RX10, TX10, 39, tyX10, rfl, by decide, gi_X10, tyX10_ok, nmX10, rfl, rfl, Or.inl (ab_G_in (i := 1036) (by decide +kernel) (by decide +kernel))⟩
theorem fl_RX10_22 : ab_FL RX10 22 10 6 (tyX10 6) true := ⟨RX10, TX10, 39, tyX10, rfl, by decide, gi_X10, tyX10_ok, nmX10, rfl, rfl, Or.inl (ab_G_in (i := 1037) (by decide +kernel) (by decide +kernel))⟩
theorem fl_RX10_25 : ab_FL RX10 25 10 7 (tyX10 7) true := ⟨RX10, TX10, 39, tyX10, rfl, by decide, gi_X10, tyX10_ok, nmX10, rfl, rfl, Or.inl (ab_G_in (i := 1038) (by decide +kernel) (by decide +kernel))⟩
theorem fl_RX10_28 : ab_FL RX10 28 10 8 (tyX10 8) true := ⟨RX10, TX10, 39, tyX10, rfl, by decide, gi_X10, tyX10_ok, nmX10, rfl, rfl, Or.inl (ab_G_in (i := 1039) (by decide +kernel) (by decide +kernel))⟩
theorem fl_RX10_31 : ab_FL RX10 31 10 9 (tyX10 9) true := ⟨RX10, TX10, 39, tyX10, rfl, by decide, gi_X10, tyX10_ok, nmX10, rfl, rfl, Or.inl (ab_G_in (i := 1040) (by decide +kernel) (by decide +kernel))⟩
theorem fl_RX10_34 : ab_FL RX10 34 10 11 (tyX10 11) true := ⟨RX10, TX10, 39, tyX10, rfl, by decide, gi_X10, tyX10_ok, nmX10, rfl, rfl, Or.inl (ab_G_in (i := 1042) (by decide +kernel) (by decide +kernel))⟩
theorem fl_RX10_37 : ab_FL RX10 37 10 12 (tyX10 12) true := ⟨RX10, TX10, 39, tyX10, rfl, by decide, gi_X10, tyX10_ok, nmX10, rfl, rfl, Or.inl (ab_G_in (i := 1043) (by decide +kernel) (by decide +kernel))⟩
theorem fl_RX10_40 : ab_FL RX10 40 10 13 (tyX10 13) true := ⟨RX10, TX10, 39, tyX10, rfl, by decide, gi_X10, tyX10_ok, nmX10, rfl, rfl, Or.inl (ab_G_in (i := 1044) (by decide +kernel) (by decide +kernel))⟩
theorem fl_RX10_43 : ab_FL RX10 43 10 15 (tyX10 15) true := ⟨RX10, TX10, 39, tyX10, rfl, by decide, gi_X10, tyX10_ok, nmX10, rfl, rfl, Or.inl (ab_G_in (i := 1046) (by decide +kernel) (by decide +kernel))⟩
theorem fl_RX10_46 : ab_FL RX10 46 10 16 (tyX10 16) true := ⟨RX10, TX10, 39, tyX10, rfl, by decide, gi_X10, tyX10_ok, nmX10, rfl, rfl, Or.inl (ab_G_in (i := 1047) (by decide +kernel) (by decide +kernel))⟩
theorem fl_RX10_49 : ab_FL RX10 49 10 17 (tyX10 17) true := ⟨RX10, TX10, 39, tyX10, rfl, by decide, gi_X10, tyX10_ok, nmX10, rfl, rfl, Or.inl (ab_G_in (i := 1048) (by decide +kernel) (by decide +kernel))⟩
theorem fl_RX10_52 : ab_FL RX10 52 10 18 (tyX10 18) false := ⟨RX10, TX10, 39, tyX10, rfl, by decide, gi_X10, tyX10_ok, nmX10, rfl, rfl, Or.inl (ab_G_in (i := 1049) (by decide +kernel) (by decide +kernel))⟩
theorem fl_RX10_56 : ab_FL RX10 56 10 19 (tyX10 19) false := ⟨RX10, TX10, 39, tyX10, rfl, by decide, gi_X10, tyX10_ok, nmX10, rfl, rfl, Or.inl (ab_G_in (i := 1050) (by decide +kernel) (by decide +kernel))⟩
theorem fl_RX10_59 : ab_FL RX10 59 10 20 (tyX10 20) false := ⟨RX10, TX10, 39, tyX10, rfl, by decide, gi_X10, tyX10_ok, nmX10, rfl, rfl, Or.inl (ab_G_in (i := 1051) (by decide +kernel) (by decide +kernel))⟩
theorem fl_RX10_62 : ab_FL RX10 62 10 24 (tyX10 24) true := ⟨RX10, TX10, 39, tyX10, rfl, by decide, gi_X10, tyX10_ok, nmX10, rfl, rfl, Or.inl (ab_G_in (i := 1055) (by decide +kernel) (by decide +kernel))⟩
theorem fl_RX10_65 : ab_FL RX10 65 10 27 (tyX10 27) true := ⟨RX10, TX10, 39, tyX10, rfl, by decide, gi_X10, tyX10_ok, nmX10, rfl, rfl, Or.inl (ab_G_in (i := 1058) (by decide +kernel) (by decide +kernel))⟩
theorem fl_RX10_68 : ab_FL RX10 68 10 28 (tyX10 28) true := ⟨RX10, TX10, 39, tyX10, rfl, by decide, gi_X10, tyX10_ok, nmX10, rfl, rfl, Or.inl (ab_G_in (i := 1059) (by decide +kernel) (by decide +kernel))⟩
theorem fl_RX10_71 : ab_FL RX10 71 10 29 (tyX10 29) true := ⟨RX10, TX10, 39, tyX10, rfl, by decide, gi_X10, tyX10_ok, nmX10, rfl, rfl, Or.inl (ab_G_in (i := 1060) (by decide +kernel) (by decide +kernel))⟩
theorem fl_RX10_74 : ab_FL RX10 74 10 30 (tyX10 30) true := ⟨RX10, TX10, 39, tyX10, rfl, by decide, gi_X10, tyX10_ok, nmX10, rfl, rfl, Or.inl (ab_G_in (i := 1061) (by decide +kernel) (by decide +kernel))⟩
theorem fl_RX10_77 : ab_FL RX10 77 10 31 (tyX10 31) false := ⟨RX10, TX10, 39, tyX10, rfl, by decide, gi_X10, tyX10_ok, nmX10, rfl, rfl, Or.inl (ab_G_in (i := 1062) (by decide +kernel) (by decide +kernel))⟩
theorem fl_RX10_80 : ab_FL RX10 80 10 32 (tyX10 32) true := ⟨RX10, TX10, 39, tyX10, rfl, by decide, gi_X10, tyX10_ok, nmX10, rfl, rfl, Or.inl (ab_G_in (i := 1063) (by decide +kernel) (by decide +kernel))⟩
theorem fl_RX10_83 : ab_FL RX10 83 10 33 (tyX10 33) true := ⟨RX10, TX10, 39, tyX10, rfl, by decide, gi_X10, tyX10_ok, nmX10, rfl, rfl, Or.inl (ab_G_in (i := 1064) (by decide +kernel) (by decide +kernel))⟩
theorem fl_RX10_86 : ab_FL RX10 86 10 34 (tyX10 34) true := ⟨RX10, TX10, 39, tyX10, rfl, by decide, gi_X10, tyX10_ok, nmX10, rfl, rfl, Or.inl (ab_G_in (i := 1065) (by decide +kernel) (by decide +kernel))⟩
theorem fl_RX10_89 : ab_FL RX10 89 10 35 (tyX10 35) true := ⟨RX10, TX10, 39, tyX10, rfl, by decide, gi_X10, tyX10_ok, nmX10, rfl, rfl, Or.inl (ab_G_in (i := 1066) (by decide +kernel) (by decide +kernel))⟩
theorem fl_RX10_92 : ab_FL RX10 92 10 36 (tyX10 36) true := ⟨RX10, TX10, 39, tyX10, rfl, by decide, gi_X10, tyX10_ok, nmX10, rfl, rfl, Or.inl (ab_G_in (i := 1067) (by decide +kernel) (by decide +kernel))⟩
theorem fl_RX10_95 : ab_FL RX10 95 10 37 (tyX10 37) true := ⟨RX10, TX10, 39, tyX10, rfl, by decide, gi_X10, tyX10_ok, nmX10, rfl, rfl, Or.inl (ab_G_in (i := 1068) (by decide +kernel) (by decide +kernel))⟩
theorem fl_RX10_99 : ab_FL RX10 99 10 38 (tyX10 38) true := ⟨RX10, TX10, 39, tyX10, rfl, by decide, gi_X10, tyX10_ok, nmX10, rfl, rfl, Or.inl (ab_G_in (i := 1069) (by decide +kernel) (by decide +kernel))⟩
theorem fl_RX10_102 : ab_FL RX10 102 10 0 (tyX10 0) false := ⟨RX10, TX10, 39, tyX10, rfl, by decide, gi_X10, tyX10_ok, nmX10, rfl, rfl, Or.inl (ab_G_in (i := 1031) (by decide +kernel) (by decide +kernel))⟩
theorem fl_RX10_105 : ab_FL RX10 105 10 1 (tyX10 1) false := ⟨RX10, TX10, 39, tyX10, rfl, by decide, gi_X10, tyX10_ok, nmX10, rfl, rfl, Or.inl (ab_G_in (i := 1032) (by decide +kernel) (by decide +kernel))⟩
theorem fl_RX10_108 : ab_FL RX10 108 10 10 (tyX10 10) false := ⟨RX10, TX10, 39, tyX10, rfl, by decide, gi_X10, tyX10_ok, nmX10, rfl, rfl, Or.inl (ab_G_in (i := 1041) (by decide +kernel) (by decide +kernel))⟩
theorem fl_RX10_125 : ab_FL RX10 125 10 14 (tyX10 14) false := ⟨RX10, TX10, 39, tyX10, rfl, by decide, gi_X10, tyX10_ok, nmX10, rfl, rfl, Or.inl (ab_G_in (i := 1045) (by decide +kernel) (by decide +kernel))⟩
theorem fl_RX10_160 : ab_FL RX10 160 10 21 (tyX10 21) false := ⟨RX10, TX10, 39, tyX10, rfl, by decide, gi_X10, tyX10_ok, nmX10, rfl, rfl, Or.inl (ab_G_in (i := 1052) (by decide +kernel) (by decide +kernel))⟩
theorem fl_RX10_163 : ab_FL RX10 163 10 22 (tyX10 22) false := ⟨RX10, TX10, 39, tyX10, rfl, by decide, gi_X10, tyX10_ok, nmX10, rfl, rfl, Or.inl (ab_G_in (i := 1053) (by decide +kernel) (by decide +kernel))⟩
theorem fl_RX10_166 : ab_FL RX10 166 10 23 (tyX10 23) false := ⟨RX10, TX10, 39, tyX10, rfl, by decide, gi_X10, tyX10_ok, nmX10, rfl, rfl, Or.inl (ab_G_in (i := 1054) (by decide +kernel) (by decide +kernel))⟩
theorem fl_RX10_208 : ab_FL RX10 208 10 26 (tyX10 26) false := ⟨RX10, TX10, 39, tyX10, rfl, by decide, gi_X10, tyX10_ok, nmX10, rfl, rfl, Or.inl (ab_G_in (i := 1057) (by decide +kernel) (by decide +kernel))⟩
theorem fl_RX10_212 : ab_FL RX10 212 10 25 (tyX10 25) false := ⟨RX10, TX10, 39, tyX10, rfl, by decide, gi_X10, tyX10_ok, nmX10, rfl, rfl, Or.inl (ab_G_in (i := 1056) (by decide +kernel) (by decide +kernel))⟩
theorem ml_RX9_72 : Cond.methodLink RX9 72 yX9_within ∈ ab_G := (ab_G_in (i := 376) (by decide +kernel) (by decide +kernel))
theorem ml_RX9_76 : Cond.methodLink RX9 76 yX9_isPlace ∈ ab_G := (ab_G_in (i := 379) (by decide +kernel) (by decide +kernel))
theorem ml_RX9_86 : Cond.methodLink RX9 86 yX3_addMast ∈ ab_G := (ab_G_in (i := 382) (by decide +kernel) (by decide +kernel))
theorem ml_RX9_90 : Cond.methodLink RX9 90 yX3_hasMast ∈ ab_G := (ab_G_in (i := 418) (by decide +kernel) (by decide +kernel))
theorem ml_RX9_93 : Cond.methodLink RX9 93 yX3_shift ∈ ab_G := (ab_G_in (i := 422) (by decide +kernel) (by decide +kernel))
theorem ml_RX9_107 : Cond.methodLink RX9 107 yJ6_bitCount_0f7a4 ∈ ab_G := (ab_G_in (i := 436) (by decide +kernel) (by decide +kernel))
theorem ml_RX9_119 : Cond.methodLink RX9 119 yX3_hasWant ∈ ab_G := (ab_G_in (i := 450) (by decide +kernel) (by decide +kernel))
theorem ml_RX9_122 : Cond.methodLink RX9 122 yX3_kindOfWant ∈ ab_G := (ab_G_in (i := 454) (by decide +kernel) (by decide +kernel))
theorem ml_RX9_137 : Cond.methodLink RX9 137 yX7_add ∈ ab_G := (ab_G_in (i := 462) (by decide +kernel) (by decide +kernel))
theorem ml_RX9_141 : Cond.methodLink RX9 141 yX3_measure ∈ ab_G := (ab_G_in (i := 466) (by decide +kernel) (by decide +kernel))
theorem ml_RX9_154 : Cond.methodLink RX9 154 yX1_tell ∈ ab_G := (ab_G_in (i := 475) (by decide +kernel) (by decide +kernel))
theorem ml_RX9_160 : Cond.methodLink RX9 160 yX2_strayBits ∈ ab_G := (ab_G_in (i := 483) (by decide +kernel) (by decide +kernel))
theorem ml_RX9_164 : Cond.methodLink RX9 164 yX1_swap ∈ ab_G := (ab_G_in (i := 503) (by decide +kernel) (by decide +kernel))
theorem ml_RX9_167 : Cond.methodLink RX9 167 yX3_barOf ∈ ab_G := (ab_G_in (i := 511) (by decide +kernel) (by decide +kernel))
theorem ml_RX9_170 : Cond.methodLink RX9 170 yX3_allowed ∈ ab_G := (ab_G_in (i := 516) (by decide +kernel) (by decide +kernel))
theorem ml_RX9_176 : Cond.methodLink RX9 176 yX2_totalHarm ∈ ab_G := (ab_G_in (i := 533) (by decide +kernel) (by decide +kernel))
theorem ml_RX9_179 : Cond.methodLink RX9 179 yX2_served ∈ ab_G := (ab_G_in (i := 578) (by decide +kernel) (by decide +kernel))
theorem ml_RX9_182 : Cond.methodLink RX9 182 yX2_lackingTwos ∈ ab_G := (ab_G_in (i := 586) (by decide +kernel) (by decide +kernel))
theorem ml_RX9_185 : Cond.methodLink RX9 185 yX2_lacks ∈ ab_G := (ab_G_in (i := 590) (by decide +kernel) (by decide +kernel))
theorem ml_RX9_188 : Cond.methodLink RX9 188 yX2_sums ∈ ab_G := (ab_G_in (i := 591) (by decide +kernel) (by decide +kernel))
theorem ml_RX9_191 : Cond.methodLink RX9 191 yX2_lackOf ∈ ab_G := (ab_G_in (i := 596) (by decide +kernel) (by decide +kernel))
theorem ml_RX9_198 : Cond.methodLink RX9 198 yX8_search ∈ ab_G := (ab_G_in (i := 601) (by decide +kernel) (by decide +kernel))
theorem ml_RX9_201 : Cond.methodLink RX9 201 yX8_handOver ∈ ab_G := (ab_G_in (i := 638) (by decide +kernel) (by decide +kernel))
theorem ml_RX9_206 : Cond.methodLink RX9 206 Lib.Math.min.name ∈ ab_G := (ab_G_in (i := 658) (by decide +kernel) (by decide +kernel))
theorem ml_RX9_211 : Cond.methodLink RX9 211 yX3_gapOf ∈ ab_G := (ab_G_in (i := 661) (by decide +kernel) (by decide +kernel))
theorem ml_RX9_214 : Cond.methodLink RX9 214 Lib.Math.max.name ∈ ab_G := (ab_G_in (i := 662) (by decide +kernel) (by decide +kernel))
theorem ml_RX9_217 : Cond.methodLink RX9 217 yX5_improve ∈ ab_G := (ab_G_in (i := 667) (by decide +kernel) (by decide +kernel))
theorem ml_RX9_221 : Cond.methodLink RX9 221 yX2_isClean ∈ ab_G := (ab_G_in (i := 698) (by decide +kernel) (by decide +kernel))
theorem ml_RX9_224 : Cond.methodLink RX9 224 yX5_changeOne ∈ ab_G := (ab_G_in (i := 703) (by decide +kernel) (by decide +kernel))
theorem ml_RX9_227 : Cond.methodLink RX9 227 yX5_changeTwo ∈ ab_G := (ab_G_in (i := 713) (by decide +kernel) (by decide +kernel))
theorem ml_RX9_230 : Cond.methodLink RX9 230 yX0_isCrowd ∈ ab_G := (ab_G_in (i := 725) (by decide +kernel) (by decide +kernel))
theorem ml_RX9_233 : Cond.methodLink RX9 233 yX0_wantsOf ∈ ab_G := (ab_G_in (i := 734) (by decide +kernel) (by decide +kernel))
theorem ml_RX9_236 : Cond.methodLink RX9 236 yX0_boundOf ∈ ab_G := (ab_G_in (i := 738) (by decide +kernel) (by decide +kernel))
theorem ml_RX9_239 : Cond.methodLink RX9 239 yX0_greatest ∈ ab_G := (ab_G_in (i := 764) (by decide +kernel) (by decide +kernel))
theorem ml_RX9_243 : Cond.methodLink RX9 243 yX3_partOf ∈ ab_G := (ab_G_in (i := 780) (by decide +kernel) (by decide +kernel))
theorem ml_RX9_246 : Cond.methodLink RX9 246 arraycopyName ∈ ab_G := (ab_G_in (i := 796) (by decide +kernel) (by decide +kernel))
theorem ml_RX9_252 : Cond.methodLink RX9 252 yX3_barredTwos ∈ ab_G := (ab_G_in (i := 805) (by decide +kernel) (by decide +kernel))
theorem ml_RX9_255 : Cond.methodLink RX9 255 yX3_threesIn ∈ ab_G := (ab_G_in (i := 809) (by decide +kernel) (by decide +kernel))
theorem ml_RX9_258 : Cond.methodLink RX9 258 yX3_parts ∈ ab_G := (ab_G_in (i := 814) (by decide +kernel) (by decide +kernel))
theorem ml_RX9_261 : Cond.methodLink RX9 261 yX4_trait ∈ ab_G := (ab_G_in (i := 822) (by decide +kernel) (by decide +kernel))
theorem ml_RX9_264 : Cond.methodLink RX9 264 yX9_isShelf ∈ ab_G := (ab_G_in (i := 831) (by decide +kernel) (by decide +kernel))
theorem ml_RX9_267 : Cond.methodLink RX9 267 yX6_clear ∈ ab_G := (ab_G_in (i := 834) (by decide +kernel) (by decide +kernel))
theorem ml_RX9_270 : Cond.methodLink RX9 270 yX6_takeMast ∈ ab_G := (ab_G_in (i := 838) (by decide +kernel) (by decide +kernel))
theorem ml_RX9_274 : Cond.methodLink RX9 274 yX6_takeChannels ∈ ab_G := (ab_G_in (i := 846) (by decide +kernel) (by decide +kernel))
theorem ml_RX9_277 : Cond.methodLink RX9 277 yX6_takeSquares ∈ ab_G := (ab_G_in (i := 850) (by decide +kernel) (by decide +kernel))
theorem ml_RX9_281 : Cond.methodLink RX9 281 yX6_takeZeros ∈ ab_G := (ab_G_in (i := 859) (by decide +kernel) (by decide +kernel))
theorem ml_RX9_292 : Cond.methodLink RX9 292 yX6_isRow ∈ ab_G := (ab_G_in (i := 873) (by decide +kernel) (by decide +kernel))
theorem ml_RX9_311 : Cond.methodLink RX9 311 yX6_hasRange ∈ ab_G := (ab_G_in (i := 877) (by decide +kernel) (by decide +kernel))
theorem ml_RX9_315 : Cond.methodLink RX9 315 yX6_copyTo ∈ ab_G := (ab_G_in (i := 881) (by decide +kernel) (by decide +kernel))
theorem ml_RX9_319 : Cond.methodLink RX9 319 yX9_refusalOfMast ∈ ab_G := (ab_G_in (i := 890) (by decide +kernel) (by decide +kernel))
theorem ml_RX9_326 : Cond.methodLink RX9 326 yX4_heaviness ∈ ab_G := (ab_G_in (i := 894) (by decide +kernel) (by decide +kernel))
theorem ml_RX0_28 : Cond.methodLink RX0 28 yX0_barsAll ∈ ab_G := (ab_G_in (i := 729) (by decide +kernel) (by decide +kernel))
theorem ml_RX0_32 : Cond.methodLink RX0 32 yX3_barOf ∈ ab_G := (ab_G_in (i := 733) (by decide +kernel) (by decide +kernel))
theorem ml_RX0_45 : Cond.methodLink RX0 45 yX0_seat ∈ ab_G := (ab_G_in (i := 742) (by decide +kernel) (by decide +kernel))
theorem ml_RX0_48 : Cond.methodLink RX0 48 yX0_boundOfSeated ∈ ab_G := (ab_G_in (i := 756) (by decide +kernel) (by decide +kernel))
theorem ml_RX0_58 : Cond.methodLink RX0 58 yX0_grow ∈ ab_G := (ab_G_in (i := 768) (by decide +kernel) (by decide +kernel))
theorem ml_RX0_62 : Cond.methodLink RX0 62 yX0_consider ∈ ab_G := (ab_G_in (i := 772) (by decide +kernel) (by decide +kernel))
theorem ml_RX0_66 : Cond.methodLink RX0 66 yX0_sumUp ∈ ab_G := (ab_G_in (i := 746) (by decide +kernel) (by decide +kernel))
theorem ml_RX0_69 : Cond.methodLink RX0 69 yX0_leastSum ∈ ab_G := (ab_G_in (i := 750) (by decide +kernel) (by decide +kernel))
theorem ml_RX0_74 : Cond.methodLink RX0 74 Lib.Math.min.name ∈ ab_G := (ab_G_in (i := 755) (by decide +kernel) (by decide +kernel))
theorem ml_RX1_32 : Cond.methodLink RX1 32 Lib.Math.abs.name ∈ ab_G := (ab_G_in (i := 499) (by decide +kernel) (by decide +kernel))
theorem ml_RX2_25 : Cond.methodLink RX2 25 yX2_lacks ∈ ab_G := (ab_G_in (i := 537) (by decide +kernel) (by decide +kernel))
theorem ml_RX2_29 : Cond.methodLink RX2 29 yX2_sums ∈ ab_G := (ab_G_in (i := 556) (by decide +kernel) (by decide +kernel))
theorem ml_RX2_32 : Cond.methodLink RX2 32 yX2_strayBits ∈ ab_G := (ab_G_in (i := 572) (by decide +kernel) (by decide +kernel))
theorem ml_RX2_35 : Cond.methodLink RX2 35 yJ6_bitCount_0f7a4 ∈ ab_G := (ab_G_in (i := 573) (by decide +kernel) (by decide +kernel))
theorem ml_RX2_41 : Cond.methodLink RX2 41 yX2_lackAt ∈ ab_G := (ab_G_in (i := 545) (by decide +kernel) (by decide +kernel))
theorem ml_RX2_45 : Cond.methodLink RX2 45 yX3_barOfWants ∈ ab_G := (ab_G_in (i := 549) (by decide +kernel) (by decide +kernel))
theorem ml_RX2_49 : Cond.methodLink RX2 49 yX3_gapOf ∈ ab_G := (ab_G_in (i := 553) (by decide +kernel) (by decide +kernel))
theorem ml_RX2_52 : Cond.methodLink RX2 52 Lib.Math.abs.name ∈ ab_G := (ab_G_in (i := 554) (by decide +kernel) (by decide +kernel))
theorem ml_RX2_57 : Cond.methodLink RX2 57 Lib.Math.max.name ∈ ab_G := (ab_G_in (i := 555) (by decide +kernel) (by decide +kernel))
theorem ml_RX2_60 : Cond.methodLink RX2 60 yX2_lackOf ∈ ab_G := (ab_G_in (i := 541) (by decide +kernel) (by decide +kernel))
theorem ml_RX2_64 : Cond.methodLink RX2 64 yX2_sumTogether ∈ ab_G := (ab_G_in (i := 560) (by decide +kernel) (by decide +kernel))
theorem ml_RX2_68 : Cond.methodLink RX2 68 yX2_sumsOfThree ∈ ab_G := (ab_G_in (i := 568) (by decide +kernel) (by decide +kernel))
theorem ml_RX2_75 : Cond.methodLink RX2 75 yX3_areIn ∈ ab_G := (ab_G_in (i := 564) (by decide +kernel) (by decide +kernel))
theorem ml_RX2_79 : Cond.methodLink RX2 79 yX3_allowed ∈ ab_G := (ab_G_in (i := 487) (by decide +kernel) (by decide +kernel))
theorem ml_RX2_82 : Cond.methodLink RX2 82 yX2_freeChannels ∈ ab_G := (ab_G_in (i := 702) (by decide +kernel) (by decide +kernel))
theorem ml_RX2_85 : Cond.methodLink RX2 85 yX2_tooNear ∈ ab_G := (ab_G_in (i := 613) (by decide +kernel) (by decide +kernel))
theorem ml_RX2_89 : Cond.methodLink RX2 89 yX2_sumMates ∈ ab_G := (ab_G_in (i := 617) (by decide +kernel) (by decide +kernel))
theorem ml_RX2_92 : Cond.methodLink RX2 92 yX2_sumTargets ∈ ab_G := (ab_G_in (i := 621) (by decide +kernel) (by decide +kernel))
theorem ml_RX2_97 : Cond.methodLink RX2 97 yX2_bitOf ∈ ab_G := (ab_G_in (i := 625) (by decide +kernel) (by decide +kernel))
theorem ml_RX2_101 : Cond.methodLink RX2 101 yX2_addLacks ∈ ab_G := (ab_G_in (i := 680) (by decide +kernel) (by decide +kernel))
theorem ml_RX2_105 : Cond.methodLink RX2 105 yX2_addSums ∈ ab_G := (ab_G_in (i := 685) (by decide +kernel) (by decide +kernel))
theorem ml_RX2_109 : Cond.methodLink RX2 109 Lib.Math.min.name ∈ ab_G := (ab_G_in (i := 684) (by decide +kernel) (by decide +kernel))
theorem ml_RX2_112 : Cond.methodLink RX2 112 yX2_addSumAt ∈ ab_G := (ab_G_in (i := 689) (by decide +kernel) (by decide +kernel))
theorem ml_RX2_116 : Cond.methodLinkNest RX2 116 yX9_within "WavePlan" ∈ ab_nest := ab_n_in (i := 693) (by decide +kernel) rfl
theorem ml_RX3_64 : Cond.methodLink RX3 64 yX4_begin ∈ ab_G := (ab_G_in (i := 386) (by decide +kernel) (by decide +kernel))
theorem ml_RX3_68 : Cond.methodLink RX3 68 yX3_measure ∈ ab_G := (ab_G_in (i := 395) (by decide +kernel) (by decide +kernel))
theorem ml_RX3_71 : Cond.methodLink RX3 71 yX4_goTo ∈ ab_G := (ab_G_in (i := 426) (by decide +kernel) (by decide +kernel))
theorem ml_RX3_75 : Cond.methodLink RX3 75 yX3_barOf ∈ ab_G := (ab_G_in (i := 427) (by decide +kernel) (by decide +kernel))
theorem ml_RX3_79 : Cond.methodLink RX3 79 yX3_freshBar ∈ ab_G := (ab_G_in (i := 399) (by decide +kernel) (by decide +kernel))
theorem ml_RX3_82 : Cond.methodLink RX3 82 yX3_square ∈ ab_G := (ab_G_in (i := 403) (by decide +kernel) (by decide +kernel))
theorem ml_RX3_88 : Cond.methodLink RX3 88 yX7_greatest ∈ ab_G := (ab_G_in (i := 407) (by decide +kernel) (by decide +kernel))
theorem ml_RX3_106 : Cond.methodLink RX3 106 yX3_gapOf ∈ ab_G := (ab_G_in (i := 491) (by decide +kernel) (by decide +kernel))
theorem ml_RX3_110 : Cond.methodLink RX3 110 yX1_allows ∈ ab_G := (ab_G_in (i := 495) (by decide +kernel) (by decide +kernel))
theorem ml_RX3_114 : Cond.methodLink RX3 114 yX3_areIn ∈ ab_G := (ab_G_in (i := 813) (by decide +kernel) (by decide +kernel))
theorem ml_RX3_118 : Cond.methodLink RX3 118 yX3_partAround ∈ ab_G := (ab_G_in (i := 784) (by decide +kernel) (by decide +kernel))
theorem ml_RX3_121 : Cond.methodLink RX3 121 yX3_joinedTo ∈ ab_G := (ab_G_in (i := 788) (by decide +kernel) (by decide +kernel))
theorem ml_RX4_18 : Cond.methodLink RX4 18 yX4_goTo ∈ ab_G := (ab_G_in (i := 390) (by decide +kernel) (by decide +kernel))
theorem ml_RX4_44 : Cond.methodLink RX4 44 yJ6_bitCount_0f7a4 ∈ ab_G := (ab_G_in (i := 826) (by decide +kernel) (by decide +kernel))
theorem ml_RX5_29 : Cond.methodLink RX5 29 yX5_canChange ∈ ab_G := (ab_G_in (i := 671) (by decide +kernel) (by decide +kernel))
theorem ml_RX5_33 : Cond.methodLink RX5 33 yX3_allowed ∈ ab_G := (ab_G_in (i := 675) (by decide +kernel) (by decide +kernel))
theorem ml_RX5_37 : Cond.methodLink RX5 37 yX2_weigh ∈ ab_G := (ab_G_in (i := 676) (by decide +kernel) (by decide +kernel))
theorem ml_RX5_43 : Cond.methodLink RX5 43 yX2_isClean ∈ ab_G := (ab_G_in (i := 707) (by decide +kernel) (by decide +kernel))
theorem ml_RX5_47 : Cond.methodLink RX5 47 yX5_leastFree ∈ ab_G := (ab_G_in (i := 708) (by decide +kernel) (by decide +kernel))
theorem ml_RX5_51 : Cond.methodLink RX5 51 yX5_changeBoth ∈ ab_G := (ab_G_in (i := 717) (by decide +kernel) (by decide +kernel))
theorem ml_RX5_55 : Cond.methodLink RX5 55 yX2_freeChannels ∈ ab_G := (ab_G_in (i := 712) (by decide +kernel) (by decide +kernel))
theorem ml_RX6_33 : Cond.methodLink RX6 33 yX4_takeAll ∈ ab_G := (ab_G_in (i := 842) (by decide +kernel) (by decide +kernel))
theorem ml_RX6_42 : Cond.methodLink RX6 42 yX3_square ∈ ab_G := (ab_G_in (i := 854) (by decide +kernel) (by decide +kernel))
theorem ml_RX6_46 : Cond.methodLink RX6 46 yJ7_fill_031fb ∈ ab_G := (ab_G_in (i := 863) (by decide +kernel) (by decide +kernel))
theorem ml_RX6_52 : Cond.methodLink RX6 52 yJ7_fill_d0a16 ∈ ab_G := (ab_G_in (i := 866) (by decide +kernel) (by decide +kernel))
theorem ml_RX6_55 : Cond.methodLink RX6 55 arraycopyName ∈ ab_G := (ab_G_in (i := 885) (by decide +kernel) (by decide +kernel))
theorem ml_RX7_25 : Cond.methodLink RX7 25 Lib.Math.max.name ∈ ab_G := (ab_G_in (i := 411) (by decide +kernel) (by decide +kernel))
theorem ml_RX8_35 : Cond.methodLink RX8 35 yX8_open ∈ ab_G := (ab_G_in (i := 605) (by decide +kernel) (by decide +kernel))
theorem ml_RX8_42 : Cond.methodLink RX8 42 yX8_takes ∈ ab_G := (ab_G_in (i := 634) (by decide +kernel) (by decide +kernel))
theorem ml_RX8_46 : Cond.methodLink RX8 46 arraycopyName ∈ ab_G := (ab_G_in (i := 642) (by decide +kernel) (by decide +kernel))
theorem ml_RX8_52 : Cond.methodLink RX8 52 yX2_freeChannels ∈ ab_G := (ab_G_in (i := 609) (by decide +kernel) (by decide +kernel))
theorem ml_RX8_58 : Cond.methodLink RX8 58 yX3_gapOf ∈ ab_G := (ab_G_in (i := 629) (by decide +kernel) (by decide +kernel))
theorem ml_RX8_62 : Cond.methodLink RX8 62 yX8_below ∈ ab_G := (ab_G_in (i := 630) (by decide +kernel) (by decide +kernel))
theorem ml_RX10_113 : Cond.methodLink RX10 113 yX10_isIn ∈ ab_G := (ab_G_in (i := 1158) (by decide +kernel) (by decide +kernel))
theorem ml_RX10_120 : Cond.methodLink RX10 120 yX10_isPlace ∈ ab_G := (ab_G_in (i := 1161) (by decide +kernel) (by decide +kernel))
theorem ml_RX10_128 : Cond.methodLink RX10 128 yX10_square ∈ ab_G := (ab_G_in (i := 1178) (by decide +kernel) (by decide +kernel))
theorem ml_RX10_132 : Cond.methodLink RX10 132 yX10_isMast ∈ ab_G := (ab_G_in (i := 1170) (by decide +kernel) (by decide +kernel))
theorem ml_RX10_135 : Cond.methodLink RX10 135 yX10_barOf ∈ ab_G := (ab_G_in (i := 1174) (by decide +kernel) (by decide +kernel))
theorem ml_RX10_138 : Cond.methodLink RX10 138 yX10_isSet ∈ ab_G := (ab_G_in (i := 1186) (by decide +kernel) (by decide +kernel))
theorem ml_RX10_141 : Cond.methodLink RX10 141 yX10_countBits ∈ ab_G := (ab_G_in (i := 1190) (by decide +kernel) (by decide +kernel))
theorem ml_RX10_147 : Cond.methodLink RX10 147 yX10_isWant ∈ ab_G := (ab_G_in (i := 1203) (by decide +kernel) (by decide +kernel))
theorem ml_RX10_169 : Cond.methodLink RX10 169 yX10_isListed ∈ ab_G := (ab_G_in (i := 1232) (by decide +kernel) (by decide +kernel))
theorem ml_RX10_173 : Cond.methodLink RX10 173 yX10_isFree ∈ ab_G := (ab_G_in (i := 1236) (by decide +kernel) (by decide +kernel))
theorem ml_RX10_176 : Cond.methodLink RX10 176 yX10_mayHave ∈ ab_G := (ab_G_in (i := 1228) (by decide +kernel) (by decide +kernel))
theorem ml_RX10_179 : Cond.methodLink RX10 179 yX10_channelsOf ∈ ab_G := (ab_G_in (i := 1276) (by decide +kernel) (by decide +kernel))
theorem ml_RX10_182 : Cond.methodLink RX10 182 yX10_channelOf ∈ ab_G := (ab_G_in (i := 1280) (by decide +kernel) (by decide +kernel))
theorem ml_RX10_185 : Cond.methodLink RX10 185 yX10_lack ∈ ab_G := (ab_G_in (i := 1272) (by decide +kernel) (by decide +kernel))
theorem ml_RX10_188 : Cond.methodLink RX10 188 yX10_areIn ∈ ab_G := (ab_G_in (i := 1284) (by decide +kernel) (by decide +kernel))
theorem ml_RX10_192 : Cond.methodLink RX10 192 yX10_middles ∈ ab_G := (ab_G_in (i := 1288) (by decide +kernel) (by decide +kernel))
theorem ml_RX10_196 : Cond.methodLink RX10 196 yX10_brokenOf ∈ ab_G := (ab_G_in (i := 1268) (by decide +kernel) (by decide +kernel))
theorem ml_RX10_199 : Cond.methodLink RX10 199 yX10_harmNow ∈ ab_G := (ab_G_in (i := 1264) (by decide +kernel) (by decide +kernel))
theorem ml_RX10_205 : Cond.methodLink RX10 205 yX10_isFine ∈ ab_G := (ab_G_in (i := 1322) (by decide +kernel) (by decide +kernel))
theorem ml_RX10_215 : Cond.methodLink RX10 215 yX10_isTaken ∈ ab_G := (ab_G_in (i := 1318) (by decide +kernel) (by decide +kernel))
theorem ml_RX10_220 : Cond.methodLink RX10 220 yX10_keepPlan ∈ ab_G := (ab_G_in (i := 1310) (by decide +kernel) (by decide +kernel))
theorem ml_RX10_223 : Cond.methodLink RX10 223 yX10_tryBelow ∈ ab_G := (ab_G_in (i := 1314) (by decide +kernel) (by decide +kernel))
theorem ml_RX10_226 : Cond.methodLink RX10 226 yX10_givePlan ∈ ab_G := (ab_G_in (i := 1326) (by decide +kernel) (by decide +kernel))
theorem ml_RX10_231 : Cond.methodLink RX10 231 yX10_isBettered ∈ ab_G := (ab_G_in (i := 1347) (by decide +kernel) (by decide +kernel))
theorem ml_RX10_235 : Cond.methodLink RX10 235 yX10_isHealedBy ∈ ab_G := (ab_G_in (i := 1355) (by decide +kernel) (by decide +kernel))
theorem ml_RX10_238 : Cond.methodLink RX10 238 yX10_isHealedByTwo ∈ ab_G := (ab_G_in (i := 1359) (by decide +kernel) (by decide +kernel))
theorem ml_RX10_242 : Cond.methodLink RX10 242 yX10_isCrowd ∈ ab_G := (ab_G_in (i := 1367) (by decide +kernel) (by decide +kernel))
theorem ml_RX10_245 : Cond.methodLink RX10 245 yX10_wantsIn ∈ ab_G := (ab_G_in (i := 1371) (by decide +kernel) (by decide +kernel))
theorem ml_RX10_248 : Cond.methodLink RX10 248 yX10_boundOf ∈ ab_G := (ab_G_in (i := 1375) (by decide +kernel) (by decide +kernel))
theorem ml_RX10_251 : Cond.methodLink RX10 251 yX10_areNear ∈ ab_G := (ab_G_in (i := 1392) (by decide +kernel) (by decide +kernel))
theorem ml_RX10_254 : Cond.methodLink RX10 254 yX10_findParts ∈ ab_G := (ab_G_in (i := 1388) (by decide +kernel) (by decide +kernel))
theorem ml_RX10_257 : Cond.methodLink RX10 257 yX10_withChannel ∈ ab_G := (ab_G_in (i := 1400) (by decide +kernel) (by decide +kernel))
theorem ml_RX10_260 : Cond.methodLink RX10 260 yX10_bars ∈ ab_G := (ab_G_in (i := 1412) (by decide +kernel) (by decide +kernel))
theorem ml_RX10_263 : Cond.methodLink RX10 263 yX10_threes ∈ ab_G := (ab_G_in (i := 1416) (by decide +kernel) (by decide +kernel))
theorem ml_RX10_266 : Cond.methodLink RX10 266 yX10_isShelf ∈ ab_G := (ab_G_in (i := 1428) (by decide +kernel) (by decide +kernel))
theorem ml_RX10_269 : Cond.methodLink RX10 269 yX10_weightOf ∈ ab_G := (ab_G_in (i := 1431) (by decide +kernel) (by decide +kernel))
theorem ml_RX10_272 : Cond.methodLink RX10 272 yX10_hasPlaces ∈ ab_G := (ab_G_in (i := 1447) (by decide +kernel) (by decide +kernel))
theorem ml_RX10_275 : Cond.methodLink RX10 275 yX10_denied ∈ ab_G := (ab_G_in (i := 1455) (by decide +kernel) (by decide +kernel))
theorem mv_J6_bitCount_0f7a4 : ab_MS me_J6_bitCount_0f7a4 1 := ⟨(ab_G_in (i := 438) (by decide +kernel) (by decide +kernel)), (ab_G_in (i := 437) (by decide +kernel) (by decide +kernel)), (ab_G_in (i := 74) (by decide +kernel) (by decide +kernel)), ⟨by decide, by decide, by decide +kernel⟩, by decide⟩
theorem mv_J7_fill_031fb : ab_MS me_J7_fill_031fb 2 := ⟨(ab_G_in (i := 865) (by decide +kernel) (by decide +kernel)), (ab_G_in (i := 864) (by decide +kernel) (by decide +kernel)), (ab_G_in (i := 66) (by decide +kernel) (by decide +kernel)), ⟨by decide, by decide, by decide +kernel⟩, by decide⟩
theorem mv_J7_fill_d0a16 : ab_MS me_J7_fill_d0a16 2 := ⟨(ab_G_in (i := 868) (by decide +kernel) (by decide +kernel)), (ab_G_in (i := 867) (by decide +kernel) (by decide +kernel)), (ab_G_in (i := 66) (by decide +kernel) (by decide +kernel)), ⟨by decide, by decide, by decide +kernel⟩, by decide⟩
theorem mv_X0_barsAll : ab_MV me_X0_barsAll 0 2 := ⟨(ab_G_in (i := 732) (by decide +kernel) (by decide +kernel)), (ab_G_in (i := 731) (by decide +kernel) (by decide +kernel)), (ab_G_in (i := 15) (by decide +kernel) (by decide +kernel)), (ab_G_in (i := 70) (by decide +kernel) (by decide +kernel)), ⟨by decide, by decide, by decide +kernel⟩, by decide, by decide, _, _, rfl⟩
theorem mv_X0_boundOf : ab_MV me_X0_boundOf 0 1 := ⟨(ab_G_in (i := 741) (by decide +kernel) (by decide +kernel)), (ab_G_in (i := 739) (by decide +kernel) (by decide +kernel)), (ab_G_in (i := 740) (by decide +kernel) (by decide +kernel)), (ab_G_in (i := 70) (by decide +kernel) (by decide +kernel)), ⟨by decide, by decide, by decide +kernel⟩, by decide, by decide, _, _, rfl⟩
theorem mv_X0_boundOfSeated : ab_MV me_X0_boundOfSeated 0 1 := ⟨(ab_G_in (i := 759) (by decide +kernel) (by decide +kernel)), (ab_G_in (i := 758) (by decide +kernel) (by decide +kernel)), (ab_G_in (i := 19) (by decide +kernel) (by decide +kernel)), (ab_G_in (i := 70) (by decide +kernel) (by decide +kernel)), ⟨by decide, by decide, by decide +kernel⟩, by decide, by decide, _, _, rfl⟩
theorem mv_X0_consider : ab_MV me_X0_consider 0 2 := ⟨(ab_G_in (i := 775) (by decide +kernel) (by decide +kernel)), (ab_G_in (i := 774) (by decide +kernel) (by decide +kernel)), (ab_G_in (i := 21) (by decide +kernel) (by decide +kernel)), (ab_G_in (i := 70) (by decide +kernel) (by decide +kernel)), ⟨by decide, by decide, by decide +kernel⟩, by decide, by decide, _, _, rfl⟩
theorem mv_X0_greatest : ab_MV me_X0_greatest 0 0 := ⟨(ab_G_in (i := 767) (by decide +kernel) (by decide +kernel)), (ab_G_in (i := 765) (by decide +kernel) (by decide +kernel)), (ab_G_in (i := 766) (by decide +kernel) (by decide +kernel)), (ab_G_in (i := 70) (by decide +kernel) (by decide +kernel)), ⟨by decide, by decide, by decide +kernel⟩, by decide, by decide, _, _, rfl⟩
theorem mv_X0_grow : ab_MV me_X0_grow 0 3 := ⟨(ab_G_in (i := 771) (by decide +kernel) (by decide +kernel)), (ab_G_in (i := 770) (by decide +kernel) (by decide +kernel)), (ab_G_in (i := 20) (by decide +kernel) (by decide +kernel)), (ab_G_in (i := 70) (by decide +kernel) (by decide +kernel)), ⟨by decide, by decide, by decide +kernel⟩, by decide, by decide, _, _, rfl⟩
theorem mv_X0_isCrowd : ab_MV me_X0_isCrowd 0 1 := ⟨(ab_G_in (i := 728) (by decide +kernel) (by decide +kernel)), (ab_G_in (i := 726) (by decide +kernel) (by decide +kernel)), (ab_G_in (i := 727) (by decide +kernel) (by decide +kernel)), (ab_G_in (i := 70) (by decide +kernel) (by decide +kernel)), ⟨by decide, by decide, by decide +kernel⟩, by decide, by decide, _, _, rfl⟩
theorem mv_X0_leastSum : ab_MV me_X0_leastSum 0 3 := ⟨(ab_G_in (i := 753) (by decide +kernel) (by decide +kernel)), (ab_G_in (i := 752) (by decide +kernel) (by decide +kernel)), (ab_G_in (i := 18) (by decide +kernel) (by decide +kernel)), (ab_G_in (i := 70) (by decide +kernel) (by decide +kernel)), ⟨by decide, by decide, by decide +kernel⟩, by decide, by decide, _, _, rfl⟩
theorem mv_X0_seat : ab_MV me_X0_seat 0 2 := ⟨(ab_G_in (i := 745) (by decide +kernel) (by decide +kernel)), (ab_G_in (i := 744) (by decide +kernel) (by decide +kernel)), (ab_G_in (i := 16) (by decide +kernel) (by decide +kernel)), (ab_G_in (i := 70) (by decide +kernel) (by decide +kernel)), ⟨by decide, by decide, by decide +kernel⟩, by decide, by decide, _, _, rfl⟩
theorem mv_X0_sumUp : ab_MV me_X0_sumUp 0 2 := ⟨(ab_G_in (i := 749) (by decide +kernel) (by decide +kernel)), (ab_G_in (i := 748) (by decide +kernel) (by decide +kernel)), (ab_G_in (i := 17) (by decide +kernel) (by decide +kernel)), (ab_G_in (i := 70) (by decide +kernel) (by decide +kernel)), ⟨by decide, by decide, by decide +kernel⟩, by decide, by decide, _, _, rfl⟩
theorem mv_X0_wantsOf : ab_MV me_X0_wantsOf 0 1 := ⟨(ab_G_in (i := 737) (by decide +kernel) (by decide +kernel)), (ab_G_in (i := 735) (by decide +kernel) (by decide +kernel)), (ab_G_in (i := 736) (by decide +kernel) (by decide +kernel)), (ab_G_in (i := 70) (by decide +kernel) (by decide +kernel)), ⟨by decide, by decide, by decide +kernel⟩, by decide, by decide, _, _, rfl⟩
theorem mv_X10_areIn : ab_MV me_X10_areIn 10 3 := ⟨(ab_G_in (i := 1287) (by decide +kernel) (by decide +kernel)), (ab_G_in (i := 1286) (by decide +kernel) (by decide +kernel)), (ab_G_in (i := 39) (by decide +kernel) (by decide +kernel)), (ab_G_in (i := 72) (by decide +kernel) (by decide +kernel)), ⟨by decide, by decide, by decide +kernel⟩, by decide, by decide, _, _, rfl⟩
theorem mv_X10_areNear : ab_MV me_X10_areNear 10 2 := ⟨(ab_G_in (i := 1395) (by decide +kernel) (by decide +kernel)), (ab_G_in (i := 1394) (by decide +kernel) (by decide +kernel)), (ab_G_in (i := 53) (by decide +kernel) (by decide +kernel)), (ab_G_in (i := 72) (by decide +kernel) (by decide +kernel)), ⟨by decide, by decide, by decide +kernel⟩, by decide, by decide, _, _, rfl⟩
theorem mv_X10_bar : ab_MV me_X10_bar 10 2 := ⟨(ab_G_in (i := 1243) (by decide +kernel) (by decide +kernel)), (ab_G_in (i := 1241) (by decide +kernel) (by decide +kernel)), (ab_G_in (i := 1242) (by decide +kernel) (by decide +kernel)), (ab_G_in (i := 72) (by decide +kernel) (by decide +kernel)), ⟨by decide, by decide, by decide +kernel⟩, by decide, by decide, _, _, rfl⟩
theorem mv_X10_barOf : ab_MV me_X10_barOf 10 2 := ⟨(ab_G_in (i := 1177) (by decide +kernel) (by decide +kernel)), (ab_G_in (i := 1176) (by decide +kernel) (by decide +kernel)), (ab_G_in (i := 27) (by decide +kernel) (by decide +kernel)), (ab_G_in (i := 72) (by decide +kernel) (by decide +kernel)), ⟨by decide, by decide, by decide +kernel⟩, by decide, by decide, _, _, rfl⟩
theorem mv_X10_bars : ab_MV me_X10_bars 10 0 := ⟨(ab_G_in (i := 1415) (by decide +kernel) (by decide +kernel)), (ab_G_in (i := 1414) (by decide +kernel) (by decide +kernel)), (ab_G_in (i := 55) (by decide +kernel) (by decide +kernel)), (ab_G_in (i := 72) (by decide +kernel) (by decide +kernel)), ⟨by decide, by decide, by decide +kernel⟩, by decide, by decide, _, _, rfl⟩
theorem mv_X10_better : ab_MV me_X10_better 10 1 := ⟨(ab_G_in (i := 1345) (by decide +kernel) (by decide +kernel)), (ab_G_in (i := 1343) (by decide +kernel) (by decide +kernel)), (ab_G_in (i := 1344) (by decide +kernel) (by decide +kernel)), (ab_G_in (i := 72) (by decide +kernel) (by decide +kernel)), ⟨by decide, by decide, by decide +kernel⟩, by decide, by decide, _, _, rfl⟩
theorem mv_X10_border : ab_MV me_X10_border 10 4 := ⟨(ab_G_in (i := 1223) (by decide +kernel) (by decide +kernel)), (ab_G_in (i := 1221) (by decide +kernel) (by decide +kernel)), (ab_G_in (i := 1222) (by decide +kernel) (by decide +kernel)), (ab_G_in (i := 72) (by decide +kernel) (by decide +kernel)), ⟨by decide, by decide, by decide +kernel⟩, by decide, by decide, _, _, rfl⟩
theorem mv_X10_bound : ab_MV me_X10_bound 10 1 := ⟨(ab_G_in (i := 1366) (by decide +kernel) (by decide +kernel)), (ab_G_in (i := 1364) (by decide +kernel) (by decide +kernel)), (ab_G_in (i := 1365) (by decide +kernel) (by decide +kernel)), (ab_G_in (i := 72) (by decide +kernel) (by decide +kernel)), ⟨by decide, by decide, by decide +kernel⟩, by decide, by decide, _, _, rfl⟩
theorem mv_X10_boundOf : ab_MV me_X10_boundOf 10 1 := ⟨(ab_G_in (i := 1378) (by decide +kernel) (by decide +kernel)), (ab_G_in (i := 1377) (by decide +kernel) (by decide +kernel)), (ab_G_in (i := 51) (by decide +kernel) (by decide +kernel)), (ab_G_in (i := 72) (by decide +kernel) (by decide +kernel)), ⟨by decide, by decide, by decide +kernel⟩, by decide, by decide, _, _, rfl⟩
theorem mv_X10_broken : ab_MV me_X10_broken 10 1 := ⟨(ab_G_in (i := 1299) (by decide +kernel) (by decide +kernel)), (ab_G_in (i := 1297) (by decide +kernel) (by decide +kernel)), (ab_G_in (i := 1298) (by decide +kernel) (by decide +kernel)), (ab_G_in (i := 72) (by decide +kernel) (by decide +kernel)), ⟨by decide, by decide, by decide +kernel⟩, by decide, by decide, _, _, rfl⟩
theorem mv_X10_brokenOf : ab_MV me_X10_brokenOf 10 1 := ⟨(ab_G_in (i := 1271) (by decide +kernel) (by decide +kernel)), (ab_G_in (i := 1270) (by decide +kernel) (by decide +kernel)), (ab_G_in (i := 35) (by decide +kernel) (by decide +kernel)), (ab_G_in (i := 72) (by decide +kernel) (by decide +kernel)), ⟨by decide, by decide, by decide +kernel⟩, by decide, by decide, _, _, rfl⟩
theorem mv_X10_channel : ab_MV me_X10_channel 10 1 := ⟨(ab_G_in (i := 1255) (by decide +kernel) (by decide +kernel)), (ab_G_in (i := 1253) (by decide +kernel) (by decide +kernel)), (ab_G_in (i := 1254) (by decide +kernel) (by decide +kernel)), (ab_G_in (i := 72) (by decide +kernel) (by decide +kernel)), ⟨by decide, by decide, by decide +kernel⟩, by decide, by decide, _, _, rfl⟩
theorem mv_X10_channelOf : ab_MV me_X10_channelOf 10 2 := ⟨(ab_G_in (i := 1283) (by decide +kernel) (by decide +kernel)), (ab_G_in (i := 1282) (by decide +kernel) (by decide +kernel)), (ab_G_in (i := 38) (by decide +kernel) (by decide +kernel)), (ab_G_in (i := 72) (by decide +kernel) (by decide +kernel)), ⟨by decide, by decide, by decide +kernel⟩, by decide, by decide, _, _, rfl⟩
theorem mv_X10_channelsOf : ab_MV me_X10_channelsOf 10 1 := ⟨(ab_G_in (i := 1279) (by decide +kernel) (by decide +kernel)), (ab_G_in (i := 1278) (by decide +kernel) (by decide +kernel)), (ab_G_in (i := 37) (by decide +kernel) (by decide +kernel)), (ab_G_in (i := 72) (by decide +kernel) (by decide +kernel)), ⟨by decide, by decide, by decide +kernel⟩, by decide, by decide, _, _, rfl⟩
theorem mv_X10_copy : ab_MV me_X10_copy 10 5 := ⟨(ab_G_in (i := 1446) (by decide +kernel) (by decide +kernel)), (ab_G_in (i := 1444) (by decide +kernel) (by decide +kernel)), (ab_G_in (i := 1445) (by decide +kernel) (by decide +kernel)), (ab_G_in (i := 72) (by decide +kernel) (by decide +kernel)), ⟨by decide, by decide, by decide +kernel⟩, by decide, by decide, _, _, rfl⟩
theorem mv_X10_count : ab_MV me_X10_count 10 1 := ⟨(ab_G_in (i := 1411) (by decide +kernel) (by decide +kernel)), (ab_G_in (i := 1409) (by decide +kernel) (by decide +kernel)), (ab_G_in (i := 1410) (by decide +kernel) (by decide +kernel)), (ab_G_in (i := 72) (by decide +kernel) (by decide +kernel)), ⟨by decide, by decide, by decide +kernel⟩, by decide, by decide, _, _, rfl⟩
theorem mv_X10_countBits : ab_MV me_X10_countBits 10 1 := ⟨(ab_G_in (i := 1193) (by decide +kernel) (by decide +kernel)), (ab_G_in (i := 1192) (by decide +kernel) (by decide +kernel)), (ab_G_in (i := 29) (by decide +kernel) (by decide +kernel)), (ab_G_in (i := 72) (by decide +kernel) (by decide +kernel)), ⟨by decide, by decide, by decide +kernel⟩, by decide, by decide, _, _, rfl⟩
theorem mv_X10_crowd : ab_MV me_X10_crowd 10 0 := ⟨(ab_G_in (i := 1383) (by decide +kernel) (by decide +kernel)), (ab_G_in (i := 1381) (by decide +kernel) (by decide +kernel)), (ab_G_in (i := 1382) (by decide +kernel) (by decide +kernel)), (ab_G_in (i := 72) (by decide +kernel) (by decide +kernel)), ⟨by decide, by decide, by decide +kernel⟩, by decide, by decide, _, _, rfl⟩
theorem mv_X10_denied : ab_MV me_X10_denied 10 1 := ⟨(ab_G_in (i := 1458) (by decide +kernel) (by decide +kernel)), (ab_G_in (i := 1457) (by decide +kernel) (by decide +kernel)), (ab_G_in (i := 59) (by decide +kernel) (by decide +kernel)), (ab_G_in (i := 72) (by decide +kernel) (by decide +kernel)), ⟨by decide, by decide, by decide +kernel⟩, by decide, by decide, _, _, rfl⟩
theorem mv_X10_element : ab_MV me_X10_element 10 2 := ⟨(ab_G_in (i := 1442) (by decide +kernel) (by decide +kernel)), (ab_G_in (i := 1440) (by decide +kernel) (by decide +kernel)), (ab_G_in (i := 1441) (by decide +kernel) (by decide +kernel)), (ab_G_in (i := 72) (by decide +kernel) (by decide +kernel)), ⟨by decide, by decide, by decide +kernel⟩, by decide, by decide, _, _, rfl⟩
theorem mv_X10_fewest : ab_MV me_X10_fewest 10 1 := ⟨(ab_G_in (i := 1354) (by decide +kernel) (by decide +kernel)), (ab_G_in (i := 1352) (by decide +kernel) (by decide +kernel)), (ab_G_in (i := 1353) (by decide +kernel) (by decide +kernel)), (ab_G_in (i := 72) (by decide +kernel) (by decide +kernel)), ⟨by decide, by decide, by decide +kernel⟩, by decide, by decide, _, _, rfl⟩
theorem mv_X10_findParts : ab_MV me_X10_findParts 10 0 := ⟨(ab_G_in (i := 1391) (by decide +kernel) (by decide +kernel)), (ab_G_in (i := 1390) (by decide +kernel) (by decide +kernel)), (ab_G_in (i := 52) (by decide +kernel) (by decide +kernel)), (ab_G_in (i := 72) (by decide +kernel) (by decide +kernel)), ⟨by decide, by decide, by decide +kernel⟩, by decide, by decide, _, _, rfl⟩
theorem mv_X10_gap : ab_MV me_X10_gap 10 2 := ⟨(ab_G_in (i := 1197) (by decide +kernel) (by decide +kernel)), (ab_G_in (i := 1195) (by decide +kernel) (by decide +kernel)), (ab_G_in (i := 1196) (by decide +kernel) (by decide +kernel)), (ab_G_in (i := 72) (by decide +kernel) (by decide +kernel)), ⟨by decide, by decide, by decide +kernel⟩, by decide, by decide, _, _, rfl⟩
theorem mv_X10_givePlan : ab_MV me_X10_givePlan 10 0 := ⟨(ab_G_in (i := 1329) (by decide +kernel) (by decide +kernel)), (ab_G_in (i := 1328) (by decide +kernel) (by decide +kernel)), (ab_G_in (i := 45) (by decide +kernel) (by decide +kernel)), (ab_G_in (i := 72) (by decide +kernel) (by decide +kernel)), ⟨by decide, by decide, by decide +kernel⟩, by decide, by decide, _, _, rfl⟩
theorem mv_X10_harm : ab_MV me_X10_harm 10 0 := ⟨(ab_G_in (i := 1263) (by decide +kernel) (by decide +kernel)), (ab_G_in (i := 1261) (by decide +kernel) (by decide +kernel)), (ab_G_in (i := 1262) (by decide +kernel) (by decide +kernel)), (ab_G_in (i := 72) (by decide +kernel) (by decide +kernel)), ⟨by decide, by decide, by decide +kernel⟩, by decide, by decide, _, _, rfl⟩
theorem mv_X10_harmNow : ab_MV me_X10_harmNow 10 0 := ⟨(ab_G_in (i := 1267) (by decide +kernel) (by decide +kernel)), (ab_G_in (i := 1266) (by decide +kernel) (by decide +kernel)), (ab_G_in (i := 34) (by decide +kernel) (by decide +kernel)), (ab_G_in (i := 72) (by decide +kernel) (by decide +kernel)), ⟨by decide, by decide, by decide +kernel⟩, by decide, by decide, _, _, rfl⟩
theorem mv_X10_hasPlaces : ab_MV me_X10_hasPlaces 10 3 := ⟨(ab_G_in (i := 1450) (by decide +kernel) (by decide +kernel)), (ab_G_in (i := 1449) (by decide +kernel) (by decide +kernel)), (ab_G_in (i := 58) (by decide +kernel) (by decide +kernel)), (ab_G_in (i := 72) (by decide +kernel) (by decide +kernel)), ⟨by decide, by decide, by decide +kernel⟩, by decide, by decide, _, _, rfl⟩
theorem mv_X10_image : ab_MV me_X10_image 10 0 := ⟨(ab_G_in (i := 1399) (by decide +kernel) (by decide +kernel)), (ab_G_in (i := 1397) (by decide +kernel) (by decide +kernel)), (ab_G_in (i := 1398) (by decide +kernel) (by decide +kernel)), (ab_G_in (i := 72) (by decide +kernel) (by decide +kernel)), ⟨by decide, by decide, by decide +kernel⟩, by decide, by decide, _, _, rfl⟩
theorem mv_X10_isBettered : ab_MV me_X10_isBettered 10 0 := ⟨(ab_G_in (i := 1350) (by decide +kernel) (by decide +kernel)), (ab_G_in (i := 1349) (by decide +kernel) (by decide +kernel)), (ab_G_in (i := 46) (by decide +kernel) (by decide +kernel)), (ab_G_in (i := 72) (by decide +kernel) (by decide +kernel)), ⟨by decide, by decide, by decide +kernel⟩, by decide, by decide, _, _, rfl⟩
theorem mv_X10_isCrowd : ab_MV me_X10_isCrowd 10 1 := ⟨(ab_G_in (i := 1370) (by decide +kernel) (by decide +kernel)), (ab_G_in (i := 1369) (by decide +kernel) (by decide +kernel)), (ab_G_in (i := 49) (by decide +kernel) (by decide +kernel)), (ab_G_in (i := 72) (by decide +kernel) (by decide +kernel)), ⟨by decide, by decide, by decide +kernel⟩, by decide, by decide, _, _, rfl⟩
theorem mv_X10_isFine : ab_MV me_X10_isFine 10 1 := ⟨(ab_G_in (i := 1325) (by decide +kernel) (by decide +kernel)), (ab_G_in (i := 1324) (by decide +kernel) (by decide +kernel)), (ab_G_in (i := 44) (by decide +kernel) (by decide +kernel)), (ab_G_in (i := 72) (by decide +kernel) (by decide +kernel)), ⟨by decide, by decide, by decide +kernel⟩, by decide, by decide, _, _, rfl⟩
theorem mv_X10_isFree : ab_MV me_X10_isFree 10 2 := ⟨(ab_G_in (i := 1239) (by decide +kernel) (by decide +kernel)), (ab_G_in (i := 1238) (by decide +kernel) (by decide +kernel)), (ab_G_in (i := 33) (by decide +kernel) (by decide +kernel)), (ab_G_in (i := 72) (by decide +kernel) (by decide +kernel)), ⟨by decide, by decide, by decide +kernel⟩, by decide, by decide, _, _, rfl⟩
theorem mv_X10_isHealedBy : ab_MV me_X10_isHealedBy 10 1 := ⟨(ab_G_in (i := 1358) (by decide +kernel) (by decide +kernel)), (ab_G_in (i := 1357) (by decide +kernel) (by decide +kernel)), (ab_G_in (i := 47) (by decide +kernel) (by decide +kernel)), (ab_G_in (i := 72) (by decide +kernel) (by decide +kernel)), ⟨by decide, by decide, by decide +kernel⟩, by decide, by decide, _, _, rfl⟩
theorem mv_X10_isHealedByTwo : ab_MV me_X10_isHealedByTwo 10 0 := ⟨(ab_G_in (i := 1362) (by decide +kernel) (by decide +kernel)), (ab_G_in (i := 1361) (by decide +kernel) (by decide +kernel)), (ab_G_in (i := 48) (by decide +kernel) (by decide +kernel)), (ab_G_in (i := 72) (by decide +kernel) (by decide +kernel)), ⟨by decide, by decide, by decide +kernel⟩, by decide, by decide, _, _, rfl⟩
theorem mv_X10_isIn : ab_MS me_X10_isIn 3 := ⟨(ab_G_in (i := 1160) (by decide +kernel) (by decide +kernel)), (ab_G_in (i := 1159) (by decide +kernel) (by decide +kernel)), (ab_G_in (i := 72) (by decide +kernel) (by decide +kernel)), ⟨by decide, by decide, by decide +kernel⟩, by decide⟩
theorem mv_X10_isListed : ab_MV me_X10_isListed 10 2 := ⟨(ab_G_in (i := 1235) (by decide +kernel) (by decide +kernel)), (ab_G_in (i := 1234) (by decide +kernel) (by decide +kernel)), (ab_G_in (i := 32) (by decide +kernel) (by decide +kernel)), (ab_G_in (i := 72) (by decide +kernel) (by decide +kernel)), ⟨by decide, by decide, by decide +kernel⟩, by decide, by decide, _, _, rfl⟩
theorem mv_X10_isMast : ab_MV me_X10_isMast 10 1 := ⟨(ab_G_in (i := 1173) (by decide +kernel) (by decide +kernel)), (ab_G_in (i := 1172) (by decide +kernel) (by decide +kernel)), (ab_G_in (i := 26) (by decide +kernel) (by decide +kernel)), (ab_G_in (i := 72) (by decide +kernel) (by decide +kernel)), ⟨by decide, by decide, by decide +kernel⟩, by decide, by decide, _, _, rfl⟩
theorem mv_X10_isPlace : ab_MS me_X10_isPlace 1 := ⟨(ab_G_in (i := 1163) (by decide +kernel) (by decide +kernel)), (ab_G_in (i := 1162) (by decide +kernel) (by decide +kernel)), (ab_G_in (i := 72) (by decide +kernel) (by decide +kernel)), ⟨by decide, by decide, by decide +kernel⟩, by decide⟩
theorem mv_X10_isSet : ab_MS me_X10_isSet 1 := ⟨(ab_G_in (i := 1188) (by decide +kernel) (by decide +kernel)), (ab_G_in (i := 1187) (by decide +kernel) (by decide +kernel)), (ab_G_in (i := 72) (by decide +kernel) (by decide +kernel)), ⟨by decide, by decide, by decide +kernel⟩, by decide⟩
theorem mv_X10_isShelf : ab_MS me_X10_isShelf 1 := ⟨(ab_G_in (i := 1430) (by decide +kernel) (by decide +kernel)), (ab_G_in (i := 1429) (by decide +kernel) (by decide +kernel)), (ab_G_in (i := 72) (by decide +kernel) (by decide +kernel)), ⟨by decide, by decide, by decide +kernel⟩, by decide⟩
theorem mv_X10_isTaken : ab_MV me_X10_isTaken 10 3 := ⟨(ab_G_in (i := 1321) (by decide +kernel) (by decide +kernel)), (ab_G_in (i := 1320) (by decide +kernel) (by decide +kernel)), (ab_G_in (i := 43) (by decide +kernel) (by decide +kernel)), (ab_G_in (i := 72) (by decide +kernel) (by decide +kernel)), ⟨by decide, by decide, by decide +kernel⟩, by decide, by decide, _, _, rfl⟩
theorem mv_X10_isWant : ab_MV me_X10_isWant 10 1 := ⟨(ab_G_in (i := 1206) (by decide +kernel) (by decide +kernel)), (ab_G_in (i := 1205) (by decide +kernel) (by decide +kernel)), (ab_G_in (i := 30) (by decide +kernel) (by decide +kernel)), (ab_G_in (i := 72) (by decide +kernel) (by decide +kernel)), ⟨by decide, by decide, by decide +kernel⟩, by decide, by decide, _, _, rfl⟩
theorem mv_X10_keep : ab_MV me_X10_keep 10 3 := ⟨(ab_G_in (i := 1427) (by decide +kernel) (by decide +kernel)), (ab_G_in (i := 1425) (by decide +kernel) (by decide +kernel)), (ab_G_in (i := 1426) (by decide +kernel) (by decide +kernel)), (ab_G_in (i := 72) (by decide +kernel) (by decide +kernel)), ⟨by decide, by decide, by decide +kernel⟩, by decide, by decide, _, _, rfl⟩
theorem mv_X10_keepPlan : ab_MV me_X10_keepPlan 10 0 := ⟨(ab_G_in (i := 1313) (by decide +kernel) (by decide +kernel)), (ab_G_in (i := 1312) (by decide +kernel) (by decide +kernel)), (ab_G_in (i := 41) (by decide +kernel) (by decide +kernel)), (ab_G_in (i := 72) (by decide +kernel) (by decide +kernel)), ⟨by decide, by decide, by decide +kernel⟩, by decide, by decide, _, _, rfl⟩
theorem mv_X10_kept : ab_MV me_X10_kept 10 0 := ⟨(ab_G_in (i := 1295) (by decide +kernel) (by decide +kernel)), (ab_G_in (i := 1293) (by decide +kernel) (by decide +kernel)), (ab_G_in (i := 1294) (by decide +kernel) (by decide +kernel)), (ab_G_in (i := 72) (by decide +kernel) (by decide +kernel)), ⟨by decide, by decide, by decide +kernel⟩, by decide, by decide, _, _, rfl⟩
theorem mv_X10_lack : ab_MV me_X10_lack 10 2 := ⟨(ab_G_in (i := 1275) (by decide +kernel) (by decide +kernel)), (ab_G_in (i := 1274) (by decide +kernel) (by decide +kernel)), (ab_G_in (i := 36) (by decide +kernel) (by decide +kernel)), (ab_G_in (i := 72) (by decide +kernel) (by decide +kernel)), ⟨by decide, by decide, by decide +kernel⟩, by decide, by decide, _, _, rfl⟩
theorem mv_X10_least : ab_MV me_X10_least 10 0 := ⟨(ab_G_in (i := 1337) (by decide +kernel) (by decide +kernel)), (ab_G_in (i := 1335) (by decide +kernel) (by decide +kernel)), (ab_G_in (i := 1336) (by decide +kernel) (by decide +kernel)), (ab_G_in (i := 72) (by decide +kernel) (by decide +kernel)), ⟨by decide, by decide, by decide +kernel⟩, by decide, by decide, _, _, rfl⟩
theorem mv_X10_list : ab_MV me_X10_list 10 2 := ⟨(ab_G_in (i := 1185) (by decide +kernel) (by decide +kernel)), (ab_G_in (i := 1183) (by decide +kernel) (by decide +kernel)), (ab_G_in (i := 1184) (by decide +kernel) (by decide +kernel)), (ab_G_in (i := 72) (by decide +kernel) (by decide +kernel)), ⟨by decide, by decide, by decide +kernel⟩, by decide, by decide, _, _, rfl⟩
theorem mv_X10_look : ab_MV me_X10_look 10 2 := ⟨(ab_G_in (i := 1423) (by decide +kernel) (by decide +kernel)), (ab_G_in (i := 1421) (by decide +kernel) (by decide +kernel)), (ab_G_in (i := 1422) (by decide +kernel) (by decide +kernel)), (ab_G_in (i := 72) (by decide +kernel) (by decide +kernel)), ⟨by decide, by decide, by decide +kernel⟩, by decide, by decide, _, _, rfl⟩
theorem mv_X10_make : ab_MV me_X10_make 10 3 := ⟨(ab_G_in (i := 1438) (by decide +kernel) (by decide +kernel)), (ab_G_in (i := 1436) (by decide +kernel) (by decide +kernel)), (ab_G_in (i := 1437) (by decide +kernel) (by decide +kernel)), (ab_G_in (i := 72) (by decide +kernel) (by decide +kernel)), ⟨by decide, by decide, by decide +kernel⟩, by decide, by decide, _, _, rfl⟩
theorem mv_X10_mast : ab_MV me_X10_mast 10 4 := ⟨(ab_G_in (i := 1156) (by decide +kernel) (by decide +kernel)), (ab_G_in (i := 1154) (by decide +kernel) (by decide +kernel)), (ab_G_in (i := 1155) (by decide +kernel) (by decide +kernel)), (ab_G_in (i := 72) (by decide +kernel) (by decide +kernel)), ⟨by decide, by decide, by decide +kernel⟩, by decide, by decide, _, _, rfl⟩
theorem mv_X10_may : ab_MV me_X10_may 10 2 := ⟨(ab_G_in (i := 1247) (by decide +kernel) (by decide +kernel)), (ab_G_in (i := 1245) (by decide +kernel) (by decide +kernel)), (ab_G_in (i := 1246) (by decide +kernel) (by decide +kernel)), (ab_G_in (i := 72) (by decide +kernel) (by decide +kernel)), ⟨by decide, by decide, by decide +kernel⟩, by decide, by decide, _, _, rfl⟩
theorem mv_X10_mayHave : ab_MV me_X10_mayHave 10 2 := ⟨(ab_G_in (i := 1231) (by decide +kernel) (by decide +kernel)), (ab_G_in (i := 1230) (by decide +kernel) (by decide +kernel)), (ab_G_in (i := 31) (by decide +kernel) (by decide +kernel)), (ab_G_in (i := 72) (by decide +kernel) (by decide +kernel)), ⟨by decide, by decide, by decide +kernel⟩, by decide, by decide, _, _, rfl⟩
theorem mv_X10_middles : ab_MV me_X10_middles 10 3 := ⟨(ab_G_in (i := 1291) (by decide +kernel) (by decide +kernel)), (ab_G_in (i := 1290) (by decide +kernel) (by decide +kernel)), (ab_G_in (i := 40) (by decide +kernel) (by decide +kernel)), (ab_G_in (i := 72) (by decide +kernel) (by decide +kernel)), ⟨by decide, by decide, by decide +kernel⟩, by decide, by decide, _, _, rfl⟩
theorem mv_X10_move : ab_MV me_X10_move 10 2 := ⟨(ab_G_in (i := 1169) (by decide +kernel) (by decide +kernel)), (ab_G_in (i := 1167) (by decide +kernel) (by decide +kernel)), (ab_G_in (i := 1168) (by decide +kernel) (by decide +kernel)), (ab_G_in (i := 72) (by decide +kernel) (by decide +kernel)), ⟨by decide, by decide, by decide +kernel⟩, by decide, by decide, _, _, rfl⟩
theorem mv_X10_of : ab_MV me_X10_of 10 1 := ⟨(ab_G_in (i := 1259) (by decide +kernel) (by decide +kernel)), (ab_G_in (i := 1257) (by decide +kernel) (by decide +kernel)), (ab_G_in (i := 1258) (by decide +kernel) (by decide +kernel)), (ab_G_in (i := 72) (by decide +kernel) (by decide +kernel)), ⟨by decide, by decide, by decide +kernel⟩, by decide, by decide, _, _, rfl⟩
theorem mv_X10_own : ab_MV me_X10_own 10 2 := ⟨(ab_G_in (i := 1219) (by decide +kernel) (by decide +kernel)), (ab_G_in (i := 1217) (by decide +kernel) (by decide +kernel)), (ab_G_in (i := 1218) (by decide +kernel) (by decide +kernel)), (ab_G_in (i := 72) (by decide +kernel) (by decide +kernel)), ⟨by decide, by decide, by decide +kernel⟩, by decide, by decide, _, _, rfl⟩
theorem mv_X10_pair : ab_MV me_X10_pair 10 2 := ⟨(ab_G_in (i := 1303) (by decide +kernel) (by decide +kernel)), (ab_G_in (i := 1301) (by decide +kernel) (by decide +kernel)), (ab_G_in (i := 1302) (by decide +kernel) (by decide +kernel)), (ab_G_in (i := 72) (by decide +kernel) (by decide +kernel)), ⟨by decide, by decide, by decide +kernel⟩, by decide, by decide, _, _, rfl⟩
theorem mv_X10_part : ab_MV me_X10_part 10 1 := ⟨(ab_G_in (i := 1387) (by decide +kernel) (by decide +kernel)), (ab_G_in (i := 1385) (by decide +kernel) (by decide +kernel)), (ab_G_in (i := 1386) (by decide +kernel) (by decide +kernel)), (ab_G_in (i := 72) (by decide +kernel) (by decide +kernel)), ⟨by decide, by decide, by decide +kernel⟩, by decide, by decide, _, _, rfl⟩
theorem mv_X10_plan : ab_MV me_X10_plan 10 1 := ⟨(ab_G_in (i := 1308) (by decide +kernel) (by decide +kernel)), (ab_G_in (i := 1306) (by decide +kernel) (by decide +kernel)), (ab_G_in (i := 1307) (by decide +kernel) (by decide +kernel)), (ab_G_in (i := 72) (by decide +kernel) (by decide +kernel)), ⟨by decide, by decide, by decide +kernel⟩, by decide, by decide, _, _, rfl⟩
theorem mv_X10_restore : ab_MV me_X10_restore 10 0 := ⟨(ab_G_in (i := 1407) (by decide +kernel) (by decide +kernel)), (ab_G_in (i := 1405) (by decide +kernel) (by decide +kernel)), (ab_G_in (i := 1406) (by decide +kernel) (by decide +kernel)), (ab_G_in (i := 72) (by decide +kernel) (by decide +kernel)), ⟨by decide, by decide, by decide +kernel⟩, by decide, by decide, _, _, rfl⟩
theorem mv_X10_row : ab_MV me_X10_row 10 3 := ⟨(ab_G_in (i := 1212) (by decide +kernel) (by decide +kernel)), (ab_G_in (i := 1210) (by decide +kernel) (by decide +kernel)), (ab_G_in (i := 1211) (by decide +kernel) (by decide +kernel)), (ab_G_in (i := 72) (by decide +kernel) (by decide +kernel)), ⟨by decide, by decide, by decide +kernel⟩, by decide, by decide, _, _, rfl⟩
theorem mv_X10_set : ab_MV me_X10_set 10 2 := ⟨(ab_G_in (i := 1251) (by decide +kernel) (by decide +kernel)), (ab_G_in (i := 1249) (by decide +kernel) (by decide +kernel)), (ab_G_in (i := 1250) (by decide +kernel) (by decide +kernel)), (ab_G_in (i := 72) (by decide +kernel) (by decide +kernel)), ⟨by decide, by decide, by decide +kernel⟩, by decide, by decide, _, _, rfl⟩
theorem mv_X10_span : ab_MV me_X10_span 10 0 := ⟨(ab_G_in (i := 1341) (by decide +kernel) (by decide +kernel)), (ab_G_in (i := 1339) (by decide +kernel) (by decide +kernel)), (ab_G_in (i := 1340) (by decide +kernel) (by decide +kernel)), (ab_G_in (i := 72) (by decide +kernel) (by decide +kernel)), ⟨by decide, by decide, by decide +kernel⟩, by decide, by decide, _, _, rfl⟩
theorem mv_X10_square : ab_MV me_X10_square 10 2 := ⟨(ab_G_in (i := 1181) (by decide +kernel) (by decide +kernel)), (ab_G_in (i := 1180) (by decide +kernel) (by decide +kernel)), (ab_G_in (i := 28) (by decide +kernel) (by decide +kernel)), (ab_G_in (i := 72) (by decide +kernel) (by decide +kernel)), ⟨by decide, by decide, by decide +kernel⟩, by decide, by decide, _, _, rfl⟩
theorem mv_X10_stay : ab_MV me_X10_stay 10 2 := ⟨(ab_G_in (i := 1202) (by decide +kernel) (by decide +kernel)), (ab_G_in (i := 1200) (by decide +kernel) (by decide +kernel)), (ab_G_in (i := 1201) (by decide +kernel) (by decide +kernel)), (ab_G_in (i := 72) (by decide +kernel) (by decide +kernel)), ⟨by decide, by decide, by decide +kernel⟩, by decide, by decide, _, _, rfl⟩
theorem mv_X10_threes : ab_MV me_X10_threes 10 0 := ⟨(ab_G_in (i := 1419) (by decide +kernel) (by decide +kernel)), (ab_G_in (i := 1418) (by decide +kernel) (by decide +kernel)), (ab_G_in (i := 56) (by decide +kernel) (by decide +kernel)), (ab_G_in (i := 72) (by decide +kernel) (by decide +kernel)), ⟨by decide, by decide, by decide +kernel⟩, by decide, by decide, _, _, rfl⟩
theorem mv_X10_thrown : ab_MV me_X10_thrown 10 0 := ⟨(ab_G_in (i := 1152) (by decide +kernel) (by decide +kernel)), (ab_G_in (i := 1150) (by decide +kernel) (by decide +kernel)), (ab_G_in (i := 1151) (by decide +kernel) (by decide +kernel)), (ab_G_in (i := 72) (by decide +kernel) (by decide +kernel)), ⟨by decide, by decide, by decide +kernel⟩, by decide, by decide, _, _, rfl⟩
theorem mv_X10_toss : ab_MV me_X10_toss 10 1 := ⟨(ab_G_in (i := 1462) (by decide +kernel) (by decide +kernel)), (ab_G_in (i := 1460) (by decide +kernel) (by decide +kernel)), (ab_G_in (i := 1461) (by decide +kernel) (by decide +kernel)), (ab_G_in (i := 72) (by decide +kernel) (by decide +kernel)), ⟨by decide, by decide, by decide +kernel⟩, by decide, by decide, _, _, rfl⟩
theorem mv_X10_tries : ab_MV me_X10_tries 10 0 := ⟨(ab_G_in (i := 1333) (by decide +kernel) (by decide +kernel)), (ab_G_in (i := 1331) (by decide +kernel) (by decide +kernel)), (ab_G_in (i := 1332) (by decide +kernel) (by decide +kernel)), (ab_G_in (i := 72) (by decide +kernel) (by decide +kernel)), ⟨by decide, by decide, by decide +kernel⟩, by decide, by decide, _, _, rfl⟩
theorem mv_X10_tryBelow : ab_MV me_X10_tryBelow 10 1 := ⟨(ab_G_in (i := 1317) (by decide +kernel) (by decide +kernel)), (ab_G_in (i := 1316) (by decide +kernel) (by decide +kernel)), (ab_G_in (i := 42) (by decide +kernel) (by decide +kernel)), (ab_G_in (i := 72) (by decide +kernel) (by decide +kernel)), ⟨by decide, by decide, by decide +kernel⟩, by decide, by decide, _, _, rfl⟩
theorem mv_X10_turn : ab_MV me_X10_turn 10 0 := ⟨(ab_G_in (i := 1227) (by decide +kernel) (by decide +kernel)), (ab_G_in (i := 1225) (by decide +kernel) (by decide +kernel)), (ab_G_in (i := 1226) (by decide +kernel) (by decide +kernel)), (ab_G_in (i := 72) (by decide +kernel) (by decide +kernel)), ⟨by decide, by decide, by decide +kernel⟩, by decide, by decide, _, _, rfl⟩
theorem mv_X10_wantsIn : ab_MV me_X10_wantsIn 10 1 := ⟨(ab_G_in (i := 1374) (by decide +kernel) (by decide +kernel)), (ab_G_in (i := 1373) (by decide +kernel) (by decide +kernel)), (ab_G_in (i := 50) (by decide +kernel) (by decide +kernel)), (ab_G_in (i := 72) (by decide +kernel) (by decide +kernel)), ⟨by decide, by decide, by decide +kernel⟩, by decide, by decide, _, _, rfl⟩
theorem mv_X10_weight : ab_MV me_X10_weight 10 1 := ⟨(ab_G_in (i := 1454) (by decide +kernel) (by decide +kernel)), (ab_G_in (i := 1452) (by decide +kernel) (by decide +kernel)), (ab_G_in (i := 1453) (by decide +kernel) (by decide +kernel)), (ab_G_in (i := 72) (by decide +kernel) (by decide +kernel)), ⟨by decide, by decide, by decide +kernel⟩, by decide, by decide, _, _, rfl⟩
theorem mv_X10_weightOf : ab_MV me_X10_weightOf 10 1 := ⟨(ab_G_in (i := 1434) (by decide +kernel) (by decide +kernel)), (ab_G_in (i := 1433) (by decide +kernel) (by decide +kernel)), (ab_G_in (i := 57) (by decide +kernel) (by decide +kernel)), (ab_G_in (i := 72) (by decide +kernel) (by decide +kernel)), ⟨by decide, by decide, by decide +kernel⟩, by decide, by decide, _, _, rfl⟩
theorem mv_X10_withChannel : ab_MV me_X10_withChannel 10 0 := ⟨(ab_G_in (i := 1403) (by decide +kernel) (by decide +kernel)), (ab_G_in (i := 1402) (by decide +kernel) (by decide +kernel)), (ab_G_in (i := 54) (by decide +kernel) (by decide +kernel)), (ab_G_in (i := 72) (by decide +kernel) (by decide +kernel)), ⟨by decide, by decide, by decide +kernel⟩, by decide, by decide, _, _, rfl⟩
theorem mv_X1_allows : ab_MV me_X1_allows 1 1 := ⟨(ab_G_in (i := 498) (by decide +kernel) (by decide +kernel)), (ab_G_in (i := 496) (by decide +kernel) (by decide +kernel)), (ab_G_in (i := 497) (by decide +kernel) (by decide +kernel)), (ab_G_in (i := 64) (by decide +kernel) (by decide +kernel)), ⟨by decide, by decide, by decide +kernel⟩, by decide, by decide, _, _, rfl⟩
theorem mv_X1_swap : ab_MV me_X1_swap 1 0 := ⟨(ab_G_in (i := 506) (by decide +kernel) (by decide +kernel)), (ab_G_in (i := 504) (by decide +kernel) (by decide +kernel)), (ab_G_in (i := 505) (by decide +kernel) (by decide +kernel)), (ab_G_in (i := 64) (by decide +kernel) (by decide +kernel)), ⟨by decide, by decide, by decide +kernel⟩, by decide, by decide, _, _, rfl⟩
theorem mv_X1_tell : ab_MV me_X1_tell 1 4 := ⟨(ab_G_in (i := 478) (by decide +kernel) (by decide +kernel)), (ab_G_in (i := 476) (by decide +kernel) (by decide +kernel)), (ab_G_in (i := 477) (by decide +kernel) (by decide +kernel)), (ab_G_in (i := 64) (by decide +kernel) (by decide +kernel)), ⟨by decide, by decide, by decide +kernel⟩, by decide, by decide, _, _, rfl⟩
theorem mv_X2_addLacks : ab_MV me_X2_addLacks 2 3 := ⟨(ab_G_in (i := 683) (by decide +kernel) (by decide +kernel)), (ab_G_in (i := 682) (by decide +kernel) (by decide +kernel)), (ab_G_in (i := 10) (by decide +kernel) (by decide +kernel)), (ab_G_in (i := 67) (by decide +kernel) (by decide +kernel)), ⟨by decide, by decide, by decide +kernel⟩, by decide, by decide, _, _, rfl⟩
theorem mv_X2_addSumAt : ab_MV me_X2_addSumAt 2 2 := ⟨(ab_G_in (i := 692) (by decide +kernel) (by decide +kernel)), (ab_G_in (i := 691) (by decide +kernel) (by decide +kernel)), (ab_G_in (i := 12) (by decide +kernel) (by decide +kernel)), (ab_G_in (i := 67) (by decide +kernel) (by decide +kernel)), ⟨by decide, by decide, by decide +kernel⟩, by decide, by decide, _, _, rfl⟩
theorem mv_X2_addSums : ab_MV me_X2_addSums 2 4 := ⟨(ab_G_in (i := 688) (by decide +kernel) (by decide +kernel)), (ab_G_in (i := 687) (by decide +kernel) (by decide +kernel)), (ab_G_in (i := 11) (by decide +kernel) (by decide +kernel)), (ab_G_in (i := 67) (by decide +kernel) (by decide +kernel)), ⟨by decide, by decide, by decide +kernel⟩, by decide, by decide, _, _, rfl⟩
theorem mv_X2_bitOf : ab_MS me_X2_bitOf 1 := ⟨(ab_G_in (i := 627) (by decide +kernel) (by decide +kernel)), (ab_G_in (i := 626) (by decide +kernel) (by decide +kernel)), (ab_G_in (i := 67) (by decide +kernel) (by decide +kernel)), ⟨by decide, by decide, by decide +kernel⟩, by decide⟩
theorem mv_X2_freeChannels : ab_MV me_X2_freeChannels 2 3 := ⟨(ab_G_in (i := 612) (by decide +kernel) (by decide +kernel)), (ab_G_in (i := 610) (by decide +kernel) (by decide +kernel)), (ab_G_in (i := 611) (by decide +kernel) (by decide +kernel)), (ab_G_in (i := 67) (by decide +kernel) (by decide +kernel)), ⟨by decide, by decide, by decide +kernel⟩, by decide, by decide, _, _, rfl⟩
theorem mv_X2_isClean : ab_MV me_X2_isClean 2 1 := ⟨(ab_G_in (i := 701) (by decide +kernel) (by decide +kernel)), (ab_G_in (i := 699) (by decide +kernel) (by decide +kernel)), (ab_G_in (i := 700) (by decide +kernel) (by decide +kernel)), (ab_G_in (i := 67) (by decide +kernel) (by decide +kernel)), ⟨by decide, by decide, by decide +kernel⟩, by decide, by decide, _, _, rfl⟩
theorem mv_X2_lackAt : ab_MV me_X2_lackAt 2 4 := ⟨(ab_G_in (i := 548) (by decide +kernel) (by decide +kernel)), (ab_G_in (i := 547) (by decide +kernel) (by decide +kernel)), (ab_G_in (i := 1) (by decide +kernel) (by decide +kernel)), (ab_G_in (i := 67) (by decide +kernel) (by decide +kernel)), ⟨by decide, by decide, by decide +kernel⟩, by decide, by decide, _, _, rfl⟩
theorem mv_X2_lackOf : ab_MV me_X2_lackOf 2 3 := ⟨(ab_G_in (i := 544) (by decide +kernel) (by decide +kernel)), (ab_G_in (i := 542) (by decide +kernel) (by decide +kernel)), (ab_G_in (i := 543) (by decide +kernel) (by decide +kernel)), (ab_G_in (i := 67) (by decide +kernel) (by decide +kernel)), ⟨by decide, by decide, by decide +kernel⟩, by decide, by decide, _, _, rfl⟩
theorem mv_X2_lackingTwos : ab_MV me_X2_lackingTwos 2 1 := ⟨(ab_G_in (i := 589) (by decide +kernel) (by decide +kernel)), (ab_G_in (i := 587) (by decide +kernel) (by decide +kernel)), (ab_G_in (i := 588) (by decide +kernel) (by decide +kernel)), (ab_G_in (i := 67) (by decide +kernel) (by decide +kernel)), ⟨by decide, by decide, by decide +kernel⟩, by decide, by decide, _, _, rfl⟩
theorem mv_X2_lacks : ab_MV me_X2_lacks 2 1 := ⟨(ab_G_in (i := 540) (by decide +kernel) (by decide +kernel)), (ab_G_in (i := 538) (by decide +kernel) (by decide +kernel)), (ab_G_in (i := 539) (by decide +kernel) (by decide +kernel)), (ab_G_in (i := 67) (by decide +kernel) (by decide +kernel)), ⟨by decide, by decide, by decide +kernel⟩, by decide, by decide, _, _, rfl⟩
theorem mv_X2_served : ab_MV me_X2_served 2 1 := ⟨(ab_G_in (i := 581) (by decide +kernel) (by decide +kernel)), (ab_G_in (i := 579) (by decide +kernel) (by decide +kernel)), (ab_G_in (i := 580) (by decide +kernel) (by decide +kernel)), (ab_G_in (i := 67) (by decide +kernel) (by decide +kernel)), ⟨by decide, by decide, by decide +kernel⟩, by decide, by decide, _, _, rfl⟩
theorem mv_X2_strayBits : ab_MV me_X2_strayBits 2 1 := ⟨(ab_G_in (i := 486) (by decide +kernel) (by decide +kernel)), (ab_G_in (i := 484) (by decide +kernel) (by decide +kernel)), (ab_G_in (i := 485) (by decide +kernel) (by decide +kernel)), (ab_G_in (i := 67) (by decide +kernel) (by decide +kernel)), ⟨by decide, by decide, by decide +kernel⟩, by decide, by decide, _, _, rfl⟩
theorem mv_X2_sumMates : ab_MV me_X2_sumMates 2 4 := ⟨(ab_G_in (i := 620) (by decide +kernel) (by decide +kernel)), (ab_G_in (i := 619) (by decide +kernel) (by decide +kernel)), (ab_G_in (i := 6) (by decide +kernel) (by decide +kernel)), (ab_G_in (i := 67) (by decide +kernel) (by decide +kernel)), ⟨by decide, by decide, by decide +kernel⟩, by decide, by decide, _, _, rfl⟩
theorem mv_X2_sumTargets : ab_MV me_X2_sumTargets 2 3 := ⟨(ab_G_in (i := 624) (by decide +kernel) (by decide +kernel)), (ab_G_in (i := 623) (by decide +kernel) (by decide +kernel)), (ab_G_in (i := 7) (by decide +kernel) (by decide +kernel)), (ab_G_in (i := 67) (by decide +kernel) (by decide +kernel)), ⟨by decide, by decide, by decide +kernel⟩, by decide, by decide, _, _, rfl⟩
theorem mv_X2_sumTogether : ab_MV me_X2_sumTogether 2 4 := ⟨(ab_G_in (i := 563) (by decide +kernel) (by decide +kernel)), (ab_G_in (i := 562) (by decide +kernel) (by decide +kernel)), (ab_G_in (i := 2) (by decide +kernel) (by decide +kernel)), (ab_G_in (i := 67) (by decide +kernel) (by decide +kernel)), ⟨by decide, by decide, by decide +kernel⟩, by decide, by decide, _, _, rfl⟩
theorem mv_X2_sums : ab_MV me_X2_sums 2 1 := ⟨(ab_G_in (i := 559) (by decide +kernel) (by decide +kernel)), (ab_G_in (i := 557) (by decide +kernel) (by decide +kernel)), (ab_G_in (i := 558) (by decide +kernel) (by decide +kernel)), (ab_G_in (i := 67) (by decide +kernel) (by decide +kernel)), ⟨by decide, by decide, by decide +kernel⟩, by decide, by decide, _, _, rfl⟩
theorem mv_X2_sumsOfThree : ab_MV me_X2_sumsOfThree 2 4 := ⟨(ab_G_in (i := 571) (by decide +kernel) (by decide +kernel)), (ab_G_in (i := 570) (by decide +kernel) (by decide +kernel)), (ab_G_in (i := 3) (by decide +kernel) (by decide +kernel)), (ab_G_in (i := 67) (by decide +kernel) (by decide +kernel)), ⟨by decide, by decide, by decide +kernel⟩, by decide, by decide, _, _, rfl⟩
theorem mv_X2_tooNear : ab_MV me_X2_tooNear 2 3 := ⟨(ab_G_in (i := 616) (by decide +kernel) (by decide +kernel)), (ab_G_in (i := 615) (by decide +kernel) (by decide +kernel)), (ab_G_in (i := 5) (by decide +kernel) (by decide +kernel)), (ab_G_in (i := 67) (by decide +kernel) (by decide +kernel)), ⟨by decide, by decide, by decide +kernel⟩, by decide, by decide, _, _, rfl⟩
theorem mv_X2_totalHarm : ab_MV me_X2_totalHarm 2 1 := ⟨(ab_G_in (i := 536) (by decide +kernel) (by decide +kernel)), (ab_G_in (i := 534) (by decide +kernel) (by decide +kernel)), (ab_G_in (i := 535) (by decide +kernel) (by decide +kernel)), (ab_G_in (i := 67) (by decide +kernel) (by decide +kernel)), ⟨by decide, by decide, by decide +kernel⟩, by decide, by decide, _, _, rfl⟩
theorem mv_X2_weigh : ab_MV me_X2_weigh 2 2 := ⟨(ab_G_in (i := 679) (by decide +kernel) (by decide +kernel)), (ab_G_in (i := 677) (by decide +kernel) (by decide +kernel)), (ab_G_in (i := 678) (by decide +kernel) (by decide +kernel)), (ab_G_in (i := 67) (by decide +kernel) (by decide +kernel)), ⟨by decide, by decide, by decide +kernel⟩, by decide, by decide, _, _, rfl⟩
theorem mv_X3_addMast : ab_MV me_X3_addMast 3 4 := ⟨(ab_G_in (i := 385) (by decide +kernel) (by decide +kernel)), (ab_G_in (i := 383) (by decide +kernel) (by decide +kernel)), (ab_G_in (i := 384) (by decide +kernel) (by decide +kernel)), (ab_G_in (i := 62) (by decide +kernel) (by decide +kernel)), ⟨by decide, by decide, by decide +kernel⟩, by decide, by decide, _, _, rfl⟩
theorem mv_X3_allowed : ab_MV me_X3_allowed 3 1 := ⟨(ab_G_in (i := 490) (by decide +kernel) (by decide +kernel)), (ab_G_in (i := 488) (by decide +kernel) (by decide +kernel)), (ab_G_in (i := 489) (by decide +kernel) (by decide +kernel)), (ab_G_in (i := 62) (by decide +kernel) (by decide +kernel)), ⟨by decide, by decide, by decide +kernel⟩, by decide, by decide, _, _, rfl⟩
theorem mv_X3_areIn : ab_MV me_X3_areIn 3 3 := ⟨(ab_G_in (i := 567) (by decide +kernel) (by decide +kernel)), (ab_G_in (i := 565) (by decide +kernel) (by decide +kernel)), (ab_G_in (i := 566) (by decide +kernel) (by decide +kernel)), (ab_G_in (i := 62) (by decide +kernel) (by decide +kernel)), ⟨by decide, by decide, by decide +kernel⟩, by decide, by decide, _, _, rfl⟩
theorem mv_X3_barOf : ab_MV me_X3_barOf 3 2 := ⟨(ab_G_in (i := 430) (by decide +kernel) (by decide +kernel)), (ab_G_in (i := 428) (by decide +kernel) (by decide +kernel)), (ab_G_in (i := 429) (by decide +kernel) (by decide +kernel)), (ab_G_in (i := 62) (by decide +kernel) (by decide +kernel)), ⟨by decide, by decide, by decide +kernel⟩, by decide, by decide, _, _, rfl⟩
theorem mv_X3_barOfWants : ab_MV me_X3_barOfWants 3 2 := ⟨(ab_G_in (i := 552) (by decide +kernel) (by decide +kernel)), (ab_G_in (i := 550) (by decide +kernel) (by decide +kernel)), (ab_G_in (i := 551) (by decide +kernel) (by decide +kernel)), (ab_G_in (i := 62) (by decide +kernel) (by decide +kernel)), ⟨by decide, by decide, by decide +kernel⟩, by decide, by decide, _, _, rfl⟩
theorem mv_X3_barredTwos : ab_MV me_X3_barredTwos 3 0 := ⟨(ab_G_in (i := 808) (by decide +kernel) (by decide +kernel)), (ab_G_in (i := 806) (by decide +kernel) (by decide +kernel)), (ab_G_in (i := 807) (by decide +kernel) (by decide +kernel)), (ab_G_in (i := 62) (by decide +kernel) (by decide +kernel)), ⟨by decide, by decide, by decide +kernel⟩, by decide, by decide, _, _, rfl⟩
theorem mv_X3_freshBar : ab_MV me_X3_freshBar 3 2 := ⟨(ab_G_in (i := 402) (by decide +kernel) (by decide +kernel)), (ab_G_in (i := 401) (by decide +kernel) (by decide +kernel)), (ab_G_in (i := 0) (by decide +kernel) (by decide +kernel)), (ab_G_in (i := 62) (by decide +kernel) (by decide +kernel)), ⟨by decide, by decide, by decide +kernel⟩, by decide, by decide, _, _, rfl⟩
theorem mv_X3_gapOf : ab_MV me_X3_gapOf 3 1 := ⟨(ab_G_in (i := 494) (by decide +kernel) (by decide +kernel)), (ab_G_in (i := 492) (by decide +kernel) (by decide +kernel)), (ab_G_in (i := 493) (by decide +kernel) (by decide +kernel)), (ab_G_in (i := 62) (by decide +kernel) (by decide +kernel)), ⟨by decide, by decide, by decide +kernel⟩, by decide, by decide, _, _, rfl⟩
theorem mv_X3_hasMast : ab_MV me_X3_hasMast 3 1 := ⟨(ab_G_in (i := 421) (by decide +kernel) (by decide +kernel)), (ab_G_in (i := 419) (by decide +kernel) (by decide +kernel)), (ab_G_in (i := 420) (by decide +kernel) (by decide +kernel)), (ab_G_in (i := 62) (by decide +kernel) (by decide +kernel)), ⟨by decide, by decide, by decide +kernel⟩, by decide, by decide, _, _, rfl⟩
theorem mv_X3_hasWant : ab_MV me_X3_hasWant 3 1 := ⟨(ab_G_in (i := 453) (by decide +kernel) (by decide +kernel)), (ab_G_in (i := 451) (by decide +kernel) (by decide +kernel)), (ab_G_in (i := 452) (by decide +kernel) (by decide +kernel)), (ab_G_in (i := 62) (by decide +kernel) (by decide +kernel)), ⟨by decide, by decide, by decide +kernel⟩, by decide, by decide, _, _, rfl⟩
theorem mv_X3_joinedTo : ab_MV me_X3_joinedTo 3 1 := ⟨(ab_G_in (i := 791) (by decide +kernel) (by decide +kernel)), (ab_G_in (i := 790) (by decide +kernel) (by decide +kernel)), (ab_G_in (i := 23) (by decide +kernel) (by decide +kernel)), (ab_G_in (i := 62) (by decide +kernel) (by decide +kernel)), ⟨by decide, by decide, by decide +kernel⟩, by decide, by decide, _, _, rfl⟩
theorem mv_X3_kindOfWant : ab_MV me_X3_kindOfWant 3 1 := ⟨(ab_G_in (i := 457) (by decide +kernel) (by decide +kernel)), (ab_G_in (i := 455) (by decide +kernel) (by decide +kernel)), (ab_G_in (i := 456) (by decide +kernel) (by decide +kernel)), (ab_G_in (i := 62) (by decide +kernel) (by decide +kernel)), ⟨by decide, by decide, by decide +kernel⟩, by decide, by decide, _, _, rfl⟩
theorem mv_X3_measure : ab_MV me_X3_measure 3 0 := ⟨(ab_G_in (i := 398) (by decide +kernel) (by decide +kernel)), (ab_G_in (i := 396) (by decide +kernel) (by decide +kernel)), (ab_G_in (i := 397) (by decide +kernel) (by decide +kernel)), (ab_G_in (i := 62) (by decide +kernel) (by decide +kernel)), ⟨by decide, by decide, by decide +kernel⟩, by decide, by decide, _, _, rfl⟩
theorem mv_X3_partAround : ab_MV me_X3_partAround 3 1 := ⟨(ab_G_in (i := 787) (by decide +kernel) (by decide +kernel)), (ab_G_in (i := 786) (by decide +kernel) (by decide +kernel)), (ab_G_in (i := 22) (by decide +kernel) (by decide +kernel)), (ab_G_in (i := 62) (by decide +kernel) (by decide +kernel)), ⟨by decide, by decide, by decide +kernel⟩, by decide, by decide, _, _, rfl⟩
theorem mv_X3_partOf : ab_MV me_X3_partOf 3 1 := ⟨(ab_G_in (i := 783) (by decide +kernel) (by decide +kernel)), (ab_G_in (i := 781) (by decide +kernel) (by decide +kernel)), (ab_G_in (i := 782) (by decide +kernel) (by decide +kernel)), (ab_G_in (i := 62) (by decide +kernel) (by decide +kernel)), ⟨by decide, by decide, by decide +kernel⟩, by decide, by decide, _, _, rfl⟩
theorem mv_X3_parts : ab_MV me_X3_parts 3 0 := ⟨(ab_G_in (i := 817) (by decide +kernel) (by decide +kernel)), (ab_G_in (i := 815) (by decide +kernel) (by decide +kernel)), (ab_G_in (i := 816) (by decide +kernel) (by decide +kernel)), (ab_G_in (i := 62) (by decide +kernel) (by decide +kernel)), ⟨by decide, by decide, by decide +kernel⟩, by decide, by decide, _, _, rfl⟩
theorem mv_X3_shift : ab_MV me_X3_shift 3 2 := ⟨(ab_G_in (i := 425) (by decide +kernel) (by decide +kernel)), (ab_G_in (i := 423) (by decide +kernel) (by decide +kernel)), (ab_G_in (i := 424) (by decide +kernel) (by decide +kernel)), (ab_G_in (i := 62) (by decide +kernel) (by decide +kernel)), ⟨by decide, by decide, by decide +kernel⟩, by decide, by decide, _, _, rfl⟩
theorem mv_X3_square : ab_MV me_X3_square 3 2 := ⟨(ab_G_in (i := 406) (by decide +kernel) (by decide +kernel)), (ab_G_in (i := 404) (by decide +kernel) (by decide +kernel)), (ab_G_in (i := 405) (by decide +kernel) (by decide +kernel)), (ab_G_in (i := 62) (by decide +kernel) (by decide +kernel)), ⟨by decide, by decide, by decide +kernel⟩, by decide, by decide, _, _, rfl⟩
theorem mv_X3_threesIn : ab_MV me_X3_threesIn 3 0 := ⟨(ab_G_in (i := 812) (by decide +kernel) (by decide +kernel)), (ab_G_in (i := 810) (by decide +kernel) (by decide +kernel)), (ab_G_in (i := 811) (by decide +kernel) (by decide +kernel)), (ab_G_in (i := 62) (by decide +kernel) (by decide +kernel)), ⟨by decide, by decide, by decide +kernel⟩, by decide, by decide, _, _, rfl⟩
theorem mv_X4_begin : ab_MV me_X4_begin 4 6 := ⟨(ab_G_in (i := 389) (by decide +kernel) (by decide +kernel)), (ab_G_in (i := 387) (by decide +kernel) (by decide +kernel)), (ab_G_in (i := 388) (by decide +kernel) (by decide +kernel)), (ab_G_in (i := 65) (by decide +kernel) (by decide +kernel)), ⟨by decide, by decide, by decide +kernel⟩, by decide, by decide, _, _, rfl⟩
theorem mv_X4_goTo : ab_MV me_X4_goTo 4 1 := ⟨(ab_G_in (i := 393) (by decide +kernel) (by decide +kernel)), (ab_G_in (i := 391) (by decide +kernel) (by decide +kernel)), (ab_G_in (i := 392) (by decide +kernel) (by decide +kernel)), (ab_G_in (i := 65) (by decide +kernel) (by decide +kernel)), ⟨by decide, by decide, by decide +kernel⟩, by decide, by decide, _, _, rfl⟩
theorem mv_X4_heaviness : ab_MV me_X4_heaviness 4 0 := ⟨(ab_G_in (i := 897) (by decide +kernel) (by decide +kernel)), (ab_G_in (i := 895) (by decide +kernel) (by decide +kernel)), (ab_G_in (i := 896) (by decide +kernel) (by decide +kernel)), (ab_G_in (i := 65) (by decide +kernel) (by decide +kernel)), ⟨by decide, by decide, by decide +kernel⟩, by decide, by decide, _, _, rfl⟩
theorem mv_X4_takeAll : ab_MV me_X4_takeAll 4 1 := ⟨(ab_G_in (i := 845) (by decide +kernel) (by decide +kernel)), (ab_G_in (i := 843) (by decide +kernel) (by decide +kernel)), (ab_G_in (i := 844) (by decide +kernel) (by decide +kernel)), (ab_G_in (i := 65) (by decide +kernel) (by decide +kernel)), ⟨by decide, by decide, by decide +kernel⟩, by decide, by decide, _, _, rfl⟩
theorem mv_X4_trait : ab_MV me_X4_trait 4 1 := ⟨(ab_G_in (i := 825) (by decide +kernel) (by decide +kernel)), (ab_G_in (i := 823) (by decide +kernel) (by decide +kernel)), (ab_G_in (i := 824) (by decide +kernel) (by decide +kernel)), (ab_G_in (i := 65) (by decide +kernel) (by decide +kernel)), ⟨by decide, by decide, by decide +kernel⟩, by decide, by decide, _, _, rfl⟩
theorem mv_X5_canChange : ab_MV me_X5_canChange 5 2 := ⟨(ab_G_in (i := 674) (by decide +kernel) (by decide +kernel)), (ab_G_in (i := 673) (by decide +kernel) (by decide +kernel)), (ab_G_in (i := 9) (by decide +kernel) (by decide +kernel)), (ab_G_in (i := 69) (by decide +kernel) (by decide +kernel)), ⟨by decide, by decide, by decide +kernel⟩, by decide, by decide, _, _, rfl⟩
theorem mv_X5_changeBoth : ab_MV me_X5_changeBoth 5 3 := ⟨(ab_G_in (i := 720) (by decide +kernel) (by decide +kernel)), (ab_G_in (i := 719) (by decide +kernel) (by decide +kernel)), (ab_G_in (i := 14) (by decide +kernel) (by decide +kernel)), (ab_G_in (i := 69) (by decide +kernel) (by decide +kernel)), ⟨by decide, by decide, by decide +kernel⟩, by decide, by decide, _, _, rfl⟩
theorem mv_X5_changeOne : ab_MV me_X5_changeOne 5 1 := ⟨(ab_G_in (i := 706) (by decide +kernel) (by decide +kernel)), (ab_G_in (i := 704) (by decide +kernel) (by decide +kernel)), (ab_G_in (i := 705) (by decide +kernel) (by decide +kernel)), (ab_G_in (i := 69) (by decide +kernel) (by decide +kernel)), ⟨by decide, by decide, by decide +kernel⟩, by decide, by decide, _, _, rfl⟩
theorem mv_X5_changeTwo : ab_MV me_X5_changeTwo 5 1 := ⟨(ab_G_in (i := 716) (by decide +kernel) (by decide +kernel)), (ab_G_in (i := 714) (by decide +kernel) (by decide +kernel)), (ab_G_in (i := 715) (by decide +kernel) (by decide +kernel)), (ab_G_in (i := 69) (by decide +kernel) (by decide +kernel)), ⟨by decide, by decide, by decide +kernel⟩, by decide, by decide, _, _, rfl⟩
theorem mv_X5_improve : ab_MV me_X5_improve 5 1 := ⟨(ab_G_in (i := 670) (by decide +kernel) (by decide +kernel)), (ab_G_in (i := 668) (by decide +kernel) (by decide +kernel)), (ab_G_in (i := 669) (by decide +kernel) (by decide +kernel)), (ab_G_in (i := 69) (by decide +kernel) (by decide +kernel)), ⟨by decide, by decide, by decide +kernel⟩, by decide, by decide, _, _, rfl⟩
theorem mv_X5_leastFree : ab_MV me_X5_leastFree 5 3 := ⟨(ab_G_in (i := 711) (by decide +kernel) (by decide +kernel)), (ab_G_in (i := 710) (by decide +kernel) (by decide +kernel)), (ab_G_in (i := 13) (by decide +kernel) (by decide +kernel)), (ab_G_in (i := 69) (by decide +kernel) (by decide +kernel)), ⟨by decide, by decide, by decide +kernel⟩, by decide, by decide, _, _, rfl⟩
theorem mv_X6_at : ab_MV me_X6_at 6 1 := ⟨(ab_G_in (i := 1024) (by decide +kernel) (by decide +kernel)), (ab_G_in (i := 1022) (by decide +kernel) (by decide +kernel)), (ab_G_in (i := 1023) (by decide +kernel) (by decide +kernel)), (ab_G_in (i := 71) (by decide +kernel) (by decide +kernel)), ⟨by decide, by decide, by decide +kernel⟩, by decide, by decide, _, _, rfl⟩
theorem mv_X6_clear : ab_MV me_X6_clear 6 0 := ⟨(ab_G_in (i := 837) (by decide +kernel) (by decide +kernel)), (ab_G_in (i := 835) (by decide +kernel) (by decide +kernel)), (ab_G_in (i := 836) (by decide +kernel) (by decide +kernel)), (ab_G_in (i := 71) (by decide +kernel) (by decide +kernel)), ⟨by decide, by decide, by decide +kernel⟩, by decide, by decide, _, _, rfl⟩
theorem mv_X6_copyTo : ab_MV me_X6_copyTo 6 4 := ⟨(ab_G_in (i := 884) (by decide +kernel) (by decide +kernel)), (ab_G_in (i := 882) (by decide +kernel) (by decide +kernel)), (ab_G_in (i := 883) (by decide +kernel) (by decide +kernel)), (ab_G_in (i := 71) (by decide +kernel) (by decide +kernel)), ⟨by decide, by decide, by decide +kernel⟩, by decide, by decide, _, _, rfl⟩
theorem mv_X6_hasRange : ab_MV me_X6_hasRange 6 2 := ⟨(ab_G_in (i := 880) (by decide +kernel) (by decide +kernel)), (ab_G_in (i := 878) (by decide +kernel) (by decide +kernel)), (ab_G_in (i := 879) (by decide +kernel) (by decide +kernel)), (ab_G_in (i := 71) (by decide +kernel) (by decide +kernel)), ⟨by decide, by decide, by decide +kernel⟩, by decide, by decide, _, _, rfl⟩
theorem mv_X6_isRow : ab_MV me_X6_isRow 6 0 := ⟨(ab_G_in (i := 876) (by decide +kernel) (by decide +kernel)), (ab_G_in (i := 874) (by decide +kernel) (by decide +kernel)), (ab_G_in (i := 875) (by decide +kernel) (by decide +kernel)), (ab_G_in (i := 71) (by decide +kernel) (by decide +kernel)), ⟨by decide, by decide, by decide +kernel⟩, by decide, by decide, _, _, rfl⟩
theorem mv_X6_takeChannels : ab_MV me_X6_takeChannels 6 2 := ⟨(ab_G_in (i := 849) (by decide +kernel) (by decide +kernel)), (ab_G_in (i := 847) (by decide +kernel) (by decide +kernel)), (ab_G_in (i := 848) (by decide +kernel) (by decide +kernel)), (ab_G_in (i := 71) (by decide +kernel) (by decide +kernel)), ⟨by decide, by decide, by decide +kernel⟩, by decide, by decide, _, _, rfl⟩
theorem mv_X6_takeMast : ab_MV me_X6_takeMast 6 1 := ⟨(ab_G_in (i := 841) (by decide +kernel) (by decide +kernel)), (ab_G_in (i := 839) (by decide +kernel) (by decide +kernel)), (ab_G_in (i := 840) (by decide +kernel) (by decide +kernel)), (ab_G_in (i := 71) (by decide +kernel) (by decide +kernel)), ⟨by decide, by decide, by decide +kernel⟩, by decide, by decide, _, _, rfl⟩
theorem mv_X6_takeSquares : ab_MV me_X6_takeSquares 6 2 := ⟨(ab_G_in (i := 853) (by decide +kernel) (by decide +kernel)), (ab_G_in (i := 851) (by decide +kernel) (by decide +kernel)), (ab_G_in (i := 852) (by decide +kernel) (by decide +kernel)), (ab_G_in (i := 71) (by decide +kernel) (by decide +kernel)), ⟨by decide, by decide, by decide +kernel⟩, by decide, by decide, _, _, rfl⟩
theorem mv_X6_takeZeros : ab_MV me_X6_takeZeros 6 2 := ⟨(ab_G_in (i := 862) (by decide +kernel) (by decide +kernel)), (ab_G_in (i := 860) (by decide +kernel) (by decide +kernel)), (ab_G_in (i := 861) (by decide +kernel) (by decide +kernel)), (ab_G_in (i := 71) (by decide +kernel) (by decide +kernel)), ⟨by decide, by decide, by decide +kernel⟩, by decide, by decide, _, _, rfl⟩
theorem mv_X7_add : ab_MV me_X7_add 7 3 := ⟨(ab_G_in (i := 465) (by decide +kernel) (by decide +kernel)), (ab_G_in (i := 463) (by decide +kernel) (by decide +kernel)), (ab_G_in (i := 464) (by decide +kernel) (by decide +kernel)), (ab_G_in (i := 63) (by decide +kernel) (by decide +kernel)), ⟨by decide, by decide, by decide +kernel⟩, by decide, by decide, _, _, rfl⟩
theorem mv_X7_greatest : ab_MV me_X7_greatest 7 2 := ⟨(ab_G_in (i := 410) (by decide +kernel) (by decide +kernel)), (ab_G_in (i := 408) (by decide +kernel) (by decide +kernel)), (ab_G_in (i := 409) (by decide +kernel) (by decide +kernel)), (ab_G_in (i := 63) (by decide +kernel) (by decide +kernel)), ⟨by decide, by decide, by decide +kernel⟩, by decide, by decide, _, _, rfl⟩
theorem mv_X8_below : ab_MS me_X8_below 1 := ⟨(ab_G_in (i := 632) (by decide +kernel) (by decide +kernel)), (ab_G_in (i := 631) (by decide +kernel) (by decide +kernel)), (ab_G_in (i := 68) (by decide +kernel) (by decide +kernel)), ⟨by decide, by decide, by decide +kernel⟩, by decide⟩
theorem mv_X8_handOver : ab_MV me_X8_handOver 8 1 := ⟨(ab_G_in (i := 641) (by decide +kernel) (by decide +kernel)), (ab_G_in (i := 639) (by decide +kernel) (by decide +kernel)), (ab_G_in (i := 640) (by decide +kernel) (by decide +kernel)), (ab_G_in (i := 68) (by decide +kernel) (by decide +kernel)), ⟨by decide, by decide, by decide +kernel⟩, by decide, by decide, _, _, rfl⟩
theorem mv_X8_open : ab_MV me_X8_open 8 2 := ⟨(ab_G_in (i := 608) (by decide +kernel) (by decide +kernel)), (ab_G_in (i := 607) (by decide +kernel) (by decide +kernel)), (ab_G_in (i := 4) (by decide +kernel) (by decide +kernel)), (ab_G_in (i := 68) (by decide +kernel) (by decide +kernel)), ⟨by decide, by decide, by decide +kernel⟩, by decide, by decide, _, _, rfl⟩
theorem mv_X8_search : ab_MV me_X8_search 8 1 := ⟨(ab_G_in (i := 604) (by decide +kernel) (by decide +kernel)), (ab_G_in (i := 602) (by decide +kernel) (by decide +kernel)), (ab_G_in (i := 603) (by decide +kernel) (by decide +kernel)), (ab_G_in (i := 68) (by decide +kernel) (by decide +kernel)), ⟨by decide, by decide, by decide +kernel⟩, by decide, by decide, _, _, rfl⟩
theorem mv_X8_takes : ab_MV me_X8_takes 8 1 := ⟨(ab_G_in (i := 637) (by decide +kernel) (by decide +kernel)), (ab_G_in (i := 636) (by decide +kernel) (by decide +kernel)), (ab_G_in (i := 8) (by decide +kernel) (by decide +kernel)), (ab_G_in (i := 68) (by decide +kernel) (by decide +kernel)), ⟨by decide, by decide, by decide +kernel⟩, by decide, by decide, _, _, rfl⟩
theorem mv_X9_bar : ab_MV me_X9_bar 9 2 := ⟨(ab_G_in (i := 510) (by decide +kernel) (by decide +kernel)), (ab_G_in (i := 508) (by decide +kernel) (by decide +kernel)), (ab_G_in (i := 509) (by decide +kernel) (by decide +kernel)), (ab_G_in (i := 61) (by decide +kernel) (by decide +kernel)), ⟨by decide, by decide, by decide +kernel⟩, by decide, by decide, _, _, rfl⟩
theorem mv_X9_better : ab_MV me_X9_better 9 1 := ⟨(ab_G_in (i := 666) (by decide +kernel) (by decide +kernel)), (ab_G_in (i := 664) (by decide +kernel) (by decide +kernel)), (ab_G_in (i := 665) (by decide +kernel) (by decide +kernel)), (ab_G_in (i := 61) (by decide +kernel) (by decide +kernel)), ⟨by decide, by decide, by decide +kernel⟩, by decide, by decide, _, _, rfl⟩
theorem mv_X9_border : ab_MV me_X9_border 9 4 := ⟨(ab_G_in (i := 474) (by decide +kernel) (by decide +kernel)), (ab_G_in (i := 472) (by decide +kernel) (by decide +kernel)), (ab_G_in (i := 473) (by decide +kernel) (by decide +kernel)), (ab_G_in (i := 61) (by decide +kernel) (by decide +kernel)), ⟨by decide, by decide, by decide +kernel⟩, by decide, by decide, _, _, rfl⟩
theorem mv_X9_bound : ab_MV me_X9_bound 9 1 := ⟨(ab_G_in (i := 724) (by decide +kernel) (by decide +kernel)), (ab_G_in (i := 722) (by decide +kernel) (by decide +kernel)), (ab_G_in (i := 723) (by decide +kernel) (by decide +kernel)), (ab_G_in (i := 61) (by decide +kernel) (by decide +kernel)), ⟨by decide, by decide, by decide +kernel⟩, by decide, by decide, _, _, rfl⟩
theorem mv_X9_broken : ab_MV me_X9_broken 9 1 := ⟨(ab_G_in (i := 585) (by decide +kernel) (by decide +kernel)), (ab_G_in (i := 583) (by decide +kernel) (by decide +kernel)), (ab_G_in (i := 584) (by decide +kernel) (by decide +kernel)), (ab_G_in (i := 61) (by decide +kernel) (by decide +kernel)), ⟨by decide, by decide, by decide +kernel⟩, by decide, by decide, _, _, rfl⟩
theorem mv_X9_channel : ab_MV me_X9_channel 9 1 := ⟨(ab_G_in (i := 524) (by decide +kernel) (by decide +kernel)), (ab_G_in (i := 522) (by decide +kernel) (by decide +kernel)), (ab_G_in (i := 523) (by decide +kernel) (by decide +kernel)), (ab_G_in (i := 61) (by decide +kernel) (by decide +kernel)), ⟨by decide, by decide, by decide +kernel⟩, by decide, by decide, _, _, rfl⟩
theorem mv_X9_copy : ab_MV me_X9_copy 9 5 := ⟨(ab_G_in (i := 872) (by decide +kernel) (by decide +kernel)), (ab_G_in (i := 870) (by decide +kernel) (by decide +kernel)), (ab_G_in (i := 871) (by decide +kernel) (by decide +kernel)), (ab_G_in (i := 61) (by decide +kernel) (by decide +kernel)), ⟨by decide, by decide, by decide +kernel⟩, by decide, by decide, _, _, rfl⟩
theorem mv_X9_count : ab_MV me_X9_count 9 1 := ⟨(ab_G_in (i := 804) (by decide +kernel) (by decide +kernel)), (ab_G_in (i := 802) (by decide +kernel) (by decide +kernel)), (ab_G_in (i := 803) (by decide +kernel) (by decide +kernel)), (ab_G_in (i := 61) (by decide +kernel) (by decide +kernel)), ⟨by decide, by decide, by decide +kernel⟩, by decide, by decide, _, _, rfl⟩
theorem mv_X9_crowd : ab_MV me_X9_crowd 9 0 := ⟨(ab_G_in (i := 763) (by decide +kernel) (by decide +kernel)), (ab_G_in (i := 761) (by decide +kernel) (by decide +kernel)), (ab_G_in (i := 762) (by decide +kernel) (by decide +kernel)), (ab_G_in (i := 61) (by decide +kernel) (by decide +kernel)), ⟨by decide, by decide, by decide +kernel⟩, by decide, by decide, _, _, rfl⟩
theorem mv_X9_fewest : ab_MV me_X9_fewest 9 1 := ⟨(ab_G_in (i := 697) (by decide +kernel) (by decide +kernel)), (ab_G_in (i := 695) (by decide +kernel) (by decide +kernel)), (ab_G_in (i := 696) (by decide +kernel) (by decide +kernel)), (ab_G_in (i := 61) (by decide +kernel) (by decide +kernel)), ⟨by decide, by decide, by decide +kernel⟩, by decide, by decide, _, _, rfl⟩
theorem mv_X9_gap : ab_MV me_X9_gap 9 2 := ⟨(ab_G_in (i := 445) (by decide +kernel) (by decide +kernel)), (ab_G_in (i := 443) (by decide +kernel) (by decide +kernel)), (ab_G_in (i := 444) (by decide +kernel) (by decide +kernel)), (ab_G_in (i := 61) (by decide +kernel) (by decide +kernel)), ⟨by decide, by decide, by decide +kernel⟩, by decide, by decide, _, _, rfl⟩
theorem mv_X9_harm : ab_MV me_X9_harm 9 0 := ⟨(ab_G_in (i := 532) (by decide +kernel) (by decide +kernel)), (ab_G_in (i := 530) (by decide +kernel) (by decide +kernel)), (ab_G_in (i := 531) (by decide +kernel) (by decide +kernel)), (ab_G_in (i := 61) (by decide +kernel) (by decide +kernel)), ⟨by decide, by decide, by decide +kernel⟩, by decide, by decide, _, _, rfl⟩
theorem mv_X9_image : ab_MV me_X9_image 9 0 := ⟨(ab_G_in (i := 795) (by decide +kernel) (by decide +kernel)), (ab_G_in (i := 793) (by decide +kernel) (by decide +kernel)), (ab_G_in (i := 794) (by decide +kernel) (by decide +kernel)), (ab_G_in (i := 61) (by decide +kernel) (by decide +kernel)), ⟨by decide, by decide, by decide +kernel⟩, by decide, by decide, _, _, rfl⟩
theorem mv_X9_isPlace : ab_MS me_X9_isPlace 1 := ⟨(ab_G_in (i := 381) (by decide +kernel) (by decide +kernel)), (ab_G_in (i := 380) (by decide +kernel) (by decide +kernel)), (ab_G_in (i := 61) (by decide +kernel) (by decide +kernel)), ⟨by decide, by decide, by decide +kernel⟩, by decide⟩
theorem mv_X9_isShelf : ab_MS me_X9_isShelf 1 := ⟨(ab_G_in (i := 833) (by decide +kernel) (by decide +kernel)), (ab_G_in (i := 832) (by decide +kernel) (by decide +kernel)), (ab_G_in (i := 61) (by decide +kernel) (by decide +kernel)), ⟨by decide, by decide, by decide +kernel⟩, by decide⟩
theorem mv_X9_keep : ab_MV me_X9_keep 9 3 := ⟨(ab_G_in (i := 830) (by decide +kernel) (by decide +kernel)), (ab_G_in (i := 828) (by decide +kernel) (by decide +kernel)), (ab_G_in (i := 829) (by decide +kernel) (by decide +kernel)), (ab_G_in (i := 61) (by decide +kernel) (by decide +kernel)), ⟨by decide, by decide, by decide +kernel⟩, by decide, by decide, _, _, rfl⟩
theorem mv_X9_kept : ab_MV me_X9_kept 9 0 := ⟨(ab_G_in (i := 577) (by decide +kernel) (by decide +kernel)), (ab_G_in (i := 575) (by decide +kernel) (by decide +kernel)), (ab_G_in (i := 576) (by decide +kernel) (by decide +kernel)), (ab_G_in (i := 61) (by decide +kernel) (by decide +kernel)), ⟨by decide, by decide, by decide +kernel⟩, by decide, by decide, _, _, rfl⟩
theorem mv_X9_least : ab_MV me_X9_least 9 0 := ⟨(ab_G_in (i := 652) (by decide +kernel) (by decide +kernel)), (ab_G_in (i := 650) (by decide +kernel) (by decide +kernel)), (ab_G_in (i := 651) (by decide +kernel) (by decide +kernel)), (ab_G_in (i := 61) (by decide +kernel) (by decide +kernel)), ⟨by decide, by decide, by decide +kernel⟩, by decide, by decide, _, _, rfl⟩
theorem mv_X9_list : ab_MV me_X9_list 9 2 := ⟨(ab_G_in (i := 434) (by decide +kernel) (by decide +kernel)), (ab_G_in (i := 432) (by decide +kernel) (by decide +kernel)), (ab_G_in (i := 433) (by decide +kernel) (by decide +kernel)), (ab_G_in (i := 61) (by decide +kernel) (by decide +kernel)), ⟨by decide, by decide, by decide +kernel⟩, by decide, by decide, _, _, rfl⟩
theorem mv_X9_look : ab_MV me_X9_look 9 2 := ⟨(ab_G_in (i := 821) (by decide +kernel) (by decide +kernel)), (ab_G_in (i := 819) (by decide +kernel) (by decide +kernel)), (ab_G_in (i := 820) (by decide +kernel) (by decide +kernel)), (ab_G_in (i := 61) (by decide +kernel) (by decide +kernel)), ⟨by decide, by decide, by decide +kernel⟩, by decide, by decide, _, _, rfl⟩
theorem mv_X9_make : ab_MV me_X9_make 9 3 := ⟨(ab_G_in (i := 858) (by decide +kernel) (by decide +kernel)), (ab_G_in (i := 856) (by decide +kernel) (by decide +kernel)), (ab_G_in (i := 857) (by decide +kernel) (by decide +kernel)), (ab_G_in (i := 61) (by decide +kernel) (by decide +kernel)), ⟨by decide, by decide, by decide +kernel⟩, by decide, by decide, _, _, rfl⟩
theorem mv_X9_mast : ab_MV me_X9_mast 9 4 := ⟨(ab_G_in (i := 375) (by decide +kernel) (by decide +kernel)), (ab_G_in (i := 373) (by decide +kernel) (by decide +kernel)), (ab_G_in (i := 374) (by decide +kernel) (by decide +kernel)), (ab_G_in (i := 61) (by decide +kernel) (by decide +kernel)), ⟨by decide, by decide, by decide +kernel⟩, by decide, by decide, _, _, rfl⟩
theorem mv_X9_may : ab_MV me_X9_may 9 2 := ⟨(ab_G_in (i := 515) (by decide +kernel) (by decide +kernel)), (ab_G_in (i := 513) (by decide +kernel) (by decide +kernel)), (ab_G_in (i := 514) (by decide +kernel) (by decide +kernel)), (ab_G_in (i := 61) (by decide +kernel) (by decide +kernel)), ⟨by decide, by decide, by decide +kernel⟩, by decide, by decide, _, _, rfl⟩
theorem mv_X9_move : ab_MV me_X9_move 9 2 := ⟨(ab_G_in (i := 417) (by decide +kernel) (by decide +kernel)), (ab_G_in (i := 415) (by decide +kernel) (by decide +kernel)), (ab_G_in (i := 416) (by decide +kernel) (by decide +kernel)), (ab_G_in (i := 61) (by decide +kernel) (by decide +kernel)), ⟨by decide, by decide, by decide +kernel⟩, by decide, by decide, _, _, rfl⟩
theorem mv_X9_of : ab_MV me_X9_of 9 1 := ⟨(ab_G_in (i := 528) (by decide +kernel) (by decide +kernel)), (ab_G_in (i := 526) (by decide +kernel) (by decide +kernel)), (ab_G_in (i := 527) (by decide +kernel) (by decide +kernel)), (ab_G_in (i := 61) (by decide +kernel) (by decide +kernel)), ⟨by decide, by decide, by decide +kernel⟩, by decide, by decide, _, _, rfl⟩
theorem mv_X9_own : ab_MV me_X9_own 9 2 := ⟨(ab_G_in (i := 470) (by decide +kernel) (by decide +kernel)), (ab_G_in (i := 468) (by decide +kernel) (by decide +kernel)), (ab_G_in (i := 469) (by decide +kernel) (by decide +kernel)), (ab_G_in (i := 61) (by decide +kernel) (by decide +kernel)), ⟨by decide, by decide, by decide +kernel⟩, by decide, by decide, _, _, rfl⟩
theorem mv_X9_pair : ab_MV me_X9_pair 9 2 := ⟨(ab_G_in (i := 595) (by decide +kernel) (by decide +kernel)), (ab_G_in (i := 593) (by decide +kernel) (by decide +kernel)), (ab_G_in (i := 594) (by decide +kernel) (by decide +kernel)), (ab_G_in (i := 61) (by decide +kernel) (by decide +kernel)), ⟨by decide, by decide, by decide +kernel⟩, by decide, by decide, _, _, rfl⟩
theorem mv_X9_part : ab_MV me_X9_part 9 1 := ⟨(ab_G_in (i := 779) (by decide +kernel) (by decide +kernel)), (ab_G_in (i := 777) (by decide +kernel) (by decide +kernel)), (ab_G_in (i := 778) (by decide +kernel) (by decide +kernel)), (ab_G_in (i := 61) (by decide +kernel) (by decide +kernel)), ⟨by decide, by decide, by decide +kernel⟩, by decide, by decide, _, _, rfl⟩
theorem mv_X9_plan : ab_MV me_X9_plan 9 1 := ⟨(ab_G_in (i := 600) (by decide +kernel) (by decide +kernel)), (ab_G_in (i := 598) (by decide +kernel) (by decide +kernel)), (ab_G_in (i := 599) (by decide +kernel) (by decide +kernel)), (ab_G_in (i := 61) (by decide +kernel) (by decide +kernel)), ⟨by decide, by decide, by decide +kernel⟩, by decide, by decide, _, _, rfl⟩
theorem mv_X9_refusalOfMast : ab_MV me_X9_refusalOfMast 9 1 := ⟨(ab_G_in (i := 893) (by decide +kernel) (by decide +kernel)), (ab_G_in (i := 892) (by decide +kernel) (by decide +kernel)), (ab_G_in (i := 24) (by decide +kernel) (by decide +kernel)), (ab_G_in (i := 61) (by decide +kernel) (by decide +kernel)), ⟨by decide, by decide, by decide +kernel⟩, by decide, by decide, _, _, rfl⟩
theorem mv_X9_restore : ab_MV me_X9_restore 9 0 := ⟨(ab_G_in (i := 800) (by decide +kernel) (by decide +kernel)), (ab_G_in (i := 798) (by decide +kernel) (by decide +kernel)), (ab_G_in (i := 799) (by decide +kernel) (by decide +kernel)), (ab_G_in (i := 61) (by decide +kernel) (by decide +kernel)), ⟨by decide, by decide, by decide +kernel⟩, by decide, by decide, _, _, rfl⟩
theorem mv_X9_row : ab_MV me_X9_row 9 3 := ⟨(ab_G_in (i := 461) (by decide +kernel) (by decide +kernel)), (ab_G_in (i := 459) (by decide +kernel) (by decide +kernel)), (ab_G_in (i := 460) (by decide +kernel) (by decide +kernel)), (ab_G_in (i := 61) (by decide +kernel) (by decide +kernel)), ⟨by decide, by decide, by decide +kernel⟩, by decide, by decide, _, _, rfl⟩
theorem mv_X9_set : ab_MV me_X9_set 9 2 := ⟨(ab_G_in (i := 520) (by decide +kernel) (by decide +kernel)), (ab_G_in (i := 518) (by decide +kernel) (by decide +kernel)), (ab_G_in (i := 519) (by decide +kernel) (by decide +kernel)), (ab_G_in (i := 61) (by decide +kernel) (by decide +kernel)), ⟨by decide, by decide, by decide +kernel⟩, by decide, by decide, _, _, rfl⟩
theorem mv_X9_span : ab_MV me_X9_span 9 0 := ⟨(ab_G_in (i := 656) (by decide +kernel) (by decide +kernel)), (ab_G_in (i := 654) (by decide +kernel) (by decide +kernel)), (ab_G_in (i := 655) (by decide +kernel) (by decide +kernel)), (ab_G_in (i := 61) (by decide +kernel) (by decide +kernel)), ⟨by decide, by decide, by decide +kernel⟩, by decide, by decide, _, _, rfl⟩
theorem mv_X9_stay : ab_MV me_X9_stay 9 2 := ⟨(ab_G_in (i := 449) (by decide +kernel) (by decide +kernel)), (ab_G_in (i := 447) (by decide +kernel) (by decide +kernel)), (ab_G_in (i := 448) (by decide +kernel) (by decide +kernel)), (ab_G_in (i := 61) (by decide +kernel) (by decide +kernel)), ⟨by decide, by decide, by decide +kernel⟩, by decide, by decide, _, _, rfl⟩
theorem mv_X9_tries : ab_MV me_X9_tries 9 0 := ⟨(ab_G_in (i := 648) (by decide +kernel) (by decide +kernel)), (ab_G_in (i := 646) (by decide +kernel) (by decide +kernel)), (ab_G_in (i := 647) (by decide +kernel) (by decide +kernel)), (ab_G_in (i := 61) (by decide +kernel) (by decide +kernel)), ⟨by decide, by decide, by decide +kernel⟩, by decide, by decide, _, _, rfl⟩
theorem mv_X9_turn : ab_MV me_X9_turn 9 0 := ⟨(ab_G_in (i := 482) (by decide +kernel) (by decide +kernel)), (ab_G_in (i := 480) (by decide +kernel) (by decide +kernel)), (ab_G_in (i := 481) (by decide +kernel) (by decide +kernel)), (ab_G_in (i := 61) (by decide +kernel) (by decide +kernel)), ⟨by decide, by decide, by decide +kernel⟩, by decide, by decide, _, _, rfl⟩
theorem mv_X9_weight : ab_MV me_X9_weight 9 1 := ⟨(ab_G_in (i := 889) (by decide +kernel) (by decide +kernel)), (ab_G_in (i := 887) (by decide +kernel) (by decide +kernel)), (ab_G_in (i := 888) (by decide +kernel) (by decide +kernel)), (ab_G_in (i := 61) (by decide +kernel) (by decide +kernel)), ⟨by decide, by decide, by decide +kernel⟩, by decide, by decide, _, _, rfl⟩
theorem mv_X9_within : ab_MS me_X9_within 3 := ⟨(ab_G_in (i := 378) (by decide +kernel) (by decide +kernel)), (ab_G_in (i := 377) (by decide +kernel) (by decide +kernel)), (ab_G_in (i := 61) (by decide +kernel) (by decide +kernel)), ⟨by decide, by decide, by decide +kernel⟩, by decide⟩
theorem kw_RX9_97 : Cond.constant RX9 97 1073741823 ∈ ab_G := (ab_G_in (i := 435) (by decide +kernel) (by decide +kernel))
theorem kw_RX9_205 : Cond.constant RX9 205 1000000 ∈ ab_G := (ab_G_in (i := 657) (by decide +kernel) (by decide +kernel))
theorem kw_RX0_73 : Cond.constant RX0 73 1000000 ∈ ab_G := (ab_G_in (i := 754) (by decide +kernel) (by decide +kernel))
theorem kw_RX1_38 : Cond.constant RX1 38 1073741823 ∈ ab_G := (ab_G_in (i := 502) (by decide +kernel) (by decide +kernel))
theorem kw_RX2_95 : Cond.constantLong RX2 95 (-1) ∈ ab_G := (ab_G_in (i := 628) (by decide +kernel) (by decide +kernel))
theorem kw_RX4_31 : Cond.constant RX4 31 1073741823 ∈ ab_G := (ab_G_in (i := 394) (by decide +kernel) (by decide +kernel))
theorem kw_RX8_68 : Cond.constant RX8 68 1073741823 ∈ ab_G := (ab_G_in (i := 633) (by decide +kernel) (by decide +kernel))
theorem kw_RX10_111 : Cond.constantLong RX10 111 60 ∈ ab_G := (ab_G_in (i := 1164) (by decide +kernel) (by decide +kernel))
theorem kw_RX10_117 : Cond.constant RX10 117 1073741824 ∈ ab_G := (ab_G_in (i := 1189) (by decide +kernel) (by decide +kernel))
theorem kw_RX10_118 : Cond.constantLong RX10 118 3 ∈ ab_G := (ab_G_in (i := 1157) (by decide +kernel) (by decide +kernel))
theorem kw_RX10_124 : Cond.constant RX10 124 1073741823 ∈ ab_G := (ab_G_in (i := 1165) (by decide +kernel) (by decide +kernel))
theorem kw_RX10_145 : Cond.constantLong RX10 145 10 ∈ ab_G := (ab_G_in (i := 1198) (by decide +kernel) (by decide +kernel))
theorem kw_RX10_150 : Cond.constantLong RX10 150 (-1) ∈ ab_G := (ab_G_in (i := 1207) (by decide +kernel) (by decide +kernel))
theorem kw_RX10_152 : Cond.constantLong RX10 152 29 ∈ ab_G := (ab_G_in (i := 1208) (by decide +kernel) (by decide +kernel))
theorem kw_RX10_154 : Cond.constantLong RX10 154 10000 ∈ ab_G := (ab_G_in (i := 1213) (by decide +kernel) (by decide +kernel))
theorem kw_RX10_156 : Cond.constantLong RX10 156 6 ∈ ab_G := (ab_G_in (i := 1214) (by decide +kernel) (by decide +kernel))
theorem kw_RX10_158 : Cond.constantLong RX10 158 4 ∈ ab_G := (ab_G_in (i := 1215) (by decide +kernel) (by decide +kernel))
theorem kw_RX10_203 : Cond.constantLong RX10 203 2 ∈ ab_G := (ab_G_in (i := 1304) (by decide +kernel) (by decide +kernel))
theorem kw_RX10_218 : Cond.constantLong RX10 218 30 ∈ ab_G := (ab_G_in (i := 1309) (by decide +kernel) (by decide +kernel))
theorem kw_RX10_229 : Cond.constantLong RX10 229 50 ∈ ab_G := (ab_G_in (i := 1346) (by decide +kernel) (by decide +kernel))
theorem kw_RX10_241 : Cond.constant RX10 241 1000000 ∈ ab_G := (ab_G_in (i := 1379) (by decide +kernel) (by decide +kernel))
theorem kw_RJ6_265 : Cond.constant RJ6 265 1431655765 ∈ ab_G := (ab_G_in (i := 439) (by decide +kernel) (by decide +kernel))
theorem kw_RJ6_266 : Cond.constant RJ6 266 858993459 ∈ ab_G := (ab_G_in (i := 440) (by decide +kernel) (by decide +kernel))
theorem kw_RJ6_267 : Cond.constant RJ6 267 252645135 ∈ ab_G := (ab_G_in (i := 441) (by decide +kernel) (by decide +kernel))
end
section
theorem dJ6_bitCount_0f7a4_0 : decode cJ6_bitCount_0f7a4 0 = .ok (.iload_n 0, 1) := by decide +kernel
theorem dJ6_bitCount_0f7a4_1 : decode cJ6_bitCount_0f7a4 1 = .ok (.iload_n 0, 1) := by decide +kernel
theorem dJ6_bitCount_0f7a4_2 : decode cJ6_bitCount_0f7a4 2 = .ok (.iconst 1, 1) := by decide +kernel
theorem dJ6_bitCount_0f7a4_3 : decode cJ6_bitCount_0f7a4 3 = .ok (.iushr, 1) := by decide +kernel
theorem dJ6_bitCount_0f7a4_4 : decode cJ6_bitCount_0f7a4 4 = .ok (.ldc_w 265, 3) := by decide +kernel
theorem dJ6_bitCount_0f7a4_7 : decode cJ6_bitCount_0f7a4 7 = .ok (.iand, 1) := by decide +kernel
theorem dJ6_bitCount_0f7a4_8 : decode cJ6_bitCount_0f7a4 8 = .ok (.isub, 1) := by decide +kernel
theorem dJ6_bitCount_0f7a4_9 : decode cJ6_bitCount_0f7a4 9 = .ok (.istore_n 0, 1) := by decide +kernel
theorem dJ6_bitCount_0f7a4_10 : decode cJ6_bitCount_0f7a4 10 = .ok (.iload_n 0, 1) := by decide +kernel
theorem dJ6_bitCount_0f7a4_11 : decode cJ6_bitCount_0f7a4 11 = .ok (.ldc_w 266, 3) := by decide +kernel
theorem dJ6_bitCount_0f7a4_14 : decode cJ6_bitCount_0f7a4 14 = .ok (.iand, 1) := by decide +kernel
theorem dJ6_bitCount_0f7a4_15 : decode cJ6_bitCount_0f7a4 15 = .ok (.iload_n 0, 1) := by decide +kernel
theorem dJ6_bitCount_0f7a4_16 : decode cJ6_bitCount_0f7a4 16 = .ok (.iconst 2, 1) := by decide +kernel
theorem dJ6_bitCount_0f7a4_17 : decode cJ6_bitCount_0f7a4 17 = .ok (.iushr, 1) := by decide +kernel
theorem dJ6_bitCount_0f7a4_18 : decode cJ6_bitCount_0f7a4 18 = .ok (.ldc_w 266, 3) := by decide +kernel
theorem dJ6_bitCount_0f7a4_21 : decode cJ6_bitCount_0f7a4 21 = .ok (.iand, 1) := by decide +kernel
theorem dJ6_bitCount_0f7a4_22 : decode cJ6_bitCount_0f7a4 22 = .ok (.iadd, 1) := by decide +kernel
theorem dJ6_bitCount_0f7a4_23 : decode cJ6_bitCount_0f7a4 23 = .ok (.istore_n 0, 1) := by decide +kernel
theorem dJ6_bitCount_0f7a4_24 : decode cJ6_bitCount_0f7a4 24 = .ok (.iload_n 0, 1) := by decide +kernel
theorem dJ6_bitCount_0f7a4_25 : decode cJ6_bitCount_0f7a4 25 = .ok (.iload_n 0, 1) := by decide +kernel
theorem dJ6_bitCount_0f7a4_26 : decode cJ6_bitCount_0f7a4 26 = .ok (.iconst 4, 1) := by decide +kernel
theorem dJ6_bitCount_0f7a4_27 : decode cJ6_bitCount_0f7a4 27 = .ok (.iushr, 1) := by decide +kernel
theorem dJ6_bitCount_0f7a4_28 : decode cJ6_bitCount_0f7a4 28 = .ok (.iadd, 1) := by decide +kernel
theorem dJ6_bitCount_0f7a4_29 : decode cJ6_bitCount_0f7a4 29 = .ok (.ldc_w 267, 3) := by decide +kernel
theorem dJ6_bitCount_0f7a4_32 : decode cJ6_bitCount_0f7a4 32 = .ok (.iand, 1) := by decide +kernel
theorem dJ6_bitCount_0f7a4_33 : decode cJ6_bitCount_0f7a4 33 = .ok (.istore_n 0, 1) := by decide +kernel
theorem dJ6_bitCount_0f7a4_34 : decode cJ6_bitCount_0f7a4 34 = .ok (.iload_n 0, 1) := by decide +kernel
theorem dJ6_bitCount_0f7a4_35 : decode cJ6_bitCount_0f7a4 35 = .ok (.iload_n 0, 1) := by decide +kernel
theorem dJ6_bitCount_0f7a4_36 : decode cJ6_bitCount_0f7a4 36 = .ok (.bipush 8, 2) := by decide +kernel
theorem dJ6_bitCount_0f7a4_38 : decode cJ6_bitCount_0f7a4 38 = .ok (.iushr, 1) := by decide +kernel
theorem dJ6_bitCount_0f7a4_39 : decode cJ6_bitCount_0f7a4 39 = .ok (.iadd, 1) := by decide +kernel
theorem dJ6_bitCount_0f7a4_40 : decode cJ6_bitCount_0f7a4 40 = .ok (.istore_n 0, 1) := by decide +kernel
theorem dJ6_bitCount_0f7a4_41 : decode cJ6_bitCount_0f7a4 41 = .ok (.iload_n 0, 1) := by decide +kernel
theorem dJ6_bitCount_0f7a4_42 : decode cJ6_bitCount_0f7a4 42 = .ok (.iload_n 0, 1) := by decide +kernel
theorem dJ6_bitCount_0f7a4_43 : decode cJ6_bitCount_0f7a4 43 = .ok (.bipush 16, 2) := by decide +kernel
theorem dJ6_bitCount_0f7a4_45 : decode cJ6_bitCount_0f7a4 45 = .ok (.iushr, 1) := by decide +kernel
theorem dJ6_bitCount_0f7a4_46 : decode cJ6_bitCount_0f7a4 46 = .ok (.iadd, 1) := by decide +kernel
theorem dJ6_bitCount_0f7a4_47 : decode cJ6_bitCount_0f7a4 47 = .ok (.istore_n 0, 1) := by decide +kernel
theorem dJ6_bitCount_0f7a4_48 : decode cJ6_bitCount_0f7a4 48 = .ok (.iload_n 0, 1) := by decide +kernel
theorem dJ6_bitCount_0f7a4_49 : decode cJ6_bitCount_0f7a4 49 = .ok (.bipush 63, 2) := by decide +kernel
theorem dJ6_bitCount_0f7a4_51 : decode cJ6_bitCount_0f7a4 51 = .ok (.iand, 1) := by decide +kernel
theorem dJ6_bitCount_0f7a4_52 : decode cJ6_bitCount_0f7a4 52 = .ok (.ireturn, 1) := by decide +kernel
end
section
theorem dJ7_fill_d0a16_0 : decode cJ7_fill_d0a16 0 = .ok (.iconst 0, 1) := by decide +kernel
theorem dJ7_fill_d0a16_1 : decode cJ7_fill_d0a16 1 = .ok (.istore_n 3, 1) := by decide +kernel
theorem dJ7_fill_d0a16_2 : decode cJ7_fill_d0a16 2 = .ok (.aload_n 0, 1) := by decide +kernel
theorem dJ7_fill_d0a16_3 : decode cJ7_fill_d0a16 3 = .ok (.arraylength, 1) := by decide +kernel
theorem dJ7_fill_d0a16_4 : decode cJ7_fill_d0a16 4 = .ok (.istore 4, 2) := by decide +kernel
theorem dJ7_fill_d0a16_6 : decode cJ7_fill_d0a16 6 = .ok (.iload_n 3, 1) := by decide +kernel
theorem dJ7_fill_d0a16_7 : decode cJ7_fill_d0a16 7 = .ok (.iload 4, 2) := by decide +kernel
theorem dJ7_fill_d0a16_9 : decode cJ7_fill_d0a16 9 = .ok (.if_icmp .ge 13, 3) := by decide +kernel
theorem dJ7_fill_d0a16_12 : decode cJ7_fill_d0a16 12 = .ok (.aload_n 0, 1) := by decide +kernel
theorem dJ7_fill_d0a16_13 : decode cJ7_fill_d0a16 13 = .ok (.iload_n 3, 1) := by decide +kernel
theorem dJ7_fill_d0a16_14 : decode cJ7_fill_d0a16 14 = .ok (.lload_n 1, 1) := by decide +kernel
theorem dJ7_fill_d0a16_15 : decode cJ7_fill_d0a16 15 = .ok (.lastore, 1) := by decide +kernel
theorem dJ7_fill_d0a16_16 : decode cJ7_fill_d0a16 16 = .ok (.iinc 3 1, 3) := by decide +kernel
theorem dJ7_fill_d0a16_19 : decode cJ7_fill_d0a16 19 = .ok (.goto (-13), 3) := by decide +kernel
theorem dJ7_fill_d0a16_22 : decode cJ7_fill_d0a16 22 = .ok (.return_, 1) := by decide +kernel
theorem dJ7_fill_031fb_0 : decode cJ7_fill_031fb 0 = .ok (.iconst 0, 1) := by decide +kernel
theorem dJ7_fill_031fb_1 : decode cJ7_fill_031fb 1 = .ok (.istore_n 2, 1) := by decide +kernel
theorem dJ7_fill_031fb_2 : decode cJ7_fill_031fb 2 = .ok (.aload_n 0, 1) := by decide +kernel
theorem dJ7_fill_031fb_3 : decode cJ7_fill_031fb 3 = .ok (.arraylength, 1) := by decide +kernel
theorem dJ7_fill_031fb_4 : decode cJ7_fill_031fb 4 = .ok (.istore_n 3, 1) := by decide +kernel
theorem dJ7_fill_031fb_5 : decode cJ7_fill_031fb 5 = .ok (.iload_n 2, 1) := by decide +kernel
theorem dJ7_fill_031fb_6 : decode cJ7_fill_031fb 6 = .ok (.iload_n 3, 1) := by decide +kernel
theorem dJ7_fill_031fb_7 : decode cJ7_fill_031fb 7 = .ok (.if_icmp .ge 13, 3) := by decide +kernel
theorem dJ7_fill_031fb_10 : decode cJ7_fill_031fb 10 = .ok (.aload_n 0, 1) := by decide +kernel
theorem dJ7_fill_031fb_11 : decode cJ7_fill_031fb 11 = .ok (.iload_n 2, 1) := by decide +kernel
theorem dJ7_fill_031fb_12 : decode cJ7_fill_031fb 12 = .ok (.iload_n 1, 1) := by decide +kernel
theorem dJ7_fill_031fb_13 : decode cJ7_fill_031fb 13 = .ok (.bastore, 1) := by decide +kernel
theorem dJ7_fill_031fb_14 : decode cJ7_fill_031fb 14 = .ok (.iinc 2 1, 3) := by decide +kernel
theorem dJ7_fill_031fb_17 : decode cJ7_fill_031fb 17 = .ok (.goto (-12), 3) := by decide +kernel
theorem dJ7_fill_031fb_20 : decode cJ7_fill_031fb 20 = .ok (.return_, 1) := by decide +kernel
end
section
theorem dX4_begin_0 : decode cX4_begin 0 = .ok (.aload_n 0, 1) := by decide +kernel
theorem dX4_begin_1 : decode cX4_begin 1 = .ok (.iload_n 1, 1) := by decide +kernel
theorem dX4_begin_2 : decode cX4_begin 2 = .ok (.putfield 9, 3) := by decide +kernel
theorem dX4_begin_5 : decode cX4_begin 5 = .ok (.aload_n 0, 1) := by decide +kernel
theorem dX4_begin_6 : decode cX4_begin 6 = .ok (.iload_n 2, 1) := by decide +kernel
theorem dX4_begin_7 : decode cX4_begin 7 = .ok (.putfield 15, 3) := by decide +kernel
theorem dX4_begin_10 : decode cX4_begin 10 = .ok (.aload_n 0, 1) := by decide +kernel
theorem dX4_begin_11 : decode cX4_begin 11 = .ok (.iload_n 3, 1) := by decide +kernel
theorem dX4_begin_12 : decode cX4_begin 12 = .ok (.invokevirtual 18, 3) := by decide +kernel
theorem dX4_begin_15 : decode cX4_begin 15 = .ok (.aload_n 0, 1) := by decide +kernel
theorem dX4_begin_16 : decode cX4_begin 16 = .ok (.iload 4, 2) := by decide +kernel
theorem dX4_begin_18 : decode cX4_begin 18 = .ok (.putfield 22, 3) := by decide +kernel
theorem dX4_begin_21 : decode cX4_begin 21 = .ok (.aload_n 0, 1) := by decide +kernel
theorem dX4_begin_22 : decode cX4_begin 22 = .ok (.iload 5, 2) := by decide +kernel
theorem dX4_begin_24 : decode cX4_begin 24 = .ok (.putfield 25, 3) := by decide +kernel
theorem dX4_begin_27 : decode cX4_begin 27 = .ok (.aload_n 0, 1) := by decide +kernel
theorem dX4_begin_28 : decode cX4_begin 28 = .ok (.iload 6, 2) := by decide +kernel
theorem dX4_begin_30 : decode cX4_begin 30 = .ok (.putfield 28, 3) := by decide +kernel
theorem dX4_begin_33 : decode cX4_begin 33 = .ok (.aload_n 0, 1) := by decide +kernel
theorem dX4_begin_34 : decode cX4_begin 34 = .ok (.ldc 31, 2) := by decide +kernel
theorem dX4_begin_36 : decode cX4_begin 36 = .ok (.putfield 32, 3) := by decide +kernel
theorem dX4_begin_39 : decode cX4_begin 39 = .ok (.aload_n 0, 1) := by decide +kernel
theorem dX4_begin_40 : decode cX4_begin 40 = .ok (.iconst 5, 1) := by decide +kernel
theorem dX4_begin_41 : decode cX4_begin 41 = .ok (.putfield 35, 3) := by decide +kernel
theorem dX4_begin_44 : decode cX4_begin 44 = .ok (.return_, 1) := by decide +kernel
theorem dX4_goTo_0 : decode cX4_goTo 0 = .ok (.aload_n 0, 1) := by decide +kernel
theorem dX4_goTo_1 : decode cX4_goTo 1 = .ok (.iload_n 1, 1) := by decide +kernel
theorem dX4_goTo_2 : decode cX4_goTo 2 = .ok (.bipush 64, 2) := by decide +kernel
theorem dX4_goTo_4 : decode cX4_goTo 4 = .ok (.idiv, 1) := by decide +kernel
theorem dX4_goTo_5 : decode cX4_goTo 5 = .ok (.putfield 38, 3) := by decide +kernel
theorem dX4_goTo_8 : decode cX4_goTo 8 = .ok (.aload_n 0, 1) := by decide +kernel
theorem dX4_goTo_9 : decode cX4_goTo 9 = .ok (.iload_n 1, 1) := by decide +kernel
theorem dX4_goTo_10 : decode cX4_goTo 10 = .ok (.bipush 64, 2) := by decide +kernel
theorem dX4_goTo_12 : decode cX4_goTo 12 = .ok (.irem, 1) := by decide +kernel
theorem dX4_goTo_13 : decode cX4_goTo 13 = .ok (.putfield 41, 3) := by decide +kernel
theorem dX4_goTo_16 : decode cX4_goTo 16 = .ok (.return_, 1) := by decide +kernel
theorem dX4_takeAll_0 : decode cX4_takeAll 0 = .ok (.aload_n 0, 1) := by decide +kernel
theorem dX4_takeAll_1 : decode cX4_takeAll 1 = .ok (.aload_n 1, 1) := by decide +kernel
theorem dX4_takeAll_2 : decode cX4_takeAll 2 = .ok (.getfield 9, 3) := by decide +kernel
theorem dX4_takeAll_5 : decode cX4_takeAll 5 = .ok (.putfield 9, 3) := by decide +kernel
theorem dX4_takeAll_8 : decode cX4_takeAll 8 = .ok (.aload_n 0, 1) := by decide +kernel
theorem dX4_takeAll_9 : decode cX4_takeAll 9 = .ok (.aload_n 1, 1) := by decide +kernel
theorem dX4_takeAll_10 : decode cX4_takeAll 10 = .ok (.getfield 15, 3) := by decide +kernel
theorem dX4_takeAll_13 : decode cX4_takeAll 13 = .ok (.putfield 15, 3) := by decide +kernel
theorem dX4_takeAll_16 : decode cX4_takeAll 16 = .ok (.aload_n 0, 1) := by decide +kernel
theorem dX4_takeAll_17 : decode cX4_takeAll 17 = .ok (.aload_n 1, 1) := by decide +kernel
theorem dX4_takeAll_18 : decode cX4_takeAll 18 = .ok (.getfield 38, 3) := by decide +kernel
theorem dX4_takeAll_21 : decode cX4_takeAll 21 = .ok (.putfield 38, 3) := by decide +kernel
theorem dX4_takeAll_24 : decode cX4_takeAll 24 = .ok (.aload_n 0, 1) := by decide +kernel
theorem dX4_takeAll_25 : decode cX4_takeAll 25 = .ok (.aload_n 1, 1) := by decide +kernel
theorem dX4_takeAll_26 : decode cX4_takeAll 26 = .ok (.getfield 41, 3) := by decide +kernel
theorem dX4_takeAll_29 : decode cX4_takeAll 29 = .ok (.putfield 41, 3) := by decide +kernel
theorem dX4_takeAll_32 : decode cX4_takeAll 32 = .ok (.aload_n 0, 1) := by decide +kernel
theorem dX4_takeAll_33 : decode cX4_takeAll 33 = .ok (.aload_n 1, 1) := by decide +kernel
theorem dX4_takeAll_34 : decode cX4_takeAll 34 = .ok (.getfield 22, 3) := by decide +kernel
theorem dX4_takeAll_37 : decode cX4_takeAll 37 = .ok (.putfield 22, 3) := by decide +kernel
theorem dX4_takeAll_40 : decode cX4_takeAll 40 = .ok (.aload_n 0, 1) := by decide +kernel
theorem dX4_takeAll_41 : decode cX4_takeAll 41 = .ok (.aload_n 1, 1) := by decide +kernel
theorem dX4_takeAll_42 : decode cX4_takeAll 42 = .ok (.getfield 25, 3) := by decide +kernel
theorem dX4_takeAll_45 : decode cX4_takeAll 45 = .ok (.putfield 25, 3) := by decide +kernel
theorem dX4_takeAll_48 : decode cX4_takeAll 48 = .ok (.aload_n 0, 1) := by decide +kernel
theorem dX4_takeAll_49 : decode cX4_takeAll 49 = .ok (.aload_n 1, 1) := by decide +kernel
theorem dX4_takeAll_50 : decode cX4_takeAll 50 = .ok (.getfield 28, 3) := by decide +kernel
theorem dX4_takeAll_53 : decode cX4_takeAll 53 = .ok (.putfield 28, 3) := by decide +kernel
theorem dX4_takeAll_56 : decode cX4_takeAll 56 = .ok (.aload_n 0, 1) := by decide +kernel
theorem dX4_takeAll_57 : decode cX4_takeAll 57 = .ok (.aload_n 1, 1) := by decide +kernel
theorem dX4_takeAll_58 : decode cX4_takeAll 58 = .ok (.getfield 32, 3) := by decide +kernel
theorem dX4_takeAll_61 : decode cX4_takeAll 61 = .ok (.putfield 32, 3) := by decide +kernel
theorem dX4_takeAll_64 : decode cX4_takeAll 64 = .ok (.aload_n 0, 1) := by decide +kernel
theorem dX4_takeAll_65 : decode cX4_takeAll 65 = .ok (.aload_n 1, 1) := by decide +kernel
theorem dX4_takeAll_66 : decode cX4_takeAll 66 = .ok (.getfield 35, 3) := by decide +kernel
theorem dX4_takeAll_69 : decode cX4_takeAll 69 = .ok (.putfield 35, 3) := by decide +kernel
theorem dX4_takeAll_72 : decode cX4_takeAll 72 = .ok (.return_, 1) := by decide +kernel
theorem dX4_trait_0 : decode cX4_trait 0 = .ok (.iload_n 1, 1) := by decide +kernel
theorem dX4_trait_1 : decode cX4_trait 1 = .ok (.tableswitch 103 0 7 #[47, 52, 57, 62, 67, 72, 77, 85], 47) := by decide +kernel
theorem dX4_trait_48 : decode cX4_trait 48 = .ok (.aload_n 0, 1) := by decide +kernel
theorem dX4_trait_49 : decode cX4_trait 49 = .ok (.getfield 15, 3) := by decide +kernel
theorem dX4_trait_52 : decode cX4_trait 52 = .ok (.ireturn, 1) := by decide +kernel
theorem dX4_trait_53 : decode cX4_trait 53 = .ok (.aload_n 0, 1) := by decide +kernel
theorem dX4_trait_54 : decode cX4_trait 54 = .ok (.getfield 38, 3) := by decide +kernel
theorem dX4_trait_57 : decode cX4_trait 57 = .ok (.ireturn, 1) := by decide +kernel
theorem dX4_trait_58 : decode cX4_trait 58 = .ok (.aload_n 0, 1) := by decide +kernel
theorem dX4_trait_59 : decode cX4_trait 59 = .ok (.getfield 41, 3) := by decide +kernel
theorem dX4_trait_62 : decode cX4_trait 62 = .ok (.ireturn, 1) := by decide +kernel
theorem dX4_trait_63 : decode cX4_trait 63 = .ok (.aload_n 0, 1) := by decide +kernel
theorem dX4_trait_64 : decode cX4_trait 64 = .ok (.getfield 22, 3) := by decide +kernel
theorem dX4_trait_67 : decode cX4_trait 67 = .ok (.ireturn, 1) := by decide +kernel
theorem dX4_trait_68 : decode cX4_trait 68 = .ok (.aload_n 0, 1) := by decide +kernel
theorem dX4_trait_69 : decode cX4_trait 69 = .ok (.getfield 25, 3) := by decide +kernel
theorem dX4_trait_72 : decode cX4_trait 72 = .ok (.ireturn, 1) := by decide +kernel
theorem dX4_trait_73 : decode cX4_trait 73 = .ok (.aload_n 0, 1) := by decide +kernel
theorem dX4_trait_74 : decode cX4_trait 74 = .ok (.getfield 28, 3) := by decide +kernel
theorem dX4_trait_77 : decode cX4_trait 77 = .ok (.ireturn, 1) := by decide +kernel
theorem dX4_trait_78 : decode cX4_trait 78 = .ok (.aload_n 0, 1) := by decide +kernel
theorem dX4_trait_79 : decode cX4_trait 79 = .ok (.getfield 32, 3) := by decide +kernel
theorem dX4_trait_82 : decode cX4_trait 82 = .ok (.invokestatic 44, 3) := by decide +kernel
theorem dX4_trait_85 : decode cX4_trait 85 = .ok (.ireturn, 1) := by decide +kernel
theorem dX4_trait_86 : decode cX4_trait 86 = .ok (.aload_n 0, 1) := by decide +kernel
theorem dX4_trait_87 : decode cX4_trait 87 = .ok (.getfield 15, 3) := by decide +kernel
theorem dX4_trait_90 : decode cX4_trait 90 = .ok (.iconst 1, 1) := by decide +kernel
theorem dX4_trait_91 : decode cX4_trait 91 = .ok (.if_icmp .ne 10, 3) := by decide +kernel
theorem dX4_trait_94 : decode cX4_trait 94 = .ok (.aload_n 0, 1) := by decide +kernel
theorem dX4_trait_95 : decode cX4_trait 95 = .ok (.getfield 35, 3) := by decide +kernel
theorem dX4_trait_98 : decode cX4_trait 98 = .ok (.goto 5, 3) := by decide +kernel
theorem dX4_trait_101 : decode cX4_trait 101 = .ok (.bipush (-2), 2) := by decide +kernel
theorem dX4_trait_103 : decode cX4_trait 103 = .ok (.ireturn, 1) := by decide +kernel
theorem dX4_trait_104 : decode cX4_trait 104 = .ok (.iconst (-1), 1) := by decide +kernel
theorem dX4_trait_105 : decode cX4_trait 105 = .ok (.ireturn, 1) := by decide +kernel
theorem dX4_heaviness_0 : decode cX4_heaviness 0 = .ok (.aload_n 0, 1) := by decide +kernel
theorem dX4_heaviness_1 : decode cX4_heaviness 1 = .ok (.getfield 9, 3) := by decide +kernel
theorem dX4_heaviness_4 : decode cX4_heaviness 4 = .ok (.iconst 5, 1) := by decide +kernel
theorem dX4_heaviness_5 : decode cX4_heaviness 5 = .ok (.aload_n 0, 1) := by decide +kernel
theorem dX4_heaviness_6 : decode cX4_heaviness 6 = .ok (.getfield 25, 3) := by decide +kernel
theorem dX4_heaviness_9 : decode cX4_heaviness 9 = .ok (.imul, 1) := by decide +kernel
theorem dX4_heaviness_10 : decode cX4_heaviness 10 = .ok (.iadd, 1) := by decide +kernel
theorem dX4_heaviness_11 : decode cX4_heaviness 11 = .ok (.aload_n 0, 1) := by decide +kernel
theorem dX4_heaviness_12 : decode cX4_heaviness 12 = .ok (.getfield 22, 3) := by decide +kernel
theorem dX4_heaviness_15 : decode cX4_heaviness 15 = .ok (.iadd, 1) := by decide +kernel
theorem dX4_heaviness_16 : decode cX4_heaviness 16 = .ok (.istore_n 1, 1) := by decide +kernel
theorem dX4_heaviness_17 : decode cX4_heaviness 17 = .ok (.aload_n 0, 1) := by decide +kernel
theorem dX4_heaviness_18 : decode cX4_heaviness 18 = .ok (.getfield 15, 3) := by decide +kernel
theorem dX4_heaviness_21 : decode cX4_heaviness 21 = .ok (.tableswitch 43 1 3 #[27, 34, 39], 27) := by decide +kernel
theorem dX4_heaviness_48 : decode cX4_heaviness 48 = .ok (.iload_n 1, 1) := by decide +kernel
theorem dX4_heaviness_49 : decode cX4_heaviness 49 = .ok (.aload_n 0, 1) := by decide +kernel
theorem dX4_heaviness_50 : decode cX4_heaviness 50 = .ok (.getfield 35, 3) := by decide +kernel
theorem dX4_heaviness_53 : decode cX4_heaviness 53 = .ok (.iadd, 1) := by decide +kernel
theorem dX4_heaviness_54 : decode cX4_heaviness 54 = .ok (.ireturn, 1) := by decide +kernel
theorem dX4_heaviness_55 : decode cX4_heaviness 55 = .ok (.iload_n 1, 1) := by decide +kernel
theorem dX4_heaviness_56 : decode cX4_heaviness 56 = .ok (.bipush 100, 2) := by decide +kernel
theorem dX4_heaviness_58 : decode cX4_heaviness 58 = .ok (.iadd, 1) := by decide +kernel
theorem dX4_heaviness_59 : decode cX4_heaviness 59 = .ok (.ireturn, 1) := by decide +kernel
theorem dX4_heaviness_60 : decode cX4_heaviness 60 = .ok (.iconst 2, 1) := by decide +kernel
theorem dX4_heaviness_61 : decode cX4_heaviness 61 = .ok (.iload_n 1, 1) := by decide +kernel
theorem dX4_heaviness_62 : decode cX4_heaviness 62 = .ok (.imul, 1) := by decide +kernel
theorem dX4_heaviness_63 : decode cX4_heaviness 63 = .ok (.ireturn, 1) := by decide +kernel
theorem dX4_heaviness_64 : decode cX4_heaviness 64 = .ok (.iload_n 1, 1) := by decide +kernel
theorem dX4_heaviness_65 : decode cX4_heaviness 65 = .ok (.ireturn, 1) := by decide +kernel
end
section
theorem dX7_add_0 : decode cX7_add 0 = .ok (.aload_n 0, 1) := by decide +kernel
theorem dX7_add_1 : decode cX7_add 1 = .ok (.getfield 21, 3) := by decide +kernel
theorem dX7_add_4 : decode cX7_add 4 = .ok (.bipush 8, 2) := by decide +kernel
theorem dX7_add_6 : decode cX7_add 6 = .ok (.if_icmp .ge 43, 3) := by decide +kernel
theorem dX7_add_9 : decode cX7_add 9 = .ok (.aload_n 0, 1) := by decide +kernel
theorem dX7_add_10 : decode cX7_add 10 = .ok (.getfield 9, 3) := by decide +kernel
theorem dX7_add_13 : decode cX7_add 13 = .ok (.aload_n 0, 1) := by decide +kernel
theorem dX7_add_14 : decode cX7_add 14 = .ok (.getfield 21, 3) := by decide +kernel
theorem dX7_add_17 : decode cX7_add 17 = .ok (.iload_n 1, 1) := by decide +kernel
theorem dX7_add_18 : decode cX7_add 18 = .ok (.iastore, 1) := by decide +kernel
theorem dX7_add_19 : decode cX7_add 19 = .ok (.aload_n 0, 1) := by decide +kernel
theorem dX7_add_20 : decode cX7_add 20 = .ok (.getfield 15, 3) := by decide +kernel
theorem dX7_add_23 : decode cX7_add 23 = .ok (.aload_n 0, 1) := by decide +kernel
theorem dX7_add_24 : decode cX7_add 24 = .ok (.getfield 21, 3) := by decide +kernel
theorem dX7_add_27 : decode cX7_add 27 = .ok (.iload_n 2, 1) := by decide +kernel
theorem dX7_add_28 : decode cX7_add 28 = .ok (.iastore, 1) := by decide +kernel
theorem dX7_add_29 : decode cX7_add 29 = .ok (.aload_n 0, 1) := by decide +kernel
theorem dX7_add_30 : decode cX7_add 30 = .ok (.getfield 18, 3) := by decide +kernel
theorem dX7_add_33 : decode cX7_add 33 = .ok (.aload_n 0, 1) := by decide +kernel
theorem dX7_add_34 : decode cX7_add 34 = .ok (.getfield 21, 3) := by decide +kernel
theorem dX7_add_37 : decode cX7_add 37 = .ok (.iload_n 3, 1) := by decide +kernel
theorem dX7_add_38 : decode cX7_add 38 = .ok (.iastore, 1) := by decide +kernel
theorem dX7_add_39 : decode cX7_add 39 = .ok (.aload_n 0, 1) := by decide +kernel
theorem dX7_add_40 : decode cX7_add 40 = .ok (.dup, 1) := by decide +kernel
theorem dX7_add_41 : decode cX7_add 41 = .ok (.getfield 21, 3) := by decide +kernel
theorem dX7_add_44 : decode cX7_add 44 = .ok (.iconst 1, 1) := by decide +kernel
theorem dX7_add_45 : decode cX7_add 45 = .ok (.iadd, 1) := by decide +kernel
theorem dX7_add_46 : decode cX7_add 46 = .ok (.putfield 21, 3) := by decide +kernel
theorem dX7_add_49 : decode cX7_add 49 = .ok (.return_, 1) := by decide +kernel
theorem dX7_greatest_0 : decode cX7_greatest 0 = .ok (.iconst 0, 1) := by decide +kernel
theorem dX7_greatest_1 : decode cX7_greatest 1 = .ok (.istore_n 3, 1) := by decide +kernel
theorem dX7_greatest_2 : decode cX7_greatest 2 = .ok (.iconst 0, 1) := by decide +kernel
theorem dX7_greatest_3 : decode cX7_greatest 3 = .ok (.istore 4, 2) := by decide +kernel
theorem dX7_greatest_5 : decode cX7_greatest 5 = .ok (.iload 4, 2) := by decide +kernel
theorem dX7_greatest_7 : decode cX7_greatest 7 = .ok (.aload_n 0, 1) := by decide +kernel
theorem dX7_greatest_8 : decode cX7_greatest 8 = .ok (.getfield 21, 3) := by decide +kernel
theorem dX7_greatest_11 : decode cX7_greatest 11 = .ok (.if_icmp .ge 43, 3) := by decide +kernel
theorem dX7_greatest_14 : decode cX7_greatest 14 = .ok (.aload_n 0, 1) := by decide +kernel
theorem dX7_greatest_15 : decode cX7_greatest 15 = .ok (.getfield 9, 3) := by decide +kernel
theorem dX7_greatest_18 : decode cX7_greatest 18 = .ok (.iload 4, 2) := by decide +kernel
theorem dX7_greatest_20 : decode cX7_greatest 20 = .ok (.iaload, 1) := by decide +kernel
theorem dX7_greatest_21 : decode cX7_greatest 21 = .ok (.iload_n 1, 1) := by decide +kernel
theorem dX7_greatest_22 : decode cX7_greatest 22 = .ok (.if_icmp .lt 26, 3) := by decide +kernel
theorem dX7_greatest_25 : decode cX7_greatest 25 = .ok (.aload_n 0, 1) := by decide +kernel
theorem dX7_greatest_26 : decode cX7_greatest 26 = .ok (.getfield 15, 3) := by decide +kernel
theorem dX7_greatest_29 : decode cX7_greatest 29 = .ok (.iload 4, 2) := by decide +kernel
theorem dX7_greatest_31 : decode cX7_greatest 31 = .ok (.iaload, 1) := by decide +kernel
theorem dX7_greatest_32 : decode cX7_greatest 32 = .ok (.iload_n 2, 1) := by decide +kernel
theorem dX7_greatest_33 : decode cX7_greatest 33 = .ok (.if_icmp .gt 15, 3) := by decide +kernel
theorem dX7_greatest_36 : decode cX7_greatest 36 = .ok (.iload_n 3, 1) := by decide +kernel
theorem dX7_greatest_37 : decode cX7_greatest 37 = .ok (.aload_n 0, 1) := by decide +kernel
theorem dX7_greatest_38 : decode cX7_greatest 38 = .ok (.getfield 18, 3) := by decide +kernel
theorem dX7_greatest_41 : decode cX7_greatest 41 = .ok (.iload 4, 2) := by decide +kernel
theorem dX7_greatest_43 : decode cX7_greatest 43 = .ok (.iaload, 1) := by decide +kernel
theorem dX7_greatest_44 : decode cX7_greatest 44 = .ok (.invokestatic 25, 3) := by decide +kernel
theorem dX7_greatest_47 : decode cX7_greatest 47 = .ok (.istore_n 3, 1) := by decide +kernel
theorem dX7_greatest_48 : decode cX7_greatest 48 = .ok (.iinc 4 1, 3) := by decide +kernel
theorem dX7_greatest_51 : decode cX7_greatest 51 = .ok (.goto (-46), 3) := by decide +kernel
theorem dX7_greatest_54 : decode cX7_greatest 54 = .ok (.iload_n 3, 1) := by decide +kernel
theorem dX7_greatest_55 : decode cX7_greatest 55 = .ok (.ireturn, 1) := by decide +kernel
end
section
theorem dX1_tell_0 : decode cX1_tell 0 = .ok (.aload_n 0, 1) := by decide +kernel
theorem dX1_tell_1 : decode cX1_tell 1 = .ok (.iload_n 1, 1) := by decide +kernel
theorem dX1_tell_2 : decode cX1_tell 2 = .ok (.putfield 9, 3) := by decide +kernel
theorem dX1_tell_5 : decode cX1_tell 5 = .ok (.aload_n 0, 1) := by decide +kernel
theorem dX1_tell_6 : decode cX1_tell 6 = .ok (.iload_n 2, 1) := by decide +kernel
theorem dX1_tell_7 : decode cX1_tell 7 = .ok (.putfield 15, 3) := by decide +kernel
theorem dX1_tell_10 : decode cX1_tell 10 = .ok (.aload_n 0, 1) := by decide +kernel
theorem dX1_tell_11 : decode cX1_tell 11 = .ok (.iload_n 3, 1) := by decide +kernel
theorem dX1_tell_12 : decode cX1_tell 12 = .ok (.putfield 18, 3) := by decide +kernel
theorem dX1_tell_15 : decode cX1_tell 15 = .ok (.aload_n 0, 1) := by decide +kernel
theorem dX1_tell_16 : decode cX1_tell 16 = .ok (.iload 4, 2) := by decide +kernel
theorem dX1_tell_18 : decode cX1_tell 18 = .ok (.putfield 21, 3) := by decide +kernel
theorem dX1_tell_21 : decode cX1_tell 21 = .ok (.return_, 1) := by decide +kernel
theorem dX1_swap_0 : decode cX1_swap 0 = .ok (.aload_n 0, 1) := by decide +kernel
theorem dX1_swap_1 : decode cX1_swap 1 = .ok (.getfield 18, 3) := by decide +kernel
theorem dX1_swap_4 : decode cX1_swap 4 = .ok (.istore_n 1, 1) := by decide +kernel
theorem dX1_swap_5 : decode cX1_swap 5 = .ok (.aload_n 0, 1) := by decide +kernel
theorem dX1_swap_6 : decode cX1_swap 6 = .ok (.aload_n 0, 1) := by decide +kernel
theorem dX1_swap_7 : decode cX1_swap 7 = .ok (.getfield 21, 3) := by decide +kernel
theorem dX1_swap_10 : decode cX1_swap 10 = .ok (.putfield 18, 3) := by decide +kernel
theorem dX1_swap_13 : decode cX1_swap 13 = .ok (.aload_n 0, 1) := by decide +kernel
theorem dX1_swap_14 : decode cX1_swap 14 = .ok (.iload_n 1, 1) := by decide +kernel
theorem dX1_swap_15 : decode cX1_swap 15 = .ok (.putfield 21, 3) := by decide +kernel
theorem dX1_swap_18 : decode cX1_swap 18 = .ok (.return_, 1) := by decide +kernel
theorem dX1_allows_0 : decode cX1_allows 0 = .ok (.aload_n 1, 1) := by decide +kernel
theorem dX1_allows_1 : decode cX1_allows 1 = .ok (.getfield 24, 3) := by decide +kernel
theorem dX1_allows_4 : decode cX1_allows 4 = .ok (.iconst 3, 1) := by decide +kernel
theorem dX1_allows_5 : decode cX1_allows 5 = .ok (.if_icmp .ne 30, 3) := by decide +kernel
theorem dX1_allows_8 : decode cX1_allows 8 = .ok (.aload_n 0, 1) := by decide +kernel
theorem dX1_allows_9 : decode cX1_allows 9 = .ok (.getfield 9, 3) := by decide +kernel
theorem dX1_allows_12 : decode cX1_allows 12 = .ok (.iconst (-1), 1) := by decide +kernel
theorem dX1_allows_13 : decode cX1_allows 13 = .ok (.if_icmp .eq 22, 3) := by decide +kernel
theorem dX1_allows_16 : decode cX1_allows 16 = .ok (.aload_n 1, 1) := by decide +kernel
theorem dX1_allows_17 : decode cX1_allows 17 = .ok (.getfield 29, 3) := by decide +kernel
theorem dX1_allows_20 : decode cX1_allows 20 = .ok (.aload_n 0, 1) := by decide +kernel
theorem dX1_allows_21 : decode cX1_allows 21 = .ok (.getfield 9, 3) := by decide +kernel
theorem dX1_allows_24 : decode cX1_allows 24 = .ok (.isub, 1) := by decide +kernel
theorem dX1_allows_25 : decode cX1_allows 25 = .ok (.invokestatic 32, 3) := by decide +kernel
theorem dX1_allows_28 : decode cX1_allows 28 = .ok (.aload_n 0, 1) := by decide +kernel
theorem dX1_allows_29 : decode cX1_allows 29 = .ok (.getfield 15, 3) := by decide +kernel
theorem dX1_allows_32 : decode cX1_allows 32 = .ok (.if_icmp .le 6, 3) := by decide +kernel
theorem dX1_allows_35 : decode cX1_allows 35 = .ok (.ldc 38, 2) := by decide +kernel
theorem dX1_allows_37 : decode cX1_allows 37 = .ok (.ireturn, 1) := by decide +kernel
theorem dX1_allows_38 : decode cX1_allows 38 = .ok (.aload_n 1, 1) := by decide +kernel
theorem dX1_allows_39 : decode cX1_allows 39 = .ok (.getfield 29, 3) := by decide +kernel
theorem dX1_allows_42 : decode cX1_allows 42 = .ok (.aload_n 0, 1) := by decide +kernel
theorem dX1_allows_43 : decode cX1_allows 43 = .ok (.getfield 9, 3) := by decide +kernel
theorem dX1_allows_46 : decode cX1_allows 46 = .ok (.if_icmp .ge 10, 3) := by decide +kernel
theorem dX1_allows_49 : decode cX1_allows 49 = .ok (.aload_n 0, 1) := by decide +kernel
theorem dX1_allows_50 : decode cX1_allows 50 = .ok (.getfield 18, 3) := by decide +kernel
theorem dX1_allows_53 : decode cX1_allows 53 = .ok (.goto 7, 3) := by decide +kernel
theorem dX1_allows_56 : decode cX1_allows 56 = .ok (.aload_n 0, 1) := by decide +kernel
theorem dX1_allows_57 : decode cX1_allows 57 = .ok (.getfield 21, 3) := by decide +kernel
theorem dX1_allows_60 : decode cX1_allows 60 = .ok (.ireturn, 1) := by decide +kernel
end
section
theorem dX3_hasMast_0 : decode cX3_hasMast 0 = .ok (.iload_n 1, 1) := by decide +kernel
theorem dX3_hasMast_1 : decode cX3_hasMast 1 = .ok (.ifCond .lt 15, 3) := by decide +kernel
theorem dX3_hasMast_4 : decode cX3_hasMast 4 = .ok (.iload_n 1, 1) := by decide +kernel
theorem dX3_hasMast_5 : decode cX3_hasMast 5 = .ok (.aload_n 0, 1) := by decide +kernel
theorem dX3_hasMast_6 : decode cX3_hasMast 6 = .ok (.getfield 58, 3) := by decide +kernel
theorem dX3_hasMast_9 : decode cX3_hasMast 9 = .ok (.if_icmp .ge 7, 3) := by decide +kernel
theorem dX3_hasMast_12 : decode cX3_hasMast 12 = .ok (.iconst 1, 1) := by decide +kernel
theorem dX3_hasMast_13 : decode cX3_hasMast 13 = .ok (.goto 4, 3) := by decide +kernel
theorem dX3_hasMast_16 : decode cX3_hasMast 16 = .ok (.iconst 0, 1) := by decide +kernel
theorem dX3_hasMast_17 : decode cX3_hasMast 17 = .ok (.ireturn, 1) := by decide +kernel
theorem dX3_hasWant_0 : decode cX3_hasWant 0 = .ok (.iload_n 1, 1) := by decide +kernel
theorem dX3_hasWant_1 : decode cX3_hasWant 1 = .ok (.ifCond .lt 15, 3) := by decide +kernel
theorem dX3_hasWant_4 : decode cX3_hasWant 4 = .ok (.iload_n 1, 1) := by decide +kernel
theorem dX3_hasWant_5 : decode cX3_hasWant 5 = .ok (.aload_n 0, 1) := by decide +kernel
theorem dX3_hasWant_6 : decode cX3_hasWant 6 = .ok (.getfield 61, 3) := by decide +kernel
theorem dX3_hasWant_9 : decode cX3_hasWant 9 = .ok (.if_icmp .ge 7, 3) := by decide +kernel
theorem dX3_hasWant_12 : decode cX3_hasWant 12 = .ok (.iconst 1, 1) := by decide +kernel
theorem dX3_hasWant_13 : decode cX3_hasWant 13 = .ok (.goto 4, 3) := by decide +kernel
theorem dX3_hasWant_16 : decode cX3_hasWant 16 = .ok (.iconst 0, 1) := by decide +kernel
theorem dX3_hasWant_17 : decode cX3_hasWant 17 = .ok (.ireturn, 1) := by decide +kernel
theorem dX3_addMast_0 : decode cX3_addMast 0 = .ok (.aload_n 0, 1) := by decide +kernel
theorem dX3_addMast_1 : decode cX3_addMast 1 = .ok (.getfield 58, 3) := by decide +kernel
theorem dX3_addMast_4 : decode cX3_addMast 4 = .ok (.istore 5, 2) := by decide +kernel
theorem dX3_addMast_6 : decode cX3_addMast 6 = .ok (.aload_n 0, 1) := by decide +kernel
theorem dX3_addMast_7 : decode cX3_addMast 7 = .ok (.getfield 11, 3) := by decide +kernel
theorem dX3_addMast_10 : decode cX3_addMast 10 = .ok (.iload 5, 2) := by decide +kernel
theorem dX3_addMast_12 : decode cX3_addMast 12 = .ok (.aaload, 1) := by decide +kernel
theorem dX3_addMast_13 : decode cX3_addMast 13 = .ok (.iload 5, 2) := by decide +kernel
theorem dX3_addMast_15 : decode cX3_addMast 15 = .ok (.iload_n 1, 1) := by decide +kernel
theorem dX3_addMast_16 : decode cX3_addMast 16 = .ok (.iload_n 2, 1) := by decide +kernel
theorem dX3_addMast_17 : decode cX3_addMast 17 = .ok (.iload_n 3, 1) := by decide +kernel
theorem dX3_addMast_18 : decode cX3_addMast 18 = .ok (.iload 4, 2) := by decide +kernel
theorem dX3_addMast_20 : decode cX3_addMast 20 = .ok (.aload_n 0, 1) := by decide +kernel
theorem dX3_addMast_21 : decode cX3_addMast 21 = .ok (.getfield 61, 3) := by decide +kernel
theorem dX3_addMast_24 : decode cX3_addMast 24 = .ok (.invokevirtual 64, 3) := by decide +kernel
theorem dX3_addMast_27 : decode cX3_addMast 27 = .ok (.iconst 0, 1) := by decide +kernel
theorem dX3_addMast_28 : decode cX3_addMast 28 = .ok (.istore 6, 2) := by decide +kernel
theorem dX3_addMast_30 : decode cX3_addMast 30 = .ok (.iload 6, 2) := by decide +kernel
theorem dX3_addMast_32 : decode cX3_addMast 32 = .ok (.iload 4, 2) := by decide +kernel
theorem dX3_addMast_34 : decode cX3_addMast 34 = .ok (.if_icmp .ge 23, 3) := by decide +kernel
theorem dX3_addMast_37 : decode cX3_addMast 37 = .ok (.aload_n 0, 1) := by decide +kernel
theorem dX3_addMast_38 : decode cX3_addMast 38 = .ok (.getfield 17, 3) := by decide +kernel
theorem dX3_addMast_41 : decode cX3_addMast 41 = .ok (.aload_n 0, 1) := by decide +kernel
theorem dX3_addMast_42 : decode cX3_addMast 42 = .ok (.getfield 61, 3) := by decide +kernel
theorem dX3_addMast_45 : decode cX3_addMast 45 = .ok (.iload 6, 2) := by decide +kernel
theorem dX3_addMast_47 : decode cX3_addMast 47 = .ok (.iadd, 1) := by decide +kernel
theorem dX3_addMast_48 : decode cX3_addMast 48 = .ok (.iload 5, 2) := by decide +kernel
theorem dX3_addMast_50 : decode cX3_addMast 50 = .ok (.iastore, 1) := by decide +kernel
theorem dX3_addMast_51 : decode cX3_addMast 51 = .ok (.iinc 6 1, 3) := by decide +kernel
theorem dX3_addMast_54 : decode cX3_addMast 54 = .ok (.goto (-24), 3) := by decide +kernel
theorem dX3_addMast_57 : decode cX3_addMast 57 = .ok (.aload_n 0, 1) := by decide +kernel
theorem dX3_addMast_58 : decode cX3_addMast 58 = .ok (.dup, 1) := by decide +kernel
theorem dX3_addMast_59 : decode cX3_addMast 59 = .ok (.getfield 58, 3) := by decide +kernel
theorem dX3_addMast_62 : decode cX3_addMast 62 = .ok (.iconst 1, 1) := by decide +kernel
theorem dX3_addMast_63 : decode cX3_addMast 63 = .ok (.iadd, 1) := by decide +kernel
theorem dX3_addMast_64 : decode cX3_addMast 64 = .ok (.putfield 58, 3) := by decide +kernel
theorem dX3_addMast_67 : decode cX3_addMast 67 = .ok (.aload_n 0, 1) := by decide +kernel
theorem dX3_addMast_68 : decode cX3_addMast 68 = .ok (.dup, 1) := by decide +kernel
theorem dX3_addMast_69 : decode cX3_addMast 69 = .ok (.getfield 61, 3) := by decide +kernel
theorem dX3_addMast_72 : decode cX3_addMast 72 = .ok (.iload 4, 2) := by decide +kernel
theorem dX3_addMast_74 : decode cX3_addMast 74 = .ok (.iadd, 1) := by decide +kernel
theorem dX3_addMast_75 : decode cX3_addMast 75 = .ok (.putfield 61, 3) := by decide +kernel
theorem dX3_addMast_78 : decode cX3_addMast 78 = .ok (.aload_n 0, 1) := by decide +kernel
theorem dX3_addMast_79 : decode cX3_addMast 79 = .ok (.invokevirtual 68, 3) := by decide +kernel
theorem dX3_addMast_82 : decode cX3_addMast 82 = .ok (.iload 5, 2) := by decide +kernel
theorem dX3_addMast_84 : decode cX3_addMast 84 = .ok (.ireturn, 1) := by decide +kernel
theorem dX3_shift_0 : decode cX3_shift 0 = .ok (.aload_n 0, 1) := by decide +kernel
theorem dX3_shift_1 : decode cX3_shift 1 = .ok (.getfield 11, 3) := by decide +kernel
theorem dX3_shift_4 : decode cX3_shift 4 = .ok (.iload_n 1, 1) := by decide +kernel
theorem dX3_shift_5 : decode cX3_shift 5 = .ok (.aaload, 1) := by decide +kernel
theorem dX3_shift_6 : decode cX3_shift 6 = .ok (.iload_n 2, 1) := by decide +kernel
theorem dX3_shift_7 : decode cX3_shift 7 = .ok (.invokevirtual 71, 3) := by decide +kernel
theorem dX3_shift_10 : decode cX3_shift 10 = .ok (.iconst 0, 1) := by decide +kernel
theorem dX3_shift_11 : decode cX3_shift 11 = .ok (.istore_n 3, 1) := by decide +kernel
theorem dX3_shift_12 : decode cX3_shift 12 = .ok (.iconst 0, 1) := by decide +kernel
theorem dX3_shift_13 : decode cX3_shift 13 = .ok (.istore 4, 2) := by decide +kernel
theorem dX3_shift_15 : decode cX3_shift 15 = .ok (.iload 4, 2) := by decide +kernel
theorem dX3_shift_17 : decode cX3_shift 17 = .ok (.aload_n 0, 1) := by decide +kernel
theorem dX3_shift_18 : decode cX3_shift 18 = .ok (.getfield 58, 3) := by decide +kernel
theorem dX3_shift_21 : decode cX3_shift 21 = .ok (.if_icmp .ge 34, 3) := by decide +kernel
theorem dX3_shift_24 : decode cX3_shift 24 = .ok (.iload_n 3, 1) := by decide +kernel
theorem dX3_shift_25 : decode cX3_shift 25 = .ok (.aload_n 0, 1) := by decide +kernel
theorem dX3_shift_26 : decode cX3_shift 26 = .ok (.iload_n 1, 1) := by decide +kernel
theorem dX3_shift_27 : decode cX3_shift 27 = .ok (.iload 4, 2) := by decide +kernel
theorem dX3_shift_29 : decode cX3_shift 29 = .ok (.invokevirtual 75, 3) := by decide +kernel
theorem dX3_shift_32 : decode cX3_shift 32 = .ok (.aload_n 0, 1) := by decide +kernel
theorem dX3_shift_33 : decode cX3_shift 33 = .ok (.iload_n 1, 1) := by decide +kernel
theorem dX3_shift_34 : decode cX3_shift 34 = .ok (.iload 4, 2) := by decide +kernel
theorem dX3_shift_36 : decode cX3_shift 36 = .ok (.invokevirtual 79, 3) := by decide +kernel
theorem dX3_shift_39 : decode cX3_shift 39 = .ok (.if_icmp .eq 7, 3) := by decide +kernel
theorem dX3_shift_42 : decode cX3_shift 42 = .ok (.iconst 1, 1) := by decide +kernel
theorem dX3_shift_43 : decode cX3_shift 43 = .ok (.goto 4, 3) := by decide +kernel
theorem dX3_shift_46 : decode cX3_shift 46 = .ok (.iconst 0, 1) := by decide +kernel
theorem dX3_shift_47 : decode cX3_shift 47 = .ok (.iadd, 1) := by decide +kernel
theorem dX3_shift_48 : decode cX3_shift 48 = .ok (.istore_n 3, 1) := by decide +kernel
theorem dX3_shift_49 : decode cX3_shift 49 = .ok (.iinc 4 1, 3) := by decide +kernel
theorem dX3_shift_52 : decode cX3_shift 52 = .ok (.goto (-37), 3) := by decide +kernel
theorem dX3_shift_55 : decode cX3_shift 55 = .ok (.aload_n 0, 1) := by decide +kernel
theorem dX3_shift_56 : decode cX3_shift 56 = .ok (.invokevirtual 68, 3) := by decide +kernel
theorem dX3_shift_59 : decode cX3_shift 59 = .ok (.iload_n 3, 1) := by decide +kernel
theorem dX3_shift_60 : decode cX3_shift 60 = .ok (.ireturn, 1) := by decide +kernel
theorem dX3_measure_0 : decode cX3_measure 0 = .ok (.iconst 0, 1) := by decide +kernel
theorem dX3_measure_1 : decode cX3_measure 1 = .ok (.istore_n 1, 1) := by decide +kernel
theorem dX3_measure_2 : decode cX3_measure 2 = .ok (.iload_n 1, 1) := by decide +kernel
theorem dX3_measure_3 : decode cX3_measure 3 = .ok (.aload_n 0, 1) := by decide +kernel
theorem dX3_measure_4 : decode cX3_measure 4 = .ok (.getfield 58, 3) := by decide +kernel
theorem dX3_measure_7 : decode cX3_measure 7 = .ok (.if_icmp .ge 83, 3) := by decide +kernel
theorem dX3_measure_10 : decode cX3_measure 10 = .ok (.aload_n 0, 1) := by decide +kernel
theorem dX3_measure_11 : decode cX3_measure 11 = .ok (.getfield 41, 3) := by decide +kernel
theorem dX3_measure_14 : decode cX3_measure 14 = .ok (.iload_n 1, 1) := by decide +kernel
theorem dX3_measure_15 : decode cX3_measure 15 = .ok (.iconst 0, 1) := by decide +kernel
theorem dX3_measure_16 : decode cX3_measure 16 = .ok (.iastore, 1) := by decide +kernel
theorem dX3_measure_17 : decode cX3_measure 17 = .ok (.iconst 0, 1) := by decide +kernel
theorem dX3_measure_18 : decode cX3_measure 18 = .ok (.istore_n 2, 1) := by decide +kernel
theorem dX3_measure_19 : decode cX3_measure 19 = .ok (.iload_n 2, 1) := by decide +kernel
theorem dX3_measure_20 : decode cX3_measure 20 = .ok (.aload_n 0, 1) := by decide +kernel
theorem dX3_measure_21 : decode cX3_measure 21 = .ok (.getfield 58, 3) := by decide +kernel
theorem dX3_measure_24 : decode cX3_measure 24 = .ok (.if_icmp .ge 60, 3) := by decide +kernel
theorem dX3_measure_27 : decode cX3_measure 27 = .ok (.aload_n 0, 1) := by decide +kernel
theorem dX3_measure_28 : decode cX3_measure 28 = .ok (.getfield 38, 3) := by decide +kernel
theorem dX3_measure_31 : decode cX3_measure 31 = .ok (.iload_n 1, 1) := by decide +kernel
theorem dX3_measure_32 : decode cX3_measure 32 = .ok (.bipush 12, 2) := by decide +kernel
theorem dX3_measure_34 : decode cX3_measure 34 = .ok (.imul, 1) := by decide +kernel
theorem dX3_measure_35 : decode cX3_measure 35 = .ok (.iload_n 2, 1) := by decide +kernel
theorem dX3_measure_36 : decode cX3_measure 36 = .ok (.iadd, 1) := by decide +kernel
theorem dX3_measure_37 : decode cX3_measure 37 = .ok (.aload_n 0, 1) := by decide +kernel
theorem dX3_measure_38 : decode cX3_measure 38 = .ok (.iload_n 1, 1) := by decide +kernel
theorem dX3_measure_39 : decode cX3_measure 39 = .ok (.iload_n 2, 1) := by decide +kernel
theorem dX3_measure_40 : decode cX3_measure 40 = .ok (.invokevirtual 79, 3) := by decide +kernel
theorem dX3_measure_43 : decode cX3_measure 43 = .ok (.iastore, 1) := by decide +kernel
theorem dX3_measure_44 : decode cX3_measure 44 = .ok (.aload_n 0, 1) := by decide +kernel
theorem dX3_measure_45 : decode cX3_measure 45 = .ok (.getfield 41, 3) := by decide +kernel
theorem dX3_measure_48 : decode cX3_measure 48 = .ok (.iload_n 1, 1) := by decide +kernel
theorem dX3_measure_49 : decode cX3_measure 49 = .ok (.dup2, 1) := by decide +kernel
theorem dX3_measure_50 : decode cX3_measure 50 = .ok (.iaload, 1) := by decide +kernel
theorem dX3_measure_51 : decode cX3_measure 51 = .ok (.iload_n 1, 1) := by decide +kernel
theorem dX3_measure_52 : decode cX3_measure 52 = .ok (.iload_n 2, 1) := by decide +kernel
theorem dX3_measure_53 : decode cX3_measure 53 = .ok (.if_icmp .eq 22, 3) := by decide +kernel
theorem dX3_measure_56 : decode cX3_measure 56 = .ok (.aload_n 0, 1) := by decide +kernel
theorem dX3_measure_57 : decode cX3_measure 57 = .ok (.iload_n 1, 1) := by decide +kernel
theorem dX3_measure_58 : decode cX3_measure 58 = .ok (.iload_n 2, 1) := by decide +kernel
theorem dX3_measure_59 : decode cX3_measure 59 = .ok (.invokevirtual 82, 3) := by decide +kernel
theorem dX3_measure_62 : decode cX3_measure 62 = .ok (.aload_n 0, 1) := by decide +kernel
theorem dX3_measure_63 : decode cX3_measure 63 = .ok (.getfield 48, 3) := by decide +kernel
theorem dX3_measure_66 : decode cX3_measure 66 = .ok (.if_icmp .gt 9, 3) := by decide +kernel
theorem dX3_measure_69 : decode cX3_measure 69 = .ok (.iconst 1, 1) := by decide +kernel
theorem dX3_measure_70 : decode cX3_measure 70 = .ok (.iload_n 2, 1) := by decide +kernel
theorem dX3_measure_71 : decode cX3_measure 71 = .ok (.ishl, 1) := by decide +kernel
theorem dX3_measure_72 : decode cX3_measure 72 = .ok (.goto 4, 3) := by decide +kernel
theorem dX3_measure_75 : decode cX3_measure 75 = .ok (.iconst 0, 1) := by decide +kernel
theorem dX3_measure_76 : decode cX3_measure 76 = .ok (.ior, 1) := by decide +kernel
theorem dX3_measure_77 : decode cX3_measure 77 = .ok (.iastore, 1) := by decide +kernel
theorem dX3_measure_78 : decode cX3_measure 78 = .ok (.iinc 2 1, 3) := by decide +kernel
theorem dX3_measure_81 : decode cX3_measure 81 = .ok (.goto (-62), 3) := by decide +kernel
theorem dX3_measure_84 : decode cX3_measure 84 = .ok (.iinc 1 1, 3) := by decide +kernel
theorem dX3_measure_87 : decode cX3_measure 87 = .ok (.goto (-85), 3) := by decide +kernel
theorem dX3_measure_90 : decode cX3_measure 90 = .ok (.return_, 1) := by decide +kernel
theorem dX3_freshBar_0 : decode cX3_freshBar 0 = .ok (.iload_n 1, 1) := by decide +kernel
theorem dX3_freshBar_1 : decode cX3_freshBar 1 = .ok (.iload_n 2, 1) := by decide +kernel
theorem dX3_freshBar_2 : decode cX3_freshBar 2 = .ok (.if_icmp .ne 10, 3) := by decide +kernel
theorem dX3_freshBar_5 : decode cX3_freshBar 5 = .ok (.aload_n 0, 1) := by decide +kernel
theorem dX3_freshBar_6 : decode cX3_freshBar 6 = .ok (.getfield 44, 3) := by decide +kernel
theorem dX3_freshBar_9 : decode cX3_freshBar 9 = .ok (.goto 35, 3) := by decide +kernel
theorem dX3_freshBar_12 : decode cX3_freshBar 12 = .ok (.aload_n 0, 1) := by decide +kernel
theorem dX3_freshBar_13 : decode cX3_freshBar 13 = .ok (.getfield 27, 3) := by decide +kernel
theorem dX3_freshBar_16 : decode cX3_freshBar 16 = .ok (.aload_n 0, 1) := by decide +kernel
theorem dX3_freshBar_17 : decode cX3_freshBar 17 = .ok (.iload_n 1, 1) := by decide +kernel
theorem dX3_freshBar_18 : decode cX3_freshBar 18 = .ok (.iload_n 2, 1) := by decide +kernel
theorem dX3_freshBar_19 : decode cX3_freshBar 19 = .ok (.invokevirtual 82, 3) := by decide +kernel
theorem dX3_freshBar_22 : decode cX3_freshBar 22 = .ok (.aload_n 0, 1) := by decide +kernel
theorem dX3_freshBar_23 : decode cX3_freshBar 23 = .ok (.getfield 11, 3) := by decide +kernel
theorem dX3_freshBar_26 : decode cX3_freshBar 26 = .ok (.iload_n 1, 1) := by decide +kernel
theorem dX3_freshBar_27 : decode cX3_freshBar 27 = .ok (.aaload, 1) := by decide +kernel
theorem dX3_freshBar_28 : decode cX3_freshBar 28 = .ok (.getfield 85, 3) := by decide +kernel
theorem dX3_freshBar_31 : decode cX3_freshBar 31 = .ok (.aload_n 0, 1) := by decide +kernel
theorem dX3_freshBar_32 : decode cX3_freshBar 32 = .ok (.getfield 11, 3) := by decide +kernel
theorem dX3_freshBar_35 : decode cX3_freshBar 35 = .ok (.iload_n 2, 1) := by decide +kernel
theorem dX3_freshBar_36 : decode cX3_freshBar 36 = .ok (.aaload, 1) := by decide +kernel
theorem dX3_freshBar_37 : decode cX3_freshBar 37 = .ok (.getfield 85, 3) := by decide +kernel
theorem dX3_freshBar_40 : decode cX3_freshBar 40 = .ok (.iadd, 1) := by decide +kernel
theorem dX3_freshBar_41 : decode cX3_freshBar 41 = .ok (.invokevirtual 88, 3) := by decide +kernel
theorem dX3_freshBar_44 : decode cX3_freshBar 44 = .ok (.ireturn, 1) := by decide +kernel
theorem dX3_square_0 : decode cX3_square 0 = .ok (.aload_n 0, 1) := by decide +kernel
theorem dX3_square_1 : decode cX3_square 1 = .ok (.getfield 11, 3) := by decide +kernel
theorem dX3_square_4 : decode cX3_square 4 = .ok (.iload_n 1, 1) := by decide +kernel
theorem dX3_square_5 : decode cX3_square 5 = .ok (.aaload, 1) := by decide +kernel
theorem dX3_square_6 : decode cX3_square 6 = .ok (.getfield 91, 3) := by decide +kernel
theorem dX3_square_9 : decode cX3_square 9 = .ok (.aload_n 0, 1) := by decide +kernel
theorem dX3_square_10 : decode cX3_square 10 = .ok (.getfield 11, 3) := by decide +kernel
theorem dX3_square_13 : decode cX3_square 13 = .ok (.iload_n 2, 1) := by decide +kernel
theorem dX3_square_14 : decode cX3_square 14 = .ok (.aaload, 1) := by decide +kernel
theorem dX3_square_15 : decode cX3_square 15 = .ok (.getfield 91, 3) := by decide +kernel
theorem dX3_square_18 : decode cX3_square 18 = .ok (.isub, 1) := by decide +kernel
theorem dX3_square_19 : decode cX3_square 19 = .ok (.istore_n 3, 1) := by decide +kernel
theorem dX3_square_20 : decode cX3_square 20 = .ok (.aload_n 0, 1) := by decide +kernel
theorem dX3_square_21 : decode cX3_square 21 = .ok (.getfield 11, 3) := by decide +kernel
theorem dX3_square_24 : decode cX3_square 24 = .ok (.iload_n 1, 1) := by decide +kernel
theorem dX3_square_25 : decode cX3_square 25 = .ok (.aaload, 1) := by decide +kernel
theorem dX3_square_26 : decode cX3_square 26 = .ok (.getfield 94, 3) := by decide +kernel
theorem dX3_square_29 : decode cX3_square 29 = .ok (.aload_n 0, 1) := by decide +kernel
theorem dX3_square_30 : decode cX3_square 30 = .ok (.getfield 11, 3) := by decide +kernel
theorem dX3_square_33 : decode cX3_square 33 = .ok (.iload_n 2, 1) := by decide +kernel
theorem dX3_square_34 : decode cX3_square 34 = .ok (.aaload, 1) := by decide +kernel
theorem dX3_square_35 : decode cX3_square 35 = .ok (.getfield 94, 3) := by decide +kernel
theorem dX3_square_38 : decode cX3_square 38 = .ok (.isub, 1) := by decide +kernel
theorem dX3_square_39 : decode cX3_square 39 = .ok (.istore 4, 2) := by decide +kernel
theorem dX3_square_41 : decode cX3_square 41 = .ok (.iload_n 3, 1) := by decide +kernel
theorem dX3_square_42 : decode cX3_square 42 = .ok (.iload_n 3, 1) := by decide +kernel
theorem dX3_square_43 : decode cX3_square 43 = .ok (.imul, 1) := by decide +kernel
theorem dX3_square_44 : decode cX3_square 44 = .ok (.iload 4, 2) := by decide +kernel
theorem dX3_square_46 : decode cX3_square 46 = .ok (.iload 4, 2) := by decide +kernel
theorem dX3_square_48 : decode cX3_square 48 = .ok (.imul, 1) := by decide +kernel
theorem dX3_square_49 : decode cX3_square 49 = .ok (.iadd, 1) := by decide +kernel
theorem dX3_square_50 : decode cX3_square 50 = .ok (.ireturn, 1) := by decide +kernel
theorem dX3_barOf_0 : decode cX3_barOf 0 = .ok (.aload_n 0, 1) := by decide +kernel
theorem dX3_barOf_1 : decode cX3_barOf 1 = .ok (.getfield 38, 3) := by decide +kernel
theorem dX3_barOf_4 : decode cX3_barOf 4 = .ok (.iload_n 1, 1) := by decide +kernel
theorem dX3_barOf_5 : decode cX3_barOf 5 = .ok (.bipush 12, 2) := by decide +kernel
theorem dX3_barOf_7 : decode cX3_barOf 7 = .ok (.imul, 1) := by decide +kernel
theorem dX3_barOf_8 : decode cX3_barOf 8 = .ok (.iload_n 2, 1) := by decide +kernel
theorem dX3_barOf_9 : decode cX3_barOf 9 = .ok (.iadd, 1) := by decide +kernel
theorem dX3_barOf_10 : decode cX3_barOf 10 = .ok (.iaload, 1) := by decide +kernel
theorem dX3_barOf_11 : decode cX3_barOf 11 = .ok (.ireturn, 1) := by decide +kernel
theorem dX3_barOfWants_0 : decode cX3_barOfWants 0 = .ok (.aload_n 0, 1) := by decide +kernel
theorem dX3_barOfWants_1 : decode cX3_barOfWants 1 = .ok (.aload_n 0, 1) := by decide +kernel
theorem dX3_barOfWants_2 : decode cX3_barOfWants 2 = .ok (.getfield 17, 3) := by decide +kernel
theorem dX3_barOfWants_5 : decode cX3_barOfWants 5 = .ok (.iload_n 1, 1) := by decide +kernel
theorem dX3_barOfWants_6 : decode cX3_barOfWants 6 = .ok (.iaload, 1) := by decide +kernel
theorem dX3_barOfWants_7 : decode cX3_barOfWants 7 = .ok (.aload_n 0, 1) := by decide +kernel
theorem dX3_barOfWants_8 : decode cX3_barOfWants 8 = .ok (.getfield 17, 3) := by decide +kernel
theorem dX3_barOfWants_11 : decode cX3_barOfWants 11 = .ok (.iload_n 2, 1) := by decide +kernel
theorem dX3_barOfWants_12 : decode cX3_barOfWants 12 = .ok (.iaload, 1) := by decide +kernel
theorem dX3_barOfWants_13 : decode cX3_barOfWants 13 = .ok (.invokevirtual 75, 3) := by decide +kernel
theorem dX3_barOfWants_16 : decode cX3_barOfWants 16 = .ok (.ireturn, 1) := by decide +kernel
theorem dX3_areIn_0 : decode cX3_areIn 0 = .ok (.aload_n 0, 1) := by decide +kernel
theorem dX3_areIn_1 : decode cX3_areIn 1 = .ok (.getfield 41, 3) := by decide +kernel
theorem dX3_areIn_4 : decode cX3_areIn 4 = .ok (.iload_n 1, 1) := by decide +kernel
theorem dX3_areIn_5 : decode cX3_areIn 5 = .ok (.iaload, 1) := by decide +kernel
theorem dX3_areIn_6 : decode cX3_areIn 6 = .ok (.iload_n 2, 1) := by decide +kernel
theorem dX3_areIn_7 : decode cX3_areIn 7 = .ok (.iushr, 1) := by decide +kernel
theorem dX3_areIn_8 : decode cX3_areIn 8 = .ok (.aload_n 0, 1) := by decide +kernel
theorem dX3_areIn_9 : decode cX3_areIn 9 = .ok (.getfield 41, 3) := by decide +kernel
theorem dX3_areIn_12 : decode cX3_areIn 12 = .ok (.iload_n 1, 1) := by decide +kernel
theorem dX3_areIn_13 : decode cX3_areIn 13 = .ok (.iaload, 1) := by decide +kernel
theorem dX3_areIn_14 : decode cX3_areIn 14 = .ok (.iload_n 3, 1) := by decide +kernel
theorem dX3_areIn_15 : decode cX3_areIn 15 = .ok (.iushr, 1) := by decide +kernel
theorem dX3_areIn_16 : decode cX3_areIn 16 = .ok (.iand, 1) := by decide +kernel
theorem dX3_areIn_17 : decode cX3_areIn 17 = .ok (.aload_n 0, 1) := by decide +kernel
theorem dX3_areIn_18 : decode cX3_areIn 18 = .ok (.getfield 41, 3) := by decide +kernel
theorem dX3_areIn_21 : decode cX3_areIn 21 = .ok (.iload_n 2, 1) := by decide +kernel
theorem dX3_areIn_22 : decode cX3_areIn 22 = .ok (.iaload, 1) := by decide +kernel
theorem dX3_areIn_23 : decode cX3_areIn 23 = .ok (.iload_n 3, 1) := by decide +kernel
theorem dX3_areIn_24 : decode cX3_areIn 24 = .ok (.iushr, 1) := by decide +kernel
theorem dX3_areIn_25 : decode cX3_areIn 25 = .ok (.iand, 1) := by decide +kernel
theorem dX3_areIn_26 : decode cX3_areIn 26 = .ok (.iconst 1, 1) := by decide +kernel
theorem dX3_areIn_27 : decode cX3_areIn 27 = .ok (.iand, 1) := by decide +kernel
theorem dX3_areIn_28 : decode cX3_areIn 28 = .ok (.ifCond .eq 7, 3) := by decide +kernel
theorem dX3_areIn_31 : decode cX3_areIn 31 = .ok (.iconst 1, 1) := by decide +kernel
theorem dX3_areIn_32 : decode cX3_areIn 32 = .ok (.goto 4, 3) := by decide +kernel
theorem dX3_areIn_35 : decode cX3_areIn 35 = .ok (.iconst 0, 1) := by decide +kernel
theorem dX3_areIn_36 : decode cX3_areIn 36 = .ok (.ireturn, 1) := by decide +kernel
theorem dX3_kindOfWant_0 : decode cX3_kindOfWant 0 = .ok (.aload_n 0, 1) := by decide +kernel
theorem dX3_kindOfWant_1 : decode cX3_kindOfWant 1 = .ok (.getfield 11, 3) := by decide +kernel
theorem dX3_kindOfWant_4 : decode cX3_kindOfWant 4 = .ok (.aload_n 0, 1) := by decide +kernel
theorem dX3_kindOfWant_5 : decode cX3_kindOfWant 5 = .ok (.getfield 17, 3) := by decide +kernel
theorem dX3_kindOfWant_8 : decode cX3_kindOfWant 8 = .ok (.iload_n 1, 1) := by decide +kernel
theorem dX3_kindOfWant_9 : decode cX3_kindOfWant 9 = .ok (.iaload, 1) := by decide +kernel
theorem dX3_kindOfWant_10 : decode cX3_kindOfWant 10 = .ok (.aaload, 1) := by decide +kernel
theorem dX3_kindOfWant_11 : decode cX3_kindOfWant 11 = .ok (.getfield 97, 3) := by decide +kernel
theorem dX3_kindOfWant_14 : decode cX3_kindOfWant 14 = .ok (.ireturn, 1) := by decide +kernel
theorem dX3_gapOf_0 : decode cX3_gapOf 0 = .ok (.aload_n 0, 1) := by decide +kernel
theorem dX3_gapOf_1 : decode cX3_gapOf 1 = .ok (.getfield 11, 3) := by decide +kernel
theorem dX3_gapOf_4 : decode cX3_gapOf 4 = .ok (.aload_n 0, 1) := by decide +kernel
theorem dX3_gapOf_5 : decode cX3_gapOf 5 = .ok (.getfield 17, 3) := by decide +kernel
theorem dX3_gapOf_8 : decode cX3_gapOf 8 = .ok (.iload_n 1, 1) := by decide +kernel
theorem dX3_gapOf_9 : decode cX3_gapOf 9 = .ok (.iaload, 1) := by decide +kernel
theorem dX3_gapOf_10 : decode cX3_gapOf 10 = .ok (.aaload, 1) := by decide +kernel
theorem dX3_gapOf_11 : decode cX3_gapOf 11 = .ok (.astore_n 2, 1) := by decide +kernel
theorem dX3_gapOf_12 : decode cX3_gapOf 12 = .ok (.aload_n 2, 1) := by decide +kernel
theorem dX3_gapOf_13 : decode cX3_gapOf 13 = .ok (.getfield 97, 3) := by decide +kernel
theorem dX3_gapOf_16 : decode cX3_gapOf 16 = .ok (.iconst 1, 1) := by decide +kernel
theorem dX3_gapOf_17 : decode cX3_gapOf 17 = .ok (.if_icmp .ne 10, 3) := by decide +kernel
theorem dX3_gapOf_20 : decode cX3_gapOf 20 = .ok (.aload_n 2, 1) := by decide +kernel
theorem dX3_gapOf_21 : decode cX3_gapOf 21 = .ok (.getfield 100, 3) := by decide +kernel
theorem dX3_gapOf_24 : decode cX3_gapOf 24 = .ok (.goto 4, 3) := by decide +kernel
theorem dX3_gapOf_27 : decode cX3_gapOf 27 = .ok (.iconst 0, 1) := by decide +kernel
theorem dX3_gapOf_28 : decode cX3_gapOf 28 = .ok (.ireturn, 1) := by decide +kernel
theorem dX3_allowed_0 : decode cX3_allowed 0 = .ok (.aload_n 0, 1) := by decide +kernel
theorem dX3_allowed_1 : decode cX3_allowed 1 = .ok (.getfield 11, 3) := by decide +kernel
theorem dX3_allowed_4 : decode cX3_allowed 4 = .ok (.aload_n 0, 1) := by decide +kernel
theorem dX3_allowed_5 : decode cX3_allowed 5 = .ok (.getfield 17, 3) := by decide +kernel
theorem dX3_allowed_8 : decode cX3_allowed 8 = .ok (.iload_n 1, 1) := by decide +kernel
theorem dX3_allowed_9 : decode cX3_allowed 9 = .ok (.iaload, 1) := by decide +kernel
theorem dX3_allowed_10 : decode cX3_allowed 10 = .ok (.aaload, 1) := by decide +kernel
theorem dX3_allowed_11 : decode cX3_allowed 11 = .ok (.astore_n 2, 1) := by decide +kernel
theorem dX3_allowed_12 : decode cX3_allowed 12 = .ok (.aload_n 2, 1) := by decide +kernel
theorem dX3_allowed_13 : decode cX3_allowed 13 = .ok (.getfield 103, 3) := by decide +kernel
theorem dX3_allowed_16 : decode cX3_allowed 16 = .ok (.aload_n 2, 1) := by decide +kernel
theorem dX3_allowed_17 : decode cX3_allowed 17 = .ok (.getfield 103, 3) := by decide +kernel
theorem dX3_allowed_20 : decode cX3_allowed 20 = .ok (.aload_n 0, 1) := by decide +kernel
theorem dX3_allowed_21 : decode cX3_allowed 21 = .ok (.iload_n 1, 1) := by decide +kernel
theorem dX3_allowed_22 : decode cX3_allowed 22 = .ok (.invokevirtual 106, 3) := by decide +kernel
theorem dX3_allowed_25 : decode cX3_allowed 25 = .ok (.iushr, 1) := by decide +kernel
theorem dX3_allowed_26 : decode cX3_allowed 26 = .ok (.iand, 1) := by decide +kernel
theorem dX3_allowed_27 : decode cX3_allowed 27 = .ok (.aload_n 0, 1) := by decide +kernel
theorem dX3_allowed_28 : decode cX3_allowed 28 = .ok (.getfield 34, 3) := by decide +kernel
theorem dX3_allowed_31 : decode cX3_allowed 31 = .ok (.aload_n 2, 1) := by decide +kernel
theorem dX3_allowed_32 : decode cX3_allowed 32 = .ok (.invokevirtual 110, 3) := by decide +kernel
theorem dX3_allowed_35 : decode cX3_allowed 35 = .ok (.iand, 1) := by decide +kernel
theorem dX3_allowed_36 : decode cX3_allowed 36 = .ok (.istore_n 3, 1) := by decide +kernel
theorem dX3_allowed_37 : decode cX3_allowed 37 = .ok (.aload_n 0, 1) := by decide +kernel
theorem dX3_allowed_38 : decode cX3_allowed 38 = .ok (.getfield 21, 3) := by decide +kernel
theorem dX3_allowed_41 : decode cX3_allowed 41 = .ok (.iload_n 1, 1) := by decide +kernel
theorem dX3_allowed_42 : decode cX3_allowed 42 = .ok (.iaload, 1) := by decide +kernel
theorem dX3_allowed_43 : decode cX3_allowed 43 = .ok (.bipush (-2), 2) := by decide +kernel
theorem dX3_allowed_45 : decode cX3_allowed 45 = .ok (.if_icmp .ne 7, 3) := by decide +kernel
theorem dX3_allowed_48 : decode cX3_allowed 48 = .ok (.iload_n 3, 1) := by decide +kernel
theorem dX3_allowed_49 : decode cX3_allowed 49 = .ok (.goto 13, 3) := by decide +kernel
theorem dX3_allowed_52 : decode cX3_allowed 52 = .ok (.iload_n 3, 1) := by decide +kernel
theorem dX3_allowed_53 : decode cX3_allowed 53 = .ok (.iconst 1, 1) := by decide +kernel
theorem dX3_allowed_54 : decode cX3_allowed 54 = .ok (.aload_n 0, 1) := by decide +kernel
theorem dX3_allowed_55 : decode cX3_allowed 55 = .ok (.getfield 21, 3) := by decide +kernel
theorem dX3_allowed_58 : decode cX3_allowed 58 = .ok (.iload_n 1, 1) := by decide +kernel
theorem dX3_allowed_59 : decode cX3_allowed 59 = .ok (.iaload, 1) := by decide +kernel
theorem dX3_allowed_60 : decode cX3_allowed 60 = .ok (.ishl, 1) := by decide +kernel
theorem dX3_allowed_61 : decode cX3_allowed 61 = .ok (.iand, 1) := by decide +kernel
theorem dX3_allowed_62 : decode cX3_allowed 62 = .ok (.ireturn, 1) := by decide +kernel
theorem dX3_barredTwos_0 : decode cX3_barredTwos 0 = .ok (.iconst 0, 1) := by decide +kernel
theorem dX3_barredTwos_1 : decode cX3_barredTwos 1 = .ok (.istore_n 1, 1) := by decide +kernel
theorem dX3_barredTwos_2 : decode cX3_barredTwos 2 = .ok (.iconst 0, 1) := by decide +kernel
theorem dX3_barredTwos_3 : decode cX3_barredTwos 3 = .ok (.istore_n 2, 1) := by decide +kernel
theorem dX3_barredTwos_4 : decode cX3_barredTwos 4 = .ok (.iload_n 2, 1) := by decide +kernel
theorem dX3_barredTwos_5 : decode cX3_barredTwos 5 = .ok (.aload_n 0, 1) := by decide +kernel
theorem dX3_barredTwos_6 : decode cX3_barredTwos 6 = .ok (.getfield 58, 3) := by decide +kernel
theorem dX3_barredTwos_9 : decode cX3_barredTwos 9 = .ok (.if_icmp .ge 44, 3) := by decide +kernel
theorem dX3_barredTwos_12 : decode cX3_barredTwos 12 = .ok (.iload_n 2, 1) := by decide +kernel
theorem dX3_barredTwos_13 : decode cX3_barredTwos 13 = .ok (.iconst 1, 1) := by decide +kernel
theorem dX3_barredTwos_14 : decode cX3_barredTwos 14 = .ok (.iadd, 1) := by decide +kernel
theorem dX3_barredTwos_15 : decode cX3_barredTwos 15 = .ok (.istore_n 3, 1) := by decide +kernel
theorem dX3_barredTwos_16 : decode cX3_barredTwos 16 = .ok (.iload_n 3, 1) := by decide +kernel
theorem dX3_barredTwos_17 : decode cX3_barredTwos 17 = .ok (.aload_n 0, 1) := by decide +kernel
theorem dX3_barredTwos_18 : decode cX3_barredTwos 18 = .ok (.getfield 58, 3) := by decide +kernel
theorem dX3_barredTwos_21 : decode cX3_barredTwos 21 = .ok (.if_icmp .ge 26, 3) := by decide +kernel
theorem dX3_barredTwos_24 : decode cX3_barredTwos 24 = .ok (.iload_n 1, 1) := by decide +kernel
theorem dX3_barredTwos_25 : decode cX3_barredTwos 25 = .ok (.aload_n 0, 1) := by decide +kernel
theorem dX3_barredTwos_26 : decode cX3_barredTwos 26 = .ok (.iload_n 2, 1) := by decide +kernel
theorem dX3_barredTwos_27 : decode cX3_barredTwos 27 = .ok (.iload_n 3, 1) := by decide +kernel
theorem dX3_barredTwos_28 : decode cX3_barredTwos 28 = .ok (.invokevirtual 75, 3) := by decide +kernel
theorem dX3_barredTwos_31 : decode cX3_barredTwos 31 = .ok (.ifCond .le 7, 3) := by decide +kernel
theorem dX3_barredTwos_34 : decode cX3_barredTwos 34 = .ok (.iconst 1, 1) := by decide +kernel
theorem dX3_barredTwos_35 : decode cX3_barredTwos 35 = .ok (.goto 4, 3) := by decide +kernel
theorem dX3_barredTwos_38 : decode cX3_barredTwos 38 = .ok (.iconst 0, 1) := by decide +kernel
theorem dX3_barredTwos_39 : decode cX3_barredTwos 39 = .ok (.iadd, 1) := by decide +kernel
theorem dX3_barredTwos_40 : decode cX3_barredTwos 40 = .ok (.istore_n 1, 1) := by decide +kernel
theorem dX3_barredTwos_41 : decode cX3_barredTwos 41 = .ok (.iinc 3 1, 3) := by decide +kernel
theorem dX3_barredTwos_44 : decode cX3_barredTwos 44 = .ok (.goto (-28), 3) := by decide +kernel
theorem dX3_barredTwos_47 : decode cX3_barredTwos 47 = .ok (.iinc 2 1, 3) := by decide +kernel
theorem dX3_barredTwos_50 : decode cX3_barredTwos 50 = .ok (.goto (-46), 3) := by decide +kernel
theorem dX3_barredTwos_53 : decode cX3_barredTwos 53 = .ok (.iload_n 1, 1) := by decide +kernel
theorem dX3_barredTwos_54 : decode cX3_barredTwos 54 = .ok (.ireturn, 1) := by decide +kernel
theorem dX3_threesIn_0 : decode cX3_threesIn 0 = .ok (.iconst 0, 1) := by decide +kernel
theorem dX3_threesIn_1 : decode cX3_threesIn 1 = .ok (.istore_n 1, 1) := by decide +kernel
theorem dX3_threesIn_2 : decode cX3_threesIn 2 = .ok (.iconst 0, 1) := by decide +kernel
theorem dX3_threesIn_3 : decode cX3_threesIn 3 = .ok (.istore_n 2, 1) := by decide +kernel
theorem dX3_threesIn_4 : decode cX3_threesIn 4 = .ok (.iload_n 2, 1) := by decide +kernel
theorem dX3_threesIn_5 : decode cX3_threesIn 5 = .ok (.aload_n 0, 1) := by decide +kernel
theorem dX3_threesIn_6 : decode cX3_threesIn 6 = .ok (.getfield 58, 3) := by decide +kernel
theorem dX3_threesIn_9 : decode cX3_threesIn 9 = .ok (.if_icmp .ge 66, 3) := by decide +kernel
theorem dX3_threesIn_12 : decode cX3_threesIn 12 = .ok (.iload_n 2, 1) := by decide +kernel
theorem dX3_threesIn_13 : decode cX3_threesIn 13 = .ok (.iconst 1, 1) := by decide +kernel
theorem dX3_threesIn_14 : decode cX3_threesIn 14 = .ok (.iadd, 1) := by decide +kernel
theorem dX3_threesIn_15 : decode cX3_threesIn 15 = .ok (.istore_n 3, 1) := by decide +kernel
theorem dX3_threesIn_16 : decode cX3_threesIn 16 = .ok (.iload_n 3, 1) := by decide +kernel
theorem dX3_threesIn_17 : decode cX3_threesIn 17 = .ok (.aload_n 0, 1) := by decide +kernel
theorem dX3_threesIn_18 : decode cX3_threesIn 18 = .ok (.getfield 58, 3) := by decide +kernel
theorem dX3_threesIn_21 : decode cX3_threesIn 21 = .ok (.if_icmp .ge 48, 3) := by decide +kernel
theorem dX3_threesIn_24 : decode cX3_threesIn 24 = .ok (.iload_n 3, 1) := by decide +kernel
theorem dX3_threesIn_25 : decode cX3_threesIn 25 = .ok (.iconst 1, 1) := by decide +kernel
theorem dX3_threesIn_26 : decode cX3_threesIn 26 = .ok (.iadd, 1) := by decide +kernel
theorem dX3_threesIn_27 : decode cX3_threesIn 27 = .ok (.istore 4, 2) := by decide +kernel
theorem dX3_threesIn_29 : decode cX3_threesIn 29 = .ok (.iload 4, 2) := by decide +kernel
theorem dX3_threesIn_31 : decode cX3_threesIn 31 = .ok (.aload_n 0, 1) := by decide +kernel
theorem dX3_threesIn_32 : decode cX3_threesIn 32 = .ok (.getfield 58, 3) := by decide +kernel
theorem dX3_threesIn_35 : decode cX3_threesIn 35 = .ok (.if_icmp .ge 28, 3) := by decide +kernel
theorem dX3_threesIn_38 : decode cX3_threesIn 38 = .ok (.iload_n 1, 1) := by decide +kernel
theorem dX3_threesIn_39 : decode cX3_threesIn 39 = .ok (.aload_n 0, 1) := by decide +kernel
theorem dX3_threesIn_40 : decode cX3_threesIn 40 = .ok (.iload_n 2, 1) := by decide +kernel
theorem dX3_threesIn_41 : decode cX3_threesIn 41 = .ok (.iload_n 3, 1) := by decide +kernel
theorem dX3_threesIn_42 : decode cX3_threesIn 42 = .ok (.iload 4, 2) := by decide +kernel
theorem dX3_threesIn_44 : decode cX3_threesIn 44 = .ok (.invokevirtual 114, 3) := by decide +kernel
theorem dX3_threesIn_47 : decode cX3_threesIn 47 = .ok (.ifCond .eq 7, 3) := by decide +kernel
theorem dX3_threesIn_50 : decode cX3_threesIn 50 = .ok (.iconst 1, 1) := by decide +kernel
theorem dX3_threesIn_51 : decode cX3_threesIn 51 = .ok (.goto 4, 3) := by decide +kernel
theorem dX3_threesIn_54 : decode cX3_threesIn 54 = .ok (.iconst 0, 1) := by decide +kernel
theorem dX3_threesIn_55 : decode cX3_threesIn 55 = .ok (.iadd, 1) := by decide +kernel
theorem dX3_threesIn_56 : decode cX3_threesIn 56 = .ok (.istore_n 1, 1) := by decide +kernel
theorem dX3_threesIn_57 : decode cX3_threesIn 57 = .ok (.iinc 4 1, 3) := by decide +kernel
theorem dX3_threesIn_60 : decode cX3_threesIn 60 = .ok (.goto (-31), 3) := by decide +kernel
theorem dX3_threesIn_63 : decode cX3_threesIn 63 = .ok (.iinc 3 1, 3) := by decide +kernel
theorem dX3_threesIn_66 : decode cX3_threesIn 66 = .ok (.goto (-50), 3) := by decide +kernel
theorem dX3_threesIn_69 : decode cX3_threesIn 69 = .ok (.iinc 2 1, 3) := by decide +kernel
theorem dX3_threesIn_72 : decode cX3_threesIn 72 = .ok (.goto (-68), 3) := by decide +kernel
theorem dX3_threesIn_75 : decode cX3_threesIn 75 = .ok (.iload_n 1, 1) := by decide +kernel
theorem dX3_threesIn_76 : decode cX3_threesIn 76 = .ok (.ireturn, 1) := by decide +kernel
theorem dX3_parts_0 : decode cX3_parts 0 = .ok (.iconst 0, 1) := by decide +kernel
theorem dX3_parts_1 : decode cX3_parts 1 = .ok (.istore_n 1, 1) := by decide +kernel
theorem dX3_parts_2 : decode cX3_parts 2 = .ok (.iconst 0, 1) := by decide +kernel
theorem dX3_parts_3 : decode cX3_parts 3 = .ok (.istore_n 2, 1) := by decide +kernel
theorem dX3_parts_4 : decode cX3_parts 4 = .ok (.iconst 0, 1) := by decide +kernel
theorem dX3_parts_5 : decode cX3_parts 5 = .ok (.istore_n 3, 1) := by decide +kernel
theorem dX3_parts_6 : decode cX3_parts 6 = .ok (.iload_n 3, 1) := by decide +kernel
theorem dX3_parts_7 : decode cX3_parts 7 = .ok (.aload_n 0, 1) := by decide +kernel
theorem dX3_parts_8 : decode cX3_parts 8 = .ok (.getfield 58, 3) := by decide +kernel
theorem dX3_parts_11 : decode cX3_parts 11 = .ok (.if_icmp .ge 28, 3) := by decide +kernel
theorem dX3_parts_14 : decode cX3_parts 14 = .ok (.iload_n 2, 1) := by decide +kernel
theorem dX3_parts_15 : decode cX3_parts 15 = .ok (.iload_n 3, 1) := by decide +kernel
theorem dX3_parts_16 : decode cX3_parts 16 = .ok (.iushr, 1) := by decide +kernel
theorem dX3_parts_17 : decode cX3_parts 17 = .ok (.iconst 1, 1) := by decide +kernel
theorem dX3_parts_18 : decode cX3_parts 18 = .ok (.iand, 1) := by decide +kernel
theorem dX3_parts_19 : decode cX3_parts 19 = .ok (.ifCond .ne 14, 3) := by decide +kernel
theorem dX3_parts_22 : decode cX3_parts 22 = .ok (.iload_n 2, 1) := by decide +kernel
theorem dX3_parts_23 : decode cX3_parts 23 = .ok (.aload_n 0, 1) := by decide +kernel
theorem dX3_parts_24 : decode cX3_parts 24 = .ok (.iload_n 3, 1) := by decide +kernel
theorem dX3_parts_25 : decode cX3_parts 25 = .ok (.invokevirtual 118, 3) := by decide +kernel
theorem dX3_parts_28 : decode cX3_parts 28 = .ok (.ior, 1) := by decide +kernel
theorem dX3_parts_29 : decode cX3_parts 29 = .ok (.istore_n 2, 1) := by decide +kernel
theorem dX3_parts_30 : decode cX3_parts 30 = .ok (.iinc 1 1, 3) := by decide +kernel
theorem dX3_parts_33 : decode cX3_parts 33 = .ok (.iinc 3 1, 3) := by decide +kernel
theorem dX3_parts_36 : decode cX3_parts 36 = .ok (.goto (-30), 3) := by decide +kernel
theorem dX3_parts_39 : decode cX3_parts 39 = .ok (.iload_n 1, 1) := by decide +kernel
theorem dX3_parts_40 : decode cX3_parts 40 = .ok (.ireturn, 1) := by decide +kernel
theorem dX3_partOf_0 : decode cX3_partOf 0 = .ok (.iconst 0, 1) := by decide +kernel
theorem dX3_partOf_1 : decode cX3_partOf 1 = .ok (.istore_n 2, 1) := by decide +kernel
theorem dX3_partOf_2 : decode cX3_partOf 2 = .ok (.iconst 0, 1) := by decide +kernel
theorem dX3_partOf_3 : decode cX3_partOf 3 = .ok (.istore_n 3, 1) := by decide +kernel
theorem dX3_partOf_4 : decode cX3_partOf 4 = .ok (.iconst 0, 1) := by decide +kernel
theorem dX3_partOf_5 : decode cX3_partOf 5 = .ok (.istore 4, 2) := by decide +kernel
theorem dX3_partOf_7 : decode cX3_partOf 7 = .ok (.iload 4, 2) := by decide +kernel
theorem dX3_partOf_9 : decode cX3_partOf 9 = .ok (.iload_n 1, 1) := by decide +kernel
theorem dX3_partOf_10 : decode cX3_partOf 10 = .ok (.if_icmp .ge 45, 3) := by decide +kernel
theorem dX3_partOf_13 : decode cX3_partOf 13 = .ok (.iload_n 3, 1) := by decide +kernel
theorem dX3_partOf_14 : decode cX3_partOf 14 = .ok (.iload 4, 2) := by decide +kernel
theorem dX3_partOf_16 : decode cX3_partOf 16 = .ok (.iushr, 1) := by decide +kernel
theorem dX3_partOf_17 : decode cX3_partOf 17 = .ok (.iconst 1, 1) := by decide +kernel
theorem dX3_partOf_18 : decode cX3_partOf 18 = .ok (.iand, 1) := by decide +kernel
theorem dX3_partOf_19 : decode cX3_partOf 19 = .ok (.ifCond .ne 30, 3) := by decide +kernel
theorem dX3_partOf_22 : decode cX3_partOf 22 = .ok (.aload_n 0, 1) := by decide +kernel
theorem dX3_partOf_23 : decode cX3_partOf 23 = .ok (.iload 4, 2) := by decide +kernel
theorem dX3_partOf_25 : decode cX3_partOf 25 = .ok (.invokevirtual 118, 3) := by decide +kernel
theorem dX3_partOf_28 : decode cX3_partOf 28 = .ok (.istore 5, 2) := by decide +kernel
theorem dX3_partOf_30 : decode cX3_partOf 30 = .ok (.iload 5, 2) := by decide +kernel
theorem dX3_partOf_32 : decode cX3_partOf 32 = .ok (.iload_n 1, 1) := by decide +kernel
theorem dX3_partOf_33 : decode cX3_partOf 33 = .ok (.iushr, 1) := by decide +kernel
theorem dX3_partOf_34 : decode cX3_partOf 34 = .ok (.iconst 1, 1) := by decide +kernel
theorem dX3_partOf_35 : decode cX3_partOf 35 = .ok (.iand, 1) := by decide +kernel
theorem dX3_partOf_36 : decode cX3_partOf 36 = .ok (.ifCond .eq 5, 3) := by decide +kernel
theorem dX3_partOf_39 : decode cX3_partOf 39 = .ok (.iload_n 2, 1) := by decide +kernel
theorem dX3_partOf_40 : decode cX3_partOf 40 = .ok (.ireturn, 1) := by decide +kernel
theorem dX3_partOf_41 : decode cX3_partOf 41 = .ok (.iload_n 3, 1) := by decide +kernel
theorem dX3_partOf_42 : decode cX3_partOf 42 = .ok (.iload 5, 2) := by decide +kernel
theorem dX3_partOf_44 : decode cX3_partOf 44 = .ok (.ior, 1) := by decide +kernel
theorem dX3_partOf_45 : decode cX3_partOf 45 = .ok (.istore_n 3, 1) := by decide +kernel
theorem dX3_partOf_46 : decode cX3_partOf 46 = .ok (.iinc 2 1, 3) := by decide +kernel
theorem dX3_partOf_49 : decode cX3_partOf 49 = .ok (.iinc 4 1, 3) := by decide +kernel
theorem dX3_partOf_52 : decode cX3_partOf 52 = .ok (.goto (-45), 3) := by decide +kernel
theorem dX3_partOf_55 : decode cX3_partOf 55 = .ok (.iload_n 2, 1) := by decide +kernel
theorem dX3_partOf_56 : decode cX3_partOf 56 = .ok (.ireturn, 1) := by decide +kernel
theorem dX3_partAround_0 : decode cX3_partAround 0 = .ok (.iconst 1, 1) := by decide +kernel
theorem dX3_partAround_1 : decode cX3_partAround 1 = .ok (.iload_n 1, 1) := by decide +kernel
theorem dX3_partAround_2 : decode cX3_partAround 2 = .ok (.ishl, 1) := by decide +kernel
theorem dX3_partAround_3 : decode cX3_partAround 3 = .ok (.istore_n 2, 1) := by decide +kernel
theorem dX3_partAround_4 : decode cX3_partAround 4 = .ok (.iconst 0, 1) := by decide +kernel
theorem dX3_partAround_5 : decode cX3_partAround 5 = .ok (.istore_n 3, 1) := by decide +kernel
theorem dX3_partAround_6 : decode cX3_partAround 6 = .ok (.iload_n 3, 1) := by decide +kernel
theorem dX3_partAround_7 : decode cX3_partAround 7 = .ok (.aload_n 0, 1) := by decide +kernel
theorem dX3_partAround_8 : decode cX3_partAround 8 = .ok (.getfield 58, 3) := by decide +kernel
theorem dX3_partAround_11 : decode cX3_partAround 11 = .ok (.if_icmp .ge 65, 3) := by decide +kernel
theorem dX3_partAround_14 : decode cX3_partAround 14 = .ok (.iload_n 2, 1) := by decide +kernel
theorem dX3_partAround_15 : decode cX3_partAround 15 = .ok (.istore 4, 2) := by decide +kernel
theorem dX3_partAround_17 : decode cX3_partAround 17 = .ok (.iconst 0, 1) := by decide +kernel
theorem dX3_partAround_18 : decode cX3_partAround 18 = .ok (.istore 5, 2) := by decide +kernel
theorem dX3_partAround_20 : decode cX3_partAround 20 = .ok (.iload 5, 2) := by decide +kernel
theorem dX3_partAround_22 : decode cX3_partAround 22 = .ok (.aload_n 0, 1) := by decide +kernel
theorem dX3_partAround_23 : decode cX3_partAround 23 = .ok (.getfield 58, 3) := by decide +kernel
theorem dX3_partAround_26 : decode cX3_partAround 26 = .ok (.if_icmp .ge 33, 3) := by decide +kernel
theorem dX3_partAround_29 : decode cX3_partAround 29 = .ok (.iload 4, 2) := by decide +kernel
theorem dX3_partAround_31 : decode cX3_partAround 31 = .ok (.iload_n 2, 1) := by decide +kernel
theorem dX3_partAround_32 : decode cX3_partAround 32 = .ok (.iload 5, 2) := by decide +kernel
theorem dX3_partAround_34 : decode cX3_partAround 34 = .ok (.iushr, 1) := by decide +kernel
theorem dX3_partAround_35 : decode cX3_partAround 35 = .ok (.iconst 1, 1) := by decide +kernel
theorem dX3_partAround_36 : decode cX3_partAround 36 = .ok (.iand, 1) := by decide +kernel
theorem dX3_partAround_37 : decode cX3_partAround 37 = .ok (.ifCond .eq 12, 3) := by decide +kernel
theorem dX3_partAround_40 : decode cX3_partAround 40 = .ok (.aload_n 0, 1) := by decide +kernel
theorem dX3_partAround_41 : decode cX3_partAround 41 = .ok (.iload 5, 2) := by decide +kernel
theorem dX3_partAround_43 : decode cX3_partAround 43 = .ok (.invokevirtual 121, 3) := by decide +kernel
theorem dX3_partAround_46 : decode cX3_partAround 46 = .ok (.goto 4, 3) := by decide +kernel
theorem dX3_partAround_49 : decode cX3_partAround 49 = .ok (.iconst 0, 1) := by decide +kernel
theorem dX3_partAround_50 : decode cX3_partAround 50 = .ok (.ior, 1) := by decide +kernel
theorem dX3_partAround_51 : decode cX3_partAround 51 = .ok (.istore 4, 2) := by decide +kernel
theorem dX3_partAround_53 : decode cX3_partAround 53 = .ok (.iinc 5 1, 3) := by decide +kernel
theorem dX3_partAround_56 : decode cX3_partAround 56 = .ok (.goto (-36), 3) := by decide +kernel
theorem dX3_partAround_59 : decode cX3_partAround 59 = .ok (.iload 4, 2) := by decide +kernel
theorem dX3_partAround_61 : decode cX3_partAround 61 = .ok (.iload_n 2, 1) := by decide +kernel
theorem dX3_partAround_62 : decode cX3_partAround 62 = .ok (.if_icmp .ne 5, 3) := by decide +kernel
theorem dX3_partAround_65 : decode cX3_partAround 65 = .ok (.iload_n 2, 1) := by decide +kernel
theorem dX3_partAround_66 : decode cX3_partAround 66 = .ok (.ireturn, 1) := by decide +kernel
theorem dX3_partAround_67 : decode cX3_partAround 67 = .ok (.iload 4, 2) := by decide +kernel
theorem dX3_partAround_69 : decode cX3_partAround 69 = .ok (.istore_n 2, 1) := by decide +kernel
theorem dX3_partAround_70 : decode cX3_partAround 70 = .ok (.iinc 3 1, 3) := by decide +kernel
theorem dX3_partAround_73 : decode cX3_partAround 73 = .ok (.goto (-67), 3) := by decide +kernel
theorem dX3_partAround_76 : decode cX3_partAround 76 = .ok (.iload_n 2, 1) := by decide +kernel
theorem dX3_partAround_77 : decode cX3_partAround 77 = .ok (.ireturn, 1) := by decide +kernel
theorem dX3_joinedTo_0 : decode cX3_joinedTo 0 = .ok (.iconst 0, 1) := by decide +kernel
theorem dX3_joinedTo_1 : decode cX3_joinedTo 1 = .ok (.istore_n 2, 1) := by decide +kernel
theorem dX3_joinedTo_2 : decode cX3_joinedTo 2 = .ok (.iconst 0, 1) := by decide +kernel
theorem dX3_joinedTo_3 : decode cX3_joinedTo 3 = .ok (.istore_n 3, 1) := by decide +kernel
theorem dX3_joinedTo_4 : decode cX3_joinedTo 4 = .ok (.iload_n 3, 1) := by decide +kernel
theorem dX3_joinedTo_5 : decode cX3_joinedTo 5 = .ok (.aload_n 0, 1) := by decide +kernel
theorem dX3_joinedTo_6 : decode cX3_joinedTo 6 = .ok (.getfield 58, 3) := by decide +kernel
theorem dX3_joinedTo_9 : decode cX3_joinedTo 9 = .ok (.if_icmp .ge 74, 3) := by decide +kernel
theorem dX3_joinedTo_12 : decode cX3_joinedTo 12 = .ok (.aload_n 0, 1) := by decide +kernel
theorem dX3_joinedTo_13 : decode cX3_joinedTo 13 = .ok (.getfield 41, 3) := by decide +kernel
theorem dX3_joinedTo_16 : decode cX3_joinedTo 16 = .ok (.iload_n 1, 1) := by decide +kernel
theorem dX3_joinedTo_17 : decode cX3_joinedTo 17 = .ok (.iaload, 1) := by decide +kernel
theorem dX3_joinedTo_18 : decode cX3_joinedTo 18 = .ok (.iload_n 3, 1) := by decide +kernel
theorem dX3_joinedTo_19 : decode cX3_joinedTo 19 = .ok (.iushr, 1) := by decide +kernel
theorem dX3_joinedTo_20 : decode cX3_joinedTo 20 = .ok (.iconst 1, 1) := by decide +kernel
theorem dX3_joinedTo_21 : decode cX3_joinedTo 21 = .ok (.iand, 1) := by decide +kernel
theorem dX3_joinedTo_22 : decode cX3_joinedTo 22 = .ok (.ifCond .eq 23, 3) := by decide +kernel
theorem dX3_joinedTo_25 : decode cX3_joinedTo 25 = .ok (.aload_n 0, 1) := by decide +kernel
theorem dX3_joinedTo_26 : decode cX3_joinedTo 26 = .ok (.getfield 41, 3) := by decide +kernel
theorem dX3_joinedTo_29 : decode cX3_joinedTo 29 = .ok (.iload_n 1, 1) := by decide +kernel
theorem dX3_joinedTo_30 : decode cX3_joinedTo 30 = .ok (.iaload, 1) := by decide +kernel
theorem dX3_joinedTo_31 : decode cX3_joinedTo 31 = .ok (.aload_n 0, 1) := by decide +kernel
theorem dX3_joinedTo_32 : decode cX3_joinedTo 32 = .ok (.getfield 41, 3) := by decide +kernel
theorem dX3_joinedTo_35 : decode cX3_joinedTo 35 = .ok (.iload_n 3, 1) := by decide +kernel
theorem dX3_joinedTo_36 : decode cX3_joinedTo 36 = .ok (.iaload, 1) := by decide +kernel
theorem dX3_joinedTo_37 : decode cX3_joinedTo 37 = .ok (.iand, 1) := by decide +kernel
theorem dX3_joinedTo_38 : decode cX3_joinedTo 38 = .ok (.ifCond .eq 7, 3) := by decide +kernel
theorem dX3_joinedTo_41 : decode cX3_joinedTo 41 = .ok (.iconst 1, 1) := by decide +kernel
theorem dX3_joinedTo_42 : decode cX3_joinedTo 42 = .ok (.goto 4, 3) := by decide +kernel
theorem dX3_joinedTo_45 : decode cX3_joinedTo 45 = .ok (.iconst 0, 1) := by decide +kernel
theorem dX3_joinedTo_46 : decode cX3_joinedTo 46 = .ok (.istore 4, 2) := by decide +kernel
theorem dX3_joinedTo_48 : decode cX3_joinedTo 48 = .ok (.iload_n 2, 1) := by decide +kernel
theorem dX3_joinedTo_49 : decode cX3_joinedTo 49 = .ok (.iload_n 1, 1) := by decide +kernel
theorem dX3_joinedTo_50 : decode cX3_joinedTo 50 = .ok (.iload_n 3, 1) := by decide +kernel
theorem dX3_joinedTo_51 : decode cX3_joinedTo 51 = .ok (.if_icmp .eq 23, 3) := by decide +kernel
theorem dX3_joinedTo_54 : decode cX3_joinedTo 54 = .ok (.aload_n 0, 1) := by decide +kernel
theorem dX3_joinedTo_55 : decode cX3_joinedTo 55 = .ok (.iload_n 1, 1) := by decide +kernel
theorem dX3_joinedTo_56 : decode cX3_joinedTo 56 = .ok (.iload_n 3, 1) := by decide +kernel
theorem dX3_joinedTo_57 : decode cX3_joinedTo 57 = .ok (.invokevirtual 75, 3) := by decide +kernel
theorem dX3_joinedTo_60 : decode cX3_joinedTo 60 = .ok (.ifCond .gt 8, 3) := by decide +kernel
theorem dX3_joinedTo_63 : decode cX3_joinedTo 63 = .ok (.iload 4, 2) := by decide +kernel
theorem dX3_joinedTo_65 : decode cX3_joinedTo 65 = .ok (.ifCond .eq 9, 3) := by decide +kernel
theorem dX3_joinedTo_68 : decode cX3_joinedTo 68 = .ok (.iconst 1, 1) := by decide +kernel
theorem dX3_joinedTo_69 : decode cX3_joinedTo 69 = .ok (.iload_n 3, 1) := by decide +kernel
theorem dX3_joinedTo_70 : decode cX3_joinedTo 70 = .ok (.ishl, 1) := by decide +kernel
theorem dX3_joinedTo_71 : decode cX3_joinedTo 71 = .ok (.goto 4, 3) := by decide +kernel
theorem dX3_joinedTo_74 : decode cX3_joinedTo 74 = .ok (.iconst 0, 1) := by decide +kernel
theorem dX3_joinedTo_75 : decode cX3_joinedTo 75 = .ok (.ior, 1) := by decide +kernel
theorem dX3_joinedTo_76 : decode cX3_joinedTo 76 = .ok (.istore_n 2, 1) := by decide +kernel
theorem dX3_joinedTo_77 : decode cX3_joinedTo 77 = .ok (.iinc 3 1, 3) := by decide +kernel
theorem dX3_joinedTo_80 : decode cX3_joinedTo 80 = .ok (.goto (-76), 3) := by decide +kernel
theorem dX3_joinedTo_83 : decode cX3_joinedTo 83 = .ok (.iload_n 2, 1) := by decide +kernel
theorem dX3_joinedTo_84 : decode cX3_joinedTo 84 = .ok (.ireturn, 1) := by decide +kernel
end
section
theorem dX9_isShelf_0 : decode cX9_isShelf 0 = .ok (.iload_n 0, 1) := by decide +kernel
theorem dX9_isShelf_1 : decode cX9_isShelf 1 = .ok (.iconst 0, 1) := by decide +kernel
theorem dX9_isShelf_2 : decode cX9_isShelf 2 = .ok (.bipush 7, 2) := by decide +kernel
theorem dX9_isShelf_4 : decode cX9_isShelf 4 = .ok (.invokestatic 72, 3) := by decide +kernel
theorem dX9_isShelf_7 : decode cX9_isShelf 7 = .ok (.ireturn, 1) := by decide +kernel
theorem dX9_isPlace_0 : decode cX9_isPlace 0 = .ok (.iload_n 0, 1) := by decide +kernel
theorem dX9_isPlace_1 : decode cX9_isPlace 1 = .ok (.ifCond .lt 25, 3) := by decide +kernel
theorem dX9_isPlace_4 : decode cX9_isPlace 4 = .ok (.iload_n 0, 1) := by decide +kernel
theorem dX9_isPlace_5 : decode cX9_isPlace 5 = .ok (.bipush 64, 2) := by decide +kernel
theorem dX9_isPlace_7 : decode cX9_isPlace 7 = .ok (.idiv, 1) := by decide +kernel
theorem dX9_isPlace_8 : decode cX9_isPlace 8 = .ok (.bipush 60, 2) := by decide +kernel
theorem dX9_isPlace_10 : decode cX9_isPlace 10 = .ok (.if_icmp .gt 16, 3) := by decide +kernel
theorem dX9_isPlace_13 : decode cX9_isPlace 13 = .ok (.iload_n 0, 1) := by decide +kernel
theorem dX9_isPlace_14 : decode cX9_isPlace 14 = .ok (.bipush 64, 2) := by decide +kernel
theorem dX9_isPlace_16 : decode cX9_isPlace 16 = .ok (.irem, 1) := by decide +kernel
theorem dX9_isPlace_17 : decode cX9_isPlace 17 = .ok (.bipush 60, 2) := by decide +kernel
theorem dX9_isPlace_19 : decode cX9_isPlace 19 = .ok (.if_icmp .gt 7, 3) := by decide +kernel
theorem dX9_isPlace_22 : decode cX9_isPlace 22 = .ok (.iconst 1, 1) := by decide +kernel
theorem dX9_isPlace_23 : decode cX9_isPlace 23 = .ok (.goto 4, 3) := by decide +kernel
theorem dX9_isPlace_26 : decode cX9_isPlace 26 = .ok (.iconst 0, 1) := by decide +kernel
theorem dX9_isPlace_27 : decode cX9_isPlace 27 = .ok (.ireturn, 1) := by decide +kernel
theorem dX9_within_0 : decode cX9_within 0 = .ok (.iload_n 0, 1) := by decide +kernel
theorem dX9_within_1 : decode cX9_within 1 = .ok (.iload_n 1, 1) := by decide +kernel
theorem dX9_within_2 : decode cX9_within 2 = .ok (.if_icmp .lt 12, 3) := by decide +kernel
theorem dX9_within_5 : decode cX9_within 5 = .ok (.iload_n 0, 1) := by decide +kernel
theorem dX9_within_6 : decode cX9_within 6 = .ok (.iload_n 2, 1) := by decide +kernel
theorem dX9_within_7 : decode cX9_within 7 = .ok (.if_icmp .gt 7, 3) := by decide +kernel
theorem dX9_within_10 : decode cX9_within 10 = .ok (.iconst 1, 1) := by decide +kernel
theorem dX9_within_11 : decode cX9_within 11 = .ok (.goto 4, 3) := by decide +kernel
theorem dX9_within_14 : decode cX9_within 14 = .ok (.iconst 0, 1) := by decide +kernel
theorem dX9_within_15 : decode cX9_within 15 = .ok (.ireturn, 1) := by decide +kernel
end
section
theorem dX2_served_0 : decode cX2_served 0 = .ok (.iconst 0, 1) := by decide +kernel
theorem dX2_served_1 : decode cX2_served 1 = .ok (.istore_n 2, 1) := by decide +kernel
theorem dX2_served_2 : decode cX2_served 2 = .ok (.iconst 0, 1) := by decide +kernel
theorem dX2_served_3 : decode cX2_served 3 = .ok (.istore_n 3, 1) := by decide +kernel
theorem dX2_served_4 : decode cX2_served 4 = .ok (.iload_n 3, 1) := by decide +kernel
theorem dX2_served_5 : decode cX2_served 5 = .ok (.aload_n 0, 1) := by decide +kernel
theorem dX2_served_6 : decode cX2_served 6 = .ok (.getfield 15, 3) := by decide +kernel
theorem dX2_served_9 : decode cX2_served 9 = .ok (.getfield 19, 3) := by decide +kernel
theorem dX2_served_12 : decode cX2_served 12 = .ok (.if_icmp .ge 23, 3) := by decide +kernel
theorem dX2_served_15 : decode cX2_served 15 = .ok (.iload_n 2, 1) := by decide +kernel
theorem dX2_served_16 : decode cX2_served 16 = .ok (.aload_n 1, 1) := by decide +kernel
theorem dX2_served_17 : decode cX2_served 17 = .ok (.iload_n 3, 1) := by decide +kernel
theorem dX2_served_18 : decode cX2_served 18 = .ok (.iaload, 1) := by decide +kernel
theorem dX2_served_19 : decode cX2_served 19 = .ok (.ifCond .lt 7, 3) := by decide +kernel
theorem dX2_served_22 : decode cX2_served 22 = .ok (.iconst 1, 1) := by decide +kernel
theorem dX2_served_23 : decode cX2_served 23 = .ok (.goto 4, 3) := by decide +kernel
theorem dX2_served_26 : decode cX2_served 26 = .ok (.iconst 0, 1) := by decide +kernel
theorem dX2_served_27 : decode cX2_served 27 = .ok (.iadd, 1) := by decide +kernel
theorem dX2_served_28 : decode cX2_served 28 = .ok (.istore_n 2, 1) := by decide +kernel
theorem dX2_served_29 : decode cX2_served 29 = .ok (.iinc 3 1, 3) := by decide +kernel
theorem dX2_served_32 : decode cX2_served 32 = .ok (.goto (-28), 3) := by decide +kernel
theorem dX2_served_35 : decode cX2_served 35 = .ok (.iload_n 2, 1) := by decide +kernel
theorem dX2_served_36 : decode cX2_served 36 = .ok (.ireturn, 1) := by decide +kernel
theorem dX2_totalHarm_0 : decode cX2_totalHarm 0 = .ok (.aload_n 0, 1) := by decide +kernel
theorem dX2_totalHarm_1 : decode cX2_totalHarm 1 = .ok (.aload_n 1, 1) := by decide +kernel
theorem dX2_totalHarm_2 : decode cX2_totalHarm 2 = .ok (.invokevirtual 25, 3) := by decide +kernel
theorem dX2_totalHarm_5 : decode cX2_totalHarm 5 = .ok (.iconst 5, 1) := by decide +kernel
theorem dX2_totalHarm_6 : decode cX2_totalHarm 6 = .ok (.aload_n 0, 1) := by decide +kernel
theorem dX2_totalHarm_7 : decode cX2_totalHarm 7 = .ok (.aload_n 1, 1) := by decide +kernel
theorem dX2_totalHarm_8 : decode cX2_totalHarm 8 = .ok (.invokevirtual 29, 3) := by decide +kernel
theorem dX2_totalHarm_11 : decode cX2_totalHarm 11 = .ok (.imul, 1) := by decide +kernel
theorem dX2_totalHarm_12 : decode cX2_totalHarm 12 = .ok (.iadd, 1) := by decide +kernel
theorem dX2_totalHarm_13 : decode cX2_totalHarm 13 = .ok (.bipush 10, 2) := by decide +kernel
theorem dX2_totalHarm_15 : decode cX2_totalHarm 15 = .ok (.aload_n 0, 1) := by decide +kernel
theorem dX2_totalHarm_16 : decode cX2_totalHarm 16 = .ok (.aload_n 1, 1) := by decide +kernel
theorem dX2_totalHarm_17 : decode cX2_totalHarm 17 = .ok (.invokevirtual 32, 3) := by decide +kernel
theorem dX2_totalHarm_20 : decode cX2_totalHarm 20 = .ok (.invokestatic 35, 3) := by decide +kernel
theorem dX2_totalHarm_23 : decode cX2_totalHarm 23 = .ok (.imul, 1) := by decide +kernel
theorem dX2_totalHarm_24 : decode cX2_totalHarm 24 = .ok (.iadd, 1) := by decide +kernel
theorem dX2_totalHarm_25 : decode cX2_totalHarm 25 = .ok (.ireturn, 1) := by decide +kernel
theorem dX2_lackOf_0 : decode cX2_lackOf 0 = .ok (.aload_n 1, 1) := by decide +kernel
theorem dX2_lackOf_1 : decode cX2_lackOf 1 = .ok (.iload_n 2, 1) := by decide +kernel
theorem dX2_lackOf_2 : decode cX2_lackOf 2 = .ok (.iaload, 1) := by decide +kernel
theorem dX2_lackOf_3 : decode cX2_lackOf 3 = .ok (.ifCond .lt 9, 3) := by decide +kernel
theorem dX2_lackOf_6 : decode cX2_lackOf 6 = .ok (.aload_n 1, 1) := by decide +kernel
theorem dX2_lackOf_7 : decode cX2_lackOf 7 = .ok (.iload_n 3, 1) := by decide +kernel
theorem dX2_lackOf_8 : decode cX2_lackOf 8 = .ok (.iaload, 1) := by decide +kernel
theorem dX2_lackOf_9 : decode cX2_lackOf 9 = .ok (.ifCond .ge 7, 3) := by decide +kernel
theorem dX2_lackOf_12 : decode cX2_lackOf 12 = .ok (.iconst 0, 1) := by decide +kernel
theorem dX2_lackOf_13 : decode cX2_lackOf 13 = .ok (.goto 15, 3) := by decide +kernel
theorem dX2_lackOf_16 : decode cX2_lackOf 16 = .ok (.aload_n 0, 1) := by decide +kernel
theorem dX2_lackOf_17 : decode cX2_lackOf 17 = .ok (.iload_n 2, 1) := by decide +kernel
theorem dX2_lackOf_18 : decode cX2_lackOf 18 = .ok (.aload_n 1, 1) := by decide +kernel
theorem dX2_lackOf_19 : decode cX2_lackOf 19 = .ok (.iload_n 2, 1) := by decide +kernel
theorem dX2_lackOf_20 : decode cX2_lackOf 20 = .ok (.iaload, 1) := by decide +kernel
theorem dX2_lackOf_21 : decode cX2_lackOf 21 = .ok (.iload_n 3, 1) := by decide +kernel
theorem dX2_lackOf_22 : decode cX2_lackOf 22 = .ok (.aload_n 1, 1) := by decide +kernel
theorem dX2_lackOf_23 : decode cX2_lackOf 23 = .ok (.iload_n 3, 1) := by decide +kernel
theorem dX2_lackOf_24 : decode cX2_lackOf 24 = .ok (.iaload, 1) := by decide +kernel
theorem dX2_lackOf_25 : decode cX2_lackOf 25 = .ok (.invokevirtual 41, 3) := by decide +kernel
theorem dX2_lackOf_28 : decode cX2_lackOf 28 = .ok (.ireturn, 1) := by decide +kernel
theorem dX2_lackAt_0 : decode cX2_lackAt 0 = .ok (.aload_n 0, 1) := by decide +kernel
theorem dX2_lackAt_1 : decode cX2_lackAt 1 = .ok (.getfield 15, 3) := by decide +kernel
theorem dX2_lackAt_4 : decode cX2_lackAt 4 = .ok (.iload_n 1, 1) := by decide +kernel
theorem dX2_lackAt_5 : decode cX2_lackAt 5 = .ok (.iload_n 3, 1) := by decide +kernel
theorem dX2_lackAt_6 : decode cX2_lackAt 6 = .ok (.invokevirtual 45, 3) := by decide +kernel
theorem dX2_lackAt_9 : decode cX2_lackAt 9 = .ok (.istore 5, 2) := by decide +kernel
theorem dX2_lackAt_11 : decode cX2_lackAt 11 = .ok (.iload 5, 2) := by decide +kernel
theorem dX2_lackAt_13 : decode cX2_lackAt 13 = .ok (.ifCond .ne 5, 3) := by decide +kernel
theorem dX2_lackAt_16 : decode cX2_lackAt 16 = .ok (.iconst 0, 1) := by decide +kernel
theorem dX2_lackAt_17 : decode cX2_lackAt 17 = .ok (.ireturn, 1) := by decide +kernel
theorem dX2_lackAt_18 : decode cX2_lackAt 18 = .ok (.iconst 0, 1) := by decide +kernel
theorem dX2_lackAt_19 : decode cX2_lackAt 19 = .ok (.istore 6, 2) := by decide +kernel
theorem dX2_lackAt_21 : decode cX2_lackAt 21 = .ok (.aload_n 0, 1) := by decide +kernel
theorem dX2_lackAt_22 : decode cX2_lackAt 22 = .ok (.getfield 15, 3) := by decide +kernel
theorem dX2_lackAt_25 : decode cX2_lackAt 25 = .ok (.iload_n 1, 1) := by decide +kernel
theorem dX2_lackAt_26 : decode cX2_lackAt 26 = .ok (.invokevirtual 49, 3) := by decide +kernel
theorem dX2_lackAt_29 : decode cX2_lackAt 29 = .ok (.istore 7, 2) := by decide +kernel
theorem dX2_lackAt_31 : decode cX2_lackAt 31 = .ok (.aload_n 0, 1) := by decide +kernel
theorem dX2_lackAt_32 : decode cX2_lackAt 32 = .ok (.getfield 15, 3) := by decide +kernel
theorem dX2_lackAt_35 : decode cX2_lackAt 35 = .ok (.iload_n 3, 1) := by decide +kernel
theorem dX2_lackAt_36 : decode cX2_lackAt 36 = .ok (.invokevirtual 49, 3) := by decide +kernel
theorem dX2_lackAt_39 : decode cX2_lackAt 39 = .ok (.istore 8, 2) := by decide +kernel
theorem dX2_lackAt_41 : decode cX2_lackAt 41 = .ok (.iload_n 2, 1) := by decide +kernel
theorem dX2_lackAt_42 : decode cX2_lackAt 42 = .ok (.istore 9, 2) := by decide +kernel
theorem dX2_lackAt_44 : decode cX2_lackAt 44 = .ok (.iload 9, 2) := by decide +kernel
theorem dX2_lackAt_46 : decode cX2_lackAt 46 = .ok (.iload_n 2, 1) := by decide +kernel
theorem dX2_lackAt_47 : decode cX2_lackAt 47 = .ok (.iload 7, 2) := by decide +kernel
theorem dX2_lackAt_49 : decode cX2_lackAt 49 = .ok (.iadd, 1) := by decide +kernel
theorem dX2_lackAt_50 : decode cX2_lackAt 50 = .ok (.if_icmp .gt 63, 3) := by decide +kernel
theorem dX2_lackAt_53 : decode cX2_lackAt 53 = .ok (.iload 4, 2) := by decide +kernel
theorem dX2_lackAt_55 : decode cX2_lackAt 55 = .ok (.istore 10, 2) := by decide +kernel
theorem dX2_lackAt_57 : decode cX2_lackAt 57 = .ok (.iload 10, 2) := by decide +kernel
theorem dX2_lackAt_59 : decode cX2_lackAt 59 = .ok (.iload 4, 2) := by decide +kernel
theorem dX2_lackAt_61 : decode cX2_lackAt 61 = .ok (.iload 8, 2) := by decide +kernel
theorem dX2_lackAt_63 : decode cX2_lackAt 63 = .ok (.iadd, 1) := by decide +kernel
theorem dX2_lackAt_64 : decode cX2_lackAt 64 = .ok (.if_icmp .gt 35, 3) := by decide +kernel
theorem dX2_lackAt_67 : decode cX2_lackAt 67 = .ok (.iload 6, 2) := by decide +kernel
theorem dX2_lackAt_69 : decode cX2_lackAt 69 = .ok (.iload 5, 2) := by decide +kernel
theorem dX2_lackAt_71 : decode cX2_lackAt 71 = .ok (.iload 9, 2) := by decide +kernel
theorem dX2_lackAt_73 : decode cX2_lackAt 73 = .ok (.iload 10, 2) := by decide +kernel
theorem dX2_lackAt_75 : decode cX2_lackAt 75 = .ok (.isub, 1) := by decide +kernel
theorem dX2_lackAt_76 : decode cX2_lackAt 76 = .ok (.invokestatic 52, 3) := by decide +kernel
theorem dX2_lackAt_79 : decode cX2_lackAt 79 = .ok (.isub, 1) := by decide +kernel
theorem dX2_lackAt_80 : decode cX2_lackAt 80 = .ok (.invokestatic 57, 3) := by decide +kernel
theorem dX2_lackAt_83 : decode cX2_lackAt 83 = .ok (.istore 6, 2) := by decide +kernel
theorem dX2_lackAt_85 : decode cX2_lackAt 85 = .ok (.iload 10, 2) := by decide +kernel
theorem dX2_lackAt_87 : decode cX2_lackAt 87 = .ok (.iconst 1, 1) := by decide +kernel
theorem dX2_lackAt_88 : decode cX2_lackAt 88 = .ok (.iload 8, 2) := by decide +kernel
theorem dX2_lackAt_90 : decode cX2_lackAt 90 = .ok (.invokestatic 57, 3) := by decide +kernel
theorem dX2_lackAt_93 : decode cX2_lackAt 93 = .ok (.iadd, 1) := by decide +kernel
theorem dX2_lackAt_94 : decode cX2_lackAt 94 = .ok (.istore 10, 2) := by decide +kernel
theorem dX2_lackAt_96 : decode cX2_lackAt 96 = .ok (.goto (-39), 3) := by decide +kernel
theorem dX2_lackAt_99 : decode cX2_lackAt 99 = .ok (.iload 9, 2) := by decide +kernel
theorem dX2_lackAt_101 : decode cX2_lackAt 101 = .ok (.iconst 1, 1) := by decide +kernel
theorem dX2_lackAt_102 : decode cX2_lackAt 102 = .ok (.iload 7, 2) := by decide +kernel
theorem dX2_lackAt_104 : decode cX2_lackAt 104 = .ok (.invokestatic 57, 3) := by decide +kernel
theorem dX2_lackAt_107 : decode cX2_lackAt 107 = .ok (.iadd, 1) := by decide +kernel
theorem dX2_lackAt_108 : decode cX2_lackAt 108 = .ok (.istore 9, 2) := by decide +kernel
theorem dX2_lackAt_110 : decode cX2_lackAt 110 = .ok (.goto (-66), 3) := by decide +kernel
theorem dX2_lackAt_113 : decode cX2_lackAt 113 = .ok (.iload 6, 2) := by decide +kernel
theorem dX2_lackAt_115 : decode cX2_lackAt 115 = .ok (.ireturn, 1) := by decide +kernel
theorem dX2_lackingTwos_0 : decode cX2_lackingTwos 0 = .ok (.iconst 0, 1) := by decide +kernel
theorem dX2_lackingTwos_1 : decode cX2_lackingTwos 1 = .ok (.istore_n 2, 1) := by decide +kernel
theorem dX2_lackingTwos_2 : decode cX2_lackingTwos 2 = .ok (.iconst 0, 1) := by decide +kernel
theorem dX2_lackingTwos_3 : decode cX2_lackingTwos 3 = .ok (.istore_n 3, 1) := by decide +kernel
theorem dX2_lackingTwos_4 : decode cX2_lackingTwos 4 = .ok (.iload_n 3, 1) := by decide +kernel
theorem dX2_lackingTwos_5 : decode cX2_lackingTwos 5 = .ok (.aload_n 0, 1) := by decide +kernel
theorem dX2_lackingTwos_6 : decode cX2_lackingTwos 6 = .ok (.getfield 15, 3) := by decide +kernel
theorem dX2_lackingTwos_9 : decode cX2_lackingTwos 9 = .ok (.getfield 19, 3) := by decide +kernel
theorem dX2_lackingTwos_12 : decode cX2_lackingTwos 12 = .ok (.if_icmp .ge 51, 3) := by decide +kernel
theorem dX2_lackingTwos_15 : decode cX2_lackingTwos 15 = .ok (.iload_n 3, 1) := by decide +kernel
theorem dX2_lackingTwos_16 : decode cX2_lackingTwos 16 = .ok (.iconst 1, 1) := by decide +kernel
theorem dX2_lackingTwos_17 : decode cX2_lackingTwos 17 = .ok (.iadd, 1) := by decide +kernel
theorem dX2_lackingTwos_18 : decode cX2_lackingTwos 18 = .ok (.istore 4, 2) := by decide +kernel
theorem dX2_lackingTwos_20 : decode cX2_lackingTwos 20 = .ok (.iload 4, 2) := by decide +kernel
theorem dX2_lackingTwos_22 : decode cX2_lackingTwos 22 = .ok (.aload_n 0, 1) := by decide +kernel
theorem dX2_lackingTwos_23 : decode cX2_lackingTwos 23 = .ok (.getfield 15, 3) := by decide +kernel
theorem dX2_lackingTwos_26 : decode cX2_lackingTwos 26 = .ok (.getfield 19, 3) := by decide +kernel
theorem dX2_lackingTwos_29 : decode cX2_lackingTwos 29 = .ok (.if_icmp .ge 28, 3) := by decide +kernel
theorem dX2_lackingTwos_32 : decode cX2_lackingTwos 32 = .ok (.iload_n 2, 1) := by decide +kernel
theorem dX2_lackingTwos_33 : decode cX2_lackingTwos 33 = .ok (.aload_n 0, 1) := by decide +kernel
theorem dX2_lackingTwos_34 : decode cX2_lackingTwos 34 = .ok (.aload_n 1, 1) := by decide +kernel
theorem dX2_lackingTwos_35 : decode cX2_lackingTwos 35 = .ok (.iload_n 3, 1) := by decide +kernel
theorem dX2_lackingTwos_36 : decode cX2_lackingTwos 36 = .ok (.iload 4, 2) := by decide +kernel
theorem dX2_lackingTwos_38 : decode cX2_lackingTwos 38 = .ok (.invokevirtual 60, 3) := by decide +kernel
theorem dX2_lackingTwos_41 : decode cX2_lackingTwos 41 = .ok (.ifCond .le 7, 3) := by decide +kernel
theorem dX2_lackingTwos_44 : decode cX2_lackingTwos 44 = .ok (.iconst 1, 1) := by decide +kernel
theorem dX2_lackingTwos_45 : decode cX2_lackingTwos 45 = .ok (.goto 4, 3) := by decide +kernel
theorem dX2_lackingTwos_48 : decode cX2_lackingTwos 48 = .ok (.iconst 0, 1) := by decide +kernel
theorem dX2_lackingTwos_49 : decode cX2_lackingTwos 49 = .ok (.iadd, 1) := by decide +kernel
theorem dX2_lackingTwos_50 : decode cX2_lackingTwos 50 = .ok (.istore_n 2, 1) := by decide +kernel
theorem dX2_lackingTwos_51 : decode cX2_lackingTwos 51 = .ok (.iinc 4 1, 3) := by decide +kernel
theorem dX2_lackingTwos_54 : decode cX2_lackingTwos 54 = .ok (.goto (-34), 3) := by decide +kernel
theorem dX2_lackingTwos_57 : decode cX2_lackingTwos 57 = .ok (.iinc 3 1, 3) := by decide +kernel
theorem dX2_lackingTwos_60 : decode cX2_lackingTwos 60 = .ok (.goto (-56), 3) := by decide +kernel
theorem dX2_lackingTwos_63 : decode cX2_lackingTwos 63 = .ok (.iload_n 2, 1) := by decide +kernel
theorem dX2_lackingTwos_64 : decode cX2_lackingTwos 64 = .ok (.ireturn, 1) := by decide +kernel
theorem dX2_lacks_0 : decode cX2_lacks 0 = .ok (.iconst 0, 1) := by decide +kernel
theorem dX2_lacks_1 : decode cX2_lacks 1 = .ok (.istore_n 2, 1) := by decide +kernel
theorem dX2_lacks_2 : decode cX2_lacks 2 = .ok (.iconst 0, 1) := by decide +kernel
theorem dX2_lacks_3 : decode cX2_lacks 3 = .ok (.istore_n 3, 1) := by decide +kernel
theorem dX2_lacks_4 : decode cX2_lacks 4 = .ok (.iload_n 3, 1) := by decide +kernel
theorem dX2_lacks_5 : decode cX2_lacks 5 = .ok (.aload_n 0, 1) := by decide +kernel
theorem dX2_lacks_6 : decode cX2_lacks 6 = .ok (.getfield 15, 3) := by decide +kernel
theorem dX2_lacks_9 : decode cX2_lacks 9 = .ok (.getfield 19, 3) := by decide +kernel
theorem dX2_lacks_12 : decode cX2_lacks 12 = .ok (.if_icmp .ge 43, 3) := by decide +kernel
theorem dX2_lacks_15 : decode cX2_lacks 15 = .ok (.iload_n 3, 1) := by decide +kernel
theorem dX2_lacks_16 : decode cX2_lacks 16 = .ok (.iconst 1, 1) := by decide +kernel
theorem dX2_lacks_17 : decode cX2_lacks 17 = .ok (.iadd, 1) := by decide +kernel
theorem dX2_lacks_18 : decode cX2_lacks 18 = .ok (.istore 4, 2) := by decide +kernel
theorem dX2_lacks_20 : decode cX2_lacks 20 = .ok (.iload 4, 2) := by decide +kernel
theorem dX2_lacks_22 : decode cX2_lacks 22 = .ok (.aload_n 0, 1) := by decide +kernel
theorem dX2_lacks_23 : decode cX2_lacks 23 = .ok (.getfield 15, 3) := by decide +kernel
theorem dX2_lacks_26 : decode cX2_lacks 26 = .ok (.getfield 19, 3) := by decide +kernel
theorem dX2_lacks_29 : decode cX2_lacks 29 = .ok (.if_icmp .ge 20, 3) := by decide +kernel
theorem dX2_lacks_32 : decode cX2_lacks 32 = .ok (.iload_n 2, 1) := by decide +kernel
theorem dX2_lacks_33 : decode cX2_lacks 33 = .ok (.aload_n 0, 1) := by decide +kernel
theorem dX2_lacks_34 : decode cX2_lacks 34 = .ok (.aload_n 1, 1) := by decide +kernel
theorem dX2_lacks_35 : decode cX2_lacks 35 = .ok (.iload_n 3, 1) := by decide +kernel
theorem dX2_lacks_36 : decode cX2_lacks 36 = .ok (.iload 4, 2) := by decide +kernel
theorem dX2_lacks_38 : decode cX2_lacks 38 = .ok (.invokevirtual 60, 3) := by decide +kernel
theorem dX2_lacks_41 : decode cX2_lacks 41 = .ok (.iadd, 1) := by decide +kernel
theorem dX2_lacks_42 : decode cX2_lacks 42 = .ok (.istore_n 2, 1) := by decide +kernel
theorem dX2_lacks_43 : decode cX2_lacks 43 = .ok (.iinc 4 1, 3) := by decide +kernel
theorem dX2_lacks_46 : decode cX2_lacks 46 = .ok (.goto (-26), 3) := by decide +kernel
theorem dX2_lacks_49 : decode cX2_lacks 49 = .ok (.iinc 3 1, 3) := by decide +kernel
theorem dX2_lacks_52 : decode cX2_lacks 52 = .ok (.goto (-48), 3) := by decide +kernel
theorem dX2_lacks_55 : decode cX2_lacks 55 = .ok (.iload_n 2, 1) := by decide +kernel
theorem dX2_lacks_56 : decode cX2_lacks 56 = .ok (.ireturn, 1) := by decide +kernel
theorem dX2_sums_0 : decode cX2_sums 0 = .ok (.iconst 0, 1) := by decide +kernel
theorem dX2_sums_1 : decode cX2_sums 1 = .ok (.istore_n 2, 1) := by decide +kernel
theorem dX2_sums_2 : decode cX2_sums 2 = .ok (.iconst 0, 1) := by decide +kernel
theorem dX2_sums_3 : decode cX2_sums 3 = .ok (.istore_n 3, 1) := by decide +kernel
theorem dX2_sums_4 : decode cX2_sums 4 = .ok (.iload_n 3, 1) := by decide +kernel
theorem dX2_sums_5 : decode cX2_sums 5 = .ok (.aload_n 0, 1) := by decide +kernel
theorem dX2_sums_6 : decode cX2_sums 6 = .ok (.getfield 15, 3) := by decide +kernel
theorem dX2_sums_9 : decode cX2_sums 9 = .ok (.getfield 19, 3) := by decide +kernel
theorem dX2_sums_12 : decode cX2_sums 12 = .ok (.if_icmp .ge 86, 3) := by decide +kernel
theorem dX2_sums_15 : decode cX2_sums 15 = .ok (.iload_n 3, 1) := by decide +kernel
theorem dX2_sums_16 : decode cX2_sums 16 = .ok (.iconst 1, 1) := by decide +kernel
theorem dX2_sums_17 : decode cX2_sums 17 = .ok (.iadd, 1) := by decide +kernel
theorem dX2_sums_18 : decode cX2_sums 18 = .ok (.istore 4, 2) := by decide +kernel
theorem dX2_sums_20 : decode cX2_sums 20 = .ok (.iload 4, 2) := by decide +kernel
theorem dX2_sums_22 : decode cX2_sums 22 = .ok (.aload_n 0, 1) := by decide +kernel
theorem dX2_sums_23 : decode cX2_sums 23 = .ok (.getfield 15, 3) := by decide +kernel
theorem dX2_sums_26 : decode cX2_sums 26 = .ok (.getfield 19, 3) := by decide +kernel
theorem dX2_sums_29 : decode cX2_sums 29 = .ok (.if_icmp .ge 63, 3) := by decide +kernel
theorem dX2_sums_32 : decode cX2_sums 32 = .ok (.iload 4, 2) := by decide +kernel
theorem dX2_sums_34 : decode cX2_sums 34 = .ok (.iconst 1, 1) := by decide +kernel
theorem dX2_sums_35 : decode cX2_sums 35 = .ok (.iadd, 1) := by decide +kernel
theorem dX2_sums_36 : decode cX2_sums 36 = .ok (.istore 5, 2) := by decide +kernel
theorem dX2_sums_38 : decode cX2_sums 38 = .ok (.iload 5, 2) := by decide +kernel
theorem dX2_sums_40 : decode cX2_sums 40 = .ok (.aload_n 0, 1) := by decide +kernel
theorem dX2_sums_41 : decode cX2_sums 41 = .ok (.getfield 15, 3) := by decide +kernel
theorem dX2_sums_44 : decode cX2_sums 44 = .ok (.getfield 19, 3) := by decide +kernel
theorem dX2_sums_47 : decode cX2_sums 47 = .ok (.if_icmp .ge 39, 3) := by decide +kernel
theorem dX2_sums_50 : decode cX2_sums 50 = .ok (.iload_n 2, 1) := by decide +kernel
theorem dX2_sums_51 : decode cX2_sums 51 = .ok (.aload_n 0, 1) := by decide +kernel
theorem dX2_sums_52 : decode cX2_sums 52 = .ok (.aload_n 1, 1) := by decide +kernel
theorem dX2_sums_53 : decode cX2_sums 53 = .ok (.iload_n 3, 1) := by decide +kernel
theorem dX2_sums_54 : decode cX2_sums 54 = .ok (.iload 4, 2) := by decide +kernel
theorem dX2_sums_56 : decode cX2_sums 56 = .ok (.iload 5, 2) := by decide +kernel
theorem dX2_sums_58 : decode cX2_sums 58 = .ok (.invokevirtual 64, 3) := by decide +kernel
theorem dX2_sums_61 : decode cX2_sums 61 = .ok (.ifCond .eq 16, 3) := by decide +kernel
theorem dX2_sums_64 : decode cX2_sums 64 = .ok (.aload_n 0, 1) := by decide +kernel
theorem dX2_sums_65 : decode cX2_sums 65 = .ok (.aload_n 1, 1) := by decide +kernel
theorem dX2_sums_66 : decode cX2_sums 66 = .ok (.iload_n 3, 1) := by decide +kernel
theorem dX2_sums_67 : decode cX2_sums 67 = .ok (.iload 4, 2) := by decide +kernel
theorem dX2_sums_69 : decode cX2_sums 69 = .ok (.iload 5, 2) := by decide +kernel
theorem dX2_sums_71 : decode cX2_sums 71 = .ok (.invokevirtual 68, 3) := by decide +kernel
theorem dX2_sums_74 : decode cX2_sums 74 = .ok (.goto 4, 3) := by decide +kernel
theorem dX2_sums_77 : decode cX2_sums 77 = .ok (.iconst 0, 1) := by decide +kernel
theorem dX2_sums_78 : decode cX2_sums 78 = .ok (.iadd, 1) := by decide +kernel
theorem dX2_sums_79 : decode cX2_sums 79 = .ok (.istore_n 2, 1) := by decide +kernel
theorem dX2_sums_80 : decode cX2_sums 80 = .ok (.iinc 5 1, 3) := by decide +kernel
theorem dX2_sums_83 : decode cX2_sums 83 = .ok (.goto (-45), 3) := by decide +kernel
theorem dX2_sums_86 : decode cX2_sums 86 = .ok (.iinc 4 1, 3) := by decide +kernel
theorem dX2_sums_89 : decode cX2_sums 89 = .ok (.goto (-69), 3) := by decide +kernel
theorem dX2_sums_92 : decode cX2_sums 92 = .ok (.iinc 3 1, 3) := by decide +kernel
theorem dX2_sums_95 : decode cX2_sums 95 = .ok (.goto (-91), 3) := by decide +kernel
theorem dX2_sums_98 : decode cX2_sums 98 = .ok (.iload_n 2, 1) := by decide +kernel
theorem dX2_sums_99 : decode cX2_sums 99 = .ok (.ireturn, 1) := by decide +kernel
theorem dX2_sumTogether_0 : decode cX2_sumTogether 0 = .ok (.aload_n 1, 1) := by decide +kernel
theorem dX2_sumTogether_1 : decode cX2_sumTogether 1 = .ok (.iload_n 2, 1) := by decide +kernel
theorem dX2_sumTogether_2 : decode cX2_sumTogether 2 = .ok (.iaload, 1) := by decide +kernel
theorem dX2_sumTogether_3 : decode cX2_sumTogether 3 = .ok (.ifCond .lt 58, 3) := by decide +kernel
theorem dX2_sumTogether_6 : decode cX2_sumTogether 6 = .ok (.aload_n 1, 1) := by decide +kernel
theorem dX2_sumTogether_7 : decode cX2_sumTogether 7 = .ok (.iload_n 3, 1) := by decide +kernel
theorem dX2_sumTogether_8 : decode cX2_sumTogether 8 = .ok (.iaload, 1) := by decide +kernel
theorem dX2_sumTogether_9 : decode cX2_sumTogether 9 = .ok (.ifCond .lt 52, 3) := by decide +kernel
theorem dX2_sumTogether_12 : decode cX2_sumTogether 12 = .ok (.aload_n 1, 1) := by decide +kernel
theorem dX2_sumTogether_13 : decode cX2_sumTogether 13 = .ok (.iload 4, 2) := by decide +kernel
theorem dX2_sumTogether_15 : decode cX2_sumTogether 15 = .ok (.iaload, 1) := by decide +kernel
theorem dX2_sumTogether_16 : decode cX2_sumTogether 16 = .ok (.ifCond .lt 45, 3) := by decide +kernel
theorem dX2_sumTogether_19 : decode cX2_sumTogether 19 = .ok (.aload_n 0, 1) := by decide +kernel
theorem dX2_sumTogether_20 : decode cX2_sumTogether 20 = .ok (.getfield 15, 3) := by decide +kernel
theorem dX2_sumTogether_23 : decode cX2_sumTogether 23 = .ok (.aload_n 0, 1) := by decide +kernel
theorem dX2_sumTogether_24 : decode cX2_sumTogether 24 = .ok (.getfield 15, 3) := by decide +kernel
theorem dX2_sumTogether_27 : decode cX2_sumTogether 27 = .ok (.getfield 72, 3) := by decide +kernel
theorem dX2_sumTogether_30 : decode cX2_sumTogether 30 = .ok (.iload_n 2, 1) := by decide +kernel
theorem dX2_sumTogether_31 : decode cX2_sumTogether 31 = .ok (.iaload, 1) := by decide +kernel
theorem dX2_sumTogether_32 : decode cX2_sumTogether 32 = .ok (.aload_n 0, 1) := by decide +kernel
theorem dX2_sumTogether_33 : decode cX2_sumTogether 33 = .ok (.getfield 15, 3) := by decide +kernel
theorem dX2_sumTogether_36 : decode cX2_sumTogether 36 = .ok (.getfield 72, 3) := by decide +kernel
theorem dX2_sumTogether_39 : decode cX2_sumTogether 39 = .ok (.iload_n 3, 1) := by decide +kernel
theorem dX2_sumTogether_40 : decode cX2_sumTogether 40 = .ok (.iaload, 1) := by decide +kernel
theorem dX2_sumTogether_41 : decode cX2_sumTogether 41 = .ok (.aload_n 0, 1) := by decide +kernel
theorem dX2_sumTogether_42 : decode cX2_sumTogether 42 = .ok (.getfield 15, 3) := by decide +kernel
theorem dX2_sumTogether_45 : decode cX2_sumTogether 45 = .ok (.getfield 72, 3) := by decide +kernel
theorem dX2_sumTogether_48 : decode cX2_sumTogether 48 = .ok (.iload 4, 2) := by decide +kernel
theorem dX2_sumTogether_50 : decode cX2_sumTogether 50 = .ok (.iaload, 1) := by decide +kernel
theorem dX2_sumTogether_51 : decode cX2_sumTogether 51 = .ok (.invokevirtual 75, 3) := by decide +kernel
theorem dX2_sumTogether_54 : decode cX2_sumTogether 54 = .ok (.ifCond .eq 7, 3) := by decide +kernel
theorem dX2_sumTogether_57 : decode cX2_sumTogether 57 = .ok (.iconst 1, 1) := by decide +kernel
theorem dX2_sumTogether_58 : decode cX2_sumTogether 58 = .ok (.goto 4, 3) := by decide +kernel
theorem dX2_sumTogether_61 : decode cX2_sumTogether 61 = .ok (.iconst 0, 1) := by decide +kernel
theorem dX2_sumTogether_62 : decode cX2_sumTogether 62 = .ok (.ireturn, 1) := by decide +kernel
theorem dX2_sumsOfThree_0 : decode cX2_sumsOfThree 0 = .ok (.iconst 0, 1) := by decide +kernel
theorem dX2_sumsOfThree_1 : decode cX2_sumsOfThree 1 = .ok (.istore 5, 2) := by decide +kernel
theorem dX2_sumsOfThree_3 : decode cX2_sumsOfThree 3 = .ok (.aload_n 0, 1) := by decide +kernel
theorem dX2_sumsOfThree_4 : decode cX2_sumsOfThree 4 = .ok (.getfield 15, 3) := by decide +kernel
theorem dX2_sumsOfThree_7 : decode cX2_sumsOfThree 7 = .ok (.iload_n 2, 1) := by decide +kernel
theorem dX2_sumsOfThree_8 : decode cX2_sumsOfThree 8 = .ok (.invokevirtual 49, 3) := by decide +kernel
theorem dX2_sumsOfThree_11 : decode cX2_sumsOfThree 11 = .ok (.istore 6, 2) := by decide +kernel
theorem dX2_sumsOfThree_13 : decode cX2_sumsOfThree 13 = .ok (.aload_n 0, 1) := by decide +kernel
theorem dX2_sumsOfThree_14 : decode cX2_sumsOfThree 14 = .ok (.getfield 15, 3) := by decide +kernel
theorem dX2_sumsOfThree_17 : decode cX2_sumsOfThree 17 = .ok (.iload_n 3, 1) := by decide +kernel
theorem dX2_sumsOfThree_18 : decode cX2_sumsOfThree 18 = .ok (.invokevirtual 49, 3) := by decide +kernel
theorem dX2_sumsOfThree_21 : decode cX2_sumsOfThree 21 = .ok (.istore 7, 2) := by decide +kernel
theorem dX2_sumsOfThree_23 : decode cX2_sumsOfThree 23 = .ok (.aload_n 0, 1) := by decide +kernel
theorem dX2_sumsOfThree_24 : decode cX2_sumsOfThree 24 = .ok (.getfield 15, 3) := by decide +kernel
theorem dX2_sumsOfThree_27 : decode cX2_sumsOfThree 27 = .ok (.iload 4, 2) := by decide +kernel
theorem dX2_sumsOfThree_29 : decode cX2_sumsOfThree 29 = .ok (.invokevirtual 49, 3) := by decide +kernel
theorem dX2_sumsOfThree_32 : decode cX2_sumsOfThree 32 = .ok (.istore 8, 2) := by decide +kernel
theorem dX2_sumsOfThree_34 : decode cX2_sumsOfThree 34 = .ok (.aload_n 1, 1) := by decide +kernel
theorem dX2_sumsOfThree_35 : decode cX2_sumsOfThree 35 = .ok (.iload_n 2, 1) := by decide +kernel
theorem dX2_sumsOfThree_36 : decode cX2_sumsOfThree 36 = .ok (.iaload, 1) := by decide +kernel
theorem dX2_sumsOfThree_37 : decode cX2_sumsOfThree 37 = .ok (.istore 9, 2) := by decide +kernel
theorem dX2_sumsOfThree_39 : decode cX2_sumsOfThree 39 = .ok (.iload 9, 2) := by decide +kernel
theorem dX2_sumsOfThree_41 : decode cX2_sumsOfThree 41 = .ok (.aload_n 1, 1) := by decide +kernel
theorem dX2_sumsOfThree_42 : decode cX2_sumsOfThree 42 = .ok (.iload_n 2, 1) := by decide +kernel
theorem dX2_sumsOfThree_43 : decode cX2_sumsOfThree 43 = .ok (.iaload, 1) := by decide +kernel
theorem dX2_sumsOfThree_44 : decode cX2_sumsOfThree 44 = .ok (.iload 6, 2) := by decide +kernel
theorem dX2_sumsOfThree_46 : decode cX2_sumsOfThree 46 = .ok (.iadd, 1) := by decide +kernel
theorem dX2_sumsOfThree_47 : decode cX2_sumsOfThree 47 = .ok (.if_icmp .gt 145, 3) := by decide +kernel
theorem dX2_sumsOfThree_50 : decode cX2_sumsOfThree 50 = .ok (.aload_n 1, 1) := by decide +kernel
theorem dX2_sumsOfThree_51 : decode cX2_sumsOfThree 51 = .ok (.iload_n 3, 1) := by decide +kernel
theorem dX2_sumsOfThree_52 : decode cX2_sumsOfThree 52 = .ok (.iaload, 1) := by decide +kernel
theorem dX2_sumsOfThree_53 : decode cX2_sumsOfThree 53 = .ok (.istore 10, 2) := by decide +kernel
theorem dX2_sumsOfThree_55 : decode cX2_sumsOfThree 55 = .ok (.iload 10, 2) := by decide +kernel
theorem dX2_sumsOfThree_57 : decode cX2_sumsOfThree 57 = .ok (.aload_n 1, 1) := by decide +kernel
theorem dX2_sumsOfThree_58 : decode cX2_sumsOfThree 58 = .ok (.iload_n 3, 1) := by decide +kernel
theorem dX2_sumsOfThree_59 : decode cX2_sumsOfThree 59 = .ok (.iaload, 1) := by decide +kernel
theorem dX2_sumsOfThree_60 : decode cX2_sumsOfThree 60 = .ok (.iload 7, 2) := by decide +kernel
theorem dX2_sumsOfThree_62 : decode cX2_sumsOfThree 62 = .ok (.iadd, 1) := by decide +kernel
theorem dX2_sumsOfThree_63 : decode cX2_sumsOfThree 63 = .ok (.if_icmp .gt 115, 3) := by decide +kernel
theorem dX2_sumsOfThree_66 : decode cX2_sumsOfThree 66 = .ok (.aload_n 1, 1) := by decide +kernel
theorem dX2_sumsOfThree_67 : decode cX2_sumsOfThree 67 = .ok (.iload 4, 2) := by decide +kernel
theorem dX2_sumsOfThree_69 : decode cX2_sumsOfThree 69 = .ok (.iaload, 1) := by decide +kernel
theorem dX2_sumsOfThree_70 : decode cX2_sumsOfThree 70 = .ok (.istore 11, 2) := by decide +kernel
theorem dX2_sumsOfThree_72 : decode cX2_sumsOfThree 72 = .ok (.iload 11, 2) := by decide +kernel
theorem dX2_sumsOfThree_74 : decode cX2_sumsOfThree 74 = .ok (.aload_n 1, 1) := by decide +kernel
theorem dX2_sumsOfThree_75 : decode cX2_sumsOfThree 75 = .ok (.iload 4, 2) := by decide +kernel
theorem dX2_sumsOfThree_77 : decode cX2_sumsOfThree 77 = .ok (.iaload, 1) := by decide +kernel
theorem dX2_sumsOfThree_78 : decode cX2_sumsOfThree 78 = .ok (.iload 8, 2) := by decide +kernel
theorem dX2_sumsOfThree_80 : decode cX2_sumsOfThree 80 = .ok (.iadd, 1) := by decide +kernel
theorem dX2_sumsOfThree_81 : decode cX2_sumsOfThree 81 = .ok (.if_icmp .gt 83, 3) := by decide +kernel
theorem dX2_sumsOfThree_84 : decode cX2_sumsOfThree 84 = .ok (.iload 5, 2) := by decide +kernel
theorem dX2_sumsOfThree_86 : decode cX2_sumsOfThree 86 = .ok (.iload 10, 2) := by decide +kernel
theorem dX2_sumsOfThree_88 : decode cX2_sumsOfThree 88 = .ok (.iload 11, 2) := by decide +kernel
theorem dX2_sumsOfThree_90 : decode cX2_sumsOfThree 90 = .ok (.iadd, 1) := by decide +kernel
theorem dX2_sumsOfThree_91 : decode cX2_sumsOfThree 91 = .ok (.iconst 2, 1) := by decide +kernel
theorem dX2_sumsOfThree_92 : decode cX2_sumsOfThree 92 = .ok (.iload 9, 2) := by decide +kernel
theorem dX2_sumsOfThree_94 : decode cX2_sumsOfThree 94 = .ok (.imul, 1) := by decide +kernel
theorem dX2_sumsOfThree_95 : decode cX2_sumsOfThree 95 = .ok (.if_icmp .ne 7, 3) := by decide +kernel
theorem dX2_sumsOfThree_98 : decode cX2_sumsOfThree 98 = .ok (.iconst 1, 1) := by decide +kernel
theorem dX2_sumsOfThree_99 : decode cX2_sumsOfThree 99 = .ok (.goto 4, 3) := by decide +kernel
theorem dX2_sumsOfThree_102 : decode cX2_sumsOfThree 102 = .ok (.iconst 0, 1) := by decide +kernel
theorem dX2_sumsOfThree_103 : decode cX2_sumsOfThree 103 = .ok (.iadd, 1) := by decide +kernel
theorem dX2_sumsOfThree_104 : decode cX2_sumsOfThree 104 = .ok (.istore 5, 2) := by decide +kernel
theorem dX2_sumsOfThree_106 : decode cX2_sumsOfThree 106 = .ok (.iload 5, 2) := by decide +kernel
theorem dX2_sumsOfThree_108 : decode cX2_sumsOfThree 108 = .ok (.iload 9, 2) := by decide +kernel
theorem dX2_sumsOfThree_110 : decode cX2_sumsOfThree 110 = .ok (.iload 11, 2) := by decide +kernel
theorem dX2_sumsOfThree_112 : decode cX2_sumsOfThree 112 = .ok (.iadd, 1) := by decide +kernel
theorem dX2_sumsOfThree_113 : decode cX2_sumsOfThree 113 = .ok (.iconst 2, 1) := by decide +kernel
theorem dX2_sumsOfThree_114 : decode cX2_sumsOfThree 114 = .ok (.iload 10, 2) := by decide +kernel
theorem dX2_sumsOfThree_116 : decode cX2_sumsOfThree 116 = .ok (.imul, 1) := by decide +kernel
theorem dX2_sumsOfThree_117 : decode cX2_sumsOfThree 117 = .ok (.if_icmp .ne 7, 3) := by decide +kernel
theorem dX2_sumsOfThree_120 : decode cX2_sumsOfThree 120 = .ok (.iconst 1, 1) := by decide +kernel
theorem dX2_sumsOfThree_121 : decode cX2_sumsOfThree 121 = .ok (.goto 4, 3) := by decide +kernel
theorem dX2_sumsOfThree_124 : decode cX2_sumsOfThree 124 = .ok (.iconst 0, 1) := by decide +kernel
theorem dX2_sumsOfThree_125 : decode cX2_sumsOfThree 125 = .ok (.iadd, 1) := by decide +kernel
theorem dX2_sumsOfThree_126 : decode cX2_sumsOfThree 126 = .ok (.istore 5, 2) := by decide +kernel
theorem dX2_sumsOfThree_128 : decode cX2_sumsOfThree 128 = .ok (.iload 5, 2) := by decide +kernel
theorem dX2_sumsOfThree_130 : decode cX2_sumsOfThree 130 = .ok (.iload 9, 2) := by decide +kernel
theorem dX2_sumsOfThree_132 : decode cX2_sumsOfThree 132 = .ok (.iload 10, 2) := by decide +kernel
theorem dX2_sumsOfThree_134 : decode cX2_sumsOfThree 134 = .ok (.iadd, 1) := by decide +kernel
theorem dX2_sumsOfThree_135 : decode cX2_sumsOfThree 135 = .ok (.iconst 2, 1) := by decide +kernel
theorem dX2_sumsOfThree_136 : decode cX2_sumsOfThree 136 = .ok (.iload 11, 2) := by decide +kernel
theorem dX2_sumsOfThree_138 : decode cX2_sumsOfThree 138 = .ok (.imul, 1) := by decide +kernel
theorem dX2_sumsOfThree_139 : decode cX2_sumsOfThree 139 = .ok (.if_icmp .ne 7, 3) := by decide +kernel
theorem dX2_sumsOfThree_142 : decode cX2_sumsOfThree 142 = .ok (.iconst 1, 1) := by decide +kernel
theorem dX2_sumsOfThree_143 : decode cX2_sumsOfThree 143 = .ok (.goto 4, 3) := by decide +kernel
theorem dX2_sumsOfThree_146 : decode cX2_sumsOfThree 146 = .ok (.iconst 0, 1) := by decide +kernel
theorem dX2_sumsOfThree_147 : decode cX2_sumsOfThree 147 = .ok (.iadd, 1) := by decide +kernel
theorem dX2_sumsOfThree_148 : decode cX2_sumsOfThree 148 = .ok (.istore 5, 2) := by decide +kernel
theorem dX2_sumsOfThree_150 : decode cX2_sumsOfThree 150 = .ok (.iload 11, 2) := by decide +kernel
theorem dX2_sumsOfThree_152 : decode cX2_sumsOfThree 152 = .ok (.iconst 1, 1) := by decide +kernel
theorem dX2_sumsOfThree_153 : decode cX2_sumsOfThree 153 = .ok (.iload 8, 2) := by decide +kernel
theorem dX2_sumsOfThree_155 : decode cX2_sumsOfThree 155 = .ok (.invokestatic 57, 3) := by decide +kernel
theorem dX2_sumsOfThree_158 : decode cX2_sumsOfThree 158 = .ok (.iadd, 1) := by decide +kernel
theorem dX2_sumsOfThree_159 : decode cX2_sumsOfThree 159 = .ok (.istore 11, 2) := by decide +kernel
theorem dX2_sumsOfThree_161 : decode cX2_sumsOfThree 161 = .ok (.goto (-89), 3) := by decide +kernel
theorem dX2_sumsOfThree_164 : decode cX2_sumsOfThree 164 = .ok (.iload 10, 2) := by decide +kernel
theorem dX2_sumsOfThree_166 : decode cX2_sumsOfThree 166 = .ok (.iconst 1, 1) := by decide +kernel
theorem dX2_sumsOfThree_167 : decode cX2_sumsOfThree 167 = .ok (.iload 7, 2) := by decide +kernel
theorem dX2_sumsOfThree_169 : decode cX2_sumsOfThree 169 = .ok (.invokestatic 57, 3) := by decide +kernel
theorem dX2_sumsOfThree_172 : decode cX2_sumsOfThree 172 = .ok (.iadd, 1) := by decide +kernel
theorem dX2_sumsOfThree_173 : decode cX2_sumsOfThree 173 = .ok (.istore 10, 2) := by decide +kernel
theorem dX2_sumsOfThree_175 : decode cX2_sumsOfThree 175 = .ok (.goto (-120), 3) := by decide +kernel
theorem dX2_sumsOfThree_178 : decode cX2_sumsOfThree 178 = .ok (.iload 9, 2) := by decide +kernel
theorem dX2_sumsOfThree_180 : decode cX2_sumsOfThree 180 = .ok (.iconst 1, 1) := by decide +kernel
theorem dX2_sumsOfThree_181 : decode cX2_sumsOfThree 181 = .ok (.iload 6, 2) := by decide +kernel
theorem dX2_sumsOfThree_183 : decode cX2_sumsOfThree 183 = .ok (.invokestatic 57, 3) := by decide +kernel
theorem dX2_sumsOfThree_186 : decode cX2_sumsOfThree 186 = .ok (.iadd, 1) := by decide +kernel
theorem dX2_sumsOfThree_187 : decode cX2_sumsOfThree 187 = .ok (.istore 9, 2) := by decide +kernel
theorem dX2_sumsOfThree_189 : decode cX2_sumsOfThree 189 = .ok (.goto (-150), 3) := by decide +kernel
theorem dX2_sumsOfThree_192 : decode cX2_sumsOfThree 192 = .ok (.iload 5, 2) := by decide +kernel
theorem dX2_sumsOfThree_194 : decode cX2_sumsOfThree 194 = .ok (.ireturn, 1) := by decide +kernel
theorem dX2_strayBits_0 : decode cX2_strayBits 0 = .ok (.iconst 0, 1) := by decide +kernel
theorem dX2_strayBits_1 : decode cX2_strayBits 1 = .ok (.istore_n 2, 1) := by decide +kernel
theorem dX2_strayBits_2 : decode cX2_strayBits 2 = .ok (.iconst 0, 1) := by decide +kernel
theorem dX2_strayBits_3 : decode cX2_strayBits 3 = .ok (.istore_n 3, 1) := by decide +kernel
theorem dX2_strayBits_4 : decode cX2_strayBits 4 = .ok (.iload_n 3, 1) := by decide +kernel
theorem dX2_strayBits_5 : decode cX2_strayBits 5 = .ok (.aload_n 0, 1) := by decide +kernel
theorem dX2_strayBits_6 : decode cX2_strayBits 6 = .ok (.getfield 15, 3) := by decide +kernel
theorem dX2_strayBits_9 : decode cX2_strayBits 9 = .ok (.getfield 19, 3) := by decide +kernel
theorem dX2_strayBits_12 : decode cX2_strayBits 12 = .ok (.if_icmp .ge 54, 3) := by decide +kernel
theorem dX2_strayBits_15 : decode cX2_strayBits 15 = .ok (.aload_n 1, 1) := by decide +kernel
theorem dX2_strayBits_16 : decode cX2_strayBits 16 = .ok (.iload_n 3, 1) := by decide +kernel
theorem dX2_strayBits_17 : decode cX2_strayBits 17 = .ok (.iaload, 1) := by decide +kernel
theorem dX2_strayBits_18 : decode cX2_strayBits 18 = .ok (.ifCond .lt 24, 3) := by decide +kernel
theorem dX2_strayBits_21 : decode cX2_strayBits 21 = .ok (.aload_n 0, 1) := by decide +kernel
theorem dX2_strayBits_22 : decode cX2_strayBits 22 = .ok (.getfield 15, 3) := by decide +kernel
theorem dX2_strayBits_25 : decode cX2_strayBits 25 = .ok (.iload_n 3, 1) := by decide +kernel
theorem dX2_strayBits_26 : decode cX2_strayBits 26 = .ok (.invokevirtual 79, 3) := by decide +kernel
theorem dX2_strayBits_29 : decode cX2_strayBits 29 = .ok (.aload_n 1, 1) := by decide +kernel
theorem dX2_strayBits_30 : decode cX2_strayBits 30 = .ok (.iload_n 3, 1) := by decide +kernel
theorem dX2_strayBits_31 : decode cX2_strayBits 31 = .ok (.iaload, 1) := by decide +kernel
theorem dX2_strayBits_32 : decode cX2_strayBits 32 = .ok (.iushr, 1) := by decide +kernel
theorem dX2_strayBits_33 : decode cX2_strayBits 33 = .ok (.iconst 1, 1) := by decide +kernel
theorem dX2_strayBits_34 : decode cX2_strayBits 34 = .ok (.iand, 1) := by decide +kernel
theorem dX2_strayBits_35 : decode cX2_strayBits 35 = .ok (.ifCond .ne 7, 3) := by decide +kernel
theorem dX2_strayBits_38 : decode cX2_strayBits 38 = .ok (.iconst 1, 1) := by decide +kernel
theorem dX2_strayBits_39 : decode cX2_strayBits 39 = .ok (.goto 4, 3) := by decide +kernel
theorem dX2_strayBits_42 : decode cX2_strayBits 42 = .ok (.iconst 0, 1) := by decide +kernel
theorem dX2_strayBits_43 : decode cX2_strayBits 43 = .ok (.istore 4, 2) := by decide +kernel
theorem dX2_strayBits_45 : decode cX2_strayBits 45 = .ok (.iload_n 2, 1) := by decide +kernel
theorem dX2_strayBits_46 : decode cX2_strayBits 46 = .ok (.iload 4, 2) := by decide +kernel
theorem dX2_strayBits_48 : decode cX2_strayBits 48 = .ok (.ifCond .eq 9, 3) := by decide +kernel
theorem dX2_strayBits_51 : decode cX2_strayBits 51 = .ok (.iconst 1, 1) := by decide +kernel
theorem dX2_strayBits_52 : decode cX2_strayBits 52 = .ok (.iload_n 3, 1) := by decide +kernel
theorem dX2_strayBits_53 : decode cX2_strayBits 53 = .ok (.ishl, 1) := by decide +kernel
theorem dX2_strayBits_54 : decode cX2_strayBits 54 = .ok (.goto 4, 3) := by decide +kernel
theorem dX2_strayBits_57 : decode cX2_strayBits 57 = .ok (.iconst 0, 1) := by decide +kernel
theorem dX2_strayBits_58 : decode cX2_strayBits 58 = .ok (.ior, 1) := by decide +kernel
theorem dX2_strayBits_59 : decode cX2_strayBits 59 = .ok (.istore_n 2, 1) := by decide +kernel
theorem dX2_strayBits_60 : decode cX2_strayBits 60 = .ok (.iinc 3 1, 3) := by decide +kernel
theorem dX2_strayBits_63 : decode cX2_strayBits 63 = .ok (.goto (-59), 3) := by decide +kernel
theorem dX2_strayBits_66 : decode cX2_strayBits 66 = .ok (.iload_n 2, 1) := by decide +kernel
theorem dX2_strayBits_67 : decode cX2_strayBits 67 = .ok (.ireturn, 1) := by decide +kernel
theorem dX2_isClean_0 : decode cX2_isClean 0 = .ok (.iconst 0, 1) := by decide +kernel
theorem dX2_isClean_1 : decode cX2_isClean 1 = .ok (.istore_n 2, 1) := by decide +kernel
theorem dX2_isClean_2 : decode cX2_isClean 2 = .ok (.iload_n 2, 1) := by decide +kernel
theorem dX2_isClean_3 : decode cX2_isClean 3 = .ok (.aload_n 0, 1) := by decide +kernel
theorem dX2_isClean_4 : decode cX2_isClean 4 = .ok (.getfield 15, 3) := by decide +kernel
theorem dX2_isClean_7 : decode cX2_isClean 7 = .ok (.getfield 19, 3) := by decide +kernel
theorem dX2_isClean_10 : decode cX2_isClean 10 = .ok (.if_icmp .ge 33, 3) := by decide +kernel
theorem dX2_isClean_13 : decode cX2_isClean 13 = .ok (.aload_n 1, 1) := by decide +kernel
theorem dX2_isClean_14 : decode cX2_isClean 14 = .ok (.iload_n 2, 1) := by decide +kernel
theorem dX2_isClean_15 : decode cX2_isClean 15 = .ok (.iaload, 1) := by decide +kernel
theorem dX2_isClean_16 : decode cX2_isClean 16 = .ok (.ifCond .lt 21, 3) := by decide +kernel
theorem dX2_isClean_19 : decode cX2_isClean 19 = .ok (.aload_n 0, 1) := by decide +kernel
theorem dX2_isClean_20 : decode cX2_isClean 20 = .ok (.aload_n 1, 1) := by decide +kernel
theorem dX2_isClean_21 : decode cX2_isClean 21 = .ok (.iload_n 2, 1) := by decide +kernel
theorem dX2_isClean_22 : decode cX2_isClean 22 = .ok (.iload_n 2, 1) := by decide +kernel
theorem dX2_isClean_23 : decode cX2_isClean 23 = .ok (.invokevirtual 82, 3) := by decide +kernel
theorem dX2_isClean_26 : decode cX2_isClean 26 = .ok (.aload_n 1, 1) := by decide +kernel
theorem dX2_isClean_27 : decode cX2_isClean 27 = .ok (.iload_n 2, 1) := by decide +kernel
theorem dX2_isClean_28 : decode cX2_isClean 28 = .ok (.iaload, 1) := by decide +kernel
theorem dX2_isClean_29 : decode cX2_isClean 29 = .ok (.iushr, 1) := by decide +kernel
theorem dX2_isClean_30 : decode cX2_isClean 30 = .ok (.iconst 1, 1) := by decide +kernel
theorem dX2_isClean_31 : decode cX2_isClean 31 = .ok (.iand, 1) := by decide +kernel
theorem dX2_isClean_32 : decode cX2_isClean 32 = .ok (.ifCond .ne 5, 3) := by decide +kernel
theorem dX2_isClean_35 : decode cX2_isClean 35 = .ok (.iconst 0, 1) := by decide +kernel
theorem dX2_isClean_36 : decode cX2_isClean 36 = .ok (.ireturn, 1) := by decide +kernel
theorem dX2_isClean_37 : decode cX2_isClean 37 = .ok (.iinc 2 1, 3) := by decide +kernel
theorem dX2_isClean_40 : decode cX2_isClean 40 = .ok (.goto (-38), 3) := by decide +kernel
theorem dX2_isClean_43 : decode cX2_isClean 43 = .ok (.iconst 1, 1) := by decide +kernel
theorem dX2_isClean_44 : decode cX2_isClean 44 = .ok (.ireturn, 1) := by decide +kernel
theorem dX2_freeChannels_0 : decode cX2_freeChannels 0 = .ok (.lconst 0, 1) := by decide +kernel
theorem dX2_freeChannels_1 : decode cX2_freeChannels 1 = .ok (.lstore 4, 2) := by decide +kernel
theorem dX2_freeChannels_3 : decode cX2_freeChannels 3 = .ok (.iconst 0, 1) := by decide +kernel
theorem dX2_freeChannels_4 : decode cX2_freeChannels 4 = .ok (.istore 6, 2) := by decide +kernel
theorem dX2_freeChannels_6 : decode cX2_freeChannels 6 = .ok (.iload 6, 2) := by decide +kernel
theorem dX2_freeChannels_8 : decode cX2_freeChannels 8 = .ok (.iload_n 3, 1) := by decide +kernel
theorem dX2_freeChannels_9 : decode cX2_freeChannels 9 = .ok (.if_icmp .ge 98, 3) := by decide +kernel
theorem dX2_freeChannels_12 : decode cX2_freeChannels 12 = .ok (.iload 6, 2) := by decide +kernel
theorem dX2_freeChannels_14 : decode cX2_freeChannels 14 = .ok (.iload_n 2, 1) := by decide +kernel
theorem dX2_freeChannels_15 : decode cX2_freeChannels 15 = .ok (.if_icmp .eq 86, 3) := by decide +kernel
theorem dX2_freeChannels_18 : decode cX2_freeChannels 18 = .ok (.aload_n 1, 1) := by decide +kernel
theorem dX2_freeChannels_19 : decode cX2_freeChannels 19 = .ok (.iload 6, 2) := by decide +kernel
theorem dX2_freeChannels_21 : decode cX2_freeChannels 21 = .ok (.iaload, 1) := by decide +kernel
theorem dX2_freeChannels_22 : decode cX2_freeChannels 22 = .ok (.ifCond .ge 6, 3) := by decide +kernel
theorem dX2_freeChannels_25 : decode cX2_freeChannels 25 = .ok (.goto 76, 3) := by decide +kernel
theorem dX2_freeChannels_28 : decode cX2_freeChannels 28 = .ok (.lload 4, 2) := by decide +kernel
theorem dX2_freeChannels_30 : decode cX2_freeChannels 30 = .ok (.aload_n 0, 1) := by decide +kernel
theorem dX2_freeChannels_31 : decode cX2_freeChannels 31 = .ok (.aload_n 1, 1) := by decide +kernel
theorem dX2_freeChannels_32 : decode cX2_freeChannels 32 = .ok (.iload 6, 2) := by decide +kernel
theorem dX2_freeChannels_34 : decode cX2_freeChannels 34 = .ok (.aload_n 0, 1) := by decide +kernel
theorem dX2_freeChannels_35 : decode cX2_freeChannels 35 = .ok (.getfield 15, 3) := by decide +kernel
theorem dX2_freeChannels_38 : decode cX2_freeChannels 38 = .ok (.iload 6, 2) := by decide +kernel
theorem dX2_freeChannels_40 : decode cX2_freeChannels 40 = .ok (.iload_n 2, 1) := by decide +kernel
theorem dX2_freeChannels_41 : decode cX2_freeChannels 41 = .ok (.invokevirtual 45, 3) := by decide +kernel
theorem dX2_freeChannels_44 : decode cX2_freeChannels 44 = .ok (.invokevirtual 85, 3) := by decide +kernel
theorem dX2_freeChannels_47 : decode cX2_freeChannels 47 = .ok (.lor, 1) := by decide +kernel
theorem dX2_freeChannels_48 : decode cX2_freeChannels 48 = .ok (.lstore 4, 2) := by decide +kernel
theorem dX2_freeChannels_50 : decode cX2_freeChannels 50 = .ok (.iload 6, 2) := by decide +kernel
theorem dX2_freeChannels_52 : decode cX2_freeChannels 52 = .ok (.iconst 1, 1) := by decide +kernel
theorem dX2_freeChannels_53 : decode cX2_freeChannels 53 = .ok (.iadd, 1) := by decide +kernel
theorem dX2_freeChannels_54 : decode cX2_freeChannels 54 = .ok (.istore 7, 2) := by decide +kernel
theorem dX2_freeChannels_56 : decode cX2_freeChannels 56 = .ok (.iload 7, 2) := by decide +kernel
theorem dX2_freeChannels_58 : decode cX2_freeChannels 58 = .ok (.iload_n 3, 1) := by decide +kernel
theorem dX2_freeChannels_59 : decode cX2_freeChannels 59 = .ok (.if_icmp .ge 42, 3) := by decide +kernel
theorem dX2_freeChannels_62 : decode cX2_freeChannels 62 = .ok (.iload 7, 2) := by decide +kernel
theorem dX2_freeChannels_64 : decode cX2_freeChannels 64 = .ok (.iload_n 2, 1) := by decide +kernel
theorem dX2_freeChannels_65 : decode cX2_freeChannels 65 = .ok (.if_icmp .eq 30, 3) := by decide +kernel
theorem dX2_freeChannels_68 : decode cX2_freeChannels 68 = .ok (.aload_n 0, 1) := by decide +kernel
theorem dX2_freeChannels_69 : decode cX2_freeChannels 69 = .ok (.aload_n 1, 1) := by decide +kernel
theorem dX2_freeChannels_70 : decode cX2_freeChannels 70 = .ok (.iload 6, 2) := by decide +kernel
theorem dX2_freeChannels_72 : decode cX2_freeChannels 72 = .ok (.iload 7, 2) := by decide +kernel
theorem dX2_freeChannels_74 : decode cX2_freeChannels 74 = .ok (.iload_n 2, 1) := by decide +kernel
theorem dX2_freeChannels_75 : decode cX2_freeChannels 75 = .ok (.invokevirtual 89, 3) := by decide +kernel
theorem dX2_freeChannels_78 : decode cX2_freeChannels 78 = .ok (.ifCond .eq 17, 3) := by decide +kernel
theorem dX2_freeChannels_81 : decode cX2_freeChannels 81 = .ok (.lload 4, 2) := by decide +kernel
theorem dX2_freeChannels_83 : decode cX2_freeChannels 83 = .ok (.aload_n 0, 1) := by decide +kernel
theorem dX2_freeChannels_84 : decode cX2_freeChannels 84 = .ok (.aload_n 1, 1) := by decide +kernel
theorem dX2_freeChannels_85 : decode cX2_freeChannels 85 = .ok (.iload 6, 2) := by decide +kernel
theorem dX2_freeChannels_87 : decode cX2_freeChannels 87 = .ok (.iload 7, 2) := by decide +kernel
theorem dX2_freeChannels_89 : decode cX2_freeChannels 89 = .ok (.invokevirtual 92, 3) := by decide +kernel
theorem dX2_freeChannels_92 : decode cX2_freeChannels 92 = .ok (.lor, 1) := by decide +kernel
theorem dX2_freeChannels_93 : decode cX2_freeChannels 93 = .ok (.lstore 4, 2) := by decide +kernel
theorem dX2_freeChannels_95 : decode cX2_freeChannels 95 = .ok (.iinc 7 1, 3) := by decide +kernel
theorem dX2_freeChannels_98 : decode cX2_freeChannels 98 = .ok (.goto (-42), 3) := by decide +kernel
theorem dX2_freeChannels_101 : decode cX2_freeChannels 101 = .ok (.iinc 6 1, 3) := by decide +kernel
theorem dX2_freeChannels_104 : decode cX2_freeChannels 104 = .ok (.goto (-98), 3) := by decide +kernel
theorem dX2_freeChannels_107 : decode cX2_freeChannels 107 = .ok (.aload_n 0, 1) := by decide +kernel
theorem dX2_freeChannels_108 : decode cX2_freeChannels 108 = .ok (.getfield 15, 3) := by decide +kernel
theorem dX2_freeChannels_111 : decode cX2_freeChannels 111 = .ok (.iload_n 2, 1) := by decide +kernel
theorem dX2_freeChannels_112 : decode cX2_freeChannels 112 = .ok (.invokevirtual 79, 3) := by decide +kernel
theorem dX2_freeChannels_115 : decode cX2_freeChannels 115 = .ok (.lload 4, 2) := by decide +kernel
theorem dX2_freeChannels_117 : decode cX2_freeChannels 117 = .ok (.lload 4, 2) := by decide +kernel
theorem dX2_freeChannels_119 : decode cX2_freeChannels 119 = .ok (.aload_n 0, 1) := by decide +kernel
theorem dX2_freeChannels_120 : decode cX2_freeChannels 120 = .ok (.getfield 15, 3) := by decide +kernel
theorem dX2_freeChannels_123 : decode cX2_freeChannels 123 = .ok (.iload_n 2, 1) := by decide +kernel
theorem dX2_freeChannels_124 : decode cX2_freeChannels 124 = .ok (.invokevirtual 49, 3) := by decide +kernel
theorem dX2_freeChannels_127 : decode cX2_freeChannels 127 = .ok (.lushr, 1) := by decide +kernel
theorem dX2_freeChannels_128 : decode cX2_freeChannels 128 = .ok (.lor, 1) := by decide +kernel
theorem dX2_freeChannels_129 : decode cX2_freeChannels 129 = .ok (.ldc2_w 95, 3) := by decide +kernel
theorem dX2_freeChannels_132 : decode cX2_freeChannels 132 = .ok (.lxor, 1) := by decide +kernel
theorem dX2_freeChannels_133 : decode cX2_freeChannels 133 = .ok (.l2i, 1) := by decide +kernel
theorem dX2_freeChannels_134 : decode cX2_freeChannels 134 = .ok (.iand, 1) := by decide +kernel
theorem dX2_freeChannels_135 : decode cX2_freeChannels 135 = .ok (.ireturn, 1) := by decide +kernel
theorem dX2_sumMates_0 : decode cX2_sumMates 0 = .ok (.aload_n 1, 1) := by decide +kernel
theorem dX2_sumMates_1 : decode cX2_sumMates 1 = .ok (.iload_n 3, 1) := by decide +kernel
theorem dX2_sumMates_2 : decode cX2_sumMates 2 = .ok (.iaload, 1) := by decide +kernel
theorem dX2_sumMates_3 : decode cX2_sumMates 3 = .ok (.ifCond .lt 45, 3) := by decide +kernel
theorem dX2_sumMates_6 : decode cX2_sumMates 6 = .ok (.aload_n 0, 1) := by decide +kernel
theorem dX2_sumMates_7 : decode cX2_sumMates 7 = .ok (.getfield 15, 3) := by decide +kernel
theorem dX2_sumMates_10 : decode cX2_sumMates 10 = .ok (.aload_n 0, 1) := by decide +kernel
theorem dX2_sumMates_11 : decode cX2_sumMates 11 = .ok (.getfield 15, 3) := by decide +kernel
theorem dX2_sumMates_14 : decode cX2_sumMates 14 = .ok (.getfield 72, 3) := by decide +kernel
theorem dX2_sumMates_17 : decode cX2_sumMates 17 = .ok (.iload_n 2, 1) := by decide +kernel
theorem dX2_sumMates_18 : decode cX2_sumMates 18 = .ok (.iaload, 1) := by decide +kernel
theorem dX2_sumMates_19 : decode cX2_sumMates 19 = .ok (.aload_n 0, 1) := by decide +kernel
theorem dX2_sumMates_20 : decode cX2_sumMates 20 = .ok (.getfield 15, 3) := by decide +kernel
theorem dX2_sumMates_23 : decode cX2_sumMates 23 = .ok (.getfield 72, 3) := by decide +kernel
theorem dX2_sumMates_26 : decode cX2_sumMates 26 = .ok (.iload_n 3, 1) := by decide +kernel
theorem dX2_sumMates_27 : decode cX2_sumMates 27 = .ok (.iaload, 1) := by decide +kernel
theorem dX2_sumMates_28 : decode cX2_sumMates 28 = .ok (.aload_n 0, 1) := by decide +kernel
theorem dX2_sumMates_29 : decode cX2_sumMates 29 = .ok (.getfield 15, 3) := by decide +kernel
theorem dX2_sumMates_32 : decode cX2_sumMates 32 = .ok (.getfield 72, 3) := by decide +kernel
theorem dX2_sumMates_35 : decode cX2_sumMates 35 = .ok (.iload 4, 2) := by decide +kernel
theorem dX2_sumMates_37 : decode cX2_sumMates 37 = .ok (.iaload, 1) := by decide +kernel
theorem dX2_sumMates_38 : decode cX2_sumMates 38 = .ok (.invokevirtual 75, 3) := by decide +kernel
theorem dX2_sumMates_41 : decode cX2_sumMates 41 = .ok (.ifCond .eq 7, 3) := by decide +kernel
theorem dX2_sumMates_44 : decode cX2_sumMates 44 = .ok (.iconst 1, 1) := by decide +kernel
theorem dX2_sumMates_45 : decode cX2_sumMates 45 = .ok (.goto 4, 3) := by decide +kernel
theorem dX2_sumMates_48 : decode cX2_sumMates 48 = .ok (.iconst 0, 1) := by decide +kernel
theorem dX2_sumMates_49 : decode cX2_sumMates 49 = .ok (.ireturn, 1) := by decide +kernel
theorem dX2_tooNear_0 : decode cX2_tooNear 0 = .ok (.iload_n 3, 1) := by decide +kernel
theorem dX2_tooNear_1 : decode cX2_tooNear 1 = .ok (.ifCond .ne 5, 3) := by decide +kernel
theorem dX2_tooNear_4 : decode cX2_tooNear 4 = .ok (.lconst 0, 1) := by decide +kernel
theorem dX2_tooNear_5 : decode cX2_tooNear 5 = .ok (.lreturn, 1) := by decide +kernel
theorem dX2_tooNear_6 : decode cX2_tooNear 6 = .ok (.lconst 0, 1) := by decide +kernel
theorem dX2_tooNear_7 : decode cX2_tooNear 7 = .ok (.lstore 4, 2) := by decide +kernel
theorem dX2_tooNear_9 : decode cX2_tooNear 9 = .ok (.aload_n 0, 1) := by decide +kernel
theorem dX2_tooNear_10 : decode cX2_tooNear 10 = .ok (.getfield 15, 3) := by decide +kernel
theorem dX2_tooNear_13 : decode cX2_tooNear 13 = .ok (.iload_n 2, 1) := by decide +kernel
theorem dX2_tooNear_14 : decode cX2_tooNear 14 = .ok (.invokevirtual 49, 3) := by decide +kernel
theorem dX2_tooNear_17 : decode cX2_tooNear 17 = .ok (.istore 6, 2) := by decide +kernel
theorem dX2_tooNear_19 : decode cX2_tooNear 19 = .ok (.aload_n 1, 1) := by decide +kernel
theorem dX2_tooNear_20 : decode cX2_tooNear 20 = .ok (.iload_n 2, 1) := by decide +kernel
theorem dX2_tooNear_21 : decode cX2_tooNear 21 = .ok (.iaload, 1) := by decide +kernel
theorem dX2_tooNear_22 : decode cX2_tooNear 22 = .ok (.istore 7, 2) := by decide +kernel
theorem dX2_tooNear_24 : decode cX2_tooNear 24 = .ok (.iload 7, 2) := by decide +kernel
theorem dX2_tooNear_26 : decode cX2_tooNear 26 = .ok (.aload_n 1, 1) := by decide +kernel
theorem dX2_tooNear_27 : decode cX2_tooNear 27 = .ok (.iload_n 2, 1) := by decide +kernel
theorem dX2_tooNear_28 : decode cX2_tooNear 28 = .ok (.iaload, 1) := by decide +kernel
theorem dX2_tooNear_29 : decode cX2_tooNear 29 = .ok (.iload 6, 2) := by decide +kernel
theorem dX2_tooNear_31 : decode cX2_tooNear 31 = .ok (.iadd, 1) := by decide +kernel
theorem dX2_tooNear_32 : decode cX2_tooNear 32 = .ok (.if_icmp .gt 45, 3) := by decide +kernel
theorem dX2_tooNear_35 : decode cX2_tooNear 35 = .ok (.iconst 0, 1) := by decide +kernel
theorem dX2_tooNear_36 : decode cX2_tooNear 36 = .ok (.iload 7, 2) := by decide +kernel
theorem dX2_tooNear_38 : decode cX2_tooNear 38 = .ok (.iload_n 3, 1) := by decide +kernel
theorem dX2_tooNear_39 : decode cX2_tooNear 39 = .ok (.isub, 1) := by decide +kernel
theorem dX2_tooNear_40 : decode cX2_tooNear 40 = .ok (.iconst 1, 1) := by decide +kernel
theorem dX2_tooNear_41 : decode cX2_tooNear 41 = .ok (.iadd, 1) := by decide +kernel
theorem dX2_tooNear_42 : decode cX2_tooNear 42 = .ok (.invokestatic 57, 3) := by decide +kernel
theorem dX2_tooNear_45 : decode cX2_tooNear 45 = .ok (.istore 8, 2) := by decide +kernel
theorem dX2_tooNear_47 : decode cX2_tooNear 47 = .ok (.lload 4, 2) := by decide +kernel
theorem dX2_tooNear_49 : decode cX2_tooNear 49 = .ok (.lconst 1, 1) := by decide +kernel
theorem dX2_tooNear_50 : decode cX2_tooNear 50 = .ok (.iload 7, 2) := by decide +kernel
theorem dX2_tooNear_52 : decode cX2_tooNear 52 = .ok (.iload_n 3, 1) := by decide +kernel
theorem dX2_tooNear_53 : decode cX2_tooNear 53 = .ok (.iadd, 1) := by decide +kernel
theorem dX2_tooNear_54 : decode cX2_tooNear 54 = .ok (.lshl, 1) := by decide +kernel
theorem dX2_tooNear_55 : decode cX2_tooNear 55 = .ok (.lconst 1, 1) := by decide +kernel
theorem dX2_tooNear_56 : decode cX2_tooNear 56 = .ok (.iload 8, 2) := by decide +kernel
theorem dX2_tooNear_58 : decode cX2_tooNear 58 = .ok (.lshl, 1) := by decide +kernel
theorem dX2_tooNear_59 : decode cX2_tooNear 59 = .ok (.lsub, 1) := by decide +kernel
theorem dX2_tooNear_60 : decode cX2_tooNear 60 = .ok (.lor, 1) := by decide +kernel
theorem dX2_tooNear_61 : decode cX2_tooNear 61 = .ok (.lstore 4, 2) := by decide +kernel
theorem dX2_tooNear_63 : decode cX2_tooNear 63 = .ok (.iload 7, 2) := by decide +kernel
theorem dX2_tooNear_65 : decode cX2_tooNear 65 = .ok (.iconst 1, 1) := by decide +kernel
theorem dX2_tooNear_66 : decode cX2_tooNear 66 = .ok (.iload 6, 2) := by decide +kernel
theorem dX2_tooNear_68 : decode cX2_tooNear 68 = .ok (.invokestatic 57, 3) := by decide +kernel
theorem dX2_tooNear_71 : decode cX2_tooNear 71 = .ok (.iadd, 1) := by decide +kernel
theorem dX2_tooNear_72 : decode cX2_tooNear 72 = .ok (.istore 7, 2) := by decide +kernel
theorem dX2_tooNear_74 : decode cX2_tooNear 74 = .ok (.goto (-50), 3) := by decide +kernel
theorem dX2_tooNear_77 : decode cX2_tooNear 77 = .ok (.lload 4, 2) := by decide +kernel
theorem dX2_tooNear_79 : decode cX2_tooNear 79 = .ok (.lreturn, 1) := by decide +kernel
theorem dX2_sumTargets_0 : decode cX2_sumTargets 0 = .ok (.lconst 0, 1) := by decide +kernel
theorem dX2_sumTargets_1 : decode cX2_sumTargets 1 = .ok (.lstore 4, 2) := by decide +kernel
theorem dX2_sumTargets_3 : decode cX2_sumTargets 3 = .ok (.aload_n 0, 1) := by decide +kernel
theorem dX2_sumTargets_4 : decode cX2_sumTargets 4 = .ok (.getfield 15, 3) := by decide +kernel
theorem dX2_sumTargets_7 : decode cX2_sumTargets 7 = .ok (.iload_n 2, 1) := by decide +kernel
theorem dX2_sumTargets_8 : decode cX2_sumTargets 8 = .ok (.invokevirtual 49, 3) := by decide +kernel
theorem dX2_sumTargets_11 : decode cX2_sumTargets 11 = .ok (.istore 6, 2) := by decide +kernel
theorem dX2_sumTargets_13 : decode cX2_sumTargets 13 = .ok (.aload_n 0, 1) := by decide +kernel
theorem dX2_sumTargets_14 : decode cX2_sumTargets 14 = .ok (.getfield 15, 3) := by decide +kernel
theorem dX2_sumTargets_17 : decode cX2_sumTargets 17 = .ok (.iload_n 3, 1) := by decide +kernel
theorem dX2_sumTargets_18 : decode cX2_sumTargets 18 = .ok (.invokevirtual 49, 3) := by decide +kernel
theorem dX2_sumTargets_21 : decode cX2_sumTargets 21 = .ok (.istore 7, 2) := by decide +kernel
theorem dX2_sumTargets_23 : decode cX2_sumTargets 23 = .ok (.aload_n 1, 1) := by decide +kernel
theorem dX2_sumTargets_24 : decode cX2_sumTargets 24 = .ok (.iload_n 2, 1) := by decide +kernel
theorem dX2_sumTargets_25 : decode cX2_sumTargets 25 = .ok (.iaload, 1) := by decide +kernel
theorem dX2_sumTargets_26 : decode cX2_sumTargets 26 = .ok (.istore 8, 2) := by decide +kernel
theorem dX2_sumTargets_28 : decode cX2_sumTargets 28 = .ok (.iload 8, 2) := by decide +kernel
theorem dX2_sumTargets_30 : decode cX2_sumTargets 30 = .ok (.aload_n 1, 1) := by decide +kernel
theorem dX2_sumTargets_31 : decode cX2_sumTargets 31 = .ok (.iload_n 2, 1) := by decide +kernel
theorem dX2_sumTargets_32 : decode cX2_sumTargets 32 = .ok (.iaload, 1) := by decide +kernel
theorem dX2_sumTargets_33 : decode cX2_sumTargets 33 = .ok (.iload 6, 2) := by decide +kernel
theorem dX2_sumTargets_35 : decode cX2_sumTargets 35 = .ok (.iadd, 1) := by decide +kernel
theorem dX2_sumTargets_36 : decode cX2_sumTargets 36 = .ok (.if_icmp .gt 102, 3) := by decide +kernel
theorem dX2_sumTargets_39 : decode cX2_sumTargets 39 = .ok (.aload_n 1, 1) := by decide +kernel
theorem dX2_sumTargets_40 : decode cX2_sumTargets 40 = .ok (.iload_n 3, 1) := by decide +kernel
theorem dX2_sumTargets_41 : decode cX2_sumTargets 41 = .ok (.iaload, 1) := by decide +kernel
theorem dX2_sumTargets_42 : decode cX2_sumTargets 42 = .ok (.istore 9, 2) := by decide +kernel
theorem dX2_sumTargets_44 : decode cX2_sumTargets 44 = .ok (.iload 9, 2) := by decide +kernel
theorem dX2_sumTargets_46 : decode cX2_sumTargets 46 = .ok (.aload_n 1, 1) := by decide +kernel
theorem dX2_sumTargets_47 : decode cX2_sumTargets 47 = .ok (.iload_n 3, 1) := by decide +kernel
theorem dX2_sumTargets_48 : decode cX2_sumTargets 48 = .ok (.iaload, 1) := by decide +kernel
theorem dX2_sumTargets_49 : decode cX2_sumTargets 49 = .ok (.iload 7, 2) := by decide +kernel
theorem dX2_sumTargets_51 : decode cX2_sumTargets 51 = .ok (.iadd, 1) := by decide +kernel
theorem dX2_sumTargets_52 : decode cX2_sumTargets 52 = .ok (.if_icmp .gt 72, 3) := by decide +kernel
theorem dX2_sumTargets_55 : decode cX2_sumTargets 55 = .ok (.lload 4, 2) := by decide +kernel
theorem dX2_sumTargets_57 : decode cX2_sumTargets 57 = .ok (.iconst 2, 1) := by decide +kernel
theorem dX2_sumTargets_58 : decode cX2_sumTargets 58 = .ok (.iload 8, 2) := by decide +kernel
theorem dX2_sumTargets_60 : decode cX2_sumTargets 60 = .ok (.imul, 1) := by decide +kernel
theorem dX2_sumTargets_61 : decode cX2_sumTargets 61 = .ok (.iload 9, 2) := by decide +kernel
theorem dX2_sumTargets_63 : decode cX2_sumTargets 63 = .ok (.isub, 1) := by decide +kernel
theorem dX2_sumTargets_64 : decode cX2_sumTargets 64 = .ok (.invokestatic 97, 3) := by decide +kernel
theorem dX2_sumTargets_67 : decode cX2_sumTargets 67 = .ok (.iconst 2, 1) := by decide +kernel
theorem dX2_sumTargets_68 : decode cX2_sumTargets 68 = .ok (.iload 9, 2) := by decide +kernel
theorem dX2_sumTargets_70 : decode cX2_sumTargets 70 = .ok (.imul, 1) := by decide +kernel
theorem dX2_sumTargets_71 : decode cX2_sumTargets 71 = .ok (.iload 8, 2) := by decide +kernel
theorem dX2_sumTargets_73 : decode cX2_sumTargets 73 = .ok (.isub, 1) := by decide +kernel
theorem dX2_sumTargets_74 : decode cX2_sumTargets 74 = .ok (.invokestatic 97, 3) := by decide +kernel
theorem dX2_sumTargets_77 : decode cX2_sumTargets 77 = .ok (.lor, 1) := by decide +kernel
theorem dX2_sumTargets_78 : decode cX2_sumTargets 78 = .ok (.lor, 1) := by decide +kernel
theorem dX2_sumTargets_79 : decode cX2_sumTargets 79 = .ok (.lstore 4, 2) := by decide +kernel
theorem dX2_sumTargets_81 : decode cX2_sumTargets 81 = .ok (.lload 4, 2) := by decide +kernel
theorem dX2_sumTargets_83 : decode cX2_sumTargets 83 = .ok (.iload 8, 2) := by decide +kernel
theorem dX2_sumTargets_85 : decode cX2_sumTargets 85 = .ok (.iload 9, 2) := by decide +kernel
theorem dX2_sumTargets_87 : decode cX2_sumTargets 87 = .ok (.iadd, 1) := by decide +kernel
theorem dX2_sumTargets_88 : decode cX2_sumTargets 88 = .ok (.iconst 2, 1) := by decide +kernel
theorem dX2_sumTargets_89 : decode cX2_sumTargets 89 = .ok (.irem, 1) := by decide +kernel
theorem dX2_sumTargets_90 : decode cX2_sumTargets 90 = .ok (.ifCond .ne 16, 3) := by decide +kernel
theorem dX2_sumTargets_93 : decode cX2_sumTargets 93 = .ok (.iload 8, 2) := by decide +kernel
theorem dX2_sumTargets_95 : decode cX2_sumTargets 95 = .ok (.iload 9, 2) := by decide +kernel
theorem dX2_sumTargets_97 : decode cX2_sumTargets 97 = .ok (.iadd, 1) := by decide +kernel
theorem dX2_sumTargets_98 : decode cX2_sumTargets 98 = .ok (.iconst 2, 1) := by decide +kernel
theorem dX2_sumTargets_99 : decode cX2_sumTargets 99 = .ok (.idiv, 1) := by decide +kernel
theorem dX2_sumTargets_100 : decode cX2_sumTargets 100 = .ok (.invokestatic 97, 3) := by decide +kernel
theorem dX2_sumTargets_103 : decode cX2_sumTargets 103 = .ok (.goto 4, 3) := by decide +kernel
theorem dX2_sumTargets_106 : decode cX2_sumTargets 106 = .ok (.lconst 0, 1) := by decide +kernel
theorem dX2_sumTargets_107 : decode cX2_sumTargets 107 = .ok (.lor, 1) := by decide +kernel
theorem dX2_sumTargets_108 : decode cX2_sumTargets 108 = .ok (.lstore 4, 2) := by decide +kernel
theorem dX2_sumTargets_110 : decode cX2_sumTargets 110 = .ok (.iload 9, 2) := by decide +kernel
theorem dX2_sumTargets_112 : decode cX2_sumTargets 112 = .ok (.iconst 1, 1) := by decide +kernel
theorem dX2_sumTargets_113 : decode cX2_sumTargets 113 = .ok (.iload 7, 2) := by decide +kernel
theorem dX2_sumTargets_115 : decode cX2_sumTargets 115 = .ok (.invokestatic 57, 3) := by decide +kernel
theorem dX2_sumTargets_118 : decode cX2_sumTargets 118 = .ok (.iadd, 1) := by decide +kernel
theorem dX2_sumTargets_119 : decode cX2_sumTargets 119 = .ok (.istore 9, 2) := by decide +kernel
theorem dX2_sumTargets_121 : decode cX2_sumTargets 121 = .ok (.goto (-77), 3) := by decide +kernel
theorem dX2_sumTargets_124 : decode cX2_sumTargets 124 = .ok (.iload 8, 2) := by decide +kernel
theorem dX2_sumTargets_126 : decode cX2_sumTargets 126 = .ok (.iconst 1, 1) := by decide +kernel
theorem dX2_sumTargets_127 : decode cX2_sumTargets 127 = .ok (.iload 6, 2) := by decide +kernel
theorem dX2_sumTargets_129 : decode cX2_sumTargets 129 = .ok (.invokestatic 57, 3) := by decide +kernel
theorem dX2_sumTargets_132 : decode cX2_sumTargets 132 = .ok (.iadd, 1) := by decide +kernel
theorem dX2_sumTargets_133 : decode cX2_sumTargets 133 = .ok (.istore 8, 2) := by decide +kernel
theorem dX2_sumTargets_135 : decode cX2_sumTargets 135 = .ok (.goto (-107), 3) := by decide +kernel
theorem dX2_sumTargets_138 : decode cX2_sumTargets 138 = .ok (.lload 4, 2) := by decide +kernel
theorem dX2_sumTargets_140 : decode cX2_sumTargets 140 = .ok (.lreturn, 1) := by decide +kernel
theorem dX2_bitOf_0 : decode cX2_bitOf 0 = .ok (.iload_n 0, 1) := by decide +kernel
theorem dX2_bitOf_1 : decode cX2_bitOf 1 = .ok (.ifCond .lt 15, 3) := by decide +kernel
theorem dX2_bitOf_4 : decode cX2_bitOf 4 = .ok (.iload_n 0, 1) := by decide +kernel
theorem dX2_bitOf_5 : decode cX2_bitOf 5 = .ok (.bipush 39, 2) := by decide +kernel
theorem dX2_bitOf_7 : decode cX2_bitOf 7 = .ok (.if_icmp .gt 9, 3) := by decide +kernel
theorem dX2_bitOf_10 : decode cX2_bitOf 10 = .ok (.lconst 1, 1) := by decide +kernel
theorem dX2_bitOf_11 : decode cX2_bitOf 11 = .ok (.iload_n 0, 1) := by decide +kernel
theorem dX2_bitOf_12 : decode cX2_bitOf 12 = .ok (.lshl, 1) := by decide +kernel
theorem dX2_bitOf_13 : decode cX2_bitOf 13 = .ok (.goto 4, 3) := by decide +kernel
theorem dX2_bitOf_16 : decode cX2_bitOf 16 = .ok (.lconst 0, 1) := by decide +kernel
theorem dX2_bitOf_17 : decode cX2_bitOf 17 = .ok (.lreturn, 1) := by decide +kernel
theorem dX2_weigh_0 : decode cX2_weigh 0 = .ok (.aload_n 0, 1) := by decide +kernel
theorem dX2_weigh_1 : decode cX2_weigh 1 = .ok (.getfield 15, 3) := by decide +kernel
theorem dX2_weigh_4 : decode cX2_weigh 4 = .ok (.iload_n 2, 1) := by decide +kernel
theorem dX2_weigh_5 : decode cX2_weigh 5 = .ok (.invokevirtual 79, 3) := by decide +kernel
theorem dX2_weigh_8 : decode cX2_weigh 8 = .ok (.istore_n 3, 1) := by decide +kernel
theorem dX2_weigh_9 : decode cX2_weigh 9 = .ok (.iconst 0, 1) := by decide +kernel
theorem dX2_weigh_10 : decode cX2_weigh 10 = .ok (.istore 4, 2) := by decide +kernel
theorem dX2_weigh_12 : decode cX2_weigh 12 = .ok (.iload 4, 2) := by decide +kernel
theorem dX2_weigh_14 : decode cX2_weigh 14 = .ok (.bipush 30, 2) := by decide +kernel
theorem dX2_weigh_16 : decode cX2_weigh 16 = .ok (.if_icmp .ge 31, 3) := by decide +kernel
theorem dX2_weigh_19 : decode cX2_weigh 19 = .ok (.aload_n 0, 1) := by decide +kernel
theorem dX2_weigh_20 : decode cX2_weigh 20 = .ok (.getfield 9, 3) := by decide +kernel
theorem dX2_weigh_23 : decode cX2_weigh 23 = .ok (.iload 4, 2) := by decide +kernel
theorem dX2_weigh_25 : decode cX2_weigh 25 = .ok (.iload_n 3, 1) := by decide +kernel
theorem dX2_weigh_26 : decode cX2_weigh 26 = .ok (.iload 4, 2) := by decide +kernel
theorem dX2_weigh_28 : decode cX2_weigh 28 = .ok (.iushr, 1) := by decide +kernel
theorem dX2_weigh_29 : decode cX2_weigh 29 = .ok (.iconst 1, 1) := by decide +kernel
theorem dX2_weigh_30 : decode cX2_weigh 30 = .ok (.iand, 1) := by decide +kernel
theorem dX2_weigh_31 : decode cX2_weigh 31 = .ok (.ifCond .ne 8, 3) := by decide +kernel
theorem dX2_weigh_34 : decode cX2_weigh 34 = .ok (.bipush 10, 2) := by decide +kernel
theorem dX2_weigh_36 : decode cX2_weigh 36 = .ok (.goto 4, 3) := by decide +kernel
theorem dX2_weigh_39 : decode cX2_weigh 39 = .ok (.iconst 0, 1) := by decide +kernel
theorem dX2_weigh_40 : decode cX2_weigh 40 = .ok (.iastore, 1) := by decide +kernel
theorem dX2_weigh_41 : decode cX2_weigh 41 = .ok (.iinc 4 1, 3) := by decide +kernel
theorem dX2_weigh_44 : decode cX2_weigh 44 = .ok (.goto (-32), 3) := by decide +kernel
theorem dX2_weigh_47 : decode cX2_weigh 47 = .ok (.iconst 0, 1) := by decide +kernel
theorem dX2_weigh_48 : decode cX2_weigh 48 = .ok (.istore 4, 2) := by decide +kernel
theorem dX2_weigh_50 : decode cX2_weigh 50 = .ok (.iload 4, 2) := by decide +kernel
theorem dX2_weigh_52 : decode cX2_weigh 52 = .ok (.aload_n 0, 1) := by decide +kernel
theorem dX2_weigh_53 : decode cX2_weigh 53 = .ok (.getfield 15, 3) := by decide +kernel
theorem dX2_weigh_56 : decode cX2_weigh 56 = .ok (.getfield 19, 3) := by decide +kernel
theorem dX2_weigh_59 : decode cX2_weigh 59 = .ok (.if_icmp .ge 93, 3) := by decide +kernel
theorem dX2_weigh_62 : decode cX2_weigh 62 = .ok (.iload 4, 2) := by decide +kernel
theorem dX2_weigh_64 : decode cX2_weigh 64 = .ok (.iload_n 2, 1) := by decide +kernel
theorem dX2_weigh_65 : decode cX2_weigh 65 = .ok (.if_icmp .eq 81, 3) := by decide +kernel
theorem dX2_weigh_68 : decode cX2_weigh 68 = .ok (.aload_n 1, 1) := by decide +kernel
theorem dX2_weigh_69 : decode cX2_weigh 69 = .ok (.iload 4, 2) := by decide +kernel
theorem dX2_weigh_71 : decode cX2_weigh 71 = .ok (.iaload, 1) := by decide +kernel
theorem dX2_weigh_72 : decode cX2_weigh 72 = .ok (.ifCond .ge 6, 3) := by decide +kernel
theorem dX2_weigh_75 : decode cX2_weigh 75 = .ok (.goto 71, 3) := by decide +kernel
theorem dX2_weigh_78 : decode cX2_weigh 78 = .ok (.aload_n 0, 1) := by decide +kernel
theorem dX2_weigh_79 : decode cX2_weigh 79 = .ok (.aload_n 1, 1) := by decide +kernel
theorem dX2_weigh_80 : decode cX2_weigh 80 = .ok (.iload 4, 2) := by decide +kernel
theorem dX2_weigh_82 : decode cX2_weigh 82 = .ok (.iload_n 2, 1) := by decide +kernel
theorem dX2_weigh_83 : decode cX2_weigh 83 = .ok (.invokevirtual 101, 3) := by decide +kernel
theorem dX2_weigh_86 : decode cX2_weigh 86 = .ok (.iload 4, 2) := by decide +kernel
theorem dX2_weigh_88 : decode cX2_weigh 88 = .ok (.iconst 1, 1) := by decide +kernel
theorem dX2_weigh_89 : decode cX2_weigh 89 = .ok (.iadd, 1) := by decide +kernel
theorem dX2_weigh_90 : decode cX2_weigh 90 = .ok (.istore 5, 2) := by decide +kernel
theorem dX2_weigh_92 : decode cX2_weigh 92 = .ok (.iload 5, 2) := by decide +kernel
theorem dX2_weigh_94 : decode cX2_weigh 94 = .ok (.aload_n 0, 1) := by decide +kernel
theorem dX2_weigh_95 : decode cX2_weigh 95 = .ok (.getfield 15, 3) := by decide +kernel
theorem dX2_weigh_98 : decode cX2_weigh 98 = .ok (.getfield 19, 3) := by decide +kernel
theorem dX2_weigh_101 : decode cX2_weigh 101 = .ok (.if_icmp .ge 45, 3) := by decide +kernel
theorem dX2_weigh_104 : decode cX2_weigh 104 = .ok (.iload 5, 2) := by decide +kernel
theorem dX2_weigh_106 : decode cX2_weigh 106 = .ok (.iload_n 2, 1) := by decide +kernel
theorem dX2_weigh_107 : decode cX2_weigh 107 = .ok (.if_icmp .eq 33, 3) := by decide +kernel
theorem dX2_weigh_110 : decode cX2_weigh 110 = .ok (.aload_n 0, 1) := by decide +kernel
theorem dX2_weigh_111 : decode cX2_weigh 111 = .ok (.aload_n 1, 1) := by decide +kernel
theorem dX2_weigh_112 : decode cX2_weigh 112 = .ok (.iload 4, 2) := by decide +kernel
theorem dX2_weigh_114 : decode cX2_weigh 114 = .ok (.iload 5, 2) := by decide +kernel
theorem dX2_weigh_116 : decode cX2_weigh 116 = .ok (.iload_n 2, 1) := by decide +kernel
theorem dX2_weigh_117 : decode cX2_weigh 117 = .ok (.invokevirtual 89, 3) := by decide +kernel
theorem dX2_weigh_120 : decode cX2_weigh 120 = .ok (.ifCond .eq 20, 3) := by decide +kernel
theorem dX2_weigh_123 : decode cX2_weigh 123 = .ok (.aload_n 0, 1) := by decide +kernel
theorem dX2_weigh_124 : decode cX2_weigh 124 = .ok (.aload_n 1, 1) := by decide +kernel
theorem dX2_weigh_125 : decode cX2_weigh 125 = .ok (.iload 4, 2) := by decide +kernel
theorem dX2_weigh_127 : decode cX2_weigh 127 = .ok (.iload 5, 2) := by decide +kernel
theorem dX2_weigh_129 : decode cX2_weigh 129 = .ok (.aload_n 0, 1) := by decide +kernel
theorem dX2_weigh_130 : decode cX2_weigh 130 = .ok (.getfield 15, 3) := by decide +kernel
theorem dX2_weigh_133 : decode cX2_weigh 133 = .ok (.iload_n 2, 1) := by decide +kernel
theorem dX2_weigh_134 : decode cX2_weigh 134 = .ok (.invokevirtual 49, 3) := by decide +kernel
theorem dX2_weigh_137 : decode cX2_weigh 137 = .ok (.invokevirtual 105, 3) := by decide +kernel
theorem dX2_weigh_140 : decode cX2_weigh 140 = .ok (.iinc 5 1, 3) := by decide +kernel
theorem dX2_weigh_143 : decode cX2_weigh 143 = .ok (.goto (-51), 3) := by decide +kernel
theorem dX2_weigh_146 : decode cX2_weigh 146 = .ok (.iinc 4 1, 3) := by decide +kernel
theorem dX2_weigh_149 : decode cX2_weigh 149 = .ok (.goto (-99), 3) := by decide +kernel
theorem dX2_weigh_152 : decode cX2_weigh 152 = .ok (.aload_n 0, 1) := by decide +kernel
theorem dX2_weigh_153 : decode cX2_weigh 153 = .ok (.getfield 9, 3) := by decide +kernel
theorem dX2_weigh_156 : decode cX2_weigh 156 = .ok (.areturn, 1) := by decide +kernel
theorem dX2_addLacks_0 : decode cX2_addLacks 0 = .ok (.aload_n 0, 1) := by decide +kernel
theorem dX2_addLacks_1 : decode cX2_addLacks 1 = .ok (.getfield 15, 3) := by decide +kernel
theorem dX2_addLacks_4 : decode cX2_addLacks 4 = .ok (.iload_n 2, 1) := by decide +kernel
theorem dX2_addLacks_5 : decode cX2_addLacks 5 = .ok (.iload_n 3, 1) := by decide +kernel
theorem dX2_addLacks_6 : decode cX2_addLacks 6 = .ok (.invokevirtual 45, 3) := by decide +kernel
theorem dX2_addLacks_9 : decode cX2_addLacks 9 = .ok (.iconst 1, 1) := by decide +kernel
theorem dX2_addLacks_10 : decode cX2_addLacks 10 = .ok (.isub, 1) := by decide +kernel
theorem dX2_addLacks_11 : decode cX2_addLacks 11 = .ok (.istore 4, 2) := by decide +kernel
theorem dX2_addLacks_13 : decode cX2_addLacks 13 = .ok (.iconst 0, 1) := by decide +kernel
theorem dX2_addLacks_14 : decode cX2_addLacks 14 = .ok (.aload_n 1, 1) := by decide +kernel
theorem dX2_addLacks_15 : decode cX2_addLacks 15 = .ok (.iload_n 2, 1) := by decide +kernel
theorem dX2_addLacks_16 : decode cX2_addLacks 16 = .ok (.iaload, 1) := by decide +kernel
theorem dX2_addLacks_17 : decode cX2_addLacks 17 = .ok (.aload_n 0, 1) := by decide +kernel
theorem dX2_addLacks_18 : decode cX2_addLacks 18 = .ok (.getfield 15, 3) := by decide +kernel
theorem dX2_addLacks_21 : decode cX2_addLacks 21 = .ok (.iload_n 3, 1) := by decide +kernel
theorem dX2_addLacks_22 : decode cX2_addLacks 22 = .ok (.invokevirtual 49, 3) := by decide +kernel
theorem dX2_addLacks_25 : decode cX2_addLacks 25 = .ok (.isub, 1) := by decide +kernel
theorem dX2_addLacks_26 : decode cX2_addLacks 26 = .ok (.iload 4, 2) := by decide +kernel
theorem dX2_addLacks_28 : decode cX2_addLacks 28 = .ok (.isub, 1) := by decide +kernel
theorem dX2_addLacks_29 : decode cX2_addLacks 29 = .ok (.invokestatic 57, 3) := by decide +kernel
theorem dX2_addLacks_32 : decode cX2_addLacks 32 = .ok (.istore 5, 2) := by decide +kernel
theorem dX2_addLacks_34 : decode cX2_addLacks 34 = .ok (.bipush 29, 2) := by decide +kernel
theorem dX2_addLacks_36 : decode cX2_addLacks 36 = .ok (.aload_n 1, 1) := by decide +kernel
theorem dX2_addLacks_37 : decode cX2_addLacks 37 = .ok (.iload_n 2, 1) := by decide +kernel
theorem dX2_addLacks_38 : decode cX2_addLacks 38 = .ok (.iaload, 1) := by decide +kernel
theorem dX2_addLacks_39 : decode cX2_addLacks 39 = .ok (.aload_n 0, 1) := by decide +kernel
theorem dX2_addLacks_40 : decode cX2_addLacks 40 = .ok (.getfield 15, 3) := by decide +kernel
theorem dX2_addLacks_43 : decode cX2_addLacks 43 = .ok (.iload_n 2, 1) := by decide +kernel
theorem dX2_addLacks_44 : decode cX2_addLacks 44 = .ok (.invokevirtual 49, 3) := by decide +kernel
theorem dX2_addLacks_47 : decode cX2_addLacks 47 = .ok (.iadd, 1) := by decide +kernel
theorem dX2_addLacks_48 : decode cX2_addLacks 48 = .ok (.iload 4, 2) := by decide +kernel
theorem dX2_addLacks_50 : decode cX2_addLacks 50 = .ok (.iadd, 1) := by decide +kernel
theorem dX2_addLacks_51 : decode cX2_addLacks 51 = .ok (.invokestatic 109, 3) := by decide +kernel
theorem dX2_addLacks_54 : decode cX2_addLacks 54 = .ok (.istore 6, 2) := by decide +kernel
theorem dX2_addLacks_56 : decode cX2_addLacks 56 = .ok (.iload 5, 2) := by decide +kernel
theorem dX2_addLacks_58 : decode cX2_addLacks 58 = .ok (.istore 7, 2) := by decide +kernel
theorem dX2_addLacks_60 : decode cX2_addLacks 60 = .ok (.iload 7, 2) := by decide +kernel
theorem dX2_addLacks_62 : decode cX2_addLacks 62 = .ok (.iload 6, 2) := by decide +kernel
theorem dX2_addLacks_64 : decode cX2_addLacks 64 = .ok (.if_icmp .gt 30, 3) := by decide +kernel
theorem dX2_addLacks_67 : decode cX2_addLacks 67 = .ok (.aload_n 0, 1) := by decide +kernel
theorem dX2_addLacks_68 : decode cX2_addLacks 68 = .ok (.getfield 9, 3) := by decide +kernel
theorem dX2_addLacks_71 : decode cX2_addLacks 71 = .ok (.iload 7, 2) := by decide +kernel
theorem dX2_addLacks_73 : decode cX2_addLacks 73 = .ok (.dup2, 1) := by decide +kernel
theorem dX2_addLacks_74 : decode cX2_addLacks 74 = .ok (.iaload, 1) := by decide +kernel
theorem dX2_addLacks_75 : decode cX2_addLacks 75 = .ok (.aload_n 0, 1) := by decide +kernel
theorem dX2_addLacks_76 : decode cX2_addLacks 76 = .ok (.iload_n 2, 1) := by decide +kernel
theorem dX2_addLacks_77 : decode cX2_addLacks 77 = .ok (.aload_n 1, 1) := by decide +kernel
theorem dX2_addLacks_78 : decode cX2_addLacks 78 = .ok (.iload_n 2, 1) := by decide +kernel
theorem dX2_addLacks_79 : decode cX2_addLacks 79 = .ok (.iaload, 1) := by decide +kernel
theorem dX2_addLacks_80 : decode cX2_addLacks 80 = .ok (.iload_n 3, 1) := by decide +kernel
theorem dX2_addLacks_81 : decode cX2_addLacks 81 = .ok (.iload 7, 2) := by decide +kernel
theorem dX2_addLacks_83 : decode cX2_addLacks 83 = .ok (.invokevirtual 41, 3) := by decide +kernel
theorem dX2_addLacks_86 : decode cX2_addLacks 86 = .ok (.iadd, 1) := by decide +kernel
theorem dX2_addLacks_87 : decode cX2_addLacks 87 = .ok (.iastore, 1) := by decide +kernel
theorem dX2_addLacks_88 : decode cX2_addLacks 88 = .ok (.iinc 7 1, 3) := by decide +kernel
theorem dX2_addLacks_91 : decode cX2_addLacks 91 = .ok (.goto (-31), 3) := by decide +kernel
theorem dX2_addLacks_94 : decode cX2_addLacks 94 = .ok (.return_, 1) := by decide +kernel
theorem dX2_addSums_0 : decode cX2_addSums 0 = .ok (.aload_n 0, 1) := by decide +kernel
theorem dX2_addSums_1 : decode cX2_addSums 1 = .ok (.getfield 15, 3) := by decide +kernel
theorem dX2_addSums_4 : decode cX2_addSums 4 = .ok (.iload_n 2, 1) := by decide +kernel
theorem dX2_addSums_5 : decode cX2_addSums 5 = .ok (.invokevirtual 49, 3) := by decide +kernel
theorem dX2_addSums_8 : decode cX2_addSums 8 = .ok (.istore 5, 2) := by decide +kernel
theorem dX2_addSums_10 : decode cX2_addSums 10 = .ok (.aload_n 0, 1) := by decide +kernel
theorem dX2_addSums_11 : decode cX2_addSums 11 = .ok (.getfield 15, 3) := by decide +kernel
theorem dX2_addSums_14 : decode cX2_addSums 14 = .ok (.iload_n 3, 1) := by decide +kernel
theorem dX2_addSums_15 : decode cX2_addSums 15 = .ok (.invokevirtual 49, 3) := by decide +kernel
theorem dX2_addSums_18 : decode cX2_addSums 18 = .ok (.istore 6, 2) := by decide +kernel
theorem dX2_addSums_20 : decode cX2_addSums 20 = .ok (.aload_n 1, 1) := by decide +kernel
theorem dX2_addSums_21 : decode cX2_addSums 21 = .ok (.iload_n 2, 1) := by decide +kernel
theorem dX2_addSums_22 : decode cX2_addSums 22 = .ok (.iaload, 1) := by decide +kernel
theorem dX2_addSums_23 : decode cX2_addSums 23 = .ok (.istore 7, 2) := by decide +kernel
theorem dX2_addSums_25 : decode cX2_addSums 25 = .ok (.iload 7, 2) := by decide +kernel
theorem dX2_addSums_27 : decode cX2_addSums 27 = .ok (.aload_n 1, 1) := by decide +kernel
theorem dX2_addSums_28 : decode cX2_addSums 28 = .ok (.iload_n 2, 1) := by decide +kernel
theorem dX2_addSums_29 : decode cX2_addSums 29 = .ok (.iaload, 1) := by decide +kernel
theorem dX2_addSums_30 : decode cX2_addSums 30 = .ok (.iload 5, 2) := by decide +kernel
theorem dX2_addSums_32 : decode cX2_addSums 32 = .ok (.iadd, 1) := by decide +kernel
theorem dX2_addSums_33 : decode cX2_addSums 33 = .ok (.if_icmp .gt 96, 3) := by decide +kernel
theorem dX2_addSums_36 : decode cX2_addSums 36 = .ok (.aload_n 1, 1) := by decide +kernel
theorem dX2_addSums_37 : decode cX2_addSums 37 = .ok (.iload_n 3, 1) := by decide +kernel
theorem dX2_addSums_38 : decode cX2_addSums 38 = .ok (.iaload, 1) := by decide +kernel
theorem dX2_addSums_39 : decode cX2_addSums 39 = .ok (.istore 8, 2) := by decide +kernel
theorem dX2_addSums_41 : decode cX2_addSums 41 = .ok (.iload 8, 2) := by decide +kernel
theorem dX2_addSums_43 : decode cX2_addSums 43 = .ok (.aload_n 1, 1) := by decide +kernel
theorem dX2_addSums_44 : decode cX2_addSums 44 = .ok (.iload_n 3, 1) := by decide +kernel
theorem dX2_addSums_45 : decode cX2_addSums 45 = .ok (.iaload, 1) := by decide +kernel
theorem dX2_addSums_46 : decode cX2_addSums 46 = .ok (.iload 6, 2) := by decide +kernel
theorem dX2_addSums_48 : decode cX2_addSums 48 = .ok (.iadd, 1) := by decide +kernel
theorem dX2_addSums_49 : decode cX2_addSums 49 = .ok (.if_icmp .gt 66, 3) := by decide +kernel
theorem dX2_addSums_52 : decode cX2_addSums 52 = .ok (.aload_n 0, 1) := by decide +kernel
theorem dX2_addSums_53 : decode cX2_addSums 53 = .ok (.iconst 2, 1) := by decide +kernel
theorem dX2_addSums_54 : decode cX2_addSums 54 = .ok (.iload 7, 2) := by decide +kernel
theorem dX2_addSums_56 : decode cX2_addSums 56 = .ok (.imul, 1) := by decide +kernel
theorem dX2_addSums_57 : decode cX2_addSums 57 = .ok (.iload 8, 2) := by decide +kernel
theorem dX2_addSums_59 : decode cX2_addSums 59 = .ok (.isub, 1) := by decide +kernel
theorem dX2_addSums_60 : decode cX2_addSums 60 = .ok (.iload 4, 2) := by decide +kernel
theorem dX2_addSums_62 : decode cX2_addSums 62 = .ok (.invokevirtual 112, 3) := by decide +kernel
theorem dX2_addSums_65 : decode cX2_addSums 65 = .ok (.aload_n 0, 1) := by decide +kernel
theorem dX2_addSums_66 : decode cX2_addSums 66 = .ok (.iconst 2, 1) := by decide +kernel
theorem dX2_addSums_67 : decode cX2_addSums 67 = .ok (.iload 8, 2) := by decide +kernel
theorem dX2_addSums_69 : decode cX2_addSums 69 = .ok (.imul, 1) := by decide +kernel
theorem dX2_addSums_70 : decode cX2_addSums 70 = .ok (.iload 7, 2) := by decide +kernel
theorem dX2_addSums_72 : decode cX2_addSums 72 = .ok (.isub, 1) := by decide +kernel
theorem dX2_addSums_73 : decode cX2_addSums 73 = .ok (.iload 4, 2) := by decide +kernel
theorem dX2_addSums_75 : decode cX2_addSums 75 = .ok (.invokevirtual 112, 3) := by decide +kernel
theorem dX2_addSums_78 : decode cX2_addSums 78 = .ok (.iload 7, 2) := by decide +kernel
theorem dX2_addSums_80 : decode cX2_addSums 80 = .ok (.iload 8, 2) := by decide +kernel
theorem dX2_addSums_82 : decode cX2_addSums 82 = .ok (.iadd, 1) := by decide +kernel
theorem dX2_addSums_83 : decode cX2_addSums 83 = .ok (.iconst 2, 1) := by decide +kernel
theorem dX2_addSums_84 : decode cX2_addSums 84 = .ok (.irem, 1) := by decide +kernel
theorem dX2_addSums_85 : decode cX2_addSums 85 = .ok (.ifCond .ne 16, 3) := by decide +kernel
theorem dX2_addSums_88 : decode cX2_addSums 88 = .ok (.aload_n 0, 1) := by decide +kernel
theorem dX2_addSums_89 : decode cX2_addSums 89 = .ok (.iload 7, 2) := by decide +kernel
theorem dX2_addSums_91 : decode cX2_addSums 91 = .ok (.iload 8, 2) := by decide +kernel
end
section
theorem dX2_addSums_93 : decode cX2_addSums 93 = .ok (.iadd, 1) := by decide +kernel
theorem dX2_addSums_94 : decode cX2_addSums 94 = .ok (.iconst 2, 1) := by decide +kernel
theorem dX2_addSums_95 : decode cX2_addSums 95 = .ok (.idiv, 1) := by decide +kernel
theorem dX2_addSums_96 : decode cX2_addSums 96 = .ok (.iload 4, 2) := by decide +kernel
theorem dX2_addSums_98 : decode cX2_addSums 98 = .ok (.invokevirtual 112, 3) := by decide +kernel
theorem dX2_addSums_101 : decode cX2_addSums 101 = .ok (.iload 8, 2) := by decide +kernel
theorem dX2_addSums_103 : decode cX2_addSums 103 = .ok (.iconst 1, 1) := by decide +kernel
theorem dX2_addSums_104 : decode cX2_addSums 104 = .ok (.iload 6, 2) := by decide +kernel
theorem dX2_addSums_106 : decode cX2_addSums 106 = .ok (.invokestatic 57, 3) := by decide +kernel
theorem dX2_addSums_109 : decode cX2_addSums 109 = .ok (.iadd, 1) := by decide +kernel
theorem dX2_addSums_110 : decode cX2_addSums 110 = .ok (.istore 8, 2) := by decide +kernel
theorem dX2_addSums_112 : decode cX2_addSums 112 = .ok (.goto (-71), 3) := by decide +kernel
theorem dX2_addSums_115 : decode cX2_addSums 115 = .ok (.iload 7, 2) := by decide +kernel
theorem dX2_addSums_117 : decode cX2_addSums 117 = .ok (.iconst 1, 1) := by decide +kernel
theorem dX2_addSums_118 : decode cX2_addSums 118 = .ok (.iload 5, 2) := by decide +kernel
theorem dX2_addSums_120 : decode cX2_addSums 120 = .ok (.invokestatic 57, 3) := by decide +kernel
theorem dX2_addSums_123 : decode cX2_addSums 123 = .ok (.iadd, 1) := by decide +kernel
theorem dX2_addSums_124 : decode cX2_addSums 124 = .ok (.istore 7, 2) := by decide +kernel
theorem dX2_addSums_126 : decode cX2_addSums 126 = .ok (.goto (-101), 3) := by decide +kernel
theorem dX2_addSums_129 : decode cX2_addSums 129 = .ok (.return_, 1) := by decide +kernel
theorem dX2_addSumAt_0 : decode cX2_addSumAt 0 = .ok (.iload_n 1, 1) := by decide +kernel
theorem dX2_addSumAt_1 : decode cX2_addSumAt 1 = .ok (.iconst 0, 1) := by decide +kernel
theorem dX2_addSumAt_2 : decode cX2_addSumAt 2 = .ok (.bipush 29, 2) := by decide +kernel
theorem dX2_addSumAt_4 : decode cX2_addSumAt 4 = .ok (.invokestatic 116, 3) := by decide +kernel
theorem dX2_addSumAt_7 : decode cX2_addSumAt 7 = .ok (.ifCond .eq 13, 3) := by decide +kernel
theorem dX2_addSumAt_10 : decode cX2_addSumAt 10 = .ok (.aload_n 0, 1) := by decide +kernel
theorem dX2_addSumAt_11 : decode cX2_addSumAt 11 = .ok (.getfield 9, 3) := by decide +kernel
theorem dX2_addSumAt_14 : decode cX2_addSumAt 14 = .ok (.iload_n 1, 1) := by decide +kernel
theorem dX2_addSumAt_15 : decode cX2_addSumAt 15 = .ok (.dup2, 1) := by decide +kernel
theorem dX2_addSumAt_16 : decode cX2_addSumAt 16 = .ok (.iaload, 1) := by decide +kernel
theorem dX2_addSumAt_17 : decode cX2_addSumAt 17 = .ok (.iconst 5, 1) := by decide +kernel
theorem dX2_addSumAt_18 : decode cX2_addSumAt 18 = .ok (.iadd, 1) := by decide +kernel
theorem dX2_addSumAt_19 : decode cX2_addSumAt 19 = .ok (.iastore, 1) := by decide +kernel
theorem dX2_addSumAt_20 : decode cX2_addSumAt 20 = .ok (.iload_n 2, 1) := by decide +kernel
theorem dX2_addSumAt_21 : decode cX2_addSumAt 21 = .ok (.ifCond .le 27, 3) := by decide +kernel
theorem dX2_addSumAt_24 : decode cX2_addSumAt 24 = .ok (.iload_n 1, 1) := by decide +kernel
theorem dX2_addSumAt_25 : decode cX2_addSumAt 25 = .ok (.iload_n 2, 1) := by decide +kernel
theorem dX2_addSumAt_26 : decode cX2_addSumAt 26 = .ok (.isub, 1) := by decide +kernel
theorem dX2_addSumAt_27 : decode cX2_addSumAt 27 = .ok (.iconst 0, 1) := by decide +kernel
theorem dX2_addSumAt_28 : decode cX2_addSumAt 28 = .ok (.bipush 29, 2) := by decide +kernel
theorem dX2_addSumAt_30 : decode cX2_addSumAt 30 = .ok (.invokestatic 116, 3) := by decide +kernel
theorem dX2_addSumAt_33 : decode cX2_addSumAt 33 = .ok (.ifCond .eq 15, 3) := by decide +kernel
theorem dX2_addSumAt_36 : decode cX2_addSumAt 36 = .ok (.aload_n 0, 1) := by decide +kernel
theorem dX2_addSumAt_37 : decode cX2_addSumAt 37 = .ok (.getfield 9, 3) := by decide +kernel
theorem dX2_addSumAt_40 : decode cX2_addSumAt 40 = .ok (.iload_n 1, 1) := by decide +kernel
theorem dX2_addSumAt_41 : decode cX2_addSumAt 41 = .ok (.iload_n 2, 1) := by decide +kernel
theorem dX2_addSumAt_42 : decode cX2_addSumAt 42 = .ok (.isub, 1) := by decide +kernel
theorem dX2_addSumAt_43 : decode cX2_addSumAt 43 = .ok (.dup2, 1) := by decide +kernel
theorem dX2_addSumAt_44 : decode cX2_addSumAt 44 = .ok (.iaload, 1) := by decide +kernel
theorem dX2_addSumAt_45 : decode cX2_addSumAt 45 = .ok (.iconst 5, 1) := by decide +kernel
theorem dX2_addSumAt_46 : decode cX2_addSumAt 46 = .ok (.iadd, 1) := by decide +kernel
theorem dX2_addSumAt_47 : decode cX2_addSumAt 47 = .ok (.iastore, 1) := by decide +kernel
theorem dX2_addSumAt_48 : decode cX2_addSumAt 48 = .ok (.return_, 1) := by decide +kernel
end
section
theorem dX8_search_0 : decode cX8_search 0 = .ok (.aload_n 0, 1) := by decide +kernel
theorem dX8_search_1 : decode cX8_search 1 = .ok (.getfield 21, 3) := by decide +kernel
theorem dX8_search_4 : decode cX8_search 4 = .ok (.getfield 29, 3) := by decide +kernel
theorem dX8_search_7 : decode cX8_search 7 = .ok (.ifCond .ne 5, 3) := by decide +kernel
theorem dX8_search_10 : decode cX8_search 10 = .ok (.iconst 1, 1) := by decide +kernel
theorem dX8_search_11 : decode cX8_search 11 = .ok (.ireturn, 1) := by decide +kernel
theorem dX8_search_12 : decode cX8_search 12 = .ok (.iconst 0, 1) := by decide +kernel
theorem dX8_search_13 : decode cX8_search 13 = .ok (.istore_n 2, 1) := by decide +kernel
theorem dX8_search_14 : decode cX8_search 14 = .ok (.aload_n 0, 1) := by decide +kernel
theorem dX8_search_15 : decode cX8_search 15 = .ok (.iload_n 2, 1) := by decide +kernel
theorem dX8_search_16 : decode cX8_search 16 = .ok (.iload_n 1, 1) := by decide +kernel
theorem dX8_search_17 : decode cX8_search 17 = .ok (.invokevirtual 35, 3) := by decide +kernel
theorem dX8_search_20 : decode cX8_search 20 = .ok (.iconst 0, 1) := by decide +kernel
theorem dX8_search_21 : decode cX8_search 21 = .ok (.istore_n 3, 1) := by decide +kernel
theorem dX8_search_22 : decode cX8_search 22 = .ok (.iload_n 3, 1) := by decide +kernel
theorem dX8_search_23 : decode cX8_search 23 = .ok (.sipush 8001, 3) := by decide +kernel
theorem dX8_search_26 : decode cX8_search 26 = .ok (.if_icmp .gt 74, 3) := by decide +kernel
theorem dX8_search_29 : decode cX8_search 29 = .ok (.aload_n 0, 1) := by decide +kernel
theorem dX8_search_30 : decode cX8_search 30 = .ok (.getfield 15, 3) := by decide +kernel
theorem dX8_search_33 : decode cX8_search 33 = .ok (.iload_n 2, 1) := by decide +kernel
theorem dX8_search_34 : decode cX8_search 34 = .ok (.iaload, 1) := by decide +kernel
theorem dX8_search_35 : decode cX8_search 35 = .ok (.iload_n 1, 1) := by decide +kernel
theorem dX8_search_36 : decode cX8_search 36 = .ok (.if_icmp .lt 12, 3) := by decide +kernel
theorem dX8_search_39 : decode cX8_search 39 = .ok (.iinc 2 (-1), 3) := by decide +kernel
theorem dX8_search_42 : decode cX8_search 42 = .ok (.iload_n 2, 1) := by decide +kernel
theorem dX8_search_43 : decode cX8_search 43 = .ok (.ifCond .ge 51, 3) := by decide +kernel
theorem dX8_search_46 : decode cX8_search 46 = .ok (.iconst 0, 1) := by decide +kernel
theorem dX8_search_47 : decode cX8_search 47 = .ok (.ireturn, 1) := by decide +kernel
theorem dX8_search_48 : decode cX8_search 48 = .ok (.aload_n 0, 1) := by decide +kernel
theorem dX8_search_49 : decode cX8_search 49 = .ok (.getfield 39, 3) := by decide +kernel
theorem dX8_search_52 : decode cX8_search 52 = .ok (.sipush 4000, 3) := by decide +kernel
theorem dX8_search_55 : decode cX8_search 55 = .ok (.if_icmp .lt 6, 3) := by decide +kernel
theorem dX8_search_58 : decode cX8_search 58 = .ok (.bipush (-2), 2) := by decide +kernel
theorem dX8_search_60 : decode cX8_search 60 = .ok (.ireturn, 1) := by decide +kernel
theorem dX8_search_61 : decode cX8_search 61 = .ok (.aload_n 0, 1) := by decide +kernel
theorem dX8_search_62 : decode cX8_search 62 = .ok (.iload_n 2, 1) := by decide +kernel
theorem dX8_search_63 : decode cX8_search 63 = .ok (.invokevirtual 42, 3) := by decide +kernel
theorem dX8_search_66 : decode cX8_search 66 = .ok (.ifCond .ne 6, 3) := by decide +kernel
theorem dX8_search_69 : decode cX8_search 69 = .ok (.goto 25, 3) := by decide +kernel
theorem dX8_search_72 : decode cX8_search 72 = .ok (.iinc 2 1, 3) := by decide +kernel
theorem dX8_search_75 : decode cX8_search 75 = .ok (.iload_n 2, 1) := by decide +kernel
theorem dX8_search_76 : decode cX8_search 76 = .ok (.aload_n 0, 1) := by decide +kernel
theorem dX8_search_77 : decode cX8_search 77 = .ok (.getfield 21, 3) := by decide +kernel
theorem dX8_search_80 : decode cX8_search 80 = .ok (.getfield 29, 3) := by decide +kernel
theorem dX8_search_83 : decode cX8_search 83 = .ok (.if_icmp .lt 5, 3) := by decide +kernel
theorem dX8_search_86 : decode cX8_search 86 = .ok (.iconst 1, 1) := by decide +kernel
theorem dX8_search_87 : decode cX8_search 87 = .ok (.ireturn, 1) := by decide +kernel
theorem dX8_search_88 : decode cX8_search 88 = .ok (.aload_n 0, 1) := by decide +kernel
theorem dX8_search_89 : decode cX8_search 89 = .ok (.iload_n 2, 1) := by decide +kernel
theorem dX8_search_90 : decode cX8_search 90 = .ok (.iload_n 1, 1) := by decide +kernel
theorem dX8_search_91 : decode cX8_search 91 = .ok (.invokevirtual 35, 3) := by decide +kernel
theorem dX8_search_94 : decode cX8_search 94 = .ok (.iinc 3 1, 3) := by decide +kernel
theorem dX8_search_97 : decode cX8_search 97 = .ok (.goto (-75), 3) := by decide +kernel
theorem dX8_search_100 : decode cX8_search 100 = .ok (.bipush (-2), 2) := by decide +kernel
theorem dX8_search_102 : decode cX8_search 102 = .ok (.ireturn, 1) := by decide +kernel
theorem dX8_handOver_0 : decode cX8_handOver 0 = .ok (.aload_n 0, 1) := by decide +kernel
theorem dX8_handOver_1 : decode cX8_handOver 1 = .ok (.getfield 9, 3) := by decide +kernel
theorem dX8_handOver_4 : decode cX8_handOver 4 = .ok (.iconst 0, 1) := by decide +kernel
theorem dX8_handOver_5 : decode cX8_handOver 5 = .ok (.aload_n 1, 1) := by decide +kernel
theorem dX8_handOver_6 : decode cX8_handOver 6 = .ok (.iconst 0, 1) := by decide +kernel
theorem dX8_handOver_7 : decode cX8_handOver 7 = .ok (.aload_n 0, 1) := by decide +kernel
theorem dX8_handOver_8 : decode cX8_handOver 8 = .ok (.getfield 21, 3) := by decide +kernel
theorem dX8_handOver_11 : decode cX8_handOver 11 = .ok (.getfield 29, 3) := by decide +kernel
theorem dX8_handOver_14 : decode cX8_handOver 14 = .ok (.invokestatic 46, 3) := by decide +kernel
theorem dX8_handOver_17 : decode cX8_handOver 17 = .ok (.return_, 1) := by decide +kernel
theorem dX8_open_0 : decode cX8_open 0 = .ok (.aload_n 0, 1) := by decide +kernel
theorem dX8_open_1 : decode cX8_open 1 = .ok (.getfield 15, 3) := by decide +kernel
theorem dX8_open_4 : decode cX8_open 4 = .ok (.iload_n 1, 1) := by decide +kernel
theorem dX8_open_5 : decode cX8_open 5 = .ok (.iconst 0, 1) := by decide +kernel
theorem dX8_open_6 : decode cX8_open 6 = .ok (.iastore, 1) := by decide +kernel
theorem dX8_open_7 : decode cX8_open 7 = .ok (.aload_n 0, 1) := by decide +kernel
theorem dX8_open_8 : decode cX8_open 8 = .ok (.getfield 18, 3) := by decide +kernel
theorem dX8_open_11 : decode cX8_open 11 = .ok (.iload_n 1, 1) := by decide +kernel
theorem dX8_open_12 : decode cX8_open 12 = .ok (.aload_n 0, 1) := by decide +kernel
theorem dX8_open_13 : decode cX8_open 13 = .ok (.getfield 25, 3) := by decide +kernel
theorem dX8_open_16 : decode cX8_open 16 = .ok (.aload_n 0, 1) := by decide +kernel
theorem dX8_open_17 : decode cX8_open 17 = .ok (.getfield 9, 3) := by decide +kernel
theorem dX8_open_20 : decode cX8_open 20 = .ok (.iload_n 1, 1) := by decide +kernel
theorem dX8_open_21 : decode cX8_open 21 = .ok (.iload_n 1, 1) := by decide +kernel
theorem dX8_open_22 : decode cX8_open 22 = .ok (.invokevirtual 52, 3) := by decide +kernel
theorem dX8_open_25 : decode cX8_open 25 = .ok (.iload_n 2, 1) := by decide +kernel
theorem dX8_open_26 : decode cX8_open 26 = .ok (.aload_n 0, 1) := by decide +kernel
theorem dX8_open_27 : decode cX8_open 27 = .ok (.getfield 21, 3) := by decide +kernel
theorem dX8_open_30 : decode cX8_open 30 = .ok (.iload_n 1, 1) := by decide +kernel
theorem dX8_open_31 : decode cX8_open 31 = .ok (.invokevirtual 58, 3) := by decide +kernel
theorem dX8_open_34 : decode cX8_open 34 = .ok (.isub, 1) := by decide +kernel
theorem dX8_open_35 : decode cX8_open 35 = .ok (.invokestatic 62, 3) := by decide +kernel
theorem dX8_open_38 : decode cX8_open 38 = .ok (.iand, 1) := by decide +kernel
theorem dX8_open_39 : decode cX8_open 39 = .ok (.iastore, 1) := by decide +kernel
theorem dX8_open_40 : decode cX8_open 40 = .ok (.iload_n 1, 1) := by decide +kernel
theorem dX8_open_41 : decode cX8_open 41 = .ok (.ifCond .le 50, 3) := by decide +kernel
theorem dX8_open_44 : decode cX8_open 44 = .ok (.aload_n 0, 1) := by decide +kernel
theorem dX8_open_45 : decode cX8_open 45 = .ok (.getfield 21, 3) := by decide +kernel
theorem dX8_open_48 : decode cX8_open 48 = .ok (.getfield 65, 3) := by decide +kernel
theorem dX8_open_51 : decode cX8_open 51 = .ok (.iload_n 1, 1) := by decide +kernel
theorem dX8_open_52 : decode cX8_open 52 = .ok (.iconst 1, 1) := by decide +kernel
theorem dX8_open_53 : decode cX8_open 53 = .ok (.isub, 1) := by decide +kernel
theorem dX8_open_54 : decode cX8_open 54 = .ok (.iaload, 1) := by decide +kernel
theorem dX8_open_55 : decode cX8_open 55 = .ok (.aload_n 0, 1) := by decide +kernel
theorem dX8_open_56 : decode cX8_open 56 = .ok (.getfield 21, 3) := by decide +kernel
theorem dX8_open_59 : decode cX8_open 59 = .ok (.getfield 65, 3) := by decide +kernel
theorem dX8_open_62 : decode cX8_open 62 = .ok (.iload_n 1, 1) := by decide +kernel
theorem dX8_open_63 : decode cX8_open 63 = .ok (.iaload, 1) := by decide +kernel
theorem dX8_open_64 : decode cX8_open 64 = .ok (.if_icmp .ne 27, 3) := by decide +kernel
theorem dX8_open_67 : decode cX8_open 67 = .ok (.aload_n 0, 1) := by decide +kernel
theorem dX8_open_68 : decode cX8_open 68 = .ok (.getfield 18, 3) := by decide +kernel
theorem dX8_open_71 : decode cX8_open 71 = .ok (.iload_n 1, 1) := by decide +kernel
theorem dX8_open_72 : decode cX8_open 72 = .ok (.dup2, 1) := by decide +kernel
theorem dX8_open_73 : decode cX8_open 73 = .ok (.iaload, 1) := by decide +kernel
theorem dX8_open_74 : decode cX8_open 74 = .ok (.aload_n 0, 1) := by decide +kernel
theorem dX8_open_75 : decode cX8_open 75 = .ok (.getfield 9, 3) := by decide +kernel
theorem dX8_open_78 : decode cX8_open 78 = .ok (.iload_n 1, 1) := by decide +kernel
theorem dX8_open_79 : decode cX8_open 79 = .ok (.iconst 1, 1) := by decide +kernel
theorem dX8_open_80 : decode cX8_open 80 = .ok (.isub, 1) := by decide +kernel
theorem dX8_open_81 : decode cX8_open 81 = .ok (.iaload, 1) := by decide +kernel
theorem dX8_open_82 : decode cX8_open 82 = .ok (.iconst 1, 1) := by decide +kernel
theorem dX8_open_83 : decode cX8_open 83 = .ok (.iadd, 1) := by decide +kernel
theorem dX8_open_84 : decode cX8_open 84 = .ok (.invokestatic 62, 3) := by decide +kernel
theorem dX8_open_87 : decode cX8_open 87 = .ok (.iconst (-1), 1) := by decide +kernel
theorem dX8_open_88 : decode cX8_open 88 = .ok (.ixor, 1) := by decide +kernel
theorem dX8_open_89 : decode cX8_open 89 = .ok (.iand, 1) := by decide +kernel
theorem dX8_open_90 : decode cX8_open 90 = .ok (.iastore, 1) := by decide +kernel
theorem dX8_open_91 : decode cX8_open 91 = .ok (.return_, 1) := by decide +kernel
theorem dX8_takes_0 : decode cX8_takes 0 = .ok (.aload_n 0, 1) := by decide +kernel
theorem dX8_takes_1 : decode cX8_takes 1 = .ok (.getfield 15, 3) := by decide +kernel
theorem dX8_takes_4 : decode cX8_takes 4 = .ok (.iload_n 1, 1) := by decide +kernel
theorem dX8_takes_5 : decode cX8_takes 5 = .ok (.iaload, 1) := by decide +kernel
theorem dX8_takes_6 : decode cX8_takes 6 = .ok (.istore_n 2, 1) := by decide +kernel
theorem dX8_takes_7 : decode cX8_takes 7 = .ok (.aload_n 0, 1) := by decide +kernel
theorem dX8_takes_8 : decode cX8_takes 8 = .ok (.dup, 1) := by decide +kernel
theorem dX8_takes_9 : decode cX8_takes 9 = .ok (.getfield 39, 3) := by decide +kernel
theorem dX8_takes_12 : decode cX8_takes 12 = .ok (.iconst 1, 1) := by decide +kernel
theorem dX8_takes_13 : decode cX8_takes 13 = .ok (.iadd, 1) := by decide +kernel
theorem dX8_takes_14 : decode cX8_takes 14 = .ok (.putfield 39, 3) := by decide +kernel
theorem dX8_takes_17 : decode cX8_takes 17 = .ok (.aload_n 0, 1) := by decide +kernel
theorem dX8_takes_18 : decode cX8_takes 18 = .ok (.getfield 15, 3) := by decide +kernel
theorem dX8_takes_21 : decode cX8_takes 21 = .ok (.iload_n 1, 1) := by decide +kernel
theorem dX8_takes_22 : decode cX8_takes 22 = .ok (.dup2, 1) := by decide +kernel
theorem dX8_takes_23 : decode cX8_takes 23 = .ok (.iaload, 1) := by decide +kernel
theorem dX8_takes_24 : decode cX8_takes 24 = .ok (.iconst 1, 1) := by decide +kernel
theorem dX8_takes_25 : decode cX8_takes 25 = .ok (.iadd, 1) := by decide +kernel
theorem dX8_takes_26 : decode cX8_takes 26 = .ok (.iastore, 1) := by decide +kernel
theorem dX8_takes_27 : decode cX8_takes 27 = .ok (.aload_n 0, 1) := by decide +kernel
theorem dX8_takes_28 : decode cX8_takes 28 = .ok (.getfield 9, 3) := by decide +kernel
theorem dX8_takes_31 : decode cX8_takes 31 = .ok (.iload_n 1, 1) := by decide +kernel
theorem dX8_takes_32 : decode cX8_takes 32 = .ok (.iload_n 2, 1) := by decide +kernel
theorem dX8_takes_33 : decode cX8_takes 33 = .ok (.iastore, 1) := by decide +kernel
theorem dX8_takes_34 : decode cX8_takes 34 = .ok (.aload_n 0, 1) := by decide +kernel
theorem dX8_takes_35 : decode cX8_takes 35 = .ok (.getfield 18, 3) := by decide +kernel
theorem dX8_takes_38 : decode cX8_takes 38 = .ok (.iload_n 1, 1) := by decide +kernel
theorem dX8_takes_39 : decode cX8_takes 39 = .ok (.iaload, 1) := by decide +kernel
theorem dX8_takes_40 : decode cX8_takes 40 = .ok (.iload_n 2, 1) := by decide +kernel
theorem dX8_takes_41 : decode cX8_takes 41 = .ok (.iushr, 1) := by decide +kernel
theorem dX8_takes_42 : decode cX8_takes 42 = .ok (.iconst 1, 1) := by decide +kernel
theorem dX8_takes_43 : decode cX8_takes 43 = .ok (.iand, 1) := by decide +kernel
theorem dX8_takes_44 : decode cX8_takes 44 = .ok (.ifCond .eq 7, 3) := by decide +kernel
theorem dX8_takes_47 : decode cX8_takes 47 = .ok (.iconst 1, 1) := by decide +kernel
theorem dX8_takes_48 : decode cX8_takes 48 = .ok (.goto 4, 3) := by decide +kernel
theorem dX8_takes_51 : decode cX8_takes 51 = .ok (.iconst 0, 1) := by decide +kernel
theorem dX8_takes_52 : decode cX8_takes 52 = .ok (.ireturn, 1) := by decide +kernel
theorem dX8_below_0 : decode cX8_below 0 = .ok (.iload_n 0, 1) := by decide +kernel
theorem dX8_below_1 : decode cX8_below 1 = .ok (.ifCond .gt 7, 3) := by decide +kernel
theorem dX8_below_4 : decode cX8_below 4 = .ok (.iconst 0, 1) := by decide +kernel
theorem dX8_below_5 : decode cX8_below 5 = .ok (.goto 19, 3) := by decide +kernel
theorem dX8_below_8 : decode cX8_below 8 = .ok (.iload_n 0, 1) := by decide +kernel
theorem dX8_below_9 : decode cX8_below 9 = .ok (.bipush 30, 2) := by decide +kernel
theorem dX8_below_11 : decode cX8_below 11 = .ok (.if_icmp .lt 8, 3) := by decide +kernel
theorem dX8_below_14 : decode cX8_below 14 = .ok (.ldc 68, 2) := by decide +kernel
theorem dX8_below_16 : decode cX8_below 16 = .ok (.goto 8, 3) := by decide +kernel
theorem dX8_below_19 : decode cX8_below 19 = .ok (.iconst 1, 1) := by decide +kernel
theorem dX8_below_20 : decode cX8_below 20 = .ok (.iload_n 0, 1) := by decide +kernel
theorem dX8_below_21 : decode cX8_below 21 = .ok (.ishl, 1) := by decide +kernel
theorem dX8_below_22 : decode cX8_below 22 = .ok (.iconst 1, 1) := by decide +kernel
theorem dX8_below_23 : decode cX8_below 23 = .ok (.isub, 1) := by decide +kernel
theorem dX8_below_24 : decode cX8_below 24 = .ok (.ireturn, 1) := by decide +kernel
end
section
theorem dX5_canChange_0 : decode cX5_canChange 0 = .ok (.aload_n 1, 1) := by decide +kernel
theorem dX5_canChange_1 : decode cX5_canChange 1 = .ok (.iload_n 2, 1) := by decide +kernel
theorem dX5_canChange_2 : decode cX5_canChange 2 = .ok (.iaload, 1) := by decide +kernel
theorem dX5_canChange_3 : decode cX5_canChange 3 = .ok (.ifCond .lt 21, 3) := by decide +kernel
theorem dX5_canChange_6 : decode cX5_canChange 6 = .ok (.aload_n 0, 1) := by decide +kernel
theorem dX5_canChange_7 : decode cX5_canChange 7 = .ok (.getfield 9, 3) := by decide +kernel
theorem dX5_canChange_10 : decode cX5_canChange 10 = .ok (.getfield 19, 3) := by decide +kernel
theorem dX5_canChange_13 : decode cX5_canChange 13 = .ok (.iload_n 2, 1) := by decide +kernel
theorem dX5_canChange_14 : decode cX5_canChange 14 = .ok (.iaload, 1) := by decide +kernel
theorem dX5_canChange_15 : decode cX5_canChange 15 = .ok (.bipush (-2), 2) := by decide +kernel
theorem dX5_canChange_17 : decode cX5_canChange 17 = .ok (.if_icmp .ne 7, 3) := by decide +kernel
theorem dX5_canChange_20 : decode cX5_canChange 20 = .ok (.iconst 1, 1) := by decide +kernel
theorem dX5_canChange_21 : decode cX5_canChange 21 = .ok (.goto 4, 3) := by decide +kernel
theorem dX5_canChange_24 : decode cX5_canChange 24 = .ok (.iconst 0, 1) := by decide +kernel
theorem dX5_canChange_25 : decode cX5_canChange 25 = .ok (.ireturn, 1) := by decide +kernel
theorem dX5_improve_0 : decode cX5_improve 0 = .ok (.iconst 0, 1) := by decide +kernel
theorem dX5_improve_1 : decode cX5_improve 1 = .ok (.istore_n 2, 1) := by decide +kernel
theorem dX5_improve_2 : decode cX5_improve 2 = .ok (.bipush (-2), 2) := by decide +kernel
theorem dX5_improve_4 : decode cX5_improve 4 = .ok (.istore_n 3, 1) := by decide +kernel
theorem dX5_improve_5 : decode cX5_improve 5 = .ok (.bipush (-2), 2) := by decide +kernel
theorem dX5_improve_7 : decode cX5_improve 7 = .ok (.istore 4, 2) := by decide +kernel
theorem dX5_improve_9 : decode cX5_improve 9 = .ok (.iconst 0, 1) := by decide +kernel
theorem dX5_improve_10 : decode cX5_improve 10 = .ok (.istore 5, 2) := by decide +kernel
theorem dX5_improve_12 : decode cX5_improve 12 = .ok (.iload 5, 2) := by decide +kernel
theorem dX5_improve_14 : decode cX5_improve 14 = .ok (.aload_n 0, 1) := by decide +kernel
theorem dX5_improve_15 : decode cX5_improve 15 = .ok (.getfield 9, 3) := by decide +kernel
theorem dX5_improve_18 : decode cX5_improve 18 = .ok (.getfield 25, 3) := by decide +kernel
theorem dX5_improve_21 : decode cX5_improve 21 = .ok (.if_icmp .ge 108, 3) := by decide +kernel
theorem dX5_improve_24 : decode cX5_improve 24 = .ok (.aload_n 0, 1) := by decide +kernel
theorem dX5_improve_25 : decode cX5_improve 25 = .ok (.aload_n 1, 1) := by decide +kernel
theorem dX5_improve_26 : decode cX5_improve 26 = .ok (.iload 5, 2) := by decide +kernel
theorem dX5_improve_28 : decode cX5_improve 28 = .ok (.invokevirtual 29, 3) := by decide +kernel
theorem dX5_improve_31 : decode cX5_improve 31 = .ok (.ifCond .ne 6, 3) := by decide +kernel
theorem dX5_improve_34 : decode cX5_improve 34 = .ok (.goto 89, 3) := by decide +kernel
theorem dX5_improve_37 : decode cX5_improve 37 = .ok (.aload_n 0, 1) := by decide +kernel
theorem dX5_improve_38 : decode cX5_improve 38 = .ok (.getfield 9, 3) := by decide +kernel
theorem dX5_improve_41 : decode cX5_improve 41 = .ok (.iload 5, 2) := by decide +kernel
theorem dX5_improve_43 : decode cX5_improve 43 = .ok (.invokevirtual 33, 3) := by decide +kernel
theorem dX5_improve_46 : decode cX5_improve 46 = .ok (.istore 6, 2) := by decide +kernel
theorem dX5_improve_48 : decode cX5_improve 48 = .ok (.aload_n 0, 1) := by decide +kernel
theorem dX5_improve_49 : decode cX5_improve 49 = .ok (.getfield 15, 3) := by decide +kernel
theorem dX5_improve_52 : decode cX5_improve 52 = .ok (.aload_n 1, 1) := by decide +kernel
theorem dX5_improve_53 : decode cX5_improve 53 = .ok (.iload 5, 2) := by decide +kernel
theorem dX5_improve_55 : decode cX5_improve 55 = .ok (.invokevirtual 37, 3) := by decide +kernel
theorem dX5_improve_58 : decode cX5_improve 58 = .ok (.astore 7, 2) := by decide +kernel
theorem dX5_improve_60 : decode cX5_improve 60 = .ok (.aload 7, 2) := by decide +kernel
theorem dX5_improve_62 : decode cX5_improve 62 = .ok (.aload_n 1, 1) := by decide +kernel
theorem dX5_improve_63 : decode cX5_improve 63 = .ok (.iload 5, 2) := by decide +kernel
theorem dX5_improve_65 : decode cX5_improve 65 = .ok (.iaload, 1) := by decide +kernel
theorem dX5_improve_66 : decode cX5_improve 66 = .ok (.iaload, 1) := by decide +kernel
theorem dX5_improve_67 : decode cX5_improve 67 = .ok (.istore 8, 2) := by decide +kernel
theorem dX5_improve_69 : decode cX5_improve 69 = .ok (.iconst 0, 1) := by decide +kernel
theorem dX5_improve_70 : decode cX5_improve 70 = .ok (.istore 9, 2) := by decide +kernel
theorem dX5_improve_72 : decode cX5_improve 72 = .ok (.iload 9, 2) := by decide +kernel
theorem dX5_improve_74 : decode cX5_improve 74 = .ok (.bipush 30, 2) := by decide +kernel
theorem dX5_improve_76 : decode cX5_improve 76 = .ok (.if_icmp .ge 47, 3) := by decide +kernel
theorem dX5_improve_79 : decode cX5_improve 79 = .ok (.iload 6, 2) := by decide +kernel
theorem dX5_improve_81 : decode cX5_improve 81 = .ok (.iload 9, 2) := by decide +kernel
theorem dX5_improve_83 : decode cX5_improve 83 = .ok (.iushr, 1) := by decide +kernel
theorem dX5_improve_84 : decode cX5_improve 84 = .ok (.iconst 1, 1) := by decide +kernel
theorem dX5_improve_85 : decode cX5_improve 85 = .ok (.iand, 1) := by decide +kernel
theorem dX5_improve_86 : decode cX5_improve 86 = .ok (.ifCond .eq 31, 3) := by decide +kernel
theorem dX5_improve_89 : decode cX5_improve 89 = .ok (.iload 8, 2) := by decide +kernel
theorem dX5_improve_91 : decode cX5_improve 91 = .ok (.aload 7, 2) := by decide +kernel
theorem dX5_improve_93 : decode cX5_improve 93 = .ok (.iload 9, 2) := by decide +kernel
theorem dX5_improve_95 : decode cX5_improve 95 = .ok (.iaload, 1) := by decide +kernel
theorem dX5_improve_96 : decode cX5_improve 96 = .ok (.isub, 1) := by decide +kernel
theorem dX5_improve_97 : decode cX5_improve 97 = .ok (.iload_n 2, 1) := by decide +kernel
theorem dX5_improve_98 : decode cX5_improve 98 = .ok (.if_icmp .le 19, 3) := by decide +kernel
theorem dX5_improve_101 : decode cX5_improve 101 = .ok (.iload 8, 2) := by decide +kernel
theorem dX5_improve_103 : decode cX5_improve 103 = .ok (.aload 7, 2) := by decide +kernel
theorem dX5_improve_105 : decode cX5_improve 105 = .ok (.iload 9, 2) := by decide +kernel
theorem dX5_improve_107 : decode cX5_improve 107 = .ok (.iaload, 1) := by decide +kernel
theorem dX5_improve_108 : decode cX5_improve 108 = .ok (.isub, 1) := by decide +kernel
theorem dX5_improve_109 : decode cX5_improve 109 = .ok (.istore_n 2, 1) := by decide +kernel
theorem dX5_improve_110 : decode cX5_improve 110 = .ok (.iload 5, 2) := by decide +kernel
theorem dX5_improve_112 : decode cX5_improve 112 = .ok (.istore_n 3, 1) := by decide +kernel
theorem dX5_improve_113 : decode cX5_improve 113 = .ok (.iload 9, 2) := by decide +kernel
theorem dX5_improve_115 : decode cX5_improve 115 = .ok (.istore 4, 2) := by decide +kernel
theorem dX5_improve_117 : decode cX5_improve 117 = .ok (.iinc 9 1, 3) := by decide +kernel
theorem dX5_improve_120 : decode cX5_improve 120 = .ok (.goto (-48), 3) := by decide +kernel
theorem dX5_improve_123 : decode cX5_improve 123 = .ok (.iinc 5 1, 3) := by decide +kernel
theorem dX5_improve_126 : decode cX5_improve 126 = .ok (.goto (-114), 3) := by decide +kernel
theorem dX5_improve_129 : decode cX5_improve 129 = .ok (.iload_n 3, 1) := by decide +kernel
theorem dX5_improve_130 : decode cX5_improve 130 = .ok (.ifCond .ge 5, 3) := by decide +kernel
theorem dX5_improve_133 : decode cX5_improve 133 = .ok (.iconst 0, 1) := by decide +kernel
theorem dX5_improve_134 : decode cX5_improve 134 = .ok (.ireturn, 1) := by decide +kernel
theorem dX5_improve_135 : decode cX5_improve 135 = .ok (.aload_n 1, 1) := by decide +kernel
theorem dX5_improve_136 : decode cX5_improve 136 = .ok (.iload_n 3, 1) := by decide +kernel
theorem dX5_improve_137 : decode cX5_improve 137 = .ok (.iload 4, 2) := by decide +kernel
theorem dX5_improve_139 : decode cX5_improve 139 = .ok (.iastore, 1) := by decide +kernel
theorem dX5_improve_140 : decode cX5_improve 140 = .ok (.iconst 1, 1) := by decide +kernel
theorem dX5_improve_141 : decode cX5_improve 141 = .ok (.ireturn, 1) := by decide +kernel
theorem dX5_changeOne_0 : decode cX5_changeOne 0 = .ok (.iconst 0, 1) := by decide +kernel
theorem dX5_changeOne_1 : decode cX5_changeOne 1 = .ok (.istore_n 2, 1) := by decide +kernel
theorem dX5_changeOne_2 : decode cX5_changeOne 2 = .ok (.iload_n 2, 1) := by decide +kernel
theorem dX5_changeOne_3 : decode cX5_changeOne 3 = .ok (.aload_n 0, 1) := by decide +kernel
theorem dX5_changeOne_4 : decode cX5_changeOne 4 = .ok (.getfield 9, 3) := by decide +kernel
theorem dX5_changeOne_7 : decode cX5_changeOne 7 = .ok (.getfield 25, 3) := by decide +kernel
theorem dX5_changeOne_10 : decode cX5_changeOne 10 = .ok (.if_icmp .ge 68, 3) := by decide +kernel
theorem dX5_changeOne_13 : decode cX5_changeOne 13 = .ok (.aload_n 0, 1) := by decide +kernel
theorem dX5_changeOne_14 : decode cX5_changeOne 14 = .ok (.aload_n 1, 1) := by decide +kernel
theorem dX5_changeOne_15 : decode cX5_changeOne 15 = .ok (.iload_n 2, 1) := by decide +kernel
theorem dX5_changeOne_16 : decode cX5_changeOne 16 = .ok (.invokevirtual 29, 3) := by decide +kernel
theorem dX5_changeOne_19 : decode cX5_changeOne 19 = .ok (.ifCond .ne 6, 3) := by decide +kernel
theorem dX5_changeOne_22 : decode cX5_changeOne 22 = .ok (.goto 50, 3) := by decide +kernel
theorem dX5_changeOne_25 : decode cX5_changeOne 25 = .ok (.aload_n 1, 1) := by decide +kernel
theorem dX5_changeOne_26 : decode cX5_changeOne 26 = .ok (.iload_n 2, 1) := by decide +kernel
theorem dX5_changeOne_27 : decode cX5_changeOne 27 = .ok (.iaload, 1) := by decide +kernel
theorem dX5_changeOne_28 : decode cX5_changeOne 28 = .ok (.istore_n 3, 1) := by decide +kernel
theorem dX5_changeOne_29 : decode cX5_changeOne 29 = .ok (.aload_n 1, 1) := by decide +kernel
theorem dX5_changeOne_30 : decode cX5_changeOne 30 = .ok (.iload_n 2, 1) := by decide +kernel
theorem dX5_changeOne_31 : decode cX5_changeOne 31 = .ok (.bipush (-2), 2) := by decide +kernel
theorem dX5_changeOne_33 : decode cX5_changeOne 33 = .ok (.iastore, 1) := by decide +kernel
theorem dX5_changeOne_34 : decode cX5_changeOne 34 = .ok (.aload_n 1, 1) := by decide +kernel
theorem dX5_changeOne_35 : decode cX5_changeOne 35 = .ok (.iload_n 2, 1) := by decide +kernel
theorem dX5_changeOne_36 : decode cX5_changeOne 36 = .ok (.aload_n 0, 1) := by decide +kernel
theorem dX5_changeOne_37 : decode cX5_changeOne 37 = .ok (.getfield 15, 3) := by decide +kernel
theorem dX5_changeOne_40 : decode cX5_changeOne 40 = .ok (.aload_n 1, 1) := by decide +kernel
theorem dX5_changeOne_41 : decode cX5_changeOne 41 = .ok (.invokevirtual 43, 3) := by decide +kernel
theorem dX5_changeOne_44 : decode cX5_changeOne 44 = .ok (.ifCond .eq 13, 3) := by decide +kernel
theorem dX5_changeOne_47 : decode cX5_changeOne 47 = .ok (.aload_n 0, 1) := by decide +kernel
theorem dX5_changeOne_48 : decode cX5_changeOne 48 = .ok (.aload_n 1, 1) := by decide +kernel
theorem dX5_changeOne_49 : decode cX5_changeOne 49 = .ok (.iload_n 2, 1) := by decide +kernel
theorem dX5_changeOne_50 : decode cX5_changeOne 50 = .ok (.iload_n 3, 1) := by decide +kernel
theorem dX5_changeOne_51 : decode cX5_changeOne 51 = .ok (.invokevirtual 47, 3) := by decide +kernel
theorem dX5_changeOne_54 : decode cX5_changeOne 54 = .ok (.goto 5, 3) := by decide +kernel
theorem dX5_changeOne_57 : decode cX5_changeOne 57 = .ok (.bipush (-2), 2) := by decide +kernel
theorem dX5_changeOne_59 : decode cX5_changeOne 59 = .ok (.iastore, 1) := by decide +kernel
theorem dX5_changeOne_60 : decode cX5_changeOne 60 = .ok (.aload_n 1, 1) := by decide +kernel
theorem dX5_changeOne_61 : decode cX5_changeOne 61 = .ok (.iload_n 2, 1) := by decide +kernel
theorem dX5_changeOne_62 : decode cX5_changeOne 62 = .ok (.iaload, 1) := by decide +kernel
theorem dX5_changeOne_63 : decode cX5_changeOne 63 = .ok (.ifCond .lt 5, 3) := by decide +kernel
theorem dX5_changeOne_66 : decode cX5_changeOne 66 = .ok (.iconst 1, 1) := by decide +kernel
theorem dX5_changeOne_67 : decode cX5_changeOne 67 = .ok (.ireturn, 1) := by decide +kernel
theorem dX5_changeOne_68 : decode cX5_changeOne 68 = .ok (.aload_n 1, 1) := by decide +kernel
theorem dX5_changeOne_69 : decode cX5_changeOne 69 = .ok (.iload_n 2, 1) := by decide +kernel
theorem dX5_changeOne_70 : decode cX5_changeOne 70 = .ok (.iload_n 3, 1) := by decide +kernel
theorem dX5_changeOne_71 : decode cX5_changeOne 71 = .ok (.iastore, 1) := by decide +kernel
theorem dX5_changeOne_72 : decode cX5_changeOne 72 = .ok (.iinc 2 1, 3) := by decide +kernel
theorem dX5_changeOne_75 : decode cX5_changeOne 75 = .ok (.goto (-73), 3) := by decide +kernel
theorem dX5_changeOne_78 : decode cX5_changeOne 78 = .ok (.iconst 0, 1) := by decide +kernel
theorem dX5_changeOne_79 : decode cX5_changeOne 79 = .ok (.ireturn, 1) := by decide +kernel
theorem dX5_changeTwo_0 : decode cX5_changeTwo 0 = .ok (.iconst 0, 1) := by decide +kernel
theorem dX5_changeTwo_1 : decode cX5_changeTwo 1 = .ok (.istore_n 2, 1) := by decide +kernel
theorem dX5_changeTwo_2 : decode cX5_changeTwo 2 = .ok (.iload_n 2, 1) := by decide +kernel
theorem dX5_changeTwo_3 : decode cX5_changeTwo 3 = .ok (.aload_n 0, 1) := by decide +kernel
theorem dX5_changeTwo_4 : decode cX5_changeTwo 4 = .ok (.getfield 9, 3) := by decide +kernel
theorem dX5_changeTwo_7 : decode cX5_changeTwo 7 = .ok (.getfield 25, 3) := by decide +kernel
theorem dX5_changeTwo_10 : decode cX5_changeTwo 10 = .ok (.if_icmp .ge 60, 3) := by decide +kernel
theorem dX5_changeTwo_13 : decode cX5_changeTwo 13 = .ok (.iload_n 2, 1) := by decide +kernel
theorem dX5_changeTwo_14 : decode cX5_changeTwo 14 = .ok (.iconst 1, 1) := by decide +kernel
theorem dX5_changeTwo_15 : decode cX5_changeTwo 15 = .ok (.iadd, 1) := by decide +kernel
theorem dX5_changeTwo_16 : decode cX5_changeTwo 16 = .ok (.istore_n 3, 1) := by decide +kernel
theorem dX5_changeTwo_17 : decode cX5_changeTwo 17 = .ok (.iload_n 3, 1) := by decide +kernel
theorem dX5_changeTwo_18 : decode cX5_changeTwo 18 = .ok (.aload_n 0, 1) := by decide +kernel
theorem dX5_changeTwo_19 : decode cX5_changeTwo 19 = .ok (.getfield 9, 3) := by decide +kernel
theorem dX5_changeTwo_22 : decode cX5_changeTwo 22 = .ok (.getfield 25, 3) := by decide +kernel
theorem dX5_changeTwo_25 : decode cX5_changeTwo 25 = .ok (.if_icmp .ge 39, 3) := by decide +kernel
theorem dX5_changeTwo_28 : decode cX5_changeTwo 28 = .ok (.aload_n 0, 1) := by decide +kernel
theorem dX5_changeTwo_29 : decode cX5_changeTwo 29 = .ok (.aload_n 1, 1) := by decide +kernel
theorem dX5_changeTwo_30 : decode cX5_changeTwo 30 = .ok (.iload_n 2, 1) := by decide +kernel
theorem dX5_changeTwo_31 : decode cX5_changeTwo 31 = .ok (.invokevirtual 29, 3) := by decide +kernel
theorem dX5_changeTwo_34 : decode cX5_changeTwo 34 = .ok (.ifCond .eq 24, 3) := by decide +kernel
theorem dX5_changeTwo_37 : decode cX5_changeTwo 37 = .ok (.aload_n 0, 1) := by decide +kernel
theorem dX5_changeTwo_38 : decode cX5_changeTwo 38 = .ok (.aload_n 1, 1) := by decide +kernel
theorem dX5_changeTwo_39 : decode cX5_changeTwo 39 = .ok (.iload_n 3, 1) := by decide +kernel
theorem dX5_changeTwo_40 : decode cX5_changeTwo 40 = .ok (.invokevirtual 29, 3) := by decide +kernel
theorem dX5_changeTwo_43 : decode cX5_changeTwo 43 = .ok (.ifCond .eq 15, 3) := by decide +kernel
theorem dX5_changeTwo_46 : decode cX5_changeTwo 46 = .ok (.aload_n 0, 1) := by decide +kernel
theorem dX5_changeTwo_47 : decode cX5_changeTwo 47 = .ok (.aload_n 1, 1) := by decide +kernel
theorem dX5_changeTwo_48 : decode cX5_changeTwo 48 = .ok (.iload_n 2, 1) := by decide +kernel
theorem dX5_changeTwo_49 : decode cX5_changeTwo 49 = .ok (.iload_n 3, 1) := by decide +kernel
theorem dX5_changeTwo_50 : decode cX5_changeTwo 50 = .ok (.invokevirtual 51, 3) := by decide +kernel
theorem dX5_changeTwo_53 : decode cX5_changeTwo 53 = .ok (.ifCond .eq 5, 3) := by decide +kernel
theorem dX5_changeTwo_56 : decode cX5_changeTwo 56 = .ok (.iconst 1, 1) := by decide +kernel
theorem dX5_changeTwo_57 : decode cX5_changeTwo 57 = .ok (.ireturn, 1) := by decide +kernel
theorem dX5_changeTwo_58 : decode cX5_changeTwo 58 = .ok (.iinc 3 1, 3) := by decide +kernel
theorem dX5_changeTwo_61 : decode cX5_changeTwo 61 = .ok (.goto (-44), 3) := by decide +kernel
theorem dX5_changeTwo_64 : decode cX5_changeTwo 64 = .ok (.iinc 2 1, 3) := by decide +kernel
theorem dX5_changeTwo_67 : decode cX5_changeTwo 67 = .ok (.goto (-65), 3) := by decide +kernel
theorem dX5_changeTwo_70 : decode cX5_changeTwo 70 = .ok (.iconst 0, 1) := by decide +kernel
theorem dX5_changeTwo_71 : decode cX5_changeTwo 71 = .ok (.ireturn, 1) := by decide +kernel
theorem dX5_changeBoth_0 : decode cX5_changeBoth 0 = .ok (.aload_n 1, 1) := by decide +kernel
theorem dX5_changeBoth_1 : decode cX5_changeBoth 1 = .ok (.iload_n 2, 1) := by decide +kernel
theorem dX5_changeBoth_2 : decode cX5_changeBoth 2 = .ok (.iaload, 1) := by decide +kernel
theorem dX5_changeBoth_3 : decode cX5_changeBoth 3 = .ok (.istore 4, 2) := by decide +kernel
theorem dX5_changeBoth_5 : decode cX5_changeBoth 5 = .ok (.aload_n 1, 1) := by decide +kernel
theorem dX5_changeBoth_6 : decode cX5_changeBoth 6 = .ok (.iload_n 3, 1) := by decide +kernel
theorem dX5_changeBoth_7 : decode cX5_changeBoth 7 = .ok (.iaload, 1) := by decide +kernel
theorem dX5_changeBoth_8 : decode cX5_changeBoth 8 = .ok (.istore 5, 2) := by decide +kernel
theorem dX5_changeBoth_10 : decode cX5_changeBoth 10 = .ok (.aload_n 1, 1) := by decide +kernel
theorem dX5_changeBoth_11 : decode cX5_changeBoth 11 = .ok (.iload_n 2, 1) := by decide +kernel
theorem dX5_changeBoth_12 : decode cX5_changeBoth 12 = .ok (.bipush (-2), 2) := by decide +kernel
theorem dX5_changeBoth_14 : decode cX5_changeBoth 14 = .ok (.iastore, 1) := by decide +kernel
theorem dX5_changeBoth_15 : decode cX5_changeBoth 15 = .ok (.aload_n 1, 1) := by decide +kernel
theorem dX5_changeBoth_16 : decode cX5_changeBoth 16 = .ok (.iload_n 3, 1) := by decide +kernel
theorem dX5_changeBoth_17 : decode cX5_changeBoth 17 = .ok (.bipush (-2), 2) := by decide +kernel
theorem dX5_changeBoth_19 : decode cX5_changeBoth 19 = .ok (.iastore, 1) := by decide +kernel
theorem dX5_changeBoth_20 : decode cX5_changeBoth 20 = .ok (.aload_n 0, 1) := by decide +kernel
theorem dX5_changeBoth_21 : decode cX5_changeBoth 21 = .ok (.getfield 15, 3) := by decide +kernel
theorem dX5_changeBoth_24 : decode cX5_changeBoth 24 = .ok (.aload_n 1, 1) := by decide +kernel
theorem dX5_changeBoth_25 : decode cX5_changeBoth 25 = .ok (.invokevirtual 43, 3) := by decide +kernel
theorem dX5_changeBoth_28 : decode cX5_changeBoth 28 = .ok (.ifCond .eq 29, 3) := by decide +kernel
theorem dX5_changeBoth_31 : decode cX5_changeBoth 31 = .ok (.aload_n 0, 1) := by decide +kernel
theorem dX5_changeBoth_32 : decode cX5_changeBoth 32 = .ok (.getfield 15, 3) := by decide +kernel
theorem dX5_changeBoth_35 : decode cX5_changeBoth 35 = .ok (.aload_n 1, 1) := by decide +kernel
theorem dX5_changeBoth_36 : decode cX5_changeBoth 36 = .ok (.iload_n 2, 1) := by decide +kernel
theorem dX5_changeBoth_37 : decode cX5_changeBoth 37 = .ok (.aload_n 0, 1) := by decide +kernel
theorem dX5_changeBoth_38 : decode cX5_changeBoth 38 = .ok (.getfield 9, 3) := by decide +kernel
theorem dX5_changeBoth_41 : decode cX5_changeBoth 41 = .ok (.getfield 25, 3) := by decide +kernel
theorem dX5_changeBoth_44 : decode cX5_changeBoth 44 = .ok (.invokevirtual 55, 3) := by decide +kernel
theorem dX5_changeBoth_47 : decode cX5_changeBoth 47 = .ok (.iconst 1, 1) := by decide +kernel
theorem dX5_changeBoth_48 : decode cX5_changeBoth 48 = .ok (.iload 4, 2) := by decide +kernel
theorem dX5_changeBoth_50 : decode cX5_changeBoth 50 = .ok (.ishl, 1) := by decide +kernel
theorem dX5_changeBoth_51 : decode cX5_changeBoth 51 = .ok (.iconst (-1), 1) := by decide +kernel
theorem dX5_changeBoth_52 : decode cX5_changeBoth 52 = .ok (.ixor, 1) := by decide +kernel
theorem dX5_changeBoth_53 : decode cX5_changeBoth 53 = .ok (.iand, 1) := by decide +kernel
theorem dX5_changeBoth_54 : decode cX5_changeBoth 54 = .ok (.goto 4, 3) := by decide +kernel
theorem dX5_changeBoth_57 : decode cX5_changeBoth 57 = .ok (.iconst 0, 1) := by decide +kernel
theorem dX5_changeBoth_58 : decode cX5_changeBoth 58 = .ok (.istore 6, 2) := by decide +kernel
theorem dX5_changeBoth_60 : decode cX5_changeBoth 60 = .ok (.iconst 0, 1) := by decide +kernel
theorem dX5_changeBoth_61 : decode cX5_changeBoth 61 = .ok (.istore 7, 2) := by decide +kernel
theorem dX5_changeBoth_63 : decode cX5_changeBoth 63 = .ok (.iload 7, 2) := by decide +kernel
theorem dX5_changeBoth_65 : decode cX5_changeBoth 65 = .ok (.bipush 30, 2) := by decide +kernel
theorem dX5_changeBoth_67 : decode cX5_changeBoth 67 = .ok (.if_icmp .ge 46, 3) := by decide +kernel
theorem dX5_changeBoth_70 : decode cX5_changeBoth 70 = .ok (.iload 6, 2) := by decide +kernel
theorem dX5_changeBoth_72 : decode cX5_changeBoth 72 = .ok (.iload 7, 2) := by decide +kernel
theorem dX5_changeBoth_74 : decode cX5_changeBoth 74 = .ok (.iushr, 1) := by decide +kernel
theorem dX5_changeBoth_75 : decode cX5_changeBoth 75 = .ok (.iconst 1, 1) := by decide +kernel
theorem dX5_changeBoth_76 : decode cX5_changeBoth 76 = .ok (.iand, 1) := by decide +kernel
theorem dX5_changeBoth_77 : decode cX5_changeBoth 77 = .ok (.ifCond .ne 6, 3) := by decide +kernel
theorem dX5_changeBoth_80 : decode cX5_changeBoth 80 = .ok (.goto 27, 3) := by decide +kernel
theorem dX5_changeBoth_83 : decode cX5_changeBoth 83 = .ok (.aload_n 1, 1) := by decide +kernel
theorem dX5_changeBoth_84 : decode cX5_changeBoth 84 = .ok (.iload_n 2, 1) := by decide +kernel
theorem dX5_changeBoth_85 : decode cX5_changeBoth 85 = .ok (.iload 7, 2) := by decide +kernel
theorem dX5_changeBoth_87 : decode cX5_changeBoth 87 = .ok (.iastore, 1) := by decide +kernel
theorem dX5_changeBoth_88 : decode cX5_changeBoth 88 = .ok (.aload_n 1, 1) := by decide +kernel
theorem dX5_changeBoth_89 : decode cX5_changeBoth 89 = .ok (.iload_n 3, 1) := by decide +kernel
theorem dX5_changeBoth_90 : decode cX5_changeBoth 90 = .ok (.aload_n 0, 1) := by decide +kernel
theorem dX5_changeBoth_91 : decode cX5_changeBoth 91 = .ok (.aload_n 1, 1) := by decide +kernel
theorem dX5_changeBoth_92 : decode cX5_changeBoth 92 = .ok (.iload_n 3, 1) := by decide +kernel
theorem dX5_changeBoth_93 : decode cX5_changeBoth 93 = .ok (.iload 5, 2) := by decide +kernel
theorem dX5_changeBoth_95 : decode cX5_changeBoth 95 = .ok (.invokevirtual 47, 3) := by decide +kernel
theorem dX5_changeBoth_98 : decode cX5_changeBoth 98 = .ok (.iastore, 1) := by decide +kernel
theorem dX5_changeBoth_99 : decode cX5_changeBoth 99 = .ok (.aload_n 1, 1) := by decide +kernel
theorem dX5_changeBoth_100 : decode cX5_changeBoth 100 = .ok (.iload_n 3, 1) := by decide +kernel
theorem dX5_changeBoth_101 : decode cX5_changeBoth 101 = .ok (.iaload, 1) := by decide +kernel
theorem dX5_changeBoth_102 : decode cX5_changeBoth 102 = .ok (.ifCond .lt 5, 3) := by decide +kernel
theorem dX5_changeBoth_105 : decode cX5_changeBoth 105 = .ok (.iconst 1, 1) := by decide +kernel
theorem dX5_changeBoth_106 : decode cX5_changeBoth 106 = .ok (.ireturn, 1) := by decide +kernel
theorem dX5_changeBoth_107 : decode cX5_changeBoth 107 = .ok (.iinc 7 1, 3) := by decide +kernel
theorem dX5_changeBoth_110 : decode cX5_changeBoth 110 = .ok (.goto (-47), 3) := by decide +kernel
theorem dX5_changeBoth_113 : decode cX5_changeBoth 113 = .ok (.aload_n 1, 1) := by decide +kernel
theorem dX5_changeBoth_114 : decode cX5_changeBoth 114 = .ok (.iload_n 2, 1) := by decide +kernel
theorem dX5_changeBoth_115 : decode cX5_changeBoth 115 = .ok (.iload 4, 2) := by decide +kernel
theorem dX5_changeBoth_117 : decode cX5_changeBoth 117 = .ok (.iastore, 1) := by decide +kernel
theorem dX5_changeBoth_118 : decode cX5_changeBoth 118 = .ok (.aload_n 1, 1) := by decide +kernel
theorem dX5_changeBoth_119 : decode cX5_changeBoth 119 = .ok (.iload_n 3, 1) := by decide +kernel
theorem dX5_changeBoth_120 : decode cX5_changeBoth 120 = .ok (.iload 5, 2) := by decide +kernel
theorem dX5_changeBoth_122 : decode cX5_changeBoth 122 = .ok (.iastore, 1) := by decide +kernel
theorem dX5_changeBoth_123 : decode cX5_changeBoth 123 = .ok (.iconst 0, 1) := by decide +kernel
theorem dX5_changeBoth_124 : decode cX5_changeBoth 124 = .ok (.ireturn, 1) := by decide +kernel
theorem dX5_leastFree_0 : decode cX5_leastFree 0 = .ok (.aload_n 0, 1) := by decide +kernel
theorem dX5_leastFree_1 : decode cX5_leastFree 1 = .ok (.getfield 15, 3) := by decide +kernel
theorem dX5_leastFree_4 : decode cX5_leastFree 4 = .ok (.aload_n 1, 1) := by decide +kernel
theorem dX5_leastFree_5 : decode cX5_leastFree 5 = .ok (.iload_n 2, 1) := by decide +kernel
theorem dX5_leastFree_6 : decode cX5_leastFree 6 = .ok (.aload_n 0, 1) := by decide +kernel
theorem dX5_leastFree_7 : decode cX5_leastFree 7 = .ok (.getfield 9, 3) := by decide +kernel
theorem dX5_leastFree_10 : decode cX5_leastFree 10 = .ok (.getfield 25, 3) := by decide +kernel
theorem dX5_leastFree_13 : decode cX5_leastFree 13 = .ok (.invokevirtual 55, 3) := by decide +kernel
theorem dX5_leastFree_16 : decode cX5_leastFree 16 = .ok (.iconst 1, 1) := by decide +kernel
theorem dX5_leastFree_17 : decode cX5_leastFree 17 = .ok (.iload_n 3, 1) := by decide +kernel
theorem dX5_leastFree_18 : decode cX5_leastFree 18 = .ok (.ishl, 1) := by decide +kernel
theorem dX5_leastFree_19 : decode cX5_leastFree 19 = .ok (.iconst (-1), 1) := by decide +kernel
theorem dX5_leastFree_20 : decode cX5_leastFree 20 = .ok (.ixor, 1) := by decide +kernel
theorem dX5_leastFree_21 : decode cX5_leastFree 21 = .ok (.iand, 1) := by decide +kernel
theorem dX5_leastFree_22 : decode cX5_leastFree 22 = .ok (.istore 4, 2) := by decide +kernel
theorem dX5_leastFree_24 : decode cX5_leastFree 24 = .ok (.iconst 0, 1) := by decide +kernel
theorem dX5_leastFree_25 : decode cX5_leastFree 25 = .ok (.istore 5, 2) := by decide +kernel
theorem dX5_leastFree_27 : decode cX5_leastFree 27 = .ok (.iload 5, 2) := by decide +kernel
theorem dX5_leastFree_29 : decode cX5_leastFree 29 = .ok (.bipush 30, 2) := by decide +kernel
theorem dX5_leastFree_31 : decode cX5_leastFree 31 = .ok (.if_icmp .ge 22, 3) := by decide +kernel
theorem dX5_leastFree_34 : decode cX5_leastFree 34 = .ok (.iload 4, 2) := by decide +kernel
theorem dX5_leastFree_36 : decode cX5_leastFree 36 = .ok (.iload 5, 2) := by decide +kernel
theorem dX5_leastFree_38 : decode cX5_leastFree 38 = .ok (.iushr, 1) := by decide +kernel
theorem dX5_leastFree_39 : decode cX5_leastFree 39 = .ok (.iconst 1, 1) := by decide +kernel
theorem dX5_leastFree_40 : decode cX5_leastFree 40 = .ok (.iand, 1) := by decide +kernel
theorem dX5_leastFree_41 : decode cX5_leastFree 41 = .ok (.ifCond .eq 6, 3) := by decide +kernel
theorem dX5_leastFree_44 : decode cX5_leastFree 44 = .ok (.iload 5, 2) := by decide +kernel
theorem dX5_leastFree_46 : decode cX5_leastFree 46 = .ok (.ireturn, 1) := by decide +kernel
theorem dX5_leastFree_47 : decode cX5_leastFree 47 = .ok (.iinc 5 1, 3) := by decide +kernel
theorem dX5_leastFree_50 : decode cX5_leastFree 50 = .ok (.goto (-23), 3) := by decide +kernel
theorem dX5_leastFree_53 : decode cX5_leastFree 53 = .ok (.bipush (-2), 2) := by decide +kernel
theorem dX5_leastFree_55 : decode cX5_leastFree 55 = .ok (.ireturn, 1) := by decide +kernel
end
section
theorem dX0_isCrowd_0 : decode cX0_isCrowd 0 = .ok (.iconst 0, 1) := by decide +kernel
theorem dX0_isCrowd_1 : decode cX0_isCrowd 1 = .ok (.istore_n 2, 1) := by decide +kernel
theorem dX0_isCrowd_2 : decode cX0_isCrowd 2 = .ok (.iload_n 2, 1) := by decide +kernel
theorem dX0_isCrowd_3 : decode cX0_isCrowd 3 = .ok (.aload_n 0, 1) := by decide +kernel
theorem dX0_isCrowd_4 : decode cX0_isCrowd 4 = .ok (.getfield 18, 3) := by decide +kernel
theorem dX0_isCrowd_7 : decode cX0_isCrowd 7 = .ok (.getfield 22, 3) := by decide +kernel
theorem dX0_isCrowd_10 : decode cX0_isCrowd 10 = .ok (.if_icmp .ge 34, 3) := by decide +kernel
theorem dX0_isCrowd_13 : decode cX0_isCrowd 13 = .ok (.iload_n 1, 1) := by decide +kernel
theorem dX0_isCrowd_14 : decode cX0_isCrowd 14 = .ok (.iload_n 2, 1) := by decide +kernel
theorem dX0_isCrowd_15 : decode cX0_isCrowd 15 = .ok (.iushr, 1) := by decide +kernel
theorem dX0_isCrowd_16 : decode cX0_isCrowd 16 = .ok (.iconst 1, 1) := by decide +kernel
theorem dX0_isCrowd_17 : decode cX0_isCrowd 17 = .ok (.iand, 1) := by decide +kernel
theorem dX0_isCrowd_18 : decode cX0_isCrowd 18 = .ok (.ifCond .eq 20, 3) := by decide +kernel
theorem dX0_isCrowd_21 : decode cX0_isCrowd 21 = .ok (.aload_n 0, 1) := by decide +kernel
theorem dX0_isCrowd_22 : decode cX0_isCrowd 22 = .ok (.iload_n 2, 1) := by decide +kernel
theorem dX0_isCrowd_23 : decode cX0_isCrowd 23 = .ok (.iload_n 1, 1) := by decide +kernel
theorem dX0_isCrowd_24 : decode cX0_isCrowd 24 = .ok (.iconst 1, 1) := by decide +kernel
theorem dX0_isCrowd_25 : decode cX0_isCrowd 25 = .ok (.iload_n 2, 1) := by decide +kernel
theorem dX0_isCrowd_26 : decode cX0_isCrowd 26 = .ok (.ishl, 1) := by decide +kernel
theorem dX0_isCrowd_27 : decode cX0_isCrowd 27 = .ok (.iconst (-1), 1) := by decide +kernel
theorem dX0_isCrowd_28 : decode cX0_isCrowd 28 = .ok (.ixor, 1) := by decide +kernel
theorem dX0_isCrowd_29 : decode cX0_isCrowd 29 = .ok (.iand, 1) := by decide +kernel
theorem dX0_isCrowd_30 : decode cX0_isCrowd 30 = .ok (.invokevirtual 28, 3) := by decide +kernel
theorem dX0_isCrowd_33 : decode cX0_isCrowd 33 = .ok (.ifCond .ne 5, 3) := by decide +kernel
theorem dX0_isCrowd_36 : decode cX0_isCrowd 36 = .ok (.iconst 0, 1) := by decide +kernel
theorem dX0_isCrowd_37 : decode cX0_isCrowd 37 = .ok (.ireturn, 1) := by decide +kernel
theorem dX0_isCrowd_38 : decode cX0_isCrowd 38 = .ok (.iinc 2 1, 3) := by decide +kernel
theorem dX0_isCrowd_41 : decode cX0_isCrowd 41 = .ok (.goto (-39), 3) := by decide +kernel
theorem dX0_isCrowd_44 : decode cX0_isCrowd 44 = .ok (.iconst 1, 1) := by decide +kernel
theorem dX0_isCrowd_45 : decode cX0_isCrowd 45 = .ok (.ireturn, 1) := by decide +kernel
theorem dX0_barsAll_0 : decode cX0_barsAll 0 = .ok (.iconst 0, 1) := by decide +kernel
theorem dX0_barsAll_1 : decode cX0_barsAll 1 = .ok (.istore_n 3, 1) := by decide +kernel
theorem dX0_barsAll_2 : decode cX0_barsAll 2 = .ok (.iload_n 3, 1) := by decide +kernel
theorem dX0_barsAll_3 : decode cX0_barsAll 3 = .ok (.aload_n 0, 1) := by decide +kernel
theorem dX0_barsAll_4 : decode cX0_barsAll 4 = .ok (.getfield 18, 3) := by decide +kernel
theorem dX0_barsAll_7 : decode cX0_barsAll 7 = .ok (.getfield 22, 3) := by decide +kernel
theorem dX0_barsAll_10 : decode cX0_barsAll 10 = .ok (.if_icmp .ge 31, 3) := by decide +kernel
theorem dX0_barsAll_13 : decode cX0_barsAll 13 = .ok (.iload_n 2, 1) := by decide +kernel
theorem dX0_barsAll_14 : decode cX0_barsAll 14 = .ok (.iload_n 3, 1) := by decide +kernel
theorem dX0_barsAll_15 : decode cX0_barsAll 15 = .ok (.iushr, 1) := by decide +kernel
theorem dX0_barsAll_16 : decode cX0_barsAll 16 = .ok (.iconst 1, 1) := by decide +kernel
theorem dX0_barsAll_17 : decode cX0_barsAll 17 = .ok (.iand, 1) := by decide +kernel
theorem dX0_barsAll_18 : decode cX0_barsAll 18 = .ok (.ifCond .eq 17, 3) := by decide +kernel
theorem dX0_barsAll_21 : decode cX0_barsAll 21 = .ok (.aload_n 0, 1) := by decide +kernel
theorem dX0_barsAll_22 : decode cX0_barsAll 22 = .ok (.getfield 18, 3) := by decide +kernel
theorem dX0_barsAll_25 : decode cX0_barsAll 25 = .ok (.iload_n 1, 1) := by decide +kernel
theorem dX0_barsAll_26 : decode cX0_barsAll 26 = .ok (.iload_n 3, 1) := by decide +kernel
theorem dX0_barsAll_27 : decode cX0_barsAll 27 = .ok (.invokevirtual 32, 3) := by decide +kernel
theorem dX0_barsAll_30 : decode cX0_barsAll 30 = .ok (.ifCond .ne 5, 3) := by decide +kernel
theorem dX0_barsAll_33 : decode cX0_barsAll 33 = .ok (.iconst 0, 1) := by decide +kernel
theorem dX0_barsAll_34 : decode cX0_barsAll 34 = .ok (.ireturn, 1) := by decide +kernel
theorem dX0_barsAll_35 : decode cX0_barsAll 35 = .ok (.iinc 3 1, 3) := by decide +kernel
theorem dX0_barsAll_38 : decode cX0_barsAll 38 = .ok (.goto (-36), 3) := by decide +kernel
theorem dX0_barsAll_41 : decode cX0_barsAll 41 = .ok (.iconst 1, 1) := by decide +kernel
theorem dX0_barsAll_42 : decode cX0_barsAll 42 = .ok (.ireturn, 1) := by decide +kernel
theorem dX0_wantsOf_0 : decode cX0_wantsOf 0 = .ok (.iconst 0, 1) := by decide +kernel
theorem dX0_wantsOf_1 : decode cX0_wantsOf 1 = .ok (.istore_n 2, 1) := by decide +kernel
theorem dX0_wantsOf_2 : decode cX0_wantsOf 2 = .ok (.iconst 0, 1) := by decide +kernel
theorem dX0_wantsOf_3 : decode cX0_wantsOf 3 = .ok (.istore_n 3, 1) := by decide +kernel
theorem dX0_wantsOf_4 : decode cX0_wantsOf 4 = .ok (.iload_n 3, 1) := by decide +kernel
theorem dX0_wantsOf_5 : decode cX0_wantsOf 5 = .ok (.aload_n 0, 1) := by decide +kernel
theorem dX0_wantsOf_6 : decode cX0_wantsOf 6 = .ok (.getfield 18, 3) := by decide +kernel
theorem dX0_wantsOf_9 : decode cX0_wantsOf 9 = .ok (.getfield 22, 3) := by decide +kernel
theorem dX0_wantsOf_12 : decode cX0_wantsOf 12 = .ok (.if_icmp .ge 36, 3) := by decide +kernel
theorem dX0_wantsOf_15 : decode cX0_wantsOf 15 = .ok (.iload_n 2, 1) := by decide +kernel
theorem dX0_wantsOf_16 : decode cX0_wantsOf 16 = .ok (.iload_n 1, 1) := by decide +kernel
theorem dX0_wantsOf_17 : decode cX0_wantsOf 17 = .ok (.iload_n 3, 1) := by decide +kernel
theorem dX0_wantsOf_18 : decode cX0_wantsOf 18 = .ok (.iushr, 1) := by decide +kernel
theorem dX0_wantsOf_19 : decode cX0_wantsOf 19 = .ok (.iconst 1, 1) := by decide +kernel
theorem dX0_wantsOf_20 : decode cX0_wantsOf 20 = .ok (.iand, 1) := by decide +kernel
theorem dX0_wantsOf_21 : decode cX0_wantsOf 21 = .ok (.ifCond .eq 18, 3) := by decide +kernel
theorem dX0_wantsOf_24 : decode cX0_wantsOf 24 = .ok (.aload_n 0, 1) := by decide +kernel
theorem dX0_wantsOf_25 : decode cX0_wantsOf 25 = .ok (.getfield 18, 3) := by decide +kernel
theorem dX0_wantsOf_28 : decode cX0_wantsOf 28 = .ok (.getfield 36, 3) := by decide +kernel
theorem dX0_wantsOf_31 : decode cX0_wantsOf 31 = .ok (.iload_n 3, 1) := by decide +kernel
theorem dX0_wantsOf_32 : decode cX0_wantsOf 32 = .ok (.aaload, 1) := by decide +kernel
theorem dX0_wantsOf_33 : decode cX0_wantsOf 33 = .ok (.getfield 40, 3) := by decide +kernel
theorem dX0_wantsOf_36 : decode cX0_wantsOf 36 = .ok (.goto 4, 3) := by decide +kernel
theorem dX0_wantsOf_39 : decode cX0_wantsOf 39 = .ok (.iconst 0, 1) := by decide +kernel
theorem dX0_wantsOf_40 : decode cX0_wantsOf 40 = .ok (.iadd, 1) := by decide +kernel
theorem dX0_wantsOf_41 : decode cX0_wantsOf 41 = .ok (.istore_n 2, 1) := by decide +kernel
theorem dX0_wantsOf_42 : decode cX0_wantsOf 42 = .ok (.iinc 3 1, 3) := by decide +kernel
theorem dX0_wantsOf_45 : decode cX0_wantsOf 45 = .ok (.goto (-41), 3) := by decide +kernel
theorem dX0_wantsOf_48 : decode cX0_wantsOf 48 = .ok (.iload_n 2, 1) := by decide +kernel
theorem dX0_wantsOf_49 : decode cX0_wantsOf 49 = .ok (.ireturn, 1) := by decide +kernel
theorem dX0_boundOf_0 : decode cX0_boundOf 0 = .ok (.iconst 0, 1) := by decide +kernel
theorem dX0_boundOf_1 : decode cX0_boundOf 1 = .ok (.istore_n 2, 1) := by decide +kernel
theorem dX0_boundOf_2 : decode cX0_boundOf 2 = .ok (.iconst 0, 1) := by decide +kernel
theorem dX0_boundOf_3 : decode cX0_boundOf 3 = .ok (.istore_n 3, 1) := by decide +kernel
theorem dX0_boundOf_4 : decode cX0_boundOf 4 = .ok (.iload_n 3, 1) := by decide +kernel
theorem dX0_boundOf_5 : decode cX0_boundOf 5 = .ok (.aload_n 0, 1) := by decide +kernel
theorem dX0_boundOf_6 : decode cX0_boundOf 6 = .ok (.getfield 18, 3) := by decide +kernel
theorem dX0_boundOf_9 : decode cX0_boundOf 9 = .ok (.getfield 22, 3) := by decide +kernel
theorem dX0_boundOf_12 : decode cX0_boundOf 12 = .ok (.if_icmp .ge 24, 3) := by decide +kernel
theorem dX0_boundOf_15 : decode cX0_boundOf 15 = .ok (.iload_n 1, 1) := by decide +kernel
theorem dX0_boundOf_16 : decode cX0_boundOf 16 = .ok (.iload_n 3, 1) := by decide +kernel
theorem dX0_boundOf_17 : decode cX0_boundOf 17 = .ok (.iushr, 1) := by decide +kernel
theorem dX0_boundOf_18 : decode cX0_boundOf 18 = .ok (.iconst 1, 1) := by decide +kernel
theorem dX0_boundOf_19 : decode cX0_boundOf 19 = .ok (.iand, 1) := by decide +kernel
theorem dX0_boundOf_20 : decode cX0_boundOf 20 = .ok (.ifCond .eq 10, 3) := by decide +kernel
theorem dX0_boundOf_23 : decode cX0_boundOf 23 = .ok (.aload_n 0, 1) := by decide +kernel
theorem dX0_boundOf_24 : decode cX0_boundOf 24 = .ok (.iload_n 3, 1) := by decide +kernel
theorem dX0_boundOf_25 : decode cX0_boundOf 25 = .ok (.iload_n 2, 1) := by decide +kernel
theorem dX0_boundOf_26 : decode cX0_boundOf 26 = .ok (.invokevirtual 45, 3) := by decide +kernel
theorem dX0_boundOf_29 : decode cX0_boundOf 29 = .ok (.istore_n 2, 1) := by decide +kernel
theorem dX0_boundOf_30 : decode cX0_boundOf 30 = .ok (.iinc 3 1, 3) := by decide +kernel
theorem dX0_boundOf_33 : decode cX0_boundOf 33 = .ok (.goto (-29), 3) := by decide +kernel
theorem dX0_boundOf_36 : decode cX0_boundOf 36 = .ok (.aload_n 0, 1) := by decide +kernel
theorem dX0_boundOf_37 : decode cX0_boundOf 37 = .ok (.iload_n 2, 1) := by decide +kernel
theorem dX0_boundOf_38 : decode cX0_boundOf 38 = .ok (.invokevirtual 48, 3) := by decide +kernel
theorem dX0_boundOf_41 : decode cX0_boundOf 41 = .ok (.ireturn, 1) := by decide +kernel
theorem dX0_greatest_0 : decode cX0_greatest 0 = .ok (.aload_n 0, 1) := by decide +kernel
theorem dX0_greatest_1 : decode cX0_greatest 1 = .ok (.iconst 0, 1) := by decide +kernel
theorem dX0_greatest_2 : decode cX0_greatest 2 = .ok (.putfield 52, 3) := by decide +kernel
theorem dX0_greatest_5 : decode cX0_greatest 5 = .ok (.aload_n 0, 1) := by decide +kernel
theorem dX0_greatest_6 : decode cX0_greatest 6 = .ok (.iconst (-1), 1) := by decide +kernel
theorem dX0_greatest_7 : decode cX0_greatest 7 = .ok (.putfield 55, 3) := by decide +kernel
theorem dX0_greatest_10 : decode cX0_greatest 10 = .ok (.aload_n 0, 1) := by decide +kernel
theorem dX0_greatest_11 : decode cX0_greatest 11 = .ok (.iconst 0, 1) := by decide +kernel
theorem dX0_greatest_12 : decode cX0_greatest 12 = .ok (.iconst 0, 1) := by decide +kernel
theorem dX0_greatest_13 : decode cX0_greatest 13 = .ok (.iconst 0, 1) := by decide +kernel
theorem dX0_greatest_14 : decode cX0_greatest 14 = .ok (.invokevirtual 58, 3) := by decide +kernel
theorem dX0_greatest_17 : decode cX0_greatest 17 = .ok (.aload_n 0, 1) := by decide +kernel
theorem dX0_greatest_18 : decode cX0_greatest 18 = .ok (.getfield 52, 3) := by decide +kernel
theorem dX0_greatest_21 : decode cX0_greatest 21 = .ok (.ireturn, 1) := by decide +kernel
theorem dX0_grow_0 : decode cX0_grow 0 = .ok (.iload_n 2, 1) := by decide +kernel
theorem dX0_grow_1 : decode cX0_grow 1 = .ok (.istore 4, 2) := by decide +kernel
theorem dX0_grow_3 : decode cX0_grow 3 = .ok (.iload 4, 2) := by decide +kernel
theorem dX0_grow_5 : decode cX0_grow 5 = .ok (.aload_n 0, 1) := by decide +kernel
theorem dX0_grow_6 : decode cX0_grow 6 = .ok (.getfield 18, 3) := by decide +kernel
theorem dX0_grow_9 : decode cX0_grow 9 = .ok (.getfield 22, 3) := by decide +kernel
theorem dX0_grow_12 : decode cX0_grow 12 = .ok (.if_icmp .ge 83, 3) := by decide +kernel
theorem dX0_grow_15 : decode cX0_grow 15 = .ok (.iload_n 3, 1) := by decide +kernel
theorem dX0_grow_16 : decode cX0_grow 16 = .ok (.aload_n 0, 1) := by decide +kernel
theorem dX0_grow_17 : decode cX0_grow 17 = .ok (.getfield 18, 3) := by decide +kernel
theorem dX0_grow_20 : decode cX0_grow 20 = .ok (.getfield 36, 3) := by decide +kernel
theorem dX0_grow_23 : decode cX0_grow 23 = .ok (.iload 4, 2) := by decide +kernel
theorem dX0_grow_25 : decode cX0_grow 25 = .ok (.aaload, 1) := by decide +kernel
theorem dX0_grow_26 : decode cX0_grow 26 = .ok (.getfield 40, 3) := by decide +kernel
theorem dX0_grow_29 : decode cX0_grow 29 = .ok (.iadd, 1) := by decide +kernel
theorem dX0_grow_30 : decode cX0_grow 30 = .ok (.bipush 6, 2) := by decide +kernel
theorem dX0_grow_32 : decode cX0_grow 32 = .ok (.if_icmp .gt 57, 3) := by decide +kernel
theorem dX0_grow_35 : decode cX0_grow 35 = .ok (.aload_n 0, 1) := by decide +kernel
theorem dX0_grow_36 : decode cX0_grow 36 = .ok (.iload 4, 2) := by decide +kernel
theorem dX0_grow_38 : decode cX0_grow 38 = .ok (.iload_n 1, 1) := by decide +kernel
theorem dX0_grow_39 : decode cX0_grow 39 = .ok (.invokevirtual 28, 3) := by decide +kernel
theorem dX0_grow_42 : decode cX0_grow 42 = .ok (.ifCond .ne 6, 3) := by decide +kernel
theorem dX0_grow_45 : decode cX0_grow 45 = .ok (.goto 44, 3) := by decide +kernel
theorem dX0_grow_48 : decode cX0_grow 48 = .ok (.iload_n 1, 1) := by decide +kernel
theorem dX0_grow_49 : decode cX0_grow 49 = .ok (.iconst 1, 1) := by decide +kernel
theorem dX0_grow_50 : decode cX0_grow 50 = .ok (.iload 4, 2) := by decide +kernel
theorem dX0_grow_52 : decode cX0_grow 52 = .ok (.ishl, 1) := by decide +kernel
theorem dX0_grow_53 : decode cX0_grow 53 = .ok (.ior, 1) := by decide +kernel
theorem dX0_grow_54 : decode cX0_grow 54 = .ok (.istore 5, 2) := by decide +kernel
theorem dX0_grow_56 : decode cX0_grow 56 = .ok (.aload_n 0, 1) := by decide +kernel
theorem dX0_grow_57 : decode cX0_grow 57 = .ok (.iload 4, 2) := by decide +kernel
theorem dX0_grow_59 : decode cX0_grow 59 = .ok (.iload_n 3, 1) := by decide +kernel
theorem dX0_grow_60 : decode cX0_grow 60 = .ok (.invokevirtual 45, 3) := by decide +kernel
theorem dX0_grow_63 : decode cX0_grow 63 = .ok (.istore 6, 2) := by decide +kernel
theorem dX0_grow_65 : decode cX0_grow 65 = .ok (.aload_n 0, 1) := by decide +kernel
theorem dX0_grow_66 : decode cX0_grow 66 = .ok (.iload 5, 2) := by decide +kernel
theorem dX0_grow_68 : decode cX0_grow 68 = .ok (.aload_n 0, 1) := by decide +kernel
theorem dX0_grow_69 : decode cX0_grow 69 = .ok (.iload 6, 2) := by decide +kernel
theorem dX0_grow_71 : decode cX0_grow 71 = .ok (.invokevirtual 48, 3) := by decide +kernel
theorem dX0_grow_74 : decode cX0_grow 74 = .ok (.invokevirtual 62, 3) := by decide +kernel
theorem dX0_grow_77 : decode cX0_grow 77 = .ok (.aload_n 0, 1) := by decide +kernel
theorem dX0_grow_78 : decode cX0_grow 78 = .ok (.iload 5, 2) := by decide +kernel
theorem dX0_grow_80 : decode cX0_grow 80 = .ok (.iload 4, 2) := by decide +kernel
theorem dX0_grow_82 : decode cX0_grow 82 = .ok (.iconst 1, 1) := by decide +kernel
theorem dX0_grow_83 : decode cX0_grow 83 = .ok (.iadd, 1) := by decide +kernel
theorem dX0_grow_84 : decode cX0_grow 84 = .ok (.iload 6, 2) := by decide +kernel
theorem dX0_grow_86 : decode cX0_grow 86 = .ok (.invokevirtual 58, 3) := by decide +kernel
theorem dX0_grow_89 : decode cX0_grow 89 = .ok (.iinc 4 1, 3) := by decide +kernel
theorem dX0_grow_92 : decode cX0_grow 92 = .ok (.goto (-89), 3) := by decide +kernel
theorem dX0_grow_95 : decode cX0_grow 95 = .ok (.return_, 1) := by decide +kernel
theorem dX0_consider_0 : decode cX0_consider 0 = .ok (.iload_n 2, 1) := by decide +kernel
theorem dX0_consider_1 : decode cX0_consider 1 = .ok (.aload_n 0, 1) := by decide +kernel
theorem dX0_consider_2 : decode cX0_consider 2 = .ok (.getfield 55, 3) := by decide +kernel
theorem dX0_consider_5 : decode cX0_consider 5 = .ok (.if_icmp .gt 19, 3) := by decide +kernel
theorem dX0_consider_8 : decode cX0_consider 8 = .ok (.iload_n 2, 1) := by decide +kernel
theorem dX0_consider_9 : decode cX0_consider 9 = .ok (.aload_n 0, 1) := by decide +kernel
theorem dX0_consider_10 : decode cX0_consider 10 = .ok (.getfield 55, 3) := by decide +kernel
theorem dX0_consider_13 : decode cX0_consider 13 = .ok (.if_icmp .ne 21, 3) := by decide +kernel
theorem dX0_consider_16 : decode cX0_consider 16 = .ok (.iload_n 1, 1) := by decide +kernel
theorem dX0_consider_17 : decode cX0_consider 17 = .ok (.aload_n 0, 1) := by decide +kernel
theorem dX0_consider_18 : decode cX0_consider 18 = .ok (.getfield 52, 3) := by decide +kernel
theorem dX0_consider_21 : decode cX0_consider 21 = .ok (.if_icmp .ge 13, 3) := by decide +kernel
theorem dX0_consider_24 : decode cX0_consider 24 = .ok (.aload_n 0, 1) := by decide +kernel
theorem dX0_consider_25 : decode cX0_consider 25 = .ok (.iload_n 2, 1) := by decide +kernel
theorem dX0_consider_26 : decode cX0_consider 26 = .ok (.putfield 55, 3) := by decide +kernel
theorem dX0_consider_29 : decode cX0_consider 29 = .ok (.aload_n 0, 1) := by decide +kernel
theorem dX0_consider_30 : decode cX0_consider 30 = .ok (.iload_n 1, 1) := by decide +kernel
theorem dX0_consider_31 : decode cX0_consider 31 = .ok (.putfield 52, 3) := by decide +kernel
theorem dX0_consider_34 : decode cX0_consider 34 = .ok (.return_, 1) := by decide +kernel
theorem dX0_seat_0 : decode cX0_seat 0 = .ok (.iload_n 2, 1) := by decide +kernel
theorem dX0_seat_1 : decode cX0_seat 1 = .ok (.istore_n 3, 1) := by decide +kernel
theorem dX0_seat_2 : decode cX0_seat 2 = .ok (.iconst 0, 1) := by decide +kernel
theorem dX0_seat_3 : decode cX0_seat 3 = .ok (.istore 4, 2) := by decide +kernel
theorem dX0_seat_5 : decode cX0_seat 5 = .ok (.iload 4, 2) := by decide +kernel
theorem dX0_seat_7 : decode cX0_seat 7 = .ok (.aload_n 0, 1) := by decide +kernel
theorem dX0_seat_8 : decode cX0_seat 8 = .ok (.getfield 18, 3) := by decide +kernel
theorem dX0_seat_11 : decode cX0_seat 11 = .ok (.getfield 36, 3) := by decide +kernel
theorem dX0_seat_14 : decode cX0_seat 14 = .ok (.iload_n 1, 1) := by decide +kernel
theorem dX0_seat_15 : decode cX0_seat 15 = .ok (.aaload, 1) := by decide +kernel
theorem dX0_seat_16 : decode cX0_seat 16 = .ok (.getfield 40, 3) := by decide +kernel
theorem dX0_seat_19 : decode cX0_seat 19 = .ok (.if_icmp .ge 51, 3) := by decide +kernel
theorem dX0_seat_22 : decode cX0_seat 22 = .ok (.iload_n 3, 1) := by decide +kernel
theorem dX0_seat_23 : decode cX0_seat 23 = .ok (.bipush 6, 2) := by decide +kernel
theorem dX0_seat_25 : decode cX0_seat 25 = .ok (.if_icmp .ge 45, 3) := by decide +kernel
theorem dX0_seat_28 : decode cX0_seat 28 = .ok (.aload_n 0, 1) := by decide +kernel
theorem dX0_seat_29 : decode cX0_seat 29 = .ok (.getfield 15, 3) := by decide +kernel
theorem dX0_seat_32 : decode cX0_seat 32 = .ok (.iload_n 3, 1) := by decide +kernel
theorem dX0_seat_33 : decode cX0_seat 33 = .ok (.iload_n 1, 1) := by decide +kernel
theorem dX0_seat_34 : decode cX0_seat 34 = .ok (.iastore, 1) := by decide +kernel
theorem dX0_seat_35 : decode cX0_seat 35 = .ok (.iconst 1, 1) := by decide +kernel
theorem dX0_seat_36 : decode cX0_seat 36 = .ok (.iload_n 3, 1) := by decide +kernel
theorem dX0_seat_37 : decode cX0_seat 37 = .ok (.ishl, 1) := by decide +kernel
theorem dX0_seat_38 : decode cX0_seat 38 = .ok (.istore 5, 2) := by decide +kernel
theorem dX0_seat_40 : decode cX0_seat 40 = .ok (.iload 5, 2) := by decide +kernel
theorem dX0_seat_42 : decode cX0_seat 42 = .ok (.iconst 2, 1) := by decide +kernel
theorem dX0_seat_43 : decode cX0_seat 43 = .ok (.iload_n 3, 1) := by decide +kernel
theorem dX0_seat_44 : decode cX0_seat 44 = .ok (.ishl, 1) := by decide +kernel
theorem dX0_seat_45 : decode cX0_seat 45 = .ok (.if_icmp .ge 16, 3) := by decide +kernel
theorem dX0_seat_48 : decode cX0_seat 48 = .ok (.aload_n 0, 1) := by decide +kernel
theorem dX0_seat_49 : decode cX0_seat 49 = .ok (.iload 5, 2) := by decide +kernel
theorem dX0_seat_51 : decode cX0_seat 51 = .ok (.iload_n 3, 1) := by decide +kernel
theorem dX0_seat_52 : decode cX0_seat 52 = .ok (.invokevirtual 66, 3) := by decide +kernel
theorem dX0_seat_55 : decode cX0_seat 55 = .ok (.iinc 5 1, 3) := by decide +kernel
theorem dX0_seat_58 : decode cX0_seat 58 = .ok (.goto (-18), 3) := by decide +kernel
theorem dX0_seat_61 : decode cX0_seat 61 = .ok (.iinc 3 1, 3) := by decide +kernel
theorem dX0_seat_64 : decode cX0_seat 64 = .ok (.iinc 4 1, 3) := by decide +kernel
theorem dX0_seat_67 : decode cX0_seat 67 = .ok (.goto (-62), 3) := by decide +kernel
theorem dX0_seat_70 : decode cX0_seat 70 = .ok (.iload_n 3, 1) := by decide +kernel
theorem dX0_seat_71 : decode cX0_seat 71 = .ok (.ireturn, 1) := by decide +kernel
theorem dX0_sumUp_0 : decode cX0_sumUp 0 = .ok (.iconst 0, 1) := by decide +kernel
theorem dX0_sumUp_1 : decode cX0_sumUp 1 = .ok (.istore_n 3, 1) := by decide +kernel
theorem dX0_sumUp_2 : decode cX0_sumUp 2 = .ok (.iload_n 3, 1) := by decide +kernel
theorem dX0_sumUp_3 : decode cX0_sumUp 3 = .ok (.iload_n 2, 1) := by decide +kernel
theorem dX0_sumUp_4 : decode cX0_sumUp 4 = .ok (.if_icmp .gt 41, 3) := by decide +kernel
theorem dX0_sumUp_7 : decode cX0_sumUp 7 = .ok (.iload_n 1, 1) := by decide +kernel
theorem dX0_sumUp_8 : decode cX0_sumUp 8 = .ok (.iload_n 3, 1) := by decide +kernel
theorem dX0_sumUp_9 : decode cX0_sumUp 9 = .ok (.iushr, 1) := by decide +kernel
theorem dX0_sumUp_10 : decode cX0_sumUp 10 = .ok (.iconst 1, 1) := by decide +kernel
theorem dX0_sumUp_11 : decode cX0_sumUp 11 = .ok (.iand, 1) := by decide +kernel
theorem dX0_sumUp_12 : decode cX0_sumUp 12 = .ok (.ifCond .eq 27, 3) := by decide +kernel
theorem dX0_sumUp_15 : decode cX0_sumUp 15 = .ok (.aload_n 0, 1) := by decide +kernel
theorem dX0_sumUp_16 : decode cX0_sumUp 16 = .ok (.getfield 9, 3) := by decide +kernel
theorem dX0_sumUp_19 : decode cX0_sumUp 19 = .ok (.iload_n 1, 1) := by decide +kernel
theorem dX0_sumUp_20 : decode cX0_sumUp 20 = .ok (.bipush 6, 2) := by decide +kernel
theorem dX0_sumUp_22 : decode cX0_sumUp 22 = .ok (.imul, 1) := by decide +kernel
theorem dX0_sumUp_23 : decode cX0_sumUp 23 = .ok (.iload_n 3, 1) := by decide +kernel
theorem dX0_sumUp_24 : decode cX0_sumUp 24 = .ok (.iadd, 1) := by decide +kernel
theorem dX0_sumUp_25 : decode cX0_sumUp 25 = .ok (.aload_n 0, 1) := by decide +kernel
theorem dX0_sumUp_26 : decode cX0_sumUp 26 = .ok (.iload_n 1, 1) := by decide +kernel
theorem dX0_sumUp_27 : decode cX0_sumUp 27 = .ok (.iconst 1, 1) := by decide +kernel
theorem dX0_sumUp_28 : decode cX0_sumUp 28 = .ok (.iload_n 3, 1) := by decide +kernel
theorem dX0_sumUp_29 : decode cX0_sumUp 29 = .ok (.ishl, 1) := by decide +kernel
theorem dX0_sumUp_30 : decode cX0_sumUp 30 = .ok (.iconst (-1), 1) := by decide +kernel
theorem dX0_sumUp_31 : decode cX0_sumUp 31 = .ok (.ixor, 1) := by decide +kernel
theorem dX0_sumUp_32 : decode cX0_sumUp 32 = .ok (.iand, 1) := by decide +kernel
theorem dX0_sumUp_33 : decode cX0_sumUp 33 = .ok (.iload_n 3, 1) := by decide +kernel
theorem dX0_sumUp_34 : decode cX0_sumUp 34 = .ok (.iload_n 2, 1) := by decide +kernel
theorem dX0_sumUp_35 : decode cX0_sumUp 35 = .ok (.invokevirtual 69, 3) := by decide +kernel
theorem dX0_sumUp_38 : decode cX0_sumUp 38 = .ok (.iastore, 1) := by decide +kernel
theorem dX0_sumUp_39 : decode cX0_sumUp 39 = .ok (.iinc 3 1, 3) := by decide +kernel
theorem dX0_sumUp_42 : decode cX0_sumUp 42 = .ok (.goto (-40), 3) := by decide +kernel
theorem dX0_sumUp_45 : decode cX0_sumUp 45 = .ok (.return_, 1) := by decide +kernel
theorem dX0_leastSum_0 : decode cX0_leastSum 0 = .ok (.iload_n 1, 1) := by decide +kernel
theorem dX0_leastSum_1 : decode cX0_leastSum 1 = .ok (.ifCond .ne 5, 3) := by decide +kernel
theorem dX0_leastSum_4 : decode cX0_leastSum 4 = .ok (.iconst 0, 1) := by decide +kernel
theorem dX0_leastSum_5 : decode cX0_leastSum 5 = .ok (.ireturn, 1) := by decide +kernel
theorem dX0_leastSum_6 : decode cX0_leastSum 6 = .ok (.ldc 73, 2) := by decide +kernel
theorem dX0_leastSum_8 : decode cX0_leastSum 8 = .ok (.istore 4, 2) := by decide +kernel
theorem dX0_leastSum_10 : decode cX0_leastSum 10 = .ok (.iconst 0, 1) := by decide +kernel
theorem dX0_leastSum_11 : decode cX0_leastSum 11 = .ok (.istore 5, 2) := by decide +kernel
theorem dX0_leastSum_13 : decode cX0_leastSum 13 = .ok (.iload 5, 2) := by decide +kernel
theorem dX0_leastSum_15 : decode cX0_leastSum 15 = .ok (.iload_n 3, 1) := by decide +kernel
theorem dX0_leastSum_16 : decode cX0_leastSum 16 = .ok (.if_icmp .gt 58, 3) := by decide +kernel
theorem dX0_leastSum_19 : decode cX0_leastSum 19 = .ok (.iload_n 1, 1) := by decide +kernel
theorem dX0_leastSum_20 : decode cX0_leastSum 20 = .ok (.iload 5, 2) := by decide +kernel
theorem dX0_leastSum_22 : decode cX0_leastSum 22 = .ok (.iushr, 1) := by decide +kernel
theorem dX0_leastSum_23 : decode cX0_leastSum 23 = .ok (.iconst 1, 1) := by decide +kernel
theorem dX0_leastSum_24 : decode cX0_leastSum 24 = .ok (.iand, 1) := by decide +kernel
theorem dX0_leastSum_25 : decode cX0_leastSum 25 = .ok (.ifCond .eq 43, 3) := by decide +kernel
theorem dX0_leastSum_28 : decode cX0_leastSum 28 = .ok (.iload 4, 2) := by decide +kernel
theorem dX0_leastSum_30 : decode cX0_leastSum 30 = .ok (.aload_n 0, 1) := by decide +kernel
theorem dX0_leastSum_31 : decode cX0_leastSum 31 = .ok (.getfield 9, 3) := by decide +kernel
theorem dX0_leastSum_34 : decode cX0_leastSum 34 = .ok (.iload_n 1, 1) := by decide +kernel
theorem dX0_leastSum_35 : decode cX0_leastSum 35 = .ok (.bipush 6, 2) := by decide +kernel
theorem dX0_leastSum_37 : decode cX0_leastSum 37 = .ok (.imul, 1) := by decide +kernel
theorem dX0_leastSum_38 : decode cX0_leastSum 38 = .ok (.iload 5, 2) := by decide +kernel
theorem dX0_leastSum_40 : decode cX0_leastSum 40 = .ok (.iadd, 1) := by decide +kernel
theorem dX0_leastSum_41 : decode cX0_leastSum 41 = .ok (.iaload, 1) := by decide +kernel
theorem dX0_leastSum_42 : decode cX0_leastSum 42 = .ok (.aload_n 0, 1) := by decide +kernel
theorem dX0_leastSum_43 : decode cX0_leastSum 43 = .ok (.getfield 18, 3) := by decide +kernel
theorem dX0_leastSum_46 : decode cX0_leastSum 46 = .ok (.aload_n 0, 1) := by decide +kernel
theorem dX0_leastSum_47 : decode cX0_leastSum 47 = .ok (.getfield 15, 3) := by decide +kernel
theorem dX0_leastSum_50 : decode cX0_leastSum 50 = .ok (.iload 5, 2) := by decide +kernel
theorem dX0_leastSum_52 : decode cX0_leastSum 52 = .ok (.iaload, 1) := by decide +kernel
theorem dX0_leastSum_53 : decode cX0_leastSum 53 = .ok (.aload_n 0, 1) := by decide +kernel
theorem dX0_leastSum_54 : decode cX0_leastSum 54 = .ok (.getfield 15, 3) := by decide +kernel
theorem dX0_leastSum_57 : decode cX0_leastSum 57 = .ok (.iload_n 2, 1) := by decide +kernel
theorem dX0_leastSum_58 : decode cX0_leastSum 58 = .ok (.iaload, 1) := by decide +kernel
theorem dX0_leastSum_59 : decode cX0_leastSum 59 = .ok (.invokevirtual 32, 3) := by decide +kernel
theorem dX0_leastSum_62 : decode cX0_leastSum 62 = .ok (.iadd, 1) := by decide +kernel
theorem dX0_leastSum_63 : decode cX0_leastSum 63 = .ok (.invokestatic 74, 3) := by decide +kernel
theorem dX0_leastSum_66 : decode cX0_leastSum 66 = .ok (.istore 4, 2) := by decide +kernel
theorem dX0_leastSum_68 : decode cX0_leastSum 68 = .ok (.iinc 5 1, 3) := by decide +kernel
theorem dX0_leastSum_71 : decode cX0_leastSum 71 = .ok (.goto (-58), 3) := by decide +kernel
theorem dX0_leastSum_74 : decode cX0_leastSum 74 = .ok (.iload 4, 2) := by decide +kernel
theorem dX0_leastSum_76 : decode cX0_leastSum 76 = .ok (.ireturn, 1) := by decide +kernel
theorem dX0_boundOfSeated_0 : decode cX0_boundOfSeated 0 = .ok (.iconst 1, 1) := by decide +kernel
theorem dX0_boundOfSeated_1 : decode cX0_boundOfSeated 1 = .ok (.iload_n 1, 1) := by decide +kernel
theorem dX0_boundOfSeated_2 : decode cX0_boundOfSeated 2 = .ok (.ishl, 1) := by decide +kernel
theorem dX0_boundOfSeated_3 : decode cX0_boundOfSeated 3 = .ok (.iconst 1, 1) := by decide +kernel
theorem dX0_boundOfSeated_4 : decode cX0_boundOfSeated 4 = .ok (.isub, 1) := by decide +kernel
theorem dX0_boundOfSeated_5 : decode cX0_boundOfSeated 5 = .ok (.istore_n 2, 1) := by decide +kernel
theorem dX0_boundOfSeated_6 : decode cX0_boundOfSeated 6 = .ok (.ldc 73, 2) := by decide +kernel
theorem dX0_boundOfSeated_8 : decode cX0_boundOfSeated 8 = .ok (.istore_n 3, 1) := by decide +kernel
theorem dX0_boundOfSeated_9 : decode cX0_boundOfSeated 9 = .ok (.iconst 0, 1) := by decide +kernel
theorem dX0_boundOfSeated_10 : decode cX0_boundOfSeated 10 = .ok (.istore 4, 2) := by decide +kernel
theorem dX0_boundOfSeated_12 : decode cX0_boundOfSeated 12 = .ok (.iload 4, 2) := by decide +kernel
theorem dX0_boundOfSeated_14 : decode cX0_boundOfSeated 14 = .ok (.iload_n 1, 1) := by decide +kernel
theorem dX0_boundOfSeated_15 : decode cX0_boundOfSeated 15 = .ok (.if_icmp .ge 26, 3) := by decide +kernel
theorem dX0_boundOfSeated_18 : decode cX0_boundOfSeated 18 = .ok (.iload_n 3, 1) := by decide +kernel
theorem dX0_boundOfSeated_19 : decode cX0_boundOfSeated 19 = .ok (.aload_n 0, 1) := by decide +kernel
theorem dX0_boundOfSeated_20 : decode cX0_boundOfSeated 20 = .ok (.getfield 9, 3) := by decide +kernel
theorem dX0_boundOfSeated_23 : decode cX0_boundOfSeated 23 = .ok (.iload_n 2, 1) := by decide +kernel
theorem dX0_boundOfSeated_24 : decode cX0_boundOfSeated 24 = .ok (.bipush 6, 2) := by decide +kernel
theorem dX0_boundOfSeated_26 : decode cX0_boundOfSeated 26 = .ok (.imul, 1) := by decide +kernel
theorem dX0_boundOfSeated_27 : decode cX0_boundOfSeated 27 = .ok (.iload 4, 2) := by decide +kernel
theorem dX0_boundOfSeated_29 : decode cX0_boundOfSeated 29 = .ok (.iadd, 1) := by decide +kernel
theorem dX0_boundOfSeated_30 : decode cX0_boundOfSeated 30 = .ok (.iaload, 1) := by decide +kernel
theorem dX0_boundOfSeated_31 : decode cX0_boundOfSeated 31 = .ok (.invokestatic 74, 3) := by decide +kernel
theorem dX0_boundOfSeated_34 : decode cX0_boundOfSeated 34 = .ok (.istore_n 3, 1) := by decide +kernel
theorem dX0_boundOfSeated_35 : decode cX0_boundOfSeated 35 = .ok (.iinc 4 1, 3) := by decide +kernel
theorem dX0_boundOfSeated_38 : decode cX0_boundOfSeated 38 = .ok (.goto (-26), 3) := by decide +kernel
theorem dX0_boundOfSeated_41 : decode cX0_boundOfSeated 41 = .ok (.iload_n 3, 1) := by decide +kernel
theorem dX0_boundOfSeated_42 : decode cX0_boundOfSeated 42 = .ok (.ireturn, 1) := by decide +kernel
end
section
theorem dX6_clear_0 : decode cX6_clear 0 = .ok (.aload_n 0, 1) := by decide +kernel
theorem dX6_clear_1 : decode cX6_clear 1 = .ok (.iconst 0, 1) := by decide +kernel
theorem dX6_clear_2 : decode cX6_clear 2 = .ok (.putfield 26, 3) := by decide +kernel
theorem dX6_clear_5 : decode cX6_clear 5 = .ok (.aload_n 0, 1) := by decide +kernel
theorem dX6_clear_6 : decode cX6_clear 6 = .ok (.iconst 0, 1) := by decide +kernel
theorem dX6_clear_7 : decode cX6_clear 7 = .ok (.putfield 30, 3) := by decide +kernel
theorem dX6_clear_10 : decode cX6_clear 10 = .ok (.return_, 1) := by decide +kernel
theorem dX6_takeMast_0 : decode cX6_takeMast 0 = .ok (.aload_n 0, 1) := by decide +kernel
theorem dX6_takeMast_1 : decode cX6_takeMast 1 = .ok (.iconst 1, 1) := by decide +kernel
theorem dX6_takeMast_2 : decode cX6_takeMast 2 = .ok (.putfield 26, 3) := by decide +kernel
theorem dX6_takeMast_5 : decode cX6_takeMast 5 = .ok (.aload_n 0, 1) := by decide +kernel
theorem dX6_takeMast_6 : decode cX6_takeMast 6 = .ok (.iconst 0, 1) := by decide +kernel
theorem dX6_takeMast_7 : decode cX6_takeMast 7 = .ok (.putfield 30, 3) := by decide +kernel
theorem dX6_takeMast_10 : decode cX6_takeMast 10 = .ok (.aload_n 0, 1) := by decide +kernel
theorem dX6_takeMast_11 : decode cX6_takeMast 11 = .ok (.getfield 12, 3) := by decide +kernel
theorem dX6_takeMast_14 : decode cX6_takeMast 14 = .ok (.aload_n 1, 1) := by decide +kernel
theorem dX6_takeMast_15 : decode cX6_takeMast 15 = .ok (.invokevirtual 33, 3) := by decide +kernel
theorem dX6_takeMast_18 : decode cX6_takeMast 18 = .ok (.return_, 1) := by decide +kernel
theorem dX6_takeChannels_0 : decode cX6_takeChannels 0 = .ok (.aload_n 0, 1) := by decide +kernel
theorem dX6_takeChannels_1 : decode cX6_takeChannels 1 = .ok (.iconst 3, 1) := by decide +kernel
theorem dX6_takeChannels_2 : decode cX6_takeChannels 2 = .ok (.putfield 26, 3) := by decide +kernel
theorem dX6_takeChannels_5 : decode cX6_takeChannels 5 = .ok (.aload_n 0, 1) := by decide +kernel
theorem dX6_takeChannels_6 : decode cX6_takeChannels 6 = .ok (.iload_n 2, 1) := by decide +kernel
theorem dX6_takeChannels_7 : decode cX6_takeChannels 7 = .ok (.putfield 30, 3) := by decide +kernel
theorem dX6_takeChannels_10 : decode cX6_takeChannels 10 = .ok (.iconst 0, 1) := by decide +kernel
theorem dX6_takeChannels_11 : decode cX6_takeChannels 11 = .ok (.istore_n 3, 1) := by decide +kernel
theorem dX6_takeChannels_12 : decode cX6_takeChannels 12 = .ok (.iload_n 3, 1) := by decide +kernel
theorem dX6_takeChannels_13 : decode cX6_takeChannels 13 = .ok (.iload_n 2, 1) := by decide +kernel
theorem dX6_takeChannels_14 : decode cX6_takeChannels 14 = .ok (.if_icmp .ge 19, 3) := by decide +kernel
theorem dX6_takeChannels_17 : decode cX6_takeChannels 17 = .ok (.aload_n 0, 1) := by decide +kernel
theorem dX6_takeChannels_18 : decode cX6_takeChannels 18 = .ok (.getfield 18, 3) := by decide +kernel
theorem dX6_takeChannels_21 : decode cX6_takeChannels 21 = .ok (.iload_n 3, 1) := by decide +kernel
theorem dX6_takeChannels_22 : decode cX6_takeChannels 22 = .ok (.aload_n 1, 1) := by decide +kernel
theorem dX6_takeChannels_23 : decode cX6_takeChannels 23 = .ok (.iload_n 3, 1) := by decide +kernel
theorem dX6_takeChannels_24 : decode cX6_takeChannels 24 = .ok (.iaload, 1) := by decide +kernel
theorem dX6_takeChannels_25 : decode cX6_takeChannels 25 = .ok (.i2b, 1) := by decide +kernel
theorem dX6_takeChannels_26 : decode cX6_takeChannels 26 = .ok (.bastore, 1) := by decide +kernel
theorem dX6_takeChannels_27 : decode cX6_takeChannels 27 = .ok (.iinc 3 1, 3) := by decide +kernel
theorem dX6_takeChannels_30 : decode cX6_takeChannels 30 = .ok (.goto (-18), 3) := by decide +kernel
theorem dX6_takeChannels_33 : decode cX6_takeChannels 33 = .ok (.return_, 1) := by decide +kernel
theorem dX6_takeSquares_0 : decode cX6_takeSquares 0 = .ok (.aload_n 0, 1) := by decide +kernel
theorem dX6_takeSquares_1 : decode cX6_takeSquares 1 = .ok (.iconst 4, 1) := by decide +kernel
theorem dX6_takeSquares_2 : decode cX6_takeSquares 2 = .ok (.putfield 26, 3) := by decide +kernel
theorem dX6_takeSquares_5 : decode cX6_takeSquares 5 = .ok (.aload_n 0, 1) := by decide +kernel
theorem dX6_takeSquares_6 : decode cX6_takeSquares 6 = .ok (.aload_n 1, 1) := by decide +kernel
theorem dX6_takeSquares_7 : decode cX6_takeSquares 7 = .ok (.getfield 37, 3) := by decide +kernel
theorem dX6_takeSquares_10 : decode cX6_takeSquares 10 = .ok (.putfield 30, 3) := by decide +kernel
theorem dX6_takeSquares_13 : decode cX6_takeSquares 13 = .ok (.iconst 0, 1) := by decide +kernel
theorem dX6_takeSquares_14 : decode cX6_takeSquares 14 = .ok (.istore_n 3, 1) := by decide +kernel
theorem dX6_takeSquares_15 : decode cX6_takeSquares 15 = .ok (.iload_n 3, 1) := by decide +kernel
theorem dX6_takeSquares_16 : decode cX6_takeSquares 16 = .ok (.aload_n 1, 1) := by decide +kernel
theorem dX6_takeSquares_17 : decode cX6_takeSquares 17 = .ok (.getfield 37, 3) := by decide +kernel
theorem dX6_takeSquares_20 : decode cX6_takeSquares 20 = .ok (.if_icmp .ge 22, 3) := by decide +kernel
theorem dX6_takeSquares_23 : decode cX6_takeSquares 23 = .ok (.aload_n 0, 1) := by decide +kernel
theorem dX6_takeSquares_24 : decode cX6_takeSquares 24 = .ok (.getfield 22, 3) := by decide +kernel
theorem dX6_takeSquares_27 : decode cX6_takeSquares 27 = .ok (.iload_n 3, 1) := by decide +kernel
theorem dX6_takeSquares_28 : decode cX6_takeSquares 28 = .ok (.aload_n 1, 1) := by decide +kernel
theorem dX6_takeSquares_29 : decode cX6_takeSquares 29 = .ok (.iload_n 2, 1) := by decide +kernel
theorem dX6_takeSquares_30 : decode cX6_takeSquares 30 = .ok (.iload_n 3, 1) := by decide +kernel
theorem dX6_takeSquares_31 : decode cX6_takeSquares 31 = .ok (.invokevirtual 42, 3) := by decide +kernel
theorem dX6_takeSquares_34 : decode cX6_takeSquares 34 = .ok (.i2l, 1) := by decide +kernel
theorem dX6_takeSquares_35 : decode cX6_takeSquares 35 = .ok (.lastore, 1) := by decide +kernel
theorem dX6_takeSquares_36 : decode cX6_takeSquares 36 = .ok (.iinc 3 1, 3) := by decide +kernel
theorem dX6_takeSquares_39 : decode cX6_takeSquares 39 = .ok (.goto (-24), 3) := by decide +kernel
theorem dX6_takeSquares_42 : decode cX6_takeSquares 42 = .ok (.return_, 1) := by decide +kernel
theorem dX6_takeZeros_0 : decode cX6_takeZeros 0 = .ok (.aload_n 0, 1) := by decide +kernel
theorem dX6_takeZeros_1 : decode cX6_takeZeros 1 = .ok (.iload_n 1, 1) := by decide +kernel
theorem dX6_takeZeros_2 : decode cX6_takeZeros 2 = .ok (.putfield 26, 3) := by decide +kernel
theorem dX6_takeZeros_5 : decode cX6_takeZeros 5 = .ok (.aload_n 0, 1) := by decide +kernel
theorem dX6_takeZeros_6 : decode cX6_takeZeros 6 = .ok (.iload_n 2, 1) := by decide +kernel
theorem dX6_takeZeros_7 : decode cX6_takeZeros 7 = .ok (.putfield 30, 3) := by decide +kernel
theorem dX6_takeZeros_10 : decode cX6_takeZeros 10 = .ok (.aload_n 0, 1) := by decide +kernel
theorem dX6_takeZeros_11 : decode cX6_takeZeros 11 = .ok (.getfield 18, 3) := by decide +kernel
theorem dX6_takeZeros_14 : decode cX6_takeZeros 14 = .ok (.iconst 0, 1) := by decide +kernel
theorem dX6_takeZeros_15 : decode cX6_takeZeros 15 = .ok (.invokestatic 46, 3) := by decide +kernel
theorem dX6_takeZeros_18 : decode cX6_takeZeros 18 = .ok (.aload_n 0, 1) := by decide +kernel
theorem dX6_takeZeros_19 : decode cX6_takeZeros 19 = .ok (.getfield 22, 3) := by decide +kernel
theorem dX6_takeZeros_22 : decode cX6_takeZeros 22 = .ok (.lconst 0, 1) := by decide +kernel
theorem dX6_takeZeros_23 : decode cX6_takeZeros 23 = .ok (.invokestatic 52, 3) := by decide +kernel
theorem dX6_takeZeros_26 : decode cX6_takeZeros 26 = .ok (.return_, 1) := by decide +kernel
theorem dX6_isRow_0 : decode cX6_isRow 0 = .ok (.aload_n 0, 1) := by decide +kernel
theorem dX6_isRow_1 : decode cX6_isRow 1 = .ok (.getfield 26, 3) := by decide +kernel
theorem dX6_isRow_4 : decode cX6_isRow 4 = .ok (.iconst 3, 1) := by decide +kernel
theorem dX6_isRow_5 : decode cX6_isRow 5 = .ok (.if_icmp .eq 11, 3) := by decide +kernel
theorem dX6_isRow_8 : decode cX6_isRow 8 = .ok (.aload_n 0, 1) := by decide +kernel
theorem dX6_isRow_9 : decode cX6_isRow 9 = .ok (.getfield 26, 3) := by decide +kernel
theorem dX6_isRow_12 : decode cX6_isRow 12 = .ok (.iconst 4, 1) := by decide +kernel
theorem dX6_isRow_13 : decode cX6_isRow 13 = .ok (.if_icmp .ne 7, 3) := by decide +kernel
theorem dX6_isRow_16 : decode cX6_isRow 16 = .ok (.iconst 1, 1) := by decide +kernel
theorem dX6_isRow_17 : decode cX6_isRow 17 = .ok (.goto 4, 3) := by decide +kernel
theorem dX6_isRow_20 : decode cX6_isRow 20 = .ok (.iconst 0, 1) := by decide +kernel
theorem dX6_isRow_21 : decode cX6_isRow 21 = .ok (.ireturn, 1) := by decide +kernel
theorem dX6_hasRange_0 : decode cX6_hasRange 0 = .ok (.iload_n 2, 1) := by decide +kernel
theorem dX6_hasRange_1 : decode cX6_hasRange 1 = .ok (.ifCond .lt 29, 3) := by decide +kernel
theorem dX6_hasRange_4 : decode cX6_hasRange 4 = .ok (.iload_n 1, 1) := by decide +kernel
theorem dX6_hasRange_5 : decode cX6_hasRange 5 = .ok (.ifCond .lt 25, 3) := by decide +kernel
theorem dX6_hasRange_8 : decode cX6_hasRange 8 = .ok (.iload_n 1, 1) := by decide +kernel
theorem dX6_hasRange_9 : decode cX6_hasRange 9 = .ok (.aload_n 0, 1) := by decide +kernel
theorem dX6_hasRange_10 : decode cX6_hasRange 10 = .ok (.getfield 30, 3) := by decide +kernel
theorem dX6_hasRange_13 : decode cX6_hasRange 13 = .ok (.if_icmp .gt 17, 3) := by decide +kernel
theorem dX6_hasRange_16 : decode cX6_hasRange 16 = .ok (.iload_n 2, 1) := by decide +kernel
theorem dX6_hasRange_17 : decode cX6_hasRange 17 = .ok (.aload_n 0, 1) := by decide +kernel
theorem dX6_hasRange_18 : decode cX6_hasRange 18 = .ok (.getfield 30, 3) := by decide +kernel
theorem dX6_hasRange_21 : decode cX6_hasRange 21 = .ok (.iload_n 1, 1) := by decide +kernel
theorem dX6_hasRange_22 : decode cX6_hasRange 22 = .ok (.isub, 1) := by decide +kernel
theorem dX6_hasRange_23 : decode cX6_hasRange 23 = .ok (.if_icmp .gt 7, 3) := by decide +kernel
theorem dX6_hasRange_26 : decode cX6_hasRange 26 = .ok (.iconst 1, 1) := by decide +kernel
theorem dX6_hasRange_27 : decode cX6_hasRange 27 = .ok (.goto 4, 3) := by decide +kernel
theorem dX6_hasRange_30 : decode cX6_hasRange 30 = .ok (.iconst 0, 1) := by decide +kernel
theorem dX6_hasRange_31 : decode cX6_hasRange 31 = .ok (.ireturn, 1) := by decide +kernel
theorem dX6_at_0 : decode cX6_at 0 = .ok (.aload_n 0, 1) := by decide +kernel
theorem dX6_at_1 : decode cX6_at 1 = .ok (.getfield 26, 3) := by decide +kernel
theorem dX6_at_4 : decode cX6_at 4 = .ok (.iconst 3, 1) := by decide +kernel
theorem dX6_at_5 : decode cX6_at 5 = .ok (.if_icmp .ne 13, 3) := by decide +kernel
theorem dX6_at_8 : decode cX6_at 8 = .ok (.aload_n 0, 1) := by decide +kernel
theorem dX6_at_9 : decode cX6_at 9 = .ok (.getfield 18, 3) := by decide +kernel
theorem dX6_at_12 : decode cX6_at 12 = .ok (.iload_n 1, 1) := by decide +kernel
theorem dX6_at_13 : decode cX6_at 13 = .ok (.baload, 1) := by decide +kernel
theorem dX6_at_14 : decode cX6_at 14 = .ok (.i2l, 1) := by decide +kernel
theorem dX6_at_15 : decode cX6_at 15 = .ok (.goto 9, 3) := by decide +kernel
theorem dX6_at_18 : decode cX6_at 18 = .ok (.aload_n 0, 1) := by decide +kernel
theorem dX6_at_19 : decode cX6_at 19 = .ok (.getfield 22, 3) := by decide +kernel
theorem dX6_at_22 : decode cX6_at 22 = .ok (.iload_n 1, 1) := by decide +kernel
theorem dX6_at_23 : decode cX6_at 23 = .ok (.laload, 1) := by decide +kernel
theorem dX6_at_24 : decode cX6_at 24 = .ok (.lreturn, 1) := by decide +kernel
theorem dX6_copyTo_0 : decode cX6_copyTo 0 = .ok (.aload_n 0, 1) := by decide +kernel
theorem dX6_copyTo_1 : decode cX6_copyTo 1 = .ok (.getfield 26, 3) := by decide +kernel
theorem dX6_copyTo_4 : decode cX6_copyTo 4 = .ok (.iconst 3, 1) := by decide +kernel
theorem dX6_copyTo_5 : decode cX6_copyTo 5 = .ok (.if_icmp .ne 21, 3) := by decide +kernel
theorem dX6_copyTo_8 : decode cX6_copyTo 8 = .ok (.aload_n 0, 1) := by decide +kernel
theorem dX6_copyTo_9 : decode cX6_copyTo 9 = .ok (.getfield 18, 3) := by decide +kernel
theorem dX6_copyTo_12 : decode cX6_copyTo 12 = .ok (.iload_n 1, 1) := by decide +kernel
theorem dX6_copyTo_13 : decode cX6_copyTo 13 = .ok (.aload_n 2, 1) := by decide +kernel
theorem dX6_copyTo_14 : decode cX6_copyTo 14 = .ok (.getfield 18, 3) := by decide +kernel
theorem dX6_copyTo_17 : decode cX6_copyTo 17 = .ok (.iload_n 3, 1) := by decide +kernel
theorem dX6_copyTo_18 : decode cX6_copyTo 18 = .ok (.iload 4, 2) := by decide +kernel
theorem dX6_copyTo_20 : decode cX6_copyTo 20 = .ok (.invokestatic 55, 3) := by decide +kernel
theorem dX6_copyTo_23 : decode cX6_copyTo 23 = .ok (.goto 18, 3) := by decide +kernel
theorem dX6_copyTo_26 : decode cX6_copyTo 26 = .ok (.aload_n 0, 1) := by decide +kernel
theorem dX6_copyTo_27 : decode cX6_copyTo 27 = .ok (.getfield 22, 3) := by decide +kernel
theorem dX6_copyTo_30 : decode cX6_copyTo 30 = .ok (.iload_n 1, 1) := by decide +kernel
theorem dX6_copyTo_31 : decode cX6_copyTo 31 = .ok (.aload_n 2, 1) := by decide +kernel
theorem dX6_copyTo_32 : decode cX6_copyTo 32 = .ok (.getfield 22, 3) := by decide +kernel
theorem dX6_copyTo_35 : decode cX6_copyTo 35 = .ok (.iload_n 3, 1) := by decide +kernel
theorem dX6_copyTo_36 : decode cX6_copyTo 36 = .ok (.iload 4, 2) := by decide +kernel
theorem dX6_copyTo_38 : decode cX6_copyTo 38 = .ok (.invokestatic 55, 3) := by decide +kernel
theorem dX6_copyTo_41 : decode cX6_copyTo 41 = .ok (.return_, 1) := by decide +kernel
end
section
noncomputable def mi_J6_bitCount_0f7a4 (M : ab_M) (x0 : Int32) : Option (Int32) :=
  (some (((x0 - ((ab_ushr x0 1) &&& 1431655765)) &&& 858993459) + ((ab_ushr (x0 - ((ab_ushr x0 1) &&& 1431655765)) 2) &&& 858993459)) : Option Int32).bind fun v1 =>
  (some (((v1 + (ab_ushr v1 4)) &&& 252645135) + (ab_ushr ((v1 + (ab_ushr v1 4)) &&& 252645135) 8)) : Option Int32).bind fun v3 =>
  some ((v3 + (ab_ushr v3 16)) &&& 63)

set_option maxHeartbeats 4000000 in
set_option maxRecDepth 100000 in
theorem co_J6_bitCount_0f7a4 {l : Launch} {D : va_G} {ac : Nat → ClassId} (M : ab_M) (x0 : Int32) (z : Int32) (h : mi_J6_bitCount_0f7a4 M x0 = some z) : ab_Con l D ac 1 me_J6_bitCount_0f7a4 0 0 [.int x0] ab_SH M (some (.int z), ab_SH, M) := by
  refine ab_intro (lv := [some (.int x0)]) (by decide) rfl (Nat.le_of_ble_eq_true rfl) rfl ?_
  unfold mi_J6_bitCount_0f7a4 at h
  refine ev_iload_n dJ6_bitCount_0f7a4_0 rfl ?_
  refine ev_iload_n dJ6_bitCount_0f7a4_1 rfl ?_
  refine ev_iconst (x := 1) dJ6_bitCount_0f7a4_2 (by decide) ?_
  refine ev_iushr dJ6_bitCount_0f7a4_3 ?_
  refine ev_ldcw kw_RJ6_265 dJ6_bitCount_0f7a4_4 ?_
  refine ev_iand dJ6_bitCount_0f7a4_7 ?_
  refine ev_isub dJ6_bitCount_0f7a4_8 ?_
  refine ev_istore_n dJ6_bitCount_0f7a4_9 (Nat.le_of_ble_eq_true rfl) rfl rfl ?_
  refine ev_iload_n dJ6_bitCount_0f7a4_10 rfl ?_
  refine ev_ldcw kw_RJ6_266 dJ6_bitCount_0f7a4_11 ?_
  refine ev_iand dJ6_bitCount_0f7a4_14 ?_
  refine ev_iload_n dJ6_bitCount_0f7a4_15 rfl ?_
  refine ev_iconst (x := 2) dJ6_bitCount_0f7a4_16 (by decide) ?_
  refine ev_iushr dJ6_bitCount_0f7a4_17 ?_
  refine ev_ldcw kw_RJ6_266 dJ6_bitCount_0f7a4_18 ?_
  refine ev_iand dJ6_bitCount_0f7a4_21 ?_
  refine ev_iadd dJ6_bitCount_0f7a4_22 ?_
  obtain ⟨v1, hq2, h⟩ := ab_bind h
  refine ev_nmi (Option.some.inj hq2) ?_
  refine ev_istore_n (x := v1) dJ6_bitCount_0f7a4_23 (Nat.le_of_ble_eq_true rfl) rfl rfl ?_
  refine ev_iload_n dJ6_bitCount_0f7a4_24 rfl ?_
  refine ev_iload_n dJ6_bitCount_0f7a4_25 rfl ?_
  refine ev_iconst (x := 4) dJ6_bitCount_0f7a4_26 (by decide) ?_
  refine ev_iushr dJ6_bitCount_0f7a4_27 ?_
  refine ev_iadd dJ6_bitCount_0f7a4_28 ?_
  refine ev_ldcw kw_RJ6_267 dJ6_bitCount_0f7a4_29 ?_
  refine ev_iand dJ6_bitCount_0f7a4_32 ?_
  refine ev_istore_n dJ6_bitCount_0f7a4_33 (Nat.le_of_ble_eq_true rfl) rfl rfl ?_
  refine ev_iload_n dJ6_bitCount_0f7a4_34 rfl ?_
  refine ev_iload_n dJ6_bitCount_0f7a4_35 rfl ?_
  refine ev_bipush (x := 8) dJ6_bitCount_0f7a4_36 (by decide) ?_
  refine ev_iushr dJ6_bitCount_0f7a4_38 ?_
  refine ev_iadd dJ6_bitCount_0f7a4_39 ?_
  obtain ⟨v3, hq4, h⟩ := ab_bind h
  refine ev_nmi (Option.some.inj hq4) ?_
  refine ev_istore_n (x := v3) dJ6_bitCount_0f7a4_40 (Nat.le_of_ble_eq_true rfl) rfl rfl ?_
  refine ev_iload_n dJ6_bitCount_0f7a4_41 rfl ?_
  refine ev_iload_n dJ6_bitCount_0f7a4_42 rfl ?_
  refine ev_bipush (x := 16) dJ6_bitCount_0f7a4_43 (by decide) ?_
  refine ev_iushr dJ6_bitCount_0f7a4_45 ?_
  refine ev_iadd dJ6_bitCount_0f7a4_46 ?_
  refine ev_istore_n dJ6_bitCount_0f7a4_47 (Nat.le_of_ble_eq_true rfl) rfl rfl ?_
  refine ev_iload_n dJ6_bitCount_0f7a4_48 rfl ?_
  refine ev_bipush (x := 63) dJ6_bitCount_0f7a4_49 (by decide) ?_
  refine ev_iand dJ6_bitCount_0f7a4_51 ?_
  cases h
  exact ev_ireturn rfl dJ6_bitCount_0f7a4_52
end
section
noncomputable def mi_J7_fill_d0a16_6 : Nat → ab_M → Nat → Int64 → Int32 → Int32 → Option (Int32 × ab_M)
  | 0, _, _, _, _, _ => none
  | n + 1, M, t0, x1, x3, x4 =>
    if x4 ≤ x3 then
      some (x3, M)
    else
      ab_chk (vp_in x3 60) <|
      mi_J7_fill_d0a16_6 n (ab_pl M t0 (x3).toNatClampNeg x1) t0 x1 (x3 + 1) x4

set_option maxHeartbeats 4000000 in
set_option maxRecDepth 100000 in
theorem lp_J7_fill_d0a16_6 {l : Launch} {D : va_G} {ac : Nat → ClassId} {n0 : Nat} {r : ab_Rs} : ∀ (n : Nat) (M : ab_M) (t0 : Nat) (ht0 : ab_isJ t0) (x1 : Int64) (x3 : Int32) (x4 : Int32) (q : Int32 × ab_M) (h : mi_J7_fill_d0a16_6 n M t0 x1 x3 x4 = some q) (kk : ab_Ev l D ac 1 me_J7_fill_d0a16 n0 0 0 r 0 0 ab_SH 22 [some (.ref t0), some (.long x1), none, some (.int q.1), some (.int x4)] [] q.2), ab_Ev l D ac 1 me_J7_fill_d0a16 n0 0 0 r 0 0 ab_SH 6 [some (.ref t0), some (.long x1), none, some (.int x3), some (.int x4)] [] M := by
  intro n
  induction n with
  | zero =>
    intro M t0 ht0 x1 x3 x4 q h kk
    cases h
  | succ n ih =>
    intro M t0 ht0 x1 x3 x4 q h kk
    unfold mi_J7_fill_d0a16_6 at h
    refine ev_iload_n dJ7_fill_d0a16_6 rfl ?_
    refine ev_iload dJ7_fill_d0a16_7 rfl ?_
    refine ev_icmp_ge (t := 22) dJ7_fill_d0a16_9 (by decide) (fun hc1 => ?_) (fun hc1 => ?_)
    · replace h := ab_pos hc1 h
      cases h
      exact kk
    · replace h := ab_neg hc1 h
      refine ev_aload_n dJ7_fill_d0a16_12 rfl ?_
      refine ev_iload_n dJ7_fill_d0a16_13 rfl ?_
      refine ev_lload_n dJ7_fill_d0a16_14 rfl ?_
      obtain ⟨hb2, h⟩ := ab_chk_some h
      refine ev_lastore ht0 hb2 dJ7_fill_d0a16_15 ?_
      refine ev_iinc (y := x3 + 1) dJ7_fill_d0a16_16 rfl (by first | rfl | decide) rfl rfl ?_
      refine ev_goto (t := 6) dJ7_fill_d0a16_19 (by decide) ?_
      exact ih (ab_pl M t0 (x3).toNatClampNeg x1) t0 ht0 x1 (x3 + 1) x4 _ h kk

noncomputable def mi_J7_fill_d0a16 (M : ab_M) (t0 : Nat) (x1 : Int64) : Option (ab_M) :=
  (mi_J7_fill_d0a16_6 ab_F M t0 x1 0 60).bind fun q3 =>
  some q3.2

set_option maxHeartbeats 4000000 in
set_option maxRecDepth 100000 in
theorem co_J7_fill_d0a16 {l : Launch} {D : va_G} {ac : Nat → ClassId} (M : ab_M) (t0 : Nat) (ht0 : ab_isJ t0) (x1 : Int64) (z : ab_M) (h : mi_J7_fill_d0a16 M t0 x1 = some z) : ab_Con l D ac 1 me_J7_fill_d0a16 0 0 [.ref t0, .long x1] ab_SH M (none, ab_SH, z) := by
  refine ab_intro (lv := [some (.ref t0), some (.long x1), none, none, none]) (by decide) rfl (Nat.le_of_ble_eq_true rfl) rfl ?_
  unfold mi_J7_fill_d0a16 at h
  refine ev_iconst (x := 0) dJ7_fill_d0a16_0 (by decide) ?_
  refine ev_istore_n dJ7_fill_d0a16_1 (Nat.le_of_ble_eq_true rfl) rfl rfl ?_
  refine ev_aload_n dJ7_fill_d0a16_2 rfl ?_
  refine ev_alen (x := 60) ht0 (by decide) (by decide) dJ7_fill_d0a16_3 ?_
  refine ev_istore dJ7_fill_d0a16_4 (Nat.le_of_ble_eq_true rfl) rfl rfl ?_
  obtain ⟨q3, hq4, h⟩ := ab_bind h
  refine lp_J7_fill_d0a16_6 _ M t0 ht0 x1 0 60 _ hq4 ?_
  cases h
  exact ev_return rfl dJ7_fill_d0a16_22

noncomputable def mi_J7_fill_031fb_5 : Nat → ab_M → Nat → Int32 → Int32 → Int32 → Option (Int32 × ab_M)
  | 0, _, _, _, _, _ => none
  | n + 1, M, t0, x1, x2, x3 =>
    if x3 ≤ x2 then
      some (x2, M)
    else
      ab_chk (vp_in x2 60) <|
      mi_J7_fill_031fb_5 n (ab_pi M t0 (x2).toNatClampNeg (ab_i2b x1)) t0 x1 (x2 + 1) x3

set_option maxHeartbeats 4000000 in
set_option maxRecDepth 100000 in
theorem lp_J7_fill_031fb_5 {l : Launch} {D : va_G} {ac : Nat → ClassId} {n0 : Nat} {r : ab_Rs} : ∀ (n : Nat) (M : ab_M) (t0 : Nat) (ht0 : ab_isB t0) (x1 : Int32) (x2 : Int32) (x3 : Int32) (q : Int32 × ab_M) (h : mi_J7_fill_031fb_5 n M t0 x1 x2 x3 = some q) (kk : ab_Ev l D ac 1 me_J7_fill_031fb n0 0 0 r 0 0 ab_SH 20 [some (.ref t0), some (.int x1), some (.int q.1), some (.int x3)] [] q.2), ab_Ev l D ac 1 me_J7_fill_031fb n0 0 0 r 0 0 ab_SH 5 [some (.ref t0), some (.int x1), some (.int x2), some (.int x3)] [] M := by
  intro n
  induction n with
  | zero =>
    intro M t0 ht0 x1 x2 x3 q h kk
    cases h
  | succ n ih =>
    intro M t0 ht0 x1 x2 x3 q h kk
    unfold mi_J7_fill_031fb_5 at h
    refine ev_iload_n dJ7_fill_031fb_5 rfl ?_
    refine ev_iload_n dJ7_fill_031fb_6 rfl ?_
    refine ev_icmp_ge (t := 20) dJ7_fill_031fb_7 (by decide) (fun hc1 => ?_) (fun hc1 => ?_)
    · replace h := ab_pos hc1 h
      cases h
      exact kk
    · replace h := ab_neg hc1 h
      refine ev_aload_n dJ7_fill_031fb_10 rfl ?_
      refine ev_iload_n dJ7_fill_031fb_11 rfl ?_
      refine ev_iload_n dJ7_fill_031fb_12 rfl ?_
      obtain ⟨hb2, h⟩ := ab_chk_some h
      refine ev_bastore ht0 hb2 dJ7_fill_031fb_13 ?_
      refine ev_iinc (y := x2 + 1) dJ7_fill_031fb_14 rfl (by first | rfl | decide) rfl rfl ?_
      refine ev_goto (t := 5) dJ7_fill_031fb_17 (by decide) ?_
      exact ih (ab_pi M t0 (x2).toNatClampNeg (ab_i2b x1)) t0 ht0 x1 (x2 + 1) x3 _ h kk

noncomputable def mi_J7_fill_031fb (M : ab_M) (t0 : Nat) (x1 : Int32) : Option (ab_M) :=
  (mi_J7_fill_031fb_5 ab_F M t0 x1 0 60).bind fun q3 =>
  some q3.2

set_option maxHeartbeats 4000000 in
set_option maxRecDepth 100000 in
theorem co_J7_fill_031fb {l : Launch} {D : va_G} {ac : Nat → ClassId} (M : ab_M) (t0 : Nat) (ht0 : ab_isB t0) (x1 : Int32) (z : ab_M) (h : mi_J7_fill_031fb M t0 x1 = some z) : ab_Con l D ac 1 me_J7_fill_031fb 0 0 [.ref t0, .int x1] ab_SH M (none, ab_SH, z) := by
  refine ab_intro (lv := [some (.ref t0), some (.int x1), none, none]) (by decide) rfl (Nat.le_of_ble_eq_true rfl) rfl ?_
  unfold mi_J7_fill_031fb at h
  refine ev_iconst (x := 0) dJ7_fill_031fb_0 (by decide) ?_
  refine ev_istore_n dJ7_fill_031fb_1 (Nat.le_of_ble_eq_true rfl) rfl rfl ?_
  refine ev_aload_n dJ7_fill_031fb_2 rfl ?_
  refine ev_alen (x := 60) ht0 (by decide) (by decide) dJ7_fill_031fb_3 ?_
  refine ev_istore_n dJ7_fill_031fb_4 (Nat.le_of_ble_eq_true rfl) rfl rfl ?_
  obtain ⟨q3, hq4, h⟩ := ab_bind h
  refine lp_J7_fill_031fb_5 _ M t0 ht0 x1 0 60 _ hq4 ?_
  cases h
  exact ev_return rfl dJ7_fill_031fb_20
end
section
noncomputable def mi_X4_goTo (M : ab_M) (t0 : Nat) (x1 : Int32) : Option (ab_M) :=
  some (ab_pi (ab_pi M t0 2 (x1 / 64)) t0 3 (ab_rem x1 64))

set_option maxHeartbeats 4000000 in
set_option maxRecDepth 100000 in
theorem co_X4_goTo {l : Launch} {D : va_G} {ac : Nat → ClassId} (M : ab_M) (t0 : Nat) (ht0 : ab_isMast t0) (x1 : Int32) (z : ab_M) (h : mi_X4_goTo M t0 x1 = some z) : ab_Con l D ac 1 me_X4_goTo 0 0 [.ref t0, .int x1] ab_SH M (none, ab_SH, z) := by
  refine ab_intro (lv := [some (.ref t0), some (.int x1)]) (by decide) rfl (Nat.le_of_ble_eq_true rfl) rfl ?_
  unfold mi_X4_goTo at h
  refine ev_aload_n dX4_goTo_0 rfl ?_
  refine ev_iload_n dX4_goTo_1 rfl ?_
  refine ev_bipush (x := 64) dX4_goTo_2 (by decide) ?_
  refine ev_idiv dX4_goTo_4 (by decide) ?_
  refine ev_puti fl_RX4_38 ht0 (by decide) (by decide) rfl rfl rfl dX4_goTo_5 ?_
  refine ev_aload_n dX4_goTo_8 rfl ?_
  refine ev_iload_n dX4_goTo_9 rfl ?_
  refine ev_bipush (x := 64) dX4_goTo_10 (by decide) ?_
  refine ev_irem dX4_goTo_12 (by decide) ?_
  refine ev_puti fl_RX4_41 ht0 (by decide) (by decide) rfl rfl rfl dX4_goTo_13 ?_
  cases h
  exact ev_return rfl dX4_goTo_16

noncomputable def mi_X4_begin (M : ab_M) (t0 : Nat) (x1 : Int32) (x2 : Int32) (x3 : Int32) (x4 : Int32) (x5 : Int32) (x6 : Int32) : Option (ab_M) :=
  (mi_X4_goTo (ab_pi (ab_pi M t0 0 x1) t0 1 x2) t0 x3).bind fun q1 =>
  some (ab_pi (ab_pi (ab_pi (ab_pi (ab_pi q1 t0 4 x4) t0 5 x5) t0 6 x6) t0 7 1073741823) t0 8 5)

set_option maxHeartbeats 4000000 in
set_option maxRecDepth 100000 in
theorem co_X4_begin {l : Launch} {D : va_G} {ac : Nat → ClassId} (M : ab_M) (t0 : Nat) (ht0 : ab_isMast t0) (x1 : Int32) (x2 : Int32) (x3 : Int32) (x4 : Int32) (x5 : Int32) (x6 : Int32) (z : ab_M) (h : mi_X4_begin M t0 x1 x2 x3 x4 x5 x6 = some z) : ab_Con l D ac 2 me_X4_begin 0 0 [.ref t0, .int x1, .int x2, .int x3, .int x4, .int x5, .int x6] ab_SH M (none, ab_SH, z) := by
  refine ab_intro (lv := [some (.ref t0), some (.int x1), some (.int x2), some (.int x3), some (.int x4), some (.int x5), some (.int x6)]) (by decide) rfl (Nat.le_of_ble_eq_true rfl) rfl ?_
  unfold mi_X4_begin at h
  refine ev_aload_n dX4_begin_0 rfl ?_
  refine ev_iload_n dX4_begin_1 rfl ?_
  refine ev_puti fl_RX4_9 ht0 (by decide) (by decide) rfl rfl rfl dX4_begin_2 ?_
  refine ev_aload_n dX4_begin_5 rfl ?_
  refine ev_iload_n dX4_begin_6 rfl ?_
  refine ev_puti fl_RX4_15 ht0 (by decide) (by decide) rfl rfl rfl dX4_begin_7 ?_
  refine ev_aload_n dX4_begin_10 rfl ?_
  refine ev_iload_n dX4_begin_11 rfl ?_
  obtain ⟨q1, hv2, h⟩ := ab_bind h
  refine ev_callV (st := []) (co_X4_goTo (ab_pi (ab_pi M t0 0 x1) t0 1 x2) t0 ht0 x3 _ hv2) mv_X4_goTo ht0 ml_RX4_18 dX4_begin_12 (by decide) rfl (Nat.le_of_ble_eq_true rfl) ⟨Nat.le_refl _, Nat.le_refl _⟩ ?_
  refine ev_aload_n dX4_begin_15 rfl ?_
  refine ev_iload dX4_begin_16 rfl ?_
  refine ev_puti fl_RX4_22 ht0 (by decide) (by decide) rfl rfl rfl dX4_begin_18 ?_
  refine ev_aload_n dX4_begin_21 rfl ?_
  refine ev_iload dX4_begin_22 rfl ?_
  refine ev_puti fl_RX4_25 ht0 (by decide) (by decide) rfl rfl rfl dX4_begin_24 ?_
  refine ev_aload_n dX4_begin_27 rfl ?_
  refine ev_iload dX4_begin_28 rfl ?_
  refine ev_puti fl_RX4_28 ht0 (by decide) (by decide) rfl rfl rfl dX4_begin_30 ?_
  refine ev_aload_n dX4_begin_33 rfl ?_
  refine ev_ldc kw_RX4_31 dX4_begin_34 ?_
  refine ev_puti fl_RX4_32 ht0 (by decide) (by decide) rfl rfl rfl dX4_begin_36 ?_
  refine ev_aload_n dX4_begin_39 rfl ?_
  refine ev_iconst (x := 5) dX4_begin_40 (by decide) ?_
  refine ev_puti fl_RX4_35 ht0 (by decide) (by decide) rfl rfl rfl dX4_begin_41 ?_
  cases h
  exact ev_return rfl dX4_begin_44

noncomputable def mi_X4_takeAll (M : ab_M) (t0 : Nat) (t1 : Nat) : Option (ab_M) :=
  some (ab_pi (ab_pi (ab_pi (ab_pi (ab_pi (ab_pi (ab_pi (ab_pi (ab_pi M t0 0 (M.1 t1 0)) t0 1 ((ab_pi M t0 0 (M.1 t1 0)).1 t1 1)) t0 2 ((ab_pi (ab_pi M t0 0 (M.1 t1 0)) t0 1 ((ab_pi M t0 0 (M.1 t1 0)).1 t1 1)).1 t1 2)) t0 3 ((ab_pi (ab_pi (ab_pi M t0 0 (M.1 t1 0)) t0 1 ((ab_pi M t0 0 (M.1 t1 0)).1 t1 1)) t0 2 ((ab_pi (ab_pi M t0 0 (M.1 t1 0)) t0 1 ((ab_pi M t0 0 (M.1 t1 0)).1 t1 1)).1 t1 2)).1 t1 3)) t0 4 ((ab_pi (ab_pi (ab_pi (ab_pi M t0 0 (M.1 t1 0)) t0 1 ((ab_pi M t0 0 (M.1 t1 0)).1 t1 1)) t0 2 ((ab_pi (ab_pi M t0 0 (M.1 t1 0)) t0 1 ((ab_pi M t0 0 (M.1 t1 0)).1 t1 1)).1 t1 2)) t0 3 ((ab_pi (ab_pi (ab_pi M t0 0 (M.1 t1 0)) t0 1 ((ab_pi M t0 0 (M.1 t1 0)).1 t1 1)) t0 2 ((ab_pi (ab_pi M t0 0 (M.1 t1 0)) t0 1 ((ab_pi M t0 0 (M.1 t1 0)).1 t1 1)).1 t1 2)).1 t1 3)).1 t1 4)) t0 5 ((ab_pi (ab_pi (ab_pi (ab_pi (ab_pi M t0 0 (M.1 t1 0)) t0 1 ((ab_pi M t0 0 (M.1 t1 0)).1 t1 1)) t0 2 ((ab_pi (ab_pi M t0 0 (M.1 t1 0)) t0 1 ((ab_pi M t0 0 (M.1 t1 0)).1 t1 1)).1 t1 2)) t0 3 ((ab_pi (ab_pi (ab_pi M t0 0 (M.1 t1 0)) t0 1 ((ab_pi M t0 0 (M.1 t1 0)).1 t1 1)) t0 2 ((ab_pi (ab_pi M t0 0 (M.1 t1 0)) t0 1 ((ab_pi M t0 0 (M.1 t1 0)).1 t1 1)).1 t1 2)).1 t1 3)) t0 4 ((ab_pi (ab_pi (ab_pi (ab_pi M t0 0 (M.1 t1 0)) t0 1 ((ab_pi M t0 0 (M.1 t1 0)).1 t1 1)) t0 2 ((ab_pi (ab_pi M t0 0 (M.1 t1 0)) t0 1 ((ab_pi M t0 0 (M.1 t1 0)).1 t1 1)).1 t1 2)) t0 3 ((ab_pi (ab_pi (ab_pi M t0 0 (M.1 t1 0)) t0 1 ((ab_pi M t0 0 (M.1 t1 0)).1 t1 1)) t0 2 ((ab_pi (ab_pi M t0 0 (M.1 t1 0)) t0 1 ((ab_pi M t0 0 (M.1 t1 0)).1 t1 1)).1 t1 2)).1 t1 3)).1 t1 4)).1 t1 5)) t0 6 ((ab_pi (ab_pi (ab_pi (ab_pi (ab_pi (ab_pi M t0 0 (M.1 t1 0)) t0 1 ((ab_pi M t0 0 (M.1 t1 0)).1 t1 1)) t0 2 ((ab_pi (ab_pi M t0 0 (M.1 t1 0)) t0 1 ((ab_pi M t0 0 (M.1 t1 0)).1 t1 1)).1 t1 2)) t0 3 ((ab_pi (ab_pi (ab_pi M t0 0 (M.1 t1 0)) t0 1 ((ab_pi M t0 0 (M.1 t1 0)).1 t1 1)) t0 2 ((ab_pi (ab_pi M t0 0 (M.1 t1 0)) t0 1 ((ab_pi M t0 0 (M.1 t1 0)).1 t1 1)).1 t1 2)).1 t1 3)) t0 4 ((ab_pi (ab_pi (ab_pi (ab_pi M t0 0 (M.1 t1 0)) t0 1 ((ab_pi M t0 0 (M.1 t1 0)).1 t1 1)) t0 2 ((ab_pi (ab_pi M t0 0 (M.1 t1 0)) t0 1 ((ab_pi M t0 0 (M.1 t1 0)).1 t1 1)).1 t1 2)) t0 3 ((ab_pi (ab_pi (ab_pi M t0 0 (M.1 t1 0)) t0 1 ((ab_pi M t0 0 (M.1 t1 0)).1 t1 1)) t0 2 ((ab_pi (ab_pi M t0 0 (M.1 t1 0)) t0 1 ((ab_pi M t0 0 (M.1 t1 0)).1 t1 1)).1 t1 2)).1 t1 3)).1 t1 4)) t0 5 ((ab_pi (ab_pi (ab_pi (ab_pi (ab_pi M t0 0 (M.1 t1 0)) t0 1 ((ab_pi M t0 0 (M.1 t1 0)).1 t1 1)) t0 2 ((ab_pi (ab_pi M t0 0 (M.1 t1 0)) t0 1 ((ab_pi M t0 0 (M.1 t1 0)).1 t1 1)).1 t1 2)) t0 3 ((ab_pi (ab_pi (ab_pi M t0 0 (M.1 t1 0)) t0 1 ((ab_pi M t0 0 (M.1 t1 0)).1 t1 1)) t0 2 ((ab_pi (ab_pi M t0 0 (M.1 t1 0)) t0 1 ((ab_pi M t0 0 (M.1 t1 0)).1 t1 1)).1 t1 2)).1 t1 3)) t0 4 ((ab_pi (ab_pi (ab_pi (ab_pi M t0 0 (M.1 t1 0)) t0 1 ((ab_pi M t0 0 (M.1 t1 0)).1 t1 1)) t0 2 ((ab_pi (ab_pi M t0 0 (M.1 t1 0)) t0 1 ((ab_pi M t0 0 (M.1 t1 0)).1 t1 1)).1 t1 2)) t0 3 ((ab_pi (ab_pi (ab_pi M t0 0 (M.1 t1 0)) t0 1 ((ab_pi M t0 0 (M.1 t1 0)).1 t1 1)) t0 2 ((ab_pi (ab_pi M t0 0 (M.1 t1 0)) t0 1 ((ab_pi M t0 0 (M.1 t1 0)).1 t1 1)).1 t1 2)).1 t1 3)).1 t1 4)).1 t1 5)).1 t1 6)) t0 7 ((ab_pi (ab_pi (ab_pi (ab_pi (ab_pi (ab_pi (ab_pi M t0 0 (M.1 t1 0)) t0 1 ((ab_pi M t0 0 (M.1 t1 0)).1 t1 1)) t0 2 ((ab_pi (ab_pi M t0 0 (M.1 t1 0)) t0 1 ((ab_pi M t0 0 (M.1 t1 0)).1 t1 1)).1 t1 2)) t0 3 ((ab_pi (ab_pi (ab_pi M t0 0 (M.1 t1 0)) t0 1 ((ab_pi M t0 0 (M.1 t1 0)).1 t1 1)) t0 2 ((ab_pi (ab_pi M t0 0 (M.1 t1 0)) t0 1 ((ab_pi M t0 0 (M.1 t1 0)).1 t1 1)).1 t1 2)).1 t1 3)) t0 4 ((ab_pi (ab_pi (ab_pi (ab_pi M t0 0 (M.1 t1 0)) t0 1 ((ab_pi M t0 0 (M.1 t1 0)).1 t1 1)) t0 2 ((ab_pi (ab_pi M t0 0 (M.1 t1 0)) t0 1 ((ab_pi M t0 0 (M.1 t1 0)).1 t1 1)).1 t1 2)) t0 3 ((ab_pi (ab_pi (ab_pi M t0 0 (M.1 t1 0)) t0 1 ((ab_pi M t0 0 (M.1 t1 0)).1 t1 1)) t0 2 ((ab_pi (ab_pi M t0 0 (M.1 t1 0)) t0 1 ((ab_pi M t0 0 (M.1 t1 0)).1 t1 1)).1 t1 2)).1 t1 3)).1 t1 4)) t0 5 ((ab_pi (ab_pi (ab_pi (ab_pi (ab_pi M t0 0 (M.1 t1 0)) t0 1 ((ab_pi M t0 0 (M.1 t1 0)).1 t1 1)) t0 2 ((ab_pi (ab_pi M t0 0 (M.1 t1 0)) t0 1 ((ab_pi M t0 0 (M.1 t1 0)).1 t1 1)).1 t1 2)) t0 3 ((ab_pi (ab_pi (ab_pi M t0 0 (M.1 t1 0)) t0 1 ((ab_pi M t0 0 (M.1 t1 0)).1 t1 1)) t0 2 ((ab_pi (ab_pi M t0 0 (M.1 t1 0)) t0 1 ((ab_pi M t0 0 (M.1 t1 0)).1 t1 1)).1 t1 2)).1 t1 3)) t0 4 ((ab_pi (ab_pi (ab_pi (ab_pi M t0 0 (M.1 t1 0)) t0 1 ((ab_pi M t0 0 (M.1 t1 0)).1 t1 1)) t0 2 ((ab_pi (ab_pi M t0 0 (M.1 t1 0)) t0 1 ((ab_pi M t0 0 (M.1 t1 0)).1 t1 1)).1 t1 2)) t0 3 ((ab_pi (ab_pi (ab_pi M t0 0 (M.1 t1 0)) t0 1 ((ab_pi M t0 0 (M.1 t1 0)).1 t1 1)) t0 2 ((ab_pi (ab_pi M t0 0 (M.1 t1 0)) t0 1 ((ab_pi M t0 0 (M.1 t1 0)).1 t1 1)).1 t1 2)).1 t1 3)).1 t1 4)).1 t1 5)) t0 6 ((ab_pi (ab_pi (ab_pi (ab_pi (ab_pi (ab_pi M t0 0 (M.1 t1 0)) t0 1 ((ab_pi M t0 0 (M.1 t1 0)).1 t1 1)) t0 2 ((ab_pi (ab_pi M t0 0 (M.1 t1 0)) t0 1 ((ab_pi M t0 0 (M.1 t1 0)).1 t1 1)).1 t1 2)) t0 3 ((ab_pi (ab_pi (ab_pi M t0 0 (M.1 t1 0)) t0 1 ((ab_pi M t0 0 (M.1 t1 0)).1 t1 1)) t0 2 ((ab_pi (ab_pi M t0 0 (M.1 t1 0)) t0 1 ((ab_pi M t0 0 (M.1 t1 0)).1 t1 1)).1 t1 2)).1 t1 3)) t0 4 ((ab_pi (ab_pi (ab_pi (ab_pi M t0 0 (M.1 t1 0)) t0 1 ((ab_pi M t0 0 (M.1 t1 0)).1 t1 1)) t0 2 ((ab_pi (ab_pi M t0 0 (M.1 t1 0)) t0 1 ((ab_pi M t0 0 (M.1 t1 0)).1 t1 1)).1 t1 2)) t0 3 ((ab_pi (ab_pi (ab_pi M t0 0 (M.1 t1 0)) t0 1 ((ab_pi M t0 0 (M.1 t1 0)).1 t1 1)) t0 2 ((ab_pi (ab_pi M t0 0 (M.1 t1 0)) t0 1 ((ab_pi M t0 0 (M.1 t1 0)).1 t1 1)).1 t1 2)).1 t1 3)).1 t1 4)) t0 5 ((ab_pi (ab_pi (ab_pi (ab_pi (ab_pi M t0 0 (M.1 t1 0)) t0 1 ((ab_pi M t0 0 (M.1 t1 0)).1 t1 1)) t0 2 ((ab_pi (ab_pi M t0 0 (M.1 t1 0)) t0 1 ((ab_pi M t0 0 (M.1 t1 0)).1 t1 1)).1 t1 2)) t0 3 ((ab_pi (ab_pi (ab_pi M t0 0 (M.1 t1 0)) t0 1 ((ab_pi M t0 0 (M.1 t1 0)).1 t1 1)) t0 2 ((ab_pi (ab_pi M t0 0 (M.1 t1 0)) t0 1 ((ab_pi M t0 0 (M.1 t1 0)).1 t1 1)).1 t1 2)).1 t1 3)) t0 4 ((ab_pi (ab_pi (ab_pi (ab_pi M t0 0 (M.1 t1 0)) t0 1 ((ab_pi M t0 0 (M.1 t1 0)).1 t1 1)) t0 2 ((ab_pi (ab_pi M t0 0 (M.1 t1 0)) t0 1 ((ab_pi M t0 0 (M.1 t1 0)).1 t1 1)).1 t1 2)) t0 3 ((ab_pi (ab_pi (ab_pi M t0 0 (M.1 t1 0)) t0 1 ((ab_pi M t0 0 (M.1 t1 0)).1 t1 1)) t0 2 ((ab_pi (ab_pi M t0 0 (M.1 t1 0)) t0 1 ((ab_pi M t0 0 (M.1 t1 0)).1 t1 1)).1 t1 2)).1 t1 3)).1 t1 4)).1 t1 5)).1 t1 6)).1 t1 7)) t0 8 ((ab_pi (ab_pi (ab_pi (ab_pi (ab_pi (ab_pi (ab_pi (ab_pi M t0 0 (M.1 t1 0)) t0 1 ((ab_pi M t0 0 (M.1 t1 0)).1 t1 1)) t0 2 ((ab_pi (ab_pi M t0 0 (M.1 t1 0)) t0 1 ((ab_pi M t0 0 (M.1 t1 0)).1 t1 1)).1 t1 2)) t0 3 ((ab_pi (ab_pi (ab_pi M t0 0 (M.1 t1 0)) t0 1 ((ab_pi M t0 0 (M.1 t1 0)).1 t1 1)) t0 2 ((ab_pi (ab_pi M t0 0 (M.1 t1 0)) t0 1 ((ab_pi M t0 0 (M.1 t1 0)).1 t1 1)).1 t1 2)).1 t1 3)) t0 4 ((ab_pi (ab_pi (ab_pi (ab_pi M t0 0 (M.1 t1 0)) t0 1 ((ab_pi M t0 0 (M.1 t1 0)).1 t1 1)) t0 2 ((ab_pi (ab_pi M t0 0 (M.1 t1 0)) t0 1 ((ab_pi M t0 0 (M.1 t1 0)).1 t1 1)).1 t1 2)) t0 3 ((ab_pi (ab_pi (ab_pi M t0 0 (M.1 t1 0)) t0 1 ((ab_pi M t0 0 (M.1 t1 0)).1 t1 1)) t0 2 ((ab_pi (ab_pi M t0 0 (M.1 t1 0)) t0 1 ((ab_pi M t0 0 (M.1 t1 0)).1 t1 1)).1 t1 2)).1 t1 3)).1 t1 4)) t0 5 ((ab_pi (ab_pi (ab_pi (ab_pi (ab_pi M t0 0 (M.1 t1 0)) t0 1 ((ab_pi M t0 0 (M.1 t1 0)).1 t1 1)) t0 2 ((ab_pi (ab_pi M t0 0 (M.1 t1 0)) t0 1 ((ab_pi M t0 0 (M.1 t1 0)).1 t1 1)).1 t1 2)) t0 3 ((ab_pi (ab_pi (ab_pi M t0 0 (M.1 t1 0)) t0 1 ((ab_pi M t0 0 (M.1 t1 0)).1 t1 1)) t0 2 ((ab_pi (ab_pi M t0 0 (M.1 t1 0)) t0 1 ((ab_pi M t0 0 (M.1 t1 0)).1 t1 1)).1 t1 2)).1 t1 3)) t0 4 ((ab_pi (ab_pi (ab_pi (ab_pi M t0 0 (M.1 t1 0)) t0 1 ((ab_pi M t0 0 (M.1 t1 0)).1 t1 1)) t0 2 ((ab_pi (ab_pi M t0 0 (M.1 t1 0)) t0 1 ((ab_pi M t0 0 (M.1 t1 0)).1 t1 1)).1 t1 2)) t0 3 ((ab_pi (ab_pi (ab_pi M t0 0 (M.1 t1 0)) t0 1 ((ab_pi M t0 0 (M.1 t1 0)).1 t1 1)) t0 2 ((ab_pi (ab_pi M t0 0 (M.1 t1 0)) t0 1 ((ab_pi M t0 0 (M.1 t1 0)).1 t1 1)).1 t1 2)).1 t1 3)).1 t1 4)).1 t1 5)) t0 6 ((ab_pi (ab_pi (ab_pi (ab_pi (ab_pi (ab_pi M t0 0 (M.1 t1 0)) t0 1 ((ab_pi M t0 0 (M.1 t1 0)).1 t1 1)) t0 2 ((ab_pi (ab_pi M t0 0 (M.1 t1 0)) t0 1 ((ab_pi M t0 0 (M.1 t1 0)).1 t1 1)).1 t1 2)) t0 3 ((ab_pi (ab_pi (ab_pi M t0 0 (M.1 t1 0)) t0 1 ((ab_pi M t0 0 (M.1 t1 0)).1 t1 1)) t0 2 ((ab_pi (ab_pi M t0 0 (M.1 t1 0)) t0 1 ((ab_pi M t0 0 (M.1 t1 0)).1 t1 1)).1 t1 2)).1 t1 3)) t0 4 ((ab_pi (ab_pi (ab_pi (ab_pi M t0 0 (M.1 t1 0)) t0 1 ((ab_pi M t0 0 (M.1 t1 0)).1 t1 1)) t0 2 ((ab_pi (ab_pi M t0 0 (M.1 t1 0)) t0 1 ((ab_pi M t0 0 (M.1 t1 0)).1 t1 1)).1 t1 2)) t0 3 ((ab_pi (ab_pi (ab_pi M t0 0 (M.1 t1 0)) t0 1 ((ab_pi M t0 0 (M.1 t1 0)).1 t1 1)) t0 2 ((ab_pi (ab_pi M t0 0 (M.1 t1 0)) t0 1 ((ab_pi M t0 0 (M.1 t1 0)).1 t1 1)).1 t1 2)).1 t1 3)).1 t1 4)) t0 5 ((ab_pi (ab_pi (ab_pi (ab_pi (ab_pi M t0 0 (M.1 t1 0)) t0 1 ((ab_pi M t0 0 (M.1 t1 0)).1 t1 1)) t0 2 ((ab_pi (ab_pi M t0 0 (M.1 t1 0)) t0 1 ((ab_pi M t0 0 (M.1 t1 0)).1 t1 1)).1 t1 2)) t0 3 ((ab_pi (ab_pi (ab_pi M t0 0 (M.1 t1 0)) t0 1 ((ab_pi M t0 0 (M.1 t1 0)).1 t1 1)) t0 2 ((ab_pi (ab_pi M t0 0 (M.1 t1 0)) t0 1 ((ab_pi M t0 0 (M.1 t1 0)).1 t1 1)).1 t1 2)).1 t1 3)) t0 4 ((ab_pi (ab_pi (ab_pi (ab_pi M t0 0 (M.1 t1 0)) t0 1 ((ab_pi M t0 0 (M.1 t1 0)).1 t1 1)) t0 2 ((ab_pi (ab_pi M t0 0 (M.1 t1 0)) t0 1 ((ab_pi M t0 0 (M.1 t1 0)).1 t1 1)).1 t1 2)) t0 3 ((ab_pi (ab_pi (ab_pi M t0 0 (M.1 t1 0)) t0 1 ((ab_pi M t0 0 (M.1 t1 0)).1 t1 1)) t0 2 ((ab_pi (ab_pi M t0 0 (M.1 t1 0)) t0 1 ((ab_pi M t0 0 (M.1 t1 0)).1 t1 1)).1 t1 2)).1 t1 3)).1 t1 4)).1 t1 5)).1 t1 6)) t0 7 ((ab_pi (ab_pi (ab_pi (ab_pi (ab_pi (ab_pi (ab_pi M t0 0 (M.1 t1 0)) t0 1 ((ab_pi M t0 0 (M.1 t1 0)).1 t1 1)) t0 2 ((ab_pi (ab_pi M t0 0 (M.1 t1 0)) t0 1 ((ab_pi M t0 0 (M.1 t1 0)).1 t1 1)).1 t1 2)) t0 3 ((ab_pi (ab_pi (ab_pi M t0 0 (M.1 t1 0)) t0 1 ((ab_pi M t0 0 (M.1 t1 0)).1 t1 1)) t0 2 ((ab_pi (ab_pi M t0 0 (M.1 t1 0)) t0 1 ((ab_pi M t0 0 (M.1 t1 0)).1 t1 1)).1 t1 2)).1 t1 3)) t0 4 ((ab_pi (ab_pi (ab_pi (ab_pi M t0 0 (M.1 t1 0)) t0 1 ((ab_pi M t0 0 (M.1 t1 0)).1 t1 1)) t0 2 ((ab_pi (ab_pi M t0 0 (M.1 t1 0)) t0 1 ((ab_pi M t0 0 (M.1 t1 0)).1 t1 1)).1 t1 2)) t0 3 ((ab_pi (ab_pi (ab_pi M t0 0 (M.1 t1 0)) t0 1 ((ab_pi M t0 0 (M.1 t1 0)).1 t1 1)) t0 2 ((ab_pi (ab_pi M t0 0 (M.1 t1 0)) t0 1 ((ab_pi M t0 0 (M.1 t1 0)).1 t1 1)).1 t1 2)).1 t1 3)).1 t1 4)) t0 5 ((ab_pi (ab_pi (ab_pi (ab_pi (ab_pi M t0 0 (M.1 t1 0)) t0 1 ((ab_pi M t0 0 (M.1 t1 0)).1 t1 1)) t0 2 ((ab_pi (ab_pi M t0 0 (M.1 t1 0)) t0 1 ((ab_pi M t0 0 (M.1 t1 0)).1 t1 1)).1 t1 2)) t0 3 ((ab_pi (ab_pi (ab_pi M t0 0 (M.1 t1 0)) t0 1 ((ab_pi M t0 0 (M.1 t1 0)).1 t1 1)) t0 2 ((ab_pi (ab_pi M t0 0 (M.1 t1 0)) t0 1 ((ab_pi M t0 0 (M.1 t1 0)).1 t1 1)).1 t1 2)).1 t1 3)) t0 4 ((ab_pi (ab_pi (ab_pi (ab_pi M t0 0 (M.1 t1 0)) t0 1 ((ab_pi M t0 0 (M.1 t1 0)).1 t1 1)) t0 2 ((ab_pi (ab_pi M t0 0 (M.1 t1 0)) t0 1 ((ab_pi M t0 0 (M.1 t1 0)).1 t1 1)).1 t1 2)) t0 3 ((ab_pi (ab_pi (ab_pi M t0 0 (M.1 t1 0)) t0 1 ((ab_pi M t0 0 (M.1 t1 0)).1 t1 1)) t0 2 ((ab_pi (ab_pi M t0 0 (M.1 t1 0)) t0 1 ((ab_pi M t0 0 (M.1 t1 0)).1 t1 1)).1 t1 2)).1 t1 3)).1 t1 4)).1 t1 5)) t0 6 ((ab_pi (ab_pi (ab_pi (ab_pi (ab_pi (ab_pi M t0 0 (M.1 t1 0)) t0 1 ((ab_pi M t0 0 (M.1 t1 0)).1 t1 1)) t0 2 ((ab_pi (ab_pi M t0 0 (M.1 t1 0)) t0 1 ((ab_pi M t0 0 (M.1 t1 0)).1 t1 1)).1 t1 2)) t0 3 ((ab_pi (ab_pi (ab_pi M t0 0 (M.1 t1 0)) t0 1 ((ab_pi M t0 0 (M.1 t1 0)).1 t1 1)) t0 2 ((ab_pi (ab_pi M t0 0 (M.1 t1 0)) t0 1 ((ab_pi M t0 0 (M.1 t1 0)).1 t1 1)).1 t1 2)).1 t1 3)) t0 4 ((ab_pi (ab_pi (ab_pi (ab_pi M t0 0 (M.1 t1 0)) t0 1 ((ab_pi M t0 0 (M.1 t1 0)).1 t1 1)) t0 2 ((ab_pi (ab_pi M t0 0 (M.1 t1 0)) t0 1 ((ab_pi M t0 0 (M.1 t1 0)).1 t1 1)).1 t1 2)) t0 3 ((ab_pi (ab_pi (ab_pi M t0 0 (M.1 t1 0)) t0 1 ((ab_pi M t0 0 (M.1 t1 0)).1 t1 1)) t0 2 ((ab_pi (ab_pi M t0 0 (M.1 t1 0)) t0 1 ((ab_pi M t0 0 (M.1 t1 0)).1 t1 1)).1 t1 2)).1 t1 3)).1 t1 4)) t0 5 ((ab_pi (ab_pi (ab_pi (ab_pi (ab_pi M t0 0 (M.1 t1 0)) t0 1 ((ab_pi M t0 0 (M.1 t1 0)).1 t1 1)) t0 2 ((ab_pi (ab_pi M t0 0 (M.1 t1 0)) t0 1 ((ab_pi M t0 0 (M.1 t1 0)).1 t1 1)).1 t1 2)) t0 3 ((ab_pi (ab_pi (ab_pi M t0 0 (M.1 t1 0)) t0 1 ((ab_pi M t0 0 (M.1 t1 0)).1 t1 1)) t0 2 ((ab_pi (ab_pi M t0 0 (M.1 t1 0)) t0 1 ((ab_pi M t0 0 (M.1 t1 0)).1 t1 1)).1 t1 2)).1 t1 3)) t0 4 ((ab_pi (ab_pi (ab_pi (ab_pi M t0 0 (M.1 t1 0)) t0 1 ((ab_pi M t0 0 (M.1 t1 0)).1 t1 1)) t0 2 ((ab_pi (ab_pi M t0 0 (M.1 t1 0)) t0 1 ((ab_pi M t0 0 (M.1 t1 0)).1 t1 1)).1 t1 2)) t0 3 ((ab_pi (ab_pi (ab_pi M t0 0 (M.1 t1 0)) t0 1 ((ab_pi M t0 0 (M.1 t1 0)).1 t1 1)) t0 2 ((ab_pi (ab_pi M t0 0 (M.1 t1 0)) t0 1 ((ab_pi M t0 0 (M.1 t1 0)).1 t1 1)).1 t1 2)).1 t1 3)).1 t1 4)).1 t1 5)).1 t1 6)).1 t1 7)).1 t1 8))

set_option maxHeartbeats 4000000 in
set_option maxRecDepth 100000 in
theorem co_X4_takeAll {l : Launch} {D : va_G} {ac : Nat → ClassId} (M : ab_M) (t0 : Nat) (ht0 : ab_isMast t0) (t1 : Nat) (ht1 : ab_isMast t1) (z : ab_M) (h : mi_X4_takeAll M t0 t1 = some z) : ab_Con l D ac 1 me_X4_takeAll 0 0 [.ref t0, .ref t1] ab_SH M (none, ab_SH, z) := by
  refine ab_intro (lv := [some (.ref t0), some (.ref t1)]) (by decide) rfl (Nat.le_of_ble_eq_true rfl) rfl ?_
  unfold mi_X4_takeAll at h
  refine ev_aload_n dX4_takeAll_0 rfl ?_
  refine ev_aload_n dX4_takeAll_1 rfl ?_
  refine ev_geti fl_RX4_9 ht1 (by decide) (by decide) rfl dX4_takeAll_2 ?_
  refine ev_puti fl_RX4_9 ht0 (by decide) (by decide) rfl rfl rfl dX4_takeAll_5 ?_
  refine ev_aload_n dX4_takeAll_8 rfl ?_
  refine ev_aload_n dX4_takeAll_9 rfl ?_
  refine ev_geti fl_RX4_15 ht1 (by decide) (by decide) rfl dX4_takeAll_10 ?_
  refine ev_puti fl_RX4_15 ht0 (by decide) (by decide) rfl rfl rfl dX4_takeAll_13 ?_
  refine ev_aload_n dX4_takeAll_16 rfl ?_
  refine ev_aload_n dX4_takeAll_17 rfl ?_
  refine ev_geti fl_RX4_38 ht1 (by decide) (by decide) rfl dX4_takeAll_18 ?_
  refine ev_puti fl_RX4_38 ht0 (by decide) (by decide) rfl rfl rfl dX4_takeAll_21 ?_
  refine ev_aload_n dX4_takeAll_24 rfl ?_
  refine ev_aload_n dX4_takeAll_25 rfl ?_
  refine ev_geti fl_RX4_41 ht1 (by decide) (by decide) rfl dX4_takeAll_26 ?_
  refine ev_puti fl_RX4_41 ht0 (by decide) (by decide) rfl rfl rfl dX4_takeAll_29 ?_
  refine ev_aload_n dX4_takeAll_32 rfl ?_
  refine ev_aload_n dX4_takeAll_33 rfl ?_
  refine ev_geti fl_RX4_22 ht1 (by decide) (by decide) rfl dX4_takeAll_34 ?_
  refine ev_puti fl_RX4_22 ht0 (by decide) (by decide) rfl rfl rfl dX4_takeAll_37 ?_
  refine ev_aload_n dX4_takeAll_40 rfl ?_
  refine ev_aload_n dX4_takeAll_41 rfl ?_
  refine ev_geti fl_RX4_25 ht1 (by decide) (by decide) rfl dX4_takeAll_42 ?_
  refine ev_puti fl_RX4_25 ht0 (by decide) (by decide) rfl rfl rfl dX4_takeAll_45 ?_
  refine ev_aload_n dX4_takeAll_48 rfl ?_
  refine ev_aload_n dX4_takeAll_49 rfl ?_
  refine ev_geti fl_RX4_28 ht1 (by decide) (by decide) rfl dX4_takeAll_50 ?_
  refine ev_puti fl_RX4_28 ht0 (by decide) (by decide) rfl rfl rfl dX4_takeAll_53 ?_
  refine ev_aload_n dX4_takeAll_56 rfl ?_
  refine ev_aload_n dX4_takeAll_57 rfl ?_
  refine ev_geti fl_RX4_32 ht1 (by decide) (by decide) rfl dX4_takeAll_58 ?_
  refine ev_puti fl_RX4_32 ht0 (by decide) (by decide) rfl rfl rfl dX4_takeAll_61 ?_
  refine ev_aload_n dX4_takeAll_64 rfl ?_
  refine ev_aload_n dX4_takeAll_65 rfl ?_
  refine ev_geti fl_RX4_35 ht1 (by decide) (by decide) rfl dX4_takeAll_66 ?_
  refine ev_puti fl_RX4_35 ht0 (by decide) (by decide) rfl rfl rfl dX4_takeAll_69 ?_
  cases h
  exact ev_return rfl dX4_takeAll_72

noncomputable def mi_X4_trait (M : ab_M) (t0 : Nat) (x1 : Int32) : Option (Int32) :=
  if x1 = 0 then
    some (M.1 t0 1)
  else
    if x1 = 1 then
      some (M.1 t0 2)
    else
      if x1 = 2 then
        some (M.1 t0 3)
      else
        if x1 = 3 then
          some (M.1 t0 4)
        else
          if x1 = 4 then
            some (M.1 t0 5)
          else
            if x1 = 5 then
              some (M.1 t0 6)
            else
              if x1 = 6 then
                (mi_J6_bitCount_0f7a4 M (M.1 t0 7)).bind fun q8 =>
                some q8
              else
                if x1 = 7 then
                  if (M.1 t0 1) = 1 then
                    some (M.1 t0 8)
                  else
                    some (-2)
                else
                  some (-1)

set_option maxHeartbeats 4000000 in
set_option maxRecDepth 100000 in
theorem co_X4_trait {l : Launch} {D : va_G} {ac : Nat → ClassId} (M : ab_M) (t0 : Nat) (ht0 : ab_isMast t0) (x1 : Int32) (z : Int32) (h : mi_X4_trait M t0 x1 = some z) : ab_Con l D ac 2 me_X4_trait 0 0 [.ref t0, .int x1] ab_SH M (some (.int z), ab_SH, M) := by
  refine ab_intro (lv := [some (.ref t0), some (.int x1)]) (by decide) rfl (Nat.le_of_ble_eq_true rfl) rfl ?_
  unfold mi_X4_trait at h
  refine ev_iload_n dX4_trait_0 rfl ?_
  by_cases hc1 : x1 = 0
  · replace h := ab_pos hc1 h
    have hx19 : (x1 : Int32).toInt = 0 := by rw [hc1]; decide
    refine ev_tableIn (t := 48) (off := 47) dX4_trait_1 (by rw [hx19]; decide) (by rw [hx19]; decide) (by rw [hx19]; rfl) (by decide) ?_
    refine ev_aload_n dX4_trait_48 rfl ?_
    refine ev_geti fl_RX4_15 ht0 (by decide) (by decide) rfl dX4_trait_49 ?_
    cases h
    exact ev_ireturn rfl dX4_trait_52
  · replace h := ab_neg hc1 h
    by_cases hc2 : x1 = 1
    · replace h := ab_pos hc2 h
      have hx18 : (x1 : Int32).toInt = 1 := by rw [hc2]; decide
      refine ev_tableIn (t := 53) (off := 52) dX4_trait_1 (by rw [hx18]; decide) (by rw [hx18]; decide) (by rw [hx18]; rfl) (by decide) ?_
      refine ev_aload_n dX4_trait_53 rfl ?_
      refine ev_geti fl_RX4_38 ht0 (by decide) (by decide) rfl dX4_trait_54 ?_
      cases h
      exact ev_ireturn rfl dX4_trait_57
    · replace h := ab_neg hc2 h
      by_cases hc3 : x1 = 2
      · replace h := ab_pos hc3 h
        have hx17 : (x1 : Int32).toInt = 2 := by rw [hc3]; decide
        refine ev_tableIn (t := 58) (off := 57) dX4_trait_1 (by rw [hx17]; decide) (by rw [hx17]; decide) (by rw [hx17]; rfl) (by decide) ?_
        refine ev_aload_n dX4_trait_58 rfl ?_
        refine ev_geti fl_RX4_41 ht0 (by decide) (by decide) rfl dX4_trait_59 ?_
        cases h
        exact ev_ireturn rfl dX4_trait_62
      · replace h := ab_neg hc3 h
        by_cases hc4 : x1 = 3
        · replace h := ab_pos hc4 h
          have hx16 : (x1 : Int32).toInt = 3 := by rw [hc4]; decide
          refine ev_tableIn (t := 63) (off := 62) dX4_trait_1 (by rw [hx16]; decide) (by rw [hx16]; decide) (by rw [hx16]; rfl) (by decide) ?_
          refine ev_aload_n dX4_trait_63 rfl ?_
          refine ev_geti fl_RX4_22 ht0 (by decide) (by decide) rfl dX4_trait_64 ?_
          cases h
          exact ev_ireturn rfl dX4_trait_67
        · replace h := ab_neg hc4 h
          by_cases hc5 : x1 = 4
          · replace h := ab_pos hc5 h
            have hx15 : (x1 : Int32).toInt = 4 := by rw [hc5]; decide
            refine ev_tableIn (t := 68) (off := 67) dX4_trait_1 (by rw [hx15]; decide) (by rw [hx15]; decide) (by rw [hx15]; rfl) (by decide) ?_
            refine ev_aload_n dX4_trait_68 rfl ?_
            refine ev_geti fl_RX4_25 ht0 (by decide) (by decide) rfl dX4_trait_69 ?_
            cases h
            exact ev_ireturn rfl dX4_trait_72
          · replace h := ab_neg hc5 h
            by_cases hc6 : x1 = 5
            · replace h := ab_pos hc6 h
              have hx14 : (x1 : Int32).toInt = 5 := by rw [hc6]; decide
              refine ev_tableIn (t := 73) (off := 72) dX4_trait_1 (by rw [hx14]; decide) (by rw [hx14]; decide) (by rw [hx14]; rfl) (by decide) ?_
              refine ev_aload_n dX4_trait_73 rfl ?_
              refine ev_geti fl_RX4_28 ht0 (by decide) (by decide) rfl dX4_trait_74 ?_
              cases h
              exact ev_ireturn rfl dX4_trait_77
            · replace h := ab_neg hc6 h
              by_cases hc7 : x1 = 6
              · replace h := ab_pos hc7 h
                have hx13 : (x1 : Int32).toInt = 6 := by rw [hc7]; decide
                refine ev_tableIn (t := 78) (off := 77) dX4_trait_1 (by rw [hx13]; decide) (by rw [hx13]; decide) (by rw [hx13]; rfl) (by decide) ?_
                refine ev_aload_n dX4_trait_78 rfl ?_
                refine ev_geti fl_RX4_32 ht0 (by decide) (by decide) rfl dX4_trait_79 ?_
                obtain ⟨q8, hv9, h⟩ := ab_bind h
                refine ev_callS (st := []) (co_J6_bitCount_0f7a4 M (M.1 t0 7) _ hv9) mv_J6_bitCount_0f7a4 ml_RX4_44 dX4_trait_82 (by decide) rfl (Nat.le_of_ble_eq_true rfl) ⟨Nat.le_refl _, Nat.le_refl _⟩ ?_
                cases h
                exact ev_ireturn rfl dX4_trait_85
              · replace h := ab_neg hc7 h
                by_cases hc10 : x1 = 7
                · replace h := ab_pos hc10 h
                  have hx12 : (x1 : Int32).toInt = 7 := by rw [hc10]; decide
                  refine ev_tableIn (t := 86) (off := 85) dX4_trait_1 (by rw [hx12]; decide) (by rw [hx12]; decide) (by rw [hx12]; rfl) (by decide) ?_
                  refine ev_aload_n dX4_trait_86 rfl ?_
                  refine ev_geti fl_RX4_15 ht0 (by decide) (by decide) rfl dX4_trait_87 ?_
                  refine ev_iconst (x := 1) dX4_trait_90 (by decide) ?_
                  refine ev_icmp_ne (t := 101) dX4_trait_91 (by decide) (fun hc11 => ?_) (fun hc11 => ?_)
                  · replace h := ab_neg hc11 h
                    refine ev_bipush (x := (-2)) dX4_trait_101 (by decide) ?_
                    cases h
                    exact ev_ireturn rfl dX4_trait_103
                  · replace h := ab_pos hc11 h
                    refine ev_aload_n dX4_trait_94 rfl ?_
                    refine ev_geti fl_RX4_35 ht0 (by decide) (by decide) rfl dX4_trait_95 ?_
                    refine ev_goto (t := 103) dX4_trait_98 (by decide) ?_
                    cases h
                    exact ev_ireturn rfl dX4_trait_103
                · replace h := ab_neg hc10 h
                  have ehc1 := lv_neT (a := 0) hc1 (by decide)
                  have ehc2 := lv_neT (a := 1) hc2 (by decide)
                  have ehc3 := lv_neT (a := 2) hc3 (by decide)
                  have ehc4 := lv_neT (a := 3) hc4 (by decide)
                  have ehc5 := lv_neT (a := 4) hc5 (by decide)
                  have ehc6 := lv_neT (a := 5) hc6 (by decide)
                  have ehc7 := lv_neT (a := 6) hc7 (by decide)
                  have ehc10 := lv_neT (a := 7) hc10 (by decide)
                  refine ev_tableOut (t := 104) dX4_trait_1 (by omega) (by decide) ?_
                  refine ev_iconst (x := (-1)) dX4_trait_104 (by decide) ?_
                  cases h
                  exact ev_ireturn rfl dX4_trait_105

noncomputable def mi_X4_heaviness (M : ab_M) (t0 : Nat) : Option (Int32) :=
  if (M.1 t0 1) = 1 then
    some ((((M.1 t0 0) + (5 * (M.1 t0 5))) + (M.1 t0 4)) + (M.1 t0 8))
  else
    if (M.1 t0 1) = 2 then
      some ((((M.1 t0 0) + (5 * (M.1 t0 5))) + (M.1 t0 4)) + 100)
    else
      if (M.1 t0 1) = 3 then
        some (2 * (((M.1 t0 0) + (5 * (M.1 t0 5))) + (M.1 t0 4)))
      else
        some (((M.1 t0 0) + (5 * (M.1 t0 5))) + (M.1 t0 4))

set_option maxHeartbeats 4000000 in
set_option maxRecDepth 100000 in
theorem co_X4_heaviness {l : Launch} {D : va_G} {ac : Nat → ClassId} (M : ab_M) (t0 : Nat) (ht0 : ab_isMast t0) (z : Int32) (h : mi_X4_heaviness M t0 = some z) : ab_Con l D ac 1 me_X4_heaviness 0 0 [.ref t0] ab_SH M (some (.int z), ab_SH, M) := by
  refine ab_intro (lv := [some (.ref t0), none]) (by decide) rfl (Nat.le_of_ble_eq_true rfl) rfl ?_
  unfold mi_X4_heaviness at h
  refine ev_aload_n dX4_heaviness_0 rfl ?_
  refine ev_geti fl_RX4_9 ht0 (by decide) (by decide) rfl dX4_heaviness_1 ?_
  refine ev_iconst (x := 5) dX4_heaviness_4 (by decide) ?_
  refine ev_aload_n dX4_heaviness_5 rfl ?_
  refine ev_geti fl_RX4_25 ht0 (by decide) (by decide) rfl dX4_heaviness_6 ?_
  refine ev_imul dX4_heaviness_9 ?_
  refine ev_iadd dX4_heaviness_10 ?_
  refine ev_aload_n dX4_heaviness_11 rfl ?_
  refine ev_geti fl_RX4_22 ht0 (by decide) (by decide) rfl dX4_heaviness_12 ?_
  refine ev_iadd dX4_heaviness_15 ?_
  refine ev_istore_n dX4_heaviness_16 (Nat.le_of_ble_eq_true rfl) rfl rfl ?_
  refine ev_aload_n dX4_heaviness_17 rfl ?_
  refine ev_geti fl_RX4_15 ht0 (by decide) (by decide) rfl dX4_heaviness_18 ?_
  by_cases hc1 : (M.1 t0 1) = 1
  · replace h := ab_pos hc1 h
    have hx6 : (M.1 t0 1 : Int32).toInt = 1 := by rw [hc1]; decide
    refine ev_tableIn (t := 48) (off := 27) dX4_heaviness_21 (by rw [hx6]; decide) (by rw [hx6]; decide) (by rw [hx6]; rfl) (by decide) ?_
    refine ev_iload_n dX4_heaviness_48 rfl ?_
    refine ev_aload_n dX4_heaviness_49 rfl ?_
    refine ev_geti fl_RX4_35 ht0 (by decide) (by decide) rfl dX4_heaviness_50 ?_
    refine ev_iadd dX4_heaviness_53 ?_
    cases h
    exact ev_ireturn rfl dX4_heaviness_54
  · replace h := ab_neg hc1 h
    by_cases hc2 : (M.1 t0 1) = 2
    · replace h := ab_pos hc2 h
      have hx5 : (M.1 t0 1 : Int32).toInt = 2 := by rw [hc2]; decide
      refine ev_tableIn (t := 55) (off := 34) dX4_heaviness_21 (by rw [hx5]; decide) (by rw [hx5]; decide) (by rw [hx5]; rfl) (by decide) ?_
      refine ev_iload_n dX4_heaviness_55 rfl ?_
      refine ev_bipush (x := 100) dX4_heaviness_56 (by decide) ?_
      refine ev_iadd dX4_heaviness_58 ?_
      cases h
      exact ev_ireturn rfl dX4_heaviness_59
    · replace h := ab_neg hc2 h
      by_cases hc3 : (M.1 t0 1) = 3
      · replace h := ab_pos hc3 h
        have hx4 : (M.1 t0 1 : Int32).toInt = 3 := by rw [hc3]; decide
        refine ev_tableIn (t := 60) (off := 39) dX4_heaviness_21 (by rw [hx4]; decide) (by rw [hx4]; decide) (by rw [hx4]; rfl) (by decide) ?_
        refine ev_iconst (x := 2) dX4_heaviness_60 (by decide) ?_
        refine ev_iload_n dX4_heaviness_61 rfl ?_
        refine ev_imul dX4_heaviness_62 ?_
        cases h
        exact ev_ireturn rfl dX4_heaviness_63
      · replace h := ab_neg hc3 h
        have ehc1 := lv_neT (a := 1) hc1 (by decide)
        have ehc2 := lv_neT (a := 2) hc2 (by decide)
        have ehc3 := lv_neT (a := 3) hc3 (by decide)
        refine ev_tableOut (t := 64) dX4_heaviness_21 (by omega) (by decide) ?_
        refine ev_iload_n dX4_heaviness_64 rfl ?_
        cases h
        exact ev_ireturn rfl dX4_heaviness_65
end
section
noncomputable def mi_X7_add (M : ab_M) (x1 : Int32) (x2 : Int32) (x3 : Int32) : Option (ab_M) :=
  if 8 ≤ (M.1 5 3) then
    some M
  else
    ab_chk (vp_in (M.1 5 3) 8) <|
    ab_chk (vp_in ((ab_pi M 6 (M.1 5 3).toNatClampNeg x1).1 5 3) 8) <|
    ab_chk (vp_in ((ab_pi (ab_pi M 6 (M.1 5 3).toNatClampNeg x1) 7 ((ab_pi M 6 (M.1 5 3).toNatClampNeg x1).1 5 3).toNatClampNeg x2).1 5 3) 8) <|
    some (ab_pi (ab_pi (ab_pi (ab_pi M 6 (M.1 5 3).toNatClampNeg x1) 7 ((ab_pi M 6 (M.1 5 3).toNatClampNeg x1).1 5 3).toNatClampNeg x2) 8 ((ab_pi (ab_pi M 6 (M.1 5 3).toNatClampNeg x1) 7 ((ab_pi M 6 (M.1 5 3).toNatClampNeg x1).1 5 3).toNatClampNeg x2).1 5 3).toNatClampNeg x3) 5 3 (((ab_pi (ab_pi (ab_pi M 6 (M.1 5 3).toNatClampNeg x1) 7 ((ab_pi M 6 (M.1 5 3).toNatClampNeg x1).1 5 3).toNatClampNeg x2) 8 ((ab_pi (ab_pi M 6 (M.1 5 3).toNatClampNeg x1) 7 ((ab_pi M 6 (M.1 5 3).toNatClampNeg x1).1 5 3).toNatClampNeg x2).1 5 3).toNatClampNeg x3).1 5 3) + 1))

set_option maxHeartbeats 4000000 in
set_option maxRecDepth 100000 in
theorem co_X7_add {l : Launch} {D : va_G} {ac : Nat → ClassId} (M : ab_M) (x1 : Int32) (x2 : Int32) (x3 : Int32) (z : ab_M) (h : mi_X7_add M x1 x2 x3 = some z) : ab_Con l D ac 1 me_X7_add 0 0 [.ref 5, .int x1, .int x2, .int x3] ab_SH M (none, ab_SH, z) := by
  refine ab_intro (lv := [some (.ref 5), some (.int x1), some (.int x2), some (.int x3)]) (by decide) rfl (Nat.le_of_ble_eq_true rfl) rfl ?_
  unfold mi_X7_add at h
  refine ev_aload_n dX7_add_0 rfl ?_
  refine ev_geti fl_RX7_21 sh_5 (by decide) (by decide) rfl dX7_add_1 ?_
  refine ev_bipush (x := 8) dX7_add_4 (by decide) ?_
  refine ev_icmp_ge (t := 49) dX7_add_6 (by decide) (fun hc1 => ?_) (fun hc1 => ?_)
  · replace h := ab_pos hc1 h
    cases h
    exact ev_return rfl dX7_add_49
  · replace h := ab_neg hc1 h
    refine ev_aload_n dX7_add_9 rfl ?_
    refine ev_getr (o' := 6) fl_RX7_9 sh_5 (by decide) (by decide) rfl rfl dX7_add_10 ?_
    refine ev_aload_n dX7_add_13 rfl ?_
    refine ev_geti fl_RX7_21 sh_5 (by decide) (by decide) rfl dX7_add_14 ?_
    refine ev_iload_n dX7_add_17 rfl ?_
    obtain ⟨hb2, h⟩ := ab_chk_some h
    refine ev_iastore sh_6 hb2 dX7_add_18 ?_
    refine ev_aload_n dX7_add_19 rfl ?_
    refine ev_getr (o' := 7) fl_RX7_15 sh_5 (by decide) (by decide) rfl rfl dX7_add_20 ?_
    refine ev_aload_n dX7_add_23 rfl ?_
    refine ev_geti fl_RX7_21 sh_5 (by decide) (by decide) rfl dX7_add_24 ?_
    refine ev_iload_n dX7_add_27 rfl ?_
    obtain ⟨hb3, h⟩ := ab_chk_some h
    refine ev_iastore sh_7 hb3 dX7_add_28 ?_
    refine ev_aload_n dX7_add_29 rfl ?_
    refine ev_getr (o' := 8) fl_RX7_18 sh_5 (by decide) (by decide) rfl rfl dX7_add_30 ?_
    refine ev_aload_n dX7_add_33 rfl ?_
    refine ev_geti fl_RX7_21 sh_5 (by decide) (by decide) rfl dX7_add_34 ?_
    refine ev_iload_n dX7_add_37 rfl ?_
    obtain ⟨hb4, h⟩ := ab_chk_some h
    refine ev_iastore sh_8 hb4 dX7_add_38 ?_
    refine ev_aload_n dX7_add_39 rfl ?_
    refine ev_dup dX7_add_40 rfl ?_
    refine ev_geti fl_RX7_21 sh_5 (by decide) (by decide) rfl dX7_add_41 ?_
    refine ev_iconst (x := 1) dX7_add_44 (by decide) ?_
    refine ev_iadd dX7_add_45 ?_
    refine ev_puti fl_RX7_21 sh_5 (by decide) (by decide) rfl rfl rfl dX7_add_46 ?_
    cases h
    exact ev_return rfl dX7_add_49

noncomputable def mi_X7_greatest_5 : Nat → ab_M → Int32 → Int32 → Int32 → Int32 → Option (Int32 × Int32)
  | 0, _, _, _, _, _ => none
  | n + 1, M, x1, x2, x3, x4 =>
    if (M.1 5 3) ≤ x4 then
      some (x3, x4)
    else
      ab_chk (vp_in x4 8) <|
      ((if (M.1 6 (x4).toNatClampNeg) < x1 then
        some x3
      else
        ab_chk (vp_in x4 8) <|
        if x2 < (M.1 7 (x4).toNatClampNeg) then
          some x3
        else
          ab_chk (vp_in x4 8) <|
          some (ab_max x3 (M.1 8 (x4).toNatClampNeg))) : Option (Int32)).bind fun q3 =>
      mi_X7_greatest_5 n M x1 x2 q3 (x4 + 1)

set_option maxHeartbeats 4000000 in
set_option maxRecDepth 100000 in
theorem lp_X7_greatest_5 {l : Launch} {D : va_G} {ac : Nat → ClassId} {n0 : Nat} {r : ab_Rs} : ∀ (n : Nat) (M : ab_M) (x1 : Int32) (x2 : Int32) (x3 : Int32) (x4 : Int32) (q : Int32 × Int32) (h : mi_X7_greatest_5 n M x1 x2 x3 x4 = some q) (kk : ab_Ev l D ac 2 me_X7_greatest n0 0 0 r 0 0 ab_SH 54 [some (.ref 5), some (.int x1), some (.int x2), some (.int q.1), some (.int q.2)] [] M), ab_Ev l D ac 2 me_X7_greatest n0 0 0 r 0 0 ab_SH 5 [some (.ref 5), some (.int x1), some (.int x2), some (.int x3), some (.int x4)] [] M := by
  intro n
  induction n with
  | zero =>
    intro M x1 x2 x3 x4 q h kk
    cases h
  | succ n ih =>
    intro M x1 x2 x3 x4 q h kk
    unfold mi_X7_greatest_5 at h
    refine ev_iload dX7_greatest_5 rfl ?_
    refine ev_aload_n dX7_greatest_7 rfl ?_
    refine ev_geti fl_RX7_21 sh_5 (by decide) (by decide) rfl dX7_greatest_8 ?_
    refine ev_icmp_ge (t := 54) dX7_greatest_11 (by decide) (fun hc1 => ?_) (fun hc1 => ?_)
    · replace h := ab_pos hc1 h
      cases h
      exact kk
    · replace h := ab_neg hc1 h
      refine ev_aload_n dX7_greatest_14 rfl ?_
      refine ev_getr (o' := 6) fl_RX7_9 sh_5 (by decide) (by decide) rfl rfl dX7_greatest_15 ?_
      refine ev_iload dX7_greatest_18 rfl ?_
      obtain ⟨hb2, h⟩ := ab_chk_some h
      refine ev_iaload sh_6 hb2 dX7_greatest_20 ?_
      refine ev_iload_n dX7_greatest_21 rfl ?_
      obtain ⟨q3, hq4, h⟩ := ab_bind h
      have hJ5 : ab_Ev l D ac 2 me_X7_greatest n0 0 0 r 0 0 ab_SH 48 [some (.ref 5), some (.int x1), some (.int x2), some (.int q3), some (.int x4)] [] M := by
        refine ev_iinc (y := x4 + 1) dX7_greatest_48 rfl (by first | rfl | decide) rfl rfl ?_
        refine ev_goto (t := 5) dX7_greatest_51 (by decide) ?_
        exact ih M x1 x2 q3 (x4 + 1) _ h kk
      refine ev_icmp_lt (t := 48) dX7_greatest_22 (by decide) (fun hc6 => ?_) (fun hc6 => ?_)
      · replace hq4 := ab_pos hc6 hq4
        cases hq4
        exact hJ5
      · replace hq4 := ab_neg hc6 hq4
        refine ev_aload_n dX7_greatest_25 rfl ?_
        refine ev_getr (o' := 7) fl_RX7_15 sh_5 (by decide) (by decide) rfl rfl dX7_greatest_26 ?_
        refine ev_iload dX7_greatest_29 rfl ?_
        obtain ⟨hb7, hq4⟩ := ab_chk_some hq4
        refine ev_iaload sh_7 hb7 dX7_greatest_31 ?_
        refine ev_iload_n dX7_greatest_32 rfl ?_
        refine ev_icmp_gt (t := 48) dX7_greatest_33 (by decide) (fun hc8 => ?_) (fun hc8 => ?_)
        · replace hq4 := ab_pos hc8 hq4
          cases hq4
          exact hJ5
        · replace hq4 := ab_neg hc8 hq4
          refine ev_iload_n dX7_greatest_36 rfl ?_
          refine ev_aload_n dX7_greatest_37 rfl ?_
          refine ev_getr (o' := 8) fl_RX7_18 sh_5 (by decide) (by decide) rfl rfl dX7_greatest_38 ?_
          refine ev_iload dX7_greatest_41 rfl ?_
          obtain ⟨hb9, hq4⟩ := ab_chk_some hq4
          refine ev_iaload sh_8 hb9 dX7_greatest_43 ?_
          refine ev_max ml_RX7_25 dX7_greatest_44 (by decide) (Nat.le_of_ble_eq_true rfl) ⟨Nat.le_refl _, Nat.le_refl _⟩ ?_
          refine ev_istore_n dX7_greatest_47 (Nat.le_of_ble_eq_true rfl) rfl rfl ?_
          cases hq4
          exact hJ5

noncomputable def mi_X7_greatest (M : ab_M) (x1 : Int32) (x2 : Int32) : Option (Int32) :=
  (mi_X7_greatest_5 ab_F M x1 x2 0 0).bind fun q10 =>
  some q10.1

set_option maxHeartbeats 4000000 in
set_option maxRecDepth 100000 in
theorem co_X7_greatest {l : Launch} {D : va_G} {ac : Nat → ClassId} (M : ab_M) (x1 : Int32) (x2 : Int32) (z : Int32) (h : mi_X7_greatest M x1 x2 = some z) : ab_Con l D ac 2 me_X7_greatest 0 0 [.ref 5, .int x1, .int x2] ab_SH M (some (.int z), ab_SH, M) := by
  refine ab_intro (lv := [some (.ref 5), some (.int x1), some (.int x2), none, none]) (by decide) rfl (Nat.le_of_ble_eq_true rfl) rfl ?_
  unfold mi_X7_greatest at h
  refine ev_iconst (x := 0) dX7_greatest_0 (by decide) ?_
  refine ev_istore_n dX7_greatest_1 (Nat.le_of_ble_eq_true rfl) rfl rfl ?_
  refine ev_iconst (x := 0) dX7_greatest_2 (by decide) ?_
  refine ev_istore dX7_greatest_3 (Nat.le_of_ble_eq_true rfl) rfl rfl ?_
  obtain ⟨q10, hq11, h⟩ := ab_bind h
  refine lp_X7_greatest_5 _ M x1 x2 0 0 _ hq11 ?_
  refine ev_iload_n dX7_greatest_54 rfl ?_
  cases h
  exact ev_ireturn rfl dX7_greatest_55
end
section
noncomputable def mi_X1_tell (M : ab_M) (x1 : Int32) (x2 : Int32) (x3 : Int32) (x4 : Int32) : Option (ab_M) :=
  some (ab_pi (ab_pi (ab_pi (ab_pi M 9 0 x1) 9 1 x2) 9 2 x3) 9 3 x4)

set_option maxHeartbeats 4000000 in
set_option maxRecDepth 100000 in
theorem co_X1_tell {l : Launch} {D : va_G} {ac : Nat → ClassId} (M : ab_M) (x1 : Int32) (x2 : Int32) (x3 : Int32) (x4 : Int32) (z : ab_M) (h : mi_X1_tell M x1 x2 x3 x4 = some z) : ab_Con l D ac 1 me_X1_tell 0 0 [.ref 9, .int x1, .int x2, .int x3, .int x4] ab_SH M (none, ab_SH, z) := by
  refine ab_intro (lv := [some (.ref 9), some (.int x1), some (.int x2), some (.int x3), some (.int x4)]) (by decide) rfl (Nat.le_of_ble_eq_true rfl) rfl ?_
  unfold mi_X1_tell at h
  refine ev_aload_n dX1_tell_0 rfl ?_
  refine ev_iload_n dX1_tell_1 rfl ?_
  refine ev_puti fl_RX1_9 sh_9 (by decide) (by decide) rfl rfl rfl dX1_tell_2 ?_
  refine ev_aload_n dX1_tell_5 rfl ?_
  refine ev_iload_n dX1_tell_6 rfl ?_
  refine ev_puti fl_RX1_15 sh_9 (by decide) (by decide) rfl rfl rfl dX1_tell_7 ?_
  refine ev_aload_n dX1_tell_10 rfl ?_
  refine ev_iload_n dX1_tell_11 rfl ?_
  refine ev_puti fl_RX1_18 sh_9 (by decide) (by decide) rfl rfl rfl dX1_tell_12 ?_
  refine ev_aload_n dX1_tell_15 rfl ?_
  refine ev_iload dX1_tell_16 rfl ?_
  refine ev_puti fl_RX1_21 sh_9 (by decide) (by decide) rfl rfl rfl dX1_tell_18 ?_
  cases h
  exact ev_return rfl dX1_tell_21

noncomputable def mi_X1_swap (M : ab_M) : Option (ab_M) :=
  some (ab_pi (ab_pi M 9 2 (M.1 9 3)) 9 3 (M.1 9 2))

set_option maxHeartbeats 4000000 in
set_option maxRecDepth 100000 in
theorem co_X1_swap {l : Launch} {D : va_G} {ac : Nat → ClassId} (M : ab_M) (z : ab_M) (h : mi_X1_swap M = some z) : ab_Con l D ac 1 me_X1_swap 0 0 [.ref 9] ab_SH M (none, ab_SH, z) := by
  refine ab_intro (lv := [some (.ref 9), none]) (by decide) rfl (Nat.le_of_ble_eq_true rfl) rfl ?_
  unfold mi_X1_swap at h
  refine ev_aload_n dX1_swap_0 rfl ?_
  refine ev_geti fl_RX1_18 sh_9 (by decide) (by decide) rfl dX1_swap_1 ?_
  refine ev_istore_n dX1_swap_4 (Nat.le_of_ble_eq_true rfl) rfl rfl ?_
  refine ev_aload_n dX1_swap_5 rfl ?_
  refine ev_aload_n dX1_swap_6 rfl ?_
  refine ev_geti fl_RX1_21 sh_9 (by decide) (by decide) rfl dX1_swap_7 ?_
  refine ev_puti fl_RX1_18 sh_9 (by decide) (by decide) rfl rfl rfl dX1_swap_10 ?_
  refine ev_aload_n dX1_swap_13 rfl ?_
  refine ev_iload_n dX1_swap_14 rfl ?_
  refine ev_puti fl_RX1_21 sh_9 (by decide) (by decide) rfl rfl rfl dX1_swap_15 ?_
  cases h
  exact ev_return rfl dX1_swap_18

noncomputable def mi_X1_allows (M : ab_M) (t1 : Nat) : Option (Int32) :=
  if (M.1 t1 1) = 3 then
    if (M.1 9 0) = (-1) then
      some 1073741823
    else
      if (ab_abs ((M.1 t1 2) - (M.1 9 0))) ≤ (M.1 9 1) then
        if (M.1 9 0) ≤ (M.1 t1 2) then
          some (M.1 9 3)
        else
          some (M.1 9 2)
      else
        some 1073741823
  else
    some 1073741823

set_option maxHeartbeats 4000000 in
set_option maxRecDepth 100000 in
theorem co_X1_allows {l : Launch} {D : va_G} {ac : Nat → ClassId} (M : ab_M) (t1 : Nat) (ht1 : ab_isMast t1) (z : Int32) (h : mi_X1_allows M t1 = some z) : ab_Con l D ac 2 me_X1_allows 0 0 [.ref 9, .ref t1] ab_SH M (some (.int z), ab_SH, M) := by
  refine ab_intro (lv := [some (.ref 9), some (.ref t1)]) (by decide) rfl (Nat.le_of_ble_eq_true rfl) rfl ?_
  unfold mi_X1_allows at h
  refine ev_aload_n dX1_allows_0 rfl ?_
  refine ev_geti fl_RX1_24 ht1 (by decide) (by decide) rfl dX1_allows_1 ?_
  refine ev_iconst (x := 3) dX1_allows_4 (by decide) ?_
  refine ev_icmp_ne (t := 35) dX1_allows_5 (by decide) (fun hc1 => ?_) (fun hc1 => ?_)
  · replace h := ab_neg hc1 h
    refine ev_ldc kw_RX1_38 dX1_allows_35 ?_
    cases h
    exact ev_ireturn rfl dX1_allows_37
  · replace h := ab_pos hc1 h
    refine ev_aload_n dX1_allows_8 rfl ?_
    refine ev_geti fl_RX1_9 sh_9 (by decide) (by decide) rfl dX1_allows_9 ?_
    refine ev_iconst (x := (-1)) dX1_allows_12 (by decide) ?_
    refine ev_icmp_eq (t := 35) dX1_allows_13 (by decide) (fun hc2 => ?_) (fun hc2 => ?_)
    · replace h := ab_pos hc2 h
      refine ev_ldc kw_RX1_38 dX1_allows_35 ?_
      cases h
      exact ev_ireturn rfl dX1_allows_37
    · replace h := ab_neg hc2 h
      refine ev_aload_n dX1_allows_16 rfl ?_
      refine ev_geti fl_RX1_29 ht1 (by decide) (by decide) rfl dX1_allows_17 ?_
      refine ev_aload_n dX1_allows_20 rfl ?_
      refine ev_geti fl_RX1_9 sh_9 (by decide) (by decide) rfl dX1_allows_21 ?_
      refine ev_isub dX1_allows_24 ?_
      refine ev_abs ml_RX1_32 dX1_allows_25 (by decide) (Nat.le_of_ble_eq_true rfl) ⟨Nat.le_refl _, Nat.le_refl _⟩ ?_
      refine ev_aload_n dX1_allows_28 rfl ?_
      refine ev_geti fl_RX1_15 sh_9 (by decide) (by decide) rfl dX1_allows_29 ?_
      refine ev_icmp_le (t := 38) dX1_allows_32 (by decide) (fun hc3 => ?_) (fun hc3 => ?_)
      · replace h := ab_pos hc3 h
        refine ev_aload_n dX1_allows_38 rfl ?_
        refine ev_geti fl_RX1_29 ht1 (by decide) (by decide) rfl dX1_allows_39 ?_
        refine ev_aload_n dX1_allows_42 rfl ?_
        refine ev_geti fl_RX1_9 sh_9 (by decide) (by decide) rfl dX1_allows_43 ?_
        refine ev_icmp_ge (t := 56) dX1_allows_46 (by decide) (fun hc4 => ?_) (fun hc4 => ?_)
        · replace h := ab_pos hc4 h
          refine ev_aload_n dX1_allows_56 rfl ?_
          refine ev_geti fl_RX1_21 sh_9 (by decide) (by decide) rfl dX1_allows_57 ?_
          cases h
          exact ev_ireturn rfl dX1_allows_60
        · replace h := ab_neg hc4 h
          refine ev_aload_n dX1_allows_49 rfl ?_
          refine ev_geti fl_RX1_18 sh_9 (by decide) (by decide) rfl dX1_allows_50 ?_
          refine ev_goto (t := 60) dX1_allows_53 (by decide) ?_
          cases h
          exact ev_ireturn rfl dX1_allows_60
      · replace h := ab_neg hc3 h
        refine ev_ldc kw_RX1_38 dX1_allows_35 ?_
        cases h
        exact ev_ireturn rfl dX1_allows_37
end
section
noncomputable def mi_X3_hasMast (M : ab_M) (x1 : Int32) : Option (Int32) :=
  if x1 < 0 then
    some 0
  else
    if (M.1 1 7) ≤ x1 then
      some 0
    else
      some 1

set_option maxHeartbeats 4000000 in
set_option maxRecDepth 100000 in
theorem co_X3_hasMast {l : Launch} {D : va_G} {ac : Nat → ClassId} (M : ab_M) (x1 : Int32) (z : Int32) (h : mi_X3_hasMast M x1 = some z) : ab_Con l D ac 1 me_X3_hasMast 0 0 [.ref 1, .int x1] ab_SH M (some (.int z), ab_SH, M) := by
  refine ab_intro (lv := [some (.ref 1), some (.int x1)]) (by decide) rfl (Nat.le_of_ble_eq_true rfl) rfl ?_
  unfold mi_X3_hasMast at h
  refine ev_iload_n dX3_hasMast_0 rfl ?_
  refine ev_if_lt (t := 16) dX3_hasMast_1 (by decide) (fun hc1 => ?_) (fun hc1 => ?_)
  · replace h := ab_pos hc1 h
    refine ev_iconst (x := 0) dX3_hasMast_16 (by decide) ?_
    cases h
    exact ev_zreturn rfl (Or.inl rfl) dX3_hasMast_17
  · replace h := ab_neg hc1 h
    refine ev_iload_n dX3_hasMast_4 rfl ?_
    refine ev_aload_n dX3_hasMast_5 rfl ?_
    refine ev_geti fl_RX3_58 sh_1 (by decide) (by decide) rfl dX3_hasMast_6 ?_
    refine ev_icmp_ge (t := 16) dX3_hasMast_9 (by decide) (fun hc2 => ?_) (fun hc2 => ?_)
    · replace h := ab_pos hc2 h
      refine ev_iconst (x := 0) dX3_hasMast_16 (by decide) ?_
      cases h
      exact ev_zreturn rfl (Or.inl rfl) dX3_hasMast_17
    · replace h := ab_neg hc2 h
      refine ev_iconst (x := 1) dX3_hasMast_12 (by decide) ?_
      refine ev_goto (t := 17) dX3_hasMast_13 (by decide) ?_
      cases h
      exact ev_zreturn rfl (Or.inr rfl) dX3_hasMast_17

noncomputable def mi_X3_hasWant (M : ab_M) (x1 : Int32) : Option (Int32) :=
  if x1 < 0 then
    some 0
  else
    if (M.1 1 8) ≤ x1 then
      some 0
    else
      some 1

set_option maxHeartbeats 4000000 in
set_option maxRecDepth 100000 in
theorem co_X3_hasWant {l : Launch} {D : va_G} {ac : Nat → ClassId} (M : ab_M) (x1 : Int32) (z : Int32) (h : mi_X3_hasWant M x1 = some z) : ab_Con l D ac 1 me_X3_hasWant 0 0 [.ref 1, .int x1] ab_SH M (some (.int z), ab_SH, M) := by
  refine ab_intro (lv := [some (.ref 1), some (.int x1)]) (by decide) rfl (Nat.le_of_ble_eq_true rfl) rfl ?_
  unfold mi_X3_hasWant at h
  refine ev_iload_n dX3_hasWant_0 rfl ?_
  refine ev_if_lt (t := 16) dX3_hasWant_1 (by decide) (fun hc1 => ?_) (fun hc1 => ?_)
  · replace h := ab_pos hc1 h
    refine ev_iconst (x := 0) dX3_hasWant_16 (by decide) ?_
    cases h
    exact ev_zreturn rfl (Or.inl rfl) dX3_hasWant_17
  · replace h := ab_neg hc1 h
    refine ev_iload_n dX3_hasWant_4 rfl ?_
    refine ev_aload_n dX3_hasWant_5 rfl ?_
    refine ev_geti fl_RX3_61 sh_1 (by decide) (by decide) rfl dX3_hasWant_6 ?_
    refine ev_icmp_ge (t := 16) dX3_hasWant_9 (by decide) (fun hc2 => ?_) (fun hc2 => ?_)
    · replace h := ab_pos hc2 h
      refine ev_iconst (x := 0) dX3_hasWant_16 (by decide) ?_
      cases h
      exact ev_zreturn rfl (Or.inl rfl) dX3_hasWant_17
    · replace h := ab_neg hc2 h
      refine ev_iconst (x := 1) dX3_hasWant_12 (by decide) ?_
      refine ev_goto (t := 17) dX3_hasWant_13 (by decide) ?_
      cases h
      exact ev_zreturn rfl (Or.inr rfl) dX3_hasWant_17

noncomputable def mi_X3_square (M : ab_M) (x1 : Int32) (x2 : Int32) : Option (Int32) :=
  ab_chk (vp_in x1 12) <|
  ab_chk (vp_in x2 12) <|
  (some ((M.1 (12 + (x1).toNatClampNeg) 2) - (M.1 (12 + (x2).toNatClampNeg) 2)) : Option Int32).bind fun v3 =>
  ab_chk (vp_in x1 12) <|
  ab_chk (vp_in x2 12) <|
  (some ((M.1 (12 + (x1).toNatClampNeg) 3) - (M.1 (12 + (x2).toNatClampNeg) 3)) : Option Int32).bind fun v7 =>
  some ((v3 * v3) + (v7 * v7))

set_option maxHeartbeats 4000000 in
set_option maxRecDepth 100000 in
theorem co_X3_square {l : Launch} {D : va_G} {ac : Nat → ClassId} (M : ab_M) (x1 : Int32) (x2 : Int32) (z : Int32) (h : mi_X3_square M x1 x2 = some z) : ab_Con l D ac 1 me_X3_square 0 0 [.ref 1, .int x1, .int x2] ab_SH M (some (.int z), ab_SH, M) := by
  refine ab_intro (lv := [some (.ref 1), some (.int x1), some (.int x2), none, none]) (by decide) rfl (Nat.le_of_ble_eq_true rfl) rfl ?_
  unfold mi_X3_square at h
  refine ev_aload_n dX3_square_0 rfl ?_
  refine ev_getr (o' := 2) fl_RX3_11 sh_1 (by decide) (by decide) rfl rfl dX3_square_1 ?_
  refine ev_iload_n dX3_square_4 rfl ?_
  obtain ⟨hb1, h⟩ := ab_chk_some h
  refine ev_aaload sh_2 (Or.inl rfl) hb1 (rf_mast hb1) dX3_square_5 ?_
  refine ev_geti fl_RX3_91 (sh_mast hb1) (by decide) (by decide) rfl dX3_square_6 ?_
  refine ev_aload_n dX3_square_9 rfl ?_
  refine ev_getr (o' := 2) fl_RX3_11 sh_1 (by decide) (by decide) rfl rfl dX3_square_10 ?_
  refine ev_iload_n dX3_square_13 rfl ?_
  obtain ⟨hb2, h⟩ := ab_chk_some h
  refine ev_aaload sh_2 (Or.inl rfl) hb2 (rf_mast hb2) dX3_square_14 ?_
  refine ev_geti fl_RX3_91 (sh_mast hb2) (by decide) (by decide) rfl dX3_square_15 ?_
  refine ev_isub dX3_square_18 ?_
  obtain ⟨v3, hq4, h⟩ := ab_bind h
  refine ev_nmi (Option.some.inj hq4) ?_
  refine ev_istore_n (x := v3) dX3_square_19 (Nat.le_of_ble_eq_true rfl) rfl rfl ?_
  refine ev_aload_n dX3_square_20 rfl ?_
  refine ev_getr (o' := 2) fl_RX3_11 sh_1 (by decide) (by decide) rfl rfl dX3_square_21 ?_
  refine ev_iload_n dX3_square_24 rfl ?_
  obtain ⟨hb5, h⟩ := ab_chk_some h
  refine ev_aaload sh_2 (Or.inl rfl) hb5 (rf_mast hb5) dX3_square_25 ?_
  refine ev_geti fl_RX3_94 (sh_mast hb5) (by decide) (by decide) rfl dX3_square_26 ?_
  refine ev_aload_n dX3_square_29 rfl ?_
  refine ev_getr (o' := 2) fl_RX3_11 sh_1 (by decide) (by decide) rfl rfl dX3_square_30 ?_
  refine ev_iload_n dX3_square_33 rfl ?_
  obtain ⟨hb6, h⟩ := ab_chk_some h
  refine ev_aaload sh_2 (Or.inl rfl) hb6 (rf_mast hb6) dX3_square_34 ?_
  refine ev_geti fl_RX3_94 (sh_mast hb6) (by decide) (by decide) rfl dX3_square_35 ?_
  refine ev_isub dX3_square_38 ?_
  obtain ⟨v7, hq8, h⟩ := ab_bind h
  refine ev_nmi (Option.some.inj hq8) ?_
  refine ev_istore (x := v7) dX3_square_39 (Nat.le_of_ble_eq_true rfl) rfl rfl ?_
  refine ev_iload_n dX3_square_41 rfl ?_
  refine ev_iload_n dX3_square_42 rfl ?_
  refine ev_imul dX3_square_43 ?_
  refine ev_iload dX3_square_44 rfl ?_
  refine ev_iload dX3_square_46 rfl ?_
  refine ev_imul dX3_square_48 ?_
  refine ev_iadd dX3_square_49 ?_
  cases h
  exact ev_ireturn rfl dX3_square_50

noncomputable def mi_X3_freshBar (M : ab_M) (x1 : Int32) (x2 : Int32) : Option (Int32) :=
  if x1 = x2 then
    some (M.1 1 9)
  else
    (mi_X3_square M x1 x2).bind fun q2 =>
    ab_chk (vp_in x1 12) <|
    ab_chk (vp_in x2 12) <|
    (mi_X7_greatest M q2 ((M.1 (12 + (x1).toNatClampNeg) 4) + (M.1 (12 + (x2).toNatClampNeg) 4))).bind fun q6 =>
    some q6

set_option maxHeartbeats 4000000 in
set_option maxRecDepth 100000 in
theorem co_X3_freshBar {l : Launch} {D : va_G} {ac : Nat → ClassId} (M : ab_M) (x1 : Int32) (x2 : Int32) (z : Int32) (h : mi_X3_freshBar M x1 x2 = some z) : ab_Con l D ac 3 me_X3_freshBar 0 0 [.ref 1, .int x1, .int x2] ab_SH M (some (.int z), ab_SH, M) := by
  refine ab_intro (lv := [some (.ref 1), some (.int x1), some (.int x2)]) (by decide) rfl (Nat.le_of_ble_eq_true rfl) rfl ?_
  unfold mi_X3_freshBar at h
  refine ev_iload_n dX3_freshBar_0 rfl ?_
  refine ev_iload_n dX3_freshBar_1 rfl ?_
  refine ev_icmp_ne (t := 12) dX3_freshBar_2 (by decide) (fun hc1 => ?_) (fun hc1 => ?_)
  · replace h := ab_neg hc1 h
    refine ev_aload_n dX3_freshBar_12 rfl ?_
    refine ev_getr (o' := 5) fl_RX3_27 sh_1 (by decide) (by decide) rfl rfl dX3_freshBar_13 ?_
    refine ev_aload_n dX3_freshBar_16 rfl ?_
    refine ev_iload_n dX3_freshBar_17 rfl ?_
    refine ev_iload_n dX3_freshBar_18 rfl ?_
    obtain ⟨q2, hv3, h⟩ := ab_bind h
    refine ev_callV (st := [.ref 5]) (co_X3_square M x1 x2 _ hv3) mv_X3_square sh_1 ml_RX3_82 dX3_freshBar_19 (by decide) rfl (Nat.le_of_ble_eq_true rfl) ⟨Nat.le_refl _, Nat.le_refl _⟩ ?_
    refine ev_aload_n dX3_freshBar_22 rfl ?_
    refine ev_getr (o' := 2) fl_RX3_11 sh_1 (by decide) (by decide) rfl rfl dX3_freshBar_23 ?_
    refine ev_iload_n dX3_freshBar_26 rfl ?_
    obtain ⟨hb4, h⟩ := ab_chk_some h
    refine ev_aaload sh_2 (Or.inl rfl) hb4 (rf_mast hb4) dX3_freshBar_27 ?_
    refine ev_geti fl_RX3_85 (sh_mast hb4) (by decide) (by decide) rfl dX3_freshBar_28 ?_
    refine ev_aload_n dX3_freshBar_31 rfl ?_
    refine ev_getr (o' := 2) fl_RX3_11 sh_1 (by decide) (by decide) rfl rfl dX3_freshBar_32 ?_
    refine ev_iload_n dX3_freshBar_35 rfl ?_
    obtain ⟨hb5, h⟩ := ab_chk_some h
    refine ev_aaload sh_2 (Or.inl rfl) hb5 (rf_mast hb5) dX3_freshBar_36 ?_
    refine ev_geti fl_RX3_85 (sh_mast hb5) (by decide) (by decide) rfl dX3_freshBar_37 ?_
    refine ev_iadd dX3_freshBar_40 ?_
    obtain ⟨q6, hv7, h⟩ := ab_bind h
    refine ev_callV (st := []) (co_X7_greatest M q2 ((M.1 (12 + (x1).toNatClampNeg) 4) + (M.1 (12 + (x2).toNatClampNeg) 4)) _ hv7) mv_X7_greatest sh_5 ml_RX3_88 dX3_freshBar_41 (by decide) rfl (Nat.le_of_ble_eq_true rfl) ⟨Nat.le_refl _, Nat.le_refl _⟩ ?_
    cases h
    exact ev_ireturn rfl dX3_freshBar_44
  · replace h := ab_pos hc1 h
    refine ev_aload_n dX3_freshBar_5 rfl ?_
    refine ev_geti fl_RX3_44 sh_1 (by decide) (by decide) rfl dX3_freshBar_6 ?_
    refine ev_goto (t := 44) dX3_freshBar_9 (by decide) ?_
    cases h
    exact ev_ireturn rfl dX3_freshBar_44

noncomputable def mi_X3_measure_19 : Nat → ab_M → Int32 → Int32 → Option (Int32 × ab_M)
  | 0, _, _, _ => none
  | n + 1, M, x1, x2 =>
    if (M.1 1 7) ≤ x2 then
      some (x2, M)
    else
      (mi_X3_freshBar M x1 x2).bind fun q4 =>
      ab_chk (vp_in ((x1 * 12) + x2) 144) <|
      ab_chk (vp_in x1 12) <|
      ((if x1 = x2 then
        some 0
      else
        (mi_X3_square (ab_pi M 10 ((x1 * 12) + x2).toNatClampNeg q4) x1 x2).bind fun q12 =>
        if ((ab_pi M 10 ((x1 * 12) + x2).toNatClampNeg q4).1 1 10) < q12 then
          some 0
        else
          some (1 <<< (x2 &&& 31))) : Option (Int32)).bind fun q8 =>
      ab_chk (vp_in x1 12) <|
      mi_X3_measure_19 n (ab_pi (ab_pi M 10 ((x1 * 12) + x2).toNatClampNeg q4) 11 (x1).toNatClampNeg (((ab_pi M 10 ((x1 * 12) + x2).toNatClampNeg q4).1 11 (x1).toNatClampNeg) ||| q8)) x1 (x2 + 1)

set_option maxHeartbeats 4000000 in
set_option maxRecDepth 100000 in
theorem lp_X3_measure_19 {l : Launch} {D : va_G} {ac : Nat → ClassId} {n0 : Nat} {r : ab_Rs} : ∀ (n : Nat) (M : ab_M) (x1 : Int32) (x2 : Int32) (q : Int32 × ab_M) (h : mi_X3_measure_19 n M x1 x2 = some q) (kk : ab_Ev l D ac 4 me_X3_measure n0 0 0 r 0 0 ab_SH 84 [some (.ref 1), some (.int x1), some (.int q.1)] [] q.2), ab_Ev l D ac 4 me_X3_measure n0 0 0 r 0 0 ab_SH 19 [some (.ref 1), some (.int x1), some (.int x2)] [] M := by
  intro n
  induction n with
  | zero =>
    intro M x1 x2 q h kk
    cases h
  | succ n ih =>
    intro M x1 x2 q h kk
    unfold mi_X3_measure_19 at h
    refine ev_iload_n dX3_measure_19 rfl ?_
    refine ev_aload_n dX3_measure_20 rfl ?_
    refine ev_geti fl_RX3_58 sh_1 (by decide) (by decide) rfl dX3_measure_21 ?_
    refine ev_icmp_ge (t := 84) dX3_measure_24 (by decide) (fun hc3 => ?_) (fun hc3 => ?_)
    · replace h := ab_pos hc3 h
      cases h
      exact kk
    · replace h := ab_neg hc3 h
      refine ev_aload_n dX3_measure_27 rfl ?_
      refine ev_getr (o' := 10) fl_RX3_38 sh_1 (by decide) (by decide) rfl rfl dX3_measure_28 ?_
      refine ev_iload_n dX3_measure_31 rfl ?_
      refine ev_bipush (x := 12) dX3_measure_32 (by decide) ?_
      refine ev_imul dX3_measure_34 ?_
      refine ev_iload_n dX3_measure_35 rfl ?_
      refine ev_iadd dX3_measure_36 ?_
      refine ev_aload_n dX3_measure_37 rfl ?_
      refine ev_iload_n dX3_measure_38 rfl ?_
      refine ev_iload_n dX3_measure_39 rfl ?_
      obtain ⟨q4, hv5, h⟩ := ab_bind h
      refine ev_callV (st := [.int ((x1 * 12) + x2), .ref 10]) (co_X3_freshBar M x1 x2 _ hv5) mv_X3_freshBar sh_1 ml_RX3_79 dX3_measure_40 (by decide) rfl (Nat.le_of_ble_eq_true rfl) ⟨Nat.le_refl _, Nat.le_refl _⟩ ?_
      obtain ⟨hb6, h⟩ := ab_chk_some h
      refine ev_iastore sh_10 hb6 dX3_measure_43 ?_
      refine ev_aload_n dX3_measure_44 rfl ?_
      refine ev_getr (o' := 11) fl_RX3_41 sh_1 (by decide) (by decide) rfl rfl dX3_measure_45 ?_
      refine ev_iload_n dX3_measure_48 rfl ?_
      refine ev_dup2 dX3_measure_49 rfl rfl ?_
      obtain ⟨hb7, h⟩ := ab_chk_some h
      refine ev_iaload sh_11 hb7 dX3_measure_50 ?_
      refine ev_iload_n dX3_measure_51 rfl ?_
      refine ev_iload_n dX3_measure_52 rfl ?_
      obtain ⟨q8, hq9, h⟩ := ab_bind h
      have hJ10 : ab_Ev l D ac 4 me_X3_measure n0 0 0 r 0 0 ab_SH 76 [some (.ref 1), some (.int x1), some (.int x2)] [.int q8, .int ((ab_pi M 10 ((x1 * 12) + x2).toNatClampNeg q4).1 11 (x1).toNatClampNeg), .int x1, .ref 11] (ab_pi M 10 ((x1 * 12) + x2).toNatClampNeg q4) := by
        refine ev_ior dX3_measure_76 ?_
        obtain ⟨hb15, h⟩ := ab_chk_some h
        refine ev_iastore sh_11 hb15 dX3_measure_77 ?_
        refine ev_iinc (y := x2 + 1) dX3_measure_78 rfl (by first | rfl | decide) rfl rfl ?_
        refine ev_goto (t := 19) dX3_measure_81 (by decide) ?_
        exact ih (ab_pi (ab_pi M 10 ((x1 * 12) + x2).toNatClampNeg q4) 11 (x1).toNatClampNeg (((ab_pi M 10 ((x1 * 12) + x2).toNatClampNeg q4).1 11 (x1).toNatClampNeg) ||| q8)) x1 (x2 + 1) _ h kk
      refine ev_icmp_eq (t := 75) dX3_measure_53 (by decide) (fun hc11 => ?_) (fun hc11 => ?_)
      · replace hq9 := ab_pos hc11 hq9
        refine ev_iconst (x := 0) dX3_measure_75 (by decide) ?_
        cases hq9
        exact hJ10
      · replace hq9 := ab_neg hc11 hq9
        refine ev_aload_n dX3_measure_56 rfl ?_
        refine ev_iload_n dX3_measure_57 rfl ?_
        refine ev_iload_n dX3_measure_58 rfl ?_
        obtain ⟨q12, hv13, hq9⟩ := ab_bind hq9
        refine ev_callV (st := [.int ((ab_pi M 10 ((x1 * 12) + x2).toNatClampNeg q4).1 11 (x1).toNatClampNeg), .int x1, .ref 11]) (co_X3_square (ab_pi M 10 ((x1 * 12) + x2).toNatClampNeg q4) x1 x2 _ hv13) mv_X3_square sh_1 ml_RX3_82 dX3_measure_59 (by decide) rfl (Nat.le_of_ble_eq_true rfl) ⟨Nat.le_refl _, Nat.le_refl _⟩ ?_
        refine ev_aload_n dX3_measure_62 rfl ?_
        refine ev_geti fl_RX3_48 sh_1 (by decide) (by decide) rfl dX3_measure_63 ?_
        refine ev_icmp_gt (t := 75) dX3_measure_66 (by decide) (fun hc14 => ?_) (fun hc14 => ?_)
        · replace hq9 := ab_pos hc14 hq9
          refine ev_iconst (x := 0) dX3_measure_75 (by decide) ?_
          cases hq9
          exact hJ10
        · replace hq9 := ab_neg hc14 hq9
          refine ev_iconst (x := 1) dX3_measure_69 (by decide) ?_
          refine ev_iload_n dX3_measure_70 rfl ?_
          refine ev_ishl dX3_measure_71 ?_
          refine ev_goto (t := 76) dX3_measure_72 (by decide) ?_
          cases hq9
          exact hJ10

noncomputable def mi_X3_measure_2 : Nat → ab_M → Int32 → Option (Int32 × ab_M)
  | 0, _, _ => none
  | n + 1, M, x1 =>
    if (M.1 1 7) ≤ x1 then
      some (x1, M)
    else
      ab_chk (vp_in x1 12) <|
      (mi_X3_measure_19 ab_F (ab_pi M 11 (x1).toNatClampNeg 0) x1 0).bind fun q16 =>
      mi_X3_measure_2 n q16.2 (x1 + 1)

set_option maxHeartbeats 4000000 in
set_option maxRecDepth 100000 in
theorem lp_X3_measure_2 {l : Launch} {D : va_G} {ac : Nat → ClassId} {n0 : Nat} {r : ab_Rs} : ∀ (n : Nat) (M : ab_M) (x1 : Int32) (q : Int32 × ab_M) (h : mi_X3_measure_2 n M x1 = some q) (kk : ab_Ev l D ac 4 me_X3_measure n0 0 0 r 0 0 ab_SH 90 [some (.ref 1), some (.int q.1), none] [] q.2), ab_Ev l D ac 4 me_X3_measure n0 0 0 r 0 0 ab_SH 2 [some (.ref 1), some (.int x1), none] [] M := by
  intro n
  induction n with
  | zero =>
    intro M x1 q h kk
    cases h
  | succ n ih =>
    intro M x1 q h kk
    unfold mi_X3_measure_2 at h
    refine ev_iload_n dX3_measure_2 rfl ?_
    refine ev_aload_n dX3_measure_3 rfl ?_
    refine ev_geti fl_RX3_58 sh_1 (by decide) (by decide) rfl dX3_measure_4 ?_
    refine ev_icmp_ge (t := 90) dX3_measure_7 (by decide) (fun hc1 => ?_) (fun hc1 => ?_)
    · replace h := ab_pos hc1 h
      cases h
      exact kk
    · replace h := ab_neg hc1 h
      refine ev_aload_n dX3_measure_10 rfl ?_
      refine ev_getr (o' := 11) fl_RX3_41 sh_1 (by decide) (by decide) rfl rfl dX3_measure_11 ?_
      refine ev_iload_n dX3_measure_14 rfl ?_
      refine ev_iconst (x := 0) dX3_measure_15 (by decide) ?_
      obtain ⟨hb2, h⟩ := ab_chk_some h
      refine ev_iastore sh_11 hb2 dX3_measure_16 ?_
      refine ev_iconst (x := 0) dX3_measure_17 (by decide) ?_
      refine ev_istore_n dX3_measure_18 (Nat.le_of_ble_eq_true rfl) rfl rfl ?_
      obtain ⟨q16, hq17, h⟩ := ab_bind h
      refine lp_X3_measure_19 _ (ab_pi M 11 (x1).toNatClampNeg 0) x1 0 _ hq17 ?_
      refine ev_iinc (y := x1 + 1) dX3_measure_84 rfl (by first | rfl | decide) rfl rfl ?_
      refine ev_goto (t := 2) dX3_measure_87 (by decide) ?_
      refine ev_drop (lv' := [some (.ref 1), some (.int (x1 + 1)), none]) (ab_sub_k (ab_sub_k (ab_sub_d ab_sub_nil))) ?_
      exact ih q16.2 (x1 + 1) _ h kk

noncomputable def mi_X3_measure (M : ab_M) : Option (ab_M) :=
  (mi_X3_measure_2 ab_F M 0).bind fun q18 =>
  some q18.2

set_option maxHeartbeats 4000000 in
set_option maxRecDepth 100000 in
theorem co_X3_measure {l : Launch} {D : va_G} {ac : Nat → ClassId} (M : ab_M) (z : ab_M) (h : mi_X3_measure M = some z) : ab_Con l D ac 4 me_X3_measure 0 0 [.ref 1] ab_SH M (none, ab_SH, z) := by
  refine ab_intro (lv := [some (.ref 1), none, none]) (by decide) rfl (Nat.le_of_ble_eq_true rfl) rfl ?_
  unfold mi_X3_measure at h
  refine ev_iconst (x := 0) dX3_measure_0 (by decide) ?_
  refine ev_istore_n dX3_measure_1 (Nat.le_of_ble_eq_true rfl) rfl rfl ?_
  obtain ⟨q18, hq19, h⟩ := ab_bind h
  refine lp_X3_measure_2 _ M 0 _ hq19 ?_
  cases h
  exact ev_return rfl dX3_measure_90

noncomputable def mi_X3_addMast_30 : Nat → ab_M → Int32 → Int32 → Int32 → Option (Int32 × ab_M)
  | 0, _, _, _, _ => none
  | n + 1, M, x4, x5, x6 =>
    if x4 ≤ x6 then
      some (x6, M)
    else
      ab_chk (vp_in ((M.1 1 8) + x6) 16) <|
      mi_X3_addMast_30 n (ab_pi M 3 ((M.1 1 8) + x6).toNatClampNeg x5) x4 x5 (x6 + 1)

set_option maxHeartbeats 4000000 in
set_option maxRecDepth 100000 in
theorem lp_X3_addMast_30 {l : Launch} {D : va_G} {ac : Nat → ClassId} {n0 : Nat} {r : ab_Rs} : ∀ (n : Nat) (M : ab_M) (x4 : Int32) (x5 : Int32) (x6 : Int32) (q : Int32 × ab_M) (h : mi_X3_addMast_30 n M x4 x5 x6 = some q) (kk : ab_Ev l D ac 5 me_X3_addMast n0 0 0 r 0 0 ab_SH 57 [some (.ref 1), none, none, none, some (.int x4), some (.int x5), some (.int q.1)] [] q.2), ab_Ev l D ac 5 me_X3_addMast n0 0 0 r 0 0 ab_SH 30 [some (.ref 1), none, none, none, some (.int x4), some (.int x5), some (.int x6)] [] M := by
  intro n
  induction n with
  | zero =>
    intro M x4 x5 x6 q h kk
    cases h
  | succ n ih =>
    intro M x4 x5 x6 q h kk
    unfold mi_X3_addMast_30 at h
    refine ev_iload dX3_addMast_30 rfl ?_
    refine ev_iload dX3_addMast_32 rfl ?_
    refine ev_icmp_ge (t := 57) dX3_addMast_34 (by decide) (fun hc4 => ?_) (fun hc4 => ?_)
    · replace h := ab_pos hc4 h
      cases h
      exact kk
    · replace h := ab_neg hc4 h
      refine ev_aload_n dX3_addMast_37 rfl ?_
      refine ev_getr (o' := 3) fl_RX3_17 sh_1 (by decide) (by decide) rfl rfl dX3_addMast_38 ?_
      refine ev_aload_n dX3_addMast_41 rfl ?_
      refine ev_geti fl_RX3_61 sh_1 (by decide) (by decide) rfl dX3_addMast_42 ?_
      refine ev_iload dX3_addMast_45 rfl ?_
      refine ev_iadd dX3_addMast_47 ?_
      refine ev_iload dX3_addMast_48 rfl ?_
      obtain ⟨hb5, h⟩ := ab_chk_some h
      refine ev_iastore sh_3 hb5 dX3_addMast_50 ?_
      refine ev_iinc (y := x6 + 1) dX3_addMast_51 rfl (by first | rfl | decide) rfl rfl ?_
      refine ev_goto (t := 30) dX3_addMast_54 (by decide) ?_
      exact ih (ab_pi M 3 ((M.1 1 8) + x6).toNatClampNeg x5) x4 x5 (x6 + 1) _ h kk

noncomputable def mi_X3_addMast (M : ab_M) (x1 : Int32) (x2 : Int32) (x3 : Int32) (x4 : Int32) : Option (Int32 × ab_M) :=
  ab_chk (vp_in (M.1 1 7) 12) <|
  (mi_X4_begin M (12 + (M.1 1 7).toNatClampNeg) (M.1 1 7) x1 x2 x3 x4 (M.1 1 8)).bind fun q2 =>
  (mi_X3_addMast_30 ab_F q2 x4 (M.1 1 7) 0).bind fun q6 =>
  (mi_X3_measure (ab_pi (ab_pi q6.2 1 7 ((q6.2.1 1 7) + 1)) 1 8 (((ab_pi q6.2 1 7 ((q6.2.1 1 7) + 1)).1 1 8) + x4))).bind fun q8 =>
  some (M.1 1 7, q8)

set_option maxHeartbeats 4000000 in
set_option maxRecDepth 100000 in
theorem co_X3_addMast {l : Launch} {D : va_G} {ac : Nat → ClassId} (M : ab_M) (x1 : Int32) (x2 : Int32) (x3 : Int32) (x4 : Int32) (z : Int32 × ab_M) (h : mi_X3_addMast M x1 x2 x3 x4 = some z) : ab_Con l D ac 5 me_X3_addMast 0 0 [.ref 1, .int x1, .int x2, .int x3, .int x4] ab_SH M (some (.int z.1), ab_SH, z.2) := by
  refine ab_intro (lv := [some (.ref 1), some (.int x1), some (.int x2), some (.int x3), some (.int x4), none, none]) (by decide) rfl (Nat.le_of_ble_eq_true rfl) rfl ?_
  unfold mi_X3_addMast at h
  refine ev_aload_n dX3_addMast_0 rfl ?_
  refine ev_geti fl_RX3_58 sh_1 (by decide) (by decide) rfl dX3_addMast_1 ?_
  refine ev_istore dX3_addMast_4 (Nat.le_of_ble_eq_true rfl) rfl rfl ?_
  refine ev_aload_n dX3_addMast_6 rfl ?_
  refine ev_getr (o' := 2) fl_RX3_11 sh_1 (by decide) (by decide) rfl rfl dX3_addMast_7 ?_
  refine ev_iload dX3_addMast_10 rfl ?_
  obtain ⟨hb1, h⟩ := ab_chk_some h
  refine ev_aaload sh_2 (Or.inl rfl) hb1 (rf_mast hb1) dX3_addMast_12 ?_
  refine ev_iload dX3_addMast_13 rfl ?_
  refine ev_iload_n dX3_addMast_15 rfl ?_
  refine ev_iload_n dX3_addMast_16 rfl ?_
  refine ev_iload_n dX3_addMast_17 rfl ?_
  refine ev_iload dX3_addMast_18 rfl ?_
  refine ev_aload_n dX3_addMast_20 rfl ?_
  refine ev_geti fl_RX3_61 sh_1 (by decide) (by decide) rfl dX3_addMast_21 ?_
  obtain ⟨q2, hv3, h⟩ := ab_bind h
  refine ev_callV (st := []) (co_X4_begin M (12 + (M.1 1 7).toNatClampNeg) (sh_mast hb1) (M.1 1 7) x1 x2 x3 x4 (M.1 1 8) _ hv3) mv_X4_begin (sh_mast hb1) ml_RX3_64 dX3_addMast_24 (by decide) rfl (Nat.le_of_ble_eq_true rfl) ⟨Nat.le_refl _, Nat.le_refl _⟩ ?_
  refine ev_iconst (x := 0) dX3_addMast_27 (by decide) ?_
  refine ev_istore dX3_addMast_28 (Nat.le_of_ble_eq_true rfl) rfl rfl ?_
  obtain ⟨q6, hq7, h⟩ := ab_bind h
  refine ev_drop (lv' := [some (.ref 1), none, none, none, some (.int x4), some (.int (M.1 1 7)), some (.int 0)]) (ab_sub_k (ab_sub_d (ab_sub_d (ab_sub_d (ab_sub_k (ab_sub_k (ab_sub_k ab_sub_nil))))))) ?_
  refine lp_X3_addMast_30 _ q2 x4 (M.1 1 7) 0 _ hq7 ?_
  refine ev_aload_n dX3_addMast_57 rfl ?_
  refine ev_dup dX3_addMast_58 rfl ?_
  refine ev_geti fl_RX3_58 sh_1 (by decide) (by decide) rfl dX3_addMast_59 ?_
  refine ev_iconst (x := 1) dX3_addMast_62 (by decide) ?_
  refine ev_iadd dX3_addMast_63 ?_
  refine ev_puti fl_RX3_58 sh_1 (by decide) (by decide) rfl rfl rfl dX3_addMast_64 ?_
  refine ev_aload_n dX3_addMast_67 rfl ?_
  refine ev_dup dX3_addMast_68 rfl ?_
  refine ev_geti fl_RX3_61 sh_1 (by decide) (by decide) rfl dX3_addMast_69 ?_
  refine ev_iload dX3_addMast_72 rfl ?_
  refine ev_iadd dX3_addMast_74 ?_
  refine ev_puti fl_RX3_61 sh_1 (by decide) (by decide) rfl rfl rfl dX3_addMast_75 ?_
  refine ev_aload_n dX3_addMast_78 rfl ?_
  obtain ⟨q8, hv9, h⟩ := ab_bind h
  refine ev_callV (st := []) (co_X3_measure (ab_pi (ab_pi q6.2 1 7 ((q6.2.1 1 7) + 1)) 1 8 (((ab_pi q6.2 1 7 ((q6.2.1 1 7) + 1)).1 1 8) + x4)) _ hv9) mv_X3_measure sh_1 ml_RX3_68 dX3_addMast_79 (by decide) rfl (Nat.le_of_ble_eq_true rfl) ⟨Nat.le_refl _, Nat.le_refl _⟩ ?_
  refine ev_iload dX3_addMast_82 rfl ?_
  cases h
  exact ev_ireturn rfl dX3_addMast_84

noncomputable def mi_X3_barOf (M : ab_M) (x1 : Int32) (x2 : Int32) : Option (Int32) :=
  ab_chk (vp_in ((x1 * 12) + x2) 144) <|
  some (M.1 10 ((x1 * 12) + x2).toNatClampNeg)

set_option maxHeartbeats 4000000 in
set_option maxRecDepth 100000 in
theorem co_X3_barOf {l : Launch} {D : va_G} {ac : Nat → ClassId} (M : ab_M) (x1 : Int32) (x2 : Int32) (z : Int32) (h : mi_X3_barOf M x1 x2 = some z) : ab_Con l D ac 1 me_X3_barOf 0 0 [.ref 1, .int x1, .int x2] ab_SH M (some (.int z), ab_SH, M) := by
  refine ab_intro (lv := [some (.ref 1), some (.int x1), some (.int x2)]) (by decide) rfl (Nat.le_of_ble_eq_true rfl) rfl ?_
  unfold mi_X3_barOf at h
  refine ev_aload_n dX3_barOf_0 rfl ?_
  refine ev_getr (o' := 10) fl_RX3_38 sh_1 (by decide) (by decide) rfl rfl dX3_barOf_1 ?_
  refine ev_iload_n dX3_barOf_4 rfl ?_
  refine ev_bipush (x := 12) dX3_barOf_5 (by decide) ?_
  refine ev_imul dX3_barOf_7 ?_
  refine ev_iload_n dX3_barOf_8 rfl ?_
  refine ev_iadd dX3_barOf_9 ?_
  obtain ⟨hb1, h⟩ := ab_chk_some h
  refine ev_iaload sh_10 hb1 dX3_barOf_10 ?_
  cases h
  exact ev_ireturn rfl dX3_barOf_11

noncomputable def mi_X3_shift_15 : Nat → ab_M → Int32 → Int32 → Int32 → Option (Int32 × Int32)
  | 0, _, _, _, _ => none
  | n + 1, M, x1, x3, x4 =>
    if (M.1 1 7) ≤ x4 then
      some (x3, x4)
    else
      (mi_X3_barOf M x1 x4).bind fun q5 =>
      (mi_X3_freshBar M x1 x4).bind fun q7 =>
      ((if q5 = q7 then
        some 0
      else
        some 1) : Option (Int32)).bind fun q9 =>
      mi_X3_shift_15 n M x1 (x3 + q9) (x4 + 1)

set_option maxHeartbeats 4000000 in
set_option maxRecDepth 100000 in
theorem lp_X3_shift_15 {l : Launch} {D : va_G} {ac : Nat → ClassId} {n0 : Nat} {r : ab_Rs} : ∀ (n : Nat) (M : ab_M) (x1 : Int32) (x3 : Int32) (x4 : Int32) (q : Int32 × Int32) (h : mi_X3_shift_15 n M x1 x3 x4 = some q) (kk : ab_Ev l D ac 5 me_X3_shift n0 0 0 r 0 0 ab_SH 55 [some (.ref 1), some (.int x1), none, some (.int q.1), some (.int q.2)] [] M), ab_Ev l D ac 5 me_X3_shift n0 0 0 r 0 0 ab_SH 15 [some (.ref 1), some (.int x1), none, some (.int x3), some (.int x4)] [] M := by
  intro n
  induction n with
  | zero =>
    intro M x1 x3 x4 q h kk
    cases h
  | succ n ih =>
    intro M x1 x3 x4 q h kk
    unfold mi_X3_shift_15 at h
    refine ev_iload dX3_shift_15 rfl ?_
    refine ev_aload_n dX3_shift_17 rfl ?_
    refine ev_geti fl_RX3_58 sh_1 (by decide) (by decide) rfl dX3_shift_18 ?_
    refine ev_icmp_ge (t := 55) dX3_shift_21 (by decide) (fun hc4 => ?_) (fun hc4 => ?_)
    · replace h := ab_pos hc4 h
      cases h
      exact kk
    · replace h := ab_neg hc4 h
      refine ev_iload_n dX3_shift_24 rfl ?_
      refine ev_aload_n dX3_shift_25 rfl ?_
      refine ev_iload_n dX3_shift_26 rfl ?_
      refine ev_iload dX3_shift_27 rfl ?_
      obtain ⟨q5, hv6, h⟩ := ab_bind h
      refine ev_callV (st := [.int x3]) (co_X3_barOf M x1 x4 _ hv6) mv_X3_barOf sh_1 ml_RX3_75 dX3_shift_29 (by decide) rfl (Nat.le_of_ble_eq_true rfl) ⟨Nat.le_refl _, Nat.le_refl _⟩ ?_
      refine ev_aload_n dX3_shift_32 rfl ?_
      refine ev_iload_n dX3_shift_33 rfl ?_
      refine ev_iload dX3_shift_34 rfl ?_
      obtain ⟨q7, hv8, h⟩ := ab_bind h
      refine ev_callV (st := [.int q5, .int x3]) (co_X3_freshBar M x1 x4 _ hv8) mv_X3_freshBar sh_1 ml_RX3_79 dX3_shift_36 (by decide) rfl (Nat.le_of_ble_eq_true rfl) ⟨Nat.le_refl _, Nat.le_refl _⟩ ?_
      obtain ⟨q9, hq10, h⟩ := ab_bind h
      have hJ11 : ab_Ev l D ac 5 me_X3_shift n0 0 0 r 0 0 ab_SH 47 [some (.ref 1), some (.int x1), none, some (.int x3), some (.int x4)] [.int q9, .int x3] M := by
        refine ev_iadd dX3_shift_47 ?_
        refine ev_istore_n dX3_shift_48 (Nat.le_of_ble_eq_true rfl) rfl rfl ?_
        refine ev_iinc (y := x4 + 1) dX3_shift_49 rfl (by first | rfl | decide) rfl rfl ?_
        refine ev_goto (t := 15) dX3_shift_52 (by decide) ?_
        exact ih M x1 (x3 + q9) (x4 + 1) _ h kk
      refine ev_icmp_eq (t := 46) dX3_shift_39 (by decide) (fun hc12 => ?_) (fun hc12 => ?_)
      · replace hq10 := ab_pos hc12 hq10
        refine ev_iconst (x := 0) dX3_shift_46 (by decide) ?_
        cases hq10
        exact hJ11
      · replace hq10 := ab_neg hc12 hq10
        refine ev_iconst (x := 1) dX3_shift_42 (by decide) ?_
        refine ev_goto (t := 47) dX3_shift_43 (by decide) ?_
        cases hq10
        exact hJ11

noncomputable def mi_X3_shift (M : ab_M) (x1 : Int32) (x2 : Int32) : Option (Int32 × ab_M) :=
  ab_chk (vp_in x1 12) <|
  (mi_X4_goTo M (12 + (x1).toNatClampNeg) x2).bind fun q2 =>
  (mi_X3_shift_15 ab_F q2 x1 0 0).bind fun q13 =>
  (mi_X3_measure q2).bind fun q15 =>
  some (q13.1, q15)

set_option maxHeartbeats 4000000 in
set_option maxRecDepth 100000 in
theorem co_X3_shift {l : Launch} {D : va_G} {ac : Nat → ClassId} (M : ab_M) (x1 : Int32) (x2 : Int32) (z : Int32 × ab_M) (h : mi_X3_shift M x1 x2 = some z) : ab_Con l D ac 5 me_X3_shift 0 0 [.ref 1, .int x1, .int x2] ab_SH M (some (.int z.1), ab_SH, z.2) := by
  refine ab_intro (lv := [some (.ref 1), some (.int x1), some (.int x2), none, none]) (by decide) rfl (Nat.le_of_ble_eq_true rfl) rfl ?_
  unfold mi_X3_shift at h
  refine ev_aload_n dX3_shift_0 rfl ?_
  refine ev_getr (o' := 2) fl_RX3_11 sh_1 (by decide) (by decide) rfl rfl dX3_shift_1 ?_
  refine ev_iload_n dX3_shift_4 rfl ?_
  obtain ⟨hb1, h⟩ := ab_chk_some h
  refine ev_aaload sh_2 (Or.inl rfl) hb1 (rf_mast hb1) dX3_shift_5 ?_
  refine ev_iload_n dX3_shift_6 rfl ?_
  obtain ⟨q2, hv3, h⟩ := ab_bind h
  refine ev_callV (st := []) (co_X4_goTo M (12 + (x1).toNatClampNeg) (sh_mast hb1) x2 _ hv3) mv_X4_goTo (sh_mast hb1) ml_RX3_71 dX3_shift_7 (by decide) rfl (Nat.le_of_ble_eq_true rfl) ⟨Nat.le_refl _, Nat.le_refl _⟩ ?_
  refine ev_iconst (x := 0) dX3_shift_10 (by decide) ?_
  refine ev_istore_n dX3_shift_11 (Nat.le_of_ble_eq_true rfl) rfl rfl ?_
  refine ev_iconst (x := 0) dX3_shift_12 (by decide) ?_
  refine ev_istore dX3_shift_13 (Nat.le_of_ble_eq_true rfl) rfl rfl ?_
  obtain ⟨q13, hq14, h⟩ := ab_bind h
  refine ev_drop (lv' := [some (.ref 1), some (.int x1), none, some (.int 0), some (.int 0)]) (ab_sub_k (ab_sub_k (ab_sub_d (ab_sub_k (ab_sub_k ab_sub_nil))))) ?_
  refine lp_X3_shift_15 _ q2 x1 0 0 _ hq14 ?_
  refine ev_aload_n dX3_shift_55 rfl ?_
  obtain ⟨q15, hv16, h⟩ := ab_bind h
  refine ev_callV (st := []) (co_X3_measure q2 _ hv16) mv_X3_measure sh_1 ml_RX3_68 dX3_shift_56 (by decide) rfl (Nat.le_of_ble_eq_true rfl) ⟨Nat.le_refl _, Nat.le_refl _⟩ ?_
  refine ev_iload_n dX3_shift_59 rfl ?_
  cases h
  exact ev_ireturn rfl dX3_shift_60

noncomputable def mi_X3_barOfWants (M : ab_M) (x1 : Int32) (x2 : Int32) : Option (Int32) :=
  ab_chk (vp_in x1 16) <|
  ab_chk (vp_in x2 16) <|
  (mi_X3_barOf M (M.1 3 (x1).toNatClampNeg) (M.1 3 (x2).toNatClampNeg)).bind fun q3 =>
  some q3

set_option maxHeartbeats 4000000 in
set_option maxRecDepth 100000 in
theorem co_X3_barOfWants {l : Launch} {D : va_G} {ac : Nat → ClassId} (M : ab_M) (x1 : Int32) (x2 : Int32) (z : Int32) (h : mi_X3_barOfWants M x1 x2 = some z) : ab_Con l D ac 2 me_X3_barOfWants 0 0 [.ref 1, .int x1, .int x2] ab_SH M (some (.int z), ab_SH, M) := by
  refine ab_intro (lv := [some (.ref 1), some (.int x1), some (.int x2)]) (by decide) rfl (Nat.le_of_ble_eq_true rfl) rfl ?_
  unfold mi_X3_barOfWants at h
  refine ev_aload_n dX3_barOfWants_0 rfl ?_
  refine ev_aload_n dX3_barOfWants_1 rfl ?_
  refine ev_getr (o' := 3) fl_RX3_17 sh_1 (by decide) (by decide) rfl rfl dX3_barOfWants_2 ?_
  refine ev_iload_n dX3_barOfWants_5 rfl ?_
  obtain ⟨hb1, h⟩ := ab_chk_some h
  refine ev_iaload sh_3 hb1 dX3_barOfWants_6 ?_
  refine ev_aload_n dX3_barOfWants_7 rfl ?_
  refine ev_getr (o' := 3) fl_RX3_17 sh_1 (by decide) (by decide) rfl rfl dX3_barOfWants_8 ?_
  refine ev_iload_n dX3_barOfWants_11 rfl ?_
  obtain ⟨hb2, h⟩ := ab_chk_some h
  refine ev_iaload sh_3 hb2 dX3_barOfWants_12 ?_
  obtain ⟨q3, hv4, h⟩ := ab_bind h
  refine ev_callV (st := []) (co_X3_barOf M (M.1 3 (x1).toNatClampNeg) (M.1 3 (x2).toNatClampNeg) _ hv4) mv_X3_barOf sh_1 ml_RX3_75 dX3_barOfWants_13 (by decide) rfl (Nat.le_of_ble_eq_true rfl) ⟨Nat.le_refl _, Nat.le_refl _⟩ ?_
  cases h
  exact ev_ireturn rfl dX3_barOfWants_16

noncomputable def mi_X3_areIn (M : ab_M) (x1 : Int32) (x2 : Int32) (x3 : Int32) : Option (Int32) :=
  ab_chk (vp_in x1 12) <|
  ab_chk (vp_in x1 12) <|
  ab_chk (vp_in x2 12) <|
  if ((((ab_ushr (M.1 11 (x1).toNatClampNeg) x2) &&& (ab_ushr (M.1 11 (x1).toNatClampNeg) x3)) &&& (ab_ushr (M.1 11 (x2).toNatClampNeg) x3)) &&& 1) = 0 then
    some 0
  else
    some 1

set_option maxHeartbeats 4000000 in
set_option maxRecDepth 100000 in
theorem co_X3_areIn {l : Launch} {D : va_G} {ac : Nat → ClassId} (M : ab_M) (x1 : Int32) (x2 : Int32) (x3 : Int32) (z : Int32) (h : mi_X3_areIn M x1 x2 x3 = some z) : ab_Con l D ac 1 me_X3_areIn 0 0 [.ref 1, .int x1, .int x2, .int x3] ab_SH M (some (.int z), ab_SH, M) := by
  refine ab_intro (lv := [some (.ref 1), some (.int x1), some (.int x2), some (.int x3)]) (by decide) rfl (Nat.le_of_ble_eq_true rfl) rfl ?_
  unfold mi_X3_areIn at h
  refine ev_aload_n dX3_areIn_0 rfl ?_
  refine ev_getr (o' := 11) fl_RX3_41 sh_1 (by decide) (by decide) rfl rfl dX3_areIn_1 ?_
  refine ev_iload_n dX3_areIn_4 rfl ?_
  obtain ⟨hb1, h⟩ := ab_chk_some h
  refine ev_iaload sh_11 hb1 dX3_areIn_5 ?_
  refine ev_iload_n dX3_areIn_6 rfl ?_
  refine ev_iushr dX3_areIn_7 ?_
  refine ev_aload_n dX3_areIn_8 rfl ?_
  refine ev_getr (o' := 11) fl_RX3_41 sh_1 (by decide) (by decide) rfl rfl dX3_areIn_9 ?_
  refine ev_iload_n dX3_areIn_12 rfl ?_
  obtain ⟨hb2, h⟩ := ab_chk_some h
  refine ev_iaload sh_11 hb2 dX3_areIn_13 ?_
  refine ev_iload_n dX3_areIn_14 rfl ?_
  refine ev_iushr dX3_areIn_15 ?_
  refine ev_iand dX3_areIn_16 ?_
  refine ev_aload_n dX3_areIn_17 rfl ?_
  refine ev_getr (o' := 11) fl_RX3_41 sh_1 (by decide) (by decide) rfl rfl dX3_areIn_18 ?_
  refine ev_iload_n dX3_areIn_21 rfl ?_
  obtain ⟨hb3, h⟩ := ab_chk_some h
  refine ev_iaload sh_11 hb3 dX3_areIn_22 ?_
  refine ev_iload_n dX3_areIn_23 rfl ?_
  refine ev_iushr dX3_areIn_24 ?_
  refine ev_iand dX3_areIn_25 ?_
  refine ev_iconst (x := 1) dX3_areIn_26 (by decide) ?_
  refine ev_iand dX3_areIn_27 ?_
  refine ev_if_eq (t := 35) dX3_areIn_28 (by decide) (fun hc4 => ?_) (fun hc4 => ?_)
  · replace h := ab_pos hc4 h
    refine ev_iconst (x := 0) dX3_areIn_35 (by decide) ?_
    cases h
    exact ev_zreturn rfl (Or.inl rfl) dX3_areIn_36
  · replace h := ab_neg hc4 h
    refine ev_iconst (x := 1) dX3_areIn_31 (by decide) ?_
    refine ev_goto (t := 36) dX3_areIn_32 (by decide) ?_
    cases h
    exact ev_zreturn rfl (Or.inr rfl) dX3_areIn_36

noncomputable def mi_X3_kindOfWant (M : ab_M) (x1 : Int32) : Option (Int32) :=
  ab_chk (vp_in x1 16) <|
  ab_chk (vp_in (M.1 3 (x1).toNatClampNeg) 12) <|
  some (M.1 (12 + (M.1 3 (x1).toNatClampNeg).toNatClampNeg) 1)

set_option maxHeartbeats 4000000 in
set_option maxRecDepth 100000 in
theorem co_X3_kindOfWant {l : Launch} {D : va_G} {ac : Nat → ClassId} (M : ab_M) (x1 : Int32) (z : Int32) (h : mi_X3_kindOfWant M x1 = some z) : ab_Con l D ac 1 me_X3_kindOfWant 0 0 [.ref 1, .int x1] ab_SH M (some (.int z), ab_SH, M) := by
  refine ab_intro (lv := [some (.ref 1), some (.int x1)]) (by decide) rfl (Nat.le_of_ble_eq_true rfl) rfl ?_
  unfold mi_X3_kindOfWant at h
  refine ev_aload_n dX3_kindOfWant_0 rfl ?_
  refine ev_getr (o' := 2) fl_RX3_11 sh_1 (by decide) (by decide) rfl rfl dX3_kindOfWant_1 ?_
  refine ev_aload_n dX3_kindOfWant_4 rfl ?_
  refine ev_getr (o' := 3) fl_RX3_17 sh_1 (by decide) (by decide) rfl rfl dX3_kindOfWant_5 ?_
  refine ev_iload_n dX3_kindOfWant_8 rfl ?_
  obtain ⟨hb1, h⟩ := ab_chk_some h
  refine ev_iaload sh_3 hb1 dX3_kindOfWant_9 ?_
  obtain ⟨hb2, h⟩ := ab_chk_some h
  refine ev_aaload sh_2 (Or.inl rfl) hb2 (rf_mast hb2) dX3_kindOfWant_10 ?_
  refine ev_geti fl_RX3_97 (sh_mast hb2) (by decide) (by decide) rfl dX3_kindOfWant_11 ?_
  cases h
  exact ev_ireturn rfl dX3_kindOfWant_14

noncomputable def mi_X3_gapOf (M : ab_M) (x1 : Int32) : Option (Int32) :=
  ab_chk (vp_in x1 16) <|
  ab_chk (vp_in (M.1 3 (x1).toNatClampNeg) 12) <|
  if (M.1 (12 + (M.1 3 (x1).toNatClampNeg).toNatClampNeg) 1) = 1 then
    some (M.1 (12 + (M.1 3 (x1).toNatClampNeg).toNatClampNeg) 8)
  else
    some 0

set_option maxHeartbeats 4000000 in
set_option maxRecDepth 100000 in
theorem co_X3_gapOf {l : Launch} {D : va_G} {ac : Nat → ClassId} (M : ab_M) (x1 : Int32) (z : Int32) (h : mi_X3_gapOf M x1 = some z) : ab_Con l D ac 1 me_X3_gapOf 0 0 [.ref 1, .int x1] ab_SH M (some (.int z), ab_SH, M) := by
  refine ab_intro (lv := [some (.ref 1), some (.int x1), none]) (by decide) rfl (Nat.le_of_ble_eq_true rfl) rfl ?_
  unfold mi_X3_gapOf at h
  refine ev_aload_n dX3_gapOf_0 rfl ?_
  refine ev_getr (o' := 2) fl_RX3_11 sh_1 (by decide) (by decide) rfl rfl dX3_gapOf_1 ?_
  refine ev_aload_n dX3_gapOf_4 rfl ?_
  refine ev_getr (o' := 3) fl_RX3_17 sh_1 (by decide) (by decide) rfl rfl dX3_gapOf_5 ?_
  refine ev_iload_n dX3_gapOf_8 rfl ?_
  obtain ⟨hb1, h⟩ := ab_chk_some h
  refine ev_iaload sh_3 hb1 dX3_gapOf_9 ?_
  obtain ⟨hb2, h⟩ := ab_chk_some h
  refine ev_aaload sh_2 (Or.inl rfl) hb2 (rf_mast hb2) dX3_gapOf_10 ?_
  refine ev_astore_n dX3_gapOf_11 (Nat.le_of_ble_eq_true rfl) rfl rfl ?_
  refine ev_aload_n dX3_gapOf_12 rfl ?_
  refine ev_geti fl_RX3_97 (sh_mast hb2) (by decide) (by decide) rfl dX3_gapOf_13 ?_
  refine ev_iconst (x := 1) dX3_gapOf_16 (by decide) ?_
  refine ev_icmp_ne (t := 27) dX3_gapOf_17 (by decide) (fun hc3 => ?_) (fun hc3 => ?_)
  · replace h := ab_neg hc3 h
    refine ev_iconst (x := 0) dX3_gapOf_27 (by decide) ?_
    cases h
    exact ev_ireturn rfl dX3_gapOf_28
  · replace h := ab_pos hc3 h
    refine ev_aload_n dX3_gapOf_20 rfl ?_
    refine ev_geti fl_RX3_100 (sh_mast hb2) (by decide) (by decide) rfl dX3_gapOf_21 ?_
    refine ev_goto (t := 28) dX3_gapOf_24 (by decide) ?_
    cases h
    exact ev_ireturn rfl dX3_gapOf_28

noncomputable def mi_X3_allowed (M : ab_M) (x1 : Int32) : Option (Int32) :=
  ab_chk (vp_in x1 16) <|
  ab_chk (vp_in (M.1 3 (x1).toNatClampNeg) 12) <|
  (mi_X3_gapOf M x1).bind fun q3 =>
  (mi_X1_allows M (12 + (M.1 3 (x1).toNatClampNeg).toNatClampNeg)).bind fun q5 =>
  (some (((M.1 (12 + (M.1 3 (x1).toNatClampNeg).toNatClampNeg) 7) &&& (ab_ushr (M.1 (12 + (M.1 3 (x1).toNatClampNeg).toNatClampNeg) 7) q3)) &&& q5) : Option Int32).bind fun v7 =>
  ab_chk (vp_in x1 16) <|
  if (M.1 4 (x1).toNatClampNeg) = (-2) then
    some v7
  else
    ab_chk (vp_in x1 16) <|
    some (v7 &&& (1 <<< ((M.1 4 (x1).toNatClampNeg) &&& 31)))

set_option maxHeartbeats 4000000 in
set_option maxRecDepth 100000 in
theorem co_X3_allowed {l : Launch} {D : va_G} {ac : Nat → ClassId} (M : ab_M) (x1 : Int32) (z : Int32) (h : mi_X3_allowed M x1 = some z) : ab_Con l D ac 3 me_X3_allowed 0 0 [.ref 1, .int x1] ab_SH M (some (.int z), ab_SH, M) := by
  refine ab_intro (lv := [some (.ref 1), some (.int x1), none, none]) (by decide) rfl (Nat.le_of_ble_eq_true rfl) rfl ?_
  unfold mi_X3_allowed at h
  refine ev_aload_n dX3_allowed_0 rfl ?_
  refine ev_getr (o' := 2) fl_RX3_11 sh_1 (by decide) (by decide) rfl rfl dX3_allowed_1 ?_
  refine ev_aload_n dX3_allowed_4 rfl ?_
  refine ev_getr (o' := 3) fl_RX3_17 sh_1 (by decide) (by decide) rfl rfl dX3_allowed_5 ?_
  refine ev_iload_n dX3_allowed_8 rfl ?_
  obtain ⟨hb1, h⟩ := ab_chk_some h
  refine ev_iaload sh_3 hb1 dX3_allowed_9 ?_
  obtain ⟨hb2, h⟩ := ab_chk_some h
  refine ev_aaload sh_2 (Or.inl rfl) hb2 (rf_mast hb2) dX3_allowed_10 ?_
  refine ev_astore_n dX3_allowed_11 (Nat.le_of_ble_eq_true rfl) rfl rfl ?_
  refine ev_aload_n dX3_allowed_12 rfl ?_
  refine ev_geti fl_RX3_103 (sh_mast hb2) (by decide) (by decide) rfl dX3_allowed_13 ?_
  refine ev_aload_n dX3_allowed_16 rfl ?_
  refine ev_geti fl_RX3_103 (sh_mast hb2) (by decide) (by decide) rfl dX3_allowed_17 ?_
  refine ev_aload_n dX3_allowed_20 rfl ?_
  refine ev_iload_n dX3_allowed_21 rfl ?_
  obtain ⟨q3, hv4, h⟩ := ab_bind h
  refine ev_callV (st := [.int (M.1 (12 + (M.1 3 (x1).toNatClampNeg).toNatClampNeg) 7), .int (M.1 (12 + (M.1 3 (x1).toNatClampNeg).toNatClampNeg) 7)]) (co_X3_gapOf M x1 _ hv4) mv_X3_gapOf sh_1 ml_RX3_106 dX3_allowed_22 (by decide) rfl (Nat.le_of_ble_eq_true rfl) ⟨Nat.le_refl _, Nat.le_refl _⟩ ?_
  refine ev_iushr dX3_allowed_25 ?_
  refine ev_iand dX3_allowed_26 ?_
  refine ev_aload_n dX3_allowed_27 rfl ?_
  refine ev_getr (o' := 9) fl_RX3_34 sh_1 (by decide) (by decide) rfl rfl dX3_allowed_28 ?_
  refine ev_aload_n dX3_allowed_31 rfl ?_
  obtain ⟨q5, hv6, h⟩ := ab_bind h
  refine ev_callV (st := [.int ((M.1 (12 + (M.1 3 (x1).toNatClampNeg).toNatClampNeg) 7) &&& (ab_ushr (M.1 (12 + (M.1 3 (x1).toNatClampNeg).toNatClampNeg) 7) q3))]) (co_X1_allows M (12 + (M.1 3 (x1).toNatClampNeg).toNatClampNeg) (sh_mast hb2) _ hv6) mv_X1_allows sh_9 ml_RX3_110 dX3_allowed_32 (by decide) rfl (Nat.le_of_ble_eq_true rfl) ⟨Nat.le_refl _, Nat.le_refl _⟩ ?_
  refine ev_iand dX3_allowed_35 ?_
  obtain ⟨v7, hq8, h⟩ := ab_bind h
  refine ev_nmi (Option.some.inj hq8) ?_
  refine ev_istore_n (x := v7) dX3_allowed_36 (Nat.le_of_ble_eq_true rfl) rfl rfl ?_
  refine ev_aload_n dX3_allowed_37 rfl ?_
  refine ev_getr (o' := 4) fl_RX3_21 sh_1 (by decide) (by decide) rfl rfl dX3_allowed_38 ?_
  refine ev_iload_n dX3_allowed_41 rfl ?_
  obtain ⟨hb9, h⟩ := ab_chk_some h
  refine ev_iaload sh_4 hb9 dX3_allowed_42 ?_
  refine ev_bipush (x := (-2)) dX3_allowed_43 (by decide) ?_
  refine ev_icmp_ne (t := 52) dX3_allowed_45 (by decide) (fun hc10 => ?_) (fun hc10 => ?_)
  · replace h := ab_neg hc10 h
    refine ev_iload_n dX3_allowed_52 rfl ?_
    refine ev_iconst (x := 1) dX3_allowed_53 (by decide) ?_
    refine ev_aload_n dX3_allowed_54 rfl ?_
    refine ev_getr (o' := 4) fl_RX3_21 sh_1 (by decide) (by decide) rfl rfl dX3_allowed_55 ?_
    refine ev_iload_n dX3_allowed_58 rfl ?_
    obtain ⟨hb11, h⟩ := ab_chk_some h
    refine ev_iaload sh_4 hb11 dX3_allowed_59 ?_
    refine ev_ishl dX3_allowed_60 ?_
    refine ev_iand dX3_allowed_61 ?_
    cases h
    exact ev_ireturn rfl dX3_allowed_62
  · replace h := ab_pos hc10 h
    refine ev_iload_n dX3_allowed_48 rfl ?_
    refine ev_goto (t := 62) dX3_allowed_49 (by decide) ?_
    cases h
    exact ev_ireturn rfl dX3_allowed_62

noncomputable def mi_X3_barredTwos_16 : Nat → ab_M → Int32 → Int32 → Int32 → Option (Int32 × Int32)
  | 0, _, _, _, _ => none
  | n + 1, M, x1, x2, x3 =>
    if (M.1 1 7) ≤ x3 then
      some (x1, x3)
    else
      (mi_X3_barOf M x2 x3).bind fun q3 =>
      ((if q3 ≤ 0 then
        some 0
      else
        some 1) : Option (Int32)).bind fun q5 =>
      mi_X3_barredTwos_16 n M (x1 + q5) x2 (x3 + 1)

set_option maxHeartbeats 4000000 in
set_option maxRecDepth 100000 in
theorem lp_X3_barredTwos_16 {l : Launch} {D : va_G} {ac : Nat → ClassId} {n0 : Nat} {r : ab_Rs} : ∀ (n : Nat) (M : ab_M) (x1 : Int32) (x2 : Int32) (x3 : Int32) (q : Int32 × Int32) (h : mi_X3_barredTwos_16 n M x1 x2 x3 = some q) (kk : ab_Ev l D ac 2 me_X3_barredTwos n0 0 0 r 0 0 ab_SH 47 [some (.ref 1), some (.int q.1), some (.int x2), some (.int q.2)] [] M), ab_Ev l D ac 2 me_X3_barredTwos n0 0 0 r 0 0 ab_SH 16 [some (.ref 1), some (.int x1), some (.int x2), some (.int x3)] [] M := by
  intro n
  induction n with
  | zero =>
    intro M x1 x2 x3 q h kk
    cases h
  | succ n ih =>
    intro M x1 x2 x3 q h kk
    unfold mi_X3_barredTwos_16 at h
    refine ev_iload_n dX3_barredTwos_16 rfl ?_
    refine ev_aload_n dX3_barredTwos_17 rfl ?_
    refine ev_geti fl_RX3_58 sh_1 (by decide) (by decide) rfl dX3_barredTwos_18 ?_
    refine ev_icmp_ge (t := 47) dX3_barredTwos_21 (by decide) (fun hc2 => ?_) (fun hc2 => ?_)
    · replace h := ab_pos hc2 h
      cases h
      exact kk
    · replace h := ab_neg hc2 h
      refine ev_iload_n dX3_barredTwos_24 rfl ?_
      refine ev_aload_n dX3_barredTwos_25 rfl ?_
      refine ev_iload_n dX3_barredTwos_26 rfl ?_
      refine ev_iload_n dX3_barredTwos_27 rfl ?_
      obtain ⟨q3, hv4, h⟩ := ab_bind h
      refine ev_callV (st := [.int x1]) (co_X3_barOf M x2 x3 _ hv4) mv_X3_barOf sh_1 ml_RX3_75 dX3_barredTwos_28 (by decide) rfl (Nat.le_of_ble_eq_true rfl) ⟨Nat.le_refl _, Nat.le_refl _⟩ ?_
      obtain ⟨q5, hq6, h⟩ := ab_bind h
      have hJ7 : ab_Ev l D ac 2 me_X3_barredTwos n0 0 0 r 0 0 ab_SH 39 [some (.ref 1), some (.int x1), some (.int x2), some (.int x3)] [.int q5, .int x1] M := by
        refine ev_iadd dX3_barredTwos_39 ?_
        refine ev_istore_n dX3_barredTwos_40 (Nat.le_of_ble_eq_true rfl) rfl rfl ?_
        refine ev_iinc (y := x3 + 1) dX3_barredTwos_41 rfl (by first | rfl | decide) rfl rfl ?_
        refine ev_goto (t := 16) dX3_barredTwos_44 (by decide) ?_
        exact ih M (x1 + q5) x2 (x3 + 1) _ h kk
      refine ev_if_le (t := 38) dX3_barredTwos_31 (by decide) (fun hc8 => ?_) (fun hc8 => ?_)
      · replace hq6 := ab_pos hc8 hq6
        refine ev_iconst (x := 0) dX3_barredTwos_38 (by decide) ?_
        cases hq6
        exact hJ7
      · replace hq6 := ab_neg hc8 hq6
        refine ev_iconst (x := 1) dX3_barredTwos_34 (by decide) ?_
        refine ev_goto (t := 39) dX3_barredTwos_35 (by decide) ?_
        cases hq6
        exact hJ7

noncomputable def mi_X3_barredTwos_4 : Nat → ab_M → Int32 → Int32 → Option (Int32 × Int32)
  | 0, _, _, _ => none
  | n + 1, M, x1, x2 =>
    if (M.1 1 7) ≤ x2 then
      some (x1, x2)
    else
      (mi_X3_barredTwos_16 ab_F M x1 x2 (x2 + 1)).bind fun q9 =>
      mi_X3_barredTwos_4 n M q9.1 (x2 + 1)

set_option maxHeartbeats 4000000 in
set_option maxRecDepth 100000 in
theorem lp_X3_barredTwos_4 {l : Launch} {D : va_G} {ac : Nat → ClassId} {n0 : Nat} {r : ab_Rs} : ∀ (n : Nat) (M : ab_M) (x1 : Int32) (x2 : Int32) (q : Int32 × Int32) (h : mi_X3_barredTwos_4 n M x1 x2 = some q) (kk : ab_Ev l D ac 2 me_X3_barredTwos n0 0 0 r 0 0 ab_SH 53 [some (.ref 1), some (.int q.1), some (.int q.2), none] [] M), ab_Ev l D ac 2 me_X3_barredTwos n0 0 0 r 0 0 ab_SH 4 [some (.ref 1), some (.int x1), some (.int x2), none] [] M := by
  intro n
  induction n with
  | zero =>
    intro M x1 x2 q h kk
    cases h
  | succ n ih =>
    intro M x1 x2 q h kk
    unfold mi_X3_barredTwos_4 at h
    refine ev_iload_n dX3_barredTwos_4 rfl ?_
    refine ev_aload_n dX3_barredTwos_5 rfl ?_
    refine ev_geti fl_RX3_58 sh_1 (by decide) (by decide) rfl dX3_barredTwos_6 ?_
    refine ev_icmp_ge (t := 53) dX3_barredTwos_9 (by decide) (fun hc1 => ?_) (fun hc1 => ?_)
    · replace h := ab_pos hc1 h
      cases h
      exact kk
    · replace h := ab_neg hc1 h
      refine ev_iload_n dX3_barredTwos_12 rfl ?_
      refine ev_iconst (x := 1) dX3_barredTwos_13 (by decide) ?_
      refine ev_iadd dX3_barredTwos_14 ?_
      refine ev_istore_n dX3_barredTwos_15 (Nat.le_of_ble_eq_true rfl) rfl rfl ?_
      obtain ⟨q9, hq10, h⟩ := ab_bind h
      refine lp_X3_barredTwos_16 _ M x1 x2 (x2 + 1) _ hq10 ?_
      refine ev_iinc (y := x2 + 1) dX3_barredTwos_47 rfl (by first | rfl | decide) rfl rfl ?_
      refine ev_goto (t := 4) dX3_barredTwos_50 (by decide) ?_
      refine ev_drop (lv' := [some (.ref 1), some (.int q9.1), some (.int (x2 + 1)), none]) (ab_sub_k (ab_sub_k (ab_sub_k (ab_sub_d ab_sub_nil)))) ?_
      exact ih M q9.1 (x2 + 1) _ h kk

noncomputable def mi_X3_barredTwos (M : ab_M) : Option (Int32) :=
  (mi_X3_barredTwos_4 ab_F M 0 0).bind fun q11 =>
  some q11.1

set_option maxHeartbeats 4000000 in
set_option maxRecDepth 100000 in
theorem co_X3_barredTwos {l : Launch} {D : va_G} {ac : Nat → ClassId} (M : ab_M) (z : Int32) (h : mi_X3_barredTwos M = some z) : ab_Con l D ac 2 me_X3_barredTwos 0 0 [.ref 1] ab_SH M (some (.int z), ab_SH, M) := by
  refine ab_intro (lv := [some (.ref 1), none, none, none]) (by decide) rfl (Nat.le_of_ble_eq_true rfl) rfl ?_
  unfold mi_X3_barredTwos at h
  refine ev_iconst (x := 0) dX3_barredTwos_0 (by decide) ?_
  refine ev_istore_n dX3_barredTwos_1 (Nat.le_of_ble_eq_true rfl) rfl rfl ?_
  refine ev_iconst (x := 0) dX3_barredTwos_2 (by decide) ?_
  refine ev_istore_n dX3_barredTwos_3 (Nat.le_of_ble_eq_true rfl) rfl rfl ?_
  obtain ⟨q11, hq12, h⟩ := ab_bind h
  refine lp_X3_barredTwos_4 _ M 0 0 _ hq12 ?_
  refine ev_iload_n dX3_barredTwos_53 rfl ?_
  cases h
  exact ev_ireturn rfl dX3_barredTwos_54

noncomputable def mi_X3_threesIn_29 : Nat → ab_M → Int32 → Int32 → Int32 → Int32 → Option (Int32 × Int32)
  | 0, _, _, _, _, _ => none
  | n + 1, M, x1, x2, x3, x4 =>
    if (M.1 1 7) ≤ x4 then
      some (x1, x4)
    else
      (mi_X3_areIn M x2 x3 x4).bind fun q4 =>
      ((if q4 = 0 then
        some 0
      else
        some 1) : Option (Int32)).bind fun q6 =>
      mi_X3_threesIn_29 n M (x1 + q6) x2 x3 (x4 + 1)

set_option maxHeartbeats 4000000 in
set_option maxRecDepth 100000 in
theorem lp_X3_threesIn_29 {l : Launch} {D : va_G} {ac : Nat → ClassId} {n0 : Nat} {r : ab_Rs} : ∀ (n : Nat) (M : ab_M) (x1 : Int32) (x2 : Int32) (x3 : Int32) (x4 : Int32) (q : Int32 × Int32) (h : mi_X3_threesIn_29 n M x1 x2 x3 x4 = some q) (kk : ab_Ev l D ac 2 me_X3_threesIn n0 0 0 r 0 0 ab_SH 63 [some (.ref 1), some (.int q.1), some (.int x2), some (.int x3), some (.int q.2)] [] M), ab_Ev l D ac 2 me_X3_threesIn n0 0 0 r 0 0 ab_SH 29 [some (.ref 1), some (.int x1), some (.int x2), some (.int x3), some (.int x4)] [] M := by
  intro n
  induction n with
  | zero =>
    intro M x1 x2 x3 x4 q h kk
    cases h
  | succ n ih =>
    intro M x1 x2 x3 x4 q h kk
    unfold mi_X3_threesIn_29 at h
    refine ev_iload dX3_threesIn_29 rfl ?_
    refine ev_aload_n dX3_threesIn_31 rfl ?_
    refine ev_geti fl_RX3_58 sh_1 (by decide) (by decide) rfl dX3_threesIn_32 ?_
    refine ev_icmp_ge (t := 63) dX3_threesIn_35 (by decide) (fun hc3 => ?_) (fun hc3 => ?_)
    · replace h := ab_pos hc3 h
      cases h
      exact kk
    · replace h := ab_neg hc3 h
      refine ev_iload_n dX3_threesIn_38 rfl ?_
      refine ev_aload_n dX3_threesIn_39 rfl ?_
      refine ev_iload_n dX3_threesIn_40 rfl ?_
      refine ev_iload_n dX3_threesIn_41 rfl ?_
      refine ev_iload dX3_threesIn_42 rfl ?_
      obtain ⟨q4, hv5, h⟩ := ab_bind h
      refine ev_callV (st := [.int x1]) (co_X3_areIn M x2 x3 x4 _ hv5) mv_X3_areIn sh_1 ml_RX3_114 dX3_threesIn_44 (by decide) rfl (Nat.le_of_ble_eq_true rfl) ⟨Nat.le_refl _, Nat.le_refl _⟩ ?_
      obtain ⟨q6, hq7, h⟩ := ab_bind h
      have hJ8 : ab_Ev l D ac 2 me_X3_threesIn n0 0 0 r 0 0 ab_SH 55 [some (.ref 1), some (.int x1), some (.int x2), some (.int x3), some (.int x4)] [.int q6, .int x1] M := by
        refine ev_iadd dX3_threesIn_55 ?_
        refine ev_istore_n dX3_threesIn_56 (Nat.le_of_ble_eq_true rfl) rfl rfl ?_
        refine ev_iinc (y := x4 + 1) dX3_threesIn_57 rfl (by first | rfl | decide) rfl rfl ?_
        refine ev_goto (t := 29) dX3_threesIn_60 (by decide) ?_
        exact ih M (x1 + q6) x2 x3 (x4 + 1) _ h kk
      refine ev_if_eq (t := 54) dX3_threesIn_47 (by decide) (fun hc9 => ?_) (fun hc9 => ?_)
      · replace hq7 := ab_pos hc9 hq7
        refine ev_iconst (x := 0) dX3_threesIn_54 (by decide) ?_
        cases hq7
        exact hJ8
      · replace hq7 := ab_neg hc9 hq7
        refine ev_iconst (x := 1) dX3_threesIn_50 (by decide) ?_
        refine ev_goto (t := 55) dX3_threesIn_51 (by decide) ?_
        cases hq7
        exact hJ8

noncomputable def mi_X3_threesIn_16 : Nat → ab_M → Int32 → Int32 → Int32 → Option (Int32 × Int32)
  | 0, _, _, _, _ => none
  | n + 1, M, x1, x2, x3 =>
    if (M.1 1 7) ≤ x3 then
      some (x1, x3)
    else
      (mi_X3_threesIn_29 ab_F M x1 x2 x3 (x3 + 1)).bind fun q10 =>
      mi_X3_threesIn_16 n M q10.1 x2 (x3 + 1)

set_option maxHeartbeats 4000000 in
set_option maxRecDepth 100000 in
theorem lp_X3_threesIn_16 {l : Launch} {D : va_G} {ac : Nat → ClassId} {n0 : Nat} {r : ab_Rs} : ∀ (n : Nat) (M : ab_M) (x1 : Int32) (x2 : Int32) (x3 : Int32) (q : Int32 × Int32) (h : mi_X3_threesIn_16 n M x1 x2 x3 = some q) (kk : ab_Ev l D ac 2 me_X3_threesIn n0 0 0 r 0 0 ab_SH 69 [some (.ref 1), some (.int q.1), some (.int x2), some (.int q.2), none] [] M), ab_Ev l D ac 2 me_X3_threesIn n0 0 0 r 0 0 ab_SH 16 [some (.ref 1), some (.int x1), some (.int x2), some (.int x3), none] [] M := by
  intro n
  induction n with
  | zero =>
    intro M x1 x2 x3 q h kk
    cases h
  | succ n ih =>
    intro M x1 x2 x3 q h kk
    unfold mi_X3_threesIn_16 at h
    refine ev_iload_n dX3_threesIn_16 rfl ?_
    refine ev_aload_n dX3_threesIn_17 rfl ?_
    refine ev_geti fl_RX3_58 sh_1 (by decide) (by decide) rfl dX3_threesIn_18 ?_
    refine ev_icmp_ge (t := 69) dX3_threesIn_21 (by decide) (fun hc2 => ?_) (fun hc2 => ?_)
    · replace h := ab_pos hc2 h
      cases h
      exact kk
    · replace h := ab_neg hc2 h
      refine ev_iload_n dX3_threesIn_24 rfl ?_
      refine ev_iconst (x := 1) dX3_threesIn_25 (by decide) ?_
      refine ev_iadd dX3_threesIn_26 ?_
      refine ev_istore dX3_threesIn_27 (Nat.le_of_ble_eq_true rfl) rfl rfl ?_
      obtain ⟨q10, hq11, h⟩ := ab_bind h
      refine lp_X3_threesIn_29 _ M x1 x2 x3 (x3 + 1) _ hq11 ?_
      refine ev_iinc (y := x3 + 1) dX3_threesIn_63 rfl (by first | rfl | decide) rfl rfl ?_
      refine ev_goto (t := 16) dX3_threesIn_66 (by decide) ?_
      refine ev_drop (lv' := [some (.ref 1), some (.int q10.1), some (.int x2), some (.int (x3 + 1)), none]) (ab_sub_k (ab_sub_k (ab_sub_k (ab_sub_k (ab_sub_d ab_sub_nil))))) ?_
      exact ih M q10.1 x2 (x3 + 1) _ h kk

noncomputable def mi_X3_threesIn_4 : Nat → ab_M → Int32 → Int32 → Option (Int32 × Int32)
  | 0, _, _, _ => none
  | n + 1, M, x1, x2 =>
    if (M.1 1 7) ≤ x2 then
      some (x1, x2)
    else
      (mi_X3_threesIn_16 ab_F M x1 x2 (x2 + 1)).bind fun q12 =>
      mi_X3_threesIn_4 n M q12.1 (x2 + 1)

set_option maxHeartbeats 4000000 in
set_option maxRecDepth 100000 in
theorem lp_X3_threesIn_4 {l : Launch} {D : va_G} {ac : Nat → ClassId} {n0 : Nat} {r : ab_Rs} : ∀ (n : Nat) (M : ab_M) (x1 : Int32) (x2 : Int32) (q : Int32 × Int32) (h : mi_X3_threesIn_4 n M x1 x2 = some q) (kk : ab_Ev l D ac 2 me_X3_threesIn n0 0 0 r 0 0 ab_SH 75 [some (.ref 1), some (.int q.1), some (.int q.2), none, none] [] M), ab_Ev l D ac 2 me_X3_threesIn n0 0 0 r 0 0 ab_SH 4 [some (.ref 1), some (.int x1), some (.int x2), none, none] [] M := by
  intro n
  induction n with
  | zero =>
    intro M x1 x2 q h kk
    cases h
  | succ n ih =>
    intro M x1 x2 q h kk
    unfold mi_X3_threesIn_4 at h
    refine ev_iload_n dX3_threesIn_4 rfl ?_
    refine ev_aload_n dX3_threesIn_5 rfl ?_
    refine ev_geti fl_RX3_58 sh_1 (by decide) (by decide) rfl dX3_threesIn_6 ?_
    refine ev_icmp_ge (t := 75) dX3_threesIn_9 (by decide) (fun hc1 => ?_) (fun hc1 => ?_)
    · replace h := ab_pos hc1 h
      cases h
      exact kk
    · replace h := ab_neg hc1 h
      refine ev_iload_n dX3_threesIn_12 rfl ?_
      refine ev_iconst (x := 1) dX3_threesIn_13 (by decide) ?_
      refine ev_iadd dX3_threesIn_14 ?_
      refine ev_istore_n dX3_threesIn_15 (Nat.le_of_ble_eq_true rfl) rfl rfl ?_
      obtain ⟨q12, hq13, h⟩ := ab_bind h
      refine lp_X3_threesIn_16 _ M x1 x2 (x2 + 1) _ hq13 ?_
      refine ev_iinc (y := x2 + 1) dX3_threesIn_69 rfl (by first | rfl | decide) rfl rfl ?_
      refine ev_goto (t := 4) dX3_threesIn_72 (by decide) ?_
      refine ev_drop (lv' := [some (.ref 1), some (.int q12.1), some (.int (x2 + 1)), none, none]) (ab_sub_k (ab_sub_k (ab_sub_k (ab_sub_d (ab_sub_k ab_sub_nil))))) ?_
      exact ih M q12.1 (x2 + 1) _ h kk

noncomputable def mi_X3_threesIn (M : ab_M) : Option (Int32) :=
  (mi_X3_threesIn_4 ab_F M 0 0).bind fun q14 =>
  some q14.1

set_option maxHeartbeats 4000000 in
set_option maxRecDepth 100000 in
theorem co_X3_threesIn {l : Launch} {D : va_G} {ac : Nat → ClassId} (M : ab_M) (z : Int32) (h : mi_X3_threesIn M = some z) : ab_Con l D ac 2 me_X3_threesIn 0 0 [.ref 1] ab_SH M (some (.int z), ab_SH, M) := by
  refine ab_intro (lv := [some (.ref 1), none, none, none, none]) (by decide) rfl (Nat.le_of_ble_eq_true rfl) rfl ?_
  unfold mi_X3_threesIn at h
  refine ev_iconst (x := 0) dX3_threesIn_0 (by decide) ?_
  refine ev_istore_n dX3_threesIn_1 (Nat.le_of_ble_eq_true rfl) rfl rfl ?_
  refine ev_iconst (x := 0) dX3_threesIn_2 (by decide) ?_
  refine ev_istore_n dX3_threesIn_3 (Nat.le_of_ble_eq_true rfl) rfl rfl ?_
  obtain ⟨q14, hq15, h⟩ := ab_bind h
  refine lp_X3_threesIn_4 _ M 0 0 _ hq15 ?_
  refine ev_iload_n dX3_threesIn_75 rfl ?_
  cases h
  exact ev_ireturn rfl dX3_threesIn_76

noncomputable def mi_X3_joinedTo_4 : Nat → ab_M → Int32 → Int32 → Int32 → Option (Int32 × Int32)
  | 0, _, _, _, _ => none
  | n + 1, M, x1, x2, x3 =>
    if (M.1 1 7) ≤ x3 then
      some (x2, x3)
    else
      ab_chk (vp_in x1 12) <|
      ((if ((ab_ushr (M.1 11 (x1).toNatClampNeg) x3) &&& 1) = 0 then
        some 0
      else
        ab_chk (vp_in x1 12) <|
        ab_chk (vp_in x3 12) <|
        if ((M.1 11 (x1).toNatClampNeg) &&& (M.1 11 (x3).toNatClampNeg)) = 0 then
          some 0
        else
          some 1) : Option (Int32)).bind fun q3 =>
      ((if x1 = x3 then
        some 0
      else
        (mi_X3_barOf M x1 x3).bind fun q14 =>
        if 0 < q14 then
          some (1 <<< (x3 &&& 31))
        else
          if q3 = 0 then
            some 0
          else
            some (1 <<< (x3 &&& 31))) : Option (Int32)).bind fun q10 =>
      mi_X3_joinedTo_4 n M x1 (x2 ||| q10) (x3 + 1)

set_option maxHeartbeats 4000000 in
set_option maxRecDepth 100000 in
theorem lp_X3_joinedTo_4 {l : Launch} {D : va_G} {ac : Nat → ClassId} {n0 : Nat} {r : ab_Rs} : ∀ (n : Nat) (M : ab_M) (x1 : Int32) (x2 : Int32) (x3 : Int32) (q : Int32 × Int32) (h : mi_X3_joinedTo_4 n M x1 x2 x3 = some q) (kk : ab_Ev l D ac 2 me_X3_joinedTo n0 0 0 r 0 0 ab_SH 83 [some (.ref 1), some (.int x1), some (.int q.1), some (.int q.2), none] [] M), ab_Ev l D ac 2 me_X3_joinedTo n0 0 0 r 0 0 ab_SH 4 [some (.ref 1), some (.int x1), some (.int x2), some (.int x3), none] [] M := by
  intro n
  induction n with
  | zero =>
    intro M x1 x2 x3 q h kk
    cases h
  | succ n ih =>
    intro M x1 x2 x3 q h kk
    unfold mi_X3_joinedTo_4 at h
    refine ev_iload_n dX3_joinedTo_4 rfl ?_
    refine ev_aload_n dX3_joinedTo_5 rfl ?_
    refine ev_geti fl_RX3_58 sh_1 (by decide) (by decide) rfl dX3_joinedTo_6 ?_
    refine ev_icmp_ge (t := 83) dX3_joinedTo_9 (by decide) (fun hc1 => ?_) (fun hc1 => ?_)
    · replace h := ab_pos hc1 h
      cases h
      exact kk
    · replace h := ab_neg hc1 h
      refine ev_aload_n dX3_joinedTo_12 rfl ?_
      refine ev_getr (o' := 11) fl_RX3_41 sh_1 (by decide) (by decide) rfl rfl dX3_joinedTo_13 ?_
      refine ev_iload_n dX3_joinedTo_16 rfl ?_
      obtain ⟨hb2, h⟩ := ab_chk_some h
      refine ev_iaload sh_11 hb2 dX3_joinedTo_17 ?_
      refine ev_iload_n dX3_joinedTo_18 rfl ?_
      refine ev_iushr dX3_joinedTo_19 ?_
      refine ev_iconst (x := 1) dX3_joinedTo_20 (by decide) ?_
      refine ev_iand dX3_joinedTo_21 ?_
      obtain ⟨q3, hq4, h⟩ := ab_bind h
      have hJ5 : ab_Ev l D ac 2 me_X3_joinedTo n0 0 0 r 0 0 ab_SH 46 [some (.ref 1), some (.int x1), some (.int x2), some (.int x3), none] [.int q3] M := by
        refine ev_istore dX3_joinedTo_46 (Nat.le_of_ble_eq_true rfl) rfl rfl ?_
        refine ev_iload_n dX3_joinedTo_48 rfl ?_
        refine ev_iload_n dX3_joinedTo_49 rfl ?_
        refine ev_iload_n dX3_joinedTo_50 rfl ?_
        obtain ⟨q10, hq11, h⟩ := ab_bind h
        have hJ12 : ab_Ev l D ac 2 me_X3_joinedTo n0 0 0 r 0 0 ab_SH 75 [some (.ref 1), some (.int x1), some (.int x2), some (.int x3), some (.int q3)] [.int q10, .int x2] M := by
          refine ev_ior dX3_joinedTo_75 ?_
          refine ev_istore_n dX3_joinedTo_76 (Nat.le_of_ble_eq_true rfl) rfl rfl ?_
          refine ev_iinc (y := x3 + 1) dX3_joinedTo_77 rfl (by first | rfl | decide) rfl rfl ?_
          refine ev_goto (t := 4) dX3_joinedTo_80 (by decide) ?_
          refine ev_drop (lv' := [some (.ref 1), some (.int x1), some (.int (x2 ||| q10)), some (.int (x3 + 1)), none]) (ab_sub_k (ab_sub_k (ab_sub_k (ab_sub_k (ab_sub_d ab_sub_nil))))) ?_
          exact ih M x1 (x2 ||| q10) (x3 + 1) _ h kk
        refine ev_icmp_eq (t := 74) dX3_joinedTo_51 (by decide) (fun hc13 => ?_) (fun hc13 => ?_)
        · replace hq11 := ab_pos hc13 hq11
          refine ev_iconst (x := 0) dX3_joinedTo_74 (by decide) ?_
          cases hq11
          exact hJ12
        · replace hq11 := ab_neg hc13 hq11
          refine ev_aload_n dX3_joinedTo_54 rfl ?_
          refine ev_iload_n dX3_joinedTo_55 rfl ?_
          refine ev_iload_n dX3_joinedTo_56 rfl ?_
          obtain ⟨q14, hv15, hq11⟩ := ab_bind hq11
          refine ev_callV (st := [.int x2]) (co_X3_barOf M x1 x3 _ hv15) mv_X3_barOf sh_1 ml_RX3_75 dX3_joinedTo_57 (by decide) rfl (Nat.le_of_ble_eq_true rfl) ⟨Nat.le_refl _, Nat.le_refl _⟩ ?_
          refine ev_if_gt (t := 68) dX3_joinedTo_60 (by decide) (fun hc16 => ?_) (fun hc16 => ?_)
          · replace hq11 := ab_pos hc16 hq11
            refine ev_iconst (x := 1) dX3_joinedTo_68 (by decide) ?_
            refine ev_iload_n dX3_joinedTo_69 rfl ?_
            refine ev_ishl dX3_joinedTo_70 ?_
            refine ev_goto (t := 75) dX3_joinedTo_71 (by decide) ?_
            cases hq11
            exact hJ12
          · replace hq11 := ab_neg hc16 hq11
            refine ev_iload dX3_joinedTo_63 rfl ?_
            refine ev_if_eq (t := 74) dX3_joinedTo_65 (by decide) (fun hc17 => ?_) (fun hc17 => ?_)
            · replace hq11 := ab_pos hc17 hq11
              refine ev_iconst (x := 0) dX3_joinedTo_74 (by decide) ?_
              cases hq11
              exact hJ12
            · replace hq11 := ab_neg hc17 hq11
              refine ev_iconst (x := 1) dX3_joinedTo_68 (by decide) ?_
              refine ev_iload_n dX3_joinedTo_69 rfl ?_
              refine ev_ishl dX3_joinedTo_70 ?_
              refine ev_goto (t := 75) dX3_joinedTo_71 (by decide) ?_
              cases hq11
              exact hJ12
      refine ev_if_eq (t := 45) dX3_joinedTo_22 (by decide) (fun hc6 => ?_) (fun hc6 => ?_)
      · replace hq4 := ab_pos hc6 hq4
        refine ev_iconst (x := 0) dX3_joinedTo_45 (by decide) ?_
        cases hq4
        exact hJ5
      · replace hq4 := ab_neg hc6 hq4
        refine ev_aload_n dX3_joinedTo_25 rfl ?_
        refine ev_getr (o' := 11) fl_RX3_41 sh_1 (by decide) (by decide) rfl rfl dX3_joinedTo_26 ?_
        refine ev_iload_n dX3_joinedTo_29 rfl ?_
        obtain ⟨hb7, hq4⟩ := ab_chk_some hq4
        refine ev_iaload sh_11 hb7 dX3_joinedTo_30 ?_
        refine ev_aload_n dX3_joinedTo_31 rfl ?_
        refine ev_getr (o' := 11) fl_RX3_41 sh_1 (by decide) (by decide) rfl rfl dX3_joinedTo_32 ?_
        refine ev_iload_n dX3_joinedTo_35 rfl ?_
        obtain ⟨hb8, hq4⟩ := ab_chk_some hq4
        refine ev_iaload sh_11 hb8 dX3_joinedTo_36 ?_
        refine ev_iand dX3_joinedTo_37 ?_
        refine ev_if_eq (t := 45) dX3_joinedTo_38 (by decide) (fun hc9 => ?_) (fun hc9 => ?_)
        · replace hq4 := ab_pos hc9 hq4
          refine ev_iconst (x := 0) dX3_joinedTo_45 (by decide) ?_
          cases hq4
          exact hJ5
        · replace hq4 := ab_neg hc9 hq4
          refine ev_iconst (x := 1) dX3_joinedTo_41 (by decide) ?_
          refine ev_goto (t := 46) dX3_joinedTo_42 (by decide) ?_
          cases hq4
          exact hJ5

noncomputable def mi_X3_joinedTo (M : ab_M) (x1 : Int32) : Option (Int32) :=
  (mi_X3_joinedTo_4 ab_F M x1 0 0).bind fun q18 =>
  some q18.1

set_option maxHeartbeats 4000000 in
set_option maxRecDepth 100000 in
theorem co_X3_joinedTo {l : Launch} {D : va_G} {ac : Nat → ClassId} (M : ab_M) (x1 : Int32) (z : Int32) (h : mi_X3_joinedTo M x1 = some z) : ab_Con l D ac 2 me_X3_joinedTo 0 0 [.ref 1, .int x1] ab_SH M (some (.int z), ab_SH, M) := by
  refine ab_intro (lv := [some (.ref 1), some (.int x1), none, none, none]) (by decide) rfl (Nat.le_of_ble_eq_true rfl) rfl ?_
  unfold mi_X3_joinedTo at h
  refine ev_iconst (x := 0) dX3_joinedTo_0 (by decide) ?_
  refine ev_istore_n dX3_joinedTo_1 (Nat.le_of_ble_eq_true rfl) rfl rfl ?_
  refine ev_iconst (x := 0) dX3_joinedTo_2 (by decide) ?_
  refine ev_istore_n dX3_joinedTo_3 (Nat.le_of_ble_eq_true rfl) rfl rfl ?_
  obtain ⟨q18, hq19, h⟩ := ab_bind h
  refine lp_X3_joinedTo_4 _ M x1 0 0 _ hq19 ?_
  refine ev_iload_n dX3_joinedTo_83 rfl ?_
  cases h
  exact ev_ireturn rfl dX3_joinedTo_84

noncomputable def mi_X3_partAround_20 : Nat → ab_M → Int32 → Int32 → Int32 → Int32 → Option (Int32 × Int32)
  | 0, _, _, _, _, _ => none
  | n + 1, M, x2, x3, x4, x5 =>
    if (M.1 1 7) ≤ x5 then
      some (x4, x5)
    else
      ((if ((ab_ushr x2 x5) &&& 1) = 0 then
        some 0
      else
        (mi_X3_joinedTo M x5).bind fun q7 =>
        some q7) : Option (Int32)).bind fun q3 =>
      mi_X3_partAround_20 n M x2 x3 (x4 ||| q3) (x5 + 1)

set_option maxHeartbeats 4000000 in
set_option maxRecDepth 100000 in
theorem lp_X3_partAround_20 {l : Launch} {D : va_G} {ac : Nat → ClassId} {n0 : Nat} {r : ab_Rs} : ∀ (n : Nat) (M : ab_M) (x2 : Int32) (x3 : Int32) (x4 : Int32) (x5 : Int32) (q : Int32 × Int32) (h : mi_X3_partAround_20 n M x2 x3 x4 x5 = some q) (kk : ab_Ev l D ac 3 me_X3_partAround n0 0 0 r 0 0 ab_SH 59 [some (.ref 1), none, some (.int x2), some (.int x3), some (.int q.1), some (.int q.2)] [] M), ab_Ev l D ac 3 me_X3_partAround n0 0 0 r 0 0 ab_SH 20 [some (.ref 1), none, some (.int x2), some (.int x3), some (.int x4), some (.int x5)] [] M := by
  intro n
  induction n with
  | zero =>
    intro M x2 x3 x4 x5 q h kk
    cases h
  | succ n ih =>
    intro M x2 x3 x4 x5 q h kk
    unfold mi_X3_partAround_20 at h
    refine ev_iload dX3_partAround_20 rfl ?_
    refine ev_aload_n dX3_partAround_22 rfl ?_
    refine ev_geti fl_RX3_58 sh_1 (by decide) (by decide) rfl dX3_partAround_23 ?_
    refine ev_icmp_ge (t := 59) dX3_partAround_26 (by decide) (fun hc2 => ?_) (fun hc2 => ?_)
    · replace h := ab_pos hc2 h
      cases h
      exact kk
    · replace h := ab_neg hc2 h
      refine ev_iload dX3_partAround_29 rfl ?_
      refine ev_iload_n dX3_partAround_31 rfl ?_
      refine ev_iload dX3_partAround_32 rfl ?_
      refine ev_iushr dX3_partAround_34 ?_
      refine ev_iconst (x := 1) dX3_partAround_35 (by decide) ?_
      refine ev_iand dX3_partAround_36 ?_
      obtain ⟨q3, hq4, h⟩ := ab_bind h
      have hJ5 : ab_Ev l D ac 3 me_X3_partAround n0 0 0 r 0 0 ab_SH 50 [some (.ref 1), none, some (.int x2), some (.int x3), some (.int x4), some (.int x5)] [.int q3, .int x4] M := by
        refine ev_ior dX3_partAround_50 ?_
        refine ev_istore dX3_partAround_51 (Nat.le_of_ble_eq_true rfl) rfl rfl ?_
        refine ev_iinc (y := x5 + 1) dX3_partAround_53 rfl (by first | rfl | decide) rfl rfl ?_
        refine ev_goto (t := 20) dX3_partAround_56 (by decide) ?_
        exact ih M x2 x3 (x4 ||| q3) (x5 + 1) _ h kk
      refine ev_if_eq (t := 49) dX3_partAround_37 (by decide) (fun hc6 => ?_) (fun hc6 => ?_)
      · replace hq4 := ab_pos hc6 hq4
        refine ev_iconst (x := 0) dX3_partAround_49 (by decide) ?_
        cases hq4
        exact hJ5
      · replace hq4 := ab_neg hc6 hq4
        refine ev_aload_n dX3_partAround_40 rfl ?_
        refine ev_iload dX3_partAround_41 rfl ?_
        obtain ⟨q7, hv8, hq4⟩ := ab_bind hq4
        refine ev_callV (st := [.int x4]) (co_X3_joinedTo M x5 _ hv8) mv_X3_joinedTo sh_1 ml_RX3_121 dX3_partAround_43 (by decide) rfl (Nat.le_of_ble_eq_true rfl) ⟨Nat.le_refl _, Nat.le_refl _⟩ ?_
        refine ev_goto (t := 50) dX3_partAround_46 (by decide) ?_
        cases hq4
        exact hJ5

noncomputable def mi_X3_partAround_6 : Nat → ab_M → Int32 → Int32 → Option (Sum (Int32 × Int32) (Int32))
  | 0, _, _, _ => none
  | n + 1, M, x2, x3 =>
    if (M.1 1 7) ≤ x3 then
      some (.inl (x2, x3))
    else
      (mi_X3_partAround_20 ab_F M x2 x3 x2 0).bind fun q9 =>
      if q9.1 = x2 then
        some (.inr x2)
      else
        mi_X3_partAround_6 n M q9.1 (x3 + 1)

set_option maxHeartbeats 4000000 in
set_option maxRecDepth 100000 in
theorem lp_X3_partAround_6 {l : Launch} {D : va_G} {ac : Nat → ClassId} {n0 : Nat} {r : ab_Rs} : ∀ (n : Nat) (M : ab_M) (x2 : Int32) (x3 : Int32) (q : Sum (Int32 × Int32) (Int32)) (h : mi_X3_partAround_6 n M x2 x3 = some q) (kk : ∀ y, q = .inl y → ab_Ev l D ac 3 me_X3_partAround n0 0 0 r 0 0 ab_SH 76 [some (.ref 1), none, some (.int y.1), some (.int y.2), none, none] [] M) (kr : ∀ v, q = .inr v → r = (some (.int v), ab_SH, M)), ab_Ev l D ac 3 me_X3_partAround n0 0 0 r 0 0 ab_SH 6 [some (.ref 1), none, some (.int x2), some (.int x3), none, none] [] M := by
  intro n
  induction n with
  | zero =>
    intro M x2 x3 q h kk kr
    cases h
  | succ n ih =>
    intro M x2 x3 q h kk kr
    unfold mi_X3_partAround_6 at h
    refine ev_iload_n dX3_partAround_6 rfl ?_
    refine ev_aload_n dX3_partAround_7 rfl ?_
    refine ev_geti fl_RX3_58 sh_1 (by decide) (by decide) rfl dX3_partAround_8 ?_
    refine ev_icmp_ge (t := 76) dX3_partAround_11 (by decide) (fun hc1 => ?_) (fun hc1 => ?_)
    · replace h := ab_pos hc1 h
      cases h
      exact kk _ rfl
    · replace h := ab_neg hc1 h
      refine ev_iload_n dX3_partAround_14 rfl ?_
      refine ev_istore dX3_partAround_15 (Nat.le_of_ble_eq_true rfl) rfl rfl ?_
      refine ev_iconst (x := 0) dX3_partAround_17 (by decide) ?_
      refine ev_istore dX3_partAround_18 (Nat.le_of_ble_eq_true rfl) rfl rfl ?_
      obtain ⟨q9, hq10, h⟩ := ab_bind h
      refine lp_X3_partAround_20 _ M x2 x3 x2 0 _ hq10 ?_
      refine ev_iload dX3_partAround_59 rfl ?_
      refine ev_iload_n dX3_partAround_61 rfl ?_
      refine ev_icmp_ne (t := 67) dX3_partAround_62 (by decide) (fun hc11 => ?_) (fun hc11 => ?_)
      · replace h := ab_neg hc11 h
        refine ev_iload dX3_partAround_67 rfl ?_
        refine ev_istore_n dX3_partAround_69 (Nat.le_of_ble_eq_true rfl) rfl rfl ?_
        refine ev_iinc (y := x3 + 1) dX3_partAround_70 rfl (by first | rfl | decide) rfl rfl ?_
        refine ev_goto (t := 6) dX3_partAround_73 (by decide) ?_
        refine ev_drop (lv' := [some (.ref 1), none, some (.int q9.1), some (.int (x3 + 1)), none, none]) (ab_sub_k (ab_sub_k (ab_sub_k (ab_sub_k (ab_sub_d (ab_sub_d ab_sub_nil)))))) ?_
        exact ih M q9.1 (x3 + 1) _ h kk kr
      · replace h := ab_pos hc11 h
        refine ev_iload_n dX3_partAround_65 rfl ?_
        cases h
        rw [kr _ rfl]
        exact ev_ireturn rfl dX3_partAround_66

noncomputable def mi_X3_partAround (M : ab_M) (x1 : Int32) : Option (Int32) :=
  (mi_X3_partAround_6 ab_F M (1 <<< (x1 &&& 31)) 0).bind fun q15 => Sum.elim (fun q12 =>
  some q12.1) (fun v14 => some v14) q15

set_option maxHeartbeats 4000000 in
set_option maxRecDepth 100000 in
theorem co_X3_partAround {l : Launch} {D : va_G} {ac : Nat → ClassId} (M : ab_M) (x1 : Int32) (z : Int32) (h : mi_X3_partAround M x1 = some z) : ab_Con l D ac 3 me_X3_partAround 0 0 [.ref 1, .int x1] ab_SH M (some (.int z), ab_SH, M) := by
  refine ab_intro (lv := [some (.ref 1), some (.int x1), none, none, none, none]) (by decide) rfl (Nat.le_of_ble_eq_true rfl) rfl ?_
  unfold mi_X3_partAround at h
  refine ev_iconst (x := 1) dX3_partAround_0 (by decide) ?_
  refine ev_iload_n dX3_partAround_1 rfl ?_
  refine ev_ishl dX3_partAround_2 ?_
  refine ev_istore_n dX3_partAround_3 (Nat.le_of_ble_eq_true rfl) rfl rfl ?_
  refine ev_iconst (x := 0) dX3_partAround_4 (by decide) ?_
  refine ev_istore_n dX3_partAround_5 (Nat.le_of_ble_eq_true rfl) rfl rfl ?_
  obtain ⟨q15, hq13, h⟩ := ab_bind h
  refine ev_drop (lv' := [some (.ref 1), none, some (.int (1 <<< (x1 &&& 31))), some (.int 0), none, none]) (ab_sub_k (ab_sub_d (ab_sub_k (ab_sub_k (ab_sub_k (ab_sub_k ab_sub_nil)))))) ?_
  rcases ab_elim h with ⟨q12, rfl, h⟩ | ⟨v14, rfl, h⟩
  · refine lp_X3_partAround_6 _ M (1 <<< (x1 &&& 31)) 0 _ hq13 (fun z e16 => ?_) (fun z e16 => by cases e16)
    cases e16
    refine ev_iload_n dX3_partAround_76 rfl ?_
    cases h
    exact ev_ireturn rfl dX3_partAround_77
  · refine lp_X3_partAround_6 _ M (1 <<< (x1 &&& 31)) 0 _ hq13 (fun z e16 => by cases e16) (fun z e16 => ?_)
    cases e16
    cases h
    rfl

noncomputable def mi_X3_parts_6 : Nat → ab_M → Int32 → Int32 → Int32 → Option (Int32 × Int32 × Int32)
  | 0, _, _, _, _ => none
  | n + 1, M, x1, x2, x3 =>
    if (M.1 1 7) ≤ x3 then
      some (x1, x2, x3)
    else
      ((if ((ab_ushr x2 x3) &&& 1) = 0 then
        (mi_X3_partAround M x3).bind fun q6 =>
        some (x1 + 1, x2 ||| q6)
      else
        some (x1, x2)) : Option (Int32 × Int32)).bind fun q2 =>
      mi_X3_parts_6 n M q2.1 q2.2 (x3 + 1)

set_option maxHeartbeats 4000000 in
set_option maxRecDepth 100000 in
theorem lp_X3_parts_6 {l : Launch} {D : va_G} {ac : Nat → ClassId} {n0 : Nat} {r : ab_Rs} : ∀ (n : Nat) (M : ab_M) (x1 : Int32) (x2 : Int32) (x3 : Int32) (q : Int32 × Int32 × Int32) (h : mi_X3_parts_6 n M x1 x2 x3 = some q) (kk : ab_Ev l D ac 4 me_X3_parts n0 0 0 r 0 0 ab_SH 39 [some (.ref 1), some (.int q.1), some (.int q.2.1), some (.int q.2.2)] [] M), ab_Ev l D ac 4 me_X3_parts n0 0 0 r 0 0 ab_SH 6 [some (.ref 1), some (.int x1), some (.int x2), some (.int x3)] [] M := by
  intro n
  induction n with
  | zero =>
    intro M x1 x2 x3 q h kk
    cases h
  | succ n ih =>
    intro M x1 x2 x3 q h kk
    unfold mi_X3_parts_6 at h
    refine ev_iload_n dX3_parts_6 rfl ?_
    refine ev_aload_n dX3_parts_7 rfl ?_
    refine ev_geti fl_RX3_58 sh_1 (by decide) (by decide) rfl dX3_parts_8 ?_
    refine ev_icmp_ge (t := 39) dX3_parts_11 (by decide) (fun hc1 => ?_) (fun hc1 => ?_)
    · replace h := ab_pos hc1 h
      cases h
      exact kk
    · replace h := ab_neg hc1 h
      refine ev_iload_n dX3_parts_14 rfl ?_
      refine ev_iload_n dX3_parts_15 rfl ?_
      refine ev_iushr dX3_parts_16 ?_
      refine ev_iconst (x := 1) dX3_parts_17 (by decide) ?_
      refine ev_iand dX3_parts_18 ?_
      obtain ⟨q2, hq3, h⟩ := ab_bind h
      have hJ4 : ab_Ev l D ac 4 me_X3_parts n0 0 0 r 0 0 ab_SH 33 [some (.ref 1), some (.int q2.1), some (.int q2.2), some (.int x3)] [] M := by
        refine ev_iinc (y := x3 + 1) dX3_parts_33 rfl (by first | rfl | decide) rfl rfl ?_
        refine ev_goto (t := 6) dX3_parts_36 (by decide) ?_
        exact ih M q2.1 q2.2 (x3 + 1) _ h kk
      refine ev_if_ne (t := 33) dX3_parts_19 (by decide) (fun hc5 => ?_) (fun hc5 => ?_)
      · replace hq3 := ab_neg hc5 hq3
        cases hq3
        exact hJ4
      · replace hq3 := ab_pos hc5 hq3
        refine ev_iload_n dX3_parts_22 rfl ?_
        refine ev_aload_n dX3_parts_23 rfl ?_
        refine ev_iload_n dX3_parts_24 rfl ?_
        obtain ⟨q6, hv7, hq3⟩ := ab_bind hq3
        refine ev_callV (st := [.int x2]) (co_X3_partAround M x3 _ hv7) mv_X3_partAround sh_1 ml_RX3_118 dX3_parts_25 (by decide) rfl (Nat.le_of_ble_eq_true rfl) ⟨Nat.le_refl _, Nat.le_refl _⟩ ?_
        refine ev_ior dX3_parts_28 ?_
        refine ev_istore_n dX3_parts_29 (Nat.le_of_ble_eq_true rfl) rfl rfl ?_
        refine ev_iinc (y := x1 + 1) dX3_parts_30 rfl (by first | rfl | decide) rfl rfl ?_
        cases hq3
        exact hJ4

noncomputable def mi_X3_parts (M : ab_M) : Option (Int32) :=
  (mi_X3_parts_6 ab_F M 0 0 0).bind fun q8 =>
  some q8.1

set_option maxHeartbeats 4000000 in
set_option maxRecDepth 100000 in
theorem co_X3_parts {l : Launch} {D : va_G} {ac : Nat → ClassId} (M : ab_M) (z : Int32) (h : mi_X3_parts M = some z) : ab_Con l D ac 4 me_X3_parts 0 0 [.ref 1] ab_SH M (some (.int z), ab_SH, M) := by
  refine ab_intro (lv := [some (.ref 1), none, none, none]) (by decide) rfl (Nat.le_of_ble_eq_true rfl) rfl ?_
  unfold mi_X3_parts at h
  refine ev_iconst (x := 0) dX3_parts_0 (by decide) ?_
  refine ev_istore_n dX3_parts_1 (Nat.le_of_ble_eq_true rfl) rfl rfl ?_
  refine ev_iconst (x := 0) dX3_parts_2 (by decide) ?_
  refine ev_istore_n dX3_parts_3 (Nat.le_of_ble_eq_true rfl) rfl rfl ?_
  refine ev_iconst (x := 0) dX3_parts_4 (by decide) ?_
  refine ev_istore_n dX3_parts_5 (Nat.le_of_ble_eq_true rfl) rfl rfl ?_
  obtain ⟨q8, hq9, h⟩ := ab_bind h
  refine lp_X3_parts_6 _ M 0 0 0 _ hq9 ?_
  refine ev_iload_n dX3_parts_39 rfl ?_
  cases h
  exact ev_ireturn rfl dX3_parts_40

noncomputable def mi_X3_partOf_7 : Nat → ab_M → Int32 → Int32 → Int32 → Int32 → Option (Sum (Int32 × Int32 × Int32) (Int32))
  | 0, _, _, _, _, _ => none
  | n + 1, M, x1, x2, x3, x4 =>
    if x1 ≤ x4 then
      some (.inl (x2, x3, x4))
    else
      if ((ab_ushr x3 x4) &&& 1) = 0 then
        (mi_X3_partAround M x4).bind fun q3 =>
        if ((ab_ushr q3 x1) &&& 1) = 0 then
          mi_X3_partOf_7 n M x1 (x2 + 1) (x3 ||| q3) (x4 + 1)
        else
          some (.inr x2)
      else
        mi_X3_partOf_7 n M x1 x2 x3 (x4 + 1)

set_option maxHeartbeats 4000000 in
set_option maxRecDepth 100000 in
theorem lp_X3_partOf_7 {l : Launch} {D : va_G} {ac : Nat → ClassId} {n0 : Nat} {r : ab_Rs} : ∀ (n : Nat) (M : ab_M) (x1 : Int32) (x2 : Int32) (x3 : Int32) (x4 : Int32) (q : Sum (Int32 × Int32 × Int32) (Int32)) (h : mi_X3_partOf_7 n M x1 x2 x3 x4 = some q) (kk : ∀ y, q = .inl y → ab_Ev l D ac 4 me_X3_partOf n0 0 0 r 0 0 ab_SH 55 [some (.ref 1), some (.int x1), some (.int y.1), some (.int y.2.1), some (.int y.2.2), none] [] M) (kr : ∀ v, q = .inr v → r = (some (.int v), ab_SH, M)), ab_Ev l D ac 4 me_X3_partOf n0 0 0 r 0 0 ab_SH 7 [some (.ref 1), some (.int x1), some (.int x2), some (.int x3), some (.int x4), none] [] M := by
  intro n
  induction n with
  | zero =>
    intro M x1 x2 x3 x4 q h kk kr
    cases h
  | succ n ih =>
    intro M x1 x2 x3 x4 q h kk kr
    unfold mi_X3_partOf_7 at h
    refine ev_iload dX3_partOf_7 rfl ?_
    refine ev_iload_n dX3_partOf_9 rfl ?_
    refine ev_icmp_ge (t := 55) dX3_partOf_10 (by decide) (fun hc1 => ?_) (fun hc1 => ?_)
    · replace h := ab_pos hc1 h
      cases h
      exact kk _ rfl
    · replace h := ab_neg hc1 h
      refine ev_iload_n dX3_partOf_13 rfl ?_
      refine ev_iload dX3_partOf_14 rfl ?_
      refine ev_iushr dX3_partOf_16 ?_
      refine ev_iconst (x := 1) dX3_partOf_17 (by decide) ?_
      refine ev_iand dX3_partOf_18 ?_
      refine ev_if_ne (t := 49) dX3_partOf_19 (by decide) (fun hc2 => ?_) (fun hc2 => ?_)
      · replace h := ab_neg hc2 h
        refine ev_iinc (y := x4 + 1) dX3_partOf_49 rfl (by first | rfl | decide) rfl rfl ?_
        refine ev_goto (t := 7) dX3_partOf_52 (by decide) ?_
        exact ih M x1 x2 x3 (x4 + 1) _ h kk kr
      · replace h := ab_pos hc2 h
        refine ev_aload_n dX3_partOf_22 rfl ?_
        refine ev_iload dX3_partOf_23 rfl ?_
        obtain ⟨q3, hv4, h⟩ := ab_bind h
        refine ev_callV (st := []) (co_X3_partAround M x4 _ hv4) mv_X3_partAround sh_1 ml_RX3_118 dX3_partOf_25 (by decide) rfl (Nat.le_of_ble_eq_true rfl) ⟨Nat.le_refl _, Nat.le_refl _⟩ ?_
        refine ev_istore dX3_partOf_28 (Nat.le_of_ble_eq_true rfl) rfl rfl ?_
        refine ev_iload dX3_partOf_30 rfl ?_
        refine ev_iload_n dX3_partOf_32 rfl ?_
        refine ev_iushr dX3_partOf_33 ?_
        refine ev_iconst (x := 1) dX3_partOf_34 (by decide) ?_
        refine ev_iand dX3_partOf_35 ?_
        refine ev_if_eq (t := 41) dX3_partOf_36 (by decide) (fun hc5 => ?_) (fun hc5 => ?_)
        · replace h := ab_pos hc5 h
          refine ev_iload_n dX3_partOf_41 rfl ?_
          refine ev_iload dX3_partOf_42 rfl ?_
          refine ev_ior dX3_partOf_44 ?_
          refine ev_istore_n dX3_partOf_45 (Nat.le_of_ble_eq_true rfl) rfl rfl ?_
          refine ev_iinc (y := x2 + 1) dX3_partOf_46 rfl (by first | rfl | decide) rfl rfl ?_
          refine ev_iinc (y := x4 + 1) dX3_partOf_49 rfl (by first | rfl | decide) rfl rfl ?_
          refine ev_goto (t := 7) dX3_partOf_52 (by decide) ?_
          refine ev_drop (lv' := [some (.ref 1), some (.int x1), some (.int (x2 + 1)), some (.int (x3 ||| q3)), some (.int (x4 + 1)), none]) (ab_sub_k (ab_sub_k (ab_sub_k (ab_sub_k (ab_sub_k (ab_sub_d ab_sub_nil)))))) ?_
          exact ih M x1 (x2 + 1) (x3 ||| q3) (x4 + 1) _ h kk kr
        · replace h := ab_neg hc5 h
          refine ev_iload_n dX3_partOf_39 rfl ?_
          cases h
          rw [kr _ rfl]
          exact ev_ireturn rfl dX3_partOf_40

noncomputable def mi_X3_partOf (M : ab_M) (x1 : Int32) : Option (Int32) :=
  (mi_X3_partOf_7 ab_F M x1 0 0 0).bind fun q9 => Sum.elim (fun q6 =>
  some q6.1) (fun v8 => some v8) q9

set_option maxHeartbeats 4000000 in
set_option maxRecDepth 100000 in
theorem co_X3_partOf {l : Launch} {D : va_G} {ac : Nat → ClassId} (M : ab_M) (x1 : Int32) (z : Int32) (h : mi_X3_partOf M x1 = some z) : ab_Con l D ac 4 me_X3_partOf 0 0 [.ref 1, .int x1] ab_SH M (some (.int z), ab_SH, M) := by
  refine ab_intro (lv := [some (.ref 1), some (.int x1), none, none, none, none]) (by decide) rfl (Nat.le_of_ble_eq_true rfl) rfl ?_
  unfold mi_X3_partOf at h
  refine ev_iconst (x := 0) dX3_partOf_0 (by decide) ?_
  refine ev_istore_n dX3_partOf_1 (Nat.le_of_ble_eq_true rfl) rfl rfl ?_
  refine ev_iconst (x := 0) dX3_partOf_2 (by decide) ?_
  refine ev_istore_n dX3_partOf_3 (Nat.le_of_ble_eq_true rfl) rfl rfl ?_
  refine ev_iconst (x := 0) dX3_partOf_4 (by decide) ?_
  refine ev_istore dX3_partOf_5 (Nat.le_of_ble_eq_true rfl) rfl rfl ?_
  obtain ⟨q9, hq7, h⟩ := ab_bind h
  rcases ab_elim h with ⟨q6, rfl, h⟩ | ⟨v8, rfl, h⟩
  · refine lp_X3_partOf_7 _ M x1 0 0 0 _ hq7 (fun z e10 => ?_) (fun z e10 => by cases e10)
    cases e10
    refine ev_iload_n dX3_partOf_55 rfl ?_
    cases h
    exact ev_ireturn rfl dX3_partOf_56
  · refine lp_X3_partOf_7 _ M x1 0 0 0 _ hq7 (fun z e10 => by cases e10) (fun z e10 => ?_)
    cases e10
    cases h
    rfl
end
section
noncomputable def mi_X9_within (M : ab_M) (x0 : Int32) (x1 : Int32) (x2 : Int32) : Option (Int32) :=
  if x0 < x1 then
    some 0
  else
    if x2 < x0 then
      some 0
    else
      some 1

set_option maxHeartbeats 4000000 in
set_option maxRecDepth 100000 in
theorem co_X9_within {l : Launch} {D : va_G} {ac : Nat → ClassId} (M : ab_M) (x0 : Int32) (x1 : Int32) (x2 : Int32) (z : Int32) (h : mi_X9_within M x0 x1 x2 = some z) : ab_Con l D ac 1 me_X9_within 0 0 [.int x0, .int x1, .int x2] ab_SH M (some (.int z), ab_SH, M) := by
  refine ab_intro (lv := [some (.int x0), some (.int x1), some (.int x2)]) (by decide) rfl (Nat.le_of_ble_eq_true rfl) rfl ?_
  unfold mi_X9_within at h
  refine ev_iload_n dX9_within_0 rfl ?_
  refine ev_iload_n dX9_within_1 rfl ?_
  refine ev_icmp_lt (t := 14) dX9_within_2 (by decide) (fun hc1 => ?_) (fun hc1 => ?_)
  · replace h := ab_pos hc1 h
    refine ev_iconst (x := 0) dX9_within_14 (by decide) ?_
    cases h
    exact ev_zreturn rfl (Or.inl rfl) dX9_within_15
  · replace h := ab_neg hc1 h
    refine ev_iload_n dX9_within_5 rfl ?_
    refine ev_iload_n dX9_within_6 rfl ?_
    refine ev_icmp_gt (t := 14) dX9_within_7 (by decide) (fun hc2 => ?_) (fun hc2 => ?_)
    · replace h := ab_pos hc2 h
      refine ev_iconst (x := 0) dX9_within_14 (by decide) ?_
      cases h
      exact ev_zreturn rfl (Or.inl rfl) dX9_within_15
    · replace h := ab_neg hc2 h
      refine ev_iconst (x := 1) dX9_within_10 (by decide) ?_
      refine ev_goto (t := 15) dX9_within_11 (by decide) ?_
      cases h
      exact ev_zreturn rfl (Or.inr rfl) dX9_within_15

noncomputable def mi_X9_isShelf (M : ab_M) (x0 : Int32) : Option (Int32) :=
  (mi_X9_within M x0 0 7).bind fun q1 =>
  ab_chk (q1 = 0 ∨ q1 = 1) <| some q1

set_option maxHeartbeats 4000000 in
set_option maxRecDepth 100000 in
theorem co_X9_isShelf {l : Launch} {D : va_G} {ac : Nat → ClassId} (M : ab_M) (x0 : Int32) (z : Int32) (h : mi_X9_isShelf M x0 = some z) : ab_Con l D ac 2 me_X9_isShelf 0 0 [.int x0] ab_SH M (some (.int z), ab_SH, M) := by
  refine ab_intro (lv := [some (.int x0)]) (by decide) rfl (Nat.le_of_ble_eq_true rfl) rfl ?_
  unfold mi_X9_isShelf at h
  refine ev_iload_n dX9_isShelf_0 rfl ?_
  refine ev_iconst (x := 0) dX9_isShelf_1 (by decide) ?_
  refine ev_bipush (x := 7) dX9_isShelf_2 (by decide) ?_
  obtain ⟨q1, hv2, h⟩ := ab_bind h
  refine ev_callS (st := []) (co_X9_within M x0 0 7 _ hv2) mv_X9_within ml_RX9_72 dX9_isShelf_4 (by decide) rfl (Nat.le_of_ble_eq_true rfl) ⟨Nat.le_refl _, Nat.le_refl _⟩ ?_
  obtain ⟨hz3, h⟩ := ab_chk_some h
  cases h
  exact ev_zreturn rfl hz3 dX9_isShelf_7

noncomputable def mi_X9_isPlace (M : ab_M) (x0 : Int32) : Option (Int32) :=
  if x0 < 0 then
    some 0
  else
    if 60 < (x0 / 64) then
      some 0
    else
      if 60 < (ab_rem x0 64) then
        some 0
      else
        some 1

set_option maxHeartbeats 4000000 in
set_option maxRecDepth 100000 in
theorem co_X9_isPlace {l : Launch} {D : va_G} {ac : Nat → ClassId} (M : ab_M) (x0 : Int32) (z : Int32) (h : mi_X9_isPlace M x0 = some z) : ab_Con l D ac 1 me_X9_isPlace 0 0 [.int x0] ab_SH M (some (.int z), ab_SH, M) := by
  refine ab_intro (lv := [some (.int x0)]) (by decide) rfl (Nat.le_of_ble_eq_true rfl) rfl ?_
  unfold mi_X9_isPlace at h
  refine ev_iload_n dX9_isPlace_0 rfl ?_
  refine ev_if_lt (t := 26) dX9_isPlace_1 (by decide) (fun hc1 => ?_) (fun hc1 => ?_)
  · replace h := ab_pos hc1 h
    refine ev_iconst (x := 0) dX9_isPlace_26 (by decide) ?_
    cases h
    exact ev_zreturn rfl (Or.inl rfl) dX9_isPlace_27
  · replace h := ab_neg hc1 h
    refine ev_iload_n dX9_isPlace_4 rfl ?_
    refine ev_bipush (x := 64) dX9_isPlace_5 (by decide) ?_
    refine ev_idiv dX9_isPlace_7 (by decide) ?_
    refine ev_bipush (x := 60) dX9_isPlace_8 (by decide) ?_
    refine ev_icmp_gt (t := 26) dX9_isPlace_10 (by decide) (fun hc2 => ?_) (fun hc2 => ?_)
    · replace h := ab_pos hc2 h
      refine ev_iconst (x := 0) dX9_isPlace_26 (by decide) ?_
      cases h
      exact ev_zreturn rfl (Or.inl rfl) dX9_isPlace_27
    · replace h := ab_neg hc2 h
      refine ev_iload_n dX9_isPlace_13 rfl ?_
      refine ev_bipush (x := 64) dX9_isPlace_14 (by decide) ?_
      refine ev_irem dX9_isPlace_16 (by decide) ?_
      refine ev_bipush (x := 60) dX9_isPlace_17 (by decide) ?_
      refine ev_icmp_gt (t := 26) dX9_isPlace_19 (by decide) (fun hc3 => ?_) (fun hc3 => ?_)
      · replace h := ab_pos hc3 h
        refine ev_iconst (x := 0) dX9_isPlace_26 (by decide) ?_
        cases h
        exact ev_zreturn rfl (Or.inl rfl) dX9_isPlace_27
      · replace h := ab_neg hc3 h
        refine ev_iconst (x := 1) dX9_isPlace_22 (by decide) ?_
        refine ev_goto (t := 27) dX9_isPlace_23 (by decide) ?_
        cases h
        exact ev_zreturn rfl (Or.inr rfl) dX9_isPlace_27
end
section
noncomputable def mi_X2_served_4 : Nat → ab_M → Nat → Int32 → Int32 → Option (Int32 × Int32)
  | 0, _, _, _, _ => none
  | n + 1, M, t1, x2, x3 =>
    if (M.1 1 8) ≤ x3 then
      some (x2, x3)
    else
      ab_chk (vp_in x3 16) <|
      ((if (M.1 t1 (x3).toNatClampNeg) < 0 then
        some 0
      else
        some 1) : Option (Int32)).bind fun q3 =>
      mi_X2_served_4 n M t1 (x2 + q3) (x3 + 1)

set_option maxHeartbeats 4000000 in
set_option maxRecDepth 100000 in
theorem lp_X2_served_4 {l : Launch} {D : va_G} {ac : Nat → ClassId} {n0 : Nat} {r : ab_Rs} : ∀ (n : Nat) (M : ab_M) (t1 : Nat) (ht1 : ab_isPlan t1) (x2 : Int32) (x3 : Int32) (q : Int32 × Int32) (h : mi_X2_served_4 n M t1 x2 x3 = some q) (kk : ab_Ev l D ac 1 me_X2_served n0 0 0 r 0 0 ab_SH 35 [some (.ref 24), some (.ref t1), some (.int q.1), some (.int q.2)] [] M), ab_Ev l D ac 1 me_X2_served n0 0 0 r 0 0 ab_SH 4 [some (.ref 24), some (.ref t1), some (.int x2), some (.int x3)] [] M := by
  intro n
  induction n with
  | zero =>
    intro M t1 ht1 x2 x3 q h kk
    cases h
  | succ n ih =>
    intro M t1 ht1 x2 x3 q h kk
    unfold mi_X2_served_4 at h
    refine ev_iload_n dX2_served_4 rfl ?_
    refine ev_aload_n dX2_served_5 rfl ?_
    refine ev_getr (o' := 1) fl_RX2_15 sh_24 (by decide) (by decide) rfl rfl dX2_served_6 ?_
    refine ev_geti fl_RX2_19 sh_1 (by decide) (by decide) rfl dX2_served_9 ?_
    refine ev_icmp_ge (t := 35) dX2_served_12 (by decide) (fun hc1 => ?_) (fun hc1 => ?_)
    · replace h := ab_pos hc1 h
      cases h
      exact kk
    · replace h := ab_neg hc1 h
      refine ev_iload_n dX2_served_15 rfl ?_
      refine ev_aload_n dX2_served_16 rfl ?_
      refine ev_iload_n dX2_served_17 rfl ?_
      obtain ⟨hb2, h⟩ := ab_chk_some h
      refine ev_iaload ht1 hb2 dX2_served_18 ?_
      obtain ⟨q3, hq4, h⟩ := ab_bind h
      have hJ5 : ab_Ev l D ac 1 me_X2_served n0 0 0 r 0 0 ab_SH 27 [some (.ref 24), some (.ref t1), some (.int x2), some (.int x3)] [.int q3, .int x2] M := by
        refine ev_iadd dX2_served_27 ?_
        refine ev_istore_n dX2_served_28 (Nat.le_of_ble_eq_true rfl) rfl rfl ?_
        refine ev_iinc (y := x3 + 1) dX2_served_29 rfl (by first | rfl | decide) rfl rfl ?_
        refine ev_goto (t := 4) dX2_served_32 (by decide) ?_
        exact ih M t1 ht1 (x2 + q3) (x3 + 1) _ h kk
      refine ev_if_lt (t := 26) dX2_served_19 (by decide) (fun hc6 => ?_) (fun hc6 => ?_)
      · replace hq4 := ab_pos hc6 hq4
        refine ev_iconst (x := 0) dX2_served_26 (by decide) ?_
        cases hq4
        exact hJ5
      · replace hq4 := ab_neg hc6 hq4
        refine ev_iconst (x := 1) dX2_served_22 (by decide) ?_
        refine ev_goto (t := 27) dX2_served_23 (by decide) ?_
        cases hq4
        exact hJ5

noncomputable def mi_X2_served (M : ab_M) (t1 : Nat) : Option (Int32) :=
  (mi_X2_served_4 ab_F M t1 0 0).bind fun q7 =>
  some q7.1

set_option maxHeartbeats 4000000 in
set_option maxRecDepth 100000 in
theorem co_X2_served {l : Launch} {D : va_G} {ac : Nat → ClassId} (M : ab_M) (t1 : Nat) (ht1 : ab_isPlan t1) (z : Int32) (h : mi_X2_served M t1 = some z) : ab_Con l D ac 1 me_X2_served 0 0 [.ref 24, .ref t1] ab_SH M (some (.int z), ab_SH, M) := by
  refine ab_intro (lv := [some (.ref 24), some (.ref t1), none, none]) (by decide) rfl (Nat.le_of_ble_eq_true rfl) rfl ?_
  unfold mi_X2_served at h
  refine ev_iconst (x := 0) dX2_served_0 (by decide) ?_
  refine ev_istore_n dX2_served_1 (Nat.le_of_ble_eq_true rfl) rfl rfl ?_
  refine ev_iconst (x := 0) dX2_served_2 (by decide) ?_
  refine ev_istore_n dX2_served_3 (Nat.le_of_ble_eq_true rfl) rfl rfl ?_
  obtain ⟨q7, hq8, h⟩ := ab_bind h
  refine lp_X2_served_4 _ M t1 ht1 0 0 _ hq8 ?_
  refine ev_iload_n dX2_served_35 rfl ?_
  cases h
  exact ev_ireturn rfl dX2_served_36

noncomputable def mi_X2_lackAt_57 : Nat → ab_M → Int32 → Int32 → Int32 → Int32 → Int32 → Int32 → Int32 → Int32 → Option (Int32 × Int32)
  | 0, _, _, _, _, _, _, _, _, _ => none
  | n + 1, M, x2, x4, x5, x6, x7, x8, x9, x10 =>
    if (x4 + x8) < x10 then
      some (x6, x10)
    else
      mi_X2_lackAt_57 n M x2 x4 x5 (ab_max x6 (x5 - (ab_abs (x9 - x10)))) x7 x8 x9 (x10 + (ab_max 1 x8))

set_option maxHeartbeats 4000000 in
set_option maxRecDepth 100000 in
theorem lp_X2_lackAt_57 {l : Launch} {D : va_G} {ac : Nat → ClassId} {n0 : Nat} {r : ab_Rs} : ∀ (n : Nat) (M : ab_M) (x2 : Int32) (x4 : Int32) (x5 : Int32) (x6 : Int32) (x7 : Int32) (x8 : Int32) (x9 : Int32) (x10 : Int32) (q : Int32 × Int32) (h : mi_X2_lackAt_57 n M x2 x4 x5 x6 x7 x8 x9 x10 = some q) (kk : ab_Ev l D ac 3 me_X2_lackAt n0 0 0 r 0 0 ab_SH 99 [some (.ref 24), none, some (.int x2), none, some (.int x4), some (.int x5), some (.int q.1), some (.int x7), some (.int x8), some (.int x9), some (.int q.2)] [] M), ab_Ev l D ac 3 me_X2_lackAt n0 0 0 r 0 0 ab_SH 57 [some (.ref 24), none, some (.int x2), none, some (.int x4), some (.int x5), some (.int x6), some (.int x7), some (.int x8), some (.int x9), some (.int x10)] [] M := by
  intro n
  induction n with
  | zero =>
    intro M x2 x4 x5 x6 x7 x8 x9 x10 q h kk
    cases h
  | succ n ih =>
    intro M x2 x4 x5 x6 x7 x8 x9 x10 q h kk
    unfold mi_X2_lackAt_57 at h
    refine ev_iload dX2_lackAt_57 rfl ?_
    refine ev_iload dX2_lackAt_59 rfl ?_
    refine ev_iload dX2_lackAt_61 rfl ?_
    refine ev_iadd dX2_lackAt_63 ?_
    refine ev_icmp_gt (t := 99) dX2_lackAt_64 (by decide) (fun hc9 => ?_) (fun hc9 => ?_)
    · replace h := ab_pos hc9 h
      cases h
      exact kk
    · replace h := ab_neg hc9 h
      refine ev_iload dX2_lackAt_67 rfl ?_
      refine ev_iload dX2_lackAt_69 rfl ?_
      refine ev_iload dX2_lackAt_71 rfl ?_
      refine ev_iload dX2_lackAt_73 rfl ?_
      refine ev_isub dX2_lackAt_75 ?_
      refine ev_abs ml_RX2_52 dX2_lackAt_76 (by decide) (Nat.le_of_ble_eq_true rfl) ⟨Nat.le_refl _, Nat.le_refl _⟩ ?_
      refine ev_isub dX2_lackAt_79 ?_
      refine ev_max ml_RX2_57 dX2_lackAt_80 (by decide) (Nat.le_of_ble_eq_true rfl) ⟨Nat.le_refl _, Nat.le_refl _⟩ ?_
      refine ev_istore dX2_lackAt_83 (Nat.le_of_ble_eq_true rfl) rfl rfl ?_
      refine ev_iload dX2_lackAt_85 rfl ?_
      refine ev_iconst (x := 1) dX2_lackAt_87 (by decide) ?_
      refine ev_iload dX2_lackAt_88 rfl ?_
      refine ev_max ml_RX2_57 dX2_lackAt_90 (by decide) (Nat.le_of_ble_eq_true rfl) ⟨Nat.le_refl _, Nat.le_refl _⟩ ?_
      refine ev_iadd dX2_lackAt_93 ?_
      refine ev_istore dX2_lackAt_94 (Nat.le_of_ble_eq_true rfl) rfl rfl ?_
      refine ev_goto (t := 57) dX2_lackAt_96 (by decide) ?_
      exact ih M x2 x4 x5 (ab_max x6 (x5 - (ab_abs (x9 - x10)))) x7 x8 x9 (x10 + (ab_max 1 x8)) _ h kk

noncomputable def mi_X2_lackAt_44 : Nat → ab_M → Int32 → Int32 → Int32 → Int32 → Int32 → Int32 → Int32 → Option (Int32 × Int32)
  | 0, _, _, _, _, _, _, _, _ => none
  | n + 1, M, x2, x4, x5, x6, x7, x8, x9 =>
    if (x2 + x7) < x9 then
      some (x6, x9)
    else
      (mi_X2_lackAt_57 ab_F M x2 x4 x5 x6 x7 x8 x9 x4).bind fun q10 =>
      mi_X2_lackAt_44 n M x2 x4 x5 q10.1 x7 x8 (x9 + (ab_max 1 x7))

set_option maxHeartbeats 4000000 in
set_option maxRecDepth 100000 in
theorem lp_X2_lackAt_44 {l : Launch} {D : va_G} {ac : Nat → ClassId} {n0 : Nat} {r : ab_Rs} : ∀ (n : Nat) (M : ab_M) (x2 : Int32) (x4 : Int32) (x5 : Int32) (x6 : Int32) (x7 : Int32) (x8 : Int32) (x9 : Int32) (q : Int32 × Int32) (h : mi_X2_lackAt_44 n M x2 x4 x5 x6 x7 x8 x9 = some q) (kk : ab_Ev l D ac 3 me_X2_lackAt n0 0 0 r 0 0 ab_SH 113 [some (.ref 24), none, some (.int x2), none, some (.int x4), some (.int x5), some (.int q.1), some (.int x7), some (.int x8), some (.int q.2), none] [] M), ab_Ev l D ac 3 me_X2_lackAt n0 0 0 r 0 0 ab_SH 44 [some (.ref 24), none, some (.int x2), none, some (.int x4), some (.int x5), some (.int x6), some (.int x7), some (.int x8), some (.int x9), none] [] M := by
  intro n
  induction n with
  | zero =>
    intro M x2 x4 x5 x6 x7 x8 x9 q h kk
    cases h
  | succ n ih =>
    intro M x2 x4 x5 x6 x7 x8 x9 q h kk
    unfold mi_X2_lackAt_44 at h
    refine ev_iload dX2_lackAt_44 rfl ?_
    refine ev_iload_n dX2_lackAt_46 rfl ?_
    refine ev_iload dX2_lackAt_47 rfl ?_
    refine ev_iadd dX2_lackAt_49 ?_
    refine ev_icmp_gt (t := 113) dX2_lackAt_50 (by decide) (fun hc8 => ?_) (fun hc8 => ?_)
    · replace h := ab_pos hc8 h
      cases h
      exact kk
    · replace h := ab_neg hc8 h
      refine ev_iload dX2_lackAt_53 rfl ?_
      refine ev_istore dX2_lackAt_55 (Nat.le_of_ble_eq_true rfl) rfl rfl ?_
      obtain ⟨q10, hq11, h⟩ := ab_bind h
      refine lp_X2_lackAt_57 _ M x2 x4 x5 x6 x7 x8 x9 x4 _ hq11 ?_
      refine ev_iload dX2_lackAt_99 rfl ?_
      refine ev_iconst (x := 1) dX2_lackAt_101 (by decide) ?_
      refine ev_iload dX2_lackAt_102 rfl ?_
      refine ev_max ml_RX2_57 dX2_lackAt_104 (by decide) (Nat.le_of_ble_eq_true rfl) ⟨Nat.le_refl _, Nat.le_refl _⟩ ?_
      refine ev_iadd dX2_lackAt_107 ?_
      refine ev_istore dX2_lackAt_108 (Nat.le_of_ble_eq_true rfl) rfl rfl ?_
      refine ev_goto (t := 44) dX2_lackAt_110 (by decide) ?_
      refine ev_drop (lv' := [some (.ref 24), none, some (.int x2), none, some (.int x4), some (.int x5), some (.int q10.1), some (.int x7), some (.int x8), some (.int (x9 + (ab_max 1 x7))), none]) (ab_sub_k (ab_sub_k (ab_sub_k (ab_sub_k (ab_sub_k (ab_sub_k (ab_sub_k (ab_sub_k (ab_sub_k (ab_sub_k (ab_sub_d ab_sub_nil))))))))))) ?_
      exact ih M x2 x4 x5 q10.1 x7 x8 (x9 + (ab_max 1 x7)) _ h kk

noncomputable def mi_X2_lackAt (M : ab_M) (x1 : Int32) (x2 : Int32) (x3 : Int32) (x4 : Int32) : Option (Int32) :=
  (mi_X3_barOfWants M x1 x3).bind fun q1 =>
  if q1 = 0 then
    some 0
  else
    (mi_X3_gapOf M x1).bind fun q4 =>
    (mi_X3_gapOf M x3).bind fun q6 =>
    (mi_X2_lackAt_44 ab_F M x2 x4 q1 0 q4 q6 x2).bind fun q12 =>
    some q12.1

set_option maxHeartbeats 4000000 in
set_option maxRecDepth 100000 in
theorem co_X2_lackAt {l : Launch} {D : va_G} {ac : Nat → ClassId} (M : ab_M) (x1 : Int32) (x2 : Int32) (x3 : Int32) (x4 : Int32) (z : Int32) (h : mi_X2_lackAt M x1 x2 x3 x4 = some z) : ab_Con l D ac 3 me_X2_lackAt 0 0 [.ref 24, .int x1, .int x2, .int x3, .int x4] ab_SH M (some (.int z), ab_SH, M) := by
  refine ab_intro (lv := [some (.ref 24), some (.int x1), some (.int x2), some (.int x3), some (.int x4), none, none, none, none, none, none]) (by decide) rfl (Nat.le_of_ble_eq_true rfl) rfl ?_
  unfold mi_X2_lackAt at h
  refine ev_aload_n dX2_lackAt_0 rfl ?_
  refine ev_getr (o' := 1) fl_RX2_15 sh_24 (by decide) (by decide) rfl rfl dX2_lackAt_1 ?_
  refine ev_iload_n dX2_lackAt_4 rfl ?_
  refine ev_iload_n dX2_lackAt_5 rfl ?_
  obtain ⟨q1, hv2, h⟩ := ab_bind h
  refine ev_callV (st := []) (co_X3_barOfWants M x1 x3 _ hv2) mv_X3_barOfWants sh_1 ml_RX2_45 dX2_lackAt_6 (by decide) rfl (Nat.le_of_ble_eq_true rfl) ⟨Nat.le_refl _, Nat.le_refl _⟩ ?_
  refine ev_istore dX2_lackAt_9 (Nat.le_of_ble_eq_true rfl) rfl rfl ?_
  refine ev_iload dX2_lackAt_11 rfl ?_
  refine ev_if_ne (t := 18) dX2_lackAt_13 (by decide) (fun hc3 => ?_) (fun hc3 => ?_)
  · replace h := ab_neg hc3 h
    refine ev_iconst (x := 0) dX2_lackAt_18 (by decide) ?_
    refine ev_istore dX2_lackAt_19 (Nat.le_of_ble_eq_true rfl) rfl rfl ?_
    refine ev_aload_n dX2_lackAt_21 rfl ?_
    refine ev_getr (o' := 1) fl_RX2_15 sh_24 (by decide) (by decide) rfl rfl dX2_lackAt_22 ?_
    refine ev_iload_n dX2_lackAt_25 rfl ?_
    obtain ⟨q4, hv5, h⟩ := ab_bind h
    refine ev_callV (st := []) (co_X3_gapOf M x1 _ hv5) mv_X3_gapOf sh_1 ml_RX2_49 dX2_lackAt_26 (by decide) rfl (Nat.le_of_ble_eq_true rfl) ⟨Nat.le_refl _, Nat.le_refl _⟩ ?_
    refine ev_istore dX2_lackAt_29 (Nat.le_of_ble_eq_true rfl) rfl rfl ?_
    refine ev_aload_n dX2_lackAt_31 rfl ?_
    refine ev_getr (o' := 1) fl_RX2_15 sh_24 (by decide) (by decide) rfl rfl dX2_lackAt_32 ?_
    refine ev_iload_n dX2_lackAt_35 rfl ?_
    obtain ⟨q6, hv7, h⟩ := ab_bind h
    refine ev_callV (st := []) (co_X3_gapOf M x3 _ hv7) mv_X3_gapOf sh_1 ml_RX2_49 dX2_lackAt_36 (by decide) rfl (Nat.le_of_ble_eq_true rfl) ⟨Nat.le_refl _, Nat.le_refl _⟩ ?_
    refine ev_istore dX2_lackAt_39 (Nat.le_of_ble_eq_true rfl) rfl rfl ?_
    refine ev_iload_n dX2_lackAt_41 rfl ?_
    refine ev_istore dX2_lackAt_42 (Nat.le_of_ble_eq_true rfl) rfl rfl ?_
    obtain ⟨q12, hq13, h⟩ := ab_bind h
    refine ev_drop (lv' := [some (.ref 24), none, some (.int x2), none, some (.int x4), some (.int q1), some (.int 0), some (.int q4), some (.int q6), some (.int x2), none]) (ab_sub_k (ab_sub_d (ab_sub_k (ab_sub_d (ab_sub_k (ab_sub_k (ab_sub_k (ab_sub_k (ab_sub_k (ab_sub_k (ab_sub_k ab_sub_nil))))))))))) ?_
    refine lp_X2_lackAt_44 _ M x2 x4 q1 0 q4 q6 x2 _ hq13 ?_
    refine ev_iload dX2_lackAt_113 rfl ?_
    cases h
    exact ev_ireturn rfl dX2_lackAt_115
  · replace h := ab_pos hc3 h
    refine ev_iconst (x := 0) dX2_lackAt_16 (by decide) ?_
    cases h
    exact ev_ireturn rfl dX2_lackAt_17

noncomputable def mi_X2_lackOf (M : ab_M) (t1 : Nat) (x2 : Int32) (x3 : Int32) : Option (Int32) :=
  ab_chk (vp_in x2 16) <|
  if (M.1 t1 (x2).toNatClampNeg) < 0 then
    some 0
  else
    ab_chk (vp_in x3 16) <|
    if 0 ≤ (M.1 t1 (x3).toNatClampNeg) then
      ab_chk (vp_in x2 16) <|
      ab_chk (vp_in x3 16) <|
      (mi_X2_lackAt M x2 (M.1 t1 (x2).toNatClampNeg) x3 (M.1 t1 (x3).toNatClampNeg)).bind fun q7 =>
      some q7
    else
      some 0

set_option maxHeartbeats 4000000 in
set_option maxRecDepth 100000 in
theorem co_X2_lackOf {l : Launch} {D : va_G} {ac : Nat → ClassId} (M : ab_M) (t1 : Nat) (ht1 : ab_isPlan t1) (x2 : Int32) (x3 : Int32) (z : Int32) (h : mi_X2_lackOf M t1 x2 x3 = some z) : ab_Con l D ac 4 me_X2_lackOf 0 0 [.ref 24, .ref t1, .int x2, .int x3] ab_SH M (some (.int z), ab_SH, M) := by
  refine ab_intro (lv := [some (.ref 24), some (.ref t1), some (.int x2), some (.int x3)]) (by decide) rfl (Nat.le_of_ble_eq_true rfl) rfl ?_
  unfold mi_X2_lackOf at h
  refine ev_aload_n dX2_lackOf_0 rfl ?_
  refine ev_iload_n dX2_lackOf_1 rfl ?_
  obtain ⟨hb1, h⟩ := ab_chk_some h
  refine ev_iaload ht1 hb1 dX2_lackOf_2 ?_
  refine ev_if_lt (t := 12) dX2_lackOf_3 (by decide) (fun hc2 => ?_) (fun hc2 => ?_)
  · replace h := ab_pos hc2 h
    refine ev_iconst (x := 0) dX2_lackOf_12 (by decide) ?_
    refine ev_goto (t := 28) dX2_lackOf_13 (by decide) ?_
    cases h
    exact ev_ireturn rfl dX2_lackOf_28
  · replace h := ab_neg hc2 h
    refine ev_aload_n dX2_lackOf_6 rfl ?_
    refine ev_iload_n dX2_lackOf_7 rfl ?_
    obtain ⟨hb3, h⟩ := ab_chk_some h
    refine ev_iaload ht1 hb3 dX2_lackOf_8 ?_
    refine ev_if_ge (t := 16) dX2_lackOf_9 (by decide) (fun hc4 => ?_) (fun hc4 => ?_)
    · replace h := ab_pos hc4 h
      refine ev_aload_n dX2_lackOf_16 rfl ?_
      refine ev_iload_n dX2_lackOf_17 rfl ?_
      refine ev_aload_n dX2_lackOf_18 rfl ?_
      refine ev_iload_n dX2_lackOf_19 rfl ?_
      obtain ⟨hb5, h⟩ := ab_chk_some h
      refine ev_iaload ht1 hb5 dX2_lackOf_20 ?_
      refine ev_iload_n dX2_lackOf_21 rfl ?_
      refine ev_aload_n dX2_lackOf_22 rfl ?_
      refine ev_iload_n dX2_lackOf_23 rfl ?_
      obtain ⟨hb6, h⟩ := ab_chk_some h
      refine ev_iaload ht1 hb6 dX2_lackOf_24 ?_
      obtain ⟨q7, hv8, h⟩ := ab_bind h
      refine ev_callV (st := []) (co_X2_lackAt M x2 (M.1 t1 (x2).toNatClampNeg) x3 (M.1 t1 (x3).toNatClampNeg) _ hv8) mv_X2_lackAt sh_24 ml_RX2_41 dX2_lackOf_25 (by decide) rfl (Nat.le_of_ble_eq_true rfl) ⟨Nat.le_refl _, Nat.le_refl _⟩ ?_
      cases h
      exact ev_ireturn rfl dX2_lackOf_28
    · replace h := ab_neg hc4 h
      refine ev_iconst (x := 0) dX2_lackOf_12 (by decide) ?_
      refine ev_goto (t := 28) dX2_lackOf_13 (by decide) ?_
      cases h
      exact ev_ireturn rfl dX2_lackOf_28

noncomputable def mi_X2_lacks_20 : Nat → ab_M → Nat → Int32 → Int32 → Int32 → Option (Int32 × Int32)
  | 0, _, _, _, _, _ => none
  | n + 1, M, t1, x2, x3, x4 =>
    if (M.1 1 8) ≤ x4 then
      some (x2, x4)
    else
      (mi_X2_lackOf M t1 x3 x4).bind fun q3 =>
      mi_X2_lacks_20 n M t1 (x2 + q3) x3 (x4 + 1)

set_option maxHeartbeats 4000000 in
set_option maxRecDepth 100000 in
theorem lp_X2_lacks_20 {l : Launch} {D : va_G} {ac : Nat → ClassId} {n0 : Nat} {r : ab_Rs} : ∀ (n : Nat) (M : ab_M) (t1 : Nat) (ht1 : ab_isPlan t1) (x2 : Int32) (x3 : Int32) (x4 : Int32) (q : Int32 × Int32) (h : mi_X2_lacks_20 n M t1 x2 x3 x4 = some q) (kk : ab_Ev l D ac 5 me_X2_lacks n0 0 0 r 0 0 ab_SH 49 [some (.ref 24), some (.ref t1), some (.int q.1), some (.int x3), some (.int q.2)] [] M), ab_Ev l D ac 5 me_X2_lacks n0 0 0 r 0 0 ab_SH 20 [some (.ref 24), some (.ref t1), some (.int x2), some (.int x3), some (.int x4)] [] M := by
  intro n
  induction n with
  | zero =>
    intro M t1 ht1 x2 x3 x4 q h kk
    cases h
  | succ n ih =>
    intro M t1 ht1 x2 x3 x4 q h kk
    unfold mi_X2_lacks_20 at h
    refine ev_iload dX2_lacks_20 rfl ?_
    refine ev_aload_n dX2_lacks_22 rfl ?_
    refine ev_getr (o' := 1) fl_RX2_15 sh_24 (by decide) (by decide) rfl rfl dX2_lacks_23 ?_
    refine ev_geti fl_RX2_19 sh_1 (by decide) (by decide) rfl dX2_lacks_26 ?_
    refine ev_icmp_ge (t := 49) dX2_lacks_29 (by decide) (fun hc2 => ?_) (fun hc2 => ?_)
    · replace h := ab_pos hc2 h
      cases h
      exact kk
    · replace h := ab_neg hc2 h
      refine ev_iload_n dX2_lacks_32 rfl ?_
      refine ev_aload_n dX2_lacks_33 rfl ?_
      refine ev_aload_n dX2_lacks_34 rfl ?_
      refine ev_iload_n dX2_lacks_35 rfl ?_
      refine ev_iload dX2_lacks_36 rfl ?_
      obtain ⟨q3, hv4, h⟩ := ab_bind h
      refine ev_callV (st := [.int x2]) (co_X2_lackOf M t1 ht1 x3 x4 _ hv4) mv_X2_lackOf sh_24 ml_RX2_60 dX2_lacks_38 (by decide) rfl (Nat.le_of_ble_eq_true rfl) ⟨Nat.le_refl _, Nat.le_refl _⟩ ?_
      refine ev_iadd dX2_lacks_41 ?_
      refine ev_istore_n dX2_lacks_42 (Nat.le_of_ble_eq_true rfl) rfl rfl ?_
      refine ev_iinc (y := x4 + 1) dX2_lacks_43 rfl (by first | rfl | decide) rfl rfl ?_
      refine ev_goto (t := 20) dX2_lacks_46 (by decide) ?_
      exact ih M t1 ht1 (x2 + q3) x3 (x4 + 1) _ h kk

noncomputable def mi_X2_lacks_4 : Nat → ab_M → Nat → Int32 → Int32 → Option (Int32 × Int32)
  | 0, _, _, _, _ => none
  | n + 1, M, t1, x2, x3 =>
    if (M.1 1 8) ≤ x3 then
      some (x2, x3)
    else
      (mi_X2_lacks_20 ab_F M t1 x2 x3 (x3 + 1)).bind fun q5 =>
      mi_X2_lacks_4 n M t1 q5.1 (x3 + 1)

set_option maxHeartbeats 4000000 in
set_option maxRecDepth 100000 in
theorem lp_X2_lacks_4 {l : Launch} {D : va_G} {ac : Nat → ClassId} {n0 : Nat} {r : ab_Rs} : ∀ (n : Nat) (M : ab_M) (t1 : Nat) (ht1 : ab_isPlan t1) (x2 : Int32) (x3 : Int32) (q : Int32 × Int32) (h : mi_X2_lacks_4 n M t1 x2 x3 = some q) (kk : ab_Ev l D ac 5 me_X2_lacks n0 0 0 r 0 0 ab_SH 55 [some (.ref 24), some (.ref t1), some (.int q.1), some (.int q.2), none] [] M), ab_Ev l D ac 5 me_X2_lacks n0 0 0 r 0 0 ab_SH 4 [some (.ref 24), some (.ref t1), some (.int x2), some (.int x3), none] [] M := by
  intro n
  induction n with
  | zero =>
    intro M t1 ht1 x2 x3 q h kk
    cases h
  | succ n ih =>
    intro M t1 ht1 x2 x3 q h kk
    unfold mi_X2_lacks_4 at h
    refine ev_iload_n dX2_lacks_4 rfl ?_
    refine ev_aload_n dX2_lacks_5 rfl ?_
    refine ev_getr (o' := 1) fl_RX2_15 sh_24 (by decide) (by decide) rfl rfl dX2_lacks_6 ?_
    refine ev_geti fl_RX2_19 sh_1 (by decide) (by decide) rfl dX2_lacks_9 ?_
    refine ev_icmp_ge (t := 55) dX2_lacks_12 (by decide) (fun hc1 => ?_) (fun hc1 => ?_)
    · replace h := ab_pos hc1 h
      cases h
      exact kk
    · replace h := ab_neg hc1 h
      refine ev_iload_n dX2_lacks_15 rfl ?_
      refine ev_iconst (x := 1) dX2_lacks_16 (by decide) ?_
      refine ev_iadd dX2_lacks_17 ?_
      refine ev_istore dX2_lacks_18 (Nat.le_of_ble_eq_true rfl) rfl rfl ?_
      obtain ⟨q5, hq6, h⟩ := ab_bind h
      refine lp_X2_lacks_20 _ M t1 ht1 x2 x3 (x3 + 1) _ hq6 ?_
      refine ev_iinc (y := x3 + 1) dX2_lacks_49 rfl (by first | rfl | decide) rfl rfl ?_
      refine ev_goto (t := 4) dX2_lacks_52 (by decide) ?_
      refine ev_drop (lv' := [some (.ref 24), some (.ref t1), some (.int q5.1), some (.int (x3 + 1)), none]) (ab_sub_k (ab_sub_k (ab_sub_k (ab_sub_k (ab_sub_d ab_sub_nil))))) ?_
      exact ih M t1 ht1 q5.1 (x3 + 1) _ h kk

noncomputable def mi_X2_lacks (M : ab_M) (t1 : Nat) : Option (Int32) :=
  (mi_X2_lacks_4 ab_F M t1 0 0).bind fun q7 =>
  some q7.1

set_option maxHeartbeats 4000000 in
set_option maxRecDepth 100000 in
theorem co_X2_lacks {l : Launch} {D : va_G} {ac : Nat → ClassId} (M : ab_M) (t1 : Nat) (ht1 : ab_isPlan t1) (z : Int32) (h : mi_X2_lacks M t1 = some z) : ab_Con l D ac 5 me_X2_lacks 0 0 [.ref 24, .ref t1] ab_SH M (some (.int z), ab_SH, M) := by
  refine ab_intro (lv := [some (.ref 24), some (.ref t1), none, none, none]) (by decide) rfl (Nat.le_of_ble_eq_true rfl) rfl ?_
  unfold mi_X2_lacks at h
  refine ev_iconst (x := 0) dX2_lacks_0 (by decide) ?_
  refine ev_istore_n dX2_lacks_1 (Nat.le_of_ble_eq_true rfl) rfl rfl ?_
  refine ev_iconst (x := 0) dX2_lacks_2 (by decide) ?_
  refine ev_istore_n dX2_lacks_3 (Nat.le_of_ble_eq_true rfl) rfl rfl ?_
  obtain ⟨q7, hq8, h⟩ := ab_bind h
  refine lp_X2_lacks_4 _ M t1 ht1 0 0 _ hq8 ?_
  refine ev_iload_n dX2_lacks_55 rfl ?_
  cases h
  exact ev_ireturn rfl dX2_lacks_56

noncomputable def mi_X2_sumTogether (M : ab_M) (t1 : Nat) (x2 : Int32) (x3 : Int32) (x4 : Int32) : Option (Int32) :=
  ab_chk (vp_in x2 16) <|
  if (M.1 t1 (x2).toNatClampNeg) < 0 then
    some 0
  else
    ab_chk (vp_in x3 16) <|
    if (M.1 t1 (x3).toNatClampNeg) < 0 then
      some 0
    else
      ab_chk (vp_in x4 16) <|
      if (M.1 t1 (x4).toNatClampNeg) < 0 then
        some 0
      else
        ab_chk (vp_in x2 16) <|
        ab_chk (vp_in x3 16) <|
        ab_chk (vp_in x4 16) <|
        (mi_X3_areIn M (M.1 3 (x2).toNatClampNeg) (M.1 3 (x3).toNatClampNeg) (M.1 3 (x4).toNatClampNeg)).bind fun q10 =>
        if q10 = 0 then
          some 0
        else
          some 1

set_option maxHeartbeats 4000000 in
set_option maxRecDepth 100000 in
theorem co_X2_sumTogether {l : Launch} {D : va_G} {ac : Nat → ClassId} (M : ab_M) (t1 : Nat) (ht1 : ab_isPlan t1) (x2 : Int32) (x3 : Int32) (x4 : Int32) (z : Int32) (h : mi_X2_sumTogether M t1 x2 x3 x4 = some z) : ab_Con l D ac 2 me_X2_sumTogether 0 0 [.ref 24, .ref t1, .int x2, .int x3, .int x4] ab_SH M (some (.int z), ab_SH, M) := by
  refine ab_intro (lv := [some (.ref 24), some (.ref t1), some (.int x2), some (.int x3), some (.int x4)]) (by decide) rfl (Nat.le_of_ble_eq_true rfl) rfl ?_
  unfold mi_X2_sumTogether at h
  refine ev_aload_n dX2_sumTogether_0 rfl ?_
  refine ev_iload_n dX2_sumTogether_1 rfl ?_
  obtain ⟨hb1, h⟩ := ab_chk_some h
  refine ev_iaload ht1 hb1 dX2_sumTogether_2 ?_
  refine ev_if_lt (t := 61) dX2_sumTogether_3 (by decide) (fun hc2 => ?_) (fun hc2 => ?_)
  · replace h := ab_pos hc2 h
    refine ev_iconst (x := 0) dX2_sumTogether_61 (by decide) ?_
    cases h
    exact ev_zreturn rfl (Or.inl rfl) dX2_sumTogether_62
  · replace h := ab_neg hc2 h
    refine ev_aload_n dX2_sumTogether_6 rfl ?_
    refine ev_iload_n dX2_sumTogether_7 rfl ?_
    obtain ⟨hb3, h⟩ := ab_chk_some h
    refine ev_iaload ht1 hb3 dX2_sumTogether_8 ?_
    refine ev_if_lt (t := 61) dX2_sumTogether_9 (by decide) (fun hc4 => ?_) (fun hc4 => ?_)
    · replace h := ab_pos hc4 h
      refine ev_iconst (x := 0) dX2_sumTogether_61 (by decide) ?_
      cases h
      exact ev_zreturn rfl (Or.inl rfl) dX2_sumTogether_62
    · replace h := ab_neg hc4 h
      refine ev_aload_n dX2_sumTogether_12 rfl ?_
      refine ev_iload dX2_sumTogether_13 rfl ?_
      obtain ⟨hb5, h⟩ := ab_chk_some h
      refine ev_iaload ht1 hb5 dX2_sumTogether_15 ?_
      refine ev_if_lt (t := 61) dX2_sumTogether_16 (by decide) (fun hc6 => ?_) (fun hc6 => ?_)
      · replace h := ab_pos hc6 h
        refine ev_iconst (x := 0) dX2_sumTogether_61 (by decide) ?_
        cases h
        exact ev_zreturn rfl (Or.inl rfl) dX2_sumTogether_62
      · replace h := ab_neg hc6 h
        refine ev_aload_n dX2_sumTogether_19 rfl ?_
        refine ev_getr (o' := 1) fl_RX2_15 sh_24 (by decide) (by decide) rfl rfl dX2_sumTogether_20 ?_
        refine ev_aload_n dX2_sumTogether_23 rfl ?_
        refine ev_getr (o' := 1) fl_RX2_15 sh_24 (by decide) (by decide) rfl rfl dX2_sumTogether_24 ?_
        refine ev_getr (o' := 3) fl_RX2_72 sh_1 (by decide) (by decide) rfl rfl dX2_sumTogether_27 ?_
        refine ev_iload_n dX2_sumTogether_30 rfl ?_
        obtain ⟨hb7, h⟩ := ab_chk_some h
        refine ev_iaload sh_3 hb7 dX2_sumTogether_31 ?_
        refine ev_aload_n dX2_sumTogether_32 rfl ?_
        refine ev_getr (o' := 1) fl_RX2_15 sh_24 (by decide) (by decide) rfl rfl dX2_sumTogether_33 ?_
        refine ev_getr (o' := 3) fl_RX2_72 sh_1 (by decide) (by decide) rfl rfl dX2_sumTogether_36 ?_
        refine ev_iload_n dX2_sumTogether_39 rfl ?_
        obtain ⟨hb8, h⟩ := ab_chk_some h
        refine ev_iaload sh_3 hb8 dX2_sumTogether_40 ?_
        refine ev_aload_n dX2_sumTogether_41 rfl ?_
        refine ev_getr (o' := 1) fl_RX2_15 sh_24 (by decide) (by decide) rfl rfl dX2_sumTogether_42 ?_
        refine ev_getr (o' := 3) fl_RX2_72 sh_1 (by decide) (by decide) rfl rfl dX2_sumTogether_45 ?_
        refine ev_iload dX2_sumTogether_48 rfl ?_
        obtain ⟨hb9, h⟩ := ab_chk_some h
        refine ev_iaload sh_3 hb9 dX2_sumTogether_50 ?_
        obtain ⟨q10, hv11, h⟩ := ab_bind h
        refine ev_callV (st := []) (co_X3_areIn M (M.1 3 (x2).toNatClampNeg) (M.1 3 (x3).toNatClampNeg) (M.1 3 (x4).toNatClampNeg) _ hv11) mv_X3_areIn sh_1 ml_RX2_75 dX2_sumTogether_51 (by decide) rfl (Nat.le_of_ble_eq_true rfl) ⟨Nat.le_refl _, Nat.le_refl _⟩ ?_
        refine ev_if_eq (t := 61) dX2_sumTogether_54 (by decide) (fun hc12 => ?_) (fun hc12 => ?_)
        · replace h := ab_pos hc12 h
          refine ev_iconst (x := 0) dX2_sumTogether_61 (by decide) ?_
          cases h
          exact ev_zreturn rfl (Or.inl rfl) dX2_sumTogether_62
        · replace h := ab_neg hc12 h
          refine ev_iconst (x := 1) dX2_sumTogether_57 (by decide) ?_
          refine ev_goto (t := 62) dX2_sumTogether_58 (by decide) ?_
          cases h
          exact ev_zreturn rfl (Or.inr rfl) dX2_sumTogether_62

noncomputable def mi_X2_sumsOfThree_72 : Nat → ab_M → Nat → Int32 → Int32 → Int32 → Int32 → Int32 → Int32 → Int32 → Int32 → Int32 → Int32 → Option (Int32 × Int32)
  | 0, _, _, _, _, _, _, _, _, _, _, _, _ => none
  | n + 1, M, t1, x2, x3, x4, x5, x6, x7, x8, x9, x10, x11 =>
    ab_chk (vp_in x4 16) <|
    if ((M.1 t1 (x4).toNatClampNeg) + x8) < x11 then
      some (x5, x11)
    else
      ((if (x10 + x11) = (2 * x9) then
        some 1
      else
        some 0) : Option (Int32)).bind fun q16 =>
      ((if (x9 + x11) = (2 * x10) then
        some 1
      else
        some 0) : Option (Int32)).bind fun q20 =>
      ((if (x9 + x10) = (2 * x11) then
        some 1
      else
        some 0) : Option (Int32)).bind fun q24 =>
      mi_X2_sumsOfThree_72 n M t1 x2 x3 x4 (((x5 + q16) + q20) + q24) x6 x7 x8 x9 x10 (x11 + (ab_max 1 x8))

set_option maxHeartbeats 4000000 in
set_option maxRecDepth 100000 in
theorem lp_X2_sumsOfThree_72 {l : Launch} {D : va_G} {ac : Nat → ClassId} {n0 : Nat} {r : ab_Rs} : ∀ (n : Nat) (M : ab_M) (t1 : Nat) (ht1 : ab_isPlan t1) (x2 : Int32) (x3 : Int32) (x4 : Int32) (x5 : Int32) (x6 : Int32) (x7 : Int32) (x8 : Int32) (x9 : Int32) (x10 : Int32) (x11 : Int32) (q : Int32 × Int32) (h : mi_X2_sumsOfThree_72 n M t1 x2 x3 x4 x5 x6 x7 x8 x9 x10 x11 = some q) (kk : ab_Ev l D ac 2 me_X2_sumsOfThree n0 0 0 r 0 0 ab_SH 164 [some (.ref 24), some (.ref t1), some (.int x2), some (.int x3), some (.int x4), some (.int q.1), some (.int x6), some (.int x7), some (.int x8), some (.int x9), some (.int x10), some (.int q.2)] [] M), ab_Ev l D ac 2 me_X2_sumsOfThree n0 0 0 r 0 0 ab_SH 72 [some (.ref 24), some (.ref t1), some (.int x2), some (.int x3), some (.int x4), some (.int x5), some (.int x6), some (.int x7), some (.int x8), some (.int x9), some (.int x10), some (.int x11)] [] M := by
  intro n
  induction n with
  | zero =>
    intro M t1 ht1 x2 x3 x4 x5 x6 x7 x8 x9 x10 x11 q h kk
    cases h
  | succ n ih =>
    intro M t1 ht1 x2 x3 x4 x5 x6 x7 x8 x9 x10 x11 q h kk
    unfold mi_X2_sumsOfThree_72 at h
    refine ev_iload dX2_sumsOfThree_72 rfl ?_
    refine ev_aload_n dX2_sumsOfThree_74 rfl ?_
    refine ev_iload dX2_sumsOfThree_75 rfl ?_
    obtain ⟨hb14, h⟩ := ab_chk_some h
    refine ev_iaload ht1 hb14 dX2_sumsOfThree_77 ?_
    refine ev_iload dX2_sumsOfThree_78 rfl ?_
    refine ev_iadd dX2_sumsOfThree_80 ?_
    refine ev_icmp_gt (t := 164) dX2_sumsOfThree_81 (by decide) (fun hc15 => ?_) (fun hc15 => ?_)
    · replace h := ab_pos hc15 h
      cases h
      exact kk
    · replace h := ab_neg hc15 h
      refine ev_iload dX2_sumsOfThree_84 rfl ?_
      refine ev_iload dX2_sumsOfThree_86 rfl ?_
      refine ev_iload dX2_sumsOfThree_88 rfl ?_
      refine ev_iadd dX2_sumsOfThree_90 ?_
      refine ev_iconst (x := 2) dX2_sumsOfThree_91 (by decide) ?_
      refine ev_iload dX2_sumsOfThree_92 rfl ?_
      refine ev_imul dX2_sumsOfThree_94 ?_
      obtain ⟨q16, hq17, h⟩ := ab_bind h
      have hJ18 : ab_Ev l D ac 2 me_X2_sumsOfThree n0 0 0 r 0 0 ab_SH 103 [some (.ref 24), some (.ref t1), some (.int x2), some (.int x3), some (.int x4), some (.int x5), some (.int x6), some (.int x7), some (.int x8), some (.int x9), some (.int x10), some (.int x11)] [.int q16, .int x5] M := by
        refine ev_iadd dX2_sumsOfThree_103 ?_
        refine ev_istore dX2_sumsOfThree_104 (Nat.le_of_ble_eq_true rfl) rfl rfl ?_
        refine ev_iload dX2_sumsOfThree_106 rfl ?_
        refine ev_iload dX2_sumsOfThree_108 rfl ?_
        refine ev_iload dX2_sumsOfThree_110 rfl ?_
        refine ev_iadd dX2_sumsOfThree_112 ?_
        refine ev_iconst (x := 2) dX2_sumsOfThree_113 (by decide) ?_
        refine ev_iload dX2_sumsOfThree_114 rfl ?_
        refine ev_imul dX2_sumsOfThree_116 ?_
        obtain ⟨q20, hq21, h⟩ := ab_bind h
        have hJ22 : ab_Ev l D ac 2 me_X2_sumsOfThree n0 0 0 r 0 0 ab_SH 125 [some (.ref 24), some (.ref t1), some (.int x2), some (.int x3), some (.int x4), some (.int (x5 + q16)), some (.int x6), some (.int x7), some (.int x8), some (.int x9), some (.int x10), some (.int x11)] [.int q20, .int (x5 + q16)] M := by
          refine ev_iadd dX2_sumsOfThree_125 ?_
          refine ev_istore dX2_sumsOfThree_126 (Nat.le_of_ble_eq_true rfl) rfl rfl ?_
          refine ev_iload dX2_sumsOfThree_128 rfl ?_
          refine ev_iload dX2_sumsOfThree_130 rfl ?_
          refine ev_iload dX2_sumsOfThree_132 rfl ?_
          refine ev_iadd dX2_sumsOfThree_134 ?_
          refine ev_iconst (x := 2) dX2_sumsOfThree_135 (by decide) ?_
          refine ev_iload dX2_sumsOfThree_136 rfl ?_
          refine ev_imul dX2_sumsOfThree_138 ?_
          obtain ⟨q24, hq25, h⟩ := ab_bind h
          have hJ26 : ab_Ev l D ac 2 me_X2_sumsOfThree n0 0 0 r 0 0 ab_SH 147 [some (.ref 24), some (.ref t1), some (.int x2), some (.int x3), some (.int x4), some (.int ((x5 + q16) + q20)), some (.int x6), some (.int x7), some (.int x8), some (.int x9), some (.int x10), some (.int x11)] [.int q24, .int ((x5 + q16) + q20)] M := by
            refine ev_iadd dX2_sumsOfThree_147 ?_
            refine ev_istore dX2_sumsOfThree_148 (Nat.le_of_ble_eq_true rfl) rfl rfl ?_
            refine ev_iload dX2_sumsOfThree_150 rfl ?_
            refine ev_iconst (x := 1) dX2_sumsOfThree_152 (by decide) ?_
            refine ev_iload dX2_sumsOfThree_153 rfl ?_
            refine ev_max ml_RX2_57 dX2_sumsOfThree_155 (by decide) (Nat.le_of_ble_eq_true rfl) ⟨Nat.le_refl _, Nat.le_refl _⟩ ?_
            refine ev_iadd dX2_sumsOfThree_158 ?_
            refine ev_istore dX2_sumsOfThree_159 (Nat.le_of_ble_eq_true rfl) rfl rfl ?_
            refine ev_goto (t := 72) dX2_sumsOfThree_161 (by decide) ?_
            exact ih M t1 ht1 x2 x3 x4 (((x5 + q16) + q20) + q24) x6 x7 x8 x9 x10 (x11 + (ab_max 1 x8)) _ h kk
          refine ev_icmp_ne (t := 146) dX2_sumsOfThree_139 (by decide) (fun hc27 => ?_) (fun hc27 => ?_)
          · replace hq25 := ab_neg hc27 hq25
            refine ev_iconst (x := 0) dX2_sumsOfThree_146 (by decide) ?_
            cases hq25
            exact hJ26
          · replace hq25 := ab_pos hc27 hq25
            refine ev_iconst (x := 1) dX2_sumsOfThree_142 (by decide) ?_
            refine ev_goto (t := 147) dX2_sumsOfThree_143 (by decide) ?_
            cases hq25
            exact hJ26
        refine ev_icmp_ne (t := 124) dX2_sumsOfThree_117 (by decide) (fun hc23 => ?_) (fun hc23 => ?_)
        · replace hq21 := ab_neg hc23 hq21
          refine ev_iconst (x := 0) dX2_sumsOfThree_124 (by decide) ?_
          cases hq21
          exact hJ22
        · replace hq21 := ab_pos hc23 hq21
          refine ev_iconst (x := 1) dX2_sumsOfThree_120 (by decide) ?_
          refine ev_goto (t := 125) dX2_sumsOfThree_121 (by decide) ?_
          cases hq21
          exact hJ22
      refine ev_icmp_ne (t := 102) dX2_sumsOfThree_95 (by decide) (fun hc19 => ?_) (fun hc19 => ?_)
      · replace hq17 := ab_neg hc19 hq17
        refine ev_iconst (x := 0) dX2_sumsOfThree_102 (by decide) ?_
        cases hq17
        exact hJ18
      · replace hq17 := ab_pos hc19 hq17
        refine ev_iconst (x := 1) dX2_sumsOfThree_98 (by decide) ?_
        refine ev_goto (t := 103) dX2_sumsOfThree_99 (by decide) ?_
        cases hq17
        exact hJ18

noncomputable def mi_X2_sumsOfThree_55 : Nat → ab_M → Nat → Int32 → Int32 → Int32 → Int32 → Int32 → Int32 → Int32 → Int32 → Int32 → Option (Int32 × Int32)
  | 0, _, _, _, _, _, _, _, _, _, _, _ => none
  | n + 1, M, t1, x2, x3, x4, x5, x6, x7, x8, x9, x10 =>
    ab_chk (vp_in x3 16) <|
    if ((M.1 t1 (x3).toNatClampNeg) + x7) < x10 then
      some (x5, x10)
    else
      ab_chk (vp_in x4 16) <|
      (mi_X2_sumsOfThree_72 ab_F M t1 x2 x3 x4 x5 x6 x7 x8 x9 x10 (M.1 t1 (x4).toNatClampNeg)).bind fun q28 =>
      mi_X2_sumsOfThree_55 n M t1 x2 x3 x4 q28.1 x6 x7 x8 x9 (x10 + (ab_max 1 x7))

set_option maxHeartbeats 4000000 in
set_option maxRecDepth 100000 in
theorem lp_X2_sumsOfThree_55 {l : Launch} {D : va_G} {ac : Nat → ClassId} {n0 : Nat} {r : ab_Rs} : ∀ (n : Nat) (M : ab_M) (t1 : Nat) (ht1 : ab_isPlan t1) (x2 : Int32) (x3 : Int32) (x4 : Int32) (x5 : Int32) (x6 : Int32) (x7 : Int32) (x8 : Int32) (x9 : Int32) (x10 : Int32) (q : Int32 × Int32) (h : mi_X2_sumsOfThree_55 n M t1 x2 x3 x4 x5 x6 x7 x8 x9 x10 = some q) (kk : ab_Ev l D ac 2 me_X2_sumsOfThree n0 0 0 r 0 0 ab_SH 178 [some (.ref 24), some (.ref t1), some (.int x2), some (.int x3), some (.int x4), some (.int q.1), some (.int x6), some (.int x7), some (.int x8), some (.int x9), some (.int q.2), none] [] M), ab_Ev l D ac 2 me_X2_sumsOfThree n0 0 0 r 0 0 ab_SH 55 [some (.ref 24), some (.ref t1), some (.int x2), some (.int x3), some (.int x4), some (.int x5), some (.int x6), some (.int x7), some (.int x8), some (.int x9), some (.int x10), none] [] M := by
  intro n
  induction n with
  | zero =>
    intro M t1 ht1 x2 x3 x4 x5 x6 x7 x8 x9 x10 q h kk
    cases h
  | succ n ih =>
    intro M t1 ht1 x2 x3 x4 x5 x6 x7 x8 x9 x10 q h kk
    unfold mi_X2_sumsOfThree_55 at h
    refine ev_iload dX2_sumsOfThree_55 rfl ?_
    refine ev_aload_n dX2_sumsOfThree_57 rfl ?_
    refine ev_iload_n dX2_sumsOfThree_58 rfl ?_
    obtain ⟨hb11, h⟩ := ab_chk_some h
    refine ev_iaload ht1 hb11 dX2_sumsOfThree_59 ?_
    refine ev_iload dX2_sumsOfThree_60 rfl ?_
    refine ev_iadd dX2_sumsOfThree_62 ?_
    refine ev_icmp_gt (t := 178) dX2_sumsOfThree_63 (by decide) (fun hc12 => ?_) (fun hc12 => ?_)
    · replace h := ab_pos hc12 h
      cases h
      exact kk
    · replace h := ab_neg hc12 h
      refine ev_aload_n dX2_sumsOfThree_66 rfl ?_
      refine ev_iload dX2_sumsOfThree_67 rfl ?_
      obtain ⟨hb13, h⟩ := ab_chk_some h
      refine ev_iaload ht1 hb13 dX2_sumsOfThree_69 ?_
      refine ev_istore dX2_sumsOfThree_70 (Nat.le_of_ble_eq_true rfl) rfl rfl ?_
      obtain ⟨q28, hq29, h⟩ := ab_bind h
      refine lp_X2_sumsOfThree_72 _ M t1 ht1 x2 x3 x4 x5 x6 x7 x8 x9 x10 (M.1 t1 (x4).toNatClampNeg) _ hq29 ?_
      refine ev_iload dX2_sumsOfThree_164 rfl ?_
      refine ev_iconst (x := 1) dX2_sumsOfThree_166 (by decide) ?_
      refine ev_iload dX2_sumsOfThree_167 rfl ?_
      refine ev_max ml_RX2_57 dX2_sumsOfThree_169 (by decide) (Nat.le_of_ble_eq_true rfl) ⟨Nat.le_refl _, Nat.le_refl _⟩ ?_
      refine ev_iadd dX2_sumsOfThree_172 ?_
      refine ev_istore dX2_sumsOfThree_173 (Nat.le_of_ble_eq_true rfl) rfl rfl ?_
      refine ev_goto (t := 55) dX2_sumsOfThree_175 (by decide) ?_
      refine ev_drop (lv' := [some (.ref 24), some (.ref t1), some (.int x2), some (.int x3), some (.int x4), some (.int q28.1), some (.int x6), some (.int x7), some (.int x8), some (.int x9), some (.int (x10 + (ab_max 1 x7))), none]) (ab_sub_k (ab_sub_k (ab_sub_k (ab_sub_k (ab_sub_k (ab_sub_k (ab_sub_k (ab_sub_k (ab_sub_k (ab_sub_k (ab_sub_k (ab_sub_d ab_sub_nil)))))))))))) ?_
      exact ih M t1 ht1 x2 x3 x4 q28.1 x6 x7 x8 x9 (x10 + (ab_max 1 x7)) _ h kk

noncomputable def mi_X2_sumsOfThree_39 : Nat → ab_M → Nat → Int32 → Int32 → Int32 → Int32 → Int32 → Int32 → Int32 → Int32 → Option (Int32 × Int32)
  | 0, _, _, _, _, _, _, _, _, _, _ => none
  | n + 1, M, t1, x2, x3, x4, x5, x6, x7, x8, x9 =>
    ab_chk (vp_in x2 16) <|
    if ((M.1 t1 (x2).toNatClampNeg) + x6) < x9 then
      some (x5, x9)
    else
      ab_chk (vp_in x3 16) <|
      (mi_X2_sumsOfThree_55 ab_F M t1 x2 x3 x4 x5 x6 x7 x8 x9 (M.1 t1 (x3).toNatClampNeg)).bind fun q30 =>
      mi_X2_sumsOfThree_39 n M t1 x2 x3 x4 q30.1 x6 x7 x8 (x9 + (ab_max 1 x6))

set_option maxHeartbeats 4000000 in
set_option maxRecDepth 100000 in
theorem lp_X2_sumsOfThree_39 {l : Launch} {D : va_G} {ac : Nat → ClassId} {n0 : Nat} {r : ab_Rs} : ∀ (n : Nat) (M : ab_M) (t1 : Nat) (ht1 : ab_isPlan t1) (x2 : Int32) (x3 : Int32) (x4 : Int32) (x5 : Int32) (x6 : Int32) (x7 : Int32) (x8 : Int32) (x9 : Int32) (q : Int32 × Int32) (h : mi_X2_sumsOfThree_39 n M t1 x2 x3 x4 x5 x6 x7 x8 x9 = some q) (kk : ab_Ev l D ac 2 me_X2_sumsOfThree n0 0 0 r 0 0 ab_SH 192 [some (.ref 24), some (.ref t1), some (.int x2), some (.int x3), some (.int x4), some (.int q.1), some (.int x6), some (.int x7), some (.int x8), some (.int q.2), none, none] [] M), ab_Ev l D ac 2 me_X2_sumsOfThree n0 0 0 r 0 0 ab_SH 39 [some (.ref 24), some (.ref t1), some (.int x2), some (.int x3), some (.int x4), some (.int x5), some (.int x6), some (.int x7), some (.int x8), some (.int x9), none, none] [] M := by
  intro n
  induction n with
  | zero =>
    intro M t1 ht1 x2 x3 x4 x5 x6 x7 x8 x9 q h kk
    cases h
  | succ n ih =>
    intro M t1 ht1 x2 x3 x4 x5 x6 x7 x8 x9 q h kk
    unfold mi_X2_sumsOfThree_39 at h
    refine ev_iload dX2_sumsOfThree_39 rfl ?_
    refine ev_aload_n dX2_sumsOfThree_41 rfl ?_
    refine ev_iload_n dX2_sumsOfThree_42 rfl ?_
    obtain ⟨hb8, h⟩ := ab_chk_some h
    refine ev_iaload ht1 hb8 dX2_sumsOfThree_43 ?_
    refine ev_iload dX2_sumsOfThree_44 rfl ?_
    refine ev_iadd dX2_sumsOfThree_46 ?_
    refine ev_icmp_gt (t := 192) dX2_sumsOfThree_47 (by decide) (fun hc9 => ?_) (fun hc9 => ?_)
    · replace h := ab_pos hc9 h
      cases h
      exact kk
    · replace h := ab_neg hc9 h
      refine ev_aload_n dX2_sumsOfThree_50 rfl ?_
      refine ev_iload_n dX2_sumsOfThree_51 rfl ?_
      obtain ⟨hb10, h⟩ := ab_chk_some h
      refine ev_iaload ht1 hb10 dX2_sumsOfThree_52 ?_
      refine ev_istore dX2_sumsOfThree_53 (Nat.le_of_ble_eq_true rfl) rfl rfl ?_
      obtain ⟨q30, hq31, h⟩ := ab_bind h
      refine lp_X2_sumsOfThree_55 _ M t1 ht1 x2 x3 x4 x5 x6 x7 x8 x9 (M.1 t1 (x3).toNatClampNeg) _ hq31 ?_
      refine ev_iload dX2_sumsOfThree_178 rfl ?_
      refine ev_iconst (x := 1) dX2_sumsOfThree_180 (by decide) ?_
      refine ev_iload dX2_sumsOfThree_181 rfl ?_
      refine ev_max ml_RX2_57 dX2_sumsOfThree_183 (by decide) (Nat.le_of_ble_eq_true rfl) ⟨Nat.le_refl _, Nat.le_refl _⟩ ?_
      refine ev_iadd dX2_sumsOfThree_186 ?_
      refine ev_istore dX2_sumsOfThree_187 (Nat.le_of_ble_eq_true rfl) rfl rfl ?_
      refine ev_goto (t := 39) dX2_sumsOfThree_189 (by decide) ?_
      refine ev_drop (lv' := [some (.ref 24), some (.ref t1), some (.int x2), some (.int x3), some (.int x4), some (.int q30.1), some (.int x6), some (.int x7), some (.int x8), some (.int (x9 + (ab_max 1 x6))), none, none]) (ab_sub_k (ab_sub_k (ab_sub_k (ab_sub_k (ab_sub_k (ab_sub_k (ab_sub_k (ab_sub_k (ab_sub_k (ab_sub_k (ab_sub_d (ab_sub_k ab_sub_nil)))))))))))) ?_
      exact ih M t1 ht1 x2 x3 x4 q30.1 x6 x7 x8 (x9 + (ab_max 1 x6)) _ h kk

noncomputable def mi_X2_sumsOfThree (M : ab_M) (t1 : Nat) (x2 : Int32) (x3 : Int32) (x4 : Int32) : Option (Int32) :=
  (mi_X3_gapOf M x2).bind fun q1 =>
  (mi_X3_gapOf M x3).bind fun q3 =>
  (mi_X3_gapOf M x4).bind fun q5 =>
  ab_chk (vp_in x2 16) <|
  (mi_X2_sumsOfThree_39 ab_F M t1 x2 x3 x4 0 q1 q3 q5 (M.1 t1 (x2).toNatClampNeg)).bind fun q32 =>
  some q32.1

set_option maxHeartbeats 4000000 in
set_option maxRecDepth 100000 in
theorem co_X2_sumsOfThree {l : Launch} {D : va_G} {ac : Nat → ClassId} (M : ab_M) (t1 : Nat) (ht1 : ab_isPlan t1) (x2 : Int32) (x3 : Int32) (x4 : Int32) (z : Int32) (h : mi_X2_sumsOfThree M t1 x2 x3 x4 = some z) : ab_Con l D ac 2 me_X2_sumsOfThree 0 0 [.ref 24, .ref t1, .int x2, .int x3, .int x4] ab_SH M (some (.int z), ab_SH, M) := by
  refine ab_intro (lv := [some (.ref 24), some (.ref t1), some (.int x2), some (.int x3), some (.int x4), none, none, none, none, none, none, none]) (by decide) rfl (Nat.le_of_ble_eq_true rfl) rfl ?_
  unfold mi_X2_sumsOfThree at h
  refine ev_iconst (x := 0) dX2_sumsOfThree_0 (by decide) ?_
  refine ev_istore dX2_sumsOfThree_1 (Nat.le_of_ble_eq_true rfl) rfl rfl ?_
  refine ev_aload_n dX2_sumsOfThree_3 rfl ?_
  refine ev_getr (o' := 1) fl_RX2_15 sh_24 (by decide) (by decide) rfl rfl dX2_sumsOfThree_4 ?_
  refine ev_iload_n dX2_sumsOfThree_7 rfl ?_
  obtain ⟨q1, hv2, h⟩ := ab_bind h
  refine ev_callV (st := []) (co_X3_gapOf M x2 _ hv2) mv_X3_gapOf sh_1 ml_RX2_49 dX2_sumsOfThree_8 (by decide) rfl (Nat.le_of_ble_eq_true rfl) ⟨Nat.le_refl _, Nat.le_refl _⟩ ?_
  refine ev_istore dX2_sumsOfThree_11 (Nat.le_of_ble_eq_true rfl) rfl rfl ?_
  refine ev_aload_n dX2_sumsOfThree_13 rfl ?_
  refine ev_getr (o' := 1) fl_RX2_15 sh_24 (by decide) (by decide) rfl rfl dX2_sumsOfThree_14 ?_
  refine ev_iload_n dX2_sumsOfThree_17 rfl ?_
  obtain ⟨q3, hv4, h⟩ := ab_bind h
  refine ev_callV (st := []) (co_X3_gapOf M x3 _ hv4) mv_X3_gapOf sh_1 ml_RX2_49 dX2_sumsOfThree_18 (by decide) rfl (Nat.le_of_ble_eq_true rfl) ⟨Nat.le_refl _, Nat.le_refl _⟩ ?_
  refine ev_istore dX2_sumsOfThree_21 (Nat.le_of_ble_eq_true rfl) rfl rfl ?_
  refine ev_aload_n dX2_sumsOfThree_23 rfl ?_
  refine ev_getr (o' := 1) fl_RX2_15 sh_24 (by decide) (by decide) rfl rfl dX2_sumsOfThree_24 ?_
  refine ev_iload dX2_sumsOfThree_27 rfl ?_
  obtain ⟨q5, hv6, h⟩ := ab_bind h
  refine ev_callV (st := []) (co_X3_gapOf M x4 _ hv6) mv_X3_gapOf sh_1 ml_RX2_49 dX2_sumsOfThree_29 (by decide) rfl (Nat.le_of_ble_eq_true rfl) ⟨Nat.le_refl _, Nat.le_refl _⟩ ?_
  refine ev_istore dX2_sumsOfThree_32 (Nat.le_of_ble_eq_true rfl) rfl rfl ?_
  refine ev_aload_n dX2_sumsOfThree_34 rfl ?_
  refine ev_iload_n dX2_sumsOfThree_35 rfl ?_
  obtain ⟨hb7, h⟩ := ab_chk_some h
  refine ev_iaload ht1 hb7 dX2_sumsOfThree_36 ?_
  refine ev_istore dX2_sumsOfThree_37 (Nat.le_of_ble_eq_true rfl) rfl rfl ?_
  obtain ⟨q32, hq33, h⟩ := ab_bind h
  refine lp_X2_sumsOfThree_39 _ M t1 ht1 x2 x3 x4 0 q1 q3 q5 (M.1 t1 (x2).toNatClampNeg) _ hq33 ?_
  refine ev_iload dX2_sumsOfThree_192 rfl ?_
  cases h
  exact ev_ireturn rfl dX2_sumsOfThree_194

noncomputable def mi_X2_sums_38 : Nat → ab_M → Nat → Int32 → Int32 → Int32 → Int32 → Option (Int32 × Int32)
  | 0, _, _, _, _, _, _ => none
  | n + 1, M, t1, x2, x3, x4, x5 =>
    if (M.1 1 8) ≤ x5 then
      some (x2, x5)
    else
      (mi_X2_sumTogether M t1 x3 x4 x5).bind fun q4 =>
      ((if q4 = 0 then
        some 0
      else
        (mi_X2_sumsOfThree M t1 x3 x4 x5).bind fun q10 =>
        some q10) : Option (Int32)).bind fun q6 =>
      mi_X2_sums_38 n M t1 (x2 + q6) x3 x4 (x5 + 1)

set_option maxHeartbeats 4000000 in
set_option maxRecDepth 100000 in
theorem lp_X2_sums_38 {l : Launch} {D : va_G} {ac : Nat → ClassId} {n0 : Nat} {r : ab_Rs} : ∀ (n : Nat) (M : ab_M) (t1 : Nat) (ht1 : ab_isPlan t1) (x2 : Int32) (x3 : Int32) (x4 : Int32) (x5 : Int32) (q : Int32 × Int32) (h : mi_X2_sums_38 n M t1 x2 x3 x4 x5 = some q) (kk : ab_Ev l D ac 3 me_X2_sums n0 0 0 r 0 0 ab_SH 86 [some (.ref 24), some (.ref t1), some (.int q.1), some (.int x3), some (.int x4), some (.int q.2)] [] M), ab_Ev l D ac 3 me_X2_sums n0 0 0 r 0 0 ab_SH 38 [some (.ref 24), some (.ref t1), some (.int x2), some (.int x3), some (.int x4), some (.int x5)] [] M := by
  intro n
  induction n with
  | zero =>
    intro M t1 ht1 x2 x3 x4 x5 q h kk
    cases h
  | succ n ih =>
    intro M t1 ht1 x2 x3 x4 x5 q h kk
    unfold mi_X2_sums_38 at h
    refine ev_iload dX2_sums_38 rfl ?_
    refine ev_aload_n dX2_sums_40 rfl ?_
    refine ev_getr (o' := 1) fl_RX2_15 sh_24 (by decide) (by decide) rfl rfl dX2_sums_41 ?_
    refine ev_geti fl_RX2_19 sh_1 (by decide) (by decide) rfl dX2_sums_44 ?_
    refine ev_icmp_ge (t := 86) dX2_sums_47 (by decide) (fun hc3 => ?_) (fun hc3 => ?_)
    · replace h := ab_pos hc3 h
      cases h
      exact kk
    · replace h := ab_neg hc3 h
      refine ev_iload_n dX2_sums_50 rfl ?_
      refine ev_aload_n dX2_sums_51 rfl ?_
      refine ev_aload_n dX2_sums_52 rfl ?_
      refine ev_iload_n dX2_sums_53 rfl ?_
      refine ev_iload dX2_sums_54 rfl ?_
      refine ev_iload dX2_sums_56 rfl ?_
      obtain ⟨q4, hv5, h⟩ := ab_bind h
      refine ev_callV (st := [.int x2]) (co_X2_sumTogether M t1 ht1 x3 x4 x5 _ hv5) mv_X2_sumTogether sh_24 ml_RX2_64 dX2_sums_58 (by decide) rfl (Nat.le_of_ble_eq_true rfl) ⟨Nat.le_refl _, Nat.le_refl _⟩ ?_
      obtain ⟨q6, hq7, h⟩ := ab_bind h
      have hJ8 : ab_Ev l D ac 3 me_X2_sums n0 0 0 r 0 0 ab_SH 78 [some (.ref 24), some (.ref t1), some (.int x2), some (.int x3), some (.int x4), some (.int x5)] [.int q6, .int x2] M := by
        refine ev_iadd dX2_sums_78 ?_
        refine ev_istore_n dX2_sums_79 (Nat.le_of_ble_eq_true rfl) rfl rfl ?_
        refine ev_iinc (y := x5 + 1) dX2_sums_80 rfl (by first | rfl | decide) rfl rfl ?_
        refine ev_goto (t := 38) dX2_sums_83 (by decide) ?_
        exact ih M t1 ht1 (x2 + q6) x3 x4 (x5 + 1) _ h kk
      refine ev_if_eq (t := 77) dX2_sums_61 (by decide) (fun hc9 => ?_) (fun hc9 => ?_)
      · replace hq7 := ab_pos hc9 hq7
        refine ev_iconst (x := 0) dX2_sums_77 (by decide) ?_
        cases hq7
        exact hJ8
      · replace hq7 := ab_neg hc9 hq7
        refine ev_aload_n dX2_sums_64 rfl ?_
        refine ev_aload_n dX2_sums_65 rfl ?_
        refine ev_iload_n dX2_sums_66 rfl ?_
        refine ev_iload dX2_sums_67 rfl ?_
        refine ev_iload dX2_sums_69 rfl ?_
        obtain ⟨q10, hv11, hq7⟩ := ab_bind hq7
        refine ev_callV (st := [.int x2]) (co_X2_sumsOfThree M t1 ht1 x3 x4 x5 _ hv11) mv_X2_sumsOfThree sh_24 ml_RX2_68 dX2_sums_71 (by decide) rfl (Nat.le_of_ble_eq_true rfl) ⟨Nat.le_refl _, Nat.le_refl _⟩ ?_
        refine ev_goto (t := 78) dX2_sums_74 (by decide) ?_
        cases hq7
        exact hJ8

noncomputable def mi_X2_sums_20 : Nat → ab_M → Nat → Int32 → Int32 → Int32 → Option (Int32 × Int32)
  | 0, _, _, _, _, _ => none
  | n + 1, M, t1, x2, x3, x4 =>
    if (M.1 1 8) ≤ x4 then
      some (x2, x4)
    else
      (mi_X2_sums_38 ab_F M t1 x2 x3 x4 (x4 + 1)).bind fun q12 =>
      mi_X2_sums_20 n M t1 q12.1 x3 (x4 + 1)

set_option maxHeartbeats 4000000 in
set_option maxRecDepth 100000 in
theorem lp_X2_sums_20 {l : Launch} {D : va_G} {ac : Nat → ClassId} {n0 : Nat} {r : ab_Rs} : ∀ (n : Nat) (M : ab_M) (t1 : Nat) (ht1 : ab_isPlan t1) (x2 : Int32) (x3 : Int32) (x4 : Int32) (q : Int32 × Int32) (h : mi_X2_sums_20 n M t1 x2 x3 x4 = some q) (kk : ab_Ev l D ac 3 me_X2_sums n0 0 0 r 0 0 ab_SH 92 [some (.ref 24), some (.ref t1), some (.int q.1), some (.int x3), some (.int q.2), none] [] M), ab_Ev l D ac 3 me_X2_sums n0 0 0 r 0 0 ab_SH 20 [some (.ref 24), some (.ref t1), some (.int x2), some (.int x3), some (.int x4), none] [] M := by
  intro n
  induction n with
  | zero =>
    intro M t1 ht1 x2 x3 x4 q h kk
    cases h
  | succ n ih =>
    intro M t1 ht1 x2 x3 x4 q h kk
    unfold mi_X2_sums_20 at h
    refine ev_iload dX2_sums_20 rfl ?_
    refine ev_aload_n dX2_sums_22 rfl ?_
    refine ev_getr (o' := 1) fl_RX2_15 sh_24 (by decide) (by decide) rfl rfl dX2_sums_23 ?_
    refine ev_geti fl_RX2_19 sh_1 (by decide) (by decide) rfl dX2_sums_26 ?_
    refine ev_icmp_ge (t := 92) dX2_sums_29 (by decide) (fun hc2 => ?_) (fun hc2 => ?_)
    · replace h := ab_pos hc2 h
      cases h
      exact kk
    · replace h := ab_neg hc2 h
      refine ev_iload dX2_sums_32 rfl ?_
      refine ev_iconst (x := 1) dX2_sums_34 (by decide) ?_
      refine ev_iadd dX2_sums_35 ?_
      refine ev_istore dX2_sums_36 (Nat.le_of_ble_eq_true rfl) rfl rfl ?_
      obtain ⟨q12, hq13, h⟩ := ab_bind h
      refine lp_X2_sums_38 _ M t1 ht1 x2 x3 x4 (x4 + 1) _ hq13 ?_
      refine ev_iinc (y := x4 + 1) dX2_sums_86 rfl (by first | rfl | decide) rfl rfl ?_
      refine ev_goto (t := 20) dX2_sums_89 (by decide) ?_
      refine ev_drop (lv' := [some (.ref 24), some (.ref t1), some (.int q12.1), some (.int x3), some (.int (x4 + 1)), none]) (ab_sub_k (ab_sub_k (ab_sub_k (ab_sub_k (ab_sub_k (ab_sub_d ab_sub_nil)))))) ?_
      exact ih M t1 ht1 q12.1 x3 (x4 + 1) _ h kk

noncomputable def mi_X2_sums_4 : Nat → ab_M → Nat → Int32 → Int32 → Option (Int32 × Int32)
  | 0, _, _, _, _ => none
  | n + 1, M, t1, x2, x3 =>
    if (M.1 1 8) ≤ x3 then
      some (x2, x3)
    else
      (mi_X2_sums_20 ab_F M t1 x2 x3 (x3 + 1)).bind fun q14 =>
      mi_X2_sums_4 n M t1 q14.1 (x3 + 1)

set_option maxHeartbeats 4000000 in
set_option maxRecDepth 100000 in
theorem lp_X2_sums_4 {l : Launch} {D : va_G} {ac : Nat → ClassId} {n0 : Nat} {r : ab_Rs} : ∀ (n : Nat) (M : ab_M) (t1 : Nat) (ht1 : ab_isPlan t1) (x2 : Int32) (x3 : Int32) (q : Int32 × Int32) (h : mi_X2_sums_4 n M t1 x2 x3 = some q) (kk : ab_Ev l D ac 3 me_X2_sums n0 0 0 r 0 0 ab_SH 98 [some (.ref 24), some (.ref t1), some (.int q.1), some (.int q.2), none, none] [] M), ab_Ev l D ac 3 me_X2_sums n0 0 0 r 0 0 ab_SH 4 [some (.ref 24), some (.ref t1), some (.int x2), some (.int x3), none, none] [] M := by
  intro n
  induction n with
  | zero =>
    intro M t1 ht1 x2 x3 q h kk
    cases h
  | succ n ih =>
    intro M t1 ht1 x2 x3 q h kk
    unfold mi_X2_sums_4 at h
    refine ev_iload_n dX2_sums_4 rfl ?_
    refine ev_aload_n dX2_sums_5 rfl ?_
    refine ev_getr (o' := 1) fl_RX2_15 sh_24 (by decide) (by decide) rfl rfl dX2_sums_6 ?_
    refine ev_geti fl_RX2_19 sh_1 (by decide) (by decide) rfl dX2_sums_9 ?_
    refine ev_icmp_ge (t := 98) dX2_sums_12 (by decide) (fun hc1 => ?_) (fun hc1 => ?_)
    · replace h := ab_pos hc1 h
      cases h
      exact kk
    · replace h := ab_neg hc1 h
      refine ev_iload_n dX2_sums_15 rfl ?_
      refine ev_iconst (x := 1) dX2_sums_16 (by decide) ?_
      refine ev_iadd dX2_sums_17 ?_
      refine ev_istore dX2_sums_18 (Nat.le_of_ble_eq_true rfl) rfl rfl ?_
      obtain ⟨q14, hq15, h⟩ := ab_bind h
      refine lp_X2_sums_20 _ M t1 ht1 x2 x3 (x3 + 1) _ hq15 ?_
      refine ev_iinc (y := x3 + 1) dX2_sums_92 rfl (by first | rfl | decide) rfl rfl ?_
      refine ev_goto (t := 4) dX2_sums_95 (by decide) ?_
      refine ev_drop (lv' := [some (.ref 24), some (.ref t1), some (.int q14.1), some (.int (x3 + 1)), none, none]) (ab_sub_k (ab_sub_k (ab_sub_k (ab_sub_k (ab_sub_d (ab_sub_k ab_sub_nil)))))) ?_
      exact ih M t1 ht1 q14.1 (x3 + 1) _ h kk

noncomputable def mi_X2_sums (M : ab_M) (t1 : Nat) : Option (Int32) :=
  (mi_X2_sums_4 ab_F M t1 0 0).bind fun q16 =>
  some q16.1

set_option maxHeartbeats 4000000 in
set_option maxRecDepth 100000 in
theorem co_X2_sums {l : Launch} {D : va_G} {ac : Nat → ClassId} (M : ab_M) (t1 : Nat) (ht1 : ab_isPlan t1) (z : Int32) (h : mi_X2_sums M t1 = some z) : ab_Con l D ac 3 me_X2_sums 0 0 [.ref 24, .ref t1] ab_SH M (some (.int z), ab_SH, M) := by
  refine ab_intro (lv := [some (.ref 24), some (.ref t1), none, none, none, none]) (by decide) rfl (Nat.le_of_ble_eq_true rfl) rfl ?_
  unfold mi_X2_sums at h
  refine ev_iconst (x := 0) dX2_sums_0 (by decide) ?_
  refine ev_istore_n dX2_sums_1 (Nat.le_of_ble_eq_true rfl) rfl rfl ?_
  refine ev_iconst (x := 0) dX2_sums_2 (by decide) ?_
  refine ev_istore_n dX2_sums_3 (Nat.le_of_ble_eq_true rfl) rfl rfl ?_
  obtain ⟨q16, hq17, h⟩ := ab_bind h
  refine lp_X2_sums_4 _ M t1 ht1 0 0 _ hq17 ?_
  refine ev_iload_n dX2_sums_98 rfl ?_
  cases h
  exact ev_ireturn rfl dX2_sums_99

noncomputable def mi_X2_strayBits_4 : Nat → ab_M → Nat → Int32 → Int32 → Option (Int32 × Int32)
  | 0, _, _, _, _ => none
  | n + 1, M, t1, x2, x3 =>
    if (M.1 1 8) ≤ x3 then
      some (x2, x3)
    else
      ab_chk (vp_in x3 16) <|
      ((if (M.1 t1 (x3).toNatClampNeg) < 0 then
        some 0
      else
        (mi_X3_allowed M x3).bind fun q7 =>
        ab_chk (vp_in x3 16) <|
        if ((ab_ushr q7 (M.1 t1 (x3).toNatClampNeg)) &&& 1) = 0 then
          some 1
        else
          some 0) : Option (Int32)).bind fun q3 =>
      ((if q3 = 0 then
        some 0
      else
        some (1 <<< (x3 &&& 31))) : Option (Int32)).bind fun q11 =>
      mi_X2_strayBits_4 n M t1 (x2 ||| q11) (x3 + 1)

set_option maxHeartbeats 4000000 in
set_option maxRecDepth 100000 in
theorem lp_X2_strayBits_4 {l : Launch} {D : va_G} {ac : Nat → ClassId} {n0 : Nat} {r : ab_Rs} : ∀ (n : Nat) (M : ab_M) (t1 : Nat) (ht1 : ab_isPlan t1) (x2 : Int32) (x3 : Int32) (q : Int32 × Int32) (h : mi_X2_strayBits_4 n M t1 x2 x3 = some q) (kk : ab_Ev l D ac 4 me_X2_strayBits n0 0 0 r 0 0 ab_SH 66 [some (.ref 24), some (.ref t1), some (.int q.1), some (.int q.2), none] [] M), ab_Ev l D ac 4 me_X2_strayBits n0 0 0 r 0 0 ab_SH 4 [some (.ref 24), some (.ref t1), some (.int x2), some (.int x3), none] [] M := by
  intro n
  induction n with
  | zero =>
    intro M t1 ht1 x2 x3 q h kk
    cases h
  | succ n ih =>
    intro M t1 ht1 x2 x3 q h kk
    unfold mi_X2_strayBits_4 at h
    refine ev_iload_n dX2_strayBits_4 rfl ?_
    refine ev_aload_n dX2_strayBits_5 rfl ?_
    refine ev_getr (o' := 1) fl_RX2_15 sh_24 (by decide) (by decide) rfl rfl dX2_strayBits_6 ?_
    refine ev_geti fl_RX2_19 sh_1 (by decide) (by decide) rfl dX2_strayBits_9 ?_
    refine ev_icmp_ge (t := 66) dX2_strayBits_12 (by decide) (fun hc1 => ?_) (fun hc1 => ?_)
    · replace h := ab_pos hc1 h
      cases h
      exact kk
    · replace h := ab_neg hc1 h
      refine ev_aload_n dX2_strayBits_15 rfl ?_
      refine ev_iload_n dX2_strayBits_16 rfl ?_
      obtain ⟨hb2, h⟩ := ab_chk_some h
      refine ev_iaload ht1 hb2 dX2_strayBits_17 ?_
      obtain ⟨q3, hq4, h⟩ := ab_bind h
      have hJ5 : ab_Ev l D ac 4 me_X2_strayBits n0 0 0 r 0 0 ab_SH 43 [some (.ref 24), some (.ref t1), some (.int x2), some (.int x3), none] [.int q3] M := by
        refine ev_istore dX2_strayBits_43 (Nat.le_of_ble_eq_true rfl) rfl rfl ?_
        refine ev_iload_n dX2_strayBits_45 rfl ?_
        refine ev_iload dX2_strayBits_46 rfl ?_
        obtain ⟨q11, hq12, h⟩ := ab_bind h
        have hJ13 : ab_Ev l D ac 4 me_X2_strayBits n0 0 0 r 0 0 ab_SH 58 [some (.ref 24), some (.ref t1), some (.int x2), some (.int x3), some (.int q3)] [.int q11, .int x2] M := by
          refine ev_ior dX2_strayBits_58 ?_
          refine ev_istore_n dX2_strayBits_59 (Nat.le_of_ble_eq_true rfl) rfl rfl ?_
          refine ev_iinc (y := x3 + 1) dX2_strayBits_60 rfl (by first | rfl | decide) rfl rfl ?_
          refine ev_goto (t := 4) dX2_strayBits_63 (by decide) ?_
          refine ev_drop (lv' := [some (.ref 24), some (.ref t1), some (.int (x2 ||| q11)), some (.int (x3 + 1)), none]) (ab_sub_k (ab_sub_k (ab_sub_k (ab_sub_k (ab_sub_d ab_sub_nil))))) ?_
          exact ih M t1 ht1 (x2 ||| q11) (x3 + 1) _ h kk
        refine ev_if_eq (t := 57) dX2_strayBits_48 (by decide) (fun hc14 => ?_) (fun hc14 => ?_)
        · replace hq12 := ab_pos hc14 hq12
          refine ev_iconst (x := 0) dX2_strayBits_57 (by decide) ?_
          cases hq12
          exact hJ13
        · replace hq12 := ab_neg hc14 hq12
          refine ev_iconst (x := 1) dX2_strayBits_51 (by decide) ?_
          refine ev_iload_n dX2_strayBits_52 rfl ?_
          refine ev_ishl dX2_strayBits_53 ?_
          refine ev_goto (t := 58) dX2_strayBits_54 (by decide) ?_
          cases hq12
          exact hJ13
      refine ev_if_lt (t := 42) dX2_strayBits_18 (by decide) (fun hc6 => ?_) (fun hc6 => ?_)
      · replace hq4 := ab_pos hc6 hq4
        refine ev_iconst (x := 0) dX2_strayBits_42 (by decide) ?_
        cases hq4
        exact hJ5
      · replace hq4 := ab_neg hc6 hq4
        refine ev_aload_n dX2_strayBits_21 rfl ?_
        refine ev_getr (o' := 1) fl_RX2_15 sh_24 (by decide) (by decide) rfl rfl dX2_strayBits_22 ?_
        refine ev_iload_n dX2_strayBits_25 rfl ?_
        obtain ⟨q7, hv8, hq4⟩ := ab_bind hq4
        refine ev_callV (st := []) (co_X3_allowed M x3 _ hv8) mv_X3_allowed sh_1 ml_RX2_79 dX2_strayBits_26 (by decide) rfl (Nat.le_of_ble_eq_true rfl) ⟨Nat.le_refl _, Nat.le_refl _⟩ ?_
        refine ev_aload_n dX2_strayBits_29 rfl ?_
        refine ev_iload_n dX2_strayBits_30 rfl ?_
        obtain ⟨hb9, hq4⟩ := ab_chk_some hq4
        refine ev_iaload ht1 hb9 dX2_strayBits_31 ?_
        refine ev_iushr dX2_strayBits_32 ?_
        refine ev_iconst (x := 1) dX2_strayBits_33 (by decide) ?_
        refine ev_iand dX2_strayBits_34 ?_
        refine ev_if_ne (t := 42) dX2_strayBits_35 (by decide) (fun hc10 => ?_) (fun hc10 => ?_)
        · replace hq4 := ab_neg hc10 hq4
          refine ev_iconst (x := 0) dX2_strayBits_42 (by decide) ?_
          cases hq4
          exact hJ5
        · replace hq4 := ab_pos hc10 hq4
          refine ev_iconst (x := 1) dX2_strayBits_38 (by decide) ?_
          refine ev_goto (t := 43) dX2_strayBits_39 (by decide) ?_
          cases hq4
          exact hJ5

noncomputable def mi_X2_strayBits (M : ab_M) (t1 : Nat) : Option (Int32) :=
  (mi_X2_strayBits_4 ab_F M t1 0 0).bind fun q15 =>
  some q15.1

set_option maxHeartbeats 4000000 in
set_option maxRecDepth 100000 in
theorem co_X2_strayBits {l : Launch} {D : va_G} {ac : Nat → ClassId} (M : ab_M) (t1 : Nat) (ht1 : ab_isPlan t1) (z : Int32) (h : mi_X2_strayBits M t1 = some z) : ab_Con l D ac 4 me_X2_strayBits 0 0 [.ref 24, .ref t1] ab_SH M (some (.int z), ab_SH, M) := by
  refine ab_intro (lv := [some (.ref 24), some (.ref t1), none, none, none]) (by decide) rfl (Nat.le_of_ble_eq_true rfl) rfl ?_
  unfold mi_X2_strayBits at h
  refine ev_iconst (x := 0) dX2_strayBits_0 (by decide) ?_
  refine ev_istore_n dX2_strayBits_1 (Nat.le_of_ble_eq_true rfl) rfl rfl ?_
  refine ev_iconst (x := 0) dX2_strayBits_2 (by decide) ?_
  refine ev_istore_n dX2_strayBits_3 (Nat.le_of_ble_eq_true rfl) rfl rfl ?_
  obtain ⟨q15, hq16, h⟩ := ab_bind h
  refine lp_X2_strayBits_4 _ M t1 ht1 0 0 _ hq16 ?_
  refine ev_iload_n dX2_strayBits_66 rfl ?_
  cases h
  exact ev_ireturn rfl dX2_strayBits_67

noncomputable def mi_X2_totalHarm (M : ab_M) (t1 : Nat) : Option (Int32) :=
  (mi_X2_lacks M t1).bind fun q1 =>
  (mi_X2_sums M t1).bind fun q3 =>
  (mi_X2_strayBits M t1).bind fun q5 =>
  (mi_J6_bitCount_0f7a4 M q5).bind fun q7 =>
  some ((q1 + (5 * q3)) + (10 * q7))

set_option maxHeartbeats 4000000 in
set_option maxRecDepth 100000 in
theorem co_X2_totalHarm {l : Launch} {D : va_G} {ac : Nat → ClassId} (M : ab_M) (t1 : Nat) (ht1 : ab_isPlan t1) (z : Int32) (h : mi_X2_totalHarm M t1 = some z) : ab_Con l D ac 6 me_X2_totalHarm 0 0 [.ref 24, .ref t1] ab_SH M (some (.int z), ab_SH, M) := by
  refine ab_intro (lv := [some (.ref 24), some (.ref t1)]) (by decide) rfl (Nat.le_of_ble_eq_true rfl) rfl ?_
  unfold mi_X2_totalHarm at h
  refine ev_aload_n dX2_totalHarm_0 rfl ?_
  refine ev_aload_n dX2_totalHarm_1 rfl ?_
  obtain ⟨q1, hv2, h⟩ := ab_bind h
  refine ev_callV (st := []) (co_X2_lacks M t1 ht1 _ hv2) mv_X2_lacks sh_24 ml_RX2_25 dX2_totalHarm_2 (by decide) rfl (Nat.le_of_ble_eq_true rfl) ⟨Nat.le_refl _, Nat.le_refl _⟩ ?_
  refine ev_iconst (x := 5) dX2_totalHarm_5 (by decide) ?_
  refine ev_aload_n dX2_totalHarm_6 rfl ?_
  refine ev_aload_n dX2_totalHarm_7 rfl ?_
  obtain ⟨q3, hv4, h⟩ := ab_bind h
  refine ev_callV (st := [.int 5, .int q1]) (co_X2_sums M t1 ht1 _ hv4) mv_X2_sums sh_24 ml_RX2_29 dX2_totalHarm_8 (by decide) rfl (Nat.le_of_ble_eq_true rfl) ⟨Nat.le_refl _, Nat.le_refl _⟩ ?_
  refine ev_imul dX2_totalHarm_11 ?_
  refine ev_iadd dX2_totalHarm_12 ?_
  refine ev_bipush (x := 10) dX2_totalHarm_13 (by decide) ?_
  refine ev_aload_n dX2_totalHarm_15 rfl ?_
  refine ev_aload_n dX2_totalHarm_16 rfl ?_
  obtain ⟨q5, hv6, h⟩ := ab_bind h
  refine ev_callV (st := [.int 10, .int (q1 + (5 * q3))]) (co_X2_strayBits M t1 ht1 _ hv6) mv_X2_strayBits sh_24 ml_RX2_32 dX2_totalHarm_17 (by decide) rfl (Nat.le_of_ble_eq_true rfl) ⟨Nat.le_refl _, Nat.le_refl _⟩ ?_
  obtain ⟨q7, hv8, h⟩ := ab_bind h
  refine ev_callS (st := [.int 10, .int (q1 + (5 * q3))]) (co_J6_bitCount_0f7a4 M q5 _ hv8) mv_J6_bitCount_0f7a4 ml_RX2_35 dX2_totalHarm_20 (by decide) rfl (Nat.le_of_ble_eq_true rfl) ⟨Nat.le_refl _, Nat.le_refl _⟩ ?_
  refine ev_imul dX2_totalHarm_23 ?_
  refine ev_iadd dX2_totalHarm_24 ?_
  cases h
  exact ev_ireturn rfl dX2_totalHarm_25

noncomputable def mi_X2_lackingTwos_20 : Nat → ab_M → Nat → Int32 → Int32 → Int32 → Option (Int32 × Int32)
  | 0, _, _, _, _, _ => none
  | n + 1, M, t1, x2, x3, x4 =>
    if (M.1 1 8) ≤ x4 then
      some (x2, x4)
    else
      (mi_X2_lackOf M t1 x3 x4).bind fun q3 =>
      ((if q3 ≤ 0 then
        some 0
      else
        some 1) : Option (Int32)).bind fun q5 =>
      mi_X2_lackingTwos_20 n M t1 (x2 + q5) x3 (x4 + 1)

set_option maxHeartbeats 4000000 in
set_option maxRecDepth 100000 in
theorem lp_X2_lackingTwos_20 {l : Launch} {D : va_G} {ac : Nat → ClassId} {n0 : Nat} {r : ab_Rs} : ∀ (n : Nat) (M : ab_M) (t1 : Nat) (ht1 : ab_isPlan t1) (x2 : Int32) (x3 : Int32) (x4 : Int32) (q : Int32 × Int32) (h : mi_X2_lackingTwos_20 n M t1 x2 x3 x4 = some q) (kk : ab_Ev l D ac 5 me_X2_lackingTwos n0 0 0 r 0 0 ab_SH 57 [some (.ref 24), some (.ref t1), some (.int q.1), some (.int x3), some (.int q.2)] [] M), ab_Ev l D ac 5 me_X2_lackingTwos n0 0 0 r 0 0 ab_SH 20 [some (.ref 24), some (.ref t1), some (.int x2), some (.int x3), some (.int x4)] [] M := by
  intro n
  induction n with
  | zero =>
    intro M t1 ht1 x2 x3 x4 q h kk
    cases h
  | succ n ih =>
    intro M t1 ht1 x2 x3 x4 q h kk
    unfold mi_X2_lackingTwos_20 at h
    refine ev_iload dX2_lackingTwos_20 rfl ?_
    refine ev_aload_n dX2_lackingTwos_22 rfl ?_
    refine ev_getr (o' := 1) fl_RX2_15 sh_24 (by decide) (by decide) rfl rfl dX2_lackingTwos_23 ?_
    refine ev_geti fl_RX2_19 sh_1 (by decide) (by decide) rfl dX2_lackingTwos_26 ?_
    refine ev_icmp_ge (t := 57) dX2_lackingTwos_29 (by decide) (fun hc2 => ?_) (fun hc2 => ?_)
    · replace h := ab_pos hc2 h
      cases h
      exact kk
    · replace h := ab_neg hc2 h
      refine ev_iload_n dX2_lackingTwos_32 rfl ?_
      refine ev_aload_n dX2_lackingTwos_33 rfl ?_
      refine ev_aload_n dX2_lackingTwos_34 rfl ?_
      refine ev_iload_n dX2_lackingTwos_35 rfl ?_
      refine ev_iload dX2_lackingTwos_36 rfl ?_
      obtain ⟨q3, hv4, h⟩ := ab_bind h
      refine ev_callV (st := [.int x2]) (co_X2_lackOf M t1 ht1 x3 x4 _ hv4) mv_X2_lackOf sh_24 ml_RX2_60 dX2_lackingTwos_38 (by decide) rfl (Nat.le_of_ble_eq_true rfl) ⟨Nat.le_refl _, Nat.le_refl _⟩ ?_
      obtain ⟨q5, hq6, h⟩ := ab_bind h
      have hJ7 : ab_Ev l D ac 5 me_X2_lackingTwos n0 0 0 r 0 0 ab_SH 49 [some (.ref 24), some (.ref t1), some (.int x2), some (.int x3), some (.int x4)] [.int q5, .int x2] M := by
        refine ev_iadd dX2_lackingTwos_49 ?_
        refine ev_istore_n dX2_lackingTwos_50 (Nat.le_of_ble_eq_true rfl) rfl rfl ?_
        refine ev_iinc (y := x4 + 1) dX2_lackingTwos_51 rfl (by first | rfl | decide) rfl rfl ?_
        refine ev_goto (t := 20) dX2_lackingTwos_54 (by decide) ?_
        exact ih M t1 ht1 (x2 + q5) x3 (x4 + 1) _ h kk
      refine ev_if_le (t := 48) dX2_lackingTwos_41 (by decide) (fun hc8 => ?_) (fun hc8 => ?_)
      · replace hq6 := ab_pos hc8 hq6
        refine ev_iconst (x := 0) dX2_lackingTwos_48 (by decide) ?_
        cases hq6
        exact hJ7
      · replace hq6 := ab_neg hc8 hq6
        refine ev_iconst (x := 1) dX2_lackingTwos_44 (by decide) ?_
        refine ev_goto (t := 49) dX2_lackingTwos_45 (by decide) ?_
        cases hq6
        exact hJ7

noncomputable def mi_X2_lackingTwos_4 : Nat → ab_M → Nat → Int32 → Int32 → Option (Int32 × Int32)
  | 0, _, _, _, _ => none
  | n + 1, M, t1, x2, x3 =>
    if (M.1 1 8) ≤ x3 then
      some (x2, x3)
    else
      (mi_X2_lackingTwos_20 ab_F M t1 x2 x3 (x3 + 1)).bind fun q9 =>
      mi_X2_lackingTwos_4 n M t1 q9.1 (x3 + 1)

set_option maxHeartbeats 4000000 in
set_option maxRecDepth 100000 in
theorem lp_X2_lackingTwos_4 {l : Launch} {D : va_G} {ac : Nat → ClassId} {n0 : Nat} {r : ab_Rs} : ∀ (n : Nat) (M : ab_M) (t1 : Nat) (ht1 : ab_isPlan t1) (x2 : Int32) (x3 : Int32) (q : Int32 × Int32) (h : mi_X2_lackingTwos_4 n M t1 x2 x3 = some q) (kk : ab_Ev l D ac 5 me_X2_lackingTwos n0 0 0 r 0 0 ab_SH 63 [some (.ref 24), some (.ref t1), some (.int q.1), some (.int q.2), none] [] M), ab_Ev l D ac 5 me_X2_lackingTwos n0 0 0 r 0 0 ab_SH 4 [some (.ref 24), some (.ref t1), some (.int x2), some (.int x3), none] [] M := by
  intro n
  induction n with
  | zero =>
    intro M t1 ht1 x2 x3 q h kk
    cases h
  | succ n ih =>
    intro M t1 ht1 x2 x3 q h kk
    unfold mi_X2_lackingTwos_4 at h
    refine ev_iload_n dX2_lackingTwos_4 rfl ?_
    refine ev_aload_n dX2_lackingTwos_5 rfl ?_
    refine ev_getr (o' := 1) fl_RX2_15 sh_24 (by decide) (by decide) rfl rfl dX2_lackingTwos_6 ?_
    refine ev_geti fl_RX2_19 sh_1 (by decide) (by decide) rfl dX2_lackingTwos_9 ?_
    refine ev_icmp_ge (t := 63) dX2_lackingTwos_12 (by decide) (fun hc1 => ?_) (fun hc1 => ?_)
    · replace h := ab_pos hc1 h
      cases h
      exact kk
    · replace h := ab_neg hc1 h
      refine ev_iload_n dX2_lackingTwos_15 rfl ?_
      refine ev_iconst (x := 1) dX2_lackingTwos_16 (by decide) ?_
      refine ev_iadd dX2_lackingTwos_17 ?_
      refine ev_istore dX2_lackingTwos_18 (Nat.le_of_ble_eq_true rfl) rfl rfl ?_
      obtain ⟨q9, hq10, h⟩ := ab_bind h
      refine lp_X2_lackingTwos_20 _ M t1 ht1 x2 x3 (x3 + 1) _ hq10 ?_
      refine ev_iinc (y := x3 + 1) dX2_lackingTwos_57 rfl (by first | rfl | decide) rfl rfl ?_
      refine ev_goto (t := 4) dX2_lackingTwos_60 (by decide) ?_
      refine ev_drop (lv' := [some (.ref 24), some (.ref t1), some (.int q9.1), some (.int (x3 + 1)), none]) (ab_sub_k (ab_sub_k (ab_sub_k (ab_sub_k (ab_sub_d ab_sub_nil))))) ?_
      exact ih M t1 ht1 q9.1 (x3 + 1) _ h kk

noncomputable def mi_X2_lackingTwos (M : ab_M) (t1 : Nat) : Option (Int32) :=
  (mi_X2_lackingTwos_4 ab_F M t1 0 0).bind fun q11 =>
  some q11.1

set_option maxHeartbeats 4000000 in
set_option maxRecDepth 100000 in
theorem co_X2_lackingTwos {l : Launch} {D : va_G} {ac : Nat → ClassId} (M : ab_M) (t1 : Nat) (ht1 : ab_isPlan t1) (z : Int32) (h : mi_X2_lackingTwos M t1 = some z) : ab_Con l D ac 5 me_X2_lackingTwos 0 0 [.ref 24, .ref t1] ab_SH M (some (.int z), ab_SH, M) := by
  refine ab_intro (lv := [some (.ref 24), some (.ref t1), none, none, none]) (by decide) rfl (Nat.le_of_ble_eq_true rfl) rfl ?_
  unfold mi_X2_lackingTwos at h
  refine ev_iconst (x := 0) dX2_lackingTwos_0 (by decide) ?_
  refine ev_istore_n dX2_lackingTwos_1 (Nat.le_of_ble_eq_true rfl) rfl rfl ?_
  refine ev_iconst (x := 0) dX2_lackingTwos_2 (by decide) ?_
  refine ev_istore_n dX2_lackingTwos_3 (Nat.le_of_ble_eq_true rfl) rfl rfl ?_
  obtain ⟨q11, hq12, h⟩ := ab_bind h
  refine lp_X2_lackingTwos_4 _ M t1 ht1 0 0 _ hq12 ?_
  refine ev_iload_n dX2_lackingTwos_63 rfl ?_
  cases h
  exact ev_ireturn rfl dX2_lackingTwos_64

noncomputable def mi_X2_tooNear_24 : Nat → ab_M → Nat → Int32 → Int32 → Int64 → Int32 → Int32 → Option (Int64 × Int32)
  | 0, _, _, _, _, _, _, _ => none
  | n + 1, M, t1, x2, x3, x4, x6, x7 =>
    ab_chk (vp_in x2 16) <|
    if ((M.1 t1 (x2).toNatClampNeg) + x6) < x7 then
      some (x4, x7)
    else
      (some (x4 ||| ((ab_lshl 1 (x7 + x3)) - (ab_lshl 1 (ab_max 0 ((x7 - x3) + 1))))) : Option Int64).bind fun v7 =>
      mi_X2_tooNear_24 n M t1 x2 x3 v7 x6 (x7 + (ab_max 1 x6))

set_option maxHeartbeats 4000000 in
set_option maxRecDepth 100000 in
theorem lp_X2_tooNear_24 {l : Launch} {D : va_G} {ac : Nat → ClassId} {n0 : Nat} {r : ab_Rs} : ∀ (n : Nat) (M : ab_M) (t1 : Nat) (ht1 : ab_isPlan t1) (x2 : Int32) (x3 : Int32) (x4 : Int64) (x6 : Int32) (x7 : Int32) (q : Int64 × Int32) (h : mi_X2_tooNear_24 n M t1 x2 x3 x4 x6 x7 = some q) (kk : ab_Ev l D ac 2 me_X2_tooNear n0 0 0 r 0 0 ab_SH 77 [some (.ref 24), some (.ref t1), some (.int x2), some (.int x3), some (.long q.1), none, some (.int x6), some (.int q.2), none] [] M), ab_Ev l D ac 2 me_X2_tooNear n0 0 0 r 0 0 ab_SH 24 [some (.ref 24), some (.ref t1), some (.int x2), some (.int x3), some (.long x4), none, some (.int x6), some (.int x7), none] [] M := by
  intro n
  induction n with
  | zero =>
    intro M t1 ht1 x2 x3 x4 x6 x7 q h kk
    cases h
  | succ n ih =>
    intro M t1 ht1 x2 x3 x4 x6 x7 q h kk
    unfold mi_X2_tooNear_24 at h
    refine ev_iload dX2_tooNear_24 rfl ?_
    refine ev_aload_n dX2_tooNear_26 rfl ?_
    refine ev_iload_n dX2_tooNear_27 rfl ?_
    obtain ⟨hb5, h⟩ := ab_chk_some h
    refine ev_iaload ht1 hb5 dX2_tooNear_28 ?_
    refine ev_iload dX2_tooNear_29 rfl ?_
    refine ev_iadd dX2_tooNear_31 ?_
    refine ev_icmp_gt (t := 77) dX2_tooNear_32 (by decide) (fun hc6 => ?_) (fun hc6 => ?_)
    · replace h := ab_pos hc6 h
      cases h
      exact kk
    · replace h := ab_neg hc6 h
      refine ev_iconst (x := 0) dX2_tooNear_35 (by decide) ?_
      refine ev_iload dX2_tooNear_36 rfl ?_
      refine ev_iload_n dX2_tooNear_38 rfl ?_
      refine ev_isub dX2_tooNear_39 ?_
      refine ev_iconst (x := 1) dX2_tooNear_40 (by decide) ?_
      refine ev_iadd dX2_tooNear_41 ?_
      refine ev_max ml_RX2_57 dX2_tooNear_42 (by decide) (Nat.le_of_ble_eq_true rfl) ⟨Nat.le_refl _, Nat.le_refl _⟩ ?_
      refine ev_istore dX2_tooNear_45 (Nat.le_of_ble_eq_true rfl) rfl rfl ?_
      refine ev_lload dX2_tooNear_47 rfl ?_
      refine ev_lconst (x := 1) dX2_tooNear_49 (by decide) ?_
      refine ev_iload dX2_tooNear_50 rfl ?_
      refine ev_iload_n dX2_tooNear_52 rfl ?_
      refine ev_iadd dX2_tooNear_53 ?_
      refine ev_lshl dX2_tooNear_54 ?_
      refine ev_lconst (x := 1) dX2_tooNear_55 (by decide) ?_
      refine ev_iload dX2_tooNear_56 rfl ?_
      refine ev_lshl dX2_tooNear_58 ?_
      refine ev_lsub dX2_tooNear_59 ?_
      refine ev_lor dX2_tooNear_60 ?_
      obtain ⟨v7, hq8, h⟩ := ab_bind h
      refine ev_nml (Option.some.inj hq8) ?_
      refine ev_lstore (x := v7) dX2_tooNear_61 (Nat.le_of_ble_eq_true rfl) rfl rfl ?_
      refine ev_iload dX2_tooNear_63 rfl ?_
      refine ev_iconst (x := 1) dX2_tooNear_65 (by decide) ?_
      refine ev_iload dX2_tooNear_66 rfl ?_
      refine ev_max ml_RX2_57 dX2_tooNear_68 (by decide) (Nat.le_of_ble_eq_true rfl) ⟨Nat.le_refl _, Nat.le_refl _⟩ ?_
      refine ev_iadd dX2_tooNear_71 ?_
      refine ev_istore dX2_tooNear_72 (Nat.le_of_ble_eq_true rfl) rfl rfl ?_
      refine ev_goto (t := 24) dX2_tooNear_74 (by decide) ?_
      refine ev_drop (lv' := [some (.ref 24), some (.ref t1), some (.int x2), some (.int x3), some (.long v7), none, some (.int x6), some (.int (x7 + (ab_max 1 x6))), none]) (ab_sub_k (ab_sub_k (ab_sub_k (ab_sub_k (ab_sub_k (ab_sub_k (ab_sub_k (ab_sub_k (ab_sub_d ab_sub_nil))))))))) ?_
      exact ih M t1 ht1 x2 x3 v7 x6 (x7 + (ab_max 1 x6)) _ h kk

noncomputable def mi_X2_tooNear (M : ab_M) (t1 : Nat) (x2 : Int32) (x3 : Int32) : Option (Int64) :=
  if x3 = 0 then
    some 0
  else
    (mi_X3_gapOf M x2).bind fun q2 =>
    ab_chk (vp_in x2 16) <|
    (mi_X2_tooNear_24 ab_F M t1 x2 x3 0 q2 (M.1 t1 (x2).toNatClampNeg)).bind fun q9 =>
    some q9.1

set_option maxHeartbeats 4000000 in
set_option maxRecDepth 100000 in
theorem co_X2_tooNear {l : Launch} {D : va_G} {ac : Nat → ClassId} (M : ab_M) (t1 : Nat) (ht1 : ab_isPlan t1) (x2 : Int32) (x3 : Int32) (z : Int64) (h : mi_X2_tooNear M t1 x2 x3 = some z) : ab_Con l D ac 2 me_X2_tooNear 0 0 [.ref 24, .ref t1, .int x2, .int x3] ab_SH M (some (.long z), ab_SH, M) := by
  refine ab_intro (lv := [some (.ref 24), some (.ref t1), some (.int x2), some (.int x3), none, none, none, none, none]) (by decide) rfl (Nat.le_of_ble_eq_true rfl) rfl ?_
  unfold mi_X2_tooNear at h
  refine ev_iload_n dX2_tooNear_0 rfl ?_
  refine ev_if_ne (t := 6) dX2_tooNear_1 (by decide) (fun hc1 => ?_) (fun hc1 => ?_)
  · replace h := ab_neg hc1 h
    refine ev_lconst (x := 0) dX2_tooNear_6 (by decide) ?_
    refine ev_lstore dX2_tooNear_7 (Nat.le_of_ble_eq_true rfl) rfl rfl ?_
    refine ev_aload_n dX2_tooNear_9 rfl ?_
    refine ev_getr (o' := 1) fl_RX2_15 sh_24 (by decide) (by decide) rfl rfl dX2_tooNear_10 ?_
    refine ev_iload_n dX2_tooNear_13 rfl ?_
    obtain ⟨q2, hv3, h⟩ := ab_bind h
    refine ev_callV (st := []) (co_X3_gapOf M x2 _ hv3) mv_X3_gapOf sh_1 ml_RX2_49 dX2_tooNear_14 (by decide) rfl (Nat.le_of_ble_eq_true rfl) ⟨Nat.le_refl _, Nat.le_refl _⟩ ?_
    refine ev_istore dX2_tooNear_17 (Nat.le_of_ble_eq_true rfl) rfl rfl ?_
    refine ev_aload_n dX2_tooNear_19 rfl ?_
    refine ev_iload_n dX2_tooNear_20 rfl ?_
    obtain ⟨hb4, h⟩ := ab_chk_some h
    refine ev_iaload ht1 hb4 dX2_tooNear_21 ?_
    refine ev_istore dX2_tooNear_22 (Nat.le_of_ble_eq_true rfl) rfl rfl ?_
    obtain ⟨q9, hq10, h⟩ := ab_bind h
    refine lp_X2_tooNear_24 _ M t1 ht1 x2 x3 0 q2 (M.1 t1 (x2).toNatClampNeg) _ hq10 ?_
    refine ev_lload dX2_tooNear_77 rfl ?_
    cases h
    exact ev_lreturn rfl dX2_tooNear_79
  · replace h := ab_pos hc1 h
    refine ev_lconst (x := 0) dX2_tooNear_4 (by decide) ?_
    cases h
    exact ev_lreturn rfl dX2_tooNear_5

noncomputable def mi_X2_sumMates (M : ab_M) (t1 : Nat) (x2 : Int32) (x3 : Int32) (x4 : Int32) : Option (Int32) :=
  ab_chk (vp_in x3 16) <|
  if (M.1 t1 (x3).toNatClampNeg) < 0 then
    some 0
  else
    ab_chk (vp_in x2 16) <|
    ab_chk (vp_in x3 16) <|
    ab_chk (vp_in x4 16) <|
    (mi_X3_areIn M (M.1 3 (x2).toNatClampNeg) (M.1 3 (x3).toNatClampNeg) (M.1 3 (x4).toNatClampNeg)).bind fun q6 =>
    if q6 = 0 then
      some 0
    else
      some 1

set_option maxHeartbeats 4000000 in
set_option maxRecDepth 100000 in
theorem co_X2_sumMates {l : Launch} {D : va_G} {ac : Nat → ClassId} (M : ab_M) (t1 : Nat) (ht1 : ab_isPlan t1) (x2 : Int32) (x3 : Int32) (x4 : Int32) (z : Int32) (h : mi_X2_sumMates M t1 x2 x3 x4 = some z) : ab_Con l D ac 2 me_X2_sumMates 0 0 [.ref 24, .ref t1, .int x2, .int x3, .int x4] ab_SH M (some (.int z), ab_SH, M) := by
  refine ab_intro (lv := [some (.ref 24), some (.ref t1), some (.int x2), some (.int x3), some (.int x4)]) (by decide) rfl (Nat.le_of_ble_eq_true rfl) rfl ?_
  unfold mi_X2_sumMates at h
  refine ev_aload_n dX2_sumMates_0 rfl ?_
  refine ev_iload_n dX2_sumMates_1 rfl ?_
  obtain ⟨hb1, h⟩ := ab_chk_some h
  refine ev_iaload ht1 hb1 dX2_sumMates_2 ?_
  refine ev_if_lt (t := 48) dX2_sumMates_3 (by decide) (fun hc2 => ?_) (fun hc2 => ?_)
  · replace h := ab_pos hc2 h
    refine ev_iconst (x := 0) dX2_sumMates_48 (by decide) ?_
    cases h
    exact ev_zreturn rfl (Or.inl rfl) dX2_sumMates_49
  · replace h := ab_neg hc2 h
    refine ev_aload_n dX2_sumMates_6 rfl ?_
    refine ev_getr (o' := 1) fl_RX2_15 sh_24 (by decide) (by decide) rfl rfl dX2_sumMates_7 ?_
    refine ev_aload_n dX2_sumMates_10 rfl ?_
    refine ev_getr (o' := 1) fl_RX2_15 sh_24 (by decide) (by decide) rfl rfl dX2_sumMates_11 ?_
    refine ev_getr (o' := 3) fl_RX2_72 sh_1 (by decide) (by decide) rfl rfl dX2_sumMates_14 ?_
    refine ev_iload_n dX2_sumMates_17 rfl ?_
    obtain ⟨hb3, h⟩ := ab_chk_some h
    refine ev_iaload sh_3 hb3 dX2_sumMates_18 ?_
    refine ev_aload_n dX2_sumMates_19 rfl ?_
    refine ev_getr (o' := 1) fl_RX2_15 sh_24 (by decide) (by decide) rfl rfl dX2_sumMates_20 ?_
    refine ev_getr (o' := 3) fl_RX2_72 sh_1 (by decide) (by decide) rfl rfl dX2_sumMates_23 ?_
    refine ev_iload_n dX2_sumMates_26 rfl ?_
    obtain ⟨hb4, h⟩ := ab_chk_some h
    refine ev_iaload sh_3 hb4 dX2_sumMates_27 ?_
    refine ev_aload_n dX2_sumMates_28 rfl ?_
    refine ev_getr (o' := 1) fl_RX2_15 sh_24 (by decide) (by decide) rfl rfl dX2_sumMates_29 ?_
    refine ev_getr (o' := 3) fl_RX2_72 sh_1 (by decide) (by decide) rfl rfl dX2_sumMates_32 ?_
    refine ev_iload dX2_sumMates_35 rfl ?_
    obtain ⟨hb5, h⟩ := ab_chk_some h
    refine ev_iaload sh_3 hb5 dX2_sumMates_37 ?_
    obtain ⟨q6, hv7, h⟩ := ab_bind h
    refine ev_callV (st := []) (co_X3_areIn M (M.1 3 (x2).toNatClampNeg) (M.1 3 (x3).toNatClampNeg) (M.1 3 (x4).toNatClampNeg) _ hv7) mv_X3_areIn sh_1 ml_RX2_75 dX2_sumMates_38 (by decide) rfl (Nat.le_of_ble_eq_true rfl) ⟨Nat.le_refl _, Nat.le_refl _⟩ ?_
    refine ev_if_eq (t := 48) dX2_sumMates_41 (by decide) (fun hc8 => ?_) (fun hc8 => ?_)
    · replace h := ab_pos hc8 h
      refine ev_iconst (x := 0) dX2_sumMates_48 (by decide) ?_
      cases h
      exact ev_zreturn rfl (Or.inl rfl) dX2_sumMates_49
    · replace h := ab_neg hc8 h
      refine ev_iconst (x := 1) dX2_sumMates_44 (by decide) ?_
      refine ev_goto (t := 49) dX2_sumMates_45 (by decide) ?_
      cases h
      exact ev_zreturn rfl (Or.inr rfl) dX2_sumMates_49

noncomputable def mi_X2_bitOf (M : ab_M) (x0 : Int32) : Option (Int64) :=
  if x0 < 0 then
    some 0
  else
    if 39 < x0 then
      some 0
    else
      some (ab_lshl 1 x0)

set_option maxHeartbeats 4000000 in
set_option maxRecDepth 100000 in
theorem co_X2_bitOf {l : Launch} {D : va_G} {ac : Nat → ClassId} (M : ab_M) (x0 : Int32) (z : Int64) (h : mi_X2_bitOf M x0 = some z) : ab_Con l D ac 1 me_X2_bitOf 0 0 [.int x0] ab_SH M (some (.long z), ab_SH, M) := by
  refine ab_intro (lv := [some (.int x0)]) (by decide) rfl (Nat.le_of_ble_eq_true rfl) rfl ?_
  unfold mi_X2_bitOf at h
  refine ev_iload_n dX2_bitOf_0 rfl ?_
  refine ev_if_lt (t := 16) dX2_bitOf_1 (by decide) (fun hc1 => ?_) (fun hc1 => ?_)
  · replace h := ab_pos hc1 h
    refine ev_lconst (x := 0) dX2_bitOf_16 (by decide) ?_
    cases h
    exact ev_lreturn rfl dX2_bitOf_17
  · replace h := ab_neg hc1 h
    refine ev_iload_n dX2_bitOf_4 rfl ?_
    refine ev_bipush (x := 39) dX2_bitOf_5 (by decide) ?_
    refine ev_icmp_gt (t := 16) dX2_bitOf_7 (by decide) (fun hc2 => ?_) (fun hc2 => ?_)
    · replace h := ab_pos hc2 h
      refine ev_lconst (x := 0) dX2_bitOf_16 (by decide) ?_
      cases h
      exact ev_lreturn rfl dX2_bitOf_17
    · replace h := ab_neg hc2 h
      refine ev_lconst (x := 1) dX2_bitOf_10 (by decide) ?_
      refine ev_iload_n dX2_bitOf_11 rfl ?_
      refine ev_lshl dX2_bitOf_12 ?_
      refine ev_goto (t := 17) dX2_bitOf_13 (by decide) ?_
      cases h
      exact ev_lreturn rfl dX2_bitOf_17

noncomputable def mi_X2_sumTargets_44 : Nat → ab_M → Nat → Int32 → Int32 → Int64 → Int32 → Int32 → Int32 → Int32 → Option (Int64 × Int32)
  | 0, _, _, _, _, _, _, _, _, _ => none
  | n + 1, M, t1, x2, x3, x4, x6, x7, x8, x9 =>
    ab_chk (vp_in x3 16) <|
    if ((M.1 t1 (x3).toNatClampNeg) + x7) < x9 then
      some (x4, x9)
    else
      (mi_X2_bitOf M ((2 * x8) - x9)).bind fun q11 =>
      (mi_X2_bitOf M ((2 * x9) - x8)).bind fun q13 =>
      ((if (ab_rem (x8 + x9) 2) = 0 then
        (mi_X2_bitOf M ((x8 + x9) / 2)).bind fun q19 =>
        some q19
      else
        some 0) : Option (Int64)).bind fun q15 =>
      mi_X2_sumTargets_44 n M t1 x2 x3 ((x4 ||| (q11 ||| q13)) ||| q15) x6 x7 x8 (x9 + (ab_max 1 x7))

set_option maxHeartbeats 4000000 in
set_option maxRecDepth 100000 in
theorem lp_X2_sumTargets_44 {l : Launch} {D : va_G} {ac : Nat → ClassId} {n0 : Nat} {r : ab_Rs} : ∀ (n : Nat) (M : ab_M) (t1 : Nat) (ht1 : ab_isPlan t1) (x2 : Int32) (x3 : Int32) (x4 : Int64) (x6 : Int32) (x7 : Int32) (x8 : Int32) (x9 : Int32) (q : Int64 × Int32) (h : mi_X2_sumTargets_44 n M t1 x2 x3 x4 x6 x7 x8 x9 = some q) (kk : ab_Ev l D ac 2 me_X2_sumTargets n0 0 0 r 0 0 ab_SH 124 [some (.ref 24), some (.ref t1), some (.int x2), some (.int x3), some (.long q.1), none, some (.int x6), some (.int x7), some (.int x8), some (.int q.2)] [] M), ab_Ev l D ac 2 me_X2_sumTargets n0 0 0 r 0 0 ab_SH 44 [some (.ref 24), some (.ref t1), some (.int x2), some (.int x3), some (.long x4), none, some (.int x6), some (.int x7), some (.int x8), some (.int x9)] [] M := by
  intro n
  induction n with
  | zero =>
    intro M t1 ht1 x2 x3 x4 x6 x7 x8 x9 q h kk
    cases h
  | succ n ih =>
    intro M t1 ht1 x2 x3 x4 x6 x7 x8 x9 q h kk
    unfold mi_X2_sumTargets_44 at h
    refine ev_iload dX2_sumTargets_44 rfl ?_
    refine ev_aload_n dX2_sumTargets_46 rfl ?_
    refine ev_iload_n dX2_sumTargets_47 rfl ?_
    obtain ⟨hb9, h⟩ := ab_chk_some h
    refine ev_iaload ht1 hb9 dX2_sumTargets_48 ?_
    refine ev_iload dX2_sumTargets_49 rfl ?_
    refine ev_iadd dX2_sumTargets_51 ?_
    refine ev_icmp_gt (t := 124) dX2_sumTargets_52 (by decide) (fun hc10 => ?_) (fun hc10 => ?_)
    · replace h := ab_pos hc10 h
      cases h
      exact kk
    · replace h := ab_neg hc10 h
      refine ev_lload dX2_sumTargets_55 rfl ?_
      refine ev_iconst (x := 2) dX2_sumTargets_57 (by decide) ?_
      refine ev_iload dX2_sumTargets_58 rfl ?_
      refine ev_imul dX2_sumTargets_60 ?_
      refine ev_iload dX2_sumTargets_61 rfl ?_
      refine ev_isub dX2_sumTargets_63 ?_
      obtain ⟨q11, hv12, h⟩ := ab_bind h
      refine ev_callS (st := [.long x4]) (co_X2_bitOf M ((2 * x8) - x9) _ hv12) mv_X2_bitOf ml_RX2_97 dX2_sumTargets_64 (by decide) rfl (Nat.le_of_ble_eq_true rfl) ⟨Nat.le_refl _, Nat.le_refl _⟩ ?_
      refine ev_iconst (x := 2) dX2_sumTargets_67 (by decide) ?_
      refine ev_iload dX2_sumTargets_68 rfl ?_
      refine ev_imul dX2_sumTargets_70 ?_
      refine ev_iload dX2_sumTargets_71 rfl ?_
      refine ev_isub dX2_sumTargets_73 ?_
      obtain ⟨q13, hv14, h⟩ := ab_bind h
      refine ev_callS (st := [.long q11, .long x4]) (co_X2_bitOf M ((2 * x9) - x8) _ hv14) mv_X2_bitOf ml_RX2_97 dX2_sumTargets_74 (by decide) rfl (Nat.le_of_ble_eq_true rfl) ⟨Nat.le_refl _, Nat.le_refl _⟩ ?_
      refine ev_lor dX2_sumTargets_77 ?_
      refine ev_lor dX2_sumTargets_78 ?_
      refine ev_lstore dX2_sumTargets_79 (Nat.le_of_ble_eq_true rfl) rfl rfl ?_
      refine ev_lload dX2_sumTargets_81 rfl ?_
      refine ev_iload dX2_sumTargets_83 rfl ?_
      refine ev_iload dX2_sumTargets_85 rfl ?_
      refine ev_iadd dX2_sumTargets_87 ?_
      refine ev_iconst (x := 2) dX2_sumTargets_88 (by decide) ?_
      refine ev_irem dX2_sumTargets_89 (by decide) ?_
      obtain ⟨q15, hq16, h⟩ := ab_bind h
      have hJ17 : ab_Ev l D ac 2 me_X2_sumTargets n0 0 0 r 0 0 ab_SH 107 [some (.ref 24), some (.ref t1), some (.int x2), some (.int x3), some (.long (x4 ||| (q11 ||| q13))), none, some (.int x6), some (.int x7), some (.int x8), some (.int x9)] [.long q15, .long (x4 ||| (q11 ||| q13))] M := by
        refine ev_lor dX2_sumTargets_107 ?_
        refine ev_lstore dX2_sumTargets_108 (Nat.le_of_ble_eq_true rfl) rfl rfl ?_
        refine ev_iload dX2_sumTargets_110 rfl ?_
        refine ev_iconst (x := 1) dX2_sumTargets_112 (by decide) ?_
        refine ev_iload dX2_sumTargets_113 rfl ?_
        refine ev_max ml_RX2_57 dX2_sumTargets_115 (by decide) (Nat.le_of_ble_eq_true rfl) ⟨Nat.le_refl _, Nat.le_refl _⟩ ?_
        refine ev_iadd dX2_sumTargets_118 ?_
        refine ev_istore dX2_sumTargets_119 (Nat.le_of_ble_eq_true rfl) rfl rfl ?_
        refine ev_goto (t := 44) dX2_sumTargets_121 (by decide) ?_
        exact ih M t1 ht1 x2 x3 ((x4 ||| (q11 ||| q13)) ||| q15) x6 x7 x8 (x9 + (ab_max 1 x7)) _ h kk
      refine ev_if_ne (t := 106) dX2_sumTargets_90 (by decide) (fun hc18 => ?_) (fun hc18 => ?_)
      · replace hq16 := ab_neg hc18 hq16
        refine ev_lconst (x := 0) dX2_sumTargets_106 (by decide) ?_
        cases hq16
        exact hJ17
      · replace hq16 := ab_pos hc18 hq16
        refine ev_iload dX2_sumTargets_93 rfl ?_
        refine ev_iload dX2_sumTargets_95 rfl ?_
        refine ev_iadd dX2_sumTargets_97 ?_
        refine ev_iconst (x := 2) dX2_sumTargets_98 (by decide) ?_
        refine ev_idiv dX2_sumTargets_99 (by decide) ?_
        obtain ⟨q19, hv20, hq16⟩ := ab_bind hq16
        refine ev_callS (st := [.long (x4 ||| (q11 ||| q13))]) (co_X2_bitOf M ((x8 + x9) / 2) _ hv20) mv_X2_bitOf ml_RX2_97 dX2_sumTargets_100 (by decide) rfl (Nat.le_of_ble_eq_true rfl) ⟨Nat.le_refl _, Nat.le_refl _⟩ ?_
        refine ev_goto (t := 107) dX2_sumTargets_103 (by decide) ?_
        cases hq16
        exact hJ17

noncomputable def mi_X2_sumTargets_28 : Nat → ab_M → Nat → Int32 → Int32 → Int64 → Int32 → Int32 → Int32 → Option (Int64 × Int32)
  | 0, _, _, _, _, _, _, _, _ => none
  | n + 1, M, t1, x2, x3, x4, x6, x7, x8 =>
    ab_chk (vp_in x2 16) <|
    if ((M.1 t1 (x2).toNatClampNeg) + x6) < x8 then
      some (x4, x8)
    else
      ab_chk (vp_in x3 16) <|
      (mi_X2_sumTargets_44 ab_F M t1 x2 x3 x4 x6 x7 x8 (M.1 t1 (x3).toNatClampNeg)).bind fun q21 =>
      mi_X2_sumTargets_28 n M t1 x2 x3 q21.1 x6 x7 (x8 + (ab_max 1 x6))

set_option maxHeartbeats 4000000 in
set_option maxRecDepth 100000 in
theorem lp_X2_sumTargets_28 {l : Launch} {D : va_G} {ac : Nat → ClassId} {n0 : Nat} {r : ab_Rs} : ∀ (n : Nat) (M : ab_M) (t1 : Nat) (ht1 : ab_isPlan t1) (x2 : Int32) (x3 : Int32) (x4 : Int64) (x6 : Int32) (x7 : Int32) (x8 : Int32) (q : Int64 × Int32) (h : mi_X2_sumTargets_28 n M t1 x2 x3 x4 x6 x7 x8 = some q) (kk : ab_Ev l D ac 2 me_X2_sumTargets n0 0 0 r 0 0 ab_SH 138 [some (.ref 24), some (.ref t1), some (.int x2), some (.int x3), some (.long q.1), none, some (.int x6), some (.int x7), some (.int q.2), none] [] M), ab_Ev l D ac 2 me_X2_sumTargets n0 0 0 r 0 0 ab_SH 28 [some (.ref 24), some (.ref t1), some (.int x2), some (.int x3), some (.long x4), none, some (.int x6), some (.int x7), some (.int x8), none] [] M := by
  intro n
  induction n with
  | zero =>
    intro M t1 ht1 x2 x3 x4 x6 x7 x8 q h kk
    cases h
  | succ n ih =>
    intro M t1 ht1 x2 x3 x4 x6 x7 x8 q h kk
    unfold mi_X2_sumTargets_28 at h
    refine ev_iload dX2_sumTargets_28 rfl ?_
    refine ev_aload_n dX2_sumTargets_30 rfl ?_
    refine ev_iload_n dX2_sumTargets_31 rfl ?_
    obtain ⟨hb6, h⟩ := ab_chk_some h
    refine ev_iaload ht1 hb6 dX2_sumTargets_32 ?_
    refine ev_iload dX2_sumTargets_33 rfl ?_
    refine ev_iadd dX2_sumTargets_35 ?_
    refine ev_icmp_gt (t := 138) dX2_sumTargets_36 (by decide) (fun hc7 => ?_) (fun hc7 => ?_)
    · replace h := ab_pos hc7 h
      cases h
      exact kk
    · replace h := ab_neg hc7 h
      refine ev_aload_n dX2_sumTargets_39 rfl ?_
      refine ev_iload_n dX2_sumTargets_40 rfl ?_
      obtain ⟨hb8, h⟩ := ab_chk_some h
      refine ev_iaload ht1 hb8 dX2_sumTargets_41 ?_
      refine ev_istore dX2_sumTargets_42 (Nat.le_of_ble_eq_true rfl) rfl rfl ?_
      obtain ⟨q21, hq22, h⟩ := ab_bind h
      refine lp_X2_sumTargets_44 _ M t1 ht1 x2 x3 x4 x6 x7 x8 (M.1 t1 (x3).toNatClampNeg) _ hq22 ?_
      refine ev_iload dX2_sumTargets_124 rfl ?_
      refine ev_iconst (x := 1) dX2_sumTargets_126 (by decide) ?_
      refine ev_iload dX2_sumTargets_127 rfl ?_
      refine ev_max ml_RX2_57 dX2_sumTargets_129 (by decide) (Nat.le_of_ble_eq_true rfl) ⟨Nat.le_refl _, Nat.le_refl _⟩ ?_
      refine ev_iadd dX2_sumTargets_132 ?_
      refine ev_istore dX2_sumTargets_133 (Nat.le_of_ble_eq_true rfl) rfl rfl ?_
      refine ev_goto (t := 28) dX2_sumTargets_135 (by decide) ?_
      refine ev_drop (lv' := [some (.ref 24), some (.ref t1), some (.int x2), some (.int x3), some (.long q21.1), none, some (.int x6), some (.int x7), some (.int (x8 + (ab_max 1 x6))), none]) (ab_sub_k (ab_sub_k (ab_sub_k (ab_sub_k (ab_sub_k (ab_sub_k (ab_sub_k (ab_sub_k (ab_sub_k (ab_sub_d ab_sub_nil)))))))))) ?_
      exact ih M t1 ht1 x2 x3 q21.1 x6 x7 (x8 + (ab_max 1 x6)) _ h kk

noncomputable def mi_X2_sumTargets (M : ab_M) (t1 : Nat) (x2 : Int32) (x3 : Int32) : Option (Int64) :=
  (mi_X3_gapOf M x2).bind fun q1 =>
  (mi_X3_gapOf M x3).bind fun q3 =>
  ab_chk (vp_in x2 16) <|
  (mi_X2_sumTargets_28 ab_F M t1 x2 x3 0 q1 q3 (M.1 t1 (x2).toNatClampNeg)).bind fun q23 =>
  some q23.1

set_option maxHeartbeats 4000000 in
set_option maxRecDepth 100000 in
theorem co_X2_sumTargets {l : Launch} {D : va_G} {ac : Nat → ClassId} (M : ab_M) (t1 : Nat) (ht1 : ab_isPlan t1) (x2 : Int32) (x3 : Int32) (z : Int64) (h : mi_X2_sumTargets M t1 x2 x3 = some z) : ab_Con l D ac 2 me_X2_sumTargets 0 0 [.ref 24, .ref t1, .int x2, .int x3] ab_SH M (some (.long z), ab_SH, M) := by
  refine ab_intro (lv := [some (.ref 24), some (.ref t1), some (.int x2), some (.int x3), none, none, none, none, none, none]) (by decide) rfl (Nat.le_of_ble_eq_true rfl) rfl ?_
  unfold mi_X2_sumTargets at h
  refine ev_lconst (x := 0) dX2_sumTargets_0 (by decide) ?_
  refine ev_lstore dX2_sumTargets_1 (Nat.le_of_ble_eq_true rfl) rfl rfl ?_
  refine ev_aload_n dX2_sumTargets_3 rfl ?_
  refine ev_getr (o' := 1) fl_RX2_15 sh_24 (by decide) (by decide) rfl rfl dX2_sumTargets_4 ?_
  refine ev_iload_n dX2_sumTargets_7 rfl ?_
  obtain ⟨q1, hv2, h⟩ := ab_bind h
  refine ev_callV (st := []) (co_X3_gapOf M x2 _ hv2) mv_X3_gapOf sh_1 ml_RX2_49 dX2_sumTargets_8 (by decide) rfl (Nat.le_of_ble_eq_true rfl) ⟨Nat.le_refl _, Nat.le_refl _⟩ ?_
  refine ev_istore dX2_sumTargets_11 (Nat.le_of_ble_eq_true rfl) rfl rfl ?_
  refine ev_aload_n dX2_sumTargets_13 rfl ?_
  refine ev_getr (o' := 1) fl_RX2_15 sh_24 (by decide) (by decide) rfl rfl dX2_sumTargets_14 ?_
  refine ev_iload_n dX2_sumTargets_17 rfl ?_
  obtain ⟨q3, hv4, h⟩ := ab_bind h
  refine ev_callV (st := []) (co_X3_gapOf M x3 _ hv4) mv_X3_gapOf sh_1 ml_RX2_49 dX2_sumTargets_18 (by decide) rfl (Nat.le_of_ble_eq_true rfl) ⟨Nat.le_refl _, Nat.le_refl _⟩ ?_
  refine ev_istore dX2_sumTargets_21 (Nat.le_of_ble_eq_true rfl) rfl rfl ?_
  refine ev_aload_n dX2_sumTargets_23 rfl ?_
  refine ev_iload_n dX2_sumTargets_24 rfl ?_
  obtain ⟨hb5, h⟩ := ab_chk_some h
  refine ev_iaload ht1 hb5 dX2_sumTargets_25 ?_
  refine ev_istore dX2_sumTargets_26 (Nat.le_of_ble_eq_true rfl) rfl rfl ?_
  obtain ⟨q23, hq24, h⟩ := ab_bind h
  refine lp_X2_sumTargets_28 _ M t1 ht1 x2 x3 0 q1 q3 (M.1 t1 (x2).toNatClampNeg) _ hq24 ?_
  refine ev_lload dX2_sumTargets_138 rfl ?_
  cases h
  exact ev_lreturn rfl dX2_sumTargets_140

noncomputable def mi_X2_freeChannels_56 : Nat → ab_M → Nat → Int32 → Int32 → Int64 → Int32 → Int32 → Option (Int64 × Int32)
  | 0, _, _, _, _, _, _, _ => none
  | n + 1, M, t1, x2, x3, x4, x6, x7 =>
    if x3 ≤ x7 then
      some (x4, x7)
    else
      ((if x7 = x2 then
        some x4
      else
        (mi_X2_sumMates M t1 x6 x7 x2).bind fun q17 =>
        if q17 = 0 then
          some x4
        else
          (mi_X2_sumTargets M t1 x6 x7).bind fun q20 =>
          some (x4 ||| q20)) : Option (Int64)).bind fun q13 =>
      mi_X2_freeChannels_56 n M t1 x2 x3 q13 x6 (x7 + 1)

set_option maxHeartbeats 4000000 in
set_option maxRecDepth 100000 in
theorem lp_X2_freeChannels_56 {l : Launch} {D : va_G} {ac : Nat → ClassId} {n0 : Nat} {r : ab_Rs} : ∀ (n : Nat) (M : ab_M) (t1 : Nat) (ht1 : ab_isPlan t1) (x2 : Int32) (x3 : Int32) (x4 : Int64) (x6 : Int32) (x7 : Int32) (q : Int64 × Int32) (h : mi_X2_freeChannels_56 n M t1 x2 x3 x4 x6 x7 = some q) (kk : ab_Ev l D ac 4 me_X2_freeChannels n0 0 0 r 0 0 ab_SH 101 [some (.ref 24), some (.ref t1), some (.int x2), some (.int x3), some (.long q.1), none, some (.int x6), some (.int q.2)] [] M), ab_Ev l D ac 4 me_X2_freeChannels n0 0 0 r 0 0 ab_SH 56 [some (.ref 24), some (.ref t1), some (.int x2), some (.int x3), some (.long x4), none, some (.int x6), some (.int x7)] [] M := by
  intro n
  induction n with
  | zero =>
    intro M t1 ht1 x2 x3 x4 x6 x7 q h kk
    cases h
  | succ n ih =>
    intro M t1 ht1 x2 x3 x4 x6 x7 q h kk
    unfold mi_X2_freeChannels_56 at h
    refine ev_iload dX2_freeChannels_56 rfl ?_
    refine ev_iload_n dX2_freeChannels_58 rfl ?_
    refine ev_icmp_ge (t := 101) dX2_freeChannels_59 (by decide) (fun hc12 => ?_) (fun hc12 => ?_)
    · replace h := ab_pos hc12 h
      cases h
      exact kk
    · replace h := ab_neg hc12 h
      refine ev_iload dX2_freeChannels_62 rfl ?_
      refine ev_iload_n dX2_freeChannels_64 rfl ?_
      obtain ⟨q13, hq14, h⟩ := ab_bind h
      have hJ15 : ab_Ev l D ac 4 me_X2_freeChannels n0 0 0 r 0 0 ab_SH 95 [some (.ref 24), some (.ref t1), some (.int x2), some (.int x3), some (.long q13), none, some (.int x6), some (.int x7)] [] M := by
        refine ev_iinc (y := x7 + 1) dX2_freeChannels_95 rfl (by first | rfl | decide) rfl rfl ?_
        refine ev_goto (t := 56) dX2_freeChannels_98 (by decide) ?_
        exact ih M t1 ht1 x2 x3 q13 x6 (x7 + 1) _ h kk
      refine ev_icmp_eq (t := 95) dX2_freeChannels_65 (by decide) (fun hc16 => ?_) (fun hc16 => ?_)
      · replace hq14 := ab_pos hc16 hq14
        cases hq14
        exact hJ15
      · replace hq14 := ab_neg hc16 hq14
        refine ev_aload_n dX2_freeChannels_68 rfl ?_
        refine ev_aload_n dX2_freeChannels_69 rfl ?_
        refine ev_iload dX2_freeChannels_70 rfl ?_
        refine ev_iload dX2_freeChannels_72 rfl ?_
        refine ev_iload_n dX2_freeChannels_74 rfl ?_
        obtain ⟨q17, hv18, hq14⟩ := ab_bind hq14
        refine ev_callV (st := []) (co_X2_sumMates M t1 ht1 x6 x7 x2 _ hv18) mv_X2_sumMates sh_24 ml_RX2_89 dX2_freeChannels_75 (by decide) rfl (Nat.le_of_ble_eq_true rfl) ⟨Nat.le_refl _, Nat.le_refl _⟩ ?_
        refine ev_if_eq (t := 95) dX2_freeChannels_78 (by decide) (fun hc19 => ?_) (fun hc19 => ?_)
        · replace hq14 := ab_pos hc19 hq14
          cases hq14
          exact hJ15
        · replace hq14 := ab_neg hc19 hq14
          refine ev_lload dX2_freeChannels_81 rfl ?_
          refine ev_aload_n dX2_freeChannels_83 rfl ?_
          refine ev_aload_n dX2_freeChannels_84 rfl ?_
          refine ev_iload dX2_freeChannels_85 rfl ?_
          refine ev_iload dX2_freeChannels_87 rfl ?_
          obtain ⟨q20, hv21, hq14⟩ := ab_bind hq14
          refine ev_callV (st := [.long x4]) (co_X2_sumTargets M t1 ht1 x6 x7 _ hv21) mv_X2_sumTargets sh_24 ml_RX2_92 dX2_freeChannels_89 (by decide) rfl (Nat.le_of_ble_eq_true rfl) ⟨Nat.le_refl _, Nat.le_refl _⟩ ?_
          refine ev_lor dX2_freeChannels_92 ?_
          refine ev_lstore dX2_freeChannels_93 (Nat.le_of_ble_eq_true rfl) rfl rfl ?_
          cases hq14
          exact hJ15

noncomputable def mi_X2_freeChannels_6 : Nat → ab_M → Nat → Int32 → Int32 → Int64 → Int32 → Option (Int64 × Int32)
  | 0, _, _, _, _, _, _ => none
  | n + 1, M, t1, x2, x3, x4, x6 =>
    if x3 ≤ x6 then
      some (x4, x6)
    else
      ((if x6 = x2 then
        some x4
      else
        ab_chk (vp_in x6 16) <|
        if 0 ≤ (M.1 t1 (x6).toNatClampNeg) then
          (mi_X3_barOfWants M x6 x2).bind fun q8 =>
          (mi_X2_tooNear M t1 x6 q8).bind fun q10 =>
          (mi_X2_freeChannels_56 ab_F M t1 x2 x3 (x4 ||| q10) x6 (x6 + 1)).bind fun q22 =>
          some q22.1
        else
          some x4) : Option (Int64)).bind fun q2 =>
      mi_X2_freeChannels_6 n M t1 x2 x3 q2 (x6 + 1)

set_option maxHeartbeats 4000000 in
set_option maxRecDepth 100000 in
theorem lp_X2_freeChannels_6 {l : Launch} {D : va_G} {ac : Nat → ClassId} {n0 : Nat} {r : ab_Rs} : ∀ (n : Nat) (M : ab_M) (t1 : Nat) (ht1 : ab_isPlan t1) (x2 : Int32) (x3 : Int32) (x4 : Int64) (x6 : Int32) (q : Int64 × Int32) (h : mi_X2_freeChannels_6 n M t1 x2 x3 x4 x6 = some q) (kk : ab_Ev l D ac 4 me_X2_freeChannels n0 0 0 r 0 0 ab_SH 107 [some (.ref 24), some (.ref t1), some (.int x2), some (.int x3), some (.long q.1), none, some (.int q.2), none] [] M), ab_Ev l D ac 4 me_X2_freeChannels n0 0 0 r 0 0 ab_SH 6 [some (.ref 24), some (.ref t1), some (.int x2), some (.int x3), some (.long x4), none, some (.int x6), none] [] M := by
  intro n
  induction n with
  | zero =>
    intro M t1 ht1 x2 x3 x4 x6 q h kk
    cases h
  | succ n ih =>
    intro M t1 ht1 x2 x3 x4 x6 q h kk
    unfold mi_X2_freeChannels_6 at h
    refine ev_iload dX2_freeChannels_6 rfl ?_
    refine ev_iload_n dX2_freeChannels_8 rfl ?_
    refine ev_icmp_ge (t := 107) dX2_freeChannels_9 (by decide) (fun hc1 => ?_) (fun hc1 => ?_)
    · replace h := ab_pos hc1 h
      cases h
      exact kk
    · replace h := ab_neg hc1 h
      refine ev_iload dX2_freeChannels_12 rfl ?_
      refine ev_iload_n dX2_freeChannels_14 rfl ?_
      obtain ⟨q2, hq3, h⟩ := ab_bind h
      have hJ4 : ab_Ev l D ac 4 me_X2_freeChannels n0 0 0 r 0 0 ab_SH 101 [some (.ref 24), some (.ref t1), some (.int x2), some (.int x3), some (.long q2), none, some (.int x6), none] [] M := by
        refine ev_iinc (y := x6 + 1) dX2_freeChannels_101 rfl (by first | rfl | decide) rfl rfl ?_
        refine ev_goto (t := 6) dX2_freeChannels_104 (by decide) ?_
        exact ih M t1 ht1 x2 x3 q2 (x6 + 1) _ h kk
      refine ev_icmp_eq (t := 101) dX2_freeChannels_15 (by decide) (fun hc5 => ?_) (fun hc5 => ?_)
      · replace hq3 := ab_pos hc5 hq3
        cases hq3
        exact hJ4
      · replace hq3 := ab_neg hc5 hq3
        refine ev_aload_n dX2_freeChannels_18 rfl ?_
        refine ev_iload dX2_freeChannels_19 rfl ?_
        obtain ⟨hb6, hq3⟩ := ab_chk_some hq3
        refine ev_iaload ht1 hb6 dX2_freeChannels_21 ?_
        refine ev_if_ge (t := 28) dX2_freeChannels_22 (by decide) (fun hc7 => ?_) (fun hc7 => ?_)
        · replace hq3 := ab_pos hc7 hq3
          refine ev_lload dX2_freeChannels_28 rfl ?_
          refine ev_aload_n dX2_freeChannels_30 rfl ?_
          refine ev_aload_n dX2_freeChannels_31 rfl ?_
          refine ev_iload dX2_freeChannels_32 rfl ?_
          refine ev_aload_n dX2_freeChannels_34 rfl ?_
          refine ev_getr (o' := 1) fl_RX2_15 sh_24 (by decide) (by decide) rfl rfl dX2_freeChannels_35 ?_
          refine ev_iload dX2_freeChannels_38 rfl ?_
          refine ev_iload_n dX2_freeChannels_40 rfl ?_
          obtain ⟨q8, hv9, hq3⟩ := ab_bind hq3
          refine ev_callV (st := [.int x6, .ref t1, .ref 24, .long x4]) (co_X3_barOfWants M x6 x2 _ hv9) mv_X3_barOfWants sh_1 ml_RX2_45 dX2_freeChannels_41 (by decide) rfl (Nat.le_of_ble_eq_true rfl) ⟨Nat.le_refl _, Nat.le_refl _⟩ ?_
          obtain ⟨q10, hv11, hq3⟩ := ab_bind hq3
          refine ev_callV (st := [.long x4]) (co_X2_tooNear M t1 ht1 x6 q8 _ hv11) mv_X2_tooNear sh_24 ml_RX2_85 dX2_freeChannels_44 (by decide) rfl (Nat.le_of_ble_eq_true rfl) ⟨Nat.le_refl _, Nat.le_refl _⟩ ?_
          refine ev_lor dX2_freeChannels_47 ?_
          refine ev_lstore dX2_freeChannels_48 (Nat.le_of_ble_eq_true rfl) rfl rfl ?_
          refine ev_iload dX2_freeChannels_50 rfl ?_
          refine ev_iconst (x := 1) dX2_freeChannels_52 (by decide) ?_
          refine ev_iadd dX2_freeChannels_53 ?_
          refine ev_istore dX2_freeChannels_54 (Nat.le_of_ble_eq_true rfl) rfl rfl ?_
          obtain ⟨q22, hq23, hq3⟩ := ab_bind hq3
          refine lp_X2_freeChannels_56 _ M t1 ht1 x2 x3 (x4 ||| q10) x6 (x6 + 1) _ hq23 ?_
          cases hq3
          refine ev_drop (lv' := [some (.ref 24), some (.ref t1), some (.int x2), some (.int x3), some (.long q22.1), none, some (.int x6), none]) (ab_sub_k (ab_sub_k (ab_sub_k (ab_sub_k (ab_sub_k (ab_sub_k (ab_sub_k (ab_sub_d ab_sub_nil)))))))) ?_
          exact hJ4
        · replace hq3 := ab_neg hc7 hq3
          refine ev_goto (t := 101) dX2_freeChannels_25 (by decide) ?_
          cases hq3
          exact hJ4

noncomputable def mi_X2_freeChannels (M : ab_M) (t1 : Nat) (x2 : Int32) (x3 : Int32) : Option (Int32) :=
  (mi_X2_freeChannels_6 ab_F M t1 x2 x3 0 0).bind fun q24 =>
  (mi_X3_allowed M x2).bind fun q26 =>
  (mi_X3_gapOf M x2).bind fun q28 =>
  some (q26 &&& (Int64.toInt32 ((q24.1 ||| (ab_lushr q24.1 q28)) ^^^ (-1))))

set_option maxHeartbeats 4000000 in
set_option maxRecDepth 100000 in
theorem co_X2_freeChannels {l : Launch} {D : va_G} {ac : Nat → ClassId} (M : ab_M) (t1 : Nat) (ht1 : ab_isPlan t1) (x2 : Int32) (x3 : Int32) (z : Int32) (h : mi_X2_freeChannels M t1 x2 x3 = some z) : ab_Con l D ac 4 me_X2_freeChannels 0 0 [.ref 24, .ref t1, .int x2, .int x3] ab_SH M (some (.int z), ab_SH, M) := by
  refine ab_intro (lv := [some (.ref 24), some (.ref t1), some (.int x2), some (.int x3), none, none, none, none]) (by decide) rfl (Nat.le_of_ble_eq_true rfl) rfl ?_
  unfold mi_X2_freeChannels at h
  refine ev_lconst (x := 0) dX2_freeChannels_0 (by decide) ?_
  refine ev_lstore dX2_freeChannels_1 (Nat.le_of_ble_eq_true rfl) rfl rfl ?_
  refine ev_iconst (x := 0) dX2_freeChannels_3 (by decide) ?_
  refine ev_istore dX2_freeChannels_4 (Nat.le_of_ble_eq_true rfl) rfl rfl ?_
  obtain ⟨q24, hq25, h⟩ := ab_bind h
  refine lp_X2_freeChannels_6 _ M t1 ht1 x2 x3 0 0 _ hq25 ?_
  refine ev_aload_n dX2_freeChannels_107 rfl ?_
  refine ev_getr (o' := 1) fl_RX2_15 sh_24 (by decide) (by decide) rfl rfl dX2_freeChannels_108 ?_
  refine ev_iload_n dX2_freeChannels_111 rfl ?_
  obtain ⟨q26, hv27, h⟩ := ab_bind h
  refine ev_callV (st := []) (co_X3_allowed M x2 _ hv27) mv_X3_allowed sh_1 ml_RX2_79 dX2_freeChannels_112 (by decide) rfl (Nat.le_of_ble_eq_true rfl) ⟨Nat.le_refl _, Nat.le_refl _⟩ ?_
  refine ev_lload dX2_freeChannels_115 rfl ?_
  refine ev_lload dX2_freeChannels_117 rfl ?_
  refine ev_aload_n dX2_freeChannels_119 rfl ?_
  refine ev_getr (o' := 1) fl_RX2_15 sh_24 (by decide) (by decide) rfl rfl dX2_freeChannels_120 ?_
  refine ev_iload_n dX2_freeChannels_123 rfl ?_
  obtain ⟨q28, hv29, h⟩ := ab_bind h
  refine ev_callV (st := [.long q24.1, .long q24.1, .int q26]) (co_X3_gapOf M x2 _ hv29) mv_X3_gapOf sh_1 ml_RX2_49 dX2_freeChannels_124 (by decide) rfl (Nat.le_of_ble_eq_true rfl) ⟨Nat.le_refl _, Nat.le_refl _⟩ ?_
  refine ev_lushr dX2_freeChannels_127 ?_
  refine ev_lor dX2_freeChannels_128 ?_
  refine ev_ldc2 kw_RX2_95 dX2_freeChannels_129 ?_
  refine ev_lxor dX2_freeChannels_132 ?_
  refine ev_l2i dX2_freeChannels_133 ?_
  refine ev_iand dX2_freeChannels_134 ?_
  cases h
  exact ev_ireturn rfl dX2_freeChannels_135

noncomputable def mi_X2_isClean_2 : Nat → ab_M → Nat → Int32 → Option (Sum (Int32) (Int32))
  | 0, _, _, _ => none
  | n + 1, M, t1, x2 =>
    if (M.1 1 8) ≤ x2 then
      some (.inl x2)
    else
      ab_chk (vp_in x2 16) <|
      if (M.1 t1 (x2).toNatClampNeg) < 0 then
        mi_X2_isClean_2 n M t1 (x2 + 1)
      else
        (mi_X2_freeChannels M t1 x2 x2).bind fun q4 =>
        ab_chk (vp_in x2 16) <|
        if ((ab_ushr q4 (M.1 t1 (x2).toNatClampNeg)) &&& 1) = 0 then
          some (.inr 0)
        else
          mi_X2_isClean_2 n M t1 (x2 + 1)

set_option maxHeartbeats 4000000 in
set_option maxRecDepth 100000 in
theorem lp_X2_isClean_2 {l : Launch} {D : va_G} {ac : Nat → ClassId} {n0 : Nat} {r : ab_Rs} : ∀ (n : Nat) (M : ab_M) (t1 : Nat) (ht1 : ab_isPlan t1) (x2 : Int32) (q : Sum (Int32) (Int32)) (h : mi_X2_isClean_2 n M t1 x2 = some q) (kk : ∀ y, q = .inl y → ab_Ev l D ac 5 me_X2_isClean n0 0 0 r 0 0 ab_SH 43 [some (.ref 24), some (.ref t1), some (.int y)] [] M) (kr : ∀ v, q = .inr v → r = (some (.int v), ab_SH, M)), ab_Ev l D ac 5 me_X2_isClean n0 0 0 r 0 0 ab_SH 2 [some (.ref 24), some (.ref t1), some (.int x2)] [] M := by
  intro n
  induction n with
  | zero =>
    intro M t1 ht1 x2 q h kk kr
    cases h
  | succ n ih =>
    intro M t1 ht1 x2 q h kk kr
    unfold mi_X2_isClean_2 at h
    refine ev_iload_n dX2_isClean_2 rfl ?_
    refine ev_aload_n dX2_isClean_3 rfl ?_
    refine ev_getr (o' := 1) fl_RX2_15 sh_24 (by decide) (by decide) rfl rfl dX2_isClean_4 ?_
    refine ev_geti fl_RX2_19 sh_1 (by decide) (by decide) rfl dX2_isClean_7 ?_
    refine ev_icmp_ge (t := 43) dX2_isClean_10 (by decide) (fun hc1 => ?_) (fun hc1 => ?_)
    · replace h := ab_pos hc1 h
      cases h
      exact kk _ rfl
    · replace h := ab_neg hc1 h
      refine ev_aload_n dX2_isClean_13 rfl ?_
      refine ev_iload_n dX2_isClean_14 rfl ?_
      obtain ⟨hb2, h⟩ := ab_chk_some h
      refine ev_iaload ht1 hb2 dX2_isClean_15 ?_
      refine ev_if_lt (t := 37) dX2_isClean_16 (by decide) (fun hc3 => ?_) (fun hc3 => ?_)
      · replace h := ab_pos hc3 h
        refine ev_iinc (y := x2 + 1) dX2_isClean_37 rfl (by first | rfl | decide) rfl rfl ?_
        refine ev_goto (t := 2) dX2_isClean_40 (by decide) ?_
        exact ih M t1 ht1 (x2 + 1) _ h kk kr
      · replace h := ab_neg hc3 h
        refine ev_aload_n dX2_isClean_19 rfl ?_
        refine ev_aload_n dX2_isClean_20 rfl ?_
        refine ev_iload_n dX2_isClean_21 rfl ?_
        refine ev_iload_n dX2_isClean_22 rfl ?_
        obtain ⟨q4, hv5, h⟩ := ab_bind h
        refine ev_callV (st := []) (co_X2_freeChannels M t1 ht1 x2 x2 _ hv5) mv_X2_freeChannels sh_24 ml_RX2_82 dX2_isClean_23 (by decide) rfl (Nat.le_of_ble_eq_true rfl) ⟨Nat.le_refl _, Nat.le_refl _⟩ ?_
        refine ev_aload_n dX2_isClean_26 rfl ?_
        refine ev_iload_n dX2_isClean_27 rfl ?_
        obtain ⟨hb6, h⟩ := ab_chk_some h
        refine ev_iaload ht1 hb6 dX2_isClean_28 ?_
        refine ev_iushr dX2_isClean_29 ?_
        refine ev_iconst (x := 1) dX2_isClean_30 (by decide) ?_
        refine ev_iand dX2_isClean_31 ?_
        refine ev_if_ne (t := 37) dX2_isClean_32 (by decide) (fun hc7 => ?_) (fun hc7 => ?_)
        · replace h := ab_neg hc7 h
          refine ev_iinc (y := x2 + 1) dX2_isClean_37 rfl (by first | rfl | decide) rfl rfl ?_
          refine ev_goto (t := 2) dX2_isClean_40 (by decide) ?_
          exact ih M t1 ht1 (x2 + 1) _ h kk kr
        · replace h := ab_pos hc7 h
          refine ev_iconst (x := 0) dX2_isClean_35 (by decide) ?_
          cases h
          rw [kr _ rfl]
          exact ev_zreturn rfl (Or.inl rfl) dX2_isClean_36

noncomputable def mi_X2_isClean (M : ab_M) (t1 : Nat) : Option (Int32) :=
  (mi_X2_isClean_2 ab_F M t1 0).bind fun q11 => Sum.elim (fun q8 =>
  some 1) (fun v10 => some v10) q11

set_option maxHeartbeats 4000000 in
set_option maxRecDepth 100000 in
theorem co_X2_isClean {l : Launch} {D : va_G} {ac : Nat → ClassId} (M : ab_M) (t1 : Nat) (ht1 : ab_isPlan t1) (z : Int32) (h : mi_X2_isClean M t1 = some z) : ab_Con l D ac 5 me_X2_isClean 0 0 [.ref 24, .ref t1] ab_SH M (some (.int z), ab_SH, M) := by
  refine ab_intro (lv := [some (.ref 24), some (.ref t1), none]) (by decide) rfl (Nat.le_of_ble_eq_true rfl) rfl ?_
  unfold mi_X2_isClean at h
  refine ev_iconst (x := 0) dX2_isClean_0 (by decide) ?_
  refine ev_istore_n dX2_isClean_1 (Nat.le_of_ble_eq_true rfl) rfl rfl ?_
  obtain ⟨q11, hq9, h⟩ := ab_bind h
  rcases ab_elim h with ⟨q8, rfl, h⟩ | ⟨v10, rfl, h⟩
  · refine lp_X2_isClean_2 _ M t1 ht1 0 _ hq9 (fun z e12 => ?_) (fun z e12 => by cases e12)
    cases e12
    refine ev_iconst (x := 1) dX2_isClean_43 (by decide) ?_
    cases h
    exact ev_zreturn rfl (Or.inr rfl) dX2_isClean_44
  · refine lp_X2_isClean_2 _ M t1 ht1 0 _ hq9 (fun z e12 => by cases e12) (fun z e12 => ?_)
    cases e12
    cases h
    rfl

noncomputable def mi_X2_addLacks_60 : Nat → ab_M → Nat → Int32 → Int32 → Int32 → Int32 → Option (Int32 × ab_M)
  | 0, _, _, _, _, _, _ => none
  | n + 1, M, t1, x2, x3, x6, x7 =>
    if x6 < x7 then
      some (x7, M)
    else
      ab_chk (vp_in x7 30) <|
      ab_chk (vp_in x2 16) <|
      (mi_X2_lackAt M x2 (M.1 t1 (x2).toNatClampNeg) x3 x7).bind fun q16 =>
      ab_chk (vp_in x7 30) <|
      mi_X2_addLacks_60 n (ab_pi M 25 (x7).toNatClampNeg ((M.1 25 (x7).toNatClampNeg) + q16)) t1 x2 x3 x6 (x7 + 1)

set_option maxHeartbeats 4000000 in
set_option maxRecDepth 100000 in
theorem lp_X2_addLacks_60 {l : Launch} {D : va_G} {ac : Nat → ClassId} {n0 : Nat} {r : ab_Rs} : ∀ (n : Nat) (M : ab_M) (t1 : Nat) (ht1 : ab_isPlan t1) (x2 : Int32) (x3 : Int32) (x6 : Int32) (x7 : Int32) (q : Int32 × ab_M) (h : mi_X2_addLacks_60 n M t1 x2 x3 x6 x7 = some q) (kk : ab_Ev l D ac 4 me_X2_addLacks n0 0 0 r 0 0 ab_SH 94 [some (.ref 24), some (.ref t1), some (.int x2), some (.int x3), none, none, some (.int x6), some (.int q.1)] [] q.2), ab_Ev l D ac 4 me_X2_addLacks n0 0 0 r 0 0 ab_SH 60 [some (.ref 24), some (.ref t1), some (.int x2), some (.int x3), none, none, some (.int x6), some (.int x7)] [] M := by
  intro n
  induction n with
  | zero =>
    intro M t1 ht1 x2 x3 x6 x7 q h kk
    cases h
  | succ n ih =>
    intro M t1 ht1 x2 x3 x6 x7 q h kk
    unfold mi_X2_addLacks_60 at h
    refine ev_iload dX2_addLacks_60 rfl ?_
    refine ev_iload dX2_addLacks_62 rfl ?_
    refine ev_icmp_gt (t := 94) dX2_addLacks_64 (by decide) (fun hc13 => ?_) (fun hc13 => ?_)
    · replace h := ab_pos hc13 h
      cases h
      exact kk
    · replace h := ab_neg hc13 h
      refine ev_aload_n dX2_addLacks_67 rfl ?_
      refine ev_getr (o' := 25) fl_RX2_9 sh_24 (by decide) (by decide) rfl rfl dX2_addLacks_68 ?_
      refine ev_iload dX2_addLacks_71 rfl ?_
      refine ev_dup2 dX2_addLacks_73 rfl rfl ?_
      obtain ⟨hb14, h⟩ := ab_chk_some h
      refine ev_iaload sh_25 hb14 dX2_addLacks_74 ?_
      refine ev_aload_n dX2_addLacks_75 rfl ?_
      refine ev_iload_n dX2_addLacks_76 rfl ?_
      refine ev_aload_n dX2_addLacks_77 rfl ?_
      refine ev_iload_n dX2_addLacks_78 rfl ?_
      obtain ⟨hb15, h⟩ := ab_chk_some h
      refine ev_iaload ht1 hb15 dX2_addLacks_79 ?_
      refine ev_iload_n dX2_addLacks_80 rfl ?_
      refine ev_iload dX2_addLacks_81 rfl ?_
      obtain ⟨q16, hv17, h⟩ := ab_bind h
      refine ev_callV (st := [.int (M.1 25 (x7).toNatClampNeg), .int x7, .ref 25]) (co_X2_lackAt M x2 (M.1 t1 (x2).toNatClampNeg) x3 x7 _ hv17) mv_X2_lackAt sh_24 ml_RX2_41 dX2_addLacks_83 (by decide) rfl (Nat.le_of_ble_eq_true rfl) ⟨Nat.le_refl _, Nat.le_refl _⟩ ?_
      refine ev_iadd dX2_addLacks_86 ?_
      obtain ⟨hb18, h⟩ := ab_chk_some h
      refine ev_iastore sh_25 hb18 dX2_addLacks_87 ?_
      refine ev_iinc (y := x7 + 1) dX2_addLacks_88 rfl (by first | rfl | decide) rfl rfl ?_
      refine ev_goto (t := 60) dX2_addLacks_91 (by decide) ?_
      exact ih (ab_pi M 25 (x7).toNatClampNeg ((M.1 25 (x7).toNatClampNeg) + q16)) t1 ht1 x2 x3 x6 (x7 + 1) _ h kk

noncomputable def mi_X2_addLacks (M : ab_M) (t1 : Nat) (x2 : Int32) (x3 : Int32) : Option (ab_M) :=
  (mi_X3_barOfWants M x2 x3).bind fun q1 =>
  ab_chk (vp_in x2 16) <|
  (mi_X3_gapOf M x3).bind fun q4 =>
  (some (ab_max 0 (((M.1 t1 (x2).toNatClampNeg) - q4) - (q1 - 1))) : Option Int32).bind fun v6 =>
  ab_chk (vp_in x2 16) <|
  (mi_X3_gapOf M x2).bind fun q9 =>
  (some (ab_min 29 (((M.1 t1 (x2).toNatClampNeg) + q9) + (q1 - 1))) : Option Int32).bind fun v11 =>
  (mi_X2_addLacks_60 ab_F M t1 x2 x3 v11 v6).bind fun q19 =>
  some q19.2

set_option maxHeartbeats 4000000 in
set_option maxRecDepth 100000 in
theorem co_X2_addLacks {l : Launch} {D : va_G} {ac : Nat → ClassId} (M : ab_M) (t1 : Nat) (ht1 : ab_isPlan t1) (x2 : Int32) (x3 : Int32) (z : ab_M) (h : mi_X2_addLacks M t1 x2 x3 = some z) : ab_Con l D ac 4 me_X2_addLacks 0 0 [.ref 24, .ref t1, .int x2, .int x3] ab_SH M (none, ab_SH, z) := by
  refine ab_intro (lv := [some (.ref 24), some (.ref t1), some (.int x2), some (.int x3), none, none, none, none]) (by decide) rfl (Nat.le_of_ble_eq_true rfl) rfl ?_
  unfold mi_X2_addLacks at h
  refine ev_aload_n dX2_addLacks_0 rfl ?_
  refine ev_getr (o' := 1) fl_RX2_15 sh_24 (by decide) (by decide) rfl rfl dX2_addLacks_1 ?_
  refine ev_iload_n dX2_addLacks_4 rfl ?_
  refine ev_iload_n dX2_addLacks_5 rfl ?_
  obtain ⟨q1, hv2, h⟩ := ab_bind h
  refine ev_callV (st := []) (co_X3_barOfWants M x2 x3 _ hv2) mv_X3_barOfWants sh_1 ml_RX2_45 dX2_addLacks_6 (by decide) rfl (Nat.le_of_ble_eq_true rfl) ⟨Nat.le_refl _, Nat.le_refl _⟩ ?_
  refine ev_iconst (x := 1) dX2_addLacks_9 (by decide) ?_
  refine ev_isub dX2_addLacks_10 ?_
  refine ev_istore dX2_addLacks_11 (Nat.le_of_ble_eq_true rfl) rfl rfl ?_
  refine ev_iconst (x := 0) dX2_addLacks_13 (by decide) ?_
  refine ev_aload_n dX2_addLacks_14 rfl ?_
  refine ev_iload_n dX2_addLacks_15 rfl ?_
  obtain ⟨hb3, h⟩ := ab_chk_some h
  refine ev_iaload ht1 hb3 dX2_addLacks_16 ?_
  refine ev_aload_n dX2_addLacks_17 rfl ?_
  refine ev_getr (o' := 1) fl_RX2_15 sh_24 (by decide) (by decide) rfl rfl dX2_addLacks_18 ?_
  refine ev_iload_n dX2_addLacks_21 rfl ?_
  obtain ⟨q4, hv5, h⟩ := ab_bind h
  refine ev_callV (st := [.int (M.1 t1 (x2).toNatClampNeg), .int 0]) (co_X3_gapOf M x3 _ hv5) mv_X3_gapOf sh_1 ml_RX2_49 dX2_addLacks_22 (by decide) rfl (Nat.le_of_ble_eq_true rfl) ⟨Nat.le_refl _, Nat.le_refl _⟩ ?_
  refine ev_isub dX2_addLacks_25 ?_
  refine ev_iload dX2_addLacks_26 rfl ?_
  refine ev_isub dX2_addLacks_28 ?_
  refine ev_max ml_RX2_57 dX2_addLacks_29 (by decide) (Nat.le_of_ble_eq_true rfl) ⟨Nat.le_refl _, Nat.le_refl _⟩ ?_
  obtain ⟨v6, hq7, h⟩ := ab_bind h
  refine ev_nmi (Option.some.inj hq7) ?_
  refine ev_istore (x := v6) dX2_addLacks_32 (Nat.le_of_ble_eq_true rfl) rfl rfl ?_
  refine ev_bipush (x := 29) dX2_addLacks_34 (by decide) ?_
  refine ev_aload_n dX2_addLacks_36 rfl ?_
  refine ev_iload_n dX2_addLacks_37 rfl ?_
  obtain ⟨hb8, h⟩ := ab_chk_some h
  refine ev_iaload ht1 hb8 dX2_addLacks_38 ?_
  refine ev_aload_n dX2_addLacks_39 rfl ?_
  refine ev_getr (o' := 1) fl_RX2_15 sh_24 (by decide) (by decide) rfl rfl dX2_addLacks_40 ?_
  refine ev_iload_n dX2_addLacks_43 rfl ?_
  obtain ⟨q9, hv10, h⟩ := ab_bind h
  refine ev_callV (st := [.int (M.1 t1 (x2).toNatClampNeg), .int 29]) (co_X3_gapOf M x2 _ hv10) mv_X3_gapOf sh_1 ml_RX2_49 dX2_addLacks_44 (by decide) rfl (Nat.le_of_ble_eq_true rfl) ⟨Nat.le_refl _, Nat.le_refl _⟩ ?_
  refine ev_iadd dX2_addLacks_47 ?_
  refine ev_iload dX2_addLacks_48 rfl ?_
  refine ev_iadd dX2_addLacks_50 ?_
  refine ev_min ml_RX2_109 dX2_addLacks_51 (by decide) (Nat.le_of_ble_eq_true rfl) ⟨Nat.le_refl _, Nat.le_refl _⟩ ?_
  obtain ⟨v11, hq12, h⟩ := ab_bind h
  refine ev_nmi (Option.some.inj hq12) ?_
  refine ev_istore (x := v11) dX2_addLacks_54 (Nat.le_of_ble_eq_true rfl) rfl rfl ?_
  refine ev_iload dX2_addLacks_56 rfl ?_
  refine ev_istore dX2_addLacks_58 (Nat.le_of_ble_eq_true rfl) rfl rfl ?_
  obtain ⟨q19, hq20, h⟩ := ab_bind h
  refine ev_drop (lv' := [some (.ref 24), some (.ref t1), some (.int x2), some (.int x3), none, none, some (.int v11), some (.int v6)]) (ab_sub_k (ab_sub_k (ab_sub_k (ab_sub_k (ab_sub_d (ab_sub_d (ab_sub_k (ab_sub_k ab_sub_nil)))))))) ?_
  refine lp_X2_addLacks_60 _ M t1 ht1 x2 x3 v11 v6 _ hq20 ?_
  cases h
  exact ev_return rfl dX2_addLacks_94

noncomputable def mi_X2_addSumAt (M : ab_M) (x1 : Int32) (x2 : Int32) : Option (ab_M) :=
  (mi_X9_within M x1 0 29).bind fun q1 =>
  ((if q1 = 0 then
    some M
  else
    ab_chk (vp_in x1 30) <|
    ab_chk (vp_in x1 30) <|
    some (ab_pi M 25 (x1).toNatClampNeg ((M.1 25 (x1).toNatClampNeg) + 5))) : Option (ab_M)).bind fun q3 =>
  if x2 ≤ 0 then
    some q3
  else
    (mi_X9_within q3 (x1 - x2) 0 29).bind fun q10 =>
    if q10 = 0 then
      some q3
    else
      ab_chk (vp_in (x1 - x2) 30) <|
      ab_chk (vp_in (x1 - x2) 30) <|
      some (ab_pi q3 25 (x1 - x2).toNatClampNeg ((q3.1 25 (x1 - x2).toNatClampNeg) + 5))

set_option maxHeartbeats 4000000 in
set_option maxRecDepth 100000 in
theorem co_X2_addSumAt {l : Launch} {D : va_G} {ac : Nat → ClassId} (M : ab_M) (x1 : Int32) (x2 : Int32) (z : ab_M) (h : mi_X2_addSumAt M x1 x2 = some z) : ab_Con l D ac 2 me_X2_addSumAt 0 0 [.ref 24, .int x1, .int x2] ab_SH M (none, ab_SH, z) := by
  refine ab_intro (lv := [some (.ref 24), some (.int x1), some (.int x2)]) (by decide) rfl (Nat.le_of_ble_eq_true rfl) rfl ?_
  unfold mi_X2_addSumAt at h
  refine ev_iload_n dX2_addSumAt_0 rfl ?_
  refine ev_iconst (x := 0) dX2_addSumAt_1 (by decide) ?_
  refine ev_bipush (x := 29) dX2_addSumAt_2 (by decide) ?_
  obtain ⟨q1, hv2, h⟩ := ab_bind h
  refine ev_callSN (st := []) (co_X9_within M x1 0 29 _ hv2) mv_X9_within ml_RX2_116 dX2_addSumAt_4 (by decide) rfl (Nat.le_of_ble_eq_true rfl) ⟨Nat.le_refl _, Nat.le_refl _⟩ ?_
  obtain ⟨q3, hq4, h⟩ := ab_bind h
  have hJ5 : ab_Ev l D ac 2 me_X2_addSumAt ab_SH.length 0 0 (none, ab_SH, z) 0 0 ab_SH 20 [some (.ref 24), some (.int x1), some (.int x2)] [] q3 := by
    refine ev_iload_n dX2_addSumAt_20 rfl ?_
    refine ev_if_le (t := 48) dX2_addSumAt_21 (by decide) (fun hc9 => ?_) (fun hc9 => ?_)
    · replace h := ab_pos hc9 h
      cases h
      exact ev_return rfl dX2_addSumAt_48
    · replace h := ab_neg hc9 h
      refine ev_iload_n dX2_addSumAt_24 rfl ?_
      refine ev_iload_n dX2_addSumAt_25 rfl ?_
      refine ev_isub dX2_addSumAt_26 ?_
      refine ev_iconst (x := 0) dX2_addSumAt_27 (by decide) ?_
      refine ev_bipush (x := 29) dX2_addSumAt_28 (by decide) ?_
      obtain ⟨q10, hv11, h⟩ := ab_bind h
      refine ev_callSN (st := []) (co_X9_within q3 (x1 - x2) 0 29 _ hv11) mv_X9_within ml_RX2_116 dX2_addSumAt_30 (by decide) rfl (Nat.le_of_ble_eq_true rfl) ⟨Nat.le_refl _, Nat.le_refl _⟩ ?_
      refine ev_if_eq (t := 48) dX2_addSumAt_33 (by decide) (fun hc12 => ?_) (fun hc12 => ?_)
      · replace h := ab_pos hc12 h
        cases h
        exact ev_return rfl dX2_addSumAt_48
      · replace h := ab_neg hc12 h
        refine ev_aload_n dX2_addSumAt_36 rfl ?_
        refine ev_getr (o' := 25) fl_RX2_9 sh_24 (by decide) (by decide) rfl rfl dX2_addSumAt_37 ?_
        refine ev_iload_n dX2_addSumAt_40 rfl ?_
        refine ev_iload_n dX2_addSumAt_41 rfl ?_
        refine ev_isub dX2_addSumAt_42 ?_
        refine ev_dup2 dX2_addSumAt_43 rfl rfl ?_
        obtain ⟨hb13, h⟩ := ab_chk_some h
        refine ev_iaload sh_25 hb13 dX2_addSumAt_44 ?_
        refine ev_iconst (x := 5) dX2_addSumAt_45 (by decide) ?_
        refine ev_iadd dX2_addSumAt_46 ?_
        obtain ⟨hb14, h⟩ := ab_chk_some h
        refine ev_iastore sh_25 hb14 dX2_addSumAt_47 ?_
        cases h
        exact ev_return rfl dX2_addSumAt_48
  refine ev_if_eq (t := 20) dX2_addSumAt_7 (by decide) (fun hc6 => ?_) (fun hc6 => ?_)
  · replace hq4 := ab_pos hc6 hq4
    cases hq4
    exact hJ5
  · replace hq4 := ab_neg hc6 hq4
    refine ev_aload_n dX2_addSumAt_10 rfl ?_
    refine ev_getr (o' := 25) fl_RX2_9 sh_24 (by decide) (by decide) rfl rfl dX2_addSumAt_11 ?_
    refine ev_iload_n dX2_addSumAt_14 rfl ?_
    refine ev_dup2 dX2_addSumAt_15 rfl rfl ?_
    obtain ⟨hb7, hq4⟩ := ab_chk_some hq4
    refine ev_iaload sh_25 hb7 dX2_addSumAt_16 ?_
    refine ev_iconst (x := 5) dX2_addSumAt_17 (by decide) ?_
    refine ev_iadd dX2_addSumAt_18 ?_
    obtain ⟨hb8, hq4⟩ := ab_chk_some hq4
    refine ev_iastore sh_25 hb8 dX2_addSumAt_19 ?_
    cases hq4
    exact hJ5

noncomputable def mi_X2_addSums_41 : Nat → ab_M → Nat → Int32 → Int32 → Int32 → Int32 → Int32 → Int32 → Int32 → Option (Int32 × ab_M)
  | 0, _, _, _, _, _, _, _, _, _ => none
  | n + 1, M, t1, x2, x3, x4, x5, x6, x7, x8 =>
    ab_chk (vp_in x3 16) <|
    if ((M.1 t1 (x3).toNatClampNeg) + x6) < x8 then
      some (x8, M)
    else
      (mi_X2_addSumAt M ((2 * x7) - x8) x4).bind fun q11 =>
      (mi_X2_addSumAt q11 ((2 * x8) - x7) x4).bind fun q13 =>
      ((if (ab_rem (x7 + x8) 2) = 0 then
        (mi_X2_addSumAt q13 ((x7 + x8) / 2) x4).bind fun q19 =>
        some q19
      else
        some q13) : Option (ab_M)).bind fun q15 =>
      mi_X2_addSums_41 n q15 t1 x2 x3 x4 x5 x6 x7 (x8 + (ab_max 1 x6))

set_option maxHeartbeats 4000000 in
set_option maxRecDepth 100000 in
theorem lp_X2_addSums_41 {l : Launch} {D : va_G} {ac : Nat → ClassId} {n0 : Nat} {r : ab_Rs} : ∀ (n : Nat) (M : ab_M) (t1 : Nat) (ht1 : ab_isPlan t1) (x2 : Int32) (x3 : Int32) (x4 : Int32) (x5 : Int32) (x6 : Int32) (x7 : Int32) (x8 : Int32) (q : Int32 × ab_M) (h : mi_X2_addSums_41 n M t1 x2 x3 x4 x5 x6 x7 x8 = some q) (kk : ab_Ev l D ac 3 me_X2_addSums n0 0 0 r 0 0 ab_SH 115 [some (.ref 24), some (.ref t1), some (.int x2), some (.int x3), some (.int x4), some (.int x5), some (.int x6), some (.int x7), some (.int q.1)] [] q.2), ab_Ev l D ac 3 me_X2_addSums n0 0 0 r 0 0 ab_SH 41 [some (.ref 24), some (.ref t1), some (.int x2), some (.int x3), some (.int x4), some (.int x5), some (.int x6), some (.int x7), some (.int x8)] [] M := by
  intro n
  induction n with
  | zero =>
    intro M t1 ht1 x2 x3 x4 x5 x6 x7 x8 q h kk
    cases h
  | succ n ih =>
    intro M t1 ht1 x2 x3 x4 x5 x6 x7 x8 q h kk
    unfold mi_X2_addSums_41 at h
    refine ev_iload dX2_addSums_41 rfl ?_
    refine ev_aload_n dX2_addSums_43 rfl ?_
    refine ev_iload_n dX2_addSums_44 rfl ?_
    obtain ⟨hb9, h⟩ := ab_chk_some h
    refine ev_iaload ht1 hb9 dX2_addSums_45 ?_
    refine ev_iload dX2_addSums_46 rfl ?_
    refine ev_iadd dX2_addSums_48 ?_
    refine ev_icmp_gt (t := 115) dX2_addSums_49 (by decide) (fun hc10 => ?_) (fun hc10 => ?_)
    · replace h := ab_pos hc10 h
      cases h
      exact kk
    · replace h := ab_neg hc10 h
      refine ev_aload_n dX2_addSums_52 rfl ?_
      refine ev_iconst (x := 2) dX2_addSums_53 (by decide) ?_
      refine ev_iload dX2_addSums_54 rfl ?_
      refine ev_imul dX2_addSums_56 ?_
      refine ev_iload dX2_addSums_57 rfl ?_
      refine ev_isub dX2_addSums_59 ?_
      refine ev_iload dX2_addSums_60 rfl ?_
      obtain ⟨q11, hv12, h⟩ := ab_bind h
      refine ev_callV (st := []) (co_X2_addSumAt M ((2 * x7) - x8) x4 _ hv12) mv_X2_addSumAt sh_24 ml_RX2_112 dX2_addSums_62 (by decide) rfl (Nat.le_of_ble_eq_true rfl) ⟨Nat.le_refl _, Nat.le_refl _⟩ ?_
      refine ev_aload_n dX2_addSums_65 rfl ?_
      refine ev_iconst (x := 2) dX2_addSums_66 (by decide) ?_
      refine ev_iload dX2_addSums_67 rfl ?_
      refine ev_imul dX2_addSums_69 ?_
      refine ev_iload dX2_addSums_70 rfl ?_
      refine ev_isub dX2_addSums_72 ?_
      refine ev_iload dX2_addSums_73 rfl ?_
      obtain ⟨q13, hv14, h⟩ := ab_bind h
      refine ev_callV (st := []) (co_X2_addSumAt q11 ((2 * x8) - x7) x4 _ hv14) mv_X2_addSumAt sh_24 ml_RX2_112 dX2_addSums_75 (by decide) rfl (Nat.le_of_ble_eq_true rfl) ⟨Nat.le_refl _, Nat.le_refl _⟩ ?_
      refine ev_iload dX2_addSums_78 rfl ?_
      refine ev_iload dX2_addSums_80 rfl ?_
      refine ev_iadd dX2_addSums_82 ?_
      refine ev_iconst (x := 2) dX2_addSums_83 (by decide) ?_
      refine ev_irem dX2_addSums_84 (by decide) ?_
      obtain ⟨q15, hq16, h⟩ := ab_bind h
      have hJ17 : ab_Ev l D ac 3 me_X2_addSums n0 0 0 r 0 0 ab_SH 101 [some (.ref 24), some (.ref t1), some (.int x2), some (.int x3), some (.int x4), some (.int x5), some (.int x6), some (.int x7), some (.int x8)] [] q15 := by
        refine ev_iload dX2_addSums_101 rfl ?_
        refine ev_iconst (x := 1) dX2_addSums_103 (by decide) ?_
        refine ev_iload dX2_addSums_104 rfl ?_
        refine ev_max ml_RX2_57 dX2_addSums_106 (by decide) (Nat.le_of_ble_eq_true rfl) ⟨Nat.le_refl _, Nat.le_refl _⟩ ?_
        refine ev_iadd dX2_addSums_109 ?_
        refine ev_istore dX2_addSums_110 (Nat.le_of_ble_eq_true rfl) rfl rfl ?_
        refine ev_goto (t := 41) dX2_addSums_112 (by decide) ?_
        exact ih q15 t1 ht1 x2 x3 x4 x5 x6 x7 (x8 + (ab_max 1 x6)) _ h kk
      refine ev_if_ne (t := 101) dX2_addSums_85 (by decide) (fun hc18 => ?_) (fun hc18 => ?_)
      · replace hq16 := ab_neg hc18 hq16
        cases hq16
        exact hJ17
      · replace hq16 := ab_pos hc18 hq16
        refine ev_aload_n dX2_addSums_88 rfl ?_
        refine ev_iload dX2_addSums_89 rfl ?_
        refine ev_iload dX2_addSums_91 rfl ?_
        refine ev_iadd dX2_addSums_93 ?_
        refine ev_iconst (x := 2) dX2_addSums_94 (by decide) ?_
        refine ev_idiv dX2_addSums_95 (by decide) ?_
        refine ev_iload dX2_addSums_96 rfl ?_
        obtain ⟨q19, hv20, hq16⟩ := ab_bind hq16
        refine ev_callV (st := []) (co_X2_addSumAt q13 ((x7 + x8) / 2) x4 _ hv20) mv_X2_addSumAt sh_24 ml_RX2_112 dX2_addSums_98 (by decide) rfl (Nat.le_of_ble_eq_true rfl) ⟨Nat.le_refl _, Nat.le_refl _⟩ ?_
        cases hq16
        exact hJ17

noncomputable def mi_X2_addSums_25 : Nat → ab_M → Nat → Int32 → Int32 → Int32 → Int32 → Int32 → Int32 → Option (Int32 × ab_M)
  | 0, _, _, _, _, _, _, _, _ => none
  | n + 1, M, t1, x2, x3, x4, x5, x6, x7 =>
    ab_chk (vp_in x2 16) <|
    if ((M.1 t1 (x2).toNatClampNeg) + x5) < x7 then
      some (x7, M)
    else
      ab_chk (vp_in x3 16) <|
      (mi_X2_addSums_41 ab_F M t1 x2 x3 x4 x5 x6 x7 (M.1 t1 (x3).toNatClampNeg)).bind fun q21 =>
      mi_X2_addSums_25 n q21.2 t1 x2 x3 x4 x5 x6 (x7 + (ab_max 1 x5))

set_option maxHeartbeats 4000000 in
set_option maxRecDepth 100000 in
theorem lp_X2_addSums_25 {l : Launch} {D : va_G} {ac : Nat → ClassId} {n0 : Nat} {r : ab_Rs} : ∀ (n : Nat) (M : ab_M) (t1 : Nat) (ht1 : ab_isPlan t1) (x2 : Int32) (x3 : Int32) (x4 : Int32) (x5 : Int32) (x6 : Int32) (x7 : Int32) (q : Int32 × ab_M) (h : mi_X2_addSums_25 n M t1 x2 x3 x4 x5 x6 x7 = some q) (kk : ab_Ev l D ac 3 me_X2_addSums n0 0 0 r 0 0 ab_SH 129 [some (.ref 24), some (.ref t1), some (.int x2), some (.int x3), some (.int x4), some (.int x5), some (.int x6), some (.int q.1), none] [] q.2), ab_Ev l D ac 3 me_X2_addSums n0 0 0 r 0 0 ab_SH 25 [some (.ref 24), some (.ref t1), some (.int x2), some (.int x3), some (.int x4), some (.int x5), some (.int x6), some (.int x7), none] [] M := by
  intro n
  induction n with
  | zero =>
    intro M t1 ht1 x2 x3 x4 x5 x6 x7 q h kk
    cases h
  | succ n ih =>
    intro M t1 ht1 x2 x3 x4 x5 x6 x7 q h kk
    unfold mi_X2_addSums_25 at h
    refine ev_iload dX2_addSums_25 rfl ?_
    refine ev_aload_n dX2_addSums_27 rfl ?_
    refine ev_iload_n dX2_addSums_28 rfl ?_
    obtain ⟨hb6, h⟩ := ab_chk_some h
    refine ev_iaload ht1 hb6 dX2_addSums_29 ?_
    refine ev_iload dX2_addSums_30 rfl ?_
    refine ev_iadd dX2_addSums_32 ?_
    refine ev_icmp_gt (t := 129) dX2_addSums_33 (by decide) (fun hc7 => ?_) (fun hc7 => ?_)
    · replace h := ab_pos hc7 h
      cases h
      exact kk
    · replace h := ab_neg hc7 h
      refine ev_aload_n dX2_addSums_36 rfl ?_
      refine ev_iload_n dX2_addSums_37 rfl ?_
      obtain ⟨hb8, h⟩ := ab_chk_some h
      refine ev_iaload ht1 hb8 dX2_addSums_38 ?_
      refine ev_istore dX2_addSums_39 (Nat.le_of_ble_eq_true rfl) rfl rfl ?_
      obtain ⟨q21, hq22, h⟩ := ab_bind h
      refine lp_X2_addSums_41 _ M t1 ht1 x2 x3 x4 x5 x6 x7 (M.1 t1 (x3).toNatClampNeg) _ hq22 ?_
      refine ev_iload dX2_addSums_115 rfl ?_
      refine ev_iconst (x := 1) dX2_addSums_117 (by decide) ?_
      refine ev_iload dX2_addSums_118 rfl ?_
      refine ev_max ml_RX2_57 dX2_addSums_120 (by decide) (Nat.le_of_ble_eq_true rfl) ⟨Nat.le_refl _, Nat.le_refl _⟩ ?_
      refine ev_iadd dX2_addSums_123 ?_
      refine ev_istore dX2_addSums_124 (Nat.le_of_ble_eq_true rfl) rfl rfl ?_
      refine ev_goto (t := 25) dX2_addSums_126 (by decide) ?_
      refine ev_drop (lv' := [some (.ref 24), some (.ref t1), some (.int x2), some (.int x3), some (.int x4), some (.int x5), some (.int x6), some (.int (x7 + (ab_max 1 x5))), none]) (ab_sub_k (ab_sub_k (ab_sub_k (ab_sub_k (ab_sub_k (ab_sub_k (ab_sub_k (ab_sub_k (ab_sub_d ab_sub_nil))))))))) ?_
      exact ih q21.2 t1 ht1 x2 x3 x4 x5 x6 (x7 + (ab_max 1 x5)) _ h kk

noncomputable def mi_X2_addSums (M : ab_M) (t1 : Nat) (x2 : Int32) (x3 : Int32) (x4 : Int32) : Option (ab_M) :=
  (mi_X3_gapOf M x2).bind fun q1 =>
  (mi_X3_gapOf M x3).bind fun q3 =>
  ab_chk (vp_in x2 16) <|
  (mi_X2_addSums_25 ab_F M t1 x2 x3 x4 q1 q3 (M.1 t1 (x2).toNatClampNeg)).bind fun q23 =>
  some q23.2

set_option maxHeartbeats 4000000 in
set_option maxRecDepth 100000 in
theorem co_X2_addSums {l : Launch} {D : va_G} {ac : Nat → ClassId} (M : ab_M) (t1 : Nat) (ht1 : ab_isPlan t1) (x2 : Int32) (x3 : Int32) (x4 : Int32) (z : ab_M) (h : mi_X2_addSums M t1 x2 x3 x4 = some z) : ab_Con l D ac 3 me_X2_addSums 0 0 [.ref 24, .ref t1, .int x2, .int x3, .int x4] ab_SH M (none, ab_SH, z) := by
  refine ab_intro (lv := [some (.ref 24), some (.ref t1), some (.int x2), some (.int x3), some (.int x4), none, none, none, none]) (by decide) rfl (Nat.le_of_ble_eq_true rfl) rfl ?_
  unfold mi_X2_addSums at h
  refine ev_aload_n dX2_addSums_0 rfl ?_
  refine ev_getr (o' := 1) fl_RX2_15 sh_24 (by decide) (by decide) rfl rfl dX2_addSums_1 ?_
  refine ev_iload_n dX2_addSums_4 rfl ?_
  obtain ⟨q1, hv2, h⟩ := ab_bind h
  refine ev_callV (st := []) (co_X3_gapOf M x2 _ hv2) mv_X3_gapOf sh_1 ml_RX2_49 dX2_addSums_5 (by decide) rfl (Nat.le_of_ble_eq_true rfl) ⟨Nat.le_refl _, Nat.le_refl _⟩ ?_
  refine ev_istore dX2_addSums_8 (Nat.le_of_ble_eq_true rfl) rfl rfl ?_
  refine ev_aload_n dX2_addSums_10 rfl ?_
  refine ev_getr (o' := 1) fl_RX2_15 sh_24 (by decide) (by decide) rfl rfl dX2_addSums_11 ?_
  refine ev_iload_n dX2_addSums_14 rfl ?_
  obtain ⟨q3, hv4, h⟩ := ab_bind h
  refine ev_callV (st := []) (co_X3_gapOf M x3 _ hv4) mv_X3_gapOf sh_1 ml_RX2_49 dX2_addSums_15 (by decide) rfl (Nat.le_of_ble_eq_true rfl) ⟨Nat.le_refl _, Nat.le_refl _⟩ ?_
  refine ev_istore dX2_addSums_18 (Nat.le_of_ble_eq_true rfl) rfl rfl ?_
  refine ev_aload_n dX2_addSums_20 rfl ?_
  refine ev_iload_n dX2_addSums_21 rfl ?_
  obtain ⟨hb5, h⟩ := ab_chk_some h
  refine ev_iaload ht1 hb5 dX2_addSums_22 ?_
  refine ev_istore dX2_addSums_23 (Nat.le_of_ble_eq_true rfl) rfl rfl ?_
  obtain ⟨q23, hq24, h⟩ := ab_bind h
  refine lp_X2_addSums_25 _ M t1 ht1 x2 x3 x4 q1 q3 (M.1 t1 (x2).toNatClampNeg) _ hq24 ?_
  cases h
  exact ev_return rfl dX2_addSums_129

noncomputable def mi_X2_weigh_12 : Nat → ab_M → Nat → Int32 → Int32 → Int32 → Option (Int32 × ab_M)
  | 0, _, _, _, _, _ => none
  | n + 1, M, t1, x2, x3, x4 =>
    if 30 ≤ x4 then
      some (x4, M)
    else
      ((if ((ab_ushr x3 x4) &&& 1) = 0 then
        some 10
      else
        some 0) : Option (Int32)).bind fun q4 =>
      ab_chk (vp_in x4 30) <|
      mi_X2_weigh_12 n (ab_pi M 25 (x4).toNatClampNeg q4) t1 x2 x3 (x4 + 1)

set_option maxHeartbeats 4000000 in
set_option maxRecDepth 100000 in
theorem lp_X2_weigh_12 {l : Launch} {D : va_G} {ac : Nat → ClassId} {n0 : Nat} {r : ab_Rs} : ∀ (n : Nat) (M : ab_M) (t1 : Nat) (ht1 : ab_isPlan t1) (x2 : Int32) (x3 : Int32) (x4 : Int32) (q : Int32 × ab_M) (h : mi_X2_weigh_12 n M t1 x2 x3 x4 = some q) (kk : ab_Ev l D ac 5 me_X2_weigh n0 0 0 r 0 0 ab_SH 47 [some (.ref 24), some (.ref t1), some (.int x2), some (.int x3), some (.int q.1), none] [] q.2), ab_Ev l D ac 5 me_X2_weigh n0 0 0 r 0 0 ab_SH 12 [some (.ref 24), some (.ref t1), some (.int x2), some (.int x3), some (.int x4), none] [] M := by
  intro n
  induction n with
  | zero =>
    intro M t1 ht1 x2 x3 x4 q h kk
    cases h
  | succ n ih =>
    intro M t1 ht1 x2 x3 x4 q h kk
    unfold mi_X2_weigh_12 at h
    refine ev_iload dX2_weigh_12 rfl ?_
    refine ev_bipush (x := 30) dX2_weigh_14 (by decide) ?_
    refine ev_icmp_ge (t := 47) dX2_weigh_16 (by decide) (fun hc3 => ?_) (fun hc3 => ?_)
    · replace h := ab_pos hc3 h
      cases h
      exact kk
    · replace h := ab_neg hc3 h
      refine ev_aload_n dX2_weigh_19 rfl ?_
      refine ev_getr (o' := 25) fl_RX2_9 sh_24 (by decide) (by decide) rfl rfl dX2_weigh_20 ?_
      refine ev_iload dX2_weigh_23 rfl ?_
      refine ev_iload_n dX2_weigh_25 rfl ?_
      refine ev_iload dX2_weigh_26 rfl ?_
      refine ev_iushr dX2_weigh_28 ?_
      refine ev_iconst (x := 1) dX2_weigh_29 (by decide) ?_
      refine ev_iand dX2_weigh_30 ?_
      obtain ⟨q4, hq5, h⟩ := ab_bind h
      have hJ6 : ab_Ev l D ac 5 me_X2_weigh n0 0 0 r 0 0 ab_SH 40 [some (.ref 24), some (.ref t1), some (.int x2), some (.int x3), some (.int x4), none] [.int q4, .int x4, .ref 25] M := by
        obtain ⟨hb8, h⟩ := ab_chk_some h
        refine ev_iastore sh_25 hb8 dX2_weigh_40 ?_
        refine ev_iinc (y := x4 + 1) dX2_weigh_41 rfl (by first | rfl | decide) rfl rfl ?_
        refine ev_goto (t := 12) dX2_weigh_44 (by decide) ?_
        exact ih (ab_pi M 25 (x4).toNatClampNeg q4) t1 ht1 x2 x3 (x4 + 1) _ h kk
      refine ev_if_ne (t := 39) dX2_weigh_31 (by decide) (fun hc7 => ?_) (fun hc7 => ?_)
      · replace hq5 := ab_neg hc7 hq5
        refine ev_iconst (x := 0) dX2_weigh_39 (by decide) ?_
        cases hq5
        exact hJ6
      · replace hq5 := ab_pos hc7 hq5
        refine ev_bipush (x := 10) dX2_weigh_34 (by decide) ?_
        refine ev_goto (t := 40) dX2_weigh_36 (by decide) ?_
        cases hq5
        exact hJ6

noncomputable def mi_X2_weigh_92 : Nat → ab_M → Nat → Int32 → Int32 → Int32 → Option (Int32 × ab_M)
  | 0, _, _, _, _, _ => none
  | n + 1, M, t1, x2, x4, x5 =>
    if (M.1 1 8) ≤ x5 then
      some (x5, M)
    else
      ((if x5 = x2 then
        some M
      else
        (mi_X2_sumMates M t1 x4 x5 x2).bind fun q25 =>
        if q25 = 0 then
          some M
        else
          (mi_X3_gapOf M x2).bind fun q28 =>
          (mi_X2_addSums M t1 x4 x5 q28).bind fun q30 =>
          some q30) : Option (ab_M)).bind fun q21 =>
      mi_X2_weigh_92 n q21 t1 x2 x4 (x5 + 1)

set_option maxHeartbeats 4000000 in
set_option maxRecDepth 100000 in
theorem lp_X2_weigh_92 {l : Launch} {D : va_G} {ac : Nat → ClassId} {n0 : Nat} {r : ab_Rs} : ∀ (n : Nat) (M : ab_M) (t1 : Nat) (ht1 : ab_isPlan t1) (x2 : Int32) (x4 : Int32) (x5 : Int32) (q : Int32 × ab_M) (h : mi_X2_weigh_92 n M t1 x2 x4 x5 = some q) (kk : ab_Ev l D ac 5 me_X2_weigh n0 0 0 r 0 0 ab_SH 146 [some (.ref 24), some (.ref t1), some (.int x2), none, some (.int x4), some (.int q.1)] [] q.2), ab_Ev l D ac 5 me_X2_weigh n0 0 0 r 0 0 ab_SH 92 [some (.ref 24), some (.ref t1), some (.int x2), none, some (.int x4), some (.int x5)] [] M := by
  intro n
  induction n with
  | zero =>
    intro M t1 ht1 x2 x4 x5 q h kk
    cases h
  | succ n ih =>
    intro M t1 ht1 x2 x4 x5 q h kk
    unfold mi_X2_weigh_92 at h
    refine ev_iload dX2_weigh_92 rfl ?_
    refine ev_aload_n dX2_weigh_94 rfl ?_
    refine ev_getr (o' := 1) fl_RX2_15 sh_24 (by decide) (by decide) rfl rfl dX2_weigh_95 ?_
    refine ev_geti fl_RX2_19 sh_1 (by decide) (by decide) rfl dX2_weigh_98 ?_
    refine ev_icmp_ge (t := 146) dX2_weigh_101 (by decide) (fun hc20 => ?_) (fun hc20 => ?_)
    · replace h := ab_pos hc20 h
      cases h
      exact kk
    · replace h := ab_neg hc20 h
      refine ev_iload dX2_weigh_104 rfl ?_
      refine ev_iload_n dX2_weigh_106 rfl ?_
      obtain ⟨q21, hq22, h⟩ := ab_bind h
      have hJ23 : ab_Ev l D ac 5 me_X2_weigh n0 0 0 r 0 0 ab_SH 140 [some (.ref 24), some (.ref t1), some (.int x2), none, some (.int x4), some (.int x5)] [] q21 := by
        refine ev_iinc (y := x5 + 1) dX2_weigh_140 rfl (by first | rfl | decide) rfl rfl ?_
        refine ev_goto (t := 92) dX2_weigh_143 (by decide) ?_
        exact ih q21 t1 ht1 x2 x4 (x5 + 1) _ h kk
      refine ev_icmp_eq (t := 140) dX2_weigh_107 (by decide) (fun hc24 => ?_) (fun hc24 => ?_)
      · replace hq22 := ab_pos hc24 hq22
        cases hq22
        exact hJ23
      · replace hq22 := ab_neg hc24 hq22
        refine ev_aload_n dX2_weigh_110 rfl ?_
        refine ev_aload_n dX2_weigh_111 rfl ?_
        refine ev_iload dX2_weigh_112 rfl ?_
        refine ev_iload dX2_weigh_114 rfl ?_
        refine ev_iload_n dX2_weigh_116 rfl ?_
        obtain ⟨q25, hv26, hq22⟩ := ab_bind hq22
        refine ev_callV (st := []) (co_X2_sumMates M t1 ht1 x4 x5 x2 _ hv26) mv_X2_sumMates sh_24 ml_RX2_89 dX2_weigh_117 (by decide) rfl (Nat.le_of_ble_eq_true rfl) ⟨Nat.le_refl _, Nat.le_refl _⟩ ?_
        refine ev_if_eq (t := 140) dX2_weigh_120 (by decide) (fun hc27 => ?_) (fun hc27 => ?_)
        · replace hq22 := ab_pos hc27 hq22
          cases hq22
          exact hJ23
        · replace hq22 := ab_neg hc27 hq22
          refine ev_aload_n dX2_weigh_123 rfl ?_
          refine ev_aload_n dX2_weigh_124 rfl ?_
          refine ev_iload dX2_weigh_125 rfl ?_
          refine ev_iload dX2_weigh_127 rfl ?_
          refine ev_aload_n dX2_weigh_129 rfl ?_
          refine ev_getr (o' := 1) fl_RX2_15 sh_24 (by decide) (by decide) rfl rfl dX2_weigh_130 ?_
          refine ev_iload_n dX2_weigh_133 rfl ?_
          obtain ⟨q28, hv29, hq22⟩ := ab_bind hq22
          refine ev_callV (st := [.int x5, .int x4, .ref t1, .ref 24]) (co_X3_gapOf M x2 _ hv29) mv_X3_gapOf sh_1 ml_RX2_49 dX2_weigh_134 (by decide) rfl (Nat.le_of_ble_eq_true rfl) ⟨Nat.le_refl _, Nat.le_refl _⟩ ?_
          obtain ⟨q30, hv31, hq22⟩ := ab_bind hq22
          refine ev_callV (st := []) (co_X2_addSums M t1 ht1 x4 x5 q28 _ hv31) mv_X2_addSums sh_24 ml_RX2_105 dX2_weigh_137 (by decide) rfl (Nat.le_of_ble_eq_true rfl) ⟨Nat.le_refl _, Nat.le_refl _⟩ ?_
          cases hq22
          exact hJ23

noncomputable def mi_X2_weigh_50 : Nat → ab_M → Nat → Int32 → Int32 → Option (Int32 × ab_M)
  | 0, _, _, _, _ => none
  | n + 1, M, t1, x2, x4 =>
    if (M.1 1 8) ≤ x4 then
      some (x4, M)
    else
      ((if x4 = x2 then
        some M
      else
        ab_chk (vp_in x4 16) <|
        if 0 ≤ (M.1 t1 (x4).toNatClampNeg) then
          (mi_X2_addLacks M t1 x4 x2).bind fun q18 =>
          (mi_X2_weigh_92 ab_F q18 t1 x2 x4 (x4 + 1)).bind fun q32 =>
          some q32.2
        else
          some M) : Option (ab_M)).bind fun q12 =>
      mi_X2_weigh_50 n q12 t1 x2 (x4 + 1)

set_option maxHeartbeats 4000000 in
set_option maxRecDepth 100000 in
theorem lp_X2_weigh_50 {l : Launch} {D : va_G} {ac : Nat → ClassId} {n0 : Nat} {r : ab_Rs} : ∀ (n : Nat) (M : ab_M) (t1 : Nat) (ht1 : ab_isPlan t1) (x2 : Int32) (x4 : Int32) (q : Int32 × ab_M) (h : mi_X2_weigh_50 n M t1 x2 x4 = some q) (kk : ab_Ev l D ac 5 me_X2_weigh n0 0 0 r 0 0 ab_SH 152 [some (.ref 24), some (.ref t1), some (.int x2), none, some (.int q.1), none] [] q.2), ab_Ev l D ac 5 me_X2_weigh n0 0 0 r 0 0 ab_SH 50 [some (.ref 24), some (.ref t1), some (.int x2), none, some (.int x4), none] [] M := by
  intro n
  induction n with
  | zero =>
    intro M t1 ht1 x2 x4 q h kk
    cases h
  | succ n ih =>
    intro M t1 ht1 x2 x4 q h kk
    unfold mi_X2_weigh_50 at h
    refine ev_iload dX2_weigh_50 rfl ?_
    refine ev_aload_n dX2_weigh_52 rfl ?_
    refine ev_getr (o' := 1) fl_RX2_15 sh_24 (by decide) (by decide) rfl rfl dX2_weigh_53 ?_
    refine ev_geti fl_RX2_19 sh_1 (by decide) (by decide) rfl dX2_weigh_56 ?_
    refine ev_icmp_ge (t := 152) dX2_weigh_59 (by decide) (fun hc11 => ?_) (fun hc11 => ?_)
    · replace h := ab_pos hc11 h
      cases h
      exact kk
    · replace h := ab_neg hc11 h
      refine ev_iload dX2_weigh_62 rfl ?_
      refine ev_iload_n dX2_weigh_64 rfl ?_
      obtain ⟨q12, hq13, h⟩ := ab_bind h
      have hJ14 : ab_Ev l D ac 5 me_X2_weigh n0 0 0 r 0 0 ab_SH 146 [some (.ref 24), some (.ref t1), some (.int x2), none, some (.int x4), none] [] q12 := by
        refine ev_iinc (y := x4 + 1) dX2_weigh_146 rfl (by first | rfl | decide) rfl rfl ?_
        refine ev_goto (t := 50) dX2_weigh_149 (by decide) ?_
        exact ih q12 t1 ht1 x2 (x4 + 1) _ h kk
      refine ev_icmp_eq (t := 146) dX2_weigh_65 (by decide) (fun hc15 => ?_) (fun hc15 => ?_)
      · replace hq13 := ab_pos hc15 hq13
        cases hq13
        exact hJ14
      · replace hq13 := ab_neg hc15 hq13
        refine ev_aload_n dX2_weigh_68 rfl ?_
        refine ev_iload dX2_weigh_69 rfl ?_
        obtain ⟨hb16, hq13⟩ := ab_chk_some hq13
        refine ev_iaload ht1 hb16 dX2_weigh_71 ?_
        refine ev_if_ge (t := 78) dX2_weigh_72 (by decide) (fun hc17 => ?_) (fun hc17 => ?_)
        · replace hq13 := ab_pos hc17 hq13
          refine ev_aload_n dX2_weigh_78 rfl ?_
          refine ev_aload_n dX2_weigh_79 rfl ?_
          refine ev_iload dX2_weigh_80 rfl ?_
          refine ev_iload_n dX2_weigh_82 rfl ?_
          obtain ⟨q18, hv19, hq13⟩ := ab_bind hq13
          refine ev_callV (st := []) (co_X2_addLacks M t1 ht1 x4 x2 _ hv19) mv_X2_addLacks sh_24 ml_RX2_101 dX2_weigh_83 (by decide) rfl (Nat.le_of_ble_eq_true rfl) ⟨Nat.le_refl _, Nat.le_refl _⟩ ?_
          refine ev_iload dX2_weigh_86 rfl ?_
          refine ev_iconst (x := 1) dX2_weigh_88 (by decide) ?_
          refine ev_iadd dX2_weigh_89 ?_
          refine ev_istore dX2_weigh_90 (Nat.le_of_ble_eq_true rfl) rfl rfl ?_
          obtain ⟨q32, hq33, hq13⟩ := ab_bind hq13
          refine lp_X2_weigh_92 _ q18 t1 ht1 x2 x4 (x4 + 1) _ hq33 ?_
          cases hq13
          refine ev_drop (lv' := [some (.ref 24), some (.ref t1), some (.int x2), none, some (.int x4), none]) (ab_sub_k (ab_sub_k (ab_sub_k (ab_sub_k (ab_sub_k (ab_sub_d ab_sub_nil)))))) ?_
          exact hJ14
        · replace hq13 := ab_neg hc17 hq13
          refine ev_goto (t := 146) dX2_weigh_75 (by decide) ?_
          cases hq13
          exact hJ14

noncomputable def mi_X2_weigh (M : ab_M) (t1 : Nat) (x2 : Int32) : Option (Nat × ab_M) :=
  (mi_X3_allowed M x2).bind fun q1 =>
  (mi_X2_weigh_12 ab_F M t1 x2 q1 0).bind fun q9 =>
  (mi_X2_weigh_50 ab_F q9.2 t1 x2 0).bind fun q34 =>
  some (25, q34.2)

set_option maxHeartbeats 4000000 in
set_option maxRecDepth 100000 in
theorem co_X2_weigh {l : Launch} {D : va_G} {ac : Nat → ClassId} (M : ab_M) (t1 : Nat) (ht1 : ab_isPlan t1) (x2 : Int32) (z : Nat × ab_M) (h : mi_X2_weigh M t1 x2 = some z) : ab_Con l D ac 5 me_X2_weigh 0 0 [.ref 24, .ref t1, .int x2] ab_SH M (some (.ref z.1), ab_SH, z.2) := by
  refine ab_intro (lv := [some (.ref 24), some (.ref t1), some (.int x2), none, none, none]) (by decide) rfl (Nat.le_of_ble_eq_true rfl) rfl ?_
  unfold mi_X2_weigh at h
  refine ev_aload_n dX2_weigh_0 rfl ?_
  refine ev_getr (o' := 1) fl_RX2_15 sh_24 (by decide) (by decide) rfl rfl dX2_weigh_1 ?_
  refine ev_iload_n dX2_weigh_4 rfl ?_
  obtain ⟨q1, hv2, h⟩ := ab_bind h
  refine ev_callV (st := []) (co_X3_allowed M x2 _ hv2) mv_X3_allowed sh_1 ml_RX2_79 dX2_weigh_5 (by decide) rfl (Nat.le_of_ble_eq_true rfl) ⟨Nat.le_refl _, Nat.le_refl _⟩ ?_
  refine ev_istore_n dX2_weigh_8 (Nat.le_of_ble_eq_true rfl) rfl rfl ?_
  refine ev_iconst (x := 0) dX2_weigh_9 (by decide) ?_
  refine ev_istore dX2_weigh_10 (Nat.le_of_ble_eq_true rfl) rfl rfl ?_
  obtain ⟨q9, hq10, h⟩ := ab_bind h
  refine lp_X2_weigh_12 _ M t1 ht1 x2 q1 0 _ hq10 ?_
  refine ev_iconst (x := 0) dX2_weigh_47 (by decide) ?_
  refine ev_istore dX2_weigh_48 (Nat.le_of_ble_eq_true rfl) rfl rfl ?_
  obtain ⟨q34, hq35, h⟩ := ab_bind h
  refine ev_drop (lv' := [some (.ref 24), some (.ref t1), some (.int x2), none, some (.int 0), none]) (ab_sub_k (ab_sub_k (ab_sub_k (ab_sub_d (ab_sub_k (ab_sub_k ab_sub_nil)))))) ?_
  refine lp_X2_weigh_50 _ q9.2 t1 ht1 x2 0 _ hq35 ?_
  refine ev_aload_n dX2_weigh_152 rfl ?_
  refine ev_getr (o' := 25) fl_RX2_9 sh_24 (by decide) (by decide) rfl rfl dX2_weigh_153 ?_
  cases h
  exact ev_areturn rfl dX2_weigh_156
end
section
noncomputable def mi_X8_below (M : ab_M) (x0 : Int32) : Option (Int32) :=
  if 0 < x0 then
    if x0 < 30 then
      some ((1 <<< (x0 &&& 31)) - 1)
    else
      some 1073741823
  else
    some 0

set_option maxHeartbeats 4000000 in
set_option maxRecDepth 100000 in
theorem co_X8_below {l : Launch} {D : va_G} {ac : Nat → ClassId} (M : ab_M) (x0 : Int32) (z : Int32) (h : mi_X8_below M x0 = some z) : ab_Con l D ac 1 me_X8_below 0 0 [.int x0] ab_SH M (some (.int z), ab_SH, M) := by
  refine ab_intro (lv := [some (.int x0)]) (by decide) rfl (Nat.le_of_ble_eq_true rfl) rfl ?_
  unfold mi_X8_below at h
  refine ev_iload_n dX8_below_0 rfl ?_
  refine ev_if_gt (t := 8) dX8_below_1 (by decide) (fun hc1 => ?_) (fun hc1 => ?_)
  · replace h := ab_pos hc1 h
    refine ev_iload_n dX8_below_8 rfl ?_
    refine ev_bipush (x := 30) dX8_below_9 (by decide) ?_
    refine ev_icmp_lt (t := 19) dX8_below_11 (by decide) (fun hc2 => ?_) (fun hc2 => ?_)
    · replace h := ab_pos hc2 h
      refine ev_iconst (x := 1) dX8_below_19 (by decide) ?_
      refine ev_iload_n dX8_below_20 rfl ?_
      refine ev_ishl dX8_below_21 ?_
      refine ev_iconst (x := 1) dX8_below_22 (by decide) ?_
      refine ev_isub dX8_below_23 ?_
      cases h
      exact ev_ireturn rfl dX8_below_24
    · replace h := ab_neg hc2 h
      refine ev_ldc kw_RX8_68 dX8_below_14 ?_
      refine ev_goto (t := 24) dX8_below_16 (by decide) ?_
      cases h
      exact ev_ireturn rfl dX8_below_24
  · replace h := ab_neg hc1 h
    refine ev_iconst (x := 0) dX8_below_4 (by decide) ?_
    refine ev_goto (t := 24) dX8_below_5 (by decide) ?_
    cases h
    exact ev_ireturn rfl dX8_below_24

noncomputable def mi_X8_open (M : ab_M) (x1 : Int32) (x2 : Int32) : Option (ab_M) :=
  ab_chk (vp_in x1 16) <|
  (mi_X2_freeChannels (ab_pi M 28 (x1).toNatClampNeg 0) 27 x1 x1).bind fun q2 =>
  (mi_X3_gapOf (ab_pi M 28 (x1).toNatClampNeg 0) x1).bind fun q4 =>
  (mi_X8_below (ab_pi M 28 (x1).toNatClampNeg 0) (x2 - q4)).bind fun q6 =>
  ab_chk (vp_in x1 16) <|
  if x1 ≤ 0 then
    some (ab_pi (ab_pi M 28 (x1).toNatClampNeg 0) 29 (x1).toNatClampNeg (q2 &&& q6))
  else
    ab_chk (vp_in (x1 - 1) 16) <|
    ab_chk (vp_in x1 16) <|
    if ((ab_pi (ab_pi M 28 (x1).toNatClampNeg 0) 29 (x1).toNatClampNeg (q2 &&& q6)).1 3 (x1 - 1).toNatClampNeg) = ((ab_pi (ab_pi M 28 (x1).toNatClampNeg 0) 29 (x1).toNatClampNeg (q2 &&& q6)).1 3 (x1).toNatClampNeg) then
      ab_chk (vp_in x1 16) <|
      ab_chk (vp_in (x1 - 1) 16) <|
      (mi_X8_below (ab_pi (ab_pi M 28 (x1).toNatClampNeg 0) 29 (x1).toNatClampNeg (q2 &&& q6)) (((ab_pi (ab_pi M 28 (x1).toNatClampNeg 0) 29 (x1).toNatClampNeg (q2 &&& q6)).1 27 (x1 - 1).toNatClampNeg) + 1)).bind fun q15 =>
      ab_chk (vp_in x1 16) <|
      some (ab_pi (ab_pi (ab_pi M 28 (x1).toNatClampNeg 0) 29 (x1).toNatClampNeg (q2 &&& q6)) 29 (x1).toNatClampNeg (((ab_pi (ab_pi M 28 (x1).toNatClampNeg 0) 29 (x1).toNatClampNeg (q2 &&& q6)).1 29 (x1).toNatClampNeg) &&& (q15 ^^^ (-1))))
    else
      some (ab_pi (ab_pi M 28 (x1).toNatClampNeg 0) 29 (x1).toNatClampNeg (q2 &&& q6))

set_option maxHeartbeats 4000000 in
set_option maxRecDepth 100000 in
theorem co_X8_open {l : Launch} {D : va_G} {ac : Nat → ClassId} (M : ab_M) (x1 : Int32) (x2 : Int32) (z : ab_M) (h : mi_X8_open M x1 x2 = some z) : ab_Con l D ac 5 me_X8_open 0 0 [.ref 26, .int x1, .int x2] ab_SH M (none, ab_SH, z) := by
  refine ab_intro (lv := [some (.ref 26), some (.int x1), some (.int x2)]) (by decide) rfl (Nat.le_of_ble_eq_true rfl) rfl ?_
  unfold mi_X8_open at h
  refine ev_aload_n dX8_open_0 rfl ?_
  refine ev_getr (o' := 28) fl_RX8_15 sh_26 (by decide) (by decide) rfl rfl dX8_open_1 ?_
  refine ev_iload_n dX8_open_4 rfl ?_
  refine ev_iconst (x := 0) dX8_open_5 (by decide) ?_
  obtain ⟨hb1, h⟩ := ab_chk_some h
  refine ev_iastore sh_28 hb1 dX8_open_6 ?_
  refine ev_aload_n dX8_open_7 rfl ?_
  refine ev_getr (o' := 29) fl_RX8_18 sh_26 (by decide) (by decide) rfl rfl dX8_open_8 ?_
  refine ev_iload_n dX8_open_11 rfl ?_
  refine ev_aload_n dX8_open_12 rfl ?_
  refine ev_getr (o' := 24) fl_RX8_25 sh_26 (by decide) (by decide) rfl rfl dX8_open_13 ?_
  refine ev_aload_n dX8_open_16 rfl ?_
  refine ev_getr (o' := 27) fl_RX8_9 sh_26 (by decide) (by decide) rfl rfl dX8_open_17 ?_
  refine ev_iload_n dX8_open_20 rfl ?_
  refine ev_iload_n dX8_open_21 rfl ?_
  obtain ⟨q2, hv3, h⟩ := ab_bind h
  refine ev_callV (st := [.int x1, .ref 29]) (co_X2_freeChannels (ab_pi M 28 (x1).toNatClampNeg 0) 27 sh_27 x1 x1 _ hv3) mv_X2_freeChannels sh_24 ml_RX8_52 dX8_open_22 (by decide) rfl (Nat.le_of_ble_eq_true rfl) ⟨Nat.le_refl _, Nat.le_refl _⟩ ?_
  refine ev_iload_n dX8_open_25 rfl ?_
  refine ev_aload_n dX8_open_26 rfl ?_
  refine ev_getr (o' := 1) fl_RX8_21 sh_26 (by decide) (by decide) rfl rfl dX8_open_27 ?_
  refine ev_iload_n dX8_open_30 rfl ?_
  obtain ⟨q4, hv5, h⟩ := ab_bind h
  refine ev_callV (st := [.int x2, .int q2, .int x1, .ref 29]) (co_X3_gapOf (ab_pi M 28 (x1).toNatClampNeg 0) x1 _ hv5) mv_X3_gapOf sh_1 ml_RX8_58 dX8_open_31 (by decide) rfl (Nat.le_of_ble_eq_true rfl) ⟨Nat.le_refl _, Nat.le_refl _⟩ ?_
  refine ev_isub dX8_open_34 ?_
  obtain ⟨q6, hv7, h⟩ := ab_bind h
  refine ev_callS (st := [.int q2, .int x1, .ref 29]) (co_X8_below (ab_pi M 28 (x1).toNatClampNeg 0) (x2 - q4) _ hv7) mv_X8_below ml_RX8_62 dX8_open_35 (by decide) rfl (Nat.le_of_ble_eq_true rfl) ⟨Nat.le_refl _, Nat.le_refl _⟩ ?_
  refine ev_iand dX8_open_38 ?_
  obtain ⟨hb8, h⟩ := ab_chk_some h
  refine ev_iastore sh_29 hb8 dX8_open_39 ?_
  refine ev_iload_n dX8_open_40 rfl ?_
  refine ev_if_le (t := 91) dX8_open_41 (by decide) (fun hc9 => ?_) (fun hc9 => ?_)
  · replace h := ab_pos hc9 h
    cases h
    exact ev_return rfl dX8_open_91
  · replace h := ab_neg hc9 h
    refine ev_aload_n dX8_open_44 rfl ?_
    refine ev_getr (o' := 1) fl_RX8_21 sh_26 (by decide) (by decide) rfl rfl dX8_open_45 ?_
    refine ev_getr (o' := 3) fl_RX8_65 sh_1 (by decide) (by decide) rfl rfl dX8_open_48 ?_
    refine ev_iload_n dX8_open_51 rfl ?_
    refine ev_iconst (x := 1) dX8_open_52 (by decide) ?_
    refine ev_isub dX8_open_53 ?_
    obtain ⟨hb10, h⟩ := ab_chk_some h
    refine ev_iaload sh_3 hb10 dX8_open_54 ?_
    refine ev_aload_n dX8_open_55 rfl ?_
    refine ev_getr (o' := 1) fl_RX8_21 sh_26 (by decide) (by decide) rfl rfl dX8_open_56 ?_
    refine ev_getr (o' := 3) fl_RX8_65 sh_1 (by decide) (by decide) rfl rfl dX8_open_59 ?_
    refine ev_iload_n dX8_open_62 rfl ?_
    obtain ⟨hb11, h⟩ := ab_chk_some h
    refine ev_iaload sh_3 hb11 dX8_open_63 ?_
    refine ev_icmp_ne (t := 91) dX8_open_64 (by decide) (fun hc12 => ?_) (fun hc12 => ?_)
    · replace h := ab_neg hc12 h
      cases h
      exact ev_return rfl dX8_open_91
    · replace h := ab_pos hc12 h
      refine ev_aload_n dX8_open_67 rfl ?_
      refine ev_getr (o' := 29) fl_RX8_18 sh_26 (by decide) (by decide) rfl rfl dX8_open_68 ?_
      refine ev_iload_n dX8_open_71 rfl ?_
      refine ev_dup2 dX8_open_72 rfl rfl ?_
      obtain ⟨hb13, h⟩ := ab_chk_some h
      refine ev_iaload sh_29 hb13 dX8_open_73 ?_
      refine ev_aload_n dX8_open_74 rfl ?_
      refine ev_getr (o' := 27) fl_RX8_9 sh_26 (by decide) (by decide) rfl rfl dX8_open_75 ?_
      refine ev_iload_n dX8_open_78 rfl ?_
      refine ev_iconst (x := 1) dX8_open_79 (by decide) ?_
      refine ev_isub dX8_open_80 ?_
      obtain ⟨hb14, h⟩ := ab_chk_some h
      refine ev_iaload sh_27 hb14 dX8_open_81 ?_
      refine ev_iconst (x := 1) dX8_open_82 (by decide) ?_
      refine ev_iadd dX8_open_83 ?_
      obtain ⟨q15, hv16, h⟩ := ab_bind h
      refine ev_callS (st := [.int ((ab_pi (ab_pi M 28 (x1).toNatClampNeg 0) 29 (x1).toNatClampNeg (q2 &&& q6)).1 29 (x1).toNatClampNeg), .int x1, .ref 29]) (co_X8_below (ab_pi (ab_pi M 28 (x1).toNatClampNeg 0) 29 (x1).toNatClampNeg (q2 &&& q6)) (((ab_pi (ab_pi M 28 (x1).toNatClampNeg 0) 29 (x1).toNatClampNeg (q2 &&& q6)).1 27 (x1 - 1).toNatClampNeg) + 1) _ hv16) mv_X8_below ml_RX8_62 dX8_open_84 (by decide) rfl (Nat.le_of_ble_eq_true rfl) ⟨Nat.le_refl _, Nat.le_refl _⟩ ?_
      refine ev_iconst (x := (-1)) dX8_open_87 (by decide) ?_
      refine ev_ixor dX8_open_88 ?_
      refine ev_iand dX8_open_89 ?_
      obtain ⟨hb17, h⟩ := ab_chk_some h
      refine ev_iastore sh_29 hb17 dX8_open_90 ?_
      cases h
      exact ev_return rfl dX8_open_91

noncomputable def mi_X8_takes (M : ab_M) (x1 : Int32) : Option (Int32 × ab_M) :=
  ab_chk (vp_in x1 16) <|
  ab_chk (vp_in x1 16) <|
  ab_chk (vp_in x1 16) <|
  ab_chk (vp_in x1 16) <|
  ab_chk (vp_in x1 16) <|
  if ((ab_ushr ((ab_pi (ab_pi (ab_pi M 26 5 ((M.1 26 5) + 1)) 28 (x1).toNatClampNeg (((ab_pi M 26 5 ((M.1 26 5) + 1)).1 28 (x1).toNatClampNeg) + 1)) 27 (x1).toNatClampNeg (M.1 28 (x1).toNatClampNeg)).1 29 (x1).toNatClampNeg) (M.1 28 (x1).toNatClampNeg)) &&& 1) = 0 then
    some (0, (ab_pi (ab_pi (ab_pi M 26 5 ((M.1 26 5) + 1)) 28 (x1).toNatClampNeg (((ab_pi M 26 5 ((M.1 26 5) + 1)).1 28 (x1).toNatClampNeg) + 1)) 27 (x1).toNatClampNeg (M.1 28 (x1).toNatClampNeg)))
  else
    some (1, (ab_pi (ab_pi (ab_pi M 26 5 ((M.1 26 5) + 1)) 28 (x1).toNatClampNeg (((ab_pi M 26 5 ((M.1 26 5) + 1)).1 28 (x1).toNatClampNeg) + 1)) 27 (x1).toNatClampNeg (M.1 28 (x1).toNatClampNeg)))

set_option maxHeartbeats 4000000 in
set_option maxRecDepth 100000 in
theorem co_X8_takes {l : Launch} {D : va_G} {ac : Nat → ClassId} (M : ab_M) (x1 : Int32) (z : Int32 × ab_M) (h : mi_X8_takes M x1 = some z) : ab_Con l D ac 1 me_X8_takes 0 0 [.ref 26, .int x1] ab_SH M (some (.int z.1), ab_SH, z.2) := by
  refine ab_intro (lv := [some (.ref 26), some (.int x1), none]) (by decide) rfl (Nat.le_of_ble_eq_true rfl) rfl ?_
  unfold mi_X8_takes at h
  refine ev_aload_n dX8_takes_0 rfl ?_
  refine ev_getr (o' := 28) fl_RX8_15 sh_26 (by decide) (by decide) rfl rfl dX8_takes_1 ?_
  refine ev_iload_n dX8_takes_4 rfl ?_
  obtain ⟨hb1, h⟩ := ab_chk_some h
  refine ev_iaload sh_28 hb1 dX8_takes_5 ?_
  refine ev_istore_n dX8_takes_6 (Nat.le_of_ble_eq_true rfl) rfl rfl ?_
  refine ev_aload_n dX8_takes_7 rfl ?_
  refine ev_dup dX8_takes_8 rfl ?_
  refine ev_geti fl_RX8_39 sh_26 (by decide) (by decide) rfl dX8_takes_9 ?_
  refine ev_iconst (x := 1) dX8_takes_12 (by decide) ?_
  refine ev_iadd dX8_takes_13 ?_
  refine ev_puti fl_RX8_39 sh_26 (by decide) (by decide) rfl rfl rfl dX8_takes_14 ?_
  refine ev_aload_n dX8_takes_17 rfl ?_
  refine ev_getr (o' := 28) fl_RX8_15 sh_26 (by decide) (by decide) rfl rfl dX8_takes_18 ?_
  refine ev_iload_n dX8_takes_21 rfl ?_
  refine ev_dup2 dX8_takes_22 rfl rfl ?_
  obtain ⟨hb2, h⟩ := ab_chk_some h
  refine ev_iaload sh_28 hb2 dX8_takes_23 ?_
  refine ev_iconst (x := 1) dX8_takes_24 (by decide) ?_
  refine ev_iadd dX8_takes_25 ?_
  obtain ⟨hb3, h⟩ := ab_chk_some h
  refine ev_iastore sh_28 hb3 dX8_takes_26 ?_
  refine ev_aload_n dX8_takes_27 rfl ?_
  refine ev_getr (o' := 27) fl_RX8_9 sh_26 (by decide) (by decide) rfl rfl dX8_takes_28 ?_
  refine ev_iload_n dX8_takes_31 rfl ?_
  refine ev_iload_n dX8_takes_32 rfl ?_
  obtain ⟨hb4, h⟩ := ab_chk_some h
  refine ev_iastore sh_27 hb4 dX8_takes_33 ?_
  refine ev_aload_n dX8_takes_34 rfl ?_
  refine ev_getr (o' := 29) fl_RX8_18 sh_26 (by decide) (by decide) rfl rfl dX8_takes_35 ?_
  refine ev_iload_n dX8_takes_38 rfl ?_
  obtain ⟨hb5, h⟩ := ab_chk_some h
  refine ev_iaload sh_29 hb5 dX8_takes_39 ?_
  refine ev_iload_n dX8_takes_40 rfl ?_
  refine ev_iushr dX8_takes_41 ?_
  refine ev_iconst (x := 1) dX8_takes_42 (by decide) ?_
  refine ev_iand dX8_takes_43 ?_
  refine ev_if_eq (t := 51) dX8_takes_44 (by decide) (fun hc6 => ?_) (fun hc6 => ?_)
  · replace h := ab_pos hc6 h
    refine ev_iconst (x := 0) dX8_takes_51 (by decide) ?_
    cases h
    exact ev_zreturn rfl (Or.inl rfl) dX8_takes_52
  · replace h := ab_neg hc6 h
    refine ev_iconst (x := 1) dX8_takes_47 (by decide) ?_
    refine ev_goto (t := 52) dX8_takes_48 (by decide) ?_
    cases h
    exact ev_zreturn rfl (Or.inr rfl) dX8_takes_52

noncomputable def mi_X8_search_22 : Nat → ab_M → Int32 → Int32 → Int32 → Option (Sum (Int32 × Int32 × ab_M) (Int32 × ab_M))
  | 0, _, _, _, _ => none
  | n + 1, M, x1, x2, x3 =>
    if 8001 < x3 then
      some (.inl (x2, x3, M))
    else
      ab_chk (vp_in x2 16) <|
      if (M.1 28 (x2).toNatClampNeg) < x1 then
        if (M.1 26 5) < 4000 then
          (mi_X8_takes M x2).bind fun q8 =>
          if q8.1 = 0 then
            mi_X8_search_22 n q8.2 x1 x2 (x3 + 1)
          else
            if (x2 + 1) < (q8.2.1 1 8) then
              (mi_X8_open q8.2 (x2 + 1) x1).bind fun q12 =>
              mi_X8_search_22 n q12 x1 (x2 + 1) (x3 + 1)
            else
              some (.inr (1, q8.2))
        else
          some (.inr ((-2), M))
      else
        if 0 ≤ (x2 + (-1)) then
          mi_X8_search_22 n M x1 (x2 + (-1)) (x3 + 1)
        else
          some (.inr (0, M))

set_option maxHeartbeats 4000000 in
set_option maxRecDepth 100000 in
theorem lp_X8_search_22 {l : Launch} {D : va_G} {ac : Nat → ClassId} {n0 : Nat} {r : ab_Rs} : ∀ (n : Nat) (M : ab_M) (x1 : Int32) (x2 : Int32) (x3 : Int32) (q : Sum (Int32 × Int32 × ab_M) (Int32 × ab_M)) (h : mi_X8_search_22 n M x1 x2 x3 = some q) (kk : ∀ y, q = .inl y → ab_Ev l D ac 6 me_X8_search n0 0 0 r 0 0 ab_SH 100 [some (.ref 26), some (.int x1), some (.int y.1), some (.int y.2.1)] [] y.2.2) (kr : ∀ v, q = .inr v → r = (some (.int v.1), ab_SH, v.2)), ab_Ev l D ac 6 me_X8_search n0 0 0 r 0 0 ab_SH 22 [some (.ref 26), some (.int x1), some (.int x2), some (.int x3)] [] M := by
  intro n
  induction n with
  | zero =>
    intro M x1 x2 x3 q h kk kr
    cases h
  | succ n ih =>
    intro M x1 x2 x3 q h kk kr
    unfold mi_X8_search_22 at h
    refine ev_iload_n dX8_search_22 rfl ?_
    refine ev_sipush (x := 8001) dX8_search_23 (by decide) ?_
    refine ev_icmp_gt (t := 100) dX8_search_26 (by decide) (fun hc4 => ?_) (fun hc4 => ?_)
    · replace h := ab_pos hc4 h
      cases h
      exact kk _ rfl
    · replace h := ab_neg hc4 h
      refine ev_aload_n dX8_search_29 rfl ?_
      refine ev_getr (o' := 28) fl_RX8_15 sh_26 (by decide) (by decide) rfl rfl dX8_search_30 ?_
      refine ev_iload_n dX8_search_33 rfl ?_
      obtain ⟨hb5, h⟩ := ab_chk_some h
      refine ev_iaload sh_28 hb5 dX8_search_34 ?_
      refine ev_iload_n dX8_search_35 rfl ?_
      refine ev_icmp_lt (t := 48) dX8_search_36 (by decide) (fun hc6 => ?_) (fun hc6 => ?_)
      · replace h := ab_pos hc6 h
        refine ev_aload_n dX8_search_48 rfl ?_
        refine ev_geti fl_RX8_39 sh_26 (by decide) (by decide) rfl dX8_search_49 ?_
        refine ev_sipush (x := 4000) dX8_search_52 (by decide) ?_
        refine ev_icmp_lt (t := 61) dX8_search_55 (by decide) (fun hc7 => ?_) (fun hc7 => ?_)
        · replace h := ab_pos hc7 h
          refine ev_aload_n dX8_search_61 rfl ?_
          refine ev_iload_n dX8_search_62 rfl ?_
          obtain ⟨q8, hv9, h⟩ := ab_bind h
          refine ev_callV (st := []) (co_X8_takes M x2 _ hv9) mv_X8_takes sh_26 ml_RX8_42 dX8_search_63 (by decide) rfl (Nat.le_of_ble_eq_true rfl) ⟨Nat.le_refl _, Nat.le_refl _⟩ ?_
          refine ev_if_ne (t := 72) dX8_search_66 (by decide) (fun hc10 => ?_) (fun hc10 => ?_)
          · replace h := ab_neg hc10 h
            refine ev_iinc (y := x2 + 1) dX8_search_72 rfl (by first | rfl | decide) rfl rfl ?_
            refine ev_iload_n dX8_search_75 rfl ?_
            refine ev_aload_n dX8_search_76 rfl ?_
            refine ev_getr (o' := 1) fl_RX8_21 sh_26 (by decide) (by decide) rfl rfl dX8_search_77 ?_
            refine ev_geti fl_RX8_29 sh_1 (by decide) (by decide) rfl dX8_search_80 ?_
            refine ev_icmp_lt (t := 88) dX8_search_83 (by decide) (fun hc11 => ?_) (fun hc11 => ?_)
            · replace h := ab_pos hc11 h
              refine ev_aload_n dX8_search_88 rfl ?_
              refine ev_iload_n dX8_search_89 rfl ?_
              refine ev_iload_n dX8_search_90 rfl ?_
              obtain ⟨q12, hv13, h⟩ := ab_bind h
              refine ev_callV (st := []) (co_X8_open q8.2 (x2 + 1) x1 _ hv13) mv_X8_open sh_26 ml_RX8_35 dX8_search_91 (by decide) rfl (Nat.le_of_ble_eq_true rfl) ⟨Nat.le_refl _, Nat.le_refl _⟩ ?_
              refine ev_iinc (y := x3 + 1) dX8_search_94 rfl (by first | rfl | decide) rfl rfl ?_
              refine ev_goto (t := 22) dX8_search_97 (by decide) ?_
              exact ih q12 x1 (x2 + 1) (x3 + 1) _ h kk kr
            · replace h := ab_neg hc11 h
              refine ev_iconst (x := 1) dX8_search_86 (by decide) ?_
              cases h
              rw [kr _ rfl]
              exact ev_ireturn rfl dX8_search_87
          · replace h := ab_pos hc10 h
            refine ev_goto (t := 94) dX8_search_69 (by decide) ?_
            refine ev_iinc (y := x3 + 1) dX8_search_94 rfl (by first | rfl | decide) rfl rfl ?_
            refine ev_goto (t := 22) dX8_search_97 (by decide) ?_
            exact ih q8.2 x1 x2 (x3 + 1) _ h kk kr
        · replace h := ab_neg hc7 h
          refine ev_bipush (x := (-2)) dX8_search_58 (by decide) ?_
          cases h
          rw [kr _ rfl]
          exact ev_ireturn rfl dX8_search_60
      · replace h := ab_neg hc6 h
        refine ev_iinc (y := x2 + (-1)) dX8_search_39 rfl (by first | rfl | decide) rfl rfl ?_
        refine ev_iload_n dX8_search_42 rfl ?_
        refine ev_if_ge (t := 94) dX8_search_43 (by decide) (fun hc14 => ?_) (fun hc14 => ?_)
        · replace h := ab_pos hc14 h
          refine ev_iinc (y := x3 + 1) dX8_search_94 rfl (by first | rfl | decide) rfl rfl ?_
          refine ev_goto (t := 22) dX8_search_97 (by decide) ?_
          exact ih M x1 (x2 + (-1)) (x3 + 1) _ h kk kr
        · replace h := ab_neg hc14 h
          refine ev_iconst (x := 0) dX8_search_46 (by decide) ?_
          cases h
          rw [kr _ rfl]
          exact ev_ireturn rfl dX8_search_47

noncomputable def mi_X8_search (M : ab_M) (x1 : Int32) : Option (Int32 × ab_M) :=
  if (M.1 1 8) = 0 then
    some (1, M)
  else
    (mi_X8_open M 0 x1).bind fun q2 =>
    (mi_X8_search_22 ab_F q2 x1 0 0).bind fun q18 => Sum.elim (fun q15 =>
    some ((-2), q15.2.2)) (fun v17 => some v17) q18

set_option maxHeartbeats 4000000 in
set_option maxRecDepth 100000 in
theorem co_X8_search {l : Launch} {D : va_G} {ac : Nat → ClassId} (M : ab_M) (x1 : Int32) (z : Int32 × ab_M) (h : mi_X8_search M x1 = some z) : ab_Con l D ac 6 me_X8_search 0 0 [.ref 26, .int x1] ab_SH M (some (.int z.1), ab_SH, z.2) := by
  refine ab_intro (lv := [some (.ref 26), some (.int x1), none, none]) (by decide) rfl (Nat.le_of_ble_eq_true rfl) rfl ?_
  unfold mi_X8_search at h
  refine ev_aload_n dX8_search_0 rfl ?_
  refine ev_getr (o' := 1) fl_RX8_21 sh_26 (by decide) (by decide) rfl rfl dX8_search_1 ?_
  refine ev_geti fl_RX8_29 sh_1 (by decide) (by decide) rfl dX8_search_4 ?_
  refine ev_if_ne (t := 12) dX8_search_7 (by decide) (fun hc1 => ?_) (fun hc1 => ?_)
  · replace h := ab_neg hc1 h
    refine ev_iconst (x := 0) dX8_search_12 (by decide) ?_
    refine ev_istore_n dX8_search_13 (Nat.le_of_ble_eq_true rfl) rfl rfl ?_
    refine ev_aload_n dX8_search_14 rfl ?_
    refine ev_iload_n dX8_search_15 rfl ?_
    refine ev_iload_n dX8_search_16 rfl ?_
    obtain ⟨q2, hv3, h⟩ := ab_bind h
    refine ev_callV (st := []) (co_X8_open M 0 x1 _ hv3) mv_X8_open sh_26 ml_RX8_35 dX8_search_17 (by decide) rfl (Nat.le_of_ble_eq_true rfl) ⟨Nat.le_refl _, Nat.le_refl _⟩ ?_
    refine ev_iconst (x := 0) dX8_search_20 (by decide) ?_
    refine ev_istore_n dX8_search_21 (Nat.le_of_ble_eq_true rfl) rfl rfl ?_
    obtain ⟨q18, hq16, h⟩ := ab_bind h
    rcases ab_elim h with ⟨q15, rfl, h⟩ | ⟨v17, rfl, h⟩
    · refine lp_X8_search_22 _ q2 x1 0 0 _ hq16 (fun z e19 => ?_) (fun z e19 => by cases e19)
      cases e19
      refine ev_bipush (x := (-2)) dX8_search_100 (by decide) ?_
      cases h
      exact ev_ireturn rfl dX8_search_102
    · refine lp_X8_search_22 _ q2 x1 0 0 _ hq16 (fun z e19 => by cases e19) (fun z e19 => ?_)
      cases e19
      cases h
      rfl
  · replace h := ab_pos hc1 h
    refine ev_iconst (x := 1) dX8_search_10 (by decide) ?_
    cases h
    exact ev_ireturn rfl dX8_search_11

noncomputable def mi_X8_handOver (M : ab_M) (t1 : Nat) : Option (ab_M) :=
  ab_chk (¬ (0 : Int32) < 0 ∧ ¬ (0 : Int32) < 0 ∧ ¬ ((M.1 1 8) : Int32) < 0 ∧ (0 : Int32).toNatClampNeg + (M.1 1 8 : Int32).toNatClampNeg ≤ 16 ∧ (0 : Int32).toNatClampNeg + (M.1 1 8 : Int32).toNatClampNeg ≤ 16) <|
  some (ab_cpi M 27 t1 0 0 (M.1 1 8))

set_option maxHeartbeats 4000000 in
set_option maxRecDepth 100000 in
theorem co_X8_handOver {l : Launch} {D : va_G} {ac : Nat → ClassId} (M : ab_M) (t1 : Nat) (ht1 : ab_isPlan t1) (z : ab_M) (h : mi_X8_handOver M t1 = some z) : ab_Con l D ac 2 me_X8_handOver 0 0 [.ref 26, .ref t1] ab_SH M (none, ab_SH, z) := by
  refine ab_intro (lv := [some (.ref 26), some (.ref t1)]) (by decide) rfl (Nat.le_of_ble_eq_true rfl) rfl ?_
  unfold mi_X8_handOver at h
  refine ev_aload_n dX8_handOver_0 rfl ?_
  refine ev_getr (o' := 27) fl_RX8_9 sh_26 (by decide) (by decide) rfl rfl dX8_handOver_1 ?_
  refine ev_iconst (x := 0) dX8_handOver_4 (by decide) ?_
  refine ev_aload_n dX8_handOver_5 rfl ?_
  refine ev_iconst (x := 0) dX8_handOver_6 (by decide) ?_
  refine ev_aload_n dX8_handOver_7 rfl ?_
  refine ev_getr (o' := 1) fl_RX8_21 sh_26 (by decide) (by decide) rfl rfl dX8_handOver_8 ?_
  refine ev_geti fl_RX8_29 sh_1 (by decide) (by decide) rfl dX8_handOver_11 ?_
  obtain ⟨hb1, h⟩ := ab_chk_some h
  refine ev_copyi ml_RX8_46 sh_27 ht1 hb1 dX8_handOver_14 (by decide) (Nat.le_of_ble_eq_true rfl) ?_
  cases h
  exact ev_return rfl dX8_handOver_17
end
section
noncomputable def mi_X5_canChange (M : ab_M) (t1 : Nat) (x2 : Int32) : Option (Int32) :=
  ab_chk (vp_in x2 16) <|
  if (M.1 t1 (x2).toNatClampNeg) < 0 then
    some 0
  else
    ab_chk (vp_in x2 16) <|
    if (M.1 4 (x2).toNatClampNeg) = (-2) then
      some 1
    else
      some 0

set_option maxHeartbeats 4000000 in
set_option maxRecDepth 100000 in
theorem co_X5_canChange {l : Launch} {D : va_G} {ac : Nat → ClassId} (M : ab_M) (t1 : Nat) (ht1 : ab_isPlan t1) (x2 : Int32) (z : Int32) (h : mi_X5_canChange M t1 x2 = some z) : ab_Con l D ac 1 me_X5_canChange 0 0 [.ref 30, .ref t1, .int x2] ab_SH M (some (.int z), ab_SH, M) := by
  refine ab_intro (lv := [some (.ref 30), some (.ref t1), some (.int x2)]) (by decide) rfl (Nat.le_of_ble_eq_true rfl) rfl ?_
  unfold mi_X5_canChange at h
  refine ev_aload_n dX5_canChange_0 rfl ?_
  refine ev_iload_n dX5_canChange_1 rfl ?_
  obtain ⟨hb1, h⟩ := ab_chk_some h
  refine ev_iaload ht1 hb1 dX5_canChange_2 ?_
  refine ev_if_lt (t := 24) dX5_canChange_3 (by decide) (fun hc2 => ?_) (fun hc2 => ?_)
  · replace h := ab_pos hc2 h
    refine ev_iconst (x := 0) dX5_canChange_24 (by decide) ?_
    cases h
    exact ev_zreturn rfl (Or.inl rfl) dX5_canChange_25
  · replace h := ab_neg hc2 h
    refine ev_aload_n dX5_canChange_6 rfl ?_
    refine ev_getr (o' := 1) fl_RX5_9 sh_30 (by decide) (by decide) rfl rfl dX5_canChange_7 ?_
    refine ev_getr (o' := 4) fl_RX5_19 sh_1 (by decide) (by decide) rfl rfl dX5_canChange_10 ?_
    refine ev_iload_n dX5_canChange_13 rfl ?_
    obtain ⟨hb3, h⟩ := ab_chk_some h
    refine ev_iaload sh_4 hb3 dX5_canChange_14 ?_
    refine ev_bipush (x := (-2)) dX5_canChange_15 (by decide) ?_
    refine ev_icmp_ne (t := 24) dX5_canChange_17 (by decide) (fun hc4 => ?_) (fun hc4 => ?_)
    · replace h := ab_neg hc4 h
      refine ev_iconst (x := 0) dX5_canChange_24 (by decide) ?_
      cases h
      exact ev_zreturn rfl (Or.inl rfl) dX5_canChange_25
    · replace h := ab_pos hc4 h
      refine ev_iconst (x := 1) dX5_canChange_20 (by decide) ?_
      refine ev_goto (t := 25) dX5_canChange_21 (by decide) ?_
      cases h
      exact ev_zreturn rfl (Or.inr rfl) dX5_canChange_25

noncomputable def mi_X5_improve_72 : Nat → ab_M → Nat → Int32 → Int32 → Int32 → Int32 → Int32 → Int32 → Int32 → Option (Int32 × Int32 × Int32 × Int32)
  | 0, _, _, _, _, _, _, _, _, _ => none
  | n + 1, M, t1, x2, x3, x4, x5, x6, x8, x9 =>
    if 30 ≤ x9 then
      some (x2, x3, x4, x9)
    else
      ((if ((ab_ushr x6 x9) &&& 1) = 0 then
        some (x2, x3, x4)
      else
        ab_chk (vp_in x9 30) <|
        if (x8 - (M.1 25 (x9).toNatClampNeg)) ≤ x2 then
          some (x2, x3, x4)
        else
          ab_chk (vp_in x9 30) <|
          some (x8 - (M.1 25 (x9).toNatClampNeg), x5, x9)) : Option (Int32 × Int32 × Int32)).bind fun q18 =>
      mi_X5_improve_72 n M t1 q18.1 q18.2.1 q18.2.2 x5 x6 x8 (x9 + 1)

set_option maxHeartbeats 4000000 in
set_option maxRecDepth 100000 in
theorem lp_X5_improve_72 {l : Launch} {D : va_G} {ac : Nat → ClassId} {n0 : Nat} {r : ab_Rs} : ∀ (n : Nat) (M : ab_M) (t1 : Nat) (ht1 : ab_isPlan t1) (x2 : Int32) (x3 : Int32) (x4 : Int32) (x5 : Int32) (x6 : Int32) (x8 : Int32) (x9 : Int32) (q : Int32 × Int32 × Int32 × Int32) (h : mi_X5_improve_72 n M t1 x2 x3 x4 x5 x6 x8 x9 = some q) (kk : ab_Ev l D ac 6 me_X5_improve n0 0 0 r 0 0 ab_SH 123 [some (.ref 30), some (.ref t1), some (.int q.1), some (.int q.2.1), some (.int q.2.2.1), some (.int x5), some (.int x6), some (.ref 25), some (.int x8), some (.int q.2.2.2)] [] M), ab_Ev l D ac 6 me_X5_improve n0 0 0 r 0 0 ab_SH 72 [some (.ref 30), some (.ref t1), some (.int x2), some (.int x3), some (.int x4), some (.int x5), some (.int x6), some (.ref 25), some (.int x8), some (.int x9)] [] M := by
  intro n
  induction n with
  | zero =>
    intro M t1 ht1 x2 x3 x4 x5 x6 x8 x9 q h kk
    cases h
  | succ n ih =>
    intro M t1 ht1 x2 x3 x4 x5 x6 x8 x9 q h kk
    unfold mi_X5_improve_72 at h
    refine ev_iload dX5_improve_72 rfl ?_
    refine ev_bipush (x := 30) dX5_improve_74 (by decide) ?_
    refine ev_icmp_ge (t := 123) dX5_improve_76 (by decide) (fun hc17 => ?_) (fun hc17 => ?_)
    · replace h := ab_pos hc17 h
      cases h
      exact kk
    · replace h := ab_neg hc17 h
      refine ev_iload dX5_improve_79 rfl ?_
      refine ev_iload dX5_improve_81 rfl ?_
      refine ev_iushr dX5_improve_83 ?_
      refine ev_iconst (x := 1) dX5_improve_84 (by decide) ?_
      refine ev_iand dX5_improve_85 ?_
      obtain ⟨q18, hq19, h⟩ := ab_bind h
      have hJ20 : ab_Ev l D ac 6 me_X5_improve n0 0 0 r 0 0 ab_SH 117 [some (.ref 30), some (.ref t1), some (.int q18.1), some (.int q18.2.1), some (.int q18.2.2), some (.int x5), some (.int x6), some (.ref 25), some (.int x8), some (.int x9)] [] M := by
        refine ev_iinc (y := x9 + 1) dX5_improve_117 rfl (by first | rfl | decide) rfl rfl ?_
        refine ev_goto (t := 72) dX5_improve_120 (by decide) ?_
        exact ih M t1 ht1 q18.1 q18.2.1 q18.2.2 x5 x6 x8 (x9 + 1) _ h kk
      refine ev_if_eq (t := 117) dX5_improve_86 (by decide) (fun hc21 => ?_) (fun hc21 => ?_)
      · replace hq19 := ab_pos hc21 hq19
        cases hq19
        exact hJ20
      · replace hq19 := ab_neg hc21 hq19
        refine ev_iload dX5_improve_89 rfl ?_
        refine ev_aload dX5_improve_91 rfl ?_
        refine ev_iload dX5_improve_93 rfl ?_
        obtain ⟨hb22, hq19⟩ := ab_chk_some hq19
        refine ev_iaload sh_25 hb22 dX5_improve_95 ?_
        refine ev_isub dX5_improve_96 ?_
        refine ev_iload_n dX5_improve_97 rfl ?_
        refine ev_icmp_le (t := 117) dX5_improve_98 (by decide) (fun hc23 => ?_) (fun hc23 => ?_)
        · replace hq19 := ab_pos hc23 hq19
          cases hq19
          exact hJ20
        · replace hq19 := ab_neg hc23 hq19
          refine ev_iload dX5_improve_101 rfl ?_
          refine ev_aload dX5_improve_103 rfl ?_
          refine ev_iload dX5_improve_105 rfl ?_
          obtain ⟨hb24, hq19⟩ := ab_chk_some hq19
          refine ev_iaload sh_25 hb24 dX5_improve_107 ?_
          refine ev_isub dX5_improve_108 ?_
          refine ev_istore_n dX5_improve_109 (Nat.le_of_ble_eq_true rfl) rfl rfl ?_
          refine ev_iload dX5_improve_110 rfl ?_
          refine ev_istore_n dX5_improve_112 (Nat.le_of_ble_eq_true rfl) rfl rfl ?_
          refine ev_iload dX5_improve_113 rfl ?_
          refine ev_istore dX5_improve_115 (Nat.le_of_ble_eq_true rfl) rfl rfl ?_
          cases hq19
          exact hJ20

noncomputable def mi_X5_improve_12 : Nat → ab_M → Nat → Int32 → Int32 → Int32 → Int32 → Option (Int32 × Int32 × Int32 × Int32 × ab_M)
  | 0, _, _, _, _, _, _ => none
  | n + 1, M, t1, x2, x3, x4, x5 =>
    if (M.1 1 8) ≤ x5 then
      some (x2, x3, x4, x5, M)
    else
      (mi_X5_canChange M t1 x5).bind fun q2 =>
      ((if q2 = 0 then
        some (x2, x3, x4, M)
      else
        (mi_X3_allowed M x5).bind fun q8 =>
        (mi_X2_weigh M t1 x5).bind fun q10 =>
        ab_chk (q10.1 = 25) <|
        ab_chk (vp_in x5 16) <|
        ab_chk (vp_in (q10.2.1 t1 (x5).toNatClampNeg) 30) <|
        (some (q10.2.1 25 (q10.2.1 t1 (x5).toNatClampNeg).toNatClampNeg) : Option Int32).bind fun v15 =>
        (mi_X5_improve_72 ab_F q10.2 t1 x2 x3 x4 x5 q8 v15 0).bind fun q25 =>
        some (q25.1, q25.2.1, q25.2.2.1, q10.2)) : Option (Int32 × Int32 × Int32 × ab_M)).bind fun q4 =>
      mi_X5_improve_12 n q4.2.2.2 t1 q4.1 q4.2.1 q4.2.2.1 (x5 + 1)

set_option maxHeartbeats 4000000 in
set_option maxRecDepth 100000 in
theorem lp_X5_improve_12 {l : Launch} {D : va_G} {ac : Nat → ClassId} {n0 : Nat} {r : ab_Rs} : ∀ (n : Nat) (M : ab_M) (t1 : Nat) (ht1 : ab_isPlan t1) (x2 : Int32) (x3 : Int32) (x4 : Int32) (x5 : Int32) (q : Int32 × Int32 × Int32 × Int32 × ab_M) (h : mi_X5_improve_12 n M t1 x2 x3 x4 x5 = some q) (kk : ab_Ev l D ac 6 me_X5_improve n0 0 0 r 0 0 ab_SH 129 [some (.ref 30), some (.ref t1), some (.int q.1), some (.int q.2.1), some (.int q.2.2.1), some (.int q.2.2.2.1), none, none, none, none] [] q.2.2.2.2), ab_Ev l D ac 6 me_X5_improve n0 0 0 r 0 0 ab_SH 12 [some (.ref 30), some (.ref t1), some (.int x2), some (.int x3), some (.int x4), some (.int x5), none, none, none, none] [] M := by
  intro n
  induction n with
  | zero =>
    intro M t1 ht1 x2 x3 x4 x5 q h kk
    cases h
  | succ n ih =>
    intro M t1 ht1 x2 x3 x4 x5 q h kk
    unfold mi_X5_improve_12 at h
    refine ev_iload dX5_improve_12 rfl ?_
    refine ev_aload_n dX5_improve_14 rfl ?_
    refine ev_getr (o' := 1) fl_RX5_9 sh_30 (by decide) (by decide) rfl rfl dX5_improve_15 ?_
    refine ev_geti fl_RX5_25 sh_1 (by decide) (by decide) rfl dX5_improve_18 ?_
    refine ev_icmp_ge (t := 129) dX5_improve_21 (by decide) (fun hc1 => ?_) (fun hc1 => ?_)
    · replace h := ab_pos hc1 h
      cases h
      exact kk
    · replace h := ab_neg hc1 h
      refine ev_aload_n dX5_improve_24 rfl ?_
      refine ev_aload_n dX5_improve_25 rfl ?_
      refine ev_iload dX5_improve_26 rfl ?_
      obtain ⟨q2, hv3, h⟩ := ab_bind h
      refine ev_callV (st := []) (co_X5_canChange M t1 ht1 x5 _ hv3) mv_X5_canChange sh_30 ml_RX5_29 dX5_improve_28 (by decide) rfl (Nat.le_of_ble_eq_true rfl) ⟨Nat.le_refl _, Nat.le_refl _⟩ ?_
      obtain ⟨q4, hq5, h⟩ := ab_bind h
      have hJ6 : ab_Ev l D ac 6 me_X5_improve n0 0 0 r 0 0 ab_SH 123 [some (.ref 30), some (.ref t1), some (.int q4.1), some (.int q4.2.1), some (.int q4.2.2.1), some (.int x5), none, none, none, none] [] q4.2.2.2 := by
        refine ev_iinc (y := x5 + 1) dX5_improve_123 rfl (by first | rfl | decide) rfl rfl ?_
        refine ev_goto (t := 12) dX5_improve_126 (by decide) ?_
        exact ih q4.2.2.2 t1 ht1 q4.1 q4.2.1 q4.2.2.1 (x5 + 1) _ h kk
      refine ev_if_ne (t := 37) dX5_improve_31 (by decide) (fun hc7 => ?_) (fun hc7 => ?_)
      · replace hq5 := ab_neg hc7 hq5
        refine ev_aload_n dX5_improve_37 rfl ?_
        refine ev_getr (o' := 1) fl_RX5_9 sh_30 (by decide) (by decide) rfl rfl dX5_improve_38 ?_
        refine ev_iload dX5_improve_41 rfl ?_
        obtain ⟨q8, hv9, hq5⟩ := ab_bind hq5
        refine ev_callV (st := []) (co_X3_allowed M x5 _ hv9) mv_X3_allowed sh_1 ml_RX5_33 dX5_improve_43 (by decide) rfl (Nat.le_of_ble_eq_true rfl) ⟨Nat.le_refl _, Nat.le_refl _⟩ ?_
        refine ev_istore dX5_improve_46 (Nat.le_of_ble_eq_true rfl) rfl rfl ?_
        refine ev_aload_n dX5_improve_48 rfl ?_
        refine ev_getr (o' := 24) fl_RX5_15 sh_30 (by decide) (by decide) rfl rfl dX5_improve_49 ?_
        refine ev_aload_n dX5_improve_52 rfl ?_
        refine ev_iload dX5_improve_53 rfl ?_
        obtain ⟨q10, hv11, hq5⟩ := ab_bind hq5
        obtain ⟨hb12, hq5⟩ := ab_chk_some hq5
        refine ev_callV (st := []) (co_X2_weigh M t1 ht1 x5 _ hv11) mv_X2_weigh sh_24 ml_RX5_37 dX5_improve_55 (by decide) rfl (Nat.le_of_ble_eq_true rfl) ⟨Nat.le_refl _, Nat.le_refl _⟩ ?_
        refine ev_nmr hb12 ?_
        refine ev_astore dX5_improve_58 (Nat.le_of_ble_eq_true rfl) rfl rfl ?_
        refine ev_aload dX5_improve_60 rfl ?_
        refine ev_aload_n dX5_improve_62 rfl ?_
        refine ev_iload dX5_improve_63 rfl ?_
        obtain ⟨hb13, hq5⟩ := ab_chk_some hq5
        refine ev_iaload ht1 hb13 dX5_improve_65 ?_
        obtain ⟨hb14, hq5⟩ := ab_chk_some hq5
        refine ev_iaload sh_25 hb14 dX5_improve_66 ?_
        obtain ⟨v15, hq16, hq5⟩ := ab_bind hq5
        refine ev_nmi (Option.some.inj hq16) ?_
        refine ev_istore (x := v15) dX5_improve_67 (Nat.le_of_ble_eq_true rfl) rfl rfl ?_
        refine ev_iconst (x := 0) dX5_improve_69 (by decide) ?_
        refine ev_istore dX5_improve_70 (Nat.le_of_ble_eq_true rfl) rfl rfl ?_
        obtain ⟨q25, hq26, hq5⟩ := ab_bind hq5
        refine lp_X5_improve_72 _ q10.2 t1 ht1 x2 x3 x4 x5 q8 v15 0 _ hq26 ?_
        cases hq5
        refine ev_drop (lv' := [some (.ref 30), some (.ref t1), some (.int q25.1), some (.int q25.2.1), some (.int q25.2.2.1), some (.int x5), none, none, none, none]) (ab_sub_k (ab_sub_k (ab_sub_k (ab_sub_k (ab_sub_k (ab_sub_k (ab_sub_d (ab_sub_d (ab_sub_d (ab_sub_d ab_sub_nil)))))))))) ?_
        exact hJ6
      · replace hq5 := ab_pos hc7 hq5
        refine ev_goto (t := 123) dX5_improve_34 (by decide) ?_
        cases hq5
        exact hJ6

noncomputable def mi_X5_improve (M : ab_M) (t1 : Nat) : Option (Int32 × ab_M) :=
  (mi_X5_improve_12 ab_F M t1 0 (-2) (-2) 0).bind fun q27 =>
  if 0 ≤ q27.2.1 then
    ab_chk (vp_in q27.2.1 16) <|
    some (1, (ab_pi q27.2.2.2.2 t1 (q27.2.1).toNatClampNeg q27.2.2.1))
  else
    some (0, q27.2.2.2.2)

set_option maxHeartbeats 4000000 in
set_option maxRecDepth 100000 in
theorem co_X5_improve {l : Launch} {D : va_G} {ac : Nat → ClassId} (M : ab_M) (t1 : Nat) (ht1 : ab_isPlan t1) (z : Int32 × ab_M) (h : mi_X5_improve M t1 = some z) : ab_Con l D ac 6 me_X5_improve 0 0 [.ref 30, .ref t1] ab_SH M (some (.int z.1), ab_SH, z.2) := by
  refine ab_intro (lv := [some (.ref 30), some (.ref t1), none, none, none, none, none, none, none, none]) (by decide) rfl (Nat.le_of_ble_eq_true rfl) rfl ?_
  unfold mi_X5_improve at h
  refine ev_iconst (x := 0) dX5_improve_0 (by decide) ?_
  refine ev_istore_n dX5_improve_1 (Nat.le_of_ble_eq_true rfl) rfl rfl ?_
  refine ev_bipush (x := (-2)) dX5_improve_2 (by decide) ?_
  refine ev_istore_n dX5_improve_4 (Nat.le_of_ble_eq_true rfl) rfl rfl ?_
  refine ev_bipush (x := (-2)) dX5_improve_5 (by decide) ?_
  refine ev_istore dX5_improve_7 (Nat.le_of_ble_eq_true rfl) rfl rfl ?_
  refine ev_iconst (x := 0) dX5_improve_9 (by decide) ?_
  refine ev_istore dX5_improve_10 (Nat.le_of_ble_eq_true rfl) rfl rfl ?_
  obtain ⟨q27, hq28, h⟩ := ab_bind h
  refine lp_X5_improve_12 _ M t1 ht1 0 (-2) (-2) 0 _ hq28 ?_
  refine ev_iload_n dX5_improve_129 rfl ?_
  refine ev_if_ge (t := 135) dX5_improve_130 (by decide) (fun hc29 => ?_) (fun hc29 => ?_)
  · replace h := ab_pos hc29 h
    refine ev_aload_n dX5_improve_135 rfl ?_
    refine ev_iload_n dX5_improve_136 rfl ?_
    refine ev_iload dX5_improve_137 rfl ?_
    obtain ⟨hb30, h⟩ := ab_chk_some h
    refine ev_iastore ht1 hb30 dX5_improve_139 ?_
    refine ev_iconst (x := 1) dX5_improve_140 (by decide) ?_
    cases h
    exact ev_zreturn rfl (Or.inr rfl) dX5_improve_141
  · replace h := ab_neg hc29 h
    refine ev_iconst (x := 0) dX5_improve_133 (by decide) ?_
    cases h
    exact ev_zreturn rfl (Or.inl rfl) dX5_improve_134

noncomputable def mi_X5_leastFree_27 : Nat → ab_M → Nat → Int32 → Int32 → Option (Sum (Int32) (Int32))
  | 0, _, _, _, _ => none
  | n + 1, M, t1, x4, x5 =>
    if 30 ≤ x5 then
      some (.inl x5)
    else
      if ((ab_ushr x4 x5) &&& 1) = 0 then
        mi_X5_leastFree_27 n M t1 x4 (x5 + 1)
      else
        some (.inr x5)

set_option maxHeartbeats 4000000 in
set_option maxRecDepth 100000 in
theorem lp_X5_leastFree_27 {l : Launch} {D : va_G} {ac : Nat → ClassId} {n0 : Nat} {r : ab_Rs} : ∀ (n : Nat) (M : ab_M) (t1 : Nat) (ht1 : ab_isPlan t1) (x4 : Int32) (x5 : Int32) (q : Sum (Int32) (Int32)) (h : mi_X5_leastFree_27 n M t1 x4 x5 = some q) (kk : ∀ y, q = .inl y → ab_Ev l D ac 5 me_X5_leastFree n0 0 0 r 0 0 ab_SH 53 [some (.ref 30), some (.ref t1), none, none, some (.int x4), some (.int y)] [] M) (kr : ∀ v, q = .inr v → r = (some (.int v), ab_SH, M)), ab_Ev l D ac 5 me_X5_leastFree n0 0 0 r 0 0 ab_SH 27 [some (.ref 30), some (.ref t1), none, none, some (.int x4), some (.int x5)] [] M := by
  intro n
  induction n with
  | zero =>
    intro M t1 ht1 x4 x5 q h kk kr
    cases h
  | succ n ih =>
    intro M t1 ht1 x4 x5 q h kk kr
    unfold mi_X5_leastFree_27 at h
    refine ev_iload dX5_leastFree_27 rfl ?_
    refine ev_bipush (x := 30) dX5_leastFree_29 (by decide) ?_
    refine ev_icmp_ge (t := 53) dX5_leastFree_31 (by decide) (fun hc3 => ?_) (fun hc3 => ?_)
    · replace h := ab_pos hc3 h
      cases h
      exact kk _ rfl
    · replace h := ab_neg hc3 h
      refine ev_iload dX5_leastFree_34 rfl ?_
      refine ev_iload dX5_leastFree_36 rfl ?_
      refine ev_iushr dX5_leastFree_38 ?_
      refine ev_iconst (x := 1) dX5_leastFree_39 (by decide) ?_
      refine ev_iand dX5_leastFree_40 ?_
      refine ev_if_eq (t := 47) dX5_leastFree_41 (by decide) (fun hc4 => ?_) (fun hc4 => ?_)
      · replace h := ab_pos hc4 h
        refine ev_iinc (y := x5 + 1) dX5_leastFree_47 rfl (by first | rfl | decide) rfl rfl ?_
        refine ev_goto (t := 27) dX5_leastFree_50 (by decide) ?_
        exact ih M t1 ht1 x4 (x5 + 1) _ h kk kr
      · replace h := ab_neg hc4 h
        refine ev_iload dX5_leastFree_44 rfl ?_
        cases h
        rw [kr _ rfl]
        exact ev_ireturn rfl dX5_leastFree_46

noncomputable def mi_X5_leastFree (M : ab_M) (t1 : Nat) (x2 : Int32) (x3 : Int32) : Option (Int32) :=
  (mi_X2_freeChannels M t1 x2 (M.1 1 8)).bind fun q1 =>
  (mi_X5_leastFree_27 ab_F M t1 (q1 &&& ((1 <<< (x3 &&& 31)) ^^^ (-1))) 0).bind fun q8 => Sum.elim (fun q5 =>
  some (-2)) (fun v7 => some v7) q8

set_option maxHeartbeats 4000000 in
set_option maxRecDepth 100000 in
theorem co_X5_leastFree {l : Launch} {D : va_G} {ac : Nat → ClassId} (M : ab_M) (t1 : Nat) (ht1 : ab_isPlan t1) (x2 : Int32) (x3 : Int32) (z : Int32) (h : mi_X5_leastFree M t1 x2 x3 = some z) : ab_Con l D ac 5 me_X5_leastFree 0 0 [.ref 30, .ref t1, .int x2, .int x3] ab_SH M (some (.int z), ab_SH, M) := by
  refine ab_intro (lv := [some (.ref 30), some (.ref t1), some (.int x2), some (.int x3), none, none]) (by decide) rfl (Nat.le_of_ble_eq_true rfl) rfl ?_
  unfold mi_X5_leastFree at h
  refine ev_aload_n dX5_leastFree_0 rfl ?_
  refine ev_getr (o' := 24) fl_RX5_15 sh_30 (by decide) (by decide) rfl rfl dX5_leastFree_1 ?_
  refine ev_aload_n dX5_leastFree_4 rfl ?_
  refine ev_iload_n dX5_leastFree_5 rfl ?_
  refine ev_aload_n dX5_leastFree_6 rfl ?_
  refine ev_getr (o' := 1) fl_RX5_9 sh_30 (by decide) (by decide) rfl rfl dX5_leastFree_7 ?_
  refine ev_geti fl_RX5_25 sh_1 (by decide) (by decide) rfl dX5_leastFree_10 ?_
  obtain ⟨q1, hv2, h⟩ := ab_bind h
  refine ev_callV (st := []) (co_X2_freeChannels M t1 ht1 x2 (M.1 1 8) _ hv2) mv_X2_freeChannels sh_24 ml_RX5_55 dX5_leastFree_13 (by decide) rfl (Nat.le_of_ble_eq_true rfl) ⟨Nat.le_refl _, Nat.le_refl _⟩ ?_
  refine ev_iconst (x := 1) dX5_leastFree_16 (by decide) ?_
  refine ev_iload_n dX5_leastFree_17 rfl ?_
  refine ev_ishl dX5_leastFree_18 ?_
  refine ev_iconst (x := (-1)) dX5_leastFree_19 (by decide) ?_
  refine ev_ixor dX5_leastFree_20 ?_
  refine ev_iand dX5_leastFree_21 ?_
  refine ev_istore dX5_leastFree_22 (Nat.le_of_ble_eq_true rfl) rfl rfl ?_
  refine ev_iconst (x := 0) dX5_leastFree_24 (by decide) ?_
  refine ev_istore dX5_leastFree_25 (Nat.le_of_ble_eq_true rfl) rfl rfl ?_
  obtain ⟨q8, hq6, h⟩ := ab_bind h
  refine ev_drop (lv' := [some (.ref 30), some (.ref t1), none, none, some (.int (q1 &&& ((1 <<< (x3 &&& 31)) ^^^ (-1)))), some (.int 0)]) (ab_sub_k (ab_sub_k (ab_sub_d (ab_sub_d (ab_sub_k (ab_sub_k ab_sub_nil)))))) ?_
  rcases ab_elim h with ⟨q5, rfl, h⟩ | ⟨v7, rfl, h⟩
  · refine lp_X5_leastFree_27 _ M t1 ht1 (q1 &&& ((1 <<< (x3 &&& 31)) ^^^ (-1))) 0 _ hq6 (fun z e9 => ?_) (fun z e9 => by cases e9)
    cases e9
    refine ev_bipush (x := (-2)) dX5_leastFree_53 (by decide) ?_
    cases h
    exact ev_ireturn rfl dX5_leastFree_55
  · refine lp_X5_leastFree_27 _ M t1 ht1 (q1 &&& ((1 <<< (x3 &&& 31)) ^^^ (-1))) 0 _ hq6 (fun z e9 => by cases e9) (fun z e9 => ?_)
    cases e9
    cases h
    rfl

noncomputable def mi_X5_changeOne_2 : Nat → ab_M → Nat → Int32 → Option (Sum (Int32 × ab_M) (Int32 × ab_M))
  | 0, _, _, _ => none
  | n + 1, M, t1, x2 =>
    if (M.1 1 8) ≤ x2 then
      some (.inl (x2, M))
    else
      (mi_X5_canChange M t1 x2).bind fun q2 =>
      if q2 = 0 then
        mi_X5_changeOne_2 n M t1 (x2 + 1)
      else
        ab_chk (vp_in x2 16) <|
        ab_chk (vp_in x2 16) <|
        (mi_X2_isClean (ab_pi M t1 (x2).toNatClampNeg (-2)) t1).bind fun q7 =>
        ((if q7 = 0 then
          some (-2)
        else
          (mi_X5_leastFree (ab_pi M t1 (x2).toNatClampNeg (-2)) t1 x2 (M.1 t1 (x2).toNatClampNeg)).bind fun q13 =>
          some q13) : Option (Int32)).bind fun q9 =>
        ab_chk (vp_in x2 16) <|
        ab_chk (vp_in x2 16) <|
        if ((ab_pi (ab_pi M t1 (x2).toNatClampNeg (-2)) t1 (x2).toNatClampNeg q9).1 t1 (x2).toNatClampNeg) < 0 then
          ab_chk (vp_in x2 16) <|
          mi_X5_changeOne_2 n (ab_pi (ab_pi (ab_pi M t1 (x2).toNatClampNeg (-2)) t1 (x2).toNatClampNeg q9) t1 (x2).toNatClampNeg (M.1 t1 (x2).toNatClampNeg)) t1 (x2 + 1)
        else
          some (.inr (1, (ab_pi (ab_pi M t1 (x2).toNatClampNeg (-2)) t1 (x2).toNatClampNeg q9)))

set_option maxHeartbeats 4000000 in
set_option maxRecDepth 100000 in
theorem lp_X5_changeOne_2 {l : Launch} {D : va_G} {ac : Nat → ClassId} {n0 : Nat} {r : ab_Rs} : ∀ (n : Nat) (M : ab_M) (t1 : Nat) (ht1 : ab_isPlan t1) (x2 : Int32) (q : Sum (Int32 × ab_M) (Int32 × ab_M)) (h : mi_X5_changeOne_2 n M t1 x2 = some q) (kk : ∀ y, q = .inl y → ab_Ev l D ac 6 me_X5_changeOne n0 0 0 r 0 0 ab_SH 78 [some (.ref 30), some (.ref t1), some (.int y.1), none] [] y.2) (kr : ∀ v, q = .inr v → r = (some (.int v.1), ab_SH, v.2)), ab_Ev l D ac 6 me_X5_changeOne n0 0 0 r 0 0 ab_SH 2 [some (.ref 30), some (.ref t1), some (.int x2), none] [] M := by
  intro n
  induction n with
  | zero =>
    intro M t1 ht1 x2 q h kk kr
    cases h
  | succ n ih =>
    intro M t1 ht1 x2 q h kk kr
    unfold mi_X5_changeOne_2 at h
    refine ev_iload_n dX5_changeOne_2 rfl ?_
    refine ev_aload_n dX5_changeOne_3 rfl ?_
    refine ev_getr (o' := 1) fl_RX5_9 sh_30 (by decide) (by decide) rfl rfl dX5_changeOne_4 ?_
    refine ev_geti fl_RX5_25 sh_1 (by decide) (by decide) rfl dX5_changeOne_7 ?_
    refine ev_icmp_ge (t := 78) dX5_changeOne_10 (by decide) (fun hc1 => ?_) (fun hc1 => ?_)
    · replace h := ab_pos hc1 h
      cases h
      exact kk _ rfl
    · replace h := ab_neg hc1 h
      refine ev_aload_n dX5_changeOne_13 rfl ?_
      refine ev_aload_n dX5_changeOne_14 rfl ?_
      refine ev_iload_n dX5_changeOne_15 rfl ?_
      obtain ⟨q2, hv3, h⟩ := ab_bind h
      refine ev_callV (st := []) (co_X5_canChange M t1 ht1 x2 _ hv3) mv_X5_canChange sh_30 ml_RX5_29 dX5_changeOne_16 (by decide) rfl (Nat.le_of_ble_eq_true rfl) ⟨Nat.le_refl _, Nat.le_refl _⟩ ?_
      refine ev_if_ne (t := 25) dX5_changeOne_19 (by decide) (fun hc4 => ?_) (fun hc4 => ?_)
      · replace h := ab_neg hc4 h
        refine ev_aload_n dX5_changeOne_25 rfl ?_
        refine ev_iload_n dX5_changeOne_26 rfl ?_
        obtain ⟨hb5, h⟩ := ab_chk_some h
        refine ev_iaload ht1 hb5 dX5_changeOne_27 ?_
        refine ev_istore_n dX5_changeOne_28 (Nat.le_of_ble_eq_true rfl) rfl rfl ?_
        refine ev_aload_n dX5_changeOne_29 rfl ?_
        refine ev_iload_n dX5_changeOne_30 rfl ?_
        refine ev_bipush (x := (-2)) dX5_changeOne_31 (by decide) ?_
        obtain ⟨hb6, h⟩ := ab_chk_some h
        refine ev_iastore ht1 hb6 dX5_changeOne_33 ?_
        refine ev_aload_n dX5_changeOne_34 rfl ?_
        refine ev_iload_n dX5_changeOne_35 rfl ?_
        refine ev_aload_n dX5_changeOne_36 rfl ?_
        refine ev_getr (o' := 24) fl_RX5_15 sh_30 (by decide) (by decide) rfl rfl dX5_changeOne_37 ?_
        refine ev_aload_n dX5_changeOne_40 rfl ?_
        obtain ⟨q7, hv8, h⟩ := ab_bind h
        refine ev_callV (st := [.int x2, .ref t1]) (co_X2_isClean (ab_pi M t1 (x2).toNatClampNeg (-2)) t1 ht1 _ hv8) mv_X2_isClean sh_24 ml_RX5_43 dX5_changeOne_41 (by decide) rfl (Nat.le_of_ble_eq_true rfl) ⟨Nat.le_refl _, Nat.le_refl _⟩ ?_
        obtain ⟨q9, hq10, h⟩ := ab_bind h
        have hJ11 : ab_Ev l D ac 6 me_X5_changeOne n0 0 0 r 0 0 ab_SH 59 [some (.ref 30), some (.ref t1), some (.int x2), some (.int (M.1 t1 (x2).toNatClampNeg))] [.int q9, .int x2, .ref t1] (ab_pi M t1 (x2).toNatClampNeg (-2)) := by
          obtain ⟨hb15, h⟩ := ab_chk_some h
          refine ev_iastore ht1 hb15 dX5_changeOne_59 ?_
          refine ev_aload_n dX5_changeOne_60 rfl ?_
          refine ev_iload_n dX5_changeOne_61 rfl ?_
          obtain ⟨hb16, h⟩ := ab_chk_some h
          refine ev_iaload ht1 hb16 dX5_changeOne_62 ?_
          refine ev_if_lt (t := 68) dX5_changeOne_63 (by decide) (fun hc17 => ?_) (fun hc17 => ?_)
          · replace h := ab_pos hc17 h
            refine ev_aload_n dX5_changeOne_68 rfl ?_
            refine ev_iload_n dX5_changeOne_69 rfl ?_
            refine ev_iload_n dX5_changeOne_70 rfl ?_
            obtain ⟨hb18, h⟩ := ab_chk_some h
            refine ev_iastore ht1 hb18 dX5_changeOne_71 ?_
            refine ev_iinc (y := x2 + 1) dX5_changeOne_72 rfl (by first | rfl | decide) rfl rfl ?_
            refine ev_goto (t := 2) dX5_changeOne_75 (by decide) ?_
            refine ev_drop (lv' := [some (.ref 30), some (.ref t1), some (.int (x2 + 1)), none]) (ab_sub_k (ab_sub_k (ab_sub_k (ab_sub_d ab_sub_nil)))) ?_
            exact ih (ab_pi (ab_pi (ab_pi M t1 (x2).toNatClampNeg (-2)) t1 (x2).toNatClampNeg q9) t1 (x2).toNatClampNeg (M.1 t1 (x2).toNatClampNeg)) t1 ht1 (x2 + 1) _ h kk kr
          · replace h := ab_neg hc17 h
            refine ev_iconst (x := 1) dX5_changeOne_66 (by decide) ?_
            cases h
            rw [kr _ rfl]
            exact ev_zreturn rfl (Or.inr rfl) dX5_changeOne_67
        refine ev_if_eq (t := 57) dX5_changeOne_44 (by decide) (fun hc12 => ?_) (fun hc12 => ?_)
        · replace hq10 := ab_pos hc12 hq10
          refine ev_bipush (x := (-2)) dX5_changeOne_57 (by decide) ?_
          cases hq10
          exact hJ11
        · replace hq10 := ab_neg hc12 hq10
          refine ev_aload_n dX5_changeOne_47 rfl ?_
          refine ev_aload_n dX5_changeOne_48 rfl ?_
          refine ev_iload_n dX5_changeOne_49 rfl ?_
          refine ev_iload_n dX5_changeOne_50 rfl ?_
          obtain ⟨q13, hv14, hq10⟩ := ab_bind hq10
          refine ev_callV (st := [.int x2, .ref t1]) (co_X5_leastFree (ab_pi M t1 (x2).toNatClampNeg (-2)) t1 ht1 x2 (M.1 t1 (x2).toNatClampNeg) _ hv14) mv_X5_leastFree sh_30 ml_RX5_47 dX5_changeOne_51 (by decide) rfl (Nat.le_of_ble_eq_true rfl) ⟨Nat.le_refl _, Nat.le_refl _⟩ ?_
          refine ev_goto (t := 59) dX5_changeOne_54 (by decide) ?_
          cases hq10
          exact hJ11
      · replace h := ab_pos hc4 h
        refine ev_goto (t := 72) dX5_changeOne_22 (by decide) ?_
        refine ev_iinc (y := x2 + 1) dX5_changeOne_72 rfl (by first | rfl | decide) rfl rfl ?_
        refine ev_goto (t := 2) dX5_changeOne_75 (by decide) ?_
        exact ih M t1 ht1 (x2 + 1) _ h kk kr

noncomputable def mi_X5_changeOne (M : ab_M) (t1 : Nat) : Option (Int32 × ab_M) :=
  (mi_X5_changeOne_2 ab_F M t1 0).bind fun q22 => Sum.elim (fun q19 =>
  some (0, q19.2)) (fun v21 => some v21) q22

set_option maxHeartbeats 4000000 in
set_option maxRecDepth 100000 in
theorem co_X5_changeOne {l : Launch} {D : va_G} {ac : Nat → ClassId} (M : ab_M) (t1 : Nat) (ht1 : ab_isPlan t1) (z : Int32 × ab_M) (h : mi_X5_changeOne M t1 = some z) : ab_Con l D ac 6 me_X5_changeOne 0 0 [.ref 30, .ref t1] ab_SH M (some (.int z.1), ab_SH, z.2) := by
  refine ab_intro (lv := [some (.ref 30), some (.ref t1), none, none]) (by decide) rfl (Nat.le_of_ble_eq_true rfl) rfl ?_
  unfold mi_X5_changeOne at h
  refine ev_iconst (x := 0) dX5_changeOne_0 (by decide) ?_
  refine ev_istore_n dX5_changeOne_1 (Nat.le_of_ble_eq_true rfl) rfl rfl ?_
  obtain ⟨q22, hq20, h⟩ := ab_bind h
  rcases ab_elim h with ⟨q19, rfl, h⟩ | ⟨v21, rfl, h⟩
  · refine lp_X5_changeOne_2 _ M t1 ht1 0 _ hq20 (fun z e23 => ?_) (fun z e23 => by cases e23)
    cases e23
    refine ev_iconst (x := 0) dX5_changeOne_78 (by decide) ?_
    cases h
    exact ev_zreturn rfl (Or.inl rfl) dX5_changeOne_79
  · refine lp_X5_changeOne_2 _ M t1 ht1 0 _ hq20 (fun z e23 => by cases e23) (fun z e23 => ?_)
    cases e23
    cases h
    rfl

noncomputable def mi_X5_changeBoth_63 : Nat → ab_M → Nat → Int32 → Int32 → Int32 → Int32 → Int32 → Int32 → Option (Sum (Int32 × ab_M) (Int32 × ab_M))
  | 0, _, _, _, _, _, _, _, _ => none
  | n + 1, M, t1, x2, x3, x4, x5, x6, x7 =>
    if 30 ≤ x7 then
      some (.inl (x7, M))
    else
      if ((ab_ushr x6 x7) &&& 1) = 0 then
        mi_X5_changeBoth_63 n M t1 x2 x3 x4 x5 x6 (x7 + 1)
      else
        ab_chk (vp_in x2 16) <|
        (mi_X5_leastFree (ab_pi M t1 (x2).toNatClampNeg x7) t1 x3 x5).bind fun q16 =>
        ab_chk (vp_in x3 16) <|
        ab_chk (vp_in x3 16) <|
        if ((ab_pi (ab_pi M t1 (x2).toNatClampNeg x7) t1 (x3).toNatClampNeg q16).1 t1 (x3).toNatClampNeg) < 0 then
          mi_X5_changeBoth_63 n (ab_pi (ab_pi M t1 (x2).toNatClampNeg x7) t1 (x3).toNatClampNeg q16) t1 x2 x3 x4 x5 x6 (x7 + 1)
        else
          some (.inr (1, (ab_pi (ab_pi M t1 (x2).toNatClampNeg x7) t1 (x3).toNatClampNeg q16)))

set_option maxHeartbeats 4000000 in
set_option maxRecDepth 100000 in
theorem lp_X5_changeBoth_63 {l : Launch} {D : va_G} {ac : Nat → ClassId} {n0 : Nat} {r : ab_Rs} : ∀ (n : Nat) (M : ab_M) (t1 : Nat) (ht1 : ab_isPlan t1) (x2 : Int32) (x3 : Int32) (x4 : Int32) (x5 : Int32) (x6 : Int32) (x7 : Int32) (q : Sum (Int32 × ab_M) (Int32 × ab_M)) (h : mi_X5_changeBoth_63 n M t1 x2 x3 x4 x5 x6 x7 = some q) (kk : ∀ y, q = .inl y → ab_Ev l D ac 6 me_X5_changeBoth n0 0 0 r 0 0 ab_SH 113 [some (.ref 30), some (.ref t1), some (.int x2), some (.int x3), some (.int x4), some (.int x5), some (.int x6), some (.int y.1)] [] y.2) (kr : ∀ v, q = .inr v → r = (some (.int v.1), ab_SH, v.2)), ab_Ev l D ac 6 me_X5_changeBoth n0 0 0 r 0 0 ab_SH 63 [some (.ref 30), some (.ref t1), some (.int x2), some (.int x3), some (.int x4), some (.int x5), some (.int x6), some (.int x7)] [] M := by
  intro n
  induction n with
  | zero =>
    intro M t1 ht1 x2 x3 x4 x5 x6 x7 q h kk kr
    cases h
  | succ n ih =>
    intro M t1 ht1 x2 x3 x4 x5 x6 x7 q h kk kr
    unfold mi_X5_changeBoth_63 at h
    refine ev_iload dX5_changeBoth_63 rfl ?_
    refine ev_bipush (x := 30) dX5_changeBoth_65 (by decide) ?_
    refine ev_icmp_ge (t := 113) dX5_changeBoth_67 (by decide) (fun hc13 => ?_) (fun hc13 => ?_)
    · replace h := ab_pos hc13 h
      cases h
      exact kk _ rfl
    · replace h := ab_neg hc13 h
      refine ev_iload dX5_changeBoth_70 rfl ?_
      refine ev_iload dX5_changeBoth_72 rfl ?_
      refine ev_iushr dX5_changeBoth_74 ?_
      refine ev_iconst (x := 1) dX5_changeBoth_75 (by decide) ?_
      refine ev_iand dX5_changeBoth_76 ?_
      refine ev_if_ne (t := 83) dX5_changeBoth_77 (by decide) (fun hc14 => ?_) (fun hc14 => ?_)
      · replace h := ab_neg hc14 h
        refine ev_aload_n dX5_changeBoth_83 rfl ?_
        refine ev_iload_n dX5_changeBoth_84 rfl ?_
        refine ev_iload dX5_changeBoth_85 rfl ?_
        obtain ⟨hb15, h⟩ := ab_chk_some h
        refine ev_iastore ht1 hb15 dX5_changeBoth_87 ?_
        refine ev_aload_n dX5_changeBoth_88 rfl ?_
        refine ev_iload_n dX5_changeBoth_89 rfl ?_
        refine ev_aload_n dX5_changeBoth_90 rfl ?_
        refine ev_aload_n dX5_changeBoth_91 rfl ?_
        refine ev_iload_n dX5_changeBoth_92 rfl ?_
        refine ev_iload dX5_changeBoth_93 rfl ?_
        obtain ⟨q16, hv17, h⟩ := ab_bind h
        refine ev_callV (st := [.int x3, .ref t1]) (co_X5_leastFree (ab_pi M t1 (x2).toNatClampNeg x7) t1 ht1 x3 x5 _ hv17) mv_X5_leastFree sh_30 ml_RX5_47 dX5_changeBoth_95 (by decide) rfl (Nat.le_of_ble_eq_true rfl) ⟨Nat.le_refl _, Nat.le_refl _⟩ ?_
        obtain ⟨hb18, h⟩ := ab_chk_some h
        refine ev_iastore ht1 hb18 dX5_changeBoth_98 ?_
        refine ev_aload_n dX5_changeBoth_99 rfl ?_
        refine ev_iload_n dX5_changeBoth_100 rfl ?_
        obtain ⟨hb19, h⟩ := ab_chk_some h
        refine ev_iaload ht1 hb19 dX5_changeBoth_101 ?_
        refine ev_if_lt (t := 107) dX5_changeBoth_102 (by decide) (fun hc20 => ?_) (fun hc20 => ?_)
        · replace h := ab_pos hc20 h
          refine ev_iinc (y := x7 + 1) dX5_changeBoth_107 rfl (by first | rfl | decide) rfl rfl ?_
          refine ev_goto (t := 63) dX5_changeBoth_110 (by decide) ?_
          exact ih (ab_pi (ab_pi M t1 (x2).toNatClampNeg x7) t1 (x3).toNatClampNeg q16) t1 ht1 x2 x3 x4 x5 x6 (x7 + 1) _ h kk kr
        · replace h := ab_neg hc20 h
          refine ev_iconst (x := 1) dX5_changeBoth_105 (by decide) ?_
          cases h
          rw [kr _ rfl]
          exact ev_zreturn rfl (Or.inr rfl) dX5_changeBoth_106
      · replace h := ab_pos hc14 h
        refine ev_goto (t := 107) dX5_changeBoth_80 (by decide) ?_
        refine ev_iinc (y := x7 + 1) dX5_changeBoth_107 rfl (by first | rfl | decide) rfl rfl ?_
        refine ev_goto (t := 63) dX5_changeBoth_110 (by decide) ?_
        exact ih M t1 ht1 x2 x3 x4 x5 x6 (x7 + 1) _ h kk kr

noncomputable def mi_X5_changeBoth (M : ab_M) (t1 : Nat) (x2 : Int32) (x3 : Int32) : Option (Int32 × ab_M) :=
  ab_chk (vp_in x2 16) <|
  ab_chk (vp_in x3 16) <|
  ab_chk (vp_in x2 16) <|
  ab_chk (vp_in x3 16) <|
  (mi_X2_isClean (ab_pi (ab_pi M t1 (x2).toNatClampNeg (-2)) t1 (x3).toNatClampNeg (-2)) t1).bind fun q5 =>
  ((if q5 = 0 then
    some 0
  else
    (mi_X2_freeChannels (ab_pi (ab_pi M t1 (x2).toNatClampNeg (-2)) t1 (x3).toNatClampNeg (-2)) t1 x2 ((ab_pi (ab_pi M t1 (x2).toNatClampNeg (-2)) t1 (x3).toNatClampNeg (-2)).1 1 8)).bind fun q11 =>
    some (q11 &&& ((1 <<< ((M.1 t1 (x2).toNatClampNeg) &&& 31)) ^^^ (-1)))) : Option (Int32)).bind fun q7 =>
  (mi_X5_changeBoth_63 ab_F (ab_pi (ab_pi M t1 (x2).toNatClampNeg (-2)) t1 (x3).toNatClampNeg (-2)) t1 x2 x3 (M.1 t1 (x2).toNatClampNeg) (M.1 t1 (x3).toNatClampNeg) q7 0).bind fun q26 => Sum.elim (fun q21 =>
  ab_chk (vp_in x2 16) <|
  ab_chk (vp_in x3 16) <|
  some (0, (ab_pi (ab_pi q21.2 t1 (x2).toNatClampNeg (M.1 t1 (x2).toNatClampNeg)) t1 (x3).toNatClampNeg (M.1 t1 (x3).toNatClampNeg)))) (fun v25 => some v25) q26

set_option maxHeartbeats 4000000 in
set_option maxRecDepth 100000 in
theorem co_X5_changeBoth {l : Launch} {D : va_G} {ac : Nat → ClassId} (M : ab_M) (t1 : Nat) (ht1 : ab_isPlan t1) (x2 : Int32) (x3 : Int32) (z : Int32 × ab_M) (h : mi_X5_changeBoth M t1 x2 x3 = some z) : ab_Con l D ac 6 me_X5_changeBoth 0 0 [.ref 30, .ref t1, .int x2, .int x3] ab_SH M (some (.int z.1), ab_SH, z.2) := by
  refine ab_intro (lv := [some (.ref 30), some (.ref t1), some (.int x2), some (.int x3), none, none, none, none]) (by decide) rfl (Nat.le_of_ble_eq_true rfl) rfl ?_
  unfold mi_X5_changeBoth at h
  refine ev_aload_n dX5_changeBoth_0 rfl ?_
  refine ev_iload_n dX5_changeBoth_1 rfl ?_
  obtain ⟨hb1, h⟩ := ab_chk_some h
  refine ev_iaload ht1 hb1 dX5_changeBoth_2 ?_
  refine ev_istore dX5_changeBoth_3 (Nat.le_of_ble_eq_true rfl) rfl rfl ?_
  refine ev_aload_n dX5_changeBoth_5 rfl ?_
  refine ev_iload_n dX5_changeBoth_6 rfl ?_
  obtain ⟨hb2, h⟩ := ab_chk_some h
  refine ev_iaload ht1 hb2 dX5_changeBoth_7 ?_
  refine ev_istore dX5_changeBoth_8 (Nat.le_of_ble_eq_true rfl) rfl rfl ?_
  refine ev_aload_n dX5_changeBoth_10 rfl ?_
  refine ev_iload_n dX5_changeBoth_11 rfl ?_
  refine ev_bipush (x := (-2)) dX5_changeBoth_12 (by decide) ?_
  obtain ⟨hb3, h⟩ := ab_chk_some h
  refine ev_iastore ht1 hb3 dX5_changeBoth_14 ?_
  refine ev_aload_n dX5_changeBoth_15 rfl ?_
  refine ev_iload_n dX5_changeBoth_16 rfl ?_
  refine ev_bipush (x := (-2)) dX5_changeBoth_17 (by decide) ?_
  obtain ⟨hb4, h⟩ := ab_chk_some h
  refine ev_iastore ht1 hb4 dX5_changeBoth_19 ?_
  refine ev_aload_n dX5_changeBoth_20 rfl ?_
  refine ev_getr (o' := 24) fl_RX5_15 sh_30 (by decide) (by decide) rfl rfl dX5_changeBoth_21 ?_
  refine ev_aload_n dX5_changeBoth_24 rfl ?_
  obtain ⟨q5, hv6, h⟩ := ab_bind h
  refine ev_callV (st := []) (co_X2_isClean (ab_pi (ab_pi M t1 (x2).toNatClampNeg (-2)) t1 (x3).toNatClampNeg (-2)) t1 ht1 _ hv6) mv_X2_isClean sh_24 ml_RX5_43 dX5_changeBoth_25 (by decide) rfl (Nat.le_of_ble_eq_true rfl) ⟨Nat.le_refl _, Nat.le_refl _⟩ ?_
  obtain ⟨q7, hq8, h⟩ := ab_bind h
  have hJ9 : ab_Ev l D ac 6 me_X5_changeBoth ab_SH.length 0 0 (some (.int z.1), ab_SH, z.2) 0 0 ab_SH 58 [some (.ref 30), some (.ref t1), some (.int x2), some (.int x3), some (.int (M.1 t1 (x2).toNatClampNeg)), some (.int (M.1 t1 (x3).toNatClampNeg)), none, none] [.int q7] (ab_pi (ab_pi M t1 (x2).toNatClampNeg (-2)) t1 (x3).toNatClampNeg (-2)) := by
    refine ev_istore dX5_changeBoth_58 (Nat.le_of_ble_eq_true rfl) rfl rfl ?_
    refine ev_iconst (x := 0) dX5_changeBoth_60 (by decide) ?_
    refine ev_istore dX5_changeBoth_61 (Nat.le_of_ble_eq_true rfl) rfl rfl ?_
    obtain ⟨q26, hq22, h⟩ := ab_bind h
    rcases ab_elim h with ⟨q21, rfl, h⟩ | ⟨v25, rfl, h⟩
    · refine lp_X5_changeBoth_63 _ (ab_pi (ab_pi M t1 (x2).toNatClampNeg (-2)) t1 (x3).toNatClampNeg (-2)) t1 ht1 x2 x3 (M.1 t1 (x2).toNatClampNeg) (M.1 t1 (x3).toNatClampNeg) q7 0 _ hq22 (fun z e27 => ?_) (fun z e27 => by cases e27)
      cases e27
      refine ev_aload_n dX5_changeBoth_113 rfl ?_
      refine ev_iload_n dX5_changeBoth_114 rfl ?_
      refine ev_iload dX5_changeBoth_115 rfl ?_
      obtain ⟨hb23, h⟩ := ab_chk_some h
      refine ev_iastore ht1 hb23 dX5_changeBoth_117 ?_
      refine ev_aload_n dX5_changeBoth_118 rfl ?_
      refine ev_iload_n dX5_changeBoth_119 rfl ?_
      refine ev_iload dX5_changeBoth_120 rfl ?_
      obtain ⟨hb24, h⟩ := ab_chk_some h
      refine ev_iastore ht1 hb24 dX5_changeBoth_122 ?_
      refine ev_iconst (x := 0) dX5_changeBoth_123 (by decide) ?_
      cases h
      exact ev_zreturn rfl (Or.inl rfl) dX5_changeBoth_124
    · refine lp_X5_changeBoth_63 _ (ab_pi (ab_pi M t1 (x2).toNatClampNeg (-2)) t1 (x3).toNatClampNeg (-2)) t1 ht1 x2 x3 (M.1 t1 (x2).toNatClampNeg) (M.1 t1 (x3).toNatClampNeg) q7 0 _ hq22 (fun z e27 => by cases e27) (fun z e27 => ?_)
      cases e27
      cases h
      rfl
  refine ev_if_eq (t := 57) dX5_changeBoth_28 (by decide) (fun hc10 => ?_) (fun hc10 => ?_)
  · replace hq8 := ab_pos hc10 hq8
    refine ev_iconst (x := 0) dX5_changeBoth_57 (by decide) ?_
    cases hq8
    exact hJ9
  · replace hq8 := ab_neg hc10 hq8
    refine ev_aload_n dX5_changeBoth_31 rfl ?_
    refine ev_getr (o' := 24) fl_RX5_15 sh_30 (by decide) (by decide) rfl rfl dX5_changeBoth_32 ?_
    refine ev_aload_n dX5_changeBoth_35 rfl ?_
    refine ev_iload_n dX5_changeBoth_36 rfl ?_
    refine ev_aload_n dX5_changeBoth_37 rfl ?_
    refine ev_getr (o' := 1) fl_RX5_9 sh_30 (by decide) (by decide) rfl rfl dX5_changeBoth_38 ?_
    refine ev_geti fl_RX5_25 sh_1 (by decide) (by decide) rfl dX5_changeBoth_41 ?_
    obtain ⟨q11, hv12, hq8⟩ := ab_bind hq8
    refine ev_callV (st := []) (co_X2_freeChannels (ab_pi (ab_pi M t1 (x2).toNatClampNeg (-2)) t1 (x3).toNatClampNeg (-2)) t1 ht1 x2 ((ab_pi (ab_pi M t1 (x2).toNatClampNeg (-2)) t1 (x3).toNatClampNeg (-2)).1 1 8) _ hv12) mv_X2_freeChannels sh_24 ml_RX5_55 dX5_changeBoth_44 (by decide) rfl (Nat.le_of_ble_eq_true rfl) ⟨Nat.le_refl _, Nat.le_refl _⟩ ?_
    refine ev_iconst (x := 1) dX5_changeBoth_47 (by decide) ?_
    refine ev_iload dX5_changeBoth_48 rfl ?_
    refine ev_ishl dX5_changeBoth_50 ?_
    refine ev_iconst (x := (-1)) dX5_changeBoth_51 (by decide) ?_
    refine ev_ixor dX5_changeBoth_52 ?_
    refine ev_iand dX5_changeBoth_53 ?_
    refine ev_goto (t := 58) dX5_changeBoth_54 (by decide) ?_
    cases hq8
    exact hJ9

noncomputable def mi_X5_changeTwo_17 : Nat → ab_M → Nat → Int32 → Int32 → Option (Sum (Int32 × ab_M) (Int32 × ab_M))
  | 0, _, _, _, _ => none
  | n + 1, M, t1, x2, x3 =>
    if (M.1 1 8) ≤ x3 then
      some (.inl (x3, M))
    else
      (mi_X5_canChange M t1 x2).bind fun q3 =>
      if q3 = 0 then
        mi_X5_changeTwo_17 n M t1 x2 (x3 + 1)
      else
        (mi_X5_canChange M t1 x3).bind fun q6 =>
        if q6 = 0 then
          mi_X5_changeTwo_17 n M t1 x2 (x3 + 1)
        else
          (mi_X5_changeBoth M t1 x2 x3).bind fun q9 =>
          if q9.1 = 0 then
            mi_X5_changeTwo_17 n q9.2 t1 x2 (x3 + 1)
          else
            some (.inr (1, q9.2))

set_option maxHeartbeats 4000000 in
set_option maxRecDepth 100000 in
theorem lp_X5_changeTwo_17 {l : Launch} {D : va_G} {ac : Nat → ClassId} {n0 : Nat} {r : ab_Rs} : ∀ (n : Nat) (M : ab_M) (t1 : Nat) (ht1 : ab_isPlan t1) (x2 : Int32) (x3 : Int32) (q : Sum (Int32 × ab_M) (Int32 × ab_M)) (h : mi_X5_changeTwo_17 n M t1 x2 x3 = some q) (kk : ∀ y, q = .inl y → ab_Ev l D ac 7 me_X5_changeTwo n0 0 0 r 0 0 ab_SH 64 [some (.ref 30), some (.ref t1), some (.int x2), some (.int y.1)] [] y.2) (kr : ∀ v, q = .inr v → r = (some (.int v.1), ab_SH, v.2)), ab_Ev l D ac 7 me_X5_changeTwo n0 0 0 r 0 0 ab_SH 17 [some (.ref 30), some (.ref t1), some (.int x2), some (.int x3)] [] M := by
  intro n
  induction n with
  | zero =>
    intro M t1 ht1 x2 x3 q h kk kr
    cases h
  | succ n ih =>
    intro M t1 ht1 x2 x3 q h kk kr
    unfold mi_X5_changeTwo_17 at h
    refine ev_iload_n dX5_changeTwo_17 rfl ?_
    refine ev_aload_n dX5_changeTwo_18 rfl ?_
    refine ev_getr (o' := 1) fl_RX5_9 sh_30 (by decide) (by decide) rfl rfl dX5_changeTwo_19 ?_
    refine ev_geti fl_RX5_25 sh_1 (by decide) (by decide) rfl dX5_changeTwo_22 ?_
    refine ev_icmp_ge (t := 64) dX5_changeTwo_25 (by decide) (fun hc2 => ?_) (fun hc2 => ?_)
    · replace h := ab_pos hc2 h
      cases h
      exact kk _ rfl
    · replace h := ab_neg hc2 h
      refine ev_aload_n dX5_changeTwo_28 rfl ?_
      refine ev_aload_n dX5_changeTwo_29 rfl ?_
      refine ev_iload_n dX5_changeTwo_30 rfl ?_
      obtain ⟨q3, hv4, h⟩ := ab_bind h
      refine ev_callV (st := []) (co_X5_canChange M t1 ht1 x2 _ hv4) mv_X5_canChange sh_30 ml_RX5_29 dX5_changeTwo_31 (by decide) rfl (Nat.le_of_ble_eq_true rfl) ⟨Nat.le_refl _, Nat.le_refl _⟩ ?_
      refine ev_if_eq (t := 58) dX5_changeTwo_34 (by decide) (fun hc5 => ?_) (fun hc5 => ?_)
      · replace h := ab_pos hc5 h
        refine ev_iinc (y := x3 + 1) dX5_changeTwo_58 rfl (by first | rfl | decide) rfl rfl ?_
        refine ev_goto (t := 17) dX5_changeTwo_61 (by decide) ?_
        exact ih M t1 ht1 x2 (x3 + 1) _ h kk kr
      · replace h := ab_neg hc5 h
        refine ev_aload_n dX5_changeTwo_37 rfl ?_
        refine ev_aload_n dX5_changeTwo_38 rfl ?_
        refine ev_iload_n dX5_changeTwo_39 rfl ?_
        obtain ⟨q6, hv7, h⟩ := ab_bind h
        refine ev_callV (st := []) (co_X5_canChange M t1 ht1 x3 _ hv7) mv_X5_canChange sh_30 ml_RX5_29 dX5_changeTwo_40 (by decide) rfl (Nat.le_of_ble_eq_true rfl) ⟨Nat.le_refl _, Nat.le_refl _⟩ ?_
        refine ev_if_eq (t := 58) dX5_changeTwo_43 (by decide) (fun hc8 => ?_) (fun hc8 => ?_)
        · replace h := ab_pos hc8 h
          refine ev_iinc (y := x3 + 1) dX5_changeTwo_58 rfl (by first | rfl | decide) rfl rfl ?_
          refine ev_goto (t := 17) dX5_changeTwo_61 (by decide) ?_
          exact ih M t1 ht1 x2 (x3 + 1) _ h kk kr
        · replace h := ab_neg hc8 h
          refine ev_aload_n dX5_changeTwo_46 rfl ?_
          refine ev_aload_n dX5_changeTwo_47 rfl ?_
          refine ev_iload_n dX5_changeTwo_48 rfl ?_
          refine ev_iload_n dX5_changeTwo_49 rfl ?_
          obtain ⟨q9, hv10, h⟩ := ab_bind h
          refine ev_callV (st := []) (co_X5_changeBoth M t1 ht1 x2 x3 _ hv10) mv_X5_changeBoth sh_30 ml_RX5_51 dX5_changeTwo_50 (by decide) rfl (Nat.le_of_ble_eq_true rfl) ⟨Nat.le_refl _, Nat.le_refl _⟩ ?_
          refine ev_if_eq (t := 58) dX5_changeTwo_53 (by decide) (fun hc11 => ?_) (fun hc11 => ?_)
          · replace h := ab_pos hc11 h
            refine ev_iinc (y := x3 + 1) dX5_changeTwo_58 rfl (by first | rfl | decide) rfl rfl ?_
            refine ev_goto (t := 17) dX5_changeTwo_61 (by decide) ?_
            exact ih q9.2 t1 ht1 x2 (x3 + 1) _ h kk kr
          · replace h := ab_neg hc11 h
            refine ev_iconst (x := 1) dX5_changeTwo_56 (by decide) ?_
            cases h
            rw [kr _ rfl]
            exact ev_zreturn rfl (Or.inr rfl) dX5_changeTwo_57

noncomputable def mi_X5_changeTwo_2 : Nat → ab_M → Nat → Int32 → Option (Sum (Int32 × ab_M) (Int32 × ab_M))
  | 0, _, _, _ => none
  | n + 1, M, t1, x2 =>
    if (M.1 1 8) ≤ x2 then
      some (.inl (x2, M))
    else
      (mi_X5_changeTwo_17 ab_F M t1 x2 (x2 + 1)).bind fun q15 => Sum.elim (fun q12 =>
      mi_X5_changeTwo_2 n q12.2 t1 (x2 + 1)) (fun v14 => some (.inr v14)) q15

set_option maxHeartbeats 4000000 in
set_option maxRecDepth 100000 in
theorem lp_X5_changeTwo_2 {l : Launch} {D : va_G} {ac : Nat → ClassId} {n0 : Nat} {r : ab_Rs} : ∀ (n : Nat) (M : ab_M) (t1 : Nat) (ht1 : ab_isPlan t1) (x2 : Int32) (q : Sum (Int32 × ab_M) (Int32 × ab_M)) (h : mi_X5_changeTwo_2 n M t1 x2 = some q) (kk : ∀ y, q = .inl y → ab_Ev l D ac 7 me_X5_changeTwo n0 0 0 r 0 0 ab_SH 70 [some (.ref 30), some (.ref t1), some (.int y.1), none] [] y.2) (kr : ∀ v, q = .inr v → r = (some (.int v.1), ab_SH, v.2)), ab_Ev l D ac 7 me_X5_changeTwo n0 0 0 r 0 0 ab_SH 2 [some (.ref 30), some (.ref t1), some (.int x2), none] [] M := by
  intro n
  induction n with
  | zero =>
    intro M t1 ht1 x2 q h kk kr
    cases h
  | succ n ih =>
    intro M t1 ht1 x2 q h kk kr
    unfold mi_X5_changeTwo_2 at h
    refine ev_iload_n dX5_changeTwo_2 rfl ?_
    refine ev_aload_n dX5_changeTwo_3 rfl ?_
    refine ev_getr (o' := 1) fl_RX5_9 sh_30 (by decide) (by decide) rfl rfl dX5_changeTwo_4 ?_
    refine ev_geti fl_RX5_25 sh_1 (by decide) (by decide) rfl dX5_changeTwo_7 ?_
    refine ev_icmp_ge (t := 70) dX5_changeTwo_10 (by decide) (fun hc1 => ?_) (fun hc1 => ?_)
    · replace h := ab_pos hc1 h
      cases h
      exact kk _ rfl
    · replace h := ab_neg hc1 h
      refine ev_iload_n dX5_changeTwo_13 rfl ?_
      refine ev_iconst (x := 1) dX5_changeTwo_14 (by decide) ?_
      refine ev_iadd dX5_changeTwo_15 ?_
      refine ev_istore_n dX5_changeTwo_16 (Nat.le_of_ble_eq_true rfl) rfl rfl ?_
      obtain ⟨q15, hq13, h⟩ := ab_bind h
      rcases ab_elim h with ⟨q12, rfl, h⟩ | ⟨v14, rfl, h⟩
      · refine lp_X5_changeTwo_17 _ M t1 ht1 x2 (x2 + 1) _ hq13 (fun z e16 => ?_) (fun z e16 => by cases e16)
        cases e16
        refine ev_iinc (y := x2 + 1) dX5_changeTwo_64 rfl (by first | rfl | decide) rfl rfl ?_
        refine ev_goto (t := 2) dX5_changeTwo_67 (by decide) ?_
        refine ev_drop (lv' := [some (.ref 30), some (.ref t1), some (.int (x2 + 1)), none]) (ab_sub_k (ab_sub_k (ab_sub_k (ab_sub_d ab_sub_nil)))) ?_
        exact ih q12.2 t1 ht1 (x2 + 1) _ h kk kr
      · refine lp_X5_changeTwo_17 _ M t1 ht1 x2 (x2 + 1) _ hq13 (fun z e16 => by cases e16) (fun z e16 => ?_)
        cases e16
        cases h
        exact kr _ rfl

noncomputable def mi_X5_changeTwo (M : ab_M) (t1 : Nat) : Option (Int32 × ab_M) :=
  (mi_X5_changeTwo_2 ab_F M t1 0).bind fun q20 => Sum.elim (fun q17 =>
  some (0, q17.2)) (fun v19 => some v19) q20

set_option maxHeartbeats 4000000 in
set_option maxRecDepth 100000 in
theorem co_X5_changeTwo {l : Launch} {D : va_G} {ac : Nat → ClassId} (M : ab_M) (t1 : Nat) (ht1 : ab_isPlan t1) (z : Int32 × ab_M) (h : mi_X5_changeTwo M t1 = some z) : ab_Con l D ac 7 me_X5_changeTwo 0 0 [.ref 30, .ref t1] ab_SH M (some (.int z.1), ab_SH, z.2) := by
  refine ab_intro (lv := [some (.ref 30), some (.ref t1), none, none]) (by decide) rfl (Nat.le_of_ble_eq_true rfl) rfl ?_
  unfold mi_X5_changeTwo at h
  refine ev_iconst (x := 0) dX5_changeTwo_0 (by decide) ?_
  refine ev_istore_n dX5_changeTwo_1 (Nat.le_of_ble_eq_true rfl) rfl rfl ?_
  obtain ⟨q20, hq18, h⟩ := ab_bind h
  rcases ab_elim h with ⟨q17, rfl, h⟩ | ⟨v19, rfl, h⟩
  · refine lp_X5_changeTwo_2 _ M t1 ht1 0 _ hq18 (fun z e21 => ?_) (fun z e21 => by cases e21)
    cases e21
    refine ev_iconst (x := 0) dX5_changeTwo_70 (by decide) ?_
    cases h
    exact ev_zreturn rfl (Or.inl rfl) dX5_changeTwo_71
  · refine lp_X5_changeTwo_2 _ M t1 ht1 0 _ hq18 (fun z e21 => by cases e21) (fun z e21 => ?_)
    cases e21
    cases h
    rfl
end
section
noncomputable def mi_X0_barsAll_2 : Nat → ab_M → Int32 → Int32 → Int32 → Option (Sum (Int32) (Int32))
  | 0, _, _, _, _ => none
  | n + 1, M, x1, x2, x3 =>
    if (M.1 1 7) ≤ x3 then
      some (.inl x3)
    else
      if ((ab_ushr x2 x3) &&& 1) = 0 then
        mi_X0_barsAll_2 n M x1 x2 (x3 + 1)
      else
        (mi_X3_barOf M x1 x3).bind fun q3 =>
        if q3 = 0 then
          some (.inr 0)
        else
          mi_X0_barsAll_2 n M x1 x2 (x3 + 1)

set_option maxHeartbeats 4000000 in
set_option maxRecDepth 100000 in
theorem lp_X0_barsAll_2 {l : Launch} {D : va_G} {ac : Nat → ClassId} {n0 : Nat} {r : ab_Rs} : ∀ (n : Nat) (M : ab_M) (x1 : Int32) (x2 : Int32) (x3 : Int32) (q : Sum (Int32) (Int32)) (h : mi_X0_barsAll_2 n M x1 x2 x3 = some q) (kk : ∀ y, q = .inl y → ab_Ev l D ac 2 me_X0_barsAll n0 0 0 r 0 0 ab_SH 41 [some (.ref 31), some (.int x1), some (.int x2), some (.int y)] [] M) (kr : ∀ v, q = .inr v → r = (some (.int v), ab_SH, M)), ab_Ev l D ac 2 me_X0_barsAll n0 0 0 r 0 0 ab_SH 2 [some (.ref 31), some (.int x1), some (.int x2), some (.int x3)] [] M := by
  intro n
  induction n with
  | zero =>
    intro M x1 x2 x3 q h kk kr
    cases h
  | succ n ih =>
    intro M x1 x2 x3 q h kk kr
    unfold mi_X0_barsAll_2 at h
    refine ev_iload_n dX0_barsAll_2 rfl ?_
    refine ev_aload_n dX0_barsAll_3 rfl ?_
    refine ev_getr (o' := 1) fl_RX0_18 sh_31 (by decide) (by decide) rfl rfl dX0_barsAll_4 ?_
    refine ev_geti fl_RX0_22 sh_1 (by decide) (by decide) rfl dX0_barsAll_7 ?_
    refine ev_icmp_ge (t := 41) dX0_barsAll_10 (by decide) (fun hc1 => ?_) (fun hc1 => ?_)
    · replace h := ab_pos hc1 h
      cases h
      exact kk _ rfl
    · replace h := ab_neg hc1 h
      refine ev_iload_n dX0_barsAll_13 rfl ?_
      refine ev_iload_n dX0_barsAll_14 rfl ?_
      refine ev_iushr dX0_barsAll_15 ?_
      refine ev_iconst (x := 1) dX0_barsAll_16 (by decide) ?_
      refine ev_iand dX0_barsAll_17 ?_
      refine ev_if_eq (t := 35) dX0_barsAll_18 (by decide) (fun hc2 => ?_) (fun hc2 => ?_)
      · replace h := ab_pos hc2 h
        refine ev_iinc (y := x3 + 1) dX0_barsAll_35 rfl (by first | rfl | decide) rfl rfl ?_
        refine ev_goto (t := 2) dX0_barsAll_38 (by decide) ?_
        exact ih M x1 x2 (x3 + 1) _ h kk kr
      · replace h := ab_neg hc2 h
        refine ev_aload_n dX0_barsAll_21 rfl ?_
        refine ev_getr (o' := 1) fl_RX0_18 sh_31 (by decide) (by decide) rfl rfl dX0_barsAll_22 ?_
        refine ev_iload_n dX0_barsAll_25 rfl ?_
        refine ev_iload_n dX0_barsAll_26 rfl ?_
        obtain ⟨q3, hv4, h⟩ := ab_bind h
        refine ev_callV (st := []) (co_X3_barOf M x1 x3 _ hv4) mv_X3_barOf sh_1 ml_RX0_32 dX0_barsAll_27 (by decide) rfl (Nat.le_of_ble_eq_true rfl) ⟨Nat.le_refl _, Nat.le_refl _⟩ ?_
        refine ev_if_ne (t := 35) dX0_barsAll_30 (by decide) (fun hc5 => ?_) (fun hc5 => ?_)
        · replace h := ab_neg hc5 h
          refine ev_iinc (y := x3 + 1) dX0_barsAll_35 rfl (by first | rfl | decide) rfl rfl ?_
          refine ev_goto (t := 2) dX0_barsAll_38 (by decide) ?_
          exact ih M x1 x2 (x3 + 1) _ h kk kr
        · replace h := ab_pos hc5 h
          refine ev_iconst (x := 0) dX0_barsAll_33 (by decide) ?_
          cases h
          rw [kr _ rfl]
          exact ev_zreturn rfl (Or.inl rfl) dX0_barsAll_34

noncomputable def mi_X0_barsAll (M : ab_M) (x1 : Int32) (x2 : Int32) : Option (Int32) :=
  (mi_X0_barsAll_2 ab_F M x1 x2 0).bind fun q9 => Sum.elim (fun q6 =>
  some 1) (fun v8 => some v8) q9

set_option maxHeartbeats 4000000 in
set_option maxRecDepth 100000 in
theorem co_X0_barsAll {l : Launch} {D : va_G} {ac : Nat → ClassId} (M : ab_M) (x1 : Int32) (x2 : Int32) (z : Int32) (h : mi_X0_barsAll M x1 x2 = some z) : ab_Con l D ac 2 me_X0_barsAll 0 0 [.ref 31, .int x1, .int x2] ab_SH M (some (.int z), ab_SH, M) := by
  refine ab_intro (lv := [some (.ref 31), some (.int x1), some (.int x2), none]) (by decide) rfl (Nat.le_of_ble_eq_true rfl) rfl ?_
  unfold mi_X0_barsAll at h
  refine ev_iconst (x := 0) dX0_barsAll_0 (by decide) ?_
  refine ev_istore_n dX0_barsAll_1 (Nat.le_of_ble_eq_true rfl) rfl rfl ?_
  obtain ⟨q9, hq7, h⟩ := ab_bind h
  rcases ab_elim h with ⟨q6, rfl, h⟩ | ⟨v8, rfl, h⟩
  · refine lp_X0_barsAll_2 _ M x1 x2 0 _ hq7 (fun z e10 => ?_) (fun z e10 => by cases e10)
    cases e10
    refine ev_iconst (x := 1) dX0_barsAll_41 (by decide) ?_
    cases h
    exact ev_zreturn rfl (Or.inr rfl) dX0_barsAll_42
  · refine lp_X0_barsAll_2 _ M x1 x2 0 _ hq7 (fun z e10 => by cases e10) (fun z e10 => ?_)
    cases e10
    cases h
    rfl

noncomputable def mi_X0_isCrowd_2 : Nat → ab_M → Int32 → Int32 → Option (Sum (Int32) (Int32))
  | 0, _, _, _ => none
  | n + 1, M, x1, x2 =>
    if (M.1 1 7) ≤ x2 then
      some (.inl x2)
    else
      if ((ab_ushr x1 x2) &&& 1) = 0 then
        mi_X0_isCrowd_2 n M x1 (x2 + 1)
      else
        (mi_X0_barsAll M x2 (x1 &&& ((1 <<< (x2 &&& 31)) ^^^ (-1)))).bind fun q3 =>
        if q3 = 0 then
          some (.inr 0)
        else
          mi_X0_isCrowd_2 n M x1 (x2 + 1)

set_option maxHeartbeats 4000000 in
set_option maxRecDepth 100000 in
theorem lp_X0_isCrowd_2 {l : Launch} {D : va_G} {ac : Nat → ClassId} {n0 : Nat} {r : ab_Rs} : ∀ (n : Nat) (M : ab_M) (x1 : Int32) (x2 : Int32) (q : Sum (Int32) (Int32)) (h : mi_X0_isCrowd_2 n M x1 x2 = some q) (kk : ∀ y, q = .inl y → ab_Ev l D ac 3 me_X0_isCrowd n0 0 0 r 0 0 ab_SH 44 [some (.ref 31), some (.int x1), some (.int y)] [] M) (kr : ∀ v, q = .inr v → r = (some (.int v), ab_SH, M)), ab_Ev l D ac 3 me_X0_isCrowd n0 0 0 r 0 0 ab_SH 2 [some (.ref 31), some (.int x1), some (.int x2)] [] M := by
  intro n
  induction n with
  | zero =>
    intro M x1 x2 q h kk kr
    cases h
  | succ n ih =>
    intro M x1 x2 q h kk kr
    unfold mi_X0_isCrowd_2 at h
    refine ev_iload_n dX0_isCrowd_2 rfl ?_
    refine ev_aload_n dX0_isCrowd_3 rfl ?_
    refine ev_getr (o' := 1) fl_RX0_18 sh_31 (by decide) (by decide) rfl rfl dX0_isCrowd_4 ?_
    refine ev_geti fl_RX0_22 sh_1 (by decide) (by decide) rfl dX0_isCrowd_7 ?_
    refine ev_icmp_ge (t := 44) dX0_isCrowd_10 (by decide) (fun hc1 => ?_) (fun hc1 => ?_)
    · replace h := ab_pos hc1 h
      cases h
      exact kk _ rfl
    · replace h := ab_neg hc1 h
      refine ev_iload_n dX0_isCrowd_13 rfl ?_
      refine ev_iload_n dX0_isCrowd_14 rfl ?_
      refine ev_iushr dX0_isCrowd_15 ?_
      refine ev_iconst (x := 1) dX0_isCrowd_16 (by decide) ?_
      refine ev_iand dX0_isCrowd_17 ?_
      refine ev_if_eq (t := 38) dX0_isCrowd_18 (by decide) (fun hc2 => ?_) (fun hc2 => ?_)
      · replace h := ab_pos hc2 h
        refine ev_iinc (y := x2 + 1) dX0_isCrowd_38 rfl (by first | rfl | decide) rfl rfl ?_
        refine ev_goto (t := 2) dX0_isCrowd_41 (by decide) ?_
        exact ih M x1 (x2 + 1) _ h kk kr
      · replace h := ab_neg hc2 h
        refine ev_aload_n dX0_isCrowd_21 rfl ?_
        refine ev_iload_n dX0_isCrowd_22 rfl ?_
        refine ev_iload_n dX0_isCrowd_23 rfl ?_
        refine ev_iconst (x := 1) dX0_isCrowd_24 (by decide) ?_
        refine ev_iload_n dX0_isCrowd_25 rfl ?_
        refine ev_ishl dX0_isCrowd_26 ?_
        refine ev_iconst (x := (-1)) dX0_isCrowd_27 (by decide) ?_
        refine ev_ixor dX0_isCrowd_28 ?_
        refine ev_iand dX0_isCrowd_29 ?_
        obtain ⟨q3, hv4, h⟩ := ab_bind h
        refine ev_callV (st := []) (co_X0_barsAll M x2 (x1 &&& ((1 <<< (x2 &&& 31)) ^^^ (-1))) _ hv4) mv_X0_barsAll sh_31 ml_RX0_28 dX0_isCrowd_30 (by decide) rfl (Nat.le_of_ble_eq_true rfl) ⟨Nat.le_refl _, Nat.le_refl _⟩ ?_
        refine ev_if_ne (t := 38) dX0_isCrowd_33 (by decide) (fun hc5 => ?_) (fun hc5 => ?_)
        · replace h := ab_neg hc5 h
          refine ev_iinc (y := x2 + 1) dX0_isCrowd_38 rfl (by first | rfl | decide) rfl rfl ?_
          refine ev_goto (t := 2) dX0_isCrowd_41 (by decide) ?_
          exact ih M x1 (x2 + 1) _ h kk kr
        · replace h := ab_pos hc5 h
          refine ev_iconst (x := 0) dX0_isCrowd_36 (by decide) ?_
          cases h
          rw [kr _ rfl]
          exact ev_zreturn rfl (Or.inl rfl) dX0_isCrowd_37

noncomputable def mi_X0_isCrowd (M : ab_M) (x1 : Int32) : Option (Int32) :=
  (mi_X0_isCrowd_2 ab_F M x1 0).bind fun q9 => Sum.elim (fun q6 =>
  some 1) (fun v8 => some v8) q9

set_option maxHeartbeats 4000000 in
set_option maxRecDepth 100000 in
theorem co_X0_isCrowd {l : Launch} {D : va_G} {ac : Nat → ClassId} (M : ab_M) (x1 : Int32) (z : Int32) (h : mi_X0_isCrowd M x1 = some z) : ab_Con l D ac 3 me_X0_isCrowd 0 0 [.ref 31, .int x1] ab_SH M (some (.int z), ab_SH, M) := by
  refine ab_intro (lv := [some (.ref 31), some (.int x1), none]) (by decide) rfl (Nat.le_of_ble_eq_true rfl) rfl ?_
  unfold mi_X0_isCrowd at h
  refine ev_iconst (x := 0) dX0_isCrowd_0 (by decide) ?_
  refine ev_istore_n dX0_isCrowd_1 (Nat.le_of_ble_eq_true rfl) rfl rfl ?_
  obtain ⟨q9, hq7, h⟩ := ab_bind h
  rcases ab_elim h with ⟨q6, rfl, h⟩ | ⟨v8, rfl, h⟩
  · refine lp_X0_isCrowd_2 _ M x1 0 _ hq7 (fun z e10 => ?_) (fun z e10 => by cases e10)
    cases e10
    refine ev_iconst (x := 1) dX0_isCrowd_44 (by decide) ?_
    cases h
    exact ev_zreturn rfl (Or.inr rfl) dX0_isCrowd_45
  · refine lp_X0_isCrowd_2 _ M x1 0 _ hq7 (fun z e10 => by cases e10) (fun z e10 => ?_)
    cases e10
    cases h
    rfl

noncomputable def mi_X0_wantsOf_4 : Nat → ab_M → Int32 → Int32 → Int32 → Option (Int32 × Int32)
  | 0, _, _, _, _ => none
  | n + 1, M, x1, x2, x3 =>
    if (M.1 1 7) ≤ x3 then
      some (x2, x3)
    else
      ((if ((ab_ushr x1 x3) &&& 1) = 0 then
        some 0
      else
        ab_chk (vp_in x3 12) <|
        some (M.1 (12 + (x3).toNatClampNeg) 5)) : Option (Int32)).bind fun q2 =>
      mi_X0_wantsOf_4 n M x1 (x2 + q2) (x3 + 1)

set_option maxHeartbeats 4000000 in
set_option maxRecDepth 100000 in
theorem lp_X0_wantsOf_4 {l : Launch} {D : va_G} {ac : Nat → ClassId} {n0 : Nat} {r : ab_Rs} : ∀ (n : Nat) (M : ab_M) (x1 : Int32) (x2 : Int32) (x3 : Int32) (q : Int32 × Int32) (h : mi_X0_wantsOf_4 n M x1 x2 x3 = some q) (kk : ab_Ev l D ac 1 me_X0_wantsOf n0 0 0 r 0 0 ab_SH 48 [some (.ref 31), some (.int x1), some (.int q.1), some (.int q.2)] [] M), ab_Ev l D ac 1 me_X0_wantsOf n0 0 0 r 0 0 ab_SH 4 [some (.ref 31), some (.int x1), some (.int x2), some (.int x3)] [] M := by
  intro n
  induction n with
  | zero =>
    intro M x1 x2 x3 q h kk
    cases h
  | succ n ih =>
    intro M x1 x2 x3 q h kk
    unfold mi_X0_wantsOf_4 at h
    refine ev_iload_n dX0_wantsOf_4 rfl ?_
    refine ev_aload_n dX0_wantsOf_5 rfl ?_
    refine ev_getr (o' := 1) fl_RX0_18 sh_31 (by decide) (by decide) rfl rfl dX0_wantsOf_6 ?_
    refine ev_geti fl_RX0_22 sh_1 (by decide) (by decide) rfl dX0_wantsOf_9 ?_
    refine ev_icmp_ge (t := 48) dX0_wantsOf_12 (by decide) (fun hc1 => ?_) (fun hc1 => ?_)
    · replace h := ab_pos hc1 h
      cases h
      exact kk
    · replace h := ab_neg hc1 h
      refine ev_iload_n dX0_wantsOf_15 rfl ?_
      refine ev_iload_n dX0_wantsOf_16 rfl ?_
      refine ev_iload_n dX0_wantsOf_17 rfl ?_
      refine ev_iushr dX0_wantsOf_18 ?_
      refine ev_iconst (x := 1) dX0_wantsOf_19 (by decide) ?_
      refine ev_iand dX0_wantsOf_20 ?_
      obtain ⟨q2, hq3, h⟩ := ab_bind h
      have hJ4 : ab_Ev l D ac 1 me_X0_wantsOf n0 0 0 r 0 0 ab_SH 40 [some (.ref 31), some (.int x1), some (.int x2), some (.int x3)] [.int q2, .int x2] M := by
        refine ev_iadd dX0_wantsOf_40 ?_
        refine ev_istore_n dX0_wantsOf_41 (Nat.le_of_ble_eq_true rfl) rfl rfl ?_
        refine ev_iinc (y := x3 + 1) dX0_wantsOf_42 rfl (by first | rfl | decide) rfl rfl ?_
        refine ev_goto (t := 4) dX0_wantsOf_45 (by decide) ?_
        exact ih M x1 (x2 + q2) (x3 + 1) _ h kk
      refine ev_if_eq (t := 39) dX0_wantsOf_21 (by decide) (fun hc5 => ?_) (fun hc5 => ?_)
      · replace hq3 := ab_pos hc5 hq3
        refine ev_iconst (x := 0) dX0_wantsOf_39 (by decide) ?_
        cases hq3
        exact hJ4
      · replace hq3 := ab_neg hc5 hq3
        refine ev_aload_n dX0_wantsOf_24 rfl ?_
        refine ev_getr (o' := 1) fl_RX0_18 sh_31 (by decide) (by decide) rfl rfl dX0_wantsOf_25 ?_
        refine ev_getr (o' := 2) fl_RX0_36 sh_1 (by decide) (by decide) rfl rfl dX0_wantsOf_28 ?_
        refine ev_iload_n dX0_wantsOf_31 rfl ?_
        obtain ⟨hb6, hq3⟩ := ab_chk_some hq3
        refine ev_aaload sh_2 (Or.inl rfl) hb6 (rf_mast hb6) dX0_wantsOf_32 ?_
        refine ev_geti fl_RX0_40 (sh_mast hb6) (by decide) (by decide) rfl dX0_wantsOf_33 ?_
        refine ev_goto (t := 40) dX0_wantsOf_36 (by decide) ?_
        cases hq3
        exact hJ4

noncomputable def mi_X0_wantsOf (M : ab_M) (x1 : Int32) : Option (Int32) :=
  (mi_X0_wantsOf_4 ab_F M x1 0 0).bind fun q7 =>
  some q7.1

set_option maxHeartbeats 4000000 in
set_option maxRecDepth 100000 in
theorem co_X0_wantsOf {l : Launch} {D : va_G} {ac : Nat → ClassId} (M : ab_M) (x1 : Int32) (z : Int32) (h : mi_X0_wantsOf M x1 = some z) : ab_Con l D ac 1 me_X0_wantsOf 0 0 [.ref 31, .int x1] ab_SH M (some (.int z), ab_SH, M) := by
  refine ab_intro (lv := [some (.ref 31), some (.int x1), none, none]) (by decide) rfl (Nat.le_of_ble_eq_true rfl) rfl ?_
  unfold mi_X0_wantsOf at h
  refine ev_iconst (x := 0) dX0_wantsOf_0 (by decide) ?_
  refine ev_istore_n dX0_wantsOf_1 (Nat.le_of_ble_eq_true rfl) rfl rfl ?_
  refine ev_iconst (x := 0) dX0_wantsOf_2 (by decide) ?_
  refine ev_istore_n dX0_wantsOf_3 (Nat.le_of_ble_eq_true rfl) rfl rfl ?_
  obtain ⟨q7, hq8, h⟩ := ab_bind h
  refine lp_X0_wantsOf_4 _ M x1 0 0 _ hq8 ?_
  refine ev_iload_n dX0_wantsOf_48 rfl ?_
  cases h
  exact ev_ireturn rfl dX0_wantsOf_49

noncomputable def mi_X0_leastSum_13 : Nat → ab_M → Int32 → Int32 → Int32 → Int32 → Int32 → Option (Int32 × Int32)
  | 0, _, _, _, _, _, _ => none
  | n + 1, M, x1, x2, x3, x4, x5 =>
    if x3 < x5 then
      some (x4, x5)
    else
      ((if ((ab_ushr x1 x5) &&& 1) = 0 then
        some x4
      else
        ab_chk (vp_in ((x1 * 6) + x5) 384) <|
        ab_chk (vp_in x5 6) <|
        ab_chk (vp_in x2 6) <|
        (mi_X3_barOf M (M.1 33 (x5).toNatClampNeg) (M.1 33 (x2).toNatClampNeg)).bind fun q10 =>
        (some (ab_min x4 ((M.1 32 ((x1 * 6) + x5).toNatClampNeg) + q10)) : Option Int32).bind fun v12 =>
        some v12) : Option (Int32)).bind fun q3 =>
      mi_X0_leastSum_13 n M x1 x2 x3 q3 (x5 + 1)

set_option maxHeartbeats 4000000 in
set_option maxRecDepth 100000 in
theorem lp_X0_leastSum_13 {l : Launch} {D : va_G} {ac : Nat → ClassId} {n0 : Nat} {r : ab_Rs} : ∀ (n : Nat) (M : ab_M) (x1 : Int32) (x2 : Int32) (x3 : Int32) (x4 : Int32) (x5 : Int32) (q : Int32 × Int32) (h : mi_X0_leastSum_13 n M x1 x2 x3 x4 x5 = some q) (kk : ab_Ev l D ac 2 me_X0_leastSum n0 0 0 r 0 0 ab_SH 74 [some (.ref 31), some (.int x1), some (.int x2), some (.int x3), some (.int q.1), some (.int q.2)] [] M), ab_Ev l D ac 2 me_X0_leastSum n0 0 0 r 0 0 ab_SH 13 [some (.ref 31), some (.int x1), some (.int x2), some (.int x3), some (.int x4), some (.int x5)] [] M := by
  intro n
  induction n with
  | zero =>
    intro M x1 x2 x3 x4 x5 q h kk
    cases h
  | succ n ih =>
    intro M x1 x2 x3 x4 x5 q h kk
    unfold mi_X0_leastSum_13 at h
    refine ev_iload dX0_leastSum_13 rfl ?_
    refine ev_iload_n dX0_leastSum_15 rfl ?_
    refine ev_icmp_gt (t := 74) dX0_leastSum_16 (by decide) (fun hc2 => ?_) (fun hc2 => ?_)
    · replace h := ab_pos hc2 h
      cases h
      exact kk
    · replace h := ab_neg hc2 h
      refine ev_iload_n dX0_leastSum_19 rfl ?_
      refine ev_iload dX0_leastSum_20 rfl ?_
      refine ev_iushr dX0_leastSum_22 ?_
      refine ev_iconst (x := 1) dX0_leastSum_23 (by decide) ?_
      refine ev_iand dX0_leastSum_24 ?_
      obtain ⟨q3, hq4, h⟩ := ab_bind h
      have hJ5 : ab_Ev l D ac 2 me_X0_leastSum n0 0 0 r 0 0 ab_SH 68 [some (.ref 31), some (.int x1), some (.int x2), some (.int x3), some (.int q3), some (.int x5)] [] M := by
        refine ev_iinc (y := x5 + 1) dX0_leastSum_68 rfl (by first | rfl | decide) rfl rfl ?_
        refine ev_goto (t := 13) dX0_leastSum_71 (by decide) ?_
        exact ih M x1 x2 x3 q3 (x5 + 1) _ h kk
      refine ev_if_eq (t := 68) dX0_leastSum_25 (by decide) (fun hc6 => ?_) (fun hc6 => ?_)
      · replace hq4 := ab_pos hc6 hq4
        cases hq4
        exact hJ5
      · replace hq4 := ab_neg hc6 hq4
        refine ev_iload dX0_leastSum_28 rfl ?_
        refine ev_aload_n dX0_leastSum_30 rfl ?_
        refine ev_getr (o' := 32) fl_RX0_9 sh_31 (by decide) (by decide) rfl rfl dX0_leastSum_31 ?_
        refine ev_iload_n dX0_leastSum_34 rfl ?_
        refine ev_bipush (x := 6) dX0_leastSum_35 (by decide) ?_
        refine ev_imul dX0_leastSum_37 ?_
        refine ev_iload dX0_leastSum_38 rfl ?_
        refine ev_iadd dX0_leastSum_40 ?_
        obtain ⟨hb7, hq4⟩ := ab_chk_some hq4
        refine ev_iaload sh_32 hb7 dX0_leastSum_41 ?_
        refine ev_aload_n dX0_leastSum_42 rfl ?_
        refine ev_getr (o' := 1) fl_RX0_18 sh_31 (by decide) (by decide) rfl rfl dX0_leastSum_43 ?_
        refine ev_aload_n dX0_leastSum_46 rfl ?_
        refine ev_getr (o' := 33) fl_RX0_15 sh_31 (by decide) (by decide) rfl rfl dX0_leastSum_47 ?_
        refine ev_iload dX0_leastSum_50 rfl ?_
        obtain ⟨hb8, hq4⟩ := ab_chk_some hq4
        refine ev_iaload sh_33 hb8 dX0_leastSum_52 ?_
        refine ev_aload_n dX0_leastSum_53 rfl ?_
        refine ev_getr (o' := 33) fl_RX0_15 sh_31 (by decide) (by decide) rfl rfl dX0_leastSum_54 ?_
        refine ev_iload_n dX0_leastSum_57 rfl ?_
        obtain ⟨hb9, hq4⟩ := ab_chk_some hq4
        refine ev_iaload sh_33 hb9 dX0_leastSum_58 ?_
        obtain ⟨q10, hv11, hq4⟩ := ab_bind hq4
        refine ev_callV (st := [.int (M.1 32 ((x1 * 6) + x5).toNatClampNeg), .int x4]) (co_X3_barOf M (M.1 33 (x5).toNatClampNeg) (M.1 33 (x2).toNatClampNeg) _ hv11) mv_X3_barOf sh_1 ml_RX0_32 dX0_leastSum_59 (by decide) rfl (Nat.le_of_ble_eq_true rfl) ⟨Nat.le_refl _, Nat.le_refl _⟩ ?_
        refine ev_iadd dX0_leastSum_62 ?_
        refine ev_min ml_RX0_74 dX0_leastSum_63 (by decide) (Nat.le_of_ble_eq_true rfl) ⟨Nat.le_refl _, Nat.le_refl _⟩ ?_
        obtain ⟨v12, hq13, hq4⟩ := ab_bind hq4
        refine ev_nmi (Option.some.inj hq13) ?_
        refine ev_istore (x := v12) dX0_leastSum_66 (Nat.le_of_ble_eq_true rfl) rfl rfl ?_
        cases hq4
        exact hJ5

noncomputable def mi_X0_leastSum (M : ab_M) (x1 : Int32) (x2 : Int32) (x3 : Int32) : Option (Int32) :=
  if x1 = 0 then
    some 0
  else
    (mi_X0_leastSum_13 ab_F M x1 x2 x3 1000000 0).bind fun q14 =>
    some q14.1

set_option maxHeartbeats 4000000 in
set_option maxRecDepth 100000 in
theorem co_X0_leastSum {l : Launch} {D : va_G} {ac : Nat → ClassId} (M : ab_M) (x1 : Int32) (x2 : Int32) (x3 : Int32) (z : Int32) (h : mi_X0_leastSum M x1 x2 x3 = some z) : ab_Con l D ac 2 me_X0_leastSum 0 0 [.ref 31, .int x1, .int x2, .int x3] ab_SH M (some (.int z), ab_SH, M) := by
  refine ab_intro (lv := [some (.ref 31), some (.int x1), some (.int x2), some (.int x3), none, none]) (by decide) rfl (Nat.le_of_ble_eq_true rfl) rfl ?_
  unfold mi_X0_leastSum at h
  refine ev_iload_n dX0_leastSum_0 rfl ?_
  refine ev_if_ne (t := 6) dX0_leastSum_1 (by decide) (fun hc1 => ?_) (fun hc1 => ?_)
  · replace h := ab_neg hc1 h
    refine ev_ldc kw_RX0_73 dX0_leastSum_6 ?_
    refine ev_istore dX0_leastSum_8 (Nat.le_of_ble_eq_true rfl) rfl rfl ?_
    refine ev_iconst (x := 0) dX0_leastSum_10 (by decide) ?_
    refine ev_istore dX0_leastSum_11 (Nat.le_of_ble_eq_true rfl) rfl rfl ?_
    obtain ⟨q14, hq15, h⟩ := ab_bind h
    refine lp_X0_leastSum_13 _ M x1 x2 x3 1000000 0 _ hq15 ?_
    refine ev_iload dX0_leastSum_74 rfl ?_
    cases h
    exact ev_ireturn rfl dX0_leastSum_76
  · replace h := ab_pos hc1 h
    refine ev_iconst (x := 0) dX0_leastSum_4 (by decide) ?_
    cases h
    exact ev_ireturn rfl dX0_leastSum_5

noncomputable def mi_X0_sumUp_2 : Nat → ab_M → Int32 → Int32 → Int32 → Option (Int32 × ab_M)
  | 0, _, _, _, _ => none
  | n + 1, M, x1, x2, x3 =>
    if x2 < x3 then
      some (x3, M)
    else
      ((if ((ab_ushr x1 x3) &&& 1) = 0 then
        some M
      else
        (mi_X0_leastSum M (x1 &&& ((1 <<< (x3 &&& 31)) ^^^ (-1))) x3 x2).bind fun q6 =>
        ab_chk (vp_in ((x1 * 6) + x3) 384) <|
        some (ab_pi M 32 ((x1 * 6) + x3).toNatClampNeg q6)) : Option (ab_M)).bind fun q2 =>
      mi_X0_sumUp_2 n q2 x1 x2 (x3 + 1)

set_option maxHeartbeats 4000000 in
set_option maxRecDepth 100000 in
theorem lp_X0_sumUp_2 {l : Launch} {D : va_G} {ac : Nat → ClassId} {n0 : Nat} {r : ab_Rs} : ∀ (n : Nat) (M : ab_M) (x1 : Int32) (x2 : Int32) (x3 : Int32) (q : Int32 × ab_M) (h : mi_X0_sumUp_2 n M x1 x2 x3 = some q) (kk : ab_Ev l D ac 3 me_X0_sumUp n0 0 0 r 0 0 ab_SH 45 [some (.ref 31), some (.int x1), some (.int x2), some (.int q.1)] [] q.2), ab_Ev l D ac 3 me_X0_sumUp n0 0 0 r 0 0 ab_SH 2 [some (.ref 31), some (.int x1), some (.int x2), some (.int x3)] [] M := by
  intro n
  induction n with
  | zero =>
    intro M x1 x2 x3 q h kk
    cases h
  | succ n ih =>
    intro M x1 x2 x3 q h kk
    unfold mi_X0_sumUp_2 at h
    refine ev_iload_n dX0_sumUp_2 rfl ?_
    refine ev_iload_n dX0_sumUp_3 rfl ?_
    refine ev_icmp_gt (t := 45) dX0_sumUp_4 (by decide) (fun hc1 => ?_) (fun hc1 => ?_)
    · replace h := ab_pos hc1 h
      cases h
      exact kk
    · replace h := ab_neg hc1 h
      refine ev_iload_n dX0_sumUp_7 rfl ?_
      refine ev_iload_n dX0_sumUp_8 rfl ?_
      refine ev_iushr dX0_sumUp_9 ?_
      refine ev_iconst (x := 1) dX0_sumUp_10 (by decide) ?_
      refine ev_iand dX0_sumUp_11 ?_
      obtain ⟨q2, hq3, h⟩ := ab_bind h
      have hJ4 : ab_Ev l D ac 3 me_X0_sumUp n0 0 0 r 0 0 ab_SH 39 [some (.ref 31), some (.int x1), some (.int x2), some (.int x3)] [] q2 := by
        refine ev_iinc (y := x3 + 1) dX0_sumUp_39 rfl (by first | rfl | decide) rfl rfl ?_
        refine ev_goto (t := 2) dX0_sumUp_42 (by decide) ?_
        exact ih q2 x1 x2 (x3 + 1) _ h kk
      refine ev_if_eq (t := 39) dX0_sumUp_12 (by decide) (fun hc5 => ?_) (fun hc5 => ?_)
      · replace hq3 := ab_pos hc5 hq3
        cases hq3
        exact hJ4
      · replace hq3 := ab_neg hc5 hq3
        refine ev_aload_n dX0_sumUp_15 rfl ?_
        refine ev_getr (o' := 32) fl_RX0_9 sh_31 (by decide) (by decide) rfl rfl dX0_sumUp_16 ?_
        refine ev_iload_n dX0_sumUp_19 rfl ?_
        refine ev_bipush (x := 6) dX0_sumUp_20 (by decide) ?_
        refine ev_imul dX0_sumUp_22 ?_
        refine ev_iload_n dX0_sumUp_23 rfl ?_
        refine ev_iadd dX0_sumUp_24 ?_
        refine ev_aload_n dX0_sumUp_25 rfl ?_
        refine ev_iload_n dX0_sumUp_26 rfl ?_
        refine ev_iconst (x := 1) dX0_sumUp_27 (by decide) ?_
        refine ev_iload_n dX0_sumUp_28 rfl ?_
        refine ev_ishl dX0_sumUp_29 ?_
        refine ev_iconst (x := (-1)) dX0_sumUp_30 (by decide) ?_
        refine ev_ixor dX0_sumUp_31 ?_
        refine ev_iand dX0_sumUp_32 ?_
        refine ev_iload_n dX0_sumUp_33 rfl ?_
        refine ev_iload_n dX0_sumUp_34 rfl ?_
        obtain ⟨q6, hv7, hq3⟩ := ab_bind hq3
        refine ev_callV (st := [.int ((x1 * 6) + x3), .ref 32]) (co_X0_leastSum M (x1 &&& ((1 <<< (x3 &&& 31)) ^^^ (-1))) x3 x2 _ hv7) mv_X0_leastSum sh_31 ml_RX0_69 dX0_sumUp_35 (by decide) rfl (Nat.le_of_ble_eq_true rfl) ⟨Nat.le_refl _, Nat.le_refl _⟩ ?_
        obtain ⟨hb8, hq3⟩ := ab_chk_some hq3
        refine ev_iastore sh_32 hb8 dX0_sumUp_38 ?_
        cases hq3
        exact hJ4

noncomputable def mi_X0_sumUp (M : ab_M) (x1 : Int32) (x2 : Int32) : Option (ab_M) :=
  (mi_X0_sumUp_2 ab_F M x1 x2 0).bind fun q9 =>
  some q9.2

set_option maxHeartbeats 4000000 in
set_option maxRecDepth 100000 in
theorem co_X0_sumUp {l : Launch} {D : va_G} {ac : Nat → ClassId} (M : ab_M) (x1 : Int32) (x2 : Int32) (z : ab_M) (h : mi_X0_sumUp M x1 x2 = some z) : ab_Con l D ac 3 me_X0_sumUp 0 0 [.ref 31, .int x1, .int x2] ab_SH M (none, ab_SH, z) := by
  refine ab_intro (lv := [some (.ref 31), some (.int x1), some (.int x2), none]) (by decide) rfl (Nat.le_of_ble_eq_true rfl) rfl ?_
  unfold mi_X0_sumUp at h
  refine ev_iconst (x := 0) dX0_sumUp_0 (by decide) ?_
  refine ev_istore_n dX0_sumUp_1 (Nat.le_of_ble_eq_true rfl) rfl rfl ?_
  obtain ⟨q9, hq10, h⟩ := ab_bind h
  refine lp_X0_sumUp_2 _ M x1 x2 0 _ hq10 ?_
  cases h
  exact ev_return rfl dX0_sumUp_45

noncomputable def mi_X0_seat_40 : Nat → ab_M → Int32 → Int32 → Int32 → Int32 → Option (Int32 × ab_M)
  | 0, _, _, _, _, _ => none
  | n + 1, M, x1, x3, x4, x5 =>
    if (2 <<< (x3 &&& 31)) ≤ x5 then
      some (x5, M)
    else
      (mi_X0_sumUp M x5 x3).bind fun q6 =>
      mi_X0_seat_40 n q6 x1 x3 x4 (x5 + 1)

set_option maxHeartbeats 4000000 in
set_option maxRecDepth 100000 in
theorem lp_X0_seat_40 {l : Launch} {D : va_G} {ac : Nat → ClassId} {n0 : Nat} {r : ab_Rs} : ∀ (n : Nat) (M : ab_M) (x1 : Int32) (x3 : Int32) (x4 : Int32) (x5 : Int32) (q : Int32 × ab_M) (h : mi_X0_seat_40 n M x1 x3 x4 x5 = some q) (kk : ab_Ev l D ac 4 me_X0_seat n0 0 0 r 0 0 ab_SH 61 [some (.ref 31), some (.int x1), none, some (.int x3), some (.int x4), some (.int q.1)] [] q.2), ab_Ev l D ac 4 me_X0_seat n0 0 0 r 0 0 ab_SH 40 [some (.ref 31), some (.int x1), none, some (.int x3), some (.int x4), some (.int x5)] [] M := by
  intro n
  induction n with
  | zero =>
    intro M x1 x3 x4 x5 q h kk
    cases h
  | succ n ih =>
    intro M x1 x3 x4 x5 q h kk
    unfold mi_X0_seat_40 at h
    refine ev_iload dX0_seat_40 rfl ?_
    refine ev_iconst (x := 2) dX0_seat_42 (by decide) ?_
    refine ev_iload_n dX0_seat_43 rfl ?_
    refine ev_ishl dX0_seat_44 ?_
    refine ev_icmp_ge (t := 61) dX0_seat_45 (by decide) (fun hc5 => ?_) (fun hc5 => ?_)
    · replace h := ab_pos hc5 h
      cases h
      exact kk
    · replace h := ab_neg hc5 h
      refine ev_aload_n dX0_seat_48 rfl ?_
      refine ev_iload dX0_seat_49 rfl ?_
      refine ev_iload_n dX0_seat_51 rfl ?_
      obtain ⟨q6, hv7, h⟩ := ab_bind h
      refine ev_callV (st := []) (co_X0_sumUp M x5 x3 _ hv7) mv_X0_sumUp sh_31 ml_RX0_66 dX0_seat_52 (by decide) rfl (Nat.le_of_ble_eq_true rfl) ⟨Nat.le_refl _, Nat.le_refl _⟩ ?_
      refine ev_iinc (y := x5 + 1) dX0_seat_55 rfl (by first | rfl | decide) rfl rfl ?_
      refine ev_goto (t := 40) dX0_seat_58 (by decide) ?_
      exact ih q6 x1 x3 x4 (x5 + 1) _ h kk

noncomputable def mi_X0_seat_5 : Nat → ab_M → Int32 → Int32 → Int32 → Option (Int32 × Int32 × ab_M)
  | 0, _, _, _, _ => none
  | n + 1, M, x1, x3, x4 =>
    ab_chk (vp_in x1 12) <|
    if (M.1 (12 + (x1).toNatClampNeg) 5) ≤ x4 then
      some (x3, x4, M)
    else
      if 6 ≤ x3 then
        some (x3, x4, M)
      else
        ab_chk (vp_in x3 6) <|
        (mi_X0_seat_40 ab_F (ab_pi M 33 (x3).toNatClampNeg x1) x1 x3 x4 (1 <<< (x3 &&& 31))).bind fun q8 =>
        mi_X0_seat_5 n q8.2 x1 (x3 + 1) (x4 + 1)

set_option maxHeartbeats 4000000 in
set_option maxRecDepth 100000 in
theorem lp_X0_seat_5 {l : Launch} {D : va_G} {ac : Nat → ClassId} {n0 : Nat} {r : ab_Rs} : ∀ (n : Nat) (M : ab_M) (x1 : Int32) (x3 : Int32) (x4 : Int32) (q : Int32 × Int32 × ab_M) (h : mi_X0_seat_5 n M x1 x3 x4 = some q) (kk : ab_Ev l D ac 4 me_X0_seat n0 0 0 r 0 0 ab_SH 70 [some (.ref 31), some (.int x1), none, some (.int q.1), some (.int q.2.1), none] [] q.2.2), ab_Ev l D ac 4 me_X0_seat n0 0 0 r 0 0 ab_SH 5 [some (.ref 31), some (.int x1), none, some (.int x3), some (.int x4), none] [] M := by
  intro n
  induction n with
  | zero =>
    intro M x1 x3 x4 q h kk
    cases h
  | succ n ih =>
    intro M x1 x3 x4 q h kk
    unfold mi_X0_seat_5 at h
    refine ev_iload dX0_seat_5 rfl ?_
    refine ev_aload_n dX0_seat_7 rfl ?_
    refine ev_getr (o' := 1) fl_RX0_18 sh_31 (by decide) (by decide) rfl rfl dX0_seat_8 ?_
    refine ev_getr (o' := 2) fl_RX0_36 sh_1 (by decide) (by decide) rfl rfl dX0_seat_11 ?_
    refine ev_iload_n dX0_seat_14 rfl ?_
    obtain ⟨hb1, h⟩ := ab_chk_some h
    refine ev_aaload sh_2 (Or.inl rfl) hb1 (rf_mast hb1) dX0_seat_15 ?_
    refine ev_geti fl_RX0_40 (sh_mast hb1) (by decide) (by decide) rfl dX0_seat_16 ?_
    refine ev_icmp_ge (t := 70) dX0_seat_19 (by decide) (fun hc2 => ?_) (fun hc2 => ?_)
    · replace h := ab_pos hc2 h
      cases h
      exact kk
    · replace h := ab_neg hc2 h
      refine ev_iload_n dX0_seat_22 rfl ?_
      refine ev_bipush (x := 6) dX0_seat_23 (by decide) ?_
      refine ev_icmp_ge (t := 70) dX0_seat_25 (by decide) (fun hc3 => ?_) (fun hc3 => ?_)
      · replace h := ab_pos hc3 h
        cases h
        exact kk
      · replace h := ab_neg hc3 h
        refine ev_aload_n dX0_seat_28 rfl ?_
        refine ev_getr (o' := 33) fl_RX0_15 sh_31 (by decide) (by decide) rfl rfl dX0_seat_29 ?_
        refine ev_iload_n dX0_seat_32 rfl ?_
        refine ev_iload_n dX0_seat_33 rfl ?_
        obtain ⟨hb4, h⟩ := ab_chk_some h
        refine ev_iastore sh_33 hb4 dX0_seat_34 ?_
        refine ev_iconst (x := 1) dX0_seat_35 (by decide) ?_
        refine ev_iload_n dX0_seat_36 rfl ?_
        refine ev_ishl dX0_seat_37 ?_
        refine ev_istore dX0_seat_38 (Nat.le_of_ble_eq_true rfl) rfl rfl ?_
        obtain ⟨q8, hq9, h⟩ := ab_bind h
        refine lp_X0_seat_40 _ (ab_pi M 33 (x3).toNatClampNeg x1) x1 x3 x4 (1 <<< (x3 &&& 31)) _ hq9 ?_
        refine ev_iinc (y := x3 + 1) dX0_seat_61 rfl (by first | rfl | decide) rfl rfl ?_
        refine ev_iinc (y := x4 + 1) dX0_seat_64 rfl (by first | rfl | decide) rfl rfl ?_
        refine ev_goto (t := 5) dX0_seat_67 (by decide) ?_
        refine ev_drop (lv' := [some (.ref 31), some (.int x1), none, some (.int (x3 + 1)), some (.int (x4 + 1)), none]) (ab_sub_k (ab_sub_k (ab_sub_k (ab_sub_k (ab_sub_k (ab_sub_d ab_sub_nil)))))) ?_
        exact ih q8.2 x1 (x3 + 1) (x4 + 1) _ h kk

noncomputable def mi_X0_seat (M : ab_M) (x1 : Int32) (x2 : Int32) : Option (Int32 × ab_M) :=
  (mi_X0_seat_5 ab_F M x1 x2 0).bind fun q10 =>
  some (q10.1, q10.2.2)

set_option maxHeartbeats 4000000 in
set_option maxRecDepth 100000 in
theorem co_X0_seat {l : Launch} {D : va_G} {ac : Nat → ClassId} (M : ab_M) (x1 : Int32) (x2 : Int32) (z : Int32 × ab_M) (h : mi_X0_seat M x1 x2 = some z) : ab_Con l D ac 4 me_X0_seat 0 0 [.ref 31, .int x1, .int x2] ab_SH M (some (.int z.1), ab_SH, z.2) := by
  refine ab_intro (lv := [some (.ref 31), some (.int x1), some (.int x2), none, none, none]) (by decide) rfl (Nat.le_of_ble_eq_true rfl) rfl ?_
  unfold mi_X0_seat at h
  refine ev_iload_n dX0_seat_0 rfl ?_
  refine ev_istore_n dX0_seat_1 (Nat.le_of_ble_eq_true rfl) rfl rfl ?_
  refine ev_iconst (x := 0) dX0_seat_2 (by decide) ?_
  refine ev_istore dX0_seat_3 (Nat.le_of_ble_eq_true rfl) rfl rfl ?_
  obtain ⟨q10, hq11, h⟩ := ab_bind h
  refine ev_drop (lv' := [some (.ref 31), some (.int x1), none, some (.int x2), some (.int 0), none]) (ab_sub_k (ab_sub_k (ab_sub_d (ab_sub_k (ab_sub_k (ab_sub_k ab_sub_nil)))))) ?_
  refine lp_X0_seat_5 _ M x1 x2 0 _ hq11 ?_
  refine ev_iload_n dX0_seat_70 rfl ?_
  cases h
  exact ev_ireturn rfl dX0_seat_71

noncomputable def mi_X0_boundOfSeated_12 : Nat → ab_M → Int32 → Int32 → Int32 → Int32 → Option (Int32 × Int32)
  | 0, _, _, _, _, _ => none
  | n + 1, M, x1, x2, x3, x4 =>
    if x1 ≤ x4 then
      some (x3, x4)
    else
      ab_chk (vp_in ((x2 * 6) + x4) 384) <|
      mi_X0_boundOfSeated_12 n M x1 x2 (ab_min x3 (M.1 32 ((x2 * 6) + x4).toNatClampNeg)) (x4 + 1)

set_option maxHeartbeats 4000000 in
set_option maxRecDepth 100000 in
theorem lp_X0_boundOfSeated_12 {l : Launch} {D : va_G} {ac : Nat → ClassId} {n0 : Nat} {r : ab_Rs} : ∀ (n : Nat) (M : ab_M) (x1 : Int32) (x2 : Int32) (x3 : Int32) (x4 : Int32) (q : Int32 × Int32) (h : mi_X0_boundOfSeated_12 n M x1 x2 x3 x4 = some q) (kk : ab_Ev l D ac 2 me_X0_boundOfSeated n0 0 0 r 0 0 ab_SH 41 [some (.ref 31), some (.int x1), some (.int x2), some (.int q.1), some (.int q.2)] [] M), ab_Ev l D ac 2 me_X0_boundOfSeated n0 0 0 r 0 0 ab_SH 12 [some (.ref 31), some (.int x1), some (.int x2), some (.int x3), some (.int x4)] [] M := by
  intro n
  induction n with
  | zero =>
    intro M x1 x2 x3 x4 q h kk
    cases h
  | succ n ih =>
    intro M x1 x2 x3 x4 q h kk
    unfold mi_X0_boundOfSeated_12 at h
    refine ev_iload dX0_boundOfSeated_12 rfl ?_
    refine ev_iload_n dX0_boundOfSeated_14 rfl ?_
    refine ev_icmp_ge (t := 41) dX0_boundOfSeated_15 (by decide) (fun hc1 => ?_) (fun hc1 => ?_)
    · replace h := ab_pos hc1 h
      cases h
      exact kk
    · replace h := ab_neg hc1 h
      refine ev_iload_n dX0_boundOfSeated_18 rfl ?_
      refine ev_aload_n dX0_boundOfSeated_19 rfl ?_
      refine ev_getr (o' := 32) fl_RX0_9 sh_31 (by decide) (by decide) rfl rfl dX0_boundOfSeated_20 ?_
      refine ev_iload_n dX0_boundOfSeated_23 rfl ?_
      refine ev_bipush (x := 6) dX0_boundOfSeated_24 (by decide) ?_
      refine ev_imul dX0_boundOfSeated_26 ?_
      refine ev_iload dX0_boundOfSeated_27 rfl ?_
      refine ev_iadd dX0_boundOfSeated_29 ?_
      obtain ⟨hb2, h⟩ := ab_chk_some h
      refine ev_iaload sh_32 hb2 dX0_boundOfSeated_30 ?_
      refine ev_min ml_RX0_74 dX0_boundOfSeated_31 (by decide) (Nat.le_of_ble_eq_true rfl) ⟨Nat.le_refl _, Nat.le_refl _⟩ ?_
      refine ev_istore_n dX0_boundOfSeated_34 (Nat.le_of_ble_eq_true rfl) rfl rfl ?_
      refine ev_iinc (y := x4 + 1) dX0_boundOfSeated_35 rfl (by first | rfl | decide) rfl rfl ?_
      refine ev_goto (t := 12) dX0_boundOfSeated_38 (by decide) ?_
      exact ih M x1 x2 (ab_min x3 (M.1 32 ((x2 * 6) + x4).toNatClampNeg)) (x4 + 1) _ h kk

noncomputable def mi_X0_boundOfSeated (M : ab_M) (x1 : Int32) : Option (Int32) :=
  (mi_X0_boundOfSeated_12 ab_F M x1 ((1 <<< (x1 &&& 31)) - 1) 1000000 0).bind fun q3 =>
  some q3.1

set_option maxHeartbeats 4000000 in
set_option maxRecDepth 100000 in
theorem co_X0_boundOfSeated {l : Launch} {D : va_G} {ac : Nat → ClassId} (M : ab_M) (x1 : Int32) (z : Int32) (h : mi_X0_boundOfSeated M x1 = some z) : ab_Con l D ac 2 me_X0_boundOfSeated 0 0 [.ref 31, .int x1] ab_SH M (some (.int z), ab_SH, M) := by
  refine ab_intro (lv := [some (.ref 31), some (.int x1), none, none, none]) (by decide) rfl (Nat.le_of_ble_eq_true rfl) rfl ?_
  unfold mi_X0_boundOfSeated at h
  refine ev_iconst (x := 1) dX0_boundOfSeated_0 (by decide) ?_
  refine ev_iload_n dX0_boundOfSeated_1 rfl ?_
  refine ev_ishl dX0_boundOfSeated_2 ?_
  refine ev_iconst (x := 1) dX0_boundOfSeated_3 (by decide) ?_
  refine ev_isub dX0_boundOfSeated_4 ?_
  refine ev_istore_n dX0_boundOfSeated_5 (Nat.le_of_ble_eq_true rfl) rfl rfl ?_
  refine ev_ldc kw_RX0_73 dX0_boundOfSeated_6 ?_
  refine ev_istore_n dX0_boundOfSeated_8 (Nat.le_of_ble_eq_true rfl) rfl rfl ?_
  refine ev_iconst (x := 0) dX0_boundOfSeated_9 (by decide) ?_
  refine ev_istore dX0_boundOfSeated_10 (Nat.le_of_ble_eq_true rfl) rfl rfl ?_
  obtain ⟨q3, hq4, h⟩ := ab_bind h
  refine lp_X0_boundOfSeated_12 _ M x1 ((1 <<< (x1 &&& 31)) - 1) 1000000 0 _ hq4 ?_
  refine ev_iload_n dX0_boundOfSeated_41 rfl ?_
  cases h
  exact ev_ireturn rfl dX0_boundOfSeated_42

noncomputable def mi_X0_boundOf_4 : Nat → ab_M → Int32 → Int32 → Int32 → Option (Int32 × Int32 × ab_M)
  | 0, _, _, _, _ => none
  | n + 1, M, x1, x2, x3 =>
    if (M.1 1 7) ≤ x3 then
      some (x2, x3, M)
    else
      ((if ((ab_ushr x1 x3) &&& 1) = 0 then
        some (x2, M)
      else
        (mi_X0_seat M x3 x2).bind fun q6 =>
        some (q6.1, q6.2)) : Option (Int32 × ab_M)).bind fun q2 =>
      mi_X0_boundOf_4 n q2.2 x1 q2.1 (x3 + 1)

set_option maxHeartbeats 4000000 in
set_option maxRecDepth 100000 in
theorem lp_X0_boundOf_4 {l : Launch} {D : va_G} {ac : Nat → ClassId} {n0 : Nat} {r : ab_Rs} : ∀ (n : Nat) (M : ab_M) (x1 : Int32) (x2 : Int32) (x3 : Int32) (q : Int32 × Int32 × ab_M) (h : mi_X0_boundOf_4 n M x1 x2 x3 = some q) (kk : ab_Ev l D ac 5 me_X0_boundOf n0 0 0 r 0 0 ab_SH 36 [some (.ref 31), some (.int x1), some (.int q.1), some (.int q.2.1)] [] q.2.2), ab_Ev l D ac 5 me_X0_boundOf n0 0 0 r 0 0 ab_SH 4 [some (.ref 31), some (.int x1), some (.int x2), some (.int x3)] [] M := by
  intro n
  induction n with
  | zero =>
    intro M x1 x2 x3 q h kk
    cases h
  | succ n ih =>
    intro M x1 x2 x3 q h kk
    unfold mi_X0_boundOf_4 at h
    refine ev_iload_n dX0_boundOf_4 rfl ?_
    refine ev_aload_n dX0_boundOf_5 rfl ?_
    refine ev_getr (o' := 1) fl_RX0_18 sh_31 (by decide) (by decide) rfl rfl dX0_boundOf_6 ?_
    refine ev_geti fl_RX0_22 sh_1 (by decide) (by decide) rfl dX0_boundOf_9 ?_
    refine ev_icmp_ge (t := 36) dX0_boundOf_12 (by decide) (fun hc1 => ?_) (fun hc1 => ?_)
    · replace h := ab_pos hc1 h
      cases h
      exact kk
    · replace h := ab_neg hc1 h
      refine ev_iload_n dX0_boundOf_15 rfl ?_
      refine ev_iload_n dX0_boundOf_16 rfl ?_
      refine ev_iushr dX0_boundOf_17 ?_
      refine ev_iconst (x := 1) dX0_boundOf_18 (by decide) ?_
      refine ev_iand dX0_boundOf_19 ?_
      obtain ⟨q2, hq3, h⟩ := ab_bind h
      have hJ4 : ab_Ev l D ac 5 me_X0_boundOf n0 0 0 r 0 0 ab_SH 30 [some (.ref 31), some (.int x1), some (.int q2.1), some (.int x3)] [] q2.2 := by
        refine ev_iinc (y := x3 + 1) dX0_boundOf_30 rfl (by first | rfl | decide) rfl rfl ?_
        refine ev_goto (t := 4) dX0_boundOf_33 (by decide) ?_
        exact ih q2.2 x1 q2.1 (x3 + 1) _ h kk
      refine ev_if_eq (t := 30) dX0_boundOf_20 (by decide) (fun hc5 => ?_) (fun hc5 => ?_)
      · replace hq3 := ab_pos hc5 hq3
        cases hq3
        exact hJ4
      · replace hq3 := ab_neg hc5 hq3
        refine ev_aload_n dX0_boundOf_23 rfl ?_
        refine ev_iload_n dX0_boundOf_24 rfl ?_
        refine ev_iload_n dX0_boundOf_25 rfl ?_
        obtain ⟨q6, hv7, hq3⟩ := ab_bind hq3
        refine ev_callV (st := []) (co_X0_seat M x3 x2 _ hv7) mv_X0_seat sh_31 ml_RX0_45 dX0_boundOf_26 (by decide) rfl (Nat.le_of_ble_eq_true rfl) ⟨Nat.le_refl _, Nat.le_refl _⟩ ?_
        refine ev_istore_n dX0_boundOf_29 (Nat.le_of_ble_eq_true rfl) rfl rfl ?_
        cases hq3
        exact hJ4

noncomputable def mi_X0_boundOf (M : ab_M) (x1 : Int32) : Option (Int32 × ab_M) :=
  (mi_X0_boundOf_4 ab_F M x1 0 0).bind fun q8 =>
  (mi_X0_boundOfSeated q8.2.2 q8.1).bind fun q10 =>
  some (q10, q8.2.2)

set_option maxHeartbeats 4000000 in
set_option maxRecDepth 100000 in
theorem co_X0_boundOf {l : Launch} {D : va_G} {ac : Nat → ClassId} (M : ab_M) (x1 : Int32) (z : Int32 × ab_M) (h : mi_X0_boundOf M x1 = some z) : ab_Con l D ac 5 me_X0_boundOf 0 0 [.ref 31, .int x1] ab_SH M (some (.int z.1), ab_SH, z.2) := by
  refine ab_intro (lv := [some (.ref 31), some (.int x1), none, none]) (by decide) rfl (Nat.le_of_ble_eq_true rfl) rfl ?_
  unfold mi_X0_boundOf at h
  refine ev_iconst (x := 0) dX0_boundOf_0 (by decide) ?_
  refine ev_istore_n dX0_boundOf_1 (Nat.le_of_ble_eq_true rfl) rfl rfl ?_
  refine ev_iconst (x := 0) dX0_boundOf_2 (by decide) ?_
  refine ev_istore_n dX0_boundOf_3 (Nat.le_of_ble_eq_true rfl) rfl rfl ?_
  obtain ⟨q8, hq9, h⟩ := ab_bind h
  refine lp_X0_boundOf_4 _ M x1 0 0 _ hq9 ?_
  refine ev_aload_n dX0_boundOf_36 rfl ?_
  refine ev_iload_n dX0_boundOf_37 rfl ?_
  obtain ⟨q10, hv11, h⟩ := ab_bind h
  refine ev_callV (st := []) (co_X0_boundOfSeated q8.2.2 q8.1 _ hv11) mv_X0_boundOfSeated sh_31 ml_RX0_48 dX0_boundOf_38 (by decide) rfl (Nat.le_of_ble_eq_true rfl) ⟨Nat.le_refl _, Nat.le_refl _⟩ ?_
  cases h
  exact ev_ireturn rfl dX0_boundOf_41

noncomputable def mi_X0_consider (M : ab_M) (x1 : Int32) (x2 : Int32) : Option (ab_M) :=
  if (M.1 31 4) < x2 then
    some (ab_pi (ab_pi M 31 4 x2) 31 3 x1)
  else
    if x2 = (M.1 31 4) then
      if (M.1 31 3) ≤ x1 then
        some M
      else
        some (ab_pi (ab_pi M 31 4 x2) 31 3 x1)
    else
      some M

set_option maxHeartbeats 4000000 in
set_option maxRecDepth 100000 in
theorem co_X0_consider {l : Launch} {D : va_G} {ac : Nat → ClassId} (M : ab_M) (x1 : Int32) (x2 : Int32) (z : ab_M) (h : mi_X0_consider M x1 x2 = some z) : ab_Con l D ac 1 me_X0_consider 0 0 [.ref 31, .int x1, .int x2] ab_SH M (none, ab_SH, z) := by
  refine ab_intro (lv := [some (.ref 31), some (.int x1), some (.int x2)]) (by decide) rfl (Nat.le_of_ble_eq_true rfl) rfl ?_
  unfold mi_X0_consider at h
  refine ev_iload_n dX0_consider_0 rfl ?_
  refine ev_aload_n dX0_consider_1 rfl ?_
  refine ev_geti fl_RX0_55 sh_31 (by decide) (by decide) rfl dX0_consider_2 ?_
  refine ev_icmp_gt (t := 24) dX0_consider_5 (by decide) (fun hc1 => ?_) (fun hc1 => ?_)
  · replace h := ab_pos hc1 h
    refine ev_aload_n dX0_consider_24 rfl ?_
    refine ev_iload_n dX0_consider_25 rfl ?_
    refine ev_puti fl_RX0_55 sh_31 (by decide) (by decide) rfl rfl rfl dX0_consider_26 ?_
    refine ev_aload_n dX0_consider_29 rfl ?_
    refine ev_iload_n dX0_consider_30 rfl ?_
    refine ev_puti fl_RX0_52 sh_31 (by decide) (by decide) rfl rfl rfl dX0_consider_31 ?_
    cases h
    exact ev_return rfl dX0_consider_34
  · replace h := ab_neg hc1 h
    refine ev_iload_n dX0_consider_8 rfl ?_
    refine ev_aload_n dX0_consider_9 rfl ?_
    refine ev_geti fl_RX0_55 sh_31 (by decide) (by decide) rfl dX0_consider_10 ?_
    refine ev_icmp_ne (t := 34) dX0_consider_13 (by decide) (fun hc2 => ?_) (fun hc2 => ?_)
    · replace h := ab_neg hc2 h
      cases h
      exact ev_return rfl dX0_consider_34
    · replace h := ab_pos hc2 h
      refine ev_iload_n dX0_consider_16 rfl ?_
      refine ev_aload_n dX0_consider_17 rfl ?_
      refine ev_geti fl_RX0_52 sh_31 (by decide) (by decide) rfl dX0_consider_18 ?_
      refine ev_icmp_ge (t := 34) dX0_consider_21 (by decide) (fun hc3 => ?_) (fun hc3 => ?_)
      · replace h := ab_pos hc3 h
        cases h
        exact ev_return rfl dX0_consider_34
      · replace h := ab_neg hc3 h
        refine ev_aload_n dX0_consider_24 rfl ?_
        refine ev_iload_n dX0_consider_25 rfl ?_
        refine ev_puti fl_RX0_55 sh_31 (by decide) (by decide) rfl rfl rfl dX0_consider_26 ?_
        refine ev_aload_n dX0_consider_29 rfl ?_
        refine ev_iload_n dX0_consider_30 rfl ?_
        refine ev_puti fl_RX0_52 sh_31 (by decide) (by decide) rfl rfl rfl dX0_consider_31 ?_
        cases h
        exact ev_return rfl dX0_consider_34

noncomputable def mi_X0_grow_3 (g : ab_M → Int32 → Int32 → Int32 → Option (ab_M)) : Nat → ab_M → Int32 → Int32 → Int32 → Option (Int32 × ab_M)
  | 0, _, _, _, _ => none
  | n + 1, M, x1, x3, x4 =>
    if (M.1 1 7) ≤ x4 then
      some (x4, M)
    else
      ab_chk (vp_in x4 12) <|
      ((if 6 < (x3 + (M.1 (12 + (x4).toNatClampNeg) 5)) then
        some M
      else
        (mi_X0_barsAll M x4 x1).bind fun q7 =>
        if q7 = 0 then
          some M
        else
          (mi_X0_seat M x4 x3).bind fun q10 =>
          (mi_X0_boundOfSeated q10.2 q10.1).bind fun q12 =>
          (mi_X0_consider q10.2 (x1 ||| (1 <<< (x4 &&& 31))) q12).bind fun q14 =>
          (g q14 (x1 ||| (1 <<< (x4 &&& 31))) (x4 + 1) q10.1).bind fun q16 =>
          some q16) : Option (ab_M)).bind fun q3 =>
      mi_X0_grow_3 g n q3 x1 x3 (x4 + 1)

set_option maxHeartbeats 4000000 in
set_option maxRecDepth 100000 in
theorem lp_X0_grow_3 {l : Launch} {D : va_G} {ac : Nat → ClassId} {n0 : Nat} {r : ab_Rs} {dn : Nat} (g : ab_M → Int32 → Int32 → Int32 → Option (ab_M)) (hg : ∀ (M : ab_M) (x1 : Int32) (x2 : Int32) (x3 : Int32) (z : ab_M), g M x1 x2 x3 = some z → ab_Con l D ac dn me_X0_grow 0 0 [.ref 31, .int x1, .int x2, .int x3] ab_SH M (none, ab_SH, z)) (hdn : 4 ≤ dn) : ∀ (n : Nat) (M : ab_M) (x1 : Int32) (x3 : Int32) (x4 : Int32) (q : Int32 × ab_M) (h : mi_X0_grow_3 g n M x1 x3 x4 = some q) (kk : ab_Ev l D ac (dn + 1) me_X0_grow n0 0 0 r 0 0 ab_SH 95 [some (.ref 31), some (.int x1), none, some (.int x3), some (.int q.1), none, none] [] q.2), ab_Ev l D ac (dn + 1) me_X0_grow n0 0 0 r 0 0 ab_SH 3 [some (.ref 31), some (.int x1), none, some (.int x3), some (.int x4), none, none] [] M := by
  intro n
  induction n with
  | zero =>
    intro M x1 x3 x4 q h kk
    cases h
  | succ n ih =>
    intro M x1 x3 x4 q h kk
    unfold mi_X0_grow_3 at h
    refine ev_iload dX0_grow_3 rfl ?_
    refine ev_aload_n dX0_grow_5 rfl ?_
    refine ev_getr (o' := 1) fl_RX0_18 sh_31 (by decide) (by decide) rfl rfl dX0_grow_6 ?_
    refine ev_geti fl_RX0_22 sh_1 (by decide) (by decide) rfl dX0_grow_9 ?_
    refine ev_icmp_ge (t := 95) dX0_grow_12 (by decide) (fun hc1 => ?_) (fun hc1 => ?_)
    · replace h := ab_pos hc1 h
      cases h
      exact kk
    · replace h := ab_neg hc1 h
      refine ev_iload_n dX0_grow_15 rfl ?_
      refine ev_aload_n dX0_grow_16 rfl ?_
      refine ev_getr (o' := 1) fl_RX0_18 sh_31 (by decide) (by decide) rfl rfl dX0_grow_17 ?_
      refine ev_getr (o' := 2) fl_RX0_36 sh_1 (by decide) (by decide) rfl rfl dX0_grow_20 ?_
      refine ev_iload dX0_grow_23 rfl ?_
      obtain ⟨hb2, h⟩ := ab_chk_some h
      refine ev_aaload sh_2 (Or.inl rfl) hb2 (rf_mast hb2) dX0_grow_25 ?_
      refine ev_geti fl_RX0_40 (sh_mast hb2) (by decide) (by decide) rfl dX0_grow_26 ?_
      refine ev_iadd dX0_grow_29 ?_
      refine ev_bipush (x := 6) dX0_grow_30 (by decide) ?_
      obtain ⟨q3, hq4, h⟩ := ab_bind h
      have hJ5 : ab_Ev l D ac (dn + 1) me_X0_grow n0 0 0 r 0 0 ab_SH 89 [some (.ref 31), some (.int x1), none, some (.int x3), some (.int x4), none, none] [] q3 := by
        refine ev_iinc (y := x4 + 1) dX0_grow_89 rfl (by first | rfl | decide) rfl rfl ?_
        refine ev_goto (t := 3) dX0_grow_92 (by decide) ?_
        exact ih q3 x1 x3 (x4 + 1) _ h kk
      refine ev_icmp_gt (t := 89) dX0_grow_32 (by decide) (fun hc6 => ?_) (fun hc6 => ?_)
      · replace hq4 := ab_pos hc6 hq4
        cases hq4
        exact hJ5
      · replace hq4 := ab_neg hc6 hq4
        refine ev_aload_n dX0_grow_35 rfl ?_
        refine ev_iload dX0_grow_36 rfl ?_
        refine ev_iload_n dX0_grow_38 rfl ?_
        obtain ⟨q7, hv8, hq4⟩ := ab_bind hq4
        refine ev_callV (st := []) (co_X0_barsAll M x4 x1 _ hv8) mv_X0_barsAll sh_31 ml_RX0_28 dX0_grow_39 (by omega) rfl (Nat.le_of_ble_eq_true rfl) ⟨Nat.le_refl _, Nat.le_refl _⟩ ?_
        refine ev_if_ne (t := 48) dX0_grow_42 (by decide) (fun hc9 => ?_) (fun hc9 => ?_)
        · replace hq4 := ab_neg hc9 hq4
          refine ev_iload_n dX0_grow_48 rfl ?_
          refine ev_iconst (x := 1) dX0_grow_49 (by decide) ?_
          refine ev_iload dX0_grow_50 rfl ?_
          refine ev_ishl dX0_grow_52 ?_
          refine ev_ior dX0_grow_53 ?_
          refine ev_istore dX0_grow_54 (Nat.le_of_ble_eq_true rfl) rfl rfl ?_
          refine ev_aload_n dX0_grow_56 rfl ?_
          refine ev_iload dX0_grow_57 rfl ?_
          refine ev_iload_n dX0_grow_59 rfl ?_
          obtain ⟨q10, hv11, hq4⟩ := ab_bind hq4
          refine ev_callV (st := []) (co_X0_seat M x4 x3 _ hv11) mv_X0_seat sh_31 ml_RX0_45 dX0_grow_60 (by omega) rfl (Nat.le_of_ble_eq_true rfl) ⟨Nat.le_refl _, Nat.le_refl _⟩ ?_
          refine ev_istore dX0_grow_63 (Nat.le_of_ble_eq_true rfl) rfl rfl ?_
          refine ev_aload_n dX0_grow_65 rfl ?_
          refine ev_iload dX0_grow_66 rfl ?_
          refine ev_aload_n dX0_grow_68 rfl ?_
          refine ev_iload dX0_grow_69 rfl ?_
          obtain ⟨q12, hv13, hq4⟩ := ab_bind hq4
          refine ev_callV (st := [.int (x1 ||| (1 <<< (x4 &&& 31))), .ref 31]) (co_X0_boundOfSeated q10.2 q10.1 _ hv13) mv_X0_boundOfSeated sh_31 ml_RX0_48 dX0_grow_71 (by omega) rfl (Nat.le_of_ble_eq_true rfl) ⟨Nat.le_refl _, Nat.le_refl _⟩ ?_
          obtain ⟨q14, hv15, hq4⟩ := ab_bind hq4
          refine ev_callV (st := []) (co_X0_consider q10.2 (x1 ||| (1 <<< (x4 &&& 31))) q12 _ hv15) mv_X0_consider sh_31 ml_RX0_62 dX0_grow_74 (by omega) rfl (Nat.le_of_ble_eq_true rfl) ⟨Nat.le_refl _, Nat.le_refl _⟩ ?_
          refine ev_aload_n dX0_grow_77 rfl ?_
          refine ev_iload dX0_grow_78 rfl ?_
          refine ev_iload dX0_grow_80 rfl ?_
          refine ev_iconst (x := 1) dX0_grow_82 (by decide) ?_
          refine ev_iadd dX0_grow_83 ?_
          refine ev_iload dX0_grow_84 rfl ?_
          obtain ⟨q16, hv17, hq4⟩ := ab_bind hq4
          refine ev_callV (st := []) (hg q14 (x1 ||| (1 <<< (x4 &&& 31))) (x4 + 1) q10.1 _ hv17) mv_X0_grow sh_31 ml_RX0_58 dX0_grow_86 (by omega) rfl (Nat.le_of_ble_eq_true rfl) ⟨Nat.le_refl _, Nat.le_refl _⟩ ?_
          cases hq4
          refine ev_drop (lv' := [some (.ref 31), some (.int x1), none, some (.int x3), some (.int x4), none, none]) (ab_sub_k (ab_sub_k (ab_sub_k (ab_sub_k (ab_sub_k (ab_sub_d (ab_sub_d ab_sub_nil))))))) ?_
          exact hJ5
        · replace hq4 := ab_pos hc9 hq4
          refine ev_goto (t := 89) dX0_grow_45 (by decide) ?_
          cases hq4
          exact hJ5

noncomputable def mi_X0_grow : Nat → ab_M → Int32 → Int32 → Int32 → Option (ab_M)
  | 0, _, _, _, _ => none
  | n + 1, M, x1, x2, x3 =>
    (fun g : ab_M → Int32 → Int32 → Int32 → Option (ab_M) =>
    (mi_X0_grow_3 g ab_F M x1 x3 x2).bind fun q18 =>
    some q18.2) (mi_X0_grow n)

set_option maxHeartbeats 4000000 in
set_option maxRecDepth 100000 in
theorem co_X0_grow {l : Launch} {D : va_G} {ac : Nat → ClassId} : ∀ (n : Nat) (M : ab_M) (x1 : Int32) (x2 : Int32) (x3 : Int32) (z : ab_M) (h : mi_X0_grow n M x1 x2 x3 = some z), ab_Con l D ac (n + 4) me_X0_grow 0 0 [.ref 31, .int x1, .int x2, .int x3] ab_SH M (none, ab_SH, z) := by
  intro n
  induction n with
  | zero =>
    intro M x1 x2 x3 z h
    cases h
  | succ n ih =>
    intro M x1 x2 x3 z h
    have h : (fun g : ab_M → Int32 → Int32 → Int32 → Option (ab_M) =>
        (mi_X0_grow_3 g ab_F M x1 x3 x2).bind fun q18 =>
        some q18.2) (mi_X0_grow n) = some z := h
    generalize mi_X0_grow n = g at ih h
    have hg := ih
    have hdn : 4 ≤ n + 4 := by omega
    rw [show n + 1 + 4 = n + 4 + 1 by omega]
    generalize n + 4 = dn at hg hdn ⊢
    refine ab_intro (lv := [some (.ref 31), some (.int x1), some (.int x2), some (.int x3), none, none, none]) (by decide) rfl (Nat.le_of_ble_eq_true rfl) rfl ?_
    dsimp only at h
    refine ev_iload_n dX0_grow_0 rfl ?_
    refine ev_istore dX0_grow_1 (Nat.le_of_ble_eq_true rfl) rfl rfl ?_
    obtain ⟨q18, hq19, h⟩ := ab_bind h
    refine ev_drop (lv' := [some (.ref 31), some (.int x1), none, some (.int x3), some (.int x2), none, none]) (ab_sub_k (ab_sub_k (ab_sub_d (ab_sub_k (ab_sub_k (ab_sub_k (ab_sub_k ab_sub_nil))))))) ?_
    refine lp_X0_grow_3 g hg hdn _ M x1 x3 x2 _ hq19 ?_
    cases h
    exact ev_return rfl dX0_grow_95

noncomputable def mi_X0_greatest (M : ab_M) : Option (Int32 × ab_M) :=
  (mi_X0_grow 7 (ab_pi (ab_pi M 31 3 0) 31 4 (-1)) 0 0 0).bind fun q1 =>
  some (q1.1 31 3, q1)

set_option maxHeartbeats 4000000 in
set_option maxRecDepth 100000 in
theorem co_X0_greatest {l : Launch} {D : va_G} {ac : Nat → ClassId} (M : ab_M) (z : Int32 × ab_M) (h : mi_X0_greatest M = some z) : ab_Con l D ac 12 me_X0_greatest 0 0 [.ref 31] ab_SH M (some (.int z.1), ab_SH, z.2) := by
  refine ab_intro (lv := [some (.ref 31)]) (by decide) rfl (Nat.le_of_ble_eq_true rfl) rfl ?_
  unfold mi_X0_greatest at h
  refine ev_aload_n dX0_greatest_0 rfl ?_
  refine ev_iconst (x := 0) dX0_greatest_1 (by decide) ?_
  refine ev_puti fl_RX0_52 sh_31 (by decide) (by decide) rfl rfl rfl dX0_greatest_2 ?_
  refine ev_aload_n dX0_greatest_5 rfl ?_
  refine ev_iconst (x := (-1)) dX0_greatest_6 (by decide) ?_
  refine ev_puti fl_RX0_55 sh_31 (by decide) (by decide) rfl rfl rfl dX0_greatest_7 ?_
  refine ev_aload_n dX0_greatest_10 rfl ?_
  refine ev_iconst (x := 0) dX0_greatest_11 (by decide) ?_
  refine ev_iconst (x := 0) dX0_greatest_12 (by decide) ?_
  refine ev_iconst (x := 0) dX0_greatest_13 (by decide) ?_
  obtain ⟨q1, hv2, h⟩ := ab_bind h
  refine ev_callV (st := []) (co_X0_grow 7 (ab_pi (ab_pi M 31 3 0) 31 4 (-1)) 0 0 0 _ hv2) mv_X0_grow sh_31 ml_RX0_58 dX0_greatest_14 (by decide) rfl (Nat.le_of_ble_eq_true rfl) ⟨Nat.le_refl _, Nat.le_refl _⟩ ?_
  refine ev_aload_n dX0_greatest_17 rfl ?_
  refine ev_geti fl_RX0_52 sh_31 (by decide) (by decide) rfl dX0_greatest_18 ?_
  cases h
  exact ev_ireturn rfl dX0_greatest_21
end
section
noncomputable def mi_X6_clear (M : ab_M) (t0 : Nat) : Option (ab_M) :=
  some (ab_pi (ab_pi M t0 3 0) t0 4 0)

set_option maxHeartbeats 4000000 in
set_option maxRecDepth 100000 in
theorem co_X6_clear {l : Launch} {D : va_G} {ac : Nat → ClassId} (M : ab_M) (t0 : Nat) (ht0 : ab_isShelf t0) (z : ab_M) (h : mi_X6_clear M t0 = some z) : ab_Con l D ac 1 me_X6_clear 0 0 [.ref t0] ab_SH M (none, ab_SH, z) := by
  refine ab_intro (lv := [some (.ref t0)]) (by decide) rfl (Nat.le_of_ble_eq_true rfl) rfl ?_
  unfold mi_X6_clear at h
  refine ev_aload_n dX6_clear_0 rfl ?_
  refine ev_iconst (x := 0) dX6_clear_1 (by decide) ?_
  refine ev_puti fl_RX6_26 (ht0).1 (by decide) (by decide) rfl rfl rfl dX6_clear_2 ?_
  refine ev_aload_n dX6_clear_5 rfl ?_
  refine ev_iconst (x := 0) dX6_clear_6 (by decide) ?_
  refine ev_puti fl_RX6_30 (ht0).1 (by decide) (by decide) rfl rfl rfl dX6_clear_7 ?_
  cases h
  exact ev_return rfl dX6_clear_10

noncomputable def mi_X6_takeMast (M : ab_M) (t0 : Nat) (t1 : Nat) : Option (ab_M) :=
  (mi_X4_takeAll (ab_pi (ab_pi M t0 3 1) t0 4 0) (t0 + 1) t1).bind fun q1 =>
  some q1

set_option maxHeartbeats 4000000 in
set_option maxRecDepth 100000 in
theorem co_X6_takeMast {l : Launch} {D : va_G} {ac : Nat → ClassId} (M : ab_M) (t0 : Nat) (ht0 : ab_isShelf t0) (t1 : Nat) (ht1 : ab_isMast t1) (z : ab_M) (h : mi_X6_takeMast M t0 t1 = some z) : ab_Con l D ac 2 me_X6_takeMast 0 0 [.ref t0, .ref t1] ab_SH M (none, ab_SH, z) := by
  refine ab_intro (lv := [some (.ref t0), some (.ref t1)]) (by decide) rfl (Nat.le_of_ble_eq_true rfl) rfl ?_
  unfold mi_X6_takeMast at h
  refine ev_aload_n dX6_takeMast_0 rfl ?_
  refine ev_iconst (x := 1) dX6_takeMast_1 (by decide) ?_
  refine ev_puti fl_RX6_26 (ht0).1 (by decide) (by decide) rfl rfl rfl dX6_takeMast_2 ?_
  refine ev_aload_n dX6_takeMast_5 rfl ?_
  refine ev_iconst (x := 0) dX6_takeMast_6 (by decide) ?_
  refine ev_puti fl_RX6_30 (ht0).1 (by decide) (by decide) rfl rfl rfl dX6_takeMast_7 ?_
  refine ev_aload_n dX6_takeMast_10 rfl ?_
  refine ev_getr (o' := (t0 + 1)) fl_RX6_12 (ht0).1 (by decide) (by decide) rfl rfl dX6_takeMast_11 ?_
  refine ev_aload_n dX6_takeMast_14 rfl ?_
  obtain ⟨q1, hv2, h⟩ := ab_bind h
  refine ev_callV (st := []) (co_X4_takeAll (ab_pi (ab_pi M t0 3 1) t0 4 0) (t0 + 1) ((ht0).2.1) t1 ht1 _ hv2) mv_X4_takeAll (ht0).2.1 ml_RX6_33 dX6_takeMast_15 (by decide) rfl (Nat.le_of_ble_eq_true rfl) ⟨Nat.le_refl _, Nat.le_refl _⟩ ?_
  cases h
  exact ev_return rfl dX6_takeMast_18

noncomputable def mi_X6_takeChannels_12 : Nat → ab_M → Nat → Nat → Int32 → Int32 → Option (Int32 × ab_M)
  | 0, _, _, _, _, _ => none
  | n + 1, M, t0, t1, x2, x3 =>
    if x2 ≤ x3 then
      some (x3, M)
    else
      ab_chk (vp_in x3 16) <|
      ab_chk (vp_in x3 60) <|
      mi_X6_takeChannels_12 n (ab_pi M (t0 + 2) (x3).toNatClampNeg (ab_i2b (ab_i2b (M.1 t1 (x3).toNatClampNeg)))) t0 t1 x2 (x3 + 1)

set_option maxHeartbeats 4000000 in
set_option maxRecDepth 100000 in
theorem lp_X6_takeChannels_12 {l : Launch} {D : va_G} {ac : Nat → ClassId} {n0 : Nat} {r : ab_Rs} : ∀ (n : Nat) (M : ab_M) (t0 : Nat) (ht0 : ab_isShelf t0) (t1 : Nat) (ht1 : ab_isPlan t1) (x2 : Int32) (x3 : Int32) (q : Int32 × ab_M) (h : mi_X6_takeChannels_12 n M t0 t1 x2 x3 = some q) (kk : ab_Ev l D ac 1 me_X6_takeChannels n0 0 0 r 0 0 ab_SH 33 [some (.ref t0), some (.ref t1), some (.int x2), some (.int q.1)] [] q.2), ab_Ev l D ac 1 me_X6_takeChannels n0 0 0 r 0 0 ab_SH 12 [some (.ref t0), some (.ref t1), some (.int x2), some (.int x3)] [] M := by
  intro n
  induction n with
  | zero =>
    intro M t0 ht0 t1 ht1 x2 x3 q h kk
    cases h
  | succ n ih =>
    intro M t0 ht0 t1 ht1 x2 x3 q h kk
    unfold mi_X6_takeChannels_12 at h
    refine ev_iload_n dX6_takeChannels_12 rfl ?_
    refine ev_iload_n dX6_takeChannels_13 rfl ?_
    refine ev_icmp_ge (t := 33) dX6_takeChannels_14 (by decide) (fun hc1 => ?_) (fun hc1 => ?_)
    · replace h := ab_pos hc1 h
      cases h
      exact kk
    · replace h := ab_neg hc1 h
      refine ev_aload_n dX6_takeChannels_17 rfl ?_
      refine ev_getr (o' := (t0 + 2)) fl_RX6_18 (ht0).1 (by decide) (by decide) rfl rfl dX6_takeChannels_18 ?_
      refine ev_iload_n dX6_takeChannels_21 rfl ?_
      refine ev_aload_n dX6_takeChannels_22 rfl ?_
      refine ev_iload_n dX6_takeChannels_23 rfl ?_
      obtain ⟨hb2, h⟩ := ab_chk_some h
      refine ev_iaload ht1 hb2 dX6_takeChannels_24 ?_
      refine ev_i2b dX6_takeChannels_25 ?_
      obtain ⟨hb3, h⟩ := ab_chk_some h
      refine ev_bastore (ht0).2.2.1 hb3 dX6_takeChannels_26 ?_
      refine ev_iinc (y := x3 + 1) dX6_takeChannels_27 rfl (by first | rfl | decide) rfl rfl ?_
      refine ev_goto (t := 12) dX6_takeChannels_30 (by decide) ?_
      exact ih (ab_pi M (t0 + 2) (x3).toNatClampNeg (ab_i2b (ab_i2b (M.1 t1 (x3).toNatClampNeg)))) t0 ht0 t1 ht1 x2 (x3 + 1) _ h kk

noncomputable def mi_X6_takeChannels (M : ab_M) (t0 : Nat) (t1 : Nat) (x2 : Int32) : Option (ab_M) :=
  (mi_X6_takeChannels_12 ab_F (ab_pi (ab_pi M t0 3 3) t0 4 x2) t0 t1 x2 0).bind fun q4 =>
  some q4.2

set_option maxHeartbeats 4000000 in
set_option maxRecDepth 100000 in
theorem co_X6_takeChannels {l : Launch} {D : va_G} {ac : Nat → ClassId} (M : ab_M) (t0 : Nat) (ht0 : ab_isShelf t0) (t1 : Nat) (ht1 : ab_isPlan t1) (x2 : Int32) (z : ab_M) (h : mi_X6_takeChannels M t0 t1 x2 = some z) : ab_Con l D ac 1 me_X6_takeChannels 0 0 [.ref t0, .ref t1, .int x2] ab_SH M (none, ab_SH, z) := by
  refine ab_intro (lv := [some (.ref t0), some (.ref t1), some (.int x2), none]) (by decide) rfl (Nat.le_of_ble_eq_true rfl) rfl ?_
  unfold mi_X6_takeChannels at h
  refine ev_aload_n dX6_takeChannels_0 rfl ?_
  refine ev_iconst (x := 3) dX6_takeChannels_1 (by decide) ?_
  refine ev_puti fl_RX6_26 (ht0).1 (by decide) (by decide) rfl rfl rfl dX6_takeChannels_2 ?_
  refine ev_aload_n dX6_takeChannels_5 rfl ?_
  refine ev_iload_n dX6_takeChannels_6 rfl ?_
  refine ev_puti fl_RX6_30 (ht0).1 (by decide) (by decide) rfl rfl rfl dX6_takeChannels_7 ?_
  refine ev_iconst (x := 0) dX6_takeChannels_10 (by decide) ?_
  refine ev_istore_n dX6_takeChannels_11 (Nat.le_of_ble_eq_true rfl) rfl rfl ?_
  obtain ⟨q4, hq5, h⟩ := ab_bind h
  refine lp_X6_takeChannels_12 _ (ab_pi (ab_pi M t0 3 3) t0 4 x2) t0 ht0 t1 ht1 x2 0 _ hq5 ?_
  cases h
  exact ev_return rfl dX6_takeChannels_33

noncomputable def mi_X6_takeSquares_15 : Nat → ab_M → Nat → Int32 → Int32 → Option (Int32 × ab_M)
  | 0, _, _, _, _ => none
  | n + 1, M, t0, x2, x3 =>
    if (M.1 1 7) ≤ x3 then
      some (x3, M)
    else
      (mi_X3_square M x2 x3).bind fun q2 =>
      ab_chk (vp_in x3 60) <|
      mi_X6_takeSquares_15 n (ab_pl M (t0 + 3) (x3).toNatClampNeg (Int32.toInt64 q2)) t0 x2 (x3 + 1)

set_option maxHeartbeats 4000000 in
set_option maxRecDepth 100000 in
theorem lp_X6_takeSquares_15 {l : Launch} {D : va_G} {ac : Nat → ClassId} {n0 : Nat} {r : ab_Rs} : ∀ (n : Nat) (M : ab_M) (t0 : Nat) (ht0 : ab_isShelf t0) (x2 : Int32) (x3 : Int32) (q : Int32 × ab_M) (h : mi_X6_takeSquares_15 n M t0 x2 x3 = some q) (kk : ab_Ev l D ac 2 me_X6_takeSquares n0 0 0 r 0 0 ab_SH 42 [some (.ref t0), some (.ref 1), some (.int x2), some (.int q.1)] [] q.2), ab_Ev l D ac 2 me_X6_takeSquares n0 0 0 r 0 0 ab_SH 15 [some (.ref t0), some (.ref 1), some (.int x2), some (.int x3)] [] M := by
  intro n
  induction n with
  | zero =>
    intro M t0 ht0 x2 x3 q h kk
    cases h
  | succ n ih =>
    intro M t0 ht0 x2 x3 q h kk
    unfold mi_X6_takeSquares_15 at h
    refine ev_iload_n dX6_takeSquares_15 rfl ?_
    refine ev_aload_n dX6_takeSquares_16 rfl ?_
    refine ev_geti fl_RX6_37 sh_1 (by decide) (by decide) rfl dX6_takeSquares_17 ?_
    refine ev_icmp_ge (t := 42) dX6_takeSquares_20 (by decide) (fun hc1 => ?_) (fun hc1 => ?_)
    · replace h := ab_pos hc1 h
      cases h
      exact kk
    · replace h := ab_neg hc1 h
      refine ev_aload_n dX6_takeSquares_23 rfl ?_
      refine ev_getr (o' := (t0 + 3)) fl_RX6_22 (ht0).1 (by decide) (by decide) rfl rfl dX6_takeSquares_24 ?_
      refine ev_iload_n dX6_takeSquares_27 rfl ?_
      refine ev_aload_n dX6_takeSquares_28 rfl ?_
      refine ev_iload_n dX6_takeSquares_29 rfl ?_
      refine ev_iload_n dX6_takeSquares_30 rfl ?_
      obtain ⟨q2, hv3, h⟩ := ab_bind h
      refine ev_callV (st := [.int x3, .ref (t0 + 3)]) (co_X3_square M x2 x3 _ hv3) mv_X3_square sh_1 ml_RX6_42 dX6_takeSquares_31 (by decide) rfl (Nat.le_of_ble_eq_true rfl) ⟨Nat.le_refl _, Nat.le_refl _⟩ ?_
      refine ev_i2l dX6_takeSquares_34 ?_
      obtain ⟨hb4, h⟩ := ab_chk_some h
      refine ev_lastore (ht0).2.2.2 hb4 dX6_takeSquares_35 ?_
      refine ev_iinc (y := x3 + 1) dX6_takeSquares_36 rfl (by first | rfl | decide) rfl rfl ?_
      refine ev_goto (t := 15) dX6_takeSquares_39 (by decide) ?_
      exact ih (ab_pl M (t0 + 3) (x3).toNatClampNeg (Int32.toInt64 q2)) t0 ht0 x2 (x3 + 1) _ h kk

noncomputable def mi_X6_takeSquares (M : ab_M) (t0 : Nat) (x2 : Int32) : Option (ab_M) :=
  (mi_X6_takeSquares_15 ab_F (ab_pi (ab_pi M t0 3 4) t0 4 ((ab_pi M t0 3 4).1 1 7)) t0 x2 0).bind fun q5 =>
  some q5.2

set_option maxHeartbeats 4000000 in
set_option maxRecDepth 100000 in
theorem co_X6_takeSquares {l : Launch} {D : va_G} {ac : Nat → ClassId} (M : ab_M) (t0 : Nat) (ht0 : ab_isShelf t0) (x2 : Int32) (z : ab_M) (h : mi_X6_takeSquares M t0 x2 = some z) : ab_Con l D ac 2 me_X6_takeSquares 0 0 [.ref t0, .ref 1, .int x2] ab_SH M (none, ab_SH, z) := by
  refine ab_intro (lv := [some (.ref t0), some (.ref 1), some (.int x2), none]) (by decide) rfl (Nat.le_of_ble_eq_true rfl) rfl ?_
  unfold mi_X6_takeSquares at h
  refine ev_aload_n dX6_takeSquares_0 rfl ?_
  refine ev_iconst (x := 4) dX6_takeSquares_1 (by decide) ?_
  refine ev_puti fl_RX6_26 (ht0).1 (by decide) (by decide) rfl rfl rfl dX6_takeSquares_2 ?_
  refine ev_aload_n dX6_takeSquares_5 rfl ?_
  refine ev_aload_n dX6_takeSquares_6 rfl ?_
  refine ev_geti fl_RX6_37 sh_1 (by decide) (by decide) rfl dX6_takeSquares_7 ?_
  refine ev_puti fl_RX6_30 (ht0).1 (by decide) (by decide) rfl rfl rfl dX6_takeSquares_10 ?_
  refine ev_iconst (x := 0) dX6_takeSquares_13 (by decide) ?_
  refine ev_istore_n dX6_takeSquares_14 (Nat.le_of_ble_eq_true rfl) rfl rfl ?_
  obtain ⟨q5, hq6, h⟩ := ab_bind h
  refine lp_X6_takeSquares_15 _ (ab_pi (ab_pi M t0 3 4) t0 4 ((ab_pi M t0 3 4).1 1 7)) t0 ht0 x2 0 _ hq6 ?_
  cases h
  exact ev_return rfl dX6_takeSquares_42

noncomputable def mi_X6_takeZeros (M : ab_M) (t0 : Nat) (x1 : Int32) (x2 : Int32) : Option (ab_M) :=
  (mi_J7_fill_031fb (ab_pi (ab_pi M t0 3 x1) t0 4 x2) (t0 + 2) 0).bind fun q1 =>
  (mi_J7_fill_d0a16 q1 (t0 + 3) 0).bind fun q3 =>
  some q3

set_option maxHeartbeats 4000000 in
set_option maxRecDepth 100000 in
theorem co_X6_takeZeros {l : Launch} {D : va_G} {ac : Nat → ClassId} (M : ab_M) (t0 : Nat) (ht0 : ab_isShelf t0) (x1 : Int32) (x2 : Int32) (z : ab_M) (h : mi_X6_takeZeros M t0 x1 x2 = some z) : ab_Con l D ac 2 me_X6_takeZeros 0 0 [.ref t0, .int x1, .int x2] ab_SH M (none, ab_SH, z) := by
  refine ab_intro (lv := [some (.ref t0), some (.int x1), some (.int x2)]) (by decide) rfl (Nat.le_of_ble_eq_true rfl) rfl ?_
  unfold mi_X6_takeZeros at h
  refine ev_aload_n dX6_takeZeros_0 rfl ?_
  refine ev_iload_n dX6_takeZeros_1 rfl ?_
  refine ev_puti fl_RX6_26 (ht0).1 (by decide) (by decide) rfl rfl rfl dX6_takeZeros_2 ?_
  refine ev_aload_n dX6_takeZeros_5 rfl ?_
  refine ev_iload_n dX6_takeZeros_6 rfl ?_
  refine ev_puti fl_RX6_30 (ht0).1 (by decide) (by decide) rfl rfl rfl dX6_takeZeros_7 ?_
  refine ev_aload_n dX6_takeZeros_10 rfl ?_
  refine ev_getr (o' := (t0 + 2)) fl_RX6_18 (ht0).1 (by decide) (by decide) rfl rfl dX6_takeZeros_11 ?_
  refine ev_iconst (x := 0) dX6_takeZeros_14 (by decide) ?_
  obtain ⟨q1, hv2, h⟩ := ab_bind h
  refine ev_callS (st := []) (co_J7_fill_031fb (ab_pi (ab_pi M t0 3 x1) t0 4 x2) (t0 + 2) ((ht0).2.2.1) 0 _ hv2) mv_J7_fill_031fb ml_RX6_46 dX6_takeZeros_15 (by decide) rfl (Nat.le_of_ble_eq_true rfl) ⟨Nat.le_refl _, Nat.le_refl _⟩ ?_
  refine ev_aload_n dX6_takeZeros_18 rfl ?_
  refine ev_getr (o' := (t0 + 3)) fl_RX6_22 (ht0).1 (by decide) (by decide) rfl rfl dX6_takeZeros_19 ?_
  refine ev_lconst (x := 0) dX6_takeZeros_22 (by decide) ?_
  obtain ⟨q3, hv4, h⟩ := ab_bind h
  refine ev_callS (st := []) (co_J7_fill_d0a16 q1 (t0 + 3) ((ht0).2.2.2) 0 _ hv4) mv_J7_fill_d0a16 ml_RX6_52 dX6_takeZeros_23 (by decide) rfl (Nat.le_of_ble_eq_true rfl) ⟨Nat.le_refl _, Nat.le_refl _⟩ ?_
  cases h
  exact ev_return rfl dX6_takeZeros_26

noncomputable def mi_X6_isRow (M : ab_M) (t0 : Nat) : Option (Int32) :=
  if (M.1 t0 3) = 3 then
    some 1
  else
    if (M.1 t0 3) = 4 then
      some 1
    else
      some 0

set_option maxHeartbeats 4000000 in
set_option maxRecDepth 100000 in
theorem co_X6_isRow {l : Launch} {D : va_G} {ac : Nat → ClassId} (M : ab_M) (t0 : Nat) (ht0 : ab_isShelf t0) (z : Int32) (h : mi_X6_isRow M t0 = some z) : ab_Con l D ac 1 me_X6_isRow 0 0 [.ref t0] ab_SH M (some (.int z), ab_SH, M) := by
  refine ab_intro (lv := [some (.ref t0)]) (by decide) rfl (Nat.le_of_ble_eq_true rfl) rfl ?_
  unfold mi_X6_isRow at h
  refine ev_aload_n dX6_isRow_0 rfl ?_
  refine ev_geti fl_RX6_26 (ht0).1 (by decide) (by decide) rfl dX6_isRow_1 ?_
  refine ev_iconst (x := 3) dX6_isRow_4 (by decide) ?_
  refine ev_icmp_eq (t := 16) dX6_isRow_5 (by decide) (fun hc1 => ?_) (fun hc1 => ?_)
  · replace h := ab_pos hc1 h
    refine ev_iconst (x := 1) dX6_isRow_16 (by decide) ?_
    refine ev_goto (t := 21) dX6_isRow_17 (by decide) ?_
    cases h
    exact ev_zreturn rfl (Or.inr rfl) dX6_isRow_21
  · replace h := ab_neg hc1 h
    refine ev_aload_n dX6_isRow_8 rfl ?_
    refine ev_geti fl_RX6_26 (ht0).1 (by decide) (by decide) rfl dX6_isRow_9 ?_
    refine ev_iconst (x := 4) dX6_isRow_12 (by decide) ?_
    refine ev_icmp_ne (t := 20) dX6_isRow_13 (by decide) (fun hc2 => ?_) (fun hc2 => ?_)
    · replace h := ab_neg hc2 h
      refine ev_iconst (x := 0) dX6_isRow_20 (by decide) ?_
      cases h
      exact ev_zreturn rfl (Or.inl rfl) dX6_isRow_21
    · replace h := ab_pos hc2 h
      refine ev_iconst (x := 1) dX6_isRow_16 (by decide) ?_
      refine ev_goto (t := 21) dX6_isRow_17 (by decide) ?_
      cases h
      exact ev_zreturn rfl (Or.inr rfl) dX6_isRow_21

noncomputable def mi_X6_hasRange (M : ab_M) (t0 : Nat) (x1 : Int32) (x2 : Int32) : Option (Int32) :=
  if x2 < 0 then
    some 0
  else
    if x1 < 0 then
      some 0
    else
      if (M.1 t0 4) < x1 then
        some 0
      else
        if ((M.1 t0 4) - x1) < x2 then
          some 0
        else
          some 1

set_option maxHeartbeats 4000000 in
set_option maxRecDepth 100000 in
theorem co_X6_hasRange {l : Launch} {D : va_G} {ac : Nat → ClassId} (M : ab_M) (t0 : Nat) (ht0 : ab_isShelf t0) (x1 : Int32) (x2 : Int32) (z : Int32) (h : mi_X6_hasRange M t0 x1 x2 = some z) : ab_Con l D ac 1 me_X6_hasRange 0 0 [.ref t0, .int x1, .int x2] ab_SH M (some (.int z), ab_SH, M) := by
  refine ab_intro (lv := [some (.ref t0), some (.int x1), some (.int x2)]) (by decide) rfl (Nat.le_of_ble_eq_true rfl) rfl ?_
  unfold mi_X6_hasRange at h
  refine ev_iload_n dX6_hasRange_0 rfl ?_
  refine ev_if_lt (t := 30) dX6_hasRange_1 (by decide) (fun hc1 => ?_) (fun hc1 => ?_)
  · replace h := ab_pos hc1 h
    refine ev_iconst (x := 0) dX6_hasRange_30 (by decide) ?_
    cases h
    exact ev_zreturn rfl (Or.inl rfl) dX6_hasRange_31
  · replace h := ab_neg hc1 h
    refine ev_iload_n dX6_hasRange_4 rfl ?_
    refine ev_if_lt (t := 30) dX6_hasRange_5 (by decide) (fun hc2 => ?_) (fun hc2 => ?_)
    · replace h := ab_pos hc2 h
      refine ev_iconst (x := 0) dX6_hasRange_30 (by decide) ?_
      cases h
      exact ev_zreturn rfl (Or.inl rfl) dX6_hasRange_31
    · replace h := ab_neg hc2 h
      refine ev_iload_n dX6_hasRange_8 rfl ?_
      refine ev_aload_n dX6_hasRange_9 rfl ?_
      refine ev_geti fl_RX6_30 (ht0).1 (by decide) (by decide) rfl dX6_hasRange_10 ?_
      refine ev_icmp_gt (t := 30) dX6_hasRange_13 (by decide) (fun hc3 => ?_) (fun hc3 => ?_)
      · replace h := ab_pos hc3 h
        refine ev_iconst (x := 0) dX6_hasRange_30 (by decide) ?_
        cases h
        exact ev_zreturn rfl (Or.inl rfl) dX6_hasRange_31
      · replace h := ab_neg hc3 h
        refine ev_iload_n dX6_hasRange_16 rfl ?_
        refine ev_aload_n dX6_hasRange_17 rfl ?_
        refine ev_geti fl_RX6_30 (ht0).1 (by decide) (by decide) rfl dX6_hasRange_18 ?_
        refine ev_iload_n dX6_hasRange_21 rfl ?_
        refine ev_isub dX6_hasRange_22 ?_
        refine ev_icmp_gt (t := 30) dX6_hasRange_23 (by decide) (fun hc4 => ?_) (fun hc4 => ?_)
        · replace h := ab_pos hc4 h
          refine ev_iconst (x := 0) dX6_hasRange_30 (by decide) ?_
          cases h
          exact ev_zreturn rfl (Or.inl rfl) dX6_hasRange_31
        · replace h := ab_neg hc4 h
          refine ev_iconst (x := 1) dX6_hasRange_26 (by decide) ?_
          refine ev_goto (t := 31) dX6_hasRange_27 (by decide) ?_
          cases h
          exact ev_zreturn rfl (Or.inr rfl) dX6_hasRange_31

noncomputable def mi_X6_at (M : ab_M) (t0 : Nat) (x1 : Int32) : Option (Int64) :=
  if (M.1 t0 3) = 3 then
    ab_chk (vp_in x1 60) <|
    some (Int32.toInt64 (M.1 (t0 + 2) (x1).toNatClampNeg))
  else
    ab_chk (vp_in x1 60) <|
    some (M.2 (t0 + 3) (x1).toNatClampNeg)

set_option maxHeartbeats 4000000 in
set_option maxRecDepth 100000 in
theorem co_X6_at {l : Launch} {D : va_G} {ac : Nat → ClassId} (M : ab_M) (t0 : Nat) (ht0 : ab_isShelf t0) (x1 : Int32) (z : Int64) (h : mi_X6_at M t0 x1 = some z) : ab_Con l D ac 1 me_X6_at 0 0 [.ref t0, .int x1] ab_SH M (some (.long z), ab_SH, M) := by
  refine ab_intro (lv := [some (.ref t0), some (.int x1)]) (by decide) rfl (Nat.le_of_ble_eq_true rfl) rfl ?_
  unfold mi_X6_at at h
  refine ev_aload_n dX6_at_0 rfl ?_
  refine ev_geti fl_RX6_26 (ht0).1 (by decide) (by decide) rfl dX6_at_1 ?_
  refine ev_iconst (x := 3) dX6_at_4 (by decide) ?_
  refine ev_icmp_ne (t := 18) dX6_at_5 (by decide) (fun hc1 => ?_) (fun hc1 => ?_)
  · replace h := ab_neg hc1 h
    refine ev_aload_n dX6_at_18 rfl ?_
    refine ev_getr (o' := (t0 + 3)) fl_RX6_22 (ht0).1 (by decide) (by decide) rfl rfl dX6_at_19 ?_
    refine ev_iload_n dX6_at_22 rfl ?_
    obtain ⟨hb2, h⟩ := ab_chk_some h
    refine ev_laload (ht0).2.2.2 hb2 dX6_at_23 ?_
    cases h
    exact ev_lreturn rfl dX6_at_24
  · replace h := ab_pos hc1 h
    refine ev_aload_n dX6_at_8 rfl ?_
    refine ev_getr (o' := (t0 + 2)) fl_RX6_18 (ht0).1 (by decide) (by decide) rfl rfl dX6_at_9 ?_
    refine ev_iload_n dX6_at_12 rfl ?_
    obtain ⟨hb3, h⟩ := ab_chk_some h
    refine ev_baload (ht0).2.2.1 hb3 dX6_at_13 ?_
    refine ev_i2l dX6_at_14 ?_
    refine ev_goto (t := 24) dX6_at_15 (by decide) ?_
    cases h
    exact ev_lreturn rfl dX6_at_24

noncomputable def mi_X6_copyTo (M : ab_M) (t0 : Nat) (x1 : Int32) (t2 : Nat) (x3 : Int32) (x4 : Int32) : Option (ab_M) :=
  if (M.1 t0 3) = 3 then
    ab_chk (¬ (x1 : Int32) < 0 ∧ ¬ (x3 : Int32) < 0 ∧ ¬ (x4 : Int32) < 0 ∧ (x1 : Int32).toNatClampNeg + (x4 : Int32).toNatClampNeg ≤ 60 ∧ (x3 : Int32).toNatClampNeg + (x4 : Int32).toNatClampNeg ≤ 60 ∧ ∀ i, i < (x4 : Int32).toNatClampNeg → fits .byte (.int (M.1 (t0 + 2) ((x1 : Int32).toNatClampNeg + i))) = true) <|
    some (ab_cpi M (t0 + 2) (t2 + 2) x1 x3 x4)
  else
    ab_chk (¬ (x1 : Int32) < 0 ∧ ¬ (x3 : Int32) < 0 ∧ ¬ (x4 : Int32) < 0 ∧ (x1 : Int32).toNatClampNeg + (x4 : Int32).toNatClampNeg ≤ 60 ∧ (x3 : Int32).toNatClampNeg + (x4 : Int32).toNatClampNeg ≤ 60) <|
    some (ab_cpl M (t0 + 3) (t2 + 3) x1 x3 x4)

set_option maxHeartbeats 4000000 in
set_option maxRecDepth 100000 in
theorem co_X6_copyTo {l : Launch} {D : va_G} {ac : Nat → ClassId} (M : ab_M) (t0 : Nat) (ht0 : ab_isShelf t0) (x1 : Int32) (t2 : Nat) (ht2 : ab_isShelf t2) (x3 : Int32) (x4 : Int32) (z : ab_M) (h : mi_X6_copyTo M t0 x1 t2 x3 x4 = some z) : ab_Con l D ac 2 me_X6_copyTo 0 0 [.ref t0, .int x1, .ref t2, .int x3, .int x4] ab_SH M (none, ab_SH, z) := by
  refine ab_intro (lv := [some (.ref t0), some (.int x1), some (.ref t2), some (.int x3), some (.int x4)]) (by decide) rfl (Nat.le_of_ble_eq_true rfl) rfl ?_
  unfold mi_X6_copyTo at h
  refine ev_aload_n dX6_copyTo_0 rfl ?_
  refine ev_geti fl_RX6_26 (ht0).1 (by decide) (by decide) rfl dX6_copyTo_1 ?_
  refine ev_iconst (x := 3) dX6_copyTo_4 (by decide) ?_
  refine ev_icmp_ne (t := 26) dX6_copyTo_5 (by decide) (fun hc1 => ?_) (fun hc1 => ?_)
  · replace h := ab_neg hc1 h
    refine ev_aload_n dX6_copyTo_26 rfl ?_
    refine ev_getr (o' := (t0 + 3)) fl_RX6_22 (ht0).1 (by decide) (by decide) rfl rfl dX6_copyTo_27 ?_
    refine ev_iload_n dX6_copyTo_30 rfl ?_
    refine ev_aload_n dX6_copyTo_31 rfl ?_
    refine ev_getr (o' := (t2 + 3)) fl_RX6_22 (ht2).1 (by decide) (by decide) rfl rfl dX6_copyTo_32 ?_
    refine ev_iload_n dX6_copyTo_35 rfl ?_
    refine ev_iload dX6_copyTo_36 rfl ?_
    obtain ⟨hb2, h⟩ := ab_chk_some h
    refine ev_copyl ml_RX6_55 (ht0).2.2.2 (ht2).2.2.2 hb2 dX6_copyTo_38 (by decide) (Nat.le_of_ble_eq_true rfl) ?_
    cases h
    exact ev_return rfl dX6_copyTo_41
  · replace h := ab_pos hc1 h
    refine ev_aload_n dX6_copyTo_8 rfl ?_
    refine ev_getr (o' := (t0 + 2)) fl_RX6_18 (ht0).1 (by decide) (by decide) rfl rfl dX6_copyTo_9 ?_
    refine ev_iload_n dX6_copyTo_12 rfl ?_
    refine ev_aload_n dX6_copyTo_13 rfl ?_
    refine ev_getr (o' := (t2 + 2)) fl_RX6_18 (ht2).1 (by decide) (by decide) rfl rfl dX6_copyTo_14 ?_
    refine ev_iload_n dX6_copyTo_17 rfl ?_
    refine ev_iload dX6_copyTo_18 rfl ?_
    obtain ⟨hb3, h⟩ := ab_chk_some h
    refine ev_copyb ml_RX6_55 (ht0).2.2.1 (ht2).2.2.1 hb3 dX6_copyTo_20 (by decide) (Nat.le_of_ble_eq_true rfl) ?_
    refine ev_goto (t := 41) dX6_copyTo_23 (by decide) ?_
    cases h
    exact ev_return rfl dX6_copyTo_41
end
