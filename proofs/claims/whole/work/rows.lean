section
-- ===== PART A: goes FIRST, ahead of the names: the tables' words, and 'selects' of the private methods out of them =====
/-- a private method of a class that the tables say can be made, by its rows of tables_1 -/
def lw_okq (q : MethodName × Nat) : Prop := (q.1.cls ≠ "java/lang/invoke/MethodHandle" ∧ q.1.cls ≠ "java/lang/invoke/VarHandle") ∧ Cond.instantiable q.1.cls q.2 ∈ tables_1 ∧ Cond.privateMethod q.1 ∈ tables_1 ∧ Cond.instanceMethod q.1 ∈ tables_1
theorem lw_p0 : lw_okq (⟨"WavePlan$Land", "freshBar", "(II)I"⟩, 11) := ⟨⟨by decide +kernel, by decide +kernel⟩, List.mem_of_getElem? (i := 31) (by decide +kernel), List.mem_of_getElem? (i := 340) (by decide +kernel), List.mem_of_getElem? (i := 341) (by decide +kernel)⟩
theorem lw_p1 : lw_okq (⟨"WavePlan$Judge", "lackAt", "(IIII)I"⟩, 2) := ⟨⟨by decide +kernel, by decide +kernel⟩, List.mem_of_getElem? (i := 180) (by decide +kernel), List.mem_of_getElem? (i := 486) (by decide +kernel), List.mem_of_getElem? (i := 487) (by decide +kernel)⟩
theorem lw_p2 : lw_okq (⟨"WavePlan$Judge", "sumTogether", "([IIII)Z"⟩, 2) := ⟨⟨by decide +kernel, by decide +kernel⟩, List.mem_of_getElem? (i := 180) (by decide +kernel), List.mem_of_getElem? (i := 501) (by decide +kernel), List.mem_of_getElem? (i := 502) (by decide +kernel)⟩
theorem lw_p3 : lw_okq (⟨"WavePlan$Judge", "sumsOfThree", "([IIII)I"⟩, 2) := ⟨⟨by decide +kernel, by decide +kernel⟩, List.mem_of_getElem? (i := 180) (by decide +kernel), List.mem_of_getElem? (i := 509) (by decide +kernel), List.mem_of_getElem? (i := 510) (by decide +kernel)⟩
theorem lw_p4 : lw_okq (⟨"WavePlan$Trier", "open", "(II)V"⟩, 6) := ⟨⟨by decide +kernel, by decide +kernel⟩, List.mem_of_getElem? (i := 193) (by decide +kernel), List.mem_of_getElem? (i := 546) (by decide +kernel), List.mem_of_getElem? (i := 547) (by decide +kernel)⟩
theorem lw_p5 : lw_okq (⟨"WavePlan$Judge", "tooNear", "([III)J"⟩, 2) := ⟨⟨by decide +kernel, by decide +kernel⟩, List.mem_of_getElem? (i := 180) (by decide +kernel), List.mem_of_getElem? (i := 554) (by decide +kernel), List.mem_of_getElem? (i := 555) (by decide +kernel)⟩
theorem lw_p6 : lw_okq (⟨"WavePlan$Judge", "sumMates", "([IIII)Z"⟩, 2) := ⟨⟨by decide +kernel, by decide +kernel⟩, List.mem_of_getElem? (i := 180) (by decide +kernel), List.mem_of_getElem? (i := 558) (by decide +kernel), List.mem_of_getElem? (i := 559) (by decide +kernel)⟩
theorem lw_p7 : lw_okq (⟨"WavePlan$Judge", "sumTargets", "([III)J"⟩, 2) := ⟨⟨by decide +kernel, by decide +kernel⟩, List.mem_of_getElem? (i := 180) (by decide +kernel), List.mem_of_getElem? (i := 562) (by decide +kernel), List.mem_of_getElem? (i := 563) (by decide +kernel)⟩
theorem lw_p8 : lw_okq (⟨"WavePlan$Trier", "takes", "(I)Z"⟩, 6) := ⟨⟨by decide +kernel, by decide +kernel⟩, List.mem_of_getElem? (i := 193) (by decide +kernel), List.mem_of_getElem? (i := 575) (by decide +kernel), List.mem_of_getElem? (i := 576) (by decide +kernel)⟩
theorem lw_p9 : lw_okq (⟨"WavePlan$Mender", "canChange", "([II)Z"⟩, 2) := ⟨⟨by decide +kernel, by decide +kernel⟩, List.mem_of_getElem? (i := 219) (by decide +kernel), List.mem_of_getElem? (i := 612) (by decide +kernel), List.mem_of_getElem? (i := 613) (by decide +kernel)⟩
theorem lw_p10 : lw_okq (⟨"WavePlan$Judge", "addLacks", "([III)V"⟩, 2) := ⟨⟨by decide +kernel, by decide +kernel⟩, List.mem_of_getElem? (i := 180) (by decide +kernel), List.mem_of_getElem? (i := 621) (by decide +kernel), List.mem_of_getElem? (i := 622) (by decide +kernel)⟩
theorem lw_p11 : lw_okq (⟨"WavePlan$Judge", "addSums", "([IIII)V"⟩, 2) := ⟨⟨by decide +kernel, by decide +kernel⟩, List.mem_of_getElem? (i := 180) (by decide +kernel), List.mem_of_getElem? (i := 626) (by decide +kernel), List.mem_of_getElem? (i := 627) (by decide +kernel)⟩
theorem lw_p12 : lw_okq (⟨"WavePlan$Judge", "addSumAt", "(II)V"⟩, 2) := ⟨⟨by decide +kernel, by decide +kernel⟩, List.mem_of_getElem? (i := 180) (by decide +kernel), List.mem_of_getElem? (i := 630) (by decide +kernel), List.mem_of_getElem? (i := 631) (by decide +kernel)⟩
theorem lw_p13 : lw_okq (⟨"WavePlan$Mender", "leastFree", "([III)I"⟩, 2) := ⟨⟨by decide +kernel, by decide +kernel⟩, List.mem_of_getElem? (i := 219) (by decide +kernel), List.mem_of_getElem? (i := 649) (by decide +kernel), List.mem_of_getElem? (i := 650) (by decide +kernel)⟩
theorem lw_p14 : lw_okq (⟨"WavePlan$Mender", "changeBoth", "([III)Z"⟩, 2) := ⟨⟨by decide +kernel, by decide +kernel⟩, List.mem_of_getElem? (i := 219) (by decide +kernel), List.mem_of_getElem? (i := 658) (by decide +kernel), List.mem_of_getElem? (i := 659) (by decide +kernel)⟩
theorem lw_p15 : lw_okq (⟨"WavePlan$Crowds", "barsAll", "(II)Z"⟩, 5) := ⟨⟨by decide +kernel, by decide +kernel⟩, List.mem_of_getElem? (i := 232) (by decide +kernel), List.mem_of_getElem? (i := 670) (by decide +kernel), List.mem_of_getElem? (i := 671) (by decide +kernel)⟩
def lw_privs_1 : List (MethodName × Nat) := [(⟨"WavePlan$Land", "freshBar", "(II)I"⟩, 11), (⟨"WavePlan$Judge", "lackAt", "(IIII)I"⟩, 2), (⟨"WavePlan$Judge", "sumTogether", "([IIII)Z"⟩, 2), (⟨"WavePlan$Judge", "sumsOfThree", "([IIII)I"⟩, 2), (⟨"WavePlan$Trier", "open", "(II)V"⟩, 6), (⟨"WavePlan$Judge", "tooNear", "([III)J"⟩, 2), (⟨"WavePlan$Judge", "sumMates", "([IIII)Z"⟩, 2), (⟨"WavePlan$Judge", "sumTargets", "([III)J"⟩, 2), (⟨"WavePlan$Trier", "takes", "(I)Z"⟩, 6), (⟨"WavePlan$Mender", "canChange", "([II)Z"⟩, 2), (⟨"WavePlan$Judge", "addLacks", "([III)V"⟩, 2), (⟨"WavePlan$Judge", "addSums", "([IIII)V"⟩, 2), (⟨"WavePlan$Judge", "addSumAt", "(II)V"⟩, 2), (⟨"WavePlan$Mender", "leastFree", "([III)I"⟩, 2), (⟨"WavePlan$Mender", "changeBoth", "([III)Z"⟩, 2), (⟨"WavePlan$Crowds", "barsAll", "(II)Z"⟩, 5)]
theorem lw_r1 : ∀ q ∈ lw_privs_1, lw_okq q := List.forall_mem_cons.mpr ⟨lw_p0, List.forall_mem_cons.mpr ⟨lw_p1, List.forall_mem_cons.mpr ⟨lw_p2, List.forall_mem_cons.mpr ⟨lw_p3, List.forall_mem_cons.mpr ⟨lw_p4, List.forall_mem_cons.mpr ⟨lw_p5, List.forall_mem_cons.mpr ⟨lw_p6, List.forall_mem_cons.mpr ⟨lw_p7, List.forall_mem_cons.mpr ⟨lw_p8, List.forall_mem_cons.mpr ⟨lw_p9, List.forall_mem_cons.mpr ⟨lw_p10, List.forall_mem_cons.mpr ⟨lw_p11, List.forall_mem_cons.mpr ⟨lw_p12, List.forall_mem_cons.mpr ⟨lw_p13, List.forall_mem_cons.mpr ⟨lw_p14, List.forall_mem_cons.mpr ⟨lw_p15, fun _ h => absurd h List.not_mem_nil⟩⟩⟩⟩⟩⟩⟩⟩⟩⟩⟩⟩⟩⟩⟩⟩
theorem lw_p16 : lw_okq (⟨"WavePlan$Crowds", "seat", "(II)I"⟩, 5) := ⟨⟨by decide +kernel, by decide +kernel⟩, List.mem_of_getElem? (i := 232) (by decide +kernel), List.mem_of_getElem? (i := 683) (by decide +kernel), List.mem_of_getElem? (i := 684) (by decide +kernel)⟩
theorem lw_p17 : lw_okq (⟨"WavePlan$Crowds", "sumUp", "(II)V"⟩, 5) := ⟨⟨by decide +kernel, by decide +kernel⟩, List.mem_of_getElem? (i := 232) (by decide +kernel), List.mem_of_getElem? (i := 687) (by decide +kernel), List.mem_of_getElem? (i := 688) (by decide +kernel)⟩
theorem lw_p18 : lw_okq (⟨"WavePlan$Crowds", "leastSum", "(III)I"⟩, 5) := ⟨⟨by decide +kernel, by decide +kernel⟩, List.mem_of_getElem? (i := 232) (by decide +kernel), List.mem_of_getElem? (i := 691) (by decide +kernel), List.mem_of_getElem? (i := 692) (by decide +kernel)⟩
theorem lw_p19 : lw_okq (⟨"WavePlan$Crowds", "boundOfSeated", "(I)I"⟩, 5) := ⟨⟨by decide +kernel, by decide +kernel⟩, List.mem_of_getElem? (i := 232) (by decide +kernel), List.mem_of_getElem? (i := 697) (by decide +kernel), List.mem_of_getElem? (i := 698) (by decide +kernel)⟩
theorem lw_p20 : lw_okq (⟨"WavePlan$Crowds", "grow", "(III)V"⟩, 5) := ⟨⟨by decide +kernel, by decide +kernel⟩, List.mem_of_getElem? (i := 232) (by decide +kernel), List.mem_of_getElem? (i := 709) (by decide +kernel), List.mem_of_getElem? (i := 710) (by decide +kernel)⟩
theorem lw_p21 : lw_okq (⟨"WavePlan$Crowds", "consider", "(II)V"⟩, 5) := ⟨⟨by decide +kernel, by decide +kernel⟩, List.mem_of_getElem? (i := 232) (by decide +kernel), List.mem_of_getElem? (i := 713) (by decide +kernel), List.mem_of_getElem? (i := 714) (by decide +kernel)⟩
theorem lw_p22 : lw_okq (⟨"WavePlan$Land", "partAround", "(I)I"⟩, 11) := ⟨⟨by decide +kernel, by decide +kernel⟩, List.mem_of_getElem? (i := 31) (by decide +kernel), List.mem_of_getElem? (i := 725) (by decide +kernel), List.mem_of_getElem? (i := 726) (by decide +kernel)⟩
theorem lw_p23 : lw_okq (⟨"WavePlan$Land", "joinedTo", "(I)I"⟩, 11) := ⟨⟨by decide +kernel, by decide +kernel⟩, List.mem_of_getElem? (i := 31) (by decide +kernel), List.mem_of_getElem? (i := 729) (by decide +kernel), List.mem_of_getElem? (i := 730) (by decide +kernel)⟩
theorem lw_p24 : lw_okq (⟨"WavePlan", "refusalOfMast", "(I)I"⟩, 9) := ⟨⟨by decide +kernel, by decide +kernel⟩, List.mem_of_getElem? (i := 23) (by decide +kernel), List.mem_of_getElem? (i := 831) (by decide +kernel), List.mem_of_getElem? (i := 832) (by decide +kernel)⟩
theorem lw_p25 : lw_okq (⟨"java/lang/Throwable", "fillInStackTrace", "(I)Ljava/lang/Throwable;"⟩, 6) := ⟨⟨by decide +kernel, by decide +kernel⟩, List.mem_of_getElem? (i := 888) (by decide +kernel), List.mem_of_getElem? (i := 886) (by decide +kernel), List.mem_of_getElem? (i := 887) (by decide +kernel)⟩
theorem lw_p26 : lw_okq (⟨"WavePlanModel", "isMast", "(I)Z"⟩, 39) := ⟨⟨by decide +kernel, by decide +kernel⟩, List.mem_of_getElem? (i := 966) (by decide +kernel), List.mem_of_getElem? (i := 1111) (by decide +kernel), List.mem_of_getElem? (i := 1112) (by decide +kernel)⟩
theorem lw_p27 : lw_okq (⟨"WavePlanModel", "barOf", "(II)I"⟩, 39) := ⟨⟨by decide +kernel, by decide +kernel⟩, List.mem_of_getElem? (i := 966) (by decide +kernel), List.mem_of_getElem? (i := 1115) (by decide +kernel), List.mem_of_getElem? (i := 1116) (by decide +kernel)⟩
theorem lw_p28 : lw_okq (⟨"WavePlanModel", "square", "(II)I"⟩, 39) := ⟨⟨by decide +kernel, by decide +kernel⟩, List.mem_of_getElem? (i := 966) (by decide +kernel), List.mem_of_getElem? (i := 1119) (by decide +kernel), List.mem_of_getElem? (i := 1120) (by decide +kernel)⟩
theorem lw_p29 : lw_okq (⟨"WavePlanModel", "countBits", "(I)I"⟩, 39) := ⟨⟨by decide +kernel, by decide +kernel⟩, List.mem_of_getElem? (i := 966) (by decide +kernel), List.mem_of_getElem? (i := 1131) (by decide +kernel), List.mem_of_getElem? (i := 1132) (by decide +kernel)⟩
theorem lw_p30 : lw_okq (⟨"WavePlanModel", "isWant", "(I)Z"⟩, 39) := ⟨⟨by decide +kernel, by decide +kernel⟩, List.mem_of_getElem? (i := 966) (by decide +kernel), List.mem_of_getElem? (i := 1144) (by decide +kernel), List.mem_of_getElem? (i := 1145) (by decide +kernel)⟩
theorem lw_p31 : lw_okq (⟨"WavePlanModel", "mayHave", "(II)Z"⟩, 39) := ⟨⟨by decide +kernel, by decide +kernel⟩, List.mem_of_getElem? (i := 966) (by decide +kernel), List.mem_of_getElem? (i := 1169) (by decide +kernel), List.mem_of_getElem? (i := 1170) (by decide +kernel)⟩
def lw_privs_2 : List (MethodName × Nat) := [(⟨"WavePlan$Crowds", "seat", "(II)I"⟩, 5), (⟨"WavePlan$Crowds", "sumUp", "(II)V"⟩, 5), (⟨"WavePlan$Crowds", "leastSum", "(III)I"⟩, 5), (⟨"WavePlan$Crowds", "boundOfSeated", "(I)I"⟩, 5), (⟨"WavePlan$Crowds", "grow", "(III)V"⟩, 5), (⟨"WavePlan$Crowds", "consider", "(II)V"⟩, 5), (⟨"WavePlan$Land", "partAround", "(I)I"⟩, 11), (⟨"WavePlan$Land", "joinedTo", "(I)I"⟩, 11), (⟨"WavePlan", "refusalOfMast", "(I)I"⟩, 9), (⟨"java/lang/Throwable", "fillInStackTrace", "(I)Ljava/lang/Throwable;"⟩, 6), (⟨"WavePlanModel", "isMast", "(I)Z"⟩, 39), (⟨"WavePlanModel", "barOf", "(II)I"⟩, 39), (⟨"WavePlanModel", "square", "(II)I"⟩, 39), (⟨"WavePlanModel", "countBits", "(I)I"⟩, 39), (⟨"WavePlanModel", "isWant", "(I)Z"⟩, 39), (⟨"WavePlanModel", "mayHave", "(II)Z"⟩, 39)]
theorem lw_r2 : ∀ q ∈ lw_privs_2, lw_okq q := List.forall_mem_cons.mpr ⟨lw_p16, List.forall_mem_cons.mpr ⟨lw_p17, List.forall_mem_cons.mpr ⟨lw_p18, List.forall_mem_cons.mpr ⟨lw_p19, List.forall_mem_cons.mpr ⟨lw_p20, List.forall_mem_cons.mpr ⟨lw_p21, List.forall_mem_cons.mpr ⟨lw_p22, List.forall_mem_cons.mpr ⟨lw_p23, List.forall_mem_cons.mpr ⟨lw_p24, List.forall_mem_cons.mpr ⟨lw_p25, List.forall_mem_cons.mpr ⟨lw_p26, List.forall_mem_cons.mpr ⟨lw_p27, List.forall_mem_cons.mpr ⟨lw_p28, List.forall_mem_cons.mpr ⟨lw_p29, List.forall_mem_cons.mpr ⟨lw_p30, List.forall_mem_cons.mpr ⟨lw_p31, fun _ h => absurd h List.not_mem_nil⟩⟩⟩⟩⟩⟩⟩⟩⟩⟩⟩⟩⟩⟩⟩⟩
theorem lw_p32 : lw_okq (⟨"WavePlanModel", "isListed", "(II)Z"⟩, 39) := ⟨⟨by decide +kernel, by decide +kernel⟩, List.mem_of_getElem? (i := 966) (by decide +kernel), List.mem_of_getElem? (i := 1173) (by decide +kernel), List.mem_of_getElem? (i := 1174) (by decide +kernel)⟩
theorem lw_p33 : lw_okq (⟨"WavePlanModel", "isFree", "(II)Z"⟩, 39) := ⟨⟨by decide +kernel, by decide +kernel⟩, List.mem_of_getElem? (i := 966) (by decide +kernel), List.mem_of_getElem? (i := 1177) (by decide +kernel), List.mem_of_getElem? (i := 1178) (by decide +kernel)⟩
theorem lw_p34 : lw_okq (⟨"WavePlanModel", "harmNow", "()I"⟩, 39) := ⟨⟨by decide +kernel, by decide +kernel⟩, List.mem_of_getElem? (i := 966) (by decide +kernel), List.mem_of_getElem? (i := 1205) (by decide +kernel), List.mem_of_getElem? (i := 1206) (by decide +kernel)⟩
theorem lw_p35 : lw_okq (⟨"WavePlanModel", "brokenOf", "(I)I"⟩, 39) := ⟨⟨by decide +kernel, by decide +kernel⟩, List.mem_of_getElem? (i := 966) (by decide +kernel), List.mem_of_getElem? (i := 1209) (by decide +kernel), List.mem_of_getElem? (i := 1210) (by decide +kernel)⟩
theorem lw_p36 : lw_okq (⟨"WavePlanModel", "lack", "(II)I"⟩, 39) := ⟨⟨by decide +kernel, by decide +kernel⟩, List.mem_of_getElem? (i := 966) (by decide +kernel), List.mem_of_getElem? (i := 1213) (by decide +kernel), List.mem_of_getElem? (i := 1214) (by decide +kernel)⟩
theorem lw_p37 : lw_okq (⟨"WavePlanModel", "channelsOf", "(I)I"⟩, 39) := ⟨⟨by decide +kernel, by decide +kernel⟩, List.mem_of_getElem? (i := 966) (by decide +kernel), List.mem_of_getElem? (i := 1217) (by decide +kernel), List.mem_of_getElem? (i := 1218) (by decide +kernel)⟩
theorem lw_p38 : lw_okq (⟨"WavePlanModel", "channelOf", "(II)I"⟩, 39) := ⟨⟨by decide +kernel, by decide +kernel⟩, List.mem_of_getElem? (i := 966) (by decide +kernel), List.mem_of_getElem? (i := 1221) (by decide +kernel), List.mem_of_getElem? (i := 1222) (by decide +kernel)⟩
theorem lw_p39 : lw_okq (⟨"WavePlanModel", "areIn", "(III)Z"⟩, 39) := ⟨⟨by decide +kernel, by decide +kernel⟩, List.mem_of_getElem? (i := 966) (by decide +kernel), List.mem_of_getElem? (i := 1225) (by decide +kernel), List.mem_of_getElem? (i := 1226) (by decide +kernel)⟩
theorem lw_p40 : lw_okq (⟨"WavePlanModel", "middles", "(III)I"⟩, 39) := ⟨⟨by decide +kernel, by decide +kernel⟩, List.mem_of_getElem? (i := 966) (by decide +kernel), List.mem_of_getElem? (i := 1229) (by decide +kernel), List.mem_of_getElem? (i := 1230) (by decide +kernel)⟩
theorem lw_p41 : lw_okq (⟨"WavePlanModel", "keepPlan", "()V"⟩, 39) := ⟨⟨by decide +kernel, by decide +kernel⟩, List.mem_of_getElem? (i := 966) (by decide +kernel), List.mem_of_getElem? (i := 1251) (by decide +kernel), List.mem_of_getElem? (i := 1252) (by decide +kernel)⟩
theorem lw_p42 : lw_okq (⟨"WavePlanModel", "tryBelow", "(I)Z"⟩, 39) := ⟨⟨by decide +kernel, by decide +kernel⟩, List.mem_of_getElem? (i := 966) (by decide +kernel), List.mem_of_getElem? (i := 1255) (by decide +kernel), List.mem_of_getElem? (i := 1256) (by decide +kernel)⟩
theorem lw_p43 : lw_okq (⟨"WavePlanModel", "isTaken", "(III)Z"⟩, 39) := ⟨⟨by decide +kernel, by decide +kernel⟩, List.mem_of_getElem? (i := 966) (by decide +kernel), List.mem_of_getElem? (i := 1259) (by decide +kernel), List.mem_of_getElem? (i := 1260) (by decide +kernel)⟩
theorem lw_p44 : lw_okq (⟨"WavePlanModel", "isFine", "(I)Z"⟩, 39) := ⟨⟨by decide +kernel, by decide +kernel⟩, List.mem_of_getElem? (i := 966) (by decide +kernel), List.mem_of_getElem? (i := 1263) (by decide +kernel), List.mem_of_getElem? (i := 1264) (by decide +kernel)⟩
theorem lw_p45 : lw_okq (⟨"WavePlanModel", "givePlan", "()V"⟩, 39) := ⟨⟨by decide +kernel, by decide +kernel⟩, List.mem_of_getElem? (i := 966) (by decide +kernel), List.mem_of_getElem? (i := 1267) (by decide +kernel), List.mem_of_getElem? (i := 1268) (by decide +kernel)⟩
theorem lw_p46 : lw_okq (⟨"WavePlanModel", "isBettered", "()Z"⟩, 39) := ⟨⟨by decide +kernel, by decide +kernel⟩, List.mem_of_getElem? (i := 966) (by decide +kernel), List.mem_of_getElem? (i := 1288) (by decide +kernel), List.mem_of_getElem? (i := 1289) (by decide +kernel)⟩
theorem lw_p47 : lw_okq (⟨"WavePlanModel", "isHealedBy", "(I)Z"⟩, 39) := ⟨⟨by decide +kernel, by decide +kernel⟩, List.mem_of_getElem? (i := 966) (by decide +kernel), List.mem_of_getElem? (i := 1296) (by decide +kernel), List.mem_of_getElem? (i := 1297) (by decide +kernel)⟩
def lw_privs_3 : List (MethodName × Nat) := [(⟨"WavePlanModel", "isListed", "(II)Z"⟩, 39), (⟨"WavePlanModel", "isFree", "(II)Z"⟩, 39), (⟨"WavePlanModel", "harmNow", "()I"⟩, 39), (⟨"WavePlanModel", "brokenOf", "(I)I"⟩, 39), (⟨"WavePlanModel", "lack", "(II)I"⟩, 39), (⟨"WavePlanModel", "channelsOf", "(I)I"⟩, 39), (⟨"WavePlanModel", "channelOf", "(II)I"⟩, 39), (⟨"WavePlanModel", "areIn", "(III)Z"⟩, 39), (⟨"WavePlanModel", "middles", "(III)I"⟩, 39), (⟨"WavePlanModel", "keepPlan", "()V"⟩, 39), (⟨"WavePlanModel", "tryBelow", "(I)Z"⟩, 39), (⟨"WavePlanModel", "isTaken", "(III)Z"⟩, 39), (⟨"WavePlanModel", "isFine", "(I)Z"⟩, 39), (⟨"WavePlanModel", "givePlan", "()V"⟩, 39), (⟨"WavePlanModel", "isBettered", "()Z"⟩, 39), (⟨"WavePlanModel", "isHealedBy", "(I)Z"⟩, 39)]
theorem lw_r3 : ∀ q ∈ lw_privs_3, lw_okq q := List.forall_mem_cons.mpr ⟨lw_p32, List.forall_mem_cons.mpr ⟨lw_p33, List.forall_mem_cons.mpr ⟨lw_p34, List.forall_mem_cons.mpr ⟨lw_p35, List.forall_mem_cons.mpr ⟨lw_p36, List.forall_mem_cons.mpr ⟨lw_p37, List.forall_mem_cons.mpr ⟨lw_p38, List.forall_mem_cons.mpr ⟨lw_p39, List.forall_mem_cons.mpr ⟨lw_p40, List.forall_mem_cons.mpr ⟨lw_p41, List.forall_mem_cons.mpr ⟨lw_p42, List.forall_mem_cons.mpr ⟨lw_p43, List.forall_mem_cons.mpr ⟨lw_p44, List.forall_mem_cons.mpr ⟨lw_p45, List.forall_mem_cons.mpr ⟨lw_p46, List.forall_mem_cons.mpr ⟨lw_p47, fun _ h => absurd h List.not_mem_nil⟩⟩⟩⟩⟩⟩⟩⟩⟩⟩⟩⟩⟩⟩⟩⟩
theorem lw_p48 : lw_okq (⟨"WavePlanModel", "isHealedByTwo", "()Z"⟩, 39) := ⟨⟨by decide +kernel, by decide +kernel⟩, List.mem_of_getElem? (i := 966) (by decide +kernel), List.mem_of_getElem? (i := 1300) (by decide +kernel), List.mem_of_getElem? (i := 1301) (by decide +kernel)⟩
theorem lw_p49 : lw_okq (⟨"WavePlanModel", "isCrowd", "(I)Z"⟩, 39) := ⟨⟨by decide +kernel, by decide +kernel⟩, List.mem_of_getElem? (i := 966) (by decide +kernel), List.mem_of_getElem? (i := 1308) (by decide +kernel), List.mem_of_getElem? (i := 1309) (by decide +kernel)⟩
theorem lw_p50 : lw_okq (⟨"WavePlanModel", "wantsIn", "(I)I"⟩, 39) := ⟨⟨by decide +kernel, by decide +kernel⟩, List.mem_of_getElem? (i := 966) (by decide +kernel), List.mem_of_getElem? (i := 1312) (by decide +kernel), List.mem_of_getElem? (i := 1313) (by decide +kernel)⟩
theorem lw_p51 : lw_okq (⟨"WavePlanModel", "boundOf", "(I)I"⟩, 39) := ⟨⟨by decide +kernel, by decide +kernel⟩, List.mem_of_getElem? (i := 966) (by decide +kernel), List.mem_of_getElem? (i := 1316) (by decide +kernel), List.mem_of_getElem? (i := 1317) (by decide +kernel)⟩
theorem lw_p52 : lw_okq (⟨"WavePlanModel", "findParts", "()I"⟩, 39) := ⟨⟨by decide +kernel, by decide +kernel⟩, List.mem_of_getElem? (i := 966) (by decide +kernel), List.mem_of_getElem? (i := 1329) (by decide +kernel), List.mem_of_getElem? (i := 1330) (by decide +kernel)⟩
theorem lw_p53 : lw_okq (⟨"WavePlanModel", "areNear", "(II)Z"⟩, 39) := ⟨⟨by decide +kernel, by decide +kernel⟩, List.mem_of_getElem? (i := 966) (by decide +kernel), List.mem_of_getElem? (i := 1333) (by decide +kernel), List.mem_of_getElem? (i := 1334) (by decide +kernel)⟩
theorem lw_p54 : lw_okq (⟨"WavePlanModel", "withChannel", "()I"⟩, 39) := ⟨⟨by decide +kernel, by decide +kernel⟩, List.mem_of_getElem? (i := 966) (by decide +kernel), List.mem_of_getElem? (i := 1341) (by decide +kernel), List.mem_of_getElem? (i := 1342) (by decide +kernel)⟩
theorem lw_p55 : lw_okq (⟨"WavePlanModel", "bars", "()I"⟩, 39) := ⟨⟨by decide +kernel, by decide +kernel⟩, List.mem_of_getElem? (i := 966) (by decide +kernel), List.mem_of_getElem? (i := 1353) (by decide +kernel), List.mem_of_getElem? (i := 1354) (by decide +kernel)⟩
theorem lw_p56 : lw_okq (⟨"WavePlanModel", "threes", "()I"⟩, 39) := ⟨⟨by decide +kernel, by decide +kernel⟩, List.mem_of_getElem? (i := 966) (by decide +kernel), List.mem_of_getElem? (i := 1357) (by decide +kernel), List.mem_of_getElem? (i := 1358) (by decide +kernel)⟩
theorem lw_p57 : lw_okq (⟨"WavePlanModel", "weightOf", "(I)I"⟩, 39) := ⟨⟨by decide +kernel, by decide +kernel⟩, List.mem_of_getElem? (i := 966) (by decide +kernel), List.mem_of_getElem? (i := 1372) (by decide +kernel), List.mem_of_getElem? (i := 1373) (by decide +kernel)⟩
theorem lw_p58 : lw_okq (⟨"WavePlanModel", "hasPlaces", "(III)Z"⟩, 39) := ⟨⟨by decide +kernel, by decide +kernel⟩, List.mem_of_getElem? (i := 966) (by decide +kernel), List.mem_of_getElem? (i := 1388) (by decide +kernel), List.mem_of_getElem? (i := 1389) (by decide +kernel)⟩
theorem lw_p59 : lw_okq (⟨"WavePlanModel", "denied", "(I)I"⟩, 39) := ⟨⟨by decide +kernel, by decide +kernel⟩, List.mem_of_getElem? (i := 966) (by decide +kernel), List.mem_of_getElem? (i := 1396) (by decide +kernel), List.mem_of_getElem? (i := 1397) (by decide +kernel)⟩
def lw_privs_4 : List (MethodName × Nat) := [(⟨"WavePlanModel", "isHealedByTwo", "()Z"⟩, 39), (⟨"WavePlanModel", "isCrowd", "(I)Z"⟩, 39), (⟨"WavePlanModel", "wantsIn", "(I)I"⟩, 39), (⟨"WavePlanModel", "boundOf", "(I)I"⟩, 39), (⟨"WavePlanModel", "findParts", "()I"⟩, 39), (⟨"WavePlanModel", "areNear", "(II)Z"⟩, 39), (⟨"WavePlanModel", "withChannel", "()I"⟩, 39), (⟨"WavePlanModel", "bars", "()I"⟩, 39), (⟨"WavePlanModel", "threes", "()I"⟩, 39), (⟨"WavePlanModel", "weightOf", "(I)I"⟩, 39), (⟨"WavePlanModel", "hasPlaces", "(III)Z"⟩, 39), (⟨"WavePlanModel", "denied", "(I)I"⟩, 39)]
theorem lw_r4 : ∀ q ∈ lw_privs_4, lw_okq q := List.forall_mem_cons.mpr ⟨lw_p48, List.forall_mem_cons.mpr ⟨lw_p49, List.forall_mem_cons.mpr ⟨lw_p50, List.forall_mem_cons.mpr ⟨lw_p51, List.forall_mem_cons.mpr ⟨lw_p52, List.forall_mem_cons.mpr ⟨lw_p53, List.forall_mem_cons.mpr ⟨lw_p54, List.forall_mem_cons.mpr ⟨lw_p55, List.forall_mem_cons.mpr ⟨lw_p56, List.forall_mem_cons.mpr ⟨lw_p57, List.forall_mem_cons.mpr ⟨lw_p58, List.forall_mem_cons.mpr ⟨lw_p59, fun _ h => absurd h List.not_mem_nil⟩⟩⟩⟩⟩⟩⟩⟩⟩⟩⟩⟩
def lw_privs : List (MethodName × Nat) := lw_privs_1 ++ (lw_privs_2 ++ (lw_privs_3 ++ (lw_privs_4)))
def lw_tbl : List Cond := k2_sels lw_privs ++ tables_1
theorem lw_privs_ok : ∀ q ∈ lw_privs, lw_okq q := by
  show ∀ q ∈ lw_privs_1 ++ (lw_privs_2 ++ (lw_privs_3 ++ (lw_privs_4))), lw_okq q
  exact List.forall_mem_append.mpr ⟨lw_r1, List.forall_mem_append.mpr ⟨lw_r2, List.forall_mem_append.mpr ⟨lw_r3, lw_r4⟩⟩⟩
/-! ===== BEGIN words of one list among another's, by their places ===== -/
theorem goodIn_r {big : List Cond} (ws : List Cond) (ps : List Nat) (hp : ws = ps.filterMap (fun i => big[i]?)) (h : ws.all goodWord = true) : GoodIn big ws := by
  intro w hw
  have h1 := List.all_eq_true.mp h w hw
  rw [hp] at hw
  obtain ⟨i, -, hi⟩ := List.mem_filterMap.mp hw
  have hm : w ∈ big := by first | exact List.mem_of_getElem? hi | exact List.getElem?_mem hi
  exact ⟨hm, good_of_word h1⟩
theorem goodIn_app {big a b : List Cond} (ha : GoodIn big a) (hb : GoodIn big b) : GoodIn big (a ++ b) := fun w h => (List.mem_append.mp h).elim (ha w) (hb w)
theorem goodIn_ca {big a b : List Cond} {c : Cond} (ha : GoodIn big (c :: a)) (hb : GoodIn big b) : GoodIn big (c :: (a ++ b)) := fun w h => (List.mem_cons.mp h).elim (fun e => ha w (List.mem_cons.mpr (Or.inl e))) (fun h => (List.mem_append.mp h).elim (fun h => ha w (List.mem_cons.mpr (Or.inr h))) (hb w))
theorem goodIn_sub {big ws : List Cond} (hm : ∀ w ∈ ws, w ∈ big) (h : ws.all goodWord = true) : GoodIn big ws := fun w hw => ⟨hm w hw, good_of_word (List.all_eq_true.mp h w hw)⟩
/-! ===== END ===== -/
def RX0 : String := "WavePlan$Crowds"
def TX0 : u_T := fun k => match k with
  | 0 => ("WavePlan$Crowds", "land", "LWavePlan$Land;", true)
  | 1 => ("WavePlan$Crowds", "sums", "[I", true)
  | 2 => ("WavePlan$Crowds", "seats", "[I", true)
  | 3 => ("WavePlan$Crowds", "best", "I", false)
  | _ => ("WavePlan$Crowds", "bestBound", "I", false)
def tyX0 : Nat → FieldType := fun k => match k with
  | 0 => .object "WavePlan$Land"
  | 1 => .array .int
  | 2 => .array .int
  | 3 => .int
  | _ => .int
abbrev wsX00 : List Cond := u_ws RX0 TX0 5
theorem nmX0 : ∀ a, a < 5 → ∀ b, b < 5 → a ≠ b → (TX0 a).2.1 ≠ (TX0 b).2.1 := by decide +kernel
theorem tyX0_ok : ∀ k, k < 5 → parseFieldDescriptor (TX0 k).2.2.1 = some (tyX0 k) := by decide +kernel
abbrev cX0_init : ByteArray := prog_2_method_1_code
def yX0_init : MethodName := ⟨RX0, "<init>", "(LWavePlan$Land;)V"⟩
abbrev cX0_isCrowd : ByteArray := prog_2_method_2_code
def yX0_isCrowd : MethodName := ⟨RX0, "isCrowd", "(I)Z"⟩
abbrev cX0_barsAll : ByteArray := prog_2_method_3_code
def yX0_barsAll : MethodName := ⟨RX0, "barsAll", "(II)Z"⟩
abbrev cX0_wantsOf : ByteArray := prog_2_method_4_code
def yX0_wantsOf : MethodName := ⟨RX0, "wantsOf", "(I)I"⟩
abbrev cX0_boundOf : ByteArray := prog_2_method_5_code
def yX0_boundOf : MethodName := ⟨RX0, "boundOf", "(I)I"⟩
abbrev cX0_greatest : ByteArray := prog_2_method_6_code
def yX0_greatest : MethodName := ⟨RX0, "greatest", "()I"⟩
abbrev cX0_grow : ByteArray := prog_2_method_7_code
def yX0_grow : MethodName := ⟨RX0, "grow", "(III)V"⟩
abbrev cX0_consider : ByteArray := prog_2_method_8_code
def yX0_consider : MethodName := ⟨RX0, "consider", "(II)V"⟩
abbrev cX0_seat : ByteArray := prog_2_method_9_code
def yX0_seat : MethodName := ⟨RX0, "seat", "(II)I"⟩
abbrev cX0_sumUp : ByteArray := prog_2_method_10_code
def yX0_sumUp : MethodName := ⟨RX0, "sumUp", "(II)V"⟩
abbrev cX0_leastSum : ByteArray := prog_2_method_11_code
def yX0_leastSum : MethodName := ⟨RX0, "leastSum", "(III)I"⟩
abbrev cX0_boundOfSeated : ByteArray := prog_2_method_12_code
def yX0_boundOfSeated : MethodName := ⟨RX0, "boundOfSeated", "(I)I"⟩
def RX1 : String := "WavePlan$Frontier"
def TX1 : u_T := fun k => match k with
  | 0 => ("WavePlan$Frontier", "line", "I", false)
  | 1 => ("WavePlan$Frontier", "width", "I", false)
  | 2 => ("WavePlan$Frontier", "first", "I", false)
  | _ => ("WavePlan$Frontier", "second", "I", false)
def tyX1 : Nat → FieldType := fun k => match k with
  | 0 => .int
  | 1 => .int
  | 2 => .int
  | _ => .int
abbrev wsX10 : List Cond := u_ws RX1 TX1 4
theorem nmX1 : ∀ a, a < 4 → ∀ b, b < 4 → a ≠ b → (TX1 a).2.1 ≠ (TX1 b).2.1 := by decide +kernel
theorem tyX1_ok : ∀ k, k < 4 → parseFieldDescriptor (TX1 k).2.2.1 = some (tyX1 k) := by decide +kernel
abbrev cX1_init : ByteArray := prog_3_method_1_code
def yX1_init : MethodName := ⟨RX1, "<init>", "()V"⟩
abbrev cX1_tell : ByteArray := prog_3_method_2_code
def yX1_tell : MethodName := ⟨RX1, "tell", "(IIII)V"⟩
abbrev cX1_swap : ByteArray := prog_3_method_3_code
def yX1_swap : MethodName := ⟨RX1, "swap", "()V"⟩
abbrev cX1_allows : ByteArray := prog_3_method_4_code
def yX1_allows : MethodName := ⟨RX1, "allows", "(LWavePlan$Mast;)I"⟩
def RX2 : String := "WavePlan$Judge"
def TX2 : u_T := fun k => match k with
  | 0 => ("WavePlan$Judge", "land", "LWavePlan$Land;", true)
  | _ => ("WavePlan$Judge", "cost", "[I", true)
def tyX2 : Nat → FieldType := fun k => match k with
  | 0 => .object "WavePlan$Land"
  | _ => .array .int
abbrev wsX20 : List Cond := u_ws RX2 TX2 2
theorem nmX2 : ∀ a, a < 2 → ∀ b, b < 2 → a ≠ b → (TX2 a).2.1 ≠ (TX2 b).2.1 := by decide +kernel
theorem tyX2_ok : ∀ k, k < 2 → parseFieldDescriptor (TX2 k).2.2.1 = some (tyX2 k) := by decide +kernel
abbrev cX2_init : ByteArray := prog_4_method_1_code
def yX2_init : MethodName := ⟨RX2, "<init>", "(LWavePlan$Land;)V"⟩
abbrev cX2_served : ByteArray := prog_4_method_2_code
def yX2_served : MethodName := ⟨RX2, "served", "([I)I"⟩
abbrev cX2_totalHarm : ByteArray := prog_4_method_3_code
def yX2_totalHarm : MethodName := ⟨RX2, "totalHarm", "([I)I"⟩
abbrev cX2_lackOf : ByteArray := prog_4_method_4_code
def yX2_lackOf : MethodName := ⟨RX2, "lackOf", "([III)I"⟩
abbrev cX2_lackAt : ByteArray := prog_4_method_5_code
def yX2_lackAt : MethodName := ⟨RX2, "lackAt", "(IIII)I"⟩
abbrev cX2_lackingTwos : ByteArray := prog_4_method_6_code
def yX2_lackingTwos : MethodName := ⟨RX2, "lackingTwos", "([I)I"⟩
abbrev cX2_lacks : ByteArray := prog_4_method_7_code
def yX2_lacks : MethodName := ⟨RX2, "lacks", "([I)I"⟩
abbrev cX2_sums : ByteArray := prog_4_method_8_code
def yX2_sums : MethodName := ⟨RX2, "sums", "([I)I"⟩
abbrev cX2_sumTogether : ByteArray := prog_4_method_9_code
def yX2_sumTogether : MethodName := ⟨RX2, "sumTogether", "([IIII)Z"⟩
abbrev cX2_sumsOfThree : ByteArray := prog_4_method_10_code
def yX2_sumsOfThree : MethodName := ⟨RX2, "sumsOfThree", "([IIII)I"⟩
abbrev cX2_strayBits : ByteArray := prog_4_method_11_code
def yX2_strayBits : MethodName := ⟨RX2, "strayBits", "([I)I"⟩
abbrev cX2_isClean : ByteArray := prog_4_method_12_code
def yX2_isClean : MethodName := ⟨RX2, "isClean", "([I)Z"⟩
abbrev cX2_freeChannels : ByteArray := prog_4_method_13_code
def yX2_freeChannels : MethodName := ⟨RX2, "freeChannels", "([III)I"⟩
abbrev cX2_sumMates : ByteArray := prog_4_method_14_code
def yX2_sumMates : MethodName := ⟨RX2, "sumMates", "([IIII)Z"⟩
abbrev cX2_tooNear : ByteArray := prog_4_method_15_code
def yX2_tooNear : MethodName := ⟨RX2, "tooNear", "([III)J"⟩
abbrev cX2_sumTargets : ByteArray := prog_4_method_16_code
def yX2_sumTargets : MethodName := ⟨RX2, "sumTargets", "([III)J"⟩
abbrev cX2_bitOf : ByteArray := prog_4_method_17_code
def yX2_bitOf : MethodName := ⟨RX2, "bitOf", "(I)J"⟩
abbrev cX2_weigh : ByteArray := prog_4_method_18_code
def yX2_weigh : MethodName := ⟨RX2, "weigh", "([II)[I"⟩
abbrev cX2_addLacks : ByteArray := prog_4_method_19_code
def yX2_addLacks : MethodName := ⟨RX2, "addLacks", "([III)V"⟩
abbrev cX2_addSums : ByteArray := prog_4_method_20_code
def yX2_addSums : MethodName := ⟨RX2, "addSums", "([IIII)V"⟩
abbrev cX2_addSumAt : ByteArray := prog_4_method_21_code
def yX2_addSumAt : MethodName := ⟨RX2, "addSumAt", "(II)V"⟩
def RX3 : String := "WavePlan$Land"
def TX3 : u_T := fun k => match k with
  | 0 => ("WavePlan$Land", "masts", "[LWavePlan$Mast;", true)
  | 1 => ("WavePlan$Land", "mastOf", "[I", true)
  | 2 => ("WavePlan$Land", "told", "[I", true)
  | 3 => ("WavePlan$Land", "table", "LWavePlan$Table;", true)
  | 4 => ("WavePlan$Land", "frontier", "LWavePlan$Frontier;", true)
  | 5 => ("WavePlan$Land", "bars", "[I", true)
  | 6 => ("WavePlan$Land", "near", "[I", true)
  | 7 => ("WavePlan$Land", "mastCount", "I", false)
  | 8 => ("WavePlan$Land", "wantCount", "I", false)
  | 9 => ("WavePlan$Land", "ownBar", "I", false)
  | _ => ("WavePlan$Land", "sumReach", "I", false)
def tyX3 : Nat → FieldType := fun k => match k with
  | 0 => .array (.object "WavePlan$Mast")
  | 1 => .array .int
  | 2 => .array .int
  | 3 => .object "WavePlan$Table"
  | 4 => .object "WavePlan$Frontier"
  | 5 => .array .int
  | 6 => .array .int
  | 7 => .int
  | 8 => .int
  | 9 => .int
  | _ => .int
abbrev wsX30 : List Cond := u_ws RX3 TX3 11
theorem nmX3 : ∀ a, a < 11 → ∀ b, b < 11 → a ≠ b → (TX3 a).2.1 ≠ (TX3 b).2.1 := by decide +kernel
theorem tyX3_ok : ∀ k, k < 11 → parseFieldDescriptor (TX3 k).2.2.1 = some (tyX3 k) := by decide +kernel
abbrev cX3_init : ByteArray := prog_5_method_1_code
def yX3_init : MethodName := ⟨RX3, "<init>", "()V"⟩
abbrev cX3_hasMast : ByteArray := prog_5_method_2_code
def yX3_hasMast : MethodName := ⟨RX3, "hasMast", "(I)Z"⟩
abbrev cX3_hasWant : ByteArray := prog_5_method_3_code
def yX3_hasWant : MethodName := ⟨RX3, "hasWant", "(I)Z"⟩
abbrev cX3_addMast : ByteArray := prog_5_method_4_code
def yX3_addMast : MethodName := ⟨RX3, "addMast", "(IIII)I"⟩
abbrev cX3_shift : ByteArray := prog_5_method_5_code
def yX3_shift : MethodName := ⟨RX3, "shift", "(II)I"⟩
abbrev cX3_measure : ByteArray := prog_5_method_6_code
def yX3_measure : MethodName := ⟨RX3, "measure", "()V"⟩
abbrev cX3_freshBar : ByteArray := prog_5_method_7_code
def yX3_freshBar : MethodName := ⟨RX3, "freshBar", "(II)I"⟩
abbrev cX3_square : ByteArray := prog_5_method_8_code
def yX3_square : MethodName := ⟨RX3, "square", "(II)I"⟩
abbrev cX3_barOf : ByteArray := prog_5_method_9_code
def yX3_barOf : MethodName := ⟨RX3, "barOf", "(II)I"⟩
abbrev cX3_barOfWants : ByteArray := prog_5_method_10_code
def yX3_barOfWants : MethodName := ⟨RX3, "barOfWants", "(II)I"⟩
abbrev cX3_areIn : ByteArray := prog_5_method_11_code
def yX3_areIn : MethodName := ⟨RX3, "areIn", "(III)Z"⟩
abbrev cX3_kindOfWant : ByteArray := prog_5_method_12_code
def yX3_kindOfWant : MethodName := ⟨RX3, "kindOfWant", "(I)I"⟩
abbrev cX3_gapOf : ByteArray := prog_5_method_13_code
def yX3_gapOf : MethodName := ⟨RX3, "gapOf", "(I)I"⟩
abbrev cX3_allowed : ByteArray := prog_5_method_14_code
def yX3_allowed : MethodName := ⟨RX3, "allowed", "(I)I"⟩
abbrev cX3_barredTwos : ByteArray := prog_5_method_15_code
def yX3_barredTwos : MethodName := ⟨RX3, "barredTwos", "()I"⟩
abbrev cX3_threesIn : ByteArray := prog_5_method_16_code
def yX3_threesIn : MethodName := ⟨RX3, "threesIn", "()I"⟩
abbrev cX3_parts : ByteArray := prog_5_method_17_code
def yX3_parts : MethodName := ⟨RX3, "parts", "()I"⟩
abbrev cX3_partOf : ByteArray := prog_5_method_18_code
def yX3_partOf : MethodName := ⟨RX3, "partOf", "(I)I"⟩
abbrev cX3_partAround : ByteArray := prog_5_method_19_code
def yX3_partAround : MethodName := ⟨RX3, "partAround", "(I)I"⟩
abbrev cX3_joinedTo : ByteArray := prog_5_method_20_code
def yX3_joinedTo : MethodName := ⟨RX3, "joinedTo", "(I)I"⟩
def RX4 : String := "WavePlan$Mast"
def TX4 : u_T := fun k => match k with
  | 0 => ("WavePlan$Mast", "number", "I", false)
  | 1 => ("WavePlan$Mast", "kind", "I", false)
  | 2 => ("WavePlan$Mast", "x", "I", false)
  | 3 => ("WavePlan$Mast", "y", "I", false)
  | 4 => ("WavePlan$Mast", "strength", "I", false)
  | 5 => ("WavePlan$Mast", "wants", "I", false)
  | 6 => ("WavePlan$Mast", "firstWant", "I", false)
  | 7 => ("WavePlan$Mast", "channels", "I", false)
  | _ => ("WavePlan$Mast", "distance", "I", false)
def tyX4 : Nat → FieldType := fun k => match k with
  | 0 => .int
  | 1 => .int
  | 2 => .int
  | 3 => .int
  | 4 => .int
  | 5 => .int
  | 6 => .int
  | 7 => .int
  | _ => .int
abbrev wsX40 : List Cond := u_ws RX4 TX4 9
theorem nmX4 : ∀ a, a < 9 → ∀ b, b < 9 → a ≠ b → (TX4 a).2.1 ≠ (TX4 b).2.1 := by decide +kernel
theorem tyX4_ok : ∀ k, k < 9 → parseFieldDescriptor (TX4 k).2.2.1 = some (tyX4 k) := by decide +kernel
abbrev cX4_init : ByteArray := prog_6_method_1_code
def yX4_init : MethodName := ⟨RX4, "<init>", "()V"⟩
abbrev cX4_begin : ByteArray := prog_6_method_2_code
def yX4_begin : MethodName := ⟨RX4, "begin", "(IIIIII)V"⟩
abbrev cX4_goTo : ByteArray := prog_6_method_3_code
def yX4_goTo : MethodName := ⟨RX4, "goTo", "(I)V"⟩
abbrev cX4_takeAll : ByteArray := prog_6_method_4_code
def yX4_takeAll : MethodName := ⟨RX4, "takeAll", "(LWavePlan$Mast;)V"⟩
abbrev cX4_trait : ByteArray := prog_6_method_5_code
def yX4_trait : MethodName := ⟨RX4, "trait", "(I)I"⟩
abbrev cX4_heaviness : ByteArray := prog_6_method_6_code
def yX4_heaviness : MethodName := ⟨RX4, "heaviness", "()I"⟩
abbrev cX4_fail : ByteArray := prog_6_method_7_code
def yX4_fail : MethodName := ⟨RX4, "fail", "()V"⟩
def RX5 : String := "WavePlan$Mender"
def TX5 : u_T := fun k => match k with
  | 0 => ("WavePlan$Mender", "land", "LWavePlan$Land;", true)
  | _ => ("WavePlan$Mender", "judge", "LWavePlan$Judge;", true)
def tyX5 : Nat → FieldType := fun k => match k with
  | 0 => .object "WavePlan$Land"
  | _ => .object "WavePlan$Judge"
abbrev wsX50 : List Cond := u_ws RX5 TX5 2
theorem nmX5 : ∀ a, a < 2 → ∀ b, b < 2 → a ≠ b → (TX5 a).2.1 ≠ (TX5 b).2.1 := by decide +kernel
theorem tyX5_ok : ∀ k, k < 2 → parseFieldDescriptor (TX5 k).2.2.1 = some (tyX5 k) := by decide +kernel
abbrev cX5_init : ByteArray := prog_7_method_1_code
def yX5_init : MethodName := ⟨RX5, "<init>", "(LWavePlan$Land;LWavePlan$Judge;)V"⟩
abbrev cX5_canChange : ByteArray := prog_7_method_2_code
def yX5_canChange : MethodName := ⟨RX5, "canChange", "([II)Z"⟩
abbrev cX5_improve : ByteArray := prog_7_method_3_code
def yX5_improve : MethodName := ⟨RX5, "improve", "([I)Z"⟩
abbrev cX5_changeOne : ByteArray := prog_7_method_4_code
def yX5_changeOne : MethodName := ⟨RX5, "changeOne", "([I)Z"⟩
abbrev cX5_changeTwo : ByteArray := prog_7_method_5_code
def yX5_changeTwo : MethodName := ⟨RX5, "changeTwo", "([I)Z"⟩
abbrev cX5_changeBoth : ByteArray := prog_7_method_6_code
def yX5_changeBoth : MethodName := ⟨RX5, "changeBoth", "([III)Z"⟩
abbrev cX5_leastFree : ByteArray := prog_7_method_7_code
def yX5_leastFree : MethodName := ⟨RX5, "leastFree", "([III)I"⟩
def RX6 : String := "WavePlan$Shelf"
def TX6 : u_T := fun k => match k with
  | 0 => ("WavePlan$Shelf", "mast", "LWavePlan$Mast;", true)
  | 1 => ("WavePlan$Shelf", "bytes", "[B", true)
  | 2 => ("WavePlan$Shelf", "longs", "[J", true)
  | 3 => ("WavePlan$Shelf", "held", "I", false)
  | _ => ("WavePlan$Shelf", "length", "I", false)
def tyX6 : Nat → FieldType := fun k => match k with
  | 0 => .object "WavePlan$Mast"
  | 1 => .array .byte
  | 2 => .array .long
  | 3 => .int
  | _ => .int
abbrev wsX60 : List Cond := u_ws RX6 TX6 5
theorem nmX6 : ∀ a, a < 5 → ∀ b, b < 5 → a ≠ b → (TX6 a).2.1 ≠ (TX6 b).2.1 := by decide +kernel
theorem tyX6_ok : ∀ k, k < 5 → parseFieldDescriptor (TX6 k).2.2.1 = some (tyX6 k) := by decide +kernel
abbrev cX6_init : ByteArray := prog_8_method_1_code
def yX6_init : MethodName := ⟨RX6, "<init>", "()V"⟩
abbrev cX6_clear : ByteArray := prog_8_method_2_code
def yX6_clear : MethodName := ⟨RX6, "clear", "()V"⟩
abbrev cX6_takeMast : ByteArray := prog_8_method_3_code
def yX6_takeMast : MethodName := ⟨RX6, "takeMast", "(LWavePlan$Mast;)V"⟩
abbrev cX6_takeChannels : ByteArray := prog_8_method_4_code
def yX6_takeChannels : MethodName := ⟨RX6, "takeChannels", "([II)V"⟩
abbrev cX6_takeSquares : ByteArray := prog_8_method_5_code
def yX6_takeSquares : MethodName := ⟨RX6, "takeSquares", "(LWavePlan$Land;I)V"⟩
abbrev cX6_takeZeros : ByteArray := prog_8_method_6_code
def yX6_takeZeros : MethodName := ⟨RX6, "takeZeros", "(II)V"⟩
abbrev cX6_isRow : ByteArray := prog_8_method_7_code
def yX6_isRow : MethodName := ⟨RX6, "isRow", "()Z"⟩
abbrev cX6_hasRange : ByteArray := prog_8_method_8_code
def yX6_hasRange : MethodName := ⟨RX6, "hasRange", "(II)Z"⟩
abbrev cX6_at : ByteArray := prog_8_method_9_code
def yX6_at : MethodName := ⟨RX6, "at", "(I)J"⟩
abbrev cX6_copyTo : ByteArray := prog_8_method_10_code
def yX6_copyTo : MethodName := ⟨RX6, "copyTo", "(ILWavePlan$Shelf;II)V"⟩
def RX7 : String := "WavePlan$Table"
def TX7 : u_T := fun k => match k with
  | 0 => ("WavePlan$Table", "limits", "[I", true)
  | 1 => ("WavePlan$Table", "powers", "[I", true)
  | 2 => ("WavePlan$Table", "bars", "[I", true)
  | _ => ("WavePlan$Table", "rows", "I", false)
def tyX7 : Nat → FieldType := fun k => match k with
  | 0 => .array .int
  | 1 => .array .int
  | 2 => .array .int
  | _ => .int
abbrev wsX70 : List Cond := u_ws RX7 TX7 4
theorem nmX7 : ∀ a, a < 4 → ∀ b, b < 4 → a ≠ b → (TX7 a).2.1 ≠ (TX7 b).2.1 := by decide +kernel
theorem tyX7_ok : ∀ k, k < 4 → parseFieldDescriptor (TX7 k).2.2.1 = some (tyX7 k) := by decide +kernel
abbrev cX7_init : ByteArray := prog_9_method_1_code
def yX7_init : MethodName := ⟨RX7, "<init>", "()V"⟩
abbrev cX7_add : ByteArray := prog_9_method_2_code
def yX7_add : MethodName := ⟨RX7, "add", "(III)V"⟩
abbrev cX7_greatest : ByteArray := prog_9_method_3_code
def yX7_greatest : MethodName := ⟨RX7, "greatest", "(II)I"⟩
def RX8 : String := "WavePlan$Trier"
def TX8 : u_T := fun k => match k with
  | 0 => ("WavePlan$Trier", "land", "LWavePlan$Land;", true)
  | 1 => ("WavePlan$Trier", "judge", "LWavePlan$Judge;", true)
  | 2 => ("WavePlan$Trier", "trial", "[I", true)
  | 3 => ("WavePlan$Trier", "next", "[I", true)
  | 4 => ("WavePlan$Trier", "usable", "[I", true)
  | _ => ("WavePlan$Trier", "made", "I", false)
def tyX8 : Nat → FieldType := fun k => match k with
  | 0 => .object "WavePlan$Land"
  | 1 => .object "WavePlan$Judge"
  | 2 => .array .int
  | 3 => .array .int
  | 4 => .array .int
  | _ => .int
abbrev wsX80 : List Cond := u_ws RX8 TX8 6
theorem nmX8 : ∀ a, a < 6 → ∀ b, b < 6 → a ≠ b → (TX8 a).2.1 ≠ (TX8 b).2.1 := by decide +kernel
theorem tyX8_ok : ∀ k, k < 6 → parseFieldDescriptor (TX8 k).2.2.1 = some (tyX8 k) := by decide +kernel
abbrev cX8_init : ByteArray := prog_10_method_1_code
def yX8_init : MethodName := ⟨RX8, "<init>", "(LWavePlan$Land;LWavePlan$Judge;)V"⟩
abbrev cX8_search : ByteArray := prog_10_method_2_code
def yX8_search : MethodName := ⟨RX8, "search", "(I)I"⟩
abbrev cX8_handOver : ByteArray := prog_10_method_3_code
def yX8_handOver : MethodName := ⟨RX8, "handOver", "([I)V"⟩
abbrev cX8_open : ByteArray := prog_10_method_4_code
def yX8_open : MethodName := ⟨RX8, "open", "(II)V"⟩
abbrev cX8_takes : ByteArray := prog_10_method_5_code
def yX8_takes : MethodName := ⟨RX8, "takes", "(I)Z"⟩
abbrev cX8_below : ByteArray := prog_10_method_6_code
def yX8_below : MethodName := ⟨RX8, "below", "(I)I"⟩
def RX9 : String := "WavePlan"
def TX9 : u_T := fun k => match k with
  | 0 => ("WavePlan", "land", "LWavePlan$Land;", true)
  | 1 => ("WavePlan", "judge", "LWavePlan$Judge;", true)
  | 2 => ("WavePlan", "trier", "LWavePlan$Trier;", true)
  | 3 => ("WavePlan", "mender", "LWavePlan$Mender;", true)
  | 4 => ("WavePlan", "crowds", "LWavePlan$Crowds;", true)
  | 5 => ("WavePlan", "shelves", "[LWavePlan$Shelf;", true)
  | 6 => ("WavePlan", "chosen", "[I", true)
  | 7 => ("WavePlan", "imaged", "[I", true)
  | _ => ("WavePlan", "imagedWants", "I", false)
def tyX9 : Nat → FieldType := fun k => match k with
  | 0 => .object "WavePlan$Land"
  | 1 => .object "WavePlan$Judge"
  | 2 => .object "WavePlan$Trier"
  | 3 => .object "WavePlan$Mender"
  | 4 => .object "WavePlan$Crowds"
  | 5 => .array (.object "WavePlan$Shelf")
  | 6 => .array .int
  | 7 => .array .int
  | _ => .int
abbrev wsX90 : List Cond := u_ws RX9 TX9 9
theorem nmX9 : ∀ a, a < 9 → ∀ b, b < 9 → a ≠ b → (TX9 a).2.1 ≠ (TX9 b).2.1 := by decide +kernel
theorem tyX9_ok : ∀ k, k < 9 → parseFieldDescriptor (TX9 k).2.2.1 = some (tyX9 k) := by decide +kernel
abbrev cX9_init : ByteArray := prog_1_method_1_code
def yX9_init : MethodName := ⟨RX9, "<init>", "()V"⟩
abbrev cX9_mast : ByteArray := prog_1_method_2_code
def yX9_mast : MethodName := ⟨RX9, "mast", "(IIII)I"⟩
abbrev cX9_move : ByteArray := prog_1_method_3_code
def yX9_move : MethodName := ⟨RX9, "move", "(II)I"⟩
abbrev cX9_list : ByteArray := prog_1_method_4_code
def yX9_list : MethodName := ⟨RX9, "list", "(II)I"⟩
abbrev cX9_gap : ByteArray := prog_1_method_5_code
def yX9_gap : MethodName := ⟨RX9, "gap", "(II)I"⟩
abbrev cX9_stay : ByteArray := prog_1_method_6_code
def yX9_stay : MethodName := ⟨RX9, "stay", "(II)I"⟩
abbrev cX9_row : ByteArray := prog_1_method_7_code
def yX9_row : MethodName := ⟨RX9, "row", "(III)I"⟩
abbrev cX9_own : ByteArray := prog_1_method_8_code
def yX9_own : MethodName := ⟨RX9, "own", "(II)I"⟩
abbrev cX9_border : ByteArray := prog_1_method_9_code
def yX9_border : MethodName := ⟨RX9, "border", "(IIII)I"⟩
abbrev cX9_turn : ByteArray := prog_1_method_10_code
def yX9_turn : MethodName := ⟨RX9, "turn", "()I"⟩
abbrev cX9_bar : ByteArray := prog_1_method_11_code
def yX9_bar : MethodName := ⟨RX9, "bar", "(II)I"⟩
abbrev cX9_may : ByteArray := prog_1_method_12_code
def yX9_may : MethodName := ⟨RX9, "may", "(II)I"⟩
abbrev cX9_set : ByteArray := prog_1_method_13_code
def yX9_set : MethodName := ⟨RX9, "set", "(II)I"⟩
abbrev cX9_channel : ByteArray := prog_1_method_14_code
def yX9_channel : MethodName := ⟨RX9, "channel", "(I)I"⟩
abbrev cX9_of : ByteArray := prog_1_method_15_code
def yX9_of : MethodName := ⟨RX9, "of", "(I)I"⟩
abbrev cX9_harm : ByteArray := prog_1_method_16_code
def yX9_harm : MethodName := ⟨RX9, "harm", "()I"⟩
abbrev cX9_kept : ByteArray := prog_1_method_17_code
def yX9_kept : MethodName := ⟨RX9, "kept", "()I"⟩
abbrev cX9_broken : ByteArray := prog_1_method_18_code
def yX9_broken : MethodName := ⟨RX9, "broken", "(I)I"⟩
abbrev cX9_pair : ByteArray := prog_1_method_19_code
def yX9_pair : MethodName := ⟨RX9, "pair", "(II)I"⟩
abbrev cX9_plan : ByteArray := prog_1_method_20_code
def yX9_plan : MethodName := ⟨RX9, "plan", "(I)I"⟩
abbrev cX9_tries : ByteArray := prog_1_method_21_code
def yX9_tries : MethodName := ⟨RX9, "tries", "()I"⟩
abbrev cX9_least : ByteArray := prog_1_method_22_code
def yX9_least : MethodName := ⟨RX9, "least", "()I"⟩
abbrev cX9_span : ByteArray := prog_1_method_23_code
def yX9_span : MethodName := ⟨RX9, "span", "()I"⟩
abbrev cX9_better : ByteArray := prog_1_method_24_code
def yX9_better : MethodName := ⟨RX9, "better", "(I)I"⟩
abbrev cX9_fewest : ByteArray := prog_1_method_25_code
def yX9_fewest : MethodName := ⟨RX9, "fewest", "(I)I"⟩
abbrev cX9_bound : ByteArray := prog_1_method_26_code
def yX9_bound : MethodName := ⟨RX9, "bound", "(I)I"⟩
abbrev cX9_crowd : ByteArray := prog_1_method_27_code
def yX9_crowd : MethodName := ⟨RX9, "crowd", "()I"⟩
abbrev cX9_part : ByteArray := prog_1_method_28_code
def yX9_part : MethodName := ⟨RX9, "part", "(I)I"⟩
abbrev cX9_image : ByteArray := prog_1_method_29_code
def yX9_image : MethodName := ⟨RX9, "image", "()I"⟩
abbrev cX9_restore : ByteArray := prog_1_method_30_code
def yX9_restore : MethodName := ⟨RX9, "restore", "()I"⟩
abbrev cX9_count : ByteArray := prog_1_method_31_code
def yX9_count : MethodName := ⟨RX9, "count", "(I)I"⟩
abbrev cX9_look : ByteArray := prog_1_method_32_code
def yX9_look : MethodName := ⟨RX9, "look", "(II)I"⟩
abbrev cX9_keep : ByteArray := prog_1_method_33_code
def yX9_keep : MethodName := ⟨RX9, "keep", "(III)I"⟩
abbrev cX9_make : ByteArray := prog_1_method_34_code
def yX9_make : MethodName := ⟨RX9, "make", "(III)I"⟩
abbrev cX9_element : ByteArray := prog_1_method_35_code
def yX9_element : MethodName := ⟨RX9, "element", "(II)J"⟩
abbrev cX9_copy : ByteArray := prog_1_method_36_code
def yX9_copy : MethodName := ⟨RX9, "copy", "(IIIII)I"⟩
abbrev cX9_weight : ByteArray := prog_1_method_37_code
def yX9_weight : MethodName := ⟨RX9, "weight", "(I)I"⟩
abbrev cX9_toss : ByteArray := prog_1_method_38_code
def yX9_toss : MethodName := ⟨RX9, "toss", "(I)I"⟩
abbrev cX9_refusalOfMast : ByteArray := prog_1_method_39_code
def yX9_refusalOfMast : MethodName := ⟨RX9, "refusalOfMast", "(I)I"⟩
abbrev cX9_isShelf : ByteArray := prog_1_method_40_code
def yX9_isShelf : MethodName := ⟨RX9, "isShelf", "(I)Z"⟩
abbrev cX9_isPlace : ByteArray := prog_1_method_41_code
def yX9_isPlace : MethodName := ⟨RX9, "isPlace", "(I)Z"⟩
abbrev cX9_within : ByteArray := prog_1_method_42_code
def yX9_within : MethodName := ⟨RX9, "within", "(III)Z"⟩
def RX10 : String := "WavePlanModel"
def TX10 : u_T := fun k => match k with
  | 0 => ("WavePlanModel", "thrown", "I", false)
  | 1 => ("WavePlanModel", "masts", "I", false)
  | 2 => ("WavePlanModel", "kind", "[I", true)
  | 3 => ("WavePlanModel", "px", "[I", true)
  | 4 => ("WavePlanModel", "py", "[I", true)
  | 5 => ("WavePlanModel", "power", "[I", true)
  | 6 => ("WavePlanModel", "many", "[I", true)
  | 7 => ("WavePlanModel", "firstWant", "[I", true)
  | 8 => ("WavePlanModel", "list", "[I", true)
  | 9 => ("WavePlanModel", "gap", "[I", true)
  | 10 => ("WavePlanModel", "wants", "I", false)
  | 11 => ("WavePlanModel", "mastOf", "[I", true)
  | 12 => ("WavePlanModel", "stays", "[I", true)
  | 13 => ("WavePlanModel", "has", "[I", true)
  | 14 => ("WavePlanModel", "rows", "I", false)
  | 15 => ("WavePlanModel", "rowLimit", "[I", true)
  | 16 => ("WavePlanModel", "rowPower", "[I", true)
  | 17 => ("WavePlanModel", "rowBar", "[I", true)
  | 18 => ("WavePlanModel", "own", "I", false)
  | 19 => ("WavePlanModel", "sums", "I", false)
  | 20 => ("WavePlanModel", "line", "I", false)
  | 21 => ("WavePlanModel", "border", "I", false)
  | 22 => ("WavePlanModel", "firstSet", "I", false)
  | 23 => ("WavePlanModel", "secondSet", "I", false)
  | 24 => ("WavePlanModel", "before", "[I", true)
  | 25 => ("WavePlanModel", "tries", "I", false)
  | 26 => ("WavePlanModel", "spent", "Z", false)
  | 27 => ("WavePlanModel", "kept", "[I", true)
  | 28 => ("WavePlanModel", "crowdWant", "[I", true)
  | 29 => ("WavePlanModel", "best", "[I", true)
  | 30 => ("WavePlanModel", "partOf", "[I", true)
  | 31 => ("WavePlanModel", "imageWants", "I", false)
  | 32 => ("WavePlanModel", "image", "[I", true)
  | 33 => ("WavePlanModel", "shelf", "[I", true)
  | 34 => ("WavePlanModel", "shelfSize", "[I", true)
  | 35 => ("WavePlanModel", "shelfWeight", "[I", true)
  | 36 => ("WavePlanModel", "shelfFailure", "[I", true)
  | 37 => ("WavePlanModel", "shelfRow", "[J", true)
  | _ => ("WavePlanModel", "between", "[J", true)
def tyX10 : Nat → FieldType := fun k => match k with
  | 0 => .int
  | 1 => .int
  | 2 => .array .int
  | 3 => .array .int
  | 4 => .array .int
  | 5 => .array .int
  | 6 => .array .int
  | 7 => .array .int
  | 8 => .array .int
  | 9 => .array .int
  | 10 => .int
  | 11 => .array .int
  | 12 => .array .int
  | 13 => .array .int
  | 14 => .int
  | 15 => .array .int
  | 16 => .array .int
  | 17 => .array .int
  | 18 => .int
  | 19 => .int
  | 20 => .int
  | 21 => .int
  | 22 => .int
  | 23 => .int
  | 24 => .array .int
  | 25 => .int
  | 26 => .boolean
  | 27 => .array .int
  | 28 => .array .int
  | 29 => .array .int
  | 30 => .array .int
  | 31 => .int
  | 32 => .array .int
  | 33 => .array .int
  | 34 => .array .int
  | 35 => .array .int
  | 36 => .array .int
  | 37 => .array .long
  | _ => .array .long
abbrev wsX100 : List Cond := u_ws RX10 TX10 39
theorem nmX10 : ∀ a, a < 39 → ∀ b, b < 39 → a ≠ b → (TX10 a).2.1 ≠ (TX10 b).2.1 := by decide +kernel
theorem tyX10_ok : ∀ k, k < 39 → parseFieldDescriptor (TX10 k).2.2.1 = some (tyX10 k) := by decide +kernel
abbrev cX10_init : ByteArray := prog_12_method_1_code
def yX10_init : MethodName := ⟨RX10, "<init>", "()V"⟩
abbrev cX10_thrown : ByteArray := prog_12_method_2_code
def yX10_thrown : MethodName := ⟨RX10, "thrown", "()I"⟩
abbrev cX10_isIn : ByteArray := prog_12_method_3_code
def yX10_isIn : MethodName := ⟨RX10, "isIn", "(JJJ)Z"⟩
abbrev cX10_isMast : ByteArray := prog_12_method_4_code
def yX10_isMast : MethodName := ⟨RX10, "isMast", "(I)Z"⟩
abbrev cX10_isWant : ByteArray := prog_12_method_5_code
def yX10_isWant : MethodName := ⟨RX10, "isWant", "(I)Z"⟩
abbrev cX10_isPlace : ByteArray := prog_12_method_6_code
def yX10_isPlace : MethodName := ⟨RX10, "isPlace", "(I)Z"⟩
abbrev cX10_isSet : ByteArray := prog_12_method_7_code
def yX10_isSet : MethodName := ⟨RX10, "isSet", "(I)Z"⟩
abbrev cX10_mast : ByteArray := prog_12_method_8_code
def yX10_mast : MethodName := ⟨RX10, "mast", "(IIII)I"⟩
abbrev cX10_square : ByteArray := prog_12_method_9_code
def yX10_square : MethodName := ⟨RX10, "square", "(II)I"⟩
abbrev cX10_barOf : ByteArray := prog_12_method_10_code
def yX10_barOf : MethodName := ⟨RX10, "barOf", "(II)I"⟩
abbrev cX10_move : ByteArray := prog_12_method_11_code
def yX10_move : MethodName := ⟨RX10, "move", "(II)I"⟩
abbrev cX10_countBits : ByteArray := prog_12_method_12_code
def yX10_countBits : MethodName := ⟨RX10, "countBits", "(I)I"⟩
abbrev cX10_list : ByteArray := prog_12_method_13_code
def yX10_list : MethodName := ⟨RX10, "list", "(II)I"⟩
abbrev cX10_gap : ByteArray := prog_12_method_14_code
def yX10_gap : MethodName := ⟨RX10, "gap", "(II)I"⟩
abbrev cX10_stay : ByteArray := prog_12_method_15_code
def yX10_stay : MethodName := ⟨RX10, "stay", "(II)I"⟩
abbrev cX10_row : ByteArray := prog_12_method_16_code
def yX10_row : MethodName := ⟨RX10, "row", "(III)I"⟩
abbrev cX10_own : ByteArray := prog_12_method_17_code
def yX10_own : MethodName := ⟨RX10, "own", "(II)I"⟩
abbrev cX10_border : ByteArray := prog_12_method_18_code
def yX10_border : MethodName := ⟨RX10, "border", "(IIII)I"⟩
abbrev cX10_isFree : ByteArray := prog_12_method_19_code
def yX10_isFree : MethodName := ⟨RX10, "isFree", "(II)Z"⟩
abbrev cX10_isListed : ByteArray := prog_12_method_20_code
def yX10_isListed : MethodName := ⟨RX10, "isListed", "(II)Z"⟩
abbrev cX10_mayHave : ByteArray := prog_12_method_21_code
def yX10_mayHave : MethodName := ⟨RX10, "mayHave", "(II)Z"⟩
abbrev cX10_turn : ByteArray := prog_12_method_22_code
def yX10_turn : MethodName := ⟨RX10, "turn", "()I"⟩
abbrev cX10_bar : ByteArray := prog_12_method_23_code
def yX10_bar : MethodName := ⟨RX10, "bar", "(II)I"⟩
abbrev cX10_may : ByteArray := prog_12_method_24_code
def yX10_may : MethodName := ⟨RX10, "may", "(II)I"⟩
abbrev cX10_set : ByteArray := prog_12_method_25_code
def yX10_set : MethodName := ⟨RX10, "set", "(II)I"⟩
abbrev cX10_channel : ByteArray := prog_12_method_26_code
def yX10_channel : MethodName := ⟨RX10, "channel", "(I)I"⟩
abbrev cX10_of : ByteArray := prog_12_method_27_code
def yX10_of : MethodName := ⟨RX10, "of", "(I)I"⟩
abbrev cX10_channelOf : ByteArray := prog_12_method_28_code
def yX10_channelOf : MethodName := ⟨RX10, "channelOf", "(II)I"⟩
abbrev cX10_channelsOf : ByteArray := prog_12_method_29_code
def yX10_channelsOf : MethodName := ⟨RX10, "channelsOf", "(I)I"⟩
abbrev cX10_lack : ByteArray := prog_12_method_30_code
def yX10_lack : MethodName := ⟨RX10, "lack", "(II)I"⟩
abbrev cX10_areIn : ByteArray := prog_12_method_31_code
def yX10_areIn : MethodName := ⟨RX10, "areIn", "(III)Z"⟩
abbrev cX10_middles : ByteArray := prog_12_method_32_code
def yX10_middles : MethodName := ⟨RX10, "middles", "(III)I"⟩
abbrev cX10_brokenOf : ByteArray := prog_12_method_33_code
def yX10_brokenOf : MethodName := ⟨RX10, "brokenOf", "(I)I"⟩
abbrev cX10_harmNow : ByteArray := prog_12_method_34_code
def yX10_harmNow : MethodName := ⟨RX10, "harmNow", "()I"⟩
abbrev cX10_harm : ByteArray := prog_12_method_35_code
def yX10_harm : MethodName := ⟨RX10, "harm", "()I"⟩
abbrev cX10_kept : ByteArray := prog_12_method_36_code
def yX10_kept : MethodName := ⟨RX10, "kept", "()I"⟩
abbrev cX10_broken : ByteArray := prog_12_method_37_code
def yX10_broken : MethodName := ⟨RX10, "broken", "(I)I"⟩
abbrev cX10_pair : ByteArray := prog_12_method_38_code
def yX10_pair : MethodName := ⟨RX10, "pair", "(II)I"⟩
abbrev cX10_isFine : ByteArray := prog_12_method_39_code
def yX10_isFine : MethodName := ⟨RX10, "isFine", "(I)Z"⟩
abbrev cX10_isTaken : ByteArray := prog_12_method_40_code
def yX10_isTaken : MethodName := ⟨RX10, "isTaken", "(III)Z"⟩
abbrev cX10_tryBelow : ByteArray := prog_12_method_41_code
def yX10_tryBelow : MethodName := ⟨RX10, "tryBelow", "(I)Z"⟩
abbrev cX10_keepPlan : ByteArray := prog_12_method_42_code
def yX10_keepPlan : MethodName := ⟨RX10, "keepPlan", "()V"⟩
abbrev cX10_givePlan : ByteArray := prog_12_method_43_code
def yX10_givePlan : MethodName := ⟨RX10, "givePlan", "()V"⟩
abbrev cX10_plan : ByteArray := prog_12_method_44_code
def yX10_plan : MethodName := ⟨RX10, "plan", "(I)I"⟩
abbrev cX10_tries : ByteArray := prog_12_method_45_code
def yX10_tries : MethodName := ⟨RX10, "tries", "()I"⟩
abbrev cX10_least : ByteArray := prog_12_method_46_code
def yX10_least : MethodName := ⟨RX10, "least", "()I"⟩
abbrev cX10_span : ByteArray := prog_12_method_47_code
def yX10_span : MethodName := ⟨RX10, "span", "()I"⟩
abbrev cX10_isBettered : ByteArray := prog_12_method_48_code
def yX10_isBettered : MethodName := ⟨RX10, "isBettered", "()Z"⟩
abbrev cX10_better : ByteArray := prog_12_method_49_code
def yX10_better : MethodName := ⟨RX10, "better", "(I)I"⟩
abbrev cX10_isHealedBy : ByteArray := prog_12_method_50_code
def yX10_isHealedBy : MethodName := ⟨RX10, "isHealedBy", "(I)Z"⟩
abbrev cX10_isHealedByTwo : ByteArray := prog_12_method_51_code
def yX10_isHealedByTwo : MethodName := ⟨RX10, "isHealedByTwo", "()Z"⟩
abbrev cX10_fewest : ByteArray := prog_12_method_52_code
def yX10_fewest : MethodName := ⟨RX10, "fewest", "(I)I"⟩
abbrev cX10_wantsIn : ByteArray := prog_12_method_53_code
def yX10_wantsIn : MethodName := ⟨RX10, "wantsIn", "(I)I"⟩
abbrev cX10_isCrowd : ByteArray := prog_12_method_54_code
def yX10_isCrowd : MethodName := ⟨RX10, "isCrowd", "(I)Z"⟩
abbrev cX10_boundOf : ByteArray := prog_12_method_55_code
def yX10_boundOf : MethodName := ⟨RX10, "boundOf", "(I)I"⟩
abbrev cX10_bound : ByteArray := prog_12_method_56_code
def yX10_bound : MethodName := ⟨RX10, "bound", "(I)I"⟩
abbrev cX10_crowd : ByteArray := prog_12_method_57_code
def yX10_crowd : MethodName := ⟨RX10, "crowd", "()I"⟩
abbrev cX10_areNear : ByteArray := prog_12_method_58_code
def yX10_areNear : MethodName := ⟨RX10, "areNear", "(II)Z"⟩
abbrev cX10_findParts : ByteArray := prog_12_method_59_code
def yX10_findParts : MethodName := ⟨RX10, "findParts", "()I"⟩
abbrev cX10_part : ByteArray := prog_12_method_60_code
def yX10_part : MethodName := ⟨RX10, "part", "(I)I"⟩
abbrev cX10_withChannel : ByteArray := prog_12_method_61_code
def yX10_withChannel : MethodName := ⟨RX10, "withChannel", "()I"⟩
abbrev cX10_image : ByteArray := prog_12_method_62_code
def yX10_image : MethodName := ⟨RX10, "image", "()I"⟩
abbrev cX10_restore : ByteArray := prog_12_method_63_code
def yX10_restore : MethodName := ⟨RX10, "restore", "()I"⟩
abbrev cX10_bars : ByteArray := prog_12_method_64_code
def yX10_bars : MethodName := ⟨RX10, "bars", "()I"⟩
abbrev cX10_threes : ByteArray := prog_12_method_65_code
def yX10_threes : MethodName := ⟨RX10, "threes", "()I"⟩
abbrev cX10_count : ByteArray := prog_12_method_66_code
def yX10_count : MethodName := ⟨RX10, "count", "(I)I"⟩
abbrev cX10_look : ByteArray := prog_12_method_67_code
def yX10_look : MethodName := ⟨RX10, "look", "(II)I"⟩
abbrev cX10_isShelf : ByteArray := prog_12_method_68_code
def yX10_isShelf : MethodName := ⟨RX10, "isShelf", "(I)Z"⟩
abbrev cX10_weightOf : ByteArray := prog_12_method_69_code
def yX10_weightOf : MethodName := ⟨RX10, "weightOf", "(I)I"⟩
abbrev cX10_keep : ByteArray := prog_12_method_70_code
def yX10_keep : MethodName := ⟨RX10, "keep", "(III)I"⟩
abbrev cX10_make : ByteArray := prog_12_method_71_code
def yX10_make : MethodName := ⟨RX10, "make", "(III)I"⟩
abbrev cX10_element : ByteArray := prog_12_method_72_code
def yX10_element : MethodName := ⟨RX10, "element", "(II)J"⟩
abbrev cX10_hasPlaces : ByteArray := prog_12_method_73_code
def yX10_hasPlaces : MethodName := ⟨RX10, "hasPlaces", "(III)Z"⟩
abbrev cX10_copy : ByteArray := prog_12_method_74_code
def yX10_copy : MethodName := ⟨RX10, "copy", "(IIIII)I"⟩
abbrev cX10_denied : ByteArray := prog_12_method_75_code
def yX10_denied : MethodName := ⟨RX10, "denied", "(I)I"⟩
abbrev cX10_weight : ByteArray := prog_12_method_76_code
def yX10_weight : MethodName := ⟨RX10, "weight", "(I)I"⟩
abbrev cX10_toss : ByteArray := prog_12_method_77_code
def yX10_toss : MethodName := ⟨RX10, "toss", "(I)I"⟩
def RJx145de : String := "java/io/Serializable"
def TJx145de : u_T := fun k => match k with
  | _ => ("", "", "", false)
def tyJx145de : Nat → FieldType := fun k => match k with
  | _ => .int
abbrev wsJx145de0 : List Cond := u_ws RJx145de TJx145de 0
theorem nmJx145de : ∀ a, a < 0 → ∀ b, b < 0 → a ≠ b → (TJx145de a).2.1 ≠ (TJx145de b).2.1 := by decide +kernel
theorem tyJx145de_ok : ∀ k, k < 0 → parseFieldDescriptor (TJx145de k).2.2.1 = some (tyJx145de k) := by decide +kernel
def RJ6 : String := "java/lang/Integer"
def TJ6 : u_T := fun k => match k with
  | _ => ("", "", "", false)
def tyJ6 : Nat → FieldType := fun k => match k with
  | _ => .int
abbrev wsJ60 : List Cond := u_ws RJ6 TJ6 0
theorem nmJ6 : ∀ a, a < 0 → ∀ b, b < 0 → a ≠ b → (TJ6 a).2.1 ≠ (TJ6 b).2.1 := by decide +kernel
theorem tyJ6_ok : ∀ k, k < 0 → parseFieldDescriptor (TJ6 k).2.2.1 = some (tyJ6 k) := by decide +kernel
abbrev cJ6_bitCount_0f7a4 : ByteArray := prog_16_method_49_code
def yJ6_bitCount_0f7a4 : MethodName := ⟨RJ6, "bitCount", "(I)I"⟩
def RJ9 : String := "java/lang/Math"
def TJ9 : u_T := fun k => match k with
  | _ => ("", "", "", false)
def tyJ9 : Nat → FieldType := fun k => match k with
  | _ => .int
abbrev wsJ90 : List Cond := u_ws RJ9 TJ9 0
theorem nmJ9 : ∀ a, a < 0 → ∀ b, b < 0 → a ≠ b → (TJ9 a).2.1 ≠ (TJ9 b).2.1 := by decide +kernel
theorem tyJ9_ok : ∀ k, k < 0 → parseFieldDescriptor (TJ9 k).2.2.1 = some (tyJ9 k) := by decide +kernel
abbrev cJ9_abs_0f7a4 : ByteArray := prog_17_method_59_code
def yJ9_abs_0f7a4 : MethodName := ⟨RJ9, "abs", "(I)I"⟩
abbrev cJ9_max_7cf53 : ByteArray := prog_17_method_65_code
def yJ9_max_7cf53 : MethodName := ⟨RJ9, "max", "(II)I"⟩
abbrev cJ9_min_7cf53 : ByteArray := prog_17_method_69_code
def yJ9_min_7cf53 : MethodName := ⟨RJ9, "min", "(II)I"⟩
def RJ0 : String := "java/lang/String"
def TJ0 : u_T := fun k => match k with
  | _ => ("", "", "", false)
def tyJ0 : Nat → FieldType := fun k => match k with
  | _ => .int
abbrev wsJ00 : List Cond := u_ws RJ0 TJ0 0
theorem nmJ0 : ∀ a, a < 0 → ∀ b, b < 0 → a ≠ b → (TJ0 a).2.1 ≠ (TJ0 b).2.1 := by decide +kernel
theorem tyJ0_ok : ∀ k, k < 0 → parseFieldDescriptor (TJ0 k).2.2.1 = some (tyJ0 k) := by decide +kernel
def RJ10 : String := "java/lang/System"
def TJ10 : u_T := fun k => match k with
  | _ => ("", "", "", false)
def tyJ10 : Nat → FieldType := fun k => match k with
  | _ => .int
abbrev wsJ100 : List Cond := u_ws RJ10 TJ10 0
theorem nmJ10 : ∀ a, a < 0 → ∀ b, b < 0 → a ≠ b → (TJ10 a).2.1 ≠ (TJ10 b).2.1 := by decide +kernel
theorem tyJ10_ok : ∀ k, k < 0 → parseFieldDescriptor (TJ10 k).2.2.1 = some (tyJ10 k) := by decide +kernel
def RJ7 : String := "java/util/Arrays"
def TJ7 : u_T := fun k => match k with
  | _ => ("", "", "", false)
def tyJ7 : Nat → FieldType := fun k => match k with
  | _ => .int
abbrev wsJ70 : List Cond := u_ws RJ7 TJ7 0
theorem nmJ7 : ∀ a, a < 0 → ∀ b, b < 0 → a ≠ b → (TJ7 a).2.1 ≠ (TJ7 b).2.1 := by decide +kernel
theorem tyJ7_ok : ∀ k, k < 0 → parseFieldDescriptor (TJ7 k).2.2.1 = some (tyJ7 k) := by decide +kernel
abbrev cJ7_fill_d0a16 : ByteArray := prog_23_method_101_code
def yJ7_fill_d0a16 : MethodName := ⟨RJ7, "fill", "([JJ)V"⟩
abbrev cJ7_fill_53178 : ByteArray := prog_23_method_103_code
def yJ7_fill_53178 : MethodName := ⟨RJ7, "fill", "([II)V"⟩
abbrev cJ7_fill_031fb : ByteArray := prog_23_method_109_code
def yJ7_fill_031fb : MethodName := ⟨RJ7, "fill", "([BB)V"⟩
def RL : String := "WavePlanLaw"
abbrev cL_element : ByteArray := method_3_code
def yL_element : MethodName := ⟨RL, "element", "(LWavePlan;II[J)I"⟩
abbrev cL_law : ByteArray := code
def yL_law : MethodName := ⟨RL, "law", "([I)Z"⟩
abbrev vwCl : List vw_C := [(RX0, TX0, 5), (RX1, TX1, 4), (RX2, TX2, 2), (RX3, TX3, 11), (RX4, TX4, 9), (RX5, TX5, 2), (RX6, TX6, 5), (RX7, TX7, 4), (RX8, TX8, 6), (RX9, TX9, 9), (RX10, TX10, 39)]
end
section
/-! THE PICTURE: cells have numbers (places in a list of shapes); what they hold is a function of number and slot. -/
section ABdefs
/-- what the cells hold: ints (bytes, booleans) and longs, by the cell's number and the slot -/
abbrev ab_M : Type := (Nat → Nat → Int32) × (Nat → Nat → Int64)
/-- a cell's shape: its class (below 100; 100 int[], 101 byte[], 102 long[], 103 and on arrays of references), its size, its references -/
abbrev ab_S : Type := Nat × Nat × List (Option Nat)
abbrev ab_H : Type := List ab_S
/-- a method: name, the class that it stands in, code, locals, answer -/
abbrev ab_Me : Type := MethodName × String × ByteArray × Nat × Option FieldType
def ab_v (ad : Nat → Nat) (v : Value) : Value := match v with
  | .ref i => .ref (ad i)
  | v => v
/-- which fields are references -/
def ab_RT : List (List Bool) := [[true, true, true, false, false], [false, false, false, false], [true, true], [true, true, true, true, true, true, true, false, false, false, false], [false, false, false, false, false, false, false, false, false], [true, true], [true, true, true, false, false], [true, true, true, false], [true, true, true, true, true, false], [true, true, true, true, true, true, true, true, false], [false, false, true, true, true, true, true, true, true, true, false, true, true, true, false, true, true, true, false, false, false, false, false, false, true, false, false, true, true, true, true, false, true, true, true, true, true, true, true]]
def ab_isR (ci k : Nat) : Bool := (ab_RT.getD ci []).getD k false
def ab_fv (ad : Nat → Nat) (M : ab_M) (id : Nat) (x : ab_S) (k : Nat) : Value := if ab_isR x.1 k = true then va_rf ((x.2.2.getD k none).map ad) else .int (M.1 id k)
def ab_cell (ac : Nat → ClassId) (ad : Nat → Nat) (M : ab_M) (id : Nat) (x : ab_S) : va_E :=
  if x.1 < 100 then .inr (x.1, (List.range x.2.1).map (ab_fv ad M id x))
  else if x.1 < 102 then .inl (ac x.1, x.2.1, .inl (M.1 id))
  else if x.1 = 102 then .inl (ac x.1, x.2.1, .inr (.inl (M.2 id)))
  else .inl (ac x.1, x.2.1, .inr (.inr (.inr (.inr (fun j => (x.2.2.getD j none).map ad)))))
def ab_W (ac : Nat → ClassId) (ad : Nat → Nat) (sh : ab_H) (M : ab_M) : va_W := (List.range sh.length).map (fun id => (ad id, ab_cell ac ad M id (sh.getD id (0, 0, []))))
def ab_tys (ac : Nat → ClassId) : List (ClassId × FieldType) := [(ac 100, .int), (ac 101, .byte), (ac 102, .long), (ac 103, .object "WavePlan$Mast"), (ac 104, .object "WavePlan$Shelf")]
/-- the words of the tables that stay, for every method -/
def ab_G : List Cond := lw_tbl.filter goodWord
def ab_ws (me : ab_Me) : List Cond := .code me.1 me.2.2.1 me.2.2.2.1 me.2.2.2.2 :: ab_G
def ab_isN (w : Cond) : Bool := match w with
  | .fieldLinkNest .. => true
  | .methodLinkNest .. => true
  | _ => false
def ab_nest : List Cond := lw_tbl.filter ab_isN
def ab_N (U : State) : Prop := ∀ w ∈ ab_nest, va_Nw w U
theorem ab_N.warm {s U : State} (hW : s.WarmedH U.vm) (h : ab_N s) : ab_N U := by
  intro w hw
  have h1 := h w hw
  have h2 := (List.mem_filter.mp hw).2
  match w, h1, h2 with
  | .fieldLinkNest .., h1, _ => exact va_Nw.warmF hW h1
  | .methodLinkNest .., h1, _ => exact va_Nw.warmM hW h1
theorem ab_N.same {s U : State} (hv : s.vm = U.vm) (h : ab_N s) : ab_N U := by
  intro w hw
  have h1 := h w hw
  have h2 := (List.mem_filter.mp hw).2
  match w, h1, h2 with
  | .fieldLinkNest .., h1, _ => exact va_Nw.same rfl hv h1
  | .methodLinkNest .., h1, _ => exact va_Nw.same rfl hv h1
theorem ab_G_in {w : Cond} {i : Nat} (h : lw_tbl[i]? = some w) (hg : goodWord w = true) : w ∈ ab_G := List.mem_filter.mpr ⟨List.mem_of_getElem? h, hg⟩
theorem ab_n_in {w : Cond} {i : Nat} (h : lw_tbl[i]? = some w) (hg : ab_isN w = true) : w ∈ ab_nest := List.mem_filter.mpr ⟨List.mem_of_getElem? h, hg⟩
theorem ab_goodIn {me me' : ab_Me} (h : Cond.code me'.1 me'.2.2.1 me'.2.2.2.1 me'.2.2.2.2 ∈ ab_G) : GoodIn (ab_ws me) (ab_ws me') := by
  intro w hw
  rcases List.mem_cons.mp hw with rfl | hw
  · exact ⟨List.mem_cons_of_mem _ h, good_of_word (List.mem_filter.mp h).2⟩
  · exact ⟨List.mem_cons_of_mem _ hw, good_of_word (List.mem_filter.mp hw).2⟩
theorem ab_good1 {me : ab_Me} {w : Cond} (h : w ∈ ab_G) : w ∈ ab_ws me ∧ ((w.onTables && w.keeps) = true ∨ ∃ ty, w = .arrayClass ty) := ⟨List.mem_cons_of_mem _ h, good_of_word (List.mem_filter.mp h).2⟩
/-! what is written -/
def ab_pi (M : ab_M) (o k : Nat) (v : Int32) : ab_M := (fun a b => if a = o ∧ b = k then v else M.1 a b, M.2)
def ab_pl (M : ab_M) (o k : Nat) (v : Int64) : ab_M := (M.1, fun a b => if a = o ∧ b = k then v else M.2 a b)
theorem ab_W_get {ac : Nat → ClassId} {ad : Nat → Nat} {sh : ab_H} {M : ab_M} {id : Nat} {x : ab_S} (h : sh[id]? = some x) : (ab_W ac ad sh M)[id]? = some (ad id, ab_cell ac ad M id x) := by
  obtain ⟨hl, he⟩ := List.getElem?_eq_some_iff.mp h
  simp [ab_W, hl, he]
theorem ab_W_set {ac : Nat → ClassId} {ad : Nat → Nat} {sh : ab_H} {M M' : ab_M} {id : Nat} {x : ab_S} {c' : va_E} (h : sh[id]? = some x) (hc : ab_cell ac ad M' id x = c') (ho : ∀ (j : Nat) (y : ab_S), j ≠ id → ab_cell ac ad M' j y = ab_cell ac ad M j y) : (ab_W ac ad sh M).set id (ad id, c') = ab_W ac ad sh M' := by
  have hl := (List.getElem?_eq_some_iff.mp h).1
  subst hc
  refine List.ext_getElem? (fun k => ?_)
  by_cases hk : k = id
  · subst hk
    rw [List.getElem?_set_self (by simp [ab_W, hl]), ab_W_get h]
  · rw [List.getElem?_set_ne (Ne.symm hk)]
    by_cases hkl : k < sh.length
    · simp [ab_W, hkl, ho k _ hk]
    · simp [ab_W, hkl]
theorem ab_cell_i {ac : Nat → ClassId} {ad : Nat → Nat} {M : ab_M} {o k j : Nat} {v : Int32} {y : ab_S} (h : j ≠ o) : ab_cell ac ad (ab_pi M o k v) j y = ab_cell ac ad M j y := by
  have h1 : (ab_pi M o k v).1 j = M.1 j := by funext b; simp [ab_pi, h]
  have h2 : (ab_pi M o k v).2 = M.2 := rfl
  unfold ab_cell
  rw [h1, h2]
  have h3 : ab_fv ad (ab_pi M o k v) j y = ab_fv ad M j y := by funext b; simp [ab_fv, h1]
  rw [h3]
theorem ab_cell_l {ac : Nat → ClassId} {ad : Nat → Nat} {M : ab_M} {o k j : Nat} {v : Int64} {y : ab_S} (h : j ≠ o) : ab_cell ac ad (ab_pl M o k v) j y = ab_cell ac ad M j y := by
  have h1 : (ab_pl M o k v).2 j = M.2 j := by funext b; simp [ab_pl, h]
  have h2 : (ab_pl M o k v).1 = M.1 := rfl
  unfold ab_cell
  rw [h1, h2]
  have h3 : ab_fv ad (ab_pl M o k v) j y = ab_fv ad M j y := by funext b; simp [ab_fv, h2]
  rw [h3]
theorem ab_cell_obj {ac : Nat → ClassId} {ad : Nat → Nat} {M : ab_M} {id : Nat} {x : ab_S} (h : x.1 < 100) : ab_cell ac ad M id x = .inr (x.1, (List.range x.2.1).map (ab_fv ad M id x)) := by simp [ab_cell, h]
theorem ab_obj_set {ad : Nat → Nat} {M : ab_M} {id : Nat} {x : ab_S} {k : Nat} {v : Int32} (hr : ab_isR x.1 k = false) : ((List.range x.2.1).map (ab_fv ad M id x)).set k (.int v) = (List.range x.2.1).map (ab_fv ad (ab_pi M id k v) id x) := by
  refine List.ext_getElem? (fun j => ?_)
  by_cases hj : j = k
  · subst hj
    by_cases hl : j < x.2.1
    · rw [List.getElem?_set_self (by simpa using hl)]
      simp [hl, ab_fv, hr, ab_pi]
    · rw [List.getElem?_eq_none (by simpa using Nat.not_lt.mp hl), List.getElem?_eq_none (by simpa using Nat.not_lt.mp hl)]
  · rw [List.getElem?_set_ne (Ne.symm hj)]
    by_cases hl : j < x.2.1
    · simp [hl, ab_fv, ab_pi, hj]
    · simp [hl]
end ABdefs
section ABev
/-- the room of a method at depth d -/
abbrev ab_rm (d mc ms : Nat) : Room := { frames := d, cells := mc, slots := ms, locals := 48 * d }
abbrev ab_Rs : Type := Option Value × ab_H × ab_M
def ab_Qc (D : va_G) (ac : Nat → ClassId) (A : Nat → Prop) (ad : Nat → Nat) (n0 : Nat) (r : ab_Rs) : Array Value → State → Outcome → State → Prop := fun _ st oc t =>
  (∃ ad' : Nat → Nat, oc = .returned (r.1.map (ab_v ad')) ∧ (∀ i, i < n0 → ad' i = ad i) ∧ (r.2.1.length ≤ n0 → ad' = ad) ∧ va_P D vwCl (ab_W ac ad' r.2.1 r.2.2) t.heap ∧ va_K D vwCl (ab_tys ac) t ∧ va_D A (ab_W ac ad' r.2.1 r.2.2)) ∧ va_F A st t
def ab_Cx (D : va_G) (ac : Nat → ClassId) (me : ab_Me) (p : Program) (s : State) (m : MethodId) (args : Array Value) (meth : Method) (c : Code) : Prop :=
  p.tables.exec = Jvm.exec ∧ c.code = me.2.2.1 ∧ meth.sig.returnType = me.2.2.2.2 ∧ c.maxLocals = me.2.2.2.1 ∧ s.vm.findClass me.2.1 = some m.cls ∧ (∀ w ∈ ab_ws me, w.before args s = true) ∧ meth.locks = false ∧ meth.name = me.1.name ∧ va_K D vwCl (ab_tys ac) s ∧ ab_N s
def ab_St (D : va_G) (ac : Nat → ClassId) (A : Nat → Prop) (s : State) (ad : Nat → Nat) (sh : ab_H) (M : ab_M) (H : Heap) (locs : List Loc) : Prop :=
  va_P D vwCl (ab_W ac ad sh M) H ∧ va_D A (ab_W ac ad sh M) ∧ va_S A s.heap H locs ∧ ∀ q, s.heap.size ≤ q → A q
def ab_L (ad : Nat → Nat) (ls : Array Slot) (nL : Nat) (lv : List (Option Value)) : Prop := ls.size = nL ∧ lv_wf ls ∧ lv.length = nL ∧ ∀ (i : Nat) (v : Value), lv[i]? = some (some v) → ls[i]? = some (.val (ab_v ad v))
/-- from here (place, locals, stack, cells) the method comes to its end with r -/
def ab_Ev (l : Launch) (D : va_G) (ac : Nat → ClassId) (d : Nat) (me : ab_Me) (n0 mc ms : Nat) (r : ab_Rs) (k n : Nat) (sh : ab_H) (pc : Nat) (lv : List (Option Value)) (st : List Value) (M : ab_M) : Prop :=
  ∀ (p : Program) (e : Env) (s : State) (m : MethodId) (args : Array Value) (below : List Frame) (meth : Method) (c : Code) (H : Heap) (locs : List Loc) (A : Nat → Prop) (ad : Nat → Nat) (ls : Array Slot),
    ab_Cx D ac me p s m args meth c → ab_St D ac A s ad sh M H locs → ab_L ad ls me.2.2.2.1 lv → W p l e (ab_rm d mc ms) s m args below meth c H locs k n (MQ below (ab_Qc D ac A ad n0 r) args s mc ms A) (F0 m pc ls (st.map (ab_v ad)))
/-- a method's contract -/
def ab_Con (l : Launch) (D : va_G) (ac : Nat → ClassId) (d : Nat) (me : ab_Me) (mc ms : Nat) (av : List Value) (sh : ab_H) (M : ab_M) (r : ab_Rs) : Prop :=
  ∀ (ad : Nat → Nat) (sz : Nat), Met l me.1 (ab_ws me) (ab_rm d mc ms) (va_Pc (av.map (ab_v ad)) (fun U => U.heap.size = sz ∧ va_P D vwCl (ab_W ac ad sh M) U.heap ∧ va_K D vwCl (ab_tys ac) U ∧ va_D (fun _ => True) (ab_W ac ad sh M) ∧ ab_N U)) (ab_Qc D ac (va_A (ab_W ac ad sh M) sz) ad sh.length r) mc ms (va_A (ab_W ac ad sh M) sz)
variable {l : Launch} {D : va_G} {ac : Nat → ClassId} {d : Nat} {me : ab_Me} {n0 mc ms : Nat} {r : ab_Rs} {k n : Nat} {sh : ab_H} {pc : Nat} {lv lv' : List (Option Value)} {st : List Value} {M : ab_M}
theorem ab_vc (ad : Nat → Nat) (v : Value) : (ab_v ad v).category = v.category := by cases v <;> rfl
theorem ab_vcs (ad : Nat → Nat) (st : List Value) : ((st.map (ab_v ad)).map fun v => v.category) = st.map fun v => v.category := by
  induction st with
  | nil => rfl
  | cons a t ih => simp only [List.map_cons, ab_vc]; rw [ih]
def ab_prs (ad : Nat → Nat) (lv : List (Option Value)) : List (Nat × Value) := (List.range lv.length).filterMap (fun i => (lv.getD i none).map (fun v => (i, ab_v ad v)))
theorem ab_prs_mem {ad : Nat → Nat} {lv : List (Option Value)} {i : Nat} {v : Value} (h : lv[i]? = some (some v)) : (i, ab_v ad v) ∈ ab_prs ad lv := by
  have hl := (List.getElem?_eq_some_iff.mp h).1
  exact List.mem_filterMap.mpr ⟨i, List.mem_range.mpr hl, by simp [h]⟩
theorem ab_L.has {ad : Nat → Nat} {ls : Array Slot} {nL : Nat} {lv : List (Option Value)} (h : ab_L ad ls nL lv) : lv_has ls nL (ab_prs ad lv) := by
  refine ⟨h.1, h.2.1, fun q hq => ?_⟩
  obtain ⟨i, hi, hv⟩ := List.mem_filterMap.mp hq
  have hl := List.mem_range.mp hi
  cases ho : lv.getD i none with
  | none => rw [ho] at hv; cases hv
  | some v =>
    rw [ho] at hv
    cases hv
    refine h.2.2.2 i v ?_
    rw [List.getD_eq_getElem?_getD] at ho
    rw [List.getElem?_eq_getElem hl] at ho ⊢
    simpa using ho
/-- no long right before place i -/
def ab_sf (lv : List (Option Value)) (i : Nat) : Bool := match i with
  | 0 => true
  | j + 1 => match lv[j]? with
    | some (some v) => v.category == 1
    | _ => true
theorem ab_L.store1 {ad : Nat → Nat} {ls ls' : Array Slot} {nL : Nat} {lv : List (Option Value)} {i : Nat} {v : Value} (h : ab_L ad ls nL lv) (hs : ab_sf lv i = true) (h' : lv_has ls' nL ((i, ab_v ad v) :: (ab_prs ad lv).filter (fun q => !(q.1 == i) && !(q.1 + 1 == i && q.2.category == 2)))) (hi : i < lv.length) : ab_L ad ls' nL (lv.set i (some v)) := by
  refine ⟨h'.1, h'.2.1, by rw [List.length_set]; exact h.2.2.1, fun j w hj => ?_⟩
  by_cases e : j = i
  · subst e
    rw [List.getElem?_set_self hi] at hj
    cases hj
    exact h'.2.2 _ List.mem_cons_self
  · rw [List.getElem?_set_ne (Ne.symm e)] at hj
    refine h'.2.2 (j, ab_v ad w) (List.mem_cons_of_mem _ (List.mem_filter.mpr ⟨ab_prs_mem hj, ?_⟩))
    have hc : j + 1 = i → w.category = 1 := by
      intro e2
      subst e2
      simp only [ab_sf, hj] at hs
      simpa using hs
    by_cases e2 : j + 1 = i
    · simp [e, ab_vc, hc e2]
    · simp [e, e2]
theorem ab_L.store2 {ad : Nat → Nat} {ls ls' : Array Slot} {nL : Nat} {lv : List (Option Value)} {i : Nat} {v : Value} (h : ab_L ad ls nL lv) (hs : ab_sf lv i = true) (h' : lv_has ls' nL ((i, ab_v ad v) :: (ab_prs ad lv).filter (fun q => !(q.1 == i) && (!(q.1 == i + 1) && !(q.1 + 1 == i && q.2.category == 2))))) (hi : i + 1 < lv.length) : ab_L ad ls' nL ((lv.set i (some v)).set (i + 1) none) := by
  refine ⟨h'.1, h'.2.1, by rw [List.length_set, List.length_set]; exact h.2.2.1, fun j w hj => ?_⟩
  by_cases e1 : j = i + 1
  · subst e1
    rw [List.getElem?_set_self (by rw [List.length_set]; exact hi)] at hj
    cases hj
  · rw [List.getElem?_set_ne (Ne.symm e1)] at hj
    by_cases e : j = i
    · subst e
      rw [List.getElem?_set_self (by omega)] at hj
      cases hj
      exact h'.2.2 _ List.mem_cons_self
    · rw [List.getElem?_set_ne (Ne.symm e)] at hj
      refine h'.2.2 (j, ab_v ad w) (List.mem_cons_of_mem _ (List.mem_filter.mpr ⟨ab_prs_mem hj, ?_⟩))
      have hc : j + 1 = i → w.category = 1 := by
        intro e2
        subst e2
        simp only [ab_sf, hj] at hs
        simpa using hs
      by_cases e2 : j + 1 = i
      · simp [e, e1, ab_vc, hc e2]
      · simp [e, e1, e2]
/-- fewer locals are known -/
def ab_sub (lv' lv : List (Option Value)) : Prop := lv'.length = lv.length ∧ ∀ i : Nat, lv'[i]? = some none ∨ lv'[i]? = lv[i]?
theorem ab_sub_nil : ab_sub [] [] := ⟨rfl, fun _ => Or.inr rfl⟩
theorem ab_sub_k {a : Option Value} {x y : List (Option Value)} (h : ab_sub x y) : ab_sub (a :: x) (a :: y) := ⟨by simp [h.1], fun i => by cases i with
  | zero => exact Or.inr rfl
  | succ i => simpa using h.2 i⟩
theorem ab_sub_d {a : Option Value} {x y : List (Option Value)} (h : ab_sub x y) : ab_sub (none :: x) (a :: y) := ⟨by simp [h.1], fun i => by cases i with
  | zero => exact Or.inl rfl
  | succ i => simpa using h.2 i⟩
theorem ev_drop (h : ab_sub lv' lv) (kk : ab_Ev l D ac d me n0 mc ms r k n sh pc lv' st M) : ab_Ev l D ac d me n0 mc ms r k n sh pc lv st M := by
  intro p e s m args below meth c H locs A ad ls C S L
  refine kk p e s m args below meth c H locs A ad ls C S ⟨L.1, L.2.1, h.1.trans L.2.2.1, fun i v hi => ?_⟩
  rcases h.2 i with h2 | h2
  · rw [h2] at hi; cases hi
  · exact L.2.2.2 i v (by rw [← h2]; exact hi)
/-! constants, locals, arithmetic -/
theorem ev_iconst {z : Int} {x : Int32} (hd : decode me.2.2.1 pc = .ok (.iconst z, 1)) (hv : Int32.ofInt z = x) (kk : ab_Ev l D ac d me n0 mc ms r k n sh (pc + 1) lv (.int x :: st) M) : ab_Ev l D ac d me n0 mc ms r k n sh pc lv st M := fun p e s m args below meth c H locs A ad ls C S L => lv_iconst C.1 C.2.1 hd hv (kk p e s m args below meth c H locs A ad ls C S L)
theorem ev_bipush {z : Int} {x : Int32} (hd : decode me.2.2.1 pc = .ok (.bipush z, 2)) (hv : (Int8.ofInt z).toInt32 = x) (kk : ab_Ev l D ac d me n0 mc ms r k n sh (pc + 2) lv (.int x :: st) M) : ab_Ev l D ac d me n0 mc ms r k n sh pc lv st M := fun p e s m args below meth c H locs A ad ls C S L => lv_bipush C.1 C.2.1 hd hv (kk p e s m args below meth c H locs A ad ls C S L)
theorem ev_sipush {z : Int} {x : Int32} (hd : decode me.2.2.1 pc = .ok (.sipush z, 3)) (hv : (Int16.ofInt z).toInt32 = x) (kk : ab_Ev l D ac d me n0 mc ms r k n sh (pc + 3) lv (.int x :: st) M) : ab_Ev l D ac d me n0 mc ms r k n sh pc lv st M := fun p e s m args below meth c H locs A ad ls C S L => lv_sipush C.1 C.2.1 hd hv (kk p e s m args below meth c H locs A ad ls C S L)
theorem ev_lconst {z : Fin 2} {x : Int64} (hd : decode me.2.2.1 pc = .ok (.lconst z, 1)) (hv : Int64.ofNat (z : Nat) = x) (kk : ab_Ev l D ac d me n0 mc ms r k n sh (pc + 1) lv (.long x :: st) M) : ab_Ev l D ac d me n0 mc ms r k n sh pc lv st M := fun p e s m args below meth c H locs A ad ls C S L => lv_lconst C.1 C.2.1 hd hv (kk p e s m args below meth c H locs A ad ls C S L)
theorem ev_ldc {z : Nat} {x : Int32} (hw : Cond.constant me.2.1 z x ∈ ab_G) (hd : decode me.2.2.1 pc = .ok (.ldc z, 2)) (kk : ab_Ev l D ac d me n0 mc ms r k n sh (pc + 2) lv (.int x :: st) M) : ab_Ev l D ac d me n0 mc ms r k n sh pc lv st M := fun p e s m args below meth c H locs A ad ls C S L => lv_ldc C.1 C.2.1 C.2.2.2.2.1 (C.2.2.2.2.2.1 _ (List.mem_cons_of_mem _ hw)) hd (kk p e s m args below meth c H locs A ad ls C S L)
theorem ev_ldcw {z : Nat} {x : Int32} (hw : Cond.constant me.2.1 z x ∈ ab_G) (hd : decode me.2.2.1 pc = .ok (.ldc_w z, 3)) (kk : ab_Ev l D ac d me n0 mc ms r k n sh (pc + 3) lv (.int x :: st) M) : ab_Ev l D ac d me n0 mc ms r k n sh pc lv st M := fun p e s m args below meth c H locs A ad ls C S L => lv_ldcw C.1 C.2.1 C.2.2.2.2.1 (C.2.2.2.2.2.1 _ (List.mem_cons_of_mem _ hw)) hd (kk p e s m args below meth c H locs A ad ls C S L)
theorem ev_ldc2 {z : Nat} {x : Int64} (hw : Cond.constantLong me.2.1 z x ∈ ab_G) (hd : decode me.2.2.1 pc = .ok (.ldc2_w z, 3)) (kk : ab_Ev l D ac d me n0 mc ms r k n sh (pc + 3) lv (.long x :: st) M) : ab_Ev l D ac d me n0 mc ms r k n sh pc lv st M := fun p e s m args below meth c H locs A ad ls C S L => lv_ldc2 C.1 C.2.1 C.2.2.2.2.1 (C.2.2.2.2.2.1 _ (List.mem_cons_of_mem _ hw)) hd (kk p e s m args below meth c H locs A ad ls C S L)
theorem ev_iload_n {q : Fin 4} {x : Int32} (hd : decode me.2.2.1 pc = .ok (.iload_n q, 1)) (hl : lv[(q : Nat)]? = some (some (.int x))) (kk : ab_Ev l D ac d me n0 mc ms r k n sh (pc + 1) lv (.int x :: st) M) : ab_Ev l D ac d me n0 mc ms r k n sh pc lv st M := fun p e s m args below meth c H locs A ad ls C S L => lv_iload_n C.1 C.2.1 hd rfl (L.2.2.2 _ _ hl) (kk p e s m args below meth c H locs A ad ls C S L)
theorem ev_iload {i : Nat} {x : Int32} (hd : decode me.2.2.1 pc = .ok (.iload i, 2)) (hl : lv[i]? = some (some (.int x))) (kk : ab_Ev l D ac d me n0 mc ms r k n sh (pc + 2) lv (.int x :: st) M) : ab_Ev l D ac d me n0 mc ms r k n sh pc lv st M := fun p e s m args below meth c H locs A ad ls C S L => lv_iload C.1 C.2.1 hd (L.2.2.2 _ _ hl) (kk p e s m args below meth c H locs A ad ls C S L)
theorem ev_lload_n {q : Fin 4} {x : Int64} (hd : decode me.2.2.1 pc = .ok (.lload_n q, 1)) (hl : lv[(q : Nat)]? = some (some (.long x))) (kk : ab_Ev l D ac d me n0 mc ms r k n sh (pc + 1) lv (.long x :: st) M) : ab_Ev l D ac d me n0 mc ms r k n sh pc lv st M := fun p e s m args below meth c H locs A ad ls C S L => lv_lload_n C.1 C.2.1 hd rfl (L.2.2.2 _ _ hl) (kk p e s m args below meth c H locs A ad ls C S L)
theorem ev_lload {i : Nat} {x : Int64} (hd : decode me.2.2.1 pc = .ok (.lload i, 2)) (hl : lv[i]? = some (some (.long x))) (kk : ab_Ev l D ac d me n0 mc ms r k n sh (pc + 2) lv (.long x :: st) M) : ab_Ev l D ac d me n0 mc ms r k n sh pc lv st M := fun p e s m args below meth c H locs A ad ls C S L => lv_lload C.1 C.2.1 hd (L.2.2.2 _ _ hl) (kk p e s m args below meth c H locs A ad ls C S L)
theorem ev_aload_n {q : Fin 4} {x : Nat} (hd : decode me.2.2.1 pc = .ok (.aload_n q, 1)) (hl : lv[(q : Nat)]? = some (some (.ref x))) (kk : ab_Ev l D ac d me n0 mc ms r k n sh (pc + 1) lv (.ref x :: st) M) : ab_Ev l D ac d me n0 mc ms r k n sh pc lv st M := fun p e s m args below meth c H locs A ad ls C S L => lv_aload_n C.1 C.2.1 hd rfl (L.2.2.2 _ _ hl) (kk p e s m args below meth c H locs A ad ls C S L)
theorem ev_aload {i : Nat} {x : Nat} (hd : decode me.2.2.1 pc = .ok (.aload i, 2)) (hl : lv[i]? = some (some (.ref x))) (kk : ab_Ev l D ac d me n0 mc ms r k n sh (pc + 2) lv (.ref x :: st) M) : ab_Ev l D ac d me n0 mc ms r k n sh pc lv st M := fun p e s m args below meth c H locs A ad ls C S L => lv_aload C.1 C.2.1 hd (L.2.2.2 _ _ hl) (kk p e s m args below meth c H locs A ad ls C S L)
theorem ev_istore_n {q : Fin 4} {x : Int32} (hd : decode me.2.2.1 pc = .ok (.istore_n q, 1)) (hi : (q : Nat) < lv.length) (hs : ab_sf lv q = true) (hl : lv.set q (some (.int x)) = lv') (kk : ab_Ev l D ac d me n0 mc ms r k n sh (pc + 1) lv' st M) : ab_Ev l D ac d me n0 mc ms r k n sh pc lv (.int x :: st) M := fun p e s m args below meth c H locs A ad ls C S L => lv_istore_n C.1 C.2.1 hd rfl L.has (by rw [← L.2.2.1]; exact hi) rfl (fun ls' h' => kk p e s m args below meth c H locs A ad ls' C S (by rw [← hl]; exact L.store1 hs h' hi))
theorem ev_istore {i : Nat} {x : Int32} (hd : decode me.2.2.1 pc = .ok (.istore i, 2)) (hi : i < lv.length) (hs : ab_sf lv i = true) (hl : lv.set i (some (.int x)) = lv') (kk : ab_Ev l D ac d me n0 mc ms r k n sh (pc + 2) lv' st M) : ab_Ev l D ac d me n0 mc ms r k n sh pc lv (.int x :: st) M := fun p e s m args below meth c H locs A ad ls C S L => lv_istore C.1 C.2.1 hd L.has (by rw [← L.2.2.1]; exact hi) rfl (fun ls' h' => kk p e s m args below meth c H locs A ad ls' C S (by rw [← hl]; exact L.store1 hs h' hi))
theorem ev_astore_n {q : Fin 4} {x : Nat} (hd : decode me.2.2.1 pc = .ok (.astore_n q, 1)) (hi : (q : Nat) < lv.length) (hs : ab_sf lv q = true) (hl : lv.set q (some (.ref x)) = lv') (kk : ab_Ev l D ac d me n0 mc ms r k n sh (pc + 1) lv' st M) : ab_Ev l D ac d me n0 mc ms r k n sh pc lv (.ref x :: st) M := fun p e s m args below meth c H locs A ad ls C S L => lv_astore_n C.1 C.2.1 hd rfl L.has (by rw [← L.2.2.1]; exact hi) rfl (fun ls' h' => kk p e s m args below meth c H locs A ad ls' C S (by rw [← hl]; exact L.store1 (v := .ref x) hs h' hi))
theorem ev_astore {i : Nat} {x : Nat} (hd : decode me.2.2.1 pc = .ok (.astore i, 2)) (hi : i < lv.length) (hs : ab_sf lv i = true) (hl : lv.set i (some (.ref x)) = lv') (kk : ab_Ev l D ac d me n0 mc ms r k n sh (pc + 2) lv' st M) : ab_Ev l D ac d me n0 mc ms r k n sh pc lv (.ref x :: st) M := fun p e s m args below meth c H locs A ad ls C S L => lv_astore C.1 C.2.1 hd L.has (by rw [← L.2.2.1]; exact hi) rfl (fun ls' h' => kk p e s m args below meth c H locs A ad ls' C S (by rw [← hl]; exact L.store1 (v := .ref x) hs h' hi))
theorem ev_lstore_n {q : Fin 4} {x : Int64} (hd : decode me.2.2.1 pc = .ok (.lstore_n q, 1)) (hi : (q : Nat) + 1 < lv.length) (hs : ab_sf lv q = true) (hl : (lv.set q (some (.long x))).set ((q : Nat) + 1) none = lv') (kk : ab_Ev l D ac d me n0 mc ms r k n sh (pc + 1) lv' st M) : ab_Ev l D ac d me n0 mc ms r k n sh pc lv (.long x :: st) M := fun p e s m args below meth c H locs A ad ls C S L => lv_lstore_n C.1 C.2.1 hd rfl L.has (by rw [← L.2.2.1]; exact hi) rfl (fun ls' h' => kk p e s m args below meth c H locs A ad ls' C S (by rw [← hl]; exact L.store2 hs h' hi))
theorem ev_lstore {i : Nat} {x : Int64} (hd : decode me.2.2.1 pc = .ok (.lstore i, 2)) (hi : i + 1 < lv.length) (hs : ab_sf lv i = true) (hl : (lv.set i (some (.long x))).set (i + 1) none = lv') (kk : ab_Ev l D ac d me n0 mc ms r k n sh (pc + 2) lv' st M) : ab_Ev l D ac d me n0 mc ms r k n sh pc lv (.long x :: st) M := fun p e s m args below meth c H locs A ad ls C S L => lv_lstore C.1 C.2.1 hd L.has (by rw [← L.2.2.1]; exact hi) rfl (fun ls' h' => kk p e s m args below meth c H locs A ad ls' C S (by rw [← hl]; exact L.store2 hs h' hi))
theorem ev_iinc {i : Nat} {z : Int} {x y : Int32} (hd : decode me.2.2.1 pc = .ok (.iinc i z, 3)) (hx : lv[i]? = some (some (.int x))) (hv : x + Int32.ofInt z = y) (hs : ab_sf lv i = true) (hl : lv.set i (some (.int y)) = lv') (kk : ab_Ev l D ac d me n0 mc ms r k n sh (pc + 3) lv' st M) : ab_Ev l D ac d me n0 mc ms r k n sh pc lv st M := fun p e s m args below meth c H locs A ad ls C S L => by
  have hi := (List.getElem?_eq_some_iff.mp hx).1
  obtain ⟨j, hj⟩ := List.getElem?_of_mem (ab_prs_mem (ad := ad) hx)
  exact lv_iinc C.1 C.2.1 hd L.has hj hv (by rw [← L.2.2.1]; exact hi) rfl (fun ls' h' => kk p e s m args below meth c H locs A ad ls' C S (by rw [← hl]; exact L.store1 hs h' hi))
theorem ev_iadd {x y : Int32} (hd : decode me.2.2.1 pc = .ok (.iadd, 1)) (kk : ab_Ev l D ac d me n0 mc ms r k n sh (pc + 1) lv (.int (x + y) :: st) M) : ab_Ev l D ac d me n0 mc ms r k n sh pc lv (.int y :: .int x :: st) M := fun p e s m args below meth c H locs A ad ls C S L => lv_iadd C.1 C.2.1 hd (kk p e s m args below meth c H locs A ad ls C S L)
theorem ev_isub {x y : Int32} (hd : decode me.2.2.1 pc = .ok (.isub, 1)) (kk : ab_Ev l D ac d me n0 mc ms r k n sh (pc + 1) lv (.int (x - y) :: st) M) : ab_Ev l D ac d me n0 mc ms r k n sh pc lv (.int y :: .int x :: st) M := fun p e s m args below meth c H locs A ad ls C S L => lv_isub C.1 C.2.1 hd (kk p e s m args below meth c H locs A ad ls C S L)
theorem ev_imul {x y : Int32} (hd : decode me.2.2.1 pc = .ok (.imul, 1)) (kk : ab_Ev l D ac d me n0 mc ms r k n sh (pc + 1) lv (.int (x * y) :: st) M) : ab_Ev l D ac d me n0 mc ms r k n sh pc lv (.int y :: .int x :: st) M := fun p e s m args below meth c H locs A ad ls C S L => lv_imul C.1 C.2.1 hd (kk p e s m args below meth c H locs A ad ls C S L)
theorem ev_iand {x y : Int32} (hd : decode me.2.2.1 pc = .ok (.iand, 1)) (kk : ab_Ev l D ac d me n0 mc ms r k n sh (pc + 1) lv (.int (x &&& y) :: st) M) : ab_Ev l D ac d me n0 mc ms r k n sh pc lv (.int y :: .int x :: st) M := fun p e s m args below meth c H locs A ad ls C S L => lv_iand C.1 C.2.1 hd (kk p e s m args below meth c H locs A ad ls C S L)
theorem ev_ior {x y : Int32} (hd : decode me.2.2.1 pc = .ok (.ior, 1)) (kk : ab_Ev l D ac d me n0 mc ms r k n sh (pc + 1) lv (.int (x ||| y) :: st) M) : ab_Ev l D ac d me n0 mc ms r k n sh pc lv (.int y :: .int x :: st) M := fun p e s m args below meth c H locs A ad ls C S L => lv_ior C.1 C.2.1 hd (kk p e s m args below meth c H locs A ad ls C S L)
theorem ev_ixor {x y : Int32} (hd : decode me.2.2.1 pc = .ok (.ixor, 1)) (kk : ab_Ev l D ac d me n0 mc ms r k n sh (pc + 1) lv (.int (x ^^^ y) :: st) M) : ab_Ev l D ac d me n0 mc ms r k n sh pc lv (.int y :: .int x :: st) M := fun p e s m args below meth c H locs A ad ls C S L => lv_ixor C.1 C.2.1 hd (kk p e s m args below meth c H locs A ad ls C S L)
theorem ev_ishl {x y : Int32} (hd : decode me.2.2.1 pc = .ok (.ishl, 1)) (kk : ab_Ev l D ac d me n0 mc ms r k n sh (pc + 1) lv (.int (x <<< (y &&& 31)) :: st) M) : ab_Ev l D ac d me n0 mc ms r k n sh pc lv (.int y :: .int x :: st) M := fun p e s m args below meth c H locs A ad ls C S L => lv_ishl C.1 C.2.1 hd (kk p e s m args below meth c H locs A ad ls C S L)
theorem ev_ishr {x y : Int32} (hd : decode me.2.2.1 pc = .ok (.ishr, 1)) (kk : ab_Ev l D ac d me n0 mc ms r k n sh (pc + 1) lv (.int (x >>> (y &&& 31)) :: st) M) : ab_Ev l D ac d me n0 mc ms r k n sh pc lv (.int y :: .int x :: st) M := fun p e s m args below meth c H locs A ad ls C S L => lv_ishr C.1 C.2.1 hd (kk p e s m args below meth c H locs A ad ls C S L)
theorem ev_iushr {x y : Int32} (hd : decode me.2.2.1 pc = .ok (.iushr, 1)) (kk : ab_Ev l D ac d me n0 mc ms r k n sh (pc + 1) lv (.int (x.toUInt32 >>> (y.toUInt32 &&& Int32.toUInt32 31)).toInt32 :: st) M) : ab_Ev l D ac d me n0 mc ms r k n sh pc lv (.int y :: .int x :: st) M := fun p e s m args below meth c H locs A ad ls C S L => lv_iushr C.1 C.2.1 hd rfl (kk p e s m args below meth c H locs A ad ls C S L)
theorem ev_ineg {x : Int32} (hd : decode me.2.2.1 pc = .ok (.ineg, 1)) (kk : ab_Ev l D ac d me n0 mc ms r k n sh (pc + 1) lv (.int (-x) :: st) M) : ab_Ev l D ac d me n0 mc ms r k n sh pc lv (.int x :: st) M := fun p e s m args below meth c H locs A ad ls C S L => lv_ineg C.1 C.2.1 hd (kk p e s m args below meth c H locs A ad ls C S L)
theorem ev_ladd {x y : Int64} (hd : decode me.2.2.1 pc = .ok (.ladd, 1)) (kk : ab_Ev l D ac d me n0 mc ms r k n sh (pc + 1) lv (.long (x + y) :: st) M) : ab_Ev l D ac d me n0 mc ms r k n sh pc lv (.long y :: .long x :: st) M := fun p e s m args below meth c H locs A ad ls C S L => lv_ladd C.1 C.2.1 hd (kk p e s m args below meth c H locs A ad ls C S L)
theorem ev_lsub {x y : Int64} (hd : decode me.2.2.1 pc = .ok (.lsub, 1)) (kk : ab_Ev l D ac d me n0 mc ms r k n sh (pc + 1) lv (.long (x - y) :: st) M) : ab_Ev l D ac d me n0 mc ms r k n sh pc lv (.long y :: .long x :: st) M := fun p e s m args below meth c H locs A ad ls C S L => lv_lsub C.1 C.2.1 hd (kk p e s m args below meth c H locs A ad ls C S L)
theorem ev_lor {x y : Int64} (hd : decode me.2.2.1 pc = .ok (.lor, 1)) (kk : ab_Ev l D ac d me n0 mc ms r k n sh (pc + 1) lv (.long (x ||| y) :: st) M) : ab_Ev l D ac d me n0 mc ms r k n sh pc lv (.long y :: .long x :: st) M := fun p e s m args below meth c H locs A ad ls C S L => lv_lor C.1 C.2.1 hd (kk p e s m args below meth c H locs A ad ls C S L)
theorem ev_land {x y : Int64} (hd : decode me.2.2.1 pc = .ok (.land, 1)) (kk : ab_Ev l D ac d me n0 mc ms r k n sh (pc + 1) lv (.long (x &&& y) :: st) M) : ab_Ev l D ac d me n0 mc ms r k n sh pc lv (.long y :: .long x :: st) M := fun p e s m args below meth c H locs A ad ls C S L => lv_land C.1 C.2.1 hd (kk p e s m args below meth c H locs A ad ls C S L)
theorem ev_lxor {x y : Int64} (hd : decode me.2.2.1 pc = .ok (.lxor, 1)) (kk : ab_Ev l D ac d me n0 mc ms r k n sh (pc + 1) lv (.long (x ^^^ y) :: st) M) : ab_Ev l D ac d me n0 mc ms r k n sh pc lv (.long y :: .long x :: st) M := fun p e s m args below meth c H locs A ad ls C S L => lv_lxor C.1 C.2.1 hd (kk p e s m args below meth c H locs A ad ls C S L)
theorem ev_lshl {x : Int64} {y : Int32} (hd : decode me.2.2.1 pc = .ok (.lshl, 1)) (kk : ab_Ev l D ac d me n0 mc ms r k n sh (pc + 1) lv (.long (x <<< (y.toInt64 &&& 63)) :: st) M) : ab_Ev l D ac d me n0 mc ms r k n sh pc lv (.int y :: .long x :: st) M := fun p e s m args below meth c H locs A ad ls C S L => lv_lshl C.1 C.2.1 hd rfl (kk p e s m args below meth c H locs A ad ls C S L)
theorem ev_lushr {x : Int64} {y : Int32} (hd : decode me.2.2.1 pc = .ok (.lushr, 1)) (kk : ab_Ev l D ac d me n0 mc ms r k n sh (pc + 1) lv (.long (x.toUInt64 >>> (y.toInt64.toUInt64 &&& Int64.toUInt64 63)).toInt64 :: st) M) : ab_Ev l D ac d me n0 mc ms r k n sh pc lv (.int y :: .long x :: st) M := fun p e s m args below meth c H locs A ad ls C S L => lv_lushr C.1 C.2.1 hd rfl (kk p e s m args below meth c H locs A ad ls C S L)
theorem ev_i2l {x : Int32} (hd : decode me.2.2.1 pc = .ok (.i2l, 1)) (kk : ab_Ev l D ac d me n0 mc ms r k n sh (pc + 1) lv (.long x.toInt64 :: st) M) : ab_Ev l D ac d me n0 mc ms r k n sh pc lv (.int x :: st) M := fun p e s m args below meth c H locs A ad ls C S L => lv_i2l C.1 C.2.1 hd rfl (kk p e s m args below meth c H locs A ad ls C S L)
theorem ev_l2i {x : Int64} (hd : decode me.2.2.1 pc = .ok (.l2i, 1)) (kk : ab_Ev l D ac d me n0 mc ms r k n sh (pc + 1) lv (.int x.toInt32 :: st) M) : ab_Ev l D ac d me n0 mc ms r k n sh pc lv (.long x :: st) M := fun p e s m args below meth c H locs A ad ls C S L => lv_l2i C.1 C.2.1 hd rfl (kk p e s m args below meth c H locs A ad ls C S L)
theorem ev_i2b {x : Int32} (hd : decode me.2.2.1 pc = .ok (.i2b, 1)) (kk : ab_Ev l D ac d me n0 mc ms r k n sh (pc + 1) lv (.int x.toInt8.toInt32 :: st) M) : ab_Ev l D ac d me n0 mc ms r k n sh pc lv (.int x :: st) M := fun p e s m args below meth c H locs A ad ls C S L => lv_i2b C.1 C.2.1 hd rfl (kk p e s m args below meth c H locs A ad ls C S L)
theorem ev_lcmp {x y : Int64} (hd : decode me.2.2.1 pc = .ok (.lcmp, 1)) (kk : ab_Ev l D ac d me n0 mc ms r k n sh (pc + 1) lv (.int (lg_cmp x y) :: st) M) : ab_Ev l D ac d me n0 mc ms r k n sh pc lv (.long y :: .long x :: st) M := fun p e s m args below meth c H locs A ad ls C S L => W.lcmp C.1 C.2.1 hd (kk p e s m args below meth c H locs A ad ls C S L)
theorem ev_dup {v : Value} (hd : decode me.2.2.1 pc = .ok (.dup, 1)) (hv : v.category = 1) (kk : ab_Ev l D ac d me n0 mc ms r k n sh (pc + 1) lv (v :: v :: st) M) : ab_Ev l D ac d me n0 mc ms r k n sh pc lv (v :: st) M := fun p e s m args below meth c H locs A ad ls C S L => lv_dup C.1 C.2.1 hd ((ab_vc ad v).trans hv) (kk p e s m args below meth c H locs A ad ls C S L)
theorem ev_idiv {x y : Int32} (hd : decode me.2.2.1 pc = .ok (.idiv, 1)) (hy : ¬ y = 0) (kk : ab_Ev l D ac d me n0 mc ms r k n sh (pc + 1) lv (.int (x / y) :: st) M) : ab_Ev l D ac d me n0 mc ms r k n sh pc lv (.int y :: .int x :: st) M := fun p e s m args below meth c H locs A ad ls C S L => lv_idiv C.1 C.2.1 hd hy (kk p e s m args below meth c H locs A ad ls C S L)
theorem ev_irem {x y : Int32} (hd : decode me.2.2.1 pc = .ok (.irem, 1)) (hy : ¬ y = 0) (kk : ab_Ev l D ac d me n0 mc ms r k n sh (pc + 1) lv (.int (x - x / y * y) :: st) M) : ab_Ev l D ac d me n0 mc ms r k n sh pc lv (.int y :: .int x :: st) M := fun p e s m args below meth c H locs A ad ls C S L => lv_irem C.1 C.2.1 hd hy (kk p e s m args below meth c H locs A ad ls C S L)
theorem ev_goto {z : Int} {t : Nat} (hd : decode me.2.2.1 pc = .ok (.goto z, 3)) (ht : (pc : Int) + z = (t : Int)) (kk : ab_Ev l D ac d me n0 mc ms r k n sh t lv st M) : ab_Ev l D ac d me n0 mc ms r k n sh pc lv st M := fun p e s m args below meth c H locs A ad ls C S L => lv_goto C.1 C.2.1 hd ht (kk p e s m args below meth c H locs A ad ls C S L)
theorem ev_if_eq {x : Int32} {z : Int} {t : Nat} (hd : decode me.2.2.1 pc = .ok (.ifCond .eq z, 3)) (ht : (pc : Int) + z = (t : Int)) (kt : x = 0 → ab_Ev l D ac d me n0 mc ms r k n sh t lv st M) (kf : ¬ x = 0 → ab_Ev l D ac d me n0 mc ms r k n sh (pc + 3) lv st M) : ab_Ev l D ac d me n0 mc ms r k n sh pc lv (.int x :: st) M := fun p e s m args below meth c H locs A ad ls C S L => lv_if_eq C.1 C.2.1 hd ht (fun h => kt h p e s m args below meth c H locs A ad ls C S L) (fun h => kf h p e s m args below meth c H locs A ad ls C S L)
theorem ev_icmp_eq {x y : Int32} {z : Int} {t : Nat} (hd : decode me.2.2.1 pc = .ok (.if_icmp .eq z, 3)) (ht : (pc : Int) + z = (t : Int)) (kt : x = y → ab_Ev l D ac d me n0 mc ms r k n sh t lv st M) (kf : ¬ x = y → ab_Ev l D ac d me n0 mc ms r k n sh (pc + 3) lv st M) : ab_Ev l D ac d me n0 mc ms r k n sh pc lv (.int y :: .int x :: st) M := fun p e s m args below meth c H locs A ad ls C S L => lv_icmp_eq C.1 C.2.1 hd ht (fun h => kt h p e s m args below meth c H locs A ad ls C S L) (fun h => kf h p e s m args below meth c H locs A ad ls C S L)
theorem ev_if_ne {x : Int32} {z : Int} {t : Nat} (hd : decode me.2.2.1 pc = .ok (.ifCond .ne z, 3)) (ht : (pc : Int) + z = (t : Int)) (kt : ¬ x = 0 → ab_Ev l D ac d me n0 mc ms r k n sh t lv st M) (kf : x = 0 → ab_Ev l D ac d me n0 mc ms r k n sh (pc + 3) lv st M) : ab_Ev l D ac d me n0 mc ms r k n sh pc lv (.int x :: st) M := fun p e s m args below meth c H locs A ad ls C S L => lv_if_ne C.1 C.2.1 hd ht (fun h => kt h p e s m args below meth c H locs A ad ls C S L) (fun h => kf h p e s m args below meth c H locs A ad ls C S L)
theorem ev_icmp_ne {x y : Int32} {z : Int} {t : Nat} (hd : decode me.2.2.1 pc = .ok (.if_icmp .ne z, 3)) (ht : (pc : Int) + z = (t : Int)) (kt : ¬ x = y → ab_Ev l D ac d me n0 mc ms r k n sh t lv st M) (kf : x = y → ab_Ev l D ac d me n0 mc ms r k n sh (pc + 3) lv st M) : ab_Ev l D ac d me n0 mc ms r k n sh pc lv (.int y :: .int x :: st) M := fun p e s m args below meth c H locs A ad ls C S L => lv_icmp_ne C.1 C.2.1 hd ht (fun h => kt h p e s m args below meth c H locs A ad ls C S L) (fun h => kf h p e s m args below meth c H locs A ad ls C S L)
theorem ev_if_lt {x : Int32} {z : Int} {t : Nat} (hd : decode me.2.2.1 pc = .ok (.ifCond .lt z, 3)) (ht : (pc : Int) + z = (t : Int)) (kt : x < 0 → ab_Ev l D ac d me n0 mc ms r k n sh t lv st M) (kf : ¬ x < 0 → ab_Ev l D ac d me n0 mc ms r k n sh (pc + 3) lv st M) : ab_Ev l D ac d me n0 mc ms r k n sh pc lv (.int x :: st) M := fun p e s m args below meth c H locs A ad ls C S L => lv_if_lt C.1 C.2.1 hd ht (fun h => kt h p e s m args below meth c H locs A ad ls C S L) (fun h => kf h p e s m args below meth c H locs A ad ls C S L)
theorem ev_icmp_lt {x y : Int32} {z : Int} {t : Nat} (hd : decode me.2.2.1 pc = .ok (.if_icmp .lt z, 3)) (ht : (pc : Int) + z = (t : Int)) (kt : x < y → ab_Ev l D ac d me n0 mc ms r k n sh t lv st M) (kf : ¬ x < y → ab_Ev l D ac d me n0 mc ms r k n sh (pc + 3) lv st M) : ab_Ev l D ac d me n0 mc ms r k n sh pc lv (.int y :: .int x :: st) M := fun p e s m args below meth c H locs A ad ls C S L => lv_icmp_lt C.1 C.2.1 hd ht (fun h => kt h p e s m args below meth c H locs A ad ls C S L) (fun h => kf h p e s m args below meth c H locs A ad ls C S L)
theorem ev_if_ge {x : Int32} {z : Int} {t : Nat} (hd : decode me.2.2.1 pc = .ok (.ifCond .ge z, 3)) (ht : (pc : Int) + z = (t : Int)) (kt : 0 ≤ x → ab_Ev l D ac d me n0 mc ms r k n sh t lv st M) (kf : ¬ 0 ≤ x → ab_Ev l D ac d me n0 mc ms r k n sh (pc + 3) lv st M) : ab_Ev l D ac d me n0 mc ms r k n sh pc lv (.int x :: st) M := fun p e s m args below meth c H locs A ad ls C S L => lv_if_ge C.1 C.2.1 hd ht (fun h => kt h p e s m args below meth c H locs A ad ls C S L) (fun h => kf h p e s m args below meth c H locs A ad ls C S L)
theorem ev_icmp_ge {x y : Int32} {z : Int} {t : Nat} (hd : decode me.2.2.1 pc = .ok (.if_icmp .ge z, 3)) (ht : (pc : Int) + z = (t : Int)) (kt : y ≤ x → ab_Ev l D ac d me n0 mc ms r k n sh t lv st M) (kf : ¬ y ≤ x → ab_Ev l D ac d me n0 mc ms r k n sh (pc + 3) lv st M) : ab_Ev l D ac d me n0 mc ms r k n sh pc lv (.int y :: .int x :: st) M := fun p e s m args below meth c H locs A ad ls C S L => lv_icmp_ge C.1 C.2.1 hd ht (fun h => kt h p e s m args below meth c H locs A ad ls C S L) (fun h => kf h p e s m args below meth c H locs A ad ls C S L)
theorem ev_if_gt {x : Int32} {z : Int} {t : Nat} (hd : decode me.2.2.1 pc = .ok (.ifCond .gt z, 3)) (ht : (pc : Int) + z = (t : Int)) (kt : 0 < x → ab_Ev l D ac d me n0 mc ms r k n sh t lv st M) (kf : ¬ 0 < x → ab_Ev l D ac d me n0 mc ms r k n sh (pc + 3) lv st M) : ab_Ev l D ac d me n0 mc ms r k n sh pc lv (.int x :: st) M := fun p e s m args below meth c H locs A ad ls C S L => lv_if_gt C.1 C.2.1 hd ht (fun h => kt h p e s m args below meth c H locs A ad ls C S L) (fun h => kf h p e s m args below meth c H locs A ad ls C S L)
theorem ev_icmp_gt {x y : Int32} {z : Int} {t : Nat} (hd : decode me.2.2.1 pc = .ok (.if_icmp .gt z, 3)) (ht : (pc : Int) + z = (t : Int)) (kt : y < x → ab_Ev l D ac d me n0 mc ms r k n sh t lv st M) (kf : ¬ y < x → ab_Ev l D ac d me n0 mc ms r k n sh (pc + 3) lv st M) : ab_Ev l D ac d me n0 mc ms r k n sh pc lv (.int y :: .int x :: st) M := fun p e s m args below meth c H locs A ad ls C S L => lv_icmp_gt C.1 C.2.1 hd ht (fun h => kt h p e s m args below meth c H locs A ad ls C S L) (fun h => kf h p e s m args below meth c H locs A ad ls C S L)
theorem ev_if_le {x : Int32} {z : Int} {t : Nat} (hd : decode me.2.2.1 pc = .ok (.ifCond .le z, 3)) (ht : (pc : Int) + z = (t : Int)) (kt : x ≤ 0 → ab_Ev l D ac d me n0 mc ms r k n sh t lv st M) (kf : ¬ x ≤ 0 → ab_Ev l D ac d me n0 mc ms r k n sh (pc + 3) lv st M) : ab_Ev l D ac d me n0 mc ms r k n sh pc lv (.int x :: st) M := fun p e s m args below meth c H locs A ad ls C S L => lv_if_le C.1 C.2.1 hd ht (fun h => kt h p e s m args below meth c H locs A ad ls C S L) (fun h => kf h p e s m args below meth c H locs A ad ls C S L)
theorem ev_icmp_le {x y : Int32} {z : Int} {t : Nat} (hd : decode me.2.2.1 pc = .ok (.if_icmp .le z, 3)) (ht : (pc : Int) + z = (t : Int)) (kt : x ≤ y → ab_Ev l D ac d me n0 mc ms r k n sh t lv st M) (kf : ¬ x ≤ y → ab_Ev l D ac d me n0 mc ms r k n sh (pc + 3) lv st M) : ab_Ev l D ac d me n0 mc ms r k n sh pc lv (.int y :: .int x :: st) M := fun p e s m args below meth c H locs A ad ls C S L => lv_icmp_le C.1 C.2.1 hd ht (fun h => kt h p e s m args below meth c H locs A ad ls C S L) (fun h => kf h p e s m args below meth c H locs A ad ls C S L)
theorem ev_tableOut {df lo hi : Int} {offs : Array Int} {len t : Nat} {x : Int32} (hd : decode me.2.2.1 pc = .ok (.tableswitch df lo hi offs, len)) (h : x.toInt < lo ∨ hi < x.toInt) (ht : (pc : Int) + df = (t : Int)) (kk : ab_Ev l D ac d me n0 mc ms r k n sh t lv st M) : ab_Ev l D ac d me n0 mc ms r k n sh pc lv (.int x :: st) M := fun p e s m args below meth c H locs A ad ls C S L => lv_tableOut C.1 C.2.1 hd h ht (kk p e s m args below meth c H locs A ad ls C S L)
theorem ev_tableIn {df lo hi off : Int} {offs : Array Int} {len t : Nat} {x : Int32} (hd : decode me.2.2.1 pc = .ok (.tableswitch df lo hi offs, len)) (h1 : ¬ x.toInt < lo) (h2 : ¬ hi < x.toInt) (ho : offs[(x.toInt - lo).toNat]? = some off) (ht : (pc : Int) + off = (t : Int)) (kk : ab_Ev l D ac d me n0 mc ms r k n sh t lv st M) : ab_Ev l D ac d me n0 mc ms r k n sh pc lv (.int x :: st) M := fun p e s m args below meth c H locs A ad ls C S L => lv_tableIn C.1 C.2.1 hd h1 h2 ho ht (kk p e s m args below meth c H locs A ad ls C S L)
end ABev
end
section
/-! cells: fields, arrays; calls; returns; a contract out of its body -/
section ABheap
variable {l : Launch} {D : va_G} {ac : Nat → ClassId} {d : Nat} {me : ab_Me} {n0 mc ms : Nat} {r : ab_Rs} {k n : Nat} {sh : ab_H} {pc : Nat} {lv lv' : List (Option Value)} {st : List Value} {M : ab_M}
/-- what a field's link says: class own, entry idx, is field kf of class ci -/
def ab_FL (own : String) (idx ci kf : Nat) (ty : FieldType) (fin : Bool) : Prop := ∃ (C : String) (T : u_T) (N : Nat) (ty0 : Nat → FieldType), vwCl[ci]? = some (C, T, N) ∧ kf < N ∧ (∀ w ∈ u_ws C T N, w ∈ ab_G) ∧ (∀ j, j < N → parseFieldDescriptor (T j).2.2.1 = some (ty0 j)) ∧ (∀ a, a < N → ∀ b, b < N → a ≠ b → (T a).2.1 ≠ (T b).2.1) ∧ ty0 kf = ty ∧ (T kf).2.2.2 = fin ∧ (Cond.fieldLink own idx (T kf).1 (T kf).2.1 (T kf).2.2.1 ∈ ab_G ∨ ∃ host, Cond.fieldLinkNest own idx (T kf).1 (T kf).2.1 (T kf).2.2.1 host ∈ ab_nest)
theorem ev_geti {idx o ci nf kf : Nat} {rf : List (Option Nat)} {ty : FieldType} {fin : Bool} (hF : ab_FL me.2.1 idx ci kf ty fin) (hs : sh[o]? = some (ci, nf, rf)) (hci : ci < 100) (hk : kf < nf) (hr : ab_isR ci kf = false) (hd : decode me.2.2.1 pc = .ok (.getfield idx, 3)) (kk : ab_Ev l D ac d me n0 mc ms r k n sh (pc + 3) lv (.int (M.1 o kf) :: st) M) : ab_Ev l D ac d me n0 mc ms r k n sh pc lv (.ref o :: st) M := by
  intro p e s m args below meth c H locs A ad ls C S L
  obtain ⟨hx, hb, -, -, hown, hts, -, -, hK, hN⟩ := id C
  obtain ⟨Cn, T, N, ty0, hc, hkN, hin, -, -, -, -, hlink⟩ := hF
  have he : (ab_W ac ad sh M)[o]? = some (ad o, .inr (ci, (List.range nf).map (ab_fv ad M o (ci, nf, rf)))) := by rw [ab_W_get hs, ab_cell_obj hci]
  have hv : ((List.range nf).map (ab_fv ad M o (ci, nf, rf)))[kf]? = some (.int (M.1 o kf)) := by simp [hk, ab_fv, hr]
  have hin' : ∀ w ∈ u_ws Cn T N, w ∈ ab_ws me := fun w h => List.mem_cons_of_mem _ (hin w h)
  rcases hlink with hlink | ⟨host, hlink⟩
  · exact va_get hx hb hts hin' hown hK S.1 o he hc kf hkN (hts _ (List.mem_cons_of_mem _ hlink)) (fun _ h => h) hv hd (kk p e s m args below meth c H locs A ad ls C S L)
  · exact va_getN hx hb hts hin' hown hK S.1 o he hc kf hkN (va_Nw.use rfl (hN _ hlink)) (fun _ h => h) hv hd (kk p e s m args below meth c H locs A ad ls C S L)
theorem ev_getr {idx o o' ci nf kf : Nat} {rf : List (Option Nat)} {ty : FieldType} {fin : Bool} (hF : ab_FL me.2.1 idx ci kf ty fin) (hs : sh[o]? = some (ci, nf, rf)) (hci : ci < 100) (hk : kf < nf) (hr : ab_isR ci kf = true) (ho : rf.getD kf none = some o') (hd : decode me.2.2.1 pc = .ok (.getfield idx, 3)) (kk : ab_Ev l D ac d me n0 mc ms r k n sh (pc + 3) lv (.ref o' :: st) M) : ab_Ev l D ac d me n0 mc ms r k n sh pc lv (.ref o :: st) M := by
  intro p e s m args below meth c H locs A ad ls C S L
  obtain ⟨hx, hb, -, -, hown, hts, -, -, hK, hN⟩ := id C
  obtain ⟨Cn, T, N, ty0, hc, hkN, hin, -, -, -, -, hlink⟩ := hF
  have he : (ab_W ac ad sh M)[o]? = some (ad o, .inr (ci, (List.range nf).map (ab_fv ad M o (ci, nf, rf)))) := by rw [ab_W_get hs, ab_cell_obj hci]
  have hv : ((List.range nf).map (ab_fv ad M o (ci, nf, rf)))[kf]? = some (.ref (ad o')) := by
    rw [List.getElem?_map, List.getElem?_range hk]
    show some (ab_fv ad M o (ci, nf, rf) kf) = _
    unfold ab_fv
    rw [if_pos hr]
    show some (va_rf ((rf.getD kf none).map ad)) = _
    rw [ho]
    rfl
  have hin' : ∀ w ∈ u_ws Cn T N, w ∈ ab_ws me := fun w h => List.mem_cons_of_mem _ (hin w h)
  rcases hlink with hlink | ⟨host, hlink⟩
  · exact va_get hx hb hts hin' hown hK S.1 o he hc kf hkN (hts _ (List.mem_cons_of_mem _ hlink)) (fun _ h => h) hv hd (kk p e s m args below meth c H locs A ad ls C S L)
  · exact va_getN hx hb hts hin' hown hK S.1 o he hc kf hkN (va_Nw.use rfl (hN _ hlink)) (fun _ h => h) hv hd (kk p e s m args below meth c H locs A ad ls C S L)
theorem ev_puti {idx o ci nf kf : Nat} {rf : List (Option Nat)} {ty : FieldType} {x : Int32} (hF : ab_FL me.2.1 idx ci kf ty false) (hs : sh[o]? = some (ci, nf, rf)) (hci : ci < 100) (hk : kf < nf) (hr : ab_isR ci kf = false) (hn : narrow ty (.int x) = .int x) (hf : fits ty (.int x) = true) (hd : decode me.2.2.1 pc = .ok (.putfield idx, 3)) (kk : ab_Ev l D ac d me n0 mc ms r k n sh (pc + 3) lv st (ab_pi M o kf x)) : ab_Ev l D ac d me n0 mc ms r k n sh pc lv (.int x :: .ref o :: st) M := by
  intro p e s m args below meth c H locs A ad ls C S L
  obtain ⟨hx, hb, -, -, hown, hts, -, -, hK, hN⟩ := id C
  obtain ⟨hP, hD, hS, hA⟩ := S
  obtain ⟨Cn, T, N, ty0, hc, hkN, hin, hty, hnm, ht, hfin, hlink⟩ := hF
  subst ht
  have he : (ab_W ac ad sh M)[o]? = some (ad o, .inr (ci, (List.range nf).map (ab_fv ad M o (ci, nf, rf)))) := by rw [ab_W_get hs, ab_cell_obj hci]
  have hin' : ∀ w ∈ u_ws Cn T N, w ∈ ab_ws me := fun w h => List.mem_cons_of_mem _ (hin w h)
  have hset : (ab_W ac ad sh M).set o (ad o, .inr (ci, ((List.range nf).map (ab_fv ad M o (ci, nf, rf))).set kf (.int x))) = ab_W ac ad sh (ab_pi M o kf x) := by
    rw [ab_obj_set (x := (ci, nf, rf)) hr]
    exact ab_W_set hs (ab_cell_obj hci) (fun j y hj => ab_cell_i hj)
  have hl : kf < ((List.range nf).map (ab_fv ad M o (ci, nf, rf))).length := by simpa using hk
  rcases hlink with hlink | ⟨host, hlink⟩
  · refine va_put (v := .int x) hx hb hts hin' ty0 hty hnm hown hK hP hD hS o he hc kf hkN (hts _ (List.mem_cons_of_mem _ hlink)) (fun _ h => h) hfin (hty kf hkN) hn hf hl hd (fun H1 locs1 hP hD hS => ?_)
    rw [hset] at hP hD
    exact kk p e s m args below meth c H1 locs1 A ad ls C ⟨hP, hD, hS, hA⟩ L
  · refine va_putN (v := .int x) hx hb hts hin' ty0 hty hnm hown hK hP hD hS o he hc kf hkN (va_Nw.use rfl (hN _ hlink)) (fun _ h => h) hfin (hty kf hkN) hn hf hl hd (fun H1 locs1 hP hD hS => ?_)
    rw [hset] at hP hD
    exact kk p e s m args below meth c H1 locs1 A ad ls C ⟨hP, hD, hS, hA⟩ L
/-! arrays -/
theorem ab_ci {ac : Nat → ClassId} {ad : Nat → Nat} {M : ab_M} {id nn : Nat} {rf : List (Option Nat)} : ab_cell ac ad M id (100, nn, rf) = .inl (ac 100, nn, .inl (M.1 id)) := by simp [ab_cell]
theorem ab_cb {ac : Nat → ClassId} {ad : Nat → Nat} {M : ab_M} {id nn : Nat} {rf : List (Option Nat)} : ab_cell ac ad M id (101, nn, rf) = .inl (ac 101, nn, .inl (M.1 id)) := by simp [ab_cell]
theorem ab_cl {ac : Nat → ClassId} {ad : Nat → Nat} {M : ab_M} {id nn : Nat} {rf : List (Option Nat)} : ab_cell ac ad M id (102, nn, rf) = .inl (ac 102, nn, .inr (.inl (M.2 id))) := by simp [ab_cell]
theorem ab_cr {ac : Nat → ClassId} {ad : Nat → Nat} {M : ab_M} {id nn ct : Nat} {rf : List (Option Nat)} (h : 102 < ct) : ab_cell ac ad M id (ct, nn, rf) = .inl (ac ct, nn, .inr (.inr (.inr (.inr (fun j => (rf.getD j none).map ad))))) := by
  have h1 : ¬ ct < 100 := by omega
  have h2 : ¬ ct < 102 := by omega
  have h3 : ¬ ct = 102 := by omega
  simp [ab_cell, h1, h2, h3]
theorem ab_upd (M : ab_M) (o j : Nat) (x : Int32) : (ab_pi M o j x).1 o = upd (M.1 o) j x := by funext b; simp [ab_pi, upd]
theorem ab_updL (M : ab_M) (o j : Nat) (x : Int64) : (ab_pl M o j x).2 o = vp_updL (M.2 o) j x := by funext b; simp [ab_pl, vp_updL]
theorem ev_iaload {o nn : Nat} {rf : List (Option Nat)} {i : Int32} (hs : sh[o]? = some (100, nn, rf)) (hin : vp_in i nn) (hd : decode me.2.2.1 pc = .ok (.iaload, 1)) (kk : ab_Ev l D ac d me n0 mc ms r k n sh (pc + 1) lv (.int (M.1 o i.toNatClampNeg) :: st) M) : ab_Ev l D ac d me n0 mc ms r k n sh pc lv (.int i :: .ref o :: st) M := by
  intro p e s m args below meth c H locs A ad ls C S L
  exact va_iald C.1 C.2.1 C.2.2.2.2.2.2.2.2.1 S.1 o 0 ((ab_W_get hs).trans (by rw [ab_ci])) rfl hin hd (kk p e s m args below meth c H locs A ad ls C S L)
theorem ev_baload {o nn : Nat} {rf : List (Option Nat)} {i : Int32} (hs : sh[o]? = some (101, nn, rf)) (hin : vp_in i nn) (hd : decode me.2.2.1 pc = .ok (.baload, 1)) (kk : ab_Ev l D ac d me n0 mc ms r k n sh (pc + 1) lv (.int (M.1 o i.toNatClampNeg) :: st) M) : ab_Ev l D ac d me n0 mc ms r k n sh pc lv (.int i :: .ref o :: st) M := by
  intro p e s m args below meth c H locs A ad ls C S L
  exact va_bald C.1 C.2.1 C.2.2.2.2.2.2.2.2.1 S.1 o 1 ((ab_W_get hs).trans (by rw [ab_cb])) rfl hin hd (kk p e s m args below meth c H locs A ad ls C S L)
theorem ev_laload {o nn : Nat} {rf : List (Option Nat)} {i : Int32} (hs : sh[o]? = some (102, nn, rf)) (hin : vp_in i nn) (hd : decode me.2.2.1 pc = .ok (.laload, 1)) (kk : ab_Ev l D ac d me n0 mc ms r k n sh (pc + 1) lv (.long (M.2 o i.toNatClampNeg) :: st) M) : ab_Ev l D ac d me n0 mc ms r k n sh pc lv (.int i :: .ref o :: st) M := by
  intro p e s m args below meth c H locs A ad ls C S L
  exact va_lald C.1 C.2.1 C.2.2.2.2.2.2.2.2.1 S.1 o 2 ((ab_W_get hs).trans (by rw [ab_cl])) rfl hin hd (kk p e s m args below meth c H locs A ad ls C S L)
theorem ev_aaload {o o' ct nn : Nat} {rf : List (Option Nat)} {i : Int32} (hs : sh[o]? = some (ct, nn, rf)) (hct : ct = 103 ∨ ct = 104) (hin : vp_in i nn) (ho : rf.getD i.toNatClampNeg none = some o') (hd : decode me.2.2.1 pc = .ok (.aaload, 1)) (kk : ab_Ev l D ac d me n0 mc ms r k n sh (pc + 1) lv (.ref o' :: st) M) : ab_Ev l D ac d me n0 mc ms r k n sh pc lv (.int i :: .ref o :: st) M := by
  intro p e s m args below meth c H locs A ad ls C S L
  have kk := kk p e s m args below meth c H locs A ad ls C S L
  rcases hct with rfl | rfl
  · refine va_aldq C.1 C.2.1 C.2.2.2.2.2.2.2.2.1 S.1 o 3 ((ab_W_get hs).trans (by rw [ab_cr (by decide)])) rfl hin hd ?_
    show W p l e (ab_rm d mc ms) s m args below meth c H locs k n _ (F0 m (pc + 1) ls (va_rf ((rf.getD i.toNatClampNeg none).map ad) :: st.map (ab_v ad)))
    rw [ho]
    exact kk
  · refine va_aldq C.1 C.2.1 C.2.2.2.2.2.2.2.2.1 S.1 o 4 ((ab_W_get hs).trans (by rw [ab_cr (by decide)])) rfl hin hd ?_
    show W p l e (ab_rm d mc ms) s m args below meth c H locs k n _ (F0 m (pc + 1) ls (va_rf ((rf.getD i.toNatClampNeg none).map ad) :: st.map (ab_v ad)))
    rw [ho]
    exact kk
theorem ev_iastore {o nn : Nat} {rf : List (Option Nat)} {i x : Int32} (hs : sh[o]? = some (100, nn, rf)) (hin : vp_in i nn) (hd : decode me.2.2.1 pc = .ok (.iastore, 1)) (kk : ab_Ev l D ac d me n0 mc ms r k n sh (pc + 1) lv st (ab_pi M o i.toNatClampNeg x)) : ab_Ev l D ac d me n0 mc ms r k n sh pc lv (.int x :: .int i :: .ref o :: st) M := by
  intro p e s m args below meth c H locs A ad ls C S L
  obtain ⟨hP, hD, hS, hA⟩ := S
  have hset : (ab_W ac ad sh M).set o (ad o, .inl (ac 100, nn, .inl (upd (M.1 o) i.toNatClampNeg x))) = ab_W ac ad sh (ab_pi M o i.toNatClampNeg x) := ab_W_set hs (by rw [ab_ci, ab_upd]) (fun j y hj => ab_cell_i hj)
  refine va_iast C.1 C.2.1 C.2.2.2.2.2.2.2.2.1 hP hD hS o 0 ((ab_W_get hs).trans (by rw [ab_ci])) rfl hin hd (fun H1 locs1 hP hD hS => ?_)
  rw [hset] at hP hD
  exact kk p e s m args below meth c H1 locs1 A ad ls C ⟨hP, hD, hS, hA⟩ L
theorem ev_bastore {o nn : Nat} {rf : List (Option Nat)} {i x : Int32} (hs : sh[o]? = some (101, nn, rf)) (hin : vp_in i nn) (hd : decode me.2.2.1 pc = .ok (.bastore, 1)) (kk : ab_Ev l D ac d me n0 mc ms r k n sh (pc + 1) lv st (ab_pi M o i.toNatClampNeg x.toInt8.toInt32)) : ab_Ev l D ac d me n0 mc ms r k n sh pc lv (.int x :: .int i :: .ref o :: st) M := by
  intro p e s m args below meth c H locs A ad ls C S L
  obtain ⟨hP, hD, hS, hA⟩ := S
  have hset : (ab_W ac ad sh M).set o (ad o, .inl (ac 101, nn, .inl (upd (M.1 o) i.toNatClampNeg (vp_nar .byte x)))) = ab_W ac ad sh (ab_pi M o i.toNatClampNeg x.toInt8.toInt32) := ab_W_set hs (by rw [ab_cb, ab_upd, vp_nar_byte]) (fun j y hj => ab_cell_i hj)
  refine va_bast C.1 C.2.1 C.2.2.2.2.2.2.2.2.1 hP hD hS o 1 ((ab_W_get hs).trans (by rw [ab_cb])) rfl hin hd (fun H1 locs1 hP hD hS => ?_)
  rw [hset] at hP hD
  exact kk p e s m args below meth c H1 locs1 A ad ls C ⟨hP, hD, hS, hA⟩ L
theorem ev_lastore {o nn : Nat} {rf : List (Option Nat)} {i : Int32} {x : Int64} (hs : sh[o]? = some (102, nn, rf)) (hin : vp_in i nn) (hd : decode me.2.2.1 pc = .ok (.lastore, 1)) (kk : ab_Ev l D ac d me n0 mc ms r k n sh (pc + 1) lv st (ab_pl M o i.toNatClampNeg x)) : ab_Ev l D ac d me n0 mc ms r k n sh pc lv (.long x :: .int i :: .ref o :: st) M := by
  intro p e s m args below meth c H locs A ad ls C S L
  obtain ⟨hP, hD, hS, hA⟩ := S
  have hset : (ab_W ac ad sh M).set o (ad o, .inl (ac 102, nn, .inr (.inl (vp_updL (M.2 o) i.toNatClampNeg x)))) = ab_W ac ad sh (ab_pl M o i.toNatClampNeg x) := ab_W_set hs (by rw [ab_cl, ab_updL]) (fun j y hj => ab_cell_l hj)
  refine va_last C.1 C.2.1 C.2.2.2.2.2.2.2.2.1 hP hD hS o 2 ((ab_W_get hs).trans (by rw [ab_cl])) rfl hin hd (fun H1 locs1 hP hD hS => ?_)
  rw [hset] at hP hD
  exact kk p e s m args below meth c H1 locs1 A ad ls C ⟨hP, hD, hS, hA⟩ L
theorem ev_alen {o nn ct : Nat} {rf : List (Option Nat)} {x : Int32} (hs : sh[o]? = some (ct, nn, rf)) (hct : ct = 100 ∨ ct = 101 ∨ ct = 102) (hx : Int32.ofNat nn = x) (hd : decode me.2.2.1 pc = .ok (.arraylength, 1)) (kk : ab_Ev l D ac d me n0 mc ms r k n sh (pc + 1) lv (.int x :: st) M) : ab_Ev l D ac d me n0 mc ms r k n sh pc lv (.ref o :: st) M := by
  intro p e s m args below meth c H locs A ad ls C S L
  have kk := kk p e s m args below meth c H locs A ad ls C S L
  rcases hct with rfl | rfl | rfl
  · exact va_alen C.1 C.2.1 C.2.2.2.2.2.2.2.2.1 S.1 o 0 ((ab_W_get hs).trans (by rw [ab_ci])) rfl hx hd kk
  · exact va_alen C.1 C.2.1 C.2.2.2.2.2.2.2.2.1 S.1 o 1 ((ab_W_get hs).trans (by rw [ab_cb])) rfl hx hd kk
  · exact va_alen C.1 C.2.1 C.2.2.2.2.2.2.2.2.1 S.1 o 2 ((ab_W_get hs).trans (by rw [ab_cl])) rfl hx hd kk
/-! returns -/
theorem ev_ireturn {x : Int32} (hr : me.2.2.2.2 = some .int) (hd : decode me.2.2.1 pc = .ok (.ireturn, 1)) : ab_Ev l D ac d me n0 mc ms (some (.int x), sh, M) mc ms sh pc lv [.int x] M := by
  intro p e s m args below meth c H locs A ad ls C S L
  obtain ⟨hx, hb, hrt, hml, hown, hts, hlk, hnm, hK, hN⟩ := C
  obtain ⟨hP, hD, hS, hA⟩ := S
  exact W.iret hx hb (hrt.trans hr) (fun t ht hW => ⟨⟨ad, rfl, fun _ _ => rfl, fun _ => rfl, by rw [ht]; exact hP, va_K.moved hW.alike hK, hD⟩, hS.F ht⟩) hS.2.2 hd hlk
theorem ev_zreturn {x : Int32} (hr : me.2.2.2.2 = some .boolean) (hv : x = 0 ∨ x = 1) (hd : decode me.2.2.1 pc = .ok (.ireturn, 1)) : ab_Ev l D ac d me n0 mc ms (some (.int x), sh, M) mc ms sh pc lv [.int x] M := by
  intro p e s m args below meth c H locs A ad ls C S L
  obtain ⟨hx, hb, hrt, hml, hown, hts, hlk, hnm, hK, hN⟩ := C
  obtain ⟨hP, hD, hS, hA⟩ := S
  exact W.zret hx hb (hrt.trans hr) (by rcases hv with rfl | rfl <;> rfl) (fun t ht hW => ⟨⟨ad, rfl, fun _ _ => rfl, fun _ => rfl, by rw [ht]; exact hP, va_K.moved hW.alike hK, hD⟩, hS.F ht⟩) hS.2.2 hd hlk
theorem ev_lreturn {x : Int64} (hr : me.2.2.2.2 = some .long) (hd : decode me.2.2.1 pc = .ok (.lreturn, 1)) : ab_Ev l D ac d me n0 mc ms (some (.long x), sh, M) mc ms sh pc lv [.long x] M := by
  intro p e s m args below meth c H locs A ad ls C S L
  obtain ⟨hx, hb, hrt, hml, hown, hts, hlk, hnm, hK, hN⟩ := C
  obtain ⟨hP, hD, hS, hA⟩ := S
  exact W.lret hx hb (hrt.trans hr) (fun t ht hW => ⟨⟨ad, rfl, fun _ _ => rfl, fun _ => rfl, by rw [ht]; exact hP, va_K.moved hW.alike hK, hD⟩, hS.F ht⟩) hS.2.2 hd hlk
theorem ev_areturn {o : Nat} {ty : FieldType} (hr : me.2.2.2.2 = some (.array ty)) (hd : decode me.2.2.1 pc = .ok (.areturn, 1)) : ab_Ev l D ac d me n0 mc ms (some (.ref o), sh, M) mc ms sh pc lv [.ref o] M := by
  intro p e s m args below meth c H locs A ad ls C S L
  obtain ⟨hx, hb, hrt, hml, hown, hts, hlk, hnm, hK, hN⟩ := C
  obtain ⟨hP, hD, hS, hA⟩ := S
  exact W.aret hx hb (hrt.trans hr) (Or.inr ⟨_, rfl⟩) (Or.inr ⟨_, rfl⟩) (fun t ht hW => ⟨⟨ad, rfl, fun _ _ => rfl, fun _ => rfl, by rw [ht]; exact hP, va_K.moved hW.alike hK, hD⟩, hS.F ht⟩) hS.2.2 hd hlk
theorem ev_return (hr : me.2.2.2.2 = none) (hd : decode me.2.2.1 pc = .ok (.return_, 1)) : ab_Ev l D ac d me n0 mc ms (none, sh, M) mc ms sh pc lv [] M := by
  intro p e s m args below meth c H locs A ad ls C S L
  obtain ⟨hx, hb, hrt, hml, hown, hts, hlk, hnm, hK, hN⟩ := C
  obtain ⟨hP, hD, hS, hA⟩ := S
  exact W.vret hx hb (hrt.trans hr) (fun t ht hW => ⟨⟨ad, rfl, fun _ _ => rfl, fun _ => rfl, by rw [ht]; exact hP, va_K.moved hW.alike hK, hD⟩, hS.F ht⟩) hS.2.2 hd hlk
/-! a contract out of its body -/
def ab_ent (av : List Value) : List (Option Value) := av.flatMap (fun v => if v.category = 2 then [some v, none] else [some v])
theorem ab_ent_args (ad : Nat → Nat) : ∀ (av : List Value) (b i : Nat) (v : Value), (ab_ent av)[i]? = some (some v) → (b + i, ab_v ad v) ∈ lv_args b (av.map (ab_v ad))
  | [], b, i, v, h => by simp [ab_ent] at h
  | a :: av, b, i, v, h => by
    have ih := ab_ent_args ad av
    show (b + i, ab_v ad v) ∈ (b, ab_v ad a) :: lv_args (if (ab_v ad a).category = 2 then b + 2 else b + 1) (av.map (ab_v ad))
    rw [ab_vc]
    by_cases hc : a.category = 2
    · have he : ab_ent (a :: av) = some a :: none :: ab_ent av := by simp [ab_ent, hc]
      rw [he] at h
      rw [if_pos hc]
      match i, h with
      | 0, h => simp at h; subst h; exact List.mem_cons_self
      | 1, h => simp at h
      | i + 2, h =>
        have := ih (b + 2) i v (by simpa using h)
        rw [show b + (i + 2) = b + 2 + i by omega]
        exact List.mem_cons_of_mem _ this
    · have he : ab_ent (a :: av) = some a :: ab_ent av := by simp [ab_ent, hc]
      rw [he] at h
      rw [if_neg hc]
      match i, h with
      | 0, h => simp at h; subst h; exact List.mem_cons_self
      | i + 1, h =>
        have := ih (b + 1) i v (by simpa using h)
        rw [show b + (i + 1) = b + 1 + i by omega]
        exact List.mem_cons_of_mem _ this
theorem ab_ent_len (ad : Nat → Nat) (av : List Value) : (lg_sl (av.map (ab_v ad))).length = (ab_ent av).length := by
  induction av with
  | nil => rfl
  | cons a av ih =>
    simp only [lg_sl, ab_ent, List.map_cons, List.flatMap_cons, List.length_append, ab_vc] at ih ⊢
    rw [ih]
    by_cases hc : a.category = 2 <;> simp [hc]
theorem ab_intro {av : List Value} (hpl : plainName me.1.cls = true) (hcls : me.1.cls = me.2.1) (hlen : (ab_ent av).length ≤ me.2.2.2.1) (hlv : ab_ent av ++ List.replicate (me.2.2.2.1 - (ab_ent av).length) none = lv) (kk : ab_Ev l D ac d me sh.length mc ms r 0 0 sh 0 lv [] M) : ab_Con l D ac d me mc ms av sh M r := by
  intro ad sz
  refine Met.ofW (cc := me.2.2.1) (maxL := me.2.2.2.1) (ret := me.2.2.2.2) hpl rfl ?_
  intro p e s m args below meth c s₁ B hml hv
  obtain ⟨rfl, hsz, hP, hK, hD0, hN⟩ := hv
  have hts := atoms_spec (ws := ab_ws me) B.pre
  have hown : s.vm.findClass me.1.cls = some m.cls := findClass_of_methodNamed B.named
  subst hsz
  have hD := hD0.self (sz := s.heap.size)
  have hl := lv_entry (av.map (ab_v ad)) (n := me.2.2.2.1) (by rw [ab_ent_len]; exact hlen)
  rw [lg_entry_eq]
  refine kk p e s m _ below meth c s.heap [] (va_A (ab_W ac ad sh M) s.heap.size) ad _ ⟨B.exec, B.bytes, B.returns, hml, by rw [← hcls]; exact hown, hts, B.notSynchronized, (name_of_methodNamed B.named B.method).1, hK, hN⟩ ⟨hP, hD, va_S.rf, fun q h => Or.inr h⟩ ⟨hl.1, hl.2.1, ?_, fun i v hi => ?_⟩
  · rw [← hlv, List.length_append, List.length_replicate]; omega
  · rw [← hlv] at hi
    by_cases hlt : i < (ab_ent av).length
    · rw [List.getElem?_append_left hlt] at hi
      have := hl.2.2 _ (ab_ent_args ad av 0 i v hi)
      simpa using this
    · rw [List.getElem?_append_right (Nat.not_lt.mp hlt), List.getElem?_replicate] at hi
      split at hi <;> cases hi
/-! calls -/
theorem ab_callW {p : Program} {e : Env} {R : Room} {s : State} {m : MethodId} {args : Array Value} {below : List Frame} {meth : Method} {c : Code} {H : Heap} {locs : List Loc} {cells slots : Nat} {Q : State → Prop} {pc : Nat} {ls : Array Slot} {rest st0 : List Value} {a : Array Value} {A0 A1 : Nat → Prop} {mc ms n1 : Nat} {free : Addr → Prop} {ad : Nat → Nat} {r : ab_Rs}
    (hr : va_Run p l e R s m args below meth c H locs cells slots mc ms (F0 m pc ls st0) rest (ab_Qc D ac A1 ad n1 r a) free) (hS : va_S A0 s.heap H locs) (hA : ∀ q, q < H.size → A1 q → A0 q) (hf : ∀ q, free q → A0 q)
    (kk : ∀ (ad' : Nat → Nat) (t : State) (H1 : Heap) (locs1 : List Loc), t.heap = H1 → s.vm.Alike t.vm → (∀ i, i < n1 → ad' i = ad i) → (r.2.1.length ≤ n1 → ad' = ad) → va_P D vwCl (ab_W ac ad' r.2.1 r.2.2) H1 → va_D A1 (ab_W ac ad' r.2.1 r.2.2) → H.size ≤ H1.size → (∀ q : Nat, q < H.size → ¬ A1 q → H1[q]? = H[q]?) → va_S A0 s.heap H1 locs1 → W p l e R s m args below meth c H1 locs1 (cells + mc) (slots + ms) Q (F0 m (pc + 3) ls ((r.1.map (ab_v ad')).toList ++ rest))) : W p l e R s m args below meth c H locs cells slots Q (F0 m pc ls st0) := by
  intro T hT X
  obtain ⟨v, st₀, t, T', L, h0, X', hL, e1, e2, ⟨⟨ad', hv, ha1, ha2, hp, hk1, hd1⟩, hz, hk⟩, st⟩ := hr T hT X
  cases hv
  rw [h0] at hz hk
  obtain ⟨t2, a1, b1⟩ := kk ad' t T'.heap (locs ++ L) e1.symm (by rw [← e2]; exact X'.warmed.alike) ha1 ha2 (by rw [e1]; exact hp) hd1 (by rw [e1]; exact hz) (fun q h1 h2 => by rw [e1]; exact hk q h1 h2)
    ⟨Nat.le_trans hS.1 (by rw [e1]; exact hz), fun q h1 h2 => by rw [e1, hk q (Nat.lt_of_lt_of_le h1 hS.1) (fun z => h2 (hA q (Nat.lt_of_lt_of_le h1 hS.1) z))]; exact hS.2.1 q h1 h2, fun q hq => by
      rcases List.mem_append.mp hq with h | h
      · exact hS.2.2 q h
      · exact hf _ (hL q h)⟩ T' rfl X'
  exact ⟨t2, st t2 a1, b1⟩
/-- what is known of a method that is called -/
def ab_MV (me : ab_Me) (ci np : Nat) : Prop := Cond.code me.1 me.2.2.1 me.2.2.2.1 me.2.2.2.2 ∈ ab_G ∧ Cond.instanceMethod me.1 ∈ ab_G ∧ Cond.selects me.1.cls me.1 me.1 ∈ ab_G ∧ Cond.initialized me.1.cls ∈ ab_G ∧ (me.1.cls ≠ "java/lang/invoke/MethodHandle" ∧ me.1.cls ≠ "java/lang/invoke/VarHandle" ∧ (parseMethodDescriptor me.1.desc).map (fun d => d.parameters.length) = some np) ∧ me.2.2.2.1 ≤ 29 ∧ ci < 100 ∧ ∃ T N, vwCl[ci]? = some (me.1.cls, T, N)
def ab_MS (me : ab_Me) (np : Nat) : Prop := Cond.code me.1 me.2.2.1 me.2.2.2.1 me.2.2.2.2 ∈ ab_G ∧ Cond.static me.1 ∈ ab_G ∧ Cond.initialized me.1.cls ∈ ab_G ∧ (me.1.cls ≠ "java/lang/invoke/MethodHandle" ∧ me.1.cls ≠ "java/lang/invoke/VarHandle" ∧ (parseMethodDescriptor me.1.desc).map (fun d => d.parameters.length) = some np) ∧ me.2.2.2.1 ≤ 29
theorem ab_blind {av : List Value} {sz : Nat} {ad : Nat → Nat} : FrameBlind (va_Pc av (fun U => U.heap.size = sz ∧ va_P D vwCl (ab_W ac ad sh M) U.heap ∧ va_K D vwCl (ab_tys ac) U ∧ va_D (fun _ => True) (ab_W ac ad sh M) ∧ ab_N U)) := by
  intro a U g mk q
  obtain ⟨q0, q1, qP, qK, qD, qN⟩ := q
  exact ⟨q0, q1, qP, va_K.moved (u := U) (U := U.calling g mk a) (Vm.Alike.refl U.vm) qK, qD, ab_N.same (s := U) (U := U.calling g mk a) rfl qN⟩
theorem ab_freeW {A : Nat → Prop} {ws : va_W} {H0 H : Heap} {locs : List Loc} (hD : va_D A ws) (hS : va_S A H0 H locs) (hA : ∀ q, H0.size ≤ q → A q) : ∀ q, va_A ws H.size q → A q := by
  intro q h
  rcases h with ⟨k, e, h⟩ | h
  · exact hD.2 k (q, e) h
  · exact hA q (Nat.le_trans hS.1 h)
theorem ev_callV {me' : ab_Me} {d' idx o ci nf : Nat} {rf : List (Option Nat)} {as sk : List Value} {rv : Option Value} {M' : ab_M} (hc : ab_Con l D ac d' me' 0 0 (.ref o :: as) sh M (rv, sh, M')) (hm : ab_MV me' ci as.length) (hs : sh[o]? = some (ci, nf, rf)) (hl : Cond.methodLink me.2.1 idx me'.1 ∈ ab_G) (hd : decode me.2.2.1 pc = .ok (.invokevirtual idx, 3)) (hdd : d' < d) (hk1 : sk = as.reverse ++ .ref o :: st) (hst : (st.map fun v => v.category).sum ≤ 8) (hkn : k ≤ mc ∧ n ≤ ms)
    (kk : ab_Ev l D ac d me n0 mc ms r k n sh (pc + 3) lv (rv.toList ++ st) M') : ab_Ev l D ac d me n0 mc ms r k n sh pc lv sk M := by
  intro p e s m args below meth c H locs A ad ls C S L
  obtain ⟨hx, hb, hrt, hml, hown, hts, hlk, hnm, hK, hN⟩ := id C
  obtain ⟨hP, hD, hS, hA⟩ := S
  obtain ⟨h1, h2, h3, h4, h5, h6, h7, T, N, h8⟩ := hm
  have he : (ab_W ac ad sh M)[o]? = some (ad o, .inr (ci, (List.range nf).map (ab_fv ad M o (ci, nf, rf)))) := by rw [ab_W_get hs, ab_cell_obj h7]
  have hF := ab_freeW hD hS hA
  have hG : GoodIn (ab_ws me) (wsV me.2.1 idx me'.1.cls me'.1 (ab_ws me')) := by
    intro w hw
    unfold wsV at hw
    rcases List.mem_append.mp hw with hw | hw
    · simp only [List.mem_cons, List.not_mem_nil, or_false] at hw
      rcases hw with rfl | rfl | rfl | rfl
      · exact ab_good1 hl
      · exact ab_good1 h2
      · exact ab_good1 h3
      · exact ab_good1 h4
    · exact ab_goodIn h1 w hw
  refine ab_callW (va_runV (As := as.map (ab_v ad)) (rest := st.map (ab_v ad)) (C := me'.1.cls) (b := ad o) ⟨hx, hb, hml, hown, hts⟩ (hc ad H.size) (cwV as.length hts hG rfl rfl rfl ⟨rfl, h5⟩ ⟨by show d' + 1 ≤ d; omega, by show 8 + (me'.2.2.2.1 + 11) + 48 * d' ≤ 48 * d; omega⟩) ⟨ab_blind, va_recv hK hP h8 he, fun U hU hW => ⟨rfl, by rw [hU], by rw [hU]; exact hP, va_K.moved hW.alike hK, hD.weaken (fun _ _ _ _ => trivial), ab_N.warm hW hN⟩⟩ rfl (by simp) L.1 (by subst hk1; simp [ab_v]) (lv_room (by rw [ab_vcs]; exact hst)) hd ⟨by simpa using hkn.1, by simpa using hkn.2⟩) hS (fun q _ h => hF q h) hF (fun ad' t H1 locs1 ht hvm ha1 ha2 hP1 hD1 hz hk hS1 => ?_)
  have e1 : ad' = ad := ha2 (Nat.le_refl _)
  subst e1
  have := kk p e s m args below meth c H1 locs1 A ad' ls C ⟨hP1, hD1.weaken (fun _ _ _ h => hF _ h), hS1, hA⟩ L
  rw [show (rv.toList ++ st).map (ab_v ad') = (rv.map (ab_v ad')).toList ++ st.map (ab_v ad') by cases rv <;> rfl] at this
  exact this
theorem ev_callS {me' : ab_Me} {d' idx : Nat} {as sk : List Value} {rv : Option Value} {M' : ab_M} (hc : ab_Con l D ac d' me' 0 0 as sh M (rv, sh, M')) (hm : ab_MS me' as.length) (hl : Cond.methodLink me.2.1 idx me'.1 ∈ ab_G) (hd : decode me.2.2.1 pc = .ok (.invokestatic idx, 3)) (hdd : d' < d) (hk1 : sk = as.reverse ++ st) (hst : (st.map fun v => v.category).sum ≤ 8) (hkn : k ≤ mc ∧ n ≤ ms)
    (kk : ab_Ev l D ac d me n0 mc ms r k n sh (pc + 3) lv (rv.toList ++ st) M') : ab_Ev l D ac d me n0 mc ms r k n sh pc lv sk M := by
  intro p e s m args below meth c H locs A ad ls C S L
  obtain ⟨hx, hb, hrt, hml, hown, hts, hlk, hnm, hK, hN⟩ := id C
  obtain ⟨hP, hD, hS, hA⟩ := S
  obtain ⟨h1, h2, h4, h5, h6⟩ := hm
  have hF := ab_freeW hD hS hA
  refine ab_callW (va_runS (As := as.map (ab_v ad)) (rest := st.map (ab_v ad)) ⟨hx, hb, hml, hown, hts⟩ (hc ad H.size) ⟨callB_of as.length hts (ab_goodIn h1) rfl rfl rfl (hts _ (List.mem_cons_of_mem _ h4)) (hts _ (List.mem_cons_of_mem _ hl)) h5 ⟨by show d' + 1 ≤ d; omega, by show 8 + (me'.2.2.2.1 + 11) + 48 * d' ≤ 48 * d; omega⟩, hts _ (List.mem_cons_of_mem _ h2)⟩ ⟨ab_blind, fun U hU hW => ⟨rfl, by rw [hU], by rw [hU]; exact hP, va_K.moved hW.alike hK, hD.weaken (fun _ _ _ _ => trivial), ab_N.warm hW hN⟩⟩ rfl (by simp) L.1 (by subst hk1; simp) (lv_room (by rw [ab_vcs]; exact hst)) hd ⟨by simpa using hkn.1, by simpa using hkn.2⟩) hS (fun q _ h => hF q h) hF (fun ad' t H1 locs1 ht hvm ha1 ha2 hP1 hD1 hz hk hS1 => ?_)
  have e1 : ad' = ad := ha2 (Nat.le_refl _)
  subst e1
  have := kk p e s m args below meth c H1 locs1 A ad' ls C ⟨hP1, hD1.weaken (fun _ _ _ h => hF _ h), hS1, hA⟩ L
  rw [show (rv.toList ++ st).map (ab_v ad') = (rv.map (ab_v ad')).toList ++ st.map (ab_v ad') by cases rv <;> rfl] at this
  exact this
theorem ev_callSN {me' : ab_Me} {d' idx : Nat} {host : String} {as sk : List Value} {rv : Option Value} {M' : ab_M} (hc : ab_Con l D ac d' me' 0 0 as sh M (rv, sh, M')) (hm : ab_MS me' as.length) (hl : Cond.methodLinkNest me.2.1 idx me'.1 host ∈ ab_nest) (hd : decode me.2.2.1 pc = .ok (.invokestatic idx, 3)) (hdd : d' < d) (hk1 : sk = as.reverse ++ st) (hst : (st.map fun v => v.category).sum ≤ 8) (hkn : k ≤ mc ∧ n ≤ ms)
    (kk : ab_Ev l D ac d me n0 mc ms r k n sh (pc + 3) lv (rv.toList ++ st) M') : ab_Ev l D ac d me n0 mc ms r k n sh pc lv sk M := by
  intro p e s m args below meth c H locs A ad ls C S L
  obtain ⟨hx, hb, hrt, hml, hown, hts, hlk, hnm, hK, hN⟩ := id C
  obtain ⟨hP, hD, hS, hA⟩ := S
  obtain ⟨h1, h2, h4, h5, h6⟩ := hm
  have hF := ab_freeW hD hS hA
  refine ab_callW (va_runSN (As := as.map (ab_v ad)) (rest := st.map (ab_v ad)) ⟨hx, hb, hml, hown, hts⟩ (hc ad H.size) ⟨va_cnB as.length hts (ab_goodIn h1) rfl rfl rfl (hN _ hl) (hts _ (List.mem_cons_of_mem _ h4)) h5 ⟨by show d' + 1 ≤ d; omega, by show 8 + (me'.2.2.2.1 + 11) + 48 * d' ≤ 48 * d; omega⟩, hts _ (List.mem_cons_of_mem _ h2), trivial⟩ ⟨ab_blind, fun U hU hW => ⟨rfl, by rw [hU], by rw [hU]; exact hP, va_K.moved hW.alike hK, hD.weaken (fun _ _ _ _ => trivial), ab_N.warm hW hN⟩⟩ rfl (by simp) L.1 (by subst hk1; simp) (lv_room (by rw [ab_vcs]; exact hst)) hd ⟨by simpa using hkn.1, by simpa using hkn.2⟩) hS (fun q _ h => hF q h) hF (fun ad' t H1 locs1 ht hvm ha1 ha2 hP1 hD1 hz hk hS1 => ?_)
  have e1 : ad' = ad := ha2 (Nat.le_refl _)
  subst e1
  have := kk p e s m args below meth c H1 locs1 A ad' ls C ⟨hP1, hD1.weaken (fun _ _ _ h => hF _ h), hS1, hA⟩ L
  rw [show (rv.toList ++ st).map (ab_v ad') = (rv.map (ab_v ad')).toList ++ st.map (ab_v ad') by cases rv <;> rfl] at this
  exact this
end ABheap
end
