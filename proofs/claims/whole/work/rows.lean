section
-- ===== PART A: goes FIRST, ahead of the names: the tables' words, and 'selects' of the private methods out of them =====
/-- a private method of a class that the tables say can be made, by its rows of tables_1 -/
def lw_okq (q : MethodName × Nat) : Prop := (q.1.cls ≠ "java/lang/invoke/MethodHandle" ∧ q.1.cls ≠ "java/lang/invoke/VarHandle") ∧ Cond.instantiable q.1.cls q.2 ∈ tables_1 ∧ Cond.privateMethod q.1 ∈ tables_1 ∧ Cond.instanceMethod q.1 ∈ tables_1
theorem lw_p0 : lw_okq (⟨"WavePlan$Land", "freshBar", "(II)I"⟩, 11) := ⟨⟨by decide +kernel, by decide +kernel⟩, List.mem_of_getElem? (i := 31) (by decide +kernel), List.mem_of_getElem? (i := 340) (by decide +kernel), List.mem_of_getElem? (i := 341) (by decide +kernel)⟩
theorem lw_p1 : lw_okq (⟨"WavePlan$Judge", "lackAt", "(IIII)I"⟩, 2) := ⟨⟨by decide +kernel, by decide +kernel⟩, List.mem_of_getElem? (i := 180) (by decide +kernel), List.mem_of_getElem? (i := 486) (by decide +kernel), List.mem_of_getElem? (i := 487) (by decide +kernel)⟩
theorem lw_p2 : lw_okq (⟨"WavePlan$Judge", "sumTogether", "([IIII)Z"⟩, 2) := ⟨⟨by decide +kernel, by decide +kernel⟩, List.mem_of_getElem? (i := 180) (by decide +kernel), List.mem_of_getElem? (i := 501) (by decide +kernel), List.mem_of_getElem? (i := 502) (by decide +kernel)⟩
theorem lw_p3 : lw_okq (⟨"WavePlan$Judge", "sumsOfThree", "([IIII)I"⟩, 2) := ⟨⟨by decide +kernel, by decide +kernel⟩, List.mem_of_getElem? (i := 180) (by decide +kernel), List.mem_of_getElem? (i := 509) (by decide +kernel), List.mem_of_getElem? (i := 510) (by decide +kernel)⟩
theorem lw_p4 : lw_okq (⟨"WavePlan$Trier", "open", "(II)V"⟩, 6) := ⟨⟨by decide +kernel, by decide +kernel⟩, List.mem_of_getElem? (i := 193) (by decide +kernel), List.mem_of_getElem? (i := 546) (by decide +kernel), List.mem_of_getElem? (i := 547) (by decide +kernel)⟩
theorem lw_p5 : lw_okq (⟨"WavePlan$Judge", "tooNear", "([III)J"⟩, 2) := ⟨⟨by decide +kernel, by decide +kernel⟩, List.mem_of_getElem? (i := 180) (by decide +kernel), List.mem_of_getElem? (i := 554) (by decide +kernel), List.mem_of_getElem? (i := 555) (by decide +kernel)⟩
theorem lw_p6 : lw_okq (⟨"WavePlan$Judge", "sumMates", "([IIII)Z"⟩, 2) := ⟨⟨by decide +kernel, by decide +kernel⟩, List.mem_of_getElem? (i := 180) (by decide +kernel), List.mem_of_getElem? (i := 558) (by decide +kernel), List.mem_of_getElem? (i := 559) (by decide +kernel)⟩
theorem lw_p7 : lw_okq (⟨"WavePlan$Judge", "sumTargets", "([III)J"⟩, 2) := ⟨⟨by decide +kernel, by decide +kernel⟩, List.mem_of_getElem? (i := 180) (by decide +kernel), List.mem_of_getElem? (i := 562) (by decide +kernel), List.mem_of_getElem? (i := 563) (by decide +kernel)⟩
theorem lw_p8 : lw_okq (⟨"WavePlan$Trier", "takes", "(I)Z"⟩, 6) := ⟨⟨by decide +kernel, by decide +kernel⟩, List.mem_of_getElem? (i := 193) (by decide +kernel), List.mem_of_getElem? (i := 575) (by decide +kernel), List.mem_of_getElem? (i := 576) (by decide +kernel)⟩
theorem lw_p9 : lw_okq (⟨"WavePlan$Mender", "canChange", "([II)Z"⟩, 2) := ⟨⟨by decide +kernel, by decide +kernel⟩, List.mem_of_getElem? (i := 219) (by decide +kernel), List.mem_of_getElem? (i := 612) (by decide +kernel), List.mem_of_getElem? (i := 613) (by decide +kernel)⟩
theorem lw_p10 : lw_okq (⟨"WavePlan$Judge", "addLacks", "([III)V"⟩, 2) := ⟨⟨by decide +kernel, by decide +kernel⟩, List.mem_of_getElem? (i := 180) (by decide +kernel), List.mem_of_getElem? (i := 621) (by decide +kernel), List.mem_of_getElem? (i := 622) (by decide +kernel)⟩
theorem lw_p11 : lw_okq (⟨"WavePlan$Judge", "addSums", "([IIII)V"⟩, 2) := ⟨⟨by decide +kernel, by decide +kernel⟩, List.mem_of_getElem? (i := 180) (by decide +kernel), List.mem_of_getElem? (i := 626) (by decide +kernel), List.mem_of_getElem? (i := 627) (by decide +kernel)⟩
theorem lw_p12 : lw_okq (⟨"WavePlan$Judge", "addSumAt", "(II)V"⟩, 2) := ⟨⟨by decide +kernel, by decide +kernel⟩, List.mem_of_getElem? (i := 180) (by decide +kernel), List.mem_of_getElem? (i := 630) (by decide +kernel), List.mem_of_getElem? (i := 631) (by decide +kernel)⟩
theorem lw_p13 : lw_okq (⟨"WavePlan$Mender", "leastFree", "([III)I"⟩, 2) := ⟨⟨by decide +kernel, by decide +kernel⟩, List.mem_of_getElem? (i := 219) (by decide +kernel), List.mem_of_getElem? (i := 649) (by decide +kernel), List.mem_of_getElem? (i := 650) (by decide +kernel)⟩
theorem lw_p14 : lw_okq (⟨"WavePlan$Mender", "changeBoth", "([III)Z"⟩, 2) := ⟨⟨by decide +kernel, by decide +kernel⟩, List.mem_of_getElem? (i := 219) (by decide +kernel), List.mem_of_getElem? (i := 658) (by decide +kernel), List.mem_of_getElem? (i := 659) (by decide +kernel)⟩
theorem lw_p15 : lw_okq (⟨"WavePlan$Crowds", "barsAll", "(II)Z"⟩, 5) := ⟨⟨by decide +kernel, by decide +kernel⟩, List.mem_of_getElem? (i := 232) (by decide +kernel), List.mem_of_getElem? (i := 670) (by decide +kernel), List.mem_of_getElem? (i := 671) (by decide +kernel)⟩
def lw_privs_1 : List (MethodName × Nat) := [(⟨"WavePlan$Land", "freshBar", "(II)I"⟩, 11), (⟨"WavePlan$Judge", "lackAt", "(IIII)I"⟩, 2), (⟨"WavePlan$Judge", "sumTogether", "([IIII)Z"⟩, 2), (⟨"WavePlan$Judge", "sumsOfThree", "([IIII)I"⟩, 2), (⟨"WavePlan$Trier", "open", "(II)V"⟩, 6), (⟨"WavePlan$Judge", "tooNear", "([III)J"⟩, 2), (⟨"WavePlan$Judge", "sumMates", "([IIII)Z"⟩, 2), (⟨"WavePlan$Judge", "sumTargets", "([III)J"⟩, 2), (⟨"WavePlan$Trier", "takes", "(I)Z"⟩, 6), (⟨"WavePlan$Mender", "canChange", "([II)Z"⟩, 2), (⟨"WavePlan$Judge", "addLacks", "([III)V"⟩, 2), (⟨"WavePlan$Judge", "addSums", "([IIII)V"⟩, 2), (⟨"WavePlan$Judge", "addSumAt", "(II)V"⟩, 2), (⟨"WavePlan$Mender", "leastFree", "([III)I"⟩, 2), (⟨"WavePlan$Mender", "changeBoth", "([III)Z"⟩, 2), (⟨"WavePlan$Crowds", "barsAll", "(II)Z"⟩, 5)]
theorem lw_r1 : ∀ q ∈ lw_privs_1, lw_okq q := List.forall_mem_cons.mpr ⟨lw_p0, List.forall_mem_cons.mpr ⟨lw_p1, List.forall_mem_cons.mpr ⟨lw_p2, List.forall_mem_cons.mpr ⟨lw_p3, List.forall_mem_cons.mpr ⟨lw_p4, List.forall_mem_cons.mpr ⟨lw_p5, List.forall_mem_cons.mpr ⟨lw_p6, List.forall_mem_cons.mpr ⟨lw_p7, List.forall_mem_cons.mpr ⟨lw_p8, List.forall_mem_cons.mpr ⟨lw_p9, List.forall_mem_cons.mpr ⟨lw_p10, List.forall_mem_cons.mpr ⟨lw_p11, List.forall_mem_cons.mpr ⟨lw_p12, List.forall_mem_cons.mpr ⟨lw_p13, List.forall_mem_cons.mpr ⟨lw_p14, List.forall_mem_cons.mpr ⟨lw_p15, fun _ h => absurd h List.not_mem_nil⟩⟩⟩⟩⟩⟩⟩⟩⟩⟩⟩⟩⟩⟩⟩⟩
theorem lw_p16 : lw_okq (⟨"WavePlan$Crowds", "seat", "(II)I"⟩, 5) := ⟨⟨by decide +kernel, by decide +kernel⟩, List.mem_of_getElem? (i := 232) (by decide +kernel), List.mem_of_getElem? (i := 683) (by decide +kernel), List.mem_of_getElem? (i := 684) (by decide +kernel)⟩
theorem lw_p17 : lw_okq (⟨"WavePlan$Crowds", "sumUp", "(II)V"⟩, 5) := ⟨⟨by decide +kernel, by decide +kernel⟩, List.mem_of_getElem? (i := 232) (by decide +kernel), List.mem_of_getElem? (i := 687) (by decide +kernel), List.mem_of_getElem? (i := 688) (by decide +kernel)⟩
theorem lw_p18 : lw_okq (⟨"WavePlan$Crowds", "leastSum", "(III)I"⟩, 5) := ⟨⟨by decide +kernel, by decide +kernel⟩, List.mem_of_getElem? (i := 232) (by decide +kernel), List.mem_of_getElem? (i := 691) (by decide +kernel), List.mem_of_getElem? (i := 692) (by decide +kernel)⟩
theorem lw_p19 : lw_okq (⟨"WavePlan$Crowds", "boundOfSeated", "(I)I"⟩, 5) := ⟨⟨by decide +kernel, by decide +kernel⟩, List.mem_of_getElem? (i := 232) (by decide +kernel), List.mem_of_getElem? (i := 697) (by decide +kernel), List.mem_of_getElem? (i := 698) (by decide +kernel)⟩
theorem lw_p20 : lw_okq (⟨"WavePlan$Crowds", "grow", "(III)V"⟩, 5) := ⟨⟨by decide +kernel, by decide +kernel⟩, List.mem_of_getElem? (i := 232) (by decide +kernel), List.mem_of_getElem? (i := 709) (by decide +kernel), List.mem_of_getElem? (i := 710) (by decide +kernel)⟩
theorem lw_p21 : lw_okq (⟨"WavePlan$Crowds", "consider", "(II)V"⟩, 5) := ⟨⟨by decide +kernel, by decide +kernel⟩, List.mem_of_getElem? (i := 232) (by decide +kernel), List.mem_of_getElem? (i := 713) (by decide +kernel), List.mem_of_getElem? (i := 714) (by decide +kernel)⟩
theorem lw_p22 : lw_okq (⟨"WavePlan$Land", "partAround", "(I)I"⟩, 11) := ⟨⟨by decide +kernel, by decide +kernel⟩, List.mem_of_getElem? (i := 31) (by decide +kernel), List.mem_of_getElem? (i := 725) (by decide +kernel), List.mem_of_getElem? (i := 726) (by decide +kernel)⟩
theorem lw_p23 : lw_okq (⟨"WavePlan$Land", "joinedTo", "(I)I"⟩, 11) := ⟨⟨by decide +kernel, by decide +kernel⟩, List.mem_of_getElem? (i := 31) (by decide +kernel), List.mem_of_getElem? (i := 729) (by decide +kernel), List.mem_of_getElem? (i := 730) (by decide +kernel)⟩
theorem lw_p24 : lw_okq (⟨"WavePlan", "refusalOfMast", "(I)I"⟩, 9) := ⟨⟨by decide +kernel, by decide +kernel⟩, List.mem_of_getElem? (i := 23) (by decide +kernel), List.mem_of_getElem? (i := 831) (by decide +kernel), List.mem_of_getElem? (i := 832) (by decide +kernel)⟩
theorem lw_p25 : lw_okq (⟨"java/lang/Throwable", "fillInStackTrace", "(I)Ljava/lang/Throwable;"⟩, 6) := ⟨⟨by decide +kernel, by decide +kernel⟩, List.mem_of_getElem? (i := 888) (by decide +kernel), List.mem_of_getElem? (i := 886) (by decide +kernel), List.mem_of_getElem? (i := 887) (by decide +kernel)⟩
theorem lw_p26 : lw_okq (⟨"WavePlanModel", "isMast", "(I)Z"⟩, 39) := ⟨⟨by decide +kernel, by decide +kernel⟩, List.mem_of_getElem? (i := 966) (by decide +kernel), List.mem_of_getElem? (i := 1111) (by decide +kernel), List.mem_of_getElem? (i := 1112) (by decide +kernel)⟩
theorem lw_p27 : lw_okq (⟨"WavePlanModel", "barOf", "(II)I"⟩, 39) := ⟨⟨by decide +kernel, by decide +kernel⟩, List.mem_of_getElem? (i := 966) (by decide +kernel), List.mem_of_getElem? (i := 1115) (by decide +kernel), List.mem_of_getElem? (i := 1116) (by decide +kernel)⟩
theorem lw_p28 : lw_okq (⟨"WavePlanModel", "square", "(II)I"⟩, 39) := ⟨⟨by decide +kernel, by decide +kernel⟩, List.mem_of_getElem? (i := 966) (by decide +kernel), List.mem_of_getElem? (i := 1119) (by decide +kernel), List.mem_of_getElem? (i := 1120) (by decide +kernel)⟩
theorem lw_p29 : lw_okq (⟨"WavePlanModel", "countBits", "(I)I"⟩, 39) := ⟨⟨by decide +kernel, by decide +kernel⟩, List.mem_of_getElem? (i := 966) (by decide +kernel), List.mem_of_getElem? (i := 1131) (by decide +kernel), List.mem_of_getElem? (i := 1132) (by decide +kernel)⟩
theorem lw_p30 : lw_okq (⟨"WavePlanModel", "isWant", "(I)Z"⟩, 39) := ⟨⟨by decide +kernel, by decide +kernel⟩, List.mem_of_getElem? (i := 966) (by decide +kernel), List.mem_of_getElem? (i := 1144) (by decide +kernel), List.mem_of_getElem? (i := 1145) (by decide +kernel)⟩
theorem lw_p31 : lw_okq (⟨"WavePlanModel", "mayHave", "(II)Z"⟩, 39) := ⟨⟨by decide +kernel, by decide +kernel⟩, List.mem_of_getElem? (i := 966) (by decide +kernel), List.mem_of_getElem? (i := 1169) (by decide +kernel), List.mem_of_getElem? (i := 1170) (by decide +kernel)⟩
def lw_privs_2 : List (MethodName × Nat) := [(⟨"WavePlan$Crowds", "seat", "(II)I"⟩, 5), (⟨"WavePlan$Crowds", "sumUp", "(II)V"⟩, 5), (⟨"WavePlan$Crowds", "leastSum", "(III)I"⟩, 5), (⟨"WavePlan$Crowds", "boundOfSeated", "(I)I"⟩, 5), (⟨"WavePlan$Crowds", "grow", "(III)V"⟩, 5), (⟨"WavePlan$Crowds", "consider", "(II)V"⟩, 5), (⟨"WavePlan$Land", "partAround", "(I)I"⟩, 11), (⟨"WavePlan$Land", "joinedTo", "(I)I"⟩, 11), (⟨"WavePlan", "refusalOfMast", "(I)I"⟩, 9), (⟨"java/lang/Throwable", "fillInStackTrace", "(I)Ljava/lang/Throwable;"⟩, 6), (⟨"WavePlanModel", "isMast", "(I)Z"⟩, 39), (⟨"WavePlanModel", "barOf", "(II)I"⟩, 39), (⟨"WavePlanModel", "square", "(II)I"⟩, 39), (⟨"WavePlanModel", "countBits", "(I)I"⟩, 39), (⟨"WavePlanModel", "isWant", "(I)Z"⟩, 39), (⟨"WavePlanModel", "mayHave", "(II)Z"⟩, 39)]
theorem lw_r2 : ∀ q ∈ lw_privs_2, lw_okq q := List.forall_mem_cons.mpr ⟨lw_p16, List.forall_mem_cons.mpr ⟨lw_p17, List.forall_mem_cons.mpr ⟨lw_p18, List.forall_mem_cons.mpr ⟨lw_p19, List.forall_mem_cons.mpr ⟨lw_p20, List.forall_mem_cons.mpr ⟨lw_p21, List.forall_mem_cons.mpr ⟨lw_p22, List.forall_mem_cons.mpr ⟨lw_p23, List.forall_mem_cons.mpr ⟨lw_p24, List.forall_mem_cons.mpr ⟨lw_p25, List.forall_mem_cons.mpr ⟨lw_p26, List.forall_mem_cons.mpr ⟨lw_p27, List.forall_mem_cons.mpr ⟨lw_p28, List.forall_mem_cons.mpr ⟨lw_p29, List.forall_mem_cons.mpr ⟨lw_p30, List.forall_mem_cons.mpr ⟨lw_p31, fun _ h => absurd h List.not_mem_nil⟩⟩⟩⟩⟩⟩⟩⟩⟩⟩⟩⟩⟩⟩⟩⟩
theorem lw_p32 : lw_okq (⟨"WavePlanModel", "isListed", "(II)Z"⟩, 39) := ⟨⟨by decide +kernel, by decide +kernel⟩, List.mem_of_getElem? (i := 966) (by decide +kernel), List.mem_of_getElem? (i := 1173) (by decide +kernel), List.mem_of_getElem? (i := 1174) (by decide +kernel)⟩
theorem lw_p33 : lw_okq (⟨"WavePlanModel", "isFree", "(II)Z"⟩, 39) := ⟨⟨by decide +kernel, by decide +kernel⟩, List.mem_of_getElem? (i := 966) (by decide +kernel), List.mem_of_getElem? (i := 1177) (by decide +kernel), List.mem_of_getElem? (i := 1178) (by decide +kernel)⟩
theorem lw_p34 : lw_okq (⟨"WavePlanModel", "harmNow", "()I"⟩, 39) := ⟨⟨by decide +kernel, by decide +kernel⟩, List.mem_of_getElem? (i := 966) (by decide +kernel), List.mem_of_getElem? (i := 1205) (by decide +kernel), List.mem_of_getElem? (i := 1206) (by decide +kernel)⟩
theorem lw_p35 : lw_okq (⟨"WavePlanModel", "brokenOf", "(I)I"⟩, 39) := ⟨⟨by decide +kernel, by decide +kernel⟩, List.mem_of_getElem? (i := 966) (by decide +kernel), List.mem_of_getElem? (i := 1209) (by decide +kernel), List.mem_of_getElem? (i := 1210) (by decide +kernel)⟩
theorem lw_p36 : lw_okq (⟨"WavePlanModel", "lack", "(II)I"⟩, 39) := ⟨⟨by decide +kernel, by decide +kernel⟩, List.mem_of_getElem? (i := 966) (by decide +kernel), List.mem_of_getElem? (i := 1213) (by decide +kernel), List.mem_of_getElem? (i := 1214) (by decide +kernel)⟩
theorem lw_p37 : lw_okq (⟨"WavePlanModel", "channelsOf", "(I)I"⟩, 39) := ⟨⟨by decide +kernel, by decide +kernel⟩, List.mem_of_getElem? (i := 966) (by decide +kernel), List.mem_of_getElem? (i := 1217) (by decide +kernel), List.mem_of_getElem? (i := 1218) (by decide +kernel)⟩
theorem lw_p38 : lw_okq (⟨"WavePlanModel", "channelOf", "(II)I"⟩, 39) := ⟨⟨by decide +kernel, by decide +kernel⟩, List.mem_of_getElem? (i := 966) (by decide +kernel), List.mem_of_getElem? (i := 1221) (by decide +kernel), List.mem_of_getElem? (i := 1222) (by decide +kernel)⟩
theorem lw_p39 : lw_okq (⟨"WavePlanModel", "areIn", "(III)Z"⟩, 39) := ⟨⟨by decide +kernel, by decide +kernel⟩, List.mem_of_getElem? (i := 966) (by decide +kernel), List.mem_of_getElem? (i := 1225) (by decide +kernel), List.mem_of_getElem? (i := 1226) (by decide +kernel)⟩
theorem lw_p40 : lw_okq (⟨"WavePlanModel", "middles", "(III)I"⟩, 39) := ⟨⟨by decide +kernel, by decide +kernel⟩, List.mem_of_getElem? (i := 966) (by decide +kernel), List.mem_of_getElem? (i := 1229) (by decide +kernel), List.mem_of_getElem? (i := 1230) (by decide +kernel)⟩
theorem lw_p41 : lw_okq (⟨"WavePlanModel", "keepPlan", "()V"⟩, 39) := ⟨⟨by decide +kernel, by decide +kernel⟩, List.mem_of_getElem? (i := 966) (by decide +kernel), List.mem_of_getElem? (i := 1251) (by decide +kernel), List.mem_of_getElem? (i := 1252) (by decide +kernel)⟩
theorem lw_p42 : lw_okq (⟨"WavePlanModel", "tryBelow", "(I)Z"⟩, 39) := ⟨⟨by decide +kernel, by decide +kernel⟩, List.mem_of_getElem? (i := 966) (by decide +kernel), List.mem_of_getElem? (i := 1255) (by decide +kernel), List.mem_of_getElem? (i := 1256) (by decide +kernel)⟩
theorem lw_p43 : lw_okq (⟨"WavePlanModel", "isTaken", "(III)Z"⟩, 39) := ⟨⟨by decide +kernel, by decide +kernel⟩, List.mem_of_getElem? (i := 966) (by decide +kernel), List.mem_of_getElem? (i := 1259) (by decide +kernel), List.mem_of_getElem? (i := 1260) (by decide +kernel)⟩
theorem lw_p44 : lw_okq (⟨"WavePlanModel", "isFine", "(I)Z"⟩, 39) := ⟨⟨by decide +kernel, by decide +kernel⟩, List.mem_of_getElem? (i := 966) (by decide +kernel), List.mem_of_getElem? (i := 1263) (by decide +kernel), List.mem_of_getElem? (i := 1264) (by decide +kernel)⟩
theorem lw_p45 : lw_okq (⟨"WavePlanModel", "givePlan", "()V"⟩, 39) := ⟨⟨by decide +kernel, by decide +kernel⟩, List.mem_of_getElem? (i := 966) (by decide +kernel), List.mem_of_getElem? (i := 1267) (by decide +kernel), List.mem_of_getElem? (i := 1268) (by decide +kernel)⟩
theorem lw_p46 : lw_okq (⟨"WavePlanModel", "isBettered", "()Z"⟩, 39) := ⟨⟨by decide +kernel, by decide +kernel⟩, List.mem_of_getElem? (i := 966) (by decide +kernel), List.mem_of_getElem? (i := 1288) (by decide +kernel), List.mem_of_getElem? (i := 1289) (by decide +kernel)⟩
theorem lw_p47 : lw_okq (⟨"WavePlanModel", "isHealedBy", "(I)Z"⟩, 39) := ⟨⟨by decide +kernel, by decide +kernel⟩, List.mem_of_getElem? (i := 966) (by decide +kernel), List.mem_of_getElem? (i := 1296) (by decide +kernel), List.mem_of_getElem? (i := 1297) (by decide +kernel)⟩
def lw_privs_3 : List (MethodName × Nat) := [(⟨"WavePlanModel", "isListed", "(II)Z"⟩, 39), (⟨"WavePlanModel", "isFree", "(II)Z"⟩, 39), (⟨"WavePlanModel", "harmNow", "()I"⟩, 39), (⟨"WavePlanModel", "brokenOf", "(I)I"⟩, 39), (⟨"WavePlanModel", "lack", "(II)I"⟩, 39), (⟨"WavePlanModel", "channelsOf", "(I)I"⟩, 39), (⟨"WavePlanModel", "channelOf", "(II)I"⟩, 39), (⟨"WavePlanModel", "areIn", "(III)Z"⟩, 39), (⟨"WavePlanModel", "middles", "(III)I"⟩, 39), (⟨"WavePlanModel", "keepPlan", "()V"⟩, 39), (⟨"WavePlanModel", "tryBelow", "(I)Z"⟩, 39), (⟨"WavePlanModel", "isTaken", "(III)Z"⟩, 39), (⟨"WavePlanModel", "isFine", "(I)Z"⟩, 39), (⟨"WavePlanModel", "givePlan", "()V"⟩, 39), (⟨"WavePlanModel", "isBettered", "()Z"⟩, 39), (⟨"WavePlanModel", "isHealedBy", "(I)Z"⟩, 39)]
theorem lw_r3 : ∀ q ∈ lw_privs_3, lw_okq q := List.forall_mem_cons.mpr ⟨lw_p32, List.forall_mem_cons.mpr ⟨lw_p33, List.forall_mem_cons.mpr ⟨lw_p34, List.forall_mem_cons.mpr ⟨lw_p35, List.forall_mem_cons.mpr ⟨lw_p36, List.forall_mem_cons.mpr ⟨lw_p37, List.forall_mem_cons.mpr ⟨lw_p38, List.forall_mem_cons.mpr ⟨lw_p39, List.forall_mem_cons.mpr ⟨lw_p40, List.forall_mem_cons.mpr ⟨lw_p41, List.forall_mem_cons.mpr ⟨lw_p42, List.forall_mem_cons.mpr ⟨lw_p43, List.forall_mem_cons.mpr ⟨lw_p44, List.forall_mem_cons.mpr ⟨lw_p45, List.forall_mem_cons.mpr ⟨lw_p46, List.forall_mem_cons.mpr ⟨lw_p47, fun _ h => absurd h List.not_mem_nil⟩⟩⟩⟩⟩⟩⟩⟩⟩⟩⟩⟩⟩⟩⟩⟩
theorem lw_p48 : lw_okq (⟨"WavePlanModel", "isHealedByTwo", "()Z"⟩, 39) := ⟨⟨by decide +kernel, by decide +kernel⟩, List.mem_of_getElem? (i := 966) (by decide +kernel), List.mem_of_getElem? (i := 1300) (by decide +kernel), List.mem_of_getElem? (i := 1301) (by decide +kernel)⟩
theorem lw_p49 : lw_okq (⟨"WavePlanModel", "isCrowd", "(I)Z"⟩, 39) := ⟨⟨by decide +kernel, by decide +kernel⟩, List.mem_of_getElem? (i := 966) (by decide +kernel), List.mem_of_getElem? (i := 1308) (by decide +kernel), List.mem_of_getElem? (i := 1309) (by decide +kernel)⟩
theorem lw_p50 : lw_okq (⟨"WavePlanModel", "wantsIn", "(I)I"⟩, 39) := ⟨⟨by decide +kernel, by decide +kernel⟩, List.mem_of_getElem? (i := 966) (by decide +kernel), List.mem_of_getElem? (i := 1312) (by decide +kernel), List.mem_of_getElem? (i := 1313) (by decide +kernel)⟩
theorem lw_p51 : lw_okq (⟨"WavePlanModel", "boundOf", "(I)I"⟩, 39) := ⟨⟨by decide +kernel, by decide +kernel⟩, List.mem_of_getElem? (i := 966) (by decide +kernel), List.mem_of_getElem? (i := 1316) (by decide +kernel), List.mem_of_getElem? (i := 1317) (by decide +kernel)⟩
theorem lw_p52 : lw_okq (⟨"WavePlanModel", "findParts", "()I"⟩, 39) := ⟨⟨by decide +kernel, by decide +kernel⟩, List.mem_of_getElem? (i := 966) (by decide +kernel), List.mem_of_getElem? (i := 1329) (by decide +kernel), List.mem_of_getElem? (i := 1330) (by decide +kernel)⟩
theorem lw_p53 : lw_okq (⟨"WavePlanModel", "areNear", "(II)Z"⟩, 39) := ⟨⟨by decide +kernel, by decide +kernel⟩, List.mem_of_getElem? (i := 966) (by decide +kernel), List.mem_of_getElem? (i := 1333) (by decide +kernel), List.mem_of_getElem? (i := 1334) (by decide +kernel)⟩
theorem lw_p54 : lw_okq (⟨"WavePlanModel", "withChannel", "()I"⟩, 39) := ⟨⟨by decide +kernel, by decide +kernel⟩, List.mem_of_getElem? (i := 966) (by decide +kernel), List.mem_of_getElem? (i := 1341) (by decide +kernel), List.mem_of_getElem? (i := 1342) (by decide +kernel)⟩
theorem lw_p55 : lw_okq (⟨"WavePlanModel", "bars", "()I"⟩, 39) := ⟨⟨by decide +kernel, by decide +kernel⟩, List.mem_of_getElem? (i := 966) (by decide +kernel), List.mem_of_getElem? (i := 1353) (by decide +kernel), List.mem_of_getElem? (i := 1354) (by decide +kernel)⟩
theorem lw_p56 : lw_okq (⟨"WavePlanModel", "threes", "()I"⟩, 39) := ⟨⟨by decide +kernel, by decide +kernel⟩, List.mem_of_getElem? (i := 966) (by decide +kernel), List.mem_of_getElem? (i := 1357) (by decide +kernel), List.mem_of_getElem? (i := 1358) (by decide +kernel)⟩
theorem lw_p57 : lw_okq (⟨"WavePlanModel", "weightOf", "(I)I"⟩, 39) := ⟨⟨by decide +kernel, by decide +kernel⟩, List.mem_of_getElem? (i := 966) (by decide +kernel), List.mem_of_getElem? (i := 1372) (by decide +kernel), List.mem_of_getElem? (i := 1373) (by decide +kernel)⟩
theorem lw_p58 : lw_okq (⟨"WavePlanModel", "hasPlaces", "(III)Z"⟩, 39) := ⟨⟨by decide +kernel, by decide +kernel⟩, List.mem_of_getElem? (i := 966) (by decide +kernel), List.mem_of_getElem? (i := 1388) (by decide +kernel), List.mem_of_getElem? (i := 1389) (by decide +kernel)⟩
theorem lw_p59 : lw_okq (⟨"WavePlanModel", "denied", "(I)I"⟩, 39) := ⟨⟨by decide +kernel, by decide +kernel⟩, List.mem_of_getElem? (i := 966) (by decide +kernel), List.mem_of_getElem? (i := 1396) (by decide +kernel), List.mem_of_getElem? (i := 1397) (by decide +kernel)⟩
def lw_privs_4 : List (MethodName × Nat) := [(⟨"WavePlanModel", "isHealedByTwo", "()Z"⟩, 39), (⟨"WavePlanModel", "isCrowd", "(I)Z"⟩, 39), (⟨"WavePlanModel", "wantsIn", "(I)I"⟩, 39), (⟨"WavePlanModel", "boundOf", "(I)I"⟩, 39), (⟨"WavePlanModel", "findParts", "()I"⟩, 39), (⟨"WavePlanModel", "areNear", "(II)Z"⟩, 39), (⟨"WavePlanModel", "withChannel", "()I"⟩, 39), (⟨"WavePlanModel", "bars", "()I"⟩, 39), (⟨"WavePlanModel", "threes", "()I"⟩, 39), (⟨"WavePlanModel", "weightOf", "(I)I"⟩, 39), (⟨"WavePlanModel", "hasPlaces", "(III)Z"⟩, 39), (⟨"WavePlanModel", "denied", "(I)I"⟩, 39)]
theorem lw_r4 : ∀ q ∈ lw_privs_4, lw_okq q := List.forall_mem_cons.mpr ⟨lw_p48, List.forall_mem_cons.mpr ⟨lw_p49, List.forall_mem_cons.mpr ⟨lw_p50, List.forall_mem_cons.mpr ⟨lw_p51, List.forall_mem_cons.mpr ⟨lw_p52, List.forall_mem_cons.mpr ⟨lw_p53, List.forall_mem_cons.mpr ⟨lw_p54, List.forall_mem_cons.mpr ⟨lw_p55, List.forall_mem_cons.mpr ⟨lw_p56, List.forall_mem_cons.mpr ⟨lw_p57, List.forall_mem_cons.mpr ⟨lw_p58, List.forall_mem_cons.mpr ⟨lw_p59, fun _ h => absurd h List.not_mem_nil⟩⟩⟩⟩⟩⟩⟩⟩⟩⟩⟩⟩
def lw_privs : List (MethodName × Nat) := lw_privs_1 ++ (lw_privs_2 ++ (lw_privs_3 ++ (lw_privs_4)))
def lw_tbl : List Cond := k2_sels lw_privs ++ tables_1
theorem lw_privs_ok : ∀ q ∈ lw_privs, lw_okq q := by
  show ∀ q ∈ lw_privs_1 ++ (lw_privs_2 ++ (lw_privs_3 ++ (lw_privs_4))), lw_okq q
  exact List.forall_mem_append.mpr ⟨lw_r1, List.forall_mem_append.mpr ⟨lw_r2, List.forall_mem_append.mpr ⟨lw_r3, lw_r4⟩⟩⟩
/-! ===== BEGIN words of one list among another's, by their places ===== -/
theorem goodIn_r {big : List Cond} (ws : List Cond) (ps : List Nat) (hp : ws = ps.filterMap (fun i => big[i]?)) (h : ws.all goodWord = true) : GoodIn big ws := by
  intro w hw
  have h1 := List.all_eq_true.mp h w hw
  rw [hp] at hw
  obtain ⟨i, -, hi⟩ := List.mem_filterMap.mp hw
  have hm : w ∈ big := by first | exact List.mem_of_getElem? hi | exact List.getElem?_mem hi
  exact ⟨hm, good_of_word h1⟩
theorem goodIn_app {big a b : List Cond} (ha : GoodIn big a) (hb : GoodIn big b) : GoodIn big (a ++ b) := fun w h => (List.mem_append.mp h).elim (ha w) (hb w)
theorem goodIn_ca {big a b : List Cond} {c : Cond} (ha : GoodIn big (c :: a)) (hb : GoodIn big b) : GoodIn big (c :: (a ++ b)) := fun w h => (List.mem_cons.mp h).elim (fun e => ha w (List.mem_cons.mpr (Or.inl e))) (fun h => (List.mem_append.mp h).elim (fun h => ha w (List.mem_cons.mpr (Or.inr h))) (hb w))
theorem goodIn_sub {big ws : List Cond} (hm : ∀ w ∈ ws, w ∈ big) (h : ws.all goodWord = true) : GoodIn big ws := fun w hw => ⟨hm w hw, good_of_word (List.all_eq_true.mp h w hw)⟩
/-! ===== END ===== -/
def RX0 : String := "WavePlan$Crowds"
def TX0 : u_T := fun k => match k with
  | 0 => ("WavePlan$Crowds", "land", "LWavePlan$Land;", true)
  | 1 => ("WavePlan$Crowds", "sums", "[I", true)
  | 2 => ("WavePlan$Crowds", "seats", "[I", true)
  | 3 => ("WavePlan$Crowds", "best", "I", false)
  | _ => ("WavePlan$Crowds", "bestBound", "I", false)
def tyX0 : Nat → FieldType := fun k => match k with
  | 0 => .object "WavePlan$Land"
  | 1 => .array .int
  | 2 => .array .int
  | 3 => .int
  | _ => .int
abbrev wsX00 : List Cond := u_ws RX0 TX0 5
theorem nmX0 : ∀ a, a < 5 → ∀ b, b < 5 → a ≠ b → (TX0 a).2.1 ≠ (TX0 b).2.1 := by decide +kernel
theorem tyX0_ok : ∀ k, k < 5 → parseFieldDescriptor (TX0 k).2.2.1 = some (tyX0 k) := by decide +kernel
abbrev cX0_init : ByteArray := prog_2_method_1_code
def yX0_init : MethodName := ⟨RX0, "<init>", "(LWavePlan$Land;)V"⟩
abbrev cX0_isCrowd : ByteArray := prog_2_method_2_code
def yX0_isCrowd : MethodName := ⟨RX0, "isCrowd", "(I)Z"⟩
abbrev cX0_barsAll : ByteArray := prog_2_method_3_code
def yX0_barsAll : MethodName := ⟨RX0, "barsAll", "(II)Z"⟩
abbrev cX0_wantsOf : ByteArray := prog_2_method_4_code
def yX0_wantsOf : MethodName := ⟨RX0, "wantsOf", "(I)I"⟩
abbrev cX0_boundOf : ByteArray := prog_2_method_5_code
def yX0_boundOf : MethodName := ⟨RX0, "boundOf", "(I)I"⟩
abbrev cX0_greatest : ByteArray := prog_2_method_6_code
def yX0_greatest : MethodName := ⟨RX0, "greatest", "()I"⟩
abbrev cX0_grow : ByteArray := prog_2_method_7_code
def yX0_grow : MethodName := ⟨RX0, "grow", "(III)V"⟩
abbrev cX0_consider : ByteArray := prog_2_method_8_code
def yX0_consider : MethodName := ⟨RX0, "consider", "(II)V"⟩
abbrev cX0_seat : ByteArray := prog_2_method_9_code
def yX0_seat : MethodName := ⟨RX0, "seat", "(II)I"⟩
abbrev cX0_sumUp : ByteArray := prog_2_method_10_code
def yX0_sumUp : MethodName := ⟨RX0, "sumUp", "(II)V"⟩
abbrev cX0_leastSum : ByteArray := prog_2_method_11_code
def yX0_leastSum : MethodName := ⟨RX0, "leastSum", "(III)I"⟩
abbrev cX0_boundOfSeated : ByteArray := prog_2_method_12_code
def yX0_boundOfSeated : MethodName := ⟨RX0, "boundOfSeated", "(I)I"⟩
def RX1 : String := "WavePlan$Frontier"
def TX1 : u_T := fun k => match k with
  | 0 => ("WavePlan$Frontier", "line", "I", false)
  | 1 => ("WavePlan$Frontier", "width", "I", false)
  | 2 => ("WavePlan$Frontier", "first", "I", false)
  | _ => ("WavePlan$Frontier", "second", "I", false)
def tyX1 : Nat → FieldType := fun k => match k with
  | 0 => .int
  | 1 => .int
  | 2 => .int
  | _ => .int
abbrev wsX10 : List Cond := u_ws RX1 TX1 4
theorem nmX1 : ∀ a, a < 4 → ∀ b, b < 4 → a ≠ b → (TX1 a).2.1 ≠ (TX1 b).2.1 := by decide +kernel
theorem tyX1_ok : ∀ k, k < 4 → parseFieldDescriptor (TX1 k).2.2.1 = some (tyX1 k) := by decide +kernel
abbrev cX1_init : ByteArray := prog_3_method_1_code
def yX1_init : MethodName := ⟨RX1, "<init>", "()V"⟩
abbrev cX1_tell : ByteArray := prog_3_method_2_code
def yX1_tell : MethodName := ⟨RX1, "tell", "(IIII)V"⟩
abbrev cX1_swap : ByteArray := prog_3_method_3_code
def yX1_swap : MethodName := ⟨RX1, "swap", "()V"⟩
abbrev cX1_allows : ByteArray := prog_3_method_4_code
def yX1_allows : MethodName := ⟨RX1, "allows", "(LWavePlan$Mast;)I"⟩
def RX2 : String := "WavePlan$Judge"
def TX2 : u_T := fun k => match k with
  | 0 => ("WavePlan$Judge", "land", "LWavePlan$Land;", true)
  | _ => ("WavePlan$Judge", "cost", "[I", true)
def tyX2 : Nat → FieldType := fun k => match k with
  | 0 => .object "WavePlan$Land"
  | _ => .array .int
abbrev wsX20 : List Cond := u_ws RX2 TX2 2
theorem nmX2 : ∀ a, a < 2 → ∀ b, b < 2 → a ≠ b → (TX2 a).2.1 ≠ (TX2 b).2.1 := by decide +kernel
theorem tyX2_ok : ∀ k, k < 2 → parseFieldDescriptor (TX2 k).2.2.1 = some (tyX2 k) := by decide +kernel
abbrev cX2_init : ByteArray := prog_4_method_1_code
def yX2_init : MethodName := ⟨RX2, "<init>", "(LWavePlan$Land;)V"⟩
abbrev cX2_served : ByteArray := prog_4_method_2_code
def yX2_served : MethodName := ⟨RX2, "served", "([I)I"⟩
abbrev cX2_totalHarm : ByteArray := prog_4_method_3_code
def yX2_totalHarm : MethodName := ⟨RX2, "totalHarm", "([I)I"⟩
abbrev cX2_lackOf : ByteArray := prog_4_method_4_code
def yX2_lackOf : MethodName := ⟨RX2, "lackOf", "([III)I"⟩
abbrev cX2_lackAt : ByteArray := prog_4_method_5_code
def yX2_lackAt : MethodName := ⟨RX2, "lackAt", "(IIII)I"⟩
abbrev cX2_lackingTwos : ByteArray := prog_4_method_6_code
def yX2_lackingTwos : MethodName := ⟨RX2, "lackingTwos", "([I)I"⟩
abbrev cX2_lacks : ByteArray := prog_4_method_7_code
def yX2_lacks : MethodName := ⟨RX2, "lacks", "([I)I"⟩
abbrev cX2_sums : ByteArray := prog_4_method_8_code
def yX2_sums : MethodName := ⟨RX2, "sums", "([I)I"⟩
abbrev cX2_sumTogether : ByteArray := prog_4_method_9_code
def yX2_sumTogether : MethodName := ⟨RX2, "sumTogether", "([IIII)Z"⟩
abbrev cX2_sumsOfThree : ByteArray := prog_4_method_10_code
def yX2_sumsOfThree : MethodName := ⟨RX2, "sumsOfThree", "([IIII)I"⟩
abbrev cX2_strayBits : ByteArray := prog_4_method_11_code
def yX2_strayBits : MethodName := ⟨RX2, "strayBits", "([I)I"⟩
abbrev cX2_isClean : ByteArray := prog_4_method_12_code
def yX2_isClean : MethodName := ⟨RX2, "isClean", "([I)Z"⟩
abbrev cX2_freeChannels : ByteArray := prog_4_method_13_code
def yX2_freeChannels : MethodName := ⟨RX2, "freeChannels", "([III)I"⟩
abbrev cX2_sumMates : ByteArray := prog_4_method_14_code
def yX2_sumMates : MethodName := ⟨RX2, "sumMates", "([IIII)Z"⟩
abbrev cX2_tooNear : ByteArray := prog_4_method_15_code
def yX2_tooNear : MethodName := ⟨RX2, "tooNear", "([III)J"⟩
abbrev cX2_sumTargets : ByteArray := prog_4_method_16_code
def yX2_sumTargets : MethodName := ⟨RX2, "sumTargets", "([III)J"⟩
abbrev cX2_bitOf : ByteArray := prog_4_method_17_code
def yX2_bitOf : MethodName := ⟨RX2, "bitOf", "(I)J"⟩
abbrev cX2_weigh : ByteArray := prog_4_method_18_code
def yX2_weigh : MethodName := ⟨RX2, "weigh", "([II)[I"⟩
abbrev cX2_addLacks : ByteArray := prog_4_method_19_code
def yX2_addLacks : MethodName := ⟨RX2, "addLacks", "([III)V"⟩
abbrev cX2_addSums : ByteArray := prog_4_method_20_code
def yX2_addSums : MethodName := ⟨RX2, "addSums", "([IIII)V"⟩
abbrev cX2_addSumAt : ByteArray := prog_4_method_21_code
def yX2_addSumAt : MethodName := ⟨RX2, "addSumAt", "(II)V"⟩
def RX3 : String := "WavePlan$Land"
def TX3 : u_T := fun k => match k with
  | 0 => ("WavePlan$Land", "masts", "[LWavePlan$Mast;", true)
  | 1 => ("WavePlan$Land", "mastOf", "[I", true)
  | 2 => ("WavePlan$Land", "told", "[I", true)
  | 3 => ("WavePlan$Land", "table", "LWavePlan$Table;", true)
  | 4 => ("WavePlan$Land", "frontier", "LWavePlan$Frontier;", true)
  | 5 => ("WavePlan$Land", "bars", "[I", true)
  | 6 => ("WavePlan$Land", "near", "[I", true)
  | 7 => ("WavePlan$Land", "mastCount", "I", false)
  | 8 => ("WavePlan$Land", "wantCount", "I", false)
  | 9 => ("WavePlan$Land", "ownBar", "I", false)
  | _ => ("WavePlan$Land", "sumReach", "I", false)
def tyX3 : Nat → FieldType := fun k => match k with
  | 0 => .array (.object "WavePlan$Mast")
  | 1 => .array .int
  | 2 => .array .int
  | 3 => .object "WavePlan$Table"
  | 4 => .object "WavePlan$Frontier"
  | 5 => .array .int
  | 6 => .array .int
  | 7 => .int
  | 8 => .int
  | 9 => .int
  | _ => .int
abbrev wsX30 : List Cond := u_ws RX3 TX3 11
theorem nmX3 : ∀ a, a < 11 → ∀ b, b < 11 → a ≠ b → (TX3 a).2.1 ≠ (TX3 b).2.1 := by decide +kernel
theorem tyX3_ok : ∀ k, k < 11 → parseFieldDescriptor (TX3 k).2.2.1 = some (tyX3 k) := by decide +kernel
abbrev cX3_init : ByteArray := prog_5_method_1_code
def yX3_init : MethodName := ⟨RX3, "<init>", "()V"⟩
abbrev cX3_hasMast : ByteArray := prog_5_method_2_code
def yX3_hasMast : MethodName := ⟨RX3, "hasMast", "(I)Z"⟩
abbrev cX3_hasWant : ByteArray := prog_5_method_3_code
def yX3_hasWant : MethodName := ⟨RX3, "hasWant", "(I)Z"⟩
abbrev cX3_addMast : ByteArray := prog_5_method_4_code
def yX3_addMast : MethodName := ⟨RX3, "addMast", "(IIII)I"⟩
abbrev cX3_shift : ByteArray := prog_5_method_5_code
def yX3_shift : MethodName := ⟨RX3, "shift", "(II)I"⟩
abbrev cX3_measure : ByteArray := prog_5_method_6_code
def yX3_measure : MethodName := ⟨RX3, "measure", "()V"⟩
abbrev cX3_freshBar : ByteArray := prog_5_method_7_code
def yX3_freshBar : MethodName := ⟨RX3, "freshBar", "(II)I"⟩
abbrev cX3_square : ByteArray := prog_5_method_8_code
def yX3_square : MethodName := ⟨RX3, "square", "(II)I"⟩
abbrev cX3_barOf : ByteArray := prog_5_method_9_code
def yX3_barOf : MethodName := ⟨RX3, "barOf", "(II)I"⟩
abbrev cX3_barOfWants : ByteArray := prog_5_method_10_code
def yX3_barOfWants : MethodName := ⟨RX3, "barOfWants", "(II)I"⟩
abbrev cX3_areIn : ByteArray := prog_5_method_11_code
def yX3_areIn : MethodName := ⟨RX3, "areIn", "(III)Z"⟩
abbrev cX3_kindOfWant : ByteArray := prog_5_method_12_code
def yX3_kindOfWant : MethodName := ⟨RX3, "kindOfWant", "(I)I"⟩
abbrev cX3_gapOf : ByteArray := prog_5_method_13_code
def yX3_gapOf : MethodName := ⟨RX3, "gapOf", "(I)I"⟩
abbrev cX3_allowed : ByteArray := prog_5_method_14_code
def yX3_allowed : MethodName := ⟨RX3, "allowed", "(I)I"⟩
abbrev cX3_barredTwos : ByteArray := prog_5_method_15_code
def yX3_barredTwos : MethodName := ⟨RX3, "barredTwos", "()I"⟩
abbrev cX3_threesIn : ByteArray := prog_5_method_16_code
def yX3_threesIn : MethodName := ⟨RX3, "threesIn", "()I"⟩
abbrev cX3_parts : ByteArray := prog_5_method_17_code
def yX3_parts : MethodName := ⟨RX3, "parts", "()I"⟩
abbrev cX3_partOf : ByteArray := prog_5_method_18_code
def yX3_partOf : MethodName := ⟨RX3, "partOf", "(I)I"⟩
abbrev cX3_partAround : ByteArray := prog_5_method_19_code
def yX3_partAround : MethodName := ⟨RX3, "partAround", "(I)I"⟩
abbrev cX3_joinedTo : ByteArray := prog_5_method_20_code
def yX3_joinedTo : MethodName := ⟨RX3, "joinedTo", "(I)I"⟩
def RX4 : String := "WavePlan$Mast"
def TX4 : u_T := fun k => match k with
  | 0 => ("WavePlan$Mast", "number", "I", false)
  | 1 => ("WavePlan$Mast", "kind", "I", false)
  | 2 => ("WavePlan$Mast", "x", "I", false)
  | 3 => ("WavePlan$Mast", "y", "I", false)
  | 4 => ("WavePlan$Mast", "strength", "I", false)
  | 5 => ("WavePlan$Mast", "wants", "I", false)
  | 6 => ("WavePlan$Mast", "firstWant", "I", false)
  | 7 => ("WavePlan$Mast", "channels", "I", false)
  | _ => ("WavePlan$Mast", "distance", "I", false)
def tyX4 : Nat → FieldType := fun k => match k with
  | 0 => .int
  | 1 => .int
  | 2 => .int
  | 3 => .int
  | 4 => .int
  | 5 => .int
  | 6 => .int
  | 7 => .int
  | _ => .int
abbrev wsX40 : List Cond := u_ws RX4 TX4 9
theorem nmX4 : ∀ a, a < 9 → ∀ b, b < 9 → a ≠ b → (TX4 a).2.1 ≠ (TX4 b).2.1 := by decide +kernel
theorem tyX4_ok : ∀ k, k < 9 → parseFieldDescriptor (TX4 k).2.2.1 = some (tyX4 k) := by decide +kernel
abbrev cX4_init : ByteArray := prog_6_method_1_code
def yX4_init : MethodName := ⟨RX4, "<init>", "()V"⟩
abbrev cX4_begin : ByteArray := prog_6_method_2_code
def yX4_begin : MethodName := ⟨RX4, "begin", "(IIIIII)V"⟩
abbrev cX4_goTo : ByteArray := prog_6_method_3_code
def yX4_goTo : MethodName := ⟨RX4, "goTo", "(I)V"⟩
abbrev cX4_takeAll : ByteArray := prog_6_method_4_code
def yX4_takeAll : MethodName := ⟨RX4, "takeAll", "(LWavePlan$Mast;)V"⟩
abbrev cX4_trait : ByteArray := prog_6_method_5_code
def yX4_trait : MethodName := ⟨RX4, "trait", "(I)I"⟩
abbrev cX4_heaviness : ByteArray := prog_6_method_6_code
def yX4_heaviness : MethodName := ⟨RX4, "heaviness", "()I"⟩
abbrev cX4_fail : ByteArray := prog_6_method_7_code
def yX4_fail : MethodName := ⟨RX4, "fail", "()V"⟩
def RX5 : String := "WavePlan$Mender"
def TX5 : u_T := fun k => match k with
  | 0 => ("WavePlan$Mender", "land", "LWavePlan$Land;", true)
  | _ => ("WavePlan$Mender", "judge", "LWavePlan$Judge;", true)
def tyX5 : Nat → FieldType := fun k => match k with
  | 0 => .object "WavePlan$Land"
  | _ => .object "WavePlan$Judge"
abbrev wsX50 : List Cond := u_ws RX5 TX5 2
theorem nmX5 : ∀ a, a < 2 → ∀ b, b < 2 → a ≠ b → (TX5 a).2.1 ≠ (TX5 b).2.1 := by decide +kernel
theorem tyX5_ok : ∀ k, k < 2 → parseFieldDescriptor (TX5 k).2.2.1 = some (tyX5 k) := by decide +kernel
abbrev cX5_init : ByteArray := prog_7_method_1_code
def yX5_init : MethodName := ⟨RX5, "<init>", "(LWavePlan$Land;LWavePlan$Judge;)V"⟩
abbrev cX5_canChange : ByteArray := prog_7_method_2_code
def yX5_canChange : MethodName := ⟨RX5, "canChange", "([II)Z"⟩
abbrev cX5_improve : ByteArray := prog_7_method_3_code
def yX5_improve : MethodName := ⟨RX5, "improve", "([I)Z"⟩
abbrev cX5_changeOne : ByteArray := prog_7_method_4_code
def yX5_changeOne : MethodName := ⟨RX5, "changeOne", "([I)Z"⟩
abbrev cX5_changeTwo : ByteArray := prog_7_method_5_code
def yX5_changeTwo : MethodName := ⟨RX5, "changeTwo", "([I)Z"⟩
abbrev cX5_changeBoth : ByteArray := prog_7_method_6_code
def yX5_changeBoth : MethodName := ⟨RX5, "changeBoth", "([III)Z"⟩
abbrev cX5_leastFree : ByteArray := prog_7_method_7_code
def yX5_leastFree : MethodName := ⟨RX5, "leastFree", "([III)I"⟩
def RX6 : String := "WavePlan$Shelf"
def TX6 : u_T := fun k => match k with
  | 0 => ("WavePlan$Shelf", "mast", "LWavePlan$Mast;", true)
  | 1 => ("WavePlan$Shelf", "bytes", "[B", true)
  | 2 => ("WavePlan$Shelf", "longs", "[J", true)
  | 3 => ("WavePlan$Shelf", "held", "I", false)
  | _ => ("WavePlan$Shelf", "length", "I", false)
def tyX6 : Nat → FieldType := fun k => match k with
  | 0 => .object "WavePlan$Mast"
  | 1 => .array .byte
  | 2 => .array .long
  | 3 => .int
  | _ => .int
abbrev wsX60 : List Cond := u_ws RX6 TX6 5
theorem nmX6 : ∀ a, a < 5 → ∀ b, b < 5 → a ≠ b → (TX6 a).2.1 ≠ (TX6 b).2.1 := by decide +kernel
theorem tyX6_ok : ∀ k, k < 5 → parseFieldDescriptor (TX6 k).2.2.1 = some (tyX6 k) := by decide +kernel
abbrev cX6_init : ByteArray := prog_8_method_1_code
def yX6_init : MethodName := ⟨RX6, "<init>", "()V"⟩
abbrev cX6_clear : ByteArray := prog_8_method_2_code
def yX6_clear : MethodName := ⟨RX6, "clear", "()V"⟩
abbrev cX6_takeMast : ByteArray := prog_8_method_3_code
def yX6_takeMast : MethodName := ⟨RX6, "takeMast", "(LWavePlan$Mast;)V"⟩
abbrev cX6_takeChannels : ByteArray := prog_8_method_4_code
def yX6_takeChannels : MethodName := ⟨RX6, "takeChannels", "([II)V"⟩
abbrev cX6_takeSquares : ByteArray := prog_8_method_5_code
def yX6_takeSquares : MethodName := ⟨RX6, "takeSquares", "(LWavePlan$Land;I)V"⟩
abbrev cX6_takeZeros : ByteArray := prog_8_method_6_code
def yX6_takeZeros : MethodName := ⟨RX6, "takeZeros", "(II)V"⟩
abbrev cX6_isRow : ByteArray := prog_8_method_7_code
def yX6_isRow : MethodName := ⟨RX6, "isRow", "()Z"⟩
abbrev cX6_hasRange : ByteArray := prog_8_method_8_code
def yX6_hasRange : MethodName := ⟨RX6, "hasRange", "(II)Z"⟩
abbrev cX6_at : ByteArray := prog_8_method_9_code
def yX6_at : MethodName := ⟨RX6, "at", "(I)J"⟩
abbrev cX6_copyTo : ByteArray := prog_8_method_10_code
def yX6_copyTo : MethodName := ⟨RX6, "copyTo", "(ILWavePlan$Shelf;II)V"⟩
def RX7 : String := "WavePlan$Table"
def TX7 : u_T := fun k => match k with
  | 0 => ("WavePlan$Table", "limits", "[I", true)
  | 1 => ("WavePlan$Table", "powers", "[I", true)
  | 2 => ("WavePlan$Table", "bars", "[I", true)
  | _ => ("WavePlan$Table", "rows", "I", false)
def tyX7 : Nat → FieldType := fun k => match k with
  | 0 => .array .int
  | 1 => .array .int
  | 2 => .array .int
  | _ => .int
abbrev wsX70 : List Cond := u_ws RX7 TX7 4
theorem nmX7 : ∀ a, a < 4 → ∀ b, b < 4 → a ≠ b → (TX7 a).2.1 ≠ (TX7 b).2.1 := by decide +kernel
theorem tyX7_ok : ∀ k, k < 4 → parseFieldDescriptor (TX7 k).2.2.1 = some (tyX7 k) := by decide +kernel
abbrev cX7_init : ByteArray := prog_9_method_1_code
def yX7_init : MethodName := ⟨RX7, "<init>", "()V"⟩
abbrev cX7_add : ByteArray := prog_9_method_2_code
def yX7_add : MethodName := ⟨RX7, "add", "(III)V"⟩
abbrev cX7_greatest : ByteArray := prog_9_method_3_code
def yX7_greatest : MethodName := ⟨RX7, "greatest", "(II)I"⟩
def RX8 : String := "WavePlan$Trier"
def TX8 : u_T := fun k => match k with
  | 0 => ("WavePlan$Trier", "land", "LWavePlan$Land;", true)
  | 1 => ("WavePlan$Trier", "judge", "LWavePlan$Judge;", true)
  | 2 => ("WavePlan$Trier", "trial", "[I", true)
  | 3 => ("WavePlan$Trier", "next", "[I", true)
  | 4 => ("WavePlan$Trier", "usable", "[I", true)
  | _ => ("WavePlan$Trier", "made", "I", false)
def tyX8 : Nat → FieldType := fun k => match k with
  | 0 => .object "WavePlan$Land"
  | 1 => .object "WavePlan$Judge"
  | 2 => .array .int
  | 3 => .array .int
  | 4 => .array .int
  | _ => .int
abbrev wsX80 : List Cond := u_ws RX8 TX8 6
theorem nmX8 : ∀ a, a < 6 → ∀ b, b < 6 → a ≠ b → (TX8 a).2.1 ≠ (TX8 b).2.1 := by decide +kernel
theorem tyX8_ok : ∀ k, k < 6 → parseFieldDescriptor (TX8 k).2.2.1 = some (tyX8 k) := by decide +kernel
abbrev cX8_init : ByteArray := prog_10_method_1_code
def yX8_init : MethodName := ⟨RX8, "<init>", "(LWavePlan$Land;LWavePlan$Judge;)V"⟩
abbrev cX8_search : ByteArray := prog_10_method_2_code
def yX8_search : MethodName := ⟨RX8, "search", "(I)I"⟩
abbrev cX8_handOver : ByteArray := prog_10_method_3_code
def yX8_handOver : MethodName := ⟨RX8, "handOver", "([I)V"⟩
abbrev cX8_open : ByteArray := prog_10_method_4_code
def yX8_open : MethodName := ⟨RX8, "open", "(II)V"⟩
abbrev cX8_takes : ByteArray := prog_10_method_5_code
def yX8_takes : MethodName := ⟨RX8, "takes", "(I)Z"⟩
abbrev cX8_below : ByteArray := prog_10_method_6_code
def yX8_below : MethodName := ⟨RX8, "below", "(I)I"⟩
def RX9 : String := "WavePlan"
def TX9 : u_T := fun k => match k with
  | 0 => ("WavePlan", "land", "LWavePlan$Land;", true)
  | 1 => ("WavePlan", "judge", "LWavePlan$Judge;", true)
  | 2 => ("WavePlan", "trier", "LWavePlan$Trier;", true)
  | 3 => ("WavePlan", "mender", "LWavePlan$Mender;", true)
  | 4 => ("WavePlan", "crowds", "LWavePlan$Crowds;", true)
  | 5 => ("WavePlan", "shelves", "[LWavePlan$Shelf;", true)
  | 6 => ("WavePlan", "chosen", "[I", true)
  | 7 => ("WavePlan", "imaged", "[I", true)
  | _ => ("WavePlan", "imagedWants", "I", false)
def tyX9 : Nat → FieldType := fun k => match k with
  | 0 => .object "WavePlan$Land"
  | 1 => .object "WavePlan$Judge"
  | 2 => .object "WavePlan$Trier"
  | 3 => .object "WavePlan$Mender"
  | 4 => .object "WavePlan$Crowds"
  | 5 => .array (.object "WavePlan$Shelf")
  | 6 => .array .int
  | 7 => .array .int
  | _ => .int
abbrev wsX90 : List Cond := u_ws RX9 TX9 9
theorem nmX9 : ∀ a, a < 9 → ∀ b, b < 9 → a ≠ b → (TX9 a).2.1 ≠ (TX9 b).2.1 := by decide +kernel
theorem tyX9_ok : ∀ k, k < 9 → parseFieldDescriptor (TX9 k).2.2.1 = some (tyX9 k) := by decide +kernel
abbrev cX9_init : ByteArray := prog_1_method_1_code
def yX9_init : MethodName := ⟨RX9, "<init>", "()V"⟩
abbrev cX9_mast : ByteArray := prog_1_method_2_code
def yX9_mast : MethodName := ⟨RX9, "mast", "(IIII)I"⟩
abbrev cX9_move : ByteArray := prog_1_method_3_code
def yX9_move : MethodName := ⟨RX9, "move", "(II)I"⟩
abbrev cX9_list : ByteArray := prog_1_method_4_code
def yX9_list : MethodName := ⟨RX9, "list", "(II)I"⟩
abbrev cX9_gap : ByteArray := prog_1_method_5_code
def yX9_gap : MethodName := ⟨RX9, "gap", "(II)I"⟩
abbrev cX9_stay : ByteArray := prog_1_method_6_code
def yX9_stay : MethodName := ⟨RX9, "stay", "(II)I"⟩
abbrev cX9_row : ByteArray := prog_1_method_7_code
def yX9_row : MethodName := ⟨RX9, "row", "(III)I"⟩
abbrev cX9_own : ByteArray := prog_1_method_8_code
def yX9_own : MethodName := ⟨RX9, "own", "(II)I"⟩
abbrev cX9_border : ByteArray := prog_1_method_9_code
def yX9_border : MethodName := ⟨RX9, "border", "(IIII)I"⟩
abbrev cX9_turn : ByteArray := prog_1_method_10_code
def yX9_turn : MethodName := ⟨RX9, "turn", "()I"⟩
abbrev cX9_bar : ByteArray := prog_1_method_11_code
def yX9_bar : MethodName := ⟨RX9, "bar", "(II)I"⟩
abbrev cX9_may : ByteArray := prog_1_method_12_code
def yX9_may : MethodName := ⟨RX9, "may", "(II)I"⟩
abbrev cX9_set : ByteArray := prog_1_method_13_code
def yX9_set : MethodName := ⟨RX9, "set", "(II)I"⟩
abbrev cX9_channel : ByteArray := prog_1_method_14_code
def yX9_channel : MethodName := ⟨RX9, "channel", "(I)I"⟩
abbrev cX9_of : ByteArray := prog_1_method_15_code
def yX9_of : MethodName := ⟨RX9, "of", "(I)I"⟩
abbrev cX9_harm : ByteArray := prog_1_method_16_code
def yX9_harm : MethodName := ⟨RX9, "harm", "()I"⟩
abbrev cX9_kept : ByteArray := prog_1_method_17_code
def yX9_kept : MethodName := ⟨RX9, "kept", "()I"⟩
abbrev cX9_broken : ByteArray := prog_1_method_18_code
def yX9_broken : MethodName := ⟨RX9, "broken", "(I)I"⟩
abbrev cX9_pair : ByteArray := prog_1_method_19_code
def yX9_pair : MethodName := ⟨RX9, "pair", "(II)I"⟩
abbrev cX9_plan : ByteArray := prog_1_method_20_code
def yX9_plan : MethodName := ⟨RX9, "plan", "(I)I"⟩
abbrev cX9_tries : ByteArray := prog_1_method_21_code
def yX9_tries : MethodName := ⟨RX9, "tries", "()I"⟩
abbrev cX9_least : ByteArray := prog_1_method_22_code
def yX9_least : MethodName := ⟨RX9, "least", "()I"⟩
abbrev cX9_span : ByteArray := prog_1_method_23_code
def yX9_span : MethodName := ⟨RX9, "span", "()I"⟩
abbrev cX9_better : ByteArray := prog_1_method_24_code
def yX9_better : MethodName := ⟨RX9, "better", "(I)I"⟩
abbrev cX9_fewest : ByteArray := prog_1_method_25_code
def yX9_fewest : MethodName := ⟨RX9, "fewest", "(I)I"⟩
abbrev cX9_bound : ByteArray := prog_1_method_26_code
def yX9_bound : MethodName := ⟨RX9, "bound", "(I)I"⟩
abbrev cX9_crowd : ByteArray := prog_1_method_27_code
def yX9_crowd : MethodName := ⟨RX9, "crowd", "()I"⟩
abbrev cX9_part : ByteArray := prog_1_method_28_code
def yX9_part : MethodName := ⟨RX9, "part", "(I)I"⟩
abbrev cX9_image : ByteArray := prog_1_method_29_code
def yX9_image : MethodName := ⟨RX9, "image", "()I"⟩
abbrev cX9_restore : ByteArray := prog_1_method_30_code
def yX9_restore : MethodName := ⟨RX9, "restore", "()I"⟩
abbrev cX9_count : ByteArray := prog_1_method_31_code
def yX9_count : MethodName := ⟨RX9, "count", "(I)I"⟩
abbrev cX9_look : ByteArray := prog_1_method_32_code
def yX9_look : MethodName := ⟨RX9, "look", "(II)I"⟩
abbrev cX9_keep : ByteArray := prog_1_method_33_code
def yX9_keep : MethodName := ⟨RX9, "keep", "(III)I"⟩
abbrev cX9_make : ByteArray := prog_1_method_34_code
def yX9_make : MethodName := ⟨RX9, "make", "(III)I"⟩
abbrev cX9_element : ByteArray := prog_1_method_35_code
def yX9_element : MethodName := ⟨RX9, "element", "(II)J"⟩
abbrev cX9_copy : ByteArray := prog_1_method_36_code
def yX9_copy : MethodName := ⟨RX9, "copy", "(IIIII)I"⟩
abbrev cX9_weight : ByteArray := prog_1_method_37_code
def yX9_weight : MethodName := ⟨RX9, "weight", "(I)I"⟩
abbrev cX9_toss : ByteArray := prog_1_method_38_code
def yX9_toss : MethodName := ⟨RX9, "toss", "(I)I"⟩
abbrev cX9_refusalOfMast : ByteArray := prog_1_method_39_code
def yX9_refusalOfMast : MethodName := ⟨RX9, "refusalOfMast", "(I)I"⟩
abbrev cX9_isShelf : ByteArray := prog_1_method_40_code
def yX9_isShelf : MethodName := ⟨RX9, "isShelf", "(I)Z"⟩
abbrev cX9_isPlace : ByteArray := prog_1_method_41_code
def yX9_isPlace : MethodName := ⟨RX9, "isPlace", "(I)Z"⟩
abbrev cX9_within : ByteArray := prog_1_method_42_code
def yX9_within : MethodName := ⟨RX9, "within", "(III)Z"⟩
def RX10 : String := "WavePlanModel"
def TX10 : u_T := fun k => match k with
  | 0 => ("WavePlanModel", "thrown", "I", false)
  | 1 => ("WavePlanModel", "masts", "I", false)
  | 2 => ("WavePlanModel", "kind", "[I", true)
  | 3 => ("WavePlanModel", "px", "[I", true)
  | 4 => ("WavePlanModel", "py", "[I", true)
  | 5 => ("WavePlanModel", "power", "[I", true)
  | 6 => ("WavePlanModel", "many", "[I", true)
  | 7 => ("WavePlanModel", "firstWant", "[I", true)
  | 8 => ("WavePlanModel", "list", "[I", true)
  | 9 => ("WavePlanModel", "gap", "[I", true)
  | 10 => ("WavePlanModel", "wants", "I", false)
  | 11 => ("WavePlanModel", "mastOf", "[I", true)
  | 12 => ("WavePlanModel", "stays", "[I", true)
  | 13 => ("WavePlanModel", "has", "[I", true)
  | 14 => ("WavePlanModel", "rows", "I", false)
  | 15 => ("WavePlanModel", "rowLimit", "[I", true)
  | 16 => ("WavePlanModel", "rowPower", "[I", true)
  | 17 => ("WavePlanModel", "rowBar", "[I", true)
  | 18 => ("WavePlanModel", "own", "I", false)
  | 19 => ("WavePlanModel", "sums", "I", false)
  | 20 => ("WavePlanModel", "line", "I", false)
  | 21 => ("WavePlanModel", "border", "I", false)
  | 22 => ("WavePlanModel", "firstSet", "I", false)
  | 23 => ("WavePlanModel", "secondSet", "I", false)
  | 24 => ("WavePlanModel", "before", "[I", true)
  | 25 => ("WavePlanModel", "tries", "I", false)
  | 26 => ("WavePlanModel", "spent", "Z", false)
  | 27 => ("WavePlanModel", "kept", "[I", true)
  | 28 => ("WavePlanModel", "crowdWant", "[I", true)
  | 29 => ("WavePlanModel", "best", "[I", true)
  | 30 => ("WavePlanModel", "partOf", "[I", true)
  | 31 => ("WavePlanModel", "imageWants", "I", false)
  | 32 => ("WavePlanModel", "image", "[I", true)
  | 33 => ("WavePlanModel", "shelf", "[I", true)
  | 34 => ("WavePlanModel", "shelfSize", "[I", true)
  | 35 => ("WavePlanModel", "shelfWeight", "[I", true)
  | 36 => ("WavePlanModel", "shelfFailure", "[I", true)
  | 37 => ("WavePlanModel", "shelfRow", "[J", true)
  | _ => ("WavePlanModel", "between", "[J", true)
def tyX10 : Nat → FieldType := fun k => match k with
  | 0 => .int
  | 1 => .int
  | 2 => .array .int
  | 3 => .array .int
  | 4 => .array .int
  | 5 => .array .int
  | 6 => .array .int
  | 7 => .array .int
  | 8 => .array .int
  | 9 => .array .int
  | 10 => .int
  | 11 => .array .int
  | 12 => .array .int
  | 13 => .array .int
  | 14 => .int
  | 15 => .array .int
  | 16 => .array .int
  | 17 => .array .int
  | 18 => .int
  | 19 => .int
  | 20 => .int
  | 21 => .int
  | 22 => .int
  | 23 => .int
  | 24 => .array .int
  | 25 => .int
  | 26 => .boolean
  | 27 => .array .int
  | 28 => .array .int
  | 29 => .array .int
  | 30 => .array .int
  | 31 => .int
  | 32 => .array .int
  | 33 => .array .int
  | 34 => .array .int
  | 35 => .array .int
  | 36 => .array .int
  | 37 => .array .long
  | _ => .array .long
abbrev wsX100 : List Cond := u_ws RX10 TX10 39
theorem nmX10 : ∀ a, a < 39 → ∀ b, b < 39 → a ≠ b → (TX10 a).2.1 ≠ (TX10 b).2.1 := by decide +kernel
theorem tyX10_ok : ∀ k, k < 39 → parseFieldDescriptor (TX10 k).2.2.1 = some (tyX10 k) := by decide +kernel
abbrev cX10_init : ByteArray := prog_12_method_1_code
def yX10_init : MethodName := ⟨RX10, "<init>", "()V"⟩
abbrev cX10_thrown : ByteArray := prog_12_method_2_code
def yX10_thrown : MethodName := ⟨RX10, "thrown", "()I"⟩
abbrev cX10_isIn : ByteArray := prog_12_method_3_code
def yX10_isIn : MethodName := ⟨RX10, "isIn", "(JJJ)Z"⟩
abbrev cX10_isMast : ByteArray := prog_12_method_4_code
def yX10_isMast : MethodName := ⟨RX10, "isMast", "(I)Z"⟩
abbrev cX10_isWant : ByteArray := prog_12_method_5_code
def yX10_isWant : MethodName := ⟨RX10, "isWant", "(I)Z"⟩
abbrev cX10_isPlace : ByteArray := prog_12_method_6_code
def yX10_isPlace : MethodName := ⟨RX10, "isPlace", "(I)Z"⟩
abbrev cX10_isSet : ByteArray := prog_12_method_7_code
def yX10_isSet : MethodName := ⟨RX10, "isSet", "(I)Z"⟩
abbrev cX10_mast : ByteArray := prog_12_method_8_code
def yX10_mast : MethodName := ⟨RX10, "mast", "(IIII)I"⟩
abbrev cX10_square : ByteArray := prog_12_method_9_code
def yX10_square : MethodName := ⟨RX10, "square", "(II)I"⟩
abbrev cX10_barOf : ByteArray := prog_12_method_10_code
def yX10_barOf : MethodName := ⟨RX10, "barOf", "(II)I"⟩
abbrev cX10_move : ByteArray := prog_12_method_11_code
def yX10_move : MethodName := ⟨RX10, "move", "(II)I"⟩
abbrev cX10_countBits : ByteArray := prog_12_method_12_code
def yX10_countBits : MethodName := ⟨RX10, "countBits", "(I)I"⟩
abbrev cX10_list : ByteArray := prog_12_method_13_code
def yX10_list : MethodName := ⟨RX10, "list", "(II)I"⟩
abbrev cX10_gap : ByteArray := prog_12_method_14_code
def yX10_gap : MethodName := ⟨RX10, "gap", "(II)I"⟩
abbrev cX10_stay : ByteArray := prog_12_method_15_code
def yX10_stay : MethodName := ⟨RX10, "stay", "(II)I"⟩
abbrev cX10_row : ByteArray := prog_12_method_16_code
def yX10_row : MethodName := ⟨RX10, "row", "(III)I"⟩
abbrev cX10_own : ByteArray := prog_12_method_17_code
def yX10_own : MethodName := ⟨RX10, "own", "(II)I"⟩
abbrev cX10_border : ByteArray := prog_12_method_18_code
def yX10_border : MethodName := ⟨RX10, "border", "(IIII)I"⟩
abbrev cX10_isFree : ByteArray := prog_12_method_19_code
def yX10_isFree : MethodName := ⟨RX10, "isFree", "(II)Z"⟩
abbrev cX10_isListed : ByteArray := prog_12_method_20_code
def yX10_isListed : MethodName := ⟨RX10, "isListed", "(II)Z"⟩
abbrev cX10_mayHave : ByteArray := prog_12_method_21_code
def yX10_mayHave : MethodName := ⟨RX10, "mayHave", "(II)Z"⟩
abbrev cX10_turn : ByteArray := prog_12_method_22_code
def yX10_turn : MethodName := ⟨RX10, "turn", "()I"⟩
abbrev cX10_bar : ByteArray := prog_12_method_23_code
def yX10_bar : MethodName := ⟨RX10, "bar", "(II)I"⟩
abbrev cX10_may : ByteArray := prog_12_method_24_code
def yX10_may : MethodName := ⟨RX10, "may", "(II)I"⟩
abbrev cX10_set : ByteArray := prog_12_method_25_code
def yX10_set : MethodName := ⟨RX10, "set", "(II)I"⟩
abbrev cX10_channel : ByteArray := prog_12_method_26_code
def yX10_channel : MethodName := ⟨RX10, "channel", "(I)I"⟩
abbrev cX10_of : ByteArray := prog_12_method_27_code
def yX10_of : MethodName := ⟨RX10, "of", "(I)I"⟩
abbrev cX10_channelOf : ByteArray := prog_12_method_28_code
def yX10_channelOf : MethodName := ⟨RX10, "channelOf", "(II)I"⟩
abbrev cX10_channelsOf : ByteArray := prog_12_method_29_code
def yX10_channelsOf : MethodName := ⟨RX10, "channelsOf", "(I)I"⟩
abbrev cX10_lack : ByteArray := prog_12_method_30_code
def yX10_lack : MethodName := ⟨RX10, "lack", "(II)I"⟩
abbrev cX10_areIn : ByteArray := prog_12_method_31_code
def yX10_areIn : MethodName := ⟨RX10, "areIn", "(III)Z"⟩
abbrev cX10_middles : ByteArray := prog_12_method_32_code
def yX10_middles : MethodName := ⟨RX10, "middles", "(III)I"⟩
abbrev cX10_brokenOf : ByteArray := prog_12_method_33_code
def yX10_brokenOf : MethodName := ⟨RX10, "brokenOf", "(I)I"⟩
abbrev cX10_harmNow : ByteArray := prog_12_method_34_code
def yX10_harmNow : MethodName := ⟨RX10, "harmNow", "()I"⟩
abbrev cX10_harm : ByteArray := prog_12_method_35_code
def yX10_harm : MethodName := ⟨RX10, "harm", "()I"⟩
abbrev cX10_kept : ByteArray := prog_12_method_36_code
def yX10_kept : MethodName := ⟨RX10, "kept", "()I"⟩
abbrev cX10_broken : ByteArray := prog_12_method_37_code
def yX10_broken : MethodName := ⟨RX10, "broken", "(I)I"⟩
abbrev cX10_pair : ByteArray := prog_12_method_38_code
def yX10_pair : MethodName := ⟨RX10, "pair", "(II)I"⟩
abbrev cX10_isFine : ByteArray := prog_12_method_39_code
def yX10_isFine : MethodName := ⟨RX10, "isFine", "(I)Z"⟩
abbrev cX10_isTaken : ByteArray := prog_12_method_40_code
def yX10_isTaken : MethodName := ⟨RX10, "isTaken", "(III)Z"⟩
abbrev cX10_tryBelow : ByteArray := prog_12_method_41_code
def yX10_tryBelow : MethodName := ⟨RX10, "tryBelow", "(I)Z"⟩
abbrev cX10_keepPlan : ByteArray := prog_12_method_42_code
def yX10_keepPlan : MethodName := ⟨RX10, "keepPlan", "()V"⟩
abbrev cX10_givePlan : ByteArray := prog_12_method_43_code
def yX10_givePlan : MethodName := ⟨RX10, "givePlan", "()V"⟩
abbrev cX10_plan : ByteArray := prog_12_method_44_code
def yX10_plan : MethodName := ⟨RX10, "plan", "(I)I"⟩
abbrev cX10_tries : ByteArray := prog_12_method_45_code
def yX10_tries : MethodName := ⟨RX10, "tries", "()I"⟩
abbrev cX10_least : ByteArray := prog_12_method_46_code
def yX10_least : MethodName := ⟨RX10, "least", "()I"⟩
abbrev cX10_span : ByteArray := prog_12_method_47_code
def yX10_span : MethodName := ⟨RX10, "span", "()I"⟩
abbrev cX10_isBettered : ByteArray := prog_12_method_48_code
def yX10_isBettered : MethodName := ⟨RX10, "isBettered", "()Z"⟩
abbrev cX10_better : ByteArray := prog_12_method_49_code
def yX10_better : MethodName := ⟨RX10, "better", "(I)I"⟩
abbrev cX10_isHealedBy : ByteArray := prog_12_method_50_code
def yX10_isHealedBy : MethodName := ⟨RX10, "isHealedBy", "(I)Z"⟩
abbrev cX10_isHealedByTwo : ByteArray := prog_12_method_51_code
def yX10_isHealedByTwo : MethodName := ⟨RX10, "isHealedByTwo", "()Z"⟩
abbrev cX10_fewest : ByteArray := prog_12_method_52_code
def yX10_fewest : MethodName := ⟨RX10, "fewest", "(I)I"⟩
abbrev cX10_wantsIn : ByteArray := prog_12_method_53_code
def yX10_wantsIn : MethodName := ⟨RX10, "wantsIn", "(I)I"⟩
abbrev cX10_isCrowd : ByteArray := prog_12_method_54_code
def yX10_isCrowd : MethodName := ⟨RX10, "isCrowd", "(I)Z"⟩
abbrev cX10_boundOf : ByteArray := prog_12_method_55_code
def yX10_boundOf : MethodName := ⟨RX10, "boundOf", "(I)I"⟩
abbrev cX10_bound : ByteArray := prog_12_method_56_code
def yX10_bound : MethodName := ⟨RX10, "bound", "(I)I"⟩
abbrev cX10_crowd : ByteArray := prog_12_method_57_code
def yX10_crowd : MethodName := ⟨RX10, "crowd", "()I"⟩
abbrev cX10_areNear : ByteArray := prog_12_method_58_code
def yX10_areNear : MethodName := ⟨RX10, "areNear", "(II)Z"⟩
abbrev cX10_findParts : ByteArray := prog_12_method_59_code
def yX10_findParts : MethodName := ⟨RX10, "findParts", "()I"⟩
abbrev cX10_part : ByteArray := prog_12_method_60_code
def yX10_part : MethodName := ⟨RX10, "part", "(I)I"⟩
abbrev cX10_withChannel : ByteArray := prog_12_method_61_code
def yX10_withChannel : MethodName := ⟨RX10, "withChannel", "()I"⟩
abbrev cX10_image : ByteArray := prog_12_method_62_code
def yX10_image : MethodName := ⟨RX10, "image", "()I"⟩
abbrev cX10_restore : ByteArray := prog_12_method_63_code
def yX10_restore : MethodName := ⟨RX10, "restore", "()I"⟩
abbrev cX10_bars : ByteArray := prog_12_method_64_code
def yX10_bars : MethodName := ⟨RX10, "bars", "()I"⟩
abbrev cX10_threes : ByteArray := prog_12_method_65_code
def yX10_threes : MethodName := ⟨RX10, "threes", "()I"⟩
abbrev cX10_count : ByteArray := prog_12_method_66_code
def yX10_count : MethodName := ⟨RX10, "count", "(I)I"⟩
abbrev cX10_look : ByteArray := prog_12_method_67_code
def yX10_look : MethodName := ⟨RX10, "look", "(II)I"⟩
abbrev cX10_isShelf : ByteArray := prog_12_method_68_code
def yX10_isShelf : MethodName := ⟨RX10, "isShelf", "(I)Z"⟩
abbrev cX10_weightOf : ByteArray := prog_12_method_69_code
def yX10_weightOf : MethodName := ⟨RX10, "weightOf", "(I)I"⟩
abbrev cX10_keep : ByteArray := prog_12_method_70_code
def yX10_keep : MethodName := ⟨RX10, "keep", "(III)I"⟩
abbrev cX10_make : ByteArray := prog_12_method_71_code
def yX10_make : MethodName := ⟨RX10, "make", "(III)I"⟩
abbrev cX10_element : ByteArray := prog_12_method_72_code
def yX10_element : MethodName := ⟨RX10, "element", "(II)J"⟩
abbrev cX10_hasPlaces : ByteArray := prog_12_method_73_code
def yX10_hasPlaces : MethodName := ⟨RX10, "hasPlaces", "(III)Z"⟩
abbrev cX10_copy : ByteArray := prog_12_method_74_code
def yX10_copy : MethodName := ⟨RX10, "copy", "(IIIII)I"⟩
abbrev cX10_denied : ByteArray := prog_12_method_75_code
def yX10_denied : MethodName := ⟨RX10, "denied", "(I)I"⟩
abbrev cX10_weight : ByteArray := prog_12_method_76_code
def yX10_weight : MethodName := ⟨RX10, "weight", "(I)I"⟩
abbrev cX10_toss : ByteArray := prog_12_method_77_code
def yX10_toss : MethodName := ⟨RX10, "toss", "(I)I"⟩
def RJx145de : String := "java/io/Serializable"
def TJx145de : u_T := fun k => match k with
  | _ => ("", "", "", false)
def tyJx145de : Nat → FieldType := fun k => match k with
  | _ => .int
abbrev wsJx145de0 : List Cond := u_ws RJx145de TJx145de 0
theorem nmJx145de : ∀ a, a < 0 → ∀ b, b < 0 → a ≠ b → (TJx145de a).2.1 ≠ (TJx145de b).2.1 := by decide +kernel
theorem tyJx145de_ok : ∀ k, k < 0 → parseFieldDescriptor (TJx145de k).2.2.1 = some (tyJx145de k) := by decide +kernel
def RJ6 : String := "java/lang/Integer"
def TJ6 : u_T := fun k => match k with
  | _ => ("", "", "", false)
def tyJ6 : Nat → FieldType := fun k => match k with
  | _ => .int
abbrev wsJ60 : List Cond := u_ws RJ6 TJ6 0
theorem nmJ6 : ∀ a, a < 0 → ∀ b, b < 0 → a ≠ b → (TJ6 a).2.1 ≠ (TJ6 b).2.1 := by decide +kernel
theorem tyJ6_ok : ∀ k, k < 0 → parseFieldDescriptor (TJ6 k).2.2.1 = some (tyJ6 k) := by decide +kernel
abbrev cJ6_bitCount_0f7a4 : ByteArray := prog_16_method_49_code
def yJ6_bitCount_0f7a4 : MethodName := ⟨RJ6, "bitCount", "(I)I"⟩
def RJ9 : String := "java/lang/Math"
def TJ9 : u_T := fun k => match k with
  | _ => ("", "", "", false)
def tyJ9 : Nat → FieldType := fun k => match k with
  | _ => .int
abbrev wsJ90 : List Cond := u_ws RJ9 TJ9 0
theorem nmJ9 : ∀ a, a < 0 → ∀ b, b < 0 → a ≠ b → (TJ9 a).2.1 ≠ (TJ9 b).2.1 := by decide +kernel
theorem tyJ9_ok : ∀ k, k < 0 → parseFieldDescriptor (TJ9 k).2.2.1 = some (tyJ9 k) := by decide +kernel
abbrev cJ9_abs_0f7a4 : ByteArray := prog_17_method_59_code
def yJ9_abs_0f7a4 : MethodName := ⟨RJ9, "abs", "(I)I"⟩
abbrev cJ9_max_7cf53 : ByteArray := prog_17_method_65_code
def yJ9_max_7cf53 : MethodName := ⟨RJ9, "max", "(II)I"⟩
abbrev cJ9_min_7cf53 : ByteArray := prog_17_method_69_code
def yJ9_min_7cf53 : MethodName := ⟨RJ9, "min", "(II)I"⟩
def RJ0 : String := "java/lang/String"
def TJ0 : u_T := fun k => match k with
  | _ => ("", "", "", false)
def tyJ0 : Nat → FieldType := fun k => match k with
  | _ => .int
abbrev wsJ00 : List Cond := u_ws RJ0 TJ0 0
theorem nmJ0 : ∀ a, a < 0 → ∀ b, b < 0 → a ≠ b → (TJ0 a).2.1 ≠ (TJ0 b).2.1 := by decide +kernel
theorem tyJ0_ok : ∀ k, k < 0 → parseFieldDescriptor (TJ0 k).2.2.1 = some (tyJ0 k) := by decide +kernel
def RJ10 : String := "java/lang/System"
def TJ10 : u_T := fun k => match k with
  | _ => ("", "", "", false)
def tyJ10 : Nat → FieldType := fun k => match k with
  | _ => .int
abbrev wsJ100 : List Cond := u_ws RJ10 TJ10 0
theorem nmJ10 : ∀ a, a < 0 → ∀ b, b < 0 → a ≠ b → (TJ10 a).2.1 ≠ (TJ10 b).2.1 := by decide +kernel
theorem tyJ10_ok : ∀ k, k < 0 → parseFieldDescriptor (TJ10 k).2.2.1 = some (tyJ10 k) := by decide +kernel
def RJ7 : String := "java/util/Arrays"
def TJ7 : u_T := fun k => match k with
  | _ => ("", "", "", false)
def tyJ7 : Nat → FieldType := fun k => match k with
  | _ => .int
abbrev wsJ70 : List Cond := u_ws RJ7 TJ7 0
theorem nmJ7 : ∀ a, a < 0 → ∀ b, b < 0 → a ≠ b → (TJ7 a).2.1 ≠ (TJ7 b).2.1 := by decide +kernel
theorem tyJ7_ok : ∀ k, k < 0 → parseFieldDescriptor (TJ7 k).2.2.1 = some (tyJ7 k) := by decide +kernel
abbrev cJ7_fill_d0a16 : ByteArray := prog_23_method_101_code
def yJ7_fill_d0a16 : MethodName := ⟨RJ7, "fill", "([JJ)V"⟩
abbrev cJ7_fill_53178 : ByteArray := prog_23_method_103_code
def yJ7_fill_53178 : MethodName := ⟨RJ7, "fill", "([II)V"⟩
abbrev cJ7_fill_031fb : ByteArray := prog_23_method_109_code
def yJ7_fill_031fb : MethodName := ⟨RJ7, "fill", "([BB)V"⟩
def RL : String := "WavePlanLaw"
abbrev cL_element : ByteArray := method_3_code
def yL_element : MethodName := ⟨RL, "element", "(LWavePlan;II[J)I"⟩
abbrev cL_law : ByteArray := code
def yL_law : MethodName := ⟨RL, "law", "([I)Z"⟩
abbrev vwCl : List vw_C := [(RX0, TX0, 5), (RX1, TX1, 4), (RX2, TX2, 2), (RX3, TX3, 11), (RX4, TX4, 9), (RX5, TX5, 2), (RX6, TX6, 5), (RX7, TX7, 4), (RX8, TX8, 6), (RX9, TX9, 9), (RX10, TX10, 39)]
end
section
/-! THE PICTURE: cells have numbers (places in a list of shapes); what they hold is a function of number and slot. -/
section ABdefs
/-- what the cells hold: ints (bytes, booleans) and longs, by the cell's number and the slot -/
abbrev ab_M : Type := (Nat → Nat → Int32) × (Nat → Nat → Int64)
/-- a cell's shape: its class (below 100; 100 int[], 101 byte[], 102 long[], 103 and on arrays of references), its size, its references -/
abbrev ab_S : Type := Nat × Nat × List (Option Nat)
abbrev ab_H : Type := List ab_S
/-- a method: name, the class that it stands in, code, locals, answer -/
abbrev ab_Me : Type := MethodName × String × ByteArray × Nat × Option FieldType
def ab_v (ad : Nat → Nat) (v : Value) : Value := match v with
  | .ref i => .ref (ad i)
  | v => v
/-- which fields are references -/
def ab_RT : List (List Bool) := [[true, true, true, false, false], [false, false, false, false], [true, true], [true, true, true, true, true, true, true, false, false, false, false], [false, false, false, false, false, false, false, false, false], [true, true], [true, true, true, false, false], [true, true, true, false], [true, true, true, true, true, false], [true, true, true, true, true, true, true, true, false], [false, false, true, true, true, true, true, true, true, true, false, true, true, true, false, true, true, true, false, false, false, false, false, false, true, false, false, true, true, true, true, false, true, true, true, true, true, true, true]]
def ab_isR (ci k : Nat) : Bool := (ab_RT.getD ci []).getD k false
def ab_fv (ad : Nat → Nat) (M : ab_M) (id : Nat) (x : ab_S) (k : Nat) : Value := if ab_isR x.1 k = true then va_rf ((x.2.2.getD k none).map ad) else .int (M.1 id k)
def ab_cell (ac : Nat → ClassId) (ad : Nat → Nat) (M : ab_M) (id : Nat) (x : ab_S) : va_E :=
  if x.1 < 100 then .inr (x.1, (List.range x.2.1).map (ab_fv ad M id x))
  else if x.1 < 102 then .inl (ac x.1, x.2.1, .inl (M.1 id))
  else if x.1 = 102 then .inl (ac x.1, x.2.1, .inr (.inl (M.2 id)))
  else .inl (ac x.1, x.2.1, .inr (.inr (.inr (.inr (fun j => (x.2.2.getD j none).map ad)))))
def ab_W (ac : Nat → ClassId) (ad : Nat → Nat) (sh : ab_H) (M : ab_M) : va_W := (List.range sh.length).map (fun id => (ad id, ab_cell ac ad M id (sh.getD id (0, 0, []))))
def ab_tys (ac : Nat → ClassId) : List (ClassId × FieldType) := [(ac 100, .int), (ac 101, .byte), (ac 102, .long), (ac 103, .object "WavePlan$Mast"), (ac 104, .object "WavePlan$Shelf")]
/-- the words of the tables that stay, for every method -/
def ab_G : List Cond := lw_tbl.filter goodWord
def ab_ws (me : ab_Me) : List Cond := .code me.1 me.2.2.1 me.2.2.2.1 me.2.2.2.2 :: ab_G
def ab_isN (w : Cond) : Bool := match w with
  | .fieldLinkNest .. => true
  | .methodLinkNest .. => true
  | _ => false
def ab_nest : List Cond := lw_tbl.filter ab_isN
def ab_N (U : State) : Prop := ∀ w ∈ ab_nest, va_Nw w U
theorem ab_N.warm {s U : State} (hW : s.WarmedH U.vm) (h : ab_N s) : ab_N U := by
  intro w hw
  have h1 := h w hw
  have h2 := (List.mem_filter.mp hw).2
  match w, h1, h2 with
  | .fieldLinkNest .., h1, _ => exact va_Nw.warmF hW h1
  | .methodLinkNest .., h1, _ => exact va_Nw.warmM hW h1
theorem ab_N.same {s U : State} (hv : s.vm = U.vm) (h : ab_N s) : ab_N U := by
  intro w hw
  have h1 := h w hw
  have h2 := (List.mem_filter.mp hw).2
  match w, h1, h2 with
  | .fieldLinkNest .., h1, _ => exact va_Nw.same rfl hv h1
  | .methodLinkNest .., h1, _ => exact va_Nw.same rfl hv h1
theorem ab_G_in {w : Cond} {i : Nat} (h : lw_tbl[i]? = some w) (hg : goodWord w = true) : w ∈ ab_G := List.mem_filter.mpr ⟨List.mem_of_getElem? h, hg⟩
theorem ab_n_in {w : Cond} {i : Nat} (h : lw_tbl[i]? = some w) (hg : ab_isN w = true) : w ∈ ab_nest := List.mem_filter.mpr ⟨List.mem_of_getElem? h, hg⟩
theorem ab_goodIn {me me' : ab_Me} (h : Cond.code me'.1 me'.2.2.1 me'.2.2.2.1 me'.2.2.2.2 ∈ ab_G) : GoodIn (ab_ws me) (ab_ws me') := by
  intro w hw
  rcases List.mem_cons.mp hw with rfl | hw
  · exact ⟨List.mem_cons_of_mem _ h, good_of_word (List.mem_filter.mp h).2⟩
  · exact ⟨List.mem_cons_of_mem _ hw, good_of_word (List.mem_filter.mp hw).2⟩
theorem ab_good1 {me : ab_Me} {w : Cond} (h : w ∈ ab_G) : w ∈ ab_ws me ∧ ((w.onTables && w.keeps) = true ∨ ∃ ty, w = .arrayClass ty) := ⟨List.mem_cons_of_mem _ h, good_of_word (List.mem_filter.mp h).2⟩
/-! what is written -/
def ab_pi (M : ab_M) (o k : Nat) (v : Int32) : ab_M := (fun a b => if a = o ∧ b = k then v else M.1 a b, M.2)
def ab_pl (M : ab_M) (o k : Nat) (v : Int64) : ab_M := (M.1, fun a b => if a = o ∧ b = k then v else M.2 a b)
theorem ab_W_get {ac : Nat → ClassId} {ad : Nat → Nat} {sh : ab_H} {M : ab_M} {id : Nat} {x : ab_S} (h : sh[id]? = some x) : (ab_W ac ad sh M)[id]? = some (ad id, ab_cell ac ad M id x) := by
  obtain ⟨hl, he⟩ := List.getElem?_eq_some_iff.mp h
  simp [ab_W, hl, he]
theorem ab_W_set {ac : Nat → ClassId} {ad : Nat → Nat} {sh : ab_H} {M M' : ab_M} {id : Nat} {x : ab_S} {c' : va_E} (h : sh[id]? = some x) (hc : ab_cell ac ad M' id x = c') (ho : ∀ (j : Nat) (y : ab_S), j ≠ id → ab_cell ac ad M' j y = ab_cell ac ad M j y) : (ab_W ac ad sh M).set id (ad id, c') = ab_W ac ad sh M' := by
  have hl := (List.getElem?_eq_some_iff.mp h).1
  subst hc
  refine List.ext_getElem? (fun k => ?_)
  by_cases hk : k = id
  · subst hk
    rw [List.getElem?_set_self (by simp [ab_W, hl]), ab_W_get h]
  · rw [List.getElem?_set_ne (Ne.symm hk)]
    by_cases hkl : k < sh.length
    · simp [ab_W, hkl, ho k _ hk]
    · simp [ab_W, hkl]
theorem ab_cell_i {ac : Nat → ClassId} {ad : Nat → Nat} {M : ab_M} {o k j : Nat} {v : Int32} {y : ab_S} (h : j ≠ o) : ab_cell ac ad (ab_pi M o k v) j y = ab_cell ac ad M j y := by
  have h1 : (ab_pi M o k v).1 j = M.1 j := by funext b; simp [ab_pi, h]
  have h2 : (ab_pi M o k v).2 = M.2 := rfl
  unfold ab_cell
  rw [h1, h2]
  have h3 : ab_fv ad (ab_pi M o k v) j y = ab_fv ad M j y := by funext b; simp [ab_fv, h1]
  rw [h3]
theorem ab_cell_l {ac : Nat → ClassId} {ad : Nat → Nat} {M : ab_M} {o k j : Nat} {v : Int64} {y : ab_S} (h : j ≠ o) : ab_cell ac ad (ab_pl M o k v) j y = ab_cell ac ad M j y := by
  have h1 : (ab_pl M o k v).2 j = M.2 j := by funext b; simp [ab_pl, h]
  have h2 : (ab_pl M o k v).1 = M.1 := rfl
  unfold ab_cell
  rw [h1, h2]
  have h3 : ab_fv ad (ab_pl M o k v) j y = ab_fv ad M j y := by funext b; simp [ab_fv, h2]
  rw [h3]
theorem ab_cell_obj {ac : Nat → ClassId} {ad : Nat → Nat} {M : ab_M} {id : Nat} {x : ab_S} (h : x.1 < 100) : ab_cell ac ad M id x = .inr (x.1, (List.range x.2.1).map (ab_fv ad M id x)) := by simp [ab_cell, h]
theorem ab_obj_set {ad : Nat → Nat} {M : ab_M} {id : Nat} {x : ab_S} {k : Nat} {v : Int32} (hr : ab_isR x.1 k = false) : ((List.range x.2.1).map (ab_fv ad M id x)).set k (.int v) = (List.range x.2.1).map (ab_fv ad (ab_pi M id k v) id x) := by
  refine List.ext_getElem? (fun j => ?_)
  by_cases hj : j = k
  · subst hj
    by_cases hl : j < x.2.1
    · rw [List.getElem?_set_self (by simpa using hl)]
      simp [hl, ab_fv, hr, ab_pi]
    · rw [List.getElem?_eq_none (by simpa using Nat.not_lt.mp hl), List.getElem?_eq_none (by simpa using Nat.not_lt.mp hl)]
  · rw [List.getElem?_set_ne (Ne.symm hj)]
    by_cases hl : j < x.2.1
    · simp [hl, ab_fv, ab_pi, hj]
    · simp [hl]
end ABdefs
section ABev
/-- the room of a method at depth d -/
abbrev ab_rm (d mc ms : Nat) : Room := { frames := d, cells := mc, slots := ms, locals := 48 * d }
abbrev ab_Rs : Type := Option Value × ab_H × ab_M
def ab_Qc (D : va_G) (ac : Nat → ClassId) (A : Nat → Prop) (ad : Nat → Nat) (n0 : Nat) (r : ab_Rs) : Array Value → State → Outcome → State → Prop := fun _ st oc t =>
  (∃ ad' : Nat → Nat, oc = .returned (r.1.map (ab_v ad')) ∧ (∀ i, i < n0 → ad' i = ad i) ∧ (r.2.1.length ≤ n0 → ad' = ad) ∧ va_P D vwCl (ab_W ac ad' r.2.1 r.2.2) t.heap ∧ va_K D vwCl (ab_tys ac) t ∧ va_D A (ab_W ac ad' r.2.1 r.2.2)) ∧ va_F A st t
def ab_Cx (D : va_G) (ac : Nat → ClassId) (me : ab_Me) (p : Program) (s : State) (m : MethodId) (args : Array Value) (meth : Method) (c : Code) : Prop :=
  p.tables.exec = Jvm.exec ∧ c.code = me.2.2.1 ∧ meth.sig.returnType = me.2.2.2.2 ∧ c.maxLocals = me.2.2.2.1 ∧ s.vm.findClass me.2.1 = some m.cls ∧ (∀ w ∈ ab_ws me, w.before args s = true) ∧ meth.locks = false ∧ meth.name = me.1.name ∧ va_K D vwCl (ab_tys ac) s ∧ ab_N s
def ab_St (D : va_G) (ac : Nat → ClassId) (A : Nat → Prop) (s : State) (ad : Nat → Nat) (sh : ab_H) (M : ab_M) (H : Heap) (locs : List Loc) : Prop :=
  va_P D vwCl (ab_W ac ad sh M) H ∧ va_D A (ab_W ac ad sh M) ∧ va_S A s.heap H locs ∧ ∀ q, s.heap.size ≤ q → A q
def ab_L (ad : Nat → Nat) (ls : Array Slot) (nL : Nat) (lv : List (Option Value)) : Prop := ls.size = nL ∧ lv_wf ls ∧ lv.length = nL ∧ ∀ (i : Nat) (v : Value), lv[i]? = some (some v) → ls[i]? = some (.val (ab_v ad v))
/-- from here (place, locals, stack, cells) the method comes to its end with r -/
def ab_Ev (l : Launch) (D : va_G) (ac : Nat → ClassId) (d : Nat) (me : ab_Me) (n0 mc ms : Nat) (r : ab_Rs) (k n : Nat) (sh : ab_H) (pc : Nat) (lv : List (Option Value)) (st : List Value) (M : ab_M) : Prop :=
  ∀ (p : Program) (e : Env) (s : State) (m : MethodId) (args : Array Value) (below : List Frame) (meth : Method) (c : Code) (H : Heap) (locs : List Loc) (A : Nat → Prop) (ad : Nat → Nat) (ls : Array Slot),
    ab_Cx D ac me p s m args meth c → ab_St D ac A s ad sh M H locs → ab_L ad ls me.2.2.2.1 lv → W p l e (ab_rm d mc ms) s m args below meth c H locs k n (MQ below (ab_Qc D ac A ad n0 r) args s mc ms A) (F0 m pc ls (st.map (ab_v ad)))
/-- a method's contract -/
def ab_Con (l : Launch) (D : va_G) (ac : Nat → ClassId) (d : Nat) (me : ab_Me) (mc ms : Nat) (av : List Value) (sh : ab_H) (M : ab_M) (r : ab_Rs) : Prop :=
  ∀ (ad : Nat → Nat) (sz : Nat), Met l me.1 (ab_ws me) (ab_rm d mc ms) (va_Pc (av.map (ab_v ad)) (fun U => U.heap.size = sz ∧ va_P D vwCl (ab_W ac ad sh M) U.heap ∧ va_K D vwCl (ab_tys ac) U ∧ va_D (fun _ => True) (ab_W ac ad sh M) ∧ ab_N U)) (ab_Qc D ac (va_A (ab_W ac ad sh M) sz) ad sh.length r) mc ms (va_A (ab_W ac ad sh M) sz)
variable {l : Launch} {D : va_G} {ac : Nat → ClassId} {d : Nat} {me : ab_Me} {n0 mc ms : Nat} {r : ab_Rs} {k n : Nat} {sh : ab_H} {pc : Nat} {lv lv' : List (Option Value)} {st : List Value} {M : ab_M}
theorem ab_vc (ad : Nat → Nat) (v : Value) : (ab_v ad v).category = v.category := by cases v <;> rfl
theorem ab_vcs (ad : Nat → Nat) (st : List Value) : ((st.map (ab_v ad)).map fun v => v.category) = st.map fun v => v.category := by
  induction st with
  | nil => rfl
  | cons a t ih => simp only [List.map_cons, ab_vc]; rw [ih]
def ab_prs (ad : Nat → Nat) (lv : List (Option Value)) : List (Nat × Value) := (List.range lv.length).filterMap (fun i => (lv.getD i none).map (fun v => (i, ab_v ad v)))
theorem ab_prs_mem {ad : Nat → Nat} {lv : List (Option Value)} {i : Nat} {v : Value} (h : lv[i]? = some (some v)) : (i, ab_v ad v) ∈ ab_prs ad lv := by
  have hl := (List.getElem?_eq_some_iff.mp h).1
  exact List.mem_filterMap.mpr ⟨i, List.mem_range.mpr hl, by simp [h]⟩
theorem ab_L.has {ad : Nat → Nat} {ls : Array Slot} {nL : Nat} {lv : List (Option Value)} (h : ab_L ad ls nL lv) : lv_has ls nL (ab_prs ad lv) := by
  refine ⟨h.1, h.2.1, fun q hq => ?_⟩
  obtain ⟨i, hi, hv⟩ := List.mem_filterMap.mp hq
  have hl := List.mem_range.mp hi
  cases ho : lv.getD i none with
  | none => rw [ho] at hv; cases hv
  | some v =>
    rw [ho] at hv
    cases hv
    refine h.2.2.2 i v ?_
    rw [List.getD_eq_getElem?_getD] at ho
    rw [List.getElem?_eq_getElem hl] at ho ⊢
    simpa using ho
/-- no long right before place i -/
def ab_sf (lv : List (Option Value)) (i : Nat) : Bool := match i with
  | 0 => true
  | j + 1 => match lv[j]? with
    | some (some v) => v.category == 1
    | _ => true
theorem ab_L.store1 {ad : Nat → Nat} {ls ls' : Array Slot} {nL : Nat} {lv : List (Option Value)} {i : Nat} {v : Value} (h : ab_L ad ls nL lv) (hs : ab_sf lv i = true) (h' : lv_has ls' nL ((i, ab_v ad v) :: (ab_prs ad lv).filter (fun q => !(q.1 == i) && !(q.1 + 1 == i && q.2.category == 2)))) (hi : i < lv.length) : ab_L ad ls' nL (lv.set i (some v)) := by
  refine ⟨h'.1, h'.2.1, by rw [List.length_set]; exact h.2.2.1, fun j w hj => ?_⟩
  by_cases e : j = i
  · subst e
    rw [List.getElem?_set_self hi] at hj
    cases hj
    exact h'.2.2 _ List.mem_cons_self
  · rw [List.getElem?_set_ne (Ne.symm e)] at hj
    refine h'.2.2 (j, ab_v ad w) (List.mem_cons_of_mem _ (List.mem_filter.mpr ⟨ab_prs_mem hj, ?_⟩))
    have hc : j + 1 = i → w.category = 1 := by
      intro e2
      subst e2
      simp only [ab_sf, hj] at hs
      simpa using hs
    by_cases e2 : j + 1 = i
    · simp [e, ab_vc, hc e2]
    · simp [e, e2]
theorem ab_L.store2 {ad : Nat → Nat} {ls ls' : Array Slot} {nL : Nat} {lv : List (Option Value)} {i : Nat} {v : Value} (h : ab_L ad ls nL lv) (hs : ab_sf lv i = true) (h' : lv_has ls' nL ((i, ab_v ad v) :: (ab_prs ad lv).filter (fun q => !(q.1 == i) && (!(q.1 == i + 1) && !(q.1 + 1 == i && q.2.category == 2))))) (hi : i + 1 < lv.length) : ab_L ad ls' nL ((lv.set i (some v)).set (i + 1) none) := by
  refine ⟨h'.1, h'.2.1, by rw [List.length_set, List.length_set]; exact h.2.2.1, fun j w hj => ?_⟩
  by_cases e1 : j = i + 1
  · subst e1
    rw [List.getElem?_set_self (by rw [List.length_set]; exact hi)] at hj
    cases hj
  · rw [List.getElem?_set_ne (Ne.symm e1)] at hj
    by_cases e : j = i
    · subst e
      rw [List.getElem?_set_self (by omega)] at hj
      cases hj
      exact h'.2.2 _ List.mem_cons_self
    · rw [List.getElem?_set_ne (Ne.symm e)] at hj
      refine h'.2.2 (j, ab_v ad w) (List.mem_cons_of_mem _ (List.mem_filter.mpr ⟨ab_prs_mem hj, ?_⟩))
      have hc : j + 1 = i → w.category = 1 := by
        intro e2
        subst e2
        simp only [ab_sf, hj] at hs
        simpa using hs
      by_cases e2 : j + 1 = i
      · simp [e, e1, ab_vc, hc e2]
      · simp [e, e1, e2]
/-- fewer locals are known -/
def ab_sub (lv' lv : List (Option Value)) : Prop := lv'.length = lv.length ∧ ∀ i : Nat, lv'[i]? = some none ∨ lv'[i]? = lv[i]?
theorem ab_sub_nil : ab_sub [] [] := ⟨rfl, fun _ => Or.inr rfl⟩
theorem ab_sub_k {a : Option Value} {x y : List (Option Value)} (h : ab_sub x y) : ab_sub (a :: x) (a :: y) := ⟨by simp [h.1], fun i => by cases i with
  | zero => exact Or.inr rfl
  | succ i => simpa using h.2 i⟩
theorem ab_sub_d {a : Option Value} {x y : List (Option Value)} (h : ab_sub x y) : ab_sub (none :: x) (a :: y) := ⟨by simp [h.1], fun i => by cases i with
  | zero => exact Or.inl rfl
  | succ i => simpa using h.2 i⟩
theorem ev_drop (h : ab_sub lv' lv) (kk : ab_Ev l D ac d me n0 mc ms r k n sh pc lv' st M) : ab_Ev l D ac d me n0 mc ms r k n sh pc lv st M := by
  intro p e s m args below meth c H locs A ad ls C S L
  refine kk p e s m args below meth c H locs A ad ls C S ⟨L.1, L.2.1, h.1.trans L.2.2.1, fun i v hi => ?_⟩
  rcases h.2 i with h2 | h2
  · rw [h2] at hi; cases hi
  · exact L.2.2.2 i v (by rw [← h2]; exact hi)
/-! constants, locals, arithmetic -/
theorem ev_iconst {z : Int} {x : Int32} (hd : decode me.2.2.1 pc = .ok (.iconst z, 1)) (hv : Int32.ofInt z = x) (kk : ab_Ev l D ac d me n0 mc ms r k n sh (pc + 1) lv (.int x :: st) M) : ab_Ev l D ac d me n0 mc ms r k n sh pc lv st M := fun p e s m args below meth c H locs A ad ls C S L => lv_iconst C.1 C.2.1 hd hv (kk p e s m args below meth c H locs A ad ls C S L)
theorem ev_bipush {z : Int} {x : Int32} (hd : decode me.2.2.1 pc = .ok (.bipush z, 2)) (hv : (Int8.ofInt z).toInt32 = x) (kk : ab_Ev l D ac d me n0 mc ms r k n sh (pc + 2) lv (.int x :: st) M) : ab_Ev l D ac d me n0 mc ms r k n sh pc lv st M := fun p e s m args below meth c H locs A ad ls C S L => lv_bipush C.1 C.2.1 hd hv (kk p e s m args below meth c H locs A ad ls C S L)
theorem ev_sipush {z : Int} {x : Int32} (hd : decode me.2.2.1 pc = .ok (.sipush z, 3)) (hv : (Int16.ofInt z).toInt32 = x) (kk : ab_Ev l D ac d me n0 mc ms r k n sh (pc + 3) lv (.int x :: st) M) : ab_Ev l D ac d me n0 mc ms r k n sh pc lv st M := fun p e s m args below meth c H locs A ad ls C S L => lv_sipush C.1 C.2.1 hd hv (kk p e s m args below meth c H locs A ad ls C S L)
theorem ev_lconst {z : Fin 2} {x : Int64} (hd : decode me.2.2.1 pc = .ok (.lconst z, 1)) (hv : Int64.ofNat (z : Nat) = x) (kk : ab_Ev l D ac d me n0 mc ms r k n sh (pc + 1) lv (.long x :: st) M) : ab_Ev l D ac d me n0 mc ms r k n sh pc lv st M := fun p e s m args below meth c H locs A ad ls C S L => lv_lconst C.1 C.2.1 hd hv (kk p e s m args below meth c H locs A ad ls C S L)
theorem ev_ldc {z : Nat} {x : Int32} (hw : Cond.constant me.2.1 z x ∈ ab_G) (hd : decode me.2.2.1 pc = .ok (.ldc z, 2)) (kk : ab_Ev l D ac d me n0 mc ms r k n sh (pc + 2) lv (.int x :: st) M) : ab_Ev l D ac d me n0 mc ms r k n sh pc lv st M := fun p e s m args below meth c H locs A ad ls C S L => lv_ldc C.1 C.2.1 C.2.2.2.2.1 (C.2.2.2.2.2.1 _ (List.mem_cons_of_mem _ hw)) hd (kk p e s m args below meth c H locs A ad ls C S L)
theorem ev_ldcw {z : Nat} {x : Int32} (hw : Cond.constant me.2.1 z x ∈ ab_G) (hd : decode me.2.2.1 pc = .ok (.ldc_w z, 3)) (kk : ab_Ev l D ac d me n0 mc ms r k n sh (pc + 3) lv (.int x :: st) M) : ab_Ev l D ac d me n0 mc ms r k n sh pc lv st M := fun p e s m args below meth c H locs A ad ls C S L => lv_ldcw C.1 C.2.1 C.2.2.2.2.1 (C.2.2.2.2.2.1 _ (List.mem_cons_of_mem _ hw)) hd (kk p e s m args below meth c H locs A ad ls C S L)
theorem ev_ldc2 {z : Nat} {x : Int64} (hw : Cond.constantLong me.2.1 z x ∈ ab_G) (hd : decode me.2.2.1 pc = .ok (.ldc2_w z, 3)) (kk : ab_Ev l D ac d me n0 mc ms r k n sh (pc + 3) lv (.long x :: st) M) : ab_Ev l D ac d me n0 mc ms r k n sh pc lv st M := fun p e s m args below meth c H locs A ad ls C S L => lv_ldc2 C.1 C.2.1 C.2.2.2.2.1 (C.2.2.2.2.2.1 _ (List.mem_cons_of_mem _ hw)) hd (kk p e s m args below meth c H locs A ad ls C S L)
theorem ev_iload_n {q : Fin 4} {x : Int32} (hd : decode me.2.2.1 pc = .ok (.iload_n q, 1)) (hl : lv[(q : Nat)]? = some (some (.int x))) (kk : ab_Ev l D ac d me n0 mc ms r k n sh (pc + 1) lv (.int x :: st) M) : ab_Ev l D ac d me n0 mc ms r k n sh pc lv st M := fun p e s m args below meth c H locs A ad ls C S L => lv_iload_n C.1 C.2.1 hd rfl (L.2.2.2 _ _ hl) (kk p e s m args below meth c H locs A ad ls C S L)
theorem ev_iload {i : Nat} {x : Int32} (hd : decode me.2.2.1 pc = .ok (.iload i, 2)) (hl : lv[i]? = some (some (.int x))) (kk : ab_Ev l D ac d me n0 mc ms r k n sh (pc + 2) lv (.int x :: st) M) : ab_Ev l D ac d me n0 mc ms r k n sh pc lv st M := fun p e s m args below meth c H locs A ad ls C S L => lv_iload C.1 C.2.1 hd (L.2.2.2 _ _ hl) (kk p e s m args below meth c H locs A ad ls C S L)
theorem ev_lload_n {q : Fin 4} {x : Int64} (hd : decode me.2.2.1 pc = .ok (.lload_n q, 1)) (hl : lv[(q : Nat)]? = some (some (.long x))) (kk : ab_Ev l D ac d me n0 mc ms r k n sh (pc + 1) lv (.long x :: st) M) : ab_Ev l D ac d me n0 mc ms r k n sh pc lv st M := fun p e s m args below meth c H locs A ad ls C S L => lv_lload_n C.1 C.2.1 hd rfl (L.2.2.2 _ _ hl) (kk p e s m args below meth c H locs A ad ls C S L)
theorem ev_lload {i : Nat} {x : Int64} (hd : decode me.2.2.1 pc = .ok (.lload i, 2)) (hl : lv[i]? = some (some (.long x))) (kk : ab_Ev l D ac d me n0 mc ms r k n sh (pc + 2) lv (.long x :: st) M) : ab_Ev l D ac d me n0 mc ms r k n sh pc lv st M := fun p e s m args below meth c H locs A ad ls C S L => lv_lload C.1 C.2.1 hd (L.2.2.2 _ _ hl) (kk p e s m args below meth c H locs A ad ls C S L)
theorem ev_aload_n {q : Fin 4} {x : Nat} (hd : decode me.2.2.1 pc = .ok (.aload_n q, 1)) (hl : lv[(q : Nat)]? = some (some (.ref x))) (kk : ab_Ev l D ac d me n0 mc ms r k n sh (pc + 1) lv (.ref x :: st) M) : ab_Ev l D ac d me n0 mc ms r k n sh pc lv st M := fun p e s m args below meth c H locs A ad ls C S L => lv_aload_n C.1 C.2.1 hd rfl (L.2.2.2 _ _ hl) (kk p e s m args below meth c H locs A ad ls C S L)
theorem ev_aload {i : Nat} {x : Nat} (hd : decode me.2.2.1 pc = .ok (.aload i, 2)) (hl : lv[i]? = some (some (.ref x))) (kk : ab_Ev l D ac d me n0 mc ms r k n sh (pc + 2) lv (.ref x :: st) M) : ab_Ev l D ac d me n0 mc ms r k n sh pc lv st M := fun p e s m args below meth c H locs A ad ls C S L => lv_aload C.1 C.2.1 hd (L.2.2.2 _ _ hl) (kk p e s m args below meth c H locs A ad ls C S L)
theorem ev_istore_n {q : Fin 4} {x : Int32} (hd : decode me.2.2.1 pc = .ok (.istore_n q, 1)) (hi : (q : Nat) < lv.length) (hs : ab_sf lv q = true) (hl : lv.set q (some (.int x)) = lv') (kk : ab_Ev l D ac d me n0 mc ms r k n sh (pc + 1) lv' st M) : ab_Ev l D ac d me n0 mc ms r k n sh pc lv (.int x :: st) M := fun p e s m args below meth c H locs A ad ls C S L => lv_istore_n C.1 C.2.1 hd rfl L.has (by rw [← L.2.2.1]; exact hi) rfl (fun ls' h' => kk p e s m args below meth c H locs A ad ls' C S (by rw [← hl]; exact L.store1 hs h' hi))
theorem ev_istore {i : Nat} {x : Int32} (hd : decode me.2.2.1 pc = .ok (.istore i, 2)) (hi : i < lv.length) (hs : ab_sf lv i = true) (hl : lv.set i (some (.int x)) = lv') (kk : ab_Ev l D ac d me n0 mc ms r k n sh (pc + 2) lv' st M) : ab_Ev l D ac d me n0 mc ms r k n sh pc lv (.int x :: st) M := fun p e s m args below meth c H locs A ad ls C S L => lv_istore C.1 C.2.1 hd L.has (by rw [← L.2.2.1]; exact hi) rfl (fun ls' h' => kk p e s m args below meth c H locs A ad ls' C S (by rw [← hl]; exact L.store1 hs h' hi))
theorem ev_astore_n {q : Fin 4} {x : Nat} (hd : decode me.2.2.1 pc = .ok (.astore_n q, 1)) (hi : (q : Nat) < lv.length) (hs : ab_sf lv q = true) (hl : lv.set q (some (.ref x)) = lv') (kk : ab_Ev l D ac d me n0 mc ms r k n sh (pc + 1) lv' st M) : ab_Ev l D ac d me n0 mc ms r k n sh pc lv (.ref x :: st) M := fun p e s m args below meth c H locs A ad ls C S L => lv_astore_n C.1 C.2.1 hd rfl L.has (by rw [← L.2.2.1]; exact hi) rfl (fun ls' h' => kk p e s m args below meth c H locs A ad ls' C S (by rw [← hl]; exact L.store1 (v := .ref x) hs h' hi))
theorem ev_astore {i : Nat} {x : Nat} (hd : decode me.2.2.1 pc = .ok (.astore i, 2)) (hi : i < lv.length) (hs : ab_sf lv i = true) (hl : lv.set i (some (.ref x)) = lv') (kk : ab_Ev l D ac d me n0 mc ms r k n sh (pc + 2) lv' st M) : ab_Ev l D ac d me n0 mc ms r k n sh pc lv (.ref x :: st) M := fun p e s m args below meth c H locs A ad ls C S L => lv_astore C.1 C.2.1 hd L.has (by rw [← L.2.2.1]; exact hi) rfl (fun ls' h' => kk p e s m args below meth c H locs A ad ls' C S (by rw [← hl]; exact L.store1 (v := .ref x) hs h' hi))
theorem ev_lstore_n {q : Fin 4} {x : Int64} (hd : decode me.2.2.1 pc = .ok (.lstore_n q, 1)) (hi : (q : Nat) + 1 < lv.length) (hs : ab_sf lv q = true) (hl : (lv.set q (some (.long x))).set ((q : Nat) + 1) none = lv') (kk : ab_Ev l D ac d me n0 mc ms r k n sh (pc + 1) lv' st M) : ab_Ev l D ac d me n0 mc ms r k n sh pc lv (.long x :: st) M := fun p e s m args below meth c H locs A ad ls C S L => lv_lstore_n C.1 C.2.1 hd rfl L.has (by rw [← L.2.2.1]; exact hi) rfl (fun ls' h' => kk p e s m args below meth c H locs A ad ls' C S (by rw [← hl]; exact L.store2 hs h' hi))
theorem ev_lstore {i : Nat} {x : Int64} (hd : decode me.2.2.1 pc = .ok (.lstore i, 2)) (hi : i + 1 < lv.length) (hs : ab_sf lv i = true) (hl : (lv.set i (some (.long x))).set (i + 1) none = lv') (kk : ab_Ev l D ac d me n0 mc ms r k n sh (pc + 2) lv' st M) : ab_Ev l D ac d me n0 mc ms r k n sh pc lv (.long x :: st) M := fun p e s m args below meth c H locs A ad ls C S L => lv_lstore C.1 C.2.1 hd L.has (by rw [← L.2.2.1]; exact hi) rfl (fun ls' h' => kk p e s m args below meth c H locs A ad ls' C S (by rw [← hl]; exact L.store2 hs h' hi))
theorem ev_iinc {i : Nat} {z : Int} {x y : Int32} (hd : decode me.2.2.1 pc = .ok (.iinc i z, 3)) (hx : lv[i]? = some (some (.int x))) (hv : x + Int32.ofInt z = y) (hs : ab_sf lv i = true) (hl : lv.set i (some (.int y)) = lv') (kk : ab_Ev l D ac d me n0 mc ms r k n sh (pc + 3) lv' st M) : ab_Ev l D ac d me n0 mc ms r k n sh pc lv st M := fun p e s m args below meth c H locs A ad ls C S L => by
  have hi := (List.getElem?_eq_some_iff.mp hx).1
  obtain ⟨j, hj⟩ := List.getElem?_of_mem (ab_prs_mem (ad := ad) hx)
  exact lv_iinc C.1 C.2.1 hd L.has hj hv (by rw [← L.2.2.1]; exact hi) rfl (fun ls' h' => kk p e s m args below meth c H locs A ad ls' C S (by rw [← hl]; exact L.store1 hs h' hi))
theorem ev_iadd {x y : Int32} (hd : decode me.2.2.1 pc = .ok (.iadd, 1)) (kk : ab_Ev l D ac d me n0 mc ms r k n sh (pc + 1) lv (.int (x + y) :: st) M) : ab_Ev l D ac d me n0 mc ms r k n sh pc lv (.int y :: .int x :: st) M := fun p e s m args below meth c H locs A ad ls C S L => lv_iadd C.1 C.2.1 hd (kk p e s m args below meth c H locs A ad ls C S L)
theorem ev_isub {x y : Int32} (hd : decode me.2.2.1 pc = .ok (.isub, 1)) (kk : ab_Ev l D ac d me n0 mc ms r k n sh (pc + 1) lv (.int (x - y) :: st) M) : ab_Ev l D ac d me n0 mc ms r k n sh pc lv (.int y :: .int x :: st) M := fun p e s m args below meth c H locs A ad ls C S L => lv_isub C.1 C.2.1 hd (kk p e s m args below meth c H locs A ad ls C S L)
theorem ev_imul {x y : Int32} (hd : decode me.2.2.1 pc = .ok (.imul, 1)) (kk : ab_Ev l D ac d me n0 mc ms r k n sh (pc + 1) lv (.int (x * y) :: st) M) : ab_Ev l D ac d me n0 mc ms r k n sh pc lv (.int y :: .int x :: st) M := fun p e s m args below meth c H locs A ad ls C S L => lv_imul C.1 C.2.1 hd (kk p e s m args below meth c H locs A ad ls C S L)
theorem ev_iand {x y : Int32} (hd : decode me.2.2.1 pc = .ok (.iand, 1)) (kk : ab_Ev l D ac d me n0 mc ms r k n sh (pc + 1) lv (.int (x &&& y) :: st) M) : ab_Ev l D ac d me n0 mc ms r k n sh pc lv (.int y :: .int x :: st) M := fun p e s m args below meth c H locs A ad ls C S L => lv_iand C.1 C.2.1 hd (kk p e s m args below meth c H locs A ad ls C S L)
theorem ev_ior {x y : Int32} (hd : decode me.2.2.1 pc = .ok (.ior, 1)) (kk : ab_Ev l D ac d me n0 mc ms r k n sh (pc + 1) lv (.int (x ||| y) :: st) M) : ab_Ev l D ac d me n0 mc ms r k n sh pc lv (.int y :: .int x :: st) M := fun p e s m args below meth c H locs A ad ls C S L => lv_ior C.1 C.2.1 hd (kk p e s m args below meth c H locs A ad ls C S L)
theorem ev_ixor {x y : Int32} (hd : decode me.2.2.1 pc = .ok (.ixor, 1)) (kk : ab_Ev l D ac d me n0 mc ms r k n sh (pc + 1) lv (.int (x ^^^ y) :: st) M) : ab_Ev l D ac d me n0 mc ms r k n sh pc lv (.int y :: .int x :: st) M := fun p e s m args below meth c H locs A ad ls C S L => lv_ixor C.1 C.2.1 hd (kk p e s m args below meth c H locs A ad ls C S L)
theorem ev_ishl {x y : Int32} (hd : decode me.2.2.1 pc = .ok (.ishl, 1)) (kk : ab_Ev l D ac d me n0 mc ms r k n sh (pc + 1) lv (.int (x <<< (y &&& 31)) :: st) M) : ab_Ev l D ac d me n0 mc ms r k n sh pc lv (.int y :: .int x :: st) M := fun p e s m args below meth c H locs A ad ls C S L => lv_ishl C.1 C.2.1 hd (kk p e s m args below meth c H locs A ad ls C S L)
theorem ev_ishr {x y : Int32} (hd : decode me.2.2.1 pc = .ok (.ishr, 1)) (kk : ab_Ev l D ac d me n0 mc ms r k n sh (pc + 1) lv (.int (x >>> (y &&& 31)) :: st) M) : ab_Ev l D ac d me n0 mc ms r k n sh pc lv (.int y :: .int x :: st) M := fun p e s m args below meth c H locs A ad ls C S L => lv_ishr C.1 C.2.1 hd (kk p e s m args below meth c H locs A ad ls C S L)
theorem ev_iushr {x y : Int32} (hd : decode me.2.2.1 pc = .ok (.iushr, 1)) (kk : ab_Ev l D ac d me n0 mc ms r k n sh (pc + 1) lv (.int (x.toUInt32 >>> (y.toUInt32 &&& Int32.toUInt32 31)).toInt32 :: st) M) : ab_Ev l D ac d me n0 mc ms r k n sh pc lv (.int y :: .int x :: st) M := fun p e s m args below meth c H locs A ad ls C S L => lv_iushr C.1 C.2.1 hd rfl (kk p e s m args below meth c H locs A ad ls C S L)
theorem ev_ineg {x : Int32} (hd : decode me.2.2.1 pc = .ok (.ineg, 1)) (kk : ab_Ev l D ac d me n0 mc ms r k n sh (pc + 1) lv (.int (-x) :: st) M) : ab_Ev l D ac d me n0 mc ms r k n sh pc lv (.int x :: st) M := fun p e s m args below meth c H locs A ad ls C S L => lv_ineg C.1 C.2.1 hd (kk p e s m args below meth c H locs A ad ls C S L)
theorem ev_ladd {x y : Int64} (hd : decode me.2.2.1 pc = .ok (.ladd, 1)) (kk : ab_Ev l D ac d me n0 mc ms r k n sh (pc + 1) lv (.long (x + y) :: st) M) : ab_Ev l D ac d me n0 mc ms r k n sh pc lv (.long y :: .long x :: st) M := fun p e s m args below meth c H locs A ad ls C S L => lv_ladd C.1 C.2.1 hd (kk p e s m args below meth c H locs A ad ls C S L)
theorem ev_lsub {x y : Int64} (hd : decode me.2.2.1 pc = .ok (.lsub, 1)) (kk : ab_Ev l D ac d me n0 mc ms r k n sh (pc + 1) lv (.long (x - y) :: st) M) : ab_Ev l D ac d me n0 mc ms r k n sh pc lv (.long y :: .long x :: st) M := fun p e s m args below meth c H locs A ad ls C S L => lv_lsub C.1 C.2.1 hd (kk p e s m args below meth c H locs A ad ls C S L)
theorem ev_lor {x y : Int64} (hd : decode me.2.2.1 pc = .ok (.lor, 1)) (kk : ab_Ev l D ac d me n0 mc ms r k n sh (pc + 1) lv (.long (x ||| y) :: st) M) : ab_Ev l D ac d me n0 mc ms r k n sh pc lv (.long y :: .long x :: st) M := fun p e s m args below meth c H locs A ad ls C S L => lv_lor C.1 C.2.1 hd (kk p e s m args below meth c H locs A ad ls C S L)
theorem ev_land {x y : Int64} (hd : decode me.2.2.1 pc = .ok (.land, 1)) (kk : ab_Ev l D ac d me n0 mc ms r k n sh (pc + 1) lv (.long (x &&& y) :: st) M) : ab_Ev l D ac d me n0 mc ms r k n sh pc lv (.long y :: .long x :: st) M := fun p e s m args below meth c H locs A ad ls C S L => lv_land C.1 C.2.1 hd (kk p e s m args below meth c H locs A ad ls C S L)
theorem ev_lxor {x y : Int64} (hd : decode me.2.2.1 pc = .ok (.lxor, 1)) (kk : ab_Ev l D ac d me n0 mc ms r k n sh (pc + 1) lv (.long (x ^^^ y) :: st) M) : ab_Ev l D ac d me n0 mc ms r k n sh pc lv (.long y :: .long x :: st) M := fun p e s m args below meth c H locs A ad ls C S L => lv_lxor C.1 C.2.1 hd (kk p e s m args below meth c H locs A ad ls C S L)
theorem ev_lshl {x : Int64} {y : Int32} (hd : decode me.2.2.1 pc = .ok (.lshl, 1)) (kk : ab_Ev l D ac d me n0 mc ms r k n sh (pc + 1) lv (.long (x <<< (y.toInt64 &&& 63)) :: st) M) : ab_Ev l D ac d me n0 mc ms r k n sh pc lv (.int y :: .long x :: st) M := fun p e s m args below meth c H locs A ad ls C S L => lv_lshl C.1 C.2.1 hd rfl (kk p e s m args below meth c H locs A ad ls C S L)
theorem ev_lushr {x : Int64} {y : Int32} (hd : decode me.2.2.1 pc = .ok (.lushr, 1)) (kk : ab_Ev l D ac d me n0 mc ms r k n sh (pc + 1) lv (.long (x.toUInt64 >>> (y.toInt64.toUInt64 &&& Int64.toUInt64 63)).toInt64 :: st) M) : ab_Ev l D ac d me n0 mc ms r k n sh pc lv (.int y :: .long x :: st) M := fun p e s m args below meth c H locs A ad ls C S L => lv_lushr C.1 C.2.1 hd rfl (kk p e s m args below meth c H locs A ad ls C S L)
theorem ev_i2l {x : Int32} (hd : decode me.2.2.1 pc = .ok (.i2l, 1)) (kk : ab_Ev l D ac d me n0 mc ms r k n sh (pc + 1) lv (.long x.toInt64 :: st) M) : ab_Ev l D ac d me n0 mc ms r k n sh pc lv (.int x :: st) M := fun p e s m args below meth c H locs A ad ls C S L => lv_i2l C.1 C.2.1 hd rfl (kk p e s m args below meth c H locs A ad ls C S L)
theorem ev_l2i {x : Int64} (hd : decode me.2.2.1 pc = .ok (.l2i, 1)) (kk : ab_Ev l D ac d me n0 mc ms r k n sh (pc + 1) lv (.int x.toInt32 :: st) M) : ab_Ev l D ac d me n0 mc ms r k n sh pc lv (.long x :: st) M := fun p e s m args below meth c H locs A ad ls C S L => lv_l2i C.1 C.2.1 hd rfl (kk p e s m args below meth c H locs A ad ls C S L)
theorem ev_i2b {x : Int32} (hd : decode me.2.2.1 pc = .ok (.i2b, 1)) (kk : ab_Ev l D ac d me n0 mc ms r k n sh (pc + 1) lv (.int x.toInt8.toInt32 :: st) M) : ab_Ev l D ac d me n0 mc ms r k n sh pc lv (.int x :: st) M := fun p e s m args below meth c H locs A ad ls C S L => lv_i2b C.1 C.2.1 hd rfl (kk p e s m args below meth c H locs A ad ls C S L)
theorem ev_lcmp {x y : Int64} (hd : decode me.2.2.1 pc = .ok (.lcmp, 1)) (kk : ab_Ev l D ac d me n0 mc ms r k n sh (pc + 1) lv (.int (lg_cmp x y) :: st) M) : ab_Ev l D ac d me n0 mc ms r k n sh pc lv (.long y :: .long x :: st) M := fun p e s m args below meth c H locs A ad ls C S L => W.lcmp C.1 C.2.1 hd (kk p e s m args below meth c H locs A ad ls C S L)
theorem ev_dup {v : Value} (hd : decode me.2.2.1 pc = .ok (.dup, 1)) (hv : v.category = 1) (kk : ab_Ev l D ac d me n0 mc ms r k n sh (pc + 1) lv (v :: v :: st) M) : ab_Ev l D ac d me n0 mc ms r k n sh pc lv (v :: st) M := fun p e s m args below meth c H locs A ad ls C S L => lv_dup C.1 C.2.1 hd ((ab_vc ad v).trans hv) (kk p e s m args below meth c H locs A ad ls C S L)
theorem ev_idiv {x y : Int32} (hd : decode me.2.2.1 pc = .ok (.idiv, 1)) (hy : ¬ y = 0) (kk : ab_Ev l D ac d me n0 mc ms r k n sh (pc + 1) lv (.int (x / y) :: st) M) : ab_Ev l D ac d me n0 mc ms r k n sh pc lv (.int y :: .int x :: st) M := fun p e s m args below meth c H locs A ad ls C S L => lv_idiv C.1 C.2.1 hd hy (kk p e s m args below meth c H locs A ad ls C S L)
theorem ev_irem {x y : Int32} (hd : decode me.2.2.1 pc = .ok (.irem, 1)) (hy : ¬ y = 0) (kk : ab_Ev l D ac d me n0 mc ms r k n sh (pc + 1) lv (.int (x - x / y * y) :: st) M) : ab_Ev l D ac d me n0 mc ms r k n sh pc lv (.int y :: .int x :: st) M := fun p e s m args below meth c H locs A ad ls C S L => lv_irem C.1 C.2.1 hd hy (kk p e s m args below meth c H locs A ad ls C S L)
theorem ev_goto {z : Int} {t : Nat} (hd : decode me.2.2.1 pc = .ok (.goto z, 3)) (ht : (pc : Int) + z = (t : Int)) (kk : ab_Ev l D ac d me n0 mc ms r k n sh t lv st M) : ab_Ev l D ac d me n0 mc ms r k n sh pc lv st M := fun p e s m args below meth c H locs A ad ls C S L => lv_goto C.1 C.2.1 hd ht (kk p e s m args below meth c H locs A ad ls C S L)
theorem ev_if_eq {x : Int32} {z : Int} {t : Nat} (hd : decode me.2.2.1 pc = .ok (.ifCond .eq z, 3)) (ht : (pc : Int) + z = (t : Int)) (kt : x = 0 → ab_Ev l D ac d me n0 mc ms r k n sh t lv st M) (kf : ¬ x = 0 → ab_Ev l D ac d me n0 mc ms r k n sh (pc + 3) lv st M) : ab_Ev l D ac d me n0 mc ms r k n sh pc lv (.int x :: st) M := fun p e s m args below meth c H locs A ad ls C S L => lv_if_eq C.1 C.2.1 hd ht (fun h => kt h p e s m args below meth c H locs A ad ls C S L) (fun h => kf h p e s m args below meth c H locs A ad ls C S L)
theorem ev_icmp_eq {x y : Int32} {z : Int} {t : Nat} (hd : decode me.2.2.1 pc = .ok (.if_icmp .eq z, 3)) (ht : (pc : Int) + z = (t : Int)) (kt : x = y → ab_Ev l D ac d me n0 mc ms r k n sh t lv st M) (kf : ¬ x = y → ab_Ev l D ac d me n0 mc ms r k n sh (pc + 3) lv st M) : ab_Ev l D ac d me n0 mc ms r k n sh pc lv (.int y :: .int x :: st) M := fun p e s m args below meth c H locs A ad ls C S L => lv_icmp_eq C.1 C.2.1 hd ht (fun h => kt h p e s m args below meth c H locs A ad ls C S L) (fun h => kf h p e s m args below meth c H locs A ad ls C S L)
theorem ev_if_ne {x : Int32} {z : Int} {t : Nat} (hd : decode me.2.2.1 pc = .ok (.ifCond .ne z, 3)) (ht : (pc : Int) + z = (t : Int)) (kt : ¬ x = 0 → ab_Ev l D ac d me n0 mc ms r k n sh t lv st M) (kf : x = 0 → ab_Ev l D ac d me n0 mc ms r k n sh (pc + 3) lv st M) : ab_Ev l D ac d me n0 mc ms r k n sh pc lv (.int x :: st) M := fun p e s m args below meth c H locs A ad ls C S L => lv_if_ne C.1 C.2.1 hd ht (fun h => kt h p e s m args below meth c H locs A ad ls C S L) (fun h => kf h p e s m args below meth c H locs A ad ls C S L)
theorem ev_icmp_ne {x y : Int32} {z : Int} {t : Nat} (hd : decode me.2.2.1 pc = .ok (.if_icmp .ne z, 3)) (ht : (pc : Int) + z = (t : Int)) (kt : ¬ x = y → ab_Ev l D ac d me n0 mc ms r k n sh t lv st M) (kf : x = y → ab_Ev l D ac d me n0 mc ms r k n sh (pc + 3) lv st M) : ab_Ev l D ac d me n0 mc ms r k n sh pc lv (.int y :: .int x :: st) M := fun p e s m args below meth c H locs A ad ls C S L => lv_icmp_ne C.1 C.2.1 hd ht (fun h => kt h p e s m args below meth c H locs A ad ls C S L) (fun h => kf h p e s m args below meth c H locs A ad ls C S L)
theorem ev_if_lt {x : Int32} {z : Int} {t : Nat} (hd : decode me.2.2.1 pc = .ok (.ifCond .lt z, 3)) (ht : (pc : Int) + z = (t : Int)) (kt : x < 0 → ab_Ev l D ac d me n0 mc ms r k n sh t lv st M) (kf : ¬ x < 0 → ab_Ev l D ac d me n0 mc ms r k n sh (pc + 3) lv st M) : ab_Ev l D ac d me n0 mc ms r k n sh pc lv (.int x :: st) M := fun p e s m args below meth c H locs A ad ls C S L => lv_if_lt C.1 C.2.1 hd ht (fun h => kt h p e s m args below meth c H locs A ad ls C S L) (fun h => kf h p e s m args below meth c H locs A ad ls C S L)
theorem ev_icmp_lt {x y : Int32} {z : Int} {t : Nat} (hd : decode me.2.2.1 pc = .ok (.if_icmp .lt z, 3)) (ht : (pc : Int) + z = (t : Int)) (kt : x < y → ab_Ev l D ac d me n0 mc ms r k n sh t lv st M) (kf : ¬ x < y → ab_Ev l D ac d me n0 mc ms r k n sh (pc + 3) lv st M) : ab_Ev l D ac d me n0 mc ms r k n sh pc lv (.int y :: .int x :: st) M := fun p e s m args below meth c H locs A ad ls C S L => lv_icmp_lt C.1 C.2.1 hd ht (fun h => kt h p e s m args below meth c H locs A ad ls C S L) (fun h => kf h p e s m args below meth c H locs A ad ls C S L)
theorem ev_if_ge {x : Int32} {z : Int} {t : Nat} (hd : decode me.2.2.1 pc = .ok (.ifCond .ge z, 3)) (ht : (pc : Int) + z = (t : Int)) (kt : 0 ≤ x → ab_Ev l D ac d me n0 mc ms r k n sh t lv st M) (kf : ¬ 0 ≤ x → ab_Ev l D ac d me n0 mc ms r k n sh (pc + 3) lv st M) : ab_Ev l D ac d me n0 mc ms r k n sh pc lv (.int x :: st) M := fun p e s m args below meth c H locs A ad ls C S L => lv_if_ge C.1 C.2.1 hd ht (fun h => kt h p e s m args below meth c H locs A ad ls C S L) (fun h => kf h p e s m args below meth c H locs A ad ls C S L)
theorem ev_icmp_ge {x y : Int32} {z : Int} {t : Nat} (hd : decode me.2.2.1 pc = .ok (.if_icmp .ge z, 3)) (ht : (pc : Int) + z = (t : Int)) (kt : y ≤ x → ab_Ev l D ac d me n0 mc ms r k n sh t lv st M) (kf : ¬ y ≤ x → ab_Ev l D ac d me n0 mc ms r k n sh (pc + 3) lv st M) : ab_Ev l D ac d me n0 mc ms r k n sh pc lv (.int y :: .int x :: st) M := fun p e s m args below meth c H locs A ad ls C S L => lv_icmp_ge C.1 C.2.1 hd ht (fun h => kt h p e s m args below meth c H locs A ad ls C S L) (fun h => kf h p e s m args below meth c H locs A ad ls C S L)
theorem ev_if_gt {x : Int32} {z : Int} {t : Nat} (hd : decode me.2.2.1 pc = .ok (.ifCond .gt z, 3)) (ht : (pc : Int) + z = (t : Int)) (kt : 0 < x → ab_Ev l D ac d me n0 mc ms r k n sh t lv st M) (kf : ¬ 0 < x → ab_Ev l D ac d me n0 mc ms r k n sh (pc + 3) lv st M) : ab_Ev l D ac d me n0 mc ms r k n sh pc lv (.int x :: st) M := fun p e s m args below meth c H locs A ad ls C S L => lv_if_gt C.1 C.2.1 hd ht (fun h => kt h p e s m args below meth c H locs A ad ls C S L) (fun h => kf h p e s m args below meth c H locs A ad ls C S L)
theorem ev_icmp_gt {x y : Int32} {z : Int} {t : Nat} (hd : decode me.2.2.1 pc = .ok (.if_icmp .gt z, 3)) (ht : (pc : Int) + z = (t : Int)) (kt : y < x → ab_Ev l D ac d me n0 mc ms r k n sh t lv st M) (kf : ¬ y < x → ab_Ev l D ac d me n0 mc ms r k n sh (pc + 3) lv st M) : ab_Ev l D ac d me n0 mc ms r k n sh pc lv (.int y :: .int x :: st) M := fun p e s m args below meth c H locs A ad ls C S L => lv_icmp_gt C.1 C.2.1 hd ht (fun h => kt h p e s m args below meth c H locs A ad ls C S L) (fun h => kf h p e s m args below meth c H locs A ad ls C S L)
theorem ev_if_le {x : Int32} {z : Int} {t : Nat} (hd : decode me.2.2.1 pc = .ok (.ifCond .le z, 3)) (ht : (pc : Int) + z = (t : Int)) (kt : x ≤ 0 → ab_Ev l D ac d me n0 mc ms r k n sh t lv st M) (kf : ¬ x ≤ 0 → ab_Ev l D ac d me n0 mc ms r k n sh (pc + 3) lv st M) : ab_Ev l D ac d me n0 mc ms r k n sh pc lv (.int x :: st) M := fun p e s m args below meth c H locs A ad ls C S L => lv_if_le C.1 C.2.1 hd ht (fun h => kt h p e s m args below meth c H locs A ad ls C S L) (fun h => kf h p e s m args below meth c H locs A ad ls C S L)
theorem ev_icmp_le {x y : Int32} {z : Int} {t : Nat} (hd : decode me.2.2.1 pc = .ok (.if_icmp .le z, 3)) (ht : (pc : Int) + z = (t : Int)) (kt : x ≤ y → ab_Ev l D ac d me n0 mc ms r k n sh t lv st M) (kf : ¬ x ≤ y → ab_Ev l D ac d me n0 mc ms r k n sh (pc + 3) lv st M) : ab_Ev l D ac d me n0 mc ms r k n sh pc lv (.int y :: .int x :: st) M := fun p e s m args below meth c H locs A ad ls C S L => lv_icmp_le C.1 C.2.1 hd ht (fun h => kt h p e s m args below meth c H locs A ad ls C S L) (fun h => kf h p e s m args below meth c H locs A ad ls C S L)
theorem ev_tableOut {df lo hi : Int} {offs : Array Int} {len t : Nat} {x : Int32} (hd : decode me.2.2.1 pc = .ok (.tableswitch df lo hi offs, len)) (h : x.toInt < lo ∨ hi < x.toInt) (ht : (pc : Int) + df = (t : Int)) (kk : ab_Ev l D ac d me n0 mc ms r k n sh t lv st M) : ab_Ev l D ac d me n0 mc ms r k n sh pc lv (.int x :: st) M := fun p e s m args below meth c H locs A ad ls C S L => lv_tableOut C.1 C.2.1 hd h ht (kk p e s m args below meth c H locs A ad ls C S L)
theorem ev_tableIn {df lo hi off : Int} {offs : Array Int} {len t : Nat} {x : Int32} (hd : decode me.2.2.1 pc = .ok (.tableswitch df lo hi offs, len)) (h1 : ¬ x.toInt < lo) (h2 : ¬ hi < x.toInt) (ho : offs[(x.toInt - lo).toNat]? = some off) (ht : (pc : Int) + off = (t : Int)) (kk : ab_Ev l D ac d me n0 mc ms r k n sh t lv st M) : ab_Ev l D ac d me n0 mc ms r k n sh pc lv (.int x :: st) M := fun p e s m args below meth c H locs A ad ls C S L => lv_tableIn C.1 C.2.1 hd h1 h2 ho ht (kk p e s m args below meth c H locs A ad ls C S L)
end ABev
end
section
/-! cells: fields, arrays; calls; returns; a contract out of its body -/
section ABheap
variable {l : Launch} {D : va_G} {ac : Nat → ClassId} {d : Nat} {me : ab_Me} {n0 mc ms : Nat} {r : ab_Rs} {k n : Nat} {sh : ab_H} {pc : Nat} {lv lv' : List (Option Value)} {st : List Value} {M : ab_M}
/-- what a field's link says: class own, entry idx, is field kf of class ci -/
def ab_FL (own : String) (idx ci kf : Nat) (ty : FieldType) (fin : Bool) : Prop := ∃ (C : String) (T : u_T) (N : Nat) (ty0 : Nat → FieldType), vwCl[ci]? = some (C, T, N) ∧ kf < N ∧ (∀ w ∈ u_ws C T N, w ∈ ab_G) ∧ (∀ j, j < N → parseFieldDescriptor (T j).2.2.1 = some (ty0 j)) ∧ (∀ a, a < N → ∀ b, b < N → a ≠ b → (T a).2.1 ≠ (T b).2.1) ∧ ty0 kf = ty ∧ (T kf).2.2.2 = fin ∧ (Cond.fieldLink own idx (T kf).1 (T kf).2.1 (T kf).2.2.1 ∈ ab_G ∨ ∃ host, Cond.fieldLinkNest own idx (T kf).1 (T kf).2.1 (T kf).2.2.1 host ∈ ab_nest)
theorem ev_geti {idx o ci nf kf : Nat} {rf : List (Option Nat)} {ty : FieldType} {fin : Bool} (hF : ab_FL me.2.1 idx ci kf ty fin) (hs : sh[o]? = some (ci, nf, rf)) (hci : ci < 100) (hk : kf < nf) (hr : ab_isR ci kf = false) (hd : decode me.2.2.1 pc = .ok (.getfield idx, 3)) (kk : ab_Ev l D ac d me n0 mc ms r k n sh (pc + 3) lv (.int (M.1 o kf) :: st) M) : ab_Ev l D ac d me n0 mc ms r k n sh pc lv (.ref o :: st) M := by
  intro p e s m args below meth c H locs A ad ls C S L
  obtain ⟨hx, hb, -, -, hown, hts, -, -, hK, hN⟩ := id C
  obtain ⟨Cn, T, N, ty0, hc, hkN, hin, -, -, -, -, hlink⟩ := hF
  have he : (ab_W ac ad sh M)[o]? = some (ad o, .inr (ci, (List.range nf).map (ab_fv ad M o (ci, nf, rf)))) := by rw [ab_W_get hs, ab_cell_obj hci]
  have hv : ((List.range nf).map (ab_fv ad M o (ci, nf, rf)))[kf]? = some (.int (M.1 o kf)) := by simp [hk, ab_fv, hr]
  have hin' : ∀ w ∈ u_ws Cn T N, w ∈ ab_ws me := fun w h => List.mem_cons_of_mem _ (hin w h)
  rcases hlink with hlink | ⟨host, hlink⟩
  · exact va_get hx hb hts hin' hown hK S.1 o he hc kf hkN (hts _ (List.mem_cons_of_mem _ hlink)) (fun _ h => h) hv hd (kk p e s m args below meth c H locs A ad ls C S L)
  · exact va_getN hx hb hts hin' hown hK S.1 o he hc kf hkN (va_Nw.use rfl (hN _ hlink)) (fun _ h => h) hv hd (kk p e s m args below meth c H locs A ad ls C S L)
theorem ev_getr {idx o o' ci nf kf : Nat} {rf : List (Option Nat)} {ty : FieldType} {fin : Bool} (hF : ab_FL me.2.1 idx ci kf ty fin) (hs : sh[o]? = some (ci, nf, rf)) (hci : ci < 100) (hk : kf < nf) (hr : ab_isR ci kf = true) (ho : rf.getD kf none = some o') (hd : decode me.2.2.1 pc = .ok (.getfield idx, 3)) (kk : ab_Ev l D ac d me n0 mc ms r k n sh (pc + 3) lv (.ref o' :: st) M) : ab_Ev l D ac d me n0 mc ms r k n sh pc lv (.ref o :: st) M := by
  intro p e s m args below meth c H locs A ad ls C S L
  obtain ⟨hx, hb, -, -, hown, hts, -, -, hK, hN⟩ := id C
  obtain ⟨Cn, T, N, ty0, hc, hkN, hin, -, -, -, -, hlink⟩ := hF
  have he : (ab_W ac ad sh M)[o]? = some (ad o, .inr (ci, (List.range nf).map (ab_fv ad M o (ci, nf, rf)))) := by rw [ab_W_get hs, ab_cell_obj hci]
  have hv : ((List.range nf).map (ab_fv ad M o (ci, nf, rf)))[kf]? = some (.ref (ad o')) := by
    rw [List.getElem?_map, List.getElem?_range hk]
    show some (ab_fv ad M o (ci, nf, rf) kf) = _
    unfold ab_fv
    rw [if_pos hr]
    show some (va_rf ((rf.getD kf none).map ad)) = _
    rw [ho]
    rfl
  have hin' : ∀ w ∈ u_ws Cn T N, w ∈ ab_ws me := fun w h => List.mem_cons_of_mem _ (hin w h)
  rcases hlink with hlink | ⟨host, hlink⟩
  · exact va_get hx hb hts hin' hown hK S.1 o he hc kf hkN (hts _ (List.mem_cons_of_mem _ hlink)) (fun _ h => h) hv hd (kk p e s m args below meth c H locs A ad ls C S L)
  · exact va_getN hx hb hts hin' hown hK S.1 o he hc kf hkN (va_Nw.use rfl (hN _ hlink)) (fun _ h => h) hv hd (kk p e s m args below meth c H locs A ad ls C S L)
theorem ev_puti {idx o ci nf kf : Nat} {rf : List (Option Nat)} {ty : FieldType} {x : Int32} (hF : ab_FL me.2.1 idx ci kf ty false) (hs : sh[o]? = some (ci, nf, rf)) (hci : ci < 100) (hk : kf < nf) (hr : ab_isR ci kf = false) (hn : narrow ty (.int x) = .int x) (hf : fits ty (.int x) = true) (hd : decode me.2.2.1 pc = .ok (.putfield idx, 3)) (kk : ab_Ev l D ac d me n0 mc ms r k n sh (pc + 3) lv st (ab_pi M o kf x)) : ab_Ev l D ac d me n0 mc ms r k n sh pc lv (.int x :: .ref o :: st) M := by
  intro p e s m args below meth c H locs A ad ls C S L
  obtain ⟨hx, hb, -, -, hown, hts, -, -, hK, hN⟩ := id C
  obtain ⟨hP, hD, hS, hA⟩ := S
  obtain ⟨Cn, T, N, ty0, hc, hkN, hin, hty, hnm, ht, hfin, hlink⟩ := hF
  subst ht
  have he : (ab_W ac ad sh M)[o]? = some (ad o, .inr (ci, (List.range nf).map (ab_fv ad M o (ci, nf, rf)))) := by rw [ab_W_get hs, ab_cell_obj hci]
  have hin' : ∀ w ∈ u_ws Cn T N, w ∈ ab_ws me := fun w h => List.mem_cons_of_mem _ (hin w h)
  have hset : (ab_W ac ad sh M).set o (ad o, .inr (ci, ((List.range nf).map (ab_fv ad M o (ci, nf, rf))).set kf (.int x))) = ab_W ac ad sh (ab_pi M o kf x) := by
    rw [ab_obj_set (x := (ci, nf, rf)) hr]
    exact ab_W_set hs (ab_cell_obj hci) (fun j y hj => ab_cell_i hj)
  have hl : kf < ((List.range nf).map (ab_fv ad M o (ci, nf, rf))).length := by simpa using hk
  rcases hlink with hlink | ⟨host, hlink⟩
  · refine va_put (v := .int x) hx hb hts hin' ty0 hty hnm hown hK hP hD hS o he hc kf hkN (hts _ (List.mem_cons_of_mem _ hlink)) (fun _ h => h) hfin (hty kf hkN) hn hf hl hd (fun H1 locs1 hP hD hS => ?_)
    rw [hset] at hP hD
    exact kk p e s m args below meth c H1 locs1 A ad ls C ⟨hP, hD, hS, hA⟩ L
  · refine va_putN (v := .int x) hx hb hts hin' ty0 hty hnm hown hK hP hD hS o he hc kf hkN (va_Nw.use rfl (hN _ hlink)) (fun _ h => h) hfin (hty kf hkN) hn hf hl hd (fun H1 locs1 hP hD hS => ?_)
    rw [hset] at hP hD
    exact kk p e s m args below meth c H1 locs1 A ad ls C ⟨hP, hD, hS, hA⟩ L
/-! arrays -/
theorem ab_ci {ac : Nat → ClassId} {ad : Nat → Nat} {M : ab_M} {id nn : Nat} {rf : List (Option Nat)} : ab_cell ac ad M id (100, nn, rf) = .inl (ac 100, nn, .inl (M.1 id)) := by simp [ab_cell]
theorem ab_cb {ac : Nat → ClassId} {ad : Nat → Nat} {M : ab_M} {id nn : Nat} {rf : List (Option Nat)} : ab_cell ac ad M id (101, nn, rf) = .inl (ac 101, nn, .inl (M.1 id)) := by simp [ab_cell]
theorem ab_cl {ac : Nat → ClassId} {ad : Nat → Nat} {M : ab_M} {id nn : Nat} {rf : List (Option Nat)} : ab_cell ac ad M id (102, nn, rf) = .inl (ac 102, nn, .inr (.inl (M.2 id))) := by simp [ab_cell]
theorem ab_cr {ac : Nat → ClassId} {ad : Nat → Nat} {M : ab_M} {id nn ct : Nat} {rf : List (Option Nat)} (h : 102 < ct) : ab_cell ac ad M id (ct, nn, rf) = .inl (ac ct, nn, .inr (.inr (.inr (.inr (fun j => (rf.getD j none).map ad))))) := by
  have h1 : ¬ ct < 100 := by omega
  have h2 : ¬ ct < 102 := by omega
  have h3 : ¬ ct = 102 := by omega
  simp [ab_cell, h1, h2, h3]
theorem ab_upd (M : ab_M) (o j : Nat) (x : Int32) : (ab_pi M o j x).1 o = upd (M.1 o) j x := by funext b; simp [ab_pi, upd]
theorem ab_updL (M : ab_M) (o j : Nat) (x : Int64) : (ab_pl M o j x).2 o = vp_updL (M.2 o) j x := by funext b; simp [ab_pl, vp_updL]
theorem ev_iaload {o nn : Nat} {rf : List (Option Nat)} {i : Int32} (hs : sh[o]? = some (100, nn, rf)) (hin : vp_in i nn) (hd : decode me.2.2.1 pc = .ok (.iaload, 1)) (kk : ab_Ev l D ac d me n0 mc ms r k n sh (pc + 1) lv (.int (M.1 o i.toNatClampNeg) :: st) M) : ab_Ev l D ac d me n0 mc ms r k n sh pc lv (.int i :: .ref o :: st) M := by
  intro p e s m args below meth c H locs A ad ls C S L
  exact va_iald C.1 C.2.1 C.2.2.2.2.2.2.2.2.1 S.1 o 0 ((ab_W_get hs).trans (by rw [ab_ci])) rfl hin hd (kk p e s m args below meth c H locs A ad ls C S L)
theorem ev_baload {o nn : Nat} {rf : List (Option Nat)} {i : Int32} (hs : sh[o]? = some (101, nn, rf)) (hin : vp_in i nn) (hd : decode me.2.2.1 pc = .ok (.baload, 1)) (kk : ab_Ev l D ac d me n0 mc ms r k n sh (pc + 1) lv (.int (M.1 o i.toNatClampNeg) :: st) M) : ab_Ev l D ac d me n0 mc ms r k n sh pc lv (.int i :: .ref o :: st) M := by
  intro p e s m args below meth c H locs A ad ls C S L
  exact va_bald C.1 C.2.1 C.2.2.2.2.2.2.2.2.1 S.1 o 1 ((ab_W_get hs).trans (by rw [ab_cb])) rfl hin hd (kk p e s m args below meth c H locs A ad ls C S L)
theorem ev_laload {o nn : Nat} {rf : List (Option Nat)} {i : Int32} (hs : sh[o]? = some (102, nn, rf)) (hin : vp_in i nn) (hd : decode me.2.2.1 pc = .ok (.laload, 1)) (kk : ab_Ev l D ac d me n0 mc ms r k n sh (pc + 1) lv (.long (M.2 o i.toNatClampNeg) :: st) M) : ab_Ev l D ac d me n0 mc ms r k n sh pc lv (.int i :: .ref o :: st) M := by
  intro p e s m args below meth c H locs A ad ls C S L
  exact va_lald C.1 C.2.1 C.2.2.2.2.2.2.2.2.1 S.1 o 2 ((ab_W_get hs).trans (by rw [ab_cl])) rfl hin hd (kk p e s m args below meth c H locs A ad ls C S L)
theorem ev_aaload {o o' ct nn : Nat} {rf : List (Option Nat)} {i : Int32} (hs : sh[o]? = some (ct, nn, rf)) (hct : ct = 103 ∨ ct = 104) (hin : vp_in i nn) (ho : rf.getD i.toNatClampNeg none = some o') (hd : decode me.2.2.1 pc = .ok (.aaload, 1)) (kk : ab_Ev l D ac d me n0 mc ms r k n sh (pc + 1) lv (.ref o' :: st) M) : ab_Ev l D ac d me n0 mc ms r k n sh pc lv (.int i :: .ref o :: st) M := by
  intro p e s m args below meth c H locs A ad ls C S L
  have kk := kk p e s m args below meth c H locs A ad ls C S L
  rcases hct with rfl | rfl
  · refine va_aldq C.1 C.2.1 C.2.2.2.2.2.2.2.2.1 S.1 o 3 ((ab_W_get hs).trans (by rw [ab_cr (by decide)])) rfl hin hd ?_
    show W p l e (ab_rm d mc ms) s m args below meth c H locs k n _ (F0 m (pc + 1) ls (va_rf ((rf.getD i.toNatClampNeg none).map ad) :: st.map (ab_v ad)))
    rw [ho]
    exact kk
  · refine va_aldq C.1 C.2.1 C.2.2.2.2.2.2.2.2.1 S.1 o 4 ((ab_W_get hs).trans (by rw [ab_cr (by decide)])) rfl hin hd ?_
    show W p l e (ab_rm d mc ms) s m args below meth c H locs k n _ (F0 m (pc + 1) ls (va_rf ((rf.getD i.toNatClampNeg none).map ad) :: st.map (ab_v ad)))
    rw [ho]
    exact kk
theorem ev_iastore {o nn : Nat} {rf : List (Option Nat)} {i x : Int32} (hs : sh[o]? = some (100, nn, rf)) (hin : vp_in i nn) (hd : decode me.2.2.1 pc = .ok (.iastore, 1)) (kk : ab_Ev l D ac d me n0 mc ms r k n sh (pc + 1) lv st (ab_pi M o i.toNatClampNeg x)) : ab_Ev l D ac d me n0 mc ms r k n sh pc lv (.int x :: .int i :: .ref o :: st) M := by
  intro p e s m args below meth c H locs A ad ls C S L
  obtain ⟨hP, hD, hS, hA⟩ := S
  have hset : (ab_W ac ad sh M).set o (ad o, .inl (ac 100, nn, .inl (upd (M.1 o) i.toNatClampNeg x))) = ab_W ac ad sh (ab_pi M o i.toNatClampNeg x) := ab_W_set hs (by rw [ab_ci, ab_upd]) (fun j y hj => ab_cell_i hj)
  refine va_iast C.1 C.2.1 C.2.2.2.2.2.2.2.2.1 hP hD hS o 0 ((ab_W_get hs).trans (by rw [ab_ci])) rfl hin hd (fun H1 locs1 hP hD hS => ?_)
  rw [hset] at hP hD
  exact kk p e s m args below meth c H1 locs1 A ad ls C ⟨hP, hD, hS, hA⟩ L
theorem ev_bastore {o nn : Nat} {rf : List (Option Nat)} {i x : Int32} (hs : sh[o]? = some (101, nn, rf)) (hin : vp_in i nn) (hd : decode me.2.2.1 pc = .ok (.bastore, 1)) (kk : ab_Ev l D ac d me n0 mc ms r k n sh (pc + 1) lv st (ab_pi M o i.toNatClampNeg x.toInt8.toInt32)) : ab_Ev l D ac d me n0 mc ms r k n sh pc lv (.int x :: .int i :: .ref o :: st) M := by
  intro p e s m args below meth c H locs A ad ls C S L
  obtain ⟨hP, hD, hS, hA⟩ := S
  have hset : (ab_W ac ad sh M).set o (ad o, .inl (ac 101, nn, .inl (upd (M.1 o) i.toNatClampNeg (vp_nar .byte x)))) = ab_W ac ad sh (ab_pi M o i.toNatClampNeg x.toInt8.toInt32) := ab_W_set hs (by rw [ab_cb, ab_upd, vp_nar_byte]) (fun j y hj => ab_cell_i hj)
  refine va_bast C.1 C.2.1 C.2.2.2.2.2.2.2.2.1 hP hD hS o 1 ((ab_W_get hs).trans (by rw [ab_cb])) rfl hin hd (fun H1 locs1 hP hD hS => ?_)
  rw [hset] at hP hD
  exact kk p e s m args below meth c H1 locs1 A ad ls C ⟨hP, hD, hS, hA⟩ L
theorem ev_lastore {o nn : Nat} {rf : List (Option Nat)} {i : Int32} {x : Int64} (hs : sh[o]? = some (102, nn, rf)) (hin : vp_in i nn) (hd : decode me.2.2.1 pc = .ok (.lastore, 1)) (kk : ab_Ev l D ac d me n0 mc ms r k n sh (pc + 1) lv st (ab_pl M o i.toNatClampNeg x)) : ab_Ev l D ac d me n0 mc ms r k n sh pc lv (.long x :: .int i :: .ref o :: st) M := by
  intro p e s m args below meth c H locs A ad ls C S L
  obtain ⟨hP, hD, hS, hA⟩ := S
  have hset : (ab_W ac ad sh M).set o (ad o, .inl (ac 102, nn, .inr (.inl (vp_updL (M.2 o) i.toNatClampNeg x)))) = ab_W ac ad sh (ab_pl M o i.toNatClampNeg x) := ab_W_set hs (by rw [ab_cl, ab_updL]) (fun j y hj => ab_cell_l hj)
  refine va_last C.1 C.2.1 C.2.2.2.2.2.2.2.2.1 hP hD hS o 2 ((ab_W_get hs).trans (by rw [ab_cl])) rfl hin hd (fun H1 locs1 hP hD hS => ?_)
  rw [hset] at hP hD
  exact kk p e s m args below meth c H1 locs1 A ad ls C ⟨hP, hD, hS, hA⟩ L
theorem ev_alen {o nn ct : Nat} {rf : List (Option Nat)} {x : Int32} (hs : sh[o]? = some (ct, nn, rf)) (hct : ct = 100 ∨ ct = 101 ∨ ct = 102) (hx : Int32.ofNat nn = x) (hd : decode me.2.2.1 pc = .ok (.arraylength, 1)) (kk : ab_Ev l D ac d me n0 mc ms r k n sh (pc + 1) lv (.int x :: st) M) : ab_Ev l D ac d me n0 mc ms r k n sh pc lv (.ref o :: st) M := by
  intro p e s m args below meth c H locs A ad ls C S L
  have kk := kk p e s m args below meth c H locs A ad ls C S L
  rcases hct with rfl | rfl | rfl
  · exact va_alen C.1 C.2.1 C.2.2.2.2.2.2.2.2.1 S.1 o 0 ((ab_W_get hs).trans (by rw [ab_ci])) rfl hx hd kk
  · exact va_alen C.1 C.2.1 C.2.2.2.2.2.2.2.2.1 S.1 o 1 ((ab_W_get hs).trans (by rw [ab_cb])) rfl hx hd kk
  · exact va_alen C.1 C.2.1 C.2.2.2.2.2.2.2.2.1 S.1 o 2 ((ab_W_get hs).trans (by rw [ab_cl])) rfl hx hd kk
/-! returns -/
theorem ev_ireturn {x : Int32} (hr : me.2.2.2.2 = some .int) (hd : decode me.2.2.1 pc = .ok (.ireturn, 1)) : ab_Ev l D ac d me n0 mc ms (some (.int x), sh, M) mc ms sh pc lv [.int x] M := by
  intro p e s m args below meth c H locs A ad ls C S L
  obtain ⟨hx, hb, hrt, hml, hown, hts, hlk, hnm, hK, hN⟩ := C
  obtain ⟨hP, hD, hS, hA⟩ := S
  exact W.iret hx hb (hrt.trans hr) (fun t ht hW => ⟨⟨ad, rfl, fun _ _ => rfl, fun _ => rfl, by rw [ht]; exact hP, va_K.moved hW.alike hK, hD⟩, hS.F ht⟩) hS.2.2 hd hlk
theorem ev_zreturn {x : Int32} (hr : me.2.2.2.2 = some .boolean) (hv : x = 0 ∨ x = 1) (hd : decode me.2.2.1 pc = .ok (.ireturn, 1)) : ab_Ev l D ac d me n0 mc ms (some (.int x), sh, M) mc ms sh pc lv [.int x] M := by
  intro p e s m args below meth c H locs A ad ls C S L
  obtain ⟨hx, hb, hrt, hml, hown, hts, hlk, hnm, hK, hN⟩ := C
  obtain ⟨hP, hD, hS, hA⟩ := S
  exact W.zret hx hb (hrt.trans hr) (by rcases hv with rfl | rfl <;> rfl) (fun t ht hW => ⟨⟨ad, rfl, fun _ _ => rfl, fun _ => rfl, by rw [ht]; exact hP, va_K.moved hW.alike hK, hD⟩, hS.F ht⟩) hS.2.2 hd hlk
theorem ev_lreturn {x : Int64} (hr : me.2.2.2.2 = some .long) (hd : decode me.2.2.1 pc = .ok (.lreturn, 1)) : ab_Ev l D ac d me n0 mc ms (some (.long x), sh, M) mc ms sh pc lv [.long x] M := by
  intro p e s m args below meth c H locs A ad ls C S L
  obtain ⟨hx, hb, hrt, hml, hown, hts, hlk, hnm, hK, hN⟩ := C
  obtain ⟨hP, hD, hS, hA⟩ := S
  exact W.lret hx hb (hrt.trans hr) (fun t ht hW => ⟨⟨ad, rfl, fun _ _ => rfl, fun _ => rfl, by rw [ht]; exact hP, va_K.moved hW.alike hK, hD⟩, hS.F ht⟩) hS.2.2 hd hlk
theorem ev_areturn {o : Nat} {ty : FieldType} (hr : me.2.2.2.2 = some (.array ty)) (hd : decode me.2.2.1 pc = .ok (.areturn, 1)) : ab_Ev l D ac d me n0 mc ms (some (.ref o), sh, M) mc ms sh pc lv [.ref o] M := by
  intro p e s m args below meth c H locs A ad ls C S L
  obtain ⟨hx, hb, hrt, hml, hown, hts, hlk, hnm, hK, hN⟩ := C
  obtain ⟨hP, hD, hS, hA⟩ := S
  exact W.aret hx hb (hrt.trans hr) (Or.inr ⟨_, rfl⟩) (Or.inr ⟨_, rfl⟩) (fun t ht hW => ⟨⟨ad, rfl, fun _ _ => rfl, fun _ => rfl, by rw [ht]; exact hP, va_K.moved hW.alike hK, hD⟩, hS.F ht⟩) hS.2.2 hd hlk
theorem ev_return (hr : me.2.2.2.2 = none) (hd : decode me.2.2.1 pc = .ok (.return_, 1)) : ab_Ev l D ac d me n0 mc ms (none, sh, M) mc ms sh pc lv [] M := by
  intro p e s m args below meth c H locs A ad ls C S L
  obtain ⟨hx, hb, hrt, hml, hown, hts, hlk, hnm, hK, hN⟩ := C
  obtain ⟨hP, hD, hS, hA⟩ := S
  exact W.vret hx hb (hrt.trans hr) (fun t ht hW => ⟨⟨ad, rfl, fun _ _ => rfl, fun _ => rfl, by rw [ht]; exact hP, va_K.moved hW.alike hK, hD⟩, hS.F ht⟩) hS.2.2 hd hlk
/-! a contract out of its body -/
def ab_ent (av : List Value) : List (Option Value) := av.flatMap (fun v => if v.category = 2 then [some v, none] else [some v])
theorem ab_ent_args (ad : Nat → Nat) : ∀ (av : List Value) (b i : Nat) (v : Value), (ab_ent av)[i]? = some (some v) → (b + i, ab_v ad v) ∈ lv_args b (av.map (ab_v ad))
  | [], b, i, v, h => by simp [ab_ent] at h
  | a :: av, b, i, v, h => by
    have ih := ab_ent_args ad av
    show (b + i, ab_v ad v) ∈ (b, ab_v ad a) :: lv_args (if (ab_v ad a).category = 2 then b + 2 else b + 1) (av.map (ab_v ad))
    rw [ab_vc]
    by_cases hc : a.category = 2
    · have he : ab_ent (a :: av) = some a :: none :: ab_ent av := by simp [ab_ent, hc]
      rw [he] at h
      rw [if_pos hc]
      match i, h with
      | 0, h => simp at h; subst h; exact List.mem_cons_self
      | 1, h => simp at h
      | i + 2, h =>
        have := ih (b + 2) i v (by simpa using h)
        rw [show b + (i + 2) = b + 2 + i by omega]
        exact List.mem_cons_of_mem _ this
    · have he : ab_ent (a :: av) = some a :: ab_ent av := by simp [ab_ent, hc]
      rw [he] at h
      rw [if_neg hc]
      match i, h with
      | 0, h => simp at h; subst h; exact List.mem_cons_self
      | i + 1, h =>
        have := ih (b + 1) i v (by simpa using h)
        rw [show b + (i + 1) = b + 1 + i by omega]
        exact List.mem_cons_of_mem _ this
theorem ab_ent_len (ad : Nat → Nat) (av : List Value) : (lg_sl (av.map (ab_v ad))).length = (ab_ent av).length := by
  induction av with
  | nil => rfl
  | cons a av ih =>
    simp only [lg_sl, ab_ent, List.map_cons, List.flatMap_cons, List.length_append, ab_vc] at ih ⊢
    rw [ih]
    by_cases hc : a.category = 2 <;> simp [hc]
theorem ab_intro {av : List Value} (hpl : plainName me.1.cls = true) (hcls : me.1.cls = me.2.1) (hlen : (ab_ent av).length ≤ me.2.2.2.1) (hlv : ab_ent av ++ List.replicate (me.2.2.2.1 - (ab_ent av).length) none = lv) (kk : ab_Ev l D ac d me sh.length mc ms r 0 0 sh 0 lv [] M) : ab_Con l D ac d me mc ms av sh M r := by
  intro ad sz
  refine Met.ofW (cc := me.2.2.1) (maxL := me.2.2.2.1) (ret := me.2.2.2.2) hpl rfl ?_
  intro p e s m args below meth c s₁ B hml hv
  obtain ⟨rfl, hsz, hP, hK, hD0, hN⟩ := hv
  have hts := atoms_spec (ws := ab_ws me) B.pre
  have hown : s.vm.findClass me.1.cls = some m.cls := findClass_of_methodNamed B.named
  subst hsz
  have hD := hD0.self (sz := s.heap.size)
  have hl := lv_entry (av.map (ab_v ad)) (n := me.2.2.2.1) (by rw [ab_ent_len]; exact hlen)
  rw [lg_entry_eq]
  refine kk p e s m _ below meth c s.heap [] (va_A (ab_W ac ad sh M) s.heap.size) ad _ ⟨B.exec, B.bytes, B.returns, hml, by rw [← hcls]; exact hown, hts, B.notSynchronized, (name_of_methodNamed B.named B.method).1, hK, hN⟩ ⟨hP, hD, va_S.rf, fun q h => Or.inr h⟩ ⟨hl.1, hl.2.1, ?_, fun i v hi => ?_⟩
  · rw [← hlv, List.length_append, List.length_replicate]; omega
  · rw [← hlv] at hi
    by_cases hlt : i < (ab_ent av).length
    · rw [List.getElem?_append_left hlt] at hi
      have := hl.2.2 _ (ab_ent_args ad av 0 i v hi)
      simpa using this
    · rw [List.getElem?_append_right (Nat.not_lt.mp hlt), List.getElem?_replicate] at hi
      split at hi <;> cases hi
/-! calls -/
theorem ab_callW {p : Program} {e : Env} {R : Room} {s : State} {m : MethodId} {args : Array Value} {below : List Frame} {meth : Method} {c : Code} {H : Heap} {locs : List Loc} {cells slots : Nat} {Q : State → Prop} {pc : Nat} {ls : Array Slot} {rest st0 : List Value} {a : Array Value} {A0 A1 : Nat → Prop} {mc ms n1 : Nat} {free : Addr → Prop} {ad : Nat → Nat} {r : ab_Rs}
    (hr : va_Run p l e R s m args below meth c H locs cells slots mc ms (F0 m pc ls st0) rest (ab_Qc D ac A1 ad n1 r a) free) (hS : va_S A0 s.heap H locs) (hA : ∀ q, q < H.size → A1 q → A0 q) (hf : ∀ q, free q → A0 q)
    (kk : ∀ (ad' : Nat → Nat) (t : State) (H1 : Heap) (locs1 : List Loc), t.heap = H1 → s.vm.Alike t.vm → (∀ i, i < n1 → ad' i = ad i) → (r.2.1.length ≤ n1 → ad' = ad) → va_P D vwCl (ab_W ac ad' r.2.1 r.2.2) H1 → va_D A1 (ab_W ac ad' r.2.1 r.2.2) → H.size ≤ H1.size → (∀ q : Nat, q < H.size → ¬ A1 q → H1[q]? = H[q]?) → va_S A0 s.heap H1 locs1 → W p l e R s m args below meth c H1 locs1 (cells + mc) (slots + ms) Q (F0 m (pc + 3) ls ((r.1.map (ab_v ad')).toList ++ rest))) : W p l e R s m args below meth c H locs cells slots Q (F0 m pc ls st0) := by
  intro T hT X
  obtain ⟨v, st₀, t, T', L, h0, X', hL, e1, e2, ⟨⟨ad', hv, ha1, ha2, hp, hk1, hd1⟩, hz, hk⟩, st⟩ := hr T hT X
  cases hv
  rw [h0] at hz hk
  obtain ⟨t2, a1, b1⟩ := kk ad' t T'.heap (locs ++ L) e1.symm (by rw [← e2]; exact X'.warmed.alike) ha1 ha2 (by rw [e1]; exact hp) hd1 (by rw [e1]; exact hz) (fun q h1 h2 => by rw [e1]; exact hk q h1 h2)
    ⟨Nat.le_trans hS.1 (by rw [e1]; exact hz), fun q h1 h2 => by rw [e1, hk q (Nat.lt_of_lt_of_le h1 hS.1) (fun z => h2 (hA q (Nat.lt_of_lt_of_le h1 hS.1) z))]; exact hS.2.1 q h1 h2, fun q hq => by
      rcases List.mem_append.mp hq with h | h
      · exact hS.2.2 q h
      · exact hf _ (hL q h)⟩ T' rfl X'
  exact ⟨t2, st t2 a1, b1⟩
/-- what is known of a method that is called -/
def ab_MV (me : ab_Me) (ci np : Nat) : Prop := Cond.code me.1 me.2.2.1 me.2.2.2.1 me.2.2.2.2 ∈ ab_G ∧ Cond.instanceMethod me.1 ∈ ab_G ∧ Cond.selects me.1.cls me.1 me.1 ∈ ab_G ∧ Cond.initialized me.1.cls ∈ ab_G ∧ (me.1.cls ≠ "java/lang/invoke/MethodHandle" ∧ me.1.cls ≠ "java/lang/invoke/VarHandle" ∧ (parseMethodDescriptor me.1.desc).map (fun d => d.parameters.length) = some np) ∧ me.2.2.2.1 ≤ 29 ∧ ci < 100 ∧ ∃ T N, vwCl[ci]? = some (me.1.cls, T, N)
def ab_MS (me : ab_Me) (np : Nat) : Prop := Cond.code me.1 me.2.2.1 me.2.2.2.1 me.2.2.2.2 ∈ ab_G ∧ Cond.static me.1 ∈ ab_G ∧ Cond.initialized me.1.cls ∈ ab_G ∧ (me.1.cls ≠ "java/lang/invoke/MethodHandle" ∧ me.1.cls ≠ "java/lang/invoke/VarHandle" ∧ (parseMethodDescriptor me.1.desc).map (fun d => d.parameters.length) = some np) ∧ me.2.2.2.1 ≤ 29
theorem ab_blind {av : List Value} {sz : Nat} {ad : Nat → Nat} : FrameBlind (va_Pc av (fun U => U.heap.size = sz ∧ va_P D vwCl (ab_W ac ad sh M) U.heap ∧ va_K D vwCl (ab_tys ac) U ∧ va_D (fun _ => True) (ab_W ac ad sh M) ∧ ab_N U)) := by
  intro a U g mk q
  obtain ⟨q0, q1, qP, qK, qD, qN⟩ := q
  exact ⟨q0, q1, qP, va_K.moved (u := U) (U := U.calling g mk a) (Vm.Alike.refl U.vm) qK, qD, ab_N.same (s := U) (U := U.calling g mk a) rfl qN⟩
theorem ab_freeW {A : Nat → Prop} {ws : va_W} {H0 H : Heap} {locs : List Loc} (hD : va_D A ws) (hS : va_S A H0 H locs) (hA : ∀ q, H0.size ≤ q → A q) : ∀ q, va_A ws H.size q → A q := by
  intro q h
  rcases h with ⟨k, e, h⟩ | h
  · exact hD.2 k (q, e) h
  · exact hA q (Nat.le_trans hS.1 h)
theorem ev_callV {me' : ab_Me} {d' idx o ci nf : Nat} {rf : List (Option Nat)} {as sk : List Value} {rv : Option Value} {M' : ab_M} (hc : ab_Con l D ac d' me' 0 0 (.ref o :: as) sh M (rv, sh, M')) (hm : ab_MV me' ci as.length) (hs : sh[o]? = some (ci, nf, rf)) (hl : Cond.methodLink me.2.1 idx me'.1 ∈ ab_G) (hd : decode me.2.2.1 pc = .ok (.invokevirtual idx, 3)) (hdd : d' < d) (hk1 : sk = as.reverse ++ .ref o :: st) (hst : (st.map fun v => v.category).sum ≤ 8) (hkn : k ≤ mc ∧ n ≤ ms)
    (kk : ab_Ev l D ac d me n0 mc ms r k n sh (pc + 3) lv (rv.toList ++ st) M') : ab_Ev l D ac d me n0 mc ms r k n sh pc lv sk M := by
  intro p e s m args below meth c H locs A ad ls C S L
  obtain ⟨hx, hb, hrt, hml, hown, hts, hlk, hnm, hK, hN⟩ := id C
  obtain ⟨hP, hD, hS, hA⟩ := S
  obtain ⟨h1, h2, h3, h4, h5, h6, h7, T, N, h8⟩ := hm
  have he : (ab_W ac ad sh M)[o]? = some (ad o, .inr (ci, (List.range nf).map (ab_fv ad M o (ci, nf, rf)))) := by rw [ab_W_get hs, ab_cell_obj h7]
  have hF := ab_freeW hD hS hA
  have hG : GoodIn (ab_ws me) (wsV me.2.1 idx me'.1.cls me'.1 (ab_ws me')) := by
    intro w hw
    unfold wsV at hw
    rcases List.mem_append.mp hw with hw | hw
    · simp only [List.mem_cons, List.not_mem_nil, or_false] at hw
      rcases hw with rfl | rfl | rfl | rfl
      · exact ab_good1 hl
      · exact ab_good1 h2
      · exact ab_good1 h3
      · exact ab_good1 h4
    · exact ab_goodIn h1 w hw
  refine ab_callW (va_runV (As := as.map (ab_v ad)) (rest := st.map (ab_v ad)) (C := me'.1.cls) (b := ad o) ⟨hx, hb, hml, hown, hts⟩ (hc ad H.size) (cwV as.length hts hG rfl rfl rfl ⟨rfl, h5⟩ ⟨by show d' + 1 ≤ d; omega, by show 8 + (me'.2.2.2.1 + 11) + 48 * d' ≤ 48 * d; omega⟩) ⟨ab_blind, va_recv hK hP h8 he, fun U hU hW => ⟨rfl, by rw [hU], by rw [hU]; exact hP, va_K.moved hW.alike hK, hD.weaken (fun _ _ _ _ => trivial), ab_N.warm hW hN⟩⟩ rfl (by simp) L.1 (by subst hk1; simp [ab_v]) (lv_room (by rw [ab_vcs]; exact hst)) hd ⟨by simpa using hkn.1, by simpa using hkn.2⟩) hS (fun q _ h => hF q h) hF (fun ad' t H1 locs1 ht hvm ha1 ha2 hP1 hD1 hz hk hS1 => ?_)
  have e1 : ad' = ad := ha2 (Nat.le_refl _)
  subst e1
  have := kk p e s m args below meth c H1 locs1 A ad' ls C ⟨hP1, hD1.weaken (fun _ _ _ h => hF _ h), hS1, hA⟩ L
  rw [show (rv.toList ++ st).map (ab_v ad') = (rv.map (ab_v ad')).toList ++ st.map (ab_v ad') by cases rv <;> rfl] at this
  exact this
theorem ev_callS {me' : ab_Me} {d' idx : Nat} {as sk : List Value} {rv : Option Value} {M' : ab_M} (hc : ab_Con l D ac d' me' 0 0 as sh M (rv, sh, M')) (hm : ab_MS me' as.length) (hl : Cond.methodLink me.2.1 idx me'.1 ∈ ab_G) (hd : decode me.2.2.1 pc = .ok (.invokestatic idx, 3)) (hdd : d' < d) (hk1 : sk = as.reverse ++ st) (hst : (st.map fun v => v.category).sum ≤ 8) (hkn : k ≤ mc ∧ n ≤ ms)
    (kk : ab_Ev l D ac d me n0 mc ms r k n sh (pc + 3) lv (rv.toList ++ st) M') : ab_Ev l D ac d me n0 mc ms r k n sh pc lv sk M := by
  intro p e s m args below meth c H locs A ad ls C S L
  obtain ⟨hx, hb, hrt, hml, hown, hts, hlk, hnm, hK, hN⟩ := id C
  obtain ⟨hP, hD, hS, hA⟩ := S
  obtain ⟨h1, h2, h4, h5, h6⟩ := hm
  have hF := ab_freeW hD hS hA
  refine ab_callW (va_runS (As := as.map (ab_v ad)) (rest := st.map (ab_v ad)) ⟨hx, hb, hml, hown, hts⟩ (hc ad H.size) ⟨callB_of as.length hts (ab_goodIn h1) rfl rfl rfl (hts _ (List.mem_cons_of_mem _ h4)) (hts _ (List.mem_cons_of_mem _ hl)) h5 ⟨by show d' + 1 ≤ d; omega, by show 8 + (me'.2.2.2.1 + 11) + 48 * d' ≤ 48 * d; omega⟩, hts _ (List.mem_cons_of_mem _ h2)⟩ ⟨ab_blind, fun U hU hW => ⟨rfl, by rw [hU], by rw [hU]; exact hP, va_K.moved hW.alike hK, hD.weaken (fun _ _ _ _ => trivial), ab_N.warm hW hN⟩⟩ rfl (by simp) L.1 (by subst hk1; simp) (lv_room (by rw [ab_vcs]; exact hst)) hd ⟨by simpa using hkn.1, by simpa using hkn.2⟩) hS (fun q _ h => hF q h) hF (fun ad' t H1 locs1 ht hvm ha1 ha2 hP1 hD1 hz hk hS1 => ?_)
  have e1 : ad' = ad := ha2 (Nat.le_refl _)
  subst e1
  have := kk p e s m args below meth c H1 locs1 A ad' ls C ⟨hP1, hD1.weaken (fun _ _ _ h => hF _ h), hS1, hA⟩ L
  rw [show (rv.toList ++ st).map (ab_v ad') = (rv.map (ab_v ad')).toList ++ st.map (ab_v ad') by cases rv <;> rfl] at this
  exact this
theorem ev_callSN {me' : ab_Me} {d' idx : Nat} {host : String} {as sk : List Value} {rv : Option Value} {M' : ab_M} (hc : ab_Con l D ac d' me' 0 0 as sh M (rv, sh, M')) (hm : ab_MS me' as.length) (hl : Cond.methodLinkNest me.2.1 idx me'.1 host ∈ ab_nest) (hd : decode me.2.2.1 pc = .ok (.invokestatic idx, 3)) (hdd : d' < d) (hk1 : sk = as.reverse ++ st) (hst : (st.map fun v => v.category).sum ≤ 8) (hkn : k ≤ mc ∧ n ≤ ms)
    (kk : ab_Ev l D ac d me n0 mc ms r k n sh (pc + 3) lv (rv.toList ++ st) M') : ab_Ev l D ac d me n0 mc ms r k n sh pc lv sk M := by
  intro p e s m args below meth c H locs A ad ls C S L
  obtain ⟨hx, hb, hrt, hml, hown, hts, hlk, hnm, hK, hN⟩ := id C
  obtain ⟨hP, hD, hS, hA⟩ := S
  obtain ⟨h1, h2, h4, h5, h6⟩ := hm
  have hF := ab_freeW hD hS hA
  refine ab_callW (va_runSN (As := as.map (ab_v ad)) (rest := st.map (ab_v ad)) ⟨hx, hb, hml, hown, hts⟩ (hc ad H.size) ⟨va_cnB as.length hts (ab_goodIn h1) rfl rfl rfl (hN _ hl) (hts _ (List.mem_cons_of_mem _ h4)) h5 ⟨by show d' + 1 ≤ d; omega, by show 8 + (me'.2.2.2.1 + 11) + 48 * d' ≤ 48 * d; omega⟩, hts _ (List.mem_cons_of_mem _ h2), trivial⟩ ⟨ab_blind, fun U hU hW => ⟨rfl, by rw [hU], by rw [hU]; exact hP, va_K.moved hW.alike hK, hD.weaken (fun _ _ _ _ => trivial), ab_N.warm hW hN⟩⟩ rfl (by simp) L.1 (by subst hk1; simp) (lv_room (by rw [ab_vcs]; exact hst)) hd ⟨by simpa using hkn.1, by simpa using hkn.2⟩) hS (fun q _ h => hF q h) hF (fun ad' t H1 locs1 ht hvm ha1 ha2 hP1 hD1 hz hk hS1 => ?_)
  have e1 : ad' = ad := ha2 (Nat.le_refl _)
  subst e1
  have := kk p e s m args below meth c H1 locs1 A ad' ls C ⟨hP1, hD1.weaken (fun _ _ _ h => hF _ h), hS1, hA⟩ L
  rw [show (rv.toList ++ st).map (ab_v ad') = (rv.map (ab_v ad')).toList ++ st.map (ab_v ad') by cases rv <;> rfl] at this
  exact this
end ABheap
end
section
/-! small words of the mirrors, and the rules for the JDK's members -/
section ABlib
variable {l : Launch} {D : va_G} {ac : Nat → ClassId} {d : Nat} {me : ab_Me} {n0 mc ms : Nat} {r : ab_Rs} {k n : Nat} {sh : ab_H} {pc : Nat} {lv lv' : List (Option Value)} {st : List Value} {M : ab_M}
/-- how often a loop may go round, more than enough -/
def ab_F : Nat := 100000
noncomputable def ab_chk {α : Type} (c : Prop) (t : Option α) : Option α := @ite _ c (Classical.propDecidable c) t none
theorem ab_chk_some {α : Type} {c : Prop} {t : Option α} {r : α} (h : ab_chk c t = some r) : c ∧ t = some r := by
  unfold ab_chk at h
  split at h
  · exact ⟨by assumption, h⟩
  · cases h
theorem ab_chk_pos {α : Type} {c : Prop} {t : Option α} (h : c) : ab_chk c t = t := if_pos h
theorem ab_pos {α : Type} {c : Prop} [Decidable c] {a b : α} {r : α} (hc : c) (h : (if c then a else b) = r) : a = r := by rw [if_pos hc] at h; exact h
theorem ab_neg {α : Type} {c : Prop} [Decidable c] {a b : α} {r : α} (hc : ¬ c) (h : (if c then a else b) = r) : b = r := by rw [if_neg hc] at h; exact h
theorem ab_bind {α β : Type} {a : Option α} {f : α → Option β} {r : β} (h : a.bind f = some r) : ∃ x, a = some x ∧ f x = some r := by
  cases a with
  | none => cases h
  | some x => exact ⟨x, rfl, h⟩
theorem ab_elim {α β γ : Type} {f : α → Option γ} {g : β → Option γ} {q : Sum α β} {r : γ} (h : Sum.elim f g q = some r) : (∃ y, q = .inl y ∧ f y = some r) ∨ ∃ v, q = .inr v ∧ g v = some r := by
  cases q with
  | inl y => exact Or.inl ⟨y, rfl, h⟩
  | inr v => exact Or.inr ⟨v, rfl, h⟩
abbrev ab_ushr (x y : Int32) : Int32 := (x.toUInt32 >>> (y.toUInt32 &&& Int32.toUInt32 31)).toInt32
abbrev ab_lshl (x : Int64) (y : Int32) : Int64 := x <<< (y.toInt64 &&& 63)
abbrev ab_lushr (x : Int64) (y : Int32) : Int64 := (x.toUInt64 >>> (y.toInt64.toUInt64 &&& Int64.toUInt64 63)).toInt64
abbrev ab_i2b (x : Int32) : Int32 := x.toInt8.toInt32
abbrev ab_rem (x y : Int32) : Int32 := x - x / y * y
abbrev ab_max (x y : Int32) : Int32 := if x < y then y else x
abbrev ab_min (x y : Int32) : Int32 := if y < x then y else x
abbrev ab_abs (x : Int32) : Int32 := if 0 ≤ x then x else 0 - x
def ab_cpi (M : ab_M) (o1 o2 : Nat) (sp dp nn : Int32) : ab_M := (fun a b => if a = o2 then va_cpy (M.1 o1) (M.1 o2) sp.toNatClampNeg dp.toNatClampNeg nn.toNatClampNeg b else M.1 a b, M.2)
def ab_cpl (M : ab_M) (o1 o2 : Nat) (sp dp nn : Int32) : ab_M := (M.1, fun a b => if a = o2 then va_cpy (M.2 o1) (M.2 o2) sp.toNatClampNeg dp.toNatClampNeg nn.toNatClampNeg b else M.2 a b)
theorem ev_dup2 {v w : Value} (hd : decode me.2.2.1 pc = .ok (.dup2, 1)) (hv : v.category = 1) (hw : w.category = 1) (kk : ab_Ev l D ac d me n0 mc ms r k n sh (pc + 1) lv (v :: w :: v :: w :: st) M) : ab_Ev l D ac d me n0 mc ms r k n sh pc lv (v :: w :: st) M := fun p e s m args below meth c H locs A ad ls C S L => lv_dup2_11 C.1 C.2.1 hd ((ab_vc ad v).trans hv) ((ab_vc ad w).trans hw) (kk p e s m args below meth c H locs A ad ls C S L)
theorem ev_nmi {a b : Int32} (h : a = b) (kk : ab_Ev l D ac d me n0 mc ms r k n sh pc lv (.int b :: st) M) : ab_Ev l D ac d me n0 mc ms r k n sh pc lv (.int a :: st) M := by subst h; exact kk
theorem ev_nml {a b : Int64} (h : a = b) (kk : ab_Ev l D ac d me n0 mc ms r k n sh pc lv (.long b :: st) M) : ab_Ev l D ac d me n0 mc ms r k n sh pc lv (.long a :: st) M := by subst h; exact kk
theorem gw_mmax_s : Cond.static Lib.Math.max.name ∈ ab_G := (ab_G_in (i := 412) (by decide +kernel) (by decide +kernel))
theorem gw_mmax_c : Cond.code Lib.Math.max.name Lib.Math.max.code 2 (some .int) ∈ ab_G := (ab_G_in (i := 413) (by decide +kernel) (by decide +kernel))
theorem gw_mmin_s : Cond.static Lib.Math.min.name ∈ ab_G := (ab_G_in (i := 659) (by decide +kernel) (by decide +kernel))
theorem gw_mmin_c : Cond.code Lib.Math.min.name Lib.Math.min.code 2 (some .int) ∈ ab_G := (ab_G_in (i := 660) (by decide +kernel) (by decide +kernel))
theorem gw_mabs_s : Cond.static Lib.Math.abs.name ∈ ab_G := (ab_G_in (i := 500) (by decide +kernel) (by decide +kernel))
theorem gw_mabs_c : Cond.code Lib.Math.abs.name Lib.Math.abs.code 1 (some .int) ∈ ab_G := (ab_G_in (i := 501) (by decide +kernel) (by decide +kernel))
theorem gw_math : Cond.initialized "java/lang/Math" ∈ ab_G := (ab_G_in (i := 73) (by decide +kernel) (by decide +kernel))
theorem gw_acN : Cond.native arraycopyName ∈ ab_G := (ab_G_in (i := 644) (by decide +kernel) (by decide +kernel))
theorem gw_acS : Cond.static arraycopyName ∈ ab_G := (ab_G_in (i := 643) (by decide +kernel) (by decide +kernel))
theorem gw_sys : Cond.initialized "java/lang/System" ∈ ab_G := (ab_G_in (i := 75) (by decide +kernel) (by decide +kernel))
theorem ev_max {idx : Nat} {x y : Int32} (hl : Cond.methodLink me.2.1 idx Lib.Math.max.name ∈ ab_G) (hd : decode me.2.2.1 pc = .ok (.invokestatic idx, 3)) (hdd : 1 < d) (hst : (st.map fun v => v.category).sum ≤ 8) (hkn : k ≤ mc ∧ n ≤ ms) (kk : ab_Ev l D ac d me n0 mc ms r k n sh (pc + 3) lv (.int (ab_max x y) :: st) M) : ab_Ev l D ac d me n0 mc ms r k n sh pc lv (.int y :: .int x :: st) M := by
  intro p e s m args below meth c H locs A ad ls C S L
  obtain ⟨hx, hb, hrt, hml, hown, hts, -⟩ := id C
  have hw : ∀ w, w ∈ ab_G → w.before args s = true := fun w h => hts w (List.mem_cons_of_mem _ h)
  exact va_mmax hx hb (hml.trans L.1.symm) hown (hw _ hl) (hw _ gw_mmax_s) (hw _ gw_math) (hw _ gw_mmax_c) (by show 1 ≤ d; omega) (by rw [ab_vcs]; show _ + 13 ≤ 48 * d; omega) hkn.1 hkn.2 hd (kk p e s m args below meth c H locs A ad ls C S L)
theorem ev_min {idx : Nat} {x y : Int32} (hl : Cond.methodLink me.2.1 idx Lib.Math.min.name ∈ ab_G) (hd : decode me.2.2.1 pc = .ok (.invokestatic idx, 3)) (hdd : 1 < d) (hst : (st.map fun v => v.category).sum ≤ 8) (hkn : k ≤ mc ∧ n ≤ ms) (kk : ab_Ev l D ac d me n0 mc ms r k n sh (pc + 3) lv (.int (ab_min x y) :: st) M) : ab_Ev l D ac d me n0 mc ms r k n sh pc lv (.int y :: .int x :: st) M := by
  intro p e s m args below meth c H locs A ad ls C S L
  obtain ⟨hx, hb, hrt, hml, hown, hts, -⟩ := id C
  have hw : ∀ w, w ∈ ab_G → w.before args s = true := fun w h => hts w (List.mem_cons_of_mem _ h)
  exact va_mmin hx hb (hml.trans L.1.symm) hown (hw _ hl) (hw _ gw_mmin_s) (hw _ gw_math) (hw _ gw_mmin_c) (by show 1 ≤ d; omega) (by rw [ab_vcs]; show _ + 13 ≤ 48 * d; omega) hkn.1 hkn.2 hd (kk p e s m args below meth c H locs A ad ls C S L)
theorem ev_abs {idx : Nat} {x : Int32} (hl : Cond.methodLink me.2.1 idx Lib.Math.abs.name ∈ ab_G) (hd : decode me.2.2.1 pc = .ok (.invokestatic idx, 3)) (hdd : 1 < d) (hst : (st.map fun v => v.category).sum ≤ 8) (hkn : k ≤ mc ∧ n ≤ ms) (kk : ab_Ev l D ac d me n0 mc ms r k n sh (pc + 3) lv (.int (ab_abs x) :: st) M) : ab_Ev l D ac d me n0 mc ms r k n sh pc lv (.int x :: st) M := by
  intro p e s m args below meth c H locs A ad ls C S L
  obtain ⟨hx, hb, hrt, hml, hown, hts, -⟩ := id C
  have hw : ∀ w, w ∈ ab_G → w.before args s = true := fun w h => hts w (List.mem_cons_of_mem _ h)
  exact va_mabs hx hb (hml.trans L.1.symm) hown (hw _ hl) (hw _ gw_mabs_s) (hw _ gw_math) (hw _ gw_mabs_c) (by show 1 ≤ d; omega) (by rw [ab_vcs]; show _ + 13 ≤ 48 * d; omega) hkn.1 hkn.2 hd (kk p e s m args below meth c H locs A ad ls C S L)
theorem ab_cell_cp {ac : Nat → ClassId} {ad : Nat → Nat} {M : ab_M} {o1 o2 j : Nat} {sp dp nn : Int32} {y : ab_S} (h : j ≠ o2) : ab_cell ac ad (ab_cpi M o1 o2 sp dp nn) j y = ab_cell ac ad M j y := by
  have h1 : (ab_cpi M o1 o2 sp dp nn).1 j = M.1 j := by funext b; simp [ab_cpi, h]
  have h2 : (ab_cpi M o1 o2 sp dp nn).2 = M.2 := rfl
  unfold ab_cell
  rw [h1, h2]
  have h3 : ab_fv ad (ab_cpi M o1 o2 sp dp nn) j y = ab_fv ad M j y := by funext b; simp [ab_fv, h1]
  rw [h3]
theorem ab_cell_cpl {ac : Nat → ClassId} {ad : Nat → Nat} {M : ab_M} {o1 o2 j : Nat} {sp dp nn : Int32} {y : ab_S} (h : j ≠ o2) : ab_cell ac ad (ab_cpl M o1 o2 sp dp nn) j y = ab_cell ac ad M j y := by
  have h1 : (ab_cpl M o1 o2 sp dp nn).2 j = M.2 j := by funext b; simp [ab_cpl, h]
  have h2 : (ab_cpl M o1 o2 sp dp nn).1 = M.1 := rfl
  unfold ab_cell
  rw [h1, h2]
  have h3 : ab_fv ad (ab_cpl M o1 o2 sp dp nn) j y = ab_fv ad M j y := by funext b; simp [ab_fv, h2]
  rw [h3]
theorem ab_nfw : nativeFrameWords "java/lang/System" "arraycopy" 5 ≤ 60 := by decide
theorem ev_copyi {idx o1 o2 n1 n2 : Nat} {rf1 rf2 : List (Option Nat)} {sp dp nn : Int32} (hl : Cond.methodLink me.2.1 idx arraycopyName ∈ ab_G) (h1 : sh[o1]? = some (100, n1, rf1)) (h2 : sh[o2]? = some (100, n2, rf2)) (hb : ¬ sp < 0 ∧ ¬ dp < 0 ∧ ¬ nn < 0 ∧ sp.toNatClampNeg + nn.toNatClampNeg ≤ n1 ∧ dp.toNatClampNeg + nn.toNatClampNeg ≤ n2) (hd : decode me.2.2.1 pc = .ok (.invokestatic idx, 3)) (hdd : 1 < d) (hst : (st.map fun v => v.category).sum ≤ 8) (kk : ab_Ev l D ac d me n0 mc ms r k n sh (pc + 3) lv st (ab_cpi M o1 o2 sp dp nn)) : ab_Ev l D ac d me n0 mc ms r k n sh pc lv (.int nn :: .int dp :: .ref o2 :: .int sp :: .ref o1 :: st) M := by
  intro p e s m args below meth c H locs A ad ls C S L
  obtain ⟨hx, hbb, hrt, hml, hown, hts, -, -, hK, -⟩ := id C
  obtain ⟨hP, hD, hS, hA⟩ := S
  obtain ⟨b1, b2, b3, b4, b5⟩ := hb
  have hw : ∀ w, w ∈ ab_G → w.before args s = true := fun w h => hts w (List.mem_cons_of_mem _ h)
  have hset : (ab_W ac ad sh M).set o2 (ad o2, .inl (ac 100, n2, .inl (va_cpy (M.1 o1) (M.1 o2) sp.toNatClampNeg dp.toNatClampNeg nn.toNatClampNeg))) = ab_W ac ad sh (ab_cpi M o1 o2 sp dp nn) := ab_W_set h2 (by rw [ab_ci, show (ab_cpi M o1 o2 sp dp nn).1 o2 = va_cpy (M.1 o1) (M.1 o2) sp.toNatClampNeg dp.toNatClampNeg nn.toNatClampNeg by funext b; simp [ab_cpi]]) (fun j y hj => ab_cell_cp hj)
  have hn := ab_nfw
  refine va_copyi hx hbb (hml.trans L.1.symm) hown (hw _ hl) (hw _ gw_acN) (hw _ gw_acS) (hw _ gw_sys) hK hP hD hS o1 o2 0 0 ((ab_W_get h1).trans (by rw [ab_ci])) ((ab_W_get h2).trans (by rw [ab_ci])) rfl rfl rfl b1 b2 b3 b4 b5 (fun _ _ => rfl) (by show 1 ≤ d; omega) (by rw [ab_vcs]; show _ ≤ 48 * d; omega) hd (fun H1 locs1 hP hD hS => ?_)
  rw [hset] at hP hD
  exact kk p e s m args below meth c H1 locs1 A ad ls C ⟨hP, hD, hS, hA⟩ L
theorem ev_copyb {idx o1 o2 n1 n2 : Nat} {rf1 rf2 : List (Option Nat)} {sp dp nn : Int32} (hl : Cond.methodLink me.2.1 idx arraycopyName ∈ ab_G) (h1 : sh[o1]? = some (101, n1, rf1)) (h2 : sh[o2]? = some (101, n2, rf2)) (hb : ¬ sp < 0 ∧ ¬ dp < 0 ∧ ¬ nn < 0 ∧ sp.toNatClampNeg + nn.toNatClampNeg ≤ n1 ∧ dp.toNatClampNeg + nn.toNatClampNeg ≤ n2 ∧ ∀ i, i < nn.toNatClampNeg → fits .byte (.int (M.1 o1 (sp.toNatClampNeg + i))) = true) (hd : decode me.2.2.1 pc = .ok (.invokestatic idx, 3)) (hdd : 1 < d) (hst : (st.map fun v => v.category).sum ≤ 8) (kk : ab_Ev l D ac d me n0 mc ms r k n sh (pc + 3) lv st (ab_cpi M o1 o2 sp dp nn)) : ab_Ev l D ac d me n0 mc ms r k n sh pc lv (.int nn :: .int dp :: .ref o2 :: .int sp :: .ref o1 :: st) M := by
  intro p e s m args below meth c H locs A ad ls C S L
  obtain ⟨hx, hbb, hrt, hml, hown, hts, -, -, hK, -⟩ := id C
  obtain ⟨hP, hD, hS, hA⟩ := S
  obtain ⟨b1, b2, b3, b4, b5, b6⟩ := hb
  have hw : ∀ w, w ∈ ab_G → w.before args s = true := fun w h => hts w (List.mem_cons_of_mem _ h)
  have hset : (ab_W ac ad sh M).set o2 (ad o2, .inl (ac 101, n2, .inl (va_cpy (M.1 o1) (M.1 o2) sp.toNatClampNeg dp.toNatClampNeg nn.toNatClampNeg))) = ab_W ac ad sh (ab_cpi M o1 o2 sp dp nn) := ab_W_set h2 (by rw [ab_cb, show (ab_cpi M o1 o2 sp dp nn).1 o2 = va_cpy (M.1 o1) (M.1 o2) sp.toNatClampNeg dp.toNatClampNeg nn.toNatClampNeg by funext b; simp [ab_cpi]]) (fun j y hj => ab_cell_cp hj)
  have hn := ab_nfw
  refine va_copyi hx hbb (hml.trans L.1.symm) hown (hw _ hl) (hw _ gw_acN) (hw _ gw_acS) (hw _ gw_sys) hK hP hD hS o1 o2 1 1 ((ab_W_get h1).trans (by rw [ab_cb])) ((ab_W_get h2).trans (by rw [ab_cb])) rfl rfl rfl b1 b2 b3 b4 b5 b6 (by show 1 ≤ d; omega) (by rw [ab_vcs]; show _ ≤ 48 * d; omega) hd (fun H1 locs1 hP hD hS => ?_)
  rw [hset] at hP hD
  exact kk p e s m args below meth c H1 locs1 A ad ls C ⟨hP, hD, hS, hA⟩ L
theorem ev_copyl {idx o1 o2 n1 n2 : Nat} {rf1 rf2 : List (Option Nat)} {sp dp nn : Int32} (hl : Cond.methodLink me.2.1 idx arraycopyName ∈ ab_G) (h1 : sh[o1]? = some (102, n1, rf1)) (h2 : sh[o2]? = some (102, n2, rf2)) (hb : ¬ sp < 0 ∧ ¬ dp < 0 ∧ ¬ nn < 0 ∧ sp.toNatClampNeg + nn.toNatClampNeg ≤ n1 ∧ dp.toNatClampNeg + nn.toNatClampNeg ≤ n2) (hd : decode me.2.2.1 pc = .ok (.invokestatic idx, 3)) (hdd : 1 < d) (hst : (st.map fun v => v.category).sum ≤ 8) (kk : ab_Ev l D ac d me n0 mc ms r k n sh (pc + 3) lv st (ab_cpl M o1 o2 sp dp nn)) : ab_Ev l D ac d me n0 mc ms r k n sh pc lv (.int nn :: .int dp :: .ref o2 :: .int sp :: .ref o1 :: st) M := by
  intro p e s m args below meth c H locs A ad ls C S L
  obtain ⟨hx, hbb, hrt, hml, hown, hts, -, -, hK, -⟩ := id C
  obtain ⟨hP, hD, hS, hA⟩ := S
  obtain ⟨b1, b2, b3, b4, b5⟩ := hb
  have hw : ∀ w, w ∈ ab_G → w.before args s = true := fun w h => hts w (List.mem_cons_of_mem _ h)
  have hset : (ab_W ac ad sh M).set o2 (ad o2, .inl (ac 102, n2, .inr (.inl (va_cpy (M.2 o1) (M.2 o2) sp.toNatClampNeg dp.toNatClampNeg nn.toNatClampNeg)))) = ab_W ac ad sh (ab_cpl M o1 o2 sp dp nn) := ab_W_set h2 (by rw [ab_cl, show (ab_cpl M o1 o2 sp dp nn).2 o2 = va_cpy (M.2 o1) (M.2 o2) sp.toNatClampNeg dp.toNatClampNeg nn.toNatClampNeg by funext b; simp [ab_cpl]]) (fun j y hj => ab_cell_cpl hj)
  have hn := ab_nfw
  refine va_copyl hx hbb (hml.trans L.1.symm) hown (hw _ hl) (hw _ gw_acN) (hw _ gw_acS) (hw _ gw_sys) hK hP hD hS o1 o2 2 2 ((ab_W_get h1).trans (by rw [ab_cl])) ((ab_W_get h2).trans (by rw [ab_cl])) rfl rfl rfl b1 b2 b3 b4 b5 (fun _ _ => rfl) (by show 1 ≤ d; omega) (by rw [ab_vcs]; show _ ≤ 48 * d; omega) hd (fun H1 locs1 hP hD hS => ?_)
  rw [hset] at hP hD
  exact kk p e s m args below meth c H1 locs1 A ad ls C ⟨hP, hD, hS, hA⟩ L
end ABlib
end
section
def ab_SH : ab_H := [
  (9, 9, [some 1, some 24, some 26, some 30, some 31, some 34, some 67, some 68, none]),
  (3, 11, [some 2, some 3, some 4, some 5, some 9, some 10, some 11, none, none, none, none]),
  (103, 12, [some 12, some 13, some 14, some 15, some 16, some 17, some 18, some 19, some 20, some 21, some 22, some 23]),
  (100, 16, []),
  (100, 16, []),
  (7, 4, [some 6, some 7, some 8, none]),
  (100, 8, []),
  (100, 8, []),
  (100, 8, []),
  (1, 4, [none, none, none, none]),
  (100, 144, []),
  (100, 12, []),
  (4, 9, [none, none, none, none, none, none, none, none, none]),
  (4, 9, [none, none, none, none, none, none, none, none, none]),
  (4, 9, [none, none, none, none, none, none, none, none, none]),
  (4, 9, [none, none, none, none, none, none, none, none, none]),
  (4, 9, [none, none, none, none, none, none, none, none, none]),
  (4, 9, [none, none, none, none, none, none, none, none, none]),
  (4, 9, [none, none, none, none, none, none, none, none, none]),
  (4, 9, [none, none, none, none, none, none, none, none, none]),
  (4, 9, [none, none, none, none, none, none, none, none, none]),
  (4, 9, [none, none, none, none, none, none, none, none, none]),
  (4, 9, [none, none, none, none, none, none, none, none, none]),
  (4, 9, [none, none, none, none, none, none, none, none, none]),
  (2, 2, [some 1, some 25]),
  (100, 30, []),
  (8, 6, [some 1, some 24, some 27, some 28, some 29, none]),
  (100, 16, []),
  (100, 16, []),
  (100, 16, []),
  (5, 2, [some 1, some 24]),
  (0, 5, [some 1, some 32, some 33, none, none]),
  (100, 384, []),
  (100, 6, []),
  (104, 8, [some 35, some 39, some 43, some 47, some 51, some 55, some 59, some 63]),
  (6, 5, [some 36, some 37, some 38, none, none]),
  (4, 9, [none, none, none, none, none, none, none, none, none]),
  (101, 60, []),
  (102, 60, []),
  (6, 5, [some 40, some 41, some 42, none, none]),
  (4, 9, [none, none, none, none, none, none, none, none, none]),
  (101, 60, []),
  (102, 60, []),
  (6, 5, [some 44, some 45, some 46, none, none]),
  (4, 9, [none, none, none, none, none, none, none, none, none]),
  (101, 60, []),
  (102, 60, []),
  (6, 5, [some 48, some 49, some 50, none, none]),
  (4, 9, [none, none, none, none, none, none, none, none, none]),
  (101, 60, []),
  (102, 60, []),
  (6, 5, [some 52, some 53, some 54, none, none]),
  (4, 9, [none, none, none, none, none, none, none, none, none]),
  (101, 60, []),
  (102, 60, []),
  (6, 5, [some 56, some 57, some 58, none, none]),
  (4, 9, [none, none, none, none, none, none, none, none, none]),
  (101, 60, []),
  (102, 60, []),
  (6, 5, [some 60, some 61, some 62, none, none]),
  (4, 9, [none, none, none, none, none, none, none, none, none]),
  (101, 60, []),
  (102, 60, []),
  (6, 5, [some 64, some 65, some 66, none, none]),
  (4, 9, [none, none, none, none, none, none, none, none, none]),
  (101, 60, []),
  (102, 60, []),
  (100, 16, []),
  (100, 16, []),
  (10, 39, [none, none, some 70, some 71, some 72, some 73, some 74, some 75, some 76, some 77, none, some 78, some 79, some 80, none, some 81, some 82, some 83, none, none, none, none, none, none, some 84, none, none, some 85, some 86, some 87, some 88, none, some 89, some 90, some 91, some 92, some 93, some 94, some 95]),
  (100, 12, []),
  (100, 12, []),
  (100, 12, []),
  (100, 12, []),
  (100, 12, []),
  (100, 12, []),
  (100, 12, []),
  (100, 12, []),
  (100, 16, []),
  (100, 16, []),
  (100, 16, []),
  (100, 8, []),
  (100, 8, []),
  (100, 8, []),
  (100, 12, []),
  (100, 16, []),
  (100, 6, []),
  (100, 384, []),
  (100, 12, []),
  (100, 16, []),
  (100, 8, []),
  (100, 8, []),
  (100, 8, []),
  (100, 8, []),
  (102, 480, []),
  (102, 60, []),
  (102, 1, [])]
theorem sh_0 : ab_SH[0]? = some (9, 9, [some 1, some 24, some 26, some 30, some 31, some 34, some 67, some 68, none]) := rfl
theorem sh_1 : ab_SH[1]? = some (3, 11, [some 2, some 3, some 4, some 5, some 9, some 10, some 11, none, none, none, none]) := rfl
theorem sh_2 : ab_SH[2]? = some (103, 12, [some 12, some 13, some 14, some 15, some 16, some 17, some 18, some 19, some 20, some 21, some 22, some 23]) := rfl
theorem sh_3 : ab_SH[3]? = some (100, 16, []) := rfl
theorem sh_4 : ab_SH[4]? = some (100, 16, []) := rfl
theorem sh_5 : ab_SH[5]? = some (7, 4, [some 6, some 7, some 8, none]) := rfl
theorem sh_6 : ab_SH[6]? = some (100, 8, []) := rfl
theorem sh_7 : ab_SH[7]? = some (100, 8, []) := rfl
theorem sh_8 : ab_SH[8]? = some (100, 8, []) := rfl
theorem sh_9 : ab_SH[9]? = some (1, 4, [none, none, none, none]) := rfl
theorem sh_10 : ab_SH[10]? = some (100, 144, []) := rfl
theorem sh_11 : ab_SH[11]? = some (100, 12, []) := rfl
theorem sh_12 : ab_SH[12]? = some (4, 9, [none, none, none, none, none, none, none, none, none]) := rfl
theorem sh_13 : ab_SH[13]? = some (4, 9, [none, none, none, none, none, none, none, none, none]) := rfl
theorem sh_14 : ab_SH[14]? = some (4, 9, [none, none, none, none, none, none, none, none, none]) := rfl
theorem sh_15 : ab_SH[15]? = some (4, 9, [none, none, none, none, none, none, none, none, none]) := rfl
theorem sh_16 : ab_SH[16]? = some (4, 9, [none, none, none, none, none, none, none, none, none]) := rfl
theorem sh_17 : ab_SH[17]? = some (4, 9, [none, none, none, none, none, none, none, none, none]) := rfl
theorem sh_18 : ab_SH[18]? = some (4, 9, [none, none, none, none, none, none, none, none, none]) := rfl
theorem sh_19 : ab_SH[19]? = some (4, 9, [none, none, none, none, none, none, none, none, none]) := rfl
theorem sh_20 : ab_SH[20]? = some (4, 9, [none, none, none, none, none, none, none, none, none]) := rfl
theorem sh_21 : ab_SH[21]? = some (4, 9, [none, none, none, none, none, none, none, none, none]) := rfl
theorem sh_22 : ab_SH[22]? = some (4, 9, [none, none, none, none, none, none, none, none, none]) := rfl
theorem sh_23 : ab_SH[23]? = some (4, 9, [none, none, none, none, none, none, none, none, none]) := rfl
theorem sh_24 : ab_SH[24]? = some (2, 2, [some 1, some 25]) := rfl
theorem sh_25 : ab_SH[25]? = some (100, 30, []) := rfl
theorem sh_26 : ab_SH[26]? = some (8, 6, [some 1, some 24, some 27, some 28, some 29, none]) := rfl
theorem sh_27 : ab_SH[27]? = some (100, 16, []) := rfl
theorem sh_28 : ab_SH[28]? = some (100, 16, []) := rfl
theorem sh_29 : ab_SH[29]? = some (100, 16, []) := rfl
theorem sh_30 : ab_SH[30]? = some (5, 2, [some 1, some 24]) := rfl
theorem sh_31 : ab_SH[31]? = some (0, 5, [some 1, some 32, some 33, none, none]) := rfl
theorem sh_32 : ab_SH[32]? = some (100, 384, []) := rfl
theorem sh_33 : ab_SH[33]? = some (100, 6, []) := rfl
theorem sh_34 : ab_SH[34]? = some (104, 8, [some 35, some 39, some 43, some 47, some 51, some 55, some 59, some 63]) := rfl
theorem sh_35 : ab_SH[35]? = some (6, 5, [some 36, some 37, some 38, none, none]) := rfl
theorem sh_36 : ab_SH[36]? = some (4, 9, [none, none, none, none, none, none, none, none, none]) := rfl
theorem sh_37 : ab_SH[37]? = some (101, 60, []) := rfl
theorem sh_38 : ab_SH[38]? = some (102, 60, []) := rfl
theorem sh_39 : ab_SH[39]? = some (6, 5, [some 40, some 41, some 42, none, none]) := rfl
theorem sh_40 : ab_SH[40]? = some (4, 9, [none, none, none, none, none, none, none, none, none]) := rfl
theorem sh_41 : ab_SH[41]? = some (101, 60, []) := rfl
theorem sh_42 : ab_SH[42]? = some (102, 60, []) := rfl
theorem sh_43 : ab_SH[43]? = some (6, 5, [some 44, some 45, some 46, none, none]) := rfl
theorem sh_44 : ab_SH[44]? = some (4, 9, [none, none, none, none, none, none, none, none, none]) := rfl
theorem sh_45 : ab_SH[45]? = some (101, 60, []) := rfl
theorem sh_46 : ab_SH[46]? = some (102, 60, []) := rfl
theorem sh_47 : ab_SH[47]? = some (6, 5, [some 48, some 49, some 50, none, none]) := rfl
theorem sh_48 : ab_SH[48]? = some (4, 9, [none, none, none, none, none, none, none, none, none]) := rfl
theorem sh_49 : ab_SH[49]? = some (101, 60, []) := rfl
theorem sh_50 : ab_SH[50]? = some (102, 60, []) := rfl
theorem sh_51 : ab_SH[51]? = some (6, 5, [some 52, some 53, some 54, none, none]) := rfl
theorem sh_52 : ab_SH[52]? = some (4, 9, [none, none, none, none, none, none, none, none, none]) := rfl
theorem sh_53 : ab_SH[53]? = some (101, 60, []) := rfl
theorem sh_54 : ab_SH[54]? = some (102, 60, []) := rfl
theorem sh_55 : ab_SH[55]? = some (6, 5, [some 56, some 57, some 58, none, none]) := rfl
theorem sh_56 : ab_SH[56]? = some (4, 9, [none, none, none, none, none, none, none, none, none]) := rfl
theorem sh_57 : ab_SH[57]? = some (101, 60, []) := rfl
theorem sh_58 : ab_SH[58]? = some (102, 60, []) := rfl
theorem sh_59 : ab_SH[59]? = some (6, 5, [some 60, some 61, some 62, none, none]) := rfl
theorem sh_60 : ab_SH[60]? = some (4, 9, [none, none, none, none, none, none, none, none, none]) := rfl
theorem sh_61 : ab_SH[61]? = some (101, 60, []) := rfl
theorem sh_62 : ab_SH[62]? = some (102, 60, []) := rfl
theorem sh_63 : ab_SH[63]? = some (6, 5, [some 64, some 65, some 66, none, none]) := rfl
theorem sh_64 : ab_SH[64]? = some (4, 9, [none, none, none, none, none, none, none, none, none]) := rfl
theorem sh_65 : ab_SH[65]? = some (101, 60, []) := rfl
theorem sh_66 : ab_SH[66]? = some (102, 60, []) := rfl
theorem sh_67 : ab_SH[67]? = some (100, 16, []) := rfl
theorem sh_68 : ab_SH[68]? = some (100, 16, []) := rfl
theorem sh_69 : ab_SH[69]? = some (10, 39, [none, none, some 70, some 71, some 72, some 73, some 74, some 75, some 76, some 77, none, some 78, some 79, some 80, none, some 81, some 82, some 83, none, none, none, none, none, none, some 84, none, none, some 85, some 86, some 87, some 88, none, some 89, some 90, some 91, some 92, some 93, some 94, some 95]) := rfl
theorem sh_70 : ab_SH[70]? = some (100, 12, []) := rfl
theorem sh_71 : ab_SH[71]? = some (100, 12, []) := rfl
theorem sh_72 : ab_SH[72]? = some (100, 12, []) := rfl
theorem sh_73 : ab_SH[73]? = some (100, 12, []) := rfl
theorem sh_74 : ab_SH[74]? = some (100, 12, []) := rfl
theorem sh_75 : ab_SH[75]? = some (100, 12, []) := rfl
theorem sh_76 : ab_SH[76]? = some (100, 12, []) := rfl
theorem sh_77 : ab_SH[77]? = some (100, 12, []) := rfl
theorem sh_78 : ab_SH[78]? = some (100, 16, []) := rfl
theorem sh_79 : ab_SH[79]? = some (100, 16, []) := rfl
theorem sh_80 : ab_SH[80]? = some (100, 16, []) := rfl
theorem sh_81 : ab_SH[81]? = some (100, 8, []) := rfl
theorem sh_82 : ab_SH[82]? = some (100, 8, []) := rfl
theorem sh_83 : ab_SH[83]? = some (100, 8, []) := rfl
theorem sh_84 : ab_SH[84]? = some (100, 12, []) := rfl
theorem sh_85 : ab_SH[85]? = some (100, 16, []) := rfl
theorem sh_86 : ab_SH[86]? = some (100, 6, []) := rfl
theorem sh_87 : ab_SH[87]? = some (100, 384, []) := rfl
theorem sh_88 : ab_SH[88]? = some (100, 12, []) := rfl
theorem sh_89 : ab_SH[89]? = some (100, 16, []) := rfl
theorem sh_90 : ab_SH[90]? = some (100, 8, []) := rfl
theorem sh_91 : ab_SH[91]? = some (100, 8, []) := rfl
theorem sh_92 : ab_SH[92]? = some (100, 8, []) := rfl
theorem sh_93 : ab_SH[93]? = some (100, 8, []) := rfl
theorem sh_94 : ab_SH[94]? = some (102, 480, []) := rfl
theorem sh_95 : ab_SH[95]? = some (102, 60, []) := rfl
theorem sh_96 : ab_SH[96]? = some (102, 1, []) := rfl
def ab_isMast (t : Nat) : Prop := ab_SH[t]? = some (4, 9, [none, none, none, none, none, none, none, none, none])
def ab_isPlan (t : Nat) : Prop := ab_SH[t]? = some (100, 16, [])
def ab_isB (t : Nat) : Prop := ab_SH[t]? = some (101, 60, [])
def ab_isJ (t : Nat) : Prop := ab_SH[t]? = some (102, 60, [])
def ab_isShelf (t : Nat) : Prop := ab_SH[t]? = some (6, 5, [some (t + 1), some (t + 2), some (t + 3), none, none]) ∧ ab_isMast (t + 1) ∧ ab_isB (t + 2) ∧ ab_isJ (t + 3)
theorem ab_mast_all : ∀ j, j < 12 → ab_SH[12 + j]? = some (4, 9, [none, none, none, none, none, none, none, none, none]) := by decide +kernel
theorem ab_rf_all : ∀ j, j < 12 → ((103, 12, [some 12, some 13, some 14, some 15, some 16, some 17, some 18, some 19, some 20, some 21, some 22, some 23]) : ab_S).2.2.getD j none = some (12 + j) := by decide +kernel
theorem ab_shelf_0 : ∀ j, j < 8 → ab_SH[35 + 4 * j]? = some (6, 5, [some (35 + 4 * j + 1), some (35 + 4 * j + 2), some (35 + 4 * j + 3), none, none]) := by decide +kernel
theorem ab_shelf_1 : ∀ j, j < 8 → ab_SH[35 + 4 * j + 1]? = some (4, 9, [none, none, none, none, none, none, none, none, none]) := by decide +kernel
theorem ab_shelf_2 : ∀ j, j < 8 → ab_SH[35 + 4 * j + 2]? = some (101, 60, []) := by decide +kernel
theorem ab_shelf_3 : ∀ j, j < 8 → ab_SH[35 + 4 * j + 3]? = some (102, 60, []) := by decide +kernel
theorem ab_rfs_all : ∀ j, j < 8 → ((104, 8, [some 35, some 39, some 43, some 47, some 51, some 55, some 59, some 63]) : ab_S).2.2.getD j none = some (35 + 4 * j) := by decide +kernel
theorem ab_in_lt {i : Int32} {n : Nat} (h : vp_in i n) : i.toNatClampNeg < n := Nat.not_le.mp fun q => h (Or.inr q)
theorem sh_mast {i : Int32} (h : vp_in i 12) : ab_isMast (12 + i.toNatClampNeg) := ab_mast_all _ (ab_in_lt h)
theorem rf_mast {i : Int32} (h : vp_in i 12) : ((103, 12, [some 12, some 13, some 14, some 15, some 16, some 17, some 18, some 19, some 20, some 21, some 22, some 23]) : ab_S).2.2.getD i.toNatClampNeg none = some (12 + i.toNatClampNeg) := ab_rf_all _ (ab_in_lt h)
theorem sh_shelf {i : Int32} (h : vp_in i 8) : ab_isShelf (35 + 4 * i.toNatClampNeg) := ⟨ab_shelf_0 _ (ab_in_lt h), ab_shelf_1 _ (ab_in_lt h), ab_shelf_2 _ (ab_in_lt h), ab_shelf_3 _ (ab_in_lt h)⟩
theorem rf_shelf {i : Int32} (h : vp_in i 8) : ((104, 8, [some 35, some 39, some 43, some 47, some 51, some 55, some 59, some 63]) : ab_S).2.2.getD i.toNatClampNeg none = some (35 + 4 * i.toNatClampNeg) := ab_rfs_all _ (ab_in_lt h)
end
section
abbrev me_J6_bitCount_0f7a4 : ab_Me := (yJ6_bitCount_0f7a4, RJ6, cJ6_bitCount_0f7a4, 1, some .int)
abbrev me_J7_fill_d0a16 : ab_Me := (yJ7_fill_d0a16, RJ7, cJ7_fill_d0a16, 5, none)
abbrev me_J7_fill_031fb : ab_Me := (yJ7_fill_031fb, RJ7, cJ7_fill_031fb, 4, none)
abbrev me_X4_goTo : ab_Me := (yX4_goTo, RX4, cX4_goTo, 2, none)
abbrev me_X4_begin : ab_Me := (yX4_begin, RX4, cX4_begin, 7, none)
abbrev me_X4_takeAll : ab_Me := (yX4_takeAll, RX4, cX4_takeAll, 2, none)
abbrev me_X4_trait : ab_Me := (yX4_trait, RX4, cX4_trait, 2, some .int)
abbrev me_X4_heaviness : ab_Me := (yX4_heaviness, RX4, cX4_heaviness, 2, some .int)
abbrev me_X7_add : ab_Me := (yX7_add, RX7, cX7_add, 4, none)
abbrev me_X7_greatest : ab_Me := (yX7_greatest, RX7, cX7_greatest, 5, some .int)
abbrev me_X1_tell : ab_Me := (yX1_tell, RX1, cX1_tell, 5, none)
abbrev me_X1_swap : ab_Me := (yX1_swap, RX1, cX1_swap, 2, none)
abbrev me_X1_allows : ab_Me := (yX1_allows, RX1, cX1_allows, 2, some .int)
abbrev me_X3_hasMast : ab_Me := (yX3_hasMast, RX3, cX3_hasMast, 2, some .boolean)
abbrev me_X3_hasWant : ab_Me := (yX3_hasWant, RX3, cX3_hasWant, 2, some .boolean)
abbrev me_X3_square : ab_Me := (yX3_square, RX3, cX3_square, 5, some .int)
abbrev me_X3_freshBar : ab_Me := (yX3_freshBar, RX3, cX3_freshBar, 3, some .int)
abbrev me_X3_measure : ab_Me := (yX3_measure, RX3, cX3_measure, 3, none)
abbrev me_X3_addMast : ab_Me := (yX3_addMast, RX3, cX3_addMast, 7, some .int)
abbrev me_X3_barOf : ab_Me := (yX3_barOf, RX3, cX3_barOf, 3, some .int)
abbrev me_X3_shift : ab_Me := (yX3_shift, RX3, cX3_shift, 5, some .int)
abbrev me_X3_barOfWants : ab_Me := (yX3_barOfWants, RX3, cX3_barOfWants, 3, some .int)
abbrev me_X3_areIn : ab_Me := (yX3_areIn, RX3, cX3_areIn, 4, some .boolean)
abbrev me_X3_kindOfWant : ab_Me := (yX3_kindOfWant, RX3, cX3_kindOfWant, 2, some .int)
abbrev me_X3_gapOf : ab_Me := (yX3_gapOf, RX3, cX3_gapOf, 3, some .int)
abbrev me_X3_allowed : ab_Me := (yX3_allowed, RX3, cX3_allowed, 4, some .int)
abbrev me_X3_barredTwos : ab_Me := (yX3_barredTwos, RX3, cX3_barredTwos, 4, some .int)
abbrev me_X3_threesIn : ab_Me := (yX3_threesIn, RX3, cX3_threesIn, 5, some .int)
abbrev me_X3_joinedTo : ab_Me := (yX3_joinedTo, RX3, cX3_joinedTo, 5, some .int)
abbrev me_X3_partAround : ab_Me := (yX3_partAround, RX3, cX3_partAround, 6, some .int)
abbrev me_X3_parts : ab_Me := (yX3_parts, RX3, cX3_parts, 4, some .int)
abbrev me_X3_partOf : ab_Me := (yX3_partOf, RX3, cX3_partOf, 6, some .int)
abbrev me_X9_within : ab_Me := (yX9_within, RX9, cX9_within, 3, some .boolean)
abbrev me_X9_isShelf : ab_Me := (yX9_isShelf, RX9, cX9_isShelf, 1, some .boolean)
abbrev me_X9_isPlace : ab_Me := (yX9_isPlace, RX9, cX9_isPlace, 1, some .boolean)
abbrev me_X2_served : ab_Me := (yX2_served, RX2, cX2_served, 4, some .int)
abbrev me_X2_lackAt : ab_Me := (yX2_lackAt, RX2, cX2_lackAt, 11, some .int)
abbrev me_X2_lackOf : ab_Me := (yX2_lackOf, RX2, cX2_lackOf, 4, some .int)
abbrev me_X2_lacks : ab_Me := (yX2_lacks, RX2, cX2_lacks, 5, some .int)
abbrev me_X2_sumTogether : ab_Me := (yX2_sumTogether, RX2, cX2_sumTogether, 5, some .boolean)
abbrev me_X2_sumsOfThree : ab_Me := (yX2_sumsOfThree, RX2, cX2_sumsOfThree, 12, some .int)
abbrev me_X2_sums : ab_Me := (yX2_sums, RX2, cX2_sums, 6, some .int)
abbrev me_X2_strayBits : ab_Me := (yX2_strayBits, RX2, cX2_strayBits, 5, some .int)
abbrev me_X2_totalHarm : ab_Me := (yX2_totalHarm, RX2, cX2_totalHarm, 2, some .int)
abbrev me_X2_lackingTwos : ab_Me := (yX2_lackingTwos, RX2, cX2_lackingTwos, 5, some .int)
abbrev me_X2_tooNear : ab_Me := (yX2_tooNear, RX2, cX2_tooNear, 9, some .long)
abbrev me_X2_sumMates : ab_Me := (yX2_sumMates, RX2, cX2_sumMates, 5, some .boolean)
abbrev me_X2_bitOf : ab_Me := (yX2_bitOf, RX2, cX2_bitOf, 1, some .long)
abbrev me_X2_sumTargets : ab_Me := (yX2_sumTargets, RX2, cX2_sumTargets, 10, some .long)
abbrev me_X2_freeChannels : ab_Me := (yX2_freeChannels, RX2, cX2_freeChannels, 8, some .int)
abbrev me_X2_isClean : ab_Me := (yX2_isClean, RX2, cX2_isClean, 3, some .boolean)
abbrev me_X2_addLacks : ab_Me := (yX2_addLacks, RX2, cX2_addLacks, 8, none)
abbrev me_X2_addSumAt : ab_Me := (yX2_addSumAt, RX2, cX2_addSumAt, 3, none)
abbrev me_X2_addSums : ab_Me := (yX2_addSums, RX2, cX2_addSums, 9, none)
abbrev me_X2_weigh : ab_Me := (yX2_weigh, RX2, cX2_weigh, 6, some (.array .int))
abbrev me_X8_below : ab_Me := (yX8_below, RX8, cX8_below, 1, some .int)
abbrev me_X8_open : ab_Me := (yX8_open, RX8, cX8_open, 3, none)
abbrev me_X8_takes : ab_Me := (yX8_takes, RX8, cX8_takes, 3, some .boolean)
abbrev me_X8_search : ab_Me := (yX8_search, RX8, cX8_search, 4, some .int)
abbrev me_X8_handOver : ab_Me := (yX8_handOver, RX8, cX8_handOver, 2, none)
abbrev me_X5_canChange : ab_Me := (yX5_canChange, RX5, cX5_canChange, 3, some .boolean)
abbrev me_X5_improve : ab_Me := (yX5_improve, RX5, cX5_improve, 10, some .boolean)
abbrev me_X5_leastFree : ab_Me := (yX5_leastFree, RX5, cX5_leastFree, 6, some .int)
abbrev me_X5_changeOne : ab_Me := (yX5_changeOne, RX5, cX5_changeOne, 4, some .boolean)
abbrev me_X5_changeBoth : ab_Me := (yX5_changeBoth, RX5, cX5_changeBoth, 8, some .boolean)
abbrev me_X5_changeTwo : ab_Me := (yX5_changeTwo, RX5, cX5_changeTwo, 4, some .boolean)
abbrev me_X0_barsAll : ab_Me := (yX0_barsAll, RX0, cX0_barsAll, 4, some .boolean)
abbrev me_X0_isCrowd : ab_Me := (yX0_isCrowd, RX0, cX0_isCrowd, 3, some .boolean)
abbrev me_X0_wantsOf : ab_Me := (yX0_wantsOf, RX0, cX0_wantsOf, 4, some .int)
abbrev me_X0_leastSum : ab_Me := (yX0_leastSum, RX0, cX0_leastSum, 6, some .int)
abbrev me_X0_sumUp : ab_Me := (yX0_sumUp, RX0, cX0_sumUp, 4, none)
abbrev me_X0_seat : ab_Me := (yX0_seat, RX0, cX0_seat, 6, some .int)
abbrev me_X0_boundOfSeated : ab_Me := (yX0_boundOfSeated, RX0, cX0_boundOfSeated, 5, some .int)
abbrev me_X0_boundOf : ab_Me := (yX0_boundOf, RX0, cX0_boundOf, 4, some .int)
abbrev me_X0_consider : ab_Me := (yX0_consider, RX0, cX0_consider, 3, none)
abbrev me_X0_grow : ab_Me := (yX0_grow, RX0, cX0_grow, 7, none)
abbrev me_X0_greatest : ab_Me := (yX0_greatest, RX0, cX0_greatest, 1, some .int)
abbrev me_X6_clear : ab_Me := (yX6_clear, RX6, cX6_clear, 1, none)
abbrev me_X6_takeMast : ab_Me := (yX6_takeMast, RX6, cX6_takeMast, 2, none)
abbrev me_X6_takeChannels : ab_Me := (yX6_takeChannels, RX6, cX6_takeChannels, 4, none)
abbrev me_X6_takeSquares : ab_Me := (yX6_takeSquares, RX6, cX6_takeSquares, 4, none)
abbrev me_X6_takeZeros : ab_Me := (yX6_takeZeros, RX6, cX6_takeZeros, 3, none)
abbrev me_X6_isRow : ab_Me := (yX6_isRow, RX6, cX6_isRow, 1, some .boolean)
abbrev me_X6_hasRange : ab_Me := (yX6_hasRange, RX6, cX6_hasRange, 3, some .boolean)
abbrev me_X6_at : ab_Me := (yX6_at, RX6, cX6_at, 2, some .long)
abbrev me_X6_copyTo : ab_Me := (yX6_copyTo, RX6, cX6_copyTo, 5, none)
abbrev me_X9_mast : ab_Me := (yX9_mast, RX9, cX9_mast, 5, some .int)
abbrev me_X9_move : ab_Me := (yX9_move, RX9, cX9_move, 3, some .int)
abbrev me_X9_list : ab_Me := (yX9_list, RX9, cX9_list, 3, some .int)
abbrev me_X9_gap : ab_Me := (yX9_gap, RX9, cX9_gap, 4, some .int)
abbrev me_X9_stay : ab_Me := (yX9_stay, RX9, cX9_stay, 3, some .int)
abbrev me_X9_row : ab_Me := (yX9_row, RX9, cX9_row, 4, some .int)
abbrev me_X9_own : ab_Me := (yX9_own, RX9, cX9_own, 3, some .int)
abbrev me_X9_border : ab_Me := (yX9_border, RX9, cX9_border, 5, some .int)
abbrev me_X9_turn : ab_Me := (yX9_turn, RX9, cX9_turn, 2, some .int)
abbrev me_X9_bar : ab_Me := (yX9_bar, RX9, cX9_bar, 3, some .int)
abbrev me_X9_may : ab_Me := (yX9_may, RX9, cX9_may, 3, some .int)
abbrev me_X9_set : ab_Me := (yX9_set, RX9, cX9_set, 4, some .int)
abbrev me_X9_channel : ab_Me := (yX9_channel, RX9, cX9_channel, 2, some .int)
abbrev me_X9_of : ab_Me := (yX9_of, RX9, cX9_of, 2, some .int)
abbrev me_X9_harm : ab_Me := (yX9_harm, RX9, cX9_harm, 1, some .int)
abbrev me_X9_kept : ab_Me := (yX9_kept, RX9, cX9_kept, 1, some .int)
abbrev me_X9_broken : ab_Me := (yX9_broken, RX9, cX9_broken, 2, some .int)
abbrev me_X9_pair : ab_Me := (yX9_pair, RX9, cX9_pair, 7, some .int)
abbrev me_X9_plan : ab_Me := (yX9_plan, RX9, cX9_plan, 3, some .int)
abbrev me_X9_tries : ab_Me := (yX9_tries, RX9, cX9_tries, 1, some .int)
abbrev me_X9_least : ab_Me := (yX9_least, RX9, cX9_least, 3, some .int)
abbrev me_X9_span : ab_Me := (yX9_span, RX9, cX9_span, 4, some .int)
abbrev me_X9_better : ab_Me := (yX9_better, RX9, cX9_better, 3, some .int)
abbrev me_X9_fewest : ab_Me := (yX9_fewest, RX9, cX9_fewest, 2, some .int)
abbrev me_X9_bound : ab_Me := (yX9_bound, RX9, cX9_bound, 2, some .int)
abbrev me_X9_crowd : ab_Me := (yX9_crowd, RX9, cX9_crowd, 1, some .int)
abbrev me_X9_part : ab_Me := (yX9_part, RX9, cX9_part, 2, some .int)
abbrev me_X9_image : ab_Me := (yX9_image, RX9, cX9_image, 1, some .int)
abbrev me_X9_restore : ab_Me := (yX9_restore, RX9, cX9_restore, 3, some .int)
abbrev me_X9_count : ab_Me := (yX9_count, RX9, cX9_count, 2, some .int)
abbrev me_X9_look : ab_Me := (yX9_look, RX9, cX9_look, 3, some .int)
abbrev me_X9_keep : ab_Me := (yX9_keep, RX9, cX9_keep, 5, some .int)
abbrev me_X9_make : ab_Me := (yX9_make, RX9, cX9_make, 4, some .int)
abbrev me_X9_copy : ab_Me := (yX9_copy, RX9, cX9_copy, 8, some .int)
abbrev me_X9_refusalOfMast : ab_Me := (yX9_refusalOfMast, RX9, cX9_refusalOfMast, 2, some .int)
abbrev me_X9_weight : ab_Me := (yX9_weight, RX9, cX9_weight, 3, some .int)
abbrev me_X10_thrown : ab_Me := (yX10_thrown, RX10, cX10_thrown, 1, some .int)
abbrev me_X10_isIn : ab_Me := (yX10_isIn, RX10, cX10_isIn, 6, some .boolean)
abbrev me_X10_isMast : ab_Me := (yX10_isMast, RX10, cX10_isMast, 2, some .boolean)
abbrev me_X10_isWant : ab_Me := (yX10_isWant, RX10, cX10_isWant, 2, some .boolean)
abbrev me_X10_isPlace : ab_Me := (yX10_isPlace, RX10, cX10_isPlace, 1, some .boolean)
abbrev me_X10_isSet : ab_Me := (yX10_isSet, RX10, cX10_isSet, 1, some .boolean)
abbrev me_X10_mast : ab_Me := (yX10_mast, RX10, cX10_mast, 6, some .int)
abbrev me_X10_square : ab_Me := (yX10_square, RX10, cX10_square, 3, some .int)
abbrev me_X10_barOf : ab_Me := (yX10_barOf, RX10, cX10_barOf, 6, some .int)
abbrev me_X10_move : ab_Me := (yX10_move, RX10, cX10_move, 5, some .int)
abbrev me_X10_countBits : ab_Me := (yX10_countBits, RX10, cX10_countBits, 4, some .int)
abbrev me_X10_list : ab_Me := (yX10_list, RX10, cX10_list, 3, some .int)
abbrev me_X10_gap : ab_Me := (yX10_gap, RX10, cX10_gap, 4, some .int)
abbrev me_X10_stay : ab_Me := (yX10_stay, RX10, cX10_stay, 3, some .int)
abbrev me_X10_row : ab_Me := (yX10_row, RX10, cX10_row, 4, some .int)
abbrev me_X10_own : ab_Me := (yX10_own, RX10, cX10_own, 3, some .int)
abbrev me_X10_border : ab_Me := (yX10_border, RX10, cX10_border, 5, some .int)
abbrev me_X10_isFree : ab_Me := (yX10_isFree, RX10, cX10_isFree, 4, some .boolean)
abbrev me_X10_isListed : ab_Me := (yX10_isListed, RX10, cX10_isListed, 3, some .boolean)
abbrev me_X10_mayHave : ab_Me := (yX10_mayHave, RX10, cX10_mayHave, 5, some .boolean)
abbrev me_X10_turn : ab_Me := (yX10_turn, RX10, cX10_turn, 5, some .int)
abbrev me_X10_bar : ab_Me := (yX10_bar, RX10, cX10_bar, 3, some .int)
abbrev me_X10_may : ab_Me := (yX10_may, RX10, cX10_may, 3, some .int)
abbrev me_X10_set : ab_Me := (yX10_set, RX10, cX10_set, 4, some .int)
abbrev me_X10_channel : ab_Me := (yX10_channel, RX10, cX10_channel, 2, some .int)
abbrev me_X10_of : ab_Me := (yX10_of, RX10, cX10_of, 2, some .int)
abbrev me_X10_channelOf : ab_Me := (yX10_channelOf, RX10, cX10_channelOf, 3, some .int)
abbrev me_X10_channelsOf : ab_Me := (yX10_channelsOf, RX10, cX10_channelsOf, 2, some .int)
abbrev me_X10_lack : ab_Me := (yX10_lack, RX10, cX10_lack, 9, some .int)
abbrev me_X10_areIn : ab_Me := (yX10_areIn, RX10, cX10_areIn, 4, some .boolean)
abbrev me_X10_middles : ab_Me := (yX10_middles, RX10, cX10_middles, 8, some .int)
abbrev me_X10_brokenOf : ab_Me := (yX10_brokenOf, RX10, cX10_brokenOf, 7, some .int)
abbrev me_X10_harmNow : ab_Me := (yX10_harmNow, RX10, cX10_harmNow, 1, some .int)
abbrev me_X10_harm : ab_Me := (yX10_harm, RX10, cX10_harm, 1, some .int)
abbrev me_X10_kept : ab_Me := (yX10_kept, RX10, cX10_kept, 3, some .int)
abbrev me_X10_broken : ab_Me := (yX10_broken, RX10, cX10_broken, 2, some .int)
abbrev me_X10_pair : ab_Me := (yX10_pair, RX10, cX10_pair, 7, some .int)
abbrev me_X10_isFine : ab_Me := (yX10_isFine, RX10, cX10_isFine, 4, some .boolean)
abbrev me_X10_isTaken : ab_Me := (yX10_isTaken, RX10, cX10_isTaken, 6, some .boolean)
abbrev me_X10_tryBelow : ab_Me := (yX10_tryBelow, RX10, cX10_tryBelow, 5, some .boolean)
abbrev me_X10_keepPlan : ab_Me := (yX10_keepPlan, RX10, cX10_keepPlan, 2, none)
abbrev me_X10_givePlan : ab_Me := (yX10_givePlan, RX10, cX10_givePlan, 2, none)
abbrev me_X10_plan : ab_Me := (yX10_plan, RX10, cX10_plan, 2, some .int)
abbrev me_X10_tries : ab_Me := (yX10_tries, RX10, cX10_tries, 1, some .int)
abbrev me_X10_least : ab_Me := (yX10_least, RX10, cX10_least, 2, some .int)
abbrev me_X10_span : ab_Me := (yX10_span, RX10, cX10_span, 6, some .int)
abbrev me_X10_isBettered : ab_Me := (yX10_isBettered, RX10, cX10_isBettered, 9, some .boolean)
abbrev me_X10_better : ab_Me := (yX10_better, RX10, cX10_better, 3, some .int)
abbrev me_X10_isHealedBy : ab_Me := (yX10_isHealedBy, RX10, cX10_isHealedBy, 4, some .boolean)
abbrev me_X10_isHealedByTwo : ab_Me := (yX10_isHealedByTwo, RX10, cX10_isHealedByTwo, 5, some .boolean)
abbrev me_X10_fewest : ab_Me := (yX10_fewest, RX10, cX10_fewest, 3, some .int)
abbrev me_X10_wantsIn : ab_Me := (yX10_wantsIn, RX10, cX10_wantsIn, 4, some .int)
abbrev me_X10_isCrowd : ab_Me := (yX10_isCrowd, RX10, cX10_isCrowd, 5, some .boolean)
abbrev me_X10_boundOf : ab_Me := (yX10_boundOf, RX10, cX10_boundOf, 9, some .int)
abbrev me_X10_bound : ab_Me := (yX10_bound, RX10, cX10_bound, 2, some .int)
abbrev me_X10_crowd : ab_Me := (yX10_crowd, RX10, cX10_crowd, 5, some .int)
abbrev me_X10_areNear : ab_Me := (yX10_areNear, RX10, cX10_areNear, 5, some .boolean)
abbrev me_X10_findParts : ab_Me := (yX10_findParts, RX10, cX10_findParts, 4, some .int)
abbrev me_X10_part : ab_Me := (yX10_part, RX10, cX10_part, 3, some .int)
abbrev me_X10_withChannel : ab_Me := (yX10_withChannel, RX10, cX10_withChannel, 3, some .int)
abbrev me_X10_image : ab_Me := (yX10_image, RX10, cX10_image, 2, some .int)
abbrev me_X10_restore : ab_Me := (yX10_restore, RX10, cX10_restore, 3, some .int)
abbrev me_X10_bars : ab_Me := (yX10_bars, RX10, cX10_bars, 4, some .int)
abbrev me_X10_threes : ab_Me := (yX10_threes, RX10, cX10_threes, 5, some .int)
abbrev me_X10_count : ab_Me := (yX10_count, RX10, cX10_count, 2, some .int)
abbrev me_X10_look : ab_Me := (yX10_look, RX10, cX10_look, 3, some .int)
abbrev me_X10_isShelf : ab_Me := (yX10_isShelf, RX10, cX10_isShelf, 1, some .boolean)
abbrev me_X10_weightOf : ab_Me := (yX10_weightOf, RX10, cX10_weightOf, 3, some .int)
abbrev me_X10_keep : ab_Me := (yX10_keep, RX10, cX10_keep, 6, some .int)
abbrev me_X10_make : ab_Me := (yX10_make, RX10, cX10_make, 5, some .int)
abbrev me_X10_element : ab_Me := (yX10_element, RX10, cX10_element, 4, some .long)
abbrev me_X10_hasPlaces : ab_Me := (yX10_hasPlaces, RX10, cX10_hasPlaces, 4, some .boolean)
abbrev me_X10_copy : ab_Me := (yX10_copy, RX10, cX10_copy, 7, some .int)
abbrev me_X10_denied : ab_Me := (yX10_denied, RX10, cX10_denied, 2, some .int)
abbrev me_X10_weight : ab_Me := (yX10_weight, RX10, cX10_weight, 3, some .int)
abbrev me_X10_toss : ab_Me := (yX10_toss, RX10, cX10_toss, 3, some .int)
theorem gi_X0 : ∀ w ∈ u_ws RX0 TX0 5, w ∈ ab_G := by
  intro w hw
  have h := goodIn_r (big := lw_tbl) (u_ws RX0 TX0 5) [302, 304, 306, 308, 310] (by decide +kernel) (by decide +kernel) w hw
  exact List.mem_filter.mpr ⟨h.1, List.all_eq_true.mp (show (u_ws RX0 TX0 5).all goodWord = true by decide +kernel) w hw⟩
theorem gi_X1 : ∀ w ∈ u_ws RX1 TX1 4, w ∈ ab_G := by
  intro w hw
  have h := goodIn_r (big := lw_tbl) (u_ws RX1 TX1 4) [129, 131, 133, 135] (by decide +kernel) (by decide +kernel) w hw
  exact List.mem_filter.mpr ⟨h.1, List.all_eq_true.mp (show (u_ws RX1 TX1 4).all goodWord = true by decide +kernel) w hw⟩
theorem gi_X2 : ∀ w ∈ u_ws RX2 TX2 2, w ∈ ab_G := by
  intro w hw
  have h := goodIn_r (big := lw_tbl) (u_ws RX2 TX2 2) [247, 249] (by decide +kernel) (by decide +kernel) w hw
  exact List.mem_filter.mpr ⟨h.1, List.all_eq_true.mp (show (u_ws RX2 TX2 2).all goodWord = true by decide +kernel) w hw⟩
theorem gi_X3 : ∀ w ∈ u_ws RX3 TX3 11, w ∈ ab_G := by
  intro w hw
  have h := goodIn_r (big := lw_tbl) (u_ws RX3 TX3 11) [216, 218, 220, 222, 224, 226, 228, 230, 232, 234, 236] (by decide +kernel) (by decide +kernel) w hw
  exact List.mem_filter.mpr ⟨h.1, List.all_eq_true.mp (show (u_ws RX3 TX3 11).all goodWord = true by decide +kernel) w hw⟩
theorem gi_X4 : ∀ w ∈ u_ws RX4 TX4 9, w ∈ ab_G := by
  intro w hw
  have h := goodIn_r (big := lw_tbl) (u_ws RX4 TX4 9) [165, 167, 169, 171, 173, 175, 177, 179, 181] (by decide +kernel) (by decide +kernel) w hw
  exact List.mem_filter.mpr ⟨h.1, List.all_eq_true.mp (show (u_ws RX4 TX4 9).all goodWord = true by decide +kernel) w hw⟩
theorem gi_X5 : ∀ w ∈ u_ws RX5 TX5 2, w ∈ ab_G := by
  intro w hw
  have h := goodIn_r (big := lw_tbl) (u_ws RX5 TX5 2) [286, 288] (by decide +kernel) (by decide +kernel) w hw
  exact List.mem_filter.mpr ⟨h.1, List.all_eq_true.mp (show (u_ws RX5 TX5 2).all goodWord = true by decide +kernel) w hw⟩
theorem gi_X6 : ∀ w ∈ u_ws RX6 TX6 5, w ∈ ab_G := by
  intro w hw
  have h := goodIn_r (big := lw_tbl) (u_ws RX6 TX6 5) [330, 332, 334, 336, 338] (by decide +kernel) (by decide +kernel) w hw
  exact List.mem_filter.mpr ⟨h.1, List.all_eq_true.mp (show (u_ws RX6 TX6 5).all goodWord = true by decide +kernel) w hw⟩
theorem gi_X7 : ∀ w ∈ u_ws RX7 TX7 4, w ∈ ab_G := by
  intro w hw
  have h := goodIn_r (big := lw_tbl) (u_ws RX7 TX7 4) [109, 111, 113, 115] (by decide +kernel) (by decide +kernel) w hw
  exact List.mem_filter.mpr ⟨h.1, List.all_eq_true.mp (show (u_ws RX7 TX7 4).all goodWord = true by decide +kernel) w hw⟩
theorem gi_X8 : ∀ w ∈ u_ws RX8 TX8 6, w ∈ ab_G := by
  intro w hw
  have h := goodIn_r (big := lw_tbl) (u_ws RX8 TX8 6) [265, 267, 269, 271, 273, 275] (by decide +kernel) (by decide +kernel) w hw
  exact List.mem_filter.mpr ⟨h.1, List.all_eq_true.mp (show (u_ws RX8 TX8 6).all goodWord = true by decide +kernel) w hw⟩
theorem gi_X9 : ∀ w ∈ u_ws RX9 TX9 9, w ∈ ab_G := by
  intro w hw
  have h := goodIn_r (big := lw_tbl) (u_ws RX9 TX9 9) [353, 355, 357, 359, 361, 363, 365, 367, 369] (by decide +kernel) (by decide +kernel) w hw
  exact List.mem_filter.mpr ⟨h.1, List.all_eq_true.mp (show (u_ws RX9 TX9 9).all goodWord = true by decide +kernel) w hw⟩
theorem gi_X10 : ∀ w ∈ u_ws RX10 TX10 39, w ∈ ab_G := by
  intro w hw
  have h := goodIn_r (big := lw_tbl) (u_ws RX10 TX10 39) [1070, 1072, 1074, 1076, 1078, 1080, 1082, 1084, 1086, 1088, 1090, 1092, 1094, 1096, 1098, 1100, 1102, 1104, 1106, 1108, 1110, 1112, 1114, 1116, 1118, 1120, 1122, 1124, 1126, 1128, 1130, 1132, 1134, 1136, 1138, 1140, 1142, 1144, 1146] (by decide +kernel) (by decide +kernel) w hw
  exact List.mem_filter.mpr ⟨h.1, List.all_eq_true.mp (show (u_ws RX10 TX10 39).all goodWord = true by decide +kernel) w hw⟩
theorem fl_RX9_12 : ab_FL RX9 12 9 0 (tyX9 0) true := ⟨RX9, TX9, 9, tyX9, rfl, by decide, gi_X9, tyX9_ok, nmX9, rfl, rfl, Or.inl (ab_G_in (i := 344) (by decide +kernel) (by decide +kernel))⟩
theorem fl_RX9_21 : ab_FL RX9 21 9 1 (tyX9 1) true := ⟨RX9, TX9, 9, tyX9, rfl, by decide, gi_X9, tyX9_ok, nmX9, rfl, rfl, Or.inl (ab_G_in (i := 345) (by decide +kernel) (by decide +kernel))⟩
theorem fl_RX9_30 : ab_FL RX9 30 9 2 (tyX9 2) true := ⟨RX9, TX9, 9, tyX9, rfl, by decide, gi_X9, tyX9_ok, nmX9, rfl, rfl, Or.inl (ab_G_in (i := 346) (by decide +kernel) (by decide +kernel))⟩
theorem fl_RX9_37 : ab_FL RX9 37 9 3 (tyX9 3) true := ⟨RX9, TX9, 9, tyX9, rfl, by decide, gi_X9, tyX9_ok, nmX9, rfl, rfl, Or.inl (ab_G_in (i := 347) (by decide +kernel) (by decide +kernel))⟩
theorem fl_RX9_44 : ab_FL RX9 44 9 4 (tyX9 4) true := ⟨RX9, TX9, 9, tyX9, rfl, by decide, gi_X9, tyX9_ok, nmX9, rfl, rfl, Or.inl (ab_G_in (i := 348) (by decide +kernel) (by decide +kernel))⟩
theorem fl_RX9_50 : ab_FL RX9 50 9 5 (tyX9 5) true := ⟨RX9, TX9, 9, tyX9, rfl, by decide, gi_X9, tyX9_ok, nmX9, rfl, rfl, Or.inl (ab_G_in (i := 349) (by decide +kernel) (by decide +kernel))⟩
theorem fl_RX9_55 : ab_FL RX9 55 9 6 (tyX9 6) true := ⟨RX9, TX9, 9, tyX9, rfl, by decide, gi_X9, tyX9_ok, nmX9, rfl, rfl, Or.inl (ab_G_in (i := 350) (by decide +kernel) (by decide +kernel))⟩
theorem fl_RX9_59 : ab_FL RX9 59 9 7 (tyX9 7) true := ⟨RX9, TX9, 9, tyX9, rfl, by decide, gi_X9, tyX9_ok, nmX9, rfl, rfl, Or.inl (ab_G_in (i := 351) (by decide +kernel) (by decide +kernel))⟩
theorem fl_RX9_68 : ab_FL RX9 68 9 8 (tyX9 8) false := ⟨RX9, TX9, 9, tyX9, rfl, by decide, gi_X9, tyX9_ok, nmX9, rfl, rfl, Or.inl (ab_G_in (i := 352) (by decide +kernel) (by decide +kernel))⟩
theorem fl_RX9_80 : ab_FL RX9 80 3 7 (tyX3 7) false := ⟨RX3, TX3, 11, tyX3, rfl, by decide, gi_X3, tyX3_ok, nmX3, rfl, rfl, Or.inr ⟨"WavePlan", ab_n_in (i := 205) (by decide +kernel) rfl⟩⟩
theorem fl_RX9_83 : ab_FL RX9 83 3 8 (tyX3 8) false := ⟨RX3, TX3, 11, tyX3, rfl, by decide, gi_X3, tyX3_ok, nmX3, rfl, rfl, Or.inr ⟨"WavePlan", ab_n_in (i := 209) (by decide +kernel) rfl⟩⟩
theorem fl_RX9_98 : ab_FL RX9 98 3 0 (tyX3 0) true := ⟨RX3, TX3, 11, tyX3, rfl, by decide, gi_X3, tyX3_ok, nmX3, rfl, rfl, Or.inr ⟨"WavePlan", ab_n_in (i := 188) (by decide +kernel) rfl⟩⟩
theorem fl_RX9_102 : ab_FL RX9 102 4 7 (tyX4 7) false := ⟨RX4, TX4, 9, tyX4, rfl, by decide, gi_X4, tyX4_ok, nmX4, rfl, rfl, Or.inr ⟨"WavePlan", ab_n_in (i := 160) (by decide +kernel) rfl⟩⟩
theorem fl_RX9_113 : ab_FL RX9 113 4 1 (tyX4 1) false := ⟨RX4, TX4, 9, tyX4, rfl, by decide, gi_X4, tyX4_ok, nmX4, rfl, rfl, Or.inr ⟨"WavePlan", ab_n_in (i := 147) (by decide +kernel) rfl⟩⟩
theorem fl_RX9_116 : ab_FL RX9 116 4 8 (tyX4 8) false := ⟨RX4, TX4, 9, tyX4, rfl, by decide, gi_X4, tyX4_ok, nmX4, rfl, rfl, Or.inr ⟨"WavePlan", ab_n_in (i := 163) (by decide +kernel) rfl⟩⟩
theorem fl_RX9_125 : ab_FL RX9 125 3 2 (tyX3 2) true := ⟨RX3, TX3, 11, tyX3, rfl, by decide, gi_X3, tyX3_ok, nmX3, rfl, rfl, Or.inr ⟨"WavePlan", ab_n_in (i := 196) (by decide +kernel) rfl⟩⟩
theorem fl_RX9_128 : ab_FL RX9 128 3 3 (tyX3 3) true := ⟨RX3, TX3, 11, tyX3, rfl, by decide, gi_X3, tyX3_ok, nmX3, rfl, rfl, Or.inr ⟨"WavePlan", ab_n_in (i := 198) (by decide +kernel) rfl⟩⟩
theorem fl_RX9_132 : ab_FL RX9 132 7 3 (tyX7 3) false := ⟨RX7, TX7, 4, tyX7, rfl, by decide, gi_X7, tyX7_ok, nmX7, rfl, rfl, Or.inr ⟨"WavePlan", ab_n_in (i := 108) (by decide +kernel) rfl⟩⟩
theorem fl_RX9_144 : ab_FL RX9 144 3 9 (tyX3 9) false := ⟨RX3, TX3, 11, tyX3, rfl, by decide, gi_X3, tyX3_ok, nmX3, rfl, rfl, Or.inr ⟨"WavePlan", ab_n_in (i := 213) (by decide +kernel) rfl⟩⟩
theorem fl_RX9_147 : ab_FL RX9 147 3 10 (tyX3 10) false := ⟨RX3, TX3, 11, tyX3, rfl, by decide, gi_X3, tyX3_ok, nmX3, rfl, rfl, Or.inr ⟨"WavePlan", ab_n_in (i := 215) (by decide +kernel) rfl⟩⟩
theorem fl_RX9_150 : ab_FL RX9 150 3 4 (tyX3 4) true := ⟨RX3, TX3, 11, tyX3, rfl, by decide, gi_X3, tyX3_ok, nmX3, rfl, rfl, Or.inr ⟨"WavePlan", ab_n_in (i := 200) (by decide +kernel) rfl⟩⟩
theorem fl_RX9_173 : ab_FL RX9 173 3 1 (tyX3 1) true := ⟨RX3, TX3, 11, tyX3, rfl, by decide, gi_X3, tyX3_ok, nmX3, rfl, rfl, Or.inr ⟨"WavePlan", ab_n_in (i := 193) (by decide +kernel) rfl⟩⟩
theorem fl_RX9_195 : ab_FL RX9 195 8 5 (tyX8 5) false := ⟨RX8, TX8, 6, tyX8, rfl, by decide, gi_X8, tyX8_ok, nmX8, rfl, rfl, Or.inr ⟨"WavePlan", ab_n_in (i := 264) (by decide +kernel) rfl⟩⟩
theorem fl_RX9_308 : ab_FL RX9 308 6 3 (tyX6 3) false := ⟨RX6, TX6, 5, tyX6, rfl, by decide, gi_X6, tyX6_ok, nmX6, rfl, rfl, Or.inr ⟨"WavePlan", ab_n_in (i := 327) (by decide +kernel) rfl⟩⟩
theorem fl_RX9_322 : ab_FL RX9 322 6 0 (tyX6 0) true := ⟨RX6, TX6, 5, tyX6, rfl, by decide, gi_X6, tyX6_ok, nmX6, rfl, rfl, Or.inr ⟨"WavePlan", ab_n_in (i := 323) (by decide +kernel) rfl⟩⟩
theorem fl_RX0_9 : ab_FL RX0 9 0 1 (tyX0 1) true := ⟨RX0, TX0, 5, tyX0, rfl, by decide, gi_X0, tyX0_ok, nmX0, rfl, rfl, Or.inl (ab_G_in (i := 298) (by decide +kernel) (by decide +kernel))⟩
theorem fl_RX0_15 : ab_FL RX0 15 0 2 (tyX0 2) true := ⟨RX0, TX0, 5, tyX0, rfl, by decide, gi_X0, tyX0_ok, nmX0, rfl, rfl, Or.inl (ab_G_in (i := 299) (by decide +kernel) (by decide +kernel))⟩
theorem fl_RX0_18 : ab_FL RX0 18 0 0 (tyX0 0) true := ⟨RX0, TX0, 5, tyX0, rfl, by decide, gi_X0, tyX0_ok, nmX0, rfl, rfl, Or.inl (ab_G_in (i := 297) (by decide +kernel) (by decide +kernel))⟩
theorem fl_RX0_22 : ab_FL RX0 22 3 7 (tyX3 7) false := ⟨RX3, TX3, 11, tyX3, rfl, by decide, gi_X3, tyX3_ok, nmX3, rfl, rfl, Or.inr ⟨"WavePlan", ab_n_in (i := 204) (by decide +kernel) rfl⟩⟩
theorem fl_RX0_36 : ab_FL RX0 36 3 0 (tyX3 0) true := ⟨RX3, TX3, 11, tyX3, rfl, by decide, gi_X3, tyX3_ok, nmX3, rfl, rfl, Or.inr ⟨"WavePlan", ab_n_in (i := 189) (by decide +kernel) rfl⟩⟩
theorem fl_RX0_40 : ab_FL RX0 40 4 5 (tyX4 5) false := ⟨RX4, TX4, 9, tyX4, rfl, by decide, gi_X4, tyX4_ok, nmX4, rfl, rfl, Or.inr ⟨"WavePlan", ab_n_in (i := 157) (by decide +kernel) rfl⟩⟩
theorem fl_RX0_52 : ab_FL RX0 52 0 3 (tyX0 3) false := ⟨RX0, TX0, 5, tyX0, rfl, by decide, gi_X0, tyX0_ok, nmX0, rfl, rfl, Or.inl (ab_G_in (i := 300) (by decide +kernel) (by decide +kernel))⟩
theorem fl_RX0_55 : ab_FL RX0 55 0 4 (tyX0 4) false := ⟨RX0, TX0, 5, tyX0, rfl, by decide, gi_X0, tyX0_ok, nmX0, rfl, rfl, Or.inl (ab_G_in (i := 301) (by decide +kernel) (by decide +kernel))⟩
theorem fl_RX1_9 : ab_FL RX1 9 1 0 (tyX1 0) false := ⟨RX1, TX1, 4, tyX1, rfl, by decide, gi_X1, tyX1_ok, nmX1, rfl, rfl, Or.inl (ab_G_in (i := 125) (by decide +kernel) (by decide +kernel))⟩
theorem fl_RX1_15 : ab_FL RX1 15 1 1 (tyX1 1) false := ⟨RX1, TX1, 4, tyX1, rfl, by decide, gi_X1, tyX1_ok, nmX1, rfl, rfl, Or.inl (ab_G_in (i := 126) (by decide +kernel) (by decide +kernel))⟩
theorem fl_RX1_18 : ab_FL RX1 18 1 2 (tyX1 2) false := ⟨RX1, TX1, 4, tyX1, rfl, by decide, gi_X1, tyX1_ok, nmX1, rfl, rfl, Or.inl (ab_G_in (i := 127) (by decide +kernel) (by decide +kernel))⟩
theorem fl_RX1_21 : ab_FL RX1 21 1 3 (tyX1 3) false := ⟨RX1, TX1, 4, tyX1, rfl, by decide, gi_X1, tyX1_ok, nmX1, rfl, rfl, Or.inl (ab_G_in (i := 128) (by decide +kernel) (by decide +kernel))⟩
theorem fl_RX1_24 : ab_FL RX1 24 4 1 (tyX4 1) false := ⟨RX4, TX4, 9, tyX4, rfl, by decide, gi_X4, tyX4_ok, nmX4, rfl, rfl, Or.inr ⟨"WavePlan", ab_n_in (i := 146) (by decide +kernel) rfl⟩⟩
theorem fl_RX1_29 : ab_FL RX1 29 4 2 (tyX4 2) false := ⟨RX4, TX4, 9, tyX4, rfl, by decide, gi_X4, tyX4_ok, nmX4, rfl, rfl, Or.inr ⟨"WavePlan", ab_n_in (i := 150) (by decide +kernel) rfl⟩⟩
theorem fl_RX2_9 : ab_FL RX2 9 2 1 (tyX2 1) true := ⟨RX2, TX2, 2, tyX2, rfl, by decide, gi_X2, tyX2_ok, nmX2, rfl, rfl, Or.inl (ab_G_in (i := 246) (by decide +kernel) (by decide +kernel))⟩
theorem fl_RX2_15 : ab_FL RX2 15 2 0 (tyX2 0) true := ⟨RX2, TX2, 2, tyX2, rfl, by decide, gi_X2, tyX2_ok, nmX2, rfl, rfl, Or.inl (ab_G_in (i := 245) (by decide +kernel) (by decide +kernel))⟩
theorem fl_RX2_19 : ab_FL RX2 19 3 8 (tyX3 8) false := ⟨RX3, TX3, 11, tyX3, rfl, by decide, gi_X3, tyX3_ok, nmX3, rfl, rfl, Or.inr ⟨"WavePlan", ab_n_in (i := 208) (by decide +kernel) rfl⟩⟩
theorem fl_RX2_72 : ab_FL RX2 72 3 1 (tyX3 1) true := ⟨RX3, TX3, 11, tyX3, rfl, by decide, gi_X3, tyX3_ok, nmX3, rfl, rfl, Or.inr ⟨"WavePlan", ab_n_in (i := 192) (by decide +kernel) rfl⟩⟩
theorem fl_RX3_11 : ab_FL RX3 11 3 0 (tyX3 0) true := ⟨RX3, TX3, 11, tyX3, rfl, by decide, gi_X3, tyX3_ok, nmX3, rfl, rfl, Or.inl (ab_G_in (i := 187) (by decide +kernel) (by decide +kernel))⟩
theorem fl_RX3_17 : ab_FL RX3 17 3 1 (tyX3 1) true := ⟨RX3, TX3, 11, tyX3, rfl, by decide, gi_X3, tyX3_ok, nmX3, rfl, rfl, Or.inl (ab_G_in (i := 190) (by decide +kernel) (by decide +kernel))⟩
theorem fl_RX3_21 : ab_FL RX3 21 3 2 (tyX3 2) true := ⟨RX3, TX3, 11, tyX3, rfl, by decide, gi_X3, tyX3_ok, nmX3, rfl, rfl, Or.inl (ab_G_in (i := 194) (by decide +kernel) (by decide +kernel))⟩
theorem fl_RX3_27 : ab_FL RX3 27 3 3 (tyX3 3) true := ⟨RX3, TX3, 11, tyX3, rfl, by decide, gi_X3, tyX3_ok, nmX3, rfl, rfl, Or.inl (ab_G_in (i := 197) (by decide +kernel) (by decide +kernel))⟩
theorem fl_RX3_34 : ab_FL RX3 34 3 4 (tyX3 4) true := ⟨RX3, TX3, 11, tyX3, rfl, by decide, gi_X3, tyX3_ok, nmX3, rfl, rfl, Or.inl (ab_G_in (i := 199) (by decide +kernel) (by decide +kernel))⟩
theorem fl_RX3_38 : ab_FL RX3 38 3 5 (tyX3 5) true := ⟨RX3, TX3, 11, tyX3, rfl, by decide, gi_X3, tyX3_ok, nmX3, rfl, rfl, Or.inl (ab_G_in (i := 201) (by decide +kernel) (by decide +kernel))⟩
theorem fl_RX3_41 : ab_FL RX3 41 3 6 (tyX3 6) true := ⟨RX3, TX3, 11, tyX3, rfl, by decide, gi_X3, tyX3_ok, nmX3, rfl, rfl, Or.inl (ab_G_in (i := 202) (by decide +kernel) (by decide +kernel))⟩
theorem fl_RX3_44 : ab_FL RX3 44 3 9 (tyX3 9) false := ⟨RX3, TX3, 11, tyX3, rfl, by decide, gi_X3, tyX3_ok, nmX3, rfl, rfl, Or.inl (ab_G_in (i := 212) (by decide +kernel) (by decide +kernel))⟩
theorem fl_RX3_48 : ab_FL RX3 48 3 10 (tyX3 10) false := ⟨RX3, TX3, 11, tyX3, rfl, by decide, gi_X3, tyX3_ok, nmX3, rfl, rfl, Or.inl (ab_G_in (i := 214) (by decide +kernel) (by decide +kernel))⟩
theorem fl_RX3_58 : ab_FL RX3 58 3 7 (tyX3 7) false := ⟨RX3, TX3, 11, tyX3, rfl, by decide, gi_X3, tyX3_ok, nmX3, rfl, rfl, Or.inl (ab_G_in (i := 203) (by decide +kernel) (by decide +kernel))⟩
theorem fl_RX3_61 : ab_FL RX3 61 3 8 (tyX3 8) false := ⟨RX3, TX3, 11, tyX3, rfl, by decide, gi_X3, tyX3_ok, nmX3, rfl, rfl, Or.inl (ab_G_in (i := 210) (by decide +kernel) (by decide +kernel))⟩
theorem fl_RX3_85 : ab_FL RX3 85 4 4 (tyX4 4) false := ⟨RX4, TX4, 9, tyX4, rfl, by decide, gi_X4, tyX4_ok, nmX4, rfl, rfl, Or.inr ⟨"WavePlan", ab_n_in (i := 155) (by decide +kernel) rfl⟩⟩
theorem fl_RX3_91 : ab_FL RX3 91 4 2 (tyX4 2) false := ⟨RX4, TX4, 9, tyX4, rfl, by decide, gi_X4, tyX4_ok, nmX4, rfl, rfl, Or.inr ⟨"WavePlan", ab_n_in (i := 151) (by decide +kernel) rfl⟩⟩
theorem fl_RX3_94 : ab_FL RX3 94 4 3 (tyX4 3) false := ⟨RX4, TX4, 9, tyX4, rfl, by decide, gi_X4, tyX4_ok, nmX4, rfl, rfl, Or.inr ⟨"WavePlan", ab_n_in (i := 153) (by decide +kernel) rfl⟩⟩
theorem fl_RX3_97 : ab_FL RX3 97 4 1 (tyX4 1) false := ⟨RX4, TX4, 9, tyX4, rfl, by decide, gi_X4, tyX4_ok, nmX4, rfl, rfl, Or.inr ⟨"WavePlan", ab_n_in (i := 148) (by decide +kernel) rfl⟩⟩
theorem fl_RX3_100 : ab_FL RX3 100 4 8 (tyX4 8) false := ⟨RX4, TX4, 9, tyX4, rfl, by decide, gi_X4, tyX4_ok, nmX4, rfl, rfl, Or.inr ⟨"WavePlan", ab_n_in (i := 164) (by decide +kernel) rfl⟩⟩
theorem fl_RX3_103 : ab_FL RX3 103 4 7 (tyX4 7) false := ⟨RX4, TX4, 9, tyX4, rfl, by decide, gi_X4, tyX4_ok, nmX4, rfl, rfl, Or.inr ⟨"WavePlan", ab_n_in (i := 161) (by decide +kernel) rfl⟩⟩
theorem fl_RX4_9 : ab_FL RX4 9 4 0 (tyX4 0) false := ⟨RX4, TX4, 9, tyX4, rfl, by decide, gi_X4, tyX4_ok, nmX4, rfl, rfl, Or.inl (ab_G_in (i := 143) (by decide +kernel) (by decide +kernel))⟩
theorem fl_RX4_15 : ab_FL RX4 15 4 1 (tyX4 1) false := ⟨RX4, TX4, 9, tyX4, rfl, by decide, gi_X4, tyX4_ok, nmX4, rfl, rfl, Or.inl (ab_G_in (i := 145) (by decide +kernel) (by decide +kernel))⟩
theorem fl_RX4_22 : ab_FL RX4 22 4 4 (tyX4 4) false := ⟨RX4, TX4, 9, tyX4, rfl, by decide, gi_X4, tyX4_ok, nmX4, rfl, rfl, Or.inl (ab_G_in (i := 154) (by decide +kernel) (by decide +kernel))⟩
theorem fl_RX4_25 : ab_FL RX4 25 4 5 (tyX4 5) false := ⟨RX4, TX4, 9, tyX4, rfl, by decide, gi_X4, tyX4_ok, nmX4, rfl, rfl, Or.inl (ab_G_in (i := 156) (by decide +kernel) (by decide +kernel))⟩
theorem fl_RX4_28 : ab_FL RX4 28 4 6 (tyX4 6) false := ⟨RX4, TX4, 9, tyX4, rfl, by decide, gi_X4, tyX4_ok, nmX4, rfl, rfl, Or.inl (ab_G_in (i := 158) (by decide +kernel) (by decide +kernel))⟩
theorem fl_RX4_32 : ab_FL RX4 32 4 7 (tyX4 7) false := ⟨RX4, TX4, 9, tyX4, rfl, by decide, gi_X4, tyX4_ok, nmX4, rfl, rfl, Or.inl (ab_G_in (i := 159) (by decide +kernel) (by decide +kernel))⟩
theorem fl_RX4_35 : ab_FL RX4 35 4 8 (tyX4 8) false := ⟨RX4, TX4, 9, tyX4, rfl, by decide, gi_X4, tyX4_ok, nmX4, rfl, rfl, Or.inl (ab_G_in (i := 162) (by decide +kernel) (by decide +kernel))⟩
theorem fl_RX4_38 : ab_FL RX4 38 4 2 (tyX4 2) false := ⟨RX4, TX4, 9, tyX4, rfl, by decide, gi_X4, tyX4_ok, nmX4, rfl, rfl, Or.inl (ab_G_in (i := 149) (by decide +kernel) (by decide +kernel))⟩
theorem fl_RX4_41 : ab_FL RX4 41 4 3 (tyX4 3) false := ⟨RX4, TX4, 9, tyX4, rfl, by decide, gi_X4, tyX4_ok, nmX4, rfl, rfl, Or.inl (ab_G_in (i := 152) (by decide +kernel) (by decide +kernel))⟩
theorem fl_RX5_9 : ab_FL RX5 9 5 0 (tyX5 0) true := ⟨RX5, TX5, 2, tyX5, rfl, by decide, gi_X5, tyX5_ok, nmX5, rfl, rfl, Or.inl (ab_G_in (i := 284) (by decide +kernel) (by decide +kernel))⟩
theorem fl_RX5_15 : ab_FL RX5 15 5 1 (tyX5 1) true := ⟨RX5, TX5, 2, tyX5, rfl, by decide, gi_X5, tyX5_ok, nmX5, rfl, rfl, Or.inl (ab_G_in (i := 285) (by decide +kernel) (by decide +kernel))⟩
theorem fl_RX5_19 : ab_FL RX5 19 3 2 (tyX3 2) true := ⟨RX3, TX3, 11, tyX3, rfl, by decide, gi_X3, tyX3_ok, nmX3, rfl, rfl, Or.inr ⟨"WavePlan", ab_n_in (i := 195) (by decide +kernel) rfl⟩⟩
theorem fl_RX5_25 : ab_FL RX5 25 3 8 (tyX3 8) false := ⟨RX3, TX3, 11, tyX3, rfl, by decide, gi_X3, tyX3_ok, nmX3, rfl, rfl, Or.inr ⟨"WavePlan", ab_n_in (i := 211) (by decide +kernel) rfl⟩⟩
theorem fl_RX6_12 : ab_FL RX6 12 6 0 (tyX6 0) true := ⟨RX6, TX6, 5, tyX6, rfl, by decide, gi_X6, tyX6_ok, nmX6, rfl, rfl, Or.inl (ab_G_in (i := 322) (by decide +kernel) (by decide +kernel))⟩
theorem fl_RX6_18 : ab_FL RX6 18 6 1 (tyX6 1) true := ⟨RX6, TX6, 5, tyX6, rfl, by decide, gi_X6, tyX6_ok, nmX6, rfl, rfl, Or.inl (ab_G_in (i := 324) (by decide +kernel) (by decide +kernel))⟩
theorem fl_RX6_22 : ab_FL RX6 22 6 2 (tyX6 2) true := ⟨RX6, TX6, 5, tyX6, rfl, by decide, gi_X6, tyX6_ok, nmX6, rfl, rfl, Or.inl (ab_G_in (i := 325) (by decide +kernel) (by decide +kernel))⟩
theorem fl_RX6_26 : ab_FL RX6 26 6 3 (tyX6 3) false := ⟨RX6, TX6, 5, tyX6, rfl, by decide, gi_X6, tyX6_ok, nmX6, rfl, rfl, Or.inl (ab_G_in (i := 326) (by decide +kernel) (by decide +kernel))⟩
theorem fl_RX6_30 : ab_FL RX6 30 6 4 (tyX6 4) false := ⟨RX6, TX6, 5, tyX6, rfl, by decide, gi_X6, tyX6_ok, nmX6, rfl, rfl, Or.inl (ab_G_in (i := 328) (by decide +kernel) (by decide +kernel))⟩
theorem fl_RX6_37 : ab_FL RX6 37 3 7 (tyX3 7) false := ⟨RX3, TX3, 11, tyX3, rfl, by decide, gi_X3, tyX3_ok, nmX3, rfl, rfl, Or.inr ⟨"WavePlan", ab_n_in (i := 206) (by decide +kernel) rfl⟩⟩
theorem fl_RX7_9 : ab_FL RX7 9 7 0 (tyX7 0) true := ⟨RX7, TX7, 4, tyX7, rfl, by decide, gi_X7, tyX7_ok, nmX7, rfl, rfl, Or.inl (ab_G_in (i := 104) (by decide +kernel) (by decide +kernel))⟩
theorem fl_RX7_15 : ab_FL RX7 15 7 1 (tyX7 1) true := ⟨RX7, TX7, 4, tyX7, rfl, by decide, gi_X7, tyX7_ok, nmX7, rfl, rfl, Or.inl (ab_G_in (i := 105) (by decide +kernel) (by decide +kernel))⟩
theorem fl_RX7_18 : ab_FL RX7 18 7 2 (tyX7 2) true := ⟨RX7, TX7, 4, tyX7, rfl, by decide, gi_X7, tyX7_ok, nmX7, rfl, rfl, Or.inl (ab_G_in (i := 106) (by decide +kernel) (by decide +kernel))⟩
theorem fl_RX7_21 : ab_FL RX7 21 7 3 (tyX7 3) false := ⟨RX7, TX7, 4, tyX7, rfl, by decide, gi_X7, tyX7_ok, nmX7, rfl, rfl, Or.inl (ab_G_in (i := 107) (by decide +kernel) (by decide +kernel))⟩
theorem fl_RX8_9 : ab_FL RX8 9 8 2 (tyX8 2) true := ⟨RX8, TX8, 6, tyX8, rfl, by decide, gi_X8, tyX8_ok, nmX8, rfl, rfl, Or.inl (ab_G_in (i := 260) (by decide +kernel) (by decide +kernel))⟩
theorem fl_RX8_15 : ab_FL RX8 15 8 3 (tyX8 3) true := ⟨RX8, TX8, 6, tyX8, rfl, by decide, gi_X8, tyX8_ok, nmX8, rfl, rfl, Or.inl (ab_G_in (i := 261) (by decide +kernel) (by decide +kernel))⟩
theorem fl_RX8_18 : ab_FL RX8 18 8 4 (tyX8 4) true := ⟨RX8, TX8, 6, tyX8, rfl, by decide, gi_X8, tyX8_ok, nmX8, rfl, rfl, Or.inl (ab_G_in (i := 262) (by decide +kernel) (by decide +kernel))⟩
theorem fl_RX8_21 : ab_FL RX8 21 8 0 (tyX8 0) true := ⟨RX8, TX8, 6, tyX8, rfl, by decide, gi_X8, tyX8_ok, nmX8, rfl, rfl, Or.inl (ab_G_in (i := 258) (by decide +kernel) (by decide +kernel))⟩
theorem fl_RX8_25 : ab_FL RX8 25 8 1 (tyX8 1) true := ⟨RX8, TX8, 6, tyX8, rfl, by decide, gi_X8, tyX8_ok, nmX8, rfl, rfl, Or.inl (ab_G_in (i := 259) (by decide +kernel) (by decide +kernel))⟩
theorem fl_RX8_29 : ab_FL RX8 29 3 8 (tyX3 8) false := ⟨RX3, TX3, 11, tyX3, rfl, by decide, gi_X3, tyX3_ok, nmX3, rfl, rfl, Or.inr ⟨"WavePlan", ab_n_in (i := 207) (by decide +kernel) rfl⟩⟩
theorem fl_RX8_39 : ab_FL RX8 39 8 5 (tyX8 5) false := ⟨RX8, TX8, 6, tyX8, rfl, by decide, gi_X8, tyX8_ok, nmX8, rfl, rfl, Or.inl (ab_G_in (i := 263) (by decide +kernel) (by decide +kernel))⟩
theorem fl_RX8_65 : ab_FL RX8 65 3 1 (tyX3 1) true := ⟨RX3, TX3, 11, tyX3, rfl, by decide, gi_X3, tyX3_ok, nmX3, rfl, rfl, Or.inr ⟨"WavePlan", ab_n_in (i := 191) (by decide +kernel) rfl⟩⟩
theorem fl_RX10_7 : ab_FL RX10 7 10 2 (tyX10 2) true := ⟨RX10, TX10, 39, tyX10, rfl, by decide, gi_X10, tyX10_ok, nmX10, rfl, rfl, Or.inl (ab_G_in (i := 1033) (by decide +kernel) (by decide +kernel))⟩
theorem fl_RX10_13 : ab_FL RX10 13 10 3 (tyX10 3) true := ⟨RX10, TX10, 39, tyX10, rfl, by decide, gi_X10, tyX10_ok, nmX10, rfl, rfl, Or.inl (ab_G_in (i := 1034) (by decide +kernel) (by decide +kernel))⟩
theorem fl_RX10_16 : ab_FL RX10 16 10 4 (tyX10 4) true := ⟨RX10, TX10, 39, tyX10, rfl, by decide, gi_X10, tyX10_ok, nmX10, rfl, rfl, Or.inl (ab_G_in (i := 1035) (by decide +kernel) (by decide +kernel))⟩
theorem fl_RX10_19 : ab_FL RX10 19 10 5 (tyX10 5) true := ⟨RX10, TX10, 39, tyX10, rfl, by decide, gi_X10, tyX10_ok, nmX10, rfl, rfl, Or.inl (ab_G_in (i := 1036) (by decide +kernel) (by decide +kernel))⟩
theorem fl_RX10_22 : ab_FL RX10 22 10 6 (tyX10 6) true := ⟨RX10, TX10, 39, tyX10, rfl, by decide, gi_X10, tyX10_ok, nmX10, rfl, rfl, Or.inl (ab_G_in (i := 1037) (by decide +kernel) (by decide +kernel))⟩
theorem fl_RX10_25 : ab_FL RX10 25 10 7 (tyX10 7) true := ⟨RX10, TX10, 39, tyX10, rfl, by decide, gi_X10, tyX10_ok, nmX10, rfl, rfl, Or.inl (ab_G_in (i := 1038) (by decide +kernel) (by decide +kernel))⟩
theorem fl_RX10_28 : ab_FL RX10 28 10 8 (tyX10 8) true := ⟨RX10, TX10, 39, tyX10, rfl, by decide, gi_X10, tyX10_ok, nmX10, rfl, rfl, Or.inl (ab_G_in (i := 1039) (by decide +kernel) (by decide +kernel))⟩
theorem fl_RX10_31 : ab_FL RX10 31 10 9 (tyX10 9) true := ⟨RX10, TX10, 39, tyX10, rfl, by decide, gi_X10, tyX10_ok, nmX10, rfl, rfl, Or.inl (ab_G_in (i := 1040) (by decide +kernel) (by decide +kernel))⟩
theorem fl_RX10_34 : ab_FL RX10 34 10 11 (tyX10 11) true := ⟨RX10, TX10, 39, tyX10, rfl, by decide, gi_X10, tyX10_ok, nmX10, rfl, rfl, Or.inl (ab_G_in (i := 1042) (by decide +kernel) (by decide +kernel))⟩
theorem fl_RX10_37 : ab_FL RX10 37 10 12 (tyX10 12) true := ⟨RX10, TX10, 39, tyX10, rfl, by decide, gi_X10, tyX10_ok, nmX10, rfl, rfl, Or.inl (ab_G_in (i := 1043) (by decide +kernel) (by decide +kernel))⟩
theorem fl_RX10_40 : ab_FL RX10 40 10 13 (tyX10 13) true := ⟨RX10, TX10, 39, tyX10, rfl, by decide, gi_X10, tyX10_ok, nmX10, rfl, rfl, Or.inl (ab_G_in (i := 1044) (by decide +kernel) (by decide +kernel))⟩
theorem fl_RX10_43 : ab_FL RX10 43 10 15 (tyX10 15) true := ⟨RX10, TX10, 39, tyX10, rfl, by decide, gi_X10, tyX10_ok, nmX10, rfl, rfl, Or.inl (ab_G_in (i := 1046) (by decide +kernel) (by decide +kernel))⟩
theorem fl_RX10_46 : ab_FL RX10 46 10 16 (tyX10 16) true := ⟨RX10, TX10, 39, tyX10, rfl, by decide, gi_X10, tyX10_ok, nmX10, rfl, rfl, Or.inl (ab_G_in (i := 1047) (by decide +kernel) (by decide +kernel))⟩
theorem fl_RX10_49 : ab_FL RX10 49 10 17 (tyX10 17) true := ⟨RX10, TX10, 39, tyX10, rfl, by decide, gi_X10, tyX10_ok, nmX10, rfl, rfl, Or.inl (ab_G_in (i := 1048) (by decide +kernel) (by decide +kernel))⟩
theorem fl_RX10_52 : ab_FL RX10 52 10 18 (tyX10 18) false := ⟨RX10, TX10, 39, tyX10, rfl, by decide, gi_X10, tyX10_ok, nmX10, rfl, rfl, Or.inl (ab_G_in (i := 1049) (by decide +kernel) (by decide +kernel))⟩
theorem fl_RX10_56 : ab_FL RX10 56 10 19 (tyX10 19) false := ⟨RX10, TX10, 39, tyX10, rfl, by decide, gi_X10, tyX10_ok, nmX10, rfl, rfl, Or.inl (ab_G_in (i := 1050) (by decide +kernel) (by decide +kernel))⟩
theorem fl_RX10_59 : ab_FL RX10 59 10 20 (tyX10 20) false := ⟨RX10, TX10, 39, tyX10, rfl, by decide, gi_X10, tyX10_ok, nmX10, rfl, rfl, Or.inl (ab_G_in (i := 1051) (by decide +kernel) (by decide +kernel))⟩
theorem fl_RX10_62 : ab_FL RX10 62 10 24 (tyX10 24) true := ⟨RX10, TX10, 39, tyX10, rfl, by decide, gi_X10, tyX10_ok, nmX10, rfl, rfl, Or.inl (ab_G_in (i := 1055) (by decide +kernel) (by decide +kernel))⟩
theorem fl_RX10_65 : ab_FL RX10 65 10 27 (tyX10 27) true := ⟨RX10, TX10, 39, tyX10, rfl, by decide, gi_X10, tyX10_ok, nmX10, rfl, rfl, Or.inl (ab_G_in (i := 1058) (by decide +kernel) (by decide +kernel))⟩
theorem fl_RX10_68 : ab_FL RX10 68 10 28 (tyX10 28) true := ⟨RX10, TX10, 39, tyX10, rfl, by decide, gi_X10, tyX10_ok, nmX10, rfl, rfl, Or.inl (ab_G_in (i := 1059) (by decide +kernel) (by decide +kernel))⟩
theorem fl_RX10_71 : ab_FL RX10 71 10 29 (tyX10 29) true := ⟨RX10, TX10, 39, tyX10, rfl, by decide, gi_X10, tyX10_ok, nmX10, rfl, rfl, Or.inl (ab_G_in (i := 1060) (by decide +kernel) (by decide +kernel))⟩
theorem fl_RX10_74 : ab_FL RX10 74 10 30 (tyX10 30) true := ⟨RX10, TX10, 39, tyX10, rfl, by decide, gi_X10, tyX10_ok, nmX10, rfl, rfl, Or.inl (ab_G_in (i := 1061) (by decide +kernel) (by decide +kernel))⟩
theorem fl_RX10_77 : ab_FL RX10 77 10 31 (tyX10 31) false := ⟨RX10, TX10, 39, tyX10, rfl, by decide, gi_X10, tyX10_ok, nmX10, rfl, rfl, Or.inl (ab_G_in (i := 1062) (by decide +kernel) (by decide +kernel))⟩
theorem fl_RX10_80 : ab_FL RX10 80 10 32 (tyX10 32) true := ⟨RX10, TX10, 39, tyX10, rfl, by decide, gi_X10, tyX10_ok, nmX10, rfl, rfl, Or.inl (ab_G_in (i := 1063) (by decide +kernel) (by decide +kernel))⟩
theorem fl_RX10_83 : ab_FL RX10 83 10 33 (tyX10 33) true := ⟨RX10, TX10, 39, tyX10, rfl, by decide, gi_X10, tyX10_ok, nmX10, rfl, rfl, Or.inl (ab_G_in (i := 1064) (by decide +kernel) (by decide +kernel))⟩
theorem fl_RX10_86 : ab_FL RX10 86 10 34 (tyX10 34) true := ⟨RX10, TX10, 39, tyX10, rfl, by decide, gi_X10, tyX10_ok, nmX10, rfl, rfl, Or.inl (ab_G_in (i := 1065) (by decide +kernel) (by decide +kernel))⟩
theorem fl_RX10_89 : ab_FL RX10 89 10 35 (tyX10 35) true := ⟨RX10, TX10, 39, tyX10, rfl, by decide, gi_X10, tyX10_ok, nmX10, rfl, rfl, Or.inl (ab_G_in (i := 1066) (by decide +kernel) (by decide +kernel))⟩
theorem fl_RX10_92 : ab_FL RX10 92 10 36 (tyX10 36) true := ⟨RX10, TX10, 39, tyX10, rfl, by decide, gi_X10, tyX10_ok, nmX10, rfl, rfl, Or.inl (ab_G_in (i := 1067) (by decide +kernel) (by decide +kernel))⟩
theorem fl_RX10_95 : ab_FL RX10 95 10 37 (tyX10 37) true := ⟨RX10, TX10, 39, tyX10, rfl, by decide, gi_X10, tyX10_ok, nmX10, rfl, rfl, Or.inl (ab_G_in (i := 1068) (by decide +kernel) (by decide +kernel))⟩
theorem fl_RX10_99 : ab_FL RX10 99 10 38 (tyX10 38) true := ⟨RX10, TX10, 39, tyX10, rfl, by decide, gi_X10, tyX10_ok, nmX10, rfl, rfl, Or.inl (ab_G_in (i := 1069) (by decide +kernel) (by decide +kernel))⟩
theorem fl_RX10_102 : ab_FL RX10 102 10 0 (tyX10 0) false := ⟨RX10, TX10, 39, tyX10, rfl, by decide, gi_X10, tyX10_ok, nmX10, rfl, rfl, Or.inl (ab_G_in (i := 1031) (by decide +kernel) (by decide +kernel))⟩
theorem fl_RX10_105 : ab_FL RX10 105 10 1 (tyX10 1) false := ⟨RX10, TX10, 39, tyX10, rfl, by decide, gi_X10, tyX10_ok, nmX10, rfl, rfl, Or.inl (ab_G_in (i := 1032) (by decide +kernel) (by decide +kernel))⟩
theorem fl_RX10_108 : ab_FL RX10 108 10 10 (tyX10 10) false := ⟨RX10, TX10, 39, tyX10, rfl, by decide, gi_X10, tyX10_ok, nmX10, rfl, rfl, Or.inl (ab_G_in (i := 1041) (by decide +kernel) (by decide +kernel))⟩
theorem fl_RX10_125 : ab_FL RX10 125 10 14 (tyX10 14) false := ⟨RX10, TX10, 39, tyX10, rfl, by decide, gi_X10, tyX10_ok, nmX10, rfl, rfl, Or.inl (ab_G_in (i := 1045) (by decide +kernel) (by decide +kernel))⟩
theorem fl_RX10_160 : ab_FL RX10 160 10 21 (tyX10 21) false := ⟨RX10, TX10, 39, tyX10, rfl, by decide, gi_X10, tyX10_ok, nmX10, rfl, rfl, Or.inl (ab_G_in (i := 1052) (by decide +kernel) (by decide +kernel))⟩
theorem fl_RX10_163 : ab_FL RX10 163 10 22 (tyX10 22) false := ⟨RX10, TX10, 39, tyX10, rfl, by decide, gi_X10, tyX10_ok, nmX10, rfl, rfl, Or.inl (ab_G_in (i := 1053) (by decide +kernel) (by decide +kernel))⟩
theorem fl_RX10_166 : ab_FL RX10 166 10 23 (tyX10 23) false := ⟨RX10, TX10, 39, tyX10, rfl, by decide, gi_X10, tyX10_ok, nmX10, rfl, rfl, Or.inl (ab_G_in (i := 1054) (by decide +kernel) (by decide +kernel))⟩
theorem fl_RX10_208 : ab_FL RX10 208 10 26 (tyX10 26) false := ⟨RX10, TX10, 39, tyX10, rfl, by decide, gi_X10, tyX10_ok, nmX10, rfl, rfl, Or.inl (ab_G_in (i := 1057) (by decide +kernel) (by decide +kernel))⟩
theorem fl_RX10_212 : ab_FL RX10 212 10 25 (tyX10 25) false := ⟨RX10, TX10, 39, tyX10, rfl, by decide, gi_X10, tyX10_ok, nmX10, rfl, rfl, Or.inl (ab_G_in (i := 1056) (by decide +kernel) (by decide +kernel))⟩
theorem ml_RX9_72 : Cond.methodLink RX9 72 yX9_within ∈ ab_G := (ab_G_in (i := 376) (by decide +kernel) (by decide +kernel))
theorem ml_RX9_76 : Cond.methodLink RX9 76 yX9_isPlace ∈ ab_G := (ab_G_in (i := 379) (by decide +kernel) (by decide +kernel))
theorem ml_RX9_86 : Cond.methodLink RX9 86 yX3_addMast ∈ ab_G := (ab_G_in (i := 382) (by decide +kernel) (by decide +kernel))
theorem ml_RX9_90 : Cond.methodLink RX9 90 yX3_hasMast ∈ ab_G := (ab_G_in (i := 418) (by decide +kernel) (by decide +kernel))
theorem ml_RX9_93 : Cond.methodLink RX9 93 yX3_shift ∈ ab_G := (ab_G_in (i := 422) (by decide +kernel) (by decide +kernel))
theorem ml_RX9_107 : Cond.methodLink RX9 107 yJ6_bitCount_0f7a4 ∈ ab_G := (ab_G_in (i := 436) (by decide +kernel) (by decide +kernel))
theorem ml_RX9_119 : Cond.methodLink RX9 119 yX3_hasWant ∈ ab_G := (ab_G_in (i := 450) (by decide +kernel) (by decide +kernel))
theorem ml_RX9_122 : Cond.methodLink RX9 122 yX3_kindOfWant ∈ ab_G := (ab_G_in (i := 454) (by decide +kernel) (by decide +kernel))
theorem ml_RX9_137 : Cond.methodLink RX9 137 yX7_add ∈ ab_G := (ab_G_in (i := 462) (by decide +kernel) (by decide +kernel))
theorem ml_RX9_141 : Cond.methodLink RX9 141 yX3_measure ∈ ab_G := (ab_G_in (i := 466) (by decide +kernel) (by decide +kernel))
theorem ml_RX9_154 : Cond.methodLink RX9 154 yX1_tell ∈ ab_G := (ab_G_in (i := 475) (by decide +kernel) (by decide +kernel))
theorem ml_RX9_160 : Cond.methodLink RX9 160 yX2_strayBits ∈ ab_G := (ab_G_in (i := 483) (by decide +kernel) (by decide +kernel))
theorem ml_RX9_164 : Cond.methodLink RX9 164 yX1_swap ∈ ab_G := (ab_G_in (i := 503) (by decide +kernel) (by decide +kernel))
theorem ml_RX9_167 : Cond.methodLink RX9 167 yX3_barOf ∈ ab_G := (ab_G_in (i := 511) (by decide +kernel) (by decide +kernel))
theorem ml_RX9_170 : Cond.methodLink RX9 170 yX3_allowed ∈ ab_G := (ab_G_in (i := 516) (by decide +kernel) (by decide +kernel))
theorem ml_RX9_176 : Cond.methodLink RX9 176 yX2_totalHarm ∈ ab_G := (ab_G_in (i := 533) (by decide +kernel) (by decide +kernel))
theorem ml_RX9_179 : Cond.methodLink RX9 179 yX2_served ∈ ab_G := (ab_G_in (i := 578) (by decide +kernel) (by decide +kernel))
theorem ml_RX9_182 : Cond.methodLink RX9 182 yX2_lackingTwos ∈ ab_G := (ab_G_in (i := 586) (by decide +kernel) (by decide +kernel))
theorem ml_RX9_185 : Cond.methodLink RX9 185 yX2_lacks ∈ ab_G := (ab_G_in (i := 590) (by decide +kernel) (by decide +kernel))
theorem ml_RX9_188 : Cond.methodLink RX9 188 yX2_sums ∈ ab_G := (ab_G_in (i := 591) (by decide +kernel) (by decide +kernel))
theorem ml_RX9_191 : Cond.methodLink RX9 191 yX2_lackOf ∈ ab_G := (ab_G_in (i := 596) (by decide +kernel) (by decide +kernel))
theorem ml_RX9_198 : Cond.methodLink RX9 198 yX8_search ∈ ab_G := (ab_G_in (i := 601) (by decide +kernel) (by decide +kernel))
theorem ml_RX9_201 : Cond.methodLink RX9 201 yX8_handOver ∈ ab_G := (ab_G_in (i := 638) (by decide +kernel) (by decide +kernel))
theorem ml_RX9_206 : Cond.methodLink RX9 206 Lib.Math.min.name ∈ ab_G := (ab_G_in (i := 658) (by decide +kernel) (by decide +kernel))
theorem ml_RX9_211 : Cond.methodLink RX9 211 yX3_gapOf ∈ ab_G := (ab_G_in (i := 661) (by decide +kernel) (by decide +kernel))
theorem ml_RX9_214 : Cond.methodLink RX9 214 Lib.Math.max.name ∈ ab_G := (ab_G_in (i := 662) (by decide +kernel) (by decide +kernel))
theorem ml_RX9_217 : Cond.methodLink RX9 217 yX5_improve ∈ ab_G := (ab_G_in (i := 667) (by decide +kernel) (by decide +kernel))
theorem ml_RX9_221 : Cond.methodLink RX9 221 yX2_isClean ∈ ab_G := (ab_G_in (i := 698) (by decide +kernel) (by decide +kernel))
theorem ml_RX9_224 : Cond.methodLink RX9 224 yX5_changeOne ∈ ab_G := (ab_G_in (i := 703) (by decide +kernel) (by decide +kernel))
theorem ml_RX9_227 : Cond.methodLink RX9 227 yX5_changeTwo ∈ ab_G := (ab_G_in (i := 713) (by decide +kernel) (by decide +kernel))
theorem ml_RX9_230 : Cond.methodLink RX9 230 yX0_isCrowd ∈ ab_G := (ab_G_in (i := 725) (by decide +kernel) (by decide +kernel))
theorem ml_RX9_233 : Cond.methodLink RX9 233 yX0_wantsOf ∈ ab_G := (ab_G_in (i := 734) (by decide +kernel) (by decide +kernel))
theorem ml_RX9_236 : Cond.methodLink RX9 236 yX0_boundOf ∈ ab_G := (ab_G_in (i := 738) (by decide +kernel) (by decide +kernel))
theorem ml_RX9_239 : Cond.methodLink RX9 239 yX0_greatest ∈ ab_G := (ab_G_in (i := 764) (by decide +kernel) (by decide +kernel))
theorem ml_RX9_243 : Cond.methodLink RX9 243 yX3_partOf ∈ ab_G := (ab_G_in (i := 780) (by decide +kernel) (by decide +kernel))
theorem ml_RX9_246 : Cond.methodLink RX9 246 arraycopyName ∈ ab_G := (ab_G_in (i := 796) (by decide +kernel) (by decide +kernel))
theorem ml_RX9_252 : Cond.methodLink RX9 252 yX3_barredTwos ∈ ab_G := (ab_G_in (i := 805) (by decide +kernel) (by decide +kernel))
theorem ml_RX9_255 : Cond.methodLink RX9 255 yX3_threesIn ∈ ab_G := (ab_G_in (i := 809) (by decide +kernel) (by decide +kernel))
theorem ml_RX9_258 : Cond.methodLink RX9 258 yX3_parts ∈ ab_G := (ab_G_in (i := 814) (by decide +kernel) (by decide +kernel))
theorem ml_RX9_261 : Cond.methodLink RX9 261 yX4_trait ∈ ab_G := (ab_G_in (i := 822) (by decide +kernel) (by decide +kernel))
theorem ml_RX9_264 : Cond.methodLink RX9 264 yX9_isShelf ∈ ab_G := (ab_G_in (i := 831) (by decide +kernel) (by decide +kernel))
theorem ml_RX9_267 : Cond.methodLink RX9 267 yX6_clear ∈ ab_G := (ab_G_in (i := 834) (by decide +kernel) (by decide +kernel))
theorem ml_RX9_270 : Cond.methodLink RX9 270 yX6_takeMast ∈ ab_G := (ab_G_in (i := 838) (by decide +kernel) (by decide +kernel))
theorem ml_RX9_274 : Cond.methodLink RX9 274 yX6_takeChannels ∈ ab_G := (ab_G_in (i := 846) (by decide +kernel) (by decide +kernel))
theorem ml_RX9_277 : Cond.methodLink RX9 277 yX6_takeSquares ∈ ab_G := (ab_G_in (i := 850) (by decide +kernel) (by decide +kernel))
theorem ml_RX9_281 : Cond.methodLink RX9 281 yX6_takeZeros ∈ ab_G := (ab_G_in (i := 859) (by decide +kernel) (by decide +kernel))
theorem ml_RX9_292 : Cond.methodLink RX9 292 yX6_isRow ∈ ab_G := (ab_G_in (i := 873) (by decide +kernel) (by decide +kernel))
theorem ml_RX9_311 : Cond.methodLink RX9 311 yX6_hasRange ∈ ab_G := (ab_G_in (i := 877) (by decide +kernel) (by decide +kernel))
theorem ml_RX9_315 : Cond.methodLink RX9 315 yX6_copyTo ∈ ab_G := (ab_G_in (i := 881) (by decide +kernel) (by decide +kernel))
theorem ml_RX9_319 : Cond.methodLink RX9 319 yX9_refusalOfMast ∈ ab_G := (ab_G_in (i := 890) (by decide +kernel) (by decide +kernel))
theorem ml_RX9_326 : Cond.methodLink RX9 326 yX4_heaviness ∈ ab_G := (ab_G_in (i := 894) (by decide +kernel) (by decide +kernel))
theorem ml_RX0_28 : Cond.methodLink RX0 28 yX0_barsAll ∈ ab_G := (ab_G_in (i := 729) (by decide +kernel) (by decide +kernel))
theorem ml_RX0_32 : Cond.methodLink RX0 32 yX3_barOf ∈ ab_G := (ab_G_in (i := 733) (by decide +kernel) (by decide +kernel))
theorem ml_RX0_45 : Cond.methodLink RX0 45 yX0_seat ∈ ab_G := (ab_G_in (i := 742) (by decide +kernel) (by decide +kernel))
theorem ml_RX0_48 : Cond.methodLink RX0 48 yX0_boundOfSeated ∈ ab_G := (ab_G_in (i := 756) (by decide +kernel) (by decide +kernel))
theorem ml_RX0_58 : Cond.methodLink RX0 58 yX0_grow ∈ ab_G := (ab_G_in (i := 768) (by decide +kernel) (by decide +kernel))
theorem ml_RX0_62 : Cond.methodLink RX0 62 yX0_consider ∈ ab_G := (ab_G_in (i := 772) (by decide +kernel) (by decide +kernel))
theorem ml_RX0_66 : Cond.methodLink RX0 66 yX0_sumUp ∈ ab_G := (ab_G_in (i := 746) (by decide +kernel) (by decide +kernel))
theorem ml_RX0_69 : Cond.methodLink RX0 69 yX0_leastSum ∈ ab_G := (ab_G_in (i := 750) (by decide +kernel) (by decide +kernel))
theorem ml_RX0_74 : Cond.methodLink RX0 74 Lib.Math.min.name ∈ ab_G := (ab_G_in (i := 755) (by decide +kernel) (by decide +kernel))
theorem ml_RX1_32 : Cond.methodLink RX1 32 Lib.Math.abs.name ∈ ab_G := (ab_G_in (i := 499) (by decide +kernel) (by decide +kernel))
theorem ml_RX2_25 : Cond.methodLink RX2 25 yX2_lacks ∈ ab_G := (ab_G_in (i := 537) (by decide +kernel) (by decide +kernel))
theorem ml_RX2_29 : Cond.methodLink RX2 29 yX2_sums ∈ ab_G := (ab_G_in (i := 556) (by decide +kernel) (by decide +kernel))
theorem ml_RX2_32 : Cond.methodLink RX2 32 yX2_strayBits ∈ ab_G := (ab_G_in (i := 572) (by decide +kernel) (by decide +kernel))
theorem ml_RX2_35 : Cond.methodLink RX2 35 yJ6_bitCount_0f7a4 ∈ ab_G := (ab_G_in (i := 573) (by decide +kernel) (by decide +kernel))
theorem ml_RX2_41 : Cond.methodLink RX2 41 yX2_lackAt ∈ ab_G := (ab_G_in (i := 545) (by decide +kernel) (by decide +kernel))
theorem ml_RX2_45 : Cond.methodLink RX2 45 yX3_barOfWants ∈ ab_G := (ab_G_in (i := 549) (by decide +kernel) (by decide +kernel))
theorem ml_RX2_49 : Cond.methodLink RX2 49 yX3_gapOf ∈ ab_G := (ab_G_in (i := 553) (by decide +kernel) (by decide +kernel))
theorem ml_RX2_52 : Cond.methodLink RX2 52 Lib.Math.abs.name ∈ ab_G := (ab_G_in (i := 554) (by decide +kernel) (by decide +kernel))
theorem ml_RX2_57 : Cond.methodLink RX2 57 Lib.Math.max.name ∈ ab_G := (ab_G_in (i := 555) (by decide +kernel) (by decide +kernel))
theorem ml_RX2_60 : Cond.methodLink RX2 60 yX2_lackOf ∈ ab_G := (ab_G_in (i := 541) (by decide +kernel) (by decide +kernel))
theorem ml_RX2_64 : Cond.methodLink RX2 64 yX2_sumTogether ∈ ab_G := (ab_G_in (i := 560) (by decide +kernel) (by decide +kernel))
theorem ml_RX2_68 : Cond.methodLink RX2 68 yX2_sumsOfThree ∈ ab_G := (ab_G_in (i := 568) (by decide +kernel) (by decide +kernel))
theorem ml_RX2_75 : Cond.methodLink RX2 75 yX3_areIn ∈ ab_G := (ab_G_in (i := 564) (by decide +kernel) (by decide +kernel))
theorem ml_RX2_79 : Cond.methodLink RX2 79 yX3_allowed ∈ ab_G := (ab_G_in (i := 487) (by decide +kernel) (by decide +kernel))
theorem ml_RX2_82 : Cond.methodLink RX2 82 yX2_freeChannels ∈ ab_G := (ab_G_in (i := 702) (by decide +kernel) (by decide +kernel))
theorem ml_RX2_85 : Cond.methodLink RX2 85 yX2_tooNear ∈ ab_G := (ab_G_in (i := 613) (by decide +kernel) (by decide +kernel))
theorem ml_RX2_89 : Cond.methodLink RX2 89 yX2_sumMates ∈ ab_G := (ab_G_in (i := 617) (by decide +kernel) (by decide +kernel))
theorem ml_RX2_92 : Cond.methodLink RX2 92 yX2_sumTargets ∈ ab_G := (ab_G_in (i := 621) (by decide +kernel) (by decide +kernel))
theorem ml_RX2_97 : Cond.methodLink RX2 97 yX2_bitOf ∈ ab_G := (ab_G_in (i := 625) (by decide +kernel) (by decide +kernel))
theorem ml_RX2_101 : Cond.methodLink RX2 101 yX2_addLacks ∈ ab_G := (ab_G_in (i := 680) (by decide +kernel) (by decide +kernel))
theorem ml_RX2_105 : Cond.methodLink RX2 105 yX2_addSums ∈ ab_G := (ab_G_in (i := 685) (by decide +kernel) (by decide +kernel))
theorem ml_RX2_109 : Cond.methodLink RX2 109 Lib.Math.min.name ∈ ab_G := (ab_G_in (i := 684) (by decide +kernel) (by decide +kernel))
theorem ml_RX2_112 : Cond.methodLink RX2 112 yX2_addSumAt ∈ ab_G := (ab_G_in (i := 689) (by decide +kernel) (by decide +kernel))
theorem ml_RX2_116 : Cond.methodLinkNest RX2 116 yX9_within "WavePlan" ∈ ab_nest := ab_n_in (i := 693) (by decide +kernel) rfl
theorem ml_RX3_64 : Cond.methodLink RX3 64 yX4_begin ∈ ab_G := (ab_G_in (i := 386) (by decide +kernel) (by decide +kernel))
theorem ml_RX3_68 : Cond.methodLink RX3 68 yX3_measure ∈ ab_G := (ab_G_in (i := 395) (by decide +kernel) (by decide +kernel))
theorem ml_RX3_71 : Cond.methodLink RX3 71 yX4_goTo ∈ ab_G := (ab_G_in (i := 426) (by decide +kernel) (by decide +kernel))
theorem ml_RX3_75 : Cond.methodLink RX3 75 yX3_barOf ∈ ab_G := (ab_G_in (i := 427) (by decide +kernel) (by decide +kernel))
theorem ml_RX3_79 : Cond.methodLink RX3 79 yX3_freshBar ∈ ab_G := (ab_G_in (i := 399) (by decide +kernel) (by decide +kernel))
theorem ml_RX3_82 : Cond.methodLink RX3 82 yX3_square ∈ ab_G := (ab_G_in (i := 403) (by decide +kernel) (by decide +kernel))
theorem ml_RX3_88 : Cond.methodLink RX3 88 yX7_greatest ∈ ab_G := (ab_G_in (i := 407) (by decide +kernel) (by decide +kernel))
theorem ml_RX3_106 : Cond.methodLink RX3 106 yX3_gapOf ∈ ab_G := (ab_G_in (i := 491) (by decide +kernel) (by decide +kernel))
theorem ml_RX3_110 : Cond.methodLink RX3 110 yX1_allows ∈ ab_G := (ab_G_in (i := 495) (by decide +kernel) (by decide +kernel))
theorem ml_RX3_114 : Cond.methodLink RX3 114 yX3_areIn ∈ ab_G := (ab_G_in (i := 813) (by decide +kernel) (by decide +kernel))
theorem ml_RX3_118 : Cond.methodLink RX3 118 yX3_partAround ∈ ab_G := (ab_G_in (i := 784) (by decide +kernel) (by decide +kernel))
theorem ml_RX3_121 : Cond.methodLink RX3 121 yX3_joinedTo ∈ ab_G := (ab_G_in (i := 788) (by decide +kernel) (by decide +kernel))
theorem ml_RX4_18 : Cond.methodLink RX4 18 yX4_goTo ∈ ab_G := (ab_G_in (i := 390) (by decide +kernel) (by decide +kernel))
theorem ml_RX4_44 : Cond.methodLink RX4 44 yJ6_bitCount_0f7a4 ∈ ab_G := (ab_G_in (i := 826) (by decide +kernel) (by decide +kernel))
theorem ml_RX5_29 : Cond.methodLink RX5 29 yX5_canChange ∈ ab_G := (ab_G_in (i := 671) (by decide +kernel) (by decide +kernel))
theorem ml_RX5_33 : Cond.methodLink RX5 33 yX3_allowed ∈ ab_G := (ab_G_in (i := 675) (by decide +kernel) (by decide +kernel))
theorem ml_RX5_37 : Cond.methodLink RX5 37 yX2_weigh ∈ ab_G := (ab_G_in (i := 676) (by decide +kernel) (by decide +kernel))
theorem ml_RX5_43 : Cond.methodLink RX5 43 yX2_isClean ∈ ab_G := (ab_G_in (i := 707) (by decide +kernel) (by decide +kernel))
theorem ml_RX5_47 : Cond.methodLink RX5 47 yX5_leastFree ∈ ab_G := (ab_G_in (i := 708) (by decide +kernel) (by decide +kernel))
theorem ml_RX5_51 : Cond.methodLink RX5 51 yX5_changeBoth ∈ ab_G := (ab_G_in (i := 717) (by decide +kernel) (by decide +kernel))
theorem ml_RX5_55 : Cond.methodLink RX5 55 yX2_freeChannels ∈ ab_G := (ab_G_in (i := 712) (by decide +kernel) (by decide +kernel))
theorem ml_RX6_33 : Cond.methodLink RX6 33 yX4_takeAll ∈ ab_G := (ab_G_in (i := 842) (by decide +kernel) (by decide +kernel))
theorem ml_RX6_42 : Cond.methodLink RX6 42 yX3_square ∈ ab_G := (ab_G_in (i := 854) (by decide +kernel) (by decide +kernel))
theorem ml_RX6_46 : Cond.methodLink RX6 46 yJ7_fill_031fb ∈ ab_G := (ab_G_in (i := 863) (by decide +kernel) (by decide +kernel))
theorem ml_RX6_52 : Cond.methodLink RX6 52 yJ7_fill_d0a16 ∈ ab_G := (ab_G_in (i := 866) (by decide +kernel) (by decide +kernel))
theorem ml_RX6_55 : Cond.methodLink RX6 55 arraycopyName ∈ ab_G := (ab_G_in (i := 885) (by decide +kernel) (by decide +kernel))
theorem ml_RX7_25 : Cond.methodLink RX7 25 Lib.Math.max.name ∈ ab_G := (ab_G_in (i := 411) (by decide +kernel) (by decide +kernel))
theorem ml_RX8_35 : Cond.methodLink RX8 35 yX8_open ∈ ab_G := (ab_G_in (i := 605) (by decide +kernel) (by decide +kernel))
theorem ml_RX8_42 : Cond.methodLink RX8 42 yX8_takes ∈ ab_G := (ab_G_in (i := 634) (by decide +kernel) (by decide +kernel))
theorem ml_RX8_46 : Cond.methodLink RX8 46 arraycopyName ∈ ab_G := (ab_G_in (i := 642) (by decide +kernel) (by decide +kernel))
theorem ml_RX8_52 : Cond.methodLink RX8 52 yX2_freeChannels ∈ ab_G := (ab_G_in (i := 609) (by decide +kernel) (by decide +kernel))
theorem ml_RX8_58 : Cond.methodLink RX8 58 yX3_gapOf ∈ ab_G := (ab_G_in (i := 629) (by decide +kernel) (by decide +kernel))
theorem ml_RX8_62 : Cond.methodLink RX8 62 yX8_below ∈ ab_G := (ab_G_in (i := 630) (by decide +kernel) (by decide +kernel))
theorem ml_RX10_113 : Cond.methodLink RX10 113 yX10_isIn ∈ ab_G := (ab_G_in (i := 1158) (by decide +kernel) (by decide +kernel))
theorem ml_RX10_120 : Cond.methodLink RX10 120 yX10_isPlace ∈ ab_G := (ab_G_in (i := 1161) (by decide +kernel) (by decide +kernel))
theorem ml_RX10_128 : Cond.methodLink RX10 128 yX10_square ∈ ab_G := (ab_G_in (i := 1178) (by decide +kernel) (by decide +kernel))
theorem ml_RX10_132 : Cond.methodLink RX10 132 yX10_isMast ∈ ab_G := (ab_G_in (i := 1170) (by decide +kernel) (by decide +kernel))
theorem ml_RX10_135 : Cond.methodLink RX10 135 yX10_barOf ∈ ab_G := (ab_G_in (i := 1174) (by decide +kernel) (by decide +kernel))
theorem ml_RX10_138 : Cond.methodLink RX10 138 yX10_isSet ∈ ab_G := (ab_G_in (i := 1186) (by decide +kernel) (by decide +kernel))
theorem ml_RX10_141 : Cond.methodLink RX10 141 yX10_countBits ∈ ab_G := (ab_G_in (i := 1190) (by decide +kernel) (by decide +kernel))
theorem ml_RX10_147 : Cond.methodLink RX10 147 yX10_isWant ∈ ab_G := (ab_G_in (i := 1203) (by decide +kernel) (by decide +kernel))
theorem ml_RX10_169 : Cond.methodLink RX10 169 yX10_isListed ∈ ab_G := (ab_G_in (i := 1232) (by decide +kernel) (by decide +kernel))
theorem ml_RX10_173 : Cond.methodLink RX10 173 yX10_isFree ∈ ab_G := (ab_G_in (i := 1236) (by decide +kernel) (by decide +kernel))
theorem ml_RX10_176 : Cond.methodLink RX10 176 yX10_mayHave ∈ ab_G := (ab_G_in (i := 1228) (by decide +kernel) (by decide +kernel))
theorem ml_RX10_179 : Cond.methodLink RX10 179 yX10_channelsOf ∈ ab_G := (ab_G_in (i := 1276) (by decide +kernel) (by decide +kernel))
theorem ml_RX10_182 : Cond.methodLink RX10 182 yX10_channelOf ∈ ab_G := (ab_G_in (i := 1280) (by decide +kernel) (by decide +kernel))
theorem ml_RX10_185 : Cond.methodLink RX10 185 yX10_lack ∈ ab_G := (ab_G_in (i := 1272) (by decide +kernel) (by decide +kernel))
theorem ml_RX10_188 : Cond.methodLink RX10 188 yX10_areIn ∈ ab_G := (ab_G_in (i := 1284) (by decide +kernel) (by decide +kernel))
theorem ml_RX10_192 : Cond.methodLink RX10 192 yX10_middles ∈ ab_G := (ab_G_in (i := 1288) (by decide +kernel) (by decide +kernel))
theorem ml_RX10_196 : Cond.methodLink RX10 196 yX10_brokenOf ∈ ab_G := (ab_G_in (i := 1268) (by decide +kernel) (by decide +kernel))
theorem ml_RX10_199 : Cond.methodLink RX10 199 yX10_harmNow ∈ ab_G := (ab_G_in (i := 1264) (by decide +kernel) (by decide +kernel))
theorem ml_RX10_205 : Cond.methodLink RX10 205 yX10_isFine ∈ ab_G := (ab_G_in (i := 1322) (by decide +kernel) (by decide +kernel))
theorem ml_RX10_215 : Cond.methodLink RX10 215 yX10_isTaken ∈ ab_G := (ab_G_in (i := 1318) (by decide +kernel) (by decide +kernel))
theorem ml_RX10_220 : Cond.methodLink RX10 220 yX10_keepPlan ∈ ab_G := (ab_G_in (i := 1310) (by decide +kernel) (by decide +kernel))
theorem ml_RX10_223 : Cond.methodLink RX10 223 yX10_tryBelow ∈ ab_G := (ab_G_in (i := 1314) (by decide +kernel) (by decide +kernel))
theorem ml_RX10_226 : Cond.methodLink RX10 226 yX10_givePlan ∈ ab_G := (ab_G_in (i := 1326) (by decide +kernel) (by decide +kernel))
theorem ml_RX10_231 : Cond.methodLink RX10 231 yX10_isBettered ∈ ab_G := (ab_G_in (i := 1347) (by decide +kernel) (by decide +kernel))
theorem ml_RX10_235 : Cond.methodLink RX10 235 yX10_isHealedBy ∈ ab_G := (ab_G_in (i := 1355) (by decide +kernel) (by decide +kernel))
theorem ml_RX10_238 : Cond.methodLink RX10 238 yX10_isHealedByTwo ∈ ab_G := (ab_G_in (i := 1359) (by decide +kernel) (by decide +kernel))
theorem ml_RX10_242 : Cond.methodLink RX10 242 yX10_isCrowd ∈ ab_G := (ab_G_in (i := 1367) (by decide +kernel) (by decide +kernel))
theorem ml_RX10_245 : Cond.methodLink RX10 245 yX10_wantsIn ∈ ab_G := (ab_G_in (i := 1371) (by decide +kernel) (by decide +kernel))
theorem ml_RX10_248 : Cond.methodLink RX10 248 yX10_boundOf ∈ ab_G := (ab_G_in (i := 1375) (by decide +kernel) (by decide +kernel))
theorem ml_RX10_251 : Cond.methodLink RX10 251 yX10_areNear ∈ ab_G := (ab_G_in (i := 1392) (by decide +kernel) (by decide +kernel))
theorem ml_RX10_254 : Cond.methodLink RX10 254 yX10_findParts ∈ ab_G := (ab_G_in (i := 1388) (by decide +kernel) (by decide +kernel))
theorem ml_RX10_257 : Cond.methodLink RX10 257 yX10_withChannel ∈ ab_G := (ab_G_in (i := 1400) (by decide +kernel) (by decide +kernel))
theorem ml_RX10_260 : Cond.methodLink RX10 260 yX10_bars ∈ ab_G := (ab_G_in (i := 1412) (by decide +kernel) (by decide +kernel))
theorem ml_RX10_263 : Cond.methodLink RX10 263 yX10_threes ∈ ab_G := (ab_G_in (i := 1416) (by decide +kernel) (by decide +kernel))
theorem ml_RX10_266 : Cond.methodLink RX10 266 yX10_isShelf ∈ ab_G := (ab_G_in (i := 1428) (by decide +kernel) (by decide +kernel))
theorem ml_RX10_269 : Cond.methodLink RX10 269 yX10_weightOf ∈ ab_G := (ab_G_in (i := 1431) (by decide +kernel) (by decide +kernel))
theorem ml_RX10_272 : Cond.methodLink RX10 272 yX10_hasPlaces ∈ ab_G := (ab_G_in (i := 1447) (by decide +kernel) (by decide +kernel))
theorem ml_RX10_275 : Cond.methodLink RX10 275 yX10_denied ∈ ab_G := (ab_G_in (i := 1455) (by decide +kernel) (by decide +kernel))
theorem mv_J6_bitCount_0f7a4 : ab_MS me_J6_bitCount_0f7a4 1 := ⟨(ab_G_in (i := 438) (by decide +kernel) (by decide +kernel)), (ab_G_in (i := 437) (by decide +kernel) (by decide +kernel)), (ab_G_in (i := 74) (by decide +kernel) (by decide +kernel)), ⟨by decide, by decide, by decide +kernel⟩, by decide⟩
theorem mv_J7_fill_031fb : ab_MS me_J7_fill_031fb 2 := ⟨(ab_G_in (i := 865) (by decide +kernel) (by decide +kernel)), (ab_G_in (i := 864) (by decide +kernel) (by decide +kernel)), (ab_G_in (i := 66) (by decide +kernel) (by decide +kernel)), ⟨by decide, by decide, by decide +kernel⟩, by decide⟩
theorem mv_J7_fill_d0a16 : ab_MS me_J7_fill_d0a16 2 := ⟨(ab_G_in (i := 868) (by decide +kernel) (by decide +kernel)), (ab_G_in (i := 867) (by decide +kernel) (by decide +kernel)), (ab_G_in (i := 66) (by decide +kernel) (by decide +kernel)), ⟨by decide, by decide, by decide +kernel⟩, by decide⟩
theorem mv_X0_barsAll : ab_MV me_X0_barsAll 0 2 := ⟨(ab_G_in (i := 732) (by decide +kernel) (by decide +kernel)), (ab_G_in (i := 731) (by decide +kernel) (by decide +kernel)), (ab_G_in (i := 15) (by decide +kernel) (by decide +kernel)), (ab_G_in (i := 70) (by decide +kernel) (by decide +kernel)), ⟨by decide, by decide, by decide +kernel⟩, by decide, by decide, _, _, rfl⟩
theorem mv_X0_boundOf : ab_MV me_X0_boundOf 0 1 := ⟨(ab_G_in (i := 741) (by decide +kernel) (by decide +kernel)), (ab_G_in (i := 739) (by decide +kernel) (by decide +kernel)), (ab_G_in (i := 740) (by decide +kernel) (by decide +kernel)), (ab_G_in (i := 70) (by decide +kernel) (by decide +kernel)), ⟨by decide, by decide, by decide +kernel⟩, by decide, by decide, _, _, rfl⟩
theorem mv_X0_boundOfSeated : ab_MV me_X0_boundOfSeated 0 1 := ⟨(ab_G_in (i := 759) (by decide +kernel) (by decide +kernel)), (ab_G_in (i := 758) (by decide +kernel) (by decide +kernel)), (ab_G_in (i := 19) (by decide +kernel) (by decide +kernel)), (ab_G_in (i := 70) (by decide +kernel) (by decide +kernel)), ⟨by decide, by decide, by decide +kernel⟩, by decide, by decide, _, _, rfl⟩
theorem mv_X0_consider : ab_MV me_X0_consider 0 2 := ⟨(ab_G_in (i := 775) (by decide +kernel) (by decide +kernel)), (ab_G_in (i := 774) (by decide +kernel) (by decide +kernel)), (ab_G_in (i := 21) (by decide +kernel) (by decide +kernel)), (ab_G_in (i := 70) (by decide +kernel) (by decide +kernel)), ⟨by decide, by decide, by decide +kernel⟩, by decide, by decide, _, _, rfl⟩
theorem mv_X0_greatest : ab_MV me_X0_greatest 0 0 := ⟨(ab_G_in (i := 767) (by decide +kernel) (by decide +kernel)), (ab_G_in (i := 765) (by decide +kernel) (by decide +kernel)), (ab_G_in (i := 766) (by decide +kernel) (by decide +kernel)), (ab_G_in (i := 70) (by decide +kernel) (by decide +kernel)), ⟨by decide, by decide, by decide +kernel⟩, by decide, by decide, _, _, rfl⟩
theorem mv_X0_grow : ab_MV me_X0_grow 0 3 := ⟨(ab_G_in (i := 771) (by decide +kernel) (by decide +kernel)), (ab_G_in (i := 770) (by decide +kernel) (by decide +kernel)), (ab_G_in (i := 20) (by decide +kernel) (by decide +kernel)), (ab_G_in (i := 70) (by decide +kernel) (by decide +kernel)), ⟨by decide, by decide, by decide +kernel⟩, by decide, by decide, _, _, rfl⟩
theorem mv_X0_isCrowd : ab_MV me_X0_isCrowd 0 1 := ⟨(ab_G_in (i := 728) (by decide +kernel) (by decide +kernel)), (ab_G_in (i := 726) (by decide +kernel) (by decide +kernel)), (ab_G_in (i := 727) (by decide +kernel) (by decide +kernel)), (ab_G_in (i := 70) (by decide +kernel) (by decide +kernel)), ⟨by decide, by decide, by decide +kernel⟩, by decide, by decide, _, _, rfl⟩
theorem mv_X0_leastSum : ab_MV me_X0_leastSum 0 3 := ⟨(ab_G_in (i := 753) (by decide +kernel) (by decide +kernel)), (ab_G_in (i := 752) (by decide +kernel) (by decide +kernel)), (ab_G_in (i := 18) (by decide +kernel) (by decide +kernel)), (ab_G_in (i := 70) (by decide +kernel) (by decide +kernel)), ⟨by decide, by decide, by decide +kernel⟩, by decide, by decide, _, _, rfl⟩
theorem mv_X0_seat : ab_MV me_X0_seat 0 2 := ⟨(ab_G_in (i := 745) (by decide +kernel) (by decide +kernel)), (ab_G_in (i := 744) (by decide +kernel) (by decide +kernel)), (ab_G_in (i := 16) (by decide +kernel) (by decide +kernel)), (ab_G_in (i := 70) (by decide +kernel) (by decide +kernel)), ⟨by decide, by decide, by decide +kernel⟩, by decide, by decide, _, _, rfl⟩
theorem mv_X0_sumUp : ab_MV me_X0_sumUp 0 2 := ⟨(ab_G_in (i := 749) (by decide +kernel) (by decide +kernel)), (ab_G_in (i := 748) (by decide +kernel) (by decide +kernel)), (ab_G_in (i := 17) (by decide +kernel) (by decide +kernel)), (ab_G_in (i := 70) (by decide +kernel) (by decide +kernel)), ⟨by decide, by decide, by decide +kernel⟩, by decide, by decide, _, _, rfl⟩
theorem mv_X0_wantsOf : ab_MV me_X0_wantsOf 0 1 := ⟨(ab_G_in (i := 737) (by decide +kernel) (by decide +kernel)), (ab_G_in (i := 735) (by decide +kernel) (by decide +kernel)), (ab_G_in (i := 736) (by decide +kernel) (by decide +kernel)), (ab_G_in (i := 70) (by decide +kernel) (by decide +kernel)), ⟨by decide, by decide, by decide +kernel⟩, by decide, by decide, _, _, rfl⟩
theorem mv_X10_areIn : ab_MV me_X10_areIn 10 3 := ⟨(ab_G_in (i := 1287) (by decide +kernel) (by decide +kernel)), (ab_G_in (i := 1286) (by decide +kernel) (by decide +kernel)), (ab_G_in (i := 39) (by decide +kernel) (by decide +kernel)), (ab_G_in (i := 72) (by decide +kernel) (by decide +kernel)), ⟨by decide, by decide, by decide +kernel⟩, by decide, by decide, _, _, rfl⟩
theorem mv_X10_areNear : ab_MV me_X10_areNear 10 2 := ⟨(ab_G_in (i := 1395) (by decide +kernel) (by decide +kernel)), (ab_G_in (i := 1394) (by decide +kernel) (by decide +kernel)), (ab_G_in (i := 53) (by decide +kernel) (by decide +kernel)), (ab_G_in (i := 72) (by decide +kernel) (by decide +kernel)), ⟨by decide, by decide, by decide +kernel⟩, by decide, by decide, _, _, rfl⟩
theorem mv_X10_bar : ab_MV me_X10_bar 10 2 := ⟨(ab_G_in (i := 1243) (by decide +kernel) (by decide +kernel)), (ab_G_in (i := 1241) (by decide +kernel) (by decide +kernel)), (ab_G_in (i := 1242) (by decide +kernel) (by decide +kernel)), (ab_G_in (i := 72) (by decide +kernel) (by decide +kernel)), ⟨by decide, by decide, by decide +kernel⟩, by decide, by decide, _, _, rfl⟩
theorem mv_X10_barOf : ab_MV me_X10_barOf 10 2 := ⟨(ab_G_in (i := 1177) (by decide +kernel) (by decide +kernel)), (ab_G_in (i := 1176) (by decide +kernel) (by decide +kernel)), (ab_G_in (i := 27) (by decide +kernel) (by decide +kernel)), (ab_G_in (i := 72) (by decide +kernel) (by decide +kernel)), ⟨by decide, by decide, by decide +kernel⟩, by decide, by decide, _, _, rfl⟩
theorem mv_X10_bars : ab_MV me_X10_bars 10 0 := ⟨(ab_G_in (i := 1415) (by decide +kernel) (by decide +kernel)), (ab_G_in (i := 1414) (by decide +kernel) (by decide +kernel)), (ab_G_in (i := 55) (by decide +kernel) (by decide +kernel)), (ab_G_in (i := 72) (by decide +kernel) (by decide +kernel)), ⟨by decide, by decide, by decide +kernel⟩, by decide, by decide, _, _, rfl⟩
theorem mv_X10_better : ab_MV me_X10_better 10 1 := ⟨(ab_G_in (i := 1345) (by decide +kernel) (by decide +kernel)), (ab_G_in (i := 1343) (by decide +kernel) (by decide +kernel)), (ab_G_in (i := 1344) (by decide +kernel) (by decide +kernel)), (ab_G_in (i := 72) (by decide +kernel) (by decide +kernel)), ⟨by decide, by decide, by decide +kernel⟩, by decide, by decide, _, _, rfl⟩
theorem mv_X10_border : ab_MV me_X10_border 10 4 := ⟨(ab_G_in (i := 1223) (by decide +kernel) (by decide +kernel)), (ab_G_in (i := 1221) (by decide +kernel) (by decide +kernel)), (ab_G_in (i := 1222) (by decide +kernel) (by decide +kernel)), (ab_G_in (i := 72) (by decide +kernel) (by decide +kernel)), ⟨by decide, by decide, by decide +kernel⟩, by decide, by decide, _, _, rfl⟩
theorem mv_X10_bound : ab_MV me_X10_bound 10 1 := ⟨(ab_G_in (i := 1366) (by decide +kernel) (by decide +kernel)), (ab_G_in (i := 1364) (by decide +kernel) (by decide +kernel)), (ab_G_in (i := 1365) (by decide +kernel) (by decide +kernel)), (ab_G_in (i := 72) (by decide +kernel) (by decide +kernel)), ⟨by decide, by decide, by decide +kernel⟩, by decide, by decide, _, _, rfl⟩
theorem mv_X10_boundOf : ab_MV me_X10_boundOf 10 1 := ⟨(ab_G_in (i := 1378) (by decide +kernel) (by decide +kernel)), (ab_G_in (i := 1377) (by decide +kernel) (by decide +kernel)), (ab_G_in (i := 51) (by decide +kernel) (by decide +kernel)), (ab_G_in (i := 72) (by decide +kernel) (by decide +kernel)), ⟨by decide, by decide, by decide +kernel⟩, by decide, by decide, _, _, rfl⟩
theorem mv_X10_broken : ab_MV me_X10_broken 10 1 := ⟨(ab_G_in (i := 1299) (by decide +kernel) (by decide +kernel)), (ab_G_in (i := 1297) (by decide +kernel) (by decide +kernel)), (ab_G_in (i := 1298) (by decide +kernel) (by decide +kernel)), (ab_G_in (i := 72) (by decide +kernel) (by decide +kernel)), ⟨by decide, by decide, by decide +kernel⟩, by decide, by decide, _, _, rfl⟩
theorem mv_X10_brokenOf : ab_MV me_X10_brokenOf 10 1 := ⟨(ab_G_in (i := 1271) (by decide +kernel) (by decide +kernel)), (ab_G_in (i := 1270) (by decide +kernel) (by decide +kernel)), (ab_G_in (i := 35) (by decide +kernel) (by decide +kernel)), (ab_G_in (i := 72) (by decide +kernel) (by decide +kernel)), ⟨by decide, by decide, by decide +kernel⟩, by decide, by decide, _, _, rfl⟩
theorem mv_X10_channel : ab_MV me_X10_channel 10 1 := ⟨(ab_G_in (i := 1255) (by decide +kernel) (by decide +kernel)), (ab_G_in (i := 1253) (by decide +kernel) (by decide +kernel)), (ab_G_in (i := 1254) (by decide +kernel) (by decide +kernel)), (ab_G_in (i := 72) (by decide +kernel) (by decide +kernel)), ⟨by decide, by decide, by decide +kernel⟩, by decide, by decide, _, _, rfl⟩
theorem mv_X10_channelOf : ab_MV me_X10_channelOf 10 2 := ⟨(ab_G_in (i := 1283) (by decide +kernel) (by decide +kernel)), (ab_G_in (i := 1282) (by decide +kernel) (by decide +kernel)), (ab_G_in (i := 38) (by decide +kernel) (by decide +kernel)), (ab_G_in (i := 72) (by decide +kernel) (by decide +kernel)), ⟨by decide, by decide, by decide +kernel⟩, by decide, by decide, _, _, rfl⟩
theorem mv_X10_channelsOf : ab_MV me_X10_channelsOf 10 1 := ⟨(ab_G_in (i := 1279) (by decide +kernel) (by decide +kernel)), (ab_G_in (i := 1278) (by decide +kernel) (by decide +kernel)), (ab_G_in (i := 37) (by decide +kernel) (by decide +kernel)), (ab_G_in (i := 72) (by decide +kernel) (by decide +kernel)), ⟨by decide, by decide, by decide +kernel⟩, by decide, by decide, _, _, rfl⟩
theorem mv_X10_copy : ab_MV me_X10_copy 10 5 := ⟨(ab_G_in (i := 1446) (by decide +kernel) (by decide +kernel)), (ab_G_in (i := 1444) (by decide +kernel) (by decide +kernel)), (ab_G_in (i := 1445) (by decide +kernel) (by decide +kernel)), (ab_G_in (i := 72) (by decide +kernel) (by decide +kernel)), ⟨by decide, by decide, by decide +kernel⟩, by decide, by decide, _, _, rfl⟩
theorem mv_X10_count : ab_MV me_X10_count 10 1 := ⟨(ab_G_in (i := 1411) (by decide +kernel) (by decide +kernel)), (ab_G_in (i := 1409) (by decide +kernel) (by decide +kernel)), (ab_G_in (i := 1410) (by decide +kernel) (by decide +kernel)), (ab_G_in (i := 72) (by decide +kernel) (by decide +kernel)), ⟨by decide, by decide, by decide +kernel⟩, by decide, by decide, _, _, rfl⟩
theorem mv_X10_countBits : ab_MV me_X10_countBits 10 1 := ⟨(ab_G_in (i := 1193) (by decide +kernel) (by decide +kernel)), (ab_G_in (i := 1192) (by decide +kernel) (by decide +kernel)), (ab_G_in (i := 29) (by decide +kernel) (by decide +kernel)), (ab_G_in (i := 72) (by decide +kernel) (by decide +kernel)), ⟨by decide, by decide, by decide +kernel⟩, by decide, by decide, _, _, rfl⟩
theorem mv_X10_crowd : ab_MV me_X10_crowd 10 0 := ⟨(ab_G_in (i := 1383) (by decide +kernel) (by decide +kernel)), (ab_G_in (i := 1381) (by decide +kernel) (by decide +kernel)), (ab_G_in (i := 1382) (by decide +kernel) (by decide +kernel)), (ab_G_in (i := 72) (by decide +kernel) (by decide +kernel)), ⟨by decide, by decide, by decide +kernel⟩, by decide, by decide, _, _, rfl⟩
theorem mv_X10_denied : ab_MV me_X10_denied 10 1 := ⟨(ab_G_in (i := 1458) (by decide +kernel) (by decide +kernel)), (ab_G_in (i := 1457) (by decide +kernel) (by decide +kernel)), (ab_G_in (i := 59) (by decide +kernel) (by decide +kernel)), (ab_G_in (i := 72) (by decide +kernel) (by decide +kernel)), ⟨by decide, by decide, by decide +kernel⟩, by decide, by decide, _, _, rfl⟩
theorem mv_X10_element : ab_MV me_X10_element 10 2 := ⟨(ab_G_in (i := 1442) (by decide +kernel) (by decide +kernel)), (ab_G_in (i := 1440) (by decide +kernel) (by decide +kernel)), (ab_G_in (i := 1441) (by decide +kernel) (by decide +kernel)), (ab_G_in (i := 72) (by decide +kernel) (by decide +kernel)), ⟨by decide, by decide, by decide +kernel⟩, by decide, by decide, _, _, rfl⟩
theorem mv_X10_fewest : ab_MV me_X10_fewest 10 1 := ⟨(ab_G_in (i := 1354) (by decide +kernel) (by decide +kernel)), (ab_G_in (i := 1352) (by decide +kernel) (by decide +kernel)), (ab_G_in (i := 1353) (by decide +kernel) (by decide +kernel)), (ab_G_in (i := 72) (by decide +kernel) (by decide +kernel)), ⟨by decide, by decide, by decide +kernel⟩, by decide, by decide, _, _, rfl⟩
theorem mv_X10_findParts : ab_MV me_X10_findParts 10 0 := ⟨(ab_G_in (i := 1391) (by decide +kernel) (by decide +kernel)), (ab_G_in (i := 1390) (by decide +kernel) (by decide +kernel)), (ab_G_in (i := 52) (by decide +kernel) (by decide +kernel)), (ab_G_in (i := 72) (by decide +kernel) (by decide +kernel)), ⟨by decide, by decide, by decide +kernel⟩, by decide, by decide, _, _, rfl⟩
theorem mv_X10_gap : ab_MV me_X10_gap 10 2 := ⟨(ab_G_in (i := 1197) (by decide +kernel) (by decide +kernel)), (ab_G_in (i := 1195) (by decide +kernel) (by decide +kernel)), (ab_G_in (i := 1196) (by decide +kernel) (by decide +kernel)), (ab_G_in (i := 72) (by decide +kernel) (by decide +kernel)), ⟨by decide, by decide, by decide +kernel⟩, by decide, by decide, _, _, rfl⟩
theorem mv_X10_givePlan : ab_MV me_X10_givePlan 10 0 := ⟨(ab_G_in (i := 1329) (by decide +kernel) (by decide +kernel)), (ab_G_in (i := 1328) (by decide +kernel) (by decide +kernel)), (ab_G_in (i := 45) (by decide +kernel) (by decide +kernel)), (ab_G_in (i := 72) (by decide +kernel) (by decide +kernel)), ⟨by decide, by decide, by decide +kernel⟩, by decide, by decide, _, _, rfl⟩
theorem mv_X10_harm : ab_MV me_X10_harm 10 0 := ⟨(ab_G_in (i := 1263) (by decide +kernel) (by decide +kernel)), (ab_G_in (i := 1261) (by decide +kernel) (by decide +kernel)), (ab_G_in (i := 1262) (by decide +kernel) (by decide +kernel)), (ab_G_in (i := 72) (by decide +kernel) (by decide +kernel)), ⟨by decide, by decide, by decide +kernel⟩, by decide, by decide, _, _, rfl⟩
theorem mv_X10_harmNow : ab_MV me_X10_harmNow 10 0 := ⟨(ab_G_in (i := 1267) (by decide +kernel) (by decide +kernel)), (ab_G_in (i := 1266) (by decide +kernel) (by decide +kernel)), (ab_G_in (i := 34) (by decide +kernel) (by decide +kernel)), (ab_G_in (i := 72) (by decide +kernel) (by decide +kernel)), ⟨by decide, by decide, by decide +kernel⟩, by decide, by decide, _, _, rfl⟩
theorem mv_X10_hasPlaces : ab_MV me_X10_hasPlaces 10 3 := ⟨(ab_G_in (i := 1450) (by decide +kernel) (by decide +kernel)), (ab_G_in (i := 1449) (by decide +kernel) (by decide +kernel)), (ab_G_in (i := 58) (by decide +kernel) (by decide +kernel)), (ab_G_in (i := 72) (by decide +kernel) (by decide +kernel)), ⟨by decide, by decide, by decide +kernel⟩, by decide, by decide, _, _, rfl⟩
theorem mv_X10_image : ab_MV me_X10_image 10 0 := ⟨(ab_G_in (i := 1399) (by decide +kernel) (by decide +kernel)), (ab_G_in (i := 1397) (by decide +kernel) (by decide +kernel)), (ab_G_in (i := 1398) (by decide +kernel) (by decide +kernel)), (ab_G_in (i := 72) (by decide +kernel) (by decide +kernel)), ⟨by decide, by decide, by decide +kernel⟩, by decide, by decide, _, _, rfl⟩
theorem mv_X10_isBettered : ab_MV me_X10_isBettered 10 0 := ⟨(ab_G_in (i := 1350) (by decide +kernel) (by decide +kernel)), (ab_G_in (i := 1349) (by decide +kernel) (by decide +kernel)), (ab_G_in (i := 46) (by decide +kernel) (by decide +kernel)), (ab_G_in (i := 72) (by decide +kernel) (by decide +kernel)), ⟨by decide, by decide, by decide +kernel⟩, by decide, by decide, _, _, rfl⟩
theorem mv_X10_isCrowd : ab_MV me_X10_isCrowd 10 1 := ⟨(ab_G_in (i := 1370) (by decide +kernel) (by decide +kernel)), (ab_G_in (i := 1369) (by decide +kernel) (by decide +kernel)), (ab_G_in (i := 49) (by decide +kernel) (by decide +kernel)), (ab_G_in (i := 72) (by decide +kernel) (by decide +kernel)), ⟨by decide, by decide, by decide +kernel⟩, by decide, by decide, _, _, rfl⟩
theorem mv_X10_isFine : ab_MV me_X10_isFine 10 1 := ⟨(ab_G_in (i := 1325) (by decide +kernel) (by decide +kernel)), (ab_G_in (i := 1324) (by decide +kernel) (by decide +kernel)), (ab_G_in (i := 44) (by decide +kernel) (by decide +kernel)), (ab_G_in (i := 72) (by decide +kernel) (by decide +kernel)), ⟨by decide, by decide, by decide +kernel⟩, by decide, by decide, _, _, rfl⟩
theorem mv_X10_isFree : ab_MV me_X10_isFree 10 2 := ⟨(ab_G_in (i := 1239) (by decide +kernel) (by decide +kernel)), (ab_G_in (i := 1238) (by decide +kernel) (by decide +kernel)), (ab_G_in (i := 33) (by decide +kernel) (by decide +kernel)), (ab_G_in (i := 72) (by decide +kernel) (by decide +kernel)), ⟨by decide, by decide, by decide +kernel⟩, by decide, by decide, _, _, rfl⟩
theorem mv_X10_isHealedBy : ab_MV me_X10_isHealedBy 10 1 := ⟨(ab_G_in (i := 1358) (by decide +kernel) (by decide +kernel)), (ab_G_in (i := 1357) (by decide +kernel) (by decide +kernel)), (ab_G_in (i := 47) (by decide +kernel) (by decide +kernel)), (ab_G_in (i := 72) (by decide +kernel) (by decide +kernel)), ⟨by decide, by decide, by decide +kernel⟩, by decide, by decide, _, _, rfl⟩
theorem mv_X10_isHealedByTwo : ab_MV me_X10_isHealedByTwo 10 0 := ⟨(ab_G_in (i := 1362) (by decide +kernel) (by decide +kernel)), (ab_G_in (i := 1361) (by decide +kernel) (by decide +kernel)), (ab_G_in (i := 48) (by decide +kernel) (by decide +kernel)), (ab_G_in (i := 72) (by decide +kernel) (by decide +kernel)), ⟨by decide, by decide, by decide +kernel⟩, by decide, by decide, _, _, rfl⟩
theorem mv_X10_isIn : ab_MS me_X10_isIn 3 := ⟨(ab_G_in (i := 1160) (by decide +kernel) (by decide +kernel)), (ab_G_in (i := 1159) (by decide +kernel) (by decide +kernel)), (ab_G_in (i := 72) (by decide +kernel) (by decide +kernel)), ⟨by decide, by decide, by decide +kernel⟩, by decide⟩
theorem mv_X10_isListed : ab_MV me_X10_isListed 10 2 := ⟨(ab_G_in (i := 1235) (by decide +kernel) (by decide +kernel)), (ab_G_in (i := 1234) (by decide +kernel) (by decide +kernel)), (ab_G_in (i := 32) (by decide +kernel) (by decide +kernel)), (ab_G_in (i := 72) (by decide +kernel) (by decide +kernel)), ⟨by decide, by decide, by decide +kernel⟩, by decide, by decide, _, _, rfl⟩
theorem mv_X10_isMast : ab_MV me_X10_isMast 10 1 := ⟨(ab_G_in (i := 1173) (by decide +kernel) (by decide +kernel)), (ab_G_in (i := 1172) (by decide +kernel) (by decide +kernel)), (ab_G_in (i := 26) (by decide +kernel) (by decide +kernel)), (ab_G_in (i := 72) (by decide +kernel) (by decide +kernel)), ⟨by decide, by decide, by decide +kernel⟩, by decide, by decide, _, _, rfl⟩
theorem mv_X10_isPlace : ab_MS me_X10_isPlace 1 := ⟨(ab_G_in (i := 1163) (by decide +kernel) (by decide +kernel)), (ab_G_in (i := 1162) (by decide +kernel) (by decide +kernel)), (ab_G_in (i := 72) (by decide +kernel) (by decide +kernel)), ⟨by decide, by decide, by decide +kernel⟩, by decide⟩
theorem mv_X10_isSet : ab_MS me_X10_isSet 1 := ⟨(ab_G_in (i := 1188) (by decide +kernel) (by decide +kernel)), (ab_G_in (i := 1187) (by decide +kernel) (by decide +kernel)), (ab_G_in (i := 72) (by decide +kernel) (by decide +kernel)), ⟨by decide, by decide, by decide +kernel⟩, by decide⟩
theorem mv_X10_isShelf : ab_MS me_X10_isShelf 1 := ⟨(ab_G_in (i := 1430) (by decide +kernel) (by decide +kernel)), (ab_G_in (i := 1429) (by decide +kernel) (by decide +kernel)), (ab_G_in (i := 72) (by decide +kernel) (by decide +kernel)), ⟨by decide, by decide, by decide +kernel⟩, by decide⟩
theorem mv_X10_isTaken : ab_MV me_X10_isTaken 10 3 := ⟨(ab_G_in (i := 1321) (by decide +kernel) (by decide +kernel)), (ab_G_in (i := 1320) (by decide +kernel) (by decide +kernel)), (ab_G_in (i := 43) (by decide +kernel) (by decide +kernel)), (ab_G_in (i := 72) (by decide +kernel) (by decide +kernel)), ⟨by decide, by decide, by decide +kernel⟩, by decide, by decide, _, _, rfl⟩
theorem mv_X10_isWant : ab_MV me_X10_isWant 10 1 := ⟨(ab_G_in (i := 1206) (by decide +kernel) (by decide +kernel)), (ab_G_in (i := 1205) (by decide +kernel) (by decide +kernel)), (ab_G_in (i := 30) (by decide +kernel) (by decide +kernel)), (ab_G_in (i := 72) (by decide +kernel) (by decide +kernel)), ⟨by decide, by decide, by decide +kernel⟩, by decide, by decide, _, _, rfl⟩
theorem mv_X10_keep : ab_MV me_X10_keep 10 3 := ⟨(ab_G_in (i := 1427) (by decide +kernel) (by decide +kernel)), (ab_G_in (i := 1425) (by decide +kernel) (by decide +kernel)), (ab_G_in (i := 1426) (by decide +kernel) (by decide +kernel)), (ab_G_in (i := 72) (by decide +kernel) (by decide +kernel)), ⟨by decide, by decide, by decide +kernel⟩, by decide, by decide, _, _, rfl⟩
theorem mv_X10_keepPlan : ab_MV me_X10_keepPlan 10 0 := ⟨(ab_G_in (i := 1313) (by decide +kernel) (by decide +kernel)), (ab_G_in (i := 1312) (by decide +kernel) (by decide +kernel)), (ab_G_in (i := 41) (by decide +kernel) (by decide +kernel)), (ab_G_in (i := 72) (by decide +kernel) (by decide +kernel)), ⟨by decide, by decide, by decide +kernel⟩, by decide, by decide, _, _, rfl⟩
theorem mv_X10_kept : ab_MV me_X10_kept 10 0 := ⟨(ab_G_in (i := 1295) (by decide +kernel) (by decide +kernel)), (ab_G_in (i := 1293) (by decide +kernel) (by decide +kernel)), (ab_G_in (i := 1294) (by decide +kernel) (by decide +kernel)), (ab_G_in (i := 72) (by decide +kernel) (by decide +kernel)), ⟨by decide, by decide, by decide +kernel⟩, by decide, by decide, _, _, rfl⟩
theorem mv_X10_lack : ab_MV me_X10_lack 10 2 := ⟨(ab_G_in (i := 1275) (by decide +kernel) (by decide +kernel)), (ab_G_in (i := 1274) (by decide +kernel) (by decide +kernel)), (ab_G_in (i := 36) (by decide +kernel) (by decide +kernel)), (ab_G_in (i := 72) (by decide +kernel) (by decide +kernel)), ⟨by decide, by decide, by decide +kernel⟩, by decide, by decide, _, _, rfl⟩
theorem mv_X10_least : ab_MV me_X10_least 10 0 := ⟨(ab_G_in (i := 1337) (by decide +kernel) (by decide +kernel)), (ab_G_in (i := 1335) (by decide +kernel) (by decide +kernel)), (ab_G_in (i := 1336) (by decide +kernel) (by decide +kernel)), (ab_G_in (i := 72) (by decide +kernel) (by decide +kernel)), ⟨by decide, by decide, by decide +kernel⟩, by decide, by decide, _, _, rfl⟩
theorem mv_X10_list : ab_MV me_X10_list 10 2 := ⟨(ab_G_in (i := 1185) (by decide +kernel) (by decide +kernel)), (ab_G_in (i := 1183) (by decide +kernel) (by decide +kernel)), (ab_G_in (i := 1184) (by decide +kernel) (by decide +kernel)), (ab_G_in (i := 72) (by decide +kernel) (by decide +kernel)), ⟨by decide, by decide, by decide +kernel⟩, by decide, by decide, _, _, rfl⟩
theorem mv_X10_look : ab_MV me_X10_look 10 2 := ⟨(ab_G_in (i := 1423) (by decide +kernel) (by decide +kernel)), (ab_G_in (i := 1421) (by decide +kernel) (by decide +kernel)), (ab_G_in (i := 1422) (by decide +kernel) (by decide +kernel)), (ab_G_in (i := 72) (by decide +kernel) (by decide +kernel)), ⟨by decide, by decide, by decide +kernel⟩, by decide, by decide, _, _, rfl⟩
theorem mv_X10_make : ab_MV me_X10_make 10 3 := ⟨(ab_G_in (i := 1438) (by decide +kernel) (by decide +kernel)), (ab_G_in (i := 1436) (by decide +kernel) (by decide +kernel)), (ab_G_in (i := 1437) (by decide +kernel) (by decide +kernel)), (ab_G_in (i := 72) (by decide +kernel) (by decide +kernel)), ⟨by decide, by decide, by decide +kernel⟩, by decide, by decide, _, _, rfl⟩
theorem mv_X10_mast : ab_MV me_X10_mast 10 4 := ⟨(ab_G_in (i := 1156) (by decide +kernel) (by decide +kernel)), (ab_G_in (i := 1154) (by decide +kernel) (by decide +kernel)), (ab_G_in (i := 1155) (by decide +kernel) (by decide +kernel)), (ab_G_in (i := 72) (by decide +kernel) (by decide +kernel)), ⟨by decide, by decide, by decide +kernel⟩, by decide, by decide, _, _, rfl⟩
theorem mv_X10_may : ab_MV me_X10_may 10 2 := ⟨(ab_G_in (i := 1247) (by decide +kernel) (by decide +kernel)), (ab_G_in (i := 1245) (by decide +kernel) (by decide +kernel)), (ab_G_in (i := 1246) (by decide +kernel) (by decide +kernel)), (ab_G_in (i := 72) (by decide +kernel) (by decide +kernel)), ⟨by decide, by decide, by decide +kernel⟩, by decide, by decide, _, _, rfl⟩
theorem mv_X10_mayHave : ab_MV me_X10_mayHave 10 2 := ⟨(ab_G_in (i := 1231) (by decide +kernel) (by decide +kernel)), (ab_G_in (i := 1230) (by decide +kernel) (by decide +kernel)), (ab_G_in (i := 31) (by decide +kernel) (by decide +kernel)), (ab_G_in (i := 72) (by decide +kernel) (by decide +kernel)), ⟨by decide, by decide, by decide +kernel⟩, by decide, by decide, _, _, rfl⟩
theorem mv_X10_middles : ab_MV me_X10_middles 10 3 := ⟨(ab_G_in (i := 1291) (by decide +kernel) (by decide +kernel)), (ab_G_in (i := 1290) (by decide +kernel) (by decide +kernel)), (ab_G_in (i := 40) (by decide +kernel) (by decide +kernel)), (ab_G_in (i := 72) (by decide +kernel) (by decide +kernel)), ⟨by decide, by decide, by decide +kernel⟩, by decide, by decide, _, _, rfl⟩
theorem mv_X10_move : ab_MV me_X10_move 10 2 := ⟨(ab_G_in (i := 1169) (by decide +kernel) (by decide +kernel)), (ab_G_in (i := 1167) (by decide +kernel) (by decide +kernel)), (ab_G_in (i := 1168) (by decide +kernel) (by decide +kernel)), (ab_G_in (i := 72) (by decide +kernel) (by decide +kernel)), ⟨by decide, by decide, by decide +kernel⟩, by decide, by decide, _, _, rfl⟩
theorem mv_X10_of : ab_MV me_X10_of 10 1 := ⟨(ab_G_in (i := 1259) (by decide +kernel) (by decide +kernel)), (ab_G_in (i := 1257) (by decide +kernel) (by decide +kernel)), (ab_G_in (i := 1258) (by decide +kernel) (by decide +kernel)), (ab_G_in (i := 72) (by decide +kernel) (by decide +kernel)), ⟨by decide, by decide, by decide +kernel⟩, by decide, by decide, _, _, rfl⟩
theorem mv_X10_own : ab_MV me_X10_own 10 2 := ⟨(ab_G_in (i := 1219) (by decide +kernel) (by decide +kernel)), (ab_G_in (i := 1217) (by decide +kernel) (by decide +kernel)), (ab_G_in (i := 1218) (by decide +kernel) (by decide +kernel)), (ab_G_in (i := 72) (by decide +kernel) (by decide +kernel)), ⟨by decide, by decide, by decide +kernel⟩, by decide, by decide, _, _, rfl⟩
theorem mv_X10_pair : ab_MV me_X10_pair 10 2 := ⟨(ab_G_in (i := 1303) (by decide +kernel) (by decide +kernel)), (ab_G_in (i := 1301) (by decide +kernel) (by decide +kernel)), (ab_G_in (i := 1302) (by decide +kernel) (by decide +kernel)), (ab_G_in (i := 72) (by decide +kernel) (by decide +kernel)), ⟨by decide, by decide, by decide +kernel⟩, by decide, by decide, _, _, rfl⟩
theorem mv_X10_part : ab_MV me_X10_part 10 1 := ⟨(ab_G_in (i := 1387) (by decide +kernel) (by decide +kernel)), (ab_G_in (i := 1385) (by decide +kernel) (by decide +kernel)), (ab_G_in (i := 1386) (by decide +kernel) (by decide +kernel)), (ab_G_in (i := 72) (by decide +kernel) (by decide +kernel)), ⟨by decide, by decide, by decide +kernel⟩, by decide, by decide, _, _, rfl⟩
theorem mv_X10_plan : ab_MV me_X10_plan 10 1 := ⟨(ab_G_in (i := 1308) (by decide +kernel) (by decide +kernel)), (ab_G_in (i := 1306) (by decide +kernel) (by decide +kernel)), (ab_G_in (i := 1307) (by decide +kernel) (by decide +kernel)), (ab_G_in (i := 72) (by decide +kernel) (by decide +kernel)), ⟨by decide, by decide, by decide +kernel⟩, by decide, by decide, _, _, rfl⟩
theorem mv_X10_restore : ab_MV me_X10_restore 10 0 := ⟨(ab_G_in (i := 1407) (by decide +kernel) (by decide +kernel)), (ab_G_in (i := 1405) (by decide +kernel) (by decide +kernel)), (ab_G_in (i := 1406) (by decide +kernel) (by decide +kernel)), (ab_G_in (i := 72) (by decide +kernel) (by decide +kernel)), ⟨by decide, by decide, by decide +kernel⟩, by decide, by decide, _, _, rfl⟩
theorem mv_X10_row : ab_MV me_X10_row 10 3 := ⟨(ab_G_in (i := 1212) (by decide +kernel) (by decide +kernel)), (ab_G_in (i := 1210) (by decide +kernel) (by decide +kernel)), (ab_G_in (i := 1211) (by decide +kernel) (by decide +kernel)), (ab_G_in (i := 72) (by decide +kernel) (by decide +kernel)), ⟨by decide, by decide, by decide +kernel⟩, by decide, by decide, _, _, rfl⟩
theorem mv_X10_set : ab_MV me_X10_set 10 2 := ⟨(ab_G_in (i := 1251) (by decide +kernel) (by decide +kernel)), (ab_G_in (i := 1249) (by decide +kernel) (by decide +kernel)), (ab_G_in (i := 1250) (by decide +kernel) (by decide +kernel)), (ab_G_in (i := 72) (by decide +kernel) (by decide +kernel)), ⟨by decide, by decide, by decide +kernel⟩, by decide, by decide, _, _, rfl⟩
theorem mv_X10_span : ab_MV me_X10_span 10 0 := ⟨(ab_G_in (i := 1341) (by decide +kernel) (by decide +kernel)), (ab_G_in (i := 1339) (by decide +kernel) (by decide +kernel)), (ab_G_in (i := 1340) (by decide +kernel) (by decide +kernel)), (ab_G_in (i := 72) (by decide +kernel) (by decide +kernel)), ⟨by decide, by decide, by decide +kernel⟩, by decide, by decide, _, _, rfl⟩
theorem mv_X10_square : ab_MV me_X10_square 10 2 := ⟨(ab_G_in (i := 1181) (by decide +kernel) (by decide +kernel)), (ab_G_in (i := 1180) (by decide +kernel) (by decide +kernel)), (ab_G_in (i := 28) (by decide +kernel) (by decide +kernel)), (ab_G_in (i := 72) (by decide +kernel) (by decide +kernel)), ⟨by decide, by decide, by decide +kernel⟩, by decide, by decide, _, _, rfl⟩
theorem mv_X10_stay : ab_MV me_X10_stay 10 2 := ⟨(ab_G_in (i := 1202) (by decide +kernel) (by decide +kernel)), (ab_G_in (i := 1200) (by decide +kernel) (by decide +kernel)), (ab_G_in (i := 1201) (by decide +kernel) (by decide +kernel)), (ab_G_in (i := 72) (by decide +kernel) (by decide +kernel)), ⟨by decide, by decide, by decide +kernel⟩, by decide, by decide, _, _, rfl⟩
theorem mv_X10_threes : ab_MV me_X10_threes 10 0 := ⟨(ab_G_in (i := 1419) (by decide +kernel) (by decide +kernel)), (ab_G_in (i := 1418) (by decide +kernel) (by decide +kernel)), (ab_G_in (i := 56) (by decide +kernel) (by decide +kernel)), (ab_G_in (i := 72) (by decide +kernel) (by decide +kernel)), ⟨by decide, by decide, by decide +kernel⟩, by decide, by decide, _, _, rfl⟩
theorem mv_X10_thrown : ab_MV me_X10_thrown 10 0 := ⟨(ab_G_in (i := 1152) (by decide +kernel) (by decide +kernel)), (ab_G_in (i := 1150) (by decide +kernel) (by decide +kernel)), (ab_G_in (i := 1151) (by decide +kernel) (by decide +kernel)), (ab_G_in (i := 72) (by decide +kernel) (by decide +kernel)), ⟨by decide, by decide, by decide +kernel⟩, by decide, by decide, _, _, rfl⟩
theorem mv_X10_toss : ab_MV me_X10_toss 10 1 := ⟨(ab_G_in (i := 1462) (by decide +kernel) (by decide +kernel)), (ab_G_in (i := 1460) (by decide +kernel) (by decide +kernel)), (ab_G_in (i := 1461) (by decide +kernel) (by decide +kernel)), (ab_G_in (i := 72) (by decide +kernel) (by decide +kernel)), ⟨by decide, by decide, by decide +kernel⟩, by decide, by decide, _, _, rfl⟩
theorem mv_X10_tries : ab_MV me_X10_tries 10 0 := ⟨(ab_G_in (i := 1333) (by decide +kernel) (by decide +kernel)), (ab_G_in (i := 1331) (by decide +kernel) (by decide +kernel)), (ab_G_in (i := 1332) (by decide +kernel) (by decide +kernel)), (ab_G_in (i := 72) (by decide +kernel) (by decide +kernel)), ⟨by decide, by decide, by decide +kernel⟩, by decide, by decide, _, _, rfl⟩
theorem mv_X10_tryBelow : ab_MV me_X10_tryBelow 10 1 := ⟨(ab_G_in (i := 1317) (by decide +kernel) (by decide +kernel)), (ab_G_in (i := 1316) (by decide +kernel) (by decide +kernel)), (ab_G_in (i := 42) (by decide +kernel) (by decide +kernel)), (ab_G_in (i := 72) (by decide +kernel) (by decide +kernel)), ⟨by decide, by decide, by decide +kernel⟩, by decide, by decide, _, _, rfl⟩
theorem mv_X10_turn : ab_MV me_X10_turn 10 0 := ⟨(ab_G_in (i := 1227) (by decide +kernel) (by decide +kernel)), (ab_G_in (i := 1225) (by decide +kernel) (by decide +kernel)), (ab_G_in (i := 1226) (by decide +kernel) (by decide +kernel)), (ab_G_in (i := 72) (by decide +kernel) (by decide +kernel)), ⟨by decide, by decide, by decide +kernel⟩, by decide, by decide, _, _, rfl⟩
theorem mv_X10_wantsIn : ab_MV me_X10_wantsIn 10 1 := ⟨(ab_G_in (i := 1374) (by decide +kernel) (by decide +kernel)), (ab_G_in (i := 1373) (by decide +kernel) (by decide +kernel)), (ab_G_in (i := 50) (by decide +kernel) (by decide +kernel)), (ab_G_in (i := 72) (by decide +kernel) (by decide +kernel)), ⟨by decide, by decide, by decide +kernel⟩, by decide, by decide, _, _, rfl⟩
theorem mv_X10_weight : ab_MV me_X10_weight 10 1 := ⟨(ab_G_in (i := 1454) (by decide +kernel) (by decide +kernel)), (ab_G_in (i := 1452) (by decide +kernel) (by decide +kernel)), (ab_G_in (i := 1453) (by decide +kernel) (by decide +kernel)), (ab_G_in (i := 72) (by decide +kernel) (by decide +kernel)), ⟨by decide, by decide, by decide +kernel⟩, by decide, by decide, _, _, rfl⟩
theorem mv_X10_weightOf : ab_MV me_X10_weightOf 10 1 := ⟨(ab_G_in (i := 1434) (by decide +kernel) (by decide +kernel)), (ab_G_in (i := 1433) (by decide +kernel) (by decide +kernel)), (ab_G_in (i := 57) (by decide +kernel) (by decide +kernel)), (ab_G_in (i := 72) (by decide +kernel) (by decide +kernel)), ⟨by decide, by decide, by decide +kernel⟩, by decide, by decide, _, _, rfl⟩
theorem mv_X10_withChannel : ab_MV me_X10_withChannel 10 0 := ⟨(ab_G_in (i := 1403) (by decide +kernel) (by decide +kernel)), (ab_G_in (i := 1402) (by decide +kernel) (by decide +kernel)), (ab_G_in (i := 54) (by decide +kernel) (by decide +kernel)), (ab_G_in (i := 72) (by decide +kernel) (by decide +kernel)), ⟨by decide, by decide, by decide +kernel⟩, by decide, by decide, _, _, rfl⟩
theorem mv_X1_allows : ab_MV me_X1_allows 1 1 := ⟨(ab_G_in (i := 498) (by decide +kernel) (by decide +kernel)), (ab_G_in (i := 496) (by decide +kernel) (by decide +kernel)), (ab_G_in (i := 497) (by decide +kernel) (by decide +kernel)), (ab_G_in (i := 64) (by decide +kernel) (by decide +kernel)), ⟨by decide, by decide, by decide +kernel⟩, by decide, by decide, _, _, rfl⟩
theorem mv_X1_swap : ab_MV me_X1_swap 1 0 := ⟨(ab_G_in (i := 506) (by decide +kernel) (by decide +kernel)), (ab_G_in (i := 504) (by decide +kernel) (by decide +kernel)), (ab_G_in (i := 505) (by decide +kernel) (by decide +kernel)), (ab_G_in (i := 64) (by decide +kernel) (by decide +kernel)), ⟨by decide, by decide, by decide +kernel⟩, by decide, by decide, _, _, rfl⟩
theorem mv_X1_tell : ab_MV me_X1_tell 1 4 := ⟨(ab_G_in (i := 478) (by decide +kernel) (by decide +kernel)), (ab_G_in (i := 476) (by decide +kernel) (by decide +kernel)), (ab_G_in (i := 477) (by decide +kernel) (by decide +kernel)), (ab_G_in (i := 64) (by decide +kernel) (by decide +kernel)), ⟨by decide, by decide, by decide +kernel⟩, by decide, by decide, _, _, rfl⟩
theorem mv_X2_addLacks : ab_MV me_X2_addLacks 2 3 := ⟨(ab_G_in (i := 683) (by decide +kernel) (by decide +kernel)), (ab_G_in (i := 682) (by decide +kernel) (by decide +kernel)), (ab_G_in (i := 10) (by decide +kernel) (by decide +kernel)), (ab_G_in (i := 67) (by decide +kernel) (by decide +kernel)), ⟨by decide, by decide, by decide +kernel⟩, by decide, by decide, _, _, rfl⟩
theorem mv_X2_addSumAt : ab_MV me_X2_addSumAt 2 2 := ⟨(ab_G_in (i := 692) (by decide +kernel) (by decide +kernel)), (ab_G_in (i := 691) (by decide +kernel) (by decide +kernel)), (ab_G_in (i := 12) (by decide +kernel) (by decide +kernel)), (ab_G_in (i := 67) (by decide +kernel) (by decide +kernel)), ⟨by decide, by decide, by decide +kernel⟩, by decide, by decide, _, _, rfl⟩
theorem mv_X2_addSums : ab_MV me_X2_addSums 2 4 := ⟨(ab_G_in (i := 688) (by decide +kernel) (by decide +kernel)), (ab_G_in (i := 687) (by decide +kernel) (by decide +kernel)), (ab_G_in (i := 11) (by decide +kernel) (by decide +kernel)), (ab_G_in (i := 67) (by decide +kernel) (by decide +kernel)), ⟨by decide, by decide, by decide +kernel⟩, by decide, by decide, _, _, rfl⟩
theorem mv_X2_bitOf : ab_MS me_X2_bitOf 1 := ⟨(ab_G_in (i := 627) (by decide +kernel) (by decide +kernel)), (ab_G_in (i := 626) (by decide +kernel) (by decide +kernel)), (ab_G_in (i := 67) (by decide +kernel) (by decide +kernel)), ⟨by decide, by decide, by decide +kernel⟩, by decide⟩
theorem mv_X2_freeChannels : ab_MV me_X2_freeChannels 2 3 := ⟨(ab_G_in (i := 612) (by decide +kernel) (by decide +kernel)), (ab_G_in (i := 610) (by decide +kernel) (by decide +kernel)), (ab_G_in (i := 611) (by decide +kernel) (by decide +kernel)), (ab_G_in (i := 67) (by decide +kernel) (by decide +kernel)), ⟨by decide, by decide, by decide +kernel⟩, by decide, by decide, _, _, rfl⟩
theorem mv_X2_isClean : ab_MV me_X2_isClean 2 1 := ⟨(ab_G_in (i := 701) (by decide +kernel) (by decide +kernel)), (ab_G_in (i := 699) (by decide +kernel) (by decide +kernel)), (ab_G_in (i := 700) (by decide +kernel) (by decide +kernel)), (ab_G_in (i := 67) (by decide +kernel) (by decide +kernel)), ⟨by decide, by decide, by decide +kernel⟩, by decide, by decide, _, _, rfl⟩
theorem mv_X2_lackAt : ab_MV me_X2_lackAt 2 4 := ⟨(ab_G_in (i := 548) (by decide +kernel) (by decide +kernel)), (ab_G_in (i := 547) (by decide +kernel) (by decide +kernel)), (ab_G_in (i := 1) (by decide +kernel) (by decide +kernel)), (ab_G_in (i := 67) (by decide +kernel) (by decide +kernel)), ⟨by decide, by decide, by decide +kernel⟩, by decide, by decide, _, _, rfl⟩
theorem mv_X2_lackOf : ab_MV me_X2_lackOf 2 3 := ⟨(ab_G_in (i := 544) (by decide +kernel) (by decide +kernel)), (ab_G_in (i := 542) (by decide +kernel) (by decide +kernel)), (ab_G_in (i := 543) (by decide +kernel) (by decide +kernel)), (ab_G_in (i := 67) (by decide +kernel) (by decide +kernel)), ⟨by decide, by decide, by decide +kernel⟩, by decide, by decide, _, _, rfl⟩
theorem mv_X2_lackingTwos : ab_MV me_X2_lackingTwos 2 1 := ⟨(ab_G_in (i := 589) (by decide +kernel) (by decide +kernel)), (ab_G_in (i := 587) (by decide +kernel) (by decide +kernel)), (ab_G_in (i := 588) (by decide +kernel) (by decide +kernel)), (ab_G_in (i := 67) (by decide +kernel) (by decide +kernel)), ⟨by decide, by decide, by decide +kernel⟩, by decide, by decide, _, _, rfl⟩
theorem mv_X2_lacks : ab_MV me_X2_lacks 2 1 := ⟨(ab_G_in (i := 540) (by decide +kernel) (by decide +kernel)), (ab_G_in (i := 538) (by decide +kernel) (by decide +kernel)), (ab_G_in (i := 539) (by decide +kernel) (by decide +kernel)), (ab_G_in (i := 67) (by decide +kernel) (by decide +kernel)), ⟨by decide, by decide, by decide +kernel⟩, by decide, by decide, _, _, rfl⟩
theorem mv_X2_served : ab_MV me_X2_served 2 1 := ⟨(ab_G_in (i := 581) (by decide +kernel) (by decide +kernel)), (ab_G_in (i := 579) (by decide +kernel) (by decide +kernel)), (ab_G_in (i := 580) (by decide +kernel) (by decide +kernel)), (ab_G_in (i := 67) (by decide +kernel) (by decide +kernel)), ⟨by decide, by decide, by decide +kernel⟩, by decide, by decide, _, _, rfl⟩
theorem mv_X2_strayBits : ab_MV me_X2_strayBits 2 1 := ⟨(ab_G_in (i := 486) (by decide +kernel) (by decide +kernel)), (ab_G_in (i := 484) (by decide +kernel) (by decide +kernel)), (ab_G_in (i := 485) (by decide +kernel) (by decide +kernel)), (ab_G_in (i := 67) (by decide +kernel) (by decide +kernel)), ⟨by decide, by decide, by decide +kernel⟩, by decide, by decide, _, _, rfl⟩
theorem mv_X2_sumMates : ab_MV me_X2_sumMates 2 4 := ⟨(ab_G_in (i := 620) (by decide +kernel) (by decide +kernel)), (ab_G_in (i := 619) (by decide +kernel) (by decide +kernel)), (ab_G_in (i := 6) (by decide +kernel) (by decide +kernel)), (ab_G_in (i := 67) (by decide +kernel) (by decide +kernel)), ⟨by decide, by decide, by decide +kernel⟩, by decide, by decide, _, _, rfl⟩
theorem mv_X2_sumTargets : ab_MV me_X2_sumTargets 2 3 := ⟨(ab_G_in (i := 624) (by decide +kernel) (by decide +kernel)), (ab_G_in (i := 623) (by decide +kernel) (by decide +kernel)), (ab_G_in (i := 7) (by decide +kernel) (by decide +kernel)), (ab_G_in (i := 67) (by decide +kernel) (by decide +kernel)), ⟨by decide, by decide, by decide +kernel⟩, by decide, by decide, _, _, rfl⟩
theorem mv_X2_sumTogether : ab_MV me_X2_sumTogether 2 4 := ⟨(ab_G_in (i := 563) (by decide +kernel) (by decide +kernel)), (ab_G_in (i := 562) (by decide +kernel) (by decide +kernel)), (ab_G_in (i := 2) (by decide +kernel) (by decide +kernel)), (ab_G_in (i := 67) (by decide +kernel) (by decide +kernel)), ⟨by decide, by decide, by decide +kernel⟩, by decide, by decide, _, _, rfl⟩
theorem mv_X2_sums : ab_MV me_X2_sums 2 1 := ⟨(ab_G_in (i := 559) (by decide +kernel) (by decide +kernel)), (ab_G_in (i := 557) (by decide +kernel) (by decide +kernel)), (ab_G_in (i := 558) (by decide +kernel) (by decide +kernel)), (ab_G_in (i := 67) (by decide +kernel) (by decide +kernel)), ⟨by decide, by decide, by decide +kernel⟩, by decide, by decide, _, _, rfl⟩
theorem mv_X2_sumsOfThree : ab_MV me_X2_sumsOfThree 2 4 := ⟨(ab_G_in (i := 571) (by decide +kernel) (by decide +kernel)), (ab_G_in (i := 570) (by decide +kernel) (by decide +kernel)), (ab_G_in (i := 3) (by decide +kernel) (by decide +kernel)), (ab_G_in (i := 67) (by decide +kernel) (by decide +kernel)), ⟨by decide, by decide, by decide +kernel⟩, by decide, by decide, _, _, rfl⟩
theorem mv_X2_tooNear : ab_MV me_X2_tooNear 2 3 := ⟨(ab_G_in (i := 616) (by decide +kernel) (by decide +kernel)), (ab_G_in (i := 615) (by decide +kernel) (by decide +kernel)), (ab_G_in (i := 5) (by decide +kernel) (by decide +kernel)), (ab_G_in (i := 67) (by decide +kernel) (by decide +kernel)), ⟨by decide, by decide, by decide +kernel⟩, by decide, by decide, _, _, rfl⟩
theorem mv_X2_totalHarm : ab_MV me_X2_totalHarm 2 1 := ⟨(ab_G_in (i := 536) (by decide +kernel) (by decide +kernel)), (ab_G_in (i := 534) (by decide +kernel) (by decide +kernel)), (ab_G_in (i := 535) (by decide +kernel) (by decide +kernel)), (ab_G_in (i := 67) (by decide +kernel) (by decide +kernel)), ⟨by decide, by decide, by decide +kernel⟩, by decide, by decide, _, _, rfl⟩
theorem mv_X2_weigh : ab_MV me_X2_weigh 2 2 := ⟨(ab_G_in (i := 679) (by decide +kernel) (by decide +kernel)), (ab_G_in (i := 677) (by decide +kernel) (by decide +kernel)), (ab_G_in (i := 678) (by decide +kernel) (by decide +kernel)), (ab_G_in (i := 67) (by decide +kernel) (by decide +kernel)), ⟨by decide, by decide, by decide +kernel⟩, by decide, by decide, _, _, rfl⟩
theorem mv_X3_addMast : ab_MV me_X3_addMast 3 4 := ⟨(ab_G_in (i := 385) (by decide +kernel) (by decide +kernel)), (ab_G_in (i := 383) (by decide +kernel) (by decide +kernel)), (ab_G_in (i := 384) (by decide +kernel) (by decide +kernel)), (ab_G_in (i := 62) (by decide +kernel) (by decide +kernel)), ⟨by decide, by decide, by decide +kernel⟩, by decide, by decide, _, _, rfl⟩
theorem mv_X3_allowed : ab_MV me_X3_allowed 3 1 := ⟨(ab_G_in (i := 490) (by decide +kernel) (by decide +kernel)), (ab_G_in (i := 488) (by decide +kernel) (by decide +kernel)), (ab_G_in (i := 489) (by decide +kernel) (by decide +kernel)), (ab_G_in (i := 62) (by decide +kernel) (by decide +kernel)), ⟨by decide, by decide, by decide +kernel⟩, by decide, by decide, _, _, rfl⟩
theorem mv_X3_areIn : ab_MV me_X3_areIn 3 3 := ⟨(ab_G_in (i := 567) (by decide +kernel) (by decide +kernel)), (ab_G_in (i := 565) (by decide +kernel) (by decide +kernel)), (ab_G_in (i := 566) (by decide +kernel) (by decide +kernel)), (ab_G_in (i := 62) (by decide +kernel) (by decide +kernel)), ⟨by decide, by decide, by decide +kernel⟩, by decide, by decide, _, _, rfl⟩
theorem mv_X3_barOf : ab_MV me_X3_barOf 3 2 := ⟨(ab_G_in (i := 430) (by decide +kernel) (by decide +kernel)), (ab_G_in (i := 428) (by decide +kernel) (by decide +kernel)), (ab_G_in (i := 429) (by decide +kernel) (by decide +kernel)), (ab_G_in (i := 62) (by decide +kernel) (by decide +kernel)), ⟨by decide, by decide, by decide +kernel⟩, by decide, by decide, _, _, rfl⟩
theorem mv_X3_barOfWants : ab_MV me_X3_barOfWants 3 2 := ⟨(ab_G_in (i := 552) (by decide +kernel) (by decide +kernel)), (ab_G_in (i := 550) (by decide +kernel) (by decide +kernel)), (ab_G_in (i := 551) (by decide +kernel) (by decide +kernel)), (ab_G_in (i := 62) (by decide +kernel) (by decide +kernel)), ⟨by decide, by decide, by decide +kernel⟩, by decide, by decide, _, _, rfl⟩
theorem mv_X3_barredTwos : ab_MV me_X3_barredTwos 3 0 := ⟨(ab_G_in (i := 808) (by decide +kernel) (by decide +kernel)), (ab_G_in (i := 806) (by decide +kernel) (by decide +kernel)), (ab_G_in (i := 807) (by decide +kernel) (by decide +kernel)), (ab_G_in (i := 62) (by decide +kernel) (by decide +kernel)), ⟨by decide, by decide, by decide +kernel⟩, by decide, by decide, _, _, rfl⟩
theorem mv_X3_freshBar : ab_MV me_X3_freshBar 3 2 := ⟨(ab_G_in (i := 402) (by decide +kernel) (by decide +kernel)), (ab_G_in (i := 401) (by decide +kernel) (by decide +kernel)), (ab_G_in (i := 0) (by decide +kernel) (by decide +kernel)), (ab_G_in (i := 62) (by decide +kernel) (by decide +kernel)), ⟨by decide, by decide, by decide +kernel⟩, by decide, by decide, _, _, rfl⟩
theorem mv_X3_gapOf : ab_MV me_X3_gapOf 3 1 := ⟨(ab_G_in (i := 494) (by decide +kernel) (by decide +kernel)), (ab_G_in (i := 492) (by decide +kernel) (by decide +kernel)), (ab_G_in (i := 493) (by decide +kernel) (by decide +kernel)), (ab_G_in (i := 62) (by decide +kernel) (by decide +kernel)), ⟨by decide, by decide, by decide +kernel⟩, by decide, by decide, _, _, rfl⟩
theorem mv_X3_hasMast : ab_MV me_X3_hasMast 3 1 := ⟨(ab_G_in (i := 421) (by decide +kernel) (by decide +kernel)), (ab_G_in (i := 419) (by decide +kernel) (by decide +kernel)), (ab_G_in (i := 420) (by decide +kernel) (by decide +kernel)), (ab_G_in (i := 62) (by decide +kernel) (by decide +kernel)), ⟨by decide, by decide, by decide +kernel⟩, by decide, by decide, _, _, rfl⟩
theorem mv_X3_hasWant : ab_MV me_X3_hasWant 3 1 := ⟨(ab_G_in (i := 453) (by decide +kernel) (by decide +kernel)), (ab_G_in (i := 451) (by decide +kernel) (by decide +kernel)), (ab_G_in (i := 452) (by decide +kernel) (by decide +kernel)), (ab_G_in (i := 62) (by decide +kernel) (by decide +kernel)), ⟨by decide, by decide, by decide +kernel⟩, by decide, by decide, _, _, rfl⟩
theorem mv_X3_joinedTo : ab_MV me_X3_joinedTo 3 1 := ⟨(ab_G_in (i := 791) (by decide +kernel) (by decide +kernel)), (ab_G_in (i := 790) (by decide +kernel) (by decide +kernel)), (ab_G_in (i := 23) (by decide +kernel) (by decide +kernel)), (ab_G_in (i := 62) (by decide +kernel) (by decide +kernel)), ⟨by decide, by decide, by decide +kernel⟩, by decide, by decide, _, _, rfl⟩
theorem mv_X3_kindOfWant : ab_MV me_X3_kindOfWant 3 1 := ⟨(ab_G_in (i := 457) (by decide +kernel) (by decide +kernel)), (ab_G_in (i := 455) (by decide +kernel) (by decide +kernel)), (ab_G_in (i := 456) (by decide +kernel) (by decide +kernel)), (ab_G_in (i := 62) (by decide +kernel) (by decide +kernel)), ⟨by decide, by decide, by decide +kernel⟩, by decide, by decide, _, _, rfl⟩
theorem mv_X3_measure : ab_MV me_X3_measure 3 0 := ⟨(ab_G_in (i := 398) (by decide +kernel) (by decide +kernel)), (ab_G_in (i := 396) (by decide +kernel) (by decide +kernel)), (ab_G_in (i := 397) (by decide +kernel) (by decide +kernel)), (ab_G_in (i := 62) (by decide +kernel) (by decide +kernel)), ⟨by decide, by decide, by decide +kernel⟩, by decide, by decide, _, _, rfl⟩
theorem mv_X3_partAround : ab_MV me_X3_partAround 3 1 := ⟨(ab_G_in (i := 787) (by decide +kernel) (by decide +kernel)), (ab_G_in (i := 786) (by decide +kernel) (by decide +kernel)), (ab_G_in (i := 22) (by decide +kernel) (by decide +kernel)), (ab_G_in (i := 62) (by decide +kernel) (by decide +kernel)), ⟨by decide, by decide, by decide +kernel⟩, by decide, by decide, _, _, rfl⟩
theorem mv_X3_partOf : ab_MV me_X3_partOf 3 1 := ⟨(ab_G_in (i := 783) (by decide +kernel) (by decide +kernel)), (ab_G_in (i := 781) (by decide +kernel) (by decide +kernel)), (ab_G_in (i := 782) (by decide +kernel) (by decide +kernel)), (ab_G_in (i := 62) (by decide +kernel) (by decide +kernel)), ⟨by decide, by decide, by decide +kernel⟩, by decide, by decide, _, _, rfl⟩
theorem mv_X3_parts : ab_MV me_X3_parts 3 0 := ⟨(ab_G_in (i := 817) (by decide +kernel) (by decide +kernel)), (ab_G_in (i := 815) (by decide +kernel) (by decide +kernel)), (ab_G_in (i := 816) (by decide +kernel) (by decide +kernel)), (ab_G_in (i := 62) (by decide +kernel) (by decide +kernel)), ⟨by decide, by decide, by decide +kernel⟩, by decide, by decide, _, _, rfl⟩
theorem mv_X3_shift : ab_MV me_X3_shift 3 2 := ⟨(ab_G_in (i := 425) (by decide +kernel) (by decide +kernel)), (ab_G_in (i := 423) (by decide +kernel) (by decide +kernel)), (ab_G_in (i := 424) (by decide +kernel) (by decide +kernel)), (ab_G_in (i := 62) (by decide +kernel) (by decide +kernel)), ⟨by decide, by decide, by decide +kernel⟩, by decide, by decide, _, _, rfl⟩
theorem mv_X3_square : ab_MV me_X3_square 3 2 := ⟨(ab_G_in (i := 406) (by decide +kernel) (by decide +kernel)), (ab_G_in (i := 404) (by decide +kernel) (by decide +kernel)), (ab_G_in (i := 405) (by decide +kernel) (by decide +kernel)), (ab_G_in (i := 62) (by decide +kernel) (by decide +kernel)), ⟨by decide, by decide, by decide +kernel⟩, by decide, by decide, _, _, rfl⟩
theorem mv_X3_threesIn : ab_MV me_X3_threesIn 3 0 := ⟨(ab_G_in (i := 812) (by decide +kernel) (by decide +kernel)), (ab_G_in (i := 810) (by decide +kernel) (by decide +kernel)), (ab_G_in (i := 811) (by decide +kernel) (by decide +kernel)), (ab_G_in (i := 62) (by decide +kernel) (by decide +kernel)), ⟨by decide, by decide, by decide +kernel⟩, by decide, by decide, _, _, rfl⟩
theorem mv_X4_begin : ab_MV me_X4_begin 4 6 := ⟨(ab_G_in (i := 389) (by decide +kernel) (by decide +kernel)), (ab_G_in (i := 387) (by decide +kernel) (by decide +kernel)), (ab_G_in (i := 388) (by decide +kernel) (by decide +kernel)), (ab_G_in (i := 65) (by decide +kernel) (by decide +kernel)), ⟨by decide, by decide, by decide +kernel⟩, by decide, by decide, _, _, rfl⟩
theorem mv_X4_goTo : ab_MV me_X4_goTo 4 1 := ⟨(ab_G_in (i := 393) (by decide +kernel) (by decide +kernel)), (ab_G_in (i := 391) (by decide +kernel) (by decide +kernel)), (ab_G_in (i := 392) (by decide +kernel) (by decide +kernel)), (ab_G_in (i := 65) (by decide +kernel) (by decide +kernel)), ⟨by decide, by decide, by decide +kernel⟩, by decide, by decide, _, _, rfl⟩
theorem mv_X4_heaviness : ab_MV me_X4_heaviness 4 0 := ⟨(ab_G_in (i := 897) (by decide +kernel) (by decide +kernel)), (ab_G_in (i := 895) (by decide +kernel) (by decide +kernel)), (ab_G_in (i := 896) (by decide +kernel) (by decide +kernel)), (ab_G_in (i := 65) (by decide +kernel) (by decide +kernel)), ⟨by decide, by decide, by decide +kernel⟩, by decide, by decide, _, _, rfl⟩
theorem mv_X4_takeAll : ab_MV me_X4_takeAll 4 1 := ⟨(ab_G_in (i := 845) (by decide +kernel) (by decide +kernel)), (ab_G_in (i := 843) (by decide +kernel) (by decide +kernel)), (ab_G_in (i := 844) (by decide +kernel) (by decide +kernel)), (ab_G_in (i := 65) (by decide +kernel) (by decide +kernel)), ⟨by decide, by decide, by decide +kernel⟩, by decide, by decide, _, _, rfl⟩
theorem mv_X4_trait : ab_MV me_X4_trait 4 1 := ⟨(ab_G_in (i := 825) (by decide +kernel) (by decide +kernel)), (ab_G_in (i := 823) (by decide +kernel) (by decide +kernel)), (ab_G_in (i := 824) (by decide +kernel) (by decide +kernel)), (ab_G_in (i := 65) (by decide +kernel) (by decide +kernel)), ⟨by decide, by decide, by decide +kernel⟩, by decide, by decide, _, _, rfl⟩
theorem mv_X5_canChange : ab_MV me_X5_canChange 5 2 := ⟨(ab_G_in (i := 674) (by decide +kernel) (by decide +kernel)), (ab_G_in (i := 673) (by decide +kernel) (by decide +kernel)), (ab_G_in (i := 9) (by decide +kernel) (by decide +kernel)), (ab_G_in (i := 69) (by decide +kernel) (by decide +kernel)), ⟨by decide, by decide, by decide +kernel⟩, by decide, by decide, _, _, rfl⟩
theorem mv_X5_changeBoth : ab_MV me_X5_changeBoth 5 3 := ⟨(ab_G_in (i := 720) (by decide +kernel) (by decide +kernel)), (ab_G_in (i := 719) (by decide +kernel) (by decide +kernel)), (ab_G_in (i := 14) (by decide +kernel) (by decide +kernel)), (ab_G_in (i := 69) (by decide +kernel) (by decide +kernel)), ⟨by decide, by decide, by decide +kernel⟩, by decide, by decide, _, _, rfl⟩
theorem mv_X5_changeOne : ab_MV me_X5_changeOne 5 1 := ⟨(ab_G_in (i := 706) (by decide +kernel) (by decide +kernel)), (ab_G_in (i := 704) (by decide +kernel) (by decide +kernel)), (ab_G_in (i := 705) (by decide +kernel) (by decide +kernel)), (ab_G_in (i := 69) (by decide +kernel) (by decide +kernel)), ⟨by decide, by decide, by decide +kernel⟩, by decide, by decide, _, _, rfl⟩
theorem mv_X5_changeTwo : ab_MV me_X5_changeTwo 5 1 := ⟨(ab_G_in (i := 716) (by decide +kernel) (by decide +kernel)), (ab_G_in (i := 714) (by decide +kernel) (by decide +kernel)), (ab_G_in (i := 715) (by decide +kernel) (by decide +kernel)), (ab_G_in (i := 69) (by decide +kernel) (by decide +kernel)), ⟨by decide, by decide, by decide +kernel⟩, by decide, by decide, _, _, rfl⟩
theorem mv_X5_improve : ab_MV me_X5_improve 5 1 := ⟨(ab_G_in (i := 670) (by decide +kernel) (by decide +kernel)), (ab_G_in (i := 668) (by decide +kernel) (by decide +kernel)), (ab_G_in (i := 669) (by decide +kernel) (by decide +kernel)), (ab_G_in (i := 69) (by decide +kernel) (by decide +kernel)), ⟨by decide, by decide, by decide +kernel⟩, by decide, by decide, _, _, rfl⟩
theorem mv_X5_leastFree : ab_MV me_X5_leastFree 5 3 := ⟨(ab_G_in (i := 711) (by decide +kernel) (by decide +kernel)), (ab_G_in (i := 710) (by decide +kernel) (by decide +kernel)), (ab_G_in (i := 13) (by decide +kernel) (by decide +kernel)), (ab_G_in (i := 69) (by decide +kernel) (by decide +kernel)), ⟨by decide, by decide, by decide +kernel⟩, by decide, by decide, _, _, rfl⟩
theorem mv_X6_at : ab_MV me_X6_at 6 1 := ⟨(ab_G_in (i := 1024) (by decide +kernel) (by decide +kernel)), (ab_G_in (i := 1022) (by decide +kernel) (by decide +kernel)), (ab_G_in (i := 1023) (by decide +kernel) (by decide +kernel)), (ab_G_in (i := 71) (by decide +kernel) (by decide +kernel)), ⟨by decide, by decide, by decide +kernel⟩, by decide, by decide, _, _, rfl⟩
theorem mv_X6_clear : ab_MV me_X6_clear 6 0 := ⟨(ab_G_in (i := 837) (by decide +kernel) (by decide +kernel)), (ab_G_in (i := 835) (by decide +kernel) (by decide +kernel)), (ab_G_in (i := 836) (by decide +kernel) (by decide +kernel)), (ab_G_in (i := 71) (by decide +kernel) (by decide +kernel)), ⟨by decide, by decide, by decide +kernel⟩, by decide, by decide, _, _, rfl⟩
theorem mv_X6_copyTo : ab_MV me_X6_copyTo 6 4 := ⟨(ab_G_in (i := 884) (by decide +kernel) (by decide +kernel)), (ab_G_in (i := 882) (by decide +kernel) (by decide +kernel)), (ab_G_in (i := 883) (by decide +kernel) (by decide +kernel)), (ab_G_in (i := 71) (by decide +kernel) (by decide +kernel)), ⟨by decide, by decide, by decide +kernel⟩, by decide, by decide, _, _, rfl⟩
theorem mv_X6_hasRange : ab_MV me_X6_hasRange 6 2 := ⟨(ab_G_in (i := 880) (by decide +kernel) (by decide +kernel)), (ab_G_in (i := 878) (by decide +kernel) (by decide +kernel)), (ab_G_in (i := 879) (by decide +kernel) (by decide +kernel)), (ab_G_in (i := 71) (by decide +kernel) (by decide +kernel)), ⟨by decide, by decide, by decide +kernel⟩, by decide, by decide, _, _, rfl⟩
theorem mv_X6_isRow : ab_MV me_X6_isRow 6 0 := ⟨(ab_G_in (i := 876) (by decide +kernel) (by decide +kernel)), (ab_G_in (i := 874) (by decide +kernel) (by decide +kernel)), (ab_G_in (i := 875) (by decide +kernel) (by decide +kernel)), (ab_G_in (i := 71) (by decide +kernel) (by decide +kernel)), ⟨by decide, by decide, by decide +kernel⟩, by decide, by decide, _, _, rfl⟩
theorem mv_X6_takeChannels : ab_MV me_X6_takeChannels 6 2 := ⟨(ab_G_in (i := 849) (by decide +kernel) (by decide +kernel)), (ab_G_in (i := 847) (by decide +kernel) (by decide +kernel)), (ab_G_in (i := 848) (by decide +kernel) (by decide +kernel)), (ab_G_in (i := 71) (by decide +kernel) (by decide +kernel)), ⟨by decide, by decide, by decide +kernel⟩, by decide, by decide, _, _, rfl⟩
theorem mv_X6_takeMast : ab_MV me_X6_takeMast 6 1 := ⟨(ab_G_in (i := 841) (by decide +kernel) (by decide +kernel)), (ab_G_in (i := 839) (by decide +kernel) (by decide +kernel)), (ab_G_in (i := 840) (by decide +kernel) (by decide +kernel)), (ab_G_in (i := 71) (by decide +kernel) (by decide +kernel)), ⟨by decide, by decide, by decide +kernel⟩, by decide, by decide, _, _, rfl⟩
theorem mv_X6_takeSquares : ab_MV me_X6_takeSquares 6 2 := ⟨(ab_G_in (i := 853) (by decide +kernel) (by decide +kernel)), (ab_G_in (i := 851) (by decide +kernel) (by decide +kernel)), (ab_G_in (i := 852) (by decide +kernel) (by decide +kernel)), (ab_G_in (i := 71) (by decide +kernel) (by decide +kernel)), ⟨by decide, by decide, by decide +kernel⟩, by decide, by decide, _, _, rfl⟩
theorem mv_X6_takeZeros : ab_MV me_X6_takeZeros 6 2 := ⟨(ab_G_in (i := 862) (by decide +kernel) (by decide +kernel)), (ab_G_in (i := 860) (by decide +kernel) (by decide +kernel)), (ab_G_in (i := 861) (by decide +kernel) (by decide +kernel)), (ab_G_in (i := 71) (by decide +kernel) (by decide +kernel)), ⟨by decide, by decide, by decide +kernel⟩, by decide, by decide, _, _, rfl⟩
theorem mv_X7_add : ab_MV me_X7_add 7 3 := ⟨(ab_G_in (i := 465) (by decide +kernel) (by decide +kernel)), (ab_G_in (i := 463) (by decide +kernel) (by decide +kernel)), (ab_G_in (i := 464) (by decide +kernel) (by decide +kernel)), (ab_G_in (i := 63) (by decide +kernel) (by decide +kernel)), ⟨by decide, by decide, by decide +kernel⟩, by decide, by decide, _, _, rfl⟩
theorem mv_X7_greatest : ab_MV me_X7_greatest 7 2 := ⟨(ab_G_in (i := 410) (by decide +kernel) (by decide +kernel)), (ab_G_in (i := 408) (by decide +kernel) (by decide +kernel)), (ab_G_in (i := 409) (by decide +kernel) (by decide +kernel)), (ab_G_in (i := 63) (by decide +kernel) (by decide +kernel)), ⟨by decide, by decide, by decide +kernel⟩, by decide, by decide, _, _, rfl⟩
theorem mv_X8_below : ab_MS me_X8_below 1 := ⟨(ab_G_in (i := 632) (by decide +kernel) (by decide +kernel)), (ab_G_in (i := 631) (by decide +kernel) (by decide +kernel)), (ab_G_in (i := 68) (by decide +kernel) (by decide +kernel)), ⟨by decide, by decide, by decide +kernel⟩, by decide⟩
theorem mv_X8_handOver : ab_MV me_X8_handOver 8 1 := ⟨(ab_G_in (i := 641) (by decide +kernel) (by decide +kernel)), (ab_G_in (i := 639) (by decide +kernel) (by decide +kernel)), (ab_G_in (i := 640) (by decide +kernel) (by decide +kernel)), (ab_G_in (i := 68) (by decide +kernel) (by decide +kernel)), ⟨by decide, by decide, by decide +kernel⟩, by decide, by decide, _, _, rfl⟩
theorem mv_X8_open : ab_MV me_X8_open 8 2 := ⟨(ab_G_in (i := 608) (by decide +kernel) (by decide +kernel)), (ab_G_in (i := 607) (by decide +kernel) (by decide +kernel)), (ab_G_in (i := 4) (by decide +kernel) (by decide +kernel)), (ab_G_in (i := 68) (by decide +kernel) (by decide +kernel)), ⟨by decide, by decide, by decide +kernel⟩, by decide, by decide, _, _, rfl⟩
theorem mv_X8_search : ab_MV me_X8_search 8 1 := ⟨(ab_G_in (i := 604) (by decide +kernel) (by decide +kernel)), (ab_G_in (i := 602) (by decide +kernel) (by decide +kernel)), (ab_G_in (i := 603) (by decide +kernel) (by decide +kernel)), (ab_G_in (i := 68) (by decide +kernel) (by decide +kernel)), ⟨by decide, by decide, by decide +kernel⟩, by decide, by decide, _, _, rfl⟩
theorem mv_X8_takes : ab_MV me_X8_takes 8 1 := ⟨(ab_G_in (i := 637) (by decide +kernel) (by decide +kernel)), (ab_G_in (i := 636) (by decide +kernel) (by decide +kernel)), (ab_G_in (i := 8) (by decide +kernel) (by decide +kernel)), (ab_G_in (i := 68) (by decide +kernel) (by decide +kernel)), ⟨by decide, by decide, by decide +kernel⟩, by decide, by decide, _, _, rfl⟩
theorem mv_X9_bar : ab_MV me_X9_bar 9 2 := ⟨(ab_G_in (i := 510) (by decide +kernel) (by decide +kernel)), (ab_G_in (i := 508) (by decide +kernel) (by decide +kernel)), (ab_G_in (i := 509) (by decide +kernel) (by decide +kernel)), (ab_G_in (i := 61) (by decide +kernel) (by decide +kernel)), ⟨by decide, by decide, by decide +kernel⟩, by decide, by decide, _, _, rfl⟩
theorem mv_X9_better : ab_MV me_X9_better 9 1 := ⟨(ab_G_in (i := 666) (by decide +kernel) (by decide +kernel)), (ab_G_in (i := 664) (by decide +kernel) (by decide +kernel)), (ab_G_in (i := 665) (by decide +kernel) (by decide +kernel)), (ab_G_in (i := 61) (by decide +kernel) (by decide +kernel)), ⟨by decide, by decide, by decide +kernel⟩, by decide, by decide, _, _, rfl⟩
theorem mv_X9_border : ab_MV me_X9_border 9 4 := ⟨(ab_G_in (i := 474) (by decide +kernel) (by decide +kernel)), (ab_G_in (i := 472) (by decide +kernel) (by decide +kernel)), (ab_G_in (i := 473) (by decide +kernel) (by decide +kernel)), (ab_G_in (i := 61) (by decide +kernel) (by decide +kernel)), ⟨by decide, by decide, by decide +kernel⟩, by decide, by decide, _, _, rfl⟩
theorem mv_X9_bound : ab_MV me_X9_bound 9 1 := ⟨(ab_G_in (i := 724) (by decide +kernel) (by decide +kernel)), (ab_G_in (i := 722) (by decide +kernel) (by decide +kernel)), (ab_G_in (i := 723) (by decide +kernel) (by decide +kernel)), (ab_G_in (i := 61) (by decide +kernel) (by decide +kernel)), ⟨by decide, by decide, by decide +kernel⟩, by decide, by decide, _, _, rfl⟩
theorem mv_X9_broken : ab_MV me_X9_broken 9 1 := ⟨(ab_G_in (i := 585) (by decide +kernel) (by decide +kernel)), (ab_G_in (i := 583) (by decide +kernel) (by decide +kernel)), (ab_G_in (i := 584) (by decide +kernel) (by decide +kernel)), (ab_G_in (i := 61) (by decide +kernel) (by decide +kernel)), ⟨by decide, by decide, by decide +kernel⟩, by decide, by decide, _, _, rfl⟩
theorem mv_X9_channel : ab_MV me_X9_channel 9 1 := ⟨(ab_G_in (i := 524) (by decide +kernel) (by decide +kernel)), (ab_G_in (i := 522) (by decide +kernel) (by decide +kernel)), (ab_G_in (i := 523) (by decide +kernel) (by decide +kernel)), (ab_G_in (i := 61) (by decide +kernel) (by decide +kernel)), ⟨by decide, by decide, by decide +kernel⟩, by decide, by decide, _, _, rfl⟩
theorem mv_X9_copy : ab_MV me_X9_copy 9 5 := ⟨(ab_G_in (i := 872) (by decide +kernel) (by decide +kernel)), (ab_G_in (i := 870) (by decide +kernel) (by decide +kernel)), (ab_G_in (i := 871) (by decide +kernel) (by decide +kernel)), (ab_G_in (i := 61) (by decide +kernel) (by decide +kernel)), ⟨by decide, by decide, by decide +kernel⟩, by decide, by decide, _, _, rfl⟩
theorem mv_X9_count : ab_MV me_X9_count 9 1 := ⟨(ab_G_in (i := 804) (by decide +kernel) (by decide +kernel)), (ab_G_in (i := 802) (by decide +kernel) (by decide +kernel)), (ab_G_in (i := 803) (by decide +kernel) (by decide +kernel)), (ab_G_in (i := 61) (by decide +kernel) (by decide +kernel)), ⟨by decide, by decide, by decide +kernel⟩, by decide, by decide, _, _, rfl⟩
theorem mv_X9_crowd : ab_MV me_X9_crowd 9 0 := ⟨(ab_G_in (i := 763) (by decide +kernel) (by decide +kernel)), (ab_G_in (i := 761) (by decide +kernel) (by decide +kernel)), (ab_G_in (i := 762) (by decide +kernel) (by decide +kernel)), (ab_G_in (i := 61) (by decide +kernel) (by decide +kernel)), ⟨by decide, by decide, by decide +kernel⟩, by decide, by decide, _, _, rfl⟩
theorem mv_X9_fewest : ab_MV me_X9_fewest 9 1 := ⟨(ab_G_in (i := 697) (by decide +kernel) (by decide +kernel)), (ab_G_in (i := 695) (by decide +kernel) (by decide +kernel)), (ab_G_in (i := 696) (by decide +kernel) (by decide +kernel)), (ab_G_in (i := 61) (by decide +kernel) (by decide +kernel)), ⟨by decide, by decide, by decide +kernel⟩, by decide, by decide, _, _, rfl⟩
theorem mv_X9_gap : ab_MV me_X9_gap 9 2 := ⟨(ab_G_in (i := 445) (by decide +kernel) (by decide +kernel)), (ab_G_in (i := 443) (by decide +kernel) (by decide +kernel)), (ab_G_in (i := 444) (by decide +kernel) (by decide +kernel)), (ab_G_in (i := 61) (by decide +kernel) (by decide +kernel)), ⟨by decide, by decide, by decide +kernel⟩, by decide, by decide, _, _, rfl⟩
theorem mv_X9_harm : ab_MV me_X9_harm 9 0 := ⟨(ab_G_in (i := 532) (by decide +kernel) (by decide +kernel)), (ab_G_in (i := 530) (by decide +kernel) (by decide +kernel)), (ab_G_in (i := 531) (by decide +kernel) (by decide +kernel)), (ab_G_in (i := 61) (by decide +kernel) (by decide +kernel)), ⟨by decide, by decide, by decide +kernel⟩, by decide, by decide, _, _, rfl⟩
theorem mv_X9_image : ab_MV me_X9_image 9 0 := ⟨(ab_G_in (i := 795) (by decide +kernel) (by decide +kernel)), (ab_G_in (i := 793) (by decide +kernel) (by decide +kernel)), (ab_G_in (i := 794) (by decide +kernel) (by decide +kernel)), (ab_G_in (i := 61) (by decide +kernel) (by decide +kernel)), ⟨by decide, by decide, by decide +kernel⟩, by decide, by decide, _, _, rfl⟩
theorem mv_X9_isPlace : ab_MS me_X9_isPlace 1 := ⟨(ab_G_in (i := 381) (by decide +kernel) (by decide +kernel)), (ab_G_in (i := 380) (by decide +kernel) (by decide +kernel)), (ab_G_in (i := 61) (by decide +kernel) (by decide +kernel)), ⟨by decide, by decide, by decide +kernel⟩, by decide⟩
theorem mv_X9_isShelf : ab_MS me_X9_isShelf 1 := ⟨(ab_G_in (i := 833) (by decide +kernel) (by decide +kernel)), (ab_G_in (i := 832) (by decide +kernel) (by decide +kernel)), (ab_G_in (i := 61) (by decide +kernel) (by decide +kernel)), ⟨by decide, by decide, by decide +kernel⟩, by decide⟩
theorem mv_X9_keep : ab_MV me_X9_keep 9 3 := ⟨(ab_G_in (i := 830) (by decide +kernel) (by decide +kernel)), (ab_G_in (i := 828) (by decide +kernel) (by decide +kernel)), (ab_G_in (i := 829) (by decide +kernel) (by decide +kernel)), (ab_G_in (i := 61) (by decide +kernel) (by decide +kernel)), ⟨by decide, by decide, by decide +kernel⟩, by decide, by decide, _, _, rfl⟩
theorem mv_X9_kept : ab_MV me_X9_kept 9 0 := ⟨(ab_G_in (i := 577) (by decide +kernel) (by decide +kernel)), (ab_G_in (i := 575) (by decide +kernel) (by decide +kernel)), (ab_G_in (i := 576) (by decide +kernel) (by decide +kernel)), (ab_G_in (i := 61) (by decide +kernel) (by decide +kernel)), ⟨by decide, by decide, by decide +kernel⟩, by decide, by decide, _, _, rfl⟩
theorem mv_X9_least : ab_MV me_X9_least 9 0 := ⟨(ab_G_in (i := 652) (by decide +kernel) (by decide +kernel)), (ab_G_in (i := 650) (by decide +kernel) (by decide +kernel)), (ab_G_in (i := 651) (by decide +kernel) (by decide +kernel)), (ab_G_in (i := 61) (by decide +kernel) (by decide +kernel)), ⟨by decide, by decide, by decide +kernel⟩, by decide, by decide, _, _, rfl⟩
theorem mv_X9_list : ab_MV me_X9_list 9 2 := ⟨(ab_G_in (i := 434) (by decide +kernel) (by decide +kernel)), (ab_G_in (i := 432) (by decide +kernel) (by decide +kernel)), (ab_G_in (i := 433) (by decide +kernel) (by decide +kernel)), (ab_G_in (i := 61) (by decide +kernel) (by decide +kernel)), ⟨by decide, by decide, by decide +kernel⟩, by decide, by decide, _, _, rfl⟩
theorem mv_X9_look : ab_MV me_X9_look 9 2 := ⟨(ab_G_in (i := 821) (by decide +kernel) (by decide +kernel)), (ab_G_in (i := 819) (by decide +kernel) (by decide +kernel)), (ab_G_in (i := 820) (by decide +kernel) (by decide +kernel)), (ab_G_in (i := 61) (by decide +kernel) (by decide +kernel)), ⟨by decide, by decide, by decide +kernel⟩, by decide, by decide, _, _, rfl⟩
theorem mv_X9_make : ab_MV me_X9_make 9 3 := ⟨(ab_G_in (i := 858) (by decide +kernel) (by decide +kernel)), (ab_G_in (i := 856) (by decide +kernel) (by decide +kernel)), (ab_G_in (i := 857) (by decide +kernel) (by decide +kernel)), (ab_G_in (i := 61) (by decide +kernel) (by decide +kernel)), ⟨by decide, by decide, by decide +kernel⟩, by decide, by decide, _, _, rfl⟩
theorem mv_X9_mast : ab_MV me_X9_mast 9 4 := ⟨(ab_G_in (i := 375) (by decide +kernel) (by decide +kernel)), (ab_G_in (i := 373) (by decide +kernel) (by decide +kernel)), (ab_G_in (i := 374) (by decide +kernel) (by decide +kernel)), (ab_G_in (i := 61) (by decide +kernel) (by decide +kernel)), ⟨by decide, by decide, by decide +kernel⟩, by decide, by decide, _, _, rfl⟩
theorem mv_X9_may : ab_MV me_X9_may 9 2 := ⟨(ab_G_in (i := 515) (by decide +kernel) (by decide +kernel)), (ab_G_in (i := 513) (by decide +kernel) (by decide +kernel)), (ab_G_in (i := 514) (by decide +kernel) (by decide +kernel)), (ab_G_in (i := 61) (by decide +kernel) (by decide +kernel)), ⟨by decide, by decide, by decide +kernel⟩, by decide, by decide, _, _, rfl⟩
theorem mv_X9_move : ab_MV me_X9_move 9 2 := ⟨(ab_G_in (i := 417) (by decide +kernel) (by decide +kernel)), (ab_G_in (i := 415) (by decide +kernel) (by decide +kernel)), (ab_G_in (i := 416) (by decide +kernel) (by decide +kernel)), (ab_G_in (i := 61) (by decide +kernel) (by decide +kernel)), ⟨by decide, by decide, by decide +kernel⟩, by decide, by decide, _, _, rfl⟩
theorem mv_X9_of : ab_MV me_X9_of 9 1 := ⟨(ab_G_in (i := 528) (by decide +kernel) (by decide +kernel)), (ab_G_in (i := 526) (by decide +kernel) (by decide +kernel)), (ab_G_in (i := 527) (by decide +kernel) (by decide +kernel)), (ab_G_in (i := 61) (by decide +kernel) (by decide +kernel)), ⟨by decide, by decide, by decide +kernel⟩, by decide, by decide, _, _, rfl⟩
theorem mv_X9_own : ab_MV me_X9_own 9 2 := ⟨(ab_G_in (i := 470) (by decide +kernel) (by decide +kernel)), (ab_G_in (i := 468) (by decide +kernel) (by decide +kernel)), (ab_G_in (i := 469) (by decide +kernel) (by decide +kernel)), (ab_G_in (i := 61) (by decide +kernel) (by decide +kernel)), ⟨by decide, by decide, by decide +kernel⟩, by decide, by decide, _, _, rfl⟩
theorem mv_X9_pair : ab_MV me_X9_pair 9 2 := ⟨(ab_G_in (i := 595) (by decide +kernel) (by decide +kernel)), (ab_G_in (i := 593) (by decide +kernel) (by decide +kernel)), (ab_G_in (i := 594) (by decide +kernel) (by decide +kernel)), (ab_G_in (i := 61) (by decide +kernel) (by decide +kernel)), ⟨by decide, by decide, by decide +kernel⟩, by decide, by decide, _, _, rfl⟩
theorem mv_X9_part : ab_MV me_X9_part 9 1 := ⟨(ab_G_in (i := 779) (by decide +kernel) (by decide +kernel)), (ab_G_in (i := 777) (by decide +kernel) (by decide +kernel)), (ab_G_in (i := 778) (by decide +kernel) (by decide +kernel)), (ab_G_in (i := 61) (by decide +kernel) (by decide +kernel)), ⟨by decide, by decide, by decide +kernel⟩, by decide, by decide, _, _, rfl⟩
theorem mv_X9_plan : ab_MV me_X9_plan 9 1 := ⟨(ab_G_in (i := 600) (by decide +kernel) (by decide +kernel)), (ab_G_in (i := 598) (by decide +kernel) (by decide +kernel)), (ab_G_in (i := 599) (by decide +kernel) (by decide +kernel)), (ab_G_in (i := 61) (by decide +kernel) (by decide +kernel)), ⟨by decide, by decide, by decide +kernel⟩, by decide, by decide, _, _, rfl⟩
theorem mv_X9_refusalOfMast : ab_MV me_X9_refusalOfMast 9 1 := ⟨(ab_G_in (i := 893) (by decide +kernel) (by decide +kernel)), (ab_G_in (i := 892) (by decide +kernel) (by decide +kernel)), (ab_G_in (i := 24) (by decide +kernel) (by decide +kernel)), (ab_G_in (i := 61) (by decide +kernel) (by decide +kernel)), ⟨by decide, by decide, by decide +kernel⟩, by decide, by decide, _, _, rfl⟩
theorem mv_X9_restore : ab_MV me_X9_restore 9 0 := ⟨(ab_G_in (i := 800) (by decide +kernel) (by decide +kernel)), (ab_G_in (i := 798) (by decide +kernel) (by decide +kernel)), (ab_G_in (i := 799) (by decide +kernel) (by decide +kernel)), (ab_G_in (i := 61) (by decide +kernel) (by decide +kernel)), ⟨by decide, by decide, by decide +kernel⟩, by decide, by decide, _, _, rfl⟩
theorem mv_X9_row : ab_MV me_X9_row 9 3 := ⟨(ab_G_in (i := 461) (by decide +kernel) (by decide +kernel)), (ab_G_in (i := 459) (by decide +kernel) (by decide +kernel)), (ab_G_in (i := 460) (by decide +kernel) (by decide +kernel)), (ab_G_in (i := 61) (by decide +kernel) (by decide +kernel)), ⟨by decide, by decide, by decide +kernel⟩, by decide, by decide, _, _, rfl⟩
theorem mv_X9_set : ab_MV me_X9_set 9 2 := ⟨(ab_G_in (i := 520) (by decide +kernel) (by decide +kernel)), (ab_G_in (i := 518) (by decide +kernel) (by decide +kernel)), (ab_G_in (i := 519) (by decide +kernel) (by decide +kernel)), (ab_G_in (i := 61) (by decide +kernel) (by decide +kernel)), ⟨by decide, by decide, by decide +kernel⟩, by decide, by decide, _, _, rfl⟩
theorem mv_X9_span : ab_MV me_X9_span 9 0 := ⟨(ab_G_in (i := 656) (by decide +kernel) (by decide +kernel)), (ab_G_in (i := 654) (by decide +kernel) (by decide +kernel)), (ab_G_in (i := 655) (by decide +kernel) (by decide +kernel)), (ab_G_in (i := 61) (by decide +kernel) (by decide +kernel)), ⟨by decide, by decide, by decide +kernel⟩, by decide, by decide, _, _, rfl⟩
theorem mv_X9_stay : ab_MV me_X9_stay 9 2 := ⟨(ab_G_in (i := 449) (by decide +kernel) (by decide +kernel)), (ab_G_in (i := 447) (by decide +kernel) (by decide +kernel)), (ab_G_in (i := 448) (by decide +kernel) (by decide +kernel)), (ab_G_in (i := 61) (by decide +kernel) (by decide +kernel)), ⟨by decide, by decide, by decide +kernel⟩, by decide, by decide, _, _, rfl⟩
theorem mv_X9_tries : ab_MV me_X9_tries 9 0 := ⟨(ab_G_in (i := 648) (by decide +kernel) (by decide +kernel)), (ab_G_in (i := 646) (by decide +kernel) (by decide +kernel)), (ab_G_in (i := 647) (by decide +kernel) (by decide +kernel)), (ab_G_in (i := 61) (by decide +kernel) (by decide +kernel)), ⟨by decide, by decide, by decide +kernel⟩, by decide, by decide, _, _, rfl⟩
theorem mv_X9_turn : ab_MV me_X9_turn 9 0 := ⟨(ab_G_in (i := 482) (by decide +kernel) (by decide +kernel)), (ab_G_in (i := 480) (by decide +kernel) (by decide +kernel)), (ab_G_in (i := 481) (by decide +kernel) (by decide +kernel)), (ab_G_in (i := 61) (by decide +kernel) (by decide +kernel)), ⟨by decide, by decide, by decide +kernel⟩, by decide, by decide, _, _, rfl⟩
theorem mv_X9_weight : ab_MV me_X9_weight 9 1 := ⟨(ab_G_in (i := 889) (by decide +kernel) (by decide +kernel)), (ab_G_in (i := 887) (by decide +kernel) (by decide +kernel)), (ab_G_in (i := 888) (by decide +kernel) (by decide +kernel)), (ab_G_in (i := 61) (by decide +kernel) (by decide +kernel)), ⟨by decide, by decide, by decide +kernel⟩, by decide, by decide, _, _, rfl⟩
theorem mv_X9_within : ab_MS me_X9_within 3 := ⟨(ab_G_in (i := 378) (by decide +kernel) (by decide +kernel)), (ab_G_in (i := 377) (by decide +kernel) (by decide +kernel)), (ab_G_in (i := 61) (by decide +kernel) (by decide +kernel)), ⟨by decide, by decide, by decide +kernel⟩, by decide⟩
theorem kw_RX9_97 : Cond.constant RX9 97 1073741823 ∈ ab_G := (ab_G_in (i := 435) (by decide +kernel) (by decide +kernel))
theorem kw_RX9_205 : Cond.constant RX9 205 1000000 ∈ ab_G := (ab_G_in (i := 657) (by decide +kernel) (by decide +kernel))
theorem kw_RX0_73 : Cond.constant RX0 73 1000000 ∈ ab_G := (ab_G_in (i := 754) (by decide +kernel) (by decide +kernel))
theorem kw_RX1_38 : Cond.constant RX1 38 1073741823 ∈ ab_G := (ab_G_in (i := 502) (by decide +kernel) (by decide +kernel))
theorem kw_RX2_95 : Cond.constantLong RX2 95 (-1) ∈ ab_G := (ab_G_in (i := 628) (by decide +kernel) (by decide +kernel))
theorem kw_RX4_31 : Cond.constant RX4 31 1073741823 ∈ ab_G := (ab_G_in (i := 394) (by decide +kernel) (by decide +kernel))
theorem kw_RX8_68 : Cond.constant RX8 68 1073741823 ∈ ab_G := (ab_G_in (i := 633) (by decide +kernel) (by decide +kernel))
theorem kw_RX10_111 : Cond.constantLong RX10 111 60 ∈ ab_G := (ab_G_in (i := 1164) (by decide +kernel) (by decide +kernel))
theorem kw_RX10_117 : Cond.constant RX10 117 1073741824 ∈ ab_G := (ab_G_in (i := 1189) (by decide +kernel) (by decide +kernel))
theorem kw_RX10_118 : Cond.constantLong RX10 118 3 ∈ ab_G := (ab_G_in (i := 1157) (by decide +kernel) (by decide +kernel))
theorem kw_RX10_124 : Cond.constant RX10 124 1073741823 ∈ ab_G := (ab_G_in (i := 1165) (by decide +kernel) (by decide +kernel))
theorem kw_RX10_145 : Cond.constantLong RX10 145 10 ∈ ab_G := (ab_G_in (i := 1198) (by decide +kernel) (by decide +kernel))
theorem kw_RX10_150 : Cond.constantLong RX10 150 (-1) ∈ ab_G := (ab_G_in (i := 1207) (by decide +kernel) (by decide +kernel))
theorem kw_RX10_152 : Cond.constantLong RX10 152 29 ∈ ab_G := (ab_G_in (i := 1208) (by decide +kernel) (by decide +kernel))
theorem kw_RX10_154 : Cond.constantLong RX10 154 10000 ∈ ab_G := (ab_G_in (i := 1213) (by decide +kernel) (by decide +kernel))
theorem kw_RX10_156 : Cond.constantLong RX10 156 6 ∈ ab_G := (ab_G_in (i := 1214) (by decide +kernel) (by decide +kernel))
theorem kw_RX10_158 : Cond.constantLong RX10 158 4 ∈ ab_G := (ab_G_in (i := 1215) (by decide +kernel) (by decide +kernel))
theorem kw_RX10_203 : Cond.constantLong RX10 203 2 ∈ ab_G := (ab_G_in (i := 1304) (by decide +kernel) (by decide +kernel))
theorem kw_RX10_218 : Cond.constantLong RX10 218 30 ∈ ab_G := (ab_G_in (i := 1309) (by decide +kernel) (by decide +kernel))
theorem kw_RX10_229 : Cond.constantLong RX10 229 50 ∈ ab_G := (ab_G_in (i := 1346) (by decide +kernel) (by decide +kernel))
theorem kw_RX10_241 : Cond.constant RX10 241 1000000 ∈ ab_G := (ab_G_in (i := 1379) (by decide +kernel) (by decide +kernel))
theorem kw_RJ6_265 : Cond.constant RJ6 265 1431655765 ∈ ab_G := (ab_G_in (i := 439) (by decide +kernel) (by decide +kernel))
theorem kw_RJ6_266 : Cond.constant RJ6 266 858993459 ∈ ab_G := (ab_G_in (i := 440) (by decide +kernel) (by decide +kernel))
theorem kw_RJ6_267 : Cond.constant RJ6 267 252645135 ∈ ab_G := (ab_G_in (i := 441) (by decide +kernel) (by decide +kernel))
end
section
theorem dJ6_bitCount_0f7a4_0 : decode cJ6_bitCount_0f7a4 0 = .ok (.iload_n 0, 1) := by decide +kernel
theorem dJ6_bitCount_0f7a4_1 : decode cJ6_bitCount_0f7a4 1 = .ok (.iload_n 0, 1) := by decide +kernel
theorem dJ6_bitCount_0f7a4_2 : decode cJ6_bitCount_0f7a4 2 = .ok (.iconst 1, 1) := by decide +kernel
theorem dJ6_bitCount_0f7a4_3 : decode cJ6_bitCount_0f7a4 3 = .ok (.iushr, 1) := by decide +kernel
theorem dJ6_bitCount_0f7a4_4 : decode cJ6_bitCount_0f7a4 4 = .ok (.ldc_w 265, 3) := by decide +kernel
theorem dJ6_bitCount_0f7a4_7 : decode cJ6_bitCount_0f7a4 7 = .ok (.iand, 1) := by decide +kernel
theorem dJ6_bitCount_0f7a4_8 : decode cJ6_bitCount_0f7a4 8 = .ok (.isub, 1) := by decide +kernel
theorem dJ6_bitCount_0f7a4_9 : decode cJ6_bitCount_0f7a4 9 = .ok (.istore_n 0, 1) := by decide +kernel
theorem dJ6_bitCount_0f7a4_10 : decode cJ6_bitCount_0f7a4 10 = .ok (.iload_n 0, 1) := by decide +kernel
theorem dJ6_bitCount_0f7a4_11 : decode cJ6_bitCount_0f7a4 11 = .ok (.ldc_w 266, 3) := by decide +kernel
theorem dJ6_bitCount_0f7a4_14 : decode cJ6_bitCount_0f7a4 14 = .ok (.iand, 1) := by decide +kernel
theorem dJ6_bitCount_0f7a4_15 : decode cJ6_bitCount_0f7a4 15 = .ok (.iload_n 0, 1) := by decide +kernel
theorem dJ6_bitCount_0f7a4_16 : decode cJ6_bitCount_0f7a4 16 = .ok (.iconst 2, 1) := by decide +kernel
theorem dJ6_bitCount_0f7a4_17 : decode cJ6_bitCount_0f7a4 17 = .ok (.iushr, 1) := by decide +kernel
theorem dJ6_bitCount_0f7a4_18 : decode cJ6_bitCount_0f7a4 18 = .ok (.ldc_w 266, 3) := by decide +kernel
theorem dJ6_bitCount_0f7a4_21 : decode cJ6_bitCount_0f7a4 21 = .ok (.iand, 1) := by decide +kernel
theorem dJ6_bitCount_0f7a4_22 : decode cJ6_bitCount_0f7a4 22 = .ok (.iadd, 1) := by decide +kernel
theorem dJ6_bitCount_0f7a4_23 : decode cJ6_bitCount_0f7a4 23 = .ok (.istore_n 0, 1) := by decide +kernel
theorem dJ6_bitCount_0f7a4_24 : decode cJ6_bitCount_0f7a4 24 = .ok (.iload_n 0, 1) := by decide +kernel
theorem dJ6_bitCount_0f7a4_25 : decode cJ6_bitCount_0f7a4 25 = .ok (.iload_n 0, 1) := by decide +kernel
theorem dJ6_bitCount_0f7a4_26 : decode cJ6_bitCount_0f7a4 26 = .ok (.iconst 4, 1) := by decide +kernel
theorem dJ6_bitCount_0f7a4_27 : decode cJ6_bitCount_0f7a4 27 = .ok (.iushr, 1) := by decide +kernel
theorem dJ6_bitCount_0f7a4_28 : decode cJ6_bitCount_0f7a4 28 = .ok (.iadd, 1) := by decide +kernel
theorem dJ6_bitCount_0f7a4_29 : decode cJ6_bitCount_0f7a4 29 = .ok (.ldc_w 267, 3) := by decide +kernel
theorem dJ6_bitCount_0f7a4_32 : decode cJ6_bitCount_0f7a4 32 = .ok (.iand, 1) := by decide +kernel
theorem dJ6_bitCount_0f7a4_33 : decode cJ6_bitCount_0f7a4 33 = .ok (.istore_n 0, 1) := by decide +kernel
theorem dJ6_bitCount_0f7a4_34 : decode cJ6_bitCount_0f7a4 34 = .ok (.iload_n 0, 1) := by decide +kernel
theorem dJ6_bitCount_0f7a4_35 : decode cJ6_bitCount_0f7a4 35 = .ok (.iload_n 0, 1) := by decide +kernel
theorem dJ6_bitCount_0f7a4_36 : decode cJ6_bitCount_0f7a4 36 = .ok (.bipush 8, 2) := by decide +kernel
theorem dJ6_bitCount_0f7a4_38 : decode cJ6_bitCount_0f7a4 38 = .ok (.iushr, 1) := by decide +kernel
theorem dJ6_bitCount_0f7a4_39 : decode cJ6_bitCount_0f7a4 39 = .ok (.iadd, 1) := by decide +kernel
theorem dJ6_bitCount_0f7a4_40 : decode cJ6_bitCount_0f7a4 40 = .ok (.istore_n 0, 1) := by decide +kernel
theorem dJ6_bitCount_0f7a4_41 : decode cJ6_bitCount_0f7a4 41 = .ok (.iload_n 0, 1) := by decide +kernel
theorem dJ6_bitCount_0f7a4_42 : decode cJ6_bitCount_0f7a4 42 = .ok (.iload_n 0, 1) := by decide +kernel
theorem dJ6_bitCount_0f7a4_43 : decode cJ6_bitCount_0f7a4 43 = .ok (.bipush 16, 2) := by decide +kernel
theorem dJ6_bitCount_0f7a4_45 : decode cJ6_bitCount_0f7a4 45 = .ok (.iushr, 1) := by decide +kernel
theorem dJ6_bitCount_0f7a4_46 : decode cJ6_bitCount_0f7a4 46 = .ok (.iadd, 1) := by decide +kernel
theorem dJ6_bitCount_0f7a4_47 : decode cJ6_bitCount_0f7a4 47 = .ok (.istore_n 0, 1) := by decide +kernel
theorem dJ6_bitCount_0f7a4_48 : decode cJ6_bitCount_0f7a4 48 = .ok (.iload_n 0, 1) := by decide +kernel
theorem dJ6_bitCount_0f7a4_49 : decode cJ6_bitCount_0f7a4 49 = .ok (.bipush 63, 2) := by decide +kernel
theorem dJ6_bitCount_0f7a4_51 : decode cJ6_bitCount_0f7a4 51 = .ok (.iand, 1) := by decide +kernel
theorem dJ6_bitCount_0f7a4_52 : decode cJ6_bitCount_0f7a4 52 = .ok (.ireturn, 1) := by decide +kernel
end
section
theorem dJ7_fill_d0a16_0 : decode cJ7_fill_d0a16 0 = .ok (.iconst 0, 1) := by decide +kernel
theorem dJ7_fill_d0a16_1 : decode cJ7_fill_d0a16 1 = .ok (.istore_n 3, 1) := by decide +kernel
theorem dJ7_fill_d0a16_2 : decode cJ7_fill_d0a16 2 = .ok (.aload_n 0, 1) := by decide +kernel
theorem dJ7_fill_d0a16_3 : decode cJ7_fill_d0a16 3 = .ok (.arraylength, 1) := by decide +kernel
theorem dJ7_fill_d0a16_4 : decode cJ7_fill_d0a16 4 = .ok (.istore 4, 2) := by decide +kernel
theorem dJ7_fill_d0a16_6 : decode cJ7_fill_d0a16 6 = .ok (.iload_n 3, 1) := by decide +kernel
theorem dJ7_fill_d0a16_7 : decode cJ7_fill_d0a16 7 = .ok (.iload 4, 2) := by decide +kernel
theorem dJ7_fill_d0a16_9 : decode cJ7_fill_d0a16 9 = .ok (.if_icmp .ge 13, 3) := by decide +kernel
theorem dJ7_fill_d0a16_12 : decode cJ7_fill_d0a16 12 = .ok (.aload_n 0, 1) := by decide +kernel
theorem dJ7_fill_d0a16_13 : decode cJ7_fill_d0a16 13 = .ok (.iload_n 3, 1) := by decide +kernel
theorem dJ7_fill_d0a16_14 : decode cJ7_fill_d0a16 14 = .ok (.lload_n 1, 1) := by decide +kernel
theorem dJ7_fill_d0a16_15 : decode cJ7_fill_d0a16 15 = .ok (.lastore, 1) := by decide +kernel
theorem dJ7_fill_d0a16_16 : decode cJ7_fill_d0a16 16 = .ok (.iinc 3 1, 3) := by decide +kernel
theorem dJ7_fill_d0a16_19 : decode cJ7_fill_d0a16 19 = .ok (.goto (-13), 3) := by decide +kernel
theorem dJ7_fill_d0a16_22 : decode cJ7_fill_d0a16 22 = .ok (.return_, 1) := by decide +kernel
theorem dJ7_fill_031fb_0 : decode cJ7_fill_031fb 0 = .ok (.iconst 0, 1) := by decide +kernel
theorem dJ7_fill_031fb_1 : decode cJ7_fill_031fb 1 = .ok (.istore_n 2, 1) := by decide +kernel
theorem dJ7_fill_031fb_2 : decode cJ7_fill_031fb 2 = .ok (.aload_n 0, 1) := by decide +kernel
theorem dJ7_fill_031fb_3 : decode cJ7_fill_031fb 3 = .ok (.arraylength, 1) := by decide +kernel
theorem dJ7_fill_031fb_4 : decode cJ7_fill_031fb 4 = .ok (.istore_n 3, 1) := by decide +kernel
theorem dJ7_fill_031fb_5 : decode cJ7_fill_031fb 5 = .ok (.iload_n 2, 1) := by decide +kernel
theorem dJ7_fill_031fb_6 : decode cJ7_fill_031fb 6 = .ok (.iload_n 3, 1) := by decide +kernel
theorem dJ7_fill_031fb_7 : decode cJ7_fill_031fb 7 = .ok (.if_icmp .ge 13, 3) := by decide +kernel
theorem dJ7_fill_031fb_10 : decode cJ7_fill_031fb 10 = .ok (.aload_n 0, 1) := by decide +kernel
theorem dJ7_fill_031fb_11 : decode cJ7_fill_031fb 11 = .ok (.iload_n 2, 1) := by decide +kernel
theorem dJ7_fill_031fb_12 : decode cJ7_fill_031fb 12 = .ok (.iload_n 1, 1) := by decide +kernel
theorem dJ7_fill_031fb_13 : decode cJ7_fill_031fb 13 = .ok (.bastore, 1) := by decide +kernel
theorem dJ7_fill_031fb_14 : decode cJ7_fill_031fb 14 = .ok (.iinc 2 1, 3) := by decide +kernel
theorem dJ7_fill_031fb_17 : decode cJ7_fill_031fb 17 = .ok (.goto (-12), 3) := by decide +kernel
theorem dJ7_fill_031fb_20 : decode cJ7_fill_031fb 20 = .ok (.return_, 1) := by decide +kernel
end
section
theorem dX4_begin_0 : decode cX4_begin 0 = .ok (.aload_n 0, 1) := by decide +kernel
theorem dX4_begin_1 : decode cX4_begin 1 = .ok (.iload_n 1, 1) := by decide +kernel
theorem dX4_begin_2 : decode cX4_begin 2 = .ok (.putfield 9, 3) := by decide +kernel
theorem dX4_begin_5 : decode cX4_begin 5 = .ok (.aload_n 0, 1) := by decide +kernel
theorem dX4_begin_6 : decode cX4_begin 6 = .ok (.iload_n 2, 1) := by decide +kernel
theorem dX4_begin_7 : decode cX4_begin 7 = .ok (.putfield 15, 3) := by decide +kernel
theorem dX4_begin_10 : decode cX4_begin 10 = .ok (.aload_n 0, 1) := by decide +kernel
theorem dX4_begin_11 : decode cX4_begin 11 = .ok (.iload_n 3, 1) := by decide +kernel
theorem dX4_begin_12 : decode cX4_begin 12 = .ok (.invokevirtual 18, 3) := by decide +kernel
theorem dX4_begin_15 : decode cX4_begin 15 = .ok (.aload_n 0, 1) := by decide +kernel
theorem dX4_begin_16 : decode cX4_begin 16 = .ok (.iload 4, 2) := by decide +kernel
theorem dX4_begin_18 : decode cX4_begin 18 = .ok (.putfield 22, 3) := by decide +kernel
theorem dX4_begin_21 : decode cX4_begin 21 = .ok (.aload_n 0, 1) := by decide +kernel
theorem dX4_begin_22 : decode cX4_begin 22 = .ok (.iload 5, 2) := by decide +kernel
theorem dX4_begin_24 : decode cX4_begin 24 = .ok (.putfield 25, 3) := by decide +kernel
theorem dX4_begin_27 : decode cX4_begin 27 = .ok (.aload_n 0, 1) := by decide +kernel
theorem dX4_begin_28 : decode cX4_begin 28 = .ok (.iload 6, 2) := by decide +kernel
theorem dX4_begin_30 : decode cX4_begin 30 = .ok (.putfield 28, 3) := by decide +kernel
theorem dX4_begin_33 : decode cX4_begin 33 = .ok (.aload_n 0, 1) := by decide +kernel
theorem dX4_begin_34 : decode cX4_begin 34 = .ok (.ldc 31, 2) := by decide +kernel
theorem dX4_begin_36 : decode cX4_begin 36 = .ok (.putfield 32, 3) := by decide +kernel
theorem dX4_begin_39 : decode cX4_begin 39 = .ok (.aload_n 0, 1) := by decide +kernel
theorem dX4_begin_40 : decode cX4_begin 40 = .ok (.iconst 5, 1) := by decide +kernel
theorem dX4_begin_41 : decode cX4_begin 41 = .ok (.putfield 35, 3) := by decide +kernel
theorem dX4_begin_44 : decode cX4_begin 44 = .ok (.return_, 1) := by decide +kernel
theorem dX4_goTo_0 : decode cX4_goTo 0 = .ok (.aload_n 0, 1) := by decide +kernel
theorem dX4_goTo_1 : decode cX4_goTo 1 = .ok (.iload_n 1, 1) := by decide +kernel
theorem dX4_goTo_2 : decode cX4_goTo 2 = .ok (.bipush 64, 2) := by decide +kernel
theorem dX4_goTo_4 : decode cX4_goTo 4 = .ok (.idiv, 1) := by decide +kernel
theorem dX4_goTo_5 : decode cX4_goTo 5 = .ok (.putfield 38, 3) := by decide +kernel
theorem dX4_goTo_8 : decode cX4_goTo 8 = .ok (.aload_n 0, 1) := by decide +kernel
theorem dX4_goTo_9 : decode cX4_goTo 9 = .ok (.iload_n 1, 1) := by decide +kernel
theorem dX4_goTo_10 : decode cX4_goTo 10 = .ok (.bipush 64, 2) := by decide +kernel
theorem dX4_goTo_12 : decode cX4_goTo 12 = .ok (.irem, 1) := by decide +kernel
theorem dX4_goTo_13 : decode cX4_goTo 13 = .ok (.putfield 41, 3) := by decide +kernel
theorem dX4_goTo_16 : decode cX4_goTo 16 = .ok (.return_, 1) := by decide +kernel
theorem dX4_takeAll_0 : decode cX4_takeAll 0 = .ok (.aload_n 0, 1) := by decide +kernel
theorem dX4_takeAll_1 : decode cX4_takeAll 1 = .ok (.aload_n 1, 1) := by decide +kernel
theorem dX4_takeAll_2 : decode cX4_takeAll 2 = .ok (.getfield 9, 3) := by decide +kernel
theorem dX4_takeAll_5 : decode cX4_takeAll 5 = .ok (.putfield 9, 3) := by decide +kernel
theorem dX4_takeAll_8 : decode cX4_takeAll 8 = .ok (.aload_n 0, 1) := by decide +kernel
theorem dX4_takeAll_9 : decode cX4_takeAll 9 = .ok (.aload_n 1, 1) := by decide +kernel
theorem dX4_takeAll_10 : decode cX4_takeAll 10 = .ok (.getfield 15, 3) := by decide +kernel
theorem dX4_takeAll_13 : decode cX4_takeAll 13 = .ok (.putfield 15, 3) := by decide +kernel
theorem dX4_takeAll_16 : decode cX4_takeAll 16 = .ok (.aload_n 0, 1) := by decide +kernel
theorem dX4_takeAll_17 : decode cX4_takeAll 17 = .ok (.aload_n 1, 1) := by decide +kernel
theorem dX4_takeAll_18 : decode cX4_takeAll 18 = .ok (.getfield 38, 3) := by decide +kernel
theorem dX4_takeAll_21 : decode cX4_takeAll 21 = .ok (.putfield 38, 3) := by decide +kernel
theorem dX4_takeAll_24 : decode cX4_takeAll 24 = .ok (.aload_n 0, 1) := by decide +kernel
theorem dX4_takeAll_25 : decode cX4_takeAll 25 = .ok (.aload_n 1, 1) := by decide +kernel
theorem dX4_takeAll_26 : decode cX4_takeAll 26 = .ok (.getfield 41, 3) := by decide +kernel
theorem dX4_takeAll_29 : decode cX4_takeAll 29 = .ok (.putfield 41, 3) := by decide +kernel
theorem dX4_takeAll_32 : decode cX4_takeAll 32 = .ok (.aload_n 0, 1) := by decide +kernel
theorem dX4_takeAll_33 : decode cX4_takeAll 33 = .ok (.aload_n 1, 1) := by decide +kernel
theorem dX4_takeAll_34 : decode cX4_takeAll 34 = .ok (.getfield 22, 3) := by decide +kernel
theorem dX4_takeAll_37 : decode cX4_takeAll 37 = .ok (.putfield 22, 3) := by decide +kernel
theorem dX4_takeAll_40 : decode cX4_takeAll 40 = .ok (.aload_n 0, 1) := by decide +kernel
theorem dX4_takeAll_41 : decode cX4_takeAll 41 = .ok (.aload_n 1, 1) := by decide +kernel
theorem dX4_takeAll_42 : decode cX4_takeAll 42 = .ok (.getfield 25, 3) := by decide +kernel
theorem dX4_takeAll_45 : decode cX4_takeAll 45 = .ok (.putfield 25, 3) := by decide +kernel
theorem dX4_takeAll_48 : decode cX4_takeAll 48 = .ok (.aload_n 0, 1) := by decide +kernel
theorem dX4_takeAll_49 : decode cX4_takeAll 49 = .ok (.aload_n 1, 1) := by decide +kernel
theorem dX4_takeAll_50 : decode cX4_takeAll 50 = .ok (.getfield 28, 3) := by decide +kernel
theorem dX4_takeAll_53 : decode cX4_takeAll 53 = .ok (.putfield 28, 3) := by decide +kernel
theorem dX4_takeAll_56 : decode cX4_takeAll 56 = .ok (.aload_n 0, 1) := by decide +kernel
theorem dX4_takeAll_57 : decode cX4_takeAll 57 = .ok (.aload_n 1, 1) := by decide +kernel
theorem dX4_takeAll_58 : decode cX4_takeAll 58 = .ok (.getfield 32, 3) := by decide +kernel
theorem dX4_takeAll_61 : decode cX4_takeAll 61 = .ok (.putfield 32, 3) := by decide +kernel
theorem dX4_takeAll_64 : decode cX4_takeAll 64 = .ok (.aload_n 0, 1) := by decide +kernel
theorem dX4_takeAll_65 : decode cX4_takeAll 65 = .ok (.aload_n 1, 1) := by decide +kernel
theorem dX4_takeAll_66 : decode cX4_takeAll 66 = .ok (.getfield 35, 3) := by decide +kernel
theorem dX4_takeAll_69 : decode cX4_takeAll 69 = .ok (.putfield 35, 3) := by decide +kernel
theorem dX4_takeAll_72 : decode cX4_takeAll 72 = .ok (.return_, 1) := by decide +kernel
theorem dX4_trait_0 : decode cX4_trait 0 = .ok (.iload_n 1, 1) := by decide +kernel
theorem dX4_trait_1 : decode cX4_trait 1 = .ok (.tableswitch 103 0 7 #[47, 52, 57, 62, 67, 72, 77, 85], 47) := by decide +kernel
theorem dX4_trait_48 : decode cX4_trait 48 = .ok (.aload_n 0, 1) := by decide +kernel
theorem dX4_trait_49 : decode cX4_trait 49 = .ok (.getfield 15, 3) := by decide +kernel
theorem dX4_trait_52 : decode cX4_trait 52 = .ok (.ireturn, 1) := by decide +kernel
theorem dX4_trait_53 : decode cX4_trait 53 = .ok (.aload_n 0, 1) := by decide +kernel
theorem dX4_trait_54 : decode cX4_trait 54 = .ok (.getfield 38, 3) := by decide +kernel
theorem dX4_trait_57 : decode cX4_trait 57 = .ok (.ireturn, 1) := by decide +kernel
theorem dX4_trait_58 : decode cX4_trait 58 = .ok (.aload_n 0, 1) := by decide +kernel
theorem dX4_trait_59 : decode cX4_trait 59 = .ok (.getfield 41, 3) := by decide +kernel
theorem dX4_trait_62 : decode cX4_trait 62 = .ok (.ireturn, 1) := by decide +kernel
theorem dX4_trait_63 : decode cX4_trait 63 = .ok (.aload_n 0, 1) := by decide +kernel
theorem dX4_trait_64 : decode cX4_trait 64 = .ok (.getfield 22, 3) := by decide +kernel
theorem dX4_trait_67 : decode cX4_trait 67 = .ok (.ireturn, 1) := by decide +kernel
theorem dX4_trait_68 : decode cX4_trait 68 = .ok (.aload_n 0, 1) := by decide +kernel
theorem dX4_trait_69 : decode cX4_trait 69 = .ok (.getfield 25, 3) := by decide +kernel
theorem dX4_trait_72 : decode cX4_trait 72 = .ok (.ireturn, 1) := by decide +kernel
theorem dX4_trait_73 : decode cX4_trait 73 = .ok (.aload_n 0, 1) := by decide +kernel
theorem dX4_trait_74 : decode cX4_trait 74 = .ok (.getfield 28, 3) := by decide +kernel
theorem dX4_trait_77 : decode cX4_trait 77 = .ok (.ireturn, 1) := by decide +kernel
theorem dX4_trait_78 : decode cX4_trait 78 = .ok (.aload_n 0, 1) := by decide +kernel
theorem dX4_trait_79 : decode cX4_trait 79 = .ok (.getfield 32, 3) := by decide +kernel
theorem dX4_trait_82 : decode cX4_trait 82 = .ok (.invokestatic 44, 3) := by decide +kernel
theorem dX4_trait_85 : decode cX4_trait 85 = .ok (.ireturn, 1) := by decide +kernel
theorem dX4_trait_86 : decode cX4_trait 86 = .ok (.aload_n 0, 1) := by decide +kernel
theorem dX4_trait_87 : decode cX4_trait 87 = .ok (.getfield 15, 3) := by decide +kernel
theorem dX4_trait_90 : decode cX4_trait 90 = .ok (.iconst 1, 1) := by decide +kernel
theorem dX4_trait_91 : decode cX4_trait 91 = .ok (.if_icmp .ne 10, 3) := by decide +kernel
theorem dX4_trait_94 : decode cX4_trait 94 = .ok (.aload_n 0, 1) := by decide +kernel
theorem dX4_trait_95 : decode cX4_trait 95 = .ok (.getfield 35, 3) := by decide +kernel
theorem dX4_trait_98 : decode cX4_trait 98 = .ok (.goto 5, 3) := by decide +kernel
theorem dX4_trait_101 : decode cX4_trait 101 = .ok (.bipush (-2), 2) := by decide +kernel
theorem dX4_trait_103 : decode cX4_trait 103 = .ok (.ireturn, 1) := by decide +kernel
theorem dX4_trait_104 : decode cX4_trait 104 = .ok (.iconst (-1), 1) := by decide +kernel
theorem dX4_trait_105 : decode cX4_trait 105 = .ok (.ireturn, 1) := by decide +kernel
theorem dX4_heaviness_0 : decode cX4_heaviness 0 = .ok (.aload_n 0, 1) := by decide +kernel
theorem dX4_heaviness_1 : decode cX4_heaviness 1 = .ok (.getfield 9, 3) := by decide +kernel
theorem dX4_heaviness_4 : decode cX4_heaviness 4 = .ok (.iconst 5, 1) := by decide +kernel
theorem dX4_heaviness_5 : decode cX4_heaviness 5 = .ok (.aload_n 0, 1) := by decide +kernel
theorem dX4_heaviness_6 : decode cX4_heaviness 6 = .ok (.getfield 25, 3) := by decide +kernel
theorem dX4_heaviness_9 : decode cX4_heaviness 9 = .ok (.imul, 1) := by decide +kernel
theorem dX4_heaviness_10 : decode cX4_heaviness 10 = .ok (.iadd, 1) := by decide +kernel
theorem dX4_heaviness_11 : decode cX4_heaviness 11 = .ok (.aload_n 0, 1) := by decide +kernel
theorem dX4_heaviness_12 : decode cX4_heaviness 12 = .ok (.getfield 22, 3) := by decide +kernel
theorem dX4_heaviness_15 : decode cX4_heaviness 15 = .ok (.iadd, 1) := by decide +kernel
theorem dX4_heaviness_16 : decode cX4_heaviness 16 = .ok (.istore_n 1, 1) := by decide +kernel
theorem dX4_heaviness_17 : decode cX4_heaviness 17 = .ok (.aload_n 0, 1) := by decide +kernel
theorem dX4_heaviness_18 : decode cX4_heaviness 18 = .ok (.getfield 15, 3) := by decide +kernel
theorem dX4_heaviness_21 : decode cX4_heaviness 21 = .ok (.tableswitch 43 1 3 #[27, 34, 39], 27) := by decide +kernel
theorem dX4_heaviness_48 : decode cX4_heaviness 48 = .ok (.iload_n 1, 1) := by decide +kernel
theorem dX4_heaviness_49 : decode cX4_heaviness 49 = .ok (.aload_n 0, 1) := by decide +kernel
theorem dX4_heaviness_50 : decode cX4_heaviness 50 = .ok (.getfield 35, 3) := by decide +kernel
theorem dX4_heaviness_53 : decode cX4_heaviness 53 = .ok (.iadd, 1) := by decide +kernel
theorem dX4_heaviness_54 : decode cX4_heaviness 54 = .ok (.ireturn, 1) := by decide +kernel
theorem dX4_heaviness_55 : decode cX4_heaviness 55 = .ok (.iload_n 1, 1) := by decide +kernel
theorem dX4_heaviness_56 : decode cX4_heaviness 56 = .ok (.bipush 100, 2) := by decide +kernel
theorem dX4_heaviness_58 : decode cX4_heaviness 58 = .ok (.iadd, 1) := by decide +kernel
theorem dX4_heaviness_59 : decode cX4_heaviness 59 = .ok (.ireturn, 1) := by decide +kernel
theorem dX4_heaviness_60 : decode cX4_heaviness 60 = .ok (.iconst 2, 1) := by decide +kernel
theorem dX4_heaviness_61 : decode cX4_heaviness 61 = .ok (.iload_n 1, 1) := by decide +kernel
theorem dX4_heaviness_62 : decode cX4_heaviness 62 = .ok (.imul, 1) := by decide +kernel
theorem dX4_heaviness_63 : decode cX4_heaviness 63 = .ok (.ireturn, 1) := by decide +kernel
theorem dX4_heaviness_64 : decode cX4_heaviness 64 = .ok (.iload_n 1, 1) := by decide +kernel
theorem dX4_heaviness_65 : decode cX4_heaviness 65 = .ok (.ireturn, 1) := by decide +kernel
end
section
theorem dX7_add_0 : decode cX7_add 0 = .ok (.aload_n 0, 1) := by decide +kernel
theorem dX7_add_1 : decode cX7_add 1 = .ok (.getfield 21, 3) := by decide +kernel
theorem dX7_add_4 : decode cX7_add 4 = .ok (.bipush 8, 2) := by decide +kernel
theorem dX7_add_6 : decode cX7_add 6 = .ok (.if_icmp .ge 43, 3) := by decide +kernel
theorem dX7_add_9 : decode cX7_add 9 = .ok (.aload_n 0, 1) := by decide +kernel
theorem dX7_add_10 : decode cX7_add 10 = .ok (.getfield 9, 3) := by decide +kernel
theorem dX7_add_13 : decode cX7_add 13 = .ok (.aload_n 0, 1) := by decide +kernel
theorem dX7_add_14 : decode cX7_add 14 = .ok (.getfield 21, 3) := by decide +kernel
theorem dX7_add_17 : decode cX7_add 17 = .ok (.iload_n 1, 1) := by decide +kernel
theorem dX7_add_18 : decode cX7_add 18 = .ok (.iastore, 1) := by decide +kernel
theorem dX7_add_19 : decode cX7_add 19 = .ok (.aload_n 0, 1) := by decide +kernel
theorem dX7_add_20 : decode cX7_add 20 = .ok (.getfield 15, 3) := by decide +kernel
theorem dX7_add_23 : decode cX7_add 23 = .ok (.aload_n 0, 1) := by decide +kernel
theorem dX7_add_24 : decode cX7_add 24 = .ok (.getfield 21, 3) := by decide +kernel
theorem dX7_add_27 : decode cX7_add 27 = .ok (.iload_n 2, 1) := by decide +kernel
theorem dX7_add_28 : decode cX7_add 28 = .ok (.iastore, 1) := by decide +kernel
theorem dX7_add_29 : decode cX7_add 29 = .ok (.aload_n 0, 1) := by decide +kernel
theorem dX7_add_30 : decode cX7_add 30 = .ok (.getfield 18, 3) := by decide +kernel
theorem dX7_add_33 : decode cX7_add 33 = .ok (.aload_n 0, 1) := by decide +kernel
theorem dX7_add_34 : decode cX7_add 34 = .ok (.getfield 21, 3) := by decide +kernel
theorem dX7_add_37 : decode cX7_add 37 = .ok (.iload_n 3, 1) := by decide +kernel
theorem dX7_add_38 : decode cX7_add 38 = .ok (.iastore, 1) := by decide +kernel
theorem dX7_add_39 : decode cX7_add 39 = .ok (.aload_n 0, 1) := by decide +kernel
theorem dX7_add_40 : decode cX7_add 40 = .ok (.dup, 1) := by decide +kernel
theorem dX7_add_41 : decode cX7_add 41 = .ok (.getfield 21, 3) := by decide +kernel
theorem dX7_add_44 : decode cX7_add 44 = .ok (.iconst 1, 1) := by decide +kernel
theorem dX7_add_45 : decode cX7_add 45 = .ok (.iadd, 1) := by decide +kernel
theorem dX7_add_46 : decode cX7_add 46 = .ok (.putfield 21, 3) := by decide +kernel
theorem dX7_add_49 : decode cX7_add 49 = .ok (.return_, 1) := by decide +kernel
theorem dX7_greatest_0 : decode cX7_greatest 0 = .ok (.iconst 0, 1) := by decide +kernel
theorem dX7_greatest_1 : decode cX7_greatest 1 = .ok (.istore_n 3, 1) := by decide +kernel
theorem dX7_greatest_2 : decode cX7_greatest 2 = .ok (.iconst 0, 1) := by decide +kernel
theorem dX7_greatest_3 : decode cX7_greatest 3 = .ok (.istore 4, 2) := by decide +kernel
theorem dX7_greatest_5 : decode cX7_greatest 5 = .ok (.iload 4, 2) := by decide +kernel
theorem dX7_greatest_7 : decode cX7_greatest 7 = .ok (.aload_n 0, 1) := by decide +kernel
theorem dX7_greatest_8 : decode cX7_greatest 8 = .ok (.getfield 21, 3) := by decide +kernel
theorem dX7_greatest_11 : decode cX7_greatest 11 = .ok (.if_icmp .ge 43, 3) := by decide +kernel
theorem dX7_greatest_14 : decode cX7_greatest 14 = .ok (.aload_n 0, 1) := by decide +kernel
theorem dX7_greatest_15 : decode cX7_greatest 15 = .ok (.getfield 9, 3) := by decide +kernel
theorem dX7_greatest_18 : decode cX7_greatest 18 = .ok (.iload 4, 2) := by decide +kernel
theorem dX7_greatest_20 : decode cX7_greatest 20 = .ok (.iaload, 1) := by decide +kernel
theorem dX7_greatest_21 : decode cX7_greatest 21 = .ok (.iload_n 1, 1) := by decide +kernel
theorem dX7_greatest_22 : decode cX7_greatest 22 = .ok (.if_icmp .lt 26, 3) := by decide +kernel
theorem dX7_greatest_25 : decode cX7_greatest 25 = .ok (.aload_n 0, 1) := by decide +kernel
theorem dX7_greatest_26 : decode cX7_greatest 26 = .ok (.getfield 15, 3) := by decide +kernel
theorem dX7_greatest_29 : decode cX7_greatest 29 = .ok (.iload 4, 2) := by decide +kernel
theorem dX7_greatest_31 : decode cX7_greatest 31 = .ok (.iaload, 1) := by decide +kernel
theorem dX7_greatest_32 : decode cX7_greatest 32 = .ok (.iload_n 2, 1) := by decide +kernel
theorem dX7_greatest_33 : decode cX7_greatest 33 = .ok (.if_icmp .gt 15, 3) := by decide +kernel
theorem dX7_greatest_36 : decode cX7_greatest 36 = .ok (.iload_n 3, 1) := by decide +kernel
theorem dX7_greatest_37 : decode cX7_greatest 37 = .ok (.aload_n 0, 1) := by decide +kernel
theorem dX7_greatest_38 : decode cX7_greatest 38 = .ok (.getfield 18, 3) := by decide +kernel
theorem dX7_greatest_41 : decode cX7_greatest 41 = .ok (.iload 4, 2) := by decide +kernel
theorem dX7_greatest_43 : decode cX7_greatest 43 = .ok (.iaload, 1) := by decide +kernel
theorem dX7_greatest_44 : decode cX7_greatest 44 = .ok (.invokestatic 25, 3) := by decide +kernel
theorem dX7_greatest_47 : decode cX7_greatest 47 = .ok (.istore_n 3, 1) := by decide +kernel
theorem dX7_greatest_48 : decode cX7_greatest 48 = .ok (.iinc 4 1, 3) := by decide +kernel
theorem dX7_greatest_51 : decode cX7_greatest 51 = .ok (.goto (-46), 3) := by decide +kernel
theorem dX7_greatest_54 : decode cX7_greatest 54 = .ok (.iload_n 3, 1) := by decide +kernel
theorem dX7_greatest_55 : decode cX7_greatest 55 = .ok (.ireturn, 1) := by decide +kernel
end
section
theorem dX1_tell_0 : decode cX1_tell 0 = .ok (.aload_n 0, 1) := by decide +kernel
theorem dX1_tell_1 : decode cX1_tell 1 = .ok (.iload_n 1, 1) := by decide +kernel
theorem dX1_tell_2 : decode cX1_tell 2 = .ok (.putfield 9, 3) := by decide +kernel
theorem dX1_tell_5 : decode cX1_tell 5 = .ok (.aload_n 0, 1) := by decide +kernel
theorem dX1_tell_6 : decode cX1_tell 6 = .ok (.iload_n 2, 1) := by decide +kernel
theorem dX1_tell_7 : decode cX1_tell 7 = .ok (.putfield 15, 3) := by decide +kernel
theorem dX1_tell_10 : decode cX1_tell 10 = .ok (.aload_n 0, 1) := by decide +kernel
theorem dX1_tell_11 : decode cX1_tell 11 = .ok (.iload_n 3, 1) := by decide +kernel
theorem dX1_tell_12 : decode cX1_tell 12 = .ok (.putfield 18, 3) := by decide +kernel
theorem dX1_tell_15 : decode cX1_tell 15 = .ok (.aload_n 0, 1) := by decide +kernel
theorem dX1_tell_16 : decode cX1_tell 16 = .ok (.iload 4, 2) := by decide +kernel
theorem dX1_tell_18 : decode cX1_tell 18 = .ok (.putfield 21, 3) := by decide +kernel
theorem dX1_tell_21 : decode cX1_tell 21 = .ok (.return_, 1) := by decide +kernel
theorem dX1_swap_0 : decode cX1_swap 0 = .ok (.aload_n 0, 1) := by decide +kernel
theorem dX1_swap_1 : decode cX1_swap 1 = .ok (.getfield 18, 3) := by decide +kernel
theorem dX1_swap_4 : decode cX1_swap 4 = .ok (.istore_n 1, 1) := by decide +kernel
theorem dX1_swap_5 : decode cX1_swap 5 = .ok (.aload_n 0, 1) := by decide +kernel
theorem dX1_swap_6 : decode cX1_swap 6 = .ok (.aload_n 0, 1) := by decide +kernel
theorem dX1_swap_7 : decode cX1_swap 7 = .ok (.getfield 21, 3) := by decide +kernel
theorem dX1_swap_10 : decode cX1_swap 10 = .ok (.putfield 18, 3) := by decide +kernel
theorem dX1_swap_13 : decode cX1_swap 13 = .ok (.aload_n 0, 1) := by decide +kernel
theorem dX1_swap_14 : decode cX1_swap 14 = .ok (.iload_n 1, 1) := by decide +kernel
theorem dX1_swap_15 : decode cX1_swap 15 = .ok (.putfield 21, 3) := by decide +kernel
theorem dX1_swap_18 : decode cX1_swap 18 = .ok (.return_, 1) := by decide +kernel
theorem dX1_allows_0 : decode cX1_allows 0 = .ok (.aload_n 1, 1) := by decide +kernel
theorem dX1_allows_1 : decode cX1_allows 1 = .ok (.getfield 24, 3) := by decide +kernel
theorem dX1_allows_4 : decode cX1_allows 4 = .ok (.iconst 3, 1) := by decide +kernel
theorem dX1_allows_5 : decode cX1_allows 5 = .ok (.if_icmp .ne 30, 3) := by decide +kernel
theorem dX1_allows_8 : decode cX1_allows 8 = .ok (.aload_n 0, 1) := by decide +kernel
theorem dX1_allows_9 : decode cX1_allows 9 = .ok (.getfield 9, 3) := by decide +kernel
theorem dX1_allows_12 : decode cX1_allows 12 = .ok (.iconst (-1), 1) := by decide +kernel
theorem dX1_allows_13 : decode cX1_allows 13 = .ok (.if_icmp .eq 22, 3) := by decide +kernel
theorem dX1_allows_16 : decode cX1_allows 16 = .ok (.aload_n 1, 1) := by decide +kernel
theorem dX1_allows_17 : decode cX1_allows 17 = .ok (.getfield 29, 3) := by decide +kernel
theorem dX1_allows_20 : decode cX1_allows 20 = .ok (.aload_n 0, 1) := by decide +kernel
theorem dX1_allows_21 : decode cX1_allows 21 = .ok (.getfield 9, 3) := by decide +kernel
theorem dX1_allows_24 : decode cX1_allows 24 = .ok (.isub, 1) := by decide +kernel
theorem dX1_allows_25 : decode cX1_allows 25 = .ok (.invokestatic 32, 3) := by decide +kernel
theorem dX1_allows_28 : decode cX1_allows 28 = .ok (.aload_n 0, 1) := by decide +kernel
theorem dX1_allows_29 : decode cX1_allows 29 = .ok (.getfield 15, 3) := by decide +kernel
theorem dX1_allows_32 : decode cX1_allows 32 = .ok (.if_icmp .le 6, 3) := by decide +kernel
theorem dX1_allows_35 : decode cX1_allows 35 = .ok (.ldc 38, 2) := by decide +kernel
theorem dX1_allows_37 : decode cX1_allows 37 = .ok (.ireturn, 1) := by decide +kernel
theorem dX1_allows_38 : decode cX1_allows 38 = .ok (.aload_n 1, 1) := by decide +kernel
theorem dX1_allows_39 : decode cX1_allows 39 = .ok (.getfield 29, 3) := by decide +kernel
theorem dX1_allows_42 : decode cX1_allows 42 = .ok (.aload_n 0, 1) := by decide +kernel
theorem dX1_allows_43 : decode cX1_allows 43 = .ok (.getfield 9, 3) := by decide +kernel
theorem dX1_allows_46 : decode cX1_allows 46 = .ok (.if_icmp .ge 10, 3) := by decide +kernel
theorem dX1_allows_49 : decode cX1_allows 49 = .ok (.aload_n 0, 1) := by decide +kernel
theorem dX1_allows_50 : decode cX1_allows 50 = .ok (.getfield 18, 3) := by decide +kernel
theorem dX1_allows_53 : decode cX1_allows 53 = .ok (.goto 7, 3) := by decide +kernel
theorem dX1_allows_56 : decode cX1_allows 56 = .ok (.aload_n 0, 1) := by decide +kernel
theorem dX1_allows_57 : decode cX1_allows 57 = .ok (.getfield 21, 3) := by decide +kernel
theorem dX1_allows_60 : decode cX1_allows 60 = .ok (.ireturn, 1) := by decide +kernel
end
section
noncomputable def mi_J6_bitCount_0f7a4 (M : ab_M) (x0 : Int32) : Option (Int32) :=
  (some (((x0 - ((ab_ushr x0 1) &&& 1431655765)) &&& 858993459) + ((ab_ushr (x0 - ((ab_ushr x0 1) &&& 1431655765)) 2) &&& 858993459)) : Option Int32).bind fun v1 =>
  (some (((v1 + (ab_ushr v1 4)) &&& 252645135) + (ab_ushr ((v1 + (ab_ushr v1 4)) &&& 252645135) 8)) : Option Int32).bind fun v3 =>
  some ((v3 + (ab_ushr v3 16)) &&& 63)

set_option maxHeartbeats 4000000 in
set_option maxRecDepth 100000 in
theorem co_J6_bitCount_0f7a4 {l : Launch} {D : va_G} {ac : Nat → ClassId} (M : ab_M) (x0 : Int32) (z : Int32) (h : mi_J6_bitCount_0f7a4 M x0 = some z) : ab_Con l D ac 1 me_J6_bitCount_0f7a4 0 0 [.int x0] ab_SH M (some (.int z), ab_SH, M) := by
  refine ab_intro (lv := [some (.int x0)]) (by decide) rfl (Nat.le_of_ble_eq_true rfl) rfl ?_
  unfold mi_J6_bitCount_0f7a4 at h
  refine ev_iload_n dJ6_bitCount_0f7a4_0 rfl ?_
  refine ev_iload_n dJ6_bitCount_0f7a4_1 rfl ?_
  refine ev_iconst (x := 1) dJ6_bitCount_0f7a4_2 (by decide) ?_
  refine ev_iushr dJ6_bitCount_0f7a4_3 ?_
  refine ev_ldcw kw_RJ6_265 dJ6_bitCount_0f7a4_4 ?_
  refine ev_iand dJ6_bitCount_0f7a4_7 ?_
  refine ev_isub dJ6_bitCount_0f7a4_8 ?_
  refine ev_istore_n dJ6_bitCount_0f7a4_9 (Nat.le_of_ble_eq_true rfl) rfl rfl ?_
  refine ev_iload_n dJ6_bitCount_0f7a4_10 rfl ?_
  refine ev_ldcw kw_RJ6_266 dJ6_bitCount_0f7a4_11 ?_
  refine ev_iand dJ6_bitCount_0f7a4_14 ?_
  refine ev_iload_n dJ6_bitCount_0f7a4_15 rfl ?_
  refine ev_iconst (x := 2) dJ6_bitCount_0f7a4_16 (by decide) ?_
  refine ev_iushr dJ6_bitCount_0f7a4_17 ?_
  refine ev_ldcw kw_RJ6_266 dJ6_bitCount_0f7a4_18 ?_
  refine ev_iand dJ6_bitCount_0f7a4_21 ?_
  refine ev_iadd dJ6_bitCount_0f7a4_22 ?_
  obtain ⟨v1, hq2, h⟩ := ab_bind h
  refine ev_nmi (Option.some.inj hq2) ?_
  refine ev_istore_n (x := v1) dJ6_bitCount_0f7a4_23 (Nat.le_of_ble_eq_true rfl) rfl rfl ?_
  refine ev_iload_n dJ6_bitCount_0f7a4_24 rfl ?_
  refine ev_iload_n dJ6_bitCount_0f7a4_25 rfl ?_
  refine ev_iconst (x := 4) dJ6_bitCount_0f7a4_26 (by decide) ?_
  refine ev_iushr dJ6_bitCount_0f7a4_27 ?_
  refine ev_iadd dJ6_bitCount_0f7a4_28 ?_
  refine ev_ldcw kw_RJ6_267 dJ6_bitCount_0f7a4_29 ?_
  refine ev_iand dJ6_bitCount_0f7a4_32 ?_
  refine ev_istore_n dJ6_bitCount_0f7a4_33 (Nat.le_of_ble_eq_true rfl) rfl rfl ?_
  refine ev_iload_n dJ6_bitCount_0f7a4_34 rfl ?_
  refine ev_iload_n dJ6_bitCount_0f7a4_35 rfl ?_
  refine ev_bipush (x := 8) dJ6_bitCount_0f7a4_36 (by decide) ?_
  refine ev_iushr dJ6_bitCount_0f7a4_38 ?_
  refine ev_iadd dJ6_bitCount_0f7a4_39 ?_
  obtain ⟨v3, hq4, h⟩ := ab_bind h
  refine ev_nmi (Option.some.inj hq4) ?_
  refine ev_istore_n (x := v3) dJ6_bitCount_0f7a4_40 (Nat.le_of_ble_eq_true rfl) rfl rfl ?_
  refine ev_iload_n dJ6_bitCount_0f7a4_41 rfl ?_
  refine ev_iload_n dJ6_bitCount_0f7a4_42 rfl ?_
  refine ev_bipush (x := 16) dJ6_bitCount_0f7a4_43 (by decide) ?_
  refine ev_iushr dJ6_bitCount_0f7a4_45 ?_
  refine ev_iadd dJ6_bitCount_0f7a4_46 ?_
  refine ev_istore_n dJ6_bitCount_0f7a4_47 (Nat.le_of_ble_eq_true rfl) rfl rfl ?_
  refine ev_iload_n dJ6_bitCount_0f7a4_48 rfl ?_
  refine ev_bipush (x := 63) dJ6_bitCount_0f7a4_49 (by decide) ?_
  refine ev_iand dJ6_bitCount_0f7a4_51 ?_
  cases h
  exact ev_ireturn rfl dJ6_bitCount_0f7a4_52
end
section
noncomputable def mi_J7_fill_d0a16_6 : Nat → ab_M → Nat → Int64 → Int32 → Int32 → Option (Int32 × ab_M)
  | 0, _, _, _, _, _ => none
  | n + 1, M, t0, x1, x3, x4 =>
    if x4 ≤ x3 then
      some (x3, M)
    else
      ab_chk (vp_in x3 60) <|
      mi_J7_fill_d0a16_6 n (ab_pl M t0 (x3).toNatClampNeg x1) t0 x1 (x3 + 1) x4

set_option maxHeartbeats 4000000 in
set_option maxRecDepth 100000 in
theorem lp_J7_fill_d0a16_6 {l : Launch} {D : va_G} {ac : Nat → ClassId} {n0 : Nat} {r : ab_Rs} : ∀ (n : Nat) (M : ab_M) (t0 : Nat) (ht0 : ab_isJ t0) (x1 : Int64) (x3 : Int32) (x4 : Int32) (q : Int32 × ab_M) (h : mi_J7_fill_d0a16_6 n M t0 x1 x3 x4 = some q) (kk : ab_Ev l D ac 1 me_J7_fill_d0a16 n0 0 0 r 0 0 ab_SH 22 [some (.ref t0), some (.long x1), none, some (.int q.1), some (.int x4)] [] q.2), ab_Ev l D ac 1 me_J7_fill_d0a16 n0 0 0 r 0 0 ab_SH 6 [some (.ref t0), some (.long x1), none, some (.int x3), some (.int x4)] [] M := by
  intro n
  induction n with
  | zero =>
    intro M t0 ht0 x1 x3 x4 q h kk
    cases h
  | succ n ih =>
    intro M t0 ht0 x1 x3 x4 q h kk
    unfold mi_J7_fill_d0a16_6 at h
    refine ev_iload_n dJ7_fill_d0a16_6 rfl ?_
    refine ev_iload dJ7_fill_d0a16_7 rfl ?_
    refine ev_icmp_ge (t := 22) dJ7_fill_d0a16_9 (by decide) (fun hc1 => ?_) (fun hc1 => ?_)
    · replace h := ab_pos hc1 h
      cases h
      exact kk
    · replace h := ab_neg hc1 h
      refine ev_aload_n dJ7_fill_d0a16_12 rfl ?_
      refine ev_iload_n dJ7_fill_d0a16_13 rfl ?_
      refine ev_lload_n dJ7_fill_d0a16_14 rfl ?_
      obtain ⟨hb2, h⟩ := ab_chk_some h
      refine ev_lastore ht0 hb2 dJ7_fill_d0a16_15 ?_
      refine ev_iinc (y := x3 + 1) dJ7_fill_d0a16_16 rfl (by first | rfl | decide) rfl rfl ?_
      refine ev_goto (t := 6) dJ7_fill_d0a16_19 (by decide) ?_
      exact ih (ab_pl M t0 (x3).toNatClampNeg x1) t0 ht0 x1 (x3 + 1) x4 _ h kk

noncomputable def mi_J7_fill_d0a16 (M : ab_M) (t0 : Nat) (x1 : Int64) : Option (ab_M) :=
  (mi_J7_fill_d0a16_6 ab_F M t0 x1 0 60).bind fun q3 =>
  some q3.2

set_option maxHeartbeats 4000000 in
set_option maxRecDepth 100000 in
theorem co_J7_fill_d0a16 {l : Launch} {D : va_G} {ac : Nat → ClassId} (M : ab_M) (t0 : Nat) (ht0 : ab_isJ t0) (x1 : Int64) (z : ab_M) (h : mi_J7_fill_d0a16 M t0 x1 = some z) : ab_Con l D ac 1 me_J7_fill_d0a16 0 0 [.ref t0, .long x1] ab_SH M (none, ab_SH, z) := by
  refine ab_intro (lv := [some (.ref t0), some (.long x1), none, none, none]) (by decide) rfl (Nat.le_of_ble_eq_true rfl) rfl ?_
  unfold mi_J7_fill_d0a16 at h
  refine ev_iconst (x := 0) dJ7_fill_d0a16_0 (by decide) ?_
  refine ev_istore_n dJ7_fill_d0a16_1 (Nat.le_of_ble_eq_true rfl) rfl rfl ?_
  refine ev_aload_n dJ7_fill_d0a16_2 rfl ?_
  refine ev_alen (x := 60) ht0 (by decide) (by decide) dJ7_fill_d0a16_3 ?_
  refine ev_istore dJ7_fill_d0a16_4 (Nat.le_of_ble_eq_true rfl) rfl rfl ?_
  obtain ⟨q3, hq4, h⟩ := ab_bind h
  refine lp_J7_fill_d0a16_6 _ M t0 ht0 x1 0 60 _ hq4 ?_
  cases h
  exact ev_return rfl dJ7_fill_d0a16_22

noncomputable def mi_J7_fill_031fb_5 : Nat → ab_M → Nat → Int32 → Int32 → Int32 → Option (Int32 × ab_M)
  | 0, _, _, _, _, _ => none
  | n + 1, M, t0, x1, x2, x3 =>
    if x3 ≤ x2 then
      some (x2, M)
    else
      ab_chk (vp_in x2 60) <|
      mi_J7_fill_031fb_5 n (ab_pi M t0 (x2).toNatClampNeg (ab_i2b x1)) t0 x1 (x2 + 1) x3

set_option maxHeartbeats 4000000 in
set_option maxRecDepth 100000 in
theorem lp_J7_fill_031fb_5 {l : Launch} {D : va_G} {ac : Nat → ClassId} {n0 : Nat} {r : ab_Rs} : ∀ (n : Nat) (M : ab_M) (t0 : Nat) (ht0 : ab_isB t0) (x1 : Int32) (x2 : Int32) (x3 : Int32) (q : Int32 × ab_M) (h : mi_J7_fill_031fb_5 n M t0 x1 x2 x3 = some q) (kk : ab_Ev l D ac 1 me_J7_fill_031fb n0 0 0 r 0 0 ab_SH 20 [some (.ref t0), some (.int x1), some (.int q.1), some (.int x3)] [] q.2), ab_Ev l D ac 1 me_J7_fill_031fb n0 0 0 r 0 0 ab_SH 5 [some (.ref t0), some (.int x1), some (.int x2), some (.int x3)] [] M := by
  intro n
  induction n with
  | zero =>
    intro M t0 ht0 x1 x2 x3 q h kk
    cases h
  | succ n ih =>
    intro M t0 ht0 x1 x2 x3 q h kk
    unfold mi_J7_fill_031fb_5 at h
    refine ev_iload_n dJ7_fill_031fb_5 rfl ?_
    refine ev_iload_n dJ7_fill_031fb_6 rfl ?_
    refine ev_icmp_ge (t := 20) dJ7_fill_031fb_7 (by decide) (fun hc1 => ?_) (fun hc1 => ?_)
    · replace h := ab_pos hc1 h
      cases h
      exact kk
    · replace h := ab_neg hc1 h
      refine ev_aload_n dJ7_fill_031fb_10 rfl ?_
      refine ev_iload_n dJ7_fill_031fb_11 rfl ?_
      refine ev_iload_n dJ7_fill_031fb_12 rfl ?_
      obtain ⟨hb2, h⟩ := ab_chk_some h
      refine ev_bastore ht0 hb2 dJ7_fill_031fb_13 ?_
      refine ev_iinc (y := x2 + 1) dJ7_fill_031fb_14 rfl (by first | rfl | decide) rfl rfl ?_
      refine ev_goto (t := 5) dJ7_fill_031fb_17 (by decide) ?_
      exact ih (ab_pi M t0 (x2).toNatClampNeg (ab_i2b x1)) t0 ht0 x1 (x2 + 1) x3 _ h kk

noncomputable def mi_J7_fill_031fb (M : ab_M) (t0 : Nat) (x1 : Int32) : Option (ab_M) :=
  (mi_J7_fill_031fb_5 ab_F M t0 x1 0 60).bind fun q3 =>
  some q3.2

set_option maxHeartbeats 4000000 in
set_option maxRecDepth 100000 in
theorem co_J7_fill_031fb {l : Launch} {D : va_G} {ac : Nat → ClassId} (M : ab_M) (t0 : Nat) (ht0 : ab_isB t0) (x1 : Int32) (z : ab_M) (h : mi_J7_fill_031fb M t0 x1 = some z) : ab_Con l D ac 1 me_J7_fill_031fb 0 0 [.ref t0, .int x1] ab_SH M (none, ab_SH, z) := by
  refine ab_intro (lv := [some (.ref t0), some (.int x1), none, none]) (by decide) rfl (Nat.le_of_ble_eq_true rfl) rfl ?_
  unfold mi_J7_fill_031fb at h
  refine ev_iconst (x := 0) dJ7_fill_031fb_0 (by decide) ?_
  refine ev_istore_n dJ7_fill_031fb_1 (Nat.le_of_ble_eq_true rfl) rfl rfl ?_
  refine ev_aload_n dJ7_fill_031fb_2 rfl ?_
  refine ev_alen (x := 60) ht0 (by decide) (by decide) dJ7_fill_031fb_3 ?_
  refine ev_istore_n dJ7_fill_031fb_4 (Nat.le_of_ble_eq_true rfl) rfl rfl ?_
  obtain ⟨q3, hq4, h⟩ := ab_bind h
  refine lp_J7_fill_031fb_5 _ M t0 ht0 x1 0 60 _ hq4 ?_
  cases h
  exact ev_return rfl dJ7_fill_031fb_20
end
section
noncomputable def mi_X4_goTo (M : ab_M) (t0 : Nat) (x1 : Int32) : Option (ab_M) :=
  some (ab_pi (ab_pi M t0 2 (x1 / 64)) t0 3 (ab_rem x1 64))

set_option maxHeartbeats 4000000 in
set_option maxRecDepth 100000 in
theorem co_X4_goTo {l : Launch} {D : va_G} {ac : Nat → ClassId} (M : ab_M) (t0 : Nat) (ht0 : ab_isMast t0) (x1 : Int32) (z : ab_M) (h : mi_X4_goTo M t0 x1 = some z) : ab_Con l D ac 1 me_X4_goTo 0 0 [.ref t0, .int x1] ab_SH M (none, ab_SH, z) := by
  refine ab_intro (lv := [some (.ref t0), some (.int x1)]) (by decide) rfl (Nat.le_of_ble_eq_true rfl) rfl ?_
  unfold mi_X4_goTo at h
  refine ev_aload_n dX4_goTo_0 rfl ?_
  refine ev_iload_n dX4_goTo_1 rfl ?_
  refine ev_bipush (x := 64) dX4_goTo_2 (by decide) ?_
  refine ev_idiv dX4_goTo_4 (by decide) ?_
  refine ev_puti fl_RX4_38 ht0 (by decide) (by decide) rfl rfl rfl dX4_goTo_5 ?_
  refine ev_aload_n dX4_goTo_8 rfl ?_
  refine ev_iload_n dX4_goTo_9 rfl ?_
  refine ev_bipush (x := 64) dX4_goTo_10 (by decide) ?_
  refine ev_irem dX4_goTo_12 (by decide) ?_
  refine ev_puti fl_RX4_41 ht0 (by decide) (by decide) rfl rfl rfl dX4_goTo_13 ?_
  cases h
  exact ev_return rfl dX4_goTo_16

noncomputable def mi_X4_begin (M : ab_M) (t0 : Nat) (x1 : Int32) (x2 : Int32) (x3 : Int32) (x4 : Int32) (x5 : Int32) (x6 : Int32) : Option (ab_M) :=
  (mi_X4_goTo (ab_pi (ab_pi M t0 0 x1) t0 1 x2) t0 x3).bind fun q1 =>
  some (ab_pi (ab_pi (ab_pi (ab_pi (ab_pi q1 t0 4 x4) t0 5 x5) t0 6 x6) t0 7 1073741823) t0 8 5)

set_option maxHeartbeats 4000000 in
set_option maxRecDepth 100000 in
theorem co_X4_begin {l : Launch} {D : va_G} {ac : Nat → ClassId} (M : ab_M) (t0 : Nat) (ht0 : ab_isMast t0) (x1 : Int32) (x2 : Int32) (x3 : Int32) (x4 : Int32) (x5 : Int32) (x6 : Int32) (z : ab_M) (h : mi_X4_begin M t0 x1 x2 x3 x4 x5 x6 = some z) : ab_Con l D ac 2 me_X4_begin 0 0 [.ref t0, .int x1, .int x2, .int x3, .int x4, .int x5, .int x6] ab_SH M (none, ab_SH, z) := by
  refine ab_intro (lv := [some (.ref t0), some (.int x1), some (.int x2), some (.int x3), some (.int x4), some (.int x5), some (.int x6)]) (by decide) rfl (Nat.le_of_ble_eq_true rfl) rfl ?_
  unfold mi_X4_begin at h
  refine ev_aload_n dX4_begin_0 rfl ?_
  refine ev_iload_n dX4_begin_1 rfl ?_
  refine ev_puti fl_RX4_9 ht0 (by decide) (by decide) rfl rfl rfl dX4_begin_2 ?_
  refine ev_aload_n dX4_begin_5 rfl ?_
  refine ev_iload_n dX4_begin_6 rfl ?_
  refine ev_puti fl_RX4_15 ht0 (by decide) (by decide) rfl rfl rfl dX4_begin_7 ?_
  refine ev_aload_n dX4_begin_10 rfl ?_
  refine ev_iload_n dX4_begin_11 rfl ?_
  obtain ⟨q1, hv2, h⟩ := ab_bind h
  refine ev_callV (st := []) (co_X4_goTo (ab_pi (ab_pi M t0 0 x1) t0 1 x2) t0 ht0 x3 _ hv2) mv_X4_goTo ht0 ml_RX4_18 dX4_begin_12 (by decide) rfl (Nat.le_of_ble_eq_true rfl) ⟨Nat.le_refl _, Nat.le_refl _⟩ ?_
  refine ev_aload_n dX4_begin_15 rfl ?_
  refine ev_iload dX4_begin_16 rfl ?_
  refine ev_puti fl_RX4_22 ht0 (by decide) (by decide) rfl rfl rfl dX4_begin_18 ?_
  refine ev_aload_n dX4_begin_21 rfl ?_
  refine ev_iload dX4_begin_22 rfl ?_
  refine ev_puti fl_RX4_25 ht0 (by decide) (by decide) rfl rfl rfl dX4_begin_24 ?_
  refine ev_aload_n dX4_begin_27 rfl ?_
  refine ev_iload dX4_begin_28 rfl ?_
  refine ev_puti fl_RX4_28 ht0 (by decide) (by decide) rfl rfl rfl dX4_begin_30 ?_
  refine ev_aload_n dX4_begin_33 rfl ?_
  refine ev_ldc kw_RX4_31 dX4_begin_34 ?_
  refine ev_puti fl_RX4_32 ht0 (by decide) (by decide) rfl rfl rfl dX4_begin_36 ?_
  refine ev_aload_n dX4_begin_39 rfl ?_
  refine ev_iconst (x := 5) dX4_begin_40 (by decide) ?_
  refine ev_puti fl_RX4_35 ht0 (by decide) (by decide) rfl rfl rfl dX4_begin_41 ?_
  cases h
  exact ev_return rfl dX4_begin_44

noncomputable def mi_X4_takeAll (M : ab_M) (t0 : Nat) (t1 : Nat) : Option (ab_M) :=
  some (ab_pi (ab_pi (ab_pi (ab_pi (ab_pi (ab_pi (ab_pi (ab_pi (ab_pi M t0 0 (M.1 t1 0)) t0 1 ((ab_pi M t0 0 (M.1 t1 0)).1 t1 1)) t0 2 ((ab_pi (ab_pi M t0 0 (M.1 t1 0)) t0 1 ((ab_pi M t0 0 (M.1 t1 0)).1 t1 1)).1 t1 2)) t0 3 ((ab_pi (ab_pi (ab_pi M t0 0 (M.1 t1 0)) t0 1 ((ab_pi M t0 0 (M.1 t1 0)).1 t1 1)) t0 2 ((ab_pi (ab_pi M t0 0 (M.1 t1 0)) t0 1 ((ab_pi M t0 0 (M.1 t1 0)).1 t1 1)).1 t1 2)).1 t1 3)) t0 4 ((ab_pi (ab_pi (ab_pi (ab_pi M t0 0 (M.1 t1 0)) t0 1 ((ab_pi M t0 0 (M.1 t1 0)).1 t1 1)) t0 2 ((ab_pi (ab_pi M t0 0 (M.1 t1 0)) t0 1 ((ab_pi M t0 0 (M.1 t1 0)).1 t1 1)).1 t1 2)) t0 3 ((ab_pi (ab_pi (ab_pi M t0 0 (M.1 t1 0)) t0 1 ((ab_pi M t0 0 (M.1 t1 0)).1 t1 1)) t0 2 ((ab_pi (ab_pi M t0 0 (M.1 t1 0)) t0 1 ((ab_pi M t0 0 (M.1 t1 0)).1 t1 1)).1 t1 2)).1 t1 3)).1 t1 4)) t0 5 ((ab_pi (ab_pi (ab_pi (ab_pi (ab_pi M t0 0 (M.1 t1 0)) t0 1 ((ab_pi M t0 0 (M.1 t1 0)).1 t1 1)) t0 2 ((ab_pi (ab_pi M t0 0 (M.1 t1 0)) t0 1 ((ab_pi M t0 0 (M.1 t1 0)).1 t1 1)).1 t1 2)) t0 3 ((ab_pi (ab_pi (ab_pi M t0 0 (M.1 t1 0)) t0 1 ((ab_pi M t0 0 (M.1 t1 0)).1 t1 1)) t0 2 ((ab_pi (ab_pi M t0 0 (M.1 t1 0)) t0 1 ((ab_pi M t0 0 (M.1 t1 0)).1 t1 1)).1 t1 2)).1 t1 3)) t0 4 ((ab_pi (ab_pi (ab_pi (ab_pi M t0 0 (M.1 t1 0)) t0 1 ((ab_pi M t0 0 (M.1 t1 0)).1 t1 1)) t0 2 ((ab_pi (ab_pi M t0 0 (M.1 t1 0)) t0 1 ((ab_pi M t0 0 (M.1 t1 0)).1 t1 1)).1 t1 2)) t0 3 ((ab_pi (ab_pi (ab_pi M t0 0 (M.1 t1 0)) t0 1 ((ab_pi M t0 0 (M.1 t1 0)).1 t1 1)) t0 2 ((ab_pi (ab_pi M t0 0 (M.1 t1 0)) t0 1 ((ab_pi M t0 0 (M.1 t1 0)).1 t1 1)).1 t1 2)).1 t1 3)).1 t1 4)).1 t1 5)) t0 6 ((ab_pi (ab_pi (ab_pi (ab_pi (ab_pi (ab_pi M t0 0 (M.1 t1 0)) t0 1 ((ab_pi M t0 0 (M.1 t1 0)).1 t1 1)) t0 2 ((ab_pi (ab_pi M t0 0 (M.1 t1 0)) t0 1 ((ab_pi M t0 0 (M.1 t1 0)).1 t1 1)).1 t1 2)) t0 3 ((ab_pi (ab_pi (ab_pi M t0 0 (M.1 t1 0)) t0 1 ((ab_pi M t0 0 (M.1 t1 0)).1 t1 1)) t0 2 ((ab_pi (ab_pi M t0 0 (M.1 t1 0)) t0 1 ((ab_pi M t0 0 (M.1 t1 0)).1 t1 1)).1 t1 2)).1 t1 3)) t0 4 ((ab_pi (ab_pi (ab_pi (ab_pi M t0 0 (M.1 t1 0)) t0 1 ((ab_pi M t0 0 (M.1 t1 0)).1 t1 1)) t0 2 ((ab_pi (ab_pi M t0 0 (M.1 t1 0)) t0 1 ((ab_pi M t0 0 (M.1 t1 0)).1 t1 1)).1 t1 2)) t0 3 ((ab_pi (ab_pi (ab_pi M t0 0 (M.1 t1 0)) t0 1 ((ab_pi M t0 0 (M.1 t1 0)).1 t1 1)) t0 2 ((ab_pi (ab_pi M t0 0 (M.1 t1 0)) t0 1 ((ab_pi M t0 0 (M.1 t1 0)).1 t1 1)).1 t1 2)).1 t1 3)).1 t1 4)) t0 5 ((ab_pi (ab_pi (ab_pi (ab_pi (ab_pi M t0 0 (M.1 t1 0)) t0 1 ((ab_pi M t0 0 (M.1 t1 0)).1 t1 1)) t0 2 ((ab_pi (ab_pi M t0 0 (M.1 t1 0)) t0 1 ((ab_pi M t0 0 (M.1 t1 0)).1 t1 1)).1 t1 2)) t0 3 ((ab_pi (ab_pi (ab_pi M t0 0 (M.1 t1 0)) t0 1 ((ab_pi M t0 0 (M.1 t1 0)).1 t1 1)) t0 2 ((ab_pi (ab_pi M t0 0 (M.1 t1 0)) t0 1 ((ab_pi M t0 0 (M.1 t1 0)).1 t1 1)).1 t1 2)).1 t1 3)) t0 4 ((ab_pi (ab_pi (ab_pi (ab_pi M t0 0 (M.1 t1 0)) t0 1 ((ab_pi M t0 0 (M.1 t1 0)).1 t1 1)) t0 2 ((ab_pi (ab_pi M t0 0 (M.1 t1 0)) t0 1 ((ab_pi M t0 0 (M.1 t1 0)).1 t1 1)).1 t1 2)) t0 3 ((ab_pi (ab_pi (ab_pi M t0 0 (M.1 t1 0)) t0 1 ((ab_pi M t0 0 (M.1 t1 0)).1 t1 1)) t0 2 ((ab_pi (ab_pi M t0 0 (M.1 t1 0)) t0 1 ((ab_pi M t0 0 (M.1 t1 0)).1 t1 1)).1 t1 2)).1 t1 3)).1 t1 4)).1 t1 5)).1 t1 6)) t0 7 ((ab_pi (ab_pi (ab_pi (ab_pi (ab_pi (ab_pi (ab_pi M t0 0 (M.1 t1 0)) t0 1 ((ab_pi M t0 0 (M.1 t1 0)).1 t1 1)) t0 2 ((ab_pi (ab_pi M t0 0 (M.1 t1 0)) t0 1 ((ab_pi M t0 0 (M.1 t1 0)).1 t1 1)).1 t1 2)) t0 3 ((ab_pi (ab_pi (ab_pi M t0 0 (M.1 t1 0)) t0 1 ((ab_pi M t0 0 (M.1 t1 0)).1 t1 1)) t0 2 ((ab_pi (ab_pi M t0 0 (M.1 t1 0)) t0 1 ((ab_pi M t0 0 (M.1 t1 0)).1 t1 1)).1 t1 2)).1 t1 3)) t0 4 ((ab_pi (ab_pi (ab_pi (ab_pi M t0 0 (M.1 t1 0)) t0 1 ((ab_pi M t0 0 (M.1 t1 0)).1 t1 1)) t0 2 ((ab_pi (ab_pi M t0 0 (M.1 t1 0)) t0 1 ((ab_pi M t0 0 (M.1 t1 0)).1 t1 1)).1 t1 2)) t0 3 ((ab_pi (ab_pi (ab_pi M t0 0 (M.1 t1 0)) t0 1 ((ab_pi M t0 0 (M.1 t1 0)).1 t1 1)) t0 2 ((ab_pi (ab_pi M t0 0 (M.1 t1 0)) t0 1 ((ab_pi M t0 0 (M.1 t1 0)).1 t1 1)).1 t1 2)).1 t1 3)).1 t1 4)) t0 5 ((ab_pi (ab_pi (ab_pi (ab_pi (ab_pi M t0 0 (M.1 t1 0)) t0 1 ((ab_pi M t0 0 (M.1 t1 0)).1 t1 1)) t0 2 ((ab_pi (ab_pi M t0 0 (M.1 t1 0)) t0 1 ((ab_pi M t0 0 (M.1 t1 0)).1 t1 1)).1 t1 2)) t0 3 ((ab_pi (ab_pi (ab_pi M t0 0 (M.1 t1 0)) t0 1 ((ab_pi M t0 0 (M.1 t1 0)).1 t1 1)) t0 2 ((ab_pi (ab_pi M t0 0 (M.1 t1 0)) t0 1 ((ab_pi M t0 0 (M.1 t1 0)).1 t1 1)).1 t1 2)).1 t1 3)) t0 4 ((ab_pi (ab_pi (ab_pi (ab_pi M t0 0 (M.1 t1 0)) t0 1 ((ab_pi M t0 0 (M.1 t1 0)).1 t1 1)) t0 2 ((ab_pi (ab_pi M t0 0 (M.1 t1 0)) t0 1 ((ab_pi M t0 0 (M.1 t1 0)).1 t1 1)).1 t1 2)) t0 3 ((ab_pi (ab_pi (ab_pi M t0 0 (M.1 t1 0)) t0 1 ((ab_pi M t0 0 (M.1 t1 0)).1 t1 1)) t0 2 ((ab_pi (ab_pi M t0 0 (M.1 t1 0)) t0 1 ((ab_pi M t0 0 (M.1 t1 0)).1 t1 1)).1 t1 2)).1 t1 3)).1 t1 4)).1 t1 5)) t0 6 ((ab_pi (ab_pi (ab_pi (ab_pi (ab_pi (ab_pi M t0 0 (M.1 t1 0)) t0 1 ((ab_pi M t0 0 (M.1 t1 0)).1 t1 1)) t0 2 ((ab_pi (ab_pi M t0 0 (M.1 t1 0)) t0 1 ((ab_pi M t0 0 (M.1 t1 0)).1 t1 1)).1 t1 2)) t0 3 ((ab_pi (ab_pi (ab_pi M t0 0 (M.1 t1 0)) t0 1 ((ab_pi M t0 0 (M.1 t1 0)).1 t1 1)) t0 2 ((ab_pi (ab_pi M t0 0 (M.1 t1 0)) t0 1 ((ab_pi M t0 0 (M.1 t1 0)).1 t1 1)).1 t1 2)).1 t1 3)) t0 4 ((ab_pi (ab_pi (ab_pi (ab_pi M t0 0 (M.1 t1 0)) t0 1 ((ab_pi M t0 0 (M.1 t1 0)).1 t1 1)) t0 2 ((ab_pi (ab_pi M t0 0 (M.1 t1 0)) t0 1 ((ab_pi M t0 0 (M.1 t1 0)).1 t1 1)).1 t1 2)) t0 3 ((ab_pi (ab_pi (ab_pi M t0 0 (M.1 t1 0)) t0 1 ((ab_pi M t0 0 (M.1 t1 0)).1 t1 1)) t0 2 ((ab_pi (ab_pi M t0 0 (M.1 t1 0)) t0 1 ((ab_pi M t0 0 (M.1 t1 0)).1 t1 1)).1 t1 2)).1 t1 3)).1 t1 4)) t0 5 ((ab_pi (ab_pi (ab_pi (ab_pi (ab_pi M t0 0 (M.1 t1 0)) t0 1 ((ab_pi M t0 0 (M.1 t1 0)).1 t1 1)) t0 2 ((ab_pi (ab_pi M t0 0 (M.1 t1 0)) t0 1 ((ab_pi M t0 0 (M.1 t1 0)).1 t1 1)).1 t1 2)) t0 3 ((ab_pi (ab_pi (ab_pi M t0 0 (M.1 t1 0)) t0 1 ((ab_pi M t0 0 (M.1 t1 0)).1 t1 1)) t0 2 ((ab_pi (ab_pi M t0 0 (M.1 t1 0)) t0 1 ((ab_pi M t0 0 (M.1 t1 0)).1 t1 1)).1 t1 2)).1 t1 3)) t0 4 ((ab_pi (ab_pi (ab_pi (ab_pi M t0 0 (M.1 t1 0)) t0 1 ((ab_pi M t0 0 (M.1 t1 0)).1 t1 1)) t0 2 ((ab_pi (ab_pi M t0 0 (M.1 t1 0)) t0 1 ((ab_pi M t0 0 (M.1 t1 0)).1 t1 1)).1 t1 2)) t0 3 ((ab_pi (ab_pi (ab_pi M t0 0 (M.1 t1 0)) t0 1 ((ab_pi M t0 0 (M.1 t1 0)).1 t1 1)) t0 2 ((ab_pi (ab_pi M t0 0 (M.1 t1 0)) t0 1 ((ab_pi M t0 0 (M.1 t1 0)).1 t1 1)).1 t1 2)).1 t1 3)).1 t1 4)).1 t1 5)).1 t1 6)).1 t1 7)) t0 8 ((ab_pi (ab_pi (ab_pi (ab_pi (ab_pi (ab_pi (ab_pi (ab_pi M t0 0 (M.1 t1 0)) t0 1 ((ab_pi M t0 0 (M.1 t1 0)).1 t1 1)) t0 2 ((ab_pi (ab_pi M t0 0 (M.1 t1 0)) t0 1 ((ab_pi M t0 0 (M.1 t1 0)).1 t1 1)).1 t1 2)) t0 3 ((ab_pi (ab_pi (ab_pi M t0 0 (M.1 t1 0)) t0 1 ((ab_pi M t0 0 (M.1 t1 0)).1 t1 1)) t0 2 ((ab_pi (ab_pi M t0 0 (M.1 t1 0)) t0 1 ((ab_pi M t0 0 (M.1 t1 0)).1 t1 1)).1 t1 2)).1 t1 3)) t0 4 ((ab_pi (ab_pi (ab_pi (ab_pi M t0 0 (M.1 t1 0)) t0 1 ((ab_pi M t0 0 (M.1 t1 0)).1 t1 1)) t0 2 ((ab_pi (ab_pi M t0 0 (M.1 t1 0)) t0 1 ((ab_pi M t0 0 (M.1 t1 0)).1 t1 1)).1 t1 2)) t0 3 ((ab_pi (ab_pi (ab_pi M t0 0 (M.1 t1 0)) t0 1 ((ab_pi M t0 0 (M.1 t1 0)).1 t1 1)) t0 2 ((ab_pi (ab_pi M t0 0 (M.1 t1 0)) t0 1 ((ab_pi M t0 0 (M.1 t1 0)).1 t1 1)).1 t1 2)).1 t1 3)).1 t1 4)) t0 5 ((ab_pi (ab_pi (ab_pi (ab_pi (ab_pi M t0 0 (M.1 t1 0)) t0 1 ((ab_pi M t0 0 (M.1 t1 0)).1 t1 1)) t0 2 ((ab_pi (ab_pi M t0 0 (M.1 t1 0)) t0 1 ((ab_pi M t0 0 (M.1 t1 0)).1 t1 1)).1 t1 2)) t0 3 ((ab_pi (ab_pi (ab_pi M t0 0 (M.1 t1 0)) t0 1 ((ab_pi M t0 0 (M.1 t1 0)).1 t1 1)) t0 2 ((ab_pi (ab_pi M t0 0 (M.1 t1 0)) t0 1 ((ab_pi M t0 0 (M.1 t1 0)).1 t1 1)).1 t1 2)).1 t1 3)) t0 4 ((ab_pi (ab_pi (ab_pi (ab_pi M t0 0 (M.1 t1 0)) t0 1 ((ab_pi M t0 0 (M.1 t1 0)).1 t1 1)) t0 2 ((ab_pi (ab_pi M t0 0 (M.1 t1 0)) t0 1 ((ab_pi M t0 0 (M.1 t1 0)).1 t1 1)).1 t1 2)) t0 3 ((ab_pi (ab_pi (ab_pi M t0 0 (M.1 t1 0)) t0 1 ((ab_pi M t0 0 (M.1 t1 0)).1 t1 1)) t0 2 ((ab_pi (ab_pi M t0 0 (M.1 t1 0)) t0 1 ((ab_pi M t0 0 (M.1 t1 0)).1 t1 1)).1 t1 2)).1 t1 3)).1 t1 4)).1 t1 5)) t0 6 ((ab_pi (ab_pi (ab_pi (ab_pi (ab_pi (ab_pi M t0 0 (M.1 t1 0)) t0 1 ((ab_pi M t0 0 (M.1 t1 0)).1 t1 1)) t0 2 ((ab_pi (ab_pi M t0 0 (M.1 t1 0)) t0 1 ((ab_pi M t0 0 (M.1 t1 0)).1 t1 1)).1 t1 2)) t0 3 ((ab_pi (ab_pi (ab_pi M t0 0 (M.1 t1 0)) t0 1 ((ab_pi M t0 0 (M.1 t1 0)).1 t1 1)) t0 2 ((ab_pi (ab_pi M t0 0 (M.1 t1 0)) t0 1 ((ab_pi M t0 0 (M.1 t1 0)).1 t1 1)).1 t1 2)).1 t1 3)) t0 4 ((ab_pi (ab_pi (ab_pi (ab_pi M t0 0 (M.1 t1 0)) t0 1 ((ab_pi M t0 0 (M.1 t1 0)).1 t1 1)) t0 2 ((ab_pi (ab_pi M t0 0 (M.1 t1 0)) t0 1 ((ab_pi M t0 0 (M.1 t1 0)).1 t1 1)).1 t1 2)) t0 3 ((ab_pi (ab_pi (ab_pi M t0 0 (M.1 t1 0)) t0 1 ((ab_pi M t0 0 (M.1 t1 0)).1 t1 1)) t0 2 ((ab_pi (ab_pi M t0 0 (M.1 t1 0)) t0 1 ((ab_pi M t0 0 (M.1 t1 0)).1 t1 1)).1 t1 2)).1 t1 3)).1 t1 4)) t0 5 ((ab_pi (ab_pi (ab_pi (ab_pi (ab_pi M t0 0 (M.1 t1 0)) t0 1 ((ab_pi M t0 0 (M.1 t1 0)).1 t1 1)) t0 2 ((ab_pi (ab_pi M t0 0 (M.1 t1 0)) t0 1 ((ab_pi M t0 0 (M.1 t1 0)).1 t1 1)).1 t1 2)) t0 3 ((ab_pi (ab_pi (ab_pi M t0 0 (M.1 t1 0)) t0 1 ((ab_pi M t0 0 (M.1 t1 0)).1 t1 1)) t0 2 ((ab_pi (ab_pi M t0 0 (M.1 t1 0)) t0 1 ((ab_pi M t0 0 (M.1 t1 0)).1 t1 1)).1 t1 2)).1 t1 3)) t0 4 ((ab_pi (ab_pi (ab_pi (ab_pi M t0 0 (M.1 t1 0)) t0 1 ((ab_pi M t0 0 (M.1 t1 0)).1 t1 1)) t0 2 ((ab_pi (ab_pi M t0 0 (M.1 t1 0)) t0 1 ((ab_pi M t0 0 (M.1 t1 0)).1 t1 1)).1 t1 2)) t0 3 ((ab_pi (ab_pi (ab_pi M t0 0 (M.1 t1 0)) t0 1 ((ab_pi M t0 0 (M.1 t1 0)).1 t1 1)) t0 2 ((ab_pi (ab_pi M t0 0 (M.1 t1 0)) t0 1 ((ab_pi M t0 0 (M.1 t1 0)).1 t1 1)).1 t1 2)).1 t1 3)).1 t1 4)).1 t1 5)).1 t1 6)) t0 7 ((ab_pi (ab_pi (ab_pi (ab_pi (ab_pi (ab_pi (ab_pi M t0 0 (M.1 t1 0)) t0 1 ((ab_pi M t0 0 (M.1 t1 0)).1 t1 1)) t0 2 ((ab_pi (ab_pi M t0 0 (M.1 t1 0)) t0 1 ((ab_pi M t0 0 (M.1 t1 0)).1 t1 1)).1 t1 2)) t0 3 ((ab_pi (ab_pi (ab_pi M t0 0 (M.1 t1 0)) t0 1 ((ab_pi M t0 0 (M.1 t1 0)).1 t1 1)) t0 2 ((ab_pi (ab_pi M t0 0 (M.1 t1 0)) t0 1 ((ab_pi M t0 0 (M.1 t1 0)).1 t1 1)).1 t1 2)).1 t1 3)) t0 4 ((ab_pi (ab_pi (ab_pi (ab_pi M t0 0 (M.1 t1 0)) t0 1 ((ab_pi M t0 0 (M.1 t1 0)).1 t1 1)) t0 2 ((ab_pi (ab_pi M t0 0 (M.1 t1 0)) t0 1 ((ab_pi M t0 0 (M.1 t1 0)).1 t1 1)).1 t1 2)) t0 3 ((ab_pi (ab_pi (ab_pi M t0 0 (M.1 t1 0)) t0 1 ((ab_pi M t0 0 (M.1 t1 0)).1 t1 1)) t0 2 ((ab_pi (ab_pi M t0 0 (M.1 t1 0)) t0 1 ((ab_pi M t0 0 (M.1 t1 0)).1 t1 1)).1 t1 2)).1 t1 3)).1 t1 4)) t0 5 ((ab_pi (ab_pi (ab_pi (ab_pi (ab_pi M t0 0 (M.1 t1 0)) t0 1 ((ab_pi M t0 0 (M.1 t1 0)).1 t1 1)) t0 2 ((ab_pi (ab_pi M t0 0 (M.1 t1 0)) t0 1 ((ab_pi M t0 0 (M.1 t1 0)).1 t1 1)).1 t1 2)) t0 3 ((ab_pi (ab_pi (ab_pi M t0 0 (M.1 t1 0)) t0 1 ((ab_pi M t0 0 (M.1 t1 0)).1 t1 1)) t0 2 ((ab_pi (ab_pi M t0 0 (M.1 t1 0)) t0 1 ((ab_pi M t0 0 (M.1 t1 0)).1 t1 1)).1 t1 2)).1 t1 3)) t0 4 ((ab_pi (ab_pi (ab_pi (ab_pi M t0 0 (M.1 t1 0)) t0 1 ((ab_pi M t0 0 (M.1 t1 0)).1 t1 1)) t0 2 ((ab_pi (ab_pi M t0 0 (M.1 t1 0)) t0 1 ((ab_pi M t0 0 (M.1 t1 0)).1 t1 1)).1 t1 2)) t0 3 ((ab_pi (ab_pi (ab_pi M t0 0 (M.1 t1 0)) t0 1 ((ab_pi M t0 0 (M.1 t1 0)).1 t1 1)) t0 2 ((ab_pi (ab_pi M t0 0 (M.1 t1 0)) t0 1 ((ab_pi M t0 0 (M.1 t1 0)).1 t1 1)).1 t1 2)).1 t1 3)).1 t1 4)).1 t1 5)) t0 6 ((ab_pi (ab_pi (ab_pi (ab_pi (ab_pi (ab_pi M t0 0 (M.1 t1 0)) t0 1 ((ab_pi M t0 0 (M.1 t1 0)).1 t1 1)) t0 2 ((ab_pi (ab_pi M t0 0 (M.1 t1 0)) t0 1 ((ab_pi M t0 0 (M.1 t1 0)).1 t1 1)).1 t1 2)) t0 3 ((ab_pi (ab_pi (ab_pi M t0 0 (M.1 t1 0)) t0 1 ((ab_pi M t0 0 (M.1 t1 0)).1 t1 1)) t0 2 ((ab_pi (ab_pi M t0 0 (M.1 t1 0)) t0 1 ((ab_pi M t0 0 (M.1 t1 0)).1 t1 1)).1 t1 2)).1 t1 3)) t0 4 ((ab_pi (ab_pi (ab_pi (ab_pi M t0 0 (M.1 t1 0)) t0 1 ((ab_pi M t0 0 (M.1 t1 0)).1 t1 1)) t0 2 ((ab_pi (ab_pi M t0 0 (M.1 t1 0)) t0 1 ((ab_pi M t0 0 (M.1 t1 0)).1 t1 1)).1 t1 2)) t0 3 ((ab_pi (ab_pi (ab_pi M t0 0 (M.1 t1 0)) t0 1 ((ab_pi M t0 0 (M.1 t1 0)).1 t1 1)) t0 2 ((ab_pi (ab_pi M t0 0 (M.1 t1 0)) t0 1 ((ab_pi M t0 0 (M.1 t1 0)).1 t1 1)).1 t1 2)).1 t1 3)).1 t1 4)) t0 5 ((ab_pi (ab_pi (ab_pi (ab_pi (ab_pi M t0 0 (M.1 t1 0)) t0 1 ((ab_pi M t0 0 (M.1 t1 0)).1 t1 1)) t0 2 ((ab_pi (ab_pi M t0 0 (M.1 t1 0)) t0 1 ((ab_pi M t0 0 (M.1 t1 0)).1 t1 1)).1 t1 2)) t0 3 ((ab_pi (ab_pi (ab_pi M t0 0 (M.1 t1 0)) t0 1 ((ab_pi M t0 0 (M.1 t1 0)).1 t1 1)) t0 2 ((ab_pi (ab_pi M t0 0 (M.1 t1 0)) t0 1 ((ab_pi M t0 0 (M.1 t1 0)).1 t1 1)).1 t1 2)).1 t1 3)) t0 4 ((ab_pi (ab_pi (ab_pi (ab_pi M t0 0 (M.1 t1 0)) t0 1 ((ab_pi M t0 0 (M.1 t1 0)).1 t1 1)) t0 2 ((ab_pi (ab_pi M t0 0 (M.1 t1 0)) t0 1 ((ab_pi M t0 0 (M.1 t1 0)).1 t1 1)).1 t1 2)) t0 3 ((ab_pi (ab_pi (ab_pi M t0 0 (M.1 t1 0)) t0 1 ((ab_pi M t0 0 (M.1 t1 0)).1 t1 1)) t0 2 ((ab_pi (ab_pi M t0 0 (M.1 t1 0)) t0 1 ((ab_pi M t0 0 (M.1 t1 0)).1 t1 1)).1 t1 2)).1 t1 3)).1 t1 4)).1 t1 5)).1 t1 6)).1 t1 7)).1 t1 8))

set_option maxHeartbeats 4000000 in
set_option maxRecDepth 100000 in
theorem co_X4_takeAll {l : Launch} {D : va_G} {ac : Nat → ClassId} (M : ab_M) (t0 : Nat) (ht0 : ab_isMast t0) (t1 : Nat) (ht1 : ab_isMast t1) (z : ab_M) (h : mi_X4_takeAll M t0 t1 = some z) : ab_Con l D ac 1 me_X4_takeAll 0 0 [.ref t0, .ref t1] ab_SH M (none, ab_SH, z) := by
  refine ab_intro (lv := [some (.ref t0), some (.ref t1)]) (by decide) rfl (Nat.le_of_ble_eq_true rfl) rfl ?_
  unfold mi_X4_takeAll at h
  refine ev_aload_n dX4_takeAll_0 rfl ?_
  refine ev_aload_n dX4_takeAll_1 rfl ?_
  refine ev_geti fl_RX4_9 ht1 (by decide) (by decide) rfl dX4_takeAll_2 ?_
  refine ev_puti fl_RX4_9 ht0 (by decide) (by decide) rfl rfl rfl dX4_takeAll_5 ?_
  refine ev_aload_n dX4_takeAll_8 rfl ?_
  refine ev_aload_n dX4_takeAll_9 rfl ?_
  refine ev_geti fl_RX4_15 ht1 (by decide) (by decide) rfl dX4_takeAll_10 ?_
  refine ev_puti fl_RX4_15 ht0 (by decide) (by decide) rfl rfl rfl dX4_takeAll_13 ?_
  refine ev_aload_n dX4_takeAll_16 rfl ?_
  refine ev_aload_n dX4_takeAll_17 rfl ?_
  refine ev_geti fl_RX4_38 ht1 (by decide) (by decide) rfl dX4_takeAll_18 ?_
  refine ev_puti fl_RX4_38 ht0 (by decide) (by decide) rfl rfl rfl dX4_takeAll_21 ?_
  refine ev_aload_n dX4_takeAll_24 rfl ?_
  refine ev_aload_n dX4_takeAll_25 rfl ?_
  refine ev_geti fl_RX4_41 ht1 (by decide) (by decide) rfl dX4_takeAll_26 ?_
  refine ev_puti fl_RX4_41 ht0 (by decide) (by decide) rfl rfl rfl dX4_takeAll_29 ?_
  refine ev_aload_n dX4_takeAll_32 rfl ?_
  refine ev_aload_n dX4_takeAll_33 rfl ?_
  refine ev_geti fl_RX4_22 ht1 (by decide) (by decide) rfl dX4_takeAll_34 ?_
  refine ev_puti fl_RX4_22 ht0 (by decide) (by decide) rfl rfl rfl dX4_takeAll_37 ?_
  refine ev_aload_n dX4_takeAll_40 rfl ?_
  refine ev_aload_n dX4_takeAll_41 rfl ?_
  refine ev_geti fl_RX4_25 ht1 (by decide) (by decide) rfl dX4_takeAll_42 ?_
  refine ev_puti fl_RX4_25 ht0 (by decide) (by decide) rfl rfl rfl dX4_takeAll_45 ?_
  refine ev_aload_n dX4_takeAll_48 rfl ?_
  refine ev_aload_n dX4_takeAll_49 rfl ?_
  refine ev_geti fl_RX4_28 ht1 (by decide) (by decide) rfl dX4_takeAll_50 ?_
  refine ev_puti fl_RX4_28 ht0 (by decide) (by decide) rfl rfl rfl dX4_takeAll_53 ?_
  refine ev_aload_n dX4_takeAll_56 rfl ?_
  refine ev_aload_n dX4_takeAll_57 rfl ?_
  refine ev_geti fl_RX4_32 ht1 (by decide) (by decide) rfl dX4_takeAll_58 ?_
  refine ev_puti fl_RX4_32 ht0 (by decide) (by decide) rfl rfl rfl dX4_takeAll_61 ?_
  refine ev_aload_n dX4_takeAll_64 rfl ?_
  refine ev_aload_n dX4_takeAll_65 rfl ?_
  refine ev_geti fl_RX4_35 ht1 (by decide) (by decide) rfl dX4_takeAll_66 ?_
  refine ev_puti fl_RX4_35 ht0 (by decide) (by decide) rfl rfl rfl dX4_takeAll_69 ?_
  cases h
  exact ev_return rfl dX4_takeAll_72

noncomputable def mi_X4_trait (M : ab_M) (t0 : Nat) (x1 : Int32) : Option (Int32) :=
  if x1 = 0 then
    some (M.1 t0 1)
  else
    if x1 = 1 then
      some (M.1 t0 2)
    else
      if x1 = 2 then
        some (M.1 t0 3)
      else
        if x1 = 3 then
          some (M.1 t0 4)
        else
          if x1 = 4 then
            some (M.1 t0 5)
          else
            if x1 = 5 then
              some (M.1 t0 6)
            else
              if x1 = 6 then
                (mi_J6_bitCount_0f7a4 M (M.1 t0 7)).bind fun q8 =>
                some q8
              else
                if x1 = 7 then
                  if (M.1 t0 1) = 1 then
                    some (M.1 t0 8)
                  else
                    some (-2)
                else
                  some (-1)

set_option maxHeartbeats 4000000 in
set_option maxRecDepth 100000 in
theorem co_X4_trait {l : Launch} {D : va_G} {ac : Nat → ClassId} (M : ab_M) (t0 : Nat) (ht0 : ab_isMast t0) (x1 : Int32) (z : Int32) (h : mi_X4_trait M t0 x1 = some z) : ab_Con l D ac 2 me_X4_trait 0 0 [.ref t0, .int x1] ab_SH M (some (.int z), ab_SH, M) := by
  refine ab_intro (lv := [some (.ref t0), some (.int x1)]) (by decide) rfl (Nat.le_of_ble_eq_true rfl) rfl ?_
  unfold mi_X4_trait at h
  refine ev_iload_n dX4_trait_0 rfl ?_
  by_cases hc1 : x1 = 0
  · replace h := ab_pos hc1 h
    have hx19 : (x1 : Int32).toInt = 0 := by rw [hc1]; decide
    refine ev_tableIn (t := 48) (off := 47) dX4_trait_1 (by rw [hx19]; decide) (by rw [hx19]; decide) (by rw [hx19]; rfl) (by decide) ?_
    refine ev_aload_n dX4_trait_48 rfl ?_
    refine ev_geti fl_RX4_15 ht0 (by decide) (by decide) rfl dX4_trait_49 ?_
    cases h
    exact ev_ireturn rfl dX4_trait_52
  · replace h := ab_neg hc1 h
    by_cases hc2 : x1 = 1
    · replace h := ab_pos hc2 h
      have hx18 : (x1 : Int32).toInt = 1 := by rw [hc2]; decide
      refine ev_tableIn (t := 53) (off := 52) dX4_trait_1 (by rw [hx18]; decide) (by rw [hx18]; decide) (by rw [hx18]; rfl) (by decide) ?_
      refine ev_aload_n dX4_trait_53 rfl ?_
      refine ev_geti fl_RX4_38 ht0 (by decide) (by decide) rfl dX4_trait_54 ?_
      cases h
      exact ev_ireturn rfl dX4_trait_57
    · replace h := ab_neg hc2 h
      by_cases hc3 : x1 = 2
      · replace h := ab_pos hc3 h
        have hx17 : (x1 : Int32).toInt = 2 := by rw [hc3]; decide
        refine ev_tableIn (t := 58) (off := 57) dX4_trait_1 (by rw [hx17]; decide) (by rw [hx17]; decide) (by rw [hx17]; rfl) (by decide) ?_
        refine ev_aload_n dX4_trait_58 rfl ?_
        refine ev_geti fl_RX4_41 ht0 (by decide) (by decide) rfl dX4_trait_59 ?_
        cases h
        exact ev_ireturn rfl dX4_trait_62
      · replace h := ab_neg hc3 h
        by_cases hc4 : x1 = 3
        · replace h := ab_pos hc4 h
          have hx16 : (x1 : Int32).toInt = 3 := by rw [hc4]; decide
          refine ev_tableIn (t := 63) (off := 62) dX4_trait_1 (by rw [hx16]; decide) (by rw [hx16]; decide) (by rw [hx16]; rfl) (by decide) ?_
          refine ev_aload_n dX4_trait_63 rfl ?_
          refine ev_geti fl_RX4_22 ht0 (by decide) (by decide) rfl dX4_trait_64 ?_
          cases h
          exact ev_ireturn rfl dX4_trait_67
        · replace h := ab_neg hc4 h
          by_cases hc5 : x1 = 4
          · replace h := ab_pos hc5 h
            have hx15 : (x1 : Int32).toInt = 4 := by rw [hc5]; decide
            refine ev_tableIn (t := 68) (off := 67) dX4_trait_1 (by rw [hx15]; decide) (by rw [hx15]; decide) (by rw [hx15]; rfl) (by decide) ?_
            refine ev_aload_n dX4_trait_68 rfl ?_
            refine ev_geti fl_RX4_25 ht0 (by decide) (by decide) rfl dX4_trait_69 ?_
            cases h
            exact ev_ireturn rfl dX4_trait_72
          · replace h := ab_neg hc5 h
            by_cases hc6 : x1 = 5
            · replace h := ab_pos hc6 h
              have hx14 : (x1 : Int32).toInt = 5 := by rw [hc6]; decide
              refine ev_tableIn (t := 73) (off := 72) dX4_trait_1 (by rw [hx14]; decide) (by rw [hx14]; decide) (by rw [hx14]; rfl) (by decide) ?_
              refine ev_aload_n dX4_trait_73 rfl ?_
              refine ev_geti fl_RX4_28 ht0 (by decide) (by decide) rfl dX4_trait_74 ?_
              cases h
              exact ev_ireturn rfl dX4_trait_77
            · replace h := ab_neg hc6 h
              by_cases hc7 : x1 = 6
              · replace h := ab_pos hc7 h
                have hx13 : (x1 : Int32).toInt = 6 := by rw [hc7]; decide
                refine ev_tableIn (t := 78) (off := 77) dX4_trait_1 (by rw [hx13]; decide) (by rw [hx13]; decide) (by rw [hx13]; rfl) (by decide) ?_
                refine ev_aload_n dX4_trait_78 rfl ?_
                refine ev_geti fl_RX4_32 ht0 (by decide) (by decide) rfl dX4_trait_79 ?_
                obtain ⟨q8, hv9, h⟩ := ab_bind h
                refine ev_callS (st := []) (co_J6_bitCount_0f7a4 M (M.1 t0 7) _ hv9) mv_J6_bitCount_0f7a4 ml_RX4_44 dX4_trait_82 (by decide) rfl (Nat.le_of_ble_eq_true rfl) ⟨Nat.le_refl _, Nat.le_refl _⟩ ?_
                cases h
                exact ev_ireturn rfl dX4_trait_85
              · replace h := ab_neg hc7 h
                by_cases hc10 : x1 = 7
                · replace h := ab_pos hc10 h
                  have hx12 : (x1 : Int32).toInt = 7 := by rw [hc10]; decide
                  refine ev_tableIn (t := 86) (off := 85) dX4_trait_1 (by rw [hx12]; decide) (by rw [hx12]; decide) (by rw [hx12]; rfl) (by decide) ?_
                  refine ev_aload_n dX4_trait_86 rfl ?_
                  refine ev_geti fl_RX4_15 ht0 (by decide) (by decide) rfl dX4_trait_87 ?_
                  refine ev_iconst (x := 1) dX4_trait_90 (by decide) ?_
                  refine ev_icmp_ne (t := 101) dX4_trait_91 (by decide) (fun hc11 => ?_) (fun hc11 => ?_)
                  · replace h := ab_neg hc11 h
                    refine ev_bipush (x := (-2)) dX4_trait_101 (by decide) ?_
                    cases h
                    exact ev_ireturn rfl dX4_trait_103
                  · replace h := ab_pos hc11 h
                    refine ev_aload_n dX4_trait_94 rfl ?_
                    refine ev_geti fl_RX4_35 ht0 (by decide) (by decide) rfl dX4_trait_95 ?_
                    refine ev_goto (t := 103) dX4_trait_98 (by decide) ?_
                    cases h
                    exact ev_ireturn rfl dX4_trait_103
                · replace h := ab_neg hc10 h
                  have ehc1 := lv_neT (a := 0) hc1 (by decide)
                  have ehc2 := lv_neT (a := 1) hc2 (by decide)
                  have ehc3 := lv_neT (a := 2) hc3 (by decide)
                  have ehc4 := lv_neT (a := 3) hc4 (by decide)
                  have ehc5 := lv_neT (a := 4) hc5 (by decide)
                  have ehc6 := lv_neT (a := 5) hc6 (by decide)
                  have ehc7 := lv_neT (a := 6) hc7 (by decide)
                  have ehc10 := lv_neT (a := 7) hc10 (by decide)
                  refine ev_tableOut (t := 104) dX4_trait_1 (by omega) (by decide) ?_
                  refine ev_iconst (x := (-1)) dX4_trait_104 (by decide) ?_
                  cases h
                  exact ev_ireturn rfl dX4_trait_105

noncomputable def mi_X4_heaviness (M : ab_M) (t0 : Nat) : Option (Int32) :=
  if (M.1 t0 1) = 1 then
    some ((((M.1 t0 0) + (5 * (M.1 t0 5))) + (M.1 t0 4)) + (M.1 t0 8))
  else
    if (M.1 t0 1) = 2 then
      some ((((M.1 t0 0) + (5 * (M.1 t0 5))) + (M.1 t0 4)) + 100)
    else
      if (M.1 t0 1) = 3 then
        some (2 * (((M.1 t0 0) + (5 * (M.1 t0 5))) + (M.1 t0 4)))
      else
        some (((M.1 t0 0) + (5 * (M.1 t0 5))) + (M.1 t0 4))

set_option maxHeartbeats 4000000 in
set_option maxRecDepth 100000 in
theorem co_X4_heaviness {l : Launch} {D : va_G} {ac : Nat → ClassId} (M : ab_M) (t0 : Nat) (ht0 : ab_isMast t0) (z : Int32) (h : mi_X4_heaviness M t0 = some z) : ab_Con l D ac 1 me_X4_heaviness 0 0 [.ref t0] ab_SH M (some (.int z), ab_SH, M) := by
  refine ab_intro (lv := [some (.ref t0), none]) (by decide) rfl (Nat.le_of_ble_eq_true rfl) rfl ?_
  unfold mi_X4_heaviness at h
  refine ev_aload_n dX4_heaviness_0 rfl ?_
  refine ev_geti fl_RX4_9 ht0 (by decide) (by decide) rfl dX4_heaviness_1 ?_
  refine ev_iconst (x := 5) dX4_heaviness_4 (by decide) ?_
  refine ev_aload_n dX4_heaviness_5 rfl ?_
  refine ev_geti fl_RX4_25 ht0 (by decide) (by decide) rfl dX4_heaviness_6 ?_
  refine ev_imul dX4_heaviness_9 ?_
  refine ev_iadd dX4_heaviness_10 ?_
  refine ev_aload_n dX4_heaviness_11 rfl ?_
  refine ev_geti fl_RX4_22 ht0 (by decide) (by decide) rfl dX4_heaviness_12 ?_
  refine ev_iadd dX4_heaviness_15 ?_
  refine ev_istore_n dX4_heaviness_16 (Nat.le_of_ble_eq_true rfl) rfl rfl ?_
  refine ev_aload_n dX4_heaviness_17 rfl ?_
  refine ev_geti fl_RX4_15 ht0 (by decide) (by decide) rfl dX4_heaviness_18 ?_
  by_cases hc1 : (M.1 t0 1) = 1
  · replace h := ab_pos hc1 h
    have hx6 : (M.1 t0 1 : Int32).toInt = 1 := by rw [hc1]; decide
    refine ev_tableIn (t := 48) (off := 27) dX4_heaviness_21 (by rw [hx6]; decide) (by rw [hx6]; decide) (by rw [hx6]; rfl) (by decide) ?_
    refine ev_iload_n dX4_heaviness_48 rfl ?_
    refine ev_aload_n dX4_heaviness_49 rfl ?_
    refine ev_geti fl_RX4_35 ht0 (by decide) (by decide) rfl dX4_heaviness_50 ?_
    refine ev_iadd dX4_heaviness_53 ?_
    cases h
    exact ev_ireturn rfl dX4_heaviness_54
  · replace h := ab_neg hc1 h
    by_cases hc2 : (M.1 t0 1) = 2
    · replace h := ab_pos hc2 h
      have hx5 : (M.1 t0 1 : Int32).toInt = 2 := by rw [hc2]; decide
      refine ev_tableIn (t := 55) (off := 34) dX4_heaviness_21 (by rw [hx5]; decide) (by rw [hx5]; decide) (by rw [hx5]; rfl) (by decide) ?_
      refine ev_iload_n dX4_heaviness_55 rfl ?_
      refine ev_bipush (x := 100) dX4_heaviness_56 (by decide) ?_
      refine ev_iadd dX4_heaviness_58 ?_
      cases h
      exact ev_ireturn rfl dX4_heaviness_59
    · replace h := ab_neg hc2 h
      by_cases hc3 : (M.1 t0 1) = 3
      · replace h := ab_pos hc3 h
        have hx4 : (M.1 t0 1 : Int32).toInt = 3 := by rw [hc3]; decide
        refine ev_tableIn (t := 60) (off := 39) dX4_heaviness_21 (by rw [hx4]; decide) (by rw [hx4]; decide) (by rw [hx4]; rfl) (by decide) ?_
        refine ev_iconst (x := 2) dX4_heaviness_60 (by decide) ?_
        refine ev_iload_n dX4_heaviness_61 rfl ?_
        refine ev_imul dX4_heaviness_62 ?_
        cases h
        exact ev_ireturn rfl dX4_heaviness_63
      · replace h := ab_neg hc3 h
        have ehc1 := lv_neT (a := 1) hc1 (by decide)
        have ehc2 := lv_neT (a := 2) hc2 (by decide)
        have ehc3 := lv_neT (a := 3) hc3 (by decide)
        refine ev_tableOut (t := 64) dX4_heaviness_21 (by omega) (by decide) ?_
        refine ev_iload_n dX4_heaviness_64 rfl ?_
        cases h
        exact ev_ireturn rfl dX4_heaviness_65
end
section
noncomputable def mi_X7_add (M : ab_M) (x1 : Int32) (x2 : Int32) (x3 : Int32) : Option (ab_M) :=
  if 8 ≤ (M.1 5 3) then
    some M
  else
    ab_chk (vp_in (M.1 5 3) 8) <|
    ab_chk (vp_in ((ab_pi M 6 (M.1 5 3).toNatClampNeg x1).1 5 3) 8) <|
    ab_chk (vp_in ((ab_pi (ab_pi M 6 (M.1 5 3).toNatClampNeg x1) 7 ((ab_pi M 6 (M.1 5 3).toNatClampNeg x1).1 5 3).toNatClampNeg x2).1 5 3) 8) <|
    some (ab_pi (ab_pi (ab_pi (ab_pi M 6 (M.1 5 3).toNatClampNeg x1) 7 ((ab_pi M 6 (M.1 5 3).toNatClampNeg x1).1 5 3).toNatClampNeg x2) 8 ((ab_pi (ab_pi M 6 (M.1 5 3).toNatClampNeg x1) 7 ((ab_pi M 6 (M.1 5 3).toNatClampNeg x1).1 5 3).toNatClampNeg x2).1 5 3).toNatClampNeg x3) 5 3 (((ab_pi (ab_pi (ab_pi M 6 (M.1 5 3).toNatClampNeg x1) 7 ((ab_pi M 6 (M.1 5 3).toNatClampNeg x1).1 5 3).toNatClampNeg x2) 8 ((ab_pi (ab_pi M 6 (M.1 5 3).toNatClampNeg x1) 7 ((ab_pi M 6 (M.1 5 3).toNatClampNeg x1).1 5 3).toNatClampNeg x2).1 5 3).toNatClampNeg x3).1 5 3) + 1))

set_option maxHeartbeats 4000000 in
set_option maxRecDepth 100000 in
theorem co_X7_add {l : Launch} {D : va_G} {ac : Nat → ClassId} (M : ab_M) (x1 : Int32) (x2 : Int32) (x3 : Int32) (z : ab_M) (h : mi_X7_add M x1 x2 x3 = some z) : ab_Con l D ac 1 me_X7_add 0 0 [.ref 5, .int x1, .int x2, .int x3] ab_SH M (none, ab_SH, z) := by
  refine ab_intro (lv := [some (.ref 5), some (.int x1), some (.int x2), some (.int x3)]) (by decide) rfl (Nat.le_of_ble_eq_true rfl) rfl ?_
  unfold mi_X7_add at h
  refine ev_aload_n dX7_add_0 rfl ?_
  refine ev_geti fl_RX7_21 sh_5 (by decide) (by decide) rfl dX7_add_1 ?_
  refine ev_bipush (x := 8) dX7_add_4 (by decide) ?_
  refine ev_icmp_ge (t := 49) dX7_add_6 (by decide) (fun hc1 => ?_) (fun hc1 => ?_)
  · replace h := ab_pos hc1 h
    cases h
    exact ev_return rfl dX7_add_49
  · replace h := ab_neg hc1 h
    refine ev_aload_n dX7_add_9 rfl ?_
    refine ev_getr (o' := 6) fl_RX7_9 sh_5 (by decide) (by decide) rfl rfl dX7_add_10 ?_
    refine ev_aload_n dX7_add_13 rfl ?_
    refine ev_geti fl_RX7_21 sh_5 (by decide) (by decide) rfl dX7_add_14 ?_
    refine ev_iload_n dX7_add_17 rfl ?_
    obtain ⟨hb2, h⟩ := ab_chk_some h
    refine ev_iastore sh_6 hb2 dX7_add_18 ?_
    refine ev_aload_n dX7_add_19 rfl ?_
    refine ev_getr (o' := 7) fl_RX7_15 sh_5 (by decide) (by decide) rfl rfl dX7_add_20 ?_
    refine ev_aload_n dX7_add_23 rfl ?_
    refine ev_geti fl_RX7_21 sh_5 (by decide) (by decide) rfl dX7_add_24 ?_
    refine ev_iload_n dX7_add_27 rfl ?_
    obtain ⟨hb3, h⟩ := ab_chk_some h
    refine ev_iastore sh_7 hb3 dX7_add_28 ?_
    refine ev_aload_n dX7_add_29 rfl ?_
    refine ev_getr (o' := 8) fl_RX7_18 sh_5 (by decide) (by decide) rfl rfl dX7_add_30 ?_
    refine ev_aload_n dX7_add_33 rfl ?_
    refine ev_geti fl_RX7_21 sh_5 (by decide) (by decide) rfl dX7_add_34 ?_
    refine ev_iload_n dX7_add_37 rfl ?_
    obtain ⟨hb4, h⟩ := ab_chk_some h
    refine ev_iastore sh_8 hb4 dX7_add_38 ?_
    refine ev_aload_n dX7_add_39 rfl ?_
    refine ev_dup dX7_add_40 rfl ?_
    refine ev_geti fl_RX7_21 sh_5 (by decide) (by decide) rfl dX7_add_41 ?_
    refine ev_iconst (x := 1) dX7_add_44 (by decide) ?_
    refine ev_iadd dX7_add_45 ?_
    refine ev_puti fl_RX7_21 sh_5 (by decide) (by decide) rfl rfl rfl dX7_add_46 ?_
    cases h
    exact ev_return rfl dX7_add_49

noncomputable def mi_X7_greatest_5 : Nat → ab_M → Int32 → Int32 → Int32 → Int32 → Option (Int32 × Int32)
  | 0, _, _, _, _, _ => none
  | n + 1, M, x1, x2, x3, x4 =>
    if (M.1 5 3) ≤ x4 then
      some (x3, x4)
    else
      ab_chk (vp_in x4 8) <|
      ((if (M.1 6 (x4).toNatClampNeg) < x1 then
        some x3
      else
        ab_chk (vp_in x4 8) <|
        if x2 < (M.1 7 (x4).toNatClampNeg) then
          some x3
        else
          ab_chk (vp_in x4 8) <|
          some (ab_max x3 (M.1 8 (x4).toNatClampNeg))) : Option (Int32)).bind fun q3 =>
      mi_X7_greatest_5 n M x1 x2 q3 (x4 + 1)

set_option maxHeartbeats 4000000 in
set_option maxRecDepth 100000 in
theorem lp_X7_greatest_5 {l : Launch} {D : va_G} {ac : Nat → ClassId} {n0 : Nat} {r : ab_Rs} : ∀ (n : Nat) (M : ab_M) (x1 : Int32) (x2 : Int32) (x3 : Int32) (x4 : Int32) (q : Int32 × Int32) (h : mi_X7_greatest_5 n M x1 x2 x3 x4 = some q) (kk : ab_Ev l D ac 2 me_X7_greatest n0 0 0 r 0 0 ab_SH 54 [some (.ref 5), some (.int x1), some (.int x2), some (.int q.1), some (.int q.2)] [] M), ab_Ev l D ac 2 me_X7_greatest n0 0 0 r 0 0 ab_SH 5 [some (.ref 5), some (.int x1), some (.int x2), some (.int x3), some (.int x4)] [] M := by
  intro n
  induction n with
  | zero =>
    intro M x1 x2 x3 x4 q h kk
    cases h
  | succ n ih =>
    intro M x1 x2 x3 x4 q h kk
    unfold mi_X7_greatest_5 at h
    refine ev_iload dX7_greatest_5 rfl ?_
    refine ev_aload_n dX7_greatest_7 rfl ?_
    refine ev_geti fl_RX7_21 sh_5 (by decide) (by decide) rfl dX7_greatest_8 ?_
    refine ev_icmp_ge (t := 54) dX7_greatest_11 (by decide) (fun hc1 => ?_) (fun hc1 => ?_)
    · replace h := ab_pos hc1 h
      cases h
      exact kk
    · replace h := ab_neg hc1 h
      refine ev_aload_n dX7_greatest_14 rfl ?_
      refine ev_getr (o' := 6) fl_RX7_9 sh_5 (by decide) (by decide) rfl rfl dX7_greatest_15 ?_
      refine ev_iload dX7_greatest_18 rfl ?_
      obtain ⟨hb2, h⟩ := ab_chk_some h
      refine ev_iaload sh_6 hb2 dX7_greatest_20 ?_
      refine ev_iload_n dX7_greatest_21 rfl ?_
      obtain ⟨q3, hq4, h⟩ := ab_bind h
      have hJ5 : ab_Ev l D ac 2 me_X7_greatest n0 0 0 r 0 0 ab_SH 48 [some (.ref 5), some (.int x1), some (.int x2), some (.int q3), some (.int x4)] [] M := by
        refine ev_iinc (y := x4 + 1) dX7_greatest_48 rfl (by first | rfl | decide) rfl rfl ?_
        refine ev_goto (t := 5) dX7_greatest_51 (by decide) ?_
        exact ih M x1 x2 q3 (x4 + 1) _ h kk
      refine ev_icmp_lt (t := 48) dX7_greatest_22 (by decide) (fun hc6 => ?_) (fun hc6 => ?_)
      · replace hq4 := ab_pos hc6 hq4
        cases hq4
        exact hJ5
      · replace hq4 := ab_neg hc6 hq4
        refine ev_aload_n dX7_greatest_25 rfl ?_
        refine ev_getr (o' := 7) fl_RX7_15 sh_5 (by decide) (by decide) rfl rfl dX7_greatest_26 ?_
        refine ev_iload dX7_greatest_29 rfl ?_
        obtain ⟨hb7, hq4⟩ := ab_chk_some hq4
        refine ev_iaload sh_7 hb7 dX7_greatest_31 ?_
        refine ev_iload_n dX7_greatest_32 rfl ?_
        refine ev_icmp_gt (t := 48) dX7_greatest_33 (by decide) (fun hc8 => ?_) (fun hc8 => ?_)
        · replace hq4 := ab_pos hc8 hq4
          cases hq4
          exact hJ5
        · replace hq4 := ab_neg hc8 hq4
          refine ev_iload_n dX7_greatest_36 rfl ?_
          refine ev_aload_n dX7_greatest_37 rfl ?_
          refine ev_getr (o' := 8) fl_RX7_18 sh_5 (by decide) (by decide) rfl rfl dX7_greatest_38 ?_
          refine ev_iload dX7_greatest_41 rfl ?_
          obtain ⟨hb9, hq4⟩ := ab_chk_some hq4
          refine ev_iaload sh_8 hb9 dX7_greatest_43 ?_
          refine ev_max ml_RX7_25 dX7_greatest_44 (by decide) (Nat.le_of_ble_eq_true rfl) ⟨Nat.le_refl _, Nat.le_refl _⟩ ?_
          refine ev_istore_n dX7_greatest_47 (Nat.le_of_ble_eq_true rfl) rfl rfl ?_
          cases hq4
          exact hJ5

noncomputable def mi_X7_greatest (M : ab_M) (x1 : Int32) (x2 : Int32) : Option (Int32) :=
  (mi_X7_greatest_5 ab_F M x1 x2 0 0).bind fun q10 =>
  some q10.1

set_option maxHeartbeats 4000000 in
set_option maxRecDepth 100000 in
theorem co_X7_greatest {l : Launch} {D : va_G} {ac : Nat → ClassId} (M : ab_M) (x1 : Int32) (x2 : Int32) (z : Int32) (h : mi_X7_greatest M x1 x2 = some z) : ab_Con l D ac 2 me_X7_greatest 0 0 [.ref 5, .int x1, .int x2] ab_SH M (some (.int z), ab_SH, M) := by
  refine ab_intro (lv := [some (.ref 5), some (.int x1), some (.int x2), none, none]) (by decide) rfl (Nat.le_of_ble_eq_true rfl) rfl ?_
  unfold mi_X7_greatest at h
  refine ev_iconst (x := 0) dX7_greatest_0 (by decide) ?_
  refine ev_istore_n dX7_greatest_1 (Nat.le_of_ble_eq_true rfl) rfl rfl ?_
  refine ev_iconst (x := 0) dX7_greatest_2 (by decide) ?_
  refine ev_istore dX7_greatest_3 (Nat.le_of_ble_eq_true rfl) rfl rfl ?_
  obtain ⟨q10, hq11, h⟩ := ab_bind h
  refine lp_X7_greatest_5 _ M x1 x2 0 0 _ hq11 ?_
  refine ev_iload_n dX7_greatest_54 rfl ?_
  cases h
  exact ev_ireturn rfl dX7_greatest_55
end
section
noncomputable def mi_X1_tell (M : ab_M) (x1 : Int32) (x2 : Int32) (x3 : Int32) (x4 : Int32) : Option (ab_M) :=
  some (ab_pi (ab_pi (ab_pi (ab_pi M 9 0 x1) 9 1 x2) 9 2 x3) 9 3 x4)

set_option maxHeartbeats 4000000 in
set_option maxRecDepth 100000 in
theorem co_X1_tell {l : Launch} {D : va_G} {ac : Nat → ClassId} (M : ab_M) (x1 : Int32) (x2 : Int32) (x3 : Int32) (x4 : Int32) (z : ab_M) (h : mi_X1_tell M x1 x2 x3 x4 = some z) : ab_Con l D ac 1 me_X1_tell 0 0 [.ref 9, .int x1, .int x2, .int x3, .int x4] ab_SH M (none, ab_SH, z) := by
  refine ab_intro (lv := [some (.ref 9), some (.int x1), some (.int x2), some (.int x3), some (.int x4)]) (by decide) rfl (Nat.le_of_ble_eq_true rfl) rfl ?_
  unfold mi_X1_tell at h
  refine ev_aload_n dX1_tell_0 rfl ?_
  refine ev_iload_n dX1_tell_1 rfl ?_
  refine ev_puti fl_RX1_9 sh_9 (by decide) (by decide) rfl rfl rfl dX1_tell_2 ?_
  refine ev_aload_n dX1_tell_5 rfl ?_
  refine ev_iload_n dX1_tell_6 rfl ?_
  refine ev_puti fl_RX1_15 sh_9 (by decide) (by decide) rfl rfl rfl dX1_tell_7 ?_
  refine ev_aload_n dX1_tell_10 rfl ?_
  refine ev_iload_n dX1_tell_11 rfl ?_
  refine ev_puti fl_RX1_18 sh_9 (by decide) (by decide) rfl rfl rfl dX1_tell_12 ?_
  refine ev_aload_n dX1_tell_15 rfl ?_
  refine ev_iload dX1_tell_16 rfl ?_
  refine ev_puti fl_RX1_21 sh_9 (by decide) (by decide) rfl rfl rfl dX1_tell_18 ?_
  cases h
  exact ev_return rfl dX1_tell_21

noncomputable def mi_X1_swap (M : ab_M) : Option (ab_M) :=
  some (ab_pi (ab_pi M 9 2 (M.1 9 3)) 9 3 (M.1 9 2))

set_option maxHeartbeats 4000000 in
set_option maxRecDepth 100000 in
theorem co_X1_swap {l : Launch} {D : va_G} {ac : Nat → ClassId} (M : ab_M) (z : ab_M) (h : mi_X1_swap M = some z) : ab_Con l D ac 1 me_X1_swap 0 0 [.ref 9] ab_SH M (none, ab_SH, z) := by
  refine ab_intro (lv := [some (.ref 9), none]) (by decide) rfl (Nat.le_of_ble_eq_true rfl) rfl ?_
  unfold mi_X1_swap at h
  refine ev_aload_n dX1_swap_0 rfl ?_
  refine ev_geti fl_RX1_18 sh_9 (by decide) (by decide) rfl dX1_swap_1 ?_
  refine ev_istore_n dX1_swap_4 (Nat.le_of_ble_eq_true rfl) rfl rfl ?_
  refine ev_aload_n dX1_swap_5 rfl ?_
  refine ev_aload_n dX1_swap_6 rfl ?_
  refine ev_geti fl_RX1_21 sh_9 (by decide) (by decide) rfl dX1_swap_7 ?_
  refine ev_puti fl_RX1_18 sh_9 (by decide) (by decide) rfl rfl rfl dX1_swap_10 ?_
  refine ev_aload_n dX1_swap_13 rfl ?_
  refine ev_iload_n dX1_swap_14 rfl ?_
  refine ev_puti fl_RX1_21 sh_9 (by decide) (by decide) rfl rfl rfl dX1_swap_15 ?_
  cases h
  exact ev_return rfl dX1_swap_18

noncomputable def mi_X1_allows (M : ab_M) (t1 : Nat) : Option (Int32) :=
  if (M.1 t1 1) = 3 then
    if (M.1 9 0) = (-1) then
      some 1073741823
    else
      if (ab_abs ((M.1 t1 2) - (M.1 9 0))) ≤ (M.1 9 1) then
        if (M.1 9 0) ≤ (M.1 t1 2) then
          some (M.1 9 3)
        else
          some (M.1 9 2)
      else
        some 1073741823
  else
    some 1073741823

set_option maxHeartbeats 4000000 in
set_option maxRecDepth 100000 in
theorem co_X1_allows {l : Launch} {D : va_G} {ac : Nat → ClassId} (M : ab_M) (t1 : Nat) (ht1 : ab_isMast t1) (z : Int32) (h : mi_X1_allows M t1 = some z) : ab_Con l D ac 2 me_X1_allows 0 0 [.ref 9, .ref t1] ab_SH M (some (.int z), ab_SH, M) := by
  refine ab_intro (lv := [some (.ref 9), some (.ref t1)]) (by decide) rfl (Nat.le_of_ble_eq_true rfl) rfl ?_
  unfold mi_X1_allows at h
  refine ev_aload_n dX1_allows_0 rfl ?_
  refine ev_geti fl_RX1_24 ht1 (by decide) (by decide) rfl dX1_allows_1 ?_
  refine ev_iconst (x := 3) dX1_allows_4 (by decide) ?_
  refine ev_icmp_ne (t := 35) dX1_allows_5 (by decide) (fun hc1 => ?_) (fun hc1 => ?_)
  · replace h := ab_neg hc1 h
    refine ev_ldc kw_RX1_38 dX1_allows_35 ?_
    cases h
    exact ev_ireturn rfl dX1_allows_37
  · replace h := ab_pos hc1 h
    refine ev_aload_n dX1_allows_8 rfl ?_
    refine ev_geti fl_RX1_9 sh_9 (by decide) (by decide) rfl dX1_allows_9 ?_
    refine ev_iconst (x := (-1)) dX1_allows_12 (by decide) ?_
    refine ev_icmp_eq (t := 35) dX1_allows_13 (by decide) (fun hc2 => ?_) (fun hc2 => ?_)
    · replace h := ab_pos hc2 h
      refine ev_ldc kw_RX1_38 dX1_allows_35 ?_
      cases h
      exact ev_ireturn rfl dX1_allows_37
    · replace h := ab_neg hc2 h
      refine ev_aload_n dX1_allows_16 rfl ?_
      refine ev_geti fl_RX1_29 ht1 (by decide) (by decide) rfl dX1_allows_17 ?_
      refine ev_aload_n dX1_allows_20 rfl ?_
      refine ev_geti fl_RX1_9 sh_9 (by decide) (by decide) rfl dX1_allows_21 ?_
      refine ev_isub dX1_allows_24 ?_
      refine ev_abs ml_RX1_32 dX1_allows_25 (by decide) (Nat.le_of_ble_eq_true rfl) ⟨Nat.le_refl _, Nat.le_refl _⟩ ?_
      refine ev_aload_n dX1_allows_28 rfl ?_
      refine ev_geti fl_RX1_15 sh_9 (by decide) (by decide) rfl dX1_allows_29 ?_
      refine ev_icmp_le (t := 38) dX1_allows_32 (by decide) (fun hc3 => ?_) (fun hc3 => ?_)
      · replace h := ab_pos hc3 h
        refine ev_aload_n dX1_allows_38 rfl ?_
        refine ev_geti fl_RX1_29 ht1 (by decide) (by decide) rfl dX1_allows_39 ?_
        refine ev_aload_n dX1_allows_42 rfl ?_
        refine ev_geti fl_RX1_9 sh_9 (by decide) (by decide) rfl dX1_allows_43 ?_
        refine ev_icmp_ge (t := 56) dX1_allows_46 (by decide) (fun hc4 => ?_) (fun hc4 => ?_)
        · replace h := ab_pos hc4 h
          refine ev_aload_n dX1_allows_56 rfl ?_
          refine ev_geti fl_RX1_21 sh_9 (by decide) (by decide) rfl dX1_allows_57 ?_
          cases h
          exact ev_ireturn rfl dX1_allows_60
        · replace h := ab_neg hc4 h
          refine ev_aload_n dX1_allows_49 rfl ?_
          refine ev_geti fl_RX1_18 sh_9 (by decide) (by decide) rfl dX1_allows_50 ?_
          refine ev_goto (t := 60) dX1_allows_53 (by decide) ?_
          cases h
          exact ev_ireturn rfl dX1_allows_60
      · replace h := ab_neg hc3 h
        refine ev_ldc kw_RX1_38 dX1_allows_35 ?_
        cases h
        exact ev_ireturn rfl dX1_allows_37
end
