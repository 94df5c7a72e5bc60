/-! PRINTED (lawnames.py): names, decode rows and links of the methods that throw or catch -/
abbrev me_X4_fail : ab_Me := (yX4_fail, RX4, cX4_fail, 1, none)
abbrev me_X9_element : ab_Me := (yX9_element, RX9, cX9_element, 3, some .long)
abbrev me_X9_toss : ab_Me := (yX9_toss, RX9, cX9_toss, 5, some .int)
abbrev me_L_element : ab_Me := (yL_element, RL, cL_element, 5, some .int)
abbrev me_L_law : ab_Me := (yL_law, RL, cL_law, 8, some .boolean)
theorem dX4_fail_0 : decode cX4_fail 0 = .ok (.aload_n 0, 1) := by decide +kernel
theorem dX4_fail_1 : decode cX4_fail 1 = .ok (.getfield 15, 3) := by decide +kernel
theorem dX4_fail_4 : decode cX4_fail 4 = .ok (.tableswitch 58 1 3 #[28, 38, 48], 28) := by decide +kernel
theorem dX4_fail_32 : decode cX4_fail 32 = .ok (.new 50, 3) := by decide +kernel
theorem dX4_fail_35 : decode cX4_fail 35 = .ok (.dup, 1) := by decide +kernel
theorem dX4_fail_36 : decode cX4_fail 36 = .ok (.ldc 52, 2) := by decide +kernel
theorem dX4_fail_38 : decode cX4_fail 38 = .ok (.invokespecial 54, 3) := by decide +kernel
theorem dX4_fail_41 : decode cX4_fail 41 = .ok (.athrow, 1) := by decide +kernel
theorem dX4_fail_42 : decode cX4_fail 42 = .ok (.new 57, 3) := by decide +kernel
theorem dX4_fail_45 : decode cX4_fail 45 = .ok (.dup, 1) := by decide +kernel
theorem dX4_fail_46 : decode cX4_fail 46 = .ok (.ldc 59, 2) := by decide +kernel
theorem dX4_fail_48 : decode cX4_fail 48 = .ok (.invokespecial 61, 3) := by decide +kernel
theorem dX4_fail_51 : decode cX4_fail 51 = .ok (.athrow, 1) := by decide +kernel
theorem dX4_fail_52 : decode cX4_fail 52 = .ok (.new 62, 3) := by decide +kernel
theorem dX4_fail_55 : decode cX4_fail 55 = .ok (.dup, 1) := by decide +kernel
theorem dX4_fail_56 : decode cX4_fail 56 = .ok (.ldc 64, 2) := by decide +kernel
theorem dX4_fail_58 : decode cX4_fail 58 = .ok (.invokespecial 66, 3) := by decide +kernel
theorem dX4_fail_61 : decode cX4_fail 61 = .ok (.athrow, 1) := by decide +kernel
theorem dX4_fail_62 : decode cX4_fail 62 = .ok (.return_, 1) := by decide +kernel
theorem dX9_element_0 : decode cX9_element 0 = .ok (.iload_n 1, 1) := by decide +kernel
theorem dX9_element_1 : decode cX9_element 1 = .ok (.invokestatic 264, 3) := by decide +kernel
theorem dX9_element_4 : decode cX9_element 4 = .ok (.ifCond .ne 14, 3) := by decide +kernel
theorem dX9_element_7 : decode cX9_element 7 = .ok (.new 285, 3) := by decide +kernel
theorem dX9_element_10 : decode cX9_element 10 = .ok (.dup, 1) := by decide +kernel
theorem dX9_element_11 : decode cX9_element 11 = .ok (.ldc_w 287, 3) := by decide +kernel
theorem dX9_element_14 : decode cX9_element 14 = .ok (.invokespecial 289, 3) := by decide +kernel
theorem dX9_element_17 : decode cX9_element 17 = .ok (.athrow, 1) := by decide +kernel
theorem dX9_element_18 : decode cX9_element 18 = .ok (.aload_n 0, 1) := by decide +kernel
theorem dX9_element_19 : decode cX9_element 19 = .ok (.getfield 50, 3) := by decide +kernel
theorem dX9_element_22 : decode cX9_element 22 = .ok (.iload_n 1, 1) := by decide +kernel
theorem dX9_element_23 : decode cX9_element 23 = .ok (.aaload, 1) := by decide +kernel
theorem dX9_element_24 : decode cX9_element 24 = .ok (.invokevirtual 292, 3) := by decide +kernel
theorem dX9_element_27 : decode cX9_element 27 = .ok (.ifCond .eq 20, 3) := by decide +kernel
theorem dX9_element_30 : decode cX9_element 30 = .ok (.iload_n 2, 1) := by decide +kernel
theorem dX9_element_31 : decode cX9_element 31 = .ok (.ifCond .lt 16, 3) := by decide +kernel
theorem dX9_element_34 : decode cX9_element 34 = .ok (.iload_n 2, 1) := by decide +kernel
theorem dX9_element_35 : decode cX9_element 35 = .ok (.aload_n 0, 1) := by decide +kernel
theorem dX9_element_36 : decode cX9_element 36 = .ok (.getfield 50, 3) := by decide +kernel
theorem dX9_element_39 : decode cX9_element 39 = .ok (.iload_n 1, 1) := by decide +kernel
theorem dX9_element_40 : decode cX9_element 40 = .ok (.aaload, 1) := by decide +kernel
theorem dX9_element_41 : decode cX9_element 41 = .ok (.getfield 296, 3) := by decide +kernel
theorem dX9_element_44 : decode cX9_element 44 = .ok (.if_icmp .lt 14, 3) := by decide +kernel
theorem dX9_element_47 : decode cX9_element 47 = .ok (.new 299, 3) := by decide +kernel
theorem dX9_element_50 : decode cX9_element 50 = .ok (.dup, 1) := by decide +kernel
theorem dX9_element_51 : decode cX9_element 51 = .ok (.ldc_w 301, 3) := by decide +kernel
theorem dX9_element_54 : decode cX9_element 54 = .ok (.invokespecial 303, 3) := by decide +kernel
theorem dX9_element_57 : decode cX9_element 57 = .ok (.athrow, 1) := by decide +kernel
theorem dX9_element_58 : decode cX9_element 58 = .ok (.aload_n 0, 1) := by decide +kernel
theorem dX9_element_59 : decode cX9_element 59 = .ok (.getfield 50, 3) := by decide +kernel
theorem dX9_element_62 : decode cX9_element 62 = .ok (.iload_n 1, 1) := by decide +kernel
theorem dX9_element_63 : decode cX9_element 63 = .ok (.aaload, 1) := by decide +kernel
theorem dX9_element_64 : decode cX9_element 64 = .ok (.iload_n 2, 1) := by decide +kernel
theorem dX9_element_65 : decode cX9_element 65 = .ok (.invokevirtual 304, 3) := by decide +kernel
theorem dX9_element_68 : decode cX9_element 68 = .ok (.lreturn, 1) := by decide +kernel
theorem dX9_toss_0 : decode cX9_toss 0 = .ok (.aload_n 0, 1) := by decide +kernel
theorem dX9_toss_1 : decode cX9_toss 1 = .ok (.iload_n 1, 1) := by decide +kernel
theorem dX9_toss_2 : decode cX9_toss 2 = .ok (.invokevirtual 319, 3) := by decide +kernel
theorem dX9_toss_5 : decode cX9_toss 5 = .ok (.istore_n 2, 1) := by decide +kernel
theorem dX9_toss_6 : decode cX9_toss 6 = .ok (.iload_n 2, 1) := by decide +kernel
theorem dX9_toss_7 : decode cX9_toss 7 = .ok (.ifCond .ge 5, 3) := by decide +kernel
theorem dX9_toss_10 : decode cX9_toss 10 = .ok (.iload_n 2, 1) := by decide +kernel
theorem dX9_toss_11 : decode cX9_toss 11 = .ok (.ireturn, 1) := by decide +kernel
theorem dX9_toss_12 : decode cX9_toss 12 = .ok (.aload_n 0, 1) := by decide +kernel
theorem dX9_toss_13 : decode cX9_toss 13 = .ok (.getfield 50, 3) := by decide +kernel
theorem dX9_toss_16 : decode cX9_toss 16 = .ok (.iload_n 1, 1) := by decide +kernel
theorem dX9_toss_17 : decode cX9_toss 17 = .ok (.aaload, 1) := by decide +kernel
theorem dX9_toss_18 : decode cX9_toss 18 = .ok (.getfield 322, 3) := by decide +kernel
theorem dX9_toss_21 : decode cX9_toss 21 = .ok (.astore_n 3, 1) := by decide +kernel
theorem dX9_toss_22 : decode cX9_toss 22 = .ok (.aload_n 3, 1) := by decide +kernel
theorem dX9_toss_23 : decode cX9_toss 23 = .ok (.invokevirtual 329, 3) := by decide +kernel
theorem dX9_toss_26 : decode cX9_toss 26 = .ok (.goto 24, 3) := by decide +kernel
theorem dX9_toss_29 : decode cX9_toss 29 = .ok (.astore 4, 2) := by decide +kernel
theorem dX9_toss_31 : decode cX9_toss 31 = .ok (.aload_n 3, 1) := by decide +kernel
theorem dX9_toss_32 : decode cX9_toss 32 = .ok (.getfield 332, 3) := by decide +kernel
theorem dX9_toss_35 : decode cX9_toss 35 = .ok (.ireturn, 1) := by decide +kernel
theorem dX9_toss_36 : decode cX9_toss 36 = .ok (.astore 4, 2) := by decide +kernel
theorem dX9_toss_38 : decode cX9_toss 38 = .ok (.aload_n 3, 1) := by decide +kernel
theorem dX9_toss_39 : decode cX9_toss 39 = .ok (.getfield 332, 3) := by decide +kernel
theorem dX9_toss_42 : decode cX9_toss 42 = .ok (.ireturn, 1) := by decide +kernel
theorem dX9_toss_43 : decode cX9_toss 43 = .ok (.astore 4, 2) := by decide +kernel
theorem dX9_toss_45 : decode cX9_toss 45 = .ok (.aload_n 3, 1) := by decide +kernel
theorem dX9_toss_46 : decode cX9_toss 46 = .ok (.getfield 332, 3) := by decide +kernel
theorem dX9_toss_49 : decode cX9_toss 49 = .ok (.ireturn, 1) := by decide +kernel
theorem dX9_toss_50 : decode cX9_toss 50 = .ok (.bipush (-15), 2) := by decide +kernel
theorem dX9_toss_52 : decode cX9_toss 52 = .ok (.ireturn, 1) := by decide +kernel
theorem dL_element_0 : decode cL_element 0 = .ok (.aload_n 3, 1) := by decide +kernel
theorem dL_element_1 : decode cL_element 1 = .ok (.iconst 0, 1) := by decide +kernel
theorem dL_element_2 : decode cL_element 2 = .ok (.aload_n 0, 1) := by decide +kernel
theorem dL_element_3 : decode cL_element 3 = .ok (.iload_n 1, 1) := by decide +kernel
theorem dL_element_4 : decode cL_element 4 = .ok (.iload_n 2, 1) := by decide +kernel
theorem dL_element_5 : decode cL_element 5 = .ok (.invokevirtual 7, 3) := by decide +kernel
theorem dL_element_8 : decode cL_element 8 = .ok (.lastore, 1) := by decide +kernel
theorem dL_element_9 : decode cL_element 9 = .ok (.goto 11, 3) := by decide +kernel
theorem dL_element_12 : decode cL_element 12 = .ok (.astore 4, 2) := by decide +kernel
theorem dL_element_14 : decode cL_element 14 = .ok (.iconst 1, 1) := by decide +kernel
theorem dL_element_15 : decode cL_element 15 = .ok (.ireturn, 1) := by decide +kernel
theorem dL_element_16 : decode cL_element 16 = .ok (.astore 4, 2) := by decide +kernel
theorem dL_element_18 : decode cL_element 18 = .ok (.iconst 2, 1) := by decide +kernel
theorem dL_element_19 : decode cL_element 19 = .ok (.ireturn, 1) := by decide +kernel
theorem dL_element_20 : decode cL_element 20 = .ok (.iconst 0, 1) := by decide +kernel
theorem dL_element_21 : decode cL_element 21 = .ok (.ireturn, 1) := by decide +kernel
theorem fl_RX9_296 : ab_FL RX9 296 6 4 (tyX6 4) false := ⟨RX6, TX6, 5, tyX6, rfl, by decide, gi_X6, tyX6_ok, nmX6, rfl, rfl, Or.inr ⟨"WavePlan", ab_n_in (i := 329) (by decide +kernel) rfl⟩⟩
theorem fl_RX9_332 : ab_FL RX9 332 4 0 (tyX4 0) false := ⟨RX4, TX4, 9, tyX4, rfl, by decide, gi_X4, tyX4_ok, nmX4, rfl, rfl, Or.inr ⟨"WavePlan", ab_n_in (i := 144) (by decide +kernel) rfl⟩⟩
theorem ml_RX9_329 : Cond.methodLink RX9 329 yX4_fail ∈ ab_G := (ab_G_in (i := 909) (by decide +kernel) (by decide +kernel))
theorem ml_RX9_304 : Cond.methodLink RX9 304 yX6_at ∈ ab_G := (ab_G_in (i := 1025) (by decide +kernel) (by decide +kernel))
theorem ml_RL_7 : Cond.methodLink RL 7 yX9_element ∈ ab_G := (ab_G_in (i := 1017) (by decide +kernel) (by decide +kernel))
theorem mv_X4_fail : ab_MV me_X4_fail 4 0 := ⟨(ab_G_in (i := 912) (by decide +kernel) (by decide +kernel)), (ab_G_in (i := 910) (by decide +kernel) (by decide +kernel)), (ab_G_in (i := 911) (by decide +kernel) (by decide +kernel)), (ab_G_in (i := 65) (by decide +kernel) (by decide +kernel)), ⟨by decide, by decide, by decide +kernel⟩, by decide, by decide, _, _, rfl⟩
theorem mv_X9_element : ab_MV me_X9_element 9 2 := ⟨(ab_G_in (i := 1020) (by decide +kernel) (by decide +kernel)), (ab_G_in (i := 1018) (by decide +kernel) (by decide +kernel)), (ab_G_in (i := 1019) (by decide +kernel) (by decide +kernel)), (ab_G_in (i := 61) (by decide +kernel) (by decide +kernel)), ⟨by decide, by decide, by decide +kernel⟩, by decide, by decide, _, _, rfl⟩
abbrev hh_X9_toss : List (Nat × Nat × Nat × Nat) := [(22, 26, 29, 299), (22, 26, 36, 285), (22, 26, 43, 335)]
theorem cw_X9_toss : Cond.codeWith me_X9_toss.1 me_X9_toss.2.2.1 me_X9_toss.2.2.2.1 me_X9_toss.2.2.2.2 hh_X9_toss ∈ ab_G := (ab_G_in (i := 905) (by decide +kernel) (by decide +kernel))
theorem ci_X9_toss : Cond.initialized me_X9_toss.1.cls ∈ ab_G := (ab_G_in (i := 61) (by decide +kernel) (by decide +kernel))
abbrev hh_L_element : List (Nat × Nat × Nat × Nat) := [(0, 9, 12, 13), (0, 9, 16, 15)]
theorem cw_L_element : Cond.codeWith me_L_element.1 me_L_element.2.2.1 me_L_element.2.2.2.1 me_L_element.2.2.2.2 hh_L_element ∈ ab_G := (ab_G_in (i := 1014) (by decide +kernel) (by decide +kernel))
theorem ci_L_element : Cond.initialized me_L_element.1.cls ∈ ab_G := (ab_G_in (i := 60) (by decide +kernel) (by decide +kernel))
theorem cm_X9_toss : Cond.instanceMethod me_X9_toss.1 ∈ ab_G := (ab_G_in (i := 903) (by decide +kernel) (by decide +kernel))
theorem cl_X9_toss : Cond.selects me_X9_toss.1.cls me_X9_toss.1 me_X9_toss.1 ∈ ab_G := (ab_G_in (i := 904) (by decide +kernel) (by decide +kernel))
theorem cs_L_element : Cond.static me_L_element.1 ∈ ab_G := (ab_G_in (i := 1013) (by decide +kernel) (by decide +kernel))
theorem kl_RX9_299 : Cond.classLink RX9 299 E_S ∈ ab_G := (ab_G_in (i := 906) (by decide +kernel) (by decide +kernel))
theorem kl_RX9_285 : Cond.classLink RX9 285 E_A ∈ ab_G := (ab_G_in (i := 907) (by decide +kernel) (by decide +kernel))
theorem kl_RX9_335 : Cond.classLink RX9 335 E_U ∈ ab_G := (ab_G_in (i := 908) (by decide +kernel) (by decide +kernel))
theorem kl_RL_13 : Cond.classLink RL 13 E_A ∈ ab_G := (ab_G_in (i := 1015) (by decide +kernel) (by decide +kernel))
theorem kl_RL_15 : Cond.classLink RL 15 E_S ∈ ab_G := (ab_G_in (i := 1016) (by decide +kernel) (by decide +kernel))
theorem kl_RX4_50 : Cond.classLink RX4 50 E_S ∈ ab_G := (ab_G_in (i := 913) (by decide +kernel) (by decide +kernel))
theorem kl_RX4_57 : Cond.classLink RX4 57 E_A ∈ ab_G := (ab_G_in (i := 980) (by decide +kernel) (by decide +kernel))
theorem kl_RX4_62 : Cond.classLink RX4 62 E_U ∈ ab_G := (ab_G_in (i := 996) (by decide +kernel) (by decide +kernel))
theorem ki_S : Cond.initialized E_S ∈ ab_G := (ab_G_in (i := 80) (by decide +kernel) (by decide +kernel))
theorem ki_A : Cond.initialized E_A ∈ ab_G := (ab_G_in (i := 79) (by decide +kernel) (by decide +kernel))
theorem ki_U : Cond.initialized E_U ∈ ab_G := (ab_G_in (i := 81) (by decide +kernel) (by decide +kernel))
