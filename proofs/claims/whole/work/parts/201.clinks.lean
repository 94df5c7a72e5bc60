abbrev me_X0_init : ab_Me := (yX0_init, RX0, cX0_init, 2, none)
abbrev me_X10_init : ab_Me := (yX10_init, RX10, cX10_init, 1, none)
abbrev me_X1_init : ab_Me := (yX1_init, RX1, cX1_init, 1, none)
abbrev me_X2_init : ab_Me := (yX2_init, RX2, cX2_init, 2, none)
abbrev me_X3_init : ab_Me := (yX3_init, RX3, cX3_init, 2, none)
abbrev me_X4_init : ab_Me := (yX4_init, RX4, cX4_init, 1, none)
abbrev me_X5_init : ab_Me := (yX5_init, RX5, cX5_init, 3, none)
abbrev me_X6_init : ab_Me := (yX6_init, RX6, cX6_init, 1, none)
abbrev me_X7_init : ab_Me := (yX7_init, RX7, cX7_init, 1, none)
abbrev me_X8_init : ab_Me := (yX8_init, RX8, cX8_init, 3, none)
abbrev me_X9_init : ab_Me := (yX9_init, RX9, cX9_init, 2, none)
abbrev me_J7_fill_53178 : ab_Me := (yJ7_fill_53178, RJ7, cJ7_fill_53178, 4, none)
theorem fp_RX9_12 : ab_FP RX9 12 9 0 (tyX9 0) := ⟨RX9, TX9, 9, tyX9, rfl, by decide, gi_X9, tyX9_ok, nmX9, rfl, rfl, (ab_G_in (i := 344) (by decide +kernel) (by decide +kernel)), rfl⟩
theorem fp_RX9_21 : ab_FP RX9 21 9 1 (tyX9 1) := ⟨RX9, TX9, 9, tyX9, rfl, by decide, gi_X9, tyX9_ok, nmX9, rfl, rfl, (ab_G_in (i := 345) (by decide +kernel) (by decide +kernel)), rfl⟩
theorem fp_RX9_30 : ab_FP RX9 30 9 2 (tyX9 2) := ⟨RX9, TX9, 9, tyX9, rfl, by decide, gi_X9, tyX9_ok, nmX9, rfl, rfl, (ab_G_in (i := 346) (by decide +kernel) (by decide +kernel)), rfl⟩
theorem fp_RX9_37 : ab_FP RX9 37 9 3 (tyX9 3) := ⟨RX9, TX9, 9, tyX9, rfl, by decide, gi_X9, tyX9_ok, nmX9, rfl, rfl, (ab_G_in (i := 347) (by decide +kernel) (by decide +kernel)), rfl⟩
theorem fp_RX9_44 : ab_FP RX9 44 9 4 (tyX9 4) := ⟨RX9, TX9, 9, tyX9, rfl, by decide, gi_X9, tyX9_ok, nmX9, rfl, rfl, (ab_G_in (i := 348) (by decide +kernel) (by decide +kernel)), rfl⟩
theorem fp_RX9_50 : ab_FP RX9 50 9 5 (tyX9 5) := ⟨RX9, TX9, 9, tyX9, rfl, by decide, gi_X9, tyX9_ok, nmX9, rfl, rfl, (ab_G_in (i := 349) (by decide +kernel) (by decide +kernel)), rfl⟩
theorem fp_RX9_55 : ab_FP RX9 55 9 6 (tyX9 6) := ⟨RX9, TX9, 9, tyX9, rfl, by decide, gi_X9, tyX9_ok, nmX9, rfl, rfl, (ab_G_in (i := 350) (by decide +kernel) (by decide +kernel)), rfl⟩
theorem fp_RX9_59 : ab_FP RX9 59 9 7 (tyX9 7) := ⟨RX9, TX9, 9, tyX9, rfl, by decide, gi_X9, tyX9_ok, nmX9, rfl, rfl, (ab_G_in (i := 351) (by decide +kernel) (by decide +kernel)), rfl⟩
theorem fp_RX0_9 : ab_FP RX0 9 0 1 (tyX0 1) := ⟨RX0, TX0, 5, tyX0, rfl, by decide, gi_X0, tyX0_ok, nmX0, rfl, rfl, (ab_G_in (i := 298) (by decide +kernel) (by decide +kernel)), rfl⟩
theorem fp_RX0_15 : ab_FP RX0 15 0 2 (tyX0 2) := ⟨RX0, TX0, 5, tyX0, rfl, by decide, gi_X0, tyX0_ok, nmX0, rfl, rfl, (ab_G_in (i := 299) (by decide +kernel) (by decide +kernel)), rfl⟩
theorem fp_RX0_18 : ab_FP RX0 18 0 0 (tyX0 0) := ⟨RX0, TX0, 5, tyX0, rfl, by decide, gi_X0, tyX0_ok, nmX0, rfl, rfl, (ab_G_in (i := 297) (by decide +kernel) (by decide +kernel)), rfl⟩
theorem fp_RX2_9 : ab_FP RX2 9 2 1 (tyX2 1) := ⟨RX2, TX2, 2, tyX2, rfl, by decide, gi_X2, tyX2_ok, nmX2, rfl, rfl, (ab_G_in (i := 246) (by decide +kernel) (by decide +kernel)), rfl⟩
theorem fp_RX2_15 : ab_FP RX2 15 2 0 (tyX2 0) := ⟨RX2, TX2, 2, tyX2, rfl, by decide, gi_X2, tyX2_ok, nmX2, rfl, rfl, (ab_G_in (i := 245) (by decide +kernel) (by decide +kernel)), rfl⟩
theorem fp_RX3_11 : ab_FP RX3 11 3 0 (tyX3 0) := ⟨RX3, TX3, 11, tyX3, rfl, by decide, gi_X3, tyX3_ok, nmX3, rfl, rfl, (ab_G_in (i := 187) (by decide +kernel) (by decide +kernel)), rfl⟩
theorem fp_RX3_17 : ab_FP RX3 17 3 1 (tyX3 1) := ⟨RX3, TX3, 11, tyX3, rfl, by decide, gi_X3, tyX3_ok, nmX3, rfl, rfl, (ab_G_in (i := 190) (by decide +kernel) (by decide +kernel)), rfl⟩
theorem fp_RX3_21 : ab_FP RX3 21 3 2 (tyX3 2) := ⟨RX3, TX3, 11, tyX3, rfl, by decide, gi_X3, tyX3_ok, nmX3, rfl, rfl, (ab_G_in (i := 194) (by decide +kernel) (by decide +kernel)), rfl⟩
theorem fp_RX3_27 : ab_FP RX3 27 3 3 (tyX3 3) := ⟨RX3, TX3, 11, tyX3, rfl, by decide, gi_X3, tyX3_ok, nmX3, rfl, rfl, (ab_G_in (i := 197) (by decide +kernel) (by decide +kernel)), rfl⟩
theorem fp_RX3_34 : ab_FP RX3 34 3 4 (tyX3 4) := ⟨RX3, TX3, 11, tyX3, rfl, by decide, gi_X3, tyX3_ok, nmX3, rfl, rfl, (ab_G_in (i := 199) (by decide +kernel) (by decide +kernel)), rfl⟩
theorem fp_RX3_38 : ab_FP RX3 38 3 5 (tyX3 5) := ⟨RX3, TX3, 11, tyX3, rfl, by decide, gi_X3, tyX3_ok, nmX3, rfl, rfl, (ab_G_in (i := 201) (by decide +kernel) (by decide +kernel)), rfl⟩
theorem fp_RX3_41 : ab_FP RX3 41 3 6 (tyX3 6) := ⟨RX3, TX3, 11, tyX3, rfl, by decide, gi_X3, tyX3_ok, nmX3, rfl, rfl, (ab_G_in (i := 202) (by decide +kernel) (by decide +kernel)), rfl⟩
theorem fp_RX5_9 : ab_FP RX5 9 5 0 (tyX5 0) := ⟨RX5, TX5, 2, tyX5, rfl, by decide, gi_X5, tyX5_ok, nmX5, rfl, rfl, (ab_G_in (i := 284) (by decide +kernel) (by decide +kernel)), rfl⟩
theorem fp_RX5_15 : ab_FP RX5 15 5 1 (tyX5 1) := ⟨RX5, TX5, 2, tyX5, rfl, by decide, gi_X5, tyX5_ok, nmX5, rfl, rfl, (ab_G_in (i := 285) (by decide +kernel) (by decide +kernel)), rfl⟩
theorem fp_RX6_12 : ab_FP RX6 12 6 0 (tyX6 0) := ⟨RX6, TX6, 5, tyX6, rfl, by decide, gi_X6, tyX6_ok, nmX6, rfl, rfl, (ab_G_in (i := 322) (by decide +kernel) (by decide +kernel)), rfl⟩
theorem fp_RX6_18 : ab_FP RX6 18 6 1 (tyX6 1) := ⟨RX6, TX6, 5, tyX6, rfl, by decide, gi_X6, tyX6_ok, nmX6, rfl, rfl, (ab_G_in (i := 324) (by decide +kernel) (by decide +kernel)), rfl⟩
theorem fp_RX6_22 : ab_FP RX6 22 6 2 (tyX6 2) := ⟨RX6, TX6, 5, tyX6, rfl, by decide, gi_X6, tyX6_ok, nmX6, rfl, rfl, (ab_G_in (i := 325) (by decide +kernel) (by decide +kernel)), rfl⟩
theorem fp_RX7_9 : ab_FP RX7 9 7 0 (tyX7 0) := ⟨RX7, TX7, 4, tyX7, rfl, by decide, gi_X7, tyX7_ok, nmX7, rfl, rfl, (ab_G_in (i := 104) (by decide +kernel) (by decide +kernel)), rfl⟩
theorem fp_RX7_15 : ab_FP RX7 15 7 1 (tyX7 1) := ⟨RX7, TX7, 4, tyX7, rfl, by decide, gi_X7, tyX7_ok, nmX7, rfl, rfl, (ab_G_in (i := 105) (by decide +kernel) (by decide +kernel)), rfl⟩
theorem fp_RX7_18 : ab_FP RX7 18 7 2 (tyX7 2) := ⟨RX7, TX7, 4, tyX7, rfl, by decide, gi_X7, tyX7_ok, nmX7, rfl, rfl, (ab_G_in (i := 106) (by decide +kernel) (by decide +kernel)), rfl⟩
theorem fp_RX8_9 : ab_FP RX8 9 8 2 (tyX8 2) := ⟨RX8, TX8, 6, tyX8, rfl, by decide, gi_X8, tyX8_ok, nmX8, rfl, rfl, (ab_G_in (i := 260) (by decide +kernel) (by decide +kernel)), rfl⟩
theorem fp_RX8_15 : ab_FP RX8 15 8 3 (tyX8 3) := ⟨RX8, TX8, 6, tyX8, rfl, by decide, gi_X8, tyX8_ok, nmX8, rfl, rfl, (ab_G_in (i := 261) (by decide +kernel) (by decide +kernel)), rfl⟩
theorem fp_RX8_18 : ab_FP RX8 18 8 4 (tyX8 4) := ⟨RX8, TX8, 6, tyX8, rfl, by decide, gi_X8, tyX8_ok, nmX8, rfl, rfl, (ab_G_in (i := 262) (by decide +kernel) (by decide +kernel)), rfl⟩
theorem fp_RX8_21 : ab_FP RX8 21 8 0 (tyX8 0) := ⟨RX8, TX8, 6, tyX8, rfl, by decide, gi_X8, tyX8_ok, nmX8, rfl, rfl, (ab_G_in (i := 258) (by decide +kernel) (by decide +kernel)), rfl⟩
theorem fp_RX8_25 : ab_FP RX8 25 8 1 (tyX8 1) := ⟨RX8, TX8, 6, tyX8, rfl, by decide, gi_X8, tyX8_ok, nmX8, rfl, rfl, (ab_G_in (i := 259) (by decide +kernel) (by decide +kernel)), rfl⟩
theorem fp_RX10_7 : ab_FP RX10 7 10 2 (tyX10 2) := ⟨RX10, TX10, 39, tyX10, rfl, by decide, gi_X10, tyX10_ok, nmX10, rfl, rfl, (ab_G_in (i := 1037) (by decide +kernel) (by decide +kernel)), rfl⟩
theorem fp_RX10_13 : ab_FP RX10 13 10 3 (tyX10 3) := ⟨RX10, TX10, 39, tyX10, rfl, by decide, gi_X10, tyX10_ok, nmX10, rfl, rfl, (ab_G_in (i := 1038) (by decide +kernel) (by decide +kernel)), rfl⟩
theorem fp_RX10_16 : ab_FP RX10 16 10 4 (tyX10 4) := ⟨RX10, TX10, 39, tyX10, rfl, by decide, gi_X10, tyX10_ok, nmX10, rfl, rfl, (ab_G_in (i := 1039) (by decide +kernel) (by decide +kernel)), rfl⟩
theorem fp_RX10_19 : ab_FP RX10 19 10 5 (tyX10 5) := ⟨RX10, TX10, 39, tyX10, rfl, by decide, gi_X10, tyX10_ok, nmX10, rfl, rfl, (ab_G_in (i := 1040) (by decide +kernel) (by decide +kernel)), rfl⟩
theorem fp_RX10_22 : ab_FP RX10 22 10 6 (tyX10 6) := ⟨RX10, TX10, 39, tyX10, rfl, by decide, gi_X10, tyX10_ok, nmX10, rfl, rfl, (ab_G_in (i := 1041) (by decide +kernel) (by decide +kernel)), rfl⟩
theorem fp_RX10_25 : ab_FP RX10 25 10 7 (tyX10 7) := ⟨RX10, TX10, 39, tyX10, rfl, by decide, gi_X10, tyX10_ok, nmX10, rfl, rfl, (ab_G_in (i := 1042) (by decide +kernel) (by decide +kernel)), rfl⟩
theorem fp_RX10_28 : ab_FP RX10 28 10 8 (tyX10 8) := ⟨RX10, TX10, 39, tyX10, rfl, by decide, gi_X10, tyX10_ok, nmX10, rfl, rfl, (ab_G_in (i := 1043) (by decide +kernel) (by decide +kernel)), rfl⟩
theorem fp_RX10_31 : ab_FP RX10 31 10 9 (tyX10 9) := ⟨RX10, TX10, 39, tyX10, rfl, by decide, gi_X10, tyX10_ok, nmX10, rfl, rfl, (ab_G_in (i := 1044) (by decide +kernel) (by decide +kernel)), rfl⟩
theorem fp_RX10_34 : ab_FP RX10 34 10 11 (tyX10 11) := ⟨RX10, TX10, 39, tyX10, rfl, by decide, gi_X10, tyX10_ok, nmX10, rfl, rfl, (ab_G_in (i := 1046) (by decide +kernel) (by decide +kernel)), rfl⟩
theorem fp_RX10_37 : ab_FP RX10 37 10 12 (tyX10 12) := ⟨RX10, TX10, 39, tyX10, rfl, by decide, gi_X10, tyX10_ok, nmX10, rfl, rfl, (ab_G_in (i := 1047) (by decide +kernel) (by decide +kernel)), rfl⟩
theorem fp_RX10_40 : ab_FP RX10 40 10 13 (tyX10 13) := ⟨RX10, TX10, 39, tyX10, rfl, by decide, gi_X10, tyX10_ok, nmX10, rfl, rfl, (ab_G_in (i := 1048) (by decide +kernel) (by decide +kernel)), rfl⟩
theorem fp_RX10_43 : ab_FP RX10 43 10 15 (tyX10 15) := ⟨RX10, TX10, 39, tyX10, rfl, by decide, gi_X10, tyX10_ok, nmX10, rfl, rfl, (ab_G_in (i := 1050) (by decide +kernel) (by decide +kernel)), rfl⟩
theorem fp_RX10_46 : ab_FP RX10 46 10 16 (tyX10 16) := ⟨RX10, TX10, 39, tyX10, rfl, by decide, gi_X10, tyX10_ok, nmX10, rfl, rfl, (ab_G_in (i := 1051) (by decide +kernel) (by decide +kernel)), rfl⟩
theorem fp_RX10_49 : ab_FP RX10 49 10 17 (tyX10 17) := ⟨RX10, TX10, 39, tyX10, rfl, by decide, gi_X10, tyX10_ok, nmX10, rfl, rfl, (ab_G_in (i := 1052) (by decide +kernel) (by decide +kernel)), rfl⟩
theorem fp_RX10_62 : ab_FP RX10 62 10 24 (tyX10 24) := ⟨RX10, TX10, 39, tyX10, rfl, by decide, gi_X10, tyX10_ok, nmX10, rfl, rfl, (ab_G_in (i := 1059) (by decide +kernel) (by decide +kernel)), rfl⟩
theorem fp_RX10_65 : ab_FP RX10 65 10 27 (tyX10 27) := ⟨RX10, TX10, 39, tyX10, rfl, by decide, gi_X10, tyX10_ok, nmX10, rfl, rfl, (ab_G_in (i := 1062) (by decide +kernel) (by decide +kernel)), rfl⟩
theorem fp_RX10_68 : ab_FP RX10 68 10 28 (tyX10 28) := ⟨RX10, TX10, 39, tyX10, rfl, by decide, gi_X10, tyX10_ok, nmX10, rfl, rfl, (ab_G_in (i := 1063) (by decide +kernel) (by decide +kernel)), rfl⟩
theorem fp_RX10_71 : ab_FP RX10 71 10 29 (tyX10 29) := ⟨RX10, TX10, 39, tyX10, rfl, by decide, gi_X10, tyX10_ok, nmX10, rfl, rfl, (ab_G_in (i := 1064) (by decide +kernel) (by decide +kernel)), rfl⟩
theorem fp_RX10_74 : ab_FP RX10 74 10 30 (tyX10 30) := ⟨RX10, TX10, 39, tyX10, rfl, by decide, gi_X10, tyX10_ok, nmX10, rfl, rfl, (ab_G_in (i := 1065) (by decide +kernel) (by decide +kernel)), rfl⟩
theorem fp_RX10_80 : ab_FP RX10 80 10 32 (tyX10 32) := ⟨RX10, TX10, 39, tyX10, rfl, by decide, gi_X10, tyX10_ok, nmX10, rfl, rfl, (ab_G_in (i := 1067) (by decide +kernel) (by decide +kernel)), rfl⟩
theorem fp_RX10_83 : ab_FP RX10 83 10 33 (tyX10 33) := ⟨RX10, TX10, 39, tyX10, rfl, by decide, gi_X10, tyX10_ok, nmX10, rfl, rfl, (ab_G_in (i := 1068) (by decide +kernel) (by decide +kernel)), rfl⟩
theorem fp_RX10_86 : ab_FP RX10 86 10 34 (tyX10 34) := ⟨RX10, TX10, 39, tyX10, rfl, by decide, gi_X10, tyX10_ok, nmX10, rfl, rfl, (ab_G_in (i := 1069) (by decide +kernel) (by decide +kernel)), rfl⟩
theorem fp_RX10_89 : ab_FP RX10 89 10 35 (tyX10 35) := ⟨RX10, TX10, 39, tyX10, rfl, by decide, gi_X10, tyX10_ok, nmX10, rfl, rfl, (ab_G_in (i := 1070) (by decide +kernel) (by decide +kernel)), rfl⟩
theorem fp_RX10_92 : ab_FP RX10 92 10 36 (tyX10 36) := ⟨RX10, TX10, 39, tyX10, rfl, by decide, gi_X10, tyX10_ok, nmX10, rfl, rfl, (ab_G_in (i := 1071) (by decide +kernel) (by decide +kernel)), rfl⟩
theorem fp_RX10_95 : ab_FP RX10 95 10 37 (tyX10 37) := ⟨RX10, TX10, 39, tyX10, rfl, by decide, gi_X10, tyX10_ok, nmX10, rfl, rfl, (ab_G_in (i := 1072) (by decide +kernel) (by decide +kernel)), rfl⟩
theorem fp_RX10_99 : ab_FP RX10 99 10 38 (tyX10 38) := ⟨RX10, TX10, 39, tyX10, rfl, by decide, gi_X10, tyX10_ok, nmX10, rfl, rfl, (ab_G_in (i := 1073) (by decide +kernel) (by decide +kernel)), rfl⟩
theorem nc_RX3_24 : ab_NC RX3 24 7 4 := ⟨RX7, TX7, tyX7, rfl, gi_X7, tyX7_ok, by decide +kernel, (ab_G_in (i := 98) (by decide +kernel) (by decide +kernel)), (ab_G_in (i := 99) (by decide +kernel) (by decide +kernel)), (ab_G_in (i := 63) (by decide +kernel) (by decide +kernel)), by decide⟩
theorem nc_RX3_31 : ab_NC RX3 31 1 4 := ⟨RX1, TX1, tyX1, rfl, gi_X1, tyX1_ok, by decide +kernel, (ab_G_in (i := 119) (by decide +kernel) (by decide +kernel)), (ab_G_in (i := 120) (by decide +kernel) (by decide +kernel)), (ab_G_in (i := 64) (by decide +kernel) (by decide +kernel)), by decide⟩
theorem nc_RX3_9 : ab_NC RX3 9 4 9 := ⟨RX4, TX4, tyX4, rfl, gi_X4, tyX4_ok, by decide +kernel, (ab_G_in (i := 96) (by decide +kernel) (by decide +kernel)), (ab_G_in (i := 138) (by decide +kernel) (by decide +kernel)), (ab_G_in (i := 65) (by decide +kernel) (by decide +kernel)), by decide⟩
theorem cK_RX3_9 : Cond.classLink RX3 9 "WavePlan$Mast" ∈ ab_G := (ab_G_in (i := 96) (by decide +kernel) (by decide +kernel))
theorem nc_RX6_9 : ab_NC RX6 9 4 9 := ⟨RX4, TX4, tyX4, rfl, gi_X4, tyX4_ok, by decide +kernel, (ab_G_in (i := 320) (by decide +kernel) (by decide +kernel)), (ab_G_in (i := 138) (by decide +kernel) (by decide +kernel)), (ab_G_in (i := 65) (by decide +kernel) (by decide +kernel)), by decide⟩
theorem nc_RX9_16 : ab_NC RX9 16 2 2 := ⟨RX2, TX2, tyX2, rfl, gi_X2, tyX2_ok, by decide +kernel, (ab_G_in (i := 239) (by decide +kernel) (by decide +kernel)), (ab_G_in (i := 240) (by decide +kernel) (by decide +kernel)), (ab_G_in (i := 67) (by decide +kernel) (by decide +kernel)), by decide⟩
theorem nc_RX9_25 : ab_NC RX9 25 8 6 := ⟨RX8, TX8, tyX8, rfl, gi_X8, tyX8_ok, by decide +kernel, (ab_G_in (i := 252) (by decide +kernel) (by decide +kernel)), (ab_G_in (i := 253) (by decide +kernel) (by decide +kernel)), (ab_G_in (i := 68) (by decide +kernel) (by decide +kernel)), by decide⟩
theorem nc_RX9_34 : ab_NC RX9 34 5 2 := ⟨RX5, TX5, tyX5, rfl, gi_X5, tyX5_ok, by decide +kernel, (ab_G_in (i := 278) (by decide +kernel) (by decide +kernel)), (ab_G_in (i := 279) (by decide +kernel) (by decide +kernel)), (ab_G_in (i := 69) (by decide +kernel) (by decide +kernel)), by decide⟩
theorem nc_RX9_41 : ab_NC RX9 41 0 5 := ⟨RX0, TX0, tyX0, rfl, gi_X0, tyX0_ok, by decide +kernel, (ab_G_in (i := 291) (by decide +kernel) (by decide +kernel)), (ab_G_in (i := 292) (by decide +kernel) (by decide +kernel)), (ab_G_in (i := 70) (by decide +kernel) (by decide +kernel)), by decide⟩
theorem nc_RX9_48 : ab_NC RX9 48 6 5 := ⟨RX6, TX6, tyX6, rfl, gi_X6, tyX6_ok, by decide +kernel, (ab_G_in (i := 313) (by decide +kernel) (by decide +kernel)), (ab_G_in (i := 315) (by decide +kernel) (by decide +kernel)), (ab_G_in (i := 71) (by decide +kernel) (by decide +kernel)), by decide⟩
theorem cK_RX9_48 : Cond.classLink RX9 48 "WavePlan$Shelf" ∈ ab_G := (ab_G_in (i := 313) (by decide +kernel) (by decide +kernel))
theorem nc_RX9_9 : ab_NC RX9 9 3 11 := ⟨RX3, TX3, tyX3, rfl, gi_X3, tyX3_ok, by decide +kernel, (ab_G_in (i := 90) (by decide +kernel) (by decide +kernel)), (ab_G_in (i := 91) (by decide +kernel) (by decide +kernel)), (ab_G_in (i := 62) (by decide +kernel) (by decide +kernel)), by decide⟩
theorem ml_RX9_3 : Cond.methodLink RX9 3 objectInit ∈ ab_G := (ab_G_in (i := 87) (by decide +kernel) (by decide +kernel))
theorem ml_RX0_3 : Cond.methodLink RX0 3 objectInit ∈ ab_G := (ab_G_in (i := 296) (by decide +kernel) (by decide +kernel))
theorem ml_RX1_3 : Cond.methodLink RX1 3 objectInit ∈ ab_G := (ab_G_in (i := 124) (by decide +kernel) (by decide +kernel))
theorem ml_RX2_3 : Cond.methodLink RX2 3 objectInit ∈ ab_G := (ab_G_in (i := 244) (by decide +kernel) (by decide +kernel))
theorem ml_RX3_3 : Cond.methodLink RX3 3 objectInit ∈ ab_G := (ab_G_in (i := 95) (by decide +kernel) (by decide +kernel))
theorem ml_RX4_3 : Cond.methodLink RX4 3 objectInit ∈ ab_G := (ab_G_in (i := 142) (by decide +kernel) (by decide +kernel))
theorem ml_RX5_3 : Cond.methodLink RX5 3 objectInit ∈ ab_G := (ab_G_in (i := 283) (by decide +kernel) (by decide +kernel))
theorem ml_RX6_3 : Cond.methodLink RX6 3 objectInit ∈ ab_G := (ab_G_in (i := 319) (by decide +kernel) (by decide +kernel))
theorem ml_RX7_3 : Cond.methodLink RX7 3 objectInit ∈ ab_G := (ab_G_in (i := 103) (by decide +kernel) (by decide +kernel))
theorem ml_RX8_3 : Cond.methodLink RX8 3 objectInit ∈ ab_G := (ab_G_in (i := 257) (by decide +kernel) (by decide +kernel))
theorem ml_RX10_1 : Cond.methodLink RX10 1 objectInit ∈ ab_G := (ab_G_in (i := 1034) (by decide +kernel) (by decide +kernel))
theorem ml_RX9_11 : Cond.methodLink RX9 11 yX3_init ∈ ab_G := (ab_G_in (i := 92) (by decide +kernel) (by decide +kernel))
theorem ml_RX9_18 : Cond.methodLink RX9 18 yX2_init ∈ ab_G := (ab_G_in (i := 241) (by decide +kernel) (by decide +kernel))
theorem ml_RX9_27 : Cond.methodLink RX9 27 yX8_init ∈ ab_G := (ab_G_in (i := 254) (by decide +kernel) (by decide +kernel))
theorem ml_RX9_36 : Cond.methodLink RX9 36 yX5_init ∈ ab_G := (ab_G_in (i := 280) (by decide +kernel) (by decide +kernel))
theorem ml_RX9_43 : Cond.methodLink RX9 43 yX0_init ∈ ab_G := (ab_G_in (i := 293) (by decide +kernel) (by decide +kernel))
theorem ml_RX9_54 : Cond.methodLinkNest RX9 54 yX6_init "WavePlan" ∈ ab_nest := ab_n_in (i := 316) (by decide +kernel) rfl
theorem ml_RX9_62 : Cond.methodLink RX9 62 yJ7_fill_53178 ∈ ab_G := (ab_G_in (i := 343) (by decide +kernel) (by decide +kernel))
theorem ml_RX3_26 : Cond.methodLinkNest RX3 26 yX7_init "WavePlan" ∈ ab_nest := ab_n_in (i := 100) (by decide +kernel) rfl
theorem ml_RX3_33 : Cond.methodLinkNest RX3 33 yX1_init "WavePlan" ∈ ab_nest := ab_n_in (i := 121) (by decide +kernel) rfl
theorem ml_RX3_51 : Cond.methodLinkNest RX3 51 yX4_init "WavePlan" ∈ ab_nest := ab_n_in (i := 139) (by decide +kernel) rfl
theorem ml_RX3_52 : Cond.methodLink RX3 52 yJ7_fill_53178 ∈ ab_G := (ab_G_in (i := 184) (by decide +kernel) (by decide +kernel))
theorem ml_RX6_11 : Cond.methodLinkNest RX6 11 yX4_init "WavePlan" ∈ ab_nest := ab_n_in (i := 321) (by decide +kernel) rfl
theorem gO_i : Cond.instanceMethod objectInit ∈ ab_G := (ab_G_in (i := 88) (by decide +kernel) (by decide +kernel))
theorem gO_c : Cond.code objectInit ⟨#[0xb1]⟩ 1 none ∈ ab_G := (ab_G_in (i := 89) (by decide +kernel) (by decide +kernel))
theorem gA_byte : Cond.arrayClass .byte ∈ ab_G := (ab_G_in (i := 341) (by decide +kernel) (by decide +kernel))
theorem gA_int : Cond.arrayClass .int ∈ ab_G := (ab_G_in (i := 118) (by decide +kernel) (by decide +kernel))
theorem gA_long : Cond.arrayClass .long ∈ ab_G := (ab_G_in (i := 342) (by decide +kernel) (by decide +kernel))
theorem mi_X0_init_i : ab_MI me_X0_init 1 := ⟨(ab_G_in (i := 295) (by decide +kernel) (by decide +kernel)), rfl, (ab_G_in (i := 294) (by decide +kernel) (by decide +kernel)), (ab_G_in (i := 70) (by decide +kernel) (by decide +kernel)), ⟨by decide, by decide, by decide +kernel⟩, by decide, rfl⟩
theorem mi_X10_init_i : ab_MI me_X10_init 0 := ⟨(ab_G_in (i := 1033) (by decide +kernel) (by decide +kernel)), rfl, (ab_G_in (i := 1032) (by decide +kernel) (by decide +kernel)), (ab_G_in (i := 72) (by decide +kernel) (by decide +kernel)), ⟨by decide, by decide, by decide +kernel⟩, by decide, rfl⟩
theorem mi_X1_init_i : ab_MI me_X1_init 0 := ⟨(ab_G_in (i := 123) (by decide +kernel) (by decide +kernel)), rfl, (ab_G_in (i := 122) (by decide +kernel) (by decide +kernel)), (ab_G_in (i := 64) (by decide +kernel) (by decide +kernel)), ⟨by decide, by decide, by decide +kernel⟩, by decide, rfl⟩
theorem mi_X2_init_i : ab_MI me_X2_init 1 := ⟨(ab_G_in (i := 243) (by decide +kernel) (by decide +kernel)), rfl, (ab_G_in (i := 242) (by decide +kernel) (by decide +kernel)), (ab_G_in (i := 67) (by decide +kernel) (by decide +kernel)), ⟨by decide, by decide, by decide +kernel⟩, by decide, rfl⟩
theorem mi_X3_init_i : ab_MI me_X3_init 0 := ⟨(ab_G_in (i := 94) (by decide +kernel) (by decide +kernel)), rfl, (ab_G_in (i := 93) (by decide +kernel) (by decide +kernel)), (ab_G_in (i := 62) (by decide +kernel) (by decide +kernel)), ⟨by decide, by decide, by decide +kernel⟩, by decide, rfl⟩
theorem mi_X4_init_i : ab_MI me_X4_init 0 := ⟨(ab_G_in (i := 141) (by decide +kernel) (by decide +kernel)), rfl, (ab_G_in (i := 140) (by decide +kernel) (by decide +kernel)), (ab_G_in (i := 65) (by decide +kernel) (by decide +kernel)), ⟨by decide, by decide, by decide +kernel⟩, by decide, rfl⟩
theorem mi_X5_init_i : ab_MI me_X5_init 2 := ⟨(ab_G_in (i := 282) (by decide +kernel) (by decide +kernel)), rfl, (ab_G_in (i := 281) (by decide +kernel) (by decide +kernel)), (ab_G_in (i := 69) (by decide +kernel) (by decide +kernel)), ⟨by decide, by decide, by decide +kernel⟩, by decide, rfl⟩
theorem mi_X6_init_i : ab_MI me_X6_init 0 := ⟨(ab_G_in (i := 318) (by decide +kernel) (by decide +kernel)), rfl, (ab_G_in (i := 317) (by decide +kernel) (by decide +kernel)), (ab_G_in (i := 71) (by decide +kernel) (by decide +kernel)), ⟨by decide, by decide, by decide +kernel⟩, by decide, rfl⟩
theorem mi_X7_init_i : ab_MI me_X7_init 0 := ⟨(ab_G_in (i := 102) (by decide +kernel) (by decide +kernel)), rfl, (ab_G_in (i := 101) (by decide +kernel) (by decide +kernel)), (ab_G_in (i := 63) (by decide +kernel) (by decide +kernel)), ⟨by decide, by decide, by decide +kernel⟩, by decide, rfl⟩
theorem mi_X8_init_i : ab_MI me_X8_init 2 := ⟨(ab_G_in (i := 256) (by decide +kernel) (by decide +kernel)), rfl, (ab_G_in (i := 255) (by decide +kernel) (by decide +kernel)), (ab_G_in (i := 68) (by decide +kernel) (by decide +kernel)), ⟨by decide, by decide, by decide +kernel⟩, by decide, rfl⟩
theorem mi_X9_init_i : ab_MI me_X9_init 0 := ⟨(ab_G_in (i := 86) (by decide +kernel) (by decide +kernel)), rfl, (ab_G_in (i := 85) (by decide +kernel) (by decide +kernel)), (ab_G_in (i := 61) (by decide +kernel) (by decide +kernel)), ⟨by decide, by decide, by decide +kernel⟩, by decide, rfl⟩
theorem mv_J7_fill_53178 : ab_MS me_J7_fill_53178 2 := ⟨(ab_G_in (i := 186) (by decide +kernel) (by decide +kernel)), (ab_G_in (i := 185) (by decide +kernel) (by decide +kernel)), (ab_G_in (i := 66) (by decide +kernel) (by decide +kernel)), ⟨by decide, by decide, by decide +kernel⟩, by decide⟩
theorem dX0_init_0 : decode cX0_init 0 = .ok (.aload_n 0, 1) := by decide +kernel
theorem dX0_init_1 : decode cX0_init 1 = .ok (.invokespecial 3, 3) := by decide +kernel
theorem dX0_init_4 : decode cX0_init 4 = .ok (.aload_n 0, 1) := by decide +kernel
theorem dX0_init_5 : decode cX0_init 5 = .ok (.sipush 384, 3) := by decide +kernel
theorem dX0_init_8 : decode cX0_init 8 = .ok (.newarray .int, 2) := by decide +kernel
theorem dX0_init_10 : decode cX0_init 10 = .ok (.putfield 9, 3) := by decide +kernel
theorem dX0_init_13 : decode cX0_init 13 = .ok (.aload_n 0, 1) := by decide +kernel
theorem dX0_init_14 : decode cX0_init 14 = .ok (.bipush 6, 2) := by decide +kernel
theorem dX0_init_16 : decode cX0_init 16 = .ok (.newarray .int, 2) := by decide +kernel
theorem dX0_init_18 : decode cX0_init 18 = .ok (.putfield 15, 3) := by decide +kernel
theorem dX0_init_21 : decode cX0_init 21 = .ok (.aload_n 0, 1) := by decide +kernel
theorem dX0_init_22 : decode cX0_init 22 = .ok (.aload_n 1, 1) := by decide +kernel
theorem dX0_init_23 : decode cX0_init 23 = .ok (.putfield 18, 3) := by decide +kernel
theorem dX0_init_26 : decode cX0_init 26 = .ok (.return_, 1) := by decide +kernel
theorem dX1_init_0 : decode cX1_init 0 = .ok (.aload_n 0, 1) := by decide +kernel
theorem dX1_init_1 : decode cX1_init 1 = .ok (.invokespecial 3, 3) := by decide +kernel
theorem dX1_init_4 : decode cX1_init 4 = .ok (.aload_n 0, 1) := by decide +kernel
theorem dX1_init_5 : decode cX1_init 5 = .ok (.iconst (-1), 1) := by decide +kernel
theorem dX1_init_6 : decode cX1_init 6 = .ok (.putfield 9, 3) := by decide +kernel
theorem dX1_init_9 : decode cX1_init 9 = .ok (.return_, 1) := by decide +kernel
theorem dX2_init_0 : decode cX2_init 0 = .ok (.aload_n 0, 1) := by decide +kernel
theorem dX2_init_1 : decode cX2_init 1 = .ok (.invokespecial 3, 3) := by decide +kernel
theorem dX2_init_4 : decode cX2_init 4 = .ok (.aload_n 0, 1) := by decide +kernel
theorem dX2_init_5 : decode cX2_init 5 = .ok (.bipush 30, 2) := by decide +kernel
theorem dX2_init_7 : decode cX2_init 7 = .ok (.newarray .int, 2) := by decide +kernel
theorem dX2_init_9 : decode cX2_init 9 = .ok (.putfield 9, 3) := by decide +kernel
theorem dX2_init_12 : decode cX2_init 12 = .ok (.aload_n 0, 1) := by decide +kernel
theorem dX2_init_13 : decode cX2_init 13 = .ok (.aload_n 1, 1) := by decide +kernel
theorem dX2_init_14 : decode cX2_init 14 = .ok (.putfield 15, 3) := by decide +kernel
theorem dX2_init_17 : decode cX2_init 17 = .ok (.return_, 1) := by decide +kernel
theorem dX3_init_0 : decode cX3_init 0 = .ok (.aload_n 0, 1) := by decide +kernel
theorem dX3_init_1 : decode cX3_init 1 = .ok (.invokespecial 3, 3) := by decide +kernel
theorem dX3_init_4 : decode cX3_init 4 = .ok (.aload_n 0, 1) := by decide +kernel
theorem dX3_init_5 : decode cX3_init 5 = .ok (.bipush 12, 2) := by decide +kernel
theorem dX3_init_7 : decode cX3_init 7 = .ok (.anewarray 9, 3) := by decide +kernel
theorem dX3_init_10 : decode cX3_init 10 = .ok (.putfield 11, 3) := by decide +kernel
theorem dX3_init_13 : decode cX3_init 13 = .ok (.aload_n 0, 1) := by decide +kernel
theorem dX3_init_14 : decode cX3_init 14 = .ok (.bipush 16, 2) := by decide +kernel
theorem dX3_init_16 : decode cX3_init 16 = .ok (.newarray .int, 2) := by decide +kernel
theorem dX3_init_18 : decode cX3_init 18 = .ok (.putfield 17, 3) := by decide +kernel
theorem dX3_init_21 : decode cX3_init 21 = .ok (.aload_n 0, 1) := by decide +kernel
theorem dX3_init_22 : decode cX3_init 22 = .ok (.bipush 16, 2) := by decide +kernel
theorem dX3_init_24 : decode cX3_init 24 = .ok (.newarray .int, 2) := by decide +kernel
theorem dX3_init_26 : decode cX3_init 26 = .ok (.putfield 21, 3) := by decide +kernel
theorem dX3_init_29 : decode cX3_init 29 = .ok (.aload_n 0, 1) := by decide +kernel
theorem dX3_init_30 : decode cX3_init 30 = .ok (.new 24, 3) := by decide +kernel
theorem dX3_init_33 : decode cX3_init 33 = .ok (.dup, 1) := by decide +kernel
theorem dX3_init_34 : decode cX3_init 34 = .ok (.invokespecial 26, 3) := by decide +kernel
theorem dX3_init_37 : decode cX3_init 37 = .ok (.putfield 27, 3) := by decide +kernel
theorem dX3_init_40 : decode cX3_init 40 = .ok (.aload_n 0, 1) := by decide +kernel
theorem dX3_init_41 : decode cX3_init 41 = .ok (.new 31, 3) := by decide +kernel
theorem dX3_init_44 : decode cX3_init 44 = .ok (.dup, 1) := by decide +kernel
theorem dX3_init_45 : decode cX3_init 45 = .ok (.invokespecial 33, 3) := by decide +kernel
theorem dX3_init_48 : decode cX3_init 48 = .ok (.putfield 34, 3) := by decide +kernel
theorem dX3_init_51 : decode cX3_init 51 = .ok (.aload_n 0, 1) := by decide +kernel
theorem dX3_init_52 : decode cX3_init 52 = .ok (.sipush 144, 3) := by decide +kernel
theorem dX3_init_55 : decode cX3_init 55 = .ok (.newarray .int, 2) := by decide +kernel
theorem dX3_init_57 : decode cX3_init 57 = .ok (.putfield 38, 3) := by decide +kernel
theorem dX3_init_60 : decode cX3_init 60 = .ok (.aload_n 0, 1) := by decide +kernel
theorem dX3_init_61 : decode cX3_init 61 = .ok (.bipush 12, 2) := by decide +kernel
theorem dX3_init_63 : decode cX3_init 63 = .ok (.newarray .int, 2) := by decide +kernel
theorem dX3_init_65 : decode cX3_init 65 = .ok (.putfield 41, 3) := by decide +kernel
theorem dX3_init_68 : decode cX3_init 68 = .ok (.aload_n 0, 1) := by decide +kernel
theorem dX3_init_69 : decode cX3_init 69 = .ok (.iconst 2, 1) := by decide +kernel
theorem dX3_init_70 : decode cX3_init 70 = .ok (.putfield 44, 3) := by decide +kernel
theorem dX3_init_73 : decode cX3_init 73 = .ok (.aload_n 0, 1) := by decide +kernel
theorem dX3_init_74 : decode cX3_init 74 = .ok (.iconst (-1), 1) := by decide +kernel
theorem dX3_init_75 : decode cX3_init 75 = .ok (.putfield 48, 3) := by decide +kernel
theorem dX3_init_78 : decode cX3_init 78 = .ok (.iconst 0, 1) := by decide +kernel
theorem dX3_init_79 : decode cX3_init 79 = .ok (.istore_n 1, 1) := by decide +kernel
theorem dX3_init_80 : decode cX3_init 80 = .ok (.iload_n 1, 1) := by decide +kernel
theorem dX3_init_81 : decode cX3_init 81 = .ok (.bipush 12, 2) := by decide +kernel
theorem dX3_init_83 : decode cX3_init 83 = .ok (.if_icmp .ge 22, 3) := by decide +kernel
theorem dX3_init_86 : decode cX3_init 86 = .ok (.aload_n 0, 1) := by decide +kernel
theorem dX3_init_87 : decode cX3_init 87 = .ok (.getfield 11, 3) := by decide +kernel
theorem dX3_init_90 : decode cX3_init 90 = .ok (.iload_n 1, 1) := by decide +kernel
theorem dX3_init_91 : decode cX3_init 91 = .ok (.new 9, 3) := by decide +kernel
theorem dX3_init_94 : decode cX3_init 94 = .ok (.dup, 1) := by decide +kernel
theorem dX3_init_95 : decode cX3_init 95 = .ok (.invokespecial 51, 3) := by decide +kernel
theorem dX3_init_98 : decode cX3_init 98 = .ok (.aastore, 1) := by decide +kernel
theorem dX3_init_99 : decode cX3_init 99 = .ok (.iinc 1 1, 3) := by decide +kernel
theorem dX3_init_102 : decode cX3_init 102 = .ok (.goto (-22), 3) := by decide +kernel
theorem dX3_init_105 : decode cX3_init 105 = .ok (.aload_n 0, 1) := by decide +kernel
theorem dX3_init_106 : decode cX3_init 106 = .ok (.getfield 21, 3) := by decide +kernel
theorem dX3_init_109 : decode cX3_init 109 = .ok (.bipush (-2), 2) := by decide +kernel
theorem dX3_init_111 : decode cX3_init 111 = .ok (.invokestatic 52, 3) := by decide +kernel
theorem dX3_init_114 : decode cX3_init 114 = .ok (.return_, 1) := by decide +kernel
theorem dX4_init_0 : decode cX4_init 0 = .ok (.aload_n 0, 1) := by decide +kernel
theorem dX4_init_1 : decode cX4_init 1 = .ok (.invokespecial 3, 3) := by decide +kernel
theorem dX4_init_4 : decode cX4_init 4 = .ok (.return_, 1) := by decide +kernel
theorem dX5_init_0 : decode cX5_init 0 = .ok (.aload_n 0, 1) := by decide +kernel
theorem dX5_init_1 : decode cX5_init 1 = .ok (.invokespecial 3, 3) := by decide +kernel
theorem dX5_init_4 : decode cX5_init 4 = .ok (.aload_n 0, 1) := by decide +kernel
theorem dX5_init_5 : decode cX5_init 5 = .ok (.aload_n 1, 1) := by decide +kernel
theorem dX5_init_6 : decode cX5_init 6 = .ok (.putfield 9, 3) := by decide +kernel
theorem dX5_init_9 : decode cX5_init 9 = .ok (.aload_n 0, 1) := by decide +kernel
theorem dX5_init_10 : decode cX5_init 10 = .ok (.aload_n 2, 1) := by decide +kernel
theorem dX5_init_11 : decode cX5_init 11 = .ok (.putfield 15, 3) := by decide +kernel
theorem dX5_init_14 : decode cX5_init 14 = .ok (.return_, 1) := by decide +kernel
theorem dX6_init_0 : decode cX6_init 0 = .ok (.aload_n 0, 1) := by decide +kernel
theorem dX6_init_1 : decode cX6_init 1 = .ok (.invokespecial 3, 3) := by decide +kernel
theorem dX6_init_4 : decode cX6_init 4 = .ok (.aload_n 0, 1) := by decide +kernel
theorem dX6_init_5 : decode cX6_init 5 = .ok (.new 9, 3) := by decide +kernel
theorem dX6_init_8 : decode cX6_init 8 = .ok (.dup, 1) := by decide +kernel
theorem dX6_init_9 : decode cX6_init 9 = .ok (.invokespecial 11, 3) := by decide +kernel
theorem dX6_init_12 : decode cX6_init 12 = .ok (.putfield 12, 3) := by decide +kernel
theorem dX6_init_15 : decode cX6_init 15 = .ok (.aload_n 0, 1) := by decide +kernel
theorem dX6_init_16 : decode cX6_init 16 = .ok (.bipush 60, 2) := by decide +kernel
theorem dX6_init_18 : decode cX6_init 18 = .ok (.newarray .byte, 2) := by decide +kernel
theorem dX6_init_20 : decode cX6_init 20 = .ok (.putfield 18, 3) := by decide +kernel
theorem dX6_init_23 : decode cX6_init 23 = .ok (.aload_n 0, 1) := by decide +kernel
theorem dX6_init_24 : decode cX6_init 24 = .ok (.bipush 60, 2) := by decide +kernel
theorem dX6_init_26 : decode cX6_init 26 = .ok (.newarray .long, 2) := by decide +kernel
theorem dX6_init_28 : decode cX6_init 28 = .ok (.putfield 22, 3) := by decide +kernel
theorem dX6_init_31 : decode cX6_init 31 = .ok (.aload_n 0, 1) := by decide +kernel
theorem dX6_init_32 : decode cX6_init 32 = .ok (.iconst 0, 1) := by decide +kernel
theorem dX6_init_33 : decode cX6_init 33 = .ok (.putfield 26, 3) := by decide +kernel
theorem dX6_init_36 : decode cX6_init 36 = .ok (.return_, 1) := by decide +kernel
theorem dX7_init_0 : decode cX7_init 0 = .ok (.aload_n 0, 1) := by decide +kernel
theorem dX7_init_1 : decode cX7_init 1 = .ok (.invokespecial 3, 3) := by decide +kernel
theorem dX7_init_4 : decode cX7_init 4 = .ok (.aload_n 0, 1) := by decide +kernel
theorem dX7_init_5 : decode cX7_init 5 = .ok (.bipush 8, 2) := by decide +kernel
theorem dX7_init_7 : decode cX7_init 7 = .ok (.newarray .int, 2) := by decide +kernel
theorem dX7_init_9 : decode cX7_init 9 = .ok (.putfield 9, 3) := by decide +kernel
theorem dX7_init_12 : decode cX7_init 12 = .ok (.aload_n 0, 1) := by decide +kernel
theorem dX7_init_13 : decode cX7_init 13 = .ok (.bipush 8, 2) := by decide +kernel
theorem dX7_init_15 : decode cX7_init 15 = .ok (.newarray .int, 2) := by decide +kernel
theorem dX7_init_17 : decode cX7_init 17 = .ok (.putfield 15, 3) := by decide +kernel
theorem dX7_init_20 : decode cX7_init 20 = .ok (.aload_n 0, 1) := by decide +kernel
theorem dX7_init_21 : decode cX7_init 21 = .ok (.bipush 8, 2) := by decide +kernel
theorem dX7_init_23 : decode cX7_init 23 = .ok (.newarray .int, 2) := by decide +kernel
theorem dX7_init_25 : decode cX7_init 25 = .ok (.putfield 18, 3) := by decide +kernel
theorem dX7_init_28 : decode cX7_init 28 = .ok (.return_, 1) := by decide +kernel
theorem dX8_init_0 : decode cX8_init 0 = .ok (.aload_n 0, 1) := by decide +kernel
theorem dX8_init_1 : decode cX8_init 1 = .ok (.invokespecial 3, 3) := by decide +kernel
theorem dX8_init_4 : decode cX8_init 4 = .ok (.aload_n 0, 1) := by decide +kernel
theorem dX8_init_5 : decode cX8_init 5 = .ok (.bipush 16, 2) := by decide +kernel
theorem dX8_init_7 : decode cX8_init 7 = .ok (.newarray .int, 2) := by decide +kernel
theorem dX8_init_9 : decode cX8_init 9 = .ok (.putfield 9, 3) := by decide +kernel
theorem dX8_init_12 : decode cX8_init 12 = .ok (.aload_n 0, 1) := by decide +kernel
theorem dX8_init_13 : decode cX8_init 13 = .ok (.bipush 16, 2) := by decide +kernel
theorem dX8_init_15 : decode cX8_init 15 = .ok (.newarray .int, 2) := by decide +kernel
theorem dX8_init_17 : decode cX8_init 17 = .ok (.putfield 15, 3) := by decide +kernel
theorem dX8_init_20 : decode cX8_init 20 = .ok (.aload_n 0, 1) := by decide +kernel
theorem dX8_init_21 : decode cX8_init 21 = .ok (.bipush 16, 2) := by decide +kernel
theorem dX8_init_23 : decode cX8_init 23 = .ok (.newarray .int, 2) := by decide +kernel
theorem dX8_init_25 : decode cX8_init 25 = .ok (.putfield 18, 3) := by decide +kernel
theorem dX8_init_28 : decode cX8_init 28 = .ok (.aload_n 0, 1) := by decide +kernel
theorem dX8_init_29 : decode cX8_init 29 = .ok (.aload_n 1, 1) := by decide +kernel
theorem dX8_init_30 : decode cX8_init 30 = .ok (.putfield 21, 3) := by decide +kernel
theorem dX8_init_33 : decode cX8_init 33 = .ok (.aload_n 0, 1) := by decide +kernel
theorem dX8_init_34 : decode cX8_init 34 = .ok (.aload_n 2, 1) := by decide +kernel
theorem dX8_init_35 : decode cX8_init 35 = .ok (.putfield 25, 3) := by decide +kernel
theorem dX8_init_38 : decode cX8_init 38 = .ok (.return_, 1) := by decide +kernel
theorem dX9_init_0 : decode cX9_init 0 = .ok (.aload_n 0, 1) := by decide +kernel
theorem dX9_init_1 : decode cX9_init 1 = .ok (.invokespecial 3, 3) := by decide +kernel
theorem dX9_init_4 : decode cX9_init 4 = .ok (.aload_n 0, 1) := by decide +kernel
theorem dX9_init_5 : decode cX9_init 5 = .ok (.new 9, 3) := by decide +kernel
theorem dX9_init_8 : decode cX9_init 8 = .ok (.dup, 1) := by decide +kernel
theorem dX9_init_9 : decode cX9_init 9 = .ok (.invokespecial 11, 3) := by decide +kernel
theorem dX9_init_12 : decode cX9_init 12 = .ok (.putfield 12, 3) := by decide +kernel
theorem dX9_init_15 : decode cX9_init 15 = .ok (.aload_n 0, 1) := by decide +kernel
theorem dX9_init_16 : decode cX9_init 16 = .ok (.new 16, 3) := by decide +kernel
theorem dX9_init_19 : decode cX9_init 19 = .ok (.dup, 1) := by decide +kernel
theorem dX9_init_20 : decode cX9_init 20 = .ok (.aload_n 0, 1) := by decide +kernel
theorem dX9_init_21 : decode cX9_init 21 = .ok (.getfield 12, 3) := by decide +kernel
theorem dX9_init_24 : decode cX9_init 24 = .ok (.invokespecial 18, 3) := by decide +kernel
theorem dX9_init_27 : decode cX9_init 27 = .ok (.putfield 21, 3) := by decide +kernel
theorem dX9_init_30 : decode cX9_init 30 = .ok (.aload_n 0, 1) := by decide +kernel
theorem dX9_init_31 : decode cX9_init 31 = .ok (.new 25, 3) := by decide +kernel
theorem dX9_init_34 : decode cX9_init 34 = .ok (.dup, 1) := by decide +kernel
theorem dX9_init_35 : decode cX9_init 35 = .ok (.aload_n 0, 1) := by decide +kernel
theorem dX9_init_36 : decode cX9_init 36 = .ok (.getfield 12, 3) := by decide +kernel
theorem dX9_init_39 : decode cX9_init 39 = .ok (.aload_n 0, 1) := by decide +kernel
theorem dX9_init_40 : decode cX9_init 40 = .ok (.getfield 21, 3) := by decide +kernel
theorem dX9_init_43 : decode cX9_init 43 = .ok (.invokespecial 27, 3) := by decide +kernel
theorem dX9_init_46 : decode cX9_init 46 = .ok (.putfield 30, 3) := by decide +kernel
theorem dX9_init_49 : decode cX9_init 49 = .ok (.aload_n 0, 1) := by decide +kernel
theorem dX9_init_50 : decode cX9_init 50 = .ok (.new 34, 3) := by decide +kernel
theorem dX9_init_53 : decode cX9_init 53 = .ok (.dup, 1) := by decide +kernel
theorem dX9_init_54 : decode cX9_init 54 = .ok (.aload_n 0, 1) := by decide +kernel
theorem dX9_init_55 : decode cX9_init 55 = .ok (.getfield 12, 3) := by decide +kernel
theorem dX9_init_58 : decode cX9_init 58 = .ok (.aload_n 0, 1) := by decide +kernel
theorem dX9_init_59 : decode cX9_init 59 = .ok (.getfield 21, 3) := by decide +kernel
theorem dX9_init_62 : decode cX9_init 62 = .ok (.invokespecial 36, 3) := by decide +kernel
theorem dX9_init_65 : decode cX9_init 65 = .ok (.putfield 37, 3) := by decide +kernel
theorem dX9_init_68 : decode cX9_init 68 = .ok (.aload_n 0, 1) := by decide +kernel
theorem dX9_init_69 : decode cX9_init 69 = .ok (.new 41, 3) := by decide +kernel
theorem dX9_init_72 : decode cX9_init 72 = .ok (.dup, 1) := by decide +kernel
theorem dX9_init_73 : decode cX9_init 73 = .ok (.aload_n 0, 1) := by decide +kernel
theorem dX9_init_74 : decode cX9_init 74 = .ok (.getfield 12, 3) := by decide +kernel
theorem dX9_init_77 : decode cX9_init 77 = .ok (.invokespecial 43, 3) := by decide +kernel
theorem dX9_init_80 : decode cX9_init 80 = .ok (.putfield 44, 3) := by decide +kernel
theorem dX9_init_83 : decode cX9_init 83 = .ok (.aload_n 0, 1) := by decide +kernel
theorem dX9_init_84 : decode cX9_init 84 = .ok (.bipush 8, 2) := by decide +kernel
theorem dX9_init_86 : decode cX9_init 86 = .ok (.anewarray 48, 3) := by decide +kernel
theorem dX9_init_89 : decode cX9_init 89 = .ok (.putfield 50, 3) := by decide +kernel
theorem dX9_init_92 : decode cX9_init 92 = .ok (.iconst 0, 1) := by decide +kernel
theorem dX9_init_93 : decode cX9_init 93 = .ok (.istore_n 1, 1) := by decide +kernel
theorem dX9_init_94 : decode cX9_init 94 = .ok (.iload_n 1, 1) := by decide +kernel
theorem dX9_init_95 : decode cX9_init 95 = .ok (.bipush 8, 2) := by decide +kernel
theorem dX9_init_97 : decode cX9_init 97 = .ok (.if_icmp .ge 22, 3) := by decide +kernel
theorem dX9_init_100 : decode cX9_init 100 = .ok (.aload_n 0, 1) := by decide +kernel
theorem dX9_init_101 : decode cX9_init 101 = .ok (.getfield 50, 3) := by decide +kernel
theorem dX9_init_104 : decode cX9_init 104 = .ok (.iload_n 1, 1) := by decide +kernel
theorem dX9_init_105 : decode cX9_init 105 = .ok (.new 48, 3) := by decide +kernel
theorem dX9_init_108 : decode cX9_init 108 = .ok (.dup, 1) := by decide +kernel
theorem dX9_init_109 : decode cX9_init 109 = .ok (.invokespecial 54, 3) := by decide +kernel
theorem dX9_init_112 : decode cX9_init 112 = .ok (.aastore, 1) := by decide +kernel
theorem dX9_init_113 : decode cX9_init 113 = .ok (.iinc 1 1, 3) := by decide +kernel
theorem dX9_init_116 : decode cX9_init 116 = .ok (.goto (-22), 3) := by decide +kernel
theorem dX9_init_119 : decode cX9_init 119 = .ok (.aload_n 0, 1) := by decide +kernel
theorem dX9_init_120 : decode cX9_init 120 = .ok (.bipush 16, 2) := by decide +kernel
theorem dX9_init_122 : decode cX9_init 122 = .ok (.newarray .int, 2) := by decide +kernel
theorem dX9_init_124 : decode cX9_init 124 = .ok (.putfield 55, 3) := by decide +kernel
theorem dX9_init_127 : decode cX9_init 127 = .ok (.aload_n 0, 1) := by decide +kernel
theorem dX9_init_128 : decode cX9_init 128 = .ok (.bipush 16, 2) := by decide +kernel
theorem dX9_init_130 : decode cX9_init 130 = .ok (.newarray .int, 2) := by decide +kernel
theorem dX9_init_132 : decode cX9_init 132 = .ok (.putfield 59, 3) := by decide +kernel
theorem dX9_init_135 : decode cX9_init 135 = .ok (.aload_n 0, 1) := by decide +kernel
theorem dX9_init_136 : decode cX9_init 136 = .ok (.getfield 55, 3) := by decide +kernel
theorem dX9_init_139 : decode cX9_init 139 = .ok (.bipush (-2), 2) := by decide +kernel
theorem dX9_init_141 : decode cX9_init 141 = .ok (.invokestatic 62, 3) := by decide +kernel
theorem dX9_init_144 : decode cX9_init 144 = .ok (.aload_n 0, 1) := by decide +kernel
theorem dX9_init_145 : decode cX9_init 145 = .ok (.getfield 59, 3) := by decide +kernel
theorem dX9_init_148 : decode cX9_init 148 = .ok (.bipush (-2), 2) := by decide +kernel
theorem dX9_init_150 : decode cX9_init 150 = .ok (.invokestatic 62, 3) := by decide +kernel
theorem dX9_init_153 : decode cX9_init 153 = .ok (.aload_n 0, 1) := by decide +kernel
theorem dX9_init_154 : decode cX9_init 154 = .ok (.iconst (-1), 1) := by decide +kernel
theorem dX9_init_155 : decode cX9_init 155 = .ok (.putfield 68, 3) := by decide +kernel
theorem dX9_init_158 : decode cX9_init 158 = .ok (.return_, 1) := by decide +kernel
theorem dX10_init_0 : decode cX10_init 0 = .ok (.aload_n 0, 1) := by decide +kernel
theorem dX10_init_1 : decode cX10_init 1 = .ok (.invokespecial 1, 3) := by decide +kernel
theorem dX10_init_4 : decode cX10_init 4 = .ok (.aload_n 0, 1) := by decide +kernel
theorem dX10_init_5 : decode cX10_init 5 = .ok (.bipush 12, 2) := by decide +kernel
theorem dX10_init_7 : decode cX10_init 7 = .ok (.newarray .int, 2) := by decide +kernel
theorem dX10_init_9 : decode cX10_init 9 = .ok (.putfield 7, 3) := by decide +kernel
theorem dX10_init_12 : decode cX10_init 12 = .ok (.aload_n 0, 1) := by decide +kernel
theorem dX10_init_13 : decode cX10_init 13 = .ok (.bipush 12, 2) := by decide +kernel
theorem dX10_init_15 : decode cX10_init 15 = .ok (.newarray .int, 2) := by decide +kernel
theorem dX10_init_17 : decode cX10_init 17 = .ok (.putfield 13, 3) := by decide +kernel
theorem dX10_init_20 : decode cX10_init 20 = .ok (.aload_n 0, 1) := by decide +kernel
theorem dX10_init_21 : decode cX10_init 21 = .ok (.bipush 12, 2) := by decide +kernel
theorem dX10_init_23 : decode cX10_init 23 = .ok (.newarray .int, 2) := by decide +kernel
theorem dX10_init_25 : decode cX10_init 25 = .ok (.putfield 16, 3) := by decide +kernel
theorem dX10_init_28 : decode cX10_init 28 = .ok (.aload_n 0, 1) := by decide +kernel
theorem dX10_init_29 : decode cX10_init 29 = .ok (.bipush 12, 2) := by decide +kernel
theorem dX10_init_31 : decode cX10_init 31 = .ok (.newarray .int, 2) := by decide +kernel
theorem dX10_init_33 : decode cX10_init 33 = .ok (.putfield 19, 3) := by decide +kernel
theorem dX10_init_36 : decode cX10_init 36 = .ok (.aload_n 0, 1) := by decide +kernel
theorem dX10_init_37 : decode cX10_init 37 = .ok (.bipush 12, 2) := by decide +kernel
theorem dX10_init_39 : decode cX10_init 39 = .ok (.newarray .int, 2) := by decide +kernel
theorem dX10_init_41 : decode cX10_init 41 = .ok (.putfield 22, 3) := by decide +kernel
theorem dX10_init_44 : decode cX10_init 44 = .ok (.aload_n 0, 1) := by decide +kernel
theorem dX10_init_45 : decode cX10_init 45 = .ok (.bipush 12, 2) := by decide +kernel
theorem dX10_init_47 : decode cX10_init 47 = .ok (.newarray .int, 2) := by decide +kernel
theorem dX10_init_49 : decode cX10_init 49 = .ok (.putfield 25, 3) := by decide +kernel
theorem dX10_init_52 : decode cX10_init 52 = .ok (.aload_n 0, 1) := by decide +kernel
theorem dX10_init_53 : decode cX10_init 53 = .ok (.bipush 12, 2) := by decide +kernel
theorem dX10_init_55 : decode cX10_init 55 = .ok (.newarray .int, 2) := by decide +kernel
theorem dX10_init_57 : decode cX10_init 57 = .ok (.putfield 28, 3) := by decide +kernel
theorem dX10_init_60 : decode cX10_init 60 = .ok (.aload_n 0, 1) := by decide +kernel
theorem dX10_init_61 : decode cX10_init 61 = .ok (.bipush 12, 2) := by decide +kernel
theorem dX10_init_63 : decode cX10_init 63 = .ok (.newarray .int, 2) := by decide +kernel
theorem dX10_init_65 : decode cX10_init 65 = .ok (.putfield 31, 3) := by decide +kernel
theorem dX10_init_68 : decode cX10_init 68 = .ok (.aload_n 0, 1) := by decide +kernel
theorem dX10_init_69 : decode cX10_init 69 = .ok (.bipush 16, 2) := by decide +kernel
theorem dX10_init_71 : decode cX10_init 71 = .ok (.newarray .int, 2) := by decide +kernel
theorem dX10_init_73 : decode cX10_init 73 = .ok (.putfield 34, 3) := by decide +kernel
theorem dX10_init_76 : decode cX10_init 76 = .ok (.aload_n 0, 1) := by decide +kernel
theorem dX10_init_77 : decode cX10_init 77 = .ok (.bipush 16, 2) := by decide +kernel
theorem dX10_init_79 : decode cX10_init 79 = .ok (.newarray .int, 2) := by decide +kernel
theorem dX10_init_81 : decode cX10_init 81 = .ok (.putfield 37, 3) := by decide +kernel
theorem dX10_init_84 : decode cX10_init 84 = .ok (.aload_n 0, 1) := by decide +kernel
theorem dX10_init_85 : decode cX10_init 85 = .ok (.bipush 16, 2) := by decide +kernel
theorem dX10_init_87 : decode cX10_init 87 = .ok (.newarray .int, 2) := by decide +kernel
theorem dX10_init_89 : decode cX10_init 89 = .ok (.putfield 40, 3) := by decide +kernel
theorem dX10_init_92 : decode cX10_init 92 = .ok (.aload_n 0, 1) := by decide +kernel
theorem dX10_init_93 : decode cX10_init 93 = .ok (.bipush 8, 2) := by decide +kernel
theorem dX10_init_95 : decode cX10_init 95 = .ok (.newarray .int, 2) := by decide +kernel
theorem dX10_init_97 : decode cX10_init 97 = .ok (.putfield 43, 3) := by decide +kernel
theorem dX10_init_100 : decode cX10_init 100 = .ok (.aload_n 0, 1) := by decide +kernel
theorem dX10_init_101 : decode cX10_init 101 = .ok (.bipush 8, 2) := by decide +kernel
theorem dX10_init_103 : decode cX10_init 103 = .ok (.newarray .int, 2) := by decide +kernel
theorem dX10_init_105 : decode cX10_init 105 = .ok (.putfield 46, 3) := by decide +kernel
theorem dX10_init_108 : decode cX10_init 108 = .ok (.aload_n 0, 1) := by decide +kernel
theorem dX10_init_109 : decode cX10_init 109 = .ok (.bipush 8, 2) := by decide +kernel
theorem dX10_init_111 : decode cX10_init 111 = .ok (.newarray .int, 2) := by decide +kernel
theorem dX10_init_113 : decode cX10_init 113 = .ok (.putfield 49, 3) := by decide +kernel
theorem dX10_init_116 : decode cX10_init 116 = .ok (.aload_n 0, 1) := by decide +kernel
theorem dX10_init_117 : decode cX10_init 117 = .ok (.iconst 2, 1) := by decide +kernel
theorem dX10_init_118 : decode cX10_init 118 = .ok (.putfield 52, 3) := by decide +kernel
theorem dX10_init_121 : decode cX10_init 121 = .ok (.aload_n 0, 1) := by decide +kernel
theorem dX10_init_122 : decode cX10_init 122 = .ok (.iconst (-1), 1) := by decide +kernel
theorem dX10_init_123 : decode cX10_init 123 = .ok (.putfield 56, 3) := by decide +kernel
theorem dX10_init_126 : decode cX10_init 126 = .ok (.aload_n 0, 1) := by decide +kernel
theorem dX10_init_127 : decode cX10_init 127 = .ok (.iconst (-1), 1) := by decide +kernel
theorem dX10_init_128 : decode cX10_init 128 = .ok (.putfield 59, 3) := by decide +kernel
theorem dX10_init_131 : decode cX10_init 131 = .ok (.aload_n 0, 1) := by decide +kernel
theorem dX10_init_132 : decode cX10_init 132 = .ok (.bipush 12, 2) := by decide +kernel
theorem dX10_init_134 : decode cX10_init 134 = .ok (.newarray .int, 2) := by decide +kernel
theorem dX10_init_136 : decode cX10_init 136 = .ok (.putfield 62, 3) := by decide +kernel
theorem dX10_init_139 : decode cX10_init 139 = .ok (.aload_n 0, 1) := by decide +kernel
theorem dX10_init_140 : decode cX10_init 140 = .ok (.bipush 16, 2) := by decide +kernel
theorem dX10_init_142 : decode cX10_init 142 = .ok (.newarray .int, 2) := by decide +kernel
theorem dX10_init_144 : decode cX10_init 144 = .ok (.putfield 65, 3) := by decide +kernel
theorem dX10_init_147 : decode cX10_init 147 = .ok (.aload_n 0, 1) := by decide +kernel
theorem dX10_init_148 : decode cX10_init 148 = .ok (.bipush 6, 2) := by decide +kernel
theorem dX10_init_150 : decode cX10_init 150 = .ok (.newarray .int, 2) := by decide +kernel
theorem dX10_init_152 : decode cX10_init 152 = .ok (.putfield 68, 3) := by decide +kernel
theorem dX10_init_155 : decode cX10_init 155 = .ok (.aload_n 0, 1) := by decide +kernel
theorem dX10_init_156 : decode cX10_init 156 = .ok (.sipush 384, 3) := by decide +kernel
theorem dX10_init_159 : decode cX10_init 159 = .ok (.newarray .int, 2) := by decide +kernel
theorem dX10_init_161 : decode cX10_init 161 = .ok (.putfield 71, 3) := by decide +kernel
theorem dX10_init_164 : decode cX10_init 164 = .ok (.aload_n 0, 1) := by decide +kernel
theorem dX10_init_165 : decode cX10_init 165 = .ok (.bipush 12, 2) := by decide +kernel
theorem dX10_init_167 : decode cX10_init 167 = .ok (.newarray .int, 2) := by decide +kernel
theorem dX10_init_169 : decode cX10_init 169 = .ok (.putfield 74, 3) := by decide +kernel
theorem dX10_init_172 : decode cX10_init 172 = .ok (.aload_n 0, 1) := by decide +kernel
theorem dX10_init_173 : decode cX10_init 173 = .ok (.iconst (-1), 1) := by decide +kernel
theorem dX10_init_174 : decode cX10_init 174 = .ok (.putfield 77, 3) := by decide +kernel
theorem dX10_init_177 : decode cX10_init 177 = .ok (.aload_n 0, 1) := by decide +kernel
theorem dX10_init_178 : decode cX10_init 178 = .ok (.bipush 16, 2) := by decide +kernel
theorem dX10_init_180 : decode cX10_init 180 = .ok (.newarray .int, 2) := by decide +kernel
theorem dX10_init_182 : decode cX10_init 182 = .ok (.putfield 80, 3) := by decide +kernel
theorem dX10_init_185 : decode cX10_init 185 = .ok (.aload_n 0, 1) := by decide +kernel
theorem dX10_init_186 : decode cX10_init 186 = .ok (.bipush 8, 2) := by decide +kernel
theorem dX10_init_188 : decode cX10_init 188 = .ok (.newarray .int, 2) := by decide +kernel
theorem dX10_init_190 : decode cX10_init 190 = .ok (.putfield 83, 3) := by decide +kernel
theorem dX10_init_193 : decode cX10_init 193 = .ok (.aload_n 0, 1) := by decide +kernel
theorem dX10_init_194 : decode cX10_init 194 = .ok (.bipush 8, 2) := by decide +kernel
theorem dX10_init_196 : decode cX10_init 196 = .ok (.newarray .int, 2) := by decide +kernel
theorem dX10_init_198 : decode cX10_init 198 = .ok (.putfield 86, 3) := by decide +kernel
theorem dX10_init_201 : decode cX10_init 201 = .ok (.aload_n 0, 1) := by decide +kernel
theorem dX10_init_202 : decode cX10_init 202 = .ok (.bipush 8, 2) := by decide +kernel
theorem dX10_init_204 : decode cX10_init 204 = .ok (.newarray .int, 2) := by decide +kernel
theorem dX10_init_206 : decode cX10_init 206 = .ok (.putfield 89, 3) := by decide +kernel
theorem dX10_init_209 : decode cX10_init 209 = .ok (.aload_n 0, 1) := by decide +kernel
theorem dX10_init_210 : decode cX10_init 210 = .ok (.bipush 8, 2) := by decide +kernel
theorem dX10_init_212 : decode cX10_init 212 = .ok (.newarray .int, 2) := by decide +kernel
theorem dX10_init_214 : decode cX10_init 214 = .ok (.putfield 92, 3) := by decide +kernel
theorem dX10_init_217 : decode cX10_init 217 = .ok (.aload_n 0, 1) := by decide +kernel
theorem dX10_init_218 : decode cX10_init 218 = .ok (.sipush 480, 3) := by decide +kernel
theorem dX10_init_221 : decode cX10_init 221 = .ok (.newarray .long, 2) := by decide +kernel
theorem dX10_init_223 : decode cX10_init 223 = .ok (.putfield 95, 3) := by decide +kernel
theorem dX10_init_226 : decode cX10_init 226 = .ok (.aload_n 0, 1) := by decide +kernel
theorem dX10_init_227 : decode cX10_init 227 = .ok (.bipush 60, 2) := by decide +kernel
theorem dX10_init_229 : decode cX10_init 229 = .ok (.newarray .long, 2) := by decide +kernel
theorem dX10_init_231 : decode cX10_init 231 = .ok (.putfield 99, 3) := by decide +kernel
theorem dX10_init_234 : decode cX10_init 234 = .ok (.return_, 1) := by decide +kernel
theorem dJ7_fill_53178_0 : decode cJ7_fill_53178 0 = .ok (.iconst 0, 1) := by decide +kernel
theorem dJ7_fill_53178_1 : decode cJ7_fill_53178 1 = .ok (.istore_n 2, 1) := by decide +kernel
theorem dJ7_fill_53178_2 : decode cJ7_fill_53178 2 = .ok (.aload_n 0, 1) := by decide +kernel
theorem dJ7_fill_53178_3 : decode cJ7_fill_53178 3 = .ok (.arraylength, 1) := by decide +kernel
theorem dJ7_fill_53178_4 : decode cJ7_fill_53178 4 = .ok (.istore_n 3, 1) := by decide +kernel
theorem dJ7_fill_53178_5 : decode cJ7_fill_53178 5 = .ok (.iload_n 2, 1) := by decide +kernel
theorem dJ7_fill_53178_6 : decode cJ7_fill_53178 6 = .ok (.iload_n 3, 1) := by decide +kernel
theorem dJ7_fill_53178_7 : decode cJ7_fill_53178 7 = .ok (.if_icmp .ge 13, 3) := by decide +kernel
theorem dJ7_fill_53178_10 : decode cJ7_fill_53178 10 = .ok (.aload_n 0, 1) := by decide +kernel
theorem dJ7_fill_53178_11 : decode cJ7_fill_53178 11 = .ok (.iload_n 2, 1) := by decide +kernel
theorem dJ7_fill_53178_12 : decode cJ7_fill_53178 12 = .ok (.iload_n 1, 1) := by decide +kernel
theorem dJ7_fill_53178_13 : decode cJ7_fill_53178 13 = .ok (.iastore, 1) := by decide +kernel
theorem dJ7_fill_53178_14 : decode cJ7_fill_53178 14 = .ok (.iinc 2 1, 3) := by decide +kernel
theorem dJ7_fill_53178_17 : decode cJ7_fill_53178 17 = .ok (.goto (-12), 3) := by decide +kernel
theorem dJ7_fill_53178_20 : decode cJ7_fill_53178 20 = .ok (.return_, 1) := by decide +kernel
noncomputable def mi_J7_fill_53178_5 : Nat → ab_M → Nat → Int32 → Int32 → Int32 → Option (Int32 × ab_M)
  | 0, _, _, _, _, _ => none
  | n + 1, M, t0, x1, x2, x3 =>
    if x3 ≤ x2 then
      some (x2, M)
    else
      ab_chk (vp_in x2 16) <|
      mi_J7_fill_53178_5 n (ab_pi M t0 (x2).toNatClampNeg x1) t0 x1 (x2 + 1) x3
set_option maxHeartbeats 4000000 in
set_option maxRecDepth 100000 in
theorem lp_J7_fill_53178_5 {l : Launch} {D : va_G} {ac : Nat → ClassId} {sh : ab_H} {n0 : Nat} {r : ab_Rs} : ∀ (n : Nat) (M : ab_M) (t0 : Nat) (ht0 : sh[t0]? = some (100, 16, [])) (x1 : Int32) (x2 : Int32) (x3 : Int32) (q : Int32 × ab_M) (h : mi_J7_fill_53178_5 n M t0 x1 x2 x3 = some q) (kk : ab_Ev l D ac 1 me_J7_fill_53178 n0 0 0 r 0 0 sh 20 [some (.ref t0), some (.int x1), some (.int q.1), some (.int x3)] [] q.2), ab_Ev l D ac 1 me_J7_fill_53178 n0 0 0 r 0 0 sh 5 [some (.ref t0), some (.int x1), some (.int x2), some (.int x3)] [] M := by
  intro n
  induction n with
  | zero =>
    intro M t0 ht0 x1 x2 x3 q h kk
    cases h
  | succ n ih =>
    intro M t0 ht0 x1 x2 x3 q h kk
    unfold mi_J7_fill_53178_5 at h
    refine ev_iload_n dJ7_fill_53178_5 rfl ?_
    refine ev_iload_n dJ7_fill_53178_6 rfl ?_
    refine ev_icmp_ge (t := 20) dJ7_fill_53178_7 (by decide) (fun hc1 => ?_) (fun hc1 => ?_)
    · replace h := ab_pos hc1 h
      cases h
      exact kk
    · replace h := ab_neg hc1 h
      refine ev_aload_n dJ7_fill_53178_10 rfl ?_
      refine ev_iload_n dJ7_fill_53178_11 rfl ?_
      refine ev_iload_n dJ7_fill_53178_12 rfl ?_
      obtain ⟨hb2, h⟩ := ab_chk_some h
      refine ev_iastore ht0 hb2 dJ7_fill_53178_13 ?_
      refine ev_iinc (y := x2 + 1) dJ7_fill_53178_14 rfl (by first | rfl | decide) rfl rfl ?_
      refine ev_goto (t := 5) dJ7_fill_53178_17 (by decide) ?_
      exact ih (ab_pi M t0 (x2).toNatClampNeg x1) t0 ht0 x1 (x2 + 1) x3 _ h kk
noncomputable def mi_J7_fill_53178 (M : ab_M) (t0 : Nat) (x1 : Int32) : Option (ab_M) :=
  (mi_J7_fill_53178_5 ab_F M t0 x1 0 16).bind fun q3 =>
  some q3.2
set_option maxHeartbeats 4000000 in
set_option maxRecDepth 100000 in
theorem co_fill16 {l : Launch} {D : va_G} {ac : Nat → ClassId} {sh : ab_H} (M : ab_M) (t0 : Nat) (ht0 : sh[t0]? = some (100, 16, [])) (x1 : Int32) (z : ab_M) (h : mi_J7_fill_53178 M t0 x1 = some z) : ab_Con l D ac 1 me_J7_fill_53178 0 0 [.ref t0, .int x1] sh M (none, sh, z) := by
  refine ab_intro (lv := [some (.ref t0), some (.int x1), none, none]) (by decide) rfl (Nat.le_of_ble_eq_true rfl) rfl ?_
  unfold mi_J7_fill_53178 at h
  refine ev_iconst (x := 0) dJ7_fill_53178_0 (by decide) ?_
  refine ev_istore_n dJ7_fill_53178_1 (Nat.le_of_ble_eq_true rfl) rfl rfl ?_
  refine ev_aload_n dJ7_fill_53178_2 rfl ?_
  refine ev_alen (x := 16) ht0 (by decide) (by decide) dJ7_fill_53178_3 ?_
  refine ev_istore_n dJ7_fill_53178_4 (Nat.le_of_ble_eq_true rfl) rfl rfl ?_
  obtain ⟨q3, hq4, h⟩ := ab_bind h
  refine lp_J7_fill_53178_5 _ M t0 ht0 x1 0 16 _ hq4 ?_
  cases h
  exact ev_return rfl dJ7_fill_53178_20
def ab_fl (M : ab_M) (t : Nat) (v : Int32) : ab_M := (fun a b => if a = t ∧ b < 16 then v else M.1 a b, M.2)
theorem ab_z_fl {M : ab_M} {n o : Nat} {v : Int32} (h : ab_z M n) (ho : o < n) : ab_z (ab_fl M o v) n := fun i hi b => ⟨by
  show (if i = o ∧ b < 16 then v else M.1 i b) = 0
  rw [if_neg (fun q => by omega)]
  exact (h i hi b).1, (h i hi b).2⟩
theorem fill_loop (v : Int32) (t : Nat) : ∀ (k : Nat) (M : ab_M) (j n : Nat), j + k = 16 → k < n → mi_J7_fill_53178_5 n M t v (nI j) 16 = some (16, (fun a b => if a = t ∧ j ≤ b ∧ b < 16 then v else M.1 a b, M.2)) := by
  intro k
  induction k with
  | zero =>
    intro M j n hj hn
    obtain ⟨m, rfl⟩ : ∃ m, n = m + 1 := ⟨n - 1, by omega⟩
    obtain rfl : j = 16 := by omega
    unfold mi_J7_fill_53178_5
    rw [if_pos (by decide : (16 : Int32) ≤ nI 16), show nI 16 = (16 : Int32) from rfl]
    refine congrArg (fun z => some ((16 : Int32), z)) (Prod.ext (funext fun a => funext fun b => ?_) rfl)
    show M.1 a b = if a = t ∧ 16 ≤ b ∧ b < 16 then v else M.1 a b
    rw [if_neg (fun q => by omega)]
  | succ k ih =>
    intro M j n hj hn
    obtain ⟨m, rfl⟩ : ∃ m, n = m + 1 := ⟨n - 1, by omega⟩
    unfold mi_J7_fill_53178_5
    rw [if_neg (show ¬ (16 : Int32) ≤ nI j from nI_ge (by omega : j < 16) (by decide)), ab_chk_pos (vp_in_nI (by omega) (by decide)), nI_1, nI_clamp (by omega), ih _ (j + 1) m (by omega) (by omega)]
    congr 3
    funext a b
    show (if a = t ∧ j + 1 ≤ b ∧ b < 16 then v else if a = t ∧ b = j then v else M.1 a b) = _
    by_cases h1 : a = t ∧ j ≤ b ∧ b < 16
    · rw [if_pos h1]
      by_cases h2 : a = t ∧ j + 1 ≤ b ∧ b < 16
      · rw [if_pos h2]
      · rw [if_neg h2, if_pos ⟨h1.1, by omega⟩]
    · rw [if_neg h1, if_neg (fun q => by omega), if_neg (fun q => by omega)]
theorem mi_fill16 (M : ab_M) (t : Nat) (v : Int32) : mi_J7_fill_53178 M t v = some (ab_fl M t v) := by
  unfold mi_J7_fill_53178
  have h := fill_loop v t 16 M 0 ab_F (by omega) (by unfold ab_F; omega)
  rw [show nI 0 = (0 : Int32) from rfl] at h
  rw [h]
  refine congrArg some (Prod.ext (funext fun a => funext fun b => ?_) rfl)
  show (if a = t ∧ 0 ≤ b ∧ b < 16 then v else M.1 a b) = if a = t ∧ b < 16 then v else M.1 a b
  simp
