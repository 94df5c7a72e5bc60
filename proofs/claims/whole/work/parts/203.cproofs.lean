set_option maxHeartbeats 4000000 in
set_option maxRecDepth 100000 in
theorem ci_3 {l : Launch} {D : va_G} {ac : Nat → ClassId} : ab_Con l D ac 1 me_X7_init 3 24 [.ref 5] cs_8 cm_0 (none, cs_14, cm_0) := by
  refine ab_intro (lv := [some (.ref 5)]) (by decide) rfl (Nat.le_of_ble_eq_true rfl) rfl ?_
  refine ev_aload_n dX7_init_0 rfl ?_
  refine ev_objInit ml_RX7_3 gO_i gO_c dX7_init_1 (by decide) (by decide) ?_
  refine ev_aload_n dX7_init_4 rfl ?_
  refine ev_bipush (x := 8) dX7_init_5 (by decide) ?_
  refine ev_newai (N := 8) (sh1 := cs_9) gA_int (by decide) (by decide) (by decide) cc_8 (ab_z_up cz_0 (by decide +kernel)) rfl (by decide +kernel) (by decide +kernel) (by decide +kernel) (by decide +kernel) (by decide) (by decide) dX7_init_7 ?_
  refine ev_nmr cl_8 ?_
  refine ev_putr (sh1 := cs_10) fp_RX7_9 (by decide +kernel : cs_9[5]? = some (7, 4, [none, none, none, none])) (by decide) (by decide) (by decide) rfl rfl (fun _ => rfl) (fun _ => rfl) (by decide +kernel) dX7_init_9 ?_
  refine ev_aload_n dX7_init_12 rfl ?_
  refine ev_bipush (x := 8) dX7_init_13 (by decide) ?_
  refine ev_newai (N := 8) (sh1 := cs_11) gA_int (by decide) (by decide) (by decide) cc_10 (ab_z_up cz_0 (by decide +kernel)) rfl (by decide +kernel) (by decide +kernel) (by decide +kernel) (by decide +kernel) (by decide) (by decide) dX7_init_15 ?_
  refine ev_nmr cl_10 ?_
  refine ev_putr (sh1 := cs_12) fp_RX7_15 (by decide +kernel : cs_11[5]? = some (7, 4, [some 6, none, none, none])) (by decide) (by decide) (by decide) rfl rfl (fun _ => rfl) (fun _ => rfl) (by decide +kernel) dX7_init_17 ?_
  refine ev_aload_n dX7_init_20 rfl ?_
  refine ev_bipush (x := 8) dX7_init_21 (by decide) ?_
  refine ev_newai (N := 8) (sh1 := cs_13) gA_int (by decide) (by decide) (by decide) cc_12 (ab_z_up cz_0 (by decide +kernel)) rfl (by decide +kernel) (by decide +kernel) (by decide +kernel) (by decide +kernel) (by decide) (by decide) dX7_init_23 ?_
  refine ev_nmr cl_12 ?_
  refine ev_putr (sh1 := cs_14) fp_RX7_18 (by decide +kernel : cs_13[5]? = some (7, 4, [some 6, some 7, none, none])) (by decide) (by decide) (by decide) rfl rfl (fun _ => rfl) (fun _ => rfl) (by decide +kernel) dX7_init_25 ?_
  exact ev_return rfl dX7_init_28
set_option maxHeartbeats 4000000 in
set_option maxRecDepth 100000 in
theorem ci_4 {l : Launch} {D : va_G} {ac : Nat → ClassId} : ab_Con l D ac 1 me_X1_init 0 0 [.ref 9] cs_16 cm_0 (none, cs_16, cm_1) := by
  refine ab_intro (lv := [some (.ref 9)]) (by decide) rfl (Nat.le_of_ble_eq_true rfl) rfl ?_
  refine ev_aload_n dX1_init_0 rfl ?_
  refine ev_objInit ml_RX1_3 gO_i gO_c dX1_init_1 (by decide) (by decide) ?_
  refine ev_aload_n dX1_init_4 rfl ?_
  refine ev_iconst (x := (-1)) dX1_init_5 (by decide) ?_
  refine ev_puti fl_RX1_9 (by decide +kernel : cs_16[9]? = some (1, 4, [none, none, none, none])) (by decide) (by decide) rfl rfl rfl dX1_init_6 ?_
  exact ev_return rfl dX1_init_9
set_option maxHeartbeats 4000000 in
set_option maxRecDepth 100000 in
theorem ci_5 {l : Launch} {D : va_G} {ac : Nat → ClassId} : ab_Con l D ac 1 me_X4_init 0 0 [.ref 12] cs_22 cm_3 (none, cs_22, cm_3) := by
  refine ab_intro (lv := [some (.ref 12)]) (by decide) rfl (Nat.le_of_ble_eq_true rfl) rfl ?_
  refine ev_aload_n dX4_init_0 rfl ?_
  refine ev_objInit ml_RX4_3 gO_i gO_c dX4_init_1 (by decide) (by decide) ?_
  exact ev_return rfl dX4_init_4
set_option maxHeartbeats 4000000 in
set_option maxRecDepth 100000 in
theorem ci_6 {l : Launch} {D : va_G} {ac : Nat → ClassId} : ab_Con l D ac 1 me_X4_init 0 0 [.ref 13] cs_24 cm_3 (none, cs_24, cm_3) := by
  refine ab_intro (lv := [some (.ref 13)]) (by decide) rfl (Nat.le_of_ble_eq_true rfl) rfl ?_
  refine ev_aload_n dX4_init_0 rfl ?_
  refine ev_objInit ml_RX4_3 gO_i gO_c dX4_init_1 (by decide) (by decide) ?_
  exact ev_return rfl dX4_init_4
set_option maxHeartbeats 4000000 in
set_option maxRecDepth 100000 in
theorem ci_7 {l : Launch} {D : va_G} {ac : Nat → ClassId} : ab_Con l D ac 1 me_X4_init 0 0 [.ref 14] cs_26 cm_3 (none, cs_26, cm_3) := by
  refine ab_intro (lv := [some (.ref 14)]) (by decide) rfl (Nat.le_of_ble_eq_true rfl) rfl ?_
  refine ev_aload_n dX4_init_0 rfl ?_
  refine ev_objInit ml_RX4_3 gO_i gO_c dX4_init_1 (by decide) (by decide) ?_
  exact ev_return rfl dX4_init_4
set_option maxHeartbeats 4000000 in
set_option maxRecDepth 100000 in
theorem ci_8 {l : Launch} {D : va_G} {ac : Nat → ClassId} : ab_Con l D ac 1 me_X4_init 0 0 [.ref 15] cs_28 cm_3 (none, cs_28, cm_3) := by
  refine ab_intro (lv := [some (.ref 15)]) (by decide) rfl (Nat.le_of_ble_eq_true rfl) rfl ?_
  refine ev_aload_n dX4_init_0 rfl ?_
  refine ev_objInit ml_RX4_3 gO_i gO_c dX4_init_1 (by decide) (by decide) ?_
  exact ev_return rfl dX4_init_4
set_option maxHeartbeats 4000000 in
set_option maxRecDepth 100000 in
theorem ci_9 {l : Launch} {D : va_G} {ac : Nat → ClassId} : ab_Con l D ac 1 me_X4_init 0 0 [.ref 16] cs_30 cm_3 (none, cs_30, cm_3) := by
  refine ab_intro (lv := [some (.ref 16)]) (by decide) rfl (Nat.le_of_ble_eq_true rfl) rfl ?_
  refine ev_aload_n dX4_init_0 rfl ?_
  refine ev_objInit ml_RX4_3 gO_i gO_c dX4_init_1 (by decide) (by decide) ?_
  exact ev_return rfl dX4_init_4
set_option maxHeartbeats 4000000 in
set_option maxRecDepth 100000 in
theorem ci_10 {l : Launch} {D : va_G} {ac : Nat → ClassId} : ab_Con l D ac 1 me_X4_init 0 0 [.ref 17] cs_32 cm_3 (none, cs_32, cm_3) := by
  refine ab_intro (lv := [some (.ref 17)]) (by decide) rfl (Nat.le_of_ble_eq_true rfl) rfl ?_
  refine ev_aload_n dX4_init_0 rfl ?_
  refine ev_objInit ml_RX4_3 gO_i gO_c dX4_init_1 (by decide) (by decide) ?_
  exact ev_return rfl dX4_init_4
set_option maxHeartbeats 4000000 in
set_option maxRecDepth 100000 in
theorem ci_11 {l : Launch} {D : va_G} {ac : Nat → ClassId} : ab_Con l D ac 1 me_X4_init 0 0 [.ref 18] cs_34 cm_3 (none, cs_34, cm_3) := by
  refine ab_intro (lv := [some (.ref 18)]) (by decide) rfl (Nat.le_of_ble_eq_true rfl) rfl ?_
  refine ev_aload_n dX4_init_0 rfl ?_
  refine ev_objInit ml_RX4_3 gO_i gO_c dX4_init_1 (by decide) (by decide) ?_
  exact ev_return rfl dX4_init_4
set_option maxHeartbeats 4000000 in
set_option maxRecDepth 100000 in
theorem ci_12 {l : Launch} {D : va_G} {ac : Nat → ClassId} : ab_Con l D ac 1 me_X4_init 0 0 [.ref 19] cs_36 cm_3 (none, cs_36, cm_3) := by
  refine ab_intro (lv := [some (.ref 19)]) (by decide) rfl (Nat.le_of_ble_eq_true rfl) rfl ?_
  refine ev_aload_n dX4_init_0 rfl ?_
  refine ev_objInit ml_RX4_3 gO_i gO_c dX4_init_1 (by decide) (by decide) ?_
  exact ev_return rfl dX4_init_4
set_option maxHeartbeats 4000000 in
set_option maxRecDepth 100000 in
theorem ci_13 {l : Launch} {D : va_G} {ac : Nat → ClassId} : ab_Con l D ac 1 me_X4_init 0 0 [.ref 20] cs_38 cm_3 (none, cs_38, cm_3) := by
  refine ab_intro (lv := [some (.ref 20)]) (by decide) rfl (Nat.le_of_ble_eq_true rfl) rfl ?_
  refine ev_aload_n dX4_init_0 rfl ?_
  refine ev_objInit ml_RX4_3 gO_i gO_c dX4_init_1 (by decide) (by decide) ?_
  exact ev_return rfl dX4_init_4
set_option maxHeartbeats 4000000 in
set_option maxRecDepth 100000 in
theorem ci_14 {l : Launch} {D : va_G} {ac : Nat → ClassId} : ab_Con l D ac 1 me_X4_init 0 0 [.ref 21] cs_40 cm_3 (none, cs_40, cm_3) := by
  refine ab_intro (lv := [some (.ref 21)]) (by decide) rfl (Nat.le_of_ble_eq_true rfl) rfl ?_
  refine ev_aload_n dX4_init_0 rfl ?_
  refine ev_objInit ml_RX4_3 gO_i gO_c dX4_init_1 (by decide) (by decide) ?_
  exact ev_return rfl dX4_init_4
set_option maxHeartbeats 4000000 in
set_option maxRecDepth 100000 in
theorem ci_15 {l : Launch} {D : va_G} {ac : Nat → ClassId} : ab_Con l D ac 1 me_X4_init 0 0 [.ref 22] cs_42 cm_3 (none, cs_42, cm_3) := by
  refine ab_intro (lv := [some (.ref 22)]) (by decide) rfl (Nat.le_of_ble_eq_true rfl) rfl ?_
  refine ev_aload_n dX4_init_0 rfl ?_
  refine ev_objInit ml_RX4_3 gO_i gO_c dX4_init_1 (by decide) (by decide) ?_
  exact ev_return rfl dX4_init_4
set_option maxHeartbeats 4000000 in
set_option maxRecDepth 100000 in
theorem ci_16 {l : Launch} {D : va_G} {ac : Nat → ClassId} : ab_Con l D ac 1 me_X4_init 0 0 [.ref 23] cs_44 cm_3 (none, cs_44, cm_3) := by
  refine ab_intro (lv := [some (.ref 23)]) (by decide) rfl (Nat.le_of_ble_eq_true rfl) rfl ?_
  refine ev_aload_n dX4_init_0 rfl ?_
  refine ev_objInit ml_RX4_3 gO_i gO_c dX4_init_1 (by decide) (by decide) ?_
  exact ev_return rfl dX4_init_4
set_option maxHeartbeats 4000000 in
set_option maxRecDepth 100000 in
theorem ci_2 {l : Launch} {D : va_G} {ac : Nat → ClassId} : ab_Con l D ac 2 me_X3_init 22 340 [.ref 1] cs_1 cm_0 (none, cs_45, cm_4) := by
  refine ab_intro (lv := [some (.ref 1), none]) (by decide) rfl (Nat.le_of_ble_eq_true rfl) rfl ?_
  refine ev_aload_n dX3_init_0 rfl ?_
  refine ev_objInit ml_RX3_3 gO_i gO_c dX3_init_1 (by decide) (by decide) ?_
  refine ev_aload_n dX3_init_4 rfl ?_
  refine ev_bipush (x := 12) dX3_init_5 (by decide) ?_
  refine ev_newaq (N := 12) (sh1 := cs_2) (Or.inl ⟨rfl, rfl⟩) cK_RX3_9 (by decide) (by decide) (by decide) cc_1 rfl (by decide +kernel) (by decide +kernel) (by decide +kernel) (by decide +kernel) (by decide) (by decide) dX3_init_7 ?_
  refine ev_nmr cl_1 ?_
  refine ev_putr (sh1 := cs_3) fp_RX3_11 (by decide +kernel : cs_2[1]? = some (3, 11, [none, none, none, none, none, none, none, none, none, none, none])) (by decide) (by decide) (by decide) rfl rfl (fun _ => rfl) (fun _ => rfl) (by decide +kernel) dX3_init_10 ?_
  refine ev_aload_n dX3_init_13 rfl ?_
  refine ev_bipush (x := 16) dX3_init_14 (by decide) ?_
  refine ev_newai (N := 16) (sh1 := cs_4) gA_int (by decide) (by decide) (by decide) cc_3 (ab_z_up cz_0 (by decide +kernel)) rfl (by decide +kernel) (by decide +kernel) (by decide +kernel) (by decide +kernel) (by decide) (by decide) dX3_init_16 ?_
  refine ev_nmr cl_3 ?_
  refine ev_putr (sh1 := cs_5) fp_RX3_17 (by decide +kernel : cs_4[1]? = some (3, 11, [some 2, none, none, none, none, none, none, none, none, none, none])) (by decide) (by decide) (by decide) rfl rfl (fun _ => rfl) (fun _ => rfl) (by decide +kernel) dX3_init_18 ?_
  refine ev_aload_n dX3_init_21 rfl ?_
  refine ev_bipush (x := 16) dX3_init_22 (by decide) ?_
  refine ev_newai (N := 16) (sh1 := cs_6) gA_int (by decide) (by decide) (by decide) cc_5 (ab_z_up cz_0 (by decide +kernel)) rfl (by decide +kernel) (by decide +kernel) (by decide +kernel) (by decide +kernel) (by decide) (by decide) dX3_init_24 ?_
  refine ev_nmr cl_5 ?_
  refine ev_putr (sh1 := cs_7) fp_RX3_21 (by decide +kernel : cs_6[1]? = some (3, 11, [some 2, some 3, none, none, none, none, none, none, none, none, none])) (by decide) (by decide) (by decide) rfl rfl (fun _ => rfl) (fun _ => rfl) (by decide +kernel) dX3_init_26 ?_
  refine ev_aload_n dX3_init_29 rfl ?_
  refine ev_new (sh1 := cs_8) nc_RX3_24 cc_7 (ab_z_up cz_0 (by decide +kernel)) rfl (by decide +kernel) (by decide +kernel) (by decide +kernel) (by decide +kernel) (by decide) (by decide) dX3_init_30 ?_
  refine ev_nmr cl_7 ?_
  refine ev_dup dX3_init_33 rfl ?_
  refine ev_callI (st := [.ref 5, .ref 1]) (sh1 := cs_14) ci_3 mi_X7_init_i (Or.inr ⟨_, ml_RX3_26⟩) dX3_init_34 (by decide) rfl (by decide) ⟨by decide, by decide⟩ (by decide +kernel) (by decide +kernel) (by decide +kernel) (by decide +kernel) ?_
  refine ev_putr (sh1 := cs_15) fp_RX3_27 (by decide +kernel : cs_14[1]? = some (3, 11, [some 2, some 3, some 4, none, none, none, none, none, none, none, none])) (by decide) (by decide) (by decide) rfl rfl (fun _ => rfl) (fun _ => rfl) (by decide +kernel) dX3_init_37 ?_
  refine ev_aload_n dX3_init_40 rfl ?_
  refine ev_new (sh1 := cs_16) nc_RX3_31 cc_15 (ab_z_up cz_0 (by decide +kernel)) rfl (by decide +kernel) (by decide +kernel) (by decide +kernel) (by decide +kernel) (by decide) (by decide) dX3_init_41 ?_
  refine ev_nmr cl_15 ?_
  refine ev_dup dX3_init_44 rfl ?_
  refine ev_callI (st := [.ref 9, .ref 1]) (sh1 := cs_16) ci_4 mi_X1_init_i (Or.inr ⟨_, ml_RX3_33⟩) dX3_init_45 (by decide) rfl (by decide) ⟨by decide, by decide⟩ (by decide +kernel) (by decide +kernel) (by decide +kernel) (by decide +kernel) ?_
  refine ev_putr (sh1 := cs_17) fp_RX3_34 (by decide +kernel : cs_16[1]? = some (3, 11, [some 2, some 3, some 4, some 5, none, none, none, none, none, none, none])) (by decide) (by decide) (by decide) rfl rfl (fun _ => rfl) (fun _ => rfl) (by decide +kernel) dX3_init_48 ?_
  refine ev_aload_n dX3_init_51 rfl ?_
  refine ev_sipush (x := 144) dX3_init_52 (by decide) ?_
  refine ev_newai (N := 144) (sh1 := cs_18) gA_int (by decide) (by decide) (by decide) cc_17 (ab_z_up cz_1 (by decide +kernel)) rfl (by decide +kernel) (by decide +kernel) (by decide +kernel) (by decide +kernel) (by decide) (by decide) dX3_init_55 ?_
  refine ev_nmr cl_17 ?_
  refine ev_putr (sh1 := cs_19) fp_RX3_38 (by decide +kernel : cs_18[1]? = some (3, 11, [some 2, some 3, some 4, some 5, some 9, none, none, none, none, none, none])) (by decide) (by decide) (by decide) rfl rfl (fun _ => rfl) (fun _ => rfl) (by decide +kernel) dX3_init_57 ?_
  refine ev_aload_n dX3_init_60 rfl ?_
  refine ev_bipush (x := 12) dX3_init_61 (by decide) ?_
  refine ev_newai (N := 12) (sh1 := cs_20) gA_int (by decide) (by decide) (by decide) cc_19 (ab_z_up cz_1 (by decide +kernel)) rfl (by decide +kernel) (by decide +kernel) (by decide +kernel) (by decide +kernel) (by decide) (by decide) dX3_init_63 ?_
  refine ev_nmr cl_19 ?_
  refine ev_putr (sh1 := cs_21) fp_RX3_41 (by decide +kernel : cs_20[1]? = some (3, 11, [some 2, some 3, some 4, some 5, some 9, some 10, none, none, none, none, none])) (by decide) (by decide) (by decide) rfl rfl (fun _ => rfl) (fun _ => rfl) (by decide +kernel) dX3_init_65 ?_
  refine ev_aload_n dX3_init_68 rfl ?_
  refine ev_iconst (x := 2) dX3_init_69 (by decide) ?_
  refine ev_puti fl_RX3_44 (by decide +kernel : cs_21[1]? = some (3, 11, [some 2, some 3, some 4, some 5, some 9, some 10, some 11, none, none, none, none])) (by decide) (by decide) rfl rfl rfl dX3_init_70 ?_
  refine ev_aload_n dX3_init_73 rfl ?_
  refine ev_iconst (x := (-1)) dX3_init_74 (by decide) ?_
  refine ev_puti fl_RX3_48 (by decide +kernel : cs_21[1]? = some (3, 11, [some 2, some 3, some 4, some 5, some 9, some 10, some 11, none, none, none, none])) (by decide) (by decide) rfl rfl rfl dX3_init_75 ?_
  refine ev_iconst (x := 0) dX3_init_78 (by decide) ?_
  refine ev_istore_n dX3_init_79 (Nat.le_of_ble_eq_true rfl) rfl rfl ?_
  refine ev_iload_n dX3_init_80 rfl ?_
  refine ev_bipush (x := 12) dX3_init_81 (by decide) ?_
  refine ev_icmp_ge (t := 105) dX3_init_83 (by decide) (fun hc => absurd hc (by decide)) (fun _ => ?_)
  refine ev_aload_n dX3_init_86 rfl ?_
  refine ev_getr (o' := 2) fl_RX3_11 (by decide +kernel : cs_21[1]? = some (3, 11, [some 2, some 3, some 4, some 5, some 9, some 10, some 11, none, none, none, none])) (by decide) (by decide) rfl rfl dX3_init_87 ?_
  refine ev_iload_n dX3_init_90 rfl ?_
  refine ev_new (sh1 := cs_22) nc_RX3_9 cc_21 (ab_z_up cz_3 (by decide +kernel)) rfl (by decide +kernel) (by decide +kernel) (by decide +kernel) (by decide +kernel) (by decide) (by decide) dX3_init_91 ?_
  refine ev_nmr cl_21 ?_
  refine ev_dup dX3_init_94 rfl ?_
  refine ev_callI (st := [.ref 12, .int 0, .ref 2]) (sh1 := cs_22) ci_5 mi_X4_init_i (Or.inr ⟨_, ml_RX3_51⟩) dX3_init_95 (by decide) rfl (by decide) ⟨by decide, by decide⟩ (by decide +kernel) (by decide +kernel) (by decide +kernel) (by decide +kernel) ?_
  refine ev_aastore (sh1 := cs_23) (by decide +kernel : cs_22[2]? = some (103, 12, [none, none, none, none, none, none, none, none, none, none, none, none])) (by decide +kernel : cs_22[12]? = some (4, 9, [none, none, none, none, none, none, none, none, none])) (by decide) (Or.inl ⟨rfl, rfl⟩) rfl (by unfold vp_in; decide) (by decide) (by decide +kernel) dX3_init_98 ?_
  refine ev_iinc (y := 1) dX3_init_99 rfl (by decide) rfl rfl ?_
  refine ev_goto (t := 80) dX3_init_102 (by decide) ?_
  refine ev_iload_n dX3_init_80 rfl ?_
  refine ev_bipush (x := 12) dX3_init_81 (by decide) ?_
  refine ev_icmp_ge (t := 105) dX3_init_83 (by decide) (fun hc => absurd hc (by decide)) (fun _ => ?_)
  refine ev_aload_n dX3_init_86 rfl ?_
  refine ev_getr (o' := 2) fl_RX3_11 (by decide +kernel : cs_23[1]? = some (3, 11, [some 2, some 3, some 4, some 5, some 9, some 10, some 11, none, none, none, none])) (by decide) (by decide) rfl rfl dX3_init_87 ?_
  refine ev_iload_n dX3_init_90 rfl ?_
  refine ev_new (sh1 := cs_24) nc_RX3_9 cc_23 (ab_z_up cz_3 (by decide +kernel)) rfl (by decide +kernel) (by decide +kernel) (by decide +kernel) (by decide +kernel) (by decide) (by decide) dX3_init_91 ?_
  refine ev_nmr cl_23 ?_
  refine ev_dup dX3_init_94 rfl ?_
  refine ev_callI (st := [.ref 13, .int 1, .ref 2]) (sh1 := cs_24) ci_6 mi_X4_init_i (Or.inr ⟨_, ml_RX3_51⟩) dX3_init_95 (by decide) rfl (by decide) ⟨by decide, by decide⟩ (by decide +kernel) (by decide +kernel) (by decide +kernel) (by decide +kernel) ?_
  refine ev_aastore (sh1 := cs_25) (by decide +kernel : cs_24[2]? = some (103, 12, [some 12, none, none, none, none, none, none, none, none, none, none, none])) (by decide +kernel : cs_24[13]? = some (4, 9, [none, none, none, none, none, none, none, none, none])) (by decide) (Or.inl ⟨rfl, rfl⟩) rfl (by unfold vp_in; decide) (by decide) (by decide +kernel) dX3_init_98 ?_
  refine ev_iinc (y := 2) dX3_init_99 rfl (by decide) rfl rfl ?_
  refine ev_goto (t := 80) dX3_init_102 (by decide) ?_
  refine ev_iload_n dX3_init_80 rfl ?_
  refine ev_bipush (x := 12) dX3_init_81 (by decide) ?_
  refine ev_icmp_ge (t := 105) dX3_init_83 (by decide) (fun hc => absurd hc (by decide)) (fun _ => ?_)
  refine ev_aload_n dX3_init_86 rfl ?_
  refine ev_getr (o' := 2) fl_RX3_11 (by decide +kernel : cs_25[1]? = some (3, 11, [some 2, some 3, some 4, some 5, some 9, some 10, some 11, none, none, none, none])) (by decide) (by decide) rfl rfl dX3_init_87 ?_
  refine ev_iload_n dX3_init_90 rfl ?_
  refine ev_new (sh1 := cs_26) nc_RX3_9 cc_25 (ab_z_up cz_3 (by decide +kernel)) rfl (by decide +kernel) (by decide +kernel) (by decide +kernel) (by decide +kernel) (by decide) (by decide) dX3_init_91 ?_
  refine ev_nmr cl_25 ?_
  refine ev_dup dX3_init_94 rfl ?_
  refine ev_callI (st := [.ref 14, .int 2, .ref 2]) (sh1 := cs_26) ci_7 mi_X4_init_i (Or.inr ⟨_, ml_RX3_51⟩) dX3_init_95 (by decide) rfl (by decide) ⟨by decide, by decide⟩ (by decide +kernel) (by decide +kernel) (by decide +kernel) (by decide +kernel) ?_
  refine ev_aastore (sh1 := cs_27) (by decide +kernel : cs_26[2]? = some (103, 12, [some 12, some 13, none, none, none, none, none, none, none, none, none, none])) (by decide +kernel : cs_26[14]? = some (4, 9, [none, none, none, none, none, none, none, none, none])) (by decide) (Or.inl ⟨rfl, rfl⟩) rfl (by unfold vp_in; decide) (by decide) (by decide +kernel) dX3_init_98 ?_
  refine ev_iinc (y := 3) dX3_init_99 rfl (by decide) rfl rfl ?_
  refine ev_goto (t := 80) dX3_init_102 (by decide) ?_
  refine ev_iload_n dX3_init_80 rfl ?_
  refine ev_bipush (x := 12) dX3_init_81 (by decide) ?_
  refine ev_icmp_ge (t := 105) dX3_init_83 (by decide) (fun hc => absurd hc (by decide)) (fun _ => ?_)
  refine ev_aload_n dX3_init_86 rfl ?_
  refine ev_getr (o' := 2) fl_RX3_11 (by decide +kernel : cs_27[1]? = some (3, 11, [some 2, some 3, some 4, some 5, some 9, some 10, some 11, none, none, none, none])) (by decide) (by decide) rfl rfl dX3_init_87 ?_
  refine ev_iload_n dX3_init_90 rfl ?_
  refine ev_new (sh1 := cs_28) nc_RX3_9 cc_27 (ab_z_up cz_3 (by decide +kernel)) rfl (by decide +kernel) (by decide +kernel) (by decide +kernel) (by decide +kernel) (by decide) (by decide) dX3_init_91 ?_
  refine ev_nmr cl_27 ?_
  refine ev_dup dX3_init_94 rfl ?_
  refine ev_callI (st := [.ref 15, .int 3, .ref 2]) (sh1 := cs_28) ci_8 mi_X4_init_i (Or.inr ⟨_, ml_RX3_51⟩) dX3_init_95 (by decide) rfl (by decide) ⟨by decide, by decide⟩ (by decide +kernel) (by decide +kernel) (by decide +kernel) (by decide +kernel) ?_
  refine ev_aastore (sh1 := cs_29) (by decide +kernel : cs_28[2]? = some (103, 12, [some 12, some 13, some 14, none, none, none, none, none, none, none, none, none])) (by decide +kernel : cs_28[15]? = some (4, 9, [none, none, none, none, none, none, none, none, none])) (by decide) (Or.inl ⟨rfl, rfl⟩) rfl (by unfold vp_in; decide) (by decide) (by decide +kernel) dX3_init_98 ?_
  refine ev_iinc (y := 4) dX3_init_99 rfl (by decide) rfl rfl ?_
  refine ev_goto (t := 80) dX3_init_102 (by decide) ?_
  refine ev_iload_n dX3_init_80 rfl ?_
  refine ev_bipush (x := 12) dX3_init_81 (by decide) ?_
  refine ev_icmp_ge (t := 105) dX3_init_83 (by decide) (fun hc => absurd hc (by decide)) (fun _ => ?_)
  refine ev_aload_n dX3_init_86 rfl ?_
  refine ev_getr (o' := 2) fl_RX3_11 (by decide +kernel : cs_29[1]? = some (3, 11, [some 2, some 3, some 4, some 5, some 9, some 10, some 11, none, none, none, none])) (by decide) (by decide) rfl rfl dX3_init_87 ?_
  refine ev_iload_n dX3_init_90 rfl ?_
  refine ev_new (sh1 := cs_30) nc_RX3_9 cc_29 (ab_z_up cz_3 (by decide +kernel)) rfl (by decide +kernel) (by decide +kernel) (by decide +kernel) (by decide +kernel) (by decide) (by decide) dX3_init_91 ?_
  refine ev_nmr cl_29 ?_
  refine ev_dup dX3_init_94 rfl ?_
  refine ev_callI (st := [.ref 16, .int 4, .ref 2]) (sh1 := cs_30) ci_9 mi_X4_init_i (Or.inr ⟨_, ml_RX3_51⟩) dX3_init_95 (by decide) rfl (by decide) ⟨by decide, by decide⟩ (by decide +kernel) (by decide +kernel) (by decide +kernel) (by decide +kernel) ?_
  refine ev_aastore (sh1 := cs_31) (by decide +kernel : cs_30[2]? = some (103, 12, [some 12, some 13, some 14, some 15, none, none, none, none, none, none, none, none])) (by decide +kernel : cs_30[16]? = some (4, 9, [none, none, none, none, none, none, none, none, none])) (by decide) (Or.inl ⟨rfl, rfl⟩) rfl (by unfold vp_in; decide) (by decide) (by decide +kernel) dX3_init_98 ?_
  refine ev_iinc (y := 5) dX3_init_99 rfl (by decide) rfl rfl ?_
  refine ev_goto (t := 80) dX3_init_102 (by decide) ?_
  refine ev_iload_n dX3_init_80 rfl ?_
  refine ev_bipush (x := 12) dX3_init_81 (by decide) ?_
  refine ev_icmp_ge (t := 105) dX3_init_83 (by decide) (fun hc => absurd hc (by decide)) (fun _ => ?_)
  refine ev_aload_n dX3_init_86 rfl ?_
  refine ev_getr (o' := 2) fl_RX3_11 (by decide +kernel : cs_31[1]? = some (3, 11, [some 2, some 3, some 4, some 5, some 9, some 10, some 11, none, none, none, none])) (by decide) (by decide) rfl rfl dX3_init_87 ?_
  refine ev_iload_n dX3_init_90 rfl ?_
  refine ev_new (sh1 := cs_32) nc_RX3_9 cc_31 (ab_z_up cz_3 (by decide +kernel)) rfl (by decide +kernel) (by decide +kernel) (by decide +kernel) (by decide +kernel) (by decide) (by decide) dX3_init_91 ?_
  refine ev_nmr cl_31 ?_
  refine ev_dup dX3_init_94 rfl ?_
  refine ev_callI (st := [.ref 17, .int 5, .ref 2]) (sh1 := cs_32) ci_10 mi_X4_init_i (Or.inr ⟨_, ml_RX3_51⟩) dX3_init_95 (by decide) rfl (by decide) ⟨by decide, by decide⟩ (by decide +kernel) (by decide +kernel) (by decide +kernel) (by decide +kernel) ?_
  refine ev_aastore (sh1 := cs_33) (by decide +kernel : cs_32[2]? = some (103, 12, [some 12, some 13, some 14, some 15, some 16, none, none, none, none, none, none, none])) (by decide +kernel : cs_32[17]? = some (4, 9, [none, none, none, none, none, none, none, none, none])) (by decide) (Or.inl ⟨rfl, rfl⟩) rfl (by unfold vp_in; decide) (by decide) (by decide +kernel) dX3_init_98 ?_
  refine ev_iinc (y := 6) dX3_init_99 rfl (by decide) rfl rfl ?_
  refine ev_goto (t := 80) dX3_init_102 (by decide) ?_
  refine ev_iload_n dX3_init_80 rfl ?_
  refine ev_bipush (x := 12) dX3_init_81 (by decide) ?_
  refine ev_icmp_ge (t := 105) dX3_init_83 (by decide) (fun hc => absurd hc (by decide)) (fun _ => ?_)
  refine ev_aload_n dX3_init_86 rfl ?_
  refine ev_getr (o' := 2) fl_RX3_11 (by decide +kernel : cs_33[1]? = some (3, 11, [some 2, some 3, some 4, some 5, some 9, some 10, some 11, none, none, none, none])) (by decide) (by decide) rfl rfl dX3_init_87 ?_
  refine ev_iload_n dX3_init_90 rfl ?_
  refine ev_new (sh1 := cs_34) nc_RX3_9 cc_33 (ab_z_up cz_3 (by decide +kernel)) rfl (by decide +kernel) (by decide +kernel) (by decide +kernel) (by decide +kernel) (by decide) (by decide) dX3_init_91 ?_
  refine ev_nmr cl_33 ?_
  refine ev_dup dX3_init_94 rfl ?_
  refine ev_callI (st := [.ref 18, .int 6, .ref 2]) (sh1 := cs_34) ci_11 mi_X4_init_i (Or.inr ⟨_, ml_RX3_51⟩) dX3_init_95 (by decide) rfl (by decide) ⟨by decide, by decide⟩ (by decide +kernel) (by decide +kernel) (by decide +kernel) (by decide +kernel) ?_
  refine ev_aastore (sh1 := cs_35) (by decide +kernel : cs_34[2]? = some (103, 12, [some 12, some 13, some 14, some 15, some 16, some 17, none, none, none, none, none, none])) (by decide +kernel : cs_34[18]? = some (4, 9, [none, none, none, none, none, none, none, none, none])) (by decide) (Or.inl ⟨rfl, rfl⟩) rfl (by unfold vp_in; decide) (by decide) (by decide +kernel) dX3_init_98 ?_
  refine ev_iinc (y := 7) dX3_init_99 rfl (by decide) rfl rfl ?_
  refine ev_goto (t := 80) dX3_init_102 (by decide) ?_
  refine ev_iload_n dX3_init_80 rfl ?_
  refine ev_bipush (x := 12) dX3_init_81 (by decide) ?_
  refine ev_icmp_ge (t := 105) dX3_init_83 (by decide) (fun hc => absurd hc (by decide)) (fun _ => ?_)
  refine ev_aload_n dX3_init_86 rfl ?_
  refine ev_getr (o' := 2) fl_RX3_11 (by decide +kernel : cs_35[1]? = some (3, 11, [some 2, some 3, some 4, some 5, some 9, some 10, some 11, none, none, none, none])) (by decide) (by decide) rfl rfl dX3_init_87 ?_
  refine ev_iload_n dX3_init_90 rfl ?_
  refine ev_new (sh1 := cs_36) nc_RX3_9 cc_35 (ab_z_up cz_3 (by decide +kernel)) rfl (by decide +kernel) (by decide +kernel) (by decide +kernel) (by decide +kernel) (by decide) (by decide) dX3_init_91 ?_
  refine ev_nmr cl_35 ?_
  refine ev_dup dX3_init_94 rfl ?_
  refine ev_callI (st := [.ref 19, .int 7, .ref 2]) (sh1 := cs_36) ci_12 mi_X4_init_i (Or.inr ⟨_, ml_RX3_51⟩) dX3_init_95 (by decide) rfl (by decide) ⟨by decide, by decide⟩ (by decide +kernel) (by decide +kernel) (by decide +kernel) (by decide +kernel) ?_
  refine ev_aastore (sh1 := cs_37) (by decide +kernel : cs_36[2]? = some (103, 12, [some 12, some 13, some 14, some 15, some 16, some 17, some 18, none, none, none, none, none])) (by decide +kernel : cs_36[19]? = some (4, 9, [none, none, none, none, none, none, none, none, none])) (by decide) (Or.inl ⟨rfl, rfl⟩) rfl (by unfold vp_in; decide) (by decide) (by decide +kernel) dX3_init_98 ?_
  refine ev_iinc (y := 8) dX3_init_99 rfl (by decide) rfl rfl ?_
  refine ev_goto (t := 80) dX3_init_102 (by decide) ?_
  refine ev_iload_n dX3_init_80 rfl ?_
  refine ev_bipush (x := 12) dX3_init_81 (by decide) ?_
  refine ev_icmp_ge (t := 105) dX3_init_83 (by decide) (fun hc => absurd hc (by decide)) (fun _ => ?_)
  refine ev_aload_n dX3_init_86 rfl ?_
  refine ev_getr (o' := 2) fl_RX3_11 (by decide +kernel : cs_37[1]? = some (3, 11, [some 2, some 3, some 4, some 5, some 9, some 10, some 11, none, none, none, none])) (by decide) (by decide) rfl rfl dX3_init_87 ?_
  refine ev_iload_n dX3_init_90 rfl ?_
  refine ev_new (sh1 := cs_38) nc_RX3_9 cc_37 (ab_z_up cz_3 (by decide +kernel)) rfl (by decide +kernel) (by decide +kernel) (by decide +kernel) (by decide +kernel) (by decide) (by decide) dX3_init_91 ?_
  refine ev_nmr cl_37 ?_
  refine ev_dup dX3_init_94 rfl ?_
  refine ev_callI (st := [.ref 20, .int 8, .ref 2]) (sh1 := cs_38) ci_13 mi_X4_init_i (Or.inr ⟨_, ml_RX3_51⟩) dX3_init_95 (by decide) rfl (by decide) ⟨by decide, by decide⟩ (by decide +kernel) (by decide +kernel) (by decide +kernel) (by decide +kernel) ?_
  refine ev_aastore (sh1 := cs_39) (by decide +kernel : cs_38[2]? = some (103, 12, [some 12, some 13, some 14, some 15, some 16, some 17, some 18, some 19, none, none, none, none])) (by decide +kernel : cs_38[20]? = some (4, 9, [none, none, none, none, none, none, none, none, none])) (by decide) (Or.inl ⟨rfl, rfl⟩) rfl (by unfold vp_in; decide) (by decide) (by decide +kernel) dX3_init_98 ?_
  refine ev_iinc (y := 9) dX3_init_99 rfl (by decide) rfl rfl ?_
  refine ev_goto (t := 80) dX3_init_102 (by decide) ?_
  refine ev_iload_n dX3_init_80 rfl ?_
  refine ev_bipush (x := 12) dX3_init_81 (by decide) ?_
  refine ev_icmp_ge (t := 105) dX3_init_83 (by decide) (fun hc => absurd hc (by decide)) (fun _ => ?_)
  refine ev_aload_n dX3_init_86 rfl ?_
  refine ev_getr (o' := 2) fl_RX3_11 (by decide +kernel : cs_39[1]? = some (3, 11, [some 2, some 3, some 4, some 5, some 9, some 10, some 11, none, none, none, none])) (by decide) (by decide) rfl rfl dX3_init_87 ?_
  refine ev_iload_n dX3_init_90 rfl ?_
  refine ev_new (sh1 := cs_40) nc_RX3_9 cc_39 (ab_z_up cz_3 (by decide +kernel)) rfl (by decide +kernel) (by decide +kernel) (by decide +kernel) (by decide +kernel) (by decide) (by decide) dX3_init_91 ?_
  refine ev_nmr cl_39 ?_
  refine ev_dup dX3_init_94 rfl ?_
  refine ev_callI (st := [.ref 21, .int 9, .ref 2]) (sh1 := cs_40) ci_14 mi_X4_init_i (Or.inr ⟨_, ml_RX3_51⟩) dX3_init_95 (by decide) rfl (by decide) ⟨by decide, by decide⟩ (by decide +kernel) (by decide +kernel) (by decide +kernel) (by decide +kernel) ?_
  refine ev_aastore (sh1 := cs_41) (by decide +kernel : cs_40[2]? = some (103, 12, [some 12, some 13, some 14, some 15, some 16, some 17, some 18, some 19, some 20, none, none, none])) (by decide +kernel : cs_40[21]? = some (4, 9, [none, none, none, none, none, none, none, none, none])) (by decide) (Or.inl ⟨rfl, rfl⟩) rfl (by unfold vp_in; decide) (by decide) (by decide +kernel) dX3_init_98 ?_
  refine ev_iinc (y := 10) dX3_init_99 rfl (by decide) rfl rfl ?_
  refine ev_goto (t := 80) dX3_init_102 (by decide) ?_
  refine ev_iload_n dX3_init_80 rfl ?_
  refine ev_bipush (x := 12) dX3_init_81 (by decide) ?_
  refine ev_icmp_ge (t := 105) dX3_init_83 (by decide) (fun hc => absurd hc (by decide)) (fun _ => ?_)
  refine ev_aload_n dX3_init_86 rfl ?_
  refine ev_getr (o' := 2) fl_RX3_11 (by decide +kernel : cs_41[1]? = some (3, 11, [some 2, some 3, some 4, some 5, some 9, some 10, some 11, none, none, none, none])) (by decide) (by decide) rfl rfl dX3_init_87 ?_
  refine ev_iload_n dX3_init_90 rfl ?_
  refine ev_new (sh1 := cs_42) nc_RX3_9 cc_41 (ab_z_up cz_3 (by decide +kernel)) rfl (by decide +kernel) (by decide +kernel) (by decide +kernel) (by decide +kernel) (by decide) (by decide) dX3_init_91 ?_
  refine ev_nmr cl_41 ?_
  refine ev_dup dX3_init_94 rfl ?_
  refine ev_callI (st := [.ref 22, .int 10, .ref 2]) (sh1 := cs_42) ci_15 mi_X4_init_i (Or.inr ⟨_, ml_RX3_51⟩) dX3_init_95 (by decide) rfl (by decide) ⟨by decide, by decide⟩ (by decide +kernel) (by decide +kernel) (by decide +kernel) (by decide +kernel) ?_
  refine ev_aastore (sh1 := cs_43) (by decide +kernel : cs_42[2]? = some (103, 12, [some 12, some 13, some 14, some 15, some 16, some 17, some 18, some 19, some 20, some 21, none, none])) (by decide +kernel : cs_42[22]? = some (4, 9, [none, none, none, none, none, none, none, none, none])) (by decide) (Or.inl ⟨rfl, rfl⟩) rfl (by unfold vp_in; decide) (by decide) (by decide +kernel) dX3_init_98 ?_
  refine ev_iinc (y := 11) dX3_init_99 rfl (by decide) rfl rfl ?_
  refine ev_goto (t := 80) dX3_init_102 (by decide) ?_
  refine ev_iload_n dX3_init_80 rfl ?_
  refine ev_bipush (x := 12) dX3_init_81 (by decide) ?_
  refine ev_icmp_ge (t := 105) dX3_init_83 (by decide) (fun hc => absurd hc (by decide)) (fun _ => ?_)
  refine ev_aload_n dX3_init_86 rfl ?_
  refine ev_getr (o' := 2) fl_RX3_11 (by decide +kernel : cs_43[1]? = some (3, 11, [some 2, some 3, some 4, some 5, some 9, some 10, some 11, none, none, none, none])) (by decide) (by decide) rfl rfl dX3_init_87 ?_
  refine ev_iload_n dX3_init_90 rfl ?_
  refine ev_new (sh1 := cs_44) nc_RX3_9 cc_43 (ab_z_up cz_3 (by decide +kernel)) rfl (by decide +kernel) (by decide +kernel) (by decide +kernel) (by decide +kernel) (by decide) (by decide) dX3_init_91 ?_
  refine ev_nmr cl_43 ?_
  refine ev_dup dX3_init_94 rfl ?_
  refine ev_callI (st := [.ref 23, .int 11, .ref 2]) (sh1 := cs_44) ci_16 mi_X4_init_i (Or.inr ⟨_, ml_RX3_51⟩) dX3_init_95 (by decide) rfl (by decide) ⟨by decide, by decide⟩ (by decide +kernel) (by decide +kernel) (by decide +kernel) (by decide +kernel) ?_
  refine ev_aastore (sh1 := cs_45) (by decide +kernel : cs_44[2]? = some (103, 12, [some 12, some 13, some 14, some 15, some 16, some 17, some 18, some 19, some 20, some 21, some 22, none])) (by decide +kernel : cs_44[23]? = some (4, 9, [none, none, none, none, none, none, none, none, none])) (by decide) (Or.inl ⟨rfl, rfl⟩) rfl (by unfold vp_in; decide) (by decide) (by decide +kernel) dX3_init_98 ?_
  refine ev_iinc (y := 12) dX3_init_99 rfl (by decide) rfl rfl ?_
  refine ev_goto (t := 80) dX3_init_102 (by decide) ?_
  refine ev_iload_n dX3_init_80 rfl ?_
  refine ev_bipush (x := 12) dX3_init_81 (by decide) ?_
  refine ev_icmp_ge (t := 105) dX3_init_83 (by decide) (fun _ => ?_) (fun hc => absurd (by decide) hc)
  refine ev_aload_n dX3_init_105 rfl ?_
  refine ev_getr (o' := 4) fl_RX3_21 (by decide +kernel : cs_45[1]? = some (3, 11, [some 2, some 3, some 4, some 5, some 9, some 10, some 11, none, none, none, none])) (by decide) (by decide) rfl rfl dX3_init_106 ?_
  refine ev_bipush (x := (-2)) dX3_init_109 (by decide) ?_
  refine ev_callS (st := []) (co_fill16 cm_3 4 (by decide +kernel) (-2) _ (mi_fill16 cm_3 4 (-2))) mv_J7_fill_53178 ml_RX3_52 dX3_init_111 (by decide) rfl (by decide) ⟨by decide, by decide⟩ ?_
  exact ev_return rfl dX3_init_114
set_option maxHeartbeats 4000000 in
set_option maxRecDepth 100000 in
theorem ci_17 {l : Launch} {D : va_G} {ac : Nat → ClassId} : ab_Con l D ac 1 me_X2_init 1 30 [.ref 24, .ref 1] cs_47 cm_4 (none, cs_50, cm_4) := by
  refine ab_intro (lv := [some (.ref 24), some (.ref 1)]) (by decide) rfl (Nat.le_of_ble_eq_true rfl) rfl ?_
  refine ev_aload_n dX2_init_0 rfl ?_
  refine ev_objInit ml_RX2_3 gO_i gO_c dX2_init_1 (by decide) (by decide) ?_
  refine ev_aload_n dX2_init_4 rfl ?_
  refine ev_bipush (x := 30) dX2_init_5 (by decide) ?_
  refine ev_newai (N := 30) (sh1 := cs_48) gA_int (by decide) (by decide) (by decide) cc_47 (ab_z_up cz_4 (by decide +kernel)) rfl (by decide +kernel) (by decide +kernel) (by decide +kernel) (by decide +kernel) (by decide) (by decide) dX2_init_7 ?_
  refine ev_nmr cl_47 ?_
  refine ev_putr (sh1 := cs_49) fp_RX2_9 (by decide +kernel : cs_48[24]? = some (2, 2, [none, none])) (by decide) (by decide) (by decide) rfl rfl (fun _ => rfl) (fun _ => rfl) (by decide +kernel) dX2_init_9 ?_
  refine ev_aload_n dX2_init_12 rfl ?_
  refine ev_aload_n dX2_init_13 rfl ?_
  refine ev_putr (sh1 := cs_50) fp_RX2_15 (by decide +kernel : cs_49[24]? = some (2, 2, [none, some 25])) (by decide) (by decide) (by decide) rfl rfl (fun _ => rfl) (fun _ => rfl) (by decide +kernel) dX2_init_14 ?_
  exact ev_return rfl dX2_init_17
set_option maxHeartbeats 4000000 in
set_option maxRecDepth 100000 in
theorem ci_18 {l : Launch} {D : va_G} {ac : Nat → ClassId} : ab_Con l D ac 1 me_X8_init 3 48 [.ref 26, .ref 1, .ref 24] cs_52 cm_4 (none, cs_60, cm_4) := by
  refine ab_intro (lv := [some (.ref 26), some (.ref 1), some (.ref 24)]) (by decide) rfl (Nat.le_of_ble_eq_true rfl) rfl ?_
  refine ev_aload_n dX8_init_0 rfl ?_
  refine ev_objInit ml_RX8_3 gO_i gO_c dX8_init_1 (by decide) (by decide) ?_
  refine ev_aload_n dX8_init_4 rfl ?_
  refine ev_bipush (x := 16) dX8_init_5 (by decide) ?_
  refine ev_newai (N := 16) (sh1 := cs_53) gA_int (by decide) (by decide) (by decide) cc_52 (ab_z_up cz_4 (by decide +kernel)) rfl (by decide +kernel) (by decide +kernel) (by decide +kernel) (by decide +kernel) (by decide) (by decide) dX8_init_7 ?_
  refine ev_nmr cl_52 ?_
  refine ev_putr (sh1 := cs_54) fp_RX8_9 (by decide +kernel : cs_53[26]? = some (8, 6, [none, none, none, none, none, none])) (by decide) (by decide) (by decide) rfl rfl (fun _ => rfl) (fun _ => rfl) (by decide +kernel) dX8_init_9 ?_
  refine ev_aload_n dX8_init_12 rfl ?_
  refine ev_bipush (x := 16) dX8_init_13 (by decide) ?_
  refine ev_newai (N := 16) (sh1 := cs_55) gA_int (by decide) (by decide) (by decide) cc_54 (ab_z_up cz_4 (by decide +kernel)) rfl (by decide +kernel) (by decide +kernel) (by decide +kernel) (by decide +kernel) (by decide) (by decide) dX8_init_15 ?_
  refine ev_nmr cl_54 ?_
  refine ev_putr (sh1 := cs_56) fp_RX8_15 (by decide +kernel : cs_55[26]? = some (8, 6, [none, none, some 27, none, none, none])) (by decide) (by decide) (by decide) rfl rfl (fun _ => rfl) (fun _ => rfl) (by decide +kernel) dX8_init_17 ?_
  refine ev_aload_n dX8_init_20 rfl ?_
  refine ev_bipush (x := 16) dX8_init_21 (by decide) ?_
  refine ev_newai (N := 16) (sh1 := cs_57) gA_int (by decide) (by decide) (by decide) cc_56 (ab_z_up cz_4 (by decide +kernel)) rfl (by decide +kernel) (by decide +kernel) (by decide +kernel) (by decide +kernel) (by decide) (by decide) dX8_init_23 ?_
  refine ev_nmr cl_56 ?_
  refine ev_putr (sh1 := cs_58) fp_RX8_18 (by decide +kernel : cs_57[26]? = some (8, 6, [none, none, some 27, some 28, none, none])) (by decide) (by decide) (by decide) rfl rfl (fun _ => rfl) (fun _ => rfl) (by decide +kernel) dX8_init_25 ?_
  refine ev_aload_n dX8_init_28 rfl ?_
  refine ev_aload_n dX8_init_29 rfl ?_
  refine ev_putr (sh1 := cs_59) fp_RX8_21 (by decide +kernel : cs_58[26]? = some (8, 6, [none, none, some 27, some 28, some 29, none])) (by decide) (by decide) (by decide) rfl rfl (fun _ => rfl) (fun _ => rfl) (by decide +kernel) dX8_init_30 ?_
  refine ev_aload_n dX8_init_33 rfl ?_
  refine ev_aload_n dX8_init_34 rfl ?_
  refine ev_putr (sh1 := cs_60) fp_RX8_25 (by decide +kernel : cs_59[26]? = some (8, 6, [some 1, none, some 27, some 28, some 29, none])) (by decide) (by decide) (by decide) rfl rfl (fun _ => rfl) (fun _ => rfl) (by decide +kernel) dX8_init_35 ?_
  exact ev_return rfl dX8_init_38
set_option maxHeartbeats 4000000 in
set_option maxRecDepth 100000 in
theorem ci_19 {l : Launch} {D : va_G} {ac : Nat → ClassId} : ab_Con l D ac 1 me_X5_init 0 0 [.ref 30, .ref 1, .ref 24] cs_62 cm_4 (none, cs_64, cm_4) := by
  refine ab_intro (lv := [some (.ref 30), some (.ref 1), some (.ref 24)]) (by decide) rfl (Nat.le_of_ble_eq_true rfl) rfl ?_
  refine ev_aload_n dX5_init_0 rfl ?_
  refine ev_objInit ml_RX5_3 gO_i gO_c dX5_init_1 (by decide) (by decide) ?_
  refine ev_aload_n dX5_init_4 rfl ?_
  refine ev_aload_n dX5_init_5 rfl ?_
  refine ev_putr (sh1 := cs_63) fp_RX5_9 (by decide +kernel : cs_62[30]? = some (5, 2, [none, none])) (by decide) (by decide) (by decide) rfl rfl (fun _ => rfl) (fun _ => rfl) (by decide +kernel) dX5_init_6 ?_
  refine ev_aload_n dX5_init_9 rfl ?_
  refine ev_aload_n dX5_init_10 rfl ?_
  refine ev_putr (sh1 := cs_64) fp_RX5_15 (by decide +kernel : cs_63[30]? = some (5, 2, [some 1, none])) (by decide) (by decide) (by decide) rfl rfl (fun _ => rfl) (fun _ => rfl) (by decide +kernel) dX5_init_11 ?_
  exact ev_return rfl dX5_init_14
set_option maxHeartbeats 4000000 in
set_option maxRecDepth 100000 in
theorem ci_20 {l : Launch} {D : va_G} {ac : Nat → ClassId} : ab_Con l D ac 1 me_X0_init 2 390 [.ref 31, .ref 1] cs_66 cm_4 (none, cs_71, cm_4) := by
  refine ab_intro (lv := [some (.ref 31), some (.ref 1)]) (by decide) rfl (Nat.le_of_ble_eq_true rfl) rfl ?_
  refine ev_aload_n dX0_init_0 rfl ?_
  refine ev_objInit ml_RX0_3 gO_i gO_c dX0_init_1 (by decide) (by decide) ?_
  refine ev_aload_n dX0_init_4 rfl ?_
  refine ev_sipush (x := 384) dX0_init_5 (by decide) ?_
  refine ev_newai (N := 384) (sh1 := cs_67) gA_int (by decide) (by decide) (by decide) cc_66 (ab_z_up cz_4 (by decide +kernel)) rfl (by decide +kernel) (by decide +kernel) (by decide +kernel) (by decide +kernel) (by decide) (by decide) dX0_init_8 ?_
  refine ev_nmr cl_66 ?_
  refine ev_putr (sh1 := cs_68) fp_RX0_9 (by decide +kernel : cs_67[31]? = some (0, 5, [none, none, none, none, none])) (by decide) (by decide) (by decide) rfl rfl (fun _ => rfl) (fun _ => rfl) (by decide +kernel) dX0_init_10 ?_
  refine ev_aload_n dX0_init_13 rfl ?_
  refine ev_bipush (x := 6) dX0_init_14 (by decide) ?_
  refine ev_newai (N := 6) (sh1 := cs_69) gA_int (by decide) (by decide) (by decide) cc_68 (ab_z_up cz_4 (by decide +kernel)) rfl (by decide +kernel) (by decide +kernel) (by decide +kernel) (by decide +kernel) (by decide) (by decide) dX0_init_16 ?_
  refine ev_nmr cl_68 ?_
  refine ev_putr (sh1 := cs_70) fp_RX0_15 (by decide +kernel : cs_69[31]? = some (0, 5, [none, some 32, none, none, none])) (by decide) (by decide) (by decide) rfl rfl (fun _ => rfl) (fun _ => rfl) (by decide +kernel) dX0_init_18 ?_
  refine ev_aload_n dX0_init_21 rfl ?_
  refine ev_aload_n dX0_init_22 rfl ?_
  refine ev_putr (sh1 := cs_71) fp_RX0_18 (by decide +kernel : cs_70[31]? = some (0, 5, [none, some 32, some 33, none, none])) (by decide) (by decide) (by decide) rfl rfl (fun _ => rfl) (fun _ => rfl) (by decide +kernel) dX0_init_23 ?_
  exact ev_return rfl dX0_init_26
set_option maxHeartbeats 4000000 in
set_option maxRecDepth 100000 in
theorem ci_22 {l : Launch} {D : va_G} {ac : Nat → ClassId} : ab_Con l D ac 1 me_X4_init 0 0 [.ref 36] cs_76 cm_4 (none, cs_76, cm_4) := by
  refine ab_intro (lv := [some (.ref 36)]) (by decide) rfl (Nat.le_of_ble_eq_true rfl) rfl ?_
  refine ev_aload_n dX4_init_0 rfl ?_
  refine ev_objInit ml_RX4_3 gO_i gO_c dX4_init_1 (by decide) (by decide) ?_
  exact ev_return rfl dX4_init_4
set_option maxHeartbeats 4000000 in
set_option maxRecDepth 100000 in
theorem ci_21 {l : Launch} {D : va_G} {ac : Nat → ClassId} : ab_Con l D ac 2 me_X6_init 3 129 [.ref 35] cs_75 cm_4 (none, cs_81, cm_5) := by
  refine ab_intro (lv := [some (.ref 35)]) (by decide) rfl (Nat.le_of_ble_eq_true rfl) rfl ?_
  refine ev_aload_n dX6_init_0 rfl ?_
  refine ev_objInit ml_RX6_3 gO_i gO_c dX6_init_1 (by decide) (by decide) ?_
  refine ev_aload_n dX6_init_4 rfl ?_
  refine ev_new (sh1 := cs_76) nc_RX6_9 cc_75 (ab_z_up cz_4 (by decide +kernel)) rfl (by decide +kernel) (by decide +kernel) (by decide +kernel) (by decide +kernel) (by decide) (by decide) dX6_init_5 ?_
  refine ev_nmr cl_75 ?_
  refine ev_dup dX6_init_8 rfl ?_
  refine ev_callI (st := [.ref 36, .ref 35]) (sh1 := cs_76) ci_22 mi_X4_init_i (Or.inr ⟨_, ml_RX6_11⟩) dX6_init_9 (by decide) rfl (by decide) ⟨by decide, by decide⟩ (by decide +kernel) (by decide +kernel) (by decide +kernel) (by decide +kernel) ?_
  refine ev_putr (sh1 := cs_77) fp_RX6_12 (by decide +kernel : cs_76[35]? = some (6, 5, [none, none, none, none, none])) (by decide) (by decide) (by decide) rfl rfl (fun _ => rfl) (fun _ => rfl) (by decide +kernel) dX6_init_12 ?_
  refine ev_aload_n dX6_init_15 rfl ?_
  refine ev_bipush (x := 60) dX6_init_16 (by decide) ?_
  refine ev_newab (N := 60) (sh1 := cs_78) gA_byte (by decide) (by decide) (by decide) cc_77 (ab_z_up cz_4 (by decide +kernel)) rfl (by decide +kernel) (by decide +kernel) (by decide +kernel) (by decide +kernel) (by decide) (by decide) dX6_init_18 ?_
  refine ev_nmr cl_77 ?_
  refine ev_putr (sh1 := cs_79) fp_RX6_18 (by decide +kernel : cs_78[35]? = some (6, 5, [some 36, none, none, none, none])) (by decide) (by decide) (by decide) rfl rfl (fun _ => rfl) (fun _ => rfl) (by decide +kernel) dX6_init_20 ?_
  refine ev_aload_n dX6_init_23 rfl ?_
  refine ev_bipush (x := 60) dX6_init_24 (by decide) ?_
  refine ev_newal (N := 60) (sh1 := cs_80) gA_long (by decide) (by decide) (by decide) cc_79 (ab_z_up cz_4 (by decide +kernel)) rfl (by decide +kernel) (by decide +kernel) (by decide +kernel) (by decide +kernel) (by decide) (by decide) dX6_init_26 ?_
  refine ev_nmr cl_79 ?_
  refine ev_putr (sh1 := cs_81) fp_RX6_22 (by decide +kernel : cs_80[35]? = some (6, 5, [some 36, some 37, none, none, none])) (by decide) (by decide) (by decide) rfl rfl (fun _ => rfl) (fun _ => rfl) (by decide +kernel) dX6_init_28 ?_
  refine ev_aload_n dX6_init_31 rfl ?_
  refine ev_iconst (x := 0) dX6_init_32 (by decide) ?_
  refine ev_puti fl_RX6_26 (by decide +kernel : cs_81[35]? = some (6, 5, [some 36, some 37, some 38, none, none])) (by decide) (by decide) rfl rfl rfl dX6_init_33 ?_
  exact ev_return rfl dX6_init_36
set_option maxHeartbeats 4000000 in
set_option maxRecDepth 100000 in
theorem ci_24 {l : Launch} {D : va_G} {ac : Nat → ClassId} : ab_Con l D ac 1 me_X4_init 0 0 [.ref 40] cs_84 cm_5 (none, cs_84, cm_5) := by
  refine ab_intro (lv := [some (.ref 40)]) (by decide) rfl (Nat.le_of_ble_eq_true rfl) rfl ?_
  refine ev_aload_n dX4_init_0 rfl ?_
  refine ev_objInit ml_RX4_3 gO_i gO_c dX4_init_1 (by decide) (by decide) ?_
  exact ev_return rfl dX4_init_4
set_option maxHeartbeats 4000000 in
set_option maxRecDepth 100000 in
theorem ci_23 {l : Launch} {D : va_G} {ac : Nat → ClassId} : ab_Con l D ac 2 me_X6_init 3 129 [.ref 39] cs_83 cm_5 (none, cs_89, cm_6) := by
  refine ab_intro (lv := [some (.ref 39)]) (by decide) rfl (Nat.le_of_ble_eq_true rfl) rfl ?_
  refine ev_aload_n dX6_init_0 rfl ?_
  refine ev_objInit ml_RX6_3 gO_i gO_c dX6_init_1 (by decide) (by decide) ?_
  refine ev_aload_n dX6_init_4 rfl ?_
  refine ev_new (sh1 := cs_84) nc_RX6_9 cc_83 (ab_z_up cz_5 (by decide +kernel)) rfl (by decide +kernel) (by decide +kernel) (by decide +kernel) (by decide +kernel) (by decide) (by decide) dX6_init_5 ?_
  refine ev_nmr cl_83 ?_
  refine ev_dup dX6_init_8 rfl ?_
  refine ev_callI (st := [.ref 40, .ref 39]) (sh1 := cs_84) ci_24 mi_X4_init_i (Or.inr ⟨_, ml_RX6_11⟩) dX6_init_9 (by decide) rfl (by decide) ⟨by decide, by decide⟩ (by decide +kernel) (by decide +kernel) (by decide +kernel) (by decide +kernel) ?_
  refine ev_putr (sh1 := cs_85) fp_RX6_12 (by decide +kernel : cs_84[39]? = some (6, 5, [none, none, none, none, none])) (by decide) (by decide) (by decide) rfl rfl (fun _ => rfl) (fun _ => rfl) (by decide +kernel) dX6_init_12 ?_
  refine ev_aload_n dX6_init_15 rfl ?_
  refine ev_bipush (x := 60) dX6_init_16 (by decide) ?_
  refine ev_newab (N := 60) (sh1 := cs_86) gA_byte (by decide) (by decide) (by decide) cc_85 (ab_z_up cz_5 (by decide +kernel)) rfl (by decide +kernel) (by decide +kernel) (by decide +kernel) (by decide +kernel) (by decide) (by decide) dX6_init_18 ?_
  refine ev_nmr cl_85 ?_
  refine ev_putr (sh1 := cs_87) fp_RX6_18 (by decide +kernel : cs_86[39]? = some (6, 5, [some 40, none, none, none, none])) (by decide) (by decide) (by decide) rfl rfl (fun _ => rfl) (fun _ => rfl) (by decide +kernel) dX6_init_20 ?_
  refine ev_aload_n dX6_init_23 rfl ?_
  refine ev_bipush (x := 60) dX6_init_24 (by decide) ?_
  refine ev_newal (N := 60) (sh1 := cs_88) gA_long (by decide) (by decide) (by decide) cc_87 (ab_z_up cz_5 (by decide +kernel)) rfl (by decide +kernel) (by decide +kernel) (by decide +kernel) (by decide +kernel) (by decide) (by decide) dX6_init_26 ?_
  refine ev_nmr cl_87 ?_
  refine ev_putr (sh1 := cs_89) fp_RX6_22 (by decide +kernel : cs_88[39]? = some (6, 5, [some 40, some 41, none, none, none])) (by decide) (by decide) (by decide) rfl rfl (fun _ => rfl) (fun _ => rfl) (by decide +kernel) dX6_init_28 ?_
  refine ev_aload_n dX6_init_31 rfl ?_
  refine ev_iconst (x := 0) dX6_init_32 (by decide) ?_
  refine ev_puti fl_RX6_26 (by decide +kernel : cs_89[39]? = some (6, 5, [some 40, some 41, some 42, none, none])) (by decide) (by decide) rfl rfl rfl dX6_init_33 ?_
  exact ev_return rfl dX6_init_36
set_option maxHeartbeats 4000000 in
set_option maxRecDepth 100000 in
theorem ci_26 {l : Launch} {D : va_G} {ac : Nat → ClassId} : ab_Con l D ac 1 me_X4_init 0 0 [.ref 44] cs_92 cm_6 (none, cs_92, cm_6) := by
  refine ab_intro (lv := [some (.ref 44)]) (by decide) rfl (Nat.le_of_ble_eq_true rfl) rfl ?_
  refine ev_aload_n dX4_init_0 rfl ?_
  refine ev_objInit ml_RX4_3 gO_i gO_c dX4_init_1 (by decide) (by decide) ?_
  exact ev_return rfl dX4_init_4
set_option maxHeartbeats 4000000 in
set_option maxRecDepth 100000 in
theorem ci_25 {l : Launch} {D : va_G} {ac : Nat → ClassId} : ab_Con l D ac 2 me_X6_init 3 129 [.ref 43] cs_91 cm_6 (none, cs_97, cm_7) := by
  refine ab_intro (lv := [some (.ref 43)]) (by decide) rfl (Nat.le_of_ble_eq_true rfl) rfl ?_
  refine ev_aload_n dX6_init_0 rfl ?_
  refine ev_objInit ml_RX6_3 gO_i gO_c dX6_init_1 (by decide) (by decide) ?_
  refine ev_aload_n dX6_init_4 rfl ?_
  refine ev_new (sh1 := cs_92) nc_RX6_9 cc_91 (ab_z_up cz_6 (by decide +kernel)) rfl (by decide +kernel) (by decide +kernel) (by decide +kernel) (by decide +kernel) (by decide) (by decide) dX6_init_5 ?_
  refine ev_nmr cl_91 ?_
  refine ev_dup dX6_init_8 rfl ?_
  refine ev_callI (st := [.ref 44, .ref 43]) (sh1 := cs_92) ci_26 mi_X4_init_i (Or.inr ⟨_, ml_RX6_11⟩) dX6_init_9 (by decide) rfl (by decide) ⟨by decide, by decide⟩ (by decide +kernel) (by decide +kernel) (by decide +kernel) (by decide +kernel) ?_
  refine ev_putr (sh1 := cs_93) fp_RX6_12 (by decide +kernel : cs_92[43]? = some (6, 5, [none, none, none, none, none])) (by decide) (by decide) (by decide) rfl rfl (fun _ => rfl) (fun _ => rfl) (by decide +kernel) dX6_init_12 ?_
  refine ev_aload_n dX6_init_15 rfl ?_
  refine ev_bipush (x := 60) dX6_init_16 (by decide) ?_
  refine ev_newab (N := 60) (sh1 := cs_94) gA_byte (by decide) (by decide) (by decide) cc_93 (ab_z_up cz_6 (by decide +kernel)) rfl (by decide +kernel) (by decide +kernel) (by decide +kernel) (by decide +kernel) (by decide) (by decide) dX6_init_18 ?_
  refine ev_nmr cl_93 ?_
  refine ev_putr (sh1 := cs_95) fp_RX6_18 (by decide +kernel : cs_94[43]? = some (6, 5, [some 44, none, none, none, none])) (by decide) (by decide) (by decide) rfl rfl (fun _ => rfl) (fun _ => rfl) (by decide +kernel) dX6_init_20 ?_
  refine ev_aload_n dX6_init_23 rfl ?_
  refine ev_bipush (x := 60) dX6_init_24 (by decide) ?_
  refine ev_newal (N := 60) (sh1 := cs_96) gA_long (by decide) (by decide) (by decide) cc_95 (ab_z_up cz_6 (by decide +kernel)) rfl (by decide +kernel) (by decide +kernel) (by decide +kernel) (by decide +kernel) (by decide) (by decide) dX6_init_26 ?_
  refine ev_nmr cl_95 ?_
  refine ev_putr (sh1 := cs_97) fp_RX6_22 (by decide +kernel : cs_96[43]? = some (6, 5, [some 44, some 45, none, none, none])) (by decide) (by decide) (by decide) rfl rfl (fun _ => rfl) (fun _ => rfl) (by decide +kernel) dX6_init_28 ?_
  refine ev_aload_n dX6_init_31 rfl ?_
  refine ev_iconst (x := 0) dX6_init_32 (by decide) ?_
  refine ev_puti fl_RX6_26 (by decide +kernel : cs_97[43]? = some (6, 5, [some 44, some 45, some 46, none, none])) (by decide) (by decide) rfl rfl rfl dX6_init_33 ?_
  exact ev_return rfl dX6_init_36
set_option maxHeartbeats 4000000 in
set_option maxRecDepth 100000 in
theorem ci_28 {l : Launch} {D : va_G} {ac : Nat → ClassId} : ab_Con l D ac 1 me_X4_init 0 0 [.ref 48] cs_100 cm_7 (none, cs_100, cm_7) := by
  refine ab_intro (lv := [some (.ref 48)]) (by decide) rfl (Nat.le_of_ble_eq_true rfl) rfl ?_
  refine ev_aload_n dX4_init_0 rfl ?_
  refine ev_objInit ml_RX4_3 gO_i gO_c dX4_init_1 (by decide) (by decide) ?_
  exact ev_return rfl dX4_init_4
set_option maxHeartbeats 4000000 in
set_option maxRecDepth 100000 in
theorem ci_27 {l : Launch} {D : va_G} {ac : Nat → ClassId} : ab_Con l D ac 2 me_X6_init 3 129 [.ref 47] cs_99 cm_7 (none, cs_105, cm_8) := by
  refine ab_intro (lv := [some (.ref 47)]) (by decide) rfl (Nat.le_of_ble_eq_true rfl) rfl ?_
  refine ev_aload_n dX6_init_0 rfl ?_
  refine ev_objInit ml_RX6_3 gO_i gO_c dX6_init_1 (by decide) (by decide) ?_
  refine ev_aload_n dX6_init_4 rfl ?_
  refine ev_new (sh1 := cs_100) nc_RX6_9 cc_99 (ab_z_up cz_7 (by decide +kernel)) rfl (by decide +kernel) (by decide +kernel) (by decide +kernel) (by decide +kernel) (by decide) (by decide) dX6_init_5 ?_
  refine ev_nmr cl_99 ?_
  refine ev_dup dX6_init_8 rfl ?_
  refine ev_callI (st := [.ref 48, .ref 47]) (sh1 := cs_100) ci_28 mi_X4_init_i (Or.inr ⟨_, ml_RX6_11⟩) dX6_init_9 (by decide) rfl (by decide) ⟨by decide, by decide⟩ (by decide +kernel) (by decide +kernel) (by decide +kernel) (by decide +kernel) ?_
  refine ev_putr (sh1 := cs_101) fp_RX6_12 (by decide +kernel : cs_100[47]? = some (6, 5, [none, none, none, none, none])) (by decide) (by decide) (by decide) rfl rfl (fun _ => rfl) (fun _ => rfl) (by decide +kernel) dX6_init_12 ?_
  refine ev_aload_n dX6_init_15 rfl ?_
  refine ev_bipush (x := 60) dX6_init_16 (by decide) ?_
  refine ev_newab (N := 60) (sh1 := cs_102) gA_byte (by decide) (by decide) (by decide) cc_101 (ab_z_up cz_7 (by decide +kernel)) rfl (by decide +kernel) (by decide +kernel) (by decide +kernel) (by decide +kernel) (by decide) (by decide) dX6_init_18 ?_
  refine ev_nmr cl_101 ?_
  refine ev_putr (sh1 := cs_103) fp_RX6_18 (by decide +kernel : cs_102[47]? = some (6, 5, [some 48, none, none, none, none])) (by decide) (by decide) (by decide) rfl rfl (fun _ => rfl) (fun _ => rfl) (by decide +kernel) dX6_init_20 ?_
  refine ev_aload_n dX6_init_23 rfl ?_
  refine ev_bipush (x := 60) dX6_init_24 (by decide) ?_
  refine ev_newal (N := 60) (sh1 := cs_104) gA_long (by decide) (by decide) (by decide) cc_103 (ab_z_up cz_7 (by decide +kernel)) rfl (by decide +kernel) (by decide +kernel) (by decide +kernel) (by decide +kernel) (by decide) (by decide) dX6_init_26 ?_
  refine ev_nmr cl_103 ?_
  refine ev_putr (sh1 := cs_105) fp_RX6_22 (by decide +kernel : cs_104[47]? = some (6, 5, [some 48, some 49, none, none, none])) (by decide) (by decide) (by decide) rfl rfl (fun _ => rfl) (fun _ => rfl) (by decide +kernel) dX6_init_28 ?_
  refine ev_aload_n dX6_init_31 rfl ?_
  refine ev_iconst (x := 0) dX6_init_32 (by decide) ?_
  refine ev_puti fl_RX6_26 (by decide +kernel : cs_105[47]? = some (6, 5, [some 48, some 49, some 50, none, none])) (by decide) (by decide) rfl rfl rfl dX6_init_33 ?_
  exact ev_return rfl dX6_init_36
set_option maxHeartbeats 4000000 in
set_option maxRecDepth 100000 in
theorem ci_30 {l : Launch} {D : va_G} {ac : Nat → ClassId} : ab_Con l D ac 1 me_X4_init 0 0 [.ref 52] cs_108 cm_8 (none, cs_108, cm_8) := by
  refine ab_intro (lv := [some (.ref 52)]) (by decide) rfl (Nat.le_of_ble_eq_true rfl) rfl ?_
  refine ev_aload_n dX4_init_0 rfl ?_
  refine ev_objInit ml_RX4_3 gO_i gO_c dX4_init_1 (by decide) (by decide) ?_
  exact ev_return rfl dX4_init_4
set_option maxHeartbeats 4000000 in
set_option maxRecDepth 100000 in
theorem ci_29 {l : Launch} {D : va_G} {ac : Nat → ClassId} : ab_Con l D ac 2 me_X6_init 3 129 [.ref 51] cs_107 cm_8 (none, cs_113, cm_9) := by
  refine ab_intro (lv := [some (.ref 51)]) (by decide) rfl (Nat.le_of_ble_eq_true rfl) rfl ?_
  refine ev_aload_n dX6_init_0 rfl ?_
  refine ev_objInit ml_RX6_3 gO_i gO_c dX6_init_1 (by decide) (by decide) ?_
  refine ev_aload_n dX6_init_4 rfl ?_
  refine ev_new (sh1 := cs_108) nc_RX6_9 cc_107 (ab_z_up cz_8 (by decide +kernel)) rfl (by decide +kernel) (by decide +kernel) (by decide +kernel) (by decide +kernel) (by decide) (by decide) dX6_init_5 ?_
  refine ev_nmr cl_107 ?_
  refine ev_dup dX6_init_8 rfl ?_
  refine ev_callI (st := [.ref 52, .ref 51]) (sh1 := cs_108) ci_30 mi_X4_init_i (Or.inr ⟨_, ml_RX6_11⟩) dX6_init_9 (by decide) rfl (by decide) ⟨by decide, by decide⟩ (by decide +kernel) (by decide +kernel) (by decide +kernel) (by decide +kernel) ?_
  refine ev_putr (sh1 := cs_109) fp_RX6_12 (by decide +kernel : cs_108[51]? = some (6, 5, [none, none, none, none, none])) (by decide) (by decide) (by decide) rfl rfl (fun _ => rfl) (fun _ => rfl) (by decide +kernel) dX6_init_12 ?_
  refine ev_aload_n dX6_init_15 rfl ?_
  refine ev_bipush (x := 60) dX6_init_16 (by decide) ?_
  refine ev_newab (N := 60) (sh1 := cs_110) gA_byte (by decide) (by decide) (by decide) cc_109 (ab_z_up cz_8 (by decide +kernel)) rfl (by decide +kernel) (by decide +kernel) (by decide +kernel) (by decide +kernel) (by decide) (by decide) dX6_init_18 ?_
  refine ev_nmr cl_109 ?_
  refine ev_putr (sh1 := cs_111) fp_RX6_18 (by decide +kernel : cs_110[51]? = some (6, 5, [some 52, none, none, none, none])) (by decide) (by decide) (by decide) rfl rfl (fun _ => rfl) (fun _ => rfl) (by decide +kernel) dX6_init_20 ?_
  refine ev_aload_n dX6_init_23 rfl ?_
  refine ev_bipush (x := 60) dX6_init_24 (by decide) ?_
  refine ev_newal (N := 60) (sh1 := cs_112) gA_long (by decide) (by decide) (by decide) cc_111 (ab_z_up cz_8 (by decide +kernel)) rfl (by decide +kernel) (by decide +kernel) (by decide +kernel) (by decide +kernel) (by decide) (by decide) dX6_init_26 ?_
  refine ev_nmr cl_111 ?_
  refine ev_putr (sh1 := cs_113) fp_RX6_22 (by decide +kernel : cs_112[51]? = some (6, 5, [some 52, some 53, none, none, none])) (by decide) (by decide) (by decide) rfl rfl (fun _ => rfl) (fun _ => rfl) (by decide +kernel) dX6_init_28 ?_
  refine ev_aload_n dX6_init_31 rfl ?_
  refine ev_iconst (x := 0) dX6_init_32 (by decide) ?_
  refine ev_puti fl_RX6_26 (by decide +kernel : cs_113[51]? = some (6, 5, [some 52, some 53, some 54, none, none])) (by decide) (by decide) rfl rfl rfl dX6_init_33 ?_
  exact ev_return rfl dX6_init_36
set_option maxHeartbeats 4000000 in
set_option maxRecDepth 100000 in
theorem ci_32 {l : Launch} {D : va_G} {ac : Nat → ClassId} : ab_Con l D ac 1 me_X4_init 0 0 [.ref 56] cs_116 cm_9 (none, cs_116, cm_9) := by
  refine ab_intro (lv := [some (.ref 56)]) (by decide) rfl (Nat.le_of_ble_eq_true rfl) rfl ?_
  refine ev_aload_n dX4_init_0 rfl ?_
  refine ev_objInit ml_RX4_3 gO_i gO_c dX4_init_1 (by decide) (by decide) ?_
  exact ev_return rfl dX4_init_4
set_option maxHeartbeats 4000000 in
set_option maxRecDepth 100000 in
theorem ci_31 {l : Launch} {D : va_G} {ac : Nat → ClassId} : ab_Con l D ac 2 me_X6_init 3 129 [.ref 55] cs_115 cm_9 (none, cs_121, cm_10) := by
  refine ab_intro (lv := [some (.ref 55)]) (by decide) rfl (Nat.le_of_ble_eq_true rfl) rfl ?_
  refine ev_aload_n dX6_init_0 rfl ?_
  refine ev_objInit ml_RX6_3 gO_i gO_c dX6_init_1 (by decide) (by decide) ?_
  refine ev_aload_n dX6_init_4 rfl ?_
  refine ev_new (sh1 := cs_116) nc_RX6_9 cc_115 (ab_z_up cz_9 (by decide +kernel)) rfl (by decide +kernel) (by decide +kernel) (by decide +kernel) (by decide +kernel) (by decide) (by decide) dX6_init_5 ?_
  refine ev_nmr cl_115 ?_
  refine ev_dup dX6_init_8 rfl ?_
  refine ev_callI (st := [.ref 56, .ref 55]) (sh1 := cs_116) ci_32 mi_X4_init_i (Or.inr ⟨_, ml_RX6_11⟩) dX6_init_9 (by decide) rfl (by decide) ⟨by decide, by decide⟩ (by decide +kernel) (by decide +kernel) (by decide +kernel) (by decide +kernel) ?_
  refine ev_putr (sh1 := cs_117) fp_RX6_12 (by decide +kernel : cs_116[55]? = some (6, 5, [none, none, none, none, none])) (by decide) (by decide) (by decide) rfl rfl (fun _ => rfl) (fun _ => rfl) (by decide +kernel) dX6_init_12 ?_
  refine ev_aload_n dX6_init_15 rfl ?_
  refine ev_bipush (x := 60) dX6_init_16 (by decide) ?_
  refine ev_newab (N := 60) (sh1 := cs_118) gA_byte (by decide) (by decide) (by decide) cc_117 (ab_z_up cz_9 (by decide +kernel)) rfl (by decide +kernel) (by decide +kernel) (by decide +kernel) (by decide +kernel) (by decide) (by decide) dX6_init_18 ?_
  refine ev_nmr cl_117 ?_
  refine ev_putr (sh1 := cs_119) fp_RX6_18 (by decide +kernel : cs_118[55]? = some (6, 5, [some 56, none, none, none, none])) (by decide) (by decide) (by decide) rfl rfl (fun _ => rfl) (fun _ => rfl) (by decide +kernel) dX6_init_20 ?_
  refine ev_aload_n dX6_init_23 rfl ?_
  refine ev_bipush (x := 60) dX6_init_24 (by decide) ?_
  refine ev_newal (N := 60) (sh1 := cs_120) gA_long (by decide) (by decide) (by decide) cc_119 (ab_z_up cz_9 (by decide +kernel)) rfl (by decide +kernel) (by decide +kernel) (by decide +kernel) (by decide +kernel) (by decide) (by decide) dX6_init_26 ?_
  refine ev_nmr cl_119 ?_
  refine ev_putr (sh1 := cs_121) fp_RX6_22 (by decide +kernel : cs_120[55]? = some (6, 5, [some 56, some 57, none, none, none])) (by decide) (by decide) (by decide) rfl rfl (fun _ => rfl) (fun _ => rfl) (by decide +kernel) dX6_init_28 ?_
  refine ev_aload_n dX6_init_31 rfl ?_
  refine ev_iconst (x := 0) dX6_init_32 (by decide) ?_
  refine ev_puti fl_RX6_26 (by decide +kernel : cs_121[55]? = some (6, 5, [some 56, some 57, some 58, none, none])) (by decide) (by decide) rfl rfl rfl dX6_init_33 ?_
  exact ev_return rfl dX6_init_36
set_option maxHeartbeats 4000000 in
set_option maxRecDepth 100000 in
theorem ci_34 {l : Launch} {D : va_G} {ac : Nat → ClassId} : ab_Con l D ac 1 me_X4_init 0 0 [.ref 60] cs_124 cm_10 (none, cs_124, cm_10) := by
  refine ab_intro (lv := [some (.ref 60)]) (by decide) rfl (Nat.le_of_ble_eq_true rfl) rfl ?_
  refine ev_aload_n dX4_init_0 rfl ?_
  refine ev_objInit ml_RX4_3 gO_i gO_c dX4_init_1 (by decide) (by decide) ?_
  exact ev_return rfl dX4_init_4
set_option maxHeartbeats 4000000 in
set_option maxRecDepth 100000 in
theorem ci_33 {l : Launch} {D : va_G} {ac : Nat → ClassId} : ab_Con l D ac 2 me_X6_init 3 129 [.ref 59] cs_123 cm_10 (none, cs_129, cm_11) := by
  refine ab_intro (lv := [some (.ref 59)]) (by decide) rfl (Nat.le_of_ble_eq_true rfl) rfl ?_
  refine ev_aload_n dX6_init_0 rfl ?_
  refine ev_objInit ml_RX6_3 gO_i gO_c dX6_init_1 (by decide) (by decide) ?_
  refine ev_aload_n dX6_init_4 rfl ?_
  refine ev_new (sh1 := cs_124) nc_RX6_9 cc_123 (ab_z_up cz_10 (by decide +kernel)) rfl (by decide +kernel) (by decide +kernel) (by decide +kernel) (by decide +kernel) (by decide) (by decide) dX6_init_5 ?_
  refine ev_nmr cl_123 ?_
  refine ev_dup dX6_init_8 rfl ?_
  refine ev_callI (st := [.ref 60, .ref 59]) (sh1 := cs_124) ci_34 mi_X4_init_i (Or.inr ⟨_, ml_RX6_11⟩) dX6_init_9 (by decide) rfl (by decide) ⟨by decide, by decide⟩ (by decide +kernel) (by decide +kernel) (by decide +kernel) (by decide +kernel) ?_
  refine ev_putr (sh1 := cs_125) fp_RX6_12 (by decide +kernel : cs_124[59]? = some (6, 5, [none, none, none, none, none])) (by decide) (by decide) (by decide) rfl rfl (fun _ => rfl) (fun _ => rfl) (by decide +kernel) dX6_init_12 ?_
  refine ev_aload_n dX6_init_15 rfl ?_
  refine ev_bipush (x := 60) dX6_init_16 (by decide) ?_
  refine ev_newab (N := 60) (sh1 := cs_126) gA_byte (by decide) (by decide) (by decide) cc_125 (ab_z_up cz_10 (by decide +kernel)) rfl (by decide +kernel) (by decide +kernel) (by decide +kernel) (by decide +kernel) (by decide) (by decide) dX6_init_18 ?_
  refine ev_nmr cl_125 ?_
  refine ev_putr (sh1 := cs_127) fp_RX6_18 (by decide +kernel : cs_126[59]? = some (6, 5, [some 60, none, none, none, none])) (by decide) (by decide) (by decide) rfl rfl (fun _ => rfl) (fun _ => rfl) (by decide +kernel) dX6_init_20 ?_
  refine ev_aload_n dX6_init_23 rfl ?_
  refine ev_bipush (x := 60) dX6_init_24 (by decide) ?_
  refine ev_newal (N := 60) (sh1 := cs_128) gA_long (by decide) (by decide) (by decide) cc_127 (ab_z_up cz_10 (by decide +kernel)) rfl (by decide +kernel) (by decide +kernel) (by decide +kernel) (by decide +kernel) (by decide) (by decide) dX6_init_26 ?_
  refine ev_nmr cl_127 ?_
  refine ev_putr (sh1 := cs_129) fp_RX6_22 (by decide +kernel : cs_128[59]? = some (6, 5, [some 60, some 61, none, none, none])) (by decide) (by decide) (by decide) rfl rfl (fun _ => rfl) (fun _ => rfl) (by decide +kernel) dX6_init_28 ?_
  refine ev_aload_n dX6_init_31 rfl ?_
  refine ev_iconst (x := 0) dX6_init_32 (by decide) ?_
  refine ev_puti fl_RX6_26 (by decide +kernel : cs_129[59]? = some (6, 5, [some 60, some 61, some 62, none, none])) (by decide) (by decide) rfl rfl rfl dX6_init_33 ?_
  exact ev_return rfl dX6_init_36
set_option maxHeartbeats 4000000 in
set_option maxRecDepth 100000 in
theorem ci_36 {l : Launch} {D : va_G} {ac : Nat → ClassId} : ab_Con l D ac 1 me_X4_init 0 0 [.ref 64] cs_132 cm_11 (none, cs_132, cm_11) := by
  refine ab_intro (lv := [some (.ref 64)]) (by decide) rfl (Nat.le_of_ble_eq_true rfl) rfl ?_
  refine ev_aload_n dX4_init_0 rfl ?_
  refine ev_objInit ml_RX4_3 gO_i gO_c dX4_init_1 (by decide) (by decide) ?_
  exact ev_return rfl dX4_init_4
set_option maxHeartbeats 4000000 in
set_option maxRecDepth 100000 in
theorem ci_35 {l : Launch} {D : va_G} {ac : Nat → ClassId} : ab_Con l D ac 2 me_X6_init 3 129 [.ref 63] cs_131 cm_11 (none, cs_137, cm_12) := by
  refine ab_intro (lv := [some (.ref 63)]) (by decide) rfl (Nat.le_of_ble_eq_true rfl) rfl ?_
  refine ev_aload_n dX6_init_0 rfl ?_
  refine ev_objInit ml_RX6_3 gO_i gO_c dX6_init_1 (by decide) (by decide) ?_
  refine ev_aload_n dX6_init_4 rfl ?_
  refine ev_new (sh1 := cs_132) nc_RX6_9 cc_131 (ab_z_up cz_11 (by decide +kernel)) rfl (by decide +kernel) (by decide +kernel) (by decide +kernel) (by decide +kernel) (by decide) (by decide) dX6_init_5 ?_
  refine ev_nmr cl_131 ?_
  refine ev_dup dX6_init_8 rfl ?_
  refine ev_callI (st := [.ref 64, .ref 63]) (sh1 := cs_132) ci_36 mi_X4_init_i (Or.inr ⟨_, ml_RX6_11⟩) dX6_init_9 (by decide) rfl (by decide) ⟨by decide, by decide⟩ (by decide +kernel) (by decide +kernel) (by decide +kernel) (by decide +kernel) ?_
  refine ev_putr (sh1 := cs_133) fp_RX6_12 (by decide +kernel : cs_132[63]? = some (6, 5, [none, none, none, none, none])) (by decide) (by decide) (by decide) rfl rfl (fun _ => rfl) (fun _ => rfl) (by decide +kernel) dX6_init_12 ?_
  refine ev_aload_n dX6_init_15 rfl ?_
  refine ev_bipush (x := 60) dX6_init_16 (by decide) ?_
  refine ev_newab (N := 60) (sh1 := cs_134) gA_byte (by decide) (by decide) (by decide) cc_133 (ab_z_up cz_11 (by decide +kernel)) rfl (by decide +kernel) (by decide +kernel) (by decide +kernel) (by decide +kernel) (by decide) (by decide) dX6_init_18 ?_
  refine ev_nmr cl_133 ?_
  refine ev_putr (sh1 := cs_135) fp_RX6_18 (by decide +kernel : cs_134[63]? = some (6, 5, [some 64, none, none, none, none])) (by decide) (by decide) (by decide) rfl rfl (fun _ => rfl) (fun _ => rfl) (by decide +kernel) dX6_init_20 ?_
  refine ev_aload_n dX6_init_23 rfl ?_
  refine ev_bipush (x := 60) dX6_init_24 (by decide) ?_
  refine ev_newal (N := 60) (sh1 := cs_136) gA_long (by decide) (by decide) (by decide) cc_135 (ab_z_up cz_11 (by decide +kernel)) rfl (by decide +kernel) (by decide +kernel) (by decide +kernel) (by decide +kernel) (by decide) (by decide) dX6_init_26 ?_
  refine ev_nmr cl_135 ?_
  refine ev_putr (sh1 := cs_137) fp_RX6_22 (by decide +kernel : cs_136[63]? = some (6, 5, [some 64, some 65, none, none, none])) (by decide) (by decide) (by decide) rfl rfl (fun _ => rfl) (fun _ => rfl) (by decide +kernel) dX6_init_28 ?_
  refine ev_aload_n dX6_init_31 rfl ?_
  refine ev_iconst (x := 0) dX6_init_32 (by decide) ?_
  refine ev_puti fl_RX6_26 (by decide +kernel : cs_137[63]? = some (6, 5, [some 64, some 65, some 66, none, none])) (by decide) (by decide) rfl rfl rfl dX6_init_33 ?_
  exact ev_return rfl dX6_init_36
set_option maxHeartbeats 4000000 in
set_option maxRecDepth 100000 in
theorem ci_1 {l : Launch} {D : va_G} {ac : Nat → ClassId} : ab_Con l D ac 3 me_X9_init 68 1946 [.ref 0] cs_0 cm_0 (none, cs_142, cm_15) := by
  refine ab_intro (lv := [some (.ref 0), none]) (by decide) rfl (Nat.le_of_ble_eq_true rfl) rfl ?_
  refine ev_aload_n dX9_init_0 rfl ?_
  refine ev_objInit ml_RX9_3 gO_i gO_c dX9_init_1 (by decide) (by decide) ?_
  refine ev_aload_n dX9_init_4 rfl ?_
  refine ev_new (sh1 := cs_1) nc_RX9_9 cc_0 (ab_z_up cz_0 (by decide +kernel)) rfl (by decide +kernel) (by decide +kernel) (by decide +kernel) (by decide +kernel) (by decide) (by decide) dX9_init_5 ?_
  refine ev_nmr cl_0 ?_
  refine ev_dup dX9_init_8 rfl ?_
  refine ev_callI (st := [.ref 1, .ref 0]) (sh1 := cs_45) ci_2 mi_X3_init_i (Or.inl ml_RX9_11) dX9_init_9 (by decide) rfl (by decide) ⟨by decide, by decide⟩ (by decide +kernel) (by decide +kernel) (by decide +kernel) (by decide +kernel) ?_
  refine ev_putr (sh1 := cs_46) fp_RX9_12 (by decide +kernel : cs_45[0]? = some (9, 9, [none, none, none, none, none, none, none, none, none])) (by decide) (by decide) (by decide) rfl rfl (fun _ => rfl) (fun _ => rfl) (by decide +kernel) dX9_init_12 ?_
  refine ev_aload_n dX9_init_15 rfl ?_
  refine ev_new (sh1 := cs_47) nc_RX9_16 cc_46 (ab_z_up cz_4 (by decide +kernel)) rfl (by decide +kernel) (by decide +kernel) (by decide +kernel) (by decide +kernel) (by decide) (by decide) dX9_init_16 ?_
  refine ev_nmr cl_46 ?_
  refine ev_dup dX9_init_19 rfl ?_
  refine ev_aload_n dX9_init_20 rfl ?_
  refine ev_getr (o' := 1) fl_RX9_12 (by decide +kernel : cs_47[0]? = some (9, 9, [some 1, none, none, none, none, none, none, none, none])) (by decide) (by decide) rfl rfl dX9_init_21 ?_
  refine ev_callI (st := [.ref 24, .ref 0]) (sh1 := cs_50) ci_17 mi_X2_init_i (Or.inl ml_RX9_18) dX9_init_24 (by decide) rfl (by decide) ⟨by decide, by decide⟩ (by decide +kernel) (by decide +kernel) (by decide +kernel) (by decide +kernel) ?_
  refine ev_putr (sh1 := cs_51) fp_RX9_21 (by decide +kernel : cs_50[0]? = some (9, 9, [some 1, none, none, none, none, none, none, none, none])) (by decide) (by decide) (by decide) rfl rfl (fun _ => rfl) (fun _ => rfl) (by decide +kernel) dX9_init_27 ?_
  refine ev_aload_n dX9_init_30 rfl ?_
  refine ev_new (sh1 := cs_52) nc_RX9_25 cc_51 (ab_z_up cz_4 (by decide +kernel)) rfl (by decide +kernel) (by decide +kernel) (by decide +kernel) (by decide +kernel) (by decide) (by decide) dX9_init_31 ?_
  refine ev_nmr cl_51 ?_
  refine ev_dup dX9_init_34 rfl ?_
  refine ev_aload_n dX9_init_35 rfl ?_
  refine ev_getr (o' := 1) fl_RX9_12 (by decide +kernel : cs_52[0]? = some (9, 9, [some 1, some 24, none, none, none, none, none, none, none])) (by decide) (by decide) rfl rfl dX9_init_36 ?_
  refine ev_aload_n dX9_init_39 rfl ?_
  refine ev_getr (o' := 24) fl_RX9_21 (by decide +kernel : cs_52[0]? = some (9, 9, [some 1, some 24, none, none, none, none, none, none, none])) (by decide) (by decide) rfl rfl dX9_init_40 ?_
  refine ev_callI (st := [.ref 26, .ref 0]) (sh1 := cs_60) ci_18 mi_X8_init_i (Or.inl ml_RX9_27) dX9_init_43 (by decide) rfl (by decide) ⟨by decide, by decide⟩ (by decide +kernel) (by decide +kernel) (by decide +kernel) (by decide +kernel) ?_
  refine ev_putr (sh1 := cs_61) fp_RX9_30 (by decide +kernel : cs_60[0]? = some (9, 9, [some 1, some 24, none, none, none, none, none, none, none])) (by decide) (by decide) (by decide) rfl rfl (fun _ => rfl) (fun _ => rfl) (by decide +kernel) dX9_init_46 ?_
  refine ev_aload_n dX9_init_49 rfl ?_
  refine ev_new (sh1 := cs_62) nc_RX9_34 cc_61 (ab_z_up cz_4 (by decide +kernel)) rfl (by decide +kernel) (by decide +kernel) (by decide +kernel) (by decide +kernel) (by decide) (by decide) dX9_init_50 ?_
  refine ev_nmr cl_61 ?_
  refine ev_dup dX9_init_53 rfl ?_
  refine ev_aload_n dX9_init_54 rfl ?_
  refine ev_getr (o' := 1) fl_RX9_12 (by decide +kernel : cs_62[0]? = some (9, 9, [some 1, some 24, some 26, none, none, none, none, none, none])) (by decide) (by decide) rfl rfl dX9_init_55 ?_
  refine ev_aload_n dX9_init_58 rfl ?_
  refine ev_getr (o' := 24) fl_RX9_21 (by decide +kernel : cs_62[0]? = some (9, 9, [some 1, some 24, some 26, none, none, none, none, none, none])) (by decide) (by decide) rfl rfl dX9_init_59 ?_
  refine ev_callI (st := [.ref 30, .ref 0]) (sh1 := cs_64) ci_19 mi_X5_init_i (Or.inl ml_RX9_36) dX9_init_62 (by decide) rfl (by decide) ⟨by decide, by decide⟩ (by decide +kernel) (by decide +kernel) (by decide +kernel) (by decide +kernel) ?_
  refine ev_putr (sh1 := cs_65) fp_RX9_37 (by decide +kernel : cs_64[0]? = some (9, 9, [some 1, some 24, some 26, none, none, none, none, none, none])) (by decide) (by decide) (by decide) rfl rfl (fun _ => rfl) (fun _ => rfl) (by decide +kernel) dX9_init_65 ?_
  refine ev_aload_n dX9_init_68 rfl ?_
  refine ev_new (sh1 := cs_66) nc_RX9_41 cc_65 (ab_z_up cz_4 (by decide +kernel)) rfl (by decide +kernel) (by decide +kernel) (by decide +kernel) (by decide +kernel) (by decide) (by decide) dX9_init_69 ?_
  refine ev_nmr cl_65 ?_
  refine ev_dup dX9_init_72 rfl ?_
  refine ev_aload_n dX9_init_73 rfl ?_
  refine ev_getr (o' := 1) fl_RX9_12 (by decide +kernel : cs_66[0]? = some (9, 9, [some 1, some 24, some 26, some 30, none, none, none, none, none])) (by decide) (by decide) rfl rfl dX9_init_74 ?_
  refine ev_callI (st := [.ref 31, .ref 0]) (sh1 := cs_71) ci_20 mi_X0_init_i (Or.inl ml_RX9_43) dX9_init_77 (by decide) rfl (by decide) ⟨by decide, by decide⟩ (by decide +kernel) (by decide +kernel) (by decide +kernel) (by decide +kernel) ?_
  refine ev_putr (sh1 := cs_72) fp_RX9_44 (by decide +kernel : cs_71[0]? = some (9, 9, [some 1, some 24, some 26, some 30, none, none, none, none, none])) (by decide) (by decide) (by decide) rfl rfl (fun _ => rfl) (fun _ => rfl) (by decide +kernel) dX9_init_80 ?_
  refine ev_aload_n dX9_init_83 rfl ?_
  refine ev_bipush (x := 8) dX9_init_84 (by decide) ?_
  refine ev_newaq (N := 8) (sh1 := cs_73) (Or.inr ⟨rfl, rfl⟩) cK_RX9_48 (by decide) (by decide) (by decide) cc_72 rfl (by decide +kernel) (by decide +kernel) (by decide +kernel) (by decide +kernel) (by decide) (by decide) dX9_init_86 ?_
  refine ev_nmr cl_72 ?_
  refine ev_putr (sh1 := cs_74) fp_RX9_50 (by decide +kernel : cs_73[0]? = some (9, 9, [some 1, some 24, some 26, some 30, some 31, none, none, none, none])) (by decide) (by decide) (by decide) rfl rfl (fun _ => rfl) (fun _ => rfl) (by decide +kernel) dX9_init_89 ?_
  refine ev_iconst (x := 0) dX9_init_92 (by decide) ?_
  refine ev_istore_n dX9_init_93 (Nat.le_of_ble_eq_true rfl) rfl rfl ?_
  refine ev_iload_n dX9_init_94 rfl ?_
  refine ev_bipush (x := 8) dX9_init_95 (by decide) ?_
  refine ev_icmp_ge (t := 119) dX9_init_97 (by decide) (fun hc => absurd hc (by decide)) (fun _ => ?_)
  refine ev_aload_n dX9_init_100 rfl ?_
  refine ev_getr (o' := 34) fl_RX9_50 (by decide +kernel : cs_74[0]? = some (9, 9, [some 1, some 24, some 26, some 30, some 31, some 34, none, none, none])) (by decide) (by decide) rfl rfl dX9_init_101 ?_
  refine ev_iload_n dX9_init_104 rfl ?_
  refine ev_new (sh1 := cs_75) nc_RX9_48 cc_74 (ab_z_up cz_4 (by decide +kernel)) rfl (by decide +kernel) (by decide +kernel) (by decide +kernel) (by decide +kernel) (by decide) (by decide) dX9_init_105 ?_
  refine ev_nmr cl_74 ?_
  refine ev_dup dX9_init_108 rfl ?_
  refine ev_callI (st := [.ref 35, .int 0, .ref 34]) (sh1 := cs_81) ci_21 mi_X6_init_i (Or.inr ⟨_, ml_RX9_54⟩) dX9_init_109 (by decide) rfl (by decide) ⟨by decide, by decide⟩ (by decide +kernel) (by decide +kernel) (by decide +kernel) (by decide +kernel) ?_
  refine ev_aastore (sh1 := cs_82) (by decide +kernel : cs_81[34]? = some (104, 8, [none, none, none, none, none, none, none, none])) (by decide +kernel : cs_81[35]? = some (6, 5, [some 36, some 37, some 38, none, none])) (by decide) (Or.inr ⟨rfl, rfl⟩) rfl (by unfold vp_in; decide) (by decide) (by decide +kernel) dX9_init_112 ?_
  refine ev_iinc (y := 1) dX9_init_113 rfl (by decide) rfl rfl ?_
  refine ev_goto (t := 94) dX9_init_116 (by decide) ?_
  refine ev_iload_n dX9_init_94 rfl ?_
  refine ev_bipush (x := 8) dX9_init_95 (by decide) ?_
  refine ev_icmp_ge (t := 119) dX9_init_97 (by decide) (fun hc => absurd hc (by decide)) (fun _ => ?_)
  refine ev_aload_n dX9_init_100 rfl ?_
  refine ev_getr (o' := 34) fl_RX9_50 (by decide +kernel : cs_82[0]? = some (9, 9, [some 1, some 24, some 26, some 30, some 31, some 34, none, none, none])) (by decide) (by decide) rfl rfl dX9_init_101 ?_
  refine ev_iload_n dX9_init_104 rfl ?_
  refine ev_new (sh1 := cs_83) nc_RX9_48 cc_82 (ab_z_up cz_5 (by decide +kernel)) rfl (by decide +kernel) (by decide +kernel) (by decide +kernel) (by decide +kernel) (by decide) (by decide) dX9_init_105 ?_
  refine ev_nmr cl_82 ?_
  refine ev_dup dX9_init_108 rfl ?_
  refine ev_callI (st := [.ref 39, .int 1, .ref 34]) (sh1 := cs_89) ci_23 mi_X6_init_i (Or.inr ⟨_, ml_RX9_54⟩) dX9_init_109 (by decide) rfl (by decide) ⟨by decide, by decide⟩ (by decide +kernel) (by decide +kernel) (by decide +kernel) (by decide +kernel) ?_
  refine ev_aastore (sh1 := cs_90) (by decide +kernel : cs_89[34]? = some (104, 8, [some 35, none, none, none, none, none, none, none])) (by decide +kernel : cs_89[39]? = some (6, 5, [some 40, some 41, some 42, none, none])) (by decide) (Or.inr ⟨rfl, rfl⟩) rfl (by unfold vp_in; decide) (by decide) (by decide +kernel) dX9_init_112 ?_
  refine ev_iinc (y := 2) dX9_init_113 rfl (by decide) rfl rfl ?_
  refine ev_goto (t := 94) dX9_init_116 (by decide) ?_
  refine ev_iload_n dX9_init_94 rfl ?_
  refine ev_bipush (x := 8) dX9_init_95 (by decide) ?_
  refine ev_icmp_ge (t := 119) dX9_init_97 (by decide) (fun hc => absurd hc (by decide)) (fun _ => ?_)
  refine ev_aload_n dX9_init_100 rfl ?_
  refine ev_getr (o' := 34) fl_RX9_50 (by decide +kernel : cs_90[0]? = some (9, 9, [some 1, some 24, some 26, some 30, some 31, some 34, none, none, none])) (by decide) (by decide) rfl rfl dX9_init_101 ?_
  refine ev_iload_n dX9_init_104 rfl ?_
  refine ev_new (sh1 := cs_91) nc_RX9_48 cc_90 (ab_z_up cz_6 (by decide +kernel)) rfl (by decide +kernel) (by decide +kernel) (by decide +kernel) (by decide +kernel) (by decide) (by decide) dX9_init_105 ?_
  refine ev_nmr cl_90 ?_
  refine ev_dup dX9_init_108 rfl ?_
  refine ev_callI (st := [.ref 43, .int 2, .ref 34]) (sh1 := cs_97) ci_25 mi_X6_init_i (Or.inr ⟨_, ml_RX9_54⟩) dX9_init_109 (by decide) rfl (by decide) ⟨by decide, by decide⟩ (by decide +kernel) (by decide +kernel) (by decide +kernel) (by decide +kernel) ?_
  refine ev_aastore (sh1 := cs_98) (by decide +kernel : cs_97[34]? = some (104, 8, [some 35, some 39, none, none, none, none, none, none])) (by decide +kernel : cs_97[43]? = some (6, 5, [some 44, some 45, some 46, none, none])) (by decide) (Or.inr ⟨rfl, rfl⟩) rfl (by unfold vp_in; decide) (by decide) (by decide +kernel) dX9_init_112 ?_
  refine ev_iinc (y := 3) dX9_init_113 rfl (by decide) rfl rfl ?_
  refine ev_goto (t := 94) dX9_init_116 (by decide) ?_
  refine ev_iload_n dX9_init_94 rfl ?_
  refine ev_bipush (x := 8) dX9_init_95 (by decide) ?_
  refine ev_icmp_ge (t := 119) dX9_init_97 (by decide) (fun hc => absurd hc (by decide)) (fun _ => ?_)
  refine ev_aload_n dX9_init_100 rfl ?_
  refine ev_getr (o' := 34) fl_RX9_50 (by decide +kernel : cs_98[0]? = some (9, 9, [some 1, some 24, some 26, some 30, some 31, some 34, none, none, none])) (by decide) (by decide) rfl rfl dX9_init_101 ?_
  refine ev_iload_n dX9_init_104 rfl ?_
  refine ev_new (sh1 := cs_99) nc_RX9_48 cc_98 (ab_z_up cz_7 (by decide +kernel)) rfl (by decide +kernel) (by decide +kernel) (by decide +kernel) (by decide +kernel) (by decide) (by decide) dX9_init_105 ?_
  refine ev_nmr cl_98 ?_
  refine ev_dup dX9_init_108 rfl ?_
  refine ev_callI (st := [.ref 47, .int 3, .ref 34]) (sh1 := cs_105) ci_27 mi_X6_init_i (Or.inr ⟨_, ml_RX9_54⟩) dX9_init_109 (by decide) rfl (by decide) ⟨by decide, by decide⟩ (by decide +kernel) (by decide +kernel) (by decide +kernel) (by decide +kernel) ?_
  refine ev_aastore (sh1 := cs_106) (by decide +kernel : cs_105[34]? = some (104, 8, [some 35, some 39, some 43, none, none, none, none, none])) (by decide +kernel : cs_105[47]? = some (6, 5, [some 48, some 49, some 50, none, none])) (by decide) (Or.inr ⟨rfl, rfl⟩) rfl (by unfold vp_in; decide) (by decide) (by decide +kernel) dX9_init_112 ?_
  refine ev_iinc (y := 4) dX9_init_113 rfl (by decide) rfl rfl ?_
  refine ev_goto (t := 94) dX9_init_116 (by decide) ?_
  refine ev_iload_n dX9_init_94 rfl ?_
  refine ev_bipush (x := 8) dX9_init_95 (by decide) ?_
  refine ev_icmp_ge (t := 119) dX9_init_97 (by decide) (fun hc => absurd hc (by decide)) (fun _ => ?_)
  refine ev_aload_n dX9_init_100 rfl ?_
  refine ev_getr (o' := 34) fl_RX9_50 (by decide +kernel : cs_106[0]? = some (9, 9, [some 1, some 24, some 26, some 30, some 31, some 34, none, none, none])) (by decide) (by decide) rfl rfl dX9_init_101 ?_
  refine ev_iload_n dX9_init_104 rfl ?_
  refine ev_new (sh1 := cs_107) nc_RX9_48 cc_106 (ab_z_up cz_8 (by decide +kernel)) rfl (by decide +kernel) (by decide +kernel) (by decide +kernel) (by decide +kernel) (by decide) (by decide) dX9_init_105 ?_
  refine ev_nmr cl_106 ?_
  refine ev_dup dX9_init_108 rfl ?_
  refine ev_callI (st := [.ref 51, .int 4, .ref 34]) (sh1 := cs_113) ci_29 mi_X6_init_i (Or.inr ⟨_, ml_RX9_54⟩) dX9_init_109 (by decide) rfl (by decide) ⟨by decide, by decide⟩ (by decide +kernel) (by decide +kernel) (by decide +kernel) (by decide +kernel) ?_
  refine ev_aastore (sh1 := cs_114) (by decide +kernel : cs_113[34]? = some (104, 8, [some 35, some 39, some 43, some 47, none, none, none, none])) (by decide +kernel : cs_113[51]? = some (6, 5, [some 52, some 53, some 54, none, none])) (by decide) (Or.inr ⟨rfl, rfl⟩) rfl (by unfold vp_in; decide) (by decide) (by decide +kernel) dX9_init_112 ?_
  refine ev_iinc (y := 5) dX9_init_113 rfl (by decide) rfl rfl ?_
  refine ev_goto (t := 94) dX9_init_116 (by decide) ?_
  refine ev_iload_n dX9_init_94 rfl ?_
  refine ev_bipush (x := 8) dX9_init_95 (by decide) ?_
  refine ev_icmp_ge (t := 119) dX9_init_97 (by decide) (fun hc => absurd hc (by decide)) (fun _ => ?_)
  refine ev_aload_n dX9_init_100 rfl ?_
  refine ev_getr (o' := 34) fl_RX9_50 (by decide +kernel : cs_114[0]? = some (9, 9, [some 1, some 24, some 26, some 30, some 31, some 34, none, none, none])) (by decide) (by decide) rfl rfl dX9_init_101 ?_
  refine ev_iload_n dX9_init_104 rfl ?_
  refine ev_new (sh1 := cs_115) nc_RX9_48 cc_114 (ab_z_up cz_9 (by decide +kernel)) rfl (by decide +kernel) (by decide +kernel) (by decide +kernel) (by decide +kernel) (by decide) (by decide) dX9_init_105 ?_
  refine ev_nmr cl_114 ?_
  refine ev_dup dX9_init_108 rfl ?_
  refine ev_callI (st := [.ref 55, .int 5, .ref 34]) (sh1 := cs_121) ci_31 mi_X6_init_i (Or.inr ⟨_, ml_RX9_54⟩) dX9_init_109 (by decide) rfl (by decide) ⟨by decide, by decide⟩ (by decide +kernel) (by decide +kernel) (by decide +kernel) (by decide +kernel) ?_
  refine ev_aastore (sh1 := cs_122) (by decide +kernel : cs_121[34]? = some (104, 8, [some 35, some 39, some 43, some 47, some 51, none, none, none])) (by decide +kernel : cs_121[55]? = some (6, 5, [some 56, some 57, some 58, none, none])) (by decide) (Or.inr ⟨rfl, rfl⟩) rfl (by unfold vp_in; decide) (by decide) (by decide +kernel) dX9_init_112 ?_
  refine ev_iinc (y := 6) dX9_init_113 rfl (by decide) rfl rfl ?_
  refine ev_goto (t := 94) dX9_init_116 (by decide) ?_
  refine ev_iload_n dX9_init_94 rfl ?_
  refine ev_bipush (x := 8) dX9_init_95 (by decide) ?_
  refine ev_icmp_ge (t := 119) dX9_init_97 (by decide) (fun hc => absurd hc (by decide)) (fun _ => ?_)
  refine ev_aload_n dX9_init_100 rfl ?_
  refine ev_getr (o' := 34) fl_RX9_50 (by decide +kernel : cs_122[0]? = some (9, 9, [some 1, some 24, some 26, some 30, some 31, some 34, none, none, none])) (by decide) (by decide) rfl rfl dX9_init_101 ?_
  refine ev_iload_n dX9_init_104 rfl ?_
  refine ev_new (sh1 := cs_123) nc_RX9_48 cc_122 (ab_z_up cz_10 (by decide +kernel)) rfl (by decide +kernel) (by decide +kernel) (by decide +kernel) (by decide +kernel) (by decide) (by decide) dX9_init_105 ?_
  refine ev_nmr cl_122 ?_
  refine ev_dup dX9_init_108 rfl ?_
  refine ev_callI (st := [.ref 59, .int 6, .ref 34]) (sh1 := cs_129) ci_33 mi_X6_init_i (Or.inr ⟨_, ml_RX9_54⟩) dX9_init_109 (by decide) rfl (by decide) ⟨by decide, by decide⟩ (by decide +kernel) (by decide +kernel) (by decide +kernel) (by decide +kernel) ?_
  refine ev_aastore (sh1 := cs_130) (by decide +kernel : cs_129[34]? = some (104, 8, [some 35, some 39, some 43, some 47, some 51, some 55, none, none])) (by decide +kernel : cs_129[59]? = some (6, 5, [some 60, some 61, some 62, none, none])) (by decide) (Or.inr ⟨rfl, rfl⟩) rfl (by unfold vp_in; decide) (by decide) (by decide +kernel) dX9_init_112 ?_
  refine ev_iinc (y := 7) dX9_init_113 rfl (by decide) rfl rfl ?_
  refine ev_goto (t := 94) dX9_init_116 (by decide) ?_
  refine ev_iload_n dX9_init_94 rfl ?_
  refine ev_bipush (x := 8) dX9_init_95 (by decide) ?_
  refine ev_icmp_ge (t := 119) dX9_init_97 (by decide) (fun hc => absurd hc (by decide)) (fun _ => ?_)
  refine ev_aload_n dX9_init_100 rfl ?_
  refine ev_getr (o' := 34) fl_RX9_50 (by decide +kernel : cs_130[0]? = some (9, 9, [some 1, some 24, some 26, some 30, some 31, some 34, none, none, none])) (by decide) (by decide) rfl rfl dX9_init_101 ?_
  refine ev_iload_n dX9_init_104 rfl ?_
  refine ev_new (sh1 := cs_131) nc_RX9_48 cc_130 (ab_z_up cz_11 (by decide +kernel)) rfl (by decide +kernel) (by decide +kernel) (by decide +kernel) (by decide +kernel) (by decide) (by decide) dX9_init_105 ?_
  refine ev_nmr cl_130 ?_
  refine ev_dup dX9_init_108 rfl ?_
  refine ev_callI (st := [.ref 63, .int 7, .ref 34]) (sh1 := cs_137) ci_35 mi_X6_init_i (Or.inr ⟨_, ml_RX9_54⟩) dX9_init_109 (by decide) rfl (by decide) ⟨by decide, by decide⟩ (by decide +kernel) (by decide +kernel) (by decide +kernel) (by decide +kernel) ?_
  refine ev_aastore (sh1 := cs_138) (by decide +kernel : cs_137[34]? = some (104, 8, [some 35, some 39, some 43, some 47, some 51, some 55, some 59, none])) (by decide +kernel : cs_137[63]? = some (6, 5, [some 64, some 65, some 66, none, none])) (by decide) (Or.inr ⟨rfl, rfl⟩) rfl (by unfold vp_in; decide) (by decide) (by decide +kernel) dX9_init_112 ?_
  refine ev_iinc (y := 8) dX9_init_113 rfl (by decide) rfl rfl ?_
  refine ev_goto (t := 94) dX9_init_116 (by decide) ?_
  refine ev_iload_n dX9_init_94 rfl ?_
  refine ev_bipush (x := 8) dX9_init_95 (by decide) ?_
  refine ev_icmp_ge (t := 119) dX9_init_97 (by decide) (fun _ => ?_) (fun hc => absurd (by decide) hc)
  refine ev_aload_n dX9_init_119 rfl ?_
  refine ev_bipush (x := 16) dX9_init_120 (by decide) ?_
  refine ev_newai (N := 16) (sh1 := cs_139) gA_int (by decide) (by decide) (by decide) cc_138 (ab_z_up cz_12 (by decide +kernel)) rfl (by decide +kernel) (by decide +kernel) (by decide +kernel) (by decide +kernel) (by decide) (by decide) dX9_init_122 ?_
  refine ev_nmr cl_138 ?_
  refine ev_putr (sh1 := cs_140) fp_RX9_55 (by decide +kernel : cs_139[0]? = some (9, 9, [some 1, some 24, some 26, some 30, some 31, some 34, none, none, none])) (by decide) (by decide) (by decide) rfl rfl (fun _ => rfl) (fun _ => rfl) (by decide +kernel) dX9_init_124 ?_
  refine ev_aload_n dX9_init_127 rfl ?_
  refine ev_bipush (x := 16) dX9_init_128 (by decide) ?_
  refine ev_newai (N := 16) (sh1 := cs_141) gA_int (by decide) (by decide) (by decide) cc_140 (ab_z_up cz_12 (by decide +kernel)) rfl (by decide +kernel) (by decide +kernel) (by decide +kernel) (by decide +kernel) (by decide) (by decide) dX9_init_130 ?_
  refine ev_nmr cl_140 ?_
  refine ev_putr (sh1 := cs_142) fp_RX9_59 (by decide +kernel : cs_141[0]? = some (9, 9, [some 1, some 24, some 26, some 30, some 31, some 34, some 67, none, none])) (by decide) (by decide) (by decide) rfl rfl (fun _ => rfl) (fun _ => rfl) (by decide +kernel) dX9_init_132 ?_
  refine ev_aload_n dX9_init_135 rfl ?_
  refine ev_getr (o' := 67) fl_RX9_55 (by decide +kernel : cs_142[0]? = some (9, 9, [some 1, some 24, some 26, some 30, some 31, some 34, some 67, some 68, none])) (by decide) (by decide) rfl rfl dX9_init_136 ?_
  refine ev_bipush (x := (-2)) dX9_init_139 (by decide) ?_
  refine ev_callS (st := []) (co_fill16 cm_12 67 (by decide +kernel) (-2) _ (mi_fill16 cm_12 67 (-2))) mv_J7_fill_53178 ml_RX9_62 dX9_init_141 (by decide) rfl (by decide) ⟨by decide, by decide⟩ ?_
  refine ev_aload_n dX9_init_144 rfl ?_
  refine ev_getr (o' := 68) fl_RX9_59 (by decide +kernel : cs_142[0]? = some (9, 9, [some 1, some 24, some 26, some 30, some 31, some 34, some 67, some 68, none])) (by decide) (by decide) rfl rfl dX9_init_145 ?_
  refine ev_bipush (x := (-2)) dX9_init_148 (by decide) ?_
  refine ev_callS (st := []) (co_fill16 cm_13 68 (by decide +kernel) (-2) _ (mi_fill16 cm_13 68 (-2))) mv_J7_fill_53178 ml_RX9_62 dX9_init_150 (by decide) rfl (by decide) ⟨by decide, by decide⟩ ?_
  refine ev_aload_n dX9_init_153 rfl ?_
  refine ev_iconst (x := (-1)) dX9_init_154 (by decide) ?_
  refine ev_puti fl_RX9_68 (by decide +kernel : cs_142[0]? = some (9, 9, [some 1, some 24, some 26, some 30, some 31, some 34, some 67, some 68, none])) (by decide) (by decide) rfl rfl rfl dX9_init_155 ?_
  exact ev_return rfl dX9_init_158
set_option maxHeartbeats 4000000 in
set_option maxRecDepth 100000 in
theorem ci_37 {l : Launch} {D : va_G} {ac : Nat → ClassId} : ab_Con l D ac 1 me_X10_init 26 1186 [.ref 69] cs_143 cm_15 (none, cs_195, cm_19) := by
  refine ab_intro (lv := [some (.ref 69)]) (by decide) rfl (Nat.le_of_ble_eq_true rfl) rfl ?_
  refine ev_aload_n dX10_init_0 rfl ?_
  refine ev_objInit ml_RX10_1 gO_i gO_c dX10_init_1 (by decide) (by decide) ?_
  refine ev_aload_n dX10_init_4 rfl ?_
  refine ev_bipush (x := 12) dX10_init_5 (by decide) ?_
  refine ev_newai (N := 12) (sh1 := cs_144) gA_int (by decide) (by decide) (by decide) cc_143 (ab_z_up cz_15 (by decide +kernel)) rfl (by decide +kernel) (by decide +kernel) (by decide +kernel) (by decide +kernel) (by decide) (by decide) dX10_init_7 ?_
  refine ev_nmr cl_143 ?_
  refine ev_putr (sh1 := cs_145) fp_RX10_7 (by decide +kernel : cs_144[69]? = some (10, 39, [none, none, none, none, none, none, none, none, none, none, none, none, none, none, none, none, none, none, none, none, none, none, none, none, none, none, none, none, none, none, none, none, none, none, none, none, none, none, none])) (by decide) (by decide) (by decide) rfl rfl (fun _ => rfl) (fun _ => rfl) (by decide +kernel) dX10_init_9 ?_
  refine ev_aload_n dX10_init_12 rfl ?_
  refine ev_bipush (x := 12) dX10_init_13 (by decide) ?_
  refine ev_newai (N := 12) (sh1 := cs_146) gA_int (by decide) (by decide) (by decide) cc_145 (ab_z_up cz_15 (by decide +kernel)) rfl (by decide +kernel) (by decide +kernel) (by decide +kernel) (by decide +kernel) (by decide) (by decide) dX10_init_15 ?_
  refine ev_nmr cl_145 ?_
  refine ev_putr (sh1 := cs_147) fp_RX10_13 (by decide +kernel : cs_146[69]? = some (10, 39, [none, none, some 70, none, none, none, none, none, none, none, none, none, none, none, none, none, none, none, none, none, none, none, none, none, none, none, none, none, none, none, none, none, none, none, none, none, none, none, none])) (by decide) (by decide) (by decide) rfl rfl (fun _ => rfl) (fun _ => rfl) (by decide +kernel) dX10_init_17 ?_
  refine ev_aload_n dX10_init_20 rfl ?_
  refine ev_bipush (x := 12) dX10_init_21 (by decide) ?_
  refine ev_newai (N := 12) (sh1 := cs_148) gA_int (by decide) (by decide) (by decide) cc_147 (ab_z_up cz_15 (by decide +kernel)) rfl (by decide +kernel) (by decide +kernel) (by decide +kernel) (by decide +kernel) (by decide) (by decide) dX10_init_23 ?_
  refine ev_nmr cl_147 ?_
  refine ev_putr (sh1 := cs_149) fp_RX10_16 (by decide +kernel : cs_148[69]? = some (10, 39, [none, none, some 70, some 71, none, none, none, none, none, none, none, none, none, none, none, none, none, none, none, none, none, none, none, none, none, none, none, none, none, none, none, none, none, none, none, none, none, none, none])) (by decide) (by decide) (by decide) rfl rfl (fun _ => rfl) (fun _ => rfl) (by decide +kernel) dX10_init_25 ?_
  refine ev_aload_n dX10_init_28 rfl ?_
  refine ev_bipush (x := 12) dX10_init_29 (by decide) ?_
  refine ev_newai (N := 12) (sh1 := cs_150) gA_int (by decide) (by decide) (by decide) cc_149 (ab_z_up cz_15 (by decide +kernel)) rfl (by decide +kernel) (by decide +kernel) (by decide +kernel) (by decide +kernel) (by decide) (by decide) dX10_init_31 ?_
  refine ev_nmr cl_149 ?_
  refine ev_putr (sh1 := cs_151) fp_RX10_19 (by decide +kernel : cs_150[69]? = some (10, 39, [none, none, some 70, some 71, some 72, none, none, none, none, none, none, none, none, none, none, none, none, none, none, none, none, none, none, none, none, none, none, none, none, none, none, none, none, none, none, none, none, none, none])) (by decide) (by decide) (by decide) rfl rfl (fun _ => rfl) (fun _ => rfl) (by decide +kernel) dX10_init_33 ?_
  refine ev_aload_n dX10_init_36 rfl ?_
  refine ev_bipush (x := 12) dX10_init_37 (by decide) ?_
  refine ev_newai (N := 12) (sh1 := cs_152) gA_int (by decide) (by decide) (by decide) cc_151 (ab_z_up cz_15 (by decide +kernel)) rfl (by decide +kernel) (by decide +kernel) (by decide +kernel) (by decide +kernel) (by decide) (by decide) dX10_init_39 ?_
  refine ev_nmr cl_151 ?_
  refine ev_putr (sh1 := cs_153) fp_RX10_22 (by decide +kernel : cs_152[69]? = some (10, 39, [none, none, some 70, some 71, some 72, some 73, none, none, none, none, none, none, none, none, none, none, none, none, none, none, none, none, none, none, none, none, none, none, none, none, none, none, none, none, none, none, none, none, none])) (by decide) (by decide) (by decide) rfl rfl (fun _ => rfl) (fun _ => rfl) (by decide +kernel) dX10_init_41 ?_
  refine ev_aload_n dX10_init_44 rfl ?_
  refine ev_bipush (x := 12) dX10_init_45 (by decide) ?_
  refine ev_newai (N := 12) (sh1 := cs_154) gA_int (by decide) (by decide) (by decide) cc_153 (ab_z_up cz_15 (by decide +kernel)) rfl (by decide +kernel) (by decide +kernel) (by decide +kernel) (by decide +kernel) (by decide) (by decide) dX10_init_47 ?_
  refine ev_nmr cl_153 ?_
  refine ev_putr (sh1 := cs_155) fp_RX10_25 (by decide +kernel : cs_154[69]? = some (10, 39, [none, none, some 70, some 71, some 72, some 73, some 74, none, none, none, none, none, none, none, none, none, none, none, none, none, none, none, none, none, none, none, none, none, none, none, none, none, none, none, none, none, none, none, none])) (by decide) (by decide) (by decide) rfl rfl (fun _ => rfl) (fun _ => rfl) (by decide +kernel) dX10_init_49 ?_
  refine ev_aload_n dX10_init_52 rfl ?_
  refine ev_bipush (x := 12) dX10_init_53 (by decide) ?_
  refine ev_newai (N := 12) (sh1 := cs_156) gA_int (by decide) (by decide) (by decide) cc_155 (ab_z_up cz_15 (by decide +kernel)) rfl (by decide +kernel) (by decide +kernel) (by decide +kernel) (by decide +kernel) (by decide) (by decide) dX10_init_55 ?_
  refine ev_nmr cl_155 ?_
  refine ev_putr (sh1 := cs_157) fp_RX10_28 (by decide +kernel : cs_156[69]? = some (10, 39, [none, none, some 70, some 71, some 72, some 73, some 74, some 75, none, none, none, none, none, none, none, none, none, none, none, none, none, none, none, none, none, none, none, none, none, none, none, none, none, none, none, none, none, none, none])) (by decide) (by decide) (by decide) rfl rfl (fun _ => rfl) (fun _ => rfl) (by decide +kernel) dX10_init_57 ?_
  refine ev_aload_n dX10_init_60 rfl ?_
  refine ev_bipush (x := 12) dX10_init_61 (by decide) ?_
  refine ev_newai (N := 12) (sh1 := cs_158) gA_int (by decide) (by decide) (by decide) cc_157 (ab_z_up cz_15 (by decide +kernel)) rfl (by decide +kernel) (by decide +kernel) (by decide +kernel) (by decide +kernel) (by decide) (by decide) dX10_init_63 ?_
  refine ev_nmr cl_157 ?_
  refine ev_putr (sh1 := cs_159) fp_RX10_31 (by decide +kernel : cs_158[69]? = some (10, 39, [none, none, some 70, some 71, some 72, some 73, some 74, some 75, some 76, none, none, none, none, none, none, none, none, none, none, none, none, none, none, none, none, none, none, none, none, none, none, none, none, none, none, none, none, none, none])) (by decide) (by decide) (by decide) rfl rfl (fun _ => rfl) (fun _ => rfl) (by decide +kernel) dX10_init_65 ?_
  refine ev_aload_n dX10_init_68 rfl ?_
  refine ev_bipush (x := 16) dX10_init_69 (by decide) ?_
  refine ev_newai (N := 16) (sh1 := cs_160) gA_int (by decide) (by decide) (by decide) cc_159 (ab_z_up cz_15 (by decide +kernel)) rfl (by decide +kernel) (by decide +kernel) (by decide +kernel) (by decide +kernel) (by decide) (by decide) dX10_init_71 ?_
  refine ev_nmr cl_159 ?_
  refine ev_putr (sh1 := cs_161) fp_RX10_34 (by decide +kernel : cs_160[69]? = some (10, 39, [none, none, some 70, some 71, some 72, some 73, some 74, some 75, some 76, some 77, none, none, none, none, none, none, none, none, none, none, none, none, none, none, none, none, none, none, none, none, none, none, none, none, none, none, none, none, none])) (by decide) (by decide) (by decide) rfl rfl (fun _ => rfl) (fun _ => rfl) (by decide +kernel) dX10_init_73 ?_
  refine ev_aload_n dX10_init_76 rfl ?_
  refine ev_bipush (x := 16) dX10_init_77 (by decide) ?_
  refine ev_newai (N := 16) (sh1 := cs_162) gA_int (by decide) (by decide) (by decide) cc_161 (ab_z_up cz_15 (by decide +kernel)) rfl (by decide +kernel) (by decide +kernel) (by decide +kernel) (by decide +kernel) (by decide) (by decide) dX10_init_79 ?_
  refine ev_nmr cl_161 ?_
  refine ev_putr (sh1 := cs_163) fp_RX10_37 (by decide +kernel : cs_162[69]? = some (10, 39, [none, none, some 70, some 71, some 72, some 73, some 74, some 75, some 76, some 77, none, some 78, none, none, none, none, none, none, none, none, none, none, none, none, none, none, none, none, none, none, none, none, none, none, none, none, none, none, none])) (by decide) (by decide) (by decide) rfl rfl (fun _ => rfl) (fun _ => rfl) (by decide +kernel) dX10_init_81 ?_
  refine ev_aload_n dX10_init_84 rfl ?_
  refine ev_bipush (x := 16) dX10_init_85 (by decide) ?_
  refine ev_newai (N := 16) (sh1 := cs_164) gA_int (by decide) (by decide) (by decide) cc_163 (ab_z_up cz_15 (by decide +kernel)) rfl (by decide +kernel) (by decide +kernel) (by decide +kernel) (by decide +kernel) (by decide) (by decide) dX10_init_87 ?_
  refine ev_nmr cl_163 ?_
  refine ev_putr (sh1 := cs_165) fp_RX10_40 (by decide +kernel : cs_164[69]? = some (10, 39, [none, none, some 70, some 71, some 72, some 73, some 74, some 75, some 76, some 77, none, some 78, some 79, none, none, none, none, none, none, none, none, none, none, none, none, none, none, none, none, none, none, none, none, none, none, none, none, none, none])) (by decide) (by decide) (by decide) rfl rfl (fun _ => rfl) (fun _ => rfl) (by decide +kernel) dX10_init_89 ?_
  refine ev_aload_n dX10_init_92 rfl ?_
  refine ev_bipush (x := 8) dX10_init_93 (by decide) ?_
  refine ev_newai (N := 8) (sh1 := cs_166) gA_int (by decide) (by decide) (by decide) cc_165 (ab_z_up cz_15 (by decide +kernel)) rfl (by decide +kernel) (by decide +kernel) (by decide +kernel) (by decide +kernel) (by decide) (by decide) dX10_init_95 ?_
  refine ev_nmr cl_165 ?_
  refine ev_putr (sh1 := cs_167) fp_RX10_43 (by decide +kernel : cs_166[69]? = some (10, 39, [none, none, some 70, some 71, some 72, some 73, some 74, some 75, some 76, some 77, none, some 78, some 79, some 80, none, none, none, none, none, none, none, none, none, none, none, none, none, none, none, none, none, none, none, none, none, none, none, none, none])) (by decide) (by decide) (by decide) rfl rfl (fun _ => rfl) (fun _ => rfl) (by decide +kernel) dX10_init_97 ?_
  refine ev_aload_n dX10_init_100 rfl ?_
  refine ev_bipush (x := 8) dX10_init_101 (by decide) ?_
  refine ev_newai (N := 8) (sh1 := cs_168) gA_int (by decide) (by decide) (by decide) cc_167 (ab_z_up cz_15 (by decide +kernel)) rfl (by decide +kernel) (by decide +kernel) (by decide +kernel) (by decide +kernel) (by decide) (by decide) dX10_init_103 ?_
  refine ev_nmr cl_167 ?_
  refine ev_putr (sh1 := cs_169) fp_RX10_46 (by decide +kernel : cs_168[69]? = some (10, 39, [none, none, some 70, some 71, some 72, some 73, some 74, some 75, some 76, some 77, none, some 78, some 79, some 80, none, some 81, none, none, none, none, none, none, none, none, none, none, none, none, none, none, none, none, none, none, none, none, none, none, none])) (by decide) (by decide) (by decide) rfl rfl (fun _ => rfl) (fun _ => rfl) (by decide +kernel) dX10_init_105 ?_
  refine ev_aload_n dX10_init_108 rfl ?_
  refine ev_bipush (x := 8) dX10_init_109 (by decide) ?_
  refine ev_newai (N := 8) (sh1 := cs_170) gA_int (by decide) (by decide) (by decide) cc_169 (ab_z_up cz_15 (by decide +kernel)) rfl (by decide +kernel) (by decide +kernel) (by decide +kernel) (by decide +kernel) (by decide) (by decide) dX10_init_111 ?_
  refine ev_nmr cl_169 ?_
  refine ev_putr (sh1 := cs_171) fp_RX10_49 (by decide +kernel : cs_170[69]? = some (10, 39, [none, none, some 70, some 71, some 72, some 73, some 74, some 75, some 76, some 77, none, some 78, some 79, some 80, none, some 81, some 82, none, none, none, none, none, none, none, none, none, none, none, none, none, none, none, none, none, none, none, none, none, none])) (by decide) (by decide) (by decide) rfl rfl (fun _ => rfl) (fun _ => rfl) (by decide +kernel) dX10_init_113 ?_
  refine ev_aload_n dX10_init_116 rfl ?_
  refine ev_iconst (x := 2) dX10_init_117 (by decide) ?_
  refine ev_puti fl_RX10_52 (by decide +kernel : cs_171[69]? = some (10, 39, [none, none, some 70, some 71, some 72, some 73, some 74, some 75, some 76, some 77, none, some 78, some 79, some 80, none, some 81, some 82, some 83, none, none, none, none, none, none, none, none, none, none, none, none, none, none, none, none, none, none, none, none, none])) (by decide) (by decide) rfl rfl rfl dX10_init_118 ?_
  refine ev_aload_n dX10_init_121 rfl ?_
  refine ev_iconst (x := (-1)) dX10_init_122 (by decide) ?_
  refine ev_puti fl_RX10_56 (by decide +kernel : cs_171[69]? = some (10, 39, [none, none, some 70, some 71, some 72, some 73, some 74, some 75, some 76, some 77, none, some 78, some 79, some 80, none, some 81, some 82, some 83, none, none, none, none, none, none, none, none, none, none, none, none, none, none, none, none, none, none, none, none, none])) (by decide) (by decide) rfl rfl rfl dX10_init_123 ?_
  refine ev_aload_n dX10_init_126 rfl ?_
  refine ev_iconst (x := (-1)) dX10_init_127 (by decide) ?_
  refine ev_puti fl_RX10_59 (by decide +kernel : cs_171[69]? = some (10, 39, [none, none, some 70, some 71, some 72, some 73, some 74, some 75, some 76, some 77, none, some 78, some 79, some 80, none, some 81, some 82, some 83, none, none, none, none, none, none, none, none, none, none, none, none, none, none, none, none, none, none, none, none, none])) (by decide) (by decide) rfl rfl rfl dX10_init_128 ?_
  refine ev_aload_n dX10_init_131 rfl ?_
  refine ev_bipush (x := 12) dX10_init_132 (by decide) ?_
  refine ev_newai (N := 12) (sh1 := cs_172) gA_int (by decide) (by decide) (by decide) cc_171 (ab_z_up cz_18 (by decide +kernel)) rfl (by decide +kernel) (by decide +kernel) (by decide +kernel) (by decide +kernel) (by decide) (by decide) dX10_init_134 ?_
  refine ev_nmr cl_171 ?_
  refine ev_putr (sh1 := cs_173) fp_RX10_62 (by decide +kernel : cs_172[69]? = some (10, 39, [none, none, some 70, some 71, some 72, some 73, some 74, some 75, some 76, some 77, none, some 78, some 79, some 80, none, some 81, some 82, some 83, none, none, none, none, none, none, none, none, none, none, none, none, none, none, none, none, none, none, none, none, none])) (by decide) (by decide) (by decide) rfl rfl (fun _ => rfl) (fun _ => rfl) (by decide +kernel) dX10_init_136 ?_
  refine ev_aload_n dX10_init_139 rfl ?_
  refine ev_bipush (x := 16) dX10_init_140 (by decide) ?_
  refine ev_newai (N := 16) (sh1 := cs_174) gA_int (by decide) (by decide) (by decide) cc_173 (ab_z_up cz_18 (by decide +kernel)) rfl (by decide +kernel) (by decide +kernel) (by decide +kernel) (by decide +kernel) (by decide) (by decide) dX10_init_142 ?_
  refine ev_nmr cl_173 ?_
  refine ev_putr (sh1 := cs_175) fp_RX10_65 (by decide +kernel : cs_174[69]? = some (10, 39, [none, none, some 70, some 71, some 72, some 73, some 74, some 75, some 76, some 77, none, some 78, some 79, some 80, none, some 81, some 82, some 83, none, none, none, none, none, none, some 84, none, none, none, none, none, none, none, none, none, none, none, none, none, none])) (by decide) (by decide) (by decide) rfl rfl (fun _ => rfl) (fun _ => rfl) (by decide +kernel) dX10_init_144 ?_
  refine ev_aload_n dX10_init_147 rfl ?_
  refine ev_bipush (x := 6) dX10_init_148 (by decide) ?_
  refine ev_newai (N := 6) (sh1 := cs_176) gA_int (by decide) (by decide) (by decide) cc_175 (ab_z_up cz_18 (by decide +kernel)) rfl (by decide +kernel) (by decide +kernel) (by decide +kernel) (by decide +kernel) (by decide) (by decide) dX10_init_150 ?_
  refine ev_nmr cl_175 ?_
  refine ev_putr (sh1 := cs_177) fp_RX10_68 (by decide +kernel : cs_176[69]? = some (10, 39, [none, none, some 70, some 71, some 72, some 73, some 74, some 75, some 76, some 77, none, some 78, some 79, some 80, none, some 81, some 82, some 83, none, none, none, none, none, none, some 84, none, none, some 85, none, none, none, none, none, none, none, none, none, none, none])) (by decide) (by decide) (by decide) rfl rfl (fun _ => rfl) (fun _ => rfl) (by decide +kernel) dX10_init_152 ?_
  refine ev_aload_n dX10_init_155 rfl ?_
  refine ev_sipush (x := 384) dX10_init_156 (by decide) ?_
  refine ev_newai (N := 384) (sh1 := cs_178) gA_int (by decide) (by decide) (by decide) cc_177 (ab_z_up cz_18 (by decide +kernel)) rfl (by decide +kernel) (by decide +kernel) (by decide +kernel) (by decide +kernel) (by decide) (by decide) dX10_init_159 ?_
  refine ev_nmr cl_177 ?_
  refine ev_putr (sh1 := cs_179) fp_RX10_71 (by decide +kernel : cs_178[69]? = some (10, 39, [none, none, some 70, some 71, some 72, some 73, some 74, some 75, some 76, some 77, none, some 78, some 79, some 80, none, some 81, some 82, some 83, none, none, none, none, none, none, some 84, none, none, some 85, some 86, none, none, none, none, none, none, none, none, none, none])) (by decide) (by decide) (by decide) rfl rfl (fun _ => rfl) (fun _ => rfl) (by decide +kernel) dX10_init_161 ?_
  refine ev_aload_n dX10_init_164 rfl ?_
  refine ev_bipush (x := 12) dX10_init_165 (by decide) ?_
  refine ev_newai (N := 12) (sh1 := cs_180) gA_int (by decide) (by decide) (by decide) cc_179 (ab_z_up cz_18 (by decide +kernel)) rfl (by decide +kernel) (by decide +kernel) (by decide +kernel) (by decide +kernel) (by decide) (by decide) dX10_init_167 ?_
  refine ev_nmr cl_179 ?_
  refine ev_putr (sh1 := cs_181) fp_RX10_74 (by decide +kernel : cs_180[69]? = some (10, 39, [none, none, some 70, some 71, some 72, some 73, some 74, some 75, some 76, some 77, none, some 78, some 79, some 80, none, some 81, some 82, some 83, none, none, none, none, none, none, some 84, none, none, some 85, some 86, some 87, none, none, none, none, none, none, none, none, none])) (by decide) (by decide) (by decide) rfl rfl (fun _ => rfl) (fun _ => rfl) (by decide +kernel) dX10_init_169 ?_
  refine ev_aload_n dX10_init_172 rfl ?_
  refine ev_iconst (x := (-1)) dX10_init_173 (by decide) ?_
  refine ev_puti fl_RX10_77 (by decide +kernel : cs_181[69]? = some (10, 39, [none, none, some 70, some 71, some 72, some 73, some 74, some 75, some 76, some 77, none, some 78, some 79, some 80, none, some 81, some 82, some 83, none, none, none, none, none, none, some 84, none, none, some 85, some 86, some 87, some 88, none, none, none, none, none, none, none, none])) (by decide) (by decide) rfl rfl rfl dX10_init_174 ?_
  refine ev_aload_n dX10_init_177 rfl ?_
  refine ev_bipush (x := 16) dX10_init_178 (by decide) ?_
  refine ev_newai (N := 16) (sh1 := cs_182) gA_int (by decide) (by decide) (by decide) cc_181 (ab_z_up cz_19 (by decide +kernel)) rfl (by decide +kernel) (by decide +kernel) (by decide +kernel) (by decide +kernel) (by decide) (by decide) dX10_init_180 ?_
  refine ev_nmr cl_181 ?_
  refine ev_putr (sh1 := cs_183) fp_RX10_80 (by decide +kernel : cs_182[69]? = some (10, 39, [none, none, some 70, some 71, some 72, some 73, some 74, some 75, some 76, some 77, none, some 78, some 79, some 80, none, some 81, some 82, some 83, none, none, none, none, none, none, some 84, none, none, some 85, some 86, some 87, some 88, none, none, none, none, none, none, none, none])) (by decide) (by decide) (by decide) rfl rfl (fun _ => rfl) (fun _ => rfl) (by decide +kernel) dX10_init_182 ?_
  refine ev_aload_n dX10_init_185 rfl ?_
  refine ev_bipush (x := 8) dX10_init_186 (by decide) ?_
  refine ev_newai (N := 8) (sh1 := cs_184) gA_int (by decide) (by decide) (by decide) cc_183 (ab_z_up cz_19 (by decide +kernel)) rfl (by decide +kernel) (by decide +kernel) (by decide +kernel) (by decide +kernel) (by decide) (by decide) dX10_init_188 ?_
  refine ev_nmr cl_183 ?_
  refine ev_putr (sh1 := cs_185) fp_RX10_83 (by decide +kernel : cs_184[69]? = some (10, 39, [none, none, some 70, some 71, some 72, some 73, some 74, some 75, some 76, some 77, none, some 78, some 79, some 80, none, some 81, some 82, some 83, none, none, none, none, none, none, some 84, none, none, some 85, some 86, some 87, some 88, none, some 89, none, none, none, none, none, none])) (by decide) (by decide) (by decide) rfl rfl (fun _ => rfl) (fun _ => rfl) (by decide +kernel) dX10_init_190 ?_
  refine ev_aload_n dX10_init_193 rfl ?_
  refine ev_bipush (x := 8) dX10_init_194 (by decide) ?_
  refine ev_newai (N := 8) (sh1 := cs_186) gA_int (by decide) (by decide) (by decide) cc_185 (ab_z_up cz_19 (by decide +kernel)) rfl (by decide +kernel) (by decide +kernel) (by decide +kernel) (by decide +kernel) (by decide) (by decide) dX10_init_196 ?_
  refine ev_nmr cl_185 ?_
  refine ev_putr (sh1 := cs_187) fp_RX10_86 (by decide +kernel : cs_186[69]? = some (10, 39, [none, none, some 70, some 71, some 72, some 73, some 74, some 75, some 76, some 77, none, some 78, some 79, some 80, none, some 81, some 82, some 83, none, none, none, none, none, none, some 84, none, none, some 85, some 86, some 87, some 88, none, some 89, some 90, none, none, none, none, none])) (by decide) (by decide) (by decide) rfl rfl (fun _ => rfl) (fun _ => rfl) (by decide +kernel) dX10_init_198 ?_
  refine ev_aload_n dX10_init_201 rfl ?_
  refine ev_bipush (x := 8) dX10_init_202 (by decide) ?_
  refine ev_newai (N := 8) (sh1 := cs_188) gA_int (by decide) (by decide) (by decide) cc_187 (ab_z_up cz_19 (by decide +kernel)) rfl (by decide +kernel) (by decide +kernel) (by decide +kernel) (by decide +kernel) (by decide) (by decide) dX10_init_204 ?_
  refine ev_nmr cl_187 ?_
  refine ev_putr (sh1 := cs_189) fp_RX10_89 (by decide +kernel : cs_188[69]? = some (10, 39, [none, none, some 70, some 71, some 72, some 73, some 74, some 75, some 76, some 77, none, some 78, some 79, some 80, none, some 81, some 82, some 83, none, none, none, none, none, none, some 84, none, none, some 85, some 86, some 87, some 88, none, some 89, some 90, some 91, none, none, none, none])) (by decide) (by decide) (by decide) rfl rfl (fun _ => rfl) (fun _ => rfl) (by decide +kernel) dX10_init_206 ?_
  refine ev_aload_n dX10_init_209 rfl ?_
  refine ev_bipush (x := 8) dX10_init_210 (by decide) ?_
  refine ev_newai (N := 8) (sh1 := cs_190) gA_int (by decide) (by decide) (by decide) cc_189 (ab_z_up cz_19 (by decide +kernel)) rfl (by decide +kernel) (by decide +kernel) (by decide +kernel) (by decide +kernel) (by decide) (by decide) dX10_init_212 ?_
  refine ev_nmr cl_189 ?_
  refine ev_putr (sh1 := cs_191) fp_RX10_92 (by decide +kernel : cs_190[69]? = some (10, 39, [none, none, some 70, some 71, some 72, some 73, some 74, some 75, some 76, some 77, none, some 78, some 79, some 80, none, some 81, some 82, some 83, none, none, none, none, none, none, some 84, none, none, some 85, some 86, some 87, some 88, none, some 89, some 90, some 91, some 92, none, none, none])) (by decide) (by decide) (by decide) rfl rfl (fun _ => rfl) (fun _ => rfl) (by decide +kernel) dX10_init_214 ?_
  refine ev_aload_n dX10_init_217 rfl ?_
  refine ev_sipush (x := 480) dX10_init_218 (by decide) ?_
  refine ev_newal (N := 480) (sh1 := cs_192) gA_long (by decide) (by decide) (by decide) cc_191 (ab_z_up cz_19 (by decide +kernel)) rfl (by decide +kernel) (by decide +kernel) (by decide +kernel) (by decide +kernel) (by decide) (by decide) dX10_init_221 ?_
  refine ev_nmr cl_191 ?_
  refine ev_putr (sh1 := cs_193) fp_RX10_95 (by decide +kernel : cs_192[69]? = some (10, 39, [none, none, some 70, some 71, some 72, some 73, some 74, some 75, some 76, some 77, none, some 78, some 79, some 80, none, some 81, some 82, some 83, none, none, none, none, none, none, some 84, none, none, some 85, some 86, some 87, some 88, none, some 89, some 90, some 91, some 92, some 93, none, none])) (by decide) (by decide) (by decide) rfl rfl (fun _ => rfl) (fun _ => rfl) (by decide +kernel) dX10_init_223 ?_
  refine ev_aload_n dX10_init_226 rfl ?_
  refine ev_bipush (x := 60) dX10_init_227 (by decide) ?_
  refine ev_newal (N := 60) (sh1 := cs_194) gA_long (by decide) (by decide) (by decide) cc_193 (ab_z_up cz_19 (by decide +kernel)) rfl (by decide +kernel) (by decide +kernel) (by decide +kernel) (by decide +kernel) (by decide) (by decide) dX10_init_229 ?_
  refine ev_nmr cl_193 ?_
  refine ev_putr (sh1 := cs_195) fp_RX10_99 (by decide +kernel : cs_194[69]? = some (10, 39, [none, none, some 70, some 71, some 72, some 73, some 74, some 75, some 76, some 77, none, some 78, some 79, some 80, none, some 81, some 82, some 83, none, none, none, none, none, none, some 84, none, none, some 85, some 86, some 87, some 88, none, some 89, some 90, some 91, some 92, some 93, some 94, none])) (by decide) (by decide) (by decide) rfl rfl (fun _ => rfl) (fun _ => rfl) (by decide +kernel) dX10_init_231 ?_
  exact ev_return rfl dX10_init_234
