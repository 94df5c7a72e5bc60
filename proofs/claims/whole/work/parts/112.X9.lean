noncomputable def mi_X9_mast (M : ab_M) (x1 : Int32) (x2 : Int32) (x3 : Int32) (x4 : Int32) : Option (Int32 × ab_M) :=
  (mi_X9_within M x1 0 3).bind fun q1 =>
  if q1 = 0 then
    some ((-1), M)
  else
    (mi_X9_isPlace M x2).bind fun q4 =>
    if q4 = 0 then
      some ((-1), M)
    else
      (mi_X9_within M x3 0 3).bind fun q7 =>
      if q7 = 0 then
        some ((-1), M)
      else
        (mi_X9_within M x4 1 3).bind fun q10 =>
        if q10 = 0 then
          some ((-1), M)
        else
          if 12 ≤ (M.1 1 7) then
            some ((-2), M)
          else
            if ((M.1 1 8) + x4) ≤ 16 then
              (mi_X3_addMast M x1 x2 x3 x4).bind fun q15 =>
              some (q15.1, q15.2)
            else
              some ((-2), M)

set_option maxHeartbeats 4000000 in
set_option maxRecDepth 100000 in
theorem co_X9_mast {l : Launch} {D : va_G} {ac : Nat → ClassId} (M : ab_M) (x1 : Int32) (x2 : Int32) (x3 : Int32) (x4 : Int32) (z : Int32 × ab_M) (h : mi_X9_mast M x1 x2 x3 x4 = some z) : ab_Con l D ac 6 me_X9_mast 0 0 [.ref 0, .int x1, .int x2, .int x3, .int x4] ab_SH M (some (.int z.1), ab_SH, z.2) := by
  refine ab_intro (lv := [some (.ref 0), some (.int x1), some (.int x2), some (.int x3), some (.int x4)]) (by decide) rfl (Nat.le_of_ble_eq_true rfl) rfl ?_
  unfold mi_X9_mast at h
  refine ev_iload_n dX9_mast_0 rfl ?_
  refine ev_iconst (x := 0) dX9_mast_1 (by decide) ?_
  refine ev_iconst (x := 3) dX9_mast_2 (by decide) ?_
  obtain ⟨q1, hv2, h⟩ := ab_bind h
  refine ev_callS (st := []) (co_X9_within M x1 0 3 _ hv2) mv_X9_within ml_RX9_72 dX9_mast_3 (by decide) rfl (Nat.le_of_ble_eq_true rfl) ⟨Nat.le_refl _, Nat.le_refl _⟩ ?_
  refine ev_if_eq (t := 35) dX9_mast_6 (by decide) (fun hc3 => ?_) (fun hc3 => ?_)
  · replace h := ab_pos hc3 h
    refine ev_iconst (x := (-1)) dX9_mast_35 (by decide) ?_
    cases h
    exact ev_ireturn rfl dX9_mast_36
  · replace h := ab_neg hc3 h
    refine ev_iload_n dX9_mast_9 rfl ?_
    obtain ⟨q4, hv5, h⟩ := ab_bind h
    refine ev_callS (st := []) (co_X9_isPlace M x2 _ hv5) mv_X9_isPlace ml_RX9_76 dX9_mast_10 (by decide) rfl (Nat.le_of_ble_eq_true rfl) ⟨Nat.le_refl _, Nat.le_refl _⟩ ?_
    refine ev_if_eq (t := 35) dX9_mast_13 (by decide) (fun hc6 => ?_) (fun hc6 => ?_)
    · replace h := ab_pos hc6 h
      refine ev_iconst (x := (-1)) dX9_mast_35 (by decide) ?_
      cases h
      exact ev_ireturn rfl dX9_mast_36
    · replace h := ab_neg hc6 h
      refine ev_iload_n dX9_mast_16 rfl ?_
      refine ev_iconst (x := 0) dX9_mast_17 (by decide) ?_
      refine ev_iconst (x := 3) dX9_mast_18 (by decide) ?_
      obtain ⟨q7, hv8, h⟩ := ab_bind h
      refine ev_callS (st := []) (co_X9_within M x3 0 3 _ hv8) mv_X9_within ml_RX9_72 dX9_mast_19 (by decide) rfl (Nat.le_of_ble_eq_true rfl) ⟨Nat.le_refl _, Nat.le_refl _⟩ ?_
      refine ev_if_eq (t := 35) dX9_mast_22 (by decide) (fun hc9 => ?_) (fun hc9 => ?_)
      · replace h := ab_pos hc9 h
        refine ev_iconst (x := (-1)) dX9_mast_35 (by decide) ?_
        cases h
        exact ev_ireturn rfl dX9_mast_36
      · replace h := ab_neg hc9 h
        refine ev_iload dX9_mast_25 rfl ?_
        refine ev_iconst (x := 1) dX9_mast_27 (by decide) ?_
        refine ev_iconst (x := 3) dX9_mast_28 (by decide) ?_
        obtain ⟨q10, hv11, h⟩ := ab_bind h
        refine ev_callS (st := []) (co_X9_within M x4 1 3 _ hv11) mv_X9_within ml_RX9_72 dX9_mast_29 (by decide) rfl (Nat.le_of_ble_eq_true rfl) ⟨Nat.le_refl _, Nat.le_refl _⟩ ?_
        refine ev_if_ne (t := 37) dX9_mast_32 (by decide) (fun hc12 => ?_) (fun hc12 => ?_)
        · replace h := ab_neg hc12 h
          refine ev_aload_n dX9_mast_37 rfl ?_
          refine ev_getr (o' := 1) fl_RX9_12 sh_0 (by decide) (by decide) rfl rfl dX9_mast_38 ?_
          refine ev_geti fl_RX9_80 sh_1 (by decide) (by decide) rfl dX9_mast_41 ?_
          refine ev_bipush (x := 12) dX9_mast_44 (by decide) ?_
          refine ev_icmp_ge (t := 64) dX9_mast_46 (by decide) (fun hc13 => ?_) (fun hc13 => ?_)
          · replace h := ab_pos hc13 h
            refine ev_bipush (x := (-2)) dX9_mast_64 (by decide) ?_
            cases h
            exact ev_ireturn rfl dX9_mast_66
          · replace h := ab_neg hc13 h
            refine ev_aload_n dX9_mast_49 rfl ?_
            refine ev_getr (o' := 1) fl_RX9_12 sh_0 (by decide) (by decide) rfl rfl dX9_mast_50 ?_
            refine ev_geti fl_RX9_83 sh_1 (by decide) (by decide) rfl dX9_mast_53 ?_
            refine ev_iload dX9_mast_56 rfl ?_
            refine ev_iadd dX9_mast_58 ?_
            refine ev_bipush (x := 16) dX9_mast_59 (by decide) ?_
            refine ev_icmp_le (t := 67) dX9_mast_61 (by decide) (fun hc14 => ?_) (fun hc14 => ?_)
            · replace h := ab_pos hc14 h
              refine ev_aload_n dX9_mast_67 rfl ?_
              refine ev_getr (o' := 1) fl_RX9_12 sh_0 (by decide) (by decide) rfl rfl dX9_mast_68 ?_
              refine ev_iload_n dX9_mast_71 rfl ?_
              refine ev_iload_n dX9_mast_72 rfl ?_
              refine ev_iload_n dX9_mast_73 rfl ?_
              refine ev_iload dX9_mast_74 rfl ?_
              obtain ⟨q15, hv16, h⟩ := ab_bind h
              refine ev_callV (st := []) (co_X3_addMast M x1 x2 x3 x4 _ hv16) mv_X3_addMast sh_1 ml_RX9_86 dX9_mast_76 (by decide) rfl (Nat.le_of_ble_eq_true rfl) ⟨Nat.le_refl _, Nat.le_refl _⟩ ?_
              cases h
              exact ev_ireturn rfl dX9_mast_79
            · replace h := ab_neg hc14 h
              refine ev_bipush (x := (-2)) dX9_mast_64 (by decide) ?_
              cases h
              exact ev_ireturn rfl dX9_mast_66
        · replace h := ab_pos hc12 h
          refine ev_iconst (x := (-1)) dX9_mast_35 (by decide) ?_
          cases h
          exact ev_ireturn rfl dX9_mast_36

noncomputable def mi_X9_move (M : ab_M) (x1 : Int32) (x2 : Int32) : Option (Int32 × ab_M) :=
  (mi_X3_hasMast M x1).bind fun q1 =>
  if q1 = 0 then
    some ((-1), M)
  else
    (mi_X9_isPlace M x2).bind fun q4 =>
    if q4 = 0 then
      some ((-1), M)
    else
      (mi_X3_shift M x1 x2).bind fun q7 =>
      some (q7.1, q7.2)

set_option maxHeartbeats 4000000 in
set_option maxRecDepth 100000 in
theorem co_X9_move {l : Launch} {D : va_G} {ac : Nat → ClassId} (M : ab_M) (x1 : Int32) (x2 : Int32) (z : Int32 × ab_M) (h : mi_X9_move M x1 x2 = some z) : ab_Con l D ac 6 me_X9_move 0 0 [.ref 0, .int x1, .int x2] ab_SH M (some (.int z.1), ab_SH, z.2) := by
  refine ab_intro (lv := [some (.ref 0), some (.int x1), some (.int x2)]) (by decide) rfl (Nat.le_of_ble_eq_true rfl) rfl ?_
  unfold mi_X9_move at h
  refine ev_aload_n dX9_move_0 rfl ?_
  refine ev_getr (o' := 1) fl_RX9_12 sh_0 (by decide) (by decide) rfl rfl dX9_move_1 ?_
  refine ev_iload_n dX9_move_4 rfl ?_
  obtain ⟨q1, hv2, h⟩ := ab_bind h
  refine ev_callV (st := []) (co_X3_hasMast M x1 _ hv2) mv_X3_hasMast sh_1 ml_RX9_90 dX9_move_5 (by decide) rfl (Nat.le_of_ble_eq_true rfl) ⟨Nat.le_refl _, Nat.le_refl _⟩ ?_
  refine ev_if_eq (t := 18) dX9_move_8 (by decide) (fun hc3 => ?_) (fun hc3 => ?_)
  · replace h := ab_pos hc3 h
    refine ev_iconst (x := (-1)) dX9_move_18 (by decide) ?_
    cases h
    exact ev_ireturn rfl dX9_move_19
  · replace h := ab_neg hc3 h
    refine ev_iload_n dX9_move_11 rfl ?_
    obtain ⟨q4, hv5, h⟩ := ab_bind h
    refine ev_callS (st := []) (co_X9_isPlace M x2 _ hv5) mv_X9_isPlace ml_RX9_76 dX9_move_12 (by decide) rfl (Nat.le_of_ble_eq_true rfl) ⟨Nat.le_refl _, Nat.le_refl _⟩ ?_
    refine ev_if_ne (t := 20) dX9_move_15 (by decide) (fun hc6 => ?_) (fun hc6 => ?_)
    · replace h := ab_neg hc6 h
      refine ev_aload_n dX9_move_20 rfl ?_
      refine ev_getr (o' := 1) fl_RX9_12 sh_0 (by decide) (by decide) rfl rfl dX9_move_21 ?_
      refine ev_iload_n dX9_move_24 rfl ?_
      refine ev_iload_n dX9_move_25 rfl ?_
      obtain ⟨q7, hv8, h⟩ := ab_bind h
      refine ev_callV (st := []) (co_X3_shift M x1 x2 _ hv8) mv_X3_shift sh_1 ml_RX9_93 dX9_move_26 (by decide) rfl (Nat.le_of_ble_eq_true rfl) ⟨Nat.le_refl _, Nat.le_refl _⟩ ?_
      cases h
      exact ev_ireturn rfl dX9_move_29
    · replace h := ab_pos hc6 h
      refine ev_iconst (x := (-1)) dX9_move_18 (by decide) ?_
      cases h
      exact ev_ireturn rfl dX9_move_19

noncomputable def mi_X9_list (M : ab_M) (x1 : Int32) (x2 : Int32) : Option (Int32 × ab_M) :=
  (mi_X3_hasMast M x1).bind fun q1 =>
  if q1 = 0 then
    some ((-1), M)
  else
    (mi_X9_within M x2 0 1073741823).bind fun q4 =>
    if q4 = 0 then
      some ((-1), M)
    else
      ab_chk (vp_in x1 12) <|
      (mi_J6_bitCount_0f7a4 (ab_pi M (12 + (x1).toNatClampNeg) 7 x2) x2).bind fun q8 =>
      some (q8, (ab_pi M (12 + (x1).toNatClampNeg) 7 x2))

set_option maxHeartbeats 4000000 in
set_option maxRecDepth 100000 in
theorem co_X9_list {l : Launch} {D : va_G} {ac : Nat → ClassId} (M : ab_M) (x1 : Int32) (x2 : Int32) (z : Int32 × ab_M) (h : mi_X9_list M x1 x2 = some z) : ab_Con l D ac 2 me_X9_list 0 0 [.ref 0, .int x1, .int x2] ab_SH M (some (.int z.1), ab_SH, z.2) := by
  refine ab_intro (lv := [some (.ref 0), some (.int x1), some (.int x2)]) (by decide) rfl (Nat.le_of_ble_eq_true rfl) rfl ?_
  unfold mi_X9_list at h
  refine ev_aload_n dX9_list_0 rfl ?_
  refine ev_getr (o' := 1) fl_RX9_12 sh_0 (by decide) (by decide) rfl rfl dX9_list_1 ?_
  refine ev_iload_n dX9_list_4 rfl ?_
  obtain ⟨q1, hv2, h⟩ := ab_bind h
  refine ev_callV (st := []) (co_X3_hasMast M x1 _ hv2) mv_X3_hasMast sh_1 ml_RX9_90 dX9_list_5 (by decide) rfl (Nat.le_of_ble_eq_true rfl) ⟨Nat.le_refl _, Nat.le_refl _⟩ ?_
  refine ev_if_eq (t := 21) dX9_list_8 (by decide) (fun hc3 => ?_) (fun hc3 => ?_)
  · replace h := ab_pos hc3 h
    refine ev_iconst (x := (-1)) dX9_list_21 (by decide) ?_
    cases h
    exact ev_ireturn rfl dX9_list_22
  · replace h := ab_neg hc3 h
    refine ev_iload_n dX9_list_11 rfl ?_
    refine ev_iconst (x := 0) dX9_list_12 (by decide) ?_
    refine ev_ldc kw_RX9_97 dX9_list_13 ?_
    obtain ⟨q4, hv5, h⟩ := ab_bind h
    refine ev_callS (st := []) (co_X9_within M x2 0 1073741823 _ hv5) mv_X9_within ml_RX9_72 dX9_list_15 (by decide) rfl (Nat.le_of_ble_eq_true rfl) ⟨Nat.le_refl _, Nat.le_refl _⟩ ?_
    refine ev_if_ne (t := 23) dX9_list_18 (by decide) (fun hc6 => ?_) (fun hc6 => ?_)
    · replace h := ab_neg hc6 h
      refine ev_aload_n dX9_list_23 rfl ?_
      refine ev_getr (o' := 1) fl_RX9_12 sh_0 (by decide) (by decide) rfl rfl dX9_list_24 ?_
      refine ev_getr (o' := 2) fl_RX9_98 sh_1 (by decide) (by decide) rfl rfl dX9_list_27 ?_
      refine ev_iload_n dX9_list_30 rfl ?_
      obtain ⟨hb7, h⟩ := ab_chk_some h
      refine ev_aaload sh_2 (Or.inl rfl) hb7 (rf_mast hb7) dX9_list_31 ?_
      refine ev_iload_n dX9_list_32 rfl ?_
      refine ev_puti fl_RX9_102 (sh_mast hb7) (by decide) (by decide) rfl rfl rfl dX9_list_33 ?_
      refine ev_iload_n dX9_list_36 rfl ?_
      obtain ⟨q8, hv9, h⟩ := ab_bind h
      refine ev_callS (st := []) (co_J6_bitCount_0f7a4 (ab_pi M (12 + (x1).toNatClampNeg) 7 x2) x2 _ hv9) mv_J6_bitCount_0f7a4 ml_RX9_107 dX9_list_37 (by decide) rfl (Nat.le_of_ble_eq_true rfl) ⟨Nat.le_refl _, Nat.le_refl _⟩ ?_
      cases h
      exact ev_ireturn rfl dX9_list_40
    · replace h := ab_pos hc6 h
      refine ev_iconst (x := (-1)) dX9_list_21 (by decide) ?_
      cases h
      exact ev_ireturn rfl dX9_list_22

noncomputable def mi_X9_gap (M : ab_M) (x1 : Int32) (x2 : Int32) : Option (Int32 × ab_M) :=
  (mi_X3_hasMast M x1).bind fun q1 =>
  if q1 = 0 then
    some ((-1), M)
  else
    ab_chk (vp_in x1 12) <|
    if (M.1 (12 + (x1).toNatClampNeg) 1) = 1 then
      (mi_X9_within M x2 1 10).bind fun q6 =>
      if q6 = 0 then
        some ((-1), M)
      else
        ab_chk (vp_in x1 12) <|
        ab_chk (vp_in x1 12) <|
        some (M.1 (12 + (x1).toNatClampNeg) 8, (ab_pi M (12 + (x1).toNatClampNeg) 8 x2))
    else
      some ((-1), M)

set_option maxHeartbeats 4000000 in
set_option maxRecDepth 100000 in
theorem co_X9_gap {l : Launch} {D : va_G} {ac : Nat → ClassId} (M : ab_M) (x1 : Int32) (x2 : Int32) (z : Int32 × ab_M) (h : mi_X9_gap M x1 x2 = some z) : ab_Con l D ac 2 me_X9_gap 0 0 [.ref 0, .int x1, .int x2] ab_SH M (some (.int z.1), ab_SH, z.2) := by
  refine ab_intro (lv := [some (.ref 0), some (.int x1), some (.int x2), none]) (by decide) rfl (Nat.le_of_ble_eq_true rfl) rfl ?_
  unfold mi_X9_gap at h
  refine ev_aload_n dX9_gap_0 rfl ?_
  refine ev_getr (o' := 1) fl_RX9_12 sh_0 (by decide) (by decide) rfl rfl dX9_gap_1 ?_
  refine ev_iload_n dX9_gap_4 rfl ?_
  obtain ⟨q1, hv2, h⟩ := ab_bind h
  refine ev_callV (st := []) (co_X3_hasMast M x1 _ hv2) mv_X3_hasMast sh_1 ml_RX9_90 dX9_gap_5 (by decide) rfl (Nat.le_of_ble_eq_true rfl) ⟨Nat.le_refl _, Nat.le_refl _⟩ ?_
  refine ev_if_eq (t := 37) dX9_gap_8 (by decide) (fun hc3 => ?_) (fun hc3 => ?_)
  · replace h := ab_pos hc3 h
    refine ev_iconst (x := (-1)) dX9_gap_37 (by decide) ?_
    cases h
    exact ev_ireturn rfl dX9_gap_38
  · replace h := ab_neg hc3 h
    refine ev_aload_n dX9_gap_11 rfl ?_
    refine ev_getr (o' := 1) fl_RX9_12 sh_0 (by decide) (by decide) rfl rfl dX9_gap_12 ?_
    refine ev_getr (o' := 2) fl_RX9_98 sh_1 (by decide) (by decide) rfl rfl dX9_gap_15 ?_
    refine ev_iload_n dX9_gap_18 rfl ?_
    obtain ⟨hb4, h⟩ := ab_chk_some h
    refine ev_aaload sh_2 (Or.inl rfl) hb4 (rf_mast hb4) dX9_gap_19 ?_
    refine ev_geti fl_RX9_113 (sh_mast hb4) (by decide) (by decide) rfl dX9_gap_20 ?_
    refine ev_iconst (x := 1) dX9_gap_23 (by decide) ?_
    refine ev_icmp_ne (t := 37) dX9_gap_24 (by decide) (fun hc5 => ?_) (fun hc5 => ?_)
    · replace h := ab_neg hc5 h
      refine ev_iconst (x := (-1)) dX9_gap_37 (by decide) ?_
      cases h
      exact ev_ireturn rfl dX9_gap_38
    · replace h := ab_pos hc5 h
      refine ev_iload_n dX9_gap_27 rfl ?_
      refine ev_iconst (x := 1) dX9_gap_28 (by decide) ?_
      refine ev_bipush (x := 10) dX9_gap_29 (by decide) ?_
      obtain ⟨q6, hv7, h⟩ := ab_bind h
      refine ev_callS (st := []) (co_X9_within M x2 1 10 _ hv7) mv_X9_within ml_RX9_72 dX9_gap_31 (by decide) rfl (Nat.le_of_ble_eq_true rfl) ⟨Nat.le_refl _, Nat.le_refl _⟩ ?_
      refine ev_if_ne (t := 39) dX9_gap_34 (by decide) (fun hc8 => ?_) (fun hc8 => ?_)
      · replace h := ab_neg hc8 h
        refine ev_aload_n dX9_gap_39 rfl ?_
        refine ev_getr (o' := 1) fl_RX9_12 sh_0 (by decide) (by decide) rfl rfl dX9_gap_40 ?_
        refine ev_getr (o' := 2) fl_RX9_98 sh_1 (by decide) (by decide) rfl rfl dX9_gap_43 ?_
        refine ev_iload_n dX9_gap_46 rfl ?_
        obtain ⟨hb9, h⟩ := ab_chk_some h
        refine ev_aaload sh_2 (Or.inl rfl) hb9 (rf_mast hb9) dX9_gap_47 ?_
        refine ev_geti fl_RX9_116 (sh_mast hb9) (by decide) (by decide) rfl dX9_gap_48 ?_
        refine ev_istore_n dX9_gap_51 (Nat.le_of_ble_eq_true rfl) rfl rfl ?_
        refine ev_aload_n dX9_gap_52 rfl ?_
        refine ev_getr (o' := 1) fl_RX9_12 sh_0 (by decide) (by decide) rfl rfl dX9_gap_53 ?_
        refine ev_getr (o' := 2) fl_RX9_98 sh_1 (by decide) (by decide) rfl rfl dX9_gap_56 ?_
        refine ev_iload_n dX9_gap_59 rfl ?_
        obtain ⟨hb10, h⟩ := ab_chk_some h
        refine ev_aaload sh_2 (Or.inl rfl) hb10 (rf_mast hb10) dX9_gap_60 ?_
        refine ev_iload_n dX9_gap_61 rfl ?_
        refine ev_puti fl_RX9_116 (sh_mast hb10) (by decide) (by decide) rfl rfl rfl dX9_gap_62 ?_
        refine ev_iload_n dX9_gap_65 rfl ?_
        cases h
        exact ev_ireturn rfl dX9_gap_66
      · replace h := ab_pos hc8 h
        refine ev_iconst (x := (-1)) dX9_gap_37 (by decide) ?_
        cases h
        exact ev_ireturn rfl dX9_gap_38

noncomputable def mi_X9_stay (M : ab_M) (x1 : Int32) (x2 : Int32) : Option (Int32 × ab_M) :=
  (mi_X3_hasWant M x1).bind fun q1 =>
  if q1 = 0 then
    some ((-1), M)
  else
    (mi_X3_kindOfWant M x1).bind fun q4 =>
    if q4 = 2 then
      (mi_X9_within M x2 (-1) 29).bind fun q7 =>
      if q7 = 0 then
        some ((-1), M)
      else
        ((if 0 ≤ x2 then
          some x2
        else
          some (-2)) : Option (Int32)).bind fun q10 =>
        ab_chk (vp_in x1 16) <|
        some (0, (ab_pi M 4 (x1).toNatClampNeg q10))
    else
      some ((-1), M)

set_option maxHeartbeats 4000000 in
set_option maxRecDepth 100000 in
theorem co_X9_stay {l : Launch} {D : va_G} {ac : Nat → ClassId} (M : ab_M) (x1 : Int32) (x2 : Int32) (z : Int32 × ab_M) (h : mi_X9_stay M x1 x2 = some z) : ab_Con l D ac 2 me_X9_stay 0 0 [.ref 0, .int x1, .int x2] ab_SH M (some (.int z.1), ab_SH, z.2) := by
  refine ab_intro (lv := [some (.ref 0), some (.int x1), some (.int x2)]) (by decide) rfl (Nat.le_of_ble_eq_true rfl) rfl ?_
  unfold mi_X9_stay at h
  refine ev_aload_n dX9_stay_0 rfl ?_
  refine ev_getr (o' := 1) fl_RX9_12 sh_0 (by decide) (by decide) rfl rfl dX9_stay_1 ?_
  refine ev_iload_n dX9_stay_4 rfl ?_
  obtain ⟨q1, hv2, h⟩ := ab_bind h
  refine ev_callV (st := []) (co_X3_hasWant M x1 _ hv2) mv_X3_hasWant sh_1 ml_RX9_119 dX9_stay_5 (by decide) rfl (Nat.le_of_ble_eq_true rfl) ⟨Nat.le_refl _, Nat.le_refl _⟩ ?_
  refine ev_if_eq (t := 33) dX9_stay_8 (by decide) (fun hc3 => ?_) (fun hc3 => ?_)
  · replace h := ab_pos hc3 h
    refine ev_iconst (x := (-1)) dX9_stay_33 (by decide) ?_
    cases h
    exact ev_ireturn rfl dX9_stay_34
  · replace h := ab_neg hc3 h
    refine ev_aload_n dX9_stay_11 rfl ?_
    refine ev_getr (o' := 1) fl_RX9_12 sh_0 (by decide) (by decide) rfl rfl dX9_stay_12 ?_
    refine ev_iload_n dX9_stay_15 rfl ?_
    obtain ⟨q4, hv5, h⟩ := ab_bind h
    refine ev_callV (st := []) (co_X3_kindOfWant M x1 _ hv5) mv_X3_kindOfWant sh_1 ml_RX9_122 dX9_stay_16 (by decide) rfl (Nat.le_of_ble_eq_true rfl) ⟨Nat.le_refl _, Nat.le_refl _⟩ ?_
    refine ev_iconst (x := 2) dX9_stay_19 (by decide) ?_
    refine ev_icmp_ne (t := 33) dX9_stay_20 (by decide) (fun hc6 => ?_) (fun hc6 => ?_)
    · replace h := ab_neg hc6 h
      refine ev_iconst (x := (-1)) dX9_stay_33 (by decide) ?_
      cases h
      exact ev_ireturn rfl dX9_stay_34
    · replace h := ab_pos hc6 h
      refine ev_iload_n dX9_stay_23 rfl ?_
      refine ev_iconst (x := (-1)) dX9_stay_24 (by decide) ?_
      refine ev_bipush (x := 29) dX9_stay_25 (by decide) ?_
      obtain ⟨q7, hv8, h⟩ := ab_bind h
      refine ev_callS (st := []) (co_X9_within M x2 (-1) 29 _ hv8) mv_X9_within ml_RX9_72 dX9_stay_27 (by decide) rfl (Nat.le_of_ble_eq_true rfl) ⟨Nat.le_refl _, Nat.le_refl _⟩ ?_
      refine ev_if_ne (t := 35) dX9_stay_30 (by decide) (fun hc9 => ?_) (fun hc9 => ?_)
      · replace h := ab_neg hc9 h
        refine ev_aload_n dX9_stay_35 rfl ?_
        refine ev_getr (o' := 1) fl_RX9_12 sh_0 (by decide) (by decide) rfl rfl dX9_stay_36 ?_
        refine ev_getr (o' := 4) fl_RX9_125 sh_1 (by decide) (by decide) rfl rfl dX9_stay_39 ?_
        refine ev_iload_n dX9_stay_42 rfl ?_
        refine ev_iload_n dX9_stay_43 rfl ?_
        obtain ⟨q10, hq11, h⟩ := ab_bind h
        have hJ12 : ab_Ev l D ac 2 me_X9_stay ab_SH.length 0 0 (some (.int z.1), ab_SH, z.2) 0 0 ab_SH 53 [some (.ref 0), some (.int x1), some (.int x2)] [.int q10, .int x1, .ref 4] M := by
          obtain ⟨hb14, h⟩ := ab_chk_some h
          refine ev_iastore sh_4 hb14 dX9_stay_53 ?_
          refine ev_iconst (x := 0) dX9_stay_54 (by decide) ?_
          cases h
          exact ev_ireturn rfl dX9_stay_55
        refine ev_if_ge (t := 52) dX9_stay_44 (by decide) (fun hc13 => ?_) (fun hc13 => ?_)
        · replace hq11 := ab_pos hc13 hq11
          refine ev_iload_n dX9_stay_52 rfl ?_
          cases hq11
          exact hJ12
        · replace hq11 := ab_neg hc13 hq11
          refine ev_bipush (x := (-2)) dX9_stay_47 (by decide) ?_
          refine ev_goto (t := 53) dX9_stay_49 (by decide) ?_
          cases hq11
          exact hJ12
      · replace h := ab_pos hc9 h
        refine ev_iconst (x := (-1)) dX9_stay_33 (by decide) ?_
        cases h
        exact ev_ireturn rfl dX9_stay_34

noncomputable def mi_X9_row (M : ab_M) (x1 : Int32) (x2 : Int32) (x3 : Int32) : Option (Int32 × ab_M) :=
  (mi_X9_within M x1 0 10000).bind fun q1 =>
  if q1 = 0 then
    some ((-1), M)
  else
    (mi_X9_within M x2 0 6).bind fun q4 =>
    if q4 = 0 then
      some ((-1), M)
    else
      (mi_X9_within M x3 0 4).bind fun q7 =>
      if q7 = 0 then
        some ((-1), M)
      else
        if (M.1 5 3) < 8 then
          (mi_X7_add M x1 x2 x3).bind fun q11 =>
          (mi_X3_measure q11).bind fun q13 =>
          some (q13.1 5 3, q13)
        else
          some ((-2), M)

set_option maxHeartbeats 4000000 in
set_option maxRecDepth 100000 in
theorem co_X9_row {l : Launch} {D : va_G} {ac : Nat → ClassId} (M : ab_M) (x1 : Int32) (x2 : Int32) (x3 : Int32) (z : Int32 × ab_M) (h : mi_X9_row M x1 x2 x3 = some z) : ab_Con l D ac 5 me_X9_row 0 0 [.ref 0, .int x1, .int x2, .int x3] ab_SH M (some (.int z.1), ab_SH, z.2) := by
  refine ab_intro (lv := [some (.ref 0), some (.int x1), some (.int x2), some (.int x3)]) (by decide) rfl (Nat.le_of_ble_eq_true rfl) rfl ?_
  unfold mi_X9_row at h
  refine ev_iload_n dX9_row_0 rfl ?_
  refine ev_iconst (x := 0) dX9_row_1 (by decide) ?_
  refine ev_sipush (x := 10000) dX9_row_2 (by decide) ?_
  obtain ⟨q1, hv2, h⟩ := ab_bind h
  refine ev_callS (st := []) (co_X9_within M x1 0 10000 _ hv2) mv_X9_within ml_RX9_72 dX9_row_5 (by decide) rfl (Nat.le_of_ble_eq_true rfl) ⟨Nat.le_refl _, Nat.le_refl _⟩ ?_
  refine ev_if_eq (t := 30) dX9_row_8 (by decide) (fun hc3 => ?_) (fun hc3 => ?_)
  · replace h := ab_pos hc3 h
    refine ev_iconst (x := (-1)) dX9_row_30 (by decide) ?_
    cases h
    exact ev_ireturn rfl dX9_row_31
  · replace h := ab_neg hc3 h
    refine ev_iload_n dX9_row_11 rfl ?_
    refine ev_iconst (x := 0) dX9_row_12 (by decide) ?_
    refine ev_bipush (x := 6) dX9_row_13 (by decide) ?_
    obtain ⟨q4, hv5, h⟩ := ab_bind h
    refine ev_callS (st := []) (co_X9_within M x2 0 6 _ hv5) mv_X9_within ml_RX9_72 dX9_row_15 (by decide) rfl (Nat.le_of_ble_eq_true rfl) ⟨Nat.le_refl _, Nat.le_refl _⟩ ?_
    refine ev_if_eq (t := 30) dX9_row_18 (by decide) (fun hc6 => ?_) (fun hc6 => ?_)
    · replace h := ab_pos hc6 h
      refine ev_iconst (x := (-1)) dX9_row_30 (by decide) ?_
      cases h
      exact ev_ireturn rfl dX9_row_31
    · replace h := ab_neg hc6 h
      refine ev_iload_n dX9_row_21 rfl ?_
      refine ev_iconst (x := 0) dX9_row_22 (by decide) ?_
      refine ev_iconst (x := 4) dX9_row_23 (by decide) ?_
      obtain ⟨q7, hv8, h⟩ := ab_bind h
      refine ev_callS (st := []) (co_X9_within M x3 0 4 _ hv8) mv_X9_within ml_RX9_72 dX9_row_24 (by decide) rfl (Nat.le_of_ble_eq_true rfl) ⟨Nat.le_refl _, Nat.le_refl _⟩ ?_
      refine ev_if_ne (t := 32) dX9_row_27 (by decide) (fun hc9 => ?_) (fun hc9 => ?_)
      · replace h := ab_neg hc9 h
        refine ev_aload_n dX9_row_32 rfl ?_
        refine ev_getr (o' := 1) fl_RX9_12 sh_0 (by decide) (by decide) rfl rfl dX9_row_33 ?_
        refine ev_getr (o' := 5) fl_RX9_128 sh_1 (by decide) (by decide) rfl rfl dX9_row_36 ?_
        refine ev_geti fl_RX9_132 sh_5 (by decide) (by decide) rfl dX9_row_39 ?_
        refine ev_bipush (x := 8) dX9_row_42 (by decide) ?_
        refine ev_icmp_lt (t := 50) dX9_row_44 (by decide) (fun hc10 => ?_) (fun hc10 => ?_)
        · replace h := ab_pos hc10 h
          refine ev_aload_n dX9_row_50 rfl ?_
          refine ev_getr (o' := 1) fl_RX9_12 sh_0 (by decide) (by decide) rfl rfl dX9_row_51 ?_
          refine ev_getr (o' := 5) fl_RX9_128 sh_1 (by decide) (by decide) rfl rfl dX9_row_54 ?_
          refine ev_iload_n dX9_row_57 rfl ?_
          refine ev_iload_n dX9_row_58 rfl ?_
          refine ev_iload_n dX9_row_59 rfl ?_
          obtain ⟨q11, hv12, h⟩ := ab_bind h
          refine ev_callV (st := []) (co_X7_add M x1 x2 x3 _ hv12) mv_X7_add sh_5 ml_RX9_137 dX9_row_60 (by decide) rfl (Nat.le_of_ble_eq_true rfl) ⟨Nat.le_refl _, Nat.le_refl _⟩ ?_
          refine ev_aload_n dX9_row_63 rfl ?_
          refine ev_getr (o' := 1) fl_RX9_12 sh_0 (by decide) (by decide) rfl rfl dX9_row_64 ?_
          obtain ⟨q13, hv14, h⟩ := ab_bind h
          refine ev_callV (st := []) (co_X3_measure q11 _ hv14) mv_X3_measure sh_1 ml_RX9_141 dX9_row_67 (by decide) rfl (Nat.le_of_ble_eq_true rfl) ⟨Nat.le_refl _, Nat.le_refl _⟩ ?_
          refine ev_aload_n dX9_row_70 rfl ?_
          refine ev_getr (o' := 1) fl_RX9_12 sh_0 (by decide) (by decide) rfl rfl dX9_row_71 ?_
          refine ev_getr (o' := 5) fl_RX9_128 sh_1 (by decide) (by decide) rfl rfl dX9_row_74 ?_
          refine ev_geti fl_RX9_132 sh_5 (by decide) (by decide) rfl dX9_row_77 ?_
          cases h
          exact ev_ireturn rfl dX9_row_80
        · replace h := ab_neg hc10 h
          refine ev_bipush (x := (-2)) dX9_row_47 (by decide) ?_
          cases h
          exact ev_ireturn rfl dX9_row_49
      · replace h := ab_pos hc9 h
        refine ev_iconst (x := (-1)) dX9_row_30 (by decide) ?_
        cases h
        exact ev_ireturn rfl dX9_row_31

noncomputable def mi_X9_own (M : ab_M) (x1 : Int32) (x2 : Int32) : Option (Int32 × ab_M) :=
  (mi_X9_within M x1 0 6).bind fun q1 =>
  if q1 = 0 then
    some ((-1), M)
  else
    (mi_X9_within M x2 (-1) 10000).bind fun q4 =>
    if q4 = 0 then
      some ((-1), M)
    else
      (mi_X3_measure (ab_pi (ab_pi M 1 9 x1) 1 10 x2)).bind fun q7 =>
      some (0, q7)

set_option maxHeartbeats 4000000 in
set_option maxRecDepth 100000 in
theorem co_X9_own {l : Launch} {D : va_G} {ac : Nat → ClassId} (M : ab_M) (x1 : Int32) (x2 : Int32) (z : Int32 × ab_M) (h : mi_X9_own M x1 x2 = some z) : ab_Con l D ac 5 me_X9_own 0 0 [.ref 0, .int x1, .int x2] ab_SH M (some (.int z.1), ab_SH, z.2) := by
  refine ab_intro (lv := [some (.ref 0), some (.int x1), some (.int x2)]) (by decide) rfl (Nat.le_of_ble_eq_true rfl) rfl ?_
  unfold mi_X9_own at h
  refine ev_iload_n dX9_own_0 rfl ?_
  refine ev_iconst (x := 0) dX9_own_1 (by decide) ?_
  refine ev_bipush (x := 6) dX9_own_2 (by decide) ?_
  obtain ⟨q1, hv2, h⟩ := ab_bind h
  refine ev_callS (st := []) (co_X9_within M x1 0 6 _ hv2) mv_X9_within ml_RX9_72 dX9_own_4 (by decide) rfl (Nat.le_of_ble_eq_true rfl) ⟨Nat.le_refl _, Nat.le_refl _⟩ ?_
  refine ev_if_eq (t := 21) dX9_own_7 (by decide) (fun hc3 => ?_) (fun hc3 => ?_)
  · replace h := ab_pos hc3 h
    refine ev_iconst (x := (-1)) dX9_own_21 (by decide) ?_
    cases h
    exact ev_ireturn rfl dX9_own_22
  · replace h := ab_neg hc3 h
    refine ev_iload_n dX9_own_10 rfl ?_
    refine ev_iconst (x := (-1)) dX9_own_11 (by decide) ?_
    refine ev_sipush (x := 10000) dX9_own_12 (by decide) ?_
    obtain ⟨q4, hv5, h⟩ := ab_bind h
    refine ev_callS (st := []) (co_X9_within M x2 (-1) 10000 _ hv5) mv_X9_within ml_RX9_72 dX9_own_15 (by decide) rfl (Nat.le_of_ble_eq_true rfl) ⟨Nat.le_refl _, Nat.le_refl _⟩ ?_
    refine ev_if_ne (t := 23) dX9_own_18 (by decide) (fun hc6 => ?_) (fun hc6 => ?_)
    · replace h := ab_neg hc6 h
      refine ev_aload_n dX9_own_23 rfl ?_
      refine ev_getr (o' := 1) fl_RX9_12 sh_0 (by decide) (by decide) rfl rfl dX9_own_24 ?_
      refine ev_iload_n dX9_own_27 rfl ?_
      refine ev_puti fl_RX9_144 sh_1 (by decide) (by decide) rfl rfl rfl dX9_own_28 ?_
      refine ev_aload_n dX9_own_31 rfl ?_
      refine ev_getr (o' := 1) fl_RX9_12 sh_0 (by decide) (by decide) rfl rfl dX9_own_32 ?_
      refine ev_iload_n dX9_own_35 rfl ?_
      refine ev_puti fl_RX9_147 sh_1 (by decide) (by decide) rfl rfl rfl dX9_own_36 ?_
      refine ev_aload_n dX9_own_39 rfl ?_
      refine ev_getr (o' := 1) fl_RX9_12 sh_0 (by decide) (by decide) rfl rfl dX9_own_40 ?_
      obtain ⟨q7, hv8, h⟩ := ab_bind h
      refine ev_callV (st := []) (co_X3_measure (ab_pi (ab_pi M 1 9 x1) 1 10 x2) _ hv8) mv_X3_measure sh_1 ml_RX9_141 dX9_own_43 (by decide) rfl (Nat.le_of_ble_eq_true rfl) ⟨Nat.le_refl _, Nat.le_refl _⟩ ?_
      refine ev_iconst (x := 0) dX9_own_46 (by decide) ?_
      cases h
      exact ev_ireturn rfl dX9_own_47
    · replace h := ab_pos hc6 h
      refine ev_iconst (x := (-1)) dX9_own_21 (by decide) ?_
      cases h
      exact ev_ireturn rfl dX9_own_22

noncomputable def mi_X9_border (M : ab_M) (x1 : Int32) (x2 : Int32) (x3 : Int32) (x4 : Int32) : Option (Int32 × ab_M) :=
  (mi_X9_within M x1 (-1) 60).bind fun q1 =>
  if q1 = 0 then
    some ((-1), M)
  else
    (mi_X9_within M x2 0 60).bind fun q4 =>
    if q4 = 0 then
      some ((-1), M)
    else
      (mi_X9_within M x3 0 1073741823).bind fun q7 =>
      if q7 = 0 then
        some ((-1), M)
      else
        (mi_X9_within M x4 0 1073741823).bind fun q10 =>
        if q10 = 0 then
          some ((-1), M)
        else
          (mi_X1_tell M x1 x2 x3 x4).bind fun q13 =>
          some (0, q13)

set_option maxHeartbeats 4000000 in
set_option maxRecDepth 100000 in
theorem co_X9_border {l : Launch} {D : va_G} {ac : Nat → ClassId} (M : ab_M) (x1 : Int32) (x2 : Int32) (x3 : Int32) (x4 : Int32) (z : Int32 × ab_M) (h : mi_X9_border M x1 x2 x3 x4 = some z) : ab_Con l D ac 2 me_X9_border 0 0 [.ref 0, .int x1, .int x2, .int x3, .int x4] ab_SH M (some (.int z.1), ab_SH, z.2) := by
  refine ab_intro (lv := [some (.ref 0), some (.int x1), some (.int x2), some (.int x3), some (.int x4)]) (by decide) rfl (Nat.le_of_ble_eq_true rfl) rfl ?_
  unfold mi_X9_border at h
  refine ev_iload_n dX9_border_0 rfl ?_
  refine ev_iconst (x := (-1)) dX9_border_1 (by decide) ?_
  refine ev_bipush (x := 60) dX9_border_2 (by decide) ?_
  obtain ⟨q1, hv2, h⟩ := ab_bind h
  refine ev_callS (st := []) (co_X9_within M x1 (-1) 60 _ hv2) mv_X9_within ml_RX9_72 dX9_border_4 (by decide) rfl (Nat.le_of_ble_eq_true rfl) ⟨Nat.le_refl _, Nat.le_refl _⟩ ?_
  refine ev_if_eq (t := 41) dX9_border_7 (by decide) (fun hc3 => ?_) (fun hc3 => ?_)
  · replace h := ab_pos hc3 h
    refine ev_iconst (x := (-1)) dX9_border_41 (by decide) ?_
    cases h
    exact ev_ireturn rfl dX9_border_42
  · replace h := ab_neg hc3 h
    refine ev_iload_n dX9_border_10 rfl ?_
    refine ev_iconst (x := 0) dX9_border_11 (by decide) ?_
    refine ev_bipush (x := 60) dX9_border_12 (by decide) ?_
    obtain ⟨q4, hv5, h⟩ := ab_bind h
    refine ev_callS (st := []) (co_X9_within M x2 0 60 _ hv5) mv_X9_within ml_RX9_72 dX9_border_14 (by decide) rfl (Nat.le_of_ble_eq_true rfl) ⟨Nat.le_refl _, Nat.le_refl _⟩ ?_
    refine ev_if_eq (t := 41) dX9_border_17 (by decide) (fun hc6 => ?_) (fun hc6 => ?_)
    · replace h := ab_pos hc6 h
      refine ev_iconst (x := (-1)) dX9_border_41 (by decide) ?_
      cases h
      exact ev_ireturn rfl dX9_border_42
    · replace h := ab_neg hc6 h
      refine ev_iload_n dX9_border_20 rfl ?_
      refine ev_iconst (x := 0) dX9_border_21 (by decide) ?_
      refine ev_ldc kw_RX9_97 dX9_border_22 ?_
      obtain ⟨q7, hv8, h⟩ := ab_bind h
      refine ev_callS (st := []) (co_X9_within M x3 0 1073741823 _ hv8) mv_X9_within ml_RX9_72 dX9_border_24 (by decide) rfl (Nat.le_of_ble_eq_true rfl) ⟨Nat.le_refl _, Nat.le_refl _⟩ ?_
      refine ev_if_eq (t := 41) dX9_border_27 (by decide) (fun hc9 => ?_) (fun hc9 => ?_)
      · replace h := ab_pos hc9 h
        refine ev_iconst (x := (-1)) dX9_border_41 (by decide) ?_
        cases h
        exact ev_ireturn rfl dX9_border_42
      · replace h := ab_neg hc9 h
        refine ev_iload dX9_border_30 rfl ?_
        refine ev_iconst (x := 0) dX9_border_32 (by decide) ?_
        refine ev_ldc kw_RX9_97 dX9_border_33 ?_
        obtain ⟨q10, hv11, h⟩ := ab_bind h
        refine ev_callS (st := []) (co_X9_within M x4 0 1073741823 _ hv11) mv_X9_within ml_RX9_72 dX9_border_35 (by decide) rfl (Nat.le_of_ble_eq_true rfl) ⟨Nat.le_refl _, Nat.le_refl _⟩ ?_
        refine ev_if_ne (t := 43) dX9_border_38 (by decide) (fun hc12 => ?_) (fun hc12 => ?_)
        · replace h := ab_neg hc12 h
          refine ev_aload_n dX9_border_43 rfl ?_
          refine ev_getr (o' := 1) fl_RX9_12 sh_0 (by decide) (by decide) rfl rfl dX9_border_44 ?_
          refine ev_getr (o' := 9) fl_RX9_150 sh_1 (by decide) (by decide) rfl rfl dX9_border_47 ?_
          refine ev_iload_n dX9_border_50 rfl ?_
          refine ev_iload_n dX9_border_51 rfl ?_
          refine ev_iload_n dX9_border_52 rfl ?_
          refine ev_iload dX9_border_53 rfl ?_
          obtain ⟨q13, hv14, h⟩ := ab_bind h
          refine ev_callV (st := []) (co_X1_tell M x1 x2 x3 x4 _ hv14) mv_X1_tell sh_9 ml_RX9_154 dX9_border_55 (by decide) rfl (Nat.le_of_ble_eq_true rfl) ⟨Nat.le_refl _, Nat.le_refl _⟩ ?_
          refine ev_iconst (x := 0) dX9_border_58 (by decide) ?_
          cases h
          exact ev_ireturn rfl dX9_border_59
        · replace h := ab_pos hc12 h
          refine ev_iconst (x := (-1)) dX9_border_41 (by decide) ?_
          cases h
          exact ev_ireturn rfl dX9_border_42

noncomputable def mi_X9_turn (M : ab_M) : Option (Int32 × ab_M) :=
  (mi_X2_strayBits M 67).bind fun q1 =>
  (mi_X1_swap M).bind fun q3 =>
  (mi_X2_strayBits q3 67).bind fun q5 =>
  (mi_J6_bitCount_0f7a4 q3 (q5 &&& (q1 ^^^ (-1)))).bind fun q7 =>
  some (q7, q3)

set_option maxHeartbeats 4000000 in
set_option maxRecDepth 100000 in
theorem co_X9_turn {l : Launch} {D : va_G} {ac : Nat → ClassId} (M : ab_M) (z : Int32 × ab_M) (h : mi_X9_turn M = some z) : ab_Con l D ac 5 me_X9_turn 0 0 [.ref 0] ab_SH M (some (.int z.1), ab_SH, z.2) := by
  refine ab_intro (lv := [some (.ref 0), none]) (by decide) rfl (Nat.le_of_ble_eq_true rfl) rfl ?_
  unfold mi_X9_turn at h
  refine ev_aload_n dX9_turn_0 rfl ?_
  refine ev_getr (o' := 24) fl_RX9_21 sh_0 (by decide) (by decide) rfl rfl dX9_turn_1 ?_
  refine ev_aload_n dX9_turn_4 rfl ?_
  refine ev_getr (o' := 67) fl_RX9_55 sh_0 (by decide) (by decide) rfl rfl dX9_turn_5 ?_
  obtain ⟨q1, hv2, h⟩ := ab_bind h
  refine ev_callV (st := []) (co_X2_strayBits M 67 sh_67 _ hv2) mv_X2_strayBits sh_24 ml_RX9_160 dX9_turn_8 (by decide) rfl (Nat.le_of_ble_eq_true rfl) ⟨Nat.le_refl _, Nat.le_refl _⟩ ?_
  refine ev_istore_n dX9_turn_11 (Nat.le_of_ble_eq_true rfl) rfl rfl ?_
  refine ev_aload_n dX9_turn_12 rfl ?_
  refine ev_getr (o' := 1) fl_RX9_12 sh_0 (by decide) (by decide) rfl rfl dX9_turn_13 ?_
  refine ev_getr (o' := 9) fl_RX9_150 sh_1 (by decide) (by decide) rfl rfl dX9_turn_16 ?_
  obtain ⟨q3, hv4, h⟩ := ab_bind h
  refine ev_callV (st := []) (co_X1_swap M _ hv4) mv_X1_swap sh_9 ml_RX9_164 dX9_turn_19 (by decide) rfl (Nat.le_of_ble_eq_true rfl) ⟨Nat.le_refl _, Nat.le_refl _⟩ ?_
  refine ev_aload_n dX9_turn_22 rfl ?_
  refine ev_getr (o' := 24) fl_RX9_21 sh_0 (by decide) (by decide) rfl rfl dX9_turn_23 ?_
  refine ev_aload_n dX9_turn_26 rfl ?_
  refine ev_getr (o' := 67) fl_RX9_55 sh_0 (by decide) (by decide) rfl rfl dX9_turn_27 ?_
  obtain ⟨q5, hv6, h⟩ := ab_bind h
  refine ev_callV (st := []) (co_X2_strayBits q3 67 sh_67 _ hv6) mv_X2_strayBits sh_24 ml_RX9_160 dX9_turn_30 (by decide) rfl (Nat.le_of_ble_eq_true rfl) ⟨Nat.le_refl _, Nat.le_refl _⟩ ?_
  refine ev_iload_n dX9_turn_33 rfl ?_
  refine ev_iconst (x := (-1)) dX9_turn_34 (by decide) ?_
  refine ev_ixor dX9_turn_35 ?_
  refine ev_iand dX9_turn_36 ?_
  obtain ⟨q7, hv8, h⟩ := ab_bind h
  refine ev_callS (st := []) (co_J6_bitCount_0f7a4 q3 (q5 &&& (q1 ^^^ (-1))) _ hv8) mv_J6_bitCount_0f7a4 ml_RX9_107 dX9_turn_37 (by decide) rfl (Nat.le_of_ble_eq_true rfl) ⟨Nat.le_refl _, Nat.le_refl _⟩ ?_
  cases h
  exact ev_ireturn rfl dX9_turn_40

noncomputable def mi_X9_bar (M : ab_M) (x1 : Int32) (x2 : Int32) : Option (Int32) :=
  (mi_X3_hasMast M x1).bind fun q1 =>
  if q1 = 0 then
    some (-1)
  else
    (mi_X3_hasMast M x2).bind fun q4 =>
    if q4 = 0 then
      some (-1)
    else
      (mi_X3_barOf M x1 x2).bind fun q7 =>
      some q7

set_option maxHeartbeats 4000000 in
set_option maxRecDepth 100000 in
theorem co_X9_bar {l : Launch} {D : va_G} {ac : Nat → ClassId} (M : ab_M) (x1 : Int32) (x2 : Int32) (z : Int32) (h : mi_X9_bar M x1 x2 = some z) : ab_Con l D ac 2 me_X9_bar 0 0 [.ref 0, .int x1, .int x2] ab_SH M (some (.int z), ab_SH, M) := by
  refine ab_intro (lv := [some (.ref 0), some (.int x1), some (.int x2)]) (by decide) rfl (Nat.le_of_ble_eq_true rfl) rfl ?_
  unfold mi_X9_bar at h
  refine ev_aload_n dX9_bar_0 rfl ?_
  refine ev_getr (o' := 1) fl_RX9_12 sh_0 (by decide) (by decide) rfl rfl dX9_bar_1 ?_
  refine ev_iload_n dX9_bar_4 rfl ?_
  obtain ⟨q1, hv2, h⟩ := ab_bind h
  refine ev_callV (st := []) (co_X3_hasMast M x1 _ hv2) mv_X3_hasMast sh_1 ml_RX9_90 dX9_bar_5 (by decide) rfl (Nat.le_of_ble_eq_true rfl) ⟨Nat.le_refl _, Nat.le_refl _⟩ ?_
  refine ev_if_eq (t := 34) dX9_bar_8 (by decide) (fun hc3 => ?_) (fun hc3 => ?_)
  · replace h := ab_pos hc3 h
    refine ev_iconst (x := (-1)) dX9_bar_34 (by decide) ?_
    cases h
    exact ev_ireturn rfl dX9_bar_35
  · replace h := ab_neg hc3 h
    refine ev_aload_n dX9_bar_11 rfl ?_
    refine ev_getr (o' := 1) fl_RX9_12 sh_0 (by decide) (by decide) rfl rfl dX9_bar_12 ?_
    refine ev_iload_n dX9_bar_15 rfl ?_
    obtain ⟨q4, hv5, h⟩ := ab_bind h
    refine ev_callV (st := []) (co_X3_hasMast M x2 _ hv5) mv_X3_hasMast sh_1 ml_RX9_90 dX9_bar_16 (by decide) rfl (Nat.le_of_ble_eq_true rfl) ⟨Nat.le_refl _, Nat.le_refl _⟩ ?_
    refine ev_if_eq (t := 34) dX9_bar_19 (by decide) (fun hc6 => ?_) (fun hc6 => ?_)
    · replace h := ab_pos hc6 h
      refine ev_iconst (x := (-1)) dX9_bar_34 (by decide) ?_
      cases h
      exact ev_ireturn rfl dX9_bar_35
    · replace h := ab_neg hc6 h
      refine ev_aload_n dX9_bar_22 rfl ?_
      refine ev_getr (o' := 1) fl_RX9_12 sh_0 (by decide) (by decide) rfl rfl dX9_bar_23 ?_
      refine ev_iload_n dX9_bar_26 rfl ?_
      refine ev_iload_n dX9_bar_27 rfl ?_
      obtain ⟨q7, hv8, h⟩ := ab_bind h
      refine ev_callV (st := []) (co_X3_barOf M x1 x2 _ hv8) mv_X3_barOf sh_1 ml_RX9_167 dX9_bar_28 (by decide) rfl (Nat.le_of_ble_eq_true rfl) ⟨Nat.le_refl _, Nat.le_refl _⟩ ?_
      refine ev_goto (t := 35) dX9_bar_31 (by decide) ?_
      cases h
      exact ev_ireturn rfl dX9_bar_35

noncomputable def mi_X9_may (M : ab_M) (x1 : Int32) (x2 : Int32) : Option (Int32) :=
  (mi_X3_hasWant M x1).bind fun q1 =>
  if q1 = 0 then
    some (-1)
  else
    (mi_X9_within M x2 0 29).bind fun q4 =>
    if q4 = 0 then
      some 0
    else
      (mi_X3_allowed M x1).bind fun q7 =>
      some ((ab_ushr q7 x2) &&& 1)

set_option maxHeartbeats 4000000 in
set_option maxRecDepth 100000 in
theorem co_X9_may {l : Launch} {D : va_G} {ac : Nat → ClassId} (M : ab_M) (x1 : Int32) (x2 : Int32) (z : Int32) (h : mi_X9_may M x1 x2 = some z) : ab_Con l D ac 4 me_X9_may 0 0 [.ref 0, .int x1, .int x2] ab_SH M (some (.int z), ab_SH, M) := by
  refine ab_intro (lv := [some (.ref 0), some (.int x1), some (.int x2)]) (by decide) rfl (Nat.le_of_ble_eq_true rfl) rfl ?_
  unfold mi_X9_may at h
  refine ev_aload_n dX9_may_0 rfl ?_
  refine ev_getr (o' := 1) fl_RX9_12 sh_0 (by decide) (by decide) rfl rfl dX9_may_1 ?_
  refine ev_iload_n dX9_may_4 rfl ?_
  obtain ⟨q1, hv2, h⟩ := ab_bind h
  refine ev_callV (st := []) (co_X3_hasWant M x1 _ hv2) mv_X3_hasWant sh_1 ml_RX9_119 dX9_may_5 (by decide) rfl (Nat.le_of_ble_eq_true rfl) ⟨Nat.le_refl _, Nat.le_refl _⟩ ?_
  refine ev_if_ne (t := 13) dX9_may_8 (by decide) (fun hc3 => ?_) (fun hc3 => ?_)
  · replace h := ab_neg hc3 h
    refine ev_iload_n dX9_may_13 rfl ?_
    refine ev_iconst (x := 0) dX9_may_14 (by decide) ?_
    refine ev_bipush (x := 29) dX9_may_15 (by decide) ?_
    obtain ⟨q4, hv5, h⟩ := ab_bind h
    refine ev_callS (st := []) (co_X9_within M x2 0 29 _ hv5) mv_X9_within ml_RX9_72 dX9_may_17 (by decide) rfl (Nat.le_of_ble_eq_true rfl) ⟨Nat.le_refl _, Nat.le_refl _⟩ ?_
    refine ev_if_eq (t := 38) dX9_may_20 (by decide) (fun hc6 => ?_) (fun hc6 => ?_)
    · replace h := ab_pos hc6 h
      refine ev_iconst (x := 0) dX9_may_38 (by decide) ?_
      cases h
      exact ev_ireturn rfl dX9_may_39
    · replace h := ab_neg hc6 h
      refine ev_aload_n dX9_may_23 rfl ?_
      refine ev_getr (o' := 1) fl_RX9_12 sh_0 (by decide) (by decide) rfl rfl dX9_may_24 ?_
      refine ev_iload_n dX9_may_27 rfl ?_
      obtain ⟨q7, hv8, h⟩ := ab_bind h
      refine ev_callV (st := []) (co_X3_allowed M x1 _ hv8) mv_X3_allowed sh_1 ml_RX9_170 dX9_may_28 (by decide) rfl (Nat.le_of_ble_eq_true rfl) ⟨Nat.le_refl _, Nat.le_refl _⟩ ?_
      refine ev_iload_n dX9_may_31 rfl ?_
      refine ev_iushr dX9_may_32 ?_
      refine ev_iconst (x := 1) dX9_may_33 (by decide) ?_
      refine ev_iand dX9_may_34 ?_
      refine ev_goto (t := 39) dX9_may_35 (by decide) ?_
      cases h
      exact ev_ireturn rfl dX9_may_39
  · replace h := ab_pos hc3 h
    refine ev_iconst (x := (-1)) dX9_may_11 (by decide) ?_
    cases h
    exact ev_ireturn rfl dX9_may_12

noncomputable def mi_X9_set (M : ab_M) (x1 : Int32) (x2 : Int32) : Option (Int32 × ab_M) :=
  (mi_X3_hasWant M x1).bind fun q1 =>
  if q1 = 0 then
    some ((-1), M)
  else
    (mi_X9_within M x2 (-1) 29).bind fun q4 =>
    if q4 = 0 then
      some ((-1), M)
    else
      ab_chk (vp_in x1 16) <|
      ((if 0 ≤ x2 then
        some x2
      else
        some (-2)) : Option (Int32)).bind fun q8 =>
      ab_chk (vp_in x1 16) <|
      some (M.1 67 (x1).toNatClampNeg, (ab_pi M 67 (x1).toNatClampNeg q8))

set_option maxHeartbeats 4000000 in
set_option maxRecDepth 100000 in
theorem co_X9_set {l : Launch} {D : va_G} {ac : Nat → ClassId} (M : ab_M) (x1 : Int32) (x2 : Int32) (z : Int32 × ab_M) (h : mi_X9_set M x1 x2 = some z) : ab_Con l D ac 2 me_X9_set 0 0 [.ref 0, .int x1, .int x2] ab_SH M (some (.int z.1), ab_SH, z.2) := by
  refine ab_intro (lv := [some (.ref 0), some (.int x1), some (.int x2), none]) (by decide) rfl (Nat.le_of_ble_eq_true rfl) rfl ?_
  unfold mi_X9_set at h
  refine ev_aload_n dX9_set_0 rfl ?_
  refine ev_getr (o' := 1) fl_RX9_12 sh_0 (by decide) (by decide) rfl rfl dX9_set_1 ?_
  refine ev_iload_n dX9_set_4 rfl ?_
  obtain ⟨q1, hv2, h⟩ := ab_bind h
  refine ev_callV (st := []) (co_X3_hasWant M x1 _ hv2) mv_X3_hasWant sh_1 ml_RX9_119 dX9_set_5 (by decide) rfl (Nat.le_of_ble_eq_true rfl) ⟨Nat.le_refl _, Nat.le_refl _⟩ ?_
  refine ev_if_eq (t := 21) dX9_set_8 (by decide) (fun hc3 => ?_) (fun hc3 => ?_)
  · replace h := ab_pos hc3 h
    refine ev_iconst (x := (-1)) dX9_set_21 (by decide) ?_
    cases h
    exact ev_ireturn rfl dX9_set_22
  · replace h := ab_neg hc3 h
    refine ev_iload_n dX9_set_11 rfl ?_
    refine ev_iconst (x := (-1)) dX9_set_12 (by decide) ?_
    refine ev_bipush (x := 29) dX9_set_13 (by decide) ?_
    obtain ⟨q4, hv5, h⟩ := ab_bind h
    refine ev_callS (st := []) (co_X9_within M x2 (-1) 29 _ hv5) mv_X9_within ml_RX9_72 dX9_set_15 (by decide) rfl (Nat.le_of_ble_eq_true rfl) ⟨Nat.le_refl _, Nat.le_refl _⟩ ?_
    refine ev_if_ne (t := 23) dX9_set_18 (by decide) (fun hc6 => ?_) (fun hc6 => ?_)
    · replace h := ab_neg hc6 h
      refine ev_aload_n dX9_set_23 rfl ?_
      refine ev_getr (o' := 67) fl_RX9_55 sh_0 (by decide) (by decide) rfl rfl dX9_set_24 ?_
      refine ev_iload_n dX9_set_27 rfl ?_
      obtain ⟨hb7, h⟩ := ab_chk_some h
      refine ev_iaload sh_67 hb7 dX9_set_28 ?_
      refine ev_istore_n dX9_set_29 (Nat.le_of_ble_eq_true rfl) rfl rfl ?_
      refine ev_aload_n dX9_set_30 rfl ?_
      refine ev_getr (o' := 67) fl_RX9_55 sh_0 (by decide) (by decide) rfl rfl dX9_set_31 ?_
      refine ev_iload_n dX9_set_34 rfl ?_
      refine ev_iload_n dX9_set_35 rfl ?_
      obtain ⟨q8, hq9, h⟩ := ab_bind h
      have hJ10 : ab_Ev l D ac 2 me_X9_set ab_SH.length 0 0 (some (.int z.1), ab_SH, z.2) 0 0 ab_SH 45 [some (.ref 0), some (.int x1), some (.int x2), some (.int (M.1 67 (x1).toNatClampNeg))] [.int q8, .int x1, .ref 67] M := by
        obtain ⟨hb12, h⟩ := ab_chk_some h
        refine ev_iastore sh_67 hb12 dX9_set_45 ?_
        refine ev_iload_n dX9_set_46 rfl ?_
        cases h
        exact ev_ireturn rfl dX9_set_47
      refine ev_if_ge (t := 44) dX9_set_36 (by decide) (fun hc11 => ?_) (fun hc11 => ?_)
      · replace hq9 := ab_pos hc11 hq9
        refine ev_iload_n dX9_set_44 rfl ?_
        cases hq9
        exact hJ10
      · replace hq9 := ab_neg hc11 hq9
        refine ev_bipush (x := (-2)) dX9_set_39 (by decide) ?_
        refine ev_goto (t := 45) dX9_set_41 (by decide) ?_
        cases hq9
        exact hJ10
    · replace h := ab_pos hc6 h
      refine ev_iconst (x := (-1)) dX9_set_21 (by decide) ?_
      cases h
      exact ev_ireturn rfl dX9_set_22

noncomputable def mi_X9_channel (M : ab_M) (x1 : Int32) : Option (Int32) :=
  (mi_X3_hasWant M x1).bind fun q1 =>
  if q1 = 0 then
    some (-1)
  else
    ab_chk (vp_in x1 16) <|
    some (M.1 67 (x1).toNatClampNeg)

set_option maxHeartbeats 4000000 in
set_option maxRecDepth 100000 in
theorem co_X9_channel {l : Launch} {D : va_G} {ac : Nat → ClassId} (M : ab_M) (x1 : Int32) (z : Int32) (h : mi_X9_channel M x1 = some z) : ab_Con l D ac 2 me_X9_channel 0 0 [.ref 0, .int x1] ab_SH M (some (.int z), ab_SH, M) := by
  refine ab_intro (lv := [some (.ref 0), some (.int x1)]) (by decide) rfl (Nat.le_of_ble_eq_true rfl) rfl ?_
  unfold mi_X9_channel at h
  refine ev_aload_n dX9_channel_0 rfl ?_
  refine ev_getr (o' := 1) fl_RX9_12 sh_0 (by decide) (by decide) rfl rfl dX9_channel_1 ?_
  refine ev_iload_n dX9_channel_4 rfl ?_
  obtain ⟨q1, hv2, h⟩ := ab_bind h
  refine ev_callV (st := []) (co_X3_hasWant M x1 _ hv2) mv_X3_hasWant sh_1 ml_RX9_119 dX9_channel_5 (by decide) rfl (Nat.le_of_ble_eq_true rfl) ⟨Nat.le_refl _, Nat.le_refl _⟩ ?_
  refine ev_if_eq (t := 20) dX9_channel_8 (by decide) (fun hc3 => ?_) (fun hc3 => ?_)
  · replace h := ab_pos hc3 h
    refine ev_iconst (x := (-1)) dX9_channel_20 (by decide) ?_
    cases h
    exact ev_ireturn rfl dX9_channel_21
  · replace h := ab_neg hc3 h
    refine ev_aload_n dX9_channel_11 rfl ?_
    refine ev_getr (o' := 67) fl_RX9_55 sh_0 (by decide) (by decide) rfl rfl dX9_channel_12 ?_
    refine ev_iload_n dX9_channel_15 rfl ?_
    obtain ⟨hb4, h⟩ := ab_chk_some h
    refine ev_iaload sh_67 hb4 dX9_channel_16 ?_
    refine ev_goto (t := 21) dX9_channel_17 (by decide) ?_
    cases h
    exact ev_ireturn rfl dX9_channel_21

noncomputable def mi_X9_of (M : ab_M) (x1 : Int32) : Option (Int32) :=
  (mi_X3_hasWant M x1).bind fun q1 =>
  if q1 = 0 then
    some (-1)
  else
    ab_chk (vp_in x1 16) <|
    some (M.1 3 (x1).toNatClampNeg)

set_option maxHeartbeats 4000000 in
set_option maxRecDepth 100000 in
theorem co_X9_of {l : Launch} {D : va_G} {ac : Nat → ClassId} (M : ab_M) (x1 : Int32) (z : Int32) (h : mi_X9_of M x1 = some z) : ab_Con l D ac 2 me_X9_of 0 0 [.ref 0, .int x1] ab_SH M (some (.int z), ab_SH, M) := by
  refine ab_intro (lv := [some (.ref 0), some (.int x1)]) (by decide) rfl (Nat.le_of_ble_eq_true rfl) rfl ?_
  unfold mi_X9_of at h
  refine ev_aload_n dX9_of_0 rfl ?_
  refine ev_getr (o' := 1) fl_RX9_12 sh_0 (by decide) (by decide) rfl rfl dX9_of_1 ?_
  refine ev_iload_n dX9_of_4 rfl ?_
  obtain ⟨q1, hv2, h⟩ := ab_bind h
  refine ev_callV (st := []) (co_X3_hasWant M x1 _ hv2) mv_X3_hasWant sh_1 ml_RX9_119 dX9_of_5 (by decide) rfl (Nat.le_of_ble_eq_true rfl) ⟨Nat.le_refl _, Nat.le_refl _⟩ ?_
  refine ev_if_eq (t := 23) dX9_of_8 (by decide) (fun hc3 => ?_) (fun hc3 => ?_)
  · replace h := ab_pos hc3 h
    refine ev_iconst (x := (-1)) dX9_of_23 (by decide) ?_
    cases h
    exact ev_ireturn rfl dX9_of_24
  · replace h := ab_neg hc3 h
    refine ev_aload_n dX9_of_11 rfl ?_
    refine ev_getr (o' := 1) fl_RX9_12 sh_0 (by decide) (by decide) rfl rfl dX9_of_12 ?_
    refine ev_getr (o' := 3) fl_RX9_173 sh_1 (by decide) (by decide) rfl rfl dX9_of_15 ?_
    refine ev_iload_n dX9_of_18 rfl ?_
    obtain ⟨hb4, h⟩ := ab_chk_some h
    refine ev_iaload sh_3 hb4 dX9_of_19 ?_
    refine ev_goto (t := 24) dX9_of_20 (by decide) ?_
    cases h
    exact ev_ireturn rfl dX9_of_24

noncomputable def mi_X9_harm (M : ab_M) : Option (Int32) :=
  (mi_X2_totalHarm M 67).bind fun q1 =>
  some q1

set_option maxHeartbeats 4000000 in
set_option maxRecDepth 100000 in
theorem co_X9_harm {l : Launch} {D : va_G} {ac : Nat → ClassId} (M : ab_M) (z : Int32) (h : mi_X9_harm M = some z) : ab_Con l D ac 7 me_X9_harm 0 0 [.ref 0] ab_SH M (some (.int z), ab_SH, M) := by
  refine ab_intro (lv := [some (.ref 0)]) (by decide) rfl (Nat.le_of_ble_eq_true rfl) rfl ?_
  unfold mi_X9_harm at h
  refine ev_aload_n dX9_harm_0 rfl ?_
  refine ev_getr (o' := 24) fl_RX9_21 sh_0 (by decide) (by decide) rfl rfl dX9_harm_1 ?_
  refine ev_aload_n dX9_harm_4 rfl ?_
  refine ev_getr (o' := 67) fl_RX9_55 sh_0 (by decide) (by decide) rfl rfl dX9_harm_5 ?_
  obtain ⟨q1, hv2, h⟩ := ab_bind h
  refine ev_callV (st := []) (co_X2_totalHarm M 67 sh_67 _ hv2) mv_X2_totalHarm sh_24 ml_RX9_176 dX9_harm_8 (by decide) rfl (Nat.le_of_ble_eq_true rfl) ⟨Nat.le_refl _, Nat.le_refl _⟩ ?_
  cases h
  exact ev_ireturn rfl dX9_harm_11

noncomputable def mi_X9_kept (M : ab_M) : Option (Int32) :=
  (mi_X2_served M 67).bind fun q1 =>
  if q1 = (M.1 1 8) then
    (mi_X2_totalHarm M 67).bind fun q4 =>
    if q4 = 0 then
      some 1
    else
      some 0
  else
    some 0

set_option maxHeartbeats 4000000 in
set_option maxRecDepth 100000 in
theorem co_X9_kept {l : Launch} {D : va_G} {ac : Nat → ClassId} (M : ab_M) (z : Int32) (h : mi_X9_kept M = some z) : ab_Con l D ac 7 me_X9_kept 0 0 [.ref 0] ab_SH M (some (.int z), ab_SH, M) := by
  refine ab_intro (lv := [some (.ref 0)]) (by decide) rfl (Nat.le_of_ble_eq_true rfl) rfl ?_
  unfold mi_X9_kept at h
  refine ev_aload_n dX9_kept_0 rfl ?_
  refine ev_getr (o' := 24) fl_RX9_21 sh_0 (by decide) (by decide) rfl rfl dX9_kept_1 ?_
  refine ev_aload_n dX9_kept_4 rfl ?_
  refine ev_getr (o' := 67) fl_RX9_55 sh_0 (by decide) (by decide) rfl rfl dX9_kept_5 ?_
  obtain ⟨q1, hv2, h⟩ := ab_bind h
  refine ev_callV (st := []) (co_X2_served M 67 sh_67 _ hv2) mv_X2_served sh_24 ml_RX9_179 dX9_kept_8 (by decide) rfl (Nat.le_of_ble_eq_true rfl) ⟨Nat.le_refl _, Nat.le_refl _⟩ ?_
  refine ev_aload_n dX9_kept_11 rfl ?_
  refine ev_getr (o' := 1) fl_RX9_12 sh_0 (by decide) (by decide) rfl rfl dX9_kept_12 ?_
  refine ev_geti fl_RX9_83 sh_1 (by decide) (by decide) rfl dX9_kept_15 ?_
  refine ev_icmp_ne (t := 39) dX9_kept_18 (by decide) (fun hc3 => ?_) (fun hc3 => ?_)
  · replace h := ab_neg hc3 h
    refine ev_iconst (x := 0) dX9_kept_39 (by decide) ?_
    cases h
    exact ev_ireturn rfl dX9_kept_40
  · replace h := ab_pos hc3 h
    refine ev_aload_n dX9_kept_21 rfl ?_
    refine ev_getr (o' := 24) fl_RX9_21 sh_0 (by decide) (by decide) rfl rfl dX9_kept_22 ?_
    refine ev_aload_n dX9_kept_25 rfl ?_
    refine ev_getr (o' := 67) fl_RX9_55 sh_0 (by decide) (by decide) rfl rfl dX9_kept_26 ?_
    obtain ⟨q4, hv5, h⟩ := ab_bind h
    refine ev_callV (st := []) (co_X2_totalHarm M 67 sh_67 _ hv5) mv_X2_totalHarm sh_24 ml_RX9_176 dX9_kept_29 (by decide) rfl (Nat.le_of_ble_eq_true rfl) ⟨Nat.le_refl _, Nat.le_refl _⟩ ?_
    refine ev_if_ne (t := 39) dX9_kept_32 (by decide) (fun hc6 => ?_) (fun hc6 => ?_)
    · replace h := ab_neg hc6 h
      refine ev_iconst (x := 0) dX9_kept_39 (by decide) ?_
      cases h
      exact ev_ireturn rfl dX9_kept_40
    · replace h := ab_pos hc6 h
      refine ev_iconst (x := 1) dX9_kept_35 (by decide) ?_
      refine ev_goto (t := 40) dX9_kept_36 (by decide) ?_
      cases h
      exact ev_ireturn rfl dX9_kept_40

noncomputable def mi_X9_broken (M : ab_M) (x1 : Int32) : Option (Int32) :=
  if x1 = 0 then
    (mi_X2_lackingTwos M 67).bind fun q2 =>
    some q2
  else
    if x1 = 1 then
      (mi_X2_lacks M 67).bind fun q5 =>
      some q5
    else
      if x1 = 2 then
        (mi_X2_sums M 67).bind fun q8 =>
        some q8
      else
        if x1 = 3 then
          (mi_X2_strayBits M 67).bind fun q11 =>
          (mi_J6_bitCount_0f7a4 M q11).bind fun q13 =>
          some q13
        else
          some (-1)

set_option maxHeartbeats 4000000 in
set_option maxRecDepth 100000 in
theorem co_X9_broken {l : Launch} {D : va_G} {ac : Nat → ClassId} (M : ab_M) (x1 : Int32) (z : Int32) (h : mi_X9_broken M x1 = some z) : ab_Con l D ac 6 me_X9_broken 0 0 [.ref 0, .int x1] ab_SH M (some (.int z), ab_SH, M) := by
  refine ab_intro (lv := [some (.ref 0), some (.int x1)]) (by decide) rfl (Nat.le_of_ble_eq_true rfl) rfl ?_
  unfold mi_X9_broken at h
  refine ev_iload_n dX9_broken_0 rfl ?_
  by_cases hc1 : x1 = 0
  · replace h := ab_pos hc1 h
    have hx18 : (x1 : Int32).toInt = 0 := by rw [hc1]; decide
    refine ev_tableIn (t := 32) (off := 31) dX9_broken_1 (by rw [hx18]; decide) (by rw [hx18]; decide) (by rw [hx18]; rfl) (by decide) ?_
    refine ev_aload_n dX9_broken_32 rfl ?_
    refine ev_getr (o' := 24) fl_RX9_21 sh_0 (by decide) (by decide) rfl rfl dX9_broken_33 ?_
    refine ev_aload_n dX9_broken_36 rfl ?_
    refine ev_getr (o' := 67) fl_RX9_55 sh_0 (by decide) (by decide) rfl rfl dX9_broken_37 ?_
    obtain ⟨q2, hv3, h⟩ := ab_bind h
    refine ev_callV (st := []) (co_X2_lackingTwos M 67 sh_67 _ hv3) mv_X2_lackingTwos sh_24 ml_RX9_182 dX9_broken_40 (by decide) rfl (Nat.le_of_ble_eq_true rfl) ⟨Nat.le_refl _, Nat.le_refl _⟩ ?_
    cases h
    exact ev_ireturn rfl dX9_broken_43
  · replace h := ab_neg hc1 h
    by_cases hc4 : x1 = 1
    · replace h := ab_pos hc4 h
      have hx17 : (x1 : Int32).toInt = 1 := by rw [hc4]; decide
      refine ev_tableIn (t := 44) (off := 43) dX9_broken_1 (by rw [hx17]; decide) (by rw [hx17]; decide) (by rw [hx17]; rfl) (by decide) ?_
      refine ev_aload_n dX9_broken_44 rfl ?_
      refine ev_getr (o' := 24) fl_RX9_21 sh_0 (by decide) (by decide) rfl rfl dX9_broken_45 ?_
      refine ev_aload_n dX9_broken_48 rfl ?_
      refine ev_getr (o' := 67) fl_RX9_55 sh_0 (by decide) (by decide) rfl rfl dX9_broken_49 ?_
      obtain ⟨q5, hv6, h⟩ := ab_bind h
      refine ev_callV (st := []) (co_X2_lacks M 67 sh_67 _ hv6) mv_X2_lacks sh_24 ml_RX9_185 dX9_broken_52 (by decide) rfl (Nat.le_of_ble_eq_true rfl) ⟨Nat.le_refl _, Nat.le_refl _⟩ ?_
      cases h
      exact ev_ireturn rfl dX9_broken_55
    · replace h := ab_neg hc4 h
      by_cases hc7 : x1 = 2
      · replace h := ab_pos hc7 h
        have hx16 : (x1 : Int32).toInt = 2 := by rw [hc7]; decide
        refine ev_tableIn (t := 56) (off := 55) dX9_broken_1 (by rw [hx16]; decide) (by rw [hx16]; decide) (by rw [hx16]; rfl) (by decide) ?_
        refine ev_aload_n dX9_broken_56 rfl ?_
        refine ev_getr (o' := 24) fl_RX9_21 sh_0 (by decide) (by decide) rfl rfl dX9_broken_57 ?_
        refine ev_aload_n dX9_broken_60 rfl ?_
        refine ev_getr (o' := 67) fl_RX9_55 sh_0 (by decide) (by decide) rfl rfl dX9_broken_61 ?_
        obtain ⟨q8, hv9, h⟩ := ab_bind h
        refine ev_callV (st := []) (co_X2_sums M 67 sh_67 _ hv9) mv_X2_sums sh_24 ml_RX9_188 dX9_broken_64 (by decide) rfl (Nat.le_of_ble_eq_true rfl) ⟨Nat.le_refl _, Nat.le_refl _⟩ ?_
        cases h
        exact ev_ireturn rfl dX9_broken_67
      · replace h := ab_neg hc7 h
        by_cases hc10 : x1 = 3
        · replace h := ab_pos hc10 h
          have hx15 : (x1 : Int32).toInt = 3 := by rw [hc10]; decide
          refine ev_tableIn (t := 68) (off := 67) dX9_broken_1 (by rw [hx15]; decide) (by rw [hx15]; decide) (by rw [hx15]; rfl) (by decide) ?_
          refine ev_aload_n dX9_broken_68 rfl ?_
          refine ev_getr (o' := 24) fl_RX9_21 sh_0 (by decide) (by decide) rfl rfl dX9_broken_69 ?_
          refine ev_aload_n dX9_broken_72 rfl ?_
          refine ev_getr (o' := 67) fl_RX9_55 sh_0 (by decide) (by decide) rfl rfl dX9_broken_73 ?_
          obtain ⟨q11, hv12, h⟩ := ab_bind h
          refine ev_callV (st := []) (co_X2_strayBits M 67 sh_67 _ hv12) mv_X2_strayBits sh_24 ml_RX9_160 dX9_broken_76 (by decide) rfl (Nat.le_of_ble_eq_true rfl) ⟨Nat.le_refl _, Nat.le_refl _⟩ ?_
          obtain ⟨q13, hv14, h⟩ := ab_bind h
          refine ev_callS (st := []) (co_J6_bitCount_0f7a4 M q11 _ hv14) mv_J6_bitCount_0f7a4 ml_RX9_107 dX9_broken_79 (by decide) rfl (Nat.le_of_ble_eq_true rfl) ⟨Nat.le_refl _, Nat.le_refl _⟩ ?_
          cases h
          exact ev_ireturn rfl dX9_broken_82
        · replace h := ab_neg hc10 h
          have ehc1 := lv_neT (a := 0) hc1 (by decide)
          have ehc4 := lv_neT (a := 1) hc4 (by decide)
          have ehc7 := lv_neT (a := 2) hc7 (by decide)
          have ehc10 := lv_neT (a := 3) hc10 (by decide)
          refine ev_tableOut (t := 83) dX9_broken_1 (by omega) (by decide) ?_
          refine ev_iconst (x := (-1)) dX9_broken_83 (by decide) ?_
          cases h
          exact ev_ireturn rfl dX9_broken_84

noncomputable def mi_X9_pair_38 : Nat → ab_M → Int32 → Int32 → Int32 → Int32 → Option (Sum (Int32 × Int32) (Int32))
  | 0, _, _, _, _, _ => none
  | n + 1, M, x2, x3, x4, x5 =>
    if (M.1 1 8) ≤ x5 then
      some (.inl (x3, x5))
    else
      (mi_X2_lackOf M 67 x4 x5).bind fun q7 =>
      if q7 ≤ 0 then
        ((if q7 ≤ 0 then
          some 0
        else
          some 1) : Option (Int32)).bind fun q10 =>
        mi_X9_pair_38 n M x2 (x3 - q10) x4 (x5 + 1)
      else
        if x3 = 0 then
          if x2 = 0 then
            some (.inr x4)
          else
            if x2 = 1 then
              some (.inr x5)
            else
              some (.inr q7)
        else
          ((if q7 ≤ 0 then
            some 0
          else
            some 1) : Option (Int32)).bind fun q15 =>
          mi_X9_pair_38 n M x2 (x3 - q15) x4 (x5 + 1)

set_option maxHeartbeats 4000000 in
set_option maxRecDepth 100000 in
theorem lp_X9_pair_38 {l : Launch} {D : va_G} {ac : Nat → ClassId} {n0 : Nat} {r : ab_Rs} : ∀ (n : Nat) (M : ab_M) (x2 : Int32) (x3 : Int32) (x4 : Int32) (x5 : Int32) (q : Sum (Int32 × Int32) (Int32)) (h : mi_X9_pair_38 n M x2 x3 x4 x5 = some q) (kk : ∀ y, q = .inl y → ab_Ev l D ac 5 me_X9_pair n0 0 0 r 0 0 ab_SH 117 [some (.ref 0), none, some (.int x2), some (.int y.1), some (.int x4), some (.int y.2), none] [] M) (kr : ∀ v, q = .inr v → r = (some (.int v), ab_SH, M)), ab_Ev l D ac 5 me_X9_pair n0 0 0 r 0 0 ab_SH 38 [some (.ref 0), none, some (.int x2), some (.int x3), some (.int x4), some (.int x5), none] [] M := by
  intro n
  induction n with
  | zero =>
    intro M x2 x3 x4 x5 q h kk kr
    cases h
  | succ n ih =>
    intro M x2 x3 x4 x5 q h kk kr
    unfold mi_X9_pair_38 at h
    refine ev_iload dX9_pair_38 rfl ?_
    refine ev_aload_n dX9_pair_40 rfl ?_
    refine ev_getr (o' := 1) fl_RX9_12 sh_0 (by decide) (by decide) rfl rfl dX9_pair_41 ?_
    refine ev_geti fl_RX9_83 sh_1 (by decide) (by decide) rfl dX9_pair_44 ?_
    refine ev_icmp_ge (t := 117) dX9_pair_47 (by decide) (fun hc6 => ?_) (fun hc6 => ?_)
    · replace h := ab_pos hc6 h
      cases h
      exact kk _ rfl
    · replace h := ab_neg hc6 h
      refine ev_aload_n dX9_pair_50 rfl ?_
      refine ev_getr (o' := 24) fl_RX9_21 sh_0 (by decide) (by decide) rfl rfl dX9_pair_51 ?_
      refine ev_aload_n dX9_pair_54 rfl ?_
      refine ev_getr (o' := 67) fl_RX9_55 sh_0 (by decide) (by decide) rfl rfl dX9_pair_55 ?_
      refine ev_iload dX9_pair_58 rfl ?_
      refine ev_iload dX9_pair_60 rfl ?_
      obtain ⟨q7, hv8, h⟩ := ab_bind h
      refine ev_callV (st := []) (co_X2_lackOf M 67 sh_67 x4 x5 _ hv8) mv_X2_lackOf sh_24 ml_RX9_191 dX9_pair_62 (by decide) rfl (Nat.le_of_ble_eq_true rfl) ⟨Nat.le_refl _, Nat.le_refl _⟩ ?_
      refine ev_istore dX9_pair_65 (Nat.le_of_ble_eq_true rfl) rfl rfl ?_
      refine ev_iload dX9_pair_67 rfl ?_
      refine ev_if_le (t := 98) dX9_pair_69 (by decide) (fun hc9 => ?_) (fun hc9 => ?_)
      · replace h := ab_pos hc9 h
        refine ev_iload_n dX9_pair_98 rfl ?_
        refine ev_iload dX9_pair_99 rfl ?_
        obtain ⟨q10, hq11, h⟩ := ab_bind h
        have hJ12 : ab_Ev l D ac 5 me_X9_pair n0 0 0 r 0 0 ab_SH 109 [some (.ref 0), none, some (.int x2), some (.int x3), some (.int x4), some (.int x5), some (.int q7)] [.int q10, .int x3] M := by
          refine ev_isub dX9_pair_109 ?_
          refine ev_istore_n dX9_pair_110 (Nat.le_of_ble_eq_true rfl) rfl rfl ?_
          refine ev_iinc (y := x5 + 1) dX9_pair_111 rfl (by first | rfl | decide) rfl rfl ?_
          refine ev_goto (t := 38) dX9_pair_114 (by decide) ?_
          refine ev_drop (lv' := [some (.ref 0), none, some (.int x2), some (.int (x3 - q10)), some (.int x4), some (.int (x5 + 1)), none]) (ab_sub_k (ab_sub_k (ab_sub_k (ab_sub_k (ab_sub_k (ab_sub_k (ab_sub_d ab_sub_nil))))))) ?_
          exact ih M x2 (x3 - q10) x4 (x5 + 1) _ h kk kr
        refine ev_if_le (t := 108) dX9_pair_101 (by decide) (fun hc13 => ?_) (fun hc13 => ?_)
        · replace hq11 := ab_pos hc13 hq11
          refine ev_iconst (x := 0) dX9_pair_108 (by decide) ?_
          cases hq11
          exact hJ12
        · replace hq11 := ab_neg hc13 hq11
          refine ev_iconst (x := 1) dX9_pair_104 (by decide) ?_
          refine ev_goto (t := 109) dX9_pair_105 (by decide) ?_
          cases hq11
          exact hJ12
      · replace h := ab_neg hc9 h
        refine ev_iload_n dX9_pair_72 rfl ?_
        refine ev_if_ne (t := 98) dX9_pair_73 (by decide) (fun hc14 => ?_) (fun hc14 => ?_)
        · replace h := ab_neg hc14 h
          refine ev_iload_n dX9_pair_98 rfl ?_
          refine ev_iload dX9_pair_99 rfl ?_
          obtain ⟨q15, hq16, h⟩ := ab_bind h
          have hJ17 : ab_Ev l D ac 5 me_X9_pair n0 0 0 r 0 0 ab_SH 109 [some (.ref 0), none, some (.int x2), some (.int x3), some (.int x4), some (.int x5), some (.int q7)] [.int q15, .int x3] M := by
            refine ev_isub dX9_pair_109 ?_
            refine ev_istore_n dX9_pair_110 (Nat.le_of_ble_eq_true rfl) rfl rfl ?_
            refine ev_iinc (y := x5 + 1) dX9_pair_111 rfl (by first | rfl | decide) rfl rfl ?_
            refine ev_goto (t := 38) dX9_pair_114 (by decide) ?_
            refine ev_drop (lv' := [some (.ref 0), none, some (.int x2), some (.int (x3 - q15)), some (.int x4), some (.int (x5 + 1)), none]) (ab_sub_k (ab_sub_k (ab_sub_k (ab_sub_k (ab_sub_k (ab_sub_k (ab_sub_d ab_sub_nil))))))) ?_
            exact ih M x2 (x3 - q15) x4 (x5 + 1) _ h kk kr
          refine ev_if_le (t := 108) dX9_pair_101 (by decide) (fun hc18 => ?_) (fun hc18 => ?_)
          · replace hq16 := ab_pos hc18 hq16
            refine ev_iconst (x := 0) dX9_pair_108 (by decide) ?_
            cases hq16
            exact hJ17
          · replace hq16 := ab_neg hc18 hq16
            refine ev_iconst (x := 1) dX9_pair_104 (by decide) ?_
            refine ev_goto (t := 109) dX9_pair_105 (by decide) ?_
            cases hq16
            exact hJ17
        · replace h := ab_pos hc14 h
          refine ev_iload_n dX9_pair_76 rfl ?_
          refine ev_if_ne (t := 85) dX9_pair_77 (by decide) (fun hc19 => ?_) (fun hc19 => ?_)
          · replace h := ab_neg hc19 h
            refine ev_iload_n dX9_pair_85 rfl ?_
            refine ev_iconst (x := 1) dX9_pair_86 (by decide) ?_
            refine ev_icmp_ne (t := 95) dX9_pair_87 (by decide) (fun hc20 => ?_) (fun hc20 => ?_)
            · replace h := ab_neg hc20 h
              refine ev_iload dX9_pair_95 rfl ?_
              cases h
              rw [kr _ rfl]
              exact ev_ireturn rfl dX9_pair_97
            · replace h := ab_pos hc20 h
              refine ev_iload dX9_pair_90 rfl ?_
              refine ev_goto (t := 97) dX9_pair_92 (by decide) ?_
              cases h
              rw [kr _ rfl]
              exact ev_ireturn rfl dX9_pair_97
          · replace h := ab_pos hc19 h
            refine ev_iload dX9_pair_80 rfl ?_
            refine ev_goto (t := 97) dX9_pair_82 (by decide) ?_
            cases h
            rw [kr _ rfl]
            exact ev_ireturn rfl dX9_pair_97

noncomputable def mi_X9_pair_20 : Nat → ab_M → Int32 → Int32 → Int32 → Option (Sum (Int32 × Int32) (Int32))
  | 0, _, _, _, _ => none
  | n + 1, M, x2, x3, x4 =>
    if (M.1 1 8) ≤ x4 then
      some (.inl (x3, x4))
    else
      (mi_X9_pair_38 ab_F M x2 x3 x4 (x4 + 1)).bind fun q24 => Sum.elim (fun q21 =>
      mi_X9_pair_20 n M x2 q21.1 (x4 + 1)) (fun v23 => some (.inr v23)) q24

set_option maxHeartbeats 4000000 in
set_option maxRecDepth 100000 in
theorem lp_X9_pair_20 {l : Launch} {D : va_G} {ac : Nat → ClassId} {n0 : Nat} {r : ab_Rs} : ∀ (n : Nat) (M : ab_M) (x2 : Int32) (x3 : Int32) (x4 : Int32) (q : Sum (Int32 × Int32) (Int32)) (h : mi_X9_pair_20 n M x2 x3 x4 = some q) (kk : ∀ y, q = .inl y → ab_Ev l D ac 5 me_X9_pair n0 0 0 r 0 0 ab_SH 123 [some (.ref 0), none, some (.int x2), some (.int y.1), some (.int y.2), none, none] [] M) (kr : ∀ v, q = .inr v → r = (some (.int v), ab_SH, M)), ab_Ev l D ac 5 me_X9_pair n0 0 0 r 0 0 ab_SH 20 [some (.ref 0), none, some (.int x2), some (.int x3), some (.int x4), none, none] [] M := by
  intro n
  induction n with
  | zero =>
    intro M x2 x3 x4 q h kk kr
    cases h
  | succ n ih =>
    intro M x2 x3 x4 q h kk kr
    unfold mi_X9_pair_20 at h
    refine ev_iload dX9_pair_20 rfl ?_
    refine ev_aload_n dX9_pair_22 rfl ?_
    refine ev_getr (o' := 1) fl_RX9_12 sh_0 (by decide) (by decide) rfl rfl dX9_pair_23 ?_
    refine ev_geti fl_RX9_83 sh_1 (by decide) (by decide) rfl dX9_pair_26 ?_
    refine ev_icmp_ge (t := 123) dX9_pair_29 (by decide) (fun hc5 => ?_) (fun hc5 => ?_)
    · replace h := ab_pos hc5 h
      cases h
      exact kk _ rfl
    · replace h := ab_neg hc5 h
      refine ev_iload dX9_pair_32 rfl ?_
      refine ev_iconst (x := 1) dX9_pair_34 (by decide) ?_
      refine ev_iadd dX9_pair_35 ?_
      refine ev_istore dX9_pair_36 (Nat.le_of_ble_eq_true rfl) rfl rfl ?_
      obtain ⟨q24, hq22, h⟩ := ab_bind h
      rcases ab_elim h with ⟨q21, rfl, h⟩ | ⟨v23, rfl, h⟩
      · refine lp_X9_pair_38 _ M x2 x3 x4 (x4 + 1) _ hq22 (fun z e25 => ?_) (fun z e25 => by cases e25)
        cases e25
        refine ev_iinc (y := x4 + 1) dX9_pair_117 rfl (by first | rfl | decide) rfl rfl ?_
        refine ev_goto (t := 20) dX9_pair_120 (by decide) ?_
        refine ev_drop (lv' := [some (.ref 0), none, some (.int x2), some (.int q21.1), some (.int (x4 + 1)), none, none]) (ab_sub_k (ab_sub_k (ab_sub_k (ab_sub_k (ab_sub_k (ab_sub_d (ab_sub_k ab_sub_nil))))))) ?_
        exact ih M x2 q21.1 (x4 + 1) _ h kk kr
      · refine lp_X9_pair_38 _ M x2 x3 x4 (x4 + 1) _ hq22 (fun z e25 => by cases e25) (fun z e25 => ?_)
        cases e25
        cases h
        exact kr _ rfl

noncomputable def mi_X9_pair (M : ab_M) (x1 : Int32) (x2 : Int32) : Option (Int32) :=
  if x1 < 0 then
    some (-1)
  else
    (mi_X9_within M x2 0 2).bind fun q2 =>
    if q2 = 0 then
      some (-1)
    else
      (mi_X9_pair_20 ab_F M x2 x1 0).bind fun q29 => Sum.elim (fun q26 =>
      some (-1)) (fun v28 => some v28) q29

set_option maxHeartbeats 4000000 in
set_option maxRecDepth 100000 in
theorem co_X9_pair {l : Launch} {D : va_G} {ac : Nat → ClassId} (M : ab_M) (x1 : Int32) (x2 : Int32) (z : Int32) (h : mi_X9_pair M x1 x2 = some z) : ab_Con l D ac 5 me_X9_pair 0 0 [.ref 0, .int x1, .int x2] ab_SH M (some (.int z), ab_SH, M) := by
  refine ab_intro (lv := [some (.ref 0), some (.int x1), some (.int x2), none, none, none, none]) (by decide) rfl (Nat.le_of_ble_eq_true rfl) rfl ?_
  unfold mi_X9_pair at h
  refine ev_iload_n dX9_pair_0 rfl ?_
  refine ev_if_lt (t := 13) dX9_pair_1 (by decide) (fun hc1 => ?_) (fun hc1 => ?_)
  · replace h := ab_pos hc1 h
    refine ev_iconst (x := (-1)) dX9_pair_13 (by decide) ?_
    cases h
    exact ev_ireturn rfl dX9_pair_14
  · replace h := ab_neg hc1 h
    refine ev_iload_n dX9_pair_4 rfl ?_
    refine ev_iconst (x := 0) dX9_pair_5 (by decide) ?_
    refine ev_iconst (x := 2) dX9_pair_6 (by decide) ?_
    obtain ⟨q2, hv3, h⟩ := ab_bind h
    refine ev_callS (st := []) (co_X9_within M x2 0 2 _ hv3) mv_X9_within ml_RX9_72 dX9_pair_7 (by decide) rfl (Nat.le_of_ble_eq_true rfl) ⟨Nat.le_refl _, Nat.le_refl _⟩ ?_
    refine ev_if_ne (t := 15) dX9_pair_10 (by decide) (fun hc4 => ?_) (fun hc4 => ?_)
    · replace h := ab_neg hc4 h
      refine ev_iload_n dX9_pair_15 rfl ?_
      refine ev_istore_n dX9_pair_16 (Nat.le_of_ble_eq_true rfl) rfl rfl ?_
      refine ev_iconst (x := 0) dX9_pair_17 (by decide) ?_
      refine ev_istore dX9_pair_18 (Nat.le_of_ble_eq_true rfl) rfl rfl ?_
      obtain ⟨q29, hq27, h⟩ := ab_bind h
      refine ev_drop (lv' := [some (.ref 0), none, some (.int x2), some (.int x1), some (.int 0), none, none]) (ab_sub_k (ab_sub_d (ab_sub_k (ab_sub_k (ab_sub_k (ab_sub_k (ab_sub_k ab_sub_nil))))))) ?_
      rcases ab_elim h with ⟨q26, rfl, h⟩ | ⟨v28, rfl, h⟩
      · refine lp_X9_pair_20 _ M x2 x1 0 _ hq27 (fun z e30 => ?_) (fun z e30 => by cases e30)
        cases e30
        refine ev_iconst (x := (-1)) dX9_pair_123 (by decide) ?_
        cases h
        exact ev_ireturn rfl dX9_pair_124
      · refine lp_X9_pair_20 _ M x2 x1 0 _ hq27 (fun z e30 => by cases e30) (fun z e30 => ?_)
        cases e30
        cases h
        rfl
    · replace h := ab_pos hc4 h
      refine ev_iconst (x := (-1)) dX9_pair_13 (by decide) ?_
      cases h
      exact ev_ireturn rfl dX9_pair_14

noncomputable def mi_X9_plan (M : ab_M) (x1 : Int32) : Option (Int32 × ab_M) :=
  (mi_X9_within M x1 1 30).bind fun q1 =>
  if q1 = 0 then
    some ((-1), M)
  else
    (mi_X8_search (ab_pi M 26 5 0) x1).bind fun q4 =>
    ((if q4.1 = 1 then
      (mi_X8_handOver q4.2 67).bind fun q10 =>
      some q10
    else
      some q4.2) : Option (ab_M)).bind fun q6 =>
    some (q4.1, q6)

set_option maxHeartbeats 4000000 in
set_option maxRecDepth 100000 in
theorem co_X9_plan {l : Launch} {D : va_G} {ac : Nat → ClassId} (M : ab_M) (x1 : Int32) (z : Int32 × ab_M) (h : mi_X9_plan M x1 = some z) : ab_Con l D ac 7 me_X9_plan 0 0 [.ref 0, .int x1] ab_SH M (some (.int z.1), ab_SH, z.2) := by
  refine ab_intro (lv := [some (.ref 0), some (.int x1), none]) (by decide) rfl (Nat.le_of_ble_eq_true rfl) rfl ?_
  unfold mi_X9_plan at h
  refine ev_iload_n dX9_plan_0 rfl ?_
  refine ev_iconst (x := 1) dX9_plan_1 (by decide) ?_
  refine ev_bipush (x := 30) dX9_plan_2 (by decide) ?_
  obtain ⟨q1, hv2, h⟩ := ab_bind h
  refine ev_callS (st := []) (co_X9_within M x1 1 30 _ hv2) mv_X9_within ml_RX9_72 dX9_plan_4 (by decide) rfl (Nat.le_of_ble_eq_true rfl) ⟨Nat.le_refl _, Nat.le_refl _⟩ ?_
  refine ev_if_ne (t := 12) dX9_plan_7 (by decide) (fun hc3 => ?_) (fun hc3 => ?_)
  · replace h := ab_neg hc3 h
    refine ev_aload_n dX9_plan_12 rfl ?_
    refine ev_getr (o' := 26) fl_RX9_30 sh_0 (by decide) (by decide) rfl rfl dX9_plan_13 ?_
    refine ev_iconst (x := 0) dX9_plan_16 (by decide) ?_
    refine ev_puti fl_RX9_195 sh_26 (by decide) (by decide) rfl rfl rfl dX9_plan_17 ?_
    refine ev_aload_n dX9_plan_20 rfl ?_
    refine ev_getr (o' := 26) fl_RX9_30 sh_0 (by decide) (by decide) rfl rfl dX9_plan_21 ?_
    refine ev_iload_n dX9_plan_24 rfl ?_
    obtain ⟨q4, hv5, h⟩ := ab_bind h
    refine ev_callV (st := []) (co_X8_search (ab_pi M 26 5 0) x1 _ hv5) mv_X8_search sh_26 ml_RX9_198 dX9_plan_25 (by decide) rfl (Nat.le_of_ble_eq_true rfl) ⟨Nat.le_refl _, Nat.le_refl _⟩ ?_
    refine ev_istore_n dX9_plan_28 (Nat.le_of_ble_eq_true rfl) rfl rfl ?_
    refine ev_iload_n dX9_plan_29 rfl ?_
    refine ev_iconst (x := 1) dX9_plan_30 (by decide) ?_
    obtain ⟨q6, hq7, h⟩ := ab_bind h
    have hJ8 : ab_Ev l D ac 7 me_X9_plan ab_SH.length 0 0 (some (.int z.1), ab_SH, z.2) 0 0 ab_SH 45 [some (.ref 0), some (.int x1), some (.int q4.1)] [] q6 := by
      refine ev_iload_n dX9_plan_45 rfl ?_
      cases h
      exact ev_ireturn rfl dX9_plan_46
    refine ev_icmp_ne (t := 45) dX9_plan_31 (by decide) (fun hc9 => ?_) (fun hc9 => ?_)
    · replace hq7 := ab_neg hc9 hq7
      cases hq7
      exact hJ8
    · replace hq7 := ab_pos hc9 hq7
      refine ev_aload_n dX9_plan_34 rfl ?_
      refine ev_getr (o' := 26) fl_RX9_30 sh_0 (by decide) (by decide) rfl rfl dX9_plan_35 ?_
      refine ev_aload_n dX9_plan_38 rfl ?_
      refine ev_getr (o' := 67) fl_RX9_55 sh_0 (by decide) (by decide) rfl rfl dX9_plan_39 ?_
      obtain ⟨q10, hv11, hq7⟩ := ab_bind hq7
      refine ev_callV (st := []) (co_X8_handOver q4.2 67 sh_67 _ hv11) mv_X8_handOver sh_26 ml_RX9_201 dX9_plan_42 (by decide) rfl (Nat.le_of_ble_eq_true rfl) ⟨Nat.le_refl _, Nat.le_refl _⟩ ?_
      cases hq7
      exact hJ8
  · replace h := ab_pos hc3 h
    refine ev_iconst (x := (-1)) dX9_plan_10 (by decide) ?_
    cases h
    exact ev_ireturn rfl dX9_plan_11

noncomputable def mi_X9_tries (M : ab_M) : Option (Int32) :=
  some (M.1 26 5)

set_option maxHeartbeats 4000000 in
set_option maxRecDepth 100000 in
theorem co_X9_tries {l : Launch} {D : va_G} {ac : Nat → ClassId} (M : ab_M) (z : Int32) (h : mi_X9_tries M = some z) : ab_Con l D ac 1 me_X9_tries 0 0 [.ref 0] ab_SH M (some (.int z), ab_SH, M) := by
  refine ab_intro (lv := [some (.ref 0)]) (by decide) rfl (Nat.le_of_ble_eq_true rfl) rfl ?_
  unfold mi_X9_tries at h
  refine ev_aload_n dX9_tries_0 rfl ?_
  refine ev_getr (o' := 26) fl_RX9_30 sh_0 (by decide) (by decide) rfl rfl dX9_tries_1 ?_
  refine ev_geti fl_RX9_195 sh_26 (by decide) (by decide) rfl dX9_tries_4 ?_
  cases h
  exact ev_ireturn rfl dX9_tries_7

noncomputable def mi_X9_least_10 : Nat → ab_M → Int32 → Option (Sum (Int32 × ab_M) (Int32 × ab_M))
  | 0, _, _ => none
  | n + 1, M, x1 =>
    if 30 < x1 then
      some (.inl (x1, M))
    else
      (mi_X8_search M x1).bind fun q2 =>
      if q2.1 = (-2) then
        some (.inr ((-2), q2.2))
      else
        if q2.1 = 1 then
          (mi_X8_handOver q2.2 67).bind fun q6 =>
          some (.inr (x1, q6))
        else
          mi_X9_least_10 n q2.2 (x1 + 1)

set_option maxHeartbeats 4000000 in
set_option maxRecDepth 100000 in
theorem lp_X9_least_10 {l : Launch} {D : va_G} {ac : Nat → ClassId} {n0 : Nat} {r : ab_Rs} : ∀ (n : Nat) (M : ab_M) (x1 : Int32) (q : Sum (Int32 × ab_M) (Int32 × ab_M)) (h : mi_X9_least_10 n M x1 = some q) (kk : ∀ y, q = .inl y → ab_Ev l D ac 7 me_X9_least n0 0 0 r 0 0 ab_SH 58 [some (.ref 0), some (.int y.1), none] [] y.2) (kr : ∀ v, q = .inr v → r = (some (.int v.1), ab_SH, v.2)), ab_Ev l D ac 7 me_X9_least n0 0 0 r 0 0 ab_SH 10 [some (.ref 0), some (.int x1), none] [] M := by
  intro n
  induction n with
  | zero =>
    intro M x1 q h kk kr
    cases h
  | succ n ih =>
    intro M x1 q h kk kr
    unfold mi_X9_least_10 at h
    refine ev_iload_n dX9_least_10 rfl ?_
    refine ev_bipush (x := 30) dX9_least_11 (by decide) ?_
    refine ev_icmp_gt (t := 58) dX9_least_13 (by decide) (fun hc1 => ?_) (fun hc1 => ?_)
    · replace h := ab_pos hc1 h
      cases h
      exact kk _ rfl
    · replace h := ab_neg hc1 h
      refine ev_aload_n dX9_least_16 rfl ?_
      refine ev_getr (o' := 26) fl_RX9_30 sh_0 (by decide) (by decide) rfl rfl dX9_least_17 ?_
      refine ev_iload_n dX9_least_20 rfl ?_
      obtain ⟨q2, hv3, h⟩ := ab_bind h
      refine ev_callV (st := []) (co_X8_search M x1 _ hv3) mv_X8_search sh_26 ml_RX9_198 dX9_least_21 (by decide) rfl (Nat.le_of_ble_eq_true rfl) ⟨Nat.le_refl _, Nat.le_refl _⟩ ?_
      refine ev_istore_n dX9_least_24 (Nat.le_of_ble_eq_true rfl) rfl rfl ?_
      refine ev_iload_n dX9_least_25 rfl ?_
      refine ev_bipush (x := (-2)) dX9_least_26 (by decide) ?_
      refine ev_icmp_ne (t := 34) dX9_least_28 (by decide) (fun hc4 => ?_) (fun hc4 => ?_)
      · replace h := ab_neg hc4 h
        refine ev_iload_n dX9_least_34 rfl ?_
        refine ev_iconst (x := 1) dX9_least_35 (by decide) ?_
        refine ev_icmp_ne (t := 52) dX9_least_36 (by decide) (fun hc5 => ?_) (fun hc5 => ?_)
        · replace h := ab_neg hc5 h
          refine ev_iinc (y := x1 + 1) dX9_least_52 rfl (by first | rfl | decide) rfl rfl ?_
          refine ev_goto (t := 10) dX9_least_55 (by decide) ?_
          refine ev_drop (lv' := [some (.ref 0), some (.int (x1 + 1)), none]) (ab_sub_k (ab_sub_k (ab_sub_d ab_sub_nil))) ?_
          exact ih q2.2 (x1 + 1) _ h kk kr
        · replace h := ab_pos hc5 h
          refine ev_aload_n dX9_least_39 rfl ?_
          refine ev_getr (o' := 26) fl_RX9_30 sh_0 (by decide) (by decide) rfl rfl dX9_least_40 ?_
          refine ev_aload_n dX9_least_43 rfl ?_
          refine ev_getr (o' := 67) fl_RX9_55 sh_0 (by decide) (by decide) rfl rfl dX9_least_44 ?_
          obtain ⟨q6, hv7, h⟩ := ab_bind h
          refine ev_callV (st := []) (co_X8_handOver q2.2 67 sh_67 _ hv7) mv_X8_handOver sh_26 ml_RX9_201 dX9_least_47 (by decide) rfl (Nat.le_of_ble_eq_true rfl) ⟨Nat.le_refl _, Nat.le_refl _⟩ ?_
          refine ev_iload_n dX9_least_50 rfl ?_
          cases h
          rw [kr _ rfl]
          exact ev_ireturn rfl dX9_least_51
      · replace h := ab_pos hc4 h
        refine ev_bipush (x := (-2)) dX9_least_31 (by decide) ?_
        cases h
        rw [kr _ rfl]
        exact ev_ireturn rfl dX9_least_33

noncomputable def mi_X9_least (M : ab_M) : Option (Int32 × ab_M) :=
  (mi_X9_least_10 ab_F (ab_pi M 26 5 0) 1).bind fun q11 => Sum.elim (fun q8 =>
  some ((-3), q8.2)) (fun v10 => some v10) q11

set_option maxHeartbeats 4000000 in
set_option maxRecDepth 100000 in
theorem co_X9_least {l : Launch} {D : va_G} {ac : Nat → ClassId} (M : ab_M) (z : Int32 × ab_M) (h : mi_X9_least M = some z) : ab_Con l D ac 7 me_X9_least 0 0 [.ref 0] ab_SH M (some (.int z.1), ab_SH, z.2) := by
  refine ab_intro (lv := [some (.ref 0), none, none]) (by decide) rfl (Nat.le_of_ble_eq_true rfl) rfl ?_
  unfold mi_X9_least at h
  refine ev_aload_n dX9_least_0 rfl ?_
  refine ev_getr (o' := 26) fl_RX9_30 sh_0 (by decide) (by decide) rfl rfl dX9_least_1 ?_
  refine ev_iconst (x := 0) dX9_least_4 (by decide) ?_
  refine ev_puti fl_RX9_195 sh_26 (by decide) (by decide) rfl rfl rfl dX9_least_5 ?_
  refine ev_iconst (x := 1) dX9_least_8 (by decide) ?_
  refine ev_istore_n dX9_least_9 (Nat.le_of_ble_eq_true rfl) rfl rfl ?_
  obtain ⟨q11, hq9, h⟩ := ab_bind h
  rcases ab_elim h with ⟨q8, rfl, h⟩ | ⟨v10, rfl, h⟩
  · refine lp_X9_least_10 _ (ab_pi M 26 5 0) 1 _ hq9 (fun z e12 => ?_) (fun z e12 => by cases e12)
    cases e12
    refine ev_bipush (x := (-3)) dX9_least_58 (by decide) ?_
    cases h
    exact ev_ireturn rfl dX9_least_60
  · refine lp_X9_least_10 _ (ab_pi M 26 5 0) 1 _ hq9 (fun z e12 => by cases e12) (fun z e12 => ?_)
    cases e12
    cases h
    rfl

noncomputable def mi_X9_span_8 : Nat → ab_M → Int32 → Int32 → Int32 → Option (Int32 × Int32 × Int32)
  | 0, _, _, _, _ => none
  | n + 1, M, x1, x2, x3 =>
    if (M.1 1 8) ≤ x3 then
      some (x1, x2, x3)
    else
      ab_chk (vp_in x3 16) <|
      ((if (M.1 67 (x3).toNatClampNeg) < 0 then
        some (x1, x2)
      else
        ab_chk (vp_in x3 16) <|
        ab_chk (vp_in x3 16) <|
        (mi_X3_gapOf M x3).bind fun q9 =>
        some (ab_min x1 (M.1 67 (x3).toNatClampNeg), ab_max x2 ((M.1 67 (x3).toNatClampNeg) + q9))) : Option (Int32 × Int32)).bind fun q3 =>
      mi_X9_span_8 n M q3.1 q3.2 (x3 + 1)

set_option maxHeartbeats 4000000 in
set_option maxRecDepth 100000 in
theorem lp_X9_span_8 {l : Launch} {D : va_G} {ac : Nat → ClassId} {n0 : Nat} {r : ab_Rs} : ∀ (n : Nat) (M : ab_M) (x1 : Int32) (x2 : Int32) (x3 : Int32) (q : Int32 × Int32 × Int32) (h : mi_X9_span_8 n M x1 x2 x3 = some q) (kk : ab_Ev l D ac 2 me_X9_span n0 0 0 r 0 0 ab_SH 65 [some (.ref 0), some (.int q.1), some (.int q.2.1), some (.int q.2.2)] [] M), ab_Ev l D ac 2 me_X9_span n0 0 0 r 0 0 ab_SH 8 [some (.ref 0), some (.int x1), some (.int x2), some (.int x3)] [] M := by
  intro n
  induction n with
  | zero =>
    intro M x1 x2 x3 q h kk
    cases h
  | succ n ih =>
    intro M x1 x2 x3 q h kk
    unfold mi_X9_span_8 at h
    refine ev_iload_n dX9_span_8 rfl ?_
    refine ev_aload_n dX9_span_9 rfl ?_
    refine ev_getr (o' := 1) fl_RX9_12 sh_0 (by decide) (by decide) rfl rfl dX9_span_10 ?_
    refine ev_geti fl_RX9_83 sh_1 (by decide) (by decide) rfl dX9_span_13 ?_
    refine ev_icmp_ge (t := 65) dX9_span_16 (by decide) (fun hc1 => ?_) (fun hc1 => ?_)
    · replace h := ab_pos hc1 h
      cases h
      exact kk
    · replace h := ab_neg hc1 h
      refine ev_aload_n dX9_span_19 rfl ?_
      refine ev_getr (o' := 67) fl_RX9_55 sh_0 (by decide) (by decide) rfl rfl dX9_span_20 ?_
      refine ev_iload_n dX9_span_23 rfl ?_
      obtain ⟨hb2, h⟩ := ab_chk_some h
      refine ev_iaload sh_67 hb2 dX9_span_24 ?_
      obtain ⟨q3, hq4, h⟩ := ab_bind h
      have hJ5 : ab_Ev l D ac 2 me_X9_span n0 0 0 r 0 0 ab_SH 59 [some (.ref 0), some (.int q3.1), some (.int q3.2), some (.int x3)] [] M := by
        refine ev_iinc (y := x3 + 1) dX9_span_59 rfl (by first | rfl | decide) rfl rfl ?_
        refine ev_goto (t := 8) dX9_span_62 (by decide) ?_
        exact ih M q3.1 q3.2 (x3 + 1) _ h kk
      refine ev_if_lt (t := 59) dX9_span_25 (by decide) (fun hc6 => ?_) (fun hc6 => ?_)
      · replace hq4 := ab_pos hc6 hq4
        cases hq4
        exact hJ5
      · replace hq4 := ab_neg hc6 hq4
        refine ev_iload_n dX9_span_28 rfl ?_
        refine ev_aload_n dX9_span_29 rfl ?_
        refine ev_getr (o' := 67) fl_RX9_55 sh_0 (by decide) (by decide) rfl rfl dX9_span_30 ?_
        refine ev_iload_n dX9_span_33 rfl ?_
        obtain ⟨hb7, hq4⟩ := ab_chk_some hq4
        refine ev_iaload sh_67 hb7 dX9_span_34 ?_
        refine ev_min ml_RX9_206 dX9_span_35 (by decide) (Nat.le_of_ble_eq_true rfl) ⟨Nat.le_refl _, Nat.le_refl _⟩ ?_
        refine ev_istore_n dX9_span_38 (Nat.le_of_ble_eq_true rfl) rfl rfl ?_
        refine ev_iload_n dX9_span_39 rfl ?_
        refine ev_aload_n dX9_span_40 rfl ?_
        refine ev_getr (o' := 67) fl_RX9_55 sh_0 (by decide) (by decide) rfl rfl dX9_span_41 ?_
        refine ev_iload_n dX9_span_44 rfl ?_
        obtain ⟨hb8, hq4⟩ := ab_chk_some hq4
        refine ev_iaload sh_67 hb8 dX9_span_45 ?_
        refine ev_aload_n dX9_span_46 rfl ?_
        refine ev_getr (o' := 1) fl_RX9_12 sh_0 (by decide) (by decide) rfl rfl dX9_span_47 ?_
        refine ev_iload_n dX9_span_50 rfl ?_
        obtain ⟨q9, hv10, hq4⟩ := ab_bind hq4
        refine ev_callV (st := [.int (M.1 67 (x3).toNatClampNeg), .int x2]) (co_X3_gapOf M x3 _ hv10) mv_X3_gapOf sh_1 ml_RX9_211 dX9_span_51 (by decide) rfl (Nat.le_of_ble_eq_true rfl) ⟨Nat.le_refl _, Nat.le_refl _⟩ ?_
        refine ev_iadd dX9_span_54 ?_
        refine ev_max ml_RX9_214 dX9_span_55 (by decide) (Nat.le_of_ble_eq_true rfl) ⟨Nat.le_refl _, Nat.le_refl _⟩ ?_
        refine ev_istore_n dX9_span_58 (Nat.le_of_ble_eq_true rfl) rfl rfl ?_
        cases hq4
        exact hJ5

noncomputable def mi_X9_span (M : ab_M) : Option (Int32) :=
  (mi_X9_span_8 ab_F M 1000000 (-2) 0).bind fun q11 =>
  if 0 ≤ q11.2.1 then
    some (q11.2.1 - q11.1)
  else
    some (-2)

set_option maxHeartbeats 4000000 in
set_option maxRecDepth 100000 in
theorem co_X9_span {l : Launch} {D : va_G} {ac : Nat → ClassId} (M : ab_M) (z : Int32) (h : mi_X9_span M = some z) : ab_Con l D ac 2 me_X9_span 0 0 [.ref 0] ab_SH M (some (.int z), ab_SH, M) := by
  refine ab_intro (lv := [some (.ref 0), none, none, none]) (by decide) rfl (Nat.le_of_ble_eq_true rfl) rfl ?_
  unfold mi_X9_span at h
  refine ev_ldc kw_RX9_205 dX9_span_0 ?_
  refine ev_istore_n dX9_span_2 (Nat.le_of_ble_eq_true rfl) rfl rfl ?_
  refine ev_bipush (x := (-2)) dX9_span_3 (by decide) ?_
  refine ev_istore_n dX9_span_5 (Nat.le_of_ble_eq_true rfl) rfl rfl ?_
  refine ev_iconst (x := 0) dX9_span_6 (by decide) ?_
  refine ev_istore_n dX9_span_7 (Nat.le_of_ble_eq_true rfl) rfl rfl ?_
  obtain ⟨q11, hq12, h⟩ := ab_bind h
  refine lp_X9_span_8 _ M 1000000 (-2) 0 _ hq12 ?_
  refine ev_iload_n dX9_span_65 rfl ?_
  refine ev_if_ge (t := 74) dX9_span_66 (by decide) (fun hc13 => ?_) (fun hc13 => ?_)
  · replace h := ab_pos hc13 h
    refine ev_iload_n dX9_span_74 rfl ?_
    refine ev_iload_n dX9_span_75 rfl ?_
    refine ev_isub dX9_span_76 ?_
    cases h
    exact ev_ireturn rfl dX9_span_77
  · replace h := ab_neg hc13 h
    refine ev_bipush (x := (-2)) dX9_span_69 (by decide) ?_
    refine ev_goto (t := 77) dX9_span_71 (by decide) ?_
    cases h
    exact ev_ireturn rfl dX9_span_77

noncomputable def mi_X9_better_14 : Nat → ab_M → Int32 → Int32 → Option (Int32 × ab_M)
  | 0, _, _, _ => none
  | n + 1, M, x1, x2 =>
    if x1 ≤ x2 then
      some (x2, M)
    else
      (mi_X5_improve M 67).bind fun q5 =>
      if q5.1 = 0 then
        some (x2, q5.2)
      else
        mi_X9_better_14 n q5.2 x1 (x2 + 1)

set_option maxHeartbeats 4000000 in
set_option maxRecDepth 100000 in
theorem lp_X9_better_14 {l : Launch} {D : va_G} {ac : Nat → ClassId} {n0 : Nat} {r : ab_Rs} : ∀ (n : Nat) (M : ab_M) (x1 : Int32) (x2 : Int32) (q : Int32 × ab_M) (h : mi_X9_better_14 n M x1 x2 = some q) (kk : ab_Ev l D ac 7 me_X9_better n0 0 0 r 0 0 ab_SH 39 [some (.ref 0), some (.int x1), some (.int q.1)] [] q.2), ab_Ev l D ac 7 me_X9_better n0 0 0 r 0 0 ab_SH 14 [some (.ref 0), some (.int x1), some (.int x2)] [] M := by
  intro n
  induction n with
  | zero =>
    intro M x1 x2 q h kk
    cases h
  | succ n ih =>
    intro M x1 x2 q h kk
    unfold mi_X9_better_14 at h
    refine ev_iload_n dX9_better_14 rfl ?_
    refine ev_iload_n dX9_better_15 rfl ?_
    refine ev_icmp_ge (t := 39) dX9_better_16 (by decide) (fun hc4 => ?_) (fun hc4 => ?_)
    · replace h := ab_pos hc4 h
      cases h
      exact kk
    · replace h := ab_neg hc4 h
      refine ev_aload_n dX9_better_19 rfl ?_
      refine ev_getr (o' := 30) fl_RX9_37 sh_0 (by decide) (by decide) rfl rfl dX9_better_20 ?_
      refine ev_aload_n dX9_better_23 rfl ?_
      refine ev_getr (o' := 67) fl_RX9_55 sh_0 (by decide) (by decide) rfl rfl dX9_better_24 ?_
      obtain ⟨q5, hv6, h⟩ := ab_bind h
      refine ev_callV (st := []) (co_X5_improve M 67 sh_67 _ hv6) mv_X5_improve sh_30 ml_RX9_217 dX9_better_27 (by decide) rfl (Nat.le_of_ble_eq_true rfl) ⟨Nat.le_refl _, Nat.le_refl _⟩ ?_
      refine ev_if_eq (t := 39) dX9_better_30 (by decide) (fun hc7 => ?_) (fun hc7 => ?_)
      · replace h := ab_pos hc7 h
        cases h
        exact kk
      · replace h := ab_neg hc7 h
        refine ev_iinc (y := x2 + 1) dX9_better_33 rfl (by first | rfl | decide) rfl rfl ?_
        refine ev_goto (t := 14) dX9_better_36 (by decide) ?_
        exact ih q5.2 x1 (x2 + 1) _ h kk

noncomputable def mi_X9_better (M : ab_M) (x1 : Int32) : Option (Int32 × ab_M) :=
  (mi_X9_within M x1 1 50).bind fun q1 =>
  if q1 = 0 then
    some ((-1), M)
  else
    (mi_X9_better_14 ab_F M x1 0).bind fun q8 =>
    some (q8.1, q8.2)

set_option maxHeartbeats 4000000 in
set_option maxRecDepth 100000 in
theorem co_X9_better {l : Launch} {D : va_G} {ac : Nat → ClassId} (M : ab_M) (x1 : Int32) (z : Int32 × ab_M) (h : mi_X9_better M x1 = some z) : ab_Con l D ac 7 me_X9_better 0 0 [.ref 0, .int x1] ab_SH M (some (.int z.1), ab_SH, z.2) := by
  refine ab_intro (lv := [some (.ref 0), some (.int x1), none]) (by decide) rfl (Nat.le_of_ble_eq_true rfl) rfl ?_
  unfold mi_X9_better at h
  refine ev_iload_n dX9_better_0 rfl ?_
  refine ev_iconst (x := 1) dX9_better_1 (by decide) ?_
  refine ev_bipush (x := 50) dX9_better_2 (by decide) ?_
  obtain ⟨q1, hv2, h⟩ := ab_bind h
  refine ev_callS (st := []) (co_X9_within M x1 1 50 _ hv2) mv_X9_within ml_RX9_72 dX9_better_4 (by decide) rfl (Nat.le_of_ble_eq_true rfl) ⟨Nat.le_refl _, Nat.le_refl _⟩ ?_
  refine ev_if_ne (t := 12) dX9_better_7 (by decide) (fun hc3 => ?_) (fun hc3 => ?_)
  · replace h := ab_neg hc3 h
    refine ev_iconst (x := 0) dX9_better_12 (by decide) ?_
    refine ev_istore_n dX9_better_13 (Nat.le_of_ble_eq_true rfl) rfl rfl ?_
    obtain ⟨q8, hq9, h⟩ := ab_bind h
    refine lp_X9_better_14 _ M x1 0 _ hq9 ?_
    refine ev_iload_n dX9_better_39 rfl ?_
    cases h
    exact ev_ireturn rfl dX9_better_40
  · replace h := ab_pos hc3 h
    refine ev_iconst (x := (-1)) dX9_better_10 (by decide) ?_
    cases h
    exact ev_ireturn rfl dX9_better_11

noncomputable def mi_X9_fewest (M : ab_M) (x1 : Int32) : Option (Int32 × ab_M) :=
  (mi_X9_within M x1 0 2).bind fun q1 =>
  if q1 = 0 then
    some ((-1), M)
  else
    (mi_X2_isClean M 67).bind fun q4 =>
    if q4 = 0 then
      if x1 < 1 then
        if x1 < 2 then
          some ((-2), M)
        else
          (mi_X5_changeTwo M 67).bind fun q9 =>
          if q9.1 = 0 then
            some ((-2), q9.2)
          else
            some (2, q9.2)
      else
        (mi_X5_changeOne M 67).bind fun q12 =>
        if q12.1 = 0 then
          if x1 < 2 then
            some ((-2), q12.2)
          else
            (mi_X5_changeTwo q12.2 67).bind fun q16 =>
            if q16.1 = 0 then
              some ((-2), q16.2)
            else
              some (2, q16.2)
        else
          some (1, q12.2)
    else
      some (0, M)

set_option maxHeartbeats 4000000 in
set_option maxRecDepth 100000 in
theorem co_X9_fewest {l : Launch} {D : va_G} {ac : Nat → ClassId} (M : ab_M) (x1 : Int32) (z : Int32 × ab_M) (h : mi_X9_fewest M x1 = some z) : ab_Con l D ac 8 me_X9_fewest 0 0 [.ref 0, .int x1] ab_SH M (some (.int z.1), ab_SH, z.2) := by
  refine ab_intro (lv := [some (.ref 0), some (.int x1)]) (by decide) rfl (Nat.le_of_ble_eq_true rfl) rfl ?_
  unfold mi_X9_fewest at h
  refine ev_iload_n dX9_fewest_0 rfl ?_
  refine ev_iconst (x := 0) dX9_fewest_1 (by decide) ?_
  refine ev_iconst (x := 2) dX9_fewest_2 (by decide) ?_
  obtain ⟨q1, hv2, h⟩ := ab_bind h
  refine ev_callS (st := []) (co_X9_within M x1 0 2 _ hv2) mv_X9_within ml_RX9_72 dX9_fewest_3 (by decide) rfl (Nat.le_of_ble_eq_true rfl) ⟨Nat.le_refl _, Nat.le_refl _⟩ ?_
  refine ev_if_ne (t := 11) dX9_fewest_6 (by decide) (fun hc3 => ?_) (fun hc3 => ?_)
  · replace h := ab_neg hc3 h
    refine ev_aload_n dX9_fewest_11 rfl ?_
    refine ev_getr (o' := 24) fl_RX9_21 sh_0 (by decide) (by decide) rfl rfl dX9_fewest_12 ?_
    refine ev_aload_n dX9_fewest_15 rfl ?_
    refine ev_getr (o' := 67) fl_RX9_55 sh_0 (by decide) (by decide) rfl rfl dX9_fewest_16 ?_
    obtain ⟨q4, hv5, h⟩ := ab_bind h
    refine ev_callV (st := []) (co_X2_isClean M 67 sh_67 _ hv5) mv_X2_isClean sh_24 ml_RX9_221 dX9_fewest_19 (by decide) rfl (Nat.le_of_ble_eq_true rfl) ⟨Nat.le_refl _, Nat.le_refl _⟩ ?_
    refine ev_if_eq (t := 27) dX9_fewest_22 (by decide) (fun hc6 => ?_) (fun hc6 => ?_)
    · replace h := ab_pos hc6 h
      refine ev_iload_n dX9_fewest_27 rfl ?_
      refine ev_iconst (x := 1) dX9_fewest_28 (by decide) ?_
      refine ev_icmp_lt (t := 48) dX9_fewest_29 (by decide) (fun hc7 => ?_) (fun hc7 => ?_)
      · replace h := ab_pos hc7 h
        refine ev_iload_n dX9_fewest_48 rfl ?_
        refine ev_iconst (x := 2) dX9_fewest_49 (by decide) ?_
        refine ev_icmp_lt (t := 69) dX9_fewest_50 (by decide) (fun hc8 => ?_) (fun hc8 => ?_)
        · replace h := ab_pos hc8 h
          refine ev_bipush (x := (-2)) dX9_fewest_69 (by decide) ?_
          cases h
          exact ev_ireturn rfl dX9_fewest_71
        · replace h := ab_neg hc8 h
          refine ev_aload_n dX9_fewest_53 rfl ?_
          refine ev_getr (o' := 30) fl_RX9_37 sh_0 (by decide) (by decide) rfl rfl dX9_fewest_54 ?_
          refine ev_aload_n dX9_fewest_57 rfl ?_
          refine ev_getr (o' := 67) fl_RX9_55 sh_0 (by decide) (by decide) rfl rfl dX9_fewest_58 ?_
          obtain ⟨q9, hv10, h⟩ := ab_bind h
          refine ev_callV (st := []) (co_X5_changeTwo M 67 sh_67 _ hv10) mv_X5_changeTwo sh_30 ml_RX9_227 dX9_fewest_61 (by decide) rfl (Nat.le_of_ble_eq_true rfl) ⟨Nat.le_refl _, Nat.le_refl _⟩ ?_
          refine ev_if_eq (t := 69) dX9_fewest_64 (by decide) (fun hc11 => ?_) (fun hc11 => ?_)
          · replace h := ab_pos hc11 h
            refine ev_bipush (x := (-2)) dX9_fewest_69 (by decide) ?_
            cases h
            exact ev_ireturn rfl dX9_fewest_71
          · replace h := ab_neg hc11 h
            refine ev_iconst (x := 2) dX9_fewest_67 (by decide) ?_
            cases h
            exact ev_ireturn rfl dX9_fewest_68
      · replace h := ab_neg hc7 h
        refine ev_aload_n dX9_fewest_32 rfl ?_
        refine ev_getr (o' := 30) fl_RX9_37 sh_0 (by decide) (by decide) rfl rfl dX9_fewest_33 ?_
        refine ev_aload_n dX9_fewest_36 rfl ?_
        refine ev_getr (o' := 67) fl_RX9_55 sh_0 (by decide) (by decide) rfl rfl dX9_fewest_37 ?_
        obtain ⟨q12, hv13, h⟩ := ab_bind h
        refine ev_callV (st := []) (co_X5_changeOne M 67 sh_67 _ hv13) mv_X5_changeOne sh_30 ml_RX9_224 dX9_fewest_40 (by decide) rfl (Nat.le_of_ble_eq_true rfl) ⟨Nat.le_refl _, Nat.le_refl _⟩ ?_
        refine ev_if_eq (t := 48) dX9_fewest_43 (by decide) (fun hc14 => ?_) (fun hc14 => ?_)
        · replace h := ab_pos hc14 h
          refine ev_iload_n dX9_fewest_48 rfl ?_
          refine ev_iconst (x := 2) dX9_fewest_49 (by decide) ?_
          refine ev_icmp_lt (t := 69) dX9_fewest_50 (by decide) (fun hc15 => ?_) (fun hc15 => ?_)
          · replace h := ab_pos hc15 h
            refine ev_bipush (x := (-2)) dX9_fewest_69 (by decide) ?_
            cases h
            exact ev_ireturn rfl dX9_fewest_71
          · replace h := ab_neg hc15 h
            refine ev_aload_n dX9_fewest_53 rfl ?_
            refine ev_getr (o' := 30) fl_RX9_37 sh_0 (by decide) (by decide) rfl rfl dX9_fewest_54 ?_
            refine ev_aload_n dX9_fewest_57 rfl ?_
            refine ev_getr (o' := 67) fl_RX9_55 sh_0 (by decide) (by decide) rfl rfl dX9_fewest_58 ?_
            obtain ⟨q16, hv17, h⟩ := ab_bind h
            refine ev_callV (st := []) (co_X5_changeTwo q12.2 67 sh_67 _ hv17) mv_X5_changeTwo sh_30 ml_RX9_227 dX9_fewest_61 (by decide) rfl (Nat.le_of_ble_eq_true rfl) ⟨Nat.le_refl _, Nat.le_refl _⟩ ?_
            refine ev_if_eq (t := 69) dX9_fewest_64 (by decide) (fun hc18 => ?_) (fun hc18 => ?_)
            · replace h := ab_pos hc18 h
              refine ev_bipush (x := (-2)) dX9_fewest_69 (by decide) ?_
              cases h
              exact ev_ireturn rfl dX9_fewest_71
            · replace h := ab_neg hc18 h
              refine ev_iconst (x := 2) dX9_fewest_67 (by decide) ?_
              cases h
              exact ev_ireturn rfl dX9_fewest_68
        · replace h := ab_neg hc14 h
          refine ev_iconst (x := 1) dX9_fewest_46 (by decide) ?_
          cases h
          exact ev_ireturn rfl dX9_fewest_47
    · replace h := ab_neg hc6 h
      refine ev_iconst (x := 0) dX9_fewest_25 (by decide) ?_
      cases h
      exact ev_ireturn rfl dX9_fewest_26
  · replace h := ab_pos hc3 h
    refine ev_iconst (x := (-1)) dX9_fewest_9 (by decide) ?_
    cases h
    exact ev_ireturn rfl dX9_fewest_10

noncomputable def mi_X9_bound (M : ab_M) (x1 : Int32) : Option (Int32 × ab_M) :=
  (mi_X9_within M x1 1 (((1 : Int32) <<< ((M.1 1 7) &&& 31)) - 1)).bind fun q1 =>
  if q1 = 0 then
    some ((-1), M)
  else
    (mi_X0_isCrowd M x1).bind fun q4 =>
    if q4 = 0 then
      some ((-2), M)
    else
      (mi_X0_wantsOf M x1).bind fun q7 =>
      if q7 ≤ 6 then
        (mi_X0_boundOf M x1).bind fun q10 =>
        some (q10.1, q10.2)
      else
        some ((-3), M)

set_option maxHeartbeats 4000000 in
set_option maxRecDepth 100000 in
theorem co_X9_bound {l : Launch} {D : va_G} {ac : Nat → ClassId} (M : ab_M) (x1 : Int32) (z : Int32 × ab_M) (h : mi_X9_bound M x1 = some z) : ab_Con l D ac 6 me_X9_bound 0 0 [.ref 0, .int x1] ab_SH M (some (.int z.1), ab_SH, z.2) := by
  refine ab_intro (lv := [some (.ref 0), some (.int x1)]) (by decide) rfl (Nat.le_of_ble_eq_true rfl) rfl ?_
  unfold mi_X9_bound at h
  refine ev_iload_n dX9_bound_0 rfl ?_
  refine ev_iconst (x := 1) dX9_bound_1 (by decide) ?_
  refine ev_iconst (x := 1) dX9_bound_2 (by decide) ?_
  refine ev_aload_n dX9_bound_3 rfl ?_
  refine ev_getr (o' := 1) fl_RX9_12 sh_0 (by decide) (by decide) rfl rfl dX9_bound_4 ?_
  refine ev_geti fl_RX9_80 sh_1 (by decide) (by decide) rfl dX9_bound_7 ?_
  refine ev_ishl dX9_bound_10 ?_
  refine ev_iconst (x := 1) dX9_bound_11 (by decide) ?_
  refine ev_isub dX9_bound_12 ?_
  obtain ⟨q1, hv2, h⟩ := ab_bind h
  refine ev_callS (st := []) (co_X9_within M x1 1 (((1 : Int32) <<< ((M.1 1 7) &&& 31)) - 1) _ hv2) mv_X9_within ml_RX9_72 dX9_bound_13 (by decide) rfl (Nat.le_of_ble_eq_true rfl) ⟨Nat.le_refl _, Nat.le_refl _⟩ ?_
  refine ev_if_ne (t := 21) dX9_bound_16 (by decide) (fun hc3 => ?_) (fun hc3 => ?_)
  · replace h := ab_neg hc3 h
    refine ev_aload_n dX9_bound_21 rfl ?_
    refine ev_getr (o' := 31) fl_RX9_44 sh_0 (by decide) (by decide) rfl rfl dX9_bound_22 ?_
    refine ev_iload_n dX9_bound_25 rfl ?_
    obtain ⟨q4, hv5, h⟩ := ab_bind h
    refine ev_callV (st := []) (co_X0_isCrowd M x1 _ hv5) mv_X0_isCrowd sh_31 ml_RX9_230 dX9_bound_26 (by decide) rfl (Nat.le_of_ble_eq_true rfl) ⟨Nat.le_refl _, Nat.le_refl _⟩ ?_
    refine ev_if_ne (t := 35) dX9_bound_29 (by decide) (fun hc6 => ?_) (fun hc6 => ?_)
    · replace h := ab_neg hc6 h
      refine ev_aload_n dX9_bound_35 rfl ?_
      refine ev_getr (o' := 31) fl_RX9_44 sh_0 (by decide) (by decide) rfl rfl dX9_bound_36 ?_
      refine ev_iload_n dX9_bound_39 rfl ?_
      obtain ⟨q7, hv8, h⟩ := ab_bind h
      refine ev_callV (st := []) (co_X0_wantsOf M x1 _ hv8) mv_X0_wantsOf sh_31 ml_RX9_233 dX9_bound_40 (by decide) rfl (Nat.le_of_ble_eq_true rfl) ⟨Nat.le_refl _, Nat.le_refl _⟩ ?_
      refine ev_bipush (x := 6) dX9_bound_43 (by decide) ?_
      refine ev_icmp_le (t := 51) dX9_bound_45 (by decide) (fun hc9 => ?_) (fun hc9 => ?_)
      · replace h := ab_pos hc9 h
        refine ev_aload_n dX9_bound_51 rfl ?_
        refine ev_getr (o' := 31) fl_RX9_44 sh_0 (by decide) (by decide) rfl rfl dX9_bound_52 ?_
        refine ev_iload_n dX9_bound_55 rfl ?_
        obtain ⟨q10, hv11, h⟩ := ab_bind h
        refine ev_callV (st := []) (co_X0_boundOf M x1 _ hv11) mv_X0_boundOf sh_31 ml_RX9_236 dX9_bound_56 (by decide) rfl (Nat.le_of_ble_eq_true rfl) ⟨Nat.le_refl _, Nat.le_refl _⟩ ?_
        cases h
        exact ev_ireturn rfl dX9_bound_59
      · replace h := ab_neg hc9 h
        refine ev_bipush (x := (-3)) dX9_bound_48 (by decide) ?_
        cases h
        exact ev_ireturn rfl dX9_bound_50
    · replace h := ab_pos hc6 h
      refine ev_bipush (x := (-2)) dX9_bound_32 (by decide) ?_
      cases h
      exact ev_ireturn rfl dX9_bound_34
  · replace h := ab_pos hc3 h
    refine ev_iconst (x := (-1)) dX9_bound_19 (by decide) ?_
    cases h
    exact ev_ireturn rfl dX9_bound_20

noncomputable def mi_X9_crowd (M : ab_M) : Option (Int32 × ab_M) :=
  (mi_X0_greatest M).bind fun q1 =>
  some (q1.1, q1.2)

set_option maxHeartbeats 4000000 in
set_option maxRecDepth 100000 in
theorem co_X9_crowd {l : Launch} {D : va_G} {ac : Nat → ClassId} (M : ab_M) (z : Int32 × ab_M) (h : mi_X9_crowd M = some z) : ab_Con l D ac 13 me_X9_crowd 0 0 [.ref 0] ab_SH M (some (.int z.1), ab_SH, z.2) := by
  refine ab_intro (lv := [some (.ref 0)]) (by decide) rfl (Nat.le_of_ble_eq_true rfl) rfl ?_
  unfold mi_X9_crowd at h
  refine ev_aload_n dX9_crowd_0 rfl ?_
  refine ev_getr (o' := 31) fl_RX9_44 sh_0 (by decide) (by decide) rfl rfl dX9_crowd_1 ?_
  obtain ⟨q1, hv2, h⟩ := ab_bind h
  refine ev_callV (st := []) (co_X0_greatest M _ hv2) mv_X0_greatest sh_31 ml_RX9_239 dX9_crowd_4 (by decide) rfl (Nat.le_of_ble_eq_true rfl) ⟨Nat.le_refl _, Nat.le_refl _⟩ ?_
  cases h
  exact ev_ireturn rfl dX9_crowd_7

noncomputable def mi_X9_part (M : ab_M) (x1 : Int32) : Option (Int32) :=
  (mi_X3_hasMast M x1).bind fun q1 =>
  if q1 = 0 then
    some (-1)
  else
    (mi_X3_partOf M x1).bind fun q4 =>
    some q4

set_option maxHeartbeats 4000000 in
set_option maxRecDepth 100000 in
theorem co_X9_part {l : Launch} {D : va_G} {ac : Nat → ClassId} (M : ab_M) (x1 : Int32) (z : Int32) (h : mi_X9_part M x1 = some z) : ab_Con l D ac 5 me_X9_part 0 0 [.ref 0, .int x1] ab_SH M (some (.int z), ab_SH, M) := by
  refine ab_intro (lv := [some (.ref 0), some (.int x1)]) (by decide) rfl (Nat.le_of_ble_eq_true rfl) rfl ?_
  unfold mi_X9_part at h
  refine ev_aload_n dX9_part_0 rfl ?_
  refine ev_getr (o' := 1) fl_RX9_12 sh_0 (by decide) (by decide) rfl rfl dX9_part_1 ?_
  refine ev_iload_n dX9_part_4 rfl ?_
  obtain ⟨q1, hv2, h⟩ := ab_bind h
  refine ev_callV (st := []) (co_X3_hasMast M x1 _ hv2) mv_X3_hasMast sh_1 ml_RX9_90 dX9_part_5 (by decide) rfl (Nat.le_of_ble_eq_true rfl) ⟨Nat.le_refl _, Nat.le_refl _⟩ ?_
  refine ev_if_eq (t := 22) dX9_part_8 (by decide) (fun hc3 => ?_) (fun hc3 => ?_)
  · replace h := ab_pos hc3 h
    refine ev_iconst (x := (-1)) dX9_part_22 (by decide) ?_
    cases h
    exact ev_ireturn rfl dX9_part_23
  · replace h := ab_neg hc3 h
    refine ev_aload_n dX9_part_11 rfl ?_
    refine ev_getr (o' := 1) fl_RX9_12 sh_0 (by decide) (by decide) rfl rfl dX9_part_12 ?_
    refine ev_iload_n dX9_part_15 rfl ?_
    obtain ⟨q4, hv5, h⟩ := ab_bind h
    refine ev_callV (st := []) (co_X3_partOf M x1 _ hv5) mv_X3_partOf sh_1 ml_RX9_243 dX9_part_16 (by decide) rfl (Nat.le_of_ble_eq_true rfl) ⟨Nat.le_refl _, Nat.le_refl _⟩ ?_
    refine ev_goto (t := 23) dX9_part_19 (by decide) ?_
    cases h
    exact ev_ireturn rfl dX9_part_23

noncomputable def mi_X9_image (M : ab_M) : Option (Int32 × ab_M) :=
  ab_chk (¬ (0 : Int32) < 0 ∧ ¬ (0 : Int32) < 0 ∧ ¬ (16 : Int32) < 0 ∧ (0 : Int32).toNatClampNeg + (16 : Int32).toNatClampNeg ≤ 16 ∧ (0 : Int32).toNatClampNeg + (16 : Int32).toNatClampNeg ≤ 16) <|
  (mi_X2_served (ab_pi (ab_cpi M 67 68 0 0 16) 0 8 ((ab_cpi M 67 68 0 0 16).1 1 8)) 67).bind fun q2 =>
  some (q2, (ab_pi (ab_cpi M 67 68 0 0 16) 0 8 ((ab_cpi M 67 68 0 0 16).1 1 8)))

set_option maxHeartbeats 4000000 in
set_option maxRecDepth 100000 in
theorem co_X9_image {l : Launch} {D : va_G} {ac : Nat → ClassId} (M : ab_M) (z : Int32 × ab_M) (h : mi_X9_image M = some z) : ab_Con l D ac 2 me_X9_image 0 0 [.ref 0] ab_SH M (some (.int z.1), ab_SH, z.2) := by
  refine ab_intro (lv := [some (.ref 0)]) (by decide) rfl (Nat.le_of_ble_eq_true rfl) rfl ?_
  unfold mi_X9_image at h
  refine ev_aload_n dX9_image_0 rfl ?_
  refine ev_getr (o' := 67) fl_RX9_55 sh_0 (by decide) (by decide) rfl rfl dX9_image_1 ?_
  refine ev_iconst (x := 0) dX9_image_4 (by decide) ?_
  refine ev_aload_n dX9_image_5 rfl ?_
  refine ev_getr (o' := 68) fl_RX9_59 sh_0 (by decide) (by decide) rfl rfl dX9_image_6 ?_
  refine ev_iconst (x := 0) dX9_image_9 (by decide) ?_
  refine ev_bipush (x := 16) dX9_image_10 (by decide) ?_
  obtain ⟨hb1, h⟩ := ab_chk_some h
  refine ev_copyi ml_RX9_246 sh_67 sh_68 hb1 dX9_image_12 (by decide) (Nat.le_of_ble_eq_true rfl) ?_
  refine ev_aload_n dX9_image_15 rfl ?_
  refine ev_aload_n dX9_image_16 rfl ?_
  refine ev_getr (o' := 1) fl_RX9_12 sh_0 (by decide) (by decide) rfl rfl dX9_image_17 ?_
  refine ev_geti fl_RX9_83 sh_1 (by decide) (by decide) rfl dX9_image_20 ?_
  refine ev_puti fl_RX9_68 sh_0 (by decide) (by decide) rfl rfl rfl dX9_image_23 ?_
  refine ev_aload_n dX9_image_26 rfl ?_
  refine ev_getr (o' := 24) fl_RX9_21 sh_0 (by decide) (by decide) rfl rfl dX9_image_27 ?_
  refine ev_aload_n dX9_image_30 rfl ?_
  refine ev_getr (o' := 67) fl_RX9_55 sh_0 (by decide) (by decide) rfl rfl dX9_image_31 ?_
  obtain ⟨q2, hv3, h⟩ := ab_bind h
  refine ev_callV (st := []) (co_X2_served (ab_pi (ab_cpi M 67 68 0 0 16) 0 8 ((ab_cpi M 67 68 0 0 16).1 1 8)) 67 sh_67 _ hv3) mv_X2_served sh_24 ml_RX9_179 dX9_image_34 (by decide) rfl (Nat.le_of_ble_eq_true rfl) ⟨Nat.le_refl _, Nat.le_refl _⟩ ?_
  cases h
  exact ev_ireturn rfl dX9_image_37

noncomputable def mi_X9_restore_15 : Nat → ab_M → Int32 → Int32 → Option (Int32 × Int32 × ab_M)
  | 0, _, _, _ => none
  | n + 1, M, x1, x2 =>
    if (M.1 0 8) ≤ x2 then
      some (x1, x2, M)
    else
      if 16 ≤ x2 then
        some (x1, x2, M)
      else
        ab_chk (vp_in x2 16) <|
        ab_chk (vp_in x2 16) <|
        ((if (M.1 67 (x2).toNatClampNeg) = (M.1 68 (x2).toNatClampNeg) then
          some 0
        else
          some 1) : Option (Int32)).bind fun q6 =>
        ab_chk (vp_in x2 16) <|
        ab_chk (vp_in x2 16) <|
        mi_X9_restore_15 n (ab_pi M 67 (x2).toNatClampNeg (M.1 68 (x2).toNatClampNeg)) (x1 + q6) (x2 + 1)

set_option maxHeartbeats 4000000 in
set_option maxRecDepth 100000 in
theorem lp_X9_restore_15 {l : Launch} {D : va_G} {ac : Nat → ClassId} {n0 : Nat} {r : ab_Rs} : ∀ (n : Nat) (M : ab_M) (x1 : Int32) (x2 : Int32) (q : Int32 × Int32 × ab_M) (h : mi_X9_restore_15 n M x1 x2 = some q) (kk : ab_Ev l D ac 1 me_X9_restore n0 0 0 r 0 0 ab_SH 70 [some (.ref 0), some (.int q.1), some (.int q.2.1)] [] q.2.2), ab_Ev l D ac 1 me_X9_restore n0 0 0 r 0 0 ab_SH 15 [some (.ref 0), some (.int x1), some (.int x2)] [] M := by
  intro n
  induction n with
  | zero =>
    intro M x1 x2 q h kk
    cases h
  | succ n ih =>
    intro M x1 x2 q h kk
    unfold mi_X9_restore_15 at h
    refine ev_iload_n dX9_restore_15 rfl ?_
    refine ev_aload_n dX9_restore_16 rfl ?_
    refine ev_geti fl_RX9_68 sh_0 (by decide) (by decide) rfl dX9_restore_17 ?_
    refine ev_icmp_ge (t := 70) dX9_restore_20 (by decide) (fun hc2 => ?_) (fun hc2 => ?_)
    · replace h := ab_pos hc2 h
      cases h
      exact kk
    · replace h := ab_neg hc2 h
      refine ev_iload_n dX9_restore_23 rfl ?_
      refine ev_bipush (x := 16) dX9_restore_24 (by decide) ?_
      refine ev_icmp_ge (t := 70) dX9_restore_26 (by decide) (fun hc3 => ?_) (fun hc3 => ?_)
      · replace h := ab_pos hc3 h
        cases h
        exact kk
      · replace h := ab_neg hc3 h
        refine ev_iload_n dX9_restore_29 rfl ?_
        refine ev_aload_n dX9_restore_30 rfl ?_
        refine ev_getr (o' := 67) fl_RX9_55 sh_0 (by decide) (by decide) rfl rfl dX9_restore_31 ?_
        refine ev_iload_n dX9_restore_34 rfl ?_
        obtain ⟨hb4, h⟩ := ab_chk_some h
        refine ev_iaload sh_67 hb4 dX9_restore_35 ?_
        refine ev_aload_n dX9_restore_36 rfl ?_
        refine ev_getr (o' := 68) fl_RX9_59 sh_0 (by decide) (by decide) rfl rfl dX9_restore_37 ?_
        refine ev_iload_n dX9_restore_40 rfl ?_
        obtain ⟨hb5, h⟩ := ab_chk_some h
        refine ev_iaload sh_68 hb5 dX9_restore_41 ?_
        obtain ⟨q6, hq7, h⟩ := ab_bind h
        have hJ8 : ab_Ev l D ac 1 me_X9_restore n0 0 0 r 0 0 ab_SH 50 [some (.ref 0), some (.int x1), some (.int x2)] [.int q6, .int x1] M := by
          refine ev_iadd dX9_restore_50 ?_
          refine ev_istore_n dX9_restore_51 (Nat.le_of_ble_eq_true rfl) rfl rfl ?_
          refine ev_aload_n dX9_restore_52 rfl ?_
          refine ev_getr (o' := 67) fl_RX9_55 sh_0 (by decide) (by decide) rfl rfl dX9_restore_53 ?_
          refine ev_iload_n dX9_restore_56 rfl ?_
          refine ev_aload_n dX9_restore_57 rfl ?_
          refine ev_getr (o' := 68) fl_RX9_59 sh_0 (by decide) (by decide) rfl rfl dX9_restore_58 ?_
          refine ev_iload_n dX9_restore_61 rfl ?_
          obtain ⟨hb10, h⟩ := ab_chk_some h
          refine ev_iaload sh_68 hb10 dX9_restore_62 ?_
          obtain ⟨hb11, h⟩ := ab_chk_some h
          refine ev_iastore sh_67 hb11 dX9_restore_63 ?_
          refine ev_iinc (y := x2 + 1) dX9_restore_64 rfl (by first | rfl | decide) rfl rfl ?_
          refine ev_goto (t := 15) dX9_restore_67 (by decide) ?_
          exact ih (ab_pi M 67 (x2).toNatClampNeg (M.1 68 (x2).toNatClampNeg)) (x1 + q6) (x2 + 1) _ h kk
        refine ev_icmp_eq (t := 49) dX9_restore_42 (by decide) (fun hc9 => ?_) (fun hc9 => ?_)
        · replace hq7 := ab_pos hc9 hq7
          refine ev_iconst (x := 0) dX9_restore_49 (by decide) ?_
          cases hq7
          exact hJ8
        · replace hq7 := ab_neg hc9 hq7
          refine ev_iconst (x := 1) dX9_restore_45 (by decide) ?_
          refine ev_goto (t := 50) dX9_restore_46 (by decide) ?_
          cases hq7
          exact hJ8

noncomputable def mi_X9_restore (M : ab_M) : Option (Int32 × ab_M) :=
  if (M.1 0 8) = (-1) then
    some ((-2), M)
  else
    (mi_X9_restore_15 ab_F M 0 0).bind fun q12 =>
    some (q12.1, q12.2.2)

set_option maxHeartbeats 4000000 in
set_option maxRecDepth 100000 in
theorem co_X9_restore {l : Launch} {D : va_G} {ac : Nat → ClassId} (M : ab_M) (z : Int32 × ab_M) (h : mi_X9_restore M = some z) : ab_Con l D ac 1 me_X9_restore 0 0 [.ref 0] ab_SH M (some (.int z.1), ab_SH, z.2) := by
  refine ab_intro (lv := [some (.ref 0), none, none]) (by decide) rfl (Nat.le_of_ble_eq_true rfl) rfl ?_
  unfold mi_X9_restore at h
  refine ev_aload_n dX9_restore_0 rfl ?_
  refine ev_geti fl_RX9_68 sh_0 (by decide) (by decide) rfl dX9_restore_1 ?_
  refine ev_iconst (x := (-1)) dX9_restore_4 (by decide) ?_
  refine ev_icmp_ne (t := 11) dX9_restore_5 (by decide) (fun hc1 => ?_) (fun hc1 => ?_)
  · replace h := ab_neg hc1 h
    refine ev_iconst (x := 0) dX9_restore_11 (by decide) ?_
    refine ev_istore_n dX9_restore_12 (Nat.le_of_ble_eq_true rfl) rfl rfl ?_
    refine ev_iconst (x := 0) dX9_restore_13 (by decide) ?_
    refine ev_istore_n dX9_restore_14 (Nat.le_of_ble_eq_true rfl) rfl rfl ?_
    obtain ⟨q12, hq13, h⟩ := ab_bind h
    refine lp_X9_restore_15 _ M 0 0 _ hq13 ?_
    refine ev_iload_n dX9_restore_70 rfl ?_
    cases h
    exact ev_ireturn rfl dX9_restore_71
  · replace h := ab_pos hc1 h
    refine ev_bipush (x := (-2)) dX9_restore_8 (by decide) ?_
    cases h
    exact ev_ireturn rfl dX9_restore_10

noncomputable def mi_X9_count (M : ab_M) (x1 : Int32) : Option (Int32) :=
  if x1 = 0 then
    some (M.1 1 7)
  else
    if x1 = 1 then
      some (M.1 1 8)
    else
      if x1 = 2 then
        some (M.1 5 3)
      else
        if x1 = 3 then
          (mi_X3_barredTwos M).bind fun q5 =>
          some q5
        else
          if x1 = 4 then
            (mi_X3_threesIn M).bind fun q8 =>
            some q8
          else
            if x1 = 5 then
              (mi_X3_parts M).bind fun q11 =>
              some q11
            else
              if x1 = 6 then
                (mi_X2_served M 67).bind fun q14 =>
                some q14
              else
                some (-1)

set_option maxHeartbeats 4000000 in
set_option maxRecDepth 100000 in
theorem co_X9_count {l : Launch} {D : va_G} {ac : Nat → ClassId} (M : ab_M) (x1 : Int32) (z : Int32) (h : mi_X9_count M x1 = some z) : ab_Con l D ac 5 me_X9_count 0 0 [.ref 0, .int x1] ab_SH M (some (.int z), ab_SH, M) := by
  refine ab_intro (lv := [some (.ref 0), some (.int x1)]) (by decide) rfl (Nat.le_of_ble_eq_true rfl) rfl ?_
  unfold mi_X9_count at h
  refine ev_iload_n dX9_count_0 rfl ?_
  by_cases hc1 : x1 = 0
  · replace h := ab_pos hc1 h
    have hx22 : (x1 : Int32).toInt = 0 := by rw [hc1]; decide
    refine ev_tableIn (t := 44) (off := 43) dX9_count_1 (by rw [hx22]; decide) (by rw [hx22]; decide) (by rw [hx22]; rfl) (by decide) ?_
    refine ev_aload_n dX9_count_44 rfl ?_
    refine ev_getr (o' := 1) fl_RX9_12 sh_0 (by decide) (by decide) rfl rfl dX9_count_45 ?_
    refine ev_geti fl_RX9_80 sh_1 (by decide) (by decide) rfl dX9_count_48 ?_
    cases h
    exact ev_ireturn rfl dX9_count_51
  · replace h := ab_neg hc1 h
    by_cases hc2 : x1 = 1
    · replace h := ab_pos hc2 h
      have hx21 : (x1 : Int32).toInt = 1 := by rw [hc2]; decide
      refine ev_tableIn (t := 52) (off := 51) dX9_count_1 (by rw [hx21]; decide) (by rw [hx21]; decide) (by rw [hx21]; rfl) (by decide) ?_
      refine ev_aload_n dX9_count_52 rfl ?_
      refine ev_getr (o' := 1) fl_RX9_12 sh_0 (by decide) (by decide) rfl rfl dX9_count_53 ?_
      refine ev_geti fl_RX9_83 sh_1 (by decide) (by decide) rfl dX9_count_56 ?_
      cases h
      exact ev_ireturn rfl dX9_count_59
    · replace h := ab_neg hc2 h
      by_cases hc3 : x1 = 2
      · replace h := ab_pos hc3 h
        have hx20 : (x1 : Int32).toInt = 2 := by rw [hc3]; decide
        refine ev_tableIn (t := 60) (off := 59) dX9_count_1 (by rw [hx20]; decide) (by rw [hx20]; decide) (by rw [hx20]; rfl) (by decide) ?_
        refine ev_aload_n dX9_count_60 rfl ?_
        refine ev_getr (o' := 1) fl_RX9_12 sh_0 (by decide) (by decide) rfl rfl dX9_count_61 ?_
        refine ev_getr (o' := 5) fl_RX9_128 sh_1 (by decide) (by decide) rfl rfl dX9_count_64 ?_
        refine ev_geti fl_RX9_132 sh_5 (by decide) (by decide) rfl dX9_count_67 ?_
        cases h
        exact ev_ireturn rfl dX9_count_70
      · replace h := ab_neg hc3 h
        by_cases hc4 : x1 = 3
        · replace h := ab_pos hc4 h
          have hx19 : (x1 : Int32).toInt = 3 := by rw [hc4]; decide
          refine ev_tableIn (t := 71) (off := 70) dX9_count_1 (by rw [hx19]; decide) (by rw [hx19]; decide) (by rw [hx19]; rfl) (by decide) ?_
          refine ev_aload_n dX9_count_71 rfl ?_
          refine ev_getr (o' := 1) fl_RX9_12 sh_0 (by decide) (by decide) rfl rfl dX9_count_72 ?_
          obtain ⟨q5, hv6, h⟩ := ab_bind h
          refine ev_callV (st := []) (co_X3_barredTwos M _ hv6) mv_X3_barredTwos sh_1 ml_RX9_252 dX9_count_75 (by decide) rfl (Nat.le_of_ble_eq_true rfl) ⟨Nat.le_refl _, Nat.le_refl _⟩ ?_
          cases h
          exact ev_ireturn rfl dX9_count_78
        · replace h := ab_neg hc4 h
          by_cases hc7 : x1 = 4
          · replace h := ab_pos hc7 h
            have hx18 : (x1 : Int32).toInt = 4 := by rw [hc7]; decide
            refine ev_tableIn (t := 79) (off := 78) dX9_count_1 (by rw [hx18]; decide) (by rw [hx18]; decide) (by rw [hx18]; rfl) (by decide) ?_
            refine ev_aload_n dX9_count_79 rfl ?_
            refine ev_getr (o' := 1) fl_RX9_12 sh_0 (by decide) (by decide) rfl rfl dX9_count_80 ?_
            obtain ⟨q8, hv9, h⟩ := ab_bind h
            refine ev_callV (st := []) (co_X3_threesIn M _ hv9) mv_X3_threesIn sh_1 ml_RX9_255 dX9_count_83 (by decide) rfl (Nat.le_of_ble_eq_true rfl) ⟨Nat.le_refl _, Nat.le_refl _⟩ ?_
            cases h
            exact ev_ireturn rfl dX9_count_86
          · replace h := ab_neg hc7 h
            by_cases hc10 : x1 = 5
            · replace h := ab_pos hc10 h
              have hx17 : (x1 : Int32).toInt = 5 := by rw [hc10]; decide
              refine ev_tableIn (t := 87) (off := 86) dX9_count_1 (by rw [hx17]; decide) (by rw [hx17]; decide) (by rw [hx17]; rfl) (by decide) ?_
              refine ev_aload_n dX9_count_87 rfl ?_
              refine ev_getr (o' := 1) fl_RX9_12 sh_0 (by decide) (by decide) rfl rfl dX9_count_88 ?_
              obtain ⟨q11, hv12, h⟩ := ab_bind h
              refine ev_callV (st := []) (co_X3_parts M _ hv12) mv_X3_parts sh_1 ml_RX9_258 dX9_count_91 (by decide) rfl (Nat.le_of_ble_eq_true rfl) ⟨Nat.le_refl _, Nat.le_refl _⟩ ?_
              cases h
              exact ev_ireturn rfl dX9_count_94
            · replace h := ab_neg hc10 h
              by_cases hc13 : x1 = 6
              · replace h := ab_pos hc13 h
                have hx16 : (x1 : Int32).toInt = 6 := by rw [hc13]; decide
                refine ev_tableIn (t := 95) (off := 94) dX9_count_1 (by rw [hx16]; decide) (by rw [hx16]; decide) (by rw [hx16]; rfl) (by decide) ?_
                refine ev_aload_n dX9_count_95 rfl ?_
                refine ev_getr (o' := 24) fl_RX9_21 sh_0 (by decide) (by decide) rfl rfl dX9_count_96 ?_
                refine ev_aload_n dX9_count_99 rfl ?_
                refine ev_getr (o' := 67) fl_RX9_55 sh_0 (by decide) (by decide) rfl rfl dX9_count_100 ?_
                obtain ⟨q14, hv15, h⟩ := ab_bind h
                refine ev_callV (st := []) (co_X2_served M 67 sh_67 _ hv15) mv_X2_served sh_24 ml_RX9_179 dX9_count_103 (by decide) rfl (Nat.le_of_ble_eq_true rfl) ⟨Nat.le_refl _, Nat.le_refl _⟩ ?_
                cases h
                exact ev_ireturn rfl dX9_count_106
              · replace h := ab_neg hc13 h
                have ehc1 := lv_neT (a := 0) hc1 (by decide)
                have ehc2 := lv_neT (a := 1) hc2 (by decide)
                have ehc3 := lv_neT (a := 2) hc3 (by decide)
                have ehc4 := lv_neT (a := 3) hc4 (by decide)
                have ehc7 := lv_neT (a := 4) hc7 (by decide)
                have ehc10 := lv_neT (a := 5) hc10 (by decide)
                have ehc13 := lv_neT (a := 6) hc13 (by decide)
                refine ev_tableOut (t := 107) dX9_count_1 (by omega) (by decide) ?_
                refine ev_iconst (x := (-1)) dX9_count_107 (by decide) ?_
                cases h
                exact ev_ireturn rfl dX9_count_108

noncomputable def mi_X9_look (M : ab_M) (x1 : Int32) (x2 : Int32) : Option (Int32) :=
  (mi_X3_hasMast M x1).bind fun q1 =>
  if q1 = 0 then
    some (-1)
  else
    ab_chk (vp_in x1 12) <|
    (mi_X4_trait M (12 + (x1).toNatClampNeg) x2).bind fun q5 =>
    some q5

set_option maxHeartbeats 4000000 in
set_option maxRecDepth 100000 in
theorem co_X9_look {l : Launch} {D : va_G} {ac : Nat → ClassId} (M : ab_M) (x1 : Int32) (x2 : Int32) (z : Int32) (h : mi_X9_look M x1 x2 = some z) : ab_Con l D ac 3 me_X9_look 0 0 [.ref 0, .int x1, .int x2] ab_SH M (some (.int z), ab_SH, M) := by
  refine ab_intro (lv := [some (.ref 0), some (.int x1), some (.int x2)]) (by decide) rfl (Nat.le_of_ble_eq_true rfl) rfl ?_
  unfold mi_X9_look at h
  refine ev_aload_n dX9_look_0 rfl ?_
  refine ev_getr (o' := 1) fl_RX9_12 sh_0 (by decide) (by decide) rfl rfl dX9_look_1 ?_
  refine ev_iload_n dX9_look_4 rfl ?_
  obtain ⟨q1, hv2, h⟩ := ab_bind h
  refine ev_callV (st := []) (co_X3_hasMast M x1 _ hv2) mv_X3_hasMast sh_1 ml_RX9_90 dX9_look_5 (by decide) rfl (Nat.le_of_ble_eq_true rfl) ⟨Nat.le_refl _, Nat.le_refl _⟩ ?_
  refine ev_if_eq (t := 27) dX9_look_8 (by decide) (fun hc3 => ?_) (fun hc3 => ?_)
  · replace h := ab_pos hc3 h
    refine ev_iconst (x := (-1)) dX9_look_27 (by decide) ?_
    cases h
    exact ev_ireturn rfl dX9_look_28
  · replace h := ab_neg hc3 h
    refine ev_aload_n dX9_look_11 rfl ?_
    refine ev_getr (o' := 1) fl_RX9_12 sh_0 (by decide) (by decide) rfl rfl dX9_look_12 ?_
    refine ev_getr (o' := 2) fl_RX9_98 sh_1 (by decide) (by decide) rfl rfl dX9_look_15 ?_
    refine ev_iload_n dX9_look_18 rfl ?_
    obtain ⟨hb4, h⟩ := ab_chk_some h
    refine ev_aaload sh_2 (Or.inl rfl) hb4 (rf_mast hb4) dX9_look_19 ?_
    refine ev_iload_n dX9_look_20 rfl ?_
    obtain ⟨q5, hv6, h⟩ := ab_bind h
    refine ev_callV (st := []) (co_X4_trait M (12 + (x1).toNatClampNeg) (sh_mast hb4) x2 _ hv6) mv_X4_trait (sh_mast hb4) ml_RX9_261 dX9_look_21 (by decide) rfl (Nat.le_of_ble_eq_true rfl) ⟨Nat.le_refl _, Nat.le_refl _⟩ ?_
    refine ev_goto (t := 28) dX9_look_24 (by decide) ?_
    cases h
    exact ev_ireturn rfl dX9_look_28

noncomputable def mi_X9_keep (M : ab_M) (x1 : Int32) (x2 : Int32) (x3 : Int32) : Option (Int32 × ab_M) :=
  (mi_X9_isShelf M x1).bind fun q1 =>
  if q1 = 0 then
    some ((-1), M)
  else
    ((if x2 = 1 then
      some 1
    else
      if x2 = 4 then
        some 1
      else
        some 0) : Option (Int32)).bind fun q4 =>
    if q4 = 0 then
      if x2 = 0 then
        ab_chk (vp_in x1 8) <|
        (mi_X6_clear M (35 + 4 * (x1).toNatClampNeg)).bind fun q12 =>
        some (0, q12)
      else
        if x2 = 1 then
          ab_chk (vp_in x1 8) <|
          ab_chk (vp_in x3 12) <|
          (mi_X6_takeMast M (35 + 4 * (x1).toNatClampNeg) (12 + (x3).toNatClampNeg)).bind fun q17 =>
          some (0, q17)
        else
          if x2 = 2 then
            some ((-1), M)
          else
            if x2 = 3 then
              ab_chk (vp_in x1 8) <|
              (mi_X6_takeChannels M (35 + 4 * (x1).toNatClampNeg) 67 (M.1 1 8)).bind fun q22 =>
              some (0, q22)
            else
              if x2 = 4 then
                ab_chk (vp_in x1 8) <|
                (mi_X6_takeSquares M (35 + 4 * (x1).toNatClampNeg) x3).bind fun q26 =>
                some (0, q26)
              else
                some ((-1), M)
    else
      (mi_X3_hasMast M x3).bind fun q33 =>
      if q33 = 0 then
        some ((-1), M)
      else
        if x2 = 0 then
          ab_chk (vp_in x1 8) <|
          (mi_X6_clear M (35 + 4 * (x1).toNatClampNeg)).bind fun q38 =>
          some (0, q38)
        else
          if x2 = 1 then
            ab_chk (vp_in x1 8) <|
            ab_chk (vp_in x3 12) <|
            (mi_X6_takeMast M (35 + 4 * (x1).toNatClampNeg) (12 + (x3).toNatClampNeg)).bind fun q43 =>
            some (0, q43)
          else
            if x2 = 2 then
              some ((-1), M)
            else
              if x2 = 3 then
                ab_chk (vp_in x1 8) <|
                (mi_X6_takeChannels M (35 + 4 * (x1).toNatClampNeg) 67 (M.1 1 8)).bind fun q48 =>
                some (0, q48)
              else
                if x2 = 4 then
                  ab_chk (vp_in x1 8) <|
                  (mi_X6_takeSquares M (35 + 4 * (x1).toNatClampNeg) x3).bind fun q52 =>
                  some (0, q52)
                else
                  some ((-1), M)

set_option maxHeartbeats 4000000 in
set_option maxRecDepth 100000 in
theorem co_X9_keep {l : Launch} {D : va_G} {ac : Nat → ClassId} (M : ab_M) (x1 : Int32) (x2 : Int32) (x3 : Int32) (z : Int32 × ab_M) (h : mi_X9_keep M x1 x2 x3 = some z) : ab_Con l D ac 3 me_X9_keep 0 0 [.ref 0, .int x1, .int x2, .int x3] ab_SH M (some (.int z.1), ab_SH, z.2) := by
  refine ab_intro (lv := [some (.ref 0), some (.int x1), some (.int x2), some (.int x3), none]) (by decide) rfl (Nat.le_of_ble_eq_true rfl) rfl ?_
  unfold mi_X9_keep at h
  refine ev_iload_n dX9_keep_0 rfl ?_
  obtain ⟨q1, hv2, h⟩ := ab_bind h
  refine ev_callS (st := []) (co_X9_isShelf M x1 _ hv2) mv_X9_isShelf ml_RX9_264 dX9_keep_1 (by decide) rfl (Nat.le_of_ble_eq_true rfl) ⟨Nat.le_refl _, Nat.le_refl _⟩ ?_
  refine ev_if_ne (t := 9) dX9_keep_4 (by decide) (fun hc3 => ?_) (fun hc3 => ?_)
  · replace h := ab_neg hc3 h
    refine ev_iload_n dX9_keep_9 rfl ?_
    refine ev_iconst (x := 1) dX9_keep_10 (by decide) ?_
    obtain ⟨q4, hq5, h⟩ := ab_bind h
    have hJ6 : ab_Ev l D ac 3 me_X9_keep ab_SH.length 0 0 (some (.int z.1), ab_SH, z.2) 0 0 ab_SH 24 [some (.ref 0), some (.int x1), some (.int x2), some (.int x3), none] [.int q4] M := by
      refine ev_istore dX9_keep_24 (Nat.le_of_ble_eq_true rfl) rfl rfl ?_
      refine ev_iload dX9_keep_26 rfl ?_
      refine ev_if_eq (t := 44) dX9_keep_28 (by decide) (fun hc9 => ?_) (fun hc9 => ?_)
      · replace h := ab_pos hc9 h
        refine ev_iload_n dX9_keep_44 rfl ?_
        by_cases hc10 : x2 = 0
        · replace h := ab_pos hc10 h
          have hx32 : (x2 : Int32).toInt = 0 := by rw [hc10]; decide
          refine ev_tableIn (t := 80) (off := 35) dX9_keep_45 (by rw [hx32]; decide) (by rw [hx32]; decide) (by rw [hx32]; rfl) (by decide) ?_
          refine ev_aload_n dX9_keep_80 rfl ?_
          refine ev_getr (o' := 34) fl_RX9_50 sh_0 (by decide) (by decide) rfl rfl dX9_keep_81 ?_
          refine ev_iload_n dX9_keep_84 rfl ?_
          obtain ⟨hb11, h⟩ := ab_chk_some h
          refine ev_aaload sh_34 (Or.inr rfl) hb11 (rf_shelf hb11) dX9_keep_85 ?_
          obtain ⟨q12, hv13, h⟩ := ab_bind h
          refine ev_callV (st := []) (co_X6_clear M (35 + 4 * (x1).toNatClampNeg) (sh_shelf hb11) _ hv13) mv_X6_clear (sh_shelf hb11).1 ml_RX9_267 dX9_keep_86 (by decide) rfl (Nat.le_of_ble_eq_true rfl) ⟨Nat.le_refl _, Nat.le_refl _⟩ ?_
          refine ev_iconst (x := 0) dX9_keep_89 (by decide) ?_
          cases h
          exact ev_ireturn rfl dX9_keep_90
        · replace h := ab_neg hc10 h
          by_cases hc14 : x2 = 1
          · replace h := ab_pos hc14 h
            have hx31 : (x2 : Int32).toInt = 1 := by rw [hc14]; decide
            refine ev_tableIn (t := 91) (off := 46) dX9_keep_45 (by rw [hx31]; decide) (by rw [hx31]; decide) (by rw [hx31]; rfl) (by decide) ?_
            refine ev_aload_n dX9_keep_91 rfl ?_
            refine ev_getr (o' := 34) fl_RX9_50 sh_0 (by decide) (by decide) rfl rfl dX9_keep_92 ?_
            refine ev_iload_n dX9_keep_95 rfl ?_
            obtain ⟨hb15, h⟩ := ab_chk_some h
            refine ev_aaload sh_34 (Or.inr rfl) hb15 (rf_shelf hb15) dX9_keep_96 ?_
            refine ev_aload_n dX9_keep_97 rfl ?_
            refine ev_getr (o' := 1) fl_RX9_12 sh_0 (by decide) (by decide) rfl rfl dX9_keep_98 ?_
            refine ev_getr (o' := 2) fl_RX9_98 sh_1 (by decide) (by decide) rfl rfl dX9_keep_101 ?_
            refine ev_iload_n dX9_keep_104 rfl ?_
            obtain ⟨hb16, h⟩ := ab_chk_some h
            refine ev_aaload sh_2 (Or.inl rfl) hb16 (rf_mast hb16) dX9_keep_105 ?_
            obtain ⟨q17, hv18, h⟩ := ab_bind h
            refine ev_callV (st := []) (co_X6_takeMast M (35 + 4 * (x1).toNatClampNeg) (sh_shelf hb15) (12 + (x3).toNatClampNeg) (sh_mast hb16) _ hv18) mv_X6_takeMast (sh_shelf hb15).1 ml_RX9_270 dX9_keep_106 (by decide) rfl (Nat.le_of_ble_eq_true rfl) ⟨Nat.le_refl _, Nat.le_refl _⟩ ?_
            refine ev_iconst (x := 0) dX9_keep_109 (by decide) ?_
            cases h
            exact ev_ireturn rfl dX9_keep_110
          · replace h := ab_neg hc14 h
            by_cases hc19 : x2 = 2
            · replace h := ab_pos hc19 h
              have hx30 : (x2 : Int32).toInt = 2 := by rw [hc19]; decide
              refine ev_tableIn (t := 149) (off := 104) dX9_keep_45 (by rw [hx30]; decide) (by rw [hx30]; decide) (by rw [hx30]; rfl) (by decide) ?_
              refine ev_iconst (x := (-1)) dX9_keep_149 (by decide) ?_
              cases h
              exact ev_ireturn rfl dX9_keep_150
            · replace h := ab_neg hc19 h
              by_cases hc20 : x2 = 3
              · replace h := ab_pos hc20 h
                have hx29 : (x2 : Int32).toInt = 3 := by rw [hc20]; decide
                refine ev_tableIn (t := 111) (off := 66) dX9_keep_45 (by rw [hx29]; decide) (by rw [hx29]; decide) (by rw [hx29]; rfl) (by decide) ?_
                refine ev_aload_n dX9_keep_111 rfl ?_
                refine ev_getr (o' := 34) fl_RX9_50 sh_0 (by decide) (by decide) rfl rfl dX9_keep_112 ?_
                refine ev_iload_n dX9_keep_115 rfl ?_
                obtain ⟨hb21, h⟩ := ab_chk_some h
                refine ev_aaload sh_34 (Or.inr rfl) hb21 (rf_shelf hb21) dX9_keep_116 ?_
                refine ev_aload_n dX9_keep_117 rfl ?_
                refine ev_getr (o' := 67) fl_RX9_55 sh_0 (by decide) (by decide) rfl rfl dX9_keep_118 ?_
                refine ev_aload_n dX9_keep_121 rfl ?_
                refine ev_getr (o' := 1) fl_RX9_12 sh_0 (by decide) (by decide) rfl rfl dX9_keep_122 ?_
                refine ev_geti fl_RX9_83 sh_1 (by decide) (by decide) rfl dX9_keep_125 ?_
                obtain ⟨q22, hv23, h⟩ := ab_bind h
                refine ev_callV (st := []) (co_X6_takeChannels M (35 + 4 * (x1).toNatClampNeg) (sh_shelf hb21) 67 sh_67 (M.1 1 8) _ hv23) mv_X6_takeChannels (sh_shelf hb21).1 ml_RX9_274 dX9_keep_128 (by decide) rfl (Nat.le_of_ble_eq_true rfl) ⟨Nat.le_refl _, Nat.le_refl _⟩ ?_
                refine ev_iconst (x := 0) dX9_keep_131 (by decide) ?_
                cases h
                exact ev_ireturn rfl dX9_keep_132
              · replace h := ab_neg hc20 h
                by_cases hc24 : x2 = 4
                · replace h := ab_pos hc24 h
                  have hx28 : (x2 : Int32).toInt = 4 := by rw [hc24]; decide
                  refine ev_tableIn (t := 133) (off := 88) dX9_keep_45 (by rw [hx28]; decide) (by rw [hx28]; decide) (by rw [hx28]; rfl) (by decide) ?_
                  refine ev_aload_n dX9_keep_133 rfl ?_
                  refine ev_getr (o' := 34) fl_RX9_50 sh_0 (by decide) (by decide) rfl rfl dX9_keep_134 ?_
                  refine ev_iload_n dX9_keep_137 rfl ?_
                  obtain ⟨hb25, h⟩ := ab_chk_some h
                  refine ev_aaload sh_34 (Or.inr rfl) hb25 (rf_shelf hb25) dX9_keep_138 ?_
                  refine ev_aload_n dX9_keep_139 rfl ?_
                  refine ev_getr (o' := 1) fl_RX9_12 sh_0 (by decide) (by decide) rfl rfl dX9_keep_140 ?_
                  refine ev_iload_n dX9_keep_143 rfl ?_
                  obtain ⟨q26, hv27, h⟩ := ab_bind h
                  refine ev_callV (st := []) (co_X6_takeSquares M (35 + 4 * (x1).toNatClampNeg) (sh_shelf hb25) x3 _ hv27) mv_X6_takeSquares (sh_shelf hb25).1 ml_RX9_277 dX9_keep_144 (by decide) rfl (Nat.le_of_ble_eq_true rfl) ⟨Nat.le_refl _, Nat.le_refl _⟩ ?_
                  refine ev_iconst (x := 0) dX9_keep_147 (by decide) ?_
                  cases h
                  exact ev_ireturn rfl dX9_keep_148
                · replace h := ab_neg hc24 h
                  have ehc10 := lv_neT (a := 0) hc10 (by decide)
                  have ehc14 := lv_neT (a := 1) hc14 (by decide)
                  have ehc19 := lv_neT (a := 2) hc19 (by decide)
                  have ehc20 := lv_neT (a := 3) hc20 (by decide)
                  have ehc24 := lv_neT (a := 4) hc24 (by decide)
                  refine ev_tableOut (t := 149) dX9_keep_45 (by omega) (by decide) ?_
                  refine ev_iconst (x := (-1)) dX9_keep_149 (by decide) ?_
                  cases h
                  exact ev_ireturn rfl dX9_keep_150
      · replace h := ab_neg hc9 h
        refine ev_aload_n dX9_keep_31 rfl ?_
        refine ev_getr (o' := 1) fl_RX9_12 sh_0 (by decide) (by decide) rfl rfl dX9_keep_32 ?_
        refine ev_iload_n dX9_keep_35 rfl ?_
        obtain ⟨q33, hv34, h⟩ := ab_bind h
        refine ev_callV (st := []) (co_X3_hasMast M x3 _ hv34) mv_X3_hasMast sh_1 ml_RX9_90 dX9_keep_36 (by decide) rfl (Nat.le_of_ble_eq_true rfl) ⟨Nat.le_refl _, Nat.le_refl _⟩ ?_
        refine ev_if_ne (t := 44) dX9_keep_39 (by decide) (fun hc35 => ?_) (fun hc35 => ?_)
        · replace h := ab_neg hc35 h
          refine ev_iload_n dX9_keep_44 rfl ?_
          by_cases hc36 : x2 = 0
          · replace h := ab_pos hc36 h
            have hx58 : (x2 : Int32).toInt = 0 := by rw [hc36]; decide
            refine ev_tableIn (t := 80) (off := 35) dX9_keep_45 (by rw [hx58]; decide) (by rw [hx58]; decide) (by rw [hx58]; rfl) (by decide) ?_
            refine ev_aload_n dX9_keep_80 rfl ?_
            refine ev_getr (o' := 34) fl_RX9_50 sh_0 (by decide) (by decide) rfl rfl dX9_keep_81 ?_
            refine ev_iload_n dX9_keep_84 rfl ?_
            obtain ⟨hb37, h⟩ := ab_chk_some h
            refine ev_aaload sh_34 (Or.inr rfl) hb37 (rf_shelf hb37) dX9_keep_85 ?_
            obtain ⟨q38, hv39, h⟩ := ab_bind h
            refine ev_callV (st := []) (co_X6_clear M (35 + 4 * (x1).toNatClampNeg) (sh_shelf hb37) _ hv39) mv_X6_clear (sh_shelf hb37).1 ml_RX9_267 dX9_keep_86 (by decide) rfl (Nat.le_of_ble_eq_true rfl) ⟨Nat.le_refl _, Nat.le_refl _⟩ ?_
            refine ev_iconst (x := 0) dX9_keep_89 (by decide) ?_
            cases h
            exact ev_ireturn rfl dX9_keep_90
          · replace h := ab_neg hc36 h
            by_cases hc40 : x2 = 1
            · replace h := ab_pos hc40 h
              have hx57 : (x2 : Int32).toInt = 1 := by rw [hc40]; decide
              refine ev_tableIn (t := 91) (off := 46) dX9_keep_45 (by rw [hx57]; decide) (by rw [hx57]; decide) (by rw [hx57]; rfl) (by decide) ?_
              refine ev_aload_n dX9_keep_91 rfl ?_
              refine ev_getr (o' := 34) fl_RX9_50 sh_0 (by decide) (by decide) rfl rfl dX9_keep_92 ?_
              refine ev_iload_n dX9_keep_95 rfl ?_
              obtain ⟨hb41, h⟩ := ab_chk_some h
              refine ev_aaload sh_34 (Or.inr rfl) hb41 (rf_shelf hb41) dX9_keep_96 ?_
              refine ev_aload_n dX9_keep_97 rfl ?_
              refine ev_getr (o' := 1) fl_RX9_12 sh_0 (by decide) (by decide) rfl rfl dX9_keep_98 ?_
              refine ev_getr (o' := 2) fl_RX9_98 sh_1 (by decide) (by decide) rfl rfl dX9_keep_101 ?_
              refine ev_iload_n dX9_keep_104 rfl ?_
              obtain ⟨hb42, h⟩ := ab_chk_some h
              refine ev_aaload sh_2 (Or.inl rfl) hb42 (rf_mast hb42) dX9_keep_105 ?_
              obtain ⟨q43, hv44, h⟩ := ab_bind h
              refine ev_callV (st := []) (co_X6_takeMast M (35 + 4 * (x1).toNatClampNeg) (sh_shelf hb41) (12 + (x3).toNatClampNeg) (sh_mast hb42) _ hv44) mv_X6_takeMast (sh_shelf hb41).1 ml_RX9_270 dX9_keep_106 (by decide) rfl (Nat.le_of_ble_eq_true rfl) ⟨Nat.le_refl _, Nat.le_refl _⟩ ?_
              refine ev_iconst (x := 0) dX9_keep_109 (by decide) ?_
              cases h
              exact ev_ireturn rfl dX9_keep_110
            · replace h := ab_neg hc40 h
              by_cases hc45 : x2 = 2
              · replace h := ab_pos hc45 h
                have hx56 : (x2 : Int32).toInt = 2 := by rw [hc45]; decide
                refine ev_tableIn (t := 149) (off := 104) dX9_keep_45 (by rw [hx56]; decide) (by rw [hx56]; decide) (by rw [hx56]; rfl) (by decide) ?_
                refine ev_iconst (x := (-1)) dX9_keep_149 (by decide) ?_
                cases h
                exact ev_ireturn rfl dX9_keep_150
              · replace h := ab_neg hc45 h
                by_cases hc46 : x2 = 3
                · replace h := ab_pos hc46 h
                  have hx55 : (x2 : Int32).toInt = 3 := by rw [hc46]; decide
                  refine ev_tableIn (t := 111) (off := 66) dX9_keep_45 (by rw [hx55]; decide) (by rw [hx55]; decide) (by rw [hx55]; rfl) (by decide) ?_
                  refine ev_aload_n dX9_keep_111 rfl ?_
                  refine ev_getr (o' := 34) fl_RX9_50 sh_0 (by decide) (by decide) rfl rfl dX9_keep_112 ?_
                  refine ev_iload_n dX9_keep_115 rfl ?_
                  obtain ⟨hb47, h⟩ := ab_chk_some h
                  refine ev_aaload sh_34 (Or.inr rfl) hb47 (rf_shelf hb47) dX9_keep_116 ?_
                  refine ev_aload_n dX9_keep_117 rfl ?_
                  refine ev_getr (o' := 67) fl_RX9_55 sh_0 (by decide) (by decide) rfl rfl dX9_keep_118 ?_
                  refine ev_aload_n dX9_keep_121 rfl ?_
                  refine ev_getr (o' := 1) fl_RX9_12 sh_0 (by decide) (by decide) rfl rfl dX9_keep_122 ?_
                  refine ev_geti fl_RX9_83 sh_1 (by decide) (by decide) rfl dX9_keep_125 ?_
                  obtain ⟨q48, hv49, h⟩ := ab_bind h
                  refine ev_callV (st := []) (co_X6_takeChannels M (35 + 4 * (x1).toNatClampNeg) (sh_shelf hb47) 67 sh_67 (M.1 1 8) _ hv49) mv_X6_takeChannels (sh_shelf hb47).1 ml_RX9_274 dX9_keep_128 (by decide) rfl (Nat.le_of_ble_eq_true rfl) ⟨Nat.le_refl _, Nat.le_refl _⟩ ?_
                  refine ev_iconst (x := 0) dX9_keep_131 (by decide) ?_
                  cases h
                  exact ev_ireturn rfl dX9_keep_132
                · replace h := ab_neg hc46 h
                  by_cases hc50 : x2 = 4
                  · replace h := ab_pos hc50 h
                    have hx54 : (x2 : Int32).toInt = 4 := by rw [hc50]; decide
                    refine ev_tableIn (t := 133) (off := 88) dX9_keep_45 (by rw [hx54]; decide) (by rw [hx54]; decide) (by rw [hx54]; rfl) (by decide) ?_
                    refine ev_aload_n dX9_keep_133 rfl ?_
                    refine ev_getr (o' := 34) fl_RX9_50 sh_0 (by decide) (by decide) rfl rfl dX9_keep_134 ?_
                    refine ev_iload_n dX9_keep_137 rfl ?_
                    obtain ⟨hb51, h⟩ := ab_chk_some h
                    refine ev_aaload sh_34 (Or.inr rfl) hb51 (rf_shelf hb51) dX9_keep_138 ?_
                    refine ev_aload_n dX9_keep_139 rfl ?_
                    refine ev_getr (o' := 1) fl_RX9_12 sh_0 (by decide) (by decide) rfl rfl dX9_keep_140 ?_
                    refine ev_iload_n dX9_keep_143 rfl ?_
                    obtain ⟨q52, hv53, h⟩ := ab_bind h
                    refine ev_callV (st := []) (co_X6_takeSquares M (35 + 4 * (x1).toNatClampNeg) (sh_shelf hb51) x3 _ hv53) mv_X6_takeSquares (sh_shelf hb51).1 ml_RX9_277 dX9_keep_144 (by decide) rfl (Nat.le_of_ble_eq_true rfl) ⟨Nat.le_refl _, Nat.le_refl _⟩ ?_
                    refine ev_iconst (x := 0) dX9_keep_147 (by decide) ?_
                    cases h
                    exact ev_ireturn rfl dX9_keep_148
                  · replace h := ab_neg hc50 h
                    have ehc36 := lv_neT (a := 0) hc36 (by decide)
                    have ehc40 := lv_neT (a := 1) hc40 (by decide)
                    have ehc45 := lv_neT (a := 2) hc45 (by decide)
                    have ehc46 := lv_neT (a := 3) hc46 (by decide)
                    have ehc50 := lv_neT (a := 4) hc50 (by decide)
                    refine ev_tableOut (t := 149) dX9_keep_45 (by omega) (by decide) ?_
                    refine ev_iconst (x := (-1)) dX9_keep_149 (by decide) ?_
                    cases h
                    exact ev_ireturn rfl dX9_keep_150
        · replace h := ab_pos hc35 h
          refine ev_iconst (x := (-1)) dX9_keep_42 (by decide) ?_
          cases h
          exact ev_ireturn rfl dX9_keep_43
    refine ev_icmp_eq (t := 19) dX9_keep_11 (by decide) (fun hc7 => ?_) (fun hc7 => ?_)
    · replace hq5 := ab_pos hc7 hq5
      refine ev_iconst (x := 1) dX9_keep_19 (by decide) ?_
      refine ev_goto (t := 24) dX9_keep_20 (by decide) ?_
      cases hq5
      exact hJ6
    · replace hq5 := ab_neg hc7 hq5
      refine ev_iload_n dX9_keep_14 rfl ?_
      refine ev_iconst (x := 4) dX9_keep_15 (by decide) ?_
      refine ev_icmp_ne (t := 23) dX9_keep_16 (by decide) (fun hc8 => ?_) (fun hc8 => ?_)
      · replace hq5 := ab_neg hc8 hq5
        refine ev_iconst (x := 0) dX9_keep_23 (by decide) ?_
        cases hq5
        exact hJ6
      · replace hq5 := ab_pos hc8 hq5
        refine ev_iconst (x := 1) dX9_keep_19 (by decide) ?_
        refine ev_goto (t := 24) dX9_keep_20 (by decide) ?_
        cases hq5
        exact hJ6
  · replace h := ab_pos hc3 h
    refine ev_iconst (x := (-1)) dX9_keep_7 (by decide) ?_
    cases h
    exact ev_ireturn rfl dX9_keep_8

noncomputable def mi_X9_make (M : ab_M) (x1 : Int32) (x2 : Int32) (x3 : Int32) : Option (Int32 × ab_M) :=
  (mi_X9_isShelf M x1).bind fun q1 =>
  if q1 = 0 then
    some ((-1), M)
  else
    if x2 = 3 then
      if x3 ≤ 60 then
        if 0 ≤ x3 then
          ab_chk (vp_in x1 8) <|
          (mi_X6_takeZeros M (35 + 4 * (x1).toNatClampNeg) x2 x3).bind fun q8 =>
          some (0, q8)
        else
          some ((-14), M)
      else
        some ((-1), M)
    else
      if x2 = 4 then
        if x3 ≤ 60 then
          if 0 ≤ x3 then
            ab_chk (vp_in x1 8) <|
            (mi_X6_takeZeros M (35 + 4 * (x1).toNatClampNeg) x2 x3).bind fun q14 =>
            some (0, q14)
          else
            some ((-14), M)
        else
          some ((-1), M)
      else
        some ((-1), M)

set_option maxHeartbeats 4000000 in
set_option maxRecDepth 100000 in
theorem co_X9_make {l : Launch} {D : va_G} {ac : Nat → ClassId} (M : ab_M) (x1 : Int32) (x2 : Int32) (x3 : Int32) (z : Int32 × ab_M) (h : mi_X9_make M x1 x2 x3 = some z) : ab_Con l D ac 3 me_X9_make 0 0 [.ref 0, .int x1, .int x2, .int x3] ab_SH M (some (.int z.1), ab_SH, z.2) := by
  refine ab_intro (lv := [some (.ref 0), some (.int x1), some (.int x2), some (.int x3)]) (by decide) rfl (Nat.le_of_ble_eq_true rfl) rfl ?_
  unfold mi_X9_make at h
  refine ev_iload_n dX9_make_0 rfl ?_
  obtain ⟨q1, hv2, h⟩ := ab_bind h
  refine ev_callS (st := []) (co_X9_isShelf M x1 _ hv2) mv_X9_isShelf ml_RX9_264 dX9_make_1 (by decide) rfl (Nat.le_of_ble_eq_true rfl) ⟨Nat.le_refl _, Nat.le_refl _⟩ ?_
  refine ev_if_eq (t := 23) dX9_make_4 (by decide) (fun hc3 => ?_) (fun hc3 => ?_)
  · replace h := ab_pos hc3 h
    refine ev_iconst (x := (-1)) dX9_make_23 (by decide) ?_
    cases h
    exact ev_ireturn rfl dX9_make_24
  · replace h := ab_neg hc3 h
    refine ev_iload_n dX9_make_7 rfl ?_
    refine ev_iconst (x := 3) dX9_make_8 (by decide) ?_
    refine ev_icmp_eq (t := 17) dX9_make_9 (by decide) (fun hc4 => ?_) (fun hc4 => ?_)
    · replace h := ab_pos hc4 h
      refine ev_iload_n dX9_make_17 rfl ?_
      refine ev_bipush (x := 60) dX9_make_18 (by decide) ?_
      refine ev_icmp_le (t := 25) dX9_make_20 (by decide) (fun hc5 => ?_) (fun hc5 => ?_)
      · replace h := ab_pos hc5 h
        refine ev_iload_n dX9_make_25 rfl ?_
        refine ev_if_ge (t := 32) dX9_make_26 (by decide) (fun hc6 => ?_) (fun hc6 => ?_)
        · replace h := ab_pos hc6 h
          refine ev_aload_n dX9_make_32 rfl ?_
          refine ev_getr (o' := 34) fl_RX9_50 sh_0 (by decide) (by decide) rfl rfl dX9_make_33 ?_
          refine ev_iload_n dX9_make_36 rfl ?_
          obtain ⟨hb7, h⟩ := ab_chk_some h
          refine ev_aaload sh_34 (Or.inr rfl) hb7 (rf_shelf hb7) dX9_make_37 ?_
          refine ev_iload_n dX9_make_38 rfl ?_
          refine ev_iload_n dX9_make_39 rfl ?_
          obtain ⟨q8, hv9, h⟩ := ab_bind h
          refine ev_callV (st := []) (co_X6_takeZeros M (35 + 4 * (x1).toNatClampNeg) (sh_shelf hb7) x2 x3 _ hv9) mv_X6_takeZeros (sh_shelf hb7).1 ml_RX9_281 dX9_make_40 (by decide) rfl (Nat.le_of_ble_eq_true rfl) ⟨Nat.le_refl _, Nat.le_refl _⟩ ?_
          refine ev_iconst (x := 0) dX9_make_43 (by decide) ?_
          cases h
          exact ev_ireturn rfl dX9_make_44
        · replace h := ab_neg hc6 h
          refine ev_bipush (x := (-14)) dX9_make_29 (by decide) ?_
          cases h
          exact ev_ireturn rfl dX9_make_31
      · replace h := ab_neg hc5 h
        refine ev_iconst (x := (-1)) dX9_make_23 (by decide) ?_
        cases h
        exact ev_ireturn rfl dX9_make_24
    · replace h := ab_neg hc4 h
      refine ev_iload_n dX9_make_12 rfl ?_
      refine ev_iconst (x := 4) dX9_make_13 (by decide) ?_
      refine ev_icmp_ne (t := 23) dX9_make_14 (by decide) (fun hc10 => ?_) (fun hc10 => ?_)
      · replace h := ab_neg hc10 h
        refine ev_iconst (x := (-1)) dX9_make_23 (by decide) ?_
        cases h
        exact ev_ireturn rfl dX9_make_24
      · replace h := ab_pos hc10 h
        refine ev_iload_n dX9_make_17 rfl ?_
        refine ev_bipush (x := 60) dX9_make_18 (by decide) ?_
        refine ev_icmp_le (t := 25) dX9_make_20 (by decide) (fun hc11 => ?_) (fun hc11 => ?_)
        · replace h := ab_pos hc11 h
          refine ev_iload_n dX9_make_25 rfl ?_
          refine ev_if_ge (t := 32) dX9_make_26 (by decide) (fun hc12 => ?_) (fun hc12 => ?_)
          · replace h := ab_pos hc12 h
            refine ev_aload_n dX9_make_32 rfl ?_
            refine ev_getr (o' := 34) fl_RX9_50 sh_0 (by decide) (by decide) rfl rfl dX9_make_33 ?_
            refine ev_iload_n dX9_make_36 rfl ?_
            obtain ⟨hb13, h⟩ := ab_chk_some h
            refine ev_aaload sh_34 (Or.inr rfl) hb13 (rf_shelf hb13) dX9_make_37 ?_
            refine ev_iload_n dX9_make_38 rfl ?_
            refine ev_iload_n dX9_make_39 rfl ?_
            obtain ⟨q14, hv15, h⟩ := ab_bind h
            refine ev_callV (st := []) (co_X6_takeZeros M (35 + 4 * (x1).toNatClampNeg) (sh_shelf hb13) x2 x3 _ hv15) mv_X6_takeZeros (sh_shelf hb13).1 ml_RX9_281 dX9_make_40 (by decide) rfl (Nat.le_of_ble_eq_true rfl) ⟨Nat.le_refl _, Nat.le_refl _⟩ ?_
            refine ev_iconst (x := 0) dX9_make_43 (by decide) ?_
            cases h
            exact ev_ireturn rfl dX9_make_44
          · replace h := ab_neg hc12 h
            refine ev_bipush (x := (-14)) dX9_make_29 (by decide) ?_
            cases h
            exact ev_ireturn rfl dX9_make_31
        · replace h := ab_neg hc11 h
          refine ev_iconst (x := (-1)) dX9_make_23 (by decide) ?_
          cases h
          exact ev_ireturn rfl dX9_make_24

noncomputable def mi_X9_copy (M : ab_M) (x1 : Int32) (x2 : Int32) (x3 : Int32) (x4 : Int32) (x5 : Int32) : Option (Int32 × ab_M) :=
  (mi_X9_isShelf M x1).bind fun q1 =>
  if q1 = 0 then
    some ((-1), M)
  else
    (mi_X9_isShelf M x3).bind fun q4 =>
    if q4 = 0 then
      some ((-1), M)
    else
      ab_chk (vp_in x1 8) <|
      ab_chk (vp_in x3 8) <|
      if (M.1 (35 + 4 * (x1).toNatClampNeg) 3) = 0 then
        some ((-11), M)
      else
        if (M.1 (35 + 4 * (x3).toNatClampNeg) 3) = 0 then
          some ((-11), M)
        else
          (mi_X6_isRow M (35 + 4 * (x1).toNatClampNeg)).bind fun q11 =>
          if q11 = 0 then
            some ((-12), M)
          else
            if (M.1 (35 + 4 * (x1).toNatClampNeg) 3) = (M.1 (35 + 4 * (x3).toNatClampNeg) 3) then
              (mi_X6_hasRange M (35 + 4 * (x1).toNatClampNeg) x2 x5).bind fun q15 =>
              if q15 = 0 then
                some ((-13), M)
              else
                (mi_X6_hasRange M (35 + 4 * (x3).toNatClampNeg) x4 x5).bind fun q18 =>
                if q18 = 0 then
                  some ((-13), M)
                else
                  (mi_X6_copyTo M (35 + 4 * (x1).toNatClampNeg) x2 (35 + 4 * (x3).toNatClampNeg) x4 x5).bind fun q21 =>
                  some (x5, q21)
            else
              some ((-12), M)

set_option maxHeartbeats 4000000 in
set_option maxRecDepth 100000 in
theorem co_X9_copy {l : Launch} {D : va_G} {ac : Nat → ClassId} (M : ab_M) (x1 : Int32) (x2 : Int32) (x3 : Int32) (x4 : Int32) (x5 : Int32) (z : Int32 × ab_M) (h : mi_X9_copy M x1 x2 x3 x4 x5 = some z) : ab_Con l D ac 3 me_X9_copy 0 0 [.ref 0, .int x1, .int x2, .int x3, .int x4, .int x5] ab_SH M (some (.int z.1), ab_SH, z.2) := by
  refine ab_intro (lv := [some (.ref 0), some (.int x1), some (.int x2), some (.int x3), some (.int x4), some (.int x5), none, none]) (by decide) rfl (Nat.le_of_ble_eq_true rfl) rfl ?_
  unfold mi_X9_copy at h
  refine ev_iload_n dX9_copy_0 rfl ?_
  obtain ⟨q1, hv2, h⟩ := ab_bind h
  refine ev_callS (st := []) (co_X9_isShelf M x1 _ hv2) mv_X9_isShelf ml_RX9_264 dX9_copy_1 (by decide) rfl (Nat.le_of_ble_eq_true rfl) ⟨Nat.le_refl _, Nat.le_refl _⟩ ?_
  refine ev_if_eq (t := 14) dX9_copy_4 (by decide) (fun hc3 => ?_) (fun hc3 => ?_)
  · replace h := ab_pos hc3 h
    refine ev_iconst (x := (-1)) dX9_copy_14 (by decide) ?_
    cases h
    exact ev_ireturn rfl dX9_copy_15
  · replace h := ab_neg hc3 h
    refine ev_iload_n dX9_copy_7 rfl ?_
    obtain ⟨q4, hv5, h⟩ := ab_bind h
    refine ev_callS (st := []) (co_X9_isShelf M x3 _ hv5) mv_X9_isShelf ml_RX9_264 dX9_copy_8 (by decide) rfl (Nat.le_of_ble_eq_true rfl) ⟨Nat.le_refl _, Nat.le_refl _⟩ ?_
    refine ev_if_ne (t := 16) dX9_copy_11 (by decide) (fun hc6 => ?_) (fun hc6 => ?_)
    · replace h := ab_neg hc6 h
      refine ev_aload_n dX9_copy_16 rfl ?_
      refine ev_getr (o' := 34) fl_RX9_50 sh_0 (by decide) (by decide) rfl rfl dX9_copy_17 ?_
      refine ev_iload_n dX9_copy_20 rfl ?_
      obtain ⟨hb7, h⟩ := ab_chk_some h
      refine ev_aaload sh_34 (Or.inr rfl) hb7 (rf_shelf hb7) dX9_copy_21 ?_
      refine ev_astore dX9_copy_22 (Nat.le_of_ble_eq_true rfl) rfl rfl ?_
      refine ev_aload_n dX9_copy_24 rfl ?_
      refine ev_getr (o' := 34) fl_RX9_50 sh_0 (by decide) (by decide) rfl rfl dX9_copy_25 ?_
      refine ev_iload_n dX9_copy_28 rfl ?_
      obtain ⟨hb8, h⟩ := ab_chk_some h
      refine ev_aaload sh_34 (Or.inr rfl) hb8 (rf_shelf hb8) dX9_copy_29 ?_
      refine ev_astore dX9_copy_30 (Nat.le_of_ble_eq_true rfl) rfl rfl ?_
      refine ev_aload dX9_copy_32 rfl ?_
      refine ev_geti fl_RX9_308 (sh_shelf hb7).1 (by decide) (by decide) rfl dX9_copy_34 ?_
      refine ev_if_eq (t := 48) dX9_copy_37 (by decide) (fun hc9 => ?_) (fun hc9 => ?_)
      · replace h := ab_pos hc9 h
        refine ev_bipush (x := (-11)) dX9_copy_48 (by decide) ?_
        cases h
        exact ev_ireturn rfl dX9_copy_50
      · replace h := ab_neg hc9 h
        refine ev_aload dX9_copy_40 rfl ?_
        refine ev_geti fl_RX9_308 (sh_shelf hb8).1 (by decide) (by decide) rfl dX9_copy_42 ?_
        refine ev_if_ne (t := 51) dX9_copy_45 (by decide) (fun hc10 => ?_) (fun hc10 => ?_)
        · replace h := ab_neg hc10 h
          refine ev_aload dX9_copy_51 rfl ?_
          obtain ⟨q11, hv12, h⟩ := ab_bind h
          refine ev_callV (st := []) (co_X6_isRow M (35 + 4 * (x1).toNatClampNeg) (sh_shelf hb7) _ hv12) mv_X6_isRow (sh_shelf hb7).1 ml_RX9_292 dX9_copy_53 (by decide) rfl (Nat.le_of_ble_eq_true rfl) ⟨Nat.le_refl _, Nat.le_refl _⟩ ?_
          refine ev_if_eq (t := 72) dX9_copy_56 (by decide) (fun hc13 => ?_) (fun hc13 => ?_)
          · replace h := ab_pos hc13 h
            refine ev_bipush (x := (-12)) dX9_copy_72 (by decide) ?_
            cases h
            exact ev_ireturn rfl dX9_copy_74
          · replace h := ab_neg hc13 h
            refine ev_aload dX9_copy_59 rfl ?_
            refine ev_geti fl_RX9_308 (sh_shelf hb7).1 (by decide) (by decide) rfl dX9_copy_61 ?_
            refine ev_aload dX9_copy_64 rfl ?_
            refine ev_geti fl_RX9_308 (sh_shelf hb8).1 (by decide) (by decide) rfl dX9_copy_66 ?_
            refine ev_icmp_eq (t := 75) dX9_copy_69 (by decide) (fun hc14 => ?_) (fun hc14 => ?_)
            · replace h := ab_pos hc14 h
              refine ev_aload dX9_copy_75 rfl ?_
              refine ev_iload_n dX9_copy_77 rfl ?_
              refine ev_iload dX9_copy_78 rfl ?_
              obtain ⟨q15, hv16, h⟩ := ab_bind h
              refine ev_callV (st := []) (co_X6_hasRange M (35 + 4 * (x1).toNatClampNeg) (sh_shelf hb7) x2 x5 _ hv16) mv_X6_hasRange (sh_shelf hb7).1 ml_RX9_311 dX9_copy_80 (by decide) rfl (Nat.le_of_ble_eq_true rfl) ⟨Nat.le_refl _, Nat.le_refl _⟩ ?_
              refine ev_if_eq (t := 98) dX9_copy_83 (by decide) (fun hc17 => ?_) (fun hc17 => ?_)
              · replace h := ab_pos hc17 h
                refine ev_bipush (x := (-13)) dX9_copy_98 (by decide) ?_
                cases h
                exact ev_ireturn rfl dX9_copy_100
              · replace h := ab_neg hc17 h
                refine ev_aload dX9_copy_86 rfl ?_
                refine ev_iload dX9_copy_88 rfl ?_
                refine ev_iload dX9_copy_90 rfl ?_
                obtain ⟨q18, hv19, h⟩ := ab_bind h
                refine ev_callV (st := []) (co_X6_hasRange M (35 + 4 * (x3).toNatClampNeg) (sh_shelf hb8) x4 x5 _ hv19) mv_X6_hasRange (sh_shelf hb8).1 ml_RX9_311 dX9_copy_92 (by decide) rfl (Nat.le_of_ble_eq_true rfl) ⟨Nat.le_refl _, Nat.le_refl _⟩ ?_
                refine ev_if_ne (t := 101) dX9_copy_95 (by decide) (fun hc20 => ?_) (fun hc20 => ?_)
                · replace h := ab_neg hc20 h
                  refine ev_aload dX9_copy_101 rfl ?_
                  refine ev_iload_n dX9_copy_103 rfl ?_
                  refine ev_aload dX9_copy_104 rfl ?_
                  refine ev_iload dX9_copy_106 rfl ?_
                  refine ev_iload dX9_copy_108 rfl ?_
                  obtain ⟨q21, hv22, h⟩ := ab_bind h
                  refine ev_callV (st := []) (co_X6_copyTo M (35 + 4 * (x1).toNatClampNeg) (sh_shelf hb7) x2 (35 + 4 * (x3).toNatClampNeg) (sh_shelf hb8) x4 x5 _ hv22) mv_X6_copyTo (sh_shelf hb7).1 ml_RX9_315 dX9_copy_110 (by decide) rfl (Nat.le_of_ble_eq_true rfl) ⟨Nat.le_refl _, Nat.le_refl _⟩ ?_
                  refine ev_iload dX9_copy_113 rfl ?_
                  cases h
                  exact ev_ireturn rfl dX9_copy_115
                · replace h := ab_pos hc20 h
                  refine ev_bipush (x := (-13)) dX9_copy_98 (by decide) ?_
                  cases h
                  exact ev_ireturn rfl dX9_copy_100
            · replace h := ab_neg hc14 h
              refine ev_bipush (x := (-12)) dX9_copy_72 (by decide) ?_
              cases h
              exact ev_ireturn rfl dX9_copy_74
        · replace h := ab_pos hc10 h
          refine ev_bipush (x := (-11)) dX9_copy_48 (by decide) ?_
          cases h
          exact ev_ireturn rfl dX9_copy_50
    · replace h := ab_pos hc6 h
      refine ev_iconst (x := (-1)) dX9_copy_14 (by decide) ?_
      cases h
      exact ev_ireturn rfl dX9_copy_15

noncomputable def mi_X9_refusalOfMast (M : ab_M) (x1 : Int32) : Option (Int32) :=
  (mi_X9_isShelf M x1).bind fun q1 =>
  if q1 = 0 then
    some (-1)
  else
    ab_chk (vp_in x1 8) <|
    if (M.1 (35 + 4 * (x1).toNatClampNeg) 3) = 0 then
      some (-11)
    else
      ab_chk (vp_in x1 8) <|
      if (M.1 (35 + 4 * (x1).toNatClampNeg) 3) = 1 then
        some 0
      else
        some (-12)

set_option maxHeartbeats 4000000 in
set_option maxRecDepth 100000 in
theorem co_X9_refusalOfMast {l : Launch} {D : va_G} {ac : Nat → ClassId} (M : ab_M) (x1 : Int32) (z : Int32) (h : mi_X9_refusalOfMast M x1 = some z) : ab_Con l D ac 3 me_X9_refusalOfMast 0 0 [.ref 0, .int x1] ab_SH M (some (.int z), ab_SH, M) := by
  refine ab_intro (lv := [some (.ref 0), some (.int x1)]) (by decide) rfl (Nat.le_of_ble_eq_true rfl) rfl ?_
  unfold mi_X9_refusalOfMast at h
  refine ev_iload_n dX9_refusalOfMast_0 rfl ?_
  obtain ⟨q1, hv2, h⟩ := ab_bind h
  refine ev_callS (st := []) (co_X9_isShelf M x1 _ hv2) mv_X9_isShelf ml_RX9_264 dX9_refusalOfMast_1 (by decide) rfl (Nat.le_of_ble_eq_true rfl) ⟨Nat.le_refl _, Nat.le_refl _⟩ ?_
  refine ev_if_ne (t := 9) dX9_refusalOfMast_4 (by decide) (fun hc3 => ?_) (fun hc3 => ?_)
  · replace h := ab_neg hc3 h
    refine ev_aload_n dX9_refusalOfMast_9 rfl ?_
    refine ev_getr (o' := 34) fl_RX9_50 sh_0 (by decide) (by decide) rfl rfl dX9_refusalOfMast_10 ?_
    refine ev_iload_n dX9_refusalOfMast_13 rfl ?_
    obtain ⟨hb4, h⟩ := ab_chk_some h
    refine ev_aaload sh_34 (Or.inr rfl) hb4 (rf_shelf hb4) dX9_refusalOfMast_14 ?_
    refine ev_geti fl_RX9_308 (sh_shelf hb4).1 (by decide) (by decide) rfl dX9_refusalOfMast_15 ?_
    refine ev_if_ne (t := 24) dX9_refusalOfMast_18 (by decide) (fun hc5 => ?_) (fun hc5 => ?_)
    · replace h := ab_neg hc5 h
      refine ev_aload_n dX9_refusalOfMast_24 rfl ?_
      refine ev_getr (o' := 34) fl_RX9_50 sh_0 (by decide) (by decide) rfl rfl dX9_refusalOfMast_25 ?_
      refine ev_iload_n dX9_refusalOfMast_28 rfl ?_
      obtain ⟨hb6, h⟩ := ab_chk_some h
      refine ev_aaload sh_34 (Or.inr rfl) hb6 (rf_shelf hb6) dX9_refusalOfMast_29 ?_
      refine ev_geti fl_RX9_308 (sh_shelf hb6).1 (by decide) (by decide) rfl dX9_refusalOfMast_30 ?_
      refine ev_iconst (x := 1) dX9_refusalOfMast_33 (by decide) ?_
      refine ev_icmp_ne (t := 41) dX9_refusalOfMast_34 (by decide) (fun hc7 => ?_) (fun hc7 => ?_)
      · replace h := ab_neg hc7 h
        refine ev_bipush (x := (-12)) dX9_refusalOfMast_41 (by decide) ?_
        cases h
        exact ev_ireturn rfl dX9_refusalOfMast_43
      · replace h := ab_pos hc7 h
        refine ev_iconst (x := 0) dX9_refusalOfMast_37 (by decide) ?_
        refine ev_goto (t := 43) dX9_refusalOfMast_38 (by decide) ?_
        cases h
        exact ev_ireturn rfl dX9_refusalOfMast_43
    · replace h := ab_pos hc5 h
      refine ev_bipush (x := (-11)) dX9_refusalOfMast_21 (by decide) ?_
      cases h
      exact ev_ireturn rfl dX9_refusalOfMast_23
  · replace h := ab_pos hc3 h
    refine ev_iconst (x := (-1)) dX9_refusalOfMast_7 (by decide) ?_
    cases h
    exact ev_ireturn rfl dX9_refusalOfMast_8

noncomputable def mi_X9_weight (M : ab_M) (x1 : Int32) : Option (Int32) :=
  (mi_X9_refusalOfMast M x1).bind fun q1 =>
  if 0 ≤ q1 then
    ab_chk (vp_in x1 8) <|
    (mi_X4_heaviness M ((35 + 4 * (x1).toNatClampNeg) + 1)).bind fun q5 =>
    some q5
  else
    some q1

set_option maxHeartbeats 4000000 in
set_option maxRecDepth 100000 in
theorem co_X9_weight {l : Launch} {D : va_G} {ac : Nat → ClassId} (M : ab_M) (x1 : Int32) (z : Int32) (h : mi_X9_weight M x1 = some z) : ab_Con l D ac 4 me_X9_weight 0 0 [.ref 0, .int x1] ab_SH M (some (.int z), ab_SH, M) := by
  refine ab_intro (lv := [some (.ref 0), some (.int x1), none]) (by decide) rfl (Nat.le_of_ble_eq_true rfl) rfl ?_
  unfold mi_X9_weight at h
  refine ev_aload_n dX9_weight_0 rfl ?_
  refine ev_iload_n dX9_weight_1 rfl ?_
  obtain ⟨q1, hv2, h⟩ := ab_bind h
  refine ev_callV (st := []) (co_X9_refusalOfMast M x1 _ hv2) mv_X9_refusalOfMast sh_0 ml_RX9_319 dX9_weight_2 (by decide) rfl (Nat.le_of_ble_eq_true rfl) ⟨Nat.le_refl _, Nat.le_refl _⟩ ?_
  refine ev_istore_n dX9_weight_5 (Nat.le_of_ble_eq_true rfl) rfl rfl ?_
  refine ev_iload_n dX9_weight_6 rfl ?_
  refine ev_if_ge (t := 14) dX9_weight_7 (by decide) (fun hc3 => ?_) (fun hc3 => ?_)
  · replace h := ab_pos hc3 h
    refine ev_aload_n dX9_weight_14 rfl ?_
    refine ev_getr (o' := 34) fl_RX9_50 sh_0 (by decide) (by decide) rfl rfl dX9_weight_15 ?_
    refine ev_iload_n dX9_weight_18 rfl ?_
    obtain ⟨hb4, h⟩ := ab_chk_some h
    refine ev_aaload sh_34 (Or.inr rfl) hb4 (rf_shelf hb4) dX9_weight_19 ?_
    refine ev_getr (o' := ((35 + 4 * (x1).toNatClampNeg) + 1)) fl_RX9_322 (sh_shelf hb4).1 (by decide) (by decide) rfl rfl dX9_weight_20 ?_
    obtain ⟨q5, hv6, h⟩ := ab_bind h
    refine ev_callV (st := []) (co_X4_heaviness M ((35 + 4 * (x1).toNatClampNeg) + 1) ((sh_shelf hb4).2.1) _ hv6) mv_X4_heaviness (sh_shelf hb4).2.1 ml_RX9_326 dX9_weight_23 (by decide) rfl (Nat.le_of_ble_eq_true rfl) ⟨Nat.le_refl _, Nat.le_refl _⟩ ?_
    cases h
    exact ev_ireturn rfl dX9_weight_26
  · replace h := ab_neg hc3 h
    refine ev_iload_n dX9_weight_10 rfl ?_
    refine ev_goto (t := 26) dX9_weight_11 (by decide) ?_
    cases h
    exact ev_ireturn rfl dX9_weight_26
