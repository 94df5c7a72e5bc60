noncomputable def mi_X8_below (M : ab_M) (x0 : Int32) : Option (Int32) :=
  if 0 < x0 then
    if x0 < 30 then
      some (((1 : Int32) <<< (x0 &&& 31)) - 1)
    else
      some 1073741823
  else
    some 0

set_option maxHeartbeats 4000000 in
set_option maxRecDepth 100000 in
theorem co_X8_below {l : Launch} {D : va_G} {ac : Nat → ClassId} (M : ab_M) (x0 : Int32) (z : Int32) (h : mi_X8_below M x0 = some z) : ab_Con l D ac 1 me_X8_below 0 0 [.int x0] ab_SH M (some (.int z), ab_SH, M) := by
  refine ab_intro (lv := [some (.int x0)]) (by decide) rfl (Nat.le_of_ble_eq_true rfl) rfl ?_
  unfold mi_X8_below at h
  refine ev_iload_n dX8_below_0 rfl ?_
  refine ev_if_gt (t := 8) dX8_below_1 (by decide) (fun hc1 => ?_) (fun hc1 => ?_)
  · replace h := ab_pos hc1 h
    refine ev_iload_n dX8_below_8 rfl ?_
    refine ev_bipush (x := 30) dX8_below_9 (by decide) ?_
    refine ev_icmp_lt (t := 19) dX8_below_11 (by decide) (fun hc2 => ?_) (fun hc2 => ?_)
    · replace h := ab_pos hc2 h
      refine ev_iconst (x := 1) dX8_below_19 (by decide) ?_
      refine ev_iload_n dX8_below_20 rfl ?_
      refine ev_ishl dX8_below_21 ?_
      refine ev_iconst (x := 1) dX8_below_22 (by decide) ?_
      refine ev_isub dX8_below_23 ?_
      cases h
      exact ev_ireturn rfl dX8_below_24
    · replace h := ab_neg hc2 h
      refine ev_ldc kw_RX8_68 dX8_below_14 ?_
      refine ev_goto (t := 24) dX8_below_16 (by decide) ?_
      cases h
      exact ev_ireturn rfl dX8_below_24
  · replace h := ab_neg hc1 h
    refine ev_iconst (x := 0) dX8_below_4 (by decide) ?_
    refine ev_goto (t := 24) dX8_below_5 (by decide) ?_
    cases h
    exact ev_ireturn rfl dX8_below_24

noncomputable def mi_X8_open (M : ab_M) (x1 : Int32) (x2 : Int32) : Option (ab_M) :=
  ab_chk (vp_in x1 16) <|
  (mi_X2_freeChannels (ab_pi M 28 (x1).toNatClampNeg 0) 27 x1 x1).bind fun q2 =>
  (mi_X3_gapOf (ab_pi M 28 (x1).toNatClampNeg 0) x1).bind fun q4 =>
  (mi_X8_below (ab_pi M 28 (x1).toNatClampNeg 0) (x2 - q4)).bind fun q6 =>
  ab_chk (vp_in x1 16) <|
  if x1 ≤ 0 then
    some (ab_pi (ab_pi M 28 (x1).toNatClampNeg 0) 29 (x1).toNatClampNeg (q2 &&& q6))
  else
    ab_chk (vp_in (x1 - 1) 16) <|
    ab_chk (vp_in x1 16) <|
    if ((ab_pi (ab_pi M 28 (x1).toNatClampNeg 0) 29 (x1).toNatClampNeg (q2 &&& q6)).1 3 (x1 - 1).toNatClampNeg) = ((ab_pi (ab_pi M 28 (x1).toNatClampNeg 0) 29 (x1).toNatClampNeg (q2 &&& q6)).1 3 (x1).toNatClampNeg) then
      ab_chk (vp_in x1 16) <|
      ab_chk (vp_in (x1 - 1) 16) <|
      (mi_X8_below (ab_pi (ab_pi M 28 (x1).toNatClampNeg 0) 29 (x1).toNatClampNeg (q2 &&& q6)) (((ab_pi (ab_pi M 28 (x1).toNatClampNeg 0) 29 (x1).toNatClampNeg (q2 &&& q6)).1 27 (x1 - 1).toNatClampNeg) + 1)).bind fun q15 =>
      ab_chk (vp_in x1 16) <|
      some (ab_pi (ab_pi (ab_pi M 28 (x1).toNatClampNeg 0) 29 (x1).toNatClampNeg (q2 &&& q6)) 29 (x1).toNatClampNeg (((ab_pi (ab_pi M 28 (x1).toNatClampNeg 0) 29 (x1).toNatClampNeg (q2 &&& q6)).1 29 (x1).toNatClampNeg) &&& (q15 ^^^ (-1))))
    else
      some (ab_pi (ab_pi M 28 (x1).toNatClampNeg 0) 29 (x1).toNatClampNeg (q2 &&& q6))

set_option maxHeartbeats 4000000 in
set_option maxRecDepth 100000 in
theorem co_X8_open {l : Launch} {D : va_G} {ac : Nat → ClassId} (M : ab_M) (x1 : Int32) (x2 : Int32) (z : ab_M) (h : mi_X8_open M x1 x2 = some z) : ab_Con l D ac 5 me_X8_open 0 0 [.ref 26, .int x1, .int x2] ab_SH M (none, ab_SH, z) := by
  refine ab_intro (lv := [some (.ref 26), some (.int x1), some (.int x2)]) (by decide) rfl (Nat.le_of_ble_eq_true rfl) rfl ?_
  unfold mi_X8_open at h
  refine ev_aload_n dX8_open_0 rfl ?_
  refine ev_getr (o' := 28) fl_RX8_15 sh_26 (by decide) (by decide) rfl rfl dX8_open_1 ?_
  refine ev_iload_n dX8_open_4 rfl ?_
  refine ev_iconst (x := 0) dX8_open_5 (by decide) ?_
  obtain ⟨hb1, h⟩ := ab_chk_some h
  refine ev_iastore sh_28 hb1 dX8_open_6 ?_
  refine ev_aload_n dX8_open_7 rfl ?_
  refine ev_getr (o' := 29) fl_RX8_18 sh_26 (by decide) (by decide) rfl rfl dX8_open_8 ?_
  refine ev_iload_n dX8_open_11 rfl ?_
  refine ev_aload_n dX8_open_12 rfl ?_
  refine ev_getr (o' := 24) fl_RX8_25 sh_26 (by decide) (by decide) rfl rfl dX8_open_13 ?_
  refine ev_aload_n dX8_open_16 rfl ?_
  refine ev_getr (o' := 27) fl_RX8_9 sh_26 (by decide) (by decide) rfl rfl dX8_open_17 ?_
  refine ev_iload_n dX8_open_20 rfl ?_
  refine ev_iload_n dX8_open_21 rfl ?_
  obtain ⟨q2, hv3, h⟩ := ab_bind h
  refine ev_callV (st := [.int x1, .ref 29]) (co_X2_freeChannels (ab_pi M 28 (x1).toNatClampNeg 0) 27 sh_27 x1 x1 _ hv3) mv_X2_freeChannels sh_24 ml_RX8_52 dX8_open_22 (by decide) rfl (Nat.le_of_ble_eq_true rfl) ⟨Nat.le_refl _, Nat.le_refl _⟩ ?_
  refine ev_iload_n dX8_open_25 rfl ?_
  refine ev_aload_n dX8_open_26 rfl ?_
  refine ev_getr (o' := 1) fl_RX8_21 sh_26 (by decide) (by decide) rfl rfl dX8_open_27 ?_
  refine ev_iload_n dX8_open_30 rfl ?_
  obtain ⟨q4, hv5, h⟩ := ab_bind h
  refine ev_callV (st := [.int x2, .int q2, .int x1, .ref 29]) (co_X3_gapOf (ab_pi M 28 (x1).toNatClampNeg 0) x1 _ hv5) mv_X3_gapOf sh_1 ml_RX8_58 dX8_open_31 (by decide) rfl (Nat.le_of_ble_eq_true rfl) ⟨Nat.le_refl _, Nat.le_refl _⟩ ?_
  refine ev_isub dX8_open_34 ?_
  obtain ⟨q6, hv7, h⟩ := ab_bind h
  refine ev_callS (st := [.int q2, .int x1, .ref 29]) (co_X8_below (ab_pi M 28 (x1).toNatClampNeg 0) (x2 - q4) _ hv7) mv_X8_below ml_RX8_62 dX8_open_35 (by decide) rfl (Nat.le_of_ble_eq_true rfl) ⟨Nat.le_refl _, Nat.le_refl _⟩ ?_
  refine ev_iand dX8_open_38 ?_
  obtain ⟨hb8, h⟩ := ab_chk_some h
  refine ev_iastore sh_29 hb8 dX8_open_39 ?_
  refine ev_iload_n dX8_open_40 rfl ?_
  refine ev_if_le (t := 91) dX8_open_41 (by decide) (fun hc9 => ?_) (fun hc9 => ?_)
  · replace h := ab_pos hc9 h
    cases h
    exact ev_return rfl dX8_open_91
  · replace h := ab_neg hc9 h
    refine ev_aload_n dX8_open_44 rfl ?_
    refine ev_getr (o' := 1) fl_RX8_21 sh_26 (by decide) (by decide) rfl rfl dX8_open_45 ?_
    refine ev_getr (o' := 3) fl_RX8_65 sh_1 (by decide) (by decide) rfl rfl dX8_open_48 ?_
    refine ev_iload_n dX8_open_51 rfl ?_
    refine ev_iconst (x := 1) dX8_open_52 (by decide) ?_
    refine ev_isub dX8_open_53 ?_
    obtain ⟨hb10, h⟩ := ab_chk_some h
    refine ev_iaload sh_3 hb10 dX8_open_54 ?_
    refine ev_aload_n dX8_open_55 rfl ?_
    refine ev_getr (o' := 1) fl_RX8_21 sh_26 (by decide) (by decide) rfl rfl dX8_open_56 ?_
    refine ev_getr (o' := 3) fl_RX8_65 sh_1 (by decide) (by decide) rfl rfl dX8_open_59 ?_
    refine ev_iload_n dX8_open_62 rfl ?_
    obtain ⟨hb11, h⟩ := ab_chk_some h
    refine ev_iaload sh_3 hb11 dX8_open_63 ?_
    refine ev_icmp_ne (t := 91) dX8_open_64 (by decide) (fun hc12 => ?_) (fun hc12 => ?_)
    · replace h := ab_neg hc12 h
      cases h
      exact ev_return rfl dX8_open_91
    · replace h := ab_pos hc12 h
      refine ev_aload_n dX8_open_67 rfl ?_
      refine ev_getr (o' := 29) fl_RX8_18 sh_26 (by decide) (by decide) rfl rfl dX8_open_68 ?_
      refine ev_iload_n dX8_open_71 rfl ?_
      refine ev_dup2 dX8_open_72 rfl rfl ?_
      obtain ⟨hb13, h⟩ := ab_chk_some h
      refine ev_iaload sh_29 hb13 dX8_open_73 ?_
      refine ev_aload_n dX8_open_74 rfl ?_
      refine ev_getr (o' := 27) fl_RX8_9 sh_26 (by decide) (by decide) rfl rfl dX8_open_75 ?_
      refine ev_iload_n dX8_open_78 rfl ?_
      refine ev_iconst (x := 1) dX8_open_79 (by decide) ?_
      refine ev_isub dX8_open_80 ?_
      obtain ⟨hb14, h⟩ := ab_chk_some h
      refine ev_iaload sh_27 hb14 dX8_open_81 ?_
      refine ev_iconst (x := 1) dX8_open_82 (by decide) ?_
      refine ev_iadd dX8_open_83 ?_
      obtain ⟨q15, hv16, h⟩ := ab_bind h
      refine ev_callS (st := [.int ((ab_pi (ab_pi M 28 (x1).toNatClampNeg 0) 29 (x1).toNatClampNeg (q2 &&& q6)).1 29 (x1).toNatClampNeg), .int x1, .ref 29]) (co_X8_below (ab_pi (ab_pi M 28 (x1).toNatClampNeg 0) 29 (x1).toNatClampNeg (q2 &&& q6)) (((ab_pi (ab_pi M 28 (x1).toNatClampNeg 0) 29 (x1).toNatClampNeg (q2 &&& q6)).1 27 (x1 - 1).toNatClampNeg) + 1) _ hv16) mv_X8_below ml_RX8_62 dX8_open_84 (by decide) rfl (Nat.le_of_ble_eq_true rfl) ⟨Nat.le_refl _, Nat.le_refl _⟩ ?_
      refine ev_iconst (x := (-1)) dX8_open_87 (by decide) ?_
      refine ev_ixor dX8_open_88 ?_
      refine ev_iand dX8_open_89 ?_
      obtain ⟨hb17, h⟩ := ab_chk_some h
      refine ev_iastore sh_29 hb17 dX8_open_90 ?_
      cases h
      exact ev_return rfl dX8_open_91

noncomputable def mi_X8_takes (M : ab_M) (x1 : Int32) : Option (Int32 × ab_M) :=
  ab_chk (vp_in x1 16) <|
  ab_chk (vp_in x1 16) <|
  ab_chk (vp_in x1 16) <|
  ab_chk (vp_in x1 16) <|
  ab_chk (vp_in x1 16) <|
  if ((ab_ushr ((ab_pi (ab_pi (ab_pi M 26 5 ((M.1 26 5) + 1)) 28 (x1).toNatClampNeg (((ab_pi M 26 5 ((M.1 26 5) + 1)).1 28 (x1).toNatClampNeg) + 1)) 27 (x1).toNatClampNeg (M.1 28 (x1).toNatClampNeg)).1 29 (x1).toNatClampNeg) (M.1 28 (x1).toNatClampNeg)) &&& 1) = 0 then
    some (0, (ab_pi (ab_pi (ab_pi M 26 5 ((M.1 26 5) + 1)) 28 (x1).toNatClampNeg (((ab_pi M 26 5 ((M.1 26 5) + 1)).1 28 (x1).toNatClampNeg) + 1)) 27 (x1).toNatClampNeg (M.1 28 (x1).toNatClampNeg)))
  else
    some (1, (ab_pi (ab_pi (ab_pi M 26 5 ((M.1 26 5) + 1)) 28 (x1).toNatClampNeg (((ab_pi M 26 5 ((M.1 26 5) + 1)).1 28 (x1).toNatClampNeg) + 1)) 27 (x1).toNatClampNeg (M.1 28 (x1).toNatClampNeg)))

set_option maxHeartbeats 4000000 in
set_option maxRecDepth 100000 in
theorem co_X8_takes {l : Launch} {D : va_G} {ac : Nat → ClassId} (M : ab_M) (x1 : Int32) (z : Int32 × ab_M) (h : mi_X8_takes M x1 = some z) : ab_Con l D ac 1 me_X8_takes 0 0 [.ref 26, .int x1] ab_SH M (some (.int z.1), ab_SH, z.2) := by
  refine ab_intro (lv := [some (.ref 26), some (.int x1), none]) (by decide) rfl (Nat.le_of_ble_eq_true rfl) rfl ?_
  unfold mi_X8_takes at h
  refine ev_aload_n dX8_takes_0 rfl ?_
  refine ev_getr (o' := 28) fl_RX8_15 sh_26 (by decide) (by decide) rfl rfl dX8_takes_1 ?_
  refine ev_iload_n dX8_takes_4 rfl ?_
  obtain ⟨hb1, h⟩ := ab_chk_some h
  refine ev_iaload sh_28 hb1 dX8_takes_5 ?_
  refine ev_istore_n dX8_takes_6 (Nat.le_of_ble_eq_true rfl) rfl rfl ?_
  refine ev_aload_n dX8_takes_7 rfl ?_
  refine ev_dup dX8_takes_8 rfl ?_
  refine ev_geti fl_RX8_39 sh_26 (by decide) (by decide) rfl dX8_takes_9 ?_
  refine ev_iconst (x := 1) dX8_takes_12 (by decide) ?_
  refine ev_iadd dX8_takes_13 ?_
  refine ev_puti fl_RX8_39 sh_26 (by decide) (by decide) rfl rfl rfl dX8_takes_14 ?_
  refine ev_aload_n dX8_takes_17 rfl ?_
  refine ev_getr (o' := 28) fl_RX8_15 sh_26 (by decide) (by decide) rfl rfl dX8_takes_18 ?_
  refine ev_iload_n dX8_takes_21 rfl ?_
  refine ev_dup2 dX8_takes_22 rfl rfl ?_
  obtain ⟨hb2, h⟩ := ab_chk_some h
  refine ev_iaload sh_28 hb2 dX8_takes_23 ?_
  refine ev_iconst (x := 1) dX8_takes_24 (by decide) ?_
  refine ev_iadd dX8_takes_25 ?_
  obtain ⟨hb3, h⟩ := ab_chk_some h
  refine ev_iastore sh_28 hb3 dX8_takes_26 ?_
  refine ev_aload_n dX8_takes_27 rfl ?_
  refine ev_getr (o' := 27) fl_RX8_9 sh_26 (by decide) (by decide) rfl rfl dX8_takes_28 ?_
  refine ev_iload_n dX8_takes_31 rfl ?_
  refine ev_iload_n dX8_takes_32 rfl ?_
  obtain ⟨hb4, h⟩ := ab_chk_some h
  refine ev_iastore sh_27 hb4 dX8_takes_33 ?_
  refine ev_aload_n dX8_takes_34 rfl ?_
  refine ev_getr (o' := 29) fl_RX8_18 sh_26 (by decide) (by decide) rfl rfl dX8_takes_35 ?_
  refine ev_iload_n dX8_takes_38 rfl ?_
  obtain ⟨hb5, h⟩ := ab_chk_some h
  refine ev_iaload sh_29 hb5 dX8_takes_39 ?_
  refine ev_iload_n dX8_takes_40 rfl ?_
  refine ev_iushr dX8_takes_41 ?_
  refine ev_iconst (x := 1) dX8_takes_42 (by decide) ?_
  refine ev_iand dX8_takes_43 ?_
  refine ev_if_eq (t := 51) dX8_takes_44 (by decide) (fun hc6 => ?_) (fun hc6 => ?_)
  · replace h := ab_pos hc6 h
    refine ev_iconst (x := 0) dX8_takes_51 (by decide) ?_
    cases h
    exact ev_zreturn rfl (Or.inl rfl) dX8_takes_52
  · replace h := ab_neg hc6 h
    refine ev_iconst (x := 1) dX8_takes_47 (by decide) ?_
    refine ev_goto (t := 52) dX8_takes_48 (by decide) ?_
    cases h
    exact ev_zreturn rfl (Or.inr rfl) dX8_takes_52

noncomputable def mi_X8_search_22 : Nat → ab_M → Int32 → Int32 → Int32 → Option (Sum (Int32 × Int32 × ab_M) (Int32 × ab_M))
  | 0, _, _, _, _ => none
  | n + 1, M, x1, x2, x3 =>
    if 8001 < x3 then
      some (.inl (x2, x3, M))
    else
      ab_chk (vp_in x2 16) <|
      if (M.1 28 (x2).toNatClampNeg) < x1 then
        if (M.1 26 5) < 4000 then
          (mi_X8_takes M x2).bind fun q8 =>
          if q8.1 = 0 then
            mi_X8_search_22 n q8.2 x1 x2 (x3 + 1)
          else
            if (x2 + 1) < (q8.2.1 1 8) then
              (mi_X8_open q8.2 (x2 + 1) x1).bind fun q12 =>
              mi_X8_search_22 n q12 x1 (x2 + 1) (x3 + 1)
            else
              some (.inr (1, q8.2))
        else
          some (.inr ((-2), M))
      else
        if 0 ≤ (x2 + (-1)) then
          mi_X8_search_22 n M x1 (x2 + (-1)) (x3 + 1)
        else
          some (.inr (0, M))

set_option maxHeartbeats 4000000 in
set_option maxRecDepth 100000 in
theorem lp_X8_search_22 {l : Launch} {D : va_G} {ac : Nat → ClassId} {n0 : Nat} {r : ab_Rs} : ∀ (n : Nat) (M : ab_M) (x1 : Int32) (x2 : Int32) (x3 : Int32) (q : Sum (Int32 × Int32 × ab_M) (Int32 × ab_M)) (h : mi_X8_search_22 n M x1 x2 x3 = some q) (kk : ∀ y, q = .inl y → ab_Ev l D ac 6 me_X8_search n0 0 0 r 0 0 ab_SH 100 [some (.ref 26), some (.int x1), some (.int y.1), some (.int y.2.1)] [] y.2.2) (kr : ∀ v, q = .inr v → r = (some (.int v.1), ab_SH, v.2)), ab_Ev l D ac 6 me_X8_search n0 0 0 r 0 0 ab_SH 22 [some (.ref 26), some (.int x1), some (.int x2), some (.int x3)] [] M := by
  intro n
  induction n with
  | zero =>
    intro M x1 x2 x3 q h kk kr
    cases h
  | succ n ih =>
    intro M x1 x2 x3 q h kk kr
    unfold mi_X8_search_22 at h
    refine ev_iload_n dX8_search_22 rfl ?_
    refine ev_sipush (x := 8001) dX8_search_23 (by decide) ?_
    refine ev_icmp_gt (t := 100) dX8_search_26 (by decide) (fun hc4 => ?_) (fun hc4 => ?_)
    · replace h := ab_pos hc4 h
      cases h
      exact kk _ rfl
    · replace h := ab_neg hc4 h
      refine ev_aload_n dX8_search_29 rfl ?_
      refine ev_getr (o' := 28) fl_RX8_15 sh_26 (by decide) (by decide) rfl rfl dX8_search_30 ?_
      refine ev_iload_n dX8_search_33 rfl ?_
      obtain ⟨hb5, h⟩ := ab_chk_some h
      refine ev_iaload sh_28 hb5 dX8_search_34 ?_
      refine ev_iload_n dX8_search_35 rfl ?_
      refine ev_icmp_lt (t := 48) dX8_search_36 (by decide) (fun hc6 => ?_) (fun hc6 => ?_)
      · replace h := ab_pos hc6 h
        refine ev_aload_n dX8_search_48 rfl ?_
        refine ev_geti fl_RX8_39 sh_26 (by decide) (by decide) rfl dX8_search_49 ?_
        refine ev_sipush (x := 4000) dX8_search_52 (by decide) ?_
        refine ev_icmp_lt (t := 61) dX8_search_55 (by decide) (fun hc7 => ?_) (fun hc7 => ?_)
        · replace h := ab_pos hc7 h
          refine ev_aload_n dX8_search_61 rfl ?_
          refine ev_iload_n dX8_search_62 rfl ?_
          obtain ⟨q8, hv9, h⟩ := ab_bind h
          refine ev_callV (st := []) (co_X8_takes M x2 _ hv9) mv_X8_takes sh_26 ml_RX8_42 dX8_search_63 (by decide) rfl (Nat.le_of_ble_eq_true rfl) ⟨Nat.le_refl _, Nat.le_refl _⟩ ?_
          refine ev_if_ne (t := 72) dX8_search_66 (by decide) (fun hc10 => ?_) (fun hc10 => ?_)
          · replace h := ab_neg hc10 h
            refine ev_iinc (y := x2 + 1) dX8_search_72 rfl (by first | rfl | decide) rfl rfl ?_
            refine ev_iload_n dX8_search_75 rfl ?_
            refine ev_aload_n dX8_search_76 rfl ?_
            refine ev_getr (o' := 1) fl_RX8_21 sh_26 (by decide) (by decide) rfl rfl dX8_search_77 ?_
            refine ev_geti fl_RX8_29 sh_1 (by decide) (by decide) rfl dX8_search_80 ?_
            refine ev_icmp_lt (t := 88) dX8_search_83 (by decide) (fun hc11 => ?_) (fun hc11 => ?_)
            · replace h := ab_pos hc11 h
              refine ev_aload_n dX8_search_88 rfl ?_
              refine ev_iload_n dX8_search_89 rfl ?_
              refine ev_iload_n dX8_search_90 rfl ?_
              obtain ⟨q12, hv13, h⟩ := ab_bind h
              refine ev_callV (st := []) (co_X8_open q8.2 (x2 + 1) x1 _ hv13) mv_X8_open sh_26 ml_RX8_35 dX8_search_91 (by decide) rfl (Nat.le_of_ble_eq_true rfl) ⟨Nat.le_refl _, Nat.le_refl _⟩ ?_
              refine ev_iinc (y := x3 + 1) dX8_search_94 rfl (by first | rfl | decide) rfl rfl ?_
              refine ev_goto (t := 22) dX8_search_97 (by decide) ?_
              exact ih q12 x1 (x2 + 1) (x3 + 1) _ h kk kr
            · replace h := ab_neg hc11 h
              refine ev_iconst (x := 1) dX8_search_86 (by decide) ?_
              cases h
              rw [kr _ rfl]
              exact ev_ireturn rfl dX8_search_87
          · replace h := ab_pos hc10 h
            refine ev_goto (t := 94) dX8_search_69 (by decide) ?_
            refine ev_iinc (y := x3 + 1) dX8_search_94 rfl (by first | rfl | decide) rfl rfl ?_
            refine ev_goto (t := 22) dX8_search_97 (by decide) ?_
            exact ih q8.2 x1 x2 (x3 + 1) _ h kk kr
        · replace h := ab_neg hc7 h
          refine ev_bipush (x := (-2)) dX8_search_58 (by decide) ?_
          cases h
          rw [kr _ rfl]
          exact ev_ireturn rfl dX8_search_60
      · replace h := ab_neg hc6 h
        refine ev_iinc (y := x2 + (-1)) dX8_search_39 rfl (by first | rfl | decide) rfl rfl ?_
        refine ev_iload_n dX8_search_42 rfl ?_
        refine ev_if_ge (t := 94) dX8_search_43 (by decide) (fun hc14 => ?_) (fun hc14 => ?_)
        · replace h := ab_pos hc14 h
          refine ev_iinc (y := x3 + 1) dX8_search_94 rfl (by first | rfl | decide) rfl rfl ?_
          refine ev_goto (t := 22) dX8_search_97 (by decide) ?_
          exact ih M x1 (x2 + (-1)) (x3 + 1) _ h kk kr
        · replace h := ab_neg hc14 h
          refine ev_iconst (x := 0) dX8_search_46 (by decide) ?_
          cases h
          rw [kr _ rfl]
          exact ev_ireturn rfl dX8_search_47

noncomputable def mi_X8_search (M : ab_M) (x1 : Int32) : Option (Int32 × ab_M) :=
  if (M.1 1 8) = 0 then
    some (1, M)
  else
    (mi_X8_open M 0 x1).bind fun q2 =>
    (mi_X8_search_22 ab_F q2 x1 0 0).bind fun q18 => Sum.elim (fun q15 =>
    some ((-2), q15.2.2)) (fun v17 => some v17) q18

set_option maxHeartbeats 4000000 in
set_option maxRecDepth 100000 in
theorem co_X8_search {l : Launch} {D : va_G} {ac : Nat → ClassId} (M : ab_M) (x1 : Int32) (z : Int32 × ab_M) (h : mi_X8_search M x1 = some z) : ab_Con l D ac 6 me_X8_search 0 0 [.ref 26, .int x1] ab_SH M (some (.int z.1), ab_SH, z.2) := by
  refine ab_intro (lv := [some (.ref 26), some (.int x1), none, none]) (by decide) rfl (Nat.le_of_ble_eq_true rfl) rfl ?_
  unfold mi_X8_search at h
  refine ev_aload_n dX8_search_0 rfl ?_
  refine ev_getr (o' := 1) fl_RX8_21 sh_26 (by decide) (by decide) rfl rfl dX8_search_1 ?_
  refine ev_geti fl_RX8_29 sh_1 (by decide) (by decide) rfl dX8_search_4 ?_
  refine ev_if_ne (t := 12) dX8_search_7 (by decide) (fun hc1 => ?_) (fun hc1 => ?_)
  · replace h := ab_neg hc1 h
    refine ev_iconst (x := 0) dX8_search_12 (by decide) ?_
    refine ev_istore_n dX8_search_13 (Nat.le_of_ble_eq_true rfl) rfl rfl ?_
    refine ev_aload_n dX8_search_14 rfl ?_
    refine ev_iload_n dX8_search_15 rfl ?_
    refine ev_iload_n dX8_search_16 rfl ?_
    obtain ⟨q2, hv3, h⟩ := ab_bind h
    refine ev_callV (st := []) (co_X8_open M 0 x1 _ hv3) mv_X8_open sh_26 ml_RX8_35 dX8_search_17 (by decide) rfl (Nat.le_of_ble_eq_true rfl) ⟨Nat.le_refl _, Nat.le_refl _⟩ ?_
    refine ev_iconst (x := 0) dX8_search_20 (by decide) ?_
    refine ev_istore_n dX8_search_21 (Nat.le_of_ble_eq_true rfl) rfl rfl ?_
    obtain ⟨q18, hq16, h⟩ := ab_bind h
    rcases ab_elim h with ⟨q15, rfl, h⟩ | ⟨v17, rfl, h⟩
    · refine lp_X8_search_22 _ q2 x1 0 0 _ hq16 (fun z e19 => ?_) (fun z e19 => by cases e19)
      cases e19
      refine ev_bipush (x := (-2)) dX8_search_100 (by decide) ?_
      cases h
      exact ev_ireturn rfl dX8_search_102
    · refine lp_X8_search_22 _ q2 x1 0 0 _ hq16 (fun z e19 => by cases e19) (fun z e19 => ?_)
      cases e19
      cases h
      rfl
  · replace h := ab_pos hc1 h
    refine ev_iconst (x := 1) dX8_search_10 (by decide) ?_
    cases h
    exact ev_ireturn rfl dX8_search_11

noncomputable def mi_X8_handOver (M : ab_M) (t1 : Nat) : Option (ab_M) :=
  ab_chk (¬ (0 : Int32) < 0 ∧ ¬ (0 : Int32) < 0 ∧ ¬ ((M.1 1 8) : Int32) < 0 ∧ (0 : Int32).toNatClampNeg + (M.1 1 8 : Int32).toNatClampNeg ≤ 16 ∧ (0 : Int32).toNatClampNeg + (M.1 1 8 : Int32).toNatClampNeg ≤ 16) <|
  some (ab_cpi M 27 t1 0 0 (M.1 1 8))

set_option maxHeartbeats 4000000 in
set_option maxRecDepth 100000 in
theorem co_X8_handOver {l : Launch} {D : va_G} {ac : Nat → ClassId} (M : ab_M) (t1 : Nat) (ht1 : ab_isPlan t1) (z : ab_M) (h : mi_X8_handOver M t1 = some z) : ab_Con l D ac 2 me_X8_handOver 0 0 [.ref 26, .ref t1] ab_SH M (none, ab_SH, z) := by
  refine ab_intro (lv := [some (.ref 26), some (.ref t1)]) (by decide) rfl (Nat.le_of_ble_eq_true rfl) rfl ?_
  unfold mi_X8_handOver at h
  refine ev_aload_n dX8_handOver_0 rfl ?_
  refine ev_getr (o' := 27) fl_RX8_9 sh_26 (by decide) (by decide) rfl rfl dX8_handOver_1 ?_
  refine ev_iconst (x := 0) dX8_handOver_4 (by decide) ?_
  refine ev_aload_n dX8_handOver_5 rfl ?_
  refine ev_iconst (x := 0) dX8_handOver_6 (by decide) ?_
  refine ev_aload_n dX8_handOver_7 rfl ?_
  refine ev_getr (o' := 1) fl_RX8_21 sh_26 (by decide) (by decide) rfl rfl dX8_handOver_8 ?_
  refine ev_geti fl_RX8_29 sh_1 (by decide) (by decide) rfl dX8_handOver_11 ?_
  obtain ⟨hb1, h⟩ := ab_chk_some h
  refine ev_copyi ml_RX8_46 sh_27 ht1 hb1 dX8_handOver_14 (by decide) (Nat.le_of_ble_eq_true rfl) ?_
  cases h
  exact ev_return rfl dX8_handOver_17
