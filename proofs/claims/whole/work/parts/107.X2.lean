noncomputable def mi_X2_served_4 : Nat → ab_M → Nat → Int32 → Int32 → Option (Int32 × Int32)
  | 0, _, _, _, _ => none
  | n + 1, M, t1, x2, x3 =>
    if (M.1 1 8) ≤ x3 then
      some (x2, x3)
    else
      ab_chk (vp_in x3 16) <|
      ((if (M.1 t1 (x3).toNatClampNeg) < 0 then
        some 0
      else
        some 1) : Option (Int32)).bind fun q3 =>
      mi_X2_served_4 n M t1 (x2 + q3) (x3 + 1)

set_option maxHeartbeats 4000000 in
set_option maxRecDepth 100000 in
theorem lp_X2_served_4 {l : Launch} {D : va_G} {ac : Nat → ClassId} {n0 : Nat} {r : ab_Rs} : ∀ (n : Nat) (M : ab_M) (t1 : Nat) (ht1 : ab_isPlan t1) (x2 : Int32) (x3 : Int32) (q : Int32 × Int32) (h : mi_X2_served_4 n M t1 x2 x3 = some q) (kk : ab_Ev l D ac 1 me_X2_served n0 0 0 r 0 0 ab_SH 35 [some (.ref 24), some (.ref t1), some (.int q.1), some (.int q.2)] [] M), ab_Ev l D ac 1 me_X2_served n0 0 0 r 0 0 ab_SH 4 [some (.ref 24), some (.ref t1), some (.int x2), some (.int x3)] [] M := by
  intro n
  induction n with
  | zero =>
    intro M t1 ht1 x2 x3 q h kk
    cases h
  | succ n ih =>
    intro M t1 ht1 x2 x3 q h kk
    unfold mi_X2_served_4 at h
    refine ev_iload_n dX2_served_4 rfl ?_
    refine ev_aload_n dX2_served_5 rfl ?_
    refine ev_getr (o' := 1) fl_RX2_15 sh_24 (by decide) (by decide) rfl rfl dX2_served_6 ?_
    refine ev_geti fl_RX2_19 sh_1 (by decide) (by decide) rfl dX2_served_9 ?_
    refine ev_icmp_ge (t := 35) dX2_served_12 (by decide) (fun hc1 => ?_) (fun hc1 => ?_)
    · replace h := ab_pos hc1 h
      cases h
      exact kk
    · replace h := ab_neg hc1 h
      refine ev_iload_n dX2_served_15 rfl ?_
      refine ev_aload_n dX2_served_16 rfl ?_
      refine ev_iload_n dX2_served_17 rfl ?_
      obtain ⟨hb2, h⟩ := ab_chk_some h
      refine ev_iaload ht1 hb2 dX2_served_18 ?_
      obtain ⟨q3, hq4, h⟩ := ab_bind h
      have hJ5 : ab_Ev l D ac 1 me_X2_served n0 0 0 r 0 0 ab_SH 27 [some (.ref 24), some (.ref t1), some (.int x2), some (.int x3)] [.int q3, .int x2] M := by
        refine ev_iadd dX2_served_27 ?_
        refine ev_istore_n dX2_served_28 (Nat.le_of_ble_eq_true rfl) rfl rfl ?_
        refine ev_iinc (y := x3 + 1) dX2_served_29 rfl (by first | rfl | decide) rfl rfl ?_
        refine ev_goto (t := 4) dX2_served_32 (by decide) ?_
        exact ih M t1 ht1 (x2 + q3) (x3 + 1) _ h kk
      refine ev_if_lt (t := 26) dX2_served_19 (by decide) (fun hc6 => ?_) (fun hc6 => ?_)
      · replace hq4 := ab_pos hc6 hq4
        refine ev_iconst (x := 0) dX2_served_26 (by decide) ?_
        cases hq4
        exact hJ5
      · replace hq4 := ab_neg hc6 hq4
        refine ev_iconst (x := 1) dX2_served_22 (by decide) ?_
        refine ev_goto (t := 27) dX2_served_23 (by decide) ?_
        cases hq4
        exact hJ5

noncomputable def mi_X2_served (M : ab_M) (t1 : Nat) : Option (Int32) :=
  (mi_X2_served_4 ab_F M t1 0 0).bind fun q7 =>
  some q7.1

set_option maxHeartbeats 4000000 in
set_option maxRecDepth 100000 in
theorem co_X2_served {l : Launch} {D : va_G} {ac : Nat → ClassId} (M : ab_M) (t1 : Nat) (ht1 : ab_isPlan t1) (z : Int32) (h : mi_X2_served M t1 = some z) : ab_Con l D ac 1 me_X2_served 0 0 [.ref 24, .ref t1] ab_SH M (some (.int z), ab_SH, M) := by
  refine ab_intro (lv := [some (.ref 24), some (.ref t1), none, none]) (by decide) rfl (Nat.le_of_ble_eq_true rfl) rfl ?_
  unfold mi_X2_served at h
  refine ev_iconst (x := 0) dX2_served_0 (by decide) ?_
  refine ev_istore_n dX2_served_1 (Nat.le_of_ble_eq_true rfl) rfl rfl ?_
  refine ev_iconst (x := 0) dX2_served_2 (by decide) ?_
  refine ev_istore_n dX2_served_3 (Nat.le_of_ble_eq_true rfl) rfl rfl ?_
  obtain ⟨q7, hq8, h⟩ := ab_bind h
  refine lp_X2_served_4 _ M t1 ht1 0 0 _ hq8 ?_
  refine ev_iload_n dX2_served_35 rfl ?_
  cases h
  exact ev_ireturn rfl dX2_served_36

noncomputable def mi_X2_lackAt_57 : Nat → ab_M → Int32 → Int32 → Int32 → Int32 → Int32 → Int32 → Int32 → Int32 → Option (Int32 × Int32)
  | 0, _, _, _, _, _, _, _, _, _ => none
  | n + 1, M, x2, x4, x5, x6, x7, x8, x9, x10 =>
    if (x4 + x8) < x10 then
      some (x6, x10)
    else
      mi_X2_lackAt_57 n M x2 x4 x5 (ab_max x6 (x5 - (ab_abs (x9 - x10)))) x7 x8 x9 (x10 + (ab_max 1 x8))

set_option maxHeartbeats 4000000 in
set_option maxRecDepth 100000 in
theorem lp_X2_lackAt_57 {l : Launch} {D : va_G} {ac : Nat → ClassId} {n0 : Nat} {r : ab_Rs} : ∀ (n : Nat) (M : ab_M) (x2 : Int32) (x4 : Int32) (x5 : Int32) (x6 : Int32) (x7 : Int32) (x8 : Int32) (x9 : Int32) (x10 : Int32) (q : Int32 × Int32) (h : mi_X2_lackAt_57 n M x2 x4 x5 x6 x7 x8 x9 x10 = some q) (kk : ab_Ev l D ac 3 me_X2_lackAt n0 0 0 r 0 0 ab_SH 99 [some (.ref 24), none, some (.int x2), none, some (.int x4), some (.int x5), some (.int q.1), some (.int x7), some (.int x8), some (.int x9), some (.int q.2)] [] M), ab_Ev l D ac 3 me_X2_lackAt n0 0 0 r 0 0 ab_SH 57 [some (.ref 24), none, some (.int x2), none, some (.int x4), some (.int x5), some (.int x6), some (.int x7), some (.int x8), some (.int x9), some (.int x10)] [] M := by
  intro n
  induction n with
  | zero =>
    intro M x2 x4 x5 x6 x7 x8 x9 x10 q h kk
    cases h
  | succ n ih =>
    intro M x2 x4 x5 x6 x7 x8 x9 x10 q h kk
    unfold mi_X2_lackAt_57 at h
    refine ev_iload dX2_lackAt_57 rfl ?_
    refine ev_iload dX2_lackAt_59 rfl ?_
    refine ev_iload dX2_lackAt_61 rfl ?_
    refine ev_iadd dX2_lackAt_63 ?_
    refine ev_icmp_gt (t := 99) dX2_lackAt_64 (by decide) (fun hc9 => ?_) (fun hc9 => ?_)
    · replace h := ab_pos hc9 h
      cases h
      exact kk
    · replace h := ab_neg hc9 h
      refine ev_iload dX2_lackAt_67 rfl ?_
      refine ev_iload dX2_lackAt_69 rfl ?_
      refine ev_iload dX2_lackAt_71 rfl ?_
      refine ev_iload dX2_lackAt_73 rfl ?_
      refine ev_isub dX2_lackAt_75 ?_
      refine ev_abs ml_RX2_52 dX2_lackAt_76 (by decide) (Nat.le_of_ble_eq_true rfl) ⟨Nat.le_refl _, Nat.le_refl _⟩ ?_
      refine ev_isub dX2_lackAt_79 ?_
      refine ev_max ml_RX2_57 dX2_lackAt_80 (by decide) (Nat.le_of_ble_eq_true rfl) ⟨Nat.le_refl _, Nat.le_refl _⟩ ?_
      refine ev_istore dX2_lackAt_83 (Nat.le_of_ble_eq_true rfl) rfl rfl ?_
      refine ev_iload dX2_lackAt_85 rfl ?_
      refine ev_iconst (x := 1) dX2_lackAt_87 (by decide) ?_
      refine ev_iload dX2_lackAt_88 rfl ?_
      refine ev_max ml_RX2_57 dX2_lackAt_90 (by decide) (Nat.le_of_ble_eq_true rfl) ⟨Nat.le_refl _, Nat.le_refl _⟩ ?_
      refine ev_iadd dX2_lackAt_93 ?_
      refine ev_istore dX2_lackAt_94 (Nat.le_of_ble_eq_true rfl) rfl rfl ?_
      refine ev_goto (t := 57) dX2_lackAt_96 (by decide) ?_
      exact ih M x2 x4 x5 (ab_max x6 (x5 - (ab_abs (x9 - x10)))) x7 x8 x9 (x10 + (ab_max 1 x8)) _ h kk

noncomputable def mi_X2_lackAt_44 : Nat → ab_M → Int32 → Int32 → Int32 → Int32 → Int32 → Int32 → Int32 → Option (Int32 × Int32)
  | 0, _, _, _, _, _, _, _, _ => none
  | n + 1, M, x2, x4, x5, x6, x7, x8, x9 =>
    if (x2 + x7) < x9 then
      some (x6, x9)
    else
      (mi_X2_lackAt_57 ab_F M x2 x4 x5 x6 x7 x8 x9 x4).bind fun q10 =>
      mi_X2_lackAt_44 n M x2 x4 x5 q10.1 x7 x8 (x9 + (ab_max 1 x7))

set_option maxHeartbeats 4000000 in
set_option maxRecDepth 100000 in
theorem lp_X2_lackAt_44 {l : Launch} {D : va_G} {ac : Nat → ClassId} {n0 : Nat} {r : ab_Rs} : ∀ (n : Nat) (M : ab_M) (x2 : Int32) (x4 : Int32) (x5 : Int32) (x6 : Int32) (x7 : Int32) (x8 : Int32) (x9 : Int32) (q : Int32 × Int32) (h : mi_X2_lackAt_44 n M x2 x4 x5 x6 x7 x8 x9 = some q) (kk : ab_Ev l D ac 3 me_X2_lackAt n0 0 0 r 0 0 ab_SH 113 [some (.ref 24), none, some (.int x2), none, some (.int x4), some (.int x5), some (.int q.1), some (.int x7), some (.int x8), some (.int q.2), none] [] M), ab_Ev l D ac 3 me_X2_lackAt n0 0 0 r 0 0 ab_SH 44 [some (.ref 24), none, some (.int x2), none, some (.int x4), some (.int x5), some (.int x6), some (.int x7), some (.int x8), some (.int x9), none] [] M := by
  intro n
  induction n with
  | zero =>
    intro M x2 x4 x5 x6 x7 x8 x9 q h kk
    cases h
  | succ n ih =>
    intro M x2 x4 x5 x6 x7 x8 x9 q h kk
    unfold mi_X2_lackAt_44 at h
    refine ev_iload dX2_lackAt_44 rfl ?_
    refine ev_iload_n dX2_lackAt_46 rfl ?_
    refine ev_iload dX2_lackAt_47 rfl ?_
    refine ev_iadd dX2_lackAt_49 ?_
    refine ev_icmp_gt (t := 113) dX2_lackAt_50 (by decide) (fun hc8 => ?_) (fun hc8 => ?_)
    · replace h := ab_pos hc8 h
      cases h
      exact kk
    · replace h := ab_neg hc8 h
      refine ev_iload dX2_lackAt_53 rfl ?_
      refine ev_istore dX2_lackAt_55 (Nat.le_of_ble_eq_true rfl) rfl rfl ?_
      obtain ⟨q10, hq11, h⟩ := ab_bind h
      refine lp_X2_lackAt_57 _ M x2 x4 x5 x6 x7 x8 x9 x4 _ hq11 ?_
      refine ev_iload dX2_lackAt_99 rfl ?_
      refine ev_iconst (x := 1) dX2_lackAt_101 (by decide) ?_
      refine ev_iload dX2_lackAt_102 rfl ?_
      refine ev_max ml_RX2_57 dX2_lackAt_104 (by decide) (Nat.le_of_ble_eq_true rfl) ⟨Nat.le_refl _, Nat.le_refl _⟩ ?_
      refine ev_iadd dX2_lackAt_107 ?_
      refine ev_istore dX2_lackAt_108 (Nat.le_of_ble_eq_true rfl) rfl rfl ?_
      refine ev_goto (t := 44) dX2_lackAt_110 (by decide) ?_
      refine ev_drop (lv' := [some (.ref 24), none, some (.int x2), none, some (.int x4), some (.int x5), some (.int q10.1), some (.int x7), some (.int x8), some (.int (x9 + (ab_max 1 x7))), none]) (ab_sub_k (ab_sub_k (ab_sub_k (ab_sub_k (ab_sub_k (ab_sub_k (ab_sub_k (ab_sub_k (ab_sub_k (ab_sub_k (ab_sub_d ab_sub_nil))))))))))) ?_
      exact ih M x2 x4 x5 q10.1 x7 x8 (x9 + (ab_max 1 x7)) _ h kk

noncomputable def mi_X2_lackAt (M : ab_M) (x1 : Int32) (x2 : Int32) (x3 : Int32) (x4 : Int32) : Option (Int32) :=
  (mi_X3_barOfWants M x1 x3).bind fun q1 =>
  if q1 = 0 then
    some 0
  else
    (mi_X3_gapOf M x1).bind fun q4 =>
    (mi_X3_gapOf M x3).bind fun q6 =>
    (mi_X2_lackAt_44 ab_F M x2 x4 q1 0 q4 q6 x2).bind fun q12 =>
    some q12.1

set_option maxHeartbeats 4000000 in
set_option maxRecDepth 100000 in
theorem co_X2_lackAt {l : Launch} {D : va_G} {ac : Nat → ClassId} (M : ab_M) (x1 : Int32) (x2 : Int32) (x3 : Int32) (x4 : Int32) (z : Int32) (h : mi_X2_lackAt M x1 x2 x3 x4 = some z) : ab_Con l D ac 3 me_X2_lackAt 0 0 [.ref 24, .int x1, .int x2, .int x3, .int x4] ab_SH M (some (.int z), ab_SH, M) := by
  refine ab_intro (lv := [some (.ref 24), some (.int x1), some (.int x2), some (.int x3), some (.int x4), none, none, none, none, none, none]) (by decide) rfl (Nat.le_of_ble_eq_true rfl) rfl ?_
  unfold mi_X2_lackAt at h
  refine ev_aload_n dX2_lackAt_0 rfl ?_
  refine ev_getr (o' := 1) fl_RX2_15 sh_24 (by decide) (by decide) rfl rfl dX2_lackAt_1 ?_
  refine ev_iload_n dX2_lackAt_4 rfl ?_
  refine ev_iload_n dX2_lackAt_5 rfl ?_
  obtain ⟨q1, hv2, h⟩ := ab_bind h
  refine ev_callV (st := []) (co_X3_barOfWants M x1 x3 _ hv2) mv_X3_barOfWants sh_1 ml_RX2_45 dX2_lackAt_6 (by decide) rfl (Nat.le_of_ble_eq_true rfl) ⟨Nat.le_refl _, Nat.le_refl _⟩ ?_
  refine ev_istore dX2_lackAt_9 (Nat.le_of_ble_eq_true rfl) rfl rfl ?_
  refine ev_iload dX2_lackAt_11 rfl ?_
  refine ev_if_ne (t := 18) dX2_lackAt_13 (by decide) (fun hc3 => ?_) (fun hc3 => ?_)
  · replace h := ab_neg hc3 h
    refine ev_iconst (x := 0) dX2_lackAt_18 (by decide) ?_
    refine ev_istore dX2_lackAt_19 (Nat.le_of_ble_eq_true rfl) rfl rfl ?_
    refine ev_aload_n dX2_lackAt_21 rfl ?_
    refine ev_getr (o' := 1) fl_RX2_15 sh_24 (by decide) (by decide) rfl rfl dX2_lackAt_22 ?_
    refine ev_iload_n dX2_lackAt_25 rfl ?_
    obtain ⟨q4, hv5, h⟩ := ab_bind h
    refine ev_callV (st := []) (co_X3_gapOf M x1 _ hv5) mv_X3_gapOf sh_1 ml_RX2_49 dX2_lackAt_26 (by decide) rfl (Nat.le_of_ble_eq_true rfl) ⟨Nat.le_refl _, Nat.le_refl _⟩ ?_
    refine ev_istore dX2_lackAt_29 (Nat.le_of_ble_eq_true rfl) rfl rfl ?_
    refine ev_aload_n dX2_lackAt_31 rfl ?_
    refine ev_getr (o' := 1) fl_RX2_15 sh_24 (by decide) (by decide) rfl rfl dX2_lackAt_32 ?_
    refine ev_iload_n dX2_lackAt_35 rfl ?_
    obtain ⟨q6, hv7, h⟩ := ab_bind h
    refine ev_callV (st := []) (co_X3_gapOf M x3 _ hv7) mv_X3_gapOf sh_1 ml_RX2_49 dX2_lackAt_36 (by decide) rfl (Nat.le_of_ble_eq_true rfl) ⟨Nat.le_refl _, Nat.le_refl _⟩ ?_
    refine ev_istore dX2_lackAt_39 (Nat.le_of_ble_eq_true rfl) rfl rfl ?_
    refine ev_iload_n dX2_lackAt_41 rfl ?_
    refine ev_istore dX2_lackAt_42 (Nat.le_of_ble_eq_true rfl) rfl rfl ?_
    obtain ⟨q12, hq13, h⟩ := ab_bind h
    refine ev_drop (lv' := [some (.ref 24), none, some (.int x2), none, some (.int x4), some (.int q1), some (.int 0), some (.int q4), some (.int q6), some (.int x2), none]) (ab_sub_k (ab_sub_d (ab_sub_k (ab_sub_d (ab_sub_k (ab_sub_k (ab_sub_k (ab_sub_k (ab_sub_k (ab_sub_k (ab_sub_k ab_sub_nil))))))))))) ?_
    refine lp_X2_lackAt_44 _ M x2 x4 q1 0 q4 q6 x2 _ hq13 ?_
    refine ev_iload dX2_lackAt_113 rfl ?_
    cases h
    exact ev_ireturn rfl dX2_lackAt_115
  · replace h := ab_pos hc3 h
    refine ev_iconst (x := 0) dX2_lackAt_16 (by decide) ?_
    cases h
    exact ev_ireturn rfl dX2_lackAt_17

noncomputable def mi_X2_lackOf (M : ab_M) (t1 : Nat) (x2 : Int32) (x3 : Int32) : Option (Int32) :=
  ab_chk (vp_in x2 16) <|
  if (M.1 t1 (x2).toNatClampNeg) < 0 then
    some 0
  else
    ab_chk (vp_in x3 16) <|
    if 0 ≤ (M.1 t1 (x3).toNatClampNeg) then
      ab_chk (vp_in x2 16) <|
      ab_chk (vp_in x3 16) <|
      (mi_X2_lackAt M x2 (M.1 t1 (x2).toNatClampNeg) x3 (M.1 t1 (x3).toNatClampNeg)).bind fun q7 =>
      some q7
    else
      some 0

set_option maxHeartbeats 4000000 in
set_option maxRecDepth 100000 in
theorem co_X2_lackOf {l : Launch} {D : va_G} {ac : Nat → ClassId} (M : ab_M) (t1 : Nat) (ht1 : ab_isPlan t1) (x2 : Int32) (x3 : Int32) (z : Int32) (h : mi_X2_lackOf M t1 x2 x3 = some z) : ab_Con l D ac 4 me_X2_lackOf 0 0 [.ref 24, .ref t1, .int x2, .int x3] ab_SH M (some (.int z), ab_SH, M) := by
  refine ab_intro (lv := [some (.ref 24), some (.ref t1), some (.int x2), some (.int x3)]) (by decide) rfl (Nat.le_of_ble_eq_true rfl) rfl ?_
  unfold mi_X2_lackOf at h
  refine ev_aload_n dX2_lackOf_0 rfl ?_
  refine ev_iload_n dX2_lackOf_1 rfl ?_
  obtain ⟨hb1, h⟩ := ab_chk_some h
  refine ev_iaload ht1 hb1 dX2_lackOf_2 ?_
  refine ev_if_lt (t := 12) dX2_lackOf_3 (by decide) (fun hc2 => ?_) (fun hc2 => ?_)
  · replace h := ab_pos hc2 h
    refine ev_iconst (x := 0) dX2_lackOf_12 (by decide) ?_
    refine ev_goto (t := 28) dX2_lackOf_13 (by decide) ?_
    cases h
    exact ev_ireturn rfl dX2_lackOf_28
  · replace h := ab_neg hc2 h
    refine ev_aload_n dX2_lackOf_6 rfl ?_
    refine ev_iload_n dX2_lackOf_7 rfl ?_
    obtain ⟨hb3, h⟩ := ab_chk_some h
    refine ev_iaload ht1 hb3 dX2_lackOf_8 ?_
    refine ev_if_ge (t := 16) dX2_lackOf_9 (by decide) (fun hc4 => ?_) (fun hc4 => ?_)
    · replace h := ab_pos hc4 h
      refine ev_aload_n dX2_lackOf_16 rfl ?_
      refine ev_iload_n dX2_lackOf_17 rfl ?_
      refine ev_aload_n dX2_lackOf_18 rfl ?_
      refine ev_iload_n dX2_lackOf_19 rfl ?_
      obtain ⟨hb5, h⟩ := ab_chk_some h
      refine ev_iaload ht1 hb5 dX2_lackOf_20 ?_
      refine ev_iload_n dX2_lackOf_21 rfl ?_
      refine ev_aload_n dX2_lackOf_22 rfl ?_
      refine ev_iload_n dX2_lackOf_23 rfl ?_
      obtain ⟨hb6, h⟩ := ab_chk_some h
      refine ev_iaload ht1 hb6 dX2_lackOf_24 ?_
      obtain ⟨q7, hv8, h⟩ := ab_bind h
      refine ev_callV (st := []) (co_X2_lackAt M x2 (M.1 t1 (x2).toNatClampNeg) x3 (M.1 t1 (x3).toNatClampNeg) _ hv8) mv_X2_lackAt sh_24 ml_RX2_41 dX2_lackOf_25 (by decide) rfl (Nat.le_of_ble_eq_true rfl) ⟨Nat.le_refl _, Nat.le_refl _⟩ ?_
      cases h
      exact ev_ireturn rfl dX2_lackOf_28
    · replace h := ab_neg hc4 h
      refine ev_iconst (x := 0) dX2_lackOf_12 (by decide) ?_
      refine ev_goto (t := 28) dX2_lackOf_13 (by decide) ?_
      cases h
      exact ev_ireturn rfl dX2_lackOf_28

noncomputable def mi_X2_lacks_20 : Nat → ab_M → Nat → Int32 → Int32 → Int32 → Option (Int32 × Int32)
  | 0, _, _, _, _, _ => none
  | n + 1, M, t1, x2, x3, x4 =>
    if (M.1 1 8) ≤ x4 then
      some (x2, x4)
    else
      (mi_X2_lackOf M t1 x3 x4).bind fun q3 =>
      mi_X2_lacks_20 n M t1 (x2 + q3) x3 (x4 + 1)

set_option maxHeartbeats 4000000 in
set_option maxRecDepth 100000 in
theorem lp_X2_lacks_20 {l : Launch} {D : va_G} {ac : Nat → ClassId} {n0 : Nat} {r : ab_Rs} : ∀ (n : Nat) (M : ab_M) (t1 : Nat) (ht1 : ab_isPlan t1) (x2 : Int32) (x3 : Int32) (x4 : Int32) (q : Int32 × Int32) (h : mi_X2_lacks_20 n M t1 x2 x3 x4 = some q) (kk : ab_Ev l D ac 5 me_X2_lacks n0 0 0 r 0 0 ab_SH 49 [some (.ref 24), some (.ref t1), some (.int q.1), some (.int x3), some (.int q.2)] [] M), ab_Ev l D ac 5 me_X2_lacks n0 0 0 r 0 0 ab_SH 20 [some (.ref 24), some (.ref t1), some (.int x2), some (.int x3), some (.int x4)] [] M := by
  intro n
  induction n with
  | zero =>
    intro M t1 ht1 x2 x3 x4 q h kk
    cases h
  | succ n ih =>
    intro M t1 ht1 x2 x3 x4 q h kk
    unfold mi_X2_lacks_20 at h
    refine ev_iload dX2_lacks_20 rfl ?_
    refine ev_aload_n dX2_lacks_22 rfl ?_
    refine ev_getr (o' := 1) fl_RX2_15 sh_24 (by decide) (by decide) rfl rfl dX2_lacks_23 ?_
    refine ev_geti fl_RX2_19 sh_1 (by decide) (by decide) rfl dX2_lacks_26 ?_
    refine ev_icmp_ge (t := 49) dX2_lacks_29 (by decide) (fun hc2 => ?_) (fun hc2 => ?_)
    · replace h := ab_pos hc2 h
      cases h
      exact kk
    · replace h := ab_neg hc2 h
      refine ev_iload_n dX2_lacks_32 rfl ?_
      refine ev_aload_n dX2_lacks_33 rfl ?_
      refine ev_aload_n dX2_lacks_34 rfl ?_
      refine ev_iload_n dX2_lacks_35 rfl ?_
      refine ev_iload dX2_lacks_36 rfl ?_
      obtain ⟨q3, hv4, h⟩ := ab_bind h
      refine ev_callV (st := [.int x2]) (co_X2_lackOf M t1 ht1 x3 x4 _ hv4) mv_X2_lackOf sh_24 ml_RX2_60 dX2_lacks_38 (by decide) rfl (Nat.le_of_ble_eq_true rfl) ⟨Nat.le_refl _, Nat.le_refl _⟩ ?_
      refine ev_iadd dX2_lacks_41 ?_
      refine ev_istore_n dX2_lacks_42 (Nat.le_of_ble_eq_true rfl) rfl rfl ?_
      refine ev_iinc (y := x4 + 1) dX2_lacks_43 rfl (by first | rfl | decide) rfl rfl ?_
      refine ev_goto (t := 20) dX2_lacks_46 (by decide) ?_
      exact ih M t1 ht1 (x2 + q3) x3 (x4 + 1) _ h kk

noncomputable def mi_X2_lacks_4 : Nat → ab_M → Nat → Int32 → Int32 → Option (Int32 × Int32)
  | 0, _, _, _, _ => none
  | n + 1, M, t1, x2, x3 =>
    if (M.1 1 8) ≤ x3 then
      some (x2, x3)
    else
      (mi_X2_lacks_20 ab_F M t1 x2 x3 (x3 + 1)).bind fun q5 =>
      mi_X2_lacks_4 n M t1 q5.1 (x3 + 1)

set_option maxHeartbeats 4000000 in
set_option maxRecDepth 100000 in
theorem lp_X2_lacks_4 {l : Launch} {D : va_G} {ac : Nat → ClassId} {n0 : Nat} {r : ab_Rs} : ∀ (n : Nat) (M : ab_M) (t1 : Nat) (ht1 : ab_isPlan t1) (x2 : Int32) (x3 : Int32) (q : Int32 × Int32) (h : mi_X2_lacks_4 n M t1 x2 x3 = some q) (kk : ab_Ev l D ac 5 me_X2_lacks n0 0 0 r 0 0 ab_SH 55 [some (.ref 24), some (.ref t1), some (.int q.1), some (.int q.2), none] [] M), ab_Ev l D ac 5 me_X2_lacks n0 0 0 r 0 0 ab_SH 4 [some (.ref 24), some (.ref t1), some (.int x2), some (.int x3), none] [] M := by
  intro n
  induction n with
  | zero =>
    intro M t1 ht1 x2 x3 q h kk
    cases h
  | succ n ih =>
    intro M t1 ht1 x2 x3 q h kk
    unfold mi_X2_lacks_4 at h
    refine ev_iload_n dX2_lacks_4 rfl ?_
    refine ev_aload_n dX2_lacks_5 rfl ?_
    refine ev_getr (o' := 1) fl_RX2_15 sh_24 (by decide) (by decide) rfl rfl dX2_lacks_6 ?_
    refine ev_geti fl_RX2_19 sh_1 (by decide) (by decide) rfl dX2_lacks_9 ?_
    refine ev_icmp_ge (t := 55) dX2_lacks_12 (by decide) (fun hc1 => ?_) (fun hc1 => ?_)
    · replace h := ab_pos hc1 h
      cases h
      exact kk
    · replace h := ab_neg hc1 h
      refine ev_iload_n dX2_lacks_15 rfl ?_
      refine ev_iconst (x := 1) dX2_lacks_16 (by decide) ?_
      refine ev_iadd dX2_lacks_17 ?_
      refine ev_istore dX2_lacks_18 (Nat.le_of_ble_eq_true rfl) rfl rfl ?_
      obtain ⟨q5, hq6, h⟩ := ab_bind h
      refine lp_X2_lacks_20 _ M t1 ht1 x2 x3 (x3 + 1) _ hq6 ?_
      refine ev_iinc (y := x3 + 1) dX2_lacks_49 rfl (by first | rfl | decide) rfl rfl ?_
      refine ev_goto (t := 4) dX2_lacks_52 (by decide) ?_
      refine ev_drop (lv' := [some (.ref 24), some (.ref t1), some (.int q5.1), some (.int (x3 + 1)), none]) (ab_sub_k (ab_sub_k (ab_sub_k (ab_sub_k (ab_sub_d ab_sub_nil))))) ?_
      exact ih M t1 ht1 q5.1 (x3 + 1) _ h kk

noncomputable def mi_X2_lacks (M : ab_M) (t1 : Nat) : Option (Int32) :=
  (mi_X2_lacks_4 ab_F M t1 0 0).bind fun q7 =>
  some q7.1

set_option maxHeartbeats 4000000 in
set_option maxRecDepth 100000 in
theorem co_X2_lacks {l : Launch} {D : va_G} {ac : Nat → ClassId} (M : ab_M) (t1 : Nat) (ht1 : ab_isPlan t1) (z : Int32) (h : mi_X2_lacks M t1 = some z) : ab_Con l D ac 5 me_X2_lacks 0 0 [.ref 24, .ref t1] ab_SH M (some (.int z), ab_SH, M) := by
  refine ab_intro (lv := [some (.ref 24), some (.ref t1), none, none, none]) (by decide) rfl (Nat.le_of_ble_eq_true rfl) rfl ?_
  unfold mi_X2_lacks at h
  refine ev_iconst (x := 0) dX2_lacks_0 (by decide) ?_
  refine ev_istore_n dX2_lacks_1 (Nat.le_of_ble_eq_true rfl) rfl rfl ?_
  refine ev_iconst (x := 0) dX2_lacks_2 (by decide) ?_
  refine ev_istore_n dX2_lacks_3 (Nat.le_of_ble_eq_true rfl) rfl rfl ?_
  obtain ⟨q7, hq8, h⟩ := ab_bind h
  refine lp_X2_lacks_4 _ M t1 ht1 0 0 _ hq8 ?_
  refine ev_iload_n dX2_lacks_55 rfl ?_
  cases h
  exact ev_ireturn rfl dX2_lacks_56

noncomputable def mi_X2_sumTogether (M : ab_M) (t1 : Nat) (x2 : Int32) (x3 : Int32) (x4 : Int32) : Option (Int32) :=
  ab_chk (vp_in x2 16) <|
  if (M.1 t1 (x2).toNatClampNeg) < 0 then
    some 0
  else
    ab_chk (vp_in x3 16) <|
    if (M.1 t1 (x3).toNatClampNeg) < 0 then
      some 0
    else
      ab_chk (vp_in x4 16) <|
      if (M.1 t1 (x4).toNatClampNeg) < 0 then
        some 0
      else
        ab_chk (vp_in x2 16) <|
        ab_chk (vp_in x3 16) <|
        ab_chk (vp_in x4 16) <|
        (mi_X3_areIn M (M.1 3 (x2).toNatClampNeg) (M.1 3 (x3).toNatClampNeg) (M.1 3 (x4).toNatClampNeg)).bind fun q10 =>
        if q10 = 0 then
          some 0
        else
          some 1

set_option maxHeartbeats 4000000 in
set_option maxRecDepth 100000 in
theorem co_X2_sumTogether {l : Launch} {D : va_G} {ac : Nat → ClassId} (M : ab_M) (t1 : Nat) (ht1 : ab_isPlan t1) (x2 : Int32) (x3 : Int32) (x4 : Int32) (z : Int32) (h : mi_X2_sumTogether M t1 x2 x3 x4 = some z) : ab_Con l D ac 2 me_X2_sumTogether 0 0 [.ref 24, .ref t1, .int x2, .int x3, .int x4] ab_SH M (some (.int z), ab_SH, M) := by
  refine ab_intro (lv := [some (.ref 24), some (.ref t1), some (.int x2), some (.int x3), some (.int x4)]) (by decide) rfl (Nat.le_of_ble_eq_true rfl) rfl ?_
  unfold mi_X2_sumTogether at h
  refine ev_aload_n dX2_sumTogether_0 rfl ?_
  refine ev_iload_n dX2_sumTogether_1 rfl ?_
  obtain ⟨hb1, h⟩ := ab_chk_some h
  refine ev_iaload ht1 hb1 dX2_sumTogether_2 ?_
  refine ev_if_lt (t := 61) dX2_sumTogether_3 (by decide) (fun hc2 => ?_) (fun hc2 => ?_)
  · replace h := ab_pos hc2 h
    refine ev_iconst (x := 0) dX2_sumTogether_61 (by decide) ?_
    cases h
    exact ev_zreturn rfl (Or.inl rfl) dX2_sumTogether_62
  · replace h := ab_neg hc2 h
    refine ev_aload_n dX2_sumTogether_6 rfl ?_
    refine ev_iload_n dX2_sumTogether_7 rfl ?_
    obtain ⟨hb3, h⟩ := ab_chk_some h
    refine ev_iaload ht1 hb3 dX2_sumTogether_8 ?_
    refine ev_if_lt (t := 61) dX2_sumTogether_9 (by decide) (fun hc4 => ?_) (fun hc4 => ?_)
    · replace h := ab_pos hc4 h
      refine ev_iconst (x := 0) dX2_sumTogether_61 (by decide) ?_
      cases h
      exact ev_zreturn rfl (Or.inl rfl) dX2_sumTogether_62
    · replace h := ab_neg hc4 h
      refine ev_aload_n dX2_sumTogether_12 rfl ?_
      refine ev_iload dX2_sumTogether_13 rfl ?_
      obtain ⟨hb5, h⟩ := ab_chk_some h
      refine ev_iaload ht1 hb5 dX2_sumTogether_15 ?_
      refine ev_if_lt (t := 61) dX2_sumTogether_16 (by decide) (fun hc6 => ?_) (fun hc6 => ?_)
      · replace h := ab_pos hc6 h
        refine ev_iconst (x := 0) dX2_sumTogether_61 (by decide) ?_
        cases h
        exact ev_zreturn rfl (Or.inl rfl) dX2_sumTogether_62
      · replace h := ab_neg hc6 h
        refine ev_aload_n dX2_sumTogether_19 rfl ?_
        refine ev_getr (o' := 1) fl_RX2_15 sh_24 (by decide) (by decide) rfl rfl dX2_sumTogether_20 ?_
        refine ev_aload_n dX2_sumTogether_23 rfl ?_
        refine ev_getr (o' := 1) fl_RX2_15 sh_24 (by decide) (by decide) rfl rfl dX2_sumTogether_24 ?_
        refine ev_getr (o' := 3) fl_RX2_76 sh_1 (by decide) (by decide) rfl rfl dX2_sumTogether_27 ?_
        refine ev_iload_n dX2_sumTogether_30 rfl ?_
        obtain ⟨hb7, h⟩ := ab_chk_some h
        refine ev_iaload sh_3 hb7 dX2_sumTogether_31 ?_
        refine ev_aload_n dX2_sumTogether_32 rfl ?_
        refine ev_getr (o' := 1) fl_RX2_15 sh_24 (by decide) (by decide) rfl rfl dX2_sumTogether_33 ?_
        refine ev_getr (o' := 3) fl_RX2_76 sh_1 (by decide) (by decide) rfl rfl dX2_sumTogether_36 ?_
        refine ev_iload_n dX2_sumTogether_39 rfl ?_
        obtain ⟨hb8, h⟩ := ab_chk_some h
        refine ev_iaload sh_3 hb8 dX2_sumTogether_40 ?_
        refine ev_aload_n dX2_sumTogether_41 rfl ?_
        refine ev_getr (o' := 1) fl_RX2_15 sh_24 (by decide) (by decide) rfl rfl dX2_sumTogether_42 ?_
        refine ev_getr (o' := 3) fl_RX2_76 sh_1 (by decide) (by decide) rfl rfl dX2_sumTogether_45 ?_
        refine ev_iload dX2_sumTogether_48 rfl ?_
        obtain ⟨hb9, h⟩ := ab_chk_some h
        refine ev_iaload sh_3 hb9 dX2_sumTogether_50 ?_
        obtain ⟨q10, hv11, h⟩ := ab_bind h
        refine ev_callV (st := []) (co_X3_areIn M (M.1 3 (x2).toNatClampNeg) (M.1 3 (x3).toNatClampNeg) (M.1 3 (x4).toNatClampNeg) _ hv11) mv_X3_areIn sh_1 ml_RX2_79 dX2_sumTogether_51 (by decide) rfl (Nat.le_of_ble_eq_true rfl) ⟨Nat.le_refl _, Nat.le_refl _⟩ ?_
        refine ev_if_eq (t := 61) dX2_sumTogether_54 (by decide) (fun hc12 => ?_) (fun hc12 => ?_)
        · replace h := ab_pos hc12 h
          refine ev_iconst (x := 0) dX2_sumTogether_61 (by decide) ?_
          cases h
          exact ev_zreturn rfl (Or.inl rfl) dX2_sumTogether_62
        · replace h := ab_neg hc12 h
          refine ev_iconst (x := 1) dX2_sumTogether_57 (by decide) ?_
          refine ev_goto (t := 62) dX2_sumTogether_58 (by decide) ?_
          cases h
          exact ev_zreturn rfl (Or.inr rfl) dX2_sumTogether_62

noncomputable def mi_X2_sumsOfThree_72 : Nat → ab_M → Nat → Int32 → Int32 → Int32 → Int32 → Int32 → Int32 → Int32 → Int32 → Int32 → Int32 → Option (Int32 × Int32)
  | 0, _, _, _, _, _, _, _, _, _, _, _, _ => none
  | n + 1, M, t1, x2, x3, x4, x5, x6, x7, x8, x9, x10, x11 =>
    ab_chk (vp_in x4 16) <|
    if ((M.1 t1 (x4).toNatClampNeg) + x8) < x11 then
      some (x5, x11)
    else
      ((if (x10 + x11) = ((2 : Int32) * x9) then
        some 1
      else
        some 0) : Option (Int32)).bind fun q16 =>
      ((if (x9 + x11) = ((2 : Int32) * x10) then
        some 1
      else
        some 0) : Option (Int32)).bind fun q20 =>
      ((if (x9 + x10) = ((2 : Int32) * x11) then
        some 1
      else
        some 0) : Option (Int32)).bind fun q24 =>
      mi_X2_sumsOfThree_72 n M t1 x2 x3 x4 (((x5 + q16) + q20) + q24) x6 x7 x8 x9 x10 (x11 + (ab_max 1 x8))

set_option maxHeartbeats 4000000 in
set_option maxRecDepth 100000 in
theorem lp_X2_sumsOfThree_72 {l : Launch} {D : va_G} {ac : Nat → ClassId} {n0 : Nat} {r : ab_Rs} : ∀ (n : Nat) (M : ab_M) (t1 : Nat) (ht1 : ab_isPlan t1) (x2 : Int32) (x3 : Int32) (x4 : Int32) (x5 : Int32) (x6 : Int32) (x7 : Int32) (x8 : Int32) (x9 : Int32) (x10 : Int32) (x11 : Int32) (q : Int32 × Int32) (h : mi_X2_sumsOfThree_72 n M t1 x2 x3 x4 x5 x6 x7 x8 x9 x10 x11 = some q) (kk : ab_Ev l D ac 2 me_X2_sumsOfThree n0 0 0 r 0 0 ab_SH 164 [some (.ref 24), some (.ref t1), some (.int x2), some (.int x3), some (.int x4), some (.int q.1), some (.int x6), some (.int x7), some (.int x8), some (.int x9), some (.int x10), some (.int q.2)] [] M), ab_Ev l D ac 2 me_X2_sumsOfThree n0 0 0 r 0 0 ab_SH 72 [some (.ref 24), some (.ref t1), some (.int x2), some (.int x3), some (.int x4), some (.int x5), some (.int x6), some (.int x7), some (.int x8), some (.int x9), some (.int x10), some (.int x11)] [] M := by
  intro n
  induction n with
  | zero =>
    intro M t1 ht1 x2 x3 x4 x5 x6 x7 x8 x9 x10 x11 q h kk
    cases h
  | succ n ih =>
    intro M t1 ht1 x2 x3 x4 x5 x6 x7 x8 x9 x10 x11 q h kk
    unfold mi_X2_sumsOfThree_72 at h
    refine ev_iload dX2_sumsOfThree_72 rfl ?_
    refine ev_aload_n dX2_sumsOfThree_74 rfl ?_
    refine ev_iload dX2_sumsOfThree_75 rfl ?_
    obtain ⟨hb14, h⟩ := ab_chk_some h
    refine ev_iaload ht1 hb14 dX2_sumsOfThree_77 ?_
    refine ev_iload dX2_sumsOfThree_78 rfl ?_
    refine ev_iadd dX2_sumsOfThree_80 ?_
    refine ev_icmp_gt (t := 164) dX2_sumsOfThree_81 (by decide) (fun hc15 => ?_) (fun hc15 => ?_)
    · replace h := ab_pos hc15 h
      cases h
      exact kk
    · replace h := ab_neg hc15 h
      refine ev_iload dX2_sumsOfThree_84 rfl ?_
      refine ev_iload dX2_sumsOfThree_86 rfl ?_
      refine ev_iload dX2_sumsOfThree_88 rfl ?_
      refine ev_iadd dX2_sumsOfThree_90 ?_
      refine ev_iconst (x := 2) dX2_sumsOfThree_91 (by decide) ?_
      refine ev_iload dX2_sumsOfThree_92 rfl ?_
      refine ev_imul dX2_sumsOfThree_94 ?_
      obtain ⟨q16, hq17, h⟩ := ab_bind h
      have hJ18 : ab_Ev l D ac 2 me_X2_sumsOfThree n0 0 0 r 0 0 ab_SH 103 [some (.ref 24), some (.ref t1), some (.int x2), some (.int x3), some (.int x4), some (.int x5), some (.int x6), some (.int x7), some (.int x8), some (.int x9), some (.int x10), some (.int x11)] [.int q16, .int x5] M := by
        refine ev_iadd dX2_sumsOfThree_103 ?_
        refine ev_istore dX2_sumsOfThree_104 (Nat.le_of_ble_eq_true rfl) rfl rfl ?_
        refine ev_iload dX2_sumsOfThree_106 rfl ?_
        refine ev_iload dX2_sumsOfThree_108 rfl ?_
        refine ev_iload dX2_sumsOfThree_110 rfl ?_
        refine ev_iadd dX2_sumsOfThree_112 ?_
        refine ev_iconst (x := 2) dX2_sumsOfThree_113 (by decide) ?_
        refine ev_iload dX2_sumsOfThree_114 rfl ?_
        refine ev_imul dX2_sumsOfThree_116 ?_
        obtain ⟨q20, hq21, h⟩ := ab_bind h
        have hJ22 : ab_Ev l D ac 2 me_X2_sumsOfThree n0 0 0 r 0 0 ab_SH 125 [some (.ref 24), some (.ref t1), some (.int x2), some (.int x3), some (.int x4), some (.int (x5 + q16)), some (.int x6), some (.int x7), some (.int x8), some (.int x9), some (.int x10), some (.int x11)] [.int q20, .int (x5 + q16)] M := by
          refine ev_iadd dX2_sumsOfThree_125 ?_
          refine ev_istore dX2_sumsOfThree_126 (Nat.le_of_ble_eq_true rfl) rfl rfl ?_
          refine ev_iload dX2_sumsOfThree_128 rfl ?_
          refine ev_iload dX2_sumsOfThree_130 rfl ?_
          refine ev_iload dX2_sumsOfThree_132 rfl ?_
          refine ev_iadd dX2_sumsOfThree_134 ?_
          refine ev_iconst (x := 2) dX2_sumsOfThree_135 (by decide) ?_
          refine ev_iload dX2_sumsOfThree_136 rfl ?_
          refine ev_imul dX2_sumsOfThree_138 ?_
          obtain ⟨q24, hq25, h⟩ := ab_bind h
          have hJ26 : ab_Ev l D ac 2 me_X2_sumsOfThree n0 0 0 r 0 0 ab_SH 147 [some (.ref 24), some (.ref t1), some (.int x2), some (.int x3), some (.int x4), some (.int ((x5 + q16) + q20)), some (.int x6), some (.int x7), some (.int x8), some (.int x9), some (.int x10), some (.int x11)] [.int q24, .int ((x5 + q16) + q20)] M := by
            refine ev_iadd dX2_sumsOfThree_147 ?_
            refine ev_istore dX2_sumsOfThree_148 (Nat.le_of_ble_eq_true rfl) rfl rfl ?_
            refine ev_iload dX2_sumsOfThree_150 rfl ?_
            refine ev_iconst (x := 1) dX2_sumsOfThree_152 (by decide) ?_
            refine ev_iload dX2_sumsOfThree_153 rfl ?_
            refine ev_max ml_RX2_57 dX2_sumsOfThree_155 (by decide) (Nat.le_of_ble_eq_true rfl) ⟨Nat.le_refl _, Nat.le_refl _⟩ ?_
            refine ev_iadd dX2_sumsOfThree_158 ?_
            refine ev_istore dX2_sumsOfThree_159 (Nat.le_of_ble_eq_true rfl) rfl rfl ?_
            refine ev_goto (t := 72) dX2_sumsOfThree_161 (by decide) ?_
            exact ih M t1 ht1 x2 x3 x4 (((x5 + q16) + q20) + q24) x6 x7 x8 x9 x10 (x11 + (ab_max 1 x8)) _ h kk
          refine ev_icmp_ne (t := 146) dX2_sumsOfThree_139 (by decide) (fun hc27 => ?_) (fun hc27 => ?_)
          · replace hq25 := ab_neg hc27 hq25
            refine ev_iconst (x := 0) dX2_sumsOfThree_146 (by decide) ?_
            cases hq25
            exact hJ26
          · replace hq25 := ab_pos hc27 hq25
            refine ev_iconst (x := 1) dX2_sumsOfThree_142 (by decide) ?_
            refine ev_goto (t := 147) dX2_sumsOfThree_143 (by decide) ?_
            cases hq25
            exact hJ26
        refine ev_icmp_ne (t := 124) dX2_sumsOfThree_117 (by decide) (fun hc23 => ?_) (fun hc23 => ?_)
        · replace hq21 := ab_neg hc23 hq21
          refine ev_iconst (x := 0) dX2_sumsOfThree_124 (by decide) ?_
          cases hq21
          exact hJ22
        · replace hq21 := ab_pos hc23 hq21
          refine ev_iconst (x := 1) dX2_sumsOfThree_120 (by decide) ?_
          refine ev_goto (t := 125) dX2_sumsOfThree_121 (by decide) ?_
          cases hq21
          exact hJ22
      refine ev_icmp_ne (t := 102) dX2_sumsOfThree_95 (by decide) (fun hc19 => ?_) (fun hc19 => ?_)
      · replace hq17 := ab_neg hc19 hq17
        refine ev_iconst (x := 0) dX2_sumsOfThree_102 (by decide) ?_
        cases hq17
        exact hJ18
      · replace hq17 := ab_pos hc19 hq17
        refine ev_iconst (x := 1) dX2_sumsOfThree_98 (by decide) ?_
        refine ev_goto (t := 103) dX2_sumsOfThree_99 (by decide) ?_
        cases hq17
        exact hJ18

noncomputable def mi_X2_sumsOfThree_55 : Nat → ab_M → Nat → Int32 → Int32 → Int32 → Int32 → Int32 → Int32 → Int32 → Int32 → Int32 → Option (Int32 × Int32)
  | 0, _, _, _, _, _, _, _, _, _, _, _ => none
  | n + 1, M, t1, x2, x3, x4, x5, x6, x7, x8, x9, x10 =>
    ab_chk (vp_in x3 16) <|
    if ((M.1 t1 (x3).toNatClampNeg) + x7) < x10 then
      some (x5, x10)
    else
      ab_chk (vp_in x4 16) <|
      (mi_X2_sumsOfThree_72 ab_F M t1 x2 x3 x4 x5 x6 x7 x8 x9 x10 (M.1 t1 (x4).toNatClampNeg)).bind fun q28 =>
      mi_X2_sumsOfThree_55 n M t1 x2 x3 x4 q28.1 x6 x7 x8 x9 (x10 + (ab_max 1 x7))

set_option maxHeartbeats 4000000 in
set_option maxRecDepth 100000 in
theorem lp_X2_sumsOfThree_55 {l : Launch} {D : va_G} {ac : Nat → ClassId} {n0 : Nat} {r : ab_Rs} : ∀ (n : Nat) (M : ab_M) (t1 : Nat) (ht1 : ab_isPlan t1) (x2 : Int32) (x3 : Int32) (x4 : Int32) (x5 : Int32) (x6 : Int32) (x7 : Int32) (x8 : Int32) (x9 : Int32) (x10 : Int32) (q : Int32 × Int32) (h : mi_X2_sumsOfThree_55 n M t1 x2 x3 x4 x5 x6 x7 x8 x9 x10 = some q) (kk : ab_Ev l D ac 2 me_X2_sumsOfThree n0 0 0 r 0 0 ab_SH 178 [some (.ref 24), some (.ref t1), some (.int x2), some (.int x3), some (.int x4), some (.int q.1), some (.int x6), some (.int x7), some (.int x8), some (.int x9), some (.int q.2), none] [] M), ab_Ev l D ac 2 me_X2_sumsOfThree n0 0 0 r 0 0 ab_SH 55 [some (.ref 24), some (.ref t1), some (.int x2), some (.int x3), some (.int x4), some (.int x5), some (.int x6), some (.int x7), some (.int x8), some (.int x9), some (.int x10), none] [] M := by
  intro n
  induction n with
  | zero =>
    intro M t1 ht1 x2 x3 x4 x5 x6 x7 x8 x9 x10 q h kk
    cases h
  | succ n ih =>
    intro M t1 ht1 x2 x3 x4 x5 x6 x7 x8 x9 x10 q h kk
    unfold mi_X2_sumsOfThree_55 at h
    refine ev_iload dX2_sumsOfThree_55 rfl ?_
    refine ev_aload_n dX2_sumsOfThree_57 rfl ?_
    refine ev_iload_n dX2_sumsOfThree_58 rfl ?_
    obtain ⟨hb11, h⟩ := ab_chk_some h
    refine ev_iaload ht1 hb11 dX2_sumsOfThree_59 ?_
    refine ev_iload dX2_sumsOfThree_60 rfl ?_
    refine ev_iadd dX2_sumsOfThree_62 ?_
    refine ev_icmp_gt (t := 178) dX2_sumsOfThree_63 (by decide) (fun hc12 => ?_) (fun hc12 => ?_)
    · replace h := ab_pos hc12 h
      cases h
      exact kk
    · replace h := ab_neg hc12 h
      refine ev_aload_n dX2_sumsOfThree_66 rfl ?_
      refine ev_iload dX2_sumsOfThree_67 rfl ?_
      obtain ⟨hb13, h⟩ := ab_chk_some h
      refine ev_iaload ht1 hb13 dX2_sumsOfThree_69 ?_
      refine ev_istore dX2_sumsOfThree_70 (Nat.le_of_ble_eq_true rfl) rfl rfl ?_
      obtain ⟨q28, hq29, h⟩ := ab_bind h
      refine lp_X2_sumsOfThree_72 _ M t1 ht1 x2 x3 x4 x5 x6 x7 x8 x9 x10 (M.1 t1 (x4).toNatClampNeg) _ hq29 ?_
      refine ev_iload dX2_sumsOfThree_164 rfl ?_
      refine ev_iconst (x := 1) dX2_sumsOfThree_166 (by decide) ?_
      refine ev_iload dX2_sumsOfThree_167 rfl ?_
      refine ev_max ml_RX2_57 dX2_sumsOfThree_169 (by decide) (Nat.le_of_ble_eq_true rfl) ⟨Nat.le_refl _, Nat.le_refl _⟩ ?_
      refine ev_iadd dX2_sumsOfThree_172 ?_
      refine ev_istore dX2_sumsOfThree_173 (Nat.le_of_ble_eq_true rfl) rfl rfl ?_
      refine ev_goto (t := 55) dX2_sumsOfThree_175 (by decide) ?_
      refine ev_drop (lv' := [some (.ref 24), some (.ref t1), some (.int x2), some (.int x3), some (.int x4), some (.int q28.1), some (.int x6), some (.int x7), some (.int x8), some (.int x9), some (.int (x10 + (ab_max 1 x7))), none]) (ab_sub_k (ab_sub_k (ab_sub_k (ab_sub_k (ab_sub_k (ab_sub_k (ab_sub_k (ab_sub_k (ab_sub_k (ab_sub_k (ab_sub_k (ab_sub_d ab_sub_nil)))))))))))) ?_
      exact ih M t1 ht1 x2 x3 x4 q28.1 x6 x7 x8 x9 (x10 + (ab_max 1 x7)) _ h kk

noncomputable def mi_X2_sumsOfThree_39 : Nat → ab_M → Nat → Int32 → Int32 → Int32 → Int32 → Int32 → Int32 → Int32 → Int32 → Option (Int32 × Int32)
  | 0, _, _, _, _, _, _, _, _, _, _ => none
  | n + 1, M, t1, x2, x3, x4, x5, x6, x7, x8, x9 =>
    ab_chk (vp_in x2 16) <|
    if ((M.1 t1 (x2).toNatClampNeg) + x6) < x9 then
      some (x5, x9)
    else
      ab_chk (vp_in x3 16) <|
      (mi_X2_sumsOfThree_55 ab_F M t1 x2 x3 x4 x5 x6 x7 x8 x9 (M.1 t1 (x3).toNatClampNeg)).bind fun q30 =>
      mi_X2_sumsOfThree_39 n M t1 x2 x3 x4 q30.1 x6 x7 x8 (x9 + (ab_max 1 x6))

set_option maxHeartbeats 4000000 in
set_option maxRecDepth 100000 in
theorem lp_X2_sumsOfThree_39 {l : Launch} {D : va_G} {ac : Nat → ClassId} {n0 : Nat} {r : ab_Rs} : ∀ (n : Nat) (M : ab_M) (t1 : Nat) (ht1 : ab_isPlan t1) (x2 : Int32) (x3 : Int32) (x4 : Int32) (x5 : Int32) (x6 : Int32) (x7 : Int32) (x8 : Int32) (x9 : Int32) (q : Int32 × Int32) (h : mi_X2_sumsOfThree_39 n M t1 x2 x3 x4 x5 x6 x7 x8 x9 = some q) (kk : ab_Ev l D ac 2 me_X2_sumsOfThree n0 0 0 r 0 0 ab_SH 192 [some (.ref 24), some (.ref t1), some (.int x2), some (.int x3), some (.int x4), some (.int q.1), some (.int x6), some (.int x7), some (.int x8), some (.int q.2), none, none] [] M), ab_Ev l D ac 2 me_X2_sumsOfThree n0 0 0 r 0 0 ab_SH 39 [some (.ref 24), some (.ref t1), some (.int x2), some (.int x3), some (.int x4), some (.int x5), some (.int x6), some (.int x7), some (.int x8), some (.int x9), none, none] [] M := by
  intro n
  induction n with
  | zero =>
    intro M t1 ht1 x2 x3 x4 x5 x6 x7 x8 x9 q h kk
    cases h
  | succ n ih =>
    intro M t1 ht1 x2 x3 x4 x5 x6 x7 x8 x9 q h kk
    unfold mi_X2_sumsOfThree_39 at h
    refine ev_iload dX2_sumsOfThree_39 rfl ?_
    refine ev_aload_n dX2_sumsOfThree_41 rfl ?_
    refine ev_iload_n dX2_sumsOfThree_42 rfl ?_
    obtain ⟨hb8, h⟩ := ab_chk_some h
    refine ev_iaload ht1 hb8 dX2_sumsOfThree_43 ?_
    refine ev_iload dX2_sumsOfThree_44 rfl ?_
    refine ev_iadd dX2_sumsOfThree_46 ?_
    refine ev_icmp_gt (t := 192) dX2_sumsOfThree_47 (by decide) (fun hc9 => ?_) (fun hc9 => ?_)
    · replace h := ab_pos hc9 h
      cases h
      exact kk
    · replace h := ab_neg hc9 h
      refine ev_aload_n dX2_sumsOfThree_50 rfl ?_
      refine ev_iload_n dX2_sumsOfThree_51 rfl ?_
      obtain ⟨hb10, h⟩ := ab_chk_some h
      refine ev_iaload ht1 hb10 dX2_sumsOfThree_52 ?_
      refine ev_istore dX2_sumsOfThree_53 (Nat.le_of_ble_eq_true rfl) rfl rfl ?_
      obtain ⟨q30, hq31, h⟩ := ab_bind h
      refine lp_X2_sumsOfThree_55 _ M t1 ht1 x2 x3 x4 x5 x6 x7 x8 x9 (M.1 t1 (x3).toNatClampNeg) _ hq31 ?_
      refine ev_iload dX2_sumsOfThree_178 rfl ?_
      refine ev_iconst (x := 1) dX2_sumsOfThree_180 (by decide) ?_
      refine ev_iload dX2_sumsOfThree_181 rfl ?_
      refine ev_max ml_RX2_57 dX2_sumsOfThree_183 (by decide) (Nat.le_of_ble_eq_true rfl) ⟨Nat.le_refl _, Nat.le_refl _⟩ ?_
      refine ev_iadd dX2_sumsOfThree_186 ?_
      refine ev_istore dX2_sumsOfThree_187 (Nat.le_of_ble_eq_true rfl) rfl rfl ?_
      refine ev_goto (t := 39) dX2_sumsOfThree_189 (by decide) ?_
      refine ev_drop (lv' := [some (.ref 24), some (.ref t1), some (.int x2), some (.int x3), some (.int x4), some (.int q30.1), some (.int x6), some (.int x7), some (.int x8), some (.int (x9 + (ab_max 1 x6))), none, none]) (ab_sub_k (ab_sub_k (ab_sub_k (ab_sub_k (ab_sub_k (ab_sub_k (ab_sub_k (ab_sub_k (ab_sub_k (ab_sub_k (ab_sub_d (ab_sub_k ab_sub_nil)))))))))))) ?_
      exact ih M t1 ht1 x2 x3 x4 q30.1 x6 x7 x8 (x9 + (ab_max 1 x6)) _ h kk

noncomputable def mi_X2_sumsOfThree (M : ab_M) (t1 : Nat) (x2 : Int32) (x3 : Int32) (x4 : Int32) : Option (Int32) :=
  (mi_X3_gapOf M x2).bind fun q1 =>
  (mi_X3_gapOf M x3).bind fun q3 =>
  (mi_X3_gapOf M x4).bind fun q5 =>
  ab_chk (vp_in x2 16) <|
  (mi_X2_sumsOfThree_39 ab_F M t1 x2 x3 x4 0 q1 q3 q5 (M.1 t1 (x2).toNatClampNeg)).bind fun q32 =>
  some q32.1

set_option maxHeartbeats 4000000 in
set_option maxRecDepth 100000 in
theorem co_X2_sumsOfThree {l : Launch} {D : va_G} {ac : Nat → ClassId} (M : ab_M) (t1 : Nat) (ht1 : ab_isPlan t1) (x2 : Int32) (x3 : Int32) (x4 : Int32) (z : Int32) (h : mi_X2_sumsOfThree M t1 x2 x3 x4 = some z) : ab_Con l D ac 2 me_X2_sumsOfThree 0 0 [.ref 24, .ref t1, .int x2, .int x3, .int x4] ab_SH M (some (.int z), ab_SH, M) := by
  refine ab_intro (lv := [some (.ref 24), some (.ref t1), some (.int x2), some (.int x3), some (.int x4), none, none, none, none, none, none, none]) (by decide) rfl (Nat.le_of_ble_eq_true rfl) rfl ?_
  unfold mi_X2_sumsOfThree at h
  refine ev_iconst (x := 0) dX2_sumsOfThree_0 (by decide) ?_
  refine ev_istore dX2_sumsOfThree_1 (Nat.le_of_ble_eq_true rfl) rfl rfl ?_
  refine ev_aload_n dX2_sumsOfThree_3 rfl ?_
  refine ev_getr (o' := 1) fl_RX2_15 sh_24 (by decide) (by decide) rfl rfl dX2_sumsOfThree_4 ?_
  refine ev_iload_n dX2_sumsOfThree_7 rfl ?_
  obtain ⟨q1, hv2, h⟩ := ab_bind h
  refine ev_callV (st := []) (co_X3_gapOf M x2 _ hv2) mv_X3_gapOf sh_1 ml_RX2_49 dX2_sumsOfThree_8 (by decide) rfl (Nat.le_of_ble_eq_true rfl) ⟨Nat.le_refl _, Nat.le_refl _⟩ ?_
  refine ev_istore dX2_sumsOfThree_11 (Nat.le_of_ble_eq_true rfl) rfl rfl ?_
  refine ev_aload_n dX2_sumsOfThree_13 rfl ?_
  refine ev_getr (o' := 1) fl_RX2_15 sh_24 (by decide) (by decide) rfl rfl dX2_sumsOfThree_14 ?_
  refine ev_iload_n dX2_sumsOfThree_17 rfl ?_
  obtain ⟨q3, hv4, h⟩ := ab_bind h
  refine ev_callV (st := []) (co_X3_gapOf M x3 _ hv4) mv_X3_gapOf sh_1 ml_RX2_49 dX2_sumsOfThree_18 (by decide) rfl (Nat.le_of_ble_eq_true rfl) ⟨Nat.le_refl _, Nat.le_refl _⟩ ?_
  refine ev_istore dX2_sumsOfThree_21 (Nat.le_of_ble_eq_true rfl) rfl rfl ?_
  refine ev_aload_n dX2_sumsOfThree_23 rfl ?_
  refine ev_getr (o' := 1) fl_RX2_15 sh_24 (by decide) (by decide) rfl rfl dX2_sumsOfThree_24 ?_
  refine ev_iload dX2_sumsOfThree_27 rfl ?_
  obtain ⟨q5, hv6, h⟩ := ab_bind h
  refine ev_callV (st := []) (co_X3_gapOf M x4 _ hv6) mv_X3_gapOf sh_1 ml_RX2_49 dX2_sumsOfThree_29 (by decide) rfl (Nat.le_of_ble_eq_true rfl) ⟨Nat.le_refl _, Nat.le_refl _⟩ ?_
  refine ev_istore dX2_sumsOfThree_32 (Nat.le_of_ble_eq_true rfl) rfl rfl ?_
  refine ev_aload_n dX2_sumsOfThree_34 rfl ?_
  refine ev_iload_n dX2_sumsOfThree_35 rfl ?_
  obtain ⟨hb7, h⟩ := ab_chk_some h
  refine ev_iaload ht1 hb7 dX2_sumsOfThree_36 ?_
  refine ev_istore dX2_sumsOfThree_37 (Nat.le_of_ble_eq_true rfl) rfl rfl ?_
  obtain ⟨q32, hq33, h⟩ := ab_bind h
  refine lp_X2_sumsOfThree_39 _ M t1 ht1 x2 x3 x4 0 q1 q3 q5 (M.1 t1 (x2).toNatClampNeg) _ hq33 ?_
  refine ev_iload dX2_sumsOfThree_192 rfl ?_
  cases h
  exact ev_ireturn rfl dX2_sumsOfThree_194

noncomputable def mi_X2_sums_64 : Nat → ab_M → Nat → Int32 → Int32 → Int32 → Int32 → Int32 → Option (Int32 × Int32)
  | 0, _, _, _, _, _, _, _ => none
  | n + 1, M, t1, x2, x3, x4, x5, x6 =>
    if x5 ≤ x6 then
      some (x2, x6)
    else
      (mi_X2_sumTogether M t1 x3 x4 x6).bind fun q10 =>
      ((if q10 = 0 then
        some 0
      else
        (mi_X2_sumsOfThree M t1 x3 x4 x6).bind fun q16 =>
        some q16) : Option (Int32)).bind fun q12 =>
      mi_X2_sums_64 n M t1 (x2 + q12) x3 x4 x5 (x6 + 1)

set_option maxHeartbeats 4000000 in
set_option maxRecDepth 100000 in
theorem lp_X2_sums_64 {l : Launch} {D : va_G} {ac : Nat → ClassId} {n0 : Nat} {r : ab_Rs} : ∀ (n : Nat) (M : ab_M) (t1 : Nat) (ht1 : ab_isPlan t1) (x2 : Int32) (x3 : Int32) (x4 : Int32) (x5 : Int32) (x6 : Int32) (q : Int32 × Int32) (h : mi_X2_sums_64 n M t1 x2 x3 x4 x5 x6 = some q) (kk : ab_Ev l D ac 3 me_X2_sums n0 0 0 r 0 0 ab_SH 107 [some (.ref 24), some (.ref t1), some (.int q.1), some (.int x3), some (.int x4), some (.int x5), some (.int q.2)] [] M), ab_Ev l D ac 3 me_X2_sums n0 0 0 r 0 0 ab_SH 64 [some (.ref 24), some (.ref t1), some (.int x2), some (.int x3), some (.int x4), some (.int x5), some (.int x6)] [] M := by
  intro n
  induction n with
  | zero =>
    intro M t1 ht1 x2 x3 x4 x5 x6 q h kk
    cases h
  | succ n ih =>
    intro M t1 ht1 x2 x3 x4 x5 x6 q h kk
    unfold mi_X2_sums_64 at h
    refine ev_iload dX2_sums_64 rfl ?_
    refine ev_iload dX2_sums_66 rfl ?_
    refine ev_icmp_ge (t := 107) dX2_sums_68 (by decide) (fun hc9 => ?_) (fun hc9 => ?_)
    · replace h := ab_pos hc9 h
      cases h
      exact kk
    · replace h := ab_neg hc9 h
      refine ev_iload_n dX2_sums_71 rfl ?_
      refine ev_aload_n dX2_sums_72 rfl ?_
      refine ev_aload_n dX2_sums_73 rfl ?_
      refine ev_iload_n dX2_sums_74 rfl ?_
      refine ev_iload dX2_sums_75 rfl ?_
      refine ev_iload dX2_sums_77 rfl ?_
      obtain ⟨q10, hv11, h⟩ := ab_bind h
      refine ev_callV (st := [.int x2]) (co_X2_sumTogether M t1 ht1 x3 x4 x6 _ hv11) mv_X2_sumTogether sh_24 ml_RX2_68 dX2_sums_79 (by decide) rfl (Nat.le_of_ble_eq_true rfl) ⟨Nat.le_refl _, Nat.le_refl _⟩ ?_
      obtain ⟨q12, hq13, h⟩ := ab_bind h
      have hJ14 : ab_Ev l D ac 3 me_X2_sums n0 0 0 r 0 0 ab_SH 99 [some (.ref 24), some (.ref t1), some (.int x2), some (.int x3), some (.int x4), some (.int x5), some (.int x6)] [.int q12, .int x2] M := by
        refine ev_iadd dX2_sums_99 ?_
        refine ev_istore_n dX2_sums_100 (Nat.le_of_ble_eq_true rfl) rfl rfl ?_
        refine ev_iinc (y := x6 + 1) dX2_sums_101 rfl (by first | rfl | decide) rfl rfl ?_
        refine ev_goto (t := 64) dX2_sums_104 (by decide) ?_
        exact ih M t1 ht1 (x2 + q12) x3 x4 x5 (x6 + 1) _ h kk
      refine ev_if_eq (t := 98) dX2_sums_82 (by decide) (fun hc15 => ?_) (fun hc15 => ?_)
      · replace hq13 := ab_pos hc15 hq13
        refine ev_iconst (x := 0) dX2_sums_98 (by decide) ?_
        cases hq13
        exact hJ14
      · replace hq13 := ab_neg hc15 hq13
        refine ev_aload_n dX2_sums_85 rfl ?_
        refine ev_aload_n dX2_sums_86 rfl ?_
        refine ev_iload_n dX2_sums_87 rfl ?_
        refine ev_iload dX2_sums_88 rfl ?_
        refine ev_iload dX2_sums_90 rfl ?_
        obtain ⟨q16, hv17, hq13⟩ := ab_bind hq13
        refine ev_callV (st := [.int x2]) (co_X2_sumsOfThree M t1 ht1 x3 x4 x6 _ hv17) mv_X2_sumsOfThree sh_24 ml_RX2_72 dX2_sums_92 (by decide) rfl (Nat.le_of_ble_eq_true rfl) ⟨Nat.le_refl _, Nat.le_refl _⟩ ?_
        refine ev_goto (t := 99) dX2_sums_95 (by decide) ?_
        cases hq13
        exact hJ14

noncomputable def mi_X2_sums_20 : Nat → ab_M → Nat → Int32 → Int32 → Int32 → Option (Int32 × Int32)
  | 0, _, _, _, _, _ => none
  | n + 1, M, t1, x2, x3, x4 =>
    if (M.1 1 8) ≤ x4 then
      some (x2, x4)
    else
      (mi_X3_areNear M x3 x4).bind fun q3 =>
      ((if q3 = 0 then
        some 0
      else
        some (M.1 1 8)) : Option (Int32)).bind fun q5 =>
      (mi_X2_sums_64 ab_F M t1 x2 x3 x4 q5 (x4 + 1)).bind fun q18 =>
      mi_X2_sums_20 n M t1 q18.1 x3 (x4 + 1)

set_option maxHeartbeats 4000000 in
set_option maxRecDepth 100000 in
theorem lp_X2_sums_20 {l : Launch} {D : va_G} {ac : Nat → ClassId} {n0 : Nat} {r : ab_Rs} : ∀ (n : Nat) (M : ab_M) (t1 : Nat) (ht1 : ab_isPlan t1) (x2 : Int32) (x3 : Int32) (x4 : Int32) (q : Int32 × Int32) (h : mi_X2_sums_20 n M t1 x2 x3 x4 = some q) (kk : ab_Ev l D ac 3 me_X2_sums n0 0 0 r 0 0 ab_SH 113 [some (.ref 24), some (.ref t1), some (.int q.1), some (.int x3), some (.int q.2), none, none] [] M), ab_Ev l D ac 3 me_X2_sums n0 0 0 r 0 0 ab_SH 20 [some (.ref 24), some (.ref t1), some (.int x2), some (.int x3), some (.int x4), none, none] [] M := by
  intro n
  induction n with
  | zero =>
    intro M t1 ht1 x2 x3 x4 q h kk
    cases h
  | succ n ih =>
    intro M t1 ht1 x2 x3 x4 q h kk
    unfold mi_X2_sums_20 at h
    refine ev_iload dX2_sums_20 rfl ?_
    refine ev_aload_n dX2_sums_22 rfl ?_
    refine ev_getr (o' := 1) fl_RX2_15 sh_24 (by decide) (by decide) rfl rfl dX2_sums_23 ?_
    refine ev_geti fl_RX2_19 sh_1 (by decide) (by decide) rfl dX2_sums_26 ?_
    refine ev_icmp_ge (t := 113) dX2_sums_29 (by decide) (fun hc2 => ?_) (fun hc2 => ?_)
    · replace h := ab_pos hc2 h
      cases h
      exact kk
    · replace h := ab_neg hc2 h
      refine ev_aload_n dX2_sums_32 rfl ?_
      refine ev_getr (o' := 1) fl_RX2_15 sh_24 (by decide) (by decide) rfl rfl dX2_sums_33 ?_
      refine ev_iload_n dX2_sums_36 rfl ?_
      refine ev_iload dX2_sums_37 rfl ?_
      obtain ⟨q3, hv4, h⟩ := ab_bind h
      refine ev_callV (st := []) (co_X3_areNear M x3 x4 _ hv4) mv_X3_areNear sh_1 ml_RX2_64 dX2_sums_39 (by decide) rfl (Nat.le_of_ble_eq_true rfl) ⟨Nat.le_refl _, Nat.le_refl _⟩ ?_
      obtain ⟨q5, hq6, h⟩ := ab_bind h
      have hJ7 : ab_Ev l D ac 3 me_X2_sums n0 0 0 r 0 0 ab_SH 56 [some (.ref 24), some (.ref t1), some (.int x2), some (.int x3), some (.int x4), none, none] [.int q5] M := by
        refine ev_istore dX2_sums_56 (Nat.le_of_ble_eq_true rfl) rfl rfl ?_
        refine ev_iload dX2_sums_58 rfl ?_
        refine ev_iconst (x := 1) dX2_sums_60 (by decide) ?_
        refine ev_iadd dX2_sums_61 ?_
        refine ev_istore dX2_sums_62 (Nat.le_of_ble_eq_true rfl) rfl rfl ?_
        obtain ⟨q18, hq19, h⟩ := ab_bind h
        refine lp_X2_sums_64 _ M t1 ht1 x2 x3 x4 q5 (x4 + 1) _ hq19 ?_
        refine ev_iinc (y := x4 + 1) dX2_sums_107 rfl (by first | rfl | decide) rfl rfl ?_
        refine ev_goto (t := 20) dX2_sums_110 (by decide) ?_
        refine ev_drop (lv' := [some (.ref 24), some (.ref t1), some (.int q18.1), some (.int x3), some (.int (x4 + 1)), none, none]) (ab_sub_k (ab_sub_k (ab_sub_k (ab_sub_k (ab_sub_k (ab_sub_d (ab_sub_d ab_sub_nil))))))) ?_
        exact ih M t1 ht1 q18.1 x3 (x4 + 1) _ h kk
      refine ev_if_eq (t := 55) dX2_sums_42 (by decide) (fun hc8 => ?_) (fun hc8 => ?_)
      · replace hq6 := ab_pos hc8 hq6
        refine ev_iconst (x := 0) dX2_sums_55 (by decide) ?_
        cases hq6
        exact hJ7
      · replace hq6 := ab_neg hc8 hq6
        refine ev_aload_n dX2_sums_45 rfl ?_
        refine ev_getr (o' := 1) fl_RX2_15 sh_24 (by decide) (by decide) rfl rfl dX2_sums_46 ?_
        refine ev_geti fl_RX2_19 sh_1 (by decide) (by decide) rfl dX2_sums_49 ?_
        refine ev_goto (t := 56) dX2_sums_52 (by decide) ?_
        cases hq6
        exact hJ7

noncomputable def mi_X2_sums_4 : Nat → ab_M → Nat → Int32 → Int32 → Option (Int32 × Int32)
  | 0, _, _, _, _ => none
  | n + 1, M, t1, x2, x3 =>
    if (M.1 1 8) ≤ x3 then
      some (x2, x3)
    else
      (mi_X2_sums_20 ab_F M t1 x2 x3 (x3 + 1)).bind fun q20 =>
      mi_X2_sums_4 n M t1 q20.1 (x3 + 1)

set_option maxHeartbeats 4000000 in
set_option maxRecDepth 100000 in
theorem lp_X2_sums_4 {l : Launch} {D : va_G} {ac : Nat → ClassId} {n0 : Nat} {r : ab_Rs} : ∀ (n : Nat) (M : ab_M) (t1 : Nat) (ht1 : ab_isPlan t1) (x2 : Int32) (x3 : Int32) (q : Int32 × Int32) (h : mi_X2_sums_4 n M t1 x2 x3 = some q) (kk : ab_Ev l D ac 3 me_X2_sums n0 0 0 r 0 0 ab_SH 119 [some (.ref 24), some (.ref t1), some (.int q.1), some (.int q.2), none, none, none] [] M), ab_Ev l D ac 3 me_X2_sums n0 0 0 r 0 0 ab_SH 4 [some (.ref 24), some (.ref t1), some (.int x2), some (.int x3), none, none, none] [] M := by
  intro n
  induction n with
  | zero =>
    intro M t1 ht1 x2 x3 q h kk
    cases h
  | succ n ih =>
    intro M t1 ht1 x2 x3 q h kk
    unfold mi_X2_sums_4 at h
    refine ev_iload_n dX2_sums_4 rfl ?_
    refine ev_aload_n dX2_sums_5 rfl ?_
    refine ev_getr (o' := 1) fl_RX2_15 sh_24 (by decide) (by decide) rfl rfl dX2_sums_6 ?_
    refine ev_geti fl_RX2_19 sh_1 (by decide) (by decide) rfl dX2_sums_9 ?_
    refine ev_icmp_ge (t := 119) dX2_sums_12 (by decide) (fun hc1 => ?_) (fun hc1 => ?_)
    · replace h := ab_pos hc1 h
      cases h
      exact kk
    · replace h := ab_neg hc1 h
      refine ev_iload_n dX2_sums_15 rfl ?_
      refine ev_iconst (x := 1) dX2_sums_16 (by decide) ?_
      refine ev_iadd dX2_sums_17 ?_
      refine ev_istore dX2_sums_18 (Nat.le_of_ble_eq_true rfl) rfl rfl ?_
      obtain ⟨q20, hq21, h⟩ := ab_bind h
      refine lp_X2_sums_20 _ M t1 ht1 x2 x3 (x3 + 1) _ hq21 ?_
      refine ev_iinc (y := x3 + 1) dX2_sums_113 rfl (by first | rfl | decide) rfl rfl ?_
      refine ev_goto (t := 4) dX2_sums_116 (by decide) ?_
      refine ev_drop (lv' := [some (.ref 24), some (.ref t1), some (.int q20.1), some (.int (x3 + 1)), none, none, none]) (ab_sub_k (ab_sub_k (ab_sub_k (ab_sub_k (ab_sub_d (ab_sub_k (ab_sub_k ab_sub_nil))))))) ?_
      exact ih M t1 ht1 q20.1 (x3 + 1) _ h kk

noncomputable def mi_X2_sums (M : ab_M) (t1 : Nat) : Option (Int32) :=
  (mi_X2_sums_4 ab_F M t1 0 0).bind fun q22 =>
  some q22.1

set_option maxHeartbeats 4000000 in
set_option maxRecDepth 100000 in
theorem co_X2_sums {l : Launch} {D : va_G} {ac : Nat → ClassId} (M : ab_M) (t1 : Nat) (ht1 : ab_isPlan t1) (z : Int32) (h : mi_X2_sums M t1 = some z) : ab_Con l D ac 3 me_X2_sums 0 0 [.ref 24, .ref t1] ab_SH M (some (.int z), ab_SH, M) := by
  refine ab_intro (lv := [some (.ref 24), some (.ref t1), none, none, none, none, none]) (by decide) rfl (Nat.le_of_ble_eq_true rfl) rfl ?_
  unfold mi_X2_sums at h
  refine ev_iconst (x := 0) dX2_sums_0 (by decide) ?_
  refine ev_istore_n dX2_sums_1 (Nat.le_of_ble_eq_true rfl) rfl rfl ?_
  refine ev_iconst (x := 0) dX2_sums_2 (by decide) ?_
  refine ev_istore_n dX2_sums_3 (Nat.le_of_ble_eq_true rfl) rfl rfl ?_
  obtain ⟨q22, hq23, h⟩ := ab_bind h
  refine lp_X2_sums_4 _ M t1 ht1 0 0 _ hq23 ?_
  refine ev_iload_n dX2_sums_119 rfl ?_
  cases h
  exact ev_ireturn rfl dX2_sums_120

noncomputable def mi_X2_strayBits_4 : Nat → ab_M → Nat → Int32 → Int32 → Option (Int32 × Int32)
  | 0, _, _, _, _ => none
  | n + 1, M, t1, x2, x3 =>
    if (M.1 1 8) ≤ x3 then
      some (x2, x3)
    else
      ab_chk (vp_in x3 16) <|
      ((if (M.1 t1 (x3).toNatClampNeg) < 0 then
        some 0
      else
        (mi_X3_allowed M x3).bind fun q7 =>
        ab_chk (vp_in x3 16) <|
        if ((ab_ushr q7 (M.1 t1 (x3).toNatClampNeg)) &&& 1) = 0 then
          some 1
        else
          some 0) : Option (Int32)).bind fun q3 =>
      ((if q3 = 0 then
        some 0
      else
        some ((1 : Int32) <<< (x3 &&& 31))) : Option (Int32)).bind fun q11 =>
      mi_X2_strayBits_4 n M t1 (x2 ||| q11) (x3 + 1)

set_option maxHeartbeats 4000000 in
set_option maxRecDepth 100000 in
theorem lp_X2_strayBits_4 {l : Launch} {D : va_G} {ac : Nat → ClassId} {n0 : Nat} {r : ab_Rs} : ∀ (n : Nat) (M : ab_M) (t1 : Nat) (ht1 : ab_isPlan t1) (x2 : Int32) (x3 : Int32) (q : Int32 × Int32) (h : mi_X2_strayBits_4 n M t1 x2 x3 = some q) (kk : ab_Ev l D ac 4 me_X2_strayBits n0 0 0 r 0 0 ab_SH 66 [some (.ref 24), some (.ref t1), some (.int q.1), some (.int q.2), none] [] M), ab_Ev l D ac 4 me_X2_strayBits n0 0 0 r 0 0 ab_SH 4 [some (.ref 24), some (.ref t1), some (.int x2), some (.int x3), none] [] M := by
  intro n
  induction n with
  | zero =>
    intro M t1 ht1 x2 x3 q h kk
    cases h
  | succ n ih =>
    intro M t1 ht1 x2 x3 q h kk
    unfold mi_X2_strayBits_4 at h
    refine ev_iload_n dX2_strayBits_4 rfl ?_
    refine ev_aload_n dX2_strayBits_5 rfl ?_
    refine ev_getr (o' := 1) fl_RX2_15 sh_24 (by decide) (by decide) rfl rfl dX2_strayBits_6 ?_
    refine ev_geti fl_RX2_19 sh_1 (by decide) (by decide) rfl dX2_strayBits_9 ?_
    refine ev_icmp_ge (t := 66) dX2_strayBits_12 (by decide) (fun hc1 => ?_) (fun hc1 => ?_)
    · replace h := ab_pos hc1 h
      cases h
      exact kk
    · replace h := ab_neg hc1 h
      refine ev_aload_n dX2_strayBits_15 rfl ?_
      refine ev_iload_n dX2_strayBits_16 rfl ?_
      obtain ⟨hb2, h⟩ := ab_chk_some h
      refine ev_iaload ht1 hb2 dX2_strayBits_17 ?_
      obtain ⟨q3, hq4, h⟩ := ab_bind h
      have hJ5 : ab_Ev l D ac 4 me_X2_strayBits n0 0 0 r 0 0 ab_SH 43 [some (.ref 24), some (.ref t1), some (.int x2), some (.int x3), none] [.int q3] M := by
        refine ev_istore dX2_strayBits_43 (Nat.le_of_ble_eq_true rfl) rfl rfl ?_
        refine ev_iload_n dX2_strayBits_45 rfl ?_
        refine ev_iload dX2_strayBits_46 rfl ?_
        obtain ⟨q11, hq12, h⟩ := ab_bind h
        have hJ13 : ab_Ev l D ac 4 me_X2_strayBits n0 0 0 r 0 0 ab_SH 58 [some (.ref 24), some (.ref t1), some (.int x2), some (.int x3), some (.int q3)] [.int q11, .int x2] M := by
          refine ev_ior dX2_strayBits_58 ?_
          refine ev_istore_n dX2_strayBits_59 (Nat.le_of_ble_eq_true rfl) rfl rfl ?_
          refine ev_iinc (y := x3 + 1) dX2_strayBits_60 rfl (by first | rfl | decide) rfl rfl ?_
          refine ev_goto (t := 4) dX2_strayBits_63 (by decide) ?_
          refine ev_drop (lv' := [some (.ref 24), some (.ref t1), some (.int (x2 ||| q11)), some (.int (x3 + 1)), none]) (ab_sub_k (ab_sub_k (ab_sub_k (ab_sub_k (ab_sub_d ab_sub_nil))))) ?_
          exact ih M t1 ht1 (x2 ||| q11) (x3 + 1) _ h kk
        refine ev_if_eq (t := 57) dX2_strayBits_48 (by decide) (fun hc14 => ?_) (fun hc14 => ?_)
        · replace hq12 := ab_pos hc14 hq12
          refine ev_iconst (x := 0) dX2_strayBits_57 (by decide) ?_
          cases hq12
          exact hJ13
        · replace hq12 := ab_neg hc14 hq12
          refine ev_iconst (x := 1) dX2_strayBits_51 (by decide) ?_
          refine ev_iload_n dX2_strayBits_52 rfl ?_
          refine ev_ishl dX2_strayBits_53 ?_
          refine ev_goto (t := 58) dX2_strayBits_54 (by decide) ?_
          cases hq12
          exact hJ13
      refine ev_if_lt (t := 42) dX2_strayBits_18 (by decide) (fun hc6 => ?_) (fun hc6 => ?_)
      · replace hq4 := ab_pos hc6 hq4
        refine ev_iconst (x := 0) dX2_strayBits_42 (by decide) ?_
        cases hq4
        exact hJ5
      · replace hq4 := ab_neg hc6 hq4
        refine ev_aload_n dX2_strayBits_21 rfl ?_
        refine ev_getr (o' := 1) fl_RX2_15 sh_24 (by decide) (by decide) rfl rfl dX2_strayBits_22 ?_
        refine ev_iload_n dX2_strayBits_25 rfl ?_
        obtain ⟨q7, hv8, hq4⟩ := ab_bind hq4
        refine ev_callV (st := []) (co_X3_allowed M x3 _ hv8) mv_X3_allowed sh_1 ml_RX2_83 dX2_strayBits_26 (by decide) rfl (Nat.le_of_ble_eq_true rfl) ⟨Nat.le_refl _, Nat.le_refl _⟩ ?_
        refine ev_aload_n dX2_strayBits_29 rfl ?_
        refine ev_iload_n dX2_strayBits_30 rfl ?_
        obtain ⟨hb9, hq4⟩ := ab_chk_some hq4
        refine ev_iaload ht1 hb9 dX2_strayBits_31 ?_
        refine ev_iushr dX2_strayBits_32 ?_
        refine ev_iconst (x := 1) dX2_strayBits_33 (by decide) ?_
        refine ev_iand dX2_strayBits_34 ?_
        refine ev_if_ne (t := 42) dX2_strayBits_35 (by decide) (fun hc10 => ?_) (fun hc10 => ?_)
        · replace hq4 := ab_neg hc10 hq4
          refine ev_iconst (x := 0) dX2_strayBits_42 (by decide) ?_
          cases hq4
          exact hJ5
        · replace hq4 := ab_pos hc10 hq4
          refine ev_iconst (x := 1) dX2_strayBits_38 (by decide) ?_
          refine ev_goto (t := 43) dX2_strayBits_39 (by decide) ?_
          cases hq4
          exact hJ5

noncomputable def mi_X2_strayBits (M : ab_M) (t1 : Nat) : Option (Int32) :=
  (mi_X2_strayBits_4 ab_F M t1 0 0).bind fun q15 =>
  some q15.1

set_option maxHeartbeats 4000000 in
set_option maxRecDepth 100000 in
theorem co_X2_strayBits {l : Launch} {D : va_G} {ac : Nat → ClassId} (M : ab_M) (t1 : Nat) (ht1 : ab_isPlan t1) (z : Int32) (h : mi_X2_strayBits M t1 = some z) : ab_Con l D ac 4 me_X2_strayBits 0 0 [.ref 24, .ref t1] ab_SH M (some (.int z), ab_SH, M) := by
  refine ab_intro (lv := [some (.ref 24), some (.ref t1), none, none, none]) (by decide) rfl (Nat.le_of_ble_eq_true rfl) rfl ?_
  unfold mi_X2_strayBits at h
  refine ev_iconst (x := 0) dX2_strayBits_0 (by decide) ?_
  refine ev_istore_n dX2_strayBits_1 (Nat.le_of_ble_eq_true rfl) rfl rfl ?_
  refine ev_iconst (x := 0) dX2_strayBits_2 (by decide) ?_
  refine ev_istore_n dX2_strayBits_3 (Nat.le_of_ble_eq_true rfl) rfl rfl ?_
  obtain ⟨q15, hq16, h⟩ := ab_bind h
  refine lp_X2_strayBits_4 _ M t1 ht1 0 0 _ hq16 ?_
  refine ev_iload_n dX2_strayBits_66 rfl ?_
  cases h
  exact ev_ireturn rfl dX2_strayBits_67

noncomputable def mi_X2_totalHarm (M : ab_M) (t1 : Nat) : Option (Int32) :=
  (mi_X2_lacks M t1).bind fun q1 =>
  (mi_X2_sums M t1).bind fun q3 =>
  (mi_X2_strayBits M t1).bind fun q5 =>
  (mi_J6_bitCount_0f7a4 M q5).bind fun q7 =>
  some ((q1 + ((5 : Int32) * q3)) + ((10 : Int32) * q7))

set_option maxHeartbeats 4000000 in
set_option maxRecDepth 100000 in
theorem co_X2_totalHarm {l : Launch} {D : va_G} {ac : Nat → ClassId} (M : ab_M) (t1 : Nat) (ht1 : ab_isPlan t1) (z : Int32) (h : mi_X2_totalHarm M t1 = some z) : ab_Con l D ac 6 me_X2_totalHarm 0 0 [.ref 24, .ref t1] ab_SH M (some (.int z), ab_SH, M) := by
  refine ab_intro (lv := [some (.ref 24), some (.ref t1)]) (by decide) rfl (Nat.le_of_ble_eq_true rfl) rfl ?_
  unfold mi_X2_totalHarm at h
  refine ev_aload_n dX2_totalHarm_0 rfl ?_
  refine ev_aload_n dX2_totalHarm_1 rfl ?_
  obtain ⟨q1, hv2, h⟩ := ab_bind h
  refine ev_callV (st := []) (co_X2_lacks M t1 ht1 _ hv2) mv_X2_lacks sh_24 ml_RX2_25 dX2_totalHarm_2 (by decide) rfl (Nat.le_of_ble_eq_true rfl) ⟨Nat.le_refl _, Nat.le_refl _⟩ ?_
  refine ev_iconst (x := 5) dX2_totalHarm_5 (by decide) ?_
  refine ev_aload_n dX2_totalHarm_6 rfl ?_
  refine ev_aload_n dX2_totalHarm_7 rfl ?_
  obtain ⟨q3, hv4, h⟩ := ab_bind h
  refine ev_callV (st := [.int 5, .int q1]) (co_X2_sums M t1 ht1 _ hv4) mv_X2_sums sh_24 ml_RX2_29 dX2_totalHarm_8 (by decide) rfl (Nat.le_of_ble_eq_true rfl) ⟨Nat.le_refl _, Nat.le_refl _⟩ ?_
  refine ev_imul dX2_totalHarm_11 ?_
  refine ev_iadd dX2_totalHarm_12 ?_
  refine ev_bipush (x := 10) dX2_totalHarm_13 (by decide) ?_
  refine ev_aload_n dX2_totalHarm_15 rfl ?_
  refine ev_aload_n dX2_totalHarm_16 rfl ?_
  obtain ⟨q5, hv6, h⟩ := ab_bind h
  refine ev_callV (st := [.int 10, .int (q1 + ((5 : Int32) * q3))]) (co_X2_strayBits M t1 ht1 _ hv6) mv_X2_strayBits sh_24 ml_RX2_32 dX2_totalHarm_17 (by decide) rfl (Nat.le_of_ble_eq_true rfl) ⟨Nat.le_refl _, Nat.le_refl _⟩ ?_
  obtain ⟨q7, hv8, h⟩ := ab_bind h
  refine ev_callS (st := [.int 10, .int (q1 + ((5 : Int32) * q3))]) (co_J6_bitCount_0f7a4 M q5 _ hv8) mv_J6_bitCount_0f7a4 ml_RX2_35 dX2_totalHarm_20 (by decide) rfl (Nat.le_of_ble_eq_true rfl) ⟨Nat.le_refl _, Nat.le_refl _⟩ ?_
  refine ev_imul dX2_totalHarm_23 ?_
  refine ev_iadd dX2_totalHarm_24 ?_
  cases h
  exact ev_ireturn rfl dX2_totalHarm_25

noncomputable def mi_X2_lackingTwos_20 : Nat → ab_M → Nat → Int32 → Int32 → Int32 → Option (Int32 × Int32)
  | 0, _, _, _, _, _ => none
  | n + 1, M, t1, x2, x3, x4 =>
    if (M.1 1 8) ≤ x4 then
      some (x2, x4)
    else
      (mi_X2_lackOf M t1 x3 x4).bind fun q3 =>
      ((if q3 ≤ 0 then
        some 0
      else
        some 1) : Option (Int32)).bind fun q5 =>
      mi_X2_lackingTwos_20 n M t1 (x2 + q5) x3 (x4 + 1)

set_option maxHeartbeats 4000000 in
set_option maxRecDepth 100000 in
theorem lp_X2_lackingTwos_20 {l : Launch} {D : va_G} {ac : Nat → ClassId} {n0 : Nat} {r : ab_Rs} : ∀ (n : Nat) (M : ab_M) (t1 : Nat) (ht1 : ab_isPlan t1) (x2 : Int32) (x3 : Int32) (x4 : Int32) (q : Int32 × Int32) (h : mi_X2_lackingTwos_20 n M t1 x2 x3 x4 = some q) (kk : ab_Ev l D ac 5 me_X2_lackingTwos n0 0 0 r 0 0 ab_SH 57 [some (.ref 24), some (.ref t1), some (.int q.1), some (.int x3), some (.int q.2)] [] M), ab_Ev l D ac 5 me_X2_lackingTwos n0 0 0 r 0 0 ab_SH 20 [some (.ref 24), some (.ref t1), some (.int x2), some (.int x3), some (.int x4)] [] M := by
  intro n
  induction n with
  | zero =>
    intro M t1 ht1 x2 x3 x4 q h kk
    cases h
  | succ n ih =>
    intro M t1 ht1 x2 x3 x4 q h kk
    unfold mi_X2_lackingTwos_20 at h
    refine ev_iload dX2_lackingTwos_20 rfl ?_
    refine ev_aload_n dX2_lackingTwos_22 rfl ?_
    refine ev_getr (o' := 1) fl_RX2_15 sh_24 (by decide) (by decide) rfl rfl dX2_lackingTwos_23 ?_
    refine ev_geti fl_RX2_19 sh_1 (by decide) (by decide) rfl dX2_lackingTwos_26 ?_
    refine ev_icmp_ge (t := 57) dX2_lackingTwos_29 (by decide) (fun hc2 => ?_) (fun hc2 => ?_)
    · replace h := ab_pos hc2 h
      cases h
      exact kk
    · replace h := ab_neg hc2 h
      refine ev_iload_n dX2_lackingTwos_32 rfl ?_
      refine ev_aload_n dX2_lackingTwos_33 rfl ?_
      refine ev_aload_n dX2_lackingTwos_34 rfl ?_
      refine ev_iload_n dX2_lackingTwos_35 rfl ?_
      refine ev_iload dX2_lackingTwos_36 rfl ?_
      obtain ⟨q3, hv4, h⟩ := ab_bind h
      refine ev_callV (st := [.int x2]) (co_X2_lackOf M t1 ht1 x3 x4 _ hv4) mv_X2_lackOf sh_24 ml_RX2_60 dX2_lackingTwos_38 (by decide) rfl (Nat.le_of_ble_eq_true rfl) ⟨Nat.le_refl _, Nat.le_refl _⟩ ?_
      obtain ⟨q5, hq6, h⟩ := ab_bind h
      have hJ7 : ab_Ev l D ac 5 me_X2_lackingTwos n0 0 0 r 0 0 ab_SH 49 [some (.ref 24), some (.ref t1), some (.int x2), some (.int x3), some (.int x4)] [.int q5, .int x2] M := by
        refine ev_iadd dX2_lackingTwos_49 ?_
        refine ev_istore_n dX2_lackingTwos_50 (Nat.le_of_ble_eq_true rfl) rfl rfl ?_
        refine ev_iinc (y := x4 + 1) dX2_lackingTwos_51 rfl (by first | rfl | decide) rfl rfl ?_
        refine ev_goto (t := 20) dX2_lackingTwos_54 (by decide) ?_
        exact ih M t1 ht1 (x2 + q5) x3 (x4 + 1) _ h kk
      refine ev_if_le (t := 48) dX2_lackingTwos_41 (by decide) (fun hc8 => ?_) (fun hc8 => ?_)
      · replace hq6 := ab_pos hc8 hq6
        refine ev_iconst (x := 0) dX2_lackingTwos_48 (by decide) ?_
        cases hq6
        exact hJ7
      · replace hq6 := ab_neg hc8 hq6
        refine ev_iconst (x := 1) dX2_lackingTwos_44 (by decide) ?_
        refine ev_goto (t := 49) dX2_lackingTwos_45 (by decide) ?_
        cases hq6
        exact hJ7

noncomputable def mi_X2_lackingTwos_4 : Nat → ab_M → Nat → Int32 → Int32 → Option (Int32 × Int32)
  | 0, _, _, _, _ => none
  | n + 1, M, t1, x2, x3 =>
    if (M.1 1 8) ≤ x3 then
      some (x2, x3)
    else
      (mi_X2_lackingTwos_20 ab_F M t1 x2 x3 (x3 + 1)).bind fun q9 =>
      mi_X2_lackingTwos_4 n M t1 q9.1 (x3 + 1)

set_option maxHeartbeats 4000000 in
set_option maxRecDepth 100000 in
theorem lp_X2_lackingTwos_4 {l : Launch} {D : va_G} {ac : Nat → ClassId} {n0 : Nat} {r : ab_Rs} : ∀ (n : Nat) (M : ab_M) (t1 : Nat) (ht1 : ab_isPlan t1) (x2 : Int32) (x3 : Int32) (q : Int32 × Int32) (h : mi_X2_lackingTwos_4 n M t1 x2 x3 = some q) (kk : ab_Ev l D ac 5 me_X2_lackingTwos n0 0 0 r 0 0 ab_SH 63 [some (.ref 24), some (.ref t1), some (.int q.1), some (.int q.2), none] [] M), ab_Ev l D ac 5 me_X2_lackingTwos n0 0 0 r 0 0 ab_SH 4 [some (.ref 24), some (.ref t1), some (.int x2), some (.int x3), none] [] M := by
  intro n
  induction n with
  | zero =>
    intro M t1 ht1 x2 x3 q h kk
    cases h
  | succ n ih =>
    intro M t1 ht1 x2 x3 q h kk
    unfold mi_X2_lackingTwos_4 at h
    refine ev_iload_n dX2_lackingTwos_4 rfl ?_
    refine ev_aload_n dX2_lackingTwos_5 rfl ?_
    refine ev_getr (o' := 1) fl_RX2_15 sh_24 (by decide) (by decide) rfl rfl dX2_lackingTwos_6 ?_
    refine ev_geti fl_RX2_19 sh_1 (by decide) (by decide) rfl dX2_lackingTwos_9 ?_
    refine ev_icmp_ge (t := 63) dX2_lackingTwos_12 (by decide) (fun hc1 => ?_) (fun hc1 => ?_)
    · replace h := ab_pos hc1 h
      cases h
      exact kk
    · replace h := ab_neg hc1 h
      refine ev_iload_n dX2_lackingTwos_15 rfl ?_
      refine ev_iconst (x := 1) dX2_lackingTwos_16 (by decide) ?_
      refine ev_iadd dX2_lackingTwos_17 ?_
      refine ev_istore dX2_lackingTwos_18 (Nat.le_of_ble_eq_true rfl) rfl rfl ?_
      obtain ⟨q9, hq10, h⟩ := ab_bind h
      refine lp_X2_lackingTwos_20 _ M t1 ht1 x2 x3 (x3 + 1) _ hq10 ?_
      refine ev_iinc (y := x3 + 1) dX2_lackingTwos_57 rfl (by first | rfl | decide) rfl rfl ?_
      refine ev_goto (t := 4) dX2_lackingTwos_60 (by decide) ?_
      refine ev_drop (lv' := [some (.ref 24), some (.ref t1), some (.int q9.1), some (.int (x3 + 1)), none]) (ab_sub_k (ab_sub_k (ab_sub_k (ab_sub_k (ab_sub_d ab_sub_nil))))) ?_
      exact ih M t1 ht1 q9.1 (x3 + 1) _ h kk

noncomputable def mi_X2_lackingTwos (M : ab_M) (t1 : Nat) : Option (Int32) :=
  (mi_X2_lackingTwos_4 ab_F M t1 0 0).bind fun q11 =>
  some q11.1

set_option maxHeartbeats 4000000 in
set_option maxRecDepth 100000 in
theorem co_X2_lackingTwos {l : Launch} {D : va_G} {ac : Nat → ClassId} (M : ab_M) (t1 : Nat) (ht1 : ab_isPlan t1) (z : Int32) (h : mi_X2_lackingTwos M t1 = some z) : ab_Con l D ac 5 me_X2_lackingTwos 0 0 [.ref 24, .ref t1] ab_SH M (some (.int z), ab_SH, M) := by
  refine ab_intro (lv := [some (.ref 24), some (.ref t1), none, none, none]) (by decide) rfl (Nat.le_of_ble_eq_true rfl) rfl ?_
  unfold mi_X2_lackingTwos at h
  refine ev_iconst (x := 0) dX2_lackingTwos_0 (by decide) ?_
  refine ev_istore_n dX2_lackingTwos_1 (Nat.le_of_ble_eq_true rfl) rfl rfl ?_
  refine ev_iconst (x := 0) dX2_lackingTwos_2 (by decide) ?_
  refine ev_istore_n dX2_lackingTwos_3 (Nat.le_of_ble_eq_true rfl) rfl rfl ?_
  obtain ⟨q11, hq12, h⟩ := ab_bind h
  refine lp_X2_lackingTwos_4 _ M t1 ht1 0 0 _ hq12 ?_
  refine ev_iload_n dX2_lackingTwos_63 rfl ?_
  cases h
  exact ev_ireturn rfl dX2_lackingTwos_64

noncomputable def mi_X2_tooNear_24 : Nat → ab_M → Nat → Int32 → Int32 → Int64 → Int32 → Int32 → Option (Int64 × Int32)
  | 0, _, _, _, _, _, _, _ => none
  | n + 1, M, t1, x2, x3, x4, x6, x7 =>
    ab_chk (vp_in x2 16) <|
    if ((M.1 t1 (x2).toNatClampNeg) + x6) < x7 then
      some (x4, x7)
    else
      (some (x4 ||| ((ab_lshl 1 (x7 + x3)) - (ab_lshl 1 (ab_max 0 ((x7 - x3) + 1))))) : Option Int64).bind fun v7 =>
      mi_X2_tooNear_24 n M t1 x2 x3 v7 x6 (x7 + (ab_max 1 x6))

set_option maxHeartbeats 4000000 in
set_option maxRecDepth 100000 in
theorem lp_X2_tooNear_24 {l : Launch} {D : va_G} {ac : Nat → ClassId} {n0 : Nat} {r : ab_Rs} : ∀ (n : Nat) (M : ab_M) (t1 : Nat) (ht1 : ab_isPlan t1) (x2 : Int32) (x3 : Int32) (x4 : Int64) (x6 : Int32) (x7 : Int32) (q : Int64 × Int32) (h : mi_X2_tooNear_24 n M t1 x2 x3 x4 x6 x7 = some q) (kk : ab_Ev l D ac 2 me_X2_tooNear n0 0 0 r 0 0 ab_SH 77 [some (.ref 24), some (.ref t1), some (.int x2), some (.int x3), some (.long q.1), none, some (.int x6), some (.int q.2), none] [] M), ab_Ev l D ac 2 me_X2_tooNear n0 0 0 r 0 0 ab_SH 24 [some (.ref 24), some (.ref t1), some (.int x2), some (.int x3), some (.long x4), none, some (.int x6), some (.int x7), none] [] M := by
  intro n
  induction n with
  | zero =>
    intro M t1 ht1 x2 x3 x4 x6 x7 q h kk
    cases h
  | succ n ih =>
    intro M t1 ht1 x2 x3 x4 x6 x7 q h kk
    unfold mi_X2_tooNear_24 at h
    refine ev_iload dX2_tooNear_24 rfl ?_
    refine ev_aload_n dX2_tooNear_26 rfl ?_
    refine ev_iload_n dX2_tooNear_27 rfl ?_
    obtain ⟨hb5, h⟩ := ab_chk_some h
    refine ev_iaload ht1 hb5 dX2_tooNear_28 ?_
    refine ev_iload dX2_tooNear_29 rfl ?_
    refine ev_iadd dX2_tooNear_31 ?_
    refine ev_icmp_gt (t := 77) dX2_tooNear_32 (by decide) (fun hc6 => ?_) (fun hc6 => ?_)
    · replace h := ab_pos hc6 h
      cases h
      exact kk
    · replace h := ab_neg hc6 h
      refine ev_iconst (x := 0) dX2_tooNear_35 (by decide) ?_
      refine ev_iload dX2_tooNear_36 rfl ?_
      refine ev_iload_n dX2_tooNear_38 rfl ?_
      refine ev_isub dX2_tooNear_39 ?_
      refine ev_iconst (x := 1) dX2_tooNear_40 (by decide) ?_
      refine ev_iadd dX2_tooNear_41 ?_
      refine ev_max ml_RX2_57 dX2_tooNear_42 (by decide) (Nat.le_of_ble_eq_true rfl) ⟨Nat.le_refl _, Nat.le_refl _⟩ ?_
      refine ev_istore dX2_tooNear_45 (Nat.le_of_ble_eq_true rfl) rfl rfl ?_
      refine ev_lload dX2_tooNear_47 rfl ?_
      refine ev_lconst (x := 1) dX2_tooNear_49 (by decide) ?_
      refine ev_iload dX2_tooNear_50 rfl ?_
      refine ev_iload_n dX2_tooNear_52 rfl ?_
      refine ev_iadd dX2_tooNear_53 ?_
      refine ev_lshl dX2_tooNear_54 ?_
      refine ev_lconst (x := 1) dX2_tooNear_55 (by decide) ?_
      refine ev_iload dX2_tooNear_56 rfl ?_
      refine ev_lshl dX2_tooNear_58 ?_
      refine ev_lsub dX2_tooNear_59 ?_
      refine ev_lor dX2_tooNear_60 ?_
      obtain ⟨v7, hq8, h⟩ := ab_bind h
      refine ev_nml (Option.some.inj hq8) ?_
      refine ev_lstore (x := v7) dX2_tooNear_61 (Nat.le_of_ble_eq_true rfl) rfl rfl ?_
      refine ev_iload dX2_tooNear_63 rfl ?_
      refine ev_iconst (x := 1) dX2_tooNear_65 (by decide) ?_
      refine ev_iload dX2_tooNear_66 rfl ?_
      refine ev_max ml_RX2_57 dX2_tooNear_68 (by decide) (Nat.le_of_ble_eq_true rfl) ⟨Nat.le_refl _, Nat.le_refl _⟩ ?_
      refine ev_iadd dX2_tooNear_71 ?_
      refine ev_istore dX2_tooNear_72 (Nat.le_of_ble_eq_true rfl) rfl rfl ?_
      refine ev_goto (t := 24) dX2_tooNear_74 (by decide) ?_
      refine ev_drop (lv' := [some (.ref 24), some (.ref t1), some (.int x2), some (.int x3), some (.long v7), none, some (.int x6), some (.int (x7 + (ab_max 1 x6))), none]) (ab_sub_k (ab_sub_k (ab_sub_k (ab_sub_k (ab_sub_k (ab_sub_k (ab_sub_k (ab_sub_k (ab_sub_d ab_sub_nil))))))))) ?_
      exact ih M t1 ht1 x2 x3 v7 x6 (x7 + (ab_max 1 x6)) _ h kk

noncomputable def mi_X2_tooNear (M : ab_M) (t1 : Nat) (x2 : Int32) (x3 : Int32) : Option (Int64) :=
  if x3 = 0 then
    some 0
  else
    (mi_X3_gapOf M x2).bind fun q2 =>
    ab_chk (vp_in x2 16) <|
    (mi_X2_tooNear_24 ab_F M t1 x2 x3 0 q2 (M.1 t1 (x2).toNatClampNeg)).bind fun q9 =>
    some q9.1

set_option maxHeartbeats 4000000 in
set_option maxRecDepth 100000 in
theorem co_X2_tooNear {l : Launch} {D : va_G} {ac : Nat → ClassId} (M : ab_M) (t1 : Nat) (ht1 : ab_isPlan t1) (x2 : Int32) (x3 : Int32) (z : Int64) (h : mi_X2_tooNear M t1 x2 x3 = some z) : ab_Con l D ac 2 me_X2_tooNear 0 0 [.ref 24, .ref t1, .int x2, .int x3] ab_SH M (some (.long z), ab_SH, M) := by
  refine ab_intro (lv := [some (.ref 24), some (.ref t1), some (.int x2), some (.int x3), none, none, none, none, none]) (by decide) rfl (Nat.le_of_ble_eq_true rfl) rfl ?_
  unfold mi_X2_tooNear at h
  refine ev_iload_n dX2_tooNear_0 rfl ?_
  refine ev_if_ne (t := 6) dX2_tooNear_1 (by decide) (fun hc1 => ?_) (fun hc1 => ?_)
  · replace h := ab_neg hc1 h
    refine ev_lconst (x := 0) dX2_tooNear_6 (by decide) ?_
    refine ev_lstore dX2_tooNear_7 (Nat.le_of_ble_eq_true rfl) rfl rfl ?_
    refine ev_aload_n dX2_tooNear_9 rfl ?_
    refine ev_getr (o' := 1) fl_RX2_15 sh_24 (by decide) (by decide) rfl rfl dX2_tooNear_10 ?_
    refine ev_iload_n dX2_tooNear_13 rfl ?_
    obtain ⟨q2, hv3, h⟩ := ab_bind h
    refine ev_callV (st := []) (co_X3_gapOf M x2 _ hv3) mv_X3_gapOf sh_1 ml_RX2_49 dX2_tooNear_14 (by decide) rfl (Nat.le_of_ble_eq_true rfl) ⟨Nat.le_refl _, Nat.le_refl _⟩ ?_
    refine ev_istore dX2_tooNear_17 (Nat.le_of_ble_eq_true rfl) rfl rfl ?_
    refine ev_aload_n dX2_tooNear_19 rfl ?_
    refine ev_iload_n dX2_tooNear_20 rfl ?_
    obtain ⟨hb4, h⟩ := ab_chk_some h
    refine ev_iaload ht1 hb4 dX2_tooNear_21 ?_
    refine ev_istore dX2_tooNear_22 (Nat.le_of_ble_eq_true rfl) rfl rfl ?_
    obtain ⟨q9, hq10, h⟩ := ab_bind h
    refine lp_X2_tooNear_24 _ M t1 ht1 x2 x3 0 q2 (M.1 t1 (x2).toNatClampNeg) _ hq10 ?_
    refine ev_lload dX2_tooNear_77 rfl ?_
    cases h
    exact ev_lreturn rfl dX2_tooNear_79
  · replace h := ab_pos hc1 h
    refine ev_lconst (x := 0) dX2_tooNear_4 (by decide) ?_
    cases h
    exact ev_lreturn rfl dX2_tooNear_5

noncomputable def mi_X2_sumMates (M : ab_M) (t1 : Nat) (x2 : Int32) (x3 : Int32) (x4 : Int32) : Option (Int32) :=
  ab_chk (vp_in x3 16) <|
  if (M.1 t1 (x3).toNatClampNeg) < 0 then
    some 0
  else
    ab_chk (vp_in x2 16) <|
    ab_chk (vp_in x3 16) <|
    ab_chk (vp_in x4 16) <|
    (mi_X3_areIn M (M.1 3 (x2).toNatClampNeg) (M.1 3 (x3).toNatClampNeg) (M.1 3 (x4).toNatClampNeg)).bind fun q6 =>
    if q6 = 0 then
      some 0
    else
      some 1

set_option maxHeartbeats 4000000 in
set_option maxRecDepth 100000 in
theorem co_X2_sumMates {l : Launch} {D : va_G} {ac : Nat → ClassId} (M : ab_M) (t1 : Nat) (ht1 : ab_isPlan t1) (x2 : Int32) (x3 : Int32) (x4 : Int32) (z : Int32) (h : mi_X2_sumMates M t1 x2 x3 x4 = some z) : ab_Con l D ac 2 me_X2_sumMates 0 0 [.ref 24, .ref t1, .int x2, .int x3, .int x4] ab_SH M (some (.int z), ab_SH, M) := by
  refine ab_intro (lv := [some (.ref 24), some (.ref t1), some (.int x2), some (.int x3), some (.int x4)]) (by decide) rfl (Nat.le_of_ble_eq_true rfl) rfl ?_
  unfold mi_X2_sumMates at h
  refine ev_aload_n dX2_sumMates_0 rfl ?_
  refine ev_iload_n dX2_sumMates_1 rfl ?_
  obtain ⟨hb1, h⟩ := ab_chk_some h
  refine ev_iaload ht1 hb1 dX2_sumMates_2 ?_
  refine ev_if_lt (t := 48) dX2_sumMates_3 (by decide) (fun hc2 => ?_) (fun hc2 => ?_)
  · replace h := ab_pos hc2 h
    refine ev_iconst (x := 0) dX2_sumMates_48 (by decide) ?_
    cases h
    exact ev_zreturn rfl (Or.inl rfl) dX2_sumMates_49
  · replace h := ab_neg hc2 h
    refine ev_aload_n dX2_sumMates_6 rfl ?_
    refine ev_getr (o' := 1) fl_RX2_15 sh_24 (by decide) (by decide) rfl rfl dX2_sumMates_7 ?_
    refine ev_aload_n dX2_sumMates_10 rfl ?_
    refine ev_getr (o' := 1) fl_RX2_15 sh_24 (by decide) (by decide) rfl rfl dX2_sumMates_11 ?_
    refine ev_getr (o' := 3) fl_RX2_76 sh_1 (by decide) (by decide) rfl rfl dX2_sumMates_14 ?_
    refine ev_iload_n dX2_sumMates_17 rfl ?_
    obtain ⟨hb3, h⟩ := ab_chk_some h
    refine ev_iaload sh_3 hb3 dX2_sumMates_18 ?_
    refine ev_aload_n dX2_sumMates_19 rfl ?_
    refine ev_getr (o' := 1) fl_RX2_15 sh_24 (by decide) (by decide) rfl rfl dX2_sumMates_20 ?_
    refine ev_getr (o' := 3) fl_RX2_76 sh_1 (by decide) (by decide) rfl rfl dX2_sumMates_23 ?_
    refine ev_iload_n dX2_sumMates_26 rfl ?_
    obtain ⟨hb4, h⟩ := ab_chk_some h
    refine ev_iaload sh_3 hb4 dX2_sumMates_27 ?_
    refine ev_aload_n dX2_sumMates_28 rfl ?_
    refine ev_getr (o' := 1) fl_RX2_15 sh_24 (by decide) (by decide) rfl rfl dX2_sumMates_29 ?_
    refine ev_getr (o' := 3) fl_RX2_76 sh_1 (by decide) (by decide) rfl rfl dX2_sumMates_32 ?_
    refine ev_iload dX2_sumMates_35 rfl ?_
    obtain ⟨hb5, h⟩ := ab_chk_some h
    refine ev_iaload sh_3 hb5 dX2_sumMates_37 ?_
    obtain ⟨q6, hv7, h⟩ := ab_bind h
    refine ev_callV (st := []) (co_X3_areIn M (M.1 3 (x2).toNatClampNeg) (M.1 3 (x3).toNatClampNeg) (M.1 3 (x4).toNatClampNeg) _ hv7) mv_X3_areIn sh_1 ml_RX2_79 dX2_sumMates_38 (by decide) rfl (Nat.le_of_ble_eq_true rfl) ⟨Nat.le_refl _, Nat.le_refl _⟩ ?_
    refine ev_if_eq (t := 48) dX2_sumMates_41 (by decide) (fun hc8 => ?_) (fun hc8 => ?_)
    · replace h := ab_pos hc8 h
      refine ev_iconst (x := 0) dX2_sumMates_48 (by decide) ?_
      cases h
      exact ev_zreturn rfl (Or.inl rfl) dX2_sumMates_49
    · replace h := ab_neg hc8 h
      refine ev_iconst (x := 1) dX2_sumMates_44 (by decide) ?_
      refine ev_goto (t := 49) dX2_sumMates_45 (by decide) ?_
      cases h
      exact ev_zreturn rfl (Or.inr rfl) dX2_sumMates_49

noncomputable def mi_X2_bitOf (M : ab_M) (x0 : Int32) : Option (Int64) :=
  if x0 < 0 then
    some 0
  else
    if 30 ≤ x0 then
      some 0
    else
      some (ab_lshl 1 x0)

set_option maxHeartbeats 4000000 in
set_option maxRecDepth 100000 in
theorem co_X2_bitOf {l : Launch} {D : va_G} {ac : Nat → ClassId} (M : ab_M) (x0 : Int32) (z : Int64) (h : mi_X2_bitOf M x0 = some z) : ab_Con l D ac 1 me_X2_bitOf 0 0 [.int x0] ab_SH M (some (.long z), ab_SH, M) := by
  refine ab_intro (lv := [some (.int x0)]) (by decide) rfl (Nat.le_of_ble_eq_true rfl) rfl ?_
  unfold mi_X2_bitOf at h
  refine ev_iload_n dX2_bitOf_0 rfl ?_
  refine ev_if_lt (t := 16) dX2_bitOf_1 (by decide) (fun hc1 => ?_) (fun hc1 => ?_)
  · replace h := ab_pos hc1 h
    refine ev_lconst (x := 0) dX2_bitOf_16 (by decide) ?_
    cases h
    exact ev_lreturn rfl dX2_bitOf_17
  · replace h := ab_neg hc1 h
    refine ev_iload_n dX2_bitOf_4 rfl ?_
    refine ev_bipush (x := 30) dX2_bitOf_5 (by decide) ?_
    refine ev_icmp_ge (t := 16) dX2_bitOf_7 (by decide) (fun hc2 => ?_) (fun hc2 => ?_)
    · replace h := ab_pos hc2 h
      refine ev_lconst (x := 0) dX2_bitOf_16 (by decide) ?_
      cases h
      exact ev_lreturn rfl dX2_bitOf_17
    · replace h := ab_neg hc2 h
      refine ev_lconst (x := 1) dX2_bitOf_10 (by decide) ?_
      refine ev_iload_n dX2_bitOf_11 rfl ?_
      refine ev_lshl dX2_bitOf_12 ?_
      refine ev_goto (t := 17) dX2_bitOf_13 (by decide) ?_
      cases h
      exact ev_lreturn rfl dX2_bitOf_17

noncomputable def mi_X2_sumTargets_44 : Nat → ab_M → Nat → Int32 → Int32 → Int64 → Int32 → Int32 → Int32 → Int32 → Option (Int64 × Int32)
  | 0, _, _, _, _, _, _, _, _, _ => none
  | n + 1, M, t1, x2, x3, x4, x6, x7, x8, x9 =>
    ab_chk (vp_in x3 16) <|
    if ((M.1 t1 (x3).toNatClampNeg) + x7) < x9 then
      some (x4, x9)
    else
      (mi_X2_bitOf M (((2 : Int32) * x8) - x9)).bind fun q11 =>
      (mi_X2_bitOf M (((2 : Int32) * x9) - x8)).bind fun q13 =>
      ((if (ab_rem (x8 + x9) 2) = 0 then
        (mi_X2_bitOf M ((x8 + x9) / 2)).bind fun q19 =>
        some q19
      else
        some 0) : Option (Int64)).bind fun q15 =>
      mi_X2_sumTargets_44 n M t1 x2 x3 ((x4 ||| (q11 ||| q13)) ||| q15) x6 x7 x8 (x9 + (ab_max 1 x7))

set_option maxHeartbeats 4000000 in
set_option maxRecDepth 100000 in
theorem lp_X2_sumTargets_44 {l : Launch} {D : va_G} {ac : Nat → ClassId} {n0 : Nat} {r : ab_Rs} : ∀ (n : Nat) (M : ab_M) (t1 : Nat) (ht1 : ab_isPlan t1) (x2 : Int32) (x3 : Int32) (x4 : Int64) (x6 : Int32) (x7 : Int32) (x8 : Int32) (x9 : Int32) (q : Int64 × Int32) (h : mi_X2_sumTargets_44 n M t1 x2 x3 x4 x6 x7 x8 x9 = some q) (kk : ab_Ev l D ac 2 me_X2_sumTargets n0 0 0 r 0 0 ab_SH 124 [some (.ref 24), some (.ref t1), some (.int x2), some (.int x3), some (.long q.1), none, some (.int x6), some (.int x7), some (.int x8), some (.int q.2)] [] M), ab_Ev l D ac 2 me_X2_sumTargets n0 0 0 r 0 0 ab_SH 44 [some (.ref 24), some (.ref t1), some (.int x2), some (.int x3), some (.long x4), none, some (.int x6), some (.int x7), some (.int x8), some (.int x9)] [] M := by
  intro n
  induction n with
  | zero =>
    intro M t1 ht1 x2 x3 x4 x6 x7 x8 x9 q h kk
    cases h
  | succ n ih =>
    intro M t1 ht1 x2 x3 x4 x6 x7 x8 x9 q h kk
    unfold mi_X2_sumTargets_44 at h
    refine ev_iload dX2_sumTargets_44 rfl ?_
    refine ev_aload_n dX2_sumTargets_46 rfl ?_
    refine ev_iload_n dX2_sumTargets_47 rfl ?_
    obtain ⟨hb9, h⟩ := ab_chk_some h
    refine ev_iaload ht1 hb9 dX2_sumTargets_48 ?_
    refine ev_iload dX2_sumTargets_49 rfl ?_
    refine ev_iadd dX2_sumTargets_51 ?_
    refine ev_icmp_gt (t := 124) dX2_sumTargets_52 (by decide) (fun hc10 => ?_) (fun hc10 => ?_)
    · replace h := ab_pos hc10 h
      cases h
      exact kk
    · replace h := ab_neg hc10 h
      refine ev_lload dX2_sumTargets_55 rfl ?_
      refine ev_iconst (x := 2) dX2_sumTargets_57 (by decide) ?_
      refine ev_iload dX2_sumTargets_58 rfl ?_
      refine ev_imul dX2_sumTargets_60 ?_
      refine ev_iload dX2_sumTargets_61 rfl ?_
      refine ev_isub dX2_sumTargets_63 ?_
      obtain ⟨q11, hv12, h⟩ := ab_bind h
      refine ev_callS (st := [.long x4]) (co_X2_bitOf M (((2 : Int32) * x8) - x9) _ hv12) mv_X2_bitOf ml_RX2_101 dX2_sumTargets_64 (by decide) rfl (Nat.le_of_ble_eq_true rfl) ⟨Nat.le_refl _, Nat.le_refl _⟩ ?_
      refine ev_iconst (x := 2) dX2_sumTargets_67 (by decide) ?_
      refine ev_iload dX2_sumTargets_68 rfl ?_
      refine ev_imul dX2_sumTargets_70 ?_
      refine ev_iload dX2_sumTargets_71 rfl ?_
      refine ev_isub dX2_sumTargets_73 ?_
      obtain ⟨q13, hv14, h⟩ := ab_bind h
      refine ev_callS (st := [.long q11, .long x4]) (co_X2_bitOf M (((2 : Int32) * x9) - x8) _ hv14) mv_X2_bitOf ml_RX2_101 dX2_sumTargets_74 (by decide) rfl (Nat.le_of_ble_eq_true rfl) ⟨Nat.le_refl _, Nat.le_refl _⟩ ?_
      refine ev_lor dX2_sumTargets_77 ?_
      refine ev_lor dX2_sumTargets_78 ?_
      refine ev_lstore dX2_sumTargets_79 (Nat.le_of_ble_eq_true rfl) rfl rfl ?_
      refine ev_lload dX2_sumTargets_81 rfl ?_
      refine ev_iload dX2_sumTargets_83 rfl ?_
      refine ev_iload dX2_sumTargets_85 rfl ?_
      refine ev_iadd dX2_sumTargets_87 ?_
      refine ev_iconst (x := 2) dX2_sumTargets_88 (by decide) ?_
      refine ev_irem dX2_sumTargets_89 (by decide) ?_
      obtain ⟨q15, hq16, h⟩ := ab_bind h
      have hJ17 : ab_Ev l D ac 2 me_X2_sumTargets n0 0 0 r 0 0 ab_SH 107 [some (.ref 24), some (.ref t1), some (.int x2), some (.int x3), some (.long (x4 ||| (q11 ||| q13))), none, some (.int x6), some (.int x7), some (.int x8), some (.int x9)] [.long q15, .long (x4 ||| (q11 ||| q13))] M := by
        refine ev_lor dX2_sumTargets_107 ?_
        refine ev_lstore dX2_sumTargets_108 (Nat.le_of_ble_eq_true rfl) rfl rfl ?_
        refine ev_iload dX2_sumTargets_110 rfl ?_
        refine ev_iconst (x := 1) dX2_sumTargets_112 (by decide) ?_
        refine ev_iload dX2_sumTargets_113 rfl ?_
        refine ev_max ml_RX2_57 dX2_sumTargets_115 (by decide) (Nat.le_of_ble_eq_true rfl) ⟨Nat.le_refl _, Nat.le_refl _⟩ ?_
        refine ev_iadd dX2_sumTargets_118 ?_
        refine ev_istore dX2_sumTargets_119 (Nat.le_of_ble_eq_true rfl) rfl rfl ?_
        refine ev_goto (t := 44) dX2_sumTargets_121 (by decide) ?_
        exact ih M t1 ht1 x2 x3 ((x4 ||| (q11 ||| q13)) ||| q15) x6 x7 x8 (x9 + (ab_max 1 x7)) _ h kk
      refine ev_if_ne (t := 106) dX2_sumTargets_90 (by decide) (fun hc18 => ?_) (fun hc18 => ?_)
      · replace hq16 := ab_neg hc18 hq16
        refine ev_lconst (x := 0) dX2_sumTargets_106 (by decide) ?_
        cases hq16
        exact hJ17
      · replace hq16 := ab_pos hc18 hq16
        refine ev_iload dX2_sumTargets_93 rfl ?_
        refine ev_iload dX2_sumTargets_95 rfl ?_
        refine ev_iadd dX2_sumTargets_97 ?_
        refine ev_iconst (x := 2) dX2_sumTargets_98 (by decide) ?_
        refine ev_idiv dX2_sumTargets_99 (by decide) ?_
        obtain ⟨q19, hv20, hq16⟩ := ab_bind hq16
        refine ev_callS (st := [.long (x4 ||| (q11 ||| q13))]) (co_X2_bitOf M ((x8 + x9) / 2) _ hv20) mv_X2_bitOf ml_RX2_101 dX2_sumTargets_100 (by decide) rfl (Nat.le_of_ble_eq_true rfl) ⟨Nat.le_refl _, Nat.le_refl _⟩ ?_
        refine ev_goto (t := 107) dX2_sumTargets_103 (by decide) ?_
        cases hq16
        exact hJ17

noncomputable def mi_X2_sumTargets_28 : Nat → ab_M → Nat → Int32 → Int32 → Int64 → Int32 → Int32 → Int32 → Option (Int64 × Int32)
  | 0, _, _, _, _, _, _, _, _ => none
  | n + 1, M, t1, x2, x3, x4, x6, x7, x8 =>
    ab_chk (vp_in x2 16) <|
    if ((M.1 t1 (x2).toNatClampNeg) + x6) < x8 then
      some (x4, x8)
    else
      ab_chk (vp_in x3 16) <|
      (mi_X2_sumTargets_44 ab_F M t1 x2 x3 x4 x6 x7 x8 (M.1 t1 (x3).toNatClampNeg)).bind fun q21 =>
      mi_X2_sumTargets_28 n M t1 x2 x3 q21.1 x6 x7 (x8 + (ab_max 1 x6))

set_option maxHeartbeats 4000000 in
set_option maxRecDepth 100000 in
theorem lp_X2_sumTargets_28 {l : Launch} {D : va_G} {ac : Nat → ClassId} {n0 : Nat} {r : ab_Rs} : ∀ (n : Nat) (M : ab_M) (t1 : Nat) (ht1 : ab_isPlan t1) (x2 : Int32) (x3 : Int32) (x4 : Int64) (x6 : Int32) (x7 : Int32) (x8 : Int32) (q : Int64 × Int32) (h : mi_X2_sumTargets_28 n M t1 x2 x3 x4 x6 x7 x8 = some q) (kk : ab_Ev l D ac 2 me_X2_sumTargets n0 0 0 r 0 0 ab_SH 138 [some (.ref 24), some (.ref t1), some (.int x2), some (.int x3), some (.long q.1), none, some (.int x6), some (.int x7), some (.int q.2), none] [] M), ab_Ev l D ac 2 me_X2_sumTargets n0 0 0 r 0 0 ab_SH 28 [some (.ref 24), some (.ref t1), some (.int x2), some (.int x3), some (.long x4), none, some (.int x6), some (.int x7), some (.int x8), none] [] M := by
  intro n
  induction n with
  | zero =>
    intro M t1 ht1 x2 x3 x4 x6 x7 x8 q h kk
    cases h
  | succ n ih =>
    intro M t1 ht1 x2 x3 x4 x6 x7 x8 q h kk
    unfold mi_X2_sumTargets_28 at h
    refine ev_iload dX2_sumTargets_28 rfl ?_
    refine ev_aload_n dX2_sumTargets_30 rfl ?_
    refine ev_iload_n dX2_sumTargets_31 rfl ?_
    obtain ⟨hb6, h⟩ := ab_chk_some h
    refine ev_iaload ht1 hb6 dX2_sumTargets_32 ?_
    refine ev_iload dX2_sumTargets_33 rfl ?_
    refine ev_iadd dX2_sumTargets_35 ?_
    refine ev_icmp_gt (t := 138) dX2_sumTargets_36 (by decide) (fun hc7 => ?_) (fun hc7 => ?_)
    · replace h := ab_pos hc7 h
      cases h
      exact kk
    · replace h := ab_neg hc7 h
      refine ev_aload_n dX2_sumTargets_39 rfl ?_
      refine ev_iload_n dX2_sumTargets_40 rfl ?_
      obtain ⟨hb8, h⟩ := ab_chk_some h
      refine ev_iaload ht1 hb8 dX2_sumTargets_41 ?_
      refine ev_istore dX2_sumTargets_42 (Nat.le_of_ble_eq_true rfl) rfl rfl ?_
      obtain ⟨q21, hq22, h⟩ := ab_bind h
      refine lp_X2_sumTargets_44 _ M t1 ht1 x2 x3 x4 x6 x7 x8 (M.1 t1 (x3).toNatClampNeg) _ hq22 ?_
      refine ev_iload dX2_sumTargets_124 rfl ?_
      refine ev_iconst (x := 1) dX2_sumTargets_126 (by decide) ?_
      refine ev_iload dX2_sumTargets_127 rfl ?_
      refine ev_max ml_RX2_57 dX2_sumTargets_129 (by decide) (Nat.le_of_ble_eq_true rfl) ⟨Nat.le_refl _, Nat.le_refl _⟩ ?_
      refine ev_iadd dX2_sumTargets_132 ?_
      refine ev_istore dX2_sumTargets_133 (Nat.le_of_ble_eq_true rfl) rfl rfl ?_
      refine ev_goto (t := 28) dX2_sumTargets_135 (by decide) ?_
      refine ev_drop (lv' := [some (.ref 24), some (.ref t1), some (.int x2), some (.int x3), some (.long q21.1), none, some (.int x6), some (.int x7), some (.int (x8 + (ab_max 1 x6))), none]) (ab_sub_k (ab_sub_k (ab_sub_k (ab_sub_k (ab_sub_k (ab_sub_k (ab_sub_k (ab_sub_k (ab_sub_k (ab_sub_d ab_sub_nil)))))))))) ?_
      exact ih M t1 ht1 x2 x3 q21.1 x6 x7 (x8 + (ab_max 1 x6)) _ h kk

noncomputable def mi_X2_sumTargets (M : ab_M) (t1 : Nat) (x2 : Int32) (x3 : Int32) : Option (Int64) :=
  (mi_X3_gapOf M x2).bind fun q1 =>
  (mi_X3_gapOf M x3).bind fun q3 =>
  ab_chk (vp_in x2 16) <|
  (mi_X2_sumTargets_28 ab_F M t1 x2 x3 0 q1 q3 (M.1 t1 (x2).toNatClampNeg)).bind fun q23 =>
  some q23.1

set_option maxHeartbeats 4000000 in
set_option maxRecDepth 100000 in
theorem co_X2_sumTargets {l : Launch} {D : va_G} {ac : Nat → ClassId} (M : ab_M) (t1 : Nat) (ht1 : ab_isPlan t1) (x2 : Int32) (x3 : Int32) (z : Int64) (h : mi_X2_sumTargets M t1 x2 x3 = some z) : ab_Con l D ac 2 me_X2_sumTargets 0 0 [.ref 24, .ref t1, .int x2, .int x3] ab_SH M (some (.long z), ab_SH, M) := by
  refine ab_intro (lv := [some (.ref 24), some (.ref t1), some (.int x2), some (.int x3), none, none, none, none, none, none]) (by decide) rfl (Nat.le_of_ble_eq_true rfl) rfl ?_
  unfold mi_X2_sumTargets at h
  refine ev_lconst (x := 0) dX2_sumTargets_0 (by decide) ?_
  refine ev_lstore dX2_sumTargets_1 (Nat.le_of_ble_eq_true rfl) rfl rfl ?_
  refine ev_aload_n dX2_sumTargets_3 rfl ?_
  refine ev_getr (o' := 1) fl_RX2_15 sh_24 (by decide) (by decide) rfl rfl dX2_sumTargets_4 ?_
  refine ev_iload_n dX2_sumTargets_7 rfl ?_
  obtain ⟨q1, hv2, h⟩ := ab_bind h
  refine ev_callV (st := []) (co_X3_gapOf M x2 _ hv2) mv_X3_gapOf sh_1 ml_RX2_49 dX2_sumTargets_8 (by decide) rfl (Nat.le_of_ble_eq_true rfl) ⟨Nat.le_refl _, Nat.le_refl _⟩ ?_
  refine ev_istore dX2_sumTargets_11 (Nat.le_of_ble_eq_true rfl) rfl rfl ?_
  refine ev_aload_n dX2_sumTargets_13 rfl ?_
  refine ev_getr (o' := 1) fl_RX2_15 sh_24 (by decide) (by decide) rfl rfl dX2_sumTargets_14 ?_
  refine ev_iload_n dX2_sumTargets_17 rfl ?_
  obtain ⟨q3, hv4, h⟩ := ab_bind h
  refine ev_callV (st := []) (co_X3_gapOf M x3 _ hv4) mv_X3_gapOf sh_1 ml_RX2_49 dX2_sumTargets_18 (by decide) rfl (Nat.le_of_ble_eq_true rfl) ⟨Nat.le_refl _, Nat.le_refl _⟩ ?_
  refine ev_istore dX2_sumTargets_21 (Nat.le_of_ble_eq_true rfl) rfl rfl ?_
  refine ev_aload_n dX2_sumTargets_23 rfl ?_
  refine ev_iload_n dX2_sumTargets_24 rfl ?_
  obtain ⟨hb5, h⟩ := ab_chk_some h
  refine ev_iaload ht1 hb5 dX2_sumTargets_25 ?_
  refine ev_istore dX2_sumTargets_26 (Nat.le_of_ble_eq_true rfl) rfl rfl ?_
  obtain ⟨q23, hq24, h⟩ := ab_bind h
  refine lp_X2_sumTargets_28 _ M t1 ht1 x2 x3 0 q1 q3 (M.1 t1 (x2).toNatClampNeg) _ hq24 ?_
  refine ev_lload dX2_sumTargets_138 rfl ?_
  cases h
  exact ev_lreturn rfl dX2_sumTargets_140

noncomputable def mi_X2_freeChannels_76 : Nat → ab_M → Nat → Int32 → Int32 → Int64 → Int32 → Int32 → Int32 → Option (Int64 × Int32)
  | 0, _, _, _, _, _, _, _, _ => none
  | n + 1, M, t1, x2, x3, x4, x6, x7, x8 =>
    if x7 ≤ x8 then
      some (x4, x8)
    else
      ((if x8 = x2 then
        some x4
      else
        (mi_X2_sumMates M t1 x6 x8 x2).bind fun q23 =>
        if q23 = 0 then
          some x4
        else
          (mi_X2_sumTargets M t1 x6 x8).bind fun q26 =>
          some (x4 ||| q26)) : Option (Int64)).bind fun q19 =>
      mi_X2_freeChannels_76 n M t1 x2 x3 q19 x6 x7 (x8 + 1)

set_option maxHeartbeats 4000000 in
set_option maxRecDepth 100000 in
theorem lp_X2_freeChannels_76 {l : Launch} {D : va_G} {ac : Nat → ClassId} {n0 : Nat} {r : ab_Rs} : ∀ (n : Nat) (M : ab_M) (t1 : Nat) (ht1 : ab_isPlan t1) (x2 : Int32) (x3 : Int32) (x4 : Int64) (x6 : Int32) (x7 : Int32) (x8 : Int32) (q : Int64 × Int32) (h : mi_X2_freeChannels_76 n M t1 x2 x3 x4 x6 x7 x8 = some q) (kk : ab_Ev l D ac 4 me_X2_freeChannels n0 0 0 r 0 0 ab_SH 122 [some (.ref 24), some (.ref t1), some (.int x2), some (.int x3), some (.long q.1), none, some (.int x6), some (.int x7), some (.int q.2)] [] M), ab_Ev l D ac 4 me_X2_freeChannels n0 0 0 r 0 0 ab_SH 76 [some (.ref 24), some (.ref t1), some (.int x2), some (.int x3), some (.long x4), none, some (.int x6), some (.int x7), some (.int x8)] [] M := by
  intro n
  induction n with
  | zero =>
    intro M t1 ht1 x2 x3 x4 x6 x7 x8 q h kk
    cases h
  | succ n ih =>
    intro M t1 ht1 x2 x3 x4 x6 x7 x8 q h kk
    unfold mi_X2_freeChannels_76 at h
    refine ev_iload dX2_freeChannels_76 rfl ?_
    refine ev_iload dX2_freeChannels_78 rfl ?_
    refine ev_icmp_ge (t := 122) dX2_freeChannels_80 (by decide) (fun hc18 => ?_) (fun hc18 => ?_)
    · replace h := ab_pos hc18 h
      cases h
      exact kk
    · replace h := ab_neg hc18 h
      refine ev_iload dX2_freeChannels_83 rfl ?_
      refine ev_iload_n dX2_freeChannels_85 rfl ?_
      obtain ⟨q19, hq20, h⟩ := ab_bind h
      have hJ21 : ab_Ev l D ac 4 me_X2_freeChannels n0 0 0 r 0 0 ab_SH 116 [some (.ref 24), some (.ref t1), some (.int x2), some (.int x3), some (.long q19), none, some (.int x6), some (.int x7), some (.int x8)] [] M := by
        refine ev_iinc (y := x8 + 1) dX2_freeChannels_116 rfl (by first | rfl | decide) rfl rfl ?_
        refine ev_goto (t := 76) dX2_freeChannels_119 (by decide) ?_
        exact ih M t1 ht1 x2 x3 q19 x6 x7 (x8 + 1) _ h kk
      refine ev_icmp_eq (t := 116) dX2_freeChannels_86 (by decide) (fun hc22 => ?_) (fun hc22 => ?_)
      · replace hq20 := ab_pos hc22 hq20
        cases hq20
        exact hJ21
      · replace hq20 := ab_neg hc22 hq20
        refine ev_aload_n dX2_freeChannels_89 rfl ?_
        refine ev_aload_n dX2_freeChannels_90 rfl ?_
        refine ev_iload dX2_freeChannels_91 rfl ?_
        refine ev_iload dX2_freeChannels_93 rfl ?_
        refine ev_iload_n dX2_freeChannels_95 rfl ?_
        obtain ⟨q23, hv24, hq20⟩ := ab_bind hq20
        refine ev_callV (st := []) (co_X2_sumMates M t1 ht1 x6 x8 x2 _ hv24) mv_X2_sumMates sh_24 ml_RX2_93 dX2_freeChannels_96 (by decide) rfl (Nat.le_of_ble_eq_true rfl) ⟨Nat.le_refl _, Nat.le_refl _⟩ ?_
        refine ev_if_eq (t := 116) dX2_freeChannels_99 (by decide) (fun hc25 => ?_) (fun hc25 => ?_)
        · replace hq20 := ab_pos hc25 hq20
          cases hq20
          exact hJ21
        · replace hq20 := ab_neg hc25 hq20
          refine ev_lload dX2_freeChannels_102 rfl ?_
          refine ev_aload_n dX2_freeChannels_104 rfl ?_
          refine ev_aload_n dX2_freeChannels_105 rfl ?_
          refine ev_iload dX2_freeChannels_106 rfl ?_
          refine ev_iload dX2_freeChannels_108 rfl ?_
          obtain ⟨q26, hv27, hq20⟩ := ab_bind hq20
          refine ev_callV (st := [.long x4]) (co_X2_sumTargets M t1 ht1 x6 x8 _ hv27) mv_X2_sumTargets sh_24 ml_RX2_96 dX2_freeChannels_110 (by decide) rfl (Nat.le_of_ble_eq_true rfl) ⟨Nat.le_refl _, Nat.le_refl _⟩ ?_
          refine ev_lor dX2_freeChannels_113 ?_
          refine ev_lstore dX2_freeChannels_114 (Nat.le_of_ble_eq_true rfl) rfl rfl ?_
          cases hq20
          exact hJ21

noncomputable def mi_X2_freeChannels_6 : Nat → ab_M → Nat → Int32 → Int32 → Int64 → Int32 → Option (Int64 × Int32)
  | 0, _, _, _, _, _, _ => none
  | n + 1, M, t1, x2, x3, x4, x6 =>
    if x3 ≤ x6 then
      some (x4, x6)
    else
      ((if x6 = x2 then
        some x4
      else
        ab_chk (vp_in x6 16) <|
        if 0 ≤ (M.1 t1 (x6).toNatClampNeg) then
          (mi_X3_barOfWants M x6 x2).bind fun q8 =>
          (mi_X2_tooNear M t1 x6 q8).bind fun q10 =>
          (mi_X3_areNear M x6 x2).bind fun q12 =>
          ((if q12 = 0 then
            some 0
          else
            some x3) : Option (Int32)).bind fun q14 =>
          (mi_X2_freeChannels_76 ab_F M t1 x2 x3 (x4 ||| q10) x6 q14 (x6 + 1)).bind fun q28 =>
          some q28.1
        else
          some x4) : Option (Int64)).bind fun q2 =>
      mi_X2_freeChannels_6 n M t1 x2 x3 q2 (x6 + 1)

set_option maxHeartbeats 4000000 in
set_option maxRecDepth 100000 in
theorem lp_X2_freeChannels_6 {l : Launch} {D : va_G} {ac : Nat → ClassId} {n0 : Nat} {r : ab_Rs} : ∀ (n : Nat) (M : ab_M) (t1 : Nat) (ht1 : ab_isPlan t1) (x2 : Int32) (x3 : Int32) (x4 : Int64) (x6 : Int32) (q : Int64 × Int32) (h : mi_X2_freeChannels_6 n M t1 x2 x3 x4 x6 = some q) (kk : ab_Ev l D ac 4 me_X2_freeChannels n0 0 0 r 0 0 ab_SH 128 [some (.ref 24), some (.ref t1), some (.int x2), some (.int x3), some (.long q.1), none, some (.int q.2), none, none] [] M), ab_Ev l D ac 4 me_X2_freeChannels n0 0 0 r 0 0 ab_SH 6 [some (.ref 24), some (.ref t1), some (.int x2), some (.int x3), some (.long x4), none, some (.int x6), none, none] [] M := by
  intro n
  induction n with
  | zero =>
    intro M t1 ht1 x2 x3 x4 x6 q h kk
    cases h
  | succ n ih =>
    intro M t1 ht1 x2 x3 x4 x6 q h kk
    unfold mi_X2_freeChannels_6 at h
    refine ev_iload dX2_freeChannels_6 rfl ?_
    refine ev_iload_n dX2_freeChannels_8 rfl ?_
    refine ev_icmp_ge (t := 128) dX2_freeChannels_9 (by decide) (fun hc1 => ?_) (fun hc1 => ?_)
    · replace h := ab_pos hc1 h
      cases h
      exact kk
    · replace h := ab_neg hc1 h
      refine ev_iload dX2_freeChannels_12 rfl ?_
      refine ev_iload_n dX2_freeChannels_14 rfl ?_
      obtain ⟨q2, hq3, h⟩ := ab_bind h
      have hJ4 : ab_Ev l D ac 4 me_X2_freeChannels n0 0 0 r 0 0 ab_SH 122 [some (.ref 24), some (.ref t1), some (.int x2), some (.int x3), some (.long q2), none, some (.int x6), none, none] [] M := by
        refine ev_iinc (y := x6 + 1) dX2_freeChannels_122 rfl (by first | rfl | decide) rfl rfl ?_
        refine ev_goto (t := 6) dX2_freeChannels_125 (by decide) ?_
        exact ih M t1 ht1 x2 x3 q2 (x6 + 1) _ h kk
      refine ev_icmp_eq (t := 122) dX2_freeChannels_15 (by decide) (fun hc5 => ?_) (fun hc5 => ?_)
      · replace hq3 := ab_pos hc5 hq3
        cases hq3
        exact hJ4
      · replace hq3 := ab_neg hc5 hq3
        refine ev_aload_n dX2_freeChannels_18 rfl ?_
        refine ev_iload dX2_freeChannels_19 rfl ?_
        obtain ⟨hb6, hq3⟩ := ab_chk_some hq3
        refine ev_iaload ht1 hb6 dX2_freeChannels_21 ?_
        refine ev_if_ge (t := 28) dX2_freeChannels_22 (by decide) (fun hc7 => ?_) (fun hc7 => ?_)
        · replace hq3 := ab_pos hc7 hq3
          refine ev_lload dX2_freeChannels_28 rfl ?_
          refine ev_aload_n dX2_freeChannels_30 rfl ?_
          refine ev_aload_n dX2_freeChannels_31 rfl ?_
          refine ev_iload dX2_freeChannels_32 rfl ?_
          refine ev_aload_n dX2_freeChannels_34 rfl ?_
          refine ev_getr (o' := 1) fl_RX2_15 sh_24 (by decide) (by decide) rfl rfl dX2_freeChannels_35 ?_
          refine ev_iload dX2_freeChannels_38 rfl ?_
          refine ev_iload_n dX2_freeChannels_40 rfl ?_
          obtain ⟨q8, hv9, hq3⟩ := ab_bind hq3
          refine ev_callV (st := [.int x6, .ref t1, .ref 24, .long x4]) (co_X3_barOfWants M x6 x2 _ hv9) mv_X3_barOfWants sh_1 ml_RX2_45 dX2_freeChannels_41 (by decide) rfl (Nat.le_of_ble_eq_true rfl) ⟨Nat.le_refl _, Nat.le_refl _⟩ ?_
          obtain ⟨q10, hv11, hq3⟩ := ab_bind hq3
          refine ev_callV (st := [.long x4]) (co_X2_tooNear M t1 ht1 x6 q8 _ hv11) mv_X2_tooNear sh_24 ml_RX2_89 dX2_freeChannels_44 (by decide) rfl (Nat.le_of_ble_eq_true rfl) ⟨Nat.le_refl _, Nat.le_refl _⟩ ?_
          refine ev_lor dX2_freeChannels_47 ?_
          refine ev_lstore dX2_freeChannels_48 (Nat.le_of_ble_eq_true rfl) rfl rfl ?_
          refine ev_aload_n dX2_freeChannels_50 rfl ?_
          refine ev_getr (o' := 1) fl_RX2_15 sh_24 (by decide) (by decide) rfl rfl dX2_freeChannels_51 ?_
          refine ev_iload dX2_freeChannels_54 rfl ?_
          refine ev_iload_n dX2_freeChannels_56 rfl ?_
          obtain ⟨q12, hv13, hq3⟩ := ab_bind hq3
          refine ev_callV (st := []) (co_X3_areNear M x6 x2 _ hv13) mv_X3_areNear sh_1 ml_RX2_64 dX2_freeChannels_57 (by decide) rfl (Nat.le_of_ble_eq_true rfl) ⟨Nat.le_refl _, Nat.le_refl _⟩ ?_
          obtain ⟨q14, hq15, hq3⟩ := ab_bind hq3
          have hJ16 : ab_Ev l D ac 4 me_X2_freeChannels n0 0 0 r 0 0 ab_SH 68 [some (.ref 24), some (.ref t1), some (.int x2), some (.int x3), some (.long (x4 ||| q10)), none, some (.int x6), none, none] [.int q14] M := by
            refine ev_istore dX2_freeChannels_68 (Nat.le_of_ble_eq_true rfl) rfl rfl ?_
            refine ev_iload dX2_freeChannels_70 rfl ?_
            refine ev_iconst (x := 1) dX2_freeChannels_72 (by decide) ?_
            refine ev_iadd dX2_freeChannels_73 ?_
            refine ev_istore dX2_freeChannels_74 (Nat.le_of_ble_eq_true rfl) rfl rfl ?_
            obtain ⟨q28, hq29, hq3⟩ := ab_bind hq3
            refine lp_X2_freeChannels_76 _ M t1 ht1 x2 x3 (x4 ||| q10) x6 q14 (x6 + 1) _ hq29 ?_
            cases hq3
            refine ev_drop (lv' := [some (.ref 24), some (.ref t1), some (.int x2), some (.int x3), some (.long q28.1), none, some (.int x6), none, none]) (ab_sub_k (ab_sub_k (ab_sub_k (ab_sub_k (ab_sub_k (ab_sub_k (ab_sub_k (ab_sub_d (ab_sub_d ab_sub_nil))))))))) ?_
            exact hJ4
          refine ev_if_eq (t := 67) dX2_freeChannels_60 (by decide) (fun hc17 => ?_) (fun hc17 => ?_)
          · replace hq15 := ab_pos hc17 hq15
            refine ev_iconst (x := 0) dX2_freeChannels_67 (by decide) ?_
            cases hq15
            exact hJ16
          · replace hq15 := ab_neg hc17 hq15
            refine ev_iload_n dX2_freeChannels_63 rfl ?_
            refine ev_goto (t := 68) dX2_freeChannels_64 (by decide) ?_
            cases hq15
            exact hJ16
        · replace hq3 := ab_neg hc7 hq3
          refine ev_goto (t := 122) dX2_freeChannels_25 (by decide) ?_
          cases hq3
          exact hJ4

noncomputable def mi_X2_freeChannels (M : ab_M) (t1 : Nat) (x2 : Int32) (x3 : Int32) : Option (Int32) :=
  (mi_X2_freeChannels_6 ab_F M t1 x2 x3 0 0).bind fun q30 =>
  (mi_X3_allowed M x2).bind fun q32 =>
  (mi_X3_gapOf M x2).bind fun q34 =>
  some (q32 &&& (Int64.toInt32 ((q30.1 ||| (ab_lushr q30.1 q34)) ^^^ (-1))))

set_option maxHeartbeats 4000000 in
set_option maxRecDepth 100000 in
theorem co_X2_freeChannels {l : Launch} {D : va_G} {ac : Nat → ClassId} (M : ab_M) (t1 : Nat) (ht1 : ab_isPlan t1) (x2 : Int32) (x3 : Int32) (z : Int32) (h : mi_X2_freeChannels M t1 x2 x3 = some z) : ab_Con l D ac 4 me_X2_freeChannels 0 0 [.ref 24, .ref t1, .int x2, .int x3] ab_SH M (some (.int z), ab_SH, M) := by
  refine ab_intro (lv := [some (.ref 24), some (.ref t1), some (.int x2), some (.int x3), none, none, none, none, none]) (by decide) rfl (Nat.le_of_ble_eq_true rfl) rfl ?_
  unfold mi_X2_freeChannels at h
  refine ev_lconst (x := 0) dX2_freeChannels_0 (by decide) ?_
  refine ev_lstore dX2_freeChannels_1 (Nat.le_of_ble_eq_true rfl) rfl rfl ?_
  refine ev_iconst (x := 0) dX2_freeChannels_3 (by decide) ?_
  refine ev_istore dX2_freeChannels_4 (Nat.le_of_ble_eq_true rfl) rfl rfl ?_
  obtain ⟨q30, hq31, h⟩ := ab_bind h
  refine lp_X2_freeChannels_6 _ M t1 ht1 x2 x3 0 0 _ hq31 ?_
  refine ev_aload_n dX2_freeChannels_128 rfl ?_
  refine ev_getr (o' := 1) fl_RX2_15 sh_24 (by decide) (by decide) rfl rfl dX2_freeChannels_129 ?_
  refine ev_iload_n dX2_freeChannels_132 rfl ?_
  obtain ⟨q32, hv33, h⟩ := ab_bind h
  refine ev_callV (st := []) (co_X3_allowed M x2 _ hv33) mv_X3_allowed sh_1 ml_RX2_83 dX2_freeChannels_133 (by decide) rfl (Nat.le_of_ble_eq_true rfl) ⟨Nat.le_refl _, Nat.le_refl _⟩ ?_
  refine ev_lload dX2_freeChannels_136 rfl ?_
  refine ev_lload dX2_freeChannels_138 rfl ?_
  refine ev_aload_n dX2_freeChannels_140 rfl ?_
  refine ev_getr (o' := 1) fl_RX2_15 sh_24 (by decide) (by decide) rfl rfl dX2_freeChannels_141 ?_
  refine ev_iload_n dX2_freeChannels_144 rfl ?_
  obtain ⟨q34, hv35, h⟩ := ab_bind h
  refine ev_callV (st := [.long q30.1, .long q30.1, .int q32]) (co_X3_gapOf M x2 _ hv35) mv_X3_gapOf sh_1 ml_RX2_49 dX2_freeChannels_145 (by decide) rfl (Nat.le_of_ble_eq_true rfl) ⟨Nat.le_refl _, Nat.le_refl _⟩ ?_
  refine ev_lushr dX2_freeChannels_148 ?_
  refine ev_lor dX2_freeChannels_149 ?_
  refine ev_ldc2 kw_RX2_99 dX2_freeChannels_150 ?_
  refine ev_lxor dX2_freeChannels_153 ?_
  refine ev_l2i dX2_freeChannels_154 ?_
  refine ev_iand dX2_freeChannels_155 ?_
  cases h
  exact ev_ireturn rfl dX2_freeChannels_156

noncomputable def mi_X2_isClean_2 : Nat → ab_M → Nat → Int32 → Option (Sum (Int32) (Int32))
  | 0, _, _, _ => none
  | n + 1, M, t1, x2 =>
    if (M.1 1 8) ≤ x2 then
      some (.inl x2)
    else
      ab_chk (vp_in x2 16) <|
      if (M.1 t1 (x2).toNatClampNeg) < 0 then
        mi_X2_isClean_2 n M t1 (x2 + 1)
      else
        (mi_X2_freeChannels M t1 x2 x2).bind fun q4 =>
        ab_chk (vp_in x2 16) <|
        if ((ab_ushr q4 (M.1 t1 (x2).toNatClampNeg)) &&& 1) = 0 then
          some (.inr 0)
        else
          mi_X2_isClean_2 n M t1 (x2 + 1)

set_option maxHeartbeats 4000000 in
set_option maxRecDepth 100000 in
theorem lp_X2_isClean_2 {l : Launch} {D : va_G} {ac : Nat → ClassId} {n0 : Nat} {r : ab_Rs} : ∀ (n : Nat) (M : ab_M) (t1 : Nat) (ht1 : ab_isPlan t1) (x2 : Int32) (q : Sum (Int32) (Int32)) (h : mi_X2_isClean_2 n M t1 x2 = some q) (kk : ∀ y, q = .inl y → ab_Ev l D ac 5 me_X2_isClean n0 0 0 r 0 0 ab_SH 43 [some (.ref 24), some (.ref t1), some (.int y)] [] M) (kr : ∀ v, q = .inr v → r = (some (.int v), ab_SH, M)), ab_Ev l D ac 5 me_X2_isClean n0 0 0 r 0 0 ab_SH 2 [some (.ref 24), some (.ref t1), some (.int x2)] [] M := by
  intro n
  induction n with
  | zero =>
    intro M t1 ht1 x2 q h kk kr
    cases h
  | succ n ih =>
    intro M t1 ht1 x2 q h kk kr
    unfold mi_X2_isClean_2 at h
    refine ev_iload_n dX2_isClean_2 rfl ?_
    refine ev_aload_n dX2_isClean_3 rfl ?_
    refine ev_getr (o' := 1) fl_RX2_15 sh_24 (by decide) (by decide) rfl rfl dX2_isClean_4 ?_
    refine ev_geti fl_RX2_19 sh_1 (by decide) (by decide) rfl dX2_isClean_7 ?_
    refine ev_icmp_ge (t := 43) dX2_isClean_10 (by decide) (fun hc1 => ?_) (fun hc1 => ?_)
    · replace h := ab_pos hc1 h
      cases h
      exact kk _ rfl
    · replace h := ab_neg hc1 h
      refine ev_aload_n dX2_isClean_13 rfl ?_
      refine ev_iload_n dX2_isClean_14 rfl ?_
      obtain ⟨hb2, h⟩ := ab_chk_some h
      refine ev_iaload ht1 hb2 dX2_isClean_15 ?_
      refine ev_if_lt (t := 37) dX2_isClean_16 (by decide) (fun hc3 => ?_) (fun hc3 => ?_)
      · replace h := ab_pos hc3 h
        refine ev_iinc (y := x2 + 1) dX2_isClean_37 rfl (by first | rfl | decide) rfl rfl ?_
        refine ev_goto (t := 2) dX2_isClean_40 (by decide) ?_
        exact ih M t1 ht1 (x2 + 1) _ h kk kr
      · replace h := ab_neg hc3 h
        refine ev_aload_n dX2_isClean_19 rfl ?_
        refine ev_aload_n dX2_isClean_20 rfl ?_
        refine ev_iload_n dX2_isClean_21 rfl ?_
        refine ev_iload_n dX2_isClean_22 rfl ?_
        obtain ⟨q4, hv5, h⟩ := ab_bind h
        refine ev_callV (st := []) (co_X2_freeChannels M t1 ht1 x2 x2 _ hv5) mv_X2_freeChannels sh_24 ml_RX2_86 dX2_isClean_23 (by decide) rfl (Nat.le_of_ble_eq_true rfl) ⟨Nat.le_refl _, Nat.le_refl _⟩ ?_
        refine ev_aload_n dX2_isClean_26 rfl ?_
        refine ev_iload_n dX2_isClean_27 rfl ?_
        obtain ⟨hb6, h⟩ := ab_chk_some h
        refine ev_iaload ht1 hb6 dX2_isClean_28 ?_
        refine ev_iushr dX2_isClean_29 ?_
        refine ev_iconst (x := 1) dX2_isClean_30 (by decide) ?_
        refine ev_iand dX2_isClean_31 ?_
        refine ev_if_ne (t := 37) dX2_isClean_32 (by decide) (fun hc7 => ?_) (fun hc7 => ?_)
        · replace h := ab_neg hc7 h
          refine ev_iinc (y := x2 + 1) dX2_isClean_37 rfl (by first | rfl | decide) rfl rfl ?_
          refine ev_goto (t := 2) dX2_isClean_40 (by decide) ?_
          exact ih M t1 ht1 (x2 + 1) _ h kk kr
        · replace h := ab_pos hc7 h
          refine ev_iconst (x := 0) dX2_isClean_35 (by decide) ?_
          cases h
          rw [kr _ rfl]
          exact ev_zreturn rfl (Or.inl rfl) dX2_isClean_36

noncomputable def mi_X2_isClean (M : ab_M) (t1 : Nat) : Option (Int32) :=
  (mi_X2_isClean_2 ab_F M t1 0).bind fun q11 => Sum.elim (fun q8 =>
  some 1) (fun v10 => some v10) q11

set_option maxHeartbeats 4000000 in
set_option maxRecDepth 100000 in
theorem co_X2_isClean {l : Launch} {D : va_G} {ac : Nat → ClassId} (M : ab_M) (t1 : Nat) (ht1 : ab_isPlan t1) (z : Int32) (h : mi_X2_isClean M t1 = some z) : ab_Con l D ac 5 me_X2_isClean 0 0 [.ref 24, .ref t1] ab_SH M (some (.int z), ab_SH, M) := by
  refine ab_intro (lv := [some (.ref 24), some (.ref t1), none]) (by decide) rfl (Nat.le_of_ble_eq_true rfl) rfl ?_
  unfold mi_X2_isClean at h
  refine ev_iconst (x := 0) dX2_isClean_0 (by decide) ?_
  refine ev_istore_n dX2_isClean_1 (Nat.le_of_ble_eq_true rfl) rfl rfl ?_
  obtain ⟨q11, hq9, h⟩ := ab_bind h
  rcases ab_elim h with ⟨q8, rfl, h⟩ | ⟨v10, rfl, h⟩
  · refine lp_X2_isClean_2 _ M t1 ht1 0 _ hq9 (fun z e12 => ?_) (fun z e12 => by cases e12)
    cases e12
    refine ev_iconst (x := 1) dX2_isClean_43 (by decide) ?_
    cases h
    exact ev_zreturn rfl (Or.inr rfl) dX2_isClean_44
  · refine lp_X2_isClean_2 _ M t1 ht1 0 _ hq9 (fun z e12 => by cases e12) (fun z e12 => ?_)
    cases e12
    cases h
    rfl

noncomputable def mi_X2_addLacks_60 : Nat → ab_M → Nat → Int32 → Int32 → Int32 → Int32 → Option (Int32 × ab_M)
  | 0, _, _, _, _, _, _ => none
  | n + 1, M, t1, x2, x3, x6, x7 =>
    if x6 < x7 then
      some (x7, M)
    else
      ab_chk (vp_in x7 30) <|
      ab_chk (vp_in x2 16) <|
      (mi_X2_lackAt M x2 (M.1 t1 (x2).toNatClampNeg) x3 x7).bind fun q16 =>
      ab_chk (vp_in x7 30) <|
      mi_X2_addLacks_60 n (ab_pi M 25 (x7).toNatClampNeg ((M.1 25 (x7).toNatClampNeg) + q16)) t1 x2 x3 x6 (x7 + 1)

set_option maxHeartbeats 4000000 in
set_option maxRecDepth 100000 in
theorem lp_X2_addLacks_60 {l : Launch} {D : va_G} {ac : Nat → ClassId} {n0 : Nat} {r : ab_Rs} : ∀ (n : Nat) (M : ab_M) (t1 : Nat) (ht1 : ab_isPlan t1) (x2 : Int32) (x3 : Int32) (x6 : Int32) (x7 : Int32) (q : Int32 × ab_M) (h : mi_X2_addLacks_60 n M t1 x2 x3 x6 x7 = some q) (kk : ab_Ev l D ac 4 me_X2_addLacks n0 0 0 r 0 0 ab_SH 94 [some (.ref 24), some (.ref t1), some (.int x2), some (.int x3), none, none, some (.int x6), some (.int q.1)] [] q.2), ab_Ev l D ac 4 me_X2_addLacks n0 0 0 r 0 0 ab_SH 60 [some (.ref 24), some (.ref t1), some (.int x2), some (.int x3), none, none, some (.int x6), some (.int x7)] [] M := by
  intro n
  induction n with
  | zero =>
    intro M t1 ht1 x2 x3 x6 x7 q h kk
    cases h
  | succ n ih =>
    intro M t1 ht1 x2 x3 x6 x7 q h kk
    unfold mi_X2_addLacks_60 at h
    refine ev_iload dX2_addLacks_60 rfl ?_
    refine ev_iload dX2_addLacks_62 rfl ?_
    refine ev_icmp_gt (t := 94) dX2_addLacks_64 (by decide) (fun hc13 => ?_) (fun hc13 => ?_)
    · replace h := ab_pos hc13 h
      cases h
      exact kk
    · replace h := ab_neg hc13 h
      refine ev_aload_n dX2_addLacks_67 rfl ?_
      refine ev_getr (o' := 25) fl_RX2_9 sh_24 (by decide) (by decide) rfl rfl dX2_addLacks_68 ?_
      refine ev_iload dX2_addLacks_71 rfl ?_
      refine ev_dup2 dX2_addLacks_73 rfl rfl ?_
      obtain ⟨hb14, h⟩ := ab_chk_some h
      refine ev_iaload sh_25 hb14 dX2_addLacks_74 ?_
      refine ev_aload_n dX2_addLacks_75 rfl ?_
      refine ev_iload_n dX2_addLacks_76 rfl ?_
      refine ev_aload_n dX2_addLacks_77 rfl ?_
      refine ev_iload_n dX2_addLacks_78 rfl ?_
      obtain ⟨hb15, h⟩ := ab_chk_some h
      refine ev_iaload ht1 hb15 dX2_addLacks_79 ?_
      refine ev_iload_n dX2_addLacks_80 rfl ?_
      refine ev_iload dX2_addLacks_81 rfl ?_
      obtain ⟨q16, hv17, h⟩ := ab_bind h
      refine ev_callV (st := [.int (M.1 25 (x7).toNatClampNeg), .int x7, .ref 25]) (co_X2_lackAt M x2 (M.1 t1 (x2).toNatClampNeg) x3 x7 _ hv17) mv_X2_lackAt sh_24 ml_RX2_41 dX2_addLacks_83 (by decide) rfl (Nat.le_of_ble_eq_true rfl) ⟨Nat.le_refl _, Nat.le_refl _⟩ ?_
      refine ev_iadd dX2_addLacks_86 ?_
      obtain ⟨hb18, h⟩ := ab_chk_some h
      refine ev_iastore sh_25 hb18 dX2_addLacks_87 ?_
      refine ev_iinc (y := x7 + 1) dX2_addLacks_88 rfl (by first | rfl | decide) rfl rfl ?_
      refine ev_goto (t := 60) dX2_addLacks_91 (by decide) ?_
      exact ih (ab_pi M 25 (x7).toNatClampNeg ((M.1 25 (x7).toNatClampNeg) + q16)) t1 ht1 x2 x3 x6 (x7 + 1) _ h kk

noncomputable def mi_X2_addLacks (M : ab_M) (t1 : Nat) (x2 : Int32) (x3 : Int32) : Option (ab_M) :=
  (mi_X3_barOfWants M x2 x3).bind fun q1 =>
  ab_chk (vp_in x2 16) <|
  (mi_X3_gapOf M x3).bind fun q4 =>
  (some (ab_max 0 (((M.1 t1 (x2).toNatClampNeg) - q4) - (q1 - 1))) : Option Int32).bind fun v6 =>
  ab_chk (vp_in x2 16) <|
  (mi_X3_gapOf M x2).bind fun q9 =>
  (some (ab_min 29 (((M.1 t1 (x2).toNatClampNeg) + q9) + (q1 - 1))) : Option Int32).bind fun v11 =>
  (mi_X2_addLacks_60 ab_F M t1 x2 x3 v11 v6).bind fun q19 =>
  some q19.2

set_option maxHeartbeats 4000000 in
set_option maxRecDepth 100000 in
theorem co_X2_addLacks {l : Launch} {D : va_G} {ac : Nat → ClassId} (M : ab_M) (t1 : Nat) (ht1 : ab_isPlan t1) (x2 : Int32) (x3 : Int32) (z : ab_M) (h : mi_X2_addLacks M t1 x2 x3 = some z) : ab_Con l D ac 4 me_X2_addLacks 0 0 [.ref 24, .ref t1, .int x2, .int x3] ab_SH M (none, ab_SH, z) := by
  refine ab_intro (lv := [some (.ref 24), some (.ref t1), some (.int x2), some (.int x3), none, none, none, none]) (by decide) rfl (Nat.le_of_ble_eq_true rfl) rfl ?_
  unfold mi_X2_addLacks at h
  refine ev_aload_n dX2_addLacks_0 rfl ?_
  refine ev_getr (o' := 1) fl_RX2_15 sh_24 (by decide) (by decide) rfl rfl dX2_addLacks_1 ?_
  refine ev_iload_n dX2_addLacks_4 rfl ?_
  refine ev_iload_n dX2_addLacks_5 rfl ?_
  obtain ⟨q1, hv2, h⟩ := ab_bind h
  refine ev_callV (st := []) (co_X3_barOfWants M x2 x3 _ hv2) mv_X3_barOfWants sh_1 ml_RX2_45 dX2_addLacks_6 (by decide) rfl (Nat.le_of_ble_eq_true rfl) ⟨Nat.le_refl _, Nat.le_refl _⟩ ?_
  refine ev_iconst (x := 1) dX2_addLacks_9 (by decide) ?_
  refine ev_isub dX2_addLacks_10 ?_
  refine ev_istore dX2_addLacks_11 (Nat.le_of_ble_eq_true rfl) rfl rfl ?_
  refine ev_iconst (x := 0) dX2_addLacks_13 (by decide) ?_
  refine ev_aload_n dX2_addLacks_14 rfl ?_
  refine ev_iload_n dX2_addLacks_15 rfl ?_
  obtain ⟨hb3, h⟩ := ab_chk_some h
  refine ev_iaload ht1 hb3 dX2_addLacks_16 ?_
  refine ev_aload_n dX2_addLacks_17 rfl ?_
  refine ev_getr (o' := 1) fl_RX2_15 sh_24 (by decide) (by decide) rfl rfl dX2_addLacks_18 ?_
  refine ev_iload_n dX2_addLacks_21 rfl ?_
  obtain ⟨q4, hv5, h⟩ := ab_bind h
  refine ev_callV (st := [.int (M.1 t1 (x2).toNatClampNeg), .int 0]) (co_X3_gapOf M x3 _ hv5) mv_X3_gapOf sh_1 ml_RX2_49 dX2_addLacks_22 (by decide) rfl (Nat.le_of_ble_eq_true rfl) ⟨Nat.le_refl _, Nat.le_refl _⟩ ?_
  refine ev_isub dX2_addLacks_25 ?_
  refine ev_iload dX2_addLacks_26 rfl ?_
  refine ev_isub dX2_addLacks_28 ?_
  refine ev_max ml_RX2_57 dX2_addLacks_29 (by decide) (Nat.le_of_ble_eq_true rfl) ⟨Nat.le_refl _, Nat.le_refl _⟩ ?_
  obtain ⟨v6, hq7, h⟩ := ab_bind h
  refine ev_nmi (Option.some.inj hq7) ?_
  refine ev_istore (x := v6) dX2_addLacks_32 (Nat.le_of_ble_eq_true rfl) rfl rfl ?_
  refine ev_bipush (x := 29) dX2_addLacks_34 (by decide) ?_
  refine ev_aload_n dX2_addLacks_36 rfl ?_
  refine ev_iload_n dX2_addLacks_37 rfl ?_
  obtain ⟨hb8, h⟩ := ab_chk_some h
  refine ev_iaload ht1 hb8 dX2_addLacks_38 ?_
  refine ev_aload_n dX2_addLacks_39 rfl ?_
  refine ev_getr (o' := 1) fl_RX2_15 sh_24 (by decide) (by decide) rfl rfl dX2_addLacks_40 ?_
  refine ev_iload_n dX2_addLacks_43 rfl ?_
  obtain ⟨q9, hv10, h⟩ := ab_bind h
  refine ev_callV (st := [.int (M.1 t1 (x2).toNatClampNeg), .int 29]) (co_X3_gapOf M x2 _ hv10) mv_X3_gapOf sh_1 ml_RX2_49 dX2_addLacks_44 (by decide) rfl (Nat.le_of_ble_eq_true rfl) ⟨Nat.le_refl _, Nat.le_refl _⟩ ?_
  refine ev_iadd dX2_addLacks_47 ?_
  refine ev_iload dX2_addLacks_48 rfl ?_
  refine ev_iadd dX2_addLacks_50 ?_
  refine ev_min ml_RX2_113 dX2_addLacks_51 (by decide) (Nat.le_of_ble_eq_true rfl) ⟨Nat.le_refl _, Nat.le_refl _⟩ ?_
  obtain ⟨v11, hq12, h⟩ := ab_bind h
  refine ev_nmi (Option.some.inj hq12) ?_
  refine ev_istore (x := v11) dX2_addLacks_54 (Nat.le_of_ble_eq_true rfl) rfl rfl ?_
  refine ev_iload dX2_addLacks_56 rfl ?_
  refine ev_istore dX2_addLacks_58 (Nat.le_of_ble_eq_true rfl) rfl rfl ?_
  obtain ⟨q19, hq20, h⟩ := ab_bind h
  refine ev_drop (lv' := [some (.ref 24), some (.ref t1), some (.int x2), some (.int x3), none, none, some (.int v11), some (.int v6)]) (ab_sub_k (ab_sub_k (ab_sub_k (ab_sub_k (ab_sub_d (ab_sub_d (ab_sub_k (ab_sub_k ab_sub_nil)))))))) ?_
  refine lp_X2_addLacks_60 _ M t1 ht1 x2 x3 v11 v6 _ hq20 ?_
  cases h
  exact ev_return rfl dX2_addLacks_94

noncomputable def mi_X2_addSumAt (M : ab_M) (x1 : Int32) (x2 : Int32) : Option (ab_M) :=
  (mi_X9_within M x1 0 29).bind fun q1 =>
  ((if q1 = 0 then
    some M
  else
    ab_chk (vp_in x1 30) <|
    ab_chk (vp_in x1 30) <|
    some (ab_pi M 25 (x1).toNatClampNeg ((M.1 25 (x1).toNatClampNeg) + 5))) : Option (ab_M)).bind fun q3 =>
  if x2 ≤ 0 then
    some q3
  else
    (mi_X9_within q3 (x1 - x2) 0 29).bind fun q10 =>
    if q10 = 0 then
      some q3
    else
      ab_chk (vp_in (x1 - x2) 30) <|
      ab_chk (vp_in (x1 - x2) 30) <|
      some (ab_pi q3 25 (x1 - x2).toNatClampNeg ((q3.1 25 (x1 - x2).toNatClampNeg) + 5))

set_option maxHeartbeats 4000000 in
set_option maxRecDepth 100000 in
theorem co_X2_addSumAt {l : Launch} {D : va_G} {ac : Nat → ClassId} (M : ab_M) (x1 : Int32) (x2 : Int32) (z : ab_M) (h : mi_X2_addSumAt M x1 x2 = some z) : ab_Con l D ac 2 me_X2_addSumAt 0 0 [.ref 24, .int x1, .int x2] ab_SH M (none, ab_SH, z) := by
  refine ab_intro (lv := [some (.ref 24), some (.int x1), some (.int x2)]) (by decide) rfl (Nat.le_of_ble_eq_true rfl) rfl ?_
  unfold mi_X2_addSumAt at h
  refine ev_iload_n dX2_addSumAt_0 rfl ?_
  refine ev_iconst (x := 0) dX2_addSumAt_1 (by decide) ?_
  refine ev_bipush (x := 29) dX2_addSumAt_2 (by decide) ?_
  obtain ⟨q1, hv2, h⟩ := ab_bind h
  refine ev_callSN (st := []) (co_X9_within M x1 0 29 _ hv2) mv_X9_within ml_RX2_120 dX2_addSumAt_4 (by decide) rfl (Nat.le_of_ble_eq_true rfl) ⟨Nat.le_refl _, Nat.le_refl _⟩ ?_
  obtain ⟨q3, hq4, h⟩ := ab_bind h
  have hJ5 : ab_Ev l D ac 2 me_X2_addSumAt ab_SH.length 0 0 (none, ab_SH, z) 0 0 ab_SH 20 [some (.ref 24), some (.int x1), some (.int x2)] [] q3 := by
    refine ev_iload_n dX2_addSumAt_20 rfl ?_
    refine ev_if_le (t := 48) dX2_addSumAt_21 (by decide) (fun hc9 => ?_) (fun hc9 => ?_)
    · replace h := ab_pos hc9 h
      cases h
      exact ev_return rfl dX2_addSumAt_48
    · replace h := ab_neg hc9 h
      refine ev_iload_n dX2_addSumAt_24 rfl ?_
      refine ev_iload_n dX2_addSumAt_25 rfl ?_
      refine ev_isub dX2_addSumAt_26 ?_
      refine ev_iconst (x := 0) dX2_addSumAt_27 (by decide) ?_
      refine ev_bipush (x := 29) dX2_addSumAt_28 (by decide) ?_
      obtain ⟨q10, hv11, h⟩ := ab_bind h
      refine ev_callSN (st := []) (co_X9_within q3 (x1 - x2) 0 29 _ hv11) mv_X9_within ml_RX2_120 dX2_addSumAt_30 (by decide) rfl (Nat.le_of_ble_eq_true rfl) ⟨Nat.le_refl _, Nat.le_refl _⟩ ?_
      refine ev_if_eq (t := 48) dX2_addSumAt_33 (by decide) (fun hc12 => ?_) (fun hc12 => ?_)
      · replace h := ab_pos hc12 h
        cases h
        exact ev_return rfl dX2_addSumAt_48
      · replace h := ab_neg hc12 h
        refine ev_aload_n dX2_addSumAt_36 rfl ?_
        refine ev_getr (o' := 25) fl_RX2_9 sh_24 (by decide) (by decide) rfl rfl dX2_addSumAt_37 ?_
        refine ev_iload_n dX2_addSumAt_40 rfl ?_
        refine ev_iload_n dX2_addSumAt_41 rfl ?_
        refine ev_isub dX2_addSumAt_42 ?_
        refine ev_dup2 dX2_addSumAt_43 rfl rfl ?_
        obtain ⟨hb13, h⟩ := ab_chk_some h
        refine ev_iaload sh_25 hb13 dX2_addSumAt_44 ?_
        refine ev_iconst (x := 5) dX2_addSumAt_45 (by decide) ?_
        refine ev_iadd dX2_addSumAt_46 ?_
        obtain ⟨hb14, h⟩ := ab_chk_some h
        refine ev_iastore sh_25 hb14 dX2_addSumAt_47 ?_
        cases h
        exact ev_return rfl dX2_addSumAt_48
  refine ev_if_eq (t := 20) dX2_addSumAt_7 (by decide) (fun hc6 => ?_) (fun hc6 => ?_)
  · replace hq4 := ab_pos hc6 hq4
    cases hq4
    exact hJ5
  · replace hq4 := ab_neg hc6 hq4
    refine ev_aload_n dX2_addSumAt_10 rfl ?_
    refine ev_getr (o' := 25) fl_RX2_9 sh_24 (by decide) (by decide) rfl rfl dX2_addSumAt_11 ?_
    refine ev_iload_n dX2_addSumAt_14 rfl ?_
    refine ev_dup2 dX2_addSumAt_15 rfl rfl ?_
    obtain ⟨hb7, hq4⟩ := ab_chk_some hq4
    refine ev_iaload sh_25 hb7 dX2_addSumAt_16 ?_
    refine ev_iconst (x := 5) dX2_addSumAt_17 (by decide) ?_
    refine ev_iadd dX2_addSumAt_18 ?_
    obtain ⟨hb8, hq4⟩ := ab_chk_some hq4
    refine ev_iastore sh_25 hb8 dX2_addSumAt_19 ?_
    cases hq4
    exact hJ5

noncomputable def mi_X2_addSums_41 : Nat → ab_M → Nat → Int32 → Int32 → Int32 → Int32 → Int32 → Int32 → Int32 → Option (Int32 × ab_M)
  | 0, _, _, _, _, _, _, _, _, _ => none
  | n + 1, M, t1, x2, x3, x4, x5, x6, x7, x8 =>
    ab_chk (vp_in x3 16) <|
    if ((M.1 t1 (x3).toNatClampNeg) + x6) < x8 then
      some (x8, M)
    else
      (mi_X2_addSumAt M (((2 : Int32) * x7) - x8) x4).bind fun q11 =>
      (mi_X2_addSumAt q11 (((2 : Int32) * x8) - x7) x4).bind fun q13 =>
      ((if (ab_rem (x7 + x8) 2) = 0 then
        (mi_X2_addSumAt q13 ((x7 + x8) / 2) x4).bind fun q19 =>
        some q19
      else
        some q13) : Option (ab_M)).bind fun q15 =>
      mi_X2_addSums_41 n q15 t1 x2 x3 x4 x5 x6 x7 (x8 + (ab_max 1 x6))

set_option maxHeartbeats 4000000 in
set_option maxRecDepth 100000 in
theorem lp_X2_addSums_41 {l : Launch} {D : va_G} {ac : Nat → ClassId} {n0 : Nat} {r : ab_Rs} : ∀ (n : Nat) (M : ab_M) (t1 : Nat) (ht1 : ab_isPlan t1) (x2 : Int32) (x3 : Int32) (x4 : Int32) (x5 : Int32) (x6 : Int32) (x7 : Int32) (x8 : Int32) (q : Int32 × ab_M) (h : mi_X2_addSums_41 n M t1 x2 x3 x4 x5 x6 x7 x8 = some q) (kk : ab_Ev l D ac 3 me_X2_addSums n0 0 0 r 0 0 ab_SH 115 [some (.ref 24), some (.ref t1), some (.int x2), some (.int x3), some (.int x4), some (.int x5), some (.int x6), some (.int x7), some (.int q.1)] [] q.2), ab_Ev l D ac 3 me_X2_addSums n0 0 0 r 0 0 ab_SH 41 [some (.ref 24), some (.ref t1), some (.int x2), some (.int x3), some (.int x4), some (.int x5), some (.int x6), some (.int x7), some (.int x8)] [] M := by
  intro n
  induction n with
  | zero =>
    intro M t1 ht1 x2 x3 x4 x5 x6 x7 x8 q h kk
    cases h
  | succ n ih =>
    intro M t1 ht1 x2 x3 x4 x5 x6 x7 x8 q h kk
    unfold mi_X2_addSums_41 at h
    refine ev_iload dX2_addSums_41 rfl ?_
    refine ev_aload_n dX2_addSums_43 rfl ?_
    refine ev_iload_n dX2_addSums_44 rfl ?_
    obtain ⟨hb9, h⟩ := ab_chk_some h
    refine ev_iaload ht1 hb9 dX2_addSums_45 ?_
    refine ev_iload dX2_addSums_46 rfl ?_
    refine ev_iadd dX2_addSums_48 ?_
    refine ev_icmp_gt (t := 115) dX2_addSums_49 (by decide) (fun hc10 => ?_) (fun hc10 => ?_)
    · replace h := ab_pos hc10 h
      cases h
      exact kk
    · replace h := ab_neg hc10 h
      refine ev_aload_n dX2_addSums_52 rfl ?_
      refine ev_iconst (x := 2) dX2_addSums_53 (by decide) ?_
      refine ev_iload dX2_addSums_54 rfl ?_
      refine ev_imul dX2_addSums_56 ?_
      refine ev_iload dX2_addSums_57 rfl ?_
      refine ev_isub dX2_addSums_59 ?_
      refine ev_iload dX2_addSums_60 rfl ?_
      obtain ⟨q11, hv12, h⟩ := ab_bind h
      refine ev_callV (st := []) (co_X2_addSumAt M (((2 : Int32) * x7) - x8) x4 _ hv12) mv_X2_addSumAt sh_24 ml_RX2_116 dX2_addSums_62 (by decide) rfl (Nat.le_of_ble_eq_true rfl) ⟨Nat.le_refl _, Nat.le_refl _⟩ ?_
      refine ev_aload_n dX2_addSums_65 rfl ?_
      refine ev_iconst (x := 2) dX2_addSums_66 (by decide) ?_
      refine ev_iload dX2_addSums_67 rfl ?_
      refine ev_imul dX2_addSums_69 ?_
      refine ev_iload dX2_addSums_70 rfl ?_
      refine ev_isub dX2_addSums_72 ?_
      refine ev_iload dX2_addSums_73 rfl ?_
      obtain ⟨q13, hv14, h⟩ := ab_bind h
      refine ev_callV (st := []) (co_X2_addSumAt q11 (((2 : Int32) * x8) - x7) x4 _ hv14) mv_X2_addSumAt sh_24 ml_RX2_116 dX2_addSums_75 (by decide) rfl (Nat.le_of_ble_eq_true rfl) ⟨Nat.le_refl _, Nat.le_refl _⟩ ?_
      refine ev_iload dX2_addSums_78 rfl ?_
      refine ev_iload dX2_addSums_80 rfl ?_
      refine ev_iadd dX2_addSums_82 ?_
      refine ev_iconst (x := 2) dX2_addSums_83 (by decide) ?_
      refine ev_irem dX2_addSums_84 (by decide) ?_
      obtain ⟨q15, hq16, h⟩ := ab_bind h
      have hJ17 : ab_Ev l D ac 3 me_X2_addSums n0 0 0 r 0 0 ab_SH 101 [some (.ref 24), some (.ref t1), some (.int x2), some (.int x3), some (.int x4), some (.int x5), some (.int x6), some (.int x7), some (.int x8)] [] q15 := by
        refine ev_iload dX2_addSums_101 rfl ?_
        refine ev_iconst (x := 1) dX2_addSums_103 (by decide) ?_
        refine ev_iload dX2_addSums_104 rfl ?_
        refine ev_max ml_RX2_57 dX2_addSums_106 (by decide) (Nat.le_of_ble_eq_true rfl) ⟨Nat.le_refl _, Nat.le_refl _⟩ ?_
        refine ev_iadd dX2_addSums_109 ?_
        refine ev_istore dX2_addSums_110 (Nat.le_of_ble_eq_true rfl) rfl rfl ?_
        refine ev_goto (t := 41) dX2_addSums_112 (by decide) ?_
        exact ih q15 t1 ht1 x2 x3 x4 x5 x6 x7 (x8 + (ab_max 1 x6)) _ h kk
      refine ev_if_ne (t := 101) dX2_addSums_85 (by decide) (fun hc18 => ?_) (fun hc18 => ?_)
      · replace hq16 := ab_neg hc18 hq16
        cases hq16
        exact hJ17
      · replace hq16 := ab_pos hc18 hq16
        refine ev_aload_n dX2_addSums_88 rfl ?_
        refine ev_iload dX2_addSums_89 rfl ?_
        refine ev_iload dX2_addSums_91 rfl ?_
        refine ev_iadd dX2_addSums_93 ?_
        refine ev_iconst (x := 2) dX2_addSums_94 (by decide) ?_
        refine ev_idiv dX2_addSums_95 (by decide) ?_
        refine ev_iload dX2_addSums_96 rfl ?_
        obtain ⟨q19, hv20, hq16⟩ := ab_bind hq16
        refine ev_callV (st := []) (co_X2_addSumAt q13 ((x7 + x8) / 2) x4 _ hv20) mv_X2_addSumAt sh_24 ml_RX2_116 dX2_addSums_98 (by decide) rfl (Nat.le_of_ble_eq_true rfl) ⟨Nat.le_refl _, Nat.le_refl _⟩ ?_
        cases hq16
        exact hJ17

noncomputable def mi_X2_addSums_25 : Nat → ab_M → Nat → Int32 → Int32 → Int32 → Int32 → Int32 → Int32 → Option (Int32 × ab_M)
  | 0, _, _, _, _, _, _, _, _ => none
  | n + 1, M, t1, x2, x3, x4, x5, x6, x7 =>
    ab_chk (vp_in x2 16) <|
    if ((M.1 t1 (x2).toNatClampNeg) + x5) < x7 then
      some (x7, M)
    else
      ab_chk (vp_in x3 16) <|
      (mi_X2_addSums_41 ab_F M t1 x2 x3 x4 x5 x6 x7 (M.1 t1 (x3).toNatClampNeg)).bind fun q21 =>
      mi_X2_addSums_25 n q21.2 t1 x2 x3 x4 x5 x6 (x7 + (ab_max 1 x5))

set_option maxHeartbeats 4000000 in
set_option maxRecDepth 100000 in
theorem lp_X2_addSums_25 {l : Launch} {D : va_G} {ac : Nat → ClassId} {n0 : Nat} {r : ab_Rs} : ∀ (n : Nat) (M : ab_M) (t1 : Nat) (ht1 : ab_isPlan t1) (x2 : Int32) (x3 : Int32) (x4 : Int32) (x5 : Int32) (x6 : Int32) (x7 : Int32) (q : Int32 × ab_M) (h : mi_X2_addSums_25 n M t1 x2 x3 x4 x5 x6 x7 = some q) (kk : ab_Ev l D ac 3 me_X2_addSums n0 0 0 r 0 0 ab_SH 129 [some (.ref 24), some (.ref t1), some (.int x2), some (.int x3), some (.int x4), some (.int x5), some (.int x6), some (.int q.1), none] [] q.2), ab_Ev l D ac 3 me_X2_addSums n0 0 0 r 0 0 ab_SH 25 [some (.ref 24), some (.ref t1), some (.int x2), some (.int x3), some (.int x4), some (.int x5), some (.int x6), some (.int x7), none] [] M := by
  intro n
  induction n with
  | zero =>
    intro M t1 ht1 x2 x3 x4 x5 x6 x7 q h kk
    cases h
  | succ n ih =>
    intro M t1 ht1 x2 x3 x4 x5 x6 x7 q h kk
    unfold mi_X2_addSums_25 at h
    refine ev_iload dX2_addSums_25 rfl ?_
    refine ev_aload_n dX2_addSums_27 rfl ?_
    refine ev_iload_n dX2_addSums_28 rfl ?_
    obtain ⟨hb6, h⟩ := ab_chk_some h
    refine ev_iaload ht1 hb6 dX2_addSums_29 ?_
    refine ev_iload dX2_addSums_30 rfl ?_
    refine ev_iadd dX2_addSums_32 ?_
    refine ev_icmp_gt (t := 129) dX2_addSums_33 (by decide) (fun hc7 => ?_) (fun hc7 => ?_)
    · replace h := ab_pos hc7 h
      cases h
      exact kk
    · replace h := ab_neg hc7 h
      refine ev_aload_n dX2_addSums_36 rfl ?_
      refine ev_iload_n dX2_addSums_37 rfl ?_
      obtain ⟨hb8, h⟩ := ab_chk_some h
      refine ev_iaload ht1 hb8 dX2_addSums_38 ?_
      refine ev_istore dX2_addSums_39 (Nat.le_of_ble_eq_true rfl) rfl rfl ?_
      obtain ⟨q21, hq22, h⟩ := ab_bind h
      refine lp_X2_addSums_41 _ M t1 ht1 x2 x3 x4 x5 x6 x7 (M.1 t1 (x3).toNatClampNeg) _ hq22 ?_
      refine ev_iload dX2_addSums_115 rfl ?_
      refine ev_iconst (x := 1) dX2_addSums_117 (by decide) ?_
      refine ev_iload dX2_addSums_118 rfl ?_
      refine ev_max ml_RX2_57 dX2_addSums_120 (by decide) (Nat.le_of_ble_eq_true rfl) ⟨Nat.le_refl _, Nat.le_refl _⟩ ?_
      refine ev_iadd dX2_addSums_123 ?_
      refine ev_istore dX2_addSums_124 (Nat.le_of_ble_eq_true rfl) rfl rfl ?_
      refine ev_goto (t := 25) dX2_addSums_126 (by decide) ?_
      refine ev_drop (lv' := [some (.ref 24), some (.ref t1), some (.int x2), some (.int x3), some (.int x4), some (.int x5), some (.int x6), some (.int (x7 + (ab_max 1 x5))), none]) (ab_sub_k (ab_sub_k (ab_sub_k (ab_sub_k (ab_sub_k (ab_sub_k (ab_sub_k (ab_sub_k (ab_sub_d ab_sub_nil))))))))) ?_
      exact ih q21.2 t1 ht1 x2 x3 x4 x5 x6 (x7 + (ab_max 1 x5)) _ h kk

noncomputable def mi_X2_addSums (M : ab_M) (t1 : Nat) (x2 : Int32) (x3 : Int32) (x4 : Int32) : Option (ab_M) :=
  (mi_X3_gapOf M x2).bind fun q1 =>
  (mi_X3_gapOf M x3).bind fun q3 =>
  ab_chk (vp_in x2 16) <|
  (mi_X2_addSums_25 ab_F M t1 x2 x3 x4 q1 q3 (M.1 t1 (x2).toNatClampNeg)).bind fun q23 =>
  some q23.2

set_option maxHeartbeats 4000000 in
set_option maxRecDepth 100000 in
theorem co_X2_addSums {l : Launch} {D : va_G} {ac : Nat → ClassId} (M : ab_M) (t1 : Nat) (ht1 : ab_isPlan t1) (x2 : Int32) (x3 : Int32) (x4 : Int32) (z : ab_M) (h : mi_X2_addSums M t1 x2 x3 x4 = some z) : ab_Con l D ac 3 me_X2_addSums 0 0 [.ref 24, .ref t1, .int x2, .int x3, .int x4] ab_SH M (none, ab_SH, z) := by
  refine ab_intro (lv := [some (.ref 24), some (.ref t1), some (.int x2), some (.int x3), some (.int x4), none, none, none, none]) (by decide) rfl (Nat.le_of_ble_eq_true rfl) rfl ?_
  unfold mi_X2_addSums at h
  refine ev_aload_n dX2_addSums_0 rfl ?_
  refine ev_getr (o' := 1) fl_RX2_15 sh_24 (by decide) (by decide) rfl rfl dX2_addSums_1 ?_
  refine ev_iload_n dX2_addSums_4 rfl ?_
  obtain ⟨q1, hv2, h⟩ := ab_bind h
  refine ev_callV (st := []) (co_X3_gapOf M x2 _ hv2) mv_X3_gapOf sh_1 ml_RX2_49 dX2_addSums_5 (by decide) rfl (Nat.le_of_ble_eq_true rfl) ⟨Nat.le_refl _, Nat.le_refl _⟩ ?_
  refine ev_istore dX2_addSums_8 (Nat.le_of_ble_eq_true rfl) rfl rfl ?_
  refine ev_aload_n dX2_addSums_10 rfl ?_
  refine ev_getr (o' := 1) fl_RX2_15 sh_24 (by decide) (by decide) rfl rfl dX2_addSums_11 ?_
  refine ev_iload_n dX2_addSums_14 rfl ?_
  obtain ⟨q3, hv4, h⟩ := ab_bind h
  refine ev_callV (st := []) (co_X3_gapOf M x3 _ hv4) mv_X3_gapOf sh_1 ml_RX2_49 dX2_addSums_15 (by decide) rfl (Nat.le_of_ble_eq_true rfl) ⟨Nat.le_refl _, Nat.le_refl _⟩ ?_
  refine ev_istore dX2_addSums_18 (Nat.le_of_ble_eq_true rfl) rfl rfl ?_
  refine ev_aload_n dX2_addSums_20 rfl ?_
  refine ev_iload_n dX2_addSums_21 rfl ?_
  obtain ⟨hb5, h⟩ := ab_chk_some h
  refine ev_iaload ht1 hb5 dX2_addSums_22 ?_
  refine ev_istore dX2_addSums_23 (Nat.le_of_ble_eq_true rfl) rfl rfl ?_
  obtain ⟨q23, hq24, h⟩ := ab_bind h
  refine lp_X2_addSums_25 _ M t1 ht1 x2 x3 x4 q1 q3 (M.1 t1 (x2).toNatClampNeg) _ hq24 ?_
  cases h
  exact ev_return rfl dX2_addSums_129

noncomputable def mi_X2_weigh_12 : Nat → ab_M → Nat → Int32 → Int32 → Int32 → Option (Int32 × ab_M)
  | 0, _, _, _, _, _ => none
  | n + 1, M, t1, x2, x3, x4 =>
    if 30 ≤ x4 then
      some (x4, M)
    else
      ((if ((ab_ushr x3 x4) &&& 1) = 0 then
        some 10
      else
        some 0) : Option (Int32)).bind fun q4 =>
      ab_chk (vp_in x4 30) <|
      mi_X2_weigh_12 n (ab_pi M 25 (x4).toNatClampNeg q4) t1 x2 x3 (x4 + 1)

set_option maxHeartbeats 4000000 in
set_option maxRecDepth 100000 in
theorem lp_X2_weigh_12 {l : Launch} {D : va_G} {ac : Nat → ClassId} {n0 : Nat} {r : ab_Rs} : ∀ (n : Nat) (M : ab_M) (t1 : Nat) (ht1 : ab_isPlan t1) (x2 : Int32) (x3 : Int32) (x4 : Int32) (q : Int32 × ab_M) (h : mi_X2_weigh_12 n M t1 x2 x3 x4 = some q) (kk : ab_Ev l D ac 5 me_X2_weigh n0 0 0 r 0 0 ab_SH 47 [some (.ref 24), some (.ref t1), some (.int x2), some (.int x3), some (.int q.1), none, none] [] q.2), ab_Ev l D ac 5 me_X2_weigh n0 0 0 r 0 0 ab_SH 12 [some (.ref 24), some (.ref t1), some (.int x2), some (.int x3), some (.int x4), none, none] [] M := by
  intro n
  induction n with
  | zero =>
    intro M t1 ht1 x2 x3 x4 q h kk
    cases h
  | succ n ih =>
    intro M t1 ht1 x2 x3 x4 q h kk
    unfold mi_X2_weigh_12 at h
    refine ev_iload dX2_weigh_12 rfl ?_
    refine ev_bipush (x := 30) dX2_weigh_14 (by decide) ?_
    refine ev_icmp_ge (t := 47) dX2_weigh_16 (by decide) (fun hc3 => ?_) (fun hc3 => ?_)
    · replace h := ab_pos hc3 h
      cases h
      exact kk
    · replace h := ab_neg hc3 h
      refine ev_aload_n dX2_weigh_19 rfl ?_
      refine ev_getr (o' := 25) fl_RX2_9 sh_24 (by decide) (by decide) rfl rfl dX2_weigh_20 ?_
      refine ev_iload dX2_weigh_23 rfl ?_
      refine ev_iload_n dX2_weigh_25 rfl ?_
      refine ev_iload dX2_weigh_26 rfl ?_
      refine ev_iushr dX2_weigh_28 ?_
      refine ev_iconst (x := 1) dX2_weigh_29 (by decide) ?_
      refine ev_iand dX2_weigh_30 ?_
      obtain ⟨q4, hq5, h⟩ := ab_bind h
      have hJ6 : ab_Ev l D ac 5 me_X2_weigh n0 0 0 r 0 0 ab_SH 40 [some (.ref 24), some (.ref t1), some (.int x2), some (.int x3), some (.int x4), none, none] [.int q4, .int x4, .ref 25] M := by
        obtain ⟨hb8, h⟩ := ab_chk_some h
        refine ev_iastore sh_25 hb8 dX2_weigh_40 ?_
        refine ev_iinc (y := x4 + 1) dX2_weigh_41 rfl (by first | rfl | decide) rfl rfl ?_
        refine ev_goto (t := 12) dX2_weigh_44 (by decide) ?_
        exact ih (ab_pi M 25 (x4).toNatClampNeg q4) t1 ht1 x2 x3 (x4 + 1) _ h kk
      refine ev_if_ne (t := 39) dX2_weigh_31 (by decide) (fun hc7 => ?_) (fun hc7 => ?_)
      · replace hq5 := ab_neg hc7 hq5
        refine ev_iconst (x := 0) dX2_weigh_39 (by decide) ?_
        cases hq5
        exact hJ6
      · replace hq5 := ab_pos hc7 hq5
        refine ev_bipush (x := 10) dX2_weigh_34 (by decide) ?_
        refine ev_goto (t := 40) dX2_weigh_36 (by decide) ?_
        cases hq5
        exact hJ6

noncomputable def mi_X2_weigh_118 : Nat → ab_M → Nat → Int32 → Int32 → Int32 → Int32 → Option (Int32 × ab_M)
  | 0, _, _, _, _, _, _ => none
  | n + 1, M, t1, x2, x4, x5, x6 =>
    if x5 ≤ x6 then
      some (x6, M)
    else
      ((if x6 = x2 then
        some M
      else
        (mi_X2_sumMates M t1 x4 x6 x2).bind fun q31 =>
        if q31 = 0 then
          some M
        else
          (mi_X3_gapOf M x2).bind fun q34 =>
          (mi_X2_addSums M t1 x4 x6 q34).bind fun q36 =>
          some q36) : Option (ab_M)).bind fun q27 =>
      mi_X2_weigh_118 n q27 t1 x2 x4 x5 (x6 + 1)

set_option maxHeartbeats 4000000 in
set_option maxRecDepth 100000 in
theorem lp_X2_weigh_118 {l : Launch} {D : va_G} {ac : Nat → ClassId} {n0 : Nat} {r : ab_Rs} : ∀ (n : Nat) (M : ab_M) (t1 : Nat) (ht1 : ab_isPlan t1) (x2 : Int32) (x4 : Int32) (x5 : Int32) (x6 : Int32) (q : Int32 × ab_M) (h : mi_X2_weigh_118 n M t1 x2 x4 x5 x6 = some q) (kk : ab_Ev l D ac 5 me_X2_weigh n0 0 0 r 0 0 ab_SH 167 [some (.ref 24), some (.ref t1), some (.int x2), none, some (.int x4), some (.int x5), some (.int q.1)] [] q.2), ab_Ev l D ac 5 me_X2_weigh n0 0 0 r 0 0 ab_SH 118 [some (.ref 24), some (.ref t1), some (.int x2), none, some (.int x4), some (.int x5), some (.int x6)] [] M := by
  intro n
  induction n with
  | zero =>
    intro M t1 ht1 x2 x4 x5 x6 q h kk
    cases h
  | succ n ih =>
    intro M t1 ht1 x2 x4 x5 x6 q h kk
    unfold mi_X2_weigh_118 at h
    refine ev_iload dX2_weigh_118 rfl ?_
    refine ev_iload dX2_weigh_120 rfl ?_
    refine ev_icmp_ge (t := 167) dX2_weigh_122 (by decide) (fun hc26 => ?_) (fun hc26 => ?_)
    · replace h := ab_pos hc26 h
      cases h
      exact kk
    · replace h := ab_neg hc26 h
      refine ev_iload dX2_weigh_125 rfl ?_
      refine ev_iload_n dX2_weigh_127 rfl ?_
      obtain ⟨q27, hq28, h⟩ := ab_bind h
      have hJ29 : ab_Ev l D ac 5 me_X2_weigh n0 0 0 r 0 0 ab_SH 161 [some (.ref 24), some (.ref t1), some (.int x2), none, some (.int x4), some (.int x5), some (.int x6)] [] q27 := by
        refine ev_iinc (y := x6 + 1) dX2_weigh_161 rfl (by first | rfl | decide) rfl rfl ?_
        refine ev_goto (t := 118) dX2_weigh_164 (by decide) ?_
        exact ih q27 t1 ht1 x2 x4 x5 (x6 + 1) _ h kk
      refine ev_icmp_eq (t := 161) dX2_weigh_128 (by decide) (fun hc30 => ?_) (fun hc30 => ?_)
      · replace hq28 := ab_pos hc30 hq28
        cases hq28
        exact hJ29
      · replace hq28 := ab_neg hc30 hq28
        refine ev_aload_n dX2_weigh_131 rfl ?_
        refine ev_aload_n dX2_weigh_132 rfl ?_
        refine ev_iload dX2_weigh_133 rfl ?_
        refine ev_iload dX2_weigh_135 rfl ?_
        refine ev_iload_n dX2_weigh_137 rfl ?_
        obtain ⟨q31, hv32, hq28⟩ := ab_bind hq28
        refine ev_callV (st := []) (co_X2_sumMates M t1 ht1 x4 x6 x2 _ hv32) mv_X2_sumMates sh_24 ml_RX2_93 dX2_weigh_138 (by decide) rfl (Nat.le_of_ble_eq_true rfl) ⟨Nat.le_refl _, Nat.le_refl _⟩ ?_
        refine ev_if_eq (t := 161) dX2_weigh_141 (by decide) (fun hc33 => ?_) (fun hc33 => ?_)
        · replace hq28 := ab_pos hc33 hq28
          cases hq28
          exact hJ29
        · replace hq28 := ab_neg hc33 hq28
          refine ev_aload_n dX2_weigh_144 rfl ?_
          refine ev_aload_n dX2_weigh_145 rfl ?_
          refine ev_iload dX2_weigh_146 rfl ?_
          refine ev_iload dX2_weigh_148 rfl ?_
          refine ev_aload_n dX2_weigh_150 rfl ?_
          refine ev_getr (o' := 1) fl_RX2_15 sh_24 (by decide) (by decide) rfl rfl dX2_weigh_151 ?_
          refine ev_iload_n dX2_weigh_154 rfl ?_
          obtain ⟨q34, hv35, hq28⟩ := ab_bind hq28
          refine ev_callV (st := [.int x6, .int x4, .ref t1, .ref 24]) (co_X3_gapOf M x2 _ hv35) mv_X3_gapOf sh_1 ml_RX2_49 dX2_weigh_155 (by decide) rfl (Nat.le_of_ble_eq_true rfl) ⟨Nat.le_refl _, Nat.le_refl _⟩ ?_
          obtain ⟨q36, hv37, hq28⟩ := ab_bind hq28
          refine ev_callV (st := []) (co_X2_addSums M t1 ht1 x4 x6 q34 _ hv37) mv_X2_addSums sh_24 ml_RX2_109 dX2_weigh_158 (by decide) rfl (Nat.le_of_ble_eq_true rfl) ⟨Nat.le_refl _, Nat.le_refl _⟩ ?_
          cases hq28
          exact hJ29

noncomputable def mi_X2_weigh_50 : Nat → ab_M → Nat → Int32 → Int32 → Option (Int32 × ab_M)
  | 0, _, _, _, _ => none
  | n + 1, M, t1, x2, x4 =>
    if (M.1 1 8) ≤ x4 then
      some (x4, M)
    else
      ((if x4 = x2 then
        some M
      else
        ab_chk (vp_in x4 16) <|
        if 0 ≤ (M.1 t1 (x4).toNatClampNeg) then
          (mi_X2_addLacks M t1 x4 x2).bind fun q18 =>
          (mi_X3_areNear q18 x4 x2).bind fun q20 =>
          ((if q20 = 0 then
            some 0
          else
            some (q18.1 1 8)) : Option (Int32)).bind fun q22 =>
          (mi_X2_weigh_118 ab_F q18 t1 x2 x4 q22 (x4 + 1)).bind fun q38 =>
          some q38.2
        else
          some M) : Option (ab_M)).bind fun q12 =>
      mi_X2_weigh_50 n q12 t1 x2 (x4 + 1)

set_option maxHeartbeats 4000000 in
set_option maxRecDepth 100000 in
theorem lp_X2_weigh_50 {l : Launch} {D : va_G} {ac : Nat → ClassId} {n0 : Nat} {r : ab_Rs} : ∀ (n : Nat) (M : ab_M) (t1 : Nat) (ht1 : ab_isPlan t1) (x2 : Int32) (x4 : Int32) (q : Int32 × ab_M) (h : mi_X2_weigh_50 n M t1 x2 x4 = some q) (kk : ab_Ev l D ac 5 me_X2_weigh n0 0 0 r 0 0 ab_SH 173 [some (.ref 24), some (.ref t1), some (.int x2), none, some (.int q.1), none, none] [] q.2), ab_Ev l D ac 5 me_X2_weigh n0 0 0 r 0 0 ab_SH 50 [some (.ref 24), some (.ref t1), some (.int x2), none, some (.int x4), none, none] [] M := by
  intro n
  induction n with
  | zero =>
    intro M t1 ht1 x2 x4 q h kk
    cases h
  | succ n ih =>
    intro M t1 ht1 x2 x4 q h kk
    unfold mi_X2_weigh_50 at h
    refine ev_iload dX2_weigh_50 rfl ?_
    refine ev_aload_n dX2_weigh_52 rfl ?_
    refine ev_getr (o' := 1) fl_RX2_15 sh_24 (by decide) (by decide) rfl rfl dX2_weigh_53 ?_
    refine ev_geti fl_RX2_19 sh_1 (by decide) (by decide) rfl dX2_weigh_56 ?_
    refine ev_icmp_ge (t := 173) dX2_weigh_59 (by decide) (fun hc11 => ?_) (fun hc11 => ?_)
    · replace h := ab_pos hc11 h
      cases h
      exact kk
    · replace h := ab_neg hc11 h
      refine ev_iload dX2_weigh_62 rfl ?_
      refine ev_iload_n dX2_weigh_64 rfl ?_
      obtain ⟨q12, hq13, h⟩ := ab_bind h
      have hJ14 : ab_Ev l D ac 5 me_X2_weigh n0 0 0 r 0 0 ab_SH 167 [some (.ref 24), some (.ref t1), some (.int x2), none, some (.int x4), none, none] [] q12 := by
        refine ev_iinc (y := x4 + 1) dX2_weigh_167 rfl (by first | rfl | decide) rfl rfl ?_
        refine ev_goto (t := 50) dX2_weigh_170 (by decide) ?_
        exact ih q12 t1 ht1 x2 (x4 + 1) _ h kk
      refine ev_icmp_eq (t := 167) dX2_weigh_65 (by decide) (fun hc15 => ?_) (fun hc15 => ?_)
      · replace hq13 := ab_pos hc15 hq13
        cases hq13
        exact hJ14
      · replace hq13 := ab_neg hc15 hq13
        refine ev_aload_n dX2_weigh_68 rfl ?_
        refine ev_iload dX2_weigh_69 rfl ?_
        obtain ⟨hb16, hq13⟩ := ab_chk_some hq13
        refine ev_iaload ht1 hb16 dX2_weigh_71 ?_
        refine ev_if_ge (t := 78) dX2_weigh_72 (by decide) (fun hc17 => ?_) (fun hc17 => ?_)
        · replace hq13 := ab_pos hc17 hq13
          refine ev_aload_n dX2_weigh_78 rfl ?_
          refine ev_aload_n dX2_weigh_79 rfl ?_
          refine ev_iload dX2_weigh_80 rfl ?_
          refine ev_iload_n dX2_weigh_82 rfl ?_
          obtain ⟨q18, hv19, hq13⟩ := ab_bind hq13
          refine ev_callV (st := []) (co_X2_addLacks M t1 ht1 x4 x2 _ hv19) mv_X2_addLacks sh_24 ml_RX2_105 dX2_weigh_83 (by decide) rfl (Nat.le_of_ble_eq_true rfl) ⟨Nat.le_refl _, Nat.le_refl _⟩ ?_
          refine ev_aload_n dX2_weigh_86 rfl ?_
          refine ev_getr (o' := 1) fl_RX2_15 sh_24 (by decide) (by decide) rfl rfl dX2_weigh_87 ?_
          refine ev_iload dX2_weigh_90 rfl ?_
          refine ev_iload_n dX2_weigh_92 rfl ?_
          obtain ⟨q20, hv21, hq13⟩ := ab_bind hq13
          refine ev_callV (st := []) (co_X3_areNear q18 x4 x2 _ hv21) mv_X3_areNear sh_1 ml_RX2_64 dX2_weigh_93 (by decide) rfl (Nat.le_of_ble_eq_true rfl) ⟨Nat.le_refl _, Nat.le_refl _⟩ ?_
          obtain ⟨q22, hq23, hq13⟩ := ab_bind hq13
          have hJ24 : ab_Ev l D ac 5 me_X2_weigh n0 0 0 r 0 0 ab_SH 110 [some (.ref 24), some (.ref t1), some (.int x2), none, some (.int x4), none, none] [.int q22] q18 := by
            refine ev_istore dX2_weigh_110 (Nat.le_of_ble_eq_true rfl) rfl rfl ?_
            refine ev_iload dX2_weigh_112 rfl ?_
            refine ev_iconst (x := 1) dX2_weigh_114 (by decide) ?_
            refine ev_iadd dX2_weigh_115 ?_
            refine ev_istore dX2_weigh_116 (Nat.le_of_ble_eq_true rfl) rfl rfl ?_
            obtain ⟨q38, hq39, hq13⟩ := ab_bind hq13
            refine lp_X2_weigh_118 _ q18 t1 ht1 x2 x4 q22 (x4 + 1) _ hq39 ?_
            cases hq13
            refine ev_drop (lv' := [some (.ref 24), some (.ref t1), some (.int x2), none, some (.int x4), none, none]) (ab_sub_k (ab_sub_k (ab_sub_k (ab_sub_k (ab_sub_k (ab_sub_d (ab_sub_d ab_sub_nil))))))) ?_
            exact hJ14
          refine ev_if_eq (t := 109) dX2_weigh_96 (by decide) (fun hc25 => ?_) (fun hc25 => ?_)
          · replace hq23 := ab_pos hc25 hq23
            refine ev_iconst (x := 0) dX2_weigh_109 (by decide) ?_
            cases hq23
            exact hJ24
          · replace hq23 := ab_neg hc25 hq23
            refine ev_aload_n dX2_weigh_99 rfl ?_
            refine ev_getr (o' := 1) fl_RX2_15 sh_24 (by decide) (by decide) rfl rfl dX2_weigh_100 ?_
            refine ev_geti fl_RX2_19 sh_1 (by decide) (by decide) rfl dX2_weigh_103 ?_
            refine ev_goto (t := 110) dX2_weigh_106 (by decide) ?_
            cases hq23
            exact hJ24
        · replace hq13 := ab_neg hc17 hq13
          refine ev_goto (t := 167) dX2_weigh_75 (by decide) ?_
          cases hq13
          exact hJ14

noncomputable def mi_X2_weigh (M : ab_M) (t1 : Nat) (x2 : Int32) : Option (Nat × ab_M) :=
  (mi_X3_allowed M x2).bind fun q1 =>
  (mi_X2_weigh_12 ab_F M t1 x2 q1 0).bind fun q9 =>
  (mi_X2_weigh_50 ab_F q9.2 t1 x2 0).bind fun q40 =>
  some (25, q40.2)

set_option maxHeartbeats 4000000 in
set_option maxRecDepth 100000 in
theorem co_X2_weigh {l : Launch} {D : va_G} {ac : Nat → ClassId} (M : ab_M) (t1 : Nat) (ht1 : ab_isPlan t1) (x2 : Int32) (z : Nat × ab_M) (h : mi_X2_weigh M t1 x2 = some z) : ab_Con l D ac 5 me_X2_weigh 0 0 [.ref 24, .ref t1, .int x2] ab_SH M (some (.ref z.1), ab_SH, z.2) := by
  refine ab_intro (lv := [some (.ref 24), some (.ref t1), some (.int x2), none, none, none, none]) (by decide) rfl (Nat.le_of_ble_eq_true rfl) rfl ?_
  unfold mi_X2_weigh at h
  refine ev_aload_n dX2_weigh_0 rfl ?_
  refine ev_getr (o' := 1) fl_RX2_15 sh_24 (by decide) (by decide) rfl rfl dX2_weigh_1 ?_
  refine ev_iload_n dX2_weigh_4 rfl ?_
  obtain ⟨q1, hv2, h⟩ := ab_bind h
  refine ev_callV (st := []) (co_X3_allowed M x2 _ hv2) mv_X3_allowed sh_1 ml_RX2_83 dX2_weigh_5 (by decide) rfl (Nat.le_of_ble_eq_true rfl) ⟨Nat.le_refl _, Nat.le_refl _⟩ ?_
  refine ev_istore_n dX2_weigh_8 (Nat.le_of_ble_eq_true rfl) rfl rfl ?_
  refine ev_iconst (x := 0) dX2_weigh_9 (by decide) ?_
  refine ev_istore dX2_weigh_10 (Nat.le_of_ble_eq_true rfl) rfl rfl ?_
  obtain ⟨q9, hq10, h⟩ := ab_bind h
  refine lp_X2_weigh_12 _ M t1 ht1 x2 q1 0 _ hq10 ?_
  refine ev_iconst (x := 0) dX2_weigh_47 (by decide) ?_
  refine ev_istore dX2_weigh_48 (Nat.le_of_ble_eq_true rfl) rfl rfl ?_
  obtain ⟨q40, hq41, h⟩ := ab_bind h
  refine ev_drop (lv' := [some (.ref 24), some (.ref t1), some (.int x2), none, some (.int 0), none, none]) (ab_sub_k (ab_sub_k (ab_sub_k (ab_sub_d (ab_sub_k (ab_sub_k (ab_sub_k ab_sub_nil))))))) ?_
  refine lp_X2_weigh_50 _ q9.2 t1 ht1 x2 0 _ hq41 ?_
  refine ev_aload_n dX2_weigh_173 rfl ?_
  refine ev_getr (o' := 25) fl_RX2_9 sh_24 (by decide) (by decide) rfl rfl dX2_weigh_174 ?_
  cases h
  exact ev_areturn rfl dX2_weigh_177
