noncomputable def mi_X3_hasMast (M : ab_M) (x1 : Int32) : Option (Int32) :=
  if x1 < 0 then
    some 0
  else
    if (M.1 1 7) ≤ x1 then
      some 0
    else
      some 1

set_option maxHeartbeats 4000000 in
set_option maxRecDepth 100000 in
theorem co_X3_hasMast {l : Launch} {D : va_G} {ac : Nat → ClassId} (M : ab_M) (x1 : Int32) (z : Int32) (h : mi_X3_hasMast M x1 = some z) : ab_Con l D ac 1 me_X3_hasMast 0 0 [.ref 1, .int x1] ab_SH M (some (.int z), ab_SH, M) := by
  refine ab_intro (lv := [some (.ref 1), some (.int x1)]) (by decide) rfl (Nat.le_of_ble_eq_true rfl) rfl ?_
  unfold mi_X3_hasMast at h
  refine ev_iload_n dX3_hasMast_0 rfl ?_
  refine ev_if_lt (t := 16) dX3_hasMast_1 (by decide) (fun hc1 => ?_) (fun hc1 => ?_)
  · replace h := ab_pos hc1 h
    refine ev_iconst (x := 0) dX3_hasMast_16 (by decide) ?_
    cases h
    exact ev_zreturn rfl (Or.inl rfl) dX3_hasMast_17
  · replace h := ab_neg hc1 h
    refine ev_iload_n dX3_hasMast_4 rfl ?_
    refine ev_aload_n dX3_hasMast_5 rfl ?_
    refine ev_geti fl_RX3_58 sh_1 (by decide) (by decide) rfl dX3_hasMast_6 ?_
    refine ev_icmp_ge (t := 16) dX3_hasMast_9 (by decide) (fun hc2 => ?_) (fun hc2 => ?_)
    · replace h := ab_pos hc2 h
      refine ev_iconst (x := 0) dX3_hasMast_16 (by decide) ?_
      cases h
      exact ev_zreturn rfl (Or.inl rfl) dX3_hasMast_17
    · replace h := ab_neg hc2 h
      refine ev_iconst (x := 1) dX3_hasMast_12 (by decide) ?_
      refine ev_goto (t := 17) dX3_hasMast_13 (by decide) ?_
      cases h
      exact ev_zreturn rfl (Or.inr rfl) dX3_hasMast_17

noncomputable def mi_X3_hasWant (M : ab_M) (x1 : Int32) : Option (Int32) :=
  if x1 < 0 then
    some 0
  else
    if (M.1 1 8) ≤ x1 then
      some 0
    else
      some 1

set_option maxHeartbeats 4000000 in
set_option maxRecDepth 100000 in
theorem co_X3_hasWant {l : Launch} {D : va_G} {ac : Nat → ClassId} (M : ab_M) (x1 : Int32) (z : Int32) (h : mi_X3_hasWant M x1 = some z) : ab_Con l D ac 1 me_X3_hasWant 0 0 [.ref 1, .int x1] ab_SH M (some (.int z), ab_SH, M) := by
  refine ab_intro (lv := [some (.ref 1), some (.int x1)]) (by decide) rfl (Nat.le_of_ble_eq_true rfl) rfl ?_
  unfold mi_X3_hasWant at h
  refine ev_iload_n dX3_hasWant_0 rfl ?_
  refine ev_if_lt (t := 16) dX3_hasWant_1 (by decide) (fun hc1 => ?_) (fun hc1 => ?_)
  · replace h := ab_pos hc1 h
    refine ev_iconst (x := 0) dX3_hasWant_16 (by decide) ?_
    cases h
    exact ev_zreturn rfl (Or.inl rfl) dX3_hasWant_17
  · replace h := ab_neg hc1 h
    refine ev_iload_n dX3_hasWant_4 rfl ?_
    refine ev_aload_n dX3_hasWant_5 rfl ?_
    refine ev_geti fl_RX3_61 sh_1 (by decide) (by decide) rfl dX3_hasWant_6 ?_
    refine ev_icmp_ge (t := 16) dX3_hasWant_9 (by decide) (fun hc2 => ?_) (fun hc2 => ?_)
    · replace h := ab_pos hc2 h
      refine ev_iconst (x := 0) dX3_hasWant_16 (by decide) ?_
      cases h
      exact ev_zreturn rfl (Or.inl rfl) dX3_hasWant_17
    · replace h := ab_neg hc2 h
      refine ev_iconst (x := 1) dX3_hasWant_12 (by decide) ?_
      refine ev_goto (t := 17) dX3_hasWant_13 (by decide) ?_
      cases h
      exact ev_zreturn rfl (Or.inr rfl) dX3_hasWant_17

noncomputable def mi_X3_square (M : ab_M) (x1 : Int32) (x2 : Int32) : Option (Int32) :=
  ab_chk (vp_in x1 12) <|
  ab_chk (vp_in x2 12) <|
  (some ((M.1 (12 + (x1).toNatClampNeg) 2) - (M.1 (12 + (x2).toNatClampNeg) 2)) : Option Int32).bind fun v3 =>
  ab_chk (vp_in x1 12) <|
  ab_chk (vp_in x2 12) <|
  (some ((M.1 (12 + (x1).toNatClampNeg) 3) - (M.1 (12 + (x2).toNatClampNeg) 3)) : Option Int32).bind fun v7 =>
  some ((v3 * v3) + (v7 * v7))

set_option maxHeartbeats 4000000 in
set_option maxRecDepth 100000 in
theorem co_X3_square {l : Launch} {D : va_G} {ac : Nat → ClassId} (M : ab_M) (x1 : Int32) (x2 : Int32) (z : Int32) (h : mi_X3_square M x1 x2 = some z) : ab_Con l D ac 1 me_X3_square 0 0 [.ref 1, .int x1, .int x2] ab_SH M (some (.int z), ab_SH, M) := by
  refine ab_intro (lv := [some (.ref 1), some (.int x1), some (.int x2), none, none]) (by decide) rfl (Nat.le_of_ble_eq_true rfl) rfl ?_
  unfold mi_X3_square at h
  refine ev_aload_n dX3_square_0 rfl ?_
  refine ev_getr (o' := 2) fl_RX3_11 sh_1 (by decide) (by decide) rfl rfl dX3_square_1 ?_
  refine ev_iload_n dX3_square_4 rfl ?_
  obtain ⟨hb1, h⟩ := ab_chk_some h
  refine ev_aaload sh_2 (Or.inl rfl) hb1 (rf_mast hb1) dX3_square_5 ?_
  refine ev_geti fl_RX3_91 (sh_mast hb1) (by decide) (by decide) rfl dX3_square_6 ?_
  refine ev_aload_n dX3_square_9 rfl ?_
  refine ev_getr (o' := 2) fl_RX3_11 sh_1 (by decide) (by decide) rfl rfl dX3_square_10 ?_
  refine ev_iload_n dX3_square_13 rfl ?_
  obtain ⟨hb2, h⟩ := ab_chk_some h
  refine ev_aaload sh_2 (Or.inl rfl) hb2 (rf_mast hb2) dX3_square_14 ?_
  refine ev_geti fl_RX3_91 (sh_mast hb2) (by decide) (by decide) rfl dX3_square_15 ?_
  refine ev_isub dX3_square_18 ?_
  obtain ⟨v3, hq4, h⟩ := ab_bind h
  refine ev_nmi (Option.some.inj hq4) ?_
  refine ev_istore_n (x := v3) dX3_square_19 (Nat.le_of_ble_eq_true rfl) rfl rfl ?_
  refine ev_aload_n dX3_square_20 rfl ?_
  refine ev_getr (o' := 2) fl_RX3_11 sh_1 (by decide) (by decide) rfl rfl dX3_square_21 ?_
  refine ev_iload_n dX3_square_24 rfl ?_
  obtain ⟨hb5, h⟩ := ab_chk_some h
  refine ev_aaload sh_2 (Or.inl rfl) hb5 (rf_mast hb5) dX3_square_25 ?_
  refine ev_geti fl_RX3_94 (sh_mast hb5) (by decide) (by decide) rfl dX3_square_26 ?_
  refine ev_aload_n dX3_square_29 rfl ?_
  refine ev_getr (o' := 2) fl_RX3_11 sh_1 (by decide) (by decide) rfl rfl dX3_square_30 ?_
  refine ev_iload_n dX3_square_33 rfl ?_
  obtain ⟨hb6, h⟩ := ab_chk_some h
  refine ev_aaload sh_2 (Or.inl rfl) hb6 (rf_mast hb6) dX3_square_34 ?_
  refine ev_geti fl_RX3_94 (sh_mast hb6) (by decide) (by decide) rfl dX3_square_35 ?_
  refine ev_isub dX3_square_38 ?_
  obtain ⟨v7, hq8, h⟩ := ab_bind h
  refine ev_nmi (Option.some.inj hq8) ?_
  refine ev_istore (x := v7) dX3_square_39 (Nat.le_of_ble_eq_true rfl) rfl rfl ?_
  refine ev_iload_n dX3_square_41 rfl ?_
  refine ev_iload_n dX3_square_42 rfl ?_
  refine ev_imul dX3_square_43 ?_
  refine ev_iload dX3_square_44 rfl ?_
  refine ev_iload dX3_square_46 rfl ?_
  refine ev_imul dX3_square_48 ?_
  refine ev_iadd dX3_square_49 ?_
  cases h
  exact ev_ireturn rfl dX3_square_50

noncomputable def mi_X3_freshBar (M : ab_M) (x1 : Int32) (x2 : Int32) : Option (Int32) :=
  if x1 = x2 then
    some (M.1 1 9)
  else
    (mi_X3_square M x1 x2).bind fun q2 =>
    ab_chk (vp_in x1 12) <|
    ab_chk (vp_in x2 12) <|
    (mi_X7_greatest M q2 ((M.1 (12 + (x1).toNatClampNeg) 4) + (M.1 (12 + (x2).toNatClampNeg) 4))).bind fun q6 =>
    some q6

set_option maxHeartbeats 4000000 in
set_option maxRecDepth 100000 in
theorem co_X3_freshBar {l : Launch} {D : va_G} {ac : Nat → ClassId} (M : ab_M) (x1 : Int32) (x2 : Int32) (z : Int32) (h : mi_X3_freshBar M x1 x2 = some z) : ab_Con l D ac 3 me_X3_freshBar 0 0 [.ref 1, .int x1, .int x2] ab_SH M (some (.int z), ab_SH, M) := by
  refine ab_intro (lv := [some (.ref 1), some (.int x1), some (.int x2)]) (by decide) rfl (Nat.le_of_ble_eq_true rfl) rfl ?_
  unfold mi_X3_freshBar at h
  refine ev_iload_n dX3_freshBar_0 rfl ?_
  refine ev_iload_n dX3_freshBar_1 rfl ?_
  refine ev_icmp_ne (t := 12) dX3_freshBar_2 (by decide) (fun hc1 => ?_) (fun hc1 => ?_)
  · replace h := ab_neg hc1 h
    refine ev_aload_n dX3_freshBar_12 rfl ?_
    refine ev_getr (o' := 5) fl_RX3_27 sh_1 (by decide) (by decide) rfl rfl dX3_freshBar_13 ?_
    refine ev_aload_n dX3_freshBar_16 rfl ?_
    refine ev_iload_n dX3_freshBar_17 rfl ?_
    refine ev_iload_n dX3_freshBar_18 rfl ?_
    obtain ⟨q2, hv3, h⟩ := ab_bind h
    refine ev_callV (st := [.ref 5]) (co_X3_square M x1 x2 _ hv3) mv_X3_square sh_1 ml_RX3_82 dX3_freshBar_19 (by decide) rfl (Nat.le_of_ble_eq_true rfl) ⟨Nat.le_refl _, Nat.le_refl _⟩ ?_
    refine ev_aload_n dX3_freshBar_22 rfl ?_
    refine ev_getr (o' := 2) fl_RX3_11 sh_1 (by decide) (by decide) rfl rfl dX3_freshBar_23 ?_
    refine ev_iload_n dX3_freshBar_26 rfl ?_
    obtain ⟨hb4, h⟩ := ab_chk_some h
    refine ev_aaload sh_2 (Or.inl rfl) hb4 (rf_mast hb4) dX3_freshBar_27 ?_
    refine ev_geti fl_RX3_85 (sh_mast hb4) (by decide) (by decide) rfl dX3_freshBar_28 ?_
    refine ev_aload_n dX3_freshBar_31 rfl ?_
    refine ev_getr (o' := 2) fl_RX3_11 sh_1 (by decide) (by decide) rfl rfl dX3_freshBar_32 ?_
    refine ev_iload_n dX3_freshBar_35 rfl ?_
    obtain ⟨hb5, h⟩ := ab_chk_some h
    refine ev_aaload sh_2 (Or.inl rfl) hb5 (rf_mast hb5) dX3_freshBar_36 ?_
    refine ev_geti fl_RX3_85 (sh_mast hb5) (by decide) (by decide) rfl dX3_freshBar_37 ?_
    refine ev_iadd dX3_freshBar_40 ?_
    obtain ⟨q6, hv7, h⟩ := ab_bind h
    refine ev_callV (st := []) (co_X7_greatest M q2 ((M.1 (12 + (x1).toNatClampNeg) 4) + (M.1 (12 + (x2).toNatClampNeg) 4)) _ hv7) mv_X7_greatest sh_5 ml_RX3_88 dX3_freshBar_41 (by decide) rfl (Nat.le_of_ble_eq_true rfl) ⟨Nat.le_refl _, Nat.le_refl _⟩ ?_
    cases h
    exact ev_ireturn rfl dX3_freshBar_44
  · replace h := ab_pos hc1 h
    refine ev_aload_n dX3_freshBar_5 rfl ?_
    refine ev_geti fl_RX3_44 sh_1 (by decide) (by decide) rfl dX3_freshBar_6 ?_
    refine ev_goto (t := 44) dX3_freshBar_9 (by decide) ?_
    cases h
    exact ev_ireturn rfl dX3_freshBar_44

noncomputable def mi_X3_measure_19 : Nat → ab_M → Int32 → Int32 → Option (Int32 × ab_M)
  | 0, _, _, _ => none
  | n + 1, M, x1, x2 =>
    if (M.1 1 7) ≤ x2 then
      some (x2, M)
    else
      (mi_X3_freshBar M x1 x2).bind fun q4 =>
      ab_chk (vp_in ((x1 * 12) + x2) 144) <|
      ab_chk (vp_in x1 12) <|
      ((if x1 = x2 then
        some 0
      else
        (mi_X3_square (ab_pi M 10 ((x1 * 12) + x2).toNatClampNeg q4) x1 x2).bind fun q12 =>
        if ((ab_pi M 10 ((x1 * 12) + x2).toNatClampNeg q4).1 1 10) < q12 then
          some 0
        else
          some ((1 : Int32) <<< (x2 &&& 31))) : Option (Int32)).bind fun q8 =>
      ab_chk (vp_in x1 12) <|
      mi_X3_measure_19 n (ab_pi (ab_pi M 10 ((x1 * 12) + x2).toNatClampNeg q4) 11 (x1).toNatClampNeg (((ab_pi M 10 ((x1 * 12) + x2).toNatClampNeg q4).1 11 (x1).toNatClampNeg) ||| q8)) x1 (x2 + 1)

set_option maxHeartbeats 4000000 in
set_option maxRecDepth 100000 in
theorem lp_X3_measure_19 {l : Launch} {D : va_G} {ac : Nat → ClassId} {n0 : Nat} {r : ab_Rs} : ∀ (n : Nat) (M : ab_M) (x1 : Int32) (x2 : Int32) (q : Int32 × ab_M) (h : mi_X3_measure_19 n M x1 x2 = some q) (kk : ab_Ev l D ac 4 me_X3_measure n0 0 0 r 0 0 ab_SH 84 [some (.ref 1), some (.int x1), some (.int q.1)] [] q.2), ab_Ev l D ac 4 me_X3_measure n0 0 0 r 0 0 ab_SH 19 [some (.ref 1), some (.int x1), some (.int x2)] [] M := by
  intro n
  induction n with
  | zero =>
    intro M x1 x2 q h kk
    cases h
  | succ n ih =>
    intro M x1 x2 q h kk
    unfold mi_X3_measure_19 at h
    refine ev_iload_n dX3_measure_19 rfl ?_
    refine ev_aload_n dX3_measure_20 rfl ?_
    refine ev_geti fl_RX3_58 sh_1 (by decide) (by decide) rfl dX3_measure_21 ?_
    refine ev_icmp_ge (t := 84) dX3_measure_24 (by decide) (fun hc3 => ?_) (fun hc3 => ?_)
    · replace h := ab_pos hc3 h
      cases h
      exact kk
    · replace h := ab_neg hc3 h
      refine ev_aload_n dX3_measure_27 rfl ?_
      refine ev_getr (o' := 10) fl_RX3_38 sh_1 (by decide) (by decide) rfl rfl dX3_measure_28 ?_
      refine ev_iload_n dX3_measure_31 rfl ?_
      refine ev_bipush (x := 12) dX3_measure_32 (by decide) ?_
      refine ev_imul dX3_measure_34 ?_
      refine ev_iload_n dX3_measure_35 rfl ?_
      refine ev_iadd dX3_measure_36 ?_
      refine ev_aload_n dX3_measure_37 rfl ?_
      refine ev_iload_n dX3_measure_38 rfl ?_
      refine ev_iload_n dX3_measure_39 rfl ?_
      obtain ⟨q4, hv5, h⟩ := ab_bind h
      refine ev_callV (st := [.int ((x1 * 12) + x2), .ref 10]) (co_X3_freshBar M x1 x2 _ hv5) mv_X3_freshBar sh_1 ml_RX3_79 dX3_measure_40 (by decide) rfl (Nat.le_of_ble_eq_true rfl) ⟨Nat.le_refl _, Nat.le_refl _⟩ ?_
      obtain ⟨hb6, h⟩ := ab_chk_some h
      refine ev_iastore sh_10 hb6 dX3_measure_43 ?_
      refine ev_aload_n dX3_measure_44 rfl ?_
      refine ev_getr (o' := 11) fl_RX3_41 sh_1 (by decide) (by decide) rfl rfl dX3_measure_45 ?_
      refine ev_iload_n dX3_measure_48 rfl ?_
      refine ev_dup2 dX3_measure_49 rfl rfl ?_
      obtain ⟨hb7, h⟩ := ab_chk_some h
      refine ev_iaload sh_11 hb7 dX3_measure_50 ?_
      refine ev_iload_n dX3_measure_51 rfl ?_
      refine ev_iload_n dX3_measure_52 rfl ?_
      obtain ⟨q8, hq9, h⟩ := ab_bind h
      have hJ10 : ab_Ev l D ac 4 me_X3_measure n0 0 0 r 0 0 ab_SH 76 [some (.ref 1), some (.int x1), some (.int x2)] [.int q8, .int ((ab_pi M 10 ((x1 * 12) + x2).toNatClampNeg q4).1 11 (x1).toNatClampNeg), .int x1, .ref 11] (ab_pi M 10 ((x1 * 12) + x2).toNatClampNeg q4) := by
        refine ev_ior dX3_measure_76 ?_
        obtain ⟨hb15, h⟩ := ab_chk_some h
        refine ev_iastore sh_11 hb15 dX3_measure_77 ?_
        refine ev_iinc (y := x2 + 1) dX3_measure_78 rfl (by first | rfl | decide) rfl rfl ?_
        refine ev_goto (t := 19) dX3_measure_81 (by decide) ?_
        exact ih (ab_pi (ab_pi M 10 ((x1 * 12) + x2).toNatClampNeg q4) 11 (x1).toNatClampNeg (((ab_pi M 10 ((x1 * 12) + x2).toNatClampNeg q4).1 11 (x1).toNatClampNeg) ||| q8)) x1 (x2 + 1) _ h kk
      refine ev_icmp_eq (t := 75) dX3_measure_53 (by decide) (fun hc11 => ?_) (fun hc11 => ?_)
      · replace hq9 := ab_pos hc11 hq9
        refine ev_iconst (x := 0) dX3_measure_75 (by decide) ?_
        cases hq9
        exact hJ10
      · replace hq9 := ab_neg hc11 hq9
        refine ev_aload_n dX3_measure_56 rfl ?_
        refine ev_iload_n dX3_measure_57 rfl ?_
        refine ev_iload_n dX3_measure_58 rfl ?_
        obtain ⟨q12, hv13, hq9⟩ := ab_bind hq9
        refine ev_callV (st := [.int ((ab_pi M 10 ((x1 * 12) + x2).toNatClampNeg q4).1 11 (x1).toNatClampNeg), .int x1, .ref 11]) (co_X3_square (ab_pi M 10 ((x1 * 12) + x2).toNatClampNeg q4) x1 x2 _ hv13) mv_X3_square sh_1 ml_RX3_82 dX3_measure_59 (by decide) rfl (Nat.le_of_ble_eq_true rfl) ⟨Nat.le_refl _, Nat.le_refl _⟩ ?_
        refine ev_aload_n dX3_measure_62 rfl ?_
        refine ev_geti fl_RX3_48 sh_1 (by decide) (by decide) rfl dX3_measure_63 ?_
        refine ev_icmp_gt (t := 75) dX3_measure_66 (by decide) (fun hc14 => ?_) (fun hc14 => ?_)
        · replace hq9 := ab_pos hc14 hq9
          refine ev_iconst (x := 0) dX3_measure_75 (by decide) ?_
          cases hq9
          exact hJ10
        · replace hq9 := ab_neg hc14 hq9
          refine ev_iconst (x := 1) dX3_measure_69 (by decide) ?_
          refine ev_iload_n dX3_measure_70 rfl ?_
          refine ev_ishl dX3_measure_71 ?_
          refine ev_goto (t := 76) dX3_measure_72 (by decide) ?_
          cases hq9
          exact hJ10

noncomputable def mi_X3_measure_2 : Nat → ab_M → Int32 → Option (Int32 × ab_M)
  | 0, _, _ => none
  | n + 1, M, x1 =>
    if (M.1 1 7) ≤ x1 then
      some (x1, M)
    else
      ab_chk (vp_in x1 12) <|
      (mi_X3_measure_19 ab_F (ab_pi M 11 (x1).toNatClampNeg 0) x1 0).bind fun q16 =>
      mi_X3_measure_2 n q16.2 (x1 + 1)

set_option maxHeartbeats 4000000 in
set_option maxRecDepth 100000 in
theorem lp_X3_measure_2 {l : Launch} {D : va_G} {ac : Nat → ClassId} {n0 : Nat} {r : ab_Rs} : ∀ (n : Nat) (M : ab_M) (x1 : Int32) (q : Int32 × ab_M) (h : mi_X3_measure_2 n M x1 = some q) (kk : ab_Ev l D ac 4 me_X3_measure n0 0 0 r 0 0 ab_SH 90 [some (.ref 1), some (.int q.1), none] [] q.2), ab_Ev l D ac 4 me_X3_measure n0 0 0 r 0 0 ab_SH 2 [some (.ref 1), some (.int x1), none] [] M := by
  intro n
  induction n with
  | zero =>
    intro M x1 q h kk
    cases h
  | succ n ih =>
    intro M x1 q h kk
    unfold mi_X3_measure_2 at h
    refine ev_iload_n dX3_measure_2 rfl ?_
    refine ev_aload_n dX3_measure_3 rfl ?_
    refine ev_geti fl_RX3_58 sh_1 (by decide) (by decide) rfl dX3_measure_4 ?_
    refine ev_icmp_ge (t := 90) dX3_measure_7 (by decide) (fun hc1 => ?_) (fun hc1 => ?_)
    · replace h := ab_pos hc1 h
      cases h
      exact kk
    · replace h := ab_neg hc1 h
      refine ev_aload_n dX3_measure_10 rfl ?_
      refine ev_getr (o' := 11) fl_RX3_41 sh_1 (by decide) (by decide) rfl rfl dX3_measure_11 ?_
      refine ev_iload_n dX3_measure_14 rfl ?_
      refine ev_iconst (x := 0) dX3_measure_15 (by decide) ?_
      obtain ⟨hb2, h⟩ := ab_chk_some h
      refine ev_iastore sh_11 hb2 dX3_measure_16 ?_
      refine ev_iconst (x := 0) dX3_measure_17 (by decide) ?_
      refine ev_istore_n dX3_measure_18 (Nat.le_of_ble_eq_true rfl) rfl rfl ?_
      obtain ⟨q16, hq17, h⟩ := ab_bind h
      refine lp_X3_measure_19 _ (ab_pi M 11 (x1).toNatClampNeg 0) x1 0 _ hq17 ?_
      refine ev_iinc (y := x1 + 1) dX3_measure_84 rfl (by first | rfl | decide) rfl rfl ?_
      refine ev_goto (t := 2) dX3_measure_87 (by decide) ?_
      refine ev_drop (lv' := [some (.ref 1), some (.int (x1 + 1)), none]) (ab_sub_k (ab_sub_k (ab_sub_d ab_sub_nil))) ?_
      exact ih q16.2 (x1 + 1) _ h kk

noncomputable def mi_X3_measure (M : ab_M) : Option (ab_M) :=
  (mi_X3_measure_2 ab_F M 0).bind fun q18 =>
  some q18.2

set_option maxHeartbeats 4000000 in
set_option maxRecDepth 100000 in
theorem co_X3_measure {l : Launch} {D : va_G} {ac : Nat → ClassId} (M : ab_M) (z : ab_M) (h : mi_X3_measure M = some z) : ab_Con l D ac 4 me_X3_measure 0 0 [.ref 1] ab_SH M (none, ab_SH, z) := by
  refine ab_intro (lv := [some (.ref 1), none, none]) (by decide) rfl (Nat.le_of_ble_eq_true rfl) rfl ?_
  unfold mi_X3_measure at h
  refine ev_iconst (x := 0) dX3_measure_0 (by decide) ?_
  refine ev_istore_n dX3_measure_1 (Nat.le_of_ble_eq_true rfl) rfl rfl ?_
  obtain ⟨q18, hq19, h⟩ := ab_bind h
  refine lp_X3_measure_2 _ M 0 _ hq19 ?_
  cases h
  exact ev_return rfl dX3_measure_90

noncomputable def mi_X3_addMast_30 : Nat → ab_M → Int32 → Int32 → Int32 → Option (Int32 × ab_M)
  | 0, _, _, _, _ => none
  | n + 1, M, x4, x5, x6 =>
    if x4 ≤ x6 then
      some (x6, M)
    else
      ab_chk (vp_in ((M.1 1 8) + x6) 16) <|
      mi_X3_addMast_30 n (ab_pi M 3 ((M.1 1 8) + x6).toNatClampNeg x5) x4 x5 (x6 + 1)

set_option maxHeartbeats 4000000 in
set_option maxRecDepth 100000 in
theorem lp_X3_addMast_30 {l : Launch} {D : va_G} {ac : Nat → ClassId} {n0 : Nat} {r : ab_Rs} : ∀ (n : Nat) (M : ab_M) (x4 : Int32) (x5 : Int32) (x6 : Int32) (q : Int32 × ab_M) (h : mi_X3_addMast_30 n M x4 x5 x6 = some q) (kk : ab_Ev l D ac 5 me_X3_addMast n0 0 0 r 0 0 ab_SH 57 [some (.ref 1), none, none, none, some (.int x4), some (.int x5), some (.int q.1)] [] q.2), ab_Ev l D ac 5 me_X3_addMast n0 0 0 r 0 0 ab_SH 30 [some (.ref 1), none, none, none, some (.int x4), some (.int x5), some (.int x6)] [] M := by
  intro n
  induction n with
  | zero =>
    intro M x4 x5 x6 q h kk
    cases h
  | succ n ih =>
    intro M x4 x5 x6 q h kk
    unfold mi_X3_addMast_30 at h
    refine ev_iload dX3_addMast_30 rfl ?_
    refine ev_iload dX3_addMast_32 rfl ?_
    refine ev_icmp_ge (t := 57) dX3_addMast_34 (by decide) (fun hc4 => ?_) (fun hc4 => ?_)
    · replace h := ab_pos hc4 h
      cases h
      exact kk
    · replace h := ab_neg hc4 h
      refine ev_aload_n dX3_addMast_37 rfl ?_
      refine ev_getr (o' := 3) fl_RX3_17 sh_1 (by decide) (by decide) rfl rfl dX3_addMast_38 ?_
      refine ev_aload_n dX3_addMast_41 rfl ?_
      refine ev_geti fl_RX3_61 sh_1 (by decide) (by decide) rfl dX3_addMast_42 ?_
      refine ev_iload dX3_addMast_45 rfl ?_
      refine ev_iadd dX3_addMast_47 ?_
      refine ev_iload dX3_addMast_48 rfl ?_
      obtain ⟨hb5, h⟩ := ab_chk_some h
      refine ev_iastore sh_3 hb5 dX3_addMast_50 ?_
      refine ev_iinc (y := x6 + 1) dX3_addMast_51 rfl (by first | rfl | decide) rfl rfl ?_
      refine ev_goto (t := 30) dX3_addMast_54 (by decide) ?_
      exact ih (ab_pi M 3 ((M.1 1 8) + x6).toNatClampNeg x5) x4 x5 (x6 + 1) _ h kk

noncomputable def mi_X3_addMast (M : ab_M) (x1 : Int32) (x2 : Int32) (x3 : Int32) (x4 : Int32) : Option (Int32 × ab_M) :=
  ab_chk (vp_in (M.1 1 7) 12) <|
  (mi_X4_begin M (12 + (M.1 1 7).toNatClampNeg) (M.1 1 7) x1 x2 x3 x4 (M.1 1 8)).bind fun q2 =>
  (mi_X3_addMast_30 ab_F q2 x4 (M.1 1 7) 0).bind fun q6 =>
  (mi_X3_measure (ab_pi (ab_pi q6.2 1 7 ((q6.2.1 1 7) + 1)) 1 8 (((ab_pi q6.2 1 7 ((q6.2.1 1 7) + 1)).1 1 8) + x4))).bind fun q8 =>
  some (M.1 1 7, q8)

set_option maxHeartbeats 4000000 in
set_option maxRecDepth 100000 in
theorem co_X3_addMast {l : Launch} {D : va_G} {ac : Nat → ClassId} (M : ab_M) (x1 : Int32) (x2 : Int32) (x3 : Int32) (x4 : Int32) (z : Int32 × ab_M) (h : mi_X3_addMast M x1 x2 x3 x4 = some z) : ab_Con l D ac 5 me_X3_addMast 0 0 [.ref 1, .int x1, .int x2, .int x3, .int x4] ab_SH M (some (.int z.1), ab_SH, z.2) := by
  refine ab_intro (lv := [some (.ref 1), some (.int x1), some (.int x2), some (.int x3), some (.int x4), none, none]) (by decide) rfl (Nat.le_of_ble_eq_true rfl) rfl ?_
  unfold mi_X3_addMast at h
  refine ev_aload_n dX3_addMast_0 rfl ?_
  refine ev_geti fl_RX3_58 sh_1 (by decide) (by decide) rfl dX3_addMast_1 ?_
  refine ev_istore dX3_addMast_4 (Nat.le_of_ble_eq_true rfl) rfl rfl ?_
  refine ev_aload_n dX3_addMast_6 rfl ?_
  refine ev_getr (o' := 2) fl_RX3_11 sh_1 (by decide) (by decide) rfl rfl dX3_addMast_7 ?_
  refine ev_iload dX3_addMast_10 rfl ?_
  obtain ⟨hb1, h⟩ := ab_chk_some h
  refine ev_aaload sh_2 (Or.inl rfl) hb1 (rf_mast hb1) dX3_addMast_12 ?_
  refine ev_iload dX3_addMast_13 rfl ?_
  refine ev_iload_n dX3_addMast_15 rfl ?_
  refine ev_iload_n dX3_addMast_16 rfl ?_
  refine ev_iload_n dX3_addMast_17 rfl ?_
  refine ev_iload dX3_addMast_18 rfl ?_
  refine ev_aload_n dX3_addMast_20 rfl ?_
  refine ev_geti fl_RX3_61 sh_1 (by decide) (by decide) rfl dX3_addMast_21 ?_
  obtain ⟨q2, hv3, h⟩ := ab_bind h
  refine ev_callV (st := []) (co_X4_begin M (12 + (M.1 1 7).toNatClampNeg) (sh_mast hb1) (M.1 1 7) x1 x2 x3 x4 (M.1 1 8) _ hv3) mv_X4_begin (sh_mast hb1) ml_RX3_64 dX3_addMast_24 (by decide) rfl (Nat.le_of_ble_eq_true rfl) ⟨Nat.le_refl _, Nat.le_refl _⟩ ?_
  refine ev_iconst (x := 0) dX3_addMast_27 (by decide) ?_
  refine ev_istore dX3_addMast_28 (Nat.le_of_ble_eq_true rfl) rfl rfl ?_
  obtain ⟨q6, hq7, h⟩ := ab_bind h
  refine ev_drop (lv' := [some (.ref 1), none, none, none, some (.int x4), some (.int (M.1 1 7)), some (.int 0)]) (ab_sub_k (ab_sub_d (ab_sub_d (ab_sub_d (ab_sub_k (ab_sub_k (ab_sub_k ab_sub_nil))))))) ?_
  refine lp_X3_addMast_30 _ q2 x4 (M.1 1 7) 0 _ hq7 ?_
  refine ev_aload_n dX3_addMast_57 rfl ?_
  refine ev_dup dX3_addMast_58 rfl ?_
  refine ev_geti fl_RX3_58 sh_1 (by decide) (by decide) rfl dX3_addMast_59 ?_
  refine ev_iconst (x := 1) dX3_addMast_62 (by decide) ?_
  refine ev_iadd dX3_addMast_63 ?_
  refine ev_puti fl_RX3_58 sh_1 (by decide) (by decide) rfl rfl rfl dX3_addMast_64 ?_
  refine ev_aload_n dX3_addMast_67 rfl ?_
  refine ev_dup dX3_addMast_68 rfl ?_
  refine ev_geti fl_RX3_61 sh_1 (by decide) (by decide) rfl dX3_addMast_69 ?_
  refine ev_iload dX3_addMast_72 rfl ?_
  refine ev_iadd dX3_addMast_74 ?_
  refine ev_puti fl_RX3_61 sh_1 (by decide) (by decide) rfl rfl rfl dX3_addMast_75 ?_
  refine ev_aload_n dX3_addMast_78 rfl ?_
  obtain ⟨q8, hv9, h⟩ := ab_bind h
  refine ev_callV (st := []) (co_X3_measure (ab_pi (ab_pi q6.2 1 7 ((q6.2.1 1 7) + 1)) 1 8 (((ab_pi q6.2 1 7 ((q6.2.1 1 7) + 1)).1 1 8) + x4)) _ hv9) mv_X3_measure sh_1 ml_RX3_68 dX3_addMast_79 (by decide) rfl (Nat.le_of_ble_eq_true rfl) ⟨Nat.le_refl _, Nat.le_refl _⟩ ?_
  refine ev_iload dX3_addMast_82 rfl ?_
  cases h
  exact ev_ireturn rfl dX3_addMast_84

noncomputable def mi_X3_barOf (M : ab_M) (x1 : Int32) (x2 : Int32) : Option (Int32) :=
  ab_chk (vp_in ((x1 * 12) + x2) 144) <|
  some (M.1 10 ((x1 * 12) + x2).toNatClampNeg)

set_option maxHeartbeats 4000000 in
set_option maxRecDepth 100000 in
theorem co_X3_barOf {l : Launch} {D : va_G} {ac : Nat → ClassId} (M : ab_M) (x1 : Int32) (x2 : Int32) (z : Int32) (h : mi_X3_barOf M x1 x2 = some z) : ab_Con l D ac 1 me_X3_barOf 0 0 [.ref 1, .int x1, .int x2] ab_SH M (some (.int z), ab_SH, M) := by
  refine ab_intro (lv := [some (.ref 1), some (.int x1), some (.int x2)]) (by decide) rfl (Nat.le_of_ble_eq_true rfl) rfl ?_
  unfold mi_X3_barOf at h
  refine ev_aload_n dX3_barOf_0 rfl ?_
  refine ev_getr (o' := 10) fl_RX3_38 sh_1 (by decide) (by decide) rfl rfl dX3_barOf_1 ?_
  refine ev_iload_n dX3_barOf_4 rfl ?_
  refine ev_bipush (x := 12) dX3_barOf_5 (by decide) ?_
  refine ev_imul dX3_barOf_7 ?_
  refine ev_iload_n dX3_barOf_8 rfl ?_
  refine ev_iadd dX3_barOf_9 ?_
  obtain ⟨hb1, h⟩ := ab_chk_some h
  refine ev_iaload sh_10 hb1 dX3_barOf_10 ?_
  cases h
  exact ev_ireturn rfl dX3_barOf_11

noncomputable def mi_X3_shift_15 : Nat → ab_M → Int32 → Int32 → Int32 → Option (Int32 × Int32)
  | 0, _, _, _, _ => none
  | n + 1, M, x1, x3, x4 =>
    if (M.1 1 7) ≤ x4 then
      some (x3, x4)
    else
      (mi_X3_barOf M x1 x4).bind fun q5 =>
      (mi_X3_freshBar M x1 x4).bind fun q7 =>
      ((if q5 = q7 then
        some 0
      else
        some 1) : Option (Int32)).bind fun q9 =>
      mi_X3_shift_15 n M x1 (x3 + q9) (x4 + 1)

set_option maxHeartbeats 4000000 in
set_option maxRecDepth 100000 in
theorem lp_X3_shift_15 {l : Launch} {D : va_G} {ac : Nat → ClassId} {n0 : Nat} {r : ab_Rs} : ∀ (n : Nat) (M : ab_M) (x1 : Int32) (x3 : Int32) (x4 : Int32) (q : Int32 × Int32) (h : mi_X3_shift_15 n M x1 x3 x4 = some q) (kk : ab_Ev l D ac 5 me_X3_shift n0 0 0 r 0 0 ab_SH 55 [some (.ref 1), some (.int x1), none, some (.int q.1), some (.int q.2)] [] M), ab_Ev l D ac 5 me_X3_shift n0 0 0 r 0 0 ab_SH 15 [some (.ref 1), some (.int x1), none, some (.int x3), some (.int x4)] [] M := by
  intro n
  induction n with
  | zero =>
    intro M x1 x3 x4 q h kk
    cases h
  | succ n ih =>
    intro M x1 x3 x4 q h kk
    unfold mi_X3_shift_15 at h
    refine ev_iload dX3_shift_15 rfl ?_
    refine ev_aload_n dX3_shift_17 rfl ?_
    refine ev_geti fl_RX3_58 sh_1 (by decide) (by decide) rfl dX3_shift_18 ?_
    refine ev_icmp_ge (t := 55) dX3_shift_21 (by decide) (fun hc4 => ?_) (fun hc4 => ?_)
    · replace h := ab_pos hc4 h
      cases h
      exact kk
    · replace h := ab_neg hc4 h
      refine ev_iload_n dX3_shift_24 rfl ?_
      refine ev_aload_n dX3_shift_25 rfl ?_
      refine ev_iload_n dX3_shift_26 rfl ?_
      refine ev_iload dX3_shift_27 rfl ?_
      obtain ⟨q5, hv6, h⟩ := ab_bind h
      refine ev_callV (st := [.int x3]) (co_X3_barOf M x1 x4 _ hv6) mv_X3_barOf sh_1 ml_RX3_75 dX3_shift_29 (by decide) rfl (Nat.le_of_ble_eq_true rfl) ⟨Nat.le_refl _, Nat.le_refl _⟩ ?_
      refine ev_aload_n dX3_shift_32 rfl ?_
      refine ev_iload_n dX3_shift_33 rfl ?_
      refine ev_iload dX3_shift_34 rfl ?_
      obtain ⟨q7, hv8, h⟩ := ab_bind h
      refine ev_callV (st := [.int q5, .int x3]) (co_X3_freshBar M x1 x4 _ hv8) mv_X3_freshBar sh_1 ml_RX3_79 dX3_shift_36 (by decide) rfl (Nat.le_of_ble_eq_true rfl) ⟨Nat.le_refl _, Nat.le_refl _⟩ ?_
      obtain ⟨q9, hq10, h⟩ := ab_bind h
      have hJ11 : ab_Ev l D ac 5 me_X3_shift n0 0 0 r 0 0 ab_SH 47 [some (.ref 1), some (.int x1), none, some (.int x3), some (.int x4)] [.int q9, .int x3] M := by
        refine ev_iadd dX3_shift_47 ?_
        refine ev_istore_n dX3_shift_48 (Nat.le_of_ble_eq_true rfl) rfl rfl ?_
        refine ev_iinc (y := x4 + 1) dX3_shift_49 rfl (by first | rfl | decide) rfl rfl ?_
        refine ev_goto (t := 15) dX3_shift_52 (by decide) ?_
        exact ih M x1 (x3 + q9) (x4 + 1) _ h kk
      refine ev_icmp_eq (t := 46) dX3_shift_39 (by decide) (fun hc12 => ?_) (fun hc12 => ?_)
      · replace hq10 := ab_pos hc12 hq10
        refine ev_iconst (x := 0) dX3_shift_46 (by decide) ?_
        cases hq10
        exact hJ11
      · replace hq10 := ab_neg hc12 hq10
        refine ev_iconst (x := 1) dX3_shift_42 (by decide) ?_
        refine ev_goto (t := 47) dX3_shift_43 (by decide) ?_
        cases hq10
        exact hJ11

noncomputable def mi_X3_shift (M : ab_M) (x1 : Int32) (x2 : Int32) : Option (Int32 × ab_M) :=
  ab_chk (vp_in x1 12) <|
  (mi_X4_goTo M (12 + (x1).toNatClampNeg) x2).bind fun q2 =>
  (mi_X3_shift_15 ab_F q2 x1 0 0).bind fun q13 =>
  (mi_X3_measure q2).bind fun q15 =>
  some (q13.1, q15)

set_option maxHeartbeats 4000000 in
set_option maxRecDepth 100000 in
theorem co_X3_shift {l : Launch} {D : va_G} {ac : Nat → ClassId} (M : ab_M) (x1 : Int32) (x2 : Int32) (z : Int32 × ab_M) (h : mi_X3_shift M x1 x2 = some z) : ab_Con l D ac 5 me_X3_shift 0 0 [.ref 1, .int x1, .int x2] ab_SH M (some (.int z.1), ab_SH, z.2) := by
  refine ab_intro (lv := [some (.ref 1), some (.int x1), some (.int x2), none, none]) (by decide) rfl (Nat.le_of_ble_eq_true rfl) rfl ?_
  unfold mi_X3_shift at h
  refine ev_aload_n dX3_shift_0 rfl ?_
  refine ev_getr (o' := 2) fl_RX3_11 sh_1 (by decide) (by decide) rfl rfl dX3_shift_1 ?_
  refine ev_iload_n dX3_shift_4 rfl ?_
  obtain ⟨hb1, h⟩ := ab_chk_some h
  refine ev_aaload sh_2 (Or.inl rfl) hb1 (rf_mast hb1) dX3_shift_5 ?_
  refine ev_iload_n dX3_shift_6 rfl ?_
  obtain ⟨q2, hv3, h⟩ := ab_bind h
  refine ev_callV (st := []) (co_X4_goTo M (12 + (x1).toNatClampNeg) (sh_mast hb1) x2 _ hv3) mv_X4_goTo (sh_mast hb1) ml_RX3_71 dX3_shift_7 (by decide) rfl (Nat.le_of_ble_eq_true rfl) ⟨Nat.le_refl _, Nat.le_refl _⟩ ?_
  refine ev_iconst (x := 0) dX3_shift_10 (by decide) ?_
  refine ev_istore_n dX3_shift_11 (Nat.le_of_ble_eq_true rfl) rfl rfl ?_
  refine ev_iconst (x := 0) dX3_shift_12 (by decide) ?_
  refine ev_istore dX3_shift_13 (Nat.le_of_ble_eq_true rfl) rfl rfl ?_
  obtain ⟨q13, hq14, h⟩ := ab_bind h
  refine ev_drop (lv' := [some (.ref 1), some (.int x1), none, some (.int 0), some (.int 0)]) (ab_sub_k (ab_sub_k (ab_sub_d (ab_sub_k (ab_sub_k ab_sub_nil))))) ?_
  refine lp_X3_shift_15 _ q2 x1 0 0 _ hq14 ?_
  refine ev_aload_n dX3_shift_55 rfl ?_
  obtain ⟨q15, hv16, h⟩ := ab_bind h
  refine ev_callV (st := []) (co_X3_measure q2 _ hv16) mv_X3_measure sh_1 ml_RX3_68 dX3_shift_56 (by decide) rfl (Nat.le_of_ble_eq_true rfl) ⟨Nat.le_refl _, Nat.le_refl _⟩ ?_
  refine ev_iload_n dX3_shift_59 rfl ?_
  cases h
  exact ev_ireturn rfl dX3_shift_60

noncomputable def mi_X3_barOfWants (M : ab_M) (x1 : Int32) (x2 : Int32) : Option (Int32) :=
  ab_chk (vp_in x1 16) <|
  ab_chk (vp_in x2 16) <|
  (mi_X3_barOf M (M.1 3 (x1).toNatClampNeg) (M.1 3 (x2).toNatClampNeg)).bind fun q3 =>
  some q3

set_option maxHeartbeats 4000000 in
set_option maxRecDepth 100000 in
theorem co_X3_barOfWants {l : Launch} {D : va_G} {ac : Nat → ClassId} (M : ab_M) (x1 : Int32) (x2 : Int32) (z : Int32) (h : mi_X3_barOfWants M x1 x2 = some z) : ab_Con l D ac 2 me_X3_barOfWants 0 0 [.ref 1, .int x1, .int x2] ab_SH M (some (.int z), ab_SH, M) := by
  refine ab_intro (lv := [some (.ref 1), some (.int x1), some (.int x2)]) (by decide) rfl (Nat.le_of_ble_eq_true rfl) rfl ?_
  unfold mi_X3_barOfWants at h
  refine ev_aload_n dX3_barOfWants_0 rfl ?_
  refine ev_aload_n dX3_barOfWants_1 rfl ?_
  refine ev_getr (o' := 3) fl_RX3_17 sh_1 (by decide) (by decide) rfl rfl dX3_barOfWants_2 ?_
  refine ev_iload_n dX3_barOfWants_5 rfl ?_
  obtain ⟨hb1, h⟩ := ab_chk_some h
  refine ev_iaload sh_3 hb1 dX3_barOfWants_6 ?_
  refine ev_aload_n dX3_barOfWants_7 rfl ?_
  refine ev_getr (o' := 3) fl_RX3_17 sh_1 (by decide) (by decide) rfl rfl dX3_barOfWants_8 ?_
  refine ev_iload_n dX3_barOfWants_11 rfl ?_
  obtain ⟨hb2, h⟩ := ab_chk_some h
  refine ev_iaload sh_3 hb2 dX3_barOfWants_12 ?_
  obtain ⟨q3, hv4, h⟩ := ab_bind h
  refine ev_callV (st := []) (co_X3_barOf M (M.1 3 (x1).toNatClampNeg) (M.1 3 (x2).toNatClampNeg) _ hv4) mv_X3_barOf sh_1 ml_RX3_75 dX3_barOfWants_13 (by decide) rfl (Nat.le_of_ble_eq_true rfl) ⟨Nat.le_refl _, Nat.le_refl _⟩ ?_
  cases h
  exact ev_ireturn rfl dX3_barOfWants_16

noncomputable def mi_X3_areNear (M : ab_M) (x1 : Int32) (x2 : Int32) : Option (Int32) :=
  ab_chk (vp_in x1 16) <|
  ab_chk (vp_in (M.1 3 (x1).toNatClampNeg) 12) <|
  ab_chk (vp_in x2 16) <|
  if ((ab_ushr (M.1 11 (M.1 3 (x1).toNatClampNeg).toNatClampNeg) (M.1 3 (x2).toNatClampNeg)) &&& 1) = 0 then
    some 0
  else
    some 1

set_option maxHeartbeats 4000000 in
set_option maxRecDepth 100000 in
theorem co_X3_areNear {l : Launch} {D : va_G} {ac : Nat → ClassId} (M : ab_M) (x1 : Int32) (x2 : Int32) (z : Int32) (h : mi_X3_areNear M x1 x2 = some z) : ab_Con l D ac 1 me_X3_areNear 0 0 [.ref 1, .int x1, .int x2] ab_SH M (some (.int z), ab_SH, M) := by
  refine ab_intro (lv := [some (.ref 1), some (.int x1), some (.int x2)]) (by decide) rfl (Nat.le_of_ble_eq_true rfl) rfl ?_
  unfold mi_X3_areNear at h
  refine ev_aload_n dX3_areNear_0 rfl ?_
  refine ev_getr (o' := 11) fl_RX3_41 sh_1 (by decide) (by decide) rfl rfl dX3_areNear_1 ?_
  refine ev_aload_n dX3_areNear_4 rfl ?_
  refine ev_getr (o' := 3) fl_RX3_17 sh_1 (by decide) (by decide) rfl rfl dX3_areNear_5 ?_
  refine ev_iload_n dX3_areNear_8 rfl ?_
  obtain ⟨hb1, h⟩ := ab_chk_some h
  refine ev_iaload sh_3 hb1 dX3_areNear_9 ?_
  obtain ⟨hb2, h⟩ := ab_chk_some h
  refine ev_iaload sh_11 hb2 dX3_areNear_10 ?_
  refine ev_aload_n dX3_areNear_11 rfl ?_
  refine ev_getr (o' := 3) fl_RX3_17 sh_1 (by decide) (by decide) rfl rfl dX3_areNear_12 ?_
  refine ev_iload_n dX3_areNear_15 rfl ?_
  obtain ⟨hb3, h⟩ := ab_chk_some h
  refine ev_iaload sh_3 hb3 dX3_areNear_16 ?_
  refine ev_iushr dX3_areNear_17 ?_
  refine ev_iconst (x := 1) dX3_areNear_18 (by decide) ?_
  refine ev_iand dX3_areNear_19 ?_
  refine ev_if_eq (t := 27) dX3_areNear_20 (by decide) (fun hc4 => ?_) (fun hc4 => ?_)
  · replace h := ab_pos hc4 h
    refine ev_iconst (x := 0) dX3_areNear_27 (by decide) ?_
    cases h
    exact ev_zreturn rfl (Or.inl rfl) dX3_areNear_28
  · replace h := ab_neg hc4 h
    refine ev_iconst (x := 1) dX3_areNear_23 (by decide) ?_
    refine ev_goto (t := 28) dX3_areNear_24 (by decide) ?_
    cases h
    exact ev_zreturn rfl (Or.inr rfl) dX3_areNear_28

noncomputable def mi_X3_areIn (M : ab_M) (x1 : Int32) (x2 : Int32) (x3 : Int32) : Option (Int32) :=
  ab_chk (vp_in x1 12) <|
  ab_chk (vp_in x1 12) <|
  ab_chk (vp_in x2 12) <|
  if ((((ab_ushr (M.1 11 (x1).toNatClampNeg) x2) &&& (ab_ushr (M.1 11 (x1).toNatClampNeg) x3)) &&& (ab_ushr (M.1 11 (x2).toNatClampNeg) x3)) &&& 1) = 0 then
    some 0
  else
    some 1

set_option maxHeartbeats 4000000 in
set_option maxRecDepth 100000 in
theorem co_X3_areIn {l : Launch} {D : va_G} {ac : Nat → ClassId} (M : ab_M) (x1 : Int32) (x2 : Int32) (x3 : Int32) (z : Int32) (h : mi_X3_areIn M x1 x2 x3 = some z) : ab_Con l D ac 1 me_X3_areIn 0 0 [.ref 1, .int x1, .int x2, .int x3] ab_SH M (some (.int z), ab_SH, M) := by
  refine ab_intro (lv := [some (.ref 1), some (.int x1), some (.int x2), some (.int x3)]) (by decide) rfl (Nat.le_of_ble_eq_true rfl) rfl ?_
  unfold mi_X3_areIn at h
  refine ev_aload_n dX3_areIn_0 rfl ?_
  refine ev_getr (o' := 11) fl_RX3_41 sh_1 (by decide) (by decide) rfl rfl dX3_areIn_1 ?_
  refine ev_iload_n dX3_areIn_4 rfl ?_
  obtain ⟨hb1, h⟩ := ab_chk_some h
  refine ev_iaload sh_11 hb1 dX3_areIn_5 ?_
  refine ev_iload_n dX3_areIn_6 rfl ?_
  refine ev_iushr dX3_areIn_7 ?_
  refine ev_aload_n dX3_areIn_8 rfl ?_
  refine ev_getr (o' := 11) fl_RX3_41 sh_1 (by decide) (by decide) rfl rfl dX3_areIn_9 ?_
  refine ev_iload_n dX3_areIn_12 rfl ?_
  obtain ⟨hb2, h⟩ := ab_chk_some h
  refine ev_iaload sh_11 hb2 dX3_areIn_13 ?_
  refine ev_iload_n dX3_areIn_14 rfl ?_
  refine ev_iushr dX3_areIn_15 ?_
  refine ev_iand dX3_areIn_16 ?_
  refine ev_aload_n dX3_areIn_17 rfl ?_
  refine ev_getr (o' := 11) fl_RX3_41 sh_1 (by decide) (by decide) rfl rfl dX3_areIn_18 ?_
  refine ev_iload_n dX3_areIn_21 rfl ?_
  obtain ⟨hb3, h⟩ := ab_chk_some h
  refine ev_iaload sh_11 hb3 dX3_areIn_22 ?_
  refine ev_iload_n dX3_areIn_23 rfl ?_
  refine ev_iushr dX3_areIn_24 ?_
  refine ev_iand dX3_areIn_25 ?_
  refine ev_iconst (x := 1) dX3_areIn_26 (by decide) ?_
  refine ev_iand dX3_areIn_27 ?_
  refine ev_if_eq (t := 35) dX3_areIn_28 (by decide) (fun hc4 => ?_) (fun hc4 => ?_)
  · replace h := ab_pos hc4 h
    refine ev_iconst (x := 0) dX3_areIn_35 (by decide) ?_
    cases h
    exact ev_zreturn rfl (Or.inl rfl) dX3_areIn_36
  · replace h := ab_neg hc4 h
    refine ev_iconst (x := 1) dX3_areIn_31 (by decide) ?_
    refine ev_goto (t := 36) dX3_areIn_32 (by decide) ?_
    cases h
    exact ev_zreturn rfl (Or.inr rfl) dX3_areIn_36

noncomputable def mi_X3_kindOfWant (M : ab_M) (x1 : Int32) : Option (Int32) :=
  ab_chk (vp_in x1 16) <|
  ab_chk (vp_in (M.1 3 (x1).toNatClampNeg) 12) <|
  some (M.1 (12 + (M.1 3 (x1).toNatClampNeg).toNatClampNeg) 1)

set_option maxHeartbeats 4000000 in
set_option maxRecDepth 100000 in
theorem co_X3_kindOfWant {l : Launch} {D : va_G} {ac : Nat → ClassId} (M : ab_M) (x1 : Int32) (z : Int32) (h : mi_X3_kindOfWant M x1 = some z) : ab_Con l D ac 1 me_X3_kindOfWant 0 0 [.ref 1, .int x1] ab_SH M (some (.int z), ab_SH, M) := by
  refine ab_intro (lv := [some (.ref 1), some (.int x1)]) (by decide) rfl (Nat.le_of_ble_eq_true rfl) rfl ?_
  unfold mi_X3_kindOfWant at h
  refine ev_aload_n dX3_kindOfWant_0 rfl ?_
  refine ev_getr (o' := 2) fl_RX3_11 sh_1 (by decide) (by decide) rfl rfl dX3_kindOfWant_1 ?_
  refine ev_aload_n dX3_kindOfWant_4 rfl ?_
  refine ev_getr (o' := 3) fl_RX3_17 sh_1 (by decide) (by decide) rfl rfl dX3_kindOfWant_5 ?_
  refine ev_iload_n dX3_kindOfWant_8 rfl ?_
  obtain ⟨hb1, h⟩ := ab_chk_some h
  refine ev_iaload sh_3 hb1 dX3_kindOfWant_9 ?_
  obtain ⟨hb2, h⟩ := ab_chk_some h
  refine ev_aaload sh_2 (Or.inl rfl) hb2 (rf_mast hb2) dX3_kindOfWant_10 ?_
  refine ev_geti fl_RX3_97 (sh_mast hb2) (by decide) (by decide) rfl dX3_kindOfWant_11 ?_
  cases h
  exact ev_ireturn rfl dX3_kindOfWant_14

noncomputable def mi_X3_gapOf (M : ab_M) (x1 : Int32) : Option (Int32) :=
  ab_chk (vp_in x1 16) <|
  ab_chk (vp_in (M.1 3 (x1).toNatClampNeg) 12) <|
  if (M.1 (12 + (M.1 3 (x1).toNatClampNeg).toNatClampNeg) 1) = 1 then
    some (M.1 (12 + (M.1 3 (x1).toNatClampNeg).toNatClampNeg) 8)
  else
    some 0

set_option maxHeartbeats 4000000 in
set_option maxRecDepth 100000 in
theorem co_X3_gapOf {l : Launch} {D : va_G} {ac : Nat → ClassId} (M : ab_M) (x1 : Int32) (z : Int32) (h : mi_X3_gapOf M x1 = some z) : ab_Con l D ac 1 me_X3_gapOf 0 0 [.ref 1, .int x1] ab_SH M (some (.int z), ab_SH, M) := by
  refine ab_intro (lv := [some (.ref 1), some (.int x1), none]) (by decide) rfl (Nat.le_of_ble_eq_true rfl) rfl ?_
  unfold mi_X3_gapOf at h
  refine ev_aload_n dX3_gapOf_0 rfl ?_
  refine ev_getr (o' := 2) fl_RX3_11 sh_1 (by decide) (by decide) rfl rfl dX3_gapOf_1 ?_
  refine ev_aload_n dX3_gapOf_4 rfl ?_
  refine ev_getr (o' := 3) fl_RX3_17 sh_1 (by decide) (by decide) rfl rfl dX3_gapOf_5 ?_
  refine ev_iload_n dX3_gapOf_8 rfl ?_
  obtain ⟨hb1, h⟩ := ab_chk_some h
  refine ev_iaload sh_3 hb1 dX3_gapOf_9 ?_
  obtain ⟨hb2, h⟩ := ab_chk_some h
  refine ev_aaload sh_2 (Or.inl rfl) hb2 (rf_mast hb2) dX3_gapOf_10 ?_
  refine ev_astore_n dX3_gapOf_11 (Nat.le_of_ble_eq_true rfl) rfl rfl ?_
  refine ev_aload_n dX3_gapOf_12 rfl ?_
  refine ev_geti fl_RX3_97 (sh_mast hb2) (by decide) (by decide) rfl dX3_gapOf_13 ?_
  refine ev_iconst (x := 1) dX3_gapOf_16 (by decide) ?_
  refine ev_icmp_ne (t := 27) dX3_gapOf_17 (by decide) (fun hc3 => ?_) (fun hc3 => ?_)
  · replace h := ab_neg hc3 h
    refine ev_iconst (x := 0) dX3_gapOf_27 (by decide) ?_
    cases h
    exact ev_ireturn rfl dX3_gapOf_28
  · replace h := ab_pos hc3 h
    refine ev_aload_n dX3_gapOf_20 rfl ?_
    refine ev_geti fl_RX3_100 (sh_mast hb2) (by decide) (by decide) rfl dX3_gapOf_21 ?_
    refine ev_goto (t := 28) dX3_gapOf_24 (by decide) ?_
    cases h
    exact ev_ireturn rfl dX3_gapOf_28

noncomputable def mi_X3_allowed (M : ab_M) (x1 : Int32) : Option (Int32) :=
  ab_chk (vp_in x1 16) <|
  ab_chk (vp_in (M.1 3 (x1).toNatClampNeg) 12) <|
  (mi_X3_gapOf M x1).bind fun q3 =>
  (mi_X1_allows M (12 + (M.1 3 (x1).toNatClampNeg).toNatClampNeg)).bind fun q5 =>
  (some (((M.1 (12 + (M.1 3 (x1).toNatClampNeg).toNatClampNeg) 7) &&& (ab_ushr (M.1 (12 + (M.1 3 (x1).toNatClampNeg).toNatClampNeg) 7) q3)) &&& q5) : Option Int32).bind fun v7 =>
  ab_chk (vp_in x1 16) <|
  if (M.1 4 (x1).toNatClampNeg) = (-2) then
    some v7
  else
    ab_chk (vp_in x1 16) <|
    some (v7 &&& ((1 : Int32) <<< ((M.1 4 (x1).toNatClampNeg) &&& 31)))

set_option maxHeartbeats 4000000 in
set_option maxRecDepth 100000 in
theorem co_X3_allowed {l : Launch} {D : va_G} {ac : Nat → ClassId} (M : ab_M) (x1 : Int32) (z : Int32) (h : mi_X3_allowed M x1 = some z) : ab_Con l D ac 3 me_X3_allowed 0 0 [.ref 1, .int x1] ab_SH M (some (.int z), ab_SH, M) := by
  refine ab_intro (lv := [some (.ref 1), some (.int x1), none, none]) (by decide) rfl (Nat.le_of_ble_eq_true rfl) rfl ?_
  unfold mi_X3_allowed at h
  refine ev_aload_n dX3_allowed_0 rfl ?_
  refine ev_getr (o' := 2) fl_RX3_11 sh_1 (by decide) (by decide) rfl rfl dX3_allowed_1 ?_
  refine ev_aload_n dX3_allowed_4 rfl ?_
  refine ev_getr (o' := 3) fl_RX3_17 sh_1 (by decide) (by decide) rfl rfl dX3_allowed_5 ?_
  refine ev_iload_n dX3_allowed_8 rfl ?_
  obtain ⟨hb1, h⟩ := ab_chk_some h
  refine ev_iaload sh_3 hb1 dX3_allowed_9 ?_
  obtain ⟨hb2, h⟩ := ab_chk_some h
  refine ev_aaload sh_2 (Or.inl rfl) hb2 (rf_mast hb2) dX3_allowed_10 ?_
  refine ev_astore_n dX3_allowed_11 (Nat.le_of_ble_eq_true rfl) rfl rfl ?_
  refine ev_aload_n dX3_allowed_12 rfl ?_
  refine ev_geti fl_RX3_103 (sh_mast hb2) (by decide) (by decide) rfl dX3_allowed_13 ?_
  refine ev_aload_n dX3_allowed_16 rfl ?_
  refine ev_geti fl_RX3_103 (sh_mast hb2) (by decide) (by decide) rfl dX3_allowed_17 ?_
  refine ev_aload_n dX3_allowed_20 rfl ?_
  refine ev_iload_n dX3_allowed_21 rfl ?_
  obtain ⟨q3, hv4, h⟩ := ab_bind h
  refine ev_callV (st := [.int (M.1 (12 + (M.1 3 (x1).toNatClampNeg).toNatClampNeg) 7), .int (M.1 (12 + (M.1 3 (x1).toNatClampNeg).toNatClampNeg) 7)]) (co_X3_gapOf M x1 _ hv4) mv_X3_gapOf sh_1 ml_RX3_106 dX3_allowed_22 (by decide) rfl (Nat.le_of_ble_eq_true rfl) ⟨Nat.le_refl _, Nat.le_refl _⟩ ?_
  refine ev_iushr dX3_allowed_25 ?_
  refine ev_iand dX3_allowed_26 ?_
  refine ev_aload_n dX3_allowed_27 rfl ?_
  refine ev_getr (o' := 9) fl_RX3_34 sh_1 (by decide) (by decide) rfl rfl dX3_allowed_28 ?_
  refine ev_aload_n dX3_allowed_31 rfl ?_
  obtain ⟨q5, hv6, h⟩ := ab_bind h
  refine ev_callV (st := [.int ((M.1 (12 + (M.1 3 (x1).toNatClampNeg).toNatClampNeg) 7) &&& (ab_ushr (M.1 (12 + (M.1 3 (x1).toNatClampNeg).toNatClampNeg) 7) q3))]) (co_X1_allows M (12 + (M.1 3 (x1).toNatClampNeg).toNatClampNeg) (sh_mast hb2) _ hv6) mv_X1_allows sh_9 ml_RX3_110 dX3_allowed_32 (by decide) rfl (Nat.le_of_ble_eq_true rfl) ⟨Nat.le_refl _, Nat.le_refl _⟩ ?_
  refine ev_iand dX3_allowed_35 ?_
  obtain ⟨v7, hq8, h⟩ := ab_bind h
  refine ev_nmi (Option.some.inj hq8) ?_
  refine ev_istore_n (x := v7) dX3_allowed_36 (Nat.le_of_ble_eq_true rfl) rfl rfl ?_
  refine ev_aload_n dX3_allowed_37 rfl ?_
  refine ev_getr (o' := 4) fl_RX3_21 sh_1 (by decide) (by decide) rfl rfl dX3_allowed_38 ?_
  refine ev_iload_n dX3_allowed_41 rfl ?_
  obtain ⟨hb9, h⟩ := ab_chk_some h
  refine ev_iaload sh_4 hb9 dX3_allowed_42 ?_
  refine ev_bipush (x := (-2)) dX3_allowed_43 (by decide) ?_
  refine ev_icmp_ne (t := 52) dX3_allowed_45 (by decide) (fun hc10 => ?_) (fun hc10 => ?_)
  · replace h := ab_neg hc10 h
    refine ev_iload_n dX3_allowed_52 rfl ?_
    refine ev_iconst (x := 1) dX3_allowed_53 (by decide) ?_
    refine ev_aload_n dX3_allowed_54 rfl ?_
    refine ev_getr (o' := 4) fl_RX3_21 sh_1 (by decide) (by decide) rfl rfl dX3_allowed_55 ?_
    refine ev_iload_n dX3_allowed_58 rfl ?_
    obtain ⟨hb11, h⟩ := ab_chk_some h
    refine ev_iaload sh_4 hb11 dX3_allowed_59 ?_
    refine ev_ishl dX3_allowed_60 ?_
    refine ev_iand dX3_allowed_61 ?_
    cases h
    exact ev_ireturn rfl dX3_allowed_62
  · replace h := ab_pos hc10 h
    refine ev_iload_n dX3_allowed_48 rfl ?_
    refine ev_goto (t := 62) dX3_allowed_49 (by decide) ?_
    cases h
    exact ev_ireturn rfl dX3_allowed_62

noncomputable def mi_X3_barredTwos_16 : Nat → ab_M → Int32 → Int32 → Int32 → Option (Int32 × Int32)
  | 0, _, _, _, _ => none
  | n + 1, M, x1, x2, x3 =>
    if (M.1 1 7) ≤ x3 then
      some (x1, x3)
    else
      (mi_X3_barOf M x2 x3).bind fun q3 =>
      ((if q3 ≤ 0 then
        some 0
      else
        some 1) : Option (Int32)).bind fun q5 =>
      mi_X3_barredTwos_16 n M (x1 + q5) x2 (x3 + 1)

set_option maxHeartbeats 4000000 in
set_option maxRecDepth 100000 in
theorem lp_X3_barredTwos_16 {l : Launch} {D : va_G} {ac : Nat → ClassId} {n0 : Nat} {r : ab_Rs} : ∀ (n : Nat) (M : ab_M) (x1 : Int32) (x2 : Int32) (x3 : Int32) (q : Int32 × Int32) (h : mi_X3_barredTwos_16 n M x1 x2 x3 = some q) (kk : ab_Ev l D ac 2 me_X3_barredTwos n0 0 0 r 0 0 ab_SH 47 [some (.ref 1), some (.int q.1), some (.int x2), some (.int q.2)] [] M), ab_Ev l D ac 2 me_X3_barredTwos n0 0 0 r 0 0 ab_SH 16 [some (.ref 1), some (.int x1), some (.int x2), some (.int x3)] [] M := by
  intro n
  induction n with
  | zero =>
    intro M x1 x2 x3 q h kk
    cases h
  | succ n ih =>
    intro M x1 x2 x3 q h kk
    unfold mi_X3_barredTwos_16 at h
    refine ev_iload_n dX3_barredTwos_16 rfl ?_
    refine ev_aload_n dX3_barredTwos_17 rfl ?_
    refine ev_geti fl_RX3_58 sh_1 (by decide) (by decide) rfl dX3_barredTwos_18 ?_
    refine ev_icmp_ge (t := 47) dX3_barredTwos_21 (by decide) (fun hc2 => ?_) (fun hc2 => ?_)
    · replace h := ab_pos hc2 h
      cases h
      exact kk
    · replace h := ab_neg hc2 h
      refine ev_iload_n dX3_barredTwos_24 rfl ?_
      refine ev_aload_n dX3_barredTwos_25 rfl ?_
      refine ev_iload_n dX3_barredTwos_26 rfl ?_
      refine ev_iload_n dX3_barredTwos_27 rfl ?_
      obtain ⟨q3, hv4, h⟩ := ab_bind h
      refine ev_callV (st := [.int x1]) (co_X3_barOf M x2 x3 _ hv4) mv_X3_barOf sh_1 ml_RX3_75 dX3_barredTwos_28 (by decide) rfl (Nat.le_of_ble_eq_true rfl) ⟨Nat.le_refl _, Nat.le_refl _⟩ ?_
      obtain ⟨q5, hq6, h⟩ := ab_bind h
      have hJ7 : ab_Ev l D ac 2 me_X3_barredTwos n0 0 0 r 0 0 ab_SH 39 [some (.ref 1), some (.int x1), some (.int x2), some (.int x3)] [.int q5, .int x1] M := by
        refine ev_iadd dX3_barredTwos_39 ?_
        refine ev_istore_n dX3_barredTwos_40 (Nat.le_of_ble_eq_true rfl) rfl rfl ?_
        refine ev_iinc (y := x3 + 1) dX3_barredTwos_41 rfl (by first | rfl | decide) rfl rfl ?_
        refine ev_goto (t := 16) dX3_barredTwos_44 (by decide) ?_
        exact ih M (x1 + q5) x2 (x3 + 1) _ h kk
      refine ev_if_le (t := 38) dX3_barredTwos_31 (by decide) (fun hc8 => ?_) (fun hc8 => ?_)
      · replace hq6 := ab_pos hc8 hq6
        refine ev_iconst (x := 0) dX3_barredTwos_38 (by decide) ?_
        cases hq6
        exact hJ7
      · replace hq6 := ab_neg hc8 hq6
        refine ev_iconst (x := 1) dX3_barredTwos_34 (by decide) ?_
        refine ev_goto (t := 39) dX3_barredTwos_35 (by decide) ?_
        cases hq6
        exact hJ7

noncomputable def mi_X3_barredTwos_4 : Nat → ab_M → Int32 → Int32 → Option (Int32 × Int32)
  | 0, _, _, _ => none
  | n + 1, M, x1, x2 =>
    if (M.1 1 7) ≤ x2 then
      some (x1, x2)
    else
      (mi_X3_barredTwos_16 ab_F M x1 x2 (x2 + 1)).bind fun q9 =>
      mi_X3_barredTwos_4 n M q9.1 (x2 + 1)

set_option maxHeartbeats 4000000 in
set_option maxRecDepth 100000 in
theorem lp_X3_barredTwos_4 {l : Launch} {D : va_G} {ac : Nat → ClassId} {n0 : Nat} {r : ab_Rs} : ∀ (n : Nat) (M : ab_M) (x1 : Int32) (x2 : Int32) (q : Int32 × Int32) (h : mi_X3_barredTwos_4 n M x1 x2 = some q) (kk : ab_Ev l D ac 2 me_X3_barredTwos n0 0 0 r 0 0 ab_SH 53 [some (.ref 1), some (.int q.1), some (.int q.2), none] [] M), ab_Ev l D ac 2 me_X3_barredTwos n0 0 0 r 0 0 ab_SH 4 [some (.ref 1), some (.int x1), some (.int x2), none] [] M := by
  intro n
  induction n with
  | zero =>
    intro M x1 x2 q h kk
    cases h
  | succ n ih =>
    intro M x1 x2 q h kk
    unfold mi_X3_barredTwos_4 at h
    refine ev_iload_n dX3_barredTwos_4 rfl ?_
    refine ev_aload_n dX3_barredTwos_5 rfl ?_
    refine ev_geti fl_RX3_58 sh_1 (by decide) (by decide) rfl dX3_barredTwos_6 ?_
    refine ev_icmp_ge (t := 53) dX3_barredTwos_9 (by decide) (fun hc1 => ?_) (fun hc1 => ?_)
    · replace h := ab_pos hc1 h
      cases h
      exact kk
    · replace h := ab_neg hc1 h
      refine ev_iload_n dX3_barredTwos_12 rfl ?_
      refine ev_iconst (x := 1) dX3_barredTwos_13 (by decide) ?_
      refine ev_iadd dX3_barredTwos_14 ?_
      refine ev_istore_n dX3_barredTwos_15 (Nat.le_of_ble_eq_true rfl) rfl rfl ?_
      obtain ⟨q9, hq10, h⟩ := ab_bind h
      refine lp_X3_barredTwos_16 _ M x1 x2 (x2 + 1) _ hq10 ?_
      refine ev_iinc (y := x2 + 1) dX3_barredTwos_47 rfl (by first | rfl | decide) rfl rfl ?_
      refine ev_goto (t := 4) dX3_barredTwos_50 (by decide) ?_
      refine ev_drop (lv' := [some (.ref 1), some (.int q9.1), some (.int (x2 + 1)), none]) (ab_sub_k (ab_sub_k (ab_sub_k (ab_sub_d ab_sub_nil)))) ?_
      exact ih M q9.1 (x2 + 1) _ h kk

noncomputable def mi_X3_barredTwos (M : ab_M) : Option (Int32) :=
  (mi_X3_barredTwos_4 ab_F M 0 0).bind fun q11 =>
  some q11.1

set_option maxHeartbeats 4000000 in
set_option maxRecDepth 100000 in
theorem co_X3_barredTwos {l : Launch} {D : va_G} {ac : Nat → ClassId} (M : ab_M) (z : Int32) (h : mi_X3_barredTwos M = some z) : ab_Con l D ac 2 me_X3_barredTwos 0 0 [.ref 1] ab_SH M (some (.int z), ab_SH, M) := by
  refine ab_intro (lv := [some (.ref 1), none, none, none]) (by decide) rfl (Nat.le_of_ble_eq_true rfl) rfl ?_
  unfold mi_X3_barredTwos at h
  refine ev_iconst (x := 0) dX3_barredTwos_0 (by decide) ?_
  refine ev_istore_n dX3_barredTwos_1 (Nat.le_of_ble_eq_true rfl) rfl rfl ?_
  refine ev_iconst (x := 0) dX3_barredTwos_2 (by decide) ?_
  refine ev_istore_n dX3_barredTwos_3 (Nat.le_of_ble_eq_true rfl) rfl rfl ?_
  obtain ⟨q11, hq12, h⟩ := ab_bind h
  refine lp_X3_barredTwos_4 _ M 0 0 _ hq12 ?_
  refine ev_iload_n dX3_barredTwos_53 rfl ?_
  cases h
  exact ev_ireturn rfl dX3_barredTwos_54

noncomputable def mi_X3_threesIn_29 : Nat → ab_M → Int32 → Int32 → Int32 → Int32 → Option (Int32 × Int32)
  | 0, _, _, _, _, _ => none
  | n + 1, M, x1, x2, x3, x4 =>
    if (M.1 1 7) ≤ x4 then
      some (x1, x4)
    else
      (mi_X3_areIn M x2 x3 x4).bind fun q4 =>
      ((if q4 = 0 then
        some 0
      else
        some 1) : Option (Int32)).bind fun q6 =>
      mi_X3_threesIn_29 n M (x1 + q6) x2 x3 (x4 + 1)

set_option maxHeartbeats 4000000 in
set_option maxRecDepth 100000 in
theorem lp_X3_threesIn_29 {l : Launch} {D : va_G} {ac : Nat → ClassId} {n0 : Nat} {r : ab_Rs} : ∀ (n : Nat) (M : ab_M) (x1 : Int32) (x2 : Int32) (x3 : Int32) (x4 : Int32) (q : Int32 × Int32) (h : mi_X3_threesIn_29 n M x1 x2 x3 x4 = some q) (kk : ab_Ev l D ac 2 me_X3_threesIn n0 0 0 r 0 0 ab_SH 63 [some (.ref 1), some (.int q.1), some (.int x2), some (.int x3), some (.int q.2)] [] M), ab_Ev l D ac 2 me_X3_threesIn n0 0 0 r 0 0 ab_SH 29 [some (.ref 1), some (.int x1), some (.int x2), some (.int x3), some (.int x4)] [] M := by
  intro n
  induction n with
  | zero =>
    intro M x1 x2 x3 x4 q h kk
    cases h
  | succ n ih =>
    intro M x1 x2 x3 x4 q h kk
    unfold mi_X3_threesIn_29 at h
    refine ev_iload dX3_threesIn_29 rfl ?_
    refine ev_aload_n dX3_threesIn_31 rfl ?_
    refine ev_geti fl_RX3_58 sh_1 (by decide) (by decide) rfl dX3_threesIn_32 ?_
    refine ev_icmp_ge (t := 63) dX3_threesIn_35 (by decide) (fun hc3 => ?_) (fun hc3 => ?_)
    · replace h := ab_pos hc3 h
      cases h
      exact kk
    · replace h := ab_neg hc3 h
      refine ev_iload_n dX3_threesIn_38 rfl ?_
      refine ev_aload_n dX3_threesIn_39 rfl ?_
      refine ev_iload_n dX3_threesIn_40 rfl ?_
      refine ev_iload_n dX3_threesIn_41 rfl ?_
      refine ev_iload dX3_threesIn_42 rfl ?_
      obtain ⟨q4, hv5, h⟩ := ab_bind h
      refine ev_callV (st := [.int x1]) (co_X3_areIn M x2 x3 x4 _ hv5) mv_X3_areIn sh_1 ml_RX3_114 dX3_threesIn_44 (by decide) rfl (Nat.le_of_ble_eq_true rfl) ⟨Nat.le_refl _, Nat.le_refl _⟩ ?_
      obtain ⟨q6, hq7, h⟩ := ab_bind h
      have hJ8 : ab_Ev l D ac 2 me_X3_threesIn n0 0 0 r 0 0 ab_SH 55 [some (.ref 1), some (.int x1), some (.int x2), some (.int x3), some (.int x4)] [.int q6, .int x1] M := by
        refine ev_iadd dX3_threesIn_55 ?_
        refine ev_istore_n dX3_threesIn_56 (Nat.le_of_ble_eq_true rfl) rfl rfl ?_
        refine ev_iinc (y := x4 + 1) dX3_threesIn_57 rfl (by first | rfl | decide) rfl rfl ?_
        refine ev_goto (t := 29) dX3_threesIn_60 (by decide) ?_
        exact ih M (x1 + q6) x2 x3 (x4 + 1) _ h kk
      refine ev_if_eq (t := 54) dX3_threesIn_47 (by decide) (fun hc9 => ?_) (fun hc9 => ?_)
      · replace hq7 := ab_pos hc9 hq7
        refine ev_iconst (x := 0) dX3_threesIn_54 (by decide) ?_
        cases hq7
        exact hJ8
      · replace hq7 := ab_neg hc9 hq7
        refine ev_iconst (x := 1) dX3_threesIn_50 (by decide) ?_
        refine ev_goto (t := 55) dX3_threesIn_51 (by decide) ?_
        cases hq7
        exact hJ8

noncomputable def mi_X3_threesIn_16 : Nat → ab_M → Int32 → Int32 → Int32 → Option (Int32 × Int32)
  | 0, _, _, _, _ => none
  | n + 1, M, x1, x2, x3 =>
    if (M.1 1 7) ≤ x3 then
      some (x1, x3)
    else
      (mi_X3_threesIn_29 ab_F M x1 x2 x3 (x3 + 1)).bind fun q10 =>
      mi_X3_threesIn_16 n M q10.1 x2 (x3 + 1)

set_option maxHeartbeats 4000000 in
set_option maxRecDepth 100000 in
theorem lp_X3_threesIn_16 {l : Launch} {D : va_G} {ac : Nat → ClassId} {n0 : Nat} {r : ab_Rs} : ∀ (n : Nat) (M : ab_M) (x1 : Int32) (x2 : Int32) (x3 : Int32) (q : Int32 × Int32) (h : mi_X3_threesIn_16 n M x1 x2 x3 = some q) (kk : ab_Ev l D ac 2 me_X3_threesIn n0 0 0 r 0 0 ab_SH 69 [some (.ref 1), some (.int q.1), some (.int x2), some (.int q.2), none] [] M), ab_Ev l D ac 2 me_X3_threesIn n0 0 0 r 0 0 ab_SH 16 [some (.ref 1), some (.int x1), some (.int x2), some (.int x3), none] [] M := by
  intro n
  induction n with
  | zero =>
    intro M x1 x2 x3 q h kk
    cases h
  | succ n ih =>
    intro M x1 x2 x3 q h kk
    unfold mi_X3_threesIn_16 at h
    refine ev_iload_n dX3_threesIn_16 rfl ?_
    refine ev_aload_n dX3_threesIn_17 rfl ?_
    refine ev_geti fl_RX3_58 sh_1 (by decide) (by decide) rfl dX3_threesIn_18 ?_
    refine ev_icmp_ge (t := 69) dX3_threesIn_21 (by decide) (fun hc2 => ?_) (fun hc2 => ?_)
    · replace h := ab_pos hc2 h
      cases h
      exact kk
    · replace h := ab_neg hc2 h
      refine ev_iload_n dX3_threesIn_24 rfl ?_
      refine ev_iconst (x := 1) dX3_threesIn_25 (by decide) ?_
      refine ev_iadd dX3_threesIn_26 ?_
      refine ev_istore dX3_threesIn_27 (Nat.le_of_ble_eq_true rfl) rfl rfl ?_
      obtain ⟨q10, hq11, h⟩ := ab_bind h
      refine lp_X3_threesIn_29 _ M x1 x2 x3 (x3 + 1) _ hq11 ?_
      refine ev_iinc (y := x3 + 1) dX3_threesIn_63 rfl (by first | rfl | decide) rfl rfl ?_
      refine ev_goto (t := 16) dX3_threesIn_66 (by decide) ?_
      refine ev_drop (lv' := [some (.ref 1), some (.int q10.1), some (.int x2), some (.int (x3 + 1)), none]) (ab_sub_k (ab_sub_k (ab_sub_k (ab_sub_k (ab_sub_d ab_sub_nil))))) ?_
      exact ih M q10.1 x2 (x3 + 1) _ h kk

noncomputable def mi_X3_threesIn_4 : Nat → ab_M → Int32 → Int32 → Option (Int32 × Int32)
  | 0, _, _, _ => none
  | n + 1, M, x1, x2 =>
    if (M.1 1 7) ≤ x2 then
      some (x1, x2)
    else
      (mi_X3_threesIn_16 ab_F M x1 x2 (x2 + 1)).bind fun q12 =>
      mi_X3_threesIn_4 n M q12.1 (x2 + 1)

set_option maxHeartbeats 4000000 in
set_option maxRecDepth 100000 in
theorem lp_X3_threesIn_4 {l : Launch} {D : va_G} {ac : Nat → ClassId} {n0 : Nat} {r : ab_Rs} : ∀ (n : Nat) (M : ab_M) (x1 : Int32) (x2 : Int32) (q : Int32 × Int32) (h : mi_X3_threesIn_4 n M x1 x2 = some q) (kk : ab_Ev l D ac 2 me_X3_threesIn n0 0 0 r 0 0 ab_SH 75 [some (.ref 1), some (.int q.1), some (.int q.2), none, none] [] M), ab_Ev l D ac 2 me_X3_threesIn n0 0 0 r 0 0 ab_SH 4 [some (.ref 1), some (.int x1), some (.int x2), none, none] [] M := by
  intro n
  induction n with
  | zero =>
    intro M x1 x2 q h kk
    cases h
  | succ n ih =>
    intro M x1 x2 q h kk
    unfold mi_X3_threesIn_4 at h
    refine ev_iload_n dX3_threesIn_4 rfl ?_
    refine ev_aload_n dX3_threesIn_5 rfl ?_
    refine ev_geti fl_RX3_58 sh_1 (by decide) (by decide) rfl dX3_threesIn_6 ?_
    refine ev_icmp_ge (t := 75) dX3_threesIn_9 (by decide) (fun hc1 => ?_) (fun hc1 => ?_)
    · replace h := ab_pos hc1 h
      cases h
      exact kk
    · replace h := ab_neg hc1 h
      refine ev_iload_n dX3_threesIn_12 rfl ?_
      refine ev_iconst (x := 1) dX3_threesIn_13 (by decide) ?_
      refine ev_iadd dX3_threesIn_14 ?_
      refine ev_istore_n dX3_threesIn_15 (Nat.le_of_ble_eq_true rfl) rfl rfl ?_
      obtain ⟨q12, hq13, h⟩ := ab_bind h
      refine lp_X3_threesIn_16 _ M x1 x2 (x2 + 1) _ hq13 ?_
      refine ev_iinc (y := x2 + 1) dX3_threesIn_69 rfl (by first | rfl | decide) rfl rfl ?_
      refine ev_goto (t := 4) dX3_threesIn_72 (by decide) ?_
      refine ev_drop (lv' := [some (.ref 1), some (.int q12.1), some (.int (x2 + 1)), none, none]) (ab_sub_k (ab_sub_k (ab_sub_k (ab_sub_d (ab_sub_k ab_sub_nil))))) ?_
      exact ih M q12.1 (x2 + 1) _ h kk

noncomputable def mi_X3_threesIn (M : ab_M) : Option (Int32) :=
  (mi_X3_threesIn_4 ab_F M 0 0).bind fun q14 =>
  some q14.1

set_option maxHeartbeats 4000000 in
set_option maxRecDepth 100000 in
theorem co_X3_threesIn {l : Launch} {D : va_G} {ac : Nat → ClassId} (M : ab_M) (z : Int32) (h : mi_X3_threesIn M = some z) : ab_Con l D ac 2 me_X3_threesIn 0 0 [.ref 1] ab_SH M (some (.int z), ab_SH, M) := by
  refine ab_intro (lv := [some (.ref 1), none, none, none, none]) (by decide) rfl (Nat.le_of_ble_eq_true rfl) rfl ?_
  unfold mi_X3_threesIn at h
  refine ev_iconst (x := 0) dX3_threesIn_0 (by decide) ?_
  refine ev_istore_n dX3_threesIn_1 (Nat.le_of_ble_eq_true rfl) rfl rfl ?_
  refine ev_iconst (x := 0) dX3_threesIn_2 (by decide) ?_
  refine ev_istore_n dX3_threesIn_3 (Nat.le_of_ble_eq_true rfl) rfl rfl ?_
  obtain ⟨q14, hq15, h⟩ := ab_bind h
  refine lp_X3_threesIn_4 _ M 0 0 _ hq15 ?_
  refine ev_iload_n dX3_threesIn_75 rfl ?_
  cases h
  exact ev_ireturn rfl dX3_threesIn_76

noncomputable def mi_X3_joinedTo_4 : Nat → ab_M → Int32 → Int32 → Int32 → Option (Int32 × Int32)
  | 0, _, _, _, _ => none
  | n + 1, M, x1, x2, x3 =>
    if (M.1 1 7) ≤ x3 then
      some (x2, x3)
    else
      ab_chk (vp_in x1 12) <|
      ((if ((ab_ushr (M.1 11 (x1).toNatClampNeg) x3) &&& 1) = 0 then
        some 0
      else
        ab_chk (vp_in x1 12) <|
        ab_chk (vp_in x3 12) <|
        if ((M.1 11 (x1).toNatClampNeg) &&& (M.1 11 (x3).toNatClampNeg)) = 0 then
          some 0
        else
          some 1) : Option (Int32)).bind fun q3 =>
      ((if x1 = x3 then
        some 0
      else
        (mi_X3_barOf M x1 x3).bind fun q14 =>
        if 0 < q14 then
          some ((1 : Int32) <<< (x3 &&& 31))
        else
          if q3 = 0 then
            some 0
          else
            some ((1 : Int32) <<< (x3 &&& 31))) : Option (Int32)).bind fun q10 =>
      mi_X3_joinedTo_4 n M x1 (x2 ||| q10) (x3 + 1)

set_option maxHeartbeats 4000000 in
set_option maxRecDepth 100000 in
theorem lp_X3_joinedTo_4 {l : Launch} {D : va_G} {ac : Nat → ClassId} {n0 : Nat} {r : ab_Rs} : ∀ (n : Nat) (M : ab_M) (x1 : Int32) (x2 : Int32) (x3 : Int32) (q : Int32 × Int32) (h : mi_X3_joinedTo_4 n M x1 x2 x3 = some q) (kk : ab_Ev l D ac 2 me_X3_joinedTo n0 0 0 r 0 0 ab_SH 83 [some (.ref 1), some (.int x1), some (.int q.1), some (.int q.2), none] [] M), ab_Ev l D ac 2 me_X3_joinedTo n0 0 0 r 0 0 ab_SH 4 [some (.ref 1), some (.int x1), some (.int x2), some (.int x3), none] [] M := by
  intro n
  induction n with
  | zero =>
    intro M x1 x2 x3 q h kk
    cases h
  | succ n ih =>
    intro M x1 x2 x3 q h kk
    unfold mi_X3_joinedTo_4 at h
    refine ev_iload_n dX3_joinedTo_4 rfl ?_
    refine ev_aload_n dX3_joinedTo_5 rfl ?_
    refine ev_geti fl_RX3_58 sh_1 (by decide) (by decide) rfl dX3_joinedTo_6 ?_
    refine ev_icmp_ge (t := 83) dX3_joinedTo_9 (by decide) (fun hc1 => ?_) (fun hc1 => ?_)
    · replace h := ab_pos hc1 h
      cases h
      exact kk
    · replace h := ab_neg hc1 h
      refine ev_aload_n dX3_joinedTo_12 rfl ?_
      refine ev_getr (o' := 11) fl_RX3_41 sh_1 (by decide) (by decide) rfl rfl dX3_joinedTo_13 ?_
      refine ev_iload_n dX3_joinedTo_16 rfl ?_
      obtain ⟨hb2, h⟩ := ab_chk_some h
      refine ev_iaload sh_11 hb2 dX3_joinedTo_17 ?_
      refine ev_iload_n dX3_joinedTo_18 rfl ?_
      refine ev_iushr dX3_joinedTo_19 ?_
      refine ev_iconst (x := 1) dX3_joinedTo_20 (by decide) ?_
      refine ev_iand dX3_joinedTo_21 ?_
      obtain ⟨q3, hq4, h⟩ := ab_bind h
      have hJ5 : ab_Ev l D ac 2 me_X3_joinedTo n0 0 0 r 0 0 ab_SH 46 [some (.ref 1), some (.int x1), some (.int x2), some (.int x3), none] [.int q3] M := by
        refine ev_istore dX3_joinedTo_46 (Nat.le_of_ble_eq_true rfl) rfl rfl ?_
        refine ev_iload_n dX3_joinedTo_48 rfl ?_
        refine ev_iload_n dX3_joinedTo_49 rfl ?_
        refine ev_iload_n dX3_joinedTo_50 rfl ?_
        obtain ⟨q10, hq11, h⟩ := ab_bind h
        have hJ12 : ab_Ev l D ac 2 me_X3_joinedTo n0 0 0 r 0 0 ab_SH 75 [some (.ref 1), some (.int x1), some (.int x2), some (.int x3), some (.int q3)] [.int q10, .int x2] M := by
          refine ev_ior dX3_joinedTo_75 ?_
          refine ev_istore_n dX3_joinedTo_76 (Nat.le_of_ble_eq_true rfl) rfl rfl ?_
          refine ev_iinc (y := x3 + 1) dX3_joinedTo_77 rfl (by first | rfl | decide) rfl rfl ?_
          refine ev_goto (t := 4) dX3_joinedTo_80 (by decide) ?_
          refine ev_drop (lv' := [some (.ref 1), some (.int x1), some (.int (x2 ||| q10)), some (.int (x3 + 1)), none]) (ab_sub_k (ab_sub_k (ab_sub_k (ab_sub_k (ab_sub_d ab_sub_nil))))) ?_
          exact ih M x1 (x2 ||| q10) (x3 + 1) _ h kk
        refine ev_icmp_eq (t := 74) dX3_joinedTo_51 (by decide) (fun hc13 => ?_) (fun hc13 => ?_)
        · replace hq11 := ab_pos hc13 hq11
          refine ev_iconst (x := 0) dX3_joinedTo_74 (by decide) ?_
          cases hq11
          exact hJ12
        · replace hq11 := ab_neg hc13 hq11
          refine ev_aload_n dX3_joinedTo_54 rfl ?_
          refine ev_iload_n dX3_joinedTo_55 rfl ?_
          refine ev_iload_n dX3_joinedTo_56 rfl ?_
          obtain ⟨q14, hv15, hq11⟩ := ab_bind hq11
          refine ev_callV (st := [.int x2]) (co_X3_barOf M x1 x3 _ hv15) mv_X3_barOf sh_1 ml_RX3_75 dX3_joinedTo_57 (by decide) rfl (Nat.le_of_ble_eq_true rfl) ⟨Nat.le_refl _, Nat.le_refl _⟩ ?_
          refine ev_if_gt (t := 68) dX3_joinedTo_60 (by decide) (fun hc16 => ?_) (fun hc16 => ?_)
          · replace hq11 := ab_pos hc16 hq11
            refine ev_iconst (x := 1) dX3_joinedTo_68 (by decide) ?_
            refine ev_iload_n dX3_joinedTo_69 rfl ?_
            refine ev_ishl dX3_joinedTo_70 ?_
            refine ev_goto (t := 75) dX3_joinedTo_71 (by decide) ?_
            cases hq11
            exact hJ12
          · replace hq11 := ab_neg hc16 hq11
            refine ev_iload dX3_joinedTo_63 rfl ?_
            refine ev_if_eq (t := 74) dX3_joinedTo_65 (by decide) (fun hc17 => ?_) (fun hc17 => ?_)
            · replace hq11 := ab_pos hc17 hq11
              refine ev_iconst (x := 0) dX3_joinedTo_74 (by decide) ?_
              cases hq11
              exact hJ12
            · replace hq11 := ab_neg hc17 hq11
              refine ev_iconst (x := 1) dX3_joinedTo_68 (by decide) ?_
              refine ev_iload_n dX3_joinedTo_69 rfl ?_
              refine ev_ishl dX3_joinedTo_70 ?_
              refine ev_goto (t := 75) dX3_joinedTo_71 (by decide) ?_
              cases hq11
              exact hJ12
      refine ev_if_eq (t := 45) dX3_joinedTo_22 (by decide) (fun hc6 => ?_) (fun hc6 => ?_)
      · replace hq4 := ab_pos hc6 hq4
        refine ev_iconst (x := 0) dX3_joinedTo_45 (by decide) ?_
        cases hq4
        exact hJ5
      · replace hq4 := ab_neg hc6 hq4
        refine ev_aload_n dX3_joinedTo_25 rfl ?_
        refine ev_getr (o' := 11) fl_RX3_41 sh_1 (by decide) (by decide) rfl rfl dX3_joinedTo_26 ?_
        refine ev_iload_n dX3_joinedTo_29 rfl ?_
        obtain ⟨hb7, hq4⟩ := ab_chk_some hq4
        refine ev_iaload sh_11 hb7 dX3_joinedTo_30 ?_
        refine ev_aload_n dX3_joinedTo_31 rfl ?_
        refine ev_getr (o' := 11) fl_RX3_41 sh_1 (by decide) (by decide) rfl rfl dX3_joinedTo_32 ?_
        refine ev_iload_n dX3_joinedTo_35 rfl ?_
        obtain ⟨hb8, hq4⟩ := ab_chk_some hq4
        refine ev_iaload sh_11 hb8 dX3_joinedTo_36 ?_
        refine ev_iand dX3_joinedTo_37 ?_
        refine ev_if_eq (t := 45) dX3_joinedTo_38 (by decide) (fun hc9 => ?_) (fun hc9 => ?_)
        · replace hq4 := ab_pos hc9 hq4
          refine ev_iconst (x := 0) dX3_joinedTo_45 (by decide) ?_
          cases hq4
          exact hJ5
        · replace hq4 := ab_neg hc9 hq4
          refine ev_iconst (x := 1) dX3_joinedTo_41 (by decide) ?_
          refine ev_goto (t := 46) dX3_joinedTo_42 (by decide) ?_
          cases hq4
          exact hJ5

noncomputable def mi_X3_joinedTo (M : ab_M) (x1 : Int32) : Option (Int32) :=
  (mi_X3_joinedTo_4 ab_F M x1 0 0).bind fun q18 =>
  some q18.1

set_option maxHeartbeats 4000000 in
set_option maxRecDepth 100000 in
theorem co_X3_joinedTo {l : Launch} {D : va_G} {ac : Nat → ClassId} (M : ab_M) (x1 : Int32) (z : Int32) (h : mi_X3_joinedTo M x1 = some z) : ab_Con l D ac 2 me_X3_joinedTo 0 0 [.ref 1, .int x1] ab_SH M (some (.int z), ab_SH, M) := by
  refine ab_intro (lv := [some (.ref 1), some (.int x1), none, none, none]) (by decide) rfl (Nat.le_of_ble_eq_true rfl) rfl ?_
  unfold mi_X3_joinedTo at h
  refine ev_iconst (x := 0) dX3_joinedTo_0 (by decide) ?_
  refine ev_istore_n dX3_joinedTo_1 (Nat.le_of_ble_eq_true rfl) rfl rfl ?_
  refine ev_iconst (x := 0) dX3_joinedTo_2 (by decide) ?_
  refine ev_istore_n dX3_joinedTo_3 (Nat.le_of_ble_eq_true rfl) rfl rfl ?_
  obtain ⟨q18, hq19, h⟩ := ab_bind h
  refine lp_X3_joinedTo_4 _ M x1 0 0 _ hq19 ?_
  refine ev_iload_n dX3_joinedTo_83 rfl ?_
  cases h
  exact ev_ireturn rfl dX3_joinedTo_84

noncomputable def mi_X3_partAround_20 : Nat → ab_M → Int32 → Int32 → Int32 → Int32 → Option (Int32 × Int32)
  | 0, _, _, _, _, _ => none
  | n + 1, M, x2, x3, x4, x5 =>
    if (M.1 1 7) ≤ x5 then
      some (x4, x5)
    else
      ((if ((ab_ushr x2 x5) &&& 1) = 0 then
        some 0
      else
        (mi_X3_joinedTo M x5).bind fun q7 =>
        some q7) : Option (Int32)).bind fun q3 =>
      mi_X3_partAround_20 n M x2 x3 (x4 ||| q3) (x5 + 1)

set_option maxHeartbeats 4000000 in
set_option maxRecDepth 100000 in
theorem lp_X3_partAround_20 {l : Launch} {D : va_G} {ac : Nat → ClassId} {n0 : Nat} {r : ab_Rs} : ∀ (n : Nat) (M : ab_M) (x2 : Int32) (x3 : Int32) (x4 : Int32) (x5 : Int32) (q : Int32 × Int32) (h : mi_X3_partAround_20 n M x2 x3 x4 x5 = some q) (kk : ab_Ev l D ac 3 me_X3_partAround n0 0 0 r 0 0 ab_SH 59 [some (.ref 1), none, some (.int x2), some (.int x3), some (.int q.1), some (.int q.2)] [] M), ab_Ev l D ac 3 me_X3_partAround n0 0 0 r 0 0 ab_SH 20 [some (.ref 1), none, some (.int x2), some (.int x3), some (.int x4), some (.int x5)] [] M := by
  intro n
  induction n with
  | zero =>
    intro M x2 x3 x4 x5 q h kk
    cases h
  | succ n ih =>
    intro M x2 x3 x4 x5 q h kk
    unfold mi_X3_partAround_20 at h
    refine ev_iload dX3_partAround_20 rfl ?_
    refine ev_aload_n dX3_partAround_22 rfl ?_
    refine ev_geti fl_RX3_58 sh_1 (by decide) (by decide) rfl dX3_partAround_23 ?_
    refine ev_icmp_ge (t := 59) dX3_partAround_26 (by decide) (fun hc2 => ?_) (fun hc2 => ?_)
    · replace h := ab_pos hc2 h
      cases h
      exact kk
    · replace h := ab_neg hc2 h
      refine ev_iload dX3_partAround_29 rfl ?_
      refine ev_iload_n dX3_partAround_31 rfl ?_
      refine ev_iload dX3_partAround_32 rfl ?_
      refine ev_iushr dX3_partAround_34 ?_
      refine ev_iconst (x := 1) dX3_partAround_35 (by decide) ?_
      refine ev_iand dX3_partAround_36 ?_
      obtain ⟨q3, hq4, h⟩ := ab_bind h
      have hJ5 : ab_Ev l D ac 3 me_X3_partAround n0 0 0 r 0 0 ab_SH 50 [some (.ref 1), none, some (.int x2), some (.int x3), some (.int x4), some (.int x5)] [.int q3, .int x4] M := by
        refine ev_ior dX3_partAround_50 ?_
        refine ev_istore dX3_partAround_51 (Nat.le_of_ble_eq_true rfl) rfl rfl ?_
        refine ev_iinc (y := x5 + 1) dX3_partAround_53 rfl (by first | rfl | decide) rfl rfl ?_
        refine ev_goto (t := 20) dX3_partAround_56 (by decide) ?_
        exact ih M x2 x3 (x4 ||| q3) (x5 + 1) _ h kk
      refine ev_if_eq (t := 49) dX3_partAround_37 (by decide) (fun hc6 => ?_) (fun hc6 => ?_)
      · replace hq4 := ab_pos hc6 hq4
        refine ev_iconst (x := 0) dX3_partAround_49 (by decide) ?_
        cases hq4
        exact hJ5
      · replace hq4 := ab_neg hc6 hq4
        refine ev_aload_n dX3_partAround_40 rfl ?_
        refine ev_iload dX3_partAround_41 rfl ?_
        obtain ⟨q7, hv8, hq4⟩ := ab_bind hq4
        refine ev_callV (st := [.int x4]) (co_X3_joinedTo M x5 _ hv8) mv_X3_joinedTo sh_1 ml_RX3_121 dX3_partAround_43 (by decide) rfl (Nat.le_of_ble_eq_true rfl) ⟨Nat.le_refl _, Nat.le_refl _⟩ ?_
        refine ev_goto (t := 50) dX3_partAround_46 (by decide) ?_
        cases hq4
        exact hJ5

noncomputable def mi_X3_partAround_6 : Nat → ab_M → Int32 → Int32 → Option (Sum (Int32 × Int32) (Int32))
  | 0, _, _, _ => none
  | n + 1, M, x2, x3 =>
    if (M.1 1 7) ≤ x3 then
      some (.inl (x2, x3))
    else
      (mi_X3_partAround_20 ab_F M x2 x3 x2 0).bind fun q9 =>
      if q9.1 = x2 then
        some (.inr x2)
      else
        mi_X3_partAround_6 n M q9.1 (x3 + 1)

set_option maxHeartbeats 4000000 in
set_option maxRecDepth 100000 in
theorem lp_X3_partAround_6 {l : Launch} {D : va_G} {ac : Nat → ClassId} {n0 : Nat} {r : ab_Rs} : ∀ (n : Nat) (M : ab_M) (x2 : Int32) (x3 : Int32) (q : Sum (Int32 × Int32) (Int32)) (h : mi_X3_partAround_6 n M x2 x3 = some q) (kk : ∀ y, q = .inl y → ab_Ev l D ac 3 me_X3_partAround n0 0 0 r 0 0 ab_SH 76 [some (.ref 1), none, some (.int y.1), some (.int y.2), none, none] [] M) (kr : ∀ v, q = .inr v → r = (some (.int v), ab_SH, M)), ab_Ev l D ac 3 me_X3_partAround n0 0 0 r 0 0 ab_SH 6 [some (.ref 1), none, some (.int x2), some (.int x3), none, none] [] M := by
  intro n
  induction n with
  | zero =>
    intro M x2 x3 q h kk kr
    cases h
  | succ n ih =>
    intro M x2 x3 q h kk kr
    unfold mi_X3_partAround_6 at h
    refine ev_iload_n dX3_partAround_6 rfl ?_
    refine ev_aload_n dX3_partAround_7 rfl ?_
    refine ev_geti fl_RX3_58 sh_1 (by decide) (by decide) rfl dX3_partAround_8 ?_
    refine ev_icmp_ge (t := 76) dX3_partAround_11 (by decide) (fun hc1 => ?_) (fun hc1 => ?_)
    · replace h := ab_pos hc1 h
      cases h
      exact kk _ rfl
    · replace h := ab_neg hc1 h
      refine ev_iload_n dX3_partAround_14 rfl ?_
      refine ev_istore dX3_partAround_15 (Nat.le_of_ble_eq_true rfl) rfl rfl ?_
      refine ev_iconst (x := 0) dX3_partAround_17 (by decide) ?_
      refine ev_istore dX3_partAround_18 (Nat.le_of_ble_eq_true rfl) rfl rfl ?_
      obtain ⟨q9, hq10, h⟩ := ab_bind h
      refine lp_X3_partAround_20 _ M x2 x3 x2 0 _ hq10 ?_
      refine ev_iload dX3_partAround_59 rfl ?_
      refine ev_iload_n dX3_partAround_61 rfl ?_
      refine ev_icmp_ne (t := 67) dX3_partAround_62 (by decide) (fun hc11 => ?_) (fun hc11 => ?_)
      · replace h := ab_neg hc11 h
        refine ev_iload dX3_partAround_67 rfl ?_
        refine ev_istore_n dX3_partAround_69 (Nat.le_of_ble_eq_true rfl) rfl rfl ?_
        refine ev_iinc (y := x3 + 1) dX3_partAround_70 rfl (by first | rfl | decide) rfl rfl ?_
        refine ev_goto (t := 6) dX3_partAround_73 (by decide) ?_
        refine ev_drop (lv' := [some (.ref 1), none, some (.int q9.1), some (.int (x3 + 1)), none, none]) (ab_sub_k (ab_sub_k (ab_sub_k (ab_sub_k (ab_sub_d (ab_sub_d ab_sub_nil)))))) ?_
        exact ih M q9.1 (x3 + 1) _ h kk kr
      · replace h := ab_pos hc11 h
        refine ev_iload_n dX3_partAround_65 rfl ?_
        cases h
        rw [kr _ rfl]
        exact ev_ireturn rfl dX3_partAround_66

noncomputable def mi_X3_partAround (M : ab_M) (x1 : Int32) : Option (Int32) :=
  (mi_X3_partAround_6 ab_F M ((1 : Int32) <<< (x1 &&& 31)) 0).bind fun q15 => Sum.elim (fun q12 =>
  some q12.1) (fun v14 => some v14) q15

set_option maxHeartbeats 4000000 in
set_option maxRecDepth 100000 in
theorem co_X3_partAround {l : Launch} {D : va_G} {ac : Nat → ClassId} (M : ab_M) (x1 : Int32) (z : Int32) (h : mi_X3_partAround M x1 = some z) : ab_Con l D ac 3 me_X3_partAround 0 0 [.ref 1, .int x1] ab_SH M (some (.int z), ab_SH, M) := by
  refine ab_intro (lv := [some (.ref 1), some (.int x1), none, none, none, none]) (by decide) rfl (Nat.le_of_ble_eq_true rfl) rfl ?_
  unfold mi_X3_partAround at h
  refine ev_iconst (x := 1) dX3_partAround_0 (by decide) ?_
  refine ev_iload_n dX3_partAround_1 rfl ?_
  refine ev_ishl dX3_partAround_2 ?_
  refine ev_istore_n dX3_partAround_3 (Nat.le_of_ble_eq_true rfl) rfl rfl ?_
  refine ev_iconst (x := 0) dX3_partAround_4 (by decide) ?_
  refine ev_istore_n dX3_partAround_5 (Nat.le_of_ble_eq_true rfl) rfl rfl ?_
  obtain ⟨q15, hq13, h⟩ := ab_bind h
  refine ev_drop (lv' := [some (.ref 1), none, some (.int ((1 : Int32) <<< (x1 &&& 31))), some (.int 0), none, none]) (ab_sub_k (ab_sub_d (ab_sub_k (ab_sub_k (ab_sub_k (ab_sub_k ab_sub_nil)))))) ?_
  rcases ab_elim h with ⟨q12, rfl, h⟩ | ⟨v14, rfl, h⟩
  · refine lp_X3_partAround_6 _ M ((1 : Int32) <<< (x1 &&& 31)) 0 _ hq13 (fun z e16 => ?_) (fun z e16 => by cases e16)
    cases e16
    refine ev_iload_n dX3_partAround_76 rfl ?_
    cases h
    exact ev_ireturn rfl dX3_partAround_77
  · refine lp_X3_partAround_6 _ M ((1 : Int32) <<< (x1 &&& 31)) 0 _ hq13 (fun z e16 => by cases e16) (fun z e16 => ?_)
    cases e16
    cases h
    rfl

noncomputable def mi_X3_parts_6 : Nat → ab_M → Int32 → Int32 → Int32 → Option (Int32 × Int32 × Int32)
  | 0, _, _, _, _ => none
  | n + 1, M, x1, x2, x3 =>
    if (M.1 1 7) ≤ x3 then
      some (x1, x2, x3)
    else
      ((if ((ab_ushr x2 x3) &&& 1) = 0 then
        (mi_X3_partAround M x3).bind fun q6 =>
        some (x1 + 1, x2 ||| q6)
      else
        some (x1, x2)) : Option (Int32 × Int32)).bind fun q2 =>
      mi_X3_parts_6 n M q2.1 q2.2 (x3 + 1)

set_option maxHeartbeats 4000000 in
set_option maxRecDepth 100000 in
theorem lp_X3_parts_6 {l : Launch} {D : va_G} {ac : Nat → ClassId} {n0 : Nat} {r : ab_Rs} : ∀ (n : Nat) (M : ab_M) (x1 : Int32) (x2 : Int32) (x3 : Int32) (q : Int32 × Int32 × Int32) (h : mi_X3_parts_6 n M x1 x2 x3 = some q) (kk : ab_Ev l D ac 4 me_X3_parts n0 0 0 r 0 0 ab_SH 39 [some (.ref 1), some (.int q.1), some (.int q.2.1), some (.int q.2.2)] [] M), ab_Ev l D ac 4 me_X3_parts n0 0 0 r 0 0 ab_SH 6 [some (.ref 1), some (.int x1), some (.int x2), some (.int x3)] [] M := by
  intro n
  induction n with
  | zero =>
    intro M x1 x2 x3 q h kk
    cases h
  | succ n ih =>
    intro M x1 x2 x3 q h kk
    unfold mi_X3_parts_6 at h
    refine ev_iload_n dX3_parts_6 rfl ?_
    refine ev_aload_n dX3_parts_7 rfl ?_
    refine ev_geti fl_RX3_58 sh_1 (by decide) (by decide) rfl dX3_parts_8 ?_
    refine ev_icmp_ge (t := 39) dX3_parts_11 (by decide) (fun hc1 => ?_) (fun hc1 => ?_)
    · replace h := ab_pos hc1 h
      cases h
      exact kk
    · replace h := ab_neg hc1 h
      refine ev_iload_n dX3_parts_14 rfl ?_
      refine ev_iload_n dX3_parts_15 rfl ?_
      refine ev_iushr dX3_parts_16 ?_
      refine ev_iconst (x := 1) dX3_parts_17 (by decide) ?_
      refine ev_iand dX3_parts_18 ?_
      obtain ⟨q2, hq3, h⟩ := ab_bind h
      have hJ4 : ab_Ev l D ac 4 me_X3_parts n0 0 0 r 0 0 ab_SH 33 [some (.ref 1), some (.int q2.1), some (.int q2.2), some (.int x3)] [] M := by
        refine ev_iinc (y := x3 + 1) dX3_parts_33 rfl (by first | rfl | decide) rfl rfl ?_
        refine ev_goto (t := 6) dX3_parts_36 (by decide) ?_
        exact ih M q2.1 q2.2 (x3 + 1) _ h kk
      refine ev_if_ne (t := 33) dX3_parts_19 (by decide) (fun hc5 => ?_) (fun hc5 => ?_)
      · replace hq3 := ab_neg hc5 hq3
        cases hq3
        exact hJ4
      · replace hq3 := ab_pos hc5 hq3
        refine ev_iload_n dX3_parts_22 rfl ?_
        refine ev_aload_n dX3_parts_23 rfl ?_
        refine ev_iload_n dX3_parts_24 rfl ?_
        obtain ⟨q6, hv7, hq3⟩ := ab_bind hq3
        refine ev_callV (st := [.int x2]) (co_X3_partAround M x3 _ hv7) mv_X3_partAround sh_1 ml_RX3_118 dX3_parts_25 (by decide) rfl (Nat.le_of_ble_eq_true rfl) ⟨Nat.le_refl _, Nat.le_refl _⟩ ?_
        refine ev_ior dX3_parts_28 ?_
        refine ev_istore_n dX3_parts_29 (Nat.le_of_ble_eq_true rfl) rfl rfl ?_
        refine ev_iinc (y := x1 + 1) dX3_parts_30 rfl (by first | rfl | decide) rfl rfl ?_
        cases hq3
        exact hJ4

noncomputable def mi_X3_parts (M : ab_M) : Option (Int32) :=
  (mi_X3_parts_6 ab_F M 0 0 0).bind fun q8 =>
  some q8.1

set_option maxHeartbeats 4000000 in
set_option maxRecDepth 100000 in
theorem co_X3_parts {l : Launch} {D : va_G} {ac : Nat → ClassId} (M : ab_M) (z : Int32) (h : mi_X3_parts M = some z) : ab_Con l D ac 4 me_X3_parts 0 0 [.ref 1] ab_SH M (some (.int z), ab_SH, M) := by
  refine ab_intro (lv := [some (.ref 1), none, none, none]) (by decide) rfl (Nat.le_of_ble_eq_true rfl) rfl ?_
  unfold mi_X3_parts at h
  refine ev_iconst (x := 0) dX3_parts_0 (by decide) ?_
  refine ev_istore_n dX3_parts_1 (Nat.le_of_ble_eq_true rfl) rfl rfl ?_
  refine ev_iconst (x := 0) dX3_parts_2 (by decide) ?_
  refine ev_istore_n dX3_parts_3 (Nat.le_of_ble_eq_true rfl) rfl rfl ?_
  refine ev_iconst (x := 0) dX3_parts_4 (by decide) ?_
  refine ev_istore_n dX3_parts_5 (Nat.le_of_ble_eq_true rfl) rfl rfl ?_
  obtain ⟨q8, hq9, h⟩ := ab_bind h
  refine lp_X3_parts_6 _ M 0 0 0 _ hq9 ?_
  refine ev_iload_n dX3_parts_39 rfl ?_
  cases h
  exact ev_ireturn rfl dX3_parts_40

noncomputable def mi_X3_partOf_7 : Nat → ab_M → Int32 → Int32 → Int32 → Int32 → Option (Sum (Int32 × Int32 × Int32) (Int32))
  | 0, _, _, _, _, _ => none
  | n + 1, M, x1, x2, x3, x4 =>
    if x1 ≤ x4 then
      some (.inl (x2, x3, x4))
    else
      if ((ab_ushr x3 x4) &&& 1) = 0 then
        (mi_X3_partAround M x4).bind fun q3 =>
        if ((ab_ushr q3 x1) &&& 1) = 0 then
          mi_X3_partOf_7 n M x1 (x2 + 1) (x3 ||| q3) (x4 + 1)
        else
          some (.inr x2)
      else
        mi_X3_partOf_7 n M x1 x2 x3 (x4 + 1)

set_option maxHeartbeats 4000000 in
set_option maxRecDepth 100000 in
theorem lp_X3_partOf_7 {l : Launch} {D : va_G} {ac : Nat → ClassId} {n0 : Nat} {r : ab_Rs} : ∀ (n : Nat) (M : ab_M) (x1 : Int32) (x2 : Int32) (x3 : Int32) (x4 : Int32) (q : Sum (Int32 × Int32 × Int32) (Int32)) (h : mi_X3_partOf_7 n M x1 x2 x3 x4 = some q) (kk : ∀ y, q = .inl y → ab_Ev l D ac 4 me_X3_partOf n0 0 0 r 0 0 ab_SH 55 [some (.ref 1), some (.int x1), some (.int y.1), some (.int y.2.1), some (.int y.2.2), none] [] M) (kr : ∀ v, q = .inr v → r = (some (.int v), ab_SH, M)), ab_Ev l D ac 4 me_X3_partOf n0 0 0 r 0 0 ab_SH 7 [some (.ref 1), some (.int x1), some (.int x2), some (.int x3), some (.int x4), none] [] M := by
  intro n
  induction n with
  | zero =>
    intro M x1 x2 x3 x4 q h kk kr
    cases h
  | succ n ih =>
    intro M x1 x2 x3 x4 q h kk kr
    unfold mi_X3_partOf_7 at h
    refine ev_iload dX3_partOf_7 rfl ?_
    refine ev_iload_n dX3_partOf_9 rfl ?_
    refine ev_icmp_ge (t := 55) dX3_partOf_10 (by decide) (fun hc1 => ?_) (fun hc1 => ?_)
    · replace h := ab_pos hc1 h
      cases h
      exact kk _ rfl
    · replace h := ab_neg hc1 h
      refine ev_iload_n dX3_partOf_13 rfl ?_
      refine ev_iload dX3_partOf_14 rfl ?_
      refine ev_iushr dX3_partOf_16 ?_
      refine ev_iconst (x := 1) dX3_partOf_17 (by decide) ?_
      refine ev_iand dX3_partOf_18 ?_
      refine ev_if_ne (t := 49) dX3_partOf_19 (by decide) (fun hc2 => ?_) (fun hc2 => ?_)
      · replace h := ab_neg hc2 h
        refine ev_iinc (y := x4 + 1) dX3_partOf_49 rfl (by first | rfl | decide) rfl rfl ?_
        refine ev_goto (t := 7) dX3_partOf_52 (by decide) ?_
        exact ih M x1 x2 x3 (x4 + 1) _ h kk kr
      · replace h := ab_pos hc2 h
        refine ev_aload_n dX3_partOf_22 rfl ?_
        refine ev_iload dX3_partOf_23 rfl ?_
        obtain ⟨q3, hv4, h⟩ := ab_bind h
        refine ev_callV (st := []) (co_X3_partAround M x4 _ hv4) mv_X3_partAround sh_1 ml_RX3_118 dX3_partOf_25 (by decide) rfl (Nat.le_of_ble_eq_true rfl) ⟨Nat.le_refl _, Nat.le_refl _⟩ ?_
        refine ev_istore dX3_partOf_28 (Nat.le_of_ble_eq_true rfl) rfl rfl ?_
        refine ev_iload dX3_partOf_30 rfl ?_
        refine ev_iload_n dX3_partOf_32 rfl ?_
        refine ev_iushr dX3_partOf_33 ?_
        refine ev_iconst (x := 1) dX3_partOf_34 (by decide) ?_
        refine ev_iand dX3_partOf_35 ?_
        refine ev_if_eq (t := 41) dX3_partOf_36 (by decide) (fun hc5 => ?_) (fun hc5 => ?_)
        · replace h := ab_pos hc5 h
          refine ev_iload_n dX3_partOf_41 rfl ?_
          refine ev_iload dX3_partOf_42 rfl ?_
          refine ev_ior dX3_partOf_44 ?_
          refine ev_istore_n dX3_partOf_45 (Nat.le_of_ble_eq_true rfl) rfl rfl ?_
          refine ev_iinc (y := x2 + 1) dX3_partOf_46 rfl (by first | rfl | decide) rfl rfl ?_
          refine ev_iinc (y := x4 + 1) dX3_partOf_49 rfl (by first | rfl | decide) rfl rfl ?_
          refine ev_goto (t := 7) dX3_partOf_52 (by decide) ?_
          refine ev_drop (lv' := [some (.ref 1), some (.int x1), some (.int (x2 + 1)), some (.int (x3 ||| q3)), some (.int (x4 + 1)), none]) (ab_sub_k (ab_sub_k (ab_sub_k (ab_sub_k (ab_sub_k (ab_sub_d ab_sub_nil)))))) ?_
          exact ih M x1 (x2 + 1) (x3 ||| q3) (x4 + 1) _ h kk kr
        · replace h := ab_neg hc5 h
          refine ev_iload_n dX3_partOf_39 rfl ?_
          cases h
          rw [kr _ rfl]
          exact ev_ireturn rfl dX3_partOf_40

noncomputable def mi_X3_partOf (M : ab_M) (x1 : Int32) : Option (Int32) :=
  (mi_X3_partOf_7 ab_F M x1 0 0 0).bind fun q9 => Sum.elim (fun q6 =>
  some q6.1) (fun v8 => some v8) q9

set_option maxHeartbeats 4000000 in
set_option maxRecDepth 100000 in
theorem co_X3_partOf {l : Launch} {D : va_G} {ac : Nat → ClassId} (M : ab_M) (x1 : Int32) (z : Int32) (h : mi_X3_partOf M x1 = some z) : ab_Con l D ac 4 me_X3_partOf 0 0 [.ref 1, .int x1] ab_SH M (some (.int z), ab_SH, M) := by
  refine ab_intro (lv := [some (.ref 1), some (.int x1), none, none, none, none]) (by decide) rfl (Nat.le_of_ble_eq_true rfl) rfl ?_
  unfold mi_X3_partOf at h
  refine ev_iconst (x := 0) dX3_partOf_0 (by decide) ?_
  refine ev_istore_n dX3_partOf_1 (Nat.le_of_ble_eq_true rfl) rfl rfl ?_
  refine ev_iconst (x := 0) dX3_partOf_2 (by decide) ?_
  refine ev_istore_n dX3_partOf_3 (Nat.le_of_ble_eq_true rfl) rfl rfl ?_
  refine ev_iconst (x := 0) dX3_partOf_4 (by decide) ?_
  refine ev_istore dX3_partOf_5 (Nat.le_of_ble_eq_true rfl) rfl rfl ?_
  obtain ⟨q9, hq7, h⟩ := ab_bind h
  rcases ab_elim h with ⟨q6, rfl, h⟩ | ⟨v8, rfl, h⟩
  · refine lp_X3_partOf_7 _ M x1 0 0 0 _ hq7 (fun z e10 => ?_) (fun z e10 => by cases e10)
    cases e10
    refine ev_iload_n dX3_partOf_55 rfl ?_
    cases h
    exact ev_ireturn rfl dX3_partOf_56
  · refine lp_X3_partOf_7 _ M x1 0 0 0 _ hq7 (fun z e10 => by cases e10) (fun z e10 => ?_)
    cases e10
    cases h
    rfl
