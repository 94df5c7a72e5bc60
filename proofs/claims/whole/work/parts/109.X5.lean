noncomputable def mi_X5_canChange (M : ab_M) (t1 : Nat) (x2 : Int32) : Option (Int32) :=
  ab_chk (vp_in x2 16) <|
  if (M.1 t1 (x2).toNatClampNeg) < 0 then
    some 0
  else
    ab_chk (vp_in x2 16) <|
    if (M.1 4 (x2).toNatClampNeg) = (-2) then
      some 1
    else
      some 0

set_option maxHeartbeats 4000000 in
set_option maxRecDepth 100000 in
theorem co_X5_canChange {l : Launch} {D : va_G} {ac : Nat → ClassId} (M : ab_M) (t1 : Nat) (ht1 : ab_isPlan t1) (x2 : Int32) (z : Int32) (h : mi_X5_canChange M t1 x2 = some z) : ab_Con l D ac 1 me_X5_canChange 0 0 [.ref 30, .ref t1, .int x2] ab_SH M (some (.int z), ab_SH, M) := by
  refine ab_intro (lv := [some (.ref 30), some (.ref t1), some (.int x2)]) (by decide) rfl (Nat.le_of_ble_eq_true rfl) rfl ?_
  unfold mi_X5_canChange at h
  refine ev_aload_n dX5_canChange_0 rfl ?_
  refine ev_iload_n dX5_canChange_1 rfl ?_
  obtain ⟨hb1, h⟩ := ab_chk_some h
  refine ev_iaload ht1 hb1 dX5_canChange_2 ?_
  refine ev_if_lt (t := 24) dX5_canChange_3 (by decide) (fun hc2 => ?_) (fun hc2 => ?_)
  · replace h := ab_pos hc2 h
    refine ev_iconst (x := 0) dX5_canChange_24 (by decide) ?_
    cases h
    exact ev_zreturn rfl (Or.inl rfl) dX5_canChange_25
  · replace h := ab_neg hc2 h
    refine ev_aload_n dX5_canChange_6 rfl ?_
    refine ev_getr (o' := 1) fl_RX5_9 sh_30 (by decide) (by decide) rfl rfl dX5_canChange_7 ?_
    refine ev_getr (o' := 4) fl_RX5_19 sh_1 (by decide) (by decide) rfl rfl dX5_canChange_10 ?_
    refine ev_iload_n dX5_canChange_13 rfl ?_
    obtain ⟨hb3, h⟩ := ab_chk_some h
    refine ev_iaload sh_4 hb3 dX5_canChange_14 ?_
    refine ev_bipush (x := (-2)) dX5_canChange_15 (by decide) ?_
    refine ev_icmp_ne (t := 24) dX5_canChange_17 (by decide) (fun hc4 => ?_) (fun hc4 => ?_)
    · replace h := ab_neg hc4 h
      refine ev_iconst (x := 0) dX5_canChange_24 (by decide) ?_
      cases h
      exact ev_zreturn rfl (Or.inl rfl) dX5_canChange_25
    · replace h := ab_pos hc4 h
      refine ev_iconst (x := 1) dX5_canChange_20 (by decide) ?_
      refine ev_goto (t := 25) dX5_canChange_21 (by decide) ?_
      cases h
      exact ev_zreturn rfl (Or.inr rfl) dX5_canChange_25

noncomputable def mi_X5_improve_72 : Nat → ab_M → Nat → Int32 → Int32 → Int32 → Int32 → Int32 → Int32 → Int32 → Option (Int32 × Int32 × Int32 × Int32)
  | 0, _, _, _, _, _, _, _, _, _ => none
  | n + 1, M, t1, x2, x3, x4, x5, x6, x8, x9 =>
    if 30 ≤ x9 then
      some (x2, x3, x4, x9)
    else
      ((if ((ab_ushr x6 x9) &&& 1) = 0 then
        some (x2, x3, x4)
      else
        ab_chk (vp_in x9 30) <|
        if (x8 - (M.1 25 (x9).toNatClampNeg)) ≤ x2 then
          some (x2, x3, x4)
        else
          ab_chk (vp_in x9 30) <|
          some (x8 - (M.1 25 (x9).toNatClampNeg), x5, x9)) : Option (Int32 × Int32 × Int32)).bind fun q18 =>
      mi_X5_improve_72 n M t1 q18.1 q18.2.1 q18.2.2 x5 x6 x8 (x9 + 1)

set_option maxHeartbeats 4000000 in
set_option maxRecDepth 100000 in
theorem lp_X5_improve_72 {l : Launch} {D : va_G} {ac : Nat → ClassId} {n0 : Nat} {r : ab_Rs} : ∀ (n : Nat) (M : ab_M) (t1 : Nat) (ht1 : ab_isPlan t1) (x2 : Int32) (x3 : Int32) (x4 : Int32) (x5 : Int32) (x6 : Int32) (x8 : Int32) (x9 : Int32) (q : Int32 × Int32 × Int32 × Int32) (h : mi_X5_improve_72 n M t1 x2 x3 x4 x5 x6 x8 x9 = some q) (kk : ab_Ev l D ac 6 me_X5_improve n0 0 0 r 0 0 ab_SH 123 [some (.ref 30), some (.ref t1), some (.int q.1), some (.int q.2.1), some (.int q.2.2.1), some (.int x5), some (.int x6), some (.ref 25), some (.int x8), some (.int q.2.2.2)] [] M), ab_Ev l D ac 6 me_X5_improve n0 0 0 r 0 0 ab_SH 72 [some (.ref 30), some (.ref t1), some (.int x2), some (.int x3), some (.int x4), some (.int x5), some (.int x6), some (.ref 25), some (.int x8), some (.int x9)] [] M := by
  intro n
  induction n with
  | zero =>
    intro M t1 ht1 x2 x3 x4 x5 x6 x8 x9 q h kk
    cases h
  | succ n ih =>
    intro M t1 ht1 x2 x3 x4 x5 x6 x8 x9 q h kk
    unfold mi_X5_improve_72 at h
    refine ev_iload dX5_improve_72 rfl ?_
    refine ev_bipush (x := 30) dX5_improve_74 (by decide) ?_
    refine ev_icmp_ge (t := 123) dX5_improve_76 (by decide) (fun hc17 => ?_) (fun hc17 => ?_)
    · replace h := ab_pos hc17 h
      cases h
      exact kk
    · replace h := ab_neg hc17 h
      refine ev_iload dX5_improve_79 rfl ?_
      refine ev_iload dX5_improve_81 rfl ?_
      refine ev_iushr dX5_improve_83 ?_
      refine ev_iconst (x := 1) dX5_improve_84 (by decide) ?_
      refine ev_iand dX5_improve_85 ?_
      obtain ⟨q18, hq19, h⟩ := ab_bind h
      have hJ20 : ab_Ev l D ac 6 me_X5_improve n0 0 0 r 0 0 ab_SH 117 [some (.ref 30), some (.ref t1), some (.int q18.1), some (.int q18.2.1), some (.int q18.2.2), some (.int x5), some (.int x6), some (.ref 25), some (.int x8), some (.int x9)] [] M := by
        refine ev_iinc (y := x9 + 1) dX5_improve_117 rfl (by first | rfl | decide) rfl rfl ?_
        refine ev_goto (t := 72) dX5_improve_120 (by decide) ?_
        exact ih M t1 ht1 q18.1 q18.2.1 q18.2.2 x5 x6 x8 (x9 + 1) _ h kk
      refine ev_if_eq (t := 117) dX5_improve_86 (by decide) (fun hc21 => ?_) (fun hc21 => ?_)
      · replace hq19 := ab_pos hc21 hq19
        cases hq19
        exact hJ20
      · replace hq19 := ab_neg hc21 hq19
        refine ev_iload dX5_improve_89 rfl ?_
        refine ev_aload dX5_improve_91 rfl ?_
        refine ev_iload dX5_improve_93 rfl ?_
        obtain ⟨hb22, hq19⟩ := ab_chk_some hq19
        refine ev_iaload sh_25 hb22 dX5_improve_95 ?_
        refine ev_isub dX5_improve_96 ?_
        refine ev_iload_n dX5_improve_97 rfl ?_
        refine ev_icmp_le (t := 117) dX5_improve_98 (by decide) (fun hc23 => ?_) (fun hc23 => ?_)
        · replace hq19 := ab_pos hc23 hq19
          cases hq19
          exact hJ20
        · replace hq19 := ab_neg hc23 hq19
          refine ev_iload dX5_improve_101 rfl ?_
          refine ev_aload dX5_improve_103 rfl ?_
          refine ev_iload dX5_improve_105 rfl ?_
          obtain ⟨hb24, hq19⟩ := ab_chk_some hq19
          refine ev_iaload sh_25 hb24 dX5_improve_107 ?_
          refine ev_isub dX5_improve_108 ?_
          refine ev_istore_n dX5_improve_109 (Nat.le_of_ble_eq_true rfl) rfl rfl ?_
          refine ev_iload dX5_improve_110 rfl ?_
          refine ev_istore_n dX5_improve_112 (Nat.le_of_ble_eq_true rfl) rfl rfl ?_
          refine ev_iload dX5_improve_113 rfl ?_
          refine ev_istore dX5_improve_115 (Nat.le_of_ble_eq_true rfl) rfl rfl ?_
          cases hq19
          exact hJ20

noncomputable def mi_X5_improve_12 : Nat → ab_M → Nat → Int32 → Int32 → Int32 → Int32 → Option (Int32 × Int32 × Int32 × Int32 × ab_M)
  | 0, _, _, _, _, _, _ => none
  | n + 1, M, t1, x2, x3, x4, x5 =>
    if (M.1 1 8) ≤ x5 then
      some (x2, x3, x4, x5, M)
    else
      (mi_X5_canChange M t1 x5).bind fun q2 =>
      ((if q2 = 0 then
        some (x2, x3, x4, M)
      else
        (mi_X3_allowed M x5).bind fun q8 =>
        (mi_X2_weigh M t1 x5).bind fun q10 =>
        ab_chk (q10.1 = 25) <|
        ab_chk (vp_in x5 16) <|
        ab_chk (vp_in (q10.2.1 t1 (x5).toNatClampNeg) 30) <|
        (some (q10.2.1 25 (q10.2.1 t1 (x5).toNatClampNeg).toNatClampNeg) : Option Int32).bind fun v15 =>
        (mi_X5_improve_72 ab_F q10.2 t1 x2 x3 x4 x5 q8 v15 0).bind fun q25 =>
        some (q25.1, q25.2.1, q25.2.2.1, q10.2)) : Option (Int32 × Int32 × Int32 × ab_M)).bind fun q4 =>
      mi_X5_improve_12 n q4.2.2.2 t1 q4.1 q4.2.1 q4.2.2.1 (x5 + 1)

set_option maxHeartbeats 4000000 in
set_option maxRecDepth 100000 in
theorem lp_X5_improve_12 {l : Launch} {D : va_G} {ac : Nat → ClassId} {n0 : Nat} {r : ab_Rs} : ∀ (n : Nat) (M : ab_M) (t1 : Nat) (ht1 : ab_isPlan t1) (x2 : Int32) (x3 : Int32) (x4 : Int32) (x5 : Int32) (q : Int32 × Int32 × Int32 × Int32 × ab_M) (h : mi_X5_improve_12 n M t1 x2 x3 x4 x5 = some q) (kk : ab_Ev l D ac 6 me_X5_improve n0 0 0 r 0 0 ab_SH 129 [some (.ref 30), some (.ref t1), some (.int q.1), some (.int q.2.1), some (.int q.2.2.1), some (.int q.2.2.2.1), none, none, none, none] [] q.2.2.2.2), ab_Ev l D ac 6 me_X5_improve n0 0 0 r 0 0 ab_SH 12 [some (.ref 30), some (.ref t1), some (.int x2), some (.int x3), some (.int x4), some (.int x5), none, none, none, none] [] M := by
  intro n
  induction n with
  | zero =>
    intro M t1 ht1 x2 x3 x4 x5 q h kk
    cases h
  | succ n ih =>
    intro M t1 ht1 x2 x3 x4 x5 q h kk
    unfold mi_X5_improve_12 at h
    refine ev_iload dX5_improve_12 rfl ?_
    refine ev_aload_n dX5_improve_14 rfl ?_
    refine ev_getr (o' := 1) fl_RX5_9 sh_30 (by decide) (by decide) rfl rfl dX5_improve_15 ?_
    refine ev_geti fl_RX5_25 sh_1 (by decide) (by decide) rfl dX5_improve_18 ?_
    refine ev_icmp_ge (t := 129) dX5_improve_21 (by decide) (fun hc1 => ?_) (fun hc1 => ?_)
    · replace h := ab_pos hc1 h
      cases h
      exact kk
    · replace h := ab_neg hc1 h
      refine ev_aload_n dX5_improve_24 rfl ?_
      refine ev_aload_n dX5_improve_25 rfl ?_
      refine ev_iload dX5_improve_26 rfl ?_
      obtain ⟨q2, hv3, h⟩ := ab_bind h
      refine ev_callV (st := []) (co_X5_canChange M t1 ht1 x5 _ hv3) mv_X5_canChange sh_30 ml_RX5_29 dX5_improve_28 (by decide) rfl (Nat.le_of_ble_eq_true rfl) ⟨Nat.le_refl _, Nat.le_refl _⟩ ?_
      obtain ⟨q4, hq5, h⟩ := ab_bind h
      have hJ6 : ab_Ev l D ac 6 me_X5_improve n0 0 0 r 0 0 ab_SH 123 [some (.ref 30), some (.ref t1), some (.int q4.1), some (.int q4.2.1), some (.int q4.2.2.1), some (.int x5), none, none, none, none] [] q4.2.2.2 := by
        refine ev_iinc (y := x5 + 1) dX5_improve_123 rfl (by first | rfl | decide) rfl rfl ?_
        refine ev_goto (t := 12) dX5_improve_126 (by decide) ?_
        exact ih q4.2.2.2 t1 ht1 q4.1 q4.2.1 q4.2.2.1 (x5 + 1) _ h kk
      refine ev_if_ne (t := 37) dX5_improve_31 (by decide) (fun hc7 => ?_) (fun hc7 => ?_)
      · replace hq5 := ab_neg hc7 hq5
        refine ev_aload_n dX5_improve_37 rfl ?_
        refine ev_getr (o' := 1) fl_RX5_9 sh_30 (by decide) (by decide) rfl rfl dX5_improve_38 ?_
        refine ev_iload dX5_improve_41 rfl ?_
        obtain ⟨q8, hv9, hq5⟩ := ab_bind hq5
        refine ev_callV (st := []) (co_X3_allowed M x5 _ hv9) mv_X3_allowed sh_1 ml_RX5_33 dX5_improve_43 (by decide) rfl (Nat.le_of_ble_eq_true rfl) ⟨Nat.le_refl _, Nat.le_refl _⟩ ?_
        refine ev_istore dX5_improve_46 (Nat.le_of_ble_eq_true rfl) rfl rfl ?_
        refine ev_aload_n dX5_improve_48 rfl ?_
        refine ev_getr (o' := 24) fl_RX5_15 sh_30 (by decide) (by decide) rfl rfl dX5_improve_49 ?_
        refine ev_aload_n dX5_improve_52 rfl ?_
        refine ev_iload dX5_improve_53 rfl ?_
        obtain ⟨q10, hv11, hq5⟩ := ab_bind hq5
        obtain ⟨hb12, hq5⟩ := ab_chk_some hq5
        refine ev_callV (st := []) (co_X2_weigh M t1 ht1 x5 _ hv11) mv_X2_weigh sh_24 ml_RX5_37 dX5_improve_55 (by decide) rfl (Nat.le_of_ble_eq_true rfl) ⟨Nat.le_refl _, Nat.le_refl _⟩ ?_
        refine ev_nmr hb12 ?_
        refine ev_astore dX5_improve_58 (Nat.le_of_ble_eq_true rfl) rfl rfl ?_
        refine ev_aload dX5_improve_60 rfl ?_
        refine ev_aload_n dX5_improve_62 rfl ?_
        refine ev_iload dX5_improve_63 rfl ?_
        obtain ⟨hb13, hq5⟩ := ab_chk_some hq5
        refine ev_iaload ht1 hb13 dX5_improve_65 ?_
        obtain ⟨hb14, hq5⟩ := ab_chk_some hq5
        refine ev_iaload sh_25 hb14 dX5_improve_66 ?_
        obtain ⟨v15, hq16, hq5⟩ := ab_bind hq5
        refine ev_nmi (Option.some.inj hq16) ?_
        refine ev_istore (x := v15) dX5_improve_67 (Nat.le_of_ble_eq_true rfl) rfl rfl ?_
        refine ev_iconst (x := 0) dX5_improve_69 (by decide) ?_
        refine ev_istore dX5_improve_70 (Nat.le_of_ble_eq_true rfl) rfl rfl ?_
        obtain ⟨q25, hq26, hq5⟩ := ab_bind hq5
        refine lp_X5_improve_72 _ q10.2 t1 ht1 x2 x3 x4 x5 q8 v15 0 _ hq26 ?_
        cases hq5
        refine ev_drop (lv' := [some (.ref 30), some (.ref t1), some (.int q25.1), some (.int q25.2.1), some (.int q25.2.2.1), some (.int x5), none, none, none, none]) (ab_sub_k (ab_sub_k (ab_sub_k (ab_sub_k (ab_sub_k (ab_sub_k (ab_sub_d (ab_sub_d (ab_sub_d (ab_sub_d ab_sub_nil)))))))))) ?_
        exact hJ6
      · replace hq5 := ab_pos hc7 hq5
        refine ev_goto (t := 123) dX5_improve_34 (by decide) ?_
        cases hq5
        exact hJ6

noncomputable def mi_X5_improve (M : ab_M) (t1 : Nat) : Option (Int32 × ab_M) :=
  (mi_X5_improve_12 ab_F M t1 0 (-2) (-2) 0).bind fun q27 =>
  if 0 ≤ q27.2.1 then
    ab_chk (vp_in q27.2.1 16) <|
    some (1, (ab_pi q27.2.2.2.2 t1 (q27.2.1).toNatClampNeg q27.2.2.1))
  else
    some (0, q27.2.2.2.2)

set_option maxHeartbeats 4000000 in
set_option maxRecDepth 100000 in
theorem co_X5_improve {l : Launch} {D : va_G} {ac : Nat → ClassId} (M : ab_M) (t1 : Nat) (ht1 : ab_isPlan t1) (z : Int32 × ab_M) (h : mi_X5_improve M t1 = some z) : ab_Con l D ac 6 me_X5_improve 0 0 [.ref 30, .ref t1] ab_SH M (some (.int z.1), ab_SH, z.2) := by
  refine ab_intro (lv := [some (.ref 30), some (.ref t1), none, none, none, none, none, none, none, none]) (by decide) rfl (Nat.le_of_ble_eq_true rfl) rfl ?_
  unfold mi_X5_improve at h
  refine ev_iconst (x := 0) dX5_improve_0 (by decide) ?_
  refine ev_istore_n dX5_improve_1 (Nat.le_of_ble_eq_true rfl) rfl rfl ?_
  refine ev_bipush (x := (-2)) dX5_improve_2 (by decide) ?_
  refine ev_istore_n dX5_improve_4 (Nat.le_of_ble_eq_true rfl) rfl rfl ?_
  refine ev_bipush (x := (-2)) dX5_improve_5 (by decide) ?_
  refine ev_istore dX5_improve_7 (Nat.le_of_ble_eq_true rfl) rfl rfl ?_
  refine ev_iconst (x := 0) dX5_improve_9 (by decide) ?_
  refine ev_istore dX5_improve_10 (Nat.le_of_ble_eq_true rfl) rfl rfl ?_
  obtain ⟨q27, hq28, h⟩ := ab_bind h
  refine lp_X5_improve_12 _ M t1 ht1 0 (-2) (-2) 0 _ hq28 ?_
  refine ev_iload_n dX5_improve_129 rfl ?_
  refine ev_if_ge (t := 135) dX5_improve_130 (by decide) (fun hc29 => ?_) (fun hc29 => ?_)
  · replace h := ab_pos hc29 h
    refine ev_aload_n dX5_improve_135 rfl ?_
    refine ev_iload_n dX5_improve_136 rfl ?_
    refine ev_iload dX5_improve_137 rfl ?_
    obtain ⟨hb30, h⟩ := ab_chk_some h
    refine ev_iastore ht1 hb30 dX5_improve_139 ?_
    refine ev_iconst (x := 1) dX5_improve_140 (by decide) ?_
    cases h
    exact ev_zreturn rfl (Or.inr rfl) dX5_improve_141
  · replace h := ab_neg hc29 h
    refine ev_iconst (x := 0) dX5_improve_133 (by decide) ?_
    cases h
    exact ev_zreturn rfl (Or.inl rfl) dX5_improve_134

noncomputable def mi_X5_leastFree_27 : Nat → ab_M → Nat → Int32 → Int32 → Option (Sum (Int32) (Int32))
  | 0, _, _, _, _ => none
  | n + 1, M, t1, x4, x5 =>
    if 30 ≤ x5 then
      some (.inl x5)
    else
      if ((ab_ushr x4 x5) &&& 1) = 0 then
        mi_X5_leastFree_27 n M t1 x4 (x5 + 1)
      else
        some (.inr x5)

set_option maxHeartbeats 4000000 in
set_option maxRecDepth 100000 in
theorem lp_X5_leastFree_27 {l : Launch} {D : va_G} {ac : Nat → ClassId} {n0 : Nat} {r : ab_Rs} : ∀ (n : Nat) (M : ab_M) (t1 : Nat) (ht1 : ab_isPlan t1) (x4 : Int32) (x5 : Int32) (q : Sum (Int32) (Int32)) (h : mi_X5_leastFree_27 n M t1 x4 x5 = some q) (kk : ∀ y, q = .inl y → ab_Ev l D ac 5 me_X5_leastFree n0 0 0 r 0 0 ab_SH 53 [some (.ref 30), some (.ref t1), none, none, some (.int x4), some (.int y)] [] M) (kr : ∀ v, q = .inr v → r = (some (.int v), ab_SH, M)), ab_Ev l D ac 5 me_X5_leastFree n0 0 0 r 0 0 ab_SH 27 [some (.ref 30), some (.ref t1), none, none, some (.int x4), some (.int x5)] [] M := by
  intro n
  induction n with
  | zero =>
    intro M t1 ht1 x4 x5 q h kk kr
    cases h
  | succ n ih =>
    intro M t1 ht1 x4 x5 q h kk kr
    unfold mi_X5_leastFree_27 at h
    refine ev_iload dX5_leastFree_27 rfl ?_
    refine ev_bipush (x := 30) dX5_leastFree_29 (by decide) ?_
    refine ev_icmp_ge (t := 53) dX5_leastFree_31 (by decide) (fun hc3 => ?_) (fun hc3 => ?_)
    · replace h := ab_pos hc3 h
      cases h
      exact kk _ rfl
    · replace h := ab_neg hc3 h
      refine ev_iload dX5_leastFree_34 rfl ?_
      refine ev_iload dX5_leastFree_36 rfl ?_
      refine ev_iushr dX5_leastFree_38 ?_
      refine ev_iconst (x := 1) dX5_leastFree_39 (by decide) ?_
      refine ev_iand dX5_leastFree_40 ?_
      refine ev_if_eq (t := 47) dX5_leastFree_41 (by decide) (fun hc4 => ?_) (fun hc4 => ?_)
      · replace h := ab_pos hc4 h
        refine ev_iinc (y := x5 + 1) dX5_leastFree_47 rfl (by first | rfl | decide) rfl rfl ?_
        refine ev_goto (t := 27) dX5_leastFree_50 (by decide) ?_
        exact ih M t1 ht1 x4 (x5 + 1) _ h kk kr
      · replace h := ab_neg hc4 h
        refine ev_iload dX5_leastFree_44 rfl ?_
        cases h
        rw [kr _ rfl]
        exact ev_ireturn rfl dX5_leastFree_46

noncomputable def mi_X5_leastFree (M : ab_M) (t1 : Nat) (x2 : Int32) (x3 : Int32) : Option (Int32) :=
  (mi_X2_freeChannels M t1 x2 (M.1 1 8)).bind fun q1 =>
  (mi_X5_leastFree_27 ab_F M t1 (q1 &&& (((1 : Int32) <<< (x3 &&& 31)) ^^^ (-1))) 0).bind fun q8 => Sum.elim (fun q5 =>
  some (-2)) (fun v7 => some v7) q8

set_option maxHeartbeats 4000000 in
set_option maxRecDepth 100000 in
theorem co_X5_leastFree {l : Launch} {D : va_G} {ac : Nat → ClassId} (M : ab_M) (t1 : Nat) (ht1 : ab_isPlan t1) (x2 : Int32) (x3 : Int32) (z : Int32) (h : mi_X5_leastFree M t1 x2 x3 = some z) : ab_Con l D ac 5 me_X5_leastFree 0 0 [.ref 30, .ref t1, .int x2, .int x3] ab_SH M (some (.int z), ab_SH, M) := by
  refine ab_intro (lv := [some (.ref 30), some (.ref t1), some (.int x2), some (.int x3), none, none]) (by decide) rfl (Nat.le_of_ble_eq_true rfl) rfl ?_
  unfold mi_X5_leastFree at h
  refine ev_aload_n dX5_leastFree_0 rfl ?_
  refine ev_getr (o' := 24) fl_RX5_15 sh_30 (by decide) (by decide) rfl rfl dX5_leastFree_1 ?_
  refine ev_aload_n dX5_leastFree_4 rfl ?_
  refine ev_iload_n dX5_leastFree_5 rfl ?_
  refine ev_aload_n dX5_leastFree_6 rfl ?_
  refine ev_getr (o' := 1) fl_RX5_9 sh_30 (by decide) (by decide) rfl rfl dX5_leastFree_7 ?_
  refine ev_geti fl_RX5_25 sh_1 (by decide) (by decide) rfl dX5_leastFree_10 ?_
  obtain ⟨q1, hv2, h⟩ := ab_bind h
  refine ev_callV (st := []) (co_X2_freeChannels M t1 ht1 x2 (M.1 1 8) _ hv2) mv_X2_freeChannels sh_24 ml_RX5_55 dX5_leastFree_13 (by decide) rfl (Nat.le_of_ble_eq_true rfl) ⟨Nat.le_refl _, Nat.le_refl _⟩ ?_
  refine ev_iconst (x := 1) dX5_leastFree_16 (by decide) ?_
  refine ev_iload_n dX5_leastFree_17 rfl ?_
  refine ev_ishl dX5_leastFree_18 ?_
  refine ev_iconst (x := (-1)) dX5_leastFree_19 (by decide) ?_
  refine ev_ixor dX5_leastFree_20 ?_
  refine ev_iand dX5_leastFree_21 ?_
  refine ev_istore dX5_leastFree_22 (Nat.le_of_ble_eq_true rfl) rfl rfl ?_
  refine ev_iconst (x := 0) dX5_leastFree_24 (by decide) ?_
  refine ev_istore dX5_leastFree_25 (Nat.le_of_ble_eq_true rfl) rfl rfl ?_
  obtain ⟨q8, hq6, h⟩ := ab_bind h
  refine ev_drop (lv' := [some (.ref 30), some (.ref t1), none, none, some (.int (q1 &&& (((1 : Int32) <<< (x3 &&& 31)) ^^^ (-1)))), some (.int 0)]) (ab_sub_k (ab_sub_k (ab_sub_d (ab_sub_d (ab_sub_k (ab_sub_k ab_sub_nil)))))) ?_
  rcases ab_elim h with ⟨q5, rfl, h⟩ | ⟨v7, rfl, h⟩
  · refine lp_X5_leastFree_27 _ M t1 ht1 (q1 &&& (((1 : Int32) <<< (x3 &&& 31)) ^^^ (-1))) 0 _ hq6 (fun z e9 => ?_) (fun z e9 => by cases e9)
    cases e9
    refine ev_bipush (x := (-2)) dX5_leastFree_53 (by decide) ?_
    cases h
    exact ev_ireturn rfl dX5_leastFree_55
  · refine lp_X5_leastFree_27 _ M t1 ht1 (q1 &&& (((1 : Int32) <<< (x3 &&& 31)) ^^^ (-1))) 0 _ hq6 (fun z e9 => by cases e9) (fun z e9 => ?_)
    cases e9
    cases h
    rfl

noncomputable def mi_X5_changeOne_2 : Nat → ab_M → Nat → Int32 → Option (Sum (Int32 × ab_M) (Int32 × ab_M))
  | 0, _, _, _ => none
  | n + 1, M, t1, x2 =>
    if (M.1 1 8) ≤ x2 then
      some (.inl (x2, M))
    else
      (mi_X5_canChange M t1 x2).bind fun q2 =>
      if q2 = 0 then
        mi_X5_changeOne_2 n M t1 (x2 + 1)
      else
        ab_chk (vp_in x2 16) <|
        ab_chk (vp_in x2 16) <|
        (mi_X2_isClean (ab_pi M t1 (x2).toNatClampNeg (-2)) t1).bind fun q7 =>
        ((if q7 = 0 then
          some (-2)
        else
          (mi_X5_leastFree (ab_pi M t1 (x2).toNatClampNeg (-2)) t1 x2 (M.1 t1 (x2).toNatClampNeg)).bind fun q13 =>
          some q13) : Option (Int32)).bind fun q9 =>
        ab_chk (vp_in x2 16) <|
        ab_chk (vp_in x2 16) <|
        if ((ab_pi (ab_pi M t1 (x2).toNatClampNeg (-2)) t1 (x2).toNatClampNeg q9).1 t1 (x2).toNatClampNeg) < 0 then
          ab_chk (vp_in x2 16) <|
          mi_X5_changeOne_2 n (ab_pi (ab_pi (ab_pi M t1 (x2).toNatClampNeg (-2)) t1 (x2).toNatClampNeg q9) t1 (x2).toNatClampNeg (M.1 t1 (x2).toNatClampNeg)) t1 (x2 + 1)
        else
          some (.inr (1, (ab_pi (ab_pi M t1 (x2).toNatClampNeg (-2)) t1 (x2).toNatClampNeg q9)))

set_option maxHeartbeats 4000000 in
set_option maxRecDepth 100000 in
theorem lp_X5_changeOne_2 {l : Launch} {D : va_G} {ac : Nat → ClassId} {n0 : Nat} {r : ab_Rs} : ∀ (n : Nat) (M : ab_M) (t1 : Nat) (ht1 : ab_isPlan t1) (x2 : Int32) (q : Sum (Int32 × ab_M) (Int32 × ab_M)) (h : mi_X5_changeOne_2 n M t1 x2 = some q) (kk : ∀ y, q = .inl y → ab_Ev l D ac 6 me_X5_changeOne n0 0 0 r 0 0 ab_SH 78 [some (.ref 30), some (.ref t1), some (.int y.1), none] [] y.2) (kr : ∀ v, q = .inr v → r = (some (.int v.1), ab_SH, v.2)), ab_Ev l D ac 6 me_X5_changeOne n0 0 0 r 0 0 ab_SH 2 [some (.ref 30), some (.ref t1), some (.int x2), none] [] M := by
  intro n
  induction n with
  | zero =>
    intro M t1 ht1 x2 q h kk kr
    cases h
  | succ n ih =>
    intro M t1 ht1 x2 q h kk kr
    unfold mi_X5_changeOne_2 at h
    refine ev_iload_n dX5_changeOne_2 rfl ?_
    refine ev_aload_n dX5_changeOne_3 rfl ?_
    refine ev_getr (o' := 1) fl_RX5_9 sh_30 (by decide) (by decide) rfl rfl dX5_changeOne_4 ?_
    refine ev_geti fl_RX5_25 sh_1 (by decide) (by decide) rfl dX5_changeOne_7 ?_
    refine ev_icmp_ge (t := 78) dX5_changeOne_10 (by decide) (fun hc1 => ?_) (fun hc1 => ?_)
    · replace h := ab_pos hc1 h
      cases h
      exact kk _ rfl
    · replace h := ab_neg hc1 h
      refine ev_aload_n dX5_changeOne_13 rfl ?_
      refine ev_aload_n dX5_changeOne_14 rfl ?_
      refine ev_iload_n dX5_changeOne_15 rfl ?_
      obtain ⟨q2, hv3, h⟩ := ab_bind h
      refine ev_callV (st := []) (co_X5_canChange M t1 ht1 x2 _ hv3) mv_X5_canChange sh_30 ml_RX5_29 dX5_changeOne_16 (by decide) rfl (Nat.le_of_ble_eq_true rfl) ⟨Nat.le_refl _, Nat.le_refl _⟩ ?_
      refine ev_if_ne (t := 25) dX5_changeOne_19 (by decide) (fun hc4 => ?_) (fun hc4 => ?_)
      · replace h := ab_neg hc4 h
        refine ev_aload_n dX5_changeOne_25 rfl ?_
        refine ev_iload_n dX5_changeOne_26 rfl ?_
        obtain ⟨hb5, h⟩ := ab_chk_some h
        refine ev_iaload ht1 hb5 dX5_changeOne_27 ?_
        refine ev_istore_n dX5_changeOne_28 (Nat.le_of_ble_eq_true rfl) rfl rfl ?_
        refine ev_aload_n dX5_changeOne_29 rfl ?_
        refine ev_iload_n dX5_changeOne_30 rfl ?_
        refine ev_bipush (x := (-2)) dX5_changeOne_31 (by decide) ?_
        obtain ⟨hb6, h⟩ := ab_chk_some h
        refine ev_iastore ht1 hb6 dX5_changeOne_33 ?_
        refine ev_aload_n dX5_changeOne_34 rfl ?_
        refine ev_iload_n dX5_changeOne_35 rfl ?_
        refine ev_aload_n dX5_changeOne_36 rfl ?_
        refine ev_getr (o' := 24) fl_RX5_15 sh_30 (by decide) (by decide) rfl rfl dX5_changeOne_37 ?_
        refine ev_aload_n dX5_changeOne_40 rfl ?_
        obtain ⟨q7, hv8, h⟩ := ab_bind h
        refine ev_callV (st := [.int x2, .ref t1]) (co_X2_isClean (ab_pi M t1 (x2).toNatClampNeg (-2)) t1 ht1 _ hv8) mv_X2_isClean sh_24 ml_RX5_43 dX5_changeOne_41 (by decide) rfl (Nat.le_of_ble_eq_true rfl) ⟨Nat.le_refl _, Nat.le_refl _⟩ ?_
        obtain ⟨q9, hq10, h⟩ := ab_bind h
        have hJ11 : ab_Ev l D ac 6 me_X5_changeOne n0 0 0 r 0 0 ab_SH 59 [some (.ref 30), some (.ref t1), some (.int x2), some (.int (M.1 t1 (x2).toNatClampNeg))] [.int q9, .int x2, .ref t1] (ab_pi M t1 (x2).toNatClampNeg (-2)) := by
          obtain ⟨hb15, h⟩ := ab_chk_some h
          refine ev_iastore ht1 hb15 dX5_changeOne_59 ?_
          refine ev_aload_n dX5_changeOne_60 rfl ?_
          refine ev_iload_n dX5_changeOne_61 rfl ?_
          obtain ⟨hb16, h⟩ := ab_chk_some h
          refine ev_iaload ht1 hb16 dX5_changeOne_62 ?_
          refine ev_if_lt (t := 68) dX5_changeOne_63 (by decide) (fun hc17 => ?_) (fun hc17 => ?_)
          · replace h := ab_pos hc17 h
            refine ev_aload_n dX5_changeOne_68 rfl ?_
            refine ev_iload_n dX5_changeOne_69 rfl ?_
            refine ev_iload_n dX5_changeOne_70 rfl ?_
            obtain ⟨hb18, h⟩ := ab_chk_some h
            refine ev_iastore ht1 hb18 dX5_changeOne_71 ?_
            refine ev_iinc (y := x2 + 1) dX5_changeOne_72 rfl (by first | rfl | decide) rfl rfl ?_
            refine ev_goto (t := 2) dX5_changeOne_75 (by decide) ?_
            refine ev_drop (lv' := [some (.ref 30), some (.ref t1), some (.int (x2 + 1)), none]) (ab_sub_k (ab_sub_k (ab_sub_k (ab_sub_d ab_sub_nil)))) ?_
            exact ih (ab_pi (ab_pi (ab_pi M t1 (x2).toNatClampNeg (-2)) t1 (x2).toNatClampNeg q9) t1 (x2).toNatClampNeg (M.1 t1 (x2).toNatClampNeg)) t1 ht1 (x2 + 1) _ h kk kr
          · replace h := ab_neg hc17 h
            refine ev_iconst (x := 1) dX5_changeOne_66 (by decide) ?_
            cases h
            rw [kr _ rfl]
            exact ev_zreturn rfl (Or.inr rfl) dX5_changeOne_67
        refine ev_if_eq (t := 57) dX5_changeOne_44 (by decide) (fun hc12 => ?_) (fun hc12 => ?_)
        · replace hq10 := ab_pos hc12 hq10
          refine ev_bipush (x := (-2)) dX5_changeOne_57 (by decide) ?_
          cases hq10
          exact hJ11
        · replace hq10 := ab_neg hc12 hq10
          refine ev_aload_n dX5_changeOne_47 rfl ?_
          refine ev_aload_n dX5_changeOne_48 rfl ?_
          refine ev_iload_n dX5_changeOne_49 rfl ?_
          refine ev_iload_n dX5_changeOne_50 rfl ?_
          obtain ⟨q13, hv14, hq10⟩ := ab_bind hq10
          refine ev_callV (st := [.int x2, .ref t1]) (co_X5_leastFree (ab_pi M t1 (x2).toNatClampNeg (-2)) t1 ht1 x2 (M.1 t1 (x2).toNatClampNeg) _ hv14) mv_X5_leastFree sh_30 ml_RX5_47 dX5_changeOne_51 (by decide) rfl (Nat.le_of_ble_eq_true rfl) ⟨Nat.le_refl _, Nat.le_refl _⟩ ?_
          refine ev_goto (t := 59) dX5_changeOne_54 (by decide) ?_
          cases hq10
          exact hJ11
      · replace h := ab_pos hc4 h
        refine ev_goto (t := 72) dX5_changeOne_22 (by decide) ?_
        refine ev_iinc (y := x2 + 1) dX5_changeOne_72 rfl (by first | rfl | decide) rfl rfl ?_
        refine ev_goto (t := 2) dX5_changeOne_75 (by decide) ?_
        exact ih M t1 ht1 (x2 + 1) _ h kk kr

noncomputable def mi_X5_changeOne (M : ab_M) (t1 : Nat) : Option (Int32 × ab_M) :=
  (mi_X5_changeOne_2 ab_F M t1 0).bind fun q22 => Sum.elim (fun q19 =>
  some (0, q19.2)) (fun v21 => some v21) q22

set_option maxHeartbeats 4000000 in
set_option maxRecDepth 100000 in
theorem co_X5_changeOne {l : Launch} {D : va_G} {ac : Nat → ClassId} (M : ab_M) (t1 : Nat) (ht1 : ab_isPlan t1) (z : Int32 × ab_M) (h : mi_X5_changeOne M t1 = some z) : ab_Con l D ac 6 me_X5_changeOne 0 0 [.ref 30, .ref t1] ab_SH M (some (.int z.1), ab_SH, z.2) := by
  refine ab_intro (lv := [some (.ref 30), some (.ref t1), none, none]) (by decide) rfl (Nat.le_of_ble_eq_true rfl) rfl ?_
  unfold mi_X5_changeOne at h
  refine ev_iconst (x := 0) dX5_changeOne_0 (by decide) ?_
  refine ev_istore_n dX5_changeOne_1 (Nat.le_of_ble_eq_true rfl) rfl rfl ?_
  obtain ⟨q22, hq20, h⟩ := ab_bind h
  rcases ab_elim h with ⟨q19, rfl, h⟩ | ⟨v21, rfl, h⟩
  · refine lp_X5_changeOne_2 _ M t1 ht1 0 _ hq20 (fun z e23 => ?_) (fun z e23 => by cases e23)
    cases e23
    refine ev_iconst (x := 0) dX5_changeOne_78 (by decide) ?_
    cases h
    exact ev_zreturn rfl (Or.inl rfl) dX5_changeOne_79
  · refine lp_X5_changeOne_2 _ M t1 ht1 0 _ hq20 (fun z e23 => by cases e23) (fun z e23 => ?_)
    cases e23
    cases h
    rfl

noncomputable def mi_X5_changeBoth_63 : Nat → ab_M → Nat → Int32 → Int32 → Int32 → Int32 → Int32 → Int32 → Option (Sum (Int32 × ab_M) (Int32 × ab_M))
  | 0, _, _, _, _, _, _, _, _ => none
  | n + 1, M, t1, x2, x3, x4, x5, x6, x7 =>
    if 30 ≤ x7 then
      some (.inl (x7, M))
    else
      if ((ab_ushr x6 x7) &&& 1) = 0 then
        mi_X5_changeBoth_63 n M t1 x2 x3 x4 x5 x6 (x7 + 1)
      else
        ab_chk (vp_in x2 16) <|
        (mi_X5_leastFree (ab_pi M t1 (x2).toNatClampNeg x7) t1 x3 x5).bind fun q16 =>
        ab_chk (vp_in x3 16) <|
        ab_chk (vp_in x3 16) <|
        if ((ab_pi (ab_pi M t1 (x2).toNatClampNeg x7) t1 (x3).toNatClampNeg q16).1 t1 (x3).toNatClampNeg) < 0 then
          mi_X5_changeBoth_63 n (ab_pi (ab_pi M t1 (x2).toNatClampNeg x7) t1 (x3).toNatClampNeg q16) t1 x2 x3 x4 x5 x6 (x7 + 1)
        else
          some (.inr (1, (ab_pi (ab_pi M t1 (x2).toNatClampNeg x7) t1 (x3).toNatClampNeg q16)))

set_option maxHeartbeats 4000000 in
set_option maxRecDepth 100000 in
theorem lp_X5_changeBoth_63 {l : Launch} {D : va_G} {ac : Nat → ClassId} {n0 : Nat} {r : ab_Rs} : ∀ (n : Nat) (M : ab_M) (t1 : Nat) (ht1 : ab_isPlan t1) (x2 : Int32) (x3 : Int32) (x4 : Int32) (x5 : Int32) (x6 : Int32) (x7 : Int32) (q : Sum (Int32 × ab_M) (Int32 × ab_M)) (h : mi_X5_changeBoth_63 n M t1 x2 x3 x4 x5 x6 x7 = some q) (kk : ∀ y, q = .inl y → ab_Ev l D ac 6 me_X5_changeBoth n0 0 0 r 0 0 ab_SH 113 [some (.ref 30), some (.ref t1), some (.int x2), some (.int x3), some (.int x4), some (.int x5), some (.int x6), some (.int y.1)] [] y.2) (kr : ∀ v, q = .inr v → r = (some (.int v.1), ab_SH, v.2)), ab_Ev l D ac 6 me_X5_changeBoth n0 0 0 r 0 0 ab_SH 63 [some (.ref 30), some (.ref t1), some (.int x2), some (.int x3), some (.int x4), some (.int x5), some (.int x6), some (.int x7)] [] M := by
  intro n
  induction n with
  | zero =>
    intro M t1 ht1 x2 x3 x4 x5 x6 x7 q h kk kr
    cases h
  | succ n ih =>
    intro M t1 ht1 x2 x3 x4 x5 x6 x7 q h kk kr
    unfold mi_X5_changeBoth_63 at h
    refine ev_iload dX5_changeBoth_63 rfl ?_
    refine ev_bipush (x := 30) dX5_changeBoth_65 (by decide) ?_
    refine ev_icmp_ge (t := 113) dX5_changeBoth_67 (by decide) (fun hc13 => ?_) (fun hc13 => ?_)
    · replace h := ab_pos hc13 h
      cases h
      exact kk _ rfl
    · replace h := ab_neg hc13 h
      refine ev_iload dX5_changeBoth_70 rfl ?_
      refine ev_iload dX5_changeBoth_72 rfl ?_
      refine ev_iushr dX5_changeBoth_74 ?_
      refine ev_iconst (x := 1) dX5_changeBoth_75 (by decide) ?_
      refine ev_iand dX5_changeBoth_76 ?_
      refine ev_if_ne (t := 83) dX5_changeBoth_77 (by decide) (fun hc14 => ?_) (fun hc14 => ?_)
      · replace h := ab_neg hc14 h
        refine ev_aload_n dX5_changeBoth_83 rfl ?_
        refine ev_iload_n dX5_changeBoth_84 rfl ?_
        refine ev_iload dX5_changeBoth_85 rfl ?_
        obtain ⟨hb15, h⟩ := ab_chk_some h
        refine ev_iastore ht1 hb15 dX5_changeBoth_87 ?_
        refine ev_aload_n dX5_changeBoth_88 rfl ?_
        refine ev_iload_n dX5_changeBoth_89 rfl ?_
        refine ev_aload_n dX5_changeBoth_90 rfl ?_
        refine ev_aload_n dX5_changeBoth_91 rfl ?_
        refine ev_iload_n dX5_changeBoth_92 rfl ?_
        refine ev_iload dX5_changeBoth_93 rfl ?_
        obtain ⟨q16, hv17, h⟩ := ab_bind h
        refine ev_callV (st := [.int x3, .ref t1]) (co_X5_leastFree (ab_pi M t1 (x2).toNatClampNeg x7) t1 ht1 x3 x5 _ hv17) mv_X5_leastFree sh_30 ml_RX5_47 dX5_changeBoth_95 (by decide) rfl (Nat.le_of_ble_eq_true rfl) ⟨Nat.le_refl _, Nat.le_refl _⟩ ?_
        obtain ⟨hb18, h⟩ := ab_chk_some h
        refine ev_iastore ht1 hb18 dX5_changeBoth_98 ?_
        refine ev_aload_n dX5_changeBoth_99 rfl ?_
        refine ev_iload_n dX5_changeBoth_100 rfl ?_
        obtain ⟨hb19, h⟩ := ab_chk_some h
        refine ev_iaload ht1 hb19 dX5_changeBoth_101 ?_
        refine ev_if_lt (t := 107) dX5_changeBoth_102 (by decide) (fun hc20 => ?_) (fun hc20 => ?_)
        · replace h := ab_pos hc20 h
          refine ev_iinc (y := x7 + 1) dX5_changeBoth_107 rfl (by first | rfl | decide) rfl rfl ?_
          refine ev_goto (t := 63) dX5_changeBoth_110 (by decide) ?_
          exact ih (ab_pi (ab_pi M t1 (x2).toNatClampNeg x7) t1 (x3).toNatClampNeg q16) t1 ht1 x2 x3 x4 x5 x6 (x7 + 1) _ h kk kr
        · replace h := ab_neg hc20 h
          refine ev_iconst (x := 1) dX5_changeBoth_105 (by decide) ?_
          cases h
          rw [kr _ rfl]
          exact ev_zreturn rfl (Or.inr rfl) dX5_changeBoth_106
      · replace h := ab_pos hc14 h
        refine ev_goto (t := 107) dX5_changeBoth_80 (by decide) ?_
        refine ev_iinc (y := x7 + 1) dX5_changeBoth_107 rfl (by first | rfl | decide) rfl rfl ?_
        refine ev_goto (t := 63) dX5_changeBoth_110 (by decide) ?_
        exact ih M t1 ht1 x2 x3 x4 x5 x6 (x7 + 1) _ h kk kr

noncomputable def mi_X5_changeBoth (M : ab_M) (t1 : Nat) (x2 : Int32) (x3 : Int32) : Option (Int32 × ab_M) :=
  ab_chk (vp_in x2 16) <|
  ab_chk (vp_in x3 16) <|
  ab_chk (vp_in x2 16) <|
  ab_chk (vp_in x3 16) <|
  (mi_X2_isClean (ab_pi (ab_pi M t1 (x2).toNatClampNeg (-2)) t1 (x3).toNatClampNeg (-2)) t1).bind fun q5 =>
  ((if q5 = 0 then
    some 0
  else
    (mi_X2_freeChannels (ab_pi (ab_pi M t1 (x2).toNatClampNeg (-2)) t1 (x3).toNatClampNeg (-2)) t1 x2 ((ab_pi (ab_pi M t1 (x2).toNatClampNeg (-2)) t1 (x3).toNatClampNeg (-2)).1 1 8)).bind fun q11 =>
    some (q11 &&& (((1 : Int32) <<< ((M.1 t1 (x2).toNatClampNeg) &&& 31)) ^^^ (-1)))) : Option (Int32)).bind fun q7 =>
  (mi_X5_changeBoth_63 ab_F (ab_pi (ab_pi M t1 (x2).toNatClampNeg (-2)) t1 (x3).toNatClampNeg (-2)) t1 x2 x3 (M.1 t1 (x2).toNatClampNeg) (M.1 t1 (x3).toNatClampNeg) q7 0).bind fun q26 => Sum.elim (fun q21 =>
  ab_chk (vp_in x2 16) <|
  ab_chk (vp_in x3 16) <|
  some (0, (ab_pi (ab_pi q21.2 t1 (x2).toNatClampNeg (M.1 t1 (x2).toNatClampNeg)) t1 (x3).toNatClampNeg (M.1 t1 (x3).toNatClampNeg)))) (fun v25 => some v25) q26

set_option maxHeartbeats 4000000 in
set_option maxRecDepth 100000 in
theorem co_X5_changeBoth {l : Launch} {D : va_G} {ac : Nat → ClassId} (M : ab_M) (t1 : Nat) (ht1 : ab_isPlan t1) (x2 : Int32) (x3 : Int32) (z : Int32 × ab_M) (h : mi_X5_changeBoth M t1 x2 x3 = some z) : ab_Con l D ac 6 me_X5_changeBoth 0 0 [.ref 30, .ref t1, .int x2, .int x3] ab_SH M (some (.int z.1), ab_SH, z.2) := by
  refine ab_intro (lv := [some (.ref 30), some (.ref t1), some (.int x2), some (.int x3), none, none, none, none]) (by decide) rfl (Nat.le_of_ble_eq_true rfl) rfl ?_
  unfold mi_X5_changeBoth at h
  refine ev_aload_n dX5_changeBoth_0 rfl ?_
  refine ev_iload_n dX5_changeBoth_1 rfl ?_
  obtain ⟨hb1, h⟩ := ab_chk_some h
  refine ev_iaload ht1 hb1 dX5_changeBoth_2 ?_
  refine ev_istore dX5_changeBoth_3 (Nat.le_of_ble_eq_true rfl) rfl rfl ?_
  refine ev_aload_n dX5_changeBoth_5 rfl ?_
  refine ev_iload_n dX5_changeBoth_6 rfl ?_
  obtain ⟨hb2, h⟩ := ab_chk_some h
  refine ev_iaload ht1 hb2 dX5_changeBoth_7 ?_
  refine ev_istore dX5_changeBoth_8 (Nat.le_of_ble_eq_true rfl) rfl rfl ?_
  refine ev_aload_n dX5_changeBoth_10 rfl ?_
  refine ev_iload_n dX5_changeBoth_11 rfl ?_
  refine ev_bipush (x := (-2)) dX5_changeBoth_12 (by decide) ?_
  obtain ⟨hb3, h⟩ := ab_chk_some h
  refine ev_iastore ht1 hb3 dX5_changeBoth_14 ?_
  refine ev_aload_n dX5_changeBoth_15 rfl ?_
  refine ev_iload_n dX5_changeBoth_16 rfl ?_
  refine ev_bipush (x := (-2)) dX5_changeBoth_17 (by decide) ?_
  obtain ⟨hb4, h⟩ := ab_chk_some h
  refine ev_iastore ht1 hb4 dX5_changeBoth_19 ?_
  refine ev_aload_n dX5_changeBoth_20 rfl ?_
  refine ev_getr (o' := 24) fl_RX5_15 sh_30 (by decide) (by decide) rfl rfl dX5_changeBoth_21 ?_
  refine ev_aload_n dX5_changeBoth_24 rfl ?_
  obtain ⟨q5, hv6, h⟩ := ab_bind h
  refine ev_callV (st := []) (co_X2_isClean (ab_pi (ab_pi M t1 (x2).toNatClampNeg (-2)) t1 (x3).toNatClampNeg (-2)) t1 ht1 _ hv6) mv_X2_isClean sh_24 ml_RX5_43 dX5_changeBoth_25 (by decide) rfl (Nat.le_of_ble_eq_true rfl) ⟨Nat.le_refl _, Nat.le_refl _⟩ ?_
  obtain ⟨q7, hq8, h⟩ := ab_bind h
  have hJ9 : ab_Ev l D ac 6 me_X5_changeBoth ab_SH.length 0 0 (some (.int z.1), ab_SH, z.2) 0 0 ab_SH 58 [some (.ref 30), some (.ref t1), some (.int x2), some (.int x3), some (.int (M.1 t1 (x2).toNatClampNeg)), some (.int (M.1 t1 (x3).toNatClampNeg)), none, none] [.int q7] (ab_pi (ab_pi M t1 (x2).toNatClampNeg (-2)) t1 (x3).toNatClampNeg (-2)) := by
    refine ev_istore dX5_changeBoth_58 (Nat.le_of_ble_eq_true rfl) rfl rfl ?_
    refine ev_iconst (x := 0) dX5_changeBoth_60 (by decide) ?_
    refine ev_istore dX5_changeBoth_61 (Nat.le_of_ble_eq_true rfl) rfl rfl ?_
    obtain ⟨q26, hq22, h⟩ := ab_bind h
    rcases ab_elim h with ⟨q21, rfl, h⟩ | ⟨v25, rfl, h⟩
    · refine lp_X5_changeBoth_63 _ (ab_pi (ab_pi M t1 (x2).toNatClampNeg (-2)) t1 (x3).toNatClampNeg (-2)) t1 ht1 x2 x3 (M.1 t1 (x2).toNatClampNeg) (M.1 t1 (x3).toNatClampNeg) q7 0 _ hq22 (fun z e27 => ?_) (fun z e27 => by cases e27)
      cases e27
      refine ev_aload_n dX5_changeBoth_113 rfl ?_
      refine ev_iload_n dX5_changeBoth_114 rfl ?_
      refine ev_iload dX5_changeBoth_115 rfl ?_
      obtain ⟨hb23, h⟩ := ab_chk_some h
      refine ev_iastore ht1 hb23 dX5_changeBoth_117 ?_
      refine ev_aload_n dX5_changeBoth_118 rfl ?_
      refine ev_iload_n dX5_changeBoth_119 rfl ?_
      refine ev_iload dX5_changeBoth_120 rfl ?_
      obtain ⟨hb24, h⟩ := ab_chk_some h
      refine ev_iastore ht1 hb24 dX5_changeBoth_122 ?_
      refine ev_iconst (x := 0) dX5_changeBoth_123 (by decide) ?_
      cases h
      exact ev_zreturn rfl (Or.inl rfl) dX5_changeBoth_124
    · refine lp_X5_changeBoth_63 _ (ab_pi (ab_pi M t1 (x2).toNatClampNeg (-2)) t1 (x3).toNatClampNeg (-2)) t1 ht1 x2 x3 (M.1 t1 (x2).toNatClampNeg) (M.1 t1 (x3).toNatClampNeg) q7 0 _ hq22 (fun z e27 => by cases e27) (fun z e27 => ?_)
      cases e27
      cases h
      rfl
  refine ev_if_eq (t := 57) dX5_changeBoth_28 (by decide) (fun hc10 => ?_) (fun hc10 => ?_)
  · replace hq8 := ab_pos hc10 hq8
    refine ev_iconst (x := 0) dX5_changeBoth_57 (by decide) ?_
    cases hq8
    exact hJ9
  · replace hq8 := ab_neg hc10 hq8
    refine ev_aload_n dX5_changeBoth_31 rfl ?_
    refine ev_getr (o' := 24) fl_RX5_15 sh_30 (by decide) (by decide) rfl rfl dX5_changeBoth_32 ?_
    refine ev_aload_n dX5_changeBoth_35 rfl ?_
    refine ev_iload_n dX5_changeBoth_36 rfl ?_
    refine ev_aload_n dX5_changeBoth_37 rfl ?_
    refine ev_getr (o' := 1) fl_RX5_9 sh_30 (by decide) (by decide) rfl rfl dX5_changeBoth_38 ?_
    refine ev_geti fl_RX5_25 sh_1 (by decide) (by decide) rfl dX5_changeBoth_41 ?_
    obtain ⟨q11, hv12, hq8⟩ := ab_bind hq8
    refine ev_callV (st := []) (co_X2_freeChannels (ab_pi (ab_pi M t1 (x2).toNatClampNeg (-2)) t1 (x3).toNatClampNeg (-2)) t1 ht1 x2 ((ab_pi (ab_pi M t1 (x2).toNatClampNeg (-2)) t1 (x3).toNatClampNeg (-2)).1 1 8) _ hv12) mv_X2_freeChannels sh_24 ml_RX5_55 dX5_changeBoth_44 (by decide) rfl (Nat.le_of_ble_eq_true rfl) ⟨Nat.le_refl _, Nat.le_refl _⟩ ?_
    refine ev_iconst (x := 1) dX5_changeBoth_47 (by decide) ?_
    refine ev_iload dX5_changeBoth_48 rfl ?_
    refine ev_ishl dX5_changeBoth_50 ?_
    refine ev_iconst (x := (-1)) dX5_changeBoth_51 (by decide) ?_
    refine ev_ixor dX5_changeBoth_52 ?_
    refine ev_iand dX5_changeBoth_53 ?_
    refine ev_goto (t := 58) dX5_changeBoth_54 (by decide) ?_
    cases hq8
    exact hJ9

noncomputable def mi_X5_changeTwo_17 : Nat → ab_M → Nat → Int32 → Int32 → Option (Sum (Int32 × ab_M) (Int32 × ab_M))
  | 0, _, _, _, _ => none
  | n + 1, M, t1, x2, x3 =>
    if (M.1 1 8) ≤ x3 then
      some (.inl (x3, M))
    else
      (mi_X5_canChange M t1 x2).bind fun q3 =>
      if q3 = 0 then
        mi_X5_changeTwo_17 n M t1 x2 (x3 + 1)
      else
        (mi_X5_canChange M t1 x3).bind fun q6 =>
        if q6 = 0 then
          mi_X5_changeTwo_17 n M t1 x2 (x3 + 1)
        else
          (mi_X5_changeBoth M t1 x2 x3).bind fun q9 =>
          if q9.1 = 0 then
            mi_X5_changeTwo_17 n q9.2 t1 x2 (x3 + 1)
          else
            some (.inr (1, q9.2))

set_option maxHeartbeats 4000000 in
set_option maxRecDepth 100000 in
theorem lp_X5_changeTwo_17 {l : Launch} {D : va_G} {ac : Nat → ClassId} {n0 : Nat} {r : ab_Rs} : ∀ (n : Nat) (M : ab_M) (t1 : Nat) (ht1 : ab_isPlan t1) (x2 : Int32) (x3 : Int32) (q : Sum (Int32 × ab_M) (Int32 × ab_M)) (h : mi_X5_changeTwo_17 n M t1 x2 x3 = some q) (kk : ∀ y, q = .inl y → ab_Ev l D ac 7 me_X5_changeTwo n0 0 0 r 0 0 ab_SH 64 [some (.ref 30), some (.ref t1), some (.int x2), some (.int y.1)] [] y.2) (kr : ∀ v, q = .inr v → r = (some (.int v.1), ab_SH, v.2)), ab_Ev l D ac 7 me_X5_changeTwo n0 0 0 r 0 0 ab_SH 17 [some (.ref 30), some (.ref t1), some (.int x2), some (.int x3)] [] M := by
  intro n
  induction n with
  | zero =>
    intro M t1 ht1 x2 x3 q h kk kr
    cases h
  | succ n ih =>
    intro M t1 ht1 x2 x3 q h kk kr
    unfold mi_X5_changeTwo_17 at h
    refine ev_iload_n dX5_changeTwo_17 rfl ?_
    refine ev_aload_n dX5_changeTwo_18 rfl ?_
    refine ev_getr (o' := 1) fl_RX5_9 sh_30 (by decide) (by decide) rfl rfl dX5_changeTwo_19 ?_
    refine ev_geti fl_RX5_25 sh_1 (by decide) (by decide) rfl dX5_changeTwo_22 ?_
    refine ev_icmp_ge (t := 64) dX5_changeTwo_25 (by decide) (fun hc2 => ?_) (fun hc2 => ?_)
    · replace h := ab_pos hc2 h
      cases h
      exact kk _ rfl
    · replace h := ab_neg hc2 h
      refine ev_aload_n dX5_changeTwo_28 rfl ?_
      refine ev_aload_n dX5_changeTwo_29 rfl ?_
      refine ev_iload_n dX5_changeTwo_30 rfl ?_
      obtain ⟨q3, hv4, h⟩ := ab_bind h
      refine ev_callV (st := []) (co_X5_canChange M t1 ht1 x2 _ hv4) mv_X5_canChange sh_30 ml_RX5_29 dX5_changeTwo_31 (by decide) rfl (Nat.le_of_ble_eq_true rfl) ⟨Nat.le_refl _, Nat.le_refl _⟩ ?_
      refine ev_if_eq (t := 58) dX5_changeTwo_34 (by decide) (fun hc5 => ?_) (fun hc5 => ?_)
      · replace h := ab_pos hc5 h
        refine ev_iinc (y := x3 + 1) dX5_changeTwo_58 rfl (by first | rfl | decide) rfl rfl ?_
        refine ev_goto (t := 17) dX5_changeTwo_61 (by decide) ?_
        exact ih M t1 ht1 x2 (x3 + 1) _ h kk kr
      · replace h := ab_neg hc5 h
        refine ev_aload_n dX5_changeTwo_37 rfl ?_
        refine ev_aload_n dX5_changeTwo_38 rfl ?_
        refine ev_iload_n dX5_changeTwo_39 rfl ?_
        obtain ⟨q6, hv7, h⟩ := ab_bind h
        refine ev_callV (st := []) (co_X5_canChange M t1 ht1 x3 _ hv7) mv_X5_canChange sh_30 ml_RX5_29 dX5_changeTwo_40 (by decide) rfl (Nat.le_of_ble_eq_true rfl) ⟨Nat.le_refl _, Nat.le_refl _⟩ ?_
        refine ev_if_eq (t := 58) dX5_changeTwo_43 (by decide) (fun hc8 => ?_) (fun hc8 => ?_)
        · replace h := ab_pos hc8 h
          refine ev_iinc (y := x3 + 1) dX5_changeTwo_58 rfl (by first | rfl | decide) rfl rfl ?_
          refine ev_goto (t := 17) dX5_changeTwo_61 (by decide) ?_
          exact ih M t1 ht1 x2 (x3 + 1) _ h kk kr
        · replace h := ab_neg hc8 h
          refine ev_aload_n dX5_changeTwo_46 rfl ?_
          refine ev_aload_n dX5_changeTwo_47 rfl ?_
          refine ev_iload_n dX5_changeTwo_48 rfl ?_
          refine ev_iload_n dX5_changeTwo_49 rfl ?_
          obtain ⟨q9, hv10, h⟩ := ab_bind h
          refine ev_callV (st := []) (co_X5_changeBoth M t1 ht1 x2 x3 _ hv10) mv_X5_changeBoth sh_30 ml_RX5_51 dX5_changeTwo_50 (by decide) rfl (Nat.le_of_ble_eq_true rfl) ⟨Nat.le_refl _, Nat.le_refl _⟩ ?_
          refine ev_if_eq (t := 58) dX5_changeTwo_53 (by decide) (fun hc11 => ?_) (fun hc11 => ?_)
          · replace h := ab_pos hc11 h
            refine ev_iinc (y := x3 + 1) dX5_changeTwo_58 rfl (by first | rfl | decide) rfl rfl ?_
            refine ev_goto (t := 17) dX5_changeTwo_61 (by decide) ?_
            exact ih q9.2 t1 ht1 x2 (x3 + 1) _ h kk kr
          · replace h := ab_neg hc11 h
            refine ev_iconst (x := 1) dX5_changeTwo_56 (by decide) ?_
            cases h
            rw [kr _ rfl]
            exact ev_zreturn rfl (Or.inr rfl) dX5_changeTwo_57

noncomputable def mi_X5_changeTwo_2 : Nat → ab_M → Nat → Int32 → Option (Sum (Int32 × ab_M) (Int32 × ab_M))
  | 0, _, _, _ => none
  | n + 1, M, t1, x2 =>
    if (M.1 1 8) ≤ x2 then
      some (.inl (x2, M))
    else
      (mi_X5_changeTwo_17 ab_F M t1 x2 (x2 + 1)).bind fun q15 => Sum.elim (fun q12 =>
      mi_X5_changeTwo_2 n q12.2 t1 (x2 + 1)) (fun v14 => some (.inr v14)) q15

set_option maxHeartbeats 4000000 in
set_option maxRecDepth 100000 in
theorem lp_X5_changeTwo_2 {l : Launch} {D : va_G} {ac : Nat → ClassId} {n0 : Nat} {r : ab_Rs} : ∀ (n : Nat) (M : ab_M) (t1 : Nat) (ht1 : ab_isPlan t1) (x2 : Int32) (q : Sum (Int32 × ab_M) (Int32 × ab_M)) (h : mi_X5_changeTwo_2 n M t1 x2 = some q) (kk : ∀ y, q = .inl y → ab_Ev l D ac 7 me_X5_changeTwo n0 0 0 r 0 0 ab_SH 70 [some (.ref 30), some (.ref t1), some (.int y.1), none] [] y.2) (kr : ∀ v, q = .inr v → r = (some (.int v.1), ab_SH, v.2)), ab_Ev l D ac 7 me_X5_changeTwo n0 0 0 r 0 0 ab_SH 2 [some (.ref 30), some (.ref t1), some (.int x2), none] [] M := by
  intro n
  induction n with
  | zero =>
    intro M t1 ht1 x2 q h kk kr
    cases h
  | succ n ih =>
    intro M t1 ht1 x2 q h kk kr
    unfold mi_X5_changeTwo_2 at h
    refine ev_iload_n dX5_changeTwo_2 rfl ?_
    refine ev_aload_n dX5_changeTwo_3 rfl ?_
    refine ev_getr (o' := 1) fl_RX5_9 sh_30 (by decide) (by decide) rfl rfl dX5_changeTwo_4 ?_
    refine ev_geti fl_RX5_25 sh_1 (by decide) (by decide) rfl dX5_changeTwo_7 ?_
    refine ev_icmp_ge (t := 70) dX5_changeTwo_10 (by decide) (fun hc1 => ?_) (fun hc1 => ?_)
    · replace h := ab_pos hc1 h
      cases h
      exact kk _ rfl
    · replace h := ab_neg hc1 h
      refine ev_iload_n dX5_changeTwo_13 rfl ?_
      refine ev_iconst (x := 1) dX5_changeTwo_14 (by decide) ?_
      refine ev_iadd dX5_changeTwo_15 ?_
      refine ev_istore_n dX5_changeTwo_16 (Nat.le_of_ble_eq_true rfl) rfl rfl ?_
      obtain ⟨q15, hq13, h⟩ := ab_bind h
      rcases ab_elim h with ⟨q12, rfl, h⟩ | ⟨v14, rfl, h⟩
      · refine lp_X5_changeTwo_17 _ M t1 ht1 x2 (x2 + 1) _ hq13 (fun z e16 => ?_) (fun z e16 => by cases e16)
        cases e16
        refine ev_iinc (y := x2 + 1) dX5_changeTwo_64 rfl (by first | rfl | decide) rfl rfl ?_
        refine ev_goto (t := 2) dX5_changeTwo_67 (by decide) ?_
        refine ev_drop (lv' := [some (.ref 30), some (.ref t1), some (.int (x2 + 1)), none]) (ab_sub_k (ab_sub_k (ab_sub_k (ab_sub_d ab_sub_nil)))) ?_
        exact ih q12.2 t1 ht1 (x2 + 1) _ h kk kr
      · refine lp_X5_changeTwo_17 _ M t1 ht1 x2 (x2 + 1) _ hq13 (fun z e16 => by cases e16) (fun z e16 => ?_)
        cases e16
        cases h
        exact kr _ rfl

noncomputable def mi_X5_changeTwo (M : ab_M) (t1 : Nat) : Option (Int32 × ab_M) :=
  (mi_X5_changeTwo_2 ab_F M t1 0).bind fun q20 => Sum.elim (fun q17 =>
  some (0, q17.2)) (fun v19 => some v19) q20

set_option maxHeartbeats 4000000 in
set_option maxRecDepth 100000 in
theorem co_X5_changeTwo {l : Launch} {D : va_G} {ac : Nat → ClassId} (M : ab_M) (t1 : Nat) (ht1 : ab_isPlan t1) (z : Int32 × ab_M) (h : mi_X5_changeTwo M t1 = some z) : ab_Con l D ac 7 me_X5_changeTwo 0 0 [.ref 30, .ref t1] ab_SH M (some (.int z.1), ab_SH, z.2) := by
  refine ab_intro (lv := [some (.ref 30), some (.ref t1), none, none]) (by decide) rfl (Nat.le_of_ble_eq_true rfl) rfl ?_
  unfold mi_X5_changeTwo at h
  refine ev_iconst (x := 0) dX5_changeTwo_0 (by decide) ?_
  refine ev_istore_n dX5_changeTwo_1 (Nat.le_of_ble_eq_true rfl) rfl rfl ?_
  obtain ⟨q20, hq18, h⟩ := ab_bind h
  rcases ab_elim h with ⟨q17, rfl, h⟩ | ⟨v19, rfl, h⟩
  · refine lp_X5_changeTwo_2 _ M t1 ht1 0 _ hq18 (fun z e21 => ?_) (fun z e21 => by cases e21)
    cases e21
    refine ev_iconst (x := 0) dX5_changeTwo_70 (by decide) ?_
    cases h
    exact ev_zreturn rfl (Or.inl rfl) dX5_changeTwo_71
  · refine lp_X5_changeTwo_2 _ M t1 ht1 0 _ hq18 (fun z e21 => by cases e21) (fun z e21 => ?_)
    cases e21
    cases h
    rfl
