noncomputable def mi_X0_barsAll_2 : Nat → ab_M → Int32 → Int32 → Int32 → Option (Sum (Int32) (Int32))
  | 0, _, _, _, _ => none
  | n + 1, M, x1, x2, x3 =>
    if (M.1 1 7) ≤ x3 then
      some (.inl x3)
    else
      if ((ab_ushr x2 x3) &&& 1) = 0 then
        mi_X0_barsAll_2 n M x1 x2 (x3 + 1)
      else
        (mi_X3_barOf M x1 x3).bind fun q3 =>
        if q3 = 0 then
          some (.inr 0)
        else
          mi_X0_barsAll_2 n M x1 x2 (x3 + 1)

set_option maxHeartbeats 4000000 in
set_option maxRecDepth 100000 in
theorem lp_X0_barsAll_2 {l : Launch} {D : va_G} {ac : Nat → ClassId} {n0 : Nat} {r : ab_Rs} : ∀ (n : Nat) (M : ab_M) (x1 : Int32) (x2 : Int32) (x3 : Int32) (q : Sum (Int32) (Int32)) (h : mi_X0_barsAll_2 n M x1 x2 x3 = some q) (kk : ∀ y, q = .inl y → ab_Ev l D ac 2 me_X0_barsAll n0 0 0 r 0 0 ab_SH 41 [some (.ref 31), some (.int x1), some (.int x2), some (.int y)] [] M) (kr : ∀ v, q = .inr v → r = (some (.int v), ab_SH, M)), ab_Ev l D ac 2 me_X0_barsAll n0 0 0 r 0 0 ab_SH 2 [some (.ref 31), some (.int x1), some (.int x2), some (.int x3)] [] M := by
  intro n
  induction n with
  | zero =>
    intro M x1 x2 x3 q h kk kr
    cases h
  | succ n ih =>
    intro M x1 x2 x3 q h kk kr
    unfold mi_X0_barsAll_2 at h
    refine ev_iload_n dX0_barsAll_2 rfl ?_
    refine ev_aload_n dX0_barsAll_3 rfl ?_
    refine ev_getr (o' := 1) fl_RX0_18 sh_31 (by decide) (by decide) rfl rfl dX0_barsAll_4 ?_
    refine ev_geti fl_RX0_22 sh_1 (by decide) (by decide) rfl dX0_barsAll_7 ?_
    refine ev_icmp_ge (t := 41) dX0_barsAll_10 (by decide) (fun hc1 => ?_) (fun hc1 => ?_)
    · replace h := ab_pos hc1 h
      cases h
      exact kk _ rfl
    · replace h := ab_neg hc1 h
      refine ev_iload_n dX0_barsAll_13 rfl ?_
      refine ev_iload_n dX0_barsAll_14 rfl ?_
      refine ev_iushr dX0_barsAll_15 ?_
      refine ev_iconst (x := 1) dX0_barsAll_16 (by decide) ?_
      refine ev_iand dX0_barsAll_17 ?_
      refine ev_if_eq (t := 35) dX0_barsAll_18 (by decide) (fun hc2 => ?_) (fun hc2 => ?_)
      · replace h := ab_pos hc2 h
        refine ev_iinc (y := x3 + 1) dX0_barsAll_35 rfl (by first | rfl | decide) rfl rfl ?_
        refine ev_goto (t := 2) dX0_barsAll_38 (by decide) ?_
        exact ih M x1 x2 (x3 + 1) _ h kk kr
      · replace h := ab_neg hc2 h
        refine ev_aload_n dX0_barsAll_21 rfl ?_
        refine ev_getr (o' := 1) fl_RX0_18 sh_31 (by decide) (by decide) rfl rfl dX0_barsAll_22 ?_
        refine ev_iload_n dX0_barsAll_25 rfl ?_
        refine ev_iload_n dX0_barsAll_26 rfl ?_
        obtain ⟨q3, hv4, h⟩ := ab_bind h
        refine ev_callV (st := []) (co_X3_barOf M x1 x3 _ hv4) mv_X3_barOf sh_1 ml_RX0_32 dX0_barsAll_27 (by decide) rfl (Nat.le_of_ble_eq_true rfl) ⟨Nat.le_refl _, Nat.le_refl _⟩ ?_
        refine ev_if_ne (t := 35) dX0_barsAll_30 (by decide) (fun hc5 => ?_) (fun hc5 => ?_)
        · replace h := ab_neg hc5 h
          refine ev_iinc (y := x3 + 1) dX0_barsAll_35 rfl (by first | rfl | decide) rfl rfl ?_
          refine ev_goto (t := 2) dX0_barsAll_38 (by decide) ?_
          exact ih M x1 x2 (x3 + 1) _ h kk kr
        · replace h := ab_pos hc5 h
          refine ev_iconst (x := 0) dX0_barsAll_33 (by decide) ?_
          cases h
          rw [kr _ rfl]
          exact ev_zreturn rfl (Or.inl rfl) dX0_barsAll_34

noncomputable def mi_X0_barsAll (M : ab_M) (x1 : Int32) (x2 : Int32) : Option (Int32) :=
  (mi_X0_barsAll_2 ab_F M x1 x2 0).bind fun q9 => Sum.elim (fun q6 =>
  some 1) (fun v8 => some v8) q9

set_option maxHeartbeats 4000000 in
set_option maxRecDepth 100000 in
theorem co_X0_barsAll {l : Launch} {D : va_G} {ac : Nat → ClassId} (M : ab_M) (x1 : Int32) (x2 : Int32) (z : Int32) (h : mi_X0_barsAll M x1 x2 = some z) : ab_Con l D ac 2 me_X0_barsAll 0 0 [.ref 31, .int x1, .int x2] ab_SH M (some (.int z), ab_SH, M) := by
  refine ab_intro (lv := [some (.ref 31), some (.int x1), some (.int x2), none]) (by decide) rfl (Nat.le_of_ble_eq_true rfl) rfl ?_
  unfold mi_X0_barsAll at h
  refine ev_iconst (x := 0) dX0_barsAll_0 (by decide) ?_
  refine ev_istore_n dX0_barsAll_1 (Nat.le_of_ble_eq_true rfl) rfl rfl ?_
  obtain ⟨q9, hq7, h⟩ := ab_bind h
  rcases ab_elim h with ⟨q6, rfl, h⟩ | ⟨v8, rfl, h⟩
  · refine lp_X0_barsAll_2 _ M x1 x2 0 _ hq7 (fun z e10 => ?_) (fun z e10 => by cases e10)
    cases e10
    refine ev_iconst (x := 1) dX0_barsAll_41 (by decide) ?_
    cases h
    exact ev_zreturn rfl (Or.inr rfl) dX0_barsAll_42
  · refine lp_X0_barsAll_2 _ M x1 x2 0 _ hq7 (fun z e10 => by cases e10) (fun z e10 => ?_)
    cases e10
    cases h
    rfl

noncomputable def mi_X0_isCrowd_2 : Nat → ab_M → Int32 → Int32 → Option (Sum (Int32) (Int32))
  | 0, _, _, _ => none
  | n + 1, M, x1, x2 =>
    if (M.1 1 7) ≤ x2 then
      some (.inl x2)
    else
      if ((ab_ushr x1 x2) &&& 1) = 0 then
        mi_X0_isCrowd_2 n M x1 (x2 + 1)
      else
        (mi_X0_barsAll M x2 (x1 &&& (((1 : Int32) <<< (x2 &&& 31)) ^^^ (-1)))).bind fun q3 =>
        if q3 = 0 then
          some (.inr 0)
        else
          mi_X0_isCrowd_2 n M x1 (x2 + 1)

set_option maxHeartbeats 4000000 in
set_option maxRecDepth 100000 in
theorem lp_X0_isCrowd_2 {l : Launch} {D : va_G} {ac : Nat → ClassId} {n0 : Nat} {r : ab_Rs} : ∀ (n : Nat) (M : ab_M) (x1 : Int32) (x2 : Int32) (q : Sum (Int32) (Int32)) (h : mi_X0_isCrowd_2 n M x1 x2 = some q) (kk : ∀ y, q = .inl y → ab_Ev l D ac 3 me_X0_isCrowd n0 0 0 r 0 0 ab_SH 44 [some (.ref 31), some (.int x1), some (.int y)] [] M) (kr : ∀ v, q = .inr v → r = (some (.int v), ab_SH, M)), ab_Ev l D ac 3 me_X0_isCrowd n0 0 0 r 0 0 ab_SH 2 [some (.ref 31), some (.int x1), some (.int x2)] [] M := by
  intro n
  induction n with
  | zero =>
    intro M x1 x2 q h kk kr
    cases h
  | succ n ih =>
    intro M x1 x2 q h kk kr
    unfold mi_X0_isCrowd_2 at h
    refine ev_iload_n dX0_isCrowd_2 rfl ?_
    refine ev_aload_n dX0_isCrowd_3 rfl ?_
    refine ev_getr (o' := 1) fl_RX0_18 sh_31 (by decide) (by decide) rfl rfl dX0_isCrowd_4 ?_
    refine ev_geti fl_RX0_22 sh_1 (by decide) (by decide) rfl dX0_isCrowd_7 ?_
    refine ev_icmp_ge (t := 44) dX0_isCrowd_10 (by decide) (fun hc1 => ?_) (fun hc1 => ?_)
    · replace h := ab_pos hc1 h
      cases h
      exact kk _ rfl
    · replace h := ab_neg hc1 h
      refine ev_iload_n dX0_isCrowd_13 rfl ?_
      refine ev_iload_n dX0_isCrowd_14 rfl ?_
      refine ev_iushr dX0_isCrowd_15 ?_
      refine ev_iconst (x := 1) dX0_isCrowd_16 (by decide) ?_
      refine ev_iand dX0_isCrowd_17 ?_
      refine ev_if_eq (t := 38) dX0_isCrowd_18 (by decide) (fun hc2 => ?_) (fun hc2 => ?_)
      · replace h := ab_pos hc2 h
        refine ev_iinc (y := x2 + 1) dX0_isCrowd_38 rfl (by first | rfl | decide) rfl rfl ?_
        refine ev_goto (t := 2) dX0_isCrowd_41 (by decide) ?_
        exact ih M x1 (x2 + 1) _ h kk kr
      · replace h := ab_neg hc2 h
        refine ev_aload_n dX0_isCrowd_21 rfl ?_
        refine ev_iload_n dX0_isCrowd_22 rfl ?_
        refine ev_iload_n dX0_isCrowd_23 rfl ?_
        refine ev_iconst (x := 1) dX0_isCrowd_24 (by decide) ?_
        refine ev_iload_n dX0_isCrowd_25 rfl ?_
        refine ev_ishl dX0_isCrowd_26 ?_
        refine ev_iconst (x := (-1)) dX0_isCrowd_27 (by decide) ?_
        refine ev_ixor dX0_isCrowd_28 ?_
        refine ev_iand dX0_isCrowd_29 ?_
        obtain ⟨q3, hv4, h⟩ := ab_bind h
        refine ev_callV (st := []) (co_X0_barsAll M x2 (x1 &&& (((1 : Int32) <<< (x2 &&& 31)) ^^^ (-1))) _ hv4) mv_X0_barsAll sh_31 ml_RX0_28 dX0_isCrowd_30 (by decide) rfl (Nat.le_of_ble_eq_true rfl) ⟨Nat.le_refl _, Nat.le_refl _⟩ ?_
        refine ev_if_ne (t := 38) dX0_isCrowd_33 (by decide) (fun hc5 => ?_) (fun hc5 => ?_)
        · replace h := ab_neg hc5 h
          refine ev_iinc (y := x2 + 1) dX0_isCrowd_38 rfl (by first | rfl | decide) rfl rfl ?_
          refine ev_goto (t := 2) dX0_isCrowd_41 (by decide) ?_
          exact ih M x1 (x2 + 1) _ h kk kr
        · replace h := ab_pos hc5 h
          refine ev_iconst (x := 0) dX0_isCrowd_36 (by decide) ?_
          cases h
          rw [kr _ rfl]
          exact ev_zreturn rfl (Or.inl rfl) dX0_isCrowd_37

noncomputable def mi_X0_isCrowd (M : ab_M) (x1 : Int32) : Option (Int32) :=
  (mi_X0_isCrowd_2 ab_F M x1 0).bind fun q9 => Sum.elim (fun q6 =>
  some 1) (fun v8 => some v8) q9

set_option maxHeartbeats 4000000 in
set_option maxRecDepth 100000 in
theorem co_X0_isCrowd {l : Launch} {D : va_G} {ac : Nat → ClassId} (M : ab_M) (x1 : Int32) (z : Int32) (h : mi_X0_isCrowd M x1 = some z) : ab_Con l D ac 3 me_X0_isCrowd 0 0 [.ref 31, .int x1] ab_SH M (some (.int z), ab_SH, M) := by
  refine ab_intro (lv := [some (.ref 31), some (.int x1), none]) (by decide) rfl (Nat.le_of_ble_eq_true rfl) rfl ?_
  unfold mi_X0_isCrowd at h
  refine ev_iconst (x := 0) dX0_isCrowd_0 (by decide) ?_
  refine ev_istore_n dX0_isCrowd_1 (Nat.le_of_ble_eq_true rfl) rfl rfl ?_
  obtain ⟨q9, hq7, h⟩ := ab_bind h
  rcases ab_elim h with ⟨q6, rfl, h⟩ | ⟨v8, rfl, h⟩
  · refine lp_X0_isCrowd_2 _ M x1 0 _ hq7 (fun z e10 => ?_) (fun z e10 => by cases e10)
    cases e10
    refine ev_iconst (x := 1) dX0_isCrowd_44 (by decide) ?_
    cases h
    exact ev_zreturn rfl (Or.inr rfl) dX0_isCrowd_45
  · refine lp_X0_isCrowd_2 _ M x1 0 _ hq7 (fun z e10 => by cases e10) (fun z e10 => ?_)
    cases e10
    cases h
    rfl

noncomputable def mi_X0_wantsOf_4 : Nat → ab_M → Int32 → Int32 → Int32 → Option (Int32 × Int32)
  | 0, _, _, _, _ => none
  | n + 1, M, x1, x2, x3 =>
    if (M.1 1 7) ≤ x3 then
      some (x2, x3)
    else
      ((if ((ab_ushr x1 x3) &&& 1) = 0 then
        some 0
      else
        ab_chk (vp_in x3 12) <|
        some (M.1 (12 + (x3).toNatClampNeg) 5)) : Option (Int32)).bind fun q2 =>
      mi_X0_wantsOf_4 n M x1 (x2 + q2) (x3 + 1)

set_option maxHeartbeats 4000000 in
set_option maxRecDepth 100000 in
theorem lp_X0_wantsOf_4 {l : Launch} {D : va_G} {ac : Nat → ClassId} {n0 : Nat} {r : ab_Rs} : ∀ (n : Nat) (M : ab_M) (x1 : Int32) (x2 : Int32) (x3 : Int32) (q : Int32 × Int32) (h : mi_X0_wantsOf_4 n M x1 x2 x3 = some q) (kk : ab_Ev l D ac 1 me_X0_wantsOf n0 0 0 r 0 0 ab_SH 48 [some (.ref 31), some (.int x1), some (.int q.1), some (.int q.2)] [] M), ab_Ev l D ac 1 me_X0_wantsOf n0 0 0 r 0 0 ab_SH 4 [some (.ref 31), some (.int x1), some (.int x2), some (.int x3)] [] M := by
  intro n
  induction n with
  | zero =>
    intro M x1 x2 x3 q h kk
    cases h
  | succ n ih =>
    intro M x1 x2 x3 q h kk
    unfold mi_X0_wantsOf_4 at h
    refine ev_iload_n dX0_wantsOf_4 rfl ?_
    refine ev_aload_n dX0_wantsOf_5 rfl ?_
    refine ev_getr (o' := 1) fl_RX0_18 sh_31 (by decide) (by decide) rfl rfl dX0_wantsOf_6 ?_
    refine ev_geti fl_RX0_22 sh_1 (by decide) (by decide) rfl dX0_wantsOf_9 ?_
    refine ev_icmp_ge (t := 48) dX0_wantsOf_12 (by decide) (fun hc1 => ?_) (fun hc1 => ?_)
    · replace h := ab_pos hc1 h
      cases h
      exact kk
    · replace h := ab_neg hc1 h
      refine ev_iload_n dX0_wantsOf_15 rfl ?_
      refine ev_iload_n dX0_wantsOf_16 rfl ?_
      refine ev_iload_n dX0_wantsOf_17 rfl ?_
      refine ev_iushr dX0_wantsOf_18 ?_
      refine ev_iconst (x := 1) dX0_wantsOf_19 (by decide) ?_
      refine ev_iand dX0_wantsOf_20 ?_
      obtain ⟨q2, hq3, h⟩ := ab_bind h
      have hJ4 : ab_Ev l D ac 1 me_X0_wantsOf n0 0 0 r 0 0 ab_SH 40 [some (.ref 31), some (.int x1), some (.int x2), some (.int x3)] [.int q2, .int x2] M := by
        refine ev_iadd dX0_wantsOf_40 ?_
        refine ev_istore_n dX0_wantsOf_41 (Nat.le_of_ble_eq_true rfl) rfl rfl ?_
        refine ev_iinc (y := x3 + 1) dX0_wantsOf_42 rfl (by first | rfl | decide) rfl rfl ?_
        refine ev_goto (t := 4) dX0_wantsOf_45 (by decide) ?_
        exact ih M x1 (x2 + q2) (x3 + 1) _ h kk
      refine ev_if_eq (t := 39) dX0_wantsOf_21 (by decide) (fun hc5 => ?_) (fun hc5 => ?_)
      · replace hq3 := ab_pos hc5 hq3
        refine ev_iconst (x := 0) dX0_wantsOf_39 (by decide) ?_
        cases hq3
        exact hJ4
      · replace hq3 := ab_neg hc5 hq3
        refine ev_aload_n dX0_wantsOf_24 rfl ?_
        refine ev_getr (o' := 1) fl_RX0_18 sh_31 (by decide) (by decide) rfl rfl dX0_wantsOf_25 ?_
        refine ev_getr (o' := 2) fl_RX0_36 sh_1 (by decide) (by decide) rfl rfl dX0_wantsOf_28 ?_
        refine ev_iload_n dX0_wantsOf_31 rfl ?_
        obtain ⟨hb6, hq3⟩ := ab_chk_some hq3
        refine ev_aaload sh_2 (Or.inl rfl) hb6 (rf_mast hb6) dX0_wantsOf_32 ?_
        refine ev_geti fl_RX0_40 (sh_mast hb6) (by decide) (by decide) rfl dX0_wantsOf_33 ?_
        refine ev_goto (t := 40) dX0_wantsOf_36 (by decide) ?_
        cases hq3
        exact hJ4

noncomputable def mi_X0_wantsOf (M : ab_M) (x1 : Int32) : Option (Int32) :=
  (mi_X0_wantsOf_4 ab_F M x1 0 0).bind fun q7 =>
  some q7.1

set_option maxHeartbeats 4000000 in
set_option maxRecDepth 100000 in
theorem co_X0_wantsOf {l : Launch} {D : va_G} {ac : Nat → ClassId} (M : ab_M) (x1 : Int32) (z : Int32) (h : mi_X0_wantsOf M x1 = some z) : ab_Con l D ac 1 me_X0_wantsOf 0 0 [.ref 31, .int x1] ab_SH M (some (.int z), ab_SH, M) := by
  refine ab_intro (lv := [some (.ref 31), some (.int x1), none, none]) (by decide) rfl (Nat.le_of_ble_eq_true rfl) rfl ?_
  unfold mi_X0_wantsOf at h
  refine ev_iconst (x := 0) dX0_wantsOf_0 (by decide) ?_
  refine ev_istore_n dX0_wantsOf_1 (Nat.le_of_ble_eq_true rfl) rfl rfl ?_
  refine ev_iconst (x := 0) dX0_wantsOf_2 (by decide) ?_
  refine ev_istore_n dX0_wantsOf_3 (Nat.le_of_ble_eq_true rfl) rfl rfl ?_
  obtain ⟨q7, hq8, h⟩ := ab_bind h
  refine lp_X0_wantsOf_4 _ M x1 0 0 _ hq8 ?_
  refine ev_iload_n dX0_wantsOf_48 rfl ?_
  cases h
  exact ev_ireturn rfl dX0_wantsOf_49

noncomputable def mi_X0_leastSum_13 : Nat → ab_M → Int32 → Int32 → Int32 → Int32 → Int32 → Option (Int32 × Int32)
  | 0, _, _, _, _, _, _ => none
  | n + 1, M, x1, x2, x3, x4, x5 =>
    if x3 < x5 then
      some (x4, x5)
    else
      ((if ((ab_ushr x1 x5) &&& 1) = 0 then
        some x4
      else
        ab_chk (vp_in ((x1 * 6) + x5) 384) <|
        ab_chk (vp_in x5 6) <|
        ab_chk (vp_in x2 6) <|
        (mi_X3_barOf M (M.1 33 (x5).toNatClampNeg) (M.1 33 (x2).toNatClampNeg)).bind fun q10 =>
        (some (ab_min x4 ((M.1 32 ((x1 * 6) + x5).toNatClampNeg) + q10)) : Option Int32).bind fun v12 =>
        some v12) : Option (Int32)).bind fun q3 =>
      mi_X0_leastSum_13 n M x1 x2 x3 q3 (x5 + 1)

set_option maxHeartbeats 4000000 in
set_option maxRecDepth 100000 in
theorem lp_X0_leastSum_13 {l : Launch} {D : va_G} {ac : Nat → ClassId} {n0 : Nat} {r : ab_Rs} : ∀ (n : Nat) (M : ab_M) (x1 : Int32) (x2 : Int32) (x3 : Int32) (x4 : Int32) (x5 : Int32) (q : Int32 × Int32) (h : mi_X0_leastSum_13 n M x1 x2 x3 x4 x5 = some q) (kk : ab_Ev l D ac 2 me_X0_leastSum n0 0 0 r 0 0 ab_SH 74 [some (.ref 31), some (.int x1), some (.int x2), some (.int x3), some (.int q.1), some (.int q.2)] [] M), ab_Ev l D ac 2 me_X0_leastSum n0 0 0 r 0 0 ab_SH 13 [some (.ref 31), some (.int x1), some (.int x2), some (.int x3), some (.int x4), some (.int x5)] [] M := by
  intro n
  induction n with
  | zero =>
    intro M x1 x2 x3 x4 x5 q h kk
    cases h
  | succ n ih =>
    intro M x1 x2 x3 x4 x5 q h kk
    unfold mi_X0_leastSum_13 at h
    refine ev_iload dX0_leastSum_13 rfl ?_
    refine ev_iload_n dX0_leastSum_15 rfl ?_
    refine ev_icmp_gt (t := 74) dX0_leastSum_16 (by decide) (fun hc2 => ?_) (fun hc2 => ?_)
    · replace h := ab_pos hc2 h
      cases h
      exact kk
    · replace h := ab_neg hc2 h
      refine ev_iload_n dX0_leastSum_19 rfl ?_
      refine ev_iload dX0_leastSum_20 rfl ?_
      refine ev_iushr dX0_leastSum_22 ?_
      refine ev_iconst (x := 1) dX0_leastSum_23 (by decide) ?_
      refine ev_iand dX0_leastSum_24 ?_
      obtain ⟨q3, hq4, h⟩ := ab_bind h
      have hJ5 : ab_Ev l D ac 2 me_X0_leastSum n0 0 0 r 0 0 ab_SH 68 [some (.ref 31), some (.int x1), some (.int x2), some (.int x3), some (.int q3), some (.int x5)] [] M := by
        refine ev_iinc (y := x5 + 1) dX0_leastSum_68 rfl (by first | rfl | decide) rfl rfl ?_
        refine ev_goto (t := 13) dX0_leastSum_71 (by decide) ?_
        exact ih M x1 x2 x3 q3 (x5 + 1) _ h kk
      refine ev_if_eq (t := 68) dX0_leastSum_25 (by decide) (fun hc6 => ?_) (fun hc6 => ?_)
      · replace hq4 := ab_pos hc6 hq4
        cases hq4
        exact hJ5
      · replace hq4 := ab_neg hc6 hq4
        refine ev_iload dX0_leastSum_28 rfl ?_
        refine ev_aload_n dX0_leastSum_30 rfl ?_
        refine ev_getr (o' := 32) fl_RX0_9 sh_31 (by decide) (by decide) rfl rfl dX0_leastSum_31 ?_
        refine ev_iload_n dX0_leastSum_34 rfl ?_
        refine ev_bipush (x := 6) dX0_leastSum_35 (by decide) ?_
        refine ev_imul dX0_leastSum_37 ?_
        refine ev_iload dX0_leastSum_38 rfl ?_
        refine ev_iadd dX0_leastSum_40 ?_
        obtain ⟨hb7, hq4⟩ := ab_chk_some hq4
        refine ev_iaload sh_32 hb7 dX0_leastSum_41 ?_
        refine ev_aload_n dX0_leastSum_42 rfl ?_
        refine ev_getr (o' := 1) fl_RX0_18 sh_31 (by decide) (by decide) rfl rfl dX0_leastSum_43 ?_
        refine ev_aload_n dX0_leastSum_46 rfl ?_
        refine ev_getr (o' := 33) fl_RX0_15 sh_31 (by decide) (by decide) rfl rfl dX0_leastSum_47 ?_
        refine ev_iload dX0_leastSum_50 rfl ?_
        obtain ⟨hb8, hq4⟩ := ab_chk_some hq4
        refine ev_iaload sh_33 hb8 dX0_leastSum_52 ?_
        refine ev_aload_n dX0_leastSum_53 rfl ?_
        refine ev_getr (o' := 33) fl_RX0_15 sh_31 (by decide) (by decide) rfl rfl dX0_leastSum_54 ?_
        refine ev_iload_n dX0_leastSum_57 rfl ?_
        obtain ⟨hb9, hq4⟩ := ab_chk_some hq4
        refine ev_iaload sh_33 hb9 dX0_leastSum_58 ?_
        obtain ⟨q10, hv11, hq4⟩ := ab_bind hq4
        refine ev_callV (st := [.int (M.1 32 ((x1 * 6) + x5).toNatClampNeg), .int x4]) (co_X3_barOf M (M.1 33 (x5).toNatClampNeg) (M.1 33 (x2).toNatClampNeg) _ hv11) mv_X3_barOf sh_1 ml_RX0_32 dX0_leastSum_59 (by decide) rfl (Nat.le_of_ble_eq_true rfl) ⟨Nat.le_refl _, Nat.le_refl _⟩ ?_
        refine ev_iadd dX0_leastSum_62 ?_
        refine ev_min ml_RX0_74 dX0_leastSum_63 (by decide) (Nat.le_of_ble_eq_true rfl) ⟨Nat.le_refl _, Nat.le_refl _⟩ ?_
        obtain ⟨v12, hq13, hq4⟩ := ab_bind hq4
        refine ev_nmi (Option.some.inj hq13) ?_
        refine ev_istore (x := v12) dX0_leastSum_66 (Nat.le_of_ble_eq_true rfl) rfl rfl ?_
        cases hq4
        exact hJ5

noncomputable def mi_X0_leastSum (M : ab_M) (x1 : Int32) (x2 : Int32) (x3 : Int32) : Option (Int32) :=
  if x1 = 0 then
    some 0
  else
    (mi_X0_leastSum_13 ab_F M x1 x2 x3 1000000 0).bind fun q14 =>
    some q14.1

set_option maxHeartbeats 4000000 in
set_option maxRecDepth 100000 in
theorem co_X0_leastSum {l : Launch} {D : va_G} {ac : Nat → ClassId} (M : ab_M) (x1 : Int32) (x2 : Int32) (x3 : Int32) (z : Int32) (h : mi_X0_leastSum M x1 x2 x3 = some z) : ab_Con l D ac 2 me_X0_leastSum 0 0 [.ref 31, .int x1, .int x2, .int x3] ab_SH M (some (.int z), ab_SH, M) := by
  refine ab_intro (lv := [some (.ref 31), some (.int x1), some (.int x2), some (.int x3), none, none]) (by decide) rfl (Nat.le_of_ble_eq_true rfl) rfl ?_
  unfold mi_X0_leastSum at h
  refine ev_iload_n dX0_leastSum_0 rfl ?_
  refine ev_if_ne (t := 6) dX0_leastSum_1 (by decide) (fun hc1 => ?_) (fun hc1 => ?_)
  · replace h := ab_neg hc1 h
    refine ev_ldc kw_RX0_73 dX0_leastSum_6 ?_
    refine ev_istore dX0_leastSum_8 (Nat.le_of_ble_eq_true rfl) rfl rfl ?_
    refine ev_iconst (x := 0) dX0_leastSum_10 (by decide) ?_
    refine ev_istore dX0_leastSum_11 (Nat.le_of_ble_eq_true rfl) rfl rfl ?_
    obtain ⟨q14, hq15, h⟩ := ab_bind h
    refine lp_X0_leastSum_13 _ M x1 x2 x3 1000000 0 _ hq15 ?_
    refine ev_iload dX0_leastSum_74 rfl ?_
    cases h
    exact ev_ireturn rfl dX0_leastSum_76
  · replace h := ab_pos hc1 h
    refine ev_iconst (x := 0) dX0_leastSum_4 (by decide) ?_
    cases h
    exact ev_ireturn rfl dX0_leastSum_5

noncomputable def mi_X0_sumUp_2 : Nat → ab_M → Int32 → Int32 → Int32 → Option (Int32 × ab_M)
  | 0, _, _, _, _ => none
  | n + 1, M, x1, x2, x3 =>
    if x2 < x3 then
      some (x3, M)
    else
      ((if ((ab_ushr x1 x3) &&& 1) = 0 then
        some M
      else
        (mi_X0_leastSum M (x1 &&& (((1 : Int32) <<< (x3 &&& 31)) ^^^ (-1))) x3 x2).bind fun q6 =>
        ab_chk (vp_in ((x1 * 6) + x3) 384) <|
        some (ab_pi M 32 ((x1 * 6) + x3).toNatClampNeg q6)) : Option (ab_M)).bind fun q2 =>
      mi_X0_sumUp_2 n q2 x1 x2 (x3 + 1)

set_option maxHeartbeats 4000000 in
set_option maxRecDepth 100000 in
theorem lp_X0_sumUp_2 {l : Launch} {D : va_G} {ac : Nat → ClassId} {n0 : Nat} {r : ab_Rs} : ∀ (n : Nat) (M : ab_M) (x1 : Int32) (x2 : Int32) (x3 : Int32) (q : Int32 × ab_M) (h : mi_X0_sumUp_2 n M x1 x2 x3 = some q) (kk : ab_Ev l D ac 3 me_X0_sumUp n0 0 0 r 0 0 ab_SH 45 [some (.ref 31), some (.int x1), some (.int x2), some (.int q.1)] [] q.2), ab_Ev l D ac 3 me_X0_sumUp n0 0 0 r 0 0 ab_SH 2 [some (.ref 31), some (.int x1), some (.int x2), some (.int x3)] [] M := by
  intro n
  induction n with
  | zero =>
    intro M x1 x2 x3 q h kk
    cases h
  | succ n ih =>
    intro M x1 x2 x3 q h kk
    unfold mi_X0_sumUp_2 at h
    refine ev_iload_n dX0_sumUp_2 rfl ?_
    refine ev_iload_n dX0_sumUp_3 rfl ?_
    refine ev_icmp_gt (t := 45) dX0_sumUp_4 (by decide) (fun hc1 => ?_) (fun hc1 => ?_)
    · replace h := ab_pos hc1 h
      cases h
      exact kk
    · replace h := ab_neg hc1 h
      refine ev_iload_n dX0_sumUp_7 rfl ?_
      refine ev_iload_n dX0_sumUp_8 rfl ?_
      refine ev_iushr dX0_sumUp_9 ?_
      refine ev_iconst (x := 1) dX0_sumUp_10 (by decide) ?_
      refine ev_iand dX0_sumUp_11 ?_
      obtain ⟨q2, hq3, h⟩ := ab_bind h
      have hJ4 : ab_Ev l D ac 3 me_X0_sumUp n0 0 0 r 0 0 ab_SH 39 [some (.ref 31), some (.int x1), some (.int x2), some (.int x3)] [] q2 := by
        refine ev_iinc (y := x3 + 1) dX0_sumUp_39 rfl (by first | rfl | decide) rfl rfl ?_
        refine ev_goto (t := 2) dX0_sumUp_42 (by decide) ?_
        exact ih q2 x1 x2 (x3 + 1) _ h kk
      refine ev_if_eq (t := 39) dX0_sumUp_12 (by decide) (fun hc5 => ?_) (fun hc5 => ?_)
      · replace hq3 := ab_pos hc5 hq3
        cases hq3
        exact hJ4
      · replace hq3 := ab_neg hc5 hq3
        refine ev_aload_n dX0_sumUp_15 rfl ?_
        refine ev_getr (o' := 32) fl_RX0_9 sh_31 (by decide) (by decide) rfl rfl dX0_sumUp_16 ?_
        refine ev_iload_n dX0_sumUp_19 rfl ?_
        refine ev_bipush (x := 6) dX0_sumUp_20 (by decide) ?_
        refine ev_imul dX0_sumUp_22 ?_
        refine ev_iload_n dX0_sumUp_23 rfl ?_
        refine ev_iadd dX0_sumUp_24 ?_
        refine ev_aload_n dX0_sumUp_25 rfl ?_
        refine ev_iload_n dX0_sumUp_26 rfl ?_
        refine ev_iconst (x := 1) dX0_sumUp_27 (by decide) ?_
        refine ev_iload_n dX0_sumUp_28 rfl ?_
        refine ev_ishl dX0_sumUp_29 ?_
        refine ev_iconst (x := (-1)) dX0_sumUp_30 (by decide) ?_
        refine ev_ixor dX0_sumUp_31 ?_
        refine ev_iand dX0_sumUp_32 ?_
        refine ev_iload_n dX0_sumUp_33 rfl ?_
        refine ev_iload_n dX0_sumUp_34 rfl ?_
        obtain ⟨q6, hv7, hq3⟩ := ab_bind hq3
        refine ev_callV (st := [.int ((x1 * 6) + x3), .ref 32]) (co_X0_leastSum M (x1 &&& (((1 : Int32) <<< (x3 &&& 31)) ^^^ (-1))) x3 x2 _ hv7) mv_X0_leastSum sh_31 ml_RX0_69 dX0_sumUp_35 (by decide) rfl (Nat.le_of_ble_eq_true rfl) ⟨Nat.le_refl _, Nat.le_refl _⟩ ?_
        obtain ⟨hb8, hq3⟩ := ab_chk_some hq3
        refine ev_iastore sh_32 hb8 dX0_sumUp_38 ?_
        cases hq3
        exact hJ4

noncomputable def mi_X0_sumUp (M : ab_M) (x1 : Int32) (x2 : Int32) : Option (ab_M) :=
  (mi_X0_sumUp_2 ab_F M x1 x2 0).bind fun q9 =>
  some q9.2

set_option maxHeartbeats 4000000 in
set_option maxRecDepth 100000 in
theorem co_X0_sumUp {l : Launch} {D : va_G} {ac : Nat → ClassId} (M : ab_M) (x1 : Int32) (x2 : Int32) (z : ab_M) (h : mi_X0_sumUp M x1 x2 = some z) : ab_Con l D ac 3 me_X0_sumUp 0 0 [.ref 31, .int x1, .int x2] ab_SH M (none, ab_SH, z) := by
  refine ab_intro (lv := [some (.ref 31), some (.int x1), some (.int x2), none]) (by decide) rfl (Nat.le_of_ble_eq_true rfl) rfl ?_
  unfold mi_X0_sumUp at h
  refine ev_iconst (x := 0) dX0_sumUp_0 (by decide) ?_
  refine ev_istore_n dX0_sumUp_1 (Nat.le_of_ble_eq_true rfl) rfl rfl ?_
  obtain ⟨q9, hq10, h⟩ := ab_bind h
  refine lp_X0_sumUp_2 _ M x1 x2 0 _ hq10 ?_
  cases h
  exact ev_return rfl dX0_sumUp_45

noncomputable def mi_X0_seat_40 : Nat → ab_M → Int32 → Int32 → Int32 → Int32 → Option (Int32 × ab_M)
  | 0, _, _, _, _, _ => none
  | n + 1, M, x1, x3, x4, x5 =>
    if ((2 : Int32) <<< (x3 &&& 31)) ≤ x5 then
      some (x5, M)
    else
      (mi_X0_sumUp M x5 x3).bind fun q6 =>
      mi_X0_seat_40 n q6 x1 x3 x4 (x5 + 1)

set_option maxHeartbeats 4000000 in
set_option maxRecDepth 100000 in
theorem lp_X0_seat_40 {l : Launch} {D : va_G} {ac : Nat → ClassId} {n0 : Nat} {r : ab_Rs} : ∀ (n : Nat) (M : ab_M) (x1 : Int32) (x3 : Int32) (x4 : Int32) (x5 : Int32) (q : Int32 × ab_M) (h : mi_X0_seat_40 n M x1 x3 x4 x5 = some q) (kk : ab_Ev l D ac 4 me_X0_seat n0 0 0 r 0 0 ab_SH 61 [some (.ref 31), some (.int x1), none, some (.int x3), some (.int x4), some (.int q.1)] [] q.2), ab_Ev l D ac 4 me_X0_seat n0 0 0 r 0 0 ab_SH 40 [some (.ref 31), some (.int x1), none, some (.int x3), some (.int x4), some (.int x5)] [] M := by
  intro n
  induction n with
  | zero =>
    intro M x1 x3 x4 x5 q h kk
    cases h
  | succ n ih =>
    intro M x1 x3 x4 x5 q h kk
    unfold mi_X0_seat_40 at h
    refine ev_iload dX0_seat_40 rfl ?_
    refine ev_iconst (x := 2) dX0_seat_42 (by decide) ?_
    refine ev_iload_n dX0_seat_43 rfl ?_
    refine ev_ishl dX0_seat_44 ?_
    refine ev_icmp_ge (t := 61) dX0_seat_45 (by decide) (fun hc5 => ?_) (fun hc5 => ?_)
    · replace h := ab_pos hc5 h
      cases h
      exact kk
    · replace h := ab_neg hc5 h
      refine ev_aload_n dX0_seat_48 rfl ?_
      refine ev_iload dX0_seat_49 rfl ?_
      refine ev_iload_n dX0_seat_51 rfl ?_
      obtain ⟨q6, hv7, h⟩ := ab_bind h
      refine ev_callV (st := []) (co_X0_sumUp M x5 x3 _ hv7) mv_X0_sumUp sh_31 ml_RX0_66 dX0_seat_52 (by decide) rfl (Nat.le_of_ble_eq_true rfl) ⟨Nat.le_refl _, Nat.le_refl _⟩ ?_
      refine ev_iinc (y := x5 + 1) dX0_seat_55 rfl (by first | rfl | decide) rfl rfl ?_
      refine ev_goto (t := 40) dX0_seat_58 (by decide) ?_
      exact ih q6 x1 x3 x4 (x5 + 1) _ h kk

noncomputable def mi_X0_seat_5 : Nat → ab_M → Int32 → Int32 → Int32 → Option (Int32 × Int32 × ab_M)
  | 0, _, _, _, _ => none
  | n + 1, M, x1, x3, x4 =>
    ab_chk (vp_in x1 12) <|
    if (M.1 (12 + (x1).toNatClampNeg) 5) ≤ x4 then
      some (x3, x4, M)
    else
      if 6 ≤ x3 then
        some (x3, x4, M)
      else
        ab_chk (vp_in x3 6) <|
        (mi_X0_seat_40 ab_F (ab_pi M 33 (x3).toNatClampNeg x1) x1 x3 x4 ((1 : Int32) <<< (x3 &&& 31))).bind fun q8 =>
        mi_X0_seat_5 n q8.2 x1 (x3 + 1) (x4 + 1)

set_option maxHeartbeats 4000000 in
set_option maxRecDepth 100000 in
theorem lp_X0_seat_5 {l : Launch} {D : va_G} {ac : Nat → ClassId} {n0 : Nat} {r : ab_Rs} : ∀ (n : Nat) (M : ab_M) (x1 : Int32) (x3 : Int32) (x4 : Int32) (q : Int32 × Int32 × ab_M) (h : mi_X0_seat_5 n M x1 x3 x4 = some q) (kk : ab_Ev l D ac 4 me_X0_seat n0 0 0 r 0 0 ab_SH 70 [some (.ref 31), some (.int x1), none, some (.int q.1), some (.int q.2.1), none] [] q.2.2), ab_Ev l D ac 4 me_X0_seat n0 0 0 r 0 0 ab_SH 5 [some (.ref 31), some (.int x1), none, some (.int x3), some (.int x4), none] [] M := by
  intro n
  induction n with
  | zero =>
    intro M x1 x3 x4 q h kk
    cases h
  | succ n ih =>
    intro M x1 x3 x4 q h kk
    unfold mi_X0_seat_5 at h
    refine ev_iload dX0_seat_5 rfl ?_
    refine ev_aload_n dX0_seat_7 rfl ?_
    refine ev_getr (o' := 1) fl_RX0_18 sh_31 (by decide) (by decide) rfl rfl dX0_seat_8 ?_
    refine ev_getr (o' := 2) fl_RX0_36 sh_1 (by decide) (by decide) rfl rfl dX0_seat_11 ?_
    refine ev_iload_n dX0_seat_14 rfl ?_
    obtain ⟨hb1, h⟩ := ab_chk_some h
    refine ev_aaload sh_2 (Or.inl rfl) hb1 (rf_mast hb1) dX0_seat_15 ?_
    refine ev_geti fl_RX0_40 (sh_mast hb1) (by decide) (by decide) rfl dX0_seat_16 ?_
    refine ev_icmp_ge (t := 70) dX0_seat_19 (by decide) (fun hc2 => ?_) (fun hc2 => ?_)
    · replace h := ab_pos hc2 h
      cases h
      exact kk
    · replace h := ab_neg hc2 h
      refine ev_iload_n dX0_seat_22 rfl ?_
      refine ev_bipush (x := 6) dX0_seat_23 (by decide) ?_
      refine ev_icmp_ge (t := 70) dX0_seat_25 (by decide) (fun hc3 => ?_) (fun hc3 => ?_)
      · replace h := ab_pos hc3 h
        cases h
        exact kk
      · replace h := ab_neg hc3 h
        refine ev_aload_n dX0_seat_28 rfl ?_
        refine ev_getr (o' := 33) fl_RX0_15 sh_31 (by decide) (by decide) rfl rfl dX0_seat_29 ?_
        refine ev_iload_n dX0_seat_32 rfl ?_
        refine ev_iload_n dX0_seat_33 rfl ?_
        obtain ⟨hb4, h⟩ := ab_chk_some h
        refine ev_iastore sh_33 hb4 dX0_seat_34 ?_
        refine ev_iconst (x := 1) dX0_seat_35 (by decide) ?_
        refine ev_iload_n dX0_seat_36 rfl ?_
        refine ev_ishl dX0_seat_37 ?_
        refine ev_istore dX0_seat_38 (Nat.le_of_ble_eq_true rfl) rfl rfl ?_
        obtain ⟨q8, hq9, h⟩ := ab_bind h
        refine lp_X0_seat_40 _ (ab_pi M 33 (x3).toNatClampNeg x1) x1 x3 x4 ((1 : Int32) <<< (x3 &&& 31)) _ hq9 ?_
        refine ev_iinc (y := x3 + 1) dX0_seat_61 rfl (by first | rfl | decide) rfl rfl ?_
        refine ev_iinc (y := x4 + 1) dX0_seat_64 rfl (by first | rfl | decide) rfl rfl ?_
        refine ev_goto (t := 5) dX0_seat_67 (by decide) ?_
        refine ev_drop (lv' := [some (.ref 31), some (.int x1), none, some (.int (x3 + 1)), some (.int (x4 + 1)), none]) (ab_sub_k (ab_sub_k (ab_sub_k (ab_sub_k (ab_sub_k (ab_sub_d ab_sub_nil)))))) ?_
        exact ih q8.2 x1 (x3 + 1) (x4 + 1) _ h kk

noncomputable def mi_X0_seat (M : ab_M) (x1 : Int32) (x2 : Int32) : Option (Int32 × ab_M) :=
  (mi_X0_seat_5 ab_F M x1 x2 0).bind fun q10 =>
  some (q10.1, q10.2.2)

set_option maxHeartbeats 4000000 in
set_option maxRecDepth 100000 in
theorem co_X0_seat {l : Launch} {D : va_G} {ac : Nat → ClassId} (M : ab_M) (x1 : Int32) (x2 : Int32) (z : Int32 × ab_M) (h : mi_X0_seat M x1 x2 = some z) : ab_Con l D ac 4 me_X0_seat 0 0 [.ref 31, .int x1, .int x2] ab_SH M (some (.int z.1), ab_SH, z.2) := by
  refine ab_intro (lv := [some (.ref 31), some (.int x1), some (.int x2), none, none, none]) (by decide) rfl (Nat.le_of_ble_eq_true rfl) rfl ?_
  unfold mi_X0_seat at h
  refine ev_iload_n dX0_seat_0 rfl ?_
  refine ev_istore_n dX0_seat_1 (Nat.le_of_ble_eq_true rfl) rfl rfl ?_
  refine ev_iconst (x := 0) dX0_seat_2 (by decide) ?_
  refine ev_istore dX0_seat_3 (Nat.le_of_ble_eq_true rfl) rfl rfl ?_
  obtain ⟨q10, hq11, h⟩ := ab_bind h
  refine ev_drop (lv' := [some (.ref 31), some (.int x1), none, some (.int x2), some (.int 0), none]) (ab_sub_k (ab_sub_k (ab_sub_d (ab_sub_k (ab_sub_k (ab_sub_k ab_sub_nil)))))) ?_
  refine lp_X0_seat_5 _ M x1 x2 0 _ hq11 ?_
  refine ev_iload_n dX0_seat_70 rfl ?_
  cases h
  exact ev_ireturn rfl dX0_seat_71

noncomputable def mi_X0_boundOfSeated_12 : Nat → ab_M → Int32 → Int32 → Int32 → Int32 → Option (Int32 × Int32)
  | 0, _, _, _, _, _ => none
  | n + 1, M, x1, x2, x3, x4 =>
    if x1 ≤ x4 then
      some (x3, x4)
    else
      ab_chk (vp_in ((x2 * 6) + x4) 384) <|
      mi_X0_boundOfSeated_12 n M x1 x2 (ab_min x3 (M.1 32 ((x2 * 6) + x4).toNatClampNeg)) (x4 + 1)

set_option maxHeartbeats 4000000 in
set_option maxRecDepth 100000 in
theorem lp_X0_boundOfSeated_12 {l : Launch} {D : va_G} {ac : Nat → ClassId} {n0 : Nat} {r : ab_Rs} : ∀ (n : Nat) (M : ab_M) (x1 : Int32) (x2 : Int32) (x3 : Int32) (x4 : Int32) (q : Int32 × Int32) (h : mi_X0_boundOfSeated_12 n M x1 x2 x3 x4 = some q) (kk : ab_Ev l D ac 2 me_X0_boundOfSeated n0 0 0 r 0 0 ab_SH 41 [some (.ref 31), some (.int x1), some (.int x2), some (.int q.1), some (.int q.2)] [] M), ab_Ev l D ac 2 me_X0_boundOfSeated n0 0 0 r 0 0 ab_SH 12 [some (.ref 31), some (.int x1), some (.int x2), some (.int x3), some (.int x4)] [] M := by
  intro n
  induction n with
  | zero =>
    intro M x1 x2 x3 x4 q h kk
    cases h
  | succ n ih =>
    intro M x1 x2 x3 x4 q h kk
    unfold mi_X0_boundOfSeated_12 at h
    refine ev_iload dX0_boundOfSeated_12 rfl ?_
    refine ev_iload_n dX0_boundOfSeated_14 rfl ?_
    refine ev_icmp_ge (t := 41) dX0_boundOfSeated_15 (by decide) (fun hc1 => ?_) (fun hc1 => ?_)
    · replace h := ab_pos hc1 h
      cases h
      exact kk
    · replace h := ab_neg hc1 h
      refine ev_iload_n dX0_boundOfSeated_18 rfl ?_
      refine ev_aload_n dX0_boundOfSeated_19 rfl ?_
      refine ev_getr (o' := 32) fl_RX0_9 sh_31 (by decide) (by decide) rfl rfl dX0_boundOfSeated_20 ?_
      refine ev_iload_n dX0_boundOfSeated_23 rfl ?_
      refine ev_bipush (x := 6) dX0_boundOfSeated_24 (by decide) ?_
      refine ev_imul dX0_boundOfSeated_26 ?_
      refine ev_iload dX0_boundOfSeated_27 rfl ?_
      refine ev_iadd dX0_boundOfSeated_29 ?_
      obtain ⟨hb2, h⟩ := ab_chk_some h
      refine ev_iaload sh_32 hb2 dX0_boundOfSeated_30 ?_
      refine ev_min ml_RX0_74 dX0_boundOfSeated_31 (by decide) (Nat.le_of_ble_eq_true rfl) ⟨Nat.le_refl _, Nat.le_refl _⟩ ?_
      refine ev_istore_n dX0_boundOfSeated_34 (Nat.le_of_ble_eq_true rfl) rfl rfl ?_
      refine ev_iinc (y := x4 + 1) dX0_boundOfSeated_35 rfl (by first | rfl | decide) rfl rfl ?_
      refine ev_goto (t := 12) dX0_boundOfSeated_38 (by decide) ?_
      exact ih M x1 x2 (ab_min x3 (M.1 32 ((x2 * 6) + x4).toNatClampNeg)) (x4 + 1) _ h kk

noncomputable def mi_X0_boundOfSeated (M : ab_M) (x1 : Int32) : Option (Int32) :=
  (mi_X0_boundOfSeated_12 ab_F M x1 (((1 : Int32) <<< (x1 &&& 31)) - 1) 1000000 0).bind fun q3 =>
  some q3.1

set_option maxHeartbeats 4000000 in
set_option maxRecDepth 100000 in
theorem co_X0_boundOfSeated {l : Launch} {D : va_G} {ac : Nat → ClassId} (M : ab_M) (x1 : Int32) (z : Int32) (h : mi_X0_boundOfSeated M x1 = some z) : ab_Con l D ac 2 me_X0_boundOfSeated 0 0 [.ref 31, .int x1] ab_SH M (some (.int z), ab_SH, M) := by
  refine ab_intro (lv := [some (.ref 31), some (.int x1), none, none, none]) (by decide) rfl (Nat.le_of_ble_eq_true rfl) rfl ?_
  unfold mi_X0_boundOfSeated at h
  refine ev_iconst (x := 1) dX0_boundOfSeated_0 (by decide) ?_
  refine ev_iload_n dX0_boundOfSeated_1 rfl ?_
  refine ev_ishl dX0_boundOfSeated_2 ?_
  refine ev_iconst (x := 1) dX0_boundOfSeated_3 (by decide) ?_
  refine ev_isub dX0_boundOfSeated_4 ?_
  refine ev_istore_n dX0_boundOfSeated_5 (Nat.le_of_ble_eq_true rfl) rfl rfl ?_
  refine ev_ldc kw_RX0_73 dX0_boundOfSeated_6 ?_
  refine ev_istore_n dX0_boundOfSeated_8 (Nat.le_of_ble_eq_true rfl) rfl rfl ?_
  refine ev_iconst (x := 0) dX0_boundOfSeated_9 (by decide) ?_
  refine ev_istore dX0_boundOfSeated_10 (Nat.le_of_ble_eq_true rfl) rfl rfl ?_
  obtain ⟨q3, hq4, h⟩ := ab_bind h
  refine lp_X0_boundOfSeated_12 _ M x1 (((1 : Int32) <<< (x1 &&& 31)) - 1) 1000000 0 _ hq4 ?_
  refine ev_iload_n dX0_boundOfSeated_41 rfl ?_
  cases h
  exact ev_ireturn rfl dX0_boundOfSeated_42

noncomputable def mi_X0_boundOf_4 : Nat → ab_M → Int32 → Int32 → Int32 → Option (Int32 × Int32 × ab_M)
  | 0, _, _, _, _ => none
  | n + 1, M, x1, x2, x3 =>
    if (M.1 1 7) ≤ x3 then
      some (x2, x3, M)
    else
      ((if ((ab_ushr x1 x3) &&& 1) = 0 then
        some (x2, M)
      else
        (mi_X0_seat M x3 x2).bind fun q6 =>
        some (q6.1, q6.2)) : Option (Int32 × ab_M)).bind fun q2 =>
      mi_X0_boundOf_4 n q2.2 x1 q2.1 (x3 + 1)

set_option maxHeartbeats 4000000 in
set_option maxRecDepth 100000 in
theorem lp_X0_boundOf_4 {l : Launch} {D : va_G} {ac : Nat → ClassId} {n0 : Nat} {r : ab_Rs} : ∀ (n : Nat) (M : ab_M) (x1 : Int32) (x2 : Int32) (x3 : Int32) (q : Int32 × Int32 × ab_M) (h : mi_X0_boundOf_4 n M x1 x2 x3 = some q) (kk : ab_Ev l D ac 5 me_X0_boundOf n0 0 0 r 0 0 ab_SH 36 [some (.ref 31), some (.int x1), some (.int q.1), some (.int q.2.1)] [] q.2.2), ab_Ev l D ac 5 me_X0_boundOf n0 0 0 r 0 0 ab_SH 4 [some (.ref 31), some (.int x1), some (.int x2), some (.int x3)] [] M := by
  intro n
  induction n with
  | zero =>
    intro M x1 x2 x3 q h kk
    cases h
  | succ n ih =>
    intro M x1 x2 x3 q h kk
    unfold mi_X0_boundOf_4 at h
    refine ev_iload_n dX0_boundOf_4 rfl ?_
    refine ev_aload_n dX0_boundOf_5 rfl ?_
    refine ev_getr (o' := 1) fl_RX0_18 sh_31 (by decide) (by decide) rfl rfl dX0_boundOf_6 ?_
    refine ev_geti fl_RX0_22 sh_1 (by decide) (by decide) rfl dX0_boundOf_9 ?_
    refine ev_icmp_ge (t := 36) dX0_boundOf_12 (by decide) (fun hc1 => ?_) (fun hc1 => ?_)
    · replace h := ab_pos hc1 h
      cases h
      exact kk
    · replace h := ab_neg hc1 h
      refine ev_iload_n dX0_boundOf_15 rfl ?_
      refine ev_iload_n dX0_boundOf_16 rfl ?_
      refine ev_iushr dX0_boundOf_17 ?_
      refine ev_iconst (x := 1) dX0_boundOf_18 (by decide) ?_
      refine ev_iand dX0_boundOf_19 ?_
      obtain ⟨q2, hq3, h⟩ := ab_bind h
      have hJ4 : ab_Ev l D ac 5 me_X0_boundOf n0 0 0 r 0 0 ab_SH 30 [some (.ref 31), some (.int x1), some (.int q2.1), some (.int x3)] [] q2.2 := by
        refine ev_iinc (y := x3 + 1) dX0_boundOf_30 rfl (by first | rfl | decide) rfl rfl ?_
        refine ev_goto (t := 4) dX0_boundOf_33 (by decide) ?_
        exact ih q2.2 x1 q2.1 (x3 + 1) _ h kk
      refine ev_if_eq (t := 30) dX0_boundOf_20 (by decide) (fun hc5 => ?_) (fun hc5 => ?_)
      · replace hq3 := ab_pos hc5 hq3
        cases hq3
        exact hJ4
      · replace hq3 := ab_neg hc5 hq3
        refine ev_aload_n dX0_boundOf_23 rfl ?_
        refine ev_iload_n dX0_boundOf_24 rfl ?_
        refine ev_iload_n dX0_boundOf_25 rfl ?_
        obtain ⟨q6, hv7, hq3⟩ := ab_bind hq3
        refine ev_callV (st := []) (co_X0_seat M x3 x2 _ hv7) mv_X0_seat sh_31 ml_RX0_45 dX0_boundOf_26 (by decide) rfl (Nat.le_of_ble_eq_true rfl) ⟨Nat.le_refl _, Nat.le_refl _⟩ ?_
        refine ev_istore_n dX0_boundOf_29 (Nat.le_of_ble_eq_true rfl) rfl rfl ?_
        cases hq3
        exact hJ4

noncomputable def mi_X0_boundOf (M : ab_M) (x1 : Int32) : Option (Int32 × ab_M) :=
  (mi_X0_boundOf_4 ab_F M x1 0 0).bind fun q8 =>
  (mi_X0_boundOfSeated q8.2.2 q8.1).bind fun q10 =>
  some (q10, q8.2.2)

set_option maxHeartbeats 4000000 in
set_option maxRecDepth 100000 in
theorem co_X0_boundOf {l : Launch} {D : va_G} {ac : Nat → ClassId} (M : ab_M) (x1 : Int32) (z : Int32 × ab_M) (h : mi_X0_boundOf M x1 = some z) : ab_Con l D ac 5 me_X0_boundOf 0 0 [.ref 31, .int x1] ab_SH M (some (.int z.1), ab_SH, z.2) := by
  refine ab_intro (lv := [some (.ref 31), some (.int x1), none, none]) (by decide) rfl (Nat.le_of_ble_eq_true rfl) rfl ?_
  unfold mi_X0_boundOf at h
  refine ev_iconst (x := 0) dX0_boundOf_0 (by decide) ?_
  refine ev_istore_n dX0_boundOf_1 (Nat.le_of_ble_eq_true rfl) rfl rfl ?_
  refine ev_iconst (x := 0) dX0_boundOf_2 (by decide) ?_
  refine ev_istore_n dX0_boundOf_3 (Nat.le_of_ble_eq_true rfl) rfl rfl ?_
  obtain ⟨q8, hq9, h⟩ := ab_bind h
  refine lp_X0_boundOf_4 _ M x1 0 0 _ hq9 ?_
  refine ev_aload_n dX0_boundOf_36 rfl ?_
  refine ev_iload_n dX0_boundOf_37 rfl ?_
  obtain ⟨q10, hv11, h⟩ := ab_bind h
  refine ev_callV (st := []) (co_X0_boundOfSeated q8.2.2 q8.1 _ hv11) mv_X0_boundOfSeated sh_31 ml_RX0_48 dX0_boundOf_38 (by decide) rfl (Nat.le_of_ble_eq_true rfl) ⟨Nat.le_refl _, Nat.le_refl _⟩ ?_
  cases h
  exact ev_ireturn rfl dX0_boundOf_41

noncomputable def mi_X0_consider (M : ab_M) (x1 : Int32) (x2 : Int32) : Option (ab_M) :=
  if (M.1 31 4) < x2 then
    some (ab_pi (ab_pi M 31 4 x2) 31 3 x1)
  else
    if x2 = (M.1 31 4) then
      if (M.1 31 3) ≤ x1 then
        some M
      else
        some (ab_pi (ab_pi M 31 4 x2) 31 3 x1)
    else
      some M

set_option maxHeartbeats 4000000 in
set_option maxRecDepth 100000 in
theorem co_X0_consider {l : Launch} {D : va_G} {ac : Nat → ClassId} (M : ab_M) (x1 : Int32) (x2 : Int32) (z : ab_M) (h : mi_X0_consider M x1 x2 = some z) : ab_Con l D ac 1 me_X0_consider 0 0 [.ref 31, .int x1, .int x2] ab_SH M (none, ab_SH, z) := by
  refine ab_intro (lv := [some (.ref 31), some (.int x1), some (.int x2)]) (by decide) rfl (Nat.le_of_ble_eq_true rfl) rfl ?_
  unfold mi_X0_consider at h
  refine ev_iload_n dX0_consider_0 rfl ?_
  refine ev_aload_n dX0_consider_1 rfl ?_
  refine ev_geti fl_RX0_55 sh_31 (by decide) (by decide) rfl dX0_consider_2 ?_
  refine ev_icmp_gt (t := 24) dX0_consider_5 (by decide) (fun hc1 => ?_) (fun hc1 => ?_)
  · replace h := ab_pos hc1 h
    refine ev_aload_n dX0_consider_24 rfl ?_
    refine ev_iload_n dX0_consider_25 rfl ?_
    refine ev_puti fl_RX0_55 sh_31 (by decide) (by decide) rfl rfl rfl dX0_consider_26 ?_
    refine ev_aload_n dX0_consider_29 rfl ?_
    refine ev_iload_n dX0_consider_30 rfl ?_
    refine ev_puti fl_RX0_52 sh_31 (by decide) (by decide) rfl rfl rfl dX0_consider_31 ?_
    cases h
    exact ev_return rfl dX0_consider_34
  · replace h := ab_neg hc1 h
    refine ev_iload_n dX0_consider_8 rfl ?_
    refine ev_aload_n dX0_consider_9 rfl ?_
    refine ev_geti fl_RX0_55 sh_31 (by decide) (by decide) rfl dX0_consider_10 ?_
    refine ev_icmp_ne (t := 34) dX0_consider_13 (by decide) (fun hc2 => ?_) (fun hc2 => ?_)
    · replace h := ab_neg hc2 h
      cases h
      exact ev_return rfl dX0_consider_34
    · replace h := ab_pos hc2 h
      refine ev_iload_n dX0_consider_16 rfl ?_
      refine ev_aload_n dX0_consider_17 rfl ?_
      refine ev_geti fl_RX0_52 sh_31 (by decide) (by decide) rfl dX0_consider_18 ?_
      refine ev_icmp_ge (t := 34) dX0_consider_21 (by decide) (fun hc3 => ?_) (fun hc3 => ?_)
      · replace h := ab_pos hc3 h
        cases h
        exact ev_return rfl dX0_consider_34
      · replace h := ab_neg hc3 h
        refine ev_aload_n dX0_consider_24 rfl ?_
        refine ev_iload_n dX0_consider_25 rfl ?_
        refine ev_puti fl_RX0_55 sh_31 (by decide) (by decide) rfl rfl rfl dX0_consider_26 ?_
        refine ev_aload_n dX0_consider_29 rfl ?_
        refine ev_iload_n dX0_consider_30 rfl ?_
        refine ev_puti fl_RX0_52 sh_31 (by decide) (by decide) rfl rfl rfl dX0_consider_31 ?_
        cases h
        exact ev_return rfl dX0_consider_34

noncomputable def mi_X0_grow_3 (g : ab_M → Int32 → Int32 → Int32 → Option (ab_M)) : Nat → ab_M → Int32 → Int32 → Int32 → Option (Int32 × ab_M)
  | 0, _, _, _, _ => none
  | n + 1, M, x1, x3, x4 =>
    if (M.1 1 7) ≤ x4 then
      some (x4, M)
    else
      ab_chk (vp_in x4 12) <|
      ((if 6 < (x3 + (M.1 (12 + (x4).toNatClampNeg) 5)) then
        some M
      else
        (mi_X0_barsAll M x4 x1).bind fun q7 =>
        if q7 = 0 then
          some M
        else
          (mi_X0_seat M x4 x3).bind fun q10 =>
          (mi_X0_boundOfSeated q10.2 q10.1).bind fun q12 =>
          (mi_X0_consider q10.2 (x1 ||| ((1 : Int32) <<< (x4 &&& 31))) q12).bind fun q14 =>
          (g q14 (x1 ||| ((1 : Int32) <<< (x4 &&& 31))) (x4 + 1) q10.1).bind fun q16 =>
          some q16) : Option (ab_M)).bind fun q3 =>
      mi_X0_grow_3 g n q3 x1 x3 (x4 + 1)

set_option maxHeartbeats 4000000 in
set_option maxRecDepth 100000 in
theorem lp_X0_grow_3 {l : Launch} {D : va_G} {ac : Nat → ClassId} {n0 : Nat} {r : ab_Rs} {dn : Nat} (g : ab_M → Int32 → Int32 → Int32 → Option (ab_M)) (hg : ∀ (M : ab_M) (x1 : Int32) (x2 : Int32) (x3 : Int32) (z : ab_M), g M x1 x2 x3 = some z → ab_Con l D ac dn me_X0_grow 0 0 [.ref 31, .int x1, .int x2, .int x3] ab_SH M (none, ab_SH, z)) (hdn : 4 ≤ dn) : ∀ (n : Nat) (M : ab_M) (x1 : Int32) (x3 : Int32) (x4 : Int32) (q : Int32 × ab_M) (h : mi_X0_grow_3 g n M x1 x3 x4 = some q) (kk : ab_Ev l D ac (dn + 1) me_X0_grow n0 0 0 r 0 0 ab_SH 95 [some (.ref 31), some (.int x1), none, some (.int x3), some (.int q.1), none, none] [] q.2), ab_Ev l D ac (dn + 1) me_X0_grow n0 0 0 r 0 0 ab_SH 3 [some (.ref 31), some (.int x1), none, some (.int x3), some (.int x4), none, none] [] M := by
  intro n
  induction n with
  | zero =>
    intro M x1 x3 x4 q h kk
    cases h
  | succ n ih =>
    intro M x1 x3 x4 q h kk
    unfold mi_X0_grow_3 at h
    refine ev_iload dX0_grow_3 rfl ?_
    refine ev_aload_n dX0_grow_5 rfl ?_
    refine ev_getr (o' := 1) fl_RX0_18 sh_31 (by decide) (by decide) rfl rfl dX0_grow_6 ?_
    refine ev_geti fl_RX0_22 sh_1 (by decide) (by decide) rfl dX0_grow_9 ?_
    refine ev_icmp_ge (t := 95) dX0_grow_12 (by decide) (fun hc1 => ?_) (fun hc1 => ?_)
    · replace h := ab_pos hc1 h
      cases h
      exact kk
    · replace h := ab_neg hc1 h
      refine ev_iload_n dX0_grow_15 rfl ?_
      refine ev_aload_n dX0_grow_16 rfl ?_
      refine ev_getr (o' := 1) fl_RX0_18 sh_31 (by decide) (by decide) rfl rfl dX0_grow_17 ?_
      refine ev_getr (o' := 2) fl_RX0_36 sh_1 (by decide) (by decide) rfl rfl dX0_grow_20 ?_
      refine ev_iload dX0_grow_23 rfl ?_
      obtain ⟨hb2, h⟩ := ab_chk_some h
      refine ev_aaload sh_2 (Or.inl rfl) hb2 (rf_mast hb2) dX0_grow_25 ?_
      refine ev_geti fl_RX0_40 (sh_mast hb2) (by decide) (by decide) rfl dX0_grow_26 ?_
      refine ev_iadd dX0_grow_29 ?_
      refine ev_bipush (x := 6) dX0_grow_30 (by decide) ?_
      obtain ⟨q3, hq4, h⟩ := ab_bind h
      have hJ5 : ab_Ev l D ac (dn + 1) me_X0_grow n0 0 0 r 0 0 ab_SH 89 [some (.ref 31), some (.int x1), none, some (.int x3), some (.int x4), none, none] [] q3 := by
        refine ev_iinc (y := x4 + 1) dX0_grow_89 rfl (by first | rfl | decide) rfl rfl ?_
        refine ev_goto (t := 3) dX0_grow_92 (by decide) ?_
        exact ih q3 x1 x3 (x4 + 1) _ h kk
      refine ev_icmp_gt (t := 89) dX0_grow_32 (by decide) (fun hc6 => ?_) (fun hc6 => ?_)
      · replace hq4 := ab_pos hc6 hq4
        cases hq4
        exact hJ5
      · replace hq4 := ab_neg hc6 hq4
        refine ev_aload_n dX0_grow_35 rfl ?_
        refine ev_iload dX0_grow_36 rfl ?_
        refine ev_iload_n dX0_grow_38 rfl ?_
        obtain ⟨q7, hv8, hq4⟩ := ab_bind hq4
        refine ev_callV (st := []) (co_X0_barsAll M x4 x1 _ hv8) mv_X0_barsAll sh_31 ml_RX0_28 dX0_grow_39 (by omega) rfl (Nat.le_of_ble_eq_true rfl) ⟨Nat.le_refl _, Nat.le_refl _⟩ ?_
        refine ev_if_ne (t := 48) dX0_grow_42 (by decide) (fun hc9 => ?_) (fun hc9 => ?_)
        · replace hq4 := ab_neg hc9 hq4
          refine ev_iload_n dX0_grow_48 rfl ?_
          refine ev_iconst (x := 1) dX0_grow_49 (by decide) ?_
          refine ev_iload dX0_grow_50 rfl ?_
          refine ev_ishl dX0_grow_52 ?_
          refine ev_ior dX0_grow_53 ?_
          refine ev_istore dX0_grow_54 (Nat.le_of_ble_eq_true rfl) rfl rfl ?_
          refine ev_aload_n dX0_grow_56 rfl ?_
          refine ev_iload dX0_grow_57 rfl ?_
          refine ev_iload_n dX0_grow_59 rfl ?_
          obtain ⟨q10, hv11, hq4⟩ := ab_bind hq4
          refine ev_callV (st := []) (co_X0_seat M x4 x3 _ hv11) mv_X0_seat sh_31 ml_RX0_45 dX0_grow_60 (by omega) rfl (Nat.le_of_ble_eq_true rfl) ⟨Nat.le_refl _, Nat.le_refl _⟩ ?_
          refine ev_istore dX0_grow_63 (Nat.le_of_ble_eq_true rfl) rfl rfl ?_
          refine ev_aload_n dX0_grow_65 rfl ?_
          refine ev_iload dX0_grow_66 rfl ?_
          refine ev_aload_n dX0_grow_68 rfl ?_
          refine ev_iload dX0_grow_69 rfl ?_
          obtain ⟨q12, hv13, hq4⟩ := ab_bind hq4
          refine ev_callV (st := [.int (x1 ||| ((1 : Int32) <<< (x4 &&& 31))), .ref 31]) (co_X0_boundOfSeated q10.2 q10.1 _ hv13) mv_X0_boundOfSeated sh_31 ml_RX0_48 dX0_grow_71 (by omega) rfl (Nat.le_of_ble_eq_true rfl) ⟨Nat.le_refl _, Nat.le_refl _⟩ ?_
          obtain ⟨q14, hv15, hq4⟩ := ab_bind hq4
          refine ev_callV (st := []) (co_X0_consider q10.2 (x1 ||| ((1 : Int32) <<< (x4 &&& 31))) q12 _ hv15) mv_X0_consider sh_31 ml_RX0_62 dX0_grow_74 (by omega) rfl (Nat.le_of_ble_eq_true rfl) ⟨Nat.le_refl _, Nat.le_refl _⟩ ?_
          refine ev_aload_n dX0_grow_77 rfl ?_
          refine ev_iload dX0_grow_78 rfl ?_
          refine ev_iload dX0_grow_80 rfl ?_
          refine ev_iconst (x := 1) dX0_grow_82 (by decide) ?_
          refine ev_iadd dX0_grow_83 ?_
          refine ev_iload dX0_grow_84 rfl ?_
          obtain ⟨q16, hv17, hq4⟩ := ab_bind hq4
          refine ev_callV (st := []) (hg q14 (x1 ||| ((1 : Int32) <<< (x4 &&& 31))) (x4 + 1) q10.1 _ hv17) mv_X0_grow sh_31 ml_RX0_58 dX0_grow_86 (by omega) rfl (Nat.le_of_ble_eq_true rfl) ⟨Nat.le_refl _, Nat.le_refl _⟩ ?_
          cases hq4
          refine ev_drop (lv' := [some (.ref 31), some (.int x1), none, some (.int x3), some (.int x4), none, none]) (ab_sub_k (ab_sub_k (ab_sub_k (ab_sub_k (ab_sub_k (ab_sub_d (ab_sub_d ab_sub_nil))))))) ?_
          exact hJ5
        · replace hq4 := ab_pos hc9 hq4
          refine ev_goto (t := 89) dX0_grow_45 (by decide) ?_
          cases hq4
          exact hJ5

noncomputable def mi_X0_grow : Nat → ab_M → Int32 → Int32 → Int32 → Option (ab_M)
  | 0, _, _, _, _ => none
  | n + 1, M, x1, x2, x3 =>
    (fun g : ab_M → Int32 → Int32 → Int32 → Option (ab_M) =>
    (mi_X0_grow_3 g ab_F M x1 x3 x2).bind fun q18 =>
    some q18.2) (mi_X0_grow n)

set_option maxHeartbeats 4000000 in
set_option maxRecDepth 100000 in
theorem co_X0_grow {l : Launch} {D : va_G} {ac : Nat → ClassId} : ∀ (n : Nat) (M : ab_M) (x1 : Int32) (x2 : Int32) (x3 : Int32) (z : ab_M) (h : mi_X0_grow n M x1 x2 x3 = some z), ab_Con l D ac (n + 4) me_X0_grow 0 0 [.ref 31, .int x1, .int x2, .int x3] ab_SH M (none, ab_SH, z) := by
  intro n
  induction n with
  | zero =>
    intro M x1 x2 x3 z h
    cases h
  | succ n ih =>
    intro M x1 x2 x3 z h
    have h : (fun g : ab_M → Int32 → Int32 → Int32 → Option (ab_M) =>
        (mi_X0_grow_3 g ab_F M x1 x3 x2).bind fun q18 =>
        some q18.2) (mi_X0_grow n) = some z := h
    generalize mi_X0_grow n = g at ih h
    have hg := ih
    have hdn : 4 ≤ n + 4 := by omega
    rw [show n + 1 + 4 = n + 4 + 1 by omega]
    generalize n + 4 = dn at hg hdn ⊢
    refine ab_intro (lv := [some (.ref 31), some (.int x1), some (.int x2), some (.int x3), none, none, none]) (by decide) rfl (Nat.le_of_ble_eq_true rfl) rfl ?_
    dsimp only at h
    refine ev_iload_n dX0_grow_0 rfl ?_
    refine ev_istore dX0_grow_1 (Nat.le_of_ble_eq_true rfl) rfl rfl ?_
    obtain ⟨q18, hq19, h⟩ := ab_bind h
    refine ev_drop (lv' := [some (.ref 31), some (.int x1), none, some (.int x3), some (.int x2), none, none]) (ab_sub_k (ab_sub_k (ab_sub_d (ab_sub_k (ab_sub_k (ab_sub_k (ab_sub_k ab_sub_nil))))))) ?_
    refine lp_X0_grow_3 g hg hdn _ M x1 x3 x2 _ hq19 ?_
    cases h
    exact ev_return rfl dX0_grow_95

noncomputable def mi_X0_greatest (M : ab_M) : Option (Int32 × ab_M) :=
  (mi_X0_grow 7 (ab_pi (ab_pi M 31 3 0) 31 4 (-1)) 0 0 0).bind fun q1 =>
  some (q1.1 31 3, q1)

set_option maxHeartbeats 4000000 in
set_option maxRecDepth 100000 in
theorem co_X0_greatest {l : Launch} {D : va_G} {ac : Nat → ClassId} (M : ab_M) (z : Int32 × ab_M) (h : mi_X0_greatest M = some z) : ab_Con l D ac 12 me_X0_greatest 0 0 [.ref 31] ab_SH M (some (.int z.1), ab_SH, z.2) := by
  refine ab_intro (lv := [some (.ref 31)]) (by decide) rfl (Nat.le_of_ble_eq_true rfl) rfl ?_
  unfold mi_X0_greatest at h
  refine ev_aload_n dX0_greatest_0 rfl ?_
  refine ev_iconst (x := 0) dX0_greatest_1 (by decide) ?_
  refine ev_puti fl_RX0_52 sh_31 (by decide) (by decide) rfl rfl rfl dX0_greatest_2 ?_
  refine ev_aload_n dX0_greatest_5 rfl ?_
  refine ev_iconst (x := (-1)) dX0_greatest_6 (by decide) ?_
  refine ev_puti fl_RX0_55 sh_31 (by decide) (by decide) rfl rfl rfl dX0_greatest_7 ?_
  refine ev_aload_n dX0_greatest_10 rfl ?_
  refine ev_iconst (x := 0) dX0_greatest_11 (by decide) ?_
  refine ev_iconst (x := 0) dX0_greatest_12 (by decide) ?_
  refine ev_iconst (x := 0) dX0_greatest_13 (by decide) ?_
  obtain ⟨q1, hv2, h⟩ := ab_bind h
  refine ev_callV (st := []) (co_X0_grow 7 (ab_pi (ab_pi M 31 3 0) 31 4 (-1)) 0 0 0 _ hv2) mv_X0_grow sh_31 ml_RX0_58 dX0_greatest_14 (by decide) rfl (Nat.le_of_ble_eq_true rfl) ⟨Nat.le_refl _, Nat.le_refl _⟩ ?_
  refine ev_aload_n dX0_greatest_17 rfl ?_
  refine ev_geti fl_RX0_52 sh_31 (by decide) (by decide) rfl dX0_greatest_18 ?_
  cases h
  exact ev_ireturn rfl dX0_greatest_21
