noncomputable def mi_X6_clear (M : ab_M) (t0 : Nat) : Option (ab_M) :=
  some (ab_pi (ab_pi M t0 3 0) t0 4 0)

set_option maxHeartbeats 4000000 in
set_option maxRecDepth 100000 in
theorem co_X6_clear {l : Launch} {D : va_G} {ac : Nat → ClassId} (M : ab_M) (t0 : Nat) (ht0 : ab_isShelf t0) (z : ab_M) (h : mi_X6_clear M t0 = some z) : ab_Con l D ac 1 me_X6_clear 0 0 [.ref t0] ab_SH M (none, ab_SH, z) := by
  refine ab_intro (lv := [some (.ref t0)]) (by decide) rfl (Nat.le_of_ble_eq_true rfl) rfl ?_
  unfold mi_X6_clear at h
  refine ev_aload_n dX6_clear_0 rfl ?_
  refine ev_iconst (x := 0) dX6_clear_1 (by decide) ?_
  refine ev_puti fl_RX6_26 (ht0).1 (by decide) (by decide) rfl rfl rfl dX6_clear_2 ?_
  refine ev_aload_n dX6_clear_5 rfl ?_
  refine ev_iconst (x := 0) dX6_clear_6 (by decide) ?_
  refine ev_puti fl_RX6_30 (ht0).1 (by decide) (by decide) rfl rfl rfl dX6_clear_7 ?_
  cases h
  exact ev_return rfl dX6_clear_10

noncomputable def mi_X6_takeMast (M : ab_M) (t0 : Nat) (t1 : Nat) : Option (ab_M) :=
  (mi_X4_takeAll (ab_pi (ab_pi M t0 3 1) t0 4 0) (t0 + 1) t1).bind fun q1 =>
  some q1

set_option maxHeartbeats 4000000 in
set_option maxRecDepth 100000 in
theorem co_X6_takeMast {l : Launch} {D : va_G} {ac : Nat → ClassId} (M : ab_M) (t0 : Nat) (ht0 : ab_isShelf t0) (t1 : Nat) (ht1 : ab_isMast t1) (z : ab_M) (h : mi_X6_takeMast M t0 t1 = some z) : ab_Con l D ac 2 me_X6_takeMast 0 0 [.ref t0, .ref t1] ab_SH M (none, ab_SH, z) := by
  refine ab_intro (lv := [some (.ref t0), some (.ref t1)]) (by decide) rfl (Nat.le_of_ble_eq_true rfl) rfl ?_
  unfold mi_X6_takeMast at h
  refine ev_aload_n dX6_takeMast_0 rfl ?_
  refine ev_iconst (x := 1) dX6_takeMast_1 (by decide) ?_
  refine ev_puti fl_RX6_26 (ht0).1 (by decide) (by decide) rfl rfl rfl dX6_takeMast_2 ?_
  refine ev_aload_n dX6_takeMast_5 rfl ?_
  refine ev_iconst (x := 0) dX6_takeMast_6 (by decide) ?_
  refine ev_puti fl_RX6_30 (ht0).1 (by decide) (by decide) rfl rfl rfl dX6_takeMast_7 ?_
  refine ev_aload_n dX6_takeMast_10 rfl ?_
  refine ev_getr (o' := (t0 + 1)) fl_RX6_12 (ht0).1 (by decide) (by decide) rfl rfl dX6_takeMast_11 ?_
  refine ev_aload_n dX6_takeMast_14 rfl ?_
  obtain ⟨q1, hv2, h⟩ := ab_bind h
  refine ev_callV (st := []) (co_X4_takeAll (ab_pi (ab_pi M t0 3 1) t0 4 0) (t0 + 1) ((ht0).2.1) t1 ht1 _ hv2) mv_X4_takeAll (ht0).2.1 ml_RX6_33 dX6_takeMast_15 (by decide) rfl (Nat.le_of_ble_eq_true rfl) ⟨Nat.le_refl _, Nat.le_refl _⟩ ?_
  cases h
  exact ev_return rfl dX6_takeMast_18

noncomputable def mi_X6_takeChannels_12 : Nat → ab_M → Nat → Nat → Int32 → Int32 → Option (Int32 × ab_M)
  | 0, _, _, _, _, _ => none
  | n + 1, M, t0, t1, x2, x3 =>
    if x2 ≤ x3 then
      some (x3, M)
    else
      ab_chk (vp_in x3 16) <|
      ab_chk (vp_in x3 60) <|
      mi_X6_takeChannels_12 n (ab_pi M (t0 + 2) (x3).toNatClampNeg (ab_i2b (ab_i2b (M.1 t1 (x3).toNatClampNeg)))) t0 t1 x2 (x3 + 1)

set_option maxHeartbeats 4000000 in
set_option maxRecDepth 100000 in
theorem lp_X6_takeChannels_12 {l : Launch} {D : va_G} {ac : Nat → ClassId} {n0 : Nat} {r : ab_Rs} : ∀ (n : Nat) (M : ab_M) (t0 : Nat) (ht0 : ab_isShelf t0) (t1 : Nat) (ht1 : ab_isPlan t1) (x2 : Int32) (x3 : Int32) (q : Int32 × ab_M) (h : mi_X6_takeChannels_12 n M t0 t1 x2 x3 = some q) (kk : ab_Ev l D ac 1 me_X6_takeChannels n0 0 0 r 0 0 ab_SH 33 [some (.ref t0), some (.ref t1), some (.int x2), some (.int q.1)] [] q.2), ab_Ev l D ac 1 me_X6_takeChannels n0 0 0 r 0 0 ab_SH 12 [some (.ref t0), some (.ref t1), some (.int x2), some (.int x3)] [] M := by
  intro n
  induction n with
  | zero =>
    intro M t0 ht0 t1 ht1 x2 x3 q h kk
    cases h
  | succ n ih =>
    intro M t0 ht0 t1 ht1 x2 x3 q h kk
    unfold mi_X6_takeChannels_12 at h
    refine ev_iload_n dX6_takeChannels_12 rfl ?_
    refine ev_iload_n dX6_takeChannels_13 rfl ?_
    refine ev_icmp_ge (t := 33) dX6_takeChannels_14 (by decide) (fun hc1 => ?_) (fun hc1 => ?_)
    · replace h := ab_pos hc1 h
      cases h
      exact kk
    · replace h := ab_neg hc1 h
      refine ev_aload_n dX6_takeChannels_17 rfl ?_
      refine ev_getr (o' := (t0 + 2)) fl_RX6_18 (ht0).1 (by decide) (by decide) rfl rfl dX6_takeChannels_18 ?_
      refine ev_iload_n dX6_takeChannels_21 rfl ?_
      refine ev_aload_n dX6_takeChannels_22 rfl ?_
      refine ev_iload_n dX6_takeChannels_23 rfl ?_
      obtain ⟨hb2, h⟩ := ab_chk_some h
      refine ev_iaload ht1 hb2 dX6_takeChannels_24 ?_
      refine ev_i2b dX6_takeChannels_25 ?_
      obtain ⟨hb3, h⟩ := ab_chk_some h
      refine ev_bastore (ht0).2.2.1 hb3 dX6_takeChannels_26 ?_
      refine ev_iinc (y := x3 + 1) dX6_takeChannels_27 rfl (by first | rfl | decide) rfl rfl ?_
      refine ev_goto (t := 12) dX6_takeChannels_30 (by decide) ?_
      exact ih (ab_pi M (t0 + 2) (x3).toNatClampNeg (ab_i2b (ab_i2b (M.1 t1 (x3).toNatClampNeg)))) t0 ht0 t1 ht1 x2 (x3 + 1) _ h kk

noncomputable def mi_X6_takeChannels (M : ab_M) (t0 : Nat) (t1 : Nat) (x2 : Int32) : Option (ab_M) :=
  (mi_X6_takeChannels_12 ab_F (ab_pi (ab_pi M t0 3 3) t0 4 x2) t0 t1 x2 0).bind fun q4 =>
  some q4.2

set_option maxHeartbeats 4000000 in
set_option maxRecDepth 100000 in
theorem co_X6_takeChannels {l : Launch} {D : va_G} {ac : Nat → ClassId} (M : ab_M) (t0 : Nat) (ht0 : ab_isShelf t0) (t1 : Nat) (ht1 : ab_isPlan t1) (x2 : Int32) (z : ab_M) (h : mi_X6_takeChannels M t0 t1 x2 = some z) : ab_Con l D ac 1 me_X6_takeChannels 0 0 [.ref t0, .ref t1, .int x2] ab_SH M (none, ab_SH, z) := by
  refine ab_intro (lv := [some (.ref t0), some (.ref t1), some (.int x2), none]) (by decide) rfl (Nat.le_of_ble_eq_true rfl) rfl ?_
  unfold mi_X6_takeChannels at h
  refine ev_aload_n dX6_takeChannels_0 rfl ?_
  refine ev_iconst (x := 3) dX6_takeChannels_1 (by decide) ?_
  refine ev_puti fl_RX6_26 (ht0).1 (by decide) (by decide) rfl rfl rfl dX6_takeChannels_2 ?_
  refine ev_aload_n dX6_takeChannels_5 rfl ?_
  refine ev_iload_n dX6_takeChannels_6 rfl ?_
  refine ev_puti fl_RX6_30 (ht0).1 (by decide) (by decide) rfl rfl rfl dX6_takeChannels_7 ?_
  refine ev_iconst (x := 0) dX6_takeChannels_10 (by decide) ?_
  refine ev_istore_n dX6_takeChannels_11 (Nat.le_of_ble_eq_true rfl) rfl rfl ?_
  obtain ⟨q4, hq5, h⟩ := ab_bind h
  refine lp_X6_takeChannels_12 _ (ab_pi (ab_pi M t0 3 3) t0 4 x2) t0 ht0 t1 ht1 x2 0 _ hq5 ?_
  cases h
  exact ev_return rfl dX6_takeChannels_33

noncomputable def mi_X6_takeSquares_15 : Nat → ab_M → Nat → Int32 → Int32 → Option (Int32 × ab_M)
  | 0, _, _, _, _ => none
  | n + 1, M, t0, x2, x3 =>
    if (M.1 1 7) ≤ x3 then
      some (x3, M)
    else
      (mi_X3_square M x2 x3).bind fun q2 =>
      ab_chk (vp_in x3 60) <|
      mi_X6_takeSquares_15 n (ab_pl M (t0 + 3) (x3).toNatClampNeg (Int32.toInt64 q2)) t0 x2 (x3 + 1)

set_option maxHeartbeats 4000000 in
set_option maxRecDepth 100000 in
theorem lp_X6_takeSquares_15 {l : Launch} {D : va_G} {ac : Nat → ClassId} {n0 : Nat} {r : ab_Rs} : ∀ (n : Nat) (M : ab_M) (t0 : Nat) (ht0 : ab_isShelf t0) (x2 : Int32) (x3 : Int32) (q : Int32 × ab_M) (h : mi_X6_takeSquares_15 n M t0 x2 x3 = some q) (kk : ab_Ev l D ac 2 me_X6_takeSquares n0 0 0 r 0 0 ab_SH 42 [some (.ref t0), some (.ref 1), some (.int x2), some (.int q.1)] [] q.2), ab_Ev l D ac 2 me_X6_takeSquares n0 0 0 r 0 0 ab_SH 15 [some (.ref t0), some (.ref 1), some (.int x2), some (.int x3)] [] M := by
  intro n
  induction n with
  | zero =>
    intro M t0 ht0 x2 x3 q h kk
    cases h
  | succ n ih =>
    intro M t0 ht0 x2 x3 q h kk
    unfold mi_X6_takeSquares_15 at h
    refine ev_iload_n dX6_takeSquares_15 rfl ?_
    refine ev_aload_n dX6_takeSquares_16 rfl ?_
    refine ev_geti fl_RX6_37 sh_1 (by decide) (by decide) rfl dX6_takeSquares_17 ?_
    refine ev_icmp_ge (t := 42) dX6_takeSquares_20 (by decide) (fun hc1 => ?_) (fun hc1 => ?_)
    · replace h := ab_pos hc1 h
      cases h
      exact kk
    · replace h := ab_neg hc1 h
      refine ev_aload_n dX6_takeSquares_23 rfl ?_
      refine ev_getr (o' := (t0 + 3)) fl_RX6_22 (ht0).1 (by decide) (by decide) rfl rfl dX6_takeSquares_24 ?_
      refine ev_iload_n dX6_takeSquares_27 rfl ?_
      refine ev_aload_n dX6_takeSquares_28 rfl ?_
      refine ev_iload_n dX6_takeSquares_29 rfl ?_
      refine ev_iload_n dX6_takeSquares_30 rfl ?_
      obtain ⟨q2, hv3, h⟩ := ab_bind h
      refine ev_callV (st := [.int x3, .ref (t0 + 3)]) (co_X3_square M x2 x3 _ hv3) mv_X3_square sh_1 ml_RX6_42 dX6_takeSquares_31 (by decide) rfl (Nat.le_of_ble_eq_true rfl) ⟨Nat.le_refl _, Nat.le_refl _⟩ ?_
      refine ev_i2l dX6_takeSquares_34 ?_
      obtain ⟨hb4, h⟩ := ab_chk_some h
      refine ev_lastore (ht0).2.2.2 hb4 dX6_takeSquares_35 ?_
      refine ev_iinc (y := x3 + 1) dX6_takeSquares_36 rfl (by first | rfl | decide) rfl rfl ?_
      refine ev_goto (t := 15) dX6_takeSquares_39 (by decide) ?_
      exact ih (ab_pl M (t0 + 3) (x3).toNatClampNeg (Int32.toInt64 q2)) t0 ht0 x2 (x3 + 1) _ h kk

noncomputable def mi_X6_takeSquares (M : ab_M) (t0 : Nat) (x2 : Int32) : Option (ab_M) :=
  (mi_X6_takeSquares_15 ab_F (ab_pi (ab_pi M t0 3 4) t0 4 ((ab_pi M t0 3 4).1 1 7)) t0 x2 0).bind fun q5 =>
  some q5.2

set_option maxHeartbeats 4000000 in
set_option maxRecDepth 100000 in
theorem co_X6_takeSquares {l : Launch} {D : va_G} {ac : Nat → ClassId} (M : ab_M) (t0 : Nat) (ht0 : ab_isShelf t0) (x2 : Int32) (z : ab_M) (h : mi_X6_takeSquares M t0 x2 = some z) : ab_Con l D ac 2 me_X6_takeSquares 0 0 [.ref t0, .ref 1, .int x2] ab_SH M (none, ab_SH, z) := by
  refine ab_intro (lv := [some (.ref t0), some (.ref 1), some (.int x2), none]) (by decide) rfl (Nat.le_of_ble_eq_true rfl) rfl ?_
  unfold mi_X6_takeSquares at h
  refine ev_aload_n dX6_takeSquares_0 rfl ?_
  refine ev_iconst (x := 4) dX6_takeSquares_1 (by decide) ?_
  refine ev_puti fl_RX6_26 (ht0).1 (by decide) (by decide) rfl rfl rfl dX6_takeSquares_2 ?_
  refine ev_aload_n dX6_takeSquares_5 rfl ?_
  refine ev_aload_n dX6_takeSquares_6 rfl ?_
  refine ev_geti fl_RX6_37 sh_1 (by decide) (by decide) rfl dX6_takeSquares_7 ?_
  refine ev_puti fl_RX6_30 (ht0).1 (by decide) (by decide) rfl rfl rfl dX6_takeSquares_10 ?_
  refine ev_iconst (x := 0) dX6_takeSquares_13 (by decide) ?_
  refine ev_istore_n dX6_takeSquares_14 (Nat.le_of_ble_eq_true rfl) rfl rfl ?_
  obtain ⟨q5, hq6, h⟩ := ab_bind h
  refine lp_X6_takeSquares_15 _ (ab_pi (ab_pi M t0 3 4) t0 4 ((ab_pi M t0 3 4).1 1 7)) t0 ht0 x2 0 _ hq6 ?_
  cases h
  exact ev_return rfl dX6_takeSquares_42

noncomputable def mi_X6_takeZeros (M : ab_M) (t0 : Nat) (x1 : Int32) (x2 : Int32) : Option (ab_M) :=
  (mi_J7_fill_031fb (ab_pi (ab_pi M t0 3 x1) t0 4 x2) (t0 + 2) 0).bind fun q1 =>
  (mi_J7_fill_d0a16 q1 (t0 + 3) 0).bind fun q3 =>
  some q3

set_option maxHeartbeats 4000000 in
set_option maxRecDepth 100000 in
theorem co_X6_takeZeros {l : Launch} {D : va_G} {ac : Nat → ClassId} (M : ab_M) (t0 : Nat) (ht0 : ab_isShelf t0) (x1 : Int32) (x2 : Int32) (z : ab_M) (h : mi_X6_takeZeros M t0 x1 x2 = some z) : ab_Con l D ac 2 me_X6_takeZeros 0 0 [.ref t0, .int x1, .int x2] ab_SH M (none, ab_SH, z) := by
  refine ab_intro (lv := [some (.ref t0), some (.int x1), some (.int x2)]) (by decide) rfl (Nat.le_of_ble_eq_true rfl) rfl ?_
  unfold mi_X6_takeZeros at h
  refine ev_aload_n dX6_takeZeros_0 rfl ?_
  refine ev_iload_n dX6_takeZeros_1 rfl ?_
  refine ev_puti fl_RX6_26 (ht0).1 (by decide) (by decide) rfl rfl rfl dX6_takeZeros_2 ?_
  refine ev_aload_n dX6_takeZeros_5 rfl ?_
  refine ev_iload_n dX6_takeZeros_6 rfl ?_
  refine ev_puti fl_RX6_30 (ht0).1 (by decide) (by decide) rfl rfl rfl dX6_takeZeros_7 ?_
  refine ev_aload_n dX6_takeZeros_10 rfl ?_
  refine ev_getr (o' := (t0 + 2)) fl_RX6_18 (ht0).1 (by decide) (by decide) rfl rfl dX6_takeZeros_11 ?_
  refine ev_iconst (x := 0) dX6_takeZeros_14 (by decide) ?_
  obtain ⟨q1, hv2, h⟩ := ab_bind h
  refine ev_callS (st := []) (co_J7_fill_031fb (ab_pi (ab_pi M t0 3 x1) t0 4 x2) (t0 + 2) ((ht0).2.2.1) 0 _ hv2) mv_J7_fill_031fb ml_RX6_46 dX6_takeZeros_15 (by decide) rfl (Nat.le_of_ble_eq_true rfl) ⟨Nat.le_refl _, Nat.le_refl _⟩ ?_
  refine ev_aload_n dX6_takeZeros_18 rfl ?_
  refine ev_getr (o' := (t0 + 3)) fl_RX6_22 (ht0).1 (by decide) (by decide) rfl rfl dX6_takeZeros_19 ?_
  refine ev_lconst (x := 0) dX6_takeZeros_22 (by decide) ?_
  obtain ⟨q3, hv4, h⟩ := ab_bind h
  refine ev_callS (st := []) (co_J7_fill_d0a16 q1 (t0 + 3) ((ht0).2.2.2) 0 _ hv4) mv_J7_fill_d0a16 ml_RX6_52 dX6_takeZeros_23 (by decide) rfl (Nat.le_of_ble_eq_true rfl) ⟨Nat.le_refl _, Nat.le_refl _⟩ ?_
  cases h
  exact ev_return rfl dX6_takeZeros_26

noncomputable def mi_X6_isRow (M : ab_M) (t0 : Nat) : Option (Int32) :=
  if (M.1 t0 3) = 3 then
    some 1
  else
    if (M.1 t0 3) = 4 then
      some 1
    else
      some 0

set_option maxHeartbeats 4000000 in
set_option maxRecDepth 100000 in
theorem co_X6_isRow {l : Launch} {D : va_G} {ac : Nat → ClassId} (M : ab_M) (t0 : Nat) (ht0 : ab_isShelf t0) (z : Int32) (h : mi_X6_isRow M t0 = some z) : ab_Con l D ac 1 me_X6_isRow 0 0 [.ref t0] ab_SH M (some (.int z), ab_SH, M) := by
  refine ab_intro (lv := [some (.ref t0)]) (by decide) rfl (Nat.le_of_ble_eq_true rfl) rfl ?_
  unfold mi_X6_isRow at h
  refine ev_aload_n dX6_isRow_0 rfl ?_
  refine ev_geti fl_RX6_26 (ht0).1 (by decide) (by decide) rfl dX6_isRow_1 ?_
  refine ev_iconst (x := 3) dX6_isRow_4 (by decide) ?_
  refine ev_icmp_eq (t := 16) dX6_isRow_5 (by decide) (fun hc1 => ?_) (fun hc1 => ?_)
  · replace h := ab_pos hc1 h
    refine ev_iconst (x := 1) dX6_isRow_16 (by decide) ?_
    refine ev_goto (t := 21) dX6_isRow_17 (by decide) ?_
    cases h
    exact ev_zreturn rfl (Or.inr rfl) dX6_isRow_21
  · replace h := ab_neg hc1 h
    refine ev_aload_n dX6_isRow_8 rfl ?_
    refine ev_geti fl_RX6_26 (ht0).1 (by decide) (by decide) rfl dX6_isRow_9 ?_
    refine ev_iconst (x := 4) dX6_isRow_12 (by decide) ?_
    refine ev_icmp_ne (t := 20) dX6_isRow_13 (by decide) (fun hc2 => ?_) (fun hc2 => ?_)
    · replace h := ab_neg hc2 h
      refine ev_iconst (x := 0) dX6_isRow_20 (by decide) ?_
      cases h
      exact ev_zreturn rfl (Or.inl rfl) dX6_isRow_21
    · replace h := ab_pos hc2 h
      refine ev_iconst (x := 1) dX6_isRow_16 (by decide) ?_
      refine ev_goto (t := 21) dX6_isRow_17 (by decide) ?_
      cases h
      exact ev_zreturn rfl (Or.inr rfl) dX6_isRow_21

noncomputable def mi_X6_hasRange (M : ab_M) (t0 : Nat) (x1 : Int32) (x2 : Int32) : Option (Int32) :=
  if x2 < 0 then
    some 0
  else
    if x1 < 0 then
      some 0
    else
      if (M.1 t0 4) < x1 then
        some 0
      else
        if ((M.1 t0 4) - x1) < x2 then
          some 0
        else
          some 1

set_option maxHeartbeats 4000000 in
set_option maxRecDepth 100000 in
theorem co_X6_hasRange {l : Launch} {D : va_G} {ac : Nat → ClassId} (M : ab_M) (t0 : Nat) (ht0 : ab_isShelf t0) (x1 : Int32) (x2 : Int32) (z : Int32) (h : mi_X6_hasRange M t0 x1 x2 = some z) : ab_Con l D ac 1 me_X6_hasRange 0 0 [.ref t0, .int x1, .int x2] ab_SH M (some (.int z), ab_SH, M) := by
  refine ab_intro (lv := [some (.ref t0), some (.int x1), some (.int x2)]) (by decide) rfl (Nat.le_of_ble_eq_true rfl) rfl ?_
  unfold mi_X6_hasRange at h
  refine ev_iload_n dX6_hasRange_0 rfl ?_
  refine ev_if_lt (t := 30) dX6_hasRange_1 (by decide) (fun hc1 => ?_) (fun hc1 => ?_)
  · replace h := ab_pos hc1 h
    refine ev_iconst (x := 0) dX6_hasRange_30 (by decide) ?_
    cases h
    exact ev_zreturn rfl (Or.inl rfl) dX6_hasRange_31
  · replace h := ab_neg hc1 h
    refine ev_iload_n dX6_hasRange_4 rfl ?_
    refine ev_if_lt (t := 30) dX6_hasRange_5 (by decide) (fun hc2 => ?_) (fun hc2 => ?_)
    · replace h := ab_pos hc2 h
      refine ev_iconst (x := 0) dX6_hasRange_30 (by decide) ?_
      cases h
      exact ev_zreturn rfl (Or.inl rfl) dX6_hasRange_31
    · replace h := ab_neg hc2 h
      refine ev_iload_n dX6_hasRange_8 rfl ?_
      refine ev_aload_n dX6_hasRange_9 rfl ?_
      refine ev_geti fl_RX6_30 (ht0).1 (by decide) (by decide) rfl dX6_hasRange_10 ?_
      refine ev_icmp_gt (t := 30) dX6_hasRange_13 (by decide) (fun hc3 => ?_) (fun hc3 => ?_)
      · replace h := ab_pos hc3 h
        refine ev_iconst (x := 0) dX6_hasRange_30 (by decide) ?_
        cases h
        exact ev_zreturn rfl (Or.inl rfl) dX6_hasRange_31
      · replace h := ab_neg hc3 h
        refine ev_iload_n dX6_hasRange_16 rfl ?_
        refine ev_aload_n dX6_hasRange_17 rfl ?_
        refine ev_geti fl_RX6_30 (ht0).1 (by decide) (by decide) rfl dX6_hasRange_18 ?_
        refine ev_iload_n dX6_hasRange_21 rfl ?_
        refine ev_isub dX6_hasRange_22 ?_
        refine ev_icmp_gt (t := 30) dX6_hasRange_23 (by decide) (fun hc4 => ?_) (fun hc4 => ?_)
        · replace h := ab_pos hc4 h
          refine ev_iconst (x := 0) dX6_hasRange_30 (by decide) ?_
          cases h
          exact ev_zreturn rfl (Or.inl rfl) dX6_hasRange_31
        · replace h := ab_neg hc4 h
          refine ev_iconst (x := 1) dX6_hasRange_26 (by decide) ?_
          refine ev_goto (t := 31) dX6_hasRange_27 (by decide) ?_
          cases h
          exact ev_zreturn rfl (Or.inr rfl) dX6_hasRange_31

noncomputable def mi_X6_at (M : ab_M) (t0 : Nat) (x1 : Int32) : Option (Int64) :=
  if (M.1 t0 3) = 3 then
    ab_chk (vp_in x1 60) <|
    some (Int32.toInt64 (M.1 (t0 + 2) (x1).toNatClampNeg))
  else
    ab_chk (vp_in x1 60) <|
    some (M.2 (t0 + 3) (x1).toNatClampNeg)

set_option maxHeartbeats 4000000 in
set_option maxRecDepth 100000 in
theorem co_X6_at {l : Launch} {D : va_G} {ac : Nat → ClassId} (M : ab_M) (t0 : Nat) (ht0 : ab_isShelf t0) (x1 : Int32) (z : Int64) (h : mi_X6_at M t0 x1 = some z) : ab_Con l D ac 1 me_X6_at 0 0 [.ref t0, .int x1] ab_SH M (some (.long z), ab_SH, M) := by
  refine ab_intro (lv := [some (.ref t0), some (.int x1)]) (by decide) rfl (Nat.le_of_ble_eq_true rfl) rfl ?_
  unfold mi_X6_at at h
  refine ev_aload_n dX6_at_0 rfl ?_
  refine ev_geti fl_RX6_26 (ht0).1 (by decide) (by decide) rfl dX6_at_1 ?_
  refine ev_iconst (x := 3) dX6_at_4 (by decide) ?_
  refine ev_icmp_ne (t := 18) dX6_at_5 (by decide) (fun hc1 => ?_) (fun hc1 => ?_)
  · replace h := ab_neg hc1 h
    refine ev_aload_n dX6_at_18 rfl ?_
    refine ev_getr (o' := (t0 + 3)) fl_RX6_22 (ht0).1 (by decide) (by decide) rfl rfl dX6_at_19 ?_
    refine ev_iload_n dX6_at_22 rfl ?_
    obtain ⟨hb2, h⟩ := ab_chk_some h
    refine ev_laload (ht0).2.2.2 hb2 dX6_at_23 ?_
    cases h
    exact ev_lreturn rfl dX6_at_24
  · replace h := ab_pos hc1 h
    refine ev_aload_n dX6_at_8 rfl ?_
    refine ev_getr (o' := (t0 + 2)) fl_RX6_18 (ht0).1 (by decide) (by decide) rfl rfl dX6_at_9 ?_
    refine ev_iload_n dX6_at_12 rfl ?_
    obtain ⟨hb3, h⟩ := ab_chk_some h
    refine ev_baload (ht0).2.2.1 hb3 dX6_at_13 ?_
    refine ev_i2l dX6_at_14 ?_
    refine ev_goto (t := 24) dX6_at_15 (by decide) ?_
    cases h
    exact ev_lreturn rfl dX6_at_24

noncomputable def mi_X6_copyTo (M : ab_M) (t0 : Nat) (x1 : Int32) (t2 : Nat) (x3 : Int32) (x4 : Int32) : Option (ab_M) :=
  if (M.1 t0 3) = 3 then
    ab_chk (¬ (x1 : Int32) < 0 ∧ ¬ (x3 : Int32) < 0 ∧ ¬ (x4 : Int32) < 0 ∧ (x1 : Int32).toNatClampNeg + (x4 : Int32).toNatClampNeg ≤ 60 ∧ (x3 : Int32).toNatClampNeg + (x4 : Int32).toNatClampNeg ≤ 60 ∧ ∀ i, i < (x4 : Int32).toNatClampNeg → fits .byte (.int (M.1 (t0 + 2) ((x1 : Int32).toNatClampNeg + i))) = true) <|
    some (ab_cpi M (t0 + 2) (t2 + 2) x1 x3 x4)
  else
    ab_chk (¬ (x1 : Int32) < 0 ∧ ¬ (x3 : Int32) < 0 ∧ ¬ (x4 : Int32) < 0 ∧ (x1 : Int32).toNatClampNeg + (x4 : Int32).toNatClampNeg ≤ 60 ∧ (x3 : Int32).toNatClampNeg + (x4 : Int32).toNatClampNeg ≤ 60) <|
    some (ab_cpl M (t0 + 3) (t2 + 3) x1 x3 x4)

set_option maxHeartbeats 4000000 in
set_option maxRecDepth 100000 in
theorem co_X6_copyTo {l : Launch} {D : va_G} {ac : Nat → ClassId} (M : ab_M) (t0 : Nat) (ht0 : ab_isShelf t0) (x1 : Int32) (t2 : Nat) (ht2 : ab_isShelf t2) (x3 : Int32) (x4 : Int32) (z : ab_M) (h : mi_X6_copyTo M t0 x1 t2 x3 x4 = some z) : ab_Con l D ac 2 me_X6_copyTo 0 0 [.ref t0, .int x1, .ref t2, .int x3, .int x4] ab_SH M (none, ab_SH, z) := by
  refine ab_intro (lv := [some (.ref t0), some (.int x1), some (.ref t2), some (.int x3), some (.int x4)]) (by decide) rfl (Nat.le_of_ble_eq_true rfl) rfl ?_
  unfold mi_X6_copyTo at h
  refine ev_aload_n dX6_copyTo_0 rfl ?_
  refine ev_geti fl_RX6_26 (ht0).1 (by decide) (by decide) rfl dX6_copyTo_1 ?_
  refine ev_iconst (x := 3) dX6_copyTo_4 (by decide) ?_
  refine ev_icmp_ne (t := 26) dX6_copyTo_5 (by decide) (fun hc1 => ?_) (fun hc1 => ?_)
  · replace h := ab_neg hc1 h
    refine ev_aload_n dX6_copyTo_26 rfl ?_
    refine ev_getr (o' := (t0 + 3)) fl_RX6_22 (ht0).1 (by decide) (by decide) rfl rfl dX6_copyTo_27 ?_
    refine ev_iload_n dX6_copyTo_30 rfl ?_
    refine ev_aload_n dX6_copyTo_31 rfl ?_
    refine ev_getr (o' := (t2 + 3)) fl_RX6_22 (ht2).1 (by decide) (by decide) rfl rfl dX6_copyTo_32 ?_
    refine ev_iload_n dX6_copyTo_35 rfl ?_
    refine ev_iload dX6_copyTo_36 rfl ?_
    obtain ⟨hb2, h⟩ := ab_chk_some h
    refine ev_copyl ml_RX6_55 (ht0).2.2.2 (ht2).2.2.2 hb2 dX6_copyTo_38 (by decide) (Nat.le_of_ble_eq_true rfl) ?_
    cases h
    exact ev_return rfl dX6_copyTo_41
  · replace h := ab_pos hc1 h
    refine ev_aload_n dX6_copyTo_8 rfl ?_
    refine ev_getr (o' := (t0 + 2)) fl_RX6_18 (ht0).1 (by decide) (by decide) rfl rfl dX6_copyTo_9 ?_
    refine ev_iload_n dX6_copyTo_12 rfl ?_
    refine ev_aload_n dX6_copyTo_13 rfl ?_
    refine ev_getr (o' := (t2 + 2)) fl_RX6_18 (ht2).1 (by decide) (by decide) rfl rfl dX6_copyTo_14 ?_
    refine ev_iload_n dX6_copyTo_17 rfl ?_
    refine ev_iload dX6_copyTo_18 rfl ?_
    obtain ⟨hb3, h⟩ := ab_chk_some h
    refine ev_copyb ml_RX6_55 (ht0).2.2.1 (ht2).2.2.1 hb3 dX6_copyTo_20 (by decide) (Nat.le_of_ble_eq_true rfl) ?_
    refine ev_goto (t := 41) dX6_copyTo_23 (by decide) ?_
    cases h
    exact ev_return rfl dX6_copyTo_41
