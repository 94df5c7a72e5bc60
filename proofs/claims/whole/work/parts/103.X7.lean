noncomputable def mi_X7_add (M : ab_M) (x1 : Int32) (x2 : Int32) (x3 : Int32) : Option (ab_M) :=
  if 8 ≤ (M.1 5 3) then
    some M
  else
    ab_chk (vp_in (M.1 5 3) 8) <|
    ab_chk (vp_in ((ab_pi M 6 (M.1 5 3).toNatClampNeg x1).1 5 3) 8) <|
    ab_chk (vp_in ((ab_pi (ab_pi M 6 (M.1 5 3).toNatClampNeg x1) 7 ((ab_pi M 6 (M.1 5 3).toNatClampNeg x1).1 5 3).toNatClampNeg x2).1 5 3) 8) <|
    some (ab_pi (ab_pi (ab_pi (ab_pi M 6 (M.1 5 3).toNatClampNeg x1) 7 ((ab_pi M 6 (M.1 5 3).toNatClampNeg x1).1 5 3).toNatClampNeg x2) 8 ((ab_pi (ab_pi M 6 (M.1 5 3).toNatClampNeg x1) 7 ((ab_pi M 6 (M.1 5 3).toNatClampNeg x1).1 5 3).toNatClampNeg x2).1 5 3).toNatClampNeg x3) 5 3 (((ab_pi (ab_pi (ab_pi M 6 (M.1 5 3).toNatClampNeg x1) 7 ((ab_pi M 6 (M.1 5 3).toNatClampNeg x1).1 5 3).toNatClampNeg x2) 8 ((ab_pi (ab_pi M 6 (M.1 5 3).toNatClampNeg x1) 7 ((ab_pi M 6 (M.1 5 3).toNatClampNeg x1).1 5 3).toNatClampNeg x2).1 5 3).toNatClampNeg x3).1 5 3) + 1))

set_option maxHeartbeats 4000000 in
set_option maxRecDepth 100000 in
theorem co_X7_add {l : Launch} {D : va_G} {ac : Nat → ClassId} (M : ab_M) (x1 : Int32) (x2 : Int32) (x3 : Int32) (z : ab_M) (h : mi_X7_add M x1 x2 x3 = some z) : ab_Con l D ac 1 me_X7_add 0 0 [.ref 5, .int x1, .int x2, .int x3] ab_SH M (none, ab_SH, z) := by
  refine ab_intro (lv := [some (.ref 5), some (.int x1), some (.int x2), some (.int x3)]) (by decide) rfl (Nat.le_of_ble_eq_true rfl) rfl ?_
  unfold mi_X7_add at h
  refine ev_aload_n dX7_add_0 rfl ?_
  refine ev_geti fl_RX7_21 sh_5 (by decide) (by decide) rfl dX7_add_1 ?_
  refine ev_bipush (x := 8) dX7_add_4 (by decide) ?_
  refine ev_icmp_ge (t := 49) dX7_add_6 (by decide) (fun hc1 => ?_) (fun hc1 => ?_)
  · replace h := ab_pos hc1 h
    cases h
    exact ev_return rfl dX7_add_49
  · replace h := ab_neg hc1 h
    refine ev_aload_n dX7_add_9 rfl ?_
    refine ev_getr (o' := 6) fl_RX7_9 sh_5 (by decide) (by decide) rfl rfl dX7_add_10 ?_
    refine ev_aload_n dX7_add_13 rfl ?_
    refine ev_geti fl_RX7_21 sh_5 (by decide) (by decide) rfl dX7_add_14 ?_
    refine ev_iload_n dX7_add_17 rfl ?_
    obtain ⟨hb2, h⟩ := ab_chk_some h
    refine ev_iastore sh_6 hb2 dX7_add_18 ?_
    refine ev_aload_n dX7_add_19 rfl ?_
    refine ev_getr (o' := 7) fl_RX7_15 sh_5 (by decide) (by decide) rfl rfl dX7_add_20 ?_
    refine ev_aload_n dX7_add_23 rfl ?_
    refine ev_geti fl_RX7_21 sh_5 (by decide) (by decide) rfl dX7_add_24 ?_
    refine ev_iload_n dX7_add_27 rfl ?_
    obtain ⟨hb3, h⟩ := ab_chk_some h
    refine ev_iastore sh_7 hb3 dX7_add_28 ?_
    refine ev_aload_n dX7_add_29 rfl ?_
    refine ev_getr (o' := 8) fl_RX7_18 sh_5 (by decide) (by decide) rfl rfl dX7_add_30 ?_
    refine ev_aload_n dX7_add_33 rfl ?_
    refine ev_geti fl_RX7_21 sh_5 (by decide) (by decide) rfl dX7_add_34 ?_
    refine ev_iload_n dX7_add_37 rfl ?_
    obtain ⟨hb4, h⟩ := ab_chk_some h
    refine ev_iastore sh_8 hb4 dX7_add_38 ?_
    refine ev_aload_n dX7_add_39 rfl ?_
    refine ev_dup dX7_add_40 rfl ?_
    refine ev_geti fl_RX7_21 sh_5 (by decide) (by decide) rfl dX7_add_41 ?_
    refine ev_iconst (x := 1) dX7_add_44 (by decide) ?_
    refine ev_iadd dX7_add_45 ?_
    refine ev_puti fl_RX7_21 sh_5 (by decide) (by decide) rfl rfl rfl dX7_add_46 ?_
    cases h
    exact ev_return rfl dX7_add_49

noncomputable def mi_X7_greatest_5 : Nat → ab_M → Int32 → Int32 → Int32 → Int32 → Option (Int32 × Int32)
  | 0, _, _, _, _, _ => none
  | n + 1, M, x1, x2, x3, x4 =>
    if (M.1 5 3) ≤ x4 then
      some (x3, x4)
    else
      ab_chk (vp_in x4 8) <|
      ((if (M.1 6 (x4).toNatClampNeg) < x1 then
        some x3
      else
        ab_chk (vp_in x4 8) <|
        if x2 < (M.1 7 (x4).toNatClampNeg) then
          some x3
        else
          ab_chk (vp_in x4 8) <|
          some (ab_max x3 (M.1 8 (x4).toNatClampNeg))) : Option (Int32)).bind fun q3 =>
      mi_X7_greatest_5 n M x1 x2 q3 (x4 + 1)

set_option maxHeartbeats 4000000 in
set_option maxRecDepth 100000 in
theorem lp_X7_greatest_5 {l : Launch} {D : va_G} {ac : Nat → ClassId} {n0 : Nat} {r : ab_Rs} : ∀ (n : Nat) (M : ab_M) (x1 : Int32) (x2 : Int32) (x3 : Int32) (x4 : Int32) (q : Int32 × Int32) (h : mi_X7_greatest_5 n M x1 x2 x3 x4 = some q) (kk : ab_Ev l D ac 2 me_X7_greatest n0 0 0 r 0 0 ab_SH 54 [some (.ref 5), some (.int x1), some (.int x2), some (.int q.1), some (.int q.2)] [] M), ab_Ev l D ac 2 me_X7_greatest n0 0 0 r 0 0 ab_SH 5 [some (.ref 5), some (.int x1), some (.int x2), some (.int x3), some (.int x4)] [] M := by
  intro n
  induction n with
  | zero =>
    intro M x1 x2 x3 x4 q h kk
    cases h
  | succ n ih =>
    intro M x1 x2 x3 x4 q h kk
    unfold mi_X7_greatest_5 at h
    refine ev_iload dX7_greatest_5 rfl ?_
    refine ev_aload_n dX7_greatest_7 rfl ?_
    refine ev_geti fl_RX7_21 sh_5 (by decide) (by decide) rfl dX7_greatest_8 ?_
    refine ev_icmp_ge (t := 54) dX7_greatest_11 (by decide) (fun hc1 => ?_) (fun hc1 => ?_)
    · replace h := ab_pos hc1 h
      cases h
      exact kk
    · replace h := ab_neg hc1 h
      refine ev_aload_n dX7_greatest_14 rfl ?_
      refine ev_getr (o' := 6) fl_RX7_9 sh_5 (by decide) (by decide) rfl rfl dX7_greatest_15 ?_
      refine ev_iload dX7_greatest_18 rfl ?_
      obtain ⟨hb2, h⟩ := ab_chk_some h
      refine ev_iaload sh_6 hb2 dX7_greatest_20 ?_
      refine ev_iload_n dX7_greatest_21 rfl ?_
      obtain ⟨q3, hq4, h⟩ := ab_bind h
      have hJ5 : ab_Ev l D ac 2 me_X7_greatest n0 0 0 r 0 0 ab_SH 48 [some (.ref 5), some (.int x1), some (.int x2), some (.int q3), some (.int x4)] [] M := by
        refine ev_iinc (y := x4 + 1) dX7_greatest_48 rfl (by first | rfl | decide) rfl rfl ?_
        refine ev_goto (t := 5) dX7_greatest_51 (by decide) ?_
        exact ih M x1 x2 q3 (x4 + 1) _ h kk
      refine ev_icmp_lt (t := 48) dX7_greatest_22 (by decide) (fun hc6 => ?_) (fun hc6 => ?_)
      · replace hq4 := ab_pos hc6 hq4
        cases hq4
        exact hJ5
      · replace hq4 := ab_neg hc6 hq4
        refine ev_aload_n dX7_greatest_25 rfl ?_
        refine ev_getr (o' := 7) fl_RX7_15 sh_5 (by decide) (by decide) rfl rfl dX7_greatest_26 ?_
        refine ev_iload dX7_greatest_29 rfl ?_
        obtain ⟨hb7, hq4⟩ := ab_chk_some hq4
        refine ev_iaload sh_7 hb7 dX7_greatest_31 ?_
        refine ev_iload_n dX7_greatest_32 rfl ?_
        refine ev_icmp_gt (t := 48) dX7_greatest_33 (by decide) (fun hc8 => ?_) (fun hc8 => ?_)
        · replace hq4 := ab_pos hc8 hq4
          cases hq4
          exact hJ5
        · replace hq4 := ab_neg hc8 hq4
          refine ev_iload_n dX7_greatest_36 rfl ?_
          refine ev_aload_n dX7_greatest_37 rfl ?_
          refine ev_getr (o' := 8) fl_RX7_18 sh_5 (by decide) (by decide) rfl rfl dX7_greatest_38 ?_
          refine ev_iload dX7_greatest_41 rfl ?_
          obtain ⟨hb9, hq4⟩ := ab_chk_some hq4
          refine ev_iaload sh_8 hb9 dX7_greatest_43 ?_
          refine ev_max ml_RX7_25 dX7_greatest_44 (by decide) (Nat.le_of_ble_eq_true rfl) ⟨Nat.le_refl _, Nat.le_refl _⟩ ?_
          refine ev_istore_n dX7_greatest_47 (Nat.le_of_ble_eq_true rfl) rfl rfl ?_
          cases hq4
          exact hJ5

noncomputable def mi_X7_greatest (M : ab_M) (x1 : Int32) (x2 : Int32) : Option (Int32) :=
  (mi_X7_greatest_5 ab_F M x1 x2 0 0).bind fun q10 =>
  some q10.1

set_option maxHeartbeats 4000000 in
set_option maxRecDepth 100000 in
theorem co_X7_greatest {l : Launch} {D : va_G} {ac : Nat → ClassId} (M : ab_M) (x1 : Int32) (x2 : Int32) (z : Int32) (h : mi_X7_greatest M x1 x2 = some z) : ab_Con l D ac 2 me_X7_greatest 0 0 [.ref 5, .int x1, .int x2] ab_SH M (some (.int z), ab_SH, M) := by
  refine ab_intro (lv := [some (.ref 5), some (.int x1), some (.int x2), none, none]) (by decide) rfl (Nat.le_of_ble_eq_true rfl) rfl ?_
  unfold mi_X7_greatest at h
  refine ev_iconst (x := 0) dX7_greatest_0 (by decide) ?_
  refine ev_istore_n dX7_greatest_1 (Nat.le_of_ble_eq_true rfl) rfl rfl ?_
  refine ev_iconst (x := 0) dX7_greatest_2 (by decide) ?_
  refine ev_istore dX7_greatest_3 (Nat.le_of_ble_eq_true rfl) rfl rfl ?_
  obtain ⟨q10, hq11, h⟩ := ab_bind h
  refine lp_X7_greatest_5 _ M x1 x2 0 0 _ hq11 ?_
  refine ev_iload_n dX7_greatest_54 rfl ?_
  cases h
  exact ev_ireturn rfl dX7_greatest_55
