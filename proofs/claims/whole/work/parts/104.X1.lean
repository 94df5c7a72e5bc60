noncomputable def mi_X1_tell (M : ab_M) (x1 : Int32) (x2 : Int32) (x3 : Int32) (x4 : Int32) : Option (ab_M) :=
  some (ab_pi (ab_pi (ab_pi (ab_pi M 9 0 x1) 9 1 x2) 9 2 x3) 9 3 x4)

set_option maxHeartbeats 4000000 in
set_option maxRecDepth 100000 in
theorem co_X1_tell {l : Launch} {D : va_G} {ac : Nat → ClassId} (M : ab_M) (x1 : Int32) (x2 : Int32) (x3 : Int32) (x4 : Int32) (z : ab_M) (h : mi_X1_tell M x1 x2 x3 x4 = some z) : ab_Con l D ac 1 me_X1_tell 0 0 [.ref 9, .int x1, .int x2, .int x3, .int x4] ab_SH M (none, ab_SH, z) := by
  refine ab_intro (lv := [some (.ref 9), some (.int x1), some (.int x2), some (.int x3), some (.int x4)]) (by decide) rfl (Nat.le_of_ble_eq_true rfl) rfl ?_
  unfold mi_X1_tell at h
  refine ev_aload_n dX1_tell_0 rfl ?_
  refine ev_iload_n dX1_tell_1 rfl ?_
  refine ev_puti fl_RX1_9 sh_9 (by decide) (by decide) rfl rfl rfl dX1_tell_2 ?_
  refine ev_aload_n dX1_tell_5 rfl ?_
  refine ev_iload_n dX1_tell_6 rfl ?_
  refine ev_puti fl_RX1_15 sh_9 (by decide) (by decide) rfl rfl rfl dX1_tell_7 ?_
  refine ev_aload_n dX1_tell_10 rfl ?_
  refine ev_iload_n dX1_tell_11 rfl ?_
  refine ev_puti fl_RX1_18 sh_9 (by decide) (by decide) rfl rfl rfl dX1_tell_12 ?_
  refine ev_aload_n dX1_tell_15 rfl ?_
  refine ev_iload dX1_tell_16 rfl ?_
  refine ev_puti fl_RX1_21 sh_9 (by decide) (by decide) rfl rfl rfl dX1_tell_18 ?_
  cases h
  exact ev_return rfl dX1_tell_21

noncomputable def mi_X1_swap (M : ab_M) : Option (ab_M) :=
  some (ab_pi (ab_pi M 9 2 (M.1 9 3)) 9 3 (M.1 9 2))

set_option maxHeartbeats 4000000 in
set_option maxRecDepth 100000 in
theorem co_X1_swap {l : Launch} {D : va_G} {ac : Nat → ClassId} (M : ab_M) (z : ab_M) (h : mi_X1_swap M = some z) : ab_Con l D ac 1 me_X1_swap 0 0 [.ref 9] ab_SH M (none, ab_SH, z) := by
  refine ab_intro (lv := [some (.ref 9), none]) (by decide) rfl (Nat.le_of_ble_eq_true rfl) rfl ?_
  unfold mi_X1_swap at h
  refine ev_aload_n dX1_swap_0 rfl ?_
  refine ev_geti fl_RX1_18 sh_9 (by decide) (by decide) rfl dX1_swap_1 ?_
  refine ev_istore_n dX1_swap_4 (Nat.le_of_ble_eq_true rfl) rfl rfl ?_
  refine ev_aload_n dX1_swap_5 rfl ?_
  refine ev_aload_n dX1_swap_6 rfl ?_
  refine ev_geti fl_RX1_21 sh_9 (by decide) (by decide) rfl dX1_swap_7 ?_
  refine ev_puti fl_RX1_18 sh_9 (by decide) (by decide) rfl rfl rfl dX1_swap_10 ?_
  refine ev_aload_n dX1_swap_13 rfl ?_
  refine ev_iload_n dX1_swap_14 rfl ?_
  refine ev_puti fl_RX1_21 sh_9 (by decide) (by decide) rfl rfl rfl dX1_swap_15 ?_
  cases h
  exact ev_return rfl dX1_swap_18

noncomputable def mi_X1_allows (M : ab_M) (t1 : Nat) : Option (Int32) :=
  if (M.1 t1 1) = 3 then
    if (M.1 9 0) = (-1) then
      some 1073741823
    else
      if (ab_abs ((M.1 t1 2) - (M.1 9 0))) ≤ (M.1 9 1) then
        if (M.1 9 0) ≤ (M.1 t1 2) then
          some (M.1 9 3)
        else
          some (M.1 9 2)
      else
        some 1073741823
  else
    some 1073741823

set_option maxHeartbeats 4000000 in
set_option maxRecDepth 100000 in
theorem co_X1_allows {l : Launch} {D : va_G} {ac : Nat → ClassId} (M : ab_M) (t1 : Nat) (ht1 : ab_isMast t1) (z : Int32) (h : mi_X1_allows M t1 = some z) : ab_Con l D ac 2 me_X1_allows 0 0 [.ref 9, .ref t1] ab_SH M (some (.int z), ab_SH, M) := by
  refine ab_intro (lv := [some (.ref 9), some (.ref t1)]) (by decide) rfl (Nat.le_of_ble_eq_true rfl) rfl ?_
  unfold mi_X1_allows at h
  refine ev_aload_n dX1_allows_0 rfl ?_
  refine ev_geti fl_RX1_24 ht1 (by decide) (by decide) rfl dX1_allows_1 ?_
  refine ev_iconst (x := 3) dX1_allows_4 (by decide) ?_
  refine ev_icmp_ne (t := 35) dX1_allows_5 (by decide) (fun hc1 => ?_) (fun hc1 => ?_)
  · replace h := ab_neg hc1 h
    refine ev_ldc kw_RX1_38 dX1_allows_35 ?_
    cases h
    exact ev_ireturn rfl dX1_allows_37
  · replace h := ab_pos hc1 h
    refine ev_aload_n dX1_allows_8 rfl ?_
    refine ev_geti fl_RX1_9 sh_9 (by decide) (by decide) rfl dX1_allows_9 ?_
    refine ev_iconst (x := (-1)) dX1_allows_12 (by decide) ?_
    refine ev_icmp_eq (t := 35) dX1_allows_13 (by decide) (fun hc2 => ?_) (fun hc2 => ?_)
    · replace h := ab_pos hc2 h
      refine ev_ldc kw_RX1_38 dX1_allows_35 ?_
      cases h
      exact ev_ireturn rfl dX1_allows_37
    · replace h := ab_neg hc2 h
      refine ev_aload_n dX1_allows_16 rfl ?_
      refine ev_geti fl_RX1_29 ht1 (by decide) (by decide) rfl dX1_allows_17 ?_
      refine ev_aload_n dX1_allows_20 rfl ?_
      refine ev_geti fl_RX1_9 sh_9 (by decide) (by decide) rfl dX1_allows_21 ?_
      refine ev_isub dX1_allows_24 ?_
      refine ev_abs ml_RX1_32 dX1_allows_25 (by decide) (Nat.le_of_ble_eq_true rfl) ⟨Nat.le_refl _, Nat.le_refl _⟩ ?_
      refine ev_aload_n dX1_allows_28 rfl ?_
      refine ev_geti fl_RX1_15 sh_9 (by decide) (by decide) rfl dX1_allows_29 ?_
      refine ev_icmp_le (t := 38) dX1_allows_32 (by decide) (fun hc3 => ?_) (fun hc3 => ?_)
      · replace h := ab_pos hc3 h
        refine ev_aload_n dX1_allows_38 rfl ?_
        refine ev_geti fl_RX1_29 ht1 (by decide) (by decide) rfl dX1_allows_39 ?_
        refine ev_aload_n dX1_allows_42 rfl ?_
        refine ev_geti fl_RX1_9 sh_9 (by decide) (by decide) rfl dX1_allows_43 ?_
        refine ev_icmp_ge (t := 56) dX1_allows_46 (by decide) (fun hc4 => ?_) (fun hc4 => ?_)
        · replace h := ab_pos hc4 h
          refine ev_aload_n dX1_allows_56 rfl ?_
          refine ev_geti fl_RX1_21 sh_9 (by decide) (by decide) rfl dX1_allows_57 ?_
          cases h
          exact ev_ireturn rfl dX1_allows_60
        · replace h := ab_neg hc4 h
          refine ev_aload_n dX1_allows_49 rfl ?_
          refine ev_geti fl_RX1_18 sh_9 (by decide) (by decide) rfl dX1_allows_50 ?_
          refine ev_goto (t := 60) dX1_allows_53 (by decide) ?_
          cases h
          exact ev_ireturn rfl dX1_allows_60
      · replace h := ab_neg hc3 h
        refine ev_ldc kw_RX1_38 dX1_allows_35 ?_
        cases h
        exact ev_ireturn rfl dX1_allows_37
