noncomputable def mi_X9_within (M : ab_M) (x0 : Int32) (x1 : Int32) (x2 : Int32) : Option (Int32) :=
  if x0 < x1 then
    some 0
  else
    if x2 < x0 then
      some 0
    else
      some 1

set_option maxHeartbeats 4000000 in
set_option maxRecDepth 100000 in
theorem co_X9_within {l : Launch} {D : va_G} {ac : Nat → ClassId} (M : ab_M) (x0 : Int32) (x1 : Int32) (x2 : Int32) (z : Int32) (h : mi_X9_within M x0 x1 x2 = some z) : ab_Con l D ac 1 me_X9_within 0 0 [.int x0, .int x1, .int x2] ab_SH M (some (.int z), ab_SH, M) := by
  refine ab_intro (lv := [some (.int x0), some (.int x1), some (.int x2)]) (by decide) rfl (Nat.le_of_ble_eq_true rfl) rfl ?_
  unfold mi_X9_within at h
  refine ev_iload_n dX9_within_0 rfl ?_
  refine ev_iload_n dX9_within_1 rfl ?_
  refine ev_icmp_lt (t := 14) dX9_within_2 (by decide) (fun hc1 => ?_) (fun hc1 => ?_)
  · replace h := ab_pos hc1 h
    refine ev_iconst (x := 0) dX9_within_14 (by decide) ?_
    cases h
    exact ev_zreturn rfl (Or.inl rfl) dX9_within_15
  · replace h := ab_neg hc1 h
    refine ev_iload_n dX9_within_5 rfl ?_
    refine ev_iload_n dX9_within_6 rfl ?_
    refine ev_icmp_gt (t := 14) dX9_within_7 (by decide) (fun hc2 => ?_) (fun hc2 => ?_)
    · replace h := ab_pos hc2 h
      refine ev_iconst (x := 0) dX9_within_14 (by decide) ?_
      cases h
      exact ev_zreturn rfl (Or.inl rfl) dX9_within_15
    · replace h := ab_neg hc2 h
      refine ev_iconst (x := 1) dX9_within_10 (by decide) ?_
      refine ev_goto (t := 15) dX9_within_11 (by decide) ?_
      cases h
      exact ev_zreturn rfl (Or.inr rfl) dX9_within_15

noncomputable def mi_X9_isShelf (M : ab_M) (x0 : Int32) : Option (Int32) :=
  (mi_X9_within M x0 0 7).bind fun q1 =>
  ab_chk (q1 = 0 ∨ q1 = 1) <| some q1

set_option maxHeartbeats 4000000 in
set_option maxRecDepth 100000 in
theorem co_X9_isShelf {l : Launch} {D : va_G} {ac : Nat → ClassId} (M : ab_M) (x0 : Int32) (z : Int32) (h : mi_X9_isShelf M x0 = some z) : ab_Con l D ac 2 me_X9_isShelf 0 0 [.int x0] ab_SH M (some (.int z), ab_SH, M) := by
  refine ab_intro (lv := [some (.int x0)]) (by decide) rfl (Nat.le_of_ble_eq_true rfl) rfl ?_
  unfold mi_X9_isShelf at h
  refine ev_iload_n dX9_isShelf_0 rfl ?_
  refine ev_iconst (x := 0) dX9_isShelf_1 (by decide) ?_
  refine ev_bipush (x := 7) dX9_isShelf_2 (by decide) ?_
  obtain ⟨q1, hv2, h⟩ := ab_bind h
  refine ev_callS (st := []) (co_X9_within M x0 0 7 _ hv2) mv_X9_within ml_RX9_72 dX9_isShelf_4 (by decide) rfl (Nat.le_of_ble_eq_true rfl) ⟨Nat.le_refl _, Nat.le_refl _⟩ ?_
  obtain ⟨hz3, h⟩ := ab_chk_some h
  cases h
  exact ev_zreturn rfl hz3 dX9_isShelf_7

noncomputable def mi_X9_isPlace (M : ab_M) (x0 : Int32) : Option (Int32) :=
  if x0 < 0 then
    some 0
  else
    if 60 < (x0 / 64) then
      some 0
    else
      if 60 < (ab_rem x0 64) then
        some 0
      else
        some 1

set_option maxHeartbeats 4000000 in
set_option maxRecDepth 100000 in
theorem co_X9_isPlace {l : Launch} {D : va_G} {ac : Nat → ClassId} (M : ab_M) (x0 : Int32) (z : Int32) (h : mi_X9_isPlace M x0 = some z) : ab_Con l D ac 1 me_X9_isPlace 0 0 [.int x0] ab_SH M (some (.int z), ab_SH, M) := by
  refine ab_intro (lv := [some (.int x0)]) (by decide) rfl (Nat.le_of_ble_eq_true rfl) rfl ?_
  unfold mi_X9_isPlace at h
  refine ev_iload_n dX9_isPlace_0 rfl ?_
  refine ev_if_lt (t := 26) dX9_isPlace_1 (by decide) (fun hc1 => ?_) (fun hc1 => ?_)
  · replace h := ab_pos hc1 h
    refine ev_iconst (x := 0) dX9_isPlace_26 (by decide) ?_
    cases h
    exact ev_zreturn rfl (Or.inl rfl) dX9_isPlace_27
  · replace h := ab_neg hc1 h
    refine ev_iload_n dX9_isPlace_4 rfl ?_
    refine ev_bipush (x := 64) dX9_isPlace_5 (by decide) ?_
    refine ev_idiv dX9_isPlace_7 (by decide) ?_
    refine ev_bipush (x := 60) dX9_isPlace_8 (by decide) ?_
    refine ev_icmp_gt (t := 26) dX9_isPlace_10 (by decide) (fun hc2 => ?_) (fun hc2 => ?_)
    · replace h := ab_pos hc2 h
      refine ev_iconst (x := 0) dX9_isPlace_26 (by decide) ?_
      cases h
      exact ev_zreturn rfl (Or.inl rfl) dX9_isPlace_27
    · replace h := ab_neg hc2 h
      refine ev_iload_n dX9_isPlace_13 rfl ?_
      refine ev_bipush (x := 64) dX9_isPlace_14 (by decide) ?_
      refine ev_irem dX9_isPlace_16 (by decide) ?_
      refine ev_bipush (x := 60) dX9_isPlace_17 (by decide) ?_
      refine ev_icmp_gt (t := 26) dX9_isPlace_19 (by decide) (fun hc3 => ?_) (fun hc3 => ?_)
      · replace h := ab_pos hc3 h
        refine ev_iconst (x := 0) dX9_isPlace_26 (by decide) ?_
        cases h
        exact ev_zreturn rfl (Or.inl rfl) dX9_isPlace_27
      · replace h := ab_neg hc3 h
        refine ev_iconst (x := 1) dX9_isPlace_22 (by decide) ?_
        refine ev_goto (t := 27) dX9_isPlace_23 (by decide) ?_
        cases h
        exact ev_zreturn rfl (Or.inr rfl) dX9_isPlace_27
