noncomputable def mi_X10_thrown (M : ab_M) : Option (Int32) :=
  some (M.1 69 0)

set_option maxHeartbeats 4000000 in
set_option maxRecDepth 100000 in
theorem co_X10_thrown {l : Launch} {D : va_G} {ac : Nat → ClassId} (M : ab_M) (z : Int32) (h : mi_X10_thrown M = some z) : ab_Con l D ac 1 me_X10_thrown 0 0 [.ref 69] ab_SH M (some (.int z), ab_SH, M) := by
  refine ab_intro (lv := [some (.ref 69)]) (by decide) rfl (Nat.le_of_ble_eq_true rfl) rfl ?_
  unfold mi_X10_thrown at h
  refine ev_aload_n dX10_thrown_0 rfl ?_
  refine ev_geti fl_RX10_102 sh_69 (by decide) (by decide) rfl dX10_thrown_1 ?_
  cases h
  exact ev_ireturn rfl dX10_thrown_4

noncomputable def mi_X10_isIn (M : ab_M) (x0 : Int64) (x2 : Int64) (x4 : Int64) : Option (Int32) :=
  if (lg_cmp x0 x2) < 0 then
    some 0
  else
    if 0 < (lg_cmp x0 x4) then
      some 0
    else
      some 1

set_option maxHeartbeats 4000000 in
set_option maxRecDepth 100000 in
theorem co_X10_isIn {l : Launch} {D : va_G} {ac : Nat → ClassId} (M : ab_M) (x0 : Int64) (x2 : Int64) (x4 : Int64) (z : Int32) (h : mi_X10_isIn M x0 x2 x4 = some z) : ab_Con l D ac 1 me_X10_isIn 0 0 [.long x0, .long x2, .long x4] ab_SH M (some (.int z), ab_SH, M) := by
  refine ab_intro (lv := [some (.long x0), none, some (.long x2), none, some (.long x4), none]) (by decide) rfl (Nat.le_of_ble_eq_true rfl) rfl ?_
  unfold mi_X10_isIn at h
  refine ev_lload_n dX10_isIn_0 rfl ?_
  refine ev_lload_n dX10_isIn_1 rfl ?_
  refine ev_lcmp dX10_isIn_2 ?_
  refine ev_if_lt (t := 17) dX10_isIn_3 (by decide) (fun hc1 => ?_) (fun hc1 => ?_)
  · replace h := ab_pos hc1 h
    refine ev_iconst (x := 0) dX10_isIn_17 (by decide) ?_
    cases h
    exact ev_zreturn rfl (Or.inl rfl) dX10_isIn_18
  · replace h := ab_neg hc1 h
    refine ev_lload_n dX10_isIn_6 rfl ?_
    refine ev_lload dX10_isIn_7 rfl ?_
    refine ev_lcmp dX10_isIn_9 ?_
    refine ev_if_gt (t := 17) dX10_isIn_10 (by decide) (fun hc2 => ?_) (fun hc2 => ?_)
    · replace h := ab_pos hc2 h
      refine ev_iconst (x := 0) dX10_isIn_17 (by decide) ?_
      cases h
      exact ev_zreturn rfl (Or.inl rfl) dX10_isIn_18
    · replace h := ab_neg hc2 h
      refine ev_iconst (x := 1) dX10_isIn_13 (by decide) ?_
      refine ev_goto (t := 18) dX10_isIn_14 (by decide) ?_
      cases h
      exact ev_zreturn rfl (Or.inr rfl) dX10_isIn_18

noncomputable def mi_X10_isMast (M : ab_M) (x1 : Int32) : Option (Int32) :=
  if x1 < 0 then
    some 0
  else
    if (M.1 69 1) ≤ x1 then
      some 0
    else
      some 1

set_option maxHeartbeats 4000000 in
set_option maxRecDepth 100000 in
theorem co_X10_isMast {l : Launch} {D : va_G} {ac : Nat → ClassId} (M : ab_M) (x1 : Int32) (z : Int32) (h : mi_X10_isMast M x1 = some z) : ab_Con l D ac 1 me_X10_isMast 0 0 [.ref 69, .int x1] ab_SH M (some (.int z), ab_SH, M) := by
  refine ab_intro (lv := [some (.ref 69), some (.int x1)]) (by decide) rfl (Nat.le_of_ble_eq_true rfl) rfl ?_
  unfold mi_X10_isMast at h
  refine ev_iload_n dX10_isMast_0 rfl ?_
  refine ev_if_lt (t := 16) dX10_isMast_1 (by decide) (fun hc1 => ?_) (fun hc1 => ?_)
  · replace h := ab_pos hc1 h
    refine ev_iconst (x := 0) dX10_isMast_16 (by decide) ?_
    cases h
    exact ev_zreturn rfl (Or.inl rfl) dX10_isMast_17
  · replace h := ab_neg hc1 h
    refine ev_iload_n dX10_isMast_4 rfl ?_
    refine ev_aload_n dX10_isMast_5 rfl ?_
    refine ev_geti fl_RX10_105 sh_69 (by decide) (by decide) rfl dX10_isMast_6 ?_
    refine ev_icmp_ge (t := 16) dX10_isMast_9 (by decide) (fun hc2 => ?_) (fun hc2 => ?_)
    · replace h := ab_pos hc2 h
      refine ev_iconst (x := 0) dX10_isMast_16 (by decide) ?_
      cases h
      exact ev_zreturn rfl (Or.inl rfl) dX10_isMast_17
    · replace h := ab_neg hc2 h
      refine ev_iconst (x := 1) dX10_isMast_12 (by decide) ?_
      refine ev_goto (t := 17) dX10_isMast_13 (by decide) ?_
      cases h
      exact ev_zreturn rfl (Or.inr rfl) dX10_isMast_17

noncomputable def mi_X10_isWant (M : ab_M) (x1 : Int32) : Option (Int32) :=
  if x1 < 0 then
    some 0
  else
    if (M.1 69 10) ≤ x1 then
      some 0
    else
      some 1

set_option maxHeartbeats 4000000 in
set_option maxRecDepth 100000 in
theorem co_X10_isWant {l : Launch} {D : va_G} {ac : Nat → ClassId} (M : ab_M) (x1 : Int32) (z : Int32) (h : mi_X10_isWant M x1 = some z) : ab_Con l D ac 1 me_X10_isWant 0 0 [.ref 69, .int x1] ab_SH M (some (.int z), ab_SH, M) := by
  refine ab_intro (lv := [some (.ref 69), some (.int x1)]) (by decide) rfl (Nat.le_of_ble_eq_true rfl) rfl ?_
  unfold mi_X10_isWant at h
  refine ev_iload_n dX10_isWant_0 rfl ?_
  refine ev_if_lt (t := 16) dX10_isWant_1 (by decide) (fun hc1 => ?_) (fun hc1 => ?_)
  · replace h := ab_pos hc1 h
    refine ev_iconst (x := 0) dX10_isWant_16 (by decide) ?_
    cases h
    exact ev_zreturn rfl (Or.inl rfl) dX10_isWant_17
  · replace h := ab_neg hc1 h
    refine ev_iload_n dX10_isWant_4 rfl ?_
    refine ev_aload_n dX10_isWant_5 rfl ?_
    refine ev_geti fl_RX10_108 sh_69 (by decide) (by decide) rfl dX10_isWant_6 ?_
    refine ev_icmp_ge (t := 16) dX10_isWant_9 (by decide) (fun hc2 => ?_) (fun hc2 => ?_)
    · replace h := ab_pos hc2 h
      refine ev_iconst (x := 0) dX10_isWant_16 (by decide) ?_
      cases h
      exact ev_zreturn rfl (Or.inl rfl) dX10_isWant_17
    · replace h := ab_neg hc2 h
      refine ev_iconst (x := 1) dX10_isWant_12 (by decide) ?_
      refine ev_goto (t := 17) dX10_isWant_13 (by decide) ?_
      cases h
      exact ev_zreturn rfl (Or.inr rfl) dX10_isWant_17

noncomputable def mi_X10_isPlace (M : ab_M) (x0 : Int32) : Option (Int32) :=
  if x0 < 0 then
    some 0
  else
    (mi_X10_isIn M (Int32.toInt64 (x0 / 64)) 0 60).bind fun q2 =>
    if q2 = 0 then
      some 0
    else
      (mi_X10_isIn M (Int32.toInt64 (ab_rem x0 64)) 0 60).bind fun q5 =>
      if q5 = 0 then
        some 0
      else
        some 1

set_option maxHeartbeats 4000000 in
set_option maxRecDepth 100000 in
theorem co_X10_isPlace {l : Launch} {D : va_G} {ac : Nat → ClassId} (M : ab_M) (x0 : Int32) (z : Int32) (h : mi_X10_isPlace M x0 = some z) : ab_Con l D ac 2 me_X10_isPlace 0 0 [.int x0] ab_SH M (some (.int z), ab_SH, M) := by
  refine ab_intro (lv := [some (.int x0)]) (by decide) rfl (Nat.le_of_ble_eq_true rfl) rfl ?_
  unfold mi_X10_isPlace at h
  refine ev_iload_n dX10_isPlace_0 rfl ?_
  refine ev_if_lt (t := 38) dX10_isPlace_1 (by decide) (fun hc1 => ?_) (fun hc1 => ?_)
  · replace h := ab_pos hc1 h
    refine ev_iconst (x := 0) dX10_isPlace_38 (by decide) ?_
    cases h
    exact ev_zreturn rfl (Or.inl rfl) dX10_isPlace_39
  · replace h := ab_neg hc1 h
    refine ev_iload_n dX10_isPlace_4 rfl ?_
    refine ev_bipush (x := 64) dX10_isPlace_5 (by decide) ?_
    refine ev_idiv dX10_isPlace_7 (by decide) ?_
    refine ev_i2l dX10_isPlace_8 ?_
    refine ev_lconst (x := 0) dX10_isPlace_9 (by decide) ?_
    refine ev_ldc2 kw_RX10_111 dX10_isPlace_10 ?_
    obtain ⟨q2, hv3, h⟩ := ab_bind h
    refine ev_callS (st := []) (co_X10_isIn M (Int32.toInt64 (x0 / 64)) 0 60 _ hv3) mv_X10_isIn ml_RX10_113 dX10_isPlace_13 (by decide) rfl (Nat.le_of_ble_eq_true rfl) ⟨Nat.le_refl _, Nat.le_refl _⟩ ?_
    refine ev_if_eq (t := 38) dX10_isPlace_16 (by decide) (fun hc4 => ?_) (fun hc4 => ?_)
    · replace h := ab_pos hc4 h
      refine ev_iconst (x := 0) dX10_isPlace_38 (by decide) ?_
      cases h
      exact ev_zreturn rfl (Or.inl rfl) dX10_isPlace_39
    · replace h := ab_neg hc4 h
      refine ev_iload_n dX10_isPlace_19 rfl ?_
      refine ev_bipush (x := 64) dX10_isPlace_20 (by decide) ?_
      refine ev_irem dX10_isPlace_22 (by decide) ?_
      refine ev_i2l dX10_isPlace_23 ?_
      refine ev_lconst (x := 0) dX10_isPlace_24 (by decide) ?_
      refine ev_ldc2 kw_RX10_111 dX10_isPlace_25 ?_
      obtain ⟨q5, hv6, h⟩ := ab_bind h
      refine ev_callS (st := []) (co_X10_isIn M (Int32.toInt64 (ab_rem x0 64)) 0 60 _ hv6) mv_X10_isIn ml_RX10_113 dX10_isPlace_28 (by decide) rfl (Nat.le_of_ble_eq_true rfl) ⟨Nat.le_refl _, Nat.le_refl _⟩ ?_
      refine ev_if_eq (t := 38) dX10_isPlace_31 (by decide) (fun hc7 => ?_) (fun hc7 => ?_)
      · replace h := ab_pos hc7 h
        refine ev_iconst (x := 0) dX10_isPlace_38 (by decide) ?_
        cases h
        exact ev_zreturn rfl (Or.inl rfl) dX10_isPlace_39
      · replace h := ab_neg hc7 h
        refine ev_iconst (x := 1) dX10_isPlace_34 (by decide) ?_
        refine ev_goto (t := 39) dX10_isPlace_35 (by decide) ?_
        cases h
        exact ev_zreturn rfl (Or.inr rfl) dX10_isPlace_39

noncomputable def mi_X10_isSet (M : ab_M) (x0 : Int32) : Option (Int32) :=
  if x0 < 0 then
    some 0
  else
    if 1073741824 ≤ x0 then
      some 0
    else
      some 1

set_option maxHeartbeats 4000000 in
set_option maxRecDepth 100000 in
theorem co_X10_isSet {l : Launch} {D : va_G} {ac : Nat → ClassId} (M : ab_M) (x0 : Int32) (z : Int32) (h : mi_X10_isSet M x0 = some z) : ab_Con l D ac 1 me_X10_isSet 0 0 [.int x0] ab_SH M (some (.int z), ab_SH, M) := by
  refine ab_intro (lv := [some (.int x0)]) (by decide) rfl (Nat.le_of_ble_eq_true rfl) rfl ?_
  unfold mi_X10_isSet at h
  refine ev_iload_n dX10_isSet_0 rfl ?_
  refine ev_if_lt (t := 14) dX10_isSet_1 (by decide) (fun hc1 => ?_) (fun hc1 => ?_)
  · replace h := ab_pos hc1 h
    refine ev_iconst (x := 0) dX10_isSet_14 (by decide) ?_
    cases h
    exact ev_zreturn rfl (Or.inl rfl) dX10_isSet_15
  · replace h := ab_neg hc1 h
    refine ev_iload_n dX10_isSet_4 rfl ?_
    refine ev_ldc kw_RX10_117 dX10_isSet_5 ?_
    refine ev_icmp_ge (t := 14) dX10_isSet_7 (by decide) (fun hc2 => ?_) (fun hc2 => ?_)
    · replace h := ab_pos hc2 h
      refine ev_iconst (x := 0) dX10_isSet_14 (by decide) ?_
      cases h
      exact ev_zreturn rfl (Or.inl rfl) dX10_isSet_15
    · replace h := ab_neg hc2 h
      refine ev_iconst (x := 1) dX10_isSet_10 (by decide) ?_
      refine ev_goto (t := 15) dX10_isSet_11 (by decide) ?_
      cases h
      exact ev_zreturn rfl (Or.inr rfl) dX10_isSet_15

noncomputable def mi_X10_mast_169 : Nat → ab_M → Int32 → Int32 → Option (Int32 × ab_M)
  | 0, _, _, _ => none
  | n + 1, M, x4, x5 =>
    if x4 ≤ x5 then
      some (x5, M)
    else
      ab_chk (vp_in (M.1 69 10) 16) <|
      ab_chk (vp_in ((ab_pi M 78 (M.1 69 10).toNatClampNeg (M.1 69 1)).1 69 10) 16) <|
      ab_chk (vp_in ((ab_pi (ab_pi M 78 (M.1 69 10).toNatClampNeg (M.1 69 1)) 79 ((ab_pi M 78 (M.1 69 10).toNatClampNeg (M.1 69 1)).1 69 10).toNatClampNeg (-1)).1 69 10) 16) <|
      mi_X10_mast_169 n (ab_pi (ab_pi (ab_pi (ab_pi M 78 (M.1 69 10).toNatClampNeg (M.1 69 1)) 79 ((ab_pi M 78 (M.1 69 10).toNatClampNeg (M.1 69 1)).1 69 10).toNatClampNeg (-1)) 80 ((ab_pi (ab_pi M 78 (M.1 69 10).toNatClampNeg (M.1 69 1)) 79 ((ab_pi M 78 (M.1 69 10).toNatClampNeg (M.1 69 1)).1 69 10).toNatClampNeg (-1)).1 69 10).toNatClampNeg (-2)) 69 10 (((ab_pi (ab_pi (ab_pi M 78 (M.1 69 10).toNatClampNeg (M.1 69 1)) 79 ((ab_pi M 78 (M.1 69 10).toNatClampNeg (M.1 69 1)).1 69 10).toNatClampNeg (-1)) 80 ((ab_pi (ab_pi M 78 (M.1 69 10).toNatClampNeg (M.1 69 1)) 79 ((ab_pi M 78 (M.1 69 10).toNatClampNeg (M.1 69 1)).1 69 10).toNatClampNeg (-1)).1 69 10).toNatClampNeg (-2)).1 69 10) + 1)) x4 (x5 + 1)

set_option maxHeartbeats 4000000 in
set_option maxRecDepth 100000 in
theorem lp_X10_mast_169 {l : Launch} {D : va_G} {ac : Nat → ClassId} {n0 : Nat} {r : ab_Rs} : ∀ (n : Nat) (M : ab_M) (x4 : Int32) (x5 : Int32) (q : Int32 × ab_M) (h : mi_X10_mast_169 n M x4 x5 = some q) (kk : ab_Ev l D ac 3 me_X10_mast n0 0 0 r 0 0 ab_SH 226 [some (.ref 69), none, none, none, some (.int x4), some (.int q.1)] [] q.2), ab_Ev l D ac 3 me_X10_mast n0 0 0 r 0 0 ab_SH 169 [some (.ref 69), none, none, none, some (.int x4), some (.int x5)] [] M := by
  intro n
  induction n with
  | zero =>
    intro M x4 x5 q h kk
    cases h
  | succ n ih =>
    intro M x4 x5 q h kk
    unfold mi_X10_mast_169 at h
    refine ev_iload dX10_mast_169 rfl ?_
    refine ev_iload dX10_mast_171 rfl ?_
    refine ev_icmp_ge (t := 226) dX10_mast_173 (by decide) (fun hc23 => ?_) (fun hc23 => ?_)
    · replace h := ab_pos hc23 h
      cases h
      exact kk
    · replace h := ab_neg hc23 h
      refine ev_aload_n dX10_mast_176 rfl ?_
      refine ev_getr (o' := 78) fl_RX10_34 sh_69 (by decide) (by decide) rfl rfl dX10_mast_177 ?_
      refine ev_aload_n dX10_mast_180 rfl ?_
      refine ev_geti fl_RX10_108 sh_69 (by decide) (by decide) rfl dX10_mast_181 ?_
      refine ev_aload_n dX10_mast_184 rfl ?_
      refine ev_geti fl_RX10_105 sh_69 (by decide) (by decide) rfl dX10_mast_185 ?_
      obtain ⟨hb24, h⟩ := ab_chk_some h
      refine ev_iastore sh_78 hb24 dX10_mast_188 ?_
      refine ev_aload_n dX10_mast_189 rfl ?_
      refine ev_getr (o' := 79) fl_RX10_37 sh_69 (by decide) (by decide) rfl rfl dX10_mast_190 ?_
      refine ev_aload_n dX10_mast_193 rfl ?_
      refine ev_geti fl_RX10_108 sh_69 (by decide) (by decide) rfl dX10_mast_194 ?_
      refine ev_iconst (x := (-1)) dX10_mast_197 (by decide) ?_
      obtain ⟨hb25, h⟩ := ab_chk_some h
      refine ev_iastore sh_79 hb25 dX10_mast_198 ?_
      refine ev_aload_n dX10_mast_199 rfl ?_
      refine ev_getr (o' := 80) fl_RX10_40 sh_69 (by decide) (by decide) rfl rfl dX10_mast_200 ?_
      refine ev_aload_n dX10_mast_203 rfl ?_
      refine ev_geti fl_RX10_108 sh_69 (by decide) (by decide) rfl dX10_mast_204 ?_
      refine ev_bipush (x := (-2)) dX10_mast_207 (by decide) ?_
      obtain ⟨hb26, h⟩ := ab_chk_some h
      refine ev_iastore sh_80 hb26 dX10_mast_209 ?_
      refine ev_aload_n dX10_mast_210 rfl ?_
      refine ev_dup dX10_mast_211 rfl ?_
      refine ev_geti fl_RX10_108 sh_69 (by decide) (by decide) rfl dX10_mast_212 ?_
      refine ev_iconst (x := 1) dX10_mast_215 (by decide) ?_
      refine ev_iadd dX10_mast_216 ?_
      refine ev_puti fl_RX10_108 sh_69 (by decide) (by decide) rfl rfl rfl dX10_mast_217 ?_
      refine ev_iinc (y := x5 + 1) dX10_mast_220 rfl (by first | rfl | decide) rfl rfl ?_
      refine ev_goto (t := 169) dX10_mast_223 (by decide) ?_
      exact ih (ab_pi (ab_pi (ab_pi (ab_pi M 78 (M.1 69 10).toNatClampNeg (M.1 69 1)) 79 ((ab_pi M 78 (M.1 69 10).toNatClampNeg (M.1 69 1)).1 69 10).toNatClampNeg (-1)) 80 ((ab_pi (ab_pi M 78 (M.1 69 10).toNatClampNeg (M.1 69 1)) 79 ((ab_pi M 78 (M.1 69 10).toNatClampNeg (M.1 69 1)).1 69 10).toNatClampNeg (-1)).1 69 10).toNatClampNeg (-2)) 69 10 (((ab_pi (ab_pi (ab_pi M 78 (M.1 69 10).toNatClampNeg (M.1 69 1)) 79 ((ab_pi M 78 (M.1 69 10).toNatClampNeg (M.1 69 1)).1 69 10).toNatClampNeg (-1)) 80 ((ab_pi (ab_pi M 78 (M.1 69 10).toNatClampNeg (M.1 69 1)) 79 ((ab_pi M 78 (M.1 69 10).toNatClampNeg (M.1 69 1)).1 69 10).toNatClampNeg (-1)).1 69 10).toNatClampNeg (-2)).1 69 10) + 1)) x4 (x5 + 1) _ h kk

noncomputable def mi_X10_mast (M : ab_M) (x1 : Int32) (x2 : Int32) (x3 : Int32) (x4 : Int32) : Option (Int32 × ab_M) :=
  (mi_X10_isIn (ab_pi M 69 0 0) (Int32.toInt64 x1) 0 3).bind fun q1 =>
  if q1 = 0 then
    some ((-1), (ab_pi M 69 0 0))
  else
    (mi_X10_isPlace (ab_pi M 69 0 0) x2).bind fun q4 =>
    if q4 = 0 then
      some ((-1), (ab_pi M 69 0 0))
    else
      (mi_X10_isIn (ab_pi M 69 0 0) (Int32.toInt64 x3) 0 3).bind fun q7 =>
      if q7 = 0 then
        some ((-1), (ab_pi M 69 0 0))
      else
        (mi_X10_isIn (ab_pi M 69 0 0) (Int32.toInt64 x4) 1 3).bind fun q10 =>
        if q10 = 0 then
          some ((-1), (ab_pi M 69 0 0))
        else
          if ((ab_pi M 69 0 0).1 69 1) = 12 then
            some ((-2), (ab_pi M 69 0 0))
          else
            if (((ab_pi M 69 0 0).1 69 10) + x4) ≤ 16 then
              ab_chk (vp_in ((ab_pi M 69 0 0).1 69 1) 12) <|
              ab_chk (vp_in ((ab_pi (ab_pi M 69 0 0) 70 ((ab_pi M 69 0 0).1 69 1).toNatClampNeg x1).1 69 1) 12) <|
              ab_chk (vp_in ((ab_pi (ab_pi (ab_pi M 69 0 0) 70 ((ab_pi M 69 0 0).1 69 1).toNatClampNeg x1) 71 ((ab_pi (ab_pi M 69 0 0) 70 ((ab_pi M 69 0 0).1 69 1).toNatClampNeg x1).1 69 1).toNatClampNeg (x2 / 64)).1 69 1) 12) <|
              ab_chk (vp_in ((ab_pi (ab_pi (ab_pi (ab_pi M 69 0 0) 70 ((ab_pi M 69 0 0).1 69 1).toNatClampNeg x1) 71 ((ab_pi (ab_pi M 69 0 0) 70 ((ab_pi M 69 0 0).1 69 1).toNatClampNeg x1).1 69 1).toNatClampNeg (x2 / 64)) 72 ((ab_pi (ab_pi (ab_pi M 69 0 0) 70 ((ab_pi M 69 0 0).1 69 1).toNatClampNeg x1) 71 ((ab_pi (ab_pi M 69 0 0) 70 ((ab_pi M 69 0 0).1 69 1).toNatClampNeg x1).1 69 1).toNatClampNeg (x2 / 64)).1 69 1).toNatClampNeg (ab_rem x2 64)).1 69 1) 12) <|
              ab_chk (vp_in ((ab_pi (ab_pi (ab_pi (ab_pi (ab_pi M 69 0 0) 70 ((ab_pi M 69 0 0).1 69 1).toNatClampNeg x1) 71 ((ab_pi (ab_pi M 69 0 0) 70 ((ab_pi M 69 0 0).1 69 1).toNatClampNeg x1).1 69 1).toNatClampNeg (x2 / 64)) 72 ((ab_pi (ab_pi (ab_pi M 69 0 0) 70 ((ab_pi M 69 0 0).1 69 1).toNatClampNeg x1) 71 ((ab_pi (ab_pi M 69 0 0) 70 ((ab_pi M 69 0 0).1 69 1).toNatClampNeg x1).1 69 1).toNatClampNeg (x2 / 64)).1 69 1).toNatClampNeg (ab_rem x2 64)) 73 ((ab_pi (ab_pi (ab_pi (ab_pi M 69 0 0) 70 ((ab_pi M 69 0 0).1 69 1).toNatClampNeg x1) 71 ((ab_pi (ab_pi M 69 0 0) 70 ((ab_pi M 69 0 0).1 69 1).toNatClampNeg x1).1 69 1).toNatClampNeg (x2 / 64)) 72 ((ab_pi (ab_pi (ab_pi M 69 0 0) 70 ((ab_pi M 69 0 0).1 69 1).toNatClampNeg x1) 71 ((ab_pi (ab_pi M 69 0 0) 70 ((ab_pi M 69 0 0).1 69 1).toNatClampNeg x1).1 69 1).toNatClampNeg (x2 / 64)).1 69 1).toNatClampNeg (ab_rem x2 64)).1 69 1).toNatClampNeg x3).1 69 1) 12) <|
              ab_chk (vp_in ((ab_pi (ab_pi (ab_pi (ab_pi (ab_pi (ab_pi M 69 0 0) 70 ((ab_pi M 69 0 0).1 69 1).toNatClampNeg x1) 71 ((ab_pi (ab_pi M 69 0 0) 70 ((ab_pi M 69 0 0).1 69 1).toNatClampNeg x1).1 69 1).toNatClampNeg (x2 / 64)) 72 ((ab_pi (ab_pi (ab_pi M 69 0 0) 70 ((ab_pi M 69 0 0).1 69 1).toNatClampNeg x1) 71 ((ab_pi (ab_pi M 69 0 0) 70 ((ab_pi M 69 0 0).1 69 1).toNatClampNeg x1).1 69 1).toNatClampNeg (x2 / 64)).1 69 1).toNatClampNeg (ab_rem x2 64)) 73 ((ab_pi (ab_pi (ab_pi (ab_pi M 69 0 0) 70 ((ab_pi M 69 0 0).1 69 1).toNatClampNeg x1) 71 ((ab_pi (ab_pi M 69 0 0) 70 ((ab_pi M 69 0 0).1 69 1).toNatClampNeg x1).1 69 1).toNatClampNeg (x2 / 64)) 72 ((ab_pi (ab_pi (ab_pi M 69 0 0) 70 ((ab_pi M 69 0 0).1 69 1).toNatClampNeg x1) 71 ((ab_pi (ab_pi M 69 0 0) 70 ((ab_pi M 69 0 0).1 69 1).toNatClampNeg x1).1 69 1).toNatClampNeg (x2 / 64)).1 69 1).toNatClampNeg (ab_rem x2 64)).1 69 1).toNatClampNeg x3) 74 ((ab_pi (ab_pi (ab_pi (ab_pi (ab_pi M 69 0 0) 70 ((ab_pi M 69 0 0).1 69 1).toNatClampNeg x1) 71 ((ab_pi (ab_pi M 69 0 0) 70 ((ab_pi M 69 0 0).1 69 1).toNatClampNeg x1).1 69 1).toNatClampNeg (x2 / 64)) 72 ((ab_pi (ab_pi (ab_pi M 69 0 0) 70 ((ab_pi M 69 0 0).1 69 1).toNatClampNeg x1) 71 ((ab_pi (ab_pi M 69 0 0) 70 ((ab_pi M 69 0 0).1 69 1).toNatClampNeg x1).1 69 1).toNatClampNeg (x2 / 64)).1 69 1).toNatClampNeg (ab_rem x2 64)) 73 ((ab_pi (ab_pi (ab_pi (ab_pi M 69 0 0) 70 ((ab_pi M 69 0 0).1 69 1).toNatClampNeg x1) 71 ((ab_pi (ab_pi M 69 0 0) 70 ((ab_pi M 69 0 0).1 69 1).toNatClampNeg x1).1 69 1).toNatClampNeg (x2 / 64)) 72 ((ab_pi (ab_pi (ab_pi M 69 0 0) 70 ((ab_pi M 69 0 0).1 69 1).toNatClampNeg x1) 71 ((ab_pi (ab_pi M 69 0 0) 70 ((ab_pi M 69 0 0).1 69 1).toNatClampNeg x1).1 69 1).toNatClampNeg (x2 / 64)).1 69 1).toNatClampNeg (ab_rem x2 64)).1 69 1).toNatClampNeg x3).1 69 1).toNatClampNeg x4).1 69 1) 12) <|
              ab_chk (vp_in ((ab_pi (ab_pi (ab_pi (ab_pi (ab_pi (ab_pi (ab_pi M 69 0 0) 70 ((ab_pi M 69 0 0).1 69 1).toNatClampNeg x1) 71 ((ab_pi (ab_pi M 69 0 0) 70 ((ab_pi M 69 0 0).1 69 1).toNatClampNeg x1).1 69 1).toNatClampNeg (x2 / 64)) 72 ((ab_pi (ab_pi (ab_pi M 69 0 0) 70 ((ab_pi M 69 0 0).1 69 1).toNatClampNeg x1) 71 ((ab_pi (ab_pi M 69 0 0) 70 ((ab_pi M 69 0 0).1 69 1).toNatClampNeg x1).1 69 1).toNatClampNeg (x2 / 64)).1 69 1).toNatClampNeg (ab_rem x2 64)) 73 ((ab_pi (ab_pi (ab_pi (ab_pi M 69 0 0) 70 ((ab_pi M 69 0 0).1 69 1).toNatClampNeg x1) 71 ((ab_pi (ab_pi M 69 0 0) 70 ((ab_pi M 69 0 0).1 69 1).toNatClampNeg x1).1 69 1).toNatClampNeg (x2 / 64)) 72 ((ab_pi (ab_pi (ab_pi M 69 0 0) 70 ((ab_pi M 69 0 0).1 69 1).toNatClampNeg x1) 71 ((ab_pi (ab_pi M 69 0 0) 70 ((ab_pi M 69 0 0).1 69 1).toNatClampNeg x1).1 69 1).toNatClampNeg (x2 / 64)).1 69 1).toNatClampNeg (ab_rem x2 64)).1 69 1).toNatClampNeg x3) 74 ((ab_pi (ab_pi (ab_pi (ab_pi (ab_pi M 69 0 0) 70 ((ab_pi M 69 0 0).1 69 1).toNatClampNeg x1) 71 ((ab_pi (ab_pi M 69 0 0) 70 ((ab_pi M 69 0 0).1 69 1).toNatClampNeg x1).1 69 1).toNatClampNeg (x2 / 64)) 72 ((ab_pi (ab_pi (ab_pi M 69 0 0) 70 ((ab_pi M 69 0 0).1 69 1).toNatClampNeg x1) 71 ((ab_pi (ab_pi M 69 0 0) 70 ((ab_pi M 69 0 0).1 69 1).toNatClampNeg x1).1 69 1).toNatClampNeg (x2 / 64)).1 69 1).toNatClampNeg (ab_rem x2 64)) 73 ((ab_pi (ab_pi (ab_pi (ab_pi M 69 0 0) 70 ((ab_pi M 69 0 0).1 69 1).toNatClampNeg x1) 71 ((ab_pi (ab_pi M 69 0 0) 70 ((ab_pi M 69 0 0).1 69 1).toNatClampNeg x1).1 69 1).toNatClampNeg (x2 / 64)) 72 ((ab_pi (ab_pi (ab_pi M 69 0 0) 70 ((ab_pi M 69 0 0).1 69 1).toNatClampNeg x1) 71 ((ab_pi (ab_pi M 69 0 0) 70 ((ab_pi M 69 0 0).1 69 1).toNatClampNeg x1).1 69 1).toNatClampNeg (x2 / 64)).1 69 1).toNatClampNeg (ab_rem x2 64)).1 69 1).toNatClampNeg x3).1 69 1).toNatClampNeg x4) 75 ((ab_pi (ab_pi (ab_pi (ab_pi (ab_pi (ab_pi M 69 0 0) 70 ((ab_pi M 69 0 0).1 69 1).toNatClampNeg x1) 71 ((ab_pi (ab_pi M 69 0 0) 70 ((ab_pi M 69 0 0).1 69 1).toNatClampNeg x1).1 69 1).toNatClampNeg (x2 / 64)) 72 ((ab_pi (ab_pi (ab_pi M 69 0 0) 70 ((ab_pi M 69 0 0).1 69 1).toNatClampNeg x1) 71 ((ab_pi (ab_pi M 69 0 0) 70 ((ab_pi M 69 0 0).1 69 1).toNatClampNeg x1).1 69 1).toNatClampNeg (x2 / 64)).1 69 1).toNatClampNeg (ab_rem x2 64)) 73 ((ab_pi (ab_pi (ab_pi (ab_pi M 69 0 0) 70 ((ab_pi M 69 0 0).1 69 1).toNatClampNeg x1) 71 ((ab_pi (ab_pi M 69 0 0) 70 ((ab_pi M 69 0 0).1 69 1).toNatClampNeg x1).1 69 1).toNatClampNeg (x2 / 64)) 72 ((ab_pi (ab_pi (ab_pi M 69 0 0) 70 ((ab_pi M 69 0 0).1 69 1).toNatClampNeg x1) 71 ((ab_pi (ab_pi M 69 0 0) 70 ((ab_pi M 69 0 0).1 69 1).toNatClampNeg x1).1 69 1).toNatClampNeg (x2 / 64)).1 69 1).toNatClampNeg (ab_rem x2 64)).1 69 1).toNatClampNeg x3) 74 ((ab_pi (ab_pi (ab_pi (ab_pi (ab_pi M 69 0 0) 70 ((ab_pi M 69 0 0).1 69 1).toNatClampNeg x1) 71 ((ab_pi (ab_pi M 69 0 0) 70 ((ab_pi M 69 0 0).1 69 1).toNatClampNeg x1).1 69 1).toNatClampNeg (x2 / 64)) 72 ((ab_pi (ab_pi (ab_pi M 69 0 0) 70 ((ab_pi M 69 0 0).1 69 1).toNatClampNeg x1) 71 ((ab_pi (ab_pi M 69 0 0) 70 ((ab_pi M 69 0 0).1 69 1).toNatClampNeg x1).1 69 1).toNatClampNeg (x2 / 64)).1 69 1).toNatClampNeg (ab_rem x2 64)) 73 ((ab_pi (ab_pi (ab_pi (ab_pi M 69 0 0) 70 ((ab_pi M 69 0 0).1 69 1).toNatClampNeg x1) 71 ((ab_pi (ab_pi M 69 0 0) 70 ((ab_pi M 69 0 0).1 69 1).toNatClampNeg x1).1 69 1).toNatClampNeg (x2 / 64)) 72 ((ab_pi (ab_pi (ab_pi M 69 0 0) 70 ((ab_pi M 69 0 0).1 69 1).toNatClampNeg x1) 71 ((ab_pi (ab_pi M 69 0 0) 70 ((ab_pi M 69 0 0).1 69 1).toNatClampNeg x1).1 69 1).toNatClampNeg (x2 / 64)).1 69 1).toNatClampNeg (ab_rem x2 64)).1 69 1).toNatClampNeg x3).1 69 1).toNatClampNeg x4).1 69 1).toNatClampNeg ((ab_pi (ab_pi (ab_pi (ab_pi (ab_pi (ab_pi M 69 0 0) 70 ((ab_pi M 69 0 0).1 69 1).toNatClampNeg x1) 71 ((ab_pi (ab_pi M 69 0 0) 70 ((ab_pi M 69 0 0).1 69 1).toNatClampNeg x1).1 69 1).toNatClampNeg (x2 / 64)) 72 ((ab_pi (ab_pi (ab_pi M 69 0 0) 70 ((ab_pi M 69 0 0).1 69 1).toNatClampNeg x1) 71 ((ab_pi (ab_pi M 69 0 0) 70 ((ab_pi M 69 0 0).1 69 1).toNatClampNeg x1).1 69 1).toNatClampNeg (x2 / 64)).1 69 1).toNatClampNeg (ab_rem x2 64)) 73 ((ab_pi (ab_pi (ab_pi (ab_pi M 69 0 0) 70 ((ab_pi M 69 0 0).1 69 1).toNatClampNeg x1) 71 ((ab_pi (ab_pi M 69 0 0) 70 ((ab_pi M 69 0 0).1 69 1).toNatClampNeg x1).1 69 1).toNatClampNeg (x2 / 64)) 72 ((ab_pi (ab_pi (ab_pi M 69 0 0) 70 ((ab_pi M 69 0 0).1 69 1).toNatClampNeg x1) 71 ((ab_pi (ab_pi M 69 0 0) 70 ((ab_pi M 69 0 0).1 69 1).toNatClampNeg x1).1 69 1).toNatClampNeg (x2 / 64)).1 69 1).toNatClampNeg (ab_rem x2 64)).1 69 1).toNatClampNeg x3) 74 ((ab_pi (ab_pi (ab_pi (ab_pi (ab_pi M 69 0 0) 70 ((ab_pi M 69 0 0).1 69 1).toNatClampNeg x1) 71 ((ab_pi (ab_pi M 69 0 0) 70 ((ab_pi M 69 0 0).1 69 1).toNatClampNeg x1).1 69 1).toNatClampNeg (x2 / 64)) 72 ((ab_pi (ab_pi (ab_pi M 69 0 0) 70 ((ab_pi M 69 0 0).1 69 1).toNatClampNeg x1) 71 ((ab_pi (ab_pi M 69 0 0) 70 ((ab_pi M 69 0 0).1 69 1).toNatClampNeg x1).1 69 1).toNatClampNeg (x2 / 64)).1 69 1).toNatClampNeg (ab_rem x2 64)) 73 ((ab_pi (ab_pi (ab_pi (ab_pi M 69 0 0) 70 ((ab_pi M 69 0 0).1 69 1).toNatClampNeg x1) 71 ((ab_pi (ab_pi M 69 0 0) 70 ((ab_pi M 69 0 0).1 69 1).toNatClampNeg x1).1 69 1).toNatClampNeg (x2 / 64)) 72 ((ab_pi (ab_pi (ab_pi M 69 0 0) 70 ((ab_pi M 69 0 0).1 69 1).toNatClampNeg x1) 71 ((ab_pi (ab_pi M 69 0 0) 70 ((ab_pi M 69 0 0).1 69 1).toNatClampNeg x1).1 69 1).toNatClampNeg (x2 / 64)).1 69 1).toNatClampNeg (ab_rem x2 64)).1 69 1).toNatClampNeg x3).1 69 1).toNatClampNeg x4).1 69 10)).1 69 1) 12) <|
              ab_chk (vp_in ((ab_pi (ab_pi (ab_pi (ab_pi (ab_pi (ab_pi (ab_pi (ab_pi M 69 0 0) 70 ((ab_pi M 69 0 0).1 69 1).toNatClampNeg x1) 71 ((ab_pi (ab_pi M 69 0 0) 70 ((ab_pi M 69 0 0).1 69 1).toNatClampNeg x1).1 69 1).toNatClampNeg (x2 / 64)) 72 ((ab_pi (ab_pi (ab_pi M 69 0 0) 70 ((ab_pi M 69 0 0).1 69 1).toNatClampNeg x1) 71 ((ab_pi (ab_pi M 69 0 0) 70 ((ab_pi M 69 0 0).1 69 1).toNatClampNeg x1).1 69 1).toNatClampNeg (x2 / 64)).1 69 1).toNatClampNeg (ab_rem x2 64)) 73 ((ab_pi (ab_pi (ab_pi (ab_pi M 69 0 0) 70 ((ab_pi M 69 0 0).1 69 1).toNatClampNeg x1) 71 ((ab_pi (ab_pi M 69 0 0) 70 ((ab_pi M 69 0 0).1 69 1).toNatClampNeg x1).1 69 1).toNatClampNeg (x2 / 64)) 72 ((ab_pi (ab_pi (ab_pi M 69 0 0) 70 ((ab_pi M 69 0 0).1 69 1).toNatClampNeg x1) 71 ((ab_pi (ab_pi M 69 0 0) 70 ((ab_pi M 69 0 0).1 69 1).toNatClampNeg x1).1 69 1).toNatClampNeg (x2 / 64)).1 69 1).toNatClampNeg (ab_rem x2 64)).1 69 1).toNatClampNeg x3) 74 ((ab_pi (ab_pi (ab_pi (ab_pi (ab_pi M 69 0 0) 70 ((ab_pi M 69 0 0).1 69 1).toNatClampNeg x1) 71 ((ab_pi (ab_pi M 69 0 0) 70 ((ab_pi M 69 0 0).1 69 1).toNatClampNeg x1).1 69 1).toNatClampNeg (x2 / 64)) 72 ((ab_pi (ab_pi (ab_pi M 69 0 0) 70 ((ab_pi M 69 0 0).1 69 1).toNatClampNeg x1) 71 ((ab_pi (ab_pi M 69 0 0) 70 ((ab_pi M 69 0 0).1 69 1).toNatClampNeg x1).1 69 1).toNatClampNeg (x2 / 64)).1 69 1).toNatClampNeg (ab_rem x2 64)) 73 ((ab_pi (ab_pi (ab_pi (ab_pi M 69 0 0) 70 ((ab_pi M 69 0 0).1 69 1).toNatClampNeg x1) 71 ((ab_pi (ab_pi M 69 0 0) 70 ((ab_pi M 69 0 0).1 69 1).toNatClampNeg x1).1 69 1).toNatClampNeg (x2 / 64)) 72 ((ab_pi (ab_pi (ab_pi M 69 0 0) 70 ((ab_pi M 69 0 0).1 69 1).toNatClampNeg x1) 71 ((ab_pi (ab_pi M 69 0 0) 70 ((ab_pi M 69 0 0).1 69 1).toNatClampNeg x1).1 69 1).toNatClampNeg (x2 / 64)).1 69 1).toNatClampNeg (ab_rem x2 64)).1 69 1).toNatClampNeg x3).1 69 1).toNatClampNeg x4) 75 ((ab_pi (ab_pi (ab_pi (ab_pi (ab_pi (ab_pi M 69 0 0) 70 ((ab_pi M 69 0 0).1 69 1).toNatClampNeg x1) 71 ((ab_pi (ab_pi M 69 0 0) 70 ((ab_pi M 69 0 0).1 69 1).toNatClampNeg x1).1 69 1).toNatClampNeg (x2 / 64)) 72 ((ab_pi (ab_pi (ab_pi M 69 0 0) 70 ((ab_pi M 69 0 0).1 69 1).toNatClampNeg x1) 71 ((ab_pi (ab_pi M 69 0 0) 70 ((ab_pi M 69 0 0).1 69 1).toNatClampNeg x1).1 69 1).toNatClampNeg (x2 / 64)).1 69 1).toNatClampNeg (ab_rem x2 64)) 73 ((ab_pi (ab_pi (ab_pi (ab_pi M 69 0 0) 70 ((ab_pi M 69 0 0).1 69 1).toNatClampNeg x1) 71 ((ab_pi (ab_pi M 69 0 0) 70 ((ab_pi M 69 0 0).1 69 1).toNatClampNeg x1).1 69 1).toNatClampNeg (x2 / 64)) 72 ((ab_pi (ab_pi (ab_pi M 69 0 0) 70 ((ab_pi M 69 0 0).1 69 1).toNatClampNeg x1) 71 ((ab_pi (ab_pi M 69 0 0) 70 ((ab_pi M 69 0 0).1 69 1).toNatClampNeg x1).1 69 1).toNatClampNeg (x2 / 64)).1 69 1).toNatClampNeg (ab_rem x2 64)).1 69 1).toNatClampNeg x3) 74 ((ab_pi (ab_pi (ab_pi (ab_pi (ab_pi M 69 0 0) 70 ((ab_pi M 69 0 0).1 69 1).toNatClampNeg x1) 71 ((ab_pi (ab_pi M 69 0 0) 70 ((ab_pi M 69 0 0).1 69 1).toNatClampNeg x1).1 69 1).toNatClampNeg (x2 / 64)) 72 ((ab_pi (ab_pi (ab_pi M 69 0 0) 70 ((ab_pi M 69 0 0).1 69 1).toNatClampNeg x1) 71 ((ab_pi (ab_pi M 69 0 0) 70 ((ab_pi M 69 0 0).1 69 1).toNatClampNeg x1).1 69 1).toNatClampNeg (x2 / 64)).1 69 1).toNatClampNeg (ab_rem x2 64)) 73 ((ab_pi (ab_pi (ab_pi (ab_pi M 69 0 0) 70 ((ab_pi M 69 0 0).1 69 1).toNatClampNeg x1) 71 ((ab_pi (ab_pi M 69 0 0) 70 ((ab_pi M 69 0 0).1 69 1).toNatClampNeg x1).1 69 1).toNatClampNeg (x2 / 64)) 72 ((ab_pi (ab_pi (ab_pi M 69 0 0) 70 ((ab_pi M 69 0 0).1 69 1).toNatClampNeg x1) 71 ((ab_pi (ab_pi M 69 0 0) 70 ((ab_pi M 69 0 0).1 69 1).toNatClampNeg x1).1 69 1).toNatClampNeg (x2 / 64)).1 69 1).toNatClampNeg (ab_rem x2 64)).1 69 1).toNatClampNeg x3).1 69 1).toNatClampNeg x4).1 69 1).toNatClampNeg ((ab_pi (ab_pi (ab_pi (ab_pi (ab_pi (ab_pi M 69 0 0) 70 ((ab_pi M 69 0 0).1 69 1).toNatClampNeg x1) 71 ((ab_pi (ab_pi M 69 0 0) 70 ((ab_pi M 69 0 0).1 69 1).toNatClampNeg x1).1 69 1).toNatClampNeg (x2 / 64)) 72 ((ab_pi (ab_pi (ab_pi M 69 0 0) 70 ((ab_pi M 69 0 0).1 69 1).toNatClampNeg x1) 71 ((ab_pi (ab_pi M 69 0 0) 70 ((ab_pi M 69 0 0).1 69 1).toNatClampNeg x1).1 69 1).toNatClampNeg (x2 / 64)).1 69 1).toNatClampNeg (ab_rem x2 64)) 73 ((ab_pi (ab_pi (ab_pi (ab_pi M 69 0 0) 70 ((ab_pi M 69 0 0).1 69 1).toNatClampNeg x1) 71 ((ab_pi (ab_pi M 69 0 0) 70 ((ab_pi M 69 0 0).1 69 1).toNatClampNeg x1).1 69 1).toNatClampNeg (x2 / 64)) 72 ((ab_pi (ab_pi (ab_pi M 69 0 0) 70 ((ab_pi M 69 0 0).1 69 1).toNatClampNeg x1) 71 ((ab_pi (ab_pi M 69 0 0) 70 ((ab_pi M 69 0 0).1 69 1).toNatClampNeg x1).1 69 1).toNatClampNeg (x2 / 64)).1 69 1).toNatClampNeg (ab_rem x2 64)).1 69 1).toNatClampNeg x3) 74 ((ab_pi (ab_pi (ab_pi (ab_pi (ab_pi M 69 0 0) 70 ((ab_pi M 69 0 0).1 69 1).toNatClampNeg x1) 71 ((ab_pi (ab_pi M 69 0 0) 70 ((ab_pi M 69 0 0).1 69 1).toNatClampNeg x1).1 69 1).toNatClampNeg (x2 / 64)) 72 ((ab_pi (ab_pi (ab_pi M 69 0 0) 70 ((ab_pi M 69 0 0).1 69 1).toNatClampNeg x1) 71 ((ab_pi (ab_pi M 69 0 0) 70 ((ab_pi M 69 0 0).1 69 1).toNatClampNeg x1).1 69 1).toNatClampNeg (x2 / 64)).1 69 1).toNatClampNeg (ab_rem x2 64)) 73 ((ab_pi (ab_pi (ab_pi (ab_pi M 69 0 0) 70 ((ab_pi M 69 0 0).1 69 1).toNatClampNeg x1) 71 ((ab_pi (ab_pi M 69 0 0) 70 ((ab_pi M 69 0 0).1 69 1).toNatClampNeg x1).1 69 1).toNatClampNeg (x2 / 64)) 72 ((ab_pi (ab_pi (ab_pi M 69 0 0) 70 ((ab_pi M 69 0 0).1 69 1).toNatClampNeg x1) 71 ((ab_pi (ab_pi M 69 0 0) 70 ((ab_pi M 69 0 0).1 69 1).toNatClampNeg x1).1 69 1).toNatClampNeg (x2 / 64)).1 69 1).toNatClampNeg (ab_rem x2 64)).1 69 1).toNatClampNeg x3).1 69 1).toNatClampNeg x4).1 69 10)) 76 ((ab_pi (ab_pi (ab_pi (ab_pi (ab_pi (ab_pi (ab_pi M 69 0 0) 70 ((ab_pi M 69 0 0).1 69 1).toNatClampNeg x1) 71 ((ab_pi (ab_pi M 69 0 0) 70 ((ab_pi M 69 0 0).1 69 1).toNatClampNeg x1).1 69 1).toNatClampNeg (x2 / 64)) 72 ((ab_pi (ab_pi (ab_pi M 69 0 0) 70 ((ab_pi M 69 0 0).1 69 1).toNatClampNeg x1) 71 ((ab_pi (ab_pi M 69 0 0) 70 ((ab_pi M 69 0 0).1 69 1).toNatClampNeg x1).1 69 1).toNatClampNeg (x2 / 64)).1 69 1).toNatClampNeg (ab_rem x2 64)) 73 ((ab_pi (ab_pi (ab_pi (ab_pi M 69 0 0) 70 ((ab_pi M 69 0 0).1 69 1).toNatClampNeg x1) 71 ((ab_pi (ab_pi M 69 0 0) 70 ((ab_pi M 69 0 0).1 69 1).toNatClampNeg x1).1 69 1).toNatClampNeg (x2 / 64)) 72 ((ab_pi (ab_pi (ab_pi M 69 0 0) 70 ((ab_pi M 69 0 0).1 69 1).toNatClampNeg x1) 71 ((ab_pi (ab_pi M 69 0 0) 70 ((ab_pi M 69 0 0).1 69 1).toNatClampNeg x1).1 69 1).toNatClampNeg (x2 / 64)).1 69 1).toNatClampNeg (ab_rem x2 64)).1 69 1).toNatClampNeg x3) 74 ((ab_pi (ab_pi (ab_pi (ab_pi (ab_pi M 69 0 0) 70 ((ab_pi M 69 0 0).1 69 1).toNatClampNeg x1) 71 ((ab_pi (ab_pi M 69 0 0) 70 ((ab_pi M 69 0 0).1 69 1).toNatClampNeg x1).1 69 1).toNatClampNeg (x2 / 64)) 72 ((ab_pi (ab_pi (ab_pi M 69 0 0) 70 ((ab_pi M 69 0 0).1 69 1).toNatClampNeg x1) 71 ((ab_pi (ab_pi M 69 0 0) 70 ((ab_pi M 69 0 0).1 69 1).toNatClampNeg x1).1 69 1).toNatClampNeg (x2 / 64)).1 69 1).toNatClampNeg (ab_rem x2 64)) 73 ((ab_pi (ab_pi (ab_pi (ab_pi M 69 0 0) 70 ((ab_pi M 69 0 0).1 69 1).toNatClampNeg x1) 71 ((ab_pi (ab_pi M 69 0 0) 70 ((ab_pi M 69 0 0).1 69 1).toNatClampNeg x1).1 69 1).toNatClampNeg (x2 / 64)) 72 ((ab_pi (ab_pi (ab_pi M 69 0 0) 70 ((ab_pi M 69 0 0).1 69 1).toNatClampNeg x1) 71 ((ab_pi (ab_pi M 69 0 0) 70 ((ab_pi M 69 0 0).1 69 1).toNatClampNeg x1).1 69 1).toNatClampNeg (x2 / 64)).1 69 1).toNatClampNeg (ab_rem x2 64)).1 69 1).toNatClampNeg x3).1 69 1).toNatClampNeg x4) 75 ((ab_pi (ab_pi (ab_pi (ab_pi (ab_pi (ab_pi M 69 0 0) 70 ((ab_pi M 69 0 0).1 69 1).toNatClampNeg x1) 71 ((ab_pi (ab_pi M 69 0 0) 70 ((ab_pi M 69 0 0).1 69 1).toNatClampNeg x1).1 69 1).toNatClampNeg (x2 / 64)) 72 ((ab_pi (ab_pi (ab_pi M 69 0 0) 70 ((ab_pi M 69 0 0).1 69 1).toNatClampNeg x1) 71 ((ab_pi (ab_pi M 69 0 0) 70 ((ab_pi M 69 0 0).1 69 1).toNatClampNeg x1).1 69 1).toNatClampNeg (x2 / 64)).1 69 1).toNatClampNeg (ab_rem x2 64)) 73 ((ab_pi (ab_pi (ab_pi (ab_pi M 69 0 0) 70 ((ab_pi M 69 0 0).1 69 1).toNatClampNeg x1) 71 ((ab_pi (ab_pi M 69 0 0) 70 ((ab_pi M 69 0 0).1 69 1).toNatClampNeg x1).1 69 1).toNatClampNeg (x2 / 64)) 72 ((ab_pi (ab_pi (ab_pi M 69 0 0) 70 ((ab_pi M 69 0 0).1 69 1).toNatClampNeg x1) 71 ((ab_pi (ab_pi M 69 0 0) 70 ((ab_pi M 69 0 0).1 69 1).toNatClampNeg x1).1 69 1).toNatClampNeg (x2 / 64)).1 69 1).toNatClampNeg (ab_rem x2 64)).1 69 1).toNatClampNeg x3) 74 ((ab_pi (ab_pi (ab_pi (ab_pi (ab_pi M 69 0 0) 70 ((ab_pi M 69 0 0).1 69 1).toNatClampNeg x1) 71 ((ab_pi (ab_pi M 69 0 0) 70 ((ab_pi M 69 0 0).1 69 1).toNatClampNeg x1).1 69 1).toNatClampNeg (x2 / 64)) 72 ((ab_pi (ab_pi (ab_pi M 69 0 0) 70 ((ab_pi M 69 0 0).1 69 1).toNatClampNeg x1) 71 ((ab_pi (ab_pi M 69 0 0) 70 ((ab_pi M 69 0 0).1 69 1).toNatClampNeg x1).1 69 1).toNatClampNeg (x2 / 64)).1 69 1).toNatClampNeg (ab_rem x2 64)) 73 ((ab_pi (ab_pi (ab_pi (ab_pi M 69 0 0) 70 ((ab_pi M 69 0 0).1 69 1).toNatClampNeg x1) 71 ((ab_pi (ab_pi M 69 0 0) 70 ((ab_pi M 69 0 0).1 69 1).toNatClampNeg x1).1 69 1).toNatClampNeg (x2 / 64)) 72 ((ab_pi (ab_pi (ab_pi M 69 0 0) 70 ((ab_pi M 69 0 0).1 69 1).toNatClampNeg x1) 71 ((ab_pi (ab_pi M 69 0 0) 70 ((ab_pi M 69 0 0).1 69 1).toNatClampNeg x1).1 69 1).toNatClampNeg (x2 / 64)).1 69 1).toNatClampNeg (ab_rem x2 64)).1 69 1).toNatClampNeg x3).1 69 1).toNatClampNeg x4).1 69 1).toNatClampNeg ((ab_pi (ab_pi (ab_pi (ab_pi (ab_pi (ab_pi M 69 0 0) 70 ((ab_pi M 69 0 0).1 69 1).toNatClampNeg x1) 71 ((ab_pi (ab_pi M 69 0 0) 70 ((ab_pi M 69 0 0).1 69 1).toNatClampNeg x1).1 69 1).toNatClampNeg (x2 / 64)) 72 ((ab_pi (ab_pi (ab_pi M 69 0 0) 70 ((ab_pi M 69 0 0).1 69 1).toNatClampNeg x1) 71 ((ab_pi (ab_pi M 69 0 0) 70 ((ab_pi M 69 0 0).1 69 1).toNatClampNeg x1).1 69 1).toNatClampNeg (x2 / 64)).1 69 1).toNatClampNeg (ab_rem x2 64)) 73 ((ab_pi (ab_pi (ab_pi (ab_pi M 69 0 0) 70 ((ab_pi M 69 0 0).1 69 1).toNatClampNeg x1) 71 ((ab_pi (ab_pi M 69 0 0) 70 ((ab_pi M 69 0 0).1 69 1).toNatClampNeg x1).1 69 1).toNatClampNeg (x2 / 64)) 72 ((ab_pi (ab_pi (ab_pi M 69 0 0) 70 ((ab_pi M 69 0 0).1 69 1).toNatClampNeg x1) 71 ((ab_pi (ab_pi M 69 0 0) 70 ((ab_pi M 69 0 0).1 69 1).toNatClampNeg x1).1 69 1).toNatClampNeg (x2 / 64)).1 69 1).toNatClampNeg (ab_rem x2 64)).1 69 1).toNatClampNeg x3) 74 ((ab_pi (ab_pi (ab_pi (ab_pi (ab_pi M 69 0 0) 70 ((ab_pi M 69 0 0).1 69 1).toNatClampNeg x1) 71 ((ab_pi (ab_pi M 69 0 0) 70 ((ab_pi M 69 0 0).1 69 1).toNatClampNeg x1).1 69 1).toNatClampNeg (x2 / 64)) 72 ((ab_pi (ab_pi (ab_pi M 69 0 0) 70 ((ab_pi M 69 0 0).1 69 1).toNatClampNeg x1) 71 ((ab_pi (ab_pi M 69 0 0) 70 ((ab_pi M 69 0 0).1 69 1).toNatClampNeg x1).1 69 1).toNatClampNeg (x2 / 64)).1 69 1).toNatClampNeg (ab_rem x2 64)) 73 ((ab_pi (ab_pi (ab_pi (ab_pi M 69 0 0) 70 ((ab_pi M 69 0 0).1 69 1).toNatClampNeg x1) 71 ((ab_pi (ab_pi M 69 0 0) 70 ((ab_pi M 69 0 0).1 69 1).toNatClampNeg x1).1 69 1).toNatClampNeg (x2 / 64)) 72 ((ab_pi (ab_pi (ab_pi M 69 0 0) 70 ((ab_pi M 69 0 0).1 69 1).toNatClampNeg x1) 71 ((ab_pi (ab_pi M 69 0 0) 70 ((ab_pi M 69 0 0).1 69 1).toNatClampNeg x1).1 69 1).toNatClampNeg (x2 / 64)).1 69 1).toNatClampNeg (ab_rem x2 64)).1 69 1).toNatClampNeg x3).1 69 1).toNatClampNeg x4).1 69 10)).1 69 1).toNatClampNeg 1073741823).1 69 1) 12) <|
              (mi_X10_mast_169 ab_F (ab_pi (ab_pi (ab_pi (ab_pi (ab_pi (ab_pi (ab_pi (ab_pi (ab_pi M 69 0 0) 70 ((ab_pi M 69 0 0).1 69 1).toNatClampNeg x1) 71 ((ab_pi (ab_pi M 69 0 0) 70 ((ab_pi M 69 0 0).1 69 1).toNatClampNeg x1).1 69 1).toNatClampNeg (x2 / 64)) 72 ((ab_pi (ab_pi (ab_pi M 69 0 0) 70 ((ab_pi M 69 0 0).1 69 1).toNatClampNeg x1) 71 ((ab_pi (ab_pi M 69 0 0) 70 ((ab_pi M 69 0 0).1 69 1).toNatClampNeg x1).1 69 1).toNatClampNeg (x2 / 64)).1 69 1).toNatClampNeg (ab_rem x2 64)) 73 ((ab_pi (ab_pi (ab_pi (ab_pi M 69 0 0) 70 ((ab_pi M 69 0 0).1 69 1).toNatClampNeg x1) 71 ((ab_pi (ab_pi M 69 0 0) 70 ((ab_pi M 69 0 0).1 69 1).toNatClampNeg x1).1 69 1).toNatClampNeg (x2 / 64)) 72 ((ab_pi (ab_pi (ab_pi M 69 0 0) 70 ((ab_pi M 69 0 0).1 69 1).toNatClampNeg x1) 71 ((ab_pi (ab_pi M 69 0 0) 70 ((ab_pi M 69 0 0).1 69 1).toNatClampNeg x1).1 69 1).toNatClampNeg (x2 / 64)).1 69 1).toNatClampNeg (ab_rem x2 64)).1 69 1).toNatClampNeg x3) 74 ((ab_pi (ab_pi (ab_pi (ab_pi (ab_pi M 69 0 0) 70 ((ab_pi M 69 0 0).1 69 1).toNatClampNeg x1) 71 ((ab_pi (ab_pi M 69 0 0) 70 ((ab_pi M 69 0 0).1 69 1).toNatClampNeg x1).1 69 1).toNatClampNeg (x2 / 64)) 72 ((ab_pi (ab_pi (ab_pi M 69 0 0) 70 ((ab_pi M 69 0 0).1 69 1).toNatClampNeg x1) 71 ((ab_pi (ab_pi M 69 0 0) 70 ((ab_pi M 69 0 0).1 69 1).toNatClampNeg x1).1 69 1).toNatClampNeg (x2 / 64)).1 69 1).toNatClampNeg (ab_rem x2 64)) 73 ((ab_pi (ab_pi (ab_pi (ab_pi M 69 0 0) 70 ((ab_pi M 69 0 0).1 69 1).toNatClampNeg x1) 71 ((ab_pi (ab_pi M 69 0 0) 70 ((ab_pi M 69 0 0).1 69 1).toNatClampNeg x1).1 69 1).toNatClampNeg (x2 / 64)) 72 ((ab_pi (ab_pi (ab_pi M 69 0 0) 70 ((ab_pi M 69 0 0).1 69 1).toNatClampNeg x1) 71 ((ab_pi (ab_pi M 69 0 0) 70 ((ab_pi M 69 0 0).1 69 1).toNatClampNeg x1).1 69 1).toNatClampNeg (x2 / 64)).1 69 1).toNatClampNeg (ab_rem x2 64)).1 69 1).toNatClampNeg x3).1 69 1).toNatClampNeg x4) 75 ((ab_pi (ab_pi (ab_pi (ab_pi (ab_pi (ab_pi M 69 0 0) 70 ((ab_pi M 69 0 0).1 69 1).toNatClampNeg x1) 71 ((ab_pi (ab_pi M 69 0 0) 70 ((ab_pi M 69 0 0).1 69 1).toNatClampNeg x1).1 69 1).toNatClampNeg (x2 / 64)) 72 ((ab_pi (ab_pi (ab_pi M 69 0 0) 70 ((ab_pi M 69 0 0).1 69 1).toNatClampNeg x1) 71 ((ab_pi (ab_pi M 69 0 0) 70 ((ab_pi M 69 0 0).1 69 1).toNatClampNeg x1).1 69 1).toNatClampNeg (x2 / 64)).1 69 1).toNatClampNeg (ab_rem x2 64)) 73 ((ab_pi (ab_pi (ab_pi (ab_pi M 69 0 0) 70 ((ab_pi M 69 0 0).1 69 1).toNatClampNeg x1) 71 ((ab_pi (ab_pi M 69 0 0) 70 ((ab_pi M 69 0 0).1 69 1).toNatClampNeg x1).1 69 1).toNatClampNeg (x2 / 64)) 72 ((ab_pi (ab_pi (ab_pi M 69 0 0) 70 ((ab_pi M 69 0 0).1 69 1).toNatClampNeg x1) 71 ((ab_pi (ab_pi M 69 0 0) 70 ((ab_pi M 69 0 0).1 69 1).toNatClampNeg x1).1 69 1).toNatClampNeg (x2 / 64)).1 69 1).toNatClampNeg (ab_rem x2 64)).1 69 1).toNatClampNeg x3) 74 ((ab_pi (ab_pi (ab_pi (ab_pi (ab_pi M 69 0 0) 70 ((ab_pi M 69 0 0).1 69 1).toNatClampNeg x1) 71 ((ab_pi (ab_pi M 69 0 0) 70 ((ab_pi M 69 0 0).1 69 1).toNatClampNeg x1).1 69 1).toNatClampNeg (x2 / 64)) 72 ((ab_pi (ab_pi (ab_pi M 69 0 0) 70 ((ab_pi M 69 0 0).1 69 1).toNatClampNeg x1) 71 ((ab_pi (ab_pi M 69 0 0) 70 ((ab_pi M 69 0 0).1 69 1).toNatClampNeg x1).1 69 1).toNatClampNeg (x2 / 64)).1 69 1).toNatClampNeg (ab_rem x2 64)) 73 ((ab_pi (ab_pi (ab_pi (ab_pi M 69 0 0) 70 ((ab_pi M 69 0 0).1 69 1).toNatClampNeg x1) 71 ((ab_pi (ab_pi M 69 0 0) 70 ((ab_pi M 69 0 0).1 69 1).toNatClampNeg x1).1 69 1).toNatClampNeg (x2 / 64)) 72 ((ab_pi (ab_pi (ab_pi M 69 0 0) 70 ((ab_pi M 69 0 0).1 69 1).toNatClampNeg x1) 71 ((ab_pi (ab_pi M 69 0 0) 70 ((ab_pi M 69 0 0).1 69 1).toNatClampNeg x1).1 69 1).toNatClampNeg (x2 / 64)).1 69 1).toNatClampNeg (ab_rem x2 64)).1 69 1).toNatClampNeg x3).1 69 1).toNatClampNeg x4).1 69 1).toNatClampNeg ((ab_pi (ab_pi (ab_pi (ab_pi (ab_pi (ab_pi M 69 0 0) 70 ((ab_pi M 69 0 0).1 69 1).toNatClampNeg x1) 71 ((ab_pi (ab_pi M 69 0 0) 70 ((ab_pi M 69 0 0).1 69 1).toNatClampNeg x1).1 69 1).toNatClampNeg (x2 / 64)) 72 ((ab_pi (ab_pi (ab_pi M 69 0 0) 70 ((ab_pi M 69 0 0).1 69 1).toNatClampNeg x1) 71 ((ab_pi (ab_pi M 69 0 0) 70 ((ab_pi M 69 0 0).1 69 1).toNatClampNeg x1).1 69 1).toNatClampNeg (x2 / 64)).1 69 1).toNatClampNeg (ab_rem x2 64)) 73 ((ab_pi (ab_pi (ab_pi (ab_pi M 69 0 0) 70 ((ab_pi M 69 0 0).1 69 1).toNatClampNeg x1) 71 ((ab_pi (ab_pi M 69 0 0) 70 ((ab_pi M 69 0 0).1 69 1).toNatClampNeg x1).1 69 1).toNatClampNeg (x2 / 64)) 72 ((ab_pi (ab_pi (ab_pi M 69 0 0) 70 ((ab_pi M 69 0 0).1 69 1).toNatClampNeg x1) 71 ((ab_pi (ab_pi M 69 0 0) 70 ((ab_pi M 69 0 0).1 69 1).toNatClampNeg x1).1 69 1).toNatClampNeg (x2 / 64)).1 69 1).toNatClampNeg (ab_rem x2 64)).1 69 1).toNatClampNeg x3) 74 ((ab_pi (ab_pi (ab_pi (ab_pi (ab_pi M 69 0 0) 70 ((ab_pi M 69 0 0).1 69 1).toNatClampNeg x1) 71 ((ab_pi (ab_pi M 69 0 0) 70 ((ab_pi M 69 0 0).1 69 1).toNatClampNeg x1).1 69 1).toNatClampNeg (x2 / 64)) 72 ((ab_pi (ab_pi (ab_pi M 69 0 0) 70 ((ab_pi M 69 0 0).1 69 1).toNatClampNeg x1) 71 ((ab_pi (ab_pi M 69 0 0) 70 ((ab_pi M 69 0 0).1 69 1).toNatClampNeg x1).1 69 1).toNatClampNeg (x2 / 64)).1 69 1).toNatClampNeg (ab_rem x2 64)) 73 ((ab_pi (ab_pi (ab_pi (ab_pi M 69 0 0) 70 ((ab_pi M 69 0 0).1 69 1).toNatClampNeg x1) 71 ((ab_pi (ab_pi M 69 0 0) 70 ((ab_pi M 69 0 0).1 69 1).toNatClampNeg x1).1 69 1).toNatClampNeg (x2 / 64)) 72 ((ab_pi (ab_pi (ab_pi M 69 0 0) 70 ((ab_pi M 69 0 0).1 69 1).toNatClampNeg x1) 71 ((ab_pi (ab_pi M 69 0 0) 70 ((ab_pi M 69 0 0).1 69 1).toNatClampNeg x1).1 69 1).toNatClampNeg (x2 / 64)).1 69 1).toNatClampNeg (ab_rem x2 64)).1 69 1).toNatClampNeg x3).1 69 1).toNatClampNeg x4).1 69 10)) 76 ((ab_pi (ab_pi (ab_pi (ab_pi (ab_pi (ab_pi (ab_pi M 69 0 0) 70 ((ab_pi M 69 0 0).1 69 1).toNatClampNeg x1) 71 ((ab_pi (ab_pi M 69 0 0) 70 ((ab_pi M 69 0 0).1 69 1).toNatClampNeg x1).1 69 1).toNatClampNeg (x2 / 64)) 72 ((ab_pi (ab_pi (ab_pi M 69 0 0) 70 ((ab_pi M 69 0 0).1 69 1).toNatClampNeg x1) 71 ((ab_pi (ab_pi M 69 0 0) 70 ((ab_pi M 69 0 0).1 69 1).toNatClampNeg x1).1 69 1).toNatClampNeg (x2 / 64)).1 69 1).toNatClampNeg (ab_rem x2 64)) 73 ((ab_pi (ab_pi (ab_pi (ab_pi M 69 0 0) 70 ((ab_pi M 69 0 0).1 69 1).toNatClampNeg x1) 71 ((ab_pi (ab_pi M 69 0 0) 70 ((ab_pi M 69 0 0).1 69 1).toNatClampNeg x1).1 69 1).toNatClampNeg (x2 / 64)) 72 ((ab_pi (ab_pi (ab_pi M 69 0 0) 70 ((ab_pi M 69 0 0).1 69 1).toNatClampNeg x1) 71 ((ab_pi (ab_pi M 69 0 0) 70 ((ab_pi M 69 0 0).1 69 1).toNatClampNeg x1).1 69 1).toNatClampNeg (x2 / 64)).1 69 1).toNatClampNeg (ab_rem x2 64)).1 69 1).toNatClampNeg x3) 74 ((ab_pi (ab_pi (ab_pi (ab_pi (ab_pi M 69 0 0) 70 ((ab_pi M 69 0 0).1 69 1).toNatClampNeg x1) 71 ((ab_pi (ab_pi M 69 0 0) 70 ((ab_pi M 69 0 0).1 69 1).toNatClampNeg x1).1 69 1).toNatClampNeg (x2 / 64)) 72 ((ab_pi (ab_pi (ab_pi M 69 0 0) 70 ((ab_pi M 69 0 0).1 69 1).toNatClampNeg x1) 71 ((ab_pi (ab_pi M 69 0 0) 70 ((ab_pi M 69 0 0).1 69 1).toNatClampNeg x1).1 69 1).toNatClampNeg (x2 / 64)).1 69 1).toNatClampNeg (ab_rem x2 64)) 73 ((ab_pi (ab_pi (ab_pi (ab_pi M 69 0 0) 70 ((ab_pi M 69 0 0).1 69 1).toNatClampNeg x1) 71 ((ab_pi (ab_pi M 69 0 0) 70 ((ab_pi M 69 0 0).1 69 1).toNatClampNeg x1).1 69 1).toNatClampNeg (x2 / 64)) 72 ((ab_pi (ab_pi (ab_pi M 69 0 0) 70 ((ab_pi M 69 0 0).1 69 1).toNatClampNeg x1) 71 ((ab_pi (ab_pi M 69 0 0) 70 ((ab_pi M 69 0 0).1 69 1).toNatClampNeg x1).1 69 1).toNatClampNeg (x2 / 64)).1 69 1).toNatClampNeg (ab_rem x2 64)).1 69 1).toNatClampNeg x3).1 69 1).toNatClampNeg x4) 75 ((ab_pi (ab_pi (ab_pi (ab_pi (ab_pi (ab_pi M 69 0 0) 70 ((ab_pi M 69 0 0).1 69 1).toNatClampNeg x1) 71 ((ab_pi (ab_pi M 69 0 0) 70 ((ab_pi M 69 0 0).1 69 1).toNatClampNeg x1).1 69 1).toNatClampNeg (x2 / 64)) 72 ((ab_pi (ab_pi (ab_pi M 69 0 0) 70 ((ab_pi M 69 0 0).1 69 1).toNatClampNeg x1) 71 ((ab_pi (ab_pi M 69 0 0) 70 ((ab_pi M 69 0 0).1 69 1).toNatClampNeg x1).1 69 1).toNatClampNeg (x2 / 64)).1 69 1).toNatClampNeg (ab_rem x2 64)) 73 ((ab_pi (ab_pi (ab_pi (ab_pi M 69 0 0) 70 ((ab_pi M 69 0 0).1 69 1).toNatClampNeg x1) 71 ((ab_pi (ab_pi M 69 0 0) 70 ((ab_pi M 69 0 0).1 69 1).toNatClampNeg x1).1 69 1).toNatClampNeg (x2 / 64)) 72 ((ab_pi (ab_pi (ab_pi M 69 0 0) 70 ((ab_pi M 69 0 0).1 69 1).toNatClampNeg x1) 71 ((ab_pi (ab_pi M 69 0 0) 70 ((ab_pi M 69 0 0).1 69 1).toNatClampNeg x1).1 69 1).toNatClampNeg (x2 / 64)).1 69 1).toNatClampNeg (ab_rem x2 64)).1 69 1).toNatClampNeg x3) 74 ((ab_pi (ab_pi (ab_pi (ab_pi (ab_pi M 69 0 0) 70 ((ab_pi M 69 0 0).1 69 1).toNatClampNeg x1) 71 ((ab_pi (ab_pi M 69 0 0) 70 ((ab_pi M 69 0 0).1 69 1).toNatClampNeg x1).1 69 1).toNatClampNeg (x2 / 64)) 72 ((ab_pi (ab_pi (ab_pi M 69 0 0) 70 ((ab_pi M 69 0 0).1 69 1).toNatClampNeg x1) 71 ((ab_pi (ab_pi M 69 0 0) 70 ((ab_pi M 69 0 0).1 69 1).toNatClampNeg x1).1 69 1).toNatClampNeg (x2 / 64)).1 69 1).toNatClampNeg (ab_rem x2 64)) 73 ((ab_pi (ab_pi (ab_pi (ab_pi M 69 0 0) 70 ((ab_pi M 69 0 0).1 69 1).toNatClampNeg x1) 71 ((ab_pi (ab_pi M 69 0 0) 70 ((ab_pi M 69 0 0).1 69 1).toNatClampNeg x1).1 69 1).toNatClampNeg (x2 / 64)) 72 ((ab_pi (ab_pi (ab_pi M 69 0 0) 70 ((ab_pi M 69 0 0).1 69 1).toNatClampNeg x1) 71 ((ab_pi (ab_pi M 69 0 0) 70 ((ab_pi M 69 0 0).1 69 1).toNatClampNeg x1).1 69 1).toNatClampNeg (x2 / 64)).1 69 1).toNatClampNeg (ab_rem x2 64)).1 69 1).toNatClampNeg x3).1 69 1).toNatClampNeg x4).1 69 1).toNatClampNeg ((ab_pi (ab_pi (ab_pi (ab_pi (ab_pi (ab_pi M 69 0 0) 70 ((ab_pi M 69 0 0).1 69 1).toNatClampNeg x1) 71 ((ab_pi (ab_pi M 69 0 0) 70 ((ab_pi M 69 0 0).1 69 1).toNatClampNeg x1).1 69 1).toNatClampNeg (x2 / 64)) 72 ((ab_pi (ab_pi (ab_pi M 69 0 0) 70 ((ab_pi M 69 0 0).1 69 1).toNatClampNeg x1) 71 ((ab_pi (ab_pi M 69 0 0) 70 ((ab_pi M 69 0 0).1 69 1).toNatClampNeg x1).1 69 1).toNatClampNeg (x2 / 64)).1 69 1).toNatClampNeg (ab_rem x2 64)) 73 ((ab_pi (ab_pi (ab_pi (ab_pi M 69 0 0) 70 ((ab_pi M 69 0 0).1 69 1).toNatClampNeg x1) 71 ((ab_pi (ab_pi M 69 0 0) 70 ((ab_pi M 69 0 0).1 69 1).toNatClampNeg x1).1 69 1).toNatClampNeg (x2 / 64)) 72 ((ab_pi (ab_pi (ab_pi M 69 0 0) 70 ((ab_pi M 69 0 0).1 69 1).toNatClampNeg x1) 71 ((ab_pi (ab_pi M 69 0 0) 70 ((ab_pi M 69 0 0).1 69 1).toNatClampNeg x1).1 69 1).toNatClampNeg (x2 / 64)).1 69 1).toNatClampNeg (ab_rem x2 64)).1 69 1).toNatClampNeg x3) 74 ((ab_pi (ab_pi (ab_pi (ab_pi (ab_pi M 69 0 0) 70 ((ab_pi M 69 0 0).1 69 1).toNatClampNeg x1) 71 ((ab_pi (ab_pi M 69 0 0) 70 ((ab_pi M 69 0 0).1 69 1).toNatClampNeg x1).1 69 1).toNatClampNeg (x2 / 64)) 72 ((ab_pi (ab_pi (ab_pi M 69 0 0) 70 ((ab_pi M 69 0 0).1 69 1).toNatClampNeg x1) 71 ((ab_pi (ab_pi M 69 0 0) 70 ((ab_pi M 69 0 0).1 69 1).toNatClampNeg x1).1 69 1).toNatClampNeg (x2 / 64)).1 69 1).toNatClampNeg (ab_rem x2 64)) 73 ((ab_pi (ab_pi (ab_pi (ab_pi M 69 0 0) 70 ((ab_pi M 69 0 0).1 69 1).toNatClampNeg x1) 71 ((ab_pi (ab_pi M 69 0 0) 70 ((ab_pi M 69 0 0).1 69 1).toNatClampNeg x1).1 69 1).toNatClampNeg (x2 / 64)) 72 ((ab_pi (ab_pi (ab_pi M 69 0 0) 70 ((ab_pi M 69 0 0).1 69 1).toNatClampNeg x1) 71 ((ab_pi (ab_pi M 69 0 0) 70 ((ab_pi M 69 0 0).1 69 1).toNatClampNeg x1).1 69 1).toNatClampNeg (x2 / 64)).1 69 1).toNatClampNeg (ab_rem x2 64)).1 69 1).toNatClampNeg x3).1 69 1).toNatClampNeg x4).1 69 10)).1 69 1).toNatClampNeg 1073741823) 77 ((ab_pi (ab_pi (ab_pi (ab_pi (ab_pi (ab_pi (ab_pi (ab_pi M 69 0 0) 70 ((ab_pi M 69 0 0).1 69 1).toNatClampNeg x1) 71 ((ab_pi (ab_pi M 69 0 0) 70 ((ab_pi M 69 0 0).1 69 1).toNatClampNeg x1).1 69 1).toNatClampNeg (x2 / 64)) 72 ((ab_pi (ab_pi (ab_pi M 69 0 0) 70 ((ab_pi M 69 0 0).1 69 1).toNatClampNeg x1) 71 ((ab_pi (ab_pi M 69 0 0) 70 ((ab_pi M 69 0 0).1 69 1).toNatClampNeg x1).1 69 1).toNatClampNeg (x2 / 64)).1 69 1).toNatClampNeg (ab_rem x2 64)) 73 ((ab_pi (ab_pi (ab_pi (ab_pi M 69 0 0) 70 ((ab_pi M 69 0 0).1 69 1).toNatClampNeg x1) 71 ((ab_pi (ab_pi M 69 0 0) 70 ((ab_pi M 69 0 0).1 69 1).toNatClampNeg x1).1 69 1).toNatClampNeg (x2 / 64)) 72 ((ab_pi (ab_pi (ab_pi M 69 0 0) 70 ((ab_pi M 69 0 0).1 69 1).toNatClampNeg x1) 71 ((ab_pi (ab_pi M 69 0 0) 70 ((ab_pi M 69 0 0).1 69 1).toNatClampNeg x1).1 69 1).toNatClampNeg (x2 / 64)).1 69 1).toNatClampNeg (ab_rem x2 64)).1 69 1).toNatClampNeg x3) 74 ((ab_pi (ab_pi (ab_pi (ab_pi (ab_pi M 69 0 0) 70 ((ab_pi M 69 0 0).1 69 1).toNatClampNeg x1) 71 ((ab_pi (ab_pi M 69 0 0) 70 ((ab_pi M 69 0 0).1 69 1).toNatClampNeg x1).1 69 1).toNatClampNeg (x2 / 64)) 72 ((ab_pi (ab_pi (ab_pi M 69 0 0) 70 ((ab_pi M 69 0 0).1 69 1).toNatClampNeg x1) 71 ((ab_pi (ab_pi M 69 0 0) 70 ((ab_pi M 69 0 0).1 69 1).toNatClampNeg x1).1 69 1).toNatClampNeg (x2 / 64)).1 69 1).toNatClampNeg (ab_rem x2 64)) 73 ((ab_pi (ab_pi (ab_pi (ab_pi M 69 0 0) 70 ((ab_pi M 69 0 0).1 69 1).toNatClampNeg x1) 71 ((ab_pi (ab_pi M 69 0 0) 70 ((ab_pi M 69 0 0).1 69 1).toNatClampNeg x1).1 69 1).toNatClampNeg (x2 / 64)) 72 ((ab_pi (ab_pi (ab_pi M 69 0 0) 70 ((ab_pi M 69 0 0).1 69 1).toNatClampNeg x1) 71 ((ab_pi (ab_pi M 69 0 0) 70 ((ab_pi M 69 0 0).1 69 1).toNatClampNeg x1).1 69 1).toNatClampNeg (x2 / 64)).1 69 1).toNatClampNeg (ab_rem x2 64)).1 69 1).toNatClampNeg x3).1 69 1).toNatClampNeg x4) 75 ((ab_pi (ab_pi (ab_pi (ab_pi (ab_pi (ab_pi M 69 0 0) 70 ((ab_pi M 69 0 0).1 69 1).toNatClampNeg x1) 71 ((ab_pi (ab_pi M 69 0 0) 70 ((ab_pi M 69 0 0).1 69 1).toNatClampNeg x1).1 69 1).toNatClampNeg (x2 / 64)) 72 ((ab_pi (ab_pi (ab_pi M 69 0 0) 70 ((ab_pi M 69 0 0).1 69 1).toNatClampNeg x1) 71 ((ab_pi (ab_pi M 69 0 0) 70 ((ab_pi M 69 0 0).1 69 1).toNatClampNeg x1).1 69 1).toNatClampNeg (x2 / 64)).1 69 1).toNatClampNeg (ab_rem x2 64)) 73 ((ab_pi (ab_pi (ab_pi (ab_pi M 69 0 0) 70 ((ab_pi M 69 0 0).1 69 1).toNatClampNeg x1) 71 ((ab_pi (ab_pi M 69 0 0) 70 ((ab_pi M 69 0 0).1 69 1).toNatClampNeg x1).1 69 1).toNatClampNeg (x2 / 64)) 72 ((ab_pi (ab_pi (ab_pi M 69 0 0) 70 ((ab_pi M 69 0 0).1 69 1).toNatClampNeg x1) 71 ((ab_pi (ab_pi M 69 0 0) 70 ((ab_pi M 69 0 0).1 69 1).toNatClampNeg x1).1 69 1).toNatClampNeg (x2 / 64)).1 69 1).toNatClampNeg (ab_rem x2 64)).1 69 1).toNatClampNeg x3) 74 ((ab_pi (ab_pi (ab_pi (ab_pi (ab_pi M 69 0 0) 70 ((ab_pi M 69 0 0).1 69 1).toNatClampNeg x1) 71 ((ab_pi (ab_pi M 69 0 0) 70 ((ab_pi M 69 0 0).1 69 1).toNatClampNeg x1).1 69 1).toNatClampNeg (x2 / 64)) 72 ((ab_pi (ab_pi (ab_pi M 69 0 0) 70 ((ab_pi M 69 0 0).1 69 1).toNatClampNeg x1) 71 ((ab_pi (ab_pi M 69 0 0) 70 ((ab_pi M 69 0 0).1 69 1).toNatClampNeg x1).1 69 1).toNatClampNeg (x2 / 64)).1 69 1).toNatClampNeg (ab_rem x2 64)) 73 ((ab_pi (ab_pi (ab_pi (ab_pi M 69 0 0) 70 ((ab_pi M 69 0 0).1 69 1).toNatClampNeg x1) 71 ((ab_pi (ab_pi M 69 0 0) 70 ((ab_pi M 69 0 0).1 69 1).toNatClampNeg x1).1 69 1).toNatClampNeg (x2 / 64)) 72 ((ab_pi (ab_pi (ab_pi M 69 0 0) 70 ((ab_pi M 69 0 0).1 69 1).toNatClampNeg x1) 71 ((ab_pi (ab_pi M 69 0 0) 70 ((ab_pi M 69 0 0).1 69 1).toNatClampNeg x1).1 69 1).toNatClampNeg (x2 / 64)).1 69 1).toNatClampNeg (ab_rem x2 64)).1 69 1).toNatClampNeg x3).1 69 1).toNatClampNeg x4).1 69 1).toNatClampNeg ((ab_pi (ab_pi (ab_pi (ab_pi (ab_pi (ab_pi M 69 0 0) 70 ((ab_pi M 69 0 0).1 69 1).toNatClampNeg x1) 71 ((ab_pi (ab_pi M 69 0 0) 70 ((ab_pi M 69 0 0).1 69 1).toNatClampNeg x1).1 69 1).toNatClampNeg (x2 / 64)) 72 ((ab_pi (ab_pi (ab_pi M 69 0 0) 70 ((ab_pi M 69 0 0).1 69 1).toNatClampNeg x1) 71 ((ab_pi (ab_pi M 69 0 0) 70 ((ab_pi M 69 0 0).1 69 1).toNatClampNeg x1).1 69 1).toNatClampNeg (x2 / 64)).1 69 1).toNatClampNeg (ab_rem x2 64)) 73 ((ab_pi (ab_pi (ab_pi (ab_pi M 69 0 0) 70 ((ab_pi M 69 0 0).1 69 1).toNatClampNeg x1) 71 ((ab_pi (ab_pi M 69 0 0) 70 ((ab_pi M 69 0 0).1 69 1).toNatClampNeg x1).1 69 1).toNatClampNeg (x2 / 64)) 72 ((ab_pi (ab_pi (ab_pi M 69 0 0) 70 ((ab_pi M 69 0 0).1 69 1).toNatClampNeg x1) 71 ((ab_pi (ab_pi M 69 0 0) 70 ((ab_pi M 69 0 0).1 69 1).toNatClampNeg x1).1 69 1).toNatClampNeg (x2 / 64)).1 69 1).toNatClampNeg (ab_rem x2 64)).1 69 1).toNatClampNeg x3) 74 ((ab_pi (ab_pi (ab_pi (ab_pi (ab_pi M 69 0 0) 70 ((ab_pi M 69 0 0).1 69 1).toNatClampNeg x1) 71 ((ab_pi (ab_pi M 69 0 0) 70 ((ab_pi M 69 0 0).1 69 1).toNatClampNeg x1).1 69 1).toNatClampNeg (x2 / 64)) 72 ((ab_pi (ab_pi (ab_pi M 69 0 0) 70 ((ab_pi M 69 0 0).1 69 1).toNatClampNeg x1) 71 ((ab_pi (ab_pi M 69 0 0) 70 ((ab_pi M 69 0 0).1 69 1).toNatClampNeg x1).1 69 1).toNatClampNeg (x2 / 64)).1 69 1).toNatClampNeg (ab_rem x2 64)) 73 ((ab_pi (ab_pi (ab_pi (ab_pi M 69 0 0) 70 ((ab_pi M 69 0 0).1 69 1).toNatClampNeg x1) 71 ((ab_pi (ab_pi M 69 0 0) 70 ((ab_pi M 69 0 0).1 69 1).toNatClampNeg x1).1 69 1).toNatClampNeg (x2 / 64)) 72 ((ab_pi (ab_pi (ab_pi M 69 0 0) 70 ((ab_pi M 69 0 0).1 69 1).toNatClampNeg x1) 71 ((ab_pi (ab_pi M 69 0 0) 70 ((ab_pi M 69 0 0).1 69 1).toNatClampNeg x1).1 69 1).toNatClampNeg (x2 / 64)).1 69 1).toNatClampNeg (ab_rem x2 64)).1 69 1).toNatClampNeg x3).1 69 1).toNatClampNeg x4).1 69 10)) 76 ((ab_pi (ab_pi (ab_pi (ab_pi (ab_pi (ab_pi (ab_pi M 69 0 0) 70 ((ab_pi M 69 0 0).1 69 1).toNatClampNeg x1) 71 ((ab_pi (ab_pi M 69 0 0) 70 ((ab_pi M 69 0 0).1 69 1).toNatClampNeg x1).1 69 1).toNatClampNeg (x2 / 64)) 72 ((ab_pi (ab_pi (ab_pi M 69 0 0) 70 ((ab_pi M 69 0 0).1 69 1).toNatClampNeg x1) 71 ((ab_pi (ab_pi M 69 0 0) 70 ((ab_pi M 69 0 0).1 69 1).toNatClampNeg x1).1 69 1).toNatClampNeg (x2 / 64)).1 69 1).toNatClampNeg (ab_rem x2 64)) 73 ((ab_pi (ab_pi (ab_pi (ab_pi M 69 0 0) 70 ((ab_pi M 69 0 0).1 69 1).toNatClampNeg x1) 71 ((ab_pi (ab_pi M 69 0 0) 70 ((ab_pi M 69 0 0).1 69 1).toNatClampNeg x1).1 69 1).toNatClampNeg (x2 / 64)) 72 ((ab_pi (ab_pi (ab_pi M 69 0 0) 70 ((ab_pi M 69 0 0).1 69 1).toNatClampNeg x1) 71 ((ab_pi (ab_pi M 69 0 0) 70 ((ab_pi M 69 0 0).1 69 1).toNatClampNeg x1).1 69 1).toNatClampNeg (x2 / 64)).1 69 1).toNatClampNeg (ab_rem x2 64)).1 69 1).toNatClampNeg x3) 74 ((ab_pi (ab_pi (ab_pi (ab_pi (ab_pi M 69 0 0) 70 ((ab_pi M 69 0 0).1 69 1).toNatClampNeg x1) 71 ((ab_pi (ab_pi M 69 0 0) 70 ((ab_pi M 69 0 0).1 69 1).toNatClampNeg x1).1 69 1).toNatClampNeg (x2 / 64)) 72 ((ab_pi (ab_pi (ab_pi M 69 0 0) 70 ((ab_pi M 69 0 0).1 69 1).toNatClampNeg x1) 71 ((ab_pi (ab_pi M 69 0 0) 70 ((ab_pi M 69 0 0).1 69 1).toNatClampNeg x1).1 69 1).toNatClampNeg (x2 / 64)).1 69 1).toNatClampNeg (ab_rem x2 64)) 73 ((ab_pi (ab_pi (ab_pi (ab_pi M 69 0 0) 70 ((ab_pi M 69 0 0).1 69 1).toNatClampNeg x1) 71 ((ab_pi (ab_pi M 69 0 0) 70 ((ab_pi M 69 0 0).1 69 1).toNatClampNeg x1).1 69 1).toNatClampNeg (x2 / 64)) 72 ((ab_pi (ab_pi (ab_pi M 69 0 0) 70 ((ab_pi M 69 0 0).1 69 1).toNatClampNeg x1) 71 ((ab_pi (ab_pi M 69 0 0) 70 ((ab_pi M 69 0 0).1 69 1).toNatClampNeg x1).1 69 1).toNatClampNeg (x2 / 64)).1 69 1).toNatClampNeg (ab_rem x2 64)).1 69 1).toNatClampNeg x3).1 69 1).toNatClampNeg x4) 75 ((ab_pi (ab_pi (ab_pi (ab_pi (ab_pi (ab_pi M 69 0 0) 70 ((ab_pi M 69 0 0).1 69 1).toNatClampNeg x1) 71 ((ab_pi (ab_pi M 69 0 0) 70 ((ab_pi M 69 0 0).1 69 1).toNatClampNeg x1).1 69 1).toNatClampNeg (x2 / 64)) 72 ((ab_pi (ab_pi (ab_pi M 69 0 0) 70 ((ab_pi M 69 0 0).1 69 1).toNatClampNeg x1) 71 ((ab_pi (ab_pi M 69 0 0) 70 ((ab_pi M 69 0 0).1 69 1).toNatClampNeg x1).1 69 1).toNatClampNeg (x2 / 64)).1 69 1).toNatClampNeg (ab_rem x2 64)) 73 ((ab_pi (ab_pi (ab_pi (ab_pi M 69 0 0) 70 ((ab_pi M 69 0 0).1 69 1).toNatClampNeg x1) 71 ((ab_pi (ab_pi M 69 0 0) 70 ((ab_pi M 69 0 0).1 69 1).toNatClampNeg x1).1 69 1).toNatClampNeg (x2 / 64)) 72 ((ab_pi (ab_pi (ab_pi M 69 0 0) 70 ((ab_pi M 69 0 0).1 69 1).toNatClampNeg x1) 71 ((ab_pi (ab_pi M 69 0 0) 70 ((ab_pi M 69 0 0).1 69 1).toNatClampNeg x1).1 69 1).toNatClampNeg (x2 / 64)).1 69 1).toNatClampNeg (ab_rem x2 64)).1 69 1).toNatClampNeg x3) 74 ((ab_pi (ab_pi (ab_pi (ab_pi (ab_pi M 69 0 0) 70 ((ab_pi M 69 0 0).1 69 1).toNatClampNeg x1) 71 ((ab_pi (ab_pi M 69 0 0) 70 ((ab_pi M 69 0 0).1 69 1).toNatClampNeg x1).1 69 1).toNatClampNeg (x2 / 64)) 72 ((ab_pi (ab_pi (ab_pi M 69 0 0) 70 ((ab_pi M 69 0 0).1 69 1).toNatClampNeg x1) 71 ((ab_pi (ab_pi M 69 0 0) 70 ((ab_pi M 69 0 0).1 69 1).toNatClampNeg x1).1 69 1).toNatClampNeg (x2 / 64)).1 69 1).toNatClampNeg (ab_rem x2 64)) 73 ((ab_pi (ab_pi (ab_pi (ab_pi M 69 0 0) 70 ((ab_pi M 69 0 0).1 69 1).toNatClampNeg x1) 71 ((ab_pi (ab_pi M 69 0 0) 70 ((ab_pi M 69 0 0).1 69 1).toNatClampNeg x1).1 69 1).toNatClampNeg (x2 / 64)) 72 ((ab_pi (ab_pi (ab_pi M 69 0 0) 70 ((ab_pi M 69 0 0).1 69 1).toNatClampNeg x1) 71 ((ab_pi (ab_pi M 69 0 0) 70 ((ab_pi M 69 0 0).1 69 1).toNatClampNeg x1).1 69 1).toNatClampNeg (x2 / 64)).1 69 1).toNatClampNeg (ab_rem x2 64)).1 69 1).toNatClampNeg x3).1 69 1).toNatClampNeg x4).1 69 1).toNatClampNeg ((ab_pi (ab_pi (ab_pi (ab_pi (ab_pi (ab_pi M 69 0 0) 70 ((ab_pi M 69 0 0).1 69 1).toNatClampNeg x1) 71 ((ab_pi (ab_pi M 69 0 0) 70 ((ab_pi M 69 0 0).1 69 1).toNatClampNeg x1).1 69 1).toNatClampNeg (x2 / 64)) 72 ((ab_pi (ab_pi (ab_pi M 69 0 0) 70 ((ab_pi M 69 0 0).1 69 1).toNatClampNeg x1) 71 ((ab_pi (ab_pi M 69 0 0) 70 ((ab_pi M 69 0 0).1 69 1).toNatClampNeg x1).1 69 1).toNatClampNeg (x2 / 64)).1 69 1).toNatClampNeg (ab_rem x2 64)) 73 ((ab_pi (ab_pi (ab_pi (ab_pi M 69 0 0) 70 ((ab_pi M 69 0 0).1 69 1).toNatClampNeg x1) 71 ((ab_pi (ab_pi M 69 0 0) 70 ((ab_pi M 69 0 0).1 69 1).toNatClampNeg x1).1 69 1).toNatClampNeg (x2 / 64)) 72 ((ab_pi (ab_pi (ab_pi M 69 0 0) 70 ((ab_pi M 69 0 0).1 69 1).toNatClampNeg x1) 71 ((ab_pi (ab_pi M 69 0 0) 70 ((ab_pi M 69 0 0).1 69 1).toNatClampNeg x1).1 69 1).toNatClampNeg (x2 / 64)).1 69 1).toNatClampNeg (ab_rem x2 64)).1 69 1).toNatClampNeg x3) 74 ((ab_pi (ab_pi (ab_pi (ab_pi (ab_pi M 69 0 0) 70 ((ab_pi M 69 0 0).1 69 1).toNatClampNeg x1) 71 ((ab_pi (ab_pi M 69 0 0) 70 ((ab_pi M 69 0 0).1 69 1).toNatClampNeg x1).1 69 1).toNatClampNeg (x2 / 64)) 72 ((ab_pi (ab_pi (ab_pi M 69 0 0) 70 ((ab_pi M 69 0 0).1 69 1).toNatClampNeg x1) 71 ((ab_pi (ab_pi M 69 0 0) 70 ((ab_pi M 69 0 0).1 69 1).toNatClampNeg x1).1 69 1).toNatClampNeg (x2 / 64)).1 69 1).toNatClampNeg (ab_rem x2 64)) 73 ((ab_pi (ab_pi (ab_pi (ab_pi M 69 0 0) 70 ((ab_pi M 69 0 0).1 69 1).toNatClampNeg x1) 71 ((ab_pi (ab_pi M 69 0 0) 70 ((ab_pi M 69 0 0).1 69 1).toNatClampNeg x1).1 69 1).toNatClampNeg (x2 / 64)) 72 ((ab_pi (ab_pi (ab_pi M 69 0 0) 70 ((ab_pi M 69 0 0).1 69 1).toNatClampNeg x1) 71 ((ab_pi (ab_pi M 69 0 0) 70 ((ab_pi M 69 0 0).1 69 1).toNatClampNeg x1).1 69 1).toNatClampNeg (x2 / 64)).1 69 1).toNatClampNeg (ab_rem x2 64)).1 69 1).toNatClampNeg x3).1 69 1).toNatClampNeg x4).1 69 10)).1 69 1).toNatClampNeg 1073741823).1 69 1).toNatClampNeg 5) x4 0).bind fun q27 =>
              some (((ab_pi q27.2 69 1 ((q27.2.1 69 1) + 1)).1 69 1) - 1, (ab_pi q27.2 69 1 ((q27.2.1 69 1) + 1)))
            else
              some ((-2), (ab_pi M 69 0 0))

set_option maxHeartbeats 4000000 in
set_option maxRecDepth 100000 in
theorem co_X10_mast {l : Launch} {D : va_G} {ac : Nat → ClassId} (M : ab_M) (x1 : Int32) (x2 : Int32) (x3 : Int32) (x4 : Int32) (z : Int32 × ab_M) (h : mi_X10_mast M x1 x2 x3 x4 = some z) : ab_Con l D ac 3 me_X10_mast 0 0 [.ref 69, .int x1, .int x2, .int x3, .int x4] ab_SH M (some (.int z.1), ab_SH, z.2) := by
  refine ab_intro (lv := [some (.ref 69), some (.int x1), some (.int x2), some (.int x3), some (.int x4), none]) (by decide) rfl (Nat.le_of_ble_eq_true rfl) rfl ?_
  unfold mi_X10_mast at h
  refine ev_aload_n dX10_mast_0 rfl ?_
  refine ev_iconst (x := 0) dX10_mast_1 (by decide) ?_
  refine ev_puti fl_RX10_102 sh_69 (by decide) (by decide) rfl rfl rfl dX10_mast_2 ?_
  refine ev_iload_n dX10_mast_5 rfl ?_
  refine ev_i2l dX10_mast_6 ?_
  refine ev_lconst (x := 0) dX10_mast_7 (by decide) ?_
  refine ev_ldc2 kw_RX10_118 dX10_mast_8 ?_
  obtain ⟨q1, hv2, h⟩ := ab_bind h
  refine ev_callS (st := []) (co_X10_isIn (ab_pi M 69 0 0) (Int32.toInt64 x1) 0 3 _ hv2) mv_X10_isIn ml_RX10_113 dX10_mast_11 (by decide) rfl (Nat.le_of_ble_eq_true rfl) ⟨Nat.le_refl _, Nat.le_refl _⟩ ?_
  refine ev_if_eq (t := 49) dX10_mast_14 (by decide) (fun hc3 => ?_) (fun hc3 => ?_)
  · replace h := ab_pos hc3 h
    refine ev_iconst (x := (-1)) dX10_mast_49 (by decide) ?_
    cases h
    exact ev_ireturn rfl dX10_mast_50
  · replace h := ab_neg hc3 h
    refine ev_iload_n dX10_mast_17 rfl ?_
    obtain ⟨q4, hv5, h⟩ := ab_bind h
    refine ev_callS (st := []) (co_X10_isPlace (ab_pi M 69 0 0) x2 _ hv5) mv_X10_isPlace ml_RX10_120 dX10_mast_18 (by decide) rfl (Nat.le_of_ble_eq_true rfl) ⟨Nat.le_refl _, Nat.le_refl _⟩ ?_
    refine ev_if_eq (t := 49) dX10_mast_21 (by decide) (fun hc6 => ?_) (fun hc6 => ?_)
    · replace h := ab_pos hc6 h
      refine ev_iconst (x := (-1)) dX10_mast_49 (by decide) ?_
      cases h
      exact ev_ireturn rfl dX10_mast_50
    · replace h := ab_neg hc6 h
      refine ev_iload_n dX10_mast_24 rfl ?_
      refine ev_i2l dX10_mast_25 ?_
      refine ev_lconst (x := 0) dX10_mast_26 (by decide) ?_
      refine ev_ldc2 kw_RX10_118 dX10_mast_27 ?_
      obtain ⟨q7, hv8, h⟩ := ab_bind h
      refine ev_callS (st := []) (co_X10_isIn (ab_pi M 69 0 0) (Int32.toInt64 x3) 0 3 _ hv8) mv_X10_isIn ml_RX10_113 dX10_mast_30 (by decide) rfl (Nat.le_of_ble_eq_true rfl) ⟨Nat.le_refl _, Nat.le_refl _⟩ ?_
      refine ev_if_eq (t := 49) dX10_mast_33 (by decide) (fun hc9 => ?_) (fun hc9 => ?_)
      · replace h := ab_pos hc9 h
        refine ev_iconst (x := (-1)) dX10_mast_49 (by decide) ?_
        cases h
        exact ev_ireturn rfl dX10_mast_50
      · replace h := ab_neg hc9 h
        refine ev_iload dX10_mast_36 rfl ?_
        refine ev_i2l dX10_mast_38 ?_
        refine ev_lconst (x := 1) dX10_mast_39 (by decide) ?_
        refine ev_ldc2 kw_RX10_118 dX10_mast_40 ?_
        obtain ⟨q10, hv11, h⟩ := ab_bind h
        refine ev_callS (st := []) (co_X10_isIn (ab_pi M 69 0 0) (Int32.toInt64 x4) 1 3 _ hv11) mv_X10_isIn ml_RX10_113 dX10_mast_43 (by decide) rfl (Nat.le_of_ble_eq_true rfl) ⟨Nat.le_refl _, Nat.le_refl _⟩ ?_
        refine ev_if_ne (t := 51) dX10_mast_46 (by decide) (fun hc12 => ?_) (fun hc12 => ?_)
        · replace h := ab_neg hc12 h
          refine ev_aload_n dX10_mast_51 rfl ?_
          refine ev_geti fl_RX10_105 sh_69 (by decide) (by decide) rfl dX10_mast_52 ?_
          refine ev_bipush (x := 12) dX10_mast_55 (by decide) ?_
          refine ev_icmp_eq (t := 72) dX10_mast_57 (by decide) (fun hc13 => ?_) (fun hc13 => ?_)
          · replace h := ab_pos hc13 h
            refine ev_bipush (x := (-2)) dX10_mast_72 (by decide) ?_
            cases h
            exact ev_ireturn rfl dX10_mast_74
          · replace h := ab_neg hc13 h
            refine ev_aload_n dX10_mast_60 rfl ?_
            refine ev_geti fl_RX10_108 sh_69 (by decide) (by decide) rfl dX10_mast_61 ?_
            refine ev_iload dX10_mast_64 rfl ?_
            refine ev_iadd dX10_mast_66 ?_
            refine ev_bipush (x := 16) dX10_mast_67 (by decide) ?_
            refine ev_icmp_le (t := 75) dX10_mast_69 (by decide) (fun hc14 => ?_) (fun hc14 => ?_)
            · replace h := ab_pos hc14 h
              refine ev_aload_n dX10_mast_75 rfl ?_
              refine ev_getr (o' := 70) fl_RX10_7 sh_69 (by decide) (by decide) rfl rfl dX10_mast_76 ?_
              refine ev_aload_n dX10_mast_79 rfl ?_
              refine ev_geti fl_RX10_105 sh_69 (by decide) (by decide) rfl dX10_mast_80 ?_
              refine ev_iload_n dX10_mast_83 rfl ?_
              obtain ⟨hb15, h⟩ := ab_chk_some h
              refine ev_iastore sh_70 hb15 dX10_mast_84 ?_
              refine ev_aload_n dX10_mast_85 rfl ?_
              refine ev_getr (o' := 71) fl_RX10_13 sh_69 (by decide) (by decide) rfl rfl dX10_mast_86 ?_
              refine ev_aload_n dX10_mast_89 rfl ?_
              refine ev_geti fl_RX10_105 sh_69 (by decide) (by decide) rfl dX10_mast_90 ?_
              refine ev_iload_n dX10_mast_93 rfl ?_
              refine ev_bipush (x := 64) dX10_mast_94 (by decide) ?_
              refine ev_idiv dX10_mast_96 (by decide) ?_
              obtain ⟨hb16, h⟩ := ab_chk_some h
              refine ev_iastore sh_71 hb16 dX10_mast_97 ?_
              refine ev_aload_n dX10_mast_98 rfl ?_
              refine ev_getr (o' := 72) fl_RX10_16 sh_69 (by decide) (by decide) rfl rfl dX10_mast_99 ?_
              refine ev_aload_n dX10_mast_102 rfl ?_
              refine ev_geti fl_RX10_105 sh_69 (by decide) (by decide) rfl dX10_mast_103 ?_
              refine ev_iload_n dX10_mast_106 rfl ?_
              refine ev_bipush (x := 64) dX10_mast_107 (by decide) ?_
              refine ev_irem dX10_mast_109 (by decide) ?_
              obtain ⟨hb17, h⟩ := ab_chk_some h
              refine ev_iastore sh_72 hb17 dX10_mast_110 ?_
              refine ev_aload_n dX10_mast_111 rfl ?_
              refine ev_getr (o' := 73) fl_RX10_19 sh_69 (by decide) (by decide) rfl rfl dX10_mast_112 ?_
              refine ev_aload_n dX10_mast_115 rfl ?_
              refine ev_geti fl_RX10_105 sh_69 (by decide) (by decide) rfl dX10_mast_116 ?_
              refine ev_iload_n dX10_mast_119 rfl ?_
              obtain ⟨hb18, h⟩ := ab_chk_some h
              refine ev_iastore sh_73 hb18 dX10_mast_120 ?_
              refine ev_aload_n dX10_mast_121 rfl ?_
              refine ev_getr (o' := 74) fl_RX10_22 sh_69 (by decide) (by decide) rfl rfl dX10_mast_122 ?_
              refine ev_aload_n dX10_mast_125 rfl ?_
              refine ev_geti fl_RX10_105 sh_69 (by decide) (by decide) rfl dX10_mast_126 ?_
              refine ev_iload dX10_mast_129 rfl ?_
              obtain ⟨hb19, h⟩ := ab_chk_some h
              refine ev_iastore sh_74 hb19 dX10_mast_131 ?_
              refine ev_aload_n dX10_mast_132 rfl ?_
              refine ev_getr (o' := 75) fl_RX10_25 sh_69 (by decide) (by decide) rfl rfl dX10_mast_133 ?_
              refine ev_aload_n dX10_mast_136 rfl ?_
              refine ev_geti fl_RX10_105 sh_69 (by decide) (by decide) rfl dX10_mast_137 ?_
              refine ev_aload_n dX10_mast_140 rfl ?_
              refine ev_geti fl_RX10_108 sh_69 (by decide) (by decide) rfl dX10_mast_141 ?_
              obtain ⟨hb20, h⟩ := ab_chk_some h
              refine ev_iastore sh_75 hb20 dX10_mast_144 ?_
              refine ev_aload_n dX10_mast_145 rfl ?_
              refine ev_getr (o' := 76) fl_RX10_28 sh_69 (by decide) (by decide) rfl rfl dX10_mast_146 ?_
              refine ev_aload_n dX10_mast_149 rfl ?_
              refine ev_geti fl_RX10_105 sh_69 (by decide) (by decide) rfl dX10_mast_150 ?_
              refine ev_ldc kw_RX10_124 dX10_mast_153 ?_
              obtain ⟨hb21, h⟩ := ab_chk_some h
              refine ev_iastore sh_76 hb21 dX10_mast_155 ?_
              refine ev_aload_n dX10_mast_156 rfl ?_
              refine ev_getr (o' := 77) fl_RX10_31 sh_69 (by decide) (by decide) rfl rfl dX10_mast_157 ?_
              refine ev_aload_n dX10_mast_160 rfl ?_
              refine ev_geti fl_RX10_105 sh_69 (by decide) (by decide) rfl dX10_mast_161 ?_
              refine ev_iconst (x := 5) dX10_mast_164 (by decide) ?_
              obtain ⟨hb22, h⟩ := ab_chk_some h
              refine ev_iastore sh_77 hb22 dX10_mast_165 ?_
              refine ev_iconst (x := 0) dX10_mast_166 (by decide) ?_
              refine ev_istore dX10_mast_167 (Nat.le_of_ble_eq_true rfl) rfl rfl ?_
              obtain ⟨q27, hq28, h⟩ := ab_bind h
              refine ev_drop (lv' := [some (.ref 69), none, none, none, some (.int x4), some (.int 0)]) (ab_sub_k (ab_sub_d (ab_sub_d (ab_sub_d (ab_sub_k (ab_sub_k ab_sub_nil)))))) ?_
              refine lp_X10_mast_169 _ (ab_pi (ab_pi (ab_pi (ab_pi (ab_pi (ab_pi (ab_pi (ab_pi (ab_pi M 69 0 0) 70 ((ab_pi M 69 0 0).1 69 1).toNatClampNeg x1) 71 ((ab_pi (ab_pi M 69 0 0) 70 ((ab_pi M 69 0 0).1 69 1).toNatClampNeg x1).1 69 1).toNatClampNeg (x2 / 64)) 72 ((ab_pi (ab_pi (ab_pi M 69 0 0) 70 ((ab_pi M 69 0 0).1 69 1).toNatClampNeg x1) 71 ((ab_pi (ab_pi M 69 0 0) 70 ((ab_pi M 69 0 0).1 69 1).toNatClampNeg x1).1 69 1).toNatClampNeg (x2 / 64)).1 69 1).toNatClampNeg (ab_rem x2 64)) 73 ((ab_pi (ab_pi (ab_pi (ab_pi M 69 0 0) 70 ((ab_pi M 69 0 0).1 69 1).toNatClampNeg x1) 71 ((ab_pi (ab_pi M 69 0 0) 70 ((ab_pi M 69 0 0).1 69 1).toNatClampNeg x1).1 69 1).toNatClampNeg (x2 / 64)) 72 ((ab_pi (ab_pi (ab_pi M 69 0 0) 70 ((ab_pi M 69 0 0).1 69 1).toNatClampNeg x1) 71 ((ab_pi (ab_pi M 69 0 0) 70 ((ab_pi M 69 0 0).1 69 1).toNatClampNeg x1).1 69 1).toNatClampNeg (x2 / 64)).1 69 1).toNatClampNeg (ab_rem x2 64)).1 69 1).toNatClampNeg x3) 74 ((ab_pi (ab_pi (ab_pi (ab_pi (ab_pi M 69 0 0) 70 ((ab_pi M 69 0 0).1 69 1).toNatClampNeg x1) 71 ((ab_pi (ab_pi M 69 0 0) 70 ((ab_pi M 69 0 0).1 69 1).toNatClampNeg x1).1 69 1).toNatClampNeg (x2 / 64)) 72 ((ab_pi (ab_pi (ab_pi M 69 0 0) 70 ((ab_pi M 69 0 0).1 69 1).toNatClampNeg x1) 71 ((ab_pi (ab_pi M 69 0 0) 70 ((ab_pi M 69 0 0).1 69 1).toNatClampNeg x1).1 69 1).toNatClampNeg (x2 / 64)).1 69 1).toNatClampNeg (ab_rem x2 64)) 73 ((ab_pi (ab_pi (ab_pi (ab_pi M 69 0 0) 70 ((ab_pi M 69 0 0).1 69 1).toNatClampNeg x1) 71 ((ab_pi (ab_pi M 69 0 0) 70 ((ab_pi M 69 0 0).1 69 1).toNatClampNeg x1).1 69 1).toNatClampNeg (x2 / 64)) 72 ((ab_pi (ab_pi (ab_pi M 69 0 0) 70 ((ab_pi M 69 0 0).1 69 1).toNatClampNeg x1) 71 ((ab_pi (ab_pi M 69 0 0) 70 ((ab_pi M 69 0 0).1 69 1).toNatClampNeg x1).1 69 1).toNatClampNeg (x2 / 64)).1 69 1).toNatClampNeg (ab_rem x2 64)).1 69 1).toNatClampNeg x3).1 69 1).toNatClampNeg x4) 75 ((ab_pi (ab_pi (ab_pi (ab_pi (ab_pi (ab_pi M 69 0 0) 70 ((ab_pi M 69 0 0).1 69 1).toNatClampNeg x1) 71 ((ab_pi (ab_pi M 69 0 0) 70 ((ab_pi M 69 0 0).1 69 1).toNatClampNeg x1).1 69 1).toNatClampNeg (x2 / 64)) 72 ((ab_pi (ab_pi (ab_pi M 69 0 0) 70 ((ab_pi M 69 0 0).1 69 1).toNatClampNeg x1) 71 ((ab_pi (ab_pi M 69 0 0) 70 ((ab_pi M 69 0 0).1 69 1).toNatClampNeg x1).1 69 1).toNatClampNeg (x2 / 64)).1 69 1).toNatClampNeg (ab_rem x2 64)) 73 ((ab_pi (ab_pi (ab_pi (ab_pi M 69 0 0) 70 ((ab_pi M 69 0 0).1 69 1).toNatClampNeg x1) 71 ((ab_pi (ab_pi M 69 0 0) 70 ((ab_pi M 69 0 0).1 69 1).toNatClampNeg x1).1 69 1).toNatClampNeg (x2 / 64)) 72 ((ab_pi (ab_pi (ab_pi M 69 0 0) 70 ((ab_pi M 69 0 0).1 69 1).toNatClampNeg x1) 71 ((ab_pi (ab_pi M 69 0 0) 70 ((ab_pi M 69 0 0).1 69 1).toNatClampNeg x1).1 69 1).toNatClampNeg (x2 / 64)).1 69 1).toNatClampNeg (ab_rem x2 64)).1 69 1).toNatClampNeg x3) 74 ((ab_pi (ab_pi (ab_pi (ab_pi (ab_pi M 69 0 0) 70 ((ab_pi M 69 0 0).1 69 1).toNatClampNeg x1) 71 ((ab_pi (ab_pi M 69 0 0) 70 ((ab_pi M 69 0 0).1 69 1).toNatClampNeg x1).1 69 1).toNatClampNeg (x2 / 64)) 72 ((ab_pi (ab_pi (ab_pi M 69 0 0) 70 ((ab_pi M 69 0 0).1 69 1).toNatClampNeg x1) 71 ((ab_pi (ab_pi M 69 0 0) 70 ((ab_pi M 69 0 0).1 69 1).toNatClampNeg x1).1 69 1).toNatClampNeg (x2 / 64)).1 69 1).toNatClampNeg (ab_rem x2 64)) 73 ((ab_pi (ab_pi (ab_pi (ab_pi M 69 0 0) 70 ((ab_pi M 69 0 0).1 69 1).toNatClampNeg x1) 71 ((ab_pi (ab_pi M 69 0 0) 70 ((ab_pi M 69 0 0).1 69 1).toNatClampNeg x1).1 69 1).toNatClampNeg (x2 / 64)) 72 ((ab_pi (ab_pi (ab_pi M 69 0 0) 70 ((ab_pi M 69 0 0).1 69 1).toNatClampNeg x1) 71 ((ab_pi (ab_pi M 69 0 0) 70 ((ab_pi M 69 0 0).1 69 1).toNatClampNeg x1).1 69 1).toNatClampNeg (x2 / 64)).1 69 1).toNatClampNeg (ab_rem x2 64)).1 69 1).toNatClampNeg x3).1 69 1).toNatClampNeg x4).1 69 1).toNatClampNeg ((ab_pi (ab_pi (ab_pi (ab_pi (ab_pi (ab_pi M 69 0 0) 70 ((ab_pi M 69 0 0).1 69 1).toNatClampNeg x1) 71 ((ab_pi (ab_pi M 69 0 0) 70 ((ab_pi M 69 0 0).1 69 1).toNatClampNeg x1).1 69 1).toNatClampNeg (x2 / 64)) 72 ((ab_pi (ab_pi (ab_pi M 69 0 0) 70 ((ab_pi M 69 0 0).1 69 1).toNatClampNeg x1) 71 ((ab_pi (ab_pi M 69 0 0) 70 ((ab_pi M 69 0 0).1 69 1).toNatClampNeg x1).1 69 1).toNatClampNeg (x2 / 64)).1 69 1).toNatClampNeg (ab_rem x2 64)) 73 ((ab_pi (ab_pi (ab_pi (ab_pi M 69 0 0) 70 ((ab_pi M 69 0 0).1 69 1).toNatClampNeg x1) 71 ((ab_pi (ab_pi M 69 0 0) 70 ((ab_pi M 69 0 0).1 69 1).toNatClampNeg x1).1 69 1).toNatClampNeg (x2 / 64)) 72 ((ab_pi (ab_pi (ab_pi M 69 0 0) 70 ((ab_pi M 69 0 0).1 69 1).toNatClampNeg x1) 71 ((ab_pi (ab_pi M 69 0 0) 70 ((ab_pi M 69 0 0).1 69 1).toNatClampNeg x1).1 69 1).toNatClampNeg (x2 / 64)).1 69 1).toNatClampNeg (ab_rem x2 64)).1 69 1).toNatClampNeg x3) 74 ((ab_pi (ab_pi (ab_pi (ab_pi (ab_pi M 69 0 0) 70 ((ab_pi M 69 0 0).1 69 1).toNatClampNeg x1) 71 ((ab_pi (ab_pi M 69 0 0) 70 ((ab_pi M 69 0 0).1 69 1).toNatClampNeg x1).1 69 1).toNatClampNeg (x2 / 64)) 72 ((ab_pi (ab_pi (ab_pi M 69 0 0) 70 ((ab_pi M 69 0 0).1 69 1).toNatClampNeg x1) 71 ((ab_pi (ab_pi M 69 0 0) 70 ((ab_pi M 69 0 0).1 69 1).toNatClampNeg x1).1 69 1).toNatClampNeg (x2 / 64)).1 69 1).toNatClampNeg (ab_rem x2 64)) 73 ((ab_pi (ab_pi (ab_pi (ab_pi M 69 0 0) 70 ((ab_pi M 69 0 0).1 69 1).toNatClampNeg x1) 71 ((ab_pi (ab_pi M 69 0 0) 70 ((ab_pi M 69 0 0).1 69 1).toNatClampNeg x1).1 69 1).toNatClampNeg (x2 / 64)) 72 ((ab_pi (ab_pi (ab_pi M 69 0 0) 70 ((ab_pi M 69 0 0).1 69 1).toNatClampNeg x1) 71 ((ab_pi (ab_pi M 69 0 0) 70 ((ab_pi M 69 0 0).1 69 1).toNatClampNeg x1).1 69 1).toNatClampNeg (x2 / 64)).1 69 1).toNatClampNeg (ab_rem x2 64)).1 69 1).toNatClampNeg x3).1 69 1).toNatClampNeg x4).1 69 10)) 76 ((ab_pi (ab_pi (ab_pi (ab_pi (ab_pi (ab_pi (ab_pi M 69 0 0) 70 ((ab_pi M 69 0 0).1 69 1).toNatClampNeg x1) 71 ((ab_pi (ab_pi M 69 0 0) 70 ((ab_pi M 69 0 0).1 69 1).toNatClampNeg x1).1 69 1).toNatClampNeg (x2 / 64)) 72 ((ab_pi (ab_pi (ab_pi M 69 0 0) 70 ((ab_pi M 69 0 0).1 69 1).toNatClampNeg x1) 71 ((ab_pi (ab_pi M 69 0 0) 70 ((ab_pi M 69 0 0).1 69 1).toNatClampNeg x1).1 69 1).toNatClampNeg (x2 / 64)).1 69 1).toNatClampNeg (ab_rem x2 64)) 73 ((ab_pi (ab_pi (ab_pi (ab_pi M 69 0 0) 70 ((ab_pi M 69 0 0).1 69 1).toNatClampNeg x1) 71 ((ab_pi (ab_pi M 69 0 0) 70 ((ab_pi M 69 0 0).1 69 1).toNatClampNeg x1).1 69 1).toNatClampNeg (x2 / 64)) 72 ((ab_pi (ab_pi (ab_pi M 69 0 0) 70 ((ab_pi M 69 0 0).1 69 1).toNatClampNeg x1) 71 ((ab_pi (ab_pi M 69 0 0) 70 ((ab_pi M 69 0 0).1 69 1).toNatClampNeg x1).1 69 1).toNatClampNeg (x2 / 64)).1 69 1).toNatClampNeg (ab_rem x2 64)).1 69 1).toNatClampNeg x3) 74 ((ab_pi (ab_pi (ab_pi (ab_pi (ab_pi M 69 0 0) 70 ((ab_pi M 69 0 0).1 69 1).toNatClampNeg x1) 71 ((ab_pi (ab_pi M 69 0 0) 70 ((ab_pi M 69 0 0).1 69 1).toNatClampNeg x1).1 69 1).toNatClampNeg (x2 / 64)) 72 ((ab_pi (ab_pi (ab_pi M 69 0 0) 70 ((ab_pi M 69 0 0).1 69 1).toNatClampNeg x1) 71 ((ab_pi (ab_pi M 69 0 0) 70 ((ab_pi M 69 0 0).1 69 1).toNatClampNeg x1).1 69 1).toNatClampNeg (x2 / 64)).1 69 1).toNatClampNeg (ab_rem x2 64)) 73 ((ab_pi (ab_pi (ab_pi (ab_pi M 69 0 0) 70 ((ab_pi M 69 0 0).1 69 1).toNatClampNeg x1) 71 ((ab_pi (ab_pi M 69 0 0) 70 ((ab_pi M 69 0 0).1 69 1).toNatClampNeg x1).1 69 1).toNatClampNeg (x2 / 64)) 72 ((ab_pi (ab_pi (ab_pi M 69 0 0) 70 ((ab_pi M 69 0 0).1 69 1).toNatClampNeg x1) 71 ((ab_pi (ab_pi M 69 0 0) 70 ((ab_pi M 69 0 0).1 69 1).toNatClampNeg x1).1 69 1).toNatClampNeg (x2 / 64)).1 69 1).toNatClampNeg (ab_rem x2 64)).1 69 1).toNatClampNeg x3).1 69 1).toNatClampNeg x4) 75 ((ab_pi (ab_pi (ab_pi (ab_pi (ab_pi (ab_pi M 69 0 0) 70 ((ab_pi M 69 0 0).1 69 1).toNatClampNeg x1) 71 ((ab_pi (ab_pi M 69 0 0) 70 ((ab_pi M 69 0 0).1 69 1).toNatClampNeg x1).1 69 1).toNatClampNeg (x2 / 64)) 72 ((ab_pi (ab_pi (ab_pi M 69 0 0) 70 ((ab_pi M 69 0 0).1 69 1).toNatClampNeg x1) 71 ((ab_pi (ab_pi M 69 0 0) 70 ((ab_pi M 69 0 0).1 69 1).toNatClampNeg x1).1 69 1).toNatClampNeg (x2 / 64)).1 69 1).toNatClampNeg (ab_rem x2 64)) 73 ((ab_pi (ab_pi (ab_pi (ab_pi M 69 0 0) 70 ((ab_pi M 69 0 0).1 69 1).toNatClampNeg x1) 71 ((ab_pi (ab_pi M 69 0 0) 70 ((ab_pi M 69 0 0).1 69 1).toNatClampNeg x1).1 69 1).toNatClampNeg (x2 / 64)) 72 ((ab_pi (ab_pi (ab_pi M 69 0 0) 70 ((ab_pi M 69 0 0).1 69 1).toNatClampNeg x1) 71 ((ab_pi (ab_pi M 69 0 0) 70 ((ab_pi M 69 0 0).1 69 1).toNatClampNeg x1).1 69 1).toNatClampNeg (x2 / 64)).1 69 1).toNatClampNeg (ab_rem x2 64)).1 69 1).toNatClampNeg x3) 74 ((ab_pi (ab_pi (ab_pi (ab_pi (ab_pi M 69 0 0) 70 ((ab_pi M 69 0 0).1 69 1).toNatClampNeg x1) 71 ((ab_pi (ab_pi M 69 0 0) 70 ((ab_pi M 69 0 0).1 69 1).toNatClampNeg x1).1 69 1).toNatClampNeg (x2 / 64)) 72 ((ab_pi (ab_pi (ab_pi M 69 0 0) 70 ((ab_pi M 69 0 0).1 69 1).toNatClampNeg x1) 71 ((ab_pi (ab_pi M 69 0 0) 70 ((ab_pi M 69 0 0).1 69 1).toNatClampNeg x1).1 69 1).toNatClampNeg (x2 / 64)).1 69 1).toNatClampNeg (ab_rem x2 64)) 73 ((ab_pi (ab_pi (ab_pi (ab_pi M 69 0 0) 70 ((ab_pi M 69 0 0).1 69 1).toNatClampNeg x1) 71 ((ab_pi (ab_pi M 69 0 0) 70 ((ab_pi M 69 0 0).1 69 1).toNatClampNeg x1).1 69 1).toNatClampNeg (x2 / 64)) 72 ((ab_pi (ab_pi (ab_pi M 69 0 0) 70 ((ab_pi M 69 0 0).1 69 1).toNatClampNeg x1) 71 ((ab_pi (ab_pi M 69 0 0) 70 ((ab_pi M 69 0 0).1 69 1).toNatClampNeg x1).1 69 1).toNatClampNeg (x2 / 64)).1 69 1).toNatClampNeg (ab_rem x2 64)).1 69 1).toNatClampNeg x3).1 69 1).toNatClampNeg x4).1 69 1).toNatClampNeg ((ab_pi (ab_pi (ab_pi (ab_pi (ab_pi (ab_pi M 69 0 0) 70 ((ab_pi M 69 0 0).1 69 1).toNatClampNeg x1) 71 ((ab_pi (ab_pi M 69 0 0) 70 ((ab_pi M 69 0 0).1 69 1).toNatClampNeg x1).1 69 1).toNatClampNeg (x2 / 64)) 72 ((ab_pi (ab_pi (ab_pi M 69 0 0) 70 ((ab_pi M 69 0 0).1 69 1).toNatClampNeg x1) 71 ((ab_pi (ab_pi M 69 0 0) 70 ((ab_pi M 69 0 0).1 69 1).toNatClampNeg x1).1 69 1).toNatClampNeg (x2 / 64)).1 69 1).toNatClampNeg (ab_rem x2 64)) 73 ((ab_pi (ab_pi (ab_pi (ab_pi M 69 0 0) 70 ((ab_pi M 69 0 0).1 69 1).toNatClampNeg x1) 71 ((ab_pi (ab_pi M 69 0 0) 70 ((ab_pi M 69 0 0).1 69 1).toNatClampNeg x1).1 69 1).toNatClampNeg (x2 / 64)) 72 ((ab_pi (ab_pi (ab_pi M 69 0 0) 70 ((ab_pi M 69 0 0).1 69 1).toNatClampNeg x1) 71 ((ab_pi (ab_pi M 69 0 0) 70 ((ab_pi M 69 0 0).1 69 1).toNatClampNeg x1).1 69 1).toNatClampNeg (x2 / 64)).1 69 1).toNatClampNeg (ab_rem x2 64)).1 69 1).toNatClampNeg x3) 74 ((ab_pi (ab_pi (ab_pi (ab_pi (ab_pi M 69 0 0) 70 ((ab_pi M 69 0 0).1 69 1).toNatClampNeg x1) 71 ((ab_pi (ab_pi M 69 0 0) 70 ((ab_pi M 69 0 0).1 69 1).toNatClampNeg x1).1 69 1).toNatClampNeg (x2 / 64)) 72 ((ab_pi (ab_pi (ab_pi M 69 0 0) 70 ((ab_pi M 69 0 0).1 69 1).toNatClampNeg x1) 71 ((ab_pi (ab_pi M 69 0 0) 70 ((ab_pi M 69 0 0).1 69 1).toNatClampNeg x1).1 69 1).toNatClampNeg (x2 / 64)).1 69 1).toNatClampNeg (ab_rem x2 64)) 73 ((ab_pi (ab_pi (ab_pi (ab_pi M 69 0 0) 70 ((ab_pi M 69 0 0).1 69 1).toNatClampNeg x1) 71 ((ab_pi (ab_pi M 69 0 0) 70 ((ab_pi M 69 0 0).1 69 1).toNatClampNeg x1).1 69 1).toNatClampNeg (x2 / 64)) 72 ((ab_pi (ab_pi (ab_pi M 69 0 0) 70 ((ab_pi M 69 0 0).1 69 1).toNatClampNeg x1) 71 ((ab_pi (ab_pi M 69 0 0) 70 ((ab_pi M 69 0 0).1 69 1).toNatClampNeg x1).1 69 1).toNatClampNeg (x2 / 64)).1 69 1).toNatClampNeg (ab_rem x2 64)).1 69 1).toNatClampNeg x3).1 69 1).toNatClampNeg x4).1 69 10)).1 69 1).toNatClampNeg 1073741823) 77 ((ab_pi (ab_pi (ab_pi (ab_pi (ab_pi (ab_pi (ab_pi (ab_pi M 69 0 0) 70 ((ab_pi M 69 0 0).1 69 1).toNatClampNeg x1) 71 ((ab_pi (ab_pi M 69 0 0) 70 ((ab_pi M 69 0 0).1 69 1).toNatClampNeg x1).1 69 1).toNatClampNeg (x2 / 64)) 72 ((ab_pi (ab_pi (ab_pi M 69 0 0) 70 ((ab_pi M 69 0 0).1 69 1).toNatClampNeg x1) 71 ((ab_pi (ab_pi M 69 0 0) 70 ((ab_pi M 69 0 0).1 69 1).toNatClampNeg x1).1 69 1).toNatClampNeg (x2 / 64)).1 69 1).toNatClampNeg (ab_rem x2 64)) 73 ((ab_pi (ab_pi (ab_pi (ab_pi M 69 0 0) 70 ((ab_pi M 69 0 0).1 69 1).toNatClampNeg x1) 71 ((ab_pi (ab_pi M 69 0 0) 70 ((ab_pi M 69 0 0).1 69 1).toNatClampNeg x1).1 69 1).toNatClampNeg (x2 / 64)) 72 ((ab_pi (ab_pi (ab_pi M 69 0 0) 70 ((ab_pi M 69 0 0).1 69 1).toNatClampNeg x1) 71 ((ab_pi (ab_pi M 69 0 0) 70 ((ab_pi M 69 0 0).1 69 1).toNatClampNeg x1).1 69 1).toNatClampNeg (x2 / 64)).1 69 1).toNatClampNeg (ab_rem x2 64)).1 69 1).toNatClampNeg x3) 74 ((ab_pi (ab_pi (ab_pi (ab_pi (ab_pi M 69 0 0) 70 ((ab_pi M 69 0 0).1 69 1).toNatClampNeg x1) 71 ((ab_pi (ab_pi M 69 0 0) 70 ((ab_pi M 69 0 0).1 69 1).toNatClampNeg x1).1 69 1).toNatClampNeg (x2 / 64)) 72 ((ab_pi (ab_pi (ab_pi M 69 0 0) 70 ((ab_pi M 69 0 0).1 69 1).toNatClampNeg x1) 71 ((ab_pi (ab_pi M 69 0 0) 70 ((ab_pi M 69 0 0).1 69 1).toNatClampNeg x1).1 69 1).toNatClampNeg (x2 / 64)).1 69 1).toNatClampNeg (ab_rem x2 64)) 73 ((ab_pi (ab_pi (ab_pi (ab_pi M 69 0 0) 70 ((ab_pi M 69 0 0).1 69 1).toNatClampNeg x1) 71 ((ab_pi (ab_pi M 69 0 0) 70 ((ab_pi M 69 0 0).1 69 1).toNatClampNeg x1).1 69 1).toNatClampNeg (x2 / 64)) 72 ((ab_pi (ab_pi (ab_pi M 69 0 0) 70 ((ab_pi M 69 0 0).1 69 1).toNatClampNeg x1) 71 ((ab_pi (ab_pi M 69 0 0) 70 ((ab_pi M 69 0 0).1 69 1).toNatClampNeg x1).1 69 1).toNatClampNeg (x2 / 64)).1 69 1).toNatClampNeg (ab_rem x2 64)).1 69 1).toNatClampNeg x3).1 69 1).toNatClampNeg x4) 75 ((ab_pi (ab_pi (ab_pi (ab_pi (ab_pi (ab_pi M 69 0 0) 70 ((ab_pi M 69 0 0).1 69 1).toNatClampNeg x1) 71 ((ab_pi (ab_pi M 69 0 0) 70 ((ab_pi M 69 0 0).1 69 1).toNatClampNeg x1).1 69 1).toNatClampNeg (x2 / 64)) 72 ((ab_pi (ab_pi (ab_pi M 69 0 0) 70 ((ab_pi M 69 0 0).1 69 1).toNatClampNeg x1) 71 ((ab_pi (ab_pi M 69 0 0) 70 ((ab_pi M 69 0 0).1 69 1).toNatClampNeg x1).1 69 1).toNatClampNeg (x2 / 64)).1 69 1).toNatClampNeg (ab_rem x2 64)) 73 ((ab_pi (ab_pi (ab_pi (ab_pi M 69 0 0) 70 ((ab_pi M 69 0 0).1 69 1).toNatClampNeg x1) 71 ((ab_pi (ab_pi M 69 0 0) 70 ((ab_pi M 69 0 0).1 69 1).toNatClampNeg x1).1 69 1).toNatClampNeg (x2 / 64)) 72 ((ab_pi (ab_pi (ab_pi M 69 0 0) 70 ((ab_pi M 69 0 0).1 69 1).toNatClampNeg x1) 71 ((ab_pi (ab_pi M 69 0 0) 70 ((ab_pi M 69 0 0).1 69 1).toNatClampNeg x1).1 69 1).toNatClampNeg (x2 / 64)).1 69 1).toNatClampNeg (ab_rem x2 64)).1 69 1).toNatClampNeg x3) 74 ((ab_pi (ab_pi (ab_pi (ab_pi (ab_pi M 69 0 0) 70 ((ab_pi M 69 0 0).1 69 1).toNatClampNeg x1) 71 ((ab_pi (ab_pi M 69 0 0) 70 ((ab_pi M 69 0 0).1 69 1).toNatClampNeg x1).1 69 1).toNatClampNeg (x2 / 64)) 72 ((ab_pi (ab_pi (ab_pi M 69 0 0) 70 ((ab_pi M 69 0 0).1 69 1).toNatClampNeg x1) 71 ((ab_pi (ab_pi M 69 0 0) 70 ((ab_pi M 69 0 0).1 69 1).toNatClampNeg x1).1 69 1).toNatClampNeg (x2 / 64)).1 69 1).toNatClampNeg (ab_rem x2 64)) 73 ((ab_pi (ab_pi (ab_pi (ab_pi M 69 0 0) 70 ((ab_pi M 69 0 0).1 69 1).toNatClampNeg x1) 71 ((ab_pi (ab_pi M 69 0 0) 70 ((ab_pi M 69 0 0).1 69 1).toNatClampNeg x1).1 69 1).toNatClampNeg (x2 / 64)) 72 ((ab_pi (ab_pi (ab_pi M 69 0 0) 70 ((ab_pi M 69 0 0).1 69 1).toNatClampNeg x1) 71 ((ab_pi (ab_pi M 69 0 0) 70 ((ab_pi M 69 0 0).1 69 1).toNatClampNeg x1).1 69 1).toNatClampNeg (x2 / 64)).1 69 1).toNatClampNeg (ab_rem x2 64)).1 69 1).toNatClampNeg x3).1 69 1).toNatClampNeg x4).1 69 1).toNatClampNeg ((ab_pi (ab_pi (ab_pi (ab_pi (ab_pi (ab_pi M 69 0 0) 70 ((ab_pi M 69 0 0).1 69 1).toNatClampNeg x1) 71 ((ab_pi (ab_pi M 69 0 0) 70 ((ab_pi M 69 0 0).1 69 1).toNatClampNeg x1).1 69 1).toNatClampNeg (x2 / 64)) 72 ((ab_pi (ab_pi (ab_pi M 69 0 0) 70 ((ab_pi M 69 0 0).1 69 1).toNatClampNeg x1) 71 ((ab_pi (ab_pi M 69 0 0) 70 ((ab_pi M 69 0 0).1 69 1).toNatClampNeg x1).1 69 1).toNatClampNeg (x2 / 64)).1 69 1).toNatClampNeg (ab_rem x2 64)) 73 ((ab_pi (ab_pi (ab_pi (ab_pi M 69 0 0) 70 ((ab_pi M 69 0 0).1 69 1).toNatClampNeg x1) 71 ((ab_pi (ab_pi M 69 0 0) 70 ((ab_pi M 69 0 0).1 69 1).toNatClampNeg x1).1 69 1).toNatClampNeg (x2 / 64)) 72 ((ab_pi (ab_pi (ab_pi M 69 0 0) 70 ((ab_pi M 69 0 0).1 69 1).toNatClampNeg x1) 71 ((ab_pi (ab_pi M 69 0 0) 70 ((ab_pi M 69 0 0).1 69 1).toNatClampNeg x1).1 69 1).toNatClampNeg (x2 / 64)).1 69 1).toNatClampNeg (ab_rem x2 64)).1 69 1).toNatClampNeg x3) 74 ((ab_pi (ab_pi (ab_pi (ab_pi (ab_pi M 69 0 0) 70 ((ab_pi M 69 0 0).1 69 1).toNatClampNeg x1) 71 ((ab_pi (ab_pi M 69 0 0) 70 ((ab_pi M 69 0 0).1 69 1).toNatClampNeg x1).1 69 1).toNatClampNeg (x2 / 64)) 72 ((ab_pi (ab_pi (ab_pi M 69 0 0) 70 ((ab_pi M 69 0 0).1 69 1).toNatClampNeg x1) 71 ((ab_pi (ab_pi M 69 0 0) 70 ((ab_pi M 69 0 0).1 69 1).toNatClampNeg x1).1 69 1).toNatClampNeg (x2 / 64)).1 69 1).toNatClampNeg (ab_rem x2 64)) 73 ((ab_pi (ab_pi (ab_pi (ab_pi M 69 0 0) 70 ((ab_pi M 69 0 0).1 69 1).toNatClampNeg x1) 71 ((ab_pi (ab_pi M 69 0 0) 70 ((ab_pi M 69 0 0).1 69 1).toNatClampNeg x1).1 69 1).toNatClampNeg (x2 / 64)) 72 ((ab_pi (ab_pi (ab_pi M 69 0 0) 70 ((ab_pi M 69 0 0).1 69 1).toNatClampNeg x1) 71 ((ab_pi (ab_pi M 69 0 0) 70 ((ab_pi M 69 0 0).1 69 1).toNatClampNeg x1).1 69 1).toNatClampNeg (x2 / 64)).1 69 1).toNatClampNeg (ab_rem x2 64)).1 69 1).toNatClampNeg x3).1 69 1).toNatClampNeg x4).1 69 10)) 76 ((ab_pi (ab_pi (ab_pi (ab_pi (ab_pi (ab_pi (ab_pi M 69 0 0) 70 ((ab_pi M 69 0 0).1 69 1).toNatClampNeg x1) 71 ((ab_pi (ab_pi M 69 0 0) 70 ((ab_pi M 69 0 0).1 69 1).toNatClampNeg x1).1 69 1).toNatClampNeg (x2 / 64)) 72 ((ab_pi (ab_pi (ab_pi M 69 0 0) 70 ((ab_pi M 69 0 0).1 69 1).toNatClampNeg x1) 71 ((ab_pi (ab_pi M 69 0 0) 70 ((ab_pi M 69 0 0).1 69 1).toNatClampNeg x1).1 69 1).toNatClampNeg (x2 / 64)).1 69 1).toNatClampNeg (ab_rem x2 64)) 73 ((ab_pi (ab_pi (ab_pi (ab_pi M 69 0 0) 70 ((ab_pi M 69 0 0).1 69 1).toNatClampNeg x1) 71 ((ab_pi (ab_pi M 69 0 0) 70 ((ab_pi M 69 0 0).1 69 1).toNatClampNeg x1).1 69 1).toNatClampNeg (x2 / 64)) 72 ((ab_pi (ab_pi (ab_pi M 69 0 0) 70 ((ab_pi M 69 0 0).1 69 1).toNatClampNeg x1) 71 ((ab_pi (ab_pi M 69 0 0) 70 ((ab_pi M 69 0 0).1 69 1).toNatClampNeg x1).1 69 1).toNatClampNeg (x2 / 64)).1 69 1).toNatClampNeg (ab_rem x2 64)).1 69 1).toNatClampNeg x3) 74 ((ab_pi (ab_pi (ab_pi (ab_pi (ab_pi M 69 0 0) 70 ((ab_pi M 69 0 0).1 69 1).toNatClampNeg x1) 71 ((ab_pi (ab_pi M 69 0 0) 70 ((ab_pi M 69 0 0).1 69 1).toNatClampNeg x1).1 69 1).toNatClampNeg (x2 / 64)) 72 ((ab_pi (ab_pi (ab_pi M 69 0 0) 70 ((ab_pi M 69 0 0).1 69 1).toNatClampNeg x1) 71 ((ab_pi (ab_pi M 69 0 0) 70 ((ab_pi M 69 0 0).1 69 1).toNatClampNeg x1).1 69 1).toNatClampNeg (x2 / 64)).1 69 1).toNatClampNeg (ab_rem x2 64)) 73 ((ab_pi (ab_pi (ab_pi (ab_pi M 69 0 0) 70 ((ab_pi M 69 0 0).1 69 1).toNatClampNeg x1) 71 ((ab_pi (ab_pi M 69 0 0) 70 ((ab_pi M 69 0 0).1 69 1).toNatClampNeg x1).1 69 1).toNatClampNeg (x2 / 64)) 72 ((ab_pi (ab_pi (ab_pi M 69 0 0) 70 ((ab_pi M 69 0 0).1 69 1).toNatClampNeg x1) 71 ((ab_pi (ab_pi M 69 0 0) 70 ((ab_pi M 69 0 0).1 69 1).toNatClampNeg x1).1 69 1).toNatClampNeg (x2 / 64)).1 69 1).toNatClampNeg (ab_rem x2 64)).1 69 1).toNatClampNeg x3).1 69 1).toNatClampNeg x4) 75 ((ab_pi (ab_pi (ab_pi (ab_pi (ab_pi (ab_pi M 69 0 0) 70 ((ab_pi M 69 0 0).1 69 1).toNatClampNeg x1) 71 ((ab_pi (ab_pi M 69 0 0) 70 ((ab_pi M 69 0 0).1 69 1).toNatClampNeg x1).1 69 1).toNatClampNeg (x2 / 64)) 72 ((ab_pi (ab_pi (ab_pi M 69 0 0) 70 ((ab_pi M 69 0 0).1 69 1).toNatClampNeg x1) 71 ((ab_pi (ab_pi M 69 0 0) 70 ((ab_pi M 69 0 0).1 69 1).toNatClampNeg x1).1 69 1).toNatClampNeg (x2 / 64)).1 69 1).toNatClampNeg (ab_rem x2 64)) 73 ((ab_pi (ab_pi (ab_pi (ab_pi M 69 0 0) 70 ((ab_pi M 69 0 0).1 69 1).toNatClampNeg x1) 71 ((ab_pi (ab_pi M 69 0 0) 70 ((ab_pi M 69 0 0).1 69 1).toNatClampNeg x1).1 69 1).toNatClampNeg (x2 / 64)) 72 ((ab_pi (ab_pi (ab_pi M 69 0 0) 70 ((ab_pi M 69 0 0).1 69 1).toNatClampNeg x1) 71 ((ab_pi (ab_pi M 69 0 0) 70 ((ab_pi M 69 0 0).1 69 1).toNatClampNeg x1).1 69 1).toNatClampNeg (x2 / 64)).1 69 1).toNatClampNeg (ab_rem x2 64)).1 69 1).toNatClampNeg x3) 74 ((ab_pi (ab_pi (ab_pi (ab_pi (ab_pi M 69 0 0) 70 ((ab_pi M 69 0 0).1 69 1).toNatClampNeg x1) 71 ((ab_pi (ab_pi M 69 0 0) 70 ((ab_pi M 69 0 0).1 69 1).toNatClampNeg x1).1 69 1).toNatClampNeg (x2 / 64)) 72 ((ab_pi (ab_pi (ab_pi M 69 0 0) 70 ((ab_pi M 69 0 0).1 69 1).toNatClampNeg x1) 71 ((ab_pi (ab_pi M 69 0 0) 70 ((ab_pi M 69 0 0).1 69 1).toNatClampNeg x1).1 69 1).toNatClampNeg (x2 / 64)).1 69 1).toNatClampNeg (ab_rem x2 64)) 73 ((ab_pi (ab_pi (ab_pi (ab_pi M 69 0 0) 70 ((ab_pi M 69 0 0).1 69 1).toNatClampNeg x1) 71 ((ab_pi (ab_pi M 69 0 0) 70 ((ab_pi M 69 0 0).1 69 1).toNatClampNeg x1).1 69 1).toNatClampNeg (x2 / 64)) 72 ((ab_pi (ab_pi (ab_pi M 69 0 0) 70 ((ab_pi M 69 0 0).1 69 1).toNatClampNeg x1) 71 ((ab_pi (ab_pi M 69 0 0) 70 ((ab_pi M 69 0 0).1 69 1).toNatClampNeg x1).1 69 1).toNatClampNeg (x2 / 64)).1 69 1).toNatClampNeg (ab_rem x2 64)).1 69 1).toNatClampNeg x3).1 69 1).toNatClampNeg x4).1 69 1).toNatClampNeg ((ab_pi (ab_pi (ab_pi (ab_pi (ab_pi (ab_pi M 69 0 0) 70 ((ab_pi M 69 0 0).1 69 1).toNatClampNeg x1) 71 ((ab_pi (ab_pi M 69 0 0) 70 ((ab_pi M 69 0 0).1 69 1).toNatClampNeg x1).1 69 1).toNatClampNeg (x2 / 64)) 72 ((ab_pi (ab_pi (ab_pi M 69 0 0) 70 ((ab_pi M 69 0 0).1 69 1).toNatClampNeg x1) 71 ((ab_pi (ab_pi M 69 0 0) 70 ((ab_pi M 69 0 0).1 69 1).toNatClampNeg x1).1 69 1).toNatClampNeg (x2 / 64)).1 69 1).toNatClampNeg (ab_rem x2 64)) 73 ((ab_pi (ab_pi (ab_pi (ab_pi M 69 0 0) 70 ((ab_pi M 69 0 0).1 69 1).toNatClampNeg x1) 71 ((ab_pi (ab_pi M 69 0 0) 70 ((ab_pi M 69 0 0).1 69 1).toNatClampNeg x1).1 69 1).toNatClampNeg (x2 / 64)) 72 ((ab_pi (ab_pi (ab_pi M 69 0 0) 70 ((ab_pi M 69 0 0).1 69 1).toNatClampNeg x1) 71 ((ab_pi (ab_pi M 69 0 0) 70 ((ab_pi M 69 0 0).1 69 1).toNatClampNeg x1).1 69 1).toNatClampNeg (x2 / 64)).1 69 1).toNatClampNeg (ab_rem x2 64)).1 69 1).toNatClampNeg x3) 74 ((ab_pi (ab_pi (ab_pi (ab_pi (ab_pi M 69 0 0) 70 ((ab_pi M 69 0 0).1 69 1).toNatClampNeg x1) 71 ((ab_pi (ab_pi M 69 0 0) 70 ((ab_pi M 69 0 0).1 69 1).toNatClampNeg x1).1 69 1).toNatClampNeg (x2 / 64)) 72 ((ab_pi (ab_pi (ab_pi M 69 0 0) 70 ((ab_pi M 69 0 0).1 69 1).toNatClampNeg x1) 71 ((ab_pi (ab_pi M 69 0 0) 70 ((ab_pi M 69 0 0).1 69 1).toNatClampNeg x1).1 69 1).toNatClampNeg (x2 / 64)).1 69 1).toNatClampNeg (ab_rem x2 64)) 73 ((ab_pi (ab_pi (ab_pi (ab_pi M 69 0 0) 70 ((ab_pi M 69 0 0).1 69 1).toNatClampNeg x1) 71 ((ab_pi (ab_pi M 69 0 0) 70 ((ab_pi M 69 0 0).1 69 1).toNatClampNeg x1).1 69 1).toNatClampNeg (x2 / 64)) 72 ((ab_pi (ab_pi (ab_pi M 69 0 0) 70 ((ab_pi M 69 0 0).1 69 1).toNatClampNeg x1) 71 ((ab_pi (ab_pi M 69 0 0) 70 ((ab_pi M 69 0 0).1 69 1).toNatClampNeg x1).1 69 1).toNatClampNeg (x2 / 64)).1 69 1).toNatClampNeg (ab_rem x2 64)).1 69 1).toNatClampNeg x3).1 69 1).toNatClampNeg x4).1 69 10)).1 69 1).toNatClampNeg 1073741823).1 69 1).toNatClampNeg 5) x4 0 _ hq28 ?_
              refine ev_aload_n dX10_mast_226 rfl ?_
              refine ev_dup dX10_mast_227 rfl ?_
              refine ev_geti fl_RX10_105 sh_69 (by decide) (by decide) rfl dX10_mast_228 ?_
              refine ev_iconst (x := 1) dX10_mast_231 (by decide) ?_
              refine ev_iadd dX10_mast_232 ?_
              refine ev_puti fl_RX10_105 sh_69 (by decide) (by decide) rfl rfl rfl dX10_mast_233 ?_
              refine ev_aload_n dX10_mast_236 rfl ?_
              refine ev_geti fl_RX10_105 sh_69 (by decide) (by decide) rfl dX10_mast_237 ?_
              refine ev_iconst (x := 1) dX10_mast_240 (by decide) ?_
              refine ev_isub dX10_mast_241 ?_
              cases h
              exact ev_ireturn rfl dX10_mast_242
            · replace h := ab_neg hc14 h
              refine ev_bipush (x := (-2)) dX10_mast_72 (by decide) ?_
              cases h
              exact ev_ireturn rfl dX10_mast_74
        · replace h := ab_pos hc12 h
          refine ev_iconst (x := (-1)) dX10_mast_49 (by decide) ?_
          cases h
          exact ev_ireturn rfl dX10_mast_50

noncomputable def mi_X10_square (M : ab_M) (x1 : Int32) (x2 : Int32) : Option (Int32) :=
  ab_chk (vp_in x1 12) <|
  ab_chk (vp_in x2 12) <|
  ab_chk (vp_in x1 12) <|
  ab_chk (vp_in x2 12) <|
  ab_chk (vp_in x1 12) <|
  ab_chk (vp_in x2 12) <|
  ab_chk (vp_in x1 12) <|
  ab_chk (vp_in x2 12) <|
  some ((((M.1 71 (x1).toNatClampNeg) - (M.1 71 (x2).toNatClampNeg)) * ((M.1 71 (x1).toNatClampNeg) - (M.1 71 (x2).toNatClampNeg))) + (((M.1 72 (x1).toNatClampNeg) - (M.1 72 (x2).toNatClampNeg)) * ((M.1 72 (x1).toNatClampNeg) - (M.1 72 (x2).toNatClampNeg))))

set_option maxHeartbeats 4000000 in
set_option maxRecDepth 100000 in
theorem co_X10_square {l : Launch} {D : va_G} {ac : Nat → ClassId} (M : ab_M) (x1 : Int32) (x2 : Int32) (z : Int32) (h : mi_X10_square M x1 x2 = some z) : ab_Con l D ac 1 me_X10_square 0 0 [.ref 69, .int x1, .int x2] ab_SH M (some (.int z), ab_SH, M) := by
  refine ab_intro (lv := [some (.ref 69), some (.int x1), some (.int x2)]) (by decide) rfl (Nat.le_of_ble_eq_true rfl) rfl ?_
  unfold mi_X10_square at h
  refine ev_aload_n dX10_square_0 rfl ?_
  refine ev_getr (o' := 71) fl_RX10_13 sh_69 (by decide) (by decide) rfl rfl dX10_square_1 ?_
  refine ev_iload_n dX10_square_4 rfl ?_
  obtain ⟨hb1, h⟩ := ab_chk_some h
  refine ev_iaload sh_71 hb1 dX10_square_5 ?_
  refine ev_aload_n dX10_square_6 rfl ?_
  refine ev_getr (o' := 71) fl_RX10_13 sh_69 (by decide) (by decide) rfl rfl dX10_square_7 ?_
  refine ev_iload_n dX10_square_10 rfl ?_
  obtain ⟨hb2, h⟩ := ab_chk_some h
  refine ev_iaload sh_71 hb2 dX10_square_11 ?_
  refine ev_isub dX10_square_12 ?_
  refine ev_aload_n dX10_square_13 rfl ?_
  refine ev_getr (o' := 71) fl_RX10_13 sh_69 (by decide) (by decide) rfl rfl dX10_square_14 ?_
  refine ev_iload_n dX10_square_17 rfl ?_
  obtain ⟨hb3, h⟩ := ab_chk_some h
  refine ev_iaload sh_71 hb3 dX10_square_18 ?_
  refine ev_aload_n dX10_square_19 rfl ?_
  refine ev_getr (o' := 71) fl_RX10_13 sh_69 (by decide) (by decide) rfl rfl dX10_square_20 ?_
  refine ev_iload_n dX10_square_23 rfl ?_
  obtain ⟨hb4, h⟩ := ab_chk_some h
  refine ev_iaload sh_71 hb4 dX10_square_24 ?_
  refine ev_isub dX10_square_25 ?_
  refine ev_imul dX10_square_26 ?_
  refine ev_aload_n dX10_square_27 rfl ?_
  refine ev_getr (o' := 72) fl_RX10_16 sh_69 (by decide) (by decide) rfl rfl dX10_square_28 ?_
  refine ev_iload_n dX10_square_31 rfl ?_
  obtain ⟨hb5, h⟩ := ab_chk_some h
  refine ev_iaload sh_72 hb5 dX10_square_32 ?_
  refine ev_aload_n dX10_square_33 rfl ?_
  refine ev_getr (o' := 72) fl_RX10_16 sh_69 (by decide) (by decide) rfl rfl dX10_square_34 ?_
  refine ev_iload_n dX10_square_37 rfl ?_
  obtain ⟨hb6, h⟩ := ab_chk_some h
  refine ev_iaload sh_72 hb6 dX10_square_38 ?_
  refine ev_isub dX10_square_39 ?_
  refine ev_aload_n dX10_square_40 rfl ?_
  refine ev_getr (o' := 72) fl_RX10_16 sh_69 (by decide) (by decide) rfl rfl dX10_square_41 ?_
  refine ev_iload_n dX10_square_44 rfl ?_
  obtain ⟨hb7, h⟩ := ab_chk_some h
  refine ev_iaload sh_72 hb7 dX10_square_45 ?_
  refine ev_aload_n dX10_square_46 rfl ?_
  refine ev_getr (o' := 72) fl_RX10_16 sh_69 (by decide) (by decide) rfl rfl dX10_square_47 ?_
  refine ev_iload_n dX10_square_50 rfl ?_
  obtain ⟨hb8, h⟩ := ab_chk_some h
  refine ev_iaload sh_72 hb8 dX10_square_51 ?_
  refine ev_isub dX10_square_52 ?_
  refine ev_imul dX10_square_53 ?_
  refine ev_iadd dX10_square_54 ?_
  cases h
  exact ev_ireturn rfl dX10_square_55

noncomputable def mi_X10_barOf_15 : Nat → ab_M → Int32 → Int32 → Int32 → Int32 → Option (Int32 × Int32)
  | 0, _, _, _, _, _ => none
  | n + 1, M, x1, x2, x3, x4 =>
    if (M.1 69 14) ≤ x4 then
      some (x3, x4)
    else
      ab_chk (vp_in x4 8) <|
      (mi_X10_square M x1 x2).bind fun q4 =>
      ((if (M.1 81 (x4).toNatClampNeg) < q4 then
        some 0
      else
        ab_chk (vp_in x4 8) <|
        ab_chk (vp_in x1 12) <|
        ab_chk (vp_in x2 12) <|
        if ((M.1 73 (x1).toNatClampNeg) + (M.1 73 (x2).toNatClampNeg)) < (M.1 82 (x4).toNatClampNeg) then
          some 0
        else
          some 1) : Option (Int32)).bind fun q6 =>
      ((if q6 = 0 then
        some x3
      else
        ab_chk (vp_in x4 8) <|
        if (M.1 83 (x4).toNatClampNeg) ≤ x3 then
          some x3
        else
          ab_chk (vp_in x4 8) <|
          some (M.1 83 (x4).toNatClampNeg)) : Option (Int32)).bind fun q14 =>
      mi_X10_barOf_15 n M x1 x2 q14 (x4 + 1)

set_option maxHeartbeats 4000000 in
set_option maxRecDepth 100000 in
theorem lp_X10_barOf_15 {l : Launch} {D : va_G} {ac : Nat → ClassId} {n0 : Nat} {r : ab_Rs} : ∀ (n : Nat) (M : ab_M) (x1 : Int32) (x2 : Int32) (x3 : Int32) (x4 : Int32) (q : Int32 × Int32) (h : mi_X10_barOf_15 n M x1 x2 x3 x4 = some q) (kk : ab_Ev l D ac 2 me_X10_barOf n0 0 0 r 0 0 ab_SH 104 [some (.ref 69), some (.int x1), some (.int x2), some (.int q.1), some (.int q.2), none] [] M), ab_Ev l D ac 2 me_X10_barOf n0 0 0 r 0 0 ab_SH 15 [some (.ref 69), some (.int x1), some (.int x2), some (.int x3), some (.int x4), none] [] M := by
  intro n
  induction n with
  | zero =>
    intro M x1 x2 x3 x4 q h kk
    cases h
  | succ n ih =>
    intro M x1 x2 x3 x4 q h kk
    unfold mi_X10_barOf_15 at h
    refine ev_iload dX10_barOf_15 rfl ?_
    refine ev_aload_n dX10_barOf_17 rfl ?_
    refine ev_geti fl_RX10_125 sh_69 (by decide) (by decide) rfl dX10_barOf_18 ?_
    refine ev_icmp_ge (t := 104) dX10_barOf_21 (by decide) (fun hc2 => ?_) (fun hc2 => ?_)
    · replace h := ab_pos hc2 h
      cases h
      exact kk
    · replace h := ab_neg hc2 h
      refine ev_aload_n dX10_barOf_24 rfl ?_
      refine ev_getr (o' := 81) fl_RX10_43 sh_69 (by decide) (by decide) rfl rfl dX10_barOf_25 ?_
      refine ev_iload dX10_barOf_28 rfl ?_
      obtain ⟨hb3, h⟩ := ab_chk_some h
      refine ev_iaload sh_81 hb3 dX10_barOf_30 ?_
      refine ev_aload_n dX10_barOf_31 rfl ?_
      refine ev_iload_n dX10_barOf_32 rfl ?_
      refine ev_iload_n dX10_barOf_33 rfl ?_
      obtain ⟨q4, hv5, h⟩ := ab_bind h
      refine ev_callV (st := [.int (M.1 81 (x4).toNatClampNeg)]) (co_X10_square M x1 x2 _ hv5) mv_X10_square sh_69 ml_RX10_128 dX10_barOf_34 (by decide) rfl (Nat.le_of_ble_eq_true rfl) ⟨Nat.le_refl _, Nat.le_refl _⟩ ?_
      obtain ⟨q6, hq7, h⟩ := ab_bind h
      have hJ8 : ab_Ev l D ac 2 me_X10_barOf n0 0 0 r 0 0 ab_SH 68 [some (.ref 69), some (.int x1), some (.int x2), some (.int x3), some (.int x4), none] [.int q6] M := by
        refine ev_istore dX10_barOf_68 (Nat.le_of_ble_eq_true rfl) rfl rfl ?_
        refine ev_iload dX10_barOf_70 rfl ?_
        obtain ⟨q14, hq15, h⟩ := ab_bind h
        have hJ16 : ab_Ev l D ac 2 me_X10_barOf n0 0 0 r 0 0 ab_SH 97 [some (.ref 69), some (.int x1), some (.int x2), some (.int x3), some (.int x4), some (.int q6)] [.int q14] M := by
          refine ev_istore_n dX10_barOf_97 (Nat.le_of_ble_eq_true rfl) rfl rfl ?_
          refine ev_iinc (y := x4 + 1) dX10_barOf_98 rfl (by first | rfl | decide) rfl rfl ?_
          refine ev_goto (t := 15) dX10_barOf_101 (by decide) ?_
          refine ev_drop (lv' := [some (.ref 69), some (.int x1), some (.int x2), some (.int q14), some (.int (x4 + 1)), none]) (ab_sub_k (ab_sub_k (ab_sub_k (ab_sub_k (ab_sub_k (ab_sub_d ab_sub_nil)))))) ?_
          exact ih M x1 x2 q14 (x4 + 1) _ h kk
        refine ev_if_eq (t := 96) dX10_barOf_72 (by decide) (fun hc17 => ?_) (fun hc17 => ?_)
        · replace hq15 := ab_pos hc17 hq15
          refine ev_iload_n dX10_barOf_96 rfl ?_
          cases hq15
          exact hJ16
        · replace hq15 := ab_neg hc17 hq15
          refine ev_aload_n dX10_barOf_75 rfl ?_
          refine ev_getr (o' := 83) fl_RX10_49 sh_69 (by decide) (by decide) rfl rfl dX10_barOf_76 ?_
          refine ev_iload dX10_barOf_79 rfl ?_
          obtain ⟨hb18, hq15⟩ := ab_chk_some hq15
          refine ev_iaload sh_83 hb18 dX10_barOf_81 ?_
          refine ev_iload_n dX10_barOf_82 rfl ?_
          refine ev_icmp_le (t := 96) dX10_barOf_83 (by decide) (fun hc19 => ?_) (fun hc19 => ?_)
          · replace hq15 := ab_pos hc19 hq15
            refine ev_iload_n dX10_barOf_96 rfl ?_
            cases hq15
            exact hJ16
          · replace hq15 := ab_neg hc19 hq15
            refine ev_aload_n dX10_barOf_86 rfl ?_
            refine ev_getr (o' := 83) fl_RX10_49 sh_69 (by decide) (by decide) rfl rfl dX10_barOf_87 ?_
            refine ev_iload dX10_barOf_90 rfl ?_
            obtain ⟨hb20, hq15⟩ := ab_chk_some hq15
            refine ev_iaload sh_83 hb20 dX10_barOf_92 ?_
            refine ev_goto (t := 97) dX10_barOf_93 (by decide) ?_
            cases hq15
            exact hJ16
      refine ev_icmp_lt (t := 67) dX10_barOf_37 (by decide) (fun hc9 => ?_) (fun hc9 => ?_)
      · replace hq7 := ab_pos hc9 hq7
        refine ev_iconst (x := 0) dX10_barOf_67 (by decide) ?_
        cases hq7
        exact hJ8
      · replace hq7 := ab_neg hc9 hq7
        refine ev_aload_n dX10_barOf_40 rfl ?_
        refine ev_getr (o' := 82) fl_RX10_46 sh_69 (by decide) (by decide) rfl rfl dX10_barOf_41 ?_
        refine ev_iload dX10_barOf_44 rfl ?_
        obtain ⟨hb10, hq7⟩ := ab_chk_some hq7
        refine ev_iaload sh_82 hb10 dX10_barOf_46 ?_
        refine ev_aload_n dX10_barOf_47 rfl ?_
        refine ev_getr (o' := 73) fl_RX10_19 sh_69 (by decide) (by decide) rfl rfl dX10_barOf_48 ?_
        refine ev_iload_n dX10_barOf_51 rfl ?_
        obtain ⟨hb11, hq7⟩ := ab_chk_some hq7
        refine ev_iaload sh_73 hb11 dX10_barOf_52 ?_
        refine ev_aload_n dX10_barOf_53 rfl ?_
        refine ev_getr (o' := 73) fl_RX10_19 sh_69 (by decide) (by decide) rfl rfl dX10_barOf_54 ?_
        refine ev_iload_n dX10_barOf_57 rfl ?_
        obtain ⟨hb12, hq7⟩ := ab_chk_some hq7
        refine ev_iaload sh_73 hb12 dX10_barOf_58 ?_
        refine ev_iadd dX10_barOf_59 ?_
        refine ev_icmp_gt (t := 67) dX10_barOf_60 (by decide) (fun hc13 => ?_) (fun hc13 => ?_)
        · replace hq7 := ab_pos hc13 hq7
          refine ev_iconst (x := 0) dX10_barOf_67 (by decide) ?_
          cases hq7
          exact hJ8
        · replace hq7 := ab_neg hc13 hq7
          refine ev_iconst (x := 1) dX10_barOf_63 (by decide) ?_
          refine ev_goto (t := 68) dX10_barOf_64 (by decide) ?_
          cases hq7
          exact hJ8

noncomputable def mi_X10_barOf (M : ab_M) (x1 : Int32) (x2 : Int32) : Option (Int32) :=
  if x1 = x2 then
    some (M.1 69 18)
  else
    (mi_X10_barOf_15 ab_F M x1 x2 0 0).bind fun q21 =>
    some q21.1

set_option maxHeartbeats 4000000 in
set_option maxRecDepth 100000 in
theorem co_X10_barOf {l : Launch} {D : va_G} {ac : Nat → ClassId} (M : ab_M) (x1 : Int32) (x2 : Int32) (z : Int32) (h : mi_X10_barOf M x1 x2 = some z) : ab_Con l D ac 2 me_X10_barOf 0 0 [.ref 69, .int x1, .int x2] ab_SH M (some (.int z), ab_SH, M) := by
  refine ab_intro (lv := [some (.ref 69), some (.int x1), some (.int x2), none, none, none]) (by decide) rfl (Nat.le_of_ble_eq_true rfl) rfl ?_
  unfold mi_X10_barOf at h
  refine ev_iload_n dX10_barOf_0 rfl ?_
  refine ev_iload_n dX10_barOf_1 rfl ?_
  refine ev_icmp_ne (t := 10) dX10_barOf_2 (by decide) (fun hc1 => ?_) (fun hc1 => ?_)
  · replace h := ab_neg hc1 h
    refine ev_iconst (x := 0) dX10_barOf_10 (by decide) ?_
    refine ev_istore_n dX10_barOf_11 (Nat.le_of_ble_eq_true rfl) rfl rfl ?_
    refine ev_iconst (x := 0) dX10_barOf_12 (by decide) ?_
    refine ev_istore dX10_barOf_13 (Nat.le_of_ble_eq_true rfl) rfl rfl ?_
    obtain ⟨q21, hq22, h⟩ := ab_bind h
    refine lp_X10_barOf_15 _ M x1 x2 0 0 _ hq22 ?_
    refine ev_iload_n dX10_barOf_104 rfl ?_
    cases h
    exact ev_ireturn rfl dX10_barOf_105
  · replace h := ab_pos hc1 h
    refine ev_aload_n dX10_barOf_5 rfl ?_
    refine ev_geti fl_RX10_52 sh_69 (by decide) (by decide) rfl dX10_barOf_6 ?_
    cases h
    exact ev_ireturn rfl dX10_barOf_9

noncomputable def mi_X10_move_24 : Nat → ab_M → Int32 → Int32 → Int32 → Option (Int32 × ab_M)
  | 0, _, _, _, _ => none
  | n + 1, M, x1, x2, x3 =>
    if (M.1 69 1) ≤ x3 then
      some (x3, M)
    else
      (mi_X10_barOf M x1 x3).bind fun q8 =>
      ab_chk (vp_in x3 12) <|
      mi_X10_move_24 n (ab_pi M 84 (x3).toNatClampNeg q8) x1 x2 (x3 + 1)

set_option maxHeartbeats 4000000 in
set_option maxRecDepth 100000 in
theorem lp_X10_move_24 {l : Launch} {D : va_G} {ac : Nat → ClassId} {n0 : Nat} {r : ab_Rs} : ∀ (n : Nat) (M : ab_M) (x1 : Int32) (x2 : Int32) (x3 : Int32) (q : Int32 × ab_M) (h : mi_X10_move_24 n M x1 x2 x3 = some q) (kk : ab_Ev l D ac 3 me_X10_move n0 0 0 r 0 0 ab_SH 50 [some (.ref 69), some (.int x1), some (.int x2), some (.int q.1), none] [] q.2), ab_Ev l D ac 3 me_X10_move n0 0 0 r 0 0 ab_SH 24 [some (.ref 69), some (.int x1), some (.int x2), some (.int x3), none] [] M := by
  intro n
  induction n with
  | zero =>
    intro M x1 x2 x3 q h kk
    cases h
  | succ n ih =>
    intro M x1 x2 x3 q h kk
    unfold mi_X10_move_24 at h
    refine ev_iload_n dX10_move_24 rfl ?_
    refine ev_aload_n dX10_move_25 rfl ?_
    refine ev_geti fl_RX10_105 sh_69 (by decide) (by decide) rfl dX10_move_26 ?_
    refine ev_icmp_ge (t := 50) dX10_move_29 (by decide) (fun hc7 => ?_) (fun hc7 => ?_)
    · replace h := ab_pos hc7 h
      cases h
      exact kk
    · replace h := ab_neg hc7 h
      refine ev_aload_n dX10_move_32 rfl ?_
      refine ev_getr (o' := 84) fl_RX10_62 sh_69 (by decide) (by decide) rfl rfl dX10_move_33 ?_
      refine ev_iload_n dX10_move_36 rfl ?_
      refine ev_aload_n dX10_move_37 rfl ?_
      refine ev_iload_n dX10_move_38 rfl ?_
      refine ev_iload_n dX10_move_39 rfl ?_
      obtain ⟨q8, hv9, h⟩ := ab_bind h
      refine ev_callV (st := [.int x3, .ref 84]) (co_X10_barOf M x1 x3 _ hv9) mv_X10_barOf sh_69 ml_RX10_135 dX10_move_40 (by decide) rfl (Nat.le_of_ble_eq_true rfl) ⟨Nat.le_refl _, Nat.le_refl _⟩ ?_
      obtain ⟨hb10, h⟩ := ab_chk_some h
      refine ev_iastore sh_84 hb10 dX10_move_43 ?_
      refine ev_iinc (y := x3 + 1) dX10_move_44 rfl (by first | rfl | decide) rfl rfl ?_
      refine ev_goto (t := 24) dX10_move_47 (by decide) ?_
      exact ih (ab_pi M 84 (x3).toNatClampNeg q8) x1 x2 (x3 + 1) _ h kk

noncomputable def mi_X10_move_75 : Nat → ab_M → Int32 → Int32 → Int32 → Option (Int32 × Int32)
  | 0, _, _, _, _ => none
  | n + 1, M, x1, x3, x4 =>
    if (M.1 69 1) ≤ x4 then
      some (x3, x4)
    else
      (mi_X10_barOf M x1 x4).bind fun q16 =>
      ab_chk (vp_in x4 12) <|
      ((if q16 = (M.1 84 (x4).toNatClampNeg) then
        some 0
      else
        some 1) : Option (Int32)).bind fun q19 =>
      mi_X10_move_75 n M x1 (x3 + q19) (x4 + 1)

set_option maxHeartbeats 4000000 in
set_option maxRecDepth 100000 in
theorem lp_X10_move_75 {l : Launch} {D : va_G} {ac : Nat → ClassId} {n0 : Nat} {r : ab_Rs} : ∀ (n : Nat) (M : ab_M) (x1 : Int32) (x3 : Int32) (x4 : Int32) (q : Int32 × Int32) (h : mi_X10_move_75 n M x1 x3 x4 = some q) (kk : ab_Ev l D ac 3 me_X10_move n0 0 0 r 0 0 ab_SH 115 [some (.ref 69), some (.int x1), none, some (.int q.1), some (.int q.2)] [] M), ab_Ev l D ac 3 me_X10_move n0 0 0 r 0 0 ab_SH 75 [some (.ref 69), some (.int x1), none, some (.int x3), some (.int x4)] [] M := by
  intro n
  induction n with
  | zero =>
    intro M x1 x3 x4 q h kk
    cases h
  | succ n ih =>
    intro M x1 x3 x4 q h kk
    unfold mi_X10_move_75 at h
    refine ev_iload dX10_move_75 rfl ?_
    refine ev_aload_n dX10_move_77 rfl ?_
    refine ev_geti fl_RX10_105 sh_69 (by decide) (by decide) rfl dX10_move_78 ?_
    refine ev_icmp_ge (t := 115) dX10_move_81 (by decide) (fun hc15 => ?_) (fun hc15 => ?_)
    · replace h := ab_pos hc15 h
      cases h
      exact kk
    · replace h := ab_neg hc15 h
      refine ev_iload_n dX10_move_84 rfl ?_
      refine ev_aload_n dX10_move_85 rfl ?_
      refine ev_iload_n dX10_move_86 rfl ?_
      refine ev_iload dX10_move_87 rfl ?_
      obtain ⟨q16, hv17, h⟩ := ab_bind h
      refine ev_callV (st := [.int x3]) (co_X10_barOf M x1 x4 _ hv17) mv_X10_barOf sh_69 ml_RX10_135 dX10_move_89 (by decide) rfl (Nat.le_of_ble_eq_true rfl) ⟨Nat.le_refl _, Nat.le_refl _⟩ ?_
      refine ev_aload_n dX10_move_92 rfl ?_
      refine ev_getr (o' := 84) fl_RX10_62 sh_69 (by decide) (by decide) rfl rfl dX10_move_93 ?_
      refine ev_iload dX10_move_96 rfl ?_
      obtain ⟨hb18, h⟩ := ab_chk_some h
      refine ev_iaload sh_84 hb18 dX10_move_98 ?_
      obtain ⟨q19, hq20, h⟩ := ab_bind h
      have hJ21 : ab_Ev l D ac 3 me_X10_move n0 0 0 r 0 0 ab_SH 107 [some (.ref 69), some (.int x1), none, some (.int x3), some (.int x4)] [.int q19, .int x3] M := by
        refine ev_iadd dX10_move_107 ?_
        refine ev_istore_n dX10_move_108 (Nat.le_of_ble_eq_true rfl) rfl rfl ?_
        refine ev_iinc (y := x4 + 1) dX10_move_109 rfl (by first | rfl | decide) rfl rfl ?_
        refine ev_goto (t := 75) dX10_move_112 (by decide) ?_
        exact ih M x1 (x3 + q19) (x4 + 1) _ h kk
      refine ev_icmp_eq (t := 106) dX10_move_99 (by decide) (fun hc22 => ?_) (fun hc22 => ?_)
      · replace hq20 := ab_pos hc22 hq20
        refine ev_iconst (x := 0) dX10_move_106 (by decide) ?_
        cases hq20
        exact hJ21
      · replace hq20 := ab_neg hc22 hq20
        refine ev_iconst (x := 1) dX10_move_102 (by decide) ?_
        refine ev_goto (t := 107) dX10_move_103 (by decide) ?_
        cases hq20
        exact hJ21

noncomputable def mi_X10_move (M : ab_M) (x1 : Int32) (x2 : Int32) : Option (Int32 × ab_M) :=
  (mi_X10_isMast (ab_pi M 69 0 0) x1).bind fun q1 =>
  if q1 = 0 then
    some ((-1), (ab_pi M 69 0 0))
  else
    (mi_X10_isPlace (ab_pi M 69 0 0) x2).bind fun q4 =>
    if q4 = 0 then
      some ((-1), (ab_pi M 69 0 0))
    else
      (mi_X10_move_24 ab_F (ab_pi M 69 0 0) x1 x2 0).bind fun q11 =>
      ab_chk (vp_in x1 12) <|
      ab_chk (vp_in x1 12) <|
      (mi_X10_move_75 ab_F (ab_pi (ab_pi q11.2 71 (x1).toNatClampNeg (x2 / 64)) 72 (x1).toNatClampNeg (ab_rem x2 64)) x1 0 0).bind fun q23 =>
      some (q23.1, (ab_pi (ab_pi q11.2 71 (x1).toNatClampNeg (x2 / 64)) 72 (x1).toNatClampNeg (ab_rem x2 64)))

set_option maxHeartbeats 4000000 in
set_option maxRecDepth 100000 in
theorem co_X10_move {l : Launch} {D : va_G} {ac : Nat → ClassId} (M : ab_M) (x1 : Int32) (x2 : Int32) (z : Int32 × ab_M) (h : mi_X10_move M x1 x2 = some z) : ab_Con l D ac 3 me_X10_move 0 0 [.ref 69, .int x1, .int x2] ab_SH M (some (.int z.1), ab_SH, z.2) := by
  refine ab_intro (lv := [some (.ref 69), some (.int x1), some (.int x2), none, none]) (by decide) rfl (Nat.le_of_ble_eq_true rfl) rfl ?_
  unfold mi_X10_move at h
  refine ev_aload_n dX10_move_0 rfl ?_
  refine ev_iconst (x := 0) dX10_move_1 (by decide) ?_
  refine ev_puti fl_RX10_102 sh_69 (by decide) (by decide) rfl rfl rfl dX10_move_2 ?_
  refine ev_aload_n dX10_move_5 rfl ?_
  refine ev_iload_n dX10_move_6 rfl ?_
  obtain ⟨q1, hv2, h⟩ := ab_bind h
  refine ev_callV (st := []) (co_X10_isMast (ab_pi M 69 0 0) x1 _ hv2) mv_X10_isMast sh_69 ml_RX10_132 dX10_move_7 (by decide) rfl (Nat.le_of_ble_eq_true rfl) ⟨Nat.le_refl _, Nat.le_refl _⟩ ?_
  refine ev_if_eq (t := 20) dX10_move_10 (by decide) (fun hc3 => ?_) (fun hc3 => ?_)
  · replace h := ab_pos hc3 h
    refine ev_iconst (x := (-1)) dX10_move_20 (by decide) ?_
    cases h
    exact ev_ireturn rfl dX10_move_21
  · replace h := ab_neg hc3 h
    refine ev_iload_n dX10_move_13 rfl ?_
    obtain ⟨q4, hv5, h⟩ := ab_bind h
    refine ev_callS (st := []) (co_X10_isPlace (ab_pi M 69 0 0) x2 _ hv5) mv_X10_isPlace ml_RX10_120 dX10_move_14 (by decide) rfl (Nat.le_of_ble_eq_true rfl) ⟨Nat.le_refl _, Nat.le_refl _⟩ ?_
    refine ev_if_ne (t := 22) dX10_move_17 (by decide) (fun hc6 => ?_) (fun hc6 => ?_)
    · replace h := ab_neg hc6 h
      refine ev_iconst (x := 0) dX10_move_22 (by decide) ?_
      refine ev_istore_n dX10_move_23 (Nat.le_of_ble_eq_true rfl) rfl rfl ?_
      obtain ⟨q11, hq12, h⟩ := ab_bind h
      refine lp_X10_move_24 _ (ab_pi M 69 0 0) x1 x2 0 _ hq12 ?_
      refine ev_aload_n dX10_move_50 rfl ?_
      refine ev_getr (o' := 71) fl_RX10_13 sh_69 (by decide) (by decide) rfl rfl dX10_move_51 ?_
      refine ev_iload_n dX10_move_54 rfl ?_
      refine ev_iload_n dX10_move_55 rfl ?_
      refine ev_bipush (x := 64) dX10_move_56 (by decide) ?_
      refine ev_idiv dX10_move_58 (by decide) ?_
      obtain ⟨hb13, h⟩ := ab_chk_some h
      refine ev_iastore sh_71 hb13 dX10_move_59 ?_
      refine ev_aload_n dX10_move_60 rfl ?_
      refine ev_getr (o' := 72) fl_RX10_16 sh_69 (by decide) (by decide) rfl rfl dX10_move_61 ?_
      refine ev_iload_n dX10_move_64 rfl ?_
      refine ev_iload_n dX10_move_65 rfl ?_
      refine ev_bipush (x := 64) dX10_move_66 (by decide) ?_
      refine ev_irem dX10_move_68 (by decide) ?_
      obtain ⟨hb14, h⟩ := ab_chk_some h
      refine ev_iastore sh_72 hb14 dX10_move_69 ?_
      refine ev_iconst (x := 0) dX10_move_70 (by decide) ?_
      refine ev_istore_n dX10_move_71 (Nat.le_of_ble_eq_true rfl) rfl rfl ?_
      refine ev_iconst (x := 0) dX10_move_72 (by decide) ?_
      refine ev_istore dX10_move_73 (Nat.le_of_ble_eq_true rfl) rfl rfl ?_
      obtain ⟨q23, hq24, h⟩ := ab_bind h
      refine ev_drop (lv' := [some (.ref 69), some (.int x1), none, some (.int 0), some (.int 0)]) (ab_sub_k (ab_sub_k (ab_sub_d (ab_sub_k (ab_sub_k ab_sub_nil))))) ?_
      refine lp_X10_move_75 _ (ab_pi (ab_pi q11.2 71 (x1).toNatClampNeg (x2 / 64)) 72 (x1).toNatClampNeg (ab_rem x2 64)) x1 0 0 _ hq24 ?_
      refine ev_iload_n dX10_move_115 rfl ?_
      cases h
      exact ev_ireturn rfl dX10_move_116
    · replace h := ab_pos hc6 h
      refine ev_iconst (x := (-1)) dX10_move_20 (by decide) ?_
      cases h
      exact ev_ireturn rfl dX10_move_21

noncomputable def mi_X10_countBits_4 : Nat → ab_M → Int32 → Int32 → Int32 → Option (Int32 × Int32)
  | 0, _, _, _, _ => none
  | n + 1, M, x1, x2, x3 =>
    if 30 ≤ x3 then
      some (x2, x3)
    else
      mi_X10_countBits_4 n M x1 (x2 + ((x1 >>> (x3 &&& 31)) &&& 1)) (x3 + 1)

set_option maxHeartbeats 4000000 in
set_option maxRecDepth 100000 in
theorem lp_X10_countBits_4 {l : Launch} {D : va_G} {ac : Nat → ClassId} {n0 : Nat} {r : ab_Rs} : ∀ (n : Nat) (M : ab_M) (x1 : Int32) (x2 : Int32) (x3 : Int32) (q : Int32 × Int32) (h : mi_X10_countBits_4 n M x1 x2 x3 = some q) (kk : ab_Ev l D ac 1 me_X10_countBits n0 0 0 r 0 0 ab_SH 24 [some (.ref 69), some (.int x1), some (.int q.1), some (.int q.2)] [] M), ab_Ev l D ac 1 me_X10_countBits n0 0 0 r 0 0 ab_SH 4 [some (.ref 69), some (.int x1), some (.int x2), some (.int x3)] [] M := by
  intro n
  induction n with
  | zero =>
    intro M x1 x2 x3 q h kk
    cases h
  | succ n ih =>
    intro M x1 x2 x3 q h kk
    unfold mi_X10_countBits_4 at h
    refine ev_iload_n dX10_countBits_4 rfl ?_
    refine ev_bipush (x := 30) dX10_countBits_5 (by decide) ?_
    refine ev_icmp_ge (t := 24) dX10_countBits_7 (by decide) (fun hc1 => ?_) (fun hc1 => ?_)
    · replace h := ab_pos hc1 h
      cases h
      exact kk
    · replace h := ab_neg hc1 h
      refine ev_iload_n dX10_countBits_10 rfl ?_
      refine ev_iload_n dX10_countBits_11 rfl ?_
      refine ev_iload_n dX10_countBits_12 rfl ?_
      refine ev_ishr dX10_countBits_13 ?_
      refine ev_iconst (x := 1) dX10_countBits_14 (by decide) ?_
      refine ev_iand dX10_countBits_15 ?_
      refine ev_iadd dX10_countBits_16 ?_
      refine ev_istore_n dX10_countBits_17 (Nat.le_of_ble_eq_true rfl) rfl rfl ?_
      refine ev_iinc (y := x3 + 1) dX10_countBits_18 rfl (by first | rfl | decide) rfl rfl ?_
      refine ev_goto (t := 4) dX10_countBits_21 (by decide) ?_
      exact ih M x1 (x2 + ((x1 >>> (x3 &&& 31)) &&& 1)) (x3 + 1) _ h kk

noncomputable def mi_X10_countBits (M : ab_M) (x1 : Int32) : Option (Int32) :=
  (mi_X10_countBits_4 ab_F M x1 0 0).bind fun q2 =>
  some q2.1

set_option maxHeartbeats 4000000 in
set_option maxRecDepth 100000 in
theorem co_X10_countBits {l : Launch} {D : va_G} {ac : Nat → ClassId} (M : ab_M) (x1 : Int32) (z : Int32) (h : mi_X10_countBits M x1 = some z) : ab_Con l D ac 1 me_X10_countBits 0 0 [.ref 69, .int x1] ab_SH M (some (.int z), ab_SH, M) := by
  refine ab_intro (lv := [some (.ref 69), some (.int x1), none, none]) (by decide) rfl (Nat.le_of_ble_eq_true rfl) rfl ?_
  unfold mi_X10_countBits at h
  refine ev_iconst (x := 0) dX10_countBits_0 (by decide) ?_
  refine ev_istore_n dX10_countBits_1 (Nat.le_of_ble_eq_true rfl) rfl rfl ?_
  refine ev_iconst (x := 0) dX10_countBits_2 (by decide) ?_
  refine ev_istore_n dX10_countBits_3 (Nat.le_of_ble_eq_true rfl) rfl rfl ?_
  obtain ⟨q2, hq3, h⟩ := ab_bind h
  refine lp_X10_countBits_4 _ M x1 0 0 _ hq3 ?_
  refine ev_iload_n dX10_countBits_24 rfl ?_
  cases h
  exact ev_ireturn rfl dX10_countBits_25

noncomputable def mi_X10_list (M : ab_M) (x1 : Int32) (x2 : Int32) : Option (Int32 × ab_M) :=
  (mi_X10_isMast (ab_pi M 69 0 0) x1).bind fun q1 =>
  if q1 = 0 then
    some ((-1), (ab_pi M 69 0 0))
  else
    (mi_X10_isSet (ab_pi M 69 0 0) x2).bind fun q4 =>
    if q4 = 0 then
      some ((-1), (ab_pi M 69 0 0))
    else
      ab_chk (vp_in x1 12) <|
      (mi_X10_countBits (ab_pi (ab_pi M 69 0 0) 76 (x1).toNatClampNeg x2) x2).bind fun q8 =>
      some (q8, (ab_pi (ab_pi M 69 0 0) 76 (x1).toNatClampNeg x2))

set_option maxHeartbeats 4000000 in
set_option maxRecDepth 100000 in
theorem co_X10_list {l : Launch} {D : va_G} {ac : Nat → ClassId} (M : ab_M) (x1 : Int32) (x2 : Int32) (z : Int32 × ab_M) (h : mi_X10_list M x1 x2 = some z) : ab_Con l D ac 2 me_X10_list 0 0 [.ref 69, .int x1, .int x2] ab_SH M (some (.int z.1), ab_SH, z.2) := by
  refine ab_intro (lv := [some (.ref 69), some (.int x1), some (.int x2)]) (by decide) rfl (Nat.le_of_ble_eq_true rfl) rfl ?_
  unfold mi_X10_list at h
  refine ev_aload_n dX10_list_0 rfl ?_
  refine ev_iconst (x := 0) dX10_list_1 (by decide) ?_
  refine ev_puti fl_RX10_102 sh_69 (by decide) (by decide) rfl rfl rfl dX10_list_2 ?_
  refine ev_aload_n dX10_list_5 rfl ?_
  refine ev_iload_n dX10_list_6 rfl ?_
  obtain ⟨q1, hv2, h⟩ := ab_bind h
  refine ev_callV (st := []) (co_X10_isMast (ab_pi M 69 0 0) x1 _ hv2) mv_X10_isMast sh_69 ml_RX10_132 dX10_list_7 (by decide) rfl (Nat.le_of_ble_eq_true rfl) ⟨Nat.le_refl _, Nat.le_refl _⟩ ?_
  refine ev_if_eq (t := 20) dX10_list_10 (by decide) (fun hc3 => ?_) (fun hc3 => ?_)
  · replace h := ab_pos hc3 h
    refine ev_iconst (x := (-1)) dX10_list_20 (by decide) ?_
    cases h
    exact ev_ireturn rfl dX10_list_21
  · replace h := ab_neg hc3 h
    refine ev_iload_n dX10_list_13 rfl ?_
    obtain ⟨q4, hv5, h⟩ := ab_bind h
    refine ev_callS (st := []) (co_X10_isSet (ab_pi M 69 0 0) x2 _ hv5) mv_X10_isSet ml_RX10_138 dX10_list_14 (by decide) rfl (Nat.le_of_ble_eq_true rfl) ⟨Nat.le_refl _, Nat.le_refl _⟩ ?_
    refine ev_if_ne (t := 22) dX10_list_17 (by decide) (fun hc6 => ?_) (fun hc6 => ?_)
    · replace h := ab_neg hc6 h
      refine ev_aload_n dX10_list_22 rfl ?_
      refine ev_getr (o' := 76) fl_RX10_28 sh_69 (by decide) (by decide) rfl rfl dX10_list_23 ?_
      refine ev_iload_n dX10_list_26 rfl ?_
      refine ev_iload_n dX10_list_27 rfl ?_
      obtain ⟨hb7, h⟩ := ab_chk_some h
      refine ev_iastore sh_76 hb7 dX10_list_28 ?_
      refine ev_aload_n dX10_list_29 rfl ?_
      refine ev_iload_n dX10_list_30 rfl ?_
      obtain ⟨q8, hv9, h⟩ := ab_bind h
      refine ev_callV (st := []) (co_X10_countBits (ab_pi (ab_pi M 69 0 0) 76 (x1).toNatClampNeg x2) x2 _ hv9) mv_X10_countBits sh_69 ml_RX10_141 dX10_list_31 (by decide) rfl (Nat.le_of_ble_eq_true rfl) ⟨Nat.le_refl _, Nat.le_refl _⟩ ?_
      cases h
      exact ev_ireturn rfl dX10_list_34
    · replace h := ab_pos hc6 h
      refine ev_iconst (x := (-1)) dX10_list_20 (by decide) ?_
      cases h
      exact ev_ireturn rfl dX10_list_21

noncomputable def mi_X10_gap (M : ab_M) (x1 : Int32) (x2 : Int32) : Option (Int32 × ab_M) :=
  (mi_X10_isMast (ab_pi M 69 0 0) x1).bind fun q1 =>
  if q1 = 0 then
    some ((-1), (ab_pi M 69 0 0))
  else
    ab_chk (vp_in x1 12) <|
    if ((ab_pi M 69 0 0).1 70 (x1).toNatClampNeg) = 1 then
      (mi_X10_isIn (ab_pi M 69 0 0) (Int32.toInt64 x2) 1 10).bind fun q6 =>
      if q6 = 0 then
        some ((-1), (ab_pi M 69 0 0))
      else
        ab_chk (vp_in x1 12) <|
        ab_chk (vp_in x1 12) <|
        some ((ab_pi M 69 0 0).1 77 (x1).toNatClampNeg, (ab_pi (ab_pi M 69 0 0) 77 (x1).toNatClampNeg x2))
    else
      some ((-1), (ab_pi M 69 0 0))

set_option maxHeartbeats 4000000 in
set_option maxRecDepth 100000 in
theorem co_X10_gap {l : Launch} {D : va_G} {ac : Nat → ClassId} (M : ab_M) (x1 : Int32) (x2 : Int32) (z : Int32 × ab_M) (h : mi_X10_gap M x1 x2 = some z) : ab_Con l D ac 2 me_X10_gap 0 0 [.ref 69, .int x1, .int x2] ab_SH M (some (.int z.1), ab_SH, z.2) := by
  refine ab_intro (lv := [some (.ref 69), some (.int x1), some (.int x2), none]) (by decide) rfl (Nat.le_of_ble_eq_true rfl) rfl ?_
  unfold mi_X10_gap at h
  refine ev_aload_n dX10_gap_0 rfl ?_
  refine ev_iconst (x := 0) dX10_gap_1 (by decide) ?_
  refine ev_puti fl_RX10_102 sh_69 (by decide) (by decide) rfl rfl rfl dX10_gap_2 ?_
  refine ev_aload_n dX10_gap_5 rfl ?_
  refine ev_iload_n dX10_gap_6 rfl ?_
  obtain ⟨q1, hv2, h⟩ := ab_bind h
  refine ev_callV (st := []) (co_X10_isMast (ab_pi M 69 0 0) x1 _ hv2) mv_X10_isMast sh_69 ml_RX10_132 dX10_gap_7 (by decide) rfl (Nat.le_of_ble_eq_true rfl) ⟨Nat.le_refl _, Nat.le_refl _⟩ ?_
  refine ev_if_eq (t := 35) dX10_gap_10 (by decide) (fun hc3 => ?_) (fun hc3 => ?_)
  · replace h := ab_pos hc3 h
    refine ev_iconst (x := (-1)) dX10_gap_35 (by decide) ?_
    cases h
    exact ev_ireturn rfl dX10_gap_36
  · replace h := ab_neg hc3 h
    refine ev_aload_n dX10_gap_13 rfl ?_
    refine ev_getr (o' := 70) fl_RX10_7 sh_69 (by decide) (by decide) rfl rfl dX10_gap_14 ?_
    refine ev_iload_n dX10_gap_17 rfl ?_
    obtain ⟨hb4, h⟩ := ab_chk_some h
    refine ev_iaload sh_70 hb4 dX10_gap_18 ?_
    refine ev_iconst (x := 1) dX10_gap_19 (by decide) ?_
    refine ev_icmp_ne (t := 35) dX10_gap_20 (by decide) (fun hc5 => ?_) (fun hc5 => ?_)
    · replace h := ab_neg hc5 h
      refine ev_iconst (x := (-1)) dX10_gap_35 (by decide) ?_
      cases h
      exact ev_ireturn rfl dX10_gap_36
    · replace h := ab_pos hc5 h
      refine ev_iload_n dX10_gap_23 rfl ?_
      refine ev_i2l dX10_gap_24 ?_
      refine ev_lconst (x := 1) dX10_gap_25 (by decide) ?_
      refine ev_ldc2 kw_RX10_145 dX10_gap_26 ?_
      obtain ⟨q6, hv7, h⟩ := ab_bind h
      refine ev_callS (st := []) (co_X10_isIn (ab_pi M 69 0 0) (Int32.toInt64 x2) 1 10 _ hv7) mv_X10_isIn ml_RX10_113 dX10_gap_29 (by decide) rfl (Nat.le_of_ble_eq_true rfl) ⟨Nat.le_refl _, Nat.le_refl _⟩ ?_
      refine ev_if_ne (t := 37) dX10_gap_32 (by decide) (fun hc8 => ?_) (fun hc8 => ?_)
      · replace h := ab_neg hc8 h
        refine ev_aload_n dX10_gap_37 rfl ?_
        refine ev_getr (o' := 77) fl_RX10_31 sh_69 (by decide) (by decide) rfl rfl dX10_gap_38 ?_
        refine ev_iload_n dX10_gap_41 rfl ?_
        obtain ⟨hb9, h⟩ := ab_chk_some h
        refine ev_iaload sh_77 hb9 dX10_gap_42 ?_
        refine ev_istore_n dX10_gap_43 (Nat.le_of_ble_eq_true rfl) rfl rfl ?_
        refine ev_aload_n dX10_gap_44 rfl ?_
        refine ev_getr (o' := 77) fl_RX10_31 sh_69 (by decide) (by decide) rfl rfl dX10_gap_45 ?_
        refine ev_iload_n dX10_gap_48 rfl ?_
        refine ev_iload_n dX10_gap_49 rfl ?_
        obtain ⟨hb10, h⟩ := ab_chk_some h
        refine ev_iastore sh_77 hb10 dX10_gap_50 ?_
        refine ev_iload_n dX10_gap_51 rfl ?_
        cases h
        exact ev_ireturn rfl dX10_gap_52
      · replace h := ab_pos hc8 h
        refine ev_iconst (x := (-1)) dX10_gap_35 (by decide) ?_
        cases h
        exact ev_ireturn rfl dX10_gap_36

noncomputable def mi_X10_stay (M : ab_M) (x1 : Int32) (x2 : Int32) : Option (Int32 × ab_M) :=
  (mi_X10_isWant (ab_pi M 69 0 0) x1).bind fun q1 =>
  if q1 = 0 then
    some ((-1), (ab_pi M 69 0 0))
  else
    ab_chk (vp_in x1 16) <|
    ab_chk (vp_in ((ab_pi M 69 0 0).1 78 (x1).toNatClampNeg) 12) <|
    if ((ab_pi M 69 0 0).1 70 ((ab_pi M 69 0 0).1 78 (x1).toNatClampNeg).toNatClampNeg) = 2 then
      (mi_X10_isIn (ab_pi M 69 0 0) (Int32.toInt64 x2) (-1) 29).bind fun q7 =>
      if q7 = 0 then
        some ((-1), (ab_pi M 69 0 0))
      else
        ab_chk (vp_in x1 16) <|
        some (0, (ab_pi (ab_pi M 69 0 0) 79 (x1).toNatClampNeg x2))
    else
      some ((-1), (ab_pi M 69 0 0))

set_option maxHeartbeats 4000000 in
set_option maxRecDepth 100000 in
theorem co_X10_stay {l : Launch} {D : va_G} {ac : Nat → ClassId} (M : ab_M) (x1 : Int32) (x2 : Int32) (z : Int32 × ab_M) (h : mi_X10_stay M x1 x2 = some z) : ab_Con l D ac 2 me_X10_stay 0 0 [.ref 69, .int x1, .int x2] ab_SH M (some (.int z.1), ab_SH, z.2) := by
  refine ab_intro (lv := [some (.ref 69), some (.int x1), some (.int x2)]) (by decide) rfl (Nat.le_of_ble_eq_true rfl) rfl ?_
  unfold mi_X10_stay at h
  refine ev_aload_n dX10_stay_0 rfl ?_
  refine ev_iconst (x := 0) dX10_stay_1 (by decide) ?_
  refine ev_puti fl_RX10_102 sh_69 (by decide) (by decide) rfl rfl rfl dX10_stay_2 ?_
  refine ev_aload_n dX10_stay_5 rfl ?_
  refine ev_iload_n dX10_stay_6 rfl ?_
  obtain ⟨q1, hv2, h⟩ := ab_bind h
  refine ev_callV (st := []) (co_X10_isWant (ab_pi M 69 0 0) x1 _ hv2) mv_X10_isWant sh_69 ml_RX10_147 dX10_stay_7 (by decide) rfl (Nat.le_of_ble_eq_true rfl) ⟨Nat.le_refl _, Nat.le_refl _⟩ ?_
  refine ev_if_eq (t := 42) dX10_stay_10 (by decide) (fun hc3 => ?_) (fun hc3 => ?_)
  · replace h := ab_pos hc3 h
    refine ev_iconst (x := (-1)) dX10_stay_42 (by decide) ?_
    cases h
    exact ev_ireturn rfl dX10_stay_43
  · replace h := ab_neg hc3 h
    refine ev_aload_n dX10_stay_13 rfl ?_
    refine ev_getr (o' := 70) fl_RX10_7 sh_69 (by decide) (by decide) rfl rfl dX10_stay_14 ?_
    refine ev_aload_n dX10_stay_17 rfl ?_
    refine ev_getr (o' := 78) fl_RX10_34 sh_69 (by decide) (by decide) rfl rfl dX10_stay_18 ?_
    refine ev_iload_n dX10_stay_21 rfl ?_
    obtain ⟨hb4, h⟩ := ab_chk_some h
    refine ev_iaload sh_78 hb4 dX10_stay_22 ?_
    obtain ⟨hb5, h⟩ := ab_chk_some h
    refine ev_iaload sh_70 hb5 dX10_stay_23 ?_
    refine ev_iconst (x := 2) dX10_stay_24 (by decide) ?_
    refine ev_icmp_ne (t := 42) dX10_stay_25 (by decide) (fun hc6 => ?_) (fun hc6 => ?_)
    · replace h := ab_neg hc6 h
      refine ev_iconst (x := (-1)) dX10_stay_42 (by decide) ?_
      cases h
      exact ev_ireturn rfl dX10_stay_43
    · replace h := ab_pos hc6 h
      refine ev_iload_n dX10_stay_28 rfl ?_
      refine ev_i2l dX10_stay_29 ?_
      refine ev_ldc2 kw_RX10_150 dX10_stay_30 ?_
      refine ev_ldc2 kw_RX10_152 dX10_stay_33 ?_
      obtain ⟨q7, hv8, h⟩ := ab_bind h
      refine ev_callS (st := []) (co_X10_isIn (ab_pi M 69 0 0) (Int32.toInt64 x2) (-1) 29 _ hv8) mv_X10_isIn ml_RX10_113 dX10_stay_36 (by decide) rfl (Nat.le_of_ble_eq_true rfl) ⟨Nat.le_refl _, Nat.le_refl _⟩ ?_
      refine ev_if_ne (t := 44) dX10_stay_39 (by decide) (fun hc9 => ?_) (fun hc9 => ?_)
      · replace h := ab_neg hc9 h
        refine ev_aload_n dX10_stay_44 rfl ?_
        refine ev_getr (o' := 79) fl_RX10_37 sh_69 (by decide) (by decide) rfl rfl dX10_stay_45 ?_
        refine ev_iload_n dX10_stay_48 rfl ?_
        refine ev_iload_n dX10_stay_49 rfl ?_
        obtain ⟨hb10, h⟩ := ab_chk_some h
        refine ev_iastore sh_79 hb10 dX10_stay_50 ?_
        refine ev_iconst (x := 0) dX10_stay_51 (by decide) ?_
        cases h
        exact ev_ireturn rfl dX10_stay_52
      · replace h := ab_pos hc9 h
        refine ev_iconst (x := (-1)) dX10_stay_42 (by decide) ?_
        cases h
        exact ev_ireturn rfl dX10_stay_43

noncomputable def mi_X10_row (M : ab_M) (x1 : Int32) (x2 : Int32) (x3 : Int32) : Option (Int32 × ab_M) :=
  (mi_X10_isIn (ab_pi M 69 0 0) (Int32.toInt64 x1) 0 10000).bind fun q1 =>
  if q1 = 0 then
    some ((-1), (ab_pi M 69 0 0))
  else
    (mi_X10_isIn (ab_pi M 69 0 0) (Int32.toInt64 x2) 0 6).bind fun q4 =>
    if q4 = 0 then
      some ((-1), (ab_pi M 69 0 0))
    else
      (mi_X10_isIn (ab_pi M 69 0 0) (Int32.toInt64 x3) 0 4).bind fun q7 =>
      if q7 = 0 then
        some ((-1), (ab_pi M 69 0 0))
      else
        if ((ab_pi M 69 0 0).1 69 14) = 8 then
          some ((-2), (ab_pi M 69 0 0))
        else
          ab_chk (vp_in ((ab_pi M 69 0 0).1 69 14) 8) <|
          ab_chk (vp_in ((ab_pi (ab_pi M 69 0 0) 81 ((ab_pi M 69 0 0).1 69 14).toNatClampNeg x1).1 69 14) 8) <|
          ab_chk (vp_in ((ab_pi (ab_pi (ab_pi M 69 0 0) 81 ((ab_pi M 69 0 0).1 69 14).toNatClampNeg x1) 82 ((ab_pi (ab_pi M 69 0 0) 81 ((ab_pi M 69 0 0).1 69 14).toNatClampNeg x1).1 69 14).toNatClampNeg x2).1 69 14) 8) <|
          some ((ab_pi (ab_pi (ab_pi (ab_pi (ab_pi M 69 0 0) 81 ((ab_pi M 69 0 0).1 69 14).toNatClampNeg x1) 82 ((ab_pi (ab_pi M 69 0 0) 81 ((ab_pi M 69 0 0).1 69 14).toNatClampNeg x1).1 69 14).toNatClampNeg x2) 83 ((ab_pi (ab_pi (ab_pi M 69 0 0) 81 ((ab_pi M 69 0 0).1 69 14).toNatClampNeg x1) 82 ((ab_pi (ab_pi M 69 0 0) 81 ((ab_pi M 69 0 0).1 69 14).toNatClampNeg x1).1 69 14).toNatClampNeg x2).1 69 14).toNatClampNeg x3) 69 14 (((ab_pi (ab_pi (ab_pi (ab_pi M 69 0 0) 81 ((ab_pi M 69 0 0).1 69 14).toNatClampNeg x1) 82 ((ab_pi (ab_pi M 69 0 0) 81 ((ab_pi M 69 0 0).1 69 14).toNatClampNeg x1).1 69 14).toNatClampNeg x2) 83 ((ab_pi (ab_pi (ab_pi M 69 0 0) 81 ((ab_pi M 69 0 0).1 69 14).toNatClampNeg x1) 82 ((ab_pi (ab_pi M 69 0 0) 81 ((ab_pi M 69 0 0).1 69 14).toNatClampNeg x1).1 69 14).toNatClampNeg x2).1 69 14).toNatClampNeg x3).1 69 14) + 1)).1 69 14, (ab_pi (ab_pi (ab_pi (ab_pi (ab_pi M 69 0 0) 81 ((ab_pi M 69 0 0).1 69 14).toNatClampNeg x1) 82 ((ab_pi (ab_pi M 69 0 0) 81 ((ab_pi M 69 0 0).1 69 14).toNatClampNeg x1).1 69 14).toNatClampNeg x2) 83 ((ab_pi (ab_pi (ab_pi M 69 0 0) 81 ((ab_pi M 69 0 0).1 69 14).toNatClampNeg x1) 82 ((ab_pi (ab_pi M 69 0 0) 81 ((ab_pi M 69 0 0).1 69 14).toNatClampNeg x1).1 69 14).toNatClampNeg x2).1 69 14).toNatClampNeg x3) 69 14 (((ab_pi (ab_pi (ab_pi (ab_pi M 69 0 0) 81 ((ab_pi M 69 0 0).1 69 14).toNatClampNeg x1) 82 ((ab_pi (ab_pi M 69 0 0) 81 ((ab_pi M 69 0 0).1 69 14).toNatClampNeg x1).1 69 14).toNatClampNeg x2) 83 ((ab_pi (ab_pi (ab_pi M 69 0 0) 81 ((ab_pi M 69 0 0).1 69 14).toNatClampNeg x1) 82 ((ab_pi (ab_pi M 69 0 0) 81 ((ab_pi M 69 0 0).1 69 14).toNatClampNeg x1).1 69 14).toNatClampNeg x2).1 69 14).toNatClampNeg x3).1 69 14) + 1)))

set_option maxHeartbeats 4000000 in
set_option maxRecDepth 100000 in
theorem co_X10_row {l : Launch} {D : va_G} {ac : Nat → ClassId} (M : ab_M) (x1 : Int32) (x2 : Int32) (x3 : Int32) (z : Int32 × ab_M) (h : mi_X10_row M x1 x2 x3 = some z) : ab_Con l D ac 2 me_X10_row 0 0 [.ref 69, .int x1, .int x2, .int x3] ab_SH M (some (.int z.1), ab_SH, z.2) := by
  refine ab_intro (lv := [some (.ref 69), some (.int x1), some (.int x2), some (.int x3)]) (by decide) rfl (Nat.le_of_ble_eq_true rfl) rfl ?_
  unfold mi_X10_row at h
  refine ev_aload_n dX10_row_0 rfl ?_
  refine ev_iconst (x := 0) dX10_row_1 (by decide) ?_
  refine ev_puti fl_RX10_102 sh_69 (by decide) (by decide) rfl rfl rfl dX10_row_2 ?_
  refine ev_iload_n dX10_row_5 rfl ?_
  refine ev_i2l dX10_row_6 ?_
  refine ev_lconst (x := 0) dX10_row_7 (by decide) ?_
  refine ev_ldc2 kw_RX10_154 dX10_row_8 ?_
  obtain ⟨q1, hv2, h⟩ := ab_bind h
  refine ev_callS (st := []) (co_X10_isIn (ab_pi M 69 0 0) (Int32.toInt64 x1) 0 10000 _ hv2) mv_X10_isIn ml_RX10_113 dX10_row_11 (by decide) rfl (Nat.le_of_ble_eq_true rfl) ⟨Nat.le_refl _, Nat.le_refl _⟩ ?_
  refine ev_if_eq (t := 41) dX10_row_14 (by decide) (fun hc3 => ?_) (fun hc3 => ?_)
  · replace h := ab_pos hc3 h
    refine ev_iconst (x := (-1)) dX10_row_41 (by decide) ?_
    cases h
    exact ev_ireturn rfl dX10_row_42
  · replace h := ab_neg hc3 h
    refine ev_iload_n dX10_row_17 rfl ?_
    refine ev_i2l dX10_row_18 ?_
    refine ev_lconst (x := 0) dX10_row_19 (by decide) ?_
    refine ev_ldc2 kw_RX10_156 dX10_row_20 ?_
    obtain ⟨q4, hv5, h⟩ := ab_bind h
    refine ev_callS (st := []) (co_X10_isIn (ab_pi M 69 0 0) (Int32.toInt64 x2) 0 6 _ hv5) mv_X10_isIn ml_RX10_113 dX10_row_23 (by decide) rfl (Nat.le_of_ble_eq_true rfl) ⟨Nat.le_refl _, Nat.le_refl _⟩ ?_
    refine ev_if_eq (t := 41) dX10_row_26 (by decide) (fun hc6 => ?_) (fun hc6 => ?_)
    · replace h := ab_pos hc6 h
      refine ev_iconst (x := (-1)) dX10_row_41 (by decide) ?_
      cases h
      exact ev_ireturn rfl dX10_row_42
    · replace h := ab_neg hc6 h
      refine ev_iload_n dX10_row_29 rfl ?_
      refine ev_i2l dX10_row_30 ?_
      refine ev_lconst (x := 0) dX10_row_31 (by decide) ?_
      refine ev_ldc2 kw_RX10_158 dX10_row_32 ?_
      obtain ⟨q7, hv8, h⟩ := ab_bind h
      refine ev_callS (st := []) (co_X10_isIn (ab_pi M 69 0 0) (Int32.toInt64 x3) 0 4 _ hv8) mv_X10_isIn ml_RX10_113 dX10_row_35 (by decide) rfl (Nat.le_of_ble_eq_true rfl) ⟨Nat.le_refl _, Nat.le_refl _⟩ ?_
      refine ev_if_ne (t := 43) dX10_row_38 (by decide) (fun hc9 => ?_) (fun hc9 => ?_)
      · replace h := ab_neg hc9 h
        refine ev_aload_n dX10_row_43 rfl ?_
        refine ev_geti fl_RX10_125 sh_69 (by decide) (by decide) rfl dX10_row_44 ?_
        refine ev_bipush (x := 8) dX10_row_47 (by decide) ?_
        refine ev_icmp_ne (t := 55) dX10_row_49 (by decide) (fun hc10 => ?_) (fun hc10 => ?_)
        · replace h := ab_neg hc10 h
          refine ev_aload_n dX10_row_55 rfl ?_
          refine ev_getr (o' := 81) fl_RX10_43 sh_69 (by decide) (by decide) rfl rfl dX10_row_56 ?_
          refine ev_aload_n dX10_row_59 rfl ?_
          refine ev_geti fl_RX10_125 sh_69 (by decide) (by decide) rfl dX10_row_60 ?_
          refine ev_iload_n dX10_row_63 rfl ?_
          obtain ⟨hb11, h⟩ := ab_chk_some h
          refine ev_iastore sh_81 hb11 dX10_row_64 ?_
          refine ev_aload_n dX10_row_65 rfl ?_
          refine ev_getr (o' := 82) fl_RX10_46 sh_69 (by decide) (by decide) rfl rfl dX10_row_66 ?_
          refine ev_aload_n dX10_row_69 rfl ?_
          refine ev_geti fl_RX10_125 sh_69 (by decide) (by decide) rfl dX10_row_70 ?_
          refine ev_iload_n dX10_row_73 rfl ?_
          obtain ⟨hb12, h⟩ := ab_chk_some h
          refine ev_iastore sh_82 hb12 dX10_row_74 ?_
          refine ev_aload_n dX10_row_75 rfl ?_
          refine ev_getr (o' := 83) fl_RX10_49 sh_69 (by decide) (by decide) rfl rfl dX10_row_76 ?_
          refine ev_aload_n dX10_row_79 rfl ?_
          refine ev_geti fl_RX10_125 sh_69 (by decide) (by decide) rfl dX10_row_80 ?_
          refine ev_iload_n dX10_row_83 rfl ?_
          obtain ⟨hb13, h⟩ := ab_chk_some h
          refine ev_iastore sh_83 hb13 dX10_row_84 ?_
          refine ev_aload_n dX10_row_85 rfl ?_
          refine ev_dup dX10_row_86 rfl ?_
          refine ev_geti fl_RX10_125 sh_69 (by decide) (by decide) rfl dX10_row_87 ?_
          refine ev_iconst (x := 1) dX10_row_90 (by decide) ?_
          refine ev_iadd dX10_row_91 ?_
          refine ev_puti fl_RX10_125 sh_69 (by decide) (by decide) rfl rfl rfl dX10_row_92 ?_
          refine ev_aload_n dX10_row_95 rfl ?_
          refine ev_geti fl_RX10_125 sh_69 (by decide) (by decide) rfl dX10_row_96 ?_
          cases h
          exact ev_ireturn rfl dX10_row_99
        · replace h := ab_pos hc10 h
          refine ev_bipush (x := (-2)) dX10_row_52 (by decide) ?_
          cases h
          exact ev_ireturn rfl dX10_row_54
      · replace h := ab_pos hc9 h
        refine ev_iconst (x := (-1)) dX10_row_41 (by decide) ?_
        cases h
        exact ev_ireturn rfl dX10_row_42

noncomputable def mi_X10_own (M : ab_M) (x1 : Int32) (x2 : Int32) : Option (Int32 × ab_M) :=
  (mi_X10_isIn (ab_pi M 69 0 0) (Int32.toInt64 x1) 0 6).bind fun q1 =>
  if q1 = 0 then
    some ((-1), (ab_pi M 69 0 0))
  else
    (mi_X10_isIn (ab_pi M 69 0 0) (Int32.toInt64 x2) (-1) 10000).bind fun q4 =>
    if q4 = 0 then
      some ((-1), (ab_pi M 69 0 0))
    else
      some (0, (ab_pi (ab_pi (ab_pi M 69 0 0) 69 18 x1) 69 19 x2))

set_option maxHeartbeats 4000000 in
set_option maxRecDepth 100000 in
theorem co_X10_own {l : Launch} {D : va_G} {ac : Nat → ClassId} (M : ab_M) (x1 : Int32) (x2 : Int32) (z : Int32 × ab_M) (h : mi_X10_own M x1 x2 = some z) : ab_Con l D ac 2 me_X10_own 0 0 [.ref 69, .int x1, .int x2] ab_SH M (some (.int z.1), ab_SH, z.2) := by
  refine ab_intro (lv := [some (.ref 69), some (.int x1), some (.int x2)]) (by decide) rfl (Nat.le_of_ble_eq_true rfl) rfl ?_
  unfold mi_X10_own at h
  refine ev_aload_n dX10_own_0 rfl ?_
  refine ev_iconst (x := 0) dX10_own_1 (by decide) ?_
  refine ev_puti fl_RX10_102 sh_69 (by decide) (by decide) rfl rfl rfl dX10_own_2 ?_
  refine ev_iload_n dX10_own_5 rfl ?_
  refine ev_i2l dX10_own_6 ?_
  refine ev_lconst (x := 0) dX10_own_7 (by decide) ?_
  refine ev_ldc2 kw_RX10_156 dX10_own_8 ?_
  obtain ⟨q1, hv2, h⟩ := ab_bind h
  refine ev_callS (st := []) (co_X10_isIn (ab_pi M 69 0 0) (Int32.toInt64 x1) 0 6 _ hv2) mv_X10_isIn ml_RX10_113 dX10_own_11 (by decide) rfl (Nat.le_of_ble_eq_true rfl) ⟨Nat.le_refl _, Nat.le_refl _⟩ ?_
  refine ev_if_eq (t := 31) dX10_own_14 (by decide) (fun hc3 => ?_) (fun hc3 => ?_)
  · replace h := ab_pos hc3 h
    refine ev_iconst (x := (-1)) dX10_own_31 (by decide) ?_
    cases h
    exact ev_ireturn rfl dX10_own_32
  · replace h := ab_neg hc3 h
    refine ev_iload_n dX10_own_17 rfl ?_
    refine ev_i2l dX10_own_18 ?_
    refine ev_ldc2 kw_RX10_150 dX10_own_19 ?_
    refine ev_ldc2 kw_RX10_154 dX10_own_22 ?_
    obtain ⟨q4, hv5, h⟩ := ab_bind h
    refine ev_callS (st := []) (co_X10_isIn (ab_pi M 69 0 0) (Int32.toInt64 x2) (-1) 10000 _ hv5) mv_X10_isIn ml_RX10_113 dX10_own_25 (by decide) rfl (Nat.le_of_ble_eq_true rfl) ⟨Nat.le_refl _, Nat.le_refl _⟩ ?_
    refine ev_if_ne (t := 33) dX10_own_28 (by decide) (fun hc6 => ?_) (fun hc6 => ?_)
    · replace h := ab_neg hc6 h
      refine ev_aload_n dX10_own_33 rfl ?_
      refine ev_iload_n dX10_own_34 rfl ?_
      refine ev_puti fl_RX10_52 sh_69 (by decide) (by decide) rfl rfl rfl dX10_own_35 ?_
      refine ev_aload_n dX10_own_38 rfl ?_
      refine ev_iload_n dX10_own_39 rfl ?_
      refine ev_puti fl_RX10_56 sh_69 (by decide) (by decide) rfl rfl rfl dX10_own_40 ?_
      refine ev_iconst (x := 0) dX10_own_43 (by decide) ?_
      cases h
      exact ev_ireturn rfl dX10_own_44
    · replace h := ab_pos hc6 h
      refine ev_iconst (x := (-1)) dX10_own_31 (by decide) ?_
      cases h
      exact ev_ireturn rfl dX10_own_32

noncomputable def mi_X10_border (M : ab_M) (x1 : Int32) (x2 : Int32) (x3 : Int32) (x4 : Int32) : Option (Int32 × ab_M) :=
  (mi_X10_isIn (ab_pi M 69 0 0) (Int32.toInt64 x1) (-1) 60).bind fun q1 =>
  if q1 = 0 then
    some ((-1), (ab_pi M 69 0 0))
  else
    (mi_X10_isIn (ab_pi M 69 0 0) (Int32.toInt64 x2) 0 60).bind fun q4 =>
    if q4 = 0 then
      some ((-1), (ab_pi M 69 0 0))
    else
      (mi_X10_isSet (ab_pi M 69 0 0) x3).bind fun q7 =>
      if q7 = 0 then
        some ((-1), (ab_pi M 69 0 0))
      else
        (mi_X10_isSet (ab_pi M 69 0 0) x4).bind fun q10 =>
        if q10 = 0 then
          some ((-1), (ab_pi M 69 0 0))
        else
          some (0, (ab_pi (ab_pi (ab_pi (ab_pi (ab_pi M 69 0 0) 69 20 x1) 69 21 x2) 69 22 x3) 69 23 x4))

set_option maxHeartbeats 4000000 in
set_option maxRecDepth 100000 in
theorem co_X10_border {l : Launch} {D : va_G} {ac : Nat → ClassId} (M : ab_M) (x1 : Int32) (x2 : Int32) (x3 : Int32) (x4 : Int32) (z : Int32 × ab_M) (h : mi_X10_border M x1 x2 x3 x4 = some z) : ab_Con l D ac 2 me_X10_border 0 0 [.ref 69, .int x1, .int x2, .int x3, .int x4] ab_SH M (some (.int z.1), ab_SH, z.2) := by
  refine ab_intro (lv := [some (.ref 69), some (.int x1), some (.int x2), some (.int x3), some (.int x4)]) (by decide) rfl (Nat.le_of_ble_eq_true rfl) rfl ?_
  unfold mi_X10_border at h
  refine ev_aload_n dX10_border_0 rfl ?_
  refine ev_iconst (x := 0) dX10_border_1 (by decide) ?_
  refine ev_puti fl_RX10_102 sh_69 (by decide) (by decide) rfl rfl rfl dX10_border_2 ?_
  refine ev_iload_n dX10_border_5 rfl ?_
  refine ev_i2l dX10_border_6 ?_
  refine ev_ldc2 kw_RX10_150 dX10_border_7 ?_
  refine ev_ldc2 kw_RX10_111 dX10_border_10 ?_
  obtain ⟨q1, hv2, h⟩ := ab_bind h
  refine ev_callS (st := []) (co_X10_isIn (ab_pi M 69 0 0) (Int32.toInt64 x1) (-1) 60 _ hv2) mv_X10_isIn ml_RX10_113 dX10_border_13 (by decide) rfl (Nat.le_of_ble_eq_true rfl) ⟨Nat.le_refl _, Nat.le_refl _⟩ ?_
  refine ev_if_eq (t := 46) dX10_border_16 (by decide) (fun hc3 => ?_) (fun hc3 => ?_)
  · replace h := ab_pos hc3 h
    refine ev_iconst (x := (-1)) dX10_border_46 (by decide) ?_
    cases h
    exact ev_ireturn rfl dX10_border_47
  · replace h := ab_neg hc3 h
    refine ev_iload_n dX10_border_19 rfl ?_
    refine ev_i2l dX10_border_20 ?_
    refine ev_lconst (x := 0) dX10_border_21 (by decide) ?_
    refine ev_ldc2 kw_RX10_111 dX10_border_22 ?_
    obtain ⟨q4, hv5, h⟩ := ab_bind h
    refine ev_callS (st := []) (co_X10_isIn (ab_pi M 69 0 0) (Int32.toInt64 x2) 0 60 _ hv5) mv_X10_isIn ml_RX10_113 dX10_border_25 (by decide) rfl (Nat.le_of_ble_eq_true rfl) ⟨Nat.le_refl _, Nat.le_refl _⟩ ?_
    refine ev_if_eq (t := 46) dX10_border_28 (by decide) (fun hc6 => ?_) (fun hc6 => ?_)
    · replace h := ab_pos hc6 h
      refine ev_iconst (x := (-1)) dX10_border_46 (by decide) ?_
      cases h
      exact ev_ireturn rfl dX10_border_47
    · replace h := ab_neg hc6 h
      refine ev_iload_n dX10_border_31 rfl ?_
      obtain ⟨q7, hv8, h⟩ := ab_bind h
      refine ev_callS (st := []) (co_X10_isSet (ab_pi M 69 0 0) x3 _ hv8) mv_X10_isSet ml_RX10_138 dX10_border_32 (by decide) rfl (Nat.le_of_ble_eq_true rfl) ⟨Nat.le_refl _, Nat.le_refl _⟩ ?_
      refine ev_if_eq (t := 46) dX10_border_35 (by decide) (fun hc9 => ?_) (fun hc9 => ?_)
      · replace h := ab_pos hc9 h
        refine ev_iconst (x := (-1)) dX10_border_46 (by decide) ?_
        cases h
        exact ev_ireturn rfl dX10_border_47
      · replace h := ab_neg hc9 h
        refine ev_iload dX10_border_38 rfl ?_
        obtain ⟨q10, hv11, h⟩ := ab_bind h
        refine ev_callS (st := []) (co_X10_isSet (ab_pi M 69 0 0) x4 _ hv11) mv_X10_isSet ml_RX10_138 dX10_border_40 (by decide) rfl (Nat.le_of_ble_eq_true rfl) ⟨Nat.le_refl _, Nat.le_refl _⟩ ?_
        refine ev_if_ne (t := 48) dX10_border_43 (by decide) (fun hc12 => ?_) (fun hc12 => ?_)
        · replace h := ab_neg hc12 h
          refine ev_aload_n dX10_border_48 rfl ?_
          refine ev_iload_n dX10_border_49 rfl ?_
          refine ev_puti fl_RX10_59 sh_69 (by decide) (by decide) rfl rfl rfl dX10_border_50 ?_
          refine ev_aload_n dX10_border_53 rfl ?_
          refine ev_iload_n dX10_border_54 rfl ?_
          refine ev_puti fl_RX10_160 sh_69 (by decide) (by decide) rfl rfl rfl dX10_border_55 ?_
          refine ev_aload_n dX10_border_58 rfl ?_
          refine ev_iload_n dX10_border_59 rfl ?_
          refine ev_puti fl_RX10_163 sh_69 (by decide) (by decide) rfl rfl rfl dX10_border_60 ?_
          refine ev_aload_n dX10_border_63 rfl ?_
          refine ev_iload dX10_border_64 rfl ?_
          refine ev_puti fl_RX10_166 sh_69 (by decide) (by decide) rfl rfl rfl dX10_border_66 ?_
          refine ev_iconst (x := 0) dX10_border_69 (by decide) ?_
          cases h
          exact ev_ireturn rfl dX10_border_70
        · replace h := ab_pos hc12 h
          refine ev_iconst (x := (-1)) dX10_border_46 (by decide) ?_
          cases h
          exact ev_ireturn rfl dX10_border_47

noncomputable def mi_X10_isFree (M : ab_M) (x1 : Int32) (x2 : Int32) : Option (Int32) :=
  ab_chk (vp_in x1 12) <|
  ab_chk (vp_in x1 12) <|
  if (M.1 70 (x1).toNatClampNeg) = 3 then
    if (M.1 69 20) < 0 then
      some 1
    else
      if (M.1 69 21) < ((M.1 71 (x1).toNatClampNeg) - (M.1 69 20)) then
        some 1
      else
        if (-((M.1 71 (x1).toNatClampNeg) - (M.1 69 20))) ≤ (M.1 69 21) then
          ((if 0 ≤ ((M.1 71 (x1).toNatClampNeg) - (M.1 69 20)) then
            some (M.1 69 23)
          else
            some (M.1 69 22)) : Option (Int32)).bind fun q7 =>
          if ((q7 >>> (x2 &&& 31)) &&& 1) = 1 then
            some 1
          else
            some 0
        else
          some 1
  else
    some 1

set_option maxHeartbeats 4000000 in
set_option maxRecDepth 100000 in
theorem co_X10_isFree {l : Launch} {D : va_G} {ac : Nat → ClassId} (M : ab_M) (x1 : Int32) (x2 : Int32) (z : Int32) (h : mi_X10_isFree M x1 x2 = some z) : ab_Con l D ac 1 me_X10_isFree 0 0 [.ref 69, .int x1, .int x2] ab_SH M (some (.int z), ab_SH, M) := by
  refine ab_intro (lv := [some (.ref 69), some (.int x1), some (.int x2), none]) (by decide) rfl (Nat.le_of_ble_eq_true rfl) rfl ?_
  unfold mi_X10_isFree at h
  refine ev_aload_n dX10_isFree_0 rfl ?_
  refine ev_getr (o' := 71) fl_RX10_13 sh_69 (by decide) (by decide) rfl rfl dX10_isFree_1 ?_
  refine ev_iload_n dX10_isFree_4 rfl ?_
  obtain ⟨hb1, h⟩ := ab_chk_some h
  refine ev_iaload sh_71 hb1 dX10_isFree_5 ?_
  refine ev_aload_n dX10_isFree_6 rfl ?_
  refine ev_geti fl_RX10_59 sh_69 (by decide) (by decide) rfl dX10_isFree_7 ?_
  refine ev_isub dX10_isFree_10 ?_
  refine ev_istore_n dX10_isFree_11 (Nat.le_of_ble_eq_true rfl) rfl rfl ?_
  refine ev_aload_n dX10_isFree_12 rfl ?_
  refine ev_getr (o' := 70) fl_RX10_7 sh_69 (by decide) (by decide) rfl rfl dX10_isFree_13 ?_
  refine ev_iload_n dX10_isFree_16 rfl ?_
  obtain ⟨hb2, h⟩ := ab_chk_some h
  refine ev_iaload sh_70 hb2 dX10_isFree_17 ?_
  refine ev_iconst (x := 3) dX10_isFree_18 (by decide) ?_
  refine ev_icmp_ne (t := 46) dX10_isFree_19 (by decide) (fun hc3 => ?_) (fun hc3 => ?_)
  · replace h := ab_neg hc3 h
    refine ev_iconst (x := 1) dX10_isFree_46 (by decide) ?_
    cases h
    exact ev_zreturn rfl (Or.inr rfl) dX10_isFree_47
  · replace h := ab_pos hc3 h
    refine ev_aload_n dX10_isFree_22 rfl ?_
    refine ev_geti fl_RX10_59 sh_69 (by decide) (by decide) rfl dX10_isFree_23 ?_
    refine ev_if_lt (t := 46) dX10_isFree_26 (by decide) (fun hc4 => ?_) (fun hc4 => ?_)
    · replace h := ab_pos hc4 h
      refine ev_iconst (x := 1) dX10_isFree_46 (by decide) ?_
      cases h
      exact ev_zreturn rfl (Or.inr rfl) dX10_isFree_47
    · replace h := ab_neg hc4 h
      refine ev_iload_n dX10_isFree_29 rfl ?_
      refine ev_aload_n dX10_isFree_30 rfl ?_
      refine ev_geti fl_RX10_160 sh_69 (by decide) (by decide) rfl dX10_isFree_31 ?_
      refine ev_icmp_gt (t := 46) dX10_isFree_34 (by decide) (fun hc5 => ?_) (fun hc5 => ?_)
      · replace h := ab_pos hc5 h
        refine ev_iconst (x := 1) dX10_isFree_46 (by decide) ?_
        cases h
        exact ev_zreturn rfl (Or.inr rfl) dX10_isFree_47
      · replace h := ab_neg hc5 h
        refine ev_iload_n dX10_isFree_37 rfl ?_
        refine ev_ineg dX10_isFree_38 ?_
        refine ev_aload_n dX10_isFree_39 rfl ?_
        refine ev_geti fl_RX10_160 sh_69 (by decide) (by decide) rfl dX10_isFree_40 ?_
        refine ev_icmp_le (t := 48) dX10_isFree_43 (by decide) (fun hc6 => ?_) (fun hc6 => ?_)
        · replace h := ab_pos hc6 h
          refine ev_iload_n dX10_isFree_48 rfl ?_
          obtain ⟨q7, hq8, h⟩ := ab_bind h
          have hJ9 : ab_Ev l D ac 1 me_X10_isFree ab_SH.length 0 0 (some (.int z), ab_SH, M) 0 0 ab_SH 63 [some (.ref 69), some (.int x1), some (.int x2), some (.int ((M.1 71 (x1).toNatClampNeg) - (M.1 69 20)))] [.int q7] M := by
            refine ev_iload_n dX10_isFree_63 rfl ?_
            refine ev_ishr dX10_isFree_64 ?_
            refine ev_iconst (x := 1) dX10_isFree_65 (by decide) ?_
            refine ev_iand dX10_isFree_66 ?_
            refine ev_iconst (x := 1) dX10_isFree_67 (by decide) ?_
            refine ev_icmp_ne (t := 75) dX10_isFree_68 (by decide) (fun hc11 => ?_) (fun hc11 => ?_)
            · replace h := ab_neg hc11 h
              refine ev_iconst (x := 0) dX10_isFree_75 (by decide) ?_
              cases h
              exact ev_zreturn rfl (Or.inl rfl) dX10_isFree_76
            · replace h := ab_pos hc11 h
              refine ev_iconst (x := 1) dX10_isFree_71 (by decide) ?_
              refine ev_goto (t := 76) dX10_isFree_72 (by decide) ?_
              cases h
              exact ev_zreturn rfl (Or.inr rfl) dX10_isFree_76
          refine ev_if_ge (t := 59) dX10_isFree_49 (by decide) (fun hc10 => ?_) (fun hc10 => ?_)
          · replace hq8 := ab_pos hc10 hq8
            refine ev_aload_n dX10_isFree_59 rfl ?_
            refine ev_geti fl_RX10_166 sh_69 (by decide) (by decide) rfl dX10_isFree_60 ?_
            cases hq8
            exact hJ9
          · replace hq8 := ab_neg hc10 hq8
            refine ev_aload_n dX10_isFree_52 rfl ?_
            refine ev_geti fl_RX10_163 sh_69 (by decide) (by decide) rfl dX10_isFree_53 ?_
            refine ev_goto (t := 63) dX10_isFree_56 (by decide) ?_
            cases hq8
            exact hJ9
        · replace h := ab_neg hc6 h
          refine ev_iconst (x := 1) dX10_isFree_46 (by decide) ?_
          cases h
          exact ev_zreturn rfl (Or.inr rfl) dX10_isFree_47

noncomputable def mi_X10_isListed (M : ab_M) (x1 : Int32) (x2 : Int32) : Option (Int32) :=
  if 30 ≤ x2 then
    some 0
  else
    ab_chk (vp_in x1 12) <|
    if (((M.1 76 (x1).toNatClampNeg) >>> (x2 &&& 31)) &&& 1) = 1 then
      some 1
    else
      some 0

set_option maxHeartbeats 4000000 in
set_option maxRecDepth 100000 in
theorem co_X10_isListed {l : Launch} {D : va_G} {ac : Nat → ClassId} (M : ab_M) (x1 : Int32) (x2 : Int32) (z : Int32) (h : mi_X10_isListed M x1 x2 = some z) : ab_Con l D ac 1 me_X10_isListed 0 0 [.ref 69, .int x1, .int x2] ab_SH M (some (.int z), ab_SH, M) := by
  refine ab_intro (lv := [some (.ref 69), some (.int x1), some (.int x2)]) (by decide) rfl (Nat.le_of_ble_eq_true rfl) rfl ?_
  unfold mi_X10_isListed at h
  refine ev_iload_n dX10_isListed_0 rfl ?_
  refine ev_bipush (x := 30) dX10_isListed_1 (by decide) ?_
  refine ev_icmp_ge (t := 24) dX10_isListed_3 (by decide) (fun hc1 => ?_) (fun hc1 => ?_)
  · replace h := ab_pos hc1 h
    refine ev_iconst (x := 0) dX10_isListed_24 (by decide) ?_
    cases h
    exact ev_zreturn rfl (Or.inl rfl) dX10_isListed_25
  · replace h := ab_neg hc1 h
    refine ev_aload_n dX10_isListed_6 rfl ?_
    refine ev_getr (o' := 76) fl_RX10_28 sh_69 (by decide) (by decide) rfl rfl dX10_isListed_7 ?_
    refine ev_iload_n dX10_isListed_10 rfl ?_
    obtain ⟨hb2, h⟩ := ab_chk_some h
    refine ev_iaload sh_76 hb2 dX10_isListed_11 ?_
    refine ev_iload_n dX10_isListed_12 rfl ?_
    refine ev_ishr dX10_isListed_13 ?_
    refine ev_iconst (x := 1) dX10_isListed_14 (by decide) ?_
    refine ev_iand dX10_isListed_15 ?_
    refine ev_iconst (x := 1) dX10_isListed_16 (by decide) ?_
    refine ev_icmp_ne (t := 24) dX10_isListed_17 (by decide) (fun hc3 => ?_) (fun hc3 => ?_)
    · replace h := ab_neg hc3 h
      refine ev_iconst (x := 0) dX10_isListed_24 (by decide) ?_
      cases h
      exact ev_zreturn rfl (Or.inl rfl) dX10_isListed_25
    · replace h := ab_pos hc3 h
      refine ev_iconst (x := 1) dX10_isListed_20 (by decide) ?_
      refine ev_goto (t := 25) dX10_isListed_21 (by decide) ?_
      cases h
      exact ev_zreturn rfl (Or.inr rfl) dX10_isListed_25

noncomputable def mi_X10_mayHave (M : ab_M) (x1 : Int32) (x2 : Int32) : Option (Int32) :=
  ab_chk (vp_in x1 16) <|
  (mi_X10_isIn M (Int32.toInt64 x2) 0 29).bind fun q2 =>
  ((if q2 = 0 then
    some 0
  else
    (mi_X10_isListed M (M.1 78 (x1).toNatClampNeg) x2).bind fun q8 =>
    if q8 = 0 then
      some 0
    else
      ab_chk (vp_in (M.1 78 (x1).toNatClampNeg) 12) <|
      if (M.1 70 (M.1 78 (x1).toNatClampNeg).toNatClampNeg) = 1 then
        ab_chk (vp_in (M.1 78 (x1).toNatClampNeg) 12) <|
        (mi_X10_isListed M (M.1 78 (x1).toNatClampNeg) (x2 + (M.1 77 (M.1 78 (x1).toNatClampNeg).toNatClampNeg))).bind fun q14 =>
        if q14 = 0 then
          some 0
        else
          some 1
      else
        some 1) : Option (Int32)).bind fun q4 =>
  if q4 = 0 then
    some 0
  else
    (mi_X10_isFree M (M.1 78 (x1).toNatClampNeg) x2).bind fun q18 =>
    if q18 = 0 then
      some 0
    else
      ab_chk (vp_in x1 16) <|
      if (M.1 79 (x1).toNatClampNeg) < 0 then
        some 1
      else
        ab_chk (vp_in x1 16) <|
        if (M.1 79 (x1).toNatClampNeg) = x2 then
          some 1
        else
          some 0

set_option maxHeartbeats 4000000 in
set_option maxRecDepth 100000 in
theorem co_X10_mayHave {l : Launch} {D : va_G} {ac : Nat → ClassId} (M : ab_M) (x1 : Int32) (x2 : Int32) (z : Int32) (h : mi_X10_mayHave M x1 x2 = some z) : ab_Con l D ac 2 me_X10_mayHave 0 0 [.ref 69, .int x1, .int x2] ab_SH M (some (.int z), ab_SH, M) := by
  refine ab_intro (lv := [some (.ref 69), some (.int x1), some (.int x2), none, none]) (by decide) rfl (Nat.le_of_ble_eq_true rfl) rfl ?_
  unfold mi_X10_mayHave at h
  refine ev_aload_n dX10_mayHave_0 rfl ?_
  refine ev_getr (o' := 78) fl_RX10_34 sh_69 (by decide) (by decide) rfl rfl dX10_mayHave_1 ?_
  refine ev_iload_n dX10_mayHave_4 rfl ?_
  obtain ⟨hb1, h⟩ := ab_chk_some h
  refine ev_iaload sh_78 hb1 dX10_mayHave_5 ?_
  refine ev_istore_n dX10_mayHave_6 (Nat.le_of_ble_eq_true rfl) rfl rfl ?_
  refine ev_iload_n dX10_mayHave_7 rfl ?_
  refine ev_i2l dX10_mayHave_8 ?_
  refine ev_lconst (x := 0) dX10_mayHave_9 (by decide) ?_
  refine ev_ldc2 kw_RX10_152 dX10_mayHave_10 ?_
  obtain ⟨q2, hv3, h⟩ := ab_bind h
  refine ev_callS (st := []) (co_X10_isIn M (Int32.toInt64 x2) 0 29 _ hv3) mv_X10_isIn ml_RX10_113 dX10_mayHave_13 (by decide) rfl (Nat.le_of_ble_eq_true rfl) ⟨Nat.le_refl _, Nat.le_refl _⟩ ?_
  obtain ⟨q4, hq5, h⟩ := ab_bind h
  have hJ6 : ab_Ev l D ac 2 me_X10_mayHave ab_SH.length 0 0 (some (.int z), ab_SH, M) 0 0 ab_SH 59 [some (.ref 69), some (.int x1), some (.int x2), some (.int (M.1 78 (x1).toNatClampNeg)), none] [.int q4] M := by
    refine ev_istore dX10_mayHave_59 (Nat.le_of_ble_eq_true rfl) rfl rfl ?_
    refine ev_iload dX10_mayHave_61 rfl ?_
    refine ev_if_eq (t := 98) dX10_mayHave_63 (by decide) (fun hc17 => ?_) (fun hc17 => ?_)
    · replace h := ab_pos hc17 h
      refine ev_iconst (x := 0) dX10_mayHave_98 (by decide) ?_
      cases h
      exact ev_zreturn rfl (Or.inl rfl) dX10_mayHave_99
    · replace h := ab_neg hc17 h
      refine ev_aload_n dX10_mayHave_66 rfl ?_
      refine ev_iload_n dX10_mayHave_67 rfl ?_
      refine ev_iload_n dX10_mayHave_68 rfl ?_
      obtain ⟨q18, hv19, h⟩ := ab_bind h
      refine ev_callV (st := []) (co_X10_isFree M (M.1 78 (x1).toNatClampNeg) x2 _ hv19) mv_X10_isFree sh_69 ml_RX10_173 dX10_mayHave_69 (by decide) rfl (Nat.le_of_ble_eq_true rfl) ⟨Nat.le_refl _, Nat.le_refl _⟩ ?_
      refine ev_if_eq (t := 98) dX10_mayHave_72 (by decide) (fun hc20 => ?_) (fun hc20 => ?_)
      · replace h := ab_pos hc20 h
        refine ev_iconst (x := 0) dX10_mayHave_98 (by decide) ?_
        cases h
        exact ev_zreturn rfl (Or.inl rfl) dX10_mayHave_99
      · replace h := ab_neg hc20 h
        refine ev_aload_n dX10_mayHave_75 rfl ?_
        refine ev_getr (o' := 79) fl_RX10_37 sh_69 (by decide) (by decide) rfl rfl dX10_mayHave_76 ?_
        refine ev_iload_n dX10_mayHave_79 rfl ?_
        obtain ⟨hb21, h⟩ := ab_chk_some h
        refine ev_iaload sh_79 hb21 dX10_mayHave_80 ?_
        refine ev_if_lt (t := 94) dX10_mayHave_81 (by decide) (fun hc22 => ?_) (fun hc22 => ?_)
        · replace h := ab_pos hc22 h
          refine ev_iconst (x := 1) dX10_mayHave_94 (by decide) ?_
          refine ev_goto (t := 99) dX10_mayHave_95 (by decide) ?_
          cases h
          exact ev_zreturn rfl (Or.inr rfl) dX10_mayHave_99
        · replace h := ab_neg hc22 h
          refine ev_aload_n dX10_mayHave_84 rfl ?_
          refine ev_getr (o' := 79) fl_RX10_37 sh_69 (by decide) (by decide) rfl rfl dX10_mayHave_85 ?_
          refine ev_iload_n dX10_mayHave_88 rfl ?_
          obtain ⟨hb23, h⟩ := ab_chk_some h
          refine ev_iaload sh_79 hb23 dX10_mayHave_89 ?_
          refine ev_iload_n dX10_mayHave_90 rfl ?_
          refine ev_icmp_ne (t := 98) dX10_mayHave_91 (by decide) (fun hc24 => ?_) (fun hc24 => ?_)
          · replace h := ab_neg hc24 h
            refine ev_iconst (x := 0) dX10_mayHave_98 (by decide) ?_
            cases h
            exact ev_zreturn rfl (Or.inl rfl) dX10_mayHave_99
          · replace h := ab_pos hc24 h
            refine ev_iconst (x := 1) dX10_mayHave_94 (by decide) ?_
            refine ev_goto (t := 99) dX10_mayHave_95 (by decide) ?_
            cases h
            exact ev_zreturn rfl (Or.inr rfl) dX10_mayHave_99
  refine ev_if_eq (t := 58) dX10_mayHave_16 (by decide) (fun hc7 => ?_) (fun hc7 => ?_)
  · replace hq5 := ab_pos hc7 hq5
    refine ev_iconst (x := 0) dX10_mayHave_58 (by decide) ?_
    cases hq5
    exact hJ6
  · replace hq5 := ab_neg hc7 hq5
    refine ev_aload_n dX10_mayHave_19 rfl ?_
    refine ev_iload_n dX10_mayHave_20 rfl ?_
    refine ev_iload_n dX10_mayHave_21 rfl ?_
    obtain ⟨q8, hv9, hq5⟩ := ab_bind hq5
    refine ev_callV (st := []) (co_X10_isListed M (M.1 78 (x1).toNatClampNeg) x2 _ hv9) mv_X10_isListed sh_69 ml_RX10_169 dX10_mayHave_22 (by decide) rfl (Nat.le_of_ble_eq_true rfl) ⟨Nat.le_refl _, Nat.le_refl _⟩ ?_
    refine ev_if_eq (t := 58) dX10_mayHave_25 (by decide) (fun hc10 => ?_) (fun hc10 => ?_)
    · replace hq5 := ab_pos hc10 hq5
      refine ev_iconst (x := 0) dX10_mayHave_58 (by decide) ?_
      cases hq5
      exact hJ6
    · replace hq5 := ab_neg hc10 hq5
      refine ev_aload_n dX10_mayHave_28 rfl ?_
      refine ev_getr (o' := 70) fl_RX10_7 sh_69 (by decide) (by decide) rfl rfl dX10_mayHave_29 ?_
      refine ev_iload_n dX10_mayHave_32 rfl ?_
      obtain ⟨hb11, hq5⟩ := ab_chk_some hq5
      refine ev_iaload sh_70 hb11 dX10_mayHave_33 ?_
      refine ev_iconst (x := 1) dX10_mayHave_34 (by decide) ?_
      refine ev_icmp_ne (t := 54) dX10_mayHave_35 (by decide) (fun hc12 => ?_) (fun hc12 => ?_)
      · replace hq5 := ab_neg hc12 hq5
        refine ev_iconst (x := 1) dX10_mayHave_54 (by decide) ?_
        refine ev_goto (t := 59) dX10_mayHave_55 (by decide) ?_
        cases hq5
        exact hJ6
      · replace hq5 := ab_pos hc12 hq5
        refine ev_aload_n dX10_mayHave_38 rfl ?_
        refine ev_iload_n dX10_mayHave_39 rfl ?_
        refine ev_iload_n dX10_mayHave_40 rfl ?_
        refine ev_aload_n dX10_mayHave_41 rfl ?_
        refine ev_getr (o' := 77) fl_RX10_31 sh_69 (by decide) (by decide) rfl rfl dX10_mayHave_42 ?_
        refine ev_iload_n dX10_mayHave_45 rfl ?_
        obtain ⟨hb13, hq5⟩ := ab_chk_some hq5
        refine ev_iaload sh_77 hb13 dX10_mayHave_46 ?_
        refine ev_iadd dX10_mayHave_47 ?_
        obtain ⟨q14, hv15, hq5⟩ := ab_bind hq5
        refine ev_callV (st := []) (co_X10_isListed M (M.1 78 (x1).toNatClampNeg) (x2 + (M.1 77 (M.1 78 (x1).toNatClampNeg).toNatClampNeg)) _ hv15) mv_X10_isListed sh_69 ml_RX10_169 dX10_mayHave_48 (by decide) rfl (Nat.le_of_ble_eq_true rfl) ⟨Nat.le_refl _, Nat.le_refl _⟩ ?_
        refine ev_if_eq (t := 58) dX10_mayHave_51 (by decide) (fun hc16 => ?_) (fun hc16 => ?_)
        · replace hq5 := ab_pos hc16 hq5
          refine ev_iconst (x := 0) dX10_mayHave_58 (by decide) ?_
          cases hq5
          exact hJ6
        · replace hq5 := ab_neg hc16 hq5
          refine ev_iconst (x := 1) dX10_mayHave_54 (by decide) ?_
          refine ev_goto (t := 59) dX10_mayHave_55 (by decide) ?_
          cases hq5
          exact hJ6

noncomputable def mi_X10_turn_9 : Nat → ab_M → Int32 → Int32 → Option (Int32 × Int32 × ab_M)
  | 0, _, _, _ => none
  | n + 1, M, x1, x2 =>
    if (M.1 69 10) ≤ x2 then
      some (x1, x2, M)
    else
      ab_chk (vp_in x2 16) <|
      ((if (M.1 80 (x2).toNatClampNeg) < 0 then
        some 0
      else
        ab_chk (vp_in x2 16) <|
        (mi_X10_mayHave M x2 (M.1 80 (x2).toNatClampNeg)).bind fun q8 =>
        if q8 = 0 then
          some 0
        else
          some 1) : Option (Int32)).bind fun q3 =>
      ((if q3 = 0 then
        some 0
      else
        ab_chk (vp_in x2 16) <|
        (mi_X10_mayHave (ab_pi (ab_pi M 69 22 (M.1 69 23)) 69 23 (M.1 69 22)) x2 ((ab_pi (ab_pi M 69 22 (M.1 69 23)) 69 23 (M.1 69 22)).1 80 (x2).toNatClampNeg)).bind fun q16 =>
        if q16 = 0 then
          some 1
        else
          some 0) : Option (Int32)).bind fun q11 =>
      mi_X10_turn_9 n (ab_pi (ab_pi (ab_pi (ab_pi M 69 22 (M.1 69 23)) 69 23 (M.1 69 22)) 69 23 ((ab_pi (ab_pi M 69 22 (M.1 69 23)) 69 23 (M.1 69 22)).1 69 22)) 69 22 (M.1 69 22)) (x1 + q11) (x2 + 1)

set_option maxHeartbeats 4000000 in
set_option maxRecDepth 100000 in
theorem lp_X10_turn_9 {l : Launch} {D : va_G} {ac : Nat → ClassId} {n0 : Nat} {r : ab_Rs} : ∀ (n : Nat) (M : ab_M) (x1 : Int32) (x2 : Int32) (q : Int32 × Int32 × ab_M) (h : mi_X10_turn_9 n M x1 x2 = some q) (kk : ab_Ev l D ac 3 me_X10_turn n0 0 0 r 0 0 ab_SH 112 [some (.ref 69), some (.int q.1), some (.int q.2.1), none, none] [] q.2.2), ab_Ev l D ac 3 me_X10_turn n0 0 0 r 0 0 ab_SH 9 [some (.ref 69), some (.int x1), some (.int x2), none, none] [] M := by
  intro n
  induction n with
  | zero =>
    intro M x1 x2 q h kk
    cases h
  | succ n ih =>
    intro M x1 x2 q h kk
    unfold mi_X10_turn_9 at h
    refine ev_iload_n dX10_turn_9 rfl ?_
    refine ev_aload_n dX10_turn_10 rfl ?_
    refine ev_geti fl_RX10_108 sh_69 (by decide) (by decide) rfl dX10_turn_11 ?_
    refine ev_icmp_ge (t := 112) dX10_turn_14 (by decide) (fun hc1 => ?_) (fun hc1 => ?_)
    · replace h := ab_pos hc1 h
      cases h
      exact kk
    · replace h := ab_neg hc1 h
      refine ev_aload_n dX10_turn_17 rfl ?_
      refine ev_getr (o' := 80) fl_RX10_40 sh_69 (by decide) (by decide) rfl rfl dX10_turn_18 ?_
      refine ev_iload_n dX10_turn_21 rfl ?_
      obtain ⟨hb2, h⟩ := ab_chk_some h
      refine ev_iaload sh_80 hb2 dX10_turn_22 ?_
      obtain ⟨q3, hq4, h⟩ := ab_bind h
      have hJ5 : ab_Ev l D ac 3 me_X10_turn n0 0 0 r 0 0 ab_SH 45 [some (.ref 69), some (.int x1), some (.int x2), none, none] [.int q3] M := by
        refine ev_istore_n dX10_turn_45 (Nat.le_of_ble_eq_true rfl) rfl rfl ?_
        refine ev_aload_n dX10_turn_46 rfl ?_
        refine ev_geti fl_RX10_163 sh_69 (by decide) (by decide) rfl dX10_turn_47 ?_
        refine ev_istore dX10_turn_50 (Nat.le_of_ble_eq_true rfl) rfl rfl ?_
        refine ev_aload_n dX10_turn_52 rfl ?_
        refine ev_aload_n dX10_turn_53 rfl ?_
        refine ev_geti fl_RX10_166 sh_69 (by decide) (by decide) rfl dX10_turn_54 ?_
        refine ev_puti fl_RX10_163 sh_69 (by decide) (by decide) rfl rfl rfl dX10_turn_57 ?_
        refine ev_aload_n dX10_turn_60 rfl ?_
        refine ev_iload dX10_turn_61 rfl ?_
        refine ev_puti fl_RX10_166 sh_69 (by decide) (by decide) rfl rfl rfl dX10_turn_63 ?_
        refine ev_iload_n dX10_turn_66 rfl ?_
        refine ev_iload_n dX10_turn_67 rfl ?_
        obtain ⟨q11, hq12, h⟩ := ab_bind h
        have hJ13 : ab_Ev l D ac 3 me_X10_turn n0 0 0 r 0 0 ab_SH 90 [some (.ref 69), some (.int x1), some (.int x2), some (.int q3), some (.int (M.1 69 22))] [.int q11, .int x1] (ab_pi (ab_pi M 69 22 (M.1 69 23)) 69 23 (M.1 69 22)) := by
          refine ev_iadd dX10_turn_90 ?_
          refine ev_istore_n dX10_turn_91 (Nat.le_of_ble_eq_true rfl) rfl rfl ?_
          refine ev_aload_n dX10_turn_92 rfl ?_
          refine ev_aload_n dX10_turn_93 rfl ?_
          refine ev_geti fl_RX10_163 sh_69 (by decide) (by decide) rfl dX10_turn_94 ?_
          refine ev_puti fl_RX10_166 sh_69 (by decide) (by decide) rfl rfl rfl dX10_turn_97 ?_
          refine ev_aload_n dX10_turn_100 rfl ?_
          refine ev_iload dX10_turn_101 rfl ?_
          refine ev_puti fl_RX10_163 sh_69 (by decide) (by decide) rfl rfl rfl dX10_turn_103 ?_
          refine ev_iinc (y := x2 + 1) dX10_turn_106 rfl (by first | rfl | decide) rfl rfl ?_
          refine ev_goto (t := 9) dX10_turn_109 (by decide) ?_
          refine ev_drop (lv' := [some (.ref 69), some (.int (x1 + q11)), some (.int (x2 + 1)), none, none]) (ab_sub_k (ab_sub_k (ab_sub_k (ab_sub_d (ab_sub_d ab_sub_nil))))) ?_
          exact ih (ab_pi (ab_pi (ab_pi (ab_pi M 69 22 (M.1 69 23)) 69 23 (M.1 69 22)) 69 23 ((ab_pi (ab_pi M 69 22 (M.1 69 23)) 69 23 (M.1 69 22)).1 69 22)) 69 22 (M.1 69 22)) (x1 + q11) (x2 + 1) _ h kk
        refine ev_if_eq (t := 89) dX10_turn_68 (by decide) (fun hc14 => ?_) (fun hc14 => ?_)
        · replace hq12 := ab_pos hc14 hq12
          refine ev_iconst (x := 0) dX10_turn_89 (by decide) ?_
          cases hq12
          exact hJ13
        · replace hq12 := ab_neg hc14 hq12
          refine ev_aload_n dX10_turn_71 rfl ?_
          refine ev_iload_n dX10_turn_72 rfl ?_
          refine ev_aload_n dX10_turn_73 rfl ?_
          refine ev_getr (o' := 80) fl_RX10_40 sh_69 (by decide) (by decide) rfl rfl dX10_turn_74 ?_
          refine ev_iload_n dX10_turn_77 rfl ?_
          obtain ⟨hb15, hq12⟩ := ab_chk_some hq12
          refine ev_iaload sh_80 hb15 dX10_turn_78 ?_
          obtain ⟨q16, hv17, hq12⟩ := ab_bind hq12
          refine ev_callV (st := [.int x1]) (co_X10_mayHave (ab_pi (ab_pi M 69 22 (M.1 69 23)) 69 23 (M.1 69 22)) x2 ((ab_pi (ab_pi M 69 22 (M.1 69 23)) 69 23 (M.1 69 22)).1 80 (x2).toNatClampNeg) _ hv17) mv_X10_mayHave sh_69 ml_RX10_176 dX10_turn_79 (by decide) rfl (Nat.le_of_ble_eq_true rfl) ⟨Nat.le_refl _, Nat.le_refl _⟩ ?_
          refine ev_if_ne (t := 89) dX10_turn_82 (by decide) (fun hc18 => ?_) (fun hc18 => ?_)
          · replace hq12 := ab_neg hc18 hq12
            refine ev_iconst (x := 0) dX10_turn_89 (by decide) ?_
            cases hq12
            exact hJ13
          · replace hq12 := ab_pos hc18 hq12
            refine ev_iconst (x := 1) dX10_turn_85 (by decide) ?_
            refine ev_goto (t := 90) dX10_turn_86 (by decide) ?_
            cases hq12
            exact hJ13
      refine ev_if_lt (t := 44) dX10_turn_23 (by decide) (fun hc6 => ?_) (fun hc6 => ?_)
      · replace hq4 := ab_pos hc6 hq4
        refine ev_iconst (x := 0) dX10_turn_44 (by decide) ?_
        cases hq4
        exact hJ5
      · replace hq4 := ab_neg hc6 hq4
        refine ev_aload_n dX10_turn_26 rfl ?_
        refine ev_iload_n dX10_turn_27 rfl ?_
        refine ev_aload_n dX10_turn_28 rfl ?_
        refine ev_getr (o' := 80) fl_RX10_40 sh_69 (by decide) (by decide) rfl rfl dX10_turn_29 ?_
        refine ev_iload_n dX10_turn_32 rfl ?_
        obtain ⟨hb7, hq4⟩ := ab_chk_some hq4
        refine ev_iaload sh_80 hb7 dX10_turn_33 ?_
        obtain ⟨q8, hv9, hq4⟩ := ab_bind hq4
        refine ev_callV (st := []) (co_X10_mayHave M x2 (M.1 80 (x2).toNatClampNeg) _ hv9) mv_X10_mayHave sh_69 ml_RX10_176 dX10_turn_34 (by decide) rfl (Nat.le_of_ble_eq_true rfl) ⟨Nat.le_refl _, Nat.le_refl _⟩ ?_
        refine ev_if_eq (t := 44) dX10_turn_37 (by decide) (fun hc10 => ?_) (fun hc10 => ?_)
        · replace hq4 := ab_pos hc10 hq4
          refine ev_iconst (x := 0) dX10_turn_44 (by decide) ?_
          cases hq4
          exact hJ5
        · replace hq4 := ab_neg hc10 hq4
          refine ev_iconst (x := 1) dX10_turn_40 (by decide) ?_
          refine ev_goto (t := 45) dX10_turn_41 (by decide) ?_
          cases hq4
          exact hJ5

noncomputable def mi_X10_turn (M : ab_M) : Option (Int32 × ab_M) :=
  (mi_X10_turn_9 ab_F (ab_pi M 69 0 0) 0 0).bind fun q19 =>
  some (q19.1, (ab_pi (ab_pi q19.2.2 69 22 (q19.2.2.1 69 23)) 69 23 (q19.2.2.1 69 22)))

set_option maxHeartbeats 4000000 in
set_option maxRecDepth 100000 in
theorem co_X10_turn {l : Launch} {D : va_G} {ac : Nat → ClassId} (M : ab_M) (z : Int32 × ab_M) (h : mi_X10_turn M = some z) : ab_Con l D ac 3 me_X10_turn 0 0 [.ref 69] ab_SH M (some (.int z.1), ab_SH, z.2) := by
  refine ab_intro (lv := [some (.ref 69), none, none, none, none]) (by decide) rfl (Nat.le_of_ble_eq_true rfl) rfl ?_
  unfold mi_X10_turn at h
  refine ev_aload_n dX10_turn_0 rfl ?_
  refine ev_iconst (x := 0) dX10_turn_1 (by decide) ?_
  refine ev_puti fl_RX10_102 sh_69 (by decide) (by decide) rfl rfl rfl dX10_turn_2 ?_
  refine ev_iconst (x := 0) dX10_turn_5 (by decide) ?_
  refine ev_istore_n dX10_turn_6 (Nat.le_of_ble_eq_true rfl) rfl rfl ?_
  refine ev_iconst (x := 0) dX10_turn_7 (by decide) ?_
  refine ev_istore_n dX10_turn_8 (Nat.le_of_ble_eq_true rfl) rfl rfl ?_
  obtain ⟨q19, hq20, h⟩ := ab_bind h
  refine lp_X10_turn_9 _ (ab_pi M 69 0 0) 0 0 _ hq20 ?_
  refine ev_aload_n dX10_turn_112 rfl ?_
  refine ev_geti fl_RX10_163 sh_69 (by decide) (by decide) rfl dX10_turn_113 ?_
  refine ev_istore_n dX10_turn_116 (Nat.le_of_ble_eq_true rfl) rfl rfl ?_
  refine ev_aload_n dX10_turn_117 rfl ?_
  refine ev_aload_n dX10_turn_118 rfl ?_
  refine ev_geti fl_RX10_166 sh_69 (by decide) (by decide) rfl dX10_turn_119 ?_
  refine ev_puti fl_RX10_163 sh_69 (by decide) (by decide) rfl rfl rfl dX10_turn_122 ?_
  refine ev_aload_n dX10_turn_125 rfl ?_
  refine ev_iload_n dX10_turn_126 rfl ?_
  refine ev_puti fl_RX10_166 sh_69 (by decide) (by decide) rfl rfl rfl dX10_turn_127 ?_
  refine ev_iload_n dX10_turn_130 rfl ?_
  cases h
  exact ev_ireturn rfl dX10_turn_131

noncomputable def mi_X10_bar (M : ab_M) (x1 : Int32) (x2 : Int32) : Option (Int32 × ab_M) :=
  (mi_X10_isMast (ab_pi M 69 0 0) x1).bind fun q1 =>
  if q1 = 0 then
    some ((-1), (ab_pi M 69 0 0))
  else
    (mi_X10_isMast (ab_pi M 69 0 0) x2).bind fun q4 =>
    if q4 = 0 then
      some ((-1), (ab_pi M 69 0 0))
    else
      (mi_X10_barOf (ab_pi M 69 0 0) x1 x2).bind fun q7 =>
      some (q7, (ab_pi M 69 0 0))

set_option maxHeartbeats 4000000 in
set_option maxRecDepth 100000 in
theorem co_X10_bar {l : Launch} {D : va_G} {ac : Nat → ClassId} (M : ab_M) (x1 : Int32) (x2 : Int32) (z : Int32 × ab_M) (h : mi_X10_bar M x1 x2 = some z) : ab_Con l D ac 3 me_X10_bar 0 0 [.ref 69, .int x1, .int x2] ab_SH M (some (.int z.1), ab_SH, z.2) := by
  refine ab_intro (lv := [some (.ref 69), some (.int x1), some (.int x2)]) (by decide) rfl (Nat.le_of_ble_eq_true rfl) rfl ?_
  unfold mi_X10_bar at h
  refine ev_aload_n dX10_bar_0 rfl ?_
  refine ev_iconst (x := 0) dX10_bar_1 (by decide) ?_
  refine ev_puti fl_RX10_102 sh_69 (by decide) (by decide) rfl rfl rfl dX10_bar_2 ?_
  refine ev_aload_n dX10_bar_5 rfl ?_
  refine ev_iload_n dX10_bar_6 rfl ?_
  obtain ⟨q1, hv2, h⟩ := ab_bind h
  refine ev_callV (st := []) (co_X10_isMast (ab_pi M 69 0 0) x1 _ hv2) mv_X10_isMast sh_69 ml_RX10_132 dX10_bar_7 (by decide) rfl (Nat.le_of_ble_eq_true rfl) ⟨Nat.le_refl _, Nat.le_refl _⟩ ?_
  refine ev_if_eq (t := 30) dX10_bar_10 (by decide) (fun hc3 => ?_) (fun hc3 => ?_)
  · replace h := ab_pos hc3 h
    refine ev_iconst (x := (-1)) dX10_bar_30 (by decide) ?_
    cases h
    exact ev_ireturn rfl dX10_bar_31
  · replace h := ab_neg hc3 h
    refine ev_aload_n dX10_bar_13 rfl ?_
    refine ev_iload_n dX10_bar_14 rfl ?_
    obtain ⟨q4, hv5, h⟩ := ab_bind h
    refine ev_callV (st := []) (co_X10_isMast (ab_pi M 69 0 0) x2 _ hv5) mv_X10_isMast sh_69 ml_RX10_132 dX10_bar_15 (by decide) rfl (Nat.le_of_ble_eq_true rfl) ⟨Nat.le_refl _, Nat.le_refl _⟩ ?_
    refine ev_if_eq (t := 30) dX10_bar_18 (by decide) (fun hc6 => ?_) (fun hc6 => ?_)
    · replace h := ab_pos hc6 h
      refine ev_iconst (x := (-1)) dX10_bar_30 (by decide) ?_
      cases h
      exact ev_ireturn rfl dX10_bar_31
    · replace h := ab_neg hc6 h
      refine ev_aload_n dX10_bar_21 rfl ?_
      refine ev_iload_n dX10_bar_22 rfl ?_
      refine ev_iload_n dX10_bar_23 rfl ?_
      obtain ⟨q7, hv8, h⟩ := ab_bind h
      refine ev_callV (st := []) (co_X10_barOf (ab_pi M 69 0 0) x1 x2 _ hv8) mv_X10_barOf sh_69 ml_RX10_135 dX10_bar_24 (by decide) rfl (Nat.le_of_ble_eq_true rfl) ⟨Nat.le_refl _, Nat.le_refl _⟩ ?_
      refine ev_goto (t := 31) dX10_bar_27 (by decide) ?_
      cases h
      exact ev_ireturn rfl dX10_bar_31

noncomputable def mi_X10_may (M : ab_M) (x1 : Int32) (x2 : Int32) : Option (Int32 × ab_M) :=
  (mi_X10_isWant (ab_pi M 69 0 0) x1).bind fun q1 =>
  if q1 = 0 then
    some ((-1), (ab_pi M 69 0 0))
  else
    (mi_X10_mayHave (ab_pi M 69 0 0) x1 x2).bind fun q4 =>
    if q4 = 0 then
      some (0, (ab_pi M 69 0 0))
    else
      some (1, (ab_pi M 69 0 0))

set_option maxHeartbeats 4000000 in
set_option maxRecDepth 100000 in
theorem co_X10_may {l : Launch} {D : va_G} {ac : Nat → ClassId} (M : ab_M) (x1 : Int32) (x2 : Int32) (z : Int32 × ab_M) (h : mi_X10_may M x1 x2 = some z) : ab_Con l D ac 3 me_X10_may 0 0 [.ref 69, .int x1, .int x2] ab_SH M (some (.int z.1), ab_SH, z.2) := by
  refine ab_intro (lv := [some (.ref 69), some (.int x1), some (.int x2)]) (by decide) rfl (Nat.le_of_ble_eq_true rfl) rfl ?_
  unfold mi_X10_may at h
  refine ev_aload_n dX10_may_0 rfl ?_
  refine ev_iconst (x := 0) dX10_may_1 (by decide) ?_
  refine ev_puti fl_RX10_102 sh_69 (by decide) (by decide) rfl rfl rfl dX10_may_2 ?_
  refine ev_aload_n dX10_may_5 rfl ?_
  refine ev_iload_n dX10_may_6 rfl ?_
  obtain ⟨q1, hv2, h⟩ := ab_bind h
  refine ev_callV (st := []) (co_X10_isWant (ab_pi M 69 0 0) x1 _ hv2) mv_X10_isWant sh_69 ml_RX10_147 dX10_may_7 (by decide) rfl (Nat.le_of_ble_eq_true rfl) ⟨Nat.le_refl _, Nat.le_refl _⟩ ?_
  refine ev_if_ne (t := 17) dX10_may_10 (by decide) (fun hc3 => ?_) (fun hc3 => ?_)
  · replace h := ab_neg hc3 h
    refine ev_aload_n dX10_may_17 rfl ?_
    refine ev_iload_n dX10_may_18 rfl ?_
    refine ev_iload_n dX10_may_19 rfl ?_
    obtain ⟨q4, hv5, h⟩ := ab_bind h
    refine ev_callV (st := []) (co_X10_mayHave (ab_pi M 69 0 0) x1 x2 _ hv5) mv_X10_mayHave sh_69 ml_RX10_176 dX10_may_20 (by decide) rfl (Nat.le_of_ble_eq_true rfl) ⟨Nat.le_refl _, Nat.le_refl _⟩ ?_
    refine ev_if_eq (t := 30) dX10_may_23 (by decide) (fun hc6 => ?_) (fun hc6 => ?_)
    · replace h := ab_pos hc6 h
      refine ev_iconst (x := 0) dX10_may_30 (by decide) ?_
      cases h
      exact ev_ireturn rfl dX10_may_31
    · replace h := ab_neg hc6 h
      refine ev_iconst (x := 1) dX10_may_26 (by decide) ?_
      refine ev_goto (t := 31) dX10_may_27 (by decide) ?_
      cases h
      exact ev_ireturn rfl dX10_may_31
  · replace h := ab_pos hc3 h
    refine ev_iconst (x := (-1)) dX10_may_13 (by decide) ?_
    refine ev_goto (t := 31) dX10_may_14 (by decide) ?_
    cases h
    exact ev_ireturn rfl dX10_may_31

noncomputable def mi_X10_set (M : ab_M) (x1 : Int32) (x2 : Int32) : Option (Int32 × ab_M) :=
  (mi_X10_isWant (ab_pi M 69 0 0) x1).bind fun q1 =>
  if q1 = 0 then
    some ((-1), (ab_pi M 69 0 0))
  else
    (mi_X10_isIn (ab_pi M 69 0 0) (Int32.toInt64 x2) (-1) 29).bind fun q4 =>
    if q4 = 0 then
      some ((-1), (ab_pi M 69 0 0))
    else
      ab_chk (vp_in x1 16) <|
      ((if 0 ≤ x2 then
        some x2
      else
        some (-2)) : Option (Int32)).bind fun q8 =>
      ab_chk (vp_in x1 16) <|
      some ((ab_pi M 69 0 0).1 80 (x1).toNatClampNeg, (ab_pi (ab_pi M 69 0 0) 80 (x1).toNatClampNeg q8))

set_option maxHeartbeats 4000000 in
set_option maxRecDepth 100000 in
theorem co_X10_set {l : Launch} {D : va_G} {ac : Nat → ClassId} (M : ab_M) (x1 : Int32) (x2 : Int32) (z : Int32 × ab_M) (h : mi_X10_set M x1 x2 = some z) : ab_Con l D ac 2 me_X10_set 0 0 [.ref 69, .int x1, .int x2] ab_SH M (some (.int z.1), ab_SH, z.2) := by
  refine ab_intro (lv := [some (.ref 69), some (.int x1), some (.int x2), none]) (by decide) rfl (Nat.le_of_ble_eq_true rfl) rfl ?_
  unfold mi_X10_set at h
  refine ev_aload_n dX10_set_0 rfl ?_
  refine ev_iconst (x := 0) dX10_set_1 (by decide) ?_
  refine ev_puti fl_RX10_102 sh_69 (by decide) (by decide) rfl rfl rfl dX10_set_2 ?_
  refine ev_aload_n dX10_set_5 rfl ?_
  refine ev_iload_n dX10_set_6 rfl ?_
  obtain ⟨q1, hv2, h⟩ := ab_bind h
  refine ev_callV (st := []) (co_X10_isWant (ab_pi M 69 0 0) x1 _ hv2) mv_X10_isWant sh_69 ml_RX10_147 dX10_set_7 (by decide) rfl (Nat.le_of_ble_eq_true rfl) ⟨Nat.le_refl _, Nat.le_refl _⟩ ?_
  refine ev_if_eq (t := 27) dX10_set_10 (by decide) (fun hc3 => ?_) (fun hc3 => ?_)
  · replace h := ab_pos hc3 h
    refine ev_iconst (x := (-1)) dX10_set_27 (by decide) ?_
    cases h
    exact ev_ireturn rfl dX10_set_28
  · replace h := ab_neg hc3 h
    refine ev_iload_n dX10_set_13 rfl ?_
    refine ev_i2l dX10_set_14 ?_
    refine ev_ldc2 kw_RX10_150 dX10_set_15 ?_
    refine ev_ldc2 kw_RX10_152 dX10_set_18 ?_
    obtain ⟨q4, hv5, h⟩ := ab_bind h
    refine ev_callS (st := []) (co_X10_isIn (ab_pi M 69 0 0) (Int32.toInt64 x2) (-1) 29 _ hv5) mv_X10_isIn ml_RX10_113 dX10_set_21 (by decide) rfl (Nat.le_of_ble_eq_true rfl) ⟨Nat.le_refl _, Nat.le_refl _⟩ ?_
    refine ev_if_ne (t := 29) dX10_set_24 (by decide) (fun hc6 => ?_) (fun hc6 => ?_)
    · replace h := ab_neg hc6 h
      refine ev_aload_n dX10_set_29 rfl ?_
      refine ev_getr (o' := 80) fl_RX10_40 sh_69 (by decide) (by decide) rfl rfl dX10_set_30 ?_
      refine ev_iload_n dX10_set_33 rfl ?_
      obtain ⟨hb7, h⟩ := ab_chk_some h
      refine ev_iaload sh_80 hb7 dX10_set_34 ?_
      refine ev_istore_n dX10_set_35 (Nat.le_of_ble_eq_true rfl) rfl rfl ?_
      refine ev_aload_n dX10_set_36 rfl ?_
      refine ev_getr (o' := 80) fl_RX10_40 sh_69 (by decide) (by decide) rfl rfl dX10_set_37 ?_
      refine ev_iload_n dX10_set_40 rfl ?_
      refine ev_iload_n dX10_set_41 rfl ?_
      obtain ⟨q8, hq9, h⟩ := ab_bind h
      have hJ10 : ab_Ev l D ac 2 me_X10_set ab_SH.length 0 0 (some (.int z.1), ab_SH, z.2) 0 0 ab_SH 51 [some (.ref 69), some (.int x1), some (.int x2), some (.int ((ab_pi M 69 0 0).1 80 (x1).toNatClampNeg))] [.int q8, .int x1, .ref 80] (ab_pi M 69 0 0) := by
        obtain ⟨hb12, h⟩ := ab_chk_some h
        refine ev_iastore sh_80 hb12 dX10_set_51 ?_
        refine ev_iload_n dX10_set_52 rfl ?_
        cases h
        exact ev_ireturn rfl dX10_set_53
      refine ev_if_ge (t := 50) dX10_set_42 (by decide) (fun hc11 => ?_) (fun hc11 => ?_)
      · replace hq9 := ab_pos hc11 hq9
        refine ev_iload_n dX10_set_50 rfl ?_
        cases hq9
        exact hJ10
      · replace hq9 := ab_neg hc11 hq9
        refine ev_bipush (x := (-2)) dX10_set_45 (by decide) ?_
        refine ev_goto (t := 51) dX10_set_47 (by decide) ?_
        cases hq9
        exact hJ10
    · replace h := ab_pos hc6 h
      refine ev_iconst (x := (-1)) dX10_set_27 (by decide) ?_
      cases h
      exact ev_ireturn rfl dX10_set_28

noncomputable def mi_X10_channel (M : ab_M) (x1 : Int32) : Option (Int32 × ab_M) :=
  (mi_X10_isWant (ab_pi M 69 0 0) x1).bind fun q1 =>
  if q1 = 0 then
    some ((-1), (ab_pi M 69 0 0))
  else
    ab_chk (vp_in x1 16) <|
    some ((ab_pi M 69 0 0).1 80 (x1).toNatClampNeg, (ab_pi M 69 0 0))

set_option maxHeartbeats 4000000 in
set_option maxRecDepth 100000 in
theorem co_X10_channel {l : Launch} {D : va_G} {ac : Nat → ClassId} (M : ab_M) (x1 : Int32) (z : Int32 × ab_M) (h : mi_X10_channel M x1 = some z) : ab_Con l D ac 2 me_X10_channel 0 0 [.ref 69, .int x1] ab_SH M (some (.int z.1), ab_SH, z.2) := by
  refine ab_intro (lv := [some (.ref 69), some (.int x1)]) (by decide) rfl (Nat.le_of_ble_eq_true rfl) rfl ?_
  unfold mi_X10_channel at h
  refine ev_aload_n dX10_channel_0 rfl ?_
  refine ev_iconst (x := 0) dX10_channel_1 (by decide) ?_
  refine ev_puti fl_RX10_102 sh_69 (by decide) (by decide) rfl rfl rfl dX10_channel_2 ?_
  refine ev_aload_n dX10_channel_5 rfl ?_
  refine ev_iload_n dX10_channel_6 rfl ?_
  obtain ⟨q1, hv2, h⟩ := ab_bind h
  refine ev_callV (st := []) (co_X10_isWant (ab_pi M 69 0 0) x1 _ hv2) mv_X10_isWant sh_69 ml_RX10_147 dX10_channel_7 (by decide) rfl (Nat.le_of_ble_eq_true rfl) ⟨Nat.le_refl _, Nat.le_refl _⟩ ?_
  refine ev_if_eq (t := 22) dX10_channel_10 (by decide) (fun hc3 => ?_) (fun hc3 => ?_)
  · replace h := ab_pos hc3 h
    refine ev_iconst (x := (-1)) dX10_channel_22 (by decide) ?_
    cases h
    exact ev_ireturn rfl dX10_channel_23
  · replace h := ab_neg hc3 h
    refine ev_aload_n dX10_channel_13 rfl ?_
    refine ev_getr (o' := 80) fl_RX10_40 sh_69 (by decide) (by decide) rfl rfl dX10_channel_14 ?_
    refine ev_iload_n dX10_channel_17 rfl ?_
    obtain ⟨hb4, h⟩ := ab_chk_some h
    refine ev_iaload sh_80 hb4 dX10_channel_18 ?_
    refine ev_goto (t := 23) dX10_channel_19 (by decide) ?_
    cases h
    exact ev_ireturn rfl dX10_channel_23

noncomputable def mi_X10_of (M : ab_M) (x1 : Int32) : Option (Int32 × ab_M) :=
  (mi_X10_isWant (ab_pi M 69 0 0) x1).bind fun q1 =>
  if q1 = 0 then
    some ((-1), (ab_pi M 69 0 0))
  else
    ab_chk (vp_in x1 16) <|
    some ((ab_pi M 69 0 0).1 78 (x1).toNatClampNeg, (ab_pi M 69 0 0))

set_option maxHeartbeats 4000000 in
set_option maxRecDepth 100000 in
theorem co_X10_of {l : Launch} {D : va_G} {ac : Nat → ClassId} (M : ab_M) (x1 : Int32) (z : Int32 × ab_M) (h : mi_X10_of M x1 = some z) : ab_Con l D ac 2 me_X10_of 0 0 [.ref 69, .int x1] ab_SH M (some (.int z.1), ab_SH, z.2) := by
  refine ab_intro (lv := [some (.ref 69), some (.int x1)]) (by decide) rfl (Nat.le_of_ble_eq_true rfl) rfl ?_
  unfold mi_X10_of at h
  refine ev_aload_n dX10_of_0 rfl ?_
  refine ev_iconst (x := 0) dX10_of_1 (by decide) ?_
  refine ev_puti fl_RX10_102 sh_69 (by decide) (by decide) rfl rfl rfl dX10_of_2 ?_
  refine ev_aload_n dX10_of_5 rfl ?_
  refine ev_iload_n dX10_of_6 rfl ?_
  obtain ⟨q1, hv2, h⟩ := ab_bind h
  refine ev_callV (st := []) (co_X10_isWant (ab_pi M 69 0 0) x1 _ hv2) mv_X10_isWant sh_69 ml_RX10_147 dX10_of_7 (by decide) rfl (Nat.le_of_ble_eq_true rfl) ⟨Nat.le_refl _, Nat.le_refl _⟩ ?_
  refine ev_if_eq (t := 22) dX10_of_10 (by decide) (fun hc3 => ?_) (fun hc3 => ?_)
  · replace h := ab_pos hc3 h
    refine ev_iconst (x := (-1)) dX10_of_22 (by decide) ?_
    cases h
    exact ev_ireturn rfl dX10_of_23
  · replace h := ab_neg hc3 h
    refine ev_aload_n dX10_of_13 rfl ?_
    refine ev_getr (o' := 78) fl_RX10_34 sh_69 (by decide) (by decide) rfl rfl dX10_of_14 ?_
    refine ev_iload_n dX10_of_17 rfl ?_
    obtain ⟨hb4, h⟩ := ab_chk_some h
    refine ev_iaload sh_78 hb4 dX10_of_18 ?_
    refine ev_goto (t := 23) dX10_of_19 (by decide) ?_
    cases h
    exact ev_ireturn rfl dX10_of_23

noncomputable def mi_X10_channelOf (M : ab_M) (x1 : Int32) (x2 : Int32) : Option (Int32) :=
  ab_chk (vp_in x1 16) <|
  ((if x2 = 0 then
    some 0
  else
    ab_chk (vp_in x1 16) <|
    ab_chk (vp_in (M.1 78 (x1).toNatClampNeg) 12) <|
    some (M.1 77 (M.1 78 (x1).toNatClampNeg).toNatClampNeg)) : Option (Int32)).bind fun q2 =>
  some ((M.1 80 (x1).toNatClampNeg) + q2)

set_option maxHeartbeats 4000000 in
set_option maxRecDepth 100000 in
theorem co_X10_channelOf {l : Launch} {D : va_G} {ac : Nat → ClassId} (M : ab_M) (x1 : Int32) (x2 : Int32) (z : Int32) (h : mi_X10_channelOf M x1 x2 = some z) : ab_Con l D ac 1 me_X10_channelOf 0 0 [.ref 69, .int x1, .int x2] ab_SH M (some (.int z), ab_SH, M) := by
  refine ab_intro (lv := [some (.ref 69), some (.int x1), some (.int x2)]) (by decide) rfl (Nat.le_of_ble_eq_true rfl) rfl ?_
  unfold mi_X10_channelOf at h
  refine ev_aload_n dX10_channelOf_0 rfl ?_
  refine ev_getr (o' := 80) fl_RX10_40 sh_69 (by decide) (by decide) rfl rfl dX10_channelOf_1 ?_
  refine ev_iload_n dX10_channelOf_4 rfl ?_
  obtain ⟨hb1, h⟩ := ab_chk_some h
  refine ev_iaload sh_80 hb1 dX10_channelOf_5 ?_
  refine ev_iload_n dX10_channelOf_6 rfl ?_
  obtain ⟨q2, hq3, h⟩ := ab_bind h
  have hJ4 : ab_Ev l D ac 1 me_X10_channelOf ab_SH.length 0 0 (some (.int z), ab_SH, M) 0 0 ab_SH 25 [some (.ref 69), some (.int x1), some (.int x2)] [.int q2, .int (M.1 80 (x1).toNatClampNeg)] M := by
    refine ev_iadd dX10_channelOf_25 ?_
    cases h
    exact ev_ireturn rfl dX10_channelOf_26
  refine ev_if_ne (t := 14) dX10_channelOf_7 (by decide) (fun hc5 => ?_) (fun hc5 => ?_)
  · replace hq3 := ab_neg hc5 hq3
    refine ev_aload_n dX10_channelOf_14 rfl ?_
    refine ev_getr (o' := 77) fl_RX10_31 sh_69 (by decide) (by decide) rfl rfl dX10_channelOf_15 ?_
    refine ev_aload_n dX10_channelOf_18 rfl ?_
    refine ev_getr (o' := 78) fl_RX10_34 sh_69 (by decide) (by decide) rfl rfl dX10_channelOf_19 ?_
    refine ev_iload_n dX10_channelOf_22 rfl ?_
    obtain ⟨hb6, hq3⟩ := ab_chk_some hq3
    refine ev_iaload sh_78 hb6 dX10_channelOf_23 ?_
    obtain ⟨hb7, hq3⟩ := ab_chk_some hq3
    refine ev_iaload sh_77 hb7 dX10_channelOf_24 ?_
    cases hq3
    exact hJ4
  · replace hq3 := ab_pos hc5 hq3
    refine ev_iconst (x := 0) dX10_channelOf_10 (by decide) ?_
    refine ev_goto (t := 25) dX10_channelOf_11 (by decide) ?_
    cases hq3
    exact hJ4

noncomputable def mi_X10_channelsOf (M : ab_M) (x1 : Int32) : Option (Int32) :=
  ab_chk (vp_in x1 16) <|
  if 0 ≤ (M.1 80 (x1).toNatClampNeg) then
    ab_chk (vp_in x1 16) <|
    ab_chk (vp_in (M.1 78 (x1).toNatClampNeg) 12) <|
    if (M.1 70 (M.1 78 (x1).toNatClampNeg).toNatClampNeg) = 1 then
      some 2
    else
      some 1
  else
    some 0

set_option maxHeartbeats 4000000 in
set_option maxRecDepth 100000 in
theorem co_X10_channelsOf {l : Launch} {D : va_G} {ac : Nat → ClassId} (M : ab_M) (x1 : Int32) (z : Int32) (h : mi_X10_channelsOf M x1 = some z) : ab_Con l D ac 1 me_X10_channelsOf 0 0 [.ref 69, .int x1] ab_SH M (some (.int z), ab_SH, M) := by
  refine ab_intro (lv := [some (.ref 69), some (.int x1)]) (by decide) rfl (Nat.le_of_ble_eq_true rfl) rfl ?_
  unfold mi_X10_channelsOf at h
  refine ev_aload_n dX10_channelsOf_0 rfl ?_
  refine ev_getr (o' := 80) fl_RX10_40 sh_69 (by decide) (by decide) rfl rfl dX10_channelsOf_1 ?_
  refine ev_iload_n dX10_channelsOf_4 rfl ?_
  obtain ⟨hb1, h⟩ := ab_chk_some h
  refine ev_iaload sh_80 hb1 dX10_channelsOf_5 ?_
  refine ev_if_ge (t := 13) dX10_channelsOf_6 (by decide) (fun hc2 => ?_) (fun hc2 => ?_)
  · replace h := ab_pos hc2 h
    refine ev_aload_n dX10_channelsOf_13 rfl ?_
    refine ev_getr (o' := 70) fl_RX10_7 sh_69 (by decide) (by decide) rfl rfl dX10_channelsOf_14 ?_
    refine ev_aload_n dX10_channelsOf_17 rfl ?_
    refine ev_getr (o' := 78) fl_RX10_34 sh_69 (by decide) (by decide) rfl rfl dX10_channelsOf_18 ?_
    refine ev_iload_n dX10_channelsOf_21 rfl ?_
    obtain ⟨hb3, h⟩ := ab_chk_some h
    refine ev_iaload sh_78 hb3 dX10_channelsOf_22 ?_
    obtain ⟨hb4, h⟩ := ab_chk_some h
    refine ev_iaload sh_70 hb4 dX10_channelsOf_23 ?_
    refine ev_iconst (x := 1) dX10_channelsOf_24 (by decide) ?_
    refine ev_icmp_ne (t := 32) dX10_channelsOf_25 (by decide) (fun hc5 => ?_) (fun hc5 => ?_)
    · replace h := ab_neg hc5 h
      refine ev_iconst (x := 1) dX10_channelsOf_32 (by decide) ?_
      cases h
      exact ev_ireturn rfl dX10_channelsOf_33
    · replace h := ab_pos hc5 h
      refine ev_iconst (x := 2) dX10_channelsOf_28 (by decide) ?_
      refine ev_goto (t := 33) dX10_channelsOf_29 (by decide) ?_
      cases h
      exact ev_ireturn rfl dX10_channelsOf_33
  · replace h := ab_neg hc2 h
    refine ev_iconst (x := 0) dX10_channelsOf_9 (by decide) ?_
    refine ev_goto (t := 33) dX10_channelsOf_10 (by decide) ?_
    cases h
    exact ev_ireturn rfl dX10_channelsOf_33

noncomputable def mi_X10_lack_36 : Nat → ab_M → Int32 → Int32 → Int32 → Int32 → Int32 → Int32 → Option (Int32 × Int32)
  | 0, _, _, _, _, _, _, _ => none
  | n + 1, M, x1, x2, x3, x4, x5, x6 =>
    (mi_X10_channelsOf M x2).bind fun q8 =>
    if q8 ≤ x6 then
      some (x4, x6)
    else
      (mi_X10_channelOf M x1 x5).bind fun q11 =>
      (mi_X10_channelOf M x2 x6).bind fun q13 =>
      ((if 0 ≤ (q11 - q13) then
        some (q11 - q13)
      else
        some (-(q11 - q13))) : Option (Int32)).bind fun q15 =>
      ((if (x3 - q15) ≤ x4 then
        some x4
      else
        some (x3 - q15)) : Option (Int32)).bind fun q19 =>
      mi_X10_lack_36 n M x1 x2 x3 q19 x5 (x6 + 1)

set_option maxHeartbeats 4000000 in
set_option maxRecDepth 100000 in
theorem lp_X10_lack_36 {l : Launch} {D : va_G} {ac : Nat → ClassId} {n0 : Nat} {r : ab_Rs} : ∀ (n : Nat) (M : ab_M) (x1 : Int32) (x2 : Int32) (x3 : Int32) (x4 : Int32) (x5 : Int32) (x6 : Int32) (q : Int32 × Int32) (h : mi_X10_lack_36 n M x1 x2 x3 x4 x5 x6 = some q) (kk : ab_Ev l D ac 3 me_X10_lack n0 0 0 r 0 0 ab_SH 102 [some (.ref 69), some (.int x1), some (.int x2), some (.int x3), some (.int q.1), some (.int x5), some (.int q.2), none, none] [] M), ab_Ev l D ac 3 me_X10_lack n0 0 0 r 0 0 ab_SH 36 [some (.ref 69), some (.int x1), some (.int x2), some (.int x3), some (.int x4), some (.int x5), some (.int x6), none, none] [] M := by
  intro n
  induction n with
  | zero =>
    intro M x1 x2 x3 x4 x5 x6 q h kk
    cases h
  | succ n ih =>
    intro M x1 x2 x3 x4 x5 x6 q h kk
    unfold mi_X10_lack_36 at h
    refine ev_iload dX10_lack_36 rfl ?_
    refine ev_aload_n dX10_lack_38 rfl ?_
    refine ev_iload_n dX10_lack_39 rfl ?_
    obtain ⟨q8, hv9, h⟩ := ab_bind h
    refine ev_callV (st := [.int x6]) (co_X10_channelsOf M x2 _ hv9) mv_X10_channelsOf sh_69 ml_RX10_179 dX10_lack_40 (by decide) rfl (Nat.le_of_ble_eq_true rfl) ⟨Nat.le_refl _, Nat.le_refl _⟩ ?_
    refine ev_icmp_ge (t := 102) dX10_lack_43 (by decide) (fun hc10 => ?_) (fun hc10 => ?_)
    · replace h := ab_pos hc10 h
      cases h
      exact kk
    · replace h := ab_neg hc10 h
      refine ev_aload_n dX10_lack_46 rfl ?_
      refine ev_iload_n dX10_lack_47 rfl ?_
      refine ev_iload dX10_lack_48 rfl ?_
      obtain ⟨q11, hv12, h⟩ := ab_bind h
      refine ev_callV (st := []) (co_X10_channelOf M x1 x5 _ hv12) mv_X10_channelOf sh_69 ml_RX10_182 dX10_lack_50 (by decide) rfl (Nat.le_of_ble_eq_true rfl) ⟨Nat.le_refl _, Nat.le_refl _⟩ ?_
      refine ev_aload_n dX10_lack_53 rfl ?_
      refine ev_iload_n dX10_lack_54 rfl ?_
      refine ev_iload dX10_lack_55 rfl ?_
      obtain ⟨q13, hv14, h⟩ := ab_bind h
      refine ev_callV (st := [.int q11]) (co_X10_channelOf M x2 x6 _ hv14) mv_X10_channelOf sh_69 ml_RX10_182 dX10_lack_57 (by decide) rfl (Nat.le_of_ble_eq_true rfl) ⟨Nat.le_refl _, Nat.le_refl _⟩ ?_
      refine ev_isub dX10_lack_60 ?_
      refine ev_istore dX10_lack_61 (Nat.le_of_ble_eq_true rfl) rfl rfl ?_
      refine ev_iload_n dX10_lack_63 rfl ?_
      refine ev_iload dX10_lack_64 rfl ?_
      obtain ⟨q15, hq16, h⟩ := ab_bind h
      have hJ17 : ab_Ev l D ac 3 me_X10_lack n0 0 0 r 0 0 ab_SH 77 [some (.ref 69), some (.int x1), some (.int x2), some (.int x3), some (.int x4), some (.int x5), some (.int x6), some (.int (q11 - q13)), none] [.int q15, .int x3] M := by
        refine ev_isub dX10_lack_77 ?_
        refine ev_istore dX10_lack_78 (Nat.le_of_ble_eq_true rfl) rfl rfl ?_
        refine ev_iload dX10_lack_80 rfl ?_
        refine ev_iload dX10_lack_82 rfl ?_
        obtain ⟨q19, hq20, h⟩ := ab_bind h
        have hJ21 : ab_Ev l D ac 3 me_X10_lack n0 0 0 r 0 0 ab_SH 94 [some (.ref 69), some (.int x1), some (.int x2), some (.int x3), some (.int x4), some (.int x5), some (.int x6), some (.int (q11 - q13)), some (.int (x3 - q15))] [.int q19] M := by
          refine ev_istore dX10_lack_94 (Nat.le_of_ble_eq_true rfl) rfl rfl ?_
          refine ev_iinc (y := x6 + 1) dX10_lack_96 rfl (by first | rfl | decide) rfl rfl ?_
          refine ev_goto (t := 36) dX10_lack_99 (by decide) ?_
          refine ev_drop (lv' := [some (.ref 69), some (.int x1), some (.int x2), some (.int x3), some (.int q19), some (.int x5), some (.int (x6 + 1)), none, none]) (ab_sub_k (ab_sub_k (ab_sub_k (ab_sub_k (ab_sub_k (ab_sub_k (ab_sub_k (ab_sub_d (ab_sub_d ab_sub_nil))))))))) ?_
          exact ih M x1 x2 x3 q19 x5 (x6 + 1) _ h kk
        refine ev_icmp_le (t := 92) dX10_lack_84 (by decide) (fun hc22 => ?_) (fun hc22 => ?_)
        · replace hq20 := ab_pos hc22 hq20
          refine ev_iload dX10_lack_92 rfl ?_
          cases hq20
          exact hJ21
        · replace hq20 := ab_neg hc22 hq20
          refine ev_iload dX10_lack_87 rfl ?_
          refine ev_goto (t := 94) dX10_lack_89 (by decide) ?_
          cases hq20
          exact hJ21
      refine ev_if_ge (t := 75) dX10_lack_66 (by decide) (fun hc18 => ?_) (fun hc18 => ?_)
      · replace hq16 := ab_pos hc18 hq16
        refine ev_iload dX10_lack_75 rfl ?_
        cases hq16
        exact hJ17
      · replace hq16 := ab_neg hc18 hq16
        refine ev_iload dX10_lack_69 rfl ?_
        refine ev_ineg dX10_lack_71 ?_
        refine ev_goto (t := 77) dX10_lack_72 (by decide) ?_
        cases hq16
        exact hJ17

noncomputable def mi_X10_lack_23 : Nat → ab_M → Int32 → Int32 → Int32 → Int32 → Int32 → Option (Int32 × Int32)
  | 0, _, _, _, _, _, _ => none
  | n + 1, M, x1, x2, x3, x4, x5 =>
    (mi_X10_channelsOf M x1).bind fun q5 =>
    if q5 ≤ x5 then
      some (x4, x5)
    else
      (mi_X10_lack_36 ab_F M x1 x2 x3 x4 x5 0).bind fun q23 =>
      mi_X10_lack_23 n M x1 x2 x3 q23.1 (x5 + 1)

set_option maxHeartbeats 4000000 in
set_option maxRecDepth 100000 in
theorem lp_X10_lack_23 {l : Launch} {D : va_G} {ac : Nat → ClassId} {n0 : Nat} {r : ab_Rs} : ∀ (n : Nat) (M : ab_M) (x1 : Int32) (x2 : Int32) (x3 : Int32) (x4 : Int32) (x5 : Int32) (q : Int32 × Int32) (h : mi_X10_lack_23 n M x1 x2 x3 x4 x5 = some q) (kk : ab_Ev l D ac 3 me_X10_lack n0 0 0 r 0 0 ab_SH 108 [some (.ref 69), some (.int x1), some (.int x2), some (.int x3), some (.int q.1), some (.int q.2), none, none, none] [] M), ab_Ev l D ac 3 me_X10_lack n0 0 0 r 0 0 ab_SH 23 [some (.ref 69), some (.int x1), some (.int x2), some (.int x3), some (.int x4), some (.int x5), none, none, none] [] M := by
  intro n
  induction n with
  | zero =>
    intro M x1 x2 x3 x4 x5 q h kk
    cases h
  | succ n ih =>
    intro M x1 x2 x3 x4 x5 q h kk
    unfold mi_X10_lack_23 at h
    refine ev_iload dX10_lack_23 rfl ?_
    refine ev_aload_n dX10_lack_25 rfl ?_
    refine ev_iload_n dX10_lack_26 rfl ?_
    obtain ⟨q5, hv6, h⟩ := ab_bind h
    refine ev_callV (st := [.int x5]) (co_X10_channelsOf M x1 _ hv6) mv_X10_channelsOf sh_69 ml_RX10_179 dX10_lack_27 (by decide) rfl (Nat.le_of_ble_eq_true rfl) ⟨Nat.le_refl _, Nat.le_refl _⟩ ?_
    refine ev_icmp_ge (t := 108) dX10_lack_30 (by decide) (fun hc7 => ?_) (fun hc7 => ?_)
    · replace h := ab_pos hc7 h
      cases h
      exact kk
    · replace h := ab_neg hc7 h
      refine ev_iconst (x := 0) dX10_lack_33 (by decide) ?_
      refine ev_istore dX10_lack_34 (Nat.le_of_ble_eq_true rfl) rfl rfl ?_
      obtain ⟨q23, hq24, h⟩ := ab_bind h
      refine lp_X10_lack_36 _ M x1 x2 x3 x4 x5 0 _ hq24 ?_
      refine ev_iinc (y := x5 + 1) dX10_lack_102 rfl (by first | rfl | decide) rfl rfl ?_
      refine ev_goto (t := 23) dX10_lack_105 (by decide) ?_
      refine ev_drop (lv' := [some (.ref 69), some (.int x1), some (.int x2), some (.int x3), some (.int q23.1), some (.int (x5 + 1)), none, none, none]) (ab_sub_k (ab_sub_k (ab_sub_k (ab_sub_k (ab_sub_k (ab_sub_k (ab_sub_d (ab_sub_k (ab_sub_k ab_sub_nil))))))))) ?_
      exact ih M x1 x2 x3 q23.1 (x5 + 1) _ h kk

noncomputable def mi_X10_lack (M : ab_M) (x1 : Int32) (x2 : Int32) : Option (Int32) :=
  ab_chk (vp_in x1 16) <|
  ab_chk (vp_in x2 16) <|
  (mi_X10_barOf M (M.1 78 (x1).toNatClampNeg) (M.1 78 (x2).toNatClampNeg)).bind fun q3 =>
  (mi_X10_lack_23 ab_F M x1 x2 q3 0 0).bind fun q25 =>
  some q25.1

set_option maxHeartbeats 4000000 in
set_option maxRecDepth 100000 in
theorem co_X10_lack {l : Launch} {D : va_G} {ac : Nat → ClassId} (M : ab_M) (x1 : Int32) (x2 : Int32) (z : Int32) (h : mi_X10_lack M x1 x2 = some z) : ab_Con l D ac 3 me_X10_lack 0 0 [.ref 69, .int x1, .int x2] ab_SH M (some (.int z), ab_SH, M) := by
  refine ab_intro (lv := [some (.ref 69), some (.int x1), some (.int x2), none, none, none, none, none, none]) (by decide) rfl (Nat.le_of_ble_eq_true rfl) rfl ?_
  unfold mi_X10_lack at h
  refine ev_aload_n dX10_lack_0 rfl ?_
  refine ev_aload_n dX10_lack_1 rfl ?_
  refine ev_getr (o' := 78) fl_RX10_34 sh_69 (by decide) (by decide) rfl rfl dX10_lack_2 ?_
  refine ev_iload_n dX10_lack_5 rfl ?_
  obtain ⟨hb1, h⟩ := ab_chk_some h
  refine ev_iaload sh_78 hb1 dX10_lack_6 ?_
  refine ev_aload_n dX10_lack_7 rfl ?_
  refine ev_getr (o' := 78) fl_RX10_34 sh_69 (by decide) (by decide) rfl rfl dX10_lack_8 ?_
  refine ev_iload_n dX10_lack_11 rfl ?_
  obtain ⟨hb2, h⟩ := ab_chk_some h
  refine ev_iaload sh_78 hb2 dX10_lack_12 ?_
  obtain ⟨q3, hv4, h⟩ := ab_bind h
  refine ev_callV (st := []) (co_X10_barOf M (M.1 78 (x1).toNatClampNeg) (M.1 78 (x2).toNatClampNeg) _ hv4) mv_X10_barOf sh_69 ml_RX10_135 dX10_lack_13 (by decide) rfl (Nat.le_of_ble_eq_true rfl) ⟨Nat.le_refl _, Nat.le_refl _⟩ ?_
  refine ev_istore_n dX10_lack_16 (Nat.le_of_ble_eq_true rfl) rfl rfl ?_
  refine ev_iconst (x := 0) dX10_lack_17 (by decide) ?_
  refine ev_istore dX10_lack_18 (Nat.le_of_ble_eq_true rfl) rfl rfl ?_
  refine ev_iconst (x := 0) dX10_lack_20 (by decide) ?_
  refine ev_istore dX10_lack_21 (Nat.le_of_ble_eq_true rfl) rfl rfl ?_
  obtain ⟨q25, hq26, h⟩ := ab_bind h
  refine lp_X10_lack_23 _ M x1 x2 q3 0 0 _ hq26 ?_
  refine ev_iload dX10_lack_108 rfl ?_
  cases h
  exact ev_ireturn rfl dX10_lack_110

noncomputable def mi_X10_areIn (M : ab_M) (x1 : Int32) (x2 : Int32) (x3 : Int32) : Option (Int32) :=
  if x1 = x2 then
    some 0
  else
    if x2 = x3 then
      some 0
    else
      if x1 = x3 then
        some 0
      else
        (mi_X10_square M x1 x2).bind fun q4 =>
        if (M.1 69 19) < q4 then
          some 0
        else
          (mi_X10_square M x2 x3).bind fun q7 =>
          if (M.1 69 19) < q7 then
            some 0
          else
            (mi_X10_square M x1 x3).bind fun q10 =>
            if (M.1 69 19) < q10 then
              some 0
            else
              some 1

set_option maxHeartbeats 4000000 in
set_option maxRecDepth 100000 in
theorem co_X10_areIn {l : Launch} {D : va_G} {ac : Nat → ClassId} (M : ab_M) (x1 : Int32) (x2 : Int32) (x3 : Int32) (z : Int32) (h : mi_X10_areIn M x1 x2 x3 = some z) : ab_Con l D ac 2 me_X10_areIn 0 0 [.ref 69, .int x1, .int x2, .int x3] ab_SH M (some (.int z), ab_SH, M) := by
  refine ab_intro (lv := [some (.ref 69), some (.int x1), some (.int x2), some (.int x3)]) (by decide) rfl (Nat.le_of_ble_eq_true rfl) rfl ?_
  unfold mi_X10_areIn at h
  refine ev_iload_n dX10_areIn_0 rfl ?_
  refine ev_iload_n dX10_areIn_1 rfl ?_
  refine ev_icmp_eq (t := 58) dX10_areIn_2 (by decide) (fun hc1 => ?_) (fun hc1 => ?_)
  · replace h := ab_pos hc1 h
    refine ev_iconst (x := 0) dX10_areIn_58 (by decide) ?_
    cases h
    exact ev_zreturn rfl (Or.inl rfl) dX10_areIn_59
  · replace h := ab_neg hc1 h
    refine ev_iload_n dX10_areIn_5 rfl ?_
    refine ev_iload_n dX10_areIn_6 rfl ?_
    refine ev_icmp_eq (t := 58) dX10_areIn_7 (by decide) (fun hc2 => ?_) (fun hc2 => ?_)
    · replace h := ab_pos hc2 h
      refine ev_iconst (x := 0) dX10_areIn_58 (by decide) ?_
      cases h
      exact ev_zreturn rfl (Or.inl rfl) dX10_areIn_59
    · replace h := ab_neg hc2 h
      refine ev_iload_n dX10_areIn_10 rfl ?_
      refine ev_iload_n dX10_areIn_11 rfl ?_
      refine ev_icmp_eq (t := 58) dX10_areIn_12 (by decide) (fun hc3 => ?_) (fun hc3 => ?_)
      · replace h := ab_pos hc3 h
        refine ev_iconst (x := 0) dX10_areIn_58 (by decide) ?_
        cases h
        exact ev_zreturn rfl (Or.inl rfl) dX10_areIn_59
      · replace h := ab_neg hc3 h
        refine ev_aload_n dX10_areIn_15 rfl ?_
        refine ev_iload_n dX10_areIn_16 rfl ?_
        refine ev_iload_n dX10_areIn_17 rfl ?_
        obtain ⟨q4, hv5, h⟩ := ab_bind h
        refine ev_callV (st := []) (co_X10_square M x1 x2 _ hv5) mv_X10_square sh_69 ml_RX10_128 dX10_areIn_18 (by decide) rfl (Nat.le_of_ble_eq_true rfl) ⟨Nat.le_refl _, Nat.le_refl _⟩ ?_
        refine ev_aload_n dX10_areIn_21 rfl ?_
        refine ev_geti fl_RX10_56 sh_69 (by decide) (by decide) rfl dX10_areIn_22 ?_
        refine ev_icmp_gt (t := 58) dX10_areIn_25 (by decide) (fun hc6 => ?_) (fun hc6 => ?_)
        · replace h := ab_pos hc6 h
          refine ev_iconst (x := 0) dX10_areIn_58 (by decide) ?_
          cases h
          exact ev_zreturn rfl (Or.inl rfl) dX10_areIn_59
        · replace h := ab_neg hc6 h
          refine ev_aload_n dX10_areIn_28 rfl ?_
          refine ev_iload_n dX10_areIn_29 rfl ?_
          refine ev_iload_n dX10_areIn_30 rfl ?_
          obtain ⟨q7, hv8, h⟩ := ab_bind h
          refine ev_callV (st := []) (co_X10_square M x2 x3 _ hv8) mv_X10_square sh_69 ml_RX10_128 dX10_areIn_31 (by decide) rfl (Nat.le_of_ble_eq_true rfl) ⟨Nat.le_refl _, Nat.le_refl _⟩ ?_
          refine ev_aload_n dX10_areIn_34 rfl ?_
          refine ev_geti fl_RX10_56 sh_69 (by decide) (by decide) rfl dX10_areIn_35 ?_
          refine ev_icmp_gt (t := 58) dX10_areIn_38 (by decide) (fun hc9 => ?_) (fun hc9 => ?_)
          · replace h := ab_pos hc9 h
            refine ev_iconst (x := 0) dX10_areIn_58 (by decide) ?_
            cases h
            exact ev_zreturn rfl (Or.inl rfl) dX10_areIn_59
          · replace h := ab_neg hc9 h
            refine ev_aload_n dX10_areIn_41 rfl ?_
            refine ev_iload_n dX10_areIn_42 rfl ?_
            refine ev_iload_n dX10_areIn_43 rfl ?_
            obtain ⟨q10, hv11, h⟩ := ab_bind h
            refine ev_callV (st := []) (co_X10_square M x1 x3 _ hv11) mv_X10_square sh_69 ml_RX10_128 dX10_areIn_44 (by decide) rfl (Nat.le_of_ble_eq_true rfl) ⟨Nat.le_refl _, Nat.le_refl _⟩ ?_
            refine ev_aload_n dX10_areIn_47 rfl ?_
            refine ev_geti fl_RX10_56 sh_69 (by decide) (by decide) rfl dX10_areIn_48 ?_
            refine ev_icmp_gt (t := 58) dX10_areIn_51 (by decide) (fun hc12 => ?_) (fun hc12 => ?_)
            · replace h := ab_pos hc12 h
              refine ev_iconst (x := 0) dX10_areIn_58 (by decide) ?_
              cases h
              exact ev_zreturn rfl (Or.inl rfl) dX10_areIn_59
            · replace h := ab_neg hc12 h
              refine ev_iconst (x := 1) dX10_areIn_54 (by decide) ?_
              refine ev_goto (t := 59) dX10_areIn_55 (by decide) ?_
              cases h
              exact ev_zreturn rfl (Or.inr rfl) dX10_areIn_59

noncomputable def mi_X10_middles_32 : Nat → ab_M → Int32 → Int32 → Int32 → Int32 → Int32 → Int32 → Int32 → Option (Int32 × Int32)
  | 0, _, _, _, _, _, _, _, _ => none
  | n + 1, M, x1, x2, x3, x4, x5, x6, x7 =>
    (mi_X10_channelsOf M x3).bind fun q7 =>
    if q7 ≤ x7 then
      some (x4, x7)
    else
      (mi_X10_channelOf M x2 x6).bind fun q10 =>
      (mi_X10_channelOf M x3 x7).bind fun q12 =>
      (mi_X10_channelOf M x1 x5).bind fun q14 =>
      ((if (q10 + q12) = ((2 : Int32) * q14) then
        some 1
      else
        some 0) : Option (Int32)).bind fun q16 =>
      mi_X10_middles_32 n M x1 x2 x3 (x4 + q16) x5 x6 (x7 + 1)

set_option maxHeartbeats 4000000 in
set_option maxRecDepth 100000 in
theorem lp_X10_middles_32 {l : Launch} {D : va_G} {ac : Nat → ClassId} {n0 : Nat} {r : ab_Rs} : ∀ (n : Nat) (M : ab_M) (x1 : Int32) (x2 : Int32) (x3 : Int32) (x4 : Int32) (x5 : Int32) (x6 : Int32) (x7 : Int32) (q : Int32 × Int32) (h : mi_X10_middles_32 n M x1 x2 x3 x4 x5 x6 x7 = some q) (kk : ab_Ev l D ac 2 me_X10_middles n0 0 0 r 0 0 ab_SH 85 [some (.ref 69), some (.int x1), some (.int x2), some (.int x3), some (.int q.1), some (.int x5), some (.int x6), some (.int q.2)] [] M), ab_Ev l D ac 2 me_X10_middles n0 0 0 r 0 0 ab_SH 32 [some (.ref 69), some (.int x1), some (.int x2), some (.int x3), some (.int x4), some (.int x5), some (.int x6), some (.int x7)] [] M := by
  intro n
  induction n with
  | zero =>
    intro M x1 x2 x3 x4 x5 x6 x7 q h kk
    cases h
  | succ n ih =>
    intro M x1 x2 x3 x4 x5 x6 x7 q h kk
    unfold mi_X10_middles_32 at h
    refine ev_iload dX10_middles_32 rfl ?_
    refine ev_aload_n dX10_middles_34 rfl ?_
    refine ev_iload_n dX10_middles_35 rfl ?_
    obtain ⟨q7, hv8, h⟩ := ab_bind h
    refine ev_callV (st := [.int x7]) (co_X10_channelsOf M x3 _ hv8) mv_X10_channelsOf sh_69 ml_RX10_179 dX10_middles_36 (by decide) rfl (Nat.le_of_ble_eq_true rfl) ⟨Nat.le_refl _, Nat.le_refl _⟩ ?_
    refine ev_icmp_ge (t := 85) dX10_middles_39 (by decide) (fun hc9 => ?_) (fun hc9 => ?_)
    · replace h := ab_pos hc9 h
      cases h
      exact kk
    · replace h := ab_neg hc9 h
      refine ev_iload dX10_middles_42 rfl ?_
      refine ev_aload_n dX10_middles_44 rfl ?_
      refine ev_iload_n dX10_middles_45 rfl ?_
      refine ev_iload dX10_middles_46 rfl ?_
      obtain ⟨q10, hv11, h⟩ := ab_bind h
      refine ev_callV (st := [.int x4]) (co_X10_channelOf M x2 x6 _ hv11) mv_X10_channelOf sh_69 ml_RX10_182 dX10_middles_48 (by decide) rfl (Nat.le_of_ble_eq_true rfl) ⟨Nat.le_refl _, Nat.le_refl _⟩ ?_
      refine ev_aload_n dX10_middles_51 rfl ?_
      refine ev_iload_n dX10_middles_52 rfl ?_
      refine ev_iload dX10_middles_53 rfl ?_
      obtain ⟨q12, hv13, h⟩ := ab_bind h
      refine ev_callV (st := [.int q10, .int x4]) (co_X10_channelOf M x3 x7 _ hv13) mv_X10_channelOf sh_69 ml_RX10_182 dX10_middles_55 (by decide) rfl (Nat.le_of_ble_eq_true rfl) ⟨Nat.le_refl _, Nat.le_refl _⟩ ?_
      refine ev_iadd dX10_middles_58 ?_
      refine ev_iconst (x := 2) dX10_middles_59 (by decide) ?_
      refine ev_aload_n dX10_middles_60 rfl ?_
      refine ev_iload_n dX10_middles_61 rfl ?_
      refine ev_iload dX10_middles_62 rfl ?_
      obtain ⟨q14, hv15, h⟩ := ab_bind h
      refine ev_callV (st := [.int 2, .int (q10 + q12), .int x4]) (co_X10_channelOf M x1 x5 _ hv15) mv_X10_channelOf sh_69 ml_RX10_182 dX10_middles_64 (by decide) rfl (Nat.le_of_ble_eq_true rfl) ⟨Nat.le_refl _, Nat.le_refl _⟩ ?_
      refine ev_imul dX10_middles_67 ?_
      obtain ⟨q16, hq17, h⟩ := ab_bind h
      have hJ18 : ab_Ev l D ac 2 me_X10_middles n0 0 0 r 0 0 ab_SH 76 [some (.ref 69), some (.int x1), some (.int x2), some (.int x3), some (.int x4), some (.int x5), some (.int x6), some (.int x7)] [.int q16, .int x4] M := by
        refine ev_iadd dX10_middles_76 ?_
        refine ev_istore dX10_middles_77 (Nat.le_of_ble_eq_true rfl) rfl rfl ?_
        refine ev_iinc (y := x7 + 1) dX10_middles_79 rfl (by first | rfl | decide) rfl rfl ?_
        refine ev_goto (t := 32) dX10_middles_82 (by decide) ?_
        exact ih M x1 x2 x3 (x4 + q16) x5 x6 (x7 + 1) _ h kk
      refine ev_icmp_ne (t := 75) dX10_middles_68 (by decide) (fun hc19 => ?_) (fun hc19 => ?_)
      · replace hq17 := ab_neg hc19 hq17
        refine ev_iconst (x := 0) dX10_middles_75 (by decide) ?_
        cases hq17
        exact hJ18
      · replace hq17 := ab_pos hc19 hq17
        refine ev_iconst (x := 1) dX10_middles_71 (by decide) ?_
        refine ev_goto (t := 76) dX10_middles_72 (by decide) ?_
        cases hq17
        exact hJ18

noncomputable def mi_X10_middles_19 : Nat → ab_M → Int32 → Int32 → Int32 → Int32 → Int32 → Int32 → Option (Int32 × Int32)
  | 0, _, _, _, _, _, _, _ => none
  | n + 1, M, x1, x2, x3, x4, x5, x6 =>
    (mi_X10_channelsOf M x2).bind fun q4 =>
    if q4 ≤ x6 then
      some (x4, x6)
    else
      (mi_X10_middles_32 ab_F M x1 x2 x3 x4 x5 x6 0).bind fun q20 =>
      mi_X10_middles_19 n M x1 x2 x3 q20.1 x5 (x6 + 1)

set_option maxHeartbeats 4000000 in
set_option maxRecDepth 100000 in
theorem lp_X10_middles_19 {l : Launch} {D : va_G} {ac : Nat → ClassId} {n0 : Nat} {r : ab_Rs} : ∀ (n : Nat) (M : ab_M) (x1 : Int32) (x2 : Int32) (x3 : Int32) (x4 : Int32) (x5 : Int32) (x6 : Int32) (q : Int32 × Int32) (h : mi_X10_middles_19 n M x1 x2 x3 x4 x5 x6 = some q) (kk : ab_Ev l D ac 2 me_X10_middles n0 0 0 r 0 0 ab_SH 91 [some (.ref 69), some (.int x1), some (.int x2), some (.int x3), some (.int q.1), some (.int x5), some (.int q.2), none] [] M), ab_Ev l D ac 2 me_X10_middles n0 0 0 r 0 0 ab_SH 19 [some (.ref 69), some (.int x1), some (.int x2), some (.int x3), some (.int x4), some (.int x5), some (.int x6), none] [] M := by
  intro n
  induction n with
  | zero =>
    intro M x1 x2 x3 x4 x5 x6 q h kk
    cases h
  | succ n ih =>
    intro M x1 x2 x3 x4 x5 x6 q h kk
    unfold mi_X10_middles_19 at h
    refine ev_iload dX10_middles_19 rfl ?_
    refine ev_aload_n dX10_middles_21 rfl ?_
    refine ev_iload_n dX10_middles_22 rfl ?_
    obtain ⟨q4, hv5, h⟩ := ab_bind h
    refine ev_callV (st := [.int x6]) (co_X10_channelsOf M x2 _ hv5) mv_X10_channelsOf sh_69 ml_RX10_179 dX10_middles_23 (by decide) rfl (Nat.le_of_ble_eq_true rfl) ⟨Nat.le_refl _, Nat.le_refl _⟩ ?_
    refine ev_icmp_ge (t := 91) dX10_middles_26 (by decide) (fun hc6 => ?_) (fun hc6 => ?_)
    · replace h := ab_pos hc6 h
      cases h
      exact kk
    · replace h := ab_neg hc6 h
      refine ev_iconst (x := 0) dX10_middles_29 (by decide) ?_
      refine ev_istore dX10_middles_30 (Nat.le_of_ble_eq_true rfl) rfl rfl ?_
      obtain ⟨q20, hq21, h⟩ := ab_bind h
      refine lp_X10_middles_32 _ M x1 x2 x3 x4 x5 x6 0 _ hq21 ?_
      refine ev_iinc (y := x6 + 1) dX10_middles_85 rfl (by first | rfl | decide) rfl rfl ?_
      refine ev_goto (t := 19) dX10_middles_88 (by decide) ?_
      refine ev_drop (lv' := [some (.ref 69), some (.int x1), some (.int x2), some (.int x3), some (.int q20.1), some (.int x5), some (.int (x6 + 1)), none]) (ab_sub_k (ab_sub_k (ab_sub_k (ab_sub_k (ab_sub_k (ab_sub_k (ab_sub_k (ab_sub_d ab_sub_nil)))))))) ?_
      exact ih M x1 x2 x3 q20.1 x5 (x6 + 1) _ h kk

noncomputable def mi_X10_middles_6 : Nat → ab_M → Int32 → Int32 → Int32 → Int32 → Int32 → Option (Int32 × Int32)
  | 0, _, _, _, _, _, _ => none
  | n + 1, M, x1, x2, x3, x4, x5 =>
    (mi_X10_channelsOf M x1).bind fun q1 =>
    if q1 ≤ x5 then
      some (x4, x5)
    else
      (mi_X10_middles_19 ab_F M x1 x2 x3 x4 x5 0).bind fun q22 =>
      mi_X10_middles_6 n M x1 x2 x3 q22.1 (x5 + 1)

set_option maxHeartbeats 4000000 in
set_option maxRecDepth 100000 in
theorem lp_X10_middles_6 {l : Launch} {D : va_G} {ac : Nat → ClassId} {n0 : Nat} {r : ab_Rs} : ∀ (n : Nat) (M : ab_M) (x1 : Int32) (x2 : Int32) (x3 : Int32) (x4 : Int32) (x5 : Int32) (q : Int32 × Int32) (h : mi_X10_middles_6 n M x1 x2 x3 x4 x5 = some q) (kk : ab_Ev l D ac 2 me_X10_middles n0 0 0 r 0 0 ab_SH 97 [some (.ref 69), some (.int x1), some (.int x2), some (.int x3), some (.int q.1), some (.int q.2), none, none] [] M), ab_Ev l D ac 2 me_X10_middles n0 0 0 r 0 0 ab_SH 6 [some (.ref 69), some (.int x1), some (.int x2), some (.int x3), some (.int x4), some (.int x5), none, none] [] M := by
  intro n
  induction n with
  | zero =>
    intro M x1 x2 x3 x4 x5 q h kk
    cases h
  | succ n ih =>
    intro M x1 x2 x3 x4 x5 q h kk
    unfold mi_X10_middles_6 at h
    refine ev_iload dX10_middles_6 rfl ?_
    refine ev_aload_n dX10_middles_8 rfl ?_
    refine ev_iload_n dX10_middles_9 rfl ?_
    obtain ⟨q1, hv2, h⟩ := ab_bind h
    refine ev_callV (st := [.int x5]) (co_X10_channelsOf M x1 _ hv2) mv_X10_channelsOf sh_69 ml_RX10_179 dX10_middles_10 (by decide) rfl (Nat.le_of_ble_eq_true rfl) ⟨Nat.le_refl _, Nat.le_refl _⟩ ?_
    refine ev_icmp_ge (t := 97) dX10_middles_13 (by decide) (fun hc3 => ?_) (fun hc3 => ?_)
    · replace h := ab_pos hc3 h
      cases h
      exact kk
    · replace h := ab_neg hc3 h
      refine ev_iconst (x := 0) dX10_middles_16 (by decide) ?_
      refine ev_istore dX10_middles_17 (Nat.le_of_ble_eq_true rfl) rfl rfl ?_
      obtain ⟨q22, hq23, h⟩ := ab_bind h
      refine lp_X10_middles_19 _ M x1 x2 x3 x4 x5 0 _ hq23 ?_
      refine ev_iinc (y := x5 + 1) dX10_middles_91 rfl (by first | rfl | decide) rfl rfl ?_
      refine ev_goto (t := 6) dX10_middles_94 (by decide) ?_
      refine ev_drop (lv' := [some (.ref 69), some (.int x1), some (.int x2), some (.int x3), some (.int q22.1), some (.int (x5 + 1)), none, none]) (ab_sub_k (ab_sub_k (ab_sub_k (ab_sub_k (ab_sub_k (ab_sub_k (ab_sub_d (ab_sub_k ab_sub_nil)))))))) ?_
      exact ih M x1 x2 x3 q22.1 (x5 + 1) _ h kk

noncomputable def mi_X10_middles (M : ab_M) (x1 : Int32) (x2 : Int32) (x3 : Int32) : Option (Int32) :=
  (mi_X10_middles_6 ab_F M x1 x2 x3 0 0).bind fun q24 =>
  some q24.1

set_option maxHeartbeats 4000000 in
set_option maxRecDepth 100000 in
theorem co_X10_middles {l : Launch} {D : va_G} {ac : Nat → ClassId} (M : ab_M) (x1 : Int32) (x2 : Int32) (x3 : Int32) (z : Int32) (h : mi_X10_middles M x1 x2 x3 = some z) : ab_Con l D ac 2 me_X10_middles 0 0 [.ref 69, .int x1, .int x2, .int x3] ab_SH M (some (.int z), ab_SH, M) := by
  refine ab_intro (lv := [some (.ref 69), some (.int x1), some (.int x2), some (.int x3), none, none, none, none]) (by decide) rfl (Nat.le_of_ble_eq_true rfl) rfl ?_
  unfold mi_X10_middles at h
  refine ev_iconst (x := 0) dX10_middles_0 (by decide) ?_
  refine ev_istore dX10_middles_1 (Nat.le_of_ble_eq_true rfl) rfl rfl ?_
  refine ev_iconst (x := 0) dX10_middles_3 (by decide) ?_
  refine ev_istore dX10_middles_4 (Nat.le_of_ble_eq_true rfl) rfl rfl ?_
  obtain ⟨q24, hq25, h⟩ := ab_bind h
  refine lp_X10_middles_6 _ M x1 x2 x3 0 0 _ hq25 ?_
  refine ev_iload dX10_middles_97 rfl ?_
  cases h
  exact ev_ireturn rfl dX10_middles_99

noncomputable def mi_X10_brokenOf_109 : Nat → ab_M → Int32 → Int32 → Int32 → Int32 → Int32 → Option (Int32 × Int32)
  | 0, _, _, _, _, _, _ => none
  | n + 1, M, x1, x2, x3, x4, x6 =>
    if (M.1 69 10) ≤ x6 then
      some (x2, x6)
    else
      if x1 = 2 then
        ab_chk (vp_in x6 16) <|
        ab_chk (vp_in x3 16) <|
        ab_chk (vp_in x4 16) <|
        (mi_X10_areIn M (M.1 78 (x6).toNatClampNeg) (M.1 78 (x3).toNatClampNeg) (M.1 78 (x4).toNatClampNeg)).bind fun q29 =>
        ((if q29 = 0 then
          some x2
        else
          (mi_X10_middles M x6 x3 x4).bind fun q35 =>
          (mi_X10_middles M x3 x6 x4).bind fun q37 =>
          (mi_X10_middles M x4 x6 x3).bind fun q39 =>
          some (x2 + ((q35 + q37) + q39))) : Option (Int32)).bind fun q31 =>
        mi_X10_brokenOf_109 n M x1 q31 x3 x4 (x6 + 1)
      else
        some (x2, x6)

set_option maxHeartbeats 4000000 in
set_option maxRecDepth 100000 in
theorem lp_X10_brokenOf_109 {l : Launch} {D : va_G} {ac : Nat → ClassId} {n0 : Nat} {r : ab_Rs} : ∀ (n : Nat) (M : ab_M) (x1 : Int32) (x2 : Int32) (x3 : Int32) (x4 : Int32) (x6 : Int32) (q : Int32 × Int32) (h : mi_X10_brokenOf_109 n M x1 x2 x3 x4 x6 = some q) (kk : ab_Ev l D ac 4 me_X10_brokenOf n0 0 0 r 0 0 ab_SH 188 [some (.ref 69), some (.int x1), some (.int q.1), some (.int x3), some (.int x4), none, some (.int q.2)] [] M), ab_Ev l D ac 4 me_X10_brokenOf n0 0 0 r 0 0 ab_SH 109 [some (.ref 69), some (.int x1), some (.int x2), some (.int x3), some (.int x4), none, some (.int x6)] [] M := by
  intro n
  induction n with
  | zero =>
    intro M x1 x2 x3 x4 x6 q h kk
    cases h
  | succ n ih =>
    intro M x1 x2 x3 x4 x6 q h kk
    unfold mi_X10_brokenOf_109 at h
    refine ev_iload dX10_brokenOf_109 rfl ?_
    refine ev_aload_n dX10_brokenOf_111 rfl ?_
    refine ev_geti fl_RX10_108 sh_69 (by decide) (by decide) rfl dX10_brokenOf_112 ?_
    refine ev_icmp_ge (t := 188) dX10_brokenOf_115 (by decide) (fun hc24 => ?_) (fun hc24 => ?_)
    · replace h := ab_pos hc24 h
      cases h
      exact kk
    · replace h := ab_neg hc24 h
      refine ev_iload_n dX10_brokenOf_118 rfl ?_
      refine ev_iconst (x := 2) dX10_brokenOf_119 (by decide) ?_
      refine ev_icmp_ne (t := 188) dX10_brokenOf_120 (by decide) (fun hc25 => ?_) (fun hc25 => ?_)
      · replace h := ab_neg hc25 h
        cases h
        exact kk
      · replace h := ab_pos hc25 h
        refine ev_aload_n dX10_brokenOf_123 rfl ?_
        refine ev_aload_n dX10_brokenOf_124 rfl ?_
        refine ev_getr (o' := 78) fl_RX10_34 sh_69 (by decide) (by decide) rfl rfl dX10_brokenOf_125 ?_
        refine ev_iload dX10_brokenOf_128 rfl ?_
        obtain ⟨hb26, h⟩ := ab_chk_some h
        refine ev_iaload sh_78 hb26 dX10_brokenOf_130 ?_
        refine ev_aload_n dX10_brokenOf_131 rfl ?_
        refine ev_getr (o' := 78) fl_RX10_34 sh_69 (by decide) (by decide) rfl rfl dX10_brokenOf_132 ?_
        refine ev_iload_n dX10_brokenOf_135 rfl ?_
        obtain ⟨hb27, h⟩ := ab_chk_some h
        refine ev_iaload sh_78 hb27 dX10_brokenOf_136 ?_
        refine ev_aload_n dX10_brokenOf_137 rfl ?_
        refine ev_getr (o' := 78) fl_RX10_34 sh_69 (by decide) (by decide) rfl rfl dX10_brokenOf_138 ?_
        refine ev_iload dX10_brokenOf_141 rfl ?_
        obtain ⟨hb28, h⟩ := ab_chk_some h
        refine ev_iaload sh_78 hb28 dX10_brokenOf_143 ?_
        obtain ⟨q29, hv30, h⟩ := ab_bind h
        refine ev_callV (st := []) (co_X10_areIn M (M.1 78 (x6).toNatClampNeg) (M.1 78 (x3).toNatClampNeg) (M.1 78 (x4).toNatClampNeg) _ hv30) mv_X10_areIn sh_69 ml_RX10_188 dX10_brokenOf_144 (by decide) rfl (Nat.le_of_ble_eq_true rfl) ⟨Nat.le_refl _, Nat.le_refl _⟩ ?_
        obtain ⟨q31, hq32, h⟩ := ab_bind h
        have hJ33 : ab_Ev l D ac 4 me_X10_brokenOf n0 0 0 r 0 0 ab_SH 182 [some (.ref 69), some (.int x1), some (.int q31), some (.int x3), some (.int x4), none, some (.int x6)] [] M := by
          refine ev_iinc (y := x6 + 1) dX10_brokenOf_182 rfl (by first | rfl | decide) rfl rfl ?_
          refine ev_goto (t := 109) dX10_brokenOf_185 (by decide) ?_
          exact ih M x1 q31 x3 x4 (x6 + 1) _ h kk
        refine ev_if_eq (t := 182) dX10_brokenOf_147 (by decide) (fun hc34 => ?_) (fun hc34 => ?_)
        · replace hq32 := ab_pos hc34 hq32
          cases hq32
          exact hJ33
        · replace hq32 := ab_neg hc34 hq32
          refine ev_iload_n dX10_brokenOf_150 rfl ?_
          refine ev_aload_n dX10_brokenOf_151 rfl ?_
          refine ev_iload dX10_brokenOf_152 rfl ?_
          refine ev_iload_n dX10_brokenOf_154 rfl ?_
          refine ev_iload dX10_brokenOf_155 rfl ?_
          obtain ⟨q35, hv36, hq32⟩ := ab_bind hq32
          refine ev_callV (st := [.int x2]) (co_X10_middles M x6 x3 x4 _ hv36) mv_X10_middles sh_69 ml_RX10_192 dX10_brokenOf_157 (by decide) rfl (Nat.le_of_ble_eq_true rfl) ⟨Nat.le_refl _, Nat.le_refl _⟩ ?_
          refine ev_aload_n dX10_brokenOf_160 rfl ?_
          refine ev_iload_n dX10_brokenOf_161 rfl ?_
          refine ev_iload dX10_brokenOf_162 rfl ?_
          refine ev_iload dX10_brokenOf_164 rfl ?_
          obtain ⟨q37, hv38, hq32⟩ := ab_bind hq32
          refine ev_callV (st := [.int q35, .int x2]) (co_X10_middles M x3 x6 x4 _ hv38) mv_X10_middles sh_69 ml_RX10_192 dX10_brokenOf_166 (by decide) rfl (Nat.le_of_ble_eq_true rfl) ⟨Nat.le_refl _, Nat.le_refl _⟩ ?_
          refine ev_iadd dX10_brokenOf_169 ?_
          refine ev_aload_n dX10_brokenOf_170 rfl ?_
          refine ev_iload dX10_brokenOf_171 rfl ?_
          refine ev_iload dX10_brokenOf_173 rfl ?_
          refine ev_iload_n dX10_brokenOf_175 rfl ?_
          obtain ⟨q39, hv40, hq32⟩ := ab_bind hq32
          refine ev_callV (st := [.int (q35 + q37), .int x2]) (co_X10_middles M x4 x6 x3 _ hv40) mv_X10_middles sh_69 ml_RX10_192 dX10_brokenOf_176 (by decide) rfl (Nat.le_of_ble_eq_true rfl) ⟨Nat.le_refl _, Nat.le_refl _⟩ ?_
          refine ev_iadd dX10_brokenOf_179 ?_
          refine ev_iadd dX10_brokenOf_180 ?_
          refine ev_istore_n dX10_brokenOf_181 (Nat.le_of_ble_eq_true rfl) rfl rfl ?_
          cases hq32
          exact hJ33

noncomputable def mi_X10_brokenOf_53 : Nat → ab_M → Int32 → Int32 → Int32 → Int32 → Option (Int32 × Int32)
  | 0, _, _, _, _, _ => none
  | n + 1, M, x1, x2, x3, x4 =>
    if (M.1 69 10) ≤ x4 then
      some (x2, x4)
    else
      ((if 2 ≤ x1 then
        some 0
      else
        (mi_X10_lack M x3 x4).bind fun q17 =>
        some q17) : Option (Int32)).bind fun q13 =>
      ((if x1 = 1 then
        some q13
      else
        if q13 ≤ 0 then
          some 0
        else
          some 1) : Option (Int32)).bind fun q19 =>
      (mi_X10_brokenOf_109 ab_F M x1 (x2 + q19) x3 x4 (x4 + 1)).bind fun q41 =>
      mi_X10_brokenOf_53 n M x1 q41.1 x3 (x4 + 1)

set_option maxHeartbeats 4000000 in
set_option maxRecDepth 100000 in
theorem lp_X10_brokenOf_53 {l : Launch} {D : va_G} {ac : Nat → ClassId} {n0 : Nat} {r : ab_Rs} : ∀ (n : Nat) (M : ab_M) (x1 : Int32) (x2 : Int32) (x3 : Int32) (x4 : Int32) (q : Int32 × Int32) (h : mi_X10_brokenOf_53 n M x1 x2 x3 x4 = some q) (kk : ab_Ev l D ac 4 me_X10_brokenOf n0 0 0 r 0 0 ab_SH 194 [some (.ref 69), some (.int x1), some (.int q.1), some (.int x3), some (.int q.2), none, none] [] M), ab_Ev l D ac 4 me_X10_brokenOf n0 0 0 r 0 0 ab_SH 53 [some (.ref 69), some (.int x1), some (.int x2), some (.int x3), some (.int x4), none, none] [] M := by
  intro n
  induction n with
  | zero =>
    intro M x1 x2 x3 x4 q h kk
    cases h
  | succ n ih =>
    intro M x1 x2 x3 x4 q h kk
    unfold mi_X10_brokenOf_53 at h
    refine ev_iload dX10_brokenOf_53 rfl ?_
    refine ev_aload_n dX10_brokenOf_55 rfl ?_
    refine ev_geti fl_RX10_108 sh_69 (by decide) (by decide) rfl dX10_brokenOf_56 ?_
    refine ev_icmp_ge (t := 194) dX10_brokenOf_59 (by decide) (fun hc12 => ?_) (fun hc12 => ?_)
    · replace h := ab_pos hc12 h
      cases h
      exact kk
    · replace h := ab_neg hc12 h
      refine ev_iload_n dX10_brokenOf_62 rfl ?_
      refine ev_iconst (x := 2) dX10_brokenOf_63 (by decide) ?_
      obtain ⟨q13, hq14, h⟩ := ab_bind h
      have hJ15 : ab_Ev l D ac 4 me_X10_brokenOf n0 0 0 r 0 0 ab_SH 78 [some (.ref 69), some (.int x1), some (.int x2), some (.int x3), some (.int x4), none, none] [.int q13] M := by
        refine ev_istore dX10_brokenOf_78 (Nat.le_of_ble_eq_true rfl) rfl rfl ?_
        refine ev_iload_n dX10_brokenOf_80 rfl ?_
        refine ev_iload_n dX10_brokenOf_81 rfl ?_
        refine ev_iconst (x := 1) dX10_brokenOf_82 (by decide) ?_
        obtain ⟨q19, hq20, h⟩ := ab_bind h
        have hJ21 : ab_Ev l D ac 4 me_X10_brokenOf n0 0 0 r 0 0 ab_SH 101 [some (.ref 69), some (.int x1), some (.int x2), some (.int x3), some (.int x4), some (.int q13), none] [.int q19, .int x2] M := by
          refine ev_iadd dX10_brokenOf_101 ?_
          refine ev_istore_n dX10_brokenOf_102 (Nat.le_of_ble_eq_true rfl) rfl rfl ?_
          refine ev_iload dX10_brokenOf_103 rfl ?_
          refine ev_iconst (x := 1) dX10_brokenOf_105 (by decide) ?_
          refine ev_iadd dX10_brokenOf_106 ?_
          refine ev_istore dX10_brokenOf_107 (Nat.le_of_ble_eq_true rfl) rfl rfl ?_
          obtain ⟨q41, hq42, h⟩ := ab_bind h
          refine ev_drop (lv' := [some (.ref 69), some (.int x1), some (.int (x2 + q19)), some (.int x3), some (.int x4), none, some (.int (x4 + 1))]) (ab_sub_k (ab_sub_k (ab_sub_k (ab_sub_k (ab_sub_k (ab_sub_d (ab_sub_k ab_sub_nil))))))) ?_
          refine lp_X10_brokenOf_109 _ M x1 (x2 + q19) x3 x4 (x4 + 1) _ hq42 ?_
          refine ev_iinc (y := x4 + 1) dX10_brokenOf_188 rfl (by first | rfl | decide) rfl rfl ?_
          refine ev_goto (t := 53) dX10_brokenOf_191 (by decide) ?_
          refine ev_drop (lv' := [some (.ref 69), some (.int x1), some (.int q41.1), some (.int x3), some (.int (x4 + 1)), none, none]) (ab_sub_k (ab_sub_k (ab_sub_k (ab_sub_k (ab_sub_k (ab_sub_k (ab_sub_d ab_sub_nil))))))) ?_
          exact ih M x1 q41.1 x3 (x4 + 1) _ h kk
        refine ev_icmp_ne (t := 91) dX10_brokenOf_83 (by decide) (fun hc22 => ?_) (fun hc22 => ?_)
        · replace hq20 := ab_neg hc22 hq20
          refine ev_iload dX10_brokenOf_91 rfl ?_
          refine ev_if_le (t := 100) dX10_brokenOf_93 (by decide) (fun hc23 => ?_) (fun hc23 => ?_)
          · replace hq20 := ab_pos hc23 hq20
            refine ev_iconst (x := 0) dX10_brokenOf_100 (by decide) ?_
            cases hq20
            exact hJ21
          · replace hq20 := ab_neg hc23 hq20
            refine ev_iconst (x := 1) dX10_brokenOf_96 (by decide) ?_
            refine ev_goto (t := 101) dX10_brokenOf_97 (by decide) ?_
            cases hq20
            exact hJ21
        · replace hq20 := ab_pos hc22 hq20
          refine ev_iload dX10_brokenOf_86 rfl ?_
          refine ev_goto (t := 101) dX10_brokenOf_88 (by decide) ?_
          cases hq20
          exact hJ21
      refine ev_icmp_ge (t := 77) dX10_brokenOf_64 (by decide) (fun hc16 => ?_) (fun hc16 => ?_)
      · replace hq14 := ab_pos hc16 hq14
        refine ev_iconst (x := 0) dX10_brokenOf_77 (by decide) ?_
        cases hq14
        exact hJ15
      · replace hq14 := ab_neg hc16 hq14
        refine ev_aload_n dX10_brokenOf_67 rfl ?_
        refine ev_iload_n dX10_brokenOf_68 rfl ?_
        refine ev_iload dX10_brokenOf_69 rfl ?_
        obtain ⟨q17, hv18, hq14⟩ := ab_bind hq14
        refine ev_callV (st := []) (co_X10_lack M x3 x4 _ hv18) mv_X10_lack sh_69 ml_RX10_185 dX10_brokenOf_71 (by decide) rfl (Nat.le_of_ble_eq_true rfl) ⟨Nat.le_refl _, Nat.le_refl _⟩ ?_
        refine ev_goto (t := 78) dX10_brokenOf_74 (by decide) ?_
        cases hq14
        exact hJ15

noncomputable def mi_X10_brokenOf_4 : Nat → ab_M → Int32 → Int32 → Int32 → Option (Int32 × Int32)
  | 0, _, _, _, _ => none
  | n + 1, M, x1, x2, x3 =>
    if (M.1 69 10) ≤ x3 then
      some (x2, x3)
    else
      ((if x1 = 3 then
        ab_chk (vp_in x3 16) <|
        if (M.1 80 (x3).toNatClampNeg) < 0 then
          some 0
        else
          ab_chk (vp_in x3 16) <|
          (mi_X10_mayHave M x3 (M.1 80 (x3).toNatClampNeg)).bind fun q9 =>
          if q9 = 0 then
            some 1
          else
            some 0
      else
        some 0) : Option (Int32)).bind fun q2 =>
      (mi_X10_brokenOf_53 ab_F M x1 (x2 + q2) x3 (x3 + 1)).bind fun q43 =>
      mi_X10_brokenOf_4 n M x1 q43.1 (x3 + 1)

set_option maxHeartbeats 4000000 in
set_option maxRecDepth 100000 in
theorem lp_X10_brokenOf_4 {l : Launch} {D : va_G} {ac : Nat → ClassId} {n0 : Nat} {r : ab_Rs} : ∀ (n : Nat) (M : ab_M) (x1 : Int32) (x2 : Int32) (x3 : Int32) (q : Int32 × Int32) (h : mi_X10_brokenOf_4 n M x1 x2 x3 = some q) (kk : ab_Ev l D ac 4 me_X10_brokenOf n0 0 0 r 0 0 ab_SH 200 [some (.ref 69), some (.int x1), some (.int q.1), some (.int q.2), none, none, none] [] M), ab_Ev l D ac 4 me_X10_brokenOf n0 0 0 r 0 0 ab_SH 4 [some (.ref 69), some (.int x1), some (.int x2), some (.int x3), none, none, none] [] M := by
  intro n
  induction n with
  | zero =>
    intro M x1 x2 x3 q h kk
    cases h
  | succ n ih =>
    intro M x1 x2 x3 q h kk
    unfold mi_X10_brokenOf_4 at h
    refine ev_iload_n dX10_brokenOf_4 rfl ?_
    refine ev_aload_n dX10_brokenOf_5 rfl ?_
    refine ev_geti fl_RX10_108 sh_69 (by decide) (by decide) rfl dX10_brokenOf_6 ?_
    refine ev_icmp_ge (t := 200) dX10_brokenOf_9 (by decide) (fun hc1 => ?_) (fun hc1 => ?_)
    · replace h := ab_pos hc1 h
      cases h
      exact kk
    · replace h := ab_neg hc1 h
      refine ev_iload_n dX10_brokenOf_12 rfl ?_
      refine ev_iload_n dX10_brokenOf_13 rfl ?_
      refine ev_iconst (x := 3) dX10_brokenOf_14 (by decide) ?_
      obtain ⟨q2, hq3, h⟩ := ab_bind h
      have hJ4 : ab_Ev l D ac 4 me_X10_brokenOf n0 0 0 r 0 0 ab_SH 46 [some (.ref 69), some (.int x1), some (.int x2), some (.int x3), none, none, none] [.int q2, .int x2] M := by
        refine ev_iadd dX10_brokenOf_46 ?_
        refine ev_istore_n dX10_brokenOf_47 (Nat.le_of_ble_eq_true rfl) rfl rfl ?_
        refine ev_iload_n dX10_brokenOf_48 rfl ?_
        refine ev_iconst (x := 1) dX10_brokenOf_49 (by decide) ?_
        refine ev_iadd dX10_brokenOf_50 ?_
        refine ev_istore dX10_brokenOf_51 (Nat.le_of_ble_eq_true rfl) rfl rfl ?_
        obtain ⟨q43, hq44, h⟩ := ab_bind h
        refine lp_X10_brokenOf_53 _ M x1 (x2 + q2) x3 (x3 + 1) _ hq44 ?_
        refine ev_iinc (y := x3 + 1) dX10_brokenOf_194 rfl (by first | rfl | decide) rfl rfl ?_
        refine ev_goto (t := 4) dX10_brokenOf_197 (by decide) ?_
        refine ev_drop (lv' := [some (.ref 69), some (.int x1), some (.int q43.1), some (.int (x3 + 1)), none, none, none]) (ab_sub_k (ab_sub_k (ab_sub_k (ab_sub_k (ab_sub_d (ab_sub_k (ab_sub_k ab_sub_nil))))))) ?_
        exact ih M x1 q43.1 (x3 + 1) _ h kk
      refine ev_icmp_ne (t := 45) dX10_brokenOf_15 (by decide) (fun hc5 => ?_) (fun hc5 => ?_)
      · replace hq3 := ab_neg hc5 hq3
        refine ev_iconst (x := 0) dX10_brokenOf_45 (by decide) ?_
        cases hq3
        exact hJ4
      · replace hq3 := ab_pos hc5 hq3
        refine ev_aload_n dX10_brokenOf_18 rfl ?_
        refine ev_getr (o' := 80) fl_RX10_40 sh_69 (by decide) (by decide) rfl rfl dX10_brokenOf_19 ?_
        refine ev_iload_n dX10_brokenOf_22 rfl ?_
        obtain ⟨hb6, hq3⟩ := ab_chk_some hq3
        refine ev_iaload sh_80 hb6 dX10_brokenOf_23 ?_
        refine ev_if_lt (t := 45) dX10_brokenOf_24 (by decide) (fun hc7 => ?_) (fun hc7 => ?_)
        · replace hq3 := ab_pos hc7 hq3
          refine ev_iconst (x := 0) dX10_brokenOf_45 (by decide) ?_
          cases hq3
          exact hJ4
        · replace hq3 := ab_neg hc7 hq3
          refine ev_aload_n dX10_brokenOf_27 rfl ?_
          refine ev_iload_n dX10_brokenOf_28 rfl ?_
          refine ev_aload_n dX10_brokenOf_29 rfl ?_
          refine ev_getr (o' := 80) fl_RX10_40 sh_69 (by decide) (by decide) rfl rfl dX10_brokenOf_30 ?_
          refine ev_iload_n dX10_brokenOf_33 rfl ?_
          obtain ⟨hb8, hq3⟩ := ab_chk_some hq3
          refine ev_iaload sh_80 hb8 dX10_brokenOf_34 ?_
          obtain ⟨q9, hv10, hq3⟩ := ab_bind hq3
          refine ev_callV (st := [.int x2]) (co_X10_mayHave M x3 (M.1 80 (x3).toNatClampNeg) _ hv10) mv_X10_mayHave sh_69 ml_RX10_176 dX10_brokenOf_35 (by decide) rfl (Nat.le_of_ble_eq_true rfl) ⟨Nat.le_refl _, Nat.le_refl _⟩ ?_
          refine ev_if_ne (t := 45) dX10_brokenOf_38 (by decide) (fun hc11 => ?_) (fun hc11 => ?_)
          · replace hq3 := ab_neg hc11 hq3
            refine ev_iconst (x := 0) dX10_brokenOf_45 (by decide) ?_
            cases hq3
            exact hJ4
          · replace hq3 := ab_pos hc11 hq3
            refine ev_iconst (x := 1) dX10_brokenOf_41 (by decide) ?_
            refine ev_goto (t := 46) dX10_brokenOf_42 (by decide) ?_
            cases hq3
            exact hJ4

noncomputable def mi_X10_brokenOf (M : ab_M) (x1 : Int32) : Option (Int32) :=
  (mi_X10_brokenOf_4 ab_F M x1 0 0).bind fun q45 =>
  some q45.1

set_option maxHeartbeats 4000000 in
set_option maxRecDepth 100000 in
theorem co_X10_brokenOf {l : Launch} {D : va_G} {ac : Nat → ClassId} (M : ab_M) (x1 : Int32) (z : Int32) (h : mi_X10_brokenOf M x1 = some z) : ab_Con l D ac 4 me_X10_brokenOf 0 0 [.ref 69, .int x1] ab_SH M (some (.int z), ab_SH, M) := by
  refine ab_intro (lv := [some (.ref 69), some (.int x1), none, none, none, none, none]) (by decide) rfl (Nat.le_of_ble_eq_true rfl) rfl ?_
  unfold mi_X10_brokenOf at h
  refine ev_iconst (x := 0) dX10_brokenOf_0 (by decide) ?_
  refine ev_istore_n dX10_brokenOf_1 (Nat.le_of_ble_eq_true rfl) rfl rfl ?_
  refine ev_iconst (x := 0) dX10_brokenOf_2 (by decide) ?_
  refine ev_istore_n dX10_brokenOf_3 (Nat.le_of_ble_eq_true rfl) rfl rfl ?_
  obtain ⟨q45, hq46, h⟩ := ab_bind h
  refine lp_X10_brokenOf_4 _ M x1 0 0 _ hq46 ?_
  refine ev_iload_n dX10_brokenOf_200 rfl ?_
  cases h
  exact ev_ireturn rfl dX10_brokenOf_201

noncomputable def mi_X10_harmNow (M : ab_M) : Option (Int32) :=
  (mi_X10_brokenOf M 1).bind fun q1 =>
  (mi_X10_brokenOf M 2).bind fun q3 =>
  (mi_X10_brokenOf M 3).bind fun q5 =>
  some ((q1 + ((5 : Int32) * q3)) + ((10 : Int32) * q5))

set_option maxHeartbeats 4000000 in
set_option maxRecDepth 100000 in
theorem co_X10_harmNow {l : Launch} {D : va_G} {ac : Nat → ClassId} (M : ab_M) (z : Int32) (h : mi_X10_harmNow M = some z) : ab_Con l D ac 5 me_X10_harmNow 0 0 [.ref 69] ab_SH M (some (.int z), ab_SH, M) := by
  refine ab_intro (lv := [some (.ref 69)]) (by decide) rfl (Nat.le_of_ble_eq_true rfl) rfl ?_
  unfold mi_X10_harmNow at h
  refine ev_aload_n dX10_harmNow_0 rfl ?_
  refine ev_iconst (x := 1) dX10_harmNow_1 (by decide) ?_
  obtain ⟨q1, hv2, h⟩ := ab_bind h
  refine ev_callV (st := []) (co_X10_brokenOf M 1 _ hv2) mv_X10_brokenOf sh_69 ml_RX10_196 dX10_harmNow_2 (by decide) rfl (Nat.le_of_ble_eq_true rfl) ⟨Nat.le_refl _, Nat.le_refl _⟩ ?_
  refine ev_iconst (x := 5) dX10_harmNow_5 (by decide) ?_
  refine ev_aload_n dX10_harmNow_6 rfl ?_
  refine ev_iconst (x := 2) dX10_harmNow_7 (by decide) ?_
  obtain ⟨q3, hv4, h⟩ := ab_bind h
  refine ev_callV (st := [.int 5, .int q1]) (co_X10_brokenOf M 2 _ hv4) mv_X10_brokenOf sh_69 ml_RX10_196 dX10_harmNow_8 (by decide) rfl (Nat.le_of_ble_eq_true rfl) ⟨Nat.le_refl _, Nat.le_refl _⟩ ?_
  refine ev_imul dX10_harmNow_11 ?_
  refine ev_iadd dX10_harmNow_12 ?_
  refine ev_bipush (x := 10) dX10_harmNow_13 (by decide) ?_
  refine ev_aload_n dX10_harmNow_15 rfl ?_
  refine ev_iconst (x := 3) dX10_harmNow_16 (by decide) ?_
  obtain ⟨q5, hv6, h⟩ := ab_bind h
  refine ev_callV (st := [.int 10, .int (q1 + ((5 : Int32) * q3))]) (co_X10_brokenOf M 3 _ hv6) mv_X10_brokenOf sh_69 ml_RX10_196 dX10_harmNow_17 (by decide) rfl (Nat.le_of_ble_eq_true rfl) ⟨Nat.le_refl _, Nat.le_refl _⟩ ?_
  refine ev_imul dX10_harmNow_20 ?_
  refine ev_iadd dX10_harmNow_21 ?_
  cases h
  exact ev_ireturn rfl dX10_harmNow_22

noncomputable def mi_X10_harm (M : ab_M) : Option (Int32 × ab_M) :=
  (mi_X10_harmNow (ab_pi M 69 0 0)).bind fun q1 =>
  some (q1, (ab_pi M 69 0 0))

set_option maxHeartbeats 4000000 in
set_option maxRecDepth 100000 in
theorem co_X10_harm {l : Launch} {D : va_G} {ac : Nat → ClassId} (M : ab_M) (z : Int32 × ab_M) (h : mi_X10_harm M = some z) : ab_Con l D ac 6 me_X10_harm 0 0 [.ref 69] ab_SH M (some (.int z.1), ab_SH, z.2) := by
  refine ab_intro (lv := [some (.ref 69)]) (by decide) rfl (Nat.le_of_ble_eq_true rfl) rfl ?_
  unfold mi_X10_harm at h
  refine ev_aload_n dX10_harm_0 rfl ?_
  refine ev_iconst (x := 0) dX10_harm_1 (by decide) ?_
  refine ev_puti fl_RX10_102 sh_69 (by decide) (by decide) rfl rfl rfl dX10_harm_2 ?_
  refine ev_aload_n dX10_harm_5 rfl ?_
  obtain ⟨q1, hv2, h⟩ := ab_bind h
  refine ev_callV (st := []) (co_X10_harmNow (ab_pi M 69 0 0) _ hv2) mv_X10_harmNow sh_69 ml_RX10_199 dX10_harm_6 (by decide) rfl (Nat.le_of_ble_eq_true rfl) ⟨Nat.le_refl _, Nat.le_refl _⟩ ?_
  cases h
  exact ev_ireturn rfl dX10_harm_9

noncomputable def mi_X10_kept_9 : Nat → ab_M → Int32 → Int32 → Option (Int32 × Int32)
  | 0, _, _, _ => none
  | n + 1, M, x1, x2 =>
    if (M.1 69 10) ≤ x2 then
      some (x1, x2)
    else
      ((if x1 = 0 then
        some 0
      else
        ab_chk (vp_in x2 16) <|
        if (M.1 80 (x2).toNatClampNeg) < 0 then
          some 0
        else
          some 1) : Option (Int32)).bind fun q2 =>
      mi_X10_kept_9 n M q2 (x2 + 1)

set_option maxHeartbeats 4000000 in
set_option maxRecDepth 100000 in
theorem lp_X10_kept_9 {l : Launch} {D : va_G} {ac : Nat → ClassId} {n0 : Nat} {r : ab_Rs} : ∀ (n : Nat) (M : ab_M) (x1 : Int32) (x2 : Int32) (q : Int32 × Int32) (h : mi_X10_kept_9 n M x1 x2 = some q) (kk : ab_Ev l D ac 6 me_X10_kept n0 0 0 r 0 0 ab_SH 42 [some (.ref 69), some (.int q.1), some (.int q.2)] [] M), ab_Ev l D ac 6 me_X10_kept n0 0 0 r 0 0 ab_SH 9 [some (.ref 69), some (.int x1), some (.int x2)] [] M := by
  intro n
  induction n with
  | zero =>
    intro M x1 x2 q h kk
    cases h
  | succ n ih =>
    intro M x1 x2 q h kk
    unfold mi_X10_kept_9 at h
    refine ev_iload_n dX10_kept_9 rfl ?_
    refine ev_aload_n dX10_kept_10 rfl ?_
    refine ev_geti fl_RX10_108 sh_69 (by decide) (by decide) rfl dX10_kept_11 ?_
    refine ev_icmp_ge (t := 42) dX10_kept_14 (by decide) (fun hc1 => ?_) (fun hc1 => ?_)
    · replace h := ab_pos hc1 h
      cases h
      exact kk
    · replace h := ab_neg hc1 h
      refine ev_iload_n dX10_kept_17 rfl ?_
      obtain ⟨q2, hq3, h⟩ := ab_bind h
      have hJ4 : ab_Ev l D ac 6 me_X10_kept n0 0 0 r 0 0 ab_SH 35 [some (.ref 69), some (.int x1), some (.int x2)] [.int q2] M := by
        refine ev_istore_n dX10_kept_35 (Nat.le_of_ble_eq_true rfl) rfl rfl ?_
        refine ev_iinc (y := x2 + 1) dX10_kept_36 rfl (by first | rfl | decide) rfl rfl ?_
        refine ev_goto (t := 9) dX10_kept_39 (by decide) ?_
        exact ih M q2 (x2 + 1) _ h kk
      refine ev_if_eq (t := 34) dX10_kept_18 (by decide) (fun hc5 => ?_) (fun hc5 => ?_)
      · replace hq3 := ab_pos hc5 hq3
        refine ev_iconst (x := 0) dX10_kept_34 (by decide) ?_
        cases hq3
        exact hJ4
      · replace hq3 := ab_neg hc5 hq3
        refine ev_aload_n dX10_kept_21 rfl ?_
        refine ev_getr (o' := 80) fl_RX10_40 sh_69 (by decide) (by decide) rfl rfl dX10_kept_22 ?_
        refine ev_iload_n dX10_kept_25 rfl ?_
        obtain ⟨hb6, hq3⟩ := ab_chk_some hq3
        refine ev_iaload sh_80 hb6 dX10_kept_26 ?_
        refine ev_if_lt (t := 34) dX10_kept_27 (by decide) (fun hc7 => ?_) (fun hc7 => ?_)
        · replace hq3 := ab_pos hc7 hq3
          refine ev_iconst (x := 0) dX10_kept_34 (by decide) ?_
          cases hq3
          exact hJ4
        · replace hq3 := ab_neg hc7 hq3
          refine ev_iconst (x := 1) dX10_kept_30 (by decide) ?_
          refine ev_goto (t := 35) dX10_kept_31 (by decide) ?_
          cases hq3
          exact hJ4

noncomputable def mi_X10_kept (M : ab_M) : Option (Int32 × ab_M) :=
  (mi_X10_kept_9 ab_F (ab_pi M 69 0 0) 1 0).bind fun q8 =>
  if q8.1 = 0 then
    some (0, (ab_pi M 69 0 0))
  else
    (mi_X10_harmNow (ab_pi M 69 0 0)).bind fun q11 =>
    if q11 = 0 then
      some (1, (ab_pi M 69 0 0))
    else
      some (0, (ab_pi M 69 0 0))

set_option maxHeartbeats 4000000 in
set_option maxRecDepth 100000 in
theorem co_X10_kept {l : Launch} {D : va_G} {ac : Nat → ClassId} (M : ab_M) (z : Int32 × ab_M) (h : mi_X10_kept M = some z) : ab_Con l D ac 6 me_X10_kept 0 0 [.ref 69] ab_SH M (some (.int z.1), ab_SH, z.2) := by
  refine ab_intro (lv := [some (.ref 69), none, none]) (by decide) rfl (Nat.le_of_ble_eq_true rfl) rfl ?_
  unfold mi_X10_kept at h
  refine ev_aload_n dX10_kept_0 rfl ?_
  refine ev_iconst (x := 0) dX10_kept_1 (by decide) ?_
  refine ev_puti fl_RX10_102 sh_69 (by decide) (by decide) rfl rfl rfl dX10_kept_2 ?_
  refine ev_iconst (x := 1) dX10_kept_5 (by decide) ?_
  refine ev_istore_n dX10_kept_6 (Nat.le_of_ble_eq_true rfl) rfl rfl ?_
  refine ev_iconst (x := 0) dX10_kept_7 (by decide) ?_
  refine ev_istore_n dX10_kept_8 (Nat.le_of_ble_eq_true rfl) rfl rfl ?_
  obtain ⟨q8, hq9, h⟩ := ab_bind h
  refine lp_X10_kept_9 _ (ab_pi M 69 0 0) 1 0 _ hq9 ?_
  refine ev_iload_n dX10_kept_42 rfl ?_
  refine ev_if_eq (t := 57) dX10_kept_43 (by decide) (fun hc10 => ?_) (fun hc10 => ?_)
  · replace h := ab_pos hc10 h
    refine ev_iconst (x := 0) dX10_kept_57 (by decide) ?_
    cases h
    exact ev_ireturn rfl dX10_kept_58
  · replace h := ab_neg hc10 h
    refine ev_aload_n dX10_kept_46 rfl ?_
    obtain ⟨q11, hv12, h⟩ := ab_bind h
    refine ev_callV (st := []) (co_X10_harmNow (ab_pi M 69 0 0) _ hv12) mv_X10_harmNow sh_69 ml_RX10_199 dX10_kept_47 (by decide) rfl (Nat.le_of_ble_eq_true rfl) ⟨Nat.le_refl _, Nat.le_refl _⟩ ?_
    refine ev_if_ne (t := 57) dX10_kept_50 (by decide) (fun hc13 => ?_) (fun hc13 => ?_)
    · replace h := ab_neg hc13 h
      refine ev_iconst (x := 0) dX10_kept_57 (by decide) ?_
      cases h
      exact ev_ireturn rfl dX10_kept_58
    · replace h := ab_pos hc13 h
      refine ev_iconst (x := 1) dX10_kept_53 (by decide) ?_
      refine ev_goto (t := 58) dX10_kept_54 (by decide) ?_
      cases h
      exact ev_ireturn rfl dX10_kept_58

noncomputable def mi_X10_broken (M : ab_M) (x1 : Int32) : Option (Int32 × ab_M) :=
  (mi_X10_isIn (ab_pi M 69 0 0) (Int32.toInt64 x1) 0 3).bind fun q1 =>
  if q1 = 0 then
    some ((-1), (ab_pi M 69 0 0))
  else
    (mi_X10_brokenOf (ab_pi M 69 0 0) x1).bind fun q4 =>
    some (q4, (ab_pi M 69 0 0))

set_option maxHeartbeats 4000000 in
set_option maxRecDepth 100000 in
theorem co_X10_broken {l : Launch} {D : va_G} {ac : Nat → ClassId} (M : ab_M) (x1 : Int32) (z : Int32 × ab_M) (h : mi_X10_broken M x1 = some z) : ab_Con l D ac 5 me_X10_broken 0 0 [.ref 69, .int x1] ab_SH M (some (.int z.1), ab_SH, z.2) := by
  refine ab_intro (lv := [some (.ref 69), some (.int x1)]) (by decide) rfl (Nat.le_of_ble_eq_true rfl) rfl ?_
  unfold mi_X10_broken at h
  refine ev_aload_n dX10_broken_0 rfl ?_
  refine ev_iconst (x := 0) dX10_broken_1 (by decide) ?_
  refine ev_puti fl_RX10_102 sh_69 (by decide) (by decide) rfl rfl rfl dX10_broken_2 ?_
  refine ev_iload_n dX10_broken_5 rfl ?_
  refine ev_i2l dX10_broken_6 ?_
  refine ev_lconst (x := 0) dX10_broken_7 (by decide) ?_
  refine ev_ldc2 kw_RX10_118 dX10_broken_8 ?_
  obtain ⟨q1, hv2, h⟩ := ab_bind h
  refine ev_callS (st := []) (co_X10_isIn (ab_pi M 69 0 0) (Int32.toInt64 x1) 0 3 _ hv2) mv_X10_isIn ml_RX10_113 dX10_broken_11 (by decide) rfl (Nat.le_of_ble_eq_true rfl) ⟨Nat.le_refl _, Nat.le_refl _⟩ ?_
  refine ev_if_eq (t := 25) dX10_broken_14 (by decide) (fun hc3 => ?_) (fun hc3 => ?_)
  · replace h := ab_pos hc3 h
    refine ev_iconst (x := (-1)) dX10_broken_25 (by decide) ?_
    cases h
    exact ev_ireturn rfl dX10_broken_26
  · replace h := ab_neg hc3 h
    refine ev_aload_n dX10_broken_17 rfl ?_
    refine ev_iload_n dX10_broken_18 rfl ?_
    obtain ⟨q4, hv5, h⟩ := ab_bind h
    refine ev_callV (st := []) (co_X10_brokenOf (ab_pi M 69 0 0) x1 _ hv5) mv_X10_brokenOf sh_69 ml_RX10_196 dX10_broken_19 (by decide) rfl (Nat.le_of_ble_eq_true rfl) ⟨Nat.le_refl _, Nat.le_refl _⟩ ?_
    refine ev_goto (t := 26) dX10_broken_22 (by decide) ?_
    cases h
    exact ev_ireturn rfl dX10_broken_26

noncomputable def mi_X10_pair_43 : Nat → ab_M → Int32 → Int32 → Int32 → Int32 → Int32 → Option (Sum (Int32 × Int32) (Int32 × ab_M))
  | 0, _, _, _, _, _, _ => none
  | n + 1, M, x1, x2, x3, x4, x5 =>
    if (M.1 69 10) ≤ x5 then
      some (.inl (x3, x5))
    else
      (mi_X10_lack M x4 x5).bind fun q7 =>
      if q7 ≤ 0 then
        ((if q7 ≤ 0 then
          some 0
        else
          some 1) : Option (Int32)).bind fun q10 =>
        mi_X10_pair_43 n M x1 x2 (x3 + q10) x4 (x5 + 1)
      else
        if x3 = x1 then
          if x2 = 0 then
            some (.inr (x4, M))
          else
            if x2 = 1 then
              some (.inr (x5, M))
            else
              some (.inr (q7, M))
        else
          ((if q7 ≤ 0 then
            some 0
          else
            some 1) : Option (Int32)).bind fun q15 =>
          mi_X10_pair_43 n M x1 x2 (x3 + q15) x4 (x5 + 1)

set_option maxHeartbeats 4000000 in
set_option maxRecDepth 100000 in
theorem lp_X10_pair_43 {l : Launch} {D : va_G} {ac : Nat → ClassId} {n0 : Nat} {r : ab_Rs} : ∀ (n : Nat) (M : ab_M) (x1 : Int32) (x2 : Int32) (x3 : Int32) (x4 : Int32) (x5 : Int32) (q : Sum (Int32 × Int32) (Int32 × ab_M)) (h : mi_X10_pair_43 n M x1 x2 x3 x4 x5 = some q) (kk : ∀ y, q = .inl y → ab_Ev l D ac 4 me_X10_pair n0 0 0 r 0 0 ab_SH 113 [some (.ref 69), some (.int x1), some (.int x2), some (.int y.1), some (.int x4), some (.int y.2), none] [] M) (kr : ∀ v, q = .inr v → r = (some (.int v.1), ab_SH, v.2)), ab_Ev l D ac 4 me_X10_pair n0 0 0 r 0 0 ab_SH 43 [some (.ref 69), some (.int x1), some (.int x2), some (.int x3), some (.int x4), some (.int x5), none] [] M := by
  intro n
  induction n with
  | zero =>
    intro M x1 x2 x3 x4 x5 q h kk kr
    cases h
  | succ n ih =>
    intro M x1 x2 x3 x4 x5 q h kk kr
    unfold mi_X10_pair_43 at h
    refine ev_iload dX10_pair_43 rfl ?_
    refine ev_aload_n dX10_pair_45 rfl ?_
    refine ev_geti fl_RX10_108 sh_69 (by decide) (by decide) rfl dX10_pair_46 ?_
    refine ev_icmp_ge (t := 113) dX10_pair_49 (by decide) (fun hc6 => ?_) (fun hc6 => ?_)
    · replace h := ab_pos hc6 h
      cases h
      exact kk _ rfl
    · replace h := ab_neg hc6 h
      refine ev_aload_n dX10_pair_52 rfl ?_
      refine ev_iload dX10_pair_53 rfl ?_
      refine ev_iload dX10_pair_55 rfl ?_
      obtain ⟨q7, hv8, h⟩ := ab_bind h
      refine ev_callV (st := []) (co_X10_lack M x4 x5 _ hv8) mv_X10_lack sh_69 ml_RX10_185 dX10_pair_57 (by decide) rfl (Nat.le_of_ble_eq_true rfl) ⟨Nat.le_refl _, Nat.le_refl _⟩ ?_
      refine ev_istore dX10_pair_60 (Nat.le_of_ble_eq_true rfl) rfl rfl ?_
      refine ev_iload dX10_pair_62 rfl ?_
      refine ev_if_le (t := 94) dX10_pair_64 (by decide) (fun hc9 => ?_) (fun hc9 => ?_)
      · replace h := ab_pos hc9 h
        refine ev_iload_n dX10_pair_94 rfl ?_
        refine ev_iload dX10_pair_95 rfl ?_
        obtain ⟨q10, hq11, h⟩ := ab_bind h
        have hJ12 : ab_Ev l D ac 4 me_X10_pair n0 0 0 r 0 0 ab_SH 105 [some (.ref 69), some (.int x1), some (.int x2), some (.int x3), some (.int x4), some (.int x5), some (.int q7)] [.int q10, .int x3] M := by
          refine ev_iadd dX10_pair_105 ?_
          refine ev_istore_n dX10_pair_106 (Nat.le_of_ble_eq_true rfl) rfl rfl ?_
          refine ev_iinc (y := x5 + 1) dX10_pair_107 rfl (by first | rfl | decide) rfl rfl ?_
          refine ev_goto (t := 43) dX10_pair_110 (by decide) ?_
          refine ev_drop (lv' := [some (.ref 69), some (.int x1), some (.int x2), some (.int (x3 + q10)), some (.int x4), some (.int (x5 + 1)), none]) (ab_sub_k (ab_sub_k (ab_sub_k (ab_sub_k (ab_sub_k (ab_sub_k (ab_sub_d ab_sub_nil))))))) ?_
          exact ih M x1 x2 (x3 + q10) x4 (x5 + 1) _ h kk kr
        refine ev_if_le (t := 104) dX10_pair_97 (by decide) (fun hc13 => ?_) (fun hc13 => ?_)
        · replace hq11 := ab_pos hc13 hq11
          refine ev_iconst (x := 0) dX10_pair_104 (by decide) ?_
          cases hq11
          exact hJ12
        · replace hq11 := ab_neg hc13 hq11
          refine ev_iconst (x := 1) dX10_pair_100 (by decide) ?_
          refine ev_goto (t := 105) dX10_pair_101 (by decide) ?_
          cases hq11
          exact hJ12
      · replace h := ab_neg hc9 h
        refine ev_iload_n dX10_pair_67 rfl ?_
        refine ev_iload_n dX10_pair_68 rfl ?_
        refine ev_icmp_ne (t := 94) dX10_pair_69 (by decide) (fun hc14 => ?_) (fun hc14 => ?_)
        · replace h := ab_neg hc14 h
          refine ev_iload_n dX10_pair_94 rfl ?_
          refine ev_iload dX10_pair_95 rfl ?_
          obtain ⟨q15, hq16, h⟩ := ab_bind h
          have hJ17 : ab_Ev l D ac 4 me_X10_pair n0 0 0 r 0 0 ab_SH 105 [some (.ref 69), some (.int x1), some (.int x2), some (.int x3), some (.int x4), some (.int x5), some (.int q7)] [.int q15, .int x3] M := by
            refine ev_iadd dX10_pair_105 ?_
            refine ev_istore_n dX10_pair_106 (Nat.le_of_ble_eq_true rfl) rfl rfl ?_
            refine ev_iinc (y := x5 + 1) dX10_pair_107 rfl (by first | rfl | decide) rfl rfl ?_
            refine ev_goto (t := 43) dX10_pair_110 (by decide) ?_
            refine ev_drop (lv' := [some (.ref 69), some (.int x1), some (.int x2), some (.int (x3 + q15)), some (.int x4), some (.int (x5 + 1)), none]) (ab_sub_k (ab_sub_k (ab_sub_k (ab_sub_k (ab_sub_k (ab_sub_k (ab_sub_d ab_sub_nil))))))) ?_
            exact ih M x1 x2 (x3 + q15) x4 (x5 + 1) _ h kk kr
          refine ev_if_le (t := 104) dX10_pair_97 (by decide) (fun hc18 => ?_) (fun hc18 => ?_)
          · replace hq16 := ab_pos hc18 hq16
            refine ev_iconst (x := 0) dX10_pair_104 (by decide) ?_
            cases hq16
            exact hJ17
          · replace hq16 := ab_neg hc18 hq16
            refine ev_iconst (x := 1) dX10_pair_100 (by decide) ?_
            refine ev_goto (t := 105) dX10_pair_101 (by decide) ?_
            cases hq16
            exact hJ17
        · replace h := ab_pos hc14 h
          refine ev_iload_n dX10_pair_72 rfl ?_
          refine ev_if_ne (t := 81) dX10_pair_73 (by decide) (fun hc19 => ?_) (fun hc19 => ?_)
          · replace h := ab_neg hc19 h
            refine ev_iload_n dX10_pair_81 rfl ?_
            refine ev_iconst (x := 1) dX10_pair_82 (by decide) ?_
            refine ev_icmp_ne (t := 91) dX10_pair_83 (by decide) (fun hc20 => ?_) (fun hc20 => ?_)
            · replace h := ab_neg hc20 h
              refine ev_iload dX10_pair_91 rfl ?_
              cases h
              rw [kr _ rfl]
              exact ev_ireturn rfl dX10_pair_93
            · replace h := ab_pos hc20 h
              refine ev_iload dX10_pair_86 rfl ?_
              refine ev_goto (t := 93) dX10_pair_88 (by decide) ?_
              cases h
              rw [kr _ rfl]
              exact ev_ireturn rfl dX10_pair_93
          · replace h := ab_pos hc19 h
            refine ev_iload dX10_pair_76 rfl ?_
            refine ev_goto (t := 93) dX10_pair_78 (by decide) ?_
            cases h
            rw [kr _ rfl]
            exact ev_ireturn rfl dX10_pair_93

noncomputable def mi_X10_pair_28 : Nat → ab_M → Int32 → Int32 → Int32 → Int32 → Option (Sum (Int32 × Int32) (Int32 × ab_M))
  | 0, _, _, _, _, _ => none
  | n + 1, M, x1, x2, x3, x4 =>
    if (M.1 69 10) ≤ x4 then
      some (.inl (x3, x4))
    else
      (mi_X10_pair_43 ab_F M x1 x2 x3 x4 (x4 + 1)).bind fun q24 => Sum.elim (fun q21 =>
      mi_X10_pair_28 n M x1 x2 q21.1 (x4 + 1)) (fun v23 => some (.inr v23)) q24

set_option maxHeartbeats 4000000 in
set_option maxRecDepth 100000 in
theorem lp_X10_pair_28 {l : Launch} {D : va_G} {ac : Nat → ClassId} {n0 : Nat} {r : ab_Rs} : ∀ (n : Nat) (M : ab_M) (x1 : Int32) (x2 : Int32) (x3 : Int32) (x4 : Int32) (q : Sum (Int32 × Int32) (Int32 × ab_M)) (h : mi_X10_pair_28 n M x1 x2 x3 x4 = some q) (kk : ∀ y, q = .inl y → ab_Ev l D ac 4 me_X10_pair n0 0 0 r 0 0 ab_SH 119 [some (.ref 69), some (.int x1), some (.int x2), some (.int y.1), some (.int y.2), none, none] [] M) (kr : ∀ v, q = .inr v → r = (some (.int v.1), ab_SH, v.2)), ab_Ev l D ac 4 me_X10_pair n0 0 0 r 0 0 ab_SH 28 [some (.ref 69), some (.int x1), some (.int x2), some (.int x3), some (.int x4), none, none] [] M := by
  intro n
  induction n with
  | zero =>
    intro M x1 x2 x3 x4 q h kk kr
    cases h
  | succ n ih =>
    intro M x1 x2 x3 x4 q h kk kr
    unfold mi_X10_pair_28 at h
    refine ev_iload dX10_pair_28 rfl ?_
    refine ev_aload_n dX10_pair_30 rfl ?_
    refine ev_geti fl_RX10_108 sh_69 (by decide) (by decide) rfl dX10_pair_31 ?_
    refine ev_icmp_ge (t := 119) dX10_pair_34 (by decide) (fun hc5 => ?_) (fun hc5 => ?_)
    · replace h := ab_pos hc5 h
      cases h
      exact kk _ rfl
    · replace h := ab_neg hc5 h
      refine ev_iload dX10_pair_37 rfl ?_
      refine ev_iconst (x := 1) dX10_pair_39 (by decide) ?_
      refine ev_iadd dX10_pair_40 ?_
      refine ev_istore dX10_pair_41 (Nat.le_of_ble_eq_true rfl) rfl rfl ?_
      obtain ⟨q24, hq22, h⟩ := ab_bind h
      rcases ab_elim h with ⟨q21, rfl, h⟩ | ⟨v23, rfl, h⟩
      · refine lp_X10_pair_43 _ M x1 x2 x3 x4 (x4 + 1) _ hq22 (fun z e25 => ?_) (fun z e25 => by cases e25)
        cases e25
        refine ev_iinc (y := x4 + 1) dX10_pair_113 rfl (by first | rfl | decide) rfl rfl ?_
        refine ev_goto (t := 28) dX10_pair_116 (by decide) ?_
        refine ev_drop (lv' := [some (.ref 69), some (.int x1), some (.int x2), some (.int q21.1), some (.int (x4 + 1)), none, none]) (ab_sub_k (ab_sub_k (ab_sub_k (ab_sub_k (ab_sub_k (ab_sub_d (ab_sub_k ab_sub_nil))))))) ?_
        exact ih M x1 x2 q21.1 (x4 + 1) _ h kk kr
      · refine lp_X10_pair_43 _ M x1 x2 x3 x4 (x4 + 1) _ hq22 (fun z e25 => by cases e25) (fun z e25 => ?_)
        cases e25
        cases h
        exact kr _ rfl

noncomputable def mi_X10_pair (M : ab_M) (x1 : Int32) (x2 : Int32) : Option (Int32 × ab_M) :=
  if x1 < 0 then
    some ((-1), (ab_pi M 69 0 0))
  else
    (mi_X10_isIn (ab_pi M 69 0 0) (Int32.toInt64 x2) 0 2).bind fun q2 =>
    if q2 = 0 then
      some ((-1), (ab_pi M 69 0 0))
    else
      (mi_X10_pair_28 ab_F (ab_pi M 69 0 0) x1 x2 0 0).bind fun q29 => Sum.elim (fun q26 =>
      some ((-1), (ab_pi M 69 0 0))) (fun v28 => some v28) q29

set_option maxHeartbeats 4000000 in
set_option maxRecDepth 100000 in
theorem co_X10_pair {l : Launch} {D : va_G} {ac : Nat → ClassId} (M : ab_M) (x1 : Int32) (x2 : Int32) (z : Int32 × ab_M) (h : mi_X10_pair M x1 x2 = some z) : ab_Con l D ac 4 me_X10_pair 0 0 [.ref 69, .int x1, .int x2] ab_SH M (some (.int z.1), ab_SH, z.2) := by
  refine ab_intro (lv := [some (.ref 69), some (.int x1), some (.int x2), none, none, none, none]) (by decide) rfl (Nat.le_of_ble_eq_true rfl) rfl ?_
  unfold mi_X10_pair at h
  refine ev_aload_n dX10_pair_0 rfl ?_
  refine ev_iconst (x := 0) dX10_pair_1 (by decide) ?_
  refine ev_puti fl_RX10_102 sh_69 (by decide) (by decide) rfl rfl rfl dX10_pair_2 ?_
  refine ev_iload_n dX10_pair_5 rfl ?_
  refine ev_if_lt (t := 21) dX10_pair_6 (by decide) (fun hc1 => ?_) (fun hc1 => ?_)
  · replace h := ab_pos hc1 h
    refine ev_iconst (x := (-1)) dX10_pair_21 (by decide) ?_
    cases h
    exact ev_ireturn rfl dX10_pair_22
  · replace h := ab_neg hc1 h
    refine ev_iload_n dX10_pair_9 rfl ?_
    refine ev_i2l dX10_pair_10 ?_
    refine ev_lconst (x := 0) dX10_pair_11 (by decide) ?_
    refine ev_ldc2 kw_RX10_203 dX10_pair_12 ?_
    obtain ⟨q2, hv3, h⟩ := ab_bind h
    refine ev_callS (st := []) (co_X10_isIn (ab_pi M 69 0 0) (Int32.toInt64 x2) 0 2 _ hv3) mv_X10_isIn ml_RX10_113 dX10_pair_15 (by decide) rfl (Nat.le_of_ble_eq_true rfl) ⟨Nat.le_refl _, Nat.le_refl _⟩ ?_
    refine ev_if_ne (t := 23) dX10_pair_18 (by decide) (fun hc4 => ?_) (fun hc4 => ?_)
    · replace h := ab_neg hc4 h
      refine ev_iconst (x := 0) dX10_pair_23 (by decide) ?_
      refine ev_istore_n dX10_pair_24 (Nat.le_of_ble_eq_true rfl) rfl rfl ?_
      refine ev_iconst (x := 0) dX10_pair_25 (by decide) ?_
      refine ev_istore dX10_pair_26 (Nat.le_of_ble_eq_true rfl) rfl rfl ?_
      obtain ⟨q29, hq27, h⟩ := ab_bind h
      rcases ab_elim h with ⟨q26, rfl, h⟩ | ⟨v28, rfl, h⟩
      · refine lp_X10_pair_28 _ (ab_pi M 69 0 0) x1 x2 0 0 _ hq27 (fun z e30 => ?_) (fun z e30 => by cases e30)
        cases e30
        refine ev_iconst (x := (-1)) dX10_pair_119 (by decide) ?_
        cases h
        exact ev_ireturn rfl dX10_pair_120
      · refine lp_X10_pair_28 _ (ab_pi M 69 0 0) x1 x2 0 0 _ hq27 (fun z e30 => by cases e30) (fun z e30 => ?_)
        cases e30
        cases h
        rfl
    · replace h := ab_pos hc4 h
      refine ev_iconst (x := (-1)) dX10_pair_21 (by decide) ?_
      cases h
      exact ev_ireturn rfl dX10_pair_22

noncomputable def mi_X10_isFine_20 : Nat → ab_M → Int32 → Int32 → Int32 → Option (Sum (Int32) (Int32))
  | 0, _, _, _, _ => none
  | n + 1, M, x1, x2, x3 =>
    if x2 ≤ x3 then
      some (.inl x3)
    else
      ab_chk (vp_in x3 16) <|
      ab_chk (vp_in x2 16) <|
      ab_chk (vp_in x1 16) <|
      (mi_X10_areIn M (M.1 78 (x3).toNatClampNeg) (M.1 78 (x2).toNatClampNeg) (M.1 78 (x1).toNatClampNeg)).bind fun q9 =>
      if q9 = 0 then
        mi_X10_isFine_20 n M x1 x2 (x3 + 1)
      else
        (mi_X10_middles M x3 x2 x1).bind fun q12 =>
        (mi_X10_middles M x2 x3 x1).bind fun q14 =>
        (mi_X10_middles M x1 x3 x2).bind fun q16 =>
        if ((q12 + q14) + q16) ≤ 0 then
          mi_X10_isFine_20 n M x1 x2 (x3 + 1)
        else
          some (.inr 0)

set_option maxHeartbeats 4000000 in
set_option maxRecDepth 100000 in
theorem lp_X10_isFine_20 {l : Launch} {D : va_G} {ac : Nat → ClassId} {n0 : Nat} {r : ab_Rs} : ∀ (n : Nat) (M : ab_M) (x1 : Int32) (x2 : Int32) (x3 : Int32) (q : Sum (Int32) (Int32)) (h : mi_X10_isFine_20 n M x1 x2 x3 = some q) (kk : ∀ y, q = .inl y → ab_Ev l D ac 4 me_X10_isFine n0 0 0 r 0 0 ab_SH 84 [some (.ref 69), some (.int x1), some (.int x2), some (.int y)] [] M) (kr : ∀ v, q = .inr v → r = (some (.int v), ab_SH, M)), ab_Ev l D ac 4 me_X10_isFine n0 0 0 r 0 0 ab_SH 20 [some (.ref 69), some (.int x1), some (.int x2), some (.int x3)] [] M := by
  intro n
  induction n with
  | zero =>
    intro M x1 x2 x3 q h kk kr
    cases h
  | succ n ih =>
    intro M x1 x2 x3 q h kk kr
    unfold mi_X10_isFine_20 at h
    refine ev_iload_n dX10_isFine_20 rfl ?_
    refine ev_iload_n dX10_isFine_21 rfl ?_
    refine ev_icmp_ge (t := 84) dX10_isFine_22 (by decide) (fun hc5 => ?_) (fun hc5 => ?_)
    · replace h := ab_pos hc5 h
      cases h
      exact kk _ rfl
    · replace h := ab_neg hc5 h
      refine ev_aload_n dX10_isFine_25 rfl ?_
      refine ev_aload_n dX10_isFine_26 rfl ?_
      refine ev_getr (o' := 78) fl_RX10_34 sh_69 (by decide) (by decide) rfl rfl dX10_isFine_27 ?_
      refine ev_iload_n dX10_isFine_30 rfl ?_
      obtain ⟨hb6, h⟩ := ab_chk_some h
      refine ev_iaload sh_78 hb6 dX10_isFine_31 ?_
      refine ev_aload_n dX10_isFine_32 rfl ?_
      refine ev_getr (o' := 78) fl_RX10_34 sh_69 (by decide) (by decide) rfl rfl dX10_isFine_33 ?_
      refine ev_iload_n dX10_isFine_36 rfl ?_
      obtain ⟨hb7, h⟩ := ab_chk_some h
      refine ev_iaload sh_78 hb7 dX10_isFine_37 ?_
      refine ev_aload_n dX10_isFine_38 rfl ?_
      refine ev_getr (o' := 78) fl_RX10_34 sh_69 (by decide) (by decide) rfl rfl dX10_isFine_39 ?_
      refine ev_iload_n dX10_isFine_42 rfl ?_
      obtain ⟨hb8, h⟩ := ab_chk_some h
      refine ev_iaload sh_78 hb8 dX10_isFine_43 ?_
      obtain ⟨q9, hv10, h⟩ := ab_bind h
      refine ev_callV (st := []) (co_X10_areIn M (M.1 78 (x3).toNatClampNeg) (M.1 78 (x2).toNatClampNeg) (M.1 78 (x1).toNatClampNeg) _ hv10) mv_X10_areIn sh_69 ml_RX10_188 dX10_isFine_44 (by decide) rfl (Nat.le_of_ble_eq_true rfl) ⟨Nat.le_refl _, Nat.le_refl _⟩ ?_
      refine ev_if_eq (t := 78) dX10_isFine_47 (by decide) (fun hc11 => ?_) (fun hc11 => ?_)
      · replace h := ab_pos hc11 h
        refine ev_iinc (y := x3 + 1) dX10_isFine_78 rfl (by first | rfl | decide) rfl rfl ?_
        refine ev_goto (t := 20) dX10_isFine_81 (by decide) ?_
        exact ih M x1 x2 (x3 + 1) _ h kk kr
      · replace h := ab_neg hc11 h
        refine ev_aload_n dX10_isFine_50 rfl ?_
        refine ev_iload_n dX10_isFine_51 rfl ?_
        refine ev_iload_n dX10_isFine_52 rfl ?_
        refine ev_iload_n dX10_isFine_53 rfl ?_
        obtain ⟨q12, hv13, h⟩ := ab_bind h
        refine ev_callV (st := []) (co_X10_middles M x3 x2 x1 _ hv13) mv_X10_middles sh_69 ml_RX10_192 dX10_isFine_54 (by decide) rfl (Nat.le_of_ble_eq_true rfl) ⟨Nat.le_refl _, Nat.le_refl _⟩ ?_
        refine ev_aload_n dX10_isFine_57 rfl ?_
        refine ev_iload_n dX10_isFine_58 rfl ?_
        refine ev_iload_n dX10_isFine_59 rfl ?_
        refine ev_iload_n dX10_isFine_60 rfl ?_
        obtain ⟨q14, hv15, h⟩ := ab_bind h
        refine ev_callV (st := [.int q12]) (co_X10_middles M x2 x3 x1 _ hv15) mv_X10_middles sh_69 ml_RX10_192 dX10_isFine_61 (by decide) rfl (Nat.le_of_ble_eq_true rfl) ⟨Nat.le_refl _, Nat.le_refl _⟩ ?_
        refine ev_iadd dX10_isFine_64 ?_
        refine ev_aload_n dX10_isFine_65 rfl ?_
        refine ev_iload_n dX10_isFine_66 rfl ?_
        refine ev_iload_n dX10_isFine_67 rfl ?_
        refine ev_iload_n dX10_isFine_68 rfl ?_
        obtain ⟨q16, hv17, h⟩ := ab_bind h
        refine ev_callV (st := [.int (q12 + q14)]) (co_X10_middles M x1 x3 x2 _ hv17) mv_X10_middles sh_69 ml_RX10_192 dX10_isFine_69 (by decide) rfl (Nat.le_of_ble_eq_true rfl) ⟨Nat.le_refl _, Nat.le_refl _⟩ ?_
        refine ev_iadd dX10_isFine_72 ?_
        refine ev_if_le (t := 78) dX10_isFine_73 (by decide) (fun hc18 => ?_) (fun hc18 => ?_)
        · replace h := ab_pos hc18 h
          refine ev_iinc (y := x3 + 1) dX10_isFine_78 rfl (by first | rfl | decide) rfl rfl ?_
          refine ev_goto (t := 20) dX10_isFine_81 (by decide) ?_
          exact ih M x1 x2 (x3 + 1) _ h kk kr
        · replace h := ab_neg hc18 h
          refine ev_iconst (x := 0) dX10_isFine_76 (by decide) ?_
          cases h
          rw [kr _ rfl]
          exact ev_zreturn rfl (Or.inl rfl) dX10_isFine_77

noncomputable def mi_X10_isFine_2 : Nat → ab_M → Int32 → Int32 → Option (Sum (Int32) (Int32))
  | 0, _, _, _ => none
  | n + 1, M, x1, x2 =>
    if x1 ≤ x2 then
      some (.inl x2)
    else
      (mi_X10_lack M x2 x1).bind fun q2 =>
      if q2 ≤ 0 then
        (mi_X10_isFine_20 ab_F M x1 x2 0).bind fun q22 => Sum.elim (fun q19 =>
        mi_X10_isFine_2 n M x1 (x2 + 1)) (fun v21 => some (.inr v21)) q22
      else
        some (.inr 0)

set_option maxHeartbeats 4000000 in
set_option maxRecDepth 100000 in
theorem lp_X10_isFine_2 {l : Launch} {D : va_G} {ac : Nat → ClassId} {n0 : Nat} {r : ab_Rs} : ∀ (n : Nat) (M : ab_M) (x1 : Int32) (x2 : Int32) (q : Sum (Int32) (Int32)) (h : mi_X10_isFine_2 n M x1 x2 = some q) (kk : ∀ y, q = .inl y → ab_Ev l D ac 4 me_X10_isFine n0 0 0 r 0 0 ab_SH 90 [some (.ref 69), some (.int x1), some (.int y), none] [] M) (kr : ∀ v, q = .inr v → r = (some (.int v), ab_SH, M)), ab_Ev l D ac 4 me_X10_isFine n0 0 0 r 0 0 ab_SH 2 [some (.ref 69), some (.int x1), some (.int x2), none] [] M := by
  intro n
  induction n with
  | zero =>
    intro M x1 x2 q h kk kr
    cases h
  | succ n ih =>
    intro M x1 x2 q h kk kr
    unfold mi_X10_isFine_2 at h
    refine ev_iload_n dX10_isFine_2 rfl ?_
    refine ev_iload_n dX10_isFine_3 rfl ?_
    refine ev_icmp_ge (t := 90) dX10_isFine_4 (by decide) (fun hc1 => ?_) (fun hc1 => ?_)
    · replace h := ab_pos hc1 h
      cases h
      exact kk _ rfl
    · replace h := ab_neg hc1 h
      refine ev_aload_n dX10_isFine_7 rfl ?_
      refine ev_iload_n dX10_isFine_8 rfl ?_
      refine ev_iload_n dX10_isFine_9 rfl ?_
      obtain ⟨q2, hv3, h⟩ := ab_bind h
      refine ev_callV (st := []) (co_X10_lack M x2 x1 _ hv3) mv_X10_lack sh_69 ml_RX10_185 dX10_isFine_10 (by decide) rfl (Nat.le_of_ble_eq_true rfl) ⟨Nat.le_refl _, Nat.le_refl _⟩ ?_
      refine ev_if_le (t := 18) dX10_isFine_13 (by decide) (fun hc4 => ?_) (fun hc4 => ?_)
      · replace h := ab_pos hc4 h
        refine ev_iconst (x := 0) dX10_isFine_18 (by decide) ?_
        refine ev_istore_n dX10_isFine_19 (Nat.le_of_ble_eq_true rfl) rfl rfl ?_
        obtain ⟨q22, hq20, h⟩ := ab_bind h
        rcases ab_elim h with ⟨q19, rfl, h⟩ | ⟨v21, rfl, h⟩
        · refine lp_X10_isFine_20 _ M x1 x2 0 _ hq20 (fun z e23 => ?_) (fun z e23 => by cases e23)
          cases e23
          refine ev_iinc (y := x2 + 1) dX10_isFine_84 rfl (by first | rfl | decide) rfl rfl ?_
          refine ev_goto (t := 2) dX10_isFine_87 (by decide) ?_
          refine ev_drop (lv' := [some (.ref 69), some (.int x1), some (.int (x2 + 1)), none]) (ab_sub_k (ab_sub_k (ab_sub_k (ab_sub_d ab_sub_nil)))) ?_
          exact ih M x1 (x2 + 1) _ h kk kr
        · refine lp_X10_isFine_20 _ M x1 x2 0 _ hq20 (fun z e23 => by cases e23) (fun z e23 => ?_)
          cases e23
          cases h
          exact kr _ rfl
      · replace h := ab_neg hc4 h
        refine ev_iconst (x := 0) dX10_isFine_16 (by decide) ?_
        cases h
        rw [kr _ rfl]
        exact ev_zreturn rfl (Or.inl rfl) dX10_isFine_17

noncomputable def mi_X10_isFine (M : ab_M) (x1 : Int32) : Option (Int32) :=
  (mi_X10_isFine_2 ab_F M x1 0).bind fun q27 => Sum.elim (fun q24 =>
  some 1) (fun v26 => some v26) q27

set_option maxHeartbeats 4000000 in
set_option maxRecDepth 100000 in
theorem co_X10_isFine {l : Launch} {D : va_G} {ac : Nat → ClassId} (M : ab_M) (x1 : Int32) (z : Int32) (h : mi_X10_isFine M x1 = some z) : ab_Con l D ac 4 me_X10_isFine 0 0 [.ref 69, .int x1] ab_SH M (some (.int z), ab_SH, M) := by
  refine ab_intro (lv := [some (.ref 69), some (.int x1), none, none]) (by decide) rfl (Nat.le_of_ble_eq_true rfl) rfl ?_
  unfold mi_X10_isFine at h
  refine ev_iconst (x := 0) dX10_isFine_0 (by decide) ?_
  refine ev_istore_n dX10_isFine_1 (Nat.le_of_ble_eq_true rfl) rfl rfl ?_
  obtain ⟨q27, hq25, h⟩ := ab_bind h
  rcases ab_elim h with ⟨q24, rfl, h⟩ | ⟨v26, rfl, h⟩
  · refine lp_X10_isFine_2 _ M x1 0 _ hq25 (fun z e28 => ?_) (fun z e28 => by cases e28)
    cases e28
    refine ev_iconst (x := 1) dX10_isFine_90 (by decide) ?_
    cases h
    exact ev_zreturn rfl (Or.inr rfl) dX10_isFine_91
  · refine lp_X10_isFine_2 _ M x1 0 _ hq25 (fun z e28 => by cases e28) (fun z e28 => ?_)
    cases e28
    cases h
    rfl

noncomputable def mi_X10_isTaken (M : ab_M) (x1 : Int32) (x2 : Int32) (x3 : Int32) : Option (Int32 × ab_M) :=
  ab_chk (vp_in x1 16) <|
  (mi_X10_mayHave M x1 x2).bind fun q2 =>
  if q2 = 0 then
    some (0, M)
  else
    ab_chk (vp_in (M.1 78 (x1).toNatClampNeg) 12) <|
    if (M.1 70 (M.1 78 (x1).toNatClampNeg).toNatClampNeg) = 1 then
      ab_chk (vp_in (M.1 78 (x1).toNatClampNeg) 12) <|
      if x3 ≤ (x2 + (M.1 77 (M.1 78 (x1).toNatClampNeg).toNatClampNeg)) then
        some (0, M)
      else
        ab_chk (vp_in (M.1 78 (x1).toNatClampNeg) 12) <|
        if x1 ≤ (M.1 75 (M.1 78 (x1).toNatClampNeg).toNatClampNeg) then
          ab_chk (vp_in x1 16) <|
          (mi_X10_isFine (ab_pi M 80 (x1).toNatClampNeg x2) x1).bind fun q34 =>
          ((if q34 = 0 then
            some (-2)
          else
            some x2) : Option (Int32)).bind fun q36 =>
          ab_chk (vp_in x1 16) <|
          ab_chk (q34 = 0 ∨ q34 = 1) <| some (q34, (ab_pi (ab_pi M 80 (x1).toNatClampNeg x2) 80 (x1).toNatClampNeg q36))
        else
          ab_chk (vp_in (x1 - 1) 16) <|
          if (M.1 80 (x1 - 1).toNatClampNeg) < x2 then
            ab_chk (vp_in x1 16) <|
            (mi_X10_isFine (ab_pi M 80 (x1).toNatClampNeg x2) x1).bind fun q45 =>
            ((if q45 = 0 then
              some (-2)
            else
              some x2) : Option (Int32)).bind fun q47 =>
            ab_chk (vp_in x1 16) <|
            ab_chk (q45 = 0 ∨ q45 = 1) <| some (q45, (ab_pi (ab_pi M 80 (x1).toNatClampNeg x2) 80 (x1).toNatClampNeg q47))
          else
            some (0, M)
    else
      ab_chk (vp_in (M.1 78 (x1).toNatClampNeg) 12) <|
      if x1 ≤ (M.1 75 (M.1 78 (x1).toNatClampNeg).toNatClampNeg) then
        ab_chk (vp_in x1 16) <|
        (mi_X10_isFine (ab_pi M 80 (x1).toNatClampNeg x2) x1).bind fun q10 =>
        ((if q10 = 0 then
          some (-2)
        else
          some x2) : Option (Int32)).bind fun q12 =>
        ab_chk (vp_in x1 16) <|
        ab_chk (q10 = 0 ∨ q10 = 1) <| some (q10, (ab_pi (ab_pi M 80 (x1).toNatClampNeg x2) 80 (x1).toNatClampNeg q12))
      else
        ab_chk (vp_in (x1 - 1) 16) <|
        if (M.1 80 (x1 - 1).toNatClampNeg) < x2 then
          ab_chk (vp_in x1 16) <|
          (mi_X10_isFine (ab_pi M 80 (x1).toNatClampNeg x2) x1).bind fun q21 =>
          ((if q21 = 0 then
            some (-2)
          else
            some x2) : Option (Int32)).bind fun q23 =>
          ab_chk (vp_in x1 16) <|
          ab_chk (q21 = 0 ∨ q21 = 1) <| some (q21, (ab_pi (ab_pi M 80 (x1).toNatClampNeg x2) 80 (x1).toNatClampNeg q23))
        else
          some (0, M)

set_option maxHeartbeats 4000000 in
set_option maxRecDepth 100000 in
theorem co_X10_isTaken {l : Launch} {D : va_G} {ac : Nat → ClassId} (M : ab_M) (x1 : Int32) (x2 : Int32) (x3 : Int32) (z : Int32 × ab_M) (h : mi_X10_isTaken M x1 x2 x3 = some z) : ab_Con l D ac 5 me_X10_isTaken 0 0 [.ref 69, .int x1, .int x2, .int x3] ab_SH M (some (.int z.1), ab_SH, z.2) := by
  refine ab_intro (lv := [some (.ref 69), some (.int x1), some (.int x2), some (.int x3), none, none]) (by decide) rfl (Nat.le_of_ble_eq_true rfl) rfl ?_
  unfold mi_X10_isTaken at h
  refine ev_aload_n dX10_isTaken_0 rfl ?_
  refine ev_getr (o' := 78) fl_RX10_34 sh_69 (by decide) (by decide) rfl rfl dX10_isTaken_1 ?_
  refine ev_iload_n dX10_isTaken_4 rfl ?_
  obtain ⟨hb1, h⟩ := ab_chk_some h
  refine ev_iaload sh_78 hb1 dX10_isTaken_5 ?_
  refine ev_istore dX10_isTaken_6 (Nat.le_of_ble_eq_true rfl) rfl rfl ?_
  refine ev_aload_n dX10_isTaken_8 rfl ?_
  refine ev_iload_n dX10_isTaken_9 rfl ?_
  refine ev_iload_n dX10_isTaken_10 rfl ?_
  obtain ⟨q2, hv3, h⟩ := ab_bind h
  refine ev_callV (st := []) (co_X10_mayHave M x1 x2 _ hv3) mv_X10_mayHave sh_69 ml_RX10_176 dX10_isTaken_11 (by decide) rfl (Nat.le_of_ble_eq_true rfl) ⟨Nat.le_refl _, Nat.le_refl _⟩ ?_
  refine ev_if_eq (t := 64) dX10_isTaken_14 (by decide) (fun hc4 => ?_) (fun hc4 => ?_)
  · replace h := ab_pos hc4 h
    refine ev_iconst (x := 0) dX10_isTaken_64 (by decide) ?_
    cases h
    exact ev_zreturn rfl (Or.inl rfl) dX10_isTaken_65
  · replace h := ab_neg hc4 h
    refine ev_aload_n dX10_isTaken_17 rfl ?_
    refine ev_getr (o' := 70) fl_RX10_7 sh_69 (by decide) (by decide) rfl rfl dX10_isTaken_18 ?_
    refine ev_iload dX10_isTaken_21 rfl ?_
    obtain ⟨hb5, h⟩ := ab_chk_some h
    refine ev_iaload sh_70 hb5 dX10_isTaken_23 ?_
    refine ev_iconst (x := 1) dX10_isTaken_24 (by decide) ?_
    refine ev_icmp_ne (t := 41) dX10_isTaken_25 (by decide) (fun hc6 => ?_) (fun hc6 => ?_)
    · replace h := ab_neg hc6 h
      refine ev_iload_n dX10_isTaken_41 rfl ?_
      refine ev_aload_n dX10_isTaken_42 rfl ?_
      refine ev_getr (o' := 75) fl_RX10_25 sh_69 (by decide) (by decide) rfl rfl dX10_isTaken_43 ?_
      refine ev_iload dX10_isTaken_46 rfl ?_
      obtain ⟨hb7, h⟩ := ab_chk_some h
      refine ev_iaload sh_75 hb7 dX10_isTaken_48 ?_
      refine ev_icmp_le (t := 66) dX10_isTaken_49 (by decide) (fun hc8 => ?_) (fun hc8 => ?_)
      · replace h := ab_pos hc8 h
        refine ev_aload_n dX10_isTaken_66 rfl ?_
        refine ev_getr (o' := 80) fl_RX10_40 sh_69 (by decide) (by decide) rfl rfl dX10_isTaken_67 ?_
        refine ev_iload_n dX10_isTaken_70 rfl ?_
        refine ev_iload_n dX10_isTaken_71 rfl ?_
        obtain ⟨hb9, h⟩ := ab_chk_some h
        refine ev_iastore sh_80 hb9 dX10_isTaken_72 ?_
        refine ev_aload_n dX10_isTaken_73 rfl ?_
        refine ev_iload_n dX10_isTaken_74 rfl ?_
        obtain ⟨q10, hv11, h⟩ := ab_bind h
        refine ev_callV (st := []) (co_X10_isFine (ab_pi M 80 (x1).toNatClampNeg x2) x1 _ hv11) mv_X10_isFine sh_69 ml_RX10_205 dX10_isTaken_75 (by decide) rfl (Nat.le_of_ble_eq_true rfl) ⟨Nat.le_refl _, Nat.le_refl _⟩ ?_
        refine ev_istore dX10_isTaken_78 (Nat.le_of_ble_eq_true rfl) rfl rfl ?_
        refine ev_aload_n dX10_isTaken_80 rfl ?_
        refine ev_getr (o' := 80) fl_RX10_40 sh_69 (by decide) (by decide) rfl rfl dX10_isTaken_81 ?_
        refine ev_iload_n dX10_isTaken_84 rfl ?_
        refine ev_iload dX10_isTaken_85 rfl ?_
        obtain ⟨q12, hq13, h⟩ := ab_bind h
        have hJ14 : ab_Ev l D ac 5 me_X10_isTaken ab_SH.length 0 0 (some (.int z.1), ab_SH, z.2) 0 0 ab_SH 96 [some (.ref 69), some (.int x1), some (.int x2), some (.int x3), some (.int (M.1 78 (x1).toNatClampNeg)), some (.int q10)] [.int q12, .int x1, .ref 80] (ab_pi M 80 (x1).toNatClampNeg x2) := by
          obtain ⟨hb16, h⟩ := ab_chk_some h
          refine ev_iastore sh_80 hb16 dX10_isTaken_96 ?_
          refine ev_iload dX10_isTaken_97 rfl ?_
          obtain ⟨hz17, h⟩ := ab_chk_some h
          cases h
          exact ev_zreturn rfl hz17 dX10_isTaken_99
        refine ev_if_eq (t := 94) dX10_isTaken_87 (by decide) (fun hc15 => ?_) (fun hc15 => ?_)
        · replace hq13 := ab_pos hc15 hq13
          refine ev_bipush (x := (-2)) dX10_isTaken_94 (by decide) ?_
          cases hq13
          exact hJ14
        · replace hq13 := ab_neg hc15 hq13
          refine ev_iload_n dX10_isTaken_90 rfl ?_
          refine ev_goto (t := 96) dX10_isTaken_91 (by decide) ?_
          cases hq13
          exact hJ14
      · replace h := ab_neg hc8 h
        refine ev_iload_n dX10_isTaken_52 rfl ?_
        refine ev_aload_n dX10_isTaken_53 rfl ?_
        refine ev_getr (o' := 80) fl_RX10_40 sh_69 (by decide) (by decide) rfl rfl dX10_isTaken_54 ?_
        refine ev_iload_n dX10_isTaken_57 rfl ?_
        refine ev_iconst (x := 1) dX10_isTaken_58 (by decide) ?_
        refine ev_isub dX10_isTaken_59 ?_
        obtain ⟨hb18, h⟩ := ab_chk_some h
        refine ev_iaload sh_80 hb18 dX10_isTaken_60 ?_
        refine ev_icmp_gt (t := 66) dX10_isTaken_61 (by decide) (fun hc19 => ?_) (fun hc19 => ?_)
        · replace h := ab_pos hc19 h
          refine ev_aload_n dX10_isTaken_66 rfl ?_
          refine ev_getr (o' := 80) fl_RX10_40 sh_69 (by decide) (by decide) rfl rfl dX10_isTaken_67 ?_
          refine ev_iload_n dX10_isTaken_70 rfl ?_
          refine ev_iload_n dX10_isTaken_71 rfl ?_
          obtain ⟨hb20, h⟩ := ab_chk_some h
          refine ev_iastore sh_80 hb20 dX10_isTaken_72 ?_
          refine ev_aload_n dX10_isTaken_73 rfl ?_
          refine ev_iload_n dX10_isTaken_74 rfl ?_
          obtain ⟨q21, hv22, h⟩ := ab_bind h
          refine ev_callV (st := []) (co_X10_isFine (ab_pi M 80 (x1).toNatClampNeg x2) x1 _ hv22) mv_X10_isFine sh_69 ml_RX10_205 dX10_isTaken_75 (by decide) rfl (Nat.le_of_ble_eq_true rfl) ⟨Nat.le_refl _, Nat.le_refl _⟩ ?_
          refine ev_istore dX10_isTaken_78 (Nat.le_of_ble_eq_true rfl) rfl rfl ?_
          refine ev_aload_n dX10_isTaken_80 rfl ?_
          refine ev_getr (o' := 80) fl_RX10_40 sh_69 (by decide) (by decide) rfl rfl dX10_isTaken_81 ?_
          refine ev_iload_n dX10_isTaken_84 rfl ?_
          refine ev_iload dX10_isTaken_85 rfl ?_
          obtain ⟨q23, hq24, h⟩ := ab_bind h
          have hJ25 : ab_Ev l D ac 5 me_X10_isTaken ab_SH.length 0 0 (some (.int z.1), ab_SH, z.2) 0 0 ab_SH 96 [some (.ref 69), some (.int x1), some (.int x2), some (.int x3), some (.int (M.1 78 (x1).toNatClampNeg)), some (.int q21)] [.int q23, .int x1, .ref 80] (ab_pi M 80 (x1).toNatClampNeg x2) := by
            obtain ⟨hb27, h⟩ := ab_chk_some h
            refine ev_iastore sh_80 hb27 dX10_isTaken_96 ?_
            refine ev_iload dX10_isTaken_97 rfl ?_
            obtain ⟨hz28, h⟩ := ab_chk_some h
            cases h
            exact ev_zreturn rfl hz28 dX10_isTaken_99
          refine ev_if_eq (t := 94) dX10_isTaken_87 (by decide) (fun hc26 => ?_) (fun hc26 => ?_)
          · replace hq24 := ab_pos hc26 hq24
            refine ev_bipush (x := (-2)) dX10_isTaken_94 (by decide) ?_
            cases hq24
            exact hJ25
          · replace hq24 := ab_neg hc26 hq24
            refine ev_iload_n dX10_isTaken_90 rfl ?_
            refine ev_goto (t := 96) dX10_isTaken_91 (by decide) ?_
            cases hq24
            exact hJ25
        · replace h := ab_neg hc19 h
          refine ev_iconst (x := 0) dX10_isTaken_64 (by decide) ?_
          cases h
          exact ev_zreturn rfl (Or.inl rfl) dX10_isTaken_65
    · replace h := ab_pos hc6 h
      refine ev_iload_n dX10_isTaken_28 rfl ?_
      refine ev_aload_n dX10_isTaken_29 rfl ?_
      refine ev_getr (o' := 77) fl_RX10_31 sh_69 (by decide) (by decide) rfl rfl dX10_isTaken_30 ?_
      refine ev_iload dX10_isTaken_33 rfl ?_
      obtain ⟨hb29, h⟩ := ab_chk_some h
      refine ev_iaload sh_77 hb29 dX10_isTaken_35 ?_
      refine ev_iadd dX10_isTaken_36 ?_
      refine ev_iload_n dX10_isTaken_37 rfl ?_
      refine ev_icmp_ge (t := 64) dX10_isTaken_38 (by decide) (fun hc30 => ?_) (fun hc30 => ?_)
      · replace h := ab_pos hc30 h
        refine ev_iconst (x := 0) dX10_isTaken_64 (by decide) ?_
        cases h
        exact ev_zreturn rfl (Or.inl rfl) dX10_isTaken_65
      · replace h := ab_neg hc30 h
        refine ev_iload_n dX10_isTaken_41 rfl ?_
        refine ev_aload_n dX10_isTaken_42 rfl ?_
        refine ev_getr (o' := 75) fl_RX10_25 sh_69 (by decide) (by decide) rfl rfl dX10_isTaken_43 ?_
        refine ev_iload dX10_isTaken_46 rfl ?_
        obtain ⟨hb31, h⟩ := ab_chk_some h
        refine ev_iaload sh_75 hb31 dX10_isTaken_48 ?_
        refine ev_icmp_le (t := 66) dX10_isTaken_49 (by decide) (fun hc32 => ?_) (fun hc32 => ?_)
        · replace h := ab_pos hc32 h
          refine ev_aload_n dX10_isTaken_66 rfl ?_
          refine ev_getr (o' := 80) fl_RX10_40 sh_69 (by decide) (by decide) rfl rfl dX10_isTaken_67 ?_
          refine ev_iload_n dX10_isTaken_70 rfl ?_
          refine ev_iload_n dX10_isTaken_71 rfl ?_
          obtain ⟨hb33, h⟩ := ab_chk_some h
          refine ev_iastore sh_80 hb33 dX10_isTaken_72 ?_
          refine ev_aload_n dX10_isTaken_73 rfl ?_
          refine ev_iload_n dX10_isTaken_74 rfl ?_
          obtain ⟨q34, hv35, h⟩ := ab_bind h
          refine ev_callV (st := []) (co_X10_isFine (ab_pi M 80 (x1).toNatClampNeg x2) x1 _ hv35) mv_X10_isFine sh_69 ml_RX10_205 dX10_isTaken_75 (by decide) rfl (Nat.le_of_ble_eq_true rfl) ⟨Nat.le_refl _, Nat.le_refl _⟩ ?_
          refine ev_istore dX10_isTaken_78 (Nat.le_of_ble_eq_true rfl) rfl rfl ?_
          refine ev_aload_n dX10_isTaken_80 rfl ?_
          refine ev_getr (o' := 80) fl_RX10_40 sh_69 (by decide) (by decide) rfl rfl dX10_isTaken_81 ?_
          refine ev_iload_n dX10_isTaken_84 rfl ?_
          refine ev_iload dX10_isTaken_85 rfl ?_
          obtain ⟨q36, hq37, h⟩ := ab_bind h
          have hJ38 : ab_Ev l D ac 5 me_X10_isTaken ab_SH.length 0 0 (some (.int z.1), ab_SH, z.2) 0 0 ab_SH 96 [some (.ref 69), some (.int x1), some (.int x2), some (.int x3), some (.int (M.1 78 (x1).toNatClampNeg)), some (.int q34)] [.int q36, .int x1, .ref 80] (ab_pi M 80 (x1).toNatClampNeg x2) := by
            obtain ⟨hb40, h⟩ := ab_chk_some h
            refine ev_iastore sh_80 hb40 dX10_isTaken_96 ?_
            refine ev_iload dX10_isTaken_97 rfl ?_
            obtain ⟨hz41, h⟩ := ab_chk_some h
            cases h
            exact ev_zreturn rfl hz41 dX10_isTaken_99
          refine ev_if_eq (t := 94) dX10_isTaken_87 (by decide) (fun hc39 => ?_) (fun hc39 => ?_)
          · replace hq37 := ab_pos hc39 hq37
            refine ev_bipush (x := (-2)) dX10_isTaken_94 (by decide) ?_
            cases hq37
            exact hJ38
          · replace hq37 := ab_neg hc39 hq37
            refine ev_iload_n dX10_isTaken_90 rfl ?_
            refine ev_goto (t := 96) dX10_isTaken_91 (by decide) ?_
            cases hq37
            exact hJ38
        · replace h := ab_neg hc32 h
          refine ev_iload_n dX10_isTaken_52 rfl ?_
          refine ev_aload_n dX10_isTaken_53 rfl ?_
          refine ev_getr (o' := 80) fl_RX10_40 sh_69 (by decide) (by decide) rfl rfl dX10_isTaken_54 ?_
          refine ev_iload_n dX10_isTaken_57 rfl ?_
          refine ev_iconst (x := 1) dX10_isTaken_58 (by decide) ?_
          refine ev_isub dX10_isTaken_59 ?_
          obtain ⟨hb42, h⟩ := ab_chk_some h
          refine ev_iaload sh_80 hb42 dX10_isTaken_60 ?_
          refine ev_icmp_gt (t := 66) dX10_isTaken_61 (by decide) (fun hc43 => ?_) (fun hc43 => ?_)
          · replace h := ab_pos hc43 h
            refine ev_aload_n dX10_isTaken_66 rfl ?_
            refine ev_getr (o' := 80) fl_RX10_40 sh_69 (by decide) (by decide) rfl rfl dX10_isTaken_67 ?_
            refine ev_iload_n dX10_isTaken_70 rfl ?_
            refine ev_iload_n dX10_isTaken_71 rfl ?_
            obtain ⟨hb44, h⟩ := ab_chk_some h
            refine ev_iastore sh_80 hb44 dX10_isTaken_72 ?_
            refine ev_aload_n dX10_isTaken_73 rfl ?_
            refine ev_iload_n dX10_isTaken_74 rfl ?_
            obtain ⟨q45, hv46, h⟩ := ab_bind h
            refine ev_callV (st := []) (co_X10_isFine (ab_pi M 80 (x1).toNatClampNeg x2) x1 _ hv46) mv_X10_isFine sh_69 ml_RX10_205 dX10_isTaken_75 (by decide) rfl (Nat.le_of_ble_eq_true rfl) ⟨Nat.le_refl _, Nat.le_refl _⟩ ?_
            refine ev_istore dX10_isTaken_78 (Nat.le_of_ble_eq_true rfl) rfl rfl ?_
            refine ev_aload_n dX10_isTaken_80 rfl ?_
            refine ev_getr (o' := 80) fl_RX10_40 sh_69 (by decide) (by decide) rfl rfl dX10_isTaken_81 ?_
            refine ev_iload_n dX10_isTaken_84 rfl ?_
            refine ev_iload dX10_isTaken_85 rfl ?_
            obtain ⟨q47, hq48, h⟩ := ab_bind h
            have hJ49 : ab_Ev l D ac 5 me_X10_isTaken ab_SH.length 0 0 (some (.int z.1), ab_SH, z.2) 0 0 ab_SH 96 [some (.ref 69), some (.int x1), some (.int x2), some (.int x3), some (.int (M.1 78 (x1).toNatClampNeg)), some (.int q45)] [.int q47, .int x1, .ref 80] (ab_pi M 80 (x1).toNatClampNeg x2) := by
              obtain ⟨hb51, h⟩ := ab_chk_some h
              refine ev_iastore sh_80 hb51 dX10_isTaken_96 ?_
              refine ev_iload dX10_isTaken_97 rfl ?_
              obtain ⟨hz52, h⟩ := ab_chk_some h
              cases h
              exact ev_zreturn rfl hz52 dX10_isTaken_99
            refine ev_if_eq (t := 94) dX10_isTaken_87 (by decide) (fun hc50 => ?_) (fun hc50 => ?_)
            · replace hq48 := ab_pos hc50 hq48
              refine ev_bipush (x := (-2)) dX10_isTaken_94 (by decide) ?_
              cases hq48
              exact hJ49
            · replace hq48 := ab_neg hc50 hq48
              refine ev_iload_n dX10_isTaken_90 rfl ?_
              refine ev_goto (t := 96) dX10_isTaken_91 (by decide) ?_
              cases hq48
              exact hJ49
          · replace h := ab_neg hc43 h
            refine ev_iconst (x := 0) dX10_isTaken_64 (by decide) ?_
            cases h
            exact ev_zreturn rfl (Or.inl rfl) dX10_isTaken_65

noncomputable def mi_X10_tryBelow_2 : Nat → ab_M → Int32 → Int32 → Option (Int32 × ab_M)
  | 0, _, _, _ => none
  | n + 1, M, x1, x2 =>
    if (M.1 69 10) ≤ x2 then
      some (x2, M)
    else
      ab_chk (vp_in x2 16) <|
      mi_X10_tryBelow_2 n (ab_pi M 80 (x2).toNatClampNeg (-2)) x1 (x2 + 1)

set_option maxHeartbeats 4000000 in
set_option maxRecDepth 100000 in
theorem lp_X10_tryBelow_2 {l : Launch} {D : va_G} {ac : Nat → ClassId} {n0 : Nat} {r : ab_Rs} : ∀ (n : Nat) (M : ab_M) (x1 : Int32) (x2 : Int32) (q : Int32 × ab_M) (h : mi_X10_tryBelow_2 n M x1 x2 = some q) (kk : ab_Ev l D ac 6 me_X10_tryBelow n0 0 0 r 0 0 ab_SH 24 [some (.ref 69), some (.int x1), some (.int q.1), none, none] [] q.2), ab_Ev l D ac 6 me_X10_tryBelow n0 0 0 r 0 0 ab_SH 2 [some (.ref 69), some (.int x1), some (.int x2), none, none] [] M := by
  intro n
  induction n with
  | zero =>
    intro M x1 x2 q h kk
    cases h
  | succ n ih =>
    intro M x1 x2 q h kk
    unfold mi_X10_tryBelow_2 at h
    refine ev_iload_n dX10_tryBelow_2 rfl ?_
    refine ev_aload_n dX10_tryBelow_3 rfl ?_
    refine ev_geti fl_RX10_108 sh_69 (by decide) (by decide) rfl dX10_tryBelow_4 ?_
    refine ev_icmp_ge (t := 24) dX10_tryBelow_7 (by decide) (fun hc1 => ?_) (fun hc1 => ?_)
    · replace h := ab_pos hc1 h
      cases h
      exact kk
    · replace h := ab_neg hc1 h
      refine ev_aload_n dX10_tryBelow_10 rfl ?_
      refine ev_getr (o' := 80) fl_RX10_40 sh_69 (by decide) (by decide) rfl rfl dX10_tryBelow_11 ?_
      refine ev_iload_n dX10_tryBelow_14 rfl ?_
      refine ev_bipush (x := (-2)) dX10_tryBelow_15 (by decide) ?_
      obtain ⟨hb2, h⟩ := ab_chk_some h
      refine ev_iastore sh_80 hb2 dX10_tryBelow_17 ?_
      refine ev_iinc (y := x2 + 1) dX10_tryBelow_18 rfl (by first | rfl | decide) rfl rfl ?_
      refine ev_goto (t := 2) dX10_tryBelow_21 (by decide) ?_
      exact ih (ab_pi M 80 (x2).toNatClampNeg (-2)) x1 (x2 + 1) _ h kk

noncomputable def mi_X10_tryBelow_28 : Nat → ab_M → Int32 → Int32 → Int32 → Option (Int32 × Int32 × ab_M)
  | 0, _, _, _, _ => none
  | n + 1, M, x1, x2, x3 =>
    if x2 < 0 then
      some (x2, x3, M)
    else
      if (M.1 69 10) ≤ x2 then
        some (x2, x3, M)
      else
        if (M.1 69 26) = 0 then
          if x3 < x1 then
            if (M.1 69 25) = 4000 then
              mi_X10_tryBelow_28 n (ab_pi M 69 26 1) x1 x2 x3
            else
              (mi_X10_isTaken (ab_pi M 69 25 ((M.1 69 25) + 1)) x2 x3 x1).bind fun q10 =>
              ((if q10.1 = 0 then
                some 0
              else
                some 1) : Option (Int32)).bind fun q12 =>
              ((if q10.1 = 0 then
                some (x3 + 1)
              else
                some 0) : Option (Int32)).bind fun q16 =>
              mi_X10_tryBelow_28 n q10.2 x1 (x2 + q12) q16
          else
            if (x2 + (-1)) < 0 then
              mi_X10_tryBelow_28 n M x1 (x2 + (-1)) x3
            else
              ab_chk (vp_in (x2 + (-1)) 16) <|
              ab_chk (vp_in (x2 + (-1)) 16) <|
              mi_X10_tryBelow_28 n (ab_pi M 80 (x2 + (-1)).toNatClampNeg (-2)) x1 (x2 + (-1)) ((M.1 80 (x2 + (-1)).toNatClampNeg) + 1)
        else
          some (x2, x3, M)

set_option maxHeartbeats 4000000 in
set_option maxRecDepth 100000 in
theorem lp_X10_tryBelow_28 {l : Launch} {D : va_G} {ac : Nat → ClassId} {n0 : Nat} {r : ab_Rs} : ∀ (n : Nat) (M : ab_M) (x1 : Int32) (x2 : Int32) (x3 : Int32) (q : Int32 × Int32 × ab_M) (h : mi_X10_tryBelow_28 n M x1 x2 x3 = some q) (kk : ab_Ev l D ac 6 me_X10_tryBelow n0 0 0 r 0 0 ab_SH 145 [some (.ref 69), some (.int x1), some (.int q.1), some (.int q.2.1), none] [] q.2.2), ab_Ev l D ac 6 me_X10_tryBelow n0 0 0 r 0 0 ab_SH 28 [some (.ref 69), some (.int x1), some (.int x2), some (.int x3), none] [] M := by
  intro n
  induction n with
  | zero =>
    intro M x1 x2 x3 q h kk
    cases h
  | succ n ih =>
    intro M x1 x2 x3 q h kk
    unfold mi_X10_tryBelow_28 at h
    refine ev_iload_n dX10_tryBelow_28 rfl ?_
    refine ev_if_lt (t := 145) dX10_tryBelow_29 (by decide) (fun hc5 => ?_) (fun hc5 => ?_)
    · replace h := ab_pos hc5 h
      cases h
      exact kk
    · replace h := ab_neg hc5 h
      refine ev_iload_n dX10_tryBelow_32 rfl ?_
      refine ev_aload_n dX10_tryBelow_33 rfl ?_
      refine ev_geti fl_RX10_108 sh_69 (by decide) (by decide) rfl dX10_tryBelow_34 ?_
      refine ev_icmp_ge (t := 145) dX10_tryBelow_37 (by decide) (fun hc6 => ?_) (fun hc6 => ?_)
      · replace h := ab_pos hc6 h
        cases h
        exact kk
      · replace h := ab_neg hc6 h
        refine ev_aload_n dX10_tryBelow_40 rfl ?_
        refine ev_geti fl_RX10_208 sh_69 (by decide) (by decide) rfl dX10_tryBelow_41 ?_
        refine ev_if_ne (t := 145) dX10_tryBelow_44 (by decide) (fun hc7 => ?_) (fun hc7 => ?_)
        · replace h := ab_neg hc7 h
          cases h
          exact kk
        · replace h := ab_pos hc7 h
          refine ev_iload_n dX10_tryBelow_47 rfl ?_
          refine ev_iload_n dX10_tryBelow_48 rfl ?_
          refine ev_icmp_lt (t := 79) dX10_tryBelow_49 (by decide) (fun hc8 => ?_) (fun hc8 => ?_)
          · replace h := ab_pos hc8 h
            refine ev_aload_n dX10_tryBelow_79 rfl ?_
            refine ev_geti fl_RX10_212 sh_69 (by decide) (by decide) rfl dX10_tryBelow_80 ?_
            refine ev_sipush (x := 4000) dX10_tryBelow_83 (by decide) ?_
            refine ev_icmp_ne (t := 97) dX10_tryBelow_86 (by decide) (fun hc9 => ?_) (fun hc9 => ?_)
            · replace h := ab_neg hc9 h
              refine ev_aload_n dX10_tryBelow_97 rfl ?_
              refine ev_dup dX10_tryBelow_98 rfl ?_
              refine ev_geti fl_RX10_212 sh_69 (by decide) (by decide) rfl dX10_tryBelow_99 ?_
              refine ev_iconst (x := 1) dX10_tryBelow_102 (by decide) ?_
              refine ev_iadd dX10_tryBelow_103 ?_
              refine ev_puti fl_RX10_212 sh_69 (by decide) (by decide) rfl rfl rfl dX10_tryBelow_104 ?_
              refine ev_aload_n dX10_tryBelow_107 rfl ?_
              refine ev_iload_n dX10_tryBelow_108 rfl ?_
              refine ev_iload_n dX10_tryBelow_109 rfl ?_
              refine ev_iload_n dX10_tryBelow_110 rfl ?_
              obtain ⟨q10, hv11, h⟩ := ab_bind h
              refine ev_callV (st := []) (co_X10_isTaken (ab_pi M 69 25 ((M.1 69 25) + 1)) x2 x3 x1 _ hv11) mv_X10_isTaken sh_69 ml_RX10_215 dX10_tryBelow_111 (by decide) rfl (Nat.le_of_ble_eq_true rfl) ⟨Nat.le_refl _, Nat.le_refl _⟩ ?_
              refine ev_istore dX10_tryBelow_114 (Nat.le_of_ble_eq_true rfl) rfl rfl ?_
              refine ev_iload_n dX10_tryBelow_116 rfl ?_
              refine ev_iload dX10_tryBelow_117 rfl ?_
              obtain ⟨q12, hq13, h⟩ := ab_bind h
              have hJ14 : ab_Ev l D ac 6 me_X10_tryBelow n0 0 0 r 0 0 ab_SH 127 [some (.ref 69), some (.int x1), some (.int x2), some (.int x3), some (.int q10.1)] [.int q12, .int x2] q10.2 := by
                refine ev_iadd dX10_tryBelow_127 ?_
                refine ev_istore_n dX10_tryBelow_128 (Nat.le_of_ble_eq_true rfl) rfl rfl ?_
                refine ev_iload dX10_tryBelow_129 rfl ?_
                obtain ⟨q16, hq17, h⟩ := ab_bind h
                have hJ18 : ab_Ev l D ac 6 me_X10_tryBelow n0 0 0 r 0 0 ab_SH 141 [some (.ref 69), some (.int x1), some (.int (x2 + q12)), some (.int x3), some (.int q10.1)] [.int q16] q10.2 := by
                  refine ev_istore_n dX10_tryBelow_141 (Nat.le_of_ble_eq_true rfl) rfl rfl ?_
                  refine ev_goto (t := 28) dX10_tryBelow_142 (by decide) ?_
                  refine ev_drop (lv' := [some (.ref 69), some (.int x1), some (.int (x2 + q12)), some (.int q16), none]) (ab_sub_k (ab_sub_k (ab_sub_k (ab_sub_k (ab_sub_d ab_sub_nil))))) ?_
                  exact ih q10.2 x1 (x2 + q12) q16 _ h kk
                refine ev_if_eq (t := 138) dX10_tryBelow_131 (by decide) (fun hc19 => ?_) (fun hc19 => ?_)
                · replace hq17 := ab_pos hc19 hq17
                  refine ev_iload_n dX10_tryBelow_138 rfl ?_
                  refine ev_iconst (x := 1) dX10_tryBelow_139 (by decide) ?_
                  refine ev_iadd dX10_tryBelow_140 ?_
                  cases hq17
                  exact hJ18
                · replace hq17 := ab_neg hc19 hq17
                  refine ev_iconst (x := 0) dX10_tryBelow_134 (by decide) ?_
                  refine ev_goto (t := 141) dX10_tryBelow_135 (by decide) ?_
                  cases hq17
                  exact hJ18
              refine ev_if_eq (t := 126) dX10_tryBelow_119 (by decide) (fun hc15 => ?_) (fun hc15 => ?_)
              · replace hq13 := ab_pos hc15 hq13
                refine ev_iconst (x := 0) dX10_tryBelow_126 (by decide) ?_
                cases hq13
                exact hJ14
              · replace hq13 := ab_neg hc15 hq13
                refine ev_iconst (x := 1) dX10_tryBelow_122 (by decide) ?_
                refine ev_goto (t := 127) dX10_tryBelow_123 (by decide) ?_
                cases hq13
                exact hJ14
            · replace h := ab_pos hc9 h
              refine ev_aload_n dX10_tryBelow_89 rfl ?_
              refine ev_iconst (x := 1) dX10_tryBelow_90 (by decide) ?_
              refine ev_puti fl_RX10_208 sh_69 (by decide) (by decide) rfl rfl rfl dX10_tryBelow_91 ?_
              refine ev_goto (t := 28) dX10_tryBelow_94 (by decide) ?_
              exact ih (ab_pi M 69 26 1) x1 x2 x3 _ h kk
          · replace h := ab_neg hc8 h
            refine ev_iinc (y := x2 + (-1)) dX10_tryBelow_52 rfl (by first | rfl | decide) rfl rfl ?_
            refine ev_iload_n dX10_tryBelow_55 rfl ?_
            refine ev_if_lt (t := 28) dX10_tryBelow_56 (by decide) (fun hc20 => ?_) (fun hc20 => ?_)
            · replace h := ab_pos hc20 h
              exact ih M x1 (x2 + (-1)) x3 _ h kk
            · replace h := ab_neg hc20 h
              refine ev_aload_n dX10_tryBelow_59 rfl ?_
              refine ev_getr (o' := 80) fl_RX10_40 sh_69 (by decide) (by decide) rfl rfl dX10_tryBelow_60 ?_
              refine ev_iload_n dX10_tryBelow_63 rfl ?_
              obtain ⟨hb21, h⟩ := ab_chk_some h
              refine ev_iaload sh_80 hb21 dX10_tryBelow_64 ?_
              refine ev_iconst (x := 1) dX10_tryBelow_65 (by decide) ?_
              refine ev_iadd dX10_tryBelow_66 ?_
              refine ev_istore_n dX10_tryBelow_67 (Nat.le_of_ble_eq_true rfl) rfl rfl ?_
              refine ev_aload_n dX10_tryBelow_68 rfl ?_
              refine ev_getr (o' := 80) fl_RX10_40 sh_69 (by decide) (by decide) rfl rfl dX10_tryBelow_69 ?_
              refine ev_iload_n dX10_tryBelow_72 rfl ?_
              refine ev_bipush (x := (-2)) dX10_tryBelow_73 (by decide) ?_
              obtain ⟨hb22, h⟩ := ab_chk_some h
              refine ev_iastore sh_80 hb22 dX10_tryBelow_75 ?_
              refine ev_goto (t := 28) dX10_tryBelow_76 (by decide) ?_
              exact ih (ab_pi M 80 (x2 + (-1)).toNatClampNeg (-2)) x1 (x2 + (-1)) ((M.1 80 (x2 + (-1)).toNatClampNeg) + 1) _ h kk

noncomputable def mi_X10_tryBelow (M : ab_M) (x1 : Int32) : Option (Int32 × ab_M) :=
  (mi_X10_tryBelow_2 ab_F M x1 0).bind fun q3 =>
  (mi_X10_tryBelow_28 ab_F q3.2 x1 0 0).bind fun q23 =>
  if q23.1 = (q23.2.2.1 69 10) then
    if (q23.2.2.1 69 26) = 0 then
      some (1, q23.2.2)
    else
      some (0, q23.2.2)
  else
    some (0, q23.2.2)

set_option maxHeartbeats 4000000 in
set_option maxRecDepth 100000 in
theorem co_X10_tryBelow {l : Launch} {D : va_G} {ac : Nat → ClassId} (M : ab_M) (x1 : Int32) (z : Int32 × ab_M) (h : mi_X10_tryBelow M x1 = some z) : ab_Con l D ac 6 me_X10_tryBelow 0 0 [.ref 69, .int x1] ab_SH M (some (.int z.1), ab_SH, z.2) := by
  refine ab_intro (lv := [some (.ref 69), some (.int x1), none, none, none]) (by decide) rfl (Nat.le_of_ble_eq_true rfl) rfl ?_
  unfold mi_X10_tryBelow at h
  refine ev_iconst (x := 0) dX10_tryBelow_0 (by decide) ?_
  refine ev_istore_n dX10_tryBelow_1 (Nat.le_of_ble_eq_true rfl) rfl rfl ?_
  obtain ⟨q3, hq4, h⟩ := ab_bind h
  refine lp_X10_tryBelow_2 _ M x1 0 _ hq4 ?_
  refine ev_iconst (x := 0) dX10_tryBelow_24 (by decide) ?_
  refine ev_istore_n dX10_tryBelow_25 (Nat.le_of_ble_eq_true rfl) rfl rfl ?_
  refine ev_iconst (x := 0) dX10_tryBelow_26 (by decide) ?_
  refine ev_istore_n dX10_tryBelow_27 (Nat.le_of_ble_eq_true rfl) rfl rfl ?_
  obtain ⟨q23, hq24, h⟩ := ab_bind h
  refine lp_X10_tryBelow_28 _ q3.2 x1 0 0 _ hq24 ?_
  refine ev_iload_n dX10_tryBelow_145 rfl ?_
  refine ev_aload_n dX10_tryBelow_146 rfl ?_
  refine ev_geti fl_RX10_108 sh_69 (by decide) (by decide) rfl dX10_tryBelow_147 ?_
  refine ev_icmp_ne (t := 164) dX10_tryBelow_150 (by decide) (fun hc25 => ?_) (fun hc25 => ?_)
  · replace h := ab_neg hc25 h
    refine ev_iconst (x := 0) dX10_tryBelow_164 (by decide) ?_
    cases h
    exact ev_zreturn rfl (Or.inl rfl) dX10_tryBelow_165
  · replace h := ab_pos hc25 h
    refine ev_aload_n dX10_tryBelow_153 rfl ?_
    refine ev_geti fl_RX10_208 sh_69 (by decide) (by decide) rfl dX10_tryBelow_154 ?_
    refine ev_if_ne (t := 164) dX10_tryBelow_157 (by decide) (fun hc26 => ?_) (fun hc26 => ?_)
    · replace h := ab_neg hc26 h
      refine ev_iconst (x := 0) dX10_tryBelow_164 (by decide) ?_
      cases h
      exact ev_zreturn rfl (Or.inl rfl) dX10_tryBelow_165
    · replace h := ab_pos hc26 h
      refine ev_iconst (x := 1) dX10_tryBelow_160 (by decide) ?_
      refine ev_goto (t := 165) dX10_tryBelow_161 (by decide) ?_
      cases h
      exact ev_zreturn rfl (Or.inr rfl) dX10_tryBelow_165

noncomputable def mi_X10_keepPlan_2 : Nat → ab_M → Int32 → Option (Int32 × ab_M)
  | 0, _, _ => none
  | n + 1, M, x1 =>
    if (M.1 69 10) ≤ x1 then
      some (x1, M)
    else
      ab_chk (vp_in x1 16) <|
      ab_chk (vp_in x1 16) <|
      mi_X10_keepPlan_2 n (ab_pi M 85 (x1).toNatClampNeg (M.1 80 (x1).toNatClampNeg)) (x1 + 1)

set_option maxHeartbeats 4000000 in
set_option maxRecDepth 100000 in
theorem lp_X10_keepPlan_2 {l : Launch} {D : va_G} {ac : Nat → ClassId} {n0 : Nat} {r : ab_Rs} : ∀ (n : Nat) (M : ab_M) (x1 : Int32) (q : Int32 × ab_M) (h : mi_X10_keepPlan_2 n M x1 = some q) (kk : ab_Ev l D ac 1 me_X10_keepPlan n0 0 0 r 0 0 ab_SH 28 [some (.ref 69), some (.int q.1)] [] q.2), ab_Ev l D ac 1 me_X10_keepPlan n0 0 0 r 0 0 ab_SH 2 [some (.ref 69), some (.int x1)] [] M := by
  intro n
  induction n with
  | zero =>
    intro M x1 q h kk
    cases h
  | succ n ih =>
    intro M x1 q h kk
    unfold mi_X10_keepPlan_2 at h
    refine ev_iload_n dX10_keepPlan_2 rfl ?_
    refine ev_aload_n dX10_keepPlan_3 rfl ?_
    refine ev_geti fl_RX10_108 sh_69 (by decide) (by decide) rfl dX10_keepPlan_4 ?_
    refine ev_icmp_ge (t := 28) dX10_keepPlan_7 (by decide) (fun hc1 => ?_) (fun hc1 => ?_)
    · replace h := ab_pos hc1 h
      cases h
      exact kk
    · replace h := ab_neg hc1 h
      refine ev_aload_n dX10_keepPlan_10 rfl ?_
      refine ev_getr (o' := 85) fl_RX10_65 sh_69 (by decide) (by decide) rfl rfl dX10_keepPlan_11 ?_
      refine ev_iload_n dX10_keepPlan_14 rfl ?_
      refine ev_aload_n dX10_keepPlan_15 rfl ?_
      refine ev_getr (o' := 80) fl_RX10_40 sh_69 (by decide) (by decide) rfl rfl dX10_keepPlan_16 ?_
      refine ev_iload_n dX10_keepPlan_19 rfl ?_
      obtain ⟨hb2, h⟩ := ab_chk_some h
      refine ev_iaload sh_80 hb2 dX10_keepPlan_20 ?_
      obtain ⟨hb3, h⟩ := ab_chk_some h
      refine ev_iastore sh_85 hb3 dX10_keepPlan_21 ?_
      refine ev_iinc (y := x1 + 1) dX10_keepPlan_22 rfl (by first | rfl | decide) rfl rfl ?_
      refine ev_goto (t := 2) dX10_keepPlan_25 (by decide) ?_
      exact ih (ab_pi M 85 (x1).toNatClampNeg (M.1 80 (x1).toNatClampNeg)) (x1 + 1) _ h kk

noncomputable def mi_X10_keepPlan (M : ab_M) : Option (ab_M) :=
  (mi_X10_keepPlan_2 ab_F M 0).bind fun q4 =>
  some q4.2

set_option maxHeartbeats 4000000 in
set_option maxRecDepth 100000 in
theorem co_X10_keepPlan {l : Launch} {D : va_G} {ac : Nat → ClassId} (M : ab_M) (z : ab_M) (h : mi_X10_keepPlan M = some z) : ab_Con l D ac 1 me_X10_keepPlan 0 0 [.ref 69] ab_SH M (none, ab_SH, z) := by
  refine ab_intro (lv := [some (.ref 69), none]) (by decide) rfl (Nat.le_of_ble_eq_true rfl) rfl ?_
  unfold mi_X10_keepPlan at h
  refine ev_iconst (x := 0) dX10_keepPlan_0 (by decide) ?_
  refine ev_istore_n dX10_keepPlan_1 (Nat.le_of_ble_eq_true rfl) rfl rfl ?_
  obtain ⟨q4, hq5, h⟩ := ab_bind h
  refine lp_X10_keepPlan_2 _ M 0 _ hq5 ?_
  cases h
  exact ev_return rfl dX10_keepPlan_28

noncomputable def mi_X10_givePlan_2 : Nat → ab_M → Int32 → Option (Int32 × ab_M)
  | 0, _, _ => none
  | n + 1, M, x1 =>
    if (M.1 69 10) ≤ x1 then
      some (x1, M)
    else
      ab_chk (vp_in x1 16) <|
      ab_chk (vp_in x1 16) <|
      mi_X10_givePlan_2 n (ab_pi M 80 (x1).toNatClampNeg (M.1 85 (x1).toNatClampNeg)) (x1 + 1)

set_option maxHeartbeats 4000000 in
set_option maxRecDepth 100000 in
theorem lp_X10_givePlan_2 {l : Launch} {D : va_G} {ac : Nat → ClassId} {n0 : Nat} {r : ab_Rs} : ∀ (n : Nat) (M : ab_M) (x1 : Int32) (q : Int32 × ab_M) (h : mi_X10_givePlan_2 n M x1 = some q) (kk : ab_Ev l D ac 1 me_X10_givePlan n0 0 0 r 0 0 ab_SH 28 [some (.ref 69), some (.int q.1)] [] q.2), ab_Ev l D ac 1 me_X10_givePlan n0 0 0 r 0 0 ab_SH 2 [some (.ref 69), some (.int x1)] [] M := by
  intro n
  induction n with
  | zero =>
    intro M x1 q h kk
    cases h
  | succ n ih =>
    intro M x1 q h kk
    unfold mi_X10_givePlan_2 at h
    refine ev_iload_n dX10_givePlan_2 rfl ?_
    refine ev_aload_n dX10_givePlan_3 rfl ?_
    refine ev_geti fl_RX10_108 sh_69 (by decide) (by decide) rfl dX10_givePlan_4 ?_
    refine ev_icmp_ge (t := 28) dX10_givePlan_7 (by decide) (fun hc1 => ?_) (fun hc1 => ?_)
    · replace h := ab_pos hc1 h
      cases h
      exact kk
    · replace h := ab_neg hc1 h
      refine ev_aload_n dX10_givePlan_10 rfl ?_
      refine ev_getr (o' := 80) fl_RX10_40 sh_69 (by decide) (by decide) rfl rfl dX10_givePlan_11 ?_
      refine ev_iload_n dX10_givePlan_14 rfl ?_
      refine ev_aload_n dX10_givePlan_15 rfl ?_
      refine ev_getr (o' := 85) fl_RX10_65 sh_69 (by decide) (by decide) rfl rfl dX10_givePlan_16 ?_
      refine ev_iload_n dX10_givePlan_19 rfl ?_
      obtain ⟨hb2, h⟩ := ab_chk_some h
      refine ev_iaload sh_85 hb2 dX10_givePlan_20 ?_
      obtain ⟨hb3, h⟩ := ab_chk_some h
      refine ev_iastore sh_80 hb3 dX10_givePlan_21 ?_
      refine ev_iinc (y := x1 + 1) dX10_givePlan_22 rfl (by first | rfl | decide) rfl rfl ?_
      refine ev_goto (t := 2) dX10_givePlan_25 (by decide) ?_
      exact ih (ab_pi M 80 (x1).toNatClampNeg (M.1 85 (x1).toNatClampNeg)) (x1 + 1) _ h kk

noncomputable def mi_X10_givePlan (M : ab_M) : Option (ab_M) :=
  (mi_X10_givePlan_2 ab_F M 0).bind fun q4 =>
  some q4.2

set_option maxHeartbeats 4000000 in
set_option maxRecDepth 100000 in
theorem co_X10_givePlan {l : Launch} {D : va_G} {ac : Nat → ClassId} (M : ab_M) (z : ab_M) (h : mi_X10_givePlan M = some z) : ab_Con l D ac 1 me_X10_givePlan 0 0 [.ref 69] ab_SH M (none, ab_SH, z) := by
  refine ab_intro (lv := [some (.ref 69), none]) (by decide) rfl (Nat.le_of_ble_eq_true rfl) rfl ?_
  unfold mi_X10_givePlan at h
  refine ev_iconst (x := 0) dX10_givePlan_0 (by decide) ?_
  refine ev_istore_n dX10_givePlan_1 (Nat.le_of_ble_eq_true rfl) rfl rfl ?_
  obtain ⟨q4, hq5, h⟩ := ab_bind h
  refine lp_X10_givePlan_2 _ M 0 _ hq5 ?_
  cases h
  exact ev_return rfl dX10_givePlan_28

noncomputable def mi_X10_plan (M : ab_M) (x1 : Int32) : Option (Int32 × ab_M) :=
  (mi_X10_isIn (ab_pi M 69 0 0) (Int32.toInt64 x1) 1 30).bind fun q1 =>
  if q1 = 0 then
    some ((-1), (ab_pi M 69 0 0))
  else
    (mi_X10_keepPlan (ab_pi M 69 0 0)).bind fun q4 =>
    (mi_X10_tryBelow (ab_pi (ab_pi q4 69 25 0) 69 26 0) x1).bind fun q6 =>
    if q6.1 = 0 then
      (mi_X10_givePlan q6.2).bind fun q9 =>
      if (q9.1 69 26) = 0 then
        some (0, q9)
      else
        some ((-2), q9)
    else
      some (1, q6.2)

set_option maxHeartbeats 4000000 in
set_option maxRecDepth 100000 in
theorem co_X10_plan {l : Launch} {D : va_G} {ac : Nat → ClassId} (M : ab_M) (x1 : Int32) (z : Int32 × ab_M) (h : mi_X10_plan M x1 = some z) : ab_Con l D ac 7 me_X10_plan 0 0 [.ref 69, .int x1] ab_SH M (some (.int z.1), ab_SH, z.2) := by
  refine ab_intro (lv := [some (.ref 69), some (.int x1)]) (by decide) rfl (Nat.le_of_ble_eq_true rfl) rfl ?_
  unfold mi_X10_plan at h
  refine ev_aload_n dX10_plan_0 rfl ?_
  refine ev_iconst (x := 0) dX10_plan_1 (by decide) ?_
  refine ev_puti fl_RX10_102 sh_69 (by decide) (by decide) rfl rfl rfl dX10_plan_2 ?_
  refine ev_iload_n dX10_plan_5 rfl ?_
  refine ev_i2l dX10_plan_6 ?_
  refine ev_lconst (x := 1) dX10_plan_7 (by decide) ?_
  refine ev_ldc2 kw_RX10_218 dX10_plan_8 ?_
  obtain ⟨q1, hv2, h⟩ := ab_bind h
  refine ev_callS (st := []) (co_X10_isIn (ab_pi M 69 0 0) (Int32.toInt64 x1) 1 30 _ hv2) mv_X10_isIn ml_RX10_113 dX10_plan_11 (by decide) rfl (Nat.le_of_ble_eq_true rfl) ⟨Nat.le_refl _, Nat.le_refl _⟩ ?_
  refine ev_if_ne (t := 19) dX10_plan_14 (by decide) (fun hc3 => ?_) (fun hc3 => ?_)
  · replace h := ab_neg hc3 h
    refine ev_aload_n dX10_plan_19 rfl ?_
    obtain ⟨q4, hv5, h⟩ := ab_bind h
    refine ev_callV (st := []) (co_X10_keepPlan (ab_pi M 69 0 0) _ hv5) mv_X10_keepPlan sh_69 ml_RX10_220 dX10_plan_20 (by decide) rfl (Nat.le_of_ble_eq_true rfl) ⟨Nat.le_refl _, Nat.le_refl _⟩ ?_
    refine ev_aload_n dX10_plan_23 rfl ?_
    refine ev_iconst (x := 0) dX10_plan_24 (by decide) ?_
    refine ev_puti fl_RX10_212 sh_69 (by decide) (by decide) rfl rfl rfl dX10_plan_25 ?_
    refine ev_aload_n dX10_plan_28 rfl ?_
    refine ev_iconst (x := 0) dX10_plan_29 (by decide) ?_
    refine ev_puti fl_RX10_208 sh_69 (by decide) (by decide) rfl rfl rfl dX10_plan_30 ?_
    refine ev_aload_n dX10_plan_33 rfl ?_
    refine ev_iload_n dX10_plan_34 rfl ?_
    obtain ⟨q6, hv7, h⟩ := ab_bind h
    refine ev_callV (st := []) (co_X10_tryBelow (ab_pi (ab_pi q4 69 25 0) 69 26 0) x1 _ hv7) mv_X10_tryBelow sh_69 ml_RX10_223 dX10_plan_35 (by decide) rfl (Nat.le_of_ble_eq_true rfl) ⟨Nat.le_refl _, Nat.le_refl _⟩ ?_
    refine ev_if_eq (t := 43) dX10_plan_38 (by decide) (fun hc8 => ?_) (fun hc8 => ?_)
    · replace h := ab_pos hc8 h
      refine ev_aload_n dX10_plan_43 rfl ?_
      obtain ⟨q9, hv10, h⟩ := ab_bind h
      refine ev_callV (st := []) (co_X10_givePlan q6.2 _ hv10) mv_X10_givePlan sh_69 ml_RX10_226 dX10_plan_44 (by decide) rfl (Nat.le_of_ble_eq_true rfl) ⟨Nat.le_refl _, Nat.le_refl _⟩ ?_
      refine ev_aload_n dX10_plan_47 rfl ?_
      refine ev_geti fl_RX10_208 sh_69 (by decide) (by decide) rfl dX10_plan_48 ?_
      refine ev_if_eq (t := 59) dX10_plan_51 (by decide) (fun hc11 => ?_) (fun hc11 => ?_)
      · replace h := ab_pos hc11 h
        refine ev_iconst (x := 0) dX10_plan_59 (by decide) ?_
        cases h
        exact ev_ireturn rfl dX10_plan_60
      · replace h := ab_neg hc11 h
        refine ev_bipush (x := (-2)) dX10_plan_54 (by decide) ?_
        refine ev_goto (t := 60) dX10_plan_56 (by decide) ?_
        cases h
        exact ev_ireturn rfl dX10_plan_60
    · replace h := ab_neg hc8 h
      refine ev_iconst (x := 1) dX10_plan_41 (by decide) ?_
      cases h
      exact ev_ireturn rfl dX10_plan_42
  · replace h := ab_pos hc3 h
    refine ev_iconst (x := (-1)) dX10_plan_17 (by decide) ?_
    cases h
    exact ev_ireturn rfl dX10_plan_18

noncomputable def mi_X10_tries (M : ab_M) : Option (Int32 × ab_M) :=
  some ((ab_pi M 69 0 0).1 69 25, (ab_pi M 69 0 0))

set_option maxHeartbeats 4000000 in
set_option maxRecDepth 100000 in
theorem co_X10_tries {l : Launch} {D : va_G} {ac : Nat → ClassId} (M : ab_M) (z : Int32 × ab_M) (h : mi_X10_tries M = some z) : ab_Con l D ac 1 me_X10_tries 0 0 [.ref 69] ab_SH M (some (.int z.1), ab_SH, z.2) := by
  refine ab_intro (lv := [some (.ref 69)]) (by decide) rfl (Nat.le_of_ble_eq_true rfl) rfl ?_
  unfold mi_X10_tries at h
  refine ev_aload_n dX10_tries_0 rfl ?_
  refine ev_iconst (x := 0) dX10_tries_1 (by decide) ?_
  refine ev_puti fl_RX10_102 sh_69 (by decide) (by decide) rfl rfl rfl dX10_tries_2 ?_
  refine ev_aload_n dX10_tries_5 rfl ?_
  refine ev_geti fl_RX10_212 sh_69 (by decide) (by decide) rfl dX10_tries_6 ?_
  cases h
  exact ev_ireturn rfl dX10_tries_9

noncomputable def mi_X10_least_21 : Nat → ab_M → Int32 → Option (Sum (Int32 × ab_M) (Int32 × ab_M))
  | 0, _, _ => none
  | n + 1, M, x1 =>
    if 30 < x1 then
      some (.inl (x1, M))
    else
      if (M.1 69 26) = 0 then
        (mi_X10_tryBelow M x1).bind fun q5 =>
        if q5.1 = 0 then
          mi_X10_least_21 n q5.2 (x1 + 1)
        else
          some (.inr (x1, q5.2))
      else
        some (.inl (x1, M))

set_option maxHeartbeats 4000000 in
set_option maxRecDepth 100000 in
theorem lp_X10_least_21 {l : Launch} {D : va_G} {ac : Nat → ClassId} {n0 : Nat} {r : ab_Rs} : ∀ (n : Nat) (M : ab_M) (x1 : Int32) (q : Sum (Int32 × ab_M) (Int32 × ab_M)) (h : mi_X10_least_21 n M x1 = some q) (kk : ∀ y, q = .inl y → ab_Ev l D ac 7 me_X10_least n0 0 0 r 0 0 ab_SH 50 [some (.ref 69), some (.int y.1)] [] y.2) (kr : ∀ v, q = .inr v → r = (some (.int v.1), ab_SH, v.2)), ab_Ev l D ac 7 me_X10_least n0 0 0 r 0 0 ab_SH 21 [some (.ref 69), some (.int x1)] [] M := by
  intro n
  induction n with
  | zero =>
    intro M x1 q h kk kr
    cases h
  | succ n ih =>
    intro M x1 q h kk kr
    unfold mi_X10_least_21 at h
    refine ev_iload_n dX10_least_21 rfl ?_
    refine ev_bipush (x := 30) dX10_least_22 (by decide) ?_
    refine ev_icmp_gt (t := 50) dX10_least_24 (by decide) (fun hc3 => ?_) (fun hc3 => ?_)
    · replace h := ab_pos hc3 h
      cases h
      exact kk _ rfl
    · replace h := ab_neg hc3 h
      refine ev_aload_n dX10_least_27 rfl ?_
      refine ev_geti fl_RX10_208 sh_69 (by decide) (by decide) rfl dX10_least_28 ?_
      refine ev_if_ne (t := 50) dX10_least_31 (by decide) (fun hc4 => ?_) (fun hc4 => ?_)
      · replace h := ab_neg hc4 h
        cases h
        exact kk _ rfl
      · replace h := ab_pos hc4 h
        refine ev_aload_n dX10_least_34 rfl ?_
        refine ev_iload_n dX10_least_35 rfl ?_
        obtain ⟨q5, hv6, h⟩ := ab_bind h
        refine ev_callV (st := []) (co_X10_tryBelow M x1 _ hv6) mv_X10_tryBelow sh_69 ml_RX10_223 dX10_least_36 (by decide) rfl (Nat.le_of_ble_eq_true rfl) ⟨Nat.le_refl _, Nat.le_refl _⟩ ?_
        refine ev_if_eq (t := 44) dX10_least_39 (by decide) (fun hc7 => ?_) (fun hc7 => ?_)
        · replace h := ab_pos hc7 h
          refine ev_iinc (y := x1 + 1) dX10_least_44 rfl (by first | rfl | decide) rfl rfl ?_
          refine ev_goto (t := 21) dX10_least_47 (by decide) ?_
          exact ih q5.2 (x1 + 1) _ h kk kr
        · replace h := ab_neg hc7 h
          refine ev_iload_n dX10_least_42 rfl ?_
          cases h
          rw [kr _ rfl]
          exact ev_ireturn rfl dX10_least_43

noncomputable def mi_X10_least (M : ab_M) : Option (Int32 × ab_M) :=
  (mi_X10_keepPlan (ab_pi M 69 0 0)).bind fun q1 =>
  (mi_X10_least_21 ab_F (ab_pi (ab_pi q1 69 25 0) 69 26 0) 1).bind fun q14 => Sum.elim (fun q8 =>
  (mi_X10_givePlan q8.2).bind fun q10 =>
  if (q10.1 69 26) = 0 then
    some ((-3), q10)
  else
    some ((-2), q10)) (fun v13 => some v13) q14

set_option maxHeartbeats 4000000 in
set_option maxRecDepth 100000 in
theorem co_X10_least {l : Launch} {D : va_G} {ac : Nat → ClassId} (M : ab_M) (z : Int32 × ab_M) (h : mi_X10_least M = some z) : ab_Con l D ac 7 me_X10_least 0 0 [.ref 69] ab_SH M (some (.int z.1), ab_SH, z.2) := by
  refine ab_intro (lv := [some (.ref 69), none]) (by decide) rfl (Nat.le_of_ble_eq_true rfl) rfl ?_
  unfold mi_X10_least at h
  refine ev_aload_n dX10_least_0 rfl ?_
  refine ev_iconst (x := 0) dX10_least_1 (by decide) ?_
  refine ev_puti fl_RX10_102 sh_69 (by decide) (by decide) rfl rfl rfl dX10_least_2 ?_
  refine ev_aload_n dX10_least_5 rfl ?_
  obtain ⟨q1, hv2, h⟩ := ab_bind h
  refine ev_callV (st := []) (co_X10_keepPlan (ab_pi M 69 0 0) _ hv2) mv_X10_keepPlan sh_69 ml_RX10_220 dX10_least_6 (by decide) rfl (Nat.le_of_ble_eq_true rfl) ⟨Nat.le_refl _, Nat.le_refl _⟩ ?_
  refine ev_aload_n dX10_least_9 rfl ?_
  refine ev_iconst (x := 0) dX10_least_10 (by decide) ?_
  refine ev_puti fl_RX10_212 sh_69 (by decide) (by decide) rfl rfl rfl dX10_least_11 ?_
  refine ev_aload_n dX10_least_14 rfl ?_
  refine ev_iconst (x := 0) dX10_least_15 (by decide) ?_
  refine ev_puti fl_RX10_208 sh_69 (by decide) (by decide) rfl rfl rfl dX10_least_16 ?_
  refine ev_iconst (x := 1) dX10_least_19 (by decide) ?_
  refine ev_istore_n dX10_least_20 (Nat.le_of_ble_eq_true rfl) rfl rfl ?_
  obtain ⟨q14, hq9, h⟩ := ab_bind h
  rcases ab_elim h with ⟨q8, rfl, h⟩ | ⟨v13, rfl, h⟩
  · refine lp_X10_least_21 _ (ab_pi (ab_pi q1 69 25 0) 69 26 0) 1 _ hq9 (fun z e15 => ?_) (fun z e15 => by cases e15)
    cases e15
    refine ev_aload_n dX10_least_50 rfl ?_
    obtain ⟨q10, hv11, h⟩ := ab_bind h
    refine ev_callV (st := []) (co_X10_givePlan q8.2 _ hv11) mv_X10_givePlan sh_69 ml_RX10_226 dX10_least_51 (by decide) rfl (Nat.le_of_ble_eq_true rfl) ⟨Nat.le_refl _, Nat.le_refl _⟩ ?_
    refine ev_aload_n dX10_least_54 rfl ?_
    refine ev_geti fl_RX10_208 sh_69 (by decide) (by decide) rfl dX10_least_55 ?_
    refine ev_if_eq (t := 66) dX10_least_58 (by decide) (fun hc12 => ?_) (fun hc12 => ?_)
    · replace h := ab_pos hc12 h
      refine ev_bipush (x := (-3)) dX10_least_66 (by decide) ?_
      cases h
      exact ev_ireturn rfl dX10_least_68
    · replace h := ab_neg hc12 h
      refine ev_bipush (x := (-2)) dX10_least_61 (by decide) ?_
      refine ev_goto (t := 68) dX10_least_63 (by decide) ?_
      cases h
      exact ev_ireturn rfl dX10_least_68
  · refine lp_X10_least_21 _ (ab_pi (ab_pi q1 69 25 0) 69 26 0) 1 _ hq9 (fun z e15 => by cases e15) (fun z e15 => ?_)
    cases e15
    cases h
    rfl

noncomputable def mi_X10_span_24 : Nat → ab_M → Int32 → Int32 → Int32 → Int32 → Option (Int32 × Int32 × Int32)
  | 0, _, _, _, _, _ => none
  | n + 1, M, x1, x2, x3, x4 =>
    (mi_X10_channelsOf M x3).bind fun q2 =>
    if q2 ≤ x4 then
      some (x1, x2, x4)
    else
      (mi_X10_channelOf M x3 x4).bind fun q5 =>
      ((if x1 ≤ q5 then
        some x1
      else
        some q5) : Option (Int32)).bind fun q7 =>
      ((if q5 ≤ x2 then
        some x2
      else
        some q5) : Option (Int32)).bind fun q11 =>
      mi_X10_span_24 n M q7 q11 x3 (x4 + 1)

set_option maxHeartbeats 4000000 in
set_option maxRecDepth 100000 in
theorem lp_X10_span_24 {l : Launch} {D : va_G} {ac : Nat → ClassId} {n0 : Nat} {r : ab_Rs} : ∀ (n : Nat) (M : ab_M) (x1 : Int32) (x2 : Int32) (x3 : Int32) (x4 : Int32) (q : Int32 × Int32 × Int32) (h : mi_X10_span_24 n M x1 x2 x3 x4 = some q) (kk : ab_Ev l D ac 2 me_X10_span n0 0 0 r 0 0 ab_SH 75 [some (.ref 69), some (.int q.1), some (.int q.2.1), some (.int x3), some (.int q.2.2), none] [] M), ab_Ev l D ac 2 me_X10_span n0 0 0 r 0 0 ab_SH 24 [some (.ref 69), some (.int x1), some (.int x2), some (.int x3), some (.int x4), none] [] M := by
  intro n
  induction n with
  | zero =>
    intro M x1 x2 x3 x4 q h kk
    cases h
  | succ n ih =>
    intro M x1 x2 x3 x4 q h kk
    unfold mi_X10_span_24 at h
    refine ev_iload dX10_span_24 rfl ?_
    refine ev_aload_n dX10_span_26 rfl ?_
    refine ev_iload_n dX10_span_27 rfl ?_
    obtain ⟨q2, hv3, h⟩ := ab_bind h
    refine ev_callV (st := [.int x4]) (co_X10_channelsOf M x3 _ hv3) mv_X10_channelsOf sh_69 ml_RX10_179 dX10_span_28 (by decide) rfl (Nat.le_of_ble_eq_true rfl) ⟨Nat.le_refl _, Nat.le_refl _⟩ ?_
    refine ev_icmp_ge (t := 75) dX10_span_31 (by decide) (fun hc4 => ?_) (fun hc4 => ?_)
    · replace h := ab_pos hc4 h
      cases h
      exact kk
    · replace h := ab_neg hc4 h
      refine ev_aload_n dX10_span_34 rfl ?_
      refine ev_iload_n dX10_span_35 rfl ?_
      refine ev_iload dX10_span_36 rfl ?_
      obtain ⟨q5, hv6, h⟩ := ab_bind h
      refine ev_callV (st := []) (co_X10_channelOf M x3 x4 _ hv6) mv_X10_channelOf sh_69 ml_RX10_182 dX10_span_38 (by decide) rfl (Nat.le_of_ble_eq_true rfl) ⟨Nat.le_refl _, Nat.le_refl _⟩ ?_
      refine ev_istore dX10_span_41 (Nat.le_of_ble_eq_true rfl) rfl rfl ?_
      refine ev_iload dX10_span_43 rfl ?_
      refine ev_iload_n dX10_span_45 rfl ?_
      obtain ⟨q7, hq8, h⟩ := ab_bind h
      have hJ9 : ab_Ev l D ac 2 me_X10_span n0 0 0 r 0 0 ab_SH 55 [some (.ref 69), some (.int x1), some (.int x2), some (.int x3), some (.int x4), some (.int q5)] [.int q7] M := by
        refine ev_istore_n dX10_span_55 (Nat.le_of_ble_eq_true rfl) rfl rfl ?_
        refine ev_iload dX10_span_56 rfl ?_
        refine ev_iload_n dX10_span_58 rfl ?_
        obtain ⟨q11, hq12, h⟩ := ab_bind h
        have hJ13 : ab_Ev l D ac 2 me_X10_span n0 0 0 r 0 0 ab_SH 68 [some (.ref 69), some (.int q7), some (.int x2), some (.int x3), some (.int x4), some (.int q5)] [.int q11] M := by
          refine ev_istore_n dX10_span_68 (Nat.le_of_ble_eq_true rfl) rfl rfl ?_
          refine ev_iinc (y := x4 + 1) dX10_span_69 rfl (by first | rfl | decide) rfl rfl ?_
          refine ev_goto (t := 24) dX10_span_72 (by decide) ?_
          refine ev_drop (lv' := [some (.ref 69), some (.int q7), some (.int q11), some (.int x3), some (.int (x4 + 1)), none]) (ab_sub_k (ab_sub_k (ab_sub_k (ab_sub_k (ab_sub_k (ab_sub_d ab_sub_nil)))))) ?_
          exact ih M q7 q11 x3 (x4 + 1) _ h kk
        refine ev_icmp_le (t := 67) dX10_span_59 (by decide) (fun hc14 => ?_) (fun hc14 => ?_)
        · replace hq12 := ab_pos hc14 hq12
          refine ev_iload_n dX10_span_67 rfl ?_
          cases hq12
          exact hJ13
        · replace hq12 := ab_neg hc14 hq12
          refine ev_iload dX10_span_62 rfl ?_
          refine ev_goto (t := 68) dX10_span_64 (by decide) ?_
          cases hq12
          exact hJ13
      refine ev_icmp_ge (t := 54) dX10_span_46 (by decide) (fun hc10 => ?_) (fun hc10 => ?_)
      · replace hq8 := ab_pos hc10 hq8
        refine ev_iload_n dX10_span_54 rfl ?_
        cases hq8
        exact hJ9
      · replace hq8 := ab_neg hc10 hq8
        refine ev_iload dX10_span_49 rfl ?_
        refine ev_goto (t := 55) dX10_span_51 (by decide) ?_
        cases hq8
        exact hJ9

noncomputable def mi_X10_span_13 : Nat → ab_M → Int32 → Int32 → Int32 → Option (Int32 × Int32 × Int32)
  | 0, _, _, _, _ => none
  | n + 1, M, x1, x2, x3 =>
    if (M.1 69 10) ≤ x3 then
      some (x1, x2, x3)
    else
      (mi_X10_span_24 ab_F M x1 x2 x3 0).bind fun q15 =>
      mi_X10_span_13 n M q15.1 q15.2.1 (x3 + 1)

set_option maxHeartbeats 4000000 in
set_option maxRecDepth 100000 in
theorem lp_X10_span_13 {l : Launch} {D : va_G} {ac : Nat → ClassId} {n0 : Nat} {r : ab_Rs} : ∀ (n : Nat) (M : ab_M) (x1 : Int32) (x2 : Int32) (x3 : Int32) (q : Int32 × Int32 × Int32) (h : mi_X10_span_13 n M x1 x2 x3 = some q) (kk : ab_Ev l D ac 2 me_X10_span n0 0 0 r 0 0 ab_SH 81 [some (.ref 69), some (.int q.1), some (.int q.2.1), some (.int q.2.2), none, none] [] M), ab_Ev l D ac 2 me_X10_span n0 0 0 r 0 0 ab_SH 13 [some (.ref 69), some (.int x1), some (.int x2), some (.int x3), none, none] [] M := by
  intro n
  induction n with
  | zero =>
    intro M x1 x2 x3 q h kk
    cases h
  | succ n ih =>
    intro M x1 x2 x3 q h kk
    unfold mi_X10_span_13 at h
    refine ev_iload_n dX10_span_13 rfl ?_
    refine ev_aload_n dX10_span_14 rfl ?_
    refine ev_geti fl_RX10_108 sh_69 (by decide) (by decide) rfl dX10_span_15 ?_
    refine ev_icmp_ge (t := 81) dX10_span_18 (by decide) (fun hc1 => ?_) (fun hc1 => ?_)
    · replace h := ab_pos hc1 h
      cases h
      exact kk
    · replace h := ab_neg hc1 h
      refine ev_iconst (x := 0) dX10_span_21 (by decide) ?_
      refine ev_istore dX10_span_22 (Nat.le_of_ble_eq_true rfl) rfl rfl ?_
      obtain ⟨q15, hq16, h⟩ := ab_bind h
      refine lp_X10_span_24 _ M x1 x2 x3 0 _ hq16 ?_
      refine ev_iinc (y := x3 + 1) dX10_span_75 rfl (by first | rfl | decide) rfl rfl ?_
      refine ev_goto (t := 13) dX10_span_78 (by decide) ?_
      refine ev_drop (lv' := [some (.ref 69), some (.int q15.1), some (.int q15.2.1), some (.int (x3 + 1)), none, none]) (ab_sub_k (ab_sub_k (ab_sub_k (ab_sub_k (ab_sub_d (ab_sub_k ab_sub_nil)))))) ?_
      exact ih M q15.1 q15.2.1 (x3 + 1) _ h kk

noncomputable def mi_X10_span (M : ab_M) : Option (Int32 × ab_M) :=
  (mi_X10_span_13 ab_F (ab_pi M 69 0 0) 1000 (-1) 0).bind fun q17 =>
  if 0 ≤ q17.2.1 then
    some (q17.2.1 - q17.1, (ab_pi M 69 0 0))
  else
    some ((-2), (ab_pi M 69 0 0))

set_option maxHeartbeats 4000000 in
set_option maxRecDepth 100000 in
theorem co_X10_span {l : Launch} {D : va_G} {ac : Nat → ClassId} (M : ab_M) (z : Int32 × ab_M) (h : mi_X10_span M = some z) : ab_Con l D ac 2 me_X10_span 0 0 [.ref 69] ab_SH M (some (.int z.1), ab_SH, z.2) := by
  refine ab_intro (lv := [some (.ref 69), none, none, none, none, none]) (by decide) rfl (Nat.le_of_ble_eq_true rfl) rfl ?_
  unfold mi_X10_span at h
  refine ev_aload_n dX10_span_0 rfl ?_
  refine ev_iconst (x := 0) dX10_span_1 (by decide) ?_
  refine ev_puti fl_RX10_102 sh_69 (by decide) (by decide) rfl rfl rfl dX10_span_2 ?_
  refine ev_sipush (x := 1000) dX10_span_5 (by decide) ?_
  refine ev_istore_n dX10_span_8 (Nat.le_of_ble_eq_true rfl) rfl rfl ?_
  refine ev_iconst (x := (-1)) dX10_span_9 (by decide) ?_
  refine ev_istore_n dX10_span_10 (Nat.le_of_ble_eq_true rfl) rfl rfl ?_
  refine ev_iconst (x := 0) dX10_span_11 (by decide) ?_
  refine ev_istore_n dX10_span_12 (Nat.le_of_ble_eq_true rfl) rfl rfl ?_
  obtain ⟨q17, hq18, h⟩ := ab_bind h
  refine lp_X10_span_13 _ (ab_pi M 69 0 0) 1000 (-1) 0 _ hq18 ?_
  refine ev_iload_n dX10_span_81 rfl ?_
  refine ev_if_ge (t := 90) dX10_span_82 (by decide) (fun hc19 => ?_) (fun hc19 => ?_)
  · replace h := ab_pos hc19 h
    refine ev_iload_n dX10_span_90 rfl ?_
    refine ev_iload_n dX10_span_91 rfl ?_
    refine ev_isub dX10_span_92 ?_
    cases h
    exact ev_ireturn rfl dX10_span_93
  · replace h := ab_neg hc19 h
    refine ev_bipush (x := (-2)) dX10_span_85 (by decide) ?_
    refine ev_goto (t := 93) dX10_span_87 (by decide) ?_
    cases h
    exact ev_ireturn rfl dX10_span_93

noncomputable def mi_X10_isBettered_36 : Nat → ab_M → Int32 → Int32 → Int32 → Int32 → Int32 → Int32 → Option (Int32 × Int32 × Int32 × Int32 × ab_M)
  | 0, _, _, _, _, _, _, _ => none
  | n + 1, M, x2, x3, x4, x5, x6, x7 =>
    if 30 ≤ x7 then
      some (x2, x3, x4, x7, M)
    else
      if x6 < 0 then
        some (x2, x3, x4, x7, M)
      else
        ab_chk (vp_in x5 16) <|
        if 0 ≤ (M.1 79 (x5).toNatClampNeg) then
          some (x2, x3, x4, x7, M)
        else
          ((if x7 = x6 then
            some (x2, x3, x4, M)
          else
            (mi_X10_mayHave M x5 x7).bind fun q13 =>
            if q13 = 0 then
              some (x2, x3, x4, M)
            else
              ab_chk (vp_in x5 16) <|
              (mi_X10_harmNow (ab_pi M 80 (x5).toNatClampNeg x7)).bind fun q17 =>
              ab_chk (vp_in x5 16) <|
              if x2 ≤ q17 then
                some (x2, x3, x4, (ab_pi (ab_pi M 80 (x5).toNatClampNeg x7) 80 (x5).toNatClampNeg x6))
              else
                some (q17, x5, x7, (ab_pi (ab_pi M 80 (x5).toNatClampNeg x7) 80 (x5).toNatClampNeg x6))) : Option (Int32 × Int32 × Int32 × ab_M)).bind fun q9 =>
          mi_X10_isBettered_36 n q9.2.2.2 q9.1 q9.2.1 q9.2.2.1 x5 x6 (x7 + 1)

set_option maxHeartbeats 4000000 in
set_option maxRecDepth 100000 in
theorem lp_X10_isBettered_36 {l : Launch} {D : va_G} {ac : Nat → ClassId} {n0 : Nat} {r : ab_Rs} : ∀ (n : Nat) (M : ab_M) (x2 : Int32) (x3 : Int32) (x4 : Int32) (x5 : Int32) (x6 : Int32) (x7 : Int32) (q : Int32 × Int32 × Int32 × Int32 × ab_M) (h : mi_X10_isBettered_36 n M x2 x3 x4 x5 x6 x7 = some q) (kk : ab_Ev l D ac 6 me_X10_isBettered n0 0 0 r 0 0 ab_SH 122 [some (.ref 69), none, some (.int q.1), some (.int q.2.1), some (.int q.2.2.1), some (.int x5), some (.int x6), some (.int q.2.2.2.1), none] [] q.2.2.2.2), ab_Ev l D ac 6 me_X10_isBettered n0 0 0 r 0 0 ab_SH 36 [some (.ref 69), none, some (.int x2), some (.int x3), some (.int x4), some (.int x5), some (.int x6), some (.int x7), none] [] M := by
  intro n
  induction n with
  | zero =>
    intro M x2 x3 x4 x5 x6 x7 q h kk
    cases h
  | succ n ih =>
    intro M x2 x3 x4 x5 x6 x7 q h kk
    unfold mi_X10_isBettered_36 at h
    refine ev_iload dX10_isBettered_36 rfl ?_
    refine ev_bipush (x := 30) dX10_isBettered_38 (by decide) ?_
    refine ev_icmp_ge (t := 122) dX10_isBettered_40 (by decide) (fun hc5 => ?_) (fun hc5 => ?_)
    · replace h := ab_pos hc5 h
      cases h
      exact kk
    · replace h := ab_neg hc5 h
      refine ev_iload dX10_isBettered_43 rfl ?_
      refine ev_if_lt (t := 122) dX10_isBettered_45 (by decide) (fun hc6 => ?_) (fun hc6 => ?_)
      · replace h := ab_pos hc6 h
        cases h
        exact kk
      · replace h := ab_neg hc6 h
        refine ev_aload_n dX10_isBettered_48 rfl ?_
        refine ev_getr (o' := 79) fl_RX10_37 sh_69 (by decide) (by decide) rfl rfl dX10_isBettered_49 ?_
        refine ev_iload dX10_isBettered_52 rfl ?_
        obtain ⟨hb7, h⟩ := ab_chk_some h
        refine ev_iaload sh_79 hb7 dX10_isBettered_54 ?_
        refine ev_if_ge (t := 122) dX10_isBettered_55 (by decide) (fun hc8 => ?_) (fun hc8 => ?_)
        · replace h := ab_pos hc8 h
          cases h
          exact kk
        · replace h := ab_neg hc8 h
          refine ev_iload dX10_isBettered_58 rfl ?_
          refine ev_iload dX10_isBettered_60 rfl ?_
          obtain ⟨q9, hq10, h⟩ := ab_bind h
          have hJ11 : ab_Ev l D ac 6 me_X10_isBettered n0 0 0 r 0 0 ab_SH 116 [some (.ref 69), none, some (.int q9.1), some (.int q9.2.1), some (.int q9.2.2.1), some (.int x5), some (.int x6), some (.int x7), none] [] q9.2.2.2 := by
            refine ev_iinc (y := x7 + 1) dX10_isBettered_116 rfl (by first | rfl | decide) rfl rfl ?_
            refine ev_goto (t := 36) dX10_isBettered_119 (by decide) ?_
            exact ih q9.2.2.2 q9.1 q9.2.1 q9.2.2.1 x5 x6 (x7 + 1) _ h kk
          refine ev_icmp_eq (t := 116) dX10_isBettered_62 (by decide) (fun hc12 => ?_) (fun hc12 => ?_)
          · replace hq10 := ab_pos hc12 hq10
            cases hq10
            exact hJ11
          · replace hq10 := ab_neg hc12 hq10
            refine ev_aload_n dX10_isBettered_65 rfl ?_
            refine ev_iload dX10_isBettered_66 rfl ?_
            refine ev_iload dX10_isBettered_68 rfl ?_
            obtain ⟨q13, hv14, hq10⟩ := ab_bind hq10
            refine ev_callV (st := []) (co_X10_mayHave M x5 x7 _ hv14) mv_X10_mayHave sh_69 ml_RX10_176 dX10_isBettered_70 (by decide) rfl (Nat.le_of_ble_eq_true rfl) ⟨Nat.le_refl _, Nat.le_refl _⟩ ?_
            refine ev_if_eq (t := 116) dX10_isBettered_73 (by decide) (fun hc15 => ?_) (fun hc15 => ?_)
            · replace hq10 := ab_pos hc15 hq10
              cases hq10
              exact hJ11
            · replace hq10 := ab_neg hc15 hq10
              refine ev_aload_n dX10_isBettered_76 rfl ?_
              refine ev_getr (o' := 80) fl_RX10_40 sh_69 (by decide) (by decide) rfl rfl dX10_isBettered_77 ?_
              refine ev_iload dX10_isBettered_80 rfl ?_
              refine ev_iload dX10_isBettered_82 rfl ?_
              obtain ⟨hb16, hq10⟩ := ab_chk_some hq10
              refine ev_iastore sh_80 hb16 dX10_isBettered_84 ?_
              refine ev_aload_n dX10_isBettered_85 rfl ?_
              obtain ⟨q17, hv18, hq10⟩ := ab_bind hq10
              refine ev_callV (st := []) (co_X10_harmNow (ab_pi M 80 (x5).toNatClampNeg x7) _ hv18) mv_X10_harmNow sh_69 ml_RX10_199 dX10_isBettered_86 (by decide) rfl (Nat.le_of_ble_eq_true rfl) ⟨Nat.le_refl _, Nat.le_refl _⟩ ?_
              refine ev_istore dX10_isBettered_89 (Nat.le_of_ble_eq_true rfl) rfl rfl ?_
              refine ev_aload_n dX10_isBettered_91 rfl ?_
              refine ev_getr (o' := 80) fl_RX10_40 sh_69 (by decide) (by decide) rfl rfl dX10_isBettered_92 ?_
              refine ev_iload dX10_isBettered_95 rfl ?_
              refine ev_iload dX10_isBettered_97 rfl ?_
              obtain ⟨hb19, hq10⟩ := ab_chk_some hq10
              refine ev_iastore sh_80 hb19 dX10_isBettered_99 ?_
              refine ev_iload dX10_isBettered_100 rfl ?_
              refine ev_iload_n dX10_isBettered_102 rfl ?_
              refine ev_icmp_ge (t := 116) dX10_isBettered_103 (by decide) (fun hc20 => ?_) (fun hc20 => ?_)
              · replace hq10 := ab_pos hc20 hq10
                cases hq10
                refine ev_drop (lv' := [some (.ref 69), none, some (.int x2), some (.int x3), some (.int x4), some (.int x5), some (.int x6), some (.int x7), none]) (ab_sub_k (ab_sub_k (ab_sub_k (ab_sub_k (ab_sub_k (ab_sub_k (ab_sub_k (ab_sub_k (ab_sub_d ab_sub_nil))))))))) ?_
                exact hJ11
              · replace hq10 := ab_neg hc20 hq10
                refine ev_iload dX10_isBettered_106 rfl ?_
                refine ev_istore_n dX10_isBettered_108 (Nat.le_of_ble_eq_true rfl) rfl rfl ?_
                refine ev_iload dX10_isBettered_109 rfl ?_
                refine ev_istore_n dX10_isBettered_111 (Nat.le_of_ble_eq_true rfl) rfl rfl ?_
                refine ev_iload dX10_isBettered_112 rfl ?_
                refine ev_istore dX10_isBettered_114 (Nat.le_of_ble_eq_true rfl) rfl rfl ?_
                cases hq10
                refine ev_drop (lv' := [some (.ref 69), none, some (.int q17), some (.int x5), some (.int x7), some (.int x5), some (.int x6), some (.int x7), none]) (ab_sub_k (ab_sub_k (ab_sub_k (ab_sub_k (ab_sub_k (ab_sub_k (ab_sub_k (ab_sub_k (ab_sub_d ab_sub_nil))))))))) ?_
                exact hJ11

noncomputable def mi_X10_isBettered_15 : Nat → ab_M → Int32 → Int32 → Int32 → Int32 → Option (Int32 × Int32 × Int32 × Int32 × ab_M)
  | 0, _, _, _, _, _ => none
  | n + 1, M, x2, x3, x4, x5 =>
    if (M.1 69 10) ≤ x5 then
      some (x2, x3, x4, x5, M)
    else
      ab_chk (vp_in x5 16) <|
      (mi_X10_isBettered_36 ab_F M x2 x3 x4 x5 (M.1 80 (x5).toNatClampNeg) 0).bind fun q21 =>
      mi_X10_isBettered_15 n q21.2.2.2.2 q21.1 q21.2.1 q21.2.2.1 (x5 + 1)

set_option maxHeartbeats 4000000 in
set_option maxRecDepth 100000 in
theorem lp_X10_isBettered_15 {l : Launch} {D : va_G} {ac : Nat → ClassId} {n0 : Nat} {r : ab_Rs} : ∀ (n : Nat) (M : ab_M) (x2 : Int32) (x3 : Int32) (x4 : Int32) (x5 : Int32) (q : Int32 × Int32 × Int32 × Int32 × ab_M) (h : mi_X10_isBettered_15 n M x2 x3 x4 x5 = some q) (kk : ab_Ev l D ac 6 me_X10_isBettered n0 0 0 r 0 0 ab_SH 128 [some (.ref 69), none, some (.int q.1), some (.int q.2.1), some (.int q.2.2.1), some (.int q.2.2.2.1), none, none, none] [] q.2.2.2.2), ab_Ev l D ac 6 me_X10_isBettered n0 0 0 r 0 0 ab_SH 15 [some (.ref 69), none, some (.int x2), some (.int x3), some (.int x4), some (.int x5), none, none, none] [] M := by
  intro n
  induction n with
  | zero =>
    intro M x2 x3 x4 x5 q h kk
    cases h
  | succ n ih =>
    intro M x2 x3 x4 x5 q h kk
    unfold mi_X10_isBettered_15 at h
    refine ev_iload dX10_isBettered_15 rfl ?_
    refine ev_aload_n dX10_isBettered_17 rfl ?_
    refine ev_geti fl_RX10_108 sh_69 (by decide) (by decide) rfl dX10_isBettered_18 ?_
    refine ev_icmp_ge (t := 128) dX10_isBettered_21 (by decide) (fun hc3 => ?_) (fun hc3 => ?_)
    · replace h := ab_pos hc3 h
      cases h
      exact kk
    · replace h := ab_neg hc3 h
      refine ev_aload_n dX10_isBettered_24 rfl ?_
      refine ev_getr (o' := 80) fl_RX10_40 sh_69 (by decide) (by decide) rfl rfl dX10_isBettered_25 ?_
      refine ev_iload dX10_isBettered_28 rfl ?_
      obtain ⟨hb4, h⟩ := ab_chk_some h
      refine ev_iaload sh_80 hb4 dX10_isBettered_30 ?_
      refine ev_istore dX10_isBettered_31 (Nat.le_of_ble_eq_true rfl) rfl rfl ?_
      refine ev_iconst (x := 0) dX10_isBettered_33 (by decide) ?_
      refine ev_istore dX10_isBettered_34 (Nat.le_of_ble_eq_true rfl) rfl rfl ?_
      obtain ⟨q21, hq22, h⟩ := ab_bind h
      refine lp_X10_isBettered_36 _ M x2 x3 x4 x5 (M.1 80 (x5).toNatClampNeg) 0 _ hq22 ?_
      refine ev_iinc (y := x5 + 1) dX10_isBettered_122 rfl (by first | rfl | decide) rfl rfl ?_
      refine ev_goto (t := 15) dX10_isBettered_125 (by decide) ?_
      refine ev_drop (lv' := [some (.ref 69), none, some (.int q21.1), some (.int q21.2.1), some (.int q21.2.2.1), some (.int (x5 + 1)), none, none, none]) (ab_sub_k (ab_sub_k (ab_sub_k (ab_sub_k (ab_sub_k (ab_sub_k (ab_sub_d (ab_sub_d (ab_sub_k ab_sub_nil))))))))) ?_
      exact ih q21.2.2.2.2 q21.1 q21.2.1 q21.2.2.1 (x5 + 1) _ h kk

noncomputable def mi_X10_isBettered (M : ab_M) : Option (Int32 × ab_M) :=
  (mi_X10_harmNow M).bind fun q1 =>
  (mi_X10_isBettered_15 ab_F M q1 (-1) (-1) 0).bind fun q23 =>
  ((if q23.2.1 < 0 then
    some q23.2.2.2.2
  else
    ab_chk (vp_in q23.2.1 16) <|
    some (ab_pi q23.2.2.2.2 80 (q23.2.1).toNatClampNeg q23.2.2.1)) : Option (ab_M)).bind fun q25 =>
  if q23.2.1 < 0 then
    some (0, q25)
  else
    some (1, q25)

set_option maxHeartbeats 4000000 in
set_option maxRecDepth 100000 in
theorem co_X10_isBettered {l : Launch} {D : va_G} {ac : Nat → ClassId} (M : ab_M) (z : Int32 × ab_M) (h : mi_X10_isBettered M = some z) : ab_Con l D ac 6 me_X10_isBettered 0 0 [.ref 69] ab_SH M (some (.int z.1), ab_SH, z.2) := by
  refine ab_intro (lv := [some (.ref 69), none, none, none, none, none, none, none, none]) (by decide) rfl (Nat.le_of_ble_eq_true rfl) rfl ?_
  unfold mi_X10_isBettered at h
  refine ev_aload_n dX10_isBettered_0 rfl ?_
  obtain ⟨q1, hv2, h⟩ := ab_bind h
  refine ev_callV (st := []) (co_X10_harmNow M _ hv2) mv_X10_harmNow sh_69 ml_RX10_199 dX10_isBettered_1 (by decide) rfl (Nat.le_of_ble_eq_true rfl) ⟨Nat.le_refl _, Nat.le_refl _⟩ ?_
  refine ev_istore_n dX10_isBettered_4 (Nat.le_of_ble_eq_true rfl) rfl rfl ?_
  refine ev_iload_n dX10_isBettered_5 rfl ?_
  refine ev_istore_n dX10_isBettered_6 (Nat.le_of_ble_eq_true rfl) rfl rfl ?_
  refine ev_iconst (x := (-1)) dX10_isBettered_7 (by decide) ?_
  refine ev_istore_n dX10_isBettered_8 (Nat.le_of_ble_eq_true rfl) rfl rfl ?_
  refine ev_iconst (x := (-1)) dX10_isBettered_9 (by decide) ?_
  refine ev_istore dX10_isBettered_10 (Nat.le_of_ble_eq_true rfl) rfl rfl ?_
  refine ev_iconst (x := 0) dX10_isBettered_12 (by decide) ?_
  refine ev_istore dX10_isBettered_13 (Nat.le_of_ble_eq_true rfl) rfl rfl ?_
  obtain ⟨q23, hq24, h⟩ := ab_bind h
  refine ev_drop (lv' := [some (.ref 69), none, some (.int q1), some (.int (-1)), some (.int (-1)), some (.int 0), none, none, none]) (ab_sub_k (ab_sub_d (ab_sub_k (ab_sub_k (ab_sub_k (ab_sub_k (ab_sub_k (ab_sub_k (ab_sub_k ab_sub_nil))))))))) ?_
  refine lp_X10_isBettered_15 _ M q1 (-1) (-1) 0 _ hq24 ?_
  refine ev_iload_n dX10_isBettered_128 rfl ?_
  obtain ⟨q25, hq26, h⟩ := ab_bind h
  have hJ27 : ab_Ev l D ac 6 me_X10_isBettered ab_SH.length 0 0 (some (.int z.1), ab_SH, z.2) 0 0 ab_SH 140 [some (.ref 69), none, some (.int q23.1), some (.int q23.2.1), some (.int q23.2.2.1), some (.int q23.2.2.2.1), none, none, none] [] q25 := by
    refine ev_iload_n dX10_isBettered_140 rfl ?_
    refine ev_if_lt (t := 148) dX10_isBettered_141 (by decide) (fun hc30 => ?_) (fun hc30 => ?_)
    · replace h := ab_pos hc30 h
      refine ev_iconst (x := 0) dX10_isBettered_148 (by decide) ?_
      cases h
      exact ev_zreturn rfl (Or.inl rfl) dX10_isBettered_149
    · replace h := ab_neg hc30 h
      refine ev_iconst (x := 1) dX10_isBettered_144 (by decide) ?_
      refine ev_goto (t := 149) dX10_isBettered_145 (by decide) ?_
      cases h
      exact ev_zreturn rfl (Or.inr rfl) dX10_isBettered_149
  refine ev_if_lt (t := 140) dX10_isBettered_129 (by decide) (fun hc28 => ?_) (fun hc28 => ?_)
  · replace hq26 := ab_pos hc28 hq26
    cases hq26
    exact hJ27
  · replace hq26 := ab_neg hc28 hq26
    refine ev_aload_n dX10_isBettered_132 rfl ?_
    refine ev_getr (o' := 80) fl_RX10_40 sh_69 (by decide) (by decide) rfl rfl dX10_isBettered_133 ?_
    refine ev_iload_n dX10_isBettered_136 rfl ?_
    refine ev_iload dX10_isBettered_137 rfl ?_
    obtain ⟨hb29, hq26⟩ := ab_chk_some hq26
    refine ev_iastore sh_80 hb29 dX10_isBettered_139 ?_
    cases hq26
    exact hJ27

noncomputable def mi_X10_better_21 : Nat → ab_M → Int32 → Int32 → Option (Int32 × ab_M)
  | 0, _, _, _ => none
  | n + 1, M, x1, x2 =>
    if x1 ≤ x2 then
      some (x2, M)
    else
      (mi_X10_isBettered M).bind fun q5 =>
      if q5.1 = 0 then
        some (x2, q5.2)
      else
        mi_X10_better_21 n q5.2 x1 (x2 + 1)

set_option maxHeartbeats 4000000 in
set_option maxRecDepth 100000 in
theorem lp_X10_better_21 {l : Launch} {D : va_G} {ac : Nat → ClassId} {n0 : Nat} {r : ab_Rs} : ∀ (n : Nat) (M : ab_M) (x1 : Int32) (x2 : Int32) (q : Int32 × ab_M) (h : mi_X10_better_21 n M x1 x2 = some q) (kk : ab_Ev l D ac 7 me_X10_better n0 0 0 r 0 0 ab_SH 39 [some (.ref 69), some (.int x1), some (.int q.1)] [] q.2), ab_Ev l D ac 7 me_X10_better n0 0 0 r 0 0 ab_SH 21 [some (.ref 69), some (.int x1), some (.int x2)] [] M := by
  intro n
  induction n with
  | zero =>
    intro M x1 x2 q h kk
    cases h
  | succ n ih =>
    intro M x1 x2 q h kk
    unfold mi_X10_better_21 at h
    refine ev_iload_n dX10_better_21 rfl ?_
    refine ev_iload_n dX10_better_22 rfl ?_
    refine ev_icmp_ge (t := 39) dX10_better_23 (by decide) (fun hc4 => ?_) (fun hc4 => ?_)
    · replace h := ab_pos hc4 h
      cases h
      exact kk
    · replace h := ab_neg hc4 h
      refine ev_aload_n dX10_better_26 rfl ?_
      obtain ⟨q5, hv6, h⟩ := ab_bind h
      refine ev_callV (st := []) (co_X10_isBettered M _ hv6) mv_X10_isBettered sh_69 ml_RX10_231 dX10_better_27 (by decide) rfl (Nat.le_of_ble_eq_true rfl) ⟨Nat.le_refl _, Nat.le_refl _⟩ ?_
      refine ev_if_eq (t := 39) dX10_better_30 (by decide) (fun hc7 => ?_) (fun hc7 => ?_)
      · replace h := ab_pos hc7 h
        cases h
        exact kk
      · replace h := ab_neg hc7 h
        refine ev_iinc (y := x2 + 1) dX10_better_33 rfl (by first | rfl | decide) rfl rfl ?_
        refine ev_goto (t := 21) dX10_better_36 (by decide) ?_
        exact ih q5.2 x1 (x2 + 1) _ h kk

noncomputable def mi_X10_better (M : ab_M) (x1 : Int32) : Option (Int32 × ab_M) :=
  (mi_X10_isIn (ab_pi M 69 0 0) (Int32.toInt64 x1) 1 50).bind fun q1 =>
  if q1 = 0 then
    some ((-1), (ab_pi M 69 0 0))
  else
    (mi_X10_better_21 ab_F (ab_pi M 69 0 0) x1 0).bind fun q8 =>
    some (q8.1, q8.2)

set_option maxHeartbeats 4000000 in
set_option maxRecDepth 100000 in
theorem co_X10_better {l : Launch} {D : va_G} {ac : Nat → ClassId} (M : ab_M) (x1 : Int32) (z : Int32 × ab_M) (h : mi_X10_better M x1 = some z) : ab_Con l D ac 7 me_X10_better 0 0 [.ref 69, .int x1] ab_SH M (some (.int z.1), ab_SH, z.2) := by
  refine ab_intro (lv := [some (.ref 69), some (.int x1), none]) (by decide) rfl (Nat.le_of_ble_eq_true rfl) rfl ?_
  unfold mi_X10_better at h
  refine ev_aload_n dX10_better_0 rfl ?_
  refine ev_iconst (x := 0) dX10_better_1 (by decide) ?_
  refine ev_puti fl_RX10_102 sh_69 (by decide) (by decide) rfl rfl rfl dX10_better_2 ?_
  refine ev_iload_n dX10_better_5 rfl ?_
  refine ev_i2l dX10_better_6 ?_
  refine ev_lconst (x := 1) dX10_better_7 (by decide) ?_
  refine ev_ldc2 kw_RX10_229 dX10_better_8 ?_
  obtain ⟨q1, hv2, h⟩ := ab_bind h
  refine ev_callS (st := []) (co_X10_isIn (ab_pi M 69 0 0) (Int32.toInt64 x1) 1 50 _ hv2) mv_X10_isIn ml_RX10_113 dX10_better_11 (by decide) rfl (Nat.le_of_ble_eq_true rfl) ⟨Nat.le_refl _, Nat.le_refl _⟩ ?_
  refine ev_if_ne (t := 19) dX10_better_14 (by decide) (fun hc3 => ?_) (fun hc3 => ?_)
  · replace h := ab_neg hc3 h
    refine ev_iconst (x := 0) dX10_better_19 (by decide) ?_
    refine ev_istore_n dX10_better_20 (Nat.le_of_ble_eq_true rfl) rfl rfl ?_
    obtain ⟨q8, hq9, h⟩ := ab_bind h
    refine lp_X10_better_21 _ (ab_pi M 69 0 0) x1 0 _ hq9 ?_
    refine ev_iload_n dX10_better_39 rfl ?_
    cases h
    exact ev_ireturn rfl dX10_better_40
  · replace h := ab_pos hc3 h
    refine ev_iconst (x := (-1)) dX10_better_17 (by decide) ?_
    cases h
    exact ev_ireturn rfl dX10_better_18

noncomputable def mi_X10_isHealedBy_9 : Nat → ab_M → Int32 → Int32 → Int32 → Option (Sum (Int32 × ab_M) (Int32 × ab_M))
  | 0, _, _, _, _ => none
  | n + 1, M, x1, x2, x3 =>
    if 30 ≤ x3 then
      some (.inl (x3, M))
    else
      if x2 < 0 then
        some (.inl (x3, M))
      else
        ab_chk (vp_in x1 16) <|
        if 0 ≤ (M.1 79 (x1).toNatClampNeg) then
          some (.inl (x3, M))
        else
          if x3 = x2 then
            mi_X10_isHealedBy_9 n M x1 x2 (x3 + 1)
          else
            (mi_X10_mayHave M x1 x3).bind fun q7 =>
            if q7 = 0 then
              mi_X10_isHealedBy_9 n M x1 x2 (x3 + 1)
            else
              ab_chk (vp_in x1 16) <|
              (mi_X10_harmNow (ab_pi M 80 (x1).toNatClampNeg x3)).bind fun q11 =>
              if q11 = 0 then
                some (.inr (1, (ab_pi M 80 (x1).toNatClampNeg x3)))
              else
                ab_chk (vp_in x1 16) <|
                mi_X10_isHealedBy_9 n (ab_pi (ab_pi M 80 (x1).toNatClampNeg x3) 80 (x1).toNatClampNeg x2) x1 x2 (x3 + 1)

set_option maxHeartbeats 4000000 in
set_option maxRecDepth 100000 in
theorem lp_X10_isHealedBy_9 {l : Launch} {D : va_G} {ac : Nat → ClassId} {n0 : Nat} {r : ab_Rs} : ∀ (n : Nat) (M : ab_M) (x1 : Int32) (x2 : Int32) (x3 : Int32) (q : Sum (Int32 × ab_M) (Int32 × ab_M)) (h : mi_X10_isHealedBy_9 n M x1 x2 x3 = some q) (kk : ∀ y, q = .inl y → ab_Ev l D ac 6 me_X10_isHealedBy n0 0 0 r 0 0 ab_SH 71 [some (.ref 69), some (.int x1), some (.int x2), some (.int y.1)] [] y.2) (kr : ∀ v, q = .inr v → r = (some (.int v.1), ab_SH, v.2)), ab_Ev l D ac 6 me_X10_isHealedBy n0 0 0 r 0 0 ab_SH 9 [some (.ref 69), some (.int x1), some (.int x2), some (.int x3)] [] M := by
  intro n
  induction n with
  | zero =>
    intro M x1 x2 x3 q h kk kr
    cases h
  | succ n ih =>
    intro M x1 x2 x3 q h kk kr
    unfold mi_X10_isHealedBy_9 at h
    refine ev_iload_n dX10_isHealedBy_9 rfl ?_
    refine ev_bipush (x := 30) dX10_isHealedBy_10 (by decide) ?_
    refine ev_icmp_ge (t := 71) dX10_isHealedBy_12 (by decide) (fun hc2 => ?_) (fun hc2 => ?_)
    · replace h := ab_pos hc2 h
      cases h
      exact kk _ rfl
    · replace h := ab_neg hc2 h
      refine ev_iload_n dX10_isHealedBy_15 rfl ?_
      refine ev_if_lt (t := 71) dX10_isHealedBy_16 (by decide) (fun hc3 => ?_) (fun hc3 => ?_)
      · replace h := ab_pos hc3 h
        cases h
        exact kk _ rfl
      · replace h := ab_neg hc3 h
        refine ev_aload_n dX10_isHealedBy_19 rfl ?_
        refine ev_getr (o' := 79) fl_RX10_37 sh_69 (by decide) (by decide) rfl rfl dX10_isHealedBy_20 ?_
        refine ev_iload_n dX10_isHealedBy_23 rfl ?_
        obtain ⟨hb4, h⟩ := ab_chk_some h
        refine ev_iaload sh_79 hb4 dX10_isHealedBy_24 ?_
        refine ev_if_ge (t := 71) dX10_isHealedBy_25 (by decide) (fun hc5 => ?_) (fun hc5 => ?_)
        · replace h := ab_pos hc5 h
          cases h
          exact kk _ rfl
        · replace h := ab_neg hc5 h
          refine ev_iload_n dX10_isHealedBy_28 rfl ?_
          refine ev_iload_n dX10_isHealedBy_29 rfl ?_
          refine ev_icmp_eq (t := 65) dX10_isHealedBy_30 (by decide) (fun hc6 => ?_) (fun hc6 => ?_)
          · replace h := ab_pos hc6 h
            refine ev_iinc (y := x3 + 1) dX10_isHealedBy_65 rfl (by first | rfl | decide) rfl rfl ?_
            refine ev_goto (t := 9) dX10_isHealedBy_68 (by decide) ?_
            exact ih M x1 x2 (x3 + 1) _ h kk kr
          · replace h := ab_neg hc6 h
            refine ev_aload_n dX10_isHealedBy_33 rfl ?_
            refine ev_iload_n dX10_isHealedBy_34 rfl ?_
            refine ev_iload_n dX10_isHealedBy_35 rfl ?_
            obtain ⟨q7, hv8, h⟩ := ab_bind h
            refine ev_callV (st := []) (co_X10_mayHave M x1 x3 _ hv8) mv_X10_mayHave sh_69 ml_RX10_176 dX10_isHealedBy_36 (by decide) rfl (Nat.le_of_ble_eq_true rfl) ⟨Nat.le_refl _, Nat.le_refl _⟩ ?_
            refine ev_if_eq (t := 65) dX10_isHealedBy_39 (by decide) (fun hc9 => ?_) (fun hc9 => ?_)
            · replace h := ab_pos hc9 h
              refine ev_iinc (y := x3 + 1) dX10_isHealedBy_65 rfl (by first | rfl | decide) rfl rfl ?_
              refine ev_goto (t := 9) dX10_isHealedBy_68 (by decide) ?_
              exact ih M x1 x2 (x3 + 1) _ h kk kr
            · replace h := ab_neg hc9 h
              refine ev_aload_n dX10_isHealedBy_42 rfl ?_
              refine ev_getr (o' := 80) fl_RX10_40 sh_69 (by decide) (by decide) rfl rfl dX10_isHealedBy_43 ?_
              refine ev_iload_n dX10_isHealedBy_46 rfl ?_
              refine ev_iload_n dX10_isHealedBy_47 rfl ?_
              obtain ⟨hb10, h⟩ := ab_chk_some h
              refine ev_iastore sh_80 hb10 dX10_isHealedBy_48 ?_
              refine ev_aload_n dX10_isHealedBy_49 rfl ?_
              obtain ⟨q11, hv12, h⟩ := ab_bind h
              refine ev_callV (st := []) (co_X10_harmNow (ab_pi M 80 (x1).toNatClampNeg x3) _ hv12) mv_X10_harmNow sh_69 ml_RX10_199 dX10_isHealedBy_50 (by decide) rfl (Nat.le_of_ble_eq_true rfl) ⟨Nat.le_refl _, Nat.le_refl _⟩ ?_
              refine ev_if_ne (t := 58) dX10_isHealedBy_53 (by decide) (fun hc13 => ?_) (fun hc13 => ?_)
              · replace h := ab_neg hc13 h
                refine ev_aload_n dX10_isHealedBy_58 rfl ?_
                refine ev_getr (o' := 80) fl_RX10_40 sh_69 (by decide) (by decide) rfl rfl dX10_isHealedBy_59 ?_
                refine ev_iload_n dX10_isHealedBy_62 rfl ?_
                refine ev_iload_n dX10_isHealedBy_63 rfl ?_
                obtain ⟨hb14, h⟩ := ab_chk_some h
                refine ev_iastore sh_80 hb14 dX10_isHealedBy_64 ?_
                refine ev_iinc (y := x3 + 1) dX10_isHealedBy_65 rfl (by first | rfl | decide) rfl rfl ?_
                refine ev_goto (t := 9) dX10_isHealedBy_68 (by decide) ?_
                exact ih (ab_pi (ab_pi M 80 (x1).toNatClampNeg x3) 80 (x1).toNatClampNeg x2) x1 x2 (x3 + 1) _ h kk kr
              · replace h := ab_pos hc13 h
                refine ev_iconst (x := 1) dX10_isHealedBy_56 (by decide) ?_
                cases h
                rw [kr _ rfl]
                exact ev_zreturn rfl (Or.inr rfl) dX10_isHealedBy_57

noncomputable def mi_X10_isHealedBy (M : ab_M) (x1 : Int32) : Option (Int32 × ab_M) :=
  ab_chk (vp_in x1 16) <|
  (mi_X10_isHealedBy_9 ab_F M x1 (M.1 80 (x1).toNatClampNeg) 0).bind fun q18 => Sum.elim (fun q15 =>
  some (0, q15.2)) (fun v17 => some v17) q18

set_option maxHeartbeats 4000000 in
set_option maxRecDepth 100000 in
theorem co_X10_isHealedBy {l : Launch} {D : va_G} {ac : Nat → ClassId} (M : ab_M) (x1 : Int32) (z : Int32 × ab_M) (h : mi_X10_isHealedBy M x1 = some z) : ab_Con l D ac 6 me_X10_isHealedBy 0 0 [.ref 69, .int x1] ab_SH M (some (.int z.1), ab_SH, z.2) := by
  refine ab_intro (lv := [some (.ref 69), some (.int x1), none, none]) (by decide) rfl (Nat.le_of_ble_eq_true rfl) rfl ?_
  unfold mi_X10_isHealedBy at h
  refine ev_aload_n dX10_isHealedBy_0 rfl ?_
  refine ev_getr (o' := 80) fl_RX10_40 sh_69 (by decide) (by decide) rfl rfl dX10_isHealedBy_1 ?_
  refine ev_iload_n dX10_isHealedBy_4 rfl ?_
  obtain ⟨hb1, h⟩ := ab_chk_some h
  refine ev_iaload sh_80 hb1 dX10_isHealedBy_5 ?_
  refine ev_istore_n dX10_isHealedBy_6 (Nat.le_of_ble_eq_true rfl) rfl rfl ?_
  refine ev_iconst (x := 0) dX10_isHealedBy_7 (by decide) ?_
  refine ev_istore_n dX10_isHealedBy_8 (Nat.le_of_ble_eq_true rfl) rfl rfl ?_
  obtain ⟨q18, hq16, h⟩ := ab_bind h
  rcases ab_elim h with ⟨q15, rfl, h⟩ | ⟨v17, rfl, h⟩
  · refine lp_X10_isHealedBy_9 _ M x1 (M.1 80 (x1).toNatClampNeg) 0 _ hq16 (fun z e19 => ?_) (fun z e19 => by cases e19)
    cases e19
    refine ev_iconst (x := 0) dX10_isHealedBy_71 (by decide) ?_
    cases h
    exact ev_zreturn rfl (Or.inl rfl) dX10_isHealedBy_72
  · refine lp_X10_isHealedBy_9 _ M x1 (M.1 80 (x1).toNatClampNeg) 0 _ hq16 (fun z e19 => by cases e19) (fun z e19 => ?_)
    cases e19
    cases h
    rfl

noncomputable def mi_X10_isHealedByTwo_32 : Nat → ab_M → Int32 → Int32 → Int32 → Int32 → Option (Sum (Int32 × ab_M) (Int32 × ab_M))
  | 0, _, _, _, _, _ => none
  | n + 1, M, x1, x2, x3, x4 =>
    if 30 ≤ x4 then
      some (.inl (x4, M))
    else
      if x3 < 0 then
        some (.inl (x4, M))
      else
        ab_chk (vp_in x1 16) <|
        if 0 ≤ (M.1 79 (x1).toNatClampNeg) then
          some (.inl (x4, M))
        else
          if x4 = x3 then
            mi_X10_isHealedByTwo_32 n M x1 x2 x3 (x4 + 1)
          else
            (mi_X10_mayHave M x1 x4).bind fun q9 =>
            if q9 = 0 then
              mi_X10_isHealedByTwo_32 n M x1 x2 x3 (x4 + 1)
            else
              ab_chk (vp_in x1 16) <|
              (mi_X10_isHealedBy (ab_pi M 80 (x1).toNatClampNeg x4) x2).bind fun q13 =>
              if q13.1 = 0 then
                ab_chk (vp_in x1 16) <|
                mi_X10_isHealedByTwo_32 n (ab_pi q13.2 80 (x1).toNatClampNeg x3) x1 x2 x3 (x4 + 1)
              else
                some (.inr (1, q13.2))

set_option maxHeartbeats 4000000 in
set_option maxRecDepth 100000 in
theorem lp_X10_isHealedByTwo_32 {l : Launch} {D : va_G} {ac : Nat → ClassId} {n0 : Nat} {r : ab_Rs} : ∀ (n : Nat) (M : ab_M) (x1 : Int32) (x2 : Int32) (x3 : Int32) (x4 : Int32) (q : Sum (Int32 × ab_M) (Int32 × ab_M)) (h : mi_X10_isHealedByTwo_32 n M x1 x2 x3 x4 = some q) (kk : ∀ y, q = .inl y → ab_Ev l D ac 7 me_X10_isHealedByTwo n0 0 0 r 0 0 ab_SH 99 [some (.ref 69), some (.int x1), some (.int x2), some (.int x3), some (.int y.1)] [] y.2) (kr : ∀ v, q = .inr v → r = (some (.int v.1), ab_SH, v.2)), ab_Ev l D ac 7 me_X10_isHealedByTwo n0 0 0 r 0 0 ab_SH 32 [some (.ref 69), some (.int x1), some (.int x2), some (.int x3), some (.int x4)] [] M := by
  intro n
  induction n with
  | zero =>
    intro M x1 x2 x3 x4 q h kk kr
    cases h
  | succ n ih =>
    intro M x1 x2 x3 x4 q h kk kr
    unfold mi_X10_isHealedByTwo_32 at h
    refine ev_iload dX10_isHealedByTwo_32 rfl ?_
    refine ev_bipush (x := 30) dX10_isHealedByTwo_34 (by decide) ?_
    refine ev_icmp_ge (t := 99) dX10_isHealedByTwo_36 (by decide) (fun hc4 => ?_) (fun hc4 => ?_)
    · replace h := ab_pos hc4 h
      cases h
      exact kk _ rfl
    · replace h := ab_neg hc4 h
      refine ev_iload_n dX10_isHealedByTwo_39 rfl ?_
      refine ev_if_lt (t := 99) dX10_isHealedByTwo_40 (by decide) (fun hc5 => ?_) (fun hc5 => ?_)
      · replace h := ab_pos hc5 h
        cases h
        exact kk _ rfl
      · replace h := ab_neg hc5 h
        refine ev_aload_n dX10_isHealedByTwo_43 rfl ?_
        refine ev_getr (o' := 79) fl_RX10_37 sh_69 (by decide) (by decide) rfl rfl dX10_isHealedByTwo_44 ?_
        refine ev_iload_n dX10_isHealedByTwo_47 rfl ?_
        obtain ⟨hb6, h⟩ := ab_chk_some h
        refine ev_iaload sh_79 hb6 dX10_isHealedByTwo_48 ?_
        refine ev_if_ge (t := 99) dX10_isHealedByTwo_49 (by decide) (fun hc7 => ?_) (fun hc7 => ?_)
        · replace h := ab_pos hc7 h
          cases h
          exact kk _ rfl
        · replace h := ab_neg hc7 h
          refine ev_iload dX10_isHealedByTwo_52 rfl ?_
          refine ev_iload_n dX10_isHealedByTwo_54 rfl ?_
          refine ev_icmp_eq (t := 93) dX10_isHealedByTwo_55 (by decide) (fun hc8 => ?_) (fun hc8 => ?_)
          · replace h := ab_pos hc8 h
            refine ev_iinc (y := x4 + 1) dX10_isHealedByTwo_93 rfl (by first | rfl | decide) rfl rfl ?_
            refine ev_goto (t := 32) dX10_isHealedByTwo_96 (by decide) ?_
            exact ih M x1 x2 x3 (x4 + 1) _ h kk kr
          · replace h := ab_neg hc8 h
            refine ev_aload_n dX10_isHealedByTwo_58 rfl ?_
            refine ev_iload_n dX10_isHealedByTwo_59 rfl ?_
            refine ev_iload dX10_isHealedByTwo_60 rfl ?_
            obtain ⟨q9, hv10, h⟩ := ab_bind h
            refine ev_callV (st := []) (co_X10_mayHave M x1 x4 _ hv10) mv_X10_mayHave sh_69 ml_RX10_176 dX10_isHealedByTwo_62 (by decide) rfl (Nat.le_of_ble_eq_true rfl) ⟨Nat.le_refl _, Nat.le_refl _⟩ ?_
            refine ev_if_eq (t := 93) dX10_isHealedByTwo_65 (by decide) (fun hc11 => ?_) (fun hc11 => ?_)
            · replace h := ab_pos hc11 h
              refine ev_iinc (y := x4 + 1) dX10_isHealedByTwo_93 rfl (by first | rfl | decide) rfl rfl ?_
              refine ev_goto (t := 32) dX10_isHealedByTwo_96 (by decide) ?_
              exact ih M x1 x2 x3 (x4 + 1) _ h kk kr
            · replace h := ab_neg hc11 h
              refine ev_aload_n dX10_isHealedByTwo_68 rfl ?_
              refine ev_getr (o' := 80) fl_RX10_40 sh_69 (by decide) (by decide) rfl rfl dX10_isHealedByTwo_69 ?_
              refine ev_iload_n dX10_isHealedByTwo_72 rfl ?_
              refine ev_iload dX10_isHealedByTwo_73 rfl ?_
              obtain ⟨hb12, h⟩ := ab_chk_some h
              refine ev_iastore sh_80 hb12 dX10_isHealedByTwo_75 ?_
              refine ev_aload_n dX10_isHealedByTwo_76 rfl ?_
              refine ev_iload_n dX10_isHealedByTwo_77 rfl ?_
              obtain ⟨q13, hv14, h⟩ := ab_bind h
              refine ev_callV (st := []) (co_X10_isHealedBy (ab_pi M 80 (x1).toNatClampNeg x4) x2 _ hv14) mv_X10_isHealedBy sh_69 ml_RX10_235 dX10_isHealedByTwo_78 (by decide) rfl (Nat.le_of_ble_eq_true rfl) ⟨Nat.le_refl _, Nat.le_refl _⟩ ?_
              refine ev_if_eq (t := 86) dX10_isHealedByTwo_81 (by decide) (fun hc15 => ?_) (fun hc15 => ?_)
              · replace h := ab_pos hc15 h
                refine ev_aload_n dX10_isHealedByTwo_86 rfl ?_
                refine ev_getr (o' := 80) fl_RX10_40 sh_69 (by decide) (by decide) rfl rfl dX10_isHealedByTwo_87 ?_
                refine ev_iload_n dX10_isHealedByTwo_90 rfl ?_
                refine ev_iload_n dX10_isHealedByTwo_91 rfl ?_
                obtain ⟨hb16, h⟩ := ab_chk_some h
                refine ev_iastore sh_80 hb16 dX10_isHealedByTwo_92 ?_
                refine ev_iinc (y := x4 + 1) dX10_isHealedByTwo_93 rfl (by first | rfl | decide) rfl rfl ?_
                refine ev_goto (t := 32) dX10_isHealedByTwo_96 (by decide) ?_
                exact ih (ab_pi q13.2 80 (x1).toNatClampNeg x3) x1 x2 x3 (x4 + 1) _ h kk kr
              · replace h := ab_neg hc15 h
                refine ev_iconst (x := 1) dX10_isHealedByTwo_84 (by decide) ?_
                cases h
                rw [kr _ rfl]
                exact ev_zreturn rfl (Or.inr rfl) dX10_isHealedByTwo_85

noncomputable def mi_X10_isHealedByTwo_14 : Nat → ab_M → Int32 → Int32 → Option (Sum (Int32 × ab_M) (Int32 × ab_M))
  | 0, _, _, _ => none
  | n + 1, M, x1, x2 =>
    if (M.1 69 10) ≤ x2 then
      some (.inl (x2, M))
    else
      ab_chk (vp_in x1 16) <|
      (mi_X10_isHealedByTwo_32 ab_F M x1 x2 (M.1 80 (x1).toNatClampNeg) 0).bind fun q20 => Sum.elim (fun q17 =>
      mi_X10_isHealedByTwo_14 n q17.2 x1 (x2 + 1)) (fun v19 => some (.inr v19)) q20

set_option maxHeartbeats 4000000 in
set_option maxRecDepth 100000 in
theorem lp_X10_isHealedByTwo_14 {l : Launch} {D : va_G} {ac : Nat → ClassId} {n0 : Nat} {r : ab_Rs} : ∀ (n : Nat) (M : ab_M) (x1 : Int32) (x2 : Int32) (q : Sum (Int32 × ab_M) (Int32 × ab_M)) (h : mi_X10_isHealedByTwo_14 n M x1 x2 = some q) (kk : ∀ y, q = .inl y → ab_Ev l D ac 7 me_X10_isHealedByTwo n0 0 0 r 0 0 ab_SH 105 [some (.ref 69), some (.int x1), some (.int y.1), none, none] [] y.2) (kr : ∀ v, q = .inr v → r = (some (.int v.1), ab_SH, v.2)), ab_Ev l D ac 7 me_X10_isHealedByTwo n0 0 0 r 0 0 ab_SH 14 [some (.ref 69), some (.int x1), some (.int x2), none, none] [] M := by
  intro n
  induction n with
  | zero =>
    intro M x1 x2 q h kk kr
    cases h
  | succ n ih =>
    intro M x1 x2 q h kk kr
    unfold mi_X10_isHealedByTwo_14 at h
    refine ev_iload_n dX10_isHealedByTwo_14 rfl ?_
    refine ev_aload_n dX10_isHealedByTwo_15 rfl ?_
    refine ev_geti fl_RX10_108 sh_69 (by decide) (by decide) rfl dX10_isHealedByTwo_16 ?_
    refine ev_icmp_ge (t := 105) dX10_isHealedByTwo_19 (by decide) (fun hc2 => ?_) (fun hc2 => ?_)
    · replace h := ab_pos hc2 h
      cases h
      exact kk _ rfl
    · replace h := ab_neg hc2 h
      refine ev_aload_n dX10_isHealedByTwo_22 rfl ?_
      refine ev_getr (o' := 80) fl_RX10_40 sh_69 (by decide) (by decide) rfl rfl dX10_isHealedByTwo_23 ?_
      refine ev_iload_n dX10_isHealedByTwo_26 rfl ?_
      obtain ⟨hb3, h⟩ := ab_chk_some h
      refine ev_iaload sh_80 hb3 dX10_isHealedByTwo_27 ?_
      refine ev_istore_n dX10_isHealedByTwo_28 (Nat.le_of_ble_eq_true rfl) rfl rfl ?_
      refine ev_iconst (x := 0) dX10_isHealedByTwo_29 (by decide) ?_
      refine ev_istore dX10_isHealedByTwo_30 (Nat.le_of_ble_eq_true rfl) rfl rfl ?_
      obtain ⟨q20, hq18, h⟩ := ab_bind h
      rcases ab_elim h with ⟨q17, rfl, h⟩ | ⟨v19, rfl, h⟩
      · refine lp_X10_isHealedByTwo_32 _ M x1 x2 (M.1 80 (x1).toNatClampNeg) 0 _ hq18 (fun z e21 => ?_) (fun z e21 => by cases e21)
        cases e21
        refine ev_iinc (y := x2 + 1) dX10_isHealedByTwo_99 rfl (by first | rfl | decide) rfl rfl ?_
        refine ev_goto (t := 14) dX10_isHealedByTwo_102 (by decide) ?_
        refine ev_drop (lv' := [some (.ref 69), some (.int x1), some (.int (x2 + 1)), none, none]) (ab_sub_k (ab_sub_k (ab_sub_k (ab_sub_d (ab_sub_d ab_sub_nil))))) ?_
        exact ih q17.2 x1 (x2 + 1) _ h kk kr
      · refine lp_X10_isHealedByTwo_32 _ M x1 x2 (M.1 80 (x1).toNatClampNeg) 0 _ hq18 (fun z e21 => by cases e21) (fun z e21 => ?_)
        cases e21
        cases h
        exact kr _ rfl

noncomputable def mi_X10_isHealedByTwo_2 : Nat → ab_M → Int32 → Option (Sum (Int32 × ab_M) (Int32 × ab_M))
  | 0, _, _ => none
  | n + 1, M, x1 =>
    if (M.1 69 10) ≤ x1 then
      some (.inl (x1, M))
    else
      (mi_X10_isHealedByTwo_14 ab_F M x1 (x1 + 1)).bind fun q25 => Sum.elim (fun q22 =>
      mi_X10_isHealedByTwo_2 n q22.2 (x1 + 1)) (fun v24 => some (.inr v24)) q25

set_option maxHeartbeats 4000000 in
set_option maxRecDepth 100000 in
theorem lp_X10_isHealedByTwo_2 {l : Launch} {D : va_G} {ac : Nat → ClassId} {n0 : Nat} {r : ab_Rs} : ∀ (n : Nat) (M : ab_M) (x1 : Int32) (q : Sum (Int32 × ab_M) (Int32 × ab_M)) (h : mi_X10_isHealedByTwo_2 n M x1 = some q) (kk : ∀ y, q = .inl y → ab_Ev l D ac 7 me_X10_isHealedByTwo n0 0 0 r 0 0 ab_SH 111 [some (.ref 69), some (.int y.1), none, none, none] [] y.2) (kr : ∀ v, q = .inr v → r = (some (.int v.1), ab_SH, v.2)), ab_Ev l D ac 7 me_X10_isHealedByTwo n0 0 0 r 0 0 ab_SH 2 [some (.ref 69), some (.int x1), none, none, none] [] M := by
  intro n
  induction n with
  | zero =>
    intro M x1 q h kk kr
    cases h
  | succ n ih =>
    intro M x1 q h kk kr
    unfold mi_X10_isHealedByTwo_2 at h
    refine ev_iload_n dX10_isHealedByTwo_2 rfl ?_
    refine ev_aload_n dX10_isHealedByTwo_3 rfl ?_
    refine ev_geti fl_RX10_108 sh_69 (by decide) (by decide) rfl dX10_isHealedByTwo_4 ?_
    refine ev_icmp_ge (t := 111) dX10_isHealedByTwo_7 (by decide) (fun hc1 => ?_) (fun hc1 => ?_)
    · replace h := ab_pos hc1 h
      cases h
      exact kk _ rfl
    · replace h := ab_neg hc1 h
      refine ev_iload_n dX10_isHealedByTwo_10 rfl ?_
      refine ev_iconst (x := 1) dX10_isHealedByTwo_11 (by decide) ?_
      refine ev_iadd dX10_isHealedByTwo_12 ?_
      refine ev_istore_n dX10_isHealedByTwo_13 (Nat.le_of_ble_eq_true rfl) rfl rfl ?_
      obtain ⟨q25, hq23, h⟩ := ab_bind h
      rcases ab_elim h with ⟨q22, rfl, h⟩ | ⟨v24, rfl, h⟩
      · refine lp_X10_isHealedByTwo_14 _ M x1 (x1 + 1) _ hq23 (fun z e26 => ?_) (fun z e26 => by cases e26)
        cases e26
        refine ev_iinc (y := x1 + 1) dX10_isHealedByTwo_105 rfl (by first | rfl | decide) rfl rfl ?_
        refine ev_goto (t := 2) dX10_isHealedByTwo_108 (by decide) ?_
        refine ev_drop (lv' := [some (.ref 69), some (.int (x1 + 1)), none, none, none]) (ab_sub_k (ab_sub_k (ab_sub_d (ab_sub_k (ab_sub_k ab_sub_nil))))) ?_
        exact ih q22.2 (x1 + 1) _ h kk kr
      · refine lp_X10_isHealedByTwo_14 _ M x1 (x1 + 1) _ hq23 (fun z e26 => by cases e26) (fun z e26 => ?_)
        cases e26
        cases h
        exact kr _ rfl

noncomputable def mi_X10_isHealedByTwo (M : ab_M) : Option (Int32 × ab_M) :=
  (mi_X10_isHealedByTwo_2 ab_F M 0).bind fun q30 => Sum.elim (fun q27 =>
  some (0, q27.2)) (fun v29 => some v29) q30

set_option maxHeartbeats 4000000 in
set_option maxRecDepth 100000 in
theorem co_X10_isHealedByTwo {l : Launch} {D : va_G} {ac : Nat → ClassId} (M : ab_M) (z : Int32 × ab_M) (h : mi_X10_isHealedByTwo M = some z) : ab_Con l D ac 7 me_X10_isHealedByTwo 0 0 [.ref 69] ab_SH M (some (.int z.1), ab_SH, z.2) := by
  refine ab_intro (lv := [some (.ref 69), none, none, none, none]) (by decide) rfl (Nat.le_of_ble_eq_true rfl) rfl ?_
  unfold mi_X10_isHealedByTwo at h
  refine ev_iconst (x := 0) dX10_isHealedByTwo_0 (by decide) ?_
  refine ev_istore_n dX10_isHealedByTwo_1 (Nat.le_of_ble_eq_true rfl) rfl rfl ?_
  obtain ⟨q30, hq28, h⟩ := ab_bind h
  rcases ab_elim h with ⟨q27, rfl, h⟩ | ⟨v29, rfl, h⟩
  · refine lp_X10_isHealedByTwo_2 _ M 0 _ hq28 (fun z e31 => ?_) (fun z e31 => by cases e31)
    cases e31
    refine ev_iconst (x := 0) dX10_isHealedByTwo_111 (by decide) ?_
    cases h
    exact ev_zreturn rfl (Or.inl rfl) dX10_isHealedByTwo_112
  · refine lp_X10_isHealedByTwo_2 _ M 0 _ hq28 (fun z e31 => by cases e31) (fun z e31 => ?_)
    cases e31
    cases h
    rfl

noncomputable def mi_X10_fewest_30 : Nat → ab_M → Int32 → Int32 → Option (Sum (Int32 × ab_M) (Int32 × ab_M))
  | 0, _, _, _ => none
  | n + 1, M, x1, x2 =>
    if (M.1 69 10) ≤ x2 then
      some (.inl (x2, M))
    else
      if x1 ≤ 0 then
        some (.inl (x2, M))
      else
        (mi_X10_isHealedBy M x2).bind fun q9 =>
        if q9.1 = 0 then
          mi_X10_fewest_30 n q9.2 x1 (x2 + 1)
        else
          some (.inr (1, q9.2))

set_option maxHeartbeats 4000000 in
set_option maxRecDepth 100000 in
theorem lp_X10_fewest_30 {l : Launch} {D : va_G} {ac : Nat → ClassId} {n0 : Nat} {r : ab_Rs} : ∀ (n : Nat) (M : ab_M) (x1 : Int32) (x2 : Int32) (q : Sum (Int32 × ab_M) (Int32 × ab_M)) (h : mi_X10_fewest_30 n M x1 x2 = some q) (kk : ∀ y, q = .inl y → ab_Ev l D ac 8 me_X10_fewest n0 0 0 r 0 0 ab_SH 58 [some (.ref 69), some (.int x1), some (.int y.1)] [] y.2) (kr : ∀ v, q = .inr v → r = (some (.int v.1), ab_SH, v.2)), ab_Ev l D ac 8 me_X10_fewest n0 0 0 r 0 0 ab_SH 30 [some (.ref 69), some (.int x1), some (.int x2)] [] M := by
  intro n
  induction n with
  | zero =>
    intro M x1 x2 q h kk kr
    cases h
  | succ n ih =>
    intro M x1 x2 q h kk kr
    unfold mi_X10_fewest_30 at h
    refine ev_iload_n dX10_fewest_30 rfl ?_
    refine ev_aload_n dX10_fewest_31 rfl ?_
    refine ev_geti fl_RX10_108 sh_69 (by decide) (by decide) rfl dX10_fewest_32 ?_
    refine ev_icmp_ge (t := 58) dX10_fewest_35 (by decide) (fun hc7 => ?_) (fun hc7 => ?_)
    · replace h := ab_pos hc7 h
      cases h
      exact kk _ rfl
    · replace h := ab_neg hc7 h
      refine ev_iload_n dX10_fewest_38 rfl ?_
      refine ev_if_le (t := 58) dX10_fewest_39 (by decide) (fun hc8 => ?_) (fun hc8 => ?_)
      · replace h := ab_pos hc8 h
        cases h
        exact kk _ rfl
      · replace h := ab_neg hc8 h
        refine ev_aload_n dX10_fewest_42 rfl ?_
        refine ev_iload_n dX10_fewest_43 rfl ?_
        obtain ⟨q9, hv10, h⟩ := ab_bind h
        refine ev_callV (st := []) (co_X10_isHealedBy M x2 _ hv10) mv_X10_isHealedBy sh_69 ml_RX10_235 dX10_fewest_44 (by decide) rfl (Nat.le_of_ble_eq_true rfl) ⟨Nat.le_refl _, Nat.le_refl _⟩ ?_
        refine ev_if_eq (t := 52) dX10_fewest_47 (by decide) (fun hc11 => ?_) (fun hc11 => ?_)
        · replace h := ab_pos hc11 h
          refine ev_iinc (y := x2 + 1) dX10_fewest_52 rfl (by first | rfl | decide) rfl rfl ?_
          refine ev_goto (t := 30) dX10_fewest_55 (by decide) ?_
          exact ih q9.2 x1 (x2 + 1) _ h kk kr
        · replace h := ab_neg hc11 h
          refine ev_iconst (x := 1) dX10_fewest_50 (by decide) ?_
          cases h
          rw [kr _ rfl]
          exact ev_ireturn rfl dX10_fewest_51

noncomputable def mi_X10_fewest (M : ab_M) (x1 : Int32) : Option (Int32 × ab_M) :=
  (mi_X10_isIn (ab_pi M 69 0 0) (Int32.toInt64 x1) 0 2).bind fun q1 =>
  if q1 = 0 then
    some ((-1), (ab_pi M 69 0 0))
  else
    (mi_X10_harmNow (ab_pi M 69 0 0)).bind fun q4 =>
    if q4 = 0 then
      some (0, (ab_pi M 69 0 0))
    else
      (mi_X10_fewest_30 ab_F (ab_pi M 69 0 0) x1 0).bind fun q19 => Sum.elim (fun q12 =>
      if x1 = 2 then
        (mi_X10_isHealedByTwo q12.2).bind fun q15 =>
        if q15.1 = 0 then
          some ((-2), q15.2)
        else
          some (2, q15.2)
      else
        some ((-2), q12.2)) (fun v18 => some v18) q19

set_option maxHeartbeats 4000000 in
set_option maxRecDepth 100000 in
theorem co_X10_fewest {l : Launch} {D : va_G} {ac : Nat → ClassId} (M : ab_M) (x1 : Int32) (z : Int32 × ab_M) (h : mi_X10_fewest M x1 = some z) : ab_Con l D ac 8 me_X10_fewest 0 0 [.ref 69, .int x1] ab_SH M (some (.int z.1), ab_SH, z.2) := by
  refine ab_intro (lv := [some (.ref 69), some (.int x1), none]) (by decide) rfl (Nat.le_of_ble_eq_true rfl) rfl ?_
  unfold mi_X10_fewest at h
  refine ev_aload_n dX10_fewest_0 rfl ?_
  refine ev_iconst (x := 0) dX10_fewest_1 (by decide) ?_
  refine ev_puti fl_RX10_102 sh_69 (by decide) (by decide) rfl rfl rfl dX10_fewest_2 ?_
  refine ev_iload_n dX10_fewest_5 rfl ?_
  refine ev_i2l dX10_fewest_6 ?_
  refine ev_lconst (x := 0) dX10_fewest_7 (by decide) ?_
  refine ev_ldc2 kw_RX10_203 dX10_fewest_8 ?_
  obtain ⟨q1, hv2, h⟩ := ab_bind h
  refine ev_callS (st := []) (co_X10_isIn (ab_pi M 69 0 0) (Int32.toInt64 x1) 0 2 _ hv2) mv_X10_isIn ml_RX10_113 dX10_fewest_11 (by decide) rfl (Nat.le_of_ble_eq_true rfl) ⟨Nat.le_refl _, Nat.le_refl _⟩ ?_
  refine ev_if_ne (t := 19) dX10_fewest_14 (by decide) (fun hc3 => ?_) (fun hc3 => ?_)
  · replace h := ab_neg hc3 h
    refine ev_aload_n dX10_fewest_19 rfl ?_
    obtain ⟨q4, hv5, h⟩ := ab_bind h
    refine ev_callV (st := []) (co_X10_harmNow (ab_pi M 69 0 0) _ hv5) mv_X10_harmNow sh_69 ml_RX10_199 dX10_fewest_20 (by decide) rfl (Nat.le_of_ble_eq_true rfl) ⟨Nat.le_refl _, Nat.le_refl _⟩ ?_
    refine ev_if_ne (t := 28) dX10_fewest_23 (by decide) (fun hc6 => ?_) (fun hc6 => ?_)
    · replace h := ab_neg hc6 h
      refine ev_iconst (x := 0) dX10_fewest_28 (by decide) ?_
      refine ev_istore_n dX10_fewest_29 (Nat.le_of_ble_eq_true rfl) rfl rfl ?_
      obtain ⟨q19, hq13, h⟩ := ab_bind h
      rcases ab_elim h with ⟨q12, rfl, h⟩ | ⟨v18, rfl, h⟩
      · refine lp_X10_fewest_30 _ (ab_pi M 69 0 0) x1 0 _ hq13 (fun z e20 => ?_) (fun z e20 => by cases e20)
        cases e20
        refine ev_iload_n dX10_fewest_58 rfl ?_
        refine ev_iconst (x := 2) dX10_fewest_59 (by decide) ?_
        refine ev_icmp_ne (t := 74) dX10_fewest_60 (by decide) (fun hc14 => ?_) (fun hc14 => ?_)
        · replace h := ab_neg hc14 h
          refine ev_bipush (x := (-2)) dX10_fewest_74 (by decide) ?_
          cases h
          exact ev_ireturn rfl dX10_fewest_76
        · replace h := ab_pos hc14 h
          refine ev_aload_n dX10_fewest_63 rfl ?_
          obtain ⟨q15, hv16, h⟩ := ab_bind h
          refine ev_callV (st := []) (co_X10_isHealedByTwo q12.2 _ hv16) mv_X10_isHealedByTwo sh_69 ml_RX10_238 dX10_fewest_64 (by decide) rfl (Nat.le_of_ble_eq_true rfl) ⟨Nat.le_refl _, Nat.le_refl _⟩ ?_
          refine ev_if_eq (t := 74) dX10_fewest_67 (by decide) (fun hc17 => ?_) (fun hc17 => ?_)
          · replace h := ab_pos hc17 h
            refine ev_bipush (x := (-2)) dX10_fewest_74 (by decide) ?_
            cases h
            exact ev_ireturn rfl dX10_fewest_76
          · replace h := ab_neg hc17 h
            refine ev_iconst (x := 2) dX10_fewest_70 (by decide) ?_
            refine ev_goto (t := 76) dX10_fewest_71 (by decide) ?_
            cases h
            exact ev_ireturn rfl dX10_fewest_76
      · refine lp_X10_fewest_30 _ (ab_pi M 69 0 0) x1 0 _ hq13 (fun z e20 => by cases e20) (fun z e20 => ?_)
        cases e20
        cases h
        rfl
    · replace h := ab_pos hc6 h
      refine ev_iconst (x := 0) dX10_fewest_26 (by decide) ?_
      cases h
      exact ev_ireturn rfl dX10_fewest_27
  · replace h := ab_pos hc3 h
    refine ev_iconst (x := (-1)) dX10_fewest_17 (by decide) ?_
    cases h
    exact ev_ireturn rfl dX10_fewest_18

noncomputable def mi_X10_wantsIn_4 : Nat → ab_M → Int32 → Int32 → Int32 → Option (Int32 × Int32)
  | 0, _, _, _, _ => none
  | n + 1, M, x1, x2, x3 =>
    if (M.1 69 1) ≤ x3 then
      some (x2, x3)
    else
      ((if ((x1 >>> (x3 &&& 31)) &&& 1) = 1 then
        ab_chk (vp_in x3 12) <|
        some (M.1 74 (x3).toNatClampNeg)
      else
        some 0) : Option (Int32)).bind fun q2 =>
      mi_X10_wantsIn_4 n M x1 (x2 + q2) (x3 + 1)

set_option maxHeartbeats 4000000 in
set_option maxRecDepth 100000 in
theorem lp_X10_wantsIn_4 {l : Launch} {D : va_G} {ac : Nat → ClassId} {n0 : Nat} {r : ab_Rs} : ∀ (n : Nat) (M : ab_M) (x1 : Int32) (x2 : Int32) (x3 : Int32) (q : Int32 × Int32) (h : mi_X10_wantsIn_4 n M x1 x2 x3 = some q) (kk : ab_Ev l D ac 1 me_X10_wantsIn n0 0 0 r 0 0 ab_SH 40 [some (.ref 69), some (.int x1), some (.int q.1), some (.int q.2)] [] M), ab_Ev l D ac 1 me_X10_wantsIn n0 0 0 r 0 0 ab_SH 4 [some (.ref 69), some (.int x1), some (.int x2), some (.int x3)] [] M := by
  intro n
  induction n with
  | zero =>
    intro M x1 x2 x3 q h kk
    cases h
  | succ n ih =>
    intro M x1 x2 x3 q h kk
    unfold mi_X10_wantsIn_4 at h
    refine ev_iload_n dX10_wantsIn_4 rfl ?_
    refine ev_aload_n dX10_wantsIn_5 rfl ?_
    refine ev_geti fl_RX10_105 sh_69 (by decide) (by decide) rfl dX10_wantsIn_6 ?_
    refine ev_icmp_ge (t := 40) dX10_wantsIn_9 (by decide) (fun hc1 => ?_) (fun hc1 => ?_)
    · replace h := ab_pos hc1 h
      cases h
      exact kk
    · replace h := ab_neg hc1 h
      refine ev_iload_n dX10_wantsIn_12 rfl ?_
      refine ev_iload_n dX10_wantsIn_13 rfl ?_
      refine ev_iload_n dX10_wantsIn_14 rfl ?_
      refine ev_ishr dX10_wantsIn_15 ?_
      refine ev_iconst (x := 1) dX10_wantsIn_16 (by decide) ?_
      refine ev_iand dX10_wantsIn_17 ?_
      refine ev_iconst (x := 1) dX10_wantsIn_18 (by decide) ?_
      obtain ⟨q2, hq3, h⟩ := ab_bind h
      have hJ4 : ab_Ev l D ac 1 me_X10_wantsIn n0 0 0 r 0 0 ab_SH 32 [some (.ref 69), some (.int x1), some (.int x2), some (.int x3)] [.int q2, .int x2] M := by
        refine ev_iadd dX10_wantsIn_32 ?_
        refine ev_istore_n dX10_wantsIn_33 (Nat.le_of_ble_eq_true rfl) rfl rfl ?_
        refine ev_iinc (y := x3 + 1) dX10_wantsIn_34 rfl (by first | rfl | decide) rfl rfl ?_
        refine ev_goto (t := 4) dX10_wantsIn_37 (by decide) ?_
        exact ih M x1 (x2 + q2) (x3 + 1) _ h kk
      refine ev_icmp_ne (t := 31) dX10_wantsIn_19 (by decide) (fun hc5 => ?_) (fun hc5 => ?_)
      · replace hq3 := ab_neg hc5 hq3
        refine ev_iconst (x := 0) dX10_wantsIn_31 (by decide) ?_
        cases hq3
        exact hJ4
      · replace hq3 := ab_pos hc5 hq3
        refine ev_aload_n dX10_wantsIn_22 rfl ?_
        refine ev_getr (o' := 74) fl_RX10_22 sh_69 (by decide) (by decide) rfl rfl dX10_wantsIn_23 ?_
        refine ev_iload_n dX10_wantsIn_26 rfl ?_
        obtain ⟨hb6, hq3⟩ := ab_chk_some hq3
        refine ev_iaload sh_74 hb6 dX10_wantsIn_27 ?_
        refine ev_goto (t := 32) dX10_wantsIn_28 (by decide) ?_
        cases hq3
        exact hJ4

noncomputable def mi_X10_wantsIn (M : ab_M) (x1 : Int32) : Option (Int32) :=
  (mi_X10_wantsIn_4 ab_F M x1 0 0).bind fun q7 =>
  some q7.1

set_option maxHeartbeats 4000000 in
set_option maxRecDepth 100000 in
theorem co_X10_wantsIn {l : Launch} {D : va_G} {ac : Nat → ClassId} (M : ab_M) (x1 : Int32) (z : Int32) (h : mi_X10_wantsIn M x1 = some z) : ab_Con l D ac 1 me_X10_wantsIn 0 0 [.ref 69, .int x1] ab_SH M (some (.int z), ab_SH, M) := by
  refine ab_intro (lv := [some (.ref 69), some (.int x1), none, none]) (by decide) rfl (Nat.le_of_ble_eq_true rfl) rfl ?_
  unfold mi_X10_wantsIn at h
  refine ev_iconst (x := 0) dX10_wantsIn_0 (by decide) ?_
  refine ev_istore_n dX10_wantsIn_1 (Nat.le_of_ble_eq_true rfl) rfl rfl ?_
  refine ev_iconst (x := 0) dX10_wantsIn_2 (by decide) ?_
  refine ev_istore_n dX10_wantsIn_3 (Nat.le_of_ble_eq_true rfl) rfl rfl ?_
  obtain ⟨q7, hq8, h⟩ := ab_bind h
  refine lp_X10_wantsIn_4 _ M x1 0 0 _ hq8 ?_
  refine ev_iload_n dX10_wantsIn_40 rfl ?_
  cases h
  exact ev_ireturn rfl dX10_wantsIn_41

noncomputable def mi_X10_isCrowd_17 : Nat → ab_M → Int32 → Int32 → Int32 → Int32 → Option (Int32 × Int32)
  | 0, _, _, _, _, _ => none
  | n + 1, M, x1, x2, x3, x4 =>
    if (M.1 69 1) ≤ x4 then
      some (x2, x4)
    else
      ((if x2 = 0 then
        some 0
      else
        if ((x1 >>> (x3 &&& 31)) &&& 1) = 0 then
          some 1
        else
          if ((x1 >>> (x4 &&& 31)) &&& 1) = 0 then
            some 1
          else
            (mi_X10_barOf M x3 x4).bind fun q9 =>
            if q9 ≤ 0 then
              some 0
            else
              some 1) : Option (Int32)).bind fun q3 =>
      mi_X10_isCrowd_17 n M x1 q3 x3 (x4 + 1)

set_option maxHeartbeats 4000000 in
set_option maxRecDepth 100000 in
theorem lp_X10_isCrowd_17 {l : Launch} {D : va_G} {ac : Nat → ClassId} {n0 : Nat} {r : ab_Rs} : ∀ (n : Nat) (M : ab_M) (x1 : Int32) (x2 : Int32) (x3 : Int32) (x4 : Int32) (q : Int32 × Int32) (h : mi_X10_isCrowd_17 n M x1 x2 x3 x4 = some q) (kk : ab_Ev l D ac 3 me_X10_isCrowd n0 0 0 r 0 0 ab_SH 69 [some (.ref 69), some (.int x1), some (.int q.1), some (.int x3), some (.int q.2)] [] M), ab_Ev l D ac 3 me_X10_isCrowd n0 0 0 r 0 0 ab_SH 17 [some (.ref 69), some (.int x1), some (.int x2), some (.int x3), some (.int x4)] [] M := by
  intro n
  induction n with
  | zero =>
    intro M x1 x2 x3 x4 q h kk
    cases h
  | succ n ih =>
    intro M x1 x2 x3 x4 q h kk
    unfold mi_X10_isCrowd_17 at h
    refine ev_iload dX10_isCrowd_17 rfl ?_
    refine ev_aload_n dX10_isCrowd_19 rfl ?_
    refine ev_geti fl_RX10_105 sh_69 (by decide) (by decide) rfl dX10_isCrowd_20 ?_
    refine ev_icmp_ge (t := 69) dX10_isCrowd_23 (by decide) (fun hc2 => ?_) (fun hc2 => ?_)
    · replace h := ab_pos hc2 h
      cases h
      exact kk
    · replace h := ab_neg hc2 h
      refine ev_iload_n dX10_isCrowd_26 rfl ?_
      obtain ⟨q3, hq4, h⟩ := ab_bind h
      have hJ5 : ab_Ev l D ac 3 me_X10_isCrowd n0 0 0 r 0 0 ab_SH 62 [some (.ref 69), some (.int x1), some (.int x2), some (.int x3), some (.int x4)] [.int q3] M := by
        refine ev_istore_n dX10_isCrowd_62 (Nat.le_of_ble_eq_true rfl) rfl rfl ?_
        refine ev_iinc (y := x4 + 1) dX10_isCrowd_63 rfl (by first | rfl | decide) rfl rfl ?_
        refine ev_goto (t := 17) dX10_isCrowd_66 (by decide) ?_
        exact ih M x1 q3 x3 (x4 + 1) _ h kk
      refine ev_if_eq (t := 61) dX10_isCrowd_27 (by decide) (fun hc6 => ?_) (fun hc6 => ?_)
      · replace hq4 := ab_pos hc6 hq4
        refine ev_iconst (x := 0) dX10_isCrowd_61 (by decide) ?_
        cases hq4
        exact hJ5
      · replace hq4 := ab_neg hc6 hq4
        refine ev_iload_n dX10_isCrowd_30 rfl ?_
        refine ev_iload_n dX10_isCrowd_31 rfl ?_
        refine ev_ishr dX10_isCrowd_32 ?_
        refine ev_iconst (x := 1) dX10_isCrowd_33 (by decide) ?_
        refine ev_iand dX10_isCrowd_34 ?_
        refine ev_if_eq (t := 57) dX10_isCrowd_35 (by decide) (fun hc7 => ?_) (fun hc7 => ?_)
        · replace hq4 := ab_pos hc7 hq4
          refine ev_iconst (x := 1) dX10_isCrowd_57 (by decide) ?_
          refine ev_goto (t := 62) dX10_isCrowd_58 (by decide) ?_
          cases hq4
          exact hJ5
        · replace hq4 := ab_neg hc7 hq4
          refine ev_iload_n dX10_isCrowd_38 rfl ?_
          refine ev_iload dX10_isCrowd_39 rfl ?_
          refine ev_ishr dX10_isCrowd_41 ?_
          refine ev_iconst (x := 1) dX10_isCrowd_42 (by decide) ?_
          refine ev_iand dX10_isCrowd_43 ?_
          refine ev_if_eq (t := 57) dX10_isCrowd_44 (by decide) (fun hc8 => ?_) (fun hc8 => ?_)
          · replace hq4 := ab_pos hc8 hq4
            refine ev_iconst (x := 1) dX10_isCrowd_57 (by decide) ?_
            refine ev_goto (t := 62) dX10_isCrowd_58 (by decide) ?_
            cases hq4
            exact hJ5
          · replace hq4 := ab_neg hc8 hq4
            refine ev_aload_n dX10_isCrowd_47 rfl ?_
            refine ev_iload_n dX10_isCrowd_48 rfl ?_
            refine ev_iload dX10_isCrowd_49 rfl ?_
            obtain ⟨q9, hv10, hq4⟩ := ab_bind hq4
            refine ev_callV (st := []) (co_X10_barOf M x3 x4 _ hv10) mv_X10_barOf sh_69 ml_RX10_135 dX10_isCrowd_51 (by decide) rfl (Nat.le_of_ble_eq_true rfl) ⟨Nat.le_refl _, Nat.le_refl _⟩ ?_
            refine ev_if_le (t := 61) dX10_isCrowd_54 (by decide) (fun hc11 => ?_) (fun hc11 => ?_)
            · replace hq4 := ab_pos hc11 hq4
              refine ev_iconst (x := 0) dX10_isCrowd_61 (by decide) ?_
              cases hq4
              exact hJ5
            · replace hq4 := ab_neg hc11 hq4
              refine ev_iconst (x := 1) dX10_isCrowd_57 (by decide) ?_
              refine ev_goto (t := 62) dX10_isCrowd_58 (by decide) ?_
              cases hq4
              exact hJ5

noncomputable def mi_X10_isCrowd_4 : Nat → ab_M → Int32 → Int32 → Int32 → Option (Int32 × Int32)
  | 0, _, _, _, _ => none
  | n + 1, M, x1, x2, x3 =>
    if (M.1 69 1) ≤ x3 then
      some (x2, x3)
    else
      (mi_X10_isCrowd_17 ab_F M x1 x2 x3 (x3 + 1)).bind fun q12 =>
      mi_X10_isCrowd_4 n M x1 q12.1 (x3 + 1)

set_option maxHeartbeats 4000000 in
set_option maxRecDepth 100000 in
theorem lp_X10_isCrowd_4 {l : Launch} {D : va_G} {ac : Nat → ClassId} {n0 : Nat} {r : ab_Rs} : ∀ (n : Nat) (M : ab_M) (x1 : Int32) (x2 : Int32) (x3 : Int32) (q : Int32 × Int32) (h : mi_X10_isCrowd_4 n M x1 x2 x3 = some q) (kk : ab_Ev l D ac 3 me_X10_isCrowd n0 0 0 r 0 0 ab_SH 75 [some (.ref 69), some (.int x1), some (.int q.1), some (.int q.2), none] [] M), ab_Ev l D ac 3 me_X10_isCrowd n0 0 0 r 0 0 ab_SH 4 [some (.ref 69), some (.int x1), some (.int x2), some (.int x3), none] [] M := by
  intro n
  induction n with
  | zero =>
    intro M x1 x2 x3 q h kk
    cases h
  | succ n ih =>
    intro M x1 x2 x3 q h kk
    unfold mi_X10_isCrowd_4 at h
    refine ev_iload_n dX10_isCrowd_4 rfl ?_
    refine ev_aload_n dX10_isCrowd_5 rfl ?_
    refine ev_geti fl_RX10_105 sh_69 (by decide) (by decide) rfl dX10_isCrowd_6 ?_
    refine ev_icmp_ge (t := 75) dX10_isCrowd_9 (by decide) (fun hc1 => ?_) (fun hc1 => ?_)
    · replace h := ab_pos hc1 h
      cases h
      exact kk
    · replace h := ab_neg hc1 h
      refine ev_iload_n dX10_isCrowd_12 rfl ?_
      refine ev_iconst (x := 1) dX10_isCrowd_13 (by decide) ?_
      refine ev_iadd dX10_isCrowd_14 ?_
      refine ev_istore dX10_isCrowd_15 (Nat.le_of_ble_eq_true rfl) rfl rfl ?_
      obtain ⟨q12, hq13, h⟩ := ab_bind h
      refine lp_X10_isCrowd_17 _ M x1 x2 x3 (x3 + 1) _ hq13 ?_
      refine ev_iinc (y := x3 + 1) dX10_isCrowd_69 rfl (by first | rfl | decide) rfl rfl ?_
      refine ev_goto (t := 4) dX10_isCrowd_72 (by decide) ?_
      refine ev_drop (lv' := [some (.ref 69), some (.int x1), some (.int q12.1), some (.int (x3 + 1)), none]) (ab_sub_k (ab_sub_k (ab_sub_k (ab_sub_k (ab_sub_d ab_sub_nil))))) ?_
      exact ih M x1 q12.1 (x3 + 1) _ h kk

noncomputable def mi_X10_isCrowd (M : ab_M) (x1 : Int32) : Option (Int32) :=
  (mi_X10_isCrowd_4 ab_F M x1 1 0).bind fun q14 =>
  ab_chk (q14.1 = 0 ∨ q14.1 = 1) <| some q14.1

set_option maxHeartbeats 4000000 in
set_option maxRecDepth 100000 in
theorem co_X10_isCrowd {l : Launch} {D : va_G} {ac : Nat → ClassId} (M : ab_M) (x1 : Int32) (z : Int32) (h : mi_X10_isCrowd M x1 = some z) : ab_Con l D ac 3 me_X10_isCrowd 0 0 [.ref 69, .int x1] ab_SH M (some (.int z), ab_SH, M) := by
  refine ab_intro (lv := [some (.ref 69), some (.int x1), none, none, none]) (by decide) rfl (Nat.le_of_ble_eq_true rfl) rfl ?_
  unfold mi_X10_isCrowd at h
  refine ev_iconst (x := 1) dX10_isCrowd_0 (by decide) ?_
  refine ev_istore_n dX10_isCrowd_1 (Nat.le_of_ble_eq_true rfl) rfl rfl ?_
  refine ev_iconst (x := 0) dX10_isCrowd_2 (by decide) ?_
  refine ev_istore_n dX10_isCrowd_3 (Nat.le_of_ble_eq_true rfl) rfl rfl ?_
  obtain ⟨q14, hq15, h⟩ := ab_bind h
  refine lp_X10_isCrowd_4 _ M x1 1 0 _ hq15 ?_
  refine ev_iload_n dX10_isCrowd_75 rfl ?_
  obtain ⟨hz16, h⟩ := ab_chk_some h
  cases h
  exact ev_zreturn rfl hz16 dX10_isCrowd_76

noncomputable def mi_X10_boundOf_4 : Nat → ab_M → Int32 → Int32 → Int32 → Option (Int32 × Int32 × ab_M)
  | 0, _, _, _, _ => none
  | n + 1, M, x1, x2, x3 =>
    if (M.1 69 10) ≤ x3 then
      some (x2, x3, M)
    else
      ab_chk (vp_in x3 16) <|
      ((if ((x1 >>> ((M.1 78 (x3).toNatClampNeg) &&& 31)) &&& 1) = 1 then
        ab_chk (vp_in x2 6) <|
        some (x2 + 1, (ab_pi M 86 (x2).toNatClampNeg x3))
      else
        some (x2, M)) : Option (Int32 × ab_M)).bind fun q3 =>
      mi_X10_boundOf_4 n q3.2 x1 q3.1 (x3 + 1)

set_option maxHeartbeats 4000000 in
set_option maxRecDepth 100000 in
theorem lp_X10_boundOf_4 {l : Launch} {D : va_G} {ac : Nat → ClassId} {n0 : Nat} {r : ab_Rs} : ∀ (n : Nat) (M : ab_M) (x1 : Int32) (x2 : Int32) (x3 : Int32) (q : Int32 × Int32 × ab_M) (h : mi_X10_boundOf_4 n M x1 x2 x3 = some q) (kk : ab_Ev l D ac 3 me_X10_boundOf n0 0 0 r 0 0 ab_SH 42 [some (.ref 69), some (.int x1), some (.int q.1), some (.int q.2.1), none, none, none, none, none] [] q.2.2), ab_Ev l D ac 3 me_X10_boundOf n0 0 0 r 0 0 ab_SH 4 [some (.ref 69), some (.int x1), some (.int x2), some (.int x3), none, none, none, none, none] [] M := by
  intro n
  induction n with
  | zero =>
    intro M x1 x2 x3 q h kk
    cases h
  | succ n ih =>
    intro M x1 x2 x3 q h kk
    unfold mi_X10_boundOf_4 at h
    refine ev_iload_n dX10_boundOf_4 rfl ?_
    refine ev_aload_n dX10_boundOf_5 rfl ?_
    refine ev_geti fl_RX10_108 sh_69 (by decide) (by decide) rfl dX10_boundOf_6 ?_
    refine ev_icmp_ge (t := 42) dX10_boundOf_9 (by decide) (fun hc1 => ?_) (fun hc1 => ?_)
    · replace h := ab_pos hc1 h
      cases h
      exact kk
    · replace h := ab_neg hc1 h
      refine ev_iload_n dX10_boundOf_12 rfl ?_
      refine ev_aload_n dX10_boundOf_13 rfl ?_
      refine ev_getr (o' := 78) fl_RX10_34 sh_69 (by decide) (by decide) rfl rfl dX10_boundOf_14 ?_
      refine ev_iload_n dX10_boundOf_17 rfl ?_
      obtain ⟨hb2, h⟩ := ab_chk_some h
      refine ev_iaload sh_78 hb2 dX10_boundOf_18 ?_
      refine ev_ishr dX10_boundOf_19 ?_
      refine ev_iconst (x := 1) dX10_boundOf_20 (by decide) ?_
      refine ev_iand dX10_boundOf_21 ?_
      refine ev_iconst (x := 1) dX10_boundOf_22 (by decide) ?_
      obtain ⟨q3, hq4, h⟩ := ab_bind h
      have hJ5 : ab_Ev l D ac 3 me_X10_boundOf n0 0 0 r 0 0 ab_SH 36 [some (.ref 69), some (.int x1), some (.int q3.1), some (.int x3), none, none, none, none, none] [] q3.2 := by
        refine ev_iinc (y := x3 + 1) dX10_boundOf_36 rfl (by first | rfl | decide) rfl rfl ?_
        refine ev_goto (t := 4) dX10_boundOf_39 (by decide) ?_
        exact ih q3.2 x1 q3.1 (x3 + 1) _ h kk
      refine ev_icmp_ne (t := 36) dX10_boundOf_23 (by decide) (fun hc6 => ?_) (fun hc6 => ?_)
      · replace hq4 := ab_neg hc6 hq4
        cases hq4
        exact hJ5
      · replace hq4 := ab_pos hc6 hq4
        refine ev_aload_n dX10_boundOf_26 rfl ?_
        refine ev_getr (o' := 86) fl_RX10_68 sh_69 (by decide) (by decide) rfl rfl dX10_boundOf_27 ?_
        refine ev_iload_n dX10_boundOf_30 rfl ?_
        refine ev_iload_n dX10_boundOf_31 rfl ?_
        obtain ⟨hb7, hq4⟩ := ab_chk_some hq4
        refine ev_iastore sh_86 hb7 dX10_boundOf_32 ?_
        refine ev_iinc (y := x2 + 1) dX10_boundOf_33 rfl (by first | rfl | decide) rfl rfl ?_
        cases hq4
        exact hJ5

noncomputable def mi_X10_boundOf_96 : Nat → ab_M → Int32 → Int32 → Int32 → Int32 → Int32 → Option (Int32 × ab_M)
  | 0, _, _, _, _, _, _ => none
  | n + 1, M, x2, x3, x4, x5, x6 =>
    if x2 ≤ x6 then
      some (x6, M)
    else
      if ((x4 >>> (x5 &&& 31)) &&& 1) = 1 then
        ((if (((x4 &&& (((1 : Int32) <<< (x5 &&& 31)) ^^^ (-1))) >>> (x6 &&& 31)) &&& 1) = 1 then
          ab_chk (vp_in (((6 : Int32) * (x4 &&& (((1 : Int32) <<< (x5 &&& 31)) ^^^ (-1)))) + x6) 384) <|
          ab_chk (vp_in x5 6) <|
          ab_chk (vp_in (M.1 86 (x5).toNatClampNeg) 16) <|
          ab_chk (vp_in x6 6) <|
          ab_chk (vp_in (M.1 86 (x6).toNatClampNeg) 16) <|
          (mi_X10_barOf M (M.1 78 (M.1 86 (x5).toNatClampNeg).toNatClampNeg) (M.1 78 (M.1 86 (x6).toNatClampNeg).toNatClampNeg)).bind fun q28 =>
          (some ((M.1 87 (((6 : Int32) * (x4 &&& (((1 : Int32) <<< (x5 &&& 31)) ^^^ (-1)))) + x6).toNatClampNeg) + q28) : Option Int32).bind fun v30 =>
          ab_chk (vp_in (((6 : Int32) * x4) + x5) 384) <|
          ((if (M.1 87 (((6 : Int32) * x4) + x5).toNatClampNeg) ≤ v30 then
            ab_chk (vp_in (((6 : Int32) * x4) + x5) 384) <|
            some (M.1 87 (((6 : Int32) * x4) + x5).toNatClampNeg)
          else
            some v30) : Option (Int32)).bind fun q33 =>
          ab_chk (vp_in (((6 : Int32) * x4) + x5) 384) <|
          some (ab_pi M 87 (((6 : Int32) * x4) + x5).toNatClampNeg q33)
        else
          some M) : Option (ab_M)).bind fun q19 =>
        mi_X10_boundOf_96 n q19 x2 x3 x4 x5 (x6 + 1)
      else
        some (x6, M)

set_option maxHeartbeats 4000000 in
set_option maxRecDepth 100000 in
theorem lp_X10_boundOf_96 {l : Launch} {D : va_G} {ac : Nat → ClassId} {n0 : Nat} {r : ab_Rs} : ∀ (n : Nat) (M : ab_M) (x2 : Int32) (x3 : Int32) (x4 : Int32) (x5 : Int32) (x6 : Int32) (q : Int32 × ab_M) (h : mi_X10_boundOf_96 n M x2 x3 x4 x5 x6 = some q) (kk : ab_Ev l D ac 3 me_X10_boundOf n0 0 0 r 0 0 ab_SH 234 [some (.ref 69), none, some (.int x2), some (.int x3), some (.int x4), some (.int x5), some (.int q.1), none, none] [] q.2), ab_Ev l D ac 3 me_X10_boundOf n0 0 0 r 0 0 ab_SH 96 [some (.ref 69), none, some (.int x2), some (.int x3), some (.int x4), some (.int x5), some (.int x6), none, none] [] M := by
  intro n
  induction n with
  | zero =>
    intro M x2 x3 x4 x5 x6 q h kk
    cases h
  | succ n ih =>
    intro M x2 x3 x4 x5 x6 q h kk
    unfold mi_X10_boundOf_96 at h
    refine ev_iload dX10_boundOf_96 rfl ?_
    refine ev_iload_n dX10_boundOf_98 rfl ?_
    refine ev_icmp_ge (t := 234) dX10_boundOf_99 (by decide) (fun hc17 => ?_) (fun hc17 => ?_)
    · replace h := ab_pos hc17 h
      cases h
      exact kk
    · replace h := ab_neg hc17 h
      refine ev_iload dX10_boundOf_102 rfl ?_
      refine ev_iload dX10_boundOf_104 rfl ?_
      refine ev_ishr dX10_boundOf_106 ?_
      refine ev_iconst (x := 1) dX10_boundOf_107 (by decide) ?_
      refine ev_iand dX10_boundOf_108 ?_
      refine ev_iconst (x := 1) dX10_boundOf_109 (by decide) ?_
      refine ev_icmp_ne (t := 234) dX10_boundOf_110 (by decide) (fun hc18 => ?_) (fun hc18 => ?_)
      · replace h := ab_neg hc18 h
        cases h
        exact kk
      · replace h := ab_pos hc18 h
        refine ev_iload dX10_boundOf_113 rfl ?_
        refine ev_iconst (x := 1) dX10_boundOf_115 (by decide) ?_
        refine ev_iload dX10_boundOf_116 rfl ?_
        refine ev_ishl dX10_boundOf_118 ?_
        refine ev_iconst (x := (-1)) dX10_boundOf_119 (by decide) ?_
        refine ev_ixor dX10_boundOf_120 ?_
        refine ev_iand dX10_boundOf_121 ?_
        refine ev_istore dX10_boundOf_122 (Nat.le_of_ble_eq_true rfl) rfl rfl ?_
        refine ev_iload dX10_boundOf_124 rfl ?_
        refine ev_iload dX10_boundOf_126 rfl ?_
        refine ev_ishr dX10_boundOf_128 ?_
        refine ev_iconst (x := 1) dX10_boundOf_129 (by decide) ?_
        refine ev_iand dX10_boundOf_130 ?_
        refine ev_iconst (x := 1) dX10_boundOf_131 (by decide) ?_
        obtain ⟨q19, hq20, h⟩ := ab_bind h
        have hJ21 : ab_Ev l D ac 3 me_X10_boundOf n0 0 0 r 0 0 ab_SH 228 [some (.ref 69), none, some (.int x2), some (.int x3), some (.int x4), some (.int x5), some (.int x6), some (.int (x4 &&& (((1 : Int32) <<< (x5 &&& 31)) ^^^ (-1)))), none] [] q19 := by
          refine ev_iinc (y := x6 + 1) dX10_boundOf_228 rfl (by first | rfl | decide) rfl rfl ?_
          refine ev_goto (t := 96) dX10_boundOf_231 (by decide) ?_
          refine ev_drop (lv' := [some (.ref 69), none, some (.int x2), some (.int x3), some (.int x4), some (.int x5), some (.int (x6 + 1)), none, none]) (ab_sub_k (ab_sub_k (ab_sub_k (ab_sub_k (ab_sub_k (ab_sub_k (ab_sub_k (ab_sub_d (ab_sub_k ab_sub_nil))))))))) ?_
          exact ih q19 x2 x3 x4 x5 (x6 + 1) _ h kk
        refine ev_icmp_ne (t := 228) dX10_boundOf_132 (by decide) (fun hc22 => ?_) (fun hc22 => ?_)
        · replace hq20 := ab_neg hc22 hq20
          cases hq20
          exact hJ21
        · replace hq20 := ab_pos hc22 hq20
          refine ev_aload_n dX10_boundOf_135 rfl ?_
          refine ev_getr (o' := 87) fl_RX10_71 sh_69 (by decide) (by decide) rfl rfl dX10_boundOf_136 ?_
          refine ev_bipush (x := 6) dX10_boundOf_139 (by decide) ?_
          refine ev_iload dX10_boundOf_141 rfl ?_
          refine ev_imul dX10_boundOf_143 ?_
          refine ev_iload dX10_boundOf_144 rfl ?_
          refine ev_iadd dX10_boundOf_146 ?_
          obtain ⟨hb23, hq20⟩ := ab_chk_some hq20
          refine ev_iaload sh_87 hb23 dX10_boundOf_147 ?_
          refine ev_aload_n dX10_boundOf_148 rfl ?_
          refine ev_aload_n dX10_boundOf_149 rfl ?_
          refine ev_getr (o' := 78) fl_RX10_34 sh_69 (by decide) (by decide) rfl rfl dX10_boundOf_150 ?_
          refine ev_aload_n dX10_boundOf_153 rfl ?_
          refine ev_getr (o' := 86) fl_RX10_68 sh_69 (by decide) (by decide) rfl rfl dX10_boundOf_154 ?_
          refine ev_iload dX10_boundOf_157 rfl ?_
          obtain ⟨hb24, hq20⟩ := ab_chk_some hq20
          refine ev_iaload sh_86 hb24 dX10_boundOf_159 ?_
          obtain ⟨hb25, hq20⟩ := ab_chk_some hq20
          refine ev_iaload sh_78 hb25 dX10_boundOf_160 ?_
          refine ev_aload_n dX10_boundOf_161 rfl ?_
          refine ev_getr (o' := 78) fl_RX10_34 sh_69 (by decide) (by decide) rfl rfl dX10_boundOf_162 ?_
          refine ev_aload_n dX10_boundOf_165 rfl ?_
          refine ev_getr (o' := 86) fl_RX10_68 sh_69 (by decide) (by decide) rfl rfl dX10_boundOf_166 ?_
          refine ev_iload dX10_boundOf_169 rfl ?_
          obtain ⟨hb26, hq20⟩ := ab_chk_some hq20
          refine ev_iaload sh_86 hb26 dX10_boundOf_171 ?_
          obtain ⟨hb27, hq20⟩ := ab_chk_some hq20
          refine ev_iaload sh_78 hb27 dX10_boundOf_172 ?_
          obtain ⟨q28, hv29, hq20⟩ := ab_bind hq20
          refine ev_callV (st := [.int (M.1 87 (((6 : Int32) * (x4 &&& (((1 : Int32) <<< (x5 &&& 31)) ^^^ (-1)))) + x6).toNatClampNeg)]) (co_X10_barOf M (M.1 78 (M.1 86 (x5).toNatClampNeg).toNatClampNeg) (M.1 78 (M.1 86 (x6).toNatClampNeg).toNatClampNeg) _ hv29) mv_X10_barOf sh_69 ml_RX10_135 dX10_boundOf_173 (by decide) rfl (Nat.le_of_ble_eq_true rfl) ⟨Nat.le_refl _, Nat.le_refl _⟩ ?_
          refine ev_iadd dX10_boundOf_176 ?_
          obtain ⟨v30, hq31, hq20⟩ := ab_bind hq20
          refine ev_nmi (Option.some.inj hq31) ?_
          refine ev_istore (x := v30) dX10_boundOf_177 (Nat.le_of_ble_eq_true rfl) rfl rfl ?_
          refine ev_aload_n dX10_boundOf_179 rfl ?_
          refine ev_getr (o' := 87) fl_RX10_71 sh_69 (by decide) (by decide) rfl rfl dX10_boundOf_180 ?_
          refine ev_bipush (x := 6) dX10_boundOf_183 (by decide) ?_
          refine ev_iload dX10_boundOf_185 rfl ?_
          refine ev_imul dX10_boundOf_187 ?_
          refine ev_iload dX10_boundOf_188 rfl ?_
          refine ev_iadd dX10_boundOf_190 ?_
          refine ev_iload dX10_boundOf_191 rfl ?_
          refine ev_aload_n dX10_boundOf_193 rfl ?_
          refine ev_getr (o' := 87) fl_RX10_71 sh_69 (by decide) (by decide) rfl rfl dX10_boundOf_194 ?_
          refine ev_bipush (x := 6) dX10_boundOf_197 (by decide) ?_
          refine ev_iload dX10_boundOf_199 rfl ?_
          refine ev_imul dX10_boundOf_201 ?_
          refine ev_iload dX10_boundOf_202 rfl ?_
          refine ev_iadd dX10_boundOf_204 ?_
          obtain ⟨hb32, hq20⟩ := ab_chk_some hq20
          refine ev_iaload sh_87 hb32 dX10_boundOf_205 ?_
          obtain ⟨q33, hq34, hq20⟩ := ab_bind hq20
          have hJ35 : ab_Ev l D ac 3 me_X10_boundOf n0 0 0 r 0 0 ab_SH 227 [some (.ref 69), none, some (.int x2), some (.int x3), some (.int x4), some (.int x5), some (.int x6), some (.int (x4 &&& (((1 : Int32) <<< (x5 &&& 31)) ^^^ (-1)))), some (.int v30)] [.int q33, .int (((6 : Int32) * x4) + x5), .ref 87] M := by
            obtain ⟨hb38, hq20⟩ := ab_chk_some hq20
            refine ev_iastore sh_87 hb38 dX10_boundOf_227 ?_
            cases hq20
            refine ev_drop (lv' := [some (.ref 69), none, some (.int x2), some (.int x3), some (.int x4), some (.int x5), some (.int x6), some (.int (x4 &&& (((1 : Int32) <<< (x5 &&& 31)) ^^^ (-1)))), none]) (ab_sub_k (ab_sub_k (ab_sub_k (ab_sub_k (ab_sub_k (ab_sub_k (ab_sub_k (ab_sub_k (ab_sub_d ab_sub_nil))))))))) ?_
            exact hJ21
          refine ev_icmp_ge (t := 214) dX10_boundOf_206 (by decide) (fun hc36 => ?_) (fun hc36 => ?_)
          · replace hq34 := ab_pos hc36 hq34
            refine ev_aload_n dX10_boundOf_214 rfl ?_
            refine ev_getr (o' := 87) fl_RX10_71 sh_69 (by decide) (by decide) rfl rfl dX10_boundOf_215 ?_
            refine ev_bipush (x := 6) dX10_boundOf_218 (by decide) ?_
            refine ev_iload dX10_boundOf_220 rfl ?_
            refine ev_imul dX10_boundOf_222 ?_
            refine ev_iload dX10_boundOf_223 rfl ?_
            refine ev_iadd dX10_boundOf_225 ?_
            obtain ⟨hb37, hq34⟩ := ab_chk_some hq34
            refine ev_iaload sh_87 hb37 dX10_boundOf_226 ?_
            cases hq34
            exact hJ35
          · replace hq34 := ab_neg hc36 hq34
            refine ev_iload dX10_boundOf_209 rfl ?_
            refine ev_goto (t := 227) dX10_boundOf_211 (by decide) ?_
            cases hq34
            exact hJ35

noncomputable def mi_X10_boundOf_59 : Nat → ab_M → Int32 → Int32 → Int32 → Int32 → Option (Int32 × Int32 × ab_M)
  | 0, _, _, _, _, _ => none
  | n + 1, M, x2, x3, x4, x5 =>
    if x2 ≤ x5 then
      some (x3, x5, M)
    else
      ((if x4 = ((1 : Int32) <<< (x5 &&& 31)) then
        some 0
      else
        some 1000000) : Option (Int32)).bind fun q12 =>
      ab_chk (vp_in (((6 : Int32) * x4) + x5) 384) <|
      (mi_X10_boundOf_96 ab_F (ab_pi M 87 (((6 : Int32) * x4) + x5).toNatClampNeg q12) x2 x3 x4 x5 0).bind fun q39 =>
      ((if x4 = (((1 : Int32) <<< (x2 &&& 31)) - 1) then
        ab_chk (vp_in (((6 : Int32) * x4) + x5) 384) <|
        if x3 ≤ (q39.2.1 87 (((6 : Int32) * x4) + x5).toNatClampNeg) then
          some x3
        else
          ab_chk (vp_in (((6 : Int32) * x4) + x5) 384) <|
          some (q39.2.1 87 (((6 : Int32) * x4) + x5).toNatClampNeg)
      else
        some x3) : Option (Int32)).bind fun q41 =>
      mi_X10_boundOf_59 n q39.2 x2 q41 x4 (x5 + 1)

set_option maxHeartbeats 4000000 in
set_option maxRecDepth 100000 in
theorem lp_X10_boundOf_59 {l : Launch} {D : va_G} {ac : Nat → ClassId} {n0 : Nat} {r : ab_Rs} : ∀ (n : Nat) (M : ab_M) (x2 : Int32) (x3 : Int32) (x4 : Int32) (x5 : Int32) (q : Int32 × Int32 × ab_M) (h : mi_X10_boundOf_59 n M x2 x3 x4 x5 = some q) (kk : ab_Ev l D ac 3 me_X10_boundOf n0 0 0 r 0 0 ab_SH 285 [some (.ref 69), none, some (.int x2), some (.int q.1), some (.int x4), some (.int q.2.1), none, none, none] [] q.2.2), ab_Ev l D ac 3 me_X10_boundOf n0 0 0 r 0 0 ab_SH 59 [some (.ref 69), none, some (.int x2), some (.int x3), some (.int x4), some (.int x5), none, none, none] [] M := by
  intro n
  induction n with
  | zero =>
    intro M x2 x3 x4 x5 q h kk
    cases h
  | succ n ih =>
    intro M x2 x3 x4 x5 q h kk
    unfold mi_X10_boundOf_59 at h
    refine ev_iload dX10_boundOf_59 rfl ?_
    refine ev_iload_n dX10_boundOf_61 rfl ?_
    refine ev_icmp_ge (t := 285) dX10_boundOf_62 (by decide) (fun hc11 => ?_) (fun hc11 => ?_)
    · replace h := ab_pos hc11 h
      cases h
      exact kk
    · replace h := ab_neg hc11 h
      refine ev_aload_n dX10_boundOf_65 rfl ?_
      refine ev_getr (o' := 87) fl_RX10_71 sh_69 (by decide) (by decide) rfl rfl dX10_boundOf_66 ?_
      refine ev_bipush (x := 6) dX10_boundOf_69 (by decide) ?_
      refine ev_iload dX10_boundOf_71 rfl ?_
      refine ev_imul dX10_boundOf_73 ?_
      refine ev_iload dX10_boundOf_74 rfl ?_
      refine ev_iadd dX10_boundOf_76 ?_
      refine ev_iload dX10_boundOf_77 rfl ?_
      refine ev_iconst (x := 1) dX10_boundOf_79 (by decide) ?_
      refine ev_iload dX10_boundOf_80 rfl ?_
      refine ev_ishl dX10_boundOf_82 ?_
      obtain ⟨q12, hq13, h⟩ := ab_bind h
      have hJ14 : ab_Ev l D ac 3 me_X10_boundOf n0 0 0 r 0 0 ab_SH 92 [some (.ref 69), none, some (.int x2), some (.int x3), some (.int x4), some (.int x5), none, none, none] [.int q12, .int (((6 : Int32) * x4) + x5), .ref 87] M := by
        obtain ⟨hb16, h⟩ := ab_chk_some h
        refine ev_iastore sh_87 hb16 dX10_boundOf_92 ?_
        refine ev_iconst (x := 0) dX10_boundOf_93 (by decide) ?_
        refine ev_istore dX10_boundOf_94 (Nat.le_of_ble_eq_true rfl) rfl rfl ?_
        obtain ⟨q39, hq40, h⟩ := ab_bind h
        refine lp_X10_boundOf_96 _ (ab_pi M 87 (((6 : Int32) * x4) + x5).toNatClampNeg q12) x2 x3 x4 x5 0 _ hq40 ?_
        refine ev_iload dX10_boundOf_234 rfl ?_
        refine ev_iconst (x := 1) dX10_boundOf_236 (by decide) ?_
        refine ev_iload_n dX10_boundOf_237 rfl ?_
        refine ev_ishl dX10_boundOf_238 ?_
        refine ev_iconst (x := 1) dX10_boundOf_239 (by decide) ?_
        refine ev_isub dX10_boundOf_240 ?_
        obtain ⟨q41, hq42, h⟩ := ab_bind h
        have hJ43 : ab_Ev l D ac 3 me_X10_boundOf n0 0 0 r 0 0 ab_SH 278 [some (.ref 69), none, some (.int x2), some (.int x3), some (.int x4), some (.int x5), some (.int q39.1), none, none] [.int q41] q39.2 := by
          refine ev_istore_n dX10_boundOf_278 (Nat.le_of_ble_eq_true rfl) rfl rfl ?_
          refine ev_iinc (y := x5 + 1) dX10_boundOf_279 rfl (by first | rfl | decide) rfl rfl ?_
          refine ev_goto (t := 59) dX10_boundOf_282 (by decide) ?_
          refine ev_drop (lv' := [some (.ref 69), none, some (.int x2), some (.int q41), some (.int x4), some (.int (x5 + 1)), none, none, none]) (ab_sub_k (ab_sub_k (ab_sub_k (ab_sub_k (ab_sub_k (ab_sub_k (ab_sub_d (ab_sub_k (ab_sub_k ab_sub_nil))))))))) ?_
          exact ih q39.2 x2 q41 x4 (x5 + 1) _ h kk
        refine ev_icmp_ne (t := 277) dX10_boundOf_241 (by decide) (fun hc44 => ?_) (fun hc44 => ?_)
        · replace hq42 := ab_neg hc44 hq42
          refine ev_iload_n dX10_boundOf_277 rfl ?_
          cases hq42
          exact hJ43
        · replace hq42 := ab_pos hc44 hq42
          refine ev_aload_n dX10_boundOf_244 rfl ?_
          refine ev_getr (o' := 87) fl_RX10_71 sh_69 (by decide) (by decide) rfl rfl dX10_boundOf_245 ?_
          refine ev_bipush (x := 6) dX10_boundOf_248 (by decide) ?_
          refine ev_iload dX10_boundOf_250 rfl ?_
          refine ev_imul dX10_boundOf_252 ?_
          refine ev_iload dX10_boundOf_253 rfl ?_
          refine ev_iadd dX10_boundOf_255 ?_
          obtain ⟨hb45, hq42⟩ := ab_chk_some hq42
          refine ev_iaload sh_87 hb45 dX10_boundOf_256 ?_
          refine ev_iload_n dX10_boundOf_257 rfl ?_
          refine ev_icmp_ge (t := 277) dX10_boundOf_258 (by decide) (fun hc46 => ?_) (fun hc46 => ?_)
          · replace hq42 := ab_pos hc46 hq42
            refine ev_iload_n dX10_boundOf_277 rfl ?_
            cases hq42
            exact hJ43
          · replace hq42 := ab_neg hc46 hq42
            refine ev_aload_n dX10_boundOf_261 rfl ?_
            refine ev_getr (o' := 87) fl_RX10_71 sh_69 (by decide) (by decide) rfl rfl dX10_boundOf_262 ?_
            refine ev_bipush (x := 6) dX10_boundOf_265 (by decide) ?_
            refine ev_iload dX10_boundOf_267 rfl ?_
            refine ev_imul dX10_boundOf_269 ?_
            refine ev_iload dX10_boundOf_270 rfl ?_
            refine ev_iadd dX10_boundOf_272 ?_
            obtain ⟨hb47, hq42⟩ := ab_chk_some hq42
            refine ev_iaload sh_87 hb47 dX10_boundOf_273 ?_
            refine ev_goto (t := 278) dX10_boundOf_274 (by decide) ?_
            cases hq42
            exact hJ43
      refine ev_icmp_ne (t := 90) dX10_boundOf_83 (by decide) (fun hc15 => ?_) (fun hc15 => ?_)
      · replace hq13 := ab_neg hc15 hq13
        refine ev_ldc kw_RX10_241 dX10_boundOf_90 ?_
        cases hq13
        exact hJ14
      · replace hq13 := ab_pos hc15 hq13
        refine ev_iconst (x := 0) dX10_boundOf_86 (by decide) ?_
        refine ev_goto (t := 92) dX10_boundOf_87 (by decide) ?_
        cases hq13
        exact hJ14

noncomputable def mi_X10_boundOf_48 : Nat → ab_M → Int32 → Int32 → Int32 → Option (Int32 × Int32 × ab_M)
  | 0, _, _, _, _ => none
  | n + 1, M, x2, x3, x4 =>
    if ((1 : Int32) <<< (x2 &&& 31)) ≤ x4 then
      some (x3, x4, M)
    else
      (mi_X10_boundOf_59 ab_F M x2 x3 x4 0).bind fun q48 =>
      mi_X10_boundOf_48 n q48.2.2 x2 q48.1 (x4 + 1)

set_option maxHeartbeats 4000000 in
set_option maxRecDepth 100000 in
theorem lp_X10_boundOf_48 {l : Launch} {D : va_G} {ac : Nat → ClassId} {n0 : Nat} {r : ab_Rs} : ∀ (n : Nat) (M : ab_M) (x2 : Int32) (x3 : Int32) (x4 : Int32) (q : Int32 × Int32 × ab_M) (h : mi_X10_boundOf_48 n M x2 x3 x4 = some q) (kk : ab_Ev l D ac 3 me_X10_boundOf n0 0 0 r 0 0 ab_SH 291 [some (.ref 69), none, some (.int x2), some (.int q.1), some (.int q.2.1), none, none, none, none] [] q.2.2), ab_Ev l D ac 3 me_X10_boundOf n0 0 0 r 0 0 ab_SH 48 [some (.ref 69), none, some (.int x2), some (.int x3), some (.int x4), none, none, none, none] [] M := by
  intro n
  induction n with
  | zero =>
    intro M x2 x3 x4 q h kk
    cases h
  | succ n ih =>
    intro M x2 x3 x4 q h kk
    unfold mi_X10_boundOf_48 at h
    refine ev_iload dX10_boundOf_48 rfl ?_
    refine ev_iconst (x := 1) dX10_boundOf_50 (by decide) ?_
    refine ev_iload_n dX10_boundOf_51 rfl ?_
    refine ev_ishl dX10_boundOf_52 ?_
    refine ev_icmp_ge (t := 291) dX10_boundOf_53 (by decide) (fun hc10 => ?_) (fun hc10 => ?_)
    · replace h := ab_pos hc10 h
      cases h
      exact kk
    · replace h := ab_neg hc10 h
      refine ev_iconst (x := 0) dX10_boundOf_56 (by decide) ?_
      refine ev_istore dX10_boundOf_57 (Nat.le_of_ble_eq_true rfl) rfl rfl ?_
      obtain ⟨q48, hq49, h⟩ := ab_bind h
      refine lp_X10_boundOf_59 _ M x2 x3 x4 0 _ hq49 ?_
      refine ev_iinc (y := x4 + 1) dX10_boundOf_285 rfl (by first | rfl | decide) rfl rfl ?_
      refine ev_goto (t := 48) dX10_boundOf_288 (by decide) ?_
      refine ev_drop (lv' := [some (.ref 69), none, some (.int x2), some (.int q48.1), some (.int (x4 + 1)), none, none, none, none]) (ab_sub_k (ab_sub_k (ab_sub_k (ab_sub_k (ab_sub_k (ab_sub_d (ab_sub_k (ab_sub_k (ab_sub_k ab_sub_nil))))))))) ?_
      exact ih q48.2.2 x2 q48.1 (x4 + 1) _ h kk

noncomputable def mi_X10_boundOf (M : ab_M) (x1 : Int32) : Option (Int32 × ab_M) :=
  (mi_X10_boundOf_4 ab_F M x1 0 0).bind fun q8 =>
  (mi_X10_boundOf_48 ab_F q8.2.2 q8.1 1000000 1).bind fun q50 =>
  some (q50.1, q50.2.2)

set_option maxHeartbeats 4000000 in
set_option maxRecDepth 100000 in
theorem co_X10_boundOf {l : Launch} {D : va_G} {ac : Nat → ClassId} (M : ab_M) (x1 : Int32) (z : Int32 × ab_M) (h : mi_X10_boundOf M x1 = some z) : ab_Con l D ac 3 me_X10_boundOf 0 0 [.ref 69, .int x1] ab_SH M (some (.int z.1), ab_SH, z.2) := by
  refine ab_intro (lv := [some (.ref 69), some (.int x1), none, none, none, none, none, none, none]) (by decide) rfl (Nat.le_of_ble_eq_true rfl) rfl ?_
  unfold mi_X10_boundOf at h
  refine ev_iconst (x := 0) dX10_boundOf_0 (by decide) ?_
  refine ev_istore_n dX10_boundOf_1 (Nat.le_of_ble_eq_true rfl) rfl rfl ?_
  refine ev_iconst (x := 0) dX10_boundOf_2 (by decide) ?_
  refine ev_istore_n dX10_boundOf_3 (Nat.le_of_ble_eq_true rfl) rfl rfl ?_
  obtain ⟨q8, hq9, h⟩ := ab_bind h
  refine lp_X10_boundOf_4 _ M x1 0 0 _ hq9 ?_
  refine ev_ldc kw_RX10_241 dX10_boundOf_42 ?_
  refine ev_istore_n dX10_boundOf_44 (Nat.le_of_ble_eq_true rfl) rfl rfl ?_
  refine ev_iconst (x := 1) dX10_boundOf_45 (by decide) ?_
  refine ev_istore dX10_boundOf_46 (Nat.le_of_ble_eq_true rfl) rfl rfl ?_
  obtain ⟨q50, hq51, h⟩ := ab_bind h
  refine ev_drop (lv' := [some (.ref 69), none, some (.int q8.1), some (.int 1000000), some (.int 1), none, none, none, none]) (ab_sub_k (ab_sub_d (ab_sub_k (ab_sub_k (ab_sub_k (ab_sub_k (ab_sub_k (ab_sub_k (ab_sub_k ab_sub_nil))))))))) ?_
  refine lp_X10_boundOf_48 _ q8.2.2 q8.1 1000000 1 _ hq51 ?_
  refine ev_iload_n dX10_boundOf_291 rfl ?_
  cases h
  exact ev_ireturn rfl dX10_boundOf_292

noncomputable def mi_X10_bound (M : ab_M) (x1 : Int32) : Option (Int32 × ab_M) :=
  if x1 ≤ 0 then
    some ((-1), (ab_pi M 69 0 0))
  else
    if x1 < ((1 : Int32) <<< (((ab_pi M 69 0 0).1 69 1) &&& 31)) then
      (mi_X10_isCrowd (ab_pi M 69 0 0) x1).bind fun q3 =>
      if q3 = 0 then
        some ((-2), (ab_pi M 69 0 0))
      else
        (mi_X10_wantsIn (ab_pi M 69 0 0) x1).bind fun q6 =>
        if q6 ≤ 6 then
          (mi_X10_boundOf (ab_pi M 69 0 0) x1).bind fun q9 =>
          some (q9.1, q9.2)
        else
          some ((-3), (ab_pi M 69 0 0))
    else
      some ((-1), (ab_pi M 69 0 0))

set_option maxHeartbeats 4000000 in
set_option maxRecDepth 100000 in
theorem co_X10_bound {l : Launch} {D : va_G} {ac : Nat → ClassId} (M : ab_M) (x1 : Int32) (z : Int32 × ab_M) (h : mi_X10_bound M x1 = some z) : ab_Con l D ac 4 me_X10_bound 0 0 [.ref 69, .int x1] ab_SH M (some (.int z.1), ab_SH, z.2) := by
  refine ab_intro (lv := [some (.ref 69), some (.int x1)]) (by decide) rfl (Nat.le_of_ble_eq_true rfl) rfl ?_
  unfold mi_X10_bound at h
  refine ev_aload_n dX10_bound_0 rfl ?_
  refine ev_iconst (x := 0) dX10_bound_1 (by decide) ?_
  refine ev_puti fl_RX10_102 sh_69 (by decide) (by decide) rfl rfl rfl dX10_bound_2 ?_
  refine ev_iload_n dX10_bound_5 rfl ?_
  refine ev_if_le (t := 19) dX10_bound_6 (by decide) (fun hc1 => ?_) (fun hc1 => ?_)
  · replace h := ab_pos hc1 h
    refine ev_iconst (x := (-1)) dX10_bound_19 (by decide) ?_
    cases h
    exact ev_ireturn rfl dX10_bound_20
  · replace h := ab_neg hc1 h
    refine ev_iload_n dX10_bound_9 rfl ?_
    refine ev_iconst (x := 1) dX10_bound_10 (by decide) ?_
    refine ev_aload_n dX10_bound_11 rfl ?_
    refine ev_geti fl_RX10_105 sh_69 (by decide) (by decide) rfl dX10_bound_12 ?_
    refine ev_ishl dX10_bound_15 ?_
    refine ev_icmp_lt (t := 21) dX10_bound_16 (by decide) (fun hc2 => ?_) (fun hc2 => ?_)
    · replace h := ab_pos hc2 h
      refine ev_aload_n dX10_bound_21 rfl ?_
      refine ev_iload_n dX10_bound_22 rfl ?_
      obtain ⟨q3, hv4, h⟩ := ab_bind h
      refine ev_callV (st := []) (co_X10_isCrowd (ab_pi M 69 0 0) x1 _ hv4) mv_X10_isCrowd sh_69 ml_RX10_242 dX10_bound_23 (by decide) rfl (Nat.le_of_ble_eq_true rfl) ⟨Nat.le_refl _, Nat.le_refl _⟩ ?_
      refine ev_if_ne (t := 34) dX10_bound_26 (by decide) (fun hc5 => ?_) (fun hc5 => ?_)
      · replace h := ab_neg hc5 h
        refine ev_aload_n dX10_bound_34 rfl ?_
        refine ev_iload_n dX10_bound_35 rfl ?_
        obtain ⟨q6, hv7, h⟩ := ab_bind h
        refine ev_callV (st := []) (co_X10_wantsIn (ab_pi M 69 0 0) x1 _ hv7) mv_X10_wantsIn sh_69 ml_RX10_245 dX10_bound_36 (by decide) rfl (Nat.le_of_ble_eq_true rfl) ⟨Nat.le_refl _, Nat.le_refl _⟩ ?_
        refine ev_bipush (x := 6) dX10_bound_39 (by decide) ?_
        refine ev_icmp_le (t := 49) dX10_bound_41 (by decide) (fun hc8 => ?_) (fun hc8 => ?_)
        · replace h := ab_pos hc8 h
          refine ev_aload_n dX10_bound_49 rfl ?_
          refine ev_iload_n dX10_bound_50 rfl ?_
          obtain ⟨q9, hv10, h⟩ := ab_bind h
          refine ev_callV (st := []) (co_X10_boundOf (ab_pi M 69 0 0) x1 _ hv10) mv_X10_boundOf sh_69 ml_RX10_248 dX10_bound_51 (by decide) rfl (Nat.le_of_ble_eq_true rfl) ⟨Nat.le_refl _, Nat.le_refl _⟩ ?_
          cases h
          exact ev_ireturn rfl dX10_bound_54
        · replace h := ab_neg hc8 h
          refine ev_bipush (x := (-3)) dX10_bound_44 (by decide) ?_
          refine ev_goto (t := 54) dX10_bound_46 (by decide) ?_
          cases h
          exact ev_ireturn rfl dX10_bound_54
      · replace h := ab_pos hc5 h
        refine ev_bipush (x := (-2)) dX10_bound_29 (by decide) ?_
        refine ev_goto (t := 54) dX10_bound_31 (by decide) ?_
        cases h
        exact ev_ireturn rfl dX10_bound_54
    · replace h := ab_neg hc2 h
      refine ev_iconst (x := (-1)) dX10_bound_19 (by decide) ?_
      cases h
      exact ev_ireturn rfl dX10_bound_20

noncomputable def mi_X10_crowd_11 : Nat → ab_M → Int32 → Int32 → Int32 → Option (Int32 × Int32 × Int32 × ab_M)
  | 0, _, _, _, _ => none
  | n + 1, M, x1, x2, x3 =>
    if ((1 : Int32) <<< ((M.1 69 1) &&& 31)) ≤ x3 then
      some (x1, x2, x3, M)
    else
      (mi_X10_wantsIn M x3).bind fun q2 =>
      ((if 6 < q2 then
        some (x1, x2, M)
      else
        (mi_X10_isCrowd M x3).bind fun q8 =>
        if q8 = 0 then
          some (x1, x2, M)
        else
          (mi_X10_boundOf M x3).bind fun q11 =>
          if q11.1 ≤ x2 then
            some (x1, x2, q11.2)
          else
            some (x3, q11.1, q11.2)) : Option (Int32 × Int32 × ab_M)).bind fun q4 =>
      mi_X10_crowd_11 n q4.2.2 q4.1 q4.2.1 (x3 + 1)

set_option maxHeartbeats 4000000 in
set_option maxRecDepth 100000 in
theorem lp_X10_crowd_11 {l : Launch} {D : va_G} {ac : Nat → ClassId} {n0 : Nat} {r : ab_Rs} : ∀ (n : Nat) (M : ab_M) (x1 : Int32) (x2 : Int32) (x3 : Int32) (q : Int32 × Int32 × Int32 × ab_M) (h : mi_X10_crowd_11 n M x1 x2 x3 = some q) (kk : ab_Ev l D ac 4 me_X10_crowd n0 0 0 r 0 0 ab_SH 63 [some (.ref 69), some (.int q.1), some (.int q.2.1), some (.int q.2.2.1), none] [] q.2.2.2), ab_Ev l D ac 4 me_X10_crowd n0 0 0 r 0 0 ab_SH 11 [some (.ref 69), some (.int x1), some (.int x2), some (.int x3), none] [] M := by
  intro n
  induction n with
  | zero =>
    intro M x1 x2 x3 q h kk
    cases h
  | succ n ih =>
    intro M x1 x2 x3 q h kk
    unfold mi_X10_crowd_11 at h
    refine ev_iload_n dX10_crowd_11 rfl ?_
    refine ev_iconst (x := 1) dX10_crowd_12 (by decide) ?_
    refine ev_aload_n dX10_crowd_13 rfl ?_
    refine ev_geti fl_RX10_105 sh_69 (by decide) (by decide) rfl dX10_crowd_14 ?_
    refine ev_ishl dX10_crowd_17 ?_
    refine ev_icmp_ge (t := 63) dX10_crowd_18 (by decide) (fun hc1 => ?_) (fun hc1 => ?_)
    · replace h := ab_pos hc1 h
      cases h
      exact kk
    · replace h := ab_neg hc1 h
      refine ev_aload_n dX10_crowd_21 rfl ?_
      refine ev_iload_n dX10_crowd_22 rfl ?_
      obtain ⟨q2, hv3, h⟩ := ab_bind h
      refine ev_callV (st := []) (co_X10_wantsIn M x3 _ hv3) mv_X10_wantsIn sh_69 ml_RX10_245 dX10_crowd_23 (by decide) rfl (Nat.le_of_ble_eq_true rfl) ⟨Nat.le_refl _, Nat.le_refl _⟩ ?_
      refine ev_bipush (x := 6) dX10_crowd_26 (by decide) ?_
      obtain ⟨q4, hq5, h⟩ := ab_bind h
      have hJ6 : ab_Ev l D ac 4 me_X10_crowd n0 0 0 r 0 0 ab_SH 57 [some (.ref 69), some (.int q4.1), some (.int q4.2.1), some (.int x3), none] [] q4.2.2 := by
        refine ev_iinc (y := x3 + 1) dX10_crowd_57 rfl (by first | rfl | decide) rfl rfl ?_
        refine ev_goto (t := 11) dX10_crowd_60 (by decide) ?_
        exact ih q4.2.2 q4.1 q4.2.1 (x3 + 1) _ h kk
      refine ev_icmp_gt (t := 57) dX10_crowd_28 (by decide) (fun hc7 => ?_) (fun hc7 => ?_)
      · replace hq5 := ab_pos hc7 hq5
        cases hq5
        exact hJ6
      · replace hq5 := ab_neg hc7 hq5
        refine ev_aload_n dX10_crowd_31 rfl ?_
        refine ev_iload_n dX10_crowd_32 rfl ?_
        obtain ⟨q8, hv9, hq5⟩ := ab_bind hq5
        refine ev_callV (st := []) (co_X10_isCrowd M x3 _ hv9) mv_X10_isCrowd sh_69 ml_RX10_242 dX10_crowd_33 (by decide) rfl (Nat.le_of_ble_eq_true rfl) ⟨Nat.le_refl _, Nat.le_refl _⟩ ?_
        refine ev_if_eq (t := 57) dX10_crowd_36 (by decide) (fun hc10 => ?_) (fun hc10 => ?_)
        · replace hq5 := ab_pos hc10 hq5
          cases hq5
          exact hJ6
        · replace hq5 := ab_neg hc10 hq5
          refine ev_aload_n dX10_crowd_39 rfl ?_
          refine ev_iload_n dX10_crowd_40 rfl ?_
          obtain ⟨q11, hv12, hq5⟩ := ab_bind hq5
          refine ev_callV (st := []) (co_X10_boundOf M x3 _ hv12) mv_X10_boundOf sh_69 ml_RX10_248 dX10_crowd_41 (by decide) rfl (Nat.le_of_ble_eq_true rfl) ⟨Nat.le_refl _, Nat.le_refl _⟩ ?_
          refine ev_istore dX10_crowd_44 (Nat.le_of_ble_eq_true rfl) rfl rfl ?_
          refine ev_iload dX10_crowd_46 rfl ?_
          refine ev_iload_n dX10_crowd_48 rfl ?_
          refine ev_icmp_le (t := 57) dX10_crowd_49 (by decide) (fun hc13 => ?_) (fun hc13 => ?_)
          · replace hq5 := ab_pos hc13 hq5
            cases hq5
            refine ev_drop (lv' := [some (.ref 69), some (.int x1), some (.int x2), some (.int x3), none]) (ab_sub_k (ab_sub_k (ab_sub_k (ab_sub_k (ab_sub_d ab_sub_nil))))) ?_
            exact hJ6
          · replace hq5 := ab_neg hc13 hq5
            refine ev_iload dX10_crowd_52 rfl ?_
            refine ev_istore_n dX10_crowd_54 (Nat.le_of_ble_eq_true rfl) rfl rfl ?_
            refine ev_iload_n dX10_crowd_55 rfl ?_
            refine ev_istore_n dX10_crowd_56 (Nat.le_of_ble_eq_true rfl) rfl rfl ?_
            cases hq5
            refine ev_drop (lv' := [some (.ref 69), some (.int x3), some (.int q11.1), some (.int x3), none]) (ab_sub_k (ab_sub_k (ab_sub_k (ab_sub_k (ab_sub_d ab_sub_nil))))) ?_
            exact hJ6

noncomputable def mi_X10_crowd (M : ab_M) : Option (Int32 × ab_M) :=
  (mi_X10_crowd_11 ab_F (ab_pi M 69 0 0) 0 (-1) 1).bind fun q14 =>
  some (q14.1, q14.2.2.2)

set_option maxHeartbeats 4000000 in
set_option maxRecDepth 100000 in
theorem co_X10_crowd {l : Launch} {D : va_G} {ac : Nat → ClassId} (M : ab_M) (z : Int32 × ab_M) (h : mi_X10_crowd M = some z) : ab_Con l D ac 4 me_X10_crowd 0 0 [.ref 69] ab_SH M (some (.int z.1), ab_SH, z.2) := by
  refine ab_intro (lv := [some (.ref 69), none, none, none, none]) (by decide) rfl (Nat.le_of_ble_eq_true rfl) rfl ?_
  unfold mi_X10_crowd at h
  refine ev_aload_n dX10_crowd_0 rfl ?_
  refine ev_iconst (x := 0) dX10_crowd_1 (by decide) ?_
  refine ev_puti fl_RX10_102 sh_69 (by decide) (by decide) rfl rfl rfl dX10_crowd_2 ?_
  refine ev_iconst (x := 0) dX10_crowd_5 (by decide) ?_
  refine ev_istore_n dX10_crowd_6 (Nat.le_of_ble_eq_true rfl) rfl rfl ?_
  refine ev_iconst (x := (-1)) dX10_crowd_7 (by decide) ?_
  refine ev_istore_n dX10_crowd_8 (Nat.le_of_ble_eq_true rfl) rfl rfl ?_
  refine ev_iconst (x := 1) dX10_crowd_9 (by decide) ?_
  refine ev_istore_n dX10_crowd_10 (Nat.le_of_ble_eq_true rfl) rfl rfl ?_
  obtain ⟨q14, hq15, h⟩ := ab_bind h
  refine lp_X10_crowd_11 _ (ab_pi M 69 0 0) 0 (-1) 1 _ hq15 ?_
  refine ev_iload_n dX10_crowd_63 rfl ?_
  cases h
  exact ev_ireturn rfl dX10_crowd_64

noncomputable def mi_X10_areNear_18 : Nat → ab_M → Int32 → Int32 → Int32 → Int32 → Option (Int32 × Int32)
  | 0, _, _, _, _, _ => none
  | n + 1, M, x1, x2, x3, x4 =>
    if (M.1 69 1) ≤ x4 then
      some (x3, x4)
    else
      ((if x3 = 0 then
        (mi_X10_areIn M x1 x2 x4).bind fun q12 =>
        if q12 = 0 then
          some 0
        else
          some 1
      else
        some 1) : Option (Int32)).bind fun q8 =>
      mi_X10_areNear_18 n M x1 x2 q8 (x4 + 1)

set_option maxHeartbeats 4000000 in
set_option maxRecDepth 100000 in
theorem lp_X10_areNear_18 {l : Launch} {D : va_G} {ac : Nat → ClassId} {n0 : Nat} {r : ab_Rs} : ∀ (n : Nat) (M : ab_M) (x1 : Int32) (x2 : Int32) (x3 : Int32) (x4 : Int32) (q : Int32 × Int32) (h : mi_X10_areNear_18 n M x1 x2 x3 x4 = some q) (kk : ab_Ev l D ac 3 me_X10_areNear n0 0 0 r 0 0 ab_SH 54 [some (.ref 69), some (.int x1), some (.int x2), some (.int q.1), some (.int q.2)] [] M), ab_Ev l D ac 3 me_X10_areNear n0 0 0 r 0 0 ab_SH 18 [some (.ref 69), some (.int x1), some (.int x2), some (.int x3), some (.int x4)] [] M := by
  intro n
  induction n with
  | zero =>
    intro M x1 x2 x3 x4 q h kk
    cases h
  | succ n ih =>
    intro M x1 x2 x3 x4 q h kk
    unfold mi_X10_areNear_18 at h
    refine ev_iload dX10_areNear_18 rfl ?_
    refine ev_aload_n dX10_areNear_20 rfl ?_
    refine ev_geti fl_RX10_105 sh_69 (by decide) (by decide) rfl dX10_areNear_21 ?_
    refine ev_icmp_ge (t := 54) dX10_areNear_24 (by decide) (fun hc7 => ?_) (fun hc7 => ?_)
    · replace h := ab_pos hc7 h
      cases h
      exact kk
    · replace h := ab_neg hc7 h
      refine ev_iload_n dX10_areNear_27 rfl ?_
      obtain ⟨q8, hq9, h⟩ := ab_bind h
      have hJ10 : ab_Ev l D ac 3 me_X10_areNear n0 0 0 r 0 0 ab_SH 47 [some (.ref 69), some (.int x1), some (.int x2), some (.int x3), some (.int x4)] [.int q8] M := by
        refine ev_istore_n dX10_areNear_47 (Nat.le_of_ble_eq_true rfl) rfl rfl ?_
        refine ev_iinc (y := x4 + 1) dX10_areNear_48 rfl (by first | rfl | decide) rfl rfl ?_
        refine ev_goto (t := 18) dX10_areNear_51 (by decide) ?_
        exact ih M x1 x2 q8 (x4 + 1) _ h kk
      refine ev_if_ne (t := 42) dX10_areNear_28 (by decide) (fun hc11 => ?_) (fun hc11 => ?_)
      · replace hq9 := ab_neg hc11 hq9
        refine ev_iconst (x := 1) dX10_areNear_42 (by decide) ?_
        refine ev_goto (t := 47) dX10_areNear_43 (by decide) ?_
        cases hq9
        exact hJ10
      · replace hq9 := ab_pos hc11 hq9
        refine ev_aload_n dX10_areNear_31 rfl ?_
        refine ev_iload_n dX10_areNear_32 rfl ?_
        refine ev_iload_n dX10_areNear_33 rfl ?_
        refine ev_iload dX10_areNear_34 rfl ?_
        obtain ⟨q12, hv13, hq9⟩ := ab_bind hq9
        refine ev_callV (st := []) (co_X10_areIn M x1 x2 x4 _ hv13) mv_X10_areIn sh_69 ml_RX10_188 dX10_areNear_36 (by decide) rfl (Nat.le_of_ble_eq_true rfl) ⟨Nat.le_refl _, Nat.le_refl _⟩ ?_
        refine ev_if_eq (t := 46) dX10_areNear_39 (by decide) (fun hc14 => ?_) (fun hc14 => ?_)
        · replace hq9 := ab_pos hc14 hq9
          refine ev_iconst (x := 0) dX10_areNear_46 (by decide) ?_
          cases hq9
          exact hJ10
        · replace hq9 := ab_neg hc14 hq9
          refine ev_iconst (x := 1) dX10_areNear_42 (by decide) ?_
          refine ev_goto (t := 47) dX10_areNear_43 (by decide) ?_
          cases hq9
          exact hJ10

noncomputable def mi_X10_areNear (M : ab_M) (x1 : Int32) (x2 : Int32) : Option (Int32) :=
  (mi_X10_barOf M x1 x2).bind fun q1 =>
  ((if q1 ≤ 0 then
    some 0
  else
    some 1) : Option (Int32)).bind fun q3 =>
  (mi_X10_areNear_18 ab_F M x1 x2 q3 0).bind fun q15 =>
  ab_chk (q15.1 = 0 ∨ q15.1 = 1) <| some q15.1

set_option maxHeartbeats 4000000 in
set_option maxRecDepth 100000 in
theorem co_X10_areNear {l : Launch} {D : va_G} {ac : Nat → ClassId} (M : ab_M) (x1 : Int32) (x2 : Int32) (z : Int32) (h : mi_X10_areNear M x1 x2 = some z) : ab_Con l D ac 3 me_X10_areNear 0 0 [.ref 69, .int x1, .int x2] ab_SH M (some (.int z), ab_SH, M) := by
  refine ab_intro (lv := [some (.ref 69), some (.int x1), some (.int x2), none, none]) (by decide) rfl (Nat.le_of_ble_eq_true rfl) rfl ?_
  unfold mi_X10_areNear at h
  refine ev_aload_n dX10_areNear_0 rfl ?_
  refine ev_iload_n dX10_areNear_1 rfl ?_
  refine ev_iload_n dX10_areNear_2 rfl ?_
  obtain ⟨q1, hv2, h⟩ := ab_bind h
  refine ev_callV (st := []) (co_X10_barOf M x1 x2 _ hv2) mv_X10_barOf sh_69 ml_RX10_135 dX10_areNear_3 (by decide) rfl (Nat.le_of_ble_eq_true rfl) ⟨Nat.le_refl _, Nat.le_refl _⟩ ?_
  obtain ⟨q3, hq4, h⟩ := ab_bind h
  have hJ5 : ab_Ev l D ac 3 me_X10_areNear ab_SH.length 0 0 (some (.int z), ab_SH, M) 0 0 ab_SH 14 [some (.ref 69), some (.int x1), some (.int x2), none, none] [.int q3] M := by
    refine ev_istore_n dX10_areNear_14 (Nat.le_of_ble_eq_true rfl) rfl rfl ?_
    refine ev_iconst (x := 0) dX10_areNear_15 (by decide) ?_
    refine ev_istore dX10_areNear_16 (Nat.le_of_ble_eq_true rfl) rfl rfl ?_
    obtain ⟨q15, hq16, h⟩ := ab_bind h
    refine lp_X10_areNear_18 _ M x1 x2 q3 0 _ hq16 ?_
    refine ev_iload_n dX10_areNear_54 rfl ?_
    obtain ⟨hz17, h⟩ := ab_chk_some h
    cases h
    exact ev_zreturn rfl hz17 dX10_areNear_55
  refine ev_if_le (t := 13) dX10_areNear_6 (by decide) (fun hc6 => ?_) (fun hc6 => ?_)
  · replace hq4 := ab_pos hc6 hq4
    refine ev_iconst (x := 0) dX10_areNear_13 (by decide) ?_
    cases hq4
    exact hJ5
  · replace hq4 := ab_neg hc6 hq4
    refine ev_iconst (x := 1) dX10_areNear_9 (by decide) ?_
    refine ev_goto (t := 14) dX10_areNear_10 (by decide) ?_
    cases hq4
    exact hJ5

noncomputable def mi_X10_findParts_2 : Nat → ab_M → Int32 → Option (Int32 × ab_M)
  | 0, _, _ => none
  | n + 1, M, x1 =>
    if (M.1 69 1) ≤ x1 then
      some (x1, M)
    else
      ab_chk (vp_in x1 12) <|
      mi_X10_findParts_2 n (ab_pi M 88 (x1).toNatClampNeg x1) (x1 + 1)

set_option maxHeartbeats 4000000 in
set_option maxRecDepth 100000 in
theorem lp_X10_findParts_2 {l : Launch} {D : va_G} {ac : Nat → ClassId} {n0 : Nat} {r : ab_Rs} : ∀ (n : Nat) (M : ab_M) (x1 : Int32) (q : Int32 × ab_M) (h : mi_X10_findParts_2 n M x1 = some q) (kk : ab_Ev l D ac 4 me_X10_findParts n0 0 0 r 0 0 ab_SH 23 [some (.ref 69), some (.int q.1), none, none] [] q.2), ab_Ev l D ac 4 me_X10_findParts n0 0 0 r 0 0 ab_SH 2 [some (.ref 69), some (.int x1), none, none] [] M := by
  intro n
  induction n with
  | zero =>
    intro M x1 q h kk
    cases h
  | succ n ih =>
    intro M x1 q h kk
    unfold mi_X10_findParts_2 at h
    refine ev_iload_n dX10_findParts_2 rfl ?_
    refine ev_aload_n dX10_findParts_3 rfl ?_
    refine ev_geti fl_RX10_105 sh_69 (by decide) (by decide) rfl dX10_findParts_4 ?_
    refine ev_icmp_ge (t := 23) dX10_findParts_7 (by decide) (fun hc1 => ?_) (fun hc1 => ?_)
    · replace h := ab_pos hc1 h
      cases h
      exact kk
    · replace h := ab_neg hc1 h
      refine ev_aload_n dX10_findParts_10 rfl ?_
      refine ev_getr (o' := 88) fl_RX10_74 sh_69 (by decide) (by decide) rfl rfl dX10_findParts_11 ?_
      refine ev_iload_n dX10_findParts_14 rfl ?_
      refine ev_iload_n dX10_findParts_15 rfl ?_
      obtain ⟨hb2, h⟩ := ab_chk_some h
      refine ev_iastore sh_88 hb2 dX10_findParts_16 ?_
      refine ev_iinc (y := x1 + 1) dX10_findParts_17 rfl (by first | rfl | decide) rfl rfl ?_
      refine ev_goto (t := 2) dX10_findParts_20 (by decide) ?_
      exact ih (ab_pi M 88 (x1).toNatClampNeg x1) (x1 + 1) _ h kk

noncomputable def mi_X10_findParts_45 : Nat → ab_M → Int32 → Int32 → Int32 → Option (Int32 × ab_M)
  | 0, _, _, _, _ => none
  | n + 1, M, x1, x2, x3 =>
    if (M.1 69 1) ≤ x3 then
      some (x3, M)
    else
      ((if x2 = x3 then
        some M
      else
        (mi_X10_areNear M x2 x3).bind fun q12 =>
        if q12 = 0 then
          some M
        else
          ab_chk (vp_in x2 12) <|
          ab_chk (vp_in x3 12) <|
          ((if (M.1 88 (x3).toNatClampNeg) ≤ (M.1 88 (x2).toNatClampNeg) then
            ab_chk (vp_in x3 12) <|
            some (M.1 88 (x3).toNatClampNeg)
          else
            ab_chk (vp_in x2 12) <|
            some (M.1 88 (x2).toNatClampNeg)) : Option (Int32)).bind fun q17 =>
          ab_chk (vp_in x3 12) <|
          some (ab_pi M 88 (x3).toNatClampNeg q17)) : Option (ab_M)).bind fun q8 =>
      mi_X10_findParts_45 n q8 x1 x2 (x3 + 1)

set_option maxHeartbeats 4000000 in
set_option maxRecDepth 100000 in
theorem lp_X10_findParts_45 {l : Launch} {D : va_G} {ac : Nat → ClassId} {n0 : Nat} {r : ab_Rs} : ∀ (n : Nat) (M : ab_M) (x1 : Int32) (x2 : Int32) (x3 : Int32) (q : Int32 × ab_M) (h : mi_X10_findParts_45 n M x1 x2 x3 = some q) (kk : ab_Ev l D ac 4 me_X10_findParts n0 0 0 r 0 0 ab_SH 109 [some (.ref 69), some (.int x1), some (.int x2), some (.int q.1)] [] q.2), ab_Ev l D ac 4 me_X10_findParts n0 0 0 r 0 0 ab_SH 45 [some (.ref 69), some (.int x1), some (.int x2), some (.int x3)] [] M := by
  intro n
  induction n with
  | zero =>
    intro M x1 x2 x3 q h kk
    cases h
  | succ n ih =>
    intro M x1 x2 x3 q h kk
    unfold mi_X10_findParts_45 at h
    refine ev_iload_n dX10_findParts_45 rfl ?_
    refine ev_aload_n dX10_findParts_46 rfl ?_
    refine ev_geti fl_RX10_105 sh_69 (by decide) (by decide) rfl dX10_findParts_47 ?_
    refine ev_icmp_ge (t := 109) dX10_findParts_50 (by decide) (fun hc7 => ?_) (fun hc7 => ?_)
    · replace h := ab_pos hc7 h
      cases h
      exact kk
    · replace h := ab_neg hc7 h
      refine ev_iload_n dX10_findParts_53 rfl ?_
      refine ev_iload_n dX10_findParts_54 rfl ?_
      obtain ⟨q8, hq9, h⟩ := ab_bind h
      have hJ10 : ab_Ev l D ac 4 me_X10_findParts n0 0 0 r 0 0 ab_SH 103 [some (.ref 69), some (.int x1), some (.int x2), some (.int x3)] [] q8 := by
        refine ev_iinc (y := x3 + 1) dX10_findParts_103 rfl (by first | rfl | decide) rfl rfl ?_
        refine ev_goto (t := 45) dX10_findParts_106 (by decide) ?_
        exact ih q8 x1 x2 (x3 + 1) _ h kk
      refine ev_icmp_eq (t := 103) dX10_findParts_55 (by decide) (fun hc11 => ?_) (fun hc11 => ?_)
      · replace hq9 := ab_pos hc11 hq9
        cases hq9
        exact hJ10
      · replace hq9 := ab_neg hc11 hq9
        refine ev_aload_n dX10_findParts_58 rfl ?_
        refine ev_iload_n dX10_findParts_59 rfl ?_
        refine ev_iload_n dX10_findParts_60 rfl ?_
        obtain ⟨q12, hv13, hq9⟩ := ab_bind hq9
        refine ev_callV (st := []) (co_X10_areNear M x2 x3 _ hv13) mv_X10_areNear sh_69 ml_RX10_251 dX10_findParts_61 (by decide) rfl (Nat.le_of_ble_eq_true rfl) ⟨Nat.le_refl _, Nat.le_refl _⟩ ?_
        refine ev_if_eq (t := 103) dX10_findParts_64 (by decide) (fun hc14 => ?_) (fun hc14 => ?_)
        · replace hq9 := ab_pos hc14 hq9
          cases hq9
          exact hJ10
        · replace hq9 := ab_neg hc14 hq9
          refine ev_aload_n dX10_findParts_67 rfl ?_
          refine ev_getr (o' := 88) fl_RX10_74 sh_69 (by decide) (by decide) rfl rfl dX10_findParts_68 ?_
          refine ev_iload_n dX10_findParts_71 rfl ?_
          refine ev_aload_n dX10_findParts_72 rfl ?_
          refine ev_getr (o' := 88) fl_RX10_74 sh_69 (by decide) (by decide) rfl rfl dX10_findParts_73 ?_
          refine ev_iload_n dX10_findParts_76 rfl ?_
          obtain ⟨hb15, hq9⟩ := ab_chk_some hq9
          refine ev_iaload sh_88 hb15 dX10_findParts_77 ?_
          refine ev_aload_n dX10_findParts_78 rfl ?_
          refine ev_getr (o' := 88) fl_RX10_74 sh_69 (by decide) (by decide) rfl rfl dX10_findParts_79 ?_
          refine ev_iload_n dX10_findParts_82 rfl ?_
          obtain ⟨hb16, hq9⟩ := ab_chk_some hq9
          refine ev_iaload sh_88 hb16 dX10_findParts_83 ?_
          obtain ⟨q17, hq18, hq9⟩ := ab_bind hq9
          have hJ19 : ab_Ev l D ac 4 me_X10_findParts n0 0 0 r 0 0 ab_SH 102 [some (.ref 69), some (.int x1), some (.int x2), some (.int x3)] [.int q17, .int x3, .ref 88] M := by
            obtain ⟨hb23, hq9⟩ := ab_chk_some hq9
            refine ev_iastore sh_88 hb23 dX10_findParts_102 ?_
            cases hq9
            exact hJ10
          refine ev_icmp_ge (t := 96) dX10_findParts_84 (by decide) (fun hc20 => ?_) (fun hc20 => ?_)
          · replace hq18 := ab_pos hc20 hq18
            refine ev_aload_n dX10_findParts_96 rfl ?_
            refine ev_getr (o' := 88) fl_RX10_74 sh_69 (by decide) (by decide) rfl rfl dX10_findParts_97 ?_
            refine ev_iload_n dX10_findParts_100 rfl ?_
            obtain ⟨hb21, hq18⟩ := ab_chk_some hq18
            refine ev_iaload sh_88 hb21 dX10_findParts_101 ?_
            cases hq18
            exact hJ19
          · replace hq18 := ab_neg hc20 hq18
            refine ev_aload_n dX10_findParts_87 rfl ?_
            refine ev_getr (o' := 88) fl_RX10_74 sh_69 (by decide) (by decide) rfl rfl dX10_findParts_88 ?_
            refine ev_iload_n dX10_findParts_91 rfl ?_
            obtain ⟨hb22, hq18⟩ := ab_chk_some hq18
            refine ev_iaload sh_88 hb22 dX10_findParts_92 ?_
            refine ev_goto (t := 102) dX10_findParts_93 (by decide) ?_
            cases hq18
            exact hJ19

noncomputable def mi_X10_findParts_35 : Nat → ab_M → Int32 → Int32 → Option (Int32 × ab_M)
  | 0, _, _, _ => none
  | n + 1, M, x1, x2 =>
    if (M.1 69 1) ≤ x2 then
      some (x2, M)
    else
      (mi_X10_findParts_45 ab_F M x1 x2 0).bind fun q24 =>
      mi_X10_findParts_35 n q24.2 x1 (x2 + 1)

set_option maxHeartbeats 4000000 in
set_option maxRecDepth 100000 in
theorem lp_X10_findParts_35 {l : Launch} {D : va_G} {ac : Nat → ClassId} {n0 : Nat} {r : ab_Rs} : ∀ (n : Nat) (M : ab_M) (x1 : Int32) (x2 : Int32) (q : Int32 × ab_M) (h : mi_X10_findParts_35 n M x1 x2 = some q) (kk : ab_Ev l D ac 4 me_X10_findParts n0 0 0 r 0 0 ab_SH 115 [some (.ref 69), some (.int x1), some (.int q.1), none] [] q.2), ab_Ev l D ac 4 me_X10_findParts n0 0 0 r 0 0 ab_SH 35 [some (.ref 69), some (.int x1), some (.int x2), none] [] M := by
  intro n
  induction n with
  | zero =>
    intro M x1 x2 q h kk
    cases h
  | succ n ih =>
    intro M x1 x2 q h kk
    unfold mi_X10_findParts_35 at h
    refine ev_iload_n dX10_findParts_35 rfl ?_
    refine ev_aload_n dX10_findParts_36 rfl ?_
    refine ev_geti fl_RX10_105 sh_69 (by decide) (by decide) rfl dX10_findParts_37 ?_
    refine ev_icmp_ge (t := 115) dX10_findParts_40 (by decide) (fun hc6 => ?_) (fun hc6 => ?_)
    · replace h := ab_pos hc6 h
      cases h
      exact kk
    · replace h := ab_neg hc6 h
      refine ev_iconst (x := 0) dX10_findParts_43 (by decide) ?_
      refine ev_istore_n dX10_findParts_44 (Nat.le_of_ble_eq_true rfl) rfl rfl ?_
      obtain ⟨q24, hq25, h⟩ := ab_bind h
      refine lp_X10_findParts_45 _ M x1 x2 0 _ hq25 ?_
      refine ev_iinc (y := x2 + 1) dX10_findParts_109 rfl (by first | rfl | decide) rfl rfl ?_
      refine ev_goto (t := 35) dX10_findParts_112 (by decide) ?_
      refine ev_drop (lv' := [some (.ref 69), some (.int x1), some (.int (x2 + 1)), none]) (ab_sub_k (ab_sub_k (ab_sub_k (ab_sub_d ab_sub_nil)))) ?_
      exact ih q24.2 x1 (x2 + 1) _ h kk

noncomputable def mi_X10_findParts_25 : Nat → ab_M → Int32 → Option (Int32 × ab_M)
  | 0, _, _ => none
  | n + 1, M, x1 =>
    if (M.1 69 1) ≤ x1 then
      some (x1, M)
    else
      (mi_X10_findParts_35 ab_F M x1 0).bind fun q26 =>
      mi_X10_findParts_25 n q26.2 (x1 + 1)

set_option maxHeartbeats 4000000 in
set_option maxRecDepth 100000 in
theorem lp_X10_findParts_25 {l : Launch} {D : va_G} {ac : Nat → ClassId} {n0 : Nat} {r : ab_Rs} : ∀ (n : Nat) (M : ab_M) (x1 : Int32) (q : Int32 × ab_M) (h : mi_X10_findParts_25 n M x1 = some q) (kk : ab_Ev l D ac 4 me_X10_findParts n0 0 0 r 0 0 ab_SH 121 [some (.ref 69), some (.int q.1), none, none] [] q.2), ab_Ev l D ac 4 me_X10_findParts n0 0 0 r 0 0 ab_SH 25 [some (.ref 69), some (.int x1), none, none] [] M := by
  intro n
  induction n with
  | zero =>
    intro M x1 q h kk
    cases h
  | succ n ih =>
    intro M x1 q h kk
    unfold mi_X10_findParts_25 at h
    refine ev_iload_n dX10_findParts_25 rfl ?_
    refine ev_aload_n dX10_findParts_26 rfl ?_
    refine ev_geti fl_RX10_105 sh_69 (by decide) (by decide) rfl dX10_findParts_27 ?_
    refine ev_icmp_ge (t := 121) dX10_findParts_30 (by decide) (fun hc5 => ?_) (fun hc5 => ?_)
    · replace h := ab_pos hc5 h
      cases h
      exact kk
    · replace h := ab_neg hc5 h
      refine ev_iconst (x := 0) dX10_findParts_33 (by decide) ?_
      refine ev_istore_n dX10_findParts_34 (Nat.le_of_ble_eq_true rfl) rfl rfl ?_
      obtain ⟨q26, hq27, h⟩ := ab_bind h
      refine lp_X10_findParts_35 _ M x1 0 _ hq27 ?_
      refine ev_iinc (y := x1 + 1) dX10_findParts_115 rfl (by first | rfl | decide) rfl rfl ?_
      refine ev_goto (t := 25) dX10_findParts_118 (by decide) ?_
      refine ev_drop (lv' := [some (.ref 69), some (.int (x1 + 1)), none, none]) (ab_sub_k (ab_sub_k (ab_sub_d (ab_sub_k ab_sub_nil)))) ?_
      exact ih q26.2 (x1 + 1) _ h kk

noncomputable def mi_X10_findParts_125 : Nat → ab_M → Int32 → Int32 → Option (Int32 × Int32 × ab_M)
  | 0, _, _, _ => none
  | n + 1, M, x1, x2 =>
    if (M.1 69 1) ≤ x2 then
      some (x1, x2, M)
    else
      ab_chk (vp_in x2 12) <|
      ((if (M.1 88 (x2).toNatClampNeg) = x2 then
        some x1
      else
        ab_chk (vp_in (M.1 88 (x2).toNatClampNeg) 12) <|
        some (M.1 88 (M.1 88 (x2).toNatClampNeg).toNatClampNeg)) : Option (Int32)).bind fun q32 =>
      ab_chk (vp_in x2 12) <|
      ((if (M.1 88 (x2).toNatClampNeg) = x2 then
        some 1
      else
        some 0) : Option (Int32)).bind fun q38 =>
      mi_X10_findParts_125 n (ab_pi M 88 (x2).toNatClampNeg q32) (x1 + q38) (x2 + 1)

set_option maxHeartbeats 4000000 in
set_option maxRecDepth 100000 in
theorem lp_X10_findParts_125 {l : Launch} {D : va_G} {ac : Nat → ClassId} {n0 : Nat} {r : ab_Rs} : ∀ (n : Nat) (M : ab_M) (x1 : Int32) (x2 : Int32) (q : Int32 × Int32 × ab_M) (h : mi_X10_findParts_125 n M x1 x2 = some q) (kk : ab_Ev l D ac 4 me_X10_findParts n0 0 0 r 0 0 ab_SH 180 [some (.ref 69), some (.int q.1), some (.int q.2.1), none] [] q.2.2), ab_Ev l D ac 4 me_X10_findParts n0 0 0 r 0 0 ab_SH 125 [some (.ref 69), some (.int x1), some (.int x2), none] [] M := by
  intro n
  induction n with
  | zero =>
    intro M x1 x2 q h kk
    cases h
  | succ n ih =>
    intro M x1 x2 q h kk
    unfold mi_X10_findParts_125 at h
    refine ev_iload_n dX10_findParts_125 rfl ?_
    refine ev_aload_n dX10_findParts_126 rfl ?_
    refine ev_geti fl_RX10_105 sh_69 (by decide) (by decide) rfl dX10_findParts_127 ?_
    refine ev_icmp_ge (t := 180) dX10_findParts_130 (by decide) (fun hc30 => ?_) (fun hc30 => ?_)
    · replace h := ab_pos hc30 h
      cases h
      exact kk
    · replace h := ab_neg hc30 h
      refine ev_aload_n dX10_findParts_133 rfl ?_
      refine ev_getr (o' := 88) fl_RX10_74 sh_69 (by decide) (by decide) rfl rfl dX10_findParts_134 ?_
      refine ev_iload_n dX10_findParts_137 rfl ?_
      obtain ⟨hb31, h⟩ := ab_chk_some h
      refine ev_iaload sh_88 hb31 dX10_findParts_138 ?_
      refine ev_istore_n dX10_findParts_139 (Nat.le_of_ble_eq_true rfl) rfl rfl ?_
      refine ev_aload_n dX10_findParts_140 rfl ?_
      refine ev_getr (o' := 88) fl_RX10_74 sh_69 (by decide) (by decide) rfl rfl dX10_findParts_141 ?_
      refine ev_iload_n dX10_findParts_144 rfl ?_
      refine ev_iload_n dX10_findParts_145 rfl ?_
      refine ev_iload_n dX10_findParts_146 rfl ?_
      obtain ⟨q32, hq33, h⟩ := ab_bind h
      have hJ34 : ab_Ev l D ac 4 me_X10_findParts n0 0 0 r 0 0 ab_SH 160 [some (.ref 69), some (.int x1), some (.int x2), some (.int (M.1 88 (x2).toNatClampNeg))] [.int q32, .int x2, .ref 88] M := by
        obtain ⟨hb37, h⟩ := ab_chk_some h
        refine ev_iastore sh_88 hb37 dX10_findParts_160 ?_
        refine ev_iload_n dX10_findParts_161 rfl ?_
        refine ev_iload_n dX10_findParts_162 rfl ?_
        refine ev_iload_n dX10_findParts_163 rfl ?_
        obtain ⟨q38, hq39, h⟩ := ab_bind h
        have hJ40 : ab_Ev l D ac 4 me_X10_findParts n0 0 0 r 0 0 ab_SH 172 [some (.ref 69), some (.int x1), some (.int x2), some (.int (M.1 88 (x2).toNatClampNeg))] [.int q38, .int x1] (ab_pi M 88 (x2).toNatClampNeg q32) := by
          refine ev_iadd dX10_findParts_172 ?_
          refine ev_istore_n dX10_findParts_173 (Nat.le_of_ble_eq_true rfl) rfl rfl ?_
          refine ev_iinc (y := x2 + 1) dX10_findParts_174 rfl (by first | rfl | decide) rfl rfl ?_
          refine ev_goto (t := 125) dX10_findParts_177 (by decide) ?_
          refine ev_drop (lv' := [some (.ref 69), some (.int (x1 + q38)), some (.int (x2 + 1)), none]) (ab_sub_k (ab_sub_k (ab_sub_k (ab_sub_d ab_sub_nil)))) ?_
          exact ih (ab_pi M 88 (x2).toNatClampNeg q32) (x1 + q38) (x2 + 1) _ h kk
        refine ev_icmp_ne (t := 171) dX10_findParts_164 (by decide) (fun hc41 => ?_) (fun hc41 => ?_)
        · replace hq39 := ab_neg hc41 hq39
          refine ev_iconst (x := 0) dX10_findParts_171 (by decide) ?_
          cases hq39
          exact hJ40
        · replace hq39 := ab_pos hc41 hq39
          refine ev_iconst (x := 1) dX10_findParts_167 (by decide) ?_
          refine ev_goto (t := 172) dX10_findParts_168 (by decide) ?_
          cases hq39
          exact hJ40
      refine ev_icmp_ne (t := 154) dX10_findParts_147 (by decide) (fun hc35 => ?_) (fun hc35 => ?_)
      · replace hq33 := ab_neg hc35 hq33
        refine ev_aload_n dX10_findParts_154 rfl ?_
        refine ev_getr (o' := 88) fl_RX10_74 sh_69 (by decide) (by decide) rfl rfl dX10_findParts_155 ?_
        refine ev_iload_n dX10_findParts_158 rfl ?_
        obtain ⟨hb36, hq33⟩ := ab_chk_some hq33
        refine ev_iaload sh_88 hb36 dX10_findParts_159 ?_
        cases hq33
        exact hJ34
      · replace hq33 := ab_pos hc35 hq33
        refine ev_iload_n dX10_findParts_150 rfl ?_
        refine ev_goto (t := 160) dX10_findParts_151 (by decide) ?_
        cases hq33
        exact hJ34

noncomputable def mi_X10_findParts (M : ab_M) : Option (Int32 × ab_M) :=
  (mi_X10_findParts_2 ab_F M 0).bind fun q3 =>
  (mi_X10_findParts_25 ab_F q3.2 0).bind fun q28 =>
  (mi_X10_findParts_125 ab_F q28.2 0 0).bind fun q42 =>
  some (q42.1, q42.2.2)

set_option maxHeartbeats 4000000 in
set_option maxRecDepth 100000 in
theorem co_X10_findParts {l : Launch} {D : va_G} {ac : Nat → ClassId} (M : ab_M) (z : Int32 × ab_M) (h : mi_X10_findParts M = some z) : ab_Con l D ac 4 me_X10_findParts 0 0 [.ref 69] ab_SH M (some (.int z.1), ab_SH, z.2) := by
  refine ab_intro (lv := [some (.ref 69), none, none, none]) (by decide) rfl (Nat.le_of_ble_eq_true rfl) rfl ?_
  unfold mi_X10_findParts at h
  refine ev_iconst (x := 0) dX10_findParts_0 (by decide) ?_
  refine ev_istore_n dX10_findParts_1 (Nat.le_of_ble_eq_true rfl) rfl rfl ?_
  obtain ⟨q3, hq4, h⟩ := ab_bind h
  refine lp_X10_findParts_2 _ M 0 _ hq4 ?_
  refine ev_iconst (x := 0) dX10_findParts_23 (by decide) ?_
  refine ev_istore_n dX10_findParts_24 (Nat.le_of_ble_eq_true rfl) rfl rfl ?_
  obtain ⟨q28, hq29, h⟩ := ab_bind h
  refine lp_X10_findParts_25 _ q3.2 0 _ hq29 ?_
  refine ev_iconst (x := 0) dX10_findParts_121 (by decide) ?_
  refine ev_istore_n dX10_findParts_122 (Nat.le_of_ble_eq_true rfl) rfl rfl ?_
  refine ev_iconst (x := 0) dX10_findParts_123 (by decide) ?_
  refine ev_istore_n dX10_findParts_124 (Nat.le_of_ble_eq_true rfl) rfl rfl ?_
  obtain ⟨q42, hq43, h⟩ := ab_bind h
  refine lp_X10_findParts_125 _ q28.2 0 0 _ hq43 ?_
  refine ev_iload_n dX10_findParts_180 rfl ?_
  cases h
  exact ev_ireturn rfl dX10_findParts_181

noncomputable def mi_X10_part (M : ab_M) (x1 : Int32) : Option (Int32 × ab_M) :=
  (mi_X10_isMast (ab_pi M 69 0 0) x1).bind fun q1 =>
  if q1 = 0 then
    some ((-1), (ab_pi M 69 0 0))
  else
    (mi_X10_findParts (ab_pi M 69 0 0)).bind fun q4 =>
    ab_chk (vp_in x1 12) <|
    some (q4.2.1 88 (x1).toNatClampNeg, q4.2)

set_option maxHeartbeats 4000000 in
set_option maxRecDepth 100000 in
theorem co_X10_part {l : Launch} {D : va_G} {ac : Nat → ClassId} (M : ab_M) (x1 : Int32) (z : Int32 × ab_M) (h : mi_X10_part M x1 = some z) : ab_Con l D ac 5 me_X10_part 0 0 [.ref 69, .int x1] ab_SH M (some (.int z.1), ab_SH, z.2) := by
  refine ab_intro (lv := [some (.ref 69), some (.int x1), none]) (by decide) rfl (Nat.le_of_ble_eq_true rfl) rfl ?_
  unfold mi_X10_part at h
  refine ev_aload_n dX10_part_0 rfl ?_
  refine ev_iconst (x := 0) dX10_part_1 (by decide) ?_
  refine ev_puti fl_RX10_102 sh_69 (by decide) (by decide) rfl rfl rfl dX10_part_2 ?_
  refine ev_aload_n dX10_part_5 rfl ?_
  refine ev_iload_n dX10_part_6 rfl ?_
  obtain ⟨q1, hv2, h⟩ := ab_bind h
  refine ev_callV (st := []) (co_X10_isMast (ab_pi M 69 0 0) x1 _ hv2) mv_X10_isMast sh_69 ml_RX10_132 dX10_part_7 (by decide) rfl (Nat.le_of_ble_eq_true rfl) ⟨Nat.le_refl _, Nat.le_refl _⟩ ?_
  refine ev_if_ne (t := 15) dX10_part_10 (by decide) (fun hc3 => ?_) (fun hc3 => ?_)
  · replace h := ab_neg hc3 h
    refine ev_aload_n dX10_part_15 rfl ?_
    obtain ⟨q4, hv5, h⟩ := ab_bind h
    refine ev_callV (st := []) (co_X10_findParts (ab_pi M 69 0 0) _ hv5) mv_X10_findParts sh_69 ml_RX10_254 dX10_part_16 (by decide) rfl (Nat.le_of_ble_eq_true rfl) ⟨Nat.le_refl _, Nat.le_refl _⟩ ?_
    refine ev_istore_n dX10_part_19 (Nat.le_of_ble_eq_true rfl) rfl rfl ?_
    refine ev_aload_n dX10_part_20 rfl ?_
    refine ev_getr (o' := 88) fl_RX10_74 sh_69 (by decide) (by decide) rfl rfl dX10_part_21 ?_
    refine ev_iload_n dX10_part_24 rfl ?_
    obtain ⟨hb6, h⟩ := ab_chk_some h
    refine ev_iaload sh_88 hb6 dX10_part_25 ?_
    cases h
    exact ev_ireturn rfl dX10_part_26
  · replace h := ab_pos hc3 h
    refine ev_iconst (x := (-1)) dX10_part_13 (by decide) ?_
    cases h
    exact ev_ireturn rfl dX10_part_14

noncomputable def mi_X10_withChannel_4 : Nat → ab_M → Int32 → Int32 → Option (Int32 × Int32)
  | 0, _, _, _ => none
  | n + 1, M, x1, x2 =>
    if (M.1 69 10) ≤ x2 then
      some (x1, x2)
    else
      ab_chk (vp_in x2 16) <|
      ((if (M.1 80 (x2).toNatClampNeg) < 0 then
        some 0
      else
        some 1) : Option (Int32)).bind fun q3 =>
      mi_X10_withChannel_4 n M (x1 + q3) (x2 + 1)

set_option maxHeartbeats 4000000 in
set_option maxRecDepth 100000 in
theorem lp_X10_withChannel_4 {l : Launch} {D : va_G} {ac : Nat → ClassId} {n0 : Nat} {r : ab_Rs} : ∀ (n : Nat) (M : ab_M) (x1 : Int32) (x2 : Int32) (q : Int32 × Int32) (h : mi_X10_withChannel_4 n M x1 x2 = some q) (kk : ab_Ev l D ac 1 me_X10_withChannel n0 0 0 r 0 0 ab_SH 35 [some (.ref 69), some (.int q.1), some (.int q.2)] [] M), ab_Ev l D ac 1 me_X10_withChannel n0 0 0 r 0 0 ab_SH 4 [some (.ref 69), some (.int x1), some (.int x2)] [] M := by
  intro n
  induction n with
  | zero =>
    intro M x1 x2 q h kk
    cases h
  | succ n ih =>
    intro M x1 x2 q h kk
    unfold mi_X10_withChannel_4 at h
    refine ev_iload_n dX10_withChannel_4 rfl ?_
    refine ev_aload_n dX10_withChannel_5 rfl ?_
    refine ev_geti fl_RX10_108 sh_69 (by decide) (by decide) rfl dX10_withChannel_6 ?_
    refine ev_icmp_ge (t := 35) dX10_withChannel_9 (by decide) (fun hc1 => ?_) (fun hc1 => ?_)
    · replace h := ab_pos hc1 h
      cases h
      exact kk
    · replace h := ab_neg hc1 h
      refine ev_iload_n dX10_withChannel_12 rfl ?_
      refine ev_aload_n dX10_withChannel_13 rfl ?_
      refine ev_getr (o' := 80) fl_RX10_40 sh_69 (by decide) (by decide) rfl rfl dX10_withChannel_14 ?_
      refine ev_iload_n dX10_withChannel_17 rfl ?_
      obtain ⟨hb2, h⟩ := ab_chk_some h
      refine ev_iaload sh_80 hb2 dX10_withChannel_18 ?_
      obtain ⟨q3, hq4, h⟩ := ab_bind h
      have hJ5 : ab_Ev l D ac 1 me_X10_withChannel n0 0 0 r 0 0 ab_SH 27 [some (.ref 69), some (.int x1), some (.int x2)] [.int q3, .int x1] M := by
        refine ev_iadd dX10_withChannel_27 ?_
        refine ev_istore_n dX10_withChannel_28 (Nat.le_of_ble_eq_true rfl) rfl rfl ?_
        refine ev_iinc (y := x2 + 1) dX10_withChannel_29 rfl (by first | rfl | decide) rfl rfl ?_
        refine ev_goto (t := 4) dX10_withChannel_32 (by decide) ?_
        exact ih M (x1 + q3) (x2 + 1) _ h kk
      refine ev_if_lt (t := 26) dX10_withChannel_19 (by decide) (fun hc6 => ?_) (fun hc6 => ?_)
      · replace hq4 := ab_pos hc6 hq4
        refine ev_iconst (x := 0) dX10_withChannel_26 (by decide) ?_
        cases hq4
        exact hJ5
      · replace hq4 := ab_neg hc6 hq4
        refine ev_iconst (x := 1) dX10_withChannel_22 (by decide) ?_
        refine ev_goto (t := 27) dX10_withChannel_23 (by decide) ?_
        cases hq4
        exact hJ5

noncomputable def mi_X10_withChannel (M : ab_M) : Option (Int32) :=
  (mi_X10_withChannel_4 ab_F M 0 0).bind fun q7 =>
  some q7.1

set_option maxHeartbeats 4000000 in
set_option maxRecDepth 100000 in
theorem co_X10_withChannel {l : Launch} {D : va_G} {ac : Nat → ClassId} (M : ab_M) (z : Int32) (h : mi_X10_withChannel M = some z) : ab_Con l D ac 1 me_X10_withChannel 0 0 [.ref 69] ab_SH M (some (.int z), ab_SH, M) := by
  refine ab_intro (lv := [some (.ref 69), none, none]) (by decide) rfl (Nat.le_of_ble_eq_true rfl) rfl ?_
  unfold mi_X10_withChannel at h
  refine ev_iconst (x := 0) dX10_withChannel_0 (by decide) ?_
  refine ev_istore_n dX10_withChannel_1 (Nat.le_of_ble_eq_true rfl) rfl rfl ?_
  refine ev_iconst (x := 0) dX10_withChannel_2 (by decide) ?_
  refine ev_istore_n dX10_withChannel_3 (Nat.le_of_ble_eq_true rfl) rfl rfl ?_
  obtain ⟨q7, hq8, h⟩ := ab_bind h
  refine lp_X10_withChannel_4 _ M 0 0 _ hq8 ?_
  refine ev_iload_n dX10_withChannel_35 rfl ?_
  cases h
  exact ev_ireturn rfl dX10_withChannel_36

noncomputable def mi_X10_image_15 : Nat → ab_M → Int32 → Option (Int32 × ab_M)
  | 0, _, _ => none
  | n + 1, M, x1 =>
    if (M.1 69 10) ≤ x1 then
      some (x1, M)
    else
      ab_chk (vp_in x1 16) <|
      ab_chk (vp_in x1 16) <|
      mi_X10_image_15 n (ab_pi M 89 (x1).toNatClampNeg (M.1 80 (x1).toNatClampNeg)) (x1 + 1)

set_option maxHeartbeats 4000000 in
set_option maxRecDepth 100000 in
theorem lp_X10_image_15 {l : Launch} {D : va_G} {ac : Nat → ClassId} {n0 : Nat} {r : ab_Rs} : ∀ (n : Nat) (M : ab_M) (x1 : Int32) (q : Int32 × ab_M) (h : mi_X10_image_15 n M x1 = some q) (kk : ab_Ev l D ac 2 me_X10_image n0 0 0 r 0 0 ab_SH 41 [some (.ref 69), some (.int q.1)] [] q.2), ab_Ev l D ac 2 me_X10_image n0 0 0 r 0 0 ab_SH 15 [some (.ref 69), some (.int x1)] [] M := by
  intro n
  induction n with
  | zero =>
    intro M x1 q h kk
    cases h
  | succ n ih =>
    intro M x1 q h kk
    unfold mi_X10_image_15 at h
    refine ev_iload_n dX10_image_15 rfl ?_
    refine ev_aload_n dX10_image_16 rfl ?_
    refine ev_geti fl_RX10_108 sh_69 (by decide) (by decide) rfl dX10_image_17 ?_
    refine ev_icmp_ge (t := 41) dX10_image_20 (by decide) (fun hc1 => ?_) (fun hc1 => ?_)
    · replace h := ab_pos hc1 h
      cases h
      exact kk
    · replace h := ab_neg hc1 h
      refine ev_aload_n dX10_image_23 rfl ?_
      refine ev_getr (o' := 89) fl_RX10_80 sh_69 (by decide) (by decide) rfl rfl dX10_image_24 ?_
      refine ev_iload_n dX10_image_27 rfl ?_
      refine ev_aload_n dX10_image_28 rfl ?_
      refine ev_getr (o' := 80) fl_RX10_40 sh_69 (by decide) (by decide) rfl rfl dX10_image_29 ?_
      refine ev_iload_n dX10_image_32 rfl ?_
      obtain ⟨hb2, h⟩ := ab_chk_some h
      refine ev_iaload sh_80 hb2 dX10_image_33 ?_
      obtain ⟨hb3, h⟩ := ab_chk_some h
      refine ev_iastore sh_89 hb3 dX10_image_34 ?_
      refine ev_iinc (y := x1 + 1) dX10_image_35 rfl (by first | rfl | decide) rfl rfl ?_
      refine ev_goto (t := 15) dX10_image_38 (by decide) ?_
      exact ih (ab_pi M 89 (x1).toNatClampNeg (M.1 80 (x1).toNatClampNeg)) (x1 + 1) _ h kk

noncomputable def mi_X10_image (M : ab_M) : Option (Int32 × ab_M) :=
  (mi_X10_image_15 ab_F (ab_pi (ab_pi M 69 0 0) 69 31 ((ab_pi M 69 0 0).1 69 10)) 0).bind fun q4 =>
  (mi_X10_withChannel q4.2).bind fun q6 =>
  some (q6, q4.2)

set_option maxHeartbeats 4000000 in
set_option maxRecDepth 100000 in
theorem co_X10_image {l : Launch} {D : va_G} {ac : Nat → ClassId} (M : ab_M) (z : Int32 × ab_M) (h : mi_X10_image M = some z) : ab_Con l D ac 2 me_X10_image 0 0 [.ref 69] ab_SH M (some (.int z.1), ab_SH, z.2) := by
  refine ab_intro (lv := [some (.ref 69), none]) (by decide) rfl (Nat.le_of_ble_eq_true rfl) rfl ?_
  unfold mi_X10_image at h
  refine ev_aload_n dX10_image_0 rfl ?_
  refine ev_iconst (x := 0) dX10_image_1 (by decide) ?_
  refine ev_puti fl_RX10_102 sh_69 (by decide) (by decide) rfl rfl rfl dX10_image_2 ?_
  refine ev_aload_n dX10_image_5 rfl ?_
  refine ev_aload_n dX10_image_6 rfl ?_
  refine ev_geti fl_RX10_108 sh_69 (by decide) (by decide) rfl dX10_image_7 ?_
  refine ev_puti fl_RX10_77 sh_69 (by decide) (by decide) rfl rfl rfl dX10_image_10 ?_
  refine ev_iconst (x := 0) dX10_image_13 (by decide) ?_
  refine ev_istore_n dX10_image_14 (Nat.le_of_ble_eq_true rfl) rfl rfl ?_
  obtain ⟨q4, hq5, h⟩ := ab_bind h
  refine lp_X10_image_15 _ (ab_pi (ab_pi M 69 0 0) 69 31 ((ab_pi M 69 0 0).1 69 10)) 0 _ hq5 ?_
  refine ev_aload_n dX10_image_41 rfl ?_
  obtain ⟨q6, hv7, h⟩ := ab_bind h
  refine ev_callV (st := []) (co_X10_withChannel q4.2 _ hv7) mv_X10_withChannel sh_69 ml_RX10_257 dX10_image_42 (by decide) rfl (Nat.le_of_ble_eq_true rfl) ⟨Nat.le_refl _, Nat.le_refl _⟩ ?_
  cases h
  exact ev_ireturn rfl dX10_image_45

noncomputable def mi_X10_restore_19 : Nat → ab_M → Int32 → Int32 → Option (Int32 × Int32 × ab_M)
  | 0, _, _, _ => none
  | n + 1, M, x1, x2 =>
    if (M.1 69 31) ≤ x2 then
      some (x1, x2, M)
    else
      ab_chk (vp_in x2 16) <|
      ab_chk (vp_in x2 16) <|
      ((if (M.1 80 (x2).toNatClampNeg) = (M.1 89 (x2).toNatClampNeg) then
        some 0
      else
        some 1) : Option (Int32)).bind fun q5 =>
      ab_chk (vp_in x2 16) <|
      ab_chk (vp_in x2 16) <|
      mi_X10_restore_19 n (ab_pi M 80 (x2).toNatClampNeg (M.1 89 (x2).toNatClampNeg)) (x1 + q5) (x2 + 1)

set_option maxHeartbeats 4000000 in
set_option maxRecDepth 100000 in
theorem lp_X10_restore_19 {l : Launch} {D : va_G} {ac : Nat → ClassId} {n0 : Nat} {r : ab_Rs} : ∀ (n : Nat) (M : ab_M) (x1 : Int32) (x2 : Int32) (q : Int32 × Int32 × ab_M) (h : mi_X10_restore_19 n M x1 x2 = some q) (kk : ab_Ev l D ac 1 me_X10_restore n0 0 0 r 0 0 ab_SH 68 [some (.ref 69), some (.int q.1), some (.int q.2.1)] [] q.2.2), ab_Ev l D ac 1 me_X10_restore n0 0 0 r 0 0 ab_SH 19 [some (.ref 69), some (.int x1), some (.int x2)] [] M := by
  intro n
  induction n with
  | zero =>
    intro M x1 x2 q h kk
    cases h
  | succ n ih =>
    intro M x1 x2 q h kk
    unfold mi_X10_restore_19 at h
    refine ev_iload_n dX10_restore_19 rfl ?_
    refine ev_aload_n dX10_restore_20 rfl ?_
    refine ev_geti fl_RX10_77 sh_69 (by decide) (by decide) rfl dX10_restore_21 ?_
    refine ev_icmp_ge (t := 68) dX10_restore_24 (by decide) (fun hc2 => ?_) (fun hc2 => ?_)
    · replace h := ab_pos hc2 h
      cases h
      exact kk
    · replace h := ab_neg hc2 h
      refine ev_iload_n dX10_restore_27 rfl ?_
      refine ev_aload_n dX10_restore_28 rfl ?_
      refine ev_getr (o' := 80) fl_RX10_40 sh_69 (by decide) (by decide) rfl rfl dX10_restore_29 ?_
      refine ev_iload_n dX10_restore_32 rfl ?_
      obtain ⟨hb3, h⟩ := ab_chk_some h
      refine ev_iaload sh_80 hb3 dX10_restore_33 ?_
      refine ev_aload_n dX10_restore_34 rfl ?_
      refine ev_getr (o' := 89) fl_RX10_80 sh_69 (by decide) (by decide) rfl rfl dX10_restore_35 ?_
      refine ev_iload_n dX10_restore_38 rfl ?_
      obtain ⟨hb4, h⟩ := ab_chk_some h
      refine ev_iaload sh_89 hb4 dX10_restore_39 ?_
      obtain ⟨q5, hq6, h⟩ := ab_bind h
      have hJ7 : ab_Ev l D ac 1 me_X10_restore n0 0 0 r 0 0 ab_SH 48 [some (.ref 69), some (.int x1), some (.int x2)] [.int q5, .int x1] M := by
        refine ev_iadd dX10_restore_48 ?_
        refine ev_istore_n dX10_restore_49 (Nat.le_of_ble_eq_true rfl) rfl rfl ?_
        refine ev_aload_n dX10_restore_50 rfl ?_
        refine ev_getr (o' := 80) fl_RX10_40 sh_69 (by decide) (by decide) rfl rfl dX10_restore_51 ?_
        refine ev_iload_n dX10_restore_54 rfl ?_
        refine ev_aload_n dX10_restore_55 rfl ?_
        refine ev_getr (o' := 89) fl_RX10_80 sh_69 (by decide) (by decide) rfl rfl dX10_restore_56 ?_
        refine ev_iload_n dX10_restore_59 rfl ?_
        obtain ⟨hb9, h⟩ := ab_chk_some h
        refine ev_iaload sh_89 hb9 dX10_restore_60 ?_
        obtain ⟨hb10, h⟩ := ab_chk_some h
        refine ev_iastore sh_80 hb10 dX10_restore_61 ?_
        refine ev_iinc (y := x2 + 1) dX10_restore_62 rfl (by first | rfl | decide) rfl rfl ?_
        refine ev_goto (t := 19) dX10_restore_65 (by decide) ?_
        exact ih (ab_pi M 80 (x2).toNatClampNeg (M.1 89 (x2).toNatClampNeg)) (x1 + q5) (x2 + 1) _ h kk
      refine ev_icmp_eq (t := 47) dX10_restore_40 (by decide) (fun hc8 => ?_) (fun hc8 => ?_)
      · replace hq6 := ab_pos hc8 hq6
        refine ev_iconst (x := 0) dX10_restore_47 (by decide) ?_
        cases hq6
        exact hJ7
      · replace hq6 := ab_neg hc8 hq6
        refine ev_iconst (x := 1) dX10_restore_43 (by decide) ?_
        refine ev_goto (t := 48) dX10_restore_44 (by decide) ?_
        cases hq6
        exact hJ7

noncomputable def mi_X10_restore (M : ab_M) : Option (Int32 × ab_M) :=
  if 0 ≤ ((ab_pi M 69 0 0).1 69 31) then
    (mi_X10_restore_19 ab_F (ab_pi M 69 0 0) 0 0).bind fun q11 =>
    some (q11.1, q11.2.2)
  else
    some ((-2), (ab_pi M 69 0 0))

set_option maxHeartbeats 4000000 in
set_option maxRecDepth 100000 in
theorem co_X10_restore {l : Launch} {D : va_G} {ac : Nat → ClassId} (M : ab_M) (z : Int32 × ab_M) (h : mi_X10_restore M = some z) : ab_Con l D ac 1 me_X10_restore 0 0 [.ref 69] ab_SH M (some (.int z.1), ab_SH, z.2) := by
  refine ab_intro (lv := [some (.ref 69), none, none]) (by decide) rfl (Nat.le_of_ble_eq_true rfl) rfl ?_
  unfold mi_X10_restore at h
  refine ev_aload_n dX10_restore_0 rfl ?_
  refine ev_iconst (x := 0) dX10_restore_1 (by decide) ?_
  refine ev_puti fl_RX10_102 sh_69 (by decide) (by decide) rfl rfl rfl dX10_restore_2 ?_
  refine ev_aload_n dX10_restore_5 rfl ?_
  refine ev_geti fl_RX10_77 sh_69 (by decide) (by decide) rfl dX10_restore_6 ?_
  refine ev_if_ge (t := 15) dX10_restore_9 (by decide) (fun hc1 => ?_) (fun hc1 => ?_)
  · replace h := ab_pos hc1 h
    refine ev_iconst (x := 0) dX10_restore_15 (by decide) ?_
    refine ev_istore_n dX10_restore_16 (Nat.le_of_ble_eq_true rfl) rfl rfl ?_
    refine ev_iconst (x := 0) dX10_restore_17 (by decide) ?_
    refine ev_istore_n dX10_restore_18 (Nat.le_of_ble_eq_true rfl) rfl rfl ?_
    obtain ⟨q11, hq12, h⟩ := ab_bind h
    refine lp_X10_restore_19 _ (ab_pi M 69 0 0) 0 0 _ hq12 ?_
    refine ev_iload_n dX10_restore_68 rfl ?_
    cases h
    exact ev_ireturn rfl dX10_restore_69
  · replace h := ab_neg hc1 h
    refine ev_bipush (x := (-2)) dX10_restore_12 (by decide) ?_
    cases h
    exact ev_ireturn rfl dX10_restore_14

noncomputable def mi_X10_bars_16 : Nat → ab_M → Int32 → Int32 → Int32 → Option (Int32 × Int32)
  | 0, _, _, _, _ => none
  | n + 1, M, x1, x2, x3 =>
    if (M.1 69 1) ≤ x3 then
      some (x1, x3)
    else
      (mi_X10_barOf M x2 x3).bind fun q3 =>
      ((if q3 ≤ 0 then
        some 0
      else
        some 1) : Option (Int32)).bind fun q5 =>
      mi_X10_bars_16 n M (x1 + q5) x2 (x3 + 1)

set_option maxHeartbeats 4000000 in
set_option maxRecDepth 100000 in
theorem lp_X10_bars_16 {l : Launch} {D : va_G} {ac : Nat → ClassId} {n0 : Nat} {r : ab_Rs} : ∀ (n : Nat) (M : ab_M) (x1 : Int32) (x2 : Int32) (x3 : Int32) (q : Int32 × Int32) (h : mi_X10_bars_16 n M x1 x2 x3 = some q) (kk : ab_Ev l D ac 3 me_X10_bars n0 0 0 r 0 0 ab_SH 47 [some (.ref 69), some (.int q.1), some (.int x2), some (.int q.2)] [] M), ab_Ev l D ac 3 me_X10_bars n0 0 0 r 0 0 ab_SH 16 [some (.ref 69), some (.int x1), some (.int x2), some (.int x3)] [] M := by
  intro n
  induction n with
  | zero =>
    intro M x1 x2 x3 q h kk
    cases h
  | succ n ih =>
    intro M x1 x2 x3 q h kk
    unfold mi_X10_bars_16 at h
    refine ev_iload_n dX10_bars_16 rfl ?_
    refine ev_aload_n dX10_bars_17 rfl ?_
    refine ev_geti fl_RX10_105 sh_69 (by decide) (by decide) rfl dX10_bars_18 ?_
    refine ev_icmp_ge (t := 47) dX10_bars_21 (by decide) (fun hc2 => ?_) (fun hc2 => ?_)
    · replace h := ab_pos hc2 h
      cases h
      exact kk
    · replace h := ab_neg hc2 h
      refine ev_iload_n dX10_bars_24 rfl ?_
      refine ev_aload_n dX10_bars_25 rfl ?_
      refine ev_iload_n dX10_bars_26 rfl ?_
      refine ev_iload_n dX10_bars_27 rfl ?_
      obtain ⟨q3, hv4, h⟩ := ab_bind h
      refine ev_callV (st := [.int x1]) (co_X10_barOf M x2 x3 _ hv4) mv_X10_barOf sh_69 ml_RX10_135 dX10_bars_28 (by decide) rfl (Nat.le_of_ble_eq_true rfl) ⟨Nat.le_refl _, Nat.le_refl _⟩ ?_
      obtain ⟨q5, hq6, h⟩ := ab_bind h
      have hJ7 : ab_Ev l D ac 3 me_X10_bars n0 0 0 r 0 0 ab_SH 39 [some (.ref 69), some (.int x1), some (.int x2), some (.int x3)] [.int q5, .int x1] M := by
        refine ev_iadd dX10_bars_39 ?_
        refine ev_istore_n dX10_bars_40 (Nat.le_of_ble_eq_true rfl) rfl rfl ?_
        refine ev_iinc (y := x3 + 1) dX10_bars_41 rfl (by first | rfl | decide) rfl rfl ?_
        refine ev_goto (t := 16) dX10_bars_44 (by decide) ?_
        exact ih M (x1 + q5) x2 (x3 + 1) _ h kk
      refine ev_if_le (t := 38) dX10_bars_31 (by decide) (fun hc8 => ?_) (fun hc8 => ?_)
      · replace hq6 := ab_pos hc8 hq6
        refine ev_iconst (x := 0) dX10_bars_38 (by decide) ?_
        cases hq6
        exact hJ7
      · replace hq6 := ab_neg hc8 hq6
        refine ev_iconst (x := 1) dX10_bars_34 (by decide) ?_
        refine ev_goto (t := 39) dX10_bars_35 (by decide) ?_
        cases hq6
        exact hJ7

noncomputable def mi_X10_bars_4 : Nat → ab_M → Int32 → Int32 → Option (Int32 × Int32)
  | 0, _, _, _ => none
  | n + 1, M, x1, x2 =>
    if (M.1 69 1) ≤ x2 then
      some (x1, x2)
    else
      (mi_X10_bars_16 ab_F M x1 x2 (x2 + 1)).bind fun q9 =>
      mi_X10_bars_4 n M q9.1 (x2 + 1)

set_option maxHeartbeats 4000000 in
set_option maxRecDepth 100000 in
theorem lp_X10_bars_4 {l : Launch} {D : va_G} {ac : Nat → ClassId} {n0 : Nat} {r : ab_Rs} : ∀ (n : Nat) (M : ab_M) (x1 : Int32) (x2 : Int32) (q : Int32 × Int32) (h : mi_X10_bars_4 n M x1 x2 = some q) (kk : ab_Ev l D ac 3 me_X10_bars n0 0 0 r 0 0 ab_SH 53 [some (.ref 69), some (.int q.1), some (.int q.2), none] [] M), ab_Ev l D ac 3 me_X10_bars n0 0 0 r 0 0 ab_SH 4 [some (.ref 69), some (.int x1), some (.int x2), none] [] M := by
  intro n
  induction n with
  | zero =>
    intro M x1 x2 q h kk
    cases h
  | succ n ih =>
    intro M x1 x2 q h kk
    unfold mi_X10_bars_4 at h
    refine ev_iload_n dX10_bars_4 rfl ?_
    refine ev_aload_n dX10_bars_5 rfl ?_
    refine ev_geti fl_RX10_105 sh_69 (by decide) (by decide) rfl dX10_bars_6 ?_
    refine ev_icmp_ge (t := 53) dX10_bars_9 (by decide) (fun hc1 => ?_) (fun hc1 => ?_)
    · replace h := ab_pos hc1 h
      cases h
      exact kk
    · replace h := ab_neg hc1 h
      refine ev_iload_n dX10_bars_12 rfl ?_
      refine ev_iconst (x := 1) dX10_bars_13 (by decide) ?_
      refine ev_iadd dX10_bars_14 ?_
      refine ev_istore_n dX10_bars_15 (Nat.le_of_ble_eq_true rfl) rfl rfl ?_
      obtain ⟨q9, hq10, h⟩ := ab_bind h
      refine lp_X10_bars_16 _ M x1 x2 (x2 + 1) _ hq10 ?_
      refine ev_iinc (y := x2 + 1) dX10_bars_47 rfl (by first | rfl | decide) rfl rfl ?_
      refine ev_goto (t := 4) dX10_bars_50 (by decide) ?_
      refine ev_drop (lv' := [some (.ref 69), some (.int q9.1), some (.int (x2 + 1)), none]) (ab_sub_k (ab_sub_k (ab_sub_k (ab_sub_d ab_sub_nil)))) ?_
      exact ih M q9.1 (x2 + 1) _ h kk

noncomputable def mi_X10_bars (M : ab_M) : Option (Int32) :=
  (mi_X10_bars_4 ab_F M 0 0).bind fun q11 =>
  some q11.1

set_option maxHeartbeats 4000000 in
set_option maxRecDepth 100000 in
theorem co_X10_bars {l : Launch} {D : va_G} {ac : Nat → ClassId} (M : ab_M) (z : Int32) (h : mi_X10_bars M = some z) : ab_Con l D ac 3 me_X10_bars 0 0 [.ref 69] ab_SH M (some (.int z), ab_SH, M) := by
  refine ab_intro (lv := [some (.ref 69), none, none, none]) (by decide) rfl (Nat.le_of_ble_eq_true rfl) rfl ?_
  unfold mi_X10_bars at h
  refine ev_iconst (x := 0) dX10_bars_0 (by decide) ?_
  refine ev_istore_n dX10_bars_1 (Nat.le_of_ble_eq_true rfl) rfl rfl ?_
  refine ev_iconst (x := 0) dX10_bars_2 (by decide) ?_
  refine ev_istore_n dX10_bars_3 (Nat.le_of_ble_eq_true rfl) rfl rfl ?_
  obtain ⟨q11, hq12, h⟩ := ab_bind h
  refine lp_X10_bars_4 _ M 0 0 _ hq12 ?_
  refine ev_iload_n dX10_bars_53 rfl ?_
  cases h
  exact ev_ireturn rfl dX10_bars_54

noncomputable def mi_X10_threes_29 : Nat → ab_M → Int32 → Int32 → Int32 → Int32 → Option (Int32 × Int32)
  | 0, _, _, _, _, _ => none
  | n + 1, M, x1, x2, x3, x4 =>
    if (M.1 69 1) ≤ x4 then
      some (x1, x4)
    else
      (mi_X10_areIn M x2 x3 x4).bind fun q4 =>
      ((if q4 = 0 then
        some 0
      else
        some 1) : Option (Int32)).bind fun q6 =>
      mi_X10_threes_29 n M (x1 + q6) x2 x3 (x4 + 1)

set_option maxHeartbeats 4000000 in
set_option maxRecDepth 100000 in
theorem lp_X10_threes_29 {l : Launch} {D : va_G} {ac : Nat → ClassId} {n0 : Nat} {r : ab_Rs} : ∀ (n : Nat) (M : ab_M) (x1 : Int32) (x2 : Int32) (x3 : Int32) (x4 : Int32) (q : Int32 × Int32) (h : mi_X10_threes_29 n M x1 x2 x3 x4 = some q) (kk : ab_Ev l D ac 3 me_X10_threes n0 0 0 r 0 0 ab_SH 63 [some (.ref 69), some (.int q.1), some (.int x2), some (.int x3), some (.int q.2)] [] M), ab_Ev l D ac 3 me_X10_threes n0 0 0 r 0 0 ab_SH 29 [some (.ref 69), some (.int x1), some (.int x2), some (.int x3), some (.int x4)] [] M := by
  intro n
  induction n with
  | zero =>
    intro M x1 x2 x3 x4 q h kk
    cases h
  | succ n ih =>
    intro M x1 x2 x3 x4 q h kk
    unfold mi_X10_threes_29 at h
    refine ev_iload dX10_threes_29 rfl ?_
    refine ev_aload_n dX10_threes_31 rfl ?_
    refine ev_geti fl_RX10_105 sh_69 (by decide) (by decide) rfl dX10_threes_32 ?_
    refine ev_icmp_ge (t := 63) dX10_threes_35 (by decide) (fun hc3 => ?_) (fun hc3 => ?_)
    · replace h := ab_pos hc3 h
      cases h
      exact kk
    · replace h := ab_neg hc3 h
      refine ev_iload_n dX10_threes_38 rfl ?_
      refine ev_aload_n dX10_threes_39 rfl ?_
      refine ev_iload_n dX10_threes_40 rfl ?_
      refine ev_iload_n dX10_threes_41 rfl ?_
      refine ev_iload dX10_threes_42 rfl ?_
      obtain ⟨q4, hv5, h⟩ := ab_bind h
      refine ev_callV (st := [.int x1]) (co_X10_areIn M x2 x3 x4 _ hv5) mv_X10_areIn sh_69 ml_RX10_188 dX10_threes_44 (by decide) rfl (Nat.le_of_ble_eq_true rfl) ⟨Nat.le_refl _, Nat.le_refl _⟩ ?_
      obtain ⟨q6, hq7, h⟩ := ab_bind h
      have hJ8 : ab_Ev l D ac 3 me_X10_threes n0 0 0 r 0 0 ab_SH 55 [some (.ref 69), some (.int x1), some (.int x2), some (.int x3), some (.int x4)] [.int q6, .int x1] M := by
        refine ev_iadd dX10_threes_55 ?_
        refine ev_istore_n dX10_threes_56 (Nat.le_of_ble_eq_true rfl) rfl rfl ?_
        refine ev_iinc (y := x4 + 1) dX10_threes_57 rfl (by first | rfl | decide) rfl rfl ?_
        refine ev_goto (t := 29) dX10_threes_60 (by decide) ?_
        exact ih M (x1 + q6) x2 x3 (x4 + 1) _ h kk
      refine ev_if_eq (t := 54) dX10_threes_47 (by decide) (fun hc9 => ?_) (fun hc9 => ?_)
      · replace hq7 := ab_pos hc9 hq7
        refine ev_iconst (x := 0) dX10_threes_54 (by decide) ?_
        cases hq7
        exact hJ8
      · replace hq7 := ab_neg hc9 hq7
        refine ev_iconst (x := 1) dX10_threes_50 (by decide) ?_
        refine ev_goto (t := 55) dX10_threes_51 (by decide) ?_
        cases hq7
        exact hJ8

noncomputable def mi_X10_threes_16 : Nat → ab_M → Int32 → Int32 → Int32 → Option (Int32 × Int32)
  | 0, _, _, _, _ => none
  | n + 1, M, x1, x2, x3 =>
    if (M.1 69 1) ≤ x3 then
      some (x1, x3)
    else
      (mi_X10_threes_29 ab_F M x1 x2 x3 (x3 + 1)).bind fun q10 =>
      mi_X10_threes_16 n M q10.1 x2 (x3 + 1)

set_option maxHeartbeats 4000000 in
set_option maxRecDepth 100000 in
theorem lp_X10_threes_16 {l : Launch} {D : va_G} {ac : Nat → ClassId} {n0 : Nat} {r : ab_Rs} : ∀ (n : Nat) (M : ab_M) (x1 : Int32) (x2 : Int32) (x3 : Int32) (q : Int32 × Int32) (h : mi_X10_threes_16 n M x1 x2 x3 = some q) (kk : ab_Ev l D ac 3 me_X10_threes n0 0 0 r 0 0 ab_SH 69 [some (.ref 69), some (.int q.1), some (.int x2), some (.int q.2), none] [] M), ab_Ev l D ac 3 me_X10_threes n0 0 0 r 0 0 ab_SH 16 [some (.ref 69), some (.int x1), some (.int x2), some (.int x3), none] [] M := by
  intro n
  induction n with
  | zero =>
    intro M x1 x2 x3 q h kk
    cases h
  | succ n ih =>
    intro M x1 x2 x3 q h kk
    unfold mi_X10_threes_16 at h
    refine ev_iload_n dX10_threes_16 rfl ?_
    refine ev_aload_n dX10_threes_17 rfl ?_
    refine ev_geti fl_RX10_105 sh_69 (by decide) (by decide) rfl dX10_threes_18 ?_
    refine ev_icmp_ge (t := 69) dX10_threes_21 (by decide) (fun hc2 => ?_) (fun hc2 => ?_)
    · replace h := ab_pos hc2 h
      cases h
      exact kk
    · replace h := ab_neg hc2 h
      refine ev_iload_n dX10_threes_24 rfl ?_
      refine ev_iconst (x := 1) dX10_threes_25 (by decide) ?_
      refine ev_iadd dX10_threes_26 ?_
      refine ev_istore dX10_threes_27 (Nat.le_of_ble_eq_true rfl) rfl rfl ?_
      obtain ⟨q10, hq11, h⟩ := ab_bind h
      refine lp_X10_threes_29 _ M x1 x2 x3 (x3 + 1) _ hq11 ?_
      refine ev_iinc (y := x3 + 1) dX10_threes_63 rfl (by first | rfl | decide) rfl rfl ?_
      refine ev_goto (t := 16) dX10_threes_66 (by decide) ?_
      refine ev_drop (lv' := [some (.ref 69), some (.int q10.1), some (.int x2), some (.int (x3 + 1)), none]) (ab_sub_k (ab_sub_k (ab_sub_k (ab_sub_k (ab_sub_d ab_sub_nil))))) ?_
      exact ih M q10.1 x2 (x3 + 1) _ h kk

noncomputable def mi_X10_threes_4 : Nat → ab_M → Int32 → Int32 → Option (Int32 × Int32)
  | 0, _, _, _ => none
  | n + 1, M, x1, x2 =>
    if (M.1 69 1) ≤ x2 then
      some (x1, x2)
    else
      (mi_X10_threes_16 ab_F M x1 x2 (x2 + 1)).bind fun q12 =>
      mi_X10_threes_4 n M q12.1 (x2 + 1)

set_option maxHeartbeats 4000000 in
set_option maxRecDepth 100000 in
theorem lp_X10_threes_4 {l : Launch} {D : va_G} {ac : Nat → ClassId} {n0 : Nat} {r : ab_Rs} : ∀ (n : Nat) (M : ab_M) (x1 : Int32) (x2 : Int32) (q : Int32 × Int32) (h : mi_X10_threes_4 n M x1 x2 = some q) (kk : ab_Ev l D ac 3 me_X10_threes n0 0 0 r 0 0 ab_SH 75 [some (.ref 69), some (.int q.1), some (.int q.2), none, none] [] M), ab_Ev l D ac 3 me_X10_threes n0 0 0 r 0 0 ab_SH 4 [some (.ref 69), some (.int x1), some (.int x2), none, none] [] M := by
  intro n
  induction n with
  | zero =>
    intro M x1 x2 q h kk
    cases h
  | succ n ih =>
    intro M x1 x2 q h kk
    unfold mi_X10_threes_4 at h
    refine ev_iload_n dX10_threes_4 rfl ?_
    refine ev_aload_n dX10_threes_5 rfl ?_
    refine ev_geti fl_RX10_105 sh_69 (by decide) (by decide) rfl dX10_threes_6 ?_
    refine ev_icmp_ge (t := 75) dX10_threes_9 (by decide) (fun hc1 => ?_) (fun hc1 => ?_)
    · replace h := ab_pos hc1 h
      cases h
      exact kk
    · replace h := ab_neg hc1 h
      refine ev_iload_n dX10_threes_12 rfl ?_
      refine ev_iconst (x := 1) dX10_threes_13 (by decide) ?_
      refine ev_iadd dX10_threes_14 ?_
      refine ev_istore_n dX10_threes_15 (Nat.le_of_ble_eq_true rfl) rfl rfl ?_
      obtain ⟨q12, hq13, h⟩ := ab_bind h
      refine lp_X10_threes_16 _ M x1 x2 (x2 + 1) _ hq13 ?_
      refine ev_iinc (y := x2 + 1) dX10_threes_69 rfl (by first | rfl | decide) rfl rfl ?_
      refine ev_goto (t := 4) dX10_threes_72 (by decide) ?_
      refine ev_drop (lv' := [some (.ref 69), some (.int q12.1), some (.int (x2 + 1)), none, none]) (ab_sub_k (ab_sub_k (ab_sub_k (ab_sub_d (ab_sub_k ab_sub_nil))))) ?_
      exact ih M q12.1 (x2 + 1) _ h kk

noncomputable def mi_X10_threes (M : ab_M) : Option (Int32) :=
  (mi_X10_threes_4 ab_F M 0 0).bind fun q14 =>
  some q14.1

set_option maxHeartbeats 4000000 in
set_option maxRecDepth 100000 in
theorem co_X10_threes {l : Launch} {D : va_G} {ac : Nat → ClassId} (M : ab_M) (z : Int32) (h : mi_X10_threes M = some z) : ab_Con l D ac 3 me_X10_threes 0 0 [.ref 69] ab_SH M (some (.int z), ab_SH, M) := by
  refine ab_intro (lv := [some (.ref 69), none, none, none, none]) (by decide) rfl (Nat.le_of_ble_eq_true rfl) rfl ?_
  unfold mi_X10_threes at h
  refine ev_iconst (x := 0) dX10_threes_0 (by decide) ?_
  refine ev_istore_n dX10_threes_1 (Nat.le_of_ble_eq_true rfl) rfl rfl ?_
  refine ev_iconst (x := 0) dX10_threes_2 (by decide) ?_
  refine ev_istore_n dX10_threes_3 (Nat.le_of_ble_eq_true rfl) rfl rfl ?_
  obtain ⟨q14, hq15, h⟩ := ab_bind h
  refine lp_X10_threes_4 _ M 0 0 _ hq15 ?_
  refine ev_iload_n dX10_threes_75 rfl ?_
  cases h
  exact ev_ireturn rfl dX10_threes_76

noncomputable def mi_X10_count (M : ab_M) (x1 : Int32) : Option (Int32 × ab_M) :=
  if x1 = 0 then
    some ((ab_pi M 69 0 0).1 69 1, (ab_pi M 69 0 0))
  else
    if x1 = 1 then
      some ((ab_pi M 69 0 0).1 69 10, (ab_pi M 69 0 0))
    else
      if x1 = 2 then
        some ((ab_pi M 69 0 0).1 69 14, (ab_pi M 69 0 0))
      else
        if x1 = 3 then
          (mi_X10_bars (ab_pi M 69 0 0)).bind fun q5 =>
          some (q5, (ab_pi M 69 0 0))
        else
          if x1 = 4 then
            (mi_X10_threes (ab_pi M 69 0 0)).bind fun q8 =>
            some (q8, (ab_pi M 69 0 0))
          else
            if x1 = 5 then
              (mi_X10_findParts (ab_pi M 69 0 0)).bind fun q11 =>
              some (q11.1, q11.2)
            else
              if x1 = 6 then
                (mi_X10_withChannel (ab_pi M 69 0 0)).bind fun q14 =>
                some (q14, (ab_pi M 69 0 0))
              else
                some ((-1), (ab_pi M 69 0 0))

set_option maxHeartbeats 4000000 in
set_option maxRecDepth 100000 in
theorem co_X10_count {l : Launch} {D : va_G} {ac : Nat → ClassId} (M : ab_M) (x1 : Int32) (z : Int32 × ab_M) (h : mi_X10_count M x1 = some z) : ab_Con l D ac 5 me_X10_count 0 0 [.ref 69, .int x1] ab_SH M (some (.int z.1), ab_SH, z.2) := by
  refine ab_intro (lv := [some (.ref 69), some (.int x1)]) (by decide) rfl (Nat.le_of_ble_eq_true rfl) rfl ?_
  unfold mi_X10_count at h
  refine ev_aload_n dX10_count_0 rfl ?_
  refine ev_iconst (x := 0) dX10_count_1 (by decide) ?_
  refine ev_puti fl_RX10_102 sh_69 (by decide) (by decide) rfl rfl rfl dX10_count_2 ?_
  refine ev_iload_n dX10_count_5 rfl ?_
  by_cases hc1 : x1 = 0
  · replace h := ab_pos hc1 h
    have hx22 : (x1 : Int32).toInt = 0 := by rw [hc1]; decide
    refine ev_tableIn (t := 48) (off := 42) dX10_count_6 (by rw [hx22]; decide) (by rw [hx22]; decide) (by rw [hx22]; rfl) (by decide) ?_
    refine ev_aload_n dX10_count_48 rfl ?_
    refine ev_geti fl_RX10_105 sh_69 (by decide) (by decide) rfl dX10_count_49 ?_
    cases h
    exact ev_ireturn rfl dX10_count_52
  · replace h := ab_neg hc1 h
    by_cases hc2 : x1 = 1
    · replace h := ab_pos hc2 h
      have hx21 : (x1 : Int32).toInt = 1 := by rw [hc2]; decide
      refine ev_tableIn (t := 53) (off := 47) dX10_count_6 (by rw [hx21]; decide) (by rw [hx21]; decide) (by rw [hx21]; rfl) (by decide) ?_
      refine ev_aload_n dX10_count_53 rfl ?_
      refine ev_geti fl_RX10_108 sh_69 (by decide) (by decide) rfl dX10_count_54 ?_
      cases h
      exact ev_ireturn rfl dX10_count_57
    · replace h := ab_neg hc2 h
      by_cases hc3 : x1 = 2
      · replace h := ab_pos hc3 h
        have hx20 : (x1 : Int32).toInt = 2 := by rw [hc3]; decide
        refine ev_tableIn (t := 58) (off := 52) dX10_count_6 (by rw [hx20]; decide) (by rw [hx20]; decide) (by rw [hx20]; rfl) (by decide) ?_
        refine ev_aload_n dX10_count_58 rfl ?_
        refine ev_geti fl_RX10_125 sh_69 (by decide) (by decide) rfl dX10_count_59 ?_
        cases h
        exact ev_ireturn rfl dX10_count_62
      · replace h := ab_neg hc3 h
        by_cases hc4 : x1 = 3
        · replace h := ab_pos hc4 h
          have hx19 : (x1 : Int32).toInt = 3 := by rw [hc4]; decide
          refine ev_tableIn (t := 63) (off := 57) dX10_count_6 (by rw [hx19]; decide) (by rw [hx19]; decide) (by rw [hx19]; rfl) (by decide) ?_
          refine ev_aload_n dX10_count_63 rfl ?_
          obtain ⟨q5, hv6, h⟩ := ab_bind h
          refine ev_callV (st := []) (co_X10_bars (ab_pi M 69 0 0) _ hv6) mv_X10_bars sh_69 ml_RX10_260 dX10_count_64 (by decide) rfl (Nat.le_of_ble_eq_true rfl) ⟨Nat.le_refl _, Nat.le_refl _⟩ ?_
          cases h
          exact ev_ireturn rfl dX10_count_67
        · replace h := ab_neg hc4 h
          by_cases hc7 : x1 = 4
          · replace h := ab_pos hc7 h
            have hx18 : (x1 : Int32).toInt = 4 := by rw [hc7]; decide
            refine ev_tableIn (t := 68) (off := 62) dX10_count_6 (by rw [hx18]; decide) (by rw [hx18]; decide) (by rw [hx18]; rfl) (by decide) ?_
            refine ev_aload_n dX10_count_68 rfl ?_
            obtain ⟨q8, hv9, h⟩ := ab_bind h
            refine ev_callV (st := []) (co_X10_threes (ab_pi M 69 0 0) _ hv9) mv_X10_threes sh_69 ml_RX10_263 dX10_count_69 (by decide) rfl (Nat.le_of_ble_eq_true rfl) ⟨Nat.le_refl _, Nat.le_refl _⟩ ?_
            cases h
            exact ev_ireturn rfl dX10_count_72
          · replace h := ab_neg hc7 h
            by_cases hc10 : x1 = 5
            · replace h := ab_pos hc10 h
              have hx17 : (x1 : Int32).toInt = 5 := by rw [hc10]; decide
              refine ev_tableIn (t := 73) (off := 67) dX10_count_6 (by rw [hx17]; decide) (by rw [hx17]; decide) (by rw [hx17]; rfl) (by decide) ?_
              refine ev_aload_n dX10_count_73 rfl ?_
              obtain ⟨q11, hv12, h⟩ := ab_bind h
              refine ev_callV (st := []) (co_X10_findParts (ab_pi M 69 0 0) _ hv12) mv_X10_findParts sh_69 ml_RX10_254 dX10_count_74 (by decide) rfl (Nat.le_of_ble_eq_true rfl) ⟨Nat.le_refl _, Nat.le_refl _⟩ ?_
              cases h
              exact ev_ireturn rfl dX10_count_77
            · replace h := ab_neg hc10 h
              by_cases hc13 : x1 = 6
              · replace h := ab_pos hc13 h
                have hx16 : (x1 : Int32).toInt = 6 := by rw [hc13]; decide
                refine ev_tableIn (t := 78) (off := 72) dX10_count_6 (by rw [hx16]; decide) (by rw [hx16]; decide) (by rw [hx16]; rfl) (by decide) ?_
                refine ev_aload_n dX10_count_78 rfl ?_
                obtain ⟨q14, hv15, h⟩ := ab_bind h
                refine ev_callV (st := []) (co_X10_withChannel (ab_pi M 69 0 0) _ hv15) mv_X10_withChannel sh_69 ml_RX10_257 dX10_count_79 (by decide) rfl (Nat.le_of_ble_eq_true rfl) ⟨Nat.le_refl _, Nat.le_refl _⟩ ?_
                cases h
                exact ev_ireturn rfl dX10_count_82
              · replace h := ab_neg hc13 h
                have ehc1 := lv_neT (a := 0) hc1 (by decide)
                have ehc2 := lv_neT (a := 1) hc2 (by decide)
                have ehc3 := lv_neT (a := 2) hc3 (by decide)
                have ehc4 := lv_neT (a := 3) hc4 (by decide)
                have ehc7 := lv_neT (a := 4) hc7 (by decide)
                have ehc10 := lv_neT (a := 5) hc10 (by decide)
                have ehc13 := lv_neT (a := 6) hc13 (by decide)
                refine ev_tableOut (t := 83) dX10_count_6 (by omega) (by decide) ?_
                refine ev_iconst (x := (-1)) dX10_count_83 (by decide) ?_
                cases h
                exact ev_ireturn rfl dX10_count_84

noncomputable def mi_X10_look (M : ab_M) (x1 : Int32) (x2 : Int32) : Option (Int32 × ab_M) :=
  (mi_X10_isMast (ab_pi M 69 0 0) x1).bind fun q1 =>
  if q1 = 0 then
    some ((-1), (ab_pi M 69 0 0))
  else
    if x2 = 0 then
      ab_chk (vp_in x1 12) <|
      some ((ab_pi M 69 0 0).1 70 (x1).toNatClampNeg, (ab_pi M 69 0 0))
    else
      if x2 = 1 then
        ab_chk (vp_in x1 12) <|
        some ((ab_pi M 69 0 0).1 71 (x1).toNatClampNeg, (ab_pi M 69 0 0))
      else
        if x2 = 2 then
          ab_chk (vp_in x1 12) <|
          some ((ab_pi M 69 0 0).1 72 (x1).toNatClampNeg, (ab_pi M 69 0 0))
        else
          if x2 = 3 then
            ab_chk (vp_in x1 12) <|
            some ((ab_pi M 69 0 0).1 73 (x1).toNatClampNeg, (ab_pi M 69 0 0))
          else
            if x2 = 4 then
              ab_chk (vp_in x1 12) <|
              some ((ab_pi M 69 0 0).1 74 (x1).toNatClampNeg, (ab_pi M 69 0 0))
            else
              if x2 = 5 then
                ab_chk (vp_in x1 12) <|
                some ((ab_pi M 69 0 0).1 75 (x1).toNatClampNeg, (ab_pi M 69 0 0))
              else
                if x2 = 6 then
                  ab_chk (vp_in x1 12) <|
                  (mi_X10_countBits (ab_pi M 69 0 0) ((ab_pi M 69 0 0).1 76 (x1).toNatClampNeg)).bind fun q18 =>
                  some (q18, (ab_pi M 69 0 0))
                else
                  if x2 = 7 then
                    ab_chk (vp_in x1 12) <|
                    if ((ab_pi M 69 0 0).1 70 (x1).toNatClampNeg) = 1 then
                      ab_chk (vp_in x1 12) <|
                      some ((ab_pi M 69 0 0).1 77 (x1).toNatClampNeg, (ab_pi M 69 0 0))
                    else
                      some ((-2), (ab_pi M 69 0 0))
                  else
                    some ((-1), (ab_pi M 69 0 0))

set_option maxHeartbeats 4000000 in
set_option maxRecDepth 100000 in
theorem co_X10_look {l : Launch} {D : va_G} {ac : Nat → ClassId} (M : ab_M) (x1 : Int32) (x2 : Int32) (z : Int32 × ab_M) (h : mi_X10_look M x1 x2 = some z) : ab_Con l D ac 2 me_X10_look 0 0 [.ref 69, .int x1, .int x2] ab_SH M (some (.int z.1), ab_SH, z.2) := by
  refine ab_intro (lv := [some (.ref 69), some (.int x1), some (.int x2)]) (by decide) rfl (Nat.le_of_ble_eq_true rfl) rfl ?_
  unfold mi_X10_look at h
  refine ev_aload_n dX10_look_0 rfl ?_
  refine ev_iconst (x := 0) dX10_look_1 (by decide) ?_
  refine ev_puti fl_RX10_102 sh_69 (by decide) (by decide) rfl rfl rfl dX10_look_2 ?_
  refine ev_aload_n dX10_look_5 rfl ?_
  refine ev_iload_n dX10_look_6 rfl ?_
  obtain ⟨q1, hv2, h⟩ := ab_bind h
  refine ev_callV (st := []) (co_X10_isMast (ab_pi M 69 0 0) x1 _ hv2) mv_X10_isMast sh_69 ml_RX10_132 dX10_look_7 (by decide) rfl (Nat.le_of_ble_eq_true rfl) ⟨Nat.le_refl _, Nat.le_refl _⟩ ?_
  refine ev_if_ne (t := 15) dX10_look_10 (by decide) (fun hc3 => ?_) (fun hc3 => ?_)
  · replace h := ab_neg hc3 h
    refine ev_iload_n dX10_look_15 rfl ?_
    by_cases hc4 : x2 = 0
    · replace h := ab_pos hc4 h
      have hx31 : (x2 : Int32).toInt = 0 := by rw [hc4]; decide
      refine ev_tableIn (t := 64) (off := 48) dX10_look_16 (by rw [hx31]; decide) (by rw [hx31]; decide) (by rw [hx31]; rfl) (by decide) ?_
      refine ev_aload_n dX10_look_64 rfl ?_
      refine ev_getr (o' := 70) fl_RX10_7 sh_69 (by decide) (by decide) rfl rfl dX10_look_65 ?_
      refine ev_iload_n dX10_look_68 rfl ?_
      obtain ⟨hb5, h⟩ := ab_chk_some h
      refine ev_iaload sh_70 hb5 dX10_look_69 ?_
      cases h
      exact ev_ireturn rfl dX10_look_70
    · replace h := ab_neg hc4 h
      by_cases hc6 : x2 = 1
      · replace h := ab_pos hc6 h
        have hx30 : (x2 : Int32).toInt = 1 := by rw [hc6]; decide
        refine ev_tableIn (t := 71) (off := 55) dX10_look_16 (by rw [hx30]; decide) (by rw [hx30]; decide) (by rw [hx30]; rfl) (by decide) ?_
        refine ev_aload_n dX10_look_71 rfl ?_
        refine ev_getr (o' := 71) fl_RX10_13 sh_69 (by decide) (by decide) rfl rfl dX10_look_72 ?_
        refine ev_iload_n dX10_look_75 rfl ?_
        obtain ⟨hb7, h⟩ := ab_chk_some h
        refine ev_iaload sh_71 hb7 dX10_look_76 ?_
        cases h
        exact ev_ireturn rfl dX10_look_77
      · replace h := ab_neg hc6 h
        by_cases hc8 : x2 = 2
        · replace h := ab_pos hc8 h
          have hx29 : (x2 : Int32).toInt = 2 := by rw [hc8]; decide
          refine ev_tableIn (t := 78) (off := 62) dX10_look_16 (by rw [hx29]; decide) (by rw [hx29]; decide) (by rw [hx29]; rfl) (by decide) ?_
          refine ev_aload_n dX10_look_78 rfl ?_
          refine ev_getr (o' := 72) fl_RX10_16 sh_69 (by decide) (by decide) rfl rfl dX10_look_79 ?_
          refine ev_iload_n dX10_look_82 rfl ?_
          obtain ⟨hb9, h⟩ := ab_chk_some h
          refine ev_iaload sh_72 hb9 dX10_look_83 ?_
          cases h
          exact ev_ireturn rfl dX10_look_84
        · replace h := ab_neg hc8 h
          by_cases hc10 : x2 = 3
          · replace h := ab_pos hc10 h
            have hx28 : (x2 : Int32).toInt = 3 := by rw [hc10]; decide
            refine ev_tableIn (t := 85) (off := 69) dX10_look_16 (by rw [hx28]; decide) (by rw [hx28]; decide) (by rw [hx28]; rfl) (by decide) ?_
            refine ev_aload_n dX10_look_85 rfl ?_
            refine ev_getr (o' := 73) fl_RX10_19 sh_69 (by decide) (by decide) rfl rfl dX10_look_86 ?_
            refine ev_iload_n dX10_look_89 rfl ?_
            obtain ⟨hb11, h⟩ := ab_chk_some h
            refine ev_iaload sh_73 hb11 dX10_look_90 ?_
            cases h
            exact ev_ireturn rfl dX10_look_91
          · replace h := ab_neg hc10 h
            by_cases hc12 : x2 = 4
            · replace h := ab_pos hc12 h
              have hx27 : (x2 : Int32).toInt = 4 := by rw [hc12]; decide
              refine ev_tableIn (t := 92) (off := 76) dX10_look_16 (by rw [hx27]; decide) (by rw [hx27]; decide) (by rw [hx27]; rfl) (by decide) ?_
              refine ev_aload_n dX10_look_92 rfl ?_
              refine ev_getr (o' := 74) fl_RX10_22 sh_69 (by decide) (by decide) rfl rfl dX10_look_93 ?_
              refine ev_iload_n dX10_look_96 rfl ?_
              obtain ⟨hb13, h⟩ := ab_chk_some h
              refine ev_iaload sh_74 hb13 dX10_look_97 ?_
              cases h
              exact ev_ireturn rfl dX10_look_98
            · replace h := ab_neg hc12 h
              by_cases hc14 : x2 = 5
              · replace h := ab_pos hc14 h
                have hx26 : (x2 : Int32).toInt = 5 := by rw [hc14]; decide
                refine ev_tableIn (t := 99) (off := 83) dX10_look_16 (by rw [hx26]; decide) (by rw [hx26]; decide) (by rw [hx26]; rfl) (by decide) ?_
                refine ev_aload_n dX10_look_99 rfl ?_
                refine ev_getr (o' := 75) fl_RX10_25 sh_69 (by decide) (by decide) rfl rfl dX10_look_100 ?_
                refine ev_iload_n dX10_look_103 rfl ?_
                obtain ⟨hb15, h⟩ := ab_chk_some h
                refine ev_iaload sh_75 hb15 dX10_look_104 ?_
                cases h
                exact ev_ireturn rfl dX10_look_105
              · replace h := ab_neg hc14 h
                by_cases hc16 : x2 = 6
                · replace h := ab_pos hc16 h
                  have hx25 : (x2 : Int32).toInt = 6 := by rw [hc16]; decide
                  refine ev_tableIn (t := 106) (off := 90) dX10_look_16 (by rw [hx25]; decide) (by rw [hx25]; decide) (by rw [hx25]; rfl) (by decide) ?_
                  refine ev_aload_n dX10_look_106 rfl ?_
                  refine ev_aload_n dX10_look_107 rfl ?_
                  refine ev_getr (o' := 76) fl_RX10_28 sh_69 (by decide) (by decide) rfl rfl dX10_look_108 ?_
                  refine ev_iload_n dX10_look_111 rfl ?_
                  obtain ⟨hb17, h⟩ := ab_chk_some h
                  refine ev_iaload sh_76 hb17 dX10_look_112 ?_
                  obtain ⟨q18, hv19, h⟩ := ab_bind h
                  refine ev_callV (st := []) (co_X10_countBits (ab_pi M 69 0 0) ((ab_pi M 69 0 0).1 76 (x1).toNatClampNeg) _ hv19) mv_X10_countBits sh_69 ml_RX10_141 dX10_look_113 (by decide) rfl (Nat.le_of_ble_eq_true rfl) ⟨Nat.le_refl _, Nat.le_refl _⟩ ?_
                  cases h
                  exact ev_ireturn rfl dX10_look_116
                · replace h := ab_neg hc16 h
                  by_cases hc20 : x2 = 7
                  · replace h := ab_pos hc20 h
                    have hx24 : (x2 : Int32).toInt = 7 := by rw [hc20]; decide
                    refine ev_tableIn (t := 117) (off := 101) dX10_look_16 (by rw [hx24]; decide) (by rw [hx24]; decide) (by rw [hx24]; rfl) (by decide) ?_
                    refine ev_aload_n dX10_look_117 rfl ?_
                    refine ev_getr (o' := 70) fl_RX10_7 sh_69 (by decide) (by decide) rfl rfl dX10_look_118 ?_
                    refine ev_iload_n dX10_look_121 rfl ?_
                    obtain ⟨hb21, h⟩ := ab_chk_some h
                    refine ev_iaload sh_70 hb21 dX10_look_122 ?_
                    refine ev_iconst (x := 1) dX10_look_123 (by decide) ?_
                    refine ev_icmp_ne (t := 136) dX10_look_124 (by decide) (fun hc22 => ?_) (fun hc22 => ?_)
                    · replace h := ab_neg hc22 h
                      refine ev_bipush (x := (-2)) dX10_look_136 (by decide) ?_
                      cases h
                      exact ev_ireturn rfl dX10_look_138
                    · replace h := ab_pos hc22 h
                      refine ev_aload_n dX10_look_127 rfl ?_
                      refine ev_getr (o' := 77) fl_RX10_31 sh_69 (by decide) (by decide) rfl rfl dX10_look_128 ?_
                      refine ev_iload_n dX10_look_131 rfl ?_
                      obtain ⟨hb23, h⟩ := ab_chk_some h
                      refine ev_iaload sh_77 hb23 dX10_look_132 ?_
                      refine ev_goto (t := 138) dX10_look_133 (by decide) ?_
                      cases h
                      exact ev_ireturn rfl dX10_look_138
                  · replace h := ab_neg hc20 h
                    have ehc4 := lv_neT (a := 0) hc4 (by decide)
                    have ehc6 := lv_neT (a := 1) hc6 (by decide)
                    have ehc8 := lv_neT (a := 2) hc8 (by decide)
                    have ehc10 := lv_neT (a := 3) hc10 (by decide)
                    have ehc12 := lv_neT (a := 4) hc12 (by decide)
                    have ehc14 := lv_neT (a := 5) hc14 (by decide)
                    have ehc16 := lv_neT (a := 6) hc16 (by decide)
                    have ehc20 := lv_neT (a := 7) hc20 (by decide)
                    refine ev_tableOut (t := 139) dX10_look_16 (by omega) (by decide) ?_
                    refine ev_iconst (x := (-1)) dX10_look_139 (by decide) ?_
                    cases h
                    exact ev_ireturn rfl dX10_look_140
  · replace h := ab_pos hc3 h
    refine ev_iconst (x := (-1)) dX10_look_13 (by decide) ?_
    cases h
    exact ev_ireturn rfl dX10_look_14

noncomputable def mi_X10_isShelf (M : ab_M) (x0 : Int32) : Option (Int32) :=
  if x0 < 0 then
    some 0
  else
    if 8 ≤ x0 then
      some 0
    else
      some 1

set_option maxHeartbeats 4000000 in
set_option maxRecDepth 100000 in
theorem co_X10_isShelf {l : Launch} {D : va_G} {ac : Nat → ClassId} (M : ab_M) (x0 : Int32) (z : Int32) (h : mi_X10_isShelf M x0 = some z) : ab_Con l D ac 1 me_X10_isShelf 0 0 [.int x0] ab_SH M (some (.int z), ab_SH, M) := by
  refine ab_intro (lv := [some (.int x0)]) (by decide) rfl (Nat.le_of_ble_eq_true rfl) rfl ?_
  unfold mi_X10_isShelf at h
  refine ev_iload_n dX10_isShelf_0 rfl ?_
  refine ev_if_lt (t := 14) dX10_isShelf_1 (by decide) (fun hc1 => ?_) (fun hc1 => ?_)
  · replace h := ab_pos hc1 h
    refine ev_iconst (x := 0) dX10_isShelf_14 (by decide) ?_
    cases h
    exact ev_zreturn rfl (Or.inl rfl) dX10_isShelf_15
  · replace h := ab_neg hc1 h
    refine ev_iload_n dX10_isShelf_4 rfl ?_
    refine ev_bipush (x := 8) dX10_isShelf_5 (by decide) ?_
    refine ev_icmp_ge (t := 14) dX10_isShelf_7 (by decide) (fun hc2 => ?_) (fun hc2 => ?_)
    · replace h := ab_pos hc2 h
      refine ev_iconst (x := 0) dX10_isShelf_14 (by decide) ?_
      cases h
      exact ev_zreturn rfl (Or.inl rfl) dX10_isShelf_15
    · replace h := ab_neg hc2 h
      refine ev_iconst (x := 1) dX10_isShelf_10 (by decide) ?_
      refine ev_goto (t := 15) dX10_isShelf_11 (by decide) ?_
      cases h
      exact ev_zreturn rfl (Or.inr rfl) dX10_isShelf_15

noncomputable def mi_X10_weightOf (M : ab_M) (x1 : Int32) : Option (Int32) :=
  ab_chk (vp_in x1 12) <|
  ab_chk (vp_in x1 12) <|
  (some ((x1 + ((5 : Int32) * (M.1 74 (x1).toNatClampNeg))) + (M.1 73 (x1).toNatClampNeg)) : Option Int32).bind fun v3 =>
  ab_chk (vp_in x1 12) <|
  if (M.1 70 (x1).toNatClampNeg) = 0 then
    some v3
  else
    ab_chk (vp_in x1 12) <|
    if (M.1 70 (x1).toNatClampNeg) = 1 then
      ab_chk (vp_in x1 12) <|
      some (v3 + (M.1 77 (x1).toNatClampNeg))
    else
      ab_chk (vp_in x1 12) <|
      if (M.1 70 (x1).toNatClampNeg) = 2 then
        some (v3 + 100)
      else
        some ((2 : Int32) * v3)

set_option maxHeartbeats 4000000 in
set_option maxRecDepth 100000 in
theorem co_X10_weightOf {l : Launch} {D : va_G} {ac : Nat → ClassId} (M : ab_M) (x1 : Int32) (z : Int32) (h : mi_X10_weightOf M x1 = some z) : ab_Con l D ac 1 me_X10_weightOf 0 0 [.ref 69, .int x1] ab_SH M (some (.int z), ab_SH, M) := by
  refine ab_intro (lv := [some (.ref 69), some (.int x1), none]) (by decide) rfl (Nat.le_of_ble_eq_true rfl) rfl ?_
  unfold mi_X10_weightOf at h
  refine ev_iload_n dX10_weightOf_0 rfl ?_
  refine ev_iconst (x := 5) dX10_weightOf_1 (by decide) ?_
  refine ev_aload_n dX10_weightOf_2 rfl ?_
  refine ev_getr (o' := 74) fl_RX10_22 sh_69 (by decide) (by decide) rfl rfl dX10_weightOf_3 ?_
  refine ev_iload_n dX10_weightOf_6 rfl ?_
  obtain ⟨hb1, h⟩ := ab_chk_some h
  refine ev_iaload sh_74 hb1 dX10_weightOf_7 ?_
  refine ev_imul dX10_weightOf_8 ?_
  refine ev_iadd dX10_weightOf_9 ?_
  refine ev_aload_n dX10_weightOf_10 rfl ?_
  refine ev_getr (o' := 73) fl_RX10_19 sh_69 (by decide) (by decide) rfl rfl dX10_weightOf_11 ?_
  refine ev_iload_n dX10_weightOf_14 rfl ?_
  obtain ⟨hb2, h⟩ := ab_chk_some h
  refine ev_iaload sh_73 hb2 dX10_weightOf_15 ?_
  refine ev_iadd dX10_weightOf_16 ?_
  obtain ⟨v3, hq4, h⟩ := ab_bind h
  refine ev_nmi (Option.some.inj hq4) ?_
  refine ev_istore_n (x := v3) dX10_weightOf_17 (Nat.le_of_ble_eq_true rfl) rfl rfl ?_
  refine ev_aload_n dX10_weightOf_18 rfl ?_
  refine ev_getr (o' := 70) fl_RX10_7 sh_69 (by decide) (by decide) rfl rfl dX10_weightOf_19 ?_
  refine ev_iload_n dX10_weightOf_22 rfl ?_
  obtain ⟨hb5, h⟩ := ab_chk_some h
  refine ev_iaload sh_70 hb5 dX10_weightOf_23 ?_
  refine ev_if_ne (t := 31) dX10_weightOf_24 (by decide) (fun hc6 => ?_) (fun hc6 => ?_)
  · replace h := ab_neg hc6 h
    refine ev_aload_n dX10_weightOf_31 rfl ?_
    refine ev_getr (o' := 70) fl_RX10_7 sh_69 (by decide) (by decide) rfl rfl dX10_weightOf_32 ?_
    refine ev_iload_n dX10_weightOf_35 rfl ?_
    obtain ⟨hb7, h⟩ := ab_chk_some h
    refine ev_iaload sh_70 hb7 dX10_weightOf_36 ?_
    refine ev_iconst (x := 1) dX10_weightOf_37 (by decide) ?_
    refine ev_icmp_ne (t := 52) dX10_weightOf_38 (by decide) (fun hc8 => ?_) (fun hc8 => ?_)
    · replace h := ab_neg hc8 h
      refine ev_aload_n dX10_weightOf_52 rfl ?_
      refine ev_getr (o' := 70) fl_RX10_7 sh_69 (by decide) (by decide) rfl rfl dX10_weightOf_53 ?_
      refine ev_iload_n dX10_weightOf_56 rfl ?_
      obtain ⟨hb9, h⟩ := ab_chk_some h
      refine ev_iaload sh_70 hb9 dX10_weightOf_57 ?_
      refine ev_iconst (x := 2) dX10_weightOf_58 (by decide) ?_
      refine ev_icmp_ne (t := 69) dX10_weightOf_59 (by decide) (fun hc10 => ?_) (fun hc10 => ?_)
      · replace h := ab_neg hc10 h
        refine ev_iconst (x := 2) dX10_weightOf_69 (by decide) ?_
        refine ev_iload_n dX10_weightOf_70 rfl ?_
        refine ev_imul dX10_weightOf_71 ?_
        cases h
        exact ev_ireturn rfl dX10_weightOf_72
      · replace h := ab_pos hc10 h
        refine ev_iload_n dX10_weightOf_62 rfl ?_
        refine ev_bipush (x := 100) dX10_weightOf_63 (by decide) ?_
        refine ev_iadd dX10_weightOf_65 ?_
        refine ev_goto (t := 72) dX10_weightOf_66 (by decide) ?_
        cases h
        exact ev_ireturn rfl dX10_weightOf_72
    · replace h := ab_pos hc8 h
      refine ev_iload_n dX10_weightOf_41 rfl ?_
      refine ev_aload_n dX10_weightOf_42 rfl ?_
      refine ev_getr (o' := 77) fl_RX10_31 sh_69 (by decide) (by decide) rfl rfl dX10_weightOf_43 ?_
      refine ev_iload_n dX10_weightOf_46 rfl ?_
      obtain ⟨hb11, h⟩ := ab_chk_some h
      refine ev_iaload sh_77 hb11 dX10_weightOf_47 ?_
      refine ev_iadd dX10_weightOf_48 ?_
      refine ev_goto (t := 72) dX10_weightOf_49 (by decide) ?_
      cases h
      exact ev_ireturn rfl dX10_weightOf_72
  · replace h := ab_pos hc6 h
    refine ev_iload_n dX10_weightOf_27 rfl ?_
    refine ev_goto (t := 72) dX10_weightOf_28 (by decide) ?_
    cases h
    exact ev_ireturn rfl dX10_weightOf_72

noncomputable def mi_X10_keep_131 : Nat → ab_M → Int32 → Int32 → Int32 → Int32 → Option (Int32 × ab_M)
  | 0, _, _, _, _, _ => none
  | n + 1, M, x1, x2, x3, x5 =>
    ab_chk (vp_in x1 8) <|
    if (M.1 91 (x1).toNatClampNeg) ≤ x5 then
      some (x5, M)
    else
      ((if x2 = 3 then
        ab_chk (vp_in x5 16) <|
        some (Int32.toInt64 (M.1 80 (x5).toNatClampNeg))
      else
        (mi_X10_square M x3 x5).bind fun q46 =>
        some (Int32.toInt64 q46)) : Option (Int64)).bind fun q42 =>
      ab_chk (vp_in (((60 : Int32) * x1) + x5) 480) <|
      mi_X10_keep_131 n (ab_pl M 94 (((60 : Int32) * x1) + x5).toNatClampNeg q42) x1 x2 x3 (x5 + 1)

set_option maxHeartbeats 4000000 in
set_option maxRecDepth 100000 in
theorem lp_X10_keep_131 {l : Launch} {D : va_G} {ac : Nat → ClassId} {n0 : Nat} {r : ab_Rs} : ∀ (n : Nat) (M : ab_M) (x1 : Int32) (x2 : Int32) (x3 : Int32) (x5 : Int32) (q : Int32 × ab_M) (h : mi_X10_keep_131 n M x1 x2 x3 x5 = some q) (kk : ab_Ev l D ac 2 me_X10_keep n0 0 0 r 0 0 ab_SH 184 [some (.ref 69), some (.int x1), some (.int x2), some (.int x3), none, some (.int q.1)] [] q.2), ab_Ev l D ac 2 me_X10_keep n0 0 0 r 0 0 ab_SH 131 [some (.ref 69), some (.int x1), some (.int x2), some (.int x3), none, some (.int x5)] [] M := by
  intro n
  induction n with
  | zero =>
    intro M x1 x2 x3 x5 q h kk
    cases h
  | succ n ih =>
    intro M x1 x2 x3 x5 q h kk
    unfold mi_X10_keep_131 at h
    refine ev_iload dX10_keep_131 rfl ?_
    refine ev_aload_n dX10_keep_133 rfl ?_
    refine ev_getr (o' := 91) fl_RX10_86 sh_69 (by decide) (by decide) rfl rfl dX10_keep_134 ?_
    refine ev_iload_n dX10_keep_137 rfl ?_
    obtain ⟨hb40, h⟩ := ab_chk_some h
    refine ev_iaload sh_91 hb40 dX10_keep_138 ?_
    refine ev_icmp_ge (t := 184) dX10_keep_139 (by decide) (fun hc41 => ?_) (fun hc41 => ?_)
    · replace h := ab_pos hc41 h
      cases h
      exact kk
    · replace h := ab_neg hc41 h
      refine ev_aload_n dX10_keep_142 rfl ?_
      refine ev_getr (o' := 94) fl_RX10_95 sh_69 (by decide) (by decide) rfl rfl dX10_keep_143 ?_
      refine ev_bipush (x := 60) dX10_keep_146 (by decide) ?_
      refine ev_iload_n dX10_keep_148 rfl ?_
      refine ev_imul dX10_keep_149 ?_
      refine ev_iload dX10_keep_150 rfl ?_
      refine ev_iadd dX10_keep_152 ?_
      refine ev_iload_n dX10_keep_153 rfl ?_
      refine ev_iconst (x := 3) dX10_keep_154 (by decide) ?_
      obtain ⟨q42, hq43, h⟩ := ab_bind h
      have hJ44 : ab_Ev l D ac 2 me_X10_keep n0 0 0 r 0 0 ab_SH 177 [some (.ref 69), some (.int x1), some (.int x2), some (.int x3), none, some (.int x5)] [.long q42, .int (((60 : Int32) * x1) + x5), .ref 94] M := by
        obtain ⟨hb49, h⟩ := ab_chk_some h
        refine ev_lastore sh_94 hb49 dX10_keep_177 ?_
        refine ev_iinc (y := x5 + 1) dX10_keep_178 rfl (by first | rfl | decide) rfl rfl ?_
        refine ev_goto (t := 131) dX10_keep_181 (by decide) ?_
        exact ih (ab_pl M 94 (((60 : Int32) * x1) + x5).toNatClampNeg q42) x1 x2 x3 (x5 + 1) _ h kk
      refine ev_icmp_ne (t := 169) dX10_keep_155 (by decide) (fun hc45 => ?_) (fun hc45 => ?_)
      · replace hq43 := ab_neg hc45 hq43
        refine ev_aload_n dX10_keep_169 rfl ?_
        refine ev_iload_n dX10_keep_170 rfl ?_
        refine ev_iload dX10_keep_171 rfl ?_
        obtain ⟨q46, hv47, hq43⟩ := ab_bind hq43
        refine ev_callV (st := [.int (((60 : Int32) * x1) + x5), .ref 94]) (co_X10_square M x3 x5 _ hv47) mv_X10_square sh_69 ml_RX10_128 dX10_keep_173 (by decide) rfl (Nat.le_of_ble_eq_true rfl) ⟨Nat.le_refl _, Nat.le_refl _⟩ ?_
        refine ev_i2l dX10_keep_176 ?_
        cases hq43
        exact hJ44
      · replace hq43 := ab_pos hc45 hq43
        refine ev_aload_n dX10_keep_158 rfl ?_
        refine ev_getr (o' := 80) fl_RX10_40 sh_69 (by decide) (by decide) rfl rfl dX10_keep_159 ?_
        refine ev_iload dX10_keep_162 rfl ?_
        obtain ⟨hb48, hq43⟩ := ab_chk_some hq43
        refine ev_iaload sh_80 hb48 dX10_keep_164 ?_
        refine ev_i2l dX10_keep_165 ?_
        refine ev_goto (t := 177) dX10_keep_166 (by decide) ?_
        cases hq43
        exact hJ44

noncomputable def mi_X10_keep (M : ab_M) (x1 : Int32) (x2 : Int32) (x3 : Int32) : Option (Int32 × ab_M) :=
  (mi_X10_isShelf (ab_pi M 69 0 0) x1).bind fun q1 =>
  ((if q1 = 0 then
    some 0
  else
    if x2 = 0 then
      some 1
    else
      if x2 = 1 then
        (mi_X10_isMast (ab_pi M 69 0 0) x3).bind fun q9 =>
        if q9 = 0 then
          if x2 = 3 then
            some 1
          else
            some 0
        else
          some 1
      else
        if x2 = 4 then
          (mi_X10_isMast (ab_pi M 69 0 0) x3).bind fun q15 =>
          if q15 = 0 then
            if x2 = 3 then
              some 1
            else
              some 0
          else
            some 1
        else
          if x2 = 3 then
            some 1
          else
            some 0) : Option (Int32)).bind fun q3 =>
  if q3 = 0 then
    some ((-1), (ab_pi M 69 0 0))
  else
    ab_chk (vp_in x1 8) <|
    ((if x2 = 3 then
      some ((ab_pi (ab_pi M 69 0 0) 90 (x1).toNatClampNeg x2).1 69 10)
    else
      if x2 = 4 then
        some ((ab_pi (ab_pi M 69 0 0) 90 (x1).toNatClampNeg x2).1 69 1)
      else
        some 0) : Option (Int32)).bind fun q21 =>
    ab_chk (vp_in x1 8) <|
    ((if x2 = 1 then
      (mi_X10_weightOf (ab_pi (ab_pi (ab_pi M 69 0 0) 90 (x1).toNatClampNeg x2) 91 (x1).toNatClampNeg q21) x3).bind fun q31 =>
      ab_chk (vp_in x1 8) <|
      ab_chk (vp_in x3 12) <|
      ((if ((ab_pi (ab_pi (ab_pi (ab_pi M 69 0 0) 90 (x1).toNatClampNeg x2) 91 (x1).toNatClampNeg q21) 92 (x1).toNatClampNeg q31).1 70 (x3).toNatClampNeg) = 0 then
        some (-15)
      else
        some x3) : Option (Int32)).bind fun q35 =>
      ab_chk (vp_in x1 8) <|
      some (ab_pi (ab_pi (ab_pi (ab_pi (ab_pi M 69 0 0) 90 (x1).toNatClampNeg x2) 91 (x1).toNatClampNeg q21) 92 (x1).toNatClampNeg q31) 93 (x1).toNatClampNeg q35)
    else
      some (ab_pi (ab_pi (ab_pi M 69 0 0) 90 (x1).toNatClampNeg x2) 91 (x1).toNatClampNeg q21)) : Option (ab_M)).bind fun q27 =>
    (mi_X10_keep_131 ab_F q27 x1 x2 x3 0).bind fun q50 =>
    some (0, q50.2)

set_option maxHeartbeats 4000000 in
set_option maxRecDepth 100000 in
theorem co_X10_keep {l : Launch} {D : va_G} {ac : Nat → ClassId} (M : ab_M) (x1 : Int32) (x2 : Int32) (x3 : Int32) (z : Int32 × ab_M) (h : mi_X10_keep M x1 x2 x3 = some z) : ab_Con l D ac 2 me_X10_keep 0 0 [.ref 69, .int x1, .int x2, .int x3] ab_SH M (some (.int z.1), ab_SH, z.2) := by
  refine ab_intro (lv := [some (.ref 69), some (.int x1), some (.int x2), some (.int x3), none, none]) (by decide) rfl (Nat.le_of_ble_eq_true rfl) rfl ?_
  unfold mi_X10_keep at h
  refine ev_aload_n dX10_keep_0 rfl ?_
  refine ev_iconst (x := 0) dX10_keep_1 (by decide) ?_
  refine ev_puti fl_RX10_102 sh_69 (by decide) (by decide) rfl rfl rfl dX10_keep_2 ?_
  refine ev_iload_n dX10_keep_5 rfl ?_
  obtain ⟨q1, hv2, h⟩ := ab_bind h
  refine ev_callS (st := []) (co_X10_isShelf (ab_pi M 69 0 0) x1 _ hv2) mv_X10_isShelf ml_RX10_266 dX10_keep_6 (by decide) rfl (Nat.le_of_ble_eq_true rfl) ⟨Nat.le_refl _, Nat.le_refl _⟩ ?_
  obtain ⟨q3, hq4, h⟩ := ab_bind h
  have hJ5 : ab_Ev l D ac 2 me_X10_keep ab_SH.length 0 0 (some (.int z.1), ab_SH, z.2) 0 0 ab_SH 44 [some (.ref 69), some (.int x1), some (.int x2), some (.int x3), none, none] [.int q3] (ab_pi M 69 0 0) := by
    refine ev_istore dX10_keep_44 (Nat.le_of_ble_eq_true rfl) rfl rfl ?_
    refine ev_iload dX10_keep_46 rfl ?_
    refine ev_if_ne (t := 53) dX10_keep_48 (by decide) (fun hc19 => ?_) (fun hc19 => ?_)
    · replace h := ab_neg hc19 h
      refine ev_aload_n dX10_keep_53 rfl ?_
      refine ev_getr (o' := 90) fl_RX10_83 sh_69 (by decide) (by decide) rfl rfl dX10_keep_54 ?_
      refine ev_iload_n dX10_keep_57 rfl ?_
      refine ev_iload_n dX10_keep_58 rfl ?_
      obtain ⟨hb20, h⟩ := ab_chk_some h
      refine ev_iastore sh_90 hb20 dX10_keep_59 ?_
      refine ev_aload_n dX10_keep_60 rfl ?_
      refine ev_getr (o' := 91) fl_RX10_86 sh_69 (by decide) (by decide) rfl rfl dX10_keep_61 ?_
      refine ev_iload_n dX10_keep_64 rfl ?_
      refine ev_iload_n dX10_keep_65 rfl ?_
      refine ev_iconst (x := 3) dX10_keep_66 (by decide) ?_
      obtain ⟨q21, hq22, h⟩ := ab_bind h
      have hJ23 : ab_Ev l D ac 2 me_X10_keep ab_SH.length 0 0 (some (.int z.1), ab_SH, z.2) 0 0 ab_SH 90 [some (.ref 69), some (.int x1), some (.int x2), some (.int x3), some (.int q3), none] [.int q21, .int x1, .ref 91] (ab_pi (ab_pi M 69 0 0) 90 (x1).toNatClampNeg x2) := by
        obtain ⟨hb26, h⟩ := ab_chk_some h
        refine ev_iastore sh_91 hb26 dX10_keep_90 ?_
        refine ev_iload_n dX10_keep_91 rfl ?_
        refine ev_iconst (x := 1) dX10_keep_92 (by decide) ?_
        obtain ⟨q27, hq28, h⟩ := ab_bind h
        have hJ29 : ab_Ev l D ac 2 me_X10_keep ab_SH.length 0 0 (some (.int z.1), ab_SH, z.2) 0 0 ab_SH 128 [some (.ref 69), some (.int x1), some (.int x2), some (.int x3), some (.int q3), none] [] q27 := by
          refine ev_iconst (x := 0) dX10_keep_128 (by decide) ?_
          refine ev_istore dX10_keep_129 (Nat.le_of_ble_eq_true rfl) rfl rfl ?_
          obtain ⟨q50, hq51, h⟩ := ab_bind h
          refine ev_drop (lv' := [some (.ref 69), some (.int x1), some (.int x2), some (.int x3), none, some (.int 0)]) (ab_sub_k (ab_sub_k (ab_sub_k (ab_sub_k (ab_sub_d (ab_sub_k ab_sub_nil)))))) ?_
          refine lp_X10_keep_131 _ q27 x1 x2 x3 0 _ hq51 ?_
          refine ev_iconst (x := 0) dX10_keep_184 (by decide) ?_
          cases h
          exact ev_ireturn rfl dX10_keep_185
        refine ev_icmp_ne (t := 128) dX10_keep_93 (by decide) (fun hc30 => ?_) (fun hc30 => ?_)
        · replace hq28 := ab_neg hc30 hq28
          cases hq28
          exact hJ29
        · replace hq28 := ab_pos hc30 hq28
          refine ev_aload_n dX10_keep_96 rfl ?_
          refine ev_getr (o' := 92) fl_RX10_89 sh_69 (by decide) (by decide) rfl rfl dX10_keep_97 ?_
          refine ev_iload_n dX10_keep_100 rfl ?_
          refine ev_aload_n dX10_keep_101 rfl ?_
          refine ev_iload_n dX10_keep_102 rfl ?_
          obtain ⟨q31, hv32, hq28⟩ := ab_bind hq28
          refine ev_callV (st := [.int x1, .ref 92]) (co_X10_weightOf (ab_pi (ab_pi (ab_pi M 69 0 0) 90 (x1).toNatClampNeg x2) 91 (x1).toNatClampNeg q21) x3 _ hv32) mv_X10_weightOf sh_69 ml_RX10_269 dX10_keep_103 (by decide) rfl (Nat.le_of_ble_eq_true rfl) ⟨Nat.le_refl _, Nat.le_refl _⟩ ?_
          obtain ⟨hb33, hq28⟩ := ab_chk_some hq28
          refine ev_iastore sh_92 hb33 dX10_keep_106 ?_
          refine ev_aload_n dX10_keep_107 rfl ?_
          refine ev_getr (o' := 93) fl_RX10_92 sh_69 (by decide) (by decide) rfl rfl dX10_keep_108 ?_
          refine ev_iload_n dX10_keep_111 rfl ?_
          refine ev_aload_n dX10_keep_112 rfl ?_
          refine ev_getr (o' := 70) fl_RX10_7 sh_69 (by decide) (by decide) rfl rfl dX10_keep_113 ?_
          refine ev_iload_n dX10_keep_116 rfl ?_
          obtain ⟨hb34, hq28⟩ := ab_chk_some hq28
          refine ev_iaload sh_70 hb34 dX10_keep_117 ?_
          obtain ⟨q35, hq36, hq28⟩ := ab_bind hq28
          have hJ37 : ab_Ev l D ac 2 me_X10_keep ab_SH.length 0 0 (some (.int z.1), ab_SH, z.2) 0 0 ab_SH 127 [some (.ref 69), some (.int x1), some (.int x2), some (.int x3), some (.int q3), none] [.int q35, .int x1, .ref 93] (ab_pi (ab_pi (ab_pi (ab_pi M 69 0 0) 90 (x1).toNatClampNeg x2) 91 (x1).toNatClampNeg q21) 92 (x1).toNatClampNeg q31) := by
            obtain ⟨hb39, hq28⟩ := ab_chk_some hq28
            refine ev_iastore sh_93 hb39 dX10_keep_127 ?_
            cases hq28
            exact hJ29
          refine ev_if_ne (t := 126) dX10_keep_118 (by decide) (fun hc38 => ?_) (fun hc38 => ?_)
          · replace hq36 := ab_neg hc38 hq36
            refine ev_iload_n dX10_keep_126 rfl ?_
            cases hq36
            exact hJ37
          · replace hq36 := ab_pos hc38 hq36
            refine ev_bipush (x := (-15)) dX10_keep_121 (by decide) ?_
            refine ev_goto (t := 127) dX10_keep_123 (by decide) ?_
            cases hq36
            exact hJ37
      refine ev_icmp_ne (t := 77) dX10_keep_67 (by decide) (fun hc24 => ?_) (fun hc24 => ?_)
      · replace hq22 := ab_neg hc24 hq22
        refine ev_iload_n dX10_keep_77 rfl ?_
        refine ev_iconst (x := 4) dX10_keep_78 (by decide) ?_
        refine ev_icmp_ne (t := 89) dX10_keep_79 (by decide) (fun hc25 => ?_) (fun hc25 => ?_)
        · replace hq22 := ab_neg hc25 hq22
          refine ev_iconst (x := 0) dX10_keep_89 (by decide) ?_
          cases hq22
          exact hJ23
        · replace hq22 := ab_pos hc25 hq22
          refine ev_aload_n dX10_keep_82 rfl ?_
          refine ev_geti fl_RX10_105 sh_69 (by decide) (by decide) rfl dX10_keep_83 ?_
          refine ev_goto (t := 90) dX10_keep_86 (by decide) ?_
          cases hq22
          exact hJ23
      · replace hq22 := ab_pos hc24 hq22
        refine ev_aload_n dX10_keep_70 rfl ?_
        refine ev_geti fl_RX10_108 sh_69 (by decide) (by decide) rfl dX10_keep_71 ?_
        refine ev_goto (t := 90) dX10_keep_74 (by decide) ?_
        cases hq22
        exact hJ23
    · replace h := ab_pos hc19 h
      refine ev_iconst (x := (-1)) dX10_keep_51 (by decide) ?_
      cases h
      exact ev_ireturn rfl dX10_keep_52
  refine ev_if_eq (t := 43) dX10_keep_9 (by decide) (fun hc6 => ?_) (fun hc6 => ?_)
  · replace hq4 := ab_pos hc6 hq4
    refine ev_iconst (x := 0) dX10_keep_43 (by decide) ?_
    cases hq4
    exact hJ5
  · replace hq4 := ab_neg hc6 hq4
    refine ev_iload_n dX10_keep_12 rfl ?_
    refine ev_if_eq (t := 39) dX10_keep_13 (by decide) (fun hc7 => ?_) (fun hc7 => ?_)
    · replace hq4 := ab_pos hc7 hq4
      refine ev_iconst (x := 1) dX10_keep_39 (by decide) ?_
      refine ev_goto (t := 44) dX10_keep_40 (by decide) ?_
      cases hq4
      exact hJ5
    · replace hq4 := ab_neg hc7 hq4
      refine ev_iload_n dX10_keep_16 rfl ?_
      refine ev_iconst (x := 1) dX10_keep_17 (by decide) ?_
      refine ev_icmp_eq (t := 26) dX10_keep_18 (by decide) (fun hc8 => ?_) (fun hc8 => ?_)
      · replace hq4 := ab_pos hc8 hq4
        refine ev_aload_n dX10_keep_26 rfl ?_
        refine ev_iload_n dX10_keep_27 rfl ?_
        obtain ⟨q9, hv10, hq4⟩ := ab_bind hq4
        refine ev_callV (st := []) (co_X10_isMast (ab_pi M 69 0 0) x3 _ hv10) mv_X10_isMast sh_69 ml_RX10_132 dX10_keep_28 (by decide) rfl (Nat.le_of_ble_eq_true rfl) ⟨Nat.le_refl _, Nat.le_refl _⟩ ?_
        refine ev_if_ne (t := 39) dX10_keep_31 (by decide) (fun hc11 => ?_) (fun hc11 => ?_)
        · replace hq4 := ab_neg hc11 hq4
          refine ev_iconst (x := 1) dX10_keep_39 (by decide) ?_
          refine ev_goto (t := 44) dX10_keep_40 (by decide) ?_
          cases hq4
          exact hJ5
        · replace hq4 := ab_pos hc11 hq4
          refine ev_iload_n dX10_keep_34 rfl ?_
          refine ev_iconst (x := 3) dX10_keep_35 (by decide) ?_
          refine ev_icmp_ne (t := 43) dX10_keep_36 (by decide) (fun hc12 => ?_) (fun hc12 => ?_)
          · replace hq4 := ab_neg hc12 hq4
            refine ev_iconst (x := 0) dX10_keep_43 (by decide) ?_
            cases hq4
            exact hJ5
          · replace hq4 := ab_pos hc12 hq4
            refine ev_iconst (x := 1) dX10_keep_39 (by decide) ?_
            refine ev_goto (t := 44) dX10_keep_40 (by decide) ?_
            cases hq4
            exact hJ5
      · replace hq4 := ab_neg hc8 hq4
        refine ev_iload_n dX10_keep_21 rfl ?_
        refine ev_iconst (x := 4) dX10_keep_22 (by decide) ?_
        refine ev_icmp_ne (t := 34) dX10_keep_23 (by decide) (fun hc13 => ?_) (fun hc13 => ?_)
        · replace hq4 := ab_neg hc13 hq4
          refine ev_iload_n dX10_keep_34 rfl ?_
          refine ev_iconst (x := 3) dX10_keep_35 (by decide) ?_
          refine ev_icmp_ne (t := 43) dX10_keep_36 (by decide) (fun hc14 => ?_) (fun hc14 => ?_)
          · replace hq4 := ab_neg hc14 hq4
            refine ev_iconst (x := 0) dX10_keep_43 (by decide) ?_
            cases hq4
            exact hJ5
          · replace hq4 := ab_pos hc14 hq4
            refine ev_iconst (x := 1) dX10_keep_39 (by decide) ?_
            refine ev_goto (t := 44) dX10_keep_40 (by decide) ?_
            cases hq4
            exact hJ5
        · replace hq4 := ab_pos hc13 hq4
          refine ev_aload_n dX10_keep_26 rfl ?_
          refine ev_iload_n dX10_keep_27 rfl ?_
          obtain ⟨q15, hv16, hq4⟩ := ab_bind hq4
          refine ev_callV (st := []) (co_X10_isMast (ab_pi M 69 0 0) x3 _ hv16) mv_X10_isMast sh_69 ml_RX10_132 dX10_keep_28 (by decide) rfl (Nat.le_of_ble_eq_true rfl) ⟨Nat.le_refl _, Nat.le_refl _⟩ ?_
          refine ev_if_ne (t := 39) dX10_keep_31 (by decide) (fun hc17 => ?_) (fun hc17 => ?_)
          · replace hq4 := ab_neg hc17 hq4
            refine ev_iconst (x := 1) dX10_keep_39 (by decide) ?_
            refine ev_goto (t := 44) dX10_keep_40 (by decide) ?_
            cases hq4
            exact hJ5
          · replace hq4 := ab_pos hc17 hq4
            refine ev_iload_n dX10_keep_34 rfl ?_
            refine ev_iconst (x := 3) dX10_keep_35 (by decide) ?_
            refine ev_icmp_ne (t := 43) dX10_keep_36 (by decide) (fun hc18 => ?_) (fun hc18 => ?_)
            · replace hq4 := ab_neg hc18 hq4
              refine ev_iconst (x := 0) dX10_keep_43 (by decide) ?_
              cases hq4
              exact hJ5
            · replace hq4 := ab_pos hc18 hq4
              refine ev_iconst (x := 1) dX10_keep_39 (by decide) ?_
              refine ev_goto (t := 44) dX10_keep_40 (by decide) ?_
              cases hq4
              exact hJ5

noncomputable def mi_X10_make_58 : Nat → ab_M → Int32 → Int32 → Int32 → Option (Int32 × ab_M)
  | 0, _, _, _, _ => none
  | n + 1, M, x1, x3, x4 =>
    if x3 ≤ x4 then
      some (x4, M)
    else
      ab_chk (vp_in (((60 : Int32) * x1) + x4) 480) <|
      mi_X10_make_58 n (ab_pl M 94 (((60 : Int32) * x1) + x4).toNatClampNeg 0) x1 x3 (x4 + 1)

set_option maxHeartbeats 4000000 in
set_option maxRecDepth 100000 in
theorem lp_X10_make_58 {l : Launch} {D : va_G} {ac : Nat → ClassId} {n0 : Nat} {r : ab_Rs} : ∀ (n : Nat) (M : ab_M) (x1 : Int32) (x3 : Int32) (x4 : Int32) (q : Int32 × ab_M) (h : mi_X10_make_58 n M x1 x3 x4 = some q) (kk : ab_Ev l D ac 2 me_X10_make n0 0 0 r 0 0 ab_SH 83 [some (.ref 69), some (.int x1), none, some (.int x3), some (.int q.1)] [] q.2), ab_Ev l D ac 2 me_X10_make n0 0 0 r 0 0 ab_SH 58 [some (.ref 69), some (.int x1), none, some (.int x3), some (.int x4)] [] M := by
  intro n
  induction n with
  | zero =>
    intro M x1 x3 x4 q h kk
    cases h
  | succ n ih =>
    intro M x1 x3 x4 q h kk
    unfold mi_X10_make_58 at h
    refine ev_iload dX10_make_58 rfl ?_
    refine ev_iload_n dX10_make_60 rfl ?_
    refine ev_icmp_ge (t := 83) dX10_make_61 (by decide) (fun hc11 => ?_) (fun hc11 => ?_)
    · replace h := ab_pos hc11 h
      cases h
      exact kk
    · replace h := ab_neg hc11 h
      refine ev_aload_n dX10_make_64 rfl ?_
      refine ev_getr (o' := 94) fl_RX10_95 sh_69 (by decide) (by decide) rfl rfl dX10_make_65 ?_
      refine ev_bipush (x := 60) dX10_make_68 (by decide) ?_
      refine ev_iload_n dX10_make_70 rfl ?_
      refine ev_imul dX10_make_71 ?_
      refine ev_iload dX10_make_72 rfl ?_
      refine ev_iadd dX10_make_74 ?_
      refine ev_lconst (x := 0) dX10_make_75 (by decide) ?_
      obtain ⟨hb12, h⟩ := ab_chk_some h
      refine ev_lastore sh_94 hb12 dX10_make_76 ?_
      refine ev_iinc (y := x4 + 1) dX10_make_77 rfl (by first | rfl | decide) rfl rfl ?_
      refine ev_goto (t := 58) dX10_make_80 (by decide) ?_
      exact ih (ab_pl M 94 (((60 : Int32) * x1) + x4).toNatClampNeg 0) x1 x3 (x4 + 1) _ h kk

noncomputable def mi_X10_make (M : ab_M) (x1 : Int32) (x2 : Int32) (x3 : Int32) : Option (Int32 × ab_M) :=
  (mi_X10_isShelf (ab_pi M 69 0 0) x1).bind fun q1 =>
  if q1 = 0 then
    some ((-1), (ab_pi M 69 0 0))
  else
    (mi_X10_isIn (ab_pi M 69 0 0) (Int32.toInt64 x2) 3 4).bind fun q4 =>
    if q4 = 0 then
      some ((-1), (ab_pi M 69 0 0))
    else
      if x3 ≤ 60 then
        if 0 ≤ x3 then
          ab_chk (vp_in x1 8) <|
          ab_chk (vp_in x1 8) <|
          (mi_X10_make_58 ab_F (ab_pi (ab_pi (ab_pi M 69 0 0) 90 (x1).toNatClampNeg x2) 91 (x1).toNatClampNeg x3) x1 x3 0).bind fun q13 =>
          some (0, q13.2)
        else
          some ((-14), (ab_pi M 69 0 0))
      else
        some ((-1), (ab_pi M 69 0 0))

set_option maxHeartbeats 4000000 in
set_option maxRecDepth 100000 in
theorem co_X10_make {l : Launch} {D : va_G} {ac : Nat → ClassId} (M : ab_M) (x1 : Int32) (x2 : Int32) (x3 : Int32) (z : Int32 × ab_M) (h : mi_X10_make M x1 x2 x3 = some z) : ab_Con l D ac 2 me_X10_make 0 0 [.ref 69, .int x1, .int x2, .int x3] ab_SH M (some (.int z.1), ab_SH, z.2) := by
  refine ab_intro (lv := [some (.ref 69), some (.int x1), some (.int x2), some (.int x3), none]) (by decide) rfl (Nat.le_of_ble_eq_true rfl) rfl ?_
  unfold mi_X10_make at h
  refine ev_aload_n dX10_make_0 rfl ?_
  refine ev_iconst (x := 0) dX10_make_1 (by decide) ?_
  refine ev_puti fl_RX10_102 sh_69 (by decide) (by decide) rfl rfl rfl dX10_make_2 ?_
  refine ev_iload_n dX10_make_5 rfl ?_
  obtain ⟨q1, hv2, h⟩ := ab_bind h
  refine ev_callS (st := []) (co_X10_isShelf (ab_pi M 69 0 0) x1 _ hv2) mv_X10_isShelf ml_RX10_266 dX10_make_6 (by decide) rfl (Nat.le_of_ble_eq_true rfl) ⟨Nat.le_refl _, Nat.le_refl _⟩ ?_
  refine ev_if_eq (t := 32) dX10_make_9 (by decide) (fun hc3 => ?_) (fun hc3 => ?_)
  · replace h := ab_pos hc3 h
    refine ev_iconst (x := (-1)) dX10_make_32 (by decide) ?_
    cases h
    exact ev_ireturn rfl dX10_make_33
  · replace h := ab_neg hc3 h
    refine ev_iload_n dX10_make_12 rfl ?_
    refine ev_i2l dX10_make_13 ?_
    refine ev_ldc2 kw_RX10_118 dX10_make_14 ?_
    refine ev_ldc2 kw_RX10_158 dX10_make_17 ?_
    obtain ⟨q4, hv5, h⟩ := ab_bind h
    refine ev_callS (st := []) (co_X10_isIn (ab_pi M 69 0 0) (Int32.toInt64 x2) 3 4 _ hv5) mv_X10_isIn ml_RX10_113 dX10_make_20 (by decide) rfl (Nat.le_of_ble_eq_true rfl) ⟨Nat.le_refl _, Nat.le_refl _⟩ ?_
    refine ev_if_eq (t := 32) dX10_make_23 (by decide) (fun hc6 => ?_) (fun hc6 => ?_)
    · replace h := ab_pos hc6 h
      refine ev_iconst (x := (-1)) dX10_make_32 (by decide) ?_
      cases h
      exact ev_ireturn rfl dX10_make_33
    · replace h := ab_neg hc6 h
      refine ev_iload_n dX10_make_26 rfl ?_
      refine ev_bipush (x := 60) dX10_make_27 (by decide) ?_
      refine ev_icmp_le (t := 34) dX10_make_29 (by decide) (fun hc7 => ?_) (fun hc7 => ?_)
      · replace h := ab_pos hc7 h
        refine ev_iload_n dX10_make_34 rfl ?_
        refine ev_if_ge (t := 41) dX10_make_35 (by decide) (fun hc8 => ?_) (fun hc8 => ?_)
        · replace h := ab_pos hc8 h
          refine ev_aload_n dX10_make_41 rfl ?_
          refine ev_getr (o' := 90) fl_RX10_83 sh_69 (by decide) (by decide) rfl rfl dX10_make_42 ?_
          refine ev_iload_n dX10_make_45 rfl ?_
          refine ev_iload_n dX10_make_46 rfl ?_
          obtain ⟨hb9, h⟩ := ab_chk_some h
          refine ev_iastore sh_90 hb9 dX10_make_47 ?_
          refine ev_aload_n dX10_make_48 rfl ?_
          refine ev_getr (o' := 91) fl_RX10_86 sh_69 (by decide) (by decide) rfl rfl dX10_make_49 ?_
          refine ev_iload_n dX10_make_52 rfl ?_
          refine ev_iload_n dX10_make_53 rfl ?_
          obtain ⟨hb10, h⟩ := ab_chk_some h
          refine ev_iastore sh_91 hb10 dX10_make_54 ?_
          refine ev_iconst (x := 0) dX10_make_55 (by decide) ?_
          refine ev_istore dX10_make_56 (Nat.le_of_ble_eq_true rfl) rfl rfl ?_
          obtain ⟨q13, hq14, h⟩ := ab_bind h
          refine ev_drop (lv' := [some (.ref 69), some (.int x1), none, some (.int x3), some (.int 0)]) (ab_sub_k (ab_sub_k (ab_sub_d (ab_sub_k (ab_sub_k ab_sub_nil))))) ?_
          refine lp_X10_make_58 _ (ab_pi (ab_pi (ab_pi M 69 0 0) 90 (x1).toNatClampNeg x2) 91 (x1).toNatClampNeg x3) x1 x3 0 _ hq14 ?_
          refine ev_iconst (x := 0) dX10_make_83 (by decide) ?_
          cases h
          exact ev_ireturn rfl dX10_make_84
        · replace h := ab_neg hc8 h
          refine ev_bipush (x := (-14)) dX10_make_38 (by decide) ?_
          cases h
          exact ev_ireturn rfl dX10_make_40
      · replace h := ab_neg hc7 h
        refine ev_iconst (x := (-1)) dX10_make_32 (by decide) ?_
        cases h
        exact ev_ireturn rfl dX10_make_33

noncomputable def mi_X10_element (M : ab_M) (x1 : Int32) (x2 : Int32) : Option (Int64 × ab_M) :=
  (mi_X10_isShelf M x1).bind fun q1 =>
  ((if q1 = 0 then
    some 0
  else
    ab_chk (vp_in x1 8) <|
    if (M.1 90 (x1).toNatClampNeg) ≤ 2 then
      some 0
    else
      ab_chk (vp_in x1 8) <|
      (mi_X10_isIn M (Int32.toInt64 x2) 0 (Int32.toInt64 ((M.1 91 (x1).toNatClampNeg) - 1))).bind fun q10 =>
      if q10 = 0 then
        some 0
      else
        some 1) : Option (Int32)).bind fun q3 =>
  (mi_X10_isShelf M x1).bind fun q13 =>
  ((if q13 = 0 then
    some 1
  else
    if q3 = 0 then
      some 2
    else
      some 0) : Option (Int32)).bind fun q15 =>
  if q3 = 0 then
    some (0, (ab_pi M 69 0 q15))
  else
    ab_chk (vp_in (((60 : Int32) * x1) + x2) 480) <|
    some ((ab_pi M 69 0 q15).2 94 (((60 : Int32) * x1) + x2).toNatClampNeg, (ab_pi M 69 0 q15))

set_option maxHeartbeats 4000000 in
set_option maxRecDepth 100000 in
theorem co_X10_element {l : Launch} {D : va_G} {ac : Nat → ClassId} (M : ab_M) (x1 : Int32) (x2 : Int32) (z : Int64 × ab_M) (h : mi_X10_element M x1 x2 = some z) : ab_Con l D ac 2 me_X10_element 0 0 [.ref 69, .int x1, .int x2] ab_SH M (some (.long z.1), ab_SH, z.2) := by
  refine ab_intro (lv := [some (.ref 69), some (.int x1), some (.int x2), none]) (by decide) rfl (Nat.le_of_ble_eq_true rfl) rfl ?_
  unfold mi_X10_element at h
  refine ev_iload_n dX10_element_0 rfl ?_
  obtain ⟨q1, hv2, h⟩ := ab_bind h
  refine ev_callS (st := []) (co_X10_isShelf M x1 _ hv2) mv_X10_isShelf ml_RX10_266 dX10_element_1 (by decide) rfl (Nat.le_of_ble_eq_true rfl) ⟨Nat.le_refl _, Nat.le_refl _⟩ ?_
  obtain ⟨q3, hq4, h⟩ := ab_bind h
  have hJ5 : ab_Ev l D ac 2 me_X10_element ab_SH.length 0 0 (some (.long z.1), ab_SH, z.2) 0 0 ab_SH 40 [some (.ref 69), some (.int x1), some (.int x2), none] [.int q3] M := by
    refine ev_istore_n dX10_element_40 (Nat.le_of_ble_eq_true rfl) rfl rfl ?_
    refine ev_aload_n dX10_element_41 rfl ?_
    refine ev_iload_n dX10_element_42 rfl ?_
    obtain ⟨q13, hv14, h⟩ := ab_bind h
    refine ev_callS (st := [.ref 69]) (co_X10_isShelf M x1 _ hv14) mv_X10_isShelf ml_RX10_266 dX10_element_43 (by decide) rfl (Nat.le_of_ble_eq_true rfl) ⟨Nat.le_refl _, Nat.le_refl _⟩ ?_
    obtain ⟨q15, hq16, h⟩ := ab_bind h
    have hJ17 : ab_Ev l D ac 2 me_X10_element ab_SH.length 0 0 (some (.long z.1), ab_SH, z.2) 0 0 ab_SH 62 [some (.ref 69), some (.int x1), some (.int x2), some (.int q3)] [.int q15, .ref 69] M := by
      refine ev_puti fl_RX10_102 sh_69 (by decide) (by decide) rfl rfl rfl dX10_element_62 ?_
      refine ev_iload_n dX10_element_65 rfl ?_
      refine ev_if_eq (t := 83) dX10_element_66 (by decide) (fun hc20 => ?_) (fun hc20 => ?_)
      · replace h := ab_pos hc20 h
        refine ev_lconst (x := 0) dX10_element_83 (by decide) ?_
        cases h
        exact ev_lreturn rfl dX10_element_84
      · replace h := ab_neg hc20 h
        refine ev_aload_n dX10_element_69 rfl ?_
        refine ev_getr (o' := 94) fl_RX10_95 sh_69 (by decide) (by decide) rfl rfl dX10_element_70 ?_
        refine ev_bipush (x := 60) dX10_element_73 (by decide) ?_
        refine ev_iload_n dX10_element_75 rfl ?_
        refine ev_imul dX10_element_76 ?_
        refine ev_iload_n dX10_element_77 rfl ?_
        refine ev_iadd dX10_element_78 ?_
        obtain ⟨hb21, h⟩ := ab_chk_some h
        refine ev_laload sh_94 hb21 dX10_element_79 ?_
        refine ev_goto (t := 84) dX10_element_80 (by decide) ?_
        cases h
        exact ev_lreturn rfl dX10_element_84
    refine ev_if_ne (t := 53) dX10_element_46 (by decide) (fun hc18 => ?_) (fun hc18 => ?_)
    · replace hq16 := ab_neg hc18 hq16
      refine ev_iload_n dX10_element_53 rfl ?_
      refine ev_if_eq (t := 61) dX10_element_54 (by decide) (fun hc19 => ?_) (fun hc19 => ?_)
      · replace hq16 := ab_pos hc19 hq16
        refine ev_iconst (x := 2) dX10_element_61 (by decide) ?_
        cases hq16
        exact hJ17
      · replace hq16 := ab_neg hc19 hq16
        refine ev_iconst (x := 0) dX10_element_57 (by decide) ?_
        refine ev_goto (t := 62) dX10_element_58 (by decide) ?_
        cases hq16
        exact hJ17
    · replace hq16 := ab_pos hc18 hq16
      refine ev_iconst (x := 1) dX10_element_49 (by decide) ?_
      refine ev_goto (t := 62) dX10_element_50 (by decide) ?_
      cases hq16
      exact hJ17
  refine ev_if_eq (t := 39) dX10_element_4 (by decide) (fun hc6 => ?_) (fun hc6 => ?_)
  · replace hq4 := ab_pos hc6 hq4
    refine ev_iconst (x := 0) dX10_element_39 (by decide) ?_
    cases hq4
    exact hJ5
  · replace hq4 := ab_neg hc6 hq4
    refine ev_aload_n dX10_element_7 rfl ?_
    refine ev_getr (o' := 90) fl_RX10_83 sh_69 (by decide) (by decide) rfl rfl dX10_element_8 ?_
    refine ev_iload_n dX10_element_11 rfl ?_
    obtain ⟨hb7, hq4⟩ := ab_chk_some hq4
    refine ev_iaload sh_90 hb7 dX10_element_12 ?_
    refine ev_iconst (x := 2) dX10_element_13 (by decide) ?_
    refine ev_icmp_le (t := 39) dX10_element_14 (by decide) (fun hc8 => ?_) (fun hc8 => ?_)
    · replace hq4 := ab_pos hc8 hq4
      refine ev_iconst (x := 0) dX10_element_39 (by decide) ?_
      cases hq4
      exact hJ5
    · replace hq4 := ab_neg hc8 hq4
      refine ev_iload_n dX10_element_17 rfl ?_
      refine ev_i2l dX10_element_18 ?_
      refine ev_lconst (x := 0) dX10_element_19 (by decide) ?_
      refine ev_aload_n dX10_element_20 rfl ?_
      refine ev_getr (o' := 91) fl_RX10_86 sh_69 (by decide) (by decide) rfl rfl dX10_element_21 ?_
      refine ev_iload_n dX10_element_24 rfl ?_
      obtain ⟨hb9, hq4⟩ := ab_chk_some hq4
      refine ev_iaload sh_91 hb9 dX10_element_25 ?_
      refine ev_iconst (x := 1) dX10_element_26 (by decide) ?_
      refine ev_isub dX10_element_27 ?_
      refine ev_i2l dX10_element_28 ?_
      obtain ⟨q10, hv11, hq4⟩ := ab_bind hq4
      refine ev_callS (st := []) (co_X10_isIn M (Int32.toInt64 x2) 0 (Int32.toInt64 ((M.1 91 (x1).toNatClampNeg) - 1)) _ hv11) mv_X10_isIn ml_RX10_113 dX10_element_29 (by decide) rfl (Nat.le_of_ble_eq_true rfl) ⟨Nat.le_refl _, Nat.le_refl _⟩ ?_
      refine ev_if_eq (t := 39) dX10_element_32 (by decide) (fun hc12 => ?_) (fun hc12 => ?_)
      · replace hq4 := ab_pos hc12 hq4
        refine ev_iconst (x := 0) dX10_element_39 (by decide) ?_
        cases hq4
        exact hJ5
      · replace hq4 := ab_neg hc12 hq4
        refine ev_iconst (x := 1) dX10_element_35 (by decide) ?_
        refine ev_goto (t := 40) dX10_element_36 (by decide) ?_
        cases hq4
        exact hJ5

noncomputable def mi_X10_hasPlaces (M : ab_M) (x1 : Int32) (x2 : Int32) (x3 : Int32) : Option (Int32) :=
  if x3 < 0 then
    some 0
  else
    if x2 < 0 then
      some 0
    else
      ab_chk (vp_in x1 8) <|
      if (M.1 91 (x1).toNatClampNeg) < x2 then
        some 0
      else
        ab_chk (vp_in x1 8) <|
        if ((M.1 91 (x1).toNatClampNeg) - x2) < x3 then
          some 0
        else
          some 1

set_option maxHeartbeats 4000000 in
set_option maxRecDepth 100000 in
theorem co_X10_hasPlaces {l : Launch} {D : va_G} {ac : Nat → ClassId} (M : ab_M) (x1 : Int32) (x2 : Int32) (x3 : Int32) (z : Int32) (h : mi_X10_hasPlaces M x1 x2 x3 = some z) : ab_Con l D ac 1 me_X10_hasPlaces 0 0 [.ref 69, .int x1, .int x2, .int x3] ab_SH M (some (.int z), ab_SH, M) := by
  refine ab_intro (lv := [some (.ref 69), some (.int x1), some (.int x2), some (.int x3)]) (by decide) rfl (Nat.le_of_ble_eq_true rfl) rfl ?_
  unfold mi_X10_hasPlaces at h
  refine ev_iload_n dX10_hasPlaces_0 rfl ?_
  refine ev_if_lt (t := 34) dX10_hasPlaces_1 (by decide) (fun hc1 => ?_) (fun hc1 => ?_)
  · replace h := ab_pos hc1 h
    refine ev_iconst (x := 0) dX10_hasPlaces_34 (by decide) ?_
    cases h
    exact ev_zreturn rfl (Or.inl rfl) dX10_hasPlaces_35
  · replace h := ab_neg hc1 h
    refine ev_iload_n dX10_hasPlaces_4 rfl ?_
    refine ev_if_lt (t := 34) dX10_hasPlaces_5 (by decide) (fun hc2 => ?_) (fun hc2 => ?_)
    · replace h := ab_pos hc2 h
      refine ev_iconst (x := 0) dX10_hasPlaces_34 (by decide) ?_
      cases h
      exact ev_zreturn rfl (Or.inl rfl) dX10_hasPlaces_35
    · replace h := ab_neg hc2 h
      refine ev_iload_n dX10_hasPlaces_8 rfl ?_
      refine ev_aload_n dX10_hasPlaces_9 rfl ?_
      refine ev_getr (o' := 91) fl_RX10_86 sh_69 (by decide) (by decide) rfl rfl dX10_hasPlaces_10 ?_
      refine ev_iload_n dX10_hasPlaces_13 rfl ?_
      obtain ⟨hb3, h⟩ := ab_chk_some h
      refine ev_iaload sh_91 hb3 dX10_hasPlaces_14 ?_
      refine ev_icmp_gt (t := 34) dX10_hasPlaces_15 (by decide) (fun hc4 => ?_) (fun hc4 => ?_)
      · replace h := ab_pos hc4 h
        refine ev_iconst (x := 0) dX10_hasPlaces_34 (by decide) ?_
        cases h
        exact ev_zreturn rfl (Or.inl rfl) dX10_hasPlaces_35
      · replace h := ab_neg hc4 h
        refine ev_iload_n dX10_hasPlaces_18 rfl ?_
        refine ev_aload_n dX10_hasPlaces_19 rfl ?_
        refine ev_getr (o' := 91) fl_RX10_86 sh_69 (by decide) (by decide) rfl rfl dX10_hasPlaces_20 ?_
        refine ev_iload_n dX10_hasPlaces_23 rfl ?_
        obtain ⟨hb5, h⟩ := ab_chk_some h
        refine ev_iaload sh_91 hb5 dX10_hasPlaces_24 ?_
        refine ev_iload_n dX10_hasPlaces_25 rfl ?_
        refine ev_isub dX10_hasPlaces_26 ?_
        refine ev_icmp_gt (t := 34) dX10_hasPlaces_27 (by decide) (fun hc6 => ?_) (fun hc6 => ?_)
        · replace h := ab_pos hc6 h
          refine ev_iconst (x := 0) dX10_hasPlaces_34 (by decide) ?_
          cases h
          exact ev_zreturn rfl (Or.inl rfl) dX10_hasPlaces_35
        · replace h := ab_neg hc6 h
          refine ev_iconst (x := 1) dX10_hasPlaces_30 (by decide) ?_
          refine ev_goto (t := 35) dX10_hasPlaces_31 (by decide) ?_
          cases h
          exact ev_zreturn rfl (Or.inr rfl) dX10_hasPlaces_35

noncomputable def mi_X10_copy_99 : Nat → ab_M → Int32 → Int32 → Int32 → Int32 → Int32 → Int32 → Option (Int32 × ab_M)
  | 0, _, _, _, _, _, _, _ => none
  | n + 1, M, x1, x2, x3, x4, x5, x6 =>
    if x5 ≤ x6 then
      some (x6, M)
    else
      ab_chk (vp_in ((((60 : Int32) * x1) + x2) + x6) 480) <|
      ab_chk (vp_in x6 60) <|
      mi_X10_copy_99 n (ab_pl M 95 (x6).toNatClampNeg (M.2 94 ((((60 : Int32) * x1) + x2) + x6).toNatClampNeg)) x1 x2 x3 x4 x5 (x6 + 1)

set_option maxHeartbeats 4000000 in
set_option maxRecDepth 100000 in
theorem lp_X10_copy_99 {l : Launch} {D : va_G} {ac : Nat → ClassId} {n0 : Nat} {r : ab_Rs} : ∀ (n : Nat) (M : ab_M) (x1 : Int32) (x2 : Int32) (x3 : Int32) (x4 : Int32) (x5 : Int32) (x6 : Int32) (q : Int32 × ab_M) (h : mi_X10_copy_99 n M x1 x2 x3 x4 x5 x6 = some q) (kk : ab_Ev l D ac 2 me_X10_copy n0 0 0 r 0 0 ab_SH 133 [some (.ref 69), some (.int x1), some (.int x2), some (.int x3), some (.int x4), some (.int x5), some (.int q.1)] [] q.2), ab_Ev l D ac 2 me_X10_copy n0 0 0 r 0 0 ab_SH 99 [some (.ref 69), some (.int x1), some (.int x2), some (.int x3), some (.int x4), some (.int x5), some (.int x6)] [] M := by
  intro n
  induction n with
  | zero =>
    intro M x1 x2 x3 x4 x5 x6 q h kk
    cases h
  | succ n ih =>
    intro M x1 x2 x3 x4 x5 x6 q h kk
    unfold mi_X10_copy_99 at h
    refine ev_iload dX10_copy_99 rfl ?_
    refine ev_iload dX10_copy_101 rfl ?_
    refine ev_icmp_ge (t := 133) dX10_copy_103 (by decide) (fun hc22 => ?_) (fun hc22 => ?_)
    · replace h := ab_pos hc22 h
      cases h
      exact kk
    · replace h := ab_neg hc22 h
      refine ev_aload_n dX10_copy_106 rfl ?_
      refine ev_getr (o' := 95) fl_RX10_99 sh_69 (by decide) (by decide) rfl rfl dX10_copy_107 ?_
      refine ev_iload dX10_copy_110 rfl ?_
      refine ev_aload_n dX10_copy_112 rfl ?_
      refine ev_getr (o' := 94) fl_RX10_95 sh_69 (by decide) (by decide) rfl rfl dX10_copy_113 ?_
      refine ev_bipush (x := 60) dX10_copy_116 (by decide) ?_
      refine ev_iload_n dX10_copy_118 rfl ?_
      refine ev_imul dX10_copy_119 ?_
      refine ev_iload_n dX10_copy_120 rfl ?_
      refine ev_iadd dX10_copy_121 ?_
      refine ev_iload dX10_copy_122 rfl ?_
      refine ev_iadd dX10_copy_124 ?_
      obtain ⟨hb23, h⟩ := ab_chk_some h
      refine ev_laload sh_94 hb23 dX10_copy_125 ?_
      obtain ⟨hb24, h⟩ := ab_chk_some h
      refine ev_lastore sh_95 hb24 dX10_copy_126 ?_
      refine ev_iinc (y := x6 + 1) dX10_copy_127 rfl (by first | rfl | decide) rfl rfl ?_
      refine ev_goto (t := 99) dX10_copy_130 (by decide) ?_
      exact ih (ab_pl M 95 (x6).toNatClampNeg (M.2 94 ((((60 : Int32) * x1) + x2) + x6).toNatClampNeg)) x1 x2 x3 x4 x5 (x6 + 1) _ h kk

noncomputable def mi_X10_copy_136 : Nat → ab_M → Int32 → Int32 → Int32 → Int32 → Option (Int32 × ab_M)
  | 0, _, _, _, _, _ => none
  | n + 1, M, x3, x4, x5, x6 =>
    if x5 ≤ x6 then
      some (x6, M)
    else
      ab_chk (vp_in x6 60) <|
      ab_chk (vp_in ((((60 : Int32) * x3) + x4) + x6) 480) <|
      mi_X10_copy_136 n (ab_pl M 94 ((((60 : Int32) * x3) + x4) + x6).toNatClampNeg (M.2 95 (x6).toNatClampNeg)) x3 x4 x5 (x6 + 1)

set_option maxHeartbeats 4000000 in
set_option maxRecDepth 100000 in
theorem lp_X10_copy_136 {l : Launch} {D : va_G} {ac : Nat → ClassId} {n0 : Nat} {r : ab_Rs} : ∀ (n : Nat) (M : ab_M) (x3 : Int32) (x4 : Int32) (x5 : Int32) (x6 : Int32) (q : Int32 × ab_M) (h : mi_X10_copy_136 n M x3 x4 x5 x6 = some q) (kk : ab_Ev l D ac 2 me_X10_copy n0 0 0 r 0 0 ab_SH 171 [some (.ref 69), none, none, some (.int x3), some (.int x4), some (.int x5), some (.int q.1)] [] q.2), ab_Ev l D ac 2 me_X10_copy n0 0 0 r 0 0 ab_SH 136 [some (.ref 69), none, none, some (.int x3), some (.int x4), some (.int x5), some (.int x6)] [] M := by
  intro n
  induction n with
  | zero =>
    intro M x3 x4 x5 x6 q h kk
    cases h
  | succ n ih =>
    intro M x3 x4 x5 x6 q h kk
    unfold mi_X10_copy_136 at h
    refine ev_iload dX10_copy_136 rfl ?_
    refine ev_iload dX10_copy_138 rfl ?_
    refine ev_icmp_ge (t := 171) dX10_copy_140 (by decide) (fun hc27 => ?_) (fun hc27 => ?_)
    · replace h := ab_pos hc27 h
      cases h
      exact kk
    · replace h := ab_neg hc27 h
      refine ev_aload_n dX10_copy_143 rfl ?_
      refine ev_getr (o' := 94) fl_RX10_95 sh_69 (by decide) (by decide) rfl rfl dX10_copy_144 ?_
      refine ev_bipush (x := 60) dX10_copy_147 (by decide) ?_
      refine ev_iload_n dX10_copy_149 rfl ?_
      refine ev_imul dX10_copy_150 ?_
      refine ev_iload dX10_copy_151 rfl ?_
      refine ev_iadd dX10_copy_153 ?_
      refine ev_iload dX10_copy_154 rfl ?_
      refine ev_iadd dX10_copy_156 ?_
      refine ev_aload_n dX10_copy_157 rfl ?_
      refine ev_getr (o' := 95) fl_RX10_99 sh_69 (by decide) (by decide) rfl rfl dX10_copy_158 ?_
      refine ev_iload dX10_copy_161 rfl ?_
      obtain ⟨hb28, h⟩ := ab_chk_some h
      refine ev_laload sh_95 hb28 dX10_copy_163 ?_
      obtain ⟨hb29, h⟩ := ab_chk_some h
      refine ev_lastore sh_94 hb29 dX10_copy_164 ?_
      refine ev_iinc (y := x6 + 1) dX10_copy_165 rfl (by first | rfl | decide) rfl rfl ?_
      refine ev_goto (t := 136) dX10_copy_168 (by decide) ?_
      exact ih (ab_pl M 94 ((((60 : Int32) * x3) + x4) + x6).toNatClampNeg (M.2 95 (x6).toNatClampNeg)) x3 x4 x5 (x6 + 1) _ h kk

noncomputable def mi_X10_copy (M : ab_M) (x1 : Int32) (x2 : Int32) (x3 : Int32) (x4 : Int32) (x5 : Int32) : Option (Int32 × ab_M) :=
  (mi_X10_isShelf (ab_pi M 69 0 0) x1).bind fun q1 =>
  if q1 = 0 then
    some ((-1), (ab_pi M 69 0 0))
  else
    (mi_X10_isShelf (ab_pi M 69 0 0) x3).bind fun q4 =>
    if q4 = 0 then
      some ((-1), (ab_pi M 69 0 0))
    else
      ab_chk (vp_in x1 8) <|
      if ((ab_pi M 69 0 0).1 90 (x1).toNatClampNeg) = 0 then
        some ((-11), (ab_pi M 69 0 0))
      else
        ab_chk (vp_in x3 8) <|
        if ((ab_pi M 69 0 0).1 90 (x3).toNatClampNeg) = 0 then
          some ((-11), (ab_pi M 69 0 0))
        else
          ab_chk (vp_in x1 8) <|
          if ((ab_pi M 69 0 0).1 90 (x1).toNatClampNeg) < 3 then
            some ((-12), (ab_pi M 69 0 0))
          else
            ab_chk (vp_in x1 8) <|
            ab_chk (vp_in x3 8) <|
            if ((ab_pi M 69 0 0).1 90 (x1).toNatClampNeg) = ((ab_pi M 69 0 0).1 90 (x3).toNatClampNeg) then
              (mi_X10_hasPlaces (ab_pi M 69 0 0) x1 x2 x5).bind fun q16 =>
              if q16 = 0 then
                some ((-13), (ab_pi M 69 0 0))
              else
                (mi_X10_hasPlaces (ab_pi M 69 0 0) x3 x4 x5).bind fun q19 =>
                if q19 = 0 then
                  some ((-13), (ab_pi M 69 0 0))
                else
                  (mi_X10_copy_99 ab_F (ab_pi M 69 0 0) x1 x2 x3 x4 x5 0).bind fun q25 =>
                  (mi_X10_copy_136 ab_F q25.2 x3 x4 x5 0).bind fun q30 =>
                  some (x5, q30.2)
            else
              some ((-12), (ab_pi M 69 0 0))

set_option maxHeartbeats 4000000 in
set_option maxRecDepth 100000 in
theorem co_X10_copy {l : Launch} {D : va_G} {ac : Nat → ClassId} (M : ab_M) (x1 : Int32) (x2 : Int32) (x3 : Int32) (x4 : Int32) (x5 : Int32) (z : Int32 × ab_M) (h : mi_X10_copy M x1 x2 x3 x4 x5 = some z) : ab_Con l D ac 2 me_X10_copy 0 0 [.ref 69, .int x1, .int x2, .int x3, .int x4, .int x5] ab_SH M (some (.int z.1), ab_SH, z.2) := by
  refine ab_intro (lv := [some (.ref 69), some (.int x1), some (.int x2), some (.int x3), some (.int x4), some (.int x5), none]) (by decide) rfl (Nat.le_of_ble_eq_true rfl) rfl ?_
  unfold mi_X10_copy at h
  refine ev_aload_n dX10_copy_0 rfl ?_
  refine ev_iconst (x := 0) dX10_copy_1 (by decide) ?_
  refine ev_puti fl_RX10_102 sh_69 (by decide) (by decide) rfl rfl rfl dX10_copy_2 ?_
  refine ev_iload_n dX10_copy_5 rfl ?_
  obtain ⟨q1, hv2, h⟩ := ab_bind h
  refine ev_callS (st := []) (co_X10_isShelf (ab_pi M 69 0 0) x1 _ hv2) mv_X10_isShelf ml_RX10_266 dX10_copy_6 (by decide) rfl (Nat.le_of_ble_eq_true rfl) ⟨Nat.le_refl _, Nat.le_refl _⟩ ?_
  refine ev_if_eq (t := 19) dX10_copy_9 (by decide) (fun hc3 => ?_) (fun hc3 => ?_)
  · replace h := ab_pos hc3 h
    refine ev_iconst (x := (-1)) dX10_copy_19 (by decide) ?_
    cases h
    exact ev_ireturn rfl dX10_copy_20
  · replace h := ab_neg hc3 h
    refine ev_iload_n dX10_copy_12 rfl ?_
    obtain ⟨q4, hv5, h⟩ := ab_bind h
    refine ev_callS (st := []) (co_X10_isShelf (ab_pi M 69 0 0) x3 _ hv5) mv_X10_isShelf ml_RX10_266 dX10_copy_13 (by decide) rfl (Nat.le_of_ble_eq_true rfl) ⟨Nat.le_refl _, Nat.le_refl _⟩ ?_
    refine ev_if_ne (t := 21) dX10_copy_16 (by decide) (fun hc6 => ?_) (fun hc6 => ?_)
    · replace h := ab_neg hc6 h
      refine ev_aload_n dX10_copy_21 rfl ?_
      refine ev_getr (o' := 90) fl_RX10_83 sh_69 (by decide) (by decide) rfl rfl dX10_copy_22 ?_
      refine ev_iload_n dX10_copy_25 rfl ?_
      obtain ⟨hb7, h⟩ := ab_chk_some h
      refine ev_iaload sh_90 hb7 dX10_copy_26 ?_
      refine ev_if_eq (t := 39) dX10_copy_27 (by decide) (fun hc8 => ?_) (fun hc8 => ?_)
      · replace h := ab_pos hc8 h
        refine ev_bipush (x := (-11)) dX10_copy_39 (by decide) ?_
        cases h
        exact ev_ireturn rfl dX10_copy_41
      · replace h := ab_neg hc8 h
        refine ev_aload_n dX10_copy_30 rfl ?_
        refine ev_getr (o' := 90) fl_RX10_83 sh_69 (by decide) (by decide) rfl rfl dX10_copy_31 ?_
        refine ev_iload_n dX10_copy_34 rfl ?_
        obtain ⟨hb9, h⟩ := ab_chk_some h
        refine ev_iaload sh_90 hb9 dX10_copy_35 ?_
        refine ev_if_ne (t := 42) dX10_copy_36 (by decide) (fun hc10 => ?_) (fun hc10 => ?_)
        · replace h := ab_neg hc10 h
          refine ev_aload_n dX10_copy_42 rfl ?_
          refine ev_getr (o' := 90) fl_RX10_83 sh_69 (by decide) (by decide) rfl rfl dX10_copy_43 ?_
          refine ev_iload_n dX10_copy_46 rfl ?_
          obtain ⟨hb11, h⟩ := ab_chk_some h
          refine ev_iaload sh_90 hb11 dX10_copy_47 ?_
          refine ev_iconst (x := 3) dX10_copy_48 (by decide) ?_
          refine ev_icmp_lt (t := 67) dX10_copy_49 (by decide) (fun hc12 => ?_) (fun hc12 => ?_)
          · replace h := ab_pos hc12 h
            refine ev_bipush (x := (-12)) dX10_copy_67 (by decide) ?_
            cases h
            exact ev_ireturn rfl dX10_copy_69
          · replace h := ab_neg hc12 h
            refine ev_aload_n dX10_copy_52 rfl ?_
            refine ev_getr (o' := 90) fl_RX10_83 sh_69 (by decide) (by decide) rfl rfl dX10_copy_53 ?_
            refine ev_iload_n dX10_copy_56 rfl ?_
            obtain ⟨hb13, h⟩ := ab_chk_some h
            refine ev_iaload sh_90 hb13 dX10_copy_57 ?_
            refine ev_aload_n dX10_copy_58 rfl ?_
            refine ev_getr (o' := 90) fl_RX10_83 sh_69 (by decide) (by decide) rfl rfl dX10_copy_59 ?_
            refine ev_iload_n dX10_copy_62 rfl ?_
            obtain ⟨hb14, h⟩ := ab_chk_some h
            refine ev_iaload sh_90 hb14 dX10_copy_63 ?_
            refine ev_icmp_eq (t := 70) dX10_copy_64 (by decide) (fun hc15 => ?_) (fun hc15 => ?_)
            · replace h := ab_pos hc15 h
              refine ev_aload_n dX10_copy_70 rfl ?_
              refine ev_iload_n dX10_copy_71 rfl ?_
              refine ev_iload_n dX10_copy_72 rfl ?_
              refine ev_iload dX10_copy_73 rfl ?_
              obtain ⟨q16, hv17, h⟩ := ab_bind h
              refine ev_callV (st := []) (co_X10_hasPlaces (ab_pi M 69 0 0) x1 x2 x5 _ hv17) mv_X10_hasPlaces sh_69 ml_RX10_272 dX10_copy_75 (by decide) rfl (Nat.le_of_ble_eq_true rfl) ⟨Nat.le_refl _, Nat.le_refl _⟩ ?_
              refine ev_if_eq (t := 93) dX10_copy_78 (by decide) (fun hc18 => ?_) (fun hc18 => ?_)
              · replace h := ab_pos hc18 h
                refine ev_bipush (x := (-13)) dX10_copy_93 (by decide) ?_
                cases h
                exact ev_ireturn rfl dX10_copy_95
              · replace h := ab_neg hc18 h
                refine ev_aload_n dX10_copy_81 rfl ?_
                refine ev_iload_n dX10_copy_82 rfl ?_
                refine ev_iload dX10_copy_83 rfl ?_
                refine ev_iload dX10_copy_85 rfl ?_
                obtain ⟨q19, hv20, h⟩ := ab_bind h
                refine ev_callV (st := []) (co_X10_hasPlaces (ab_pi M 69 0 0) x3 x4 x5 _ hv20) mv_X10_hasPlaces sh_69 ml_RX10_272 dX10_copy_87 (by decide) rfl (Nat.le_of_ble_eq_true rfl) ⟨Nat.le_refl _, Nat.le_refl _⟩ ?_
                refine ev_if_ne (t := 96) dX10_copy_90 (by decide) (fun hc21 => ?_) (fun hc21 => ?_)
                · replace h := ab_neg hc21 h
                  refine ev_iconst (x := 0) dX10_copy_96 (by decide) ?_
                  refine ev_istore dX10_copy_97 (Nat.le_of_ble_eq_true rfl) rfl rfl ?_
                  obtain ⟨q25, hq26, h⟩ := ab_bind h
                  refine lp_X10_copy_99 _ (ab_pi M 69 0 0) x1 x2 x3 x4 x5 0 _ hq26 ?_
                  refine ev_iconst (x := 0) dX10_copy_133 (by decide) ?_
                  refine ev_istore dX10_copy_134 (Nat.le_of_ble_eq_true rfl) rfl rfl ?_
                  obtain ⟨q30, hq31, h⟩ := ab_bind h
                  refine ev_drop (lv' := [some (.ref 69), none, none, some (.int x3), some (.int x4), some (.int x5), some (.int 0)]) (ab_sub_k (ab_sub_d (ab_sub_d (ab_sub_k (ab_sub_k (ab_sub_k (ab_sub_k ab_sub_nil))))))) ?_
                  refine lp_X10_copy_136 _ q25.2 x3 x4 x5 0 _ hq31 ?_
                  refine ev_iload dX10_copy_171 rfl ?_
                  cases h
                  exact ev_ireturn rfl dX10_copy_173
                · replace h := ab_pos hc21 h
                  refine ev_bipush (x := (-13)) dX10_copy_93 (by decide) ?_
                  cases h
                  exact ev_ireturn rfl dX10_copy_95
            · replace h := ab_neg hc15 h
              refine ev_bipush (x := (-12)) dX10_copy_67 (by decide) ?_
              cases h
              exact ev_ireturn rfl dX10_copy_69
        · replace h := ab_pos hc10 h
          refine ev_bipush (x := (-11)) dX10_copy_39 (by decide) ?_
          cases h
          exact ev_ireturn rfl dX10_copy_41
    · replace h := ab_pos hc6 h
      refine ev_iconst (x := (-1)) dX10_copy_19 (by decide) ?_
      cases h
      exact ev_ireturn rfl dX10_copy_20

noncomputable def mi_X10_denied (M : ab_M) (x1 : Int32) : Option (Int32) :=
  (mi_X10_isShelf M x1).bind fun q1 =>
  if q1 = 0 then
    some (-1)
  else
    ab_chk (vp_in x1 8) <|
    if (M.1 90 (x1).toNatClampNeg) = 0 then
      some (-11)
    else
      ab_chk (vp_in x1 8) <|
      if (M.1 90 (x1).toNatClampNeg) ≤ 1 then
        some 0
      else
        some (-12)

set_option maxHeartbeats 4000000 in
set_option maxRecDepth 100000 in
theorem co_X10_denied {l : Launch} {D : va_G} {ac : Nat → ClassId} (M : ab_M) (x1 : Int32) (z : Int32) (h : mi_X10_denied M x1 = some z) : ab_Con l D ac 2 me_X10_denied 0 0 [.ref 69, .int x1] ab_SH M (some (.int z), ab_SH, M) := by
  refine ab_intro (lv := [some (.ref 69), some (.int x1)]) (by decide) rfl (Nat.le_of_ble_eq_true rfl) rfl ?_
  unfold mi_X10_denied at h
  refine ev_iload_n dX10_denied_0 rfl ?_
  obtain ⟨q1, hv2, h⟩ := ab_bind h
  refine ev_callS (st := []) (co_X10_isShelf M x1 _ hv2) mv_X10_isShelf ml_RX10_266 dX10_denied_1 (by decide) rfl (Nat.le_of_ble_eq_true rfl) ⟨Nat.le_refl _, Nat.le_refl _⟩ ?_
  refine ev_if_ne (t := 11) dX10_denied_4 (by decide) (fun hc3 => ?_) (fun hc3 => ?_)
  · replace h := ab_neg hc3 h
    refine ev_aload_n dX10_denied_11 rfl ?_
    refine ev_getr (o' := 90) fl_RX10_83 sh_69 (by decide) (by decide) rfl rfl dX10_denied_12 ?_
    refine ev_iload_n dX10_denied_15 rfl ?_
    obtain ⟨hb4, h⟩ := ab_chk_some h
    refine ev_iaload sh_90 hb4 dX10_denied_16 ?_
    refine ev_if_ne (t := 25) dX10_denied_17 (by decide) (fun hc5 => ?_) (fun hc5 => ?_)
    · replace h := ab_neg hc5 h
      refine ev_aload_n dX10_denied_25 rfl ?_
      refine ev_getr (o' := 90) fl_RX10_83 sh_69 (by decide) (by decide) rfl rfl dX10_denied_26 ?_
      refine ev_iload_n dX10_denied_29 rfl ?_
      obtain ⟨hb6, h⟩ := ab_chk_some h
      refine ev_iaload sh_90 hb6 dX10_denied_30 ?_
      refine ev_iconst (x := 1) dX10_denied_31 (by decide) ?_
      refine ev_icmp_le (t := 40) dX10_denied_32 (by decide) (fun hc7 => ?_) (fun hc7 => ?_)
      · replace h := ab_pos hc7 h
        refine ev_iconst (x := 0) dX10_denied_40 (by decide) ?_
        cases h
        exact ev_ireturn rfl dX10_denied_41
      · replace h := ab_neg hc7 h
        refine ev_bipush (x := (-12)) dX10_denied_35 (by decide) ?_
        refine ev_goto (t := 41) dX10_denied_37 (by decide) ?_
        cases h
        exact ev_ireturn rfl dX10_denied_41
    · replace h := ab_pos hc5 h
      refine ev_bipush (x := (-11)) dX10_denied_20 (by decide) ?_
      refine ev_goto (t := 41) dX10_denied_22 (by decide) ?_
      cases h
      exact ev_ireturn rfl dX10_denied_41
  · replace h := ab_pos hc3 h
    refine ev_iconst (x := (-1)) dX10_denied_7 (by decide) ?_
    refine ev_goto (t := 41) dX10_denied_8 (by decide) ?_
    cases h
    exact ev_ireturn rfl dX10_denied_41

noncomputable def mi_X10_weight (M : ab_M) (x1 : Int32) : Option (Int32 × ab_M) :=
  (mi_X10_denied (ab_pi M 69 0 0) x1).bind fun q1 =>
  if 0 ≤ q1 then
    ab_chk (vp_in x1 8) <|
    some ((ab_pi M 69 0 0).1 92 (x1).toNatClampNeg, (ab_pi M 69 0 0))
  else
    some (q1, (ab_pi M 69 0 0))

set_option maxHeartbeats 4000000 in
set_option maxRecDepth 100000 in
theorem co_X10_weight {l : Launch} {D : va_G} {ac : Nat → ClassId} (M : ab_M) (x1 : Int32) (z : Int32 × ab_M) (h : mi_X10_weight M x1 = some z) : ab_Con l D ac 3 me_X10_weight 0 0 [.ref 69, .int x1] ab_SH M (some (.int z.1), ab_SH, z.2) := by
  refine ab_intro (lv := [some (.ref 69), some (.int x1), none]) (by decide) rfl (Nat.le_of_ble_eq_true rfl) rfl ?_
  unfold mi_X10_weight at h
  refine ev_aload_n dX10_weight_0 rfl ?_
  refine ev_iconst (x := 0) dX10_weight_1 (by decide) ?_
  refine ev_puti fl_RX10_102 sh_69 (by decide) (by decide) rfl rfl rfl dX10_weight_2 ?_
  refine ev_aload_n dX10_weight_5 rfl ?_
  refine ev_iload_n dX10_weight_6 rfl ?_
  obtain ⟨q1, hv2, h⟩ := ab_bind h
  refine ev_callV (st := []) (co_X10_denied (ab_pi M 69 0 0) x1 _ hv2) mv_X10_denied sh_69 ml_RX10_275 dX10_weight_7 (by decide) rfl (Nat.le_of_ble_eq_true rfl) ⟨Nat.le_refl _, Nat.le_refl _⟩ ?_
  refine ev_istore_n dX10_weight_10 (Nat.le_of_ble_eq_true rfl) rfl rfl ?_
  refine ev_iload_n dX10_weight_11 rfl ?_
  refine ev_if_ge (t := 19) dX10_weight_12 (by decide) (fun hc3 => ?_) (fun hc3 => ?_)
  · replace h := ab_pos hc3 h
    refine ev_aload_n dX10_weight_19 rfl ?_
    refine ev_getr (o' := 92) fl_RX10_89 sh_69 (by decide) (by decide) rfl rfl dX10_weight_20 ?_
    refine ev_iload_n dX10_weight_23 rfl ?_
    obtain ⟨hb4, h⟩ := ab_chk_some h
    refine ev_iaload sh_92 hb4 dX10_weight_24 ?_
    cases h
    exact ev_ireturn rfl dX10_weight_25
  · replace h := ab_neg hc3 h
    refine ev_iload_n dX10_weight_15 rfl ?_
    refine ev_goto (t := 25) dX10_weight_16 (by decide) ?_
    cases h
    exact ev_ireturn rfl dX10_weight_25

noncomputable def mi_X10_toss (M : ab_M) (x1 : Int32) : Option (Int32 × ab_M) :=
  (mi_X10_denied (ab_pi M 69 0 0) x1).bind fun q1 =>
  if 0 ≤ q1 then
    ab_chk (vp_in x1 8) <|
    some ((ab_pi M 69 0 0).1 93 (x1).toNatClampNeg, (ab_pi M 69 0 0))
  else
    some (q1, (ab_pi M 69 0 0))

set_option maxHeartbeats 4000000 in
set_option maxRecDepth 100000 in
theorem co_X10_toss {l : Launch} {D : va_G} {ac : Nat → ClassId} (M : ab_M) (x1 : Int32) (z : Int32 × ab_M) (h : mi_X10_toss M x1 = some z) : ab_Con l D ac 3 me_X10_toss 0 0 [.ref 69, .int x1] ab_SH M (some (.int z.1), ab_SH, z.2) := by
  refine ab_intro (lv := [some (.ref 69), some (.int x1), none]) (by decide) rfl (Nat.le_of_ble_eq_true rfl) rfl ?_
  unfold mi_X10_toss at h
  refine ev_aload_n dX10_toss_0 rfl ?_
  refine ev_iconst (x := 0) dX10_toss_1 (by decide) ?_
  refine ev_puti fl_RX10_102 sh_69 (by decide) (by decide) rfl rfl rfl dX10_toss_2 ?_
  refine ev_aload_n dX10_toss_5 rfl ?_
  refine ev_iload_n dX10_toss_6 rfl ?_
  obtain ⟨q1, hv2, h⟩ := ab_bind h
  refine ev_callV (st := []) (co_X10_denied (ab_pi M 69 0 0) x1 _ hv2) mv_X10_denied sh_69 ml_RX10_275 dX10_toss_7 (by decide) rfl (Nat.le_of_ble_eq_true rfl) ⟨Nat.le_refl _, Nat.le_refl _⟩ ?_
  refine ev_istore_n dX10_toss_10 (Nat.le_of_ble_eq_true rfl) rfl rfl ?_
  refine ev_iload_n dX10_toss_11 rfl ?_
  refine ev_if_ge (t := 19) dX10_toss_12 (by decide) (fun hc3 => ?_) (fun hc3 => ?_)
  · replace h := ab_pos hc3 h
    refine ev_aload_n dX10_toss_19 rfl ?_
    refine ev_getr (o' := 93) fl_RX10_92 sh_69 (by decide) (by decide) rfl rfl dX10_toss_20 ?_
    refine ev_iload_n dX10_toss_23 rfl ?_
    obtain ⟨hb4, h⟩ := ab_chk_some h
    refine ev_iaload sh_93 hb4 dX10_toss_24 ?_
    cases h
    exact ev_ireturn rfl dX10_toss_25
  · replace h := ab_neg hc3 h
    refine ev_iload_n dX10_toss_15 rfl ?_
    refine ev_goto (t := 25) dX10_toss_16 (by decide) ?_
    cases h
    exact ev_ireturn rfl dX10_toss_25
