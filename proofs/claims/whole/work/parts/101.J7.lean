noncomputable def mi_J7_fill_d0a16_6 : Nat → ab_M → Nat → Int64 → Int32 → Int32 → Option (Int32 × ab_M)
  | 0, _, _, _, _, _ => none
  | n + 1, M, t0, x1, x3, x4 =>
    if x4 ≤ x3 then
      some (x3, M)
    else
      ab_chk (vp_in x3 60) <|
      mi_J7_fill_d0a16_6 n (ab_pl M t0 (x3).toNatClampNeg x1) t0 x1 (x3 + 1) x4

set_option maxHeartbeats 4000000 in
set_option maxRecDepth 100000 in
theorem lp_J7_fill_d0a16_6 {l : Launch} {D : va_G} {ac : Nat → ClassId} {n0 : Nat} {r : ab_Rs} : ∀ (n : Nat) (M : ab_M) (t0 : Nat) (ht0 : ab_isJ t0) (x1 : Int64) (x3 : Int32) (x4 : Int32) (q : Int32 × ab_M) (h : mi_J7_fill_d0a16_6 n M t0 x1 x3 x4 = some q) (kk : ab_Ev l D ac 1 me_J7_fill_d0a16 n0 0 0 r 0 0 ab_SH 22 [some (.ref t0), some (.long x1), none, some (.int q.1), some (.int x4)] [] q.2), ab_Ev l D ac 1 me_J7_fill_d0a16 n0 0 0 r 0 0 ab_SH 6 [some (.ref t0), some (.long x1), none, some (.int x3), some (.int x4)] [] M := by
  intro n
  induction n with
  | zero =>
    intro M t0 ht0 x1 x3 x4 q h kk
    cases h
  | succ n ih =>
    intro M t0 ht0 x1 x3 x4 q h kk
    unfold mi_J7_fill_d0a16_6 at h
    refine ev_iload_n dJ7_fill_d0a16_6 rfl ?_
    refine ev_iload dJ7_fill_d0a16_7 rfl ?_
    refine ev_icmp_ge (t := 22) dJ7_fill_d0a16_9 (by decide) (fun hc1 => ?_) (fun hc1 => ?_)
    · replace h := ab_pos hc1 h
      cases h
      exact kk
    · replace h := ab_neg hc1 h
      refine ev_aload_n dJ7_fill_d0a16_12 rfl ?_
      refine ev_iload_n dJ7_fill_d0a16_13 rfl ?_
      refine ev_lload_n dJ7_fill_d0a16_14 rfl ?_
      obtain ⟨hb2, h⟩ := ab_chk_some h
      refine ev_lastore ht0 hb2 dJ7_fill_d0a16_15 ?_
      refine ev_iinc (y := x3 + 1) dJ7_fill_d0a16_16 rfl (by first | rfl | decide) rfl rfl ?_
      refine ev_goto (t := 6) dJ7_fill_d0a16_19 (by decide) ?_
      exact ih (ab_pl M t0 (x3).toNatClampNeg x1) t0 ht0 x1 (x3 + 1) x4 _ h kk

noncomputable def mi_J7_fill_d0a16 (M : ab_M) (t0 : Nat) (x1 : Int64) : Option (ab_M) :=
  (mi_J7_fill_d0a16_6 ab_F M t0 x1 0 60).bind fun q3 =>
  some q3.2

set_option maxHeartbeats 4000000 in
set_option maxRecDepth 100000 in
theorem co_J7_fill_d0a16 {l : Launch} {D : va_G} {ac : Nat → ClassId} (M : ab_M) (t0 : Nat) (ht0 : ab_isJ t0) (x1 : Int64) (z : ab_M) (h : mi_J7_fill_d0a16 M t0 x1 = some z) : ab_Con l D ac 1 me_J7_fill_d0a16 0 0 [.ref t0, .long x1] ab_SH M (none, ab_SH, z) := by
  refine ab_intro (lv := [some (.ref t0), some (.long x1), none, none, none]) (by decide) rfl (Nat.le_of_ble_eq_true rfl) rfl ?_
  unfold mi_J7_fill_d0a16 at h
  refine ev_iconst (x := 0) dJ7_fill_d0a16_0 (by decide) ?_
  refine ev_istore_n dJ7_fill_d0a16_1 (Nat.le_of_ble_eq_true rfl) rfl rfl ?_
  refine ev_aload_n dJ7_fill_d0a16_2 rfl ?_
  refine ev_alen (x := 60) ht0 (by decide) (by decide) dJ7_fill_d0a16_3 ?_
  refine ev_istore dJ7_fill_d0a16_4 (Nat.le_of_ble_eq_true rfl) rfl rfl ?_
  obtain ⟨q3, hq4, h⟩ := ab_bind h
  refine lp_J7_fill_d0a16_6 _ M t0 ht0 x1 0 60 _ hq4 ?_
  cases h
  exact ev_return rfl dJ7_fill_d0a16_22

noncomputable def mi_J7_fill_031fb_5 : Nat → ab_M → Nat → Int32 → Int32 → Int32 → Option (Int32 × ab_M)
  | 0, _, _, _, _, _ => none
  | n + 1, M, t0, x1, x2, x3 =>
    if x3 ≤ x2 then
      some (x2, M)
    else
      ab_chk (vp_in x2 60) <|
      mi_J7_fill_031fb_5 n (ab_pi M t0 (x2).toNatClampNeg (ab_i2b x1)) t0 x1 (x2 + 1) x3

set_option maxHeartbeats 4000000 in
set_option maxRecDepth 100000 in
theorem lp_J7_fill_031fb_5 {l : Launch} {D : va_G} {ac : Nat → ClassId} {n0 : Nat} {r : ab_Rs} : ∀ (n : Nat) (M : ab_M) (t0 : Nat) (ht0 : ab_isB t0) (x1 : Int32) (x2 : Int32) (x3 : Int32) (q : Int32 × ab_M) (h : mi_J7_fill_031fb_5 n M t0 x1 x2 x3 = some q) (kk : ab_Ev l D ac 1 me_J7_fill_031fb n0 0 0 r 0 0 ab_SH 20 [some (.ref t0), some (.int x1), some (.int q.1), some (.int x3)] [] q.2), ab_Ev l D ac 1 me_J7_fill_031fb n0 0 0 r 0 0 ab_SH 5 [some (.ref t0), some (.int x1), some (.int x2), some (.int x3)] [] M := by
  intro n
  induction n with
  | zero =>
    intro M t0 ht0 x1 x2 x3 q h kk
    cases h
  | succ n ih =>
    intro M t0 ht0 x1 x2 x3 q h kk
    unfold mi_J7_fill_031fb_5 at h
    refine ev_iload_n dJ7_fill_031fb_5 rfl ?_
    refine ev_iload_n dJ7_fill_031fb_6 rfl ?_
    refine ev_icmp_ge (t := 20) dJ7_fill_031fb_7 (by decide) (fun hc1 => ?_) (fun hc1 => ?_)
    · replace h := ab_pos hc1 h
      cases h
      exact kk
    · replace h := ab_neg hc1 h
      refine ev_aload_n dJ7_fill_031fb_10 rfl ?_
      refine ev_iload_n dJ7_fill_031fb_11 rfl ?_
      refine ev_iload_n dJ7_fill_031fb_12 rfl ?_
      obtain ⟨hb2, h⟩ := ab_chk_some h
      refine ev_bastore ht0 hb2 dJ7_fill_031fb_13 ?_
      refine ev_iinc (y := x2 + 1) dJ7_fill_031fb_14 rfl (by first | rfl | decide) rfl rfl ?_
      refine ev_goto (t := 5) dJ7_fill_031fb_17 (by decide) ?_
      exact ih (ab_pi M t0 (x2).toNatClampNeg (ab_i2b x1)) t0 ht0 x1 (x2 + 1) x3 _ h kk

noncomputable def mi_J7_fill_031fb (M : ab_M) (t0 : Nat) (x1 : Int32) : Option (ab_M) :=
  (mi_J7_fill_031fb_5 ab_F M t0 x1 0 60).bind fun q3 =>
  some q3.2

set_option maxHeartbeats 4000000 in
set_option maxRecDepth 100000 in
theorem co_J7_fill_031fb {l : Launch} {D : va_G} {ac : Nat → ClassId} (M : ab_M) (t0 : Nat) (ht0 : ab_isB t0) (x1 : Int32) (z : ab_M) (h : mi_J7_fill_031fb M t0 x1 = some z) : ab_Con l D ac 1 me_J7_fill_031fb 0 0 [.ref t0, .int x1] ab_SH M (none, ab_SH, z) := by
  refine ab_intro (lv := [some (.ref t0), some (.int x1), none, none]) (by decide) rfl (Nat.le_of_ble_eq_true rfl) rfl ?_
  unfold mi_J7_fill_031fb at h
  refine ev_iconst (x := 0) dJ7_fill_031fb_0 (by decide) ?_
  refine ev_istore_n dJ7_fill_031fb_1 (Nat.le_of_ble_eq_true rfl) rfl rfl ?_
  refine ev_aload_n dJ7_fill_031fb_2 rfl ?_
  refine ev_alen (x := 60) ht0 (by decide) (by decide) dJ7_fill_031fb_3 ?_
  refine ev_istore_n dJ7_fill_031fb_4 (Nat.le_of_ble_eq_true rfl) rfl rfl ?_
  obtain ⟨q3, hq4, h⟩ := ab_bind h
  refine lp_J7_fill_031fb_5 _ M t0 ht0 x1 0 60 _ hq4 ?_
  cases h
  exact ev_return rfl dJ7_fill_031fb_20
