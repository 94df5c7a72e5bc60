noncomputable def mi_X4_goTo (M : ab_M) (t0 : Nat) (x1 : Int32) : Option (ab_M) :=
  some (ab_pi (ab_pi M t0 2 (x1 / 64)) t0 3 (ab_rem x1 64))

set_option maxHeartbeats 4000000 in
set_option maxRecDepth 100000 in
theorem co_X4_goTo {l : Launch} {D : va_G} {ac : Nat → ClassId} (M : ab_M) (t0 : Nat) (ht0 : ab_isMast t0) (x1 : Int32) (z : ab_M) (h : mi_X4_goTo M t0 x1 = some z) : ab_Con l D ac 1 me_X4_goTo 0 0 [.ref t0, .int x1] ab_SH M (none, ab_SH, z) := by
  refine ab_intro (lv := [some (.ref t0), some (.int x1)]) (by decide) rfl (Nat.le_of_ble_eq_true rfl) rfl ?_
  unfold mi_X4_goTo at h
  refine ev_aload_n dX4_goTo_0 rfl ?_
  refine ev_iload_n dX4_goTo_1 rfl ?_
  refine ev_bipush (x := 64) dX4_goTo_2 (by decide) ?_
  refine ev_idiv dX4_goTo_4 (by decide) ?_
  refine ev_puti fl_RX4_38 ht0 (by decide) (by decide) rfl rfl rfl dX4_goTo_5 ?_
  refine ev_aload_n dX4_goTo_8 rfl ?_
  refine ev_iload_n dX4_goTo_9 rfl ?_
  refine ev_bipush (x := 64) dX4_goTo_10 (by decide) ?_
  refine ev_irem dX4_goTo_12 (by decide) ?_
  refine ev_puti fl_RX4_41 ht0 (by decide) (by decide) rfl rfl rfl dX4_goTo_13 ?_
  cases h
  exact ev_return rfl dX4_goTo_16

noncomputable def mi_X4_begin (M : ab_M) (t0 : Nat) (x1 : Int32) (x2 : Int32) (x3 : Int32) (x4 : Int32) (x5 : Int32) (x6 : Int32) : Option (ab_M) :=
  (mi_X4_goTo (ab_pi (ab_pi M t0 0 x1) t0 1 x2) t0 x3).bind fun q1 =>
  some (ab_pi (ab_pi (ab_pi (ab_pi (ab_pi q1 t0 4 x4) t0 5 x5) t0 6 x6) t0 7 1073741823) t0 8 5)

set_option maxHeartbeats 4000000 in
set_option maxRecDepth 100000 in
theorem co_X4_begin {l : Launch} {D : va_G} {ac : Nat → ClassId} (M : ab_M) (t0 : Nat) (ht0 : ab_isMast t0) (x1 : Int32) (x2 : Int32) (x3 : Int32) (x4 : Int32) (x5 : Int32) (x6 : Int32) (z : ab_M) (h : mi_X4_begin M t0 x1 x2 x3 x4 x5 x6 = some z) : ab_Con l D ac 2 me_X4_begin 0 0 [.ref t0, .int x1, .int x2, .int x3, .int x4, .int x5, .int x6] ab_SH M (none, ab_SH, z) := by
  refine ab_intro (lv := [some (.ref t0), some (.int x1), some (.int x2), some (.int x3), some (.int x4), some (.int x5), some (.int x6)]) (by decide) rfl (Nat.le_of_ble_eq_true rfl) rfl ?_
  unfold mi_X4_begin at h
  refine ev_aload_n dX4_begin_0 rfl ?_
  refine ev_iload_n dX4_begin_1 rfl ?_
  refine ev_puti fl_RX4_9 ht0 (by decide) (by decide) rfl rfl rfl dX4_begin_2 ?_
  refine ev_aload_n dX4_begin_5 rfl ?_
  refine ev_iload_n dX4_begin_6 rfl ?_
  refine ev_puti fl_RX4_15 ht0 (by decide) (by decide) rfl rfl rfl dX4_begin_7 ?_
  refine ev_aload_n dX4_begin_10 rfl ?_
  refine ev_iload_n dX4_begin_11 rfl ?_
  obtain ⟨q1, hv2, h⟩ := ab_bind h
  refine ev_callV (st := []) (co_X4_goTo (ab_pi (ab_pi M t0 0 x1) t0 1 x2) t0 ht0 x3 _ hv2) mv_X4_goTo ht0 ml_RX4_18 dX4_begin_12 (by decide) rfl (Nat.le_of_ble_eq_true rfl) ⟨Nat.le_refl _, Nat.le_refl _⟩ ?_
  refine ev_aload_n dX4_begin_15 rfl ?_
  refine ev_iload dX4_begin_16 rfl ?_
  refine ev_puti fl_RX4_22 ht0 (by decide) (by decide) rfl rfl rfl dX4_begin_18 ?_
  refine ev_aload_n dX4_begin_21 rfl ?_
  refine ev_iload dX4_begin_22 rfl ?_
  refine ev_puti fl_RX4_25 ht0 (by decide) (by decide) rfl rfl rfl dX4_begin_24 ?_
  refine ev_aload_n dX4_begin_27 rfl ?_
  refine ev_iload dX4_begin_28 rfl ?_
  refine ev_puti fl_RX4_28 ht0 (by decide) (by decide) rfl rfl rfl dX4_begin_30 ?_
  refine ev_aload_n dX4_begin_33 rfl ?_
  refine ev_ldc kw_RX4_31 dX4_begin_34 ?_
  refine ev_puti fl_RX4_32 ht0 (by decide) (by decide) rfl rfl rfl dX4_begin_36 ?_
  refine ev_aload_n dX4_begin_39 rfl ?_
  refine ev_iconst (x := 5) dX4_begin_40 (by decide) ?_
  refine ev_puti fl_RX4_35 ht0 (by decide) (by decide) rfl rfl rfl dX4_begin_41 ?_
  cases h
  exact ev_return rfl dX4_begin_44

noncomputable def mi_X4_takeAll (M : ab_M) (t0 : Nat) (t1 : Nat) : Option (ab_M) :=
  some (ab_pi (ab_pi (ab_pi (ab_pi (ab_pi (ab_pi (ab_pi (ab_pi (ab_pi M t0 0 (M.1 t1 0)) t0 1 ((ab_pi M t0 0 (M.1 t1 0)).1 t1 1)) t0 2 ((ab_pi (ab_pi M t0 0 (M.1 t1 0)) t0 1 ((ab_pi M t0 0 (M.1 t1 0)).1 t1 1)).1 t1 2)) t0 3 ((ab_pi (ab_pi (ab_pi M t0 0 (M.1 t1 0)) t0 1 ((ab_pi M t0 0 (M.1 t1 0)).1 t1 1)) t0 2 ((ab_pi (ab_pi M t0 0 (M.1 t1 0)) t0 1 ((ab_pi M t0 0 (M.1 t1 0)).1 t1 1)).1 t1 2)).1 t1 3)) t0 4 ((ab_pi (ab_pi (ab_pi (ab_pi M t0 0 (M.1 t1 0)) t0 1 ((ab_pi M t0 0 (M.1 t1 0)).1 t1 1)) t0 2 ((ab_pi (ab_pi M t0 0 (M.1 t1 0)) t0 1 ((ab_pi M t0 0 (M.1 t1 0)).1 t1 1)).1 t1 2)) t0 3 ((ab_pi (ab_pi (ab_pi M t0 0 (M.1 t1 0)) t0 1 ((ab_pi M t0 0 (M.1 t1 0)).1 t1 1)) t0 2 ((ab_pi (ab_pi M t0 0 (M.1 t1 0)) t0 1 ((ab_pi M t0 0 (M.1 t1 0)).1 t1 1)).1 t1 2)).1 t1 3)).1 t1 4)) t0 5 ((ab_pi (ab_pi (ab_pi (ab_pi (ab_pi M t0 0 (M.1 t1 0)) t0 1 ((ab_pi M t0 0 (M.1 t1 0)).1 t1 1)) t0 2 ((ab_pi (ab_pi M t0 0 (M.1 t1 0)) t0 1 ((ab_pi M t0 0 (M.1 t1 0)).1 t1 1)).1 t1 2)) t0 3 ((ab_pi (ab_pi (ab_pi M t0 0 (M.1 t1 0)) t0 1 ((ab_pi M t0 0 (M.1 t1 0)).1 t1 1)) t0 2 ((ab_pi (ab_pi M t0 0 (M.1 t1 0)) t0 1 ((ab_pi M t0 0 (M.1 t1 0)).1 t1 1)).1 t1 2)).1 t1 3)) t0 4 ((ab_pi (ab_pi (ab_pi (ab_pi M t0 0 (M.1 t1 0)) t0 1 ((ab_pi M t0 0 (M.1 t1 0)).1 t1 1)) t0 2 ((ab_pi (ab_pi M t0 0 (M.1 t1 0)) t0 1 ((ab_pi M t0 0 (M.1 t1 0)).1 t1 1)).1 t1 2)) t0 3 ((ab_pi (ab_pi (ab_pi M t0 0 (M.1 t1 0)) t0 1 ((ab_pi M t0 0 (M.1 t1 0)).1 t1 1)) t0 2 ((ab_pi (ab_pi M t0 0 (M.1 t1 0)) t0 1 ((ab_pi M t0 0 (M.1 t1 0)).1 t1 1)).1 t1 2)).1 t1 3)).1 t1 4)).1 t1 5)) t0 6 ((ab_pi (ab_pi (ab_pi (ab_pi (ab_pi (ab_pi M t0 0 (M.1 t1 0)) t0 1 ((ab_pi M t0 0 (M.1 t1 0)).1 t1 1)) t0 2 ((ab_pi (ab_pi M t0 0 (M.1 t1 0)) t0 1 ((ab_pi M t0 0 (M.1 t1 0)).1 t1 1)).1 t1 2)) t0 3 ((ab_pi (ab_pi (ab_pi M t0 0 (M.1 t1 0)) t0 1 ((ab_pi M t0 0 (M.1 t1 0)).1 t1 1)) t0 2 ((ab_pi (ab_pi M t0 0 (M.1 t1 0)) t0 1 ((ab_pi M t0 0 (M.1 t1 0)).1 t1 1)).1 t1 2)).1 t1 3)) t0 4 ((ab_pi (ab_pi (ab_pi (ab_pi M t0 0 (M.1 t1 0)) t0 1 ((ab_pi M t0 0 (M.1 t1 0)).1 t1 1)) t0 2 ((ab_pi (ab_pi M t0 0 (M.1 t1 0)) t0 1 ((ab_pi M t0 0 (M.1 t1 0)).1 t1 1)).1 t1 2)) t0 3 ((ab_pi (ab_pi (ab_pi M t0 0 (M.1 t1 0)) t0 1 ((ab_pi M t0 0 (M.1 t1 0)).1 t1 1)) t0 2 ((ab_pi (ab_pi M t0 0 (M.1 t1 0)) t0 1 ((ab_pi M t0 0 (M.1 t1 0)).1 t1 1)).1 t1 2)).1 t1 3)).1 t1 4)) t0 5 ((ab_pi (ab_pi (ab_pi (ab_pi (ab_pi M t0 0 (M.1 t1 0)) t0 1 ((ab_pi M t0 0 (M.1 t1 0)).1 t1 1)) t0 2 ((ab_pi (ab_pi M t0 0 (M.1 t1 0)) t0 1 ((ab_pi M t0 0 (M.1 t1 0)).1 t1 1)).1 t1 2)) t0 3 ((ab_pi (ab_pi (ab_pi M t0 0 (M.1 t1 0)) t0 1 ((ab_pi M t0 0 (M.1 t1 0)).1 t1 1)) t0 2 ((ab_pi (ab_pi M t0 0 (M.1 t1 0)) t0 1 ((ab_pi M t0 0 (M.1 t1 0)).1 t1 1)).1 t1 2)).1 t1 3)) t0 4 ((ab_pi (ab_pi (ab_pi (ab_pi M t0 0 (M.1 t1 0)) t0 1 ((ab_pi M t0 0 (M.1 t1 0)).1 t1 1)) t0 2 ((ab_pi (ab_pi M t0 0 (M.1 t1 0)) t0 1 ((ab_pi M t0 0 (M.1 t1 0)).1 t1 1)).1 t1 2)) t0 3 ((ab_pi (ab_pi (ab_pi M t0 0 (M.1 t1 0)) t0 1 ((ab_pi M t0 0 (M.1 t1 0)).1 t1 1)) t0 2 ((ab_pi (ab_pi M t0 0 (M.1 t1 0)) t0 1 ((ab_pi M t0 0 (M.1 t1 0)).1 t1 1)).1 t1 2)).1 t1 3)).1 t1 4)).1 t1 5)).1 t1 6)) t0 7 ((ab_pi (ab_pi (ab_pi (ab_pi (ab_pi (ab_pi (ab_pi M t0 0 (M.1 t1 0)) t0 1 ((ab_pi M t0 0 (M.1 t1 0)).1 t1 1)) t0 2 ((ab_pi (ab_pi M t0 0 (M.1 t1 0)) t0 1 ((ab_pi M t0 0 (M.1 t1 0)).1 t1 1)).1 t1 2)) t0 3 ((ab_pi (ab_pi (ab_pi M t0 0 (M.1 t1 0)) t0 1 ((ab_pi M t0 0 (M.1 t1 0)).1 t1 1)) t0 2 ((ab_pi (ab_pi M t0 0 (M.1 t1 0)) t0 1 ((ab_pi M t0 0 (M.1 t1 0)).1 t1 1)).1 t1 2)).1 t1 3)) t0 4 ((ab_pi (ab_pi (ab_pi (ab_pi M t0 0 (M.1 t1 0)) t0 1 ((ab_pi M t0 0 (M.1 t1 0)).1 t1 1)) t0 2 ((ab_pi (ab_pi M t0 0 (M.1 t1 0)) t0 1 ((ab_pi M t0 0 (M.1 t1 0)).1 t1 1)).1 t1 2)) t0 3 ((ab_pi (ab_pi (ab_pi M t0 0 (M.1 t1 0)) t0 1 ((ab_pi M t0 0 (M.1 t1 0)).1 t1 1)) t0 2 ((ab_pi (ab_pi M t0 0 (M.1 t1 0)) t0 1 ((ab_pi M t0 0 (M.1 t1 0)).1 t1 1)).1 t1 2)).1 t1 3)).1 t1 4)) t0 5 ((ab_pi (ab_pi (ab_pi (ab_pi (ab_pi M t0 0 (M.1 t1 0)) t0 1 ((ab_pi M t0 0 (M.1 t1 0)).1 t1 1)) t0 2 ((ab_pi (ab_pi M t0 0 (M.1 t1 0)) t0 1 ((ab_pi M t0 0 (M.1 t1 0)).1 t1 1)).1 t1 2)) t0 3 ((ab_pi (ab_pi (ab_pi M t0 0 (M.1 t1 0)) t0 1 ((ab_pi M t0 0 (M.1 t1 0)).1 t1 1)) t0 2 ((ab_pi (ab_pi M t0 0 (M.1 t1 0)) t0 1 ((ab_pi M t0 0 (M.1 t1 0)).1 t1 1)).1 t1 2)).1 t1 3)) t0 4 ((ab_pi (ab_pi (ab_pi (ab_pi M t0 0 (M.1 t1 0)) t0 1 ((ab_pi M t0 0 (M.1 t1 0)).1 t1 1)) t0 2 ((ab_pi (ab_pi M t0 0 (M.1 t1 0)) t0 1 ((ab_pi M t0 0 (M.1 t1 0)).1 t1 1)).1 t1 2)) t0 3 ((ab_pi (ab_pi (ab_pi M t0 0 (M.1 t1 0)) t0 1 ((ab_pi M t0 0 (M.1 t1 0)).1 t1 1)) t0 2 ((ab_pi (ab_pi M t0 0 (M.1 t1 0)) t0 1 ((ab_pi M t0 0 (M.1 t1 0)).1 t1 1)).1 t1 2)).1 t1 3)).1 t1 4)).1 t1 5)) t0 6 ((ab_pi (ab_pi (ab_pi (ab_pi (ab_pi (ab_pi M t0 0 (M.1 t1 0)) t0 1 ((ab_pi M t0 0 (M.1 t1 0)).1 t1 1)) t0 2 ((ab_pi (ab_pi M t0 0 (M.1 t1 0)) t0 1 ((ab_pi M t0 0 (M.1 t1 0)).1 t1 1)).1 t1 2)) t0 3 ((ab_pi (ab_pi (ab_pi M t0 0 (M.1 t1 0)) t0 1 ((ab_pi M t0 0 (M.1 t1 0)).1 t1 1)) t0 2 ((ab_pi (ab_pi M t0 0 (M.1 t1 0)) t0 1 ((ab_pi M t0 0 (M.1 t1 0)).1 t1 1)).1 t1 2)).1 t1 3)) t0 4 ((ab_pi (ab_pi (ab_pi (ab_pi M t0 0 (M.1 t1 0)) t0 1 ((ab_pi M t0 0 (M.1 t1 0)).1 t1 1)) t0 2 ((ab_pi (ab_pi M t0 0 (M.1 t1 0)) t0 1 ((ab_pi M t0 0 (M.1 t1 0)).1 t1 1)).1 t1 2)) t0 3 ((ab_pi (ab_pi (ab_pi M t0 0 (M.1 t1 0)) t0 1 ((ab_pi M t0 0 (M.1 t1 0)).1 t1 1)) t0 2 ((ab_pi (ab_pi M t0 0 (M.1 t1 0)) t0 1 ((ab_pi M t0 0 (M.1 t1 0)).1 t1 1)).1 t1 2)).1 t1 3)).1 t1 4)) t0 5 ((ab_pi (ab_pi (ab_pi (ab_pi (ab_pi M t0 0 (M.1 t1 0)) t0 1 ((ab_pi M t0 0 (M.1 t1 0)).1 t1 1)) t0 2 ((ab_pi (ab_pi M t0 0 (M.1 t1 0)) t0 1 ((ab_pi M t0 0 (M.1 t1 0)).1 t1 1)).1 t1 2)) t0 3 ((ab_pi (ab_pi (ab_pi M t0 0 (M.1 t1 0)) t0 1 ((ab_pi M t0 0 (M.1 t1 0)).1 t1 1)) t0 2 ((ab_pi (ab_pi M t0 0 (M.1 t1 0)) t0 1 ((ab_pi M t0 0 (M.1 t1 0)).1 t1 1)).1 t1 2)).1 t1 3)) t0 4 ((ab_pi (ab_pi (ab_pi (ab_pi M t0 0 (M.1 t1 0)) t0 1 ((ab_pi M t0 0 (M.1 t1 0)).1 t1 1)) t0 2 ((ab_pi (ab_pi M t0 0 (M.1 t1 0)) t0 1 ((ab_pi M t0 0 (M.1 t1 0)).1 t1 1)).1 t1 2)) t0 3 ((ab_pi (ab_pi (ab_pi M t0 0 (M.1 t1 0)) t0 1 ((ab_pi M t0 0 (M.1 t1 0)).1 t1 1)) t0 2 ((ab_pi (ab_pi M t0 0 (M.1 t1 0)) t0 1 ((ab_pi M t0 0 (M.1 t1 0)).1 t1 1)).1 t1 2)).1 t1 3)).1 t1 4)).1 t1 5)).1 t1 6)).1 t1 7)) t0 8 ((ab_pi (ab_pi (ab_pi (ab_pi (ab_pi (ab_pi (ab_pi (ab_pi M t0 0 (M.1 t1 0)) t0 1 ((ab_pi M t0 0 (M.1 t1 0)).1 t1 1)) t0 2 ((ab_pi (ab_pi M t0 0 (M.1 t1 0)) t0 1 ((ab_pi M t0 0 (M.1 t1 0)).1 t1 1)).1 t1 2)) t0 3 ((ab_pi (ab_pi (ab_pi M t0 0 (M.1 t1 0)) t0 1 ((ab_pi M t0 0 (M.1 t1 0)).1 t1 1)) t0 2 ((ab_pi (ab_pi M t0 0 (M.1 t1 0)) t0 1 ((ab_pi M t0 0 (M.1 t1 0)).1 t1 1)).1 t1 2)).1 t1 3)) t0 4 ((ab_pi (ab_pi (ab_pi (ab_pi M t0 0 (M.1 t1 0)) t0 1 ((ab_pi M t0 0 (M.1 t1 0)).1 t1 1)) t0 2 ((ab_pi (ab_pi M t0 0 (M.1 t1 0)) t0 1 ((ab_pi M t0 0 (M.1 t1 0)).1 t1 1)).1 t1 2)) t0 3 ((ab_pi (ab_pi (ab_pi M t0 0 (M.1 t1 0)) t0 1 ((ab_pi M t0 0 (M.1 t1 0)).1 t1 1)) t0 2 ((ab_pi (ab_pi M t0 0 (M.1 t1 0)) t0 1 ((ab_pi M t0 0 (M.1 t1 0)).1 t1 1)).1 t1 2)).1 t1 3)).1 t1 4)) t0 5 ((ab_pi (ab_pi (ab_pi (ab_pi (ab_pi M t0 0 (M.1 t1 0)) t0 1 ((ab_pi M t0 0 (M.1 t1 0)).1 t1 1)) t0 2 ((ab_pi (ab_pi M t0 0 (M.1 t1 0)) t0 1 ((ab_pi M t0 0 (M.1 t1 0)).1 t1 1)).1 t1 2)) t0 3 ((ab_pi (ab_pi (ab_pi M t0 0 (M.1 t1 0)) t0 1 ((ab_pi M t0 0 (M.1 t1 0)).1 t1 1)) t0 2 ((ab_pi (ab_pi M t0 0 (M.1 t1 0)) t0 1 ((ab_pi M t0 0 (M.1 t1 0)).1 t1 1)).1 t1 2)).1 t1 3)) t0 4 ((ab_pi (ab_pi (ab_pi (ab_pi M t0 0 (M.1 t1 0)) t0 1 ((ab_pi M t0 0 (M.1 t1 0)).1 t1 1)) t0 2 ((ab_pi (ab_pi M t0 0 (M.1 t1 0)) t0 1 ((ab_pi M t0 0 (M.1 t1 0)).1 t1 1)).1 t1 2)) t0 3 ((ab_pi (ab_pi (ab_pi M t0 0 (M.1 t1 0)) t0 1 ((ab_pi M t0 0 (M.1 t1 0)).1 t1 1)) t0 2 ((ab_pi (ab_pi M t0 0 (M.1 t1 0)) t0 1 ((ab_pi M t0 0 (M.1 t1 0)).1 t1 1)).1 t1 2)).1 t1 3)).1 t1 4)).1 t1 5)) t0 6 ((ab_pi (ab_pi (ab_pi (ab_pi (ab_pi (ab_pi M t0 0 (M.1 t1 0)) t0 1 ((ab_pi M t0 0 (M.1 t1 0)).1 t1 1)) t0 2 ((ab_pi (ab_pi M t0 0 (M.1 t1 0)) t0 1 ((ab_pi M t0 0 (M.1 t1 0)).1 t1 1)).1 t1 2)) t0 3 ((ab_pi (ab_pi (ab_pi M t0 0 (M.1 t1 0)) t0 1 ((ab_pi M t0 0 (M.1 t1 0)).1 t1 1)) t0 2 ((ab_pi (ab_pi M t0 0 (M.1 t1 0)) t0 1 ((ab_pi M t0 0 (M.1 t1 0)).1 t1 1)).1 t1 2)).1 t1 3)) t0 4 ((ab_pi (ab_pi (ab_pi (ab_pi M t0 0 (M.1 t1 0)) t0 1 ((ab_pi M t0 0 (M.1 t1 0)).1 t1 1)) t0 2 ((ab_pi (ab_pi M t0 0 (M.1 t1 0)) t0 1 ((ab_pi M t0 0 (M.1 t1 0)).1 t1 1)).1 t1 2)) t0 3 ((ab_pi (ab_pi (ab_pi M t0 0 (M.1 t1 0)) t0 1 ((ab_pi M t0 0 (M.1 t1 0)).1 t1 1)) t0 2 ((ab_pi (ab_pi M t0 0 (M.1 t1 0)) t0 1 ((ab_pi M t0 0 (M.1 t1 0)).1 t1 1)).1 t1 2)).1 t1 3)).1 t1 4)) t0 5 ((ab_pi (ab_pi (ab_pi (ab_pi (ab_pi M t0 0 (M.1 t1 0)) t0 1 ((ab_pi M t0 0 (M.1 t1 0)).1 t1 1)) t0 2 ((ab_pi (ab_pi M t0 0 (M.1 t1 0)) t0 1 ((ab_pi M t0 0 (M.1 t1 0)).1 t1 1)).1 t1 2)) t0 3 ((ab_pi (ab_pi (ab_pi M t0 0 (M.1 t1 0)) t0 1 ((ab_pi M t0 0 (M.1 t1 0)).1 t1 1)) t0 2 ((ab_pi (ab_pi M t0 0 (M.1 t1 0)) t0 1 ((ab_pi M t0 0 (M.1 t1 0)).1 t1 1)).1 t1 2)).1 t1 3)) t0 4 ((ab_pi (ab_pi (ab_pi (ab_pi M t0 0 (M.1 t1 0)) t0 1 ((ab_pi M t0 0 (M.1 t1 0)).1 t1 1)) t0 2 ((ab_pi (ab_pi M t0 0 (M.1 t1 0)) t0 1 ((ab_pi M t0 0 (M.1 t1 0)).1 t1 1)).1 t1 2)) t0 3 ((ab_pi (ab_pi (ab_pi M t0 0 (M.1 t1 0)) t0 1 ((ab_pi M t0 0 (M.1 t1 0)).1 t1 1)) t0 2 ((ab_pi (ab_pi M t0 0 (M.1 t1 0)) t0 1 ((ab_pi M t0 0 (M.1 t1 0)).1 t1 1)).1 t1 2)).1 t1 3)).1 t1 4)).1 t1 5)).1 t1 6)) t0 7 ((ab_pi (ab_pi (ab_pi (ab_pi (ab_pi (ab_pi (ab_pi M t0 0 (M.1 t1 0)) t0 1 ((ab_pi M t0 0 (M.1 t1 0)).1 t1 1)) t0 2 ((ab_pi (ab_pi M t0 0 (M.1 t1 0)) t0 1 ((ab_pi M t0 0 (M.1 t1 0)).1 t1 1)).1 t1 2)) t0 3 ((ab_pi (ab_pi (ab_pi M t0 0 (M.1 t1 0)) t0 1 ((ab_pi M t0 0 (M.1 t1 0)).1 t1 1)) t0 2 ((ab_pi (ab_pi M t0 0 (M.1 t1 0)) t0 1 ((ab_pi M t0 0 (M.1 t1 0)).1 t1 1)).1 t1 2)).1 t1 3)) t0 4 ((ab_pi (ab_pi (ab_pi (ab_pi M t0 0 (M.1 t1 0)) t0 1 ((ab_pi M t0 0 (M.1 t1 0)).1 t1 1)) t0 2 ((ab_pi (ab_pi M t0 0 (M.1 t1 0)) t0 1 ((ab_pi M t0 0 (M.1 t1 0)).1 t1 1)).1 t1 2)) t0 3 ((ab_pi (ab_pi (ab_pi M t0 0 (M.1 t1 0)) t0 1 ((ab_pi M t0 0 (M.1 t1 0)).1 t1 1)) t0 2 ((ab_pi (ab_pi M t0 0 (M.1 t1 0)) t0 1 ((ab_pi M t0 0 (M.1 t1 0)).1 t1 1)).1 t1 2)).1 t1 3)).1 t1 4)) t0 5 ((ab_pi (ab_pi (ab_pi (ab_pi (ab_pi M t0 0 (M.1 t1 0)) t0 1 ((ab_pi M t0 0 (M.1 t1 0)).1 t1 1)) t0 2 ((ab_pi (ab_pi M t0 0 (M.1 t1 0)) t0 1 ((ab_pi M t0 0 (M.1 t1 0)).1 t1 1)).1 t1 2)) t0 3 ((ab_pi (ab_pi (ab_pi M t0 0 (M.1 t1 0)) t0 1 ((ab_pi M t0 0 (M.1 t1 0)).1 t1 1)) t0 2 ((ab_pi (ab_pi M t0 0 (M.1 t1 0)) t0 1 ((ab_pi M t0 0 (M.1 t1 0)).1 t1 1)).1 t1 2)).1 t1 3)) t0 4 ((ab_pi (ab_pi (ab_pi (ab_pi M t0 0 (M.1 t1 0)) t0 1 ((ab_pi M t0 0 (M.1 t1 0)).1 t1 1)) t0 2 ((ab_pi (ab_pi M t0 0 (M.1 t1 0)) t0 1 ((ab_pi M t0 0 (M.1 t1 0)).1 t1 1)).1 t1 2)) t0 3 ((ab_pi (ab_pi (ab_pi M t0 0 (M.1 t1 0)) t0 1 ((ab_pi M t0 0 (M.1 t1 0)).1 t1 1)) t0 2 ((ab_pi (ab_pi M t0 0 (M.1 t1 0)) t0 1 ((ab_pi M t0 0 (M.1 t1 0)).1 t1 1)).1 t1 2)).1 t1 3)).1 t1 4)).1 t1 5)) t0 6 ((ab_pi (ab_pi (ab_pi (ab_pi (ab_pi (ab_pi M t0 0 (M.1 t1 0)) t0 1 ((ab_pi M t0 0 (M.1 t1 0)).1 t1 1)) t0 2 ((ab_pi (ab_pi M t0 0 (M.1 t1 0)) t0 1 ((ab_pi M t0 0 (M.1 t1 0)).1 t1 1)).1 t1 2)) t0 3 ((ab_pi (ab_pi (ab_pi M t0 0 (M.1 t1 0)) t0 1 ((ab_pi M t0 0 (M.1 t1 0)).1 t1 1)) t0 2 ((ab_pi (ab_pi M t0 0 (M.1 t1 0)) t0 1 ((ab_pi M t0 0 (M.1 t1 0)).1 t1 1)).1 t1 2)).1 t1 3)) t0 4 ((ab_pi (ab_pi (ab_pi (ab_pi M t0 0 (M.1 t1 0)) t0 1 ((ab_pi M t0 0 (M.1 t1 0)).1 t1 1)) t0 2 ((ab_pi (ab_pi M t0 0 (M.1 t1 0)) t0 1 ((ab_pi M t0 0 (M.1 t1 0)).1 t1 1)).1 t1 2)) t0 3 ((ab_pi (ab_pi (ab_pi M t0 0 (M.1 t1 0)) t0 1 ((ab_pi M t0 0 (M.1 t1 0)).1 t1 1)) t0 2 ((ab_pi (ab_pi M t0 0 (M.1 t1 0)) t0 1 ((ab_pi M t0 0 (M.1 t1 0)).1 t1 1)).1 t1 2)).1 t1 3)).1 t1 4)) t0 5 ((ab_pi (ab_pi (ab_pi (ab_pi (ab_pi M t0 0 (M.1 t1 0)) t0 1 ((ab_pi M t0 0 (M.1 t1 0)).1 t1 1)) t0 2 ((ab_pi (ab_pi M t0 0 (M.1 t1 0)) t0 1 ((ab_pi M t0 0 (M.1 t1 0)).1 t1 1)).1 t1 2)) t0 3 ((ab_pi (ab_pi (ab_pi M t0 0 (M.1 t1 0)) t0 1 ((ab_pi M t0 0 (M.1 t1 0)).1 t1 1)) t0 2 ((ab_pi (ab_pi M t0 0 (M.1 t1 0)) t0 1 ((ab_pi M t0 0 (M.1 t1 0)).1 t1 1)).1 t1 2)).1 t1 3)) t0 4 ((ab_pi (ab_pi (ab_pi (ab_pi M t0 0 (M.1 t1 0)) t0 1 ((ab_pi M t0 0 (M.1 t1 0)).1 t1 1)) t0 2 ((ab_pi (ab_pi M t0 0 (M.1 t1 0)) t0 1 ((ab_pi M t0 0 (M.1 t1 0)).1 t1 1)).1 t1 2)) t0 3 ((ab_pi (ab_pi (ab_pi M t0 0 (M.1 t1 0)) t0 1 ((ab_pi M t0 0 (M.1 t1 0)).1 t1 1)) t0 2 ((ab_pi (ab_pi M t0 0 (M.1 t1 0)) t0 1 ((ab_pi M t0 0 (M.1 t1 0)).1 t1 1)).1 t1 2)).1 t1 3)).1 t1 4)).1 t1 5)).1 t1 6)).1 t1 7)).1 t1 8))

set_option maxHeartbeats 4000000 in
set_option maxRecDepth 100000 in
theorem co_X4_takeAll {l : Launch} {D : va_G} {ac : Nat → ClassId} (M : ab_M) (t0 : Nat) (ht0 : ab_isMast t0) (t1 : Nat) (ht1 : ab_isMast t1) (z : ab_M) (h : mi_X4_takeAll M t0 t1 = some z) : ab_Con l D ac 1 me_X4_takeAll 0 0 [.ref t0, .ref t1] ab_SH M (none, ab_SH, z) := by
  refine ab_intro (lv := [some (.ref t0), some (.ref t1)]) (by decide) rfl (Nat.le_of_ble_eq_true rfl) rfl ?_
  unfold mi_X4_takeAll at h
  refine ev_aload_n dX4_takeAll_0 rfl ?_
  refine ev_aload_n dX4_takeAll_1 rfl ?_
  refine ev_geti fl_RX4_9 ht1 (by decide) (by decide) rfl dX4_takeAll_2 ?_
  refine ev_puti fl_RX4_9 ht0 (by decide) (by decide) rfl rfl rfl dX4_takeAll_5 ?_
  refine ev_aload_n dX4_takeAll_8 rfl ?_
  refine ev_aload_n dX4_takeAll_9 rfl ?_
  refine ev_geti fl_RX4_15 ht1 (by decide) (by decide) rfl dX4_takeAll_10 ?_
  refine ev_puti fl_RX4_15 ht0 (by decide) (by decide) rfl rfl rfl dX4_takeAll_13 ?_
  refine ev_aload_n dX4_takeAll_16 rfl ?_
  refine ev_aload_n dX4_takeAll_17 rfl ?_
  refine ev_geti fl_RX4_38 ht1 (by decide) (by decide) rfl dX4_takeAll_18 ?_
  refine ev_puti fl_RX4_38 ht0 (by decide) (by decide) rfl rfl rfl dX4_takeAll_21 ?_
  refine ev_aload_n dX4_takeAll_24 rfl ?_
  refine ev_aload_n dX4_takeAll_25 rfl ?_
  refine ev_geti fl_RX4_41 ht1 (by decide) (by decide) rfl dX4_takeAll_26 ?_
  refine ev_puti fl_RX4_41 ht0 (by decide) (by decide) rfl rfl rfl dX4_takeAll_29 ?_
  refine ev_aload_n dX4_takeAll_32 rfl ?_
  refine ev_aload_n dX4_takeAll_33 rfl ?_
  refine ev_geti fl_RX4_22 ht1 (by decide) (by decide) rfl dX4_takeAll_34 ?_
  refine ev_puti fl_RX4_22 ht0 (by decide) (by decide) rfl rfl rfl dX4_takeAll_37 ?_
  refine ev_aload_n dX4_takeAll_40 rfl ?_
  refine ev_aload_n dX4_takeAll_41 rfl ?_
  refine ev_geti fl_RX4_25 ht1 (by decide) (by decide) rfl dX4_takeAll_42 ?_
  refine ev_puti fl_RX4_25 ht0 (by decide) (by decide) rfl rfl rfl dX4_takeAll_45 ?_
  refine ev_aload_n dX4_takeAll_48 rfl ?_
  refine ev_aload_n dX4_takeAll_49 rfl ?_
  refine ev_geti fl_RX4_28 ht1 (by decide) (by decide) rfl dX4_takeAll_50 ?_
  refine ev_puti fl_RX4_28 ht0 (by decide) (by decide) rfl rfl rfl dX4_takeAll_53 ?_
  refine ev_aload_n dX4_takeAll_56 rfl ?_
  refine ev_aload_n dX4_takeAll_57 rfl ?_
  refine ev_geti fl_RX4_32 ht1 (by decide) (by decide) rfl dX4_takeAll_58 ?_
  refine ev_puti fl_RX4_32 ht0 (by decide) (by decide) rfl rfl rfl dX4_takeAll_61 ?_
  refine ev_aload_n dX4_takeAll_64 rfl ?_
  refine ev_aload_n dX4_takeAll_65 rfl ?_
  refine ev_geti fl_RX4_35 ht1 (by decide) (by decide) rfl dX4_takeAll_66 ?_
  refine ev_puti fl_RX4_35 ht0 (by decide) (by decide) rfl rfl rfl dX4_takeAll_69 ?_
  cases h
  exact ev_return rfl dX4_takeAll_72

noncomputable def mi_X4_trait (M : ab_M) (t0 : Nat) (x1 : Int32) : Option (Int32) :=
  if x1 = 0 then
    some (M.1 t0 1)
  else
    if x1 = 1 then
      some (M.1 t0 2)
    else
      if x1 = 2 then
        some (M.1 t0 3)
      else
        if x1 = 3 then
          some (M.1 t0 4)
        else
          if x1 = 4 then
            some (M.1 t0 5)
          else
            if x1 = 5 then
              some (M.1 t0 6)
            else
              if x1 = 6 then
                (mi_J6_bitCount_0f7a4 M (M.1 t0 7)).bind fun q8 =>
                some q8
              else
                if x1 = 7 then
                  if (M.1 t0 1) = 1 then
                    some (M.1 t0 8)
                  else
                    some (-2)
                else
                  some (-1)

set_option maxHeartbeats 4000000 in
set_option maxRecDepth 100000 in
theorem co_X4_trait {l : Launch} {D : va_G} {ac : Nat → ClassId} (M : ab_M) (t0 : Nat) (ht0 : ab_isMast t0) (x1 : Int32) (z : Int32) (h : mi_X4_trait M t0 x1 = some z) : ab_Con l D ac 2 me_X4_trait 0 0 [.ref t0, .int x1] ab_SH M (some (.int z), ab_SH, M) := by
  refine ab_intro (lv := [some (.ref t0), some (.int x1)]) (by decide) rfl (Nat.le_of_ble_eq_true rfl) rfl ?_
  unfold mi_X4_trait at h
  refine ev_iload_n dX4_trait_0 rfl ?_
  by_cases hc1 : x1 = 0
  · replace h := ab_pos hc1 h
    have hx19 : (x1 : Int32).toInt = 0 := by rw [hc1]; decide
    refine ev_tableIn (t := 48) (off := 47) dX4_trait_1 (by rw [hx19]; decide) (by rw [hx19]; decide) (by rw [hx19]; rfl) (by decide) ?_
    refine ev_aload_n dX4_trait_48 rfl ?_
    refine ev_geti fl_RX4_15 ht0 (by decide) (by decide) rfl dX4_trait_49 ?_
    cases h
    exact ev_ireturn rfl dX4_trait_52
  · replace h := ab_neg hc1 h
    by_cases hc2 : x1 = 1
    · replace h := ab_pos hc2 h
      have hx18 : (x1 : Int32).toInt = 1 := by rw [hc2]; decide
      refine ev_tableIn (t := 53) (off := 52) dX4_trait_1 (by rw [hx18]; decide) (by rw [hx18]; decide) (by rw [hx18]; rfl) (by decide) ?_
      refine ev_aload_n dX4_trait_53 rfl ?_
      refine ev_geti fl_RX4_38 ht0 (by decide) (by decide) rfl dX4_trait_54 ?_
      cases h
      exact ev_ireturn rfl dX4_trait_57
    · replace h := ab_neg hc2 h
      by_cases hc3 : x1 = 2
      · replace h := ab_pos hc3 h
        have hx17 : (x1 : Int32).toInt = 2 := by rw [hc3]; decide
        refine ev_tableIn (t := 58) (off := 57) dX4_trait_1 (by rw [hx17]; decide) (by rw [hx17]; decide) (by rw [hx17]; rfl) (by decide) ?_
        refine ev_aload_n dX4_trait_58 rfl ?_
        refine ev_geti fl_RX4_41 ht0 (by decide) (by decide) rfl dX4_trait_59 ?_
        cases h
        exact ev_ireturn rfl dX4_trait_62
      · replace h := ab_neg hc3 h
        by_cases hc4 : x1 = 3
        · replace h := ab_pos hc4 h
          have hx16 : (x1 : Int32).toInt = 3 := by rw [hc4]; decide
          refine ev_tableIn (t := 63) (off := 62) dX4_trait_1 (by rw [hx16]; decide) (by rw [hx16]; decide) (by rw [hx16]; rfl) (by decide) ?_
          refine ev_aload_n dX4_trait_63 rfl ?_
          refine ev_geti fl_RX4_22 ht0 (by decide) (by decide) rfl dX4_trait_64 ?_
          cases h
          exact ev_ireturn rfl dX4_trait_67
        · replace h := ab_neg hc4 h
          by_cases hc5 : x1 = 4
          · replace h := ab_pos hc5 h
            have hx15 : (x1 : Int32).toInt = 4 := by rw [hc5]; decide
            refine ev_tableIn (t := 68) (off := 67) dX4_trait_1 (by rw [hx15]; decide) (by rw [hx15]; decide) (by rw [hx15]; rfl) (by decide) ?_
            refine ev_aload_n dX4_trait_68 rfl ?_
            refine ev_geti fl_RX4_25 ht0 (by decide) (by decide) rfl dX4_trait_69 ?_
            cases h
            exact ev_ireturn rfl dX4_trait_72
          · replace h := ab_neg hc5 h
            by_cases hc6 : x1 = 5
            · replace h := ab_pos hc6 h
              have hx14 : (x1 : Int32).toInt = 5 := by rw [hc6]; decide
              refine ev_tableIn (t := 73) (off := 72) dX4_trait_1 (by rw [hx14]; decide) (by rw [hx14]; decide) (by rw [hx14]; rfl) (by decide) ?_
              refine ev_aload_n dX4_trait_73 rfl ?_
              refine ev_geti fl_RX4_28 ht0 (by decide) (by decide) rfl dX4_trait_74 ?_
              cases h
              exact ev_ireturn rfl dX4_trait_77
            · replace h := ab_neg hc6 h
              by_cases hc7 : x1 = 6
              · replace h := ab_pos hc7 h
                have hx13 : (x1 : Int32).toInt = 6 := by rw [hc7]; decide
                refine ev_tableIn (t := 78) (off := 77) dX4_trait_1 (by rw [hx13]; decide) (by rw [hx13]; decide) (by rw [hx13]; rfl) (by decide) ?_
                refine ev_aload_n dX4_trait_78 rfl ?_
                refine ev_geti fl_RX4_32 ht0 (by decide) (by decide) rfl dX4_trait_79 ?_
                obtain ⟨q8, hv9, h⟩ := ab_bind h
                refine ev_callS (st := []) (co_J6_bitCount_0f7a4 M (M.1 t0 7) _ hv9) mv_J6_bitCount_0f7a4 ml_RX4_44 dX4_trait_82 (by decide) rfl (Nat.le_of_ble_eq_true rfl) ⟨Nat.le_refl _, Nat.le_refl _⟩ ?_
                cases h
                exact ev_ireturn rfl dX4_trait_85
              · replace h := ab_neg hc7 h
                by_cases hc10 : x1 = 7
                · replace h := ab_pos hc10 h
                  have hx12 : (x1 : Int32).toInt = 7 := by rw [hc10]; decide
                  refine ev_tableIn (t := 86) (off := 85) dX4_trait_1 (by rw [hx12]; decide) (by rw [hx12]; decide) (by rw [hx12]; rfl) (by decide) ?_
                  refine ev_aload_n dX4_trait_86 rfl ?_
                  refine ev_geti fl_RX4_15 ht0 (by decide) (by decide) rfl dX4_trait_87 ?_
                  refine ev_iconst (x := 1) dX4_trait_90 (by decide) ?_
                  refine ev_icmp_ne (t := 101) dX4_trait_91 (by decide) (fun hc11 => ?_) (fun hc11 => ?_)
                  · replace h := ab_neg hc11 h
                    refine ev_bipush (x := (-2)) dX4_trait_101 (by decide) ?_
                    cases h
                    exact ev_ireturn rfl dX4_trait_103
                  · replace h := ab_pos hc11 h
                    refine ev_aload_n dX4_trait_94 rfl ?_
                    refine ev_geti fl_RX4_35 ht0 (by decide) (by decide) rfl dX4_trait_95 ?_
                    refine ev_goto (t := 103) dX4_trait_98 (by decide) ?_
                    cases h
                    exact ev_ireturn rfl dX4_trait_103
                · replace h := ab_neg hc10 h
                  have ehc1 := lv_neT (a := 0) hc1 (by decide)
                  have ehc2 := lv_neT (a := 1) hc2 (by decide)
                  have ehc3 := lv_neT (a := 2) hc3 (by decide)
                  have ehc4 := lv_neT (a := 3) hc4 (by decide)
                  have ehc5 := lv_neT (a := 4) hc5 (by decide)
                  have ehc6 := lv_neT (a := 5) hc6 (by decide)
                  have ehc7 := lv_neT (a := 6) hc7 (by decide)
                  have ehc10 := lv_neT (a := 7) hc10 (by decide)
                  refine ev_tableOut (t := 104) dX4_trait_1 (by omega) (by decide) ?_
                  refine ev_iconst (x := (-1)) dX4_trait_104 (by decide) ?_
                  cases h
                  exact ev_ireturn rfl dX4_trait_105

noncomputable def mi_X4_heaviness (M : ab_M) (t0 : Nat) : Option (Int32) :=
  (some (((M.1 t0 0) + ((5 : Int32) * (M.1 t0 5))) + (M.1 t0 4)) : Option Int32).bind fun v1 =>
  if (M.1 t0 1) = 1 then
    some (v1 + (M.1 t0 8))
  else
    if (M.1 t0 1) = 2 then
      some (v1 + 100)
    else
      if (M.1 t0 1) = 3 then
        some ((2 : Int32) * v1)
      else
        some v1

set_option maxHeartbeats 4000000 in
set_option maxRecDepth 100000 in
theorem co_X4_heaviness {l : Launch} {D : va_G} {ac : Nat → ClassId} (M : ab_M) (t0 : Nat) (ht0 : ab_isMast t0) (z : Int32) (h : mi_X4_heaviness M t0 = some z) : ab_Con l D ac 1 me_X4_heaviness 0 0 [.ref t0] ab_SH M (some (.int z), ab_SH, M) := by
  refine ab_intro (lv := [some (.ref t0), none]) (by decide) rfl (Nat.le_of_ble_eq_true rfl) rfl ?_
  unfold mi_X4_heaviness at h
  refine ev_aload_n dX4_heaviness_0 rfl ?_
  refine ev_geti fl_RX4_9 ht0 (by decide) (by decide) rfl dX4_heaviness_1 ?_
  refine ev_iconst (x := 5) dX4_heaviness_4 (by decide) ?_
  refine ev_aload_n dX4_heaviness_5 rfl ?_
  refine ev_geti fl_RX4_25 ht0 (by decide) (by decide) rfl dX4_heaviness_6 ?_
  refine ev_imul dX4_heaviness_9 ?_
  refine ev_iadd dX4_heaviness_10 ?_
  refine ev_aload_n dX4_heaviness_11 rfl ?_
  refine ev_geti fl_RX4_22 ht0 (by decide) (by decide) rfl dX4_heaviness_12 ?_
  refine ev_iadd dX4_heaviness_15 ?_
  obtain ⟨v1, hq2, h⟩ := ab_bind h
  refine ev_nmi (Option.some.inj hq2) ?_
  refine ev_istore_n (x := v1) dX4_heaviness_16 (Nat.le_of_ble_eq_true rfl) rfl rfl ?_
  refine ev_aload_n dX4_heaviness_17 rfl ?_
  refine ev_geti fl_RX4_15 ht0 (by decide) (by decide) rfl dX4_heaviness_18 ?_
  by_cases hc3 : (M.1 t0 1) = 1
  · replace h := ab_pos hc3 h
    have hx8 : (M.1 t0 1 : Int32).toInt = 1 := by rw [hc3]; decide
    refine ev_tableIn (t := 48) (off := 27) dX4_heaviness_21 (by rw [hx8]; decide) (by rw [hx8]; decide) (by rw [hx8]; rfl) (by decide) ?_
    refine ev_iload_n dX4_heaviness_48 rfl ?_
    refine ev_aload_n dX4_heaviness_49 rfl ?_
    refine ev_geti fl_RX4_35 ht0 (by decide) (by decide) rfl dX4_heaviness_50 ?_
    refine ev_iadd dX4_heaviness_53 ?_
    cases h
    exact ev_ireturn rfl dX4_heaviness_54
  · replace h := ab_neg hc3 h
    by_cases hc4 : (M.1 t0 1) = 2
    · replace h := ab_pos hc4 h
      have hx7 : (M.1 t0 1 : Int32).toInt = 2 := by rw [hc4]; decide
      refine ev_tableIn (t := 55) (off := 34) dX4_heaviness_21 (by rw [hx7]; decide) (by rw [hx7]; decide) (by rw [hx7]; rfl) (by decide) ?_
      refine ev_iload_n dX4_heaviness_55 rfl ?_
      refine ev_bipush (x := 100) dX4_heaviness_56 (by decide) ?_
      refine ev_iadd dX4_heaviness_58 ?_
      cases h
      exact ev_ireturn rfl dX4_heaviness_59
    · replace h := ab_neg hc4 h
      by_cases hc5 : (M.1 t0 1) = 3
      · replace h := ab_pos hc5 h
        have hx6 : (M.1 t0 1 : Int32).toInt = 3 := by rw [hc5]; decide
        refine ev_tableIn (t := 60) (off := 39) dX4_heaviness_21 (by rw [hx6]; decide) (by rw [hx6]; decide) (by rw [hx6]; rfl) (by decide) ?_
        refine ev_iconst (x := 2) dX4_heaviness_60 (by decide) ?_
        refine ev_iload_n dX4_heaviness_61 rfl ?_
        refine ev_imul dX4_heaviness_62 ?_
        cases h
        exact ev_ireturn rfl dX4_heaviness_63
      · replace h := ab_neg hc5 h
        have ehc3 := lv_neT (a := 1) hc3 (by decide)
        have ehc4 := lv_neT (a := 2) hc4 (by decide)
        have ehc5 := lv_neT (a := 3) hc5 (by decide)
        refine ev_tableOut (t := 64) dX4_heaviness_21 (by omega) (by decide) ?_
        refine ev_iload_n dX4_heaviness_64 rfl ?_
        cases h
        exact ev_ireturn rfl dX4_heaviness_65
