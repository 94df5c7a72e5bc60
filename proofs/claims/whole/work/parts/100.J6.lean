noncomputable def mi_J6_bitCount_0f7a4 (M : ab_M) (x0 : Int32) : Option (Int32) :=
  (some (((x0 - ((ab_ushr x0 1) &&& 1431655765)) &&& 858993459) + ((ab_ushr (x0 - ((ab_ushr x0 1) &&& 1431655765)) 2) &&& 858993459)) : Option Int32).bind fun v1 =>
  (some (((v1 + (ab_ushr v1 4)) &&& 252645135) + (ab_ushr ((v1 + (ab_ushr v1 4)) &&& 252645135) 8)) : Option Int32).bind fun v3 =>
  some ((v3 + (ab_ushr v3 16)) &&& 63)

set_option maxHeartbeats 4000000 in
set_option maxRecDepth 100000 in
theorem co_J6_bitCount_0f7a4 {l : Launch} {D : va_G} {ac : Nat → ClassId} (M : ab_M) (x0 : Int32) (z : Int32) (h : mi_J6_bitCount_0f7a4 M x0 = some z) : ab_Con l D ac 1 me_J6_bitCount_0f7a4 0 0 [.int x0] ab_SH M (some (.int z), ab_SH, M) := by
  refine ab_intro (lv := [some (.int x0)]) (by decide) rfl (Nat.le_of_ble_eq_true rfl) rfl ?_
  unfold mi_J6_bitCount_0f7a4 at h
  refine ev_iload_n dJ6_bitCount_0f7a4_0 rfl ?_
  refine ev_iload_n dJ6_bitCount_0f7a4_1 rfl ?_
  refine ev_iconst (x := 1) dJ6_bitCount_0f7a4_2 (by decide) ?_
  refine ev_iushr dJ6_bitCount_0f7a4_3 ?_
  refine ev_ldcw kw_RJ6_265 dJ6_bitCount_0f7a4_4 ?_
  refine ev_iand dJ6_bitCount_0f7a4_7 ?_
  refine ev_isub dJ6_bitCount_0f7a4_8 ?_
  refine ev_istore_n dJ6_bitCount_0f7a4_9 (Nat.le_of_ble_eq_true rfl) rfl rfl ?_
  refine ev_iload_n dJ6_bitCount_0f7a4_10 rfl ?_
  refine ev_ldcw kw_RJ6_266 dJ6_bitCount_0f7a4_11 ?_
  refine ev_iand dJ6_bitCount_0f7a4_14 ?_
  refine ev_iload_n dJ6_bitCount_0f7a4_15 rfl ?_
  refine ev_iconst (x := 2) dJ6_bitCount_0f7a4_16 (by decide) ?_
  refine ev_iushr dJ6_bitCount_0f7a4_17 ?_
  refine ev_ldcw kw_RJ6_266 dJ6_bitCount_0f7a4_18 ?_
  refine ev_iand dJ6_bitCount_0f7a4_21 ?_
  refine ev_iadd dJ6_bitCount_0f7a4_22 ?_
  obtain ⟨v1, hq2, h⟩ := ab_bind h
  refine ev_nmi (Option.some.inj hq2) ?_
  refine ev_istore_n (x := v1) dJ6_bitCount_0f7a4_23 (Nat.le_of_ble_eq_true rfl) rfl rfl ?_
  refine ev_iload_n dJ6_bitCount_0f7a4_24 rfl ?_
  refine ev_iload_n dJ6_bitCount_0f7a4_25 rfl ?_
  refine ev_iconst (x := 4) dJ6_bitCount_0f7a4_26 (by decide) ?_
  refine ev_iushr dJ6_bitCount_0f7a4_27 ?_
  refine ev_iadd dJ6_bitCount_0f7a4_28 ?_
  refine ev_ldcw kw_RJ6_267 dJ6_bitCount_0f7a4_29 ?_
  refine ev_iand dJ6_bitCount_0f7a4_32 ?_
  refine ev_istore_n dJ6_bitCount_0f7a4_33 (Nat.le_of_ble_eq_true rfl) rfl rfl ?_
  refine ev_iload_n dJ6_bitCount_0f7a4_34 rfl ?_
  refine ev_iload_n dJ6_bitCount_0f7a4_35 rfl ?_
  refine ev_bipush (x := 8) dJ6_bitCount_0f7a4_36 (by decide) ?_
  refine ev_iushr dJ6_bitCount_0f7a4_38 ?_
  refine ev_iadd dJ6_bitCount_0f7a4_39 ?_
  obtain ⟨v3, hq4, h⟩ := ab_bind h
  refine ev_nmi (Option.some.inj hq4) ?_
  refine ev_istore_n (x := v3) dJ6_bitCount_0f7a4_40 (Nat.le_of_ble_eq_true rfl) rfl rfl ?_
  refine ev_iload_n dJ6_bitCount_0f7a4_41 rfl ?_
  refine ev_iload_n dJ6_bitCount_0f7a4_42 rfl ?_
  refine ev_bipush (x := 16) dJ6_bitCount_0f7a4_43 (by decide) ?_
  refine ev_iushr dJ6_bitCount_0f7a4_45 ?_
  refine ev_iadd dJ6_bitCount_0f7a4_46 ?_
  refine ev_istore_n dJ6_bitCount_0f7a4_47 (Nat.le_of_ble_eq_true rfl) rfl rfl ?_
  refine ev_iload_n dJ6_bitCount_0f7a4_48 rfl ?_
  refine ev_bipush (x := 63) dJ6_bitCount_0f7a4_49 (by decide) ?_
  refine ev_iand dJ6_bitCount_0f7a4_51 ?_
  cases h
  exact ev_ireturn rfl dJ6_bitCount_0f7a4_52
