/-! the four methods that throw or catch -/
section ABfour
variable {l : Launch} {D : va_G} {ac : Nat → ClassId}
noncomputable def o_fail (M : ab_M) (t : Nat) : ab_Ro := if M.1 t 1 = 1 then .inr E_S else if M.1 t 1 = 2 then .inr E_A else if M.1 t 1 = 3 then .inr E_U else .inl (none, ab_SH, M)
theorem co_X4_fail (hl : l.stackTraces = false) (M : ab_M) (t : Nat) (ht : ab_isMast t) : ab_Conx l D ac 6 me_X4_fail 1 6 [.ref t] ab_SH M (o_fail M t) := by
  refine ab_introx (lv := [some (.ref t)]) (by decide) rfl (Nat.le_of_ble_eq_true rfl) rfl ?_
  refine eg_aload_n dX4_fail_0 rfl ?_
  refine eg_geti fl_RX4_15 ht (by decide) (by decide) rfl dX4_fail_1 ?_
  unfold o_fail
  by_cases h1 : M.1 t 1 = 1
  · rw [if_pos h1, h1]
    refine eg_tableIn (t := 32) (off := 28) dX4_fail_4 (by decide) (by decide) rfl (by decide) ?_
    exact eg_throw hl tw_RX4_54 (fun A U H h => h.2.2.1.1) dX4_fail_32 dX4_fail_35 dX4_fail_36 dX4_fail_38 dX4_fail_41 (by decide) (Nat.le_of_ble_eq_true rfl)
  · rw [if_neg h1]
    by_cases h2 : M.1 t 1 = 2
    · rw [if_pos h2, h2]
      refine eg_tableIn (t := 42) (off := 38) dX4_fail_4 (by decide) (by decide) rfl (by decide) ?_
      exact eg_throw hl tw_RX4_61 (fun A U H h => h.2.2.1.2.1) dX4_fail_42 dX4_fail_45 dX4_fail_46 dX4_fail_48 dX4_fail_51 (by decide) (Nat.le_of_ble_eq_true rfl)
    · rw [if_neg h2]
      by_cases h3 : M.1 t 1 = 3
      · rw [if_pos h3, h3]
        refine eg_tableIn (t := 52) (off := 48) dX4_fail_4 (by decide) (by decide) rfl (by decide) ?_
        exact eg_throw hl tw_RX4_66 (fun A U H h => h.2.2.1.2.2.1) dX4_fail_52 dX4_fail_55 dX4_fail_56 dX4_fail_58 dX4_fail_61 (by decide) (Nat.le_of_ble_eq_true rfl)
      · rw [if_neg h3]
        refine eg_tableOut (t := 62) dX4_fail_4 ?_ (by decide) ?_
        · have a1 : (M.1 t 1).toInt ≠ 1 := fun z => h1 ((i_eq _ _).mpr z)
          have a2 : (M.1 t 1).toInt ≠ 2 := fun z => h2 ((i_eq _ _).mpr z)
          have a3 : (M.1 t 1).toInt ≠ 3 := fun z => h3 ((i_eq _ _).mpr z)
          omega
        · exact eg_return ⟨by decide, by decide⟩ rfl dX4_fail_62
/-- how element ends -/
noncomputable def o_elem (M : ab_M) (x y : Int32) : ab_Ro := if 0 ≤ x ∧ x ≤ 7 then (if (M.1 (35 + 4 * x.toNatClampNeg) 3 = 3 ∨ M.1 (35 + 4 * x.toNatClampNeg) 3 = 4) ∧ 0 ≤ y ∧ y < M.1 (35 + 4 * x.toNatClampNeg) 4 then .inl (some (.long (if M.1 (35 + 4 * x.toNatClampNeg) 3 = 3 then (M.1 (35 + 4 * x.toNatClampNeg + 2) y.toNatClampNeg).toInt64 else M.2 (35 + 4 * x.toNatClampNeg + 3) y.toNatClampNeg)), ab_SH, M) else .inr E_S) else .inr E_A
theorem co_X9_element (hl : l.stackTraces = false) (M : ab_M) (x y : Int32) (hlen : 0 ≤ x → x ≤ 7 → M.1 (35 + 4 * x.toNatClampNeg) 4 ≤ 60) : ab_Conx l D ac 6 me_X9_element 1 6 [.ref 0, .int x, .int y] ab_SH M (o_elem M x y) := by
  refine ab_introx (lv := [some (.ref 0), some (.int x), some (.int y)]) (by decide) rfl (Nat.le_of_ble_eq_true rfl) rfl ?_
  refine eg_iload_n dX9_element_0 rfl ?_
  refine eg_callS (st := []) (co_X9_isShelf M x _ (c_isShelf M x)) mv_X9_isShelf ml_RX9_264 dX9_element_1 ⟨by decide, by decide⟩ rfl (Nat.le_of_ble_eq_true rfl) ⟨by decide, by decide⟩ ?_
  unfold o_elem
  by_cases hx : 0 ≤ x ∧ x ≤ 7
  · rw [if_pos hx, if_pos hx]
    have hin : vp_in x 8 := by
      obtain ⟨d, hd, rfl⟩ := ix_le (n := 7) (by decide) hx
      exact vin (by omega)
    refine eg_if_ne (t := 18) dX9_element_4 (by decide) (fun _ => ?_) (fun h => absurd h (by decide))
    refine eg_aload_n dX9_element_18 rfl ?_
    refine eg_getr (o' := 34) fl_RX9_50 sh_0 (by decide) (by decide) rfl rfl dX9_element_19 ?_
    refine eg_iload_n dX9_element_22 rfl ?_
    refine eg_aaload sh_34 (Or.inr rfl) hin (rf_shelf hin) dX9_element_23 ?_
    have hrow : mi_X6_isRow M (35 + 4 * x.toNatClampNeg) = some (if M.1 (35 + 4 * x.toNatClampNeg) 3 = 3 ∨ M.1 (35 + 4 * x.toNatClampNeg) 3 = 4 then 1 else 0) := by
      unfold mi_X6_isRow
      by_cases h3 : M.1 (35 + 4 * x.toNatClampNeg) 3 = 3
      · rw [if_pos h3, if_pos (Or.inl h3)]
      · rw [if_neg h3]
        by_cases h4 : M.1 (35 + 4 * x.toNatClampNeg) 3 = 4
        · rw [if_pos h4, if_pos (Or.inr h4)]
        · rw [if_neg h4, if_neg (fun z => z.elim h3 h4)]
    refine eg_callV (st := []) (co_X6_isRow M (35 + 4 * x.toNatClampNeg) (sh_shelf hin) _ hrow) mv_X6_isRow (sh_shelf hin).1 ml_RX9_292 dX9_element_24 ⟨by decide, by decide⟩ rfl (Nat.le_of_ble_eq_true rfl) ⟨by decide, by decide⟩ ?_
    have thr : ab_Eg (Zx D ac ab_SH.length 1 6 ab_SH M (.inr E_S)) Yx l D ac (ab_rm 6 1 6) me_X9_element 0 0 ab_SH 47 [some (.ref 0), some (.int x), some (.int y)] [] M := eg_throwW hl tw_RX9_303 (fun A U H h => h.2.2.1.2.2.2.2) dX9_element_47 dX9_element_50 dX9_element_51 dX9_element_54 dX9_element_57 (by decide) (Nat.le_of_ble_eq_true rfl)
    by_cases hr : M.1 (35 + 4 * x.toNatClampNeg) 3 = 3 ∨ M.1 (35 + 4 * x.toNatClampNeg) 3 = 4
    · rw [if_pos hr]
      refine eg_if_eq (t := 47) dX9_element_27 (by decide) (fun h => absurd h (by decide)) (fun _ => ?_)
      refine eg_iload_n dX9_element_30 rfl ?_
      by_cases hy : y < 0
      · rw [if_neg (fun z => absurd z.2.1 (Int32.not_le.mpr hy))]
        exact eg_if_lt (t := 47) dX9_element_31 (by decide) (fun _ => thr) (fun h => absurd hy h)
      · refine eg_if_lt (t := 47) dX9_element_31 (by decide) (fun h => absurd h hy) (fun _ => ?_)
        refine eg_iload_n dX9_element_34 rfl ?_
        refine eg_aload_n dX9_element_35 rfl ?_
        refine eg_getr (o' := 34) fl_RX9_50 sh_0 (by decide) (by decide) rfl rfl dX9_element_36 ?_
        refine eg_iload_n dX9_element_39 rfl ?_
        refine eg_aaload sh_34 (Or.inr rfl) hin (rf_shelf hin) dX9_element_40 ?_
        refine eg_geti fl_RX9_296 (sh_shelf hin).1 (by decide) (by decide) rfl dX9_element_41 ?_
        by_cases hy2 : y < M.1 (35 + 4 * x.toNatClampNeg) 4
        · refine eg_icmp_lt (t := 58) dX9_element_44 (by decide) (fun _ => ?_) (fun h => absurd hy2 h)
          rw [if_pos ⟨hr, Int32.not_lt.mp hy, hy2⟩]
          have hyin : vp_in y 60 := by
            have a := (i_lt _ _).mp hy2
            have b := (i_le _ _).mp (hlen hx.1 hx.2)
            have c : (60 : Int32).toInt = 60 := rfl
            have e : (0 : Int) ≤ y.toInt := (i_le _ _).mp (Int32.not_lt.mp hy)
            obtain ⟨j, hj, rfl⟩ := ix_of (n := 60) (x := y) (by decide) ⟨Int32.not_lt.mp hy, (i_lt _ _).mpr (by rw [nI_toInt (by decide)]; omega)⟩
            exact vin hj
          have hat : mi_X6_at M (35 + 4 * x.toNatClampNeg) y = some (if M.1 (35 + 4 * x.toNatClampNeg) 3 = 3 then (M.1 (35 + 4 * x.toNatClampNeg + 2) y.toNatClampNeg).toInt64 else M.2 (35 + 4 * x.toNatClampNeg + 3) y.toNatClampNeg) := by
            unfold mi_X6_at
            rw [ab_chk_pos hyin, ab_chk_pos hyin]
            by_cases h3 : M.1 (35 + 4 * x.toNatClampNeg) 3 = 3
            · rw [if_pos h3, if_pos h3]
            · rw [if_neg h3, if_neg h3]
          refine eg_aload_n dX9_element_58 rfl ?_
          refine eg_getr (o' := 34) fl_RX9_50 sh_0 (by decide) (by decide) rfl rfl dX9_element_59 ?_
          refine eg_iload_n dX9_element_62 rfl ?_
          refine eg_aaload sh_34 (Or.inr rfl) hin (rf_shelf hin) dX9_element_63 ?_
          refine eg_iload_n dX9_element_64 rfl ?_
          refine eg_callV (st := []) (co_X6_at M (35 + 4 * x.toNatClampNeg) (sh_shelf hin) y _ hat) mv_X6_at (sh_shelf hin).1 ml_RX9_304 dX9_element_65 ⟨by decide, by decide⟩ rfl (Nat.le_of_ble_eq_true rfl) ⟨by decide, by decide⟩ ?_
          exact eg_lreturn ⟨by decide, by decide⟩ rfl dX9_element_68
        · rw [if_neg (fun z => hy2 z.2.2)]
          exact eg_icmp_lt (t := 58) dX9_element_44 (by decide) (fun h => absurd h hy2) (fun _ => thr)
    · rw [if_neg hr, if_neg (fun z => hr z.1)]
      exact eg_if_eq (t := 47) dX9_element_27 (by decide) (fun _ => thr) (fun h => absurd rfl h)
  · rw [if_neg hx, if_neg hx]
    refine eg_if_ne (t := 18) dX9_element_4 (by decide) (fun h => absurd rfl h) (fun _ => ?_)
    exact eg_throwW hl tw_RX9_289 (fun A U H h => h.2.2.1.2.2.2.1) dX9_element_7 dX9_element_10 dX9_element_11 dX9_element_14 dX9_element_17 (by decide) (Nat.le_of_ble_eq_true rfl)
/-- toss -/
noncomputable def r_toss (M : ab_M) (x : Int32) : Option Int32 := (mi_X9_refusalOfMast M x).bind fun v => if v < 0 then some v else ab_chk (vp_in x 8) <| some (if M.1 (35 + 4 * x.toNatClampNeg + 1) 1 = 1 ∨ M.1 (35 + 4 * x.toNatClampNeg + 1) 1 = 2 ∨ M.1 (35 + 4 * x.toNatClampNeg + 1) 1 = 3 then M.1 (35 + 4 * x.toNatClampNeg + 1) 0 else -15)
theorem co_X9_toss (hl : l.stackTraces = false) (M : ab_M) (x : Int32) (z : Int32) (h : r_toss M x = some z) : ab_Conw l D ac 7 me_X9_toss hh_X9_toss 1 6 [.ref 0, .int x] ab_SH M (.inl (some (.int z), ab_SH, M)) := by
  refine ab_introw (lv := [some (.ref 0), some (.int x), none, none, none]) (by decide) rfl (Nat.le_of_ble_eq_true rfl) rfl ?_
  unfold r_toss at h
  obtain ⟨v, hv, h⟩ := ab_bind h
  refine eg_aload_n dX9_toss_0 rfl ?_
  refine eg_iload_n dX9_toss_1 rfl ?_
  refine eg_callV (st := []) (co_X9_refusalOfMast M x _ hv) mv_X9_refusalOfMast sh_0 ml_RX9_319 dX9_toss_2 ⟨by decide, by decide⟩ rfl (Nat.le_of_ble_eq_true rfl) ⟨by decide, by decide⟩ ?_
  refine eg_istore_n dX9_toss_5 (Nat.le_of_ble_eq_true rfl) rfl rfl ?_
  refine eg_iload_n dX9_toss_6 rfl ?_
  by_cases h0 : v < 0
  · rw [if_pos h0] at h
    cases h
    refine eg_if_ge (t := 12) dX9_toss_7 (by decide) (fun q => absurd h0 (Int32.not_lt.mpr q)) (fun _ => ?_)
    refine eg_iload_n dX9_toss_10 rfl ?_
    exact eg_ireturn ⟨by decide, by decide⟩ rfl dX9_toss_11
  · rw [if_neg h0] at h
    obtain ⟨hin, h⟩ := ab_chk_some h
    cases h
    refine eg_if_ge (t := 12) dX9_toss_7 (by decide) (fun _ => ?_) (fun q => absurd (Int32.not_lt.mp h0) q)
    refine eg_aload_n dX9_toss_12 rfl ?_
    refine eg_getr (o' := 34) fl_RX9_50 sh_0 (by decide) (by decide) rfl rfl dX9_toss_13 ?_
    refine eg_iload_n dX9_toss_16 rfl ?_
    refine eg_aaload sh_34 (Or.inr rfl) hin (rf_shelf hin) dX9_toss_17 ?_
    refine eg_getr (o' := 35 + 4 * x.toNatClampNeg + 1) fl_RX9_322 (sh_shelf hin).1 (by decide) (by decide) rfl rfl dX9_toss_18 ?_
    refine eg_astore_n dX9_toss_21 (Nat.le_of_ble_eq_true rfl) rfl rfl ?_
    refine eg_aload_n dX9_toss_22 rfl ?_
    have hm := (sh_shelf hin).2.1
    refine eg_callXV (st := []) (co_X4_fail hl M (35 + 4 * x.toNatClampNeg + 1) hm) mv_X4_fail hm ml_RX9_329 dX9_toss_23 ⟨by decide, by decide⟩ rfl (Nat.le_of_ble_eq_true rfl) ⟨by decide, by decide⟩ (fun _ _ _ _ _ y => y.2) (fun r hr => ?_) (fun rv M' hr => ?_) (fun E hE => ?_)
    · unfold o_fail at hr
      by_cases h1 : M.1 (35 + 4 * x.toNatClampNeg + 1) 1 = 1
      · rw [if_pos h1] at hr; cases hr
      · rw [if_neg h1] at hr
        by_cases h2 : M.1 (35 + 4 * x.toNatClampNeg + 1) 1 = 2
        · rw [if_pos h2] at hr; cases hr
        · rw [if_neg h2] at hr
          by_cases h3 : M.1 (35 + 4 * x.toNatClampNeg + 1) 1 = 3
          · rw [if_pos h3] at hr; cases hr
          · rw [if_neg h3] at hr; cases hr; rfl
    · unfold o_fail at hr
      by_cases h1 : M.1 (35 + 4 * x.toNatClampNeg + 1) 1 = 1
      · rw [if_pos h1] at hr; cases hr
      · rw [if_neg h1] at hr
        by_cases h2 : M.1 (35 + 4 * x.toNatClampNeg + 1) 1 = 2
        · rw [if_pos h2] at hr; cases hr
        · rw [if_neg h2] at hr
          by_cases h3 : M.1 (35 + 4 * x.toNatClampNeg + 1) 1 = 3
          · rw [if_pos h3] at hr; cases hr
          · rw [if_neg h3] at hr
            cases hr
            rw [if_neg (fun q => q.elim h1 (fun q => q.elim h2 h3))]
            refine eg_goto (t := 50) dX9_toss_26 (by decide) ?_
            refine eg_bipush (x := -15) dX9_toss_50 (by decide) ?_
            exact eg_ireturn ⟨by decide, by decide⟩ rfl dX9_toss_52
    · unfold o_fail at hE
      by_cases h1 : M.1 (35 + 4 * x.toNatClampNeg + 1) 1 = 1
      · rw [if_pos h1] at hE
        cases hE
        rw [if_pos (Or.inl h1)]
        refine ex_catch [] ⟨22, 26, 29, 299⟩ _ rfl (fun z hz => by cases hz) rfl (by decide) kl_RX9_299 (by decide) dX9_toss_29 (Nat.le_of_ble_eq_true rfl) rfl rfl ?_
        refine eg_aload_n dX9_toss_31 rfl ?_
        refine eg_geti fl_RX9_332 hm (by decide) (by decide) rfl dX9_toss_32 ?_
        exact eg_ireturn ⟨by decide, by decide⟩ rfl dX9_toss_35
      · rw [if_neg h1] at hE
        by_cases h2 : M.1 (35 + 4 * x.toNatClampNeg + 1) 1 = 2
        · rw [if_pos h2] at hE
          cases hE
          rw [if_pos (Or.inr (Or.inl h2))]
          refine ex_catch [⟨22, 26, 29, 299⟩] ⟨22, 26, 36, 285⟩ _ rfl (fun z hz => ?_) rfl (by decide) kl_RX9_285 (by decide) dX9_toss_36 (Nat.le_of_ble_eq_true rfl) rfl rfl ?_
          · simp only [List.mem_cons, List.not_mem_nil, or_false] at hz
            subst hz
            exact ⟨by decide, E_S, kl_RX9_299, fun A U H h => h.2.1.1⟩
          · refine eg_aload_n dX9_toss_38 rfl ?_
            refine eg_geti fl_RX9_332 hm (by decide) (by decide) rfl dX9_toss_39 ?_
            exact eg_ireturn ⟨by decide, by decide⟩ rfl dX9_toss_42
        · rw [if_neg h2] at hE
          by_cases h3 : M.1 (35 + 4 * x.toNatClampNeg + 1) 1 = 3
          · rw [if_pos h3] at hE
            cases hE
            rw [if_pos (Or.inr (Or.inr h3))]
            refine ex_catch [⟨22, 26, 29, 299⟩, ⟨22, 26, 36, 285⟩] ⟨22, 26, 43, 335⟩ _ rfl (fun z hz => ?_) rfl (by decide) kl_RX9_335 (by decide) dX9_toss_43 (Nat.le_of_ble_eq_true rfl) rfl rfl ?_
            · simp only [List.mem_cons, List.not_mem_nil, or_false] at hz
              rcases hz with rfl | rfl
              · exact ⟨by decide, E_S, kl_RX9_299, fun A U H h => h.2.1.2.1⟩
              · exact ⟨by decide, E_A, kl_RX9_285, fun A U H h => h.2.1.2.2.1⟩
            · refine eg_aload_n dX9_toss_45 rfl ?_
              refine eg_geti fl_RX9_332 hm (by decide) (by decide) rfl dX9_toss_46 ?_
              exact eg_ireturn ⟨by decide, by decide⟩ rfl dX9_toss_49
          · rw [if_neg h3] at hE
            cases hE
end ABfour
