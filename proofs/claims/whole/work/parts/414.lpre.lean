/-! the law's beginning -/
section ABlpre
variable {b L : Nat} {xs : Nat → Int32} {l : Launch} {D : va_G} {ac : Nat → ClassId}
theorem law_pre (kk : EL b L xs l D ac 97 3181 ab_SH 23 [some (.ref 97), some (.ref 0), some (.ref 69), some (.ref 96), some (.int 0), none, none, none] [] cm_19) : EL b L xs l D ac 0 0 [] 0 [some (.ref 97), none, none, none, none, none, none, none] [] cm_0 := by
  refine el_new (sh1 := cs_0) nc_RL_8 rfl (ab_z0 0) rfl (by decide) (by decide) (by decide) (by decide) (by decide) dL_law_0 ?_
  refine eg_dup dL_law_3 rfl ?_
  refine el_callI (o := 0) (as := []) (st := [.ref 0]) (sh1 := cs_142) ci_1 mi_X9_init_i ml_RL_17 dL_law_4 (by decide) rfl (by decide) (by decide) cc_142 (by decide +kernel) (by decide +kernel) (by decide +kernel) (by decide +kernel) ?_
  refine eg_astore_n (lv' := [some (.ref 97), some (.ref 0), none, none, none, none, none, none]) dL_law_7 (by decide) rfl rfl ?_
  refine el_new (sh1 := cs_143) nc_RL_18 cc_142 (ab_z_up cz_15 (by decide +kernel)) rfl (by decide +kernel) (by decide +kernel) (by decide +kernel) (by decide) (by decide) dL_law_8 ?_
  refine eg_dup dL_law_11 rfl ?_
  refine el_callI (o := 69) (as := []) (st := [.ref 69]) (sh1 := cs_195) ci_37 mi_X10_init_i ml_RL_20 dL_law_12 (by decide) rfl (by decide) (by decide) cc_195 (by decide +kernel) (by decide +kernel) (by decide +kernel) (by decide +kernel) ?_
  refine eg_astore_n (lv' := [some (.ref 97), some (.ref 0), some (.ref 69), none, none, none, none, none]) dL_law_15 (by decide) rfl rfl ?_
  refine eg_iconst (x := 1) dL_law_16 (by decide) ?_
  refine el_newal (sh1 := ab_SH) (N := 1) (by decide) (by decide) (by decide) cc_195 (ab_z_up cz_19 (by decide +kernel)) rfl (by decide +kernel) (by decide +kernel) (by decide +kernel) (by decide) (by decide) dL_law_17 ?_
  refine eg_astore_n (x := 96) (lv' := [some (.ref 97), some (.ref 0), some (.ref 69), some (.ref 96), none, none, none, none]) dL_law_19 (by decide) rfl rfl ?_
  refine eg_iconst (x := 0) dL_law_20 (by decide) ?_
  refine eg_istore (lv' := [some (.ref 97), some (.ref 0), some (.ref 69), some (.ref 96), some (.int 0), none, none, none]) dL_law_21 (by decide) rfl rfl ?_
  exact kk
end ABlpre
