/-! the law: element, toss, the loop -/
section ABlloop
variable {b L : Nat} {xs : Nat → Int32} {l : Launch} {D : va_G} {ac : Nat → ClassId} {k n : Nat} {M : ab_M} {i : Nat}
theorem dp_toss : (parseMethodDescriptor me_X9_toss.1.desc).map (fun d => d.parameters.length) = some 1 := by decide +kernel
theorem dp_lel : (parseMethodDescriptor me_L_element.1.desc).map (fun d => d.parameters.length) = some 4 := by decide +kernel
theorem Yl_X : ∀ args s c A ad, Yl b L xs args s c A ad → ab_X A s s.heap := fun _ _ _ _ _ y => y.2.2.2.2.2
theorem law_c36 (hl : l.stackTraces = false) (hI : Inv M) (hi : i + 6 ≤ L) (hL : L ≤ 3072) (hkn : k + 1 ≤ 601024 ∧ n + 6 ≤ 7293034) (kk : ∀ M2, Inv M2 → EL b L xs l D ac (k + 1) (n + 6) ab_SH 1375 (lvL i) [] M2) : EL b L xs l D ac k n ab_SH 1350 (lvL i) [] M := by
  obtain ⟨σ, p, hI⟩ := hI
  obtain ⟨v, M2, h1, h2, h3⟩ := o_toss hI (xs (i + 1))
  refine eg_aload_n dL_law_1350 rfl ?_
  refine el_arg 1 dL_law_1351 dL_law_1352 dL_law_1354 dL_law_1355 dL_law_1356 rfl rfl rfl (by decide) hi hL ?_
  refine eg_callWV (o := 0) (as := [.int (xs (i + 1))]) (st := []) (co_X9_toss hl M _ _ h1) cw_X9_toss cm_X9_toss cl_X9_toss ci_X9_toss ⟨by decide, by decide, dp_toss⟩ (by decide) (by decide) rfl sh_0 ml_RL_176 dL_law_1357 ⟨by decide, by decide⟩ rfl (Nat.le_of_ble_eq_true rfl) hkn Yl_X ?_
  refine eg_aload_n dL_law_1360 rfl ?_
  refine el_arg 1 dL_law_1361 dL_law_1362 dL_law_1364 dL_law_1365 dL_law_1366 rfl rfl rfl (by decide) hi hL ?_
  refine eg_callV (o := 69) (as := [.int (xs (i + 1))]) (st := [.int v]) (co_X10_toss M _ _ h2) mv_X10_toss sh_69 ml_RL_179 dL_law_1367 ⟨by decide, by decide⟩ rfl (Nat.le_of_ble_eq_true rfl) hkn ?_
  exact eg_icmp_eq (t := 1375) dL_law_1370 (by decide) (fun _ => kk M2 h3) (fun hc => absurd rfl hc)
theorem law_c33 (hl : l.stackTraces = false) (hI : Inv M) (hi : i + 6 ≤ L) (hL : L ≤ 3072) (hkn : k + 1 ≤ 601024 ∧ n + 6 ≤ 7293034) (kk : ∀ M2, Inv M2 → EL b L xs l D ac (k + 1) (n + 6) ab_SH 1375 (lvL i) [] M2) : EL b L xs l D ac k n ab_SH 1185 (lvL i) [] M := by
  obtain ⟨σ, p, hI⟩ := hI
  have hlen : 0 ≤ xs (i + 1) → xs (i + 1) ≤ 7 → M.1 (35 + 4 * (xs (i + 1)).toNatClampNeg) 4 ≤ 60 := by
    intro g1 g2
    obtain ⟨j, hj, e⟩ := nI_of2 (M := 7) (n := 7) (by decide) (Int32.not_lt.mpr g1) g2
    rw [e, nI_clamp (by omega)]
    obtain ⟨h, len, -, -, h4, -, h5, -⟩ := hI.2.2.2.2.2.2.2.2.2 j (by omega)
    rw [h4]
    exact nI_le (b := 60) h5 (by decide)
  obtain ⟨v, M2, h2, h3, h4, h5⟩ := o_element hI (xs (i + 1)) (xs (i + 2))
  refine eg_aload_n dL_law_1185 rfl ?_
  refine el_arg 1 dL_law_1186 dL_law_1187 dL_law_1189 dL_law_1190 dL_law_1191 rfl rfl rfl (by decide) hi hL ?_
  refine el_arg 2 dL_law_1192 dL_law_1193 dL_law_1195 dL_law_1196 dL_law_1197 rfl rfl rfl (by decide) hi hL ?_
  refine eg_aload_n dL_law_1198 rfl ?_
  refine eg_callWS (as := [.ref 0, .int (xs (i + 1)), .int (xs (i + 2)), .ref 96]) (st := []) (co_L_element hl M _ _ hlen) cw_L_element cs_L_element ci_L_element ⟨by decide, by decide, dp_lel⟩ (by decide) ml_RL_158 dL_law_1199 ⟨by decide, by decide⟩ rfl (Nat.le_of_ble_eq_true rfl) hkn Yl_X ?_
  generalize hr : r_lel M (xs (i + 1)) (xs (i + 2)) = r at *
  refine eg_istore (lv' := [some (.ref 97), some (.ref 0), some (.ref 69), some (.ref 96), some (.int (nI i)), some (.int r.1), none, none]) dL_law_1202 (Nat.le_of_ble_eq_true rfl) rfl rfl ?_
  refine eg_aload_n dL_law_1204 rfl ?_
  refine el_arg 1 dL_law_1205 dL_law_1206 dL_law_1208 dL_law_1209 dL_law_1210 rfl rfl rfl (by decide) hi hL ?_
  refine el_arg 2 dL_law_1211 dL_law_1212 dL_law_1214 dL_law_1215 dL_law_1216 rfl rfl rfl (by decide) hi hL ?_
  refine eg_callV (o := 69) (as := [.int (xs (i + 1)), .int (xs (i + 2))]) (st := []) (co_X10_element r.2 _ _ _ h2) mv_X10_element sh_69 ml_RL_163 dL_law_1217 ⟨by decide, by decide⟩ rfl (Nat.le_of_ble_eq_true rfl) hkn ?_
  refine eg_lstore (lv' := [some (.ref 97), some (.ref 0), some (.ref 69), some (.ref 96), some (.int (nI i)), some (.int r.1), some (.long v), none]) dL_law_1220 (Nat.le_of_ble_eq_true rfl) rfl rfl ?_
  refine eg_aload_n dL_law_1222 rfl ?_
  refine eg_callV (o := 69) (as := []) (st := []) (co_X10_thrown M2 (M2.1 69 0) rfl) mv_X10_thrown sh_69 ml_RL_164 dL_law_1223 ⟨by decide, by decide⟩ rfl (Nat.le_of_ble_eq_true rfl) hkn ?_
  refine eg_iload dL_law_1226 rfl ?_
  refine eg_icmp_eq (t := 1233) dL_law_1228 (by decide) (fun _ => ?_) (fun hc => absurd h3 hc)
  have fin : EL b L xs l D ac (k + 1) (n + 6) ab_SH 1249 [some (.ref 97), some (.ref 0), some (.ref 69), some (.ref 96), some (.int (nI i)), some (.int r.1), some (.long v), none] [] M2 := by
    refine eg_goto (t := 1375) dL_law_1249 (by decide) ?_
    exact eg_drop (lv' := lvL i) (ab_sub_k (ab_sub_k (ab_sub_k (ab_sub_k (ab_sub_k (ab_sub_d (ab_sub_d (ab_sub_k ab_sub_nil)))))))) (kk M2 h5)
  refine eg_iload dL_law_1233 rfl ?_
  refine eg_if_ne (t := 1249) dL_law_1235 (by decide) (fun _ => fin) (fun hc => ?_)
  refine eg_aload_n dL_law_1238 rfl ?_
  refine eg_iconst (x := 0) dL_law_1239 (by decide) ?_
  refine eg_laload sh_96 (show vp_in (nI 0) 1 from vin (by decide)) dL_law_1240 ?_
  refine eg_lload dL_law_1241 rfl ?_
  refine eg_lcmp dL_law_1243 ?_
  refine eg_if_eq (t := 1249) dL_law_1244 (by decide) (fun _ => fin) (fun hn => ?_)
  refine absurd ?_ hn
  rw [show (0 : Int32).toNatClampNeg = 0 from rfl, h4 hc]
  simp [lg_cmp]
theorem law_loop (hl : l.stackTraces = false) (hL : L ≤ 3072) : ∀ (g i k n : Nat) (M : ab_M), L < i + g → i ≤ L → k ≤ 97 + i → n ≤ 3181 + i → Inv M → EL b L xs l D ac k n ab_SH 23 (lvL i) [] M := by
  intro g
  induction g with
  | zero =>
    intro i k n M h1 h2
    omega
  | succ g ih =>
    intro i k n M h1 h2 h3 h4 hI
    refine eg_iload dL_law_23 rfl ?_
    refine eg_aload_n dL_law_25 rfl ?_
    refine el_slen dL_law_26 ?_
    refine eg_bipush (x := 6) dL_law_27 (by decide) ?_
    refine eg_isub dL_law_29 ?_
    refine eg_icmp_gt (t := 1381) dL_law_30 (by decide) (fun _ => ?_) (fun hc => ?_)
    · refine eg_iconst (x := 1) dL_law_1381 (by decide) ?_
      exact el_end dL_law_1382 ⟨by omega, by omega⟩
    · have hi : i + 6 ≤ L := lw_gt (by omega) hL hc
      refine eg_aload_n dL_law_33 rfl ?_
      refine eg_iload dL_law_34 rfl ?_
      refine el_sld (vp_in_nI (by omega) (by omega)) dL_law_36 ?_
      refine eg_bipush (x := 63) dL_law_37 (by decide) ?_
      refine eg_iand dL_law_39 ?_
      have kb : ∀ k' n', k' ≤ k + 1 → n' ≤ n + 6 → ∀ M2, Inv M2 → EL b L xs l D ac k' n' ab_SH 1375 (lvL i) [] M2 := fun k' n' g1 g2 M2 hM => el_back hi hL (ih (i + 6) k' n' M2 (by omega) (by omega) (by omega) (by omega) hM)
      refine el_switch dL_law_40 (kb k n (by omega) (by omega) M hI) (fun t ht => ?_)
      simp only [law_tg, List.mem_cons, List.not_mem_nil, or_false] at ht
      rcases ht with rfl | rfl | rfl | rfl | rfl | rfl | rfl | rfl | rfl | rfl | rfl | rfl | rfl | rfl | rfl | rfl | rfl | rfl | rfl | rfl | rfl | rfl | rfl | rfl | rfl | rfl | rfl | rfl | rfl | rfl | rfl | rfl | rfl | rfl | rfl | rfl | rfl
      · exact law_c0 hI hi hL ⟨by omega, by omega⟩ (kb k n (by omega) (by omega))
      · exact law_c1 hI hi hL ⟨by omega, by omega⟩ (kb k n (by omega) (by omega))
      · exact law_c2 hI hi hL ⟨by omega, by omega⟩ (kb k n (by omega) (by omega))
      · exact law_c3 hI hi hL ⟨by omega, by omega⟩ (kb k n (by omega) (by omega))
      · exact law_c4 hI hi hL ⟨by omega, by omega⟩ (kb k n (by omega) (by omega))
      · exact law_c5 hI hi hL ⟨by omega, by omega⟩ (kb k n (by omega) (by omega))
      · exact law_c6 hI hi hL ⟨by omega, by omega⟩ (kb k n (by omega) (by omega))
      · exact law_c7 hI hi hL ⟨by omega, by omega⟩ (kb k n (by omega) (by omega))
      · exact law_c8 hI hi hL ⟨by omega, by omega⟩ (kb k n (by omega) (by omega))
      · exact law_c9 hI hi hL ⟨by omega, by omega⟩ (kb k n (by omega) (by omega))
      · exact law_c10 hI hi hL ⟨by omega, by omega⟩ (kb k n (by omega) (by omega))
      · exact law_c11 hI hi hL ⟨by omega, by omega⟩ (kb k n (by omega) (by omega))
      · exact law_c12 hI hi hL ⟨by omega, by omega⟩ (kb k n (by omega) (by omega))
      · exact law_c13 hI hi hL ⟨by omega, by omega⟩ (kb k n (by omega) (by omega))
      · exact law_c14 hI hi hL ⟨by omega, by omega⟩ (kb k n (by omega) (by omega))
      · exact law_c15 hI hi hL ⟨by omega, by omega⟩ (kb k n (by omega) (by omega))
      · exact law_c16 hI hi hL ⟨by omega, by omega⟩ (kb k n (by omega) (by omega))
      · exact law_c17 hI hi hL ⟨by omega, by omega⟩ (kb k n (by omega) (by omega))
      · exact law_c18 hI hi hL ⟨by omega, by omega⟩ (kb k n (by omega) (by omega))
      · exact law_c19 hI hi hL ⟨by omega, by omega⟩ (kb k n (by omega) (by omega))
      · exact law_c20 hI hi hL ⟨by omega, by omega⟩ (kb k n (by omega) (by omega))
      · exact law_c21 hI hi hL ⟨by omega, by omega⟩ (kb k n (by omega) (by omega))
      · exact law_c22 hI hi hL ⟨by omega, by omega⟩ (kb k n (by omega) (by omega))
      · exact law_c23 hI hi hL ⟨by omega, by omega⟩ (kb k n (by omega) (by omega))
      · exact law_c24 hI hi hL ⟨by omega, by omega⟩ (kb k n (by omega) (by omega))
      · exact law_c25 hI hi hL ⟨by omega, by omega⟩ (kb k n (by omega) (by omega))
      · exact law_c26 hI hi hL ⟨by omega, by omega⟩ (kb k n (by omega) (by omega))
      · exact law_c27 hI hi hL ⟨by omega, by omega⟩ (kb k n (by omega) (by omega))
      · exact law_c28 hI hi hL ⟨by omega, by omega⟩ (kb k n (by omega) (by omega))
      · exact law_c29 hI hi hL ⟨by omega, by omega⟩ (kb k n (by omega) (by omega))
      · exact law_c30 hI hi hL ⟨by omega, by omega⟩ (kb k n (by omega) (by omega))
      · exact law_c31 hI hi hL ⟨by omega, by omega⟩ (kb k n (by omega) (by omega))
      · exact law_c32 hI hi hL ⟨by omega, by omega⟩ (kb k n (by omega) (by omega))
      · exact law_c33 hl hI hi hL ⟨by omega, by omega⟩ (kb (k + 1) (n + 6) (by omega) (by omega))
      · exact law_c34 hI hi hL ⟨by omega, by omega⟩ (kb k n (by omega) (by omega))
      · exact law_c35 hI hi hL ⟨by omega, by omega⟩ (kb k n (by omega) (by omega))
      · exact law_c36 hl hI hi hL ⟨by omega, by omega⟩ (kb (k + 1) (n + 6) (by omega) (by omega))
end ABlloop
