/-! PURE: keep -/
theorem o_keep {σ : Sg} {p : Nat → Nat} {M : ab_M} (hI : InvS σ p M) (x y z : Int32) : Ans (mi_X9_keep M x y z) (fun M => mi_X10_keep M x y z) := by
  have hS := hI.1
  have hT := hI.thr 0
  have hnm := hS.nm
  have hnw := hS.nw
  by_cases h1 : 0 ≤ x ∧ x ≤ 7
  · obtain ⟨d, hd', rfl⟩ := ix_le (n := 7) (by decide) h1
    have hd : d < 8 := by omega
    have hv := vin (N := 8) hd
    have cl : (nI d).toNatClampNeg = d := nI_clamp (by omega)
    by_cases y0 : y = 0
    · subst y0
      obtain ⟨M1, M2, e1, e2, e3⟩ := keep0 hI hd z
      refine ⟨0, M1, M2, ?_, ?_, σ, p, e3⟩
      · unfold mi_X9_keep
        rw [c_isShelf, b_if, if_pos h1]
        show ab_chk (vp_in (nI d) 8) ((mi_X6_clear M (35 + 4 * (nI d).toNatClampNeg)).bind fun q12 => some (0, q12)) = _
        rw [ab_chk_pos hv, cl, e1, Option.bind_some]
      · show mi_X10_keep M1 (nI d) 0 z = _
        unfold mi_X10_keep
        rw [r_isShelf, if_pos h1, Option.bind_some]
        show ab_chk (vp_in (nI d) 8) (ab_chk (vp_in (nI d) 8) ((mi_X10_keep_131 ab_F (ab_pi (ab_pi (ab_pi M1 69 0 0) 90 (nI d).toNatClampNeg 0) 91 (nI d).toNatClampNeg 0) (nI d) 0 z 0).bind fun q50 => some (0, q50.2))) = _
        rw [ab_chk_pos hv, ab_chk_pos hv, cl, e2, Option.bind_some]
    · by_cases y1 : y = 1
      · subst y1
        by_cases h3 : 0 ≤ z ∧ z < nI (g_nm σ)
        · obtain ⟨m, hm, rfl⟩ := ix_of (by omega) h3
          have hm12 := hS.m12 hm
          have hk := (hS.mast hm).1
          obtain ⟨M1, M2, e1, e2, e3, e4⟩ := keep1 hI hd hm
          have hR0 : RepR σ (ab_pi M1 69 0 0) := e4.same hS (fun c j hc => by unfold fR at hc; rw [pi_ne (M := M1) (by omega), pi_ne (by omega), pi_ne (by omega), pi_ne (by omega)])
          refine ⟨0, M1, M2, ?_, ?_, σ, p, e3⟩
          · unfold mi_X9_keep
            rw [c_isShelf, b_if, if_pos h1]
            show ((mi_X3_hasMast M (nI m)).bind fun q33 => if q33 = 0 then some (-1, M) else ab_chk (vp_in (nI d) 8) (ab_chk (vp_in (nI m) 12) ((mi_X6_takeMast M (35 + 4 * (nI d).toNatClampNeg) (12 + (nI m).toNatClampNeg)).bind fun q43 => some (0, q43)))) = _
            rw [c_hasMast hI.2.2.1.1, b_if, if_pos h3, ab_chk_pos hv, ab_chk_pos (vin hm12), cl, nI_clamp (by omega), e1, Option.bind_some]
          · show mi_X10_keep M1 (nI d) 1 (nI m) = _
            unfold mi_X10_keep
            rw [r_isShelf, if_pos h1, Option.bind_some, r_isMast hR0, if_pos h3, Option.bind_some]
            show ab_chk (vp_in (nI d) 8) (ab_chk (vp_in (nI d) 8) (((mi_X10_weightOf (ab_pi (ab_pi (ab_pi M1 69 0 0) 90 (nI d).toNatClampNeg 1) 91 (nI d).toNatClampNeg 0) (nI m)).bind fun q31 => ab_chk (vp_in (nI d) 8) (ab_chk (vp_in (nI m) 12) (((if ((ab_pi (ab_pi (ab_pi (ab_pi M1 69 0 0) 90 (nI d).toNatClampNeg 1) 91 (nI d).toNatClampNeg 0) 92 (nI d).toNatClampNeg q31).1 70 (nI m).toNatClampNeg) = 0 then some (-15) else some (nI m)) : Option Int32).bind fun q35 => ab_chk (vp_in (nI d) 8) (some (ab_pi (ab_pi (ab_pi (ab_pi (ab_pi M1 69 0 0) 90 (nI d).toNatClampNeg 1) 91 (nI d).toNatClampNeg 0) 92 (nI d).toNatClampNeg q31) 93 (nI d).toNatClampNeg q35))))).bind fun q27 => (mi_X10_keep_131 ab_F q27 (nI d) 1 (nI m) 0).bind fun q50 => some (0, q50.2))) = _
            have k70 : ∀ v, (ab_pi (ab_pi (ab_pi (ab_pi M1 69 0 0) 90 d 1) 91 d 0) 92 d v).1 70 m = nI (g_kd σ m) := fun v => by rw [pi_ne (by omega)]; exact (e4.2.2.2.2.2.2.2.2.2.1 m hm).1
            have st : (if nI (g_kd σ m) = 0 then some (-15) else some (nI m) : Option Int32) = some (if g_kd σ m = 0 then -15 else nI m) := by
              by_cases q : g_kd σ m = 0
              · rw [if_pos (show nI (g_kd σ m) = 0 by rw [q]; rfl), if_pos q]
              · rw [if_neg (show ¬ nI (g_kd σ m) = 0 from fun w => q ((nI_eq (b := 0) (by omega) (by decide)).mp w)), if_neg q]
            rw [cl, nI_clamp (show m < 2 ^ 31 by omega), ab_chk_pos hv, ab_chk_pos hv, r_weightOf hS e4 hm, Option.bind_some, ab_chk_pos hv, ab_chk_pos (vin hm12), k70, st, Option.bind_some, ab_chk_pos hv, Option.bind_some, e2, Option.bind_some]
        · refine Ans.m1 hI (v := -1) ?_ ?_
          · unfold mi_X9_keep
            rw [c_isShelf, b_if, if_pos h1]
            show ((mi_X3_hasMast M z).bind fun q33 => if q33 = 0 then some (-1, M) else ab_chk (vp_in (nI d) 8) (ab_chk (vp_in z 12) ((mi_X6_takeMast M (35 + 4 * (nI d).toNatClampNeg) (12 + z.toNatClampNeg)).bind fun q43 => some (0, q43)))) = _
            rw [c_hasMast hI.2.2.1.1, b_if, if_neg h3]
          · show mi_X10_keep M (nI d) 1 z = _
            unfold mi_X10_keep
            rw [r_isShelf, if_pos h1, Option.bind_some, r_isMast hT.2.2.2.1, if_neg h3, Option.bind_some]
            rfl
      · by_cases y3 : y = 3
        · subst y3
          obtain ⟨M1, M2, e1, e2, e3, e4⟩ := keep3 hI hd z
          refine ⟨0, M1, M2, ?_, ?_, σ, p, e3⟩
          · unfold mi_X9_keep
            rw [c_isShelf, b_if, if_pos h1]
            show ab_chk (vp_in (nI d) 8) ((mi_X6_takeChannels M (35 + 4 * (nI d).toNatClampNeg) 67 (M.1 1 8)).bind fun q12 => some (0, q12)) = _
            rw [ab_chk_pos hv, cl, hI.2.2.1.1.2.1, e1, Option.bind_some]
          · show mi_X10_keep M1 (nI d) 3 z = _
            unfold mi_X10_keep
            rw [r_isShelf, if_pos h1, Option.bind_some]
            show ab_chk (vp_in (nI d) 8) (ab_chk (vp_in (nI d) 8) ((mi_X10_keep_131 ab_F (ab_pi (ab_pi (ab_pi M1 69 0 0) 90 (nI d).toNatClampNeg 3) 91 (nI d).toNatClampNeg (M1.1 69 10)) (nI d) 3 z 0).bind fun q50 => some (0, q50.2))) = _
            rw [ab_chk_pos hv, ab_chk_pos hv, cl, e4, e2, Option.bind_some]
        · by_cases y4 : y = 4
          · subst y4
            by_cases h3 : 0 ≤ z ∧ z < nI (g_nm σ)
            · obtain ⟨m, hm, rfl⟩ := ix_of (by omega) h3
              have hm12 := hS.m12 hm
              obtain ⟨M1, M2, e1, e2, e3, e4, e5⟩ := keep4 hI hd hm
              have hR0 : RepR σ (ab_pi M1 69 0 0) := e5.same hS (fun c j hc => by unfold fR at hc; rw [pi_ne (by omega)])
              refine ⟨0, M1, M2, ?_, ?_, σ, p, e3⟩
              · unfold mi_X9_keep
                rw [c_isShelf, b_if, if_pos h1]
                show ((mi_X3_hasMast M (nI m)).bind fun q33 => if q33 = 0 then some (-1, M) else ab_chk (vp_in (nI d) 8) ((mi_X6_takeSquares M (35 + 4 * (nI d).toNatClampNeg) (nI m)).bind fun q43 => some (0, q43))) = _
                rw [c_hasMast hI.2.2.1.1, b_if, if_pos h3, ab_chk_pos hv, cl, e1, Option.bind_some]
              · show mi_X10_keep M1 (nI d) 4 (nI m) = _
                unfold mi_X10_keep
                rw [r_isShelf, if_pos h1, Option.bind_some, r_isMast hR0, if_pos h3, Option.bind_some]
                show ab_chk (vp_in (nI d) 8) (ab_chk (vp_in (nI d) 8) ((mi_X10_keep_131 ab_F (ab_pi (ab_pi (ab_pi M1 69 0 0) 90 (nI d).toNatClampNeg 4) 91 (nI d).toNatClampNeg (M1.1 69 1)) (nI d) 4 (nI m) 0).bind fun q50 => some (0, q50.2))) = _
                rw [ab_chk_pos hv, ab_chk_pos hv, cl, e4, e2, Option.bind_some]
            · refine Ans.m1 hI (v := -1) ?_ ?_
              · unfold mi_X9_keep
                rw [c_isShelf, b_if, if_pos h1]
                show ((mi_X3_hasMast M z).bind fun q33 => if q33 = 0 then some (-1, M) else ab_chk (vp_in (nI d) 8) ((mi_X6_takeSquares M (35 + 4 * (nI d).toNatClampNeg) z).bind fun q43 => some (0, q43))) = _
                rw [c_hasMast hI.2.2.1.1, b_if, if_neg h3]
              · show mi_X10_keep M (nI d) 4 z = _
                unfold mi_X10_keep
                rw [r_isShelf, if_pos h1, Option.bind_some, r_isMast hT.2.2.2.1, if_neg h3, Option.bind_some]
                rfl
          · refine Ans.m1 hI (v := -1) ?_ ?_
            · unfold mi_X9_keep
              rw [c_isShelf, b_if, if_pos h1, if_neg y1, if_neg y4, Option.bind_some, if_pos rfl, if_neg y0, if_neg y1, if_neg y3, if_neg y4]
              split <;> rfl
            · show mi_X10_keep M (nI d) y z = _
              unfold mi_X10_keep
              rw [r_isShelf, if_pos h1, Option.bind_some, if_neg (show ¬ (1 : Int32) = 0 by decide), if_neg y0, if_neg y1, if_neg y4, if_neg y3, Option.bind_some, if_pos rfl]
  · refine Ans.m1 hI (v := -1) ?_ ?_
    · unfold mi_X9_keep
      rw [c_isShelf, b_if, if_neg h1]
    · show mi_X10_keep M x y z = _
      unfold mi_X10_keep
      rw [r_isShelf, if_neg h1, Option.bind_some]
      rfl
