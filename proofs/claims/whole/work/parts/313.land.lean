/-! PURE: gap, stay, border (printed by wip/whole/gen/land1.py) -/
theorem o_gap {σ : Sg} {p : Nat → Nat} {M : ab_M} (hI : InvS σ p M) (x y : Int32) : Ans (mi_X9_gap M x y) (fun M => mi_X10_gap M x y) := by
  have hT := hI.thr 0
  have hS := hI.1
  have hnm := hS.nm
  by_cases h1 : 0 ≤ x ∧ x < nI (g_nm σ)
  · obtain ⟨m, hm, rfl⟩ := ix_of (by omega) h1
    have hm12 := hS.m12 hm
    obtain ⟨k0, -⟩ := hS.mast hm
    have kc : M.1 (12 + m) 1 = nI (g_kd σ m) := (hI.2.2.1.1.2.2.2.2.2.2.2.2.2.1 m hm).2.1
    have gc : M.1 (12 + m) 8 = nI (g_gp σ m) := (hI.2.2.1.1.2.2.2.2.2.2.2.2.2.1 m hm).2.2.2.2.2.2.2.2
    have kr : ∀ M' : ab_M, RepR σ M' → M'.1 70 m = nI (g_kd σ m) := fun M' h => (h.2.2.2.2.2.2.2.2.2.1 m hm).1
    have gr : ∀ M' : ab_M, RepR σ M' → M'.1 77 m = nI (g_gp σ m) := fun M' h => (h.2.2.2.2.2.2.2.2.2.1 m hm).2.2.2.2.2.2.2
    by_cases hk : nI (g_kd σ m) = 1
    · by_cases h2 : 1 ≤ y ∧ y ≤ 10
      · obtain ⟨n, hn1, hn2, rfl⟩ := ix_rng (a := 1) (b := 10) (by decide) h2 (by decide)
        have f1 : mi_X9_gap M (nI m) (nI n) = some (nI (g_gp σ m), ab_pi M (12 + m) 8 (nI n)) := by
          unfold mi_X9_gap
          rw [c_hasMast hI.2.2.1.1, b_if, if_pos h1]
          simp only [nI_clamp (show m < 2 ^ 31 by omega), vin hm12, ab_chk_true]
          rw [kc, if_pos hk, w_eq, b_if, if_pos h2, gc]
        have sb : ∀ c j, (c ≠ 69 ∨ j ≠ 0) → (c ≠ 12 + m ∨ j ≠ 8) → (ab_pi (ab_pi M (12 + m) 8 (nI n)) 69 0 0).1 c j = M.1 c j := fun c j a b => by rw [pi_ne (by omega), pi_ne (by omega)]
        have hR1 : RepR σ (ab_pi (ab_pi M (12 + m) 8 (nI n)) 69 0 0) := hI.2.2.2.1.same hS (fun c j hc => sb c j (by unfold fR at hc; omega) (by unfold fR at hc; omega))
        have f2 : mi_X10_gap (ab_pi M (12 + m) 8 (nI n)) (nI m) (nI n) = some (nI (g_gp σ m), ab_pi (ab_pi (ab_pi M (12 + m) 8 (nI n)) 69 0 0) 77 m (nI n)) := by
          unfold mi_X10_gap
          rw [r_isMast hR1, b_if, if_pos h1]
          simp only [nI_clamp (show m < 2 ^ 31 by omega), vin hm12, ab_chk_true]
          rw [kr _ hR1, if_pos hk]
          have i1 : mi_X10_isIn (ab_pi (ab_pi M (12 + m) 8 (nI n)) 69 0 0) (nI n).toInt64 1 10 = some (if 1 ≤ nI n ∧ nI n ≤ 10 then 1 else 0) := r_isIn _ (nI n) 1 10
          rw [i1, b_if, if_pos h2, gr _ hR1]
        have sc : ∀ c j, (c ≠ 69 ∨ j ≠ 0) → (c ≠ 12 + m ∨ j ≠ 8) → (c ≠ 77 ∨ j ≠ m) → (ab_pi (ab_pi (ab_pi M (12 + m) 8 (nI n)) 69 0 0) 77 m (nI n)).1 c j = M.1 c j := fun c j a b d => by rw [pi_ne (by omega), pi_ne (by omega), pi_ne (by omega)]
        refine ⟨_, _, _, f1, f2, sgr σ 8 (fup (σ 8) m n), p, hI.land (hS.gp _ (fun m' hm' => ?_)) rfl ?_ ?_ (fun c j hc => ?_) (fun w _ => sc 4 w (by omega) (by omega) (by omega)) (fun _ _ => rfl)⟩
        · unfold fup
          split
          · exact ⟨hn1, hn2⟩
          · exact (hS.mast hm').2.2.2.2.2.2.2.2
        · obtain ⟨⟨c1, c2, c3, c4, c5, c6, c7, c8, c9, c10, c11, c12⟩, c13, c14⟩ := hI.2.2.1
          refine ⟨⟨?_, ?_, ?_, ?_, ?_, ?_, ?_, ?_, ?_, fun m' hm' => ?_, fun w' hw' => ?_, fun i' hi' => ?_⟩, fun a' b' ha' hb' => ?_, fun a' ha' i' hi' => ?_⟩
          · rw [sc _ _ (by omega) (by omega) (by omega)]; exact c1
          · rw [sc _ _ (by omega) (by omega) (by omega)]; exact c2
          · rw [sc _ _ (by omega) (by omega) (by omega)]; exact c3
          · rw [sc _ _ (by omega) (by omega) (by omega)]; exact c4
          · rw [sc _ _ (by omega) (by omega) (by omega)]; exact c5
          · rw [sc _ _ (by omega) (by omega) (by omega)]; exact c6
          · rw [sc _ _ (by omega) (by omega) (by omega)]; exact c7
          · rw [sc _ _ (by omega) (by omega) (by omega)]; exact c8
          · rw [sc _ _ (by omega) (by omega) (by omega)]; exact c9
          · have hm1 := hS.m12 hm'
            obtain ⟨d0, d1, d2, d3, d4, d5, d6, d7, d8⟩ := c10 m' hm'
            refine ⟨?_, ?_, ?_, ?_, ?_, ?_, ?_, ?_, ?_⟩
            · rw [sc _ _ (by omega) (by omega) (by omega)]; exact d0
            · rw [sc _ _ (by omega) (by omega) (by omega)]; exact d1
            · rw [sc _ _ (by omega) (by omega) (by omega)]; exact d2
            · rw [sc _ _ (by omega) (by omega) (by omega)]; exact d3
            · rw [sc _ _ (by omega) (by omega) (by omega)]; exact d4
            · rw [sc _ _ (by omega) (by omega) (by omega)]; exact d5
            · rw [sc _ _ (by omega) (by omega) (by omega)]; exact d6
            · rw [sc _ _ (by omega) (by omega) (by omega)]; exact d7
            · show _ = nI (fup (σ 8) m n m')
              by_cases e : m' = m
              · rw [e, fup_eq, pi_ne (by omega), pi_ne (by omega), pi_eq]
              · rw [fup_ne e, sc _ _ (by omega) (by omega) (by omega)]; exact d8
          · rw [sc _ _ (by omega) (by omega) (by omega), sc _ _ (by omega) (by omega) (by omega)]; exact c11 w' hw'
          · rw [sc _ _ (by omega) (by omega) (by omega), sc _ _ (by omega) (by omega) (by omega), sc _ _ (by omega) (by omega) (by omega)]; exact c12 i' hi'
          · rw [sc _ _ (by omega) (by omega) (by omega)]; exact c13 a' b' ha' hb'
          · rw [sc _ _ (by omega) (by omega) (by omega)]; exact c14 a' ha' i' hi'
        · obtain ⟨c1, c2, c3, c4, c5, c6, c7, c8, c9, c10, c11, c12⟩ := hI.2.2.2.1
          refine ⟨?_, ?_, ?_, ?_, ?_, ?_, ?_, ?_, ?_, fun m' hm' => ?_, fun w' hw' => ?_, fun i' hi' => ?_⟩
          · rw [sc _ _ (by omega) (by omega) (by omega)]; exact c1
          · rw [sc _ _ (by omega) (by omega) (by omega)]; exact c2
          · rw [sc _ _ (by omega) (by omega) (by omega)]; exact c3
          · rw [sc _ _ (by omega) (by omega) (by omega)]; exact c4
          · rw [sc _ _ (by omega) (by omega) (by omega)]; exact c5
          · rw [sc _ _ (by omega) (by omega) (by omega)]; exact c6
          · rw [sc _ _ (by omega) (by omega) (by omega)]; exact c7
          · rw [sc _ _ (by omega) (by omega) (by omega)]; exact c8
          · rw [sc _ _ (by omega) (by omega) (by omega)]; exact c9
          · have hm1 := hS.m12 hm'
            obtain ⟨d0, d1, d2, d3, d4, d5, d6, d7⟩ := c10 m' hm'
            refine ⟨?_, ?_, ?_, ?_, ?_, ?_, ?_, ?_⟩
            · rw [sc _ _ (by omega) (by omega) (by omega)]; exact d0
            · rw [sc _ _ (by omega) (by omega) (by omega)]; exact d1
            · rw [sc _ _ (by omega) (by omega) (by omega)]; exact d2
            · rw [sc _ _ (by omega) (by omega) (by omega)]; exact d3
            · rw [sc _ _ (by omega) (by omega) (by omega)]; exact d4
            · rw [sc _ _ (by omega) (by omega) (by omega)]; exact d5
            · rw [sc _ _ (by omega) (by omega) (by omega)]; exact d6
            · show _ = nI (fup (σ 8) m n m')
              by_cases e : m' = m
              · rw [e, fup_eq, pi_eq]
              · rw [fup_ne e, sc _ _ (by omega) (by omega) (by omega)]; exact d7
          · rw [sc _ _ (by omega) (by omega) (by omega), sc _ _ (by omega) (by omega) (by omega)]; exact c11 w' hw'
          · rw [sc _ _ (by omega) (by omega) (by omega), sc _ _ (by omega) (by omega) (by omega), sc _ _ (by omega) (by omega) (by omega)]; exact c12 i' hi'
        · unfold fI fS at hc
          exact sc c j (by omega) (by omega) (by omega)
      · refine Ans.m1 hI (v := -1) ?_ ?_
        · unfold mi_X9_gap
          rw [c_hasMast hI.2.2.1.1, b_if, if_pos h1]
          simp only [nI_clamp (show m < 2 ^ 31 by omega), vin hm12, ab_chk_true]
          rw [kc, if_pos hk, w_eq, b_if, if_neg h2]
        · show mi_X10_gap M (nI m) y = _
          unfold mi_X10_gap
          rw [r_isMast hT.2.2.2.1, b_if, if_pos h1]
          simp only [nI_clamp (show m < 2 ^ 31 by omega), vin hm12, ab_chk_true]
          have i1 : mi_X10_isIn (ab_pi M 69 0 0) y.toInt64 1 10 = some (if 1 ≤ y ∧ y ≤ 10 then 1 else 0) := r_isIn _ y 1 10
          rw [kr _ hT.2.2.2.1, if_pos hk, i1, b_if, if_neg h2]
    · refine Ans.m1 hI (v := -1) ?_ ?_
      · unfold mi_X9_gap
        rw [c_hasMast hI.2.2.1.1, b_if, if_pos h1]
        simp only [nI_clamp (show m < 2 ^ 31 by omega), vin hm12, ab_chk_true]
        rw [kc, if_neg hk]
      · show mi_X10_gap M (nI m) y = _
        unfold mi_X10_gap
        rw [r_isMast hT.2.2.2.1, b_if, if_pos h1]
        simp only [nI_clamp (show m < 2 ^ 31 by omega), vin hm12, ab_chk_true]
        rw [kr _ hT.2.2.2.1, if_neg hk]
  · refine Ans.m1 hI (v := -1) ?_ ?_
    · unfold mi_X9_gap
      rw [c_hasMast hI.2.2.1.1, b_if, if_neg h1]
    · show mi_X10_gap M x y = _
      unfold mi_X10_gap
      rw [r_isMast hT.2.2.2.1, b_if, if_neg h1]
theorem pv_of {j : Nat} (hj : j ≤ 30) : (if 0 ≤ nI j - 1 then some (nI j - 1) else some (-2) : Option Int32) = some (pv j) := by
  cases j with
  | zero => rfl
  | succ c =>
    rw [nI_m1 (by omega), if_pos (nI_pos' (by omega)), pv_s]
    rfl
theorem o_stay {σ : Sg} {p : Nat → Nat} {M : ab_M} (hI : InvS σ p M) (x y : Int32) : Ans (mi_X9_stay M x y) (fun M => mi_X10_stay M x y) := by
  have hT := hI.thr 0
  have hS := hI.1
  have hnw := hS.nw
  by_cases h1 : 0 ≤ x ∧ x < nI (g_nw σ)
  · obtain ⟨w, hw, rfl⟩ := ix_of (by omega) h1
    have hw16 := hS.w16 hw
    have hm12 := hS.mo12 hw
    have kr : ∀ M' : ab_M, RepR σ M' → M'.1 70 (g_mo σ w) = nI (g_kd σ (g_mo σ w)) := fun M' h => (h.2.2.2.2.2.2.2.2.2.1 _ (hS.mo hw)).1
    have mr : ∀ M' : ab_M, RepR σ M' → M'.1 78 w = nI (g_mo σ w) := fun M' h => (h.w hw).1
    by_cases hk : nI (g_kd σ (g_mo σ w)) = 2
    · by_cases h2 : -1 ≤ y ∧ y ≤ 29
      · obtain ⟨n, hn, rfl⟩ := ix_m1 (b := 29) (by decide) h2
        have f1 : mi_X9_stay M (nI w) (nI n - 1) = some (0, ab_pi M 4 w (pv n)) := by
          unfold mi_X9_stay
          rw [c_hasWant hI.2.2.1.1, b_if, if_pos h1, c_kindOfWant hS hI.2.2.1.1 hw, Option.bind_some, if_pos hk, w_eq, b_if, if_pos h2, pv_of hn, Option.bind_some, ab_chk_pos (vin hw16), nI_clamp (by omega)]
        have sb : ∀ c j, (c ≠ 69 ∨ j ≠ 0) → (c ≠ 4 ∨ j ≠ w) → (ab_pi (ab_pi M 4 w (pv n)) 69 0 0).1 c j = M.1 c j := fun c j a b => by rw [pi_ne (by omega), pi_ne (by omega)]
        have hR1 : RepR σ (ab_pi (ab_pi M 4 w (pv n)) 69 0 0) := hI.2.2.2.1.same hS (fun c j hc => sb c j (by unfold fR at hc; omega) (by unfold fR at hc; omega))
        have f2 : mi_X10_stay (ab_pi M 4 w (pv n)) (nI w) (nI n - 1) = some (0, ab_pi (ab_pi (ab_pi M 4 w (pv n)) 69 0 0) 79 w (nI n - 1)) := by
          unfold mi_X10_stay
          rw [r_isWant hR1, b_if, if_pos h1]
          simp only [nI_clamp (show w < 2 ^ 31 by omega), vin hw16, ab_chk_true]
          rw [mr _ hR1]
          simp only [nI_clamp (show g_mo σ w < 2 ^ 31 by omega), vin hm12, ab_chk_true]
          have i1 : mi_X10_isIn (ab_pi (ab_pi M 4 w (pv n)) 69 0 0) (nI n - 1).toInt64 (-1) 29 = some (if -1 ≤ nI n - 1 ∧ nI n - 1 ≤ 29 then 1 else 0) := r_isIn _ (nI n - 1) (-1) 29
          rw [kr _ hR1, if_pos hk, i1, b_if, if_pos h2]
        have sc : ∀ c j, (c ≠ 69 ∨ j ≠ 0) → (c ≠ 4 ∨ j ≠ w) → (c ≠ 79 ∨ j ≠ w) → (ab_pi (ab_pi (ab_pi M 4 w (pv n)) 69 0 0) 79 w (nI n - 1)).1 c j = M.1 c j := fun c j a b d => by rw [pi_ne (by omega), pi_ne (by omega), pi_ne (by omega)]
        refine ⟨_, _, _, f1, f2, sgr σ 10 (fup (σ 10) w n), p, hI.land (hS.sy _ (fun w' hw' => ?_)) rfl ?_ ?_ (fun c j hc => ?_) (fun w' _ => sc 4 w' (by omega) (by omega) (by omega)) (fun _ _ => rfl)⟩
        · unfold fup
          split
          · omega
          · exact (hS.want hw').2.2.2
        · obtain ⟨⟨c1, c2, c3, c4, c5, c6, c7, c8, c9, c10, c11, c12⟩, c13, c14⟩ := hI.2.2.1
          refine ⟨⟨?_, ?_, ?_, ?_, ?_, ?_, ?_, ?_, ?_, fun m' hm' => ?_, fun w' hw' => ?_, fun i' hi' => ?_⟩, fun a' b' ha' hb' => ?_, fun a' ha' i' hi' => ?_⟩
          · rw [sc _ _ (by omega) (by omega) (by omega)]; exact c1
          · rw [sc _ _ (by omega) (by omega) (by omega)]; exact c2
          · rw [sc _ _ (by omega) (by omega) (by omega)]; exact c3
          · rw [sc _ _ (by omega) (by omega) (by omega)]; exact c4
          · rw [sc _ _ (by omega) (by omega) (by omega)]; exact c5
          · rw [sc _ _ (by omega) (by omega) (by omega)]; exact c6
          · rw [sc _ _ (by omega) (by omega) (by omega)]; exact c7
          · rw [sc _ _ (by omega) (by omega) (by omega)]; exact c8
          · rw [sc _ _ (by omega) (by omega) (by omega)]; exact c9
          · have hm1 := hS.m12 hm'
            obtain ⟨d0, d1, d2, d3, d4, d5, d6, d7, d8⟩ := c10 m' hm'
            refine ⟨?_, ?_, ?_, ?_, ?_, ?_, ?_, ?_, ?_⟩
            · rw [sc _ _ (by omega) (by omega) (by omega)]; exact d0
            · rw [sc _ _ (by omega) (by omega) (by omega)]; exact d1
            · rw [sc _ _ (by omega) (by omega) (by omega)]; exact d2
            · rw [sc _ _ (by omega) (by omega) (by omega)]; exact d3
            · rw [sc _ _ (by omega) (by omega) (by omega)]; exact d4
            · rw [sc _ _ (by omega) (by omega) (by omega)]; exact d5
            · rw [sc _ _ (by omega) (by omega) (by omega)]; exact d6
            · rw [sc _ _ (by omega) (by omega) (by omega)]; exact d7
            · rw [sc _ _ (by omega) (by omega) (by omega)]; exact d8
          · rw [sc 3 w' (by omega) (by omega) (by omega)]
            refine ⟨(c11 w' hw').1, ?_⟩
            show _ = pv (fup (σ 10) w n w')
            by_cases e : w' = w
            · rw [e, fup_eq, pi_ne (by omega), pi_ne (by omega), pi_eq]
            · rw [fup_ne e, sc _ _ (by omega) (by omega) (by omega)]; exact (c11 w' hw').2
          · rw [sc _ _ (by omega) (by omega) (by omega), sc _ _ (by omega) (by omega) (by omega), sc _ _ (by omega) (by omega) (by omega)]; exact c12 i' hi'
          · rw [sc _ _ (by omega) (by omega) (by omega)]; exact c13 a' b' ha' hb'
          · rw [sc _ _ (by omega) (by omega) (by omega)]; exact c14 a' ha' i' hi'
        · obtain ⟨c1, c2, c3, c4, c5, c6, c7, c8, c9, c10, c11, c12⟩ := hI.2.2.2.1
          refine ⟨?_, ?_, ?_, ?_, ?_, ?_, ?_, ?_, ?_, fun m' hm' => ?_, fun w' hw' => ?_, fun i' hi' => ?_⟩
          · rw [sc _ _ (by omega) (by omega) (by omega)]; exact c1
          · rw [sc _ _ (by omega) (by omega) (by omega)]; exact c2
          · rw [sc _ _ (by omega) (by omega) (by omega)]; exact c3
          · rw [sc _ _ (by omega) (by omega) (by omega)]; exact c4
          · rw [sc _ _ (by omega) (by omega) (by omega)]; exact c5
          · rw [sc _ _ (by omega) (by omega) (by omega)]; exact c6
          · rw [sc _ _ (by omega) (by omega) (by omega)]; exact c7
          · rw [sc _ _ (by omega) (by omega) (by omega)]; exact c8
          · rw [sc _ _ (by omega) (by omega) (by omega)]; exact c9
          · have hm1 := hS.m12 hm'
            obtain ⟨d0, d1, d2, d3, d4, d5, d6, d7⟩ := c10 m' hm'
            refine ⟨?_, ?_, ?_, ?_, ?_, ?_, ?_, ?_⟩
            · rw [sc _ _ (by omega) (by omega) (by omega)]; exact d0
            · rw [sc _ _ (by omega) (by omega) (by omega)]; exact d1
            · rw [sc _ _ (by omega) (by omega) (by omega)]; exact d2
            · rw [sc _ _ (by omega) (by omega) (by omega)]; exact d3
            · rw [sc _ _ (by omega) (by omega) (by omega)]; exact d4
            · rw [sc _ _ (by omega) (by omega) (by omega)]; exact d5
            · rw [sc _ _ (by omega) (by omega) (by omega)]; exact d6
            · rw [sc _ _ (by omega) (by omega) (by omega)]; exact d7
          · rw [sc 78 w' (by omega) (by omega) (by omega)]
            refine ⟨(c11 w' hw').1, ?_⟩
            show _ = nI (fup (σ 10) w n w') - 1
            by_cases e : w' = w
            · rw [e, fup_eq, pi_eq]
            · rw [fup_ne e, sc _ _ (by omega) (by omega) (by omega)]; exact (c11 w' hw').2
          · rw [sc _ _ (by omega) (by omega) (by omega), sc _ _ (by omega) (by omega) (by omega), sc _ _ (by omega) (by omega) (by omega)]; exact c12 i' hi'
        · unfold fI fS at hc
          exact sc c j (by omega) (by omega) (by omega)
      · refine Ans.m1 hI (v := -1) ?_ ?_
        · unfold mi_X9_stay
          rw [c_hasWant hI.2.2.1.1, b_if, if_pos h1, c_kindOfWant hS hI.2.2.1.1 hw, Option.bind_some, if_pos hk, w_eq, b_if, if_neg h2]
        · show mi_X10_stay M (nI w) y = _
          unfold mi_X10_stay
          rw [r_isWant hT.2.2.2.1, b_if, if_pos h1]
          simp only [nI_clamp (show w < 2 ^ 31 by omega), vin hw16, ab_chk_true]
          rw [mr _ hT.2.2.2.1]
          simp only [nI_clamp (show g_mo σ w < 2 ^ 31 by omega), vin hm12, ab_chk_true]
          have i1 : mi_X10_isIn (ab_pi M 69 0 0) y.toInt64 (-1) 29 = some (if -1 ≤ y ∧ y ≤ 29 then 1 else 0) := r_isIn _ y (-1) 29
          rw [kr _ hT.2.2.2.1, if_pos hk, i1, b_if, if_neg h2]
    · refine Ans.m1 hI (v := -1) ?_ ?_
      · unfold mi_X9_stay
        rw [c_hasWant hI.2.2.1.1, b_if, if_pos h1, c_kindOfWant hS hI.2.2.1.1 hw, Option.bind_some, if_neg hk]
      · show mi_X10_stay M (nI w) y = _
        unfold mi_X10_stay
        rw [r_isWant hT.2.2.2.1, b_if, if_pos h1]
        simp only [nI_clamp (show w < 2 ^ 31 by omega), vin hw16, ab_chk_true]
        rw [mr _ hT.2.2.2.1]
        simp only [nI_clamp (show g_mo σ w < 2 ^ 31 by omega), vin hm12, ab_chk_true]
        rw [kr _ hT.2.2.2.1, if_neg hk]
  · refine Ans.m1 hI (v := -1) ?_ ?_
    · unfold mi_X9_stay
      rw [c_hasWant hI.2.2.1.1, b_if, if_neg h1]
    · show mi_X10_stay M x y = _
      unfold mi_X10_stay
      rw [r_isWant hT.2.2.2.1, b_if, if_neg h1]
