/-! PURE: mast (printed by wip/whole/gen/land5.py) -/
theorem o_mast1 {σ : Sg} {p : Nat → Nat} {M : ab_M} (hI : InvS σ p M) {kd px py pw mn : Nat} (h1 : kd ≤ 3) (h2 : px ≤ 60) (h3 : py ≤ 60) (h4 : pw ≤ 3) (h5 : 1 ≤ mn) (h6 : mn ≤ 3) (hm : g_nm σ < 12) (hw : g_nw σ + mn ≤ 16) : ∃ M1, mi_X3_addMast M (nI kd) (nI (64 * px + py)) (nI pw) (nI mn) = some (nI (g_nm σ), M1) ∧ RepC (sgm σ kd px py pw mn) M1 ∧ M1.2 = M.2 ∧ ∀ c j, c ≠ 3 → c ≠ 10 → c ≠ 11 → c ≠ 12 + g_nm σ → (c ≠ 1 ∨ (j ≠ 7 ∧ j ≠ 8)) → M1.1 c j = M.1 c j := by
  have hS := hI.1
  have hS' := hS.sgm h1 h2 h3 h4 h5 h6 hm hw
  have a7 := hI.2.2.2.2.2.2.1
  obtain ⟨d1, d2⟩ := plc_div h2 h3
  have hB0 : (ab_pi (ab_pi (ab_pi (ab_pi (ab_pi (ab_pi (ab_pi (ab_pi (ab_pi M (12 + g_nm σ) 0 (nI (g_nm σ))) (12 + g_nm σ) 1 (nI kd)) (12 + g_nm σ) 2 (nI px)) (12 + g_nm σ) 3 (nI py)) (12 + g_nm σ) 4 (nI pw)) (12 + g_nm σ) 5 (nI mn)) (12 + g_nm σ) 6 (nI (g_nw σ))) (12 + g_nm σ) 7 (1073741823)) (12 + g_nm σ) 8 (5)).1 1 8 = nI (g_nw σ) := by
    iterate 9 rw [pi_ne (by omega)]
    exact hI.2.2.1.1.2.1
  have hB7 : (ab_pi (ab_pi (ab_pi (ab_pi (ab_pi (ab_pi (ab_pi (ab_pi (ab_pi M (12 + g_nm σ) 0 (nI (g_nm σ))) (12 + g_nm σ) 1 (nI kd)) (12 + g_nm σ) 2 (nI px)) (12 + g_nm σ) 3 (nI py)) (12 + g_nm σ) 4 (nI pw)) (12 + g_nm σ) 5 (nI mn)) (12 + g_nm σ) 6 (nI (g_nw σ))) (12 + g_nm σ) 7 (1073741823)) (12 + g_nm σ) 8 (5)).1 1 7 = nI (g_nm σ) := by
    iterate 9 rw [pi_ne (by omega)]
    exact hI.2.2.1.1.1
  obtain ⟨A, g1, g2, g3, g4, g5⟩ := c_add30 (nm := g_nm σ) hw mn 0 ab_F (ab_pi (ab_pi (ab_pi (ab_pi (ab_pi (ab_pi (ab_pi (ab_pi (ab_pi M (12 + g_nm σ) 0 (nI (g_nm σ))) (12 + g_nm σ) 1 (nI kd)) (12 + g_nm σ) 2 (nI px)) (12 + g_nm σ) 3 (nI py)) (12 + g_nm σ) 4 (nI pw)) (12 + g_nm σ) 5 (nI mn)) (12 + g_nm σ) 6 (nI (g_nw σ))) (12 + g_nm σ) 7 (1073741823)) (12 + g_nm σ) 8 (5)) (by omega) (ab_F_lt (by omega)) hB0
  have g1' : mi_X3_addMast_30 ab_F (ab_pi (ab_pi (ab_pi (ab_pi (ab_pi (ab_pi (ab_pi (ab_pi (ab_pi M (12 + g_nm σ) 0 (nI (g_nm σ))) (12 + g_nm σ) 1 (nI kd)) (12 + g_nm σ) 2 (nI px)) (12 + g_nm σ) 3 (nI py)) (12 + g_nm σ) 4 (nI pw)) (12 + g_nm σ) 5 (nI mn)) (12 + g_nm σ) 6 (nI (g_nw σ))) (12 + g_nm σ) 7 (1073741823)) (12 + g_nm σ) 8 (5)) (nI mn) (nI (g_nm σ)) 0 = some (nI mn, A) := g1
  have sc : ∀ c j, c ≠ 3 → c ≠ 12 + g_nm σ → (c ≠ 1 ∨ (j ≠ 7 ∧ j ≠ 8)) → (ab_pi (ab_pi A 1 7 (nI (g_nm σ + 1))) 1 8 (nI (g_nw σ + mn))).1 c j = M.1 c j := fun c j a b d => by
    rw [pi_ne (by omega), pi_ne (by omega), g2 c j a]
    iterate 9 rw [pi_ne (by omega)]
  have hB : RepB (sgm σ kd px py pw mn) (ab_pi (ab_pi A 1 7 (nI (g_nm σ + 1))) 1 8 (nI (g_nw σ + mn))) := by
    obtain ⟨c1, c2, c3, c4, c5, c6, c7, c8, c9, c10, c11, c12⟩ := hI.2.2.1.1
    refine ⟨?_, ?_, ?_, ?_, ?_, ?_, ?_, ?_, ?_, fun m' hm' => ?_, fun w' hw' => ?_, fun i' hi' => ?_⟩
    · rw [pi_ne (by omega), pi_eq]; rfl
    · rw [pi_eq]; rfl
    · rw [sc _ _ (by omega) (by omega) (by omega)]; exact c3
    · rw [sc _ _ (by omega) (by omega) (by omega)]; exact c4
    · rw [sc _ _ (by omega) (by omega) (by omega)]; exact c5
    · rw [sc _ _ (by omega) (by omega) (by omega)]; exact c6
    · rw [sc _ _ (by omega) (by omega) (by omega)]; exact c7
    · rw [sc _ _ (by omega) (by omega) (by omega)]; exact c8
    · rw [sc _ _ (by omega) (by omega) (by omega)]; exact c9
    · have hm2 : m' < g_nm σ + 1 := hm'
      by_cases e : m' = g_nm σ
      · refine ⟨?_, ?_, ?_, ?_, ?_, ?_, ?_, ?_, ?_⟩
        · show _ = nI m'
          rw [e, pi_ne (by omega), pi_ne (by omega), g2 _ _ (by omega), pi_ne (by omega), pi_ne (by omega), pi_ne (by omega), pi_ne (by omega), pi_ne (by omega), pi_ne (by omega), pi_ne (by omega), pi_ne (by omega), pi_eq]
        · show _ = nI (fup (σ 1) (g_nm σ) (kd) m')
          rw [e, fup_eq, pi_ne (by omega), pi_ne (by omega), g2 _ _ (by omega), pi_ne (by omega), pi_ne (by omega), pi_ne (by omega), pi_ne (by omega), pi_ne (by omega), pi_ne (by omega), pi_ne (by omega), pi_eq]
        · show _ = nI (fup (σ 2) (g_nm σ) (px) m')
          rw [e, fup_eq, pi_ne (by omega), pi_ne (by omega), g2 _ _ (by omega), pi_ne (by omega), pi_ne (by omega), pi_ne (by omega), pi_ne (by omega), pi_ne (by omega), pi_ne (by omega), pi_eq]
        · show _ = nI (fup (σ 3) (g_nm σ) (py) m')
          rw [e, fup_eq, pi_ne (by omega), pi_ne (by omega), g2 _ _ (by omega), pi_ne (by omega), pi_ne (by omega), pi_ne (by omega), pi_ne (by omega), pi_ne (by omega), pi_eq]
        · show _ = nI (fup (σ 4) (g_nm σ) (pw) m')
          rw [e, fup_eq, pi_ne (by omega), pi_ne (by omega), g2 _ _ (by omega), pi_ne (by omega), pi_ne (by omega), pi_ne (by omega), pi_ne (by omega), pi_eq]
        · show _ = nI (fup (σ 5) (g_nm σ) (mn) m')
          rw [e, fup_eq, pi_ne (by omega), pi_ne (by omega), g2 _ _ (by omega), pi_ne (by omega), pi_ne (by omega), pi_ne (by omega), pi_eq]
        · show _ = nI (fup (σ 6) (g_nm σ) (g_nw σ) m')
          rw [e, fup_eq, pi_ne (by omega), pi_ne (by omega), g2 _ _ (by omega), pi_ne (by omega), pi_ne (by omega), pi_eq]
        · show _ = nI (fup (σ 7) (g_nm σ) (1073741823) m')
          rw [e, fup_eq, pi_ne (by omega), pi_ne (by omega), g2 _ _ (by omega), pi_ne (by omega), pi_eq]; rfl
        · show _ = nI (fup (σ 8) (g_nm σ) (5) m')
          rw [e, fup_eq, pi_ne (by omega), pi_ne (by omega), g2 _ _ (by omega), pi_eq]; rfl
      · have hm1 := hS.m12 (show m' < g_nm σ by omega)
        obtain ⟨d0, d1, d2, d3, d4, d5, d6, d7, d8⟩ := c10 m' (by omega)
        refine ⟨?_, ?_, ?_, ?_, ?_, ?_, ?_, ?_, ?_⟩
        · show _ = nI m'
          rw [sc _ _ (by omega) (by omega) (by omega)]; exact d0
        · show _ = nI (fup (σ 1) (g_nm σ) (kd) m')
          rw [fup_ne e, sc _ _ (by omega) (by omega) (by omega)]; exact d1
        · show _ = nI (fup (σ 2) (g_nm σ) (px) m')
          rw [fup_ne e, sc _ _ (by omega) (by omega) (by omega)]; exact d2
        · show _ = nI (fup (σ 3) (g_nm σ) (py) m')
          rw [fup_ne e, sc _ _ (by omega) (by omega) (by omega)]; exact d3
        · show _ = nI (fup (σ 4) (g_nm σ) (pw) m')
          rw [fup_ne e, sc _ _ (by omega) (by omega) (by omega)]; exact d4
        · show _ = nI (fup (σ 5) (g_nm σ) (mn) m')
          rw [fup_ne e, sc _ _ (by omega) (by omega) (by omega)]; exact d5
        · show _ = nI (fup (σ 6) (g_nm σ) (g_nw σ) m')
          rw [fup_ne e, sc _ _ (by omega) (by omega) (by omega)]; exact d6
        · show _ = nI (fup (σ 7) (g_nm σ) (1073741823) m')
          rw [fup_ne e, sc _ _ (by omega) (by omega) (by omega)]; exact d7
        · show _ = nI (fup (σ 8) (g_nm σ) (5) m')
          rw [fup_ne e, sc _ _ (by omega) (by omega) (by omega)]; exact d8
    · have hw2 : w' < g_nw σ + mn := hw'
      show _ = nI (if w' < g_nw σ then σ 9 w' else g_nm σ) ∧ _ = pv (if w' < g_nw σ then σ 10 w' else 0)
      rw [sc 4 _ (by omega) (by omega) (by omega)]
      by_cases e : w' < g_nw σ
      · rw [if_pos e, if_pos e, pi_ne (by omega), pi_ne (by omega), g4 w' (by omega)]
        iterate 9 rw [pi_ne (by omega)]
        exact c11 w' e
      · rw [if_neg e, if_neg e, pi_ne (by omega), pi_ne (by omega), g5 w' (by omega) (by omega)]
        exact ⟨rfl, (a7 w' (by omega) (by omega)).2⟩
    · rw [sc _ _ (by omega) (by omega) (by omega), sc _ _ (by omega) (by omega) (by omega), sc _ _ (by omega) (by omega) (by omega)]; exact c12 i' hi'
  obtain ⟨M1, m1, m2, m3, m4⟩ := c_measure hS' hB
  refine ⟨M1, ?_, m4, m3.trans g3, fun c j a b d e f => by rw [m2 c j b d, sc c j a e f]⟩
  unfold mi_X3_addMast mi_X4_begin mi_X4_goTo
  rw [hI.2.2.1.1.1, hI.2.2.1.1.2.1, ab_chk_pos (vin hm), nI_clamp (by omega), d1, d2, Option.bind_some, Option.bind_some, g1', Option.bind_some]
  have e7 : A.1 1 7 = nI (g_nm σ) := by rw [g2 1 7 (by decide)]; exact hB7
  have e8 : (ab_pi A 1 7 (nI (g_nm σ + 1))).1 1 8 = nI (g_nw σ) := by rw [pi_ne (by omega), g2 1 8 (by decide)]; exact hB0
  show ((mi_X3_measure (ab_pi (ab_pi A 1 7 (A.1 1 7 + 1)) 1 8 ((ab_pi A 1 7 (A.1 1 7 + 1)).1 1 8 + nI mn))).bind fun q8 => some (nI (g_nm σ), q8)) = _
  rw [e7, show nI (g_nm σ) + 1 = nI (g_nm σ + 1) from nI_add _ 1, e8, nI_add, m1, Option.bind_some]
