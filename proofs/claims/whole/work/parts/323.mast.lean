/-! PURE: mast, the model and both (printed by wip/whole/gen/land6.py) -/
theorem o_mast2 {σ : Sg} {M M1 : ab_M} (hS : Sok σ) (hR : RepR σ M1) {kd px py pw mn : Nat} (h1 : kd ≤ 3) (h2 : px ≤ 60) (h3 : py ≤ 60) (h4 : pw ≤ 3) (h5 : 1 ≤ mn) (h6 : mn ≤ 3) (hm : g_nm σ < 12) (hw : g_nw σ + mn ≤ 16) : ∃ M2, mi_X10_mast M1 (nI kd) (nI (64 * px + py)) (nI pw) (nI mn) = some (nI (g_nm σ), M2) ∧ RepR (sgm σ kd px py pw mn) M2 ∧ M2.2 = M1.2 ∧ (∀ c j, (c ≠ 69 ∨ (j ≠ 0 ∧ j ≠ 1 ∧ j ≠ 10)) → (c < 70 ∨ 80 < c) → M2.1 c j = M1.1 c j) ∧ (∀ w, w < g_nw σ → M2.1 80 w = M1.1 80 w) ∧ ∀ w, g_nw σ ≤ w → w < g_nw σ + mn → M2.1 80 w = -2 := by
  obtain ⟨d1, d2⟩ := plc_div h2 h3
  have e1 : (ab_pi M1 69 0 0).1 69 1 = nI (g_nm σ) := by rw [pi_ne (by omega)]; exact hR.1
  have e10 : (ab_pi M1 69 0 0).1 69 10 = nI (g_nw σ) := by rw [pi_ne (by omega)]; exact hR.2.1
  have r70 : ∀ (X : ab_M) (i : Nat) (v : Int32) (k : Nat), (ab_pi X 70 i v).1 69 k = X.1 69 k := fun X i v k => pi_ne (by omega)
  have r71 : ∀ (X : ab_M) (i : Nat) (v : Int32) (k : Nat), (ab_pi X 71 i v).1 69 k = X.1 69 k := fun X i v k => pi_ne (by omega)
  have r72 : ∀ (X : ab_M) (i : Nat) (v : Int32) (k : Nat), (ab_pi X 72 i v).1 69 k = X.1 69 k := fun X i v k => pi_ne (by omega)
  have r73 : ∀ (X : ab_M) (i : Nat) (v : Int32) (k : Nat), (ab_pi X 73 i v).1 69 k = X.1 69 k := fun X i v k => pi_ne (by omega)
  have r74 : ∀ (X : ab_M) (i : Nat) (v : Int32) (k : Nat), (ab_pi X 74 i v).1 69 k = X.1 69 k := fun X i v k => pi_ne (by omega)
  have r75 : ∀ (X : ab_M) (i : Nat) (v : Int32) (k : Nat), (ab_pi X 75 i v).1 69 k = X.1 69 k := fun X i v k => pi_ne (by omega)
  have r76 : ∀ (X : ab_M) (i : Nat) (v : Int32) (k : Nat), (ab_pi X 76 i v).1 69 k = X.1 69 k := fun X i v k => pi_ne (by omega)
  have r77 : ∀ (X : ab_M) (i : Nat) (v : Int32) (k : Nat), (ab_pi X 77 i v).1 69 k = X.1 69 k := fun X i v k => pi_ne (by omega)
  obtain ⟨R, g1, g2, g3, g4, g5, g6⟩ := r_mast169 (nm := g_nm σ) hw mn 0 ab_F (ab_pi (ab_pi (ab_pi (ab_pi (ab_pi (ab_pi (ab_pi (ab_pi (ab_pi M1 69 0 0) 70 (g_nm σ) (nI kd)) 71 (g_nm σ) (nI px)) 72 (g_nm σ) (nI py)) 73 (g_nm σ) (nI pw)) 74 (g_nm σ) (nI mn)) 75 (g_nm σ) (nI (g_nw σ))) 76 (g_nm σ) (1073741823)) 77 (g_nm σ) (5)) (by omega) (ab_F_lt (by omega)) (by rw [r77, r76, r75, r74, r73, r72, r71, r70]; exact e1) (by rw [r77, r76, r75, r74, r73, r72, r71, r70]; exact e10)
  have g1' : mi_X10_mast_169 ab_F (ab_pi (ab_pi (ab_pi (ab_pi (ab_pi (ab_pi (ab_pi (ab_pi (ab_pi M1 69 0 0) 70 (g_nm σ) (nI kd)) 71 (g_nm σ) (nI px)) 72 (g_nm σ) (nI py)) 73 (g_nm σ) (nI pw)) 74 (g_nm σ) (nI mn)) 75 (g_nm σ) (nI (g_nw σ))) 76 (g_nm σ) (1073741823)) 77 (g_nm σ) (5)) (nI mn) 0 = some (nI mn, R) := g1
  have sc : ∀ c j, (c ≠ 69 ∨ (j ≠ 0 ∧ j ≠ 1 ∧ j ≠ 10)) → (c < 70 ∨ 80 < c ∨ (c < 78 ∧ j ≠ g_nm σ)) → (ab_pi R 69 1 (nI (g_nm σ + 1))).1 c j = M1.1 c j := fun c j a b => by
    rw [pi_ne (by omega), g2 c j (by omega) (by omega) (by omega) (by omega)]
    iterate 9 rw [pi_ne (by omega)]
  have er : R.1 69 1 = nI (g_nm σ) := by
    rw [g2 69 1 (by omega) (by omega) (by omega) (by omega), r77, r76, r75, r74, r73, r72, r71, r70]
    exact e1
  refine ⟨(ab_pi R 69 1 (nI (g_nm σ + 1))), ?_, ?_, g3, fun c j a b => sc c j a (by omega), fun w hw' => ?_, fun w q1 q2 => ?_⟩
  · have i1 : ∀ X : ab_M, mi_X10_isIn X (nI kd).toInt64 0 3 = some 1 := fun X => (r_isIn X (nI kd) 0 3).trans (congrArg some (if_pos ⟨nI_pos' (by omega), nI_le h1 (by decide)⟩))
    have i2 : ∀ X : ab_M, mi_X10_isIn X (nI pw).toInt64 0 3 = some 1 := fun X => (r_isIn X (nI pw) 0 3).trans (congrArg some (if_pos ⟨nI_pos' (by omega), nI_le h4 (by decide)⟩))
    have i3 : ∀ X : ab_M, mi_X10_isIn X (nI mn).toInt64 1 3 = some 1 := fun X => (r_isIn X (nI mn) 1 3).trans (congrArg some (if_pos ⟨nI_le h5 (by omega), nI_le h6 (by decide)⟩))
    have i4 : ∀ X : ab_M, mi_X10_isPlace X (nI (64 * px + py)) = some 1 := fun X => by
      rcases c_isPlace X (nI (64 * px + py)) with ⟨-, -, q⟩ | ⟨-, q, -⟩
      · exact absurd ⟨px, py, h2, h3, rfl⟩ q
      · exact q
    have n1 : ¬ (1 : Int32) = 0 := by decide
    unfold mi_X10_mast
    rw [i1, Option.bind_some, if_neg n1, i4, Option.bind_some, if_neg n1, i2, Option.bind_some, if_neg n1, i3, Option.bind_some, if_neg n1, d1, d2]
    simp only [r70, r71, r72, r73, r74, r75, r76, r77, e1, e10, nI_clamp (show g_nm σ < 2 ^ 31 by omega), vin hm, ab_chk_true]
    rw [if_neg (show ¬ nI (g_nm σ) = (12 : Int32) from fun q => by have := (nI_eq (b := 12) (by omega) (by decide)).mp q; omega), nI_add, if_pos (show nI (g_nw σ + mn) ≤ (16 : Int32) from nI_le hw (by decide)), g1', Option.bind_some]
    show some ((ab_pi R 69 1 (R.1 69 1 + 1)).1 69 1 - 1, ab_pi R 69 1 (R.1 69 1 + 1)) = _
    rw [er, show nI (g_nm σ) + 1 = nI (g_nm σ + 1) from nI_add _ 1, pi_eq, nI_m1 (by omega), Nat.add_sub_cancel]
  · obtain ⟨c1, c2, c3, c4, c5, c6, c7, c8, c9, c10, c11, c12⟩ := hR
    refine ⟨?_, ?_, ?_, ?_, ?_, ?_, ?_, ?_, ?_, fun m' hm' => ?_, fun w' hw' => ?_, fun i' hi' => ?_⟩
    · rw [pi_eq]; rfl
    · rw [pi_ne (by omega), g4]; rfl
    · rw [sc _ _ (by omega) (by omega)]; exact c3
    · rw [sc _ _ (by omega) (by omega)]; exact c4
    · rw [sc _ _ (by omega) (by omega)]; exact c5
    · rw [sc _ _ (by omega) (by omega)]; exact c6
    · rw [sc _ _ (by omega) (by omega)]; exact c7
    · rw [sc _ _ (by omega) (by omega)]; exact c8
    · rw [sc _ _ (by omega) (by omega)]; exact c9
    · have hm2 : m' < g_nm σ + 1 := hm'
      by_cases e : m' = g_nm σ
      · refine ⟨?_, ?_, ?_, ?_, ?_, ?_, ?_, ?_⟩
        · show _ = nI (fup (σ 1) (g_nm σ) (kd) m')
          rw [e, fup_eq, pi_ne (by omega), g2 _ _ (by omega) (by omega) (by omega) (by omega), pi_ne (by omega), pi_ne (by omega), pi_ne (by omega), pi_ne (by omega), pi_ne (by omega), pi_ne (by omega), pi_ne (by omega), pi_eq]
        · show _ = nI (fup (σ 2) (g_nm σ) (px) m')
          rw [e, fup_eq, pi_ne (by omega), g2 _ _ (by omega) (by omega) (by omega) (by omega), pi_ne (by omega), pi_ne (by omega), pi_ne (by omega), pi_ne (by omega), pi_ne (by omega), pi_ne (by omega), pi_eq]
        · show _ = nI (fup (σ 3) (g_nm σ) (py) m')
          rw [e, fup_eq, pi_ne (by omega), g2 _ _ (by omega) (by omega) (by omega) (by omega), pi_ne (by omega), pi_ne (by omega), pi_ne (by omega), pi_ne (by omega), pi_ne (by omega), pi_eq]
        · show _ = nI (fup (σ 4) (g_nm σ) (pw) m')
          rw [e, fup_eq, pi_ne (by omega), g2 _ _ (by omega) (by omega) (by omega) (by omega), pi_ne (by omega), pi_ne (by omega), pi_ne (by omega), pi_ne (by omega), pi_eq]
        · show _ = nI (fup (σ 5) (g_nm σ) (mn) m')
          rw [e, fup_eq, pi_ne (by omega), g2 _ _ (by omega) (by omega) (by omega) (by omega), pi_ne (by omega), pi_ne (by omega), pi_ne (by omega), pi_eq]
        · show _ = nI (fup (σ 6) (g_nm σ) (g_nw σ) m')
          rw [e, fup_eq, pi_ne (by omega), g2 _ _ (by omega) (by omega) (by omega) (by omega), pi_ne (by omega), pi_ne (by omega), pi_eq]
        · show _ = nI (fup (σ 7) (g_nm σ) (1073741823) m')
          rw [e, fup_eq, pi_ne (by omega), g2 _ _ (by omega) (by omega) (by omega) (by omega), pi_ne (by omega), pi_eq]; rfl
        · show _ = nI (fup (σ 8) (g_nm σ) (5) m')
          rw [e, fup_eq, pi_ne (by omega), g2 _ _ (by omega) (by omega) (by omega) (by omega), pi_eq]; rfl
      · obtain ⟨d0, d1, d2, d3, d4, d5, d6, d7⟩ := c10 m' (by omega)
        refine ⟨?_, ?_, ?_, ?_, ?_, ?_, ?_, ?_⟩
        · show _ = nI (fup (σ 1) (g_nm σ) (kd) m')
          rw [fup_ne e, sc _ _ (by omega) (by omega)]; exact d0
        · show _ = nI (fup (σ 2) (g_nm σ) (px) m')
          rw [fup_ne e, sc _ _ (by omega) (by omega)]; exact d1
        · show _ = nI (fup (σ 3) (g_nm σ) (py) m')
          rw [fup_ne e, sc _ _ (by omega) (by omega)]; exact d2
        · show _ = nI (fup (σ 4) (g_nm σ) (pw) m')
          rw [fup_ne e, sc _ _ (by omega) (by omega)]; exact d3
        · show _ = nI (fup (σ 5) (g_nm σ) (mn) m')
          rw [fup_ne e, sc _ _ (by omega) (by omega)]; exact d4
        · show _ = nI (fup (σ 6) (g_nm σ) (g_nw σ) m')
          rw [fup_ne e, sc _ _ (by omega) (by omega)]; exact d5
        · show _ = nI (fup (σ 7) (g_nm σ) (1073741823) m')
          rw [fup_ne e, sc _ _ (by omega) (by omega)]; exact d6
        · show _ = nI (fup (σ 8) (g_nm σ) (5) m')
          rw [fup_ne e, sc _ _ (by omega) (by omega)]; exact d7
    · have hw2 : w' < g_nw σ + mn := hw'
      show _ = nI (if w' < g_nw σ then σ 9 w' else g_nm σ) ∧ _ = nI (if w' < g_nw σ then σ 10 w' else 0) - 1
      rw [pi_ne (by omega), pi_ne (by omega)]
      by_cases e : w' < g_nw σ
      · obtain ⟨q1, q2, -⟩ := g5 w' (by omega)
        rw [if_pos e, if_pos e, q1, q2]
        iterate 9 rw [pi_ne (by omega)]
        iterate 9 rw [pi_ne (by omega)]
        exact c11 w' e
      · obtain ⟨q1, q2, -⟩ := g6 w' (by omega) (by omega)
        rw [if_neg e, if_neg e, q1, q2]
        exact ⟨rfl, rfl⟩
    · rw [sc _ _ (by omega) (by omega), sc _ _ (by omega) (by omega), sc _ _ (by omega) (by omega)]; exact c12 i' hi'
  · rw [pi_ne (by omega), (g5 w (by omega)).2.2]
    iterate 9 rw [pi_ne (by omega)]
  · rw [pi_ne (by omega)]
    exact (g6 w (by omega) q2).2.2
theorem o_mast {σ : Sg} {p : Nat → Nat} {M : ab_M} (hI : InvS σ p M) (x y z t : Int32) : Ans (mi_X9_mast M x y z t) (fun M => mi_X10_mast M x y z t) := by
  have hS := hI.1
  have hT := hI.thr 0
  have hnm := hS.nm
  have hnw := hS.nw
  have n1 : ¬ (1 : Int32) = 0 := by decide
  have i1 : ∀ X : ab_M, mi_X10_isIn X x.toInt64 0 3 = some (if 0 ≤ x ∧ x ≤ 3 then 1 else 0) := fun X => r_isIn X x 0 3
  have i2 : ∀ X : ab_M, mi_X10_isIn X z.toInt64 0 3 = some (if 0 ≤ z ∧ z ≤ 3 then 1 else 0) := fun X => r_isIn X z 0 3
  have i3 : ∀ X : ab_M, mi_X10_isIn X t.toInt64 1 3 = some (if 1 ≤ t ∧ t ≤ 3 then 1 else 0) := fun X => r_isIn X t 1 3
  by_cases h1 : 0 ≤ x ∧ x ≤ 3
  · rcases c_isPlace M y with ⟨p1, p2, p3⟩ | ⟨p1, p2, p3⟩
    · refine Ans.m1 hI (v := -1) ?_ ?_
      · unfold mi_X9_mast
        rw [w_eq, b_if, if_pos h1, p1, Option.bind_some, if_pos rfl]
      · show mi_X10_mast M x y z t = _
        unfold mi_X10_mast
        rw [i1, b_if, if_pos h1, isPlace_any _ M, p2, Option.bind_some, if_pos rfl]
    · by_cases h3 : 0 ≤ z ∧ z ≤ 3
      · by_cases h4 : 1 ≤ t ∧ t ≤ 3
        · obtain ⟨kd, q1, rfl⟩ := ix_le (n := 3) (by decide) h1
          obtain ⟨pw, q3, rfl⟩ := ix_le (n := 3) (by decide) h3
          obtain ⟨mn, q4, q5, rfl⟩ := ix_rng (a := 1) (b := 3) (by decide) h4 (by decide)
          by_cases h12 : g_nm σ = 12
          · refine Ans.m1 hI (v := -2) ?_ ?_
            · unfold mi_X9_mast
              rw [w_eq, b_if, if_pos h1, p1, Option.bind_some, if_neg n1, w_eq, b_if, if_pos h3, w_eq, b_if, if_pos h4, hI.2.2.1.1.1, h12]
              rfl
            · show mi_X10_mast M (nI kd) y (nI pw) (nI mn) = _
              unfold mi_X10_mast
              rw [i1, b_if, if_pos h1, isPlace_any _ M, p2, Option.bind_some, if_neg n1, i2, b_if, if_pos h3, i3, b_if, if_pos h4, if_pos (show (ab_pi M 69 0 0).1 69 1 = 12 by rw [hT.2.2.2.1.1, h12]; rfl)]
          · by_cases h16 : g_nw σ + mn ≤ 16
            · obtain ⟨px, py, ha, hb, rfl⟩ := p3
              obtain ⟨M1, f1, f2, f3, f4⟩ := o_mast1 hI q1 ha hb q3 q4 q5 (show g_nm σ < 12 by omega) h16
              have hR1 : RepR σ M1 := hI.2.2.2.1.same hS (fun c j hc => by unfold fR at hc; exact f4 c j (by omega) (by omega) (by omega) (by omega) (by omega))
              obtain ⟨M2, l1, l2, l3, l4, l5, l6⟩ := o_mast2 (M := M) hS hR1 q1 ha hb q3 q4 q5 (show g_nm σ < 12 by omega) h16
              have k1 : mi_X9_mast M (nI kd) (nI (64 * px + py)) (nI pw) (nI mn) = some (nI (g_nm σ), M1) := by
                unfold mi_X9_mast
                rw [w_eq, b_if, if_pos h1, p1, Option.bind_some, if_neg n1, w_eq, b_if, if_pos h3, w_eq, b_if, if_pos h4, hI.2.2.1.1.1, hI.2.2.1.1.2.1, if_neg (show ¬ (12 : Int32) ≤ nI (g_nm σ) from Int32.not_le.mpr (nI_lt (show g_nm σ < 12 by omega) (by decide))), nI_add, if_pos (show nI (g_nw σ + mn) ≤ (16 : Int32) from nI_le h16 (by decide)), f1, Option.bind_some]
              have s2 : ∀ c j, c ≠ 3 → c ≠ 10 → c ≠ 11 → c ≠ 12 + g_nm σ → (c ≠ 1 ∨ (j ≠ 7 ∧ j ≠ 8)) → (c ≠ 69 ∨ (j ≠ 0 ∧ j ≠ 1 ∧ j ≠ 10)) → (c < 70 ∨ 80 < c) → M2.1 c j = M.1 c j := fun c j a b d e f g h => by rw [l4 c j g h, f4 c j a b d e f]
              have hS' := hS.sgm q1 ha hb q3 q4 q5 (show g_nm σ < 12 by omega) h16
              obtain ⟨a1, a2, a3, a4, a5, a6, a7, a8, a9, a10⟩ := hI
              refine ⟨_, _, _, k1, l1, (sgm σ kd px py pw mn), (fun w => if w < g_nw σ then p w else 0), hS', fun w hw => ?_, f2.same hS' (fun c j hc => by unfold fC fB at hc; exact l4 c j (by omega) (by omega)), l2, fun w hw => ?_, fun w hw => ?_, fun w w1 w2 => ?_, ?_, a9.same (s2 26 5 (by omega) (by omega) (by omega) (by omega) (by omega) (by omega) (by omega)) (s2 69 25 (by omega) (by omega) (by omega) (by omega) (by omega) (by omega) (by omega)), a10.same (fun c j hc => by unfold fS at hc; exact s2 c j (by omega) (by omega) (by omega) (by omega) (by omega) (by omega) (by omega)) (fun c j _ => congrFun (congrFun (l3.trans f3) c) j)⟩
              · show (if w < g_nw σ then p w else 0) ≤ 30
                split
                · exact a2 w (by omega)
                · omega
              · have hw2 : w < g_nw σ + mn := hw
                show _ = pv (if w < g_nw σ then p w else 0)
                rw [s2 67 w (by omega) (by omega) (by omega) (by omega) (by omega) (by omega) (by omega)]
                by_cases e : w < g_nw σ
                · rw [if_pos e]; exact a5 w e
                · rw [if_neg e]; exact (a7 w (by omega) (by omega)).1
              · have hw2 : w < g_nw σ + mn := hw
                show _ = pv (if w < g_nw σ then p w else 0)
                by_cases e : w < g_nw σ
                · rw [if_pos e, l5 w e, f4 80 w (by omega) (by omega) (by omega) (by omega) (by omega)]; exact a6 w e
                · rw [if_neg e, l6 w (by omega) hw2]; rfl
              · have w3 : g_nw σ + mn ≤ w := w1
                rw [s2 67 w (by omega) (by omega) (by omega) (by omega) (by omega) (by omega) (by omega), s2 4 w (by omega) (by omega) (by omega) (by omega) (by omega) (by omega) (by omega)]
                exact a7 w (by omega) w2
              · have i0 : Img σ M2 := a8.same (fun c j hc => by unfold fI at hc; exact s2 c j (by omega) (by omega) (by omega) (by omega) (by omega) (by omega) (by omega))
                obtain ⟨b1, b2⟩ := i0
                refine ⟨b1, b2.imp id ?_⟩
                rintro ⟨k, c1, c2, c3⟩
                exact ⟨k, show k ≤ g_nw σ + mn by omega, c2, c3⟩
            · refine Ans.m1 hI (v := -2) ?_ ?_
              · unfold mi_X9_mast
                rw [w_eq, b_if, if_pos h1, p1, Option.bind_some, if_neg n1, w_eq, b_if, if_pos h3, w_eq, b_if, if_pos h4, hI.2.2.1.1.1, hI.2.2.1.1.2.1, if_neg (show ¬ (12 : Int32) ≤ nI (g_nm σ) from Int32.not_le.mpr (nI_lt (show g_nm σ < 12 by omega) (by decide))), nI_add, if_neg (show ¬ nI (g_nw σ + mn) ≤ (16 : Int32) from Int32.not_le.mpr (nI_lt (show 16 < g_nw σ + mn by omega) (by omega)))]
              · show mi_X10_mast M (nI kd) y (nI pw) (nI mn) = _
                unfold mi_X10_mast
                rw [i1, b_if, if_pos h1, isPlace_any _ M, p2, Option.bind_some, if_neg n1, i2, b_if, if_pos h3, i3, b_if, if_pos h4, if_neg (show ¬ (ab_pi M 69 0 0).1 69 1 = 12 from fun q => h12 ((nI_eq (b := 12) (by omega) (by decide)).mp (hT.2.2.2.1.1.symm.trans q))), hT.2.2.2.1.2.1, nI_add, if_neg (show ¬ nI (g_nw σ + mn) ≤ (16 : Int32) from Int32.not_le.mpr (nI_lt (show 16 < g_nw σ + mn by omega) (by omega)))]
        · refine Ans.m1 hI (v := -1) ?_ ?_
          · unfold mi_X9_mast
            rw [w_eq, b_if, if_pos h1, p1, Option.bind_some, if_neg n1, w_eq, b_if, if_pos h3, w_eq, b_if, if_neg h4]
          · show mi_X10_mast M x y z t = _
            unfold mi_X10_mast
            rw [i1, b_if, if_pos h1, isPlace_any _ M, p2, Option.bind_some, if_neg n1, i2, b_if, if_pos h3, i3, b_if, if_neg h4]
      · refine Ans.m1 hI (v := -1) ?_ ?_
        · unfold mi_X9_mast
          rw [w_eq, b_if, if_pos h1, p1, Option.bind_some, if_neg n1, w_eq, b_if, if_neg h3]
        · show mi_X10_mast M x y z t = _
          unfold mi_X10_mast
          rw [i1, b_if, if_pos h1, isPlace_any _ M, p2, Option.bind_some, if_neg n1, i2, b_if, if_neg h3]
  · refine Ans.m1 hI (v := -1) ?_ ?_
    · unfold mi_X9_mast
      rw [w_eq, b_if, if_neg h1]
    · show mi_X10_mast M x y z t = _
      unfold mi_X10_mast
      rw [i1, b_if, if_neg h1]
