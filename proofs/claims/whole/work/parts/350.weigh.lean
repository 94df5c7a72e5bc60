/-! PURE: the class's weighing: lacks, and all -/
theorem alg_1 (x y z : Int32) : (x - y) - (z - 1) = (x + 1) - (y + z) := by
  rw [Int32.sub_eq_add_neg (x - y), Int32.neg_sub, Int32.sub_eq_add_neg (x + 1), Int32.neg_add, Int32.sub_eq_add_neg, Int32.sub_eq_add_neg, Int32.sub_eq_add_neg]
  rw [Int32.add_assoc, Int32.add_assoc, ← Int32.add_assoc (-y) 1 (-z), Int32.add_comm (-y) 1, Int32.add_assoc 1 (-y) (-z)]
theorem alg_2 (x z : Int32) : x + (z - 1) = x + z - 1 := by
  rw [Int32.sub_eq_add_neg, Int32.sub_eq_add_neg, Int32.add_assoc]
theorem gl_self (c g : Nat) : c ∈ gl c g := by unfold gl; split <;> simp
theorem c_lacks60 {σ : Sg} {p : Nat → Nat} {M0 : ab_M} (hS : Sok σ) (hC : RepC σ M0) (hp : Pok σ p) (hP : PlC σ p 67 M0) {u w h : Nat} (hu : u < g_nw σ) (hw : w < g_nw σ) (pu : p u ≠ 0) (hh : h ≤ 30) : ∀ (k j n : Nat) (M : ab_M), h - j = k → k < n → O25 M0 M → j < 2000 → ∃ M' y, mi_X2_addLacks_60 n M 67 (nI u) (nI w) (nI h - 1) (nI j) = some (y, M') ∧ AC M (fun c => if j ≤ c ∧ c < h then lackN (bar σ (g_mo σ u) (g_mo σ w)) (pch σ p u) (chs σ w c) else 0) M' := by
  have hu16 := hS.w16 hu
  have hpu := hp u hu
  obtain ⟨a, ha⟩ : ∃ c, p u = c + 1 := ⟨p u - 1, by omega⟩
  have f1 : pch σ p u = chs σ u a := by unfold pch; rw [if_neg pu, ha, Nat.add_sub_cancel]
  intro k
  induction k with
  | zero =>
    intro j n M hj hn hM hj2
    obtain ⟨n, rfl⟩ : ∃ m, n = m + 1 := ⟨n - 1, by omega⟩
    rw [mi_X2_addLacks_60.eq_2, if_pos ((nI_m1_lt (by omega) (by omega)).mpr (by omega))]
    exact ⟨M, _, rfl, (AC.zero M).eq (fun c hc => by rw [if_neg (by omega)])⟩
  | succ k ih =>
    intro j n M hj hn hM hj2
    obtain ⟨n, rfl⟩ : ∃ m, n = m + 1 := ⟨n - 1, by omega⟩
    have e1 : M.1 67 u = nI a := by rw [hM.P hP u hu, ha, pv_s]
    rw [mi_X2_addLacks_60.eq_2, if_neg (fun z => by have := (nI_m1_lt (by omega) (by omega)).mp z; omega), ab_chk_pos (vin (show j < 30 by omega)), ab_chk_pos (vin hu16), nI_clamp (show u < 2 ^ 31 by omega), nI_clamp (show j < 2 ^ 31 by omega), e1, c_lackAt hS (hM.C hS hC) hu hw (by omega) (by omega), Option.bind_some, ab_chk_pos (vin (show j < 30 by omega)), nI_1]
    have q := AC.one (M := M) (j := j) (v := lackN (bar σ (g_mo σ u) (g_mo σ w)) (chs σ u a) (chs σ w j)) (by omega)
    obtain ⟨M', y, r1, r2⟩ := ih (j + 1) n _ (by omega) (by omega) (hM.trans q.1) (by omega)
    refine ⟨M', y, r1, (q.trans r2).eq (fun c hc => ?_)⟩
    rw [f1]
    by_cases h1 : c = j
    · rw [if_pos h1, if_neg (by omega), if_pos (by omega), h1, Nat.add_zero]
    · rw [if_neg h1, Nat.zero_add]
      by_cases h2 : j + 1 ≤ c ∧ c < h
      · rw [if_pos h2, if_pos (by omega)]
      · rw [if_neg h2, if_neg (by omega)]
theorem c_addLacks {σ : Sg} {p : Nat → Nat} {M0 M : ab_M} (hS : Sok σ) (hC : RepC σ M0) (hp : Pok σ p) (hP : PlC σ p 67 M0) (hM : O25 M0 M) {u w : Nat} (hu : u < g_nw σ) (hw : w < g_nw σ) (pu : p u ≠ 0) : ∃ M', mi_X2_addLacks M 67 (nI u) (nI w) = some M' ∧ AC M (fun c => lackN (bar σ (g_mo σ u) (g_mo σ w)) (pch σ p u) (chs σ w c)) M' := by
  have hu16 := hS.w16 hu
  have hgu := gapW_le hS hu
  have hgw := gapW_le hS hw
  have hb := bar_le hS (g_mo σ u) (g_mo σ w)
  have hpu := hp u hu
  have hCM := hM.C hS hC
  obtain ⟨a, ha⟩ : ∃ c, p u = c + 1 := ⟨p u - 1, by omega⟩
  have e1 : M.1 67 u = nI a := by rw [hM.P hP u hu, ha, pv_s]
  have low : ab_max 0 ((nI a - nI (gapW σ w)) - (nI (bar σ (g_mo σ u) (g_mo σ w)) - 1)) = nI (a + 1 - (gapW σ w + bar σ (g_mo σ u) (g_mo σ w))) := by
    rw [alg_1, nI_1, nI_add, show (0 : Int32) = nI 0 from rfl, nI_lk (by omega) (by omega) (by omega), Nat.max_eq_right (Nat.zero_le _)]
  have high : ab_min 29 ((nI a + nI (gapW σ u)) + (nI (bar σ (g_mo σ u) (g_mo σ w)) - 1)) = nI (min 30 (a + gapW σ u + bar σ (g_mo σ u) (g_mo σ w))) - 1 := by
    rw [alg_2, nI_add, nI_add]
    unfold ab_min
    by_cases h : a + gapW σ u + bar σ (g_mo σ u) (g_mo σ w) < 30
    · rw [if_pos (show nI (a + gapW σ u + bar σ (g_mo σ u) (g_mo σ w)) - 1 < (29 : Int32) from (nI_m1_lt (c := 29) (by omega) (by decide)).mpr h), Nat.min_eq_right (by omega)]
    · rw [if_neg (show ¬ nI (a + gapW σ u + bar σ (g_mo σ u) (g_mo σ w)) - 1 < (29 : Int32) from fun z => h ((nI_m1_lt (c := 29) (by omega) (by decide)).mp z)), Nat.min_eq_left (by omega)]
      rfl
  unfold mi_X2_addLacks
  rw [c_barOfWants hS hCM hu hw, Option.bind_some, ab_chk_pos (vin hu16), c_gapOf hS hCM.1 hw, Option.bind_some, nI_clamp (show u < 2 ^ 31 by omega), e1, low, Option.bind_some, ab_chk_pos (vin hu16), c_gapOf hS hCM.1 hu, Option.bind_some, high, Option.bind_some]
  obtain ⟨M', y, r1, r2⟩ := c_lacks60 hS hC hp hP hu hw pu (h := min 30 (a + gapW σ u + bar σ (g_mo σ u) (g_mo σ w))) (by omega) _ (a + 1 - (gapW σ w + bar σ (g_mo σ u) (g_mo σ w))) ab_F M rfl (ab_F_lt (by omega)) hM (by omega)
  rw [r1, Option.bind_some]
  refine ⟨M', rfl, r2.eq (fun c hc => ?_)⟩
  by_cases h : a + 1 - (gapW σ w + bar σ (g_mo σ u) (g_mo σ w)) ≤ c ∧ c < min 30 (a + gapW σ u + bar σ (g_mo σ u) (g_mo σ w))
  · rw [if_pos h]
  · rw [if_neg h]
    symm
    rw [lackN_zero]
    intro x hx y hy
    rw [pch_gl hS hu pu, ha, Nat.add_sub_cancel] at hx
    rw [chs_gl hS hw] at hy
    have h1 := gl_mem hx
    have h2 := gl_mem hy
    unfold dst
    omega
theorem lackP_up {σ : Sg} {p : Nat → Nat} {u w c : Nat} (h : u ≠ w) : lackP σ (fup p w (c + 1)) u w = lackN (bar σ (g_mo σ u) (g_mo σ w)) (pch σ p u) (chs σ w c) := by
  unfold lackP
  rw [pch_up, pch_up, if_neg h, if_pos rfl]
theorem sumP_up {σ : Sg} {p : Nat → Nat} {u v w c : Nat} (h : u ≠ w) (h' : v ≠ w) : sumP σ (fup p w (c + 1)) u v w = if inn σ (g_mo σ u) (g_mo σ v) (g_mo σ w) then s3 (pch σ p u) (pch σ p v) (chs σ w c) else 0 := by
  unfold sumP
  rw [pch_up, pch_up, pch_up, if_neg h, if_neg h', if_pos rfl]
theorem c_w118 {σ : Sg} {p : Nat → Nat} {M0 : ab_M} (hS : Sok σ) (hC : RepC σ M0) (hp : Pok σ p) (hP : PlC σ p 67 M0) {u w : Nat} (hu : u < g_nw σ) (hw : w < g_nw σ) (huw : u ≠ w) (pu : p u ≠ 0) : ∀ (k j n : Nat) (M : ab_M), j + k = g_nw σ → k < n → O25 M0 M → ∃ M' y, mi_X2_weigh_118 n M 67 (nI w) (nI u) (nI (g_nw σ)) (nI j) = some (y, M') ∧ AC M (fun c => su (fun v => if v = w then 0 else 5 * sumP σ (fup p w (c + 1)) u v w) k j) M' := by
  have hnw := hS.nw
  have hw16 := hS.w16 hw
  intro k
  induction k with
  | zero =>
    intro j n M hj hn hM
    obtain ⟨n, rfl⟩ : ∃ m, n = m + 1 := ⟨n - 1, by omega⟩
    obtain rfl : j = g_nw σ := by omega
    rw [mi_X2_weigh_118.eq_2, if_pos (Int32.le_refl _)]
    exact ⟨M, _, rfl, AC.zero M⟩
  | succ k ih =>
    intro j n M hj hn hM
    obtain ⟨n, rfl⟩ : ∃ m, n = m + 1 := ⟨n - 1, by omega⟩
    have hjw : j < g_nw σ := by omega
    have hCM := hM.C hS hC
    rw [mi_X2_weigh_118.eq_2, if_neg (nI_ge hjw (by omega)), nI_1]
    have step : ∀ M1 : ab_M, AC M (fun c => if j = w then 0 else 5 * sumP σ (fup p w (c + 1)) u j w) M1 → ∃ M' y, mi_X2_weigh_118 n M1 67 (nI w) (nI u) (nI (g_nw σ)) (nI (j + 1)) = some (y, M') ∧ AC M (fun c => su (fun v => if v = w then 0 else 5 * sumP σ (fup p w (c + 1)) u v w) (k + 1) j) M' := by
      intro M1 h
      obtain ⟨M', y, r1, r2⟩ := ih (j + 1) n M1 (by omega) (by omega) (hM.trans h.1)
      exact ⟨M', y, r1, h.trans r2⟩
    by_cases hjw2 : j = w
    · rw [if_pos (by rw [hjw2]), Option.bind_some]
      exact step M ((AC.zero M).eq (fun c hc => by rw [if_pos hjw2]))
    · rw [if_neg (fun q => hjw2 ((nI_eq (by omega) (by omega)).mp q)), c_sumMates hS hCM (hp j hjw) (hM.P hP j hjw) hu hjw hw, b_if]
      by_cases h : p j ≠ 0 ∧ inn σ (g_mo σ u) (g_mo σ j) (g_mo σ w)
      · obtain ⟨M1, q1, q2⟩ := c_addSums hS hC hp hP hM hu hjw pu h.1 (gapW_le hS hw)
        rw [if_pos h, c_gapOf hS hCM.1 hw, Option.bind_some, q1, Option.bind_some, Option.bind_some]
        refine step M1 (q2.eq (fun c hc => ?_))
        rw [if_neg hjw2, sumP_up huw hjw2, if_pos h.2, chs_gl hS hw]
      · rw [if_neg h, Option.bind_some]
        refine step M ((AC.zero M).eq (fun c hc => ?_))
        rw [if_neg hjw2, sumP_up huw hjw2]
        by_cases hi : inn σ (g_mo σ u) (g_mo σ j) (g_mo σ w)
        · rw [if_pos hi]
          have h0 : p j = 0 := Classical.not_not.mp (fun z => h ⟨z, hi⟩)
          rw [pch_0 h0, show s3 (pch σ p u) [] (chs σ w c) = s3 [] (pch σ p u) (chs σ w c) from (s3_swap _ _ _).symm, s3_nil]
        · rw [if_neg hi]
theorem c_w118e {σ : Sg} {p : Nat → Nat} {M0 : ab_M} (hS : Sok σ) (hC : RepC σ M0) (hp : Pok σ p) (hP : PlC σ p 67 M0) {u w : Nat} (hu : u < g_nw σ) (hw : w < g_nw σ) (huw : u ≠ w) (pu : p u ≠ 0) (M : ab_M) (hM : O25 M0 M) : ∃ M' y, mi_X2_weigh_118 ab_F M 67 (nI w) (nI u) (if nrW σ u w then nI (g_nw σ) else 0) (nI (u + 1)) = some (y, M') ∧ AC M (fun c => su (fun v => if v = w then 0 else 5 * sumP σ (fup p w (c + 1)) u v w) (g_nw σ - (u + 1)) (u + 1)) M' := by
  have hnw := hS.nw
  by_cases h : nrW σ u w
  · rw [if_pos h]
    exact c_w118 hS hC hp hP hu hw huw pu (g_nw σ - (u + 1)) (u + 1) ab_F M (by omega) (ab_F_lt (by omega)) hM
  · rw [if_neg h]
    obtain ⟨n, hn⟩ := ab_Fs
    rw [hn, mi_X2_weigh_118.eq_2, if_pos (nI_0le (by omega))]
    refine ⟨M, _, rfl, (AC.zero M).eq (fun c hc => ?_)⟩
    rw [su_z]
    intro v _ _
    by_cases e : v = w
    · rw [if_pos e]
    · rw [if_neg e, sumP_up huw e, if_neg (fun q => h ⟨q.2.2.1, q.2.2.2.2.2⟩)]
theorem c_w50 {σ : Sg} {p : Nat → Nat} {M0 : ab_M} (hS : Sok σ) (hC : RepC σ M0) (hp : Pok σ p) (hP : PlC σ p 67 M0) {w : Nat} (hw : w < g_nw σ) : ∀ (k j n : Nat) (M : ab_M), j + k = g_nw σ → k < n → O25 M0 M → ∃ M' y, mi_X2_weigh_50 n M 67 (nI w) (nI j) = some (y, M') ∧ AC M (fun c => su (fun u => if u = w then 0 else lackP σ (fup p w (c + 1)) u w + su (fun v => if v = w then 0 else 5 * sumP σ (fup p w (c + 1)) u v w) (g_nw σ - (u + 1)) (u + 1)) k j) M' := by
  have hnw := hS.nw
  have hw16 := hS.w16 hw
  intro k
  induction k with
  | zero =>
    intro j n M hj hn hM
    obtain ⟨n, rfl⟩ : ∃ m, n = m + 1 := ⟨n - 1, by omega⟩
    obtain rfl : j = g_nw σ := by omega
    rw [mi_X2_weigh_50.eq_2, (hM.C hS hC).1.2.1, if_pos (Int32.le_refl _)]
    exact ⟨M, _, rfl, AC.zero M⟩
  | succ k ih =>
    intro j n M hj hn hM
    obtain ⟨n, rfl⟩ : ∃ m, n = m + 1 := ⟨n - 1, by omega⟩
    have hjw : j < g_nw σ := by omega
    have hj16 := hS.w16 hjw
    have hCM := hM.C hS hC
    have hpj := hp j hjw
    rw [mi_X2_weigh_50.eq_2, hCM.1.2.1, if_neg (nI_ge hjw (by omega)), nI_1]
    have step : ∀ M1 : ab_M, AC M (fun c => if j = w then 0 else lackP σ (fup p w (c + 1)) j w + su (fun v => if v = w then 0 else 5 * sumP σ (fup p w (c + 1)) j v w) (g_nw σ - (j + 1)) (j + 1)) M1 → ∃ M' y, mi_X2_weigh_50 n M1 67 (nI w) (nI (j + 1)) = some (y, M') ∧ AC M (fun c => su (fun u => if u = w then 0 else lackP σ (fup p w (c + 1)) u w + su (fun v => if v = w then 0 else 5 * sumP σ (fup p w (c + 1)) u v w) (g_nw σ - (u + 1)) (u + 1)) (k + 1) j) M' := by
      intro M1 h
      obtain ⟨M', y, r1, r2⟩ := ih (j + 1) n M1 (by omega) (by omega) (hM.trans h.1)
      exact ⟨M', y, r1, h.trans r2⟩
    by_cases hjw2 : j = w
    · rw [if_pos (by rw [hjw2]), Option.bind_some]
      exact step M ((AC.zero M).eq (fun c hc => by rw [if_pos hjw2]))
    · rw [if_neg (fun q => hjw2 ((nI_eq (by omega) (by omega)).mp q)), ab_chk_pos (vin hj16), nI_clamp (show j < 2 ^ 31 by omega), hM.P hP j hjw]
      by_cases h : p j = 0
      · rw [if_neg (fun q => (pv_nn (by omega)).mp q h), Option.bind_some]
        refine step M ((AC.zero M).eq (fun c hc => ?_))
        have e0 : fup p w (c + 1) j = 0 := by rw [fup_ne hjw2]; exact h
        rw [if_neg hjw2, lackP_e e0, su_z (fun i _ _ => by rw [sumP_0 (Or.inl e0)]; split <;> rfl)]
      · obtain ⟨M1, q1, q2⟩ := c_addLacks hS hC hp hP hM hjw hw h
        have hM1 := hM.trans q2.1
        have hC1 := hM1.C hS hC
        obtain ⟨M2, y, q3, q4⟩ := c_w118e hS hC hp hP hjw hw hjw2 h M1 hM1
        rw [if_pos ((pv_nn (by omega)).mpr h), q1, Option.bind_some, c_areNear hS hC1 hjw hw, Option.bind_some, hC1.1.2.1, nr_end, Option.bind_some, q3, Option.bind_some, Option.bind_some]
        refine step M2 ((q2.trans q4).eq (fun c hc => ?_))
        rw [if_neg hjw2, lackP_up hjw2]
theorem c_w12 {σ : Sg} {w : Nat} {A : Int32} (hA : ∀ i, i < 32 → (bt A i = true ↔ may σ w i)) : ∀ (k j n : Nat) (M : ab_M), j + k = 30 → k < n → ∃ M' y, mi_X2_weigh_12 n M 67 (nI w) A (nI j) = some (y, M') ∧ O25 M M' ∧ (∀ c, c < j → M'.1 25 c = M.1 25 c) ∧ ∀ c, j ≤ c → c < 30 → M'.1 25 c = nI (@ite _ (may σ w c) (Classical.propDecidable _) 0 10) := by
  intro k
  induction k with
  | zero =>
    intro j n M hj hn
    obtain ⟨n, rfl⟩ : ∃ m, n = m + 1 := ⟨n - 1, by omega⟩
    obtain rfl : j = 30 := by omega
    rw [mi_X2_weigh_12.eq_2, if_pos (by decide)]
    exact ⟨M, _, rfl, O25.refl M, fun _ _ => rfl, fun c a b => by omega⟩
  | succ k ih =>
    intro j n M hj hn
    obtain ⟨n, rfl⟩ : ∃ m, n = m + 1 := ⟨n - 1, by omega⟩
    rw [mi_X2_weigh_12.eq_2, if_neg (show ¬ (30 : Int32) ≤ nI j from nI_ge (show j < 30 by omega) (by decide)), b_tu (by omega), nI_1]
    have e : ((if (if bt A j = true then (1 : Int32) else 0) = 0 then some 10 else some 0) : Option Int32) = some (nI (@ite _ (may σ w j) (Classical.propDecidable _) 0 10)) := by
      by_cases h : may σ w j
      · rw [if_pos ((hA j (by omega)).mpr h), if_neg (by decide), if_pos h]; rfl
      · rw [if_neg (fun z => h ((hA j (by omega)).mp z)), if_pos rfl, if_neg h]; rfl
    rw [e, Option.bind_some, ab_chk_pos (vin (show j < 30 by omega)), nI_clamp (by omega)]
    obtain ⟨M', y, r1, r2, r3, r4⟩ := ih (j + 1) n (ab_pi M 25 j (nI (@ite _ (may σ w j) (Classical.propDecidable _) 0 10))) (by omega) (by omega)
    refine ⟨M', y, r1, ⟨fun c i hc => by rw [r2.1 c i hc, pi_ne (by omega)], r2.2⟩, fun c hc => by rw [r3 c (by omega), pi_ne (by omega)], fun c a b => ?_⟩
    by_cases e : c = j
    · rw [e, r3 j (by omega), pi_eq]
    · exact r4 c (by omega) b
theorem c_weigh {σ : Sg} {p : Nat → Nat} {M : ab_M} (hS : Sok σ) (hC : RepC σ M) (hp : Pok σ p) (hP : PlC σ p 67 M) {w : Nat} (hw : w < g_nw σ) : ∃ M', mi_X2_weigh M 67 (nI w) = some (25, M') ∧ O25 M M' ∧ ∀ c, c < 30 → M'.1 25 c = nI (cst σ p w c) := by
  have hnw := hS.nw
  obtain ⟨A, a1, a2⟩ := c_allowed hS hC.1 hw
  obtain ⟨M1, y1, b1, b2, -, b4⟩ := c_w12 a2 30 0 ab_F M (by omega) (by unfold ab_F; omega)
  obtain ⟨M2, y2, d1, d2⟩ := c_w50 hS hC hp hP hw (g_nw σ) 0 ab_F M1 (by omega) (ab_F_lt (by omega)) b2
  have b1' : mi_X2_weigh_12 ab_F M 67 (nI w) A 0 = some (y1, M1) := b1
  have d1' : mi_X2_weigh_50 ab_F M1 67 (nI w) 0 = some (y2, M2) := d1
  unfold mi_X2_weigh
  rw [a1, Option.bind_some, b1', Option.bind_some, d1', Option.bind_some]
  refine ⟨M2, rfl, b2.trans d2.1, fun c hc => ?_⟩
  rw [d2.2 c hc, b4 c (Nat.zero_le _) hc, nI_add]
  rfl
