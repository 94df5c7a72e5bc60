/-! PURE: better -/
noncomputable def bst (σ : Sg) (p : Nat → Nat) (w c : Nat) (s : Nat × Option (Nat × Nat)) : Nat × Option (Nat × Nat) := @ite _ (may σ w c ∧ harm σ (fup p w (c + 1)) + s.1 < harm σ p) (Classical.propDecidable _) (harm σ p - harm σ (fup p w (c + 1)), some (w, c)) s
noncomputable def bsw (σ : Sg) (p : Nat → Nat) (w : Nat) (s : Nat × Option (Nat × Nat)) : Nat × Option (Nat × Nat) := @ite _ (chg σ p w) (Classical.propDecidable _) (fu (bst σ p w) 30 0 s) s
noncomputable def imp (σ : Sg) (p : Nat → Nat) : Nat × Option (Nat × Nat) := fu (bsw σ p) (g_nw σ) 0 (0, none)
theorem bst_yes {σ : Sg} {p : Nat → Nat} {w c : Nat} {s : Nat × Option (Nat × Nat)} (h : may σ w c ∧ harm σ (fup p w (c + 1)) + s.1 < harm σ p) : bst σ p w c s = (harm σ p - harm σ (fup p w (c + 1)), some (w, c)) := by unfold bst; rw [if_pos h]
theorem bst_no {σ : Sg} {p : Nat → Nat} {w c : Nat} {s : Nat × Option (Nat × Nat)} (h : ¬ (may σ w c ∧ harm σ (fup p w (c + 1)) + s.1 < harm σ p)) : bst σ p w c s = s := by unfold bst; rw [if_neg h]
/-- what a state of it is -/
def bok (σ : Sg) (p : Nat → Nat) (s : Nat × Option (Nat × Nat)) : Prop := s.1 ≤ harm σ p ∧ ∀ w c, s.2 = some (w, c) → w < g_nw σ ∧ c < 30
theorem bst_ok {σ : Sg} {p : Nat → Nat} {w c : Nat} {s : Nat × Option (Nat × Nat)} (hw : w < g_nw σ) (hc : c < 30) (h : bok σ p s) : bok σ p (bst σ p w c s) := by
  by_cases hx : may σ w c ∧ harm σ (fup p w (c + 1)) + s.1 < harm σ p
  · rw [bst_yes hx]
    refine ⟨by show harm σ p - harm σ (fup p w (c + 1)) ≤ harm σ p; omega, fun a b e => ?_⟩
    cases e
    exact ⟨hw, hc⟩
  · rw [bst_no hx]; exact h
theorem fu_ok {α : Type} {F : Nat → α → α} {I : α → Prop} : ∀ (k j : Nat) (a : α), (∀ i, j ≤ i → i < j + k → ∀ b, I b → I (F i b)) → I a → I (fu F k j a)
  | 0, _, _, _, h => h
  | k + 1, j, a, hf, h => fu_ok k (j + 1) (F j a) (fun i h1 h2 => hf i (by omega) (by omega)) (hf j (by omega) (by omega) a h)
theorem bsw_ok {σ : Sg} {p : Nat → Nat} {w : Nat} {s : Nat × Option (Nat × Nat)} (hw : w < g_nw σ) (h : bok σ p s) : bok σ p (bsw σ p w s) := by
  unfold bsw
  by_cases hx : chg σ p w
  · rw [if_pos hx]
    exact fu_ok 30 0 s (fun i _ hi b hb => bst_ok hw (by omega) hb) h
  · rw [if_neg hx]; exact h
theorem imp_ok {σ : Sg} {p : Nat → Nat} : bok σ p (imp σ p) := fu_ok (g_nw σ) 0 (0, none) (fun i _ hi b hb => bsw_ok (by omega) hb) ⟨Nat.zero_le _, fun a b e => by cases e⟩
def ew (z : Int32) : Option (Nat × Nat) → Int32
  | none => z
  | some (w, _) => nI w
def ec (z : Int32) : Option (Nat × Nat) → Int32
  | none => z
  | some (_, c) => nI c
theorem harm_b {σ : Sg} (hS : Sok σ) (p : Nat → Nat) : harm σ p < 2 ^ 30 := by
  have hnw := hS.nw
  have h1 : HL σ p ≤ 16 * (16 * 6) := by
    unfold HL
    refine Nat.le_trans (su_le (g := fun _ => 16 * 6) _ _ (fun u _ _ => ?_)) (by rw [su_const]; exact Nat.mul_le_mul_right _ hnw)
    refine Nat.le_trans (su_le (g := fun _ => 6) _ _ (fun v _ _ => lackP_le hS p u v)) (by rw [su_const]; exact Nat.mul_le_mul_right _ (by omega))
  have hsum : ∀ u v w, sumP σ p u v w ≤ 24 := by
    intro u v w
    unfold sumP
    split
    · have b1 := mid_le (X := pch σ p u) (Y := pch σ p v) (Z := pch σ p w) pch_len pch_len pch_len
      have b2 := mid_le (X := pch σ p v) (Y := pch σ p u) (Z := pch σ p w) pch_len pch_len pch_len
      have b3 := mid_le (X := pch σ p w) (Y := pch σ p u) (Z := pch σ p v) pch_len pch_len pch_len
      unfold s3
      omega
    · omega
  have h2 : HS σ p ≤ 16 * (16 * (16 * 24)) := by
    unfold HS
    refine Nat.le_trans (su_le (g := fun _ => 16 * (16 * 24)) _ _ (fun u _ _ => ?_)) (by rw [su_const]; exact Nat.mul_le_mul_right _ hnw)
    refine Nat.le_trans (su_le (g := fun _ => 16 * 24) _ _ (fun v _ _ => ?_)) (by rw [su_const]; exact Nat.mul_le_mul_right _ (by omega))
    refine Nat.le_trans (su_le (g := fun _ => 24) _ _ (fun w _ _ => hsum u v w)) (by rw [su_const]; exact Nat.mul_le_mul_right _ (by omega))
  have h3 : HX σ p ≤ 16 * 1 := by
    unfold HX
    refine Nat.le_trans (su_le (g := fun _ => 1) _ _ (fun w _ _ => ?_)) (by rw [su_const]; exact Nat.mul_le_mul_right _ hnw)
    rcases strP_01 σ p w with h | h <;> omega
  unfold harm
  omega
theorem cst_lt {σ : Sg} (hS : Sok σ) {p : Nat → Nat} {w c : Nat} (hw : w < g_nw σ) : cst σ p w c < 2 ^ 30 := by
  have h1 := harm_split (p := p) (c := c) hw
  have h2 := harm_b hS (fup p w (c + 1))
  omega
/-! the class -/
theorem c_imp72 {σ : Sg} {p : Nat → Nat} {M : ab_M} {w a : Nat} {A : Int32} (hS : Sok σ) (hw : w < g_nw σ) (ha : p w = a + 1) (hA : ∀ i, i < 32 → (bt A i = true ↔ may σ w i)) (hM : ∀ c, c < 30 → M.1 25 c = nI (cst σ p w c)) : ∀ (k j n : Nat) (s : Nat × Option (Nat × Nat)), j + k = 30 → k < n → bok σ p s → ∃ y, mi_X5_improve_72 n M 67 (nI s.1) (ew (-2) s.2) (ec (-2) s.2) (nI w) A (nI (cst σ p w a)) (nI j) = some (nI (fu (bst σ p w) k j s).1, ew (-2) (fu (bst σ p w) k j s).2, ec (-2) (fu (bst σ p w) k j s).2, y) := by
  have hp0 : harm σ p = harm σ (fup p w 0) + cst σ p w a := by
    rw [← harm_split hw, ← ha, fup_id]
  intro k
  induction k with
  | zero =>
    intro j n s hj hn hs
    obtain ⟨n, rfl⟩ : ∃ m, n = m + 1 := ⟨n - 1, by omega⟩
    obtain rfl : j = 30 := by omega
    rw [mi_X5_improve_72.eq_2, if_pos (by decide)]
    exact ⟨_, rfl⟩
  | succ k ih =>
    intro j n s hj hn hs
    obtain ⟨n, rfl⟩ : ∃ m, n = m + 1 := ⟨n - 1, by omega⟩
    have hb := harm_b hS p
    have hc1 := cst_lt hS (p := p) (c := a) hw
    have hc2 := cst_lt hS (p := p) (c := j) hw
    have hsp := harm_split (p := p) (c := j) hw
    rw [mi_X5_improve_72.eq_2, if_neg (show ¬ (30 : Int32) ≤ nI j from nI_ge (show j < 30 by omega) (by decide)), b_tu (by omega), nI_1, ab_chk_pos (vin (show j < 30 by omega)), ab_chk_pos (vin (show j < 30 by omega)), nI_clamp (by omega), hM j (by omega)]
    have ih' := ih (j + 1) n (bst σ p w j s) (by omega) (by omega) (bst_ok hw (by omega) hs)
    show ∃ y, _ = some (nI (fu (bst σ p w) k (j + 1) (bst σ p w j s)).1, ew (-2) (fu (bst σ p w) k (j + 1) (bst σ p w j s)).2, ec (-2) (fu (bst σ p w) k (j + 1) (bst σ p w j s)).2, y)
    have hti := pk_sub_toInt hc1 hc2
    have hsi := nI_toInt (n := s.1) (by have := hs.1; omega)
    by_cases hm : may σ w j
    · rw [if_pos ((hA j (by omega)).mpr hm), if_neg (by decide)]
      by_cases hx : harm σ (fup p w (j + 1)) + s.1 < harm σ p
      · rw [if_neg (by rw [i_le, hti, hsi]; omega), Option.bind_some]
        rw [bst_yes ⟨hm, hx⟩] at ih' ⊢
        have e : nI (cst σ p w a) - nI (cst σ p w j) = nI (harm σ p - harm σ (fup p w (j + 1))) := by
          rw [pk_sub (by omega)]
          congr 1
          omega
        rw [e]
        exact ih'
      · rw [if_pos (by rw [i_le, hti, hsi]; omega), Option.bind_some]
        rw [bst_no (fun z => hx z.2)] at ih' ⊢
        exact ih'
    · rw [if_neg (fun z => hm ((hA j (by omega)).mp z)), if_pos rfl, Option.bind_some]
      rw [bst_no (fun z => hm z.1)] at ih' ⊢
      exact ih'
theorem c_imp12 {σ : Sg} {p : Nat → Nat} {M0 : ab_M} (hS : Sok σ) (hC : RepC σ M0) (hp : Pok σ p) (hP : PlC σ p 67 M0) : ∀ (k j n : Nat) (M : ab_M) (s : Nat × Option (Nat × Nat)), j + k = g_nw σ → k < n → O25 M0 M → bok σ p s → ∃ M' y, O25 M0 M' ∧ mi_X5_improve_12 n M 67 (nI s.1) (ew (-2) s.2) (ec (-2) s.2) (nI j) = some (nI (fu (bsw σ p) k j s).1, ew (-2) (fu (bsw σ p) k j s).2, ec (-2) (fu (bsw σ p) k j s).2, y, M') := by
  have hnw := hS.nw
  intro k
  induction k with
  | zero =>
    intro j n M s hj hn hM hs
    obtain ⟨n, rfl⟩ : ∃ m, n = m + 1 := ⟨n - 1, by omega⟩
    obtain rfl : j = g_nw σ := by omega
    rw [mi_X5_improve_12.eq_2, (hM.C hS hC).1.2.1, if_pos (Int32.le_refl _)]
    exact ⟨M, _, hM, rfl⟩
  | succ k ih =>
    intro j n M s hj hn hM hs
    obtain ⟨n, rfl⟩ : ∃ m, n = m + 1 := ⟨n - 1, by omega⟩
    have hjw : j < g_nw σ := by omega
    have hj16 := hS.w16 hjw
    have hCM := hM.C hS hC
    have hPM := hM.P hP
    have hpj := hp j hjw
    rw [mi_X5_improve_12.eq_2, hCM.1.2.1, if_neg (nI_ge hjw (by omega)), nI_1]
    show ∃ M' y, O25 M0 M' ∧ _ = some (nI (fu (bsw σ p) k (j + 1) (bsw σ p j s)).1, ew (-2) (fu (bsw σ p) k (j + 1) (bsw σ p j s)).2, ec (-2) (fu (bsw σ p) k (j + 1) (bsw σ p j s)).2, y, M')
    have hs' := bsw_ok hjw hs
    rcases c_canChange hS hCM.1 hjw hpj (hPM j hjw) with ⟨q1, q2⟩ | ⟨q1, q2⟩
    · rw [q1, Option.bind_some, if_neg (by decide)]
      obtain ⟨A, a1, a2⟩ := c_allowed hS hCM.1 hjw
      obtain ⟨M1, w1, w2, w3⟩ := c_weigh hS hCM hp hPM hjw
      obtain ⟨a, ha⟩ : ∃ a, p j = a + 1 := ⟨p j - 1, by have := q2.1; omega⟩
      have e67 : M1.1 67 j = nI a := by rw [w2.P hPM j hjw, ha, pv_s]
      rw [a1, Option.bind_some, w1, Option.bind_some, ab_chk_pos rfl, ab_chk_pos (vin hj16), nI_clamp (show j < 2 ^ 31 by omega)]
      show ∃ M' y, O25 M0 M' ∧ ((ab_chk (vp_in (M1.1 67 j) 30) <| (some (M1.1 25 (M1.1 67 j).toNatClampNeg) : Option Int32).bind fun v15 => (mi_X5_improve_72 ab_F M1 67 (nI s.1) (ew (-2) s.2) (ec (-2) s.2) (nI j) A v15 0).bind fun q25 => some (q25.1, q25.2.1, q25.2.2.1, M1)).bind _) = _
      rw [e67, ab_chk_pos (vin (show a < 30 by omega)), nI_clamp (show a < 2 ^ 31 by omega), w3 a (by omega), Option.bind_some]
      obtain ⟨y, r1⟩ := c_imp72 hS hjw ha a2 w3 30 0 ab_F s (by omega) (by unfold ab_F; omega) hs
      have r1' : mi_X5_improve_72 ab_F M1 67 (nI s.1) (ew (-2) s.2) (ec (-2) s.2) (nI j) A (nI (cst σ p j a)) 0 = some (nI (fu (bst σ p j) 30 0 s).1, ew (-2) (fu (bst σ p j) 30 0 s).2, ec (-2) (fu (bst σ p j) 30 0 s).2, y) := r1
      rw [r1', Option.bind_some, Option.bind_some]
      have e : bsw σ p j s = fu (bst σ p j) 30 0 s := by unfold bsw; rw [if_pos q2]
      rw [e] at hs' ⊢
      exact ih (j + 1) n M1 _ (by omega) (by omega) (hM.trans w2) hs'
    · rw [q1, Option.bind_some, if_pos rfl, Option.bind_some]
      have e : bsw σ p j s = s := by unfold bsw; rw [if_neg q2]
      rw [e] at hs' ⊢
      exact ih (j + 1) n M s (by omega) (by omega) hM hs'
theorem c_improve {σ : Sg} {p : Nat → Nat} {M : ab_M} (hS : Sok σ) (hC : RepC σ M) (hp : Pok σ p) (hP : PlC σ p 67 M) : ∃ M', O25 M M' ∧ mi_X5_improve M 67 = some (hres2 M' 67 (imp σ p).2) := by
  have hnw := hS.nw
  obtain ⟨M', y, h1, h2⟩ := c_imp12 hS hC hp hP (g_nw σ) 0 ab_F M (0, none) (by omega) (ab_F_lt (by omega)) (O25.refl M) ⟨Nat.zero_le _, fun a b e => by cases e⟩
  have h2' : mi_X5_improve_12 ab_F M 67 0 (-2) (-2) 0 = some (nI (imp σ p).1, ew (-2) (imp σ p).2, ec (-2) (imp σ p).2, y, M') := h2
  refine ⟨M', h1, ?_⟩
  have hk := imp_ok (σ := σ) (p := p)
  unfold mi_X5_improve
  rw [h2', Option.bind_some]
  generalize imp σ p = S at hk
  obtain ⟨g, o⟩ := S
  cases o with
  | none =>
    show (if (0 : Int32) ≤ -2 then _ else some ((0 : Int32), M')) = _
    rw [if_neg (by decide)]
    rfl
  | some r =>
    obtain ⟨w, c⟩ := r
    obtain ⟨b1, b2⟩ := hk.2 w c rfl
    show (if (0 : Int32) ≤ nI w then (ab_chk (vp_in (nI w) 16) <| some ((1 : Int32), (ab_pi M' 67 (nI w).toNatClampNeg (nI c)))) else _) = _
    rw [if_pos (nI_pos' (by omega)), ab_chk_pos (vin (show w < 16 by omega)), nI_clamp (by omega)]
    rfl
/-! the model -/
theorem r_imp36 {σ : Sg} {p : Nat → Nat} {M : ab_M} (hS : Sok σ) (hR : RepR σ M) (hp : Pok σ p) (hP : PlR σ p M) {w : Nat} (hw : w < g_nw σ) (hc : chg σ p w) : ∀ (k j n : Nat) (s : Nat × Option (Nat × Nat)), j + k = 30 → k < n → bok σ p s → ∃ y, mi_X10_isBettered_36 n M (nI (harm σ p - s.1)) (ew (-1) s.2) (ec (-1) s.2) (nI w) (pv (p w)) (nI j) = some (nI (harm σ p - (fu (bst σ p w) k j s).1), ew (-1) (fu (bst σ p w) k j s).2, ec (-1) (fu (bst σ p w) k j s).2, y, M) := by
  have hw16 := hS.w16 hw
  have hpw := hp w hw
  have e1 : (nI w).toNatClampNeg = w := nI_clamp (by omega)
  obtain ⟨a, ha⟩ : ∃ a, p w = a + 1 := ⟨p w - 1, by have := hc.1; omega⟩
  have epv : pv (p w) = nI a := by rw [ha, pv_s]
  intro k
  induction k with
  | zero =>
    intro j n s hj hn hs
    obtain ⟨n, rfl⟩ : ∃ m, n = m + 1 := ⟨n - 1, by omega⟩
    obtain rfl : j = 30 := by omega
    rw [mi_X10_isBettered_36.eq_2, if_pos (by decide)]
    exact ⟨_, rfl⟩
  | succ k ih =>
    intro j n s hj hn hs
    obtain ⟨n, rfl⟩ : ∃ m, n = m + 1 := ⟨n - 1, by omega⟩
    have hb := harm_b hS p
    have hb2 := harm_b hS (fup p w (j + 1))
    rw [mi_X10_isBettered_36.eq_2, if_neg (show ¬ (30 : Int32) ≤ nI j from nI_ge (show j < 30 by omega) (by decide)), if_neg (fun z => hc.1 ((pv_neg (by omega)).mp z)), ab_chk_pos (vin hw16), e1, if_neg (fun z => (r_sy hS hR hw).mp z hc.2), nI_1]
    have ih' := ih (j + 1) n (bst σ p w j s) (by omega) (by omega) (bst_ok hw (by omega) hs)
    show ∃ y, _ = some (nI (harm σ p - (fu (bst σ p w) k (j + 1) (bst σ p w j s)).1), ew (-1) (fu (bst σ p w) k (j + 1) (bst σ p w j s)).2, ec (-1) (fu (bst σ p w) k (j + 1) (bst σ p w j s)).2, y, M)
    by_cases hj2 : j = a
    · rw [if_pos (show nI j = pv (p w) by rw [epv, hj2]), Option.bind_some]
      have e : fup p w (j + 1) = p := by rw [hj2, ← ha]; exact fup_id p w
      rw [bst_no (fun z => by have := z.2; rw [e] at this; omega)] at ih' ⊢
      exact ih'
    · rw [if_neg (show ¬ nI j = pv (p w) from fun z => by rw [epv] at z; exact hj2 ((nI_eq (by omega) (by omega)).mp z))]
      obtain ⟨z0, g1, g2, g3⟩ := r_mayHave hS hR hw (show j < 30 by omega)
      rw [g1, Option.bind_some]
      by_cases hm : may σ w j
      · rw [if_neg (fun z => g3.mp z hm), ab_chk_pos (vin hw16), r_harmNow (p := fup p w (j + 1)) hS (hR.p80 hS) (hp.up (by omega)) (hP.up (pv_s j).symm), Option.bind_some, ab_chk_pos (vin hw16), pi_pi, pi_id (hP w hw).symm]
        by_cases hx : harm σ (fup p w (j + 1)) + s.1 < harm σ p
        · rw [if_neg (nI_ge (by omega) (by omega)), Option.bind_some]
          rw [bst_yes ⟨hm, hx⟩] at ih' ⊢
          have e : harm σ p - (harm σ p - harm σ (fup p w (j + 1))) = harm σ (fup p w (j + 1)) := by omega
          rw [e] at ih'
          exact ih'
        · rw [if_pos (nI_le (by have := hs.1; omega) (by omega)), Option.bind_some]
          rw [bst_no (fun z => hx z.2)] at ih' ⊢
          exact ih'
      · rw [if_pos (g3.mpr hm), Option.bind_some]
        rw [bst_no (fun z => hm z.1)] at ih' ⊢
        exact ih'
theorem r_imp36n {σ : Sg} {p : Nat → Nat} {M : ab_M} (hS : Sok σ) (hR : RepR σ M) (hp : Pok σ p) {w : Nat} (hw : w < g_nw σ) (hc : ¬ chg σ p w) (x2 x3 x4 : Int32) (n : Nat) : ∃ y, mi_X10_isBettered_36 (n + 1) M x2 x3 x4 (nI w) (pv (p w)) 0 = some (x2, x3, x4, y, M) := by
  have hw16 := hS.w16 hw
  have hpw := hp w hw
  rw [mi_X10_isBettered_36.eq_2, if_neg (by decide)]
  by_cases h0 : p w = 0
  · rw [if_pos ((pv_neg (by omega)).mpr h0)]
    exact ⟨_, rfl⟩
  · rw [if_neg (fun z => h0 ((pv_neg (by omega)).mp z)), ab_chk_pos (vin hw16), nI_clamp (by omega), if_pos ((r_sy hS hR hw).mpr (fun z => hc ⟨h0, z⟩))]
    exact ⟨_, rfl⟩
theorem r_imp15 {σ : Sg} {p : Nat → Nat} {M : ab_M} (hS : Sok σ) (hR : RepR σ M) (hp : Pok σ p) (hP : PlR σ p M) : ∀ (k j n : Nat) (s : Nat × Option (Nat × Nat)), j + k = g_nw σ → k < n → bok σ p s → ∃ y, mi_X10_isBettered_15 n M (nI (harm σ p - s.1)) (ew (-1) s.2) (ec (-1) s.2) (nI j) = some (nI (harm σ p - (fu (bsw σ p) k j s).1), ew (-1) (fu (bsw σ p) k j s).2, ec (-1) (fu (bsw σ p) k j s).2, y, M) := by
  have hnw := hS.nw
  intro k
  induction k with
  | zero =>
    intro j n s hj hn hs
    obtain ⟨n, rfl⟩ : ∃ m, n = m + 1 := ⟨n - 1, by omega⟩
    obtain rfl : j = g_nw σ := by omega
    rw [mi_X10_isBettered_15.eq_2, hR.2.1, if_pos (Int32.le_refl _)]
    exact ⟨_, rfl⟩
  | succ k ih =>
    intro j n s hj hn hs
    obtain ⟨n, rfl⟩ : ∃ m, n = m + 1 := ⟨n - 1, by omega⟩
    have hjw : j < g_nw σ := by omega
    have hj16 := hS.w16 hjw
    rw [mi_X10_isBettered_15.eq_2, hR.2.1, if_neg (nI_ge hjw (by omega)), ab_chk_pos (vin hj16), nI_clamp (by omega), hP j hjw, nI_1]
    show ∃ y, _ = some (nI (harm σ p - (fu (bsw σ p) k (j + 1) (bsw σ p j s)).1), ew (-1) (fu (bsw σ p) k (j + 1) (bsw σ p j s)).2, ec (-1) (fu (bsw σ p) k (j + 1) (bsw σ p j s)).2, y, M)
    have hs' := bsw_ok hjw hs
    by_cases hc : chg σ p j
    · obtain ⟨y, r1⟩ := r_imp36 hS hR hp hP hjw hc 30 0 ab_F s (by omega) (by unfold ab_F; omega) hs
      have r1' : mi_X10_isBettered_36 ab_F M (nI (harm σ p - s.1)) (ew (-1) s.2) (ec (-1) s.2) (nI j) (pv (p j)) 0 = some (nI (harm σ p - (fu (bst σ p j) 30 0 s).1), ew (-1) (fu (bst σ p j) 30 0 s).2, ec (-1) (fu (bst σ p j) 30 0 s).2, y, M) := r1
      rw [r1', Option.bind_some]
      have e : bsw σ p j s = fu (bst σ p j) 30 0 s := by unfold bsw; rw [if_pos hc]
      rw [e] at hs' ⊢
      exact ih (j + 1) n _ (by omega) (by omega) hs'
    · obtain ⟨y, r1⟩ := r_imp36n hS hR hp hjw hc (nI (harm σ p - s.1)) (ew (-1) s.2) (ec (-1) s.2) 99999
      have r1' : mi_X10_isBettered_36 ab_F M (nI (harm σ p - s.1)) (ew (-1) s.2) (ec (-1) s.2) (nI j) (pv (p j)) 0 = some (nI (harm σ p - s.1), ew (-1) s.2, ec (-1) s.2, y, M) := r1
      rw [r1', Option.bind_some]
      have e : bsw σ p j s = s := by unfold bsw; rw [if_neg hc]
      rw [e] at hs' ⊢
      exact ih (j + 1) n s (by omega) (by omega) hs'
theorem r_bettered {σ : Sg} {p : Nat → Nat} {M : ab_M} (hS : Sok σ) (hR : RepR σ M) (hp : Pok σ p) (hP : PlR σ p M) : mi_X10_isBettered M = some (hres2 M 80 (imp σ p).2) := by
  have hnw := hS.nw
  obtain ⟨y, h2⟩ := r_imp15 hS hR hp hP (g_nw σ) 0 ab_F (0, none) (by omega) (ab_F_lt (by omega)) ⟨Nat.zero_le _, fun a b e => by cases e⟩
  have h2' : mi_X10_isBettered_15 ab_F M (nI (harm σ p)) (-1) (-1) 0 = some (nI (harm σ p - (imp σ p).1), ew (-1) (imp σ p).2, ec (-1) (imp σ p).2, y, M) := h2
  have hk := imp_ok (σ := σ) (p := p)
  unfold mi_X10_isBettered
  rw [r_harmNow hS hR hp hP, Option.bind_some, h2', Option.bind_some]
  generalize imp σ p = S at hk
  obtain ⟨g, o⟩ := S
  cases o with
  | none =>
    show ((if (-1 : Int32) < 0 then some M else _).bind fun q25 => if (-1 : Int32) < 0 then some ((0 : Int32), q25) else some (1, q25)) = _
    rw [if_pos (by decide), Option.bind_some, if_pos (by decide)]
    rfl
  | some r =>
    obtain ⟨w, c⟩ := r
    obtain ⟨b1, b2⟩ := hk.2 w c rfl
    show ((if nI w < (0 : Int32) then some M else (ab_chk (vp_in (nI w) 16) <| some (ab_pi M 80 (nI w).toNatClampNeg (nI c)))).bind fun q25 => if nI w < (0 : Int32) then some ((0 : Int32), q25) else some (1, q25)) = _
    rw [if_neg (nI_pos (by omega)), ab_chk_pos (vin (show w < 16 by omega)), nI_clamp (by omega), Option.bind_some, if_neg (nI_pos (by omega))]
    rfl
