/-! PURE: the class measures its bars and nearness -/
theorem c_meas1 {σ : Sg} (hS : Sok σ) {a : Nat} (ha : a < g_nm σ) : ∀ (k b n : Nat) (M : ab_M), b + k = g_nm σ → k < n → RepB σ M → (∀ j, j < b → M.1 10 (12 * a + j) = nI (bar σ a j)) → (∀ i, i < 32 → (bt (M.1 11 a) i = true ↔ i < b ∧ a ≠ i ∧ sq σ a i < g_rc σ)) →
    ∃ M', mi_X3_measure_19 n M (nI a) (nI b) = some (nI (g_nm σ), M') ∧ (∀ c j, c ≠ 10 → c ≠ 11 → M'.1 c j = M.1 c j) ∧ M'.2 = M.2 ∧ (∀ j, j < 12 * a → M'.1 10 j = M.1 10 j) ∧ (∀ j, j ≠ a → M'.1 11 j = M.1 11 j) ∧ (∀ j, j < g_nm σ → M'.1 10 (12 * a + j) = nI (bar σ a j)) ∧ (∀ i, i < 32 → (bt (M'.1 11 a) i = true ↔ i < g_nm σ ∧ a ≠ i ∧ sq σ a i < g_rc σ)) := by
  have ha12 := hS.m12 ha
  have hnm := hS.nm
  have hrc := hS.rc
  intro k
  induction k with
  | zero =>
    intro b n M hb hn hB h1 h2
    obtain ⟨n, rfl⟩ : ∃ m, n = m + 1 := ⟨n - 1, by omega⟩
    obtain rfl : b = g_nm σ := by omega
    rw [mi_X3_measure_19.eq_2, hB.1, if_pos (Int32.le_refl _)]
    exact ⟨M, rfl, fun _ _ _ _ => rfl, rfl, fun _ _ => rfl, fun _ _ => rfl, h1, h2⟩
  | succ k ih =>
    intro b n M hb hn hB h1 h2
    obtain ⟨n, rfl⟩ : ∃ m, n = m + 1 := ⟨n - 1, by omega⟩
    have hb' : b < g_nm σ := by omega
    have ix : nI a * 12 + nI b = nI (12 * a + b) := by rw [show nI a * 12 = nI (a * 12) from pk_mul a 12, nI_add, Nat.mul_comm]
    rw [mi_X3_measure_19.eq_2, hB.1, if_neg (Int32.not_le.mpr (nI_lt hb' (by omega))), c_freshBar hS hB ha hb', Option.bind_some, ix]
    simp only [nI_clamp (show 12 * a + b < 2 ^ 31 by omega), nI_clamp (show a < 2 ^ 31 by omega), vin (show 12 * a + b < 144 by omega), vin ha12, ab_chk_true]
    have s1 : ∀ c j, c ≠ 10 → (ab_pi M 10 (12 * a + b) (nI (bar σ a b))).1 c j = M.1 c j := fun c j hc => pi_ne (fun q => hc q.1)
    have hB1 : RepB σ (ab_pi M 10 (12 * a + b) (nI (bar σ a b))) := hB.same hS (fun c j hc => s1 c j (by unfold fB at hc; omega))
    have step : ∃ q : Int32, ((if nI a = nI b then some 0 else (mi_X3_square (ab_pi M 10 (12 * a + b) (nI (bar σ a b))) (nI a) (nI b)).bind fun q12 => if (ab_pi M 10 (12 * a + b) (nI (bar σ a b))).1 1 10 < q12 then some 0 else some ((1 : Int32) <<< (nI b &&& 31))) : Option Int32) = some q ∧ ∀ i, i < 32 → (bt q i = true ↔ i = b ∧ a ≠ i ∧ sq σ a i < g_rc σ) := by
      by_cases e : a = b
      · rw [if_pos (by rw [e])]
        refine ⟨0, rfl, fun i _ => ?_⟩
        rw [b_0]
        constructor
        · intro q; exact absurd q (by decide)
        · intro q; omega
      · have hsq := sq_le hS ha hb'
        rw [if_neg (show ¬ nI a = nI b from fun q => e ((nI_eq (by omega) (by omega)).mp q)), c_square hS hB1 ha hb', Option.bind_some, hB1.2.2.2.1]
        by_cases hq : sq σ a b < g_rc σ
        · rw [if_neg (fun q => by have := (nI_m1_lt (by omega) (by omega)).mp q; omega)]
          refine ⟨_, rfl, fun i hi => ?_⟩
          rw [b_one (by omega) hi, decide_eq_true_iff]
          constructor
          · rintro rfl; exact ⟨rfl, e, hq⟩
          · intro q; exact q.1
        · rw [if_pos ((nI_m1_lt (by omega) (by omega)).mpr (by omega))]
          refine ⟨0, rfl, fun i _ => ?_⟩
          rw [b_0]
          constructor
          · intro q; exact absurd q (by decide)
          · rintro ⟨rfl, -, q⟩; exact absurd q hq
    obtain ⟨q, e1, e2⟩ := step
    rw [e1, Option.bind_some, s1 11 a (by decide), show nI b + 1 = nI (b + 1) from nI_add b 1]
    obtain ⟨M', g1, g2, g3, g4, g5, g6, g7⟩ := ih (b + 1) n (ab_pi (ab_pi M 10 (12 * a + b) (nI (bar σ a b))) 11 a (M.1 11 a ||| q)) (by omega) (by omega) (hB1.same hS (fun c j hc => pi_ne (fun z => by unfold fB at hc; omega))) (fun j hj => by
        rw [pi_ne (by omega)]
        by_cases ej : j = b
        · rw [ej]; exact pi_eq
        · rw [pi_ne (by omega)]; exact h1 j (by omega)) (fun i hi => by
        rw [pi_eq, b_or, Bool.or_eq_true, h2 i hi, e2 i hi]
        constructor
        · rintro (z | z)
          · exact ⟨by omega, z.2⟩
          · exact ⟨by omega, z.2⟩
        · intro z
          by_cases ei : i = b
          · exact Or.inr ⟨ei, z.2⟩
          · exact Or.inl ⟨by omega, z.2⟩)
    refine ⟨M', g1, fun c j h10 h11 => by rw [g2 c j h10 h11, pi_ne (by omega), pi_ne (by omega)], g3, fun j hj => by rw [g4 j hj, pi_ne (by omega), pi_ne (by omega)], fun j hj => by rw [g5 j hj, pi_ne (by omega), pi_ne (by omega)], g6, g7⟩
theorem c_meas2 {σ : Sg} (hS : Sok σ) : ∀ (k a n : Nat) (M : ab_M), a + k = g_nm σ → k < n → RepB σ M → (∀ a', a' < a → ∀ j, j < g_nm σ → M.1 10 (12 * a' + j) = nI (bar σ a' j)) → (∀ a', a' < a → ∀ i, i < 32 → (bt (M.1 11 a') i = true ↔ i < g_nm σ ∧ a' ≠ i ∧ sq σ a' i < g_rc σ)) →
    ∃ M', mi_X3_measure_2 n M (nI a) = some (nI (g_nm σ), M') ∧ (∀ c j, c ≠ 10 → c ≠ 11 → M'.1 c j = M.1 c j) ∧ M'.2 = M.2 ∧ RepC σ M' := by
  have hnm := hS.nm
  intro k
  induction k with
  | zero =>
    intro a n M hb hn hB h1 h2
    obtain ⟨n, rfl⟩ : ∃ m, n = m + 1 := ⟨n - 1, by omega⟩
    obtain rfl : a = g_nm σ := by omega
    rw [mi_X3_measure_2.eq_2, hB.1, if_pos (Int32.le_refl _)]
    exact ⟨M, rfl, fun _ _ _ _ => rfl, rfl, hB, fun a b ha hb => h1 a ha b hb, h2⟩
  | succ k ih =>
    intro a n M hb hn hB h1 h2
    obtain ⟨n, rfl⟩ : ∃ m, n = m + 1 := ⟨n - 1, by omega⟩
    have ha : a < g_nm σ := by omega
    rw [mi_X3_measure_2.eq_2, hB.1, if_neg (Int32.not_le.mpr (nI_lt ha (by omega))), nI_clamp (show a < 2 ^ 31 by omega), ab_chk_pos (vin (show a < 12 by omega))]
    obtain ⟨M', g1, g2, g3, g4, g5, g6, g7⟩ := c_meas1 hS ha (g_nm σ) 0 ab_F (ab_pi M 11 a 0) (by omega) (ab_F_lt (by omega)) (hB.same hS (fun c j hc => pi_ne (fun z => by unfold fB at hc; omega))) (fun j hj => absurd hj (by omega)) (fun i _ => by
      rw [pi_eq, b_0]
      constructor
      · intro q; exact absurd q (by decide)
      · intro q; omega)
    have g1' : mi_X3_measure_19 ab_F (ab_pi M 11 a 0) (nI a) 0 = some (nI (g_nm σ), M') := g1
    rw [g1', Option.bind_some, show nI a + 1 = nI (a + 1) from nI_add a 1]
    have hB2 : RepB σ M' := hB.same hS (fun c j hc => by rw [g2 c j (by unfold fB at hc; omega) (by unfold fB at hc; omega)]; exact pi_ne (fun z => by unfold fB at hc; omega))
    obtain ⟨M2, k1, k2, k3, k4⟩ := ih (a + 1) n M' (by omega) (by omega) hB2 (fun a' ha' j hj => by
      by_cases e : a' = a
      · rw [e]; exact g6 j hj
      · rw [g4 _ (by omega), pi_ne (by omega)]; exact h1 a' (by omega) j hj) (fun a' ha' i hi => by
      by_cases e : a' = a
      · rw [e]; exact g7 i hi
      · rw [g5 _ e, pi_ne (by omega)]; exact h2 a' (by omega) i hi)
    exact ⟨M2, k1, fun c j h10 h11 => by rw [k2 c j h10 h11, g2 c j h10 h11, pi_ne (by omega)], k3.trans g3, k4⟩
theorem c_measure {σ : Sg} (hS : Sok σ) {M : ab_M} (hB : RepB σ M) : ∃ M', mi_X3_measure M = some M' ∧ (∀ c j, c ≠ 10 → c ≠ 11 → M'.1 c j = M.1 c j) ∧ M'.2 = M.2 ∧ RepC σ M' := by
  have hnm := hS.nm
  obtain ⟨M', h1, h2⟩ := c_meas2 hS (g_nm σ) 0 ab_F M (by omega) (ab_F_lt (by omega)) hB (fun a' ha' => absurd ha' (by omega)) (fun a' ha' => absurd ha' (by omega))
  refine ⟨M', ?_, h2⟩
  unfold mi_X3_measure
  have h1' : mi_X3_measure_2 ab_F M 0 = some (nI (g_nm σ), M') := h1
  rw [h1', Option.bind_some]
