/-! PURE: plan, least -/
theorem c_hand {σ : Sg} (hS : Sok σ) {M : ab_M} (h8 : M.1 1 8 = nI (g_nw σ)) : ∃ M', mi_X8_handOver M 67 = some M' ∧ (∀ c j, c ≠ 67 → M'.1 c j = M.1 c j) ∧ M'.2 = M.2 ∧ (∀ j, j < g_nw σ → M'.1 67 j = M.1 27 j) ∧ ∀ j, g_nw σ ≤ j → M'.1 67 j = M.1 67 j := by
  have hnw := hS.nw
  unfold mi_X8_handOver
  have e : (nI (g_nw σ)).toNatClampNeg = g_nw σ := nI_clamp (by omega)
  have e0 : (0 : Int32).toNatClampNeg = 0 := rfl
  rw [h8, ab_chk_pos ⟨by decide, by decide, nI_pos (by omega), by rw [e, e0]; omega, by rw [e, e0]; omega⟩]
  refine ⟨_, rfl, fun c j hc => if_neg hc, rfl, fun j hj => ?_, fun j hj => ?_⟩
  · show va_cpy (M.1 27) (M.1 67) (0 : Int32).toNatClampNeg (0 : Int32).toNatClampNeg (nI (g_nw σ)).toNatClampNeg j = _
    rw [e, e0]
    unfold va_cpy
    rw [if_pos (by omega)]
    exact congrArg (M.1 27) (by omega)
  · show va_cpy (M.1 27) (M.1 67) (0 : Int32).toNatClampNeg (0 : Int32).toNatClampNeg (nI (g_nw σ)).toNatClampNeg j = _
    rw [e, e0]
    unfold va_cpy
    rw [if_neg (by omega)]
theorem r_keep2 {N : Nat} (hN : N ≤ 16) : ∀ (k j n : Nat) (M : ab_M), j + k = N → k < n → M.1 69 10 = nI N → ∃ M', mi_X10_keepPlan_2 n M (nI j) = some (nI N, M') ∧ (∀ c i, c ≠ 85 → M'.1 c i = M.1 c i) ∧ M'.2 = M.2 ∧ (∀ i, i < j → M'.1 85 i = M.1 85 i) ∧ ∀ i, j ≤ i → i < N → M'.1 85 i = M.1 80 i := by
  intro k
  induction k with
  | zero =>
    intro j n M hj hn hM
    obtain ⟨n, rfl⟩ : ∃ m, n = m + 1 := ⟨n - 1, by omega⟩
    obtain rfl : j = N := by omega
    rw [mi_X10_keepPlan_2.eq_2, hM, if_pos (Int32.le_refl _)]
    exact ⟨M, rfl, fun _ _ _ => rfl, rfl, fun _ _ => rfl, fun i a b => absurd b (by omega)⟩
  | succ k ih =>
    intro j n M hj hn hM
    obtain ⟨n, rfl⟩ : ∃ m, n = m + 1 := ⟨n - 1, by omega⟩
    rw [mi_X10_keepPlan_2.eq_2, hM, if_neg (Int32.not_le.mpr (nI_lt (show j < N by omega) (by omega))), ab_chk_pos (vin (show j < 16 by omega)), ab_chk_pos (vin (show j < 16 by omega)), nI_clamp (by omega), nI_1]
    obtain ⟨M', g1, g2, g3, g4, g5⟩ := ih (j + 1) n (ab_pi M 85 j (M.1 80 j)) (by omega) (by omega) (by rw [pi_ne (by omega)]; exact hM)
    refine ⟨M', g1, fun c i hc => by rw [g2 c i hc, pi_ne (by omega)], g3, fun i hi => by rw [g4 i (by omega), pi_ne (by omega)], fun i a b => ?_⟩
    by_cases e : i = j
    · rw [e, g4 j (by omega), pi_eq]
    · rw [g5 i (by omega) b, pi_ne (by omega)]
theorem r_give2 {N : Nat} (hN : N ≤ 16) : ∀ (k j n : Nat) (M : ab_M), j + k = N → k < n → M.1 69 10 = nI N → ∃ M', mi_X10_givePlan_2 n M (nI j) = some (nI N, M') ∧ (∀ c i, c ≠ 80 → M'.1 c i = M.1 c i) ∧ M'.2 = M.2 ∧ (∀ i, i < j → M'.1 80 i = M.1 80 i) ∧ ∀ i, j ≤ i → i < N → M'.1 80 i = M.1 85 i := by
  intro k
  induction k with
  | zero =>
    intro j n M hj hn hM
    obtain ⟨n, rfl⟩ : ∃ m, n = m + 1 := ⟨n - 1, by omega⟩
    obtain rfl : j = N := by omega
    rw [mi_X10_givePlan_2.eq_2, hM, if_pos (Int32.le_refl _)]
    exact ⟨M, rfl, fun _ _ _ => rfl, rfl, fun _ _ => rfl, fun i a b => absurd b (by omega)⟩
  | succ k ih =>
    intro j n M hj hn hM
    obtain ⟨n, rfl⟩ : ∃ m, n = m + 1 := ⟨n - 1, by omega⟩
    rw [mi_X10_givePlan_2.eq_2, hM, if_neg (Int32.not_le.mpr (nI_lt (show j < N by omega) (by omega))), ab_chk_pos (vin (show j < 16 by omega)), ab_chk_pos (vin (show j < 16 by omega)), nI_clamp (by omega), nI_1]
    obtain ⟨M', g1, g2, g3, g4, g5⟩ := ih (j + 1) n (ab_pi M 80 j (M.1 85 j)) (by omega) (by omega) (by rw [pi_ne (by omega)]; exact hM)
    refine ⟨M', g1, fun c i hc => by rw [g2 c i hc, pi_ne (by omega)], g3, fun i hi => by rw [g4 i (by omega), pi_ne (by omega)], fun i a b => ?_⟩
    by_cases e : i = j
    · rw [e, g4 j (by omega), pi_eq]
    · rw [g5 i (by omega) b, pi_ne (by omega)]
theorem r_keep {σ : Sg} (hS : Sok σ) {M : ab_M} (hR : RepR σ M) : ∃ M', mi_X10_keepPlan M = some M' ∧ (∀ c i, c ≠ 85 → M'.1 c i = M.1 c i) ∧ M'.2 = M.2 ∧ ∀ i, i < g_nw σ → M'.1 85 i = M.1 80 i := by
  have hnw := hS.nw
  obtain ⟨M', g1, g2, g3, g4, g5⟩ := r_keep2 hnw (g_nw σ) 0 ab_F M (by omega) (ab_F_lt (by omega)) hR.2.1
  have g1' : mi_X10_keepPlan_2 ab_F M 0 = some (nI (g_nw σ), M') := g1
  unfold mi_X10_keepPlan
  rw [g1', Option.bind_some]
  exact ⟨M', rfl, g2, g3, fun i hi => g5 i (Nat.zero_le _) hi⟩
theorem r_give {σ : Sg} (hS : Sok σ) {M : ab_M} (hR : RepR σ M) : ∃ M', mi_X10_givePlan M = some M' ∧ (∀ c i, c ≠ 80 → M'.1 c i = M.1 c i) ∧ M'.2 = M.2 ∧ ∀ i, i < g_nw σ → M'.1 80 i = M.1 85 i := by
  have hnw := hS.nw
  obtain ⟨M', g1, g2, g3, g4, g5⟩ := r_give2 hnw (g_nw σ) 0 ab_F M (by omega) (ab_F_lt (by omega)) hR.2.1
  have g1' : mi_X10_givePlan_2 ab_F M 0 = some (nI (g_nw σ), M') := g1
  unfold mi_X10_givePlan
  rw [g1', Option.bind_some]
  exact ⟨M', rfl, g2, g3, fun i hi => g5 i (Nat.zero_le _) hi⟩
/-- tries have been made on both sides -/
theorem InvS.try {σ : Sg} {p p' : Nat → Nat} {M M' : ab_M} {k : Nat} (hI : InvS σ p M) (hp : Pok σ p') (hk : k ≤ 4000) (h : ∀ c j, ¬ fT c j → ¬ fU c j → c ≠ 67 → c ≠ 85 → ¬ (c = 69 ∧ j = 0) → M'.1 c j = M.1 c j) (h2 : M'.2 = M.2) (hC : PlC σ p' 67 M') (hR : PlR σ p' M') (h67 : ∀ w, g_nw σ ≤ w → w < 16 → M'.1 67 w = -2) (k1 : M'.1 26 5 = nI k) (k2 : M'.1 69 25 = nI k) : InvS σ p' M' := by
  obtain ⟨a1, a2, a3, a4, a5, a6, a7, a8, a9, a10⟩ := hI
  refine ⟨a1, hp, a3.same a1 (fun c j hc => h c j (fT_C hc) (by unfold fC fB at hc; unfold fU; omega) (by unfold fC fB at hc; omega) (by unfold fC fB at hc; omega) (by unfold fC fB at hc; omega)), a4.same a1 (fun c j hc => h c j (by unfold fR at hc; unfold fT; omega) (by unfold fR at hc; unfold fU; omega) (by unfold fR at hc; omega) (by unfold fR at hc; omega) (by unfold fR at hc; omega)), hC, hR, fun w q1 q2 => ⟨h67 w q1 q2, ?_⟩, a8.same (fun c j hc => h c j (by unfold fI at hc; unfold fT; omega) (by unfold fI at hc; unfold fU; omega) (by unfold fI at hc; omega) (by unfold fI at hc; omega) (by unfold fI at hc; omega)), ⟨k, hk, k1, k2⟩, a10.same (fun c j hc => h c j (by unfold fS at hc; unfold fT; omega) (by unfold fS at hc; unfold fU; omega) (by unfold fS at hc; omega) (by unfold fS at hc; omega) (by unfold fS at hc; omega)) (fun c j _ => by rw [h2])⟩
  rw [h 4 w (by unfold fT; omega) (by unfold fU; omega) (by omega) (by omega) (by omega)]
  exact (a7 w q1 q2).2
theorem o_plan {σ : Sg} {p : Nat → Nat} {M : ab_M} (hI : InvS σ p M) (x : Int32) : Ans (mi_X9_plan M x) (fun M => mi_X10_plan M x) := by
  have hS := hI.1
  have hnw := hS.nw
  have i1 : ∀ M : ab_M, mi_X10_isIn M x.toInt64 1 30 = some (if 1 ≤ x ∧ x ≤ 30 then 1 else 0) := fun M => r_isIn _ x 1 30
  by_cases h1 : 1 ≤ x ∧ x ≤ 30
  · obtain ⟨n, hn1, hn, rfl⟩ := ix_rng (a := 1) (b := 30) (by decide) h1 (by decide)
    have hC0 : RepC σ (ab_pi M 26 5 0) := hI.2.2.1.same hS (fun c j hc => pi_ne (by unfold fC fB at hc; omega))
    obtain ⟨M1, s1, s2, s3, s4, s5, s6, s7⟩ := c_search (k := 0) hS hn hC0 (by omega) pi_eq
    have t2 : ∀ c j, ¬ fT c j → M1.1 c j = M.1 c j := fun c j h => by rw [s2 c j h, pi_ne (by unfold fT at h; omega)]
    have e8 : M1.1 1 8 = nI (g_nw σ) := by rw [t2 1 8 (by unfold fT; omega)]; exact hI.2.2.1.1.2.1
    -- the class's end
    have hc : ∃ M2, mi_X9_plan M (nI n) = some (cd (tsr σ n 0).1, M2) ∧ (∀ c j, ¬ fT c j → c ≠ 67 → M2.1 c j = M.1 c j) ∧ M2.2 = M.2 ∧ M2.1 26 5 = nI (tsr σ n 0).2.1 ∧ (∀ j, g_nw σ ≤ j → M2.1 67 j = M.1 67 j) ∧ ((tsr σ n 0).1 = 1 → ∀ j, j < g_nw σ → M2.1 67 j = pv ((tsr σ n 0).2.2 j)) ∧ ((tsr σ n 0).1 ≠ 1 → ∀ j, M2.1 67 j = M.1 67 j) := by
      unfold mi_X9_plan
      rw [w_eq, b_if, if_pos h1, s1, Option.bind_some]
      by_cases hf : (tsr σ n 0).1 = 1
      · obtain ⟨M2, g1, g2, g3, g4, g5⟩ := c_hand hS e8
        refine ⟨M2, ?_, fun c j h h' => by rw [g2 c j h', t2 c j h], by rw [g3, s3]; rfl, by rw [g2 26 5 (by decide), s5], fun j hj => by rw [g5 j hj, t2 67 j (by unfold fT; omega)], fun _ j hj => by rw [g4 j hj, (s7 hf j hj).2.2], fun h => absurd hf h⟩
        have e : cd (tsr σ n 0).1 = 1 := by rw [hf]; rfl
        show ((if cd (tsr σ n 0).1 = 1 then (mi_X8_handOver M1 67).bind fun q10 => some q10 else some M1).bind fun q6 => some (cd (tsr σ n 0).1, q6)) = _
        rw [e, if_pos rfl, g1]
        rfl
      · refine ⟨M1, ?_, fun c j h _ => t2 c j h, by rw [s3]; rfl, s5, fun j _ => t2 67 j (by unfold fT; omega), fun h => absurd h hf, fun _ j => t2 67 j (by unfold fT; omega)⟩
        have e : ¬ cd (tsr σ n 0).1 = 1 := by
          have : (tsr σ n 0).1 = 0 ∨ (tsr σ n 0).1 = 2 := by omega
          rcases this with h | h <;> rw [h] <;> decide
        show ((if cd (tsr σ n 0).1 = 1 then (mi_X8_handOver M1 67).bind fun q10 => some q10 else some M1).bind fun q6 => some (cd (tsr σ n 0).1, q6)) = _
        rw [if_neg e]
        rfl
    obtain ⟨M2, c1, c2, c3, c4, c5, c6, c7⟩ := hc
    -- the model
    have r2 : ∀ c j, ¬ fT c j → c ≠ 67 → ¬ (c = 69 ∧ j = 0) → (ab_pi M2 69 0 0).1 c j = M.1 c j := fun c j a b d => by rw [pi_ne d, c2 c j a b]
    have hR0 : RepR σ (ab_pi M2 69 0 0) := hI.2.2.2.1.same hS (fun c j hc => r2 c j (by unfold fR at hc; unfold fT; omega) (by unfold fR at hc; omega) (by unfold fR at hc; omega))
    obtain ⟨M3, k1, k2, k3, k4⟩ := r_keep hS hR0
    have r4 : ∀ c j, ¬ (c = 69 ∧ (j = 25 ∨ j = 26)) → (ab_pi (ab_pi M3 69 25 0) 69 26 0).1 c j = M3.1 c j := fun c j h => by rw [pi_ne (by omega), pi_ne (by omega)]
    have hR3 : RepR σ (ab_pi (ab_pi M3 69 25 0) 69 26 0) := hR0.same hS (fun c j hc => by rw [r4 c j (by unfold fR at hc; omega), k2 c j (by unfold fR at hc; omega)])
    obtain ⟨z, M4, y1, y2, y3, y4, y5, y6, y7⟩ := r_tryBelow (k := 0) hS hn hR3 (by omega) (by rw [pi_ne (by omega), pi_eq]; rfl) pi_eq
    have m4 : ∀ c j, ¬ fT c j → ¬ fU c j → c ≠ 67 → c ≠ 85 → ¬ (c = 69 ∧ j = 0) → M4.1 c j = M.1 c j := fun c j a b d e f => by
      rw [y2 c j b, r4 c j (by unfold fU at b; omega), k2 c j e, r2 c j a d f]
    have m4T : ∀ c j, fT c j ∨ c = 67 → M4.1 c j = M2.1 c j := fun c j a => by
      unfold fT at a
      rw [y2 c j (by unfold fU; omega), r4 c j (by omega), k2 c j (by omega), pi_ne (by omega)]
    have m42 : M4.2 = M.2 := by rw [y3]; show M3.2 = M.2; rw [k3]; exact c3
    have hmod : mi_X10_plan M2 (nI n) = if z = 0 then ((mi_X10_givePlan M4).bind fun q9 => if (q9.1 69 26) = 0 then some (0, q9) else some ((-2), q9)) else some (1, M4) := by
      unfold mi_X10_plan
      rw [i1, b_if, if_pos h1, k1, Option.bind_some, y1, Option.bind_some]
    by_cases hf : (tsr σ n 0).1 = 1
    · obtain ⟨z1, z2, z3⟩ := y5 hf
      have hz : ¬ z = 0 := by rw [z1]; decide
      refine ⟨1, M2, M4, by rw [c1, hf]; rfl, by show mi_X10_plan M2 (nI n) = _; rw [hmod, if_neg hz], σ, (tsr σ n 0).2.2, hI.try (fun w hw => by have := s7 hf w hw; omega) s6 m4 m42 (fun j hj => by rw [m4T 67 j (Or.inr rfl)]; exact c6 hf j hj) z3 (fun w h1 h2 => by rw [m4T 67 w (Or.inr rfl), c5 w h1]; exact (hI.2.2.2.2.2.2.1 w h1 h2).1) (by rw [m4T 26 5 (Or.inl (by unfold fT; omega))]; exact c4) y4⟩
    · have hR4 : RepR σ M4 := hI.2.2.2.1.same hS (fun c j hc => m4 c j (by unfold fR at hc; unfold fT; omega) (by unfold fR at hc; unfold fU; omega) (by unfold fR at hc; omega) (by unfold fR at hc; omega) (by unfold fR at hc; omega))
      obtain ⟨M5, g1, g2, g3, g4⟩ := r_give hS hR4
      have h01 : (tsr σ n 0).1 = 0 ∨ (tsr σ n 0).1 = 2 := by omega
      have hinv : InvS σ p M5 := hI.try hI.2.1 s6 (fun c j a b d e f => by rw [g2 c j (by unfold fU at b; omega), m4 c j a b d e f]) (by rw [g3, m42]) (fun j hj => by rw [g2 67 j (by decide), m4T 67 j (Or.inr rfl), c7 hf j]; exact hI.2.2.2.2.1 j hj) (fun j hj => by
        rw [g4 j hj, y2 85 j (by unfold fU; omega), r4 85 j (by omega), k4 j hj, r2 80 j (by unfold fT; omega) (by decide) (by omega)]
        exact hI.2.2.2.2.2.1 j hj) (fun w h1 h2 => by rw [g2 67 w (by decide), m4T 67 w (Or.inr rfl), c5 w h1]; exact (hI.2.2.2.2.2.2.1 w h1 h2).1) (by rw [g2 26 5 (by decide), m4T 26 5 (Or.inl (by unfold fT; omega))]; exact c4) (by rw [g2 69 25 (by decide)]; exact y4)
      rcases h01 with hf0 | hf0
      · obtain ⟨z1, z2⟩ := y6 hf0
        refine ⟨0, M2, M5, by rw [c1, hf0]; rfl, ?_, σ, p, hinv⟩
        show mi_X10_plan M2 (nI n) = _
        rw [hmod, if_pos z1, g1, Option.bind_some, g2 69 26 (by decide), z2, if_pos rfl]
      · obtain ⟨z1, z2⟩ := y7 hf0
        refine ⟨-2, M2, M5, by rw [c1, hf0]; rfl, ?_, σ, p, hinv⟩
        show mi_X10_plan M2 (nI n) = _
        rw [hmod, if_pos z1, g1, Option.bind_some, g2 69 26 (by decide), z2, if_neg (by decide)]
  · refine Ans.m1 hI (v := -1) ?_ ?_
    · unfold mi_X9_plan
      rw [w_eq, b_if, if_neg h1]
    · show mi_X10_plan M x = _
      unfold mi_X10_plan
      rw [i1, b_if, if_neg h1]
