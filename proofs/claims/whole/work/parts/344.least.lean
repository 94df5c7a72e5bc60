/-! PURE: least -/
noncomputable def lru (σ : Sg) : Nat → Nat → Nat → Nat × Nat × Nat × (Nat → Nat)
  | 0, n, k => (0, n, k, fun _ => 0)
  | f + 1, n, k => if (tsr σ n k).1 = 1 then (1, n, (tsr σ n k).2.1, (tsr σ n k).2.2) else if (tsr σ n k).1 = 0 then lru σ f (n + 1) (tsr σ n k).2.1 else (2, n, (tsr σ n k).2.1, fun _ => 0)
theorem c_least10 {σ : Sg} (hS : Sok σ) : ∀ (f n k : Nat) (M : ab_M) (g : Nat), n + f = 31 → RepC σ M → k ≤ 4000 → M.1 26 5 = nI k → f < g →
    ∃ M', (∀ c j, ¬ fT c j → c ≠ 67 → M'.1 c j = M.1 c j) ∧ M'.2 = M.2 ∧ M'.1 26 5 = nI (lru σ f n k).2.2.1 ∧ (lru σ f n k).2.2.1 ≤ 4000 ∧ (∀ j, g_nw σ ≤ j → M'.1 67 j = M.1 67 j) ∧ ((lru σ f n k).1 ≠ 1 → ∀ j, M'.1 67 j = M.1 67 j) ∧ (((lru σ f n k).1 = 0 ∧ ∃ y, mi_X9_least_10 g M (nI n) = some (.inl (y, M'))) ∨ ((lru σ f n k).1 = 2 ∧ mi_X9_least_10 g M (nI n) = some (.inr (-2, M'))) ∨ ((lru σ f n k).1 = 1 ∧ mi_X9_least_10 g M (nI n) = some (.inr (nI (lru σ f n k).2.1, M')) ∧ ∀ u, u < g_nw σ → (lru σ f n k).2.2.2 u ≤ 30 ∧ M'.1 67 u = pv ((lru σ f n k).2.2.2 u))) := by
  intro f
  induction f with
  | zero =>
    intro n k M g hn hC hk hM hg
    obtain ⟨g, rfl⟩ : ∃ m, g = m + 1 := ⟨g - 1, by omega⟩
    obtain rfl : n = 31 := by omega
    rw [mi_X9_least_10.eq_2, if_pos (by decide)]
    exact ⟨M, fun _ _ _ _ => rfl, rfl, hM, hk, fun _ _ => rfl, fun _ _ => rfl, Or.inl ⟨rfl, _, rfl⟩⟩
  | succ f ih =>
    intro n k M g hn hC hk hM hg
    obtain ⟨g, rfl⟩ : ∃ m, g = m + 1 := ⟨g - 1, by omega⟩
    obtain ⟨M1, s1, s2, s3, s4, s5, s6, s7⟩ := c_search hS (show n ≤ 30 by omega) hC hk hM
    have e8 : M1.1 1 8 = nI (g_nw σ) := by rw [s2 1 8 (by unfold fT; omega)]; exact hC.1.2.1
    rw [mi_X9_least_10.eq_2, if_neg (show ¬ (30 : Int32) < nI n from nI_nlt (show n ≤ 30 by omega) (by decide)), s1, Option.bind_some, nI_1]
    unfold lru
    by_cases h1 : (tsr σ n k).1 = 1
    · rw [if_pos h1]
      obtain ⟨M2, g1, g2, g3, g4, g5⟩ := c_hand hS e8
      refine ⟨M2, fun c j h h' => by rw [g2 c j h', s2 c j h], by rw [g3, s3], by rw [g2 26 5 (by decide)]; exact s5, s6, fun j hj => by rw [g5 j hj, s2 67 j (by unfold fT; omega)], fun h => absurd rfl h, Or.inr (Or.inr ⟨rfl, ?_, fun u hu => ⟨by have := s7 h1 u hu; show (tsr σ n k).2.2 u ≤ 30; omega, by rw [g4 u hu]; exact (s7 h1 u hu).2.2⟩⟩)⟩
      show (if cd (tsr σ n k).1 = -2 then _ else if cd (tsr σ n k).1 = 1 then ((mi_X8_handOver M1 67).bind fun q6 => some (Sum.inr (nI n, q6))) else _) = _
      rw [h1, show cd 1 = 1 from rfl, if_neg (by decide), if_pos rfl, g1]
      rfl
    · rw [if_neg h1]
      by_cases h0 : (tsr σ n k).1 = 0
      · rw [if_pos h0]
        obtain ⟨M', r1, r2, r3, r4, r5, r6, r7⟩ := ih (n + 1) (tsr σ n k).2.1 M1 g (by omega) (hC.same hS (fun c j hc => s2 c j (fT_C hc))) s6 s5 (by omega)
        have e : (if cd (tsr σ n k).1 = -2 then some (Sum.inr ((-2 : Int32), M1)) else if cd (tsr σ n k).1 = 1 then ((mi_X8_handOver M1 67).bind fun q6 => some (Sum.inr (nI n, q6))) else mi_X9_least_10 g M1 (nI (n + 1))) = mi_X9_least_10 g M1 (nI (n + 1)) := by
          rw [h0, show cd 0 = 0 from rfl, if_neg (by decide), if_neg (by decide)]
        refine ⟨M', fun c j h h' => by rw [r1 c j h h', s2 c j h], by rw [r2, s3], r3, r4, fun j hj => by rw [r5 j hj, s2 67 j (by unfold fT; omega)], fun h j => by rw [r6 h j, s2 67 j (by unfold fT; omega)], ?_⟩
        show ((lru σ f (n + 1) (tsr σ n k).2.1).1 = 0 ∧ ∃ y, (if cd (tsr σ n k).1 = -2 then some (Sum.inr ((-2 : Int32), M1)) else if cd (tsr σ n k).1 = 1 then ((mi_X8_handOver M1 67).bind fun q6 => some (Sum.inr (nI n, q6))) else mi_X9_least_10 g M1 (nI (n + 1))) = _) ∨ (_ ∧ (if cd (tsr σ n k).1 = -2 then some (Sum.inr ((-2 : Int32), M1)) else if cd (tsr σ n k).1 = 1 then ((mi_X8_handOver M1 67).bind fun q6 => some (Sum.inr (nI n, q6))) else mi_X9_least_10 g M1 (nI (n + 1))) = _) ∨ (_ ∧ (if cd (tsr σ n k).1 = -2 then some (Sum.inr ((-2 : Int32), M1)) else if cd (tsr σ n k).1 = 1 then ((mi_X8_handOver M1 67).bind fun q6 => some (Sum.inr (nI n, q6))) else mi_X9_least_10 g M1 (nI (n + 1))) = _ ∧ _)
        rw [e]
        exact r7
      · rw [if_neg h0]
        have h2 : (tsr σ n k).1 = 2 := by omega
        refine ⟨M1, fun c j h _ => s2 c j h, s3, s5, s6, fun j _ => s2 67 j (by unfold fT; omega), fun _ j => s2 67 j (by unfold fT; omega), Or.inr (Or.inl ⟨rfl, ?_⟩)⟩
        show (if cd (tsr σ n k).1 = -2 then some (Sum.inr ((-2 : Int32), M1)) else _) = _
        rw [h2, show cd 2 = -2 from rfl, if_pos rfl]
theorem trun_lim (σ : Sg) (n : Nat) : ∀ (f w c k : Nat) (q : Nat → Nat), k ≤ 4000 → (trun σ n f w c k q).2.1 ≤ 4000 := by
  intro f
  induction f with
  | zero => intro w c k q hk; exact hk
  | succ f ih =>
    intro w c k q hk
    unfold trun
    by_cases hcl : c < n
    · rw [if_pos hcl]
      by_cases hk4 : k = 4000
      · rw [if_pos hk4]; exact hk
      · rw [if_neg hk4]
        by_cases hx : okT σ q n w c
        · rw [if_pos hx]
          by_cases hl : w + 1 < g_nw σ
          · rw [if_pos hl]; exact ih _ _ _ _ (by omega)
          · rw [if_neg hl]; show k + 1 ≤ 4000; omega
        · rw [if_neg hx]; exact ih _ _ _ _ (by omega)
    · rw [if_neg hcl]
      by_cases h0 : w = 0
      · rw [if_pos h0]; exact hk
      · rw [if_neg h0]; exact ih _ _ _ _ hk
theorem tsr_lim (σ : Sg) (n k : Nat) (hk : k ≤ 4000) : (tsr σ n k).1 ≤ 2 ∧ (tsr σ n k).2.1 ≤ 4000 := by
  unfold tsr
  by_cases h : g_nw σ = 0
  · rw [if_pos h]; exact ⟨(by decide : (1 : Nat) ≤ 2), hk⟩
  · rw [if_neg h]; exact ⟨c_code σ n 8001 0 0 k _ hk (by omega), trun_lim σ n 8001 0 0 k _ hk⟩
theorem r_least21 {σ : Sg} (hS : Sok σ) : ∀ (f n k : Nat) (M : ab_M) (g : Nat), n + f = 31 → RepR σ M → k ≤ 4000 → M.1 69 25 = nI k → M.1 69 26 = 0 → f + 1 < g →
    ∃ M', (∀ c j, ¬ fU c j → M'.1 c j = M.1 c j) ∧ M'.2 = M.2 ∧ M'.1 69 25 = nI (lru σ f n k).2.2.1 ∧ (((lru σ f n k).1 = 0 ∧ M'.1 69 26 = 0 ∧ ∃ y, mi_X10_least_21 g M (nI n) = some (.inl (y, M'))) ∨ ((lru σ f n k).1 = 2 ∧ M'.1 69 26 = 1 ∧ ∃ y, mi_X10_least_21 g M (nI n) = some (.inl (y, M'))) ∨ ((lru σ f n k).1 = 1 ∧ mi_X10_least_21 g M (nI n) = some (.inr (nI (lru σ f n k).2.1, M')) ∧ PlR σ (lru σ f n k).2.2.2 M')) := by
  intro f
  induction f with
  | zero =>
    intro n k M g hn hR hk h25 h26 hg
    obtain ⟨g, rfl⟩ : ∃ m, g = m + 1 := ⟨g - 1, by omega⟩
    obtain rfl : n = 31 := by omega
    rw [mi_X10_least_21.eq_2, if_pos (by decide)]
    exact ⟨M, fun _ _ _ => rfl, rfl, h25, Or.inl ⟨rfl, h26, _, rfl⟩⟩
  | succ f ih =>
    intro n k M g hn hR hk h25 h26 hg
    obtain ⟨g, rfl⟩ : ∃ m, g = m + 1 + 1 := ⟨g - 2, by omega⟩
    obtain ⟨z, M1, y1, y2, y3, y4, y5, y6, y7⟩ := r_tryBelow hS (show n ≤ 30 by omega) hR hk h25 h26
    have hlim : (tsr σ n k).1 ≤ 2 ∧ (tsr σ n k).2.1 ≤ 4000 := tsr_lim σ n k hk
    rw [mi_X10_least_21.eq_2, if_neg (show ¬ (30 : Int32) < nI n from nI_nlt (show n ≤ 30 by omega) (by decide)), h26, if_pos rfl, y1, Option.bind_some, nI_1]
    unfold lru
    by_cases h1 : (tsr σ n k).1 = 1
    · rw [if_pos h1]
      obtain ⟨rfl, a, b⟩ := y5 h1
      exact ⟨M1, y2, y3, y4, Or.inr (Or.inr ⟨rfl, rfl, b⟩)⟩
    · rw [if_neg h1]
      by_cases h0 : (tsr σ n k).1 = 0
      · rw [if_pos h0]
        obtain ⟨rfl, a⟩ := y6 h0
        obtain ⟨M', r1, r2, r3, r4⟩ := ih (n + 1) (tsr σ n k).2.1 M1 (g + 1) (by omega) (hR.same hS (fun c j hc => y2 c j (by unfold fR at hc; unfold fU; omega))) hlim.2 y4 a (by omega)
        exact ⟨M', fun c j h => by rw [r1 c j h, y2 c j h], by rw [r2, y3], r3, r4⟩
      · rw [if_neg h0]
        obtain ⟨rfl, a⟩ := y7 (by omega)
        refine ⟨M1, y2, y3, y4, Or.inr (Or.inl ⟨rfl, a, nI (n + 1), ?_⟩)⟩
        show mi_X10_least_21 (g + 1) M1 (nI (n + 1)) = _
        rw [mi_X10_least_21.eq_2, a, if_neg (show ¬ (1 : Int32) = 0 by decide)]
        split <;> rfl
theorem o_least {σ : Sg} {p : Nat → Nat} {M : ab_M} (hI : InvS σ p M) : Ans (mi_X9_least M) (fun M => mi_X10_least M) := by
  have hS := hI.1
  have hnw := hS.nw
  have hC0 : RepC σ (ab_pi M 26 5 0) := hI.2.2.1.same hS (fun c j hc => pi_ne (by unfold fC fB at hc; omega))
  obtain ⟨M2, s2, s3, s4, s5, s6, s7, s8⟩ := c_least10 hS 30 1 0 (ab_pi M 26 5 0) ab_F (by omega) hC0 (by omega) pi_eq (by unfold ab_F; omega)
  have t2 : ∀ c j, ¬ fT c j → c ≠ 67 → M2.1 c j = M.1 c j := fun c j h h' => by rw [s2 c j h h', pi_ne (by unfold fT at h; omega)]
  have t3 : M2.2 = M.2 := by rw [s3]; rfl
  have t5 : ∀ j, g_nw σ ≤ j → M2.1 67 j = M.1 67 j := fun j h => by rw [s6 j h, pi_ne (by omega)]
  have t7 : (lru σ 30 1 0).1 ≠ 1 → ∀ j, M2.1 67 j = M.1 67 j := fun h j => by rw [s7 h j, pi_ne (by omega)]
  have r2 : ∀ c j, ¬ fT c j → c ≠ 67 → ¬ (c = 69 ∧ j = 0) → (ab_pi M2 69 0 0).1 c j = M.1 c j := fun c j a b d => by rw [pi_ne d, t2 c j a b]
  have hR0 : RepR σ (ab_pi M2 69 0 0) := hI.2.2.2.1.same hS (fun c j hc => r2 c j (by unfold fR at hc; unfold fT; omega) (by unfold fR at hc; omega) (by unfold fR at hc; omega))
  obtain ⟨M3, k1, k2, k3, k4⟩ := r_keep hS hR0
  have r4 : ∀ c j, ¬ (c = 69 ∧ (j = 25 ∨ j = 26)) → (ab_pi (ab_pi M3 69 25 0) 69 26 0).1 c j = M3.1 c j := fun c j h => by rw [pi_ne (by omega), pi_ne (by omega)]
  have hR3 : RepR σ (ab_pi (ab_pi M3 69 25 0) 69 26 0) := hR0.same hS (fun c j hc => by rw [r4 c j (by unfold fR at hc; omega), k2 c j (by unfold fR at hc; omega)])
  obtain ⟨M4, y2, y3, y4, y5⟩ := r_least21 hS 30 1 0 (ab_pi (ab_pi M3 69 25 0) 69 26 0) ab_F (by omega) hR3 (by omega) (by rw [pi_ne (by omega), pi_eq]; rfl) pi_eq (by unfold ab_F; omega)
  have m4 : ∀ c j, ¬ fT c j → ¬ fU c j → c ≠ 67 → c ≠ 85 → ¬ (c = 69 ∧ j = 0) → M4.1 c j = M.1 c j := fun c j a b d e f => by
    rw [y2 c j b, r4 c j (by unfold fU at b; omega), k2 c j e, r2 c j a d f]
  have m4T : ∀ c j, fT c j ∨ c = 67 → M4.1 c j = M2.1 c j := fun c j a => by
    unfold fT at a
    rw [y2 c j (by unfold fU; omega), r4 c j (by omega), k2 c j (by omega), pi_ne (by omega)]
  have m42 : M4.2 = M.2 := by rw [y3]; show M3.2 = M.2; rw [k3]; exact t3
  have hmod : mi_X10_least M2 = ((mi_X10_least_21 ab_F (ab_pi (ab_pi M3 69 25 0) 69 26 0) (nI 1)).bind fun q14 => Sum.elim (fun q8 => (mi_X10_givePlan q8.2).bind fun q10 => if (q10.1 69 26) = 0 then some ((-3), q10) else some ((-2), q10)) (fun v13 => some v13) q14) := by
    unfold mi_X10_least
    rw [k1, Option.bind_some]
    rfl
  have hcls : mi_X9_least M = ((mi_X9_least_10 ab_F (ab_pi M 26 5 0) (nI 1)).bind fun q11 => Sum.elim (fun q8 => some ((-3), q8.2)) (fun v10 => some v10) q11) := rfl
  by_cases hf : (lru σ 30 1 0).1 = 1
  · obtain ⟨u1, u2⟩ : mi_X9_least_10 ab_F (ab_pi M 26 5 0) (nI 1) = some (.inr (nI (lru σ 30 1 0).2.1, M2)) ∧ ∀ u, u < g_nw σ → (lru σ 30 1 0).2.2.2 u ≤ 30 ∧ M2.1 67 u = pv ((lru σ 30 1 0).2.2.2 u) := by
      rcases s8 with ⟨h, -⟩ | ⟨h, -⟩ | ⟨h, h1⟩
      · omega
      · omega
      · exact h1
    obtain ⟨v1, v2⟩ : mi_X10_least_21 ab_F (ab_pi (ab_pi M3 69 25 0) 69 26 0) (nI 1) = some (.inr (nI (lru σ 30 1 0).2.1, M4)) ∧ PlR σ (lru σ 30 1 0).2.2.2 M4 := by
      rcases y5 with ⟨h, -⟩ | ⟨h, -⟩ | ⟨h, h1⟩
      · omega
      · omega
      · exact h1
    refine ⟨nI (lru σ 30 1 0).2.1, M2, M4, by rw [hcls, u1]; rfl, by show mi_X10_least M2 = _; rw [hmod, v1]; rfl, σ, (lru σ 30 1 0).2.2.2, hI.try (fun w hw => (u2 w hw).1) s5 m4 m42 (fun j hj => by rw [m4T 67 j (Or.inr rfl)]; exact (u2 j hj).2) v2 (fun w h1 h2 => by rw [m4T 67 w (Or.inr rfl), t5 w h1]; exact (hI.2.2.2.2.2.2.1 w h1 h2).1) (by rw [m4T 26 5 (Or.inl (by unfold fT; omega))]; exact s4) y4⟩
  · have hR4 : RepR σ M4 := hI.2.2.2.1.same hS (fun c j hc => m4 c j (by unfold fR at hc; unfold fT; omega) (by unfold fR at hc; unfold fU; omega) (by unfold fR at hc; omega) (by unfold fR at hc; omega) (by unfold fR at hc; omega))
    obtain ⟨M5, g1, g2, g3, g4⟩ := r_give hS hR4
    have hinv : InvS σ p M5 := hI.try hI.2.1 s5 (fun c j a b d e f => by rw [g2 c j (by unfold fU at b; omega), m4 c j a b d e f]) (by rw [g3, m42]) (fun j hj => by rw [g2 67 j (by decide), m4T 67 j (Or.inr rfl), t7 hf j]; exact hI.2.2.2.2.1 j hj) (fun j hj => by
      rw [g4 j hj, y2 85 j (by unfold fU; omega), r4 85 j (by omega), k4 j hj, r2 80 j (by unfold fT; omega) (by decide) (by omega)]
      exact hI.2.2.2.2.2.1 j hj) (fun w h1 h2 => by rw [g2 67 w (by decide), m4T 67 w (Or.inr rfl), t5 w h1]; exact (hI.2.2.2.2.2.2.1 w h1 h2).1) (by rw [g2 26 5 (by decide), m4T 26 5 (Or.inl (by unfold fT; omega))]; exact s4) (by rw [g2 69 25 (by decide)]; exact y4)
    rcases s8 with ⟨h, y, u1⟩ | ⟨h, u1⟩ | ⟨h, -⟩
    · obtain ⟨v0, y', v1⟩ : M4.1 69 26 = 0 ∧ ∃ y, mi_X10_least_21 ab_F (ab_pi (ab_pi M3 69 25 0) 69 26 0) (nI 1) = some (.inl (y, M4)) := by
        rcases y5 with ⟨-, h1⟩ | ⟨h', -⟩ | ⟨h', -⟩
        · exact h1
        · omega
        · omega
      refine ⟨-3, M2, M5, by rw [hcls, u1]; rfl, ?_, σ, p, hinv⟩
      show mi_X10_least M2 = _
      rw [hmod, v1]
      show ((mi_X10_givePlan M4).bind fun q10 => if (q10.1 69 26) = 0 then some ((-3 : Int32), q10) else some ((-2), q10)) = _
      rw [g1, Option.bind_some, g2 69 26 (by decide), v0, if_pos rfl]
    · obtain ⟨v0, y', v1⟩ : M4.1 69 26 = 1 ∧ ∃ y, mi_X10_least_21 ab_F (ab_pi (ab_pi M3 69 25 0) 69 26 0) (nI 1) = some (.inl (y, M4)) := by
        rcases y5 with ⟨h', -⟩ | ⟨-, h1⟩ | ⟨h', -⟩
        · omega
        · exact h1
        · omega
      refine ⟨-2, M2, M5, by rw [hcls, u1]; rfl, ?_, σ, p, hinv⟩
      show mi_X10_least M2 = _
      rw [hmod, v1]
      show ((mi_X10_givePlan M4).bind fun q10 => if (q10.1 69 26) = 0 then some ((-3 : Int32), q10) else some ((-2), q10)) = _
      rw [g1, Option.bind_some, g2 69 26 (by decide), v0, if_neg (by decide)]
    · exact absurd h hf
