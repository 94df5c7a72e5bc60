/-! PURE: the model's tries, plan, least -/
/-- the cells of the model's tries -/
def fU (c j : Nat) : Prop := c = 80 ∨ (c = 69 ∧ (j = 25 ∨ j = 26))
def MS (σ : Sg) (n w c k : Nat) (q : Nat → Nat) (M : ab_M) : Prop := RepR σ M ∧ PlR σ q M ∧ (∀ u, u < w → 1 ≤ q u ∧ q u ≤ n) ∧ (∀ u, w ≤ u → u < g_nw σ → q u = 0) ∧ c ≤ n ∧ M.1 69 25 = nI k ∧ k ≤ 4000 ∧ M.1 69 26 = 0
theorem r_try28 {σ : Sg} (hS : Sok σ) {n : Nat} (hn : n ≤ 30) : ∀ (f w c k : Nat) (q : Nat → Nat) (M : ab_M) (g : Nat), MS σ n w c k q M → w < g_nw σ → 2 * (4000 - k) + w + 1 ≤ f → f + 1 < g →
    ∃ (M' : ab_M) (w' c' : Int32), mi_X10_tryBelow_28 g M (nI n) (nI w) (nI c) = some (w', c', M') ∧ (∀ c j, ¬ fU c j → M'.1 c j = M.1 c j) ∧ M'.2 = M.2 ∧ M'.1 69 25 = nI (trun σ n f w c k q).2.1 ∧ ((trun σ n f w c k q).1 = 1 → w' = nI (g_nw σ) ∧ M'.1 69 26 = 0 ∧ PlR σ (trun σ n f w c k q).2.2 M') ∧ ((trun σ n f w c k q).1 = 0 → w' = -1 ∧ M'.1 69 26 = 0) ∧ ((trun σ n f w c k q).1 = 2 → M'.1 69 26 = 1) := by
  have hnw := hS.nw
  intro f
  induction f with
  | zero => intro w c k q M g hM hw hf; omega
  | succ f ih =>
    intro w c k q M g hM hw hf hg
    obtain ⟨g, rfl⟩ : ∃ m, g = m + 1 + 1 := ⟨g - 2, by omega⟩
    obtain ⟨hR, hP, hq, hq0, hcn, m25, hk, m26⟩ := hM
    have hp : Pok σ q := fun u hu => by
      by_cases h : u < w
      · have := hq u h; omega
      · rw [hq0 u (by omega) hu]; omega
    have hw16 := hS.w16 hw
    rw [mi_X10_tryBelow_28.eq_2, if_neg (nI_pos (by omega)), hR.2.1, if_neg (nI_ge hw (by omega)), m26, if_pos rfl, m25]
    unfold trun
    by_cases hcl : c < n
    · rw [if_pos hcl, if_pos (nI_lt hcl (by omega))]
      by_cases hk4 : k = 4000
      · rw [if_pos hk4, if_pos (show nI k = 4000 by rw [hk4]; rfl), mi_X10_tryBelow_28.eq_2, if_neg (nI_pos (by omega))]
        have e0 : (ab_pi M 69 26 1).1 69 10 = nI (g_nw σ) := by rw [pi_ne (by omega)]; exact hR.2.1
        rw [e0, if_neg (nI_ge hw (by omega)), pi_eq, if_neg (by decide)]
        refine ⟨_, _, _, rfl, fun c j h => pi_ne (by unfold fU at h; omega), rfl, by rw [pi_ne (by omega)]; exact m25, fun h => absurd (show (2 : Nat) = 1 from h) (by decide), fun h => absurd (show (2 : Nat) = 0 from h) (by decide), fun _ => pi_eq⟩
      · rw [if_neg hk4, if_neg (show ¬ nI k = (4000 : Int32) from fun z => hk4 ((nI_eq (b := 4000) (by omega) (by decide)).mp z)), nI_1]
        have s1 : ∀ c j, ¬ (c = 69 ∧ j = 25) → (ab_pi M 69 25 (nI (k + 1))).1 c j = M.1 c j := fun c j h => pi_ne h
        have hR1 : RepR σ (ab_pi M 69 25 (nI (k + 1))) := hR.same hS (fun c j hc => s1 c j (by unfold fR at hc; omega))
        obtain ⟨z, M1, t1, t2, t3, t4⟩ := r_isTaken (M := ab_pi M 69 25 (nI (k + 1))) hS hR1 hp (hP.same (fun j => s1 80 j (by omega))) hw hcl hn (hq0 w (Nat.le_refl _) hw) (fun u hu => (hq u hu).1)
        have hR2 : RepR σ M1 := hR1.same hS (fun c j hc => t2 c j (by unfold fR at hc; omega))
        have t25 : M1.1 69 25 = nI (k + 1) := by rw [t2 69 25 (by decide), pi_eq]
        have t26 : M1.1 69 26 = 0 := by rw [t2 69 26 (by decide), s1 69 26 (by omega)]; exact m26
        have sU : ∀ c j, ¬ fU c j → M1.1 c j = M.1 c j := fun c j h => by unfold fU at h; rw [t2 c j (by omega), s1 c j (by omega)]
        have tl : M1.2 = M.2 := t3
        rw [t1, Option.bind_some]
        rcases t4 with ⟨rfl, hx, hP1⟩ | ⟨rfl, hx, hP1⟩
        · rw [if_pos hx]
          show ∃ (M' : ab_M) (w' c' : Int32), mi_X10_tryBelow_28 (g + 1) M1 (nI n) (nI w + 1) 0 = _ ∧ _
          rw [nI_1]
          have hq' : ∀ u, u < w + 1 → 1 ≤ fup q w (c + 1) u ∧ fup q w (c + 1) u ≤ n := by
            intro u hu
            by_cases e : u = w
            · rw [e, fup_eq]; omega
            · rw [fup_ne e]; exact hq u (by omega)
          by_cases hl : w + 1 < g_nw σ
          · rw [if_pos hl]
            obtain ⟨M', w', c', r1, r2, r3, r4⟩ := ih (w + 1) 0 (k + 1) (fup q w (c + 1)) M1 (g + 1) ⟨hR2, hP1, hq', fun u h1 h2 => by rw [fup_ne (by omega)]; exact hq0 u (by omega) h2, by omega, t25, by omega, t26⟩ hl (by omega) (by omega)
            exact ⟨M', w', c', r1, fun c j h => by rw [r2 c j h, sU c j h], by rw [r3, tl], r4⟩
          · rw [if_neg hl, mi_X10_tryBelow_28.eq_2, if_neg (nI_pos (by omega)), hR2.2.1, if_pos (nI_le (show g_nw σ ≤ w + 1 by omega) (by omega))]
            refine ⟨M1, _, _, rfl, sU, tl, t25, fun _ => ⟨by rw [show w + 1 = g_nw σ by omega], t26, hP1⟩, fun h => absurd (show (1 : Nat) = 0 from h) (by decide), fun h => absurd (show (1 : Nat) = 2 from h) (by decide)⟩
        · rw [if_neg hx]
          show ∃ (M' : ab_M) (w' c' : Int32), mi_X10_tryBelow_28 (g + 1) M1 (nI n) (nI w + 0) (nI c + 1) = _ ∧ _
          rw [nI_1, Int32.add_zero]
          obtain ⟨M', w', c', r1, r2, r3, r4⟩ := ih w (c + 1) (k + 1) q M1 (g + 1) ⟨hR2, hP1, hq, hq0, by omega, t25, by omega, t26⟩ hw (by omega) (by omega)
          exact ⟨M', w', c', r1, fun c j h => by rw [r2 c j h, sU c j h], by rw [r3, tl], r4⟩
    · rw [if_neg hcl, if_neg (nI_nlt (by omega) (by omega))]
      have e2 : nI w + (-1) = nI w - 1 := (Int32.sub_eq_add_neg _ _).symm
      rw [e2]
      by_cases h0 : w = 0
      · subst h0
        rw [if_pos rfl, if_pos ((nI_m1_neg (by omega)).mpr rfl), mi_X10_tryBelow_28.eq_2, if_pos ((nI_m1_neg (by omega)).mpr rfl)]
        exact ⟨M, _, _, rfl, fun _ _ _ => rfl, rfl, m25, fun h => absurd (show (0 : Nat) = 1 from h) (by decide), fun _ => ⟨rfl, m26⟩, fun h => absurd (show (0 : Nat) = 2 from h) (by decide)⟩
      · rw [if_neg h0, if_neg (fun z => h0 ((nI_m1_neg (by omega)).mp z)), nI_m1 (by omega), ab_chk_pos (vin (show w - 1 < 16 by omega)), ab_chk_pos (vin (show w - 1 < 16 by omega)), nI_clamp (show w - 1 < 2 ^ 31 by omega), hP (w - 1) (by omega)]
        have hq1 := hq (w - 1) (by omega)
        obtain ⟨a, ha⟩ : ∃ a, q (w - 1) = a + 1 := ⟨q (w - 1) - 1, by omega⟩
        have e3 : pv (q (w - 1)) + 1 = nI (q (w - 1)) := by rw [ha, pv_s, nI_1]
        rw [e3]
        obtain ⟨M', w', c', r1, r2, r3, r4⟩ := ih (w - 1) (q (w - 1)) k (fup q (w - 1) 0) (ab_pi M 80 (w - 1) (-2)) (g + 1) ⟨hR.p80 hS, hP.up rfl, fun u hu => by rw [fup_ne (by omega)]; exact hq u (by omega), fun u h1 h2 => by
          by_cases e : u = w - 1
          · rw [e, fup_eq]
          · rw [fup_ne e]; exact hq0 u (by omega) h2, hq1.2, by rw [pi_ne (by omega)]; exact m25, hk, by rw [pi_ne (by omega)]; exact m26⟩ (by omega) (by omega) (by omega)
        exact ⟨M', w', c', r1, fun c j h => by rw [r2 c j h, pi_ne (by unfold fU at h; omega)], r3, r4⟩
theorem r_try2 {N : Nat} (hN : N ≤ 16) {x : Int32} : ∀ (k j n : Nat) (M : ab_M), j + k = N → k < n → M.1 69 10 = nI N → ∃ M', mi_X10_tryBelow_2 n M x (nI j) = some (nI N, M') ∧ (∀ c i, c ≠ 80 → M'.1 c i = M.1 c i) ∧ M'.2 = M.2 ∧ (∀ i, i < j → M'.1 80 i = M.1 80 i) ∧ ∀ i, j ≤ i → i < N → M'.1 80 i = -2 := by
  intro k
  induction k with
  | zero =>
    intro j n M hj hn hM
    obtain ⟨n, rfl⟩ : ∃ m, n = m + 1 := ⟨n - 1, by omega⟩
    obtain rfl : j = N := by omega
    rw [mi_X10_tryBelow_2.eq_2, hM, if_pos (Int32.le_refl _)]
    exact ⟨M, rfl, fun _ _ _ => rfl, rfl, fun _ _ => rfl, fun i a b => absurd b (by omega)⟩
  | succ k ih =>
    intro j n M hj hn hM
    obtain ⟨n, rfl⟩ : ∃ m, n = m + 1 := ⟨n - 1, by omega⟩
    rw [mi_X10_tryBelow_2.eq_2, hM, if_neg (Int32.not_le.mpr (nI_lt (show j < N by omega) (by omega))), ab_chk_pos (vin (show j < 16 by omega)), nI_clamp (by omega), nI_1]
    obtain ⟨M', g1, g2, g3, g4, g5⟩ := ih (j + 1) n (ab_pi M 80 j (-2)) (by omega) (by omega) (by rw [pi_ne (by omega)]; exact hM)
    refine ⟨M', g1, fun c i hc => by rw [g2 c i hc, pi_ne (by omega)], g3, fun i hi => by rw [g4 i (by omega), pi_ne (by omega)], fun i a b => ?_⟩
    by_cases e : i = j
    · rw [e, g4 j (by omega), pi_eq]
    · exact g5 i (by omega) b
theorem c_code (σ : Sg) (n : Nat) : ∀ (f w c k : Nat) (q : Nat → Nat), k ≤ 4000 → 2 * (4000 - k) + w + 1 ≤ f → (trun σ n f w c k q).1 ≤ 2 := by
  intro f
  induction f with
  | zero => intro w c k q hk hf; omega
  | succ f ih =>
    intro w c k q hk hf
    unfold trun
    by_cases hcl : c < n
    · rw [if_pos hcl]
      by_cases hk4 : k = 4000
      · rw [if_pos hk4]; exact Nat.le_refl 2
      · rw [if_neg hk4]
        by_cases hx : okT σ q n w c
        · rw [if_pos hx]
          by_cases hl : w + 1 < g_nw σ
          · rw [if_pos hl]; exact ih _ _ _ _ (by omega) (by omega)
          · rw [if_neg hl]; exact (by decide : (1 : Nat) ≤ 2)
        · rw [if_neg hx]; exact ih _ _ _ _ (by omega) (by omega)
    · rw [if_neg hcl]
      by_cases h0 : w = 0
      · rw [if_pos h0]; exact Nat.zero_le 2
      · rw [if_neg h0]; exact ih _ _ _ _ hk (by omega)
theorem r_tryBelow {σ : Sg} (hS : Sok σ) {n k : Nat} (hn : n ≤ 30) {M : ab_M} (hR : RepR σ M) (hk : k ≤ 4000) (h25 : M.1 69 25 = nI k) (h26 : M.1 69 26 = 0) : ∃ (z : Int32) (M' : ab_M), mi_X10_tryBelow M (nI n) = some (z, M') ∧ (∀ c j, ¬ fU c j → M'.1 c j = M.1 c j) ∧ M'.2 = M.2 ∧ M'.1 69 25 = nI (tsr σ n k).2.1 ∧ ((tsr σ n k).1 = 1 → z = 1 ∧ M'.1 69 26 = 0 ∧ PlR σ (tsr σ n k).2.2 M') ∧ ((tsr σ n k).1 = 0 → z = 0 ∧ M'.1 69 26 = 0) ∧ ((tsr σ n k).1 = 2 → z = 0 ∧ M'.1 69 26 = 1) := by
  have hnw := hS.nw
  obtain ⟨M1, g1, g2, g3, g4, g5⟩ := r_try2 hnw (x := nI n) (g_nw σ) 0 ab_F M (by omega) (ab_F_lt (by omega)) hR.2.1
  have g1' : mi_X10_tryBelow_2 ab_F M (nI n) 0 = some (nI (g_nw σ), M1) := g1
  have hR1 : RepR σ M1 := hR.same hS (fun c j hc => g2 c j (by unfold fR at hc; omega))
  have f25 : M1.1 69 25 = nI k := by rw [g2 69 25 (by decide)]; exact h25
  have f26 : M1.1 69 26 = 0 := by rw [g2 69 26 (by decide)]; exact h26
  have sU : ∀ c j, ¬ fU c j → M1.1 c j = M.1 c j := fun c j h => g2 c j (by unfold fU at h; omega)
  unfold mi_X10_tryBelow tsr
  rw [g1', Option.bind_some]
  by_cases h : g_nw σ = 0
  · rw [if_pos h]
    have e : mi_X10_tryBelow_28 ab_F M1 (nI n) 0 0 = some (0, 0, M1) := by
      show mi_X10_tryBelow_28 (99999 + 1) M1 (nI n) 0 0 = _
      rw [mi_X10_tryBelow_28.eq_2, if_neg (by decide), hR1.2.1, h, if_pos (by decide)]
    show ∃ (z : Int32) (M' : ab_M), ((mi_X10_tryBelow_28 ab_F M1 (nI n) 0 0).bind _) = _ ∧ _
    rw [e, Option.bind_some]
    have e10 : M1.1 69 10 = 0 := by rw [hR1.2.1, h]; rfl
    refine ⟨1, M1, ?_, sU, g3, f25, fun _ => ⟨rfl, f26, fun u hu => by omega⟩, fun z => absurd (show (1 : Nat) = 0 from z) (by decide), fun z => absurd (show (1 : Nat) = 2 from z) (by decide)⟩
    show (if (0 : Int32) = M1.1 69 10 then if M1.1 69 26 = 0 then some ((1 : Int32), M1) else some (0, M1) else some (0, M1)) = _
    rw [e10, if_pos rfl, f26, if_pos rfl]
  · rw [if_neg h]
    obtain ⟨M', w', c', r1, r2, r3, r4, r5, r6, r7⟩ := r_try28 hS hn 8001 0 0 k (fun _ => 0) M1 ab_F ⟨hR1, fun u hu => g5 u (Nat.zero_le _) hu, fun u hu => by omega, fun u _ _ => rfl, by omega, f25, hk, f26⟩ (by omega) (by omega) (by unfold ab_F; omega)
    have r1' : mi_X10_tryBelow_28 ab_F M1 (nI n) 0 0 = some (w', c', M') := r1
    show ∃ (z : Int32) (M' : ab_M), ((mi_X10_tryBelow_28 ab_F M1 (nI n) 0 0).bind _) = _ ∧ _
    rw [r1', Option.bind_some]
    have hlim := (c_code σ n 8001 0 0 k (fun _ => 0) hk (by omega))
    generalize trun σ n 8001 0 0 k (fun _ => 0) = T at r4 r5 r6 r7 hlim ⊢
    have e10 : M'.1 69 10 = nI (g_nw σ) := by rw [r2 69 10 (by unfold fU; omega)]; exact hR1.2.1
    have sU2 : ∀ c j, ¬ fU c j → M'.1 c j = M.1 c j := fun c j h => by rw [r2 c j h, sU c j h]
    have tl : M'.2 = M.2 := by rw [r3, g3]
    have hT : T.1 = 1 ∨ T.1 = 0 ∨ T.1 = 2 := by omega
    rcases hT with hT | hT | hT
    · obtain ⟨a, b, c⟩ := r5 hT
      refine ⟨1, M', ?_, sU2, tl, r4, fun _ => ⟨rfl, b, c⟩, fun z => by omega, fun z => by omega⟩
      show (if w' = M'.1 69 10 then if M'.1 69 26 = 0 then some ((1 : Int32), M') else some (0, M') else some (0, M')) = _
      rw [e10, if_pos a, if_pos b]
    · obtain ⟨a, b⟩ := r6 hT
      refine ⟨0, M', ?_, sU2, tl, r4, fun z => by omega, fun _ => ⟨rfl, b⟩, fun z => by omega⟩
      show (if w' = M'.1 69 10 then if M'.1 69 26 = 0 then some ((1 : Int32), M') else some (0, M') else some (0, M')) = _
      rw [e10, a, if_neg]
      intro z
      have := (i_eq _ _).mp z
      rw [nI_toInt (by omega)] at this
      have e : (-1 : Int32).toInt = -1 := rfl
      omega
    · have a := r7 hT
      refine ⟨0, M', ?_, sU2, tl, r4, fun z => by omega, fun z => by omega, fun _ => ⟨rfl, a⟩⟩
      show (if w' = M'.1 69 10 then if M'.1 69 26 = 0 then some ((1 : Int32), M') else some (0, M') else some (0, M')) = _
      rw [a, if_neg (show ¬ (1 : Int32) = 0 by decide)]
      split <;> rfl
