/-! PURE: the model's parts -/
def Lab (σ : Sg) (L : Nat → Nat) (M : ab_M) : Prop := ∀ m, m < g_nm σ → M.1 88 m = nI (L m)
def Lgd (σ : Sg) (L : Nat → Nat) : Prop := ∀ m, m < g_nm σ → L m ≤ m ∧ con σ (L m) m
theorem r_fp2 {σ : Sg} (hS : Sok σ) : ∀ (k j n : Nat) (M : ab_M), j + k = g_nm σ → k < n → M.1 69 1 = nI (g_nm σ) → (∀ m, m < j → M.1 88 m = nI m) → ∃ M', mi_X10_findParts_2 n M (nI j) = some (nI (g_nm σ), M') ∧ (∀ c i, c ≠ 88 → M'.1 c i = M.1 c i) ∧ M'.2 = M.2 ∧ Lab σ id M' := by
  have hnm := hS.nm
  intro k
  induction k with
  | zero =>
    intro j n M hj hn h1 hL
    obtain ⟨n, rfl⟩ : ∃ m, n = m + 1 := ⟨n - 1, by omega⟩
    obtain rfl : j = g_nm σ := by omega
    rw [mi_X10_findParts_2.eq_2, h1, if_pos (Int32.le_refl _)]
    exact ⟨M, rfl, fun _ _ _ => rfl, rfl, hL⟩
  | succ k ih =>
    intro j n M hj hn h1 hL
    obtain ⟨n, rfl⟩ : ∃ m, n = m + 1 := ⟨n - 1, by omega⟩
    rw [mi_X10_findParts_2.eq_2, h1, if_neg (Int32.not_le.mpr (nI_lt (show j < g_nm σ by omega) (by omega))), ab_chk_pos (vin (show j < 12 by omega)), nI_clamp (by omega), show nI j + 1 = nI (j + 1) from nI_add j 1]
    obtain ⟨M', g1, g2, g3, g4⟩ := ih (j + 1) n (ab_pi M 88 j (nI j)) (by omega) (by omega) (by rw [pi_ne (by omega)]; exact h1) (fun m hm => by
      by_cases e : m = j
      · rw [e, pi_eq]
      · rw [pi_ne (by omega)]; exact hL m (by omega))
    exact ⟨M', g1, fun c i hc => by rw [g2 c i hc, pi_ne (fun q => hc q.1)], g3, g4⟩
theorem r_fp45 {σ : Sg} (hS : Sok σ) {a b : Nat} (ha : a < g_nm σ) (y : Int32) : ∀ (k j n : Nat) (M : ab_M) (L : Nat → Nat), j + k = g_nm σ → k < n → RepR σ M → Lab σ L M → Lgd σ L → L a ≤ b → ∃ M' L', mi_X10_findParts_45 n M y (nI a) (nI j) = some (nI (g_nm σ), M') ∧ (∀ c i, c ≠ 88 → M'.1 c i = M.1 c i) ∧ M'.2 = M.2 ∧ Lab σ L' M' ∧ Lgd σ L' ∧ (∀ m, m < g_nm σ → L' m ≤ L m) ∧ ∀ m, j ≤ m → m < g_nm σ → adj σ a m → L' m ≤ b := by
  have hnm := hS.nm
  intro k
  induction k with
  | zero =>
    intro j n M L hj hn hR hL hG hb
    obtain ⟨n, rfl⟩ : ∃ m, n = m + 1 := ⟨n - 1, by omega⟩
    obtain rfl : j = g_nm σ := by omega
    rw [mi_X10_findParts_45.eq_2, hR.1, if_pos (Int32.le_refl _)]
    exact ⟨M, L, rfl, fun _ _ _ => rfl, rfl, hL, hG, fun _ _ => Nat.le_refl _, fun m h1 h2 => absurd h2 (by omega)⟩
  | succ k ih =>
    intro j n M L hj hn hR hL hG hb
    obtain ⟨n, rfl⟩ : ∃ m, n = m + 1 := ⟨n - 1, by omega⟩
    have hlt : j < g_nm σ := by omega
    rw [mi_X10_findParts_45.eq_2, hR.1, if_neg (Int32.not_le.mpr (nI_lt hlt (by omega))), show nI j + 1 = nI (j + 1) from nI_add j 1]
    by_cases e : a = j
    · rw [if_pos (by rw [e]), Option.bind_some]
      obtain ⟨M', L', g1, g2, g3, g4, g5, g6, g7⟩ := ih (j + 1) n M L (by omega) (by omega) hR hL hG hb
      refine ⟨M', L', g1, g2, g3, g4, g5, g6, fun m q1 q2 q3 => ?_⟩
      by_cases w : m = j
      · exact absurd (e.trans w.symm) q3.1
      · exact g7 m (by omega) q2 q3
    · rw [if_neg (show ¬ nI a = nI j from fun w => e ((nI_eq (by omega) (by omega)).mp w))]
      obtain ⟨z, z1, z2⟩ := r_areNear hS hR ha hlt e
      rw [z1, Option.bind_some]
      by_cases hA : adj σ a j
      · have la := (hG a ha).1
        have lj := (hG j hlt).1
        rw [if_neg (fun w => z2.mp w hA)]
        simp only [nI_clamp (show a < 2 ^ 31 by omega), nI_clamp (show j < 2 ^ 31 by omega), vin (show a < 12 by omega), vin (show j < 12 by omega), ab_chk_true]
        rw [hL a ha, hL j hlt]
        have st : (if nI (L j) ≤ nI (L a) then some (nI (L j)) else some (nI (L a))) = some (nI (min (L j) (L a))) := by
          by_cases w : L j ≤ L a
          · rw [if_pos (nI_le w (by omega)), Nat.min_eq_left w]
          · rw [if_neg (Int32.not_le.mpr (nI_lt (by omega) (by omega))), Nat.min_eq_right (by omega)]
        rw [st, Option.bind_some, Option.bind_some]
        have hGj : Lgd σ (fup L j (min (L j) (L a))) := fun m hm => by
          by_cases w : m = j
          · rw [w, fup_eq]
            by_cases v : L j ≤ L a
            · rw [Nat.min_eq_left v]; exact hG j hlt
            · rw [Nat.min_eq_right (by omega)]
              exact ⟨by omega, con_trans (hG a ha).2 (con_one ha hlt hA)⟩
          · rw [fup_ne w]; exact hG m hm
        obtain ⟨M', L', g1, g2, g3, g4, g5, g6, g7⟩ := ih (j + 1) n (ab_pi M 88 j (nI (min (L j) (L a)))) (fup L j (min (L j) (L a))) (by omega) (by omega) (hR.same hS (fun c i hc => pi_ne (by unfold fR at hc; omega))) (fun m hm => by
          by_cases w : m = j
          · rw [w, fup_eq, pi_eq]
          · rw [fup_ne w, pi_ne (by omega)]; exact hL m hm) hGj (by rw [fup_ne e]; exact hb)
        refine ⟨M', L', g1, fun c i hc => by rw [g2 c i hc, pi_ne (fun q => hc q.1)], g3, g4, g5, fun m hm => ?_, fun m q1 q2 q3 => ?_⟩
        · have := g6 m hm
          by_cases w : m = j
          · rw [w, fup_eq] at this; rw [w]; omega
          · rw [fup_ne w] at this; exact this
        · by_cases w : m = j
          · have := g6 m q2
            rw [w, fup_eq] at this; rw [w]; omega
          · exact g7 m (by omega) q2 q3
      · rw [if_pos (z2.mpr hA), Option.bind_some]
        obtain ⟨M', L', g1, g2, g3, g4, g5, g6, g7⟩ := ih (j + 1) n M L (by omega) (by omega) hR hL hG hb
        refine ⟨M', L', g1, g2, g3, g4, g5, g6, fun m q1 q2 q3 => ?_⟩
        by_cases w : m = j
        · rw [w] at q3; exact absurd q3 hA
        · exact g7 m (by omega) q2 q3
theorem r_fp35 {σ : Sg} (hS : Sok σ) {L0 : Nat → Nat} (y : Int32) : ∀ (k j n : Nat) (M : ab_M) (L : Nat → Nat), j + k = g_nm σ → k < n → RepR σ M → Lab σ L M → Lgd σ L → (∀ m, m < g_nm σ → L m ≤ L0 m) → ∃ M' L', mi_X10_findParts_35 n M y (nI j) = some (nI (g_nm σ), M') ∧ (∀ c i, c ≠ 88 → M'.1 c i = M.1 c i) ∧ M'.2 = M.2 ∧ Lab σ L' M' ∧ Lgd σ L' ∧ (∀ m, m < g_nm σ → L' m ≤ L m) ∧ ∀ a m, j ≤ a → a < g_nm σ → m < g_nm σ → adj σ a m → L' m ≤ L0 a := by
  have hnm := hS.nm
  intro k
  induction k with
  | zero =>
    intro j n M L hj hn hR hL hG hb
    obtain ⟨n, rfl⟩ : ∃ m, n = m + 1 := ⟨n - 1, by omega⟩
    obtain rfl : j = g_nm σ := by omega
    rw [mi_X10_findParts_35.eq_2, hR.1, if_pos (Int32.le_refl _)]
    exact ⟨M, L, rfl, fun _ _ _ => rfl, rfl, hL, hG, fun _ _ => Nat.le_refl _, fun a m h1 h2 => absurd h2 (by omega)⟩
  | succ k ih =>
    intro j n M L hj hn hR hL hG hb
    obtain ⟨n, rfl⟩ : ∃ m, n = m + 1 := ⟨n - 1, by omega⟩
    have hlt : j < g_nm σ := by omega
    obtain ⟨M1, L1, g1, g2, g3, g4, g5, g6, g7⟩ := r_fp45 hS hlt y (g_nm σ) 0 ab_F M L (by omega) (ab_F_lt (by omega)) hR hL hG (hb j hlt)
    have g1' : mi_X10_findParts_45 ab_F M y (nI j) 0 = _ := g1
    rw [mi_X10_findParts_35.eq_2, hR.1, if_neg (Int32.not_le.mpr (nI_lt hlt (by omega))), show nI j + 1 = nI (j + 1) from nI_add j 1, g1', Option.bind_some]
    obtain ⟨M2, L2, k1, k2, k3, k4, k5, k6, k7⟩ := ih (j + 1) n M1 L1 (by omega) (by omega) (hR.same hS (fun c i hc => g2 c i (by unfold fR at hc; omega))) g4 g5 (fun m hm => Nat.le_trans (g6 m hm) (hb m hm))
    refine ⟨M2, L2, k1, fun c i hc => by rw [k2 c i hc, g2 c i hc], k3.trans g3, k4, k5, fun m hm => Nat.le_trans (k6 m hm) (g6 m hm), fun a m q1 q2 q3 q4 => ?_⟩
    by_cases e : a = j
    · rw [e] at q4 ⊢
      exact Nat.le_trans (k6 m q3) (g7 m (by omega) q3 q4)
    · exact k7 a m (by omega) q2 q3 q4
theorem r_fp25 {σ : Sg} (hS : Sok σ) : ∀ (k j n : Nat) (M : ab_M) (L : Nat → Nat), j + k = g_nm σ → k < n → RepR σ M → Lab σ L M → Lgd σ L → (∀ m m0, m < g_nm σ → m0 < g_nm σ → Dk σ m0 j m → L m ≤ m0) → ∃ M' L', mi_X10_findParts_25 n M (nI j) = some (nI (g_nm σ), M') ∧ (∀ c i, c ≠ 88 → M'.1 c i = M.1 c i) ∧ M'.2 = M.2 ∧ Lab σ L' M' ∧ Lgd σ L' ∧ ∀ m m0, m < g_nm σ → m0 < g_nm σ → Dk σ m0 (g_nm σ) m → L' m ≤ m0 := by
  have hnm := hS.nm
  intro k
  induction k with
  | zero =>
    intro j n M L hj hn hR hL hG hb
    obtain ⟨n, rfl⟩ : ∃ m, n = m + 1 := ⟨n - 1, by omega⟩
    obtain rfl : j = g_nm σ := by omega
    rw [mi_X10_findParts_25.eq_2, hR.1, if_pos (Int32.le_refl _)]
    exact ⟨M, L, rfl, fun _ _ _ => rfl, rfl, hL, hG, hb⟩
  | succ k ih =>
    intro j n M L hj hn hR hL hG hb
    obtain ⟨n, rfl⟩ : ∃ m, n = m + 1 := ⟨n - 1, by omega⟩
    have hlt : j < g_nm σ := by omega
    obtain ⟨M1, L1, g1, g2, g3, g4, g5, g6, g7⟩ := r_fp35 hS (L0 := L) (nI j) (g_nm σ) 0 ab_F M L (by omega) (ab_F_lt (by omega)) hR hL hG (fun m _ => Nat.le_refl _)
    have g1' : mi_X10_findParts_35 ab_F M (nI j) 0 = _ := g1
    rw [mi_X10_findParts_25.eq_2, hR.1, if_neg (Int32.not_le.mpr (nI_lt hlt (by omega))), show nI j + 1 = nI (j + 1) from nI_add j 1, g1', Option.bind_some]
    obtain ⟨M2, L2, k1, k2, k3, k4, k5, k6⟩ := ih (j + 1) n M1 L1 (by omega) (by omega) (hR.same hS (fun c i hc => g2 c i (by unfold fR at hc; omega))) g4 g5 (fun m m0 h1 h2 h3 => by
      rcases h3 with h3 | ⟨-, y, q2, q3, q4⟩
      · exact Nat.le_trans (g6 m h1) (hb m m0 h1 h2 h3)
      · exact Nat.le_trans (g7 y m (by omega) q2 h1 q4) (hb y m0 q2 h2 q3))
    exact ⟨M2, L2, k1, fun c i hc => by rw [k2 c i hc, g2 c i hc], k3.trans g3, k4, k5, k6⟩
