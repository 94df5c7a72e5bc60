/-! PURE: part, count -/
theorem r_fp125 {σ : Sg} (hS : Sok σ) {L : Nat → Nat} (hL : ∀ m, m < g_nm σ → L m ≤ m ∧ hea σ (L m) ∧ con σ (L m) m) : ∀ (k j n : Nat) (M : ab_M), j + k = g_nm σ → k < n → M.1 69 1 = nI (g_nm σ) → (∀ m, m < j → M.1 88 m = nI (nh σ (L m))) → (∀ m, j ≤ m → m < g_nm σ → M.1 88 m = nI (L m)) → ∃ M', mi_X10_findParts_125 n M (nI (nh σ j)) (nI j) = some (nI (nh σ (g_nm σ)), nI (g_nm σ), M') ∧ (∀ c i, c ≠ 88 → M'.1 c i = M.1 c i) ∧ M'.2 = M.2 ∧ ∀ m, m < g_nm σ → M'.1 88 m = nI (nh σ (L m)) := by
  have hnm := hS.nm
  intro k
  induction k with
  | zero =>
    intro j n M hj hn h1 hA hB
    obtain ⟨n, rfl⟩ : ∃ m, n = m + 1 := ⟨n - 1, by omega⟩
    obtain rfl : j = g_nm σ := by omega
    rw [mi_X10_findParts_125.eq_2, h1, if_pos (Int32.le_refl _)]
    exact ⟨M, rfl, fun _ _ _ => rfl, rfl, hA⟩
  | succ k ih =>
    intro j n M hj hn h1 hA hB
    obtain ⟨n, rfl⟩ : ∃ m, n = m + 1 := ⟨n - 1, by omega⟩
    have hlt : j < g_nm σ := by omega
    obtain ⟨l1, l2, l3⟩ := hL j hlt
    rw [mi_X10_findParts_125.eq_2, h1, if_neg (Int32.not_le.mpr (nI_lt hlt (by omega))), show nI j + 1 = nI (j + 1) from nI_add j 1]
    simp only [nI_clamp (show j < 2 ^ 31 by omega), vin (show j < 12 by omega), ab_chk_true]
    rw [hB j (Nat.le_refl _) hlt]
    simp only [nI_clamp (show L j < 2 ^ 31 by omega), vin (show L j < 12 by omega), ab_chk_true]
    have fin : ∀ v : Nat, v = nh σ (L j) → ∀ u, u = nh σ (j + 1) → ∃ M', mi_X10_findParts_125 n (ab_pi M 88 j (nI v)) (nI u) (nI (j + 1)) = some (nI (nh σ (g_nm σ)), nI (g_nm σ), M') ∧ (∀ c i, c ≠ 88 → M'.1 c i = M.1 c i) ∧ M'.2 = M.2 ∧ ∀ m, m < g_nm σ → M'.1 88 m = nI (nh σ (L m)) := by
      rintro v rfl u rfl
      obtain ⟨M', g1, g2, g3, g4⟩ := ih (j + 1) n (ab_pi M 88 j (nI (nh σ (L j)))) (by omega) (by omega) (by rw [pi_ne (by omega)]; exact h1) (fun m hm => by
        by_cases e : m = j
        · rw [e, pi_eq]
        · rw [pi_ne (by omega)]; exact hA m (by omega)) (fun m q1 q2 => by rw [pi_ne (by omega)]; exact hB m (by omega) q2)
      exact ⟨M', g1, fun c i hc => by rw [g2 c i hc, pi_ne (fun q => hc q.1)], g3, g4⟩
    by_cases e : L j = j
    · have hh : hea σ j := by rw [← e]; exact l2
      rw [if_pos (show nI (L j) = nI j by rw [e]), if_pos (show nI (L j) = nI j by rw [e]), Option.bind_some, Option.bind_some, show nI (nh σ j) + 1 = nI (nh σ j + 1) from nI_add _ 1]
      exact fin _ (by rw [e]) _ (by rw [nh_s, h1_y hh])
    · have hh : ¬ hea σ j := fun w => e (lo_un l2 w l3 (con_refl σ j))
      have ne : ¬ nI (L j) = nI j := fun w => e ((nI_eq (by omega) (by omega)).mp w)
      rw [if_neg ne, if_neg ne, Option.bind_some, Option.bind_some, hA (L j) (by omega), Int32.add_zero]
      have q := hL (L j) (by omega)
      exact fin _ (by rw [lo_un q.2.1 l2 q.2.2 (con_refl σ _)]) _ (by rw [nh_s, h1_n hh, Nat.add_zero])
theorem r_findParts {σ : Sg} (hS : Sok σ) {M : ab_M} (hR : RepR σ M) : ∃ (M' : ab_M) (L : Nat → Nat), mi_X10_findParts M = some (nI (nh σ (g_nm σ)), M') ∧ (∀ c i, c ≠ 88 → M'.1 c i = M.1 c i) ∧ M'.2 = M.2 ∧ (∀ m, m < g_nm σ → L m ≤ m ∧ hea σ (L m) ∧ con σ (L m) m) ∧ ∀ m, m < g_nm σ → M'.1 88 m = nI (nh σ (L m)) := by
  have hnm := hS.nm
  obtain ⟨M1, a1, a2, a3, a4⟩ := r_fp2 hS (g_nm σ) 0 ab_F M (by omega) (ab_F_lt (by omega)) hR.1 (fun m hm => absurd hm (by omega))
  have hR1 : RepR σ M1 := hR.same hS (fun c i hc => a2 c i (by unfold fR at hc; omega))
  obtain ⟨M2, L, b1, b2, b3, b4, b5, b6⟩ := r_fp25 hS (g_nm σ) 0 ab_F M1 id (by omega) (ab_F_lt (by omega)) hR1 a4 (fun m _ => ⟨Nat.le_refl _, con_refl σ m⟩) (fun m m0 _ _ h => Nat.le_of_eq h)
  have hL : ∀ m, m < g_nm σ → L m ≤ m ∧ hea σ (L m) ∧ con σ (L m) m := fun m hm => by
    obtain ⟨l, l1, l2, l3⟩ := lo_ex m m (Nat.le_refl _) hm
    obtain ⟨c1, c2⟩ := b5 m hm
    have h1 := b6 m l hm l2.1 (con_nm l2.1 l3)
    have h2 : ¬ L m < l := fun w => l2.2 (L m) w (con_trans l3 (con_comm (by omega) c2))
    have e : L m = l := by omega
    exact ⟨c1, by rw [e]; exact l2, c2⟩
  obtain ⟨M3, d1, d2, d3, d4⟩ := r_fp125 hS hL (g_nm σ) 0 ab_F M2 (by omega) (ab_F_lt (by omega)) (by rw [b2 69 1 (by decide)]; exact hR1.1) (fun m hm => absurd hm (by omega)) (fun m _ hm => b4 m hm)
  have a1' : mi_X10_findParts_2 ab_F M 0 = _ := a1
  have b1' : mi_X10_findParts_25 ab_F M1 0 = _ := b1
  have d1' : mi_X10_findParts_125 ab_F M2 0 0 = _ := d1
  refine ⟨M3, L, ?_, fun c i hc => by rw [d2 c i hc, b2 c i hc, a2 c i hc], d3.trans (b3.trans a3), hL, d4⟩
  unfold mi_X10_findParts
  rw [a1', Option.bind_some, b1', Option.bind_some, d1', Option.bind_some]
theorem fA_88 {c j : Nat} (h : fA c j) : c ≠ 88 := by
  unfold fA fR fC fB fI fS at h
  omega
theorem o_part {σ : Sg} {p : Nat → Nat} {M : ab_M} (hI : InvS σ p M) (x : Int32) : AnsR M (mi_X9_part M x) (mi_X10_part M x) := by
  have hT := hI.thr 0
  have hS := hI.1
  have hnm := hS.nm
  unfold mi_X9_part mi_X10_part
  rw [c_hasMast hI.2.2.1.1, b_if, r_isMast hT.2.2.2.1, b_if]
  by_cases h1 : 0 ≤ x ∧ x < nI (g_nm σ)
  · rw [if_pos h1, if_pos h1]
    obtain ⟨m, hm, rfl⟩ := ix_of (by omega) h1
    obtain ⟨M', L, e1, e2, e3, e4, e5⟩ := r_findParts hS hT.2.2.2.1
    obtain ⟨l1, l2, l3⟩ := e4 m hm
    rw [c_partOf hS hI.2.2.1 hm l2 l3 l1, e1, Option.bind_some, Option.bind_some, ab_chk_pos (vin (hS.m12 hm)), nI_clamp (by omega), e5 m hm]
    exact ⟨_, M', rfl, rfl, σ, p, hT.same (fun c j hc => e2 c j (fA_88 hc)) (fun c j => congrFun (congrFun e3 c) j)⟩
  · rw [if_neg h1, if_neg h1]
    exact AnsR.mk' hI rfl rfl
theorem o_count {σ : Sg} {p : Nat → Nat} {M : ab_M} (hI : InvS σ p M) (x : Int32) : AnsR M (mi_X9_count M x) (mi_X10_count M x) := by
  have hT := hI.thr 0
  have hS := hI.1
  obtain ⟨M', L, e1, e2, e3, e4, e5⟩ := r_findParts hS hT.2.2.2.1
  unfold mi_X9_count mi_X10_count
  rw [hI.2.2.1.1.1, hI.2.2.1.1.2.1, hI.2.2.1.1.2.2.2.2.1, hT.2.2.2.1.1, hT.2.2.2.1.2.1, hT.2.2.2.1.2.2.1, c_barredTwos hS hI.2.2.1, c_threesIn hS hI.2.2.1, c_parts hS hI.2.2.1, c_served hS hI.2.2.1.1 hI.2.1 hI.2.2.2.2.1, r_bars hS hT.2.2.2.1, r_threes hS hT.2.2.2.1, e1, r_withChannel hS hT.2.2.2.1 hI.2.1 hT.2.2.2.2.2.1]
  by_cases k0 : x = 0
  · rw [if_pos k0, if_pos k0]; exact AnsR.mk' hI rfl rfl
  · rw [if_neg k0, if_neg k0]
    by_cases k1 : x = 1
    · rw [if_pos k1, if_pos k1]; exact AnsR.mk' hI rfl rfl
    · rw [if_neg k1, if_neg k1]
      by_cases k2 : x = 2
      · rw [if_pos k2, if_pos k2]; exact AnsR.mk' hI rfl rfl
      · rw [if_neg k2, if_neg k2]
        by_cases k3 : x = 3
        · rw [if_pos k3, if_pos k3]; exact AnsR.mk' hI rfl rfl
        · rw [if_neg k3, if_neg k3]
          by_cases k4 : x = 4
          · rw [if_pos k4, if_pos k4]; exact AnsR.mk' hI rfl rfl
          · rw [if_neg k4, if_neg k4]
            by_cases k5 : x = 5
            · rw [if_pos k5, if_pos k5]
              exact ⟨_, M', rfl, rfl, σ, p, hT.same (fun c j hc => e2 c j (fA_88 hc)) (fun c j => congrFun (congrFun e3 c) j)⟩
            · rw [if_neg k5, if_neg k5]
              by_cases k6 : x = 6
              · rw [if_pos k6, if_pos k6]; exact AnsR.mk' hI rfl rfl
              · rw [if_neg k6, if_neg k6]; exact AnsR.mk' hI rfl rfl
