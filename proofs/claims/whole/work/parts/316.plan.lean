/-! PURE: set, image, restore -/
theorem InvS.plan {σ : Sg} {p p' : Nat → Nat} {M M' : ab_M} (hI : InvS σ p M) (hp : Pok σ p') (h : ∀ c j, fA c j → c ≠ 67 → c ≠ 80 → M'.1 c j = M.1 c j) (h2 : ∀ c j, M'.2 c j = M.2 c j) (hC : PlC σ p' 67 M') (hR : PlR σ p' M') (h67 : ∀ w, g_nw σ ≤ w → w < 16 → M'.1 67 w = -2) : InvS σ p' M' := by
  obtain ⟨a1, a2, a3, a4, a5, a6, a7, a8, a9, a10⟩ := hI
  refine ⟨a1, hp, a3.same a1 (fun c j hc => h c j (Or.inr (Or.inl hc)) (by unfold fC fB at hc; omega) (by unfold fC fB at hc; omega)), a4.same a1 (fun c j hc => h c j (Or.inl hc) (by unfold fR at hc; omega) (by unfold fR at hc; omega)), hC, hR, fun w q1 q2 => ⟨h67 w q1 q2, ?_⟩, a8.same (fun c j hc => h c j ?_ (by unfold fI at hc; omega) (by unfold fI at hc; omega)), a9.same (h 26 5 (by unfold fA; omega) (by decide) (by decide)) (h 69 25 (by unfold fA; omega) (by decide) (by decide)), a10.same (fun c j hc => h c j ?_ (by unfold fS at hc; omega) (by unfold fS at hc; omega)) (fun c j _ => h2 c j)⟩
  · rw [h 4 w (Or.inr (Or.inl (Or.inl (by unfold fB; omega)))) (by decide) (by decide)]
    exact (a7 w q1 q2).2
  · exact Or.inr (Or.inr (Or.inr (Or.inr (Or.inl hc))))
  · exact Or.inr (Or.inr (Or.inr (Or.inr (Or.inr (Or.inr (Or.inr hc))))))
theorem o_set {σ : Sg} {p : Nat → Nat} {M : ab_M} (hI : InvS σ p M) (x y : Int32) : Ans (mi_X9_set M x y) (fun M => mi_X10_set M x y) := by
  have hS := hI.1
  have hnw := hS.nw
  have i1 : ∀ M : ab_M, mi_X10_isIn M y.toInt64 (-1) 29 = some (if -1 ≤ y ∧ y ≤ 29 then 1 else 0) := fun M => r_isIn _ y (-1) 29
  by_cases h1 : 0 ≤ x ∧ x < nI (g_nw σ)
  · by_cases h2 : -1 ≤ y ∧ y ≤ 29
    · obtain ⟨w, hw, rfl⟩ := ix_of (by omega) h1
      obtain ⟨n, hn, rfl⟩ := ix_m1 (b := 29) (by decide) h2
      have hw16 := hS.w16 hw
      have f1 : mi_X9_set M (nI w) (nI n - 1) = some (pv (p w), ab_pi M 67 w (pv n)) := by
        unfold mi_X9_set
        rw [c_hasWant hI.2.2.1.1, b_if, if_pos h1, w_eq, b_if, if_pos h2, pv_of hn, Option.bind_some, ab_chk_pos (vin hw16), ab_chk_pos (vin hw16), nI_clamp (by omega), hI.2.2.2.2.1 w hw]
      have sb : ∀ c j, (c ≠ 69 ∨ j ≠ 0) → (c ≠ 67 ∨ j ≠ w) → (ab_pi (ab_pi M 67 w (pv n)) 69 0 0).1 c j = M.1 c j := fun c j a b => by rw [pi_ne (by omega), pi_ne (by omega)]
      have hR1 : RepR σ (ab_pi (ab_pi M 67 w (pv n)) 69 0 0) := hI.2.2.2.1.same hS (fun c j hc => sb c j (by unfold fR at hc; omega) (by unfold fR at hc; omega))
      have f2 : mi_X10_set (ab_pi M 67 w (pv n)) (nI w) (nI n - 1) = some (pv (p w), ab_pi (ab_pi (ab_pi M 67 w (pv n)) 69 0 0) 80 w (pv n)) := by
        unfold mi_X10_set
        rw [r_isWant hR1, b_if, if_pos h1, i1, b_if, if_pos h2, pv_of hn, Option.bind_some, ab_chk_pos (vin hw16), ab_chk_pos (vin hw16), nI_clamp (by omega), sb 80 w (by omega) (by omega), hI.2.2.2.2.2.1 w hw]
      have sc : ∀ c j, (c ≠ 69 ∨ j ≠ 0) → (c ≠ 67 ∨ j ≠ w) → (c ≠ 80 ∨ j ≠ w) → (ab_pi (ab_pi (ab_pi M 67 w (pv n)) 69 0 0) 80 w (pv n)).1 c j = M.1 c j := fun c j a b d => by rw [pi_ne (by omega), pi_ne (by omega), pi_ne (by omega)]
      refine ⟨_, _, _, f1, f2, σ, fup p w n, hI.plan (fun w' hw' => ?_) (fun c j hc n67 n80 => ?_) (fun _ _ => rfl) (fun w' hw' => ?_) (fun w' hw' => ?_) (fun w' q1 q2 => ?_)⟩
      · unfold fup
        split
        · exact hn
        · exact hI.2.1 w' hw'
      · have := fA_thrown hc
        exact sc c j (by omega) (by omega) (by omega)
      · by_cases e : w' = w
        · rw [e, fup_eq, pi_ne (by omega), pi_ne (by omega), pi_eq]
        · rw [fup_ne e, sc _ _ (by omega) (by omega) (by omega)]; exact hI.2.2.2.2.1 w' hw'
      · by_cases e : w' = w
        · rw [e, fup_eq, pi_eq]
        · rw [fup_ne e, sc _ _ (by omega) (by omega) (by omega)]; exact hI.2.2.2.2.2.1 w' hw'
      · rw [sc _ _ (by omega) (by omega) (by omega)]; exact (hI.2.2.2.2.2.2.1 w' q1 q2).1
    · refine Ans.m1 hI (v := -1) ?_ ?_
      · unfold mi_X9_set
        rw [c_hasWant hI.2.2.1.1, b_if, if_pos h1, w_eq, b_if, if_neg h2]
      · show mi_X10_set M x y = _
        unfold mi_X10_set
        rw [r_isWant (hI.thr 0).2.2.2.1, b_if, if_pos h1, i1, b_if, if_neg h2]
  · refine Ans.m1 hI (v := -1) ?_ ?_
    · unfold mi_X9_set
      rw [c_hasWant hI.2.2.1.1, b_if, if_neg h1]
    · show mi_X10_set M x y = _
      unfold mi_X10_set
      rw [r_isWant (hI.thr 0).2.2.2.1, b_if, if_neg h1]
theorem r_image15 {N : Nat} (hN : N ≤ 16) : ∀ (k j n : Nat) (M : ab_M), j + k = N → k < n → M.1 69 10 = nI N → ∃ M', mi_X10_image_15 n M (nI j) = some (nI N, M') ∧ (∀ c i, c ≠ 89 → M'.1 c i = M.1 c i) ∧ M'.2 = M.2 ∧ (∀ i, i < j → M'.1 89 i = M.1 89 i) ∧ ∀ i, j ≤ i → i < N → M'.1 89 i = M.1 80 i := by
  intro k
  induction k with
  | zero =>
    intro j n M hj hn hM
    obtain ⟨n, rfl⟩ : ∃ m, n = m + 1 := ⟨n - 1, by omega⟩
    obtain rfl : j = N := by omega
    rw [mi_X10_image_15.eq_2, hM, if_pos (Int32.le_refl _)]
    exact ⟨M, rfl, fun _ _ _ => rfl, rfl, fun _ _ => rfl, fun i a b => absurd b (by omega)⟩
  | succ k ih =>
    intro j n M hj hn hM
    obtain ⟨n, rfl⟩ : ∃ m, n = m + 1 := ⟨n - 1, by omega⟩
    rw [mi_X10_image_15.eq_2, hM, if_neg (Int32.not_le.mpr (nI_lt (show j < N by omega) (by omega))), ab_chk_pos (vin (show j < 16 by omega)), ab_chk_pos (vin (show j < 16 by omega)), nI_clamp (by omega), show nI j + 1 = nI (j + 1) from nI_add j 1]
    obtain ⟨M', g1, g2, g3, g4, g5⟩ := ih (j + 1) n (ab_pi M 89 j (M.1 80 j)) (by omega) (by omega) (by rw [pi_ne (by omega)]; exact hM)
    refine ⟨M', g1, fun c i hc => by rw [g2 c i hc, pi_ne (by omega)], g3, fun i hi => by rw [g4 i (by omega), pi_ne (by omega)], fun i a b => ?_⟩
    by_cases e : i = j
    · rw [e, g4 j (by omega), pi_eq]
    · rw [g5 i (by omega) b, pi_ne (by omega)]
theorem o_image {σ : Sg} {p : Nat → Nat} {M : ab_M} (hI : InvS σ p M) : Ans (mi_X9_image M) (fun M => mi_X10_image M) := by
  have hS := hI.1
  have hnw := hS.nw
  have cp : ∀ c j, c ≠ 68 → (ab_cpi M 67 68 0 0 16).1 c j = M.1 c j := fun c j hc => if_neg hc
  have cp2 : ∀ j, j < 16 → (ab_cpi M 67 68 0 0 16).1 68 j = M.1 67 j := fun j hj => by
    show va_cpy (M.1 67) (M.1 68) 0 0 16 j = M.1 67 j
    unfold va_cpy
    rw [if_pos (by omega)]
    exact congrArg (M.1 67) (by omega)
  have s1 : ∀ c j, c ≠ 68 → (c ≠ 0 ∨ j ≠ 8) → (ab_pi (ab_cpi M 67 68 0 0 16) 0 8 (nI (g_nw σ))).1 c j = M.1 c j := fun c j a b => by rw [pi_ne (by omega), cp c j a]
  have hB1 : RepB σ (ab_pi (ab_cpi M 67 68 0 0 16) 0 8 (nI (g_nw σ))) := hI.2.2.1.1.same hS (fun c j hc => s1 c j (by unfold fB at hc; omega) (by unfold fB at hc; omega))
  have f1 : mi_X9_image M = some (nI (HN σ p), ab_pi (ab_cpi M 67 68 0 0 16) 0 8 (nI (g_nw σ))) := by
    unfold mi_X9_image
    rw [ab_chk_pos (by decide), cp 1 8 (by decide), hI.2.2.1.1.2.1, c_served hS hB1 hI.2.1 (hI.2.2.2.2.1.same (fun j => s1 67 j (by decide) (by omega)))]
    rfl
  have s2 : ∀ c j, c ≠ 68 → (c ≠ 0 ∨ j ≠ 8) → (c ≠ 69 ∨ (j ≠ 0 ∧ j ≠ 31)) → (ab_pi (ab_pi (ab_pi (ab_cpi M 67 68 0 0 16) 0 8 (nI (g_nw σ))) 69 0 0) 69 31 (nI (g_nw σ))).1 c j = M.1 c j := fun c j a b d => by rw [pi_ne (by omega), pi_ne (by omega), s1 c j a b]
  obtain ⟨M2, g1, g2, g3, g4, g5⟩ := r_image15 hnw (g_nw σ) 0 ab_F (ab_pi (ab_pi (ab_pi (ab_cpi M 67 68 0 0 16) 0 8 (nI (g_nw σ))) 69 0 0) 69 31 (nI (g_nw σ))) (by omega) (ab_F_lt (by omega)) (by rw [s2 69 10 (by decide) (by omega) (by omega)]; exact hI.2.2.2.1.2.1)
  have g1' : mi_X10_image_15 ab_F (ab_pi (ab_pi (ab_pi (ab_cpi M 67 68 0 0 16) 0 8 (nI (g_nw σ))) 69 0 0) 69 31 (nI (g_nw σ))) 0 = some (nI (g_nw σ), M2) := g1
  have s3 : ∀ c j, c ≠ 89 → c ≠ 68 → (c ≠ 0 ∨ j ≠ 8) → (c ≠ 69 ∨ (j ≠ 0 ∧ j ≠ 31)) → M2.1 c j = M.1 c j := fun c j q a b d => by rw [g2 c j q, s2 c j a b d]
  have hR2 : RepR σ M2 := hI.2.2.2.1.same hS (fun c j hc => s3 c j (by unfold fR at hc; omega) (by unfold fR at hc; omega) (by unfold fR at hc; omega) (by unfold fR at hc; omega))
  have f2 : mi_X10_image (ab_pi (ab_cpi M 67 68 0 0 16) 0 8 (nI (g_nw σ))) = some (nI (HN σ p), M2) := by
    unfold mi_X10_image
    have e : (ab_pi (ab_pi (ab_cpi M 67 68 0 0 16) 0 8 (nI (g_nw σ))) 69 0 0).1 69 10 = nI (g_nw σ) := by rw [pi_ne (by omega), s1 69 10 (by decide) (by omega)]; exact hI.2.2.2.1.2.1
    rw [e, g1', Option.bind_some, r_withChannel hS hR2 hI.2.1 (hI.2.2.2.2.2.1.same (fun j => s3 80 j (by decide) (by decide) (by omega) (by omega))), Option.bind_some]
  obtain ⟨a1, a2, a3, a4, a5, a6, a7, a8, a9, a10⟩ := hI
  refine ⟨_, _, _, f1, f2, σ, p, a1, a2, a3.same a1 (fun c j hc => by unfold fC fB at hc; exact s3 c j (by omega) (by omega) (by omega) (by omega)), hR2, a5.same (fun j => s3 67 j (by omega) (by omega) (by omega) (by omega)), a6.same (fun j => s3 80 j (by omega) (by omega) (by omega) (by omega)), fun w h1 h2 => by rw [s3 67 w (by omega) (by omega) (by omega) (by omega), s3 4 w (by omega) (by omega) (by omega) (by omega)]; exact a7 w h1 h2, ?_, a9.same (s3 26 5 (by omega) (by omega) (by omega) (by omega)) (s3 69 25 (by omega) (by omega) (by omega) (by omega)), a10.same (fun c j hc => by unfold fS at hc; exact s3 c j (by omega) (by omega) (by omega) (by omega)) (fun c j _ => congrFun (congrFun (show M2.2 = M.2 from g3) c) j)⟩
  have e1 : M2.1 0 8 = nI (g_nw σ) := by rw [g2 0 8 (by decide), pi_ne (by omega), pi_ne (by omega), pi_eq]
  have e2 : M2.1 69 31 = nI (g_nw σ) := by rw [g2 69 31 (by decide), pi_eq]
  refine ⟨by rw [e1, e2], Or.inr ⟨g_nw σ, Nat.le_refl _, e1, fun w hw => ?_⟩⟩
  have e3 : M2.1 89 w = M.1 80 w := by rw [g5 w (by omega) hw, s2 80 w (by decide) (by omega) (by omega)]
  have e4 : M2.1 68 w = M.1 67 w := by rw [g2 68 w (by decide), pi_ne (by omega), pi_ne (by omega), pi_ne (by omega), cp2 w (by omega)]
  rw [e3, e4, a5 w hw, a6 w hw]
  exact ⟨rfl, p w, a2 w hw, rfl⟩
