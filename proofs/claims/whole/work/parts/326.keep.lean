/-! PURE: keep -/
theorem i2b_pv : ∀ x, x < 31 → ab_i2b (pv x) = pv x := by decide
theorem fit_pv : ∀ x, x < 31 → fits .byte (.int (pv x)) = true := by decide
theorem c_takeAll (M : ab_M) {t u : Nat} (h : u ≠ t) : ∃ M', mi_X4_takeAll M t u = some M' ∧ (∀ c j, c ≠ t → M'.1 c j = M.1 c j) ∧ M'.2 = M.2 ∧ ∀ k, k < 9 → M'.1 t k = M.1 u k := by
  have r : ∀ (X : ab_M) (k : Nat) (v : Int32) (j : Nat), (ab_pi X t k v).1 u j = X.1 u j := fun X k v j => pi_ne (fun q => h q.1)
  unfold mi_X4_takeAll
  simp only [r]
  refine ⟨_, rfl, fun c j hc => ?_, rfl, fun k hk => ?_⟩
  · rw [pi_ne (fun q => hc q.1), pi_ne (fun q => hc q.1), pi_ne (fun q => hc q.1), pi_ne (fun q => hc q.1), pi_ne (fun q => hc q.1), pi_ne (fun q => hc q.1), pi_ne (fun q => hc q.1), pi_ne (fun q => hc q.1), pi_ne (fun q => hc q.1)]
  · have h9 : k = 0 ∨ k = 1 ∨ k = 2 ∨ k = 3 ∨ k = 4 ∨ k = 5 ∨ k = 6 ∨ k = 7 ∨ k = 8 := by omega
    rcases h9 with rfl | rfl | rfl | rfl | rfl | rfl | rfl | rfl | rfl
    · rw [pi_ne (by omega), pi_ne (by omega), pi_ne (by omega), pi_ne (by omega), pi_ne (by omega), pi_ne (by omega), pi_ne (by omega), pi_ne (by omega), pi_eq]
    · rw [pi_ne (by omega), pi_ne (by omega), pi_ne (by omega), pi_ne (by omega), pi_ne (by omega), pi_ne (by omega), pi_ne (by omega), pi_eq]
    · rw [pi_ne (by omega), pi_ne (by omega), pi_ne (by omega), pi_ne (by omega), pi_ne (by omega), pi_ne (by omega), pi_eq]
    · rw [pi_ne (by omega), pi_ne (by omega), pi_ne (by omega), pi_ne (by omega), pi_ne (by omega), pi_eq]
    · rw [pi_ne (by omega), pi_ne (by omega), pi_ne (by omega), pi_ne (by omega), pi_eq]
    · rw [pi_ne (by omega), pi_ne (by omega), pi_ne (by omega), pi_eq]
    · rw [pi_ne (by omega), pi_ne (by omega), pi_eq]
    · rw [pi_ne (by omega), pi_eq]
    · rw [pi_eq]
theorem c_tch12 {t N : Nat} (ht : t + 2 ≠ 67) (hN : N ≤ 16) {f : Nat → Nat} (hf : ∀ w, w < N → f w ≤ 30) : ∀ (k j n : Nat) (M : ab_M), j + k = N → k < n → (∀ w, w < N → M.1 67 w = pv (f w)) → ∃ M', mi_X6_takeChannels_12 n M t 67 (nI N) (nI j) = some (nI N, M') ∧ (∀ c i, c ≠ t + 2 → M'.1 c i = M.1 c i) ∧ M'.2 = M.2 ∧ (∀ i, i < j ∨ N ≤ i → M'.1 (t + 2) i = M.1 (t + 2) i) ∧ ∀ i, j ≤ i → i < N → M'.1 (t + 2) i = pv (f i) := by
  intro k
  induction k with
  | zero =>
    intro j n M hj hn hM
    obtain ⟨n, rfl⟩ : ∃ m, n = m + 1 := ⟨n - 1, by omega⟩
    obtain rfl : j = N := by omega
    rw [mi_X6_takeChannels_12.eq_2, if_pos (Int32.le_refl _)]
    exact ⟨M, rfl, fun _ _ _ => rfl, rfl, fun _ _ => rfl, fun i a b => absurd b (by omega)⟩
  | succ k ih =>
    intro j n M hj hn hM
    obtain ⟨n, rfl⟩ : ∃ m, n = m + 1 := ⟨n - 1, by omega⟩
    have hfj := hf j (by omega)
    rw [mi_X6_takeChannels_12.eq_2, if_neg (Int32.not_le.mpr (nI_lt (show j < N by omega) (by omega))), ab_chk_pos (vin (show j < 16 by omega)), ab_chk_pos (vin (show j < 60 by omega)), nI_clamp (by omega), show nI j + 1 = nI (j + 1) from nI_add j 1, hM j (by omega), i2b_pv _ (by omega), i2b_pv _ (by omega)]
    obtain ⟨M', g1, g2, g3, g4, g5⟩ := ih (j + 1) n (ab_pi M (t + 2) j (pv (f j))) (by omega) (by omega) (fun w hw => by rw [pi_ne (by omega)]; exact hM w hw)
    refine ⟨M', g1, fun c i hc => by rw [g2 c i hc, pi_ne (fun q => hc q.1)], g3, fun i hi => by rw [g4 i (by omega), pi_ne (by omega)], fun i a b => ?_⟩
    by_cases e : i = j
    · rw [e, g4 j (by omega), pi_eq]
    · exact g5 i (by omega) b
theorem c_tsq15 {σ : Sg} (hS : Sok σ) {t m : Nat} (hm : m < g_nm σ) : ∀ (k j n : Nat) (M : ab_M), j + k = g_nm σ → k < n → RepB σ M → ∃ M', mi_X6_takeSquares_15 n M t (nI m) (nI j) = some (nI (g_nm σ), M') ∧ M'.1 = M.1 ∧ (∀ c i, c ≠ t + 3 → M'.2 c i = M.2 c i) ∧ (∀ i, i < j → M'.2 (t + 3) i = M.2 (t + 3) i) ∧ ∀ i, j ≤ i → i < g_nm σ → M'.2 (t + 3) i = (nI (sq σ m i)).toInt64 := by
  have hnm := hS.nm
  intro k
  induction k with
  | zero =>
    intro j n M hj hn hM
    obtain ⟨n, rfl⟩ : ∃ m, n = m + 1 := ⟨n - 1, by omega⟩
    obtain rfl : j = g_nm σ := by omega
    rw [mi_X6_takeSquares_15.eq_2, hM.1, if_pos (Int32.le_refl _)]
    exact ⟨M, rfl, rfl, fun _ _ _ => rfl, fun _ _ => rfl, fun i a b => absurd b (by omega)⟩
  | succ k ih =>
    intro j n M hj hn hM
    obtain ⟨n, rfl⟩ : ∃ m, n = m + 1 := ⟨n - 1, by omega⟩
    rw [mi_X6_takeSquares_15.eq_2, hM.1, if_neg (Int32.not_le.mpr (nI_lt (show j < g_nm σ by omega) (by omega))), c_square hS hM hm (by omega), Option.bind_some, ab_chk_pos (vin (show j < 60 by omega)), nI_clamp (by omega), show nI j + 1 = nI (j + 1) from nI_add j 1]
    obtain ⟨M', g1, g2, g3, g4, g5⟩ := ih (j + 1) n (ab_pl M (t + 3) j (nI (sq σ m j)).toInt64) (by omega) (by omega) hM
    refine ⟨M', g1, g2, fun c i hc => by rw [g3 c i hc, pl_ne (fun q => hc q.1)], fun i hi => by rw [g4 i (by omega), pl_ne (by omega)], fun i a b => ?_⟩
    by_cases e : i = j
    · rw [e, g4 j (by omega), pl_eq]
    · exact g5 i (by omega) b
/-- the model's row, whatever is put -/
theorem r_keep131 {d N : Nat} (hd : d < 8) (hN : N ≤ 16) (y z : Int32) (v : Nat → Int64) : ∀ (k j n : Nat) (M : ab_M), j + k = N → k < n → M.1 91 d = nI N → (∀ (X : ab_M) i, X.1 = M.1 → i < N → ((if y = 3 then ab_chk (vp_in (nI i) 16) (some (Int32.toInt64 (X.1 80 (nI i).toNatClampNeg))) else (mi_X10_square X z (nI i)).bind fun q46 => some (Int32.toInt64 q46)) : Option Int64) = some (v i)) → ∃ M', mi_X10_keep_131 n M (nI d) y z (nI j) = some (nI N, M') ∧ M'.1 = M.1 ∧ (∀ c i, c ≠ 94 → M'.2 c i = M.2 c i) ∧ (∀ i, (i < 60 * d + j ∨ 60 * d + 60 ≤ i) → M'.2 94 i = M.2 94 i) ∧ ∀ i, j ≤ i → i < N → M'.2 94 (60 * d + i) = v i := by
  intro k
  induction k with
  | zero =>
    intro j n M hj hn hM hv
    obtain ⟨n, rfl⟩ : ∃ m, n = m + 1 := ⟨n - 1, by omega⟩
    obtain rfl : j = N := by omega
    rw [mi_X10_keep_131.eq_2, ab_chk_pos (vin hd), nI_clamp (by omega), hM, if_pos (Int32.le_refl _)]
    exact ⟨M, rfl, rfl, fun _ _ _ => rfl, fun _ _ => rfl, fun i a b => absurd b (by omega)⟩
  | succ k ih =>
    intro j n M hj hn hM hv
    obtain ⟨n, rfl⟩ : ∃ m, n = m + 1 := ⟨n - 1, by omega⟩
    rw [mi_X10_keep_131.eq_2, ab_chk_pos (vin hd), nI_clamp (show d < 2 ^ 31 by omega), hM, if_neg (Int32.not_le.mpr (nI_lt (show j < N by omega) (by omega))), hv M j rfl (by omega), Option.bind_some, show (60 : Int32) * nI d = nI (60 * d) from pk_mul 60 d, nI_add, ab_chk_pos (vin (show 60 * d + j < 480 by omega)), nI_clamp (by omega), show nI j + 1 = nI (j + 1) from nI_add j 1]
    obtain ⟨M', g1, g2, g3, g4, g5⟩ := ih (j + 1) n (ab_pl M 94 (60 * d + j) (v j)) (by omega) (by omega) hM (fun X i hX hi => hv X i hX hi)
    refine ⟨M', g1, g2, fun c i hc => by rw [g3 c i hc, pl_ne (fun q => hc q.1)], fun i hi => by rw [g4 i (by omega), pl_ne (by omega)], fun i a b => ?_⟩
    by_cases e : i = j
    · rw [e, g4 (60 * d + j) (by omega), pl_eq]
    · exact g5 i (by omega) b
theorem r_weightOf {σ : Sg} {M : ab_M} (hS : Sok σ) (hR : RepR σ M) {m : Nat} (hm : m < g_nm σ) : mi_X10_weightOf M (nI m) = some (nI (wgt m (g_kd σ m) (g_pw σ m) (g_mn σ m) (g_gp σ m))) := by
  have hm12 := hS.m12 hm
  have hk := (hS.mast hm).1
  obtain ⟨r0, r1, r2, r3, r4, r5, r6, r7⟩ := hR.2.2.2.2.2.2.2.2.2.1 m hm
  unfold mi_X10_weightOf wgt
  simp only [nI_clamp (show m < 2 ^ 31 by omega), vin hm12, ab_chk_true]
  rw [r0, r3, r4, r7, show (5 : Int32) * nI (g_mn σ m) = nI (5 * g_mn σ m) from pk_mul 5 _, nI_add, nI_add, Option.bind_some]
  have n0 : ∀ k : Nat, k < 4 → (nI (g_kd σ m) = nI k ↔ g_kd σ m = k) := fun k hk => nI_eq (by omega) (by omega)
  by_cases k0 : g_kd σ m = 0
  · rw [if_pos (show nI (g_kd σ m) = 0 from (n0 0 (by omega)).mpr k0), if_neg (show ¬ g_kd σ m = 1 by omega), if_neg (show ¬ g_kd σ m = 2 by omega), if_neg (show ¬ g_kd σ m = 3 by omega)]
  · rw [if_neg (show ¬ nI (g_kd σ m) = 0 from fun q => k0 ((n0 0 (by omega)).mp q))]
    by_cases k1 : g_kd σ m = 1
    · rw [if_pos (show nI (g_kd σ m) = 1 from (n0 1 (by omega)).mpr k1), if_pos k1, nI_add]
    · rw [if_neg (show ¬ nI (g_kd σ m) = 1 from fun q => k1 ((n0 1 (by omega)).mp q)), if_neg k1]
      by_cases k2 : g_kd σ m = 2
      · rw [if_pos (show nI (g_kd σ m) = 2 from (n0 2 (by omega)).mpr k2), if_pos k2]
        exact congrArg some (nI_add _ 100)
      · rw [if_neg (show ¬ nI (g_kd σ m) = 2 from fun q => k2 ((n0 2 (by omega)).mp q)), if_neg k2, if_pos (show g_kd σ m = 3 by omega)]
        exact congrArg some (pk_mul 2 _)
