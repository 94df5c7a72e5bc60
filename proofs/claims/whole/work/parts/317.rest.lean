/-! PURE: restore, pair -/
theorem c_rest15 {K : Nat} (hK : K ≤ 16) : ∀ (k j n a : Nat) (M : ab_M), j + k = K → k < n → M.1 0 8 = nI K → ∃ M', mi_X9_restore_15 n M (nI a) (nI j) = some (nI (a + su (fun w => if M.1 67 w = M.1 68 w then 0 else 1) k j), nI K, M') ∧ (∀ c i, c ≠ 67 → M'.1 c i = M.1 c i) ∧ M'.2 = M.2 ∧ (∀ i, i < j ∨ K ≤ i → M'.1 67 i = M.1 67 i) ∧ ∀ i, j ≤ i → i < K → M'.1 67 i = M.1 68 i := by
  intro k
  induction k with
  | zero =>
    intro j n a M hj hn hM
    obtain ⟨n, rfl⟩ : ∃ m, n = m + 1 := ⟨n - 1, by omega⟩
    obtain rfl : j = K := by omega
    rw [mi_X9_restore_15.eq_2, hM, if_pos (Int32.le_refl _)]
    exact ⟨M, rfl, fun _ _ _ => rfl, rfl, fun _ _ => rfl, fun i a b => absurd b (by omega)⟩
  | succ k ih =>
    intro j n a M hj hn hM
    obtain ⟨n, rfl⟩ : ∃ m, n = m + 1 := ⟨n - 1, by omega⟩
    have st : (if M.1 67 j = M.1 68 j then some (0 : Int32) else some 1) = some (nI (if M.1 67 j = M.1 68 j then 0 else 1)) := by split <;> rfl
    rw [mi_X9_restore_15.eq_2, hM, if_neg (Int32.not_le.mpr (nI_lt (show j < K by omega) (by omega))), if_neg (show ¬ (16 : Int32) ≤ nI j from Int32.not_le.mpr (nI_lt (show j < 16 by omega) (by decide)))]
    simp only [nI_clamp (show j < 2 ^ 31 by omega), vin (show j < 16 by omega), ab_chk_true]
    rw [st, Option.bind_some, nI_add, show nI j + 1 = nI (j + 1) from nI_add j 1]
    obtain ⟨M', g1, g2, g3, g4, g5⟩ := ih (j + 1) n (a + if M.1 67 j = M.1 68 j then 0 else 1) (ab_pi M 67 j (M.1 68 j)) (by omega) (by omega) (by rw [pi_ne (by omega)]; exact hM)
    have hsu : su (fun w => if (ab_pi M 67 j (M.1 68 j)).1 67 w = (ab_pi M 67 j (M.1 68 j)).1 68 w then 0 else 1) k (j + 1) = su (fun w => if M.1 67 w = M.1 68 w then 0 else 1) k (j + 1) := su_congr _ _ (fun i h1 h2 => by
      show (if (ab_pi M 67 j (M.1 68 j)).1 67 i = (ab_pi M 67 j (M.1 68 j)).1 68 i then 0 else 1) = _
      rw [pi_ne (by omega), pi_ne (by omega)])
    rw [hsu, Nat.add_assoc] at g1
    refine ⟨M', g1, fun c i hc => by rw [g2 c i hc, pi_ne (by omega)], g3, fun i hi => by rw [g4 i (by omega), pi_ne (by omega)], fun i a b => ?_⟩
    by_cases e : i = j
    · rw [e, g4 j (by omega), pi_eq]
    · rw [g5 i (by omega) b, pi_ne (by omega)]
theorem r_rest19 {K : Nat} (hK : K ≤ 16) : ∀ (k j n a : Nat) (M : ab_M), j + k = K → k < n → M.1 69 31 = nI K → ∃ M', mi_X10_restore_19 n M (nI a) (nI j) = some (nI (a + su (fun w => if M.1 80 w = M.1 89 w then 0 else 1) k j), nI K, M') ∧ (∀ c i, c ≠ 80 → M'.1 c i = M.1 c i) ∧ M'.2 = M.2 ∧ (∀ i, i < j ∨ K ≤ i → M'.1 80 i = M.1 80 i) ∧ ∀ i, j ≤ i → i < K → M'.1 80 i = M.1 89 i := by
  intro k
  induction k with
  | zero =>
    intro j n a M hj hn hM
    obtain ⟨n, rfl⟩ : ∃ m, n = m + 1 := ⟨n - 1, by omega⟩
    obtain rfl : j = K := by omega
    rw [mi_X10_restore_19.eq_2, hM, if_pos (Int32.le_refl _)]
    exact ⟨M, rfl, fun _ _ _ => rfl, rfl, fun _ _ => rfl, fun i a b => absurd b (by omega)⟩
  | succ k ih =>
    intro j n a M hj hn hM
    obtain ⟨n, rfl⟩ : ∃ m, n = m + 1 := ⟨n - 1, by omega⟩
    have st : (if M.1 80 j = M.1 89 j then some (0 : Int32) else some 1) = some (nI (if M.1 80 j = M.1 89 j then 0 else 1)) := by split <;> rfl
    rw [mi_X10_restore_19.eq_2, hM, if_neg (Int32.not_le.mpr (nI_lt (show j < K by omega) (by omega)))]
    simp only [nI_clamp (show j < 2 ^ 31 by omega), vin (show j < 16 by omega), ab_chk_true]
    rw [st, Option.bind_some, nI_add, show nI j + 1 = nI (j + 1) from nI_add j 1]
    obtain ⟨M', g1, g2, g3, g4, g5⟩ := ih (j + 1) n (a + if M.1 80 j = M.1 89 j then 0 else 1) (ab_pi M 80 j (M.1 89 j)) (by omega) (by omega) (by rw [pi_ne (by omega)]; exact hM)
    have hsu : su (fun w => if (ab_pi M 80 j (M.1 89 j)).1 80 w = (ab_pi M 80 j (M.1 89 j)).1 89 w then 0 else 1) k (j + 1) = su (fun w => if M.1 80 w = M.1 89 w then 0 else 1) k (j + 1) := su_congr _ _ (fun i h1 h2 => by
      show (if (ab_pi M 80 j (M.1 89 j)).1 80 i = (ab_pi M 80 j (M.1 89 j)).1 89 i then 0 else 1) = _
      rw [pi_ne (by omega), pi_ne (by omega)])
    rw [hsu, Nat.add_assoc] at g1
    refine ⟨M', g1, fun c i hc => by rw [g2 c i hc, pi_ne (by omega)], g3, fun i hi => by rw [g4 i (by omega), pi_ne (by omega)], fun i a b => ?_⟩
    by_cases e : i = j
    · rw [e, g4 j (by omega), pi_eq]
    · rw [g5 i (by omega) b, pi_ne (by omega)]
theorem o_restore {σ : Sg} {p : Nat → Nat} {M : ab_M} (hI : InvS σ p M) : Ans (mi_X9_restore M) (fun M => mi_X10_restore M) := by
  have hS := hI.1
  have hnw := hS.nw
  obtain ⟨b1, b2⟩ := hI.2.2.2.2.2.2.2.1
  have t31 : ∀ M : ab_M, (ab_pi M 69 0 0).1 69 31 = M.1 69 31 := fun M => pi_ne (by omega)
  rcases b2 with b2 | ⟨k, k1, k2, k3⟩
  · refine Ans.m1 hI (v := -2) ?_ ?_
    · unfold mi_X9_restore
      rw [if_pos b2]
    · show mi_X10_restore M = _
      unfold mi_X10_restore
      rw [t31, ← b1, b2]
      rfl
  · obtain ⟨M1, g1, g2, g3, g4, g5⟩ := c_rest15 (K := k) (by omega) k 0 ab_F 0 M (by omega) (ab_F_lt (by omega)) k2
    have g1' : mi_X9_restore_15 ab_F M 0 0 = _ := g1
    have f1 : mi_X9_restore M = some (nI (0 + su (fun w => if M.1 67 w = M.1 68 w then 0 else 1) k 0), M1) := by
      unfold mi_X9_restore
      rw [k2, if_neg (show ¬ nI k = (-1 : Int32) from fun q => by have := congrArg Int32.toInt q; rw [nI_toInt (by omega)] at this; exact absurd this (by have : (-1 : Int32).toInt = -1 := rfl; omega)), g1', Option.bind_some]
    have s1 : ∀ c j, c ≠ 67 → (c ≠ 69 ∨ j ≠ 0) → (ab_pi M1 69 0 0).1 c j = M.1 c j := fun c j a b => by rw [pi_ne (by omega), g2 c j a]
    have k4 : (ab_pi M1 69 0 0).1 69 31 = nI k := by rw [s1 69 31 (by decide) (by omega), ← b1]; exact k2
    obtain ⟨M2, l1, l2, l3, l4, l5⟩ := r_rest19 (K := k) (by omega) k 0 ab_F 0 (ab_pi M1 69 0 0) (by omega) (ab_F_lt (by omega)) k4
    have l1' : mi_X10_restore_19 ab_F (ab_pi M1 69 0 0) 0 0 = _ := l1
    have hsu : su (fun w => if (ab_pi M1 69 0 0).1 80 w = (ab_pi M1 69 0 0).1 89 w then 0 else 1) k 0 = su (fun w => if M.1 67 w = M.1 68 w then 0 else 1) k 0 := su_congr _ _ (fun i h1 h2 => by
      show (if (ab_pi M1 69 0 0).1 80 i = (ab_pi M1 69 0 0).1 89 i then 0 else 1) = if M.1 67 i = M.1 68 i then 0 else 1
      rw [s1 80 i (by decide) (by omega), s1 89 i (by decide) (by omega), hI.2.2.2.2.1 i (by omega), hI.2.2.2.2.2.1 i (by omega), (k3 i (by omega)).1])
    have f2 : mi_X10_restore M1 = some (nI (0 + su (fun w => if M.1 67 w = M.1 68 w then 0 else 1) k 0), M2) := by
      unfold mi_X10_restore
      rw [k4, if_pos (nI_pos' (by omega)), l1', Option.bind_some, hsu]
    have s2 : ∀ c j, c ≠ 67 → c ≠ 80 → (c ≠ 69 ∨ j ≠ 0) → M2.1 c j = M.1 c j := fun c j a q b => by rw [l2 c j q, s1 c j a b]
    refine ⟨_, _, _, f1, f2, σ, (fun w => if h : w < k then Classical.choose (k3 w h).2 else p w), hI.plan (fun w hw => ?_) (fun c j hc n67 n80 => s2 c j n67 n80 (by have := fA_thrown hc; omega)) (fun c j => ?_) (fun w hw => ?_) (fun w hw => ?_) (fun w q1 q2 => ?_)⟩
    · show (if h : w < k then Classical.choose (k3 w h).2 else p w) ≤ 30
      by_cases h : w < k
      · rw [dif_pos h]; exact (Classical.choose_spec (k3 w h).2).1
      · rw [dif_neg h]; exact hI.2.1 w hw
    · exact (congrFun (congrFun l3 c) j).trans (congrFun (congrFun g3 c) j)
    · show _ = pv (if h : w < k then Classical.choose (k3 w h).2 else p w)
      rw [l2 67 w (by decide), pi_ne (by omega)]
      by_cases h : w < k
      · rw [dif_pos h, g5 w (by omega) h]; exact (k3 w h).1.trans (Classical.choose_spec (k3 w h).2).2
      · rw [dif_neg h, g4 w (by omega)]; exact hI.2.2.2.2.1 w hw
    · show _ = pv (if h : w < k then Classical.choose (k3 w h).2 else p w)
      by_cases h : w < k
      · rw [dif_pos h, l5 w (by omega) h, s1 89 w (by decide) (by omega)]; exact (Classical.choose_spec (k3 w h).2).2
      · rw [dif_neg h, l4 w (by omega), s1 80 w (by decide) (by omega)]; exact hI.2.2.2.2.2.1 w hw
    · rw [l2 67 w (by decide), pi_ne (by omega), g4 w (by omega)]; exact (hI.2.2.2.2.2.2.1 w q1 q2).1
/-! pair -/
def prel (x : Int32) (M : ab_M) (A : Option (Sum (Int32 × Int32) Int32)) (B : Option (Sum (Int32 × Int32) (Int32 × ab_M))) : Prop := (∃ c e, A = some (.inl (x - c, e)) ∧ B = some (.inl (c, e))) ∨ ∃ v, A = some (.inr v) ∧ B = some (.inr (v, M))
theorem sub_z (x c : Int32) : x - c = 0 ↔ c = x := by
  constructor
  · intro h
    have : x - c + c = x := Int32.sub_add_cancel x c
    rw [h, Int32.zero_add] at this
    exact this
  · rintro rfl; exact Int32.sub_self _
theorem sub_s (x c d : Int32) : x - c - d = x - (c + d) := by
  rw [Int32.sub_eq_add_neg, Int32.sub_eq_add_neg, Int32.sub_eq_add_neg, Int32.neg_add, Int32.add_assoc, Int32.sub_eq_add_neg]
theorem p_in {σ : Sg} {p : Nat → Nat} {M N : ab_M} (hS : Sok σ) (hp : Pok σ p) (hC : RepC σ M) (hP : PlC σ p 67 M) (hR : RepR σ N) (hQ : PlR σ p N) (x y : Int32) {u : Nat} (hu : u < g_nw σ) : ∀ (k j n : Nat) (c : Int32), j + k = g_nw σ → k < n → prel x N (mi_X9_pair_38 n M y (x - c) (nI u) (nI j)) (mi_X10_pair_43 n N x y c (nI u) (nI j)) := by
  have hnw := hS.nw
  intro k
  induction k with
  | zero =>
    intro j n c hj hn
    obtain ⟨n, rfl⟩ : ∃ m, n = m + 1 := ⟨n - 1, by omega⟩
    obtain rfl : j = g_nw σ := by omega
    rw [mi_X9_pair_38.eq_2, mi_X10_pair_43.eq_2, hC.1.2.1, hR.2.1, if_pos (Int32.le_refl _), if_pos (Int32.le_refl _)]
    exact Or.inl ⟨c, _, rfl, rfl⟩
  | succ k ih =>
    intro j n c hj hn
    obtain ⟨n, rfl⟩ : ∃ m, n = m + 1 := ⟨n - 1, by omega⟩
    have hlt : j < g_nw σ := by omega
    rw [mi_X9_pair_38.eq_2, mi_X10_pair_43.eq_2, hC.1.2.1, hR.2.1, if_neg (Int32.not_le.mpr (nI_lt hlt (by omega))), if_neg (Int32.not_le.mpr (nI_lt hlt (by omega))), c_lackOf hS hC hp hP hu hlt, r_lack hS hR hp hQ hu hlt, Option.bind_some, Option.bind_some, show nI j + 1 = nI (j + 1) from nI_add j 1]
    by_cases h1 : nI (lackP σ p u j) ≤ 0
    · rw [if_pos h1, if_pos h1, if_pos h1, Option.bind_some, Option.bind_some, sub_s]
      exact ih (j + 1) n (c + 0) (by omega) (by omega)
    · rw [if_neg h1, if_neg h1, if_neg h1, Option.bind_some, Option.bind_some, sub_s]
      by_cases h2 : c = x
      · rw [if_pos ((sub_z x c).mpr h2), if_pos h2]
        by_cases h3 : y = 0
        · rw [if_pos h3, if_pos h3]; exact Or.inr ⟨_, rfl, rfl⟩
        · rw [if_neg h3, if_neg h3]
          by_cases h4 : y = 1
          · rw [if_pos h4, if_pos h4]; exact Or.inr ⟨_, rfl, rfl⟩
          · rw [if_neg h4, if_neg h4]; exact Or.inr ⟨_, rfl, rfl⟩
      · rw [if_neg (fun q => h2 ((sub_z x c).mp q)), if_neg h2]
        exact ih (j + 1) n (c + 1) (by omega) (by omega)
theorem p_out {σ : Sg} {p : Nat → Nat} {M N : ab_M} (hS : Sok σ) (hp : Pok σ p) (hC : RepC σ M) (hP : PlC σ p 67 M) (hR : RepR σ N) (hQ : PlR σ p N) (x y : Int32) : ∀ (k j n : Nat) (c : Int32), j + k = g_nw σ → k < n → prel x N (mi_X9_pair_20 n M y (x - c) (nI j)) (mi_X10_pair_28 n N x y c (nI j)) := by
  have hnw := hS.nw
  intro k
  induction k with
  | zero =>
    intro j n c hj hn
    obtain ⟨n, rfl⟩ : ∃ m, n = m + 1 := ⟨n - 1, by omega⟩
    obtain rfl : j = g_nw σ := by omega
    rw [mi_X9_pair_20.eq_2, mi_X10_pair_28.eq_2, hC.1.2.1, hR.2.1, if_pos (Int32.le_refl _), if_pos (Int32.le_refl _)]
    exact Or.inl ⟨c, _, rfl, rfl⟩
  | succ k ih =>
    intro j n c hj hn
    obtain ⟨n, rfl⟩ : ∃ m, n = m + 1 := ⟨n - 1, by omega⟩
    have hlt : j < g_nw σ := by omega
    rw [mi_X9_pair_20.eq_2, mi_X10_pair_28.eq_2, hC.1.2.1, hR.2.1, if_neg (Int32.not_le.mpr (nI_lt hlt (by omega))), if_neg (Int32.not_le.mpr (nI_lt hlt (by omega))), show nI j + 1 = nI (j + 1) from nI_add j 1]
    rcases p_in hS hp hC hP hR hQ x y hlt (g_nw σ - (j + 1)) (j + 1) ab_F c (by omega) (ab_F_lt (by omega)) with ⟨c', e, a1, a2⟩ | ⟨v, a1, a2⟩
    · rw [a1, a2, Option.bind_some, Option.bind_some]
      exact ih (j + 1) n c' (by omega) (by omega)
    · rw [a1, a2, Option.bind_some, Option.bind_some]
      exact Or.inr ⟨v, rfl, rfl⟩
theorem o_pair {σ : Sg} {p : Nat → Nat} {M : ab_M} (hI : InvS σ p M) (x y : Int32) : AnsR M (mi_X9_pair M x y) (mi_X10_pair M x y) := by
  have hT := hI.thr 0
  have hS := hI.1
  have hnw := hS.nw
  have i1 : mi_X10_isIn (ab_pi M 69 0 0) y.toInt64 0 2 = some (if 0 ≤ y ∧ y ≤ 2 then 1 else 0) := r_isIn _ y 0 2
  unfold mi_X9_pair mi_X10_pair
  rw [i1, b_if, w_eq, b_if]
  by_cases h1 : x < 0
  · rw [if_pos h1, if_pos h1]
    exact AnsR.mk' hI rfl rfl
  · rw [if_neg h1, if_neg h1]
    by_cases h2 : 0 ≤ y ∧ y ≤ 2
    · rw [if_pos h2, if_pos h2]
      have h := p_out hS hI.2.1 hI.2.2.1 hI.2.2.2.2.1 hT.2.2.2.1 hT.2.2.2.2.2.1 x y (g_nw σ) 0 ab_F 0 (by omega) (ab_F_lt (by omega))
      rw [Int32.sub_zero] at h
      rcases h with ⟨c', e, a1, a2⟩ | ⟨v, a1, a2⟩
      · have a1' : mi_X9_pair_20 ab_F M y x 0 = _ := a1
        have a2' : mi_X10_pair_28 ab_F (ab_pi M 69 0 0) x y 0 0 = _ := a2
        rw [a1', a2', Option.bind_some, Option.bind_some]
        exact AnsR.mk' hI rfl rfl
      · have a1' : mi_X9_pair_20 ab_F M y x 0 = _ := a1
        have a2' : mi_X10_pair_28 ab_F (ab_pi M 69 0 0) x y 0 0 = _ := a2
        rw [a1', a2', Option.bind_some, Option.bind_some]
        exact AnsR.mk' hI rfl rfl
    · rw [if_neg h2, if_neg h2]
      exact AnsR.mk' hI rfl rfl
