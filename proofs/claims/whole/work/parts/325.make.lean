/-! PURE: make -/
theorem pl_ne {M : ab_M} {o k c j : Nat} {v : Int64} (h : ¬ (c = o ∧ j = k)) : (ab_pl M o k v).2 c j = M.2 c j := if_neg h
theorem pl_eq {M : ab_M} {o k : Nat} {v : Int64} : (ab_pl M o k v).2 o k = v := if_pos ⟨rfl, rfl⟩
theorem Shf.at {M M' : ab_M} {d : Nat} (g : ∀ k j, k < 3 → M'.1 (35 + 4 * d + k) j = M.1 (35 + 4 * d + k) j) (g9 : ∀ c, 90 ≤ c → c ≤ 93 → M'.1 c d = M.1 c d) (g3 : ∀ j, M'.2 (35 + 4 * d + 3) j = M.2 (35 + 4 * d + 3) j) (g94 : ∀ i, i < 60 → M'.2 94 (60 * d + i) = M.2 94 (60 * d + i)) (hs : Shf M d) : Shf M' d := by
  have g0 : ∀ j, M'.1 (35 + 4 * d) j = M.1 (35 + 4 * d) j := fun j => g 0 j (by omega)
  obtain ⟨hh, len, a1, a2, a3, a4, a5, a6, a7, a8, a9, a10⟩ := hs
  refine ⟨hh, len, by rw [g0]; exact a1, by rw [g9 90 (by omega) (by omega)]; exact a2, by rw [g0]; exact a3, by rw [g9 91 (by omega) (by omega)]; exact a4, a5, a6, fun e => ?_, fun e i hi => ?_, fun e i hi => ?_, fun i hi => ?_⟩
  · obtain ⟨num, kd, st, wn, di, b1, b2, b3, b4, b5, b6, b7, b8, b9, b10, b11, b12⟩ := a7 e
    exact ⟨num, kd, st, wn, di, b1, b2, b3, b4, b5, by rw [g 1 0 (by omega)]; exact b6, by rw [g 1 1 (by omega)]; exact b7, by rw [g 1 4 (by omega)]; exact b8, by rw [g 1 5 (by omega)]; exact b9, by rw [g 1 8 (by omega)]; exact b10, by rw [g9 92 (by omega) (by omega)]; exact b11, by rw [g9 93 (by omega) (by omega)]; exact b12⟩
  · rw [g94 i (by omega), g 2 i (by omega)]; exact a8 e i hi
  · rw [g94 i (by omega), g3]; exact a9 e i hi
  · rw [g 2 i (by omega)]; exact a10 i hi
/-- one shelf is another -/
theorem InvS.shelf {σ : Sg} {p : Nat → Nat} {M M' : ab_M} (hI : InvS σ p M) {d : Nat} (hd : d < 8) (h : ∀ c j, fA c j → ¬ (35 + 4 * d ≤ c ∧ c < 39 + 4 * d) → ¬ (90 ≤ c ∧ c ≤ 93 ∧ j = d) → M'.1 c j = M.1 c j) (h3 : ∀ e j, e < 8 → e ≠ d → M'.2 (35 + 4 * e + 3) j = M.2 (35 + 4 * e + 3) j) (h94 : ∀ j, (j < 60 * d ∨ 60 * d + 60 ≤ j) → M'.2 94 j = M.2 94 j) (hs : Shf M' d) : InvS σ p M' := by
  obtain ⟨a1, a2, a3, a4, a5, a6, a7, a8, a9, a10⟩ := hI
  refine ⟨a1, a2, a3.same a1 (fun c j hc => h c j (Or.inr (Or.inl hc)) (by unfold fC fB at hc; omega) (by unfold fC fB at hc; omega)), a4.same a1 (fun c j hc => h c j (Or.inl hc) (by unfold fR at hc; omega) (by unfold fR at hc; omega)), a5.same (fun j => h 67 j (by unfold fA; omega) (by omega) (by omega)), a6.same (fun j => h 80 j (by unfold fA; omega) (by omega) (by omega)), fun w q1 q2 => ?_, a8.same (fun c j hc => h c j ?_ (by unfold fI at hc; omega) (by unfold fI at hc; omega)), a9.same (h 26 5 (by unfold fA; omega) (by omega) (by omega)) (h 69 25 (by unfold fA; omega) (by omega) (by omega)), fun e he => ?_⟩
  · rw [h 67 w (by unfold fA; omega) (by omega) (by omega), h 4 w (Or.inr (Or.inl (Or.inl (by unfold fB; omega)))) (by omega) (by omega)]
    exact a7 w q1 q2
  · exact Or.inr (Or.inr (Or.inr (Or.inr (Or.inl hc))))
  · by_cases q : e = d
    · rw [q]; exact hs
    · have hf : ∀ c j, fS c → fA c j := fun c j hc => Or.inr (Or.inr (Or.inr (Or.inr (Or.inr (Or.inr (Or.inr hc))))))
      exact (a10 e he).at (fun k j hk => h _ j (hf _ _ (by unfold fS; omega)) (by omega) (by omega)) (fun c q1 q2 => h c e (hf _ _ (by unfold fS; omega)) (by omega) (by omega)) (fun j => h3 e j he q) (fun i hi => h94 _ (by omega))
theorem j_fill1 (t : Nat) : ∀ (k j n : Nat) (M : ab_M), j + k = 60 → k < n → ∃ M', mi_J7_fill_031fb_5 n M t 0 (nI j) 60 = some (nI 60, M') ∧ (∀ c i, c ≠ t → M'.1 c i = M.1 c i) ∧ M'.2 = M.2 ∧ (∀ i, i < j → M'.1 t i = M.1 t i) ∧ ∀ i, j ≤ i → i < 60 → M'.1 t i = 0 := by
  intro k
  induction k with
  | zero =>
    intro j n M hj hn
    obtain ⟨n, rfl⟩ : ∃ m, n = m + 1 := ⟨n - 1, by omega⟩
    obtain rfl : j = 60 := by omega
    rw [mi_J7_fill_031fb_5.eq_2, if_pos (show (60 : Int32) ≤ nI 60 from Int32.le_refl _)]
    exact ⟨M, rfl, fun _ _ _ => rfl, rfl, fun _ _ => rfl, fun i a b => absurd b (by omega)⟩
  | succ k ih =>
    intro j n M hj hn
    obtain ⟨n, rfl⟩ : ∃ m, n = m + 1 := ⟨n - 1, by omega⟩
    rw [mi_J7_fill_031fb_5.eq_2, if_neg (show ¬ (60 : Int32) ≤ nI j from Int32.not_le.mpr (nI_lt (show j < 60 by omega) (by decide))), ab_chk_pos (vin (show j < 60 by omega)), nI_clamp (by omega), show nI j + 1 = nI (j + 1) from nI_add j 1, show ab_i2b 0 = 0 from rfl]
    obtain ⟨M', g1, g2, g3, g4, g5⟩ := ih (j + 1) n (ab_pi M t j 0) (by omega) (by omega)
    refine ⟨M', g1, fun c i hc => by rw [g2 c i hc, pi_ne (fun q => hc q.1)], g3, fun i hi => by rw [g4 i (by omega), pi_ne (by omega)], fun i a b => ?_⟩
    by_cases e : i = j
    · rw [e, g4 j (by omega), pi_eq]
    · exact g5 i (by omega) b
theorem j_fill2 (t : Nat) : ∀ (k j n : Nat) (M : ab_M), j + k = 60 → k < n → ∃ M', mi_J7_fill_d0a16_6 n M t 0 (nI j) 60 = some (nI 60, M') ∧ (∀ c i, c ≠ t → M'.2 c i = M.2 c i) ∧ M'.1 = M.1 ∧ (∀ i, i < j → M'.2 t i = M.2 t i) ∧ ∀ i, j ≤ i → i < 60 → M'.2 t i = 0 := by
  intro k
  induction k with
  | zero =>
    intro j n M hj hn
    obtain ⟨n, rfl⟩ : ∃ m, n = m + 1 := ⟨n - 1, by omega⟩
    obtain rfl : j = 60 := by omega
    rw [mi_J7_fill_d0a16_6.eq_2, if_pos (show (60 : Int32) ≤ nI 60 from Int32.le_refl _)]
    exact ⟨M, rfl, fun _ _ _ => rfl, rfl, fun _ _ => rfl, fun i a b => absurd b (by omega)⟩
  | succ k ih =>
    intro j n M hj hn
    obtain ⟨n, rfl⟩ : ∃ m, n = m + 1 := ⟨n - 1, by omega⟩
    rw [mi_J7_fill_d0a16_6.eq_2, if_neg (show ¬ (60 : Int32) ≤ nI j from Int32.not_le.mpr (nI_lt (show j < 60 by omega) (by decide))), ab_chk_pos (vin (show j < 60 by omega)), nI_clamp (by omega), show nI j + 1 = nI (j + 1) from nI_add j 1]
    obtain ⟨M', g1, g2, g3, g4, g5⟩ := ih (j + 1) n (ab_pl M t j 0) (by omega) (by omega)
    refine ⟨M', g1, fun c i hc => by rw [g2 c i hc, pl_ne (fun q => hc q.1)], g3, fun i hi => by rw [g4 i (by omega), pl_ne (by omega)], fun i a b => ?_⟩
    by_cases e : i = j
    · rw [e, g4 j (by omega), pl_eq]
    · exact g5 i (by omega) b
theorem c_takeZeros (M : ab_M) {d : Nat} (hd : d < 8) (kd len : Int32) : ∃ M', mi_X6_takeZeros M (35 + 4 * d) kd len = some M' ∧ (∀ c j, ¬ (35 + 4 * d ≤ c ∧ c < 39 + 4 * d) → M'.1 c j = M.1 c j) ∧ (∀ c j, c ≠ 35 + 4 * d + 3 → M'.2 c j = M.2 c j) ∧ M'.1 (35 + 4 * d) 3 = kd ∧ M'.1 (35 + 4 * d) 4 = len ∧ (∀ i, i < 60 → M'.1 (35 + 4 * d + 2) i = 0) ∧ ∀ i, i < 60 → M'.2 (35 + 4 * d + 3) i = 0 := by
  obtain ⟨A, g1, g2, g3, g4, g5⟩ := j_fill1 (35 + 4 * d + 2) 60 0 ab_F (ab_pi (ab_pi M (35 + 4 * d) 3 kd) (35 + 4 * d) 4 len) (by omega) (ab_F_lt (by omega))
  obtain ⟨B, k1, k2, k3, k4, k5⟩ := j_fill2 (35 + 4 * d + 3) 60 0 ab_F A (by omega) (ab_F_lt (by omega))
  have g1' : mi_J7_fill_031fb_5 ab_F (ab_pi (ab_pi M (35 + 4 * d) 3 kd) (35 + 4 * d) 4 len) (35 + 4 * d + 2) 0 0 60 = some (nI 60, A) := g1
  have k1' : mi_J7_fill_d0a16_6 ab_F A (35 + 4 * d + 3) 0 0 60 = some (nI 60, B) := k1
  refine ⟨B, ?_, fun c j hc => ?_, fun c j hc => ?_, ?_, ?_, fun i hi => ?_, fun i hi => k5 i (by omega) hi⟩
  · unfold mi_X6_takeZeros mi_J7_fill_031fb mi_J7_fill_d0a16
    rw [g1', Option.bind_some, Option.bind_some, k1', Option.bind_some, Option.bind_some]
  · rw [k3, g2 c j (by omega), pi_ne (by omega), pi_ne (by omega)]
  · rw [k2 c j hc, g3]; rfl
  · rw [k3, g2 _ _ (by omega), pi_ne (by omega), pi_eq]
  · rw [k3, g2 _ _ (by omega), pi_eq]
  · rw [k3]; exact g5 i (by omega) hi
theorem r_make58 {d len : Nat} (hd : d < 8) (hl : len ≤ 60) : ∀ (k j n : Nat) (M : ab_M), j + k = len → k < n → ∃ M', mi_X10_make_58 n M (nI d) (nI len) (nI j) = some (nI len, M') ∧ M'.1 = M.1 ∧ (∀ c i, c ≠ 94 → M'.2 c i = M.2 c i) ∧ (∀ i, (i < 60 * d + j ∨ 60 * d + 60 ≤ i) → M'.2 94 i = M.2 94 i) ∧ ∀ i, j ≤ i → i < len → M'.2 94 (60 * d + i) = 0 := by
  intro k
  induction k with
  | zero =>
    intro j n M hj hn
    obtain ⟨n, rfl⟩ : ∃ m, n = m + 1 := ⟨n - 1, by omega⟩
    obtain rfl : j = len := by omega
    rw [mi_X10_make_58.eq_2, if_pos (Int32.le_refl _)]
    exact ⟨M, rfl, rfl, fun _ _ _ => rfl, fun _ _ => rfl, fun i a b => absurd b (by omega)⟩
  | succ k ih =>
    intro j n M hj hn
    obtain ⟨n, rfl⟩ : ∃ m, n = m + 1 := ⟨n - 1, by omega⟩
    rw [mi_X10_make_58.eq_2, if_neg (Int32.not_le.mpr (nI_lt (show j < len by omega) (by omega))), show (60 : Int32) * nI d = nI (60 * d) from pk_mul 60 d, nI_add, ab_chk_pos (vin (show 60 * d + j < 480 by omega)), nI_clamp (by omega), show nI j + 1 = nI (j + 1) from nI_add j 1]
    obtain ⟨M', g1, g2, g3, g4, g5⟩ := ih (j + 1) n (ab_pl M 94 (60 * d + j) 0) (by omega) (by omega)
    refine ⟨M', g1, g2, fun c i hc => by rw [g3 c i hc, pl_ne (fun q => hc q.1)], fun i hi => by rw [g4 i (by omega), pl_ne (by omega)], fun i a b => ?_⟩
    by_cases e : i = j
    · rw [e, g4 (60 * d + j) (by omega), pl_eq]
    · exact g5 i (by omega) b
theorem o_make1 {σ : Sg} {p : Nat → Nat} {M : ab_M} (hI : InvS σ p M) {d h len : Nat} (hd : d < 8) (hh : h = 3 ∨ h = 4) (hl : len ≤ 60) : ∃ M1 M2, mi_X6_takeZeros M (35 + 4 * d) (nI h) (nI len) = some M1 ∧ mi_X10_make_58 ab_F (ab_pi (ab_pi (ab_pi M1 69 0 0) 90 d (nI h)) 91 d (nI len)) (nI d) (nI len) 0 = some (nI len, M2) ∧ InvS σ p M2 := by
  obtain ⟨M1, g1, g2, g3, g4, g5, g6, g7⟩ := c_takeZeros M hd (nI h) (nI len)
  obtain ⟨M2, k1, k2, k3, k4, k5⟩ := r_make58 hd hl len 0 ab_F (ab_pi (ab_pi (ab_pi M1 69 0 0) 90 d (nI h)) 91 d (nI len)) (by omega) (ab_F_lt (by omega))
  have s1 : ∀ c j, (c ≠ 69 ∨ j ≠ 0) → ¬ (90 ≤ c ∧ c ≤ 91 ∧ j = d) → M2.1 c j = M1.1 c j := fun c j a b => by rw [k2, pi_ne (by omega), pi_ne (by omega), pi_ne (by omega)]
  refine ⟨M1, M2, g1, k1, hI.shelf hd (fun c j hc a b => ?_) (fun e j he hne => ?_) (fun j hj => ?_) ?_⟩
  · have := fA_thrown hc
    rw [s1 c j (by omega) (by omega), g2 c j a]
  · rw [k3 _ j (by omega)]; exact g3 _ j (by omega)
  · rw [k4 j (by omega)]; exact g3 94 j (by omega)
  · refine ⟨h, len, ?_, ?_, ?_, ?_, hl, by omega, fun e => absurd e (by omega), fun e i hi => ?_, fun e i hi => ?_, fun i hi => ?_⟩
    · rw [s1 _ _ (by omega) (by omega)]; exact g4
    · rw [k2, pi_ne (by omega), pi_eq]
    · rw [s1 _ _ (by omega) (by omega)]; exact g5
    · rw [k2, pi_eq]
    · rw [k5 i (by omega) hi, s1 _ _ (by omega) (by omega), g6 i (by omega)]; rfl
    · rw [k5 i (by omega) hi, k3 _ i (by omega)]; exact (g7 i (by omega)).symm
    · rw [s1 _ _ (by omega) (by omega), g6 i hi]; rfl
theorem o_make {σ : Sg} {p : Nat → Nat} {M : ab_M} (hI : InvS σ p M) (x y z : Int32) : Ans (mi_X9_make M x y z) (fun M => mi_X10_make M x y z) := by
  have i1 : ∀ X : ab_M, mi_X10_isIn X y.toInt64 3 4 = some (if 3 ≤ y ∧ y ≤ 4 then 1 else 0) := fun X => r_isIn X y 3 4
  by_cases h1 : 0 ≤ x ∧ x ≤ 7
  · obtain ⟨d, hd, rfl⟩ := ix_le (n := 7) (by decide) h1
    by_cases h2 : 3 ≤ y ∧ y ≤ 4
    · obtain ⟨h, q1, q2, rfl⟩ := ix_rng (a := 3) (b := 4) (by decide) h2 (by decide)
      have hh : h = 3 ∨ h = 4 := by omega
      by_cases h3 : z ≤ 60
      · by_cases h4 : 0 ≤ z
        · obtain ⟨len, hl, rfl⟩ := ix_le (n := 60) (by decide) ⟨h4, h3⟩
          obtain ⟨M1, M2, e1, e2, e3⟩ := o_make1 hI (d := d) (by omega) hh hl
          refine ⟨0, M1, M2, ?_, ?_, σ, p, e3⟩
          · unfold mi_X9_make
            rw [c_isShelf, b_if, if_pos h1, if_pos h3, if_pos h4, ab_chk_pos (vin (show d < 8 by omega)), nI_clamp (by omega), e1]
            rcases hh with rfl | rfl
            · rfl
            · rfl
          · show mi_X10_make M1 (nI d) (nI h) (nI len) = _
            unfold mi_X10_make
            rw [r_isShelf, b_if, if_pos h1, i1, b_if, if_pos h2, if_pos h3, if_pos h4, ab_chk_pos (vin (show d < 8 by omega)), ab_chk_pos (vin (show d < 8 by omega)), nI_clamp (by omega), e2, Option.bind_some]
        · refine Ans.m1 hI (v := -14) ?_ ?_
          · unfold mi_X9_make
            rw [c_isShelf, b_if, if_pos h1, if_pos h3, if_neg h4]
            rcases hh with rfl | rfl
            · rfl
            · rfl
          · show mi_X10_make M (nI d) (nI h) z = _
            unfold mi_X10_make
            rw [r_isShelf, b_if, if_pos h1, i1, b_if, if_pos h2, if_pos h3, if_neg h4]
      · refine Ans.m1 hI (v := -1) ?_ ?_
        · unfold mi_X9_make
          rw [c_isShelf, b_if, if_pos h1, if_neg h3]
          rcases hh with rfl | rfl
          · rfl
          · rfl
        · show mi_X10_make M (nI d) (nI h) z = _
          unfold mi_X10_make
          rw [r_isShelf, b_if, if_pos h1, i1, b_if, if_pos h2, if_neg h3]
    · refine Ans.m1 hI (v := -1) ?_ ?_
      · unfold mi_X9_make
        rw [c_isShelf, b_if, if_pos h1, if_neg (show ¬ y = 3 from fun q => h2 (by rw [q]; decide)), if_neg (show ¬ y = 4 from fun q => h2 (by rw [q]; decide))]
      · show mi_X10_make M (nI d) y z = _
        unfold mi_X10_make
        rw [r_isShelf, b_if, if_pos h1, i1, b_if, if_neg h2]
  · refine Ans.m1 hI (v := -1) ?_ ?_
    · unfold mi_X9_make
      rw [c_isShelf, b_if, if_neg h1]
    · show mi_X10_make M x y z = _
      unfold mi_X10_make
      rw [r_isShelf, b_if, if_neg h1]
