/-! PURE: copy -/
theorem rng_eq {M : ab_M} {d len : Nat} (hd : d < 8) (h4 : M.1 (35 + 4 * d) 4 = nI len) (h91 : M.1 91 d = nI len) (hl : len ≤ 60) (a n : Int32) : ∃ v, mi_X6_hasRange M (35 + 4 * d) a n = some v ∧ mi_X10_hasPlaces (ab_pi M 69 0 0) (nI d) a n = some v ∧ (v = 0 ∨ ∃ i k, v = 1 ∧ a = nI i ∧ n = nI k ∧ i + k ≤ len) := by
  have h91' : (ab_pi M 69 0 0).1 91 d = nI len := by rw [pi_ne (by omega)]; exact h91
  unfold mi_X6_hasRange mi_X10_hasPlaces
  simp only [nI_clamp (show d < 2 ^ 31 by omega), vin hd, ab_chk_true]
  rw [h4, h91']
  by_cases q1 : n < 0
  · rw [if_pos q1]; exact ⟨0, rfl, rfl, Or.inl rfl⟩
  · rw [if_neg q1]
    by_cases q2 : a < 0
    · rw [if_pos q2]; exact ⟨0, rfl, rfl, Or.inl rfl⟩
    · rw [if_neg q2]
      by_cases q3 : nI len < a
      · rw [if_pos q3]; exact ⟨0, rfl, rfl, Or.inl rfl⟩
      · rw [if_neg q3]
        by_cases q4 : nI len - a < n
        · rw [if_pos q4]; exact ⟨0, rfl, rfl, Or.inl rfl⟩
        · rw [if_neg q4]
          obtain ⟨i, hi, rfl⟩ := ix_le (n := len) (by omega) ⟨Int32.not_lt.mp q2, Int32.not_lt.mp q3⟩
          have e : nI len - nI i = nI (len - i) := by
            have e0 : nI len = nI (len - i) + nI i := by rw [nI_add]; exact congrArg nI (by omega)
            rw [e0, Int32.add_sub_cancel]
          rw [e] at q4
          obtain ⟨k, hk, rfl⟩ := ix_le (n := len - i) (by omega) ⟨Int32.not_lt.mp q1, Int32.not_lt.mp q4⟩
          exact ⟨1, rfl, rfl, Or.inr ⟨i, k, rfl, rfl, rfl, by omega⟩⟩
theorem r_copy99 {d a N : Nat} (hd : d < 8) (ha : a + N ≤ 60) (y u : Int32) : ∀ (k j n : Nat) (M : ab_M), j + k = N → k < n → ∃ M', mi_X10_copy_99 n M (nI d) (nI a) y u (nI N) (nI j) = some (nI N, M') ∧ M'.1 = M.1 ∧ (∀ c i, c ≠ 95 → M'.2 c i = M.2 c i) ∧ (∀ i, i < j → M'.2 95 i = M.2 95 i) ∧ ∀ i, j ≤ i → i < N → M'.2 95 i = M.2 94 (60 * d + a + i) := by
  intro k
  induction k with
  | zero =>
    intro j n M hj hn
    obtain ⟨n, rfl⟩ : ∃ m, n = m + 1 := ⟨n - 1, by omega⟩
    obtain rfl : j = N := by omega
    rw [mi_X10_copy_99.eq_2, if_pos (Int32.le_refl _)]
    exact ⟨M, rfl, rfl, fun _ _ _ => rfl, fun _ _ => rfl, fun i a b => absurd b (by omega)⟩
  | succ k ih =>
    intro j n M hj hn
    obtain ⟨n, rfl⟩ : ∃ m, n = m + 1 := ⟨n - 1, by omega⟩
    rw [mi_X10_copy_99.eq_2, if_neg (Int32.not_le.mpr (nI_lt (show j < N by omega) (by omega))), show (60 : Int32) * nI d = nI (60 * d) from pk_mul 60 d, nI_add, nI_add, ab_chk_pos (vin (show 60 * d + a + j < 480 by omega)), ab_chk_pos (vin (show j < 60 by omega)), nI_clamp (show j < 2 ^ 31 by omega), nI_clamp (show 60 * d + a + j < 2 ^ 31 by omega), show nI j + 1 = nI (j + 1) from nI_add j 1]
    obtain ⟨M', g1, g2, g3, g4, g5⟩ := ih (j + 1) n (ab_pl M 95 j (M.2 94 (60 * d + a + j))) (by omega) (by omega)
    refine ⟨M', g1, g2, fun c i hc => by rw [g3 c i hc, pl_ne (fun q => hc q.1)], fun i hi => by rw [g4 i (by omega), pl_ne (by omega)], fun i q1 q2 => ?_⟩
    by_cases e : i = j
    · rw [e, g4 j (by omega), pl_eq]
    · rw [g5 i (by omega) q2, pl_ne (by omega)]
theorem r_copy136 {d a N : Nat} (hd : d < 8) (ha : a + N ≤ 60) : ∀ (k j n : Nat) (M : ab_M), j + k = N → k < n → ∃ M', mi_X10_copy_136 n M (nI d) (nI a) (nI N) (nI j) = some (nI N, M') ∧ M'.1 = M.1 ∧ (∀ c i, c ≠ 94 → M'.2 c i = M.2 c i) ∧ (∀ i, (i < 60 * d + a + j ∨ 60 * d + a + N ≤ i) → M'.2 94 i = M.2 94 i) ∧ ∀ i, j ≤ i → i < N → M'.2 94 (60 * d + a + i) = M.2 95 i := by
  intro k
  induction k with
  | zero =>
    intro j n M hj hn
    obtain ⟨n, rfl⟩ : ∃ m, n = m + 1 := ⟨n - 1, by omega⟩
    obtain rfl : j = N := by omega
    rw [mi_X10_copy_136.eq_2, if_pos (Int32.le_refl _)]
    exact ⟨M, rfl, rfl, fun _ _ _ => rfl, fun _ _ => rfl, fun i a b => absurd b (by omega)⟩
  | succ k ih =>
    intro j n M hj hn
    obtain ⟨n, rfl⟩ : ∃ m, n = m + 1 := ⟨n - 1, by omega⟩
    rw [mi_X10_copy_136.eq_2, if_neg (Int32.not_le.mpr (nI_lt (show j < N by omega) (by omega))), show (60 : Int32) * nI d = nI (60 * d) from pk_mul 60 d, nI_add, nI_add, ab_chk_pos (vin (show j < 60 by omega)), ab_chk_pos (vin (show 60 * d + a + j < 480 by omega)), nI_clamp (show j < 2 ^ 31 by omega), nI_clamp (show 60 * d + a + j < 2 ^ 31 by omega), show nI j + 1 = nI (j + 1) from nI_add j 1]
    obtain ⟨M', g1, g2, g3, g4, g5⟩ := ih (j + 1) n (ab_pl M 94 (60 * d + a + j) (M.2 95 j)) (by omega) (by omega)
    refine ⟨M', g1, g2, fun c i hc => by rw [g3 c i hc, pl_ne (fun q => hc q.1)], fun i hi => by rw [g4 i (by omega), pl_ne (by omega)], fun i q1 q2 => ?_⟩
    by_cases e : i = j
    · rw [e, g4 _ (by omega), pl_eq]
    · rw [g5 i (by omega) q2, pl_ne (by omega)]
/-- the copying itself -/
theorem o_copy1 {σ : Sg} {p : Nat → Nat} {M : ab_M} (hI : InvS σ p M) {d e a b n h ld le : Nat} (hd : d < 8) (he : e < 8) (hh : h = 3 ∨ h = 4) (d3 : M.1 (35 + 4 * d) 3 = nI h) (e3 : M.1 (35 + 4 * e) 3 = nI h) (d4 : M.1 (35 + 4 * d) 4 = nI ld) (e4 : M.1 (35 + 4 * e) 4 = nI le) (hld : ld ≤ 60) (hle : le ≤ 60) (ha : a + n ≤ ld) (hb : b + n ≤ le) : ∃ M1 M2 M3, mi_X6_copyTo M (35 + 4 * d) (nI a) (35 + 4 * e) (nI b) (nI n) = some M1 ∧ (∀ c j, c ≠ 35 + 4 * e + 2 → M1.1 c j = M.1 c j) ∧ mi_X10_copy_99 ab_F (ab_pi M1 69 0 0) (nI d) (nI a) (nI e) (nI b) (nI n) 0 = some (nI n, M2) ∧ mi_X10_copy_136 ab_F M2 (nI e) (nI b) (nI n) 0 = some (nI n, M3) ∧ InvS σ p M3 := by
  have hs := hI.2.2.2.2.2.2.2.2.2
  obtain ⟨hd1, l1, a1, a2, a3, a4, a5, a6, -, a8, a9, a10⟩ := hs d hd
  obtain ⟨he1, l2, b1, b2, b3, b4, b5, b6, -, b8, b9, b10⟩ := hs e he
  have r1 : hd1 = h := by
    have := (nI_eq (by omega) (by omega)).mp (a1.symm.trans d3)
    exact this
  have r2 : he1 = h := (nI_eq (by omega) (by omega)).mp (b1.symm.trans e3)
  have r3 : l1 = ld := (nI_eq (by omega) (by omega)).mp (a3.symm.trans d4)
  have r4 : l2 = le := (nI_eq (by omega) (by omega)).mp (b3.symm.trans e4)
  subst r1 r3 r4
  have cla : (nI a).toNatClampNeg = a := nI_clamp (by omega)
  have clb : (nI b).toNatClampNeg = b := nI_clamp (by omega)
  have cln : (nI n).toNatClampNeg = n := nI_clamp (by omega)
  have pn : ∀ x, x < 2 ^ 31 → ¬ nI x < 0 := fun x hx => Int32.not_lt.mpr (nI_pos' hx)
  have core : ∀ M1 : ab_M, (∀ c j, c ≠ 35 + 4 * e + 2 → M1.1 c j = M.1 c j) → (∀ c j, c ≠ 35 + 4 * e + 3 → M1.2 c j = M.2 c j) → (∀ i, i < 60 → fits .byte (.int (M1.1 (35 + 4 * e + 2) i)) = true) → (hd1 = 3 → ∀ i, i < l2 → M1.1 (35 + 4 * e + 2) i = if b ≤ i ∧ i < b + n then M.1 (35 + 4 * d + 2) (a + (i - b)) else M.1 (35 + 4 * e + 2) i) → (hd1 = 4 → ∀ i, i < l2 → M1.2 (35 + 4 * e + 3) i = if b ≤ i ∧ i < b + n then M.2 (35 + 4 * d + 3) (a + (i - b)) else M.2 (35 + 4 * e + 3) i) → ∃ M2 M3, mi_X10_copy_99 ab_F (ab_pi M1 69 0 0) (nI d) (nI a) (nI e) (nI b) (nI n) 0 = some (nI n, M2) ∧ mi_X10_copy_136 ab_F M2 (nI e) (nI b) (nI n) 0 = some (nI n, M3) ∧ InvS σ p M3 := by
    intro M1 s1 s2 sf s3 s4
    obtain ⟨M2, g1, g2, g3, g4, g5⟩ := r_copy99 hd (a := a) (N := n) (by omega) (nI e) (nI b) n 0 ab_F (ab_pi M1 69 0 0) (by omega) (ab_F_lt (by omega))
    obtain ⟨M3, k1, k2, k3, k4, k5⟩ := r_copy136 he (a := b) (N := n) (by omega) n 0 ab_F M2 (by omega) (ab_F_lt (by omega))
    have t1 : ∀ c j, (c ≠ 69 ∨ j ≠ 0) → M3.1 c j = M1.1 c j := fun c j q => by rw [k2, g2, pi_ne (by omega)]
    have t94 : ∀ i, i < 60 → M3.2 94 (60 * e + i) = if b ≤ i ∧ i < b + n then M.2 94 (60 * d + (a + (i - b))) else M.2 94 (60 * e + i) := fun i hi => by
      by_cases q : b ≤ i ∧ i < b + n
      · rw [if_pos q, show 60 * e + i = 60 * e + b + (i - b) by omega, k5 (i - b) (by omega) (by omega), g5 (i - b) (by omega) (by omega), show 60 * d + a + (i - b) = 60 * d + (a + (i - b)) by omega]
        exact s2 94 _ (by omega)
      · rw [if_neg q, k4 _ (by omega), g3 94 _ (by decide)]
        exact s2 94 _ (by omega)
    refine ⟨M2, M3, g1, k1, hI.shelf he (fun c j hc q1 q2 => ?_) (fun f j hf hne => ?_) (fun j hj => ?_) ?_⟩
    · rw [t1 c j (by have := fA_thrown hc; omega), s1 c j (by omega)]
    · rw [k3 _ j (by omega), g3 _ j (by omega)]; exact s2 _ j (by omega)
    · rw [k4 j (by omega), g3 94 j (by decide)]; exact s2 94 j (by omega)
    · refine ⟨he1, l2, ?_, ?_, ?_, ?_, b5, b6, fun q => absurd q (by omega), fun q i hi => ?_, fun q i hi => ?_, fun i hi => ?_⟩
      · rw [t1 _ _ (by omega), s1 _ _ (by omega)]; exact b1
      · rw [t1 _ _ (by omega), s1 _ _ (by omega)]; exact b2
      · rw [t1 _ _ (by omega), s1 _ _ (by omega)]; exact b3
      · rw [t1 _ _ (by omega), s1 _ _ (by omega)]; exact b4
      · rw [t94 i (by omega), t1 _ _ (by omega), s3 (by omega) i hi]
        by_cases w : b ≤ i ∧ i < b + n
        · rw [if_pos w, if_pos w]; exact a8 (by omega) _ (by omega)
        · rw [if_neg w, if_neg w]; exact b8 q i hi
      · rw [t94 i (by omega), k3 _ _ (by omega), g3 _ _ (by omega)]
        show _ = M1.2 (35 + 4 * e + 3) i
        rw [s4 (by omega) i hi]
        by_cases w : b ≤ i ∧ i < b + n
        · rw [if_pos w, if_pos w]; exact a9 (by omega) _ (by omega)
        · rw [if_neg w, if_neg w]; exact b9 q i hi
      · rw [t1 _ _ (by omega)]; exact sf i hi
  have cpy : ∀ {α : Type} (f g : Nat → α) (i : Nat), va_cpy f g a b n i = if b ≤ i ∧ i < b + n then f (a + (i - b)) else g i := fun f g i => by
    by_cases w : b ≤ i ∧ i < b + n
    · rw [if_pos w]; exact pk_cpy_in w.1 w.2
    · rw [if_neg w]; exact pk_cpy_out (by omega)
  rcases hh with h3 | h4
  · have c1 : mi_X6_copyTo M (35 + 4 * d) (nI a) (35 + 4 * e) (nI b) (nI n) = some (ab_cpi M (35 + 4 * d + 2) (35 + 4 * e + 2) (nI a) (nI b) (nI n)) := by
      unfold mi_X6_copyTo
      rw [d3, if_pos (show nI hd1 = 3 by rw [h3]; rfl), cla, clb, cln]
      exact ab_chk_pos ⟨pn a (by omega), pn b (by omega), pn n (by omega), by omega, by omega, fun i hi => a10 _ (by omega)⟩
    have rd : ∀ i, (ab_cpi M (35 + 4 * d + 2) (35 + 4 * e + 2) (nI a) (nI b) (nI n)).1 (35 + 4 * e + 2) i = if b ≤ i ∧ i < b + n then M.1 (35 + 4 * d + 2) (a + (i - b)) else M.1 (35 + 4 * e + 2) i := fun i => by
      show (if 35 + 4 * e + 2 = 35 + 4 * e + 2 then va_cpy (M.1 (35 + 4 * d + 2)) (M.1 (35 + 4 * e + 2)) (nI a).toNatClampNeg (nI b).toNatClampNeg (nI n).toNatClampNeg i else _) = _
      rw [if_pos rfl, cla, clb, cln, cpy]
    obtain ⟨M2, M3, x1, x2, x3⟩ := core (ab_cpi M (35 + 4 * d + 2) (35 + 4 * e + 2) (nI a) (nI b) (nI n)) (fun c j hc => if_neg hc) (fun c j _ => rfl) (fun i hi => by
      rw [rd i]
      by_cases w : b ≤ i ∧ i < b + n
      · rw [if_pos w]; exact a10 _ (by omega)
      · rw [if_neg w]; exact b10 i hi) (fun _ i _ => rd i) (fun q => absurd q (by omega))
    exact ⟨_, M2, M3, c1, fun c j hc => if_neg hc, x1, x2, x3⟩
  · have c1 : mi_X6_copyTo M (35 + 4 * d) (nI a) (35 + 4 * e) (nI b) (nI n) = some (ab_cpl M (35 + 4 * d + 3) (35 + 4 * e + 3) (nI a) (nI b) (nI n)) := by
      unfold mi_X6_copyTo
      rw [d3, if_neg (show ¬ nI hd1 = 3 by rw [h4]; decide), cla, clb, cln]
      exact ab_chk_pos ⟨pn a (by omega), pn b (by omega), pn n (by omega), by omega, by omega⟩
    have rd : ∀ i, (ab_cpl M (35 + 4 * d + 3) (35 + 4 * e + 3) (nI a) (nI b) (nI n)).2 (35 + 4 * e + 3) i = if b ≤ i ∧ i < b + n then M.2 (35 + 4 * d + 3) (a + (i - b)) else M.2 (35 + 4 * e + 3) i := fun i => by
      show (if 35 + 4 * e + 3 = 35 + 4 * e + 3 then va_cpy (M.2 (35 + 4 * d + 3)) (M.2 (35 + 4 * e + 3)) (nI a).toNatClampNeg (nI b).toNatClampNeg (nI n).toNatClampNeg i else _) = _
      rw [if_pos rfl, cla, clb, cln, cpy]
    obtain ⟨M2, M3, x1, x2, x3⟩ := core (ab_cpl M (35 + 4 * d + 3) (35 + 4 * e + 3) (nI a) (nI b) (nI n)) (fun c j _ => rfl) (fun c j hc => if_neg hc) (fun i hi => b10 i hi) (fun q => absurd q (by omega)) (fun _ i _ => rd i)
    exact ⟨_, M2, M3, c1, fun c j _ => rfl, x1, x2, x3⟩
