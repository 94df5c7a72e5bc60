/-! PURE: the class's parts -/
theorem c_around20 {σ : Sg} {M : ab_M} (hS : Sok σ) (hC : RepC σ M) {a d : Nat} (ha : a < g_nm σ) {X : Int32} (hX : ∀ i, i < 32 → (bt X i = true ↔ Dk σ a d i)) (y : Int32) : ∀ (k j n : Nat) (Y : Int32), j + k = g_nm σ → k < n → (∀ i, i < 32 → (bt Y i = true ↔ Dk σ a d i ∨ (i < g_nm σ ∧ ∃ z, z < j ∧ Dk σ a d z ∧ adj σ z i))) → ∃ Y', mi_X3_partAround_20 n M X y Y (nI j) = some (Y', nI (g_nm σ)) ∧ ∀ i, i < 32 → (bt Y' i = true ↔ Dk σ a (d + 1) i) := by
  have hnm := hS.nm
  intro k
  induction k with
  | zero =>
    intro j n Y hj hn hY
    obtain ⟨n, rfl⟩ : ∃ m, n = m + 1 := ⟨n - 1, by omega⟩
    obtain rfl : j = g_nm σ := by omega
    rw [mi_X3_partAround_20.eq_2, hC.1.1, if_pos (Int32.le_refl _)]
    exact ⟨Y, rfl, hY⟩
  | succ k ih =>
    intro j n Y hj hn hY
    obtain ⟨n, rfl⟩ : ∃ m, n = m + 1 := ⟨n - 1, by omega⟩
    have hlt : j < g_nm σ := by omega
    obtain ⟨J, j1, j2⟩ := c_joinedTo hS hC hlt
    rw [mi_X3_partAround_20.eq_2, hC.1.1, if_neg (Int32.not_le.mpr (nI_lt hlt (by omega))), show nI j + 1 = nI (j + 1) from nI_add j 1, b_tu (by omega), j1, Option.bind_some]
    by_cases h : bt X j = true
    · rw [if_pos h, if_neg (show ¬ (1 : Int32) = 0 by decide), Option.bind_some]
      refine ih (j + 1) n (Y ||| J) (by omega) (by omega) (fun i hi => ?_)
      rw [b_or, Bool.or_eq_true, hY i hi, j2 i hi]
      constructor
      · rintro ((w | ⟨w1, z, w2, w3, w4⟩) | w)
        · exact Or.inl w
        · exact Or.inr ⟨w1, z, by omega, w3, w4⟩
        · exact Or.inr ⟨w.1, j, by omega, (hX j (by omega)).mp h, w.2⟩
      · rintro (w | ⟨w1, z, w2, w3, w4⟩)
        · exact Or.inl (Or.inl w)
        · by_cases e : z = j
          · rw [e] at w4
            exact Or.inr ⟨w1, w4⟩
          · exact Or.inl (Or.inr ⟨w1, z, by omega, w3, w4⟩)
    · rw [if_neg h, if_pos rfl, Option.bind_some]
      refine ih (j + 1) n (Y ||| 0) (by omega) (by omega) (fun i hi => ?_)
      rw [b_or, b_0, Bool.or_false, hY i hi]
      constructor
      · rintro (w | ⟨w1, z, w2, w3, w4⟩)
        · exact Or.inl w
        · exact Or.inr ⟨w1, z, by omega, w3, w4⟩
      · rintro (w | ⟨w1, z, w2, w3, w4⟩)
        · exact Or.inl w
        · by_cases e : z = j
          · rw [e] at w3
            exact absurd ((hX j (by omega)).mpr w3) h
          · exact Or.inr ⟨w1, z, by omega, w3, w4⟩
theorem c_around6 {σ : Sg} {M : ab_M} (hS : Sok σ) (hC : RepC σ M) {a : Nat} (ha : a < g_nm σ) : ∀ (k j n : Nat) (X : Int32), j + k = g_nm σ → k < n → (∀ i, i < 32 → (bt X i = true ↔ Dk σ a j i)) → ∃ P, (∀ i, i < 32 → (bt P i = true ↔ con σ a i)) ∧ (mi_X3_partAround_6 n M X (nI j) = some (.inl (P, nI (g_nm σ))) ∨ mi_X3_partAround_6 n M X (nI j) = some (.inr P)) := by
  have hnm := hS.nm
  intro k
  induction k with
  | zero =>
    intro j n X hj hn hX
    obtain ⟨n, rfl⟩ : ∃ m, n = m + 1 := ⟨n - 1, by omega⟩
    obtain rfl : j = g_nm σ := by omega
    rw [mi_X3_partAround_6.eq_2, hC.1.1, if_pos (Int32.le_refl _)]
    exact ⟨X, fun i hi => (hX i hi).trans ⟨fun q => ⟨_, q⟩, fun q => con_nm ha q⟩, Or.inl rfl⟩
  | succ k ih =>
    intro j n X hj hn hX
    obtain ⟨n, rfl⟩ : ∃ m, n = m + 1 := ⟨n - 1, by omega⟩
    have hlt : j < g_nm σ := by omega
    obtain ⟨Y, y1, y2⟩ := c_around20 hS hC ha hX (nI j) (g_nm σ) 0 ab_F X (by omega) (ab_F_lt (by omega)) (fun i hi => (hX i hi).trans ⟨Or.inl, fun q => q.elim id (fun ⟨_, z, w, _⟩ => absurd w (by omega))⟩)
    have y1' : mi_X3_partAround_20 ab_F M X (nI j) X 0 = _ := y1
    rw [mi_X3_partAround_6.eq_2, hC.1.1, if_neg (Int32.not_le.mpr (nI_lt hlt (by omega))), y1', Option.bind_some, show nI j + 1 = nI (j + 1) from nI_add j 1]
    by_cases h : Y = X
    · rw [if_pos h]
      refine ⟨X, fun i hi => (hX i hi).trans ⟨fun q => ⟨_, q⟩, fun ⟨K, q⟩ => ?_⟩, Or.inr rfl⟩
      have st : ∀ x, Dk σ a (j + 1) x → Dk σ a j x := fun x w => by
        have hx : x < 32 := by have := Dk_lt ha _ _ w; omega
        have := (y2 x hx).mpr w
        rw [h] at this
        exact (hX x hx).mp this
      by_cases e : K ≤ j
      · have := Dk_mono K (j - K) i q
        rw [show K + (j - K) = j by omega] at this
        exact this
      · exact Dk_stay st (K - j) i (by rw [show j + (K - j) = K by omega]; exact q)
    · rw [if_neg h]
      exact ih (j + 1) n Y (by omega) (by omega) y2
theorem c_partAround {σ : Sg} {M : ab_M} (hS : Sok σ) (hC : RepC σ M) {a : Nat} (ha : a < g_nm σ) : ∃ P, mi_X3_partAround M (nI a) = some P ∧ ∀ i, i < 32 → (bt P i = true ↔ con σ a i) := by
  have hnm := hS.nm
  obtain ⟨P, h1, h2⟩ := c_around6 hS hC ha (g_nm σ) 0 ab_F ((1 : Int32) <<< (nI a &&& 31)) (by omega) (ab_F_lt (by omega)) (fun i hi => by rw [b_one (by omega) hi, decide_eq_true_iff]; exact Iff.rfl)
  refine ⟨P, ?_, h1⟩
  unfold mi_X3_partAround
  rcases h2 with h2 | h2
  · have h2' : mi_X3_partAround_6 ab_F M ((1 : Int32) <<< (nI a &&& 31)) 0 = _ := h2
    rw [h2', Option.bind_some]; rfl
  · have h2' : mi_X3_partAround_6 ab_F M ((1 : Int32) <<< (nI a &&& 31)) 0 = _ := h2
    rw [h2', Option.bind_some]; rfl
