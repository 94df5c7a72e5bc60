/-! PURE: a new mast: the loops, the state -/
theorem c_add30 {nm nw mn : Nat} (hw : nw + mn ≤ 16) : ∀ (k j n : Nat) (M : ab_M), j + k = mn → k < n → M.1 1 8 = nI nw → ∃ M', mi_X3_addMast_30 n M (nI mn) (nI nm) (nI j) = some (nI mn, M') ∧ (∀ c i, c ≠ 3 → M'.1 c i = M.1 c i) ∧ M'.2 = M.2 ∧ (∀ i, i < nw + j → M'.1 3 i = M.1 3 i) ∧ ∀ i, nw + j ≤ i → i < nw + mn → M'.1 3 i = nI nm := by
  intro k
  induction k with
  | zero =>
    intro j n M hj hn hM
    obtain ⟨n, rfl⟩ : ∃ m, n = m + 1 := ⟨n - 1, by omega⟩
    obtain rfl : j = mn := by omega
    rw [mi_X3_addMast_30.eq_2, if_pos (Int32.le_refl _)]
    exact ⟨M, rfl, fun _ _ _ => rfl, rfl, fun _ _ => rfl, fun i a b => absurd b (by omega)⟩
  | succ k ih =>
    intro j n M hj hn hM
    obtain ⟨n, rfl⟩ : ∃ m, n = m + 1 := ⟨n - 1, by omega⟩
    rw [mi_X3_addMast_30.eq_2, if_neg (Int32.not_le.mpr (nI_lt (show j < mn by omega) (by omega))), hM, nI_add, ab_chk_pos (vin (show nw + j < 16 by omega)), nI_clamp (by omega), show nI j + 1 = nI (j + 1) from nI_add j 1]
    obtain ⟨M', g1, g2, g3, g4, g5⟩ := ih (j + 1) n (ab_pi M 3 (nw + j) (nI nm)) (by omega) (by omega) (by rw [pi_ne (by omega)]; exact hM)
    refine ⟨M', g1, fun c i hc => by rw [g2 c i hc, pi_ne (by omega)], g3, fun i hi => by rw [g4 i (by omega), pi_ne (by omega)], fun i a b => ?_⟩
    by_cases e : i = nw + j
    · rw [e, g4 (nw + j) (by omega), pi_eq]
    · exact g5 i (by omega) b
theorem r_mast169 {nm nw mn : Nat} (hw : nw + mn ≤ 16) : ∀ (k j n : Nat) (M : ab_M), j + k = mn → k < n → M.1 69 1 = nI nm → M.1 69 10 = nI (nw + j) → ∃ M', mi_X10_mast_169 n M (nI mn) (nI j) = some (nI mn, M') ∧ (∀ c i, c ≠ 78 → c ≠ 79 → c ≠ 80 → (c ≠ 69 ∨ i ≠ 10) → M'.1 c i = M.1 c i) ∧ M'.2 = M.2 ∧ M'.1 69 10 = nI (nw + mn) ∧ (∀ i, i < nw + j → M'.1 78 i = M.1 78 i ∧ M'.1 79 i = M.1 79 i ∧ M'.1 80 i = M.1 80 i) ∧ ∀ i, nw + j ≤ i → i < nw + mn → M'.1 78 i = nI nm ∧ M'.1 79 i = -1 ∧ M'.1 80 i = -2 := by
  intro k
  induction k with
  | zero =>
    intro j n M hj hn h1 h10
    obtain ⟨n, rfl⟩ : ∃ m, n = m + 1 := ⟨n - 1, by omega⟩
    obtain rfl : j = mn := by omega
    rw [mi_X10_mast_169.eq_2, if_pos (Int32.le_refl _)]
    exact ⟨M, rfl, fun _ _ _ _ _ _ => rfl, rfl, h10, fun _ _ => ⟨rfl, rfl, rfl⟩, fun i a b => absurd b (by omega)⟩
  | succ k ih =>
    intro j n M hj hn h1 h10
    obtain ⟨n, rfl⟩ : ∃ m, n = m + 1 := ⟨n - 1, by omega⟩
    have r78 : ∀ (X : ab_M) (i : Nat) (v : Int32) (k : Nat), (ab_pi X 78 i v).1 69 k = X.1 69 k := fun X i v k => pi_ne (by omega)
    have r79 : ∀ (X : ab_M) (i : Nat) (v : Int32) (k : Nat), (ab_pi X 79 i v).1 69 k = X.1 69 k := fun X i v k => pi_ne (by omega)
    have r80 : ∀ (X : ab_M) (i : Nat) (v : Int32) (k : Nat), (ab_pi X 80 i v).1 69 k = X.1 69 k := fun X i v k => pi_ne (by omega)
    rw [mi_X10_mast_169.eq_2, if_neg (Int32.not_le.mpr (nI_lt (show j < mn by omega) (by omega)))]
    simp only [r78, r79, r80, h1, h10, nI_clamp (show nw + j < 2 ^ 31 by omega), vin (show nw + j < 16 by omega), ab_chk_true]
    rw [show nI j + 1 = nI (j + 1) from nI_add j 1, show nI (nw + j) + 1 = nI (nw + (j + 1)) from nI_add (nw + j) 1]
    obtain ⟨M', g1, g2, g3, g4, g5, g6⟩ := ih (j + 1) n (ab_pi (ab_pi (ab_pi (ab_pi M 78 (nw + j) (nI nm)) 79 (nw + j) (-1)) 80 (nw + j) (-2)) 69 10 (nI (nw + (j + 1)))) (by omega) (by omega) (by rw [pi_ne (by omega), pi_ne (by omega), pi_ne (by omega), pi_ne (by omega)]; exact h1) (by rw [pi_eq])
    refine ⟨M', g1, fun c i a b d e => by rw [g2 c i a b d e, pi_ne (by omega), pi_ne (by omega), pi_ne (by omega), pi_ne (by omega)], g3, g4, fun i hi => ?_, fun i a b => ?_⟩
    · obtain ⟨q1, q2, q3⟩ := g5 i (by omega)
      refine ⟨?_, ?_, ?_⟩
      · rw [q1, pi_ne (by omega), pi_ne (by omega), pi_ne (by omega), pi_ne (by omega)]
      · rw [q2, pi_ne (by omega), pi_ne (by omega), pi_ne (by omega), pi_ne (by omega)]
      · rw [q3, pi_ne (by omega), pi_ne (by omega), pi_ne (by omega), pi_ne (by omega)]
    · by_cases e : i = nw + j
      · obtain ⟨q1, q2, q3⟩ := g5 i (by omega)
        refine ⟨?_, ?_, ?_⟩
        · rw [q1, e, pi_ne (by omega), pi_ne (by omega), pi_ne (by omega), pi_eq]
        · rw [q2, e, pi_ne (by omega), pi_ne (by omega), pi_eq]
        · rw [q3, e, pi_ne (by omega), pi_eq]
      · exact g6 i (by omega) b
theorem sumN_congr {f g : Nat → Nat} : ∀ n, (∀ i, i < n → f i = g i) → sumN f n = sumN g n
  | 0, _ => rfl
  | n + 1, h => by
    show sumN f n + f n = sumN g n + g n
    rw [sumN_congr n (fun i hi => h i (by omega)), h n (by omega)]
theorem sumN_mono (f : Nat → Nat) (m : Nat) : ∀ k, sumN f m ≤ sumN f (m + k)
  | 0 => Nat.le_refl _
  | k + 1 => Nat.le_trans (sumN_mono f m k) (Nat.le_add_right _ _)
/-- the land with a new mast -/
def sgm (σ : Sg) (kd px py pw mn : Nat) : Sg := fun a =>
  if a = 0 then (fun i => if i = 0 then g_nm σ + 1 else if i = 1 then g_nw σ + mn else σ 0 i)
  else if a = 1 then fup (σ 1) (g_nm σ) kd
  else if a = 2 then fup (σ 2) (g_nm σ) px
  else if a = 3 then fup (σ 3) (g_nm σ) py
  else if a = 4 then fup (σ 4) (g_nm σ) pw
  else if a = 5 then fup (σ 5) (g_nm σ) mn
  else if a = 6 then fup (σ 6) (g_nm σ) (g_nw σ)
  else if a = 7 then fup (σ 7) (g_nm σ) 1073741823
  else if a = 8 then fup (σ 8) (g_nm σ) 5
  else if a = 9 then (fun w => if w < g_nw σ then σ 9 w else g_nm σ)
  else if a = 10 then (fun w => if w < g_nw σ then σ 10 w else 0)
  else σ a
theorem Sok.sgm {σ : Sg} (h : Sok σ) {kd px py pw mn : Nat} (h1 : kd ≤ 3) (h2 : px ≤ 60) (h3 : py ≤ 60) (h4 : pw ≤ 3) (h5 : 1 ≤ mn) (h6 : mn ≤ 3) (hm : g_nm σ < 12) (hw : g_nw σ + mn ≤ 16) : Sok (sgm σ kd px py pw mn) := by
  obtain ⟨k1, k2, k3, k4, k5, k6, k7, k8, k9, km, ks, kmo, kw, kr⟩ := h
  have hmn : ∀ m, m < g_nm σ → fup (σ 5) (g_nm σ) mn m = σ 5 m := fun m hm => fup_ne (by omega)
  have hsum : ∀ m, m ≤ g_nm σ → sumN (fup (σ 5) (g_nm σ) mn) m = sumN (σ 5) m := fun m hm => sumN_congr m (fun i hi => hmn i (by omega))
  have hlt : ∀ m, m < g_nm σ → g_fw σ m + g_mn σ m ≤ g_nw σ := fun m hm => by
    have e1 := (km m hm).2.2.2.2.2.2.1
    have e2 := sumN_mono (g_mn σ) (m + 1) (g_nm σ - (m + 1))
    rw [show m + 1 + (g_nm σ - (m + 1)) = g_nm σ by omega] at e2
    have e3 : sumN (g_mn σ) (m + 1) = sumN (g_mn σ) m + g_mn σ m := rfl
    omega
  refine ⟨show g_nm σ + 1 ≤ 12 by omega, hw, k3, k4, k5, k6, k7, k8, k9, fun m hm' => ?_, ?_, fun m hm' i hi => ?_, fun w hw' => ?_, kr⟩
  · have hm2 : m < g_nm σ + 1 := hm'
    show fup (σ 1) (g_nm σ) kd m ≤ 3 ∧ fup (σ 2) (g_nm σ) px m ≤ 60 ∧ fup (σ 3) (g_nm σ) py m ≤ 60 ∧ fup (σ 4) (g_nm σ) pw m ≤ 3 ∧ 1 ≤ fup (σ 5) (g_nm σ) mn m ∧ fup (σ 5) (g_nm σ) mn m ≤ 3 ∧ fup (σ 6) (g_nm σ) (g_nw σ) m = sumN (fup (σ 5) (g_nm σ) mn) m ∧ fup (σ 7) (g_nm σ) 1073741823 m < 1073741824 ∧ 1 ≤ fup (σ 8) (g_nm σ) 5 m ∧ fup (σ 8) (g_nm σ) 5 m ≤ 10
    by_cases e : m = g_nm σ
    · rw [hsum m (by omega), e]
      simp only [fup_eq]
      exact ⟨h1, h2, h3, h4, h5, h6, ks, by omega, by omega, by omega⟩
    · rw [hsum m (by omega)]
      simp only [fup_ne e]
      exact km m (by omega)
  · show g_nw σ + mn = sumN (fup (σ 5) (g_nm σ) mn) (g_nm σ) + fup (σ 5) (g_nm σ) mn (g_nm σ)
    rw [hsum _ (Nat.le_refl _), fup_eq, ← ks]
  · have hm2 : m < g_nm σ + 1 := hm'
    have hi2 : i < fup (σ 5) (g_nm σ) mn m := hi
    show (if fup (σ 6) (g_nm σ) (g_nw σ) m + i < g_nw σ then σ 9 (fup (σ 6) (g_nm σ) (g_nw σ) m + i) else g_nm σ) = m
    by_cases e : m = g_nm σ
    · rw [e, fup_eq, if_neg (by omega)]
    · rw [fup_ne e] at hi2 ⊢
      have hh : σ 6 m + σ 5 m ≤ g_nw σ := hlt m (by omega)
      rw [if_pos (by omega)]
      exact kmo m (by omega) i hi2
  · have hw2 : w < g_nw σ + mn := hw'
    show (if w < g_nw σ then σ 9 w else g_nm σ) < g_nm σ + 1 ∧ fup (σ 6) (g_nm σ) (g_nw σ) (if w < g_nw σ then σ 9 w else g_nm σ) ≤ w ∧ w < fup (σ 6) (g_nm σ) (g_nw σ) (if w < g_nw σ then σ 9 w else g_nm σ) + fup (σ 5) (g_nm σ) mn (if w < g_nw σ then σ 9 w else g_nm σ) ∧ (if w < g_nw σ then σ 10 w else 0) ≤ 30
    by_cases e : w < g_nw σ
    · obtain ⟨q1, q2, q3, q4⟩ := kw w e
      have q1' : σ 9 w < g_nm σ := q1
      rw [if_pos e, if_pos e, fup_ne (show σ 9 w ≠ g_nm σ by omega), fup_ne (show σ 9 w ≠ g_nm σ by omega)]
      exact ⟨by omega, q2, q3, q4⟩
    · rw [if_neg e, if_neg e, fup_eq, fup_eq]
      omega
