/-! PURE: tries: the document's machine -/
/-- a try is taken -/
def okT (σ : Sg) (q : Nat → Nat) (n w c : Nat) : Prop := c < 30 ∧ okW σ (fup q w (c + 1)) w w ∧ c + gapW σ w < n ∧ (0 < w → g_mo σ (w - 1) = g_mo σ w → q (w - 1) ≤ c)
noncomputable def trun (σ : Sg) (n : Nat) : Nat → Nat → Nat → Nat → (Nat → Nat) → Nat × Nat × (Nat → Nat)
  | 0, _, _, k, q => (3, k, q)
  | f + 1, w, c, k, q => if c < n then (if k = 4000 then (2, k, q) else @ite _ (okT σ q n w c) (Classical.propDecidable _) (if w + 1 < g_nw σ then trun σ n f (w + 1) 0 (k + 1) (fup q w (c + 1)) else (1, k + 1, fup q w (c + 1))) (trun σ n f w (c + 1) (k + 1) q)) else if w = 0 then (0, k, q) else trun σ n f (w - 1) (q (w - 1)) k (fup q (w - 1) 0)
theorem pch_congr {σ : Sg} {p q : Nat → Nat} {u : Nat} (h : p u = q u) : pch σ p u = pch σ q u := by unfold pch; rw [h]
theorem okW_congr {σ : Sg} {p q : Nat → Nat} {N w : Nat} (hw : p w = q w) (h : ∀ u, u < N → p u = q u) (ho : okW σ p N w) : okW σ q N w := by
  obtain ⟨h1, h2, h3⟩ := ho
  refine ⟨fun a => by rw [← hw] at a ⊢; exact h1 a, fun u hu huw => ?_, fun u v huv hv huw hvw => ?_⟩
  · have := h2 u hu huw
    unfold lackP at this ⊢
    rw [pch_congr (h u hu).symm, pch_congr hw.symm]
    exact this
  · have := h3 u v huv hv huw hvw
    unfold sumP at this ⊢
    rw [pch_congr (h u (by omega)).symm, pch_congr (h v hv).symm, pch_congr hw.symm]
    exact this
theorem okT_congr {σ : Sg} {p q : Nat → Nat} {n w c : Nat} (h : ∀ u, u < w → p u = q u) (ho : okT σ p n w c) : okT σ q n w c := by
  obtain ⟨h1, h2, h3, h4⟩ := ho
  refine ⟨h1, okW_congr (by rw [fup_eq, fup_eq]) (fun u hu => by rw [fup_ne (by omega), fup_ne (by omega)]; exact h u hu) h2, h3, fun a b => ?_⟩
  rw [← h (w - 1) (by omega)]
  exact h4 a b
theorem okT_iff {σ : Sg} {p q : Nat → Nat} {n w c : Nat} (h : ∀ u, u < w → p u = q u) : okT σ p n w c ↔ okT σ q n w c := ⟨okT_congr h, okT_congr (fun u hu => (h u hu).symm)⟩
/-! the class -/
theorem c_below (M : ab_M) {n : Nat} (hn : n < 1000) : ∃ B, mi_X8_below M (nI n) = some B ∧ ∀ i, i < 30 → (bt B i = true ↔ i < n) := by
  unfold mi_X8_below
  by_cases h : 0 < n
  · rw [if_pos (show (0 : Int32) < nI n from nI_lt h (by omega))]
    by_cases h2 : n < 30
    · rw [if_pos (show nI n < (30 : Int32) from nI_lt h2 (by decide)), b_oneN (by omega), show (1 : Int32) = nI 1 from rfl, pk_sub (Nat.one_le_two_pow)]
      refine ⟨_, rfl, fun i hi => ?_⟩
      rw [b_nIt (by omega), Nat.testBit_two_pow_sub_one, decide_eq_true_eq]
    · rw [if_neg (show ¬ nI n < (30 : Int32) from nI_nlt (show 30 ≤ n by omega) (by omega))]
      refine ⟨_, rfl, fun i hi => ?_⟩
      rw [b_all, decide_eq_true_eq]
      omega
  · obtain rfl : n = 0 := by omega
    rw [if_neg (show ¬ (0 : Int32) < nI 0 by decide)]
    refine ⟨_, rfl, fun i hi => ?_⟩
    rw [b_0]
    simp
theorem c_below_neg (M : ab_M) {a b : Nat} (ha : a < 1000) (hb : b < 1000) : ∃ B, mi_X8_below M (nI a - nI b) = some B ∧ ∀ i, i < 30 → (bt B i = true ↔ i + b < a) := by
  by_cases h : b ≤ a
  · rw [pk_sub h]
    obtain ⟨B, h1, h2⟩ := c_below M (n := a - b) (by omega)
    refine ⟨B, h1, fun i hi => ?_⟩
    rw [h2 i hi]
    omega
  · unfold mi_X8_below
    rw [if_neg (show ¬ (0 : Int32) < nI a - nI b by rw [i_lt, pk_sub_toInt (by omega) (by omega)]; show ¬ (0 : Int) < _; omega)]
    refine ⟨_, rfl, fun i hi => ?_⟩
    rw [b_0]
    simp
    omega
/-- the cells of the trier -/
def fT (c j : Nat) : Prop := c = 27 ∨ c = 28 ∨ c = 29 ∨ (c = 26 ∧ j = 5)
/-- what the class holds while it tries -/
def CS (σ : Sg) (n w c k : Nat) (q : Nat → Nat) (M : ab_M) : Prop := RepC σ M ∧ (∀ u, u < w → 1 ≤ q u ∧ q u ≤ n ∧ M.1 27 u = pv (q u) ∧ M.1 28 u = nI (q u)) ∧ M.1 28 w = nI c ∧ c ≤ n ∧ M.1 26 5 = nI k ∧ k ≤ 4000 ∧ ∀ u, u ≤ w → ∀ i, i < 30 → (bt (M.1 29 u) i = true ↔ okT σ q n u i)
theorem fT_C {c j : Nat} (h : fC c j) : ¬ fT c j := by unfold fC fB at h; unfold fT; omega
theorem c_open {σ : Sg} {M : ab_M} {q : Nat → Nat} {n w : Nat} (hS : Sok σ) (hC : RepC σ M) (hw : w < g_nw σ) (hn : n ≤ 30) (hq : ∀ u, u < w → 1 ≤ q u ∧ q u ≤ n ∧ M.1 27 u = pv (q u)) : ∃ M', mi_X8_open M (nI w) (nI n) = some M' ∧ (∀ c j, ¬ (c = 28 ∧ j = w) → ¬ (c = 29 ∧ j = w) → M'.1 c j = M.1 c j) ∧ M'.2 = M.2 ∧ M'.1 28 w = 0 ∧ ∀ i, i < 30 → (bt (M'.1 29 w) i = true ↔ okT σ q n w i) := by
  have hw16 := hS.w16 hw
  have hg := gapW_le hS hw
  have s0 : ∀ c j, ¬ (c = 28 ∧ j = w) → (ab_pi M 28 w 0).1 c j = M.1 c j := fun c j h => pi_ne h
  have hC0 : RepC σ (ab_pi M 28 w 0) := hC.same hS (fun c j hc => s0 c j (by unfold fC fB at hc; omega))
  obtain ⟨B, h1, h2⟩ := c_freeChannels (N := w) (p := q) (t := 27) hS hC0 (fun u hu => by have := hq u hu; omega) (fun u hu => by rw [s0 27 u (by omega)]; exact (hq u hu).2.2) hw (by omega)
  obtain ⟨B2, h3, h4⟩ := c_below_neg (ab_pi M 28 w 0) (a := n) (b := gapW σ w) (by omega) (by omega)
  have e1 : (nI w).toNatClampNeg = w := nI_clamp (by omega)
  unfold mi_X8_open
  simp only [e1, vin hw16, ab_chk_true]
  rw [h1, Option.bind_some, c_gapOf hS hC0.1 hw, Option.bind_some, h3, Option.bind_some]
  have s1 : ∀ c j, ¬ (c = 28 ∧ j = w) → ¬ (c = 29 ∧ j = w) → (ab_pi (ab_pi M 28 w 0) 29 w (B &&& B2)).1 c j = M.1 c j := fun c j a b => by rw [pi_ne b, pi_ne a]
  by_cases h0 : w = 0
  · rw [if_pos (show nI w ≤ 0 by rw [h0]; decide)]
    refine ⟨_, rfl, s1, rfl, by rw [pi_ne (by omega), pi_eq], fun i hi => ?_⟩
    rw [pi_eq, b_and, Bool.and_eq_true, h2 i (by omega), h4 i hi]
    unfold okT
    constructor
    · rintro ⟨⟨a, b⟩, c⟩
      exact ⟨a, b, c, fun z => by omega⟩
    · rintro ⟨a, b, c, -⟩
      exact ⟨⟨a, b⟩, c⟩
  · rw [if_neg (show ¬ nI w ≤ 0 from nI_ge (show 0 < w by omega) (by omega))]
    have e2 : nI w - 1 = nI (w - 1) := nI_m1 (by omega)
    have e3 : (nI (w - 1)).toNatClampNeg = w - 1 := nI_clamp (by omega)
    have hw1 : w - 1 < g_nw σ := by omega
    rw [e2, e3]
    simp only [vin (show w - 1 < 16 by omega), ab_chk_true]
    rw [s1 3 (w - 1) (by omega) (by omega), s1 3 w (by omega) (by omega), (hC.1.w hw1).1, (hC.1.w hw).1, s1 27 (w - 1) (by omega) (by omega), (hq (w - 1) (by omega)).2.2]
    have hm1 := hS.mo12 hw1
    have hm2 := hS.mo12 hw
    by_cases hmo : g_mo σ (w - 1) = g_mo σ w
    · rw [if_pos (by rw [hmo])]
      obtain ⟨a, ha⟩ : ∃ a, q (w - 1) = a + 1 := ⟨q (w - 1) - 1, by have := hq (w - 1) (by omega); omega⟩
      have han := (hq (w - 1) (by omega)).2.1
      rw [ha, pv_s, nI_1]
      obtain ⟨B3, h5, h6⟩ := c_below (ab_pi (ab_pi M 28 w 0) 29 w (B &&& B2)) (n := a + 1) (by omega)
      rw [h5, Option.bind_some, pi_eq]
      refine ⟨_, rfl, fun c j x y => by rw [pi_ne y]; exact s1 c j x y, rfl, by rw [pi_ne (by omega), pi_ne (by omega), pi_eq], fun i hi => ?_⟩
      rw [pi_eq, b_and, b_and, b_not _ (by omega), Bool.and_eq_true, Bool.and_eq_true, Bool.not_eq_true', ← Bool.not_eq_true, h2 i (by omega), h4 i hi, h6 i hi]
      unfold okT
      constructor
      · rintro ⟨⟨⟨x, b⟩, c⟩, d⟩
        exact ⟨x, b, c, fun _ _ => by omega⟩
      · rintro ⟨x, b, c, d⟩
        have := d (by omega) hmo
        exact ⟨⟨⟨x, b⟩, c⟩, by omega⟩
    · rw [if_neg (fun z => hmo ((nI_eq (by omega) (by omega)).mp z))]
      refine ⟨_, rfl, s1, rfl, by rw [pi_ne (by omega), pi_eq], fun i hi => ?_⟩
      rw [pi_eq, b_and, Bool.and_eq_true, h2 i (by omega), h4 i hi]
      unfold okT
      constructor
      · rintro ⟨⟨a, b⟩, c⟩
        exact ⟨a, b, c, fun _ z => absurd z hmo⟩
      · rintro ⟨a, b, c, -⟩
        exact ⟨⟨a, b⟩, c⟩
def cd (z : Nat) : Int32 := if z = 1 then 1 else if z = 0 then 0 else -2
theorem c_search22 {σ : Sg} (hS : Sok σ) {n : Nat} (hn : n ≤ 30) : ∀ (f w c k : Nat) (q : Nat → Nat) (M : ab_M) (s g : Nat), CS σ n w c k q M → w < g_nw σ → 2 * (4000 - k) + w + 1 ≤ f → f + s ≤ 8002 → f < g →
    ∃ M', mi_X8_search_22 g M (nI n) (nI w) (nI s) = some (.inr (cd (trun σ n f w c k q).1, M')) ∧ (∀ c j, ¬ fT c j → M'.1 c j = M.1 c j) ∧ M'.2 = M.2 ∧ (trun σ n f w c k q).1 ≤ 2 ∧ M'.1 26 5 = nI (trun σ n f w c k q).2.1 ∧ (trun σ n f w c k q).2.1 ≤ 4000 ∧ ((trun σ n f w c k q).1 = 1 → ∀ u, u < g_nw σ → 1 ≤ (trun σ n f w c k q).2.2 u ∧ (trun σ n f w c k q).2.2 u ≤ n ∧ M'.1 27 u = pv ((trun σ n f w c k q).2.2 u)) := by
  have hnw := hS.nw
  intro f
  induction f with
  | zero => intro w c k q M s g hM hw hf; omega
  | succ f ih =>
    intro w c k q M s g hM hw hf hs hg
    obtain ⟨g, rfl⟩ : ∃ m, g = m + 1 := ⟨g - 1, by omega⟩
    obtain ⟨hC, hq, m28, hcn, m26, hk, hb⟩ := hM
    have hw16 := hS.w16 hw
    have e1 : (nI w).toNatClampNeg = w := nI_clamp (by omega)
    rw [mi_X8_search_22.eq_2, if_neg (show ¬ (8001 : Int32) < nI s from nI_nlt (show s ≤ 8001 by omega) (by decide)), ab_chk_pos (vin hw16), e1, m28, m26, nI_1]
    unfold trun
    by_cases hcl : c < n
    · rw [if_pos hcl, if_pos (nI_lt hcl (by omega))]
      by_cases hk4 : k = 4000
      · rw [if_pos hk4, if_neg (show ¬ nI k < (4000 : Int32) from nI_nlt (show 4000 ≤ k by omega) (by omega))]
        exact ⟨M, rfl, fun _ _ _ => rfl, rfl, Nat.le_refl 2, m26, hk, fun h => absurd (show (2 : Nat) = 1 from h) (by decide)⟩
      · rw [if_neg hk4, if_pos (show nI k < (4000 : Int32) from nI_lt (show k < 4000 by omega) (by decide))]
        have et : mi_X8_takes M (nI w) = some (if bt (M.1 29 w) c = true then 1 else 0, ab_pi (ab_pi (ab_pi M 26 5 (nI (k + 1))) 28 w (nI (c + 1))) 27 w (nI c)) := by
          unfold mi_X8_takes
          simp only [vin hw16, ab_chk_true, e1]
          rw [m26, m28, nI_1, show (ab_pi M 26 5 (nI (k + 1))).1 28 w = nI c from (pi_ne (by omega)).trans m28, nI_1, pi_ne (by omega), pi_ne (by omega), pi_ne (by omega), b_tu (by omega)]
          by_cases hx : bt (M.1 29 w) c = true
          · rw [if_pos hx, if_neg (by decide)]
          · rw [if_neg hx, if_pos rfl]
        rw [et, Option.bind_some]
        have s1 : ∀ c' j, ¬ (c' = 27 ∧ j = w) → ¬ (c' = 28 ∧ j = w) → ¬ (c' = 26 ∧ j = 5) → (ab_pi (ab_pi (ab_pi M 26 5 (nI (k + 1))) 28 w (nI (c + 1))) 27 w (nI c)).1 c' j = M.1 c' j := fun c' j x y z => by rw [pi_ne x, pi_ne y, pi_ne z]
        generalize hM1 : ab_pi (ab_pi (ab_pi M 26 5 (nI (k + 1))) 28 w (nI (c + 1))) 27 w (nI c) = M1 at s1
        have t27 : M1.1 27 w = nI c := by rw [← hM1, pi_eq]
        have t28 : M1.1 28 w = nI (c + 1) := by rw [← hM1, pi_ne (by omega), pi_eq]
        have t26 : M1.1 26 5 = nI (k + 1) := by rw [← hM1, pi_ne (by omega), pi_ne (by omega), pi_eq]
        have tl : M1.2 = M.2 := by rw [← hM1]; rfl
        have hC1 : RepC σ M1 := hC.same hS (fun c' j hc => s1 c' j (by unfold fC fB at hc; omega) (by unfold fC fB at hc; omega) (by unfold fC fB at hc; omega))
        have sT : ∀ c' j, ¬ fT c' j → M1.1 c' j = M.1 c' j := fun c' j h => by unfold fT at h; exact s1 c' j (by omega) (by omega) (by omega)
        by_cases hx : okT σ q n w c
        · rw [if_pos ((hb w (Nat.le_refl _) c (by omega)).mpr hx), if_pos hx]
          show ∃ M', (if (1 : Int32) = 0 then _ else if (nI w + 1) < M1.1 1 8 then _ else _) = _ ∧ _
          rw [if_neg (by decide), hC1.1.2.1, nI_1]
          have hq' : ∀ u, u < w + 1 → 1 ≤ fup q w (c + 1) u ∧ fup q w (c + 1) u ≤ n ∧ M1.1 27 u = pv (fup q w (c + 1) u) ∧ M1.1 28 u = nI (fup q w (c + 1) u) := by
            intro u hu
            by_cases e : u = w
            · rw [e, fup_eq, pv_s, t27, t28]
              exact ⟨by omega, by omega, rfl, rfl⟩
            · rw [fup_ne e, s1 27 u (by omega) (by omega) (by omega), s1 28 u (by omega) (by omega) (by omega)]
              exact hq u (by omega)
          by_cases hl : w + 1 < g_nw σ
          · rw [if_pos hl, if_pos (nI_lt hl (by omega))]
            obtain ⟨M2, o1, o2, o3, o4, o5⟩ := c_open (q := fup q w (c + 1)) hS hC1 hl hn (fun u hu => ⟨(hq' u hu).1, (hq' u hu).2.1, (hq' u hu).2.2.1⟩)
            rw [o1, Option.bind_some]
            have hC2 : RepC σ M2 := hC1.same hS (fun c' j hc => o2 c' j (by unfold fC fB at hc; omega) (by unfold fC fB at hc; omega))
            obtain ⟨M', r1, r2, r3, r4⟩ := ih (w + 1) 0 (k + 1) (fup q w (c + 1)) M2 (s + 1) g ⟨hC2, fun u hu => by rw [o2 27 u (by omega) (by omega), o2 28 u (by omega) (by omega)]; exact hq' u hu, o4, by omega, by rw [o2 26 5 (by omega) (by omega)]; exact t26, by omega, fun u hu i hi => by
              by_cases e : u = w + 1
              · rw [e]; exact o5 i hi
              · rw [o2 29 u (by omega) (by omega), s1 29 u (by omega) (by omega) (by omega), hb u (by omega) i hi]
                exact okT_iff (fun v hv => by rw [fup_ne (by omega)])⟩ hl (by omega) (by omega) (by omega)
            exact ⟨M', r1, fun c' j h => by rw [r2 c' j h, o2 c' j (by unfold fT at h; omega) (by unfold fT at h; omega), sT c' j h], by rw [r3, o3, tl], r4⟩
          · rw [if_neg hl, if_neg (nI_nlt (by omega) (by omega))]
            exact ⟨M1, rfl, sT, tl, (by decide : (1 : Nat) ≤ 2), t26, by show k + 1 ≤ 4000; omega, fun _ u hu => ⟨(hq' u (by omega)).1, (hq' u (by omega)).2.1, (hq' u (by omega)).2.2.1⟩⟩
        · rw [if_neg (fun z => hx ((hb w (Nat.le_refl _) c (by omega)).mp z)), if_neg hx]
          show ∃ M', (if (0 : Int32) = 0 then mi_X8_search_22 g M1 (nI n) (nI w) (nI (s + 1)) else _) = _ ∧ _
          rw [if_pos rfl]
          obtain ⟨M', r1, r2, r3, r4⟩ := ih w (c + 1) (k + 1) q M1 (s + 1) g ⟨hC1, fun u hu => by rw [s1 27 u (by omega) (by omega) (by omega), s1 28 u (by omega) (by omega) (by omega)]; exact hq u hu, t28, by omega, t26, by omega, fun u hu i hi => by rw [s1 29 u (by omega) (by omega) (by omega)]; exact hb u hu i hi⟩ hw (by omega) (by omega) (by omega)
          exact ⟨M', r1, fun c' j h => by rw [r2 c' j h, sT c' j h], by rw [r3, tl], r4⟩
    · rw [if_neg hcl, if_neg (nI_nlt (by omega) (by omega))]
      have e2 : nI w + (-1) = nI w - 1 := (Int32.sub_eq_add_neg _ _).symm
      rw [e2]
      by_cases h0 : w = 0
      · rw [if_pos h0, if_neg (show ¬ (0 : Int32) ≤ nI w - 1 from Int32.not_le.mpr ((nI_m1_neg (by omega)).mpr h0))]
        exact ⟨M, rfl, fun _ _ _ => rfl, rfl, Nat.zero_le 2, m26, hk, fun h => absurd (show (0 : Nat) = 1 from h) (by decide)⟩
      · rw [if_neg h0, if_pos (show (0 : Int32) ≤ nI w - 1 from Int32.not_lt.mp (fun z => h0 ((nI_m1_neg (by omega)).mp z))), nI_m1 (by omega)]
        have hq1 := hq (w - 1) (by omega)
        obtain ⟨M', r1, r2, r3, r4⟩ := ih (w - 1) (q (w - 1)) k (fup q (w - 1) 0) M (s + 1) g ⟨hC, fun u hu => by rw [fup_ne (by omega)]; exact hq u (by omega), hq1.2.2.2, hq1.2.1, m26, hk, fun u hu i hi => by
          rw [hb u (by omega) i hi]
          exact okT_iff (fun v hv => by rw [fup_ne (by omega)])⟩ (by omega) (by omega) (by omega) (by omega)
        exact ⟨M', r1, r2, r3, r4⟩
/-- a search below n, k tries being made -/
noncomputable def tsr (σ : Sg) (n k : Nat) : Nat × Nat × (Nat → Nat) := if g_nw σ = 0 then (1, k, fun _ => 0) else trun σ n 8001 0 0 k (fun _ => 0)
theorem c_search {σ : Sg} (hS : Sok σ) {n k : Nat} (hn : n ≤ 30) {M : ab_M} (hC : RepC σ M) (hk : k ≤ 4000) (hM : M.1 26 5 = nI k) : ∃ M', mi_X8_search M (nI n) = some (cd (tsr σ n k).1, M') ∧ (∀ c j, ¬ fT c j → M'.1 c j = M.1 c j) ∧ M'.2 = M.2 ∧ (tsr σ n k).1 ≤ 2 ∧ M'.1 26 5 = nI (tsr σ n k).2.1 ∧ (tsr σ n k).2.1 ≤ 4000 ∧ ((tsr σ n k).1 = 1 → ∀ u, u < g_nw σ → 1 ≤ (tsr σ n k).2.2 u ∧ (tsr σ n k).2.2 u ≤ n ∧ M'.1 27 u = pv ((tsr σ n k).2.2 u)) := by
  have hnw := hS.nw
  unfold mi_X8_search tsr
  rw [hC.1.2.1]
  by_cases h : g_nw σ = 0
  · rw [if_pos h, if_pos (show nI (g_nw σ) = 0 by rw [h]; rfl)]
    exact ⟨M, rfl, fun _ _ _ => rfl, rfl, (by decide : (1 : Nat) ≤ 2), hM, hk, fun _ u hu => by omega⟩
  · rw [if_neg h, if_neg (show ¬ nI (g_nw σ) = (0 : Int32) from nI_ne0 (by omega) (by omega))]
    obtain ⟨M2, o1, o2, o3, o4, o5⟩ := c_open (q := fun _ => 0) (w := 0) hS hC (by omega) hn (fun u hu => by omega)
    have hC2 : RepC σ M2 := hC.same hS (fun c' j hc => o2 c' j (by unfold fC fB at hc; omega) (by unfold fC fB at hc; omega))
    obtain ⟨M', r1, r2, r3, r4⟩ := c_search22 hS hn 8001 0 0 k (fun _ => 0) M2 0 ab_F ⟨hC2, fun u hu => by omega, o4, by omega, by rw [o2 26 5 (by omega) (by omega)]; exact hM, hk, fun u hu i hi => by obtain rfl : u = 0 := (by omega); exact o5 i hi⟩ (by omega) (by omega) (by omega) (by unfold ab_F; omega)
    have o1' : mi_X8_open M 0 (nI n) = some M2 := o1
    have r1' : mi_X8_search_22 ab_F M2 (nI n) 0 0 = some (.inr (cd (trun σ n 8001 0 0 k (fun _ => 0)).1, M')) := r1
    rw [o1', Option.bind_some, r1', Option.bind_some]
    exact ⟨M', rfl, fun c' j h => by rw [r2 c' j h, o2 c' j (by unfold fT at h; omega) (by unfold fT at h; omega)], by rw [r3, o3], r4⟩
