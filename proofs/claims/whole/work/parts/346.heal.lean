/-! PURE: changes as few as can be: two wants -/
def h2 (σ : Sg) (p : Nat → Nat) (v w c : Nat) : Prop := chg σ p v ∧ c < 30 ∧ c + 1 ≠ p v ∧ may σ v c ∧ ffind (hl σ (fup p v (c + 1)) w) 30 0 ≠ none
noncomputable def sndC (σ : Sg) (p : Nat → Nat) (v w c : Nat) : Nat := (ffind (hl σ (fup p v (c + 1)) w) 30 0).getD 0
noncomputable def ftw (σ : Sg) (p : Nat → Nat) (v : Nat) : Nat → Nat → Option (Nat × Nat)
  | 0, _ => none
  | k + 1, w => match ffind (h2 σ p v w) 30 0 with
    | some c => some (w, c)
    | none => ftw σ p v k (w + 1)
theorem ftw_yes {σ : Sg} {p : Nat → Nat} {k v w c : Nat} (h : ffind (h2 σ p v w) 30 0 = some c) : ftw σ p v (k + 1) w = some (w, c) := by
  show (match ffind (h2 σ p v w) 30 0 with | some c => some (w, c) | none => ftw σ p v k (w + 1)) = _
  rw [h]
theorem ftw_no {σ : Sg} {p : Nat → Nat} {k v w : Nat} (h : ffind (h2 σ p v w) 30 0 = none) : ftw σ p v (k + 1) w = ftw σ p v k (w + 1) := by
  show (match ffind (h2 σ p v w) 30 0 with | some c => some (w, c) | none => ftw σ p v k (w + 1)) = _
  rw [h]
noncomputable def ftt (σ : Sg) (p : Nat → Nat) : Nat → Nat → Option (Nat × Nat × Nat)
  | 0, _ => none
  | k + 1, v => match ftw σ p v k (v + 1) with
    | some (w, c) => some (v, w, c)
    | none => ftt σ p k (v + 1)
theorem ftt_yes {σ : Sg} {p : Nat → Nat} {k v w c : Nat} (h : ftw σ p v k (v + 1) = some (w, c)) : ftt σ p (k + 1) v = some (v, w, c) := by
  show (match ftw σ p v k (v + 1) with | some (w, c) => some (v, w, c) | none => ftt σ p k (v + 1)) = _
  rw [h]
theorem ftt_no {σ : Sg} {p : Nat → Nat} {k v : Nat} (h : ftw σ p v k (v + 1) = none) : ftt σ p (k + 1) v = ftt σ p k (v + 1) := by
  show (match ftw σ p v k (v + 1) with | some (w, c) => some (v, w, c) | none => ftt σ p k (v + 1)) = _
  rw [h]
/-! the model -/
theorem r_heal32 {σ : Sg} {p : Nat → Nat} {M : ab_M} (hS : Sok σ) (hR : RepR σ M) (hp : Pok σ p) (hP : PlR σ p M) {v w : Nat} (hv : v < g_nw σ) (hw : w < g_nw σ) : ∀ (k j g : Nat), j + k = 30 → k < g → (ffind (h2 σ p v w) k j = none ∧ ∃ y, mi_X10_isHealedByTwo_32 g M (nI v) (nI w) (pv (p v)) (nI j) = some (.inl (y, M))) ∨ ∃ c, ffind (h2 σ p v w) k j = some c ∧ mi_X10_isHealedByTwo_32 g M (nI v) (nI w) (pv (p v)) (nI j) = some (.inr (1, ab_pi (ab_pi M 80 v (nI c)) 80 w (nI (sndC σ p v w c)))) := by
  have hv16 := hS.w16 hv
  have hpv := hp v hv
  have e1 : (nI v).toNatClampNeg = v := nI_clamp (by omega)
  intro k
  induction k with
  | zero =>
    intro j g hj hg
    obtain ⟨g, rfl⟩ : ∃ m, g = m + 1 := ⟨g - 1, by omega⟩
    obtain rfl : j = 30 := by omega
    left
    rw [mi_X10_isHealedByTwo_32.eq_2, if_pos (by decide)]
    exact ⟨rfl, _, rfl⟩
  | succ k ih =>
    intro j g hj hg
    obtain ⟨g, rfl⟩ : ∃ m, g = m + 1 := ⟨g - 1, by omega⟩
    rw [mi_X10_isHealedByTwo_32.eq_2, if_neg (show ¬ (30 : Int32) ≤ nI j from nI_ge (show j < 30 by omega) (by decide))]
    by_cases hc : chg σ p v
    · obtain ⟨hc1, hc2⟩ := id hc
      rw [if_neg (fun z => hc1 ((pv_neg (by omega)).mp z)), ab_chk_pos (vin hv16), e1, if_neg (fun z => (r_sy hS hR hv).mp z hc2), nI_1]
      have ih' := ih (j + 1) g (by omega) (by omega)
      have skip : ¬ h2 σ p v w j → (ffind (h2 σ p v w) (k + 1) j = none ∧ ∃ y, mi_X10_isHealedByTwo_32 g M (nI v) (nI w) (pv (p v)) (nI (j + 1)) = some (.inl (y, M))) ∨ ∃ c, ffind (h2 σ p v w) (k + 1) j = some c ∧ mi_X10_isHealedByTwo_32 g M (nI v) (nI w) (pv (p v)) (nI (j + 1)) = some (.inr (1, ab_pi (ab_pi M 80 v (nI c)) 80 w (nI (sndC σ p v w c)))) := by
        intro h
        rw [ffind_no h]
        exact ih'
      obtain ⟨a, ha⟩ : ∃ a, p v = a + 1 := ⟨p v - 1, by omega⟩
      have epv : pv (p v) = nI a := by rw [ha, pv_s]
      by_cases hj2 : j + 1 = p v
      · rw [if_pos (show nI j = pv (p v) by rw [epv, show j = a by omega])]
        exact skip (fun h => h.2.2.1 hj2)
      · rw [if_neg (show ¬ nI j = pv (p v) from fun z => by rw [epv] at z; have := (nI_eq (by omega) (by omega)).mp z; omega)]
        obtain ⟨z0, g1, g2, g3⟩ := r_mayHave hS hR hv (show j < 30 by omega)
        rw [g1, Option.bind_some]
        by_cases hm : may σ v j
        · rw [if_neg (fun z => g3.mp z hm), ab_chk_pos (vin hv16), r_heal (p := fup p v (j + 1)) hS (hR.p80 hS) (hp.up (by omega)) (hP.up (pv_s j).symm) hw, Option.bind_some]
          cases hx : ffind (hl σ (fup p v (j + 1)) w) 30 0 with
          | none =>
            show (_ ∧ ∃ y, (if (0 : Int32) = 0 then (ab_chk (vp_in (nI v) 16) <| mi_X10_isHealedByTwo_32 g (ab_pi (ab_pi M 80 v (nI j)) 80 v (pv (p v))) (nI v) (nI w) (pv (p v)) (nI (j + 1))) else _) = _) ∨ ∃ c, _ ∧ (if (0 : Int32) = 0 then (ab_chk (vp_in (nI v) 16) <| mi_X10_isHealedByTwo_32 g (ab_pi (ab_pi M 80 v (nI j)) 80 v (pv (p v))) (nI v) (nI w) (pv (p v)) (nI (j + 1))) else _) = _
            rw [if_pos rfl, ab_chk_pos (vin hv16), pi_pi, pi_id (hP v hv).symm]
            exact skip (fun h => h.2.2.2.2 hx)
          | some d =>
            right
            refine ⟨j, ffind_yes ⟨hc, by omega, hj2, hm, by rw [hx]; exact fun z => by cases z⟩, ?_⟩
            have e : sndC σ p v w j = d := by unfold sndC; rw [hx]; rfl
            rw [e]
            show (if (1 : Int32) = 0 then _ else some (Sum.inr ((1 : Int32), ab_pi (ab_pi M 80 v (nI j)) 80 w (nI d)))) = _
            rw [if_neg (by decide)]
        · rw [if_pos (g3.mpr hm)]
          exact skip (fun h => hm h.2.2.2.1)
    · left
      refine ⟨ffind_none _ _ (fun i _ _ h => hc h.1), ?_⟩
      by_cases h0 : p v = 0
      · rw [if_pos ((pv_neg (by omega)).mpr h0)]
        exact ⟨_, rfl⟩
      · rw [if_neg (fun z => h0 ((pv_neg (by omega)).mp z)), ab_chk_pos (vin hv16), e1, if_pos ((r_sy hS hR hv).mpr (fun z => hc ⟨h0, z⟩))]
        exact ⟨_, rfl⟩
theorem r_heal14 {σ : Sg} {p : Nat → Nat} {M : ab_M} (hS : Sok σ) (hR : RepR σ M) (hp : Pok σ p) (hP : PlR σ p M) {v : Nat} (hv : v < g_nw σ) : ∀ (k j g : Nat), j + k = g_nw σ → k < g → (ftw σ p v k j = none ∧ ∃ y, mi_X10_isHealedByTwo_14 g M (nI v) (nI j) = some (.inl (y, M))) ∨ ∃ w c, ftw σ p v k j = some (w, c) ∧ mi_X10_isHealedByTwo_14 g M (nI v) (nI j) = some (.inr (1, ab_pi (ab_pi M 80 v (nI c)) 80 w (nI (sndC σ p v w c)))) := by
  have hnw := hS.nw
  have hv16 := hS.w16 hv
  intro k
  induction k with
  | zero =>
    intro j g hj hg
    obtain ⟨g, rfl⟩ : ∃ m, g = m + 1 := ⟨g - 1, by omega⟩
    obtain rfl : j = g_nw σ := by omega
    left
    rw [mi_X10_isHealedByTwo_14.eq_2, hR.2.1, if_pos (Int32.le_refl _)]
    exact ⟨rfl, _, rfl⟩
  | succ k ih =>
    intro j g hj hg
    obtain ⟨g, rfl⟩ : ∃ m, g = m + 1 := ⟨g - 1, by omega⟩
    rw [mi_X10_isHealedByTwo_14.eq_2, hR.2.1, if_neg (nI_ge (show j < g_nw σ by omega) (by omega)), ab_chk_pos (vin hv16), nI_clamp (by omega), hP v hv, nI_1]
    rcases r_heal32 hS hR hp hP hv (show j < g_nw σ by omega) 30 0 ab_F (by omega) (by unfold ab_F; omega) with ⟨h1, y, h2⟩ | ⟨c, h1, h2⟩
    · rw [show (0 : Int32) = nI 0 from rfl, h2, ftw_no h1]
      exact ih (j + 1) g (by omega) (by omega)
    · rw [show (0 : Int32) = nI 0 from rfl, h2, ftw_yes h1]
      exact Or.inr ⟨j, c, rfl, rfl⟩
theorem r_heal2 {σ : Sg} {p : Nat → Nat} {M : ab_M} (hS : Sok σ) (hR : RepR σ M) (hp : Pok σ p) (hP : PlR σ p M) : ∀ (k j g : Nat), j + k = g_nw σ → k < g → (ftt σ p k j = none ∧ ∃ y, mi_X10_isHealedByTwo_2 g M (nI j) = some (.inl (y, M))) ∨ ∃ v w c, ftt σ p k j = some (v, w, c) ∧ mi_X10_isHealedByTwo_2 g M (nI j) = some (.inr (1, ab_pi (ab_pi M 80 v (nI c)) 80 w (nI (sndC σ p v w c)))) := by
  have hnw := hS.nw
  intro k
  induction k with
  | zero =>
    intro j g hj hg
    obtain ⟨g, rfl⟩ : ∃ m, g = m + 1 := ⟨g - 1, by omega⟩
    obtain rfl : j = g_nw σ := by omega
    left
    rw [mi_X10_isHealedByTwo_2.eq_2, hR.2.1, if_pos (Int32.le_refl _)]
    exact ⟨rfl, _, rfl⟩
  | succ k ih =>
    intro j g hj hg
    obtain ⟨g, rfl⟩ : ∃ m, g = m + 1 := ⟨g - 1, by omega⟩
    rw [mi_X10_isHealedByTwo_2.eq_2, hR.2.1, if_neg (nI_ge (show j < g_nw σ by omega) (by omega)), nI_1]
    rcases r_heal14 hS hR hp hP (show j < g_nw σ by omega) k (j + 1) ab_F (by omega) (ab_F_lt (by omega)) with ⟨h1, y, h2⟩ | ⟨w, c, h1, h2⟩
    · rw [h2, ftt_no h1]
      exact ih (j + 1) g (by omega) (by omega)
    · rw [h2, ftt_yes h1]
      exact Or.inr ⟨j, w, c, rfl, rfl⟩
noncomputable def hres3 (σ : Sg) (p : Nat → Nat) (M : ab_M) (t : Nat) : Option (Nat × Nat × Nat) → Int32 × ab_M
  | none => (0, M)
  | some (v, w, c) => (1, ab_pi (ab_pi M t v (nI c)) t w (nI (sndC σ p v w c)))
theorem r_healTwo {σ : Sg} {p : Nat → Nat} {M : ab_M} (hS : Sok σ) (hR : RepR σ M) (hp : Pok σ p) (hP : PlR σ p M) : mi_X10_isHealedByTwo M = some (hres3 σ p M 80 (ftt σ p (g_nw σ) 0)) := by
  have hnw := hS.nw
  unfold mi_X10_isHealedByTwo
  rcases r_heal2 hS hR hp hP (g_nw σ) 0 ab_F (by omega) (ab_F_lt (by omega)) with ⟨h1, y, h2⟩ | ⟨v, w, c, h1, h2⟩
  · rw [h1, show (0 : Int32) = nI 0 from rfl, h2]
    rfl
  · rw [h1, show (0 : Int32) = nI 0 from rfl, h2]
    rfl
theorem r_few30 {σ : Sg} {p : Nat → Nat} {M : ab_M} (hS : Sok σ) (hR : RepR σ M) (hp : Pok σ p) (hP : PlR σ p M) {m : Nat} (hm : 0 < m) (hm3 : m < 3) : ∀ (k j g : Nat), j + k = g_nw σ → k < g → (fone σ p k j = none ∧ ∃ y, mi_X10_fewest_30 g M (nI m) (nI j) = some (.inl (y, M))) ∨ ∃ w c, fone σ p k j = some (w, c) ∧ mi_X10_fewest_30 g M (nI m) (nI j) = some (.inr (1, ab_pi M 80 w (nI c))) := by
  have hnw := hS.nw
  intro k
  induction k with
  | zero =>
    intro j g hj hg
    obtain ⟨g, rfl⟩ : ∃ m, g = m + 1 := ⟨g - 1, by omega⟩
    obtain rfl : j = g_nw σ := by omega
    left
    rw [mi_X10_fewest_30.eq_2, hR.2.1, if_pos (Int32.le_refl _)]
    exact ⟨rfl, _, rfl⟩
  | succ k ih =>
    intro j g hj hg
    obtain ⟨g, rfl⟩ : ∃ m, g = m + 1 := ⟨g - 1, by omega⟩
    rw [mi_X10_fewest_30.eq_2, hR.2.1, if_neg (nI_ge (show j < g_nw σ by omega) (by omega)), if_neg (show ¬ nI m ≤ 0 from nI_ge (show 0 < m by omega) (by omega)), r_heal hS hR hp hP (show j < g_nw σ by omega), Option.bind_some, nI_1]
    cases hx : ffind (hl σ p j) 30 0 with
    | none =>
      rw [fone_no hx]
      exact ih (j + 1) g (by omega) (by omega)
    | some c =>
      rw [fone_yes hx]
      exact Or.inr ⟨j, c, rfl, rfl⟩
/-! the class -/
theorem c_both63 {σ : Sg} {p : Nat → Nat} {M : ab_M} {u v a b : Nat} {B : Int32} (hS : Sok σ) (hC : RepC σ M) (hp : Pok σ p) (hP : PlC σ p 67 M) (hu : u < g_nw σ) (hv : v < g_nw σ) (huv : u ≠ v) (cu : chg σ p u) (cv : chg σ p v) (pu : p u = a + 1) (pv' : p v = b + 1) (hB : ∀ i, i < 30 → (bt B i = true ↔ harm σ (fup (fup p u 0) v 0) = 0 ∧ i ≠ a ∧ okW σ (fup (fup (fup p u 0) v 0) u (i + 1)) (g_nw σ) u)) :
    ∀ (k j g : Nat) (x : Int32), j + k = 30 → k < g → (ffind (h2 σ p u v) k j = none ∧ ∃ y x', mi_X5_changeBoth_63 g (ab_pi (ab_pi M 67 u x) 67 v (-2)) 67 (nI u) (nI v) (nI a) (nI b) B (nI j) = some (.inl (y, ab_pi (ab_pi M 67 u x') 67 v (-2)))) ∨ ∃ c, ffind (h2 σ p u v) k j = some c ∧ mi_X5_changeBoth_63 g (ab_pi (ab_pi M 67 u x) 67 v (-2)) 67 (nI u) (nI v) (nI a) (nI b) B (nI j) = some (.inr (1, ab_pi (ab_pi M 67 u (nI c)) 67 v (nI (sndC σ p u v c)))) := by
  have hu16 := hS.w16 hu
  have hv16 := hS.w16 hv
  have hpu := hp u hu
  have hpv := hp v hv
  have e1 : (nI u).toNatClampNeg = u := nI_clamp (by omega)
  have e2 : (nI v).toNatClampNeg = v := nI_clamp (by omega)
  -- what the bits say of the second want
  have key : ∀ i, harm σ (fup (fup p u (i + 1)) v 0) = 0 ↔ harm σ (fup (fup p u 0) v 0) = 0 ∧ okW σ (fup (fup (fup p u 0) v 0) u (i + 1)) (g_nw σ) u := by
    intro i
    have f1 : fup (fup p u (i + 1)) v 0 = fup (fup (fup p u 0) v 0) u (i + 1) := by
      rw [fup_comm p (i + 1) 0 huv, fup_comm p 0 0 huv, fup_fup]
    rw [harm_zero, harm_zero, clean_split (p := fup (fup p u (i + 1)) v 0) hu, f1, fup_fup]
    rw [show fup (fup (fup p u 0) v 0) u 0 = fup (fup p u 0) v 0 by rw [fup_comm p 0 0 huv, fup_fup]]
  intro k
  induction k with
  | zero =>
    intro j g x hj hg
    obtain ⟨g, rfl⟩ : ∃ m, g = m + 1 := ⟨g - 1, by omega⟩
    obtain rfl : j = 30 := by omega
    left
    rw [mi_X5_changeBoth_63.eq_2, if_pos (by decide)]
    exact ⟨rfl, _, _, rfl⟩
  | succ k ih =>
    intro j g x hj hg
    obtain ⟨g, rfl⟩ : ∃ m, g = m + 1 := ⟨g - 1, by omega⟩
    rw [mi_X5_changeBoth_63.eq_2, if_neg (show ¬ (30 : Int32) ≤ nI j from nI_ge (show j < 30 by omega) (by decide)), b_tu (by omega), nI_1]
    by_cases hbit : bt B j = true
    · rw [if_pos hbit, if_neg (by decide), ab_chk_pos (vin hu16), e1, e2]
      obtain ⟨q1, q2, q3⟩ := (hB j (by omega)).mp hbit
      have em : ab_pi (ab_pi (ab_pi M 67 u x) 67 v (-2)) 67 u (nI j) = ab_pi (ab_pi M 67 u (nI j)) 67 v (-2) := by
        rw [pi_comm (M := ab_pi M 67 u x) (Ne.symm huv), pi_pi]
      rw [em]
      have hC1 : RepC σ (ab_pi (ab_pi M 67 u (nI j)) 67 v (-2)) := (hC.p67 hS).p67 hS
      have hp1 : Pok σ (fup (fup p u (j + 1)) v 0) := (hp.up (by omega)).up (by omega)
      have hP1 : PlC σ (fup (fup p u (j + 1)) v 0) 67 (ab_pi (ab_pi M 67 u (nI j)) 67 v (-2)) := (hP.up (pv_s j).symm).up rfl
      rw [c_leastFree hS hC1 hp1 hP1 hv (show b < 30 by omega), Option.bind_some]
      simp only [vin hv16, ab_chk_true]
      rw [pi_eq, pi_pi]
      have hf : ffind (fun c => c ≠ b ∧ c < 30 ∧ okW σ (fup (fup (fup p u (j + 1)) v 0) v (c + 1)) (g_nw σ) v) 30 0 = ffind (hl σ (fup p u (j + 1)) v) 30 0 := ffind_congr 30 0 (fun i _ _ => by
        rw [hl_iff hv, fup_fup, fup_ne (Ne.symm huv), pv']
        unfold chg
        rw [fup_ne (Ne.symm huv)]
        constructor
        · rintro ⟨x, y, z⟩; exact ⟨cv, by omega, (key j).mpr ⟨q1, q3⟩, y, z⟩
        · rintro ⟨-, x, -, y, z⟩; exact ⟨by omega, y, z⟩)
      rw [hf]
      have hmay : may σ u j := by
        have := q3.1
        rw [fup_eq, Nat.add_sub_cancel] at this
        exact this (by omega)
      cases hx : ffind (hl σ (fup p u (j + 1)) v) 30 0 with
      | none =>
        show (_ ∧ ∃ y x', (if (-2 : Int32) < 0 then _ else _) = _) ∨ ∃ c, _ ∧ (if (-2 : Int32) < 0 then _ else _) = _
        rw [if_pos (by decide), ffind_no (fun h => h.2.2.2.2 hx)]
        exact ih (j + 1) g (nI j) (by omega) (by omega)
      | some d =>
        have hd := (ffind_some 30 0 hx).2.2
        right
        refine ⟨j, ffind_yes ⟨cu, by omega, by omega, hmay, by rw [hx]; exact fun z => by cases z⟩, ?_⟩
        have e : sndC σ p u v j = d := by unfold sndC; rw [hx]; rfl
        rw [e]
        show (if nI d < 0 then _ else some (Sum.inr ((1 : Int32), ab_pi (ab_pi M 67 u (nI j)) 67 v (nI d)))) = _
        rw [if_neg (nI_pos (by omega))]
    · rw [if_neg hbit, if_pos rfl, ffind_no]
      · exact ih (j + 1) g x (by omega) (by omega)
      · intro h
        obtain ⟨-, -, h3, -, h5⟩ := h
        cases hx : ffind (hl σ (fup p u (j + 1)) v) 30 0 with
        | none => exact h5 hx
        | some d =>
          have h6 := (ffind_some 30 0 hx).1
          rw [hl_iff hv] at h6
          obtain ⟨y1, y2⟩ := (key j).mp h6.2.2.1
          exact hbit ((hB j (by omega)).mpr ⟨y1, by omega, y2⟩)
noncomputable def hresB (σ : Sg) (p : Nat → Nat) (M : ab_M) (u v : Nat) : Option Nat → Int32 × ab_M
  | none => (0, M)
  | some c => (1, ab_pi (ab_pi M 67 u (nI c)) 67 v (nI (sndC σ p u v c)))
theorem c_both {σ : Sg} {p : Nat → Nat} {M : ab_M} {u v : Nat} (hS : Sok σ) (hC : RepC σ M) (hp : Pok σ p) (hP : PlC σ p 67 M) (hu : u < g_nw σ) (hv : v < g_nw σ) (huv : u ≠ v) (cu : chg σ p u) (cv : chg σ p v) : mi_X5_changeBoth M 67 (nI u) (nI v) = some (hresB σ p M u v (ffind (h2 σ p u v) 30 0)) := by
  have hu16 := hS.w16 hu
  have hv16 := hS.w16 hv
  have hpu := hp u hu
  have hpv := hp v hv
  have e1 : (nI u).toNatClampNeg = u := nI_clamp (by omega)
  have e2 : (nI v).toNatClampNeg = v := nI_clamp (by omega)
  obtain ⟨a, ha⟩ : ∃ a, p u = a + 1 := ⟨p u - 1, by have := cu.1; omega⟩
  obtain ⟨b, hb⟩ : ∃ b, p v = b + 1 := ⟨p v - 1, by have := cv.1; omega⟩
  have m1 : M.1 67 u = nI a := by rw [hP u hu, ha, pv_s]
  have m2 : M.1 67 v = nI b := by rw [hP v hv, hb, pv_s]
  have hC1 : RepC σ (ab_pi (ab_pi M 67 u (-2)) 67 v (-2)) := (hC.p67 hS).p67 hS
  have hp1 : Pok σ (fup (fup p u 0) v 0) := (hp.up (by omega)).up (by omega)
  have hP1 : PlC σ (fup (fup p u 0) v 0) 67 (ab_pi (ab_pi M 67 u (-2)) 67 v (-2)) := (hP.up rfl).up rfl
  unfold mi_X5_changeBoth
  simp only [e1, e2, vin hu16, vin hv16, ab_chk_true]
  rw [c_isClean hS hC1 hp1 hP1, Option.bind_some, m1, m2, hC1.1.2.1]
  obtain ⟨B0, f1, f2⟩ := c_freeChannels (N := g_nw σ) hS hC1 hp1 hP1 hu (Nat.le_refl _)
  have hfree : ∃ B, ((if (if harm σ (fup (fup p u 0) v 0) = 0 then (1 : Int32) else 0) = 0 then some 0 else (mi_X2_freeChannels (ab_pi (ab_pi M 67 u (-2)) 67 v (-2)) 67 (nI u) (nI (g_nw σ))).bind fun q11 => some (q11 &&& (((1 : Int32) <<< (nI a &&& 31)) ^^^ (-1)))) : Option Int32) = some B ∧ ∀ i, i < 30 → (bt B i = true ↔ harm σ (fup (fup p u 0) v 0) = 0 ∧ i ≠ a ∧ okW σ (fup (fup (fup p u 0) v 0) u (i + 1)) (g_nw σ) u) := by
    by_cases h0 : harm σ (fup (fup p u 0) v 0) = 0
    · rw [if_pos h0, if_neg (by decide), f1, Option.bind_some]
      refine ⟨_, rfl, fun i hi => ?_⟩
      rw [b_and, b_not _ (by omega), b_one (by omega) (by omega), Bool.and_eq_true, f2 i (by omega)]
      simp only [Bool.not_eq_true', decide_eq_false_iff_not]
      constructor
      · rintro ⟨⟨x, y⟩, z⟩; exact ⟨h0, z, y⟩
      · rintro ⟨x, y, z⟩; exact ⟨⟨hi, z⟩, y⟩
    · rw [if_neg h0, if_pos rfl]
      refine ⟨0, rfl, fun i hi => ?_⟩
      rw [b_0]
      simp only [Bool.false_eq_true, false_iff]
      exact fun z => h0 z.1
  obtain ⟨B, g1, g2⟩ := hfree
  rw [g1, Option.bind_some, show (0 : Int32) = nI 0 from rfl]
  rcases c_both63 hS hC hp hP hu hv huv cu cv ha hb g2 30 0 ab_F (-2) (by omega) (by unfold ab_F; omega) with ⟨h1, y, x', h2⟩ | ⟨c, h1, h2⟩
  · rw [h2, h1]
    show some ((0 : Int32), ab_pi (ab_pi (ab_pi (ab_pi M 67 u x') 67 v (-2)) 67 u (nI a)) 67 v (nI b)) = some (0, M)
    rw [pi_comm (M := ab_pi M 67 u x') (Ne.symm huv), pi_pi, pi_pi, pi_id m1.symm, pi_id m2.symm]
  · rw [h2, h1]
    rfl
theorem c_two17 {σ : Sg} {p : Nat → Nat} {M : ab_M} (hS : Sok σ) (hC : RepC σ M) (hp : Pok σ p) (hP : PlC σ p 67 M) {u : Nat} (hu : u < g_nw σ) : ∀ (k j g : Nat), j + k = g_nw σ → u < j → k < g → (ftw σ p u k j = none ∧ ∃ y, mi_X5_changeTwo_17 g M 67 (nI u) (nI j) = some (.inl (y, M))) ∨ ∃ w c, ftw σ p u k j = some (w, c) ∧ mi_X5_changeTwo_17 g M 67 (nI u) (nI j) = some (.inr (1, ab_pi (ab_pi M 67 u (nI c)) 67 w (nI (sndC σ p u w c)))) := by
  have hnw := hS.nw
  intro k
  induction k with
  | zero =>
    intro j g hj huj hg
    obtain ⟨g, rfl⟩ : ∃ m, g = m + 1 := ⟨g - 1, by omega⟩
    obtain rfl : j = g_nw σ := by omega
    left
    rw [mi_X5_changeTwo_17.eq_2, hC.1.2.1, if_pos (Int32.le_refl _)]
    exact ⟨rfl, _, rfl⟩
  | succ k ih =>
    intro j g hj huj hg
    obtain ⟨g, rfl⟩ : ∃ m, g = m + 1 := ⟨g - 1, by omega⟩
    have hjw : j < g_nw σ := by omega
    have ih' := ih (j + 1) g (by omega) (by omega) (by omega)
    rw [mi_X5_changeTwo_17.eq_2, hC.1.2.1, if_neg (nI_ge hjw (by omega)), nI_1]
    rcases c_canChange hS hC.1 hu (hp u hu) (hP u hu) with ⟨q1, q2⟩ | ⟨q1, q2⟩
    · rw [q1, Option.bind_some, if_neg (by decide)]
      rcases c_canChange hS hC.1 hjw (hp j hjw) (hP j hjw) with ⟨q3, q4⟩ | ⟨q3, q4⟩
      · rw [q3, Option.bind_some, if_neg (by decide), c_both hS hC hp hP hu hjw (by omega) q2 q4, Option.bind_some]
        cases hx : ffind (h2 σ p u j) 30 0 with
        | none =>
          rw [ftw_no hx]
          exact ih'
        | some c =>
          rw [ftw_yes hx]
          exact Or.inr ⟨j, c, rfl, rfl⟩
      · rw [q3, Option.bind_some, if_pos rfl, ftw_no]
        · exact ih'
        · refine ffind_none 30 0 (fun i _ _ h => ?_)
          cases hx : ffind (hl σ (fup p u (i + 1)) j) 30 0 with
          | none => exact h.2.2.2.2 hx
          | some d =>
            have h6 := (ffind_some 30 0 hx).1.1
            unfold chg at h6
            rw [fup_ne (by omega)] at h6
            exact q4 h6
    · rw [q1, Option.bind_some, if_pos rfl, ftw_no]
      · exact ih'
      · exact ffind_none 30 0 (fun i _ _ h => q2 h.1)
theorem c_two2 {σ : Sg} {p : Nat → Nat} {M : ab_M} (hS : Sok σ) (hC : RepC σ M) (hp : Pok σ p) (hP : PlC σ p 67 M) : ∀ (k j g : Nat), j + k = g_nw σ → k < g → (ftt σ p k j = none ∧ ∃ y, mi_X5_changeTwo_2 g M 67 (nI j) = some (.inl (y, M))) ∨ ∃ v w c, ftt σ p k j = some (v, w, c) ∧ mi_X5_changeTwo_2 g M 67 (nI j) = some (.inr (1, ab_pi (ab_pi M 67 v (nI c)) 67 w (nI (sndC σ p v w c)))) := by
  have hnw := hS.nw
  intro k
  induction k with
  | zero =>
    intro j g hj hg
    obtain ⟨g, rfl⟩ : ∃ m, g = m + 1 := ⟨g - 1, by omega⟩
    obtain rfl : j = g_nw σ := by omega
    left
    rw [mi_X5_changeTwo_2.eq_2, hC.1.2.1, if_pos (Int32.le_refl _)]
    exact ⟨rfl, _, rfl⟩
  | succ k ih =>
    intro j g hj hg
    obtain ⟨g, rfl⟩ : ∃ m, g = m + 1 := ⟨g - 1, by omega⟩
    rw [mi_X5_changeTwo_2.eq_2, hC.1.2.1, if_neg (nI_ge (show j < g_nw σ by omega) (by omega)), nI_1]
    rcases c_two17 hS hC hp hP (show j < g_nw σ by omega) k (j + 1) ab_F (by omega) (by omega) (ab_F_lt (by omega)) with ⟨h1, y, h2⟩ | ⟨w, c, h1, h2⟩
    · rw [h2, ftt_no h1]
      exact ih (j + 1) g (by omega) (by omega)
    · rw [h2, ftt_yes h1]
      exact Or.inr ⟨j, w, c, rfl, rfl⟩
theorem c_two {σ : Sg} {p : Nat → Nat} {M : ab_M} (hS : Sok σ) (hC : RepC σ M) (hp : Pok σ p) (hP : PlC σ p 67 M) : mi_X5_changeTwo M 67 = some (hres3 σ p M 67 (ftt σ p (g_nw σ) 0)) := by
  have hnw := hS.nw
  unfold mi_X5_changeTwo
  rcases c_two2 hS hC hp hP (g_nw σ) 0 ab_F (by omega) (ab_F_lt (by omega)) with ⟨h1, y, h2⟩ | ⟨v, w, c, h1, h2⟩
  · rw [h1, show (0 : Int32) = nI 0 from rfl, h2]
    rfl
  · rw [h1, show (0 : Int32) = nI 0 from rfl, h2]
    rfl
