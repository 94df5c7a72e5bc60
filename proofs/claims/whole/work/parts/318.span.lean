/-! PURE: span -/
def spF (σ : Sg) (p : Nat → Nat) (w : Nat) (s : Nat × Nat) : Nat × Nat := if p w = 0 then s else (min s.1 (p w - 1), max s.2 (p w + gapW σ w))
theorem nI_min {a b : Nat} (ha : a < 2 ^ 31) (hb : b < 2 ^ 31) : ab_min (nI a) (nI b) = nI (min a b) := by
  unfold ab_min
  by_cases h : b < a
  · rw [if_pos (nI_lt h ha), Nat.min_eq_right (by omega)]
  · rw [if_neg (Int32.not_lt.mpr (nI_le (by omega) hb)), Nat.min_eq_left (by omega)]
theorem pv_max {x y : Nat} (hx : x ≤ 1000) (hy : y ≤ 1000) : ab_max (pv x) (nI y) = pv (max x (y + 1)) := by
  unfold ab_max
  cases x with
  | zero =>
    rw [if_pos (Int32.lt_of_lt_of_le (show pv 0 < 0 by decide) (nI_pos' (by omega))), Nat.max_eq_right (by omega)]
    rfl
  | succ c =>
    rw [pv_s]
    by_cases h : c < y
    · rw [if_pos (nI_lt h (by omega)), Nat.max_eq_right (by omega)]
      rfl
    · rw [if_neg (Int32.not_lt.mpr (nI_le (by omega) (by omega))), Nat.max_eq_left (by omega)]
      rfl
theorem spF_ok {σ : Sg} (hS : Sok σ) {p : Nat → Nat} (hp : Pok σ p) {w : Nat} (hw : w < g_nw σ) {s : Nat × Nat} (h1 : s.1 ≤ 1000000) (h2 : s.2 ≤ 100) : (spF σ p w s).1 ≤ 1000000 ∧ (spF σ p w s).2 ≤ 100 := by
  have hg := gapW_le hS hw
  have hpw := hp w hw
  unfold spF
  split
  · exact ⟨h1, h2⟩
  · show min s.1 (p w - 1) ≤ 1000000 ∧ max s.2 (p w + gapW σ w) ≤ 100
    omega
theorem c_span8 {σ : Sg} {p : Nat → Nat} {M : ab_M} (hS : Sok σ) (hp : Pok σ p) (hB : RepB σ M) (hP : PlC σ p 67 M) : mi_X9_span_8 ab_F M 1000000 (-2) 0 = some (nI (fu (spF σ p) (g_nw σ) 0 (1000000, 0)).1, pv (fu (spF σ p) (g_nw σ) 0 (1000000, 0)).2, nI (g_nw σ)) := by
  have hnw := hS.nw
  have h := lp_up (fun n (s : Nat × Nat) x => mi_X9_span_8 n M (nI s.1) (pv s.2) x) (g_nw σ) (spF σ p) (fun s => some (nI s.1, pv s.2, nI (g_nw σ))) (fun _ s => s.1 ≤ 1000000 ∧ s.2 ≤ 100) (fun n j s hj hs => by
    have hw16 := hS.w16 hj
    have hg := gapW_le hS hj
    have hpw := hp j hj
    refine ⟨?_, spF_ok hS hp hj hs.1 hs.2⟩
    show mi_X9_span_8 (n + 1) M (nI s.1) (pv s.2) (nI j) = _
    rw [mi_X9_span_8.eq_2, hB.2.1, if_neg (Int32.not_le.mpr (nI_lt hj (by omega)))]
    simp only [nI_clamp (show j < 2 ^ 31 by omega), vin hw16, ab_chk_true]
    rw [hP j hj, show nI j + 1 = nI (j + 1) from nI_add j 1, c_gapOf hS hB hj, Option.bind_some]
    unfold spF
    by_cases h : p j = 0
    · rw [if_pos ((pv_neg (by omega)).mpr h), if_pos h, Option.bind_some]
    · rw [if_neg (fun q => h ((pv_neg (by omega)).mp q)), if_neg h, Option.bind_some]
      obtain ⟨c, hc⟩ : ∃ c, p j = c + 1 := ⟨p j - 1, by omega⟩
      rw [hc, pv_s, nI_min (by omega) (by omega), nI_add, pv_max (by omega) (by omega), Nat.add_sub_cancel, show c + gapW σ j + 1 = c + 1 + gapW σ j by omega]) (fun n s _ => by
    show mi_X9_span_8 (n + 1) M (nI s.1) (pv s.2) (nI (g_nw σ)) = _
    rw [mi_X9_span_8.eq_2, hB.2.1, if_pos (Int32.le_refl _)]) (g_nw σ) 0 (1000000, 0) ab_F (by omega) (ab_F_lt (by omega)) (by decide)
  exact h.1
def spG (x : Nat) (s : Nat × Nat) : Nat × Nat := (min s.1 x, max s.2 (x + 1))
theorem r_span24 {σ : Sg} {p : Nat → Nat} {M : ab_M} (hS : Sok σ) (hp : Pok σ p) (hR : RepR σ M) (hP : PlR σ p M) {w : Nat} (hw : w < g_nw σ) {s : Nat × Nat} (h1 : s.1 ≤ 1000000) (h2 : s.2 ≤ 100) : ∃ e, mi_X10_span_24 ab_F M (nI s.1) (nI s.2 - 1) (nI w) 0 = some (nI (spF σ p w s).1, nI (spF σ p w s).2 - 1, e) := by
  have hl2 : (pch σ p w).length ≤ 2 := by
    unfold pch chs
    by_cases h0 : p w = 0
    · rw [if_pos h0]; exact Nat.zero_le _
    · rw [if_neg h0]
      by_cases hk : g_kd σ (g_mo σ w) = 1
      · rw [if_pos hk]; exact Nat.le_refl _
      · rw [if_neg hk]; exact Nat.le_succ _
  have h := lp_up (fun n (s : Nat × Nat) x => mi_X10_span_24 n M (nI s.1) (nI s.2 - 1) (nI w) x) (pch σ p w).length (fun i s => spG ((pch σ p w).getD i 0) s) (fun s => some (nI s.1, nI s.2 - 1, nI (pch σ p w).length)) (fun _ s => s.1 ≤ 1000000 ∧ s.2 ≤ 100) (fun n j s hj hs => by
    have hx : (pch σ p w).getD j 0 ≤ 39 := pch_le hS hp hw (by rw [List.getD_eq_getElem?_getD, List.getElem?_eq_getElem hj]; exact List.getElem_mem hj)
    refine ⟨?_, by show min s.1 _ ≤ 1000000 ∧ max s.2 _ ≤ 100; omega⟩
    show mi_X10_span_24 (n + 1) M (nI s.1) (nI s.2 - 1) (nI w) (nI j) = _
    rw [mi_X10_span_24.eq_2, r_channelsOf hS hR hp hP hw, Option.bind_some, if_neg (Int32.not_le.mpr (nI_lt hj (by omega))), r_channelOf hS hR hp hP hw hj, Option.bind_some, show nI j + 1 = nI (j + 1) from nI_add j 1]
    generalize (pch σ p w).getD j 0 = x at hx
    unfold spG
    have a1 : (if nI s.1 ≤ nI x then some (nI s.1) else some (nI x)) = some (nI (min s.1 x)) := by
      by_cases h : s.1 ≤ x
      · rw [if_pos (nI_le h (by omega)), Nat.min_eq_left h]
      · rw [if_neg (Int32.not_le.mpr (nI_lt (by omega) (by omega))), Nat.min_eq_right (by omega)]
    have a2 : (if nI x ≤ nI s.2 - 1 then some (nI s.2 - 1) else some (nI x)) = some (nI (max s.2 (x + 1)) - 1) := by
      by_cases h : s.2 < x + 1
      · rw [if_neg (Int32.not_le.mpr ((nI_m1_lt (by omega) (by omega)).mpr h)), Nat.max_eq_right (by omega), nI_m1 (by omega)]
        rfl
      · rw [if_pos (Int32.not_lt.mp (fun q => h ((nI_m1_lt (by omega) (by omega)).mp q))), Nat.max_eq_left (by omega)]
    rw [a1, a2, Option.bind_some, Option.bind_some]) (fun n s _ => by
    show mi_X10_span_24 (n + 1) M (nI s.1) (nI s.2 - 1) (nI w) (nI (pch σ p w).length) = _
    rw [mi_X10_span_24.eq_2, r_channelsOf hS hR hp hP hw, Option.bind_some, if_pos (Int32.le_refl _)]) (pch σ p w).length 0 s ab_F (by omega) (ab_F_lt (by omega)) ⟨h1, h2⟩
  have hF : fu (fun i s => spG ((pch σ p w).getD i 0) s) (pch σ p w).length 0 s = spF σ p w s := by
    have hgp := (hS.mast (hS.mo hw)).2.2.2.2.2.2.2.2
    unfold pch chs spF gapW
    by_cases h0 : p w = 0
    · rw [if_pos h0, if_pos h0]; rfl
    · rw [if_neg h0, if_neg h0]
      by_cases hk : g_kd σ (g_mo σ w) = 1
      · rw [if_pos hk, if_pos hk]
        show (min (min s.1 (p w - 1)) (p w - 1 + g_gp σ (g_mo σ w)), max (max s.2 (p w - 1 + 1)) (p w - 1 + g_gp σ (g_mo σ w) + 1)) = _
        exact Prod.ext (by show min _ _ = min _ _; omega) (by show max _ _ = max _ _; omega)
      · rw [if_neg hk, if_neg hk]
        show (min s.1 (p w - 1), max s.2 (p w - 1 + 1)) = _
        exact Prod.ext rfl (by show max _ _ = max _ _; omega)
  have h3 := h.1
  rw [hF] at h3
  exact ⟨_, h3⟩
theorem r_span13 {σ : Sg} {p : Nat → Nat} {M : ab_M} (hS : Sok σ) (hp : Pok σ p) (hR : RepR σ M) (hP : PlR σ p M) : mi_X10_span_13 ab_F M 1000 (-1) 0 = some (nI (fu (spF σ p) (g_nw σ) 0 (1000, 0)).1, nI (fu (spF σ p) (g_nw σ) 0 (1000, 0)).2 - 1, nI (g_nw σ)) := by
  have hnw := hS.nw
  have h := lp_up (fun n (s : Nat × Nat) x => mi_X10_span_13 n M (nI s.1) (nI s.2 - 1) x) (g_nw σ) (spF σ p) (fun s => some (nI s.1, nI s.2 - 1, nI (g_nw σ))) (fun _ s => s.1 ≤ 1000000 ∧ s.2 ≤ 100) (fun n j s hj hs => by
    refine ⟨?_, spF_ok hS hp hj hs.1 hs.2⟩
    show mi_X10_span_13 (n + 1) M (nI s.1) (nI s.2 - 1) (nI j) = _
    obtain ⟨e, he⟩ := r_span24 hS hp hR hP hj hs.1 hs.2
    rw [mi_X10_span_13.eq_2, hR.2.1, if_neg (Int32.not_le.mpr (nI_lt hj (by omega))), he, Option.bind_some, show nI j + 1 = nI (j + 1) from nI_add j 1]) (fun n s _ => by
    show mi_X10_span_13 (n + 1) M (nI s.1) (nI s.2 - 1) (nI (g_nw σ)) = _
    rw [mi_X10_span_13.eq_2, hR.2.1, if_pos (Int32.le_refl _)]) (g_nw σ) 0 (1000, 0) ab_F (by omega) (ab_F_lt (by omega)) (by decide)
  exact h.1
theorem sp_both {σ : Sg} {p : Nat → Nat} (hp : Pok σ p) : ∀ (k j : Nat) (s t : Nat × Nat), j + k ≤ g_nw σ → s.2 = t.2 → (s = t ∧ s.2 ≠ 0 ∨ s.2 = 0 ∧ s.1 = 1000000 ∧ t.1 = 1000) → (fu (spF σ p) k j s = fu (spF σ p) k j t ∧ (fu (spF σ p) k j s).2 ≠ 0 ∨ (fu (spF σ p) k j s).2 = 0 ∧ (fu (spF σ p) k j t).2 = 0) := by
  intro k
  induction k with
  | zero =>
    intro j s t _ h2 h
    rcases h with h | h
    · exact Or.inl h
    · exact Or.inr ⟨h.1, by show t.2 = 0; rw [← h2]; exact h.1⟩
  | succ k ih =>
    intro j s t hj h2 h
    have hpw := hp j (by omega)
    refine ih (j + 1) (spF σ p j s) (spF σ p j t) (by omega) ?_ ?_
    · unfold spF
      split
      · exact h2
      · show max s.2 _ = max t.2 _; rw [h2]
    · unfold spF
      by_cases h0 : p j = 0
      · rw [if_pos h0, if_pos h0]; exact h
      · rw [if_neg h0, if_neg h0]
        left
        refine ⟨Prod.ext ?_ ?_, ?_⟩
        · show min s.1 _ = min t.1 _
          rcases h with h | h
          · rw [h.1]
          · omega
        · show max s.2 _ = max t.2 _; rw [h2]
        · show max s.2 _ ≠ 0
          omega
theorem o_span {σ : Sg} {p : Nat → Nat} {M : ab_M} (hI : InvS σ p M) : AnsR M (mi_X9_span M) (mi_X10_span M) := by
  have hT := hI.thr 0
  have hS := hI.1
  unfold mi_X9_span mi_X10_span
  rw [c_span8 hS hI.2.1 hI.2.2.1.1 hI.2.2.2.2.1, r_span13 hS hI.2.1 hT.2.2.2.1 hT.2.2.2.2.2.1, Option.bind_some, Option.bind_some]
  rcases sp_both hI.2.1 (g_nw σ) 0 (1000000, 0) (1000, 0) (by omega) rfl (Or.inr ⟨rfl, rfl, rfl⟩) with ⟨h1, h2⟩ | ⟨h1, h2⟩
  · rw [← h1]
    obtain ⟨c, hc⟩ : ∃ c, (fu (spF σ p) (g_nw σ) 0 (1000000, 0)).2 = c + 1 := ⟨_ - 1, (Nat.succ_pred_eq_of_ne_zero h2).symm⟩
    rw [hc, pv_s, nI_m1 (by omega), Nat.add_sub_cancel]
    by_cases h : 0 ≤ nI c
    · rw [if_pos h, if_pos h]
      exact AnsR.mk' hI rfl rfl
    · rw [if_neg h, if_neg h]
      exact AnsR.mk' hI rfl rfl
  · rw [h1, h2]
    exact AnsR.mk' hI rfl rfl
