/-! PURE: turn, move (printed by wip/whole/gen/land3.py) -/
def trF (σ σ' : Sg) (p : Nat → Nat) (w : Nat) : Nat := if strP σ' p w = 1 ∧ ¬ strP σ p w = 1 then 1 else 0
theorem sw_id (M : ab_M) : ab_pi (ab_pi (ab_pi (ab_pi M 69 22 (M.1 69 23)) 69 23 (M.1 69 22)) 69 23 ((ab_pi (ab_pi M 69 22 (M.1 69 23)) 69 23 (M.1 69 22)).1 69 22)) 69 22 (M.1 69 22) = M := by
  refine Prod.ext (funext fun c => funext fun j => ?_) rfl
  by_cases h1 : c = 69 ∧ j = 22
  · rw [h1.1, h1.2, pi_eq]
  · rw [pi_ne h1]
    by_cases h2 : c = 69 ∧ j = 23
    · rw [h2.1, h2.2, pi_eq]
      rfl
    · rw [pi_ne h2, pi_ne h2, pi_ne h1]
theorem r_turn9 {σ : Sg} {p : Nat → Nat} {M : ab_M} (hS : Sok σ) (hS' : Sok (sgr σ 0 (fun i => if i = 7 then σ 0 8 else if i = 8 then σ 0 7 else σ 0 i))) (hp : Pok σ p) (hR : RepR σ M) (hR' : RepR (sgr σ 0 (fun i => if i = 7 then σ 0 8 else if i = 8 then σ 0 7 else σ 0 i)) (ab_pi (ab_pi M 69 22 (M.1 69 23)) 69 23 (M.1 69 22))) (hP : PlR σ p M) : mi_X10_turn_9 ab_F M 0 0 = some (nI (su (trF σ (sgr σ 0 (fun i => if i = 7 then σ 0 8 else if i = 8 then σ 0 7 else σ 0 i)) p) (g_nw σ) 0), nI (g_nw σ), M) := by
  have hnw := hS.nw
  have h := lp_up (fun n (a : Nat) x => mi_X10_turn_9 n M (nI a) x) (g_nw σ) (fun i a => a + trF σ (sgr σ 0 (fun i => if i = 7 then σ 0 8 else if i = 8 then σ 0 7 else σ 0 i)) p i) (fun a => some (nI a, nI (g_nw σ), M)) (fun _ _ => True) (fun n j a hj _ => by
    refine ⟨?_, trivial⟩
    have hw16 := hS.w16 hj
    have hpj := hp j hj
    show mi_X10_turn_9 (n + 1) M (nI a) (nI j) = _
    rw [mi_X10_turn_9.eq_2, hR.2.1, if_neg (Int32.not_le.mpr (nI_lt hj (by omega))), sw_id, show nI j + 1 = nI (j + 1) from nI_add j 1]
    simp only [nI_clamp (show j < 2 ^ 31 by omega), vin hw16, ab_chk_true]
    rw [show (ab_pi (ab_pi M 69 22 (M.1 69 23)) 69 23 (M.1 69 22)).1 80 j = M.1 80 j from rfl, hP j hj]
    unfold trF strP
    by_cases h0 : p j = 0
    · rw [if_pos ((pv_neg (by omega)).mpr h0), Option.bind_some, if_pos rfl, Option.bind_some, if_neg (show ¬ ((if p j ≠ 0 ∧ ¬ may (sgr σ 0 (fun i => if i = 7 then σ 0 8 else if i = 8 then σ 0 7 else σ 0 i)) j (p j - 1) then 1 else 0) = 1 ∧ _) from fun q => by rw [if_neg (fun z => z.1 h0)] at q; exact absurd q.1 (by decide))]
      show mi_X10_turn_9 n M (nI a + nI 0) _ = _
      rw [nI_add]
    · rw [if_neg (fun q => h0 ((pv_neg (by omega)).mp q))]
      obtain ⟨c, hc⟩ : ∃ c, p j = c + 1 := ⟨p j - 1, by omega⟩
      obtain ⟨z, e1, e2, e3⟩ := r_mayHave hS hR hj (show c < 30 by omega)
      obtain ⟨y, d1, d2, d3⟩ := r_mayHave hS' hR' hj (show c < 30 by omega)
      rw [hc, pv_s, e1, d1, Option.bind_some, Option.bind_some, Nat.add_sub_cancel]
      by_cases hm : may σ j c
      · rw [if_neg (fun q => e3.mp q hm), Option.bind_some, if_neg (show ¬ (1 : Int32) = 0 by decide)]
        by_cases hm' : may (sgr σ 0 (fun i => if i = 7 then σ 0 8 else if i = 8 then σ 0 7 else σ 0 i)) j c
        · rw [if_neg (fun q => d3.mp q hm'), Option.bind_some, if_neg (show ¬ ((if c + 1 ≠ 0 ∧ ¬ may (sgr σ 0 (fun i => if i = 7 then σ 0 8 else if i = 8 then σ 0 7 else σ 0 i)) j c then 1 else 0) = 1 ∧ _) from fun q => by rw [if_neg (fun z => z.2 hm')] at q; exact absurd q.1 (by decide))]
          show mi_X10_turn_9 n M (nI a + nI 0) _ = _
          rw [nI_add]
        · rw [if_pos (d3.mpr hm'), Option.bind_some, if_pos (show (if c + 1 ≠ 0 ∧ ¬ may (sgr σ 0 (fun i => if i = 7 then σ 0 8 else if i = 8 then σ 0 7 else σ 0 i)) j c then 1 else 0) = 1 ∧ ¬ (if c + 1 ≠ 0 ∧ ¬ may σ j c then 1 else 0) = 1 from ⟨if_pos ⟨Nat.succ_ne_zero c, hm'⟩, by rw [if_neg (fun z => z.2 hm)]; decide⟩)]
          show mi_X10_turn_9 n M (nI a + nI 1) _ = _
          rw [nI_add]
      · rw [if_pos (e3.mpr hm), Option.bind_some, if_pos rfl, Option.bind_some, if_neg (show ¬ (_ ∧ ¬ (if c + 1 ≠ 0 ∧ ¬ may σ j c then 1 else 0) = 1) from fun q => q.2 (if_pos ⟨Nat.succ_ne_zero c, hm⟩))]
        show mi_X10_turn_9 n M (nI a + nI 0) _ = _
        rw [nI_add]) (fun n a _ => by
    show mi_X10_turn_9 (n + 1) M (nI a) (nI (g_nw σ)) = _
    rw [mi_X10_turn_9.eq_2, hR.2.1, if_pos (Int32.le_refl _)]) (g_nw σ) 0 0 ab_F (by omega) (ab_F_lt (by omega)) trivial
  have h1 := h.1
  rw [fu_su, Nat.zero_add] at h1
  exact h1
theorem o_turn {σ : Sg} {p : Nat → Nat} {M : ab_M} (hI : InvS σ p M) : Ans (mi_X9_turn M) (fun M => mi_X10_turn M) := by
  have hS := hI.1
  have hnw := hS.nw
  have hS' : Sok (sgr σ 0 (fun i => if i = 7 then σ 0 8 else if i = 8 then σ 0 7 else σ 0 i)) := by
    obtain ⟨h1, h2, h3, h4, h5, h6, h7, h8, h9, hr⟩ := hS
    exact ⟨h1, h2, h3, h4, h5, h6, h7, h9, h8, hr⟩
  have hB1 : RepB (sgr σ 0 (fun i => if i = 7 then σ 0 8 else if i = 8 then σ 0 7 else σ 0 i)) (ab_pi (ab_pi M 9 2 (M.1 9 3)) 9 3 (M.1 9 2)) := by
    have sc : ∀ c j, (c ≠ 9 ∨ (j ≠ 2 ∧ j ≠ 3)) → (ab_pi (ab_pi M 9 2 (M.1 9 3)) 9 3 (M.1 9 2)).1 c j = M.1 c j := fun c j a => by rw [pi_ne (by omega), pi_ne (by omega)]
    obtain ⟨c1, c2, c3, c4, c5, c6, c7, c8, c9, c10, c11, c12⟩ := hI.2.2.1.1
    refine ⟨?_, ?_, ?_, ?_, ?_, ?_, ?_, ?_, ?_, fun m' hm' => ?_, fun w' hw' => ?_, fun i' hi' => ?_⟩
    · rw [sc _ _ (by omega)]; exact c1
    · rw [sc _ _ (by omega)]; exact c2
    · rw [sc _ _ (by omega)]; exact c3
    · rw [sc _ _ (by omega)]; exact c4
    · rw [sc _ _ (by omega)]; exact c5
    · rw [sc _ _ (by omega)]; exact c6
    · rw [sc _ _ (by omega)]; exact c7
    · exact c9
    · exact c8
    · have hm1 := hS.m12 hm'
      obtain ⟨d0, d1, d2, d3, d4, d5, d6, d7, d8⟩ := c10 m' hm'
      refine ⟨?_, ?_, ?_, ?_, ?_, ?_, ?_, ?_, ?_⟩
      · rw [sc _ _ (by omega)]; exact d0
      · rw [sc _ _ (by omega)]; exact d1
      · rw [sc _ _ (by omega)]; exact d2
      · rw [sc _ _ (by omega)]; exact d3
      · rw [sc _ _ (by omega)]; exact d4
      · rw [sc _ _ (by omega)]; exact d5
      · rw [sc _ _ (by omega)]; exact d6
      · rw [sc _ _ (by omega)]; exact d7
      · rw [sc _ _ (by omega)]; exact d8
    · rw [sc _ _ (by omega), sc _ _ (by omega)]; exact c11 w' hw'
    · rw [sc _ _ (by omega), sc _ _ (by omega), sc _ _ (by omega)]; exact c12 i' hi'
  obtain ⟨B1, e1, e2⟩ := c_strayBits hS hI.2.2.1.1 hI.2.1 hI.2.2.2.2.1
  obtain ⟨B2, e3, e4⟩ := c_strayBits (p := p) (t := 67) hS' hB1 hI.2.1 hI.2.2.2.2.1
  have f1 : mi_X9_turn M = some (nI (su (trF σ (sgr σ 0 (fun i => if i = 7 then σ 0 8 else if i = 8 then σ 0 7 else σ 0 i)) p) (g_nw σ) 0), (ab_pi (ab_pi M 9 2 (M.1 9 3)) 9 3 (M.1 9 2))) := by
    unfold mi_X9_turn mi_X1_swap
    rw [e1, Option.bind_some, Option.bind_some, e3, Option.bind_some, j_bitCount, Option.bind_some, cnt_bits (N := g_nw σ) (f := trF σ (sgr σ 0 (fun i => if i = 7 then σ 0 8 else if i = 8 then σ 0 7 else σ 0 i)) p) (by omega) (fun i => by unfold trF; split <;> simp) (fun i hi => by
      have q4 : bt B2 i = true ↔ i < g_nw σ ∧ strP (sgr σ 0 (fun i => if i = 7 then σ 0 8 else if i = 8 then σ 0 7 else σ 0 i)) p i = 1 := e4 i hi
      rw [b_and, b_not _ hi, Bool.and_eq_true, q4, Bool.not_eq_true', ← Bool.not_eq_true, e2 i hi]
      unfold trF
      constructor
      · rintro ⟨⟨h1, h2⟩, h3⟩
        exact ⟨h1, if_pos ⟨h2, fun q => h3 ⟨h1, q⟩⟩⟩
      · rintro ⟨h1, h2⟩
        by_cases q : strP (sgr σ 0 (fun i => if i = 7 then σ 0 8 else if i = 8 then σ 0 7 else σ 0 i)) p i = 1 ∧ ¬ strP σ p i = 1
        · exact ⟨⟨h1, q.1⟩, fun z => q.2 z.2⟩
        · rw [if_neg q] at h2; exact absurd h2 (by decide))]
  have s0 : ∀ c j, (c ≠ 9 ∨ (j ≠ 2 ∧ j ≠ 3)) → (c ≠ 69 ∨ j ≠ 0) → (ab_pi (ab_pi (ab_pi M 9 2 (M.1 9 3)) 9 3 (M.1 9 2)) 69 0 0).1 c j = M.1 c j := fun c j a b => by rw [pi_ne (by omega), pi_ne (by omega), pi_ne (by omega)]
  have hR0 : RepR σ (ab_pi (ab_pi (ab_pi M 9 2 (M.1 9 3)) 9 3 (M.1 9 2)) 69 0 0) := hI.2.2.2.1.same hS (fun c j hc => by unfold fR at hc; exact s0 c j (by omega) (by omega))
  have a22 : (ab_pi (ab_pi (ab_pi M 9 2 (M.1 9 3)) 9 3 (M.1 9 2)) 69 0 0).1 69 22 = nI (g_fs σ) := hR0.2.2.2.2.2.2.2.1
  have a23 : (ab_pi (ab_pi (ab_pi M 9 2 (M.1 9 3)) 9 3 (M.1 9 2)) 69 0 0).1 69 23 = nI (g_ss σ) := hR0.2.2.2.2.2.2.2.2.1
  have sc : ∀ c j, (c ≠ 9 ∨ (j ≠ 2 ∧ j ≠ 3)) → (c ≠ 69 ∨ (j ≠ 0 ∧ j ≠ 22 ∧ j ≠ 23)) → (ab_pi (ab_pi (ab_pi (ab_pi (ab_pi M 9 2 (M.1 9 3)) 9 3 (M.1 9 2)) 69 0 0) 69 22 (nI (g_ss σ))) 69 23 (nI (g_fs σ))).1 c j = M.1 c j := fun c j a b => by rw [pi_ne (by omega), pi_ne (by omega), s0 c j a (by omega)]
  have hR2 : RepR (sgr σ 0 (fun i => if i = 7 then σ 0 8 else if i = 8 then σ 0 7 else σ 0 i)) (ab_pi (ab_pi (ab_pi (ab_pi (ab_pi M 9 2 (M.1 9 3)) 9 3 (M.1 9 2)) 69 0 0) 69 22 (nI (g_ss σ))) 69 23 (nI (g_fs σ))) := by
    obtain ⟨c1, c2, c3, c4, c5, c6, c7, c8, c9, c10, c11, c12⟩ := hI.2.2.2.1
    refine ⟨?_, ?_, ?_, ?_, ?_, ?_, ?_, ?_, ?_, fun m' hm' => ?_, fun w' hw' => ?_, fun i' hi' => ?_⟩
    · rw [sc _ _ (by omega) (by omega)]; exact c1
    · rw [sc _ _ (by omega) (by omega)]; exact c2
    · rw [sc _ _ (by omega) (by omega)]; exact c3
    · rw [sc _ _ (by omega) (by omega)]; exact c4
    · rw [sc _ _ (by omega) (by omega)]; exact c5
    · rw [sc _ _ (by omega) (by omega)]; exact c6
    · rw [sc _ _ (by omega) (by omega)]; exact c7
    · exact rfl
    · exact rfl
    · have hm1 := hS.m12 hm'
      obtain ⟨d0, d1, d2, d3, d4, d5, d6, d7⟩ := c10 m' hm'
      refine ⟨?_, ?_, ?_, ?_, ?_, ?_, ?_, ?_⟩
      · rw [sc _ _ (by omega) (by omega)]; exact d0
      · rw [sc _ _ (by omega) (by omega)]; exact d1
      · rw [sc _ _ (by omega) (by omega)]; exact d2
      · rw [sc _ _ (by omega) (by omega)]; exact d3
      · rw [sc _ _ (by omega) (by omega)]; exact d4
      · rw [sc _ _ (by omega) (by omega)]; exact d5
      · rw [sc _ _ (by omega) (by omega)]; exact d6
      · rw [sc _ _ (by omega) (by omega)]; exact d7
    · rw [sc _ _ (by omega) (by omega), sc _ _ (by omega) (by omega)]; exact c11 w' hw'
    · rw [sc _ _ (by omega) (by omega), sc _ _ (by omega) (by omega), sc _ _ (by omega) (by omega)]; exact c12 i' hi'
  have f2 : mi_X10_turn (ab_pi (ab_pi M 9 2 (M.1 9 3)) 9 3 (M.1 9 2)) = some (nI (su (trF σ (sgr σ 0 (fun i => if i = 7 then σ 0 8 else if i = 8 then σ 0 7 else σ 0 i)) p) (g_nw σ) 0), ab_pi (ab_pi (ab_pi (ab_pi (ab_pi M 9 2 (M.1 9 3)) 9 3 (M.1 9 2)) 69 0 0) 69 22 (nI (g_ss σ))) 69 23 (nI (g_fs σ))) := by
    unfold mi_X10_turn
    rw [r_turn9 hS hS' hI.2.1 hR0 (by rw [a22, a23]; exact hR2) (hI.2.2.2.2.2.1.same (fun j => s0 80 j (by omega) (by omega))), Option.bind_some, a22, a23]
  refine ⟨_, _, _, f1, f2, (sgr σ 0 (fun i => if i = 7 then σ 0 8 else if i = 8 then σ 0 7 else σ 0 i)), p, hI.land hS' rfl ?_ hR2 (fun c j hc => ?_) (fun w' _ => sc 4 w' (by omega) (by omega)) (fun _ _ => rfl)⟩
  · refine ⟨hB1.same hS' (fun c j hc => by unfold fB at hc; rw [pi_ne (by omega), pi_ne (by omega), pi_ne (by omega)]), fun a b ha hb => ?_, fun a ha i hi => ?_⟩
    · rw [sc _ _ (by omega) (by omega)]; exact hI.2.2.1.2.1 a b ha hb
    · rw [sc _ _ (by omega) (by omega)]; exact hI.2.2.1.2.2 a ha i hi
  · unfold fI fS at hc
    exact sc c j (by omega) (by omega)
