/-! PURE: move (printed by wip/whole/gen/land4.py) -/
def mvF (σ σ' : Sg) (m k : Nat) : Nat := if nI (bar σ m k) = nI (bar σ' m k) then 0 else 1
theorem Sok.pl {σ : Sg} (h : Sok σ) {m a b : Nat} (ha : a ≤ 60) (hb : b ≤ 60) : Sok (sgr (sgr σ 2 (fup (σ 2) m a)) 3 (fup (σ 3) m b)) := by
  obtain ⟨h1, h2, h3, h4, h5, h6, h7, h8, h9, hm, hs, hmo, hw, hr⟩ := h
  refine ⟨h1, h2, h3, h4, h5, h6, h7, h8, h9, fun m' hm' => ?_, hs, hmo, hw, hr⟩
  obtain ⟨q1, q2, q3, q4⟩ := hm m' hm'
  refine ⟨q1, ?_, ?_, q4⟩
  · show fup (σ 2) m a m' ≤ 60
    unfold fup
    split
    · exact ha
    · exact q2
  · show fup (σ 3) m b m' ≤ 60
    unfold fup
    split
    · exact hb
    · exact q3
theorem c_shift15 {σ σ' : Sg} {M : ab_M} {m : Nat} (hm : m < g_nm σ') (hnm : g_nm σ' ≤ 12) (hS' : Sok σ') (hB : RepB σ' M) (hold : ∀ k, k < g_nm σ' → M.1 10 (12 * m + k) = nI (bar σ m k)) : mi_X3_shift_15 ab_F M (nI m) 0 0 = some (nI (su (mvF σ σ' m) (g_nm σ') 0), nI (g_nm σ')) := by
  have h := lp_sum (fun n a x => mi_X3_shift_15 n M (nI m) a x) (g_nm σ') (mvF σ σ' m) (fun n j a hj => by
    have ix : nI m * 12 + nI j = nI (12 * m + j) := by rw [show nI m * 12 = nI (m * 12) from pk_mul m 12, nI_add, Nat.mul_comm]
    show mi_X3_shift_15 (n + 1) M (nI m) (nI a) (nI j) = _
    rw [mi_X3_shift_15.eq_2, hB.1, if_neg (Int32.not_le.mpr (nI_lt hj (by omega))), c_freshBar hS' hB hm hj]
    unfold mi_X3_barOf
    rw [ix, ab_chk_pos (vin (show 12 * m + j < 144 by omega)), nI_clamp (by omega), hold j hj, Option.bind_some, Option.bind_some, show nI j + 1 = nI (j + 1) from nI_add j 1]
    unfold mvF
    by_cases e : nI (bar σ m j) = nI (bar σ' m j)
    · rw [if_pos e, if_pos e, Option.bind_some]; rw [show (0 : Int32) = nI 0 from rfl, nI_add]
    · rw [if_neg e, if_neg e, Option.bind_some]; rw [show (1 : Int32) = nI 1 from rfl, nI_add]) (fun n a => by
    show mi_X3_shift_15 (n + 1) M (nI m) (nI a) (nI (g_nm σ')) = _
    rw [mi_X3_shift_15.eq_2, hB.1, if_pos (Int32.le_refl _)]) 0 0 (by omega) (by omega)
  rw [Nat.zero_add, Nat.sub_zero] at h
  exact h
theorem r_move24 {σ : Sg} {m : Nat} (hS : Sok σ) (hm : m < g_nm σ) (y : Int32) : ∀ (k j n : Nat) (M : ab_M), j + k = g_nm σ → k < n → RepR σ M → ∃ M', mi_X10_move_24 n M (nI m) y (nI j) = some (nI (g_nm σ), M') ∧ (∀ c i, c ≠ 84 → M'.1 c i = M.1 c i) ∧ M'.2 = M.2 ∧ (∀ i, i < j → M'.1 84 i = M.1 84 i) ∧ ∀ i, j ≤ i → i < g_nm σ → M'.1 84 i = nI (bar σ m i) := by
  have hnm := hS.nm
  intro k
  induction k with
  | zero =>
    intro j n M hj hn hM
    obtain ⟨n, rfl⟩ : ∃ m, n = m + 1 := ⟨n - 1, by omega⟩
    obtain rfl : j = g_nm σ := by omega
    rw [mi_X10_move_24.eq_2, hM.1, if_pos (Int32.le_refl _)]
    exact ⟨M, rfl, fun _ _ _ => rfl, rfl, fun _ _ => rfl, fun i a b => absurd b (by omega)⟩
  | succ k ih =>
    intro j n M hj hn hM
    obtain ⟨n, rfl⟩ : ∃ m, n = m + 1 := ⟨n - 1, by omega⟩
    rw [mi_X10_move_24.eq_2, hM.1, if_neg (Int32.not_le.mpr (nI_lt (show j < g_nm σ by omega) (by omega))), r_barOf hS hM hm (by omega), Option.bind_some, ab_chk_pos (vin (show j < 12 by omega)), nI_clamp (by omega), show nI j + 1 = nI (j + 1) from nI_add j 1]
    obtain ⟨M', g1, g2, g3, g4, g5⟩ := ih (j + 1) n (ab_pi M 84 j (nI (bar σ m j))) (by omega) (by omega) (hM.same hS (fun c i hc => by unfold fR at hc; exact pi_ne (by omega)))
    refine ⟨M', g1, fun c i hc => by rw [g2 c i hc, pi_ne (by omega)], g3, fun i hi => by rw [g4 i (by omega), pi_ne (by omega)], fun i a b => ?_⟩
    by_cases e : i = j
    · rw [e, g4 j (by omega), pi_eq]
    · exact g5 i (by omega) b
theorem r_move75 {σ σ' : Sg} {M : ab_M} {m : Nat} (hm : m < g_nm σ') (hS' : Sok σ') (hR : RepR σ' M) (hold : ∀ k, k < g_nm σ' → M.1 84 k = nI (bar σ m k)) : mi_X10_move_75 ab_F M (nI m) 0 0 = some (nI (su (mvF σ σ' m) (g_nm σ') 0), nI (g_nm σ')) := by
  have hnm := hS'.nm
  have h := lp_sum (fun n a x => mi_X10_move_75 n M (nI m) a x) (g_nm σ') (mvF σ σ' m) (fun n j a hj => by
    show mi_X10_move_75 (n + 1) M (nI m) (nI a) (nI j) = _
    rw [mi_X10_move_75.eq_2, hR.1, if_neg (Int32.not_le.mpr (nI_lt hj (by omega))), r_barOf hS' hR hm hj, Option.bind_some, ab_chk_pos (vin (show j < 12 by omega)), nI_clamp (by omega), hold j hj, show nI j + 1 = nI (j + 1) from nI_add j 1]
    unfold mvF
    by_cases e : nI (bar σ m j) = nI (bar σ' m j)
    · rw [if_pos e.symm, if_pos e, Option.bind_some]; rw [show (0 : Int32) = nI 0 from rfl, nI_add]
    · rw [if_neg (fun q => e q.symm), if_neg e, Option.bind_some]; rw [show (1 : Int32) = nI 1 from rfl, nI_add]) (fun n a => by
    show mi_X10_move_75 (n + 1) M (nI m) (nI a) (nI (g_nm σ')) = _
    rw [mi_X10_move_75.eq_2, hR.1, if_pos (Int32.le_refl _)]) 0 0 (by omega) (by omega)
  rw [Nat.zero_add, Nat.sub_zero] at h
  exact h
theorem o_move {σ : Sg} {p : Nat → Nat} {M : ab_M} (hI : InvS σ p M) (x y : Int32) : Ans (mi_X9_move M x y) (fun M => mi_X10_move M x y) := by
  have hT := hI.thr 0
  have hS := hI.1
  have hnm := hS.nm
  by_cases h1 : 0 ≤ x ∧ x < nI (g_nm σ)
  · rcases c_isPlace M y with ⟨p1, p2, p3⟩ | ⟨p1, p2, p3⟩
    · refine Ans.m1 hI (v := -1) ?_ ?_
      · unfold mi_X9_move
        rw [c_hasMast hI.2.2.1.1, b_if, if_pos h1, p1, Option.bind_some, if_pos rfl]
      · show mi_X10_move M x y = _
        unfold mi_X10_move
        rw [r_isMast hT.2.2.2.1, b_if, if_pos h1, isPlace_any _ M, p2, Option.bind_some, if_pos rfl]
    · obtain ⟨m, hm, rfl⟩ := ix_of (by omega) h1
      obtain ⟨a, b, ha, hb, rfl⟩ := p3
      obtain ⟨d1, d2⟩ := plc_div ha hb
      have hm12 := hS.m12 hm
      have hS' := hS.pl (m := m) ha hb
      have hB : RepB (sgr (sgr σ 2 (fup (σ 2) m a)) 3 (fup (σ 3) m b)) (ab_pi (ab_pi M (12 + m) 2 (nI a)) (12 + m) 3 (nI b)) := by
        have sc : ∀ c j, (c ≠ 12 + m ∨ (j ≠ 2 ∧ j ≠ 3)) → (ab_pi (ab_pi M (12 + m) 2 (nI a)) (12 + m) 3 (nI b)).1 c j = M.1 c j := fun c j a => by rw [pi_ne (by omega), pi_ne (by omega)]
        obtain ⟨c1, c2, c3, c4, c5, c6, c7, c8, c9, c10, c11, c12⟩ := hI.2.2.1.1
        refine ⟨?_, ?_, ?_, ?_, ?_, ?_, ?_, ?_, ?_, fun m' hm' => ?_, fun w' hw' => ?_, fun i' hi' => ?_⟩
        · rw [sc _ _ (by omega)]; exact c1
        · rw [sc _ _ (by omega)]; exact c2
        · rw [sc _ _ (by omega)]; exact c3
        · rw [sc _ _ (by omega)]; exact c4
        · rw [sc _ _ (by omega)]; exact c5
        · rw [sc _ _ (by omega)]; exact c6
        · rw [sc _ _ (by omega)]; exact c7
        · rw [sc _ _ (by omega)]; exact c8
        · rw [sc _ _ (by omega)]; exact c9
        · have hm1 := hS.m12 hm'
          obtain ⟨d0, d1, d2, d3, d4, d5, d6, d7, d8⟩ := c10 m' hm'
          refine ⟨?_, ?_, ?_, ?_, ?_, ?_, ?_, ?_, ?_⟩
          · rw [sc _ _ (by omega)]; exact d0
          · rw [sc _ _ (by omega)]; exact d1
          · show _ = nI (fup (σ 2) m a m')
            by_cases e : m' = m
            · rw [e, fup_eq, pi_ne (by omega), pi_eq]
            · rw [fup_ne e, sc _ _ (by omega)]; exact d2
          · show _ = nI (fup (σ 3) m b m')
            by_cases e : m' = m
            · rw [e, fup_eq, pi_eq]
            · rw [fup_ne e, sc _ _ (by omega)]; exact d3
          · rw [sc _ _ (by omega)]; exact d4
          · rw [sc _ _ (by omega)]; exact d5
          · rw [sc _ _ (by omega)]; exact d6
          · rw [sc _ _ (by omega)]; exact d7
          · rw [sc _ _ (by omega)]; exact d8
        · rw [sc _ _ (by omega), sc _ _ (by omega)]; exact c11 w' hw'
        · rw [sc _ _ (by omega), sc _ _ (by omega), sc _ _ (by omega)]; exact c12 i' hi'
      obtain ⟨M1, g1, g2, g3, g4⟩ := c_measure hS' hB
      have f1 : mi_X9_move M (nI m) (nI (64 * a + b)) = some (nI (su (mvF σ (sgr (sgr σ 2 (fup (σ 2) m a)) 3 (fup (σ 3) m b)) m) (g_nm σ) 0), M1) := by
        have c15 := c_shift15 (σ := σ) (σ' := (sgr (sgr σ 2 (fup (σ 2) m a)) 3 (fup (σ 3) m b))) (M := (ab_pi (ab_pi M (12 + m) 2 (nI a)) (12 + m) 3 (nI b))) (m := m) hm hnm hS' hB (fun k hk => by rw [pi_ne (by omega), pi_ne (by omega)]; exact hI.2.2.1.2.1 m k hm hk)
        unfold mi_X9_move mi_X3_shift mi_X4_goTo
        rw [c_hasMast hI.2.2.1.1, b_if, if_pos h1, p1, Option.bind_some, if_neg (show ¬ (1 : Int32) = 0 by decide), ab_chk_pos (vin hm12), nI_clamp (by omega), d1, d2, Option.bind_some, c15, Option.bind_some, g1, Option.bind_some, Option.bind_some]
        rfl
      have s1 : ∀ c j, (c ≠ 10 ∧ c ≠ 11) → (c ≠ 12 + m ∨ (j ≠ 2 ∧ j ≠ 3)) → (c ≠ 69 ∨ j ≠ 0) → (ab_pi M1 69 0 0).1 c j = M.1 c j := fun c j q r s => by rw [pi_ne (by omega), g2 c j q.1 q.2, pi_ne (by omega), pi_ne (by omega)]
      have hR1 : RepR σ (ab_pi M1 69 0 0) := hI.2.2.2.1.same hS (fun c j hc => by unfold fR at hc; exact s1 c j (by omega) (by omega) (by omega))
      obtain ⟨M2, l1, l2, l3, l4, l5⟩ := r_move24 hS hm (nI (64 * a + b)) (g_nm σ) 0 ab_F (ab_pi M1 69 0 0) (by omega) (ab_F_lt (by omega)) hR1
      have l1' : mi_X10_move_24 ab_F (ab_pi M1 69 0 0) (nI m) (nI (64 * a + b)) 0 = _ := l1
      have sc : ∀ c j, (c ≠ 10 ∧ c ≠ 11) → (c ≠ 12 + m ∨ (j ≠ 2 ∧ j ≠ 3)) → (c ≠ 69 ∨ j ≠ 0) → c ≠ 84 → ((c ≠ 71 ∧ c ≠ 72) ∨ j ≠ m) → (ab_pi (ab_pi M2 71 m (nI a)) 72 m (nI b)).1 c j = M.1 c j := fun c j q r s t u => by rw [pi_ne (by omega), pi_ne (by omega), l2 c j t, s1 c j q r s]
      have hR2 : RepR (sgr (sgr σ 2 (fup (σ 2) m a)) 3 (fup (σ 3) m b)) (ab_pi (ab_pi M2 71 m (nI a)) 72 m (nI b)) := by
        obtain ⟨c1, c2, c3, c4, c5, c6, c7, c8, c9, c10, c11, c12⟩ := hI.2.2.2.1
        refine ⟨?_, ?_, ?_, ?_, ?_, ?_, ?_, ?_, ?_, fun m' hm' => ?_, fun w' hw' => ?_, fun i' hi' => ?_⟩
        · rw [sc _ _ (by omega) (by omega) (by omega) (by omega) (by omega)]; exact c1
        · rw [sc _ _ (by omega) (by omega) (by omega) (by omega) (by omega)]; exact c2
        · rw [sc _ _ (by omega) (by omega) (by omega) (by omega) (by omega)]; exact c3
        · rw [sc _ _ (by omega) (by omega) (by omega) (by omega) (by omega)]; exact c4
        · rw [sc _ _ (by omega) (by omega) (by omega) (by omega) (by omega)]; exact c5
        · rw [sc _ _ (by omega) (by omega) (by omega) (by omega) (by omega)]; exact c6
        · rw [sc _ _ (by omega) (by omega) (by omega) (by omega) (by omega)]; exact c7
        · rw [sc _ _ (by omega) (by omega) (by omega) (by omega) (by omega)]; exact c8
        · rw [sc _ _ (by omega) (by omega) (by omega) (by omega) (by omega)]; exact c9
        · have hm1 := hS.m12 hm'
          obtain ⟨d0, d1, d2, d3, d4, d5, d6, d7⟩ := c10 m' hm'
          refine ⟨?_, ?_, ?_, ?_, ?_, ?_, ?_, ?_⟩
          · rw [sc _ _ (by omega) (by omega) (by omega) (by omega) (by omega)]; exact d0
          · show _ = nI (fup (σ 2) m a m')
            by_cases e : m' = m
            · rw [e, fup_eq, pi_ne (by omega), pi_eq]
            · rw [fup_ne e, sc _ _ (by omega) (by omega) (by omega) (by omega) (by omega)]; exact d1
          · show _ = nI (fup (σ 3) m b m')
            by_cases e : m' = m
            · rw [e, fup_eq, pi_eq]
            · rw [fup_ne e, sc _ _ (by omega) (by omega) (by omega) (by omega) (by omega)]; exact d2
          · rw [sc _ _ (by omega) (by omega) (by omega) (by omega) (by omega)]; exact d3
          · rw [sc _ _ (by omega) (by omega) (by omega) (by omega) (by omega)]; exact d4
          · rw [sc _ _ (by omega) (by omega) (by omega) (by omega) (by omega)]; exact d5
          · rw [sc _ _ (by omega) (by omega) (by omega) (by omega) (by omega)]; exact d6
          · rw [sc _ _ (by omega) (by omega) (by omega) (by omega) (by omega)]; exact d7
        · rw [sc _ _ (by omega) (by omega) (by omega) (by omega) (by omega), sc _ _ (by omega) (by omega) (by omega) (by omega) (by omega)]; exact c11 w' hw'
        · rw [sc _ _ (by omega) (by omega) (by omega) (by omega) (by omega), sc _ _ (by omega) (by omega) (by omega) (by omega) (by omega), sc _ _ (by omega) (by omega) (by omega) (by omega) (by omega)]; exact c12 i' hi'
      have f2 : mi_X10_move M1 (nI m) (nI (64 * a + b)) = some (nI (su (mvF σ (sgr (sgr σ 2 (fup (σ 2) m a)) 3 (fup (σ 3) m b)) m) (g_nm σ) 0), ab_pi (ab_pi M2 71 m (nI a)) 72 m (nI b)) := by
        have c75 := r_move75 (σ := σ) (σ' := (sgr (sgr σ 2 (fup (σ 2) m a)) 3 (fup (σ 3) m b))) (M := ab_pi (ab_pi M2 71 m (nI a)) 72 m (nI b)) (m := m) hm hS' hR2 (fun k hk => by rw [pi_ne (by omega), pi_ne (by omega)]; exact l5 k (by omega) hk)
        unfold mi_X10_move
        rw [r_isMast hR1, b_if, if_pos h1, isPlace_any _ M, p2, Option.bind_some, if_neg (show ¬ (1 : Int32) = 0 by decide), l1', Option.bind_some, ab_chk_pos (vin hm12), ab_chk_pos (vin hm12), nI_clamp (by omega), d1, d2, c75, Option.bind_some]
        rfl
      refine ⟨_, _, _, f1, f2, (sgr (sgr σ 2 (fup (σ 2) m a)) 3 (fup (σ 3) m b)), p, hI.land hS' rfl ?_ hR2 (fun c j hc => ?_) (fun w' _ => sc 4 w' (by omega) (by omega) (by omega) (by omega) (by omega)) (fun c j => congrFun (congrFun (l3.trans g3) c) j)⟩
      · exact g4.same hS' (fun c j hc => by unfold fC fB at hc; rw [pi_ne (by omega), pi_ne (by omega), l2 c j (by omega), pi_ne (by omega)])
      · unfold fI fS at hc
        exact sc c j (by omega) (by omega) (by omega) (by omega) (by omega)
  · refine Ans.m1 hI (v := -1) ?_ ?_
    · unfold mi_X9_move
      rw [c_hasMast hI.2.2.1.1, b_if, if_neg h1]
    · show mi_X10_move M x y = _
      unfold mi_X10_move
      rw [r_isMast hT.2.2.2.1, b_if, if_neg h1]
