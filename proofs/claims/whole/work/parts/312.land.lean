/-! PURE: the questions that tell the land: list, gap, stay -/
theorem InvS.land {σ σ' : Sg} {p : Nat → Nat} {M M' : ab_M} (hI : InvS σ p M) (hS : Sok σ') (hw : g_nw σ' = g_nw σ) (hC : RepC σ' M') (hR : RepR σ' M') (hf : ∀ c j, (c = 67 ∨ c = 80 ∨ fI c j ∨ (c = 26 ∧ j = 5) ∨ (c = 69 ∧ j = 25) ∨ fS c) → M'.1 c j = M.1 c j) (h4 : ∀ w, g_nw σ ≤ w → M'.1 4 w = M.1 4 w) (h2 : ∀ c j, M'.2 c j = M.2 c j) : InvS σ' p M' := by
  obtain ⟨a1, a2, a3, a4, a5, a6, a7, a8, a9, a10⟩ := hI
  have q67 : ∀ j, M'.1 67 j = M.1 67 j := fun j => hf 67 j (Or.inl rfl)
  have q80 : ∀ j, M'.1 80 j = M.1 80 j := fun j => hf 80 j (Or.inr (Or.inl rfl))
  have i0 : Img σ M' := a8.same (fun c j hc => hf c j (Or.inr (Or.inr (Or.inl hc))))
  refine ⟨hS, fun w hw' => a2 w (by omega), hC, hR, fun w hw' => by rw [q67]; exact a5 w (by omega), fun w hw' => by rw [q80]; exact a6 w (by omega), fun w h1 h2 => by rw [q67, h4 w (by omega)]; exact a7 w (by omega) h2, ?_, a9.same (hf 26 5 (by omega)) (hf 69 25 (by omega)), a10.same (fun c j hc => hf c j (Or.inr (Or.inr (Or.inr (Or.inr (Or.inr hc)))))) (fun c j _ => h2 c j)⟩
  unfold Img at i0 ⊢
  rw [hw]
  exact i0
theorem Sok.ls {σ : Sg} (h : Sok σ) (f : Nat → Nat) (hf : ∀ m, m < g_nm σ → f m < 1073741824) : Sok (sgr σ 7 f) := by
  obtain ⟨h1, h2, h3, h4, h5, h6, h7, h8, h9, hm, hs, hmo, hw, hr⟩ := h
  refine ⟨h1, h2, h3, h4, h5, h6, h7, h8, h9, fun m hm' => ?_, hs, hmo, hw, hr⟩
  obtain ⟨q1, q2, q3, q4, q5, q6, q7, q8, q9, q10⟩ := hm m hm'
  exact ⟨q1, q2, q3, q4, q5, q6, q7, hf m hm', q9, q10⟩
theorem Sok.gp {σ : Sg} (h : Sok σ) (f : Nat → Nat) (hf : ∀ m, m < g_nm σ → 1 ≤ f m ∧ f m ≤ 10) : Sok (sgr σ 8 f) := by
  obtain ⟨h1, h2, h3, h4, h5, h6, h7, h8, h9, hm, hs, hmo, hw, hr⟩ := h
  refine ⟨h1, h2, h3, h4, h5, h6, h7, h8, h9, fun m hm' => ?_, hs, hmo, hw, hr⟩
  obtain ⟨q1, q2, q3, q4, q5, q6, q7, q8, q9, q10⟩ := hm m hm'
  exact ⟨q1, q2, q3, q4, q5, q6, q7, q8, hf m hm'⟩
theorem Sok.sy {σ : Sg} (h : Sok σ) (f : Nat → Nat) (hf : ∀ w, w < g_nw σ → f w ≤ 30) : Sok (sgr σ 10 f) := by
  obtain ⟨h1, h2, h3, h4, h5, h6, h7, h8, h9, hm, hs, hmo, hw, hr⟩ := h
  refine ⟨h1, h2, h3, h4, h5, h6, h7, h8, h9, hm, hs, hmo, fun w hw' => ?_, hr⟩
  obtain ⟨q1, q2, q3, q4⟩ := hw w hw'
  exact ⟨q1, q2, q3, hf w hw'⟩
/-- the answer of an op: both say v, and what is kept is kept -/
def Ans (f : Option (Int32 × ab_M)) (g : ab_M → Option (Int32 × ab_M)) : Prop := ∃ v M1 M2, f = some (v, M1) ∧ g M1 = some (v, M2) ∧ Inv M2
def AnsR (M : ab_M) (f : Option Int32) (g : Option (Int32 × ab_M)) : Prop := ∃ v M2, f = some v ∧ g = some (v, M2) ∧ Inv M2
theorem Ans.m1 {f : Option (Int32 × ab_M)} {g : ab_M → Option (Int32 × ab_M)} {σ : Sg} {p : Nat → Nat} {M : ab_M} {v : Int32} (hI : InvS σ p M) (hf : f = some (v, M)) (hg : g M = some (v, ab_pi M 69 0 0)) : Ans f g := ⟨v, M, ab_pi M 69 0 0, hf, hg, σ, p, hI.thr 0⟩
theorem o_list {σ : Sg} {p : Nat → Nat} {M : ab_M} (hI : InvS σ p M) (x y : Int32) : Ans (mi_X9_list M x y) (fun M => mi_X10_list M x y) := by
  have hT := hI.thr 0
  have hS := hI.1
  have hnm := hS.nm
  by_cases h1 : 0 ≤ x ∧ x < nI (g_nm σ)
  · by_cases h2 : 0 ≤ y ∧ y ≤ 1073741823
    · obtain ⟨m, hm, rfl⟩ := ix_of (by omega) h1
      obtain ⟨n, hn, rfl⟩ := ix_le (n := 1073741823) (by decide) h2
      have hm12 := hS.m12 hm
      have f1 : mi_X9_list M (nI m) (nI n) = some (nI (cnt (nI n)), ab_pi M (12 + m) 7 (nI n)) := by
        unfold mi_X9_list
        rw [c_hasMast hI.2.2.1.1, b_if, if_pos h1, w_eq, b_if, if_pos h2, ab_chk_pos (vin hm12), nI_clamp (by omega), j_bitCount, Option.bind_some]
      have hT1 : InvS σ p (ab_pi M 69 0 0) := hT
      have sb : ∀ c j, (c ≠ 69 ∨ j ≠ 0) → (c ≠ 12 + m ∨ j ≠ 7) → (ab_pi (ab_pi M (12 + m) 7 (nI n)) 69 0 0).1 c j = M.1 c j := fun c j a b => by rw [pi_ne (by omega), pi_ne (by omega)]
      have hR1 : RepR σ (ab_pi (ab_pi M (12 + m) 7 (nI n)) 69 0 0) := hI.2.2.2.1.same hS (fun c j hc => sb c j (by unfold fR at hc; omega) (by unfold fR at hc; omega))
      have f2 : mi_X10_list (ab_pi M (12 + m) 7 (nI n)) (nI m) (nI n) = some (nI (cnt (nI n)), ab_pi (ab_pi (ab_pi M (12 + m) 7 (nI n)) 69 0 0) 76 m (nI n)) := by
        unfold mi_X10_list
        rw [r_isMast hR1, b_if, if_pos h1, r_isSet, b_if, if_pos h2, ab_chk_pos (vin hm12), nI_clamp (by omega), r_countBits _ (by omega), Option.bind_some]
      have sc : ∀ c j, (c ≠ 69 ∨ j ≠ 0) → (c ≠ 12 + m ∨ j ≠ 7) → (c ≠ 76 ∨ j ≠ m) → (ab_pi (ab_pi (ab_pi M (12 + m) 7 (nI n)) 69 0 0) 76 m (nI n)).1 c j = M.1 c j := fun c j a b d => by rw [pi_ne (by omega), pi_ne (by omega), pi_ne (by omega)]
      refine ⟨_, _, _, f1, f2, sgr σ 7 (fup (σ 7) m n), p, hI.land (hS.ls _ (fun m' hm' => ?_)) rfl ?_ ?_ (fun c j hc => ?_) (fun w _ => sc 4 w (by omega) (by omega) (by omega)) (fun _ _ => rfl)⟩
      · unfold fup
        split
        · omega
        · exact (hS.mast hm').2.2.2.2.2.2.2.1
      · obtain ⟨⟨c1, c2, c3, c4, c5, c6, c7, c8, c9, c10, c11, c12⟩, c13, c14⟩ := hI.2.2.1
        refine ⟨⟨?_, ?_, ?_, ?_, ?_, ?_, ?_, ?_, ?_, fun m' hm' => ?_, fun w hw => ?_, fun i hi => ?_⟩, fun a b ha hb => ?_, fun a ha i hi => ?_⟩
        · rw [sc _ _ (by omega) (by omega) (by omega)]; exact c1
        · rw [sc _ _ (by omega) (by omega) (by omega)]; exact c2
        · rw [sc _ _ (by omega) (by omega) (by omega)]; exact c3
        · rw [sc _ _ (by omega) (by omega) (by omega)]; exact c4
        · rw [sc _ _ (by omega) (by omega) (by omega)]; exact c5
        · rw [sc _ _ (by omega) (by omega) (by omega)]; exact c6
        · rw [sc _ _ (by omega) (by omega) (by omega)]; exact c7
        · rw [sc _ _ (by omega) (by omega) (by omega)]; exact c8
        · rw [sc _ _ (by omega) (by omega) (by omega)]; exact c9
        · have hm1 := hS.m12 hm'
          obtain ⟨d0, d1, d2, d3, d4, d5, d6, d7, d8⟩ := c10 m' hm'
          refine ⟨?_, ?_, ?_, ?_, ?_, ?_, ?_, ?_, ?_⟩
          · rw [sc _ _ (by omega) (by omega) (by omega)]; exact d0
          · rw [sc _ _ (by omega) (by omega) (by omega)]; exact d1
          · rw [sc _ _ (by omega) (by omega) (by omega)]; exact d2
          · rw [sc _ _ (by omega) (by omega) (by omega)]; exact d3
          · rw [sc _ _ (by omega) (by omega) (by omega)]; exact d4
          · rw [sc _ _ (by omega) (by omega) (by omega)]; exact d5
          · rw [sc _ _ (by omega) (by omega) (by omega)]; exact d6
          · show _ = nI (fup (σ 7) m n m')
            by_cases e : m' = m
            · rw [e, fup_eq, pi_ne (by omega), pi_ne (by omega), pi_eq]
            · rw [fup_ne e, sc _ _ (by omega) (by omega) (by omega)]; exact d7
          · rw [sc _ _ (by omega) (by omega) (by omega)]; exact d8
        · rw [sc _ _ (by omega) (by omega) (by omega), sc _ _ (by omega) (by omega) (by omega)]; exact c11 w hw
        · rw [sc _ _ (by omega) (by omega) (by omega), sc _ _ (by omega) (by omega) (by omega), sc _ _ (by omega) (by omega) (by omega)]; exact c12 i hi
        · rw [sc _ _ (by omega) (by omega) (by omega)]; exact c13 a b ha hb
        · rw [sc _ _ (by omega) (by omega) (by omega)]; exact c14 a ha i hi
      · obtain ⟨c1, c2, c3, c4, c5, c6, c7, c8, c9, c10, c11, c12⟩ := hI.2.2.2.1
        refine ⟨?_, ?_, ?_, ?_, ?_, ?_, ?_, ?_, ?_, fun m' hm' => ?_, fun w hw => ?_, fun i hi => ?_⟩
        · rw [sc _ _ (by omega) (by omega) (by omega)]; exact c1
        · rw [sc _ _ (by omega) (by omega) (by omega)]; exact c2
        · rw [sc _ _ (by omega) (by omega) (by omega)]; exact c3
        · rw [sc _ _ (by omega) (by omega) (by omega)]; exact c4
        · rw [sc _ _ (by omega) (by omega) (by omega)]; exact c5
        · rw [sc _ _ (by omega) (by omega) (by omega)]; exact c6
        · rw [sc _ _ (by omega) (by omega) (by omega)]; exact c7
        · rw [sc _ _ (by omega) (by omega) (by omega)]; exact c8
        · rw [sc _ _ (by omega) (by omega) (by omega)]; exact c9
        · obtain ⟨d0, d1, d2, d3, d4, d5, d6, d7⟩ := c10 m' hm'
          refine ⟨?_, ?_, ?_, ?_, ?_, ?_, ?_, ?_⟩
          · rw [sc _ _ (by omega) (by omega) (by omega)]; exact d0
          · rw [sc _ _ (by omega) (by omega) (by omega)]; exact d1
          · rw [sc _ _ (by omega) (by omega) (by omega)]; exact d2
          · rw [sc _ _ (by omega) (by omega) (by omega)]; exact d3
          · rw [sc _ _ (by omega) (by omega) (by omega)]; exact d4
          · rw [sc _ _ (by omega) (by omega) (by omega)]; exact d5
          · show _ = nI (fup (σ 7) m n m')
            by_cases e : m' = m
            · rw [e, fup_eq, pi_eq]
            · rw [fup_ne e, sc _ _ (by omega) (by omega) (by omega)]; exact d6
          · rw [sc _ _ (by omega) (by omega) (by omega)]; exact d7
        · rw [sc _ _ (by omega) (by omega) (by omega), sc _ _ (by omega) (by omega) (by omega)]; exact c11 w hw
        · rw [sc _ _ (by omega) (by omega) (by omega), sc _ _ (by omega) (by omega) (by omega), sc _ _ (by omega) (by omega) (by omega)]; exact c12 i hi
      · unfold fI fS at hc
        exact sc c j (by omega) (by omega) (by omega)
    · refine Ans.m1 hI (v := -1) ?_ ?_
      · unfold mi_X9_list
        rw [c_hasMast hI.2.2.1.1, b_if, if_pos h1, w_eq, b_if, if_neg h2]
      · show mi_X10_list M x y = _
        unfold mi_X10_list
        rw [r_isMast hT.2.2.2.1, b_if, if_pos h1, r_isSet, b_if, if_neg h2]
  · refine Ans.m1 hI (v := -1) ?_ ?_
    · unfold mi_X9_list
      rw [c_hasMast hI.2.2.1.1, b_if, if_neg h1]
    · show mi_X10_list M x y = _
      unfold mi_X10_list
      rw [r_isMast hT.2.2.2.1, b_if, if_neg h1]
