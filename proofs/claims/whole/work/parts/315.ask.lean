/-! PURE: the questions that only ask: bar, may, channel, of, harm, kept, broken, tries; and set -/
theorem AnsR.mk' {σ : Sg} {p : Nat → Nat} {M : ab_M} {f : Option Int32} {g : Option (Int32 × ab_M)} {v : Int32} (hI : InvS σ p M) (hf : f = some v) (hg : g = some (v, ab_pi M 69 0 0)) : AnsR M f g := ⟨v, ab_pi M 69 0 0, hf, hg, σ, p, hI.thr 0⟩
theorem o_bar {σ : Sg} {p : Nat → Nat} {M : ab_M} (hI : InvS σ p M) (x y : Int32) : AnsR M (mi_X9_bar M x y) (mi_X10_bar M x y) := by
  have hT := hI.thr 0
  have hS := hI.1
  have hnm := hS.nm
  unfold mi_X9_bar mi_X10_bar
  rw [c_hasMast hI.2.2.1.1, b_if, c_hasMast hI.2.2.1.1, b_if, r_isMast hT.2.2.2.1, b_if, r_isMast hT.2.2.2.1, b_if]
  by_cases h1 : 0 ≤ x ∧ x < nI (g_nm σ)
  · rw [if_pos h1, if_pos h1]
    by_cases h2 : 0 ≤ y ∧ y < nI (g_nm σ)
    · rw [if_pos h2, if_pos h2]
      obtain ⟨a, ha, rfl⟩ := ix_of (by omega) h1
      obtain ⟨b, hb, rfl⟩ := ix_of (by omega) h2
      rw [c_barOf hS hI.2.2.1 ha hb, r_barOf hS hT.2.2.2.1 ha hb]
      exact AnsR.mk' hI rfl rfl
    · rw [if_neg h2, if_neg h2]
      exact AnsR.mk' hI rfl rfl
  · rw [if_neg h1, if_neg h1]
    exact AnsR.mk' hI rfl rfl
theorem o_may {σ : Sg} {p : Nat → Nat} {M : ab_M} (hI : InvS σ p M) (x y : Int32) : AnsR M (mi_X9_may M x y) (mi_X10_may M x y) := by
  have hT := hI.thr 0
  have hS := hI.1
  have hnw := hS.nw
  unfold mi_X9_may mi_X10_may
  rw [c_hasWant hI.2.2.1.1, b_if, w_eq, b_if, r_isWant hT.2.2.2.1, b_if]
  by_cases h1 : 0 ≤ x ∧ x < nI (g_nw σ)
  · rw [if_pos h1, if_pos h1]
    obtain ⟨w, hw, rfl⟩ := ix_of (by omega) h1
    by_cases h2 : 0 ≤ y ∧ y ≤ 29
    · rw [if_pos h2]
      obtain ⟨c, hc, rfl⟩ := ix_le (n := 29) (by decide) h2
      obtain ⟨A, e1, e2⟩ := c_allowed hS hI.2.2.1.1 hw
      obtain ⟨z, e3, e4, e5⟩ := r_mayHave hS hT.2.2.2.1 hw (show c < 30 by omega)
      rw [e1, Option.bind_some, e3, Option.bind_some, b_tu (by omega)]
      by_cases hm : may σ w c
      · rw [if_pos ((e2 c (by omega)).mpr hm), if_neg (fun q => e5.mp q hm)]
        exact AnsR.mk' hI rfl rfl
      · rw [if_neg (fun q => hm ((e2 c (by omega)).mp q)), if_pos (e5.mpr hm)]
        exact AnsR.mk' hI rfl rfl
    · rw [if_neg h2]
      have i1 : mi_X10_mayHave (ab_pi M 69 0 0) (nI w) y = some 0 := by
        unfold mi_X10_mayHave
        have i0 : mi_X10_isIn (ab_pi M 69 0 0) y.toInt64 0 29 = some (if 0 ≤ y ∧ y ≤ 29 then 1 else 0) := r_isIn _ y 0 29
        rw [ab_chk_pos (vin (hS.w16 hw)), i0, if_neg h2, Option.bind_some, if_pos rfl, Option.bind_some, if_pos rfl]
      rw [i1, Option.bind_some, if_pos rfl]
      exact AnsR.mk' hI rfl rfl
  · rw [if_neg h1, if_neg h1]
    exact AnsR.mk' hI rfl rfl
theorem o_channel {σ : Sg} {p : Nat → Nat} {M : ab_M} (hI : InvS σ p M) (x : Int32) : AnsR M (mi_X9_channel M x) (mi_X10_channel M x) := by
  have hT := hI.thr 0
  have hS := hI.1
  have hnw := hS.nw
  unfold mi_X9_channel mi_X10_channel
  rw [c_hasWant hI.2.2.1.1, b_if, r_isWant hT.2.2.2.1, b_if]
  by_cases h1 : 0 ≤ x ∧ x < nI (g_nw σ)
  · rw [if_pos h1, if_pos h1]
    obtain ⟨w, hw, rfl⟩ := ix_of (by omega) h1
    rw [ab_chk_pos (vin (hS.w16 hw)), ab_chk_pos (vin (hS.w16 hw)), nI_clamp (by omega), hI.2.2.2.2.1 w hw, hT.2.2.2.2.2.1 w hw]
    exact AnsR.mk' hI rfl rfl
  · rw [if_neg h1, if_neg h1]
    exact AnsR.mk' hI rfl rfl
theorem o_of {σ : Sg} {p : Nat → Nat} {M : ab_M} (hI : InvS σ p M) (x : Int32) : AnsR M (mi_X9_of M x) (mi_X10_of M x) := by
  have hT := hI.thr 0
  have hS := hI.1
  have hnw := hS.nw
  unfold mi_X9_of mi_X10_of
  rw [c_hasWant hI.2.2.1.1, b_if, r_isWant hT.2.2.2.1, b_if]
  by_cases h1 : 0 ≤ x ∧ x < nI (g_nw σ)
  · rw [if_pos h1, if_pos h1]
    obtain ⟨w, hw, rfl⟩ := ix_of (by omega) h1
    rw [ab_chk_pos (vin (hS.w16 hw)), ab_chk_pos (vin (hS.w16 hw)), nI_clamp (by omega), (hI.2.2.1.1.w hw).1, (hT.2.2.2.1.w hw).1]
    exact AnsR.mk' hI rfl rfl
  · rw [if_neg h1, if_neg h1]
    exact AnsR.mk' hI rfl rfl
theorem o_harm {σ : Sg} {p : Nat → Nat} {M : ab_M} (hI : InvS σ p M) : AnsR M (mi_X9_harm M) (mi_X10_harm M) := by
  have hT := hI.thr 0
  unfold mi_X9_harm mi_X10_harm
  rw [c_totalHarm hI.1 hI.2.2.1 hI.2.1 hI.2.2.2.2.1, r_harmNow hI.1 hT.2.2.2.1 hI.2.1 hT.2.2.2.2.2.1]
  exact AnsR.mk' hI rfl rfl
theorem o_tries {σ : Sg} {p : Nat → Nat} {M : ab_M} (hI : InvS σ p M) : AnsR M (mi_X9_tries M) (mi_X10_tries M) := by
  obtain ⟨k, -, e1, e2⟩ := (hI.thr 0).2.2.2.2.2.2.2.2.1
  have e3 : M.1 26 5 = nI k := e1
  unfold mi_X9_tries mi_X10_tries
  rw [e3, e2]
  exact AnsR.mk' hI rfl rfl
theorem o_broken {σ : Sg} {p : Nat → Nat} {M : ab_M} (hI : InvS σ p M) (x : Int32) : AnsR M (mi_X9_broken M x) (mi_X10_broken M x) := by
  have hT := hI.thr 0
  have hS := hI.1
  have hnw := hS.nw
  have i1 : mi_X10_isIn (ab_pi M 69 0 0) x.toInt64 0 3 = some (if 0 ≤ x ∧ x ≤ 3 then 1 else 0) := r_isIn _ x 0 3
  unfold mi_X9_broken mi_X10_broken
  rw [i1, b_if]
  by_cases h : 0 ≤ x ∧ x ≤ 3
  · rw [if_pos h]
    obtain ⟨k, hk, rfl⟩ := ix_le (n := 3) (by decide) h
    have hk4 : k = 0 ∨ k = 1 ∨ k = 2 ∨ k = 3 := by omega
    rcases hk4 with rfl | rfl | rfl | rfl
    · rw [if_pos (show nI 0 = 0 from rfl), c_lackingTwos hS hI.2.2.1 hI.2.1 hI.2.2.2.2.1, show nI 0 = 0 from rfl, r_broken0 hS hT.2.2.2.1 hI.2.1 hT.2.2.2.2.2.1]
      exact AnsR.mk' hI rfl rfl
    · rw [if_neg (show ¬ nI 1 = 0 by decide), if_pos (show nI 1 = 1 from rfl), c_lacks hS hI.2.2.1 hI.2.1 hI.2.2.2.2.1, show nI 1 = 1 from rfl, r_broken1 hS hT.2.2.2.1 hI.2.1 hT.2.2.2.2.2.1]
      exact AnsR.mk' hI rfl rfl
    · rw [if_neg (show ¬ nI 2 = 0 by decide), if_neg (show ¬ nI 2 = 1 by decide), if_pos (show nI 2 = 2 from rfl), c_sums hS hI.2.2.1 hI.2.1 hI.2.2.2.2.1, show nI 2 = 2 from rfl, r_broken2 hS hT.2.2.2.1 hI.2.1 hT.2.2.2.2.2.1]
      exact AnsR.mk' hI rfl rfl
    · obtain ⟨B, e1, e2⟩ := c_strayBits hS hI.2.2.1.1 hI.2.1 hI.2.2.2.2.1
      rw [if_neg (show ¬ nI 3 = 0 by decide), if_neg (show ¬ nI 3 = 1 by decide), if_neg (show ¬ nI 3 = 2 by decide), if_pos (show nI 3 = 3 from rfl), e1, Option.bind_some, j_bitCount, cnt_bits (by omega) (strP_01 σ p) e2, show nI 3 = 3 from rfl, r_broken3 hS hT.2.2.2.1 hI.2.1 hT.2.2.2.2.2.1]
      exact AnsR.mk' hI rfl rfl
  · rw [if_neg h, if_neg (show ¬ x = 0 from fun q => h (by rw [q]; decide)), if_neg (show ¬ x = 1 from fun q => h (by rw [q]; decide)), if_neg (show ¬ x = 2 from fun q => h (by rw [q]; decide)), if_neg (show ¬ x = 3 from fun q => h (by rw [q]; decide))]
    exact AnsR.mk' hI rfl rfl
theorem fu_all (q : Nat → Nat) (hq : ∀ i, q i ≤ 1) : ∀ (k j a : Nat), a ≤ 1 → fu (fun i a => if a = 0 then 0 else q i) k j a = if a = 1 ∧ su q k j = k then 1 else 0 := by
  intro k
  induction k with
  | zero =>
    intro j a ha
    show a = _
    have : su q 0 j = 0 := rfl
    rw [this]
    by_cases h : a = 1
    · rw [if_pos ⟨h, rfl⟩, h]
    · rw [if_neg (fun z => h z.1)]; omega
  | succ k ih =>
    intro j a ha
    show fu _ k (j + 1) (if a = 0 then 0 else q j) = _
    have hs : su q (k + 1) j = q j + su q k (j + 1) := rfl
    have hle : su q k (j + 1) ≤ k := by
      have := su_le (f := q) (g := fun _ => 1) k (j + 1) (fun i _ _ => hq i)
      rw [su_const] at this
      omega
    have hqj := hq j
    rw [hs]
    by_cases h : a = 0
    · rw [if_pos h, ih _ _ (by omega), if_neg (by omega), if_neg (by omega)]
    · rw [if_neg h, ih _ _ hqj]
      by_cases h2 : q j = 1 ∧ su q k (j + 1) = k
      · rw [if_pos h2, if_pos (by omega)]
      · rw [if_neg h2, if_neg (by omega)]
theorem r_kept9 {σ : Sg} {M : ab_M} {p : Nat → Nat} (hS : Sok σ) (hR : RepR σ M) (hp : Pok σ p) (hP : PlR σ p M) : mi_X10_kept_9 ab_F M 1 0 = some (nI (if HN σ p = g_nw σ then 1 else 0), nI (g_nw σ)) := by
  have hnw := hS.nw
  have h := lp_up (fun n (a : Nat) x => mi_X10_kept_9 n M (nI a) x) (g_nw σ) (fun i a => if a = 0 then 0 else if p i = 0 then 0 else 1) (fun a => some (nI a, nI (g_nw σ))) (fun _ a => a ≤ 1) (fun n j a hj ha => by
    have hw16 := hS.w16 hj
    have hle : (if a = 0 then 0 else if p j = 0 then 0 else 1) ≤ 1 := by
      by_cases h1 : a = 0
      · rw [if_pos h1]; omega
      · rw [if_neg h1]; split <;> omega
    refine ⟨?_, hle⟩
    show mi_X10_kept_9 (n + 1) M (nI a) (nI j) = _
    rw [mi_X10_kept_9.eq_2, hR.2.1, if_neg (Int32.not_le.mpr (nI_lt hj (by omega))), nI_clamp (by omega), ab_chk_pos (vin hw16), hP j hj, nI_vif (hp j hj), show nI j + 1 = nI (j + 1) from nI_add j 1]
    by_cases h : a = 0
    · rw [if_pos (show nI a = 0 by rw [h]; rfl), if_pos h]; rfl
    · rw [if_neg (show ¬ nI a = 0 from fun q => h ((nI_eq (b := 0) (by omega) (by decide)).mp q)), if_neg h]; rfl) (fun n a _ => by
    show mi_X10_kept_9 (n + 1) M (nI a) (nI (g_nw σ)) = _
    rw [mi_X10_kept_9.eq_2, hR.2.1, if_pos (Int32.le_refl _)]) (g_nw σ) 0 1 ab_F (by omega) (ab_F_lt (by omega)) (by omega)
  have h1 := h.1
  rw [fu_all (fun i => if p i = 0 then 0 else 1) (fun i => by show (if p i = 0 then 0 else 1) ≤ 1; split <;> omega) (g_nw σ) 0 1 (by omega)] at h1
  unfold HN
  simp only [true_and] at h1
  exact h1
theorem o_kept {σ : Sg} {p : Nat → Nat} {M : ab_M} (hI : InvS σ p M) : AnsR M (mi_X9_kept M) (mi_X10_kept M) := by
  have hT := hI.thr 0
  have hS := hI.1
  have hnw := hS.nw
  have hN : HN σ p ≤ g_nw σ := by
    have := su_le (f := fun w => if p w = 0 then 0 else 1) (g := fun _ => 1) (g_nw σ) 0 (fun i _ _ => by show (if p i = 0 then 0 else 1) ≤ 1; split <;> omega)
    rw [su_const] at this
    unfold HN
    omega
  unfold mi_X9_kept mi_X10_kept
  rw [c_served hS hI.2.2.1.1 hI.2.1 hI.2.2.2.2.1, Option.bind_some, r_kept9 hS hT.2.2.2.1 hI.2.1 hT.2.2.2.2.2.1, Option.bind_some, hI.2.2.1.1.2.1, c_totalHarm hI.1 hI.2.2.1 hI.2.1 hI.2.2.2.2.1, r_harmNow hI.1 hT.2.2.2.1 hI.2.1 hT.2.2.2.2.2.1, Option.bind_some, Option.bind_some]
  by_cases h : HN σ p = g_nw σ
  · rw [if_pos (show nI (HN σ p) = nI (g_nw σ) by rw [h]), if_pos h, if_neg (show ¬ nI 1 = 0 by decide)]
    by_cases h2 : nI (harm σ p) = 0
    · rw [if_pos h2, if_pos h2]
      exact AnsR.mk' hI rfl rfl
    · rw [if_neg h2, if_neg h2]
      exact AnsR.mk' hI rfl rfl
  · rw [if_neg (show ¬ nI (HN σ p) = nI (g_nw σ) from fun q => h ((nI_eq (by omega) (by omega)).mp q)), if_neg h, if_pos (show nI 0 = 0 from rfl)]
    exact AnsR.mk' hI rfl rfl
