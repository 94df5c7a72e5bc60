/-! PURE: harm as a whole; wants with channels -/
def HN (σ : Sg) (p : Nat → Nat) : Nat := su (fun w => if p w = 0 then 0 else 1) (g_nw σ) 0
theorem nI_vif {x : Nat} (h : x ≤ 30) : (if pv x < 0 then some (0 : Int32) else some 1) = some (nI (if x = 0 then 0 else 1)) := by
  by_cases h0 : x = 0
  · rw [if_pos ((pv_neg (by omega)).mpr h0), if_pos h0]; rfl
  · rw [if_neg (fun q => h0 ((pv_neg (by omega)).mp q)), if_neg h0]; rfl
theorem c_served {σ : Sg} {M : ab_M} {p : Nat → Nat} {t : Nat} (hS : Sok σ) (hC : RepB σ M) (hp : Pok σ p) (hP : PlC σ p t M) : mi_X2_served M t = some (nI (HN σ p)) := by
  have hnw := hS.nw
  have e := hC.2.1
  have h := lp_sum (fun n x y => mi_X2_served_4 n M t x y) (g_nw σ) (fun w => if p w = 0 then 0 else 1) (fun n j a hj => by
    have := hp j hj
    show mi_X2_served_4 (n + 1) M t _ _ = _
    rw [mi_X2_served_4.eq_2, e, if_neg (nI_ge hj (by omega))]
    simp only [vin (hS.w16 hj), ab_chk_true, nI_clamp (show j < 2 ^ 31 by omega), hP j hj]
    rw [nI_vif this, Option.bind_some, nI_add, nI_1]) (fun n a => by
    show mi_X2_served_4 (n + 1) M t _ _ = _
    rw [mi_X2_served_4.eq_2, e, if_pos (nI_le (Nat.le_refl _) (by omega))]) 0 0 (by omega) (by omega)
  unfold mi_X2_served
  rw [show (0 : Int32) = nI 0 from rfl, h, Option.bind_some, Nat.zero_add]
  rfl
theorem r_withChannel {σ : Sg} {M : ab_M} {p : Nat → Nat} (hS : Sok σ) (hR : RepR σ M) (hp : Pok σ p) (hP : PlR σ p M) : mi_X10_withChannel M = some (nI (HN σ p)) := by
  have hnw := hS.nw
  have e := hR.2.1
  have h := lp_sum (fun n x y => mi_X10_withChannel_4 n M x y) (g_nw σ) (fun w => if p w = 0 then 0 else 1) (fun n j a hj => by
    have := hp j hj
    show mi_X10_withChannel_4 (n + 1) M _ _ = _
    rw [mi_X10_withChannel_4.eq_2, e, if_neg (nI_ge hj (by omega))]
    simp only [vin (hS.w16 hj), ab_chk_true, nI_clamp (show j < 2 ^ 31 by omega), hP j hj]
    rw [nI_vif this, Option.bind_some, nI_add, nI_1]) (fun n a => by
    show mi_X10_withChannel_4 (n + 1) M _ _ = _
    rw [mi_X10_withChannel_4.eq_2, e, if_pos (nI_le (Nat.le_refl _) (by omega))]) 0 0 (by omega) (by omega)
  unfold mi_X10_withChannel
  rw [show (0 : Int32) = nI 0 from rfl, h, Option.bind_some, Nat.zero_add]
  rfl
/-- the wants that stray, as bits -/
theorem c_strayBits {σ : Sg} {M : ab_M} {p : Nat → Nat} {t : Nat} (hS : Sok σ) (hC : RepB σ M) (hp : Pok σ p) (hP : PlC σ p t M) : ∃ B, mi_X2_strayBits M t = some B ∧ ∀ i, i < 32 → (bt B i = true ↔ i < g_nw σ ∧ strP σ p i = 1) := by
  have hnw := hS.nw
  have e := hC.2.1
  have h := lp_up (fun n (B : Int32) x => mi_X2_strayBits_4 n M t B x) (g_nw σ) (fun j B => if strP σ p j = 1 then B ||| ((1 : Int32) <<< (nI j &&& 31)) else B) (fun B => some (B, nI (g_nw σ))) (fun j B => ∀ i, i < 32 → (bt B i = true ↔ i < j ∧ strP σ p i = 1)) (fun n j B hj hB => by
    have hj16 := hS.w16 hj
    have hpj := hp j hj
    obtain ⟨A, hA, hAb⟩ := c_allowed hS hC hj
    constructor
    · show mi_X2_strayBits_4 (n + 1) M t _ _ = _
      rw [mi_X2_strayBits_4.eq_2, e, if_neg (nI_ge hj (by omega))]
      simp only [vin hj16, ab_chk_true, nI_clamp (show j < 2 ^ 31 by omega), hP j hj, hA, Option.bind_some, nI_1]
      unfold strP
      by_cases h0 : p j = 0
      · rw [if_pos ((pv_neg (by omega)).mpr h0), Option.bind_some, if_pos rfl, Option.bind_some, if_neg (show ¬ (p j ≠ 0 ∧ ¬ may σ j (p j - 1)) from fun q => q.1 h0), if_neg (by decide)]
        congr 1
        exact b_ext (fun i hi => by rw [b_or, b_0, Bool.or_false])
      · obtain ⟨c, hc⟩ : ∃ c, p j = c + 1 := ⟨p j - 1, by omega⟩
        rw [if_neg (fun q => h0 ((pv_neg (by omega)).mp q)), hc, pv_s, b_tu (by omega), Nat.add_sub_cancel]
        by_cases hm : may σ j c
        · rw [if_pos ((hAb c (by omega)).mpr hm), if_neg (by decide), Option.bind_some, if_pos rfl, Option.bind_some, if_neg (show ¬ (c + 1 ≠ 0 ∧ ¬ may σ j c) from fun q => q.2 hm), if_neg (by decide)]
          congr 1
          exact b_ext (fun i hi => by rw [b_or, b_0, Bool.or_false])
        · rw [if_neg (fun q => hm ((hAb c (by omega)).mp q)), if_pos rfl, Option.bind_some, if_neg (by decide), Option.bind_some, if_pos (show c + 1 ≠ 0 ∧ ¬ may σ j c from ⟨by omega, hm⟩), if_pos rfl]
    · intro i hi
      by_cases hs : strP σ p j = 1
      · show bt (if strP σ p j = 1 then B ||| ((1 : Int32) <<< (nI j &&& 31)) else B) i = true ↔ _
        rw [if_pos hs, b_or, Bool.or_eq_true, hB i hi, b_one (by omega) hi, decide_eq_true_eq]
        constructor
        · rintro (⟨h1, h2⟩ | rfl)
          · exact ⟨by omega, h2⟩
          · exact ⟨by omega, hs⟩
        · rintro ⟨h1, h2⟩
          by_cases h3 : i = j
          · exact Or.inr h3
          · exact Or.inl ⟨by omega, h2⟩
      · show bt (if strP σ p j = 1 then B ||| ((1 : Int32) <<< (nI j &&& 31)) else B) i = true ↔ _
        rw [if_neg hs, hB i hi]
        constructor
        · rintro ⟨h1, h2⟩; exact ⟨by omega, h2⟩
        · rintro ⟨h1, h2⟩
          refine ⟨?_, h2⟩
          by_cases h3 : i = j
          · subst h3; exact absurd h2 hs
          · omega) (fun n B _ => by
    show mi_X2_strayBits_4 (n + 1) M t _ _ = _
    rw [mi_X2_strayBits_4.eq_2, e, if_pos (nI_le (Nat.le_refl _) (by omega))]) (g_nw σ) 0 0 ab_F (by omega) (ab_F_lt (by omega)) (fun i hi => by rw [b_0]; simp)
  unfold mi_X2_strayBits
  rw [show (0 : Int32) = nI 0 from rfl] at h ⊢
  rw [h.1, Option.bind_some]
  exact ⟨_, rfl, h.2⟩
theorem strP_01 (σ : Sg) (p : Nat → Nat) (w : Nat) : strP σ p w = 0 ∨ strP σ p w = 1 := by unfold strP; split <;> simp
theorem cnt_bits {B : Int32} {N : Nat} {f : Nat → Nat} (hN : N ≤ 32) (hf : ∀ i, f i = 0 ∨ f i = 1) (h : ∀ i, i < 32 → (bt B i = true ↔ i < N ∧ f i = 1)) : cnt B = su f N 0 := by
  have e : cnt B = su (fun i => if bt B i = true then 1 else 0) N 0 + su (fun i => if bt B i = true then 1 else 0) (32 - N) (0 + N) := by
    rw [← su_app]
    unfold cnt
    rw [show N + (32 - N) = 32 by omega]
  have e2 : su (fun i => if bt B i = true then 1 else 0) (32 - N) (0 + N) = 0 := by
    rw [su_zero_iff]
    intro i h1 h2
    rw [if_neg]
    intro q
    have := ((h i (by omega)).mp q).1
    omega
  rw [e, e2, Nat.add_zero]
  refine su_congr N 0 (fun i _ hi => ?_)
  rcases hf i with h1 | h1
  · rw [if_neg (fun q => by have := ((h i (by omega)).mp q).2; omega), h1]
  · rw [if_pos ((h i (by omega)).mpr ⟨by omega, h1⟩), h1]
theorem c_totalHarm {σ : Sg} {M : ab_M} {p : Nat → Nat} {t : Nat} (hS : Sok σ) (hC : RepC σ M) (hp : Pok σ p) (hP : PlC σ p t M) : mi_X2_totalHarm M t = some (nI (harm σ p)) := by
  have hnw := hS.nw
  obtain ⟨B, hB, hBb⟩ := c_strayBits hS hC.1 hp hP
  unfold mi_X2_totalHarm
  rw [c_lacks hS hC hp hP, Option.bind_some, c_sums hS hC hp hP, Option.bind_some, hB, Option.bind_some, j_bitCount, Option.bind_some, cnt_bits (by omega) (strP_01 σ p) hBb, show (5 : Int32) = nI 5 from rfl, show (10 : Int32) = nI 10 from rfl, pk_mul, pk_mul, nI_add, nI_add]
  rfl
/-! the model -/
theorem r_brokenOf {σ : Sg} {M : ab_M} (hS : Sok σ) (hR : RepR σ M) {k : Nat} (f1 : Nat → Nat) (f2 : Nat → Nat → Nat) (f3 : Nat → Nat → Nat → Nat)
    (h1 : ∀ n v a, v < g_nw σ → mi_X10_brokenOf_4 (n + 1) M (nI k) (nI a) (nI v) = (mi_X10_brokenOf_53 ab_F M (nI k) (nI (a + f1 v)) (nI v) (nI (v + 1))).bind fun q => mi_X10_brokenOf_4 n M (nI k) q.1 (nI (v + 1)))
    (h2 : ∀ n v w a, v < g_nw σ → w < g_nw σ → mi_X10_brokenOf_53 (n + 1) M (nI k) (nI a) (nI v) (nI w) = (mi_X10_brokenOf_109 ab_F M (nI k) (nI (a + f2 v w)) (nI v) (nI w) (nI (w + 1))).bind fun q => mi_X10_brokenOf_53 n M (nI k) q.1 (nI v) (nI (w + 1)))
    (h3 : ∀ v w a, v < g_nw σ → w < g_nw σ → ∃ y, mi_X10_brokenOf_109 ab_F M (nI k) (nI a) (nI v) (nI w) (nI (w + 1)) = some (nI (a + f3 v w (g_nw σ))  , y)) :
    mi_X10_brokenOf M (nI k) = some (nI (su (fun v => f1 v + su (fun w => f2 v w + f3 v w (g_nw σ)) (g_nw σ - (v + 1)) (v + 1)) (g_nw σ) 0)) := by
  have hnw := hS.nw
  have e := hR.2.1
  have hin : ∀ v, v < g_nw σ → ∀ a, mi_X10_brokenOf_53 ab_F M (nI k) (nI a) (nI v) (nI (v + 1)) = some (nI (a + su (fun w => f2 v w + f3 v w (g_nw σ)) (g_nw σ - (v + 1)) (v + 1)), nI (g_nw σ)) := by
    intro v hv a
    refine lp_sum (fun n x y => mi_X10_brokenOf_53 n M (nI k) x (nI v) y) (g_nw σ) _ (fun n j a hj => ?_) (fun n a => ?_) (v + 1) a (by omega) (by omega)
    · obtain ⟨y, hy⟩ := h3 v j (a + f2 v j) hv hj
      show mi_X10_brokenOf_53 (n + 1) M _ _ _ _ = _
      rw [h2 n v j a hv hj, hy, Option.bind_some, Nat.add_assoc]
    · show mi_X10_brokenOf_53 (n + 1) M _ _ _ _ = _
      rw [mi_X10_brokenOf_53.eq_2, e, if_pos (nI_le (Nat.le_refl _) (by omega))]
  have h := lp_sum (fun n x y => mi_X10_brokenOf_4 n M (nI k) x y) (g_nw σ) (fun v => f1 v + su (fun w => f2 v w + f3 v w (g_nw σ)) (g_nw σ - (v + 1)) (v + 1)) (fun n j a hj => by
    show mi_X10_brokenOf_4 (n + 1) M _ _ _ = _
    rw [h1 n j a hj, hin j hj, Option.bind_some, Nat.add_assoc]) (fun n a => by
    show mi_X10_brokenOf_4 (n + 1) M _ _ _ = _
    rw [mi_X10_brokenOf_4.eq_2, e, if_pos (nI_le (Nat.le_refl _) (by omega))]) 0 0 (by omega) (by omega)
  unfold mi_X10_brokenOf
  rw [show (0 : Int32) = nI 0 from rfl, h, Option.bind_some, Nat.zero_add]
  rfl
/-- no third loop but for sums -/
theorem r_bk109 {σ : Sg} {M : ab_M} (hS : Sok σ) (hR : RepR σ M) {k : Nat} (hk : k ≠ 2) (hk9 : k < 9) (v w a : Nat) (hw : w < g_nw σ) : ∃ y, mi_X10_brokenOf_109 ab_F M (nI k) (nI a) (nI v) (nI w) (nI (w + 1)) = some (nI (a + 0), y) := by
  have hnw := hS.nw
  obtain ⟨m, hm⟩ : ∃ m, ab_F = m + 1 := ⟨99999, rfl⟩
  rw [hm, mi_X10_brokenOf_109.eq_2, hR.2.1]
  by_cases h : g_nw σ ≤ w + 1
  · rw [if_pos (nI_le h (by omega))]
    exact ⟨_, rfl⟩
  · rw [if_neg (nI_ge (by omega) (by omega)), if_neg (show ¬ nI k = (2 : Int32) from fun q => hk ((nI_eq (by omega) (by decide)).mp q))]
    exact ⟨_, rfl⟩
theorem r_bk4_no {σ : Sg} {M : ab_M} (hS : Sok σ) (hR : RepR σ M) {k : Nat} (hk : k ≠ 3) (hk9 : k < 9) (n v a : Nat) (hv : v < g_nw σ) : mi_X10_brokenOf_4 (n + 1) M (nI k) (nI a) (nI v) = (mi_X10_brokenOf_53 ab_F M (nI k) (nI (a + 0)) (nI v) (nI (v + 1))).bind fun q => mi_X10_brokenOf_4 n M (nI k) q.1 (nI (v + 1)) := by
  have hnw := hS.nw
  rw [mi_X10_brokenOf_4.eq_2, hR.2.1, if_neg (nI_ge hv (by omega)), if_neg (show ¬ nI k = (3 : Int32) from fun q => hk ((nI_eq (by omega) (by decide)).mp q)), Option.bind_some, show nI a + 0 = nI (a + 0) from nI_add a 0, nI_1]
theorem r_bk53_no {σ : Sg} {M : ab_M} (hS : Sok σ) (hR : RepR σ M) {k : Nat} (hk : 2 ≤ k) (hk9 : k < 9) (n v w a : Nat) (hw : w < g_nw σ) : mi_X10_brokenOf_53 (n + 1) M (nI k) (nI a) (nI v) (nI w) = (mi_X10_brokenOf_109 ab_F M (nI k) (nI (a + 0)) (nI v) (nI w) (nI (w + 1))).bind fun q => mi_X10_brokenOf_53 n M (nI k) q.1 (nI v) (nI (w + 1)) := by
  have hnw := hS.nw
  rw [mi_X10_brokenOf_53.eq_2, hR.2.1, if_neg (nI_ge hw (by omega)), if_pos (show (2 : Int32) ≤ nI k from nI_le hk (by omega)), Option.bind_some, if_neg (show ¬ nI k = (1 : Int32) from fun q => by have := (nI_eq (b := 1) (by omega) (by decide)).mp q; omega), if_pos (by decide), Option.bind_some, show nI a + 0 = nI (a + 0) from nI_add a 0, nI_1]
theorem r_broken1 {σ : Sg} {M : ab_M} {p : Nat → Nat} (hS : Sok σ) (hR : RepR σ M) (hp : Pok σ p) (hP : PlR σ p M) : mi_X10_brokenOf M 1 = some (nI (HL σ p)) := by
  have hnw := hS.nw
  have h := r_brokenOf (k := 1) hS hR (fun _ => 0) (fun v w => lackP σ p v w) (fun _ _ _ => 0) (fun n v a hv => r_bk4_no hS hR (by decide) (by decide) n v a hv) (fun n v w a hv hw => by
    rw [mi_X10_brokenOf_53.eq_2, hR.2.1, if_neg (nI_ge hw (by omega)), if_neg (show ¬ (2 : Int32) ≤ nI 1 by decide), r_lack hS hR hp hP hv hw, Option.bind_some, Option.bind_some, if_pos (show nI 1 = (1 : Int32) from rfl), Option.bind_some, nI_add, nI_1]) (fun v w a hv hw => r_bk109 hS hR (by decide) (by decide) v w a hw)
  rw [show (1 : Int32) = nI 1 from rfl, h]
  refine congrArg (fun z => some (nI z)) (su_congr _ _ (fun v _ _ => ?_))
  rw [Nat.zero_add]
  rfl
theorem r_broken0 {σ : Sg} {M : ab_M} {p : Nat → Nat} (hS : Sok σ) (hR : RepR σ M) (hp : Pok σ p) (hP : PlR σ p M) : mi_X10_brokenOf M 0 = some (nI (H0 σ p)) := by
  have hnw := hS.nw
  have h := r_brokenOf (k := 0) hS hR (fun _ => 0) (fun v w => if 0 < lackP σ p v w then 1 else 0) (fun _ _ _ => 0) (fun n v a hv => r_bk4_no hS hR (by decide) (by decide) n v a hv) (fun n v w a hv hw => by
    have := lackP_le hS p v w
    rw [mi_X10_brokenOf_53.eq_2, hR.2.1, if_neg (nI_ge hw (by omega)), if_neg (show ¬ (2 : Int32) ≤ nI 0 by decide), r_lack hS hR hp hP hv hw, Option.bind_some, Option.bind_some, if_neg (show ¬ nI 0 = (1 : Int32) by decide), nI_pif (by omega), Option.bind_some, nI_add, nI_1]) (fun v w a hv hw => r_bk109 hS hR (by decide) (by decide) v w a hw)
  rw [show (0 : Int32) = nI 0 from rfl, h]
  refine congrArg (fun z => some (nI z)) (su_congr _ _ (fun v _ _ => ?_))
  rw [Nat.zero_add]
  rfl
theorem r_broken3 {σ : Sg} {M : ab_M} {p : Nat → Nat} (hS : Sok σ) (hR : RepR σ M) (hp : Pok σ p) (hP : PlR σ p M) : mi_X10_brokenOf M 3 = some (nI (HX σ p)) := by
  have hnw := hS.nw
  have h := r_brokenOf (k := 3) hS hR (strP σ p) (fun _ _ => 0) (fun _ _ _ => 0) (fun n v a hv => by
    have hpv := hp v hv
    rw [mi_X10_brokenOf_4.eq_2, hR.2.1, if_neg (nI_ge hv (by omega)), if_pos (show nI 3 = (3 : Int32) from rfl)]
    simp only [vin (hS.w16 hv), ab_chk_true, nI_clamp (show v < 2 ^ 31 by omega), hP v hv]
    have fin : ∀ (y : Option Int32), y = some (nI (strP σ p v)) → (y.bind fun q2 => (mi_X10_brokenOf_53 ab_F M (nI 3) (nI a + q2) (nI v) (nI v + 1)).bind fun q43 => mi_X10_brokenOf_4 n M (nI 3) q43.1 (nI v + 1)) = (mi_X10_brokenOf_53 ab_F M (nI 3) (nI (a + strP σ p v)) (nI v) (nI (v + 1))).bind fun q => mi_X10_brokenOf_4 n M (nI 3) q.1 (nI (v + 1)) := by
      rintro y rfl
      rw [Option.bind_some, nI_add, nI_1]
    refine fin _ ?_
    unfold strP
    by_cases h0 : p v = 0
    · rw [if_pos ((pv_neg (by omega)).mpr h0), if_neg (show ¬ (p v ≠ 0 ∧ ¬ may σ v (p v - 1)) from fun q => q.1 h0)]
      rfl
    · obtain ⟨c, hc⟩ : ∃ c, p v = c + 1 := ⟨p v - 1, by omega⟩
      rw [if_neg (fun q => h0 ((pv_neg (by omega)).mp q)), hc, pv_s, Nat.add_sub_cancel]
      obtain ⟨z, hz, -, hz2⟩ := r_mayHave hS hR hv (show c < 30 by omega)
      rw [hz, Option.bind_some]
      by_cases hm : may σ v c
      · rw [if_neg (fun q => (hz2.mp q) hm), if_neg (show ¬ (c + 1 ≠ 0 ∧ ¬ may σ v c) from fun q => q.2 hm)]
        rfl
      · rw [if_pos (hz2.mpr hm), if_pos (show c + 1 ≠ 0 ∧ ¬ may σ v c from ⟨by omega, hm⟩)]
        rfl) (fun n v w a hv hw => r_bk53_no hS hR (by decide) (by decide) n v w a hw) (fun v w a hv hw => r_bk109 hS hR (by decide) (by decide) v w a hw)
  rw [show (3 : Int32) = nI 3 from rfl, h]
  refine congrArg (fun z => some (nI z)) (su_congr _ _ (fun v _ _ => ?_))
  rw [su_0, Nat.add_zero]
theorem r_broken2 {σ : Sg} {M : ab_M} {p : Nat → Nat} (hS : Sok σ) (hR : RepR σ M) (hp : Pok σ p) (hP : PlR σ p M) : mi_X10_brokenOf M 2 = some (nI (HS σ p)) := by
  have hnw := hS.nw
  have e := hR.2.1
  have h := r_brokenOf (k := 2) hS hR (fun _ => 0) (fun _ _ => 0) (fun v w N => su (fun u => sumP σ p v w u) (N - (w + 1)) (w + 1)) (fun n v a hv => r_bk4_no hS hR (by decide) (by decide) n v a hv) (fun n v w a hv hw => r_bk53_no hS hR (by decide) (by decide) n v w a hw) (fun v w a hv hw => by
    refine ⟨nI (g_nw σ), ?_⟩
    refine lp_sum (fun n x y => mi_X10_brokenOf_109 n M (nI 2) x (nI v) (nI w) y) (g_nw σ) _ (fun n u a hu => ?_) (fun n a => ?_) (w + 1) a (by omega) (by omega)
    · show mi_X10_brokenOf_109 (n + 1) M _ _ _ _ _ = _
      rw [mi_X10_brokenOf_109.eq_2, e, if_neg (nI_ge hu (by omega)), if_pos (show nI 2 = (2 : Int32) from rfl)]
      simp only [vin (hS.w16 hu), vin (hS.w16 hv), vin (hS.w16 hw), ab_chk_true, nI_clamp (show u < 2 ^ 31 by omega), nI_clamp (show v < 2 ^ 31 by omega), nI_clamp (show w < 2 ^ 31 by omega), (hR.w hu).1, (hR.w hv).1, (hR.w hw).1, r_areIn hS hR (hS.mo hu) (hS.mo hv) (hS.mo hw), r_middles hS hR hp hP hu hv hw, r_middles hS hR hp hP hv hu hw, r_middles hS hR hp hP hw hu hv, Option.bind_some, nI_1, nI_add]
      have e1 : sumP σ p v w u = sumP σ p u v w := (sumP_rot σ p v w u).symm
      rw [e1]
      unfold sumP s3
      by_cases hi : inn σ (g_mo σ u) (g_mo σ v) (g_mo σ w)
      · rw [if_pos hi, if_neg (by decide), Option.bind_some, if_pos hi]
      · rw [if_neg hi, if_pos rfl, Option.bind_some, if_neg hi]
        rfl
    · show mi_X10_brokenOf_109 (n + 1) M _ _ _ _ _ = _
      rw [mi_X10_brokenOf_109.eq_2, e, if_pos (nI_le (Nat.le_refl _) (by omega))])
  rw [show (2 : Int32) = nI 2 from rfl, h]
  refine congrArg (fun z => some (nI z)) (su_congr _ _ (fun v _ _ => ?_))
  rw [Nat.zero_add]
  refine su_congr _ _ (fun w _ _ => ?_)
  rw [Nat.zero_add]
theorem r_harmNow {σ : Sg} {M : ab_M} {p : Nat → Nat} (hS : Sok σ) (hR : RepR σ M) (hp : Pok σ p) (hP : PlR σ p M) : mi_X10_harmNow M = some (nI (harm σ p)) := by
  unfold mi_X10_harmNow
  rw [r_broken1 hS hR hp hP, Option.bind_some, r_broken2 hS hR hp hP, Option.bind_some, r_broken3 hS hR hp hP, Option.bind_some, show (5 : Int32) = nI 5 from rfl, show (10 : Int32) = nI 10 from rfl, pk_mul, pk_mul, nI_add, nI_add]
  rfl
