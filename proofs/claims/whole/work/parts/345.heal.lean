/-! PURE: changes as few as can be: one want -/
theorem fup_fup (p : Nat → Nat) (w a b : Nat) : fup (fup p w a) w b = fup p w b := by
  funext i
  unfold fup
  by_cases h : i = w
  · rw [if_pos h, if_pos h]
  · rw [if_neg h, if_neg h, if_neg h]
theorem fup_comm (p : Nat → Nat) {u v : Nat} (a b : Nat) (h : u ≠ v) : fup (fup p u a) v b = fup (fup p v b) u a := by
  funext i
  unfold fup
  by_cases h1 : i = v
  · rw [if_pos h1, if_neg (by omega), if_pos h1]
  · rw [if_neg h1]
    by_cases h2 : i = u
    · rw [if_pos h2, if_pos h2]
    · rw [if_neg h2, if_neg h2, if_neg h1]
theorem lackP_sym {σ : Sg} {p : Nat → Nat} {u w : Nat} : lackP σ p u w = 0 ↔ lackP σ p w u = 0 := by
  unfold lackP
  rw [lackN_comm, bar_comm]
theorem lackP_e {σ : Sg} {p : Nat → Nat} {u w : Nat} (h : p u = 0) : lackP σ p u w = 0 := by
  unfold lackP
  rw [pch_0 h, lackN_zero]
  intro x hx
  cases hx
theorem lackP_congr {σ : Sg} {p q : Nat → Nat} {u w : Nat} (h1 : p u = q u) (h2 : p w = q w) : lackP σ p u w = lackP σ q u w := by
  unfold lackP
  rw [pch_congr h1, pch_congr h2]
theorem sumP_congr {σ : Sg} {p q : Nat → Nat} {u v w : Nat} (h1 : p u = q u) (h2 : p v = q v) (h3 : p w = q w) : sumP σ p u v w = sumP σ q u v w := by
  unfold sumP
  rw [pch_congr h1, pch_congr h2, pch_congr h3]
/-- a plan breaks nothing, if it does so without a want, and the want does so with the others -/
theorem clean_split {σ : Sg} {p : Nat → Nat} {w : Nat} (hw : w < g_nw σ) : clean σ p ↔ clean σ (fup p w 0) ∧ okW σ p (g_nw σ) w := by
  have f0 : fup p w 0 w = 0 := fup_eq
  have fn : ∀ {u}, u ≠ w → fup p w 0 u = p u := fun h => fup_ne h
  constructor
  · intro h
    refine ⟨fun x hx => ?_, (h w hw).1, fun u hu huw => ?_, fun u v huv hv huw hvw => ?_⟩
    · by_cases e : x = w
      · rw [e]; exact okW_0 f0
      · obtain ⟨a, b, c⟩ := h x hx
        refine ⟨fun z => by rw [fn e] at z ⊢; exact a z, fun u hu hux => ?_, fun u v huv hv hux hvx => ?_⟩
        · by_cases e2 : u = w
          · rw [e2]; exact lackP_e f0
          · rw [lackP_congr (fn e2) (fn e)]; exact b u hu hux
        · by_cases e2 : u = w
          · exact sumP_0 (Or.inl (by rw [e2]; exact f0))
          · by_cases e3 : v = w
            · exact sumP_0 (Or.inr (Or.inl (by rw [e3]; exact f0)))
            · rw [sumP_congr (fn e2) (fn e3) (fn e)]; exact c u v huv hv hux hvx
    · by_cases e : u < w
      · exact (h w hw).2.1 u e (by omega)
      · exact lackP_sym.mp ((h u hu).2.1 w (by omega) (by omega))
    · by_cases e : v < w
      · exact (h w hw).2.2 u v huv e (by omega) (by omega)
      · by_cases e2 : u < w
        · have := (h v hv).2.2 u w e2 (by omega) (by omega) (by omega)
          rw [sumP_swap, sumP_rot] at this
          exact this
        · have := (h v hv).2.2 w u (by omega) huv (by omega) (by omega)
          rw [sumP_rot] at this
          exact this
  · rintro ⟨h, h1, h2, h3⟩ x hx
    by_cases e : x = w
    · rw [e]
      exact ⟨h1, fun u hu huw => h2 u (by omega) huw, fun u v huv hv huw hvw => h3 u v huv (by omega) huw hvw⟩
    · obtain ⟨a, b, c⟩ := h x hx
      refine ⟨fun z => by rw [fn e] at a; exact a z, fun u hu hux => ?_, fun u v huv hv hux hvx => ?_⟩
      · by_cases e2 : u = w
        · rw [e2]; exact lackP_sym.mp (h2 x hx e)
        · rw [← lackP_congr (fn e2) (fn e)]; exact b u hu hux
      · by_cases e2 : u = w
        · rw [e2, sumP_rot]
          exact h3 v x hv hx (by omega) e
        · by_cases e3 : v = w
          · rw [e3, sumP_swap, sumP_rot]
            exact h3 u x (by omega) hx e2 e
          · rw [← sumP_congr (fn e2) (fn e3) (fn e)]; exact c u v huv hv hux hvx
/-- the first of k numbers from j on -/
noncomputable def ffind (P : Nat → Prop) : Nat → Nat → Option Nat
  | 0, _ => none
  | k + 1, j => @ite _ (P j) (Classical.propDecidable _) (some j) (ffind P k (j + 1))
theorem ffind_yes {P : Nat → Prop} {k j : Nat} (h : P j) : ffind P (k + 1) j = some j := by
  show @ite _ (P j) (Classical.propDecidable _) (some j) (ffind P k (j + 1)) = _
  rw [if_pos h]
theorem ffind_no {P : Nat → Prop} {k j : Nat} (h : ¬ P j) : ffind P (k + 1) j = ffind P k (j + 1) := by
  show @ite _ (P j) (Classical.propDecidable _) (some j) (ffind P k (j + 1)) = _
  rw [if_neg h]
theorem ffind_none {P : Nat → Prop} : ∀ (k j : Nat), (∀ i, j ≤ i → i < j + k → ¬ P i) → ffind P k j = none
  | 0, _, _ => rfl
  | k + 1, j, h => by
    rw [ffind_no (h j (Nat.le_refl _) (by omega))]
    exact ffind_none k (j + 1) (fun i a b => h i (by omega) (by omega))
theorem ffind_congr {P Q : Nat → Prop} : ∀ (k j : Nat), (∀ i, j ≤ i → i < j + k → (P i ↔ Q i)) → ffind P k j = ffind Q k j
  | 0, _, _ => rfl
  | k + 1, j, h => by
    have h0 := h j (Nat.le_refl _) (by omega)
    have ih := ffind_congr k (j + 1) (fun i a b => h i (by omega) (by omega))
    by_cases hp : P j
    · rw [ffind_yes hp, ffind_yes (h0.mp hp)]
    · rw [ffind_no hp, ffind_no (fun z => hp (h0.mpr z)), ih]
theorem ffind_some {P : Nat → Prop} {r : Nat} : ∀ (k j : Nat), ffind P k j = some r → P r ∧ j ≤ r ∧ r < j + k
  | 0, _, h => by cases h
  | k + 1, j, h => by
    by_cases hp : P j
    · rw [ffind_yes hp] at h
      cases h
      exact ⟨hp, by omega, by omega⟩
    · rw [ffind_no hp] at h
      obtain ⟨a, b, c⟩ := ffind_some k (j + 1) h
      exact ⟨a, by omega, by omega⟩
/-- a want that may be given another channel -/
def chg (σ : Sg) (p : Nat → Nat) (w : Nat) : Prop := p w ≠ 0 ∧ g_sy σ w = 0
/-- another channel of a want that makes harm 0 -/
def hl (σ : Sg) (p : Nat → Nat) (w c : Nat) : Prop := chg σ p w ∧ c < 30 ∧ c + 1 ≠ p w ∧ may σ w c ∧ harm σ (fup p w (c + 1)) = 0
theorem hl_iff {σ : Sg} {p : Nat → Nat} {w c : Nat} (hw : w < g_nw σ) : hl σ p w c ↔ chg σ p w ∧ c + 1 ≠ p w ∧ harm σ (fup p w 0) = 0 ∧ c < 30 ∧ okW σ (fup p w (c + 1)) (g_nw σ) w := by
  unfold hl
  rw [harm_zero, harm_zero, clean_split hw, fup_fup]
  constructor
  · rintro ⟨a, b, c, d, e, f⟩; exact ⟨a, c, e, b, f⟩
  · rintro ⟨a, b, c, d, e⟩
    refine ⟨a, d, b, ?_, c, e⟩
    have := e.1
    rw [fup_eq, Nat.add_sub_cancel] at this
    exact this (by omega)
theorem pi_pi {M : ab_M} {o k : Nat} {v x : Int32} : ab_pi (ab_pi M o k v) o k x = ab_pi M o k x := by
  unfold ab_pi
  congr 1
  funext a b
  show (if a = o ∧ b = k then x else if a = o ∧ b = k then v else M.1 a b) = if a = o ∧ b = k then x else M.1 a b
  by_cases h : a = o ∧ b = k
  · rw [if_pos h, if_pos h]
  · rw [if_neg h, if_neg h, if_neg h]
theorem pi_id {M : ab_M} {o k : Nat} {v : Int32} (h : v = M.1 o k) : ab_pi M o k v = M := by
  unfold ab_pi
  refine Prod.ext ?_ rfl
  funext a b
  show (if a = o ∧ b = k then v else M.1 a b) = M.1 a b
  by_cases h1 : a = o ∧ b = k
  · rw [if_pos h1, h, h1.1, h1.2]
  · rw [if_neg h1]
theorem pi_comm {M : ab_M} {o k k' : Nat} {v x : Int32} (h : k ≠ k') : ab_pi (ab_pi M o k v) o k' x = ab_pi (ab_pi M o k' x) o k v := by
  unfold ab_pi
  refine Prod.ext ?_ rfl
  funext a b
  show (if a = o ∧ b = k' then x else if a = o ∧ b = k then v else M.1 a b) = if a = o ∧ b = k then v else if a = o ∧ b = k' then x else M.1 a b
  by_cases h1 : a = o ∧ b = k'
  · rw [if_pos h1, if_neg (by omega), if_pos h1]
  · rw [if_neg h1]
    by_cases h2 : a = o ∧ b = k
    · rw [if_pos h2, if_pos h2]
    · rw [if_neg h2, if_neg h2, if_neg h1]
/-! the model -/
theorem r_sy {σ : Sg} {M : ab_M} (hS : Sok σ) (hR : RepR σ M) {w : Nat} (hw : w < g_nw σ) : 0 ≤ M.1 79 w ↔ g_sy σ w ≠ 0 := by
  have := (hS.want hw).2.2.2
  rw [(hR.w hw).2]
  constructor
  · intro h e
    exact Int32.not_lt.mpr h ((nI_m1_neg (by omega)).mpr e)
  · intro h
    exact Int32.not_lt.mp (fun z => h ((nI_m1_neg (by omega)).mp z))
def hres (M : ab_M) (t w : Nat) : Option Nat → Int32 × ab_M
  | none => (0, M)
  | some c => (1, ab_pi M t w (nI c))
theorem harm_lt {σ : Sg} (hS : Sok σ) (p : Nat → Nat) : harm σ p < 2 ^ 31 := by
  have hnw := hS.nw
  have h1 : HL σ p ≤ 16 * (16 * 6) := by
    unfold HL
    refine Nat.le_trans (su_le (g := fun _ => 16 * 6) _ _ (fun u _ _ => ?_)) (by rw [su_const]; exact Nat.mul_le_mul_right _ hnw)
    refine Nat.le_trans (su_le (g := fun _ => 6) _ _ (fun v _ _ => lackP_le hS p u v)) (by rw [su_const]; exact Nat.mul_le_mul_right _ (by omega))
  have hsum : ∀ u v w, sumP σ p u v w ≤ 24 := by
    intro u v w
    unfold sumP
    split
    · have b1 := mid_le (X := pch σ p u) (Y := pch σ p v) (Z := pch σ p w) pch_len pch_len pch_len
      have b2 := mid_le (X := pch σ p v) (Y := pch σ p u) (Z := pch σ p w) pch_len pch_len pch_len
      have b3 := mid_le (X := pch σ p w) (Y := pch σ p u) (Z := pch σ p v) pch_len pch_len pch_len
      unfold s3
      omega
    · omega
  have h2 : HS σ p ≤ 16 * (16 * (16 * 24)) := by
    unfold HS
    refine Nat.le_trans (su_le (g := fun _ => 16 * (16 * 24)) _ _ (fun u _ _ => ?_)) (by rw [su_const]; exact Nat.mul_le_mul_right _ hnw)
    refine Nat.le_trans (su_le (g := fun _ => 16 * 24) _ _ (fun v _ _ => ?_)) (by rw [su_const]; exact Nat.mul_le_mul_right _ (by omega))
    refine Nat.le_trans (su_le (g := fun _ => 24) _ _ (fun w _ _ => hsum u v w)) (by rw [su_const]; exact Nat.mul_le_mul_right _ (by omega))
  have h3 : HX σ p ≤ 16 * 1 := by
    unfold HX
    refine Nat.le_trans (su_le (g := fun _ => 1) _ _ (fun w _ _ => ?_)) (by rw [su_const]; exact Nat.mul_le_mul_right _ hnw)
    rcases strP_01 σ p w with h | h <;> omega
  unfold harm
  omega
theorem r_heal9 {σ : Sg} {p : Nat → Nat} {M : ab_M} (hS : Sok σ) (hR : RepR σ M) (hp : Pok σ p) (hP : PlR σ p M) {w : Nat} (hw : w < g_nw σ) : ∀ (k j g : Nat), j + k = 30 → k < g → (ffind (hl σ p w) k j = none ∧ ∃ y, mi_X10_isHealedBy_9 g M (nI w) (pv (p w)) (nI j) = some (.inl (y, M))) ∨ ∃ c, ffind (hl σ p w) k j = some c ∧ mi_X10_isHealedBy_9 g M (nI w) (pv (p w)) (nI j) = some (.inr (1, ab_pi M 80 w (nI c))) := by
  have hw16 := hS.w16 hw
  have hpw := hp w hw
  have e1 : (nI w).toNatClampNeg = w := nI_clamp (by omega)
  intro k
  induction k with
  | zero =>
    intro j g hj hg
    obtain ⟨g, rfl⟩ : ∃ m, g = m + 1 := ⟨g - 1, by omega⟩
    obtain rfl : j = 30 := by omega
    left
    rw [mi_X10_isHealedBy_9.eq_2, if_pos (by decide)]
    exact ⟨rfl, _, rfl⟩
  | succ k ih =>
    intro j g hj hg
    obtain ⟨g, rfl⟩ : ∃ m, g = m + 1 := ⟨g - 1, by omega⟩
    rw [mi_X10_isHealedBy_9.eq_2, if_neg (show ¬ (30 : Int32) ≤ nI j from nI_ge (show j < 30 by omega) (by decide))]
    by_cases hc : chg σ p w
    · obtain ⟨hc1, hc2⟩ := id hc
      rw [if_neg (fun z => hc1 ((pv_neg (by omega)).mp z)), ab_chk_pos (vin hw16), e1, if_neg (fun z => (r_sy hS hR hw).mp z hc2), nI_1]
      have ih' := ih (j + 1) g (by omega) (by omega)
      have skip : ¬ hl σ p w j → (ffind (hl σ p w) (k + 1) j = none ∧ ∃ y, mi_X10_isHealedBy_9 g M (nI w) (pv (p w)) (nI (j + 1)) = some (.inl (y, M))) ∨ ∃ c, ffind (hl σ p w) (k + 1) j = some c ∧ mi_X10_isHealedBy_9 g M (nI w) (pv (p w)) (nI (j + 1)) = some (.inr (1, ab_pi M 80 w (nI c))) := by
        intro h
        rw [ffind_no h]
        exact ih'
      obtain ⟨a, ha⟩ : ∃ a, p w = a + 1 := ⟨p w - 1, by omega⟩
      have epv : pv (p w) = nI a := by rw [ha, pv_s]
      by_cases hj2 : j + 1 = p w
      · rw [if_pos (show nI j = pv (p w) by rw [epv, show j = a by omega])]
        exact skip (fun h => h.2.2.1 hj2)
      · rw [if_neg (show ¬ nI j = pv (p w) from fun z => by rw [epv] at z; have := (nI_eq (by omega) (by omega)).mp z; omega)]
        obtain ⟨z0, g1, g2, g3⟩ := r_mayHave hS hR hw (show j < 30 by omega)
        rw [g1, Option.bind_some]
        by_cases hm : may σ w j
        · rw [if_neg (fun z => g3.mp z hm), ab_chk_pos (vin hw16), r_harmNow (p := fup p w (j + 1)) hS (hR.p80 hS) (hp.up (by omega)) (hP.up (pv_s j).symm), Option.bind_some]
          by_cases h0 : harm σ (fup p w (j + 1)) = 0
          · rw [if_pos (by rw [h0]; rfl)]
            right
            refine ⟨j, ffind_yes ⟨hc, by omega, hj2, hm, h0⟩, rfl⟩
          · rw [if_neg (show ¬ nI (harm σ (fup p w (j + 1))) = (0 : Int32) from nI_ne0 (by omega) (harm_lt hS _)), ab_chk_pos (vin hw16), pi_pi, pi_id (hP w hw).symm]
            exact skip (fun h => h0 h.2.2.2.2)
        · rw [if_pos (g3.mpr hm)]
          exact skip (fun h => hm h.2.2.2.1)
    · left
      refine ⟨ffind_none _ _ (fun i _ _ h => hc h.1), ?_⟩
      by_cases h0 : p w = 0
      · rw [if_pos ((pv_neg (by omega)).mpr h0)]
        exact ⟨_, rfl⟩
      · rw [if_neg (fun z => h0 ((pv_neg (by omega)).mp z)), ab_chk_pos (vin hw16), e1, if_pos ((r_sy hS hR hw).mpr (fun z => hc ⟨h0, z⟩))]
        exact ⟨_, rfl⟩
theorem r_heal {σ : Sg} {p : Nat → Nat} {M : ab_M} (hS : Sok σ) (hR : RepR σ M) (hp : Pok σ p) (hP : PlR σ p M) {w : Nat} (hw : w < g_nw σ) : mi_X10_isHealedBy M (nI w) = some (hres M 80 w (ffind (hl σ p w) 30 0)) := by
  have hw16 := hS.w16 hw
  unfold mi_X10_isHealedBy
  rw [ab_chk_pos (vin hw16), nI_clamp (by omega), hP w hw]
  rcases r_heal9 hS hR hp hP hw 30 0 ab_F (by omega) (by unfold ab_F; omega) with ⟨h1, y, h2⟩ | ⟨c, h1, h2⟩
  · rw [h1, show (0 : Int32) = nI 0 from rfl, h2]
    rfl
  · rw [h1, show (0 : Int32) = nI 0 from rfl, h2]
    rfl
/-! the class -/
theorem c_canChange {σ : Sg} {p : Nat → Nat} {M : ab_M} {t : Nat} (hS : Sok σ) (hC : RepB σ M) {w : Nat} (hw : w < g_nw σ) (hpw : p w ≤ 30) (hPw : M.1 t w = pv (p w)) : (mi_X5_canChange M t (nI w) = some 1 ∧ chg σ p w) ∨ (mi_X5_canChange M t (nI w) = some 0 ∧ ¬ chg σ p w) := by
  have hw16 := hS.w16 hw
  have hsy := (hS.want hw).2.2.2
  unfold mi_X5_canChange
  rw [ab_chk_pos (vin hw16), ab_chk_pos (vin hw16), nI_clamp (by omega), hPw, (hC.w hw).2]
  by_cases h : p w = 0
  · right
    rw [if_pos ((pv_neg (by omega)).mpr h)]
    exact ⟨rfl, fun z => z.1 h⟩
  · rw [if_neg (fun z => h ((pv_neg (by omega)).mp z))]
    by_cases hs : g_sy σ w = 0
    · left
      rw [if_pos (by rw [hs]; rfl)]
      exact ⟨rfl, h, hs⟩
    · right
      rw [if_neg (show ¬ pv (g_sy σ w) = -2 from fun q => hs ((pv_inj (y := 0) (by omega) (by omega)).mp q))]
      exact ⟨rfl, fun z => hs z.2⟩
def cres : Option Nat → Int32
  | none => -2
  | some c => nI c
theorem c_least27 {P : Nat → Prop} {B : Int32} (hB : ∀ i, i < 30 → (bt B i = true ↔ P i)) (M : ab_M) (t : Nat) : ∀ (k j g : Nat), j + k = 30 → k < g → (ffind P k j = none ∧ ∃ y, mi_X5_leastFree_27 g M t B (nI j) = some (.inl y)) ∨ ∃ c, ffind P k j = some c ∧ mi_X5_leastFree_27 g M t B (nI j) = some (.inr (nI c)) := by
  intro k
  induction k with
  | zero =>
    intro j g hj hg
    obtain ⟨g, rfl⟩ : ∃ m, g = m + 1 := ⟨g - 1, by omega⟩
    obtain rfl : j = 30 := by omega
    left
    rw [mi_X5_leastFree_27.eq_2, if_pos (by decide)]
    exact ⟨rfl, _, rfl⟩
  | succ k ih =>
    intro j g hj hg
    obtain ⟨g, rfl⟩ : ∃ m, g = m + 1 := ⟨g - 1, by omega⟩
    rw [mi_X5_leastFree_27.eq_2, if_neg (show ¬ (30 : Int32) ≤ nI j from nI_ge (show j < 30 by omega) (by decide)), b_tu (by omega), nI_1]
    by_cases h : bt B j = true
    · rw [if_pos h, if_neg (by decide)]
      exact Or.inr ⟨j, ffind_yes ((hB j (by omega)).mp h), rfl⟩
    · rw [if_neg h, if_pos rfl, ffind_no (fun z => h ((hB j (by omega)).mpr z))]
      exact ih (j + 1) g (by omega) (by omega)
theorem c_leastFree {σ : Sg} {p : Nat → Nat} {M : ab_M} {t b : Nat} (hS : Sok σ) (hC : RepC σ M) (hp : Pok σ p) (hP : PlC σ p t M) {w : Nat} (hw : w < g_nw σ) (hb : b < 30) : mi_X5_leastFree M t (nI w) (nI b) = some (cres (ffind (fun c => c ≠ b ∧ c < 30 ∧ okW σ (fup p w (c + 1)) (g_nw σ) w) 30 0)) := by
  obtain ⟨B, h1, h2⟩ := c_freeChannels (N := g_nw σ) hS hC hp hP hw (Nat.le_refl _)
  unfold mi_X5_leastFree
  rw [hC.1.2.1, h1, Option.bind_some]
  have hB : ∀ i, i < 30 → (bt (B &&& (((1 : Int32) <<< (nI b &&& 31)) ^^^ (-1))) i = true ↔ i ≠ b ∧ i < 30 ∧ okW σ (fup p w (i + 1)) (g_nw σ) w) := by
    intro i hi
    rw [b_and, b_not _ (by omega), b_one (by omega) (by omega), Bool.and_eq_true, h2 i (by omega)]
    simp only [Bool.not_eq_true', decide_eq_false_iff_not]
    exact and_comm
  rcases c_least27 hB M t 30 0 ab_F (by omega) (by unfold ab_F; omega) with ⟨h3, y, h4⟩ | ⟨c, h3, h4⟩
  · rw [h3, show (0 : Int32) = nI 0 from rfl, h4]
    rfl
  · rw [h3, show (0 : Int32) = nI 0 from rfl, h4]
    rfl
theorem PlC.up {σ : Sg} {q : Nat → Nat} {M : ab_M} {t : Nat} (h : PlC σ q t M) {w x : Nat} {v : Int32} (hv : v = pv x) : PlC σ (fup q w x) t (ab_pi M t w v) := by
  intro u hu
  by_cases e : u = w
  · rw [e, fup_eq, pi_eq, hv]
  · rw [fup_ne e, pi_ne (by omega)]
    exact h u hu
theorem RepC.p67 {σ : Sg} {M : ab_M} (hS : Sok σ) (h : RepC σ M) {w : Nat} {v : Int32} : RepC σ (ab_pi M 67 w v) := h.same hS (fun c j hc => pi_ne (by unfold fC fB at hc; omega))
/-- the first want that one change heals, and its channel -/
noncomputable def fone (σ : Sg) (p : Nat → Nat) : Nat → Nat → Option (Nat × Nat)
  | 0, _ => none
  | k + 1, w => match ffind (hl σ p w) 30 0 with
    | some c => some (w, c)
    | none => fone σ p k (w + 1)
theorem fone_yes {σ : Sg} {p : Nat → Nat} {k w c : Nat} (h : ffind (hl σ p w) 30 0 = some c) : fone σ p (k + 1) w = some (w, c) := by
  show (match ffind (hl σ p w) 30 0 with | some c => some (w, c) | none => fone σ p k (w + 1)) = _
  rw [h]
theorem fone_no {σ : Sg} {p : Nat → Nat} {k w : Nat} (h : ffind (hl σ p w) 30 0 = none) : fone σ p (k + 1) w = fone σ p k (w + 1) := by
  show (match ffind (hl σ p w) 30 0 with | some c => some (w, c) | none => fone σ p k (w + 1)) = _
  rw [h]
theorem c_one2 {σ : Sg} {p : Nat → Nat} {M : ab_M} (hS : Sok σ) (hC : RepC σ M) (hp : Pok σ p) (hP : PlC σ p 67 M) : ∀ (k j g : Nat), j + k = g_nw σ → k < g → (fone σ p k j = none ∧ ∃ y, mi_X5_changeOne_2 g M 67 (nI j) = some (.inl (y, M))) ∨ ∃ w c, fone σ p k j = some (w, c) ∧ mi_X5_changeOne_2 g M 67 (nI j) = some (.inr (1, ab_pi M 67 w (nI c))) := by
  have hnw := hS.nw
  intro k
  induction k with
  | zero =>
    intro j g hj hg
    obtain ⟨g, rfl⟩ : ∃ m, g = m + 1 := ⟨g - 1, by omega⟩
    obtain rfl : j = g_nw σ := by omega
    left
    rw [mi_X5_changeOne_2.eq_2, hC.1.2.1, if_pos (Int32.le_refl _)]
    exact ⟨rfl, _, rfl⟩
  | succ k ih =>
    intro j g hj hg
    obtain ⟨g, rfl⟩ : ∃ m, g = m + 1 := ⟨g - 1, by omega⟩
    have hjw : j < g_nw σ := by omega
    have hj16 := hS.w16 hjw
    have hpj := hp j hjw
    have e1 : (nI j).toNatClampNeg = j := nI_clamp (by omega)
    have ih' := ih (j + 1) g (by omega) (by omega)
    have skip : ffind (hl σ p j) 30 0 = none → (fone σ p (k + 1) j = none ∧ ∃ y, mi_X5_changeOne_2 g M 67 (nI (j + 1)) = some (.inl (y, M))) ∨ ∃ w c, fone σ p (k + 1) j = some (w, c) ∧ mi_X5_changeOne_2 g M 67 (nI (j + 1)) = some (.inr (1, ab_pi M 67 w (nI c))) := fun h => by rw [fone_no h]; exact ih'
    rw [mi_X5_changeOne_2.eq_2, hC.1.2.1, if_neg (nI_ge hjw (by omega)), nI_1]
    rcases c_canChange hS hC.1 hjw hpj (hP j hjw) with ⟨q1, q2⟩ | ⟨q1, q2⟩
    · rw [q1, Option.bind_some, if_neg (by decide), ab_chk_pos (vin hj16), ab_chk_pos (vin hj16), e1]
      have hC1 : RepC σ (ab_pi M 67 j (-2)) := hC.p67 hS
      have hp1 : Pok σ (fup p j 0) := hp.up (by omega)
      have hP1 : PlC σ (fup p j 0) 67 (ab_pi M 67 j (-2)) := hP.up rfl
      rw [c_isClean hS hC1 hp1 hP1, Option.bind_some]
      obtain ⟨a, ha⟩ : ∃ a, p j = a + 1 := ⟨p j - 1, by have := q2.1; omega⟩
      have epv : M.1 67 j = nI a := by rw [hP j hjw, ha, pv_s]
      rw [epv]
      simp only [vin hj16, ab_chk_true]
      by_cases h0 : harm σ (fup p j 0) = 0
      · rw [if_pos h0, if_neg (by decide), c_leastFree hS hC1 hp1 hP1 hjw (show a < 30 by omega), Option.bind_some, Option.bind_some, pi_eq]
        have hf : ffind (fun c => c ≠ a ∧ c < 30 ∧ okW σ (fup (fup p j 0) j (c + 1)) (g_nw σ) j) 30 0 = ffind (hl σ p j) 30 0 := ffind_congr 30 0 (fun i _ _ => by
          rw [hl_iff hjw, fup_fup]
          constructor
          · rintro ⟨x, y, z⟩; exact ⟨q2, by omega, h0, y, z⟩
          · rintro ⟨-, x, -, y, z⟩; exact ⟨by omega, y, z⟩)
        rw [hf]
        cases hx : ffind (hl σ p j) 30 0 with
        | none =>
          show (_ ∧ ∃ y, (if (-2 : Int32) < 0 then _ else _) = _) ∨ ∃ w c, _ ∧ (if (-2 : Int32) < 0 then _ else _) = _
          rw [if_pos (by decide), pi_pi, pi_pi, pi_id epv.symm]
          exact skip hx
        | some c =>
          have hc := (ffind_some 30 0 hx).2.2
          right
          refine ⟨j, c, fone_yes hx, ?_⟩
          show (if nI c < 0 then _ else some (Sum.inr ((1 : Int32), ab_pi (ab_pi M 67 j (-2)) 67 j (nI c)))) = _
          rw [if_neg (nI_pos (by omega)), pi_pi]
      · rw [if_neg h0, if_pos rfl, Option.bind_some, pi_eq, if_pos (by decide), pi_pi, pi_pi, pi_id epv.symm]
        exact skip (ffind_none 30 0 (fun i _ _ h => h0 ((hl_iff hjw).mp h).2.2.1))
    · rw [q1, Option.bind_some, if_pos rfl]
      exact skip (ffind_none 30 0 (fun i _ _ h => q2 h.1))
def hres2 (M : ab_M) (t : Nat) : Option (Nat × Nat) → Int32 × ab_M
  | none => (0, M)
  | some (w, c) => (1, ab_pi M t w (nI c))
theorem c_one {σ : Sg} {p : Nat → Nat} {M : ab_M} (hS : Sok σ) (hC : RepC σ M) (hp : Pok σ p) (hP : PlC σ p 67 M) : mi_X5_changeOne M 67 = some (hres2 M 67 (fone σ p (g_nw σ) 0)) := by
  have hnw := hS.nw
  unfold mi_X5_changeOne
  rcases c_one2 hS hC hp hP (g_nw σ) 0 ab_F (by omega) (ab_F_lt (by omega)) with ⟨h1, y, h2⟩ | ⟨w, c, h1, h2⟩
  · rw [h1, show (0 : Int32) = nI 0 from rfl, h2]
    rfl
  · rw [h1, show (0 : Int32) = nI 0 from rfl, h2]
    rfl
