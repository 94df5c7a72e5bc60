/-! PURE: tries: the model -/
theorem lsum_le {α : Type} {f : α → Nat} {b : Nat} : ∀ X : List α, (∀ x, x ∈ X → f x ≤ b) → lsum f X ≤ X.length * b
  | [], _ => by simp [lsum_nil]
  | x :: X, h => by
    rw [lsum_cons]
    have h1 := h x (by simp)
    have h2 := lsum_le X (fun y hy => h y (by simp [hy]))
    simp only [List.length_cons]
    rw [Nat.add_mul, Nat.one_mul]
    omega
theorem mid_le {X Y Z : List Nat} (hX : X.length ≤ 2) (hY : Y.length ≤ 2) (hZ : Z.length ≤ 2) : mid X Y Z ≤ 8 := by
  rw [mid_lsum]
  refine Nat.le_trans (lsum_le (b := 4) X (fun x _ => Nat.le_trans (lsum_le (b := 2) Y (fun y _ => Nat.le_trans (lsum_le (b := 1) Z (fun z _ => ?_)) ?_)) ?_)) ?_
  · split <;> omega
  · omega
  · omega
  · omega
/-- no lack and no sum with those before -/
def fine (σ : Sg) (p : Nat → Nat) (w : Nat) : Prop := (∀ u, u < w → lackP σ p u w = 0) ∧ ∀ u v, u < v → v < w → sumP σ p u v w = 0
theorem r_isFine20 {σ : Sg} {M : ab_M} {p : Nat → Nat} (hS : Sok σ) (hR : RepR σ M) (hp : Pok σ p) (hP : PlR σ p M) {v w : Nat} (hv : v < g_nw σ) (hw : w < g_nw σ) : ∀ (k j n : Nat), j + k = v → k < n → (∃ z, mi_X10_isFine_20 n M (nI w) (nI v) (nI j) = some (.inl z) ∧ ∀ u, j ≤ u → u < v → sumP σ p u v w = 0) ∨ (mi_X10_isFine_20 n M (nI w) (nI v) (nI j) = some (.inr 0) ∧ ¬ ∀ u, j ≤ u → u < v → sumP σ p u v w = 0) := by
  have hnw := hS.nw
  intro k
  induction k with
  | zero =>
    intro j n hj hn
    obtain ⟨n, rfl⟩ : ∃ m, n = m + 1 := ⟨n - 1, by omega⟩
    obtain rfl : j = v := by omega
    left
    rw [mi_X10_isFine_20.eq_2, if_pos (Int32.le_refl _)]
    exact ⟨_, rfl, fun w h1 h2 => by omega⟩
  | succ k ih =>
    intro j n hj hn
    obtain ⟨n, rfl⟩ : ∃ m, n = m + 1 := ⟨n - 1, by omega⟩
    have hjv : j < v := by omega
    have hjw : j < g_nw σ := by omega
    have hj16 := hS.w16 hjw
    have hv16 := hS.w16 hv
    have hw16 := hS.w16 hw
    have step : sumP σ p j v w = 0 → (∃ z, mi_X10_isFine_20 n M (nI w) (nI v) (nI (j + 1)) = some (.inl z) ∧ ∀ u, j ≤ u → u < v → sumP σ p u v w = 0) ∨ (mi_X10_isFine_20 n M (nI w) (nI v) (nI (j + 1)) = some (.inr 0) ∧ ¬ ∀ u, j ≤ u → u < v → sumP σ p u v w = 0) := by
      intro ho
      rcases ih (j + 1) n (by omega) (by omega) with ⟨z, h1, h2⟩ | ⟨h1, h2⟩
      · refine Or.inl ⟨z, h1, fun w a b => ?_⟩
        by_cases e : w = j
        · subst e; exact ho
        · exact h2 w (by omega) b
      · exact Or.inr ⟨h1, fun q => h2 (fun w a b => q w (by omega) b)⟩
    rw [mi_X10_isFine_20.eq_2, if_neg (nI_ge hjv (by omega)), ab_chk_pos (vin hj16), ab_chk_pos (vin hv16), ab_chk_pos (vin hw16), nI_clamp (show j < 2 ^ 31 by omega), nI_clamp (show v < 2 ^ 31 by omega), nI_clamp (show w < 2 ^ 31 by omega), (hR.w hjw).1, (hR.w hv).1, (hR.w hw).1, r_areIn hS hR (hS.mo hjw) (hS.mo hv) (hS.mo hw), b_if, nI_1]
    by_cases hi : inn σ (g_mo σ j) (g_mo σ v) (g_mo σ w)
    · rw [if_pos hi, r_middles hS hR hp hP hjw hv hw, Option.bind_some, r_middles hS hR hp hP hv hjw hw, Option.bind_some, r_middles hS hR hp hP hw hjw hv, Option.bind_some, nI_add, nI_add]
      have e : sumP σ p j v w = mid (pch σ p j) (pch σ p v) (pch σ p w) + mid (pch σ p v) (pch σ p j) (pch σ p w) + mid (pch σ p w) (pch σ p j) (pch σ p v) := by unfold sumP; rw [if_pos hi]; rfl
      have b1 := mid_le (X := pch σ p j) (Y := pch σ p v) (Z := pch σ p w) pch_len pch_len pch_len
      have b2 := mid_le (X := pch σ p v) (Y := pch σ p j) (Z := pch σ p w) pch_len pch_len pch_len
      have b3 := mid_le (X := pch σ p w) (Y := pch σ p j) (Z := pch σ p v) pch_len pch_len pch_len
      rw [← e]
      have hb : sumP σ p j v w ≤ 24 := by omega
      by_cases h0 : sumP σ p j v w = 0
      · rw [if_pos (show nI (sumP σ p j v w) ≤ 0 by rw [h0]; decide)]
        exact step h0
      · rw [if_neg (show ¬ nI (sumP σ p j v w) ≤ 0 from nI_ge (show 0 < sumP σ p j v w by omega) (by omega))]
        exact Or.inr ⟨rfl, fun q => h0 (q j (Nat.le_refl _) hjv)⟩
    · rw [if_neg hi]
      exact step (by unfold sumP; rw [if_neg hi])
theorem r_isFine2 {σ : Sg} {M : ab_M} {p : Nat → Nat} (hS : Sok σ) (hR : RepR σ M) (hp : Pok σ p) (hP : PlR σ p M) {w : Nat} (hw : w < g_nw σ) : ∀ (k j n : Nat), j + k = w → k < n → (∃ z, mi_X10_isFine_2 n M (nI w) (nI j) = some (.inl z) ∧ ∀ v, j ≤ v → v < w → lackP σ p v w = 0 ∧ ∀ u, u < v → sumP σ p u v w = 0) ∨ (mi_X10_isFine_2 n M (nI w) (nI j) = some (.inr 0) ∧ ¬ ∀ v, j ≤ v → v < w → lackP σ p v w = 0 ∧ ∀ u, u < v → sumP σ p u v w = 0) := by
  have hnw := hS.nw
  intro k
  induction k with
  | zero =>
    intro j n hj hn
    obtain ⟨n, rfl⟩ : ∃ m, n = m + 1 := ⟨n - 1, by omega⟩
    obtain rfl : j = w := by omega
    left
    rw [mi_X10_isFine_2.eq_2, if_pos (Int32.le_refl _)]
    exact ⟨_, rfl, fun w h1 h2 => by omega⟩
  | succ k ih =>
    intro j n hj hn
    obtain ⟨n, rfl⟩ : ∃ m, n = m + 1 := ⟨n - 1, by omega⟩
    have hjv : j < w := by omega
    have hjw : j < g_nw σ := by omega
    have hl := lackP_le hS p j w
    rw [mi_X10_isFine_2.eq_2, if_neg (nI_ge hjv (by omega)), r_lack hS hR hp hP hjw hw, Option.bind_some, nI_1]
    by_cases h0 : lackP σ p j w = 0
    · rw [if_pos (show nI (lackP σ p j w) ≤ 0 by rw [h0]; decide)]
      rcases r_isFine20 hS hR hp hP hjw hw j 0 ab_F (by omega) (ab_F_lt (by omega)) with ⟨z, h1, h2⟩ | ⟨h1, h2⟩
      · rw [show (0 : Int32) = nI 0 from rfl, h1, Option.bind_some]
        show (∃ z, mi_X10_isFine_2 n M (nI w) (nI (j + 1)) = _ ∧ _) ∨ (mi_X10_isFine_2 n M (nI w) (nI (j + 1)) = _ ∧ _)
        rcases ih (j + 1) n (by omega) (by omega) with ⟨z, h3, h4⟩ | ⟨h3, h4⟩
        · refine Or.inl ⟨z, h3, fun v a b => ?_⟩
          by_cases e : v = j
          · subst e; exact ⟨h0, fun u hu => h2 u (Nat.zero_le _) hu⟩
          · exact h4 v (by omega) b
        · exact Or.inr ⟨h3, fun q => h4 (fun v a b => q v (by omega) b)⟩
      · rw [show (0 : Int32) = nI 0 from rfl, h1, Option.bind_some]
        exact Or.inr ⟨rfl, fun q => h2 (fun u _ hu => (q j (Nat.le_refl _) hjv).2 u hu)⟩
    · rw [if_neg (show ¬ nI (lackP σ p j w) ≤ 0 from nI_ge (show 0 < lackP σ p j w by omega) (by omega))]
      exact Or.inr ⟨rfl, fun q => h0 (q j (Nat.le_refl _) hjv).1⟩
theorem r_isFine {σ : Sg} {M : ab_M} {p : Nat → Nat} (hS : Sok σ) (hR : RepR σ M) (hp : Pok σ p) (hP : PlR σ p M) {w : Nat} (hw : w < g_nw σ) : (mi_X10_isFine M (nI w) = some 1 ∧ fine σ p w) ∨ (mi_X10_isFine M (nI w) = some 0 ∧ ¬ fine σ p w) := by
  have hnw := hS.nw
  unfold mi_X10_isFine
  rcases r_isFine2 hS hR hp hP hw w 0 ab_F (by omega) (ab_F_lt (by omega)) with ⟨z, h1, h2⟩ | ⟨h1, h2⟩
  · left
    rw [show (0 : Int32) = nI 0 from rfl, h1]
    exact ⟨rfl, fun u hu => (h2 u (Nat.zero_le _) hu).1, fun u v huv hv => (h2 v (Nat.zero_le _) hv).2 u huv⟩
  · right
    rw [show (0 : Int32) = nI 0 from rfl, h1]
    exact ⟨rfl, fun q => h2 (fun v _ hv => ⟨q.1 v hv, fun u hu => q.2 u v hu hv⟩)⟩
/-- a want is its mast's second or third -/
theorem sameM {σ : Sg} (hS : Sok σ) {w : Nat} (hw : w < g_nw σ) : g_fw σ (g_mo σ w) < w ↔ 0 < w ∧ g_mo σ (w - 1) = g_mo σ w := by
  obtain ⟨h1, h2, h3, -⟩ := hS.want hw
  constructor
  · intro h
    have := hS.2.2.2.2.2.2.2.2.2.2.2.1 (g_mo σ w) h1 (w - 1 - g_fw σ (g_mo σ w)) (by omega)
    rw [show g_fw σ (g_mo σ w) + (w - 1 - g_fw σ (g_mo σ w)) = w - 1 by omega] at this
    exact ⟨by omega, this⟩
  · rintro ⟨a, b⟩
    obtain ⟨-, h4, -⟩ := hS.want (show w - 1 < g_nw σ by omega)
    rw [b] at h4
    omega
theorem PlR.up {σ : Sg} {q : Nat → Nat} {M : ab_M} (h : PlR σ q M) {w x : Nat} {v : Int32} (hv : v = pv x) : PlR σ (fup q w x) (ab_pi M 80 w v) := by
  intro u hu
  by_cases e : u = w
  · rw [e, fup_eq, pi_eq, hv]
  · rw [fup_ne e, pi_ne (by omega)]
    exact h u hu
theorem Pok.up {σ : Sg} {q : Nat → Nat} (h : Pok σ q) {w x : Nat} (hx : x ≤ 30) : Pok σ (fup q w x) := by
  intro u hu
  by_cases e : u = w
  · rw [e, fup_eq]; exact hx
  · rw [fup_ne e]; exact h u hu
theorem RepR.p80 {σ : Sg} {M : ab_M} (hS : Sok σ) (h : RepR σ M) {w : Nat} {v : Int32} : RepR σ (ab_pi M 80 w v) := h.same hS (fun c j hc => pi_ne (by unfold fR at hc; omega))
theorem okW_fine {σ : Sg} {p : Nat → Nat} {w : Nat} (h0 : p w ≠ 0) : okW σ p w w ↔ may σ w (p w - 1) ∧ fine σ p w := by
  unfold okW fine
  constructor
  · rintro ⟨a, b, c⟩
    exact ⟨a h0, fun u hu => b u hu (by omega), fun u v huv hv => c u v huv hv (by omega) (by omega)⟩
  · rintro ⟨a, b, c⟩
    exact ⟨fun _ => a, fun u hu _ => b u hu, fun u v huv hv _ _ => c u v huv hv⟩
theorem r_tail {σ : Sg} {M : ab_M} {q : Nat → Nat} (hS : Sok σ) (hR : RepR σ M) (hp : Pok σ q) (hP : PlR σ q M) {w c : Nat} (hw : w < g_nw σ) (hc : c < 30) :
    ∃ z : Int32, ((mi_X10_isFine (ab_pi M 80 w (nI c)) (nI w)).bind fun q34 => ((if q34 = 0 then some (-2) else some (nI c)) : Option (Int32)).bind fun q36 => ab_chk (vp_in (nI w) 16) <| ab_chk (q34 = 0 ∨ q34 = 1) <| some (q34, (ab_pi (ab_pi M 80 w (nI c)) 80 w q36))) = some (z, ab_pi (ab_pi M 80 w (nI c)) 80 w (if z = 0 then -2 else nI c)) ∧ (z = 0 ∨ z = 1) ∧ (z = 0 ↔ ¬ fine σ (fup q w (c + 1)) w) := by
  have hw16 := hS.w16 hw
  rcases r_isFine (M := ab_pi M 80 w (nI c)) hS (hR.p80 hS) (hp.up (w := w) (x := c + 1) (by omega)) (hP.up (pv_s c).symm) hw with ⟨h1, h2⟩ | ⟨h1, h2⟩
  · refine ⟨1, ?_, Or.inr rfl, by simp only [show ¬ (1 : Int32) = 0 by decide, false_iff]; exact fun z => z h2⟩
    rw [h1, Option.bind_some, if_neg (by decide), Option.bind_some, ab_chk_pos (vin hw16), ab_chk_pos (Or.inr rfl), if_neg (by decide)]
  · refine ⟨0, ?_, Or.inl rfl, by simp only [true_iff]; exact h2⟩
    rw [h1, Option.bind_some, if_pos rfl, Option.bind_some, ab_chk_pos (vin hw16), ab_chk_pos (Or.inl rfl), if_pos rfl]
theorem r_isTaken {σ : Sg} {M : ab_M} {q : Nat → Nat} (hS : Sok σ) (hR : RepR σ M) (hp : Pok σ q) (hP : PlR σ q M) {w c n : Nat} (hw : w < g_nw σ) (hc : c < n) (hn : n ≤ 30) (hq0 : q w = 0) (hq : ∀ u, u < w → 1 ≤ q u) : ∃ (z : Int32) (M' : ab_M), mi_X10_isTaken M (nI w) (nI c) (nI n) = some (z, M') ∧ (∀ c j, c ≠ 80 → M'.1 c j = M.1 c j) ∧ M'.2 = M.2 ∧ ((z = 1 ∧ okT σ q n w c ∧ PlR σ (fup q w (c + 1)) M') ∨ (z = 0 ∧ ¬ okT σ q n w c ∧ PlR σ q M')) := by
  have hw16 := hS.w16 hw
  have hm := hS.mo hw
  have hm12 := hS.mo12 hw
  obtain ⟨z0, g1, g2, g3⟩ := r_mayHave hS hR hw (show c < 30 by omega)
  have e1 : (nI w).toNatClampNeg = w := nI_clamp (by omega)
  have e2 : (nI (g_mo σ w)).toNatClampNeg = g_mo σ w := nI_clamp (by omega)
  obtain ⟨k0, -, -, -, -, k5, -, k7⟩ := hR.m hm
  obtain ⟨l0, -, -, -, -, -, -, -, l8, l9⟩ := hS.mast hm
  have hfw : g_fw σ (g_mo σ w) ≤ w := (hS.want hw).2.1
  have hokT : okT σ q n w c ↔ may σ w c ∧ fine σ (fup q w (c + 1)) w ∧ c + gapW σ w < n ∧ (0 < w → g_mo σ (w - 1) = g_mo σ w → q (w - 1) ≤ c) := by
    unfold okT
    rw [okW_fine (by rw [fup_eq]; omega), fup_eq, Nat.add_sub_cancel]
    constructor
    · rintro ⟨-, ⟨a, b⟩, c, d⟩; exact ⟨a, b, c, d⟩
    · rintro ⟨a, b, c, d⟩; exact ⟨by omega, ⟨a, b⟩, c, d⟩
  have no : ¬ okT σ q n w c → ∃ (z : Int32) (M' : ab_M), (some ((0 : Int32), M) : Option (Int32 × ab_M)) = some (z, M') ∧ (∀ c j, c ≠ 80 → M'.1 c j = M.1 c j) ∧ M'.2 = M.2 ∧ ((z = 1 ∧ okT σ q n w c ∧ PlR σ (fup q w (c + 1)) M') ∨ (z = 0 ∧ ¬ okT σ q n w c ∧ PlR σ q M')) := fun h => ⟨0, M, rfl, fun _ _ _ => rfl, rfl, Or.inr ⟨rfl, h, hP⟩⟩
  have yes : (okT σ q n w c ↔ fine σ (fup q w (c + 1)) w) → ∃ (z : Int32) (M' : ab_M), ((mi_X10_isFine (ab_pi M 80 w (nI c)) (nI w)).bind fun q34 => ((if q34 = 0 then some (-2) else some (nI c)) : Option (Int32)).bind fun q36 => ab_chk (vp_in (nI w) 16) <| ab_chk (q34 = 0 ∨ q34 = 1) <| some (q34, (ab_pi (ab_pi M 80 w (nI c)) 80 w q36))) = some (z, M') ∧ (∀ c j, c ≠ 80 → M'.1 c j = M.1 c j) ∧ M'.2 = M.2 ∧ ((z = 1 ∧ okT σ q n w c ∧ PlR σ (fup q w (c + 1)) M') ∨ (z = 0 ∧ ¬ okT σ q n w c ∧ PlR σ q M')) := by
    intro h
    obtain ⟨z, t1, t2, t3⟩ := r_tail hS hR hp hP hw (show c < 30 by omega)
    refine ⟨z, _, t1, fun c' j hc' => by rw [pi_ne (by omega), pi_ne (by omega)], rfl, ?_⟩
    rcases t2 with rfl | rfl
    · refine Or.inr ⟨rfl, fun x => (t3.mp rfl) (h.mp x), fun u hu => ?_⟩
      rw [if_pos rfl]
      by_cases e : u = w
      · rw [e, pi_eq, hq0]; rfl
      · rw [pi_ne (by omega), pi_ne (by omega)]; exact hP u hu
    · refine Or.inl ⟨rfl, h.mpr (Classical.not_not.mp (fun x => absurd (t3.mpr x) (by decide))), fun u hu => ?_⟩
      rw [if_neg (by decide)]
      by_cases e : u = w
      · rw [e, pi_eq, fup_eq]; rfl
      · rw [pi_ne (by omega), pi_ne (by omega), fup_ne e]; exact hP u hu
  -- the second or third want of a mast
  have last : (okT σ q n w c ↔ fine σ (fup q w (c + 1)) w ∧ (0 < w → g_mo σ (w - 1) = g_mo σ w → q (w - 1) ≤ c)) → ∃ (z : Int32) (M' : ab_M), (if nI w ≤ nI (g_fw σ (g_mo σ w)) then ab_chk (vp_in (nI w) 16) <| (mi_X10_isFine (ab_pi M 80 w (nI c)) (nI w)).bind fun q34 => ((if q34 = 0 then some (-2) else some (nI c)) : Option (Int32)).bind fun q36 => ab_chk (vp_in (nI w) 16) <| ab_chk (q34 = 0 ∨ q34 = 1) <| some (q34, (ab_pi (ab_pi M 80 w (nI c)) 80 w q36)) else ab_chk (vp_in (nI w - 1) 16) <| if (M.1 80 (nI w - 1).toNatClampNeg) < nI c then ab_chk (vp_in (nI w) 16) <| (mi_X10_isFine (ab_pi M 80 w (nI c)) (nI w)).bind fun q34 => ((if q34 = 0 then some (-2) else some (nI c)) : Option (Int32)).bind fun q36 => ab_chk (vp_in (nI w) 16) <| ab_chk (q34 = 0 ∨ q34 = 1) <| some (q34, (ab_pi (ab_pi M 80 w (nI c)) 80 w q36)) else some (0, M)) = some (z, M') ∧ (∀ c j, c ≠ 80 → M'.1 c j = M.1 c j) ∧ M'.2 = M.2 ∧ ((z = 1 ∧ okT σ q n w c ∧ PlR σ (fup q w (c + 1)) M') ∨ (z = 0 ∧ ¬ okT σ q n w c ∧ PlR σ q M')) := by
    intro h
    have hsm := sameM hS hw
    by_cases hx : w ≤ g_fw σ (g_mo σ w)
    · rw [if_pos (nI_le hx (by omega)), ab_chk_pos (vin hw16)]
      refine yes (h.trans ⟨fun z => z.1, fun z => ⟨z, fun a b => ?_⟩⟩)
      have := hsm.mpr ⟨a, b⟩
      omega
    · obtain ⟨w0, hmo⟩ := hsm.mp (by omega)
      have e3 : nI w - 1 = nI (w - 1) := nI_m1 (by omega)
      rw [if_neg (nI_ge (by omega) (by omega)), e3, ab_chk_pos (vin (show w - 1 < 16 by omega)), nI_clamp (show w - 1 < 2 ^ 31 by omega), hP (w - 1) (by omega)]
      have hq1 := hq (w - 1) (by omega)
      have hq2 := hp (w - 1) (by omega)
      obtain ⟨a, ha⟩ : ∃ a, q (w - 1) = a + 1 := ⟨q (w - 1) - 1, by omega⟩
      rw [ha, pv_s]
      by_cases hy : a < c
      · rw [if_pos (nI_lt hy (by omega)), ab_chk_pos (vin hw16)]
        exact yes (h.trans ⟨fun z => z.1, fun z => ⟨z, fun _ _ => by omega⟩⟩)
      · rw [if_neg (nI_nlt (by omega) (by omega))]
        exact no (fun z => by have := (h.mp z).2 w0 hmo; omega)
  unfold mi_X10_isTaken
  rw [ab_chk_pos (vin hw16), g1, Option.bind_some, e1, (hR.w hw).1, e2, k0, k5, k7]
  simp only [vin hm12, ab_chk_true]
  by_cases h0 : z0 = 0
  · rw [if_pos h0]
    exact no (fun z => g3.mp h0 (hokT.mp z).1)
  · rw [if_neg h0]
    have hmay : may σ w c := Classical.not_not.mp (fun x => h0 (g3.mpr x))
    by_cases hk : g_kd σ (g_mo σ w) = 1
    · have hg : gapW σ w = g_gp σ (g_mo σ w) := by unfold gapW; rw [if_pos hk]
      rw [if_pos (show nI (g_kd σ (g_mo σ w)) = 1 by rw [hk]; rfl), nI_add]
      by_cases hy : n ≤ c + g_gp σ (g_mo σ w)
      · rw [if_pos (nI_le hy (by omega))]
        exact no (fun z => by have := (hokT.mp z).2.2.1; omega)
      · rw [if_neg (nI_ge (by omega) (by omega))]
        exact last (hokT.trans ⟨fun z => ⟨z.2.1, z.2.2.2⟩, fun z => ⟨hmay, z.1, by omega, z.2⟩⟩)
    · have hg : gapW σ w = 0 := by unfold gapW; rw [if_neg hk]
      rw [if_neg (show ¬ nI (g_kd σ (g_mo σ w)) = (1 : Int32) from fun q => hk ((nI_eq (by omega) (by decide)).mp q))]
      exact last (hokT.trans ⟨fun z => ⟨z.2.1, z.2.2.2⟩, fun z => ⟨hmay, z.1, by omega, z.2⟩⟩)
