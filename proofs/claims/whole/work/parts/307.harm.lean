/-! PURE: harm -/
theorem lp_sum (L : Nat → Int32 → Int32 → Option (Int32 × Int32)) (N : Nat) (f : Nat → Nat) (hs : ∀ n j a, j < N → L (n + 1) (nI a) (nI j) = L n (nI (a + f j)) (nI (j + 1))) (he : ∀ n a, L (n + 1) (nI a) (nI N) = some (nI a, nI N)) (j a : Nat) (hj : j ≤ N) (hN : N < 50000) : L ab_F (nI a) (nI j) = some (nI (a + su f (N - j) j), nI N) := by
  have h := lp_up (fun n (a : Nat) x => L n (nI a) x) N (fun i a => a + f i) (fun a => some (nI a, nI N)) (fun _ _ => True) (fun n j a hj _ => ⟨hs n j a hj, trivial⟩) (fun n a _ => he n a) (N - j) j a ab_F (by omega) (ab_F_lt (by omega)) trivial
  rw [fu_su] at h
  exact h.1
theorem inn_rot (σ : Sg) (a b c : Nat) : inn σ c a b ↔ inn σ a b c := by
  unfold inn
  rw [sq_comm σ c a, sq_comm σ c b]
  constructor
  · rintro ⟨h1, h2, h3, h4, h5, h6⟩; exact ⟨h2, Ne.symm h3, Ne.symm h1, h5, h6, h4⟩
  · rintro ⟨h1, h2, h3, h4, h5, h6⟩; exact ⟨Ne.symm h3, h1, Ne.symm h2, h6, h4, h5⟩
theorem inn_swap (σ : Sg) (a b c : Nat) : inn σ b a c ↔ inn σ a b c := by
  unfold inn
  rw [sq_comm σ b a]
  constructor
  · rintro ⟨h1, h2, h3, h4, h5, h6⟩; exact ⟨Ne.symm h1, h3, h2, h4, h6, h5⟩
  · rintro ⟨h1, h2, h3, h4, h5, h6⟩; exact ⟨Ne.symm h1, h3, h2, h4, h6, h5⟩
theorem r_areIn {σ : Sg} {M : ab_M} (hS : Sok σ) (hR : RepR σ M) {a b c : Nat} (ha : a < g_nm σ) (hb : b < g_nm σ) (hc : c < g_nm σ) : mi_X10_areIn M (nI a) (nI b) (nI c) = some (if inn σ a b c then 1 else 0) := by
  have ha12 := hS.m12 ha
  have hb12 := hS.m12 hb
  have hc12 := hS.m12 hc
  have hrc := hS.rc
  have s1 := sq_le hS ha hb
  have s2 := sq_le hS hb hc
  have s3 := sq_le hS ha hc
  have er := hR.2.2.2.2.1
  unfold mi_X10_areIn
  rw [er, r_square hS hR ha hb, r_square hS hR hb hc, r_square hS hR ha hc]
  simp only [Option.bind_some]
  by_cases h1 : a = b
  · rw [if_pos (by rw [h1]), if_neg (fun q => q.1 h1)]
  · rw [if_neg (fun q => h1 ((nI_eq (by omega) (by omega)).mp q))]
    by_cases h2 : b = c
    · rw [if_pos (by rw [h2]), if_neg (fun q => q.2.1 h2)]
    · rw [if_neg (fun q => h2 ((nI_eq (by omega) (by omega)).mp q))]
      by_cases h3 : a = c
      · rw [if_pos (by rw [h3]), if_neg (fun q => q.2.2.1 h3)]
      · rw [if_neg (fun q => h3 ((nI_eq (by omega) (by omega)).mp q))]
        by_cases h4 : sq σ a b < g_rc σ
        · rw [if_neg (fun q => absurd ((nI_m1_lt (by omega) (by omega)).mp q) (by omega))]
          by_cases h5 : sq σ b c < g_rc σ
          · rw [if_neg (fun q => absurd ((nI_m1_lt (by omega) (by omega)).mp q) (by omega))]
            by_cases h6 : sq σ a c < g_rc σ
            · rw [if_neg (fun q => absurd ((nI_m1_lt (by omega) (by omega)).mp q) (by omega)), if_pos ⟨h1, h2, h3, h4, h5, h6⟩]
            · rw [if_pos ((nI_m1_lt (by omega) (by omega)).mpr (by omega)), if_neg (fun q => h6 q.2.2.2.2.2)]
          · rw [if_pos ((nI_m1_lt (by omega) (by omega)).mpr (by omega)), if_neg (fun q => h5 q.2.2.2.2.1)]
        · rw [if_pos ((nI_m1_lt (by omega) (by omega)).mpr (by omega)), if_neg (fun q => h4 q.2.2.2.1)]
theorem RepC.near {σ : Sg} {M : ab_M} (h : RepC σ M) {a : Nat} (ha : a < g_nm σ) {i : Nat} (hi : i < 32) : bt (M.1 11 a) i = true ↔ i < g_nm σ ∧ a ≠ i ∧ sq σ a i < g_rc σ := h.2.2 a ha i hi
theorem c_areIn {σ : Sg} {M : ab_M} (hS : Sok σ) (hC : RepC σ M) {a b c : Nat} (ha : a < g_nm σ) (hb : b < g_nm σ) (hc : c < g_nm σ) : mi_X3_areIn M (nI a) (nI b) (nI c) = some (if inn σ a b c then 1 else 0) := by
  have ha12 := hS.m12 ha
  have hb12 := hS.m12 hb
  have hc12 := hS.m12 hc
  unfold mi_X3_areIn
  simp only [vin ha12, vin hb12, ab_chk_true, nI_clamp (show a < 2 ^ 31 by omega), nI_clamp (show b < 2 ^ 31 by omega)]
  rw [b_and1, b_and, b_and, b_ushr b (by omega), b_ushr c (by omega), b_ushr c (by omega), Nat.add_zero, Nat.add_zero]
  have key : (bt (M.1 11 a) b && bt (M.1 11 a) c && bt (M.1 11 b) c) = true ↔ inn σ a b c := by
    rw [Bool.and_eq_true, Bool.and_eq_true, hC.near ha (by omega), hC.near ha (by omega), hC.near hb (by omega)]
    unfold inn
    constructor
    · rintro ⟨⟨⟨-, h1, h4⟩, -, h3, h6⟩, -, h2, h5⟩; exact ⟨h1, h2, h3, h4, h5, h6⟩
    · rintro ⟨h1, h2, h3, h4, h5, h6⟩; exact ⟨⟨⟨hb, h1, h4⟩, hc, h3, h6⟩, hc, h2, h5⟩
  by_cases h : inn σ a b c
  · rw [if_pos (key.mpr h), if_neg (by decide), if_pos h]
  · rw [if_neg (fun q => h (key.mp q)), if_pos rfl, if_neg h]
/-! the sums of a plan -/
def sumP (σ : Sg) (p : Nat → Nat) (u v w : Nat) : Nat := if inn σ (g_mo σ u) (g_mo σ v) (g_mo σ w) then s3 (pch σ p u) (pch σ p v) (pch σ p w) else 0
theorem sumP_rot (σ : Sg) (p : Nat → Nat) (u v w : Nat) : sumP σ p w u v = sumP σ p u v w := by
  unfold sumP
  rw [s3_rot]
  by_cases h : inn σ (g_mo σ u) (g_mo σ v) (g_mo σ w)
  · rw [if_pos h, if_pos ((inn_rot _ _ _ _).mpr h)]
  · rw [if_neg h, if_neg (fun q => h ((inn_rot _ _ _ _).mp q))]
theorem sumP_swap (σ : Sg) (p : Nat → Nat) (u v w : Nat) : sumP σ p v u w = sumP σ p u v w := by
  unfold sumP
  rw [s3_swap]
  by_cases h : inn σ (g_mo σ u) (g_mo σ v) (g_mo σ w)
  · rw [if_pos h, if_pos ((inn_swap _ _ _ _).mpr h)]
  · rw [if_neg h, if_neg (fun q => h ((inn_swap _ _ _ _).mp q))]
theorem pch_0 {σ : Sg} {p : Nat → Nat} {w : Nat} (h : p w = 0) : pch σ p w = [] := by unfold pch; rw [if_pos h]
theorem s3_nil (Y Z : List Nat) : s3 [] Y Z = 0 := by rw [s3_lsum]; rfl
theorem sumP_0 {σ : Sg} {p : Nat → Nat} {u v w : Nat} (h : p u = 0 ∨ p v = 0 ∨ p w = 0) : sumP σ p u v w = 0 := by
  have h1 : ∀ a b c, p a = 0 → sumP σ p a b c = 0 := by
    intro a b c ha
    unfold sumP
    rw [pch_0 ha, s3_nil]
    split <;> rfl
  rcases h with h | h | h
  · exact h1 u v w h
  · rw [← sumP_swap]; exact h1 v u w h
  · rw [← sumP_rot]; exact h1 w u v h
def HL (σ : Sg) (p : Nat → Nat) : Nat := su (fun u => su (fun v => lackP σ p u v) (g_nw σ - (u + 1)) (u + 1)) (g_nw σ) 0
def H0 (σ : Sg) (p : Nat → Nat) : Nat := su (fun u => su (fun v => if 0 < lackP σ p u v then 1 else 0) (g_nw σ - (u + 1)) (u + 1)) (g_nw σ) 0
def HS (σ : Sg) (p : Nat → Nat) : Nat := su (fun u => su (fun v => su (fun w => sumP σ p u v w) (g_nw σ - (v + 1)) (v + 1)) (g_nw σ - (u + 1)) (u + 1)) (g_nw σ) 0
def strP (σ : Sg) (p : Nat → Nat) (w : Nat) : Nat := if p w ≠ 0 ∧ ¬ may σ w (p w - 1) then 1 else 0
def HX (σ : Sg) (p : Nat → Nat) : Nat := su (strP σ p) (g_nw σ) 0
def harm (σ : Sg) (p : Nat → Nat) : Nat := HL σ p + 5 * HS σ p + 10 * HX σ p
theorem c_lacks {σ : Sg} {M : ab_M} {p : Nat → Nat} {t : Nat} (hS : Sok σ) (hC : RepC σ M) (hp : Pok σ p) (hP : PlC σ p t M) : mi_X2_lacks M t = some (nI (HL σ p)) := by
  have hnw := hS.nw
  have e := hC.1.2.1
  have hin : ∀ u, u < g_nw σ → ∀ a, mi_X2_lacks_20 ab_F M t (nI a) (nI u) (nI (u + 1)) = some (nI (a + su (fun v => lackP σ p u v) (g_nw σ - (u + 1)) (u + 1)), nI (g_nw σ)) := by
    intro u hu a
    refine lp_sum (fun n x y => mi_X2_lacks_20 n M t x (nI u) y) (g_nw σ) _ (fun n j a hj => ?_) (fun n a => ?_) (u + 1) a (by omega) (by omega)
    · show mi_X2_lacks_20 (n + 1) M t _ _ _ = _
      rw [mi_X2_lacks_20.eq_2, e, if_neg (nI_ge hj (by omega)), c_lackOf hS hC hp hP hu hj, Option.bind_some, nI_add, nI_1]
    · show mi_X2_lacks_20 (n + 1) M t _ _ _ = _
      rw [mi_X2_lacks_20.eq_2, e, if_pos (nI_le (Nat.le_refl _) (by omega))]
  have h := lp_sum (fun n x y => mi_X2_lacks_4 n M t x y) (g_nw σ) (fun u => su (fun v => lackP σ p u v) (g_nw σ - (u + 1)) (u + 1)) (fun n j a hj => by
    show mi_X2_lacks_4 (n + 1) M t _ _ = _
    rw [mi_X2_lacks_4.eq_2, e, if_neg (nI_ge hj (by omega)), nI_1, hin j hj a, Option.bind_some]) (fun n a => by
    show mi_X2_lacks_4 (n + 1) M t _ _ = _
    rw [mi_X2_lacks_4.eq_2, e, if_pos (nI_le (Nat.le_refl _) (by omega))]) 0 0 (by omega) (by omega)
  unfold mi_X2_lacks
  rw [show (0 : Int32) = nI 0 from rfl, h, Option.bind_some, Nat.zero_add]
  rfl
theorem nI_pif {n : Nat} (h : n < 2 ^ 31) : (if nI n ≤ 0 then some (0 : Int32) else some 1) = some (nI (if 0 < n then 1 else 0)) := by
  by_cases h0 : 0 < n
  · rw [if_neg (nI_nle h0 h), if_pos h0]; rfl
  · obtain rfl : n = 0 := by omega
    rfl
theorem c_lackingTwos {σ : Sg} {M : ab_M} {p : Nat → Nat} {t : Nat} (hS : Sok σ) (hC : RepC σ M) (hp : Pok σ p) (hP : PlC σ p t M) : mi_X2_lackingTwos M t = some (nI (H0 σ p)) := by
  have hnw := hS.nw
  have e := hC.1.2.1
  have hin : ∀ u, u < g_nw σ → ∀ a, mi_X2_lackingTwos_20 ab_F M t (nI a) (nI u) (nI (u + 1)) = some (nI (a + su (fun v => if 0 < lackP σ p u v then 1 else 0) (g_nw σ - (u + 1)) (u + 1)), nI (g_nw σ)) := by
    intro u hu a
    refine lp_sum (fun n x y => mi_X2_lackingTwos_20 n M t x (nI u) y) (g_nw σ) _ (fun n j a hj => ?_) (fun n a => ?_) (u + 1) a (by omega) (by omega)
    · have := lackP_le hS p u j
      show mi_X2_lackingTwos_20 (n + 1) M t _ _ _ = _
      rw [mi_X2_lackingTwos_20.eq_2, e, if_neg (nI_ge hj (by omega)), c_lackOf hS hC hp hP hu hj, Option.bind_some, nI_pif (by omega), Option.bind_some, nI_add, nI_1]
    · show mi_X2_lackingTwos_20 (n + 1) M t _ _ _ = _
      rw [mi_X2_lackingTwos_20.eq_2, e, if_pos (nI_le (Nat.le_refl _) (by omega))]
  have h := lp_sum (fun n x y => mi_X2_lackingTwos_4 n M t x y) (g_nw σ) (fun u => su (fun v => if 0 < lackP σ p u v then 1 else 0) (g_nw σ - (u + 1)) (u + 1)) (fun n j a hj => by
    show mi_X2_lackingTwos_4 (n + 1) M t _ _ = _
    rw [mi_X2_lackingTwos_4.eq_2, e, if_neg (nI_ge hj (by omega)), nI_1, hin j hj a, Option.bind_some]) (fun n a => by
    show mi_X2_lackingTwos_4 (n + 1) M t _ _ = _
    rw [mi_X2_lackingTwos_4.eq_2, e, if_pos (nI_le (Nat.le_refl _) (by omega))]) 0 0 (by omega) (by omega)
  unfold mi_X2_lackingTwos
  rw [show (0 : Int32) = nI 0 from rfl, h, Option.bind_some, Nat.zero_add]
  rfl
theorem c_sumTogether {σ : Sg} {M : ab_M} {p : Nat → Nat} {t : Nat} (hS : Sok σ) (hC : RepC σ M) (hp : Pok σ p) (hP : PlC σ p t M) {u v w : Nat} (hu : u < g_nw σ) (hv : v < g_nw σ) (hw : w < g_nw σ) : mi_X2_sumTogether M t (nI u) (nI v) (nI w) = some (if p u ≠ 0 ∧ p v ≠ 0 ∧ p w ≠ 0 ∧ inn σ (g_mo σ u) (g_mo σ v) (g_mo σ w) then 1 else 0) := by
  have hu16 := hS.w16 hu
  have hv16 := hS.w16 hv
  have hw16 := hS.w16 hw
  have h1 := hp u hu
  have h2 := hp v hv
  have h3 := hp w hw
  unfold mi_X2_sumTogether
  simp only [vin hu16, vin hv16, vin hw16, ab_chk_true, nI_clamp (show u < 2 ^ 31 by omega), nI_clamp (show v < 2 ^ 31 by omega), nI_clamp (show w < 2 ^ 31 by omega), hP u hu, hP v hv, hP w hw, (hC.1.w hu).1, (hC.1.w hv).1, (hC.1.w hw).1, c_areIn hS hC (hS.mo hu) (hS.mo hv) (hS.mo hw), Option.bind_some]
  by_cases e1 : p u = 0
  · rw [if_pos ((pv_neg (by omega)).mpr e1), if_neg (fun q => q.1 e1)]
  · rw [if_neg (fun q => e1 ((pv_neg (by omega)).mp q))]
    by_cases e2 : p v = 0
    · rw [if_pos ((pv_neg (by omega)).mpr e2), if_neg (fun q => q.2.1 e2)]
    · rw [if_neg (fun q => e2 ((pv_neg (by omega)).mp q))]
      by_cases e3 : p w = 0
      · rw [if_pos ((pv_neg (by omega)).mpr e3), if_neg (fun q => q.2.2.1 e3)]
      · rw [if_neg (fun q => e3 ((pv_neg (by omega)).mp q))]
        by_cases e4 : inn σ (g_mo σ u) (g_mo σ v) (g_mo σ w)
        · rw [if_pos e4, if_neg (by decide), if_pos ⟨e1, e2, e3, e4⟩]
        · rw [if_neg e4, if_pos rfl, if_neg (fun q => e4 q.2.2.2)]
/-- sums reach from one want's mast to the other's -/
abbrev nrW (σ : Sg) (u v : Nat) : Prop := g_mo σ u ≠ g_mo σ v ∧ sq σ (g_mo σ u) (g_mo σ v) < g_rc σ
theorem c_areNear {σ : Sg} {M : ab_M} (hS : Sok σ) (hC : RepC σ M) {u v : Nat} (hu : u < g_nw σ) (hv : v < g_nw σ) : mi_X3_areNear M (nI u) (nI v) = some (if nrW σ u v then 1 else 0) := by
  have hu16 := hS.w16 hu
  have hv16 := hS.w16 hv
  have ha := hS.mo hu
  have hb := hS.mo hv
  have ha12 := hS.m12 ha
  have hb12 := hS.m12 hb
  have key := hC.near ha (i := g_mo σ v) (by omega)
  unfold mi_X3_areNear
  simp only [vin hu16, vin hv16, vin ha12, ab_chk_true, nI_clamp (show u < 2 ^ 31 by omega), nI_clamp (show v < 2 ^ 31 by omega), (hC.1.w hu).1, (hC.1.w hv).1, nI_clamp (show g_mo σ u < 2 ^ 31 by omega)]
  rw [b_tu (by omega)]
  by_cases h : nrW σ u v
  · rw [if_pos (key.mpr ⟨hb, h⟩), if_neg (by decide), if_pos h]
  · rw [if_neg (fun q => h (key.mp q).2), if_pos rfl, if_neg h]
/-- where a loop ends that is left out where no sum reaches -/
theorem nr_end {P : Prop} {d : Decidable P} (X : Int32) : ((if (if P then (1 : Int32) else 0) = 0 then some 0 else some X) : Option Int32) = some (if P then X else 0) := by
  by_cases h : P
  · rw [if_pos h, if_neg (by decide), if_pos h]
  · rw [if_neg h, if_pos rfl, if_neg h]
theorem ab_Fs : ∃ n, ab_F = n + 1 := ⟨99999, rfl⟩
theorem nI_0le {a : Nat} (h : a < 2 ^ 31) : (0 : Int32) ≤ nI a := nI_le (a := 0) (Nat.zero_le _) h
theorem sums64_e {M : ab_M} {t : Nat} {a x y : Int32} {j : Nat} (h : j < 2 ^ 31) : mi_X2_sums_64 ab_F M t a x y 0 (nI j) = some (a, nI j) := by
  obtain ⟨n, hn⟩ := ab_Fs
  rw [hn, mi_X2_sums_64.eq_2, if_pos (nI_0le h)]
theorem c_sums {σ : Sg} {M : ab_M} {p : Nat → Nat} {t : Nat} (hS : Sok σ) (hC : RepC σ M) (hp : Pok σ p) (hP : PlC σ p t M) : mi_X2_sums M t = some (nI (HS σ p)) := by
  have hnw := hS.nw
  have e := hC.1.2.1
  have h3 : ∀ u, u < g_nw σ → ∀ v, v < g_nw σ → ∀ a, mi_X2_sums_64 ab_F M t (nI a) (nI u) (nI v) (nI (g_nw σ)) (nI (v + 1)) = some (nI (a + su (fun w => sumP σ p u v w) (g_nw σ - (v + 1)) (v + 1)), nI (g_nw σ)) := by
    intro u hu v hv a
    refine lp_sum (fun n x y => mi_X2_sums_64 n M t x (nI u) (nI v) (nI (g_nw σ)) y) (g_nw σ) _ (fun n j a hj => ?_) (fun n a => ?_) (v + 1) a (by omega) (by omega)
    · show mi_X2_sums_64 (n + 1) M t _ _ _ _ _ = _
      rw [mi_X2_sums_64.eq_2, if_neg (nI_ge hj (by omega)), c_sumTogether hS hC hp hP hu hv hj, Option.bind_some]
      by_cases hq : p u ≠ 0 ∧ p v ≠ 0 ∧ p j ≠ 0 ∧ inn σ (g_mo σ u) (g_mo σ v) (g_mo σ j)
      · rw [if_pos hq, if_neg (by decide), c_sumsOfThree hS hC hp hP hu hv hj hq.1 hq.2.1 hq.2.2.1, Option.bind_some, Option.bind_some, nI_add, nI_1]
        rw [show sumP σ p u v j = s3 (pch σ p u) (pch σ p v) (pch σ p j) from if_pos hq.2.2.2]
      · rw [if_neg hq, if_pos rfl, Option.bind_some, nI_1]
        have : sumP σ p u v j = 0 := by
          by_cases hi : inn σ (g_mo σ u) (g_mo σ v) (g_mo σ j)
          · refine sumP_0 ?_
            by_cases e1 : p u = 0
            · exact Or.inl e1
            · by_cases e2 : p v = 0
              · exact Or.inr (Or.inl e2)
              · by_cases e3 : p j = 0
                · exact Or.inr (Or.inr e3)
                · exact absurd ⟨e1, e2, e3, hi⟩ hq
          · exact if_neg hi
        rw [this, Nat.add_zero]
        congr 1
        exact nI_add a 0
    · show mi_X2_sums_64 (n + 1) M t _ _ _ _ _ = _
      rw [mi_X2_sums_64.eq_2, if_pos (nI_le (Nat.le_refl _) (by omega))]
  have h2 : ∀ u, u < g_nw σ → ∀ a, mi_X2_sums_20 ab_F M t (nI a) (nI u) (nI (u + 1)) = some (nI (a + su (fun v => su (fun w => sumP σ p u v w) (g_nw σ - (v + 1)) (v + 1)) (g_nw σ - (u + 1)) (u + 1)), nI (g_nw σ)) := by
    intro u hu a
    refine lp_sum (fun n x y => mi_X2_sums_20 n M t x (nI u) y) (g_nw σ) _ (fun n j a hj => ?_) (fun n a => ?_) (u + 1) a (by omega) (by omega)
    · show mi_X2_sums_20 (n + 1) M t _ _ _ = mi_X2_sums_20 n M t (nI (a + su (fun w => sumP σ p u j w) (g_nw σ - (j + 1)) (j + 1))) (nI u) (nI (j + 1))
      rw [mi_X2_sums_20.eq_2, e, if_neg (nI_ge hj (by omega)), nI_1, c_areNear hS hC hu hj, Option.bind_some, nr_end, Option.bind_some]
      by_cases hr : nrW σ u j
      · rw [if_pos hr, h3 u hu j hj a, Option.bind_some]
      · rw [if_neg hr, sums64_e (by omega), Option.bind_some, (su_zero_iff (f := fun w => sumP σ p u j w) (g_nw σ - (j + 1)) (j + 1)).mpr (fun w _ _ => if_neg (fun q => hr ⟨q.1, q.2.2.2.1⟩))]
        rfl
    · show mi_X2_sums_20 (n + 1) M t _ _ _ = _
      rw [mi_X2_sums_20.eq_2, e, if_pos (nI_le (Nat.le_refl _) (by omega))]
  have h := lp_sum (fun n x y => mi_X2_sums_4 n M t x y) (g_nw σ) (fun u => su (fun v => su (fun w => sumP σ p u v w) (g_nw σ - (v + 1)) (v + 1)) (g_nw σ - (u + 1)) (u + 1)) (fun n j a hj => by
    show mi_X2_sums_4 (n + 1) M t _ _ = _
    rw [mi_X2_sums_4.eq_2, e, if_neg (nI_ge hj (by omega)), nI_1, h2 j hj a, Option.bind_some]) (fun n a => by
    show mi_X2_sums_4 (n + 1) M t _ _ = _
    rw [mi_X2_sums_4.eq_2, e, if_pos (nI_le (Nat.le_refl _) (by omega))]) 0 0 (by omega) (by omega)
  unfold mi_X2_sums
  rw [show (0 : Int32) = nI 0 from rfl, h, Option.bind_some, Nat.zero_add]
  rfl
