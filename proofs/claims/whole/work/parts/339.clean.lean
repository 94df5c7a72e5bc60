/-! PURE: free channels of a want, and whether a plan is clean -/
theorem lackN_zero (b : Nat) (X Y : List Nat) : lackN b X Y = 0 ↔ ∀ x, x ∈ X → ∀ y, y ∈ Y → b ≤ dst x y := by
  have h1 : ∀ (x : Nat) (Y : List Nat) (a : Nat), Y.foldl (fun a y => max a (b - dst x y)) a = 0 ↔ a = 0 ∧ ∀ y, y ∈ Y → b ≤ dst x y := by
    intro x Y
    induction Y with
    | nil => intro a; simp
    | cons y Y ih =>
      intro a
      show Y.foldl (fun a y => max a (b - dst x y)) (max a (b - dst x y)) = 0 ↔ _
      rw [ih]
      simp only [List.mem_cons, forall_eq_or_imp]
      constructor
      · rintro ⟨h, h2⟩
        exact ⟨by omega, by omega, h2⟩
      · rintro ⟨h, h2, h3⟩
        exact ⟨by omega, h3⟩
  have h2 : ∀ (X : List Nat) (a : Nat), X.foldl (fun a x => Y.foldl (fun a y => max a (b - dst x y)) a) a = 0 ↔ a = 0 ∧ ∀ x, x ∈ X → ∀ y, y ∈ Y → b ≤ dst x y := by
    intro X
    induction X with
    | nil => intro a; simp
    | cons x X ih =>
      intro a
      show X.foldl (fun a x => Y.foldl (fun a y => max a (b - dst x y)) a) (Y.foldl (fun a y => max a (b - dst x y)) a) = 0 ↔ _
      rw [ih, h1]
      simp only [List.mem_cons, forall_eq_or_imp]
      exact and_assoc
  have := h2 X 0
  unfold lackN
  rw [this]
  simp
theorem lsum_zero {α : Type} (f : α → Nat) : ∀ X : List α, lsum f X = 0 ↔ ∀ x, x ∈ X → f x = 0
  | [] => by simp [lsum_nil]
  | x :: X => by
    rw [lsum_cons]
    simp only [List.mem_cons, forall_eq_or_imp]
    rw [← lsum_zero f X]
    omega
theorem s3_zero (X Y Z : List Nat) : s3 X Y Z = 0 ↔ ∀ x, x ∈ X → ∀ y, y ∈ Y → ∀ z, z ∈ Z → y + z ≠ 2 * x ∧ x + z ≠ 2 * y ∧ x + y ≠ 2 * z := by
  rw [s3_lsum, lsum_zero]
  refine forall_congr' fun x => imp_congr Iff.rfl ?_
  rw [lsum_zero]
  refine forall_congr' fun y => imp_congr Iff.rfl ?_
  rw [lsum_zero]
  refine forall_congr' fun z => imp_congr Iff.rfl ?_
  by_cases h1 : y + z = 2 * x <;> by_cases h2 : x + z = 2 * y <;> by_cases h3 : x + y = 2 * z <;> simp [h1, h2, h3]
theorem dst_comm (x y : Nat) : dst x y = dst y x := by unfold dst; omega
theorem lackN_comm (b : Nat) (X Y : List Nat) : lackN b X Y = 0 ↔ lackN b Y X = 0 := by
  rw [lackN_zero, lackN_zero]
  constructor
  · intro h x hx y hy; rw [dst_comm]; exact h y hy x hx
  · intro h x hx y hy; rw [dst_comm]; exact h y hy x hx
/-- a want breaks nothing with those below N -/
def okW (σ : Sg) (p : Nat → Nat) (N w : Nat) : Prop := (p w ≠ 0 → may σ w (p w - 1)) ∧ (∀ u, u < N → u ≠ w → lackP σ p u w = 0) ∧ ∀ u v, u < v → v < N → u ≠ w → v ≠ w → sumP σ p u v w = 0
/-- i is barred to w by those below N -/
def hit (σ : Sg) (p : Nat → Nat) (N w i : Nat) : Prop := ∃ u, u < N ∧ u ≠ w ∧ (nearC σ p (bar σ (g_mo σ u) (g_mo σ w)) u i ∨ ∃ v, u < v ∧ v < N ∧ v ≠ w ∧ inn σ (g_mo σ u) (g_mo σ v) (g_mo σ w) ∧ i ≤ 29 ∧ tgt σ p u v i)
theorem pch_up {σ : Sg} {p : Nat → Nat} {w c u : Nat} : pch σ (fup p w (c + 1)) u = if u = w then chs σ w c else pch σ p u := by
  unfold pch
  by_cases h : u = w
  · rw [if_pos h, h, fup_eq, if_neg (by omega), Nat.add_sub_cancel]
  · rw [if_neg h, fup_ne h]
theorem okW_hit {σ : Sg} {p : Nat → Nat} (hS : Sok σ) {N w c : Nat} (hw : w < g_nw σ) (hc : c < 30) : okW σ (fup p w (c + 1)) N w ↔ may σ w c ∧ ∀ z, z ∈ chs σ w c → ¬ hit σ p N w z := by
  have hg := gapW_le hS hw
  have hz : may σ w c → ∀ z, z ∈ chs σ w c → z ≤ 29 := fun hm z hz => by
    unfold chs at hz
    by_cases hk : g_kd σ (g_mo σ w) = 1
    · rw [if_pos hk] at hz
      have := (hm.2.2.1 hk).1
      simp only [List.mem_cons, List.not_mem_nil, or_false] at hz
      omega
    · rw [if_neg hk] at hz
      simp only [List.mem_cons, List.not_mem_nil, or_false] at hz
      omega
  have e0 : (fup p w (c + 1)) w = c + 1 := fup_eq
  unfold okW
  rw [e0, Nat.add_sub_cancel]
  constructor
  · rintro ⟨h1, h2, h3⟩
    refine ⟨h1 (by omega), fun z hzc => ?_⟩
    rintro ⟨u, hu, huw, ⟨x, hx, hd⟩ | ⟨v, huv, hv, hvw, hi, h39, x, hx, y, hy, he⟩⟩
    · have := h2 u hu huw
      unfold lackP at this
      rw [lackN_zero, pch_up, pch_up, if_neg huw, if_pos rfl] at this
      have := this x hx z hzc
      omega
    · have := h3 u v huv hv huw hvw
      unfold sumP at this
      rw [if_pos hi, s3_zero, pch_up, pch_up, pch_up, if_neg huw, if_neg hvw, if_pos rfl] at this
      have := this x hx y hy z hzc
      omega
  · rintro ⟨h1, h2⟩
    refine ⟨fun _ => h1, fun u hu huw => ?_, fun u v huv hv huw hvw => ?_⟩
    · unfold lackP
      rw [lackN_zero, pch_up, pch_up, if_neg huw, if_pos rfl]
      intro x hx z hzc
      have := h2 z hzc
      by_cases hd : dst x z < bar σ (g_mo σ u) (g_mo σ w)
      · exact absurd ⟨u, hu, huw, Or.inl ⟨x, hx, hd⟩⟩ this
      · omega
    · unfold sumP
      by_cases hi : inn σ (g_mo σ u) (g_mo σ v) (g_mo σ w)
      · rw [if_pos hi, s3_zero, pch_up, pch_up, pch_up, if_neg huw, if_neg hvw, if_pos rfl]
        intro x hx y hy z hzc
        have h3 : ¬ (z + y = 2 * x ∨ z + x = 2 * y ∨ x + y = 2 * z) := fun he => h2 z hzc ⟨u, by omega, huw, Or.inr ⟨v, huv, hv, hvw, hi, hz h1 z hzc, x, hx, y, hy, he⟩⟩
        omega
      · rw [if_neg hi]
theorem c_sumMates {σ : Sg} {M : ab_M} {p : Nat → Nat} {t : Nat} (hS : Sok σ) (hC : RepC σ M) {u v w : Nat} (hpv : p v ≤ 30) (hPv : M.1 t v = pv (p v)) (hu : u < g_nw σ) (hv : v < g_nw σ) (hw : w < g_nw σ) : mi_X2_sumMates M t (nI u) (nI v) (nI w) = some (if p v ≠ 0 ∧ inn σ (g_mo σ u) (g_mo σ v) (g_mo σ w) then 1 else 0) := by
  have hu16 := hS.w16 hu
  have hv16 := hS.w16 hv
  have hw16 := hS.w16 hw
  unfold mi_X2_sumMates
  simp only [vin hu16, vin hv16, vin hw16, ab_chk_true, nI_clamp (show u < 2 ^ 31 by omega), nI_clamp (show v < 2 ^ 31 by omega), nI_clamp (show w < 2 ^ 31 by omega), (hC.1.w hu).1, (hC.1.w hv).1, (hC.1.w hw).1, hPv, c_areIn hS hC (hS.mo hu) (hS.mo hv) (hS.mo hw)]
  by_cases h : p v = 0
  · rw [if_pos ((pv_neg (by omega)).mpr h), if_neg (fun q => q.1 h)]
  · rw [if_neg (fun q => h ((pv_neg (by omega)).mp q)), b_if]
    by_cases h2 : inn σ (g_mo σ u) (g_mo σ v) (g_mo σ w)
    · rw [if_pos h2, if_pos ⟨h, h2⟩]
    · rw [if_neg h2, if_neg (fun q => h2 q.2)]
theorem c_free76 {σ : Sg} {M : ab_M} {p : Nat → Nat} {t N : Nat} (hS : Sok σ) (hC : RepC σ M) (hp : ∀ u, u < N → p u ≤ 30) (hP : ∀ u, u < N → M.1 t u = pv (p u)) {u w : Nat} (huN : u < N) (hw : w < g_nw σ) (hN : N ≤ g_nw σ) (pu : p u ≠ 0) : ∀ (k j n : Nat) (acc : Int64), j + k = N → k < n → ∃ B y, mi_X2_freeChannels_76 n M t (nI w) (nI N) acc (nI u) (nI N) (nI j) = some (B, y) ∧ ∀ i, i < 64 → (bl B i = true ↔ bl acc i = true ∨ ∃ v, j ≤ v ∧ v < N ∧ v ≠ w ∧ inn σ (g_mo σ u) (g_mo σ v) (g_mo σ w) ∧ i ≤ 29 ∧ tgt σ p u v i) := by
  have hnw := hS.nw
  have hu : u < g_nw σ := by omega
  intro k
  induction k with
  | zero =>
    intro j n acc hj hn
    obtain ⟨n, rfl⟩ : ∃ m, n = m + 1 := ⟨n - 1, by omega⟩
    obtain rfl : j = N := by omega
    rw [mi_X2_freeChannels_76.eq_2, if_pos (Int32.le_refl _)]
    refine ⟨acc, _, rfl, fun i hi => ?_⟩
    constructor
    · exact Or.inl
    · rintro (h | ⟨v, h1, h2, -⟩)
      · exact h
      · omega
  | succ k ih =>
    intro j n acc hj hn
    obtain ⟨n, rfl⟩ : ∃ m, n = m + 1 := ⟨n - 1, by omega⟩
    have hjN : j < N := by omega
    have hjw : j < g_nw σ := by omega
    have step : ∀ acc' : Int64, (∀ i, i < 64 → (bl acc' i = true ↔ bl acc i = true ∨ (j ≠ w ∧ inn σ (g_mo σ u) (g_mo σ j) (g_mo σ w) ∧ i ≤ 29 ∧ tgt σ p u j i))) → ∃ B y, mi_X2_freeChannels_76 n M t (nI w) (nI N) acc' (nI u) (nI N) (nI (j + 1)) = some (B, y) ∧ ∀ i, i < 64 → (bl B i = true ↔ bl acc i = true ∨ ∃ v, j ≤ v ∧ v < N ∧ v ≠ w ∧ inn σ (g_mo σ u) (g_mo σ v) (g_mo σ w) ∧ i ≤ 29 ∧ tgt σ p u v i) := by
      intro acc' ha
      obtain ⟨B, y, h1, h2⟩ := ih (j + 1) n acc' (by omega) (by omega)
      refine ⟨B, y, h1, fun i hi => ?_⟩
      rw [h2 i hi, ha i hi]
      constructor
      · rintro ((h | h) | ⟨v, h3, h4, h5⟩)
        · exact Or.inl h
        · exact Or.inr ⟨j, Nat.le_refl _, hjN, h⟩
        · exact Or.inr ⟨v, by omega, h4, h5⟩
      · rintro (h | ⟨v, h3, h4, h5⟩)
        · exact Or.inl (Or.inl h)
        · by_cases e : v = j
          · subst e; exact Or.inl (Or.inr h5)
          · exact Or.inr ⟨v, by omega, h4, h5⟩
    rw [mi_X2_freeChannels_76.eq_2, if_neg (nI_ge hjN (by omega)), show nI j + 1 = nI (j + 1) from nI_add j 1]
    by_cases hjw2 : j = w
    · rw [if_pos (by rw [hjw2]), Option.bind_some]
      exact step acc (fun i hi => ⟨Or.inl, fun h => h.elim id (fun q => absurd hjw2 q.1)⟩)
    · rw [if_neg (fun q => hjw2 ((nI_eq (by omega) (by have := hS.w16 hw; omega)).mp q)), c_sumMates hS hC (hp j hjN) (hP j hjN) hu hjw hw, b_if]
      by_cases h : p j ≠ 0 ∧ inn σ (g_mo σ u) (g_mo σ j) (g_mo σ w)
      · rw [if_pos h]
        obtain ⟨B, q1, q2⟩ := c_sumTargets hS hC hu hjw (hp u huN) (hp j hjN) (hP u huN) (hP j hjN) pu h.1
        rw [q1, Option.bind_some, Option.bind_some]
        refine step _ (fun i hi => ?_)
        rw [bl_or, Bool.or_eq_true, q2 i hi]
        refine or_congr Iff.rfl ⟨fun q => ⟨hjw2, h.2, q.1, q.2⟩, fun q => ⟨q.2.2.1, q.2.2.2⟩⟩
      · rw [if_neg h, Option.bind_some]
        refine step acc (fun i hi => ⟨Or.inl, fun q => q.elim id (fun q => ?_)⟩)
        obtain ⟨-, q2, -, x, hx, y, hy, -⟩ := q
        exfalso
        refine h ⟨fun e => ?_, q2⟩
        rw [pch_0 e] at hy
        cases hy
theorem c_free76e {σ : Sg} {M : ab_M} {p : Nat → Nat} {t N : Nat} (hS : Sok σ) (hC : RepC σ M) (hp : ∀ u, u < N → p u ≤ 30) (hP : ∀ u, u < N → M.1 t u = pv (p u)) {u w : Nat} (huN : u < N) (hw : w < g_nw σ) (hN : N ≤ g_nw σ) (pu : p u ≠ 0) (acc : Int64) : ∃ B y, mi_X2_freeChannels_76 ab_F M t (nI w) (nI N) acc (nI u) (if nrW σ u w then nI N else 0) (nI (u + 1)) = some (B, y) ∧ ∀ i, i < 64 → (bl B i = true ↔ bl acc i = true ∨ ∃ v, u + 1 ≤ v ∧ v < N ∧ v ≠ w ∧ inn σ (g_mo σ u) (g_mo σ v) (g_mo σ w) ∧ i ≤ 29 ∧ tgt σ p u v i) := by
  have hnw := hS.nw
  by_cases h : nrW σ u w
  · rw [if_pos h]
    exact c_free76 hS hC hp hP huN hw hN pu (N - (u + 1)) (u + 1) ab_F acc (by omega) (ab_F_lt (by omega))
  · rw [if_neg h]
    obtain ⟨n, hn⟩ := ab_Fs
    rw [hn, mi_X2_freeChannels_76.eq_2, if_pos (nI_0le (by omega))]
    refine ⟨acc, _, rfl, fun i hi => ⟨Or.inl, fun q => q.elim id (fun q => ?_)⟩⟩
    obtain ⟨v, -, -, -, q, -⟩ := q
    exact absurd ⟨q.2.2.1, q.2.2.2.2.2⟩ h
theorem c_free6 {σ : Sg} {M : ab_M} {p : Nat → Nat} {t N : Nat} (hS : Sok σ) (hC : RepC σ M) (hp : ∀ u, u < N → p u ≤ 30) (hP : ∀ u, u < N → M.1 t u = pv (p u)) {w : Nat} (hw : w < g_nw σ) (hN : N ≤ g_nw σ) : ∀ (k j n : Nat) (acc : Int64), j + k = N → k < n → ∃ B y, mi_X2_freeChannels_6 n M t (nI w) (nI N) acc (nI j) = some (B, y) ∧ ∀ i, i < 64 → (bl B i = true ↔ bl acc i = true ∨ ∃ u, j ≤ u ∧ u < N ∧ u ≠ w ∧ (nearC σ p (bar σ (g_mo σ u) (g_mo σ w)) u i ∨ ∃ v, u < v ∧ v < N ∧ v ≠ w ∧ inn σ (g_mo σ u) (g_mo σ v) (g_mo σ w) ∧ i ≤ 29 ∧ tgt σ p u v i)) := by
  have hnw := hS.nw
  intro k
  induction k with
  | zero =>
    intro j n acc hj hn
    obtain ⟨n, rfl⟩ : ∃ m, n = m + 1 := ⟨n - 1, by omega⟩
    obtain rfl : j = N := by omega
    rw [mi_X2_freeChannels_6.eq_2, if_pos (Int32.le_refl _)]
    refine ⟨acc, _, rfl, fun i hi => ?_⟩
    constructor
    · exact Or.inl
    · rintro (h | ⟨v, h1, h2, -⟩)
      · exact h
      · omega
  | succ k ih =>
    intro j n acc hj hn
    obtain ⟨n, rfl⟩ : ∃ m, n = m + 1 := ⟨n - 1, by omega⟩
    have hjN : j < N := by omega
    have hjw : j < g_nw σ := by omega
    have hj16 := hS.w16 hjw
    have hpj := hp j hjN
    have step : ∀ acc' : Int64, (∀ i, i < 64 → (bl acc' i = true ↔ bl acc i = true ∨ (j ≠ w ∧ (nearC σ p (bar σ (g_mo σ j) (g_mo σ w)) j i ∨ ∃ v, j < v ∧ v < N ∧ v ≠ w ∧ inn σ (g_mo σ j) (g_mo σ v) (g_mo σ w) ∧ i ≤ 29 ∧ tgt σ p j v i)))) → ∃ B y, mi_X2_freeChannels_6 n M t (nI w) (nI N) acc' (nI (j + 1)) = some (B, y) ∧ ∀ i, i < 64 → (bl B i = true ↔ bl acc i = true ∨ ∃ u, j ≤ u ∧ u < N ∧ u ≠ w ∧ (nearC σ p (bar σ (g_mo σ u) (g_mo σ w)) u i ∨ ∃ v, u < v ∧ v < N ∧ v ≠ w ∧ inn σ (g_mo σ u) (g_mo σ v) (g_mo σ w) ∧ i ≤ 29 ∧ tgt σ p u v i)) := by
      intro acc' ha
      obtain ⟨B, y, h1, h2⟩ := ih (j + 1) n acc' (by omega) (by omega)
      refine ⟨B, y, h1, fun i hi => ?_⟩
      rw [h2 i hi, ha i hi]
      constructor
      · rintro ((h | h) | ⟨v, h3, h4, h5⟩)
        · exact Or.inl h
        · exact Or.inr ⟨j, Nat.le_refl _, hjN, h⟩
        · exact Or.inr ⟨v, by omega, h4, h5⟩
      · rintro (h | ⟨v, h3, h4, h5⟩)
        · exact Or.inl (Or.inl h)
        · by_cases e : v = j
          · subst e; exact Or.inl (Or.inr h5)
          · exact Or.inr ⟨v, by omega, h4, h5⟩
    rw [mi_X2_freeChannels_6.eq_2, if_neg (nI_ge hjN (by omega)), show nI j + 1 = nI (j + 1) from nI_add j 1]
    by_cases hjw2 : j = w
    · rw [if_pos (by rw [hjw2]), Option.bind_some]
      exact step acc (fun i hi => ⟨Or.inl, fun h => h.elim id (fun q => absurd hjw2 q.1)⟩)
    · rw [if_neg (fun q => hjw2 ((nI_eq (by omega) (by have := hS.w16 hw; omega)).mp q)), ab_chk_pos (vin hj16), nI_clamp (show j < 2 ^ 31 by omega), hP j hjN]
      by_cases h : p j = 0
      · rw [if_neg (fun q => (pv_nn (by omega)).mp q h), Option.bind_some]
        refine step acc (fun i hi => ⟨Or.inl, fun q => q.elim id (fun q => ?_)⟩)
        exfalso
        rcases q.2 with ⟨x, hx, -⟩ | ⟨v, -, -, -, -, -, x, hx, -⟩
        · rw [pch_0 h] at hx; cases hx
        · rw [pch_0 h] at hx; cases hx
      · obtain ⟨B, q1, q2⟩ := c_tooNear hS hC hjw hpj (hP j hjN) h (bar_le hS (g_mo σ j) (g_mo σ w))
        obtain ⟨B2, y, q3, q4⟩ := c_free76e hS hC hp hP hjN hw hN h (acc ||| B)
        rw [if_pos ((pv_nn (by omega)).mpr h), c_barOfWants hS hC hjw hw, Option.bind_some, q1, Option.bind_some, c_areNear hS hC hjw hw, Option.bind_some, nr_end, Option.bind_some, q3, Option.bind_some, Option.bind_some]
        refine step B2 (fun i hi => ?_)
        rw [q4 i hi, bl_or, Bool.or_eq_true, q2 i hi, or_assoc]
        refine or_congr Iff.rfl ?_
        constructor
        · rintro (q | ⟨v, a1, a2⟩)
          · exact ⟨hjw2, Or.inl q⟩
          · exact ⟨hjw2, Or.inr ⟨v, by omega, a2⟩⟩
        · rintro ⟨-, q | ⟨v, a1, a2⟩⟩
          · exact Or.inl q
          · exact Or.inr ⟨v, by omega, a2⟩
/-- the bits of the free channels -/
theorem c_freeChannels {σ : Sg} {M : ab_M} {p : Nat → Nat} {t N : Nat} (hS : Sok σ) (hC : RepC σ M) (hp : ∀ u, u < N → p u ≤ 30) (hP : ∀ u, u < N → M.1 t u = pv (p u)) {w : Nat} (hw : w < g_nw σ) (hN : N ≤ g_nw σ) : ∃ B, mi_X2_freeChannels M t (nI w) (nI N) = some B ∧ ∀ i, i < 32 → (bt B i = true ↔ i < 30 ∧ okW σ (fup p w (i + 1)) N w) := by
  have hnw := hS.nw
  have hg := gapW_le hS hw
  obtain ⟨T, y, h1, h2⟩ := c_free6 hS hC hp hP hw hN N 0 ab_F 0 (by omega) (ab_F_lt (by omega))
  obtain ⟨A, h3, h4⟩ := c_allowed hS hC.1 hw
  have hT : ∀ i, i < 64 → (bl T i = true ↔ hit σ p N w i) := by
    intro i hi
    rw [h2 i hi, bl_0]
    unfold hit
    constructor
    · rintro (h | ⟨u, -, a, b, c⟩)
      · cases h
      · exact ⟨u, a, b, c⟩
    · rintro ⟨u, a, b, c⟩
      exact Or.inr ⟨u, Nat.zero_le _, a, b, c⟩
  unfold mi_X2_freeChannels
  rw [show (0 : Int32) = nI 0 from rfl, h1, Option.bind_some, h3, Option.bind_some, c_gapOf hS hC.1 hw, Option.bind_some]
  refine ⟨_, rfl, fun i hi => ?_⟩
  rw [b_and, bl_i32 _ hi, bl_not _ (by omega), bl_or, bl_lushr _ (by omega), Bool.and_eq_true, Bool.not_eq_true', Bool.or_eq_false_iff, h4 i hi]
  constructor
  · rintro ⟨a, b, c⟩
    have hi30 : i < 30 := a.1
    refine ⟨hi30, (okW_hit hS hw hi30).mpr ⟨a, fun z hz hh => ?_⟩⟩
    rw [chs_gl hS hw] at hz
    unfold gl at hz
    by_cases hg0 : gapW σ w = 0
    · rw [if_pos hg0] at hz
      simp at hz
      subst hz
      rw [(hT z (by omega)).mpr hh] at b
      cases b
    · rw [if_neg hg0] at hz
      simp at hz
      rcases hz with rfl | rfl
      · rw [(hT z (by omega)).mpr hh] at b
        cases b
      · rw [Nat.add_comm, (hT _ (by omega)).mpr hh] at c
        cases c
  · rintro ⟨a, b⟩
    obtain ⟨b1, b2⟩ := (okW_hit hS hw a).mp b
    have hm1 : i ∈ chs σ w i := by
      rw [chs_gl hS hw]
      unfold gl
      split <;> simp
    have hm2 : gapW σ w + i ∈ chs σ w i := by
      rw [chs_gl hS hw]
      unfold gl
      split
      · rename_i h0; simp [h0]
      · simp [Nat.add_comm]
    refine ⟨b1, ?_, ?_⟩
    · rw [← Bool.not_eq_true, hT i (by omega)]
      exact b2 i hm1
    · rw [← Bool.not_eq_true, hT _ (by omega)]
      exact b2 _ hm2
theorem fup_id (p : Nat → Nat) (w : Nat) : fup p w (p w) = p := by
  funext i
  unfold fup
  by_cases h : i = w
  · rw [if_pos h, h]
  · rw [if_neg h]
theorem okW_0 {σ : Sg} {p : Nat → Nat} {N w : Nat} (h : p w = 0) : okW σ p N w := by
  refine ⟨fun q => absurd h q, fun u hu huw => ?_, fun u v huv hv huw hvw => sumP_0 (Or.inr (Or.inr h))⟩
  unfold lackP
  rw [pch_0 h, lackN_zero]
  intro x _ y hy
  cases hy
/-- each want, with those before it -/
def clean (σ : Sg) (p : Nat → Nat) : Prop := ∀ w, w < g_nw σ → okW σ p w w
theorem c_isClean2 {σ : Sg} {M : ab_M} {p : Nat → Nat} {t : Nat} (hS : Sok σ) (hC : RepC σ M) (hp : Pok σ p) (hP : PlC σ p t M) : ∀ (k j n : Nat), j + k = g_nw σ → k < n → (∃ z, mi_X2_isClean_2 n M t (nI j) = some (.inl z) ∧ ∀ w, j ≤ w → w < g_nw σ → okW σ p w w) ∨ (mi_X2_isClean_2 n M t (nI j) = some (.inr 0) ∧ ¬ ∀ w, j ≤ w → w < g_nw σ → okW σ p w w) := by
  have hnw := hS.nw
  intro k
  induction k with
  | zero =>
    intro j n hj hn
    obtain ⟨n, rfl⟩ : ∃ m, n = m + 1 := ⟨n - 1, by omega⟩
    obtain rfl : j = g_nw σ := by omega
    left
    rw [mi_X2_isClean_2.eq_2, hC.1.2.1, if_pos (Int32.le_refl _)]
    exact ⟨_, rfl, fun w h1 h2 => by omega⟩
  | succ k ih =>
    intro j n hj hn
    obtain ⟨n, rfl⟩ : ∃ m, n = m + 1 := ⟨n - 1, by omega⟩
    have hjw : j < g_nw σ := by omega
    have hj16 := hS.w16 hjw
    have hpj := hp j hjw
    have step : okW σ p j j → (∃ z, mi_X2_isClean_2 n M t (nI (j + 1)) = some (.inl z) ∧ ∀ w, j ≤ w → w < g_nw σ → okW σ p w w) ∨ (mi_X2_isClean_2 n M t (nI (j + 1)) = some (.inr 0) ∧ ¬ ∀ w, j ≤ w → w < g_nw σ → okW σ p w w) := by
      intro ho
      rcases ih (j + 1) n (by omega) (by omega) with ⟨z, h1, h2⟩ | ⟨h1, h2⟩
      · refine Or.inl ⟨z, h1, fun w a b => ?_⟩
        by_cases e : w = j
        · subst e; exact ho
        · exact h2 w (by omega) b
      · exact Or.inr ⟨h1, fun q => h2 (fun w a b => q w (by omega) b)⟩
    rw [mi_X2_isClean_2.eq_2, hC.1.2.1, if_neg (nI_ge hjw (by omega)), ab_chk_pos (vin hj16), nI_clamp (show j < 2 ^ 31 by omega), hP j hjw, show nI j + 1 = nI (j + 1) from nI_add j 1]
    by_cases h : p j = 0
    · rw [if_pos ((pv_neg (by omega)).mpr h)]
      exact step (okW_0 h)
    · rw [if_neg (fun q => h ((pv_neg (by omega)).mp q))]
      obtain ⟨B, q1, q2⟩ := c_freeChannels (N := j) hS hC (fun u hu => hp u (by omega)) (fun u hu => hP u (by omega)) hjw (by omega)
      obtain ⟨c, hc⟩ : ∃ c, p j = c + 1 := ⟨p j - 1, by omega⟩
      have e : fup p j (c + 1) = p := by rw [← hc]; exact fup_id p j
      have q3 := q2 c (by omega)
      rw [e] at q3
      rw [q1, Option.bind_some, ab_chk_pos (vin hj16), hc, pv_s, b_tu (by omega)]
      by_cases hb : bt B c = true
      · rw [if_pos hb, if_neg (by decide)]
        exact step (q3.mp hb).2
      · rw [if_neg hb, if_pos rfl]
        exact Or.inr ⟨rfl, fun q => hb (q3.mpr ⟨by omega, q j (Nat.le_refl _) hjw⟩)⟩
theorem harm_zero {σ : Sg} {p : Nat → Nat} : harm σ p = 0 ↔ clean σ p := by
  have e : harm σ p = 0 ↔ HL σ p = 0 ∧ HS σ p = 0 ∧ HX σ p = 0 := by unfold harm; omega
  rw [e]
  unfold HL HS HX clean
  rw [su_zero_iff, su_zero_iff, su_zero_iff]
  simp only [su_zero_iff]
  constructor
  · rintro ⟨h1, h2, h3⟩ w hw
    refine ⟨fun h0 => ?_, fun u hu huw => h1 u (by omega) (by omega) w (by omega) (by omega), fun u v huv hv huw hvw => h2 u (by omega) (by omega) v (by omega) (by omega) w (by omega) (by omega)⟩
    have := h3 w (by omega) (by omega)
    unfold strP at this
    by_cases hm : may σ w (p w - 1)
    · exact hm
    · rw [if_pos ⟨h0, hm⟩] at this
      cases this
  · intro h
    refine ⟨fun u _ hu v hv1 hv2 => (h v (by omega)).2.1 u (by omega) (by omega), fun u _ hu v hv1 hv2 w hw1 hw2 => (h w (by omega)).2.2 u v (by omega) (by omega) (by omega) (by omega), fun w _ hw => ?_⟩
    unfold strP
    rw [if_neg]
    rintro ⟨a, b⟩
    exact b ((h w (by omega)).1 a)
theorem c_isClean {σ : Sg} {M : ab_M} {p : Nat → Nat} {t : Nat} (hS : Sok σ) (hC : RepC σ M) (hp : Pok σ p) (hP : PlC σ p t M) : mi_X2_isClean M t = some (if harm σ p = 0 then 1 else 0) := by
  have hnw := hS.nw
  unfold mi_X2_isClean
  rcases c_isClean2 hS hC hp hP (g_nw σ) 0 ab_F (by omega) (ab_F_lt (by omega)) with ⟨z, h1, h2⟩ | ⟨h1, h2⟩
  · rw [show (0 : Int32) = nI 0 from rfl, h1, if_pos (harm_zero.mpr (fun w hw => h2 w (Nat.zero_le _) hw))]
    rfl
  · rw [show (0 : Int32) = nI 0 from rfl, h1, if_neg (fun q => h2 (fun w _ hw => harm_zero.mp q w hw))]
    rfl
