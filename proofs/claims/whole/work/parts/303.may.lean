/-! PURE: what a want may have -/
theorem RepR.m {σ : Sg} {M : ab_M} (h : RepR σ M) {m : Nat} (hm : m < g_nm σ) : M.1 70 m = nI (g_kd σ m) ∧ M.1 71 m = nI (g_px σ m) ∧ M.1 72 m = nI (g_py σ m) ∧ M.1 73 m = nI (g_pw σ m) ∧ M.1 74 m = nI (g_mn σ m) ∧ M.1 75 m = nI (g_fw σ m) ∧ M.1 76 m = nI (g_ls σ m) ∧ M.1 77 m = nI (g_gp σ m) := h.2.2.2.2.2.2.2.2.2.1 m hm
theorem RepR.w {σ : Sg} {M : ab_M} (h : RepR σ M) {w : Nat} (hw : w < g_nw σ) : M.1 78 w = nI (g_mo σ w) ∧ M.1 79 w = nI (g_sy σ w) - 1 := h.2.2.2.2.2.2.2.2.2.2.1 w hw
theorem RepB.m {σ : Sg} {M : ab_M} (h : RepB σ M) {m : Nat} (hm : m < g_nm σ) : M.1 (12 + m) 0 = nI m ∧ M.1 (12 + m) 1 = nI (g_kd σ m) ∧ M.1 (12 + m) 2 = nI (g_px σ m) ∧ M.1 (12 + m) 3 = nI (g_py σ m) ∧ M.1 (12 + m) 4 = nI (g_pw σ m) ∧ M.1 (12 + m) 5 = nI (g_mn σ m) ∧ M.1 (12 + m) 6 = nI (g_fw σ m) ∧ M.1 (12 + m) 7 = nI (g_ls σ m) ∧ M.1 (12 + m) 8 = nI (g_gp σ m) := h.2.2.2.2.2.2.2.2.2.1 m hm
theorem RepB.w {σ : Sg} {M : ab_M} (h : RepB σ M) {w : Nat} (hw : w < g_nw σ) : M.1 3 w = nI (g_mo σ w) ∧ M.1 4 w = pv (g_sy σ w) := h.2.2.2.2.2.2.2.2.2.2.1 w hw
theorem c_gapOf {σ : Sg} {M : ab_M} (hS : Sok σ) (hR : RepB σ M) {w : Nat} (hw : w < g_nw σ) : mi_X3_gapOf M (nI w) = some (nI (gapW σ w)) := by
  have h16 := hS.w16 hw
  have hm := hS.mo hw
  have hm12 := hS.mo12 hw
  obtain ⟨e1, -⟩ := hR.w hw
  obtain ⟨-, k1, -, -, -, -, -, -, k8⟩ := hR.m hm
  unfold mi_X3_gapOf gapW
  simp only [vin h16, ab_chk_true, nI_clamp (show w < 2 ^ 31 by omega), e1, vin hm12, nI_clamp (show g_mo σ w < 2 ^ 31 by omega), k1, k8]
  have := (hS.mast hm).1
  by_cases h : g_kd σ (g_mo σ w) = 1
  · rw [if_pos (by rw [h]; rfl), if_pos h]
  · rw [if_neg (show ¬ nI (g_kd σ (g_mo σ w)) = (1 : Int32) from fun q => h ((nI_eq (by omega) (by decide)).mp q)), if_neg h]
    rfl
theorem c_kindOfWant {σ : Sg} {M : ab_M} (hS : Sok σ) (hR : RepB σ M) {w : Nat} (hw : w < g_nw σ) : mi_X3_kindOfWant M (nI w) = some (nI (g_kd σ (g_mo σ w))) := by
  have h16 := hS.w16 hw
  have hm := hS.mo hw
  have hm12 := hS.mo12 hw
  obtain ⟨e1, -⟩ := hR.w hw
  obtain ⟨-, k1, -⟩ := hR.m hm
  unfold mi_X3_kindOfWant
  simp only [vin h16, ab_chk_true, nI_clamp (show w < 2 ^ 31 by omega), e1, vin hm12, nI_clamp (show g_mo σ w < 2 ^ 31 by omega), k1]
theorem gapW_le {σ : Sg} (hS : Sok σ) {w : Nat} (hw : w < g_nw σ) : gapW σ w ≤ 10 := by
  have := (hS.mast (hS.mo hw)).2.2.2.2.2.2.2.2.2
  unfold gapW
  split <;> omega
theorem c_allows {σ : Sg} {M : ab_M} (hS : Sok σ) (hR : RepB σ M) {m : Nat} (hm : m < g_nm σ) : ∃ A, mi_X1_allows M (12 + m) = some A ∧ ∀ i, i < 30 → (bt A i = true ↔ frB σ m i) := by
  obtain ⟨-, k1, k2, -⟩ := hR.m hm
  obtain ⟨-, -, -, -, -, f0, f1, f2, f3, -⟩ := id hR
  obtain ⟨l1, l2, -⟩ := hS.mast hm
  have hln := hS.ln
  have hwd := hS.wd
  unfold mi_X1_allows
  rw [k1, k2, f0, f1, f2, f3]
  by_cases h1 : g_kd σ m = 3
  · rw [if_pos (by rw [h1]; rfl)]
    by_cases h2 : g_ln σ = 0
    · rw [if_pos ((nI_m1_m1 (by omega)).mpr h2)]
      refine ⟨_, rfl, fun i hi => ?_⟩
      rw [b_all, decide_eq_true hi]
      simp [frB, h2]
    · rw [if_neg (fun q => h2 ((nI_m1_m1 (by omega)).mp q)), nI_dm, nI_abs (by omega) (by omega)]
      by_cases h3 : dst (g_px σ m + 1) (g_ln σ) ≤ g_wd σ
      · rw [if_pos (nI_le h3 (by omega)), nI_m1 (by omega)]
        unfold dst at h3
        by_cases h4 : g_px σ m + 1 < g_ln σ
        · rw [if_neg (nI_ge (by omega) (by omega))]
          refine ⟨_, rfl, fun i hi => ?_⟩
          rw [b_nIt (by omega)]
          unfold frB
          rw [if_pos h4]
          constructor
          · intro h; exact Or.inr h
          · rintro (h | h)
            · exact absurd ⟨h1, h2, by omega, by omega⟩ h
            · exact h
        · rw [if_pos (nI_le (by omega) (by omega))]
          refine ⟨_, rfl, fun i hi => ?_⟩
          rw [b_nIt (by omega)]
          unfold frB
          rw [if_neg h4]
          constructor
          · intro h; exact Or.inr h
          · rintro (h | h)
            · exact absurd ⟨h1, h2, by omega, by omega⟩ h
            · exact h
      · rw [if_neg (nI_ge (Nat.not_le.mp h3) (by unfold dst; omega))]
        unfold dst at h3
        refine ⟨_, rfl, fun i hi => ?_⟩
        rw [b_all, decide_eq_true hi]
        simp only [true_iff]
        exact Or.inl (fun q => by omega)
  · rw [if_neg (show ¬ nI (g_kd σ m) = (3 : Int32) from fun q => h1 ((nI_eq (by omega) (by decide)).mp q))]
    refine ⟨_, rfl, fun i hi => ?_⟩
    rw [b_all, decide_eq_true hi]
    simp only [true_iff]
    exact Or.inl (fun q => h1 q.1)
theorem c_allowed {σ : Sg} {M : ab_M} (hS : Sok σ) (hR : RepB σ M) {w : Nat} (hw : w < g_nw σ) : ∃ A, mi_X3_allowed M (nI w) = some A ∧ ∀ i, i < 32 → (bt A i = true ↔ may σ w i) := by
  have h16 := hS.w16 hw
  have hm := hS.mo hw
  have hm12 := hS.mo12 hw
  have hg := gapW_le hS hw
  obtain ⟨e1, e2⟩ := hR.w hw
  obtain ⟨-, -, -, -, -, -, -, k7, -⟩ := hR.m hm
  obtain ⟨-, -, -, -, -, -, -, l7, g1, g2⟩ := hS.mast hm
  obtain ⟨F, hF, hFb⟩ := c_allows hS hR hm
  have hsy := (hS.want hw).2.2.2
  have key : ∀ i, i < 32 → (bt ((nI (g_ls σ (g_mo σ w)) &&& ab_ushr (nI (g_ls σ (g_mo σ w))) (nI (gapW σ w))) &&& F) i = true ↔ i < 30 ∧ (g_ls σ (g_mo σ w)).testBit i = true ∧ (g_kd σ (g_mo σ w) = 1 → i + g_gp σ (g_mo σ w) < 30 ∧ (g_ls σ (g_mo σ w)).testBit (i + g_gp σ (g_mo σ w)) = true) ∧ frB σ (g_mo σ w) i) := by
    intro i hi
    rw [b_and, b_and, b_ushr _ (by omega), b_nIt hi, Bool.and_eq_true, Bool.and_eq_true]
    by_cases h30 : i < 30
    · rw [hFb i h30]
      unfold gapW
      by_cases hk : g_kd σ (g_mo σ w) = 1
      · rw [if_pos hk]
        constructor
        · rintro ⟨⟨a, b⟩, c⟩
          rw [b_nI, Bool.and_eq_true, decide_eq_true_eq] at b
          rw [Nat.add_comm] at b
          exact ⟨h30, a, fun _ => ⟨b_lt l7 b.2, b.2⟩, c⟩
        · rintro ⟨-, a, b, c⟩
          obtain ⟨b1, b2⟩ := b hk
          refine ⟨⟨a, ?_⟩, c⟩
          rw [b_nIt (by omega), Nat.add_comm]
          exact b2
      · rw [if_neg hk]
        constructor
        · rintro ⟨⟨a, -⟩, c⟩
          exact ⟨h30, a, fun z => absurd z hk, c⟩
        · rintro ⟨-, a, -, c⟩
          refine ⟨⟨a, ?_⟩, c⟩
          rw [b_nIt (by omega), Nat.zero_add]
          exact a
    · constructor
      · rintro ⟨⟨a, -⟩, -⟩
        exact absurd (b_lt l7 a) h30
      · rintro ⟨a, -⟩
        exact absurd a h30
  unfold mi_X3_allowed
  rw [c_gapOf hS hR hw]
  simp only [vin h16, ab_chk_true, nI_clamp (show w < 2 ^ 31 by omega), e1, e2, vin hm12, nI_clamp (show g_mo σ w < 2 ^ 31 by omega), k7, hF, Option.bind_some]
  by_cases hs : g_sy σ w = 0
  · rw [if_pos (by rw [hs]; rfl)]
    refine ⟨_, rfl, fun i hi => ?_⟩
    rw [key i hi]
    unfold may
    simp [hs]
  · rw [if_neg (show ¬ pv (g_sy σ w) = -2 from fun q => hs ((pv_inj (y := 0) (by omega) (by omega)).mp q))]
    refine ⟨_, rfl, fun i hi => ?_⟩
    obtain ⟨c, hc⟩ : ∃ c, g_sy σ w = c + 1 := ⟨g_sy σ w - 1, by omega⟩
    rw [b_and, Bool.and_eq_true, key i hi, hc, pv_s, b_one (by omega) hi, decide_eq_true_eq]
    unfold may
    constructor
    · rintro ⟨⟨a, b, c1, d⟩, e⟩
      exact ⟨a, b, c1, d, Or.inr (by omega)⟩
    · rintro ⟨a, b, c1, d, e⟩
      exact ⟨⟨a, b, c1, d⟩, by omega⟩
/-! the model -/
theorem r_isListed {σ : Sg} {M : ab_M} (hS : Sok σ) (hR : RepR σ M) {m c : Nat} (hm : m < g_nm σ) (hc : c < 2 ^ 30) : ∃ z, mi_X10_isListed M (nI m) (nI c) = some z ∧ (z = 0 ↔ ¬ (c < 30 ∧ (g_ls σ m).testBit c = true)) := by
  obtain ⟨-, -, -, -, -, -, k6, -⟩ := hR.m hm
  have hm12 := hS.m12 hm
  unfold mi_X10_isListed
  by_cases h : c < 30
  · rw [show (30 : Int32) = nI 30 from rfl, if_neg (nI_ge h (by decide))]
    simp only [vin hm12, ab_chk_true, nI_clamp (show m < 2 ^ 31 by omega), k6]
    rw [b_ts (by omega), b_nIt (by omega)]
    by_cases hb : (g_ls σ m).testBit c = true
    · rw [if_pos hb, if_pos rfl]
      exact ⟨_, rfl, by simp [h, hb]⟩
    · rw [if_neg hb, if_neg (by decide)]
      exact ⟨_, rfl, by simp [hb]⟩
  · rw [show (30 : Int32) = nI 30 from rfl, if_pos (nI_le (by omega) (by omega))]
    exact ⟨_, rfl, by simp [h]⟩
theorem r_isFree {σ : Sg} {M : ab_M} (hS : Sok σ) (hR : RepR σ M) {m c : Nat} (hm : m < g_nm σ) (hc : c < 30) : ∃ z, mi_X10_isFree M (nI m) (nI c) = some z ∧ (z = 0 ↔ ¬ frB σ m c) := by
  obtain ⟨k0, k1, -⟩ := hR.m hm
  obtain ⟨-, -, -, -, -, f0, f1, f2, f3, -⟩ := id hR
  have hm12 := hS.m12 hm
  obtain ⟨l1, l2, -⟩ := hS.mast hm
  have hln := hS.ln
  have hwd := hS.wd
  unfold mi_X10_isFree
  simp only [vin hm12, ab_chk_true, nI_clamp (show m < 2 ^ 31 by omega), k0, k1, f0, f1, f2, f3]
  by_cases h1 : g_kd σ m = 3
  · rw [if_pos (by rw [h1]; rfl)]
    by_cases h2 : g_ln σ = 0
    · rw [if_pos ((nI_m1_neg (by omega)).mpr h2)]
      exact ⟨_, rfl, by simp [frB, h2]⟩
    · rw [if_neg (fun q => h2 ((nI_m1_neg (by omega)).mp q)), nI_dm]
      have hti := pk_sub_toInt (a := g_px σ m + 1) (b := g_ln σ) (by omega) (by omega)
      have htn : (-(nI (g_px σ m + 1) - nI (g_ln σ))).toInt = (g_ln σ : Int) - (g_px σ m + 1 : Nat) := by
        rw [Int32.neg_sub, pk_sub_toInt (by omega) (by omega)]
      have hw := nI_toInt (n := g_wd σ) (by omega)
      by_cases h3 : g_px σ m + 1 ≤ g_ln σ + g_wd σ
      · rw [if_neg (by rw [i_lt, hti, hw]; omega)]
        by_cases h4 : g_ln σ ≤ g_px σ m + 1 + g_wd σ
        · rw [if_pos (by rw [i_le, htn, hw]; omega)]
          by_cases h5 : g_px σ m + 1 < g_ln σ
          · rw [if_neg (by rw [i_le, hti]; show ¬ (0 : Int) ≤ _; omega), Option.bind_some, b_ts (by omega), b_nIt (by omega)]
            unfold frB
            rw [if_pos h5]
            by_cases hb : (g_fs σ).testBit c = true
            · rw [if_pos hb, if_pos rfl]
              exact ⟨_, rfl, by simp [hb]⟩
            · rw [if_neg hb, if_neg (by decide)]
              exact ⟨_, rfl, by simp [hb]; omega⟩
          · rw [if_pos (by rw [i_le, hti]; show (0 : Int) ≤ _; omega), Option.bind_some, b_ts (by omega), b_nIt (by omega)]
            unfold frB
            rw [if_neg h5]
            by_cases hb : (g_ss σ).testBit c = true
            · rw [if_pos hb, if_pos rfl]
              exact ⟨_, rfl, by simp [hb]⟩
            · rw [if_neg hb, if_neg (by decide)]
              exact ⟨_, rfl, by simp [hb]; omega⟩
        · rw [if_neg (by rw [i_le, htn, hw]; omega)]
          exact ⟨_, rfl, by simp [frB]; intro; omega⟩
      · rw [if_pos (by rw [i_lt, hti, hw]; omega)]
        exact ⟨_, rfl, by simp [frB]; intro; omega⟩
  · rw [if_neg (show ¬ nI (g_kd σ m) = (3 : Int32) from fun q => h1 ((nI_eq (by omega) (by decide)).mp q))]
    exact ⟨_, rfl, by simp [frB, h1]⟩
theorem lgc_lt (x y : Int64) : (lg_cmp x y < 0) ↔ x < y := by
  have h := lg_cmp_ge x y
  rw [← Int32.not_le, h, Int64.not_le]
theorem lgc_gt (x y : Int64) : (0 < lg_cmp x y) ↔ y < x := by
  unfold lg_cmp
  by_cases h : x > y
  · simp [h]
  · by_cases h2 : x = y
    · simp [h, h2]
    · simp [h, h2]
/-- isIn over ints -/
theorem r_isIn (M : ab_M) (x a b : Int32) : mi_X10_isIn M x.toInt64 a.toInt64 b.toInt64 = some (if a ≤ x ∧ x ≤ b then 1 else 0) := by
  have e : ∀ u v : Int32, u.toInt64 < v.toInt64 ↔ u < v := fun u v => by rw [Int64.lt_iff_toInt_lt, Int32.lt_iff_toInt_lt, Int32.toInt_toInt64, Int32.toInt_toInt64]
  unfold mi_X10_isIn
  by_cases h1 : x < a
  · rw [if_pos ((lgc_lt _ _).mpr ((e _ _).mpr h1)), if_neg (fun q => Int32.not_le.mpr h1 q.1)]
  · rw [if_neg (fun q => h1 ((e _ _).mp ((lgc_lt _ _).mp q)))]
    by_cases h2 : b < x
    · rw [if_pos ((lgc_gt _ _).mpr ((e _ _).mpr h2)), if_neg (fun q => Int32.not_le.mpr h2 q.2)]
    · rw [if_neg (fun q => h2 ((e _ _).mp ((lgc_gt _ _).mp q))), if_pos ⟨Int32.not_lt.mp h1, Int32.not_lt.mp h2⟩]
theorem r_mayHave {σ : Sg} {M : ab_M} (hS : Sok σ) (hR : RepR σ M) {w c : Nat} (hw : w < g_nw σ) (hc : c < 30) : ∃ z, mi_X10_mayHave M (nI w) (nI c) = some z ∧ (z = 0 ∨ z = 1) ∧ (z = 0 ↔ ¬ may σ w c) := by
  have h16 := hS.w16 hw
  have hm := hS.mo hw
  have hm12 := hS.mo12 hw
  obtain ⟨e1, e2⟩ := hR.w hw
  obtain ⟨k0, -, -, -, -, -, -, k7⟩ := hR.m hm
  obtain ⟨l0, -, -, -, -, -, -, -, g1, g2⟩ := hS.mast hm
  have hsy := (hS.want hw).2.2.2
  obtain ⟨z1, q1, q2⟩ := r_isListed hS hR (c := c) hm (by omega)
  obtain ⟨z2, q3, q4⟩ := r_isListed hS hR (c := c + g_gp σ (g_mo σ w)) hm (by omega)
  obtain ⟨z3, q5, q6⟩ := r_isFree hS hR hm hc
  unfold mi_X10_mayHave
  have hin : mi_X10_isIn M (nI c).toInt64 0 29 = some 1 := by
    have := r_isIn M (nI c) 0 29
    rw [if_pos ⟨nI_pos' (by omega), nI_le (show c ≤ 29 by omega) (by decide)⟩] at this
    exact this
  rw [hin]
  simp only [vin h16, ab_chk_true, nI_clamp (show w < 2 ^ 31 by omega), e1, e2, vin hm12, nI_clamp (show g_mo σ w < 2 ^ 31 by omega), k0, k7, nI_add, q1, q3, q5, Option.bind_some, if_neg (show ¬ (1 : Int32) = 0 by decide)]
  unfold may
  by_cases h1 : z1 = 0
  · rw [if_pos h1]
    exact ⟨0, rfl, Or.inl rfl, by simp only [true_iff]; intro q; exact (q2.mp h1) ⟨hc, q.2.1⟩⟩
  · rw [if_neg h1]
    have hl : (g_ls σ (g_mo σ w)).testBit c = true := (Classical.not_not.mp (fun q => h1 (q2.mpr q))).2
    have rest : ∀ (y : Option Int32), (y = some 0 ∧ ¬ (g_kd σ (g_mo σ w) = 1 → c + g_gp σ (g_mo σ w) < 30 ∧ (g_ls σ (g_mo σ w)).testBit (c + g_gp σ (g_mo σ w)) = true)) ∨ (y = some 1 ∧ (g_kd σ (g_mo σ w) = 1 → c + g_gp σ (g_mo σ w) < 30 ∧ (g_ls σ (g_mo σ w)).testBit (c + g_gp σ (g_mo σ w)) = true)) → ∃ z : Int32, (y.bind fun q4 => if q4 = 0 then some 0 else if z3 = 0 then some 0 else if nI (g_sy σ w) - 1 < 0 then some 1 else if nI (g_sy σ w) - 1 = nI c then some 1 else some 0) = some z ∧ (z = 0 ∨ z = 1) ∧ (z = 0 ↔ ¬ (c < 30 ∧ (g_ls σ (g_mo σ w)).testBit c = true ∧ (g_kd σ (g_mo σ w) = 1 → c + g_gp σ (g_mo σ w) < 30 ∧ (g_ls σ (g_mo σ w)).testBit (c + g_gp σ (g_mo σ w)) = true) ∧ frB σ (g_mo σ w) c ∧ (g_sy σ w = 0 ∨ g_sy σ w = c + 1))) := by
      rintro y (⟨rfl, hy⟩ | ⟨rfl, hy⟩)
      · rw [Option.bind_some, if_pos rfl]
        exact ⟨0, rfl, Or.inl rfl, by simp only [true_iff]; intro q; exact hy q.2.2.1⟩
      · rw [Option.bind_some, if_neg (by decide)]
        by_cases h3 : z3 = 0
        · rw [if_pos h3]
          exact ⟨0, rfl, Or.inl rfl, by simp only [true_iff]; intro q; exact (q6.mp h3) q.2.2.2.1⟩
        · rw [if_neg h3]
          have hfr : frB σ (g_mo σ w) c := Classical.not_not.mp (fun q => h3 (q6.mpr q))
          by_cases h4 : g_sy σ w = 0
          · rw [if_pos ((nI_m1_neg (by omega)).mpr h4)]
            exact ⟨1, rfl, Or.inr rfl, by simp only [show ¬ (1 : Int32) = 0 by decide, false_iff]; intro q; exact q ⟨hc, hl, hy, hfr, Or.inl h4⟩⟩
          · rw [if_neg (fun q => h4 ((nI_m1_neg (by omega)).mp q))]
            by_cases h5 : g_sy σ w = c + 1
            · rw [if_pos ((nI_m1_eq (by omega) (by omega)).mpr h5)]
              exact ⟨1, rfl, Or.inr rfl, by simp only [show ¬ (1 : Int32) = 0 by decide, false_iff]; intro q; exact q ⟨hc, hl, hy, hfr, Or.inr h5⟩⟩
            · rw [if_neg (fun q => h5 ((nI_m1_eq (by omega) (by omega)).mp q))]
              exact ⟨0, rfl, Or.inl rfl, by simp only [true_iff]; intro q; exact absurd q.2.2.2.2 (by omega)⟩
    by_cases hk : g_kd σ (g_mo σ w) = 1
    · rw [if_pos (show nI (g_kd σ (g_mo σ w)) = 1 by rw [hk]; rfl)]
      by_cases h2 : z2 = 0
      · rw [if_pos h2]
        exact rest _ (Or.inl ⟨rfl, fun q => (q4.mp h2) (q hk)⟩)
      · rw [if_neg h2]
        exact rest _ (Or.inr ⟨rfl, fun _ => Classical.not_not.mp (fun q => h2 (q4.mpr q))⟩)
    · rw [if_neg (show ¬ nI (g_kd σ (g_mo σ w)) = (1 : Int32) from fun q => hk ((nI_eq (by omega) (by decide)).mp q))]
      exact rest _ (Or.inr ⟨rfl, fun z => absurd z hk⟩)
