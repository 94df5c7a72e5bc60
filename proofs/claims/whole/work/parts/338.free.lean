/-! PURE: bits of longs; which channels are too near, which make sums -/
def bl (x : Int64) (i : Nat) : Bool := x.toBitVec.getLsbD i
def nL (n : Nat) : Int64 := Int64.ofNat n
theorem bl_or (x y : Int64) (i : Nat) : bl (x ||| y) i = (bl x i || bl y i) := by unfold bl; rw [Int64.toBitVec_or, BitVec.getLsbD_or]
theorem bl_0 (i : Nat) : bl 0 i = false := BitVec.getLsbD_zero
theorem bl_big {x : Int64} {i : Nat} (h : 64 ≤ i) : bl x i = false := BitVec.getLsbD_of_ge _ _ h
theorem bl_nL (n i : Nat) : bl (nL n) i = (decide (i < 64) && n.testBit i) := by
  show (BitVec.ofNat 64 n).getLsbD i = _
  rw [BitVec.getLsbD_ofNat]
theorem bl_nLt {n i : Nat} (h : i < 64) : bl (nL n) i = n.testBit i := by rw [bl_nL, decide_eq_true h, Bool.true_and]
theorem bl_m1 : ∀ i, i < 64 → bl (-1) i = true := by decide +kernel
theorem bl_not (x : Int64) {i : Nat} (hi : i < 64) : bl (x ^^^ (-1)) i = !bl x i := by
  have : bl (x ^^^ (-1)) i = (bl x i ^^ bl (-1) i) := by unfold bl; rw [Int64.toBitVec_xor, BitVec.getLsbD_xor]
  rw [this, bl_m1 i hi]
  cases bl x i <;> rfl
theorem s_lu : ∀ n, n < 64 → (((nI n).toInt64.toUInt64 &&& Int64.toUInt64 63).toBitVec % 64).toNat = n := by decide +kernel
theorem bl_lushr (n : Nat) (hn : n < 64) (x : Int64) (i : Nat) : bl (ab_lushr x (nI n)) i = bl x (n + i) := by
  show (x.toUInt64 >>> ((nI n).toInt64.toUInt64 &&& Int64.toUInt64 63)).toBitVec.getLsbD i = x.toUInt64.toBitVec.getLsbD (n + i)
  rw [UInt64.toBitVec_shiftRight]
  show (x.toUInt64.toBitVec >>> (((nI n).toInt64.toUInt64 &&& Int64.toUInt64 63).toBitVec % 64).toNat).getLsbD i = _
  rw [s_lu n hn, BitVec.getLsbD_ushiftRight]
theorem bl_i32 (x : Int64) {i : Nat} (hi : i < 32) : bt (Int64.toInt32 x) i = bl x i := by
  unfold bt bl
  rw [Int64.toBitVec_toInt32, BitVec.getLsbD_signExtend, decide_eq_true hi, Bool.true_and, if_pos (by omega)]
theorem lshl_1 : ∀ j, j < 63 → ab_lshl 1 (nI j) = nL (2 ^ j) := by decide +kernel
theorem lshl_d : ∀ a, a < 50 → ∀ b, b < a → ab_lshl 1 (nI a) - ab_lshl 1 (nI b) = nL (2 ^ b * (2 ^ (a - b) - 1)) := by decide +kernel
theorem bl_d {a b i : Nat} (ha : a < 50) (hb : b < a) (hi : i < 64) : bl (ab_lshl 1 (nI a) - ab_lshl 1 (nI b)) i = decide (b ≤ i ∧ i < a) := by
  rw [lshl_d a ha b hb, bl_nLt hi, Nat.testBit_two_pow_mul, Nat.testBit_two_pow_sub_one]
  by_cases h1 : b ≤ i
  · by_cases h2 : i < a
    · simp [h1, h2]; omega
    · simp [h1, h2]; omega
  · simp [h1]
theorem bl_one {j i : Nat} (hj : j < 63) (hi : i < 64) : bl (ab_lshl 1 (nI j)) i = decide (i = j) := by
  rw [lshl_1 j hj, bl_nLt hi, Nat.testBit_two_pow]
  exact decide_eq_decide.mpr eq_comm
/-- one of the channels of u is too near i -/
abbrev nearC (σ : Sg) (p : Nat → Nat) (b u i : Nat) : Prop := ∃ x, x ∈ pch σ p u ∧ dst x i < b
/-- i would make a sum with channels of u and v -/
abbrev tgt (σ : Sg) (p : Nat → Nat) (u v i : Nat) : Prop := ∃ x, x ∈ pch σ p u ∧ ∃ y, y ∈ pch σ p v ∧ (i + y = 2 * x ∨ i + x = 2 * y ∨ x + y = 2 * i)
theorem pch_gl {σ : Sg} (hS : Sok σ) {p : Nat → Nat} {u : Nat} (hu : u < g_nw σ) (h : p u ≠ 0) : pch σ p u = gl (p u - 1) (gapW σ u) := by
  unfold pch; rw [if_neg h, chs_gl hS hu]
/-- a loop over the channels of a want that gathers -/
theorem lp_glE {α β : Type} (L : Nat → α → Int32 → Option β) (c g : Nat) (R : α → Nat → α → Prop) (fin : α → Int32 → Option β) (hcg : c + 2 * g < 1000000)
    (hs : ∀ n a x, x ∈ gl c g → ∃ b, R a x b ∧ L (n + 1) a (nI x) = L n b (nI x + ab_max 1 (nI g))) (he : ∀ n a x, c + g < x → x < 2000000 → L (n + 1) a (nI x) = fin a (nI x)) :
    ∀ (a : α) (n : Nat), 3 < n → ∃ b y, L n a (nI c) = fin b y ∧ ((g = 0 ∧ R a c b) ∨ (g ≠ 0 ∧ ∃ m, R a c m ∧ R m (c + g) b)) := by
  intro a n hn
  obtain ⟨m, rfl⟩ : ∃ m, n = m + 1 + 1 + 1 := ⟨n - 3, by omega⟩
  by_cases h : g = 0
  · subst h
    have e : gl c 0 = [c] := rfl
    obtain ⟨b, h1, h2⟩ := hs (m + 1 + 1) a c (by rw [e]; simp)
    refine ⟨b, nI (c + 1), ?_, Or.inl ⟨rfl, h1⟩⟩
    rw [h2, show ab_max 1 (nI 0) = nI 1 from rfl, nI_add]
    exact he (m + 1) _ (c + 1) (by omega) (by omega)
  · have e : gl c g = [c, c + g] := by simp [gl, h]
    have hx : ab_max 1 (nI g) = nI g := by
      rw [show (1 : Int32) = nI 1 from rfl, nI_max (by decide) (by omega), Nat.max_eq_right (by omega)]
    obtain ⟨b1, h1, h2⟩ := hs (m + 1 + 1) a c (by rw [e]; simp)
    obtain ⟨b2, h3, h4⟩ := hs (m + 1) b1 (c + g) (by rw [e]; simp)
    refine ⟨b2, nI (c + g + g), ?_, Or.inr ⟨h, b1, h1, h3⟩⟩
    rw [h2, hx, nI_add, h4, hx, nI_add]
    exact he m _ (c + g + g) (by omega) (by omega)
/-- such a loop over bits -/
theorem lp_glB {β : Type} (L : Nat → Int64 → Int32 → Option β) (c g : Nat) (P : Nat → Nat → Prop) (fin : Int64 → Int32 → Option β) (hcg : c + 2 * g < 1000000)
    (hs : ∀ n a x, x ∈ gl c g → ∃ b, (∀ i, i < 64 → (bl b i = true ↔ bl a i = true ∨ P x i)) ∧ L (n + 1) a (nI x) = L n b (nI x + ab_max 1 (nI g))) (he : ∀ n a x, c + g < x → x < 2000000 → L (n + 1) a (nI x) = fin a (nI x))
    (a : Int64) (n : Nat) (hn : 3 < n) : ∃ b y, L n a (nI c) = fin b y ∧ ∀ i, i < 64 → (bl b i = true ↔ bl a i = true ∨ ∃ x, x ∈ gl c g ∧ P x i) := by
  obtain ⟨b, y, h1, h2⟩ := lp_glE L c g (fun a x b => ∀ i, i < 64 → (bl b i = true ↔ bl a i = true ∨ P x i)) fin hcg hs he a n hn
  refine ⟨b, y, h1, fun i hi => ?_⟩
  rcases h2 with ⟨hg, h⟩ | ⟨hg, m, h3, h4⟩
  · rw [h i hi]
    subst hg
    have e : gl c 0 = [c] := rfl
    rw [e]
    simp
  · have e : gl c g = [c, c + g] := by simp [gl, hg]
    rw [h4 i hi, h3 i hi, e]
    simp only [List.mem_cons, List.not_mem_nil, or_false]
    constructor
    · rintro ((h | h) | h)
      · exact Or.inl h
      · exact Or.inr ⟨c, Or.inl rfl, h⟩
      · exact Or.inr ⟨c + g, Or.inr rfl, h⟩
    · rintro (h | ⟨x, rfl | rfl, h⟩)
      · exact Or.inl (Or.inl h)
      · exact Or.inl (Or.inr h)
      · exact Or.inr h
theorem c_tooNear {σ : Sg} {M : ab_M} {p : Nat → Nat} {t : Nat} (hS : Sok σ) (hC : RepC σ M) {u b : Nat} (hu : u < g_nw σ) (hpu : p u ≤ 30) (hPu : M.1 t u = pv (p u)) (pu : p u ≠ 0) (hb : b ≤ 6) : ∃ B, mi_X2_tooNear M t (nI u) (nI b) = some B ∧ ∀ i, i < 64 → (bl B i = true ↔ nearC σ p b u i) := by
  have hu16 := hS.w16 hu
  have hgu := gapW_le hS hu
  unfold mi_X2_tooNear
  by_cases h0 : b = 0
  · rw [if_pos (by rw [h0]; rfl)]
    refine ⟨0, rfl, fun i hi => ?_⟩
    rw [bl_0, h0]
    simp [nearC]
  · rw [if_neg (show ¬ nI b = (0 : Int32) from nI_ne0 (by omega) (by omega)), c_gapOf hS hC.1 hu, Option.bind_some, ab_chk_pos (vin hu16)]
    obtain ⟨c, hc⟩ : ∃ c, p u = c + 1 := ⟨p u - 1, by omega⟩
    have e1 : M.1 t u = nI c := by rw [hPu, hc, pv_s]
    have f1 : pch σ p u = gl c (gapW σ u) := by rw [pch_gl hS hu pu, hc, Nat.add_sub_cancel]
    rw [nI_clamp (show u < 2 ^ 31 by omega), e1]
    unfold nearC
    rw [f1]
    generalize gapW σ u = g at hgu ⊢
    obtain ⟨B, y, h1, h2⟩ := lp_glB (fun n a x => mi_X2_tooNear_24 n M t (nI u) (nI b) a (nI g) x) c g (fun x i => dst x i < b) (fun a y => some (a, y)) (by omega) (fun n a x hx => by
      have hxl := gl_mem hx
      refine ⟨a ||| ((ab_lshl 1 (nI (x + b))) - (ab_lshl 1 (nI (x + 1 - b)))), fun i hi => ?_, ?_⟩
      · rw [bl_or, Bool.or_eq_true, bl_d (by omega) (by omega) hi, decide_eq_true_eq]
        refine or_congr Iff.rfl ?_
        unfold dst
        omega
      · show mi_X2_tooNear_24 (n + 1) M _ _ _ _ _ _ = _
        rw [mi_X2_tooNear_24.eq_2, ab_chk_pos (vin hu16), nI_clamp (show u < 2 ^ 31 by omega), e1, nI_add, if_neg (nI_nlt hxl.2 (by omega)), Option.bind_some]
        have e2 : ab_max 0 ((nI x - nI b) + 1) = nI (x + 1 - b) := by
          have : (nI x - nI b) + 1 = nI (x + 1) - nI b := by
            rw [← nI_1, Int32.sub_eq_add_neg, Int32.sub_eq_add_neg, Int32.add_assoc, Int32.add_assoc, Int32.add_comm 1]
          rw [this, show (0 : Int32) = nI 0 from rfl, nI_lk (by omega) (by omega) (by omega), Nat.max_eq_right (by omega)]
        rw [e2, nI_add]) (fun n a x hx hx2 => by
      show mi_X2_tooNear_24 (n + 1) M _ _ _ _ _ _ = _
      rw [mi_X2_tooNear_24.eq_2, ab_chk_pos (vin hu16), nI_clamp (show u < 2 ^ 31 by omega), e1, nI_add, if_pos (nI_lt hx (by omega))]) 0 ab_F (by unfold ab_F; omega)
    rw [h1]
    refine ⟨B, rfl, fun i hi => ?_⟩
    rw [h2 i hi, bl_0]
    simp
theorem c_bitOf (M : ab_M) (z : Int32) : ∃ B, mi_X2_bitOf M z = some B ∧ ∀ i, i < 64 → (bl B i = true ↔ i ≤ 29 ∧ z.toInt = i) := by
  have z0 : (0 : Int32).toInt = 0 := rfl
  have z30 : (30 : Int32).toInt = 30 := rfl
  unfold mi_X2_bitOf
  by_cases h0 : z < 0
  · rw [if_pos h0]
    have h1 : z.toInt < 0 := by have := Int32.lt_iff_toInt_lt.mp h0; rwa [z0] at this
    refine ⟨0, rfl, fun i hi => ?_⟩
    rw [bl_0]
    simp only [Bool.false_eq_true, false_iff]
    omega
  · rw [if_neg h0]
    have h1 : ¬ z.toInt < 0 := fun h => h0 (Int32.lt_iff_toInt_lt.mpr (by rwa [z0]))
    by_cases h3 : (30 : Int32) ≤ z
    · rw [if_pos h3]
      have h4 : (30 : Int) ≤ z.toInt := by have := (i_le _ _).mp h3; rwa [z30] at this
      refine ⟨0, rfl, fun i hi => ?_⟩
      rw [bl_0]
      simp only [Bool.false_eq_true, false_iff]
      omega
    · rw [if_neg h3]
      have h4 : ¬ (30 : Int) ≤ z.toInt := fun h => h3 ((i_le _ _).mpr (by rwa [z30]))
      obtain ⟨j, hj⟩ : ∃ j : Nat, z.toInt = j := ⟨z.toInt.toNat, by omega⟩
      have e : z = nI j := by rw [i_eq, nI_toInt (by omega)]; exact hj
      refine ⟨_, rfl, fun i hi => ?_⟩
      rw [e, bl_one (by omega) hi, decide_eq_true_eq, nI_toInt (by omega)]
      omega
theorem c_sumTargets {σ : Sg} {M : ab_M} {p : Nat → Nat} {t : Nat} (hS : Sok σ) (hC : RepC σ M) {u v : Nat} (hu : u < g_nw σ) (hv : v < g_nw σ) (hpu : p u ≤ 30) (hpv : p v ≤ 30) (hPu : M.1 t u = pv (p u)) (hPv : M.1 t v = pv (p v)) (pu : p u ≠ 0) (pv0 : p v ≠ 0) : ∃ B, mi_X2_sumTargets M t (nI u) (nI v) = some B ∧ ∀ i, i < 64 → (bl B i = true ↔ i ≤ 29 ∧ tgt σ p u v i) := by
  have hu16 := hS.w16 hu
  have hv16 := hS.w16 hv
  have hgu := gapW_le hS hu
  have hgv := gapW_le hS hv
  obtain ⟨a, ha⟩ : ∃ c, p u = c + 1 := ⟨p u - 1, by omega⟩
  obtain ⟨b, hb⟩ : ∃ c, p v = c + 1 := ⟨p v - 1, by omega⟩
  have e1 : M.1 t u = nI a := by rw [hPu, ha, pv_s]
  have e2 : M.1 t v = nI b := by rw [hPv, hb, pv_s]
  have f1 : pch σ p u = gl a (gapW σ u) := by rw [pch_gl hS hu pu, ha, Nat.add_sub_cancel]
  have f2 : pch σ p v = gl b (gapW σ v) := by rw [pch_gl hS hv pv0, hb, Nat.add_sub_cancel]
  unfold mi_X2_sumTargets tgt
  rw [c_gapOf hS hC.1 hu, Option.bind_some, c_gapOf hS hC.1 hv, Option.bind_some, ab_chk_pos (vin hu16), nI_clamp (show u < 2 ^ 31 by omega), e1, f1, f2]
  generalize gapW σ u = gu at hgu ⊢
  generalize gapW σ v = gv at hgv ⊢
  have inner : ∀ x, x ∈ gl a gu → ∀ acc, ∃ B y, mi_X2_sumTargets_44 ab_F M t (nI u) (nI v) acc (nI gu) (nI gv) (nI x) (nI b) = some (B, y) ∧ ∀ i, i < 64 → (bl B i = true ↔ bl acc i = true ∨ ∃ y, y ∈ gl b gv ∧ i ≤ 29 ∧ (i + y = 2 * x ∨ i + x = 2 * y ∨ x + y = 2 * i)) := by
    intro x hx acc
    have hxl := gl_mem hx
    exact lp_glB (fun n a y => mi_X2_sumTargets_44 n M t (nI u) (nI v) a (nI gu) (nI gv) (nI x) y) b gv (fun y i => i ≤ 29 ∧ (i + y = 2 * x ∨ i + x = 2 * y ∨ x + y = 2 * i)) (fun a y => some (a, y)) (by omega) (fun n acc y hy => by
      have hyl := gl_mem hy
      obtain ⟨B1, q1, q2⟩ := c_bitOf M (((2 : Int32) * nI x) - nI y)
      obtain ⟨B2, q3, q4⟩ := c_bitOf M (((2 : Int32) * nI y) - nI x)
      have t1 : (((2 : Int32) * nI x) - nI y).toInt = 2 * (x : Int) - y := by
        rw [show (2 : Int32) = nI 2 from rfl, pk_mul, pk_sub_toInt (by omega) (by omega)]
        omega
      have t2 : (((2 : Int32) * nI y) - nI x).toInt = 2 * (y : Int) - x := by
        rw [show (2 : Int32) = nI 2 from rfl, pk_mul, pk_sub_toInt (by omega) (by omega)]
        omega
      have h3 : ∃ B3, ((if (ab_rem (nI x + nI y) 2) = 0 then (mi_X2_bitOf M ((nI x + nI y) / 2)).bind fun q19 => some q19 else some 0) : Option (Int64)) = some B3 ∧ ∀ i, i < 64 → (bl B3 i = true ↔ i ≤ 29 ∧ x + y = 2 * i) := by
        have er : ab_rem (nI (x + y)) 2 = nI ((x + y) % 2) := nI_rem _ 2 (by omega) (by decide) (by decide)
        have ed : nI (x + y) / 2 = nI ((x + y) / 2) := nI_div _ 2 (by omega) (by decide)
        rw [nI_add, er, ed]
        by_cases h : (x + y) % 2 = 0
        · rw [if_pos (by rw [h]; rfl)]
          obtain ⟨B3, q5, q6⟩ := c_bitOf M (nI ((x + y) / 2))
          rw [q5]
          refine ⟨B3, rfl, fun i hi => ?_⟩
          rw [q6 i hi, nI_toInt (by omega)]
          omega
        · rw [if_neg (show ¬ nI ((x + y) % 2) = (0 : Int32) from nI_ne0 (by omega) (by omega))]
          refine ⟨0, rfl, fun i hi => ?_⟩
          rw [bl_0]
          simp only [Bool.false_eq_true, false_iff]
          omega
      obtain ⟨B3, q5, q6⟩ := h3
      refine ⟨(acc ||| (B1 ||| B2)) ||| B3, fun i hi => ?_, ?_⟩
      · rw [bl_or, bl_or, bl_or, Bool.or_eq_true, Bool.or_eq_true, Bool.or_eq_true, q2 i hi, q4 i hi, q6 i hi, t1, t2, or_assoc]
        refine or_congr Iff.rfl ?_
        omega
      · show mi_X2_sumTargets_44 (n + 1) M _ _ _ _ _ _ _ _ = _
        rw [mi_X2_sumTargets_44.eq_2, ab_chk_pos (vin hv16), nI_clamp (show v < 2 ^ 31 by omega), e2, nI_add, if_neg (nI_nlt hyl.2 (by omega)), q1, Option.bind_some, q3, Option.bind_some, q5, Option.bind_some]) (fun n acc y hy hy2 => by
      show mi_X2_sumTargets_44 (n + 1) M _ _ _ _ _ _ _ _ = _
      rw [mi_X2_sumTargets_44.eq_2, ab_chk_pos (vin hv16), nI_clamp (show v < 2 ^ 31 by omega), e2, nI_add, if_pos (nI_lt hy (by omega))]) acc ab_F (by unfold ab_F; omega)
  obtain ⟨B, y, h1, h2⟩ := lp_glB (fun n acc x => mi_X2_sumTargets_28 n M t (nI u) (nI v) acc (nI gu) (nI gv) x) a gu (fun x i => ∃ y, y ∈ gl b gv ∧ i ≤ 29 ∧ (i + y = 2 * x ∨ i + x = 2 * y ∨ x + y = 2 * i)) (fun a y => some (a, y)) (by omega) (fun n acc x hx => by
    have hxl := gl_mem hx
    obtain ⟨B, y, h1, h2⟩ := inner x hx acc
    refine ⟨B, h2, ?_⟩
    show mi_X2_sumTargets_28 (n + 1) M _ _ _ _ _ _ _ = _
    rw [mi_X2_sumTargets_28.eq_2, ab_chk_pos (vin hu16), nI_clamp (show u < 2 ^ 31 by omega), e1, nI_add, if_neg (nI_nlt hxl.2 (by omega)), ab_chk_pos (vin hv16), nI_clamp (show v < 2 ^ 31 by omega), e2, h1, Option.bind_some]) (fun n acc x hx hx2 => by
    show mi_X2_sumTargets_28 (n + 1) M _ _ _ _ _ _ _ = _
    rw [mi_X2_sumTargets_28.eq_2, ab_chk_pos (vin hu16), nI_clamp (show u < 2 ^ 31 by omega), e1, nI_add, if_pos (nI_lt hx (by omega))]) 0 ab_F (by unfold ab_F; omega)
  rw [h1]
  refine ⟨B, rfl, fun i hi => ?_⟩
  rw [h2 i hi, bl_0]
  simp only [Bool.false_eq_true, false_or]
  constructor
  · rintro ⟨x, hx, y, hy, h3, h4⟩
    exact ⟨h3, x, hx, y, hy, h4⟩
  · rintro ⟨h3, x, hx, y, hy, h4⟩
    exact ⟨x, hx, y, hy, h3, h4⟩
