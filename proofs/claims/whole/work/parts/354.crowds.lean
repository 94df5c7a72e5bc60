/-! PURE: crowds: the class -/
theorem c_boundOfSeated {σ : Sg} {M : ab_M} {L : Nat → Nat} {n : Nat} (hn : n ≤ 6) (hT : TT σ L n M) : mi_X0_boundOfSeated M (nI n) = some (nI (bnd σ L n)) := by
  have hp0 : 0 < 2 ^ n := Nat.two_pow_pos n
  have hp : 2 ^ n ≤ 64 := Nat.le_trans (Nat.pow_le_pow_right (by decide) hn) (by decide)
  unfold mi_X0_boundOfSeated
  rw [b_oneN (by omega), show (1 : Int32) = nI 1 from rfl, pk_sub (by omega)]
  have hl := lp_up (fun g (a : Nat) x => mi_X0_boundOfSeated_12 g M (nI n) (nI (2 ^ n - 1)) (nI a) x) n (fun i a => min a (ord σ L (2 ^ n - 1) i)) (fun a => some (nI a, nI n)) (fun _ a => a ≤ 1000000) (fun g j a hj ha => by
    refine ⟨?_, by show min a _ ≤ 1000000; omega⟩
    have hbit : (2 ^ n - 1).testBit j = true := by rw [Nat.testBit_two_pow_sub_one, decide_eq_true hj]
    have hle := tb_le hbit
    have h2j : 0 < 2 ^ j := Nat.two_pow_pos j
    have ho := ord_le (σ := σ) (L := L) (show 2 ^ n - 1 < 64 by omega) hbit
    have e6 : nI (2 ^ n - 1) * 6 + nI j = nI (6 * (2 ^ n - 1) + j) := by
      rw [show (6 : Int32) = nI 6 from rfl, pk_mul, nI_add, Nat.mul_comm]
    show mi_X0_boundOfSeated_12 (g + 1) M _ _ _ _ = _
    rw [mi_X0_boundOfSeated_12.eq_2, if_neg (nI_ge hj (by omega)), e6, ab_chk_pos (vin (show 6 * (2 ^ n - 1) + j < 384 by omega)), nI_clamp (show 6 * (2 ^ n - 1) + j < 2 ^ 31 by omega), hT.2 (2 ^ n - 1) (by omega) (by omega) (by omega) j hj hbit, nI_min (by omega) (by omega), nI_1]) (fun g a _ => by
    show mi_X0_boundOfSeated_12 (g + 1) M _ _ _ _ = _
    rw [mi_X0_boundOfSeated_12.eq_2, if_pos (Int32.le_refl _)]) n 0 1000000 ab_F (by omega) (ab_F_lt (by omega)) (Nat.le_refl _)
  have h1 : mi_X0_boundOfSeated_12 ab_F M (nI n) (nI (2 ^ n - 1)) 1000000 0 = some (nI (bnd σ L n), nI n) := hl.1
  rw [h1, Option.bind_some]
theorem c_barsAll2 {σ : Sg} {M : ab_M} {a : Nat} {B : Int32} {Q : Nat → Prop} (hS : Sok σ) (hC : RepC σ M) (ha : a < g_nm σ) (hB : ∀ i, i < 12 → (bt B i = true ↔ Q i)) : ∀ (k j g : Nat), j + k = g_nm σ → k < g → (∃ z, mi_X0_barsAll_2 g M (nI a) B (nI j) = some (.inl z) ∧ ∀ b, j ≤ b → b < g_nm σ → Q b → 0 < bar σ a b) ∨ (mi_X0_barsAll_2 g M (nI a) B (nI j) = some (.inr 0) ∧ ¬ ∀ b, j ≤ b → b < g_nm σ → Q b → 0 < bar σ a b) := by
  have hnm := hS.nm
  intro k
  induction k with
  | zero =>
    intro j g hj hg
    obtain ⟨g, rfl⟩ : ∃ m, g = m + 1 := ⟨g - 1, by omega⟩
    obtain rfl : j = g_nm σ := by omega
    left
    rw [mi_X0_barsAll_2.eq_2, hC.1.1, if_pos (Int32.le_refl _)]
    exact ⟨_, rfl, fun b h1 h2 => by omega⟩
  | succ k ih =>
    intro j g hj hg
    obtain ⟨g, rfl⟩ : ∃ m, g = m + 1 := ⟨g - 1, by omega⟩
    have hjm : j < g_nm σ := by omega
    have step : (Q j → 0 < bar σ a j) → (∃ z, mi_X0_barsAll_2 g M (nI a) B (nI (j + 1)) = some (.inl z) ∧ ∀ b, j ≤ b → b < g_nm σ → Q b → 0 < bar σ a b) ∨ (mi_X0_barsAll_2 g M (nI a) B (nI (j + 1)) = some (.inr 0) ∧ ¬ ∀ b, j ≤ b → b < g_nm σ → Q b → 0 < bar σ a b) := by
      intro ho
      rcases ih (j + 1) g (by omega) (by omega) with ⟨z, h1, h2⟩ | ⟨h1, h2⟩
      · refine Or.inl ⟨z, h1, fun w a b => ?_⟩
        by_cases e : w = j
        · subst e; exact ho
        · exact h2 w (by omega) b
      · exact Or.inr ⟨h1, fun q => h2 (fun w a b => q w (by omega) b)⟩
    rw [mi_X0_barsAll_2.eq_2, hC.1.1, if_neg (nI_ge hjm (by omega)), b_tu (by omega), nI_1]
    by_cases hb : bt B j = true
    · have hb6 := bar_le hS a j
      rw [if_pos hb, if_neg (by decide), c_barOf hS hC ha hjm, Option.bind_some]
      by_cases h0 : bar σ a j = 0
      · rw [if_pos (by rw [h0]; rfl)]
        exact Or.inr ⟨rfl, fun q => by have := q j (Nat.le_refl _) hjm ((hB j (by omega)).mp hb); omega⟩
      · rw [if_neg (show ¬ nI (bar σ a j) = (0 : Int32) from nI_ne0 (by omega) (by omega))]
        exact step (fun _ => by omega)
    · rw [if_neg hb, if_pos rfl]
      exact step (fun q => absurd ((hB j (by omega)).mpr q) hb)
theorem c_barsAll {σ : Sg} {M : ab_M} {a : Nat} {B : Int32} {Q : Nat → Prop} (hS : Sok σ) (hC : RepC σ M) (ha : a < g_nm σ) (hB : ∀ i, i < 12 → (bt B i = true ↔ Q i)) : (mi_X0_barsAll M (nI a) B = some 1 ∧ ∀ b, b < g_nm σ → Q b → 0 < bar σ a b) ∨ (mi_X0_barsAll M (nI a) B = some 0 ∧ ¬ ∀ b, b < g_nm σ → Q b → 0 < bar σ a b) := by
  have hnm := hS.nm
  unfold mi_X0_barsAll
  rw [show (0 : Int32) = nI 0 from rfl]
  rcases c_barsAll2 hS hC ha hB (g_nm σ) 0 ab_F (by omega) (ab_F_lt (by omega)) with ⟨z, h1, h2⟩ | ⟨h1, h2⟩
  · left
    rw [h1]
    exact ⟨rfl, fun b hb => h2 b (Nat.zero_le _) hb⟩
  · right
    rw [h1]
    exact ⟨rfl, fun q => h2 (fun b _ hb => q b hb)⟩
/-- a set of masts is a crowd -/
def crw (σ : Sg) (S : Nat) : Prop := ∀ a b, a < b → b < g_nm σ → S.testBit a = true → S.testBit b = true → 0 < bar σ a b
theorem c_isCrowd2 {σ : Sg} {M : ab_M} {S : Nat} (hS : Sok σ) (hC : RepC σ M) : ∀ (k j g : Nat), j + k = g_nm σ → k < g → (∃ z, mi_X0_isCrowd_2 g M (nI S) (nI j) = some (.inl z) ∧ ∀ a, j ≤ a → a < g_nm σ → S.testBit a = true → ∀ b, b < g_nm σ → (S.testBit b = true ∧ b ≠ a) → 0 < bar σ a b) ∨ (mi_X0_isCrowd_2 g M (nI S) (nI j) = some (.inr 0) ∧ ¬ ∀ a, j ≤ a → a < g_nm σ → S.testBit a = true → ∀ b, b < g_nm σ → (S.testBit b = true ∧ b ≠ a) → 0 < bar σ a b) := by
  have hnm := hS.nm
  intro k
  induction k with
  | zero =>
    intro j g hj hg
    obtain ⟨g, rfl⟩ : ∃ m, g = m + 1 := ⟨g - 1, by omega⟩
    obtain rfl : j = g_nm σ := by omega
    left
    rw [mi_X0_isCrowd_2.eq_2, hC.1.1, if_pos (Int32.le_refl _)]
    exact ⟨_, rfl, fun b h1 h2 => by omega⟩
  | succ k ih =>
    intro j g hj hg
    obtain ⟨g, rfl⟩ : ∃ m, g = m + 1 := ⟨g - 1, by omega⟩
    have hjm : j < g_nm σ := by omega
    have step : (S.testBit j = true → ∀ b, b < g_nm σ → (S.testBit b = true ∧ b ≠ j) → 0 < bar σ j b) → (∃ z, mi_X0_isCrowd_2 g M (nI S) (nI (j + 1)) = some (.inl z) ∧ ∀ a, j ≤ a → a < g_nm σ → S.testBit a = true → ∀ b, b < g_nm σ → (S.testBit b = true ∧ b ≠ a) → 0 < bar σ a b) ∨ (mi_X0_isCrowd_2 g M (nI S) (nI (j + 1)) = some (.inr 0) ∧ ¬ ∀ a, j ≤ a → a < g_nm σ → S.testBit a = true → ∀ b, b < g_nm σ → (S.testBit b = true ∧ b ≠ a) → 0 < bar σ a b) := by
      intro ho
      rcases ih (j + 1) g (by omega) (by omega) with ⟨z, h1, h2⟩ | ⟨h1, h2⟩
      · refine Or.inl ⟨z, h1, fun w a b => ?_⟩
        by_cases e : w = j
        · subst e; exact ho
        · exact h2 w (by omega) b
      · exact Or.inr ⟨h1, fun q => h2 (fun w a b => q w (by omega) b)⟩
    rw [mi_X0_isCrowd_2.eq_2, hC.1.1, if_neg (nI_ge hjm (by omega)), b_tu (by omega), b_nIt (by omega), nI_1]
    by_cases hb : S.testBit j = true
    · rw [if_pos hb, if_neg (by decide)]
      have hB : ∀ i, i < 12 → (bt (nI S &&& (((1 : Int32) <<< (nI j &&& 31)) ^^^ (-1))) i = true ↔ S.testBit i = true ∧ i ≠ j) := by
        intro i hi
        rw [b_and, b_nIt (by omega), b_not _ (by omega), b_one (by omega) (by omega), Bool.and_eq_true]
        simp
      rcases c_barsAll hS hC hjm hB with ⟨h1, h2⟩ | ⟨h1, h2⟩
      · rw [h1, Option.bind_some, if_neg (by decide)]
        exact step (fun _ => h2)
      · rw [h1, Option.bind_some, if_pos rfl]
        exact Or.inr ⟨rfl, fun q => h2 (q j (Nat.le_refl _) hjm hb)⟩
    · rw [if_neg hb, if_pos rfl]
      exact step (fun q => absurd q hb)
theorem c_isCrowd {σ : Sg} {M : ab_M} (hS : Sok σ) (hC : RepC σ M) (S : Nat) : (mi_X0_isCrowd M (nI S) = some 1 ∧ crw σ S) ∨ (mi_X0_isCrowd M (nI S) = some 0 ∧ ¬ crw σ S) := by
  have hnm := hS.nm
  unfold mi_X0_isCrowd
  rw [show (0 : Int32) = nI 0 from rfl]
  rcases c_isCrowd2 (S := S) hS hC (g_nm σ) 0 ab_F (by omega) (ab_F_lt (by omega)) with ⟨z, h1, h2⟩ | ⟨h1, h2⟩
  · left
    rw [h1]
    exact ⟨rfl, fun a b hab hb ta tb => h2 a (Nat.zero_le _) (by omega) ta b hb ⟨tb, by omega⟩⟩
  · right
    rw [h1]
    refine ⟨rfl, fun q => h2 (fun a _ ha ta b hb tb => ?_)⟩
    rcases Nat.lt_or_gt_of_ne tb.2 with h | h
    · rw [bar_comm]; exact q b a h ha tb.1 ta
    · exact q a b h hb ta tb.1
/-- how many wants a set of masts has -/
def wts (σ : Sg) (S : Nat) : Nat := su (fun m => if S.testBit m = true then g_mn σ m else 0) (g_nm σ) 0
theorem wts_le {σ : Sg} (hS : Sok σ) (S : Nat) : wts σ S ≤ 36 := by
  have hnm := hS.nm
  unfold wts
  refine Nat.le_trans (su_le (g := fun _ => 3) _ _ (fun m _ hm => ?_)) (by rw [su_const]; omega)
  have := (hS.mast (show m < g_nm σ by omega)).2.2.2.2.2.1
  split <;> omega
theorem c_wantsOf {σ : Sg} {M : ab_M} (hS : Sok σ) (hC : RepC σ M) (S : Nat) : mi_X0_wantsOf M (nI S) = some (nI (wts σ S)) := by
  have hnm := hS.nm
  have h := lp_sum (fun g a x => mi_X0_wantsOf_4 g M (nI S) a x) (g_nm σ) (fun m => if S.testBit m = true then g_mn σ m else 0) (fun g j a hj => by
    have hm12 := hS.m12 hj
    show mi_X0_wantsOf_4 (g + 1) M (nI S) (nI a) (nI j) = _
    rw [mi_X0_wantsOf_4.eq_2, hC.1.1, if_neg (nI_ge hj (by omega)), b_tu (by omega), b_nIt (by omega), ab_chk_pos (vin hm12), nI_clamp (by omega), (hC.1.m hj).2.2.2.2.2.1, nI_1]
    by_cases hb : S.testBit j = true
    · rw [if_pos hb, if_neg (by decide), Option.bind_some, nI_add, if_pos hb]
    · rw [if_neg hb, if_pos rfl, Option.bind_some, if_neg hb, Int32.add_zero]; rfl) (fun g a => by
    show mi_X0_wantsOf_4 (g + 1) M (nI S) (nI a) (nI (g_nm σ)) = _
    rw [mi_X0_wantsOf_4.eq_2, hC.1.1, if_pos (Int32.le_refl _)]) 0 0 (by omega) (by omega)
  have h1 : mi_X0_wantsOf_4 ab_F M (nI S) 0 0 = some (nI (0 + su (fun m => if S.testBit m = true then g_mn σ m else 0) (g_nm σ - 0) 0), nI (g_nm σ)) := h
  unfold mi_X0_wantsOf
  rw [h1, Option.bind_some]
  show some (nI (0 + wts σ S)) = _
  rw [Nat.zero_add]
/-- the seats of the wants of a set, of its first k masts -/
def seats (σ : Sg) (S : Nat) : Nat → (Nat → Nat) × Nat
  | 0 => (fun _ => 0, 0)
  | k + 1 => if S.testBit k = true then (app (seats σ S k).1 (seats σ S k).2 k, (seats σ S k).2 + g_mn σ k) else seats σ S k
theorem seats_yes {σ : Sg} {S k : Nat} (h : S.testBit k = true) : seats σ S (k + 1) = (app (seats σ S k).1 (seats σ S k).2 k, (seats σ S k).2 + g_mn σ k) := if_pos h
theorem seats_no {σ : Sg} {S k : Nat} (h : ¬ S.testBit k = true) : seats σ S (k + 1) = seats σ S k := if_neg h
theorem seats_su {σ : Sg} {S : Nat} : ∀ k, (seats σ S k).2 = su (fun m => if S.testBit m = true then g_mn σ m else 0) k 0
  | 0 => rfl
  | k + 1 => by
    rw [su_app _ k 1 0, ← seats_su k]
    show _ = (seats σ S k).2 + ((if S.testBit (0 + k) = true then g_mn σ (0 + k) else 0) + 0)
    rw [Nat.zero_add]
    by_cases h : S.testBit k = true
    · rw [seats_yes h, if_pos h, Nat.add_zero]
    · rw [seats_no h, if_neg h]; rfl
theorem seats_le {σ : Sg} {S k : Nat} (hk : k ≤ g_nm σ) : (seats σ S k).2 ≤ wts σ S := by
  rw [seats_su]
  unfold wts
  rw [show g_nm σ = k + (g_nm σ - k) by omega, su_app]
  exact Nat.le_add_right _ _
theorem seats_all {σ : Sg} {S : Nat} : (seats σ S (g_nm σ)).2 = wts σ S := seats_su _
/-- the bound of a set -/
def bS (σ : Sg) (S : Nat) : Nat := bnd σ (seats σ S (g_nm σ)).1 (wts σ S)
theorem TT.none {σ : Sg} (L : Nat → Nat) (M : ab_M) : TT σ L 0 M := ⟨fun i hi => by omega, fun s h0 h1 => by rw [Nat.pow_zero] at h1; omega⟩
theorem c_bound4 {σ : Sg} {S : Nat} (hS : Sok σ) (h6 : wts σ S ≤ 6) : ∀ (k j g : Nat) (M : ab_M), j + k = g_nm σ → k < g → RepC σ M → TT σ (seats σ S j).1 (seats σ S j).2 M → ∃ M' y, mi_X0_boundOf_4 g M (nI S) (nI (seats σ S j).2) (nI j) = some (nI (wts σ S), y, M') ∧ (∀ c j, ¬ fK c j → M'.1 c j = M.1 c j) ∧ M'.2 = M.2 ∧ TT σ (seats σ S (g_nm σ)).1 (wts σ S) M' := by
  have hnm := hS.nm
  intro k
  induction k with
  | zero =>
    intro j g M hj hg hC hT
    obtain ⟨g, rfl⟩ : ∃ m, g = m + 1 := ⟨g - 1, by omega⟩
    obtain rfl : j = g_nm σ := by omega
    rw [mi_X0_boundOf_4.eq_2, hC.1.1, if_pos (Int32.le_refl _)]
    rw [seats_all] at hT ⊢
    exact ⟨M, _, rfl, fun _ _ _ => rfl, rfl, hT⟩
  | succ k ih =>
    intro j g M hj hg hC hT
    obtain ⟨g, rfl⟩ : ∃ m, g = m + 1 := ⟨g - 1, by omega⟩
    have hjm : j < g_nm σ := by omega
    rw [mi_X0_boundOf_4.eq_2, hC.1.1, if_neg (nI_ge hjm (by omega)), b_tu (by omega), b_nIt (by omega), nI_1]
    by_cases hb : S.testBit j = true
    · have hle := seats_le (σ := σ) (S := S) (k := j + 1) (by omega)
      rw [seats_yes hb] at hle
      obtain ⟨M1, q1, q2, q3, q4, q5, q6⟩ := c_seat hS hjm (show (seats σ S j).2 + g_mn σ j ≤ 6 from Nat.le_trans hle h6) hC hT
      rw [if_pos hb, if_neg (by decide), q1, Option.bind_some, Option.bind_some]
      have q6' : TT σ (seats σ S (j + 1)).1 (seats σ S (j + 1)).2 M1 := by rw [seats_yes hb]; exact q6
      obtain ⟨M', y, r1, r2, r3, r4⟩ := ih (j + 1) g M1 (by omega) (by omega) (hC.same hS (fun c i hc => q2 c i (fK_C hc))) q6'
      rw [seats_yes hb] at r1
      exact ⟨M', y, r1, fun c i hc => by rw [r2 c i hc, q2 c i hc], by rw [r3, q3], r4⟩
    · rw [if_neg hb, if_pos rfl, Option.bind_some]
      have e := seats_no (σ := σ) hb
      have ih' := ih (j + 1) g M (by omega) (by omega) hC (by rw [e]; exact hT)
      rw [e] at ih'
      exact ih'
theorem c_boundOf {σ : Sg} {M : ab_M} {S : Nat} (hS : Sok σ) (hC : RepC σ M) (h6 : wts σ S ≤ 6) : ∃ M', mi_X0_boundOf M (nI S) = some (nI (bS σ S), M') ∧ (∀ c j, ¬ fK c j → M'.1 c j = M.1 c j) ∧ M'.2 = M.2 := by
  have hnm := hS.nm
  obtain ⟨M', y, r1, r2, r3, r4⟩ := c_bound4 hS h6 (g_nm σ) 0 ab_F M (by omega) (ab_F_lt (by omega)) hC (TT.none _ M)
  have r1' : mi_X0_boundOf_4 ab_F M (nI S) 0 0 = some (nI (wts σ S), y, M') := r1
  unfold mi_X0_boundOf
  rw [r1', Option.bind_some]
  show ∃ M'', ((mi_X0_boundOfSeated M' (nI (wts σ S))).bind fun q10 => some (q10, M')) = _ ∧ _
  rw [c_boundOfSeated h6 r4, Option.bind_some]
  exact ⟨M', rfl, r2, r3⟩
