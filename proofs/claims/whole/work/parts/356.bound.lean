/-! PURE: bound, crowd -/
theorem o_bound {σ : Sg} {p : Nat → Nat} {M : ab_M} (hI : InvS σ p M) (x : Int32) : Ans (mi_X9_bound M x) (fun M => mi_X10_bound M x) := by
  have hS := hI.1
  have hnm := hS.nm
  have hp0 : 0 < 2 ^ g_nm σ := Nat.two_pow_pos _
  have hp : 2 ^ g_nm σ ≤ 4096 := Nat.le_trans (Nat.pow_le_pow_right (by decide) hnm) (by decide)
  have e1 : ((1 : Int32) <<< (nI (g_nm σ) &&& 31)) = nI (2 ^ g_nm σ) := b_oneN (by omega)
  have e2 : ((1 : Int32) <<< (nI (g_nm σ) &&& 31)) - 1 = nI (2 ^ g_nm σ - 1) := by rw [e1, show (1 : Int32) = nI 1 from rfl, pk_sub (by omega)]
  by_cases h1 : 1 ≤ x ∧ x ≤ nI (2 ^ g_nm σ - 1)
  · obtain ⟨S, hS1, hS2, rfl⟩ := ix_rng (a := 1) (b := 2 ^ g_nm σ - 1) (by omega) h1 (by
      have a := (i_le _ _).mp h1.1
      have b := (i_le _ _).mp h1.2
      rw [nI_toInt (by omega)] at b
      have c : (1 : Int32).toInt = 1 := rfl
      omega)
    have hcl : mi_X9_bound M (nI S) = (mi_X0_isCrowd M (nI S)).bind fun q4 => if q4 = 0 then some ((-2), M) else (mi_X0_wantsOf M (nI S)).bind fun q7 => if q7 ≤ 6 then (mi_X0_boundOf M (nI S)).bind fun q10 => some (q10.1, q10.2) else some ((-3), M) := by
      unfold mi_X9_bound
      rw [hI.2.2.1.1.1, e2, w_eq, b_if, if_pos h1]
    have hmd : ∀ M1 : ab_M, RepR σ (ab_pi M1 69 0 0) → mi_X10_bound M1 (nI S) = (mi_X10_isCrowd (ab_pi M1 69 0 0) (nI S)).bind fun q3 => if q3 = 0 then some ((-2), (ab_pi M1 69 0 0)) else (mi_X10_wantsIn (ab_pi M1 69 0 0) (nI S)).bind fun q6 => if q6 ≤ 6 then (mi_X10_boundOf (ab_pi M1 69 0 0) (nI S)).bind fun q9 => some (q9.1, q9.2) else some ((-3), (ab_pi M1 69 0 0)) := by
      intro M1 hR1
      unfold mi_X10_bound
      rw [if_neg (show ¬ nI S ≤ 0 from nI_ge (show 0 < S by omega) (by omega)), hR1.1, e1, if_pos (nI_lt (show S < 2 ^ g_nm σ by omega) (by omega))]
    have hw := wts_le hS S
    have hT := hI.thr 0
    rcases c_isCrowd hS hI.2.2.1 S with ⟨q1, q2⟩ | ⟨q1, q2⟩
    · rw [q1, Option.bind_some, if_neg (by decide), c_wantsOf hS hI.2.2.1, Option.bind_some] at hcl
      have hmd' : ∀ M1 : ab_M, RepR σ (ab_pi M1 69 0 0) → mi_X10_bound M1 (nI S) = if nI (wts σ S) ≤ 6 then (mi_X10_boundOf (ab_pi M1 69 0 0) (nI S)).bind fun q9 => some (q9.1, q9.2) else some ((-3), (ab_pi M1 69 0 0)) := by
        intro M1 hR1
        rw [hmd M1 hR1]
        rcases r_isCrowd hS hR1 S with ⟨r1, -⟩ | ⟨-, r2⟩
        · rw [r1, Option.bind_some, if_neg (by decide), r_wantsIn hS hR1, Option.bind_some]
        · exact absurd q2 r2
      by_cases h6 : wts σ S ≤ 6
      · obtain ⟨M1, b1, b2, b3⟩ := c_boundOf hS hI.2.2.1 h6
        rw [if_pos (show nI (wts σ S) ≤ 6 from nI_le h6 (by decide)), b1, Option.bind_some] at hcl
        have hR1 : RepR σ (ab_pi M1 69 0 0) := hI.2.2.2.1.same hS (fun c j hc => by unfold fR at hc; rw [pi_ne (by omega), b2 c j (by unfold fK; omega)])
        obtain ⟨M2, d1, d2, d3⟩ := r_boundOf hS hR1 h6
        refine ⟨nI (bS σ S), M1, M2, hcl, ?_, σ, p, hI.same (fun c j hc => ?_) (fun c j => ?_)⟩
        · show mi_X10_bound M1 (nI S) = _
          rw [hmd' M1 hR1, if_pos (show nI (wts σ S) ≤ 6 from nI_le h6 (by decide)), d1, Option.bind_some]
        · have h8 : c ≠ 86 ∧ c ≠ 87 := by unfold fA fR fC fB fI fS at hc; omega
          rw [d2 c j h8.1 h8.2, pi_ne (fA_thrown hc), b2 c j (fK_A hc)]
        · rw [d3]; show M1.2 c j = M.2 c j; rw [b3]
      · rw [if_neg (show ¬ nI (wts σ S) ≤ 6 from nI_ge (show 6 < wts σ S by omega) (by omega))] at hcl
        refine Ans.m1 hI (v := -3) hcl ?_
        show mi_X10_bound M (nI S) = _
        rw [hmd' M hT.2.2.2.1, if_neg (show ¬ nI (wts σ S) ≤ 6 from nI_ge (show 6 < wts σ S by omega) (by omega))]
    · rw [q1, Option.bind_some, if_pos rfl] at hcl
      refine Ans.m1 hI (v := -2) hcl ?_
      show mi_X10_bound M (nI S) = _
      rw [hmd M hT.2.2.2.1]
      rcases r_isCrowd hS hT.2.2.2.1 S with ⟨-, r2⟩ | ⟨r1, -⟩
      · exact absurd r2 q2
      · rw [r1, Option.bind_some, if_pos rfl]
  · refine Ans.m1 hI (v := -1) ?_ ?_
    · unfold mi_X9_bound
      rw [hI.2.2.1.1.1, e2, w_eq, b_if, if_neg h1]
    · show mi_X10_bound M x = _
      unfold mi_X10_bound
      rw [(hI.thr 0).2.2.2.1.1, e1]
      by_cases h2 : x ≤ 0
      · rw [if_pos h2]
      · rw [if_neg h2, if_neg]
        intro h3
        refine h1 ⟨?_, ?_⟩
        · rw [i_le]
          have a : ¬ (x.toInt ≤ (0 : Int32).toInt) := fun z => h2 ((i_le _ _).mpr z)
          have c : (1 : Int32).toInt = 1 := rfl
          have d : (0 : Int32).toInt = 0 := rfl
          omega
        · have a := (i_lt _ _).mp h3
          rw [nI_toInt (by omega)] at a
          rw [i_le, nI_toInt (by omega)]
          omega
/-! sets of masts -/
theorem add_bit {S m : Nat} (h : S < 2 ^ m) (i : Nat) : (S + 2 ^ m).testBit i = (decide (i = m) || S.testBit i) := by
  rw [Nat.add_comm]
  rcases Nat.lt_trichotomy i m with h1 | h1 | h1
  · rw [Nat.testBit_two_pow_add_gt h1, decide_eq_false (by omega)]; rfl
  · subst h1
    rw [Nat.testBit_two_pow_add_eq, Nat.testBit_lt_two_pow h, decide_eq_true rfl]
    rfl
  · have hp : 2 ^ (m + 1) ≤ 2 ^ i := Nat.pow_le_pow_right (by decide) h1
    rw [Nat.pow_succ] at hp
    rw [Nat.testBit_lt_two_pow (show 2 ^ m + S < 2 ^ i by omega), Nat.testBit_lt_two_pow (show S < 2 ^ i by omega), decide_eq_false (by omega)]
    rfl
theorem or_bit {S m : Nat} (h : S < 2 ^ m) : S ||| 2 ^ m = S + 2 ^ m := by
  refine Nat.eq_of_testBit_eq (fun i => ?_)
  rw [add_bit h, Nat.testBit_or, Nat.testBit_two_pow, Bool.or_comm]
  congr 1
  exact decide_eq_decide.mpr eq_comm
theorem wts_add {σ : Sg} {S m : Nat} (h : S < 2 ^ m) (hm : m < g_nm σ) : wts σ (S + 2 ^ m) = wts σ S + g_mn σ m := by
  unfold wts
  rw [← su_pick (f := g_mn σ) hm, ← su_add]
  refine su_congr _ _ (fun i _ _ => ?_)
  rw [add_bit h]
  by_cases e : i = m
  · have : S.testBit i = false := by rw [e]; exact Nat.testBit_lt_two_pow h
    rw [decide_eq_true e, if_pos e, this]
    simp
  · rw [decide_eq_false e, if_neg e]
    simp
theorem seats_congr {σ : Sg} {S S' : Nat} : ∀ k, (∀ i, i < k → S.testBit i = S'.testBit i) → seats σ S k = seats σ S' k
  | 0, _ => rfl
  | k + 1, h => by
    have ih := seats_congr (σ := σ) k (fun i hi => h i (by omega))
    by_cases hb : S.testBit k = true
    · rw [seats_yes hb, seats_yes (by rw [← h k (by omega)]; exact hb), ih]
    · rw [seats_no hb, seats_no (by rw [← h k (by omega)]; exact hb), ih]
theorem seats_hi {σ : Sg} {S m : Nat} (h : S < 2 ^ m) : ∀ k, seats σ S (m + k) = seats σ S m
  | 0 => rfl
  | k + 1 => by
    show seats σ S ((m + k) + 1) = _
    rw [seats_no (by rw [Nat.testBit_lt_two_pow (Nat.lt_of_lt_of_le h (Nat.pow_le_pow_right (by decide) (Nat.le_add_right m k)))]; decide), seats_hi h k]
theorem seats_add {σ : Sg} {S m : Nat} (h : S < 2 ^ m) (hm : m < g_nm σ) : seats σ (S + 2 ^ m) (g_nm σ) = (app (seats σ S (g_nm σ)).1 (wts σ S) m, wts σ (S + 2 ^ m)) := by
  have h1 : S + 2 ^ m < 2 ^ (m + 1) := by rw [Nat.pow_succ]; omega
  have e1 : seats σ (S + 2 ^ m) (g_nm σ) = seats σ (S + 2 ^ m) (m + 1) := by
    rw [show g_nm σ = (m + 1) + (g_nm σ - (m + 1)) by omega]; exact seats_hi h1 _
  have e2 : seats σ S (g_nm σ) = seats σ S m := by
    rw [show g_nm σ = m + (g_nm σ - m) by omega]; exact seats_hi h _
  have e3 : seats σ (S + 2 ^ m) m = seats σ S m := seats_congr m (fun i hi => by rw [add_bit h, decide_eq_false (by omega)]; rfl)
  have e4 : (seats σ S m).2 = wts σ S := by rw [← e2]; exact seats_all
  rw [e1, seats_yes (by rw [add_bit h, decide_eq_true rfl]; rfl), e3, e2, e4, wts_add h hm]
theorem crw_add {σ : Sg} {S m : Nat} (h : S < 2 ^ m) (hm : m < g_nm σ) (hc : crw σ S) : crw σ (S + 2 ^ m) ↔ ∀ b, b < g_nm σ → S.testBit b = true → 0 < bar σ m b := by
  have hb : ∀ b, S.testBit b = true → b < m := fun b hb => by
    rcases Nat.lt_or_ge b m with z | z
    · exact z
    · rw [Nat.testBit_lt_two_pow (Nat.lt_of_lt_of_le h (Nat.pow_le_pow_right (by decide) z))] at hb
      cases hb
  constructor
  · intro q b hbm tb
    rw [bar_comm]
    exact q b m (hb b tb) hm (by rw [add_bit h, tb]; simp) (by rw [add_bit h]; simp)
  · intro q a b hab hbm ta tb
    rw [add_bit h, Bool.or_eq_true, decide_eq_true_eq] at ta tb
    rcases tb with tb | tb
    · subst tb
      rcases ta with ta | ta
      · omega
      · rw [bar_comm]; exact q a (by omega) ta
    · rcases ta with ta | ta
      · have := hb b tb; omega
      · exact hc a b hab hbm ta tb
/-- the crowds that have S below m and are no S -/
def ext (σ : Sg) (S m : Nat) (S' : Nat) : Prop := S' < 2 ^ g_nm σ ∧ S' % 2 ^ m = S ∧ S' ≠ S ∧ crw σ S' ∧ wts σ S' ≤ 6
theorem mod_split (S' m : Nat) : S' % 2 ^ (m + 1) = S' % 2 ^ m ∨ S' % 2 ^ (m + 1) = S' % 2 ^ m + 2 ^ m := by
  have hp : 0 < 2 ^ m := Nat.two_pow_pos m
  rw [Nat.mod_pow_succ]
  have : S' / 2 ^ m % 2 = 0 ∨ S' / 2 ^ m % 2 = 1 := by omega
  rcases this with h | h
  · left; rw [h, Nat.mul_zero, Nat.add_zero]
  · right; rw [h, Nat.mul_one]
theorem mod_mod' (S' m : Nat) : S' % 2 ^ (m + 1) % 2 ^ m = S' % 2 ^ m := Nat.mod_mod_of_dvd S' ⟨2, by rw [Nat.pow_succ]⟩
theorem sub_crw {σ : Sg} {S' m : Nat} (hc : crw σ S') : crw σ (S' % 2 ^ m) := by
  intro a b hab hb ta tb
  rw [Nat.testBit_mod_two_pow, Bool.and_eq_true] at ta tb
  exact hc a b hab hb ta.2 tb.2
theorem sub_wts {σ : Sg} {S' m : Nat} : wts σ (S' % 2 ^ m) ≤ wts σ S' := by
  unfold wts
  refine su_le _ _ (fun i _ _ => ?_)
  rw [Nat.testBit_mod_two_pow]
  by_cases h : S'.testBit i = true
  · rw [if_pos h]; split <;> omega
  · rw [if_neg h, if_neg (by rw [Bool.and_eq_true]; exact fun z => h z.2)]; omega
/-- the best of those that were seen: its set, and its bound and one more -/
def Bst (σ : Sg) (V : Nat → Prop) (b k : Nat) : Prop := (k = 0 ∧ b = 0 ∧ ∀ S, ¬ V S) ∨ (V b ∧ bS σ b + 1 = k ∧ ∀ S, V S → bS σ S + 1 < k ∨ (bS σ S + 1 = k ∧ b ≤ S))
theorem Bst.congr {σ : Sg} {V V' : Nat → Prop} {b k : Nat} (h : ∀ S, V S ↔ V' S) (hB : Bst σ V b k) : Bst σ V' b k := by
  rcases hB with ⟨a, b, c⟩ | ⟨a, b, c⟩
  · exact Or.inl ⟨a, b, fun S hS => c S ((h S).mpr hS)⟩
  · exact Or.inr ⟨(h _).mp a, b, fun S hS => c S ((h S).mpr hS)⟩
theorem Bst.uniq {σ : Sg} {V : Nat → Prop} {b k b' k' : Nat} (h : Bst σ V b k) (h' : Bst σ V b' k') : b = b' := by
  rcases h with ⟨a1, a2, a3⟩ | ⟨a1, a2, a3⟩
  · rcases h' with ⟨c1, c2, c3⟩ | ⟨c1, c2, c3⟩
    · omega
    · exact absurd c1 (a3 _)
  · rcases h' with ⟨c1, c2, c3⟩ | ⟨c1, c2, c3⟩
    · exact absurd a1 (c3 _)
    · have := a3 b' c1
      have := c3 b a1
      omega
theorem Bst.keep {σ : Sg} {V : Nat → Prop} {b k S : Nat} (h : Bst σ V b k) (hk : bS σ S + 1 < k ∨ (bS σ S + 1 = k ∧ b ≤ S)) : Bst σ (fun T => V T ∨ T = S) b k := by
  rcases h with ⟨a1, a2, a3⟩ | ⟨a1, a2, a3⟩
  · omega
  · refine Or.inr ⟨Or.inl a1, a2, fun T hT => ?_⟩
    rcases hT with hT | hT
    · exact a3 T hT
    · subst hT; exact hk
theorem Bst.new {σ : Sg} {V : Nat → Prop} {b k S : Nat} (h : Bst σ V b k) (hk : k < bS σ S + 1 ∨ (bS σ S + 1 = k ∧ S < b)) : Bst σ (fun T => V T ∨ T = S) S (bS σ S + 1) := by
  refine Or.inr ⟨Or.inr rfl, rfl, fun T hT => ?_⟩
  rcases hT with hT | hT
  · rcases h with ⟨a1, a2, a3⟩ | ⟨a1, a2, a3⟩
    · exact absurd hT (a3 T)
    · have := a3 T hT
      omega
  · subst hT; exact Or.inr ⟨rfl, Nat.le_refl _⟩
/-- what the class holds of it -/
def HB (σ : Sg) (V : Nat → Prop) (M : ab_M) : Prop := ∃ b k, M.1 31 4 = nI k - 1 ∧ M.1 31 3 = nI b ∧ b < 4096 ∧ k ≤ 1000001 ∧ Bst σ V b k
theorem bS_le (σ : Sg) (S : Nat) : bS σ S ≤ 1000000 := bnd_le _ _ _
theorem c_consider {σ : Sg} {V : Nat → Prop} {M : ab_M} {S : Nat} (hS : S < 4096) (h : HB σ V M) : ∃ M', mi_X0_consider M (nI S) (nI (bS σ S)) = some M' ∧ (∀ c j, ¬ (c = 31 ∧ (j = 3 ∨ j = 4)) → M'.1 c j = M.1 c j) ∧ M'.2 = M.2 ∧ HB σ (fun T => V T ∨ T = S) M' := by
  obtain ⟨b, k, m4, m3, hb, hk, hB⟩ := h
  have hs := bS_le σ S
  unfold mi_X0_consider
  rw [m4, m3]
  have new : (k < bS σ S + 1 ∨ (bS σ S + 1 = k ∧ S < b)) → ∃ M', some (ab_pi (ab_pi M 31 4 (nI (bS σ S))) 31 3 (nI S)) = some M' ∧ (∀ c j, ¬ (c = 31 ∧ (j = 3 ∨ j = 4)) → M'.1 c j = M.1 c j) ∧ M'.2 = M.2 ∧ HB σ (fun T => V T ∨ T = S) M' := fun q => by
    refine ⟨_, rfl, fun c j hc => by rw [pi_ne (by omega), pi_ne (by omega)], rfl, S, bS σ S + 1, ?_, pi_eq, hS, by omega, hB.new q⟩
    rw [pi_ne (by omega), pi_eq, nI_m1 (by omega), Nat.add_sub_cancel]
  by_cases h1 : k < bS σ S + 1
  · rw [if_pos ((nI_m1_lt (by omega) (by omega)).mpr h1)]
    exact new (Or.inl h1)
  · rw [if_neg (fun z => h1 ((nI_m1_lt (by omega) (by omega)).mp z))]
    by_cases h2 : k = bS σ S + 1
    · rw [if_pos ((nI_m1_eq (by omega) (by omega)).mpr h2).symm]
      by_cases h3 : b ≤ S
      · rw [if_pos (nI_le h3 (by omega))]
        exact ⟨M, rfl, fun _ _ _ => rfl, rfl, b, k, m4, m3, hb, hk, hB.keep (Or.inr ⟨h2.symm, h3⟩)⟩
      · rw [if_neg (nI_ge (by omega) (by omega))]
        exact new (Or.inr ⟨h2.symm, by omega⟩)
    · rw [if_neg (fun z => h2 ((nI_m1_eq (by omega) (by omega)).mp z.symm))]
      exact ⟨M, rfl, fun _ _ _ => rfl, rfl, b, k, m4, m3, hb, hk, hB.keep (Or.inl (by omega))⟩
theorem TX.same {σ : Sg} {L : Nat → Nat} {n X : Nat} {M M' : ab_M} (hn : n ≤ 6) (h33 : ∀ i, i < n → M'.1 33 i = M.1 33 i) (h32 : ∀ i, i < 6 * X → M'.1 32 i = M.1 32 i) (hT : TX σ L n X M) : TX σ L n X M' := by
  refine ⟨fun i hi => by rw [h33 i hi]; exact hT.1 i hi, fun s h0 h1 h2 i hi hb => ?_⟩
  rw [h32 _ (by omega)]
  exact hT.2 s h0 h1 h2 i hi hb
/-- nothing but the crowds' cells; the first n seats and their sums stay -/
def GF (n : Nat) (M M' : ab_M) : Prop := (∀ c j, ¬ fK c j → ¬ (c = 31 ∧ (j = 3 ∨ j = 4)) → M'.1 c j = M.1 c j) ∧ M'.2 = M.2 ∧ (∀ i, i < n → M'.1 33 i = M.1 33 i) ∧ ∀ i, i < 6 * 2 ^ n → M'.1 32 i = M.1 32 i
theorem GF.refl (n : Nat) (M : ab_M) : GF n M M := ⟨fun _ _ _ _ => rfl, rfl, fun _ _ => rfl, fun _ _ => rfl⟩
theorem GF.trans {n : Nat} {M M' M'' : ab_M} (h : GF n M M') (h' : GF n M' M'') : GF n M M'' := ⟨fun c j a b => by rw [h'.1 c j a b, h.1 c j a b], by rw [h'.2.1, h.2.1], fun i hi => by rw [h'.2.2.1 i hi, h.2.2.1 i hi], fun i hi => by rw [h'.2.2.2 i hi, h.2.2.2 i hi]⟩
theorem GF.mono {n n' : Nat} {M M' : ab_M} (hn : n ≤ n') (h : GF n' M M') : GF n M M' := by
  have : 2 ^ n ≤ 2 ^ n' := Nat.pow_le_pow_right (by decide) hn
  exact ⟨h.1, h.2.1, fun i hi => h.2.2.1 i (by omega), fun i hi => h.2.2.2 i (by omega)⟩
theorem GF.C {σ : Sg} {n : Nat} {M M' : ab_M} (hS : Sok σ) (h : GF n M M') (hC : RepC σ M) : RepC σ M' := hC.same hS (fun c j hc => h.1 c j (fK_C hc) (by unfold fC fB at hc; omega))
theorem c_grow {σ : Sg} (hS : Sok σ) : ∀ (f S m : Nat) (V : Nat → Prop) (M : ab_M), 7 ≤ f + wts σ S → wts σ S ≤ 6 → S < 2 ^ m → m ≤ g_nm σ → crw σ S → RepC σ M → TT σ (seats σ S (g_nm σ)).1 (wts σ S) M → HB σ V M → ∃ M', mi_X0_grow f M (nI S) (nI m) (nI (wts σ S)) = some M' ∧ GF (wts σ S) M M' ∧ HB σ (fun T => V T ∨ ext σ S m T) M' := by
  have hnm := hS.nm
  have hpn : 2 ^ g_nm σ ≤ 4096 := Nat.le_trans (Nat.pow_le_pow_right (by decide) hnm) (by decide)
  intro f
  induction f with
  | zero => intro S m V M h1 h2; omega
  | succ f ihf =>
    intro S m V M hf h6 hSm hmn hcr hC hT hB
    have loop : ∀ (k m g : Nat) (V : Nat → Prop) (M : ab_M), m + k = g_nm σ → k < g → S < 2 ^ m → RepC σ M → TT σ (seats σ S (g_nm σ)).1 (wts σ S) M → HB σ V M → ∃ M' y, mi_X0_grow_3 (mi_X0_grow f) g M (nI S) (nI (wts σ S)) (nI m) = some (y, M') ∧ GF (wts σ S) M M' ∧ HB σ (fun T => V T ∨ ext σ S m T) M' := by
      intro k
      induction k with
      | zero =>
        intro m g V M hm hg hSm hC hT hB
        obtain ⟨g, rfl⟩ : ∃ m, g = m + 1 := ⟨g - 1, by omega⟩
        obtain rfl : m = g_nm σ := by omega
        rw [mi_X0_grow_3.eq_2, hC.1.1, if_pos (Int32.le_refl _)]
        refine ⟨M, _, rfl, GF.refl _ M, ?_⟩
        obtain ⟨b, k, e1, e2, e3, e4, e5⟩ := hB
        refine ⟨b, k, e1, e2, e3, e4, e5.congr (fun T => ⟨Or.inl, fun h => h.elim id (fun z => ?_)⟩)⟩
        obtain ⟨z1, z2, z3, -⟩ := z
        rw [Nat.mod_eq_of_lt z1] at z2
        exact absurd z2 z3
      | succ k ihk =>
        intro m g V M hm hg hSm hC hT hB
        obtain ⟨g, rfl⟩ : ∃ m, g = m + 1 := ⟨g - 1, by omega⟩
        have hmm : m < g_nm σ := by omega
        have hm12 := hS.m12 hmm
        have hmn1 := (hS.mast hmm).2.2.2.2.1
        have hmn3 := (hS.mast hmm).2.2.2.2.2.1
        have hSm1 : S < 2 ^ (m + 1) := by rw [Nat.pow_succ]; omega
        have hS1 : S + 2 ^ m < 2 ^ (m + 1) := by rw [Nat.pow_succ]; omega
        have hpm : 2 ^ (m + 1) ≤ 2 ^ g_nm σ := Nat.pow_le_pow_right (by decide) (by omega)
        have hpm0 : 0 < 2 ^ m := Nat.two_pow_pos m
        have hw1 := wts_add (σ := σ) hSm hmm
        -- those that have m
        have split : ∀ T, ext σ S m T ↔ (T < 2 ^ g_nm σ ∧ T % 2 ^ (m + 1) = S + 2 ^ m ∧ crw σ T ∧ wts σ T ≤ 6) ∨ ext σ S (m + 1) T := by
          intro T
          constructor
          · rintro ⟨a1, a2, a3, a4, a5⟩
            rcases mod_split T m with h | h
            · exact Or.inr ⟨a1, by rw [h]; exact a2, a3, a4, a5⟩
            · exact Or.inl ⟨a1, by rw [h, a2], a4, a5⟩
          · rintro (⟨a1, a2, a3, a4⟩ | ⟨a1, a2, a3, a4, a5⟩)
            · refine ⟨a1, ?_, fun e => ?_, a3, a4⟩
              · rw [← mod_mod', a2, Nat.add_mod_right, Nat.mod_eq_of_lt hSm]
              · rw [e, Nat.mod_eq_of_lt hSm1] at a2; omega
            · exact ⟨a1, by rw [← mod_mod', a2, Nat.mod_eq_of_lt hSm], a3, a4, a5⟩
        rw [mi_X0_grow_3.eq_2, hC.1.1, if_neg (nI_ge hmm (by omega)), ab_chk_pos (vin hm12), nI_clamp (by omega), (hC.1.m hmm).2.2.2.2.2.1, nI_add, nI_1]
        -- m is left out
        have skip : (∀ T, ¬ (T < 2 ^ g_nm σ ∧ T % 2 ^ (m + 1) = S + 2 ^ m ∧ crw σ T ∧ wts σ T ≤ 6)) → ∃ M' y, mi_X0_grow_3 (mi_X0_grow f) g M (nI S) (nI (wts σ S)) (nI (m + 1)) = some (y, M') ∧ GF (wts σ S) M M' ∧ HB σ (fun T => V T ∨ ext σ S m T) M' := by
          intro hno
          obtain ⟨M', y, r1, r2, b, k, e1, e2, e3, e4, e5⟩ := ihk (m + 1) g V M (by omega) (by omega) hSm1 hC hT hB
          exact ⟨M', y, r1, r2, b, k, e1, e2, e3, e4, e5.congr (fun T => or_congr Iff.rfl ⟨fun z => (split T).mpr (Or.inr z), fun z => ((split T).mp z).elim (fun q => absurd q (hno T)) id⟩)⟩
        by_cases hw : wts σ S + g_mn σ m ≤ 6
        · rw [if_neg (show ¬ (6 : Int32) < nI (wts σ S + g_mn σ m) from nI_nlt hw (by decide))]
          rcases c_barsAll (B := nI S) (Q := fun i => S.testBit i = true) hS hC hmm (fun i hi => by rw [b_nIt (by omega)]) with ⟨q1, q2⟩ | ⟨q1, q2⟩
          · have hcr1 : crw σ (S + 2 ^ m) := (crw_add hSm hmm hcr).mpr q2
            obtain ⟨M1, s1, s2, s3, s4, s5, s6⟩ := c_seat hS hmm hw hC hT
            have hsa := seats_add (σ := σ) hSm hmm
            have hT1 : TT σ (seats σ (S + 2 ^ m) (g_nm σ)).1 (wts σ (S + 2 ^ m)) M1 := by rw [hsa, hw1]; exact s6
            have hbd : mi_X0_boundOfSeated M1 (nI (wts σ (S + 2 ^ m))) = some (nI (bS σ (S + 2 ^ m))) := c_boundOfSeated (by omega) hT1
            have hB1 : HB σ V M1 := by
              obtain ⟨b, k, e1, e2, e3⟩ := hB
              exact ⟨b, k, by rw [s2 31 4 (by unfold fK; omega)]; exact e1, by rw [s2 31 3 (by unfold fK; omega)]; exact e2, e3⟩
            obtain ⟨M2, t1, t2, t3, t4⟩ := c_consider (S := S + 2 ^ m) (by omega) hB1
            have hg1 : GF (wts σ S) M M1 := ⟨fun c j a _ => s2 c j a, s3, s4, s5⟩
            have hg2 : GF (wts σ (S + 2 ^ m)) M1 M2 := ⟨fun c j _ b => t2 c j b, t3, fun i _ => t2 33 i (by omega), fun i _ => t2 32 i (by omega)⟩
            have hC1 := hg1.C hS hC
            have hC2 := hg2.C hS hC1
            have hT2 : TT σ (seats σ (S + 2 ^ m) (g_nm σ)).1 (wts σ (S + 2 ^ m)) M2 := hT1.same (by omega) hg2.2.2.1 hg2.2.2.2
            obtain ⟨M3, u1, u2, u3⟩ := ihf (S + 2 ^ m) (m + 1) (fun T => V T ∨ T = S + 2 ^ m) M2 (by omega) (by omega) hS1 (by omega) hcr1 hC2 hT2 t4
            have hg3 : GF (wts σ S) M M3 := hg1.trans ((hg2.trans u2).mono (by omega))
            have eor : nI S ||| ((1 : Int32) <<< (nI m &&& 31)) = nI (S + 2 ^ m) := by rw [b_oneN (by omega), nI_or, or_bit hSm]
            obtain ⟨M', y, r1, r2, b, k, e1, e2, e3, e4, e5⟩ := ihk (m + 1) g _ M3 (by omega) (by omega) hSm1 (hg3.C hS hC) (hT.same h6 hg3.2.2.1 hg3.2.2.2) u3
            refine ⟨M', y, ?_, hg3.trans r2, b, k, e1, e2, e3, e4, e5.congr (fun T => ?_)⟩
            · rw [q1, Option.bind_some, if_neg (by decide), s1, Option.bind_some, eor]
              show (((mi_X0_boundOfSeated M1 (nI (wts σ S + g_mn σ m))).bind fun q12 => (mi_X0_consider M1 (nI (S + 2 ^ m)) q12).bind fun q14 => (mi_X0_grow f q14 (nI (S + 2 ^ m)) (nI (m + 1)) (nI (wts σ S + g_mn σ m))).bind fun q16 => some q16).bind fun q3 => mi_X0_grow_3 (mi_X0_grow f) g q3 (nI S) (nI (wts σ S)) (nI (m + 1))) = _
              rw [← hw1, hbd, Option.bind_some, t1, Option.bind_some, u1, Option.bind_some, Option.bind_some, r1]
            · constructor
              · rintro (((z | z) | z) | z)
                · exact Or.inl z
                · refine Or.inr ((split T).mpr (Or.inl ⟨by omega, by rw [z, Nat.mod_eq_of_lt hS1], by rw [z]; exact hcr1, by rw [z]; omega⟩))
                · exact Or.inr ((split T).mpr (Or.inl ⟨z.1, z.2.1, z.2.2.2.1, z.2.2.2.2⟩))
                · exact Or.inr ((split T).mpr (Or.inr z))
              · rintro (z | z)
                · exact Or.inl (Or.inl (Or.inl z))
                · rcases (split T).mp z with z | z
                  · by_cases e : T = S + 2 ^ m
                    · exact Or.inl (Or.inl (Or.inr e))
                    · exact Or.inl (Or.inr ⟨z.1, z.2.1, e, z.2.2.1, z.2.2.2⟩)
                  · exact Or.inr z
          · rw [q1, Option.bind_some, if_pos rfl, Option.bind_some]
            refine skip (fun T z => q2 ((crw_add hSm hmm hcr).mp ?_))
            rw [← z.2.1]
            exact sub_crw z.2.2.1
        · rw [if_pos (show (6 : Int32) < nI (wts σ S + g_mn σ m) from nI_lt (show 6 < wts σ S + g_mn σ m by omega) (by omega)), Option.bind_some]
          refine skip (fun T z => ?_)
          have := sub_wts (σ := σ) (S' := T) (m := m + 1)
          rw [z.2.1, hw1] at this
          omega
    obtain ⟨M', y, r1, r2, r3⟩ := loop (g_nm σ - m) m ab_F V M (by omega) (ab_F_lt (by omega)) hSm hC hT hB
    refine ⟨M', ?_, r2, r3⟩
    show ((mi_X0_grow_3 (mi_X0_grow f) ab_F M (nI S) (nI (wts σ S)) (nI m)).bind fun q18 => some q18.2) = _
    rw [r1, Option.bind_some]
