/-! PURE: crowd -/
theorem wts_0 (σ : Sg) : wts σ 0 = 0 := by
  unfold wts
  exact su_z (fun i _ _ => by rw [Nat.zero_testBit]; rfl)
theorem r_crowd11 {σ : Sg} (hS : Sok σ) : ∀ (j x g : Nat) (M : ab_M) (b k : Nat), x + j = 2 ^ g_nm σ → j < g → 0 < x → RepR σ M → k ≤ 1000001 → Bst σ (fun T => T < x ∧ ext σ 0 0 T) b k → b < x → ∃ M' b' k' y, mi_X10_crowd_11 g M (nI b) (nI k - 1) (nI x) = some (nI b', nI k' - 1, y, M') ∧ Bst σ (ext σ 0 0) b' k' ∧ (∀ c j, c ≠ 86 → c ≠ 87 → M'.1 c j = M.1 c j) ∧ M'.2 = M.2 := by
  have hnm := hS.nm
  have hpn : 2 ^ g_nm σ ≤ 4096 := Nat.le_trans (Nat.pow_le_pow_right (by decide) hnm) (by decide)
  intro j
  induction j with
  | zero =>
    intro x g M b k hx hg h0 hR hk hB hb
    obtain ⟨g, rfl⟩ : ∃ m, g = m + 1 := ⟨g - 1, by omega⟩
    rw [mi_X10_crowd_11.eq_2, hR.1, b_oneN (by omega), if_pos (nI_le (by omega) (by omega))]
    refine ⟨M, b, k, _, rfl, hB.congr (fun T => ⟨fun z => z.2, fun z => ⟨?_, z⟩⟩), fun _ _ _ _ => rfl, rfl⟩
    have := z.1
    omega
  | succ j ih =>
    intro x g M b k hx hg h0 hR hk hB hb
    obtain ⟨g, rfl⟩ : ∃ m, g = m + 1 := ⟨g - 1, by omega⟩
    have hw := wts_le hS x
    have hxl : x < 2 ^ g_nm σ := by omega
    rw [mi_X10_crowd_11.eq_2, hR.1, b_oneN (by omega), if_neg (nI_ge hxl (by omega)), r_wantsIn hS hR, Option.bind_some, nI_1]
    have skip : ¬ ext σ 0 0 x → ∃ M' b' k' y, mi_X10_crowd_11 g M (nI b) (nI k - 1) (nI (x + 1)) = some (nI b', nI k' - 1, y, M') ∧ Bst σ (ext σ 0 0) b' k' ∧ (∀ c j, c ≠ 86 → c ≠ 87 → M'.1 c j = M.1 c j) ∧ M'.2 = M.2 := fun hno => by
      refine ih (x + 1) g M b k (by omega) (by omega) (by omega) hR hk (hB.congr (fun T => ⟨fun z => ⟨by have := z.1; omega, z.2⟩, fun z => ⟨?_, z.2⟩⟩)) (by omega)
      by_cases e : T = x
      · rw [e] at z; exact absurd z.2 hno
      · have := z.1; omega
    have ecg : ∀ T, ext σ 0 0 x → (((T < x ∧ ext σ 0 0 T) ∨ T = x) ↔ (T < x + 1 ∧ ext σ 0 0 T)) := fun T hx' => by
      constructor
      · rintro (z | z)
        · exact ⟨by have := z.1; omega, z.2⟩
        · rw [z]; exact ⟨by omega, hx'⟩
      · rintro ⟨z1, z2⟩
        by_cases e : T = x
        · exact Or.inr e
        · exact Or.inl ⟨by omega, z2⟩
    by_cases h6 : wts σ x ≤ 6
    · rw [if_neg (show ¬ (6 : Int32) < nI (wts σ x) from nI_nlt h6 (by decide))]
      rcases r_isCrowd hS hR x with ⟨q1, q2⟩ | ⟨q1, q2⟩
      · have hx' : ext σ 0 0 x := ⟨hxl, by rw [Nat.pow_zero, Nat.mod_one], by omega, q2, h6⟩
        obtain ⟨M1, d1, d2, d3⟩ := r_boundOf hS hR h6
        have hs := bS_le σ x
        have hR1 : RepR σ M1 := hR.same hS (fun c i hc => d2 c i (by unfold fR at hc; omega) (by unfold fR at hc; omega))
        rw [q1, Option.bind_some, if_neg (by decide), d1, Option.bind_some]
        by_cases h : bS σ x + 1 ≤ k
        · rw [if_pos (show nI (bS σ x) ≤ nI k - 1 from Int32.not_lt.mp (fun z => by have := (nI_m1_lt (by omega) (by omega)).mp z; omega)), Option.bind_some]
          obtain ⟨M', b', k', y, r1, r2, r3, r4⟩ := ih (x + 1) g M1 b k (by omega) (by omega) (by omega) hR1 hk ((hB.keep (S := x) (by omega)).congr (fun T => ecg T hx')) (by omega)
          exact ⟨M', b', k', y, r1, r2, fun c i a b => by rw [r3 c i a b, d2 c i a b], by rw [r4, d3]⟩
        · rw [if_neg (show ¬ nI (bS σ x) ≤ nI k - 1 from Int32.not_le.mpr ((nI_m1_lt (by omega) (by omega)).mpr (by omega))), Option.bind_some]
          obtain ⟨M', b', k', y, r1, r2, r3, r4⟩ := ih (x + 1) g M1 x (bS σ x + 1) (by omega) (by omega) (by omega) hR1 (by omega) ((hB.new (S := x) (Or.inl (by omega))).congr (fun T => ecg T hx')) (by omega)
          refine ⟨M', b', k', y, ?_, r2, fun c i a b => by rw [r3 c i a b, d2 c i a b], by rw [r4, d3]⟩
          rw [nI_m1 (by omega), Nat.add_sub_cancel] at r1
          exact r1
      · rw [q1, Option.bind_some, if_pos rfl, Option.bind_some]
        exact skip (fun z => q2 z.2.2.2.1)
    · rw [if_pos (show (6 : Int32) < nI (wts σ x) from nI_lt (show 6 < wts σ x by omega) (by omega)), Option.bind_some]
      exact skip (fun z => h6 z.2.2.2.2)
theorem o_crowd {σ : Sg} {p : Nat → Nat} {M : ab_M} (hI : InvS σ p M) : Ans (mi_X9_crowd M) (fun M => mi_X10_crowd M) := by
  have hS := hI.1
  have hnm := hS.nm
  have hpn : 2 ^ g_nm σ ≤ 4096 := Nat.le_trans (Nat.pow_le_pow_right (by decide) hnm) (by decide)
  have hp0 : 0 < 2 ^ g_nm σ := Nat.two_pow_pos _
  -- the class
  have hC0 : RepC σ (ab_pi (ab_pi M 31 3 0) 31 4 (-1)) := hI.2.2.1.same hS (fun c j hc => by unfold fC fB at hc; rw [pi_ne (by omega), pi_ne (by omega)])
  have hB0 : HB σ (fun _ => False) (ab_pi (ab_pi M 31 3 0) 31 4 (-1)) := ⟨0, 0, by rw [pi_eq]; rfl, by rw [pi_ne (by omega), pi_eq]; rfl, by omega, by omega, Or.inl ⟨rfl, rfl, fun _ h => h⟩⟩
  have hw0 := wts_0 σ
  obtain ⟨M1, g1, g2, g3⟩ := c_grow hS 7 0 0 (fun _ => False) (ab_pi (ab_pi M 31 3 0) 31 4 (-1)) (by omega) (by omega) (by decide) (by omega) (fun a b _ _ h => by rw [Nat.zero_testBit] at h; cases h) hC0 (by rw [hw0]; exact TT.none _ _) hB0
  rw [hw0] at g1
  have g1' : mi_X0_grow 7 (ab_pi (ab_pi M 31 3 0) 31 4 (-1)) 0 0 0 = some M1 := g1
  obtain ⟨b, k, e1, e2, e3, e4, e5⟩ := g3
  have hcl : mi_X9_crowd M = some (nI b, M1) := by
    unfold mi_X9_crowd mi_X0_greatest
    rw [g1', Option.bind_some, Option.bind_some, e2]
  have hs1 : ∀ c j, ¬ fK c j → ¬ (c = 31 ∧ (j = 3 ∨ j = 4)) → M1.1 c j = M.1 c j := fun c j a d => by rw [g2.1 c j a d, pi_ne (by omega), pi_ne (by omega)]
  -- the model
  have hR0 : RepR σ (ab_pi M1 69 0 0) := hI.2.2.2.1.same hS (fun c j hc => by unfold fR at hc; rw [pi_ne (by omega), hs1 c j (by unfold fK; omega) (by omega)])
  obtain ⟨M2, b', k', y, r1, r2, r3, r4⟩ := r_crowd11 hS (2 ^ g_nm σ - 1) 1 ab_F (ab_pi M1 69 0 0) 0 0 (by omega) (ab_F_lt (by omega)) (by omega) hR0 (by omega) (Or.inl ⟨rfl, rfl, fun T z => by have h1 := z.1; have h2 := z.2.2.2.1; omega⟩) (by omega)
  have r1' : mi_X10_crowd_11 ab_F (ab_pi M1 69 0 0) 0 (-1) 1 = some (nI b', nI k' - 1, y, M2) := r1
  have hbb : b = b' := Bst.uniq (e5.congr (fun T => ⟨fun z => z.elim False.elim id, Or.inr⟩)) r2
  refine ⟨nI b, M1, M2, hcl, ?_, σ, p, hI.same (fun c j hc => ?_) (fun c j => ?_)⟩
  · show mi_X10_crowd M1 = _
    unfold mi_X10_crowd
    rw [r1', Option.bind_some, hbb]
  · have h8 : c ≠ 86 ∧ c ≠ 87 ∧ c ≠ 31 := by unfold fA fR fC fB fI fS at hc; omega
    rw [r3 c j h8.1 h8.2.1, pi_ne (fA_thrown hc), hs1 c j (fK_A hc) (by omega)]
  · rw [r4]
    show M1.2 c j = M.2 c j
    rw [g2.2.1]
    rfl
