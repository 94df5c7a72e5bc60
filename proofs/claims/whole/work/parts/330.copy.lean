/-! PURE: copy -/
theorem o_copy {σ : Sg} {p : Nat → Nat} {M : ab_M} (hI : InvS σ p M) (x a y b n : Int32) : Ans (mi_X9_copy M x a y b n) (fun M => mi_X10_copy M x a y b n) := by
  have hs := hI.2.2.2.2.2.2.2.2.2
  by_cases h1 : 0 ≤ x ∧ x ≤ 7
  · by_cases h2 : 0 ≤ y ∧ y ≤ 7
    · obtain ⟨d, hd', rfl⟩ := ix_le (n := 7) (by decide) h1
      obtain ⟨e, he', rfl⟩ := ix_le (n := 7) (by decide) h2
      have hd : d < 8 := by omega
      have he : e < 8 := by omega
      have cd : (nI d).toNatClampNeg = d := nI_clamp (by omega)
      have ce : (nI e).toNatClampNeg = e := nI_clamp (by omega)
      obtain ⟨hh, l1, a1, a2, a3, a4, a5, a6, -, -, -, -⟩ := hs d hd
      obtain ⟨gg, l2, b1, b2, b3, b4, b5, b6, -, -, -, -⟩ := hs e he
      have a2' : (ab_pi M 69 0 0).1 90 d = nI hh := by rw [pi_ne (by omega)]; exact a2
      have b2' : (ab_pi M 69 0 0).1 90 e = nI gg := by rw [pi_ne (by omega)]; exact b2
      obtain ⟨v1, r1, r2, r3⟩ := rng_eq hd a3 a4 a5 a n
      obtain ⟨v2, t1, t2, t3⟩ := rng_eq he b3 b4 b5 b n
      have c1 : mi_X9_copy M (nI d) a (nI e) b n = if nI hh = 0 then some (-11, M) else if nI gg = 0 then some (-11, M) else if nI hh < 3 then some (-12, M) else if nI hh = nI gg then (if v1 = 0 then some (-13, M) else if v2 = 0 then some (-13, M) else (mi_X6_copyTo M (35 + 4 * d) a (35 + 4 * e) b n).bind fun q21 => some (n, q21)) else some (-12, M) := by
        unfold mi_X9_copy mi_X6_isRow
        rw [c_isShelf, b_if, if_pos h1, c_isShelf, b_if, if_pos h2, ab_chk_pos (vin hd), ab_chk_pos (vin he), cd, ce, a1, b1, r1, t1]
        rcases a6 with rfl | rfl | rfl | rfl <;> rfl
      have c2 : mi_X10_copy M (nI d) a (nI e) b n = if nI hh = 0 then some (-11, ab_pi M 69 0 0) else if nI gg = 0 then some (-11, ab_pi M 69 0 0) else if nI hh < 3 then some (-12, ab_pi M 69 0 0) else if nI hh = nI gg then (if v1 = 0 then some (-13, ab_pi M 69 0 0) else if v2 = 0 then some (-13, ab_pi M 69 0 0) else (mi_X10_copy_99 ab_F (ab_pi M 69 0 0) (nI d) a (nI e) b n 0).bind fun q25 => (mi_X10_copy_136 ab_F q25.2 (nI e) b n 0).bind fun q30 => some (n, q30.2)) else some (-12, ab_pi M 69 0 0) := by
        unfold mi_X10_copy
        rw [r_isShelf, b_if, if_pos h1, r_isShelf, b_if, if_pos h2]
        simp only [vin hd, vin he, ab_chk_true, cd, ce]
        rw [a2', b2', r2, t2, Option.bind_some, Option.bind_some]
      by_cases k0 : nI hh = 0
      · exact Ans.m1 hI (v := -11) (c1.trans (if_pos k0)) (c2.trans (if_pos k0))
      · rw [if_neg k0] at c1 c2
        by_cases k1 : nI gg = 0
        · exact Ans.m1 hI (v := -11) (c1.trans (if_pos k1)) (c2.trans (if_pos k1))
        · rw [if_neg k1] at c1 c2
          by_cases k2 : nI hh < 3
          · exact Ans.m1 hI (v := -12) (c1.trans (if_pos k2)) (c2.trans (if_pos k2))
          · rw [if_neg k2] at c1 c2
            by_cases k3 : nI hh = nI gg
            · rw [if_pos k3] at c1 c2
              by_cases k4 : v1 = 0
              · exact Ans.m1 hI (v := -13) (c1.trans (if_pos k4)) (c2.trans (if_pos k4))
              · rw [if_neg k4] at c1 c2
                by_cases k5 : v2 = 0
                · exact Ans.m1 hI (v := -13) (c1.trans (if_pos k5)) (c2.trans (if_pos k5))
                · rw [if_neg k5] at c1
                  clear c2
                  obtain ⟨i, k, -, rfl, rfl, q1⟩ := r3.resolve_left k4
                  obtain ⟨i', k', -, rfl, q0, q2⟩ := t3.resolve_left k5
                  have ek : k' = k := ((nI_eq (by omega) (by omega)).mp q0).symm
                  rw [ek] at q2
                  have hh34 : hh = 3 ∨ hh = 4 := by
                    rcases a6 with rfl | rfl | rfl | rfl
                    · exact absurd rfl k0
                    · exact absurd (show nI 1 < 3 by decide) k2
                    · exact Or.inl rfl
                    · exact Or.inr rfl
                  obtain ⟨M1, M2, M3, e1, e2, e3, e4, e5⟩ := o_copy1 hI hd he hh34 a1 (b1.trans k3.symm) a3 b3 a5 b5 q1 q2
                  refine ⟨nI k, M1, M3, ?_, ?_, σ, p, e5⟩
                  · rw [c1, e1, Option.bind_some]
                  · show mi_X10_copy M1 (nI d) (nI i) (nI e) (nI i') (nI k) = _
                    have w90 : ∀ f, (ab_pi M1 69 0 0).1 90 f = M.1 90 f := fun f => by rw [pi_ne (by omega), e2 90 f (by omega)]
                    have w91 : ∀ f, (ab_pi M1 69 0 0).1 91 f = (ab_pi M 69 0 0).1 91 f := fun f => by rw [pi_ne (by omega), e2 91 f (by omega), pi_ne (by omega)]
                    have w1 : mi_X10_hasPlaces (ab_pi M1 69 0 0) (nI d) (nI i) (nI k) = some v1 := by
                      rw [← r2]
                      unfold mi_X10_hasPlaces
                      rw [w91]
                    have w2 : mi_X10_hasPlaces (ab_pi M1 69 0 0) (nI e) (nI i') (nI k) = some v2 := by
                      rw [← t2]
                      unfold mi_X10_hasPlaces
                      rw [w91]
                    unfold mi_X10_copy
                    rw [r_isShelf, b_if, if_pos h1, r_isShelf, b_if, if_pos h2]
                    simp only [vin hd, vin he, ab_chk_true, cd, ce]
                    rw [w90, w90, a2, b2, if_neg k0, if_neg k1, if_neg k2, if_pos k3, w1, w2, Option.bind_some, Option.bind_some, if_neg k4, if_neg k5, e3, Option.bind_some, e4, Option.bind_some]
            · rw [if_neg k3] at c1 c2
              exact Ans.m1 hI (v := -12) c1 c2
    · refine Ans.m1 hI (v := -1) ?_ ?_
      · unfold mi_X9_copy
        rw [c_isShelf, b_if, if_pos h1, c_isShelf, b_if, if_neg h2]
      · show mi_X10_copy M x a y b n = _
        unfold mi_X10_copy
        rw [r_isShelf, b_if, if_pos h1, r_isShelf, b_if, if_neg h2]
  · refine Ans.m1 hI (v := -1) ?_ ?_
    · unfold mi_X9_copy
      rw [c_isShelf, b_if, if_neg h1]
    · show mi_X10_copy M x a y b n = _
      unfold mi_X10_copy
      rw [r_isShelf, b_if, if_neg h1]
