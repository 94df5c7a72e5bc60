/-! PURE: look, weight; what refuses a shelf -/
theorem c_isShelf (M : ab_M) (x : Int32) : mi_X9_isShelf M x = some (if 0 ≤ x ∧ x ≤ 7 then 1 else 0) := by
  unfold mi_X9_isShelf
  rw [w_eq, Option.bind_some, ab_chk_pos]
  by_cases h : 0 ≤ x ∧ x ≤ 7
  · rw [if_pos h]; exact Or.inr rfl
  · rw [if_neg h]; exact Or.inl rfl
theorem r_isShelf (M : ab_M) (x : Int32) : mi_X10_isShelf M x = some (if 0 ≤ x ∧ x ≤ 7 then 1 else 0) := by
  unfold mi_X10_isShelf
  by_cases h1 : x < 0
  · rw [if_pos h1, if_neg (fun q => Int32.not_le.mpr h1 q.1)]
  · rw [if_neg h1]
    by_cases h2 : 8 ≤ x
    · rw [if_pos h2, if_neg]
      intro q
      have a := (i_le _ _).mp h2
      have b := (i_le _ _).mp q.2
      have c : (8 : Int32).toInt = 8 := rfl
      have d : (7 : Int32).toInt = 7 := rfl
      omega
    · have hh : x ≤ 7 := by
        have a : ¬ ((8 : Int32).toInt ≤ x.toInt) := fun q => h2 ((i_le _ _).mpr q)
        rw [i_le]
        have c : (8 : Int32).toInt = 8 := rfl
        have d : (7 : Int32).toInt = 7 := rfl
        omega
      rw [if_neg h2, if_pos ⟨Int32.not_lt.mp h1, hh⟩]
theorem o_look {σ : Sg} {p : Nat → Nat} {M : ab_M} (hI : InvS σ p M) (x y : Int32) : AnsR M (mi_X9_look M x y) (mi_X10_look M x y) := by
  have hT := hI.thr 0
  have hS := hI.1
  have hnm := hS.nm
  unfold mi_X9_look mi_X10_look
  rw [c_hasMast hI.2.2.1.1, b_if, r_isMast hT.2.2.2.1, b_if]
  by_cases h1 : 0 ≤ x ∧ x < nI (g_nm σ)
  · rw [if_pos h1, if_pos h1]
    obtain ⟨m, hm, rfl⟩ := ix_of (by omega) h1
    have hm12 := hS.m12 hm
    have hls := (hS.mast hm).2.2.2.2.2.2.2.1
    obtain ⟨c0, c1, c2, c3, c4, c5, c6, c7, c8⟩ := hI.2.2.1.1.2.2.2.2.2.2.2.2.2.1 m hm
    obtain ⟨r0, r1, r2, r3, r4, r5, r6, r7⟩ := hT.2.2.2.1.2.2.2.2.2.2.2.2.2.1 m hm
    unfold mi_X4_trait
    simp only [nI_clamp (show m < 2 ^ 31 by omega), vin hm12, ab_chk_true]
    rw [c1, c2, c3, c4, c5, c6, c7, c8, r0, r1, r2, r3, r4, r5, r6, r7, j_bitCount, r_countBits _ hls, Option.bind_some, Option.bind_some]
    by_cases k0 : y = 0
    · rw [if_pos k0, if_pos k0]; exact AnsR.mk' hI rfl rfl
    · rw [if_neg k0, if_neg k0]
      by_cases k1 : y = 1
      · rw [if_pos k1, if_pos k1]; exact AnsR.mk' hI rfl rfl
      · rw [if_neg k1, if_neg k1]
        by_cases k2 : y = 2
        · rw [if_pos k2, if_pos k2]; exact AnsR.mk' hI rfl rfl
        · rw [if_neg k2, if_neg k2]
          by_cases k3 : y = 3
          · rw [if_pos k3, if_pos k3]; exact AnsR.mk' hI rfl rfl
          · rw [if_neg k3, if_neg k3]
            by_cases k4 : y = 4
            · rw [if_pos k4, if_pos k4]; exact AnsR.mk' hI rfl rfl
            · rw [if_neg k4, if_neg k4]
              by_cases k5 : y = 5
              · rw [if_pos k5, if_pos k5]; exact AnsR.mk' hI rfl rfl
              · rw [if_neg k5, if_neg k5]
                by_cases k6 : y = 6
                · rw [if_pos k6, if_pos k6]; exact AnsR.mk' hI rfl rfl
                · rw [if_neg k6, if_neg k6]
                  by_cases k7 : y = 7
                  · rw [if_pos k7, if_pos k7]
                    by_cases hk : nI (g_kd σ m) = 1
                    · rw [if_pos hk, if_pos hk]; exact AnsR.mk' hI rfl rfl
                    · rw [if_neg hk, if_neg hk]; exact AnsR.mk' hI rfl rfl
                  · rw [if_neg k7, if_neg k7]; exact AnsR.mk' hI rfl rfl
  · rw [if_neg h1, if_neg h1]
    exact AnsR.mk' hI rfl rfl
/-- the two refusals of a shelf that should hold a mast -/
theorem denied_eq {M : ab_M} (hs : Shs M) (x : Int32) : ∃ v, mi_X9_refusalOfMast M x = some v ∧ mi_X10_denied (ab_pi M 69 0 0) x = some v ∧ ((v = 0 ∧ ∃ d, d < 8 ∧ x = nI d ∧ M.1 (35 + 4 * d) 3 = 1) ∨ (v = -1 ∧ ¬ (0 ≤ x ∧ x ≤ 7)) ∨ v = -11 ∨ v = -12) := by
  unfold mi_X9_refusalOfMast mi_X10_denied
  rw [c_isShelf, b_if, r_isShelf, b_if]
  by_cases h : 0 ≤ x ∧ x ≤ 7
  · rw [if_pos h, if_pos h]
    obtain ⟨d, hd, rfl⟩ := ix_le (n := 7) (by decide) h
    obtain ⟨hh, len, a1, a2, a3, a4, a5, a6, -⟩ := hs d (by omega)
    have a2' : (ab_pi M 69 0 0).1 90 d = nI hh := by rw [pi_ne (by omega)]; exact a2
    simp only [nI_clamp (show d < 2 ^ 31 by omega), vin (show d < 8 by omega), ab_chk_true]
    rw [a1, a2']
    rcases a6 with rfl | rfl | rfl | rfl
    · exact ⟨-11, rfl, rfl, Or.inr (Or.inr (Or.inl rfl))⟩
    · exact ⟨0, rfl, rfl, Or.inl ⟨rfl, d, by omega, rfl, a1⟩⟩
    · exact ⟨-12, rfl, rfl, Or.inr (Or.inr (Or.inr rfl))⟩
    · exact ⟨-12, rfl, rfl, Or.inr (Or.inr (Or.inr rfl))⟩
  · rw [if_neg h, if_neg h]
    exact ⟨-1, rfl, rfl, Or.inr (Or.inl ⟨rfl, h⟩)⟩
theorem heavy {M : ab_M} {t num kd st wn di : Nat} (hk : kd ≤ 3) (e0 : M.1 t 0 = nI num) (e1 : M.1 t 1 = nI kd) (e4 : M.1 t 4 = nI st) (e5 : M.1 t 5 = nI wn) (e8 : M.1 t 8 = nI di) : mi_X4_heaviness M t = some (nI (wgt num kd st wn di)) := by
  unfold mi_X4_heaviness wgt
  rw [e0, e1, e4, e5, e8, show (5 : Int32) * nI wn = nI (5 * wn) from pk_mul 5 wn, nI_add, nI_add, Option.bind_some]
  by_cases k1 : kd = 1
  · rw [if_pos (show nI kd = 1 by rw [k1]; rfl), if_pos k1, nI_add]
  · rw [if_neg (show ¬ nI kd = (1 : Int32) from fun q => k1 ((nI_eq (by omega) (by decide)).mp q)), if_neg k1]
    by_cases k2 : kd = 2
    · rw [if_pos (show nI kd = 2 by rw [k2]; rfl), if_pos k2]
      exact congrArg some (nI_add _ 100)
    · rw [if_neg (show ¬ nI kd = (2 : Int32) from fun q => k2 ((nI_eq (by omega) (by decide)).mp q)), if_neg k2]
      by_cases k3 : kd = 3
      · rw [if_pos (show nI kd = 3 by rw [k3]; rfl), if_pos k3]
        exact congrArg some (pk_mul 2 _)
      · rw [if_neg (show ¬ nI kd = (3 : Int32) from fun q => k3 ((nI_eq (by omega) (by decide)).mp q)), if_neg k3]
theorem o_weight {σ : Sg} {p : Nat → Nat} {M : ab_M} (hI : InvS σ p M) (x : Int32) : AnsR M (mi_X9_weight M x) (mi_X10_weight M x) := by
  have hs := hI.2.2.2.2.2.2.2.2.2
  obtain ⟨v, e1, e2, e3⟩ := denied_eq hs x
  unfold mi_X9_weight mi_X10_weight
  rw [e1, e2, Option.bind_some, Option.bind_some]
  rcases e3 with ⟨rfl, d, hd, rfl, h3⟩ | ⟨rfl, -⟩ | rfl | rfl
  · obtain ⟨hh, len, a1, a2, a3, a4, a5, a6, a7, -⟩ := hs d hd
    have hh1 : hh = 1 := by
      have : nI hh = nI 1 := a1.symm.trans h3
      rcases a6 with rfl | rfl | rfl | rfl
      · exact absurd this (by decide)
      · rfl
      · exact absurd this (by decide)
      · exact absurd this (by decide)
    obtain ⟨num, kd, st, wn, di, b1, b2, b3, b4, b5, b6, b7, b8, b9, b10, b11, b12⟩ := a7 hh1
    have b11' : (ab_pi M 69 0 0).1 92 d = nI (wgt num kd st wn di) := by rw [pi_ne (by omega)]; exact b11
    rw [if_pos (Int32.le_refl _), if_pos (Int32.le_refl _)]
    simp only [nI_clamp (show d < 2 ^ 31 by omega), vin (show d < 8 by omega), ab_chk_true]
    rw [heavy b2 b6 b7 b8 b9 b10, b11']
    exact AnsR.mk' hI rfl rfl
  · exact AnsR.mk' hI rfl rfl
  · exact AnsR.mk' hI rfl rfl
  · exact AnsR.mk' hI rfl rfl
