/-! PURE: border, own, row (printed by wip/whole/gen/land2.py) -/
theorem if_nest {α : Type} {a b : Prop} {da : Decidable a} {db : Decidable b} {A R : α} : (if a then (if b then A else R) else R) = if a ∧ b then A else R := by
  by_cases h : a
  · by_cases k : b
    · rw [if_pos h, if_pos k, if_pos ⟨h, k⟩]
    · rw [if_pos h, if_neg k, if_neg (fun q => k q.2)]
  · rw [if_neg h, if_neg (fun q => h q.1)]
theorem o_border {σ : Sg} {p : Nat → Nat} {M : ab_M} (hI : InvS σ p M) (x y z t : Int32) : Ans (mi_X9_border M x y z t) (fun M => mi_X10_border M x y z t) := by
  have hS := hI.1
  have c1 : ∀ M : ab_M, mi_X9_border M x y z t = if (((-1 ≤ x ∧ x ≤ 60) ∧ (0 ≤ y ∧ y ≤ 60)) ∧ (0 ≤ z ∧ z ≤ 1073741823)) ∧ (0 ≤ t ∧ t ≤ 1073741823) then some (0, ab_pi (ab_pi (ab_pi (ab_pi M 9 0 x) 9 1 y) 9 2 z) 9 3 t) else some (-1, M) := fun M => by
    unfold mi_X9_border mi_X1_tell
    rw [w_eq, b_if, w_eq, b_if, w_eq, b_if, w_eq, b_if, if_nest, if_nest, if_nest]
    rfl
  have c2 : ∀ M : ab_M, mi_X10_border M x y z t = if (((-1 ≤ x ∧ x ≤ 60) ∧ (0 ≤ y ∧ y ≤ 60)) ∧ (0 ≤ z ∧ z ≤ 1073741823)) ∧ (0 ≤ t ∧ t ≤ 1073741823) then some (0, ab_pi (ab_pi (ab_pi (ab_pi (ab_pi M 69 0 0) 69 20 x) 69 21 y) 69 22 z) 69 23 t) else some (-1, ab_pi M 69 0 0) := fun M => by
    unfold mi_X10_border
    have i1 : mi_X10_isIn (ab_pi M 69 0 0) x.toInt64 (-1) 60 = some (if -1 ≤ x ∧ x ≤ 60 then 1 else 0) := r_isIn _ x (-1) 60
    have i2 : mi_X10_isIn (ab_pi M 69 0 0) y.toInt64 0 60 = some (if 0 ≤ y ∧ y ≤ 60 then 1 else 0) := r_isIn _ y 0 60
    rw [i1, b_if, i2, b_if, r_isSet, b_if, r_isSet, b_if, if_nest, if_nest, if_nest]
  by_cases h : (((-1 ≤ x ∧ x ≤ 60) ∧ (0 ≤ y ∧ y ≤ 60)) ∧ (0 ≤ z ∧ z ≤ 1073741823)) ∧ (0 ≤ t ∧ t ≤ 1073741823)
  · obtain ⟨n1, q1, rfl⟩ := ix_m1 (b := 60) (by decide) h.1.1.1
    obtain ⟨n2, q2, rfl⟩ := ix_le (n := 60) (by decide) h.1.1.2
    obtain ⟨n3, q3, rfl⟩ := ix_le (n := 1073741823) (by decide) h.1.2
    obtain ⟨n4, q4, rfl⟩ := ix_le (n := 1073741823) (by decide) h.2
    refine ⟨_, _, _, (c1 M).trans (if_pos h), (c2 _).trans (if_pos h), sgr σ 0 (fun i => if i = 5 then n1 else if i = 6 then n2 else if i = 7 then n3 else if i = 8 then n4 else σ 0 i), p, ?_⟩
    have sc : ∀ c j, (c ≠ 9 ∨ 4 ≤ j) → (c ≠ 69 ∨ (j ≠ 0 ∧ j ≠ 20 ∧ j ≠ 21 ∧ j ≠ 22 ∧ j ≠ 23)) → (ab_pi (ab_pi (ab_pi (ab_pi (ab_pi (ab_pi (ab_pi (ab_pi (ab_pi M 9 0 (nI n1 - 1)) 9 1 (nI n2)) 9 2 (nI n3)) 9 3 (nI n4)) 69 0 0) 69 20 (nI n1 - 1)) 69 21 (nI n2)) 69 22 (nI n3)) 69 23 (nI n4)).1 c j = M.1 c j := fun c j a b => by rw [pi_ne (by omega), pi_ne (by omega), pi_ne (by omega), pi_ne (by omega), pi_ne (by omega), pi_ne (by omega), pi_ne (by omega), pi_ne (by omega), pi_ne (by omega)]
    refine hI.land ?_ rfl ?_ ?_ (fun c j hc => ?_) (fun w' _ => sc 4 w' (by omega) (by omega)) (fun _ _ => rfl)
    · obtain ⟨h1, h2, h3, h4, h5, h6, h7, h8, h9, hr⟩ := hS
      exact ⟨h1, h2, h3, h4, h5, q1, q2, Nat.lt_succ_of_le q3, Nat.lt_succ_of_le q4, hr⟩
    · obtain ⟨⟨c1, c2, c3, c4, c5, c6, c7, c8, c9, c10, c11, c12⟩, c13, c14⟩ := hI.2.2.1
      refine ⟨⟨?_, ?_, ?_, ?_, ?_, ?_, ?_, ?_, ?_, fun m' hm' => ?_, fun w' hw' => ?_, fun i' hi' => ?_⟩, fun a' b' ha' hb' => ?_, fun a' ha' i' hi' => ?_⟩
      · rw [sc _ _ (by omega) (by omega)]; exact c1
      · rw [sc _ _ (by omega) (by omega)]; exact c2
      · rw [sc _ _ (by omega) (by omega)]; exact c3
      · rw [sc _ _ (by omega) (by omega)]; exact c4
      · rw [sc _ _ (by omega) (by omega)]; exact c5
      · exact rfl
      · exact rfl
      · exact rfl
      · exact rfl
      · have hm1 := hS.m12 hm'
        obtain ⟨d0, d1, d2, d3, d4, d5, d6, d7, d8⟩ := c10 m' hm'
        refine ⟨?_, ?_, ?_, ?_, ?_, ?_, ?_, ?_, ?_⟩
        · rw [sc _ _ (by omega) (by omega)]; exact d0
        · rw [sc _ _ (by omega) (by omega)]; exact d1
        · rw [sc _ _ (by omega) (by omega)]; exact d2
        · rw [sc _ _ (by omega) (by omega)]; exact d3
        · rw [sc _ _ (by omega) (by omega)]; exact d4
        · rw [sc _ _ (by omega) (by omega)]; exact d5
        · rw [sc _ _ (by omega) (by omega)]; exact d6
        · rw [sc _ _ (by omega) (by omega)]; exact d7
        · rw [sc _ _ (by omega) (by omega)]; exact d8
      · rw [sc _ _ (by omega) (by omega), sc _ _ (by omega) (by omega)]; exact c11 w' hw'
      · rw [sc _ _ (by omega) (by omega), sc _ _ (by omega) (by omega), sc _ _ (by omega) (by omega)]; exact c12 i' hi'
      · rw [sc _ _ (by omega) (by omega)]; exact c13 a' b' ha' hb'
      · rw [sc _ _ (by omega) (by omega)]; exact c14 a' ha' i' hi'
    · obtain ⟨c1, c2, c3, c4, c5, c6, c7, c8, c9, c10, c11, c12⟩ := hI.2.2.2.1
      refine ⟨?_, ?_, ?_, ?_, ?_, ?_, ?_, ?_, ?_, fun m' hm' => ?_, fun w' hw' => ?_, fun i' hi' => ?_⟩
      · rw [sc _ _ (by omega) (by omega)]; exact c1
      · rw [sc _ _ (by omega) (by omega)]; exact c2
      · rw [sc _ _ (by omega) (by omega)]; exact c3
      · rw [sc _ _ (by omega) (by omega)]; exact c4
      · rw [sc _ _ (by omega) (by omega)]; exact c5
      · exact rfl
      · exact rfl
      · exact rfl
      · exact rfl
      · have hm1 := hS.m12 hm'
        obtain ⟨d0, d1, d2, d3, d4, d5, d6, d7⟩ := c10 m' hm'
        refine ⟨?_, ?_, ?_, ?_, ?_, ?_, ?_, ?_⟩
        · rw [sc _ _ (by omega) (by omega)]; exact d0
        · rw [sc _ _ (by omega) (by omega)]; exact d1
        · rw [sc _ _ (by omega) (by omega)]; exact d2
        · rw [sc _ _ (by omega) (by omega)]; exact d3
        · rw [sc _ _ (by omega) (by omega)]; exact d4
        · rw [sc _ _ (by omega) (by omega)]; exact d5
        · rw [sc _ _ (by omega) (by omega)]; exact d6
        · rw [sc _ _ (by omega) (by omega)]; exact d7
      · rw [sc _ _ (by omega) (by omega), sc _ _ (by omega) (by omega)]; exact c11 w' hw'
      · rw [sc _ _ (by omega) (by omega), sc _ _ (by omega) (by omega), sc _ _ (by omega) (by omega)]; exact c12 i' hi'
    · unfold fI fS at hc
      exact sc c j (by omega) (by omega)
  · exact Ans.m1 hI (v := -1) ((c1 M).trans (if_neg h)) ((c2 M).trans (if_neg h))
theorem o_own {σ : Sg} {p : Nat → Nat} {M : ab_M} (hI : InvS σ p M) (x y : Int32) : Ans (mi_X9_own M x y) (fun M => mi_X10_own M x y) := by
  have hS := hI.1
  have c1 : ∀ M : ab_M, mi_X9_own M x y = if (0 ≤ x ∧ x ≤ 6) ∧ (-1 ≤ y ∧ y ≤ 10000) then (mi_X3_measure (ab_pi (ab_pi M 1 9 x) 1 10 y)).bind (fun q => some (0, q)) else some (-1, M) := fun M => by
    unfold mi_X9_own
    rw [w_eq, b_if, w_eq, b_if, if_nest]
  have c2 : ∀ M : ab_M, mi_X10_own M x y = if (0 ≤ x ∧ x ≤ 6) ∧ (-1 ≤ y ∧ y ≤ 10000) then some (0, ab_pi (ab_pi (ab_pi M 69 0 0) 69 18 x) 69 19 y) else some (-1, ab_pi M 69 0 0) := fun M => by
    unfold mi_X10_own
    have i1 : mi_X10_isIn (ab_pi M 69 0 0) x.toInt64 0 6 = some (if 0 ≤ x ∧ x ≤ 6 then 1 else 0) := r_isIn _ x 0 6
    have i2 : mi_X10_isIn (ab_pi M 69 0 0) y.toInt64 (-1) 10000 = some (if -1 ≤ y ∧ y ≤ 10000 then 1 else 0) := r_isIn _ y (-1) 10000
    rw [i1, b_if, i2, b_if, if_nest]
  by_cases h : (0 ≤ x ∧ x ≤ 6) ∧ (-1 ≤ y ∧ y ≤ 10000)
  · obtain ⟨n1, q1, rfl⟩ := ix_le (n := 6) (by decide) h.1
    obtain ⟨n2, q2, rfl⟩ := ix_m1 (b := 10000) (by decide) h.2
    have hS' : Sok (sgr σ 0 (fun i => if i = 3 then n1 else if i = 4 then n2 else σ 0 i)) := by
      obtain ⟨h1, h2, h3, h4, h5, hr⟩ := hS
      exact ⟨h1, h2, h3, q1, q2, hr⟩
    have hB : RepB (sgr σ 0 (fun i => if i = 3 then n1 else if i = 4 then n2 else σ 0 i)) (ab_pi (ab_pi M 1 9 (nI n1)) 1 10 (nI n2 - 1)) := by
      have sc : ∀ c j, (c ≠ 1 ∨ (j ≠ 9 ∧ j ≠ 10)) → (ab_pi (ab_pi M 1 9 (nI n1)) 1 10 (nI n2 - 1)).1 c j = M.1 c j := fun c j a => by rw [pi_ne (by omega), pi_ne (by omega)]
      obtain ⟨c1, c2, c3, c4, c5, c6, c7, c8, c9, c10, c11, c12⟩ := hI.2.2.1.1
      refine ⟨?_, ?_, ?_, ?_, ?_, ?_, ?_, ?_, ?_, fun m' hm' => ?_, fun w' hw' => ?_, fun i' hi' => ?_⟩
      · rw [sc _ _ (by omega)]; exact c1
      · rw [sc _ _ (by omega)]; exact c2
      · exact rfl
      · exact rfl
      · rw [sc _ _ (by omega)]; exact c5
      · rw [sc _ _ (by omega)]; exact c6
      · rw [sc _ _ (by omega)]; exact c7
      · rw [sc _ _ (by omega)]; exact c8
      · rw [sc _ _ (by omega)]; exact c9
      · have hm1 := hS.m12 hm'
        obtain ⟨d0, d1, d2, d3, d4, d5, d6, d7, d8⟩ := c10 m' hm'
        refine ⟨?_, ?_, ?_, ?_, ?_, ?_, ?_, ?_, ?_⟩
        · rw [sc _ _ (by omega)]; exact d0
        · rw [sc _ _ (by omega)]; exact d1
        · rw [sc _ _ (by omega)]; exact d2
        · rw [sc _ _ (by omega)]; exact d3
        · rw [sc _ _ (by omega)]; exact d4
        · rw [sc _ _ (by omega)]; exact d5
        · rw [sc _ _ (by omega)]; exact d6
        · rw [sc _ _ (by omega)]; exact d7
        · rw [sc _ _ (by omega)]; exact d8
      · rw [sc _ _ (by omega), sc _ _ (by omega)]; exact c11 w' hw'
      · rw [sc _ _ (by omega), sc _ _ (by omega), sc _ _ (by omega)]; exact c12 i' hi'
    obtain ⟨M1, g1, g2, g3, g4⟩ := c_measure hS' hB
    have f1 : mi_X9_own M (nI n1) (nI n2 - 1) = some (0, M1) := by rw [c1 M, if_pos h, g1, Option.bind_some]
    refine ⟨_, _, _, f1, (c2 _).trans (if_pos h), sgr σ 0 (fun i => if i = 3 then n1 else if i = 4 then n2 else σ 0 i), p, ?_⟩
    have sc : ∀ c j, (c ≠ 10 ∧ c ≠ 11) → (c ≠ 1 ∨ (j ≠ 9 ∧ j ≠ 10)) → (c ≠ 69 ∨ (j ≠ 0 ∧ j ≠ 18 ∧ j ≠ 19)) → (ab_pi (ab_pi (ab_pi M1 69 0 0) 69 18 (nI n1)) 69 19 (nI n2 - 1)).1 c j = M.1 c j := fun c j a b d => by rw [pi_ne (by omega), pi_ne (by omega), pi_ne (by omega), g2 c j a.1 a.2, pi_ne (by omega), pi_ne (by omega)]
    refine hI.land hS' rfl ?_ ?_ (fun c j hc => ?_) (fun w' _ => sc 4 w' (by omega) (by omega) (by omega)) (fun c j => congrFun (congrFun g3 c) j)
    · exact g4.same hS' (fun c j hc => by unfold fC fB at hc; rw [pi_ne (by omega), pi_ne (by omega), pi_ne (by omega)])
    · obtain ⟨c1, c2, c3, c4, c5, c6, c7, c8, c9, c10, c11, c12⟩ := hI.2.2.2.1
      refine ⟨?_, ?_, ?_, ?_, ?_, ?_, ?_, ?_, ?_, fun m' hm' => ?_, fun w' hw' => ?_, fun i' hi' => ?_⟩
      · rw [sc _ _ (by omega) (by omega) (by omega)]; exact c1
      · rw [sc _ _ (by omega) (by omega) (by omega)]; exact c2
      · rw [sc _ _ (by omega) (by omega) (by omega)]; exact c3
      · exact rfl
      · exact rfl
      · rw [sc _ _ (by omega) (by omega) (by omega)]; exact c6
      · rw [sc _ _ (by omega) (by omega) (by omega)]; exact c7
      · rw [sc _ _ (by omega) (by omega) (by omega)]; exact c8
      · rw [sc _ _ (by omega) (by omega) (by omega)]; exact c9
      · have hm1 := hS.m12 hm'
        obtain ⟨d0, d1, d2, d3, d4, d5, d6, d7⟩ := c10 m' hm'
        refine ⟨?_, ?_, ?_, ?_, ?_, ?_, ?_, ?_⟩
        · rw [sc _ _ (by omega) (by omega) (by omega)]; exact d0
        · rw [sc _ _ (by omega) (by omega) (by omega)]; exact d1
        · rw [sc _ _ (by omega) (by omega) (by omega)]; exact d2
        · rw [sc _ _ (by omega) (by omega) (by omega)]; exact d3
        · rw [sc _ _ (by omega) (by omega) (by omega)]; exact d4
        · rw [sc _ _ (by omega) (by omega) (by omega)]; exact d5
        · rw [sc _ _ (by omega) (by omega) (by omega)]; exact d6
        · rw [sc _ _ (by omega) (by omega) (by omega)]; exact d7
      · rw [sc _ _ (by omega) (by omega) (by omega), sc _ _ (by omega) (by omega) (by omega)]; exact c11 w' hw'
      · rw [sc _ _ (by omega) (by omega) (by omega), sc _ _ (by omega) (by omega) (by omega), sc _ _ (by omega) (by omega) (by omega)]; exact c12 i' hi'
    · unfold fI fS at hc
      exact sc c j (by omega) (by omega) (by omega)
  · exact Ans.m1 hI (v := -1) ((c1 M).trans (if_neg h)) ((c2 M).trans (if_neg h))
theorem o_row {σ : Sg} {p : Nat → Nat} {M : ab_M} (hI : InvS σ p M) (x y z : Int32) : Ans (mi_X9_row M x y z) (fun M => mi_X10_row M x y z) := by
  have hS := hI.1
  have hnr := hS.nr
  have c1 : ∀ M : ab_M, mi_X9_row M x y z = if ((0 ≤ x ∧ x ≤ 10000) ∧ (0 ≤ y ∧ y ≤ 6)) ∧ (0 ≤ z ∧ z ≤ 4) then (if M.1 5 3 < 8 then (mi_X7_add M x y z).bind fun q11 => (mi_X3_measure q11).bind fun q13 => some (q13.1 5 3, q13) else some (-2, M)) else some (-1, M) := fun M => by
    unfold mi_X9_row
    rw [w_eq, b_if, w_eq, b_if, w_eq, b_if, if_nest, if_nest]
  have i1 : ∀ M : ab_M, mi_X10_isIn M x.toInt64 0 10000 = some (if 0 ≤ x ∧ x ≤ 10000 then 1 else 0) := fun M => r_isIn _ x 0 10000
  have i2 : ∀ M : ab_M, mi_X10_isIn M y.toInt64 0 6 = some (if 0 ≤ y ∧ y ≤ 6 then 1 else 0) := fun M => r_isIn _ y 0 6
  have i3 : ∀ M : ab_M, mi_X10_isIn M z.toInt64 0 4 = some (if 0 ≤ z ∧ z ≤ 4 then 1 else 0) := fun M => r_isIn _ z 0 4
  by_cases h : ((0 ≤ x ∧ x ≤ 10000) ∧ (0 ≤ y ∧ y ≤ 6)) ∧ (0 ≤ z ∧ z ≤ 4)
  · by_cases h8 : g_nr σ = 8
    · refine Ans.m1 hI (v := -2) ?_ ?_
      · rw [c1 M, if_pos h, hI.2.2.1.1.2.2.2.2.1, h8]
        rfl
      · show mi_X10_row M x y z = _
        unfold mi_X10_row
        rw [i1, b_if, if_pos h.1.1, i2, b_if, if_pos h.1.2, i3, b_if, if_pos h.2, (hI.thr 0).2.2.2.1.2.2.1, h8]
        rfl
    · obtain ⟨n1, q1, rfl⟩ := ix_le (n := 10000) (by decide) h.1.1
      obtain ⟨n2, q2, rfl⟩ := ix_le (n := 6) (by decide) h.1.2
      obtain ⟨n3, q3, rfl⟩ := ix_le (n := 4) (by decide) h.2
      have hS' : Sok (sgr (sgr (sgr (sgr σ 0 (fup (σ 0) 2 (g_nr σ + 1))) 11 (fup (σ 11) (g_nr σ) n1)) 12 (fup (σ 12) (g_nr σ) n2)) 13 (fup (σ 13) (g_nr σ) n3)) := by
        obtain ⟨h1, h2, h3, h4, h5, h6, h7, h8', h9, hm, hs, hmo, hw, hr⟩ := hS
        refine ⟨h1, h2, show g_nr σ + 1 ≤ 8 by omega, h4, h5, h6, h7, h8', h9, hm, hs, hmo, hw, fun i hi => ?_⟩
        have hi' : i < g_nr σ + 1 := hi
        show fup (σ 11) (g_nr σ) n1 i ≤ 10000 ∧ fup (σ 12) (g_nr σ) n2 i ≤ 6 ∧ fup (σ 13) (g_nr σ) n3 i ≤ 4
        by_cases e : i = g_nr σ
        · rw [e, fup_eq, fup_eq, fup_eq]; exact ⟨q1, q2, q3⟩
        · rw [fup_ne e, fup_ne e, fup_ne e]; exact hr i (by omega)
      have hB : RepB (sgr (sgr (sgr (sgr σ 0 (fup (σ 0) 2 (g_nr σ + 1))) 11 (fup (σ 11) (g_nr σ) n1)) 12 (fup (σ 12) (g_nr σ) n2)) 13 (fup (σ 13) (g_nr σ) n3)) (ab_pi (ab_pi (ab_pi (ab_pi M 6 (g_nr σ) (nI n1)) 7 (g_nr σ) (nI n2)) 8 (g_nr σ) (nI n3)) 5 3 (nI (g_nr σ + 1))) := by
        have sc : ∀ c j, (c ≠ 5 ∨ j ≠ 3) → (c < 6 ∨ 8 < c ∨ j ≠ g_nr σ) → (ab_pi (ab_pi (ab_pi (ab_pi M 6 (g_nr σ) (nI n1)) 7 (g_nr σ) (nI n2)) 8 (g_nr σ) (nI n3)) 5 3 (nI (g_nr σ + 1))).1 c j = M.1 c j := fun c j a b => by rw [pi_ne (by omega), pi_ne (by omega), pi_ne (by omega), pi_ne (by omega)]
        obtain ⟨c1, c2, c3, c4, c5, c6, c7, c8, c9, c10, c11, c12⟩ := hI.2.2.1.1
        refine ⟨?_, ?_, ?_, ?_, ?_, ?_, ?_, ?_, ?_, fun m' hm' => ?_, fun w' hw' => ?_, fun i' hi' => ?_⟩
        · rw [sc _ _ (by omega) (by omega)]; exact c1
        · rw [sc _ _ (by omega) (by omega)]; exact c2
        · rw [sc _ _ (by omega) (by omega)]; exact c3
        · rw [sc _ _ (by omega) (by omega)]; exact c4
        · exact rfl
        · rw [sc _ _ (by omega) (by omega)]; exact c6
        · rw [sc _ _ (by omega) (by omega)]; exact c7
        · rw [sc _ _ (by omega) (by omega)]; exact c8
        · rw [sc _ _ (by omega) (by omega)]; exact c9
        · have hm1 := hS.m12 hm'
          obtain ⟨d0, d1, d2, d3, d4, d5, d6, d7, d8⟩ := c10 m' hm'
          refine ⟨?_, ?_, ?_, ?_, ?_, ?_, ?_, ?_, ?_⟩
          · rw [sc _ _ (by omega) (by omega)]; exact d0
          · rw [sc _ _ (by omega) (by omega)]; exact d1
          · rw [sc _ _ (by omega) (by omega)]; exact d2
          · rw [sc _ _ (by omega) (by omega)]; exact d3
          · rw [sc _ _ (by omega) (by omega)]; exact d4
          · rw [sc _ _ (by omega) (by omega)]; exact d5
          · rw [sc _ _ (by omega) (by omega)]; exact d6
          · rw [sc _ _ (by omega) (by omega)]; exact d7
          · rw [sc _ _ (by omega) (by omega)]; exact d8
        · rw [sc _ _ (by omega) (by omega), sc _ _ (by omega) (by omega)]; exact c11 w' hw'
        · have hi2 : i' < g_nr σ + 1 := hi'
          show _ = nI (fup (σ 11) (g_nr σ) n1 i') ∧ _ = nI (fup (σ 12) (g_nr σ) n2 i') ∧ _ = nI (fup (σ 13) (g_nr σ) n3 i')
          by_cases e : i' = g_nr σ
          · rw [e, fup_eq, fup_eq, fup_eq]
            refine ⟨?_, ?_, ?_⟩
            · rw [pi_ne (by omega), pi_ne (by omega), pi_ne (by omega), pi_eq]
            · rw [pi_ne (by omega), pi_ne (by omega), pi_eq]
            · rw [pi_ne (by omega), pi_eq]
          · rw [fup_ne e, fup_ne e, fup_ne e, sc _ _ (by omega) (by omega), sc _ _ (by omega) (by omega), sc _ _ (by omega) (by omega)]; exact c12 i' (by omega)
      obtain ⟨M1, g1, g2, g3, g4⟩ := c_measure hS' hB
      have fa : mi_X7_add M (nI n1) (nI n2) (nI n3) = some (ab_pi (ab_pi (ab_pi (ab_pi M 6 (g_nr σ) (nI n1)) 7 (g_nr σ) (nI n2)) 8 (g_nr σ) (nI n3)) 5 3 (nI (g_nr σ + 1))) := by
        have e0 : M.1 5 3 = nI (g_nr σ) := hI.2.2.1.1.2.2.2.2.1
        have e1 : ∀ v, (ab_pi M 6 (g_nr σ) v).1 5 3 = nI (g_nr σ) := fun v => by rw [pi_ne (by omega)]; exact e0
        have e2 : ∀ v u, (ab_pi (ab_pi M 6 (g_nr σ) v) 7 (g_nr σ) u).1 5 3 = nI (g_nr σ) := fun v u => by rw [pi_ne (by omega)]; exact e1 v
        have e3 : ∀ v u s, (ab_pi (ab_pi (ab_pi M 6 (g_nr σ) v) 7 (g_nr σ) u) 8 (g_nr σ) s).1 5 3 = nI (g_nr σ) := fun v u s => by rw [pi_ne (by omega)]; exact e2 v u
        unfold mi_X7_add
        rw [e0, if_neg (show ¬ (8 : Int32) ≤ nI (g_nr σ) from Int32.not_le.mpr (nI_lt (show g_nr σ < 8 by omega) (by decide)))]
        simp only [nI_clamp (show g_nr σ < 2 ^ 31 by omega), e1, e2, e3, vin (show g_nr σ < 8 by omega), ab_chk_true]
        rw [show nI (g_nr σ) + 1 = nI (g_nr σ + 1) from nI_add _ 1]
      have f1 : mi_X9_row M (nI n1) (nI n2) (nI n3) = some (nI (g_nr σ + 1), M1) := by
        rw [c1 M, if_pos h, hI.2.2.1.1.2.2.2.2.1, if_pos (show nI (g_nr σ) < (8 : Int32) from nI_lt (show g_nr σ < 8 by omega) (by decide)), fa, Option.bind_some, g1, Option.bind_some, g2 5 3 (by decide) (by decide)]
        rfl
      have hR1 : RepR σ (ab_pi M1 69 0 0) := hI.2.2.2.1.same hS (fun c j hc => by unfold fR at hc; rw [pi_ne (by omega), g2 c j (by omega) (by omega), pi_ne (by omega), pi_ne (by omega), pi_ne (by omega), pi_ne (by omega)])
      have f2 : mi_X10_row M1 (nI n1) (nI n2) (nI n3) = some (nI (g_nr σ + 1), (ab_pi (ab_pi (ab_pi (ab_pi (ab_pi M1 69 0 0) 81 (g_nr σ) (nI n1)) 82 (g_nr σ) (nI n2)) 83 (g_nr σ) (nI n3)) 69 14 (nI (g_nr σ + 1)))) := by
        have e0 : (ab_pi M1 69 0 0).1 69 14 = nI (g_nr σ) := hR1.2.2.1
        have e1 : ∀ v, (ab_pi (ab_pi M1 69 0 0) 81 (g_nr σ) v).1 69 14 = nI (g_nr σ) := fun v => by rw [pi_ne (by omega)]; exact e0
        have e2 : ∀ v u, (ab_pi (ab_pi (ab_pi M1 69 0 0) 81 (g_nr σ) v) 82 (g_nr σ) u).1 69 14 = nI (g_nr σ) := fun v u => by rw [pi_ne (by omega)]; exact e1 v
        have e3 : ∀ v u s, (ab_pi (ab_pi (ab_pi (ab_pi M1 69 0 0) 81 (g_nr σ) v) 82 (g_nr σ) u) 83 (g_nr σ) s).1 69 14 = nI (g_nr σ) := fun v u s => by rw [pi_ne (by omega)]; exact e2 v u
        unfold mi_X10_row
        rw [i1, b_if, if_pos h.1.1, i2, b_if, if_pos h.1.2, i3, b_if, if_pos h.2]
        simp only [e0, nI_clamp (show g_nr σ < 2 ^ 31 by omega), e1, e2, e3, vin (show g_nr σ < 8 by omega), ab_chk_true]
        rw [if_neg (show ¬ nI (g_nr σ) = (8 : Int32) from fun q => h8 ((nI_eq (by omega) (by decide)).mp q)), show nI (g_nr σ) + 1 = nI (g_nr σ + 1) from nI_add _ 1, pi_eq]
      refine ⟨_, _, _, f1, f2, (sgr (sgr (sgr (sgr σ 0 (fup (σ 0) 2 (g_nr σ + 1))) 11 (fup (σ 11) (g_nr σ) n1)) 12 (fup (σ 12) (g_nr σ) n2)) 13 (fup (σ 13) (g_nr σ) n3)), p, ?_⟩
      have sc : ∀ c j, (c ≠ 10 ∧ c ≠ 11) → (c ≠ 5 ∨ j ≠ 3) → (c < 6 ∨ 8 < c) → (c ≠ 69 ∨ (j ≠ 0 ∧ j ≠ 14)) → (c < 81 ∨ 83 < c ∨ j ≠ g_nr σ) → (ab_pi (ab_pi (ab_pi (ab_pi (ab_pi M1 69 0 0) 81 (g_nr σ) (nI n1)) 82 (g_nr σ) (nI n2)) 83 (g_nr σ) (nI n3)) 69 14 (nI (g_nr σ + 1))).1 c j = M.1 c j := fun c j a b d e f => by rw [pi_ne (by omega), pi_ne (by omega), pi_ne (by omega), pi_ne (by omega), pi_ne (by omega), g2 c j a.1 a.2, pi_ne (by omega), pi_ne (by omega), pi_ne (by omega), pi_ne (by omega)]
      refine hI.land hS' rfl ?_ ?_ (fun c j hc => ?_) (fun w' _ => sc 4 w' (by omega) (by omega) (by omega) (by omega) (by omega)) (fun c j => congrFun (congrFun g3 c) j)
      · exact g4.same hS' (fun c j hc => by unfold fC fB at hc; rw [pi_ne (by omega), pi_ne (by omega), pi_ne (by omega), pi_ne (by omega), pi_ne (by omega)])
      · obtain ⟨c1, c2, c3, c4, c5, c6, c7, c8, c9, c10, c11, c12⟩ := hI.2.2.2.1
        refine ⟨?_, ?_, ?_, ?_, ?_, ?_, ?_, ?_, ?_, fun m' hm' => ?_, fun w' hw' => ?_, fun i' hi' => ?_⟩
        · rw [sc _ _ (by omega) (by omega) (by omega) (by omega) (by omega)]; exact c1
        · rw [sc _ _ (by omega) (by omega) (by omega) (by omega) (by omega)]; exact c2
        · exact rfl
        · rw [sc _ _ (by omega) (by omega) (by omega) (by omega) (by omega)]; exact c4
        · rw [sc _ _ (by omega) (by omega) (by omega) (by omega) (by omega)]; exact c5
        · rw [sc _ _ (by omega) (by omega) (by omega) (by omega) (by omega)]; exact c6
        · rw [sc _ _ (by omega) (by omega) (by omega) (by omega) (by omega)]; exact c7
        · rw [sc _ _ (by omega) (by omega) (by omega) (by omega) (by omega)]; exact c8
        · rw [sc _ _ (by omega) (by omega) (by omega) (by omega) (by omega)]; exact c9
        · have hm1 := hS.m12 hm'
          obtain ⟨d0, d1, d2, d3, d4, d5, d6, d7⟩ := c10 m' hm'
          refine ⟨?_, ?_, ?_, ?_, ?_, ?_, ?_, ?_⟩
          · rw [sc _ _ (by omega) (by omega) (by omega) (by omega) (by omega)]; exact d0
          · rw [sc _ _ (by omega) (by omega) (by omega) (by omega) (by omega)]; exact d1
          · rw [sc _ _ (by omega) (by omega) (by omega) (by omega) (by omega)]; exact d2
          · rw [sc _ _ (by omega) (by omega) (by omega) (by omega) (by omega)]; exact d3
          · rw [sc _ _ (by omega) (by omega) (by omega) (by omega) (by omega)]; exact d4
          · rw [sc _ _ (by omega) (by omega) (by omega) (by omega) (by omega)]; exact d5
          · rw [sc _ _ (by omega) (by omega) (by omega) (by omega) (by omega)]; exact d6
          · rw [sc _ _ (by omega) (by omega) (by omega) (by omega) (by omega)]; exact d7
        · rw [sc _ _ (by omega) (by omega) (by omega) (by omega) (by omega), sc _ _ (by omega) (by omega) (by omega) (by omega) (by omega)]; exact c11 w' hw'
        · have hi2 : i' < g_nr σ + 1 := hi'
          show _ = nI (fup (σ 11) (g_nr σ) n1 i') ∧ _ = nI (fup (σ 12) (g_nr σ) n2 i') ∧ _ = nI (fup (σ 13) (g_nr σ) n3 i')
          by_cases e : i' = g_nr σ
          · rw [e, fup_eq, fup_eq, fup_eq]
            refine ⟨?_, ?_, ?_⟩
            · rw [pi_ne (by omega), pi_ne (by omega), pi_ne (by omega), pi_eq]
            · rw [pi_ne (by omega), pi_ne (by omega), pi_eq]
            · rw [pi_ne (by omega), pi_eq]
          · rw [fup_ne e, fup_ne e, fup_ne e, sc _ _ (by omega) (by omega) (by omega) (by omega) (by omega), sc _ _ (by omega) (by omega) (by omega) (by omega) (by omega), sc _ _ (by omega) (by omega) (by omega) (by omega) (by omega)]; exact c12 i' (by omega)
      · unfold fI fS at hc
        exact sc c j (by omega) (by omega) (by omega) (by omega) (by omega)
  · refine Ans.m1 hI (v := -1) ((c1 M).trans (if_neg h)) ?_
    show mi_X10_row M x y z = _
    unfold mi_X10_row
    rw [i1, b_if, i2, b_if, i3, b_if, if_nest, if_nest, if_neg h]
