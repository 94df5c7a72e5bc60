/-! PURE: better, again and again -/
noncomputable def bru (σ : Sg) : Nat → Nat → (Nat → Nat) → Nat × (Nat → Nat)
  | 0, d, p => (d, p)
  | f + 1, d, p => match (imp σ p).2 with
    | none => (d, p)
    | some (w, c) => bru σ f (d + 1) (fup p w (c + 1))
theorem bru_no {σ : Sg} {f d : Nat} {p : Nat → Nat} (h : (imp σ p).2 = none) : bru σ (f + 1) d p = (d, p) := by
  show (match (imp σ p).2 with | none => (d, p) | some (w, c) => bru σ f (d + 1) (fup p w (c + 1))) = _
  rw [h]
theorem bru_yes {σ : Sg} {f d w c : Nat} {p : Nat → Nat} (h : (imp σ p).2 = some (w, c)) : bru σ (f + 1) d p = bru σ f (d + 1) (fup p w (c + 1)) := by
  show (match (imp σ p).2 with | none => (d, p) | some (w, c) => bru σ f (d + 1) (fup p w (c + 1))) = _
  rw [h]
theorem bru_ok {σ : Sg} : ∀ (f d : Nat) (p : Nat → Nat), Pok σ p → Pok σ (bru σ f d p).2
  | 0, _, _, h => h
  | f + 1, d, p, h => by
    cases hx : (imp σ p).2 with
    | none => rw [bru_no hx]; exact h
    | some r =>
      obtain ⟨w, c⟩ := r
      rw [bru_yes hx]
      have := (imp_ok (σ := σ) (p := p)).2 w c hx
      exact bru_ok f (d + 1) _ (h.up (by omega))
theorem c_bet14 {σ : Sg} (hS : Sok σ) {n : Nat} (hn : n ≤ 50) : ∀ (f d g : Nat) (p : Nat → Nat) (M : ab_M), d + f = n → f < g → RepC σ M → Pok σ p → PlC σ p 67 M → ∃ M', mi_X9_better_14 g M (nI n) (nI d) = some (nI (bru σ f d p).1, M') ∧ (∀ c j, c ≠ 25 → c ≠ 67 → M'.1 c j = M.1 c j) ∧ M'.2 = M.2 ∧ (∀ j, g_nw σ ≤ j → M'.1 67 j = M.1 67 j) ∧ PlC σ (bru σ f d p).2 67 M' := by
  intro f
  induction f with
  | zero =>
    intro d g p M hd hg hC hp hP
    obtain ⟨g, rfl⟩ : ∃ m, g = m + 1 := ⟨g - 1, by omega⟩
    obtain rfl : d = n := by omega
    rw [mi_X9_better_14.eq_2, if_pos (Int32.le_refl _)]
    exact ⟨M, rfl, fun _ _ _ _ => rfl, rfl, fun _ _ => rfl, hP⟩
  | succ f ih =>
    intro d g p M hd hg hC hp hP
    obtain ⟨g, rfl⟩ : ∃ m, g = m + 1 := ⟨g - 1, by omega⟩
    obtain ⟨M1, h1, h2⟩ := c_improve hS hC hp hP
    rw [mi_X9_better_14.eq_2, if_neg (nI_ge (show d < n by omega) (by omega)), h2, Option.bind_some, nI_1]
    cases hx : (imp σ p).2 with
    | none =>
      rw [bru_no hx]
      refine ⟨M1, ?_, fun c j a b => h1.1 c j a, h1.2, fun j _ => h1.1 67 j (by decide), h1.P hP⟩
      show (if (0 : Int32) = 0 then some (nI d, M1) else _) = _
      rw [if_pos rfl]
    | some r =>
      obtain ⟨w, c⟩ := r
      rw [bru_yes hx]
      obtain ⟨b1, b2⟩ := (imp_ok (σ := σ) (p := p)).2 w c hx
      obtain ⟨M', r1, r2, r3, r4, r5⟩ := ih (d + 1) g (fup p w (c + 1)) (ab_pi M1 67 w (nI c)) (by omega) (by omega) ((h1.C hS hC).p67 hS) (hp.up (by omega)) ((h1.P hP).up (pv_s c).symm)
      refine ⟨M', ?_, fun c' j a b => by rw [r2 c' j a b, pi_ne (by omega), h1.1 c' j a], by rw [r3]; exact h1.2, fun j hj => by rw [r4 j hj, pi_ne (by omega), h1.1 67 j (by decide)], r5⟩
      show (if (1 : Int32) = 0 then _ else mi_X9_better_14 g (ab_pi M1 67 w (nI c)) (nI n) (nI (d + 1))) = _
      rw [if_neg (by decide), r1]
theorem r_bet21 {σ : Sg} (hS : Sok σ) {n : Nat} (hn : n ≤ 50) : ∀ (f d g : Nat) (p : Nat → Nat) (M : ab_M), d + f = n → f < g → RepR σ M → Pok σ p → PlR σ p M → ∃ M', mi_X10_better_21 g M (nI n) (nI d) = some (nI (bru σ f d p).1, M') ∧ (∀ c j, c ≠ 80 → M'.1 c j = M.1 c j) ∧ M'.2 = M.2 ∧ PlR σ (bru σ f d p).2 M' := by
  intro f
  induction f with
  | zero =>
    intro d g p M hd hg hR hp hP
    obtain ⟨g, rfl⟩ : ∃ m, g = m + 1 := ⟨g - 1, by omega⟩
    obtain rfl : d = n := by omega
    rw [mi_X10_better_21.eq_2, if_pos (Int32.le_refl _)]
    exact ⟨M, rfl, fun _ _ _ => rfl, rfl, hP⟩
  | succ f ih =>
    intro d g p M hd hg hR hp hP
    obtain ⟨g, rfl⟩ : ∃ m, g = m + 1 := ⟨g - 1, by omega⟩
    rw [mi_X10_better_21.eq_2, if_neg (nI_ge (show d < n by omega) (by omega)), r_bettered hS hR hp hP, Option.bind_some, nI_1]
    cases hx : (imp σ p).2 with
    | none =>
      rw [bru_no hx]
      refine ⟨M, ?_, fun _ _ _ => rfl, rfl, hP⟩
      show (if (0 : Int32) = 0 then some (nI d, M) else _) = _
      rw [if_pos rfl]
    | some r =>
      obtain ⟨w, c⟩ := r
      rw [bru_yes hx]
      obtain ⟨b1, b2⟩ := (imp_ok (σ := σ) (p := p)).2 w c hx
      obtain ⟨M', r1, r2, r3, r4⟩ := ih (d + 1) g (fup p w (c + 1)) (ab_pi M 80 w (nI c)) (by omega) (by omega) (hR.p80 hS) (hp.up (by omega)) (hP.up (pv_s c).symm)
      refine ⟨M', ?_, fun c' j a => by rw [r2 c' j a, pi_ne (by omega)], by rw [r3]; rfl, r4⟩
      show (if (1 : Int32) = 0 then _ else mi_X10_better_21 g (ab_pi M 80 w (nI c)) (nI n) (nI (d + 1))) = _
      rw [if_neg (by decide), r1]
theorem o_better {σ : Sg} {p : Nat → Nat} {M : ab_M} (hI : InvS σ p M) (x : Int32) : Ans (mi_X9_better M x) (fun M => mi_X10_better M x) := by
  have hS := hI.1
  have hnw := hS.nw
  have i1 : ∀ M : ab_M, mi_X10_isIn M x.toInt64 1 50 = some (if 1 ≤ x ∧ x ≤ 50 then 1 else 0) := fun M => r_isIn _ x 1 50
  by_cases h1 : 1 ≤ x ∧ x ≤ 50
  · obtain ⟨n, hn1, hn, rfl⟩ := ix_rng (a := 1) (b := 50) (by decide) h1 (by decide)
    obtain ⟨M1, c1, c2, c3, c4, c5⟩ := c_bet14 hS hn n 0 ab_F p M (by omega) (ab_F_lt (by omega)) hI.2.2.1 hI.2.1 hI.2.2.2.2.1
    have hR0 : RepR σ (ab_pi M1 69 0 0) := hI.2.2.2.1.same hS (fun c j hc => by unfold fR at hc; rw [pi_ne (by omega), c2 c j (by omega) (by omega)])
    have hP0 : PlR σ p (ab_pi M1 69 0 0) := hI.2.2.2.2.2.1.same (fun j => by rw [pi_ne (by omega), c2 80 j (by decide) (by decide)])
    obtain ⟨M2, r1, r2, r3, r4⟩ := r_bet21 hS hn n 0 ab_F p (ab_pi M1 69 0 0) (by omega) (ab_F_lt (by omega)) hR0 hI.2.1 hP0
    have c1' : mi_X9_better_14 ab_F M (nI n) 0 = some (nI (bru σ n 0 p).1, M1) := c1
    have r1' : mi_X10_better_21 ab_F (ab_pi M1 69 0 0) (nI n) 0 = some (nI (bru σ n 0 p).1, M2) := r1
    refine ⟨nI (bru σ n 0 p).1, M1, M2, ?_, ?_, σ, (bru σ n 0 p).2, hI.plan (bru_ok n 0 p hI.2.1) (fun c j hc n1 n2 => ?_) (fun c j => ?_) ?_ r4 (fun w q1 q2 => ?_)⟩
    · unfold mi_X9_better
      rw [w_eq, b_if, if_pos h1, c1', Option.bind_some]
    · show mi_X10_better M1 (nI n) = _
      unfold mi_X10_better
      rw [i1, b_if, if_pos h1, r1', Option.bind_some]
    · rw [r2 c j n2, pi_ne (fA_thrown hc), c2 c j (by unfold fA fR fC fB fI fS at hc; omega) n1]
    · rw [r3]; show M1.2 c j = M.2 c j; rw [c3]
    · exact c5.same (fun j => by rw [r2 67 j (by decide), pi_ne (by omega)])
    · rw [r2 67 w (by decide), pi_ne (by omega), c4 w q1]
      exact (hI.2.2.2.2.2.2.1 w q1 q2).1
  · refine Ans.m1 hI (v := -1) ?_ ?_
    · unfold mi_X9_better
      rw [w_eq, b_if, if_neg h1]
    · show mi_X10_better M x = _
      unfold mi_X10_better
      rw [i1, b_if, if_neg h1]
