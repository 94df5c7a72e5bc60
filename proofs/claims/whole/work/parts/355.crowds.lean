/-! PURE: crowds: the model -/
theorem r_wantsIn {σ : Sg} {M : ab_M} (hS : Sok σ) (hR : RepR σ M) (S : Nat) : mi_X10_wantsIn M (nI S) = some (nI (wts σ S)) := by
  have hnm := hS.nm
  have h := lp_sum (fun g a x => mi_X10_wantsIn_4 g M (nI S) a x) (g_nm σ) (fun m => if S.testBit m = true then g_mn σ m else 0) (fun g j a hj => by
    have hm12 := hS.m12 hj
    show mi_X10_wantsIn_4 (g + 1) M (nI S) (nI a) (nI j) = _
    rw [mi_X10_wantsIn_4.eq_2, hR.1, if_neg (nI_ge hj (by omega)), b_ts (by omega), b_nIt (by omega), ab_chk_pos (vin hm12), nI_clamp (by omega), (hR.m hj).2.2.2.2.1, nI_1]
    by_cases hb : S.testBit j = true
    · rw [if_pos hb, if_pos rfl, Option.bind_some, nI_add, if_pos hb]
    · rw [if_neg hb, if_neg (by decide), Option.bind_some, if_neg hb, Int32.add_zero]; rfl) (fun g a => by
    show mi_X10_wantsIn_4 (g + 1) M (nI S) (nI a) (nI (g_nm σ)) = _
    rw [mi_X10_wantsIn_4.eq_2, hR.1, if_pos (Int32.le_refl _)]) 0 0 (by omega) (by omega)
  have h1 : mi_X10_wantsIn_4 ab_F M (nI S) 0 0 = some (nI (0 + su (fun m => if S.testBit m = true then g_mn σ m else 0) (g_nm σ - 0) 0), nI (g_nm σ)) := h
  unfold mi_X10_wantsIn
  rw [h1, Option.bind_some]
  show some (nI (0 + wts σ S)) = _
  rw [Nat.zero_add]
theorem r_isCrowd17 {σ : Sg} {M : ab_M} {S a : Nat} (hS : Sok σ) (hR : RepR σ M) (ha : a < g_nm σ) : ∀ (k j g : Nat) (x : Int32), j + k = g_nm σ → k < g → (x = 0 ∨ x = 1) → ∃ z y, mi_X10_isCrowd_17 g M (nI S) x (nI a) (nI j) = some (z, y) ∧ (z = 0 ∨ z = 1) ∧ (z = 1 ↔ x = 1 ∧ ∀ b, j ≤ b → b < g_nm σ → S.testBit a = true → S.testBit b = true → 0 < bar σ a b) := by
  have hnm := hS.nm
  intro k
  induction k with
  | zero =>
    intro j g x hj hg hx
    obtain ⟨g, rfl⟩ : ∃ m, g = m + 1 := ⟨g - 1, by omega⟩
    obtain rfl : j = g_nm σ := by omega
    rw [mi_X10_isCrowd_17.eq_2, hR.1, if_pos (Int32.le_refl _)]
    exact ⟨x, _, rfl, hx, fun h => ⟨h, fun b h1 h2 => by omega⟩, fun h => h.1⟩
  | succ k ih =>
    intro j g x hj hg hx
    obtain ⟨g, rfl⟩ : ∃ m, g = m + 1 := ⟨g - 1, by omega⟩
    have hjm : j < g_nm σ := by omega
    have step : ∀ x' : Int32, (x' = 0 ∨ x' = 1) → (x' = 1 ↔ x = 1 ∧ (S.testBit a = true → S.testBit j = true → 0 < bar σ a j)) → ∃ z y, mi_X10_isCrowd_17 g M (nI S) x' (nI a) (nI (j + 1)) = some (z, y) ∧ (z = 0 ∨ z = 1) ∧ (z = 1 ↔ x = 1 ∧ ∀ b, j ≤ b → b < g_nm σ → S.testBit a = true → S.testBit b = true → 0 < bar σ a b) := by
      intro x' hx' h
      obtain ⟨z, y, r1, r2, r3⟩ := ih (j + 1) g x' (by omega) (by omega) hx'
      refine ⟨z, y, r1, r2, r3.trans ⟨fun q => ?_, fun q => ?_⟩⟩
      · obtain ⟨q1, q2⟩ := h.mp q.1
        refine ⟨q1, fun b h1 h2 ta tb => ?_⟩
        by_cases e : b = j
        · subst e; exact q2 ta tb
        · exact q.2 b (by omega) h2 ta tb
      · exact ⟨h.mpr ⟨q.1, q.2 j (Nat.le_refl _) hjm⟩, fun b h1 h2 => q.2 b (by omega) h2⟩
    rw [mi_X10_isCrowd_17.eq_2, hR.1, if_neg (nI_ge hjm (by omega)), b_ts (by omega), b_ts (by omega), b_nIt (by omega), b_nIt (by omega), nI_1]
    rcases hx with rfl | rfl
    · rw [if_pos rfl, Option.bind_some]
      exact step 0 (Or.inl rfl) ⟨fun h => absurd h (by decide), fun h => absurd h.1 (by decide)⟩
    · rw [if_neg (show ¬ (1 : Int32) = 0 by decide)]
      by_cases ta : S.testBit a = true
      · rw [if_pos ta, if_neg (show ¬ (1 : Int32) = 0 by decide)]
        by_cases tb : S.testBit j = true
        · have hb6 := bar_le hS a j
          rw [if_pos tb, if_neg (show ¬ (1 : Int32) = 0 by decide), r_barOf hS hR ha hjm, Option.bind_some]
          by_cases h0 : bar σ a j = 0
          · rw [if_pos (show nI (bar σ a j) ≤ 0 by rw [h0]; decide), Option.bind_some]
            exact step 0 (Or.inl rfl) ⟨fun h => absurd h (by decide), fun h => by have := h.2 ta tb; omega⟩
          · rw [if_neg (show ¬ nI (bar σ a j) ≤ 0 from nI_ge (show 0 < bar σ a j by omega) (by omega)), Option.bind_some]
            exact step 1 (Or.inr rfl) ⟨fun _ => ⟨rfl, fun _ _ => by omega⟩, fun _ => rfl⟩
        · rw [if_neg tb, if_pos rfl, Option.bind_some]
          exact step 1 (Or.inr rfl) ⟨fun _ => ⟨rfl, fun _ q => absurd q tb⟩, fun _ => rfl⟩
      · rw [if_neg ta, if_pos rfl, Option.bind_some]
        exact step 1 (Or.inr rfl) ⟨fun _ => ⟨rfl, fun q => absurd q ta⟩, fun _ => rfl⟩
theorem r_isCrowd4 {σ : Sg} {M : ab_M} {S : Nat} (hS : Sok σ) (hR : RepR σ M) : ∀ (k j g : Nat) (x : Int32), j + k = g_nm σ → k < g → (x = 0 ∨ x = 1) → ∃ z y, mi_X10_isCrowd_4 g M (nI S) x (nI j) = some (z, y) ∧ (z = 0 ∨ z = 1) ∧ (z = 1 ↔ x = 1 ∧ ∀ a b, j ≤ a → a < b → b < g_nm σ → S.testBit a = true → S.testBit b = true → 0 < bar σ a b) := by
  have hnm := hS.nm
  intro k
  induction k with
  | zero =>
    intro j g x hj hg hx
    obtain ⟨g, rfl⟩ : ∃ m, g = m + 1 := ⟨g - 1, by omega⟩
    obtain rfl : j = g_nm σ := by omega
    rw [mi_X10_isCrowd_4.eq_2, hR.1, if_pos (Int32.le_refl _)]
    exact ⟨x, _, rfl, hx, fun h => ⟨h, fun a b h1 h2 h3 => by omega⟩, fun h => h.1⟩
  | succ k ih =>
    intro j g x hj hg hx
    obtain ⟨g, rfl⟩ : ∃ m, g = m + 1 := ⟨g - 1, by omega⟩
    have hjm : j < g_nm σ := by omega
    obtain ⟨z1, y1, q1, q2, q3⟩ := r_isCrowd17 (S := S) hS hR hjm k (j + 1) ab_F x (by omega) (ab_F_lt (by omega)) hx
    rw [mi_X10_isCrowd_4.eq_2, hR.1, if_neg (nI_ge hjm (by omega)), nI_1, q1, Option.bind_some]
    obtain ⟨z, y, r1, r2, r3⟩ := ih (j + 1) g z1 (by omega) (by omega) q2
    refine ⟨z, y, r1, r2, r3.trans ⟨fun h => ?_, fun h => ?_⟩⟩
    · obtain ⟨h1, h2⟩ := q3.mp h.1
      refine ⟨h1, fun a b ha hab hb ta tb => ?_⟩
      by_cases e : a = j
      · subst e; exact h2 b (by omega) hb ta tb
      · exact h.2 a b (by omega) hab hb ta tb
    · exact ⟨q3.mpr ⟨h.1, fun b h1 h2 ta tb => h.2 j b (Nat.le_refl _) (by omega) h2 ta tb⟩, fun a b ha hab hb => h.2 a b (by omega) hab hb⟩
theorem r_isCrowd {σ : Sg} {M : ab_M} (hS : Sok σ) (hR : RepR σ M) (S : Nat) : (mi_X10_isCrowd M (nI S) = some 1 ∧ crw σ S) ∨ (mi_X10_isCrowd M (nI S) = some 0 ∧ ¬ crw σ S) := by
  have hnm := hS.nm
  obtain ⟨z, y, r1, r2, r3⟩ := r_isCrowd4 (S := S) hS hR (g_nm σ) 0 ab_F 1 (by omega) (ab_F_lt (by omega)) (Or.inr rfl)
  have r1' : mi_X10_isCrowd_4 ab_F M (nI S) 1 0 = some (z, y) := r1
  unfold mi_X10_isCrowd
  rw [r1', Option.bind_some, ab_chk_pos r2]
  have e : z = 1 ↔ crw σ S := r3.trans ⟨fun h a b hab hb => h.2 a b (Nat.zero_le _) hab hb, fun h => ⟨rfl, fun a b _ hab hb => h a b hab hb⟩⟩
  rcases r2 with rfl | rfl
  · exact Or.inr ⟨rfl, fun h => absurd (e.mpr h) (by decide)⟩
  · exact Or.inl ⟨rfl, e.mp rfl⟩
/-- the seats by wants -/
def wseat (σ : Sg) (S : Nat) : Nat → (Nat → Nat) × Nat
  | 0 => (fun _ => 0, 0)
  | w + 1 => if S.testBit (g_mo σ w) = true then (app (wseat σ S w).1 (wseat σ S w).2 (g_mo σ w), (wseat σ S w).2 + 1) else wseat σ S w
theorem wseat_yes {σ : Sg} {S w : Nat} (h : S.testBit (g_mo σ w) = true) : wseat σ S (w + 1) = (app (wseat σ S w).1 (wseat σ S w).2 (g_mo σ w), (wseat σ S w).2 + 1) := if_pos h
theorem wseat_no {σ : Sg} {S w : Nat} (h : ¬ S.testBit (g_mo σ w) = true) : wseat σ S (w + 1) = wseat σ S w := if_neg h
theorem wseat_le {σ : Sg} {S : Nat} : ∀ (k w : Nat), (wseat σ S w).2 ≤ (wseat σ S (w + k)).2
  | 0, _ => Nat.le_refl _
  | k + 1, w => by
    refine Nat.le_trans (wseat_le k w) ?_
    rw [show w + (k + 1) = (w + k) + 1 by omega]
    by_cases h : S.testBit (g_mo σ (w + k)) = true
    · rw [wseat_yes h]; exact Nat.le_succ _
    · rw [wseat_no h]; exact Nat.le_refl _
/-- the same seats -/
def sameS (A B : (Nat → Nat) × Nat) : Prop := A.2 = B.2 ∧ ∀ i, i < A.2 → A.1 i = B.1 i
theorem wseat_mast {σ : Sg} {S m : Nat} (hS : Sok σ) (hm : m < g_nm σ) (h0 : sameS (wseat σ S (g_fw σ m)) (seats σ S m)) : ∀ t, t ≤ g_mn σ m → sameS (wseat σ S (g_fw σ m + t)) (if S.testBit m = true then (app (seats σ S m).1 (seats σ S m).2 m, (seats σ S m).2 + t) else seats σ S m) := by
  intro t
  induction t with
  | zero =>
    intro _
    rw [Nat.add_zero]
    by_cases h : S.testBit m = true
    · rw [if_pos h]
      refine ⟨h0.1, fun i hi => ?_⟩
      have hi' : i < (seats σ S m).2 := by rw [← h0.1]; exact hi
      show _ = app (seats σ S m).1 (seats σ S m).2 m i
      unfold app
      rw [if_pos hi', h0.2 i hi]
    · rw [if_neg h]; exact h0
  | succ t ih =>
    intro ht
    have ih' := ih (by omega)
    have hmo : g_mo σ (g_fw σ m + t) = m := hS.2.2.2.2.2.2.2.2.2.2.2.1 m hm t (by omega)
    rw [show g_fw σ m + (t + 1) = (g_fw σ m + t) + 1 by omega]
    by_cases h : S.testBit m = true
    · rw [if_pos h] at ih' ⊢
      rw [wseat_yes (by rw [hmo]; exact h), hmo]
      have e2 : (wseat σ S (g_fw σ m + t)).2 = (seats σ S m).2 + t := ih'.1
      refine ⟨by show (wseat σ S (g_fw σ m + t)).2 + 1 = (seats σ S m).2 + (t + 1); omega, fun i hi => ?_⟩
      show app (wseat σ S (g_fw σ m + t)).1 (wseat σ S (g_fw σ m + t)).2 m i = app (seats σ S m).1 (seats σ S m).2 m i
      by_cases hi2 : i < (wseat σ S (g_fw σ m + t)).2
      · have := ih'.2 i hi2
        rw [show app (wseat σ S (g_fw σ m + t)).1 (wseat σ S (g_fw σ m + t)).2 m i = (wseat σ S (g_fw σ m + t)).1 i from if_pos hi2]
        exact this
      · rw [show app (wseat σ S (g_fw σ m + t)).1 (wseat σ S (g_fw σ m + t)).2 m i = m from if_neg hi2, show app (seats σ S m).1 (seats σ S m).2 m i = m from if_neg (by omega)]
    · rw [if_neg h] at ih' ⊢
      rw [wseat_no (by rw [hmo]; exact h)]
      exact ih'
theorem wseat_seats {σ : Sg} {S : Nat} (hS : Sok σ) : ∀ m, m ≤ g_nm σ → sameS (wseat σ S (sumN (g_mn σ) m)) (seats σ S m) := by
  intro m
  induction m with
  | zero => intro _; exact ⟨rfl, fun i hi => rfl⟩
  | succ m ih =>
    intro hm
    have hmm : m < g_nm σ := by omega
    have hfw := (hS.mast hmm).2.2.2.2.2.2.1
    have ih' := ih (by omega)
    rw [← hfw] at ih'
    have h := wseat_mast hS hmm ih' (g_mn σ m) (Nat.le_refl _)
    show sameS (wseat σ S (sumN (g_mn σ) m + g_mn σ m)) (seats σ S (m + 1))
    rw [← hfw]
    exact h
theorem wseat_all {σ : Sg} {S : Nat} (hS : Sok σ) : sameS (wseat σ S (g_nw σ)) (seats σ S (g_nm σ)) := by
  have h := wseat_seats (S := S) hS (g_nm σ) (Nat.le_refl _)
  rw [← hS.2.2.2.2.2.2.2.2.2.2.1] at h
  exact h
/-- the crowd's wants -/
def CW (σ : Sg) (L : Nat → Nat) (n : Nat) (M : ab_M) : Prop := ∀ i, i < n → ∃ x, x < g_nw σ ∧ M.1 86 i = nI x ∧ g_mo σ x = L i
theorem r_bound4 {σ : Sg} {S : Nat} (hS : Sok σ) (h6 : (wseat σ S (g_nw σ)).2 ≤ 6) : ∀ (k j g : Nat) (M : ab_M), j + k = g_nw σ → k < g → RepR σ M → CW σ (wseat σ S j).1 (wseat σ S j).2 M → ∃ M' y, mi_X10_boundOf_4 g M (nI S) (nI (wseat σ S j).2) (nI j) = some (nI (wseat σ S (g_nw σ)).2, y, M') ∧ (∀ c i, c ≠ 86 → M'.1 c i = M.1 c i) ∧ M'.2 = M.2 ∧ CW σ (wseat σ S (g_nw σ)).1 (wseat σ S (g_nw σ)).2 M' := by
  have hnw := hS.nw
  intro k
  induction k with
  | zero =>
    intro j g M hj hg hR hT
    obtain ⟨g, rfl⟩ : ∃ m, g = m + 1 := ⟨g - 1, by omega⟩
    obtain rfl : j = g_nw σ := by omega
    rw [mi_X10_boundOf_4.eq_2, hR.2.1, if_pos (Int32.le_refl _)]
    exact ⟨M, _, rfl, fun _ _ _ => rfl, rfl, hT⟩
  | succ k ih =>
    intro j g M hj hg hR hT
    obtain ⟨g, rfl⟩ : ∃ m, g = m + 1 := ⟨g - 1, by omega⟩
    have hjw : j < g_nw σ := by omega
    have hj16 := hS.w16 hjw
    have hm12 := hS.mo12 hjw
    rw [mi_X10_boundOf_4.eq_2, hR.2.1, if_neg (nI_ge hjw (by omega)), ab_chk_pos (vin hj16), nI_clamp (show j < 2 ^ 31 by omega), (hR.w hjw).1, b_ts (by omega), b_nIt (by omega), nI_1]
    by_cases hb : S.testBit (g_mo σ j) = true
    · have hle := wseat_le (σ := σ) (S := S) k (j + 1)
      rw [show j + 1 + k = g_nw σ by omega, wseat_yes hb] at hle
      have hn6 : (wseat σ S j).2 < 6 := Nat.lt_of_lt_of_le (Nat.lt_of_lt_of_le (Nat.lt_succ_self _) hle) h6
      rw [if_pos hb, if_pos rfl, ab_chk_pos (vin hn6), nI_clamp (show (wseat σ S j).2 < 2 ^ 31 by omega), Option.bind_some, nI_1]
      have hT' : CW σ (wseat σ S (j + 1)).1 (wseat σ S (j + 1)).2 (ab_pi M 86 (wseat σ S j).2 (nI j)) := by
        rw [wseat_yes hb]
        intro i hi
        have hi' : i < (wseat σ S j).2 + 1 := hi
        show ∃ x, x < g_nw σ ∧ _ ∧ g_mo σ x = app (wseat σ S j).1 (wseat σ S j).2 (g_mo σ j) i
        by_cases e : i = (wseat σ S j).2
        · refine ⟨j, hjw, by rw [e, pi_eq], ?_⟩
          rw [show app (wseat σ S j).1 (wseat σ S j).2 (g_mo σ j) i = g_mo σ j from if_neg (by omega)]
        · obtain ⟨x, a, b, c⟩ := hT i (by omega)
          refine ⟨x, a, by rw [pi_ne (by omega)]; exact b, ?_⟩
          rw [show app (wseat σ S j).1 (wseat σ S j).2 (g_mo σ j) i = (wseat σ S j).1 i from if_pos (by omega)]
          exact c
      obtain ⟨M', y, r1, r2, r3, r4⟩ := ih (j + 1) g (ab_pi M 86 (wseat σ S j).2 (nI j)) (by omega) (by omega) (hR.same hS (fun c i hc => pi_ne (by unfold fR at hc; omega))) hT'
      rw [wseat_yes hb] at r1
      exact ⟨M', y, r1, fun c i hc => by rw [r2 c i hc, pi_ne (by omega)], r3, r4⟩
    · rw [if_neg hb, if_neg (by decide), Option.bind_some, nI_1]
      have e := wseat_no (σ := σ) hb
      have ih' := ih (j + 1) g M (by omega) (by omega) hR (by rw [e]; exact hT)
      rw [e] at ih'
      exact ih'
/-- the model's sums of sets below X -/
def TM (σ : Sg) (L : Nat → Nat) (n X : Nat) (M : ab_M) : Prop := ∀ s, 0 < s → s < X → ∀ i, i < n → s.testBit i = true → M.1 87 (6 * s + i) = nI (ord σ L s i)
section
variable {σ : Sg} {L : Nat → Nat} {n : Nat}
theorem r_bound96 (hS : Sok σ) (hn : n ≤ 6) {s i : Nat} (hs : s < 2 ^ n) (hi : i < n) (hb : s.testBit i = true) {x3 : Int32} : ∀ (k j g : Nat) (M : ab_M) (a : Nat), j + k = n → k < g → RepR σ M → CW σ L n M → TM σ L n s M → M.1 87 (6 * s + i) = nI a → a ≤ 1000000 → ∃ M' y, mi_X10_boundOf_96 g M (nI n) x3 (nI s) (nI i) (nI j) = some (y, M') ∧ (∀ c x, c ≠ 87 → M'.1 c x = M.1 c x) ∧ M'.2 = M.2 ∧ (∀ x, x ≠ 6 * s + i → M'.1 87 x = M.1 87 x) ∧ M'.1 87 (6 * s + i) = nI (fu (fun j a => if (s - 2 ^ i).testBit j = true then min a (ord σ L (s - 2 ^ i) j + bar σ (L j) (L i)) else a) k j a) := by
  have h64 : s < 64 := Nat.lt_of_lt_of_le hs (Nat.le_trans (Nat.pow_le_pow_right (by decide) hn) (by decide))
  have hle := tb_le hb
  have h2i : 0 < 2 ^ i := Nat.two_pow_pos i
  have e6 : ∀ t x : Nat, (6 : Int32) * nI t + nI x = nI (6 * t + x) := fun t x => by rw [show (6 : Int32) = nI 6 from rfl, pk_mul, nI_add]
  intro k
  induction k with
  | zero =>
    intro j g M a hj hg hR hW hT hM ha
    obtain ⟨g, rfl⟩ : ∃ m, g = m + 1 := ⟨g - 1, by omega⟩
    obtain rfl : j = n := by omega
    rw [mi_X10_boundOf_96.eq_2, if_pos (Int32.le_refl _)]
    exact ⟨M, _, rfl, fun _ _ _ => rfl, rfl, fun _ _ => rfl, hM⟩
  | succ k ih =>
    intro j g M a hj hg hR hW hT hM ha
    obtain ⟨g, rfl⟩ : ∃ m, g = m + 1 := ⟨g - 1, by omega⟩
    have hjn : j < n := by omega
    rw [mi_X10_boundOf_96.eq_2, if_neg (nI_ge hjn (by omega)), b_ts (show i < 32 by omega), b_nIt (show i < 32 by omega), if_pos hb, if_pos rfl, nob_c s h64 i (by omega) hb, b_ts (show j < 32 by omega), b_nIt (show j < 32 by omega), nI_1]
    show ∃ (M' : ab_M) (y : Int32), _ ∧ _ ∧ _ ∧ _ ∧ M'.1 87 (6 * s + i) = nI (fu (fun j a => if (s - 2 ^ i).testBit j = true then min a (ord σ L (s - 2 ^ i) j + bar σ (L j) (L i)) else a) k (j + 1) (if (s - 2 ^ i).testBit j = true then min a (ord σ L (s - 2 ^ i) j + bar σ (L j) (L i)) else a))
    by_cases hbj : (s - 2 ^ i).testBit j = true
    · have hr0 : 0 < s - 2 ^ i := by have := tb_le hbj; have := Nat.two_pow_pos j; omega
      have ho := ord_le (σ := σ) (L := L) (show s - 2 ^ i < 64 by omega) hbj
      have hbr := bar_le hS (L j) (L i)
      obtain ⟨xi, p1, p2, p3⟩ := hW i hi
      obtain ⟨xj, p4, p5, p6⟩ := hW j hjn
      have hx1 := hS.w16 p1
      have hx2 := hS.w16 p4
      rw [if_pos hbj, if_pos rfl, e6, e6, if_pos hbj]
      rw [ab_chk_pos (vin (show 6 * (s - 2 ^ i) + j < 384 by omega)), ab_chk_pos (vin (show i < 6 by omega)), nI_clamp (show i < 2 ^ 31 by omega), p2, ab_chk_pos (vin hx1), ab_chk_pos (vin (show j < 6 by omega)), nI_clamp (show j < 2 ^ 31 by omega), p5, ab_chk_pos (vin hx2), nI_clamp (show xi < 2 ^ 31 by omega), nI_clamp (show xj < 2 ^ 31 by omega), (hR.w p1).1, (hR.w p4).1, r_barOf hS hR (hS.mo p1) (hS.mo p4), Option.bind_some, p3, p6, nI_clamp (show 6 * (s - 2 ^ i) + j < 2 ^ 31 by omega), nI_clamp (show 6 * s + i < 2 ^ 31 by omega), hT (s - 2 ^ i) hr0 (by omega) j hjn hbj, hM, bar_comm σ (L i) (L j), nI_add, Option.bind_some, ab_chk_pos (vin (show 6 * s + i < 384 by omega)), ab_chk_pos (vin (show 6 * s + i < 384 by omega))]
      have emin : ((if nI a ≤ nI (ord σ L (s - 2 ^ i) j + bar σ (L j) (L i)) then some (nI a) else some (nI (ord σ L (s - 2 ^ i) j + bar σ (L j) (L i)))) : Option Int32) = some (nI (min a (ord σ L (s - 2 ^ i) j + bar σ (L j) (L i)))) := by
        by_cases h : a ≤ ord σ L (s - 2 ^ i) j + bar σ (L j) (L i)
        · rw [if_pos (nI_le h (by omega)), Nat.min_eq_left h]
        · rw [if_neg (nI_ge (by omega) (by omega)), Nat.min_eq_right (by omega)]
      rw [emin, Option.bind_some, ab_chk_pos (vin (show 6 * s + i < 384 by omega)), Option.bind_some]
      obtain ⟨M', y, r1, r2, r3, r4, r5⟩ := ih (j + 1) g (ab_pi M 87 (6 * s + i) (nI (min a (ord σ L (s - 2 ^ i) j + bar σ (L j) (L i))))) (min a (ord σ L (s - 2 ^ i) j + bar σ (L j) (L i))) (by omega) (by omega) (hR.same hS (fun c x hc => pi_ne (by unfold fR at hc; omega))) (fun t ht => by obtain ⟨x, q1, q2, q3⟩ := hW t ht; exact ⟨x, q1, by rw [pi_ne (by omega)]; exact q2, q3⟩) (fun t h0 h1 u hu hbu => by rw [pi_ne (by omega)]; exact hT t h0 h1 u hu hbu) pi_eq (by omega)
      exact ⟨M', y, r1, fun c x hc => by rw [r2 c x hc, pi_ne (by omega)], r3, fun x hx => by rw [r4 x hx, pi_ne (by omega)], r5⟩
    · rw [if_neg hbj, if_neg (by decide), Option.bind_some, if_neg hbj]
      exact ih (j + 1) g M a (by omega) (by omega) hR hW hT hM ha
theorem r_bound96n {s i : Nat} (hi : i < 6) (hb : ¬ s.testBit i = true) {x2 x3 x6 : Int32} (M : ab_M) (g : Nat) : ∃ y, mi_X10_boundOf_96 (g + 1) M x2 x3 (nI s) (nI i) x6 = some (y, M) := by
  rw [mi_X10_boundOf_96.eq_2, b_ts (show i < 32 by omega), b_nIt (show i < 32 by omega), if_neg hb, if_neg (show ¬ (0 : Int32) = 1 by decide)]
  by_cases h : x2 ≤ x6
  · rw [if_pos h]; exact ⟨_, rfl⟩
  · rw [if_neg h]; exact ⟨_, rfl⟩
theorem r_bound59 (hS : Sok σ) (hn : n ≤ 6) {s : Nat} (hs0 : 0 < s) (hs : s < 2 ^ n) : ∀ (k j g : Nat) (M : ab_M) (a : Nat), j + k = n → k < g → RepR σ M → CW σ L n M → TM σ L n s M → (∀ i, i < j → s.testBit i = true → M.1 87 (6 * s + i) = nI (ord σ L s i)) → a ≤ 1000000 → ∃ M' y, mi_X10_boundOf_59 g M (nI n) (nI a) (nI s) (nI j) = some (nI (if s = 2 ^ n - 1 then fu (fun i a => min a (ord σ L (2 ^ n - 1) i)) k j a else a), y, M') ∧ (∀ c x, c ≠ 87 → M'.1 c x = M.1 c x) ∧ M'.2 = M.2 ∧ TM σ L n (s + 1) M' := by
  have hp : 2 ^ n ≤ 64 := Nat.le_trans (Nat.pow_le_pow_right (by decide) hn) (by decide)
  have h64 : s < 64 := by omega
  have e6 : ∀ t x : Nat, (6 : Int32) * nI t + nI x = nI (6 * t + x) := fun t x => by rw [show (6 : Int32) = nI 6 from rfl, pk_mul, nI_add]
  intro k
  induction k with
  | zero =>
    intro j g M a hj hg hR hW hT hd ha
    obtain ⟨g, rfl⟩ : ∃ m, g = m + 1 := ⟨g - 1, by omega⟩
    obtain rfl : j = n := by omega
    rw [mi_X10_boundOf_59.eq_2, if_pos (Int32.le_refl _)]
    refine ⟨M, nI j, ?_, fun _ _ _ => rfl, rfl, fun t h0 h1 i hi hb => ?_⟩
    · show _ = some (nI (if s = 2 ^ j - 1 then a else a), _, _)
      rw [ite_self]
    · by_cases e : t = s
      · subst e; exact hd i hi hb
      · exact hT t h0 (by omega) i hi hb
  | succ k ih =>
    intro j g M a hj hg hR hW hT hd ha
    obtain ⟨g, rfl⟩ : ∃ m, g = m + 1 := ⟨g - 1, by omega⟩
    have hjn : j < n := by omega
    have h2j : 0 < 2 ^ j := Nat.two_pow_pos j
    have hpj : 2 ^ j ≤ 32 := Nat.le_trans (Nat.pow_le_pow_right (by decide) (show j ≤ 5 by omega)) (by decide)
    have e1 : ((if nI s = ((1 : Int32) <<< (nI j &&& 31)) then some 0 else some 1000000) : Option Int32) = some (nI (if s = 2 ^ j then 0 else 1000000)) := by
      rw [b_oneN (by omega)]
      by_cases h : s = 2 ^ j
      · rw [if_pos (by rw [h]), if_pos h]; rfl
      · rw [if_neg (fun z => h ((nI_eq (by omega) (by omega)).mp z)), if_neg h]; rfl
    rw [mi_X10_boundOf_59.eq_2, if_neg (nI_ge hjn (by omega)), e1, Option.bind_some, e6, nI_clamp (show 6 * s + j < 2 ^ 31 by omega), ab_chk_pos (vin (show 6 * s + j < 384 by omega)), nI_1]
    have hR1 : RepR σ (ab_pi M 87 (6 * s + j) (nI (if s = 2 ^ j then 0 else 1000000))) := hR.same hS (fun c x hc => pi_ne (by unfold fR at hc; omega))
    have hW1 : CW σ L n (ab_pi M 87 (6 * s + j) (nI (if s = 2 ^ j then 0 else 1000000))) := fun t ht => by obtain ⟨x, q1, q2, q3⟩ := hW t ht; exact ⟨x, q1, by rw [pi_ne (by omega)]; exact q2, q3⟩
    have hT1 : TM σ L n s (ab_pi M 87 (6 * s + j) (nI (if s = 2 ^ j then 0 else 1000000))) := fun t h0 h1 u hu hbu => by rw [pi_ne (by omega)]; exact hT t h0 h1 u hu hbu
    -- the inner loop
    have inner : ∃ M1 y1, mi_X10_boundOf_96 ab_F (ab_pi M 87 (6 * s + j) (nI (if s = 2 ^ j then 0 else 1000000))) (nI n) (nI a) (nI s) (nI j) 0 = some (y1, M1) ∧ (∀ c x, c ≠ 87 → M1.1 c x = M.1 c x) ∧ M1.2 = M.2 ∧ (∀ x, x ≠ 6 * s + j → M1.1 87 x = M.1 87 x) ∧ (s.testBit j = true → M1.1 87 (6 * s + j) = nI (ord σ L s j)) := by
      by_cases hb : s.testBit j = true
      · have hle := tb_le hb
        obtain ⟨M1, y1, q1, q2, q3, q4, q5⟩ := r_bound96 (x3 := nI a) hS hn hs hjn hb n 0 ab_F _ (if s = 2 ^ j then 0 else 1000000) (by omega) (ab_F_lt (by omega)) hR1 hW1 hT1 pi_eq (by split <;> omega)
        refine ⟨M1, y1, q1, fun c x hc => by rw [q2 c x hc, pi_ne (by omega)], q3, fun x hx => by rw [q4 x hx, pi_ne (by omega)], fun _ => ?_⟩
        rw [q5]
        congr 1
        rw [ord_eq h64 hb]
        by_cases h : s = 2 ^ j
        · have hz : s - 2 ^ j = 0 := by omega
          rw [if_pos h, if_pos hz, hz]
          refine fu_id _ _ _ (fun i _ _ b => ?_)
          rw [Nat.zero_testBit]
          rfl
        · rw [if_neg h, if_neg (by omega), mnf_ext hn (by omega)]
          rfl
      · obtain ⟨y, q⟩ := r_bound96n (s := s) (i := j) (by omega) hb (x2 := nI n) (x3 := nI a) (x6 := 0) (ab_pi M 87 (6 * s + j) (nI (if s = 2 ^ j then 0 else 1000000))) 99999
        exact ⟨_, y, q, fun c x hc => pi_ne (by omega), rfl, fun x hx => pi_ne (by omega), fun h => absurd h hb⟩
    obtain ⟨M1, y1, q1, q2, q3, q4, q5⟩ := inner
    rw [q1, Option.bind_some, ab_chk_pos (vin (show 6 * s + j < 384 by omega)), ab_chk_pos (vin (show 6 * s + j < 384 by omega))]
    have hd1 : ∀ i, i < j + 1 → s.testBit i = true → M1.1 87 (6 * s + i) = nI (ord σ L s i) := fun i hi hbi => by
      by_cases e : i = j
      · subst e; exact q5 hbi
      · rw [q4 _ (by omega)]; exact hd i (by omega) hbi
    have hR2 : RepR σ M1 := hR.same hS (fun c x hc => q2 c x (by unfold fR at hc; omega))
    have hW2 : CW σ L n M1 := fun t ht => by obtain ⟨x, p1, p2, p3⟩ := hW t ht; exact ⟨x, p1, by rw [q2 86 t (by decide)]; exact p2, p3⟩
    have hT2 : TM σ L n s M1 := fun t h0 h1 u hu hbu => by rw [q4 _ (by omega)]; exact hT t h0 h1 u hu hbu
    have efull : ((1 : Int32) <<< (nI n &&& 31)) - 1 = nI (2 ^ n - 1) := by rw [b_oneN (by omega), show (1 : Int32) = nI 1 from rfl, pk_sub (Nat.one_le_two_pow)]
    have e2 : ((if nI s = (((1 : Int32) <<< (nI n &&& 31)) - 1) then (if nI a ≤ (M1.1 87 (6 * s + j)) then some (nI a) else some (M1.1 87 (6 * s + j))) else some (nI a)) : Option Int32) = some (nI (if s = 2 ^ n - 1 then min a (ord σ L (2 ^ n - 1) j) else a)) := by
      rw [efull]
      by_cases h : s = 2 ^ n - 1
      · have hb : s.testBit j = true := by rw [h, Nat.testBit_two_pow_sub_one, decide_eq_true hjn]
        have ho := ord_le (σ := σ) (L := L) h64 hb
        rw [if_pos (show nI s = nI (2 ^ n - 1) by rw [h]), if_pos h, q5 hb, ← h]
        by_cases hx : a ≤ ord σ L s j
        · rw [if_pos (nI_le hx (by omega)), Nat.min_eq_left hx]
        · rw [if_neg (nI_ge (by omega) (by omega)), Nat.min_eq_right (by omega)]
      · rw [if_neg (fun z => h ((nI_eq (by omega) (by omega)).mp z)), if_neg h]
    show ∃ M' y, ((if nI s = (((1 : Int32) <<< (nI n &&& 31)) - 1) then (if nI a ≤ (M1.1 87 (6 * s + j)) then some (nI a) else some (M1.1 87 (6 * s + j))) else some (nI a)) : Option Int32).bind (fun q41 => mi_X10_boundOf_59 g M1 (nI n) q41 (nI s) (nI (j + 1))) = _ ∧ _
    rw [e2, Option.bind_some]
    obtain ⟨M', y, r1, r2, r3, r4⟩ := ih (j + 1) g M1 (if s = 2 ^ n - 1 then min a (ord σ L (2 ^ n - 1) j) else a) (by omega) (by omega) hR2 hW2 hT2 hd1 (by split <;> omega)
    refine ⟨M', y, ?_, fun c x hc => by rw [r2 c x hc, q2 c x hc], by rw [r3, q3], r4⟩
    rw [r1]
    by_cases h : s = 2 ^ n - 1
    · rw [if_pos h, if_pos h, if_pos h]; rfl
    · rw [if_neg h, if_neg h, if_neg h]
theorem r_bound48 (hS : Sok σ) (hn : n ≤ 6) : ∀ (k s g : Nat) (M : ab_M), s + k = 2 ^ n → k < g → 0 < s → RepR σ M → CW σ L n M → TM σ L n s M → ∃ M' y, mi_X10_boundOf_48 g M (nI n) 1000000 (nI s) = some (nI (if k = 0 then 1000000 else bnd σ L n), y, M') ∧ (∀ c x, c ≠ 87 → M'.1 c x = M.1 c x) ∧ M'.2 = M.2 := by
  have hp : 2 ^ n ≤ 64 := Nat.le_trans (Nat.pow_le_pow_right (by decide) hn) (by decide)
  intro k
  induction k with
  | zero =>
    intro s g M hs hg h0 hR hW hT
    obtain ⟨g, rfl⟩ : ∃ m, g = m + 1 := ⟨g - 1, by omega⟩
    rw [mi_X10_boundOf_48.eq_2, b_oneN (by omega), if_pos (nI_le (by omega) (by omega))]
    exact ⟨M, _, rfl, fun _ _ _ => rfl, rfl⟩
  | succ k ih =>
    intro s g M hs hg h0 hR hW hT
    obtain ⟨g, rfl⟩ : ∃ m, g = m + 1 := ⟨g - 1, by omega⟩
    obtain ⟨M1, y1, q1, q2, q3, q4⟩ := r_bound59 hS hn h0 (show s < 2 ^ n by omega) n 0 ab_F M 1000000 (by omega) (ab_F_lt (by omega)) hR hW hT (fun i hi => by omega) (Nat.le_refl _)
    have q1' : mi_X10_boundOf_59 ab_F M (nI n) 1000000 (nI s) 0 = some (nI (if s = 2 ^ n - 1 then bnd σ L n else 1000000), y1, M1) := q1
    rw [mi_X10_boundOf_48.eq_2, b_oneN (by omega), if_neg (nI_ge (by omega) (by omega)), q1', Option.bind_some, nI_1]
    rw [if_neg (show ¬ k + 1 = 0 by omega)]
    by_cases hk : k = 0
    · have e : s = 2 ^ n - 1 := by omega
      rw [if_pos e]
      obtain ⟨g, rfl⟩ : ∃ m, g = m + 1 := ⟨g - 1, by omega⟩
      show ∃ M' y, mi_X10_boundOf_48 (g + 1) M1 (nI n) (nI (bnd σ L n)) (nI (s + 1)) = _ ∧ _
      rw [mi_X10_boundOf_48.eq_2, b_oneN (by omega), if_pos (nI_le (by omega) (by omega))]
      exact ⟨M1, _, rfl, q2, q3⟩
    · rw [if_neg (show ¬ s = 2 ^ n - 1 by omega)]
      obtain ⟨M', y, r1, r2, r3⟩ := ih (s + 1) g M1 (by omega) (by omega) (by omega) (hR.same hS (fun c x hc => q2 c x (by unfold fR at hc; omega))) (fun t ht => by obtain ⟨x, p1, p2, p3⟩ := hW t ht; exact ⟨x, p1, by rw [q2 86 t (by decide)]; exact p2, p3⟩) q4
      rw [if_neg hk] at r1
      exact ⟨M', y, r1, fun c x hc => by rw [r2 c x hc, q2 c x hc], by rw [r3, q3]⟩
end
theorem r_boundOf {σ : Sg} {M : ab_M} {S : Nat} (hS : Sok σ) (hR : RepR σ M) (h6 : wts σ S ≤ 6) : ∃ M', mi_X10_boundOf M (nI S) = some (nI (bS σ S), M') ∧ (∀ c j, c ≠ 86 → c ≠ 87 → M'.1 c j = M.1 c j) ∧ M'.2 = M.2 := by
  have hnw := hS.nw
  obtain ⟨e1, e2⟩ := wseat_all (S := S) hS
  rw [seats_all] at e1
  obtain ⟨M1, y, r1, r2, r3, r4⟩ := r_bound4 (S := S) hS (by rw [e1]; exact h6) (g_nw σ) 0 ab_F M (by omega) (ab_F_lt (by omega)) hR (fun i hi => absurd hi (Nat.not_lt_zero _))
  rw [e1] at r1
  rw [e1] at r4 e2
  have r1' : mi_X10_boundOf_4 ab_F M (nI S) 0 0 = some (nI (wts σ S), y, M1) := r1
  have hp0 : 0 < 2 ^ wts σ S := Nat.two_pow_pos _
  have hp : 2 ^ wts σ S ≤ 64 := Nat.le_trans (Nat.pow_le_pow_right (by decide) h6) (by decide)
  obtain ⟨M2, y2, q1, q2, q3⟩ := r_bound48 (L := (wseat σ S (g_nw σ)).1) hS h6 (2 ^ wts σ S - 1) 1 ab_F M1 (by omega) (ab_F_lt (by omega)) (by omega) (hR.same hS (fun c i hc => r2 c i (by unfold fR at hc; omega))) r4 (fun s a b => by omega)
  have ev : (if 2 ^ wts σ S - 1 = 0 then 1000000 else bnd σ (wseat σ S (g_nw σ)).1 (wts σ S)) = bS σ S := by
    unfold bS
    rw [← bnd_congr e2]
    by_cases h : 2 ^ wts σ S - 1 = 0
    · rw [if_pos h]
      have h0 : wts σ S = 0 := by
        rcases Nat.eq_zero_or_pos (wts σ S) with z | z
        · exact z
        · have : 2 ^ 1 ≤ 2 ^ wts σ S := Nat.pow_le_pow_right (by decide) z
          omega
      rw [h0]
      rfl
    · rw [if_neg h]
  rw [ev] at q1
  have q1' : mi_X10_boundOf_48 ab_F M1 (nI (wts σ S)) 1000000 1 = some (nI (bS σ S), y2, M2) := q1
  unfold mi_X10_boundOf
  rw [r1', Option.bind_some]
  show ∃ M', ((mi_X10_boundOf_48 ab_F M1 (nI (wts σ S)) 1000000 1).bind fun q50 => some (q50.1, q50.2.2)) = _ ∧ _
  rw [q1', Option.bind_some]
  exact ⟨M2, rfl, fun c j a b => by rw [q2 c j b, r2 c j a], by rw [q3, r3]⟩
