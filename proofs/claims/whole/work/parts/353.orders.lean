/-! PURE: bounds: the least sum of an order, by the set and the one that stands last -/
theorem fu_app {α : Type} (F : Nat → α → α) : ∀ (k l j : Nat) (a : α), fu F (k + l) j a = fu F l (j + k) (fu F k j a)
  | 0, l, j, a => by rw [Nat.zero_add]; rfl
  | k + 1, l, j, a => by
    rw [show k + 1 + l = (k + l) + 1 by omega]
    show fu F (k + l) (j + 1) (F j a) = fu F l (j + (k + 1)) (fu F k (j + 1) (F j a))
    rw [fu_app F k l (j + 1) (F j a), show j + 1 + k = j + (k + 1) by omega]
theorem fu_id {α : Type} {F : Nat → α → α} : ∀ (k j : Nat) (a : α), (∀ i, j ≤ i → i < j + k → ∀ b, F i b = b) → fu F k j a = a
  | 0, _, _, _ => rfl
  | k + 1, j, a, h => by
    show fu F k (j + 1) (F j a) = a
    rw [h j (by omega) (by omega) a]
    exact fu_id k (j + 1) a (fun i h1 h2 => h i (by omega) (by omega))
def dpf (σ : Sg) (L : Nat → Nat) : Nat → Nat → Nat → Nat
  | 0, _, _ => 0
  | f + 1, s, i => if s - 2 ^ i = 0 then 0 else fu (fun j a => if (s - 2 ^ i).testBit j = true then min a (dpf σ L f (s - 2 ^ i) j + bar σ (L j) (L i)) else a) 6 0 1000000
theorem tb_le {s i : Nat} (h : s.testBit i = true) : 2 ^ i ≤ s := Nat.ge_two_pow_of_testBit h
theorem dpf_ind {σ : Sg} {L : Nat → Nat} : ∀ (f f' s i : Nat), s < f → s < f' → s.testBit i = true → dpf σ L f s i = dpf σ L f' s i := by
  intro f
  induction f with
  | zero => intro f' s i h; omega
  | succ f ih =>
    intro f' s i h h' hb
    obtain ⟨f', rfl⟩ : ∃ m, f' = m + 1 := ⟨f' - 1, by omega⟩
    have h1 := tb_le hb
    have h2 : 0 < 2 ^ i := Nat.two_pow_pos i
    unfold dpf
    by_cases h0 : s - 2 ^ i = 0
    · rw [if_pos h0, if_pos h0]
    · rw [if_neg h0, if_neg h0]
      refine fu_congr 6 0 _ (fun j _ _ a => ?_)
      by_cases hj : (s - 2 ^ i).testBit j = true
      · rw [if_pos hj, if_pos hj, ih f' (s - 2 ^ i) j (by omega) (by omega) hj]
      · rw [if_neg hj, if_neg hj]
theorem dpf_congr {σ : Sg} {L L' : Nat → Nat} {n : Nat} (hL : ∀ i, i < n → L i = L' i) : ∀ (f s i : Nat), s < 2 ^ n → s.testBit i = true → dpf σ L f s i = dpf σ L' f s i := by
  intro f
  induction f with
  | zero => intro s i _ _; rfl
  | succ f ih =>
    intro s i hs hb
    have h2 : 0 < 2 ^ i := Nat.two_pow_pos i
    have bd : ∀ {r j : Nat}, r < 2 ^ n → r.testBit j = true → j < n := fun {r j} hr hj => by
      rcases Nat.lt_or_ge j n with h | h
      · exact h
      · rw [Nat.testBit_lt_two_pow (Nat.lt_of_lt_of_le hr (Nat.pow_le_pow_right (by decide) h))] at hj
        cases hj
    unfold dpf
    by_cases h0 : s - 2 ^ i = 0
    · rw [if_pos h0, if_pos h0]
    · rw [if_neg h0, if_neg h0]
      refine fu_congr 6 0 _ (fun j _ _ a => ?_)
      by_cases hj : (s - 2 ^ i).testBit j = true
      · rw [if_pos hj, if_pos hj, ih (s - 2 ^ i) j (by omega) hj, hL j (bd (by omega) hj), hL i (bd hs hb)]
      · rw [if_neg hj, if_neg hj]
def ord (σ : Sg) (L : Nat → Nat) (s i : Nat) : Nat := dpf σ L 64 s i
def mnf (σ : Sg) (L : Nat → Nat) (r i N : Nat) : Nat := fu (fun j a => if r.testBit j = true then min a (ord σ L r j + bar σ (L j) (L i)) else a) N 0 1000000
theorem ord_eq {σ : Sg} {L : Nat → Nat} {s i : Nat} (hs : s < 64) (hb : s.testBit i = true) : ord σ L s i = if s - 2 ^ i = 0 then 0 else mnf σ L (s - 2 ^ i) i 6 := by
  have h1 := tb_le hb
  have h2 : 0 < 2 ^ i := Nat.two_pow_pos i
  show dpf σ L (63 + 1) s i = _
  unfold dpf mnf ord
  by_cases h0 : s - 2 ^ i = 0
  · rw [if_pos h0, if_pos h0]
  · rw [if_neg h0, if_neg h0]
    refine fu_congr 6 0 _ (fun j _ _ a => ?_)
    by_cases hj : (s - 2 ^ i).testBit j = true
    · rw [if_pos hj, if_pos hj, dpf_ind 63 64 (s - 2 ^ i) j (by omega) (by omega) hj]
    · rw [if_neg hj, if_neg hj]
theorem mnf_ext {σ : Sg} {L : Nat → Nat} {r i N : Nat} (hN : N ≤ 6) (hr : r < 2 ^ N) : mnf σ L r i 6 = mnf σ L r i N := by
  unfold mnf
  rw [show fu (fun j a => if r.testBit j = true then min a (ord σ L r j + bar σ (L j) (L i)) else a) 6 0 1000000 = fu (fun j a => if r.testBit j = true then min a (ord σ L r j + bar σ (L j) (L i)) else a) (N + (6 - N)) 0 1000000 by rw [show N + (6 - N) = 6 by omega], fu_app]
  refine fu_id _ _ _ (fun j h1 _ b => ?_)
  rw [Nat.testBit_lt_two_pow (Nat.lt_of_lt_of_le hr (Nat.pow_le_pow_right (by decide) (by omega)))]
  rfl
theorem mnf_le {σ : Sg} {L : Nat → Nat} {r i : Nat} (N : Nat) : mnf σ L r i N ≤ 1000000 := by
  unfold mnf
  refine fu_ok (I := fun a => a ≤ 1000000) N 0 1000000 (fun j _ _ b hb => ?_) (Nat.le_refl _)
  show (if r.testBit j = true then min b (ord σ L r j + bar σ (L j) (L i)) else b) ≤ 1000000
  split <;> omega
theorem ord_le {σ : Sg} {L : Nat → Nat} {s i : Nat} (hs : s < 64) (hb : s.testBit i = true) : ord σ L s i ≤ 1000000 := by
  rw [ord_eq hs hb]
  split
  · omega
  · exact mnf_le 6
/-- the bound of n that stand so -/
def bnd (σ : Sg) (L : Nat → Nat) (n : Nat) : Nat := fu (fun i a => min a (ord σ L (2 ^ n - 1) i)) n 0 1000000
theorem bnd_le (σ : Sg) (L : Nat → Nat) (n : Nat) : bnd σ L n ≤ 1000000 := by
  unfold bnd
  exact fu_ok (I := fun a => a ≤ 1000000) n 0 1000000 (fun j _ _ b hb => by show min b _ ≤ 1000000; omega) (Nat.le_refl _)
theorem bnd_congr {σ : Sg} {L L' : Nat → Nat} {n : Nat} (h : ∀ i, i < n → L i = L' i) : bnd σ L n = bnd σ L' n := by
  unfold bnd
  refine fu_congr n 0 _ (fun i _ hi b => ?_)
  have e : ord σ L (2 ^ n - 1) i = ord σ L' (2 ^ n - 1) i := by
    unfold ord
    refine dpf_congr h 64 _ i ?_ ?_
    · have := Nat.two_pow_pos n; omega
    · rw [Nat.testBit_two_pow_sub_one, decide_eq_true_eq]; omega
  rw [e]
/-! bits of sets of seats -/
theorem nob_c : ∀ s, s < 64 → ∀ i, i < 6 → s.testBit i = true → (nI s &&& (((1 : Int32) <<< (nI i &&& 31)) ^^^ (-1))) = nI (s - 2 ^ i) := by decide +kernel
theorem nob_t : ∀ s, s < 64 → ∀ i, i < 6 → s.testBit i = true → ∀ j, j < 6 → (s - 2 ^ i).testBit j = (s.testBit j && decide (j ≠ i)) := by decide +kernel
theorem two_sh : ∀ n, n < 6 → (2 : Int32) <<< (nI n &&& 31) = nI (2 ^ (n + 1)) := by decide +kernel
/-! the class -/
/-- the cells of the sums -/
def fK (c j : Nat) : Prop := c = 32 ∨ c = 33 ∨ (c = 1000 ∧ j = 0)
theorem fK_C {c j : Nat} (h : fC c j) : ¬ fK c j := by unfold fC fB at h; unfold fK; omega
theorem fK_A {c j : Nat} (h : fA c j) : ¬ fK c j := by unfold fA fR fC fB fI fS at h; unfold fK; omega
/-- sums of sets below X, of n seats -/
def TX (σ : Sg) (L : Nat → Nat) (n X : Nat) (M : ab_M) : Prop := (∀ i, i < n → M.1 33 i = nI (L i) ∧ L i < g_nm σ) ∧ ∀ s, 0 < s → s < X → s < 64 → ∀ i, i < n → s.testBit i = true → M.1 32 (6 * s + i) = nI (ord σ L s i)
theorem c_leastSum {σ : Sg} {M : ab_M} {L : Nat → Nat} {n X r i : Nat} (hS : Sok σ) (hC : RepC σ M) (hn : n ≤ 6) (hT : TX σ L n X M) (hr : r < X) (hr64 : r < 2 ^ n) (hi : i < n) : mi_X0_leastSum M (nI r) (nI i) (nI (n - 1)) = some (nI (if r = 0 then 0 else mnf σ L r i n)) := by
  have h64 : r < 64 := Nat.lt_of_lt_of_le hr64 (Nat.le_trans (Nat.pow_le_pow_right (by decide) hn) (by decide))
  unfold mi_X0_leastSum
  by_cases h0 : r = 0
  · rw [if_pos (by rw [h0]; rfl), if_pos h0]
    rfl
  · rw [if_neg (show ¬ nI r = (0 : Int32) from nI_ne0 (by omega) (by omega)), if_neg h0]
    have hl := lp_up (fun g (a : Nat) x => mi_X0_leastSum_13 g M (nI r) (nI i) (nI (n - 1)) (nI a) x) n (fun j a => if r.testBit j = true then min a (ord σ L r j + bar σ (L j) (L i)) else a) (fun a => some (nI a, nI n)) (fun _ a => a ≤ 1000000) (fun g j a hj ha => by
      have hb := bar_le hS (L j) (L i)
      refine ⟨?_, by show (if r.testBit j = true then min a (ord σ L r j + bar σ (L j) (L i)) else a) ≤ 1000000; split <;> omega⟩
      show mi_X0_leastSum_13 (g + 1) M _ _ _ _ _ = _
      rw [mi_X0_leastSum_13.eq_2, if_neg (nI_nlt (by omega) (by omega)), b_tu (by omega), b_nIt (by omega), nI_1]
      by_cases hbit : r.testBit j = true
      · have ho := ord_le (σ := σ) (L := L) h64 hbit
        have e6 : nI r * 6 + nI j = nI (6 * r + j) := by
          rw [show (6 : Int32) = nI 6 from rfl, pk_mul, nI_add, Nat.mul_comm]
        rw [if_pos hbit, if_neg (by decide), if_pos hbit, e6, ab_chk_pos (vin (show 6 * r + j < 384 by omega)), ab_chk_pos (vin (show j < 6 by omega)), ab_chk_pos (vin (show i < 6 by omega)), nI_clamp (show j < 2 ^ 31 by omega), nI_clamp (show i < 2 ^ 31 by omega), nI_clamp (show 6 * r + j < 2 ^ 31 by omega), (hT.1 j hj).1, (hT.1 i hi).1, c_barOf hS hC (hT.1 j hj).2 (hT.1 i hi).2, Option.bind_some, hT.2 r (by omega) hr h64 j hj hbit, nI_add, nI_min (by omega) (by omega), Option.bind_some, Option.bind_some]
      · rw [if_neg hbit, if_pos rfl, if_neg hbit, Option.bind_some]) (fun g a _ => by
      show mi_X0_leastSum_13 (g + 1) M _ _ _ _ _ = _
      rw [mi_X0_leastSum_13.eq_2, if_pos (nI_lt (by omega) (by omega))]) n 0 1000000 ab_F (by omega) (ab_F_lt (by omega)) (Nat.le_refl _)
    have h1 : mi_X0_leastSum_13 ab_F M (nI r) (nI i) (nI (n - 1)) 1000000 0 = some (nI (mnf σ L r i n), nI n) := hl.1
    rw [h1, Option.bind_some]
theorem c_sumUp2 {σ : Sg} {L : Nat → Nat} {n X : Nat} (hS : Sok σ) (hn : n ≤ 6) (hX0 : 0 < X) (hX : X < 2 ^ n) : ∀ (k j g : Nat) (M : ab_M), j + k = n → k < g → RepC σ M → TX σ L n X M → (∀ i, i < j → X.testBit i = true → M.1 32 (6 * X + i) = nI (ord σ L X i)) → ∃ M' y, mi_X0_sumUp_2 g M (nI X) (nI (n - 1)) (nI j) = some (y, M') ∧ (∀ c j, ¬ fK c j → M'.1 c j = M.1 c j) ∧ M'.2 = M.2 ∧ (∀ j, M'.1 33 j = M.1 33 j) ∧ (∀ j, j < 6 * X → M'.1 32 j = M.1 32 j) ∧ TX σ L n (X + 1) M' := by
  have h64 : X < 64 := Nat.lt_of_lt_of_le hX (Nat.le_trans (Nat.pow_le_pow_right (by decide) hn) (by decide))
  have hn0 : 0 < n := by
    rcases Nat.eq_zero_or_pos n with h | h
    · subst h; omega
    · exact h
  intro k
  induction k with
  | zero =>
    intro j g M hj hg hC hT hd
    obtain ⟨g, rfl⟩ : ∃ m, g = m + 1 := ⟨g - 1, by omega⟩
    obtain rfl : j = n := by omega
    rw [mi_X0_sumUp_2.eq_2, if_pos (nI_lt (by omega) (by omega))]
    refine ⟨M, _, rfl, fun _ _ _ => rfl, rfl, fun _ => rfl, fun _ _ => rfl, hT.1, fun s h0 h1 h2 i hi hb => ?_⟩
    by_cases e : s = X
    · subst e; exact hd i hi hb
    · exact hT.2 s h0 (by omega) h2 i hi hb
  | succ k ih =>
    intro j g M hj hg hC hT hd
    obtain ⟨g, rfl⟩ : ∃ m, g = m + 1 := ⟨g - 1, by omega⟩
    have hj6 : j < 6 := by omega
    rw [mi_X0_sumUp_2.eq_2, if_neg (nI_nlt (by omega) (by omega)), b_tu (by omega), b_nIt (by omega), nI_1]
    by_cases hbit : X.testBit j = true
    · have hle := tb_le hbit
      have h2 : 0 < 2 ^ j := Nat.two_pow_pos j
      have e6 : nI X * 6 + nI j = nI (6 * X + j) := by
        rw [show (6 : Int32) = nI 6 from rfl, pk_mul, nI_add, Nat.mul_comm]
      rw [if_pos hbit, if_neg (by decide), nob_c X h64 j hj6 hbit, c_leastSum hS hC hn hT (by omega) (by omega) (by omega), Option.bind_some, e6, ab_chk_pos (vin (show 6 * X + j < 384 by omega)), nI_clamp (show 6 * X + j < 2 ^ 31 by omega), Option.bind_some]
      have ev : (if X - 2 ^ j = 0 then 0 else mnf σ L (X - 2 ^ j) j n) = ord σ L X j := by
        rw [ord_eq h64 hbit]
        by_cases h0 : X - 2 ^ j = 0
        · rw [if_pos h0, if_pos h0]
        · rw [if_neg h0, if_neg h0, mnf_ext hn (by omega)]
      rw [ev]
      obtain ⟨M', y, r1, r2, r3, r4, r5, r6⟩ := ih (j + 1) g (ab_pi M 32 (6 * X + j) (nI (ord σ L X j))) (by omega) (by omega) (hC.same hS (fun c i hc => pi_ne (by unfold fC fB at hc; omega))) ⟨fun i hi => by rw [pi_ne (by omega)]; exact hT.1 i hi, fun s h0 h1 h2 i hi hb => by rw [pi_ne (by omega)]; exact hT.2 s h0 h1 h2 i hi hb⟩ (fun i hi hb => by
        by_cases e : i = j
        · rw [e, pi_eq]
        · rw [pi_ne (by omega)]; exact hd i (by omega) hb)
      exact ⟨M', y, r1, fun c i hc => by rw [r2 c i hc, pi_ne (by unfold fK at hc; omega)], r3, fun i => by rw [r4 i, pi_ne (by omega)], fun i hi => by rw [r5 i hi, pi_ne (by omega)], r6⟩
    · rw [if_neg hbit, if_pos rfl, Option.bind_some]
      exact ih (j + 1) g M (by omega) (by omega) hC hT (fun i hi hb => by
        by_cases e : i = j
        · rw [e] at hb; exact absurd hb hbit
        · exact hd i (by omega) hb)
theorem c_sumUp {σ : Sg} {L : Nat → Nat} {n X : Nat} {M : ab_M} (hS : Sok σ) (hn : n ≤ 6) (hX0 : 0 < X) (hX : X < 2 ^ n) (hC : RepC σ M) (hT : TX σ L n X M) : ∃ M', mi_X0_sumUp M (nI X) (nI (n - 1)) = some M' ∧ (∀ c j, ¬ fK c j → M'.1 c j = M.1 c j) ∧ M'.2 = M.2 ∧ (∀ j, M'.1 33 j = M.1 33 j) ∧ (∀ j, j < 6 * X → M'.1 32 j = M.1 32 j) ∧ TX σ L n (X + 1) M' := by
  obtain ⟨M', y, r1, r2⟩ := c_sumUp2 hS hn hX0 hX n 0 ab_F M (by omega) (ab_F_lt (by omega)) hC hT (fun i hi => by omega)
  have r1' : mi_X0_sumUp_2 ab_F M (nI X) (nI (n - 1)) 0 = some (y, M') := r1
  unfold mi_X0_sumUp
  rw [r1', Option.bind_some]
  exact ⟨M', rfl, r2⟩
theorem c_seat40 {σ : Sg} {L : Nat → Nat} {n : Nat} (hS : Sok σ) (hn : n < 6) {x1 x4 : Int32} : ∀ (k X g : Nat) (M : ab_M), X + k = 2 ^ (n + 1) → k < g → 0 < X → RepC σ M → TX σ L (n + 1) X M → ∃ M' y, mi_X0_seat_40 g M x1 (nI n) x4 (nI X) = some (y, M') ∧ (∀ c j, ¬ fK c j → M'.1 c j = M.1 c j) ∧ M'.2 = M.2 ∧ (∀ j, M'.1 33 j = M.1 33 j) ∧ (∀ j, j < 6 * X → M'.1 32 j = M.1 32 j) ∧ TX σ L (n + 1) (2 ^ (n + 1)) M' := by
  have hp : 2 ^ (n + 1) ≤ 64 := Nat.le_trans (Nat.pow_le_pow_right (by decide) (show n + 1 ≤ 6 by omega)) (by decide)
  intro k
  induction k with
  | zero =>
    intro X g M hX hg hX0 hC hT
    obtain ⟨g, rfl⟩ : ∃ m, g = m + 1 := ⟨g - 1, by omega⟩
    rw [mi_X0_seat_40.eq_2, two_sh n hn, if_pos (nI_le (by omega) (by omega))]
    rw [show X = 2 ^ (n + 1) by omega] at hT
    exact ⟨M, _, rfl, fun _ _ _ => rfl, rfl, fun _ => rfl, fun _ _ => rfl, hT⟩
  | succ k ih =>
    intro X g M hX hg hX0 hC hT
    obtain ⟨g, rfl⟩ : ∃ m, g = m + 1 := ⟨g - 1, by omega⟩
    obtain ⟨M1, q1, q2, q3, q4, q5, q6⟩ := c_sumUp (n := n + 1) hS (by omega) hX0 (by omega) hC hT
    rw [Nat.add_sub_cancel] at q1
    rw [mi_X0_seat_40.eq_2, two_sh n hn, if_neg (nI_ge (by omega) (by omega)), q1, Option.bind_some, nI_1]
    obtain ⟨M', y, r1, r2, r3, r4, r5, r6⟩ := ih (X + 1) g M1 (by omega) (by omega) (by omega) (hC.same hS (fun c j hc => q2 c j (fK_C hc))) q6
    exact ⟨M', y, r1, fun c j hc => by rw [r2 c j hc, q2 c j hc], by rw [r3, q3], fun j => by rw [r4 j, q4 j], fun j hj => by rw [r5 j (by omega), q5 j hj], r6⟩
/-- the sums of all sets of n seats -/
def TT (σ : Sg) (L : Nat → Nat) (n : Nat) (M : ab_M) : Prop := TX σ L n (2 ^ n) M
/-- a mast m behind n seats -/
def app (L : Nat → Nat) (n m : Nat) : Nat → Nat := fun i => if i < n then L i else m
theorem c_seat5 {σ : Sg} {m : Nat} (hS : Sok σ) (hm : m < g_nm σ) {L : Nat → Nat} {n0 : Nat} : ∀ (k j g : Nat) (M : ab_M), j + k = g_mn σ m → k < g → n0 + g_mn σ m ≤ 6 → RepC σ M → TT σ (app L n0 m) (n0 + j) M → ∃ M' y, mi_X0_seat_5 g M (nI m) (nI (n0 + j)) (nI j) = some (nI (n0 + g_mn σ m), y, M') ∧ (∀ c j, ¬ fK c j → M'.1 c j = M.1 c j) ∧ M'.2 = M.2 ∧ (∀ i, i < n0 + j → M'.1 33 i = M.1 33 i) ∧ (∀ i, i < 6 * 2 ^ (n0 + j) → M'.1 32 i = M.1 32 i) ∧ TT σ (app L n0 m) (n0 + g_mn σ m) M' := by
  have hm12 := hS.m12 hm
  have hmn := (hS.mast hm).2.2.2.2.2.1
  intro k
  induction k with
  | zero =>
    intro j g M hj hg h6 hC hT
    obtain ⟨g, rfl⟩ : ∃ m, g = m + 1 := ⟨g - 1, by omega⟩
    obtain rfl : j = g_mn σ m := by omega
    rw [mi_X0_seat_5.eq_2, ab_chk_pos (vin hm12), nI_clamp (by omega), (hC.1.m hm).2.2.2.2.2.1, if_pos (Int32.le_refl _)]
    exact ⟨M, _, rfl, fun _ _ _ => rfl, rfl, fun _ _ => rfl, fun _ _ => rfl, hT⟩
  | succ k ih =>
    intro j g M hj hg h6 hC hT
    obtain ⟨g, rfl⟩ : ∃ m, g = m + 1 := ⟨g - 1, by omega⟩
    have hn6 : n0 + j < 6 := by omega
    have hpw : (2 : Nat) ^ (n0 + j + 1) = 2 ^ (n0 + j) + 2 ^ (n0 + j) := by rw [Nat.pow_succ]; omega
    have hp : 2 ^ (n0 + j + 1) ≤ 64 := Nat.le_trans (Nat.pow_le_pow_right (by decide) (show n0 + j + 1 ≤ 6 by omega)) (by decide)
    have hp0 : 0 < 2 ^ (n0 + j) := Nat.two_pow_pos _
    rw [mi_X0_seat_5.eq_2, ab_chk_pos (vin hm12), nI_clamp (by omega), (hC.1.m hm).2.2.2.2.2.1, if_neg (nI_ge (by omega) (by omega)), if_neg (show ¬ (6 : Int32) ≤ nI (n0 + j) from nI_ge hn6 (by decide)), ab_chk_pos (vin hn6), nI_clamp (show n0 + j < 2 ^ 31 by omega), b_oneN (by omega)]
    have hC1 : RepC σ (ab_pi M 33 (n0 + j) (nI m)) := hC.same hS (fun c i hc => pi_ne (by unfold fC fB at hc; omega))
    have hT1 : TX σ (app L n0 m) (n0 + j + 1) (2 ^ (n0 + j)) (ab_pi M 33 (n0 + j) (nI m)) := by
      refine ⟨fun i hi => ?_, fun s h0 h1 h2 i hi hb => ?_⟩
      · by_cases e : i = n0 + j
        · rw [e, pi_eq]
          have : app L n0 m (n0 + j) = m := if_neg (by omega)
          rw [this]
          exact ⟨rfl, hm⟩
        · rw [pi_ne (by omega)]
          exact hT.1 i (by omega)
      · have hi2 : i < n0 + j := by
          rcases Nat.lt_or_ge i (n0 + j) with h | h
          · exact h
          · rw [Nat.testBit_lt_two_pow (Nat.lt_of_lt_of_le h1 (Nat.pow_le_pow_right (by decide) h))] at hb
            cases hb
        rw [pi_ne (by omega)]
        exact hT.2 s h0 h1 h2 i hi2 hb
    obtain ⟨M1, y1, q1, q2, q3, q4, q5, q6⟩ := c_seat40 (n := n0 + j) (x1 := nI m) (x4 := nI j) hS hn6 (2 ^ (n0 + j)) (2 ^ (n0 + j)) ab_F (ab_pi M 33 (n0 + j) (nI m)) (by omega) (ab_F_lt (by omega)) hp0 hC1 hT1
    rw [q1, Option.bind_some, nI_1, nI_1]
    obtain ⟨M', y, r1, r2, r3, r4, r5, r6⟩ := ih (j + 1) g M1 (by omega) (by omega) h6 (hC1.same hS (fun c i hc => q2 c i (fK_C hc))) q6
    refine ⟨M', y, r1, fun c i hc => by rw [r2 c i hc, q2 c i hc, pi_ne (by unfold fK at hc; omega)], by rw [r3, q3]; rfl, fun i hi => by rw [r4 i (by omega), q4 i, pi_ne (by omega)], fun i hi => ?_, r6⟩
    rw [r5 i (by rw [show n0 + (j + 1) = n0 + j + 1 by omega, hpw]; omega), q5 i hi, pi_ne (by omega)]
theorem TX.congr {σ : Sg} {L L' : Nat → Nat} {n X : Nat} {M : ab_M} (h : ∀ i, i < n → L i = L' i) (hX : X ≤ 2 ^ n) (hT : TX σ L n X M) : TX σ L' n X M := by
  refine ⟨fun i hi => by rw [← h i hi]; exact hT.1 i hi, fun s h0 h1 h2 i hi hb => ?_⟩
  rw [hT.2 s h0 h1 h2 i hi hb]
  unfold ord
  rw [dpf_congr h 64 s i (by omega) hb]
theorem c_seat {σ : Sg} {m n0 : Nat} {L : Nat → Nat} {M : ab_M} (hS : Sok σ) (hm : m < g_nm σ) (h6 : n0 + g_mn σ m ≤ 6) (hC : RepC σ M) (hT : TT σ L n0 M) : ∃ M', mi_X0_seat M (nI m) (nI n0) = some (nI (n0 + g_mn σ m), M') ∧ (∀ c j, ¬ fK c j → M'.1 c j = M.1 c j) ∧ M'.2 = M.2 ∧ (∀ i, i < n0 → M'.1 33 i = M.1 33 i) ∧ (∀ i, i < 6 * 2 ^ n0 → M'.1 32 i = M.1 32 i) ∧ TT σ (app L n0 m) (n0 + g_mn σ m) M' := by
  obtain ⟨M', y, r1, r2, r3, r4, r5, r6⟩ := c_seat5 (L := L) (n0 := n0) hS hm (g_mn σ m) 0 ab_F M (by omega) (ab_F_lt (by have := (hS.mast hm).2.2.2.2.2.1; omega)) h6 hC (hT.congr (fun i hi => (if_pos hi).symm) (Nat.le_refl _))
  have r1' : mi_X0_seat_5 ab_F M (nI m) (nI n0) 0 = some (nI (n0 + g_mn σ m), y, M') := r1
  unfold mi_X0_seat
  rw [r1', Option.bind_some]
  exact ⟨M', rfl, r2, r3, r4, r5, r6⟩
