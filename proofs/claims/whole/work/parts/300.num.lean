/-! PURE: numbers, and loops as folds -/
/-- k steps from j on -/
def fu {α : Type} (F : Nat → α → α) : Nat → Nat → α → α
  | 0, _, a => a
  | k + 1, j, a => fu F k (j + 1) (F j a)
/-- the same, with an end on the way -/
def fuS {α ρ : Type} (F : Nat → α → Sum α ρ) : Nat → Nat → α → Sum α ρ
  | 0, _, a => .inl a
  | k + 1, j, a => Sum.elim (fun b => fuS F k (j + 1) b) (fun r => .inr r) (F j a)
theorem fu_congr {α : Type} {F G : Nat → α → α} : ∀ (k j : Nat) (a : α), (∀ i, j ≤ i → i < j + k → ∀ b, F i b = G i b) → fu F k j a = fu G k j a
  | 0, _, _, _ => rfl
  | k + 1, j, a, h => by
    show fu F k (j + 1) (F j a) = fu G k (j + 1) (G j a)
    rw [h j (Nat.le_refl _) (by omega) a]
    exact fu_congr k (j + 1) _ (fun i h1 h2 b => h i (by omega) (by omega) b)
/-- a counting loop is a fold -/
theorem lp_up {α β : Type} (L : Nat → α → Int32 → Option β) (N : Nat) (F : Nat → α → α) (fin : α → Option β) (inv : Nat → α → Prop)
    (hs : ∀ n j a, j < N → inv j a → L (n + 1) a (nI j) = L n (F j a) (nI (j + 1)) ∧ inv (j + 1) (F j a)) (he : ∀ n a, inv N a → L (n + 1) a (nI N) = fin a) :
    ∀ (k j : Nat) (a : α) (n : Nat), j + k = N → k < n → inv j a → L n a (nI j) = fin (fu F k j a) ∧ inv N (fu F k j a) := by
  intro k
  induction k with
  | zero =>
    intro j a n hj hn hi
    obtain ⟨m, rfl⟩ : ∃ m, n = m + 1 := ⟨n - 1, by omega⟩
    obtain rfl : j = N := by omega
    exact ⟨he m a hi, hi⟩
  | succ k ih =>
    intro j a n hj hn hi
    obtain ⟨m, rfl⟩ : ∃ m, n = m + 1 := ⟨n - 1, by omega⟩
    obtain ⟨h1, h2⟩ := hs m j a (by omega) hi
    rw [h1]
    exact ih (j + 1) (F j a) m (by omega) (by omega) h2
theorem lp_upS {α β ρ : Type} (L : Nat → α → Int32 → Option β) (N : Nat) (F : Nat → α → Sum α ρ) (fin : α → Option β) (ret : ρ → Option β) (inv : Nat → α → Prop)
    (hs : ∀ n j a, j < N → inv j a → (∀ b, F j a = .inl b → L (n + 1) a (nI j) = L n b (nI (j + 1)) ∧ inv (j + 1) b) ∧ (∀ r, F j a = .inr r → L (n + 1) a (nI j) = ret r)) (he : ∀ n a, inv N a → L (n + 1) a (nI N) = fin a) :
    ∀ (k j : Nat) (a : α) (n : Nat), j + k = N → k < n → inv j a → L n a (nI j) = Sum.elim fin ret (fuS F k j a) := by
  intro k
  induction k with
  | zero =>
    intro j a n hj hn hi
    obtain ⟨m, rfl⟩ : ∃ m, n = m + 1 := ⟨n - 1, by omega⟩
    obtain rfl : j = N := by omega
    exact he m a hi
  | succ k ih =>
    intro j a n hj hn hi
    obtain ⟨m, rfl⟩ : ∃ m, n = m + 1 := ⟨n - 1, by omega⟩
    obtain ⟨h1, h2⟩ := hs m j a (by omega) hi
    show _ = Sum.elim fin ret (Sum.elim (fun b => fuS F k (j + 1) b) (fun r => .inr r) (F j a))
    cases hF : F j a with
    | inl b =>
      obtain ⟨h3, h4⟩ := h1 b hF
      rw [h3]
      exact ih (j + 1) b m (by omega) (by omega) h4
    | inr r => exact h2 r hF
theorem ab_chk_true {α : Type} {t : Option α} : ab_chk True t = t := ab_chk_pos trivial
theorem nI_lit (n : Nat) : (OfNat.ofNat n : Int32) = nI n := rfl
theorem ab_F_lt {n : Nat} (h : n < 100000) : n < ab_F := h
theorem vin {n N : Nat} (h : n < N) (hN : N < 2147483648 := by decide) : vp_in (nI n) N := vp_in_nI h hN
def d2 (a b : Nat) : Nat := (a - b) * (a - b) + (b - a) * (b - a)
theorem nI_sub_neg {a b : Nat} (h : a ≤ b) : nI a - nI b = -(nI (b - a)) := by
  have h1 : nI b = nI a + nI (b - a) := by rw [nI_add]; congr 1; omega
  rw [h1]
  rw [Int32.sub_eq_add_neg, Int32.neg_add, Int32.sub_eq_add_neg, ← Int32.add_assoc, Int32.add_right_neg, Int32.zero_add]
theorem nI_d2 (a b : Nat) : (nI a - nI b) * (nI a - nI b) = nI (d2 a b) := by
  rcases Nat.le_total a b with h | h
  · rw [nI_sub_neg h, Int32.neg_mul_neg, pk_mul]
    congr 1
    simp [d2, Nat.sub_eq_zero_of_le h]
  · rw [pk_sub h, pk_mul]
    congr 1
    simp [d2, Nat.sub_eq_zero_of_le h]
theorem d2_le {a b n : Nat} (ha : a ≤ n) (hb : b ≤ n) : d2 a b ≤ n * n := by
  unfold d2
  rcases Nat.le_total a b with h | h
  · rw [Nat.sub_eq_zero_of_le h, Nat.zero_mul, Nat.zero_add]
    exact Nat.mul_le_mul (by omega) (by omega)
  · rw [Nat.sub_eq_zero_of_le h, Nat.zero_mul, Nat.add_zero]
    exact Nat.mul_le_mul (by omega) (by omega)
theorem d2_comm (a b : Nat) : d2 a b = d2 b a := by unfold d2; omega
/-- a channel, or none -/
def pv (x : Nat) : Int32 := if x = 0 then -2 else nI (x - 1)
theorem pv_0 : pv 0 = -2 := rfl
theorem pv_s (c : Nat) : pv (c + 1) = nI c := rfl
theorem pv_neg {x : Nat} (h : x ≤ 1000) : (pv x < 0) ↔ x = 0 := by
  unfold pv
  by_cases hx : x = 0
  · simp [hx]
  · simp only [hx, if_false, iff_false]
    exact nI_pos (by omega)
theorem pv_nn {x : Nat} (h : x ≤ 1000) : (0 ≤ pv x) ↔ x ≠ 0 := by
  unfold pv
  by_cases hx : x = 0
  · simp [hx]
  · simp only [hx, if_false, ne_eq, not_false_eq_true, iff_true]
    exact nI_pos' (by omega)
theorem pv_inj {x y : Nat} (hx : x ≤ 1000) (hy : y ≤ 1000) : pv x = pv y ↔ x = y := by
  refine ⟨fun h => ?_, fun h => by rw [h]⟩
  unfold pv at h
  by_cases h1 : x = 0 <;> by_cases h2 : y = 0
  · omega
  · rw [if_pos h1, if_neg h2] at h
    exact absurd (h ▸ (by decide : (-2 : Int32) < 0)) (nI_pos (by omega))
  · rw [if_neg h1, if_pos h2] at h
    exact absurd (h ▸ (by decide : (-2 : Int32) < 0)) (nI_pos (by omega))
  · rw [if_neg h1, if_neg h2] at h
    have := (nI_eq (by omega) (by omega)).mp h
    omega
