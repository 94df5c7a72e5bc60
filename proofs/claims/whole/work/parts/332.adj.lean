/-! PURE: masts that are joined -/
def adj (σ : Sg) (a b : Nat) : Prop := a ≠ b ∧ (0 < bar σ a b ∨ ∃ c, c < g_nm σ ∧ inn σ a b c)
theorem adj_comm (σ : Sg) (a b : Nat) : adj σ a b ↔ adj σ b a := by
  unfold adj
  rw [bar_comm σ a b]
  constructor
  · rintro ⟨h1, h2⟩
    exact ⟨fun q => h1 q.symm, h2.imp id (fun ⟨c, hc, h⟩ => ⟨c, hc, (inn_swap σ a b c).mpr h⟩)⟩
  · rintro ⟨h1, h2⟩
    exact ⟨fun q => h1 q.symm, h2.imp id (fun ⟨c, hc, h⟩ => ⟨c, hc, (inn_swap σ b a c).mpr h⟩)⟩
theorem and_z (x y : Int32) : x &&& y = 0 ↔ ∀ i, i < 32 → ¬ (bt x i = true ∧ bt y i = true) := by
  constructor
  · intro h i _ q
    have := congrArg (fun z => bt z i) h
    simp only [b_and, b_0, q.1, q.2] at this
    exact absurd this (by decide)
  · intro h
    refine b_ext (fun i hi => ?_)
    rw [b_and, b_0]
    have := h i hi
    cases h1 : bt x i <;> cases h2 : bt y i
    · rfl
    · rfl
    · rfl
    · exact absurd ⟨h1, h2⟩ this
theorem c_join4 {σ : Sg} {M : ab_M} (hS : Sok σ) (hC : RepC σ M) {a : Nat} (ha : a < g_nm σ) : ∀ (k j n : Nat) (J : Int32), j + k = g_nm σ → k < n → (∀ i, i < 32 → (bt J i = true ↔ i < j ∧ adj σ a i)) → ∃ J', mi_X3_joinedTo_4 n M (nI a) J (nI j) = some (J', nI (g_nm σ)) ∧ ∀ i, i < 32 → (bt J' i = true ↔ i < g_nm σ ∧ adj σ a i) := by
  have hnm := hS.nm
  have ha12 := hS.m12 ha
  intro k
  induction k with
  | zero =>
    intro j n J hj hn hJ
    obtain ⟨n, rfl⟩ : ∃ m, n = m + 1 := ⟨n - 1, by omega⟩
    obtain rfl : j = g_nm σ := by omega
    rw [mi_X3_joinedTo_4.eq_2, hC.1.1, if_pos (Int32.le_refl _)]
    exact ⟨J, rfl, hJ⟩
  | succ k ih =>
    intro j n J hj hn hJ
    obtain ⟨n, rfl⟩ : ∃ m, n = m + 1 := ⟨n - 1, by omega⟩
    have hlt : j < g_nm σ := by omega
    have hb := bar_le hS a j
    rw [mi_X3_joinedTo_4.eq_2, hC.1.1, if_neg (Int32.not_le.mpr (nI_lt hlt (by omega))), show nI j + 1 = nI (j + 1) from nI_add j 1]
    simp only [nI_clamp (show a < 2 ^ 31 by omega), nI_clamp (show j < 2 ^ 31 by omega), vin ha12, vin (show j < 12 by omega), ab_chk_true]
    rw [b_tu (by omega), c_barOf hS hC ha hlt]
    have s3 : ∃ q : Int32, ((if (if bt (M.1 11 a) j = true then (1 : Int32) else 0) = 0 then some 0 else if M.1 11 a &&& M.1 11 j = 0 then some 0 else some 1) : Option Int32) = some q ∧ (q = 0 ↔ ¬ ∃ c, c < g_nm σ ∧ inn σ a j c) := by
      by_cases h1 : bt (M.1 11 a) j = true
      · have n1 := (hC.near ha (by omega)).mp h1
        rw [if_pos h1, if_neg (show ¬ (1 : Int32) = 0 by decide)]
        by_cases h2 : M.1 11 a &&& M.1 11 j = 0
        · rw [if_pos h2]
          refine ⟨0, rfl, fun _ => ?_, fun _ => rfl⟩
          rintro ⟨c, hc, q⟩
          refine (and_z _ _).mp h2 c (by omega) ⟨(hC.near ha (by omega)).mpr ⟨hc, q.2.2.1, q.2.2.2.2.2⟩, (hC.near hlt (by omega)).mpr ⟨hc, q.2.1, q.2.2.2.2.1⟩⟩
        · rw [if_neg h2]
          refine ⟨1, rfl, fun q => absurd q (by decide), fun q => ?_⟩
          exfalso
          refine h2 ((and_z _ _).mpr (fun i hi w => ?_))
          have w1 := (hC.near ha hi).mp w.1
          have w2 := (hC.near hlt hi).mp w.2
          exact q ⟨i, w1.1, n1.2.1, w2.2.1, w1.2.1, n1.2.2, w2.2.2, w1.2.2⟩
      · rw [if_neg h1, if_pos rfl]
        refine ⟨0, rfl, fun _ => ?_, fun _ => rfl⟩
        rintro ⟨c, hc, q⟩
        exact h1 ((hC.near ha (by omega)).mpr ⟨hlt, q.1, q.2.2.2.1⟩)
    obtain ⟨q, e1, e2⟩ := s3
    rw [e1, Option.bind_some, Option.bind_some]
    have s10 : ∃ r : Int32, ((if nI a = nI j then some 0 else if 0 < nI (bar σ a j) then some ((1 : Int32) <<< (nI j &&& 31)) else if q = 0 then some 0 else some ((1 : Int32) <<< (nI j &&& 31))) : Option Int32) = some r ∧ ∀ i, i < 32 → (bt r i = true ↔ i = j ∧ adj σ a i) := by
      have one : ∀ i, i < 32 → adj σ a j → (bt ((1 : Int32) <<< (nI j &&& 31)) i = true ↔ i = j ∧ adj σ a i) := fun i hi hA => by
        rw [b_one (by omega) hi, decide_eq_true_iff]
        constructor
        · rintro rfl; exact ⟨rfl, hA⟩
        · exact fun w => w.1
      have zero : ∀ i, i < 32 → ¬ adj σ a j → (bt (0 : Int32) i = true ↔ i = j ∧ adj σ a i) := fun i hi hA => by
        rw [b_0]
        constructor
        · intro w; exact absurd w (by decide)
        · rintro ⟨rfl, w⟩; exact absurd w hA
      by_cases h1 : a = j
      · rw [if_pos (by rw [h1])]
        exact ⟨0, rfl, fun i hi => zero i hi (fun w => w.1 h1)⟩
      · rw [if_neg (show ¬ nI a = nI j from fun w => h1 ((nI_eq (by omega) (by omega)).mp w))]
        by_cases h2 : 0 < bar σ a j
        · rw [if_pos (show (0 : Int32) < nI (bar σ a j) from nI_lt (a := 0) h2 (by omega))]
          exact ⟨_, rfl, fun i hi => one i hi ⟨h1, Or.inl h2⟩⟩
        · rw [if_neg (show ¬ (0 : Int32) < nI (bar σ a j) from fun w => by rw [show bar σ a j = 0 by omega] at w; exact absurd w (by decide))]
          by_cases h3 : q = 0
          · rw [if_pos h3]
            exact ⟨0, rfl, fun i hi => zero i hi (fun w => w.2.elim h2 (e2.mp h3))⟩
          · rw [if_neg h3]
            exact ⟨_, rfl, fun i hi => one i hi ⟨h1, Or.inr (Classical.not_not.mp (fun w => h3 (e2.mpr w)))⟩⟩
    obtain ⟨r, e3, e4⟩ := s10
    rw [e3, Option.bind_some]
    refine ih (j + 1) n (J ||| r) (by omega) (by omega) (fun i hi => ?_)
    rw [b_or, Bool.or_eq_true, hJ i hi, e4 i hi]
    constructor
    · rintro (w | w)
      · exact ⟨by omega, w.2⟩
      · exact ⟨by omega, w.2⟩
    · intro w
      by_cases e : i = j
      · exact Or.inr ⟨e, w.2⟩
      · exact Or.inl ⟨by omega, w.2⟩
theorem c_joinedTo {σ : Sg} {M : ab_M} (hS : Sok σ) (hC : RepC σ M) {a : Nat} (ha : a < g_nm σ) : ∃ J, mi_X3_joinedTo M (nI a) = some J ∧ ∀ i, i < 32 → (bt J i = true ↔ i < g_nm σ ∧ adj σ a i) := by
  have hnm := hS.nm
  obtain ⟨J, h1, h2⟩ := c_join4 hS hC ha (g_nm σ) 0 ab_F 0 (by omega) (ab_F_lt (by omega)) (fun i _ => by
    rw [b_0]
    constructor
    · intro w; exact absurd w (by decide)
    · intro w; omega)
  have h1' : mi_X3_joinedTo_4 ab_F M (nI a) 0 0 = _ := h1
  refine ⟨J, ?_, h2⟩
  unfold mi_X3_joinedTo
  rw [h1', Option.bind_some]
