/-! PURE: the least mast of a part, and the parts' numbers in the class -/
def hea (σ : Sg) (y : Nat) : Prop := y < g_nm σ ∧ ∀ z, z < y → ¬ con σ y z
noncomputable def h1 (σ : Sg) (y : Nat) : Nat := @ite _ (hea σ y) (Classical.propDecidable _) 1 0
noncomputable def nh (σ : Sg) (y : Nat) : Nat := su (h1 σ) y 0
theorem su_snoc (f : Nat → Nat) (k : Nat) : su f (k + 1) 0 = su f k 0 + f k := by
  rw [su_app f k 1 0, Nat.zero_add]
  rfl
theorem nh_s {σ : Sg} (y : Nat) : nh σ (y + 1) = nh σ y + h1 σ y := su_snoc _ _
theorem nh_le {σ : Sg} (y : Nat) : nh σ y ≤ y := by
  have := su_le (f := h1 σ) (g := fun _ => 1) y 0 (fun i _ _ => by
    unfold h1
    by_cases h : hea σ i
    · rw [if_pos h]; exact Nat.le_refl _
    · rw [if_neg h]; exact Nat.zero_le _)
  rw [su_const] at this
  unfold nh
  omega
theorem h1_y {σ : Sg} {y : Nat} (h : hea σ y) : h1 σ y = 1 := if_pos h
theorem h1_n {σ : Sg} {y : Nat} (h : ¬ hea σ y) : h1 σ y = 0 := if_neg h
theorem lo_ex {σ : Sg} : ∀ (n x : Nat), x ≤ n → x < g_nm σ → ∃ l, l ≤ x ∧ hea σ l ∧ con σ l x := by
  intro n
  induction n with
  | zero =>
    intro x hx hlt
    refine ⟨x, Nat.le_refl _, ⟨hlt, fun z hz => absurd hz (by omega)⟩, con_refl σ x⟩
  | succ n ih =>
    intro x hx hlt
    by_cases h : ∀ z, z < x → ¬ con σ x z
    · exact ⟨x, Nat.le_refl _, ⟨hlt, h⟩, con_refl σ x⟩
    · obtain ⟨z, hz⟩ := Classical.not_forall.mp h
      obtain ⟨h2, h3⟩ := Classical.not_imp.mp hz
      have h4 : con σ x z := Classical.not_not.mp h3
      obtain ⟨l, l1, l2, l3⟩ := ih z (by omega) (con_lt hlt h4)
      exact ⟨l, by omega, l2, con_trans l3 (con_comm hlt h4)⟩
theorem lo_un {σ : Sg} {l l' x : Nat} (h : hea σ l) (h' : hea σ l') (c : con σ l x) (c' : con σ l' x) : l = l' := by
  have e : con σ l l' := con_trans c (con_comm h'.1 c')
  have e' : con σ l' l := con_comm h.1 e
  by_cases q : l < l'
  · exact absurd e' (h'.2 l q)
  · by_cases q' : l' < l
    · exact absurd e (h.2 l' q')
    · omega
/-- a mast is the least of its part just when no less one's part has it -/
theorem hea_iff {σ : Sg} {y : Nat} (hy : y < g_nm σ) : hea σ y ↔ ¬ ∃ z, z < y ∧ hea σ z ∧ con σ z y := by
  constructor
  · rintro h ⟨z, z1, z2, z3⟩
    exact h.2 z z1 (con_comm z2.1 z3)
  · intro h
    obtain ⟨l, l1, l2, l3⟩ := lo_ex y y (Nat.le_refl _) hy
    by_cases e : l = y
    · rw [← e]; exact l2
    · exact absurd ⟨l, by omega, l2, l3⟩ h
theorem c_seen {σ : Sg} {M : ab_M} (hS : Sok σ) (hC : RepC σ M) {y : Nat} (hy : y < g_nm σ) {S : Int32} (hs : ∀ i, i < 32 → (bt S i = true ↔ ∃ z, z < y ∧ hea σ z ∧ con σ z i)) : (bt S y = true ↔ ¬ hea σ y) ∧ ∀ P, (∀ i, i < 32 → (bt P i = true ↔ con σ y i)) → hea σ y → ∀ i, i < 32 → (bt (S ||| P) i = true ↔ ∃ z, z < y + 1 ∧ hea σ z ∧ con σ z i) := by
  have hnm := hS.nm
  refine ⟨(hs y (by omega)).trans ⟨fun q w => (hea_iff hy).mp w q, fun q => Classical.not_not.mp (fun w => q ((hea_iff hy).mpr w))⟩, fun P hP hh i hi => ?_⟩
  rw [b_or, Bool.or_eq_true, hs i hi, hP i hi]
  constructor
  · rintro (⟨z, z1, z2, z3⟩ | w)
    · exact ⟨z, by omega, z2, z3⟩
    · exact ⟨y, by omega, hh, w⟩
  · rintro ⟨z, z1, z2, z3⟩
    by_cases e : z = y
    · rw [e] at z3; exact Or.inr z3
    · exact Or.inl ⟨z, by omega, z2, z3⟩
theorem seen_no {σ : Sg} {y : Nat} {S : Int32} (hn : ¬ hea σ y) (hs : ∀ i, i < 32 → (bt S i = true ↔ ∃ z, z < y ∧ hea σ z ∧ con σ z i)) : ∀ i, i < 32 → (bt S i = true ↔ ∃ z, z < y + 1 ∧ hea σ z ∧ con σ z i) := fun i hi => (hs i hi).trans ⟨fun ⟨z, z1, z2⟩ => ⟨z, by omega, z2⟩, fun ⟨z, z1, z2, z3⟩ => by
  by_cases e : z = y
  · rw [e] at z2; exact absurd z2 hn
  · exact ⟨z, by omega, z2, z3⟩⟩
theorem c_parts6 {σ : Sg} {M : ab_M} (hS : Sok σ) (hC : RepC σ M) : ∀ (k j n : Nat) (S : Int32), j + k = g_nm σ → k < n → (∀ i, i < 32 → (bt S i = true ↔ ∃ z, z < j ∧ hea σ z ∧ con σ z i)) → ∃ S', mi_X3_parts_6 n M (nI (nh σ j)) S (nI j) = some (nI (nh σ (g_nm σ)), S', nI (g_nm σ)) := by
  have hnm := hS.nm
  intro k
  induction k with
  | zero =>
    intro j n S hj hn hs
    obtain ⟨n, rfl⟩ : ∃ m, n = m + 1 := ⟨n - 1, by omega⟩
    obtain rfl : j = g_nm σ := by omega
    rw [mi_X3_parts_6.eq_2, hC.1.1, if_pos (Int32.le_refl _)]
    exact ⟨S, rfl⟩
  | succ k ih =>
    intro j n S hj hn hs
    obtain ⟨n, rfl⟩ : ∃ m, n = m + 1 := ⟨n - 1, by omega⟩
    have hlt : j < g_nm σ := by omega
    obtain ⟨q1, q2⟩ := c_seen hS hC hlt hs
    obtain ⟨P, p1, p2⟩ := c_partAround hS hC hlt
    rw [mi_X3_parts_6.eq_2, hC.1.1, if_neg (Int32.not_le.mpr (nI_lt hlt (by omega))), show nI j + 1 = nI (j + 1) from nI_add j 1, b_tu (by omega), p1, Option.bind_some]
    by_cases h : hea σ j
    · rw [if_neg (fun w => q1.mp w h), if_pos rfl, Option.bind_some]
      have := ih (j + 1) n (S ||| P) (by omega) (by omega) (q2 P p2 h)
      rw [nh_s, h1_y h] at this
      rw [show nI (nh σ j) + 1 = nI (nh σ j + 1) from nI_add _ 1]
      exact this
    · rw [if_pos (q1.mpr h), if_neg (show ¬ (1 : Int32) = 0 by decide), Option.bind_some]
      have := ih (j + 1) n S (by omega) (by omega) (seen_no h hs)
      rw [nh_s, h1_n h] at this
      exact this
theorem c_parts {σ : Sg} {M : ab_M} (hS : Sok σ) (hC : RepC σ M) : mi_X3_parts M = some (nI (nh σ (g_nm σ))) := by
  have hnm := hS.nm
  obtain ⟨S, h⟩ := c_parts6 hS hC (g_nm σ) 0 ab_F 0 (by omega) (ab_F_lt (by omega)) (fun i _ => by
    rw [b_0]
    constructor
    · intro w; exact absurd w (by decide)
    · rintro ⟨z, z1, -⟩; omega)
  have h' : mi_X3_parts_6 ab_F M 0 0 0 = _ := h
  unfold mi_X3_parts
  rw [h', Option.bind_some]
theorem c_partOf7 {σ : Sg} {M : ab_M} (hS : Sok σ) (hC : RepC σ M) {x l : Nat} (hx : x < g_nm σ) (hl : hea σ l) (hc : con σ l x) (hlx : l ≤ x) : ∀ (k j n : Nat) (S : Int32), j + k = x → k < n → j ≤ l → (∀ i, i < 32 → (bt S i = true ↔ ∃ z, z < j ∧ hea σ z ∧ con σ z i)) → (∃ a b, mi_X3_partOf_7 n M (nI x) (nI (nh σ j)) S (nI j) = some (.inl (nI (nh σ l), a, b))) ∨ mi_X3_partOf_7 n M (nI x) (nI (nh σ j)) S (nI j) = some (.inr (nI (nh σ l))) := by
  have hnm := hS.nm
  intro k
  induction k with
  | zero =>
    intro j n S hj hn hjl hs
    obtain ⟨n, rfl⟩ : ∃ m, n = m + 1 := ⟨n - 1, by omega⟩
    obtain rfl : j = x := by omega
    obtain rfl : l = j := by omega
    rw [mi_X3_partOf_7.eq_2, if_pos (Int32.le_refl _)]
    exact Or.inl ⟨_, _, rfl⟩
  | succ k ih =>
    intro j n S hj hn hjl hs
    obtain ⟨n, rfl⟩ : ∃ m, n = m + 1 := ⟨n - 1, by omega⟩
    have hlt : j < x := by omega
    obtain ⟨q1, q2⟩ := c_seen hS hC (show j < g_nm σ by omega) hs
    obtain ⟨P, p1, p2⟩ := c_partAround hS hC (show j < g_nm σ by omega)
    rw [mi_X3_partOf_7.eq_2, if_neg (Int32.not_le.mpr (nI_lt hlt (by omega))), show nI j + 1 = nI (j + 1) from nI_add j 1, b_tu (by omega), p1, Option.bind_some, b_tu (by omega)]
    by_cases h : hea σ j
    · rw [if_neg (fun w => q1.mp w h), if_pos rfl]
      by_cases h2 : con σ j x
      · have e : j = l := lo_un h hl h2 hc
        rw [if_pos ((p2 x (by omega)).mpr h2), if_neg (show ¬ (1 : Int32) = 0 by decide), e]
        exact Or.inr rfl
      · rw [if_neg (fun w => h2 ((p2 x (by omega)).mp w)), if_pos rfl]
        have hne : j ≠ l := fun e => h2 (by rw [e]; exact hc)
        have := ih (j + 1) n (S ||| P) (by omega) (by omega) (by omega) (q2 P p2 h)
        rw [nh_s, h1_y h] at this
        rw [show nI (nh σ j) + 1 = nI (nh σ j + 1) from nI_add _ 1]
        exact this
    · rw [if_pos (q1.mpr h), if_neg (show ¬ (1 : Int32) = 0 by decide)]
      have hne : j ≠ l := fun e => h (by rw [e]; exact hl)
      have := ih (j + 1) n S (by omega) (by omega) (by omega) (seen_no h hs)
      rw [nh_s, h1_n h] at this
      exact this
theorem c_partOf {σ : Sg} {M : ab_M} (hS : Sok σ) (hC : RepC σ M) {x l : Nat} (hx : x < g_nm σ) (hl : hea σ l) (hc : con σ l x) (hlx : l ≤ x) : mi_X3_partOf M (nI x) = some (nI (nh σ l)) := by
  have hnm := hS.nm
  unfold mi_X3_partOf
  rcases c_partOf7 hS hC hx hl hc hlx x 0 ab_F 0 (by omega) (ab_F_lt (by omega)) (by omega) (fun i _ => by
    rw [b_0]
    constructor
    · intro w; exact absurd w (by decide)
    · rintro ⟨z, z1, -⟩; omega) with ⟨a, b, h⟩ | h
  · have h' : mi_X3_partOf_7 ab_F M (nI x) 0 0 0 = _ := h
    rw [h', Option.bind_some]; rfl
  · have h' : mi_X3_partOf_7 ab_F M (nI x) 0 0 0 = _ := h
    rw [h', Option.bind_some]; rfl
