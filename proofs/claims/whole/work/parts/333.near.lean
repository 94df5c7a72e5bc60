/-! PURE: the model's nearness; how far one gets in steps -/
theorem r_near18 {σ : Sg} {M : ab_M} (hS : Sok σ) (hR : RepR σ M) {a b : Nat} (ha : a < g_nm σ) (hb : b < g_nm σ) : ∀ (k j n : Nat) (z : Int32), j + k = g_nm σ → k < n → (z = 0 ∨ z = 1) → ∃ z', mi_X10_areNear_18 n M (nI a) (nI b) z (nI j) = some (z', nI (g_nm σ)) ∧ (z' = 0 ∨ z' = 1) ∧ (z' = 0 ↔ z = 0 ∧ ∀ c, j ≤ c → c < g_nm σ → ¬ inn σ a b c) := by
  have hnm := hS.nm
  intro k
  induction k with
  | zero =>
    intro j n z hj hn hz
    obtain ⟨n, rfl⟩ : ∃ m, n = m + 1 := ⟨n - 1, by omega⟩
    obtain rfl : j = g_nm σ := by omega
    rw [mi_X10_areNear_18.eq_2, hR.1, if_pos (Int32.le_refl _)]
    exact ⟨z, rfl, hz, fun q => ⟨q, fun c h1 h2 => absurd h2 (by omega)⟩, fun q => q.1⟩
  | succ k ih =>
    intro j n z hj hn hz
    obtain ⟨n, rfl⟩ : ∃ m, n = m + 1 := ⟨n - 1, by omega⟩
    have hlt : j < g_nm σ := by omega
    rw [mi_X10_areNear_18.eq_2, hR.1, if_neg (Int32.not_le.mpr (nI_lt hlt (by omega))), show nI j + 1 = nI (j + 1) from nI_add j 1, r_areIn hS hR ha hb hlt, Option.bind_some]
    rcases hz with rfl | rfl
    · rw [if_pos rfl]
      by_cases h : inn σ a b j
      · rw [if_pos h, if_neg (show ¬ (1 : Int32) = 0 by decide), Option.bind_some]
        obtain ⟨z', g1, g2, g3⟩ := ih (j + 1) n 1 (by omega) (by omega) (Or.inr rfl)
        refine ⟨z', g1, g2, fun q => absurd (g3.mp q).1 (by decide), fun q => absurd h (q.2 j (by omega) hlt)⟩
      · rw [if_neg h, if_pos rfl, Option.bind_some]
        obtain ⟨z', g1, g2, g3⟩ := ih (j + 1) n 0 (by omega) (by omega) (Or.inl rfl)
        refine ⟨z', g1, g2, fun q => ⟨rfl, fun c h1 h2 => ?_⟩, fun q => g3.mpr ⟨rfl, fun c h1 h2 => q.2 c (by omega) h2⟩⟩
        by_cases e : c = j
        · rw [e]; exact h
        · exact (g3.mp q).2 c (by omega) h2
    · rw [if_neg (show ¬ (1 : Int32) = 0 by decide), Option.bind_some]
      obtain ⟨z', g1, g2, g3⟩ := ih (j + 1) n 1 (by omega) (by omega) (Or.inr rfl)
      exact ⟨z', g1, g2, fun q => absurd (g3.mp q).1 (by decide), fun q => absurd q.1 (by decide)⟩
theorem r_areNear {σ : Sg} {M : ab_M} (hS : Sok σ) (hR : RepR σ M) {a b : Nat} (ha : a < g_nm σ) (hb : b < g_nm σ) (hne : a ≠ b) : ∃ z, mi_X10_areNear M (nI a) (nI b) = some z ∧ (z = 0 ↔ ¬ adj σ a b) := by
  have hnm := hS.nm
  have hbl := bar_le hS a b
  unfold mi_X10_areNear
  rw [r_barOf hS hR ha hb, Option.bind_some, nI_pif (by omega), Option.bind_some]
  obtain ⟨z, g1, g2, g3⟩ := r_near18 hS hR ha hb (g_nm σ) 0 ab_F (nI (if 0 < bar σ a b then 1 else 0)) (by omega) (ab_F_lt (by omega)) (by split <;> simp [nI])
  have g1' : mi_X10_areNear_18 ab_F M (nI a) (nI b) (nI (if 0 < bar σ a b then 1 else 0)) 0 = _ := g1
  rw [g1', Option.bind_some, ab_chk_pos g2]
  refine ⟨z, rfl, g3.trans ?_⟩
  unfold adj
  by_cases h : 0 < bar σ a b
  · rw [if_pos h]
    exact ⟨fun q => absurd q.1 (by decide), fun q => absurd ⟨hne, Or.inl h⟩ q⟩
  · rw [if_neg h]
    constructor
    · rintro ⟨-, q⟩ ⟨-, w⟩
      rcases w with w | ⟨c, hc, w⟩
      · exact h w
      · exact q c (by omega) hc w
    · intro q
      exact ⟨rfl, fun c _ hc w => q ⟨hne, Or.inr ⟨c, hc, w⟩⟩⟩
/-- from a in k steps -/
def Dk (σ : Sg) (a : Nat) : Nat → Nat → Prop
  | 0, x => x = a
  | k + 1, x => Dk σ a k x ∨ (x < g_nm σ ∧ ∃ y, y < g_nm σ ∧ Dk σ a k y ∧ adj σ y x)
theorem Dk_lt {σ : Sg} {a : Nat} (ha : a < g_nm σ) : ∀ k x, Dk σ a k x → x < g_nm σ
  | 0, x, h => by rw [show x = a from h]; exact ha
  | k + 1, x, h => h.elim (Dk_lt ha k x) (fun q => q.1)
theorem Dk_mono {σ : Sg} {a : Nat} (k : Nat) : ∀ j x, Dk σ a k x → Dk σ a (k + j) x
  | 0, _, h => h
  | j + 1, x, h => Or.inl (Dk_mono k j x h)
theorem Dk_add {σ : Sg} {a b : Nat} {k : Nat} (h : Dk σ a k b) : ∀ j x, Dk σ b j x → Dk σ a (k + j) x
  | 0, x, h2 => by rw [show x = b from h2]; exact h
  | j + 1, x, h2 => h2.elim (fun q => Or.inl (Dk_add h j x q)) (fun ⟨q1, y, q2, q3, q4⟩ => Or.inr ⟨q1, y, q2, Dk_add h j y q3, q4⟩)
theorem Dk_one {σ : Sg} {a b : Nat} (ha : a < g_nm σ) (hb : b < g_nm σ) (h : adj σ a b) : Dk σ a 1 b := Or.inr ⟨hb, a, ha, rfl, h⟩
/-- in one part -/
def con (σ : Sg) (a x : Nat) : Prop := ∃ k, Dk σ a k x
theorem con_refl (σ : Sg) (a : Nat) : con σ a a := ⟨0, rfl⟩
theorem con_lt {σ : Sg} {a x : Nat} (ha : a < g_nm σ) (h : con σ a x) : x < g_nm σ := h.elim (fun k q => Dk_lt ha k x q)
theorem con_trans {σ : Sg} {a b c : Nat} (h1 : con σ a b) (h2 : con σ b c) : con σ a c := by
  obtain ⟨k, h1⟩ := h1
  obtain ⟨j, h2⟩ := h2
  exact ⟨k + j, Dk_add h1 j c h2⟩
theorem con_one {σ : Sg} {a b : Nat} (ha : a < g_nm σ) (hb : b < g_nm σ) (h : adj σ a b) : con σ a b := ⟨1, Dk_one ha hb h⟩
theorem con_symm {σ : Sg} {a : Nat} (ha : a < g_nm σ) : ∀ k x, Dk σ a k x → con σ x a
  | 0, x, h => by rw [show x = a from h]; exact con_refl σ a
  | k + 1, x, h => h.elim (con_symm ha k x) (fun ⟨q1, y, q2, q3, q4⟩ => con_trans (con_one q1 q2 ((adj_comm σ y x).mp q4)) (con_symm ha k y q3))
theorem con_comm {σ : Sg} {a x : Nat} (ha : a < g_nm σ) (h : con σ a x) : con σ x a := h.elim (fun k q => con_symm ha k x q)
/-- after as many steps as there are masts nothing new comes -/
theorem Dk_stay {σ : Sg} {a k : Nat} (h : ∀ x, Dk σ a (k + 1) x → Dk σ a k x) : ∀ j x, Dk σ a (k + j) x → Dk σ a k x
  | 0, _, q => q
  | j + 1, x, q => by
    rcases q with q | ⟨q1, y, q2, q3, q4⟩
    · exact Dk_stay h j x q
    · exact h x (Or.inr ⟨q1, y, q2, Dk_stay h j y q3, q4⟩)
noncomputable def Dc (σ : Sg) (a k : Nat) : Nat := su (fun x => @ite _ (Dk σ a k x) (Classical.propDecidable _) 1 0) (g_nm σ) 0
theorem su_lt {f g : Nat → Nat} : ∀ (k j i : Nat), (∀ i, j ≤ i → i < j + k → f i ≤ g i) → j ≤ i → i < j + k → f i < g i → su f k j < su g k j
  | 0, j, i, _, h1, h2, _ => by omega
  | k + 1, j, i, h, h1, h2, h3 => by
    show f j + su f k (j + 1) < g j + su g k (j + 1)
    have hj := h j (by omega) (by omega)
    by_cases e : i = j
    · have := su_le (f := f) (g := g) k (j + 1) (fun i q1 q2 => h i (by omega) (by omega))
      rw [e] at h3
      omega
    · have := su_lt k (j + 1) i (fun i q1 q2 => h i (by omega) (by omega)) (by omega) (by omega) h3
      omega
theorem Dc_grow {σ : Sg} {a : Nat} (ha : a < g_nm σ) : ∀ k, (∃ j, j ≤ k ∧ ∀ x, Dk σ a (j + 1) x → Dk σ a j x) ∨ k + 1 ≤ Dc σ a k := by
  have le : ∀ k i, (@ite _ (Dk σ a k i) (Classical.propDecidable _) 1 0 : Nat) ≤ @ite _ (Dk σ a (k + 1) i) (Classical.propDecidable _) 1 0 := fun k i => by
    by_cases h : Dk σ a k i
    · rw [if_pos h, if_pos (show Dk σ a (k + 1) i from Or.inl h)]; exact Nat.le_refl _
    · rw [if_neg h]; exact Nat.zero_le _
  intro k
  induction k with
  | zero =>
    right
    have h := su_lt (f := fun _ => 0) (g := fun x => @ite _ (Dk σ a 0 x) (Classical.propDecidable _) 1 0) (g_nm σ) 0 a (fun _ _ _ => Nat.zero_le _) (by omega) (by omega) (by
      show 0 < @ite _ (Dk σ a 0 a) (Classical.propDecidable _) 1 0
      rw [if_pos (show Dk σ a 0 a from rfl)]; exact Nat.one_pos)
    rw [su_0] at h
    exact h
  | succ k ih =>
    rcases ih with ⟨j, h1, h2⟩ | ih
    · exact Or.inl ⟨j, by omega, h2⟩
    · by_cases hs : ∀ x, Dk σ a (k + 1) x → Dk σ a k x
      · exact Or.inl ⟨k, by omega, hs⟩
      · right
        obtain ⟨x, hx⟩ := Classical.not_forall.mp hs
        obtain ⟨h1, h2⟩ := Classical.not_imp.mp hx
        have := su_lt (f := fun x => @ite _ (Dk σ a k x) (Classical.propDecidable _) 1 0) (g := fun x => @ite _ (Dk σ a (k + 1) x) (Classical.propDecidable _) 1 0) (g_nm σ) 0 x (fun i _ _ => le k i) (by omega) (by have := Dk_lt ha _ _ h1; omega) (by
          show @ite _ (Dk σ a k x) (Classical.propDecidable _) 1 0 < @ite _ (Dk σ a (k + 1) x) (Classical.propDecidable _) 1 0
          rw [if_pos h1, if_neg h2]; exact Nat.one_pos)
        have h3 : Dc σ a k < Dc σ a (k + 1) := this
        omega
theorem con_nm {σ : Sg} {a x : Nat} (ha : a < g_nm σ) (h : con σ a x) : Dk σ a (g_nm σ) x := by
  have hc : Dc σ a (g_nm σ) ≤ g_nm σ := by
    have := su_le (f := fun x => @ite _ (Dk σ a (g_nm σ) x) (Classical.propDecidable _) 1 0) (g := fun _ => 1) (g_nm σ) 0 (fun i _ _ => by
      show @ite _ (Dk σ a (g_nm σ) i) (Classical.propDecidable _) 1 0 ≤ 1
      by_cases h : Dk σ a (g_nm σ) i
      · rw [if_pos h]; exact Nat.le_refl _
      · rw [if_neg h]; exact Nat.zero_le _)
    rw [su_const] at this
    unfold Dc
    omega
  rcases Dc_grow ha (g_nm σ) with ⟨j, h1, h2⟩ | h3
  · obtain ⟨k, hk⟩ := h
    have : Dk σ a j x := by
      by_cases e : k ≤ j
      · have := Dk_mono k (j - k) x hk
        rw [show k + (j - k) = j by omega] at this
        exact this
      · exact Dk_stay h2 (k - j) x (by rw [show j + (k - j) = k by omega]; exact hk)
    have := Dk_mono j (g_nm σ - j) x this
    rw [show j + (g_nm σ - j) = g_nm σ by omega] at this
    exact this
  · omega
