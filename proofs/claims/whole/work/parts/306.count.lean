/-! PURE: how many bits -/
/-- k numbers from j on, together -/
def su (f : Nat → Nat) : Nat → Nat → Nat
  | 0, _ => 0
  | k + 1, j => f j + su f k (j + 1)
theorem fu_su (f : Nat → Nat) : ∀ (k j a : Nat), fu (fun i a => a + f i) k j a = a + su f k j
  | 0, _, a => by simp [fu, su]
  | k + 1, j, a => by
    show fu (fun i a => a + f i) k (j + 1) (a + f j) = a + (f j + su f k (j + 1))
    rw [fu_su f k (j + 1)]
    omega
theorem su_congr {f g : Nat → Nat} : ∀ (k j : Nat), (∀ i, j ≤ i → i < j + k → f i = g i) → su f k j = su g k j
  | 0, _, _ => rfl
  | k + 1, j, h => by
    show f j + su f k (j + 1) = g j + su g k (j + 1)
    rw [h j (Nat.le_refl _) (by omega), su_congr k (j + 1) (fun i h1 h2 => h i (by omega) (by omega))]
theorem su_shift (f : Nat → Nat) : ∀ (k j : Nat), su f k (j + 1) = su (fun i => f (i + 1)) k j
  | 0, _ => rfl
  | k + 1, j => by
    show f (j + 1) + su f k (j + 1 + 1) = f (j + 1) + su (fun i => f (i + 1)) k (j + 1)
    rw [su_shift f k (j + 1)]
theorem su_0 : ∀ (k j : Nat), su (fun _ => 0) k j = 0
  | 0, _ => rfl
  | k + 1, j => by show 0 + su (fun _ => 0) k (j + 1) = 0; rw [su_0 k (j + 1)]
theorem su_app (f : Nat → Nat) : ∀ (k l j : Nat), su f (k + l) j = su f k j + su f l (j + k)
  | 0, l, j => by rw [Nat.zero_add]; show _ = 0 + _; rw [Nat.zero_add]; rfl
  | k + 1, l, j => by
    rw [show k + 1 + l = (k + l) + 1 by omega]
    show f j + su f (k + l) (j + 1) = f j + su f k (j + 1) + su f l (j + (k + 1))
    rw [su_app f k l (j + 1), show j + 1 + k = j + (k + 1) by omega]
    omega
theorem su_le {f g : Nat → Nat} : ∀ (k j : Nat), (∀ i, j ≤ i → i < j + k → f i ≤ g i) → su f k j ≤ su g k j
  | 0, _, _ => Nat.le_refl _
  | k + 1, j, h => by
    show f j + su f k (j + 1) ≤ g j + su g k (j + 1)
    have h1 := h j (Nat.le_refl _) (by omega)
    have h2 := su_le (f := f) (g := g) k (j + 1) (fun i a b => h i (by omega) (by omega))
    omega
theorem su_const (c : Nat) : ∀ (k j : Nat), su (fun _ => c) k j = k * c
  | 0, _ => by simp [su]
  | k + 1, j => by
    show c + su (fun _ => c) k (j + 1) = (k + 1) * c
    rw [su_const c k (j + 1), Nat.add_mul]
    omega
theorem su_zero_iff {f : Nat → Nat} : ∀ (k j : Nat), su f k j = 0 ↔ ∀ i, j ≤ i → i < j + k → f i = 0
  | 0, j => ⟨fun _ i h1 h2 => by omega, fun _ => rfl⟩
  | k + 1, j => by
    show f j + su f k (j + 1) = 0 ↔ _
    rw [Nat.add_eq_zero_iff, su_zero_iff k (j + 1)]
    constructor
    · rintro ⟨h1, h2⟩ i a b
      by_cases e : i = j
      · rw [e]; exact h1
      · exact h2 i (by omega) (by omega)
    · intro h
      exact ⟨h j (Nat.le_refl _) (by omega), fun i a b => h i (by omega) (by omega)⟩
/-- bits of a number, from the lowest on -/
def cb : Nat → Nat → Nat
  | 0, _ => 0
  | k + 1, n => n % 2 + cb k (n / 2)
theorem cb_su : ∀ (k n : Nat), su (fun i => if n.testBit i = true then 1 else 0) k 0 = cb k n
  | 0, _ => rfl
  | k + 1, n => by
    show (if n.testBit 0 = true then 1 else 0) + su (fun i => if n.testBit i = true then 1 else 0) k (0 + 1) = n % 2 + cb k (n / 2)
    rw [su_shift, ← cb_su k (n / 2)]
    congr 1
    · rw [Nat.testBit_zero]
      rcases Nat.mod_two_eq_zero_or_one n with h | h <;> simp [h]
    · refine su_congr k 0 (fun i _ _ => ?_)
      show (if n.testBit (i + 1) = true then 1 else 0) = if (n / 2).testBit i = true then 1 else 0
      rw [Nat.testBit_succ]
theorem cb_gen (k u : Nat) : ∀ (j b : Nat), b < 2 ^ j → cb (j + k) (2 ^ j * u + b) = cb j b + cb k u
  | 0, b, h => by
    have hb : b = 0 := by simpa using h
    subst hb
    rw [Nat.zero_add, Nat.pow_zero, Nat.one_mul, Nat.add_zero]
    show _ = 0 + cb k u
    rw [Nat.zero_add]
  | j + 1, b, h => by
    have h2 : b / 2 < 2 ^ j := by rw [Nat.pow_succ] at h; omega
    have e1 : (2 ^ (j + 1) * u + b) % 2 = b % 2 := by rw [Nat.pow_succ, Nat.mul_comm (2 ^ j) 2, Nat.mul_assoc]; omega
    have e2 : (2 ^ (j + 1) * u + b) / 2 = 2 ^ j * u + b / 2 := by rw [Nat.pow_succ, Nat.mul_comm (2 ^ j) 2, Nat.mul_assoc]; omega
    rw [show j + 1 + k = (j + k) + 1 by omega]
    show (2 ^ (j + 1) * u + b) % 2 + cb (j + k) ((2 ^ (j + 1) * u + b) / 2) = b % 2 + cb j (b / 2) + cb k u
    rw [e1, e2, cb_gen k u j (b / 2) h2]
    omega
theorem cb_8 (k u a : Nat) (ha : a < 256) : cb (k + 8) (256 * u + a) = cb 8 a + cb k u := by
  have h := cb_gen k u 8 a ha
  rw [Nat.add_comm 8 k] at h
  exact h
def mk (m : Nat) : Nat → Nat
  | 0 => 0
  | k + 1 => 256 * mk m k + m
theorem and_sp {a m u v : Nat} (ha : a < 256) (hm : m < 256) : (256 * u + a) &&& (256 * v + m) = 256 * (u &&& v) + (a &&& m) := by
  have h1 : a &&& m < 256 := Nat.lt_of_le_of_lt Nat.and_le_left ha
  apply Nat.eq_of_testBit_eq
  intro i
  rw [Nat.testBit_and, show (256 : Nat) = 2 ^ 8 from rfl, Nat.testBit_two_pow_mul_add u (show a < 2 ^ 8 from ha), Nat.testBit_two_pow_mul_add v (show m < 2 ^ 8 from hm), Nat.testBit_two_pow_mul_add (u &&& v) (show a &&& m < 2 ^ 8 from h1)]
  by_cases h : i < 8
  · rw [if_pos h, if_pos h, if_pos h, Nat.testBit_and]
  · rw [if_neg h, if_neg h, if_neg h, Nat.testBit_and]
def q1 (k n : Nat) : Nat := n - ((n / 2) &&& mk 85 k)
def q2 (k n : Nat) : Nat := (n &&& mk 51 k) + ((n / 4) &&& mk 51 k)
def q3 (k n : Nat) : Nat := (n + n / 16) &&& mk 15 k
theorem q1_dec : ∀ a, a < 256 → ∀ t, t < 2 → (a / 2 + 128 * t) &&& 85 = (a / 2) &&& 85 := by decide +kernel
theorem q2_dec : ∀ a, a < 256 → ∀ t, t < 4 → (a / 4 + 64 * t) &&& 51 = (a / 4) &&& 51 := by decide +kernel
theorem q3_dec : ∀ a, a < 69 → ∀ t, t < 5 → (a + a / 16 + 16 * t) &&& 15 = (a + a / 16) &&& 15 := by decide +kernel
theorem q1_sp (k u a : Nat) (ha : a < 256) : q1 (k + 1) (256 * u + a) = 256 * q1 k u + (a - ((a / 2) &&& 85)) := by
  unfold q1
  have e : (256 * u + a) / 2 = 256 * (u / 2) + (a / 2 + 128 * (u % 2)) := by omega
  show 256 * u + a - ((256 * u + a) / 2 &&& (256 * mk 85 k + 85)) = _
  rw [e, and_sp (by omega) (by decide), q1_dec a ha _ (Nat.mod_lt _ (by decide))]
  have h1 : u / 2 &&& mk 85 k ≤ u / 2 := Nat.and_le_left
  have h2 : a / 2 &&& 85 ≤ a / 2 := Nat.and_le_left
  omega
theorem q2_sp (k u a : Nat) (ha : a < 256) : q2 (k + 1) (256 * u + a) = 256 * q2 k u + ((a &&& 51) + ((a / 4) &&& 51)) := by
  unfold q2
  have e : (256 * u + a) / 4 = 256 * (u / 4) + (a / 4 + 64 * (u % 4)) := by omega
  show ((256 * u + a) &&& (256 * mk 51 k + 51)) + ((256 * u + a) / 4 &&& (256 * mk 51 k + 51)) = _
  rw [e, and_sp ha (by decide), and_sp (by omega) (by decide), q2_dec a ha _ (Nat.mod_lt _ (by decide))]
  omega
theorem q3_sp (k u a : Nat) (ha : a < 69) (hu : u % 16 < 5) : q3 (k + 1) (256 * u + a) = 256 * q3 k u + ((a + a / 16) &&& 15) := by
  unfold q3
  have e : 256 * u + a + (256 * u + a) / 16 = 256 * (u + u / 16) + (a + a / 16 + 16 * (u % 16)) := by omega
  show ((256 * u + a + (256 * u + a) / 16) &&& (256 * mk 15 k + 15)) = _
  rw [e, and_sp (by omega) (by decide), q3_dec a ha _ hu]
theorem by_dec : ∀ a, a < 256 → (fun y => y < 69 ∧ y % 16 < 5 ∧ ((y + y / 16) &&& 15) = cb 8 a ∧ a - ((a / 2) &&& 85) < 256) (((a - ((a / 2) &&& 85)) &&& 51) + (((a - ((a / 2) &&& 85)) / 4) &&& 51)) := by decide +kernel
theorem cb8_le : ∀ a, a < 256 → cb 8 a ≤ 8 := by decide +kernel
theorem nI_ushr {n k : Nat} (hn : n < 2 ^ 32) (hk : k < 32) : ab_ushr (nI n) (nI k) = nI (n / 2 ^ k) := pk_ushrN hn (nI k) k (s_u k hk)
theorem q_all (a b c d : Nat) (ha : a < 256) (hb : b < 256) (hc : c < 256) (hd : d < 256) : ∃ y, y = q2 4 (q1 4 (256 * (256 * (256 * d + c) + b) + a)) ∧ y < 2 ^ 31 ∧ q3 4 y = 256 * (256 * (256 * cb 8 d + cb 8 c) + cb 8 b) + cb 8 a := by
  obtain ⟨a1, a2, a3, a4⟩ := by_dec a ha
  obtain ⟨b1, b2, b3, b4⟩ := by_dec b hb
  obtain ⟨c1, c2, c3, c4⟩ := by_dec c hc
  obtain ⟨d1, d2, d3, d4⟩ := by_dec d hd
  have e0 : d = 256 * 0 + d := by omega
  have f : q2 4 (q1 4 (256 * (256 * (256 * d + c) + b) + a)) = 256 * (256 * (256 * (256 * 0 + (((d - ((d / 2) &&& 85)) &&& 51) + (((d - ((d / 2) &&& 85)) / 4) &&& 51))) + (((c - ((c / 2) &&& 85)) &&& 51) + (((c - ((c / 2) &&& 85)) / 4) &&& 51))) + (((b - ((b / 2) &&& 85)) &&& 51) + (((b - ((b / 2) &&& 85)) / 4) &&& 51))) + (((a - ((a / 2) &&& 85)) &&& 51) + (((a - ((a / 2) &&& 85)) / 4) &&& 51)) := by
    rw [q1_sp 3 _ a ha, q1_sp 2 _ b hb, q1_sp 1 _ c hc]
    have hd1 : q1 1 d = 256 * q1 0 0 + (d - ((d / 2) &&& 85)) := by
      have := q1_sp 0 0 d hd
      rw [show 256 * 0 + d = d by omega] at this
      exact this
    rw [hd1, q2_sp 3 _ _ a4, q2_sp 2 _ _ b4, q2_sp 1 _ _ c4, q2_sp 0 _ _ d4]
    rfl
  refine ⟨_, rfl, ?_, ?_⟩
  · rw [f]
    omega
  · rw [f, q3_sp 3 _ _ a1 (by omega), q3_sp 2 _ _ b1 (by omega), q3_sp 1 _ _ c1 (by omega), q3_sp 0 0 _ d1 (by decide), a3, b3, c3, d3, show q3 0 0 = 0 from rfl, Nat.mul_zero, Nat.zero_add]
theorem fin_ar {A B C E : Nat} (a : A ≤ 8) (b : B ≤ 8) (c : C ≤ 8) (e : E ≤ 8) : ((256 * (256 * (256 * E + C) + B) + A) + (256 * (256 * (256 * E + C) + B) + A) / 256 + ((256 * (256 * (256 * E + C) + B) + A) + (256 * (256 * (256 * E + C) + B) + A) / 256) / 65536) % 64 = A + (B + (C + E)) := by
  have h1 : (256 * (256 * (256 * E + C) + B) + A) / 256 = 256 * (256 * E + C) + B := by omega
  rw [h1]
  have h2 : (256 * (256 * (256 * E + C) + B) + A) + (256 * (256 * E + C) + B) = 65536 * (256 * E + C + E) + (256 * (B + C) + (A + B)) := by omega
  rw [h2]
  have h3 : (65536 * (256 * E + C + E) + (256 * (B + C) + (A + B))) / 65536 = 256 * E + C + E := by omega
  rw [h3]
  omega
theorem bc_1 {n : Nat} (hn : n < 2 ^ 32) : nI n - ((ab_ushr (nI n) 1) &&& 1431655765) = nI (q1 4 n) := by
  have h : ab_ushr (nI n) 1 = nI (n / 2) := by
    have := nI_ushr hn (show 1 < 32 by decide)
    rw [Nat.pow_one] at this
    exact this
  rw [h, show (1431655765 : Int32) = nI (mk 85 4) by decide +kernel, nI_and]
  exact pk_sub (Nat.le_trans Nat.and_le_left (Nat.div_le_self _ _))
theorem bc_2 {n : Nat} (hn : n < 2 ^ 32) : (nI n &&& 858993459) + ((ab_ushr (nI n) 2) &&& 858993459) = nI (q2 4 n) := by
  have h : ab_ushr (nI n) 2 = nI (n / 4) := nI_ushr hn (show 2 < 32 by decide)
  rw [h, show (858993459 : Int32) = nI (mk 51 4) by decide +kernel, nI_and, nI_and, nI_add]
  unfold q2
  rfl
theorem bc_3 {n : Nat} (hn : n < 2 ^ 32) : (nI n + (ab_ushr (nI n) 4)) &&& 252645135 = nI (q3 4 n) := by
  have h : ab_ushr (nI n) 4 = nI (n / 16) := nI_ushr hn (show 4 < 32 by decide)
  rw [h, show (252645135 : Int32) = nI (mk 15 4) by decide +kernel, nI_add, nI_and]
  unfold q3
  rfl
theorem bc_4 {n : Nat} (hn : n < 2 ^ 31) : ((nI n + ab_ushr (nI n) 8) + ab_ushr (nI n + ab_ushr (nI n) 8) 16) &&& 63 = nI ((n + n / 256 + (n + n / 256) / 65536) % 64) := by
  have h : ab_ushr (nI n) 8 = nI (n / 256) := nI_ushr (by omega) (show 8 < 32 by decide)
  rw [h, nI_add]
  have h2 : ab_ushr (nI (n + n / 256)) 16 = nI ((n + n / 256) / 65536) := nI_ushr (by omega) (show 16 < 32 by decide)
  rw [h2, nI_add, show (63 : Int32) = nI (2 ^ 6 - 1) by decide +kernel, nI_and, Nat.and_two_pow_sub_one_eq_mod]
theorem j_bitCountN (M : ab_M) (n : Nat) (hn : n < 2 ^ 32) : mi_J6_bitCount_0f7a4 M (nI n) = some (nI (cb 32 n)) := by
  obtain ⟨a, b, c, d, ha, hb, hc, hd, e⟩ : ∃ a b c d, a < 256 ∧ b < 256 ∧ c < 256 ∧ d < 256 ∧ n = 256 * (256 * (256 * d + c) + b) + a := ⟨n % 256, n / 256 % 256, n / 65536 % 256, n / 16777216, by omega, by omega, by omega, by omega, by omega⟩
  obtain ⟨y, hy, hy1, hy2⟩ := q_all a b c d ha hb hc hd
  rw [← e] at hy
  have hq1 : q1 4 n < 2 ^ 32 := Nat.lt_of_le_of_lt (Nat.sub_le _ _) hn
  have hc32 : cb 32 n = cb 8 a + (cb 8 b + (cb 8 c + cb 8 d)) := by
    have h1 := cb_8 24 (256 * (256 * d + c) + b) a ha
    have h2 := cb_8 16 (256 * d + c) b hb
    have h3 := cb_8 8 d c hc
    rw [← e] at h1
    exact h1.trans (by rw [h2, h3])
  unfold mi_J6_bitCount_0f7a4
  rw [bc_1 hn, bc_2 hq1, ← hy, Option.bind_some, bc_3 (Nat.lt_of_lt_of_le hy1 (by decide)), hy2, Option.bind_some, bc_4 (by
    have la := cb8_le a ha
    have lb := cb8_le b hb
    have lc := cb8_le c hc
    have ld := cb8_le d hd
    omega), fin_ar (cb8_le a ha) (cb8_le b hb) (cb8_le c hc) (cb8_le d hd), hc32]
/-- how many of the bits -/
def cnt (x : Int32) : Nat := su (fun i => if bt x i = true then 1 else 0) 32 0
theorem j_bitCount (M : ab_M) (x : Int32) : mi_J6_bitCount_0f7a4 M x = some (nI (cnt x)) := by
  obtain ⟨n, hn, rfl⟩ : ∃ n, n < 2 ^ 32 ∧ x = nI n := ⟨x.toBitVec.toNat, x.toBitVec.isLt, Int32.toBitVec_inj.mp (by show _ = BitVec.ofNat 32 _; simp)⟩
  rw [j_bitCountN M n hn, ← cb_su]
  refine congrArg (fun z => some (nI z)) (su_congr 32 0 (fun i _ hi => ?_))
  rw [b_nIt (show i < 32 by omega)]
theorem r_countBits (M : ab_M) {n : Nat} (hn : n < 1073741824) : mi_X10_countBits M (nI n) = some (nI (cnt (nI n))) := by
  have hl := lp_up (fun k (a : Nat) x => mi_X10_countBits_4 k M (nI n) (nI a) x) 30 (fun i a => a + if n.testBit i = true then 1 else 0) (fun a => some (nI a, nI 30)) (fun _ _ => True) (fun k j a hj _ => by
    refine ⟨?_, trivial⟩
    show mi_X10_countBits_4 (k + 1) M _ _ _ = _
    rw [mi_X10_countBits_4.eq_2, show (30 : Int32) = nI 30 from rfl, if_neg (nI_ge hj (by decide)), b_ts (by omega), b_nIt (by omega), nI_1]
    congr 1
    by_cases h : n.testBit j = true
    · rw [if_pos h, if_pos h]; exact nI_add a 1
    · rw [if_neg h, if_neg h]; exact nI_add a 0) (fun k a _ => by
    show mi_X10_countBits_4 (k + 1) M _ _ _ = _
    rw [mi_X10_countBits_4.eq_2, show (30 : Int32) = nI 30 from rfl, if_pos (nI_le (Nat.le_refl _) (by decide))]) 30 0 0 ab_F (by omega) (ab_F_lt (by omega)) trivial
  unfold mi_X10_countBits
  rw [show (0 : Int32) = nI 0 from rfl, hl.1, Option.bind_some, fu_su, Nat.zero_add]
  refine congrArg (fun z => some (nI z)) ?_
  have h3 : cnt (nI n) = su (fun i => if bt (nI n) i = true then 1 else 0) 30 0 + su (fun i => if bt (nI n) i = true then 1 else 0) 2 (0 + 30) := su_app _ 30 2 0
  rw [h3]
  have h2 : su (fun i => if bt (nI n) i = true then 1 else 0) 2 (0 + 30) = 0 := by
    rw [su_zero_iff]
    intro i h1 h2
    rw [b_nIt (by omega), if_neg]
    intro h
    have := b_lt hn h
    omega
  rw [h2, Nat.add_zero]
  refine su_congr 30 0 (fun i _ hi => ?_)
  rw [b_nIt (show i < 32 by omega)]
