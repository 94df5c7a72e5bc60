/-! PURE: arguments of the questions; the state's rows; the bars are measured anew -/
theorem b_if {α : Type} {c : Prop} {d : Decidable c} {f g : Option α} : ((some (if c then (1 : Int32) else 0)).bind fun q => if q = 0 then f else g) = if c then g else f := by
  by_cases h : c
  · rw [if_pos h, if_pos h, Option.bind_some, if_neg (by decide)]
  · rw [if_neg h, if_neg h, Option.bind_some, if_pos rfl]
theorem nI_div (n d : Nat) (hn : n < 2 ^ 31) (hd : d < 2 ^ 31) : nI n / nI d = nI (n / d) := by
  have h1 : n / d ≤ n := Nat.div_le_self n d
  rw [i_eq, Int32.toInt_div, nI_toInt hn, nI_toInt hd, nI_toInt (by omega), ← Int.ofNat_tdiv]
  have h2 : 0 ≤ n / d := Nat.zero_le _
  generalize n / d = q at h1 h2 ⊢
  rw [Int.bmod_eq_of_le] <;> omega
theorem nI_rem (n d : Nat) (hn : n < 2 ^ 31) (h0 : 0 < d) (hd : d < 2 ^ 31) : ab_rem (nI n) (nI d) = nI (n % d) := pk_rem hn h0 hd
theorem neg_or (x : Int32) : x < 0 ∨ ∃ n, n < 2 ^ 31 ∧ x = nI n := by
  by_cases h : x < 0
  · exact Or.inl h
  · right
    have h0 : 0 ≤ x.toInt := (i_le _ _).mp (Int32.not_lt.mp h)
    have h1 := Int32.toInt_lt x
    refine ⟨x.toInt.toNat, by omega, ?_⟩
    rw [i_eq, nI_toInt (by omega)]
    omega
theorem r_isSet (M : ab_M) (x : Int32) : mi_X10_isSet M x = some (if 0 ≤ x ∧ x ≤ 1073741823 then 1 else 0) := by
  unfold mi_X10_isSet
  by_cases h1 : x < 0
  · rw [if_pos h1, if_neg (fun q => Int32.not_le.mpr h1 q.1)]
  · rw [if_neg h1]
    by_cases h2 : 1073741824 ≤ x
    · rw [if_pos h2, if_neg]
      intro q
      have a := (i_le _ _).mp h2
      have b := (i_le _ _).mp q.2
      have c : (1073741824 : Int32).toInt = 1073741824 := rfl
      have d : (1073741823 : Int32).toInt = 1073741823 := rfl
      omega
    · have hh : x ≤ 1073741823 := by
        have a : ¬ ((1073741824 : Int32).toInt ≤ x.toInt) := fun q => h2 ((i_le _ _).mpr q)
        rw [i_le]
        have c : (1073741824 : Int32).toInt = 1073741824 := rfl
        have d : (1073741823 : Int32).toInt = 1073741823 := rfl
        omega
      rw [if_neg h2, if_pos ⟨Int32.not_lt.mp h1, hh⟩]
/-- a place -/
def plc (x : Int32) : Prop := ∃ a b, a ≤ 60 ∧ b ≤ 60 ∧ x = nI (64 * a + b)
theorem plc_div {a b : Nat} (ha : a ≤ 60) (hb : b ≤ 60) : nI (64 * a + b) / 64 = nI a ∧ ab_rem (nI (64 * a + b)) 64 = nI b := by
  constructor
  · exact (nI_div _ 64 (by omega) (by decide)).trans (congrArg nI (by omega))
  · exact (nI_rem _ 64 (by omega) (by decide) (by decide)).trans (congrArg nI (by omega))
theorem c_isPlace (M : ab_M) (x : Int32) : mi_X9_isPlace M x = some 0 ∧ mi_X10_isPlace M x = some 0 ∧ ¬ plc x ∨ mi_X9_isPlace M x = some 1 ∧ mi_X10_isPlace M x = some 1 ∧ plc x := by
  unfold mi_X9_isPlace mi_X10_isPlace
  rcases neg_or x with h | ⟨n, hn, rfl⟩
  · left
    rw [if_pos h, if_pos h]
    refine ⟨rfl, rfl, ?_⟩
    rintro ⟨a, b, ha, hb, rfl⟩
    exact absurd h (Int32.not_lt.mpr (nI_pos' (by omega)))
  · have h0 : ¬ nI n < 0 := Int32.not_lt.mpr (nI_pos' hn)
    have e1 : nI n / 64 = nI (n / 64) := nI_div n 64 hn (by decide)
    have e2 : ab_rem (nI n) 64 = nI (n % 64) := nI_rem n 64 hn (by decide) (by decide)
    have hd : n / 64 < 2 ^ 31 := by omega
    have hm : n % 64 < 2 ^ 31 := by omega
    rw [if_neg h0, if_neg h0, e1, e2]
    have i1 : mi_X10_isIn M (nI (n / 64)).toInt64 0 60 = some (if 0 ≤ nI (n / 64) ∧ nI (n / 64) ≤ 60 then 1 else 0) := r_isIn M (nI (n / 64)) 0 60
    have i2 : mi_X10_isIn M (nI (n % 64)).toInt64 0 60 = some (if 0 ≤ nI (n % 64) ∧ nI (n % 64) ≤ 60 then 1 else 0) := r_isIn M (nI (n % 64)) 0 60
    rw [i1, i2, b_if, b_if]
    by_cases q1 : n / 64 ≤ 60
    · have p1 : nI (n / 64) ≤ 60 := nI_le q1 (by decide)
      rw [if_neg (Int32.not_lt.mpr p1), if_pos (show 0 ≤ nI (n / 64) ∧ nI (n / 64) ≤ 60 from ⟨nI_pos' hd, p1⟩)]
      by_cases q2 : n % 64 ≤ 60
      · have p2 : nI (n % 64) ≤ 60 := nI_le q2 (by decide)
        rw [if_neg (Int32.not_lt.mpr p2), if_pos (show 0 ≤ nI (n % 64) ∧ nI (n % 64) ≤ 60 from ⟨nI_pos' hm, p2⟩)]
        exact Or.inr ⟨rfl, rfl, n / 64, n % 64, q1, q2, congrArg nI (by omega)⟩
      · have p2 : (60 : Int32) < nI (n % 64) := nI_lt (show 60 < n % 64 by omega) hm
        rw [if_pos p2, if_neg (show ¬ (0 ≤ nI (n % 64) ∧ nI (n % 64) ≤ 60) from fun q => Int32.not_le.mpr p2 q.2)]
        refine Or.inl ⟨rfl, rfl, ?_⟩
        rintro ⟨a, b, ha, hb, e⟩
        have := (nI_eq hn (by omega)).mp e
        omega
    · have p1 : (60 : Int32) < nI (n / 64) := nI_lt (show 60 < n / 64 by omega) hd
      rw [if_pos p1, if_neg (show ¬ (0 ≤ nI (n / 64) ∧ nI (n / 64) ≤ 60) from fun q => Int32.not_le.mpr p1 q.2)]
      refine Or.inl ⟨rfl, rfl, ?_⟩
      rintro ⟨a, b, ha, hb, e⟩
      have := (nI_eq hn (by omega)).mp e
      omega
theorem isPlace_any (M M' : ab_M) (x : Int32) : mi_X10_isPlace M x = mi_X10_isPlace M' x := rfl
/-- from a number below -/
theorem ix_rng {x : Int32} {a b : Nat} (hb : b < 2 ^ 30) (h : nI a ≤ x ∧ x ≤ nI b) (ha : a ≤ b) : ∃ j, a ≤ j ∧ j ≤ b ∧ x = nI j := by
  have h1 := (i_le _ _).mp h.1
  have h2 := (i_le _ _).mp h.2
  rw [nI_toInt (by omega)] at h1 h2
  refine ⟨x.toInt.toNat, by omega, by omega, ?_⟩
  rw [i_eq, nI_toInt (by omega)]
  omega
theorem ix_m1 {x : Int32} {b : Nat} (hb : b < 2 ^ 30) (h : -1 ≤ x ∧ x ≤ nI b) : ∃ j, j ≤ b + 1 ∧ x = nI j - 1 := by
  have h1 := (i_le _ _).mp h.1
  have h2 := (i_le _ _).mp h.2
  have e : (-1 : Int32).toInt = -1 := rfl
  rw [nI_toInt (by omega)] at h2
  rw [e] at h1
  refine ⟨(x.toInt + 1).toNat, by omega, ?_⟩
  have e2 : nI (x.toInt + 1).toNat = x + 1 := by
    rw [i_eq, nI_toInt (by omega), Int32.toInt_add, show (1 : Int32).toInt = 1 from rfl, Int.bmod_eq_of_le] <;> omega
  rw [e2, Int32.add_sub_cancel]
/-- a row of the state is another -/
def sgr (σ : Sg) (k : Nat) (f : Nat → Nat) : Sg := fun a => if a = k then f else σ a
/-- one number of a row -/
def fup (f : Nat → Nat) (j v : Nat) : Nat → Nat := fun i => if i = j then v else f i
theorem fup_eq {f : Nat → Nat} {j v : Nat} : fup f j v j = v := if_pos rfl
theorem fup_ne {f : Nat → Nat} {i j v : Nat} (h : i ≠ j) : fup f j v i = f i := if_neg h
