/-! PURE: bits (the first family is kit/laws/BITS.to-paste's) -/
def bt (x : Int32) (i : Nat) : Bool := x.toBitVec.getLsbD i
theorem b_ext {x y : Int32} (h : ∀ i, i < 32 → bt x i = bt y i) : x = y := Int32.toBitVec_inj.mp (BitVec.eq_of_getLsbD_eq (fun i hi => h i hi))
theorem b_or (x y : Int32) (i : Nat) : bt (x ||| y) i = (bt x i || bt y i) := by unfold bt; rw [Int32.toBitVec_or, BitVec.getLsbD_or]
theorem b_and (x y : Int32) (i : Nat) : bt (x &&& y) i = (bt x i && bt y i) := by unfold bt; rw [Int32.toBitVec_and, BitVec.getLsbD_and]
theorem b_xor (x y : Int32) (i : Nat) : bt (x ^^^ y) i = (bt x i ^^ bt y i) := by unfold bt; rw [Int32.toBitVec_xor, BitVec.getLsbD_xor]
theorem b_big {x : Int32} {i : Nat} (h : 32 ≤ i) : bt x i = false := BitVec.getLsbD_of_ge _ _ h
theorem b_m1 : ∀ i, i < 32 → bt (-1) i = true := by decide +kernel
theorem b_0 (i : Nat) : bt 0 i = false := BitVec.getLsbD_zero
theorem s_l : ∀ n, n < 32 → ((nI n &&& 31).toBitVec.smod 32).toNat = n := by decide +kernel
theorem s_u : ∀ n, n < 32 → (((nI n).toUInt32 &&& Int32.toUInt32 31).toBitVec % 32).toNat = n := by decide +kernel
theorem b_shl (n : Nat) (hn : n < 32) (x : Int32) {i : Nat} (hi : i < 32) : bt (x <<< (nI n &&& 31)) i = (decide (n ≤ i) && bt x (i - n)) := by
  unfold bt
  rw [Int32.toBitVec_shiftLeft]
  show (x.toBitVec <<< ((nI n &&& 31).toBitVec.smod 32).toNat).getLsbD i = _
  rw [s_l n hn, BitVec.getLsbD_shiftLeft]
  rcases Nat.lt_or_ge i n with h | h
  · simp [h, Nat.not_le.mpr h]
  · simp [hi, h, Nat.not_lt.mpr h]
theorem b_ushr (n : Nat) (hn : n < 32) (x : Int32) (i : Nat) : bt ((x.toUInt32 >>> ((nI n).toUInt32 &&& Int32.toUInt32 31)).toInt32) i = bt x (n + i) := by
  show (x.toUInt32 >>> ((nI n).toUInt32 &&& Int32.toUInt32 31)).toBitVec.getLsbD i = x.toUInt32.toBitVec.getLsbD (n + i)
  rw [UInt32.toBitVec_shiftRight]
  show (x.toUInt32.toBitVec >>> (((nI n).toUInt32 &&& Int32.toUInt32 31).toBitVec % 32).toNat).getLsbD i = _
  rw [s_u n hn, BitVec.getLsbD_ushiftRight]
theorem b_sshr (n : Nat) (hn : n < 32) (x : Int32) {i : Nat} (hi : i < 32) : bt (x >>> (nI n &&& 31)) i = if n + i < 32 then bt x (n + i) else bt x 31 := by
  unfold bt
  rw [Int32.toBitVec_shiftRight]
  show (x.toBitVec.sshiftRight ((nI n &&& 31).toBitVec.smod 32).toNat).getLsbD i = _
  rw [s_l n hn, BitVec.getLsbD_sshiftRight, BitVec.msb_eq_getLsbD_last]
  simp [hi]
theorem b_shl8 (x : Int32) {i : Nat} (hi : i < 32) : bt (x <<< ((8 : Int32) &&& 31)) i = (decide (8 ≤ i) && bt x (i - 8)) := b_shl 8 (by omega) x hi
theorem b_shl16 (x : Int32) {i : Nat} (hi : i < 32) : bt (x <<< ((16 : Int32) &&& 31)) i = (decide (16 ≤ i) && bt x (i - 16)) := b_shl 16 (by omega) x hi
theorem b_shl24 (x : Int32) {i : Nat} (hi : i < 32) : bt (x <<< ((24 : Int32) &&& 31)) i = (decide (24 ≤ i) && bt x (i - 24)) := b_shl 24 (by omega) x hi
theorem b_nI (n i : Nat) : bt (nI n) i = (decide (i < 32) && n.testBit i) := by
  show (BitVec.ofNat 32 n).getLsbD i = _
  rw [BitVec.getLsbD_ofNat]
theorem b_nIt {n i : Nat} (h : i < 32) : bt (nI n) i = n.testBit i := by rw [b_nI, decide_eq_true h, Bool.true_and]
theorem b_1 (i : Nat) : bt 1 i = decide (i = 0) := by
  rcases Nat.lt_or_ge i 32 with h | h
  · exact (by decide +kernel : ∀ i, i < 32 → bt 1 i = decide (i = 0)) i h
  · rw [b_big h, decide_eq_false (by omega)]
theorem b_and1 (x : Int32) : x &&& 1 = if bt x 0 = true then 1 else 0 := by
  refine b_ext (fun i hi => ?_)
  rw [b_and, b_1]
  by_cases h : i = 0
  · subst h
    by_cases hb : bt x 0 = true
    · rw [hb, if_pos rfl, b_1]; rfl
    · rw [if_neg hb, b_0]; simpa using hb
  · rw [decide_eq_false h, Bool.and_false]
    split
    · rw [b_1, decide_eq_false h]
    · rw [b_0]
theorem b_tu {j : Nat} (hj : j < 32) (x : Int32) : (ab_ushr x (nI j)) &&& 1 = if bt x j = true then 1 else 0 := by
  rw [b_and1, b_ushr j hj, Nat.add_zero]
theorem b_ts {j : Nat} (hj : j < 32) (x : Int32) : (x >>> (nI j &&& 31)) &&& 1 = if bt x j = true then 1 else 0 := by
  rw [b_and1, b_sshr j hj x (by omega), Nat.add_zero, if_pos hj]
theorem b_i0 {c : Prop} [Decidable c] : ((if c then (1 : Int32) else 0) = 0) ↔ ¬ c := by
  by_cases h : c
  · simp [h]
  · simp [h]
theorem b_i1 {c : Prop} [Decidable c] : ((if c then (1 : Int32) else 0) = 1) ↔ c := by
  by_cases h : c
  · simp [h]
  · simp [h]
theorem b_one {j : Nat} (hj : j < 32) {i : Nat} (hi : i < 32) : bt ((1 : Int32) <<< (nI j &&& 31)) i = decide (i = j) := by
  rw [b_shl j hj 1 hi, b_1]
  by_cases h : i = j
  · subst h; simp
  · by_cases h2 : j ≤ i
    · simp [h, h2]; omega
    · simp [h, h2]
theorem b_oneN {j : Nat} (hj : j < 31) : (1 : Int32) <<< (nI j &&& 31) = nI (2 ^ j) := by
  refine b_ext (fun i hi => ?_)
  rw [b_one (by omega) hi, b_nIt hi, Nat.testBit_two_pow]
  exact decide_eq_decide.mpr eq_comm
theorem b_not (x : Int32) {i : Nat} (hi : i < 32) : bt (x ^^^ (-1)) i = !bt x i := by
  rw [b_xor, b_m1 i hi]
  cases bt x i <;> rfl
theorem nI_or (a b : Nat) : nI a ||| nI b = nI (a ||| b) := b_ext (fun i hi => by rw [b_or, b_nIt hi, b_nIt hi, b_nIt hi, Nat.testBit_or])
theorem nI_and (a b : Nat) : nI a &&& nI b = nI (a &&& b) := b_ext (fun i hi => by rw [b_and, b_nIt hi, b_nIt hi, b_nIt hi, Nat.testBit_and])
theorem b_lt {n i : Nat} (h : n < 1073741824) (hi : n.testBit i = true) : i < 30 := by
  rcases Nat.lt_or_ge i 30 with h1 | h1
  · exact h1
  · rw [Nat.testBit_lt_two_pow (Nat.lt_of_lt_of_le h (show (1073741824 : Nat) ≤ 2 ^ i from Nat.le_trans (by decide : (1073741824 : Nat) ≤ 2 ^ 30) (Nat.pow_le_pow_right (by decide) h1)))] at hi
    cases hi
theorem b_all (i : Nat) : bt 1073741823 i = decide (i < 30) := by
  rcases Nat.lt_or_ge i 32 with h | h
  · exact (by decide +kernel : ∀ i, i < 32 → bt 1073741823 i = decide (i < 30)) i h
  · rw [b_big h, decide_eq_false (by omega)]
/-! signed differences -/
theorem i_lt (a b : Int32) : a < b ↔ a.toInt < b.toInt := Int32.lt_iff_toInt_lt
theorem i_le (a b : Int32) : a ≤ b ↔ a.toInt ≤ b.toInt := Int32.le_iff_toInt_le
theorem i_eq (a b : Int32) : a = b ↔ a.toInt = b.toInt := Int32.toInt_inj.symm
theorem nI_abs {a b : Nat} (ha : a < 2 ^ 30) (hb : b < 2 ^ 30) : ab_abs (nI a - nI b) = nI (dst a b) := by
  unfold ab_abs dst
  rcases Nat.le_total b a with h | h
  · rw [pk_sub h, if_pos (nI_pos' (by omega))]
    congr 1
    omega
  · by_cases e : a = b
    · subst e
      rw [pk_sub (Nat.le_refl _), if_pos (nI_pos' (by omega))]
      congr 1
      omega
    · rw [if_neg, nI_sub_neg h]
      · rw [Int32.sub_eq_add_neg, Int32.neg_neg, Int32.zero_add]
        congr 1
        omega
      · rw [i_le, pk_sub_toInt ha hb]
        show ¬ (0 : Int) ≤ _
        omega
theorem nI_m1 {n : Nat} (h : 0 < n) : nI n - 1 = nI (n - 1) := by
  rw [show (1 : Int32) = nI 1 from rfl, pk_sub h]
theorem nI_m1_neg {n : Nat} (hn : n < 2 ^ 30) : nI n - 1 < 0 ↔ n = 0 := by
  rw [show (1 : Int32) = nI 1 from rfl, i_lt, pk_sub_toInt hn (by decide)]
  show (n : Int) - 1 < 0 ↔ _
  omega
theorem nI_m1_eq {n c : Nat} (hn : n < 2 ^ 30) (hc : c < 2 ^ 30) : nI n - 1 = nI c ↔ n = c + 1 := by
  rw [show (1 : Int32) = nI 1 from rfl, i_eq, pk_sub_toInt hn (by decide), nI_toInt (by omega)]
  omega
theorem nI_m1_lt {n c : Nat} (hn : n < 2 ^ 30) (hc : c < 2 ^ 30) : nI n - 1 < nI c ↔ n < c + 1 := by
  rw [show (1 : Int32) = nI 1 from rfl, i_lt, pk_sub_toInt hn (by decide), nI_toInt (by omega)]
  omega
theorem nI_m1_m1 {n : Nat} (hn : n < 2 ^ 30) : nI n - 1 = -1 ↔ n = 0 := by
  rw [show (1 : Int32) = nI 1 from rfl, i_eq, pk_sub_toInt hn (by decide)]
  show (n : Int) - 1 = -1 ↔ _
  omega
theorem nI_dm (x l : Nat) : nI x - (nI l - 1) = nI (x + 1) - nI l := by
  rw [← nI_1, Int32.sub_eq_add_neg, Int32.neg_sub, Int32.sub_eq_add_neg 1, ← Int32.add_assoc, Int32.sub_eq_add_neg]
