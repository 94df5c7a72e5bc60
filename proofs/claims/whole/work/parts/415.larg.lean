/-! the law: reading of the script, the switch -/
section ABlarg
variable {b L : Nat} {xs : Nat → Int32} {l : Launch} {D : va_G} {ac : Nat → ClassId} {k n : Nat} {sh : ab_H} {pc : Nat} {lv : List (Option Value)} {st : List Value} {M : ab_M} {i : Nat}
abbrev lvL (i : Nat) : List (Option Value) := [some (.ref 97), some (.ref 0), some (.ref 69), some (.ref 96), some (.int (nI i)), none, none, none]
theorem el_arg {z : Int} (j : Nat) (d0 : decode cL_law pc = .ok (.aload_n 0, 1)) (d1 : decode cL_law (pc + 1) = .ok (.iload 4, 2)) (d3 : decode cL_law (pc + 3) = .ok (.iconst z, 1)) (d4 : decode cL_law (pc + 4) = .ok (.iadd, 1)) (d5 : decode cL_law (pc + 5) = .ok (.iaload, 1)) (hz : Int32.ofInt z = nI j) (h0 : lv[0]? = some (some (.ref 97))) (h4 : lv[4]? = some (some (.int (nI i)))) (hj : j < 6) (hi : i + 6 ≤ L) (hL : L ≤ 3072) (kk : EL b L xs l D ac k n sh (pc + 6) lv (.int (xs (i + j)) :: st) M) : EL b L xs l D ac k n sh pc lv st M := by
  refine eg_aload_n d0 h0 ?_
  refine eg_iload d1 h4 ?_
  refine eg_iconst d3 hz ?_
  refine eg_iadd d4 ?_
  rw [nI_add]
  refine el_sld (vp_in_nI (by omega) (by omega)) d5 ?_
  rw [nI_clamp (by omega)]
  exact kk
theorem lw_gt (hi : i ≤ 3072) (hL : L ≤ 3072) (h : ¬ (Int32.ofNat L - 6 < nI i)) : i + 6 ≤ L := by
  by_cases q : 6 ≤ L
  · have e : Int32.ofNat L - 6 = nI (L - 6) := pk_sub (a := L) (b := 6) q
    rw [e] at h
    by_cases q2 : L - 6 < i
    · exact absurd (nI_lt q2 (by omega)) h
    · omega
  · refine absurd ?_ h
    have e : Int32.ofNat L - 6 = -(nI (6 - L)) := nI_sub_neg (a := L) (b := 6) (by omega)
    rw [e]
    have : L = 0 ∨ L = 1 ∨ L = 2 ∨ L = 3 ∨ L = 4 ∨ L = 5 := by omega
    refine Int32.lt_iff_toInt_lt.mpr ?_
    rw [nI_toInt (by omega)]
    rcases this with rfl | rfl | rfl | rfl | rfl | rfl
    · exact Int.lt_of_lt_of_le (show (-(nI (6 - 0))).toInt < 0 by decide) (Int.natCast_nonneg i)
    · exact Int.lt_of_lt_of_le (show (-(nI (6 - 1))).toInt < 0 by decide) (Int.natCast_nonneg i)
    · exact Int.lt_of_lt_of_le (show (-(nI (6 - 2))).toInt < 0 by decide) (Int.natCast_nonneg i)
    · exact Int.lt_of_lt_of_le (show (-(nI (6 - 3))).toInt < 0 by decide) (Int.natCast_nonneg i)
    · exact Int.lt_of_lt_of_le (show (-(nI (6 - 4))).toInt < 0 by decide) (Int.natCast_nonneg i)
    · exact Int.lt_of_lt_of_le (show (-(nI (6 - 5))).toInt < 0 by decide) (Int.natCast_nonneg i)
def law_of : Array Int := #[164, 225, 262, 299, 336, 373, 422, 459, 520, 533, 570, 607, 644, 669, 694, 707, 720, 745, 782, 807, 820, 833, 846, 871, 896, 921, 934, 959, 972, 985, 1010, 1047, 1096, 1145, 1212, 1285, 1310]
def law_tg : List Nat := [204, 265, 302, 339, 376, 413, 462, 499, 560, 573, 610, 647, 684, 709, 734, 747, 760, 785, 822, 847, 860, 873, 886, 911, 936, 961, 974, 999, 1012, 1025, 1050, 1087, 1136, 1185, 1252, 1325, 1350]
theorem law_ts : ∀ j : Nat, j < 37 → ∃ t, t ∈ law_tg ∧ law_of[j]? = some ((t : Int) - 40) := by
  intro j hj
  refine ⟨law_tg.getD j 0, ?_, ?_⟩
  · revert j
    decide +kernel
  · revert j
    decide +kernel
theorem el_switch {x : Int32} (hd : decode cL_law 40 = .ok (.tableswitch 1335 0 36 law_of, 164)) (h0 : EL b L xs l D ac k n sh 1375 lv st M) (ht : ∀ t ∈ law_tg, EL b L xs l D ac k n sh t lv st M) : EL b L xs l D ac k n sh 40 lv (.int x :: st) M := by
  by_cases h : x.toInt < 0 ∨ 36 < x.toInt
  · exact eg_tableOut (t := 1375) hd h (by decide) h0
  · have h1 : ¬ x.toInt < 0 := fun q => h (Or.inl q)
    have h2 : ¬ 36 < x.toInt := fun q => h (Or.inr q)
    obtain ⟨t, m1, m2⟩ := law_ts (x.toInt - 0).toNat (by omega)
    exact eg_tableIn (t := t) hd h1 h2 m2 (by omega) (ht t m1)
theorem el_back (hi : i + 6 ≤ L) (hL : L ≤ 3072) (kk : EL b L xs l D ac k n sh 23 (lvL (i + 6)) [] M) : EL b L xs l D ac k n sh 1375 (lvL i) [] M := by
  refine eg_iinc (y := nI (i + 6)) (lv' := lvL (i + 6)) dL_law_1375 rfl (by rw [← nI_add]; rfl) rfl rfl ?_
  exact eg_goto (t := 23) dL_law_1378 (by decide) kk
end ABlarg
