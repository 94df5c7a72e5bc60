/-! what is known at the law's entry -/
section ABlctx
variable {b : Nat} {s : State}
theorem st_arr {A : Array Value} {ty : FieldType} (h : (Cond.arrayClass ty).before A s = true) : ∃ cA, ArrOfT s cA ty ∧ s.vm.findClass ("[" ++ ty.toString) = some cA := by
  obtain ⟨cA, kA, comp, h1, h2, h3⟩ := Cond.arrayClass_spec h
  exact ⟨cA, fun n z => ⟨fun k h => (by cases h), kA, h2, comp, h3⟩, h1⟩
theorem st_arro {C : String} (h : va_AO C s) : ∃ cA, ArrOfT s cA (.object C) ∧ va_RA s cA (.object C) := by
  obtain ⟨comp, c, k, h1, h2, h3, h4, h5⟩ := Cond.arrayOver_spec h
  exact ⟨c, fun n z => ⟨fun k h => (by cases h), k, h3, comp, h4⟩, k, comp, h3, h4, h1, h5⟩
theorem st_N (hts : ∀ w ∈ lw_tbl, w.before #[Value.ref b] s = true) : ab_N s := by
  refine ⟨fun w hw => ?_, va_AO.of (hts _ (List.mem_of_getElem? (i := 97) (by decide +kernel))), va_AO.of (hts _ (List.mem_of_getElem? (i := 314) (by decide +kernel)))⟩
  obtain ⟨h1, h2⟩ := List.mem_filter.mp hw
  refine va_Nw.of ?_ (hts w h1)
  match w, h2 with
  | .fieldLinkNest .., _ => rfl
  | .methodLinkNest .., _ => rfl
theorem st_K (hts : ∀ w ∈ lw_tbl, w.before #[Value.ref b] s = true) : ∃ (D : va_G) (ac : Nat → ClassId), va_K D vwCl (ab_tys ac) s := by
  have hG : ∀ w ∈ ab_G, w.before #[Value.ref b] s = true := fun w h => hts w (List.mem_filter.mp h).1
  obtain ⟨c0, i0, k0⟩ := u_known hG gi_X0 (hts (Cond.instantiable RX0 5) (List.mem_of_getElem? (i := 292) (by decide +kernel)))
  obtain ⟨c1, i1, k1⟩ := u_known hG gi_X1 (hts (Cond.instantiable RX1 4) (List.mem_of_getElem? (i := 120) (by decide +kernel)))
  obtain ⟨c2, i2, k2⟩ := u_known hG gi_X2 (hts (Cond.instantiable RX2 2) (List.mem_of_getElem? (i := 240) (by decide +kernel)))
  obtain ⟨c3, i3, k3⟩ := u_known hG gi_X3 (hts (Cond.instantiable RX3 11) (List.mem_of_getElem? (i := 91) (by decide +kernel)))
  obtain ⟨c4, i4, k4⟩ := u_known hG gi_X4 (hts (Cond.instantiable RX4 9) (List.mem_of_getElem? (i := 138) (by decide +kernel)))
  obtain ⟨c5, i5, k5⟩ := u_known hG gi_X5 (hts (Cond.instantiable RX5 2) (List.mem_of_getElem? (i := 279) (by decide +kernel)))
  obtain ⟨c6, i6, k6⟩ := u_known hG gi_X6 (hts (Cond.instantiable RX6 5) (List.mem_of_getElem? (i := 315) (by decide +kernel)))
  obtain ⟨c7, i7, k7⟩ := u_known hG gi_X7 (hts (Cond.instantiable RX7 4) (List.mem_of_getElem? (i := 99) (by decide +kernel)))
  obtain ⟨c8, i8, k8⟩ := u_known hG gi_X8 (hts (Cond.instantiable RX8 6) (List.mem_of_getElem? (i := 253) (by decide +kernel)))
  obtain ⟨c9, i9, k9⟩ := u_known hG gi_X9 (hts (Cond.instantiable RX9 9) (List.mem_of_getElem? (i := 83) (by decide +kernel)))
  obtain ⟨c10, i10, k10⟩ := u_known hG gi_X10 (hts (Cond.instantiable RX10 39) (List.mem_of_getElem? (i := 1030) (by decide +kernel)))
  obtain ⟨a0, a01, a02⟩ := st_arr (hts (Cond.arrayClass .int) (List.mem_of_getElem? (i := 118) (by decide +kernel)))
  obtain ⟨a1, a11, a12⟩ := st_arr (hts (Cond.arrayClass .byte) (List.mem_of_getElem? (i := 341) (by decide +kernel)))
  obtain ⟨a2, a21, a22⟩ := st_arr (hts (Cond.arrayClass .long) (List.mem_of_getElem? (i := 342) (by decide +kernel)))
  obtain ⟨a3, a31, a32⟩ := st_arro (st_N hts).2.1
  obtain ⟨a4, a41, a42⟩ := st_arro (st_N hts).2.2
  refine ⟨(fun k => [c0, c1, c2, c3, c4, c5, c6, c7, c8, c9, c10].getD k c0, fun k => [i0, i1, i2, i3, i4, i5, i6, i7, i8, i9, i10].getD k i0), fun k => [a0, a1, a2, a3, a4].getD (k - 100) a0, ?_, ?_⟩
  · intro k q hq
    match k, hq with
    | 0, hq => cases hq; exact k0
    | 1, hq => cases hq; exact k1
    | 2, hq => cases hq; exact k2
    | 3, hq => cases hq; exact k3
    | 4, hq => cases hq; exact k4
    | 5, hq => cases hq; exact k5
    | 6, hq => cases hq; exact k6
    | 7, hq => cases hq; exact k7
    | 8, hq => cases hq; exact k8
    | 9, hq => cases hq; exact k9
    | 10, hq => cases hq; exact k10
    | k + 11, hq => cases hq
  · intro k q hq
    match k, hq with
    | 0, hq => cases hq; exact ⟨a01, a02⟩
    | 1, hq => cases hq; exact ⟨a11, a12⟩
    | 2, hq => cases hq; exact ⟨a21, a22⟩
    | 3, hq => cases hq; exact ⟨a31, a32⟩
    | 4, hq => cases hq; exact ⟨a41, a42⟩
    | k + 5, hq => cases hq
theorem st_str {own tx : String} {k : Nat} {A : Array Value} (h1 : (Cond.stringRef own k tx).before A s = true) (h2 : (Cond.exactly (.string own k) "java/lang/String").before A s = true) : ∃ a, vk_R own k tx a s := by
  obtain ⟨a, c, cA, kA, q1, -⟩ := Cond.exactly_spec h2
  exact ⟨a, vk_R.of h1 q1⟩
theorem st_X (hts : ∀ w ∈ lw_tbl, w.before #[Value.ref b] s = true) (hgv : (Jvm.Cond.and given_1 narrow_1).before #[Value.ref b] s = true) : ab_X (fun q => s.heap.size ≤ q) s s.heap := by
  have hf := flat_of_before _ hgv
  have hA : ∀ a : Nat, a < s.heap.size → ¬ (fun q : Nat => s.heap.size ≤ q) a := fun a ha => Nat.not_le.mpr ha
  refine ⟨fun w hw => va_Nw.of (xc_on w hw) (hts w ?_), ⟨va_Nc.of (hf _ (by decide +kernel)), va_Nc.of (hf _ (by decide +kernel)), va_Nc.of (hf _ (by decide +kernel)), va_Nc.of (hf _ (by decide +kernel))⟩, ⟨?_, ?_, ?_, ?_, ?_⟩, ?_, ?_⟩
  · simp only [xc_ws, List.mem_cons, List.not_mem_nil, or_false] at hw
    rcases hw with rfl | rfl | rfl | rfl | rfl | rfl
    · exact List.mem_of_getElem? (i := 917) (by decide +kernel)
    · exact List.mem_of_getElem? (i := 919) (by decide +kernel)
    · exact List.mem_of_getElem? (i := 921) (by decide +kernel)
    · exact List.mem_of_getElem? (i := 915) (by decide +kernel)
    · exact List.mem_of_getElem? (i := 982) (by decide +kernel)
    · exact List.mem_of_getElem? (i := 998) (by decide +kernel)
  · exact st_str (hts _ (List.mem_of_getElem? (i := 954) (by decide +kernel))) (hf _ (by decide +kernel))
  · exact st_str (hts _ (List.mem_of_getElem? (i := 989) (by decide +kernel))) (hf _ (by decide +kernel))
  · exact st_str (hts _ (List.mem_of_getElem? (i := 1005) (by decide +kernel))) (hf _ (by decide +kernel))
  · exact st_str (hts _ (List.mem_of_getElem? (i := 1021) (by decide +kernel))) (hf _ (by decide +kernel))
  · exact st_str (hts _ (List.mem_of_getElem? (i := 1023) (by decide +kernel))) (hf _ (by decide +kernel))
  · exact vx_Zqof (hts _ (List.mem_of_getElem? (i := 940) (by decide +kernel))) (hts _ (List.mem_of_getElem? (i := 76) (by decide +kernel))) (hf _ (by decide +kernel)) hA
  · exact vx_Zqof (hts _ (List.mem_of_getElem? (i := 942) (by decide +kernel))) (hts _ (List.mem_of_getElem? (i := 76) (by decide +kernel))) (hf _ (by decide +kernel)) hA
end ABlctx
