/-! the invariant, at the loop's first head -/
def sg0 : Sg := fun a b => if a = 0 ∧ b = 3 then 2 else 0
theorem shf0 : ∀ d, d < 8 → (cm_19.1 (35 + 4 * d) 3 = nI 0 ∧ cm_19.1 90 d = nI 0 ∧ cm_19.1 (35 + 4 * d) 4 = nI 0 ∧ cm_19.1 91 d = nI 0) ∧ ∀ i, i < 60 → fits .byte (.int (cm_19.1 (35 + 4 * d + 2) i)) = true := by decide +kernel
theorem inv0 : Inv cm_19 := by
  refine ⟨sg0, fun _ => 0, ⟨by decide, by decide, by decide, by decide, by decide, by decide, by decide, by decide, by decide, fun m hm => absurd hm (Nat.not_lt_zero m), rfl, fun m hm => absurd hm (Nat.not_lt_zero m), fun m hm => absurd hm (Nat.not_lt_zero m), fun m hm => absurd hm (Nat.not_lt_zero m)⟩, fun w hw => absurd hw (Nat.not_lt_zero w), ⟨⟨by decide +kernel, by decide +kernel, by decide +kernel, by decide +kernel, by decide +kernel, by decide +kernel, by decide +kernel, by decide +kernel, by decide +kernel, fun m hm => absurd hm (Nat.not_lt_zero m), fun m hm => absurd hm (Nat.not_lt_zero m), fun m hm => absurd hm (Nat.not_lt_zero m)⟩, fun a c ha => absurd ha (Nat.not_lt_zero a), fun a ha => absurd ha (Nat.not_lt_zero a)⟩, ⟨by decide +kernel, by decide +kernel, by decide +kernel, by decide +kernel, by decide +kernel, by decide +kernel, by decide +kernel, by decide +kernel, by decide +kernel, fun m hm => absurd hm (Nat.not_lt_zero m), fun m hm => absurd hm (Nat.not_lt_zero m), fun m hm => absurd hm (Nat.not_lt_zero m)⟩, fun w hw => absurd hw (Nat.not_lt_zero w), fun w hw => absurd hw (Nat.not_lt_zero w), ?_, ⟨by decide +kernel, Or.inl (by decide +kernel)⟩, ⟨0, by decide, by decide +kernel, by decide +kernel⟩, ?_⟩
  · have h : ∀ w, w < 16 → cm_19.1 67 w = -2 ∧ cm_19.1 4 w = -2 := by decide +kernel
    exact fun w _ hw => h w hw
  · intro d hd
    obtain ⟨⟨h1, h2, h3, h4⟩, h5⟩ := shf0 d hd
    exact ⟨0, 0, h1, h2, h3, h4, by decide, Or.inl rfl, fun h => absurd h (by decide), fun h => absurd h (by decide), fun h => absurd h (by decide), h5⟩
