/-! PURE: the class's weighing -/
/-- nothing but the costs is other -/
def O25 (M M' : ab_M) : Prop := (∀ c j, c ≠ 25 → M'.1 c j = M.1 c j) ∧ M'.2 = M.2
/-- and to the costs comes D -/
def AC (M : ab_M) (D : Nat → Nat) (M' : ab_M) : Prop := O25 M M' ∧ ∀ c, c < 30 → M'.1 25 c = M.1 25 c + nI (D c)
theorem O25.refl (M : ab_M) : O25 M M := ⟨fun _ _ _ => rfl, rfl⟩
theorem O25.trans {M M' M'' : ab_M} (h : O25 M M') (h' : O25 M' M'') : O25 M M'' := ⟨fun c j hc => by rw [h'.1 c j hc, h.1 c j hc], by rw [h'.2, h.2]⟩
theorem AC.trans {M M' M'' : ab_M} {D E : Nat → Nat} (h : AC M D M') (h' : AC M' E M'') : AC M (fun c => D c + E c) M'' := ⟨h.1.trans h'.1, fun c hc => by rw [h'.2 c hc, h.2 c hc, Int32.add_assoc, nI_add]⟩
theorem AC.zero (M : ab_M) : AC M (fun _ => 0) M := ⟨O25.refl M, fun c _ => by show M.1 25 c = M.1 25 c + 0; rw [Int32.add_zero]⟩
theorem AC.eq {M M' : ab_M} {D E : Nat → Nat} (h : AC M D M') (e : ∀ c, c < 30 → D c = E c) : AC M E M' := ⟨h.1, fun c hc => by rw [h.2 c hc, e c hc]⟩
theorem AC.one {M : ab_M} {j v : Nat} (hj : j < 30) : AC M (fun c => if c = j then v else 0) (ab_pi M 25 j (M.1 25 j + nI v)) := by
  refine ⟨⟨fun c i hc => pi_ne (by omega), rfl⟩, fun c hc => ?_⟩
  show _ = M.1 25 c + nI (if c = j then v else 0)
  by_cases h : c = j
  · rw [if_pos h, h, pi_eq]
  · rw [if_neg h, pi_ne (by omega)]
    show M.1 25 c = M.1 25 c + 0
    rw [Int32.add_zero]
theorem O25.C {σ : Sg} {M M' : ab_M} (hS : Sok σ) (h : O25 M M') (hC : RepC σ M) : RepC σ M' := hC.same hS (fun c j hc => h.1 c j (by unfold fC fB at hc; omega))
theorem O25.P {σ : Sg} {p : Nat → Nat} {M M' : ab_M} (h : O25 M M') (hP : PlC σ p 67 M) : PlC σ p 67 M' := hP.same (fun j => h.1 67 j (by decide))
/-- one p, q, r -/
theorem c_addSumAt (M : ab_M) {z : Int32} {g : Nat} (hz : -1000 < z.toInt) (hz2 : z.toInt < 1000) (hg : g ≤ 10) : ∃ M', mi_X2_addSumAt M z (nI g) = some M' ∧ AC M (fun c => 5 * lsum (fun y : Nat => if z.toInt = (y : Int) then 1 else 0) (gl c g)) M' := by
  have i0 : (0 : Int32).toInt = 0 := rfl
  have i29 : (29 : Int32).toInt = 29 := rfl
  -- the first
  have h1 : ∃ M1, ((if (if 0 ≤ z ∧ z ≤ 29 then (1 : Int32) else 0) = 0 then some M else ab_chk (vp_in z 30) <| ab_chk (vp_in z 30) <| some (ab_pi M 25 z.toNatClampNeg ((M.1 25 z.toNatClampNeg) + 5))) : Option ab_M) = some M1 ∧ AC M (fun c => if z.toInt = (c : Int) then 5 else 0) M1 := by
    by_cases h : 0 ≤ z ∧ z ≤ 29
    · rw [if_pos h, if_neg (by decide)]
      obtain ⟨j, hj, rfl⟩ := ix_le (n := 29) (by decide) h
      rw [ab_chk_pos (vin (show j < 30 by omega)), ab_chk_pos (vin (show j < 30 by omega)), nI_clamp (by omega)]
      refine ⟨_, rfl, (AC.one (M := M) (j := j) (v := 5) (by omega)).eq (fun c hc => ?_)⟩
      rw [nI_toInt (by omega)]
      by_cases e : c = j
      · rw [if_pos e, if_pos (by omega)]
      · rw [if_neg e, if_neg (by omega)]
    · rw [if_neg h, if_pos rfl]
      refine ⟨M, rfl, (AC.zero M).eq (fun c hc => ?_)⟩
      rw [if_neg]
      intro e
      exact h ⟨(i_le _ _).mpr (by omega), (i_le _ _).mpr (by omega)⟩
  obtain ⟨M1, q1, q2⟩ := h1
  unfold mi_X2_addSumAt
  rw [w_eq, Option.bind_some, q1, Option.bind_some]
  by_cases hg0 : g = 0
  · rw [if_pos (show nI g ≤ 0 by rw [hg0]; decide)]
    refine ⟨M1, rfl, q2.eq (fun c hc => ?_)⟩
    rw [hg0]
    show _ = 5 * lsum (fun y : Nat => if z.toInt = (y : Int) then 1 else 0) [c]
    rw [lsum_cons, lsum_nil]
    split <;> rfl
  · rw [if_neg (show ¬ nI g ≤ 0 from nI_ge (show 0 < g by omega) (by omega)), w_eq, b_if]
    have hsub : (z - nI g).toInt = z.toInt - g := by
      rw [Int32.toInt_sub, nI_toInt (by omega), Int.bmod_eq_of_le] <;> omega
    have hgl : ∀ c, gl c g = [c, c + g] := fun c => by simp [gl, hg0]
    have fin : ∀ c : Nat, (if z.toInt = (c : Int) then 5 else 0) + (if z.toInt = ((c + g : Nat) : Int) then 5 else 0) = 5 * lsum (fun y : Nat => if z.toInt = (y : Int) then 1 else 0) (gl c g) := by
      intro c
      rw [hgl, lsum_cons, lsum_cons, lsum_nil]
      by_cases a : z.toInt = (c : Int)
      · rw [if_pos a, if_pos a, if_neg (by omega), if_neg (by omega)]
      · rw [if_neg a, if_neg a]
        by_cases b : z.toInt = ((c + g : Nat) : Int)
        · rw [if_pos b, if_pos b]
        · rw [if_neg b, if_neg b]
    by_cases h : 0 ≤ z - nI g ∧ z - nI g ≤ 29
    · rw [if_pos h]
      obtain ⟨j, hj, ej⟩ := ix_le (n := 29) (by decide) h
      rw [ej, ab_chk_pos (vin (show j < 30 by omega)), ab_chk_pos (vin (show j < 30 by omega)), nI_clamp (by omega)]
      have hzj : z.toInt = ((j + g : Nat) : Int) := by
        rw [ej, nI_toInt (by omega)] at hsub
        omega
      refine ⟨_, rfl, (q2.trans (AC.one (M := M1) (j := j) (v := 5) (by omega))).eq (fun c hc => ?_)⟩
      rw [← fin c]
      congr 1
      by_cases e : c = j
      · rw [if_pos e, if_pos (by rw [e]; exact hzj)]
      · rw [if_neg e, if_neg (by omega)]
    · rw [if_neg h]
      refine ⟨M1, rfl, q2.eq (fun c hc => ?_)⟩
      rw [← fin c]
      have : ¬ z.toInt = ((c + g : Nat) : Int) := fun e => h ⟨(i_le _ _).mpr (by rw [hsub]; omega), (i_le _ _).mpr (by rw [hsub]; omega)⟩
      rw [if_neg this, Nat.add_zero]
/-- a loop over the channels of a want that adds to the costs -/
theorem lp_glA {β : Type} (L : Nat → ab_M → Int32 → Option β) (c g : Nat) (M0 : ab_M) (D : Nat → Nat → Nat) (fin : ab_M → Int32 → Option β) (hcg : c + 2 * g < 1000000)
    (hs : ∀ n M x, x ∈ gl c g → O25 M0 M → ∃ M', AC M (D x) M' ∧ L (n + 1) M (nI x) = L n M' (nI x + ab_max 1 (nI g))) (he : ∀ n M x, O25 M0 M → c + g < x → x < 2000000 → L (n + 1) M (nI x) = fin M (nI x))
    (M : ab_M) (hM : O25 M0 M) (n : Nat) (hn : 3 < n) : ∃ M' y, L n M (nI c) = fin M' y ∧ AC M (fun i => lsum (fun x => D x i) (gl c g)) M' := by
  obtain ⟨m, rfl⟩ : ∃ m, n = m + 1 + 1 + 1 := ⟨n - 3, by omega⟩
  by_cases h : g = 0
  · subst h
    have e : gl c 0 = [c] := rfl
    obtain ⟨b, h1, h2⟩ := hs (m + 1 + 1) M c (by rw [e]; simp) hM
    refine ⟨b, nI (c + 1), ?_, h1.eq (fun i _ => by rw [e, lsum_cons, lsum_nil, Nat.add_zero])⟩
    rw [h2, show ab_max 1 (nI 0) = nI 1 from rfl, nI_add]
    exact he (m + 1) _ (c + 1) (hM.trans h1.1) (by omega) (by omega)
  · have e : gl c g = [c, c + g] := by simp [gl, h]
    have hx : ab_max 1 (nI g) = nI g := by
      rw [show (1 : Int32) = nI 1 from rfl, nI_max (by decide) (by omega), Nat.max_eq_right (by omega)]
    obtain ⟨b1, h1, h2⟩ := hs (m + 1 + 1) M c (by rw [e]; simp) hM
    obtain ⟨b2, h3, h4⟩ := hs (m + 1) b1 (c + g) (by rw [e]; simp) (hM.trans h1.1)
    refine ⟨b2, nI (c + g + g), ?_, (h1.trans h3).eq (fun i _ => by rw [e, lsum_cons, lsum_cons, lsum_nil, Nat.add_zero])⟩
    rw [h2, hx, nI_add, h4, hx, nI_add]
    exact he m _ (c + g + g) ((hM.trans h1.1).trans h3.1) (by omega) (by omega)
theorem c_addSums {σ : Sg} {p : Nat → Nat} {M0 M : ab_M} (hS : Sok σ) (hC : RepC σ M0) (hp : Pok σ p) (hP : PlC σ p 67 M0) (hM : O25 M0 M) {u v g : Nat} (hu : u < g_nw σ) (hv : v < g_nw σ) (pu : p u ≠ 0) (pv0 : p v ≠ 0) (hg : g ≤ 10) : ∃ M', mi_X2_addSums M 67 (nI u) (nI v) (nI g) = some M' ∧ AC M (fun c => 5 * s3 (pch σ p u) (pch σ p v) (gl c g)) M' := by
  have hu16 := hS.w16 hu
  have hv16 := hS.w16 hv
  have hgu := gapW_le hS hu
  have hgv := gapW_le hS hv
  have hpu := hp u hu
  have hpv := hp v hv
  obtain ⟨a, ha⟩ : ∃ c, p u = c + 1 := ⟨p u - 1, by omega⟩
  obtain ⟨b, hb⟩ : ∃ c, p v = c + 1 := ⟨p v - 1, by omega⟩
  have f1 : pch σ p u = gl a (gapW σ u) := by rw [pch_gl hS hu pu, ha, Nat.add_sub_cancel]
  have f2 : pch σ p v = gl b (gapW σ v) := by rw [pch_gl hS hv pv0, hb, Nat.add_sub_cancel]
  have e1 : ∀ M, O25 M0 M → M.1 67 u = nI a := fun M h => by rw [h.P hP u hu, ha, pv_s]
  have e2 : ∀ M, O25 M0 M → M.1 67 v = nI b := fun M h => by rw [h.P hP v hv, hb, pv_s]
  unfold mi_X2_addSums
  rw [c_gapOf hS (hM.C hS hC).1 hu, Option.bind_some, c_gapOf hS (hM.C hS hC).1 hv, Option.bind_some, ab_chk_pos (vin hu16), nI_clamp (show u < 2 ^ 31 by omega), e1 M hM, f1, f2]
  generalize gapW σ u = gu at hgu ⊢
  generalize gapW σ v = gv at hgv ⊢
  have inner : ∀ x, x ∈ gl a gu → ∀ M, O25 M0 M → ∃ M' y, mi_X2_addSums_41 ab_F M 67 (nI u) (nI v) (nI g) (nI gu) (nI gv) (nI x) (nI b) = some (y, M') ∧ AC M (fun c => lsum (fun y => 5 * lsum (fun z => ((if y + z = 2 * x then 1 else 0) + (if x + z = 2 * y then 1 else 0)) + (if x + y = 2 * z then 1 else 0)) (gl c g)) (gl b gv)) M' := by
    intro x hx M hM
    have hxl := gl_mem hx
    exact lp_glA (fun n M y => mi_X2_addSums_41 n M 67 (nI u) (nI v) (nI g) (nI gu) (nI gv) (nI x) y) b gv M0 (fun y c => 5 * lsum (fun z => ((if y + z = 2 * x then 1 else 0) + (if x + z = 2 * y then 1 else 0)) + (if x + y = 2 * z then 1 else 0)) (gl c g)) (fun M y => some (y, M)) (by omega) (fun n M y hy hM => by
      have hyl := gl_mem hy
      have t1 : (((2 : Int32) * nI x) - nI y).toInt = 2 * (x : Int) - y := by
        rw [show (2 : Int32) = nI 2 from rfl, pk_mul, pk_sub_toInt (by omega) (by omega)]
        omega
      have t2 : (((2 : Int32) * nI y) - nI x).toInt = 2 * (y : Int) - x := by
        rw [show (2 : Int32) = nI 2 from rfl, pk_mul, pk_sub_toInt (by omega) (by omega)]
        omega
      obtain ⟨M1, q1, r1⟩ := c_addSumAt M (z := ((2 : Int32) * nI x) - nI y) (g := g) (by omega) (by omega) hg
      obtain ⟨M2, q2, r2⟩ := c_addSumAt M1 (z := ((2 : Int32) * nI y) - nI x) (g := g) (by omega) (by omega) hg
      have h3 : ∃ M3, ((if (ab_rem (nI x + nI y) 2) = 0 then (mi_X2_addSumAt M2 ((nI x + nI y) / 2) (nI g)).bind fun q19 => some q19 else some M2) : Option ab_M) = some M3 ∧ AC M2 (fun c => 5 * lsum (fun z => if x + y = 2 * z then 1 else 0) (gl c g)) M3 := by
        have er : ab_rem (nI (x + y)) 2 = nI ((x + y) % 2) := nI_rem _ 2 (by omega) (by decide) (by decide)
        have ed : nI (x + y) / 2 = nI ((x + y) / 2) := nI_div _ 2 (by omega) (by decide)
        rw [nI_add, er, ed]
        by_cases h : (x + y) % 2 = 0
        · rw [if_pos (by rw [h]; rfl)]
          have ti : (nI ((x + y) / 2)).toInt = ((x + y) / 2 : Nat) := nI_toInt (by omega)
          obtain ⟨M3, q5, q6⟩ := c_addSumAt M2 (z := nI ((x + y) / 2)) (g := g) (by omega) (by omega) hg
          rw [q5]
          refine ⟨M3, rfl, q6.eq (fun c hc => ?_)⟩
          congr 2
          funext z
          rw [ti]
          by_cases h2 : x + y = 2 * z
          · rw [if_pos h2, if_pos (by omega)]
          · rw [if_neg h2, if_neg (by omega)]
        · rw [if_neg (show ¬ nI ((x + y) % 2) = (0 : Int32) from nI_ne0 (by omega) (by omega))]
          refine ⟨M2, rfl, (AC.zero M2).eq (fun c hc => ?_)⟩
          rw [show (fun z => if x + y = 2 * z then 1 else 0) = fun _ => 0 from funext (fun z => if_neg (by omega)), lsum_0]
      obtain ⟨M3, q3, r3⟩ := h3
      refine ⟨M3, ((r1.trans r2).trans r3).eq (fun c hc => ?_), ?_⟩
      · rw [lsum_add, lsum_add, Nat.mul_add, Nat.mul_add]
        congr 2
        · congr 2
          funext z
          rw [t1]
          by_cases h2 : y + z = 2 * x
          · rw [if_pos h2, if_pos (by omega)]
          · rw [if_neg h2, if_neg (by omega)]
        · congr 2
          funext z
          rw [t2]
          by_cases h2 : x + z = 2 * y
          · rw [if_pos h2, if_pos (by omega)]
          · rw [if_neg h2, if_neg (by omega)]
      · show mi_X2_addSums_41 (n + 1) M _ _ _ _ _ _ _ _ = _
        rw [mi_X2_addSums_41.eq_2, ab_chk_pos (vin hv16), nI_clamp (show v < 2 ^ 31 by omega), e2 M hM, nI_add, if_neg (nI_nlt hyl.2 (by omega)), q1, Option.bind_some, q2, Option.bind_some, q3, Option.bind_some]) (fun n M y hM hy hy2 => by
      show mi_X2_addSums_41 (n + 1) M _ _ _ _ _ _ _ _ = _
      rw [mi_X2_addSums_41.eq_2, ab_chk_pos (vin hv16), nI_clamp (show v < 2 ^ 31 by omega), e2 M hM, nI_add, if_pos (nI_lt hy (by omega))]) M hM ab_F (by unfold ab_F; omega)
  obtain ⟨M', y, h1, h2⟩ := lp_glA (fun n M x => mi_X2_addSums_25 n M 67 (nI u) (nI v) (nI g) (nI gu) (nI gv) x) a gu M0 (fun x c => lsum (fun y => 5 * lsum (fun z => ((if y + z = 2 * x then 1 else 0) + (if x + z = 2 * y then 1 else 0)) + (if x + y = 2 * z then 1 else 0)) (gl c g)) (gl b gv)) (fun M y => some (y, M)) (by omega) (fun n M x hx hM => by
    have hxl := gl_mem hx
    obtain ⟨M', y, h1, h2⟩ := inner x hx M hM
    refine ⟨M', h2, ?_⟩
    show mi_X2_addSums_25 (n + 1) M _ _ _ _ _ _ _ = _
    rw [mi_X2_addSums_25.eq_2, ab_chk_pos (vin hu16), nI_clamp (show u < 2 ^ 31 by omega), e1 M hM, nI_add, if_neg (nI_nlt hxl.2 (by omega)), ab_chk_pos (vin hv16), nI_clamp (show v < 2 ^ 31 by omega), e2 M hM, h1, Option.bind_some]) (fun n M x hM hx hx2 => by
    show mi_X2_addSums_25 (n + 1) M _ _ _ _ _ _ _ = _
    rw [mi_X2_addSums_25.eq_2, ab_chk_pos (vin hu16), nI_clamp (show u < 2 ^ 31 by omega), e1 M hM, nI_add, if_pos (nI_lt hx (by omega))]) M hM ab_F (by unfold ab_F; omega)
  rw [h1, Option.bind_some]
  refine ⟨M', rfl, h2.eq (fun c hc => ?_)⟩
  rw [s3_lsum]
  have lm : ∀ {α : Type} (f : α → Nat) (X : List α), lsum (fun x => 5 * f x) X = 5 * lsum f X := by
    intro α f X
    induction X with
    | nil => rfl
    | cons x X ih => rw [lsum_cons, lsum_cons, ih, Nat.mul_add]
  rw [← lm]
  congr 1
  funext x
  rw [← lm]
