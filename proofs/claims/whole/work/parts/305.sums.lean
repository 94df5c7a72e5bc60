/-! PURE: sums of three, nearness -/
theorem fl_add {α : Type} (f : α → Nat) : ∀ (X : List α) (a : Nat), X.foldl (fun a x => a + f x) a = a + X.foldl (fun a x => a + f x) 0
  | [], a => by simp
  | x :: X, a => by
    show X.foldl (fun a x => a + f x) (a + f x) = a + X.foldl (fun a x => a + f x) (0 + f x)
    rw [fl_add f X (a + f x), fl_add f X (0 + f x)]
    omega
/-- a sum over a list -/
def lsum {α : Type} (f : α → Nat) (X : List α) : Nat := X.foldl (fun a x => a + f x) 0
theorem lsum_eq {α : Type} (f : α → Nat) (X : List α) (a : Nat) : X.foldl (fun a x => a + f x) a = a + lsum f X := fl_add f X a
theorem lsum_cons {α : Type} (f : α → Nat) (x : α) (X : List α) : lsum f (x :: X) = f x + lsum f X := by
  show X.foldl (fun a x => a + f x) (0 + f x) = _
  rw [lsum_eq]
  omega
theorem lsum_nil {α : Type} (f : α → Nat) : lsum f [] = 0 := rfl
theorem lsum_add {α : Type} (f g : α → Nat) : ∀ X : List α, lsum (fun x => f x + g x) X = lsum f X + lsum g X
  | [] => rfl
  | x :: X => by rw [lsum_cons, lsum_cons, lsum_cons, lsum_add f g X]; omega
theorem lsum_0 {α : Type} : ∀ X : List α, lsum (fun _ => 0) X = 0
  | [] => rfl
  | x :: X => by rw [lsum_cons, lsum_0 X]
theorem lsum_swap {α β : Type} (f : α → β → Nat) : ∀ (X : List α) (Y : List β), lsum (fun x => lsum (f x) Y) X = lsum (fun y => lsum (fun x => f x y) X) Y
  | [], Y => by rw [lsum_nil]; exact (lsum_0 Y).symm
  | x :: X, Y => by
    rw [lsum_cons, lsum_swap f X Y, ← lsum_add]
    congr 1
    funext y
    rw [lsum_cons]
theorem mid_lsum (X Y Z : List Nat) : mid X Y Z = lsum (fun x => lsum (fun y => lsum (fun z => if y + z = 2 * x then 1 else 0) Z) Y) X := by
  unfold mid
  have e1 : ∀ (x y a : Nat), Z.foldl (fun a z => a + if y + z = 2 * x then 1 else 0) a = a + lsum (fun z => if y + z = 2 * x then 1 else 0) Z := fun x y a => lsum_eq _ _ _
  have e2 : ∀ (x a : Nat), Y.foldl (fun a y => Z.foldl (fun a z => a + if y + z = 2 * x then 1 else 0) a) a = a + lsum (fun y => lsum (fun z => if y + z = 2 * x then 1 else 0) Z) Y := by
    intro x a
    rw [← lsum_eq]
    congr 1
    funext a y
    exact e1 x y a
  rw [show (fun (a x : Nat) => Y.foldl (fun a y => Z.foldl (fun a z => a + if y + z = 2 * x then 1 else 0) a) a) = fun a x => a + lsum (fun y => lsum (fun z => if y + z = 2 * x then 1 else 0) Z) Y from funext fun a => funext fun x => e2 x a]
  rfl
theorem s3_lsum (X Y Z : List Nat) : s3 X Y Z = lsum (fun x => lsum (fun y => lsum (fun z => ((if y + z = 2 * x then 1 else 0) + (if x + z = 2 * y then 1 else 0)) + (if x + y = 2 * z then 1 else 0)) Z) Y) X := by
  unfold s3
  rw [mid_lsum X Y Z, mid_lsum Y X Z, mid_lsum Z X Y]
  have h2 : lsum (fun x => lsum (fun y => lsum (fun z => if y + z = 2 * x then 1 else 0) Z) X) Y = lsum (fun x => lsum (fun y => lsum (fun z => if x + z = 2 * y then 1 else 0) Z) Y) X := lsum_swap _ _ _
  have h3 : lsum (fun x => lsum (fun y => lsum (fun z => if y + z = 2 * x then 1 else 0) Y) X) Z = lsum (fun x => lsum (fun y => lsum (fun z => if x + y = 2 * z then 1 else 0) Z) Y) X := by
    rw [lsum_swap]
    congr 1
    funext x
    exact lsum_swap _ _ _
  rw [h2, h3, ← lsum_add, ← lsum_add]
  congr 1
  funext x
  rw [← lsum_add, ← lsum_add]
  congr 1
  funext y
  rw [← lsum_add, ← lsum_add]
/-- sums of three don't care for the order -/
theorem s3_rot (X Y Z : List Nat) : s3 Z X Y = s3 X Y Z := by
  rw [s3_lsum, s3_lsum, lsum_swap]
  congr 1
  funext x
  rw [lsum_swap]
  congr 1
  funext y
  congr 1
  funext z
  simp only [Nat.add_comm]
  omega
theorem s3_swap (X Y Z : List Nat) : s3 Y X Z = s3 X Y Z := by
  rw [s3_lsum, s3_lsum, lsum_swap]
  congr 1
  funext x
  congr 1
  funext y
  congr 1
  funext z
  rw [Nat.add_comm y x]
  omega
theorem nI_2eq {x y z : Nat} (hx : x ≤ 1000) (hy : y ≤ 1000) (hz : z ≤ 1000) : (nI y + nI z = (2 : Int32) * nI x) ↔ y + z = 2 * x := by
  rw [show (2 : Int32) = nI 2 from rfl, pk_mul, nI_add]
  exact nI_eq (by omega) (by omega)
theorem nI_2if {x y z : Nat} (hx : x ≤ 1000) (hy : y ≤ 1000) (hz : z ≤ 1000) : (if (nI y + nI z) = (2 : Int32) * nI x then some (1 : Int32) else some 0) = some (nI (if y + z = 2 * x then 1 else 0)) := by
  by_cases h : y + z = 2 * x
  · rw [if_pos ((nI_2eq hx hy hz).mpr h), if_pos h]
    rfl
  · rw [if_neg (fun q => h ((nI_2eq hx hy hz).mp q)), if_neg h]
    rfl
theorem c_sumsOfThree {σ : Sg} {M : ab_M} {p : Nat → Nat} {t : Nat} (hS : Sok σ) (hC : RepC σ M) (hp : Pok σ p) (hP : PlC σ p t M) {u v w : Nat} (hu : u < g_nw σ) (hv : v < g_nw σ) (hw : w < g_nw σ) (pu : p u ≠ 0) (pv0 : p v ≠ 0) (pw : p w ≠ 0) : mi_X2_sumsOfThree M t (nI u) (nI v) (nI w) = some (nI (s3 (pch σ p u) (pch σ p v) (pch σ p w))) := by
  have hu16 := hS.w16 hu
  have hv16 := hS.w16 hv
  have hw16 := hS.w16 hw
  have hgu := gapW_le hS hu
  have hgv := gapW_le hS hv
  have hgw := gapW_le hS hw
  have h1 := hp u hu
  have h2 := hp v hv
  have h3 := hp w hw
  obtain ⟨a, ha⟩ : ∃ c, p u = c + 1 := ⟨p u - 1, by omega⟩
  obtain ⟨b, hb⟩ : ∃ c, p v = c + 1 := ⟨p v - 1, by omega⟩
  obtain ⟨c, hc⟩ : ∃ c, p w = c + 1 := ⟨p w - 1, by omega⟩
  have e1 : M.1 t u = nI a := by rw [hP u hu, ha, pv_s]
  have e2 : M.1 t v = nI b := by rw [hP v hv, hb, pv_s]
  have e3 : M.1 t w = nI c := by rw [hP w hw, hc, pv_s]
  have f1 : pch σ p u = gl a (gapW σ u) := by unfold pch; rw [if_neg pu, ha, Nat.add_sub_cancel, chs_gl hS hu]
  have f2 : pch σ p v = gl b (gapW σ v) := by unfold pch; rw [if_neg pv0, hb, Nat.add_sub_cancel, chs_gl hS hv]
  have f3 : pch σ p w = gl c (gapW σ w) := by unfold pch; rw [if_neg pw, hc, Nat.add_sub_cancel, chs_gl hS hw]
  unfold mi_X2_sumsOfThree
  rw [c_gapOf hS hC.1 hu, Option.bind_some, c_gapOf hS hC.1 hv, Option.bind_some, c_gapOf hS hC.1 hw, Option.bind_some, f1, f2, f3]
  simp only [vin hu16, ab_chk_true, nI_clamp (show u < 2 ^ 31 by omega), e1]
  generalize gapW σ u = gu at hgu ⊢
  generalize gapW σ v = gv at hgv ⊢
  generalize gapW σ w = gw at hgw ⊢
  have inn : ∀ x, x ∈ gl a gu → ∀ y, y ∈ gl b gv → ∀ s, ∃ q, mi_X2_sumsOfThree_72 ab_F M t (nI u) (nI v) (nI w) (nI s) (nI gu) (nI gv) (nI gw) (nI x) (nI y) (nI c) = some (nI (s + lsum (fun z => ((if y + z = 2 * x then 1 else 0) + (if x + z = 2 * y then 1 else 0)) + (if x + y = 2 * z then 1 else 0)) (gl c gw)), q) := by
    intro x hx y hy s
    have hxl := gl_mem hx
    have hyl := gl_mem hy
    obtain ⟨q, h1, -⟩ := lp_gl (fun n (s : Nat) z => mi_X2_sumsOfThree_72 n M t (nI u) (nI v) (nI w) (nI s) (nI gu) (nI gv) (nI gw) (nI x) (nI y) z) c gw (fun s z => s + (((if y + z = 2 * x then 1 else 0) + (if x + z = 2 * y then 1 else 0)) + (if x + y = 2 * z then 1 else 0))) (fun s q => some (nI s, q)) (fun _ => True) (by omega) (fun n s z hz _ => by
      have hzl := gl_mem hz
      refine ⟨?_, trivial⟩
      show mi_X2_sumsOfThree_72 (n + 1) M _ _ _ _ _ _ _ _ _ _ _ = _
      rw [mi_X2_sumsOfThree_72.eq_2]
      simp only [vin hw16, ab_chk_true, nI_clamp (show w < 2 ^ 31 by omega), e3, nI_add]
      rw [if_neg (nI_nlt hzl.2 (by omega)), ← nI_add y z, nI_2if (by omega) (by omega) (by omega), Option.bind_some, ← nI_add x z, nI_2if (by omega) (by omega) (by omega), Option.bind_some, ← nI_add x y, nI_2if (by omega) (by omega) (by omega), Option.bind_some, nI_add, nI_add, nI_add]
      congr 1
      congr 1
      omega) (fun n s z hz hz2 _ => by
      show mi_X2_sumsOfThree_72 (n + 1) M _ _ _ _ _ _ _ _ _ _ _ = _
      rw [mi_X2_sumsOfThree_72.eq_2]
      simp only [vin hw16, ab_chk_true, nI_clamp (show w < 2 ^ 31 by omega), e3, nI_add]
      rw [if_pos (nI_lt hz (by omega))]) s ab_F (by unfold ab_F; omega) trivial
    rw [lsum_eq] at h1
    exact ⟨q, h1⟩
  have mids : ∀ x, x ∈ gl a gu → ∀ s, ∃ q, mi_X2_sumsOfThree_55 ab_F M t (nI u) (nI v) (nI w) (nI s) (nI gu) (nI gv) (nI gw) (nI x) (nI b) = some (nI (s + lsum (fun y => lsum (fun z => ((if y + z = 2 * x then 1 else 0) + (if x + z = 2 * y then 1 else 0)) + (if x + y = 2 * z then 1 else 0)) (gl c gw)) (gl b gv)), q) := by
    intro x hx s
    obtain ⟨q, h1, -⟩ := lp_gl (fun n (s : Nat) z => mi_X2_sumsOfThree_55 n M t (nI u) (nI v) (nI w) (nI s) (nI gu) (nI gv) (nI gw) (nI x) z) b gv (fun s y => s + lsum (fun z => ((if y + z = 2 * x then 1 else 0) + (if x + z = 2 * y then 1 else 0)) + (if x + y = 2 * z then 1 else 0)) (gl c gw)) (fun s q => some (nI s, q)) (fun _ => True) (by omega) (fun n s y hy _ => by
      have hyl := gl_mem hy
      obtain ⟨q, hq⟩ := inn x hx y hy s
      refine ⟨?_, trivial⟩
      show mi_X2_sumsOfThree_55 (n + 1) M _ _ _ _ _ _ _ _ _ _ = _
      rw [mi_X2_sumsOfThree_55.eq_2]
      simp only [vin hv16, vin hw16, ab_chk_true, nI_clamp (show v < 2 ^ 31 by omega), nI_clamp (show w < 2 ^ 31 by omega), e2, e3, nI_add]
      rw [if_neg (nI_nlt hyl.2 (by omega)), hq]
      rfl) (fun n s y hy hy2 _ => by
      show mi_X2_sumsOfThree_55 (n + 1) M _ _ _ _ _ _ _ _ _ _ = _
      rw [mi_X2_sumsOfThree_55.eq_2]
      simp only [vin hv16, ab_chk_true, nI_clamp (show v < 2 ^ 31 by omega), e2, nI_add]
      rw [if_pos (nI_lt hy (by omega))]) s ab_F (by unfold ab_F; omega) trivial
    rw [lsum_eq] at h1
    exact ⟨q, h1⟩
  obtain ⟨q, h1, -⟩ := lp_gl (fun n (s : Nat) z => mi_X2_sumsOfThree_39 n M t (nI u) (nI v) (nI w) (nI s) (nI gu) (nI gv) (nI gw) z) a gu (fun s x => s + lsum (fun y => lsum (fun z => ((if y + z = 2 * x then 1 else 0) + (if x + z = 2 * y then 1 else 0)) + (if x + y = 2 * z then 1 else 0)) (gl c gw)) (gl b gv)) (fun s q => some (nI s, q)) (fun _ => True) (by omega) (fun n s x hx _ => by
    have hxl := gl_mem hx
    obtain ⟨q, hq⟩ := mids x hx s
    refine ⟨?_, trivial⟩
    show mi_X2_sumsOfThree_39 (n + 1) M _ _ _ _ _ _ _ _ _ = _
    rw [mi_X2_sumsOfThree_39.eq_2]
    simp only [vin hu16, vin hv16, ab_chk_true, nI_clamp (show u < 2 ^ 31 by omega), nI_clamp (show v < 2 ^ 31 by omega), e1, e2, nI_add]
    rw [if_neg (nI_nlt hxl.2 (by omega)), hq]
    rfl) (fun n s x hx hx2 _ => by
    show mi_X2_sumsOfThree_39 (n + 1) M _ _ _ _ _ _ _ _ _ = _
    rw [mi_X2_sumsOfThree_39.eq_2]
    simp only [vin hu16, ab_chk_true, nI_clamp (show u < 2 ^ 31 by omega), e1, nI_add]
    rw [if_pos (nI_lt hx (by omega))]) 0 ab_F (by unfold ab_F; omega) trivial
  rw [lsum_eq, Nat.zero_add] at h1
  rw [show (0 : Int32) = nI 0 from rfl, h1, s3_lsum]
  rfl
/-! the model's -/
theorem r_middles {σ : Sg} {M : ab_M} {p : Nat → Nat} (hS : Sok σ) (hR : RepR σ M) (hp : Pok σ p) (hP : PlR σ p M) {u v w : Nat} (hu : u < g_nw σ) (hv : v < g_nw σ) (hw : w < g_nw σ) : mi_X10_middles M (nI u) (nI v) (nI w) = some (nI (mid (pch σ p u) (pch σ p v) (pch σ p w))) := by
  have hlu := pch_len (σ := σ) (p := p) (w := u)
  have hlv := pch_len (σ := σ) (p := p) (w := v)
  have hlw := pch_len (σ := σ) (p := p) (w := w)
  have h3 : ∀ i, i < (pch σ p u).length → ∀ j, j < (pch σ p v).length → ∀ s, mi_X10_middles_32 ab_F M (nI u) (nI v) (nI w) (nI s) (nI i) (nI j) 0 = some (nI ((pch σ p w).foldl (fun a z => a + if (pch σ p v).getD j 0 + z = 2 * (pch σ p u).getD i 0 then 1 else 0) s), nI (pch σ p w).length) := by
    intro i hi j hj s
    have hl := lp_up (fun n (s : Nat) x => mi_X10_middles_32 n M (nI u) (nI v) (nI w) (nI s) (nI i) (nI j) x) (pch σ p w).length (fun k a => a + if (pch σ p v).getD j 0 + (pch σ p w).getD k 0 = 2 * (pch σ p u).getD i 0 then 1 else 0) (fun s => some (nI s, nI (pch σ p w).length)) (fun _ _ => True) (fun n k s hk _ => by
      have hx := pch_le hS hp hu (getD_mem hi)
      have hy := pch_le hS hp hv (getD_mem hj)
      have hz := pch_le hS hp hw (getD_mem hk)
      refine ⟨?_, trivial⟩
      show mi_X10_middles_32 (n + 1) M _ _ _ _ _ _ _ = _
      rw [mi_X10_middles_32.eq_2, r_channelsOf hS hR hp hP hw, Option.bind_some, if_neg (nI_ge hk (by omega)), r_channelOf hS hR hp hP hv hj, Option.bind_some, r_channelOf hS hR hp hP hw hk, Option.bind_some, r_channelOf hS hR hp hP hu hi, Option.bind_some, nI_2if (by omega) (by omega) (by omega), Option.bind_some, nI_add, nI_1]) (fun n s _ => by
      show mi_X10_middles_32 (n + 1) M _ _ _ _ _ _ _ = _
      rw [mi_X10_middles_32.eq_2, r_channelsOf hS hR hp hP hw, Option.bind_some, if_pos (nI_le (Nat.le_refl _) (by omega))]) (pch σ p w).length 0 s ab_F (by omega) (ab_F_lt (by omega)) trivial
    rw [fu_foldl (fun a z => a + if (pch σ p v).getD j 0 + z = 2 * (pch σ p u).getD i 0 then 1 else 0) 0 (pch σ p w) s] at hl
    exact hl.1
  have h2 : ∀ i, i < (pch σ p u).length → ∀ s, mi_X10_middles_19 ab_F M (nI u) (nI v) (nI w) (nI s) (nI i) 0 = some (nI ((pch σ p v).foldl (fun a y => (pch σ p w).foldl (fun a z => a + if y + z = 2 * (pch σ p u).getD i 0 then 1 else 0) a) s), nI (pch σ p v).length) := by
    intro i hi s
    have hl := lp_up (fun n (s : Nat) x => mi_X10_middles_19 n M (nI u) (nI v) (nI w) (nI s) (nI i) x) (pch σ p v).length (fun j a => (pch σ p w).foldl (fun a z => a + if (pch σ p v).getD j 0 + z = 2 * (pch σ p u).getD i 0 then 1 else 0) a) (fun s => some (nI s, nI (pch σ p v).length)) (fun _ _ => True) (fun n j s hj _ => by
      refine ⟨?_, trivial⟩
      show mi_X10_middles_19 (n + 1) M _ _ _ _ _ _ = _
      rw [mi_X10_middles_19.eq_2, r_channelsOf hS hR hp hP hv, Option.bind_some, if_neg (nI_ge hj (by omega)), h3 i hi j hj s, Option.bind_some, nI_1]) (fun n s _ => by
      show mi_X10_middles_19 (n + 1) M _ _ _ _ _ _ = _
      rw [mi_X10_middles_19.eq_2, r_channelsOf hS hR hp hP hv, Option.bind_some, if_pos (nI_le (Nat.le_refl _) (by omega))]) (pch σ p v).length 0 s ab_F (by omega) (ab_F_lt (by omega)) trivial
    rw [fu_foldl (fun a y => (pch σ p w).foldl (fun a z => a + if y + z = 2 * (pch σ p u).getD i 0 then 1 else 0) a) 0 (pch σ p v) s] at hl
    exact hl.1
  have hl := lp_up (fun n (s : Nat) x => mi_X10_middles_6 n M (nI u) (nI v) (nI w) (nI s) x) (pch σ p u).length (fun i a => (pch σ p v).foldl (fun a y => (pch σ p w).foldl (fun a z => a + if y + z = 2 * (pch σ p u).getD i 0 then 1 else 0) a) a) (fun s => some (nI s, nI (pch σ p u).length)) (fun _ _ => True) (fun n i s hi _ => by
    refine ⟨?_, trivial⟩
    show mi_X10_middles_6 (n + 1) M _ _ _ _ _ = _
    rw [mi_X10_middles_6.eq_2, r_channelsOf hS hR hp hP hu, Option.bind_some, if_neg (nI_ge hi (by omega)), h2 i hi s, Option.bind_some, nI_1]) (fun n s _ => by
    show mi_X10_middles_6 (n + 1) M _ _ _ _ _ = _
    rw [mi_X10_middles_6.eq_2, r_channelsOf hS hR hp hP hu, Option.bind_some, if_pos (nI_le (Nat.le_refl _) (by omega))]) (pch σ p u).length 0 0 ab_F (by omega) (ab_F_lt (by omega)) trivial
  rw [fu_foldl (fun a x => (pch σ p v).foldl (fun a y => (pch σ p w).foldl (fun a z => a + if y + z = 2 * x then 1 else 0) a) a) 0 (pch σ p u) 0] at hl
  unfold mi_X10_middles
  rw [show (0 : Int32) = nI 0 from rfl, hl.1]
  rfl
