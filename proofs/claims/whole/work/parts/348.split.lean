/-! PURE: harm, with one want apart -/
theorem su_add (f g : Nat → Nat) : ∀ (k j : Nat), su (fun i => f i + g i) k j = su f k j + su g k j
  | 0, _ => rfl
  | k + 1, j => by
    show (f j + g j) + su (fun i => f i + g i) k (j + 1) = (f j + su f k (j + 1)) + (g j + su g k (j + 1))
    rw [su_add f g k (j + 1)]
    omega
theorem su_mul (c : Nat) (f : Nat → Nat) : ∀ (k j : Nat), su (fun i => c * f i) k j = c * su f k j
  | 0, _ => rfl
  | k + 1, j => by
    show c * f j + su (fun i => c * f i) k (j + 1) = c * (f j + su f k (j + 1))
    rw [su_mul c f k (j + 1), Nat.mul_add]
theorem su_z {f : Nat → Nat} {k j : Nat} (h : ∀ i, j ≤ i → i < j + k → f i = 0) : su f k j = 0 := (su_zero_iff k j).mpr h
theorem su_pick {f : Nat → Nat} {N w : Nat} (hw : w < N) : su (fun u => if u = w then f u else 0) N 0 = f w := by
  rw [show N = w + (1 + (N - (w + 1))) by omega, su_app, su_app]
  rw [su_z (f := fun u => if u = w then f u else 0) (k := w) (j := 0) (fun i _ h => if_neg (by omega))]
  rw [su_z (f := fun u => if u = w then f u else 0) (j := 0 + w + 1) (fun i h _ => if_neg (by omega))]
  show 0 + ((if 0 + w = w then f (0 + w) else 0) + 0 + 0) = f w
  rw [if_pos (by omega), Nat.zero_add, Nat.zero_add, Nat.add_zero]
theorem su_tri {f : Nat → Nat} {N u : Nat} (hu : u < N) : su f (N - (u + 1)) (u + 1) = su (fun v => if u < v then f v else 0) N 0 := by
  rw [show su (fun v => if u < v then f v else 0) N 0 = su (fun v => if u < v then f v else 0) ((u + 1) + (N - (u + 1))) 0 by rw [show (u + 1) + (N - (u + 1)) = N by omega], su_app]
  rw [su_z (f := fun v => if u < v then f v else 0) (k := u + 1) (fun i _ h => if_neg (by omega)), Nat.zero_add, Nat.zero_add]
  exact su_congr _ _ (fun i h _ => (if_pos (by omega)).symm)
theorem fold_le {b x : Nat} : ∀ (Y : List Nat) (a n : Nat), Y.foldl (fun a y => max a (b - dst x y)) a ≤ n ↔ a ≤ n ∧ ∀ y, y ∈ Y → b - dst x y ≤ n
  | [], a, n => by simp
  | y :: Y, a, n => by
    show Y.foldl (fun a y => max a (b - dst x y)) (max a (b - dst x y)) ≤ n ↔ _
    rw [fold_le Y _ n]
    simp only [List.mem_cons, forall_eq_or_imp]
    constructor
    · rintro ⟨h, h2⟩; exact ⟨by omega, by omega, h2⟩
    · rintro ⟨h, h2, h3⟩; exact ⟨by omega, h3⟩
theorem fold2_le {b : Nat} {Y : List Nat} : ∀ (X : List Nat) (a n : Nat), X.foldl (fun a x => Y.foldl (fun a y => max a (b - dst x y)) a) a ≤ n ↔ a ≤ n ∧ ∀ x, x ∈ X → ∀ y, y ∈ Y → b - dst x y ≤ n
  | [], a, n => by simp
  | x :: X, a, n => by
    show X.foldl (fun a x => Y.foldl (fun a y => max a (b - dst x y)) a) (Y.foldl (fun a y => max a (b - dst x y)) a) ≤ n ↔ _
    rw [fold2_le X _ n, fold_le]
    simp only [List.mem_cons, forall_eq_or_imp]
    exact and_assoc
theorem lackN_le_iff (b : Nat) (X Y : List Nat) (n : Nat) : lackN b X Y ≤ n ↔ ∀ x, x ∈ X → ∀ y, y ∈ Y → b - dst x y ≤ n := by
  unfold lackN
  rw [fold2_le]
  exact ⟨fun h => h.2, fun h => ⟨Nat.zero_le _, h⟩⟩
theorem lackN_symm (b : Nat) (X Y : List Nat) : lackN b X Y = lackN b Y X := by
  refine Nat.le_antisymm ?_ ?_
  · rw [lackN_le_iff]
    intro x hx y hy
    rw [dst_comm]
    exact (lackN_le_iff b Y X _).mp (Nat.le_refl _) y hy x hx
  · rw [lackN_le_iff]
    intro x hx y hy
    rw [dst_comm]
    exact (lackN_le_iff b X Y _).mp (Nat.le_refl _) y hy x hx
theorem lackP_symm (σ : Sg) (p : Nat → Nat) (u w : Nat) : lackP σ p u w = lackP σ p w u := by
  unfold lackP
  rw [lackN_symm, bar_comm]
/-- the harm that a want has its share in -/
noncomputable def cst (σ : Sg) (p : Nat → Nat) (w c : Nat) : Nat := (@ite _ (may σ w c) (Classical.propDecidable _) 0 10) + su (fun u => if u = w then 0 else lackP σ (fup p w (c + 1)) u w + su (fun v => if v = w then 0 else 5 * sumP σ (fup p w (c + 1)) u v w) (g_nw σ - (u + 1)) (u + 1)) (g_nw σ) 0
section
variable {σ : Sg} {p : Nat → Nat} {w c : Nat}
theorem HL_split (hw : w < g_nw σ) : HL σ (fup p w (c + 1)) = HL σ (fup p w 0) + su (fun u => if u = w then 0 else lackP σ (fup p w (c + 1)) u w) (g_nw σ) 0 := by
  have t : ∀ q : Nat → Nat, HL σ q = su (fun u => su (fun v => if u < v then lackP σ q u v else 0) (g_nw σ) 0) (g_nw σ) 0 := fun q => by
    unfold HL
    exact su_congr _ _ (fun u _ hu => su_tri (by omega))
  rw [t, t]
  have f0 : fup p w 0 w = 0 := fup_eq
  have fn : ∀ {u}, u ≠ w → fup p w (c + 1) u = fup p w 0 u := fun h => by rw [fup_ne h, fup_ne h]
  have e : ∀ u v, (if u < v then lackP σ (fup p w (c + 1)) u v else 0) = (if u < v then lackP σ (fup p w 0) u v else 0) + ((if v = w then (if u < w then lackP σ (fup p w (c + 1)) u w else 0) else 0) + (if u = w then (if w < v then lackP σ (fup p w (c + 1)) v w else 0) else 0)) := by
    intro u v
    by_cases huv : u < v
    · rw [if_pos huv, if_pos huv]
      by_cases hv : v = w
      · have hu : u ≠ w := by omega
        have z : lackP σ (fup p w 0) u v = 0 := by rw [lackP_symm]; exact lackP_e (by rw [hv]; exact f0)
        rw [z, if_pos hv, if_pos (by omega), if_neg hu, hv]
        omega
      · rw [if_neg hv]
        by_cases hu : u = w
        · have z : lackP σ (fup p w 0) u v = 0 := lackP_e (by rw [hu]; exact f0)
          rw [z, if_pos hu, if_pos (by omega), hu, lackP_symm]
          omega
        · rw [if_neg hu, lackP_congr (fn hu) (fn hv)]
          omega
    · rw [if_neg huv, if_neg huv]
      by_cases hv : v = w
      · rw [if_pos hv, if_neg (by omega)]
        by_cases hu : u = w
        · rw [if_pos hu, if_neg (by omega)]
        · rw [if_neg hu]
      · rw [if_neg hv]
        by_cases hu : u = w
        · rw [if_pos hu, if_neg (by omega)]
        · rw [if_neg hu]
  have e2 : ∀ u, su (fun v => if u < v then lackP σ (fup p w (c + 1)) u v else 0) (g_nw σ) 0 = su (fun v => if u < v then lackP σ (fup p w 0) u v else 0) (g_nw σ) 0 + ((if u < w then lackP σ (fup p w (c + 1)) u w else 0) + (if u = w then su (fun v => if w < v then lackP σ (fup p w (c + 1)) v w else 0) (g_nw σ) 0 else 0)) := by
    intro u
    rw [show (fun v => if u < v then lackP σ (fup p w (c + 1)) u v else 0) = fun v => (if u < v then lackP σ (fup p w 0) u v else 0) + ((if v = w then (if u < w then lackP σ (fup p w (c + 1)) u w else 0) else 0) + (if u = w then (if w < v then lackP σ (fup p w (c + 1)) v w else 0) else 0)) from funext (e u), su_add, su_add, su_pick (f := fun _ => if u < w then lackP σ (fup p w (c + 1)) u w else 0) hw]
    congr 2
    by_cases hu : u = w
    · rw [if_pos hu]
      exact su_congr _ _ (fun i _ _ => if_pos hu)
    · rw [if_neg hu]
      exact su_z (fun i _ _ => if_neg hu)
  rw [show (fun u => su (fun v => if u < v then lackP σ (fup p w (c + 1)) u v else 0) (g_nw σ) 0) = fun u => su (fun v => if u < v then lackP σ (fup p w 0) u v else 0) (g_nw σ) 0 + ((if u < w then lackP σ (fup p w (c + 1)) u w else 0) + (if u = w then su (fun v => if w < v then lackP σ (fup p w (c + 1)) v w else 0) (g_nw σ) 0 else 0)) from funext e2, su_add, su_add, su_pick (f := fun _ => su (fun v => if w < v then lackP σ (fup p w (c + 1)) v w else 0) (g_nw σ) 0) hw, ← su_add]
  congr 1
  refine su_congr _ _ (fun u _ _ => ?_)
  by_cases hu : u = w
  · rw [if_pos hu, if_neg (by omega), if_neg (by omega)]
  · rw [if_neg hu]
    by_cases h : u < w
    · rw [if_pos h, if_neg (by omega)]; rfl
    · rw [if_neg h, if_pos (by omega), Nat.zero_add]
theorem HS_split (hw : w < g_nw σ) : HS σ (fup p w (c + 1)) = HS σ (fup p w 0) + su (fun u => if u = w then 0 else su (fun v => if v = w then 0 else sumP σ (fup p w (c + 1)) u v w) (g_nw σ - (u + 1)) (u + 1)) (g_nw σ) 0 := by
  have t : ∀ q : Nat → Nat, HS σ q = su (fun u => su (fun v => su (fun x => if u < v ∧ v < x then sumP σ q u v x else 0) (g_nw σ) 0) (g_nw σ) 0) (g_nw σ) 0 := fun q => by
    unfold HS
    refine su_congr _ _ (fun u _ hu => ?_)
    rw [su_tri (by omega)]
    refine su_congr _ _ (fun v _ hv => ?_)
    by_cases h : u < v
    · rw [if_pos h, su_tri (by omega)]
      refine su_congr _ _ (fun x _ hx => ?_)
      by_cases h2 : v < x
      · rw [if_pos h2, if_pos ⟨h, h2⟩]
      · rw [if_neg h2, if_neg (fun z => h2 z.2)]
    · rw [if_neg h]
      exact (su_z (fun i _ _ => if_neg (fun z => h z.1))).symm
  rw [t, t]
  have f0 : fup p w 0 w = 0 := fup_eq
  have fn : ∀ {u}, u ≠ w → fup p w (c + 1) u = fup p w 0 u := fun h => by rw [fup_ne h, fup_ne h]
  generalize hH : (fun a b => sumP σ (fup p w (c + 1)) a b w) = H
  have hh : ∀ a b, sumP σ (fup p w (c + 1)) a b w = H a b := fun a b => congrFun (congrFun hH a) b
  have e : ∀ u v x, (if u < v ∧ v < x then sumP σ (fup p w (c + 1)) u v x else 0) = (if u < v ∧ v < x then sumP σ (fup p w 0) u v x else 0) + ((if x = w then (if u < v ∧ v < w then H u v else 0) else 0) + ((if v = w then (if u < w ∧ w < x then H u x else 0) else 0) + (if u = w then (if w < v ∧ v < x then H v x else 0) else 0))) := by
    intro u v x
    by_cases h : u < v ∧ v < x
    · rw [if_pos h, if_pos h]
      by_cases hx : x = w
      · have z : sumP σ (fup p w 0) u v x = 0 := sumP_0 (Or.inr (Or.inr (by rw [hx]; exact f0)))
        rw [z, if_pos hx, if_pos (by omega), if_neg (by omega), if_neg (by omega), hx, hh]
        omega
      · rw [if_neg hx]
        by_cases hv : v = w
        · have z : sumP σ (fup p w 0) u v x = 0 := sumP_0 (Or.inr (Or.inl (by rw [hv]; exact f0)))
          rw [z, if_pos hv, if_pos (by omega), if_neg (by omega), hv, sumP_swap, sumP_rot, hh]
          omega
        · rw [if_neg hv]
          by_cases hu : u = w
          · have z : sumP σ (fup p w 0) u v x = 0 := sumP_0 (Or.inl (by rw [hu]; exact f0))
            rw [z, if_pos hu, if_pos (by omega), hu, sumP_rot, hh]
            omega
          · rw [if_neg hu, sumP_congr (fn hu) (fn hv) (fn hx)]
            omega
    · rw [if_neg h, if_neg h]
      by_cases hx : x = w
      · rw [if_pos hx, if_neg (by omega)]
        by_cases hv : v = w
        · rw [if_pos hv, if_neg (by omega)]
          by_cases hu : u = w
          · rw [if_pos hu, if_neg (by omega)]
          · rw [if_neg hu]
        · rw [if_neg hv]
          by_cases hu : u = w
          · rw [if_pos hu, if_neg (by omega)]
          · rw [if_neg hu]
      · rw [if_neg hx]
        by_cases hv : v = w
        · rw [if_pos hv, if_neg (by omega)]
          by_cases hu : u = w
          · rw [if_pos hu, if_neg (by omega)]
          · rw [if_neg hu]
        · rw [if_neg hv]
          by_cases hu : u = w
          · rw [if_pos hu, if_neg (by omega)]
          · rw [if_neg hu]
  have e2 : ∀ u v, su (fun x => if u < v ∧ v < x then sumP σ (fup p w (c + 1)) u v x else 0) (g_nw σ) 0 = su (fun x => if u < v ∧ v < x then sumP σ (fup p w 0) u v x else 0) (g_nw σ) 0 + ((if u < v ∧ v < w then H u v else 0) + ((if v = w then su (fun x => if u < w ∧ w < x then H u x else 0) (g_nw σ) 0 else 0) + (if u = w then su (fun x => if w < v ∧ v < x then H v x else 0) (g_nw σ) 0 else 0))) := by
    intro u v
    rw [show (fun x => if u < v ∧ v < x then sumP σ (fup p w (c + 1)) u v x else 0) = fun x => _ from funext (e u v), su_add, su_add, su_add, su_pick (f := fun _ => if u < v ∧ v < w then H u v else 0) hw]
    congr 3
    · by_cases hv : v = w
      · rw [if_pos hv]; exact su_congr _ _ (fun i _ _ => if_pos hv)
      · rw [if_neg hv]; exact su_z (fun i _ _ => if_neg hv)
    · by_cases hu : u = w
      · rw [if_pos hu]; exact su_congr _ _ (fun i _ _ => if_pos hu)
      · rw [if_neg hu]; exact su_z (fun i _ _ => if_neg hu)
  have e3 : ∀ u, su (fun v => su (fun x => if u < v ∧ v < x then sumP σ (fup p w (c + 1)) u v x else 0) (g_nw σ) 0) (g_nw σ) 0 = su (fun v => su (fun x => if u < v ∧ v < x then sumP σ (fup p w 0) u v x else 0) (g_nw σ) 0) (g_nw σ) 0 + (su (fun v => if u < v ∧ v < w then H u v else 0) (g_nw σ) 0 + (su (fun x => if u < w ∧ w < x then H u x else 0) (g_nw σ) 0 + (if u = w then su (fun v => su (fun x => if w < v ∧ v < x then H v x else 0) (g_nw σ) 0) (g_nw σ) 0 else 0))) := by
    intro u
    rw [show (fun v => su (fun x => if u < v ∧ v < x then sumP σ (fup p w (c + 1)) u v x else 0) (g_nw σ) 0) = fun v => _ from funext (e2 u), su_add, su_add, su_add, su_pick (f := fun _ => su (fun x => if u < w ∧ w < x then H u x else 0) (g_nw σ) 0) hw]
    congr 3
    by_cases hu : u = w
    · rw [if_pos hu]; exact su_congr _ _ (fun i _ _ => if_pos hu)
    · rw [if_neg hu]; exact su_z (fun i _ _ => if_neg hu)
  rw [show (fun u => su (fun v => su (fun x => if u < v ∧ v < x then sumP σ (fup p w (c + 1)) u v x else 0) (g_nw σ) 0) (g_nw σ) 0) = fun u => _ from funext e3, su_add, su_add, su_add, su_pick (f := fun _ => su (fun v => su (fun x => if w < v ∧ v < x then H v x else 0) (g_nw σ) 0) (g_nw σ) 0) hw, ← su_add, ← su_add]
  congr 1
  refine su_congr _ _ (fun u _ hu => ?_)
  rw [← su_add, ← su_add]
  by_cases hu2 : u = w
  · rw [if_pos hu2]
    refine su_z (fun v _ _ => ?_)
    rw [if_neg (by omega), if_neg (by omega), if_neg (by omega)]
  · rw [if_neg hu2, su_tri (by omega)]
    refine su_congr _ _ (fun v _ _ => ?_)
    by_cases h : u < v
    · rw [if_pos h, hh]
      by_cases hv : v = w
      · rw [if_pos hv, if_neg (by omega), if_neg (by omega), if_neg (by omega)]
      · rw [if_neg hv]
        by_cases h1 : v < w
        · rw [if_pos (by omega), if_neg (by omega), if_neg (by omega)]
          omega
        · rw [if_neg (by omega)]
          by_cases h2 : u < w
          · rw [if_pos (by omega), if_neg (by omega)]
            omega
          · rw [if_neg (by omega), if_pos (by omega)]
            omega
    · rw [if_neg h, if_neg (by omega), if_neg (by omega), if_neg (by omega)]
theorem HX_split (hw : w < g_nw σ) : HX σ (fup p w (c + 1)) = HX σ (fup p w 0) + (@ite _ (may σ w c) (Classical.propDecidable _) 0 1) := by
  unfold HX
  have e : ∀ u, strP σ (fup p w (c + 1)) u = strP σ (fup p w 0) u + (if u = w then (@ite _ (may σ w c) (Classical.propDecidable _) 0 1) else 0) := by
    intro u
    by_cases hu : u = w
    · rw [if_pos hu, hu]
      unfold strP
      rw [fup_eq, fup_eq, Nat.add_sub_cancel]
      by_cases hm : may σ w c
      · rw [if_neg (fun z => z.2 hm), if_neg (fun z => z.1 rfl), if_pos hm]
      · rw [if_pos ⟨by omega, hm⟩, if_neg (fun z => z.1 rfl), if_neg hm]
    · rw [if_neg hu]
      unfold strP
      rw [fup_ne hu, fup_ne hu]
      rfl
  rw [show strP σ (fup p w (c + 1)) = fun u => _ from funext e, su_add, su_pick (f := fun _ => @ite _ (may σ w c) (Classical.propDecidable _) 0 1) hw]
theorem harm_split (hw : w < g_nw σ) : harm σ (fup p w (c + 1)) = harm σ (fup p w 0) + cst σ p w c := by
  unfold harm cst
  rw [HL_split hw, HS_split hw, HX_split hw]
  have e : ∀ u, (if u = w then 0 else lackP σ (fup p w (c + 1)) u w + su (fun v => if v = w then 0 else 5 * sumP σ (fup p w (c + 1)) u v w) (g_nw σ - (u + 1)) (u + 1)) = (if u = w then 0 else lackP σ (fup p w (c + 1)) u w) + 5 * (if u = w then 0 else su (fun v => if v = w then 0 else sumP σ (fup p w (c + 1)) u v w) (g_nw σ - (u + 1)) (u + 1)) := by
    intro u
    by_cases hu : u = w
    · rw [if_pos hu, if_pos hu, if_pos hu]
    · rw [if_neg hu, if_neg hu, if_neg hu, ← su_mul]
      congr 1
      refine su_congr _ _ (fun v _ _ => ?_)
      by_cases hv : v = w
      · rw [if_pos hv, if_pos hv]
      · rw [if_neg hv, if_neg hv]
  rw [show (fun u => if u = w then 0 else lackP σ (fup p w (c + 1)) u w + su (fun v => if v = w then 0 else 5 * sumP σ (fup p w (c + 1)) u v w) (g_nw σ - (u + 1)) (u + 1)) = fun u => _ from funext e, su_add, su_mul]
  by_cases hm : may σ w c
  · rw [if_pos hm, if_pos hm]; omega
  · rw [if_neg hm, if_neg hm]; omega
end
