/-! PURE: lacks and sums of wants with channels -/
theorem fu_shift {α : Type} (F : Nat → α → α) : ∀ (k j : Nat) (a : α), fu F k (j + 1) a = fu (fun i => F (i + 1)) k j a
  | 0, _, _ => rfl
  | k + 1, j, a => fu_shift F k (j + 1) (F (j + 1) a)
theorem fu_foldl {α β : Type} (G : α → β → α) (d : β) : ∀ (X : List β) (a : α), fu (fun j a => G a (X.getD j d)) X.length 0 a = X.foldl G a
  | [], _ => rfl
  | x :: X, a => by
    show fu (fun j a => G a ((x :: X).getD j d)) X.length 1 (G a x) = X.foldl G (G a x)
    rw [fu_shift]
    exact fu_foldl G d X (G a x)
/-- a channel and, of a pair, the other -/
def gl (c g : Nat) : List Nat := if g = 0 then [c] else [c, c + g]
theorem chs_gl {σ : Sg} (hS : Sok σ) {w : Nat} (hw : w < g_nw σ) (c : Nat) : chs σ w c = gl c (gapW σ w) := by
  have := (hS.mast (hS.mo hw)).2.2.2.2.2.2.2.2.1
  unfold chs gl gapW
  by_cases h : g_kd σ (g_mo σ w) = 1
  · rw [if_pos h, if_pos h, if_neg (by omega)]
  · rw [if_neg h, if_neg h, if_pos rfl]
theorem gl_mem {c g x : Nat} (h : x ∈ gl c g) : c ≤ x ∧ x ≤ c + g := by
  unfold gl at h
  split at h
  · simp at h; omega
  · simp at h; omega
/-- a loop over the channels of a want -/
theorem lp_gl {α β : Type} (L : Nat → α → Int32 → Option β) (c g : Nat) (G : α → Nat → α) (fin : α → Int32 → Option β) (inv : α → Prop) (hcg : c + 2 * g < 1000000)
    (hs : ∀ n a x, x ∈ gl c g → inv a → L (n + 1) a (nI x) = L n (G a x) (nI x + ab_max 1 (nI g)) ∧ inv (G a x)) (he : ∀ n a x, c + g < x → x < 2000000 → inv a → L (n + 1) a (nI x) = fin a (nI x)) :
    ∀ (a : α) (n : Nat), 3 < n → inv a → ∃ y, L n a (nI c) = fin ((gl c g).foldl G a) y ∧ inv ((gl c g).foldl G a) := by
  intro a n hn hi
  obtain ⟨m, rfl⟩ : ∃ m, n = m + 1 + 1 + 1 := ⟨n - 3, by omega⟩
  by_cases h : g = 0
  · subst h
    have e : gl c 0 = [c] := rfl
    obtain ⟨h1, h2⟩ := hs (m + 1 + 1) a c (by rw [e]; simp) hi
    refine ⟨nI (c + 1), ?_, by rw [e]; exact h2⟩
    rw [h1, e, show ab_max 1 (nI 0) = nI 1 from rfl, nI_add]
    exact he (m + 1) _ (c + 1) (by omega) (by omega) h2
  · have e : gl c g = [c, c + g] := by simp [gl, h]
    have hx : ab_max 1 (nI g) = nI g := by
      rw [show (1 : Int32) = nI 1 from rfl, nI_max (by decide) (by omega), Nat.max_eq_right (by omega)]
    obtain ⟨h1, h2⟩ := hs (m + 1 + 1) a c (by rw [e]; simp) hi
    obtain ⟨h3, h4⟩ := hs (m + 1) (G a c) (c + g) (by rw [e]; simp) h2
    refine ⟨nI (c + g + g), ?_, by rw [e]; exact h4⟩
    rw [h1, e, hx, nI_add, h3, hx, nI_add]
    exact he m _ (c + g + g) (by omega) (by omega) h4
theorem nI_lk {a b d : Nat} (ha : a < 2 ^ 30) (hb : b < 2 ^ 30) (hd : d < 2 ^ 30) : ab_max (nI a) (nI b - nI d) = nI (max a (b - d)) := by
  unfold ab_max
  have e := pk_sub_toInt hb hd
  have ea := nI_toInt (n := a) (by omega)
  by_cases h : (nI a) < (nI b - nI d)
  · rw [if_pos h]
    rw [i_lt, ea, e] at h
    rw [pk_sub (by omega)]
    congr 1
    omega
  · rw [if_neg h]
    rw [i_lt, ea, e] at h
    congr 1
    omega
theorem nI_lk2 {a b d : Nat} (ha : a < 2 ^ 30) (hb : b < 2 ^ 30) (hd : d < 2 ^ 30) : (if (nI b - nI d) ≤ nI a then some (nI a) else some (nI b - nI d)) = some (nI (max a (b - d))) := by
  rw [← nI_lk ha hb hd]
  unfold ab_max
  by_cases h : (nI b - nI d) ≤ nI a
  · rw [if_pos h, if_neg (Int32.not_lt.mpr h)]
  · rw [if_neg h, if_pos (Int32.not_le.mp h)]
theorem nI_abs2 {a b : Nat} (ha : a < 2 ^ 30) (hb : b < 2 ^ 30) : (if 0 ≤ (nI a - nI b) then some (nI a - nI b) else some (-(nI a - nI b))) = some (nI (dst a b)) := by
  rw [← nI_abs ha hb]
  unfold ab_abs
  by_cases h : 0 ≤ (nI a - nI b)
  · rw [if_pos h, if_pos h]
  · rw [if_neg h, if_neg h]
    congr 1
theorem mx_le {b x : Nat} : ∀ (Y : List Nat) (a n : Nat), a ≤ n → b ≤ n → Y.foldl (fun a y => max a (b - dst x y)) a ≤ n
  | [], _, _, h, _ => h
  | y :: Y, a, n, h, hb => mx_le Y _ n (show max a (b - dst x y) ≤ n by omega) hb
theorem mx2_le {b : Nat} {Y : List Nat} : ∀ (X : List Nat) (a n : Nat), a ≤ n → b ≤ n → X.foldl (fun a x => Y.foldl (fun a y => max a (b - dst x y)) a) a ≤ n
  | [], _, _, h, _ => h
  | x :: X, a, n, h, hb => mx2_le X _ n (mx_le Y a n h hb) hb
theorem lackN_le (b : Nat) (X Y : List Nat) : lackN b X Y ≤ b := mx2_le X 0 b (Nat.zero_le _) (Nat.le_refl _)
theorem lackN_0 (X Y : List Nat) : lackN 0 X Y = 0 := Nat.le_zero.mp (lackN_le 0 X Y)
/-! plans -/
def Pok (σ : Sg) (p : Nat → Nat) : Prop := ∀ w, w < g_nw σ → p w ≤ 30
def PlR (σ : Sg) (p : Nat → Nat) (M : ab_M) : Prop := ∀ w, w < g_nw σ → M.1 80 w = pv (p w)
def PlC (σ : Sg) (p : Nat → Nat) (t : Nat) (M : ab_M) : Prop := ∀ w, w < g_nw σ → M.1 t w = pv (p w)
theorem pch_le {σ : Sg} (hS : Sok σ) {p : Nat → Nat} (hp : Pok σ p) {w x : Nat} (hw : w < g_nw σ) (h : x ∈ pch σ p w) : x ≤ 39 := by
  unfold pch at h
  have := hp w hw
  have := gapW_le hS hw
  split at h
  · cases h
  · rw [chs_gl hS hw] at h
    have := gl_mem h
    omega
theorem r_channelsOf {σ : Sg} {M : ab_M} {p : Nat → Nat} (hS : Sok σ) (hR : RepR σ M) (hp : Pok σ p) (hP : PlR σ p M) {w : Nat} (hw : w < g_nw σ) : mi_X10_channelsOf M (nI w) = some (nI (pch σ p w).length) := by
  have h16 := hS.w16 hw
  have hm12 := hS.mo12 hw
  have hm := hS.mo hw
  have e1 := (hR.w hw).1
  have k0 := (hR.m hm).1
  have l0 := (hS.mast hm).1
  have hpw := hp w hw
  unfold mi_X10_channelsOf pch chs
  simp only [vin h16, ab_chk_true, nI_clamp (show w < 2 ^ 31 by omega), e1, vin hm12, nI_clamp (show g_mo σ w < 2 ^ 31 by omega), k0, hP w hw]
  by_cases h : p w = 0
  · rw [if_neg (fun q => (pv_nn (by omega)).mp q h), if_pos h]
    rfl
  · rw [if_pos ((pv_nn (by omega)).mpr h), if_neg h]
    by_cases hk : g_kd σ (g_mo σ w) = 1
    · rw [if_pos (show nI (g_kd σ (g_mo σ w)) = 1 by rw [hk]; rfl), if_pos hk]
      rfl
    · rw [if_neg (show ¬ nI (g_kd σ (g_mo σ w)) = (1 : Int32) from fun q => hk ((nI_eq (by omega) (by decide)).mp q)), if_neg hk]
      rfl
theorem r_channelOf {σ : Sg} {M : ab_M} {p : Nat → Nat} (hS : Sok σ) (hR : RepR σ M) (hp : Pok σ p) (hP : PlR σ p M) {w i : Nat} (hw : w < g_nw σ) (hi : i < (pch σ p w).length) : mi_X10_channelOf M (nI w) (nI i) = some (nI ((pch σ p w).getD i 0)) := by
  have h16 := hS.w16 hw
  have hm12 := hS.mo12 hw
  have hm := hS.mo hw
  have e1 := (hR.w hw).1
  have k7 := (hR.m hm).2.2.2.2.2.2.2
  have hpw := hp w hw
  unfold mi_X10_channelOf
  simp only [vin h16, ab_chk_true, nI_clamp (show w < 2 ^ 31 by omega), e1, vin hm12, nI_clamp (show g_mo σ w < 2 ^ 31 by omega), k7, hP w hw]
  unfold pch at hi ⊢
  by_cases h : p w = 0
  · rw [if_pos h] at hi
    exact absurd hi (Nat.not_lt_zero _)
  · rw [if_neg h] at hi ⊢
    obtain ⟨c, hc⟩ : ∃ c, p w = c + 1 := ⟨p w - 1, by omega⟩
    rw [hc, pv_s, Nat.add_sub_cancel]
    rw [hc, Nat.add_sub_cancel] at hi
    unfold chs at hi ⊢
    by_cases hk : g_kd σ (g_mo σ w) = 1
    · rw [if_pos hk] at hi ⊢
      match i, hi with
      | 0, _ => rw [if_pos (show nI 0 = (0 : Int32) from rfl), Option.bind_some]; show some (nI c + nI 0) = _; rw [nI_add]; rfl
      | 1, _ => rw [if_neg (by decide), Option.bind_some, nI_add]; rfl
      | i + 2, hi => exact absurd hi (by simp)
    · rw [if_neg hk] at hi ⊢
      match i, hi with
      | 0, _ => rw [if_pos (show nI 0 = (0 : Int32) from rfl), Option.bind_some]; show some (nI c + nI 0) = _; rw [nI_add]; rfl
      | i + 1, hi => exact absurd hi (by simp)
theorem getD_mem {X : List Nat} {j : Nat} (h : j < X.length) : X.getD j 0 ∈ X := by
  rw [List.getD_eq_getElem?_getD, List.getElem?_eq_getElem h]
  exact List.getElem_mem h
theorem pch_len {σ : Sg} {p : Nat → Nat} {w : Nat} : (pch σ p w).length ≤ 2 := by
  unfold pch chs
  split
  · simp
  · split <;> simp
/-- the lack of two wants in a plan -/
def lackP (σ : Sg) (p : Nat → Nat) (u v : Nat) : Nat := lackN (bar σ (g_mo σ u) (g_mo σ v)) (pch σ p u) (pch σ p v)
theorem lackP_le {σ : Sg} (hS : Sok σ) (p : Nat → Nat) (u v : Nat) : lackP σ p u v ≤ 6 := Nat.le_trans (lackN_le _ _ _) (bar_le hS _ _)
theorem r_lack {σ : Sg} {M : ab_M} {p : Nat → Nat} (hS : Sok σ) (hR : RepR σ M) (hp : Pok σ p) (hP : PlR σ p M) {u v : Nat} (hu : u < g_nw σ) (hv : v < g_nw σ) : mi_X10_lack M (nI u) (nI v) = some (nI (lackP σ p u v)) := by
  have hu16 := hS.w16 hu
  have hv16 := hS.w16 hv
  have hb := bar_le hS (g_mo σ u) (g_mo σ v)
  have hlu := pch_len (σ := σ) (p := p) (w := u)
  have hlv := pch_len (σ := σ) (p := p) (w := v)
  unfold mi_X10_lack
  simp only [vin hu16, vin hv16, ab_chk_true, nI_clamp (show u < 2 ^ 31 by omega), nI_clamp (show v < 2 ^ 31 by omega), (hR.w hu).1, (hR.w hv).1, r_barOf hS hR (hS.mo hu) (hS.mo hv), Option.bind_some]
  have hi : ∀ i, i < (pch σ p u).length → ∀ a, a ≤ 6 → mi_X10_lack_36 ab_F M (nI u) (nI v) (nI (bar σ (g_mo σ u) (g_mo σ v))) (nI a) (nI i) 0 = some (nI ((pch σ p v).foldl (fun a y => max a (bar σ (g_mo σ u) (g_mo σ v) - dst ((pch σ p u).getD i 0) y)) a), nI (pch σ p v).length) := by
    intro i hi a ha
    have hl := lp_up (fun n (a : Nat) x => mi_X10_lack_36 n M (nI u) (nI v) (nI (bar σ (g_mo σ u) (g_mo σ v))) (nI a) (nI i) x) (pch σ p v).length (fun j a => max a (bar σ (g_mo σ u) (g_mo σ v) - dst ((pch σ p u).getD i 0) ((pch σ p v).getD j 0))) (fun a => some (nI a, nI (pch σ p v).length)) (fun _ a => a ≤ 6) (fun n j a hj ha => by
      have hx := pch_le hS hp hu (getD_mem hi)
      have hy := pch_le hS hp hv (getD_mem hj)
      have hd : dst ((pch σ p u).getD i 0) ((pch σ p v).getD j 0) ≤ 39 := by unfold dst; omega
      refine ⟨?_, by omega⟩
      show mi_X10_lack_36 (n + 1) M _ _ _ _ _ _ = _
      rw [mi_X10_lack_36.eq_2, r_channelsOf hS hR hp hP hv, Option.bind_some, if_neg (nI_ge hj (by omega)), r_channelOf hS hR hp hP hu hi, Option.bind_some, r_channelOf hS hR hp hP hv hj, Option.bind_some, nI_abs2 (by omega) (by omega), Option.bind_some, nI_lk2 (by omega) (by omega) (by omega), Option.bind_some, nI_1]) (fun n a _ => by
      show mi_X10_lack_36 (n + 1) M _ _ _ _ _ _ = _
      rw [mi_X10_lack_36.eq_2, r_channelsOf hS hR hp hP hv, Option.bind_some, if_pos (nI_le (Nat.le_refl _) (by omega))]) (pch σ p v).length 0 a ab_F (by omega) (ab_F_lt (by omega)) ha
    rw [fu_foldl (fun a y => max a (bar σ (g_mo σ u) (g_mo σ v) - dst ((pch σ p u).getD i 0) y)) 0 (pch σ p v) a] at hl
    exact hl.1
  have hl := lp_up (fun n (a : Nat) x => mi_X10_lack_23 n M (nI u) (nI v) (nI (bar σ (g_mo σ u) (g_mo σ v))) (nI a) x) (pch σ p u).length (fun i a => (pch σ p v).foldl (fun a y => max a (bar σ (g_mo σ u) (g_mo σ v) - dst ((pch σ p u).getD i 0) y)) a) (fun a => some (nI a, nI (pch σ p u).length)) (fun _ a => a ≤ 6) (fun n i a hj ha => by
    refine ⟨?_, mx_le _ _ _ ha hb⟩
    show mi_X10_lack_23 (n + 1) M _ _ _ _ _ = _
    rw [mi_X10_lack_23.eq_2, r_channelsOf hS hR hp hP hu, Option.bind_some, if_neg (nI_ge hj (by omega)), hi i hj a ha, Option.bind_some, nI_1]) (fun n a _ => by
    show mi_X10_lack_23 (n + 1) M _ _ _ _ _ = _
    rw [mi_X10_lack_23.eq_2, r_channelsOf hS hR hp hP hu, Option.bind_some, if_pos (nI_le (Nat.le_refl _) (by omega))]) (pch σ p u).length 0 0 ab_F (by omega) (ab_F_lt (by omega)) (by omega)
  rw [fu_foldl (fun a x => (pch σ p v).foldl (fun a y => max a (bar σ (g_mo σ u) (g_mo σ v) - dst x y)) a) 0 (pch σ p u) 0] at hl
  rw [show (0 : Int32) = nI 0 from rfl, hl.1]
  rfl
/-! the class's -/
theorem c_barOf {σ : Sg} {M : ab_M} (hS : Sok σ) (hC : RepC σ M) {a b : Nat} (ha : a < g_nm σ) (hb : b < g_nm σ) : mi_X3_barOf M (nI a) (nI b) = some (nI (bar σ a b)) := by
  have ha12 := hS.m12 ha
  have hb12 := hS.m12 hb
  unfold mi_X3_barOf
  rw [show (12 : Int32) = nI 12 from rfl, pk_mul, nI_add]
  simp only [vin (show a * 12 + b < 144 by omega), ab_chk_true, nI_clamp (show a * 12 + b < 2 ^ 31 by omega)]
  rw [Nat.mul_comm a 12, hC.2.1 a b ha hb]
theorem c_barOfWants {σ : Sg} {M : ab_M} (hS : Sok σ) (hC : RepC σ M) {u v : Nat} (hu : u < g_nw σ) (hv : v < g_nw σ) : mi_X3_barOfWants M (nI u) (nI v) = some (nI (bar σ (g_mo σ u) (g_mo σ v))) := by
  have hu16 := hS.w16 hu
  have hv16 := hS.w16 hv
  unfold mi_X3_barOfWants
  simp only [vin hu16, vin hv16, ab_chk_true, nI_clamp (show u < 2 ^ 31 by omega), nI_clamp (show v < 2 ^ 31 by omega), (hC.1.w hu).1, (hC.1.w hv).1, c_barOf hS hC (hS.mo hu) (hS.mo hv), Option.bind_some]
theorem c_lackAt {σ : Sg} {M : ab_M} (hS : Sok σ) (hC : RepC σ M) {u v c e : Nat} (hu : u < g_nw σ) (hv : v < g_nw σ) (hc : c ≤ 29) (he : e ≤ 29) : mi_X2_lackAt M (nI u) (nI c) (nI v) (nI e) = some (nI (lackN (bar σ (g_mo σ u) (g_mo σ v)) (chs σ u c) (chs σ v e))) := by
  have hb := bar_le hS (g_mo σ u) (g_mo σ v)
  have hgu := gapW_le hS hu
  have hgv := gapW_le hS hv
  unfold mi_X2_lackAt
  rw [c_barOfWants hS hC hu hv, Option.bind_some, chs_gl hS hu, chs_gl hS hv]
  generalize bar σ (g_mo σ u) (g_mo σ v) = b at hb ⊢
  by_cases h0 : b = 0
  · rw [if_pos (by rw [h0]; rfl), h0, lackN_0]
    rfl
  · rw [if_neg (show ¬ nI b = (0 : Int32) from nI_ne0 (by omega) (by omega)), c_gapOf hS hC.1 hu, Option.bind_some, c_gapOf hS hC.1 hv, Option.bind_some]
    generalize gapW σ u = gu at hgu ⊢
    generalize gapW σ v = gv at hgv ⊢
    have hi : ∀ x, x ∈ gl c gu → ∀ a, a ≤ 6 → ∃ y, mi_X2_lackAt_57 ab_F M (nI c) (nI e) (nI b) (nI a) (nI gu) (nI gv) (nI x) (nI e) = some (nI ((gl e gv).foldl (fun a y => max a (b - dst x y)) a), y) := by
      intro x hx a ha
      have hxl := gl_mem hx
      obtain ⟨y, h1, -⟩ := lp_gl (fun n (a : Nat) z => mi_X2_lackAt_57 n M (nI c) (nI e) (nI b) (nI a) (nI gu) (nI gv) (nI x) z) e gv (fun a y => max a (b - dst x y)) (fun a y => some (nI a, y)) (fun a => a ≤ 6) (by omega) (fun n a y hy ha => by
        have hyl := gl_mem hy
        have hd : dst x y ≤ 60 := by unfold dst; omega
        refine ⟨?_, by omega⟩
        show mi_X2_lackAt_57 (n + 1) M _ _ _ _ _ _ _ _ = _
        rw [mi_X2_lackAt_57.eq_2, nI_add, if_neg (nI_nlt hyl.2 (by omega)), nI_abs (by omega) (by omega), nI_lk (by omega) (by omega) (by omega)]) (fun n a y hy hy2 _ => by
        show mi_X2_lackAt_57 (n + 1) M _ _ _ _ _ _ _ _ = _
        rw [mi_X2_lackAt_57.eq_2, nI_add, if_pos (nI_lt hy (by omega))]) a ab_F (by unfold ab_F; omega) ha
      exact ⟨y, h1⟩
    obtain ⟨y, h1, -⟩ := lp_gl (fun n (a : Nat) z => mi_X2_lackAt_44 n M (nI c) (nI e) (nI b) (nI a) (nI gu) (nI gv) z) c gu (fun a x => (gl e gv).foldl (fun a y => max a (b - dst x y)) a) (fun a y => some (nI a, y)) (fun a => a ≤ 6) (by omega) (fun n a x hx ha => by
      have hxl := gl_mem hx
      refine ⟨?_, mx_le _ _ _ ha hb⟩
      obtain ⟨y, h1⟩ := hi x hx a ha
      show mi_X2_lackAt_44 (n + 1) M _ _ _ _ _ _ _ = _
      rw [mi_X2_lackAt_44.eq_2, nI_add, if_neg (nI_nlt hxl.2 (by omega)), h1]
      rfl) (fun n a x hx hx2 _ => by
      show mi_X2_lackAt_44 (n + 1) M _ _ _ _ _ _ _ = _
      rw [mi_X2_lackAt_44.eq_2, nI_add, if_pos (nI_lt hx (by omega))]) 0 ab_F (by unfold ab_F; omega) (by omega)
    rw [show (0 : Int32) = nI 0 from rfl, h1]
    rfl
theorem c_lackOf {σ : Sg} {M : ab_M} {p : Nat → Nat} {t : Nat} (hS : Sok σ) (hC : RepC σ M) (hp : Pok σ p) (hP : PlC σ p t M) {u v : Nat} (hu : u < g_nw σ) (hv : v < g_nw σ) : mi_X2_lackOf M t (nI u) (nI v) = some (nI (lackP σ p u v)) := by
  have hu16 := hS.w16 hu
  have hv16 := hS.w16 hv
  have h1 := hp u hu
  have h2 := hp v hv
  unfold mi_X2_lackOf lackP pch
  simp only [vin hu16, vin hv16, ab_chk_true, nI_clamp (show u < 2 ^ 31 by omega), nI_clamp (show v < 2 ^ 31 by omega), hP u hu, hP v hv]
  by_cases e1 : p u = 0
  · rw [if_pos ((pv_neg (by omega)).mpr e1), if_pos e1]
    rfl
  · rw [if_neg (fun q => e1 ((pv_neg (by omega)).mp q)), if_neg e1]
    by_cases e2 : p v = 0
    · rw [if_neg (fun q => (pv_nn (by omega)).mp q e2), if_pos e2]
      have : lackN (bar σ (g_mo σ u) (g_mo σ v)) (chs σ u (p u - 1)) [] = 0 := by
        unfold lackN
        generalize chs σ u (p u - 1) = X
        induction X with
        | nil => rfl
        | cons x X ih => exact ih
      rw [this]
      rfl
    · rw [if_pos ((pv_nn (by omega)).mpr e2), if_neg e2]
      obtain ⟨c, hc⟩ : ∃ c, p u = c + 1 := ⟨p u - 1, by omega⟩
      obtain ⟨e, he⟩ : ∃ e, p v = e + 1 := ⟨p v - 1, by omega⟩
      rw [hc, he, pv_s, pv_s, c_lackAt hS hC hu hv (by omega) (by omega)]
      rfl
