/-! PURE: counts of twos with a bar and of threes that are in -/
def cB (σ : Sg) (a b : Nat) : Nat := if 0 < bar σ a b then 1 else 0
def cBa (σ : Sg) (a : Nat) : Nat := su (cB σ a) (g_nm σ - (a + 1)) (a + 1)
theorem c_barredTwos {σ : Sg} {M : ab_M} (hS : Sok σ) (hC : RepC σ M) : mi_X3_barredTwos M = some (nI (su (cBa σ) (g_nm σ) 0)) := by
  have hnm := hS.nm
  have inner : ∀ a s, a < g_nm σ → mi_X3_barredTwos_16 ab_F M (nI s) (nI a) (nI (a + 1)) = some (nI (s + cBa σ a), nI (g_nm σ)) := fun a s ha =>
    lp_sum (fun n s x => mi_X3_barredTwos_16 n M s (nI a) x) (g_nm σ) (cB σ a) (fun n j s hj => by
      show mi_X3_barredTwos_16 (n + 1) M (nI s) (nI a) (nI j) = _
      have hb := bar_le hS a j
      rw [mi_X3_barredTwos_16.eq_2, hC.1.1, if_neg (Int32.not_le.mpr (nI_lt hj (by omega))), c_barOf hS hC ha hj, Option.bind_some, nI_pif (by omega), Option.bind_some, nI_add, show nI j + 1 = nI (j + 1) from nI_add j 1]
      rfl) (fun n s => by
      show mi_X3_barredTwos_16 (n + 1) M (nI s) (nI a) (nI (g_nm σ)) = _
      rw [mi_X3_barredTwos_16.eq_2, hC.1.1, if_pos (Int32.le_refl _)]) (a + 1) s (by omega) (by omega)
  have outer := lp_sum (fun n s x => mi_X3_barredTwos_4 n M s x) (g_nm σ) (cBa σ) (fun n j s hj => by
    show mi_X3_barredTwos_4 (n + 1) M (nI s) (nI j) = _
    rw [mi_X3_barredTwos_4.eq_2, hC.1.1, if_neg (Int32.not_le.mpr (nI_lt hj (by omega))), show nI j + 1 = nI (j + 1) from nI_add j 1, inner j s hj, Option.bind_some]) (fun n s => by
    show mi_X3_barredTwos_4 (n + 1) M (nI s) (nI (g_nm σ)) = _
    rw [mi_X3_barredTwos_4.eq_2, hC.1.1, if_pos (Int32.le_refl _)]) 0 0 (by omega) (by omega)
  have o' : mi_X3_barredTwos_4 ab_F M 0 0 = _ := outer
  unfold mi_X3_barredTwos
  rw [o', Option.bind_some, Nat.zero_add, Nat.sub_zero]
theorem r_bars {σ : Sg} {M : ab_M} (hS : Sok σ) (hR : RepR σ M) : mi_X10_bars M = some (nI (su (cBa σ) (g_nm σ) 0)) := by
  have hnm := hS.nm
  have inner : ∀ a s, a < g_nm σ → mi_X10_bars_16 ab_F M (nI s) (nI a) (nI (a + 1)) = some (nI (s + cBa σ a), nI (g_nm σ)) := fun a s ha =>
    lp_sum (fun n s x => mi_X10_bars_16 n M s (nI a) x) (g_nm σ) (cB σ a) (fun n j s hj => by
      show mi_X10_bars_16 (n + 1) M (nI s) (nI a) (nI j) = _
      have hb := bar_le hS a j
      rw [mi_X10_bars_16.eq_2, hR.1, if_neg (Int32.not_le.mpr (nI_lt hj (by omega))), r_barOf hS hR ha hj, Option.bind_some, nI_pif (by omega), Option.bind_some, nI_add, show nI j + 1 = nI (j + 1) from nI_add j 1]
      rfl) (fun n s => by
      show mi_X10_bars_16 (n + 1) M (nI s) (nI a) (nI (g_nm σ)) = _
      rw [mi_X10_bars_16.eq_2, hR.1, if_pos (Int32.le_refl _)]) (a + 1) s (by omega) (by omega)
  have outer := lp_sum (fun n s x => mi_X10_bars_4 n M s x) (g_nm σ) (cBa σ) (fun n j s hj => by
    show mi_X10_bars_4 (n + 1) M (nI s) (nI j) = _
    rw [mi_X10_bars_4.eq_2, hR.1, if_neg (Int32.not_le.mpr (nI_lt hj (by omega))), show nI j + 1 = nI (j + 1) from nI_add j 1, inner j s hj, Option.bind_some]) (fun n s => by
    show mi_X10_bars_4 (n + 1) M (nI s) (nI (g_nm σ)) = _
    rw [mi_X10_bars_4.eq_2, hR.1, if_pos (Int32.le_refl _)]) 0 0 (by omega) (by omega)
  have o' : mi_X10_bars_4 ab_F M 0 0 = _ := outer
  unfold mi_X10_bars
  rw [o', Option.bind_some, Nat.zero_add, Nat.sub_zero]
def cT (σ : Sg) (a b c : Nat) : Nat := if inn σ a b c then 1 else 0
def cTb (σ : Sg) (a b : Nat) : Nat := su (cT σ a b) (g_nm σ - (b + 1)) (b + 1)
def cTa (σ : Sg) (a : Nat) : Nat := su (cTb σ a) (g_nm σ - (a + 1)) (a + 1)
theorem c_threesIn {σ : Sg} {M : ab_M} (hS : Sok σ) (hC : RepC σ M) : mi_X3_threesIn M = some (nI (su (cTa σ) (g_nm σ) 0)) := by
  have hnm := hS.nm
  have i3 : ∀ a b s, a < g_nm σ → b < g_nm σ → mi_X3_threesIn_29 ab_F M (nI s) (nI a) (nI b) (nI (b + 1)) = some (nI (s + cTb σ a b), nI (g_nm σ)) := fun a b s ha hb =>
    lp_sum (fun n s x => mi_X3_threesIn_29 n M s (nI a) (nI b) x) (g_nm σ) (cT σ a b) (fun n j s hj => by
      show mi_X3_threesIn_29 (n + 1) M (nI s) (nI a) (nI b) (nI j) = _
      have st : (if (if inn σ a b j then (1 : Int32) else 0) = 0 then some (0 : Int32) else some 1) = some (nI (cT σ a b j)) := by
        unfold cT
        by_cases q : inn σ a b j
        · rw [if_pos q, if_pos q]; rfl
        · rw [if_neg q, if_neg q]; rfl
      rw [mi_X3_threesIn_29.eq_2, hC.1.1, if_neg (Int32.not_le.mpr (nI_lt hj (by omega))), c_areIn hS hC ha hb hj, Option.bind_some, st, Option.bind_some, nI_add, show nI j + 1 = nI (j + 1) from nI_add j 1]) (fun n s => by
      show mi_X3_threesIn_29 (n + 1) M (nI s) (nI a) (nI b) (nI (g_nm σ)) = _
      rw [mi_X3_threesIn_29.eq_2, hC.1.1, if_pos (Int32.le_refl _)]) (b + 1) s (by omega) (by omega)
  have inner : ∀ a s, a < g_nm σ → mi_X3_threesIn_16 ab_F M (nI s) (nI a) (nI (a + 1)) = some (nI (s + cTa σ a), nI (g_nm σ)) := fun a s ha =>
    lp_sum (fun n s x => mi_X3_threesIn_16 n M s (nI a) x) (g_nm σ) (cTb σ a) (fun n j s hj => by
      show mi_X3_threesIn_16 (n + 1) M (nI s) (nI a) (nI j) = _
      rw [mi_X3_threesIn_16.eq_2, hC.1.1, if_neg (Int32.not_le.mpr (nI_lt hj (by omega))), show nI j + 1 = nI (j + 1) from nI_add j 1, i3 a j s ha hj, Option.bind_some]) (fun n s => by
      show mi_X3_threesIn_16 (n + 1) M (nI s) (nI a) (nI (g_nm σ)) = _
      rw [mi_X3_threesIn_16.eq_2, hC.1.1, if_pos (Int32.le_refl _)]) (a + 1) s (by omega) (by omega)
  have outer := lp_sum (fun n s x => mi_X3_threesIn_4 n M s x) (g_nm σ) (cTa σ) (fun n j s hj => by
    show mi_X3_threesIn_4 (n + 1) M (nI s) (nI j) = _
    rw [mi_X3_threesIn_4.eq_2, hC.1.1, if_neg (Int32.not_le.mpr (nI_lt hj (by omega))), show nI j + 1 = nI (j + 1) from nI_add j 1, inner j s hj, Option.bind_some]) (fun n s => by
    show mi_X3_threesIn_4 (n + 1) M (nI s) (nI (g_nm σ)) = _
    rw [mi_X3_threesIn_4.eq_2, hC.1.1, if_pos (Int32.le_refl _)]) 0 0 (by omega) (by omega)
  have o' : mi_X3_threesIn_4 ab_F M 0 0 = _ := outer
  unfold mi_X3_threesIn
  rw [o', Option.bind_some, Nat.zero_add, Nat.sub_zero]
theorem r_threes {σ : Sg} {M : ab_M} (hS : Sok σ) (hR : RepR σ M) : mi_X10_threes M = some (nI (su (cTa σ) (g_nm σ) 0)) := by
  have hnm := hS.nm
  have i3 : ∀ a b s, a < g_nm σ → b < g_nm σ → mi_X10_threes_29 ab_F M (nI s) (nI a) (nI b) (nI (b + 1)) = some (nI (s + cTb σ a b), nI (g_nm σ)) := fun a b s ha hb =>
    lp_sum (fun n s x => mi_X10_threes_29 n M s (nI a) (nI b) x) (g_nm σ) (cT σ a b) (fun n j s hj => by
      show mi_X10_threes_29 (n + 1) M (nI s) (nI a) (nI b) (nI j) = _
      have st : (if (if inn σ a b j then (1 : Int32) else 0) = 0 then some (0 : Int32) else some 1) = some (nI (cT σ a b j)) := by
        unfold cT
        by_cases q : inn σ a b j
        · rw [if_pos q, if_pos q]; rfl
        · rw [if_neg q, if_neg q]; rfl
      rw [mi_X10_threes_29.eq_2, hR.1, if_neg (Int32.not_le.mpr (nI_lt hj (by omega))), r_areIn hS hR ha hb hj, Option.bind_some, st, Option.bind_some, nI_add, show nI j + 1 = nI (j + 1) from nI_add j 1]) (fun n s => by
      show mi_X10_threes_29 (n + 1) M (nI s) (nI a) (nI b) (nI (g_nm σ)) = _
      rw [mi_X10_threes_29.eq_2, hR.1, if_pos (Int32.le_refl _)]) (b + 1) s (by omega) (by omega)
  have inner : ∀ a s, a < g_nm σ → mi_X10_threes_16 ab_F M (nI s) (nI a) (nI (a + 1)) = some (nI (s + cTa σ a), nI (g_nm σ)) := fun a s ha =>
    lp_sum (fun n s x => mi_X10_threes_16 n M s (nI a) x) (g_nm σ) (cTb σ a) (fun n j s hj => by
      show mi_X10_threes_16 (n + 1) M (nI s) (nI a) (nI j) = _
      rw [mi_X10_threes_16.eq_2, hR.1, if_neg (Int32.not_le.mpr (nI_lt hj (by omega))), show nI j + 1 = nI (j + 1) from nI_add j 1, i3 a j s ha hj, Option.bind_some]) (fun n s => by
      show mi_X10_threes_16 (n + 1) M (nI s) (nI a) (nI (g_nm σ)) = _
      rw [mi_X10_threes_16.eq_2, hR.1, if_pos (Int32.le_refl _)]) (a + 1) s (by omega) (by omega)
  have outer := lp_sum (fun n s x => mi_X10_threes_4 n M s x) (g_nm σ) (cTa σ) (fun n j s hj => by
    show mi_X10_threes_4 (n + 1) M (nI s) (nI j) = _
    rw [mi_X10_threes_4.eq_2, hR.1, if_neg (Int32.not_le.mpr (nI_lt hj (by omega))), show nI j + 1 = nI (j + 1) from nI_add j 1, inner j s hj, Option.bind_some]) (fun n s => by
    show mi_X10_threes_4 (n + 1) M (nI s) (nI (g_nm σ)) = _
    rw [mi_X10_threes_4.eq_2, hR.1, if_pos (Int32.le_refl _)]) 0 0 (by omega) (by omega)
  have o' : mi_X10_threes_4 ab_F M 0 0 = _ := outer
  unfold mi_X10_threes
  rw [o', Option.bind_some, Nat.zero_add, Nat.sub_zero]
