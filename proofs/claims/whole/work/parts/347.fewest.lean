/-! PURE: fewest -/
theorem fone_some {σ : Sg} {p : Nat → Nat} {w c : Nat} : ∀ (k j : Nat), fone σ p k j = some (w, c) → j ≤ w ∧ w < j + k ∧ c < 30
  | 0, _, h => by cases h
  | k + 1, j, h => by
    cases hx : ffind (hl σ p j) 30 0 with
    | none =>
      rw [fone_no hx] at h
      have := fone_some k (j + 1) h
      omega
    | some d =>
      rw [fone_yes hx] at h
      cases h
      have := (ffind_some 30 0 hx).2.2
      omega
theorem ftw_some {σ : Sg} {p : Nat → Nat} {v w c : Nat} : ∀ (k j : Nat), ftw σ p v k j = some (w, c) → j ≤ w ∧ w < j + k ∧ c < 30 ∧ sndC σ p v w c < 30
  | 0, _, h => by cases h
  | k + 1, j, h => by
    cases hx : ffind (h2 σ p v j) 30 0 with
    | none =>
      rw [ftw_no hx] at h
      have := ftw_some k (j + 1) h
      omega
    | some d =>
      rw [ftw_yes hx] at h
      cases h
      obtain ⟨a, -, b⟩ := ffind_some 30 0 hx
      refine ⟨by omega, by omega, by omega, ?_⟩
      unfold sndC
      cases hy : ffind (hl σ (fup p v (c + 1)) w) 30 0 with
      | none => exact absurd hy a.2.2.2.2
      | some e =>
        have := (ffind_some 30 0 hy).2.2
        show e < 30
        omega
theorem ftt_some {σ : Sg} {p : Nat → Nat} {v w c : Nat} : ∀ (k j : Nat), ftt σ p k j = some (v, w, c) → v < w ∧ w < j + k ∧ c < 30 ∧ sndC σ p v w c < 30
  | 0, _, h => by cases h
  | k + 1, j, h => by
    cases hx : ftw σ p j k (j + 1) with
    | none =>
      rw [ftt_no hx] at h
      have := ftt_some k (j + 1) h
      omega
    | some d =>
      obtain ⟨d1, d2⟩ := d
      rw [ftt_yes hx] at h
      cases h
      have := ftw_some k (v + 1) hx
      omega
theorem InvS.one {σ : Sg} {p : Nat → Nat} {M : ab_M} (hI : InvS σ p M) {w c : Nat} (hw : w < g_nw σ) (hc : c < 30) : InvS σ (fup p w (c + 1)) (ab_pi (ab_pi (ab_pi M 67 w (nI c)) 69 0 0) 80 w (nI c)) := by
  refine hI.plan (hI.2.1.up (by omega)) (fun c' j hc' n1 n2 => ?_) (fun _ _ => rfl) ?_ ?_ (fun x h1 h2 => ?_)
  · rw [pi_ne (by omega), pi_ne (fA_thrown hc'), pi_ne (by omega)]
  · exact (hI.2.2.2.2.1.up (pv_s c).symm).same (fun j => by rw [pi_ne (by omega), pi_ne (by omega)])
  · exact PlR.up (hI.2.2.2.2.2.1.same (fun j => by rw [pi_ne (by omega), pi_ne (by omega)])) (pv_s c).symm
  · rw [pi_ne (by omega), pi_ne (by omega), pi_ne (by omega)]
    exact (hI.2.2.2.2.2.2.1 x h1 h2).1
theorem InvS.two {σ : Sg} {p : Nat → Nat} {M : ab_M} (hI : InvS σ p M) {v w c d : Nat} (hv : v < g_nw σ) (hw : w < g_nw σ) (hc : c < 30) (hd : d < 30) : InvS σ (fup (fup p v (c + 1)) w (d + 1)) (ab_pi (ab_pi (ab_pi (ab_pi (ab_pi M 67 v (nI c)) 67 w (nI d)) 69 0 0) 80 v (nI c)) 80 w (nI d)) := by
  refine hI.plan ((hI.2.1.up (by omega)).up (by omega)) (fun c' j hc' n1 n2 => ?_) (fun _ _ => rfl) ?_ ?_ (fun x h1 h2 => ?_)
  · rw [pi_ne (by omega), pi_ne (by omega), pi_ne (fA_thrown hc'), pi_ne (by omega), pi_ne (by omega)]
  · exact ((hI.2.2.2.2.1.up (pv_s c).symm).up (pv_s d).symm).same (fun j => by rw [pi_ne (by omega), pi_ne (by omega), pi_ne (by omega)])
  · exact PlR.up (PlR.up (hI.2.2.2.2.2.1.same (fun j => by rw [pi_ne (by omega), pi_ne (by omega), pi_ne (by omega)])) (pv_s c).symm) (pv_s d).symm
  · rw [pi_ne (by omega), pi_ne (by omega), pi_ne (by omega), pi_ne (by omega), pi_ne (by omega)]
    exact (hI.2.2.2.2.2.2.1 x h1 h2).1
theorem r_few0' (M : ab_M) (g : Nat) : ∃ y, mi_X10_fewest_30 (g + 1) M (nI 0) 0 = some (.inl (y, M)) := by
  rw [mi_X10_fewest_30.eq_2]
  by_cases h : M.1 69 10 ≤ 0
  · rw [if_pos h]; exact ⟨_, rfl⟩
  · rw [if_neg h, if_pos (by decide)]; exact ⟨_, rfl⟩
theorem r_few0 (M : ab_M) : ∃ y, mi_X10_fewest_30 ab_F M (nI 0) 0 = some (.inl (y, M)) := r_few0' M 99999
theorem o_fewest {σ : Sg} {p : Nat → Nat} {M : ab_M} (hI : InvS σ p M) (x : Int32) : Ans (mi_X9_fewest M x) (fun M => mi_X10_fewest M x) := by
  have hS := hI.1
  have hnw := hS.nw
  have hT := hI.thr 0
  have i1 : ∀ M : ab_M, mi_X10_isIn M x.toInt64 0 2 = some (if 0 ≤ x ∧ x ≤ 2 then 1 else 0) := fun M => r_isIn _ x 0 2
  by_cases h1 : 0 ≤ x ∧ x ≤ 2
  · obtain ⟨m, hm, rfl⟩ := ix_le (n := 2) (by decide) h1
    by_cases h0 : harm σ p = 0
    · refine Ans.m1 hI (v := 0) ?_ ?_
      · unfold mi_X9_fewest
        rw [w_eq, b_if, if_pos h1, c_isClean hS hI.2.2.1 hI.2.1 hI.2.2.2.2.1, b_if, if_pos h0]
      · show mi_X10_fewest M (nI m) = _
        unfold mi_X10_fewest
        rw [i1, b_if, if_pos h1, r_harmNow hS hT.2.2.2.1 hI.2.1 hT.2.2.2.2.2.1, Option.bind_some, if_pos (by rw [h0]; rfl)]
    · have cl : mi_X9_fewest M (nI m) = if (nI m) < 1 then (if (nI m) < 2 then some ((-2), M) else (mi_X5_changeTwo M 67).bind fun q9 => if q9.1 = 0 then some ((-2), q9.2) else some (2, q9.2)) else (mi_X5_changeOne M 67).bind fun q12 => if q12.1 = 0 then (if (nI m) < 2 then some ((-2), q12.2) else (mi_X5_changeTwo q12.2 67).bind fun q16 => if q16.1 = 0 then some ((-2), q16.2) else some (2, q16.2)) else some (1, q12.2) := by
        unfold mi_X9_fewest
        rw [w_eq, b_if, if_pos h1, c_isClean hS hI.2.2.1 hI.2.1 hI.2.2.2.2.1, b_if, if_neg h0]
      have md : ∀ M1 : ab_M, RepR σ (ab_pi M1 69 0 0) → PlR σ p (ab_pi M1 69 0 0) → mi_X10_fewest M1 (nI m) = (mi_X10_fewest_30 ab_F (ab_pi M1 69 0 0) (nI m) 0).bind fun q19 => Sum.elim (fun q12 => if (nI m) = 2 then (mi_X10_isHealedByTwo q12.2).bind fun q15 => if q15.1 = 0 then some ((-2), q15.2) else some (2, q15.2) else some ((-2), q12.2)) (fun v18 => some v18) q19 := by
        intro M1 hR1 hP1
        unfold mi_X10_fewest
        rw [i1, b_if, if_pos h1, r_harmNow hS hR1 hI.2.1 hP1, Option.bind_some, if_neg (show ¬ nI (harm σ p) = (0 : Int32) from nI_ne0 (by omega) (harm_lt hS _))]
      have hm3 : m = 0 ∨ m = 1 ∨ m = 2 := by omega
      have co := c_one hS hI.2.2.1 hI.2.1 hI.2.2.2.2.1
      have ct := c_two hS hI.2.2.1 hI.2.1 hI.2.2.2.2.1
      by_cases hm0 : m = 0
      · subst hm0
        refine Ans.m1 hI (v := -2) ?_ ?_
        · rw [cl, if_pos (by decide), if_pos (by decide)]
        · show mi_X10_fewest M (nI 0) = _
          rw [md M hT.2.2.2.1 hT.2.2.2.2.2.1]
          have e := r_few0 (ab_pi M 69 0 0)
          obtain ⟨y, e⟩ := e
          rw [e, Option.bind_some, Sum.elim_inl, if_neg (by decide)]
      · have hlt : ¬ nI m < 1 := nI_nlt (show 1 ≤ m by omega) (by omega)
        rw [if_neg hlt, co, Option.bind_some] at cl
        rcases r_few30 hS hT.2.2.2.1 hI.2.1 hT.2.2.2.2.2.1 (show 0 < m by omega) (by omega) (g_nw σ) 0 ab_F (by omega) (ab_F_lt (by omega)) with ⟨hf, -⟩ | ⟨w, c, hf, -⟩
        · rw [hf] at cl
          have cl2 : mi_X9_fewest M (nI m) = if (0 : Int32) = 0 then (if (nI m) < 2 then some ((-2), M) else (mi_X5_changeTwo M 67).bind fun q16 => if q16.1 = 0 then some ((-2), q16.2) else some (2, q16.2)) else some (1, M) := cl
          rw [if_pos rfl] at cl2
          clear cl
          have few : ∀ M1 : ab_M, RepR σ (ab_pi M1 69 0 0) → PlR σ p (ab_pi M1 69 0 0) → mi_X10_fewest M1 (nI m) = if (nI m) = 2 then (mi_X10_isHealedByTwo (ab_pi M1 69 0 0)).bind fun q15 => if q15.1 = 0 then some ((-2), q15.2) else some (2, q15.2) else some ((-2), ab_pi M1 69 0 0) := by
            intro M1 hR1 hP1
            rw [md M1 hR1 hP1]
            rcases r_few30 hS hR1 hI.2.1 hP1 (show 0 < m by omega) (by omega) (g_nw σ) 0 ab_F (by omega) (ab_F_lt (by omega)) with ⟨-, y, q⟩ | ⟨w, c, q, -⟩
            · have q' : mi_X10_fewest_30 ab_F (ab_pi M1 69 0 0) (nI m) 0 = some (.inl (y, ab_pi M1 69 0 0)) := q
              rw [q', Option.bind_some, Sum.elim_inl]
            · rw [hf] at q
              cases q
          by_cases hm1 : m = 1
          · subst hm1
            refine Ans.m1 hI (v := -2) ?_ ?_
            · rw [cl2, if_pos (by decide)]
            · show mi_X10_fewest M (nI 1) = _
              rw [few M hT.2.2.2.1 hT.2.2.2.2.2.1, if_neg (by decide)]
          · obtain rfl : m = 2 := by omega
            rw [if_neg (by decide), ct, Option.bind_some] at cl2
            cases ht : ftt σ p (g_nw σ) 0 with
            | none =>
              rw [ht] at cl2
              have cl3 : mi_X9_fewest M (nI 2) = if (0 : Int32) = 0 then some ((-2), M) else some (2, M) := cl2
              rw [if_pos rfl] at cl3
              refine Ans.m1 hI (v := -2) cl3 ?_
              show mi_X10_fewest M (nI 2) = _
              rw [few M hT.2.2.2.1 hT.2.2.2.2.2.1, if_pos (show nI 2 = 2 from rfl), r_healTwo hS hT.2.2.2.1 hI.2.1 hT.2.2.2.2.2.1, ht, Option.bind_some]
              show (if (0 : Int32) = 0 then some ((-2 : Int32), ab_pi M 69 0 0) else some (2, ab_pi M 69 0 0)) = _
              rw [if_pos rfl]
            | some r =>
              obtain ⟨v, w, c⟩ := r
              rw [ht] at cl2
              obtain ⟨b1, b2, b3, b4⟩ := ftt_some _ _ ht
              have hR1 : RepR σ (ab_pi (ab_pi (ab_pi M 67 v (nI c)) 67 w (nI (sndC σ p v w c))) 69 0 0) := hI.2.2.2.1.same hS (fun c' j hc => by rw [pi_ne (by unfold fR at hc; omega), pi_ne (by unfold fR at hc; omega), pi_ne (by unfold fR at hc; omega)])
              have hP1 : PlR σ p (ab_pi (ab_pi (ab_pi M 67 v (nI c)) 67 w (nI (sndC σ p v w c))) 69 0 0) := hI.2.2.2.2.2.1.same (fun j => by rw [pi_ne (by omega), pi_ne (by omega), pi_ne (by omega)])
              have cl3 : mi_X9_fewest M (nI 2) = if (1 : Int32) = 0 then some ((-2), ab_pi (ab_pi M 67 v (nI c)) 67 w (nI (sndC σ p v w c))) else some (2, ab_pi (ab_pi M 67 v (nI c)) 67 w (nI (sndC σ p v w c))) := cl2
              rw [if_neg (by decide)] at cl3
              have hfin : mi_X10_fewest (ab_pi (ab_pi M 67 v (nI c)) 67 w (nI (sndC σ p v w c))) (nI 2) = some (2, ab_pi (ab_pi (ab_pi (ab_pi (ab_pi M 67 v (nI c)) 67 w (nI (sndC σ p v w c))) 69 0 0) 80 v (nI c)) 80 w (nI (sndC σ p v w c))) := by
                rw [few _ hR1 hP1, if_pos (show nI 2 = 2 from rfl), r_healTwo hS hR1 hI.2.1 hP1, ht, Option.bind_some]
                show (if (1 : Int32) = 0 then _ else some ((2 : Int32), ab_pi (ab_pi (ab_pi (ab_pi (ab_pi M 67 v (nI c)) 67 w (nI (sndC σ p v w c))) 69 0 0) 80 v (nI c)) 80 w (nI (sndC σ p v w c)))) = _
                rw [if_neg (by decide)]
              exact ⟨2, _, _, cl3, hfin, σ, _, hI.two (by omega) (by omega) b3 b4⟩
        · rw [hf] at cl
          obtain ⟨b1, b2, b3⟩ := fone_some _ _ hf
          have hR1 : RepR σ (ab_pi (ab_pi M 67 w (nI c)) 69 0 0) := hI.2.2.2.1.same hS (fun c' j hc => by rw [pi_ne (by unfold fR at hc; omega), pi_ne (by unfold fR at hc; omega)])
          have hP1 : PlR σ p (ab_pi (ab_pi M 67 w (nI c)) 69 0 0) := hI.2.2.2.2.2.1.same (fun j => by rw [pi_ne (by omega), pi_ne (by omega)])
          have cl3 : mi_X9_fewest M (nI m) = if (1 : Int32) = 0 then (if (nI m) < 2 then some ((-2), ab_pi M 67 w (nI c)) else (mi_X5_changeTwo (ab_pi M 67 w (nI c)) 67).bind fun q16 => if q16.1 = 0 then some ((-2), q16.2) else some (2, q16.2)) else some (1, ab_pi M 67 w (nI c)) := cl
          rw [if_neg (by decide)] at cl3
          have hfin : mi_X10_fewest (ab_pi M 67 w (nI c)) (nI m) = some (1, ab_pi (ab_pi (ab_pi M 67 w (nI c)) 69 0 0) 80 w (nI c)) := by
            rw [md _ hR1 hP1]
            rcases r_few30 hS hR1 hI.2.1 hP1 (show 0 < m by omega) (by omega) (g_nw σ) 0 ab_F (by omega) (ab_F_lt (by omega)) with ⟨q, -⟩ | ⟨w', c', q, q2⟩
            · rw [hf] at q
              cases q
            · rw [hf] at q
              cases q
              have q' : mi_X10_fewest_30 ab_F (ab_pi (ab_pi M 67 w (nI c)) 69 0 0) (nI m) 0 = some (.inr (1, ab_pi (ab_pi (ab_pi M 67 w (nI c)) 69 0 0) 80 w (nI c))) := q2
              rw [q', Option.bind_some, Sum.elim_inr]
          exact ⟨1, _, _, cl3, hfin, σ, _, hI.one (by omega) b3⟩
  · refine Ans.m1 hI (v := -1) ?_ ?_
    · unfold mi_X9_fewest
      rw [w_eq, b_if, if_neg h1]
    · show mi_X10_fewest M x = _
      unfold mi_X10_fewest
      rw [i1, b_if, if_neg h1]
