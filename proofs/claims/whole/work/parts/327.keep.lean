/-! PURE: keep, both sides -/
theorem keep0 {σ : Sg} {p : Nat → Nat} {M : ab_M} (hI : InvS σ p M) {d : Nat} (hd : d < 8) (z : Int32) : ∃ M1 M2, mi_X6_clear M (35 + 4 * d) = some M1 ∧ mi_X10_keep_131 ab_F (ab_pi (ab_pi (ab_pi M1 69 0 0) 90 d 0) 91 d 0) (nI d) 0 z 0 = some (nI 0, M2) ∧ InvS σ p M2 := by
  obtain ⟨M2, k1, k2, k3, k4, k5⟩ := r_keep131 hd (N := 0) (by omega) 0 z (fun _ => 0) 0 0 ab_F (ab_pi (ab_pi (ab_pi (ab_pi (ab_pi M (35 + 4 * d) 3 0) (35 + 4 * d) 4 0) 69 0 0) 90 d 0) 91 d 0) (by omega) (ab_F_lt (by omega)) (by rw [pi_eq]; rfl) (fun X i _ hi => absurd hi (by omega))
  obtain ⟨hh, len, a1, a2, a3, a4, a5, a6, a7, a8, a9, a10⟩ := hI.2.2.2.2.2.2.2.2.2 d hd
  have s1 : ∀ c j, (c ≠ 69 ∨ j ≠ 0) → ¬ (90 ≤ c ∧ c ≤ 91 ∧ j = d) → c ≠ 35 + 4 * d → M2.1 c j = M.1 c j := fun c j a b e => by rw [k2, pi_ne (by omega), pi_ne (by omega), pi_ne (by omega), pi_ne (by omega), pi_ne (by omega)]
  refine ⟨_, M2, rfl, k1, hI.shelf hd (fun c j hc a b => s1 c j (by have := fA_thrown hc; omega) (by omega) (by omega)) (fun e j he hne => k3 _ j (by omega)) (fun j hj => k4 j (by omega)) ?_⟩
  refine ⟨0, 0, ?_, ?_, ?_, ?_, by omega, by omega, fun e => absurd e (by omega), fun e => absurd e (by omega), fun e => absurd e (by omega), fun i hi => ?_⟩
  · rw [k2, pi_ne (by omega), pi_ne (by omega), pi_ne (by omega), pi_ne (by omega), pi_eq]; rfl
  · rw [k2, pi_ne (by omega), pi_eq]; rfl
  · rw [k2, pi_ne (by omega), pi_ne (by omega), pi_ne (by omega), pi_eq]; rfl
  · rw [k2, pi_eq]; rfl
  · rw [s1 _ _ (by omega) (by omega) (by omega)]; exact a10 i hi
theorem keep1 {σ : Sg} {p : Nat → Nat} {M : ab_M} (hI : InvS σ p M) {d m : Nat} (hd : d < 8) (hm : m < g_nm σ) : ∃ M1 M2, mi_X6_takeMast M (35 + 4 * d) (12 + m) = some M1 ∧ mi_X10_keep_131 ab_F (ab_pi (ab_pi (ab_pi (ab_pi (ab_pi M1 69 0 0) 90 d 1) 91 d 0) 92 d (nI (wgt m (g_kd σ m) (g_pw σ m) (g_mn σ m) (g_gp σ m)))) 93 d (if g_kd σ m = 0 then -15 else nI m)) (nI d) 1 (nI m) 0 = some (nI 0, M2) ∧ InvS σ p M2 ∧ RepR σ (ab_pi (ab_pi (ab_pi M1 69 0 0) 90 d 1) 91 d 0) := by
  have hS := hI.1
  have hm12 := hS.m12 hm
  obtain ⟨A, g1, g2, g3, g4⟩ := c_takeAll (ab_pi (ab_pi M (35 + 4 * d) 3 1) (35 + 4 * d) 4 0) (t := 35 + 4 * d + 1) (u := 12 + m) (by omega)
  obtain ⟨M2, k1, k2, k3, k4, k5⟩ := r_keep131 hd (N := 0) (by omega) 1 (nI m) (fun _ => 0) 0 0 ab_F (ab_pi (ab_pi (ab_pi (ab_pi (ab_pi A 69 0 0) 90 d 1) 91 d 0) 92 d (nI (wgt m (g_kd σ m) (g_pw σ m) (g_mn σ m) (g_gp σ m)))) 93 d (if g_kd σ m = 0 then -15 else nI m)) (by omega) (ab_F_lt (by omega)) (by rw [pi_ne (by omega), pi_ne (by omega), pi_eq]; rfl) (fun X i _ hi => absurd hi (by omega))
  obtain ⟨hh, len, a1, a2, a3, a4, a5, a6, a7, a8, a9, a10⟩ := hI.2.2.2.2.2.2.2.2.2 d hd
  obtain ⟨q0, q1, q2, q3, q4, q5, q6, q7, q8⟩ := hI.2.2.1.1.2.2.2.2.2.2.2.2.2.1 m hm
  obtain ⟨b0, -, -, b3, b4, b5, -, -, b8, b9⟩ := hS.mast hm
  have sA : ∀ c j, c ≠ 35 + 4 * d → c ≠ 35 + 4 * d + 1 → A.1 c j = M.1 c j := fun c j a b => by rw [g2 c j b, pi_ne (by omega), pi_ne (by omega)]
  have sB : ∀ c j, (c ≠ 69 ∨ j ≠ 0) → ¬ (90 ≤ c ∧ c ≤ 93 ∧ j = d) → M2.1 c j = A.1 c j := fun c j a b => by rw [k2, pi_ne (by omega), pi_ne (by omega), pi_ne (by omega), pi_ne (by omega), pi_ne (by omega)]
  refine ⟨A, M2, by unfold mi_X6_takeMast; rw [g1, Option.bind_some], k1, hI.shelf hd (fun c j hc a b => ?_) (fun e j he hne => ?_) (fun j hj => ?_) ?_, hI.2.2.2.1.same hS (fun c j hc => ?_)⟩
  · rw [sB c j (by have := fA_thrown hc; omega) (by omega), sA c j (by omega) (by omega)]
  · rw [k3 _ j (by omega)]; exact congrFun (congrFun g3 _) j
  · rw [k4 j (by omega)]; exact congrFun (congrFun g3 _) j
  · have rd : ∀ k, k < 9 → M2.1 (35 + 4 * d + 1) k = M.1 (12 + m) k := fun k hk => by rw [sB _ _ (by omega) (by omega), g4 k hk, pi_ne (by omega), pi_ne (by omega)]
    refine ⟨1, 0, ?_, ?_, ?_, ?_, by omega, by omega, fun e => ?_, fun e => absurd e (by omega), fun e => absurd e (by omega), fun i hi => ?_⟩
    · rw [sB _ _ (by omega) (by omega), g2 _ _ (by omega), pi_ne (by omega), pi_eq]; rfl
    · rw [k2, pi_ne (by omega), pi_ne (by omega), pi_ne (by omega), pi_eq]; rfl
    · rw [sB _ _ (by omega) (by omega), g2 _ _ (by omega), pi_eq]; rfl
    · rw [k2, pi_ne (by omega), pi_ne (by omega), pi_eq]; rfl
    · refine ⟨m, g_kd σ m, g_pw σ m, g_mn σ m, g_gp σ m, hm12, b0, b3, b5, b9, ?_, ?_, ?_, ?_, ?_, ?_, ?_⟩
      · rw [rd 0 (by omega)]; exact q0
      · rw [rd 1 (by omega)]; exact q1
      · rw [rd 4 (by omega)]; exact q4
      · rw [rd 5 (by omega)]; exact q5
      · rw [rd 8 (by omega)]; exact q8
      · rw [k2, pi_ne (by omega), pi_eq]
      · rw [k2, pi_eq]
    · rw [sB _ _ (by omega) (by omega), sA _ _ (by omega) (by omega)]; exact a10 i hi
  · unfold fR at hc
    rw [pi_ne (by omega), pi_ne (by omega), pi_ne (by omega), sA c j (by omega) (by omega)]
theorem keep3 {σ : Sg} {p : Nat → Nat} {M : ab_M} (hI : InvS σ p M) {d : Nat} (hd : d < 8) (z : Int32) : ∃ M1 M2, mi_X6_takeChannels M (35 + 4 * d) 67 (nI (g_nw σ)) = some M1 ∧ mi_X10_keep_131 ab_F (ab_pi (ab_pi (ab_pi M1 69 0 0) 90 d 3) 91 d (nI (g_nw σ))) (nI d) 3 z 0 = some (nI (g_nw σ), M2) ∧ InvS σ p M2 ∧ M1.1 69 10 = nI (g_nw σ) := by
  have hS := hI.1
  have hnw := hS.nw
  obtain ⟨A, g1, g2, g3, g4, g5⟩ := c_tch12 (t := 35 + 4 * d) (by omega) hnw (f := p) hI.2.1 (g_nw σ) 0 ab_F (ab_pi (ab_pi M (35 + 4 * d) 3 3) (35 + 4 * d) 4 (nI (g_nw σ))) (by omega) (ab_F_lt (by omega)) (fun w hw => by rw [pi_ne (by omega), pi_ne (by omega)]; exact hI.2.2.2.2.1 w hw)
  have g1' : mi_X6_takeChannels_12 ab_F (ab_pi (ab_pi M (35 + 4 * d) 3 3) (35 + 4 * d) 4 (nI (g_nw σ))) (35 + 4 * d) 67 (nI (g_nw σ)) 0 = some (nI (g_nw σ), A) := g1
  have sA : ∀ c j, c ≠ 35 + 4 * d → c ≠ 35 + 4 * d + 2 → A.1 c j = M.1 c j := fun c j a b => by rw [g2 c j b, pi_ne (by omega), pi_ne (by omega)]
  obtain ⟨M2, k1, k2, k3, k4, k5⟩ := r_keep131 hd (N := g_nw σ) hnw 3 z (fun i => (pv (p i)).toInt64) (g_nw σ) 0 ab_F (ab_pi (ab_pi (ab_pi A 69 0 0) 90 d 3) 91 d (nI (g_nw σ))) (by omega) (ab_F_lt (by omega)) pi_eq (fun X i hX hi => by
    rw [if_pos rfl, ab_chk_pos (vin (show i < 16 by omega)), nI_clamp (by omega), hX, pi_ne (by omega), pi_ne (by omega), pi_ne (by omega), sA 80 i (by omega) (by omega), hI.2.2.2.2.2.1 i hi])
  obtain ⟨hh, len, a1, a2, a3, a4, a5, a6, a7, a8, a9, a10⟩ := hI.2.2.2.2.2.2.2.2.2 d hd
  have sB : ∀ c j, (c ≠ 69 ∨ j ≠ 0) → ¬ (90 ≤ c ∧ c ≤ 91 ∧ j = d) → M2.1 c j = A.1 c j := fun c j a b => by rw [k2, pi_ne (by omega), pi_ne (by omega), pi_ne (by omega)]
  refine ⟨A, M2, by unfold mi_X6_takeChannels; rw [g1', Option.bind_some], k1, hI.shelf hd (fun c j hc a b => ?_) (fun e j he hne => ?_) (fun j hj => ?_) ?_, by rw [sA 69 10 (by omega) (by omega)]; exact hI.2.2.2.1.2.1⟩
  · rw [sB c j (by have := fA_thrown hc; omega) (by omega), sA c j (by omega) (by omega)]
  · rw [k3 _ j (by omega)]; exact congrFun (congrFun g3 _) j
  · rw [k4 j (by omega)]; exact congrFun (congrFun g3 _) j
  · refine ⟨3, g_nw σ, ?_, ?_, ?_, ?_, by omega, by omega, fun e => absurd e (by omega), fun _ i hi => ?_, fun e => absurd e (by omega), fun i hi => ?_⟩
    · rw [sB _ _ (by omega) (by omega), g2 _ _ (by omega), pi_ne (by omega), pi_eq]; rfl
    · rw [k2, pi_ne (by omega), pi_eq]; rfl
    · rw [sB _ _ (by omega) (by omega), g2 _ _ (by omega), pi_eq]
    · rw [k2, pi_eq]
    · rw [k5 i (by omega) hi, sB _ _ (by omega) (by omega), g5 i (by omega) hi]
    · rw [sB _ _ (by omega) (by omega)]
      by_cases e : i < g_nw σ
      · rw [g5 i (by omega) e]; exact fit_pv _ (by have := hI.2.1 i e; omega)
      · rw [g4 i (by omega), pi_ne (by omega), pi_ne (by omega)]; exact a10 i hi
theorem keep4 {σ : Sg} {p : Nat → Nat} {M : ab_M} (hI : InvS σ p M) {d m : Nat} (hd : d < 8) (hm : m < g_nm σ) : ∃ M1 M2, mi_X6_takeSquares M (35 + 4 * d) (nI m) = some M1 ∧ mi_X10_keep_131 ab_F (ab_pi (ab_pi (ab_pi M1 69 0 0) 90 d 4) 91 d (nI (g_nm σ))) (nI d) 4 (nI m) 0 = some (nI (g_nm σ), M2) ∧ InvS σ p M2 ∧ M1.1 69 1 = nI (g_nm σ) ∧ RepR σ M1 := by
  have hS := hI.1
  have hnm := hS.nm
  have e7 : (ab_pi M (35 + 4 * d) 3 4).1 1 7 = nI (g_nm σ) := by rw [pi_ne (by omega)]; exact hI.2.2.1.1.1
  have hB : RepB σ (ab_pi (ab_pi M (35 + 4 * d) 3 4) (35 + 4 * d) 4 (nI (g_nm σ))) := hI.2.2.1.1.same hS (fun c j hc => by unfold fB at hc; rw [pi_ne (by omega), pi_ne (by omega)])
  obtain ⟨A, g1, g2, g3, g4, g5⟩ := c_tsq15 hS (t := 35 + 4 * d) hm (g_nm σ) 0 ab_F (ab_pi (ab_pi M (35 + 4 * d) 3 4) (35 + 4 * d) 4 (nI (g_nm σ))) (by omega) (ab_F_lt (by omega)) hB
  have g1' : mi_X6_takeSquares_15 ab_F (ab_pi (ab_pi M (35 + 4 * d) 3 4) (35 + 4 * d) 4 (nI (g_nm σ))) (35 + 4 * d) (nI m) 0 = some (nI (g_nm σ), A) := g1
  have sA : ∀ c j, c ≠ 35 + 4 * d → A.1 c j = M.1 c j := fun c j a => by rw [g2, pi_ne (by omega), pi_ne (by omega)]
  have hRA : RepR σ A := hI.2.2.2.1.same hS (fun c j hc => by unfold fR at hc; exact sA c j (by omega))
  obtain ⟨M2, k1, k2, k3, k4, k5⟩ := r_keep131 hd (N := g_nm σ) (by omega) 4 (nI m) (fun i => (nI (sq σ m i)).toInt64) (g_nm σ) 0 ab_F (ab_pi (ab_pi (ab_pi A 69 0 0) 90 d 4) 91 d (nI (g_nm σ))) (by omega) (ab_F_lt (by omega)) pi_eq (fun X i hX hi => by
    rw [if_neg (by decide), r_square hS (hRA.same hS (fun c j hc => by unfold fR at hc; rw [hX, pi_ne (by omega), pi_ne (by omega), pi_ne (by omega)])) hm hi, Option.bind_some])
  obtain ⟨hh, len, a1, a2, a3, a4, a5, a6, a7, a8, a9, a10⟩ := hI.2.2.2.2.2.2.2.2.2 d hd
  have sB : ∀ c j, (c ≠ 69 ∨ j ≠ 0) → ¬ (90 ≤ c ∧ c ≤ 91 ∧ j = d) → M2.1 c j = A.1 c j := fun c j a b => by rw [k2, pi_ne (by omega), pi_ne (by omega), pi_ne (by omega)]
  refine ⟨A, M2, by unfold mi_X6_takeSquares; rw [e7, g1', Option.bind_some], k1, hI.shelf hd (fun c j hc a b => ?_) (fun e j he hne => ?_) (fun j hj => ?_) ?_, hRA.1, hRA⟩
  · rw [sB c j (by have := fA_thrown hc; omega) (by omega), sA c j (by omega)]
  · rw [k3 _ j (by omega)]; exact g3 _ j (by omega)
  · rw [k4 j (by omega)]; exact g3 _ j (by omega)
  · refine ⟨4, g_nm σ, ?_, ?_, ?_, ?_, by omega, by omega, fun e => absurd e (by omega), fun e => absurd e (by omega), fun _ i hi => ?_, fun i hi => ?_⟩
    · rw [sB _ _ (by omega) (by omega), g2, pi_ne (by omega), pi_eq]; rfl
    · rw [k2, pi_ne (by omega), pi_eq]; rfl
    · rw [sB _ _ (by omega) (by omega), g2, pi_eq]
    · rw [k2, pi_eq]
    · rw [k5 i (by omega) hi, k3 _ _ (by omega)]; exact (g5 i (by omega) hi).symm
    · rw [sB _ _ (by omega) (by omega), sA _ _ (by omega)]; exact a10 i hi
