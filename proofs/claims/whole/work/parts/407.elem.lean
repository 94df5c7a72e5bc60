/-! the law's own element; toss and element of both sides -/
section ABelem
variable {l : Launch} {D : va_G} {ac : Nat → ClassId}
noncomputable def r_lel (M : ab_M) (x y : Int32) : Int32 × ab_M := if 0 ≤ x ∧ x ≤ 7 then (if (M.1 (35 + 4 * x.toNatClampNeg) 3 = 3 ∨ M.1 (35 + 4 * x.toNatClampNeg) 3 = 4) ∧ 0 ≤ y ∧ y < M.1 (35 + 4 * x.toNatClampNeg) 4 then (0, ab_pl M 96 0 (if M.1 (35 + 4 * x.toNatClampNeg) 3 = 3 then (M.1 (35 + 4 * x.toNatClampNeg + 2) y.toNatClampNeg).toInt64 else M.2 (35 + 4 * x.toNatClampNeg + 3) y.toNatClampNeg)) else (2, M)) else (1, M)
theorem co_L_element (hl : l.stackTraces = false) (M : ab_M) (x y : Int32) (hlen : 0 ≤ x → x ≤ 7 → M.1 (35 + 4 * x.toNatClampNeg) 4 ≤ 60) : ab_Conw l D ac 7 me_L_element hh_L_element 1 6 [.ref 0, .int x, .int y, .ref 96] ab_SH M (.inl (some (.int (r_lel M x y).1), ab_SH, (r_lel M x y).2)) := by
  refine ab_introw (lv := [some (.ref 0), some (.int x), some (.int y), some (.ref 96), none]) (by decide) rfl (Nat.le_of_ble_eq_true rfl) rfl ?_
  refine eg_aload_n dL_element_0 rfl ?_
  refine eg_iconst (x := 0) dL_element_1 (by decide) ?_
  refine eg_aload_n dL_element_2 rfl ?_
  refine eg_iload_n dL_element_3 rfl ?_
  refine eg_iload_n dL_element_4 rfl ?_
  refine eg_callXV (st := [.int 0, .ref 96]) (co_X9_element hl M x y hlen) mv_X9_element sh_0 ml_RL_7 dL_element_5 ⟨by decide, by decide⟩ rfl (Nat.le_of_ble_eq_true rfl) ⟨by decide, by decide⟩ (fun _ _ _ _ _ y => y.2) (fun r hr => ?_) (fun rv M' hr => ?_) (fun E hE => ?_)
  · unfold o_elem at hr
    by_cases hx : 0 ≤ x ∧ x ≤ 7
    · rw [if_pos hx] at hr
      by_cases hg : (M.1 (35 + 4 * x.toNatClampNeg) 3 = 3 ∨ M.1 (35 + 4 * x.toNatClampNeg) 3 = 4) ∧ 0 ≤ y ∧ y < M.1 (35 + 4 * x.toNatClampNeg) 4
      · rw [if_pos hg] at hr; cases hr; rfl
      · rw [if_neg hg] at hr; cases hr
    · rw [if_neg hx] at hr; cases hr
  · unfold o_elem at hr
    by_cases hx : 0 ≤ x ∧ x ≤ 7
    · rw [if_pos hx] at hr
      by_cases hg : (M.1 (35 + 4 * x.toNatClampNeg) 3 = 3 ∨ M.1 (35 + 4 * x.toNatClampNeg) 3 = 4) ∧ 0 ≤ y ∧ y < M.1 (35 + 4 * x.toNatClampNeg) 4
      · rw [if_pos hg] at hr
        cases hr
        unfold r_lel
        rw [if_pos hx, if_pos hg]
        refine eg_lastore sh_96 (vin (n := 0) (N := 1) (by decide)) dL_element_8 ?_
        refine eg_goto (t := 20) dL_element_9 (by decide) ?_
        refine eg_iconst (x := 0) dL_element_20 (by decide) ?_
        exact eg_ireturn ⟨by decide, by decide⟩ rfl dL_element_21
      · rw [if_neg hg] at hr; cases hr
    · rw [if_neg hx] at hr; cases hr
  · unfold o_elem at hE
    by_cases hx : 0 ≤ x ∧ x ≤ 7
    · rw [if_pos hx] at hE
      by_cases hg : (M.1 (35 + 4 * x.toNatClampNeg) 3 = 3 ∨ M.1 (35 + 4 * x.toNatClampNeg) 3 = 4) ∧ 0 ≤ y ∧ y < M.1 (35 + 4 * x.toNatClampNeg) 4
      · rw [if_pos hg] at hE; cases hE
      · rw [if_neg hg] at hE
        cases hE
        unfold r_lel
        rw [if_pos hx, if_neg hg]
        refine ex_catch [⟨0, 9, 12, 13⟩] ⟨0, 9, 16, 15⟩ _ rfl (fun z hz => ?_) rfl (by decide) kl_RL_15 (by decide) dL_element_16 (Nat.le_of_ble_eq_true rfl) rfl rfl ?_
        · simp only [List.mem_cons, List.not_mem_nil, or_false] at hz
          subst hz
          exact ⟨by decide, E_A, kl_RL_13, fun A U H h => h.2.1.2.2.2⟩
        · refine eg_iconst (x := 2) dL_element_18 (by decide) ?_
          exact eg_ireturn ⟨by decide, by decide⟩ rfl dL_element_19
    · rw [if_neg hx] at hE
      cases hE
      unfold r_lel
      rw [if_neg hx]
      refine ex_catch [] ⟨0, 9, 12, 13⟩ _ rfl (fun z hz => by cases hz) rfl (by decide) kl_RL_13 (by decide) dL_element_12 (Nat.le_of_ble_eq_true rfl) rfl rfl ?_
      refine eg_iconst (x := 1) dL_element_14 (by decide) ?_
      exact eg_ireturn ⟨by decide, by decide⟩ rfl dL_element_15
end ABelem
theorem o_toss {σ : Sg} {p : Nat → Nat} {M : ab_M} (hI : InvS σ p M) (x : Int32) : ∃ v M2, r_toss M x = some v ∧ mi_X10_toss M x = some (v, M2) ∧ Inv M2 := by
  have hs := hI.2.2.2.2.2.2.2.2.2
  obtain ⟨v, e1, e2, e3⟩ := denied_eq hs x
  unfold r_toss mi_X10_toss
  rw [e1, e2, Option.bind_some, Option.bind_some]
  rcases e3 with ⟨rfl, d, hd, rfl, h3⟩ | ⟨rfl, -⟩ | rfl | rfl
  · obtain ⟨hh, len, a1, a2, a3, a4, a5, a6, a7, -⟩ := hs d hd
    have hh1 : hh = 1 := by
      have : nI hh = nI 1 := a1.symm.trans h3
      rcases a6 with rfl | rfl | rfl | rfl
      · exact absurd this (by decide)
      · rfl
      · exact absurd this (by decide)
      · exact absurd this (by decide)
    obtain ⟨num, kd, st, wn, di, b1, b2, b3, b4, b5, b6, b7, b8, b9, b10, b11, b12⟩ := a7 hh1
    have b12' : (ab_pi M 69 0 0).1 93 d = if kd = 0 then -15 else nI num := by rw [pi_ne (by omega)]; exact b12
    rw [if_neg (show ¬ (0 : Int32) < 0 by decide), if_pos (show (0 : Int32) ≤ 0 by decide), ab_chk_pos (vin (show d < 8 by omega)), ab_chk_pos (vin (show d < 8 by omega)), nI_clamp (by omega), b6, b7, b12']
    by_cases h0 : kd = 0
    · subst h0
      rw [if_neg (by decide), if_pos rfl]
      exact ⟨_, _, rfl, rfl, σ, p, hI.thr 0⟩
    · have hk : kd = 1 ∨ kd = 2 ∨ kd = 3 := by omega
      have hc : nI kd = 1 ∨ nI kd = 2 ∨ nI kd = 3 := by
        rcases hk with rfl | rfl | rfl
        · exact Or.inl rfl
        · exact Or.inr (Or.inl rfl)
        · exact Or.inr (Or.inr rfl)
      rw [if_pos hc, if_neg h0]
      exact ⟨_, _, rfl, rfl, σ, p, hI.thr 0⟩
  · exact ⟨_, _, rfl, rfl, σ, p, hI.thr 0⟩
  · exact ⟨_, _, rfl, rfl, σ, p, hI.thr 0⟩
  · exact ⟨_, _, rfl, rfl, σ, p, hI.thr 0⟩
theorem InvS.out {σ : Sg} {p : Nat → Nat} {M : ab_M} (hI : InvS σ p M) (v : Int64) : InvS σ p (ab_pl M 96 0 v) := by
  obtain ⟨a1, a2, a3, a4, a5, a6, a7, a8, a9, a10⟩ := hI
  have hsh : Shs (ab_pl M 96 0 v) := Shs.same (M := M) (M' := ab_pl M 96 0 v) (fun _ _ _ => rfl) (fun c j hc => by
    show (if c = 96 ∧ j = 0 then v else M.2 c j) = M.2 c j
    rw [if_neg]
    unfold fS at hc
    omega) a10
  exact ⟨a1, a2, RepC.same (M := M) a1 (fun _ _ _ => rfl) a3, RepR.same (M := M) a1 (fun _ _ _ => rfl) a4, a5, a6, a7, a8, a9, hsh⟩
theorem r_el0 (M : ab_M) {x y : Int32} (hx : ¬ (0 ≤ x ∧ x ≤ 7)) : mi_X10_element M x y = some (0, ab_pi M 69 0 1) := by
  unfold mi_X10_element
  simp only [r_isShelf, Option.bind_some]
  rw [if_neg hx, if_pos rfl, Option.bind_some, if_pos rfl, Option.bind_some, if_pos rfl]
theorem r_el1 (M : ab_M) {d hh len j : Nat} (hd : d ≤ 7) (a2 : M.1 90 d = nI hh) (a4 : M.1 91 d = nI len) (h34 : hh = 3 ∨ hh = 4) (hl : len ≤ 60) (hj : j < len) : mi_X10_element M (nI d) (nI j) = some (M.2 94 (60 * d + j), ab_pi M 69 0 0) := by
  have hx : 0 ≤ nI d ∧ nI d ≤ 7 := ⟨nI_pos' (by omega), nI_le (show d ≤ 7 by omega) (by decide)⟩
  have e60 : (60 : Int32) * nI d + nI j = nI (60 * d + j) := by rw [show (60 : Int32) = nI 60 from rfl, pk_mul, nI_add]
  have hin : mi_X10_isIn M (nI j).toInt64 0 (nI len - 1).toInt64 = some 1 := by
    have := r_isIn M (nI j) 0 (nI len - 1)
    rw [if_pos ⟨nI_pos' (by omega), by rw [nI_m1 (by omega)]; exact nI_le (by omega) (by omega)⟩] at this
    exact this
  have hnl : ¬ nI hh ≤ 2 := by
    rcases h34 with rfl | rfl <;> decide
  unfold mi_X10_element
  simp only [r_isShelf, Option.bind_some, nI_clamp (show d < 2 ^ 31 by omega), vin (show d < 8 by omega), ab_chk_true, a2, a4, hin, if_neg hnl, if_pos hx, e60, nI_clamp (show 60 * d + j < 2 ^ 31 by omega), vin (show 60 * d + j < 480 by omega), if_neg (show ¬ (1 : Int32) = 0 by decide)]
  rfl
theorem r_el2 (M : ab_M) {d hh len : Nat} {y : Int32} (hd : d ≤ 7) (a2 : M.1 90 d = nI hh) (a4 : M.1 91 d = nI len) (hg : hh ≤ 2 ∨ ¬ (0 ≤ y ∧ y < nI len)) (hl : len ≤ 60) (hh9 : hh ≤ 9) : mi_X10_element M (nI d) y = some (0, ab_pi M 69 0 2) := by
  have hx : 0 ≤ nI d ∧ nI d ≤ 7 := ⟨nI_pos' (by omega), nI_le (show d ≤ 7 by omega) (by decide)⟩
  have e : ((if nI hh ≤ 2 then some (0 : Int32) else (mi_X10_isIn M y.toInt64 0 (nI len - 1).toInt64).bind fun q10 => if q10 = 0 then some 0 else some 1) : Option Int32) = some 0 := by
    by_cases h2 : hh ≤ 2
    · rw [if_pos (show nI hh ≤ 2 from nI_le h2 (by decide))]
    · rw [if_neg (show ¬ nI hh ≤ 2 from nI_ge (show 2 < hh by omega) (by omega))]
      have i1 : mi_X10_isIn M y.toInt64 0 (nI len - 1).toInt64 = some (if 0 ≤ y ∧ y ≤ nI len - 1 then 1 else 0) := r_isIn M y 0 (nI len - 1)
      rw [i1, b_if, if_neg]
      rintro ⟨z1, z2⟩
      rcases hg with hg | hg
      · exact h2 hg
      · refine hg ⟨z1, ?_⟩
        have q1 := (i_le _ _).mp z2
        rw [show (1 : Int32) = nI 1 from rfl, pk_sub_toInt (by omega) (by decide)] at q1
        rw [i_lt, nI_toInt (by omega)]
        omega
  unfold mi_X10_element
  simp only [r_isShelf, Option.bind_some, nI_clamp (show d < 2 ^ 31 by omega), vin (show d < 8 by omega), ab_chk_true, a2, a4, if_pos hx, if_neg (show ¬ (1 : Int32) = 0 by decide)]
  rw [e, Option.bind_some, if_pos rfl, Option.bind_some, if_pos rfl]
theorem o_element {σ : Sg} {p : Nat → Nat} {M : ab_M} (hI : InvS σ p M) (x y : Int32) : ∃ b M2, mi_X10_element (r_lel M x y).2 x y = some (b, M2) ∧ M2.1 69 0 = (r_lel M x y).1 ∧ ((r_lel M x y).1 = 0 → M2.2 96 0 = b) ∧ Inv M2 := by
  have hs := hI.2.2.2.2.2.2.2.2.2
  by_cases hx : 0 ≤ x ∧ x ≤ 7
  · obtain ⟨d, hd, rfl⟩ := ix_le (n := 7) (by decide) hx
    obtain ⟨hh, len, a1, a2, a3, a4, a5, a6, -, a8, a9, -⟩ := hs d (by omega)
    have ec : (nI d).toNatClampNeg = d := nI_clamp (by omega)
    by_cases hg : (nI hh = 3 ∨ nI hh = 4) ∧ 0 ≤ y ∧ y < nI len
    · obtain ⟨j, hj, rfl⟩ := ix_of (by omega) ⟨hg.2.1, hg.2.2⟩
      have hh34 : hh = 3 ∨ hh = 4 := by
        rcases a6 with rfl | rfl | rfl | rfl
        · exact absurd hg.1 (by decide)
        · exact absurd hg.1 (by decide)
        · exact Or.inl rfl
        · exact Or.inr rfl
      have hv : (if nI hh = 3 then (M.1 (35 + 4 * d + 2) j).toInt64 else M.2 (35 + 4 * d + 3) j) = M.2 94 (60 * d + j) := by
        rcases hh34 with rfl | rfl
        · rw [if_pos (show nI 3 = 3 from rfl), a8 rfl j hj]
        · rw [if_neg (by decide), a9 rfl j hj]
      have hr : r_lel M (nI d) (nI j) = (0, ab_pl M 96 0 (M.2 94 (60 * d + j))) := by
        unfold r_lel
        rw [if_pos hx, ec, a1, a3, if_pos hg, nI_clamp (show j < 2 ^ 31 by omega), hv]
      rw [hr]
      have he := r_el1 (ab_pl M 96 0 (M.2 94 (60 * d + j))) (d := d) (hh := hh) (len := len) (j := j) hd a2 a4 hh34 a5 hj
      refine ⟨_, _, he, pi_eq, fun _ => ?_, σ, p, (hI.out _).thr 0⟩
      show (if 96 = 96 ∧ 0 = 0 then M.2 94 (60 * d + j) else M.2 96 0) = (if 94 = 96 ∧ 60 * d + j = 0 then M.2 94 (60 * d + j) else M.2 94 (60 * d + j))
      rw [if_pos ⟨rfl, rfl⟩, ite_self]
    · have hr : r_lel M (nI d) y = (2, M) := by
        unfold r_lel
        rw [if_pos hx, ec, a1, a3, if_neg hg]
      rw [hr]
      have he := r_el2 M (d := d) (hh := hh) (len := len) (y := y) hd a2 a4 (by
        by_cases h2 : hh ≤ 2
        · exact Or.inl h2
        · right
          intro z
          refine hg ⟨?_, z⟩
          rcases a6 with rfl | rfl | rfl | rfl
          · omega
          · omega
          · exact Or.inl rfl
          · exact Or.inr rfl) a5 (by omega)
      exact ⟨_, _, he, pi_eq, fun h => absurd (show (2 : Int32) = 0 from h) (by decide), σ, p, hI.thr 2⟩
  · have hr : r_lel M x y = (1, M) := by
      unfold r_lel
      rw [if_neg hx]
    rw [hr]
    exact ⟨_, _, r_el0 M hx, pi_eq, fun h => absurd (show (1 : Int32) = 0 from h) (by decide), σ, p, hI.thr 1⟩
