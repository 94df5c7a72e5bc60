/-! PURE: the invariant of the law's loop, and what keeps it -/
/-- the image: in the class and in the model -/
def Img (σ : Sg) (M : ab_M) : Prop := M.1 0 8 = M.1 69 31 ∧ (M.1 0 8 = -1 ∨ ∃ k, k ≤ g_nw σ ∧ M.1 0 8 = nI k ∧ ∀ w, w < k → M.1 68 w = M.1 89 w ∧ ∃ x, x ≤ 30 ∧ M.1 89 w = pv x)
def Tri (M : ab_M) : Prop := ∃ k, k ≤ 4000 ∧ M.1 26 5 = nI k ∧ M.1 69 25 = nI k
def wgt (num kd st wn di : Nat) : Nat := if kd = 1 then num + 5 * wn + st + di else if kd = 2 then num + 5 * wn + st + 100 else if kd = 3 then 2 * (num + 5 * wn + st) else num + 5 * wn + st
/-- one shelf -/
def Shf (M : ab_M) (d : Nat) : Prop := ∃ h len, M.1 (35 + 4 * d) 3 = nI h ∧ M.1 90 d = nI h ∧ M.1 (35 + 4 * d) 4 = nI len ∧ M.1 91 d = nI len ∧ len ≤ 60 ∧ (h = 0 ∨ h = 1 ∨ h = 3 ∨ h = 4) ∧
  (h = 1 → ∃ num kd st wn di, num < 12 ∧ kd ≤ 3 ∧ st ≤ 3 ∧ wn ≤ 3 ∧ di ≤ 10 ∧ M.1 (35 + 4 * d + 1) 0 = nI num ∧ M.1 (35 + 4 * d + 1) 1 = nI kd ∧ M.1 (35 + 4 * d + 1) 4 = nI st ∧ M.1 (35 + 4 * d + 1) 5 = nI wn ∧ M.1 (35 + 4 * d + 1) 8 = nI di ∧ M.1 92 d = nI (wgt num kd st wn di) ∧ M.1 93 d = if kd = 0 then -15 else nI num) ∧
  (h = 3 → ∀ i, i < len → M.2 94 (60 * d + i) = (M.1 (35 + 4 * d + 2) i).toInt64) ∧ (h = 4 → ∀ i, i < len → M.2 94 (60 * d + i) = M.2 (35 + 4 * d + 3) i) ∧
  ∀ i, i < 60 → fits .byte (.int (M.1 (35 + 4 * d + 2) i)) = true
def Shs (M : ab_M) : Prop := ∀ d, d < 8 → Shf M d
def InvS (σ : Sg) (p : Nat → Nat) (M : ab_M) : Prop := Sok σ ∧ Pok σ p ∧ RepC σ M ∧ RepR σ M ∧ PlC σ p 67 M ∧ PlR σ p M ∧ (∀ w, g_nw σ ≤ w → w < 16 → M.1 67 w = -2 ∧ M.1 4 w = -2) ∧ Img σ M ∧ Tri M ∧ Shs M
def Inv (M : ab_M) : Prop := ∃ σ p, InvS σ p M
/-! frames -/
theorem pi_ne {M : ab_M} {o k c j : Nat} {v : Int32} (h : ¬ (c = o ∧ j = k)) : (ab_pi M o k v).1 c j = M.1 c j := if_neg h
theorem pi_eq {M : ab_M} {o k : Nat} {v : Int32} : (ab_pi M o k v).1 o k = v := if_pos ⟨rfl, rfl⟩
def fR (c j : Nat) : Prop := (c = 69 ∧ (j = 1 ∨ j = 10 ∨ j = 14 ∨ (18 ≤ j ∧ j ≤ 23))) ∨ (70 ≤ c ∧ c ≤ 79) ∨ (81 ≤ c ∧ c ≤ 83)
def fB (c j : Nat) : Prop := (c = 1 ∧ 7 ≤ j ∧ j ≤ 10) ∨ (c = 5 ∧ j = 3) ∨ (c = 9 ∧ j ≤ 3) ∨ c = 3 ∨ c = 4 ∨ (6 ≤ c ∧ c ≤ 8) ∨ (12 ≤ c ∧ c ≤ 23)
def fC (c j : Nat) : Prop := fB c j ∨ c = 10 ∨ c = 11
theorem RepR.same {σ : Sg} {M M' : ab_M} (hS : Sok σ) (h : ∀ c j, fR c j → M'.1 c j = M.1 c j) (hR : RepR σ M) : RepR σ M' := by
  have hnm := hS.nm
  obtain ⟨h1, h2, h3, h4, h5, h6, h7, h8, h9, h10, h11, h12⟩ := hR
  have g : ∀ j, (j = 1 ∨ j = 10 ∨ j = 14 ∨ (18 ≤ j ∧ j ≤ 23)) → M'.1 69 j = M.1 69 j := fun j hj => h 69 j (Or.inl ⟨rfl, hj⟩)
  have g2 : ∀ c j, 70 ≤ c → c ≤ 79 → M'.1 c j = M.1 c j := fun c j a b => h c j (Or.inr (Or.inl ⟨a, b⟩))
  have g3 : ∀ c j, 81 ≤ c → c ≤ 83 → M'.1 c j = M.1 c j := fun c j a b => h c j (Or.inr (Or.inr ⟨a, b⟩))
  refine ⟨by rw [g 1 (by omega)]; exact h1, by rw [g 10 (by omega)]; exact h2, by rw [g 14 (by omega)]; exact h3, by rw [g 18 (by omega)]; exact h4, by rw [g 19 (by omega)]; exact h5, by rw [g 20 (by omega)]; exact h6, by rw [g 21 (by omega)]; exact h7, by rw [g 22 (by omega)]; exact h8, by rw [g 23 (by omega)]; exact h9, fun m hm => ?_, fun w hw => ?_, fun i hi => ?_⟩
  · rw [g2 70 m (by omega) (by omega), g2 71 m (by omega) (by omega), g2 72 m (by omega) (by omega), g2 73 m (by omega) (by omega), g2 74 m (by omega) (by omega), g2 75 m (by omega) (by omega), g2 76 m (by omega) (by omega), g2 77 m (by omega) (by omega)]
    exact h10 m hm
  · rw [g2 78 w (by omega) (by omega), g2 79 w (by omega) (by omega)]
    exact h11 w hw
  · rw [g3 81 i (by omega) (by omega), g3 82 i (by omega) (by omega), g3 83 i (by omega) (by omega)]
    exact h12 i hi
theorem RepB.same {σ : Sg} {M M' : ab_M} (hS : Sok σ) (h : ∀ c j, fB c j → M'.1 c j = M.1 c j) (hR : RepB σ M) : RepB σ M' := by
  obtain ⟨h1, h2, h3, h4, h5, h6, h7, h8, h9, h10, h11, h12⟩ := hR
  have g1 : ∀ j, 7 ≤ j → j ≤ 10 → M'.1 1 j = M.1 1 j := fun j a b => h 1 j (Or.inl ⟨rfl, a, b⟩)
  have g5 : M'.1 5 3 = M.1 5 3 := h 5 3 (by unfold fB; omega)
  have g9 : ∀ j, j ≤ 3 → M'.1 9 j = M.1 9 j := fun j a => h 9 j (by unfold fB; omega)
  refine ⟨by rw [g1 7 (by omega) (by omega)]; exact h1, by rw [g1 8 (by omega) (by omega)]; exact h2, by rw [g1 9 (by omega) (by omega)]; exact h3, by rw [g1 10 (by omega) (by omega)]; exact h4, by rw [g5]; exact h5, by rw [g9 0 (by omega)]; exact h6, by rw [g9 1 (by omega)]; exact h7, by rw [g9 2 (by omega)]; exact h8, by rw [g9 3 (by omega)]; exact h9, fun m hm => ?_, fun w hw => ?_, fun i hi => ?_⟩
  · have hm12 := hS.m12 hm
    have g : ∀ j, M'.1 (12 + m) j = M.1 (12 + m) j := fun j => h (12 + m) j (by unfold fB; omega)
    rw [g 0, g 1, g 2, g 3, g 4, g 5, g 6, g 7, g 8]
    exact h10 m hm
  · rw [h 3 w (by unfold fB; omega), h 4 w (by unfold fB; omega)]
    exact h11 w hw
  · rw [h 6 i (by unfold fB; omega), h 7 i (by unfold fB; omega), h 8 i (by unfold fB; omega)]
    exact h12 i hi
theorem RepC.same {σ : Sg} {M M' : ab_M} (hS : Sok σ) (h : ∀ c j, fC c j → M'.1 c j = M.1 c j) (hC : RepC σ M) : RepC σ M' := by
  refine ⟨hC.1.same hS (fun c j hc => h c j (Or.inl hc)), fun a b ha hb => ?_, fun a ha i hi => ?_⟩
  · rw [h 10 _ (Or.inr (Or.inl rfl))]; exact hC.2.1 a b ha hb
  · rw [h 11 _ (Or.inr (Or.inr rfl))]; exact hC.2.2 a ha i hi
theorem PlC.same {σ : Sg} {p : Nat → Nat} {t : Nat} {M M' : ab_M} (h : ∀ j, M'.1 t j = M.1 t j) (hP : PlC σ p t M) : PlC σ p t M' := fun w hw => by rw [h]; exact hP w hw
theorem PlR.same {σ : Sg} {p : Nat → Nat} {M M' : ab_M} (h : ∀ j, M'.1 80 j = M.1 80 j) (hP : PlR σ p M) : PlR σ p M' := fun w hw => by rw [h]; exact hP w hw
def fI (c j : Nat) : Prop := (c = 0 ∧ j = 8) ∨ (c = 69 ∧ j = 31) ∨ c = 68 ∨ c = 89
theorem Img.same {σ : Sg} {M M' : ab_M} (h : ∀ c j, fI c j → M'.1 c j = M.1 c j) (hI : Img σ M) : Img σ M' := by
  unfold Img at hI ⊢
  rw [h 0 8 (by unfold fI; omega), h 69 31 (by unfold fI; omega)]
  refine ⟨hI.1, hI.2.imp id ?_⟩
  rintro ⟨k, h1, h2, h3⟩
  refine ⟨k, h1, h2, fun w hw => ?_⟩
  rw [h 68 w (by unfold fI; omega), h 89 w (by unfold fI; omega)]
  exact h3 w hw
theorem Tri.same {M M' : ab_M} (h1 : M'.1 26 5 = M.1 26 5) (h2 : M'.1 69 25 = M.1 69 25) (hT : Tri M) : Tri M' := by
  obtain ⟨k, a, b, c⟩ := hT
  exact ⟨k, a, h1.trans b, h2.trans c⟩
def fS (c : Nat) : Prop := (35 ≤ c ∧ c ≤ 66) ∨ (90 ≤ c ∧ c ≤ 93)
theorem Shf.same {M M' : ab_M} {d : Nat} (hd : d < 8) (h : ∀ c j, fS c → M'.1 c j = M.1 c j) (h2 : ∀ c j, (fS c ∨ c = 94) → M'.2 c j = M.2 c j) (hs : Shf M d) : Shf M' d := by
  have g : ∀ k j, k < 4 → M'.1 (35 + 4 * d + k) j = M.1 (35 + 4 * d + k) j := fun k j hk => h _ j (by unfold fS; omega)
  have g0 : ∀ j, M'.1 (35 + 4 * d) j = M.1 (35 + 4 * d) j := fun j => g 0 j (by omega)
  have g9 : ∀ c, 90 ≤ c → c ≤ 93 → M'.1 c d = M.1 c d := fun c a b => h c d (by unfold fS; omega)
  obtain ⟨hh, len, a1, a2, a3, a4, a5, a6, a7, a8, a9, a10⟩ := hs
  refine ⟨hh, len, by rw [g0]; exact a1, by rw [g9 90 (by omega) (by omega)]; exact a2, by rw [g0]; exact a3, by rw [g9 91 (by omega) (by omega)]; exact a4, a5, a6, fun e => ?_, fun e i hi => ?_, fun e i hi => ?_, fun i hi => ?_⟩
  · obtain ⟨num, kd, st, wn, di, b1, b2, b3, b4, b5, b6, b7, b8, b9, b10, b11, b12⟩ := a7 e
    exact ⟨num, kd, st, wn, di, b1, b2, b3, b4, b5, by rw [g 1 0 (by omega)]; exact b6, by rw [g 1 1 (by omega)]; exact b7, by rw [g 1 4 (by omega)]; exact b8, by rw [g 1 5 (by omega)]; exact b9, by rw [g 1 8 (by omega)]; exact b10, by rw [g9 92 (by omega) (by omega)]; exact b11, by rw [g9 93 (by omega) (by omega)]; exact b12⟩
  · rw [h2 94 _ (Or.inr rfl), g 2 i (by omega)]; exact a8 e i hi
  · rw [h2 94 _ (Or.inr rfl), h2 (35 + 4 * d + 3) i (Or.inl (by unfold fS; omega))]; exact a9 e i hi
  · rw [g 2 i (by omega)]; exact a10 i hi
theorem Shs.same {M M' : ab_M} (h : ∀ c j, fS c → M'.1 c j = M.1 c j) (h2 : ∀ c j, (fS c ∨ c = 94) → M'.2 c j = M.2 c j) (hs : Shs M) : Shs M' := fun d hd => (hs d hd).same hd h h2
/-- all of the invariant's cells -/
def fA (c j : Nat) : Prop := fR c j ∨ fC c j ∨ c = 67 ∨ c = 80 ∨ fI c j ∨ (c = 26 ∧ j = 5) ∨ (c = 69 ∧ j = 25) ∨ fS c
theorem InvS.same {σ : Sg} {p : Nat → Nat} {M M' : ab_M} (h : ∀ c j, fA c j → M'.1 c j = M.1 c j) (h2 : ∀ c j, M'.2 c j = M.2 c j) (hI : InvS σ p M) : InvS σ p M' := by
  obtain ⟨a1, a2, a3, a4, a5, a6, a7, a8, a9, a10⟩ := hI
  refine ⟨a1, a2, a3.same a1 (fun c j hc => h c j (Or.inr (Or.inl hc))), a4.same a1 (fun c j hc => h c j (Or.inl hc)), a5.same (fun j => h 67 j (by unfold fA; omega)), a6.same (fun j => h 80 j (by unfold fA; omega)), fun w h1 h2 => ?_, a8.same (fun c j hc => h c j ?_), a9.same (h 26 5 (by unfold fA; omega)) (h 69 25 (by unfold fA; omega)), a10.same (fun c j hc => h c j ?_) (fun c j _ => h2 c j)⟩
  · rw [h 67 w (by unfold fA; omega), h 4 w (Or.inr (Or.inl (Or.inl (by unfold fB; omega))))]
    exact a7 w h1 h2
  · exact Or.inr (Or.inr (Or.inr (Or.inr (Or.inl hc))))
  · exact Or.inr (Or.inr (Or.inr (Or.inr (Or.inr (Or.inr (Or.inr hc))))))
/-- thrown is set -/
theorem fA_thrown {c j : Nat} (h : fA c j) : ¬ (c = 69 ∧ j = 0) := by
  unfold fA fR fC fB fI fS at h
  omega
theorem InvS.thr {σ : Sg} {p : Nat → Nat} {M : ab_M} (hI : InvS σ p M) (v : Int32) : InvS σ p (ab_pi M 69 0 v) := hI.same (fun c j hc => pi_ne (fA_thrown hc)) (fun _ _ => rfl)
/-! arguments -/
theorem w_eq (M : ab_M) (x a b : Int32) : mi_X9_within M x a b = some (if a ≤ x ∧ x ≤ b then 1 else 0) := by
  unfold mi_X9_within
  by_cases h1 : x < a
  · rw [if_pos h1, if_neg (fun q => Int32.not_le.mpr h1 q.1)]
  · rw [if_neg h1]
    by_cases h2 : b < x
    · rw [if_pos h2, if_neg (fun q => Int32.not_le.mpr h2 q.2)]
    · rw [if_neg h2, if_pos ⟨Int32.not_lt.mp h1, Int32.not_lt.mp h2⟩]
theorem c_hasMast {σ : Sg} {M : ab_M} (hC : RepB σ M) (x : Int32) : mi_X3_hasMast M x = some (if 0 ≤ x ∧ x < nI (g_nm σ) then 1 else 0) := by
  unfold mi_X3_hasMast
  rw [hC.1]
  by_cases h1 : x < 0
  · rw [if_pos h1, if_neg (fun q => Int32.not_le.mpr h1 q.1)]
  · rw [if_neg h1]
    by_cases h2 : nI (g_nm σ) ≤ x
    · rw [if_pos h2, if_neg (fun q => Int32.not_lt.mpr h2 q.2)]
    · rw [if_neg h2, if_pos ⟨Int32.not_lt.mp h1, Int32.not_le.mp h2⟩]
theorem c_hasWant {σ : Sg} {M : ab_M} (hC : RepB σ M) (x : Int32) : mi_X3_hasWant M x = some (if 0 ≤ x ∧ x < nI (g_nw σ) then 1 else 0) := by
  unfold mi_X3_hasWant
  rw [hC.2.1]
  by_cases h1 : x < 0
  · rw [if_pos h1, if_neg (fun q => Int32.not_le.mpr h1 q.1)]
  · rw [if_neg h1]
    by_cases h2 : nI (g_nw σ) ≤ x
    · rw [if_pos h2, if_neg (fun q => Int32.not_lt.mpr h2 q.2)]
    · rw [if_neg h2, if_pos ⟨Int32.not_lt.mp h1, Int32.not_le.mp h2⟩]
theorem r_isMast {σ : Sg} {M : ab_M} (hR : RepR σ M) (x : Int32) : mi_X10_isMast M x = some (if 0 ≤ x ∧ x < nI (g_nm σ) then 1 else 0) := by
  unfold mi_X10_isMast
  rw [hR.1]
  by_cases h1 : x < 0
  · rw [if_pos h1, if_neg (fun q => Int32.not_le.mpr h1 q.1)]
  · rw [if_neg h1]
    by_cases h2 : nI (g_nm σ) ≤ x
    · rw [if_pos h2, if_neg (fun q => Int32.not_lt.mpr h2 q.2)]
    · rw [if_neg h2, if_pos ⟨Int32.not_lt.mp h1, Int32.not_le.mp h2⟩]
theorem r_isWant {σ : Sg} {M : ab_M} (hR : RepR σ M) (x : Int32) : mi_X10_isWant M x = some (if 0 ≤ x ∧ x < nI (g_nw σ) then 1 else 0) := by
  unfold mi_X10_isWant
  rw [hR.2.1]
  by_cases h1 : x < 0
  · rw [if_pos h1, if_neg (fun q => Int32.not_le.mpr h1 q.1)]
  · rw [if_neg h1]
    by_cases h2 : nI (g_nw σ) ≤ x
    · rw [if_pos h2, if_neg (fun q => Int32.not_lt.mpr h2 q.2)]
    · rw [if_neg h2, if_pos ⟨Int32.not_lt.mp h1, Int32.not_le.mp h2⟩]
/-- an int within 0 and a bound is a number -/
theorem ix_of {x : Int32} {n : Nat} (hn : n < 2 ^ 31) (h : 0 ≤ x ∧ x < nI n) : ∃ j, j < n ∧ x = nI j := by
  rcases pk_ix x hn with h1 | h1 | h1
  · exact absurd h.1 (Int32.not_le.mpr h1)
  · exact absurd h.2 (Int32.not_lt.mpr h1)
  · exact h1
theorem ix_le {x : Int32} {n : Nat} (hn : n < 2 ^ 30) (h : 0 ≤ x ∧ x ≤ nI n) : ∃ j, j ≤ n ∧ x = nI j := by
  obtain ⟨j, h1, h2⟩ := ix_of (x := x) (n := n + 1) (by omega) ⟨h.1, by rw [i_lt, nI_toInt (by omega)]; have := (i_le _ _).mp h.2; rw [nI_toInt (by omega)] at this; omega⟩
  exact ⟨j, by omega, h2⟩
