/-! PURE: what a state of the office is (numbers by kinds), and what the document's words are of it -/
abbrev Sg : Type := Nat → Nat → Nat
abbrev g_nm (σ : Sg) : Nat := σ 0 0
abbrev g_nw (σ : Sg) : Nat := σ 0 1
abbrev g_nr (σ : Sg) : Nat := σ 0 2
abbrev g_own (σ : Sg) : Nat := σ 0 3
/-- how far sums reach, and one more -/
abbrev g_rc (σ : Sg) : Nat := σ 0 4
/-- the line, and one more -/
abbrev g_ln (σ : Sg) : Nat := σ 0 5
abbrev g_wd (σ : Sg) : Nat := σ 0 6
abbrev g_fs (σ : Sg) : Nat := σ 0 7
abbrev g_ss (σ : Sg) : Nat := σ 0 8
abbrev g_kd (σ : Sg) (m : Nat) : Nat := σ 1 m
abbrev g_px (σ : Sg) (m : Nat) : Nat := σ 2 m
abbrev g_py (σ : Sg) (m : Nat) : Nat := σ 3 m
abbrev g_pw (σ : Sg) (m : Nat) : Nat := σ 4 m
abbrev g_mn (σ : Sg) (m : Nat) : Nat := σ 5 m
abbrev g_fw (σ : Sg) (m : Nat) : Nat := σ 6 m
abbrev g_ls (σ : Sg) (m : Nat) : Nat := σ 7 m
abbrev g_gp (σ : Sg) (m : Nat) : Nat := σ 8 m
abbrev g_mo (σ : Sg) (w : Nat) : Nat := σ 9 w
/-- the channel on which a want is told to stay, and one more (0: none) -/
abbrev g_sy (σ : Sg) (w : Nat) : Nat := σ 10 w
abbrev g_rl (σ : Sg) (i : Nat) : Nat := σ 11 i
abbrev g_rp (σ : Sg) (i : Nat) : Nat := σ 12 i
abbrev g_rb (σ : Sg) (i : Nat) : Nat := σ 13 i
def sumN (f : Nat → Nat) : Nat → Nat
  | 0 => 0
  | n + 1 => sumN f n + f n
/-- the numbers are as the document has them -/
def Sok (σ : Sg) : Prop := g_nm σ ≤ 12 ∧ g_nw σ ≤ 16 ∧ g_nr σ ≤ 8 ∧ g_own σ ≤ 6 ∧ g_rc σ ≤ 10001 ∧ g_ln σ ≤ 61 ∧ g_wd σ ≤ 60 ∧ g_fs σ < 1073741824 ∧ g_ss σ < 1073741824 ∧
  (∀ m, m < g_nm σ → g_kd σ m ≤ 3 ∧ g_px σ m ≤ 60 ∧ g_py σ m ≤ 60 ∧ g_pw σ m ≤ 3 ∧ 1 ≤ g_mn σ m ∧ g_mn σ m ≤ 3 ∧ g_fw σ m = sumN (g_mn σ) m ∧ g_ls σ m < 1073741824 ∧ 1 ≤ g_gp σ m ∧ g_gp σ m ≤ 10) ∧
  g_nw σ = sumN (g_mn σ) (g_nm σ) ∧
  (∀ m, m < g_nm σ → ∀ i, i < g_mn σ m → g_mo σ (g_fw σ m + i) = m) ∧
  (∀ w, w < g_nw σ → g_mo σ w < g_nm σ ∧ g_fw σ (g_mo σ w) ≤ w ∧ w < g_fw σ (g_mo σ w) + g_mn σ (g_mo σ w) ∧ g_sy σ w ≤ 30) ∧
  (∀ i, i < g_nr σ → g_rl σ i ≤ 10000 ∧ g_rp σ i ≤ 6 ∧ g_rb σ i ≤ 4)
theorem Sok.nm {σ : Sg} (h : Sok σ) : g_nm σ ≤ 12 := h.1
theorem Sok.nw {σ : Sg} (h : Sok σ) : g_nw σ ≤ 16 := h.2.1
theorem Sok.nr {σ : Sg} (h : Sok σ) : g_nr σ ≤ 8 := h.2.2.1
theorem Sok.own {σ : Sg} (h : Sok σ) : g_own σ ≤ 6 := h.2.2.2.1
theorem Sok.rc {σ : Sg} (h : Sok σ) : g_rc σ ≤ 10001 := h.2.2.2.2.1
theorem Sok.ln {σ : Sg} (h : Sok σ) : g_ln σ ≤ 61 := h.2.2.2.2.2.1
theorem Sok.wd {σ : Sg} (h : Sok σ) : g_wd σ ≤ 60 := h.2.2.2.2.2.2.1
theorem Sok.fs {σ : Sg} (h : Sok σ) : g_fs σ < 1073741824 := h.2.2.2.2.2.2.2.1
theorem Sok.ss {σ : Sg} (h : Sok σ) : g_ss σ < 1073741824 := h.2.2.2.2.2.2.2.2.1
theorem Sok.mast {σ : Sg} (h : Sok σ) {m : Nat} (hm : m < g_nm σ) : g_kd σ m ≤ 3 ∧ g_px σ m ≤ 60 ∧ g_py σ m ≤ 60 ∧ g_pw σ m ≤ 3 ∧ 1 ≤ g_mn σ m ∧ g_mn σ m ≤ 3 ∧ g_fw σ m = sumN (g_mn σ) m ∧ g_ls σ m < 1073741824 ∧ 1 ≤ g_gp σ m ∧ g_gp σ m ≤ 10 := h.2.2.2.2.2.2.2.2.2.1 m hm
theorem Sok.want {σ : Sg} (h : Sok σ) {w : Nat} (hw : w < g_nw σ) : g_mo σ w < g_nm σ ∧ g_fw σ (g_mo σ w) ≤ w ∧ w < g_fw σ (g_mo σ w) + g_mn σ (g_mo σ w) ∧ g_sy σ w ≤ 30 := h.2.2.2.2.2.2.2.2.2.2.2.2.1 w hw
theorem Sok.row {σ : Sg} (h : Sok σ) {i : Nat} (hi : i < g_nr σ) : g_rl σ i ≤ 10000 ∧ g_rp σ i ≤ 6 ∧ g_rb σ i ≤ 4 := h.2.2.2.2.2.2.2.2.2.2.2.2.2 i hi
theorem Sok.mo {σ : Sg} (h : Sok σ) {w : Nat} (hw : w < g_nw σ) : g_mo σ w < g_nm σ := (h.want hw).1
theorem Sok.mo12 {σ : Sg} (h : Sok σ) {w : Nat} (hw : w < g_nw σ) : g_mo σ w < 12 := Nat.lt_of_lt_of_le (h.mo hw) h.nm
theorem Sok.w16 {σ : Sg} (h : Sok σ) {w : Nat} (hw : w < g_nw σ) : w < 16 := Nat.lt_of_lt_of_le hw h.nw
theorem Sok.m12 {σ : Sg} (h : Sok σ) {m : Nat} (hm : m < g_nm σ) : m < 12 := Nat.lt_of_lt_of_le hm h.nm
/-! the document's words -/
def sq (σ : Sg) (a b : Nat) : Nat := d2 (g_px σ a) (g_px σ b) + d2 (g_py σ a) (g_py σ b)
def rstep (σ : Sg) (s p i a : Nat) : Nat := if s ≤ g_rl σ i ∧ g_rp σ i ≤ p then max a (g_rb σ i) else a
theorem rstep_no {σ : Sg} {s p i a : Nat} (h : ¬ (s ≤ g_rl σ i ∧ g_rp σ i ≤ p)) : rstep σ s p i a = a := if_neg h
theorem rstep_yes {σ : Sg} {s p i a : Nat} (h : s ≤ g_rl σ i ∧ g_rp σ i ≤ p) : rstep σ s p i a = max a (g_rb σ i) := if_pos h
def bar (σ : Sg) (a b : Nat) : Nat := if a = b then g_own σ else fu (rstep σ (sq σ a b) (g_pw σ a + g_pw σ b)) (g_nr σ) 0 0
abbrev inn (σ : Sg) (a b c : Nat) : Prop := a ≠ b ∧ b ≠ c ∧ a ≠ c ∧ sq σ a b < g_rc σ ∧ sq σ b c < g_rc σ ∧ sq σ a c < g_rc σ
def gapW (σ : Sg) (w : Nat) : Nat := if g_kd σ (g_mo σ w) = 1 then g_gp σ (g_mo σ w) else 0
/-- the channels of a want that has c -/
def chs (σ : Sg) (w c : Nat) : List Nat := if g_kd σ (g_mo σ w) = 1 then [c, c + g_gp σ (g_mo σ w)] else [c]
/-- a plan: for each want 0, or its channel and one more -/
def pch (σ : Sg) (p : Nat → Nat) (w : Nat) : List Nat := if p w = 0 then [] else chs σ w (p w - 1)
def dst (x y : Nat) : Nat := (x - y) + (y - x)
def lackN (b : Nat) (X Y : List Nat) : Nat := X.foldl (fun a x => Y.foldl (fun a y => max a (b - dst x y)) a) 0
def mid (X Y Z : List Nat) : Nat := X.foldl (fun a x => Y.foldl (fun a y => Z.foldl (fun a z => a + if y + z = 2 * x then 1 else 0) a) a) 0
def s3 (X Y Z : List Nat) : Nat := mid X Y Z + mid Y X Z + mid Z X Y
/-- a set of channels has c -/
abbrev frB (σ : Sg) (m c : Nat) : Prop := ¬ (g_kd σ m = 3 ∧ g_ln σ ≠ 0 ∧ g_px σ m + 1 ≤ g_ln σ + g_wd σ ∧ g_ln σ ≤ g_px σ m + 1 + g_wd σ) ∨ (if g_px σ m + 1 < g_ln σ then g_fs σ else g_ss σ).testBit c = true
abbrev may (σ : Sg) (w c : Nat) : Prop := c < 30 ∧ (g_ls σ (g_mo σ w)).testBit c = true ∧ (g_kd σ (g_mo σ w) = 1 → c + g_gp σ (g_mo σ w) < 30 ∧ (g_ls σ (g_mo σ w)).testBit (c + g_gp σ (g_mo σ w)) = true) ∧ frB σ (g_mo σ w) c ∧ (g_sy σ w = 0 ∨ g_sy σ w = c + 1)
/-! how the model's cells hold it -/
def RepR (σ : Sg) (M : ab_M) : Prop := M.1 69 1 = nI (g_nm σ) ∧ M.1 69 10 = nI (g_nw σ) ∧ M.1 69 14 = nI (g_nr σ) ∧ M.1 69 18 = nI (g_own σ) ∧ M.1 69 19 = nI (g_rc σ) - 1 ∧ M.1 69 20 = nI (g_ln σ) - 1 ∧ M.1 69 21 = nI (g_wd σ) ∧ M.1 69 22 = nI (g_fs σ) ∧ M.1 69 23 = nI (g_ss σ) ∧
  (∀ m, m < g_nm σ → M.1 70 m = nI (g_kd σ m) ∧ M.1 71 m = nI (g_px σ m) ∧ M.1 72 m = nI (g_py σ m) ∧ M.1 73 m = nI (g_pw σ m) ∧ M.1 74 m = nI (g_mn σ m) ∧ M.1 75 m = nI (g_fw σ m) ∧ M.1 76 m = nI (g_ls σ m) ∧ M.1 77 m = nI (g_gp σ m)) ∧
  (∀ w, w < g_nw σ → M.1 78 w = nI (g_mo σ w) ∧ M.1 79 w = nI (g_sy σ w) - 1) ∧
  (∀ i, i < g_nr σ → M.1 81 i = nI (g_rl σ i) ∧ M.1 82 i = nI (g_rp σ i) ∧ M.1 83 i = nI (g_rb σ i))
/-- how the class's cells hold it; bars and nearness apart -/
def RepB (σ : Sg) (M : ab_M) : Prop := M.1 1 7 = nI (g_nm σ) ∧ M.1 1 8 = nI (g_nw σ) ∧ M.1 1 9 = nI (g_own σ) ∧ M.1 1 10 = nI (g_rc σ) - 1 ∧ M.1 5 3 = nI (g_nr σ) ∧ M.1 9 0 = nI (g_ln σ) - 1 ∧ M.1 9 1 = nI (g_wd σ) ∧ M.1 9 2 = nI (g_fs σ) ∧ M.1 9 3 = nI (g_ss σ) ∧
  (∀ m, m < g_nm σ → M.1 (12 + m) 0 = nI m ∧ M.1 (12 + m) 1 = nI (g_kd σ m) ∧ M.1 (12 + m) 2 = nI (g_px σ m) ∧ M.1 (12 + m) 3 = nI (g_py σ m) ∧ M.1 (12 + m) 4 = nI (g_pw σ m) ∧ M.1 (12 + m) 5 = nI (g_mn σ m) ∧ M.1 (12 + m) 6 = nI (g_fw σ m) ∧ M.1 (12 + m) 7 = nI (g_ls σ m) ∧ M.1 (12 + m) 8 = nI (g_gp σ m)) ∧
  (∀ w, w < g_nw σ → M.1 3 w = nI (g_mo σ w) ∧ M.1 4 w = pv (g_sy σ w)) ∧
  (∀ i, i < g_nr σ → M.1 6 i = nI (g_rl σ i) ∧ M.1 7 i = nI (g_rp σ i) ∧ M.1 8 i = nI (g_rb σ i))
/-- bars and nearness are kept ready -/
def RepC (σ : Sg) (M : ab_M) : Prop := RepB σ M ∧ (∀ a b, a < g_nm σ → b < g_nm σ → M.1 10 (12 * a + b) = nI (bar σ a b)) ∧ ∀ a, a < g_nm σ → ∀ i, i < 32 → ((M.1 11 a).toBitVec.getLsbD i = true ↔ i < g_nm σ ∧ a ≠ i ∧ sq σ a i < g_rc σ)
theorem sq_le {σ : Sg} (h : Sok σ) {a b : Nat} (ha : a < g_nm σ) (hb : b < g_nm σ) : sq σ a b ≤ 7200 := by
  have h1 := h.mast ha
  have h2 := h.mast hb
  have := d2_le h1.2.1 h2.2.1
  have := d2_le h1.2.2.1 h2.2.2.1
  unfold sq
  omega
theorem sq_comm (σ : Sg) (a b : Nat) : sq σ a b = sq σ b a := by unfold sq; rw [d2_comm, d2_comm (g_py σ a)]
/-! squares, bars: the model -/
theorem r_square {σ : Sg} {M : ab_M} (hS : Sok σ) (hR : RepR σ M) {a b : Nat} (ha : a < g_nm σ) (hb : b < g_nm σ) : mi_X10_square M (nI a) (nI b) = some (nI (sq σ a b)) := by
  have va := vin (hS.m12 ha)
  have vb := vin (hS.m12 hb)
  have ha12 := hS.m12 ha
  have hb12 := hS.m12 hb
  obtain ⟨-, -, -, -, -, -, -, -, -, hm, -⟩ := hR
  obtain ⟨-, xa, ya, -⟩ := hm a ha
  obtain ⟨-, xb, yb, -⟩ := hm b hb
  unfold mi_X10_square
  simp only [va, vb, ab_chk_true, nI_clamp (show a < 2 ^ 31 by omega), nI_clamp (show b < 2 ^ 31 by omega), xa, xb, ya, yb, nI_d2, nI_add]
  rfl
theorem c_square {σ : Sg} {M : ab_M} (hS : Sok σ) (hR : RepB σ M) {a b : Nat} (ha : a < g_nm σ) (hb : b < g_nm σ) : mi_X3_square M (nI a) (nI b) = some (nI (sq σ a b)) := by
  have va := vin (hS.m12 ha)
  have vb := vin (hS.m12 hb)
  have ha12 := hS.m12 ha
  have hb12 := hS.m12 hb
  obtain ⟨-, -, -, -, -, -, -, -, -, hm, -⟩ := hR
  obtain ⟨-, -, xa, ya, -⟩ := hm a ha
  obtain ⟨-, -, xb, yb, -⟩ := hm b hb
  unfold mi_X3_square
  simp only [va, vb, ab_chk_true, nI_clamp (show a < 2 ^ 31 by omega), nI_clamp (show b < 2 ^ 31 by omega), xa, xb, ya, yb, nI_d2, nI_add, Option.bind_some]
  rfl
theorem nI_max {a b : Nat} (ha : a < 2 ^ 31) (hb : b < 2 ^ 31) : ab_max (nI a) (nI b) = nI (max a b) := by
  unfold ab_max
  by_cases h : a < b
  · rw [if_pos (nI_lt h hb), Nat.max_eq_right (Nat.le_of_lt h)]
  · rw [if_neg (nI_nlt (Nat.not_lt.mp h) ha), Nat.max_eq_left (Nat.not_lt.mp h)]
theorem rfold_le {σ : Sg} (hS : Sok σ) {s p : Nat} : ∀ (k j a : Nat), j + k ≤ g_nr σ → a ≤ 4 → fu (rstep σ s p) k j a ≤ 4
  | 0, _, _, _, h => h
  | k + 1, j, a, hj, h => by
    have := (hS.row (show j < g_nr σ by omega)).2.2
    exact rfold_le hS k (j + 1) _ (by omega) (by unfold rstep; split <;> omega)
theorem bar_le {σ : Sg} (hS : Sok σ) (a b : Nat) : bar σ a b ≤ 6 := by
  unfold bar
  split
  · exact hS.own
  · have := rfold_le hS (s := sq σ a b) (p := g_pw σ a + g_pw σ b) (g_nr σ) 0 0 (by omega) (by omega)
    omega
theorem bar_comm (σ : Sg) (a b : Nat) : bar σ a b = bar σ b a := by
  unfold bar
  rw [sq_comm, Nat.add_comm (g_pw σ a)]
  by_cases h : a = b
  · rw [if_pos h, if_pos h.symm]
  · rw [if_neg h, if_neg (Ne.symm h)]
theorem c_greatest {σ : Sg} {M : ab_M} (hS : Sok σ) (hR : RepB σ M) {s p : Nat} (hs : s < 2 ^ 31) (hp : p < 2 ^ 31) : mi_X7_greatest M (nI s) (nI p) = some (nI (fu (rstep σ s p) (g_nr σ) 0 0)) := by
  have hnr := hS.nr
  obtain ⟨-, -, -, -, hr, -, -, -, -, -, -, hrows⟩ := hR
  have h := lp_up (fun n (a : Nat) x => mi_X7_greatest_5 n M (nI s) (nI p) (nI a) x) (g_nr σ) (rstep σ s p) (fun a => some (nI a, nI (g_nr σ))) (fun _ a => a ≤ 4) (fun n j a hj ha => by
    obtain ⟨e1, e2, e3⟩ := hrows j hj
    obtain ⟨l1, l2, l3⟩ := hS.row hj
    have vj : vp_in (nI j) 8 := vin (by omega)
    refine ⟨?_, by unfold rstep; split <;> omega⟩
    show mi_X7_greatest_5 (n + 1) M _ _ _ _ = _
    rw [mi_X7_greatest_5.eq_2]
    rw [hr, if_neg (nI_ge hj (by omega))]
    simp only [vj, ab_chk_true, nI_clamp (show j < 2 ^ 31 by omega), e1, e2, e3, nI_1, nI_max (show a < 2 ^ 31 by omega) (show g_rb σ j < 2 ^ 31 by omega)]
    by_cases h1 : g_rl σ j < s
    · rw [if_pos (nI_lt h1 hs), rstep_no (by omega), Option.bind_some]
    · rw [if_neg (nI_nlt (by omega) (by omega))]
      by_cases h2 : p < g_rp σ j
      · rw [if_pos (nI_lt h2 (by omega)), rstep_no (by omega), Option.bind_some]
      · rw [if_neg (nI_nlt (by omega) hp), rstep_yes (by omega), Option.bind_some]) (fun n a _ => by
    show mi_X7_greatest_5 (n + 1) M _ _ _ _ = _
    rw [mi_X7_greatest_5.eq_2]
    rw [hr, if_pos (nI_le (Nat.le_refl _) (by omega))]) (g_nr σ) 0 0 ab_F (by omega) (ab_F_lt (by omega)) (by omega)
  unfold mi_X7_greatest
  rw [show (0 : Int32) = nI 0 from rfl, h.1]
  rfl
theorem c_freshBar {σ : Sg} {M : ab_M} (hS : Sok σ) (hR : RepB σ M) {a b : Nat} (ha : a < g_nm σ) (hb : b < g_nm σ) : mi_X3_freshBar M (nI a) (nI b) = some (nI (bar σ a b)) := by
  have ha12 := hS.m12 ha
  have hb12 := hS.m12 hb
  have hpa := (hS.mast ha).2.2.2.1
  have hpb := (hS.mast hb).2.2.2.1
  unfold mi_X3_freshBar bar
  by_cases h : a = b
  · rw [if_pos (by rw [h]), if_pos h, hR.2.2.1]
  · rw [if_neg (fun q => h ((nI_eq (by omega) (by omega)).mp q)), if_neg h, c_square hS hR ha hb, Option.bind_some]
    have e1 := (hR.2.2.2.2.2.2.2.2.2.1 a ha).2.2.2.2.1
    have e2 := (hR.2.2.2.2.2.2.2.2.2.1 b hb).2.2.2.2.1
    have := sq_le hS ha hb
    simp only [vin ha12, vin hb12, ab_chk_true, nI_clamp (show a < 2 ^ 31 by omega), nI_clamp (show b < 2 ^ 31 by omega), e1, e2, nI_add]
    rw [c_greatest hS hR (by omega) (by omega)]
    rfl
theorem r_barOf {σ : Sg} {M : ab_M} (hS : Sok σ) (hR : RepR σ M) {a b : Nat} (ha : a < g_nm σ) (hb : b < g_nm σ) : mi_X10_barOf M (nI a) (nI b) = some (nI (bar σ a b)) := by
  have ha12 := hS.m12 ha
  have hb12 := hS.m12 hb
  have hnr := hS.nr
  have hpa := (hS.mast ha).2.2.2.1
  have hpb := (hS.mast hb).2.2.2.1
  have hsq := sq_le hS ha hb
  unfold mi_X10_barOf bar
  by_cases h : a = b
  · rw [if_pos (by rw [h]), if_pos h, hR.2.2.2.1]
  · rw [if_neg (fun q => h ((nI_eq (by omega) (by omega)).mp q)), if_neg h]
    have e1 := (hR.2.2.2.2.2.2.2.2.2.1 a ha).2.2.2.1
    have e2 := (hR.2.2.2.2.2.2.2.2.2.1 b hb).2.2.2.1
    have hr := hR.2.2.1
    have hsqr := r_square hS hR ha hb
    have hl := lp_up (fun n (z : Nat) x => mi_X10_barOf_15 n M (nI a) (nI b) (nI z) x) (g_nr σ) (rstep σ (sq σ a b) (g_pw σ a + g_pw σ b)) (fun z => some (nI z, nI (g_nr σ))) (fun _ z => z ≤ 4) (fun n j z hj hz => by
      obtain ⟨f1, f2, f3⟩ := hR.2.2.2.2.2.2.2.2.2.2.2 j hj
      obtain ⟨l1, l2, l3⟩ := hS.row hj
      refine ⟨?_, by unfold rstep; split <;> omega⟩
      show mi_X10_barOf_15 (n + 1) M _ _ _ _ = _
      rw [mi_X10_barOf_15.eq_2]
      rw [hr, if_neg (nI_ge hj (by omega)), hsqr]
      simp only [vin (show j < 8 by omega), vin ha12, vin hb12, ab_chk_true, Option.bind_some, nI_clamp (show j < 2 ^ 31 by omega), nI_clamp (show a < 2 ^ 31 by omega), nI_clamp (show b < 2 ^ 31 by omega), e1, e2, f1, f2, f3, nI_add, nI_1]
      by_cases h1 : g_rl σ j < sq σ a b
      · rw [if_pos (nI_lt h1 (by omega)), rstep_no (by omega), Option.bind_some, if_pos rfl, Option.bind_some]
      · rw [if_neg (nI_nlt (by omega) (by omega))]
        by_cases h2 : g_pw σ a + g_pw σ b < g_rp σ j
        · rw [if_pos (nI_lt h2 (by omega)), rstep_no (by omega), Option.bind_some, if_pos rfl, Option.bind_some]
        · rw [if_neg (nI_nlt (by omega) (by omega)), rstep_yes (by omega), Option.bind_some, if_neg (by decide)]
          by_cases h3 : g_rb σ j ≤ z
          · rw [if_pos (nI_le h3 (by omega)), Option.bind_some, Nat.max_eq_left h3]
          · rw [if_neg (nI_ge (by omega) (by omega)), Option.bind_some, Nat.max_eq_right (by omega)]) (fun n z _ => by
      show mi_X10_barOf_15 (n + 1) M _ _ _ _ = _
      rw [mi_X10_barOf_15.eq_2]
      rw [hr, if_pos (nI_le (Nat.le_refl _) (by omega))]) (g_nr σ) 0 0 ab_F (by omega) (ab_F_lt (by omega)) (by omega)
    rw [show (0 : Int32) = nI 0 from rfl, hl.1]
    rfl
