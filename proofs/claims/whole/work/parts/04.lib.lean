/-! small words of the mirrors, and the rules for the JDK's members -/
section ABlib
variable {l : Launch} {D : va_G} {ac : Nat → ClassId} {d : Nat} {me : ab_Me} {n0 mc ms : Nat} {r : ab_Rs} {k n : Nat} {sh : ab_H} {pc : Nat} {lv lv' : List (Option Value)} {st : List Value} {M : ab_M}
/-- how often a loop may go round, more than enough -/
def ab_F : Nat := 100000
noncomputable def ab_chk {α : Type} (c : Prop) (t : Option α) : Option α := @ite _ c (Classical.propDecidable c) t none
theorem ab_chk_some {α : Type} {c : Prop} {t : Option α} {r : α} (h : ab_chk c t = some r) : c ∧ t = some r := by
  unfold ab_chk at h
  split at h
  · exact ⟨by assumption, h⟩
  · cases h
theorem ab_chk_pos {α : Type} {c : Prop} {t : Option α} (h : c) : ab_chk c t = t := if_pos h
theorem ab_pos {α : Type} {c : Prop} [Decidable c] {a b : α} {r : α} (hc : c) (h : (if c then a else b) = r) : a = r := by rw [if_pos hc] at h; exact h
theorem ab_neg {α : Type} {c : Prop} [Decidable c] {a b : α} {r : α} (hc : ¬ c) (h : (if c then a else b) = r) : b = r := by rw [if_neg hc] at h; exact h
theorem ab_bind {α β : Type} {a : Option α} {f : α → Option β} {r : β} (h : a.bind f = some r) : ∃ x, a = some x ∧ f x = some r := by
  cases a with
  | none => cases h
  | some x => exact ⟨x, rfl, h⟩
theorem ab_elim {α β γ : Type} {f : α → Option γ} {g : β → Option γ} {q : Sum α β} {r : γ} (h : Sum.elim f g q = some r) : (∃ y, q = .inl y ∧ f y = some r) ∨ ∃ v, q = .inr v ∧ g v = some r := by
  cases q with
  | inl y => exact Or.inl ⟨y, rfl, h⟩
  | inr v => exact Or.inr ⟨v, rfl, h⟩
abbrev ab_ushr (x y : Int32) : Int32 := (x.toUInt32 >>> (y.toUInt32 &&& Int32.toUInt32 31)).toInt32
abbrev ab_lshl (x : Int64) (y : Int32) : Int64 := x <<< (y.toInt64 &&& 63)
abbrev ab_lushr (x : Int64) (y : Int32) : Int64 := (x.toUInt64 >>> (y.toInt64.toUInt64 &&& Int64.toUInt64 63)).toInt64
abbrev ab_i2b (x : Int32) : Int32 := x.toInt8.toInt32
abbrev ab_rem (x y : Int32) : Int32 := x - x / y * y
abbrev ab_max (x y : Int32) : Int32 := if x < y then y else x
abbrev ab_min (x y : Int32) : Int32 := if y < x then y else x
abbrev ab_abs (x : Int32) : Int32 := if 0 ≤ x then x else 0 - x
def ab_cpi (M : ab_M) (o1 o2 : Nat) (sp dp nn : Int32) : ab_M := (fun a b => if a = o2 then va_cpy (M.1 o1) (M.1 o2) sp.toNatClampNeg dp.toNatClampNeg nn.toNatClampNeg b else M.1 a b, M.2)
def ab_cpl (M : ab_M) (o1 o2 : Nat) (sp dp nn : Int32) : ab_M := (M.1, fun a b => if a = o2 then va_cpy (M.2 o1) (M.2 o2) sp.toNatClampNeg dp.toNatClampNeg nn.toNatClampNeg b else M.2 a b)
theorem ev_dup2 {v w : Value} (hd : decode me.2.2.1 pc = .ok (.dup2, 1)) (hv : v.category = 1) (hw : w.category = 1) (kk : ab_Ev l D ac d me n0 mc ms r k n sh (pc + 1) lv (v :: w :: v :: w :: st) M) : ab_Ev l D ac d me n0 mc ms r k n sh pc lv (v :: w :: st) M := fun p e s m args below meth c H locs A ad ls C S L => lv_dup2_11 C.1 C.2.1 hd ((ab_vc ad v).trans hv) ((ab_vc ad w).trans hw) (kk p e s m args below meth c H locs A ad ls C S L)
theorem ev_nmi {a b : Int32} (h : a = b) (kk : ab_Ev l D ac d me n0 mc ms r k n sh pc lv (.int b :: st) M) : ab_Ev l D ac d me n0 mc ms r k n sh pc lv (.int a :: st) M := by subst h; exact kk
theorem ev_nmr {a b : Nat} (h : a = b) (kk : ab_Ev l D ac d me n0 mc ms r k n sh pc lv (.ref b :: st) M) : ab_Ev l D ac d me n0 mc ms r k n sh pc lv (.ref a :: st) M := by subst h; exact kk
theorem ev_nml {a b : Int64} (h : a = b) (kk : ab_Ev l D ac d me n0 mc ms r k n sh pc lv (.long b :: st) M) : ab_Ev l D ac d me n0 mc ms r k n sh pc lv (.long a :: st) M := by subst h; exact kk
theorem gw_mmax_s : Cond.static Lib.Math.max.name ∈ ab_G := (ab_G_in (i := 412) (by decide +kernel) (by decide +kernel))
theorem gw_mmax_c : Cond.code Lib.Math.max.name Lib.Math.max.code 2 (some .int) ∈ ab_G := (ab_G_in (i := 413) (by decide +kernel) (by decide +kernel))
theorem gw_mmin_s : Cond.static Lib.Math.min.name ∈ ab_G := (ab_G_in (i := 663) (by decide +kernel) (by decide +kernel))
theorem gw_mmin_c : Cond.code Lib.Math.min.name Lib.Math.min.code 2 (some .int) ∈ ab_G := (ab_G_in (i := 664) (by decide +kernel) (by decide +kernel))
theorem gw_mabs_s : Cond.static Lib.Math.abs.name ∈ ab_G := (ab_G_in (i := 500) (by decide +kernel) (by decide +kernel))
theorem gw_mabs_c : Cond.code Lib.Math.abs.name Lib.Math.abs.code 1 (some .int) ∈ ab_G := (ab_G_in (i := 501) (by decide +kernel) (by decide +kernel))
theorem gw_math : Cond.initialized "java/lang/Math" ∈ ab_G := (ab_G_in (i := 73) (by decide +kernel) (by decide +kernel))
theorem gw_acN : Cond.native arraycopyName ∈ ab_G := (ab_G_in (i := 648) (by decide +kernel) (by decide +kernel))
theorem gw_acS : Cond.static arraycopyName ∈ ab_G := (ab_G_in (i := 647) (by decide +kernel) (by decide +kernel))
theorem gw_sys : Cond.initialized "java/lang/System" ∈ ab_G := (ab_G_in (i := 75) (by decide +kernel) (by decide +kernel))
theorem ev_max {idx : Nat} {x y : Int32} (hl : Cond.methodLink me.2.1 idx Lib.Math.max.name ∈ ab_G) (hd : decode me.2.2.1 pc = .ok (.invokestatic idx, 3)) (hdd : 1 < d) (hst : (st.map fun v => v.category).sum ≤ 8) (hkn : k ≤ mc ∧ n ≤ ms) (kk : ab_Ev l D ac d me n0 mc ms r k n sh (pc + 3) lv (.int (ab_max x y) :: st) M) : ab_Ev l D ac d me n0 mc ms r k n sh pc lv (.int y :: .int x :: st) M := by
  intro p e s m args below meth c H locs A ad ls C S L
  obtain ⟨hx, hb, hrt, hml, hown, hts, -⟩ := id C
  have hw : ∀ w, w ∈ ab_G → w.before args s = true := fun w h => hts w (List.mem_cons_of_mem _ h)
  exact va_mmax hx hb (hml.trans L.1.symm) hown (hw _ hl) (hw _ gw_mmax_s) (hw _ gw_math) (hw _ gw_mmax_c) (by show 1 ≤ d; omega) (by rw [ab_vcs]; show _ + 13 ≤ 48 * d; omega) hkn.1 hkn.2 hd (kk p e s m args below meth c H locs A ad ls C S L)
theorem ev_min {idx : Nat} {x y : Int32} (hl : Cond.methodLink me.2.1 idx Lib.Math.min.name ∈ ab_G) (hd : decode me.2.2.1 pc = .ok (.invokestatic idx, 3)) (hdd : 1 < d) (hst : (st.map fun v => v.category).sum ≤ 8) (hkn : k ≤ mc ∧ n ≤ ms) (kk : ab_Ev l D ac d me n0 mc ms r k n sh (pc + 3) lv (.int (ab_min x y) :: st) M) : ab_Ev l D ac d me n0 mc ms r k n sh pc lv (.int y :: .int x :: st) M := by
  intro p e s m args below meth c H locs A ad ls C S L
  obtain ⟨hx, hb, hrt, hml, hown, hts, -⟩ := id C
  have hw : ∀ w, w ∈ ab_G → w.before args s = true := fun w h => hts w (List.mem_cons_of_mem _ h)
  exact va_mmin hx hb (hml.trans L.1.symm) hown (hw _ hl) (hw _ gw_mmin_s) (hw _ gw_math) (hw _ gw_mmin_c) (by show 1 ≤ d; omega) (by rw [ab_vcs]; show _ + 13 ≤ 48 * d; omega) hkn.1 hkn.2 hd (kk p e s m args below meth c H locs A ad ls C S L)
theorem ev_abs {idx : Nat} {x : Int32} (hl : Cond.methodLink me.2.1 idx Lib.Math.abs.name ∈ ab_G) (hd : decode me.2.2.1 pc = .ok (.invokestatic idx, 3)) (hdd : 1 < d) (hst : (st.map fun v => v.category).sum ≤ 8) (hkn : k ≤ mc ∧ n ≤ ms) (kk : ab_Ev l D ac d me n0 mc ms r k n sh (pc + 3) lv (.int (ab_abs x) :: st) M) : ab_Ev l D ac d me n0 mc ms r k n sh pc lv (.int x :: st) M := by
  intro p e s m args below meth c H locs A ad ls C S L
  obtain ⟨hx, hb, hrt, hml, hown, hts, -⟩ := id C
  have hw : ∀ w, w ∈ ab_G → w.before args s = true := fun w h => hts w (List.mem_cons_of_mem _ h)
  exact va_mabs hx hb (hml.trans L.1.symm) hown (hw _ hl) (hw _ gw_mabs_s) (hw _ gw_math) (hw _ gw_mabs_c) (by show 1 ≤ d; omega) (by rw [ab_vcs]; show _ + 13 ≤ 48 * d; omega) hkn.1 hkn.2 hd (kk p e s m args below meth c H locs A ad ls C S L)
theorem ab_cell_cp {ac : Nat → ClassId} {ad : Nat → Nat} {M : ab_M} {o1 o2 j : Nat} {sp dp nn : Int32} {y : ab_S} (h : j ≠ o2) : ab_cell ac ad (ab_cpi M o1 o2 sp dp nn) j y = ab_cell ac ad M j y := by
  have h1 : (ab_cpi M o1 o2 sp dp nn).1 j = M.1 j := by funext b; simp [ab_cpi, h]
  have h2 : (ab_cpi M o1 o2 sp dp nn).2 = M.2 := rfl
  unfold ab_cell
  rw [h1, h2]
  have h3 : ab_fv ad (ab_cpi M o1 o2 sp dp nn) j y = ab_fv ad M j y := by funext b; simp [ab_fv, h1]
  rw [h3]
theorem ab_cell_cpl {ac : Nat → ClassId} {ad : Nat → Nat} {M : ab_M} {o1 o2 j : Nat} {sp dp nn : Int32} {y : ab_S} (h : j ≠ o2) : ab_cell ac ad (ab_cpl M o1 o2 sp dp nn) j y = ab_cell ac ad M j y := by
  have h1 : (ab_cpl M o1 o2 sp dp nn).2 j = M.2 j := by funext b; simp [ab_cpl, h]
  have h2 : (ab_cpl M o1 o2 sp dp nn).1 = M.1 := rfl
  unfold ab_cell
  rw [h1, h2]
  have h3 : ab_fv ad (ab_cpl M o1 o2 sp dp nn) j y = ab_fv ad M j y := by funext b; simp [ab_fv, h2]
  rw [h3]
theorem ab_nfw : nativeFrameWords "java/lang/System" "arraycopy" 5 ≤ 60 := by decide
theorem ev_copyi {idx o1 o2 n1 n2 : Nat} {rf1 rf2 : List (Option Nat)} {sp dp nn : Int32} (hl : Cond.methodLink me.2.1 idx arraycopyName ∈ ab_G) (h1 : sh[o1]? = some (100, n1, rf1)) (h2 : sh[o2]? = some (100, n2, rf2)) (hb : ¬ sp < 0 ∧ ¬ dp < 0 ∧ ¬ nn < 0 ∧ sp.toNatClampNeg + nn.toNatClampNeg ≤ n1 ∧ dp.toNatClampNeg + nn.toNatClampNeg ≤ n2) (hd : decode me.2.2.1 pc = .ok (.invokestatic idx, 3)) (hdd : 1 < d) (hst : (st.map fun v => v.category).sum ≤ 8) (kk : ab_Ev l D ac d me n0 mc ms r k n sh (pc + 3) lv st (ab_cpi M o1 o2 sp dp nn)) : ab_Ev l D ac d me n0 mc ms r k n sh pc lv (.int nn :: .int dp :: .ref o2 :: .int sp :: .ref o1 :: st) M := by
  intro p e s m args below meth c H locs A ad ls C S L
  obtain ⟨hx, hbb, hrt, hml, hown, hts, -, -, hK, -⟩ := id C
  obtain ⟨hP, hD, hS, hA⟩ := S
  obtain ⟨b1, b2, b3, b4, b5⟩ := hb
  have hw : ∀ w, w ∈ ab_G → w.before args s = true := fun w h => hts w (List.mem_cons_of_mem _ h)
  have hset : (ab_W ac ad sh M).set o2 (ad o2, .inl (ac 100, n2, .inl (va_cpy (M.1 o1) (M.1 o2) sp.toNatClampNeg dp.toNatClampNeg nn.toNatClampNeg))) = ab_W ac ad sh (ab_cpi M o1 o2 sp dp nn) := ab_W_set h2 (by rw [ab_ci, show (ab_cpi M o1 o2 sp dp nn).1 o2 = va_cpy (M.1 o1) (M.1 o2) sp.toNatClampNeg dp.toNatClampNeg nn.toNatClampNeg by funext b; simp [ab_cpi]]) (fun j y hj => ab_cell_cp hj)
  have hn := ab_nfw
  refine va_copyi hx hbb (hml.trans L.1.symm) hown (hw _ hl) (hw _ gw_acN) (hw _ gw_acS) (hw _ gw_sys) hK hP hD hS o1 o2 0 0 ((ab_W_get h1).trans (by rw [ab_ci])) ((ab_W_get h2).trans (by rw [ab_ci])) rfl rfl rfl b1 b2 b3 b4 b5 (fun _ _ => rfl) (by show 1 ≤ d; omega) (by rw [ab_vcs]; show _ ≤ 48 * d; omega) hd (fun H1 locs1 hP hD hS => ?_)
  rw [hset] at hP hD
  exact kk p e s m args below meth c H1 locs1 A ad ls C ⟨hP, hD, hS, hA⟩ L
theorem ev_copyb {idx o1 o2 n1 n2 : Nat} {rf1 rf2 : List (Option Nat)} {sp dp nn : Int32} (hl : Cond.methodLink me.2.1 idx arraycopyName ∈ ab_G) (h1 : sh[o1]? = some (101, n1, rf1)) (h2 : sh[o2]? = some (101, n2, rf2)) (hb : ¬ sp < 0 ∧ ¬ dp < 0 ∧ ¬ nn < 0 ∧ sp.toNatClampNeg + nn.toNatClampNeg ≤ n1 ∧ dp.toNatClampNeg + nn.toNatClampNeg ≤ n2 ∧ ∀ i, i < nn.toNatClampNeg → fits .byte (.int (M.1 o1 (sp.toNatClampNeg + i))) = true) (hd : decode me.2.2.1 pc = .ok (.invokestatic idx, 3)) (hdd : 1 < d) (hst : (st.map fun v => v.category).sum ≤ 8) (kk : ab_Ev l D ac d me n0 mc ms r k n sh (pc + 3) lv st (ab_cpi M o1 o2 sp dp nn)) : ab_Ev l D ac d me n0 mc ms r k n sh pc lv (.int nn :: .int dp :: .ref o2 :: .int sp :: .ref o1 :: st) M := by
  intro p e s m args below meth c H locs A ad ls C S L
  obtain ⟨hx, hbb, hrt, hml, hown, hts, -, -, hK, -⟩ := id C
  obtain ⟨hP, hD, hS, hA⟩ := S
  obtain ⟨b1, b2, b3, b4, b5, b6⟩ := hb
  have hw : ∀ w, w ∈ ab_G → w.before args s = true := fun w h => hts w (List.mem_cons_of_mem _ h)
  have hset : (ab_W ac ad sh M).set o2 (ad o2, .inl (ac 101, n2, .inl (va_cpy (M.1 o1) (M.1 o2) sp.toNatClampNeg dp.toNatClampNeg nn.toNatClampNeg))) = ab_W ac ad sh (ab_cpi M o1 o2 sp dp nn) := ab_W_set h2 (by rw [ab_cb, show (ab_cpi M o1 o2 sp dp nn).1 o2 = va_cpy (M.1 o1) (M.1 o2) sp.toNatClampNeg dp.toNatClampNeg nn.toNatClampNeg by funext b; simp [ab_cpi]]) (fun j y hj => ab_cell_cp hj)
  have hn := ab_nfw
  refine va_copyi hx hbb (hml.trans L.1.symm) hown (hw _ hl) (hw _ gw_acN) (hw _ gw_acS) (hw _ gw_sys) hK hP hD hS o1 o2 1 1 ((ab_W_get h1).trans (by rw [ab_cb])) ((ab_W_get h2).trans (by rw [ab_cb])) rfl rfl rfl b1 b2 b3 b4 b5 b6 (by show 1 ≤ d; omega) (by rw [ab_vcs]; show _ ≤ 48 * d; omega) hd (fun H1 locs1 hP hD hS => ?_)
  rw [hset] at hP hD
  exact kk p e s m args below meth c H1 locs1 A ad ls C ⟨hP, hD, hS, hA⟩ L
theorem ev_copyl {idx o1 o2 n1 n2 : Nat} {rf1 rf2 : List (Option Nat)} {sp dp nn : Int32} (hl : Cond.methodLink me.2.1 idx arraycopyName ∈ ab_G) (h1 : sh[o1]? = some (102, n1, rf1)) (h2 : sh[o2]? = some (102, n2, rf2)) (hb : ¬ sp < 0 ∧ ¬ dp < 0 ∧ ¬ nn < 0 ∧ sp.toNatClampNeg + nn.toNatClampNeg ≤ n1 ∧ dp.toNatClampNeg + nn.toNatClampNeg ≤ n2) (hd : decode me.2.2.1 pc = .ok (.invokestatic idx, 3)) (hdd : 1 < d) (hst : (st.map fun v => v.category).sum ≤ 8) (kk : ab_Ev l D ac d me n0 mc ms r k n sh (pc + 3) lv st (ab_cpl M o1 o2 sp dp nn)) : ab_Ev l D ac d me n0 mc ms r k n sh pc lv (.int nn :: .int dp :: .ref o2 :: .int sp :: .ref o1 :: st) M := by
  intro p e s m args below meth c H locs A ad ls C S L
  obtain ⟨hx, hbb, hrt, hml, hown, hts, -, -, hK, -⟩ := id C
  obtain ⟨hP, hD, hS, hA⟩ := S
  obtain ⟨b1, b2, b3, b4, b5⟩ := hb
  have hw : ∀ w, w ∈ ab_G → w.before args s = true := fun w h => hts w (List.mem_cons_of_mem _ h)
  have hset : (ab_W ac ad sh M).set o2 (ad o2, .inl (ac 102, n2, .inr (.inl (va_cpy (M.2 o1) (M.2 o2) sp.toNatClampNeg dp.toNatClampNeg nn.toNatClampNeg)))) = ab_W ac ad sh (ab_cpl M o1 o2 sp dp nn) := ab_W_set h2 (by rw [ab_cl, show (ab_cpl M o1 o2 sp dp nn).2 o2 = va_cpy (M.2 o1) (M.2 o2) sp.toNatClampNeg dp.toNatClampNeg nn.toNatClampNeg by funext b; simp [ab_cpl]]) (fun j y hj => ab_cell_cpl hj)
  have hn := ab_nfw
  refine va_copyl hx hbb (hml.trans L.1.symm) hown (hw _ hl) (hw _ gw_acN) (hw _ gw_acS) (hw _ gw_sys) hK hP hD hS o1 o2 2 2 ((ab_W_get h1).trans (by rw [ab_cl])) ((ab_W_get h2).trans (by rw [ab_cl])) rfl rfl rfl b1 b2 b3 b4 b5 (fun _ _ => rfl) (by show 1 ≤ d; omega) (by rw [ab_vcs]; show _ ≤ 48 * d; omega) hd (fun H1 locs1 hP hD hS => ?_)
  rw [hset] at hP hD
  exact kk p e s m args below meth c H1 locs1 A ad ls C ⟨hP, hD, hS, hA⟩ L
end ABlib
