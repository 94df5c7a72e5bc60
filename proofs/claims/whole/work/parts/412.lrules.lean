/-! the law's own rules: its script, its makings, its calls, its end -/
section ABlaw
def Zl : ab_Zt := fun below args s _ _ => lw_Z below args s
def Yl (b L : Nat) (xs : Nat → Int32) : ab_Yt := fun args s _ A ad => args = #[.ref b] ∧ ad 97 = b ∧ va_X b L xs s s.heap ∧ b < s.heap.size ∧ A = (fun q => s.heap.size ≤ q) ∧ ab_X A s s.heap
abbrev EL (b L : Nat) (xs : Nat → Int32) (l : Launch) (D : va_G) (ac : Nat → ClassId) (k n : Nat) (sh : ab_H) (pc : Nat) (lv : List (Option Value)) (st : List Value) (M : ab_M) : Prop := ab_Eg Zl (Yl b L xs) l D ac room_1 me_L_law k n sh pc lv st M
variable {b L : Nat} {xs : Nat → Int32} {l : Launch} {D : va_G} {ac : Nat → ClassId} {k n : Nat} {sh sh1 : ab_H} {pc : Nat} {lv lv' : List (Option Value)} {st : List Value} {M : ab_M} {me : ab_Me} {R : Room} {Z : ab_Zt} {Y : ab_Yt}
theorem el_sld {i : Int32} (hin : vp_in i L) (hd : decode cL_law pc = .ok (.iaload, 1)) (kk : EL b L xs l D ac k n sh (pc + 1) lv (.int (xs i.toNatClampNeg) :: st) M) : EL b L xs l D ac k n sh pc lv (.int i :: .ref 97 :: st) M := by
  intro p e s m args below meth c H locs A ad ls C y S Lc
  have kk := kk p e s m args below meth c H locs A ad ls C y S Lc
  obtain ⟨ya, yb, yX, yl, yA, yx⟩ := y
  show W p l e room_1 s m args below meth c H locs k n _ (F0 m pc ls (.int i :: .ref (ad 97) :: st.map (ab_v ad)))
  rw [yb]
  exact va_sld C.1 C.2.1 yX yl (by rw [yA]; exact Nat.not_le.mpr yl) S.2.2.1 hin hd kk
theorem el_slen (hd : decode cL_law pc = .ok (.arraylength, 1)) (kk : EL b L xs l D ac k n sh (pc + 1) lv (.int (Int32.ofNat L) :: st) M) : EL b L xs l D ac k n sh pc lv (.ref 97 :: st) M := by
  intro p e s m args below meth c H locs A ad ls C y S Lc
  have kk := kk p e s m args below meth c H locs A ad ls C y S Lc
  obtain ⟨ya, yb, yX, yl, yA, yx⟩ := y
  show W p l e room_1 s m args below meth c H locs k n _ (F0 m pc ls (.ref (ad 97) :: st.map (ab_v ad)))
  rw [yb]
  exact va_slen C.1 C.2.1 yX yl (by rw [yA]; exact Nat.not_le.mpr yl) S.2.2.1 hd kk
theorem el_end (hd : decode cL_law pc = .ok (.ireturn, 1)) (hk : k ≤ 601024 ∧ n ≤ 7293034) : EL b L xs l D ac k n sh pc lv [.int 1] M := by
  intro p e s m args below meth c H locs A ad ls C y S Lc
  obtain ⟨ya, yb, yX, yl, yA, yx⟩ := y
  subst ya
  have hS := S.2.2.1.2.2
  subst yA
  refine va_forget (fun q hq => hS q hq) ?_
  refine W.widen hk.1 hk.2 ?_
  exact lw_ret C.1 C.2.1 C.2.2.1 C.2.2.2.2.2.2.1 hd
/-! calls of methods with a table, that return -/
theorem eg_callWV {me' : ab_Me} {hh : List (Nat × Nat × Nat × Nat)} {d' idx o ci nf mc' ms' : Nat} {rf : List (Option Nat)} {as sk : List Value} {rv : Option Value} {M' : ab_M} {T : u_T} {N : Nat} (hc : ab_Conw l D ac d' me' hh mc' ms' (.ref o :: as) sh M (.inl (rv, sh, M'))) (h1 : Cond.codeWith me'.1 me'.2.2.1 me'.2.2.2.1 me'.2.2.2.2 hh ∈ ab_G) (h2 : Cond.instanceMethod me'.1 ∈ ab_G) (h3 : Cond.selects me'.1.cls me'.1 me'.1 ∈ ab_G) (h4 : Cond.initialized me'.1.cls ∈ ab_G) (h5 : me'.1.cls ≠ "java/lang/invoke/MethodHandle" ∧ me'.1.cls ≠ "java/lang/invoke/VarHandle" ∧ (parseMethodDescriptor me'.1.desc).map (fun d => d.parameters.length) = some as.length) (h6 : me'.2.2.2.1 ≤ 29) (h7 : ci < 100) (h8 : vwCl[ci]? = some (me'.1.cls, T, N)) (hs : sh[o]? = some (ci, nf, rf)) (hl : Cond.methodLink me.2.1 idx me'.1 ∈ ab_G) (hd : decode me.2.2.1 pc = .ok (.invokevirtual idx, 3)) (hdd : d' + 1 ≤ R.frames ∧ 48 * (d' + 1) ≤ R.locals) (hk1 : sk = as.reverse ++ .ref o :: st) (hst : (st.map fun v => v.category).sum ≤ 8) (hkn : k + mc' ≤ R.cells ∧ n + ms' ≤ R.slots) (hY : ∀ args s c A ad, Y args s c A ad → ab_X A s s.heap)
    (kk : ab_Eg Z Y l D ac R me (k + mc') (n + ms') sh (pc + 3) lv (rv.toList ++ st) M') : ab_Eg Z Y l D ac R me k n sh pc lv sk M := by
  intro p e s m args below meth c H locs A ad ls C y S L
  obtain ⟨hx, hb, hrt, hml, hown, hts, hlk, hnm, hK, hN⟩ := id C
  obtain ⟨hP, hD, hS, hA⟩ := id S
  have he : (ab_W ac ad sh M)[o]? = some (ad o, .inr (ci, (List.range nf).map (ab_fv ad M o (ci, nf, rf)))) := by rw [ab_W_get hs, ab_cell_obj h7]
  have hF := ab_freeW hD hS hA
  have hG : GoodIn ab_G (wsV me.2.1 idx me'.1.cls me'.1 (ab_wsW me' hh)) := by
    intro w hw
    unfold wsV at hw
    rcases List.mem_append.mp hw with hw | hw
    · simp only [List.mem_cons, List.not_mem_nil, or_false] at hw
      rcases hw with rfl | rfl | rfl | rfl
      · exact ab_good2 hl
      · exact ab_good2 h2
      · exact ab_good2 h3
      · exact ab_good2 h4
    · rcases List.mem_cons.mp hw with rfl | hw
      · exact ab_good2 h1
      · exact ab_good2 hw
  refine ab_callX (vx_runVX (As := as.map (ab_v ad)) (rest := st.map (ab_v ad)) (C := me'.1.cls) (b := ad o) ⟨hx, hb, hml, hown, hts⟩ (hc ad H.size) (vx_cwVW as.length hts hG rfl rfl rfl ⟨rfl, h5⟩ ⟨hdd.1, by show 8 + (me'.2.2.2.1 + 11) + 48 * d' ≤ R.locals; omega⟩) ⟨ab_blindx, va_recv hK hP h8 he, fun U hU hW => ⟨rfl, by rw [hU], by rw [hU]; exact hP, va_K.moved hW.alike hK, hD.weaken (fun _ _ _ _ => trivial), ab_N.warm hW hN, (hY _ _ _ _ _ y).at S hU hW⟩⟩ rfl (by simp) L.1 (by subst hk1; simp [ab_v]) (lv_room (by rw [ab_vcs]; exact hst)) hd hkn) hS (fun q _ h => hF q h) hF (fun r hr ad' H1 locs1 ha1 ha2 hP1 hD1 hS1 => ?_) (fun E hE ce q9 H1 locs1 hP1 hS1 hce hcv hcl => by cases hE)
  cases hr
  have e1 : ad' = ad := ha2 (Nat.le_refl _)
  subst e1
  have := kk p e s m args below meth c H1 locs1 A ad' ls C y ⟨hP1, hD1.weaken (fun _ _ _ h => hF _ h), hS1, hA⟩ L
  rw [show (rv.toList ++ st).map (ab_v ad') = (rv.map (ab_v ad')).toList ++ st.map (ab_v ad') by cases rv <;> rfl] at this
  exact this
theorem eg_callWS {me' : ab_Me} {hh : List (Nat × Nat × Nat × Nat)} {d' idx mc' ms' : Nat} {as sk : List Value} {rv : Option Value} {M' : ab_M} (hc : ab_Conw l D ac d' me' hh mc' ms' as sh M (.inl (rv, sh, M'))) (h1 : Cond.codeWith me'.1 me'.2.2.1 me'.2.2.2.1 me'.2.2.2.2 hh ∈ ab_G) (h2 : Cond.static me'.1 ∈ ab_G) (h4 : Cond.initialized me'.1.cls ∈ ab_G) (h5 : me'.1.cls ≠ "java/lang/invoke/MethodHandle" ∧ me'.1.cls ≠ "java/lang/invoke/VarHandle" ∧ (parseMethodDescriptor me'.1.desc).map (fun d => d.parameters.length) = some as.length) (h6 : me'.2.2.2.1 ≤ 29) (hl : Cond.methodLink me.2.1 idx me'.1 ∈ ab_G) (hd : decode me.2.2.1 pc = .ok (.invokestatic idx, 3)) (hdd : d' + 1 ≤ R.frames ∧ 48 * (d' + 1) ≤ R.locals) (hk1 : sk = as.reverse ++ st) (hst : (st.map fun v => v.category).sum ≤ 8) (hkn : k + mc' ≤ R.cells ∧ n + ms' ≤ R.slots) (hY : ∀ args s c A ad, Y args s c A ad → ab_X A s s.heap)
    (kk : ab_Eg Z Y l D ac R me (k + mc') (n + ms') sh (pc + 3) lv (rv.toList ++ st) M') : ab_Eg Z Y l D ac R me k n sh pc lv sk M := by
  intro p e s m args below meth c H locs A ad ls C y S L
  obtain ⟨hx, hb, hrt, hml, hown, hts, hlk, hnm, hK, hN⟩ := id C
  obtain ⟨hP, hD, hS, hA⟩ := id S
  have hF := ab_freeW hD hS hA
  have hG : GoodIn ab_G (va_wsS me.2.1 idx me'.1 (ab_wsW me' hh)) := by
    intro w hw
    unfold va_wsS at hw
    rcases List.mem_append.mp hw with hw | hw
    · simp only [List.mem_cons, List.not_mem_nil, or_false] at hw
      rcases hw with rfl | rfl | rfl
      · exact ab_good2 hl
      · exact ab_good2 h2
      · exact ab_good2 h4
    · rcases List.mem_cons.mp hw with rfl | hw
      · exact ab_good2 h1
      · exact ab_good2 hw
  refine ab_callX (vx_runSX (As := as.map (ab_v ad)) (rest := st.map (ab_v ad)) ⟨hx, hb, hml, hown, hts⟩ (hc ad H.size) (vx_cwSW as.length hts hG rfl rfl rfl h5 ⟨hdd.1, by show 8 + (me'.2.2.2.1 + 11) + 48 * d' ≤ R.locals; omega⟩) ⟨ab_blindx, fun U hU hW => ⟨rfl, by rw [hU], by rw [hU]; exact hP, va_K.moved hW.alike hK, hD.weaken (fun _ _ _ _ => trivial), ab_N.warm hW hN, (hY _ _ _ _ _ y).at S hU hW⟩⟩ rfl (by simp) L.1 (by subst hk1; simp) (lv_room (by rw [ab_vcs]; exact hst)) hd hkn) hS (fun q _ h => hF q h) hF (fun r hr ad' H1 locs1 ha1 ha2 hP1 hD1 hS1 => ?_) (fun E hE ce q9 H1 locs1 hP1 hS1 hce hcv hcl => by cases hE)
  cases hr
  have e1 : ad' = ad := ha2 (Nat.le_refl _)
  subst e1
  have := kk p e s m args below meth c H1 locs1 A ad' ls C y ⟨hP1, hD1.weaken (fun _ _ _ h => hF _ h), hS1, hA⟩ L
  rw [show (rv.toList ++ st).map (ab_v ad') = (rv.map (ab_v ad')).toList ++ st.map (ab_v ad') by cases rv <;> rfl] at this
  exact this
end ABlaw
