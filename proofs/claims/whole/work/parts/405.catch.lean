/-! calls of methods that return or throw; catching -/
section ABcatch
variable {l : Launch} {D : va_G} {ac : Nat → ClassId} {d : Nat} {me : ab_Me} {n0 mc ms : Nat} {k n : Nat} {sh : ab_H} {pc : Nat} {lv lv' : List (Option Value)} {st : List Value} {M M0 : ab_M} {R : Room} {Z : ab_Zt} {Y : ab_Yt}
theorem ab_callX {p : Program} {e : Env} {s : State} {m : MethodId} {args : Array Value} {below : List Frame} {meth : Method} {c : Code} {H : Heap} {locs : List Loc} {cells slots : Nat} {Q : State → Prop} {ls : Array Slot} {rest st0 : List Value} {a : Array Value} {A0 A1 : Nat → Prop} {n1 : Nat} {free : Addr → Prop} {ad : Nat → Nat} {o : ab_Ro}
    (hr : vx_Run p l e R s m args below meth c H locs cells slots mc ms (F0 m pc ls st0) rest (ab_Qx D ac A1 ad n1 o a) (ab_XCx D ac A1 ad sh M o) free) (hS : va_S A0 s.heap H locs) (hA : ∀ q, q < H.size → A1 q → A0 q) (hf : ∀ q, free q → A0 q)
    (kk : ∀ r, o = .inl r → ∀ (ad' : Nat → Nat) (H1 : Heap) (locs1 : List Loc), (∀ i, i < n1 → ad' i = ad i) → (r.2.1.length ≤ n1 → ad' = ad) → va_P D vwCl (ab_W ac ad' r.2.1 r.2.2) H1 → va_D A1 (ab_W ac ad' r.2.1 r.2.2) → va_S A0 s.heap H1 locs1 → W p l e R s m args below meth c H1 locs1 (cells + mc) (slots + ms) Q (F0 m (pc + 3) ls ((r.1.map (ab_v ad')).toList ++ rest)))
    (kx : ∀ E, o = .inr E → ∀ (ce : Cell) (q9 : Addr) (H1 : Heap) (locs1 : List Loc), va_P D vwCl (ab_W ac ad sh M) H1 → va_S A0 s.heap H1 locs1 → H1[q9]? = some ce → ce.vm = .none → s.vm.findClass E = some ce.cls → vx_W p l e R s m args below meth c H1 locs1 (cells + mc) (slots + ms) Q (F0 m pc ls rest) q9) : W p l e R s m args below meth c H locs cells slots Q (F0 m pc ls st0) := by
  intro T hT X
  rcases hr T hT X with ⟨v, st₀, t, T', L, h0, X', hL, e1, e2, hq, stp⟩ | ⟨q, st₀, t, T', L, E, ce, h0, X', hL, e1, e2, hq, hce, hcv, hcl, stp⟩
  · cases o with
    | inr E => exact hq.elim
    | inl r =>
      obtain ⟨⟨ad', hv, ha1, ha2, hp, hk1, hd1⟩, hz, hk⟩ := hq
      cases hv
      rw [h0] at hz hk
      obtain ⟨t2, a1, b1⟩ := kk r rfl ad' T'.heap (locs ++ L) ha1 ha2 (by rw [e1]; exact hp) hd1
        ⟨Nat.le_trans hS.1 (by rw [e1]; exact hz), fun q h1 h2 => by rw [e1, hk q (Nat.lt_of_lt_of_le h1 hS.1) (fun z => h2 (hA q (Nat.lt_of_lt_of_le h1 hS.1) z))]; exact hS.2.1 q h1 h2, fun q hq => by
          rcases List.mem_append.mp hq with h | h
          · exact hS.2.2 q h
          · exact hf _ (hL q h)⟩ T' rfl X'
      exact ⟨t2, stp t2 a1, b1⟩
  · cases o with
    | inl r => exact hq.elim
    | inr E' =>
      obtain ⟨rfl, hp, hz, hk⟩ := hq
      rw [h0] at hz hk
      obtain ⟨t2, a1, b1⟩ := kx E rfl ce q T'.heap (locs ++ L) (by rw [e1]; exact hp)
        ⟨Nat.le_trans hS.1 (by rw [e1]; exact hz), fun q h1 h2 => by rw [e1, hk q (Nat.lt_of_lt_of_le h1 hS.1) (fun z => h2 (hA q (Nat.lt_of_lt_of_le h1 hS.1) z))]; exact hS.2.1 q h1 h2, fun q hq => by
          rcases List.mem_append.mp hq with h | h
          · exact hS.2.2 q h
          · exact hf _ (hL q h)⟩ (by rw [e1]; exact hce) hcv hcl T' rfl X'
      exact ⟨t2, stp.trans a1, b1⟩
/-- with q thrown over it -/
def ab_Ex (Z : ab_Zt) (Y : ab_Yt) (l : Launch) (D : va_G) (ac : Nat → ClassId) (R : Room) (me : ab_Me) (k n : Nat) (sh : ab_H) (pc : Nat) (lv : List (Option Value)) (st : List Value) (M : ab_M) (E : String) : Prop :=
  ∀ (p : Program) (e : Env) (s : State) (m : MethodId) (args : Array Value) (below : List Frame) (meth : Method) (c : Code) (H : Heap) (locs : List Loc) (A : Nat → Prop) (ad : Nat → Nat) (ls : Array Slot) (ce : Cell) (q9 : Addr),
    ab_Cg D ac me p s m args meth c → Y args s c A ad → ab_St D ac A s ad sh M H locs → ab_L ad ls me.2.2.2.1 lv → H[q9]? = some ce → ce.vm = .none → s.vm.findClass E = some ce.cls → vx_W p l e R s m args below meth c H locs k n (Z below args s A ad) (F0 m pc ls (st.map (ab_v ad))) q9
theorem ab_X.at {A : Nat → Prop} {s U : State} {H : Heap} {locs : List Loc} {ad : Nat → Nat} (hX : ab_X A s s.heap) (S : ab_St D ac A s ad sh M H locs) (hU : U.heap = H) (hW : s.WarmedH U.vm) : ab_X (va_A (ab_W ac ad sh M) H.size) U U.heap := by
  obtain ⟨hP, hD, hS, hA⟩ := S
  rw [hU]
  exact ((hX.kept hS.2.1).narrow (ab_freeW hD hS hA)).warm hW
theorem eg_callXV {me' : ab_Me} {d' idx o' ci nf mc' ms' : Nat} {rf : List (Option Nat)} {as sk : List Value} {o : ab_Ro} (hc : ab_Conx l D ac d' me' mc' ms' (.ref o' :: as) sh M o) (hm : ab_MV me' ci as.length) (hs : sh[o']? = some (ci, nf, rf)) (hl : Cond.methodLink me.2.1 idx me'.1 ∈ ab_G) (hd : decode me.2.2.1 pc = .ok (.invokevirtual idx, 3)) (hdd : d' + 1 ≤ R.frames ∧ 48 * (d' + 1) ≤ R.locals) (hk1 : sk = as.reverse ++ .ref o' :: st) (hst : (st.map fun v => v.category).sum ≤ 8) (hkn : k + mc' ≤ R.cells ∧ n + ms' ≤ R.slots) (hY : ∀ args s c A ad, Y args s c A ad → ab_X A s s.heap) (ho : ∀ r, o = .inl r → r.2.1 = sh)
    (kk : ∀ rv M', o = .inl (rv, sh, M') → ab_Eg Z Y l D ac R me (k + mc') (n + ms') sh (pc + 3) lv (rv.toList ++ st) M') (kx : ∀ E, o = .inr E → ab_Ex Z Y l D ac R me (k + mc') (n + ms') sh pc lv st M E) : ab_Eg Z Y l D ac R me k n sh pc lv sk M := by
  intro p e s m args below meth c H locs A ad ls C y S L
  obtain ⟨hx, hb, hrt, hml, hown, hts, hlk, hnm, hK, hN⟩ := id C
  obtain ⟨hP, hD, hS, hA⟩ := id S
  obtain ⟨h1, h2, h3, h4, h5, h6, h7, T, N, h8⟩ := hm
  have he : (ab_W ac ad sh M)[o']? = some (ad o', .inr (ci, (List.range nf).map (ab_fv ad M o' (ci, nf, rf)))) := by rw [ab_W_get hs, ab_cell_obj h7]
  have hF := ab_freeW hD hS hA
  have hG : GoodIn ab_G (wsV me.2.1 idx me'.1.cls me'.1 (ab_ws me')) := by
    intro w hw
    unfold wsV at hw
    rcases List.mem_append.mp hw with hw | hw
    · simp only [List.mem_cons, List.not_mem_nil, or_false] at hw
      rcases hw with rfl | rfl | rfl | rfl
      · exact ab_good2 hl
      · exact ab_good2 h2
      · exact ab_good2 h3
      · exact ab_good2 h4
    · exact ab_goodG h1 w hw
  refine ab_callX (vx_runV (As := as.map (ab_v ad)) (rest := st.map (ab_v ad)) (C := me'.1.cls) (b := ad o') ⟨hx, hb, hml, hown, hts⟩ (hc ad H.size) (cwV as.length hts hG rfl rfl rfl ⟨rfl, h5⟩ ⟨hdd.1, by show 8 + (me'.2.2.2.1 + 11) + 48 * d' ≤ R.locals; omega⟩) ⟨ab_blindx, va_recv hK hP h8 he, fun U hU hW => ⟨rfl, by rw [hU], by rw [hU]; exact hP, va_K.moved hW.alike hK, hD.weaken (fun _ _ _ _ => trivial), ab_N.warm hW hN, (hY _ _ _ _ _ y).at S hU hW⟩⟩ rfl (by simp) L.1 (by subst hk1; simp [ab_v]) (lv_room (by rw [ab_vcs]; exact hst)) hd hkn) hS (fun q _ h => hF q h) hF (fun r hr ad' H1 locs1 ha1 ha2 hP1 hD1 hS1 => ?_) (fun E hE ce q9 H1 locs1 hP1 hS1 hce hcv hcl => ?_)
  · have hsh := ho r hr
    obtain ⟨rv, sh1, M'⟩ := r
    have hsh' : sh1 = sh := hsh
    subst hsh'
    have e1 : ad' = ad := ha2 (Nat.le_refl _)
    subst e1
    have := kk rv M' hr p e s m args below meth c H1 locs1 A ad' ls C y ⟨hP1, hD1.weaken (fun _ _ _ h => hF _ h), hS1, hA⟩ L
    rw [show (rv.toList ++ st).map (ab_v ad') = (rv.map (ab_v ad')).toList ++ st.map (ab_v ad') by cases rv <;> rfl] at this
    exact this
  · exact kx E hE p e s m args below meth c H1 locs1 A ad ls ce q9 C y ⟨hP1, hD, hS1, hA⟩ L hce hcv hcl
theorem ab_L.store0 {ad : Nat → Nat} {ls ls' : Array Slot} {nL : Nat} {lv : List (Option Value)} {i : Nat} {w : Value} (h : ab_L ad ls nL lv) (hs : ab_sf lv i = true) (h' : lv_has ls' nL ((i, w) :: (ab_prs ad lv).filter (fun q => !(q.1 == i) && !(q.1 + 1 == i && q.2.category == 2)))) (hi : i < lv.length) : ab_L ad ls' nL (lv.set i none) := by
  refine ⟨h'.1, h'.2.1, by rw [List.length_set]; exact h.2.2.1, fun j w hj => ?_⟩
  by_cases e : j = i
  · subst e
    rw [List.getElem?_set_self hi] at hj
    cases hj
  · rw [List.getElem?_set_ne (Ne.symm e)] at hj
    refine h'.2.2 (j, ab_v ad w) (List.mem_cons_of_mem _ (List.mem_filter.mpr ⟨ab_prs_mem hj, ?_⟩))
    have hc : j + 1 = i → w.category = 1 := by
      intro e2
      subst e2
      simp only [ab_sf, hj] at hs
      simpa using hs
    by_cases e2 : j + 1 = i
    · simp [e, ab_vc, hc e2]
    · simp [e, e2]
/-- caught; the handler puts it into local i -/
theorem ex_catch {hh : List (Nat × Nat × Nat × Nat)} {E : String} {i : Nat} (pre : List ExceptionTableEntry) (x : ExceptionTableEntry) (suf : List ExceptionTableEntry) (hsplit : tableOf hh = pre ++ x :: suf) (hpass : ∀ z ∈ pre, z.catchType ≠ 0 ∧ ∃ nm : String, Cond.classLink me.2.1 z.catchType nm ∈ ab_G ∧ ∀ (A : Nat → Prop) (U : State) (H : Heap), ab_X A U H → va_Nc E nm U) (hx : covers x pc = true) (h0 : x.catchType ≠ 0) (hlink : Cond.classLink me.2.1 x.catchType E ∈ ab_G) (hcast : Cond.castable E E ∈ xc_ws) (hda : decode me.2.2.1 x.handlerPc = .ok (.astore i, 2)) (hi : i < lv.length) (hs : ab_sf lv i = true) (hl : lv.set i none = lv') (kk : ab_Eg Z (Yw hh) l D ac R me k n sh (x.handlerPc + 2) lv' [] M) : ab_Ex Z (Yw hh) l D ac R me k n sh pc lv st M E := by
  intro p e s m args below meth c H locs A ad ls ce q9 C y S L hce hcv hcl
  obtain ⟨hxe, hb, hrt, hml, hown, hts, hlk, hnm, hK, hN⟩ := id C
  obtain ⟨htab, hX⟩ := id y
  refine vx_catch hown pre x suf (by rw [htab]; exact hsplit) (fun z hz => Or.inr ⟨(hpass z hz).1, ?_⟩) hx h0 (hts _ hlink) (va_Nw.use (xc_on _ hcast) (hX.1 _ hcast)) hce hcv hcl ?_
  · obtain ⟨-, nm, h1, h2⟩ := hpass z hz
    exact ⟨nm, hts _ h1, h2 _ _ _ hX⟩
  · exact lv_astore hxe hb hda L.has (by rw [← L.2.2.1]; exact hi) rfl (fun ls' h' => kk p e s m args below meth c H locs A ad ls' C y S (by rw [← hl]; exact L.store0 hs h' hi))
end ABcatch
