/-! throws: what is known of them, contracts of methods that return or throw, contracts of methods with a table -/
abbrev E_S : String := "java/lang/IllegalStateException"
abbrev E_A : String := "java/lang/IllegalArgumentException"
abbrev E_U : String := "java/lang/UnsupportedOperationException"
abbrev nms : List String := ["java/lang/RuntimeException", "java/lang/Exception"]
def xc_ws : List Cond := [.declares (Bundle.initS "java/lang/RuntimeException"), .declares (Bundle.initS "java/lang/Exception"), .declares (Bundle.initS Bundle.tN), .castable E_S E_S, .castable E_A E_A, .castable E_U E_U]
theorem xc_on : ∀ w ∈ xc_ws, w.onTables = true := by decide +kernel
def ab_X (A : Nat → Prop) (U : State) (H : Heap) : Prop := (∀ w ∈ xc_ws, va_Nw w U) ∧ (va_Nc E_A E_S U ∧ va_Nc E_U E_S U ∧ va_Nc E_U E_A U ∧ va_Nc E_S E_A U) ∧ ((∃ a, vk_R RX4 52 "a pair failed" a U) ∧ (∃ a, vk_R RX4 59 "an old one failed" a U) ∧ (∃ a, vk_R RX4 64 "a border one failed" a U) ∧ (∃ a, vk_R RX9 287 "no such shelf" a U) ∧ ∃ a, vk_R RX9 301 "no such element" a U) ∧ vx_Zq Bundle.tN "UNASSIGNED_STACK" Bundle.steD A U H ∧ vx_Zq Bundle.tN "SUPPRESSED_SENTINEL" Bundle.listD A U H
theorem ab_X.warm {A : Nat → Prop} {s U : State} {H : Heap} (hW : s.WarmedH U.vm) (h : ab_X A s H) : ab_X A U H := by
  obtain ⟨h1, ⟨n1, n2, n3, n4⟩, ⟨⟨a1, r1⟩, ⟨a2, r2⟩, ⟨a3, r3⟩, ⟨a4, r4⟩, ⟨a5, r5⟩⟩, z1, z2⟩ := h
  refine ⟨fun w hw => ?_, ⟨va_Nc.moved hW.alike n1, va_Nc.moved hW.alike n2, va_Nc.moved hW.alike n3, va_Nc.moved hW.alike n4⟩, ⟨⟨a1, r1.warm hW⟩, ⟨a2, r2.warm hW⟩, ⟨a3, r3.warm hW⟩, ⟨a4, r4.warm hW⟩, ⟨a5, r5.warm hW⟩⟩, z1.moved hW.alike, z2.moved hW.alike⟩
  have h2 := h1 w hw
  simp only [xc_ws, List.mem_cons, List.not_mem_nil, or_false] at hw
  rcases hw with rfl | rfl | rfl | rfl | rfl | rfl
  · exact va_Nw.warmD hW h2
  · exact va_Nw.warmD hW h2
  · exact va_Nw.warmD hW h2
  · exact va_Nw.warmC hW h2
  · exact va_Nw.warmC hW h2
  · exact va_Nw.warmC hW h2
theorem ab_X.same {A : Nat → Prop} {s U : State} {H : Heap} (hv : s.vm = U.vm) (h : ab_X A s H) : ab_X A U H := by
  have ha : s.vm.Alike U.vm := by rw [← hv]; exact Vm.Alike.refl s.vm
  obtain ⟨h1, ⟨n1, n2, n3, n4⟩, ⟨⟨a1, r1⟩, ⟨a2, r2⟩, ⟨a3, r3⟩, ⟨a4, r4⟩, ⟨a5, r5⟩⟩, z1, z2⟩ := h
  exact ⟨fun w hw => va_Nw.same (xc_on w hw) hv (h1 w hw), ⟨va_Nc.moved ha n1, va_Nc.moved ha n2, va_Nc.moved ha n3, va_Nc.moved ha n4⟩, ⟨⟨a1, r1.same hv.symm⟩, ⟨a2, r2.same hv.symm⟩, ⟨a3, r3.same hv.symm⟩, ⟨a4, r4.same hv.symm⟩, ⟨a5, r5.same hv.symm⟩⟩, z1.moved ha, z2.moved ha⟩
theorem ab_X.kept {A : Nat → Prop} {U : State} {H H1 : Heap} (h : ab_X A U H) (hq : ∀ a : Nat, a < H.size → ¬ A a → H1[a]? = H[a]?) : ab_X A U H1 := ⟨h.1, h.2.1, h.2.2.1, h.2.2.2.1.kept hq, h.2.2.2.2.kept hq⟩
theorem ab_X.narrow {A B : Nat → Prop} {U : State} {H : Heap} (h : ab_X A U H) (hAB : ∀ q, B q → A q) : ab_X B U H := ⟨h.1, h.2.1, h.2.2.1, h.2.2.2.1.narrow hAB, h.2.2.2.2.narrow hAB⟩
section ABthr
/-- how it ends: a return, or a throw of a class -/
abbrev ab_Ro : Type := Sum ab_Rs String
def ab_Qx (D : va_G) (ac : Nat → ClassId) (A : Nat → Prop) (ad : Nat → Nat) (n0 : Nat) (o : ab_Ro) : Array Value → State → Outcome → State → Prop := match o with
  | .inl r => ab_Qc D ac A ad n0 r
  | .inr _ => fun _ _ _ _ => False
def ab_XCx (D : va_G) (ac : Nat → ClassId) (A : Nat → Prop) (ad : Nat → Nat) (sh : ab_H) (M : ab_M) (o : ab_Ro) : String → State → State → Prop := match o with
  | .inl _ => fun _ _ _ => False
  | .inr E => fun E' st t => E' = E ∧ va_P D vwCl (ab_W ac ad sh M) t.heap ∧ va_F A st t
def Zx (D : va_G) (ac : Nat → ClassId) (n0 mc ms : Nat) (sh : ab_H) (M : ab_M) (o : ab_Ro) : ab_Zt := fun below args s A ad => vx_MQ below (ab_Qx D ac A ad n0 o) (ab_XCx D ac A ad sh M o) args s mc ms A
def Yx : ab_Yt := fun _ s c A _ => (∀ x ∈ c.exceptionTable.toList, False) ∧ ab_X A s s.heap
def Yw (hh : List (Nat × Nat × Nat × Nat)) : ab_Yt := fun _ s c A _ => c.exceptionTable.toList = tableOf hh ∧ ab_X A s s.heap
def ab_Pcx (D : va_G) (ac : Nat → ClassId) (av : List Value) (sh : ab_H) (M : ab_M) (ad : Nat → Nat) (sz : Nat) : Array Value → State → Prop := va_Pc (av.map (ab_v ad)) (fun U => U.heap.size = sz ∧ va_P D vwCl (ab_W ac ad sh M) U.heap ∧ va_K D vwCl (ab_tys ac) U ∧ va_D (fun _ => True) (ab_W ac ad sh M) ∧ ab_N U ∧ ab_X (va_A (ab_W ac ad sh M) sz) U U.heap)
def ab_Conx (l : Launch) (D : va_G) (ac : Nat → ClassId) (d : Nat) (me : ab_Me) (mc ms : Nat) (av : List Value) (sh : ab_H) (M : ab_M) (o : ab_Ro) : Prop :=
  ∀ (ad : Nat → Nat) (sz : Nat), vx_Met l me.1 (ab_ws me) (ab_rm d mc ms) (ab_Pcx D ac av sh M ad sz) (ab_Qx D ac (va_A (ab_W ac ad sh M) sz) ad sh.length o) (ab_XCx D ac (va_A (ab_W ac ad sh M) sz) ad sh M o) mc ms (va_A (ab_W ac ad sh M) sz)
def ab_wsW (me : ab_Me) (hh : List (Nat × Nat × Nat × Nat)) : List Cond := .codeWith me.1 me.2.2.1 me.2.2.2.1 me.2.2.2.2 hh :: ab_G
def ab_Conw (l : Launch) (D : va_G) (ac : Nat → ClassId) (d : Nat) (me : ab_Me) (hh : List (Nat × Nat × Nat × Nat)) (mc ms : Nat) (av : List Value) (sh : ab_H) (M : ab_M) (o : ab_Ro) : Prop :=
  ∀ (ad : Nat → Nat) (sz : Nat), vx_Met l me.1 (ab_wsW me hh) (ab_rm d mc ms) (ab_Pcx D ac av sh M ad sz) (ab_Qx D ac (va_A (ab_W ac ad sh M) sz) ad sh.length o) (ab_XCx D ac (va_A (ab_W ac ad sh M) sz) ad sh M o) mc ms (va_A (ab_W ac ad sh M) sz)
variable {l : Launch} {D : va_G} {ac : Nat → ClassId} {d : Nat} {me : ab_Me} {n0 mc ms : Nat} {k n : Nat} {sh : ab_H} {pc : Nat} {lv lv' : List (Option Value)} {st : List Value} {M M0 : ab_M} {R : Room} {Z : ab_Zt} {Y : ab_Yt}
theorem ab_blindx {av : List Value} {sz : Nat} {ad : Nat → Nat} : FrameBlind (ab_Pcx D ac av sh M ad sz) := by
  intro a U g mk q
  obtain ⟨q0, q1, qP, qK, qD, qN, qX⟩ := q
  exact ⟨q0, q1, qP, va_K.moved (u := U) (U := U.calling g mk a) (Vm.Alike.refl U.vm) qK, qD, ab_N.same (s := U) (U := U.calling g mk a) rfl qN, ab_X.same (s := U) (U := U.calling g mk a) rfl qX⟩
theorem ab_L_entry {av : List Value} {ad : Nat → Nat} {nL : Nat} (hlen : (ab_ent av).length ≤ nL) (hlv : ab_ent av ++ List.replicate (nL - (ab_ent av).length) none = lv) (ls : Array Slot) (hl : lv_has ls nL (lv_args 0 (av.map (ab_v ad)))) : ab_L ad ls nL lv := by
  refine ⟨hl.1, hl.2.1, ?_, fun i v hi => ?_⟩
  · rw [← hlv, List.length_append, List.length_replicate]; omega
  · rw [← hlv] at hi
    by_cases hlt : i < (ab_ent av).length
    · rw [List.getElem?_append_left hlt] at hi
      have := hl.2.2 _ (ab_ent_args ad av 0 i v hi)
      simpa using this
    · rw [List.getElem?_append_right (Nat.not_lt.mp hlt), List.getElem?_replicate] at hi
      split at hi <;> cases hi
theorem ab_introx {av : List Value} {o : ab_Ro} (hpl : plainName me.1.cls = true) (hcls : me.1.cls = me.2.1) (hlen : (ab_ent av).length ≤ me.2.2.2.1) (hlv : ab_ent av ++ List.replicate (me.2.2.2.1 - (ab_ent av).length) none = lv) (kk : ab_Eg (Zx D ac sh.length mc ms sh M o) Yx l D ac (ab_rm d mc ms) me 0 0 sh 0 lv [] M) : ab_Conx l D ac d me mc ms av sh M o := by
  intro ad sz
  refine vx_ofW (cc := me.2.2.1) (maxL := me.2.2.2.1) (ret := me.2.2.2.2) hpl rfl ?_
  intro p e s m args below meth c s₁ B hml hnt hv
  obtain ⟨rfl, hsz, hP, hK, hD0, hN, hX⟩ := hv
  have hts := atoms_spec (ws := ab_ws me) B.pre
  have hown : s.vm.findClass me.1.cls = some m.cls := findClass_of_methodNamed B.named
  subst hsz
  have hD := hD0.self (sz := s.heap.size)
  have hl := lv_entry (av.map (ab_v ad)) (n := me.2.2.2.1) (by rw [ab_ent_len]; exact hlen)
  rw [lg_entry_eq]
  exact kk p e s m _ below meth c s.heap [] (va_A (ab_W ac ad sh M) s.heap.size) ad _ ⟨B.exec, B.bytes, B.returns, hml, by rw [← hcls]; exact hown, fun w h => hts w (List.mem_cons_of_mem _ h), B.notSynchronized, trivial, hK, hN⟩ ⟨hnt, hX⟩ ⟨hP, hD, va_S.rf, fun q h => Or.inr h⟩ (ab_L_entry hlen hlv _ hl)
theorem ab_introw {av : List Value} {hh : List (Nat × Nat × Nat × Nat)} {o : ab_Ro} (hpl : plainName me.1.cls = true) (hcls : me.1.cls = me.2.1) (hlen : (ab_ent av).length ≤ me.2.2.2.1) (hlv : ab_ent av ++ List.replicate (me.2.2.2.1 - (ab_ent av).length) none = lv) (kk : ab_Eg (Zx D ac sh.length mc ms sh M o) (Yw hh) l D ac (ab_rm d mc ms) me 0 0 sh 0 lv [] M) : ab_Conw l D ac d me hh mc ms av sh M o := by
  intro ad sz
  refine vx_ofWH (cc := me.2.2.1) (maxL := me.2.2.2.1) (ret := me.2.2.2.2) (hh := hh) hpl rfl ?_
  intro p e s m args below meth c s₁ B hml hv
  obtain ⟨rfl, hsz, hP, hK, hD0, hN, hX⟩ := hv
  have hts := atoms_spec (ws := ab_wsW me hh) B.pre
  have hown : s.vm.findClass me.1.cls = some m.cls := findClass_of_methodNamed B.named
  have htab := vx_table (x := me.1) B (hts _ List.mem_cons_self)
  subst hsz
  have hD := hD0.self (sz := s.heap.size)
  have hl := lv_entry (av.map (ab_v ad)) (n := me.2.2.2.1) (by rw [ab_ent_len]; exact hlen)
  rw [lg_entry_eq]
  exact kk p e s m _ below meth c s.heap [] (va_A (ab_W ac ad sh M) s.heap.size) ad _ ⟨B.exec, B.bytes, B.returns, hml, by rw [← hcls]; exact hown, fun w h => hts w (List.mem_cons_of_mem _ h), B.notSynchronized, trivial, hK, hN⟩ ⟨htab, hX⟩ ⟨hP, hD, va_S.rf, fun q h => Or.inr h⟩ (ab_L_entry hlen hlv _ hl)
/-! returns -/
theorem eg_ireturn {x : Int32} (hk : k ≤ mc ∧ n ≤ ms) (hr : me.2.2.2.2 = some .int) (hd : decode me.2.2.1 pc = .ok (.ireturn, 1)) : ab_Eg (Zx D ac n0 mc ms sh M0 (.inl (some (.int x), sh, M))) Y l D ac R me k n sh pc lv [.int x] M := by
  intro p e s m args below meth c H locs A ad ls C y S L
  obtain ⟨hx, hb, hrt, hml, hown, hts, hlk, hnm, hK, hN⟩ := C
  obtain ⟨hP, hD, hS, hA⟩ := S
  exact vx_ret (W.widen hk.1 hk.2 (W.iret hx hb (hrt.trans hr) (fun t ht hW => ⟨⟨ad, rfl, fun _ _ => rfl, fun _ => rfl, by rw [ht]; exact hP, va_K.moved hW.alike hK, hD⟩, hS.F ht⟩) hS.2.2 hd hlk))
theorem eg_lreturn {x : Int64} (hk : k ≤ mc ∧ n ≤ ms) (hr : me.2.2.2.2 = some .long) (hd : decode me.2.2.1 pc = .ok (.lreturn, 1)) : ab_Eg (Zx D ac n0 mc ms sh M0 (.inl (some (.long x), sh, M))) Y l D ac R me k n sh pc lv [.long x] M := by
  intro p e s m args below meth c H locs A ad ls C y S L
  obtain ⟨hx, hb, hrt, hml, hown, hts, hlk, hnm, hK, hN⟩ := C
  obtain ⟨hP, hD, hS, hA⟩ := S
  exact vx_ret (W.widen hk.1 hk.2 (W.lret hx hb (hrt.trans hr) (fun t ht hW => ⟨⟨ad, rfl, fun _ _ => rfl, fun _ => rfl, by rw [ht]; exact hP, va_K.moved hW.alike hK, hD⟩, hS.F ht⟩) hS.2.2 hd hlk))
theorem eg_return (hk : k ≤ mc ∧ n ≤ ms) (hr : me.2.2.2.2 = none) (hd : decode me.2.2.1 pc = .ok (.return_, 1)) : ab_Eg (Zx D ac n0 mc ms sh M0 (.inl (none, sh, M))) Y l D ac R me k n sh pc lv [] M := by
  intro p e s m args below meth c H locs A ad ls C y S L
  obtain ⟨hx, hb, hrt, hml, hown, hts, hlk, hnm, hK, hN⟩ := C
  obtain ⟨hP, hD, hS, hA⟩ := S
  exact vx_ret (W.widen hk.1 hk.2 (W.vret hx hb (hrt.trans hr) (fun t ht hW => ⟨⟨ad, rfl, fun _ _ => rfl, fun _ => rfl, by rw [ht]; exact hP, va_K.moved hW.alike hK, hD⟩, hS.F ht⟩) hS.2.2 hd hlk))
/-! throws -/
/-- what is known of a class that is thrown, where it is made -/
def ab_TW (own : String) (ik ic : Nat) (cls : String) : Prop := Bundle.fit cls = true ∧ Cond.classLink own ik cls ∈ ab_G ∧ Cond.initialized cls ∈ ab_G ∧ (∀ w ∈ (vx_atS own ic cls nms).filter goodWord, w ∈ ab_G) ∧ (∀ w ∈ (vx_atS own ic cls nms).filter (fun w => !goodWord w), w ∈ xc_ws) ∧ ∀ w ∈ Cond.classLink own ik cls :: Cond.initialized cls :: vx_atS own ic cls nms, vx_ot w = true
theorem ab_thr_x {p : Program} {s : State} {A : Nat → Prop} {ad : Nat → Nat} {H : Heap} {locs : List Loc} {cls : String} (S : ab_St D ac A s ad sh M H locs) : ∀ t : State, s.vm.Alike t.vm → H.size ≤ t.heap.size → (∀ q : Nat, q < H.size → t.heap[q]? = H[q]?) → ab_XCx D ac A ad sh M (.inr cls) cls s t := by
  intro t _ hz hq
  obtain ⟨hP, hD, hS, hA⟩ := S
  exact ⟨rfl, hP.kept (fun k q hk => hq _ (vx_lt hP hk)), Nat.le_trans hS.1 hz, fun q h1 h2 => by rw [hq q (Nat.lt_of_lt_of_le h1 hS.1)]; exact hS.2.1 q h1 h2⟩
theorem eg_throw {cls text : String} {ik is ic : Nat} (hl : l.stackTraces = false) (hT : ab_TW me.2.1 ik ic cls) (hstr : ∀ (A : Nat → Prop) (U : State) (H : Heap), ab_X A U H → ∃ a, vk_R me.2.1 is text a U) (d0 : decode me.2.2.1 pc = .ok (.new ik, 3)) (d3 : decode me.2.2.1 (pc + 3) = .ok (.dup, 1)) (d4 : decode me.2.2.1 (pc + 4) = .ok (.ldc is, 2)) (d6 : decode me.2.2.1 (pc + 6) = .ok (.invokespecial ic, 3)) (d9 : decode me.2.2.1 (pc + 9) = .ok (.athrow, 1)) (hd : 6 ≤ d) (hst : (st.map fun v => v.category).sum ≤ 8) : ab_Eg (Zx D ac n0 1 6 sh M (.inr cls)) Yx l D ac (ab_rm d 1 6) me 0 0 sh pc lv st M := by
  intro p e s m args below meth c H locs A ad ls C y S L
  obtain ⟨hx, hb, hrt, hml, hown, hts, hlk, hnm, hK, hN⟩ := C
  obtain ⟨hnt, hX⟩ := y
  obtain ⟨t1, t2, t3, t4, t5, t6⟩ := hT
  obtain ⟨sa, hsa⟩ := hstr _ _ _ hX
  have hat : ∀ w ∈ vx_atS me.2.1 ic cls nms, w.before args s = true := vx_hat (fun w hw => hts w (t4 w hw)) t5 (fun w hw => va_Nw.use (xc_on w hw) (hX.1 w hw))
  refine vx_throwS hx hb hl (names := nms) (A := A) (sa := sa) hown t1 (by decide) (hts _ t2) (hts _ t3) hsa hat t6 hX.2.2.2.1 hX.2.2.2.2 S.2.2.1 (L.1.trans hml.symm) d0 d3 d4 d6 d9 (fun x hx => (hnt x hx).elim) (by show 2 + 3 < d; omega) (by rw [ab_vcs]; show _ + (13 * (2 + 1) + 43) ≤ 48 * d; omega) (Nat.le_refl _) (Nat.le_refl _) hlk (ab_thr_x (p := p) S) S.2.2.1.2.2 (Nat.le_refl _) (Nat.le_refl _)
theorem eg_throwW {cls text : String} {ik is ic : Nat} (hl : l.stackTraces = false) (hT : ab_TW me.2.1 ik ic cls) (hstr : ∀ (A : Nat → Prop) (U : State) (H : Heap), ab_X A U H → ∃ a, vk_R me.2.1 is text a U) (d0 : decode me.2.2.1 pc = .ok (.new ik, 3)) (d3 : decode me.2.2.1 (pc + 3) = .ok (.dup, 1)) (d4 : decode me.2.2.1 (pc + 4) = .ok (.ldc_w is, 3)) (d7 : decode me.2.2.1 (pc + 7) = .ok (.invokespecial ic, 3)) (d10 : decode me.2.2.1 (pc + 10) = .ok (.athrow, 1)) (hd : 6 ≤ d) (hst : (st.map fun v => v.category).sum ≤ 8) : ab_Eg (Zx D ac n0 1 6 sh M (.inr cls)) Yx l D ac (ab_rm d 1 6) me 0 0 sh pc lv st M := by
  intro p e s m args below meth c H locs A ad ls C y S L
  obtain ⟨hx, hb, hrt, hml, hown, hts, hlk, hnm, hK, hN⟩ := C
  obtain ⟨hnt, hX⟩ := y
  obtain ⟨t1, t2, t3, t4, t5, t6⟩ := hT
  obtain ⟨sa, hsa⟩ := hstr _ _ _ hX
  have hat : ∀ w ∈ vx_atS me.2.1 ic cls nms, w.before args s = true := vx_hat (fun w hw => hts w (t4 w hw)) t5 (fun w hw => va_Nw.use (xc_on w hw) (hX.1 w hw))
  refine vx_throwSW hx hb hl (names := nms) (A := A) (sa := sa) hown t1 (by decide) (hts _ t2) (hts _ t3) hsa hat t6 hX.2.2.2.1 hX.2.2.2.2 S.2.2.1 (L.1.trans hml.symm) d0 d3 d4 d7 d10 (fun x hx => (hnt x hx).elim) (by show 2 + 3 < d; omega) (by rw [ab_vcs]; show _ + (13 * (2 + 1) + 43) ≤ 48 * d; omega) (Nat.le_refl _) (Nat.le_refl _) hlk (ab_thr_x (p := p) S) S.2.2.1.2.2 (Nat.le_refl _) (Nat.le_refl _)
end ABthr
