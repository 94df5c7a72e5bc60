/-! cells: fields, arrays; calls; returns; a contract out of its body -/
section ABheap
variable {l : Launch} {D : va_G} {ac : Nat → ClassId} {d : Nat} {me : ab_Me} {n0 mc ms : Nat} {r : ab_Rs} {k n : Nat} {sh : ab_H} {pc : Nat} {lv lv' : List (Option Value)} {st : List Value} {M : ab_M}
/-- what a field's link says: class own, entry idx, is field kf of class ci -/
def ab_FL (own : String) (idx ci kf : Nat) (ty : FieldType) (fin : Bool) : Prop := ∃ (C : String) (T : u_T) (N : Nat) (ty0 : Nat → FieldType), vwCl[ci]? = some (C, T, N) ∧ kf < N ∧ (∀ w ∈ u_ws C T N, w ∈ ab_G) ∧ (∀ j, j < N → parseFieldDescriptor (T j).2.2.1 = some (ty0 j)) ∧ (∀ a, a < N → ∀ b, b < N → a ≠ b → (T a).2.1 ≠ (T b).2.1) ∧ ty0 kf = ty ∧ (T kf).2.2.2 = fin ∧ (Cond.fieldLink own idx (T kf).1 (T kf).2.1 (T kf).2.2.1 ∈ ab_G ∨ ∃ host, Cond.fieldLinkNest own idx (T kf).1 (T kf).2.1 (T kf).2.2.1 host ∈ ab_nest)
theorem ev_geti {idx o ci nf kf : Nat} {rf : List (Option Nat)} {ty : FieldType} {fin : Bool} (hF : ab_FL me.2.1 idx ci kf ty fin) (hs : sh[o]? = some (ci, nf, rf)) (hci : ci < 100) (hk : kf < nf) (hr : ab_isR ci kf = false) (hd : decode me.2.2.1 pc = .ok (.getfield idx, 3)) (kk : ab_Ev l D ac d me n0 mc ms r k n sh (pc + 3) lv (.int (M.1 o kf) :: st) M) : ab_Ev l D ac d me n0 mc ms r k n sh pc lv (.ref o :: st) M := by
  intro p e s m args below meth c H locs A ad ls C S L
  obtain ⟨hx, hb, -, -, hown, hts, -, -, hK, hN⟩ := id C
  obtain ⟨Cn, T, N, ty0, hc, hkN, hin, -, -, -, -, hlink⟩ := hF
  have he : (ab_W ac ad sh M)[o]? = some (ad o, .inr (ci, (List.range nf).map (ab_fv ad M o (ci, nf, rf)))) := by rw [ab_W_get hs, ab_cell_obj hci]
  have hv : ((List.range nf).map (ab_fv ad M o (ci, nf, rf)))[kf]? = some (.int (M.1 o kf)) := by simp [hk, ab_fv, hr]
  have hin' : ∀ w ∈ u_ws Cn T N, w ∈ ab_ws me := fun w h => List.mem_cons_of_mem _ (hin w h)
  rcases hlink with hlink | ⟨host, hlink⟩
  · exact va_get hx hb hts hin' hown hK S.1 o he hc kf hkN (hts _ (List.mem_cons_of_mem _ hlink)) (fun _ h => h) hv hd (kk p e s m args below meth c H locs A ad ls C S L)
  · exact va_getN hx hb hts hin' hown hK S.1 o he hc kf hkN (va_Nw.use rfl (hN.1 _ hlink)) (fun _ h => h) hv hd (kk p e s m args below meth c H locs A ad ls C S L)
theorem ev_getr {idx o o' ci nf kf : Nat} {rf : List (Option Nat)} {ty : FieldType} {fin : Bool} (hF : ab_FL me.2.1 idx ci kf ty fin) (hs : sh[o]? = some (ci, nf, rf)) (hci : ci < 100) (hk : kf < nf) (hr : ab_isR ci kf = true) (ho : rf.getD kf none = some o') (hd : decode me.2.2.1 pc = .ok (.getfield idx, 3)) (kk : ab_Ev l D ac d me n0 mc ms r k n sh (pc + 3) lv (.ref o' :: st) M) : ab_Ev l D ac d me n0 mc ms r k n sh pc lv (.ref o :: st) M := by
  intro p e s m args below meth c H locs A ad ls C S L
  obtain ⟨hx, hb, -, -, hown, hts, -, -, hK, hN⟩ := id C
  obtain ⟨Cn, T, N, ty0, hc, hkN, hin, -, -, -, -, hlink⟩ := hF
  have he : (ab_W ac ad sh M)[o]? = some (ad o, .inr (ci, (List.range nf).map (ab_fv ad M o (ci, nf, rf)))) := by rw [ab_W_get hs, ab_cell_obj hci]
  have hv : ((List.range nf).map (ab_fv ad M o (ci, nf, rf)))[kf]? = some (.ref (ad o')) := by
    rw [List.getElem?_map, List.getElem?_range hk]
    show some (ab_fv ad M o (ci, nf, rf) kf) = _
    unfold ab_fv
    rw [if_pos hr]
    show some (va_rf ((rf.getD kf none).map ad)) = _
    rw [ho]
    rfl
  have hin' : ∀ w ∈ u_ws Cn T N, w ∈ ab_ws me := fun w h => List.mem_cons_of_mem _ (hin w h)
  rcases hlink with hlink | ⟨host, hlink⟩
  · exact va_get hx hb hts hin' hown hK S.1 o he hc kf hkN (hts _ (List.mem_cons_of_mem _ hlink)) (fun _ h => h) hv hd (kk p e s m args below meth c H locs A ad ls C S L)
  · exact va_getN hx hb hts hin' hown hK S.1 o he hc kf hkN (va_Nw.use rfl (hN.1 _ hlink)) (fun _ h => h) hv hd (kk p e s m args below meth c H locs A ad ls C S L)
theorem ev_puti {idx o ci nf kf : Nat} {rf : List (Option Nat)} {ty : FieldType} {x : Int32} (hF : ab_FL me.2.1 idx ci kf ty false) (hs : sh[o]? = some (ci, nf, rf)) (hci : ci < 100) (hk : kf < nf) (hr : ab_isR ci kf = false) (hn : narrow ty (.int x) = .int x) (hf : fits ty (.int x) = true) (hd : decode me.2.2.1 pc = .ok (.putfield idx, 3)) (kk : ab_Ev l D ac d me n0 mc ms r k n sh (pc + 3) lv st (ab_pi M o kf x)) : ab_Ev l D ac d me n0 mc ms r k n sh pc lv (.int x :: .ref o :: st) M := by
  intro p e s m args below meth c H locs A ad ls C S L
  obtain ⟨hx, hb, -, -, hown, hts, -, -, hK, hN⟩ := id C
  obtain ⟨hP, hD, hS, hA⟩ := S
  obtain ⟨Cn, T, N, ty0, hc, hkN, hin, hty, hnm, ht, hfin, hlink⟩ := hF
  subst ht
  have he : (ab_W ac ad sh M)[o]? = some (ad o, .inr (ci, (List.range nf).map (ab_fv ad M o (ci, nf, rf)))) := by rw [ab_W_get hs, ab_cell_obj hci]
  have hin' : ∀ w ∈ u_ws Cn T N, w ∈ ab_ws me := fun w h => List.mem_cons_of_mem _ (hin w h)
  have hset : (ab_W ac ad sh M).set o (ad o, .inr (ci, ((List.range nf).map (ab_fv ad M o (ci, nf, rf))).set kf (.int x))) = ab_W ac ad sh (ab_pi M o kf x) := by
    rw [ab_obj_set (x := (ci, nf, rf)) hr]
    exact ab_W_set hs (ab_cell_obj hci) (fun j y hj => ab_cell_i hj)
  have hl : kf < ((List.range nf).map (ab_fv ad M o (ci, nf, rf))).length := by simpa using hk
  rcases hlink with hlink | ⟨host, hlink⟩
  · refine va_put (v := .int x) hx hb hts hin' ty0 hty hnm hown hK hP hD hS o he hc kf hkN (hts _ (List.mem_cons_of_mem _ hlink)) (fun _ h => h) hfin (hty kf hkN) hn hf hl hd (fun H1 locs1 hP hD hS => ?_)
    rw [hset] at hP hD
    exact kk p e s m args below meth c H1 locs1 A ad ls C ⟨hP, hD, hS, hA⟩ L
  · refine va_putN (v := .int x) hx hb hts hin' ty0 hty hnm hown hK hP hD hS o he hc kf hkN (va_Nw.use rfl (hN.1 _ hlink)) (fun _ h => h) hfin (hty kf hkN) hn hf hl hd (fun H1 locs1 hP hD hS => ?_)
    rw [hset] at hP hD
    exact kk p e s m args below meth c H1 locs1 A ad ls C ⟨hP, hD, hS, hA⟩ L
/-! arrays -/
theorem ab_ci {ac : Nat → ClassId} {ad : Nat → Nat} {M : ab_M} {id nn : Nat} {rf : List (Option Nat)} : ab_cell ac ad M id (100, nn, rf) = .inl (ac 100, nn, .inl (M.1 id)) := by simp [ab_cell]
theorem ab_cb {ac : Nat → ClassId} {ad : Nat → Nat} {M : ab_M} {id nn : Nat} {rf : List (Option Nat)} : ab_cell ac ad M id (101, nn, rf) = .inl (ac 101, nn, .inl (M.1 id)) := by simp [ab_cell]
theorem ab_cl {ac : Nat → ClassId} {ad : Nat → Nat} {M : ab_M} {id nn : Nat} {rf : List (Option Nat)} : ab_cell ac ad M id (102, nn, rf) = .inl (ac 102, nn, .inr (.inl (M.2 id))) := by simp [ab_cell]
theorem ab_cr {ac : Nat → ClassId} {ad : Nat → Nat} {M : ab_M} {id nn ct : Nat} {rf : List (Option Nat)} (h : 102 < ct) : ab_cell ac ad M id (ct, nn, rf) = .inl (ac ct, nn, .inr (.inr (.inr (.inr (fun j => (rf.getD j none).map ad))))) := by
  have h1 : ¬ ct < 100 := by omega
  have h2 : ¬ ct < 102 := by omega
  have h3 : ¬ ct = 102 := by omega
  simp [ab_cell, h1, h2, h3]
theorem ab_upd (M : ab_M) (o j : Nat) (x : Int32) : (ab_pi M o j x).1 o = upd (M.1 o) j x := by funext b; simp [ab_pi, upd]
theorem ab_updL (M : ab_M) (o j : Nat) (x : Int64) : (ab_pl M o j x).2 o = vp_updL (M.2 o) j x := by funext b; simp [ab_pl, vp_updL]
theorem ev_iaload {o nn : Nat} {rf : List (Option Nat)} {i : Int32} (hs : sh[o]? = some (100, nn, rf)) (hin : vp_in i nn) (hd : decode me.2.2.1 pc = .ok (.iaload, 1)) (kk : ab_Ev l D ac d me n0 mc ms r k n sh (pc + 1) lv (.int (M.1 o i.toNatClampNeg) :: st) M) : ab_Ev l D ac d me n0 mc ms r k n sh pc lv (.int i :: .ref o :: st) M := by
  intro p e s m args below meth c H locs A ad ls C S L
  exact va_iald C.1 C.2.1 C.2.2.2.2.2.2.2.2.1 S.1 o 0 ((ab_W_get hs).trans (by rw [ab_ci])) rfl hin hd (kk p e s m args below meth c H locs A ad ls C S L)
theorem ev_baload {o nn : Nat} {rf : List (Option Nat)} {i : Int32} (hs : sh[o]? = some (101, nn, rf)) (hin : vp_in i nn) (hd : decode me.2.2.1 pc = .ok (.baload, 1)) (kk : ab_Ev l D ac d me n0 mc ms r k n sh (pc + 1) lv (.int (M.1 o i.toNatClampNeg) :: st) M) : ab_Ev l D ac d me n0 mc ms r k n sh pc lv (.int i :: .ref o :: st) M := by
  intro p e s m args below meth c H locs A ad ls C S L
  exact va_bald C.1 C.2.1 C.2.2.2.2.2.2.2.2.1 S.1 o 1 ((ab_W_get hs).trans (by rw [ab_cb])) rfl hin hd (kk p e s m args below meth c H locs A ad ls C S L)
theorem ev_laload {o nn : Nat} {rf : List (Option Nat)} {i : Int32} (hs : sh[o]? = some (102, nn, rf)) (hin : vp_in i nn) (hd : decode me.2.2.1 pc = .ok (.laload, 1)) (kk : ab_Ev l D ac d me n0 mc ms r k n sh (pc + 1) lv (.long (M.2 o i.toNatClampNeg) :: st) M) : ab_Ev l D ac d me n0 mc ms r k n sh pc lv (.int i :: .ref o :: st) M := by
  intro p e s m args below meth c H locs A ad ls C S L
  exact va_lald C.1 C.2.1 C.2.2.2.2.2.2.2.2.1 S.1 o 2 ((ab_W_get hs).trans (by rw [ab_cl])) rfl hin hd (kk p e s m args below meth c H locs A ad ls C S L)
theorem ev_aaload {o o' ct nn : Nat} {rf : List (Option Nat)} {i : Int32} (hs : sh[o]? = some (ct, nn, rf)) (hct : ct = 103 ∨ ct = 104) (hin : vp_in i nn) (ho : rf.getD i.toNatClampNeg none = some o') (hd : decode me.2.2.1 pc = .ok (.aaload, 1)) (kk : ab_Ev l D ac d me n0 mc ms r k n sh (pc + 1) lv (.ref o' :: st) M) : ab_Ev l D ac d me n0 mc ms r k n sh pc lv (.int i :: .ref o :: st) M := by
  intro p e s m args below meth c H locs A ad ls C S L
  have kk := kk p e s m args below meth c H locs A ad ls C S L
  rcases hct with rfl | rfl
  · refine va_aldq C.1 C.2.1 C.2.2.2.2.2.2.2.2.1 S.1 o 3 ((ab_W_get hs).trans (by rw [ab_cr (by decide)])) rfl hin hd ?_
    show W p l e (ab_rm d mc ms) s m args below meth c H locs k n _ (F0 m (pc + 1) ls (va_rf ((rf.getD i.toNatClampNeg none).map ad) :: st.map (ab_v ad)))
    rw [ho]
    exact kk
  · refine va_aldq C.1 C.2.1 C.2.2.2.2.2.2.2.2.1 S.1 o 4 ((ab_W_get hs).trans (by rw [ab_cr (by decide)])) rfl hin hd ?_
    show W p l e (ab_rm d mc ms) s m args below meth c H locs k n _ (F0 m (pc + 1) ls (va_rf ((rf.getD i.toNatClampNeg none).map ad) :: st.map (ab_v ad)))
    rw [ho]
    exact kk
theorem ev_iastore {o nn : Nat} {rf : List (Option Nat)} {i x : Int32} (hs : sh[o]? = some (100, nn, rf)) (hin : vp_in i nn) (hd : decode me.2.2.1 pc = .ok (.iastore, 1)) (kk : ab_Ev l D ac d me n0 mc ms r k n sh (pc + 1) lv st (ab_pi M o i.toNatClampNeg x)) : ab_Ev l D ac d me n0 mc ms r k n sh pc lv (.int x :: .int i :: .ref o :: st) M := by
  intro p e s m args below meth c H locs A ad ls C S L
  obtain ⟨hP, hD, hS, hA⟩ := S
  have hset : (ab_W ac ad sh M).set o (ad o, .inl (ac 100, nn, .inl (upd (M.1 o) i.toNatClampNeg x))) = ab_W ac ad sh (ab_pi M o i.toNatClampNeg x) := ab_W_set hs (by rw [ab_ci, ab_upd]) (fun j y hj => ab_cell_i hj)
  refine va_iast C.1 C.2.1 C.2.2.2.2.2.2.2.2.1 hP hD hS o 0 ((ab_W_get hs).trans (by rw [ab_ci])) rfl hin hd (fun H1 locs1 hP hD hS => ?_)
  rw [hset] at hP hD
  exact kk p e s m args below meth c H1 locs1 A ad ls C ⟨hP, hD, hS, hA⟩ L
theorem ev_bastore {o nn : Nat} {rf : List (Option Nat)} {i x : Int32} (hs : sh[o]? = some (101, nn, rf)) (hin : vp_in i nn) (hd : decode me.2.2.1 pc = .ok (.bastore, 1)) (kk : ab_Ev l D ac d me n0 mc ms r k n sh (pc + 1) lv st (ab_pi M o i.toNatClampNeg x.toInt8.toInt32)) : ab_Ev l D ac d me n0 mc ms r k n sh pc lv (.int x :: .int i :: .ref o :: st) M := by
  intro p e s m args below meth c H locs A ad ls C S L
  obtain ⟨hP, hD, hS, hA⟩ := S
  have hset : (ab_W ac ad sh M).set o (ad o, .inl (ac 101, nn, .inl (upd (M.1 o) i.toNatClampNeg (vp_nar .byte x)))) = ab_W ac ad sh (ab_pi M o i.toNatClampNeg x.toInt8.toInt32) := ab_W_set hs (by rw [ab_cb, ab_upd, vp_nar_byte]) (fun j y hj => ab_cell_i hj)
  refine va_bast C.1 C.2.1 C.2.2.2.2.2.2.2.2.1 hP hD hS o 1 ((ab_W_get hs).trans (by rw [ab_cb])) rfl hin hd (fun H1 locs1 hP hD hS => ?_)
  rw [hset] at hP hD
  exact kk p e s m args below meth c H1 locs1 A ad ls C ⟨hP, hD, hS, hA⟩ L
theorem ev_lastore {o nn : Nat} {rf : List (Option Nat)} {i : Int32} {x : Int64} (hs : sh[o]? = some (102, nn, rf)) (hin : vp_in i nn) (hd : decode me.2.2.1 pc = .ok (.lastore, 1)) (kk : ab_Ev l D ac d me n0 mc ms r k n sh (pc + 1) lv st (ab_pl M o i.toNatClampNeg x)) : ab_Ev l D ac d me n0 mc ms r k n sh pc lv (.long x :: .int i :: .ref o :: st) M := by
  intro p e s m args below meth c H locs A ad ls C S L
  obtain ⟨hP, hD, hS, hA⟩ := S
  have hset : (ab_W ac ad sh M).set o (ad o, .inl (ac 102, nn, .inr (.inl (vp_updL (M.2 o) i.toNatClampNeg x)))) = ab_W ac ad sh (ab_pl M o i.toNatClampNeg x) := ab_W_set hs (by rw [ab_cl, ab_updL]) (fun j y hj => ab_cell_l hj)
  refine va_last C.1 C.2.1 C.2.2.2.2.2.2.2.2.1 hP hD hS o 2 ((ab_W_get hs).trans (by rw [ab_cl])) rfl hin hd (fun H1 locs1 hP hD hS => ?_)
  rw [hset] at hP hD
  exact kk p e s m args below meth c H1 locs1 A ad ls C ⟨hP, hD, hS, hA⟩ L
theorem ev_alen {o nn ct : Nat} {rf : List (Option Nat)} {x : Int32} (hs : sh[o]? = some (ct, nn, rf)) (hct : ct = 100 ∨ ct = 101 ∨ ct = 102) (hx : Int32.ofNat nn = x) (hd : decode me.2.2.1 pc = .ok (.arraylength, 1)) (kk : ab_Ev l D ac d me n0 mc ms r k n sh (pc + 1) lv (.int x :: st) M) : ab_Ev l D ac d me n0 mc ms r k n sh pc lv (.ref o :: st) M := by
  intro p e s m args below meth c H locs A ad ls C S L
  have kk := kk p e s m args below meth c H locs A ad ls C S L
  rcases hct with rfl | rfl | rfl
  · exact va_alen C.1 C.2.1 C.2.2.2.2.2.2.2.2.1 S.1 o 0 ((ab_W_get hs).trans (by rw [ab_ci])) rfl hx hd kk
  · exact va_alen C.1 C.2.1 C.2.2.2.2.2.2.2.2.1 S.1 o 1 ((ab_W_get hs).trans (by rw [ab_cb])) rfl hx hd kk
  · exact va_alen C.1 C.2.1 C.2.2.2.2.2.2.2.2.1 S.1 o 2 ((ab_W_get hs).trans (by rw [ab_cl])) rfl hx hd kk
/-! returns -/
theorem ev_ireturn {x : Int32} (hr : me.2.2.2.2 = some .int) (hd : decode me.2.2.1 pc = .ok (.ireturn, 1)) : ab_Ev l D ac d me n0 mc ms (some (.int x), sh, M) mc ms sh pc lv [.int x] M := by
  intro p e s m args below meth c H locs A ad ls C S L
  obtain ⟨hx, hb, hrt, hml, hown, hts, hlk, hnm, hK, hN⟩ := C
  obtain ⟨hP, hD, hS, hA⟩ := S
  exact W.iret hx hb (hrt.trans hr) (fun t ht hW => ⟨⟨ad, rfl, fun _ _ => rfl, fun _ => rfl, by rw [ht]; exact hP, va_K.moved hW.alike hK, hD⟩, hS.F ht⟩) hS.2.2 hd hlk
theorem ev_zreturn {x : Int32} (hr : me.2.2.2.2 = some .boolean) (hv : x = 0 ∨ x = 1) (hd : decode me.2.2.1 pc = .ok (.ireturn, 1)) : ab_Ev l D ac d me n0 mc ms (some (.int x), sh, M) mc ms sh pc lv [.int x] M := by
  intro p e s m args below meth c H locs A ad ls C S L
  obtain ⟨hx, hb, hrt, hml, hown, hts, hlk, hnm, hK, hN⟩ := C
  obtain ⟨hP, hD, hS, hA⟩ := S
  exact W.zret hx hb (hrt.trans hr) (by rcases hv with rfl | rfl <;> rfl) (fun t ht hW => ⟨⟨ad, rfl, fun _ _ => rfl, fun _ => rfl, by rw [ht]; exact hP, va_K.moved hW.alike hK, hD⟩, hS.F ht⟩) hS.2.2 hd hlk
theorem ev_lreturn {x : Int64} (hr : me.2.2.2.2 = some .long) (hd : decode me.2.2.1 pc = .ok (.lreturn, 1)) : ab_Ev l D ac d me n0 mc ms (some (.long x), sh, M) mc ms sh pc lv [.long x] M := by
  intro p e s m args below meth c H locs A ad ls C S L
  obtain ⟨hx, hb, hrt, hml, hown, hts, hlk, hnm, hK, hN⟩ := C
  obtain ⟨hP, hD, hS, hA⟩ := S
  exact W.lret hx hb (hrt.trans hr) (fun t ht hW => ⟨⟨ad, rfl, fun _ _ => rfl, fun _ => rfl, by rw [ht]; exact hP, va_K.moved hW.alike hK, hD⟩, hS.F ht⟩) hS.2.2 hd hlk
theorem ev_areturn {o : Nat} {ty : FieldType} (hr : me.2.2.2.2 = some (.array ty)) (hd : decode me.2.2.1 pc = .ok (.areturn, 1)) : ab_Ev l D ac d me n0 mc ms (some (.ref o), sh, M) mc ms sh pc lv [.ref o] M := by
  intro p e s m args below meth c H locs A ad ls C S L
  obtain ⟨hx, hb, hrt, hml, hown, hts, hlk, hnm, hK, hN⟩ := C
  obtain ⟨hP, hD, hS, hA⟩ := S
  exact W.aret hx hb (hrt.trans hr) (Or.inr ⟨_, rfl⟩) (Or.inr ⟨_, rfl⟩) (fun t ht hW => ⟨⟨ad, rfl, fun _ _ => rfl, fun _ => rfl, by rw [ht]; exact hP, va_K.moved hW.alike hK, hD⟩, hS.F ht⟩) hS.2.2 hd hlk
theorem ev_return (hr : me.2.2.2.2 = none) (hd : decode me.2.2.1 pc = .ok (.return_, 1)) : ab_Ev l D ac d me n0 mc ms (none, sh, M) mc ms sh pc lv [] M := by
  intro p e s m args below meth c H locs A ad ls C S L
  obtain ⟨hx, hb, hrt, hml, hown, hts, hlk, hnm, hK, hN⟩ := C
  obtain ⟨hP, hD, hS, hA⟩ := S
  exact W.vret hx hb (hrt.trans hr) (fun t ht hW => ⟨⟨ad, rfl, fun _ _ => rfl, fun _ => rfl, by rw [ht]; exact hP, va_K.moved hW.alike hK, hD⟩, hS.F ht⟩) hS.2.2 hd hlk
/-! a contract out of its body -/
def ab_ent (av : List Value) : List (Option Value) := av.flatMap (fun v => if v.category = 2 then [some v, none] else [some v])
theorem ab_ent_args (ad : Nat → Nat) : ∀ (av : List Value) (b i : Nat) (v : Value), (ab_ent av)[i]? = some (some v) → (b + i, ab_v ad v) ∈ lv_args b (av.map (ab_v ad))
  | [], b, i, v, h => by simp [ab_ent] at h
  | a :: av, b, i, v, h => by
    have ih := ab_ent_args ad av
    show (b + i, ab_v ad v) ∈ (b, ab_v ad a) :: lv_args (if (ab_v ad a).category = 2 then b + 2 else b + 1) (av.map (ab_v ad))
    rw [ab_vc]
    by_cases hc : a.category = 2
    · have he : ab_ent (a :: av) = some a :: none :: ab_ent av := by simp [ab_ent, hc]
      rw [he] at h
      rw [if_pos hc]
      match i, h with
      | 0, h => simp at h; subst h; exact List.mem_cons_self
      | 1, h => simp at h
      | i + 2, h =>
        have := ih (b + 2) i v (by simpa using h)
        rw [show b + (i + 2) = b + 2 + i by omega]
        exact List.mem_cons_of_mem _ this
    · have he : ab_ent (a :: av) = some a :: ab_ent av := by simp [ab_ent, hc]
      rw [he] at h
      rw [if_neg hc]
      match i, h with
      | 0, h => simp at h; subst h; exact List.mem_cons_self
      | i + 1, h =>
        have := ih (b + 1) i v (by simpa using h)
        rw [show b + (i + 1) = b + 1 + i by omega]
        exact List.mem_cons_of_mem _ this
theorem ab_ent_len (ad : Nat → Nat) (av : List Value) : (lg_sl (av.map (ab_v ad))).length = (ab_ent av).length := by
  induction av with
  | nil => rfl
  | cons a av ih =>
    simp only [lg_sl, ab_ent, List.map_cons, List.flatMap_cons, List.length_append, ab_vc] at ih ⊢
    rw [ih]
    by_cases hc : a.category = 2 <;> simp [hc]
theorem ab_intro {av : List Value} (hpl : plainName me.1.cls = true) (hcls : me.1.cls = me.2.1) (hlen : (ab_ent av).length ≤ me.2.2.2.1) (hlv : ab_ent av ++ List.replicate (me.2.2.2.1 - (ab_ent av).length) none = lv) (kk : ab_Ev l D ac d me sh.length mc ms r 0 0 sh 0 lv [] M) : ab_Con l D ac d me mc ms av sh M r := by
  intro ad sz
  refine Met.ofW (cc := me.2.2.1) (maxL := me.2.2.2.1) (ret := me.2.2.2.2) hpl rfl ?_
  intro p e s m args below meth c s₁ B hml hv
  obtain ⟨rfl, hsz, hP, hK, hD0, hN⟩ := hv
  have hts := atoms_spec (ws := ab_ws me) B.pre
  have hown : s.vm.findClass me.1.cls = some m.cls := findClass_of_methodNamed B.named
  subst hsz
  have hD := hD0.self (sz := s.heap.size)
  have hl := lv_entry (av.map (ab_v ad)) (n := me.2.2.2.1) (by rw [ab_ent_len]; exact hlen)
  rw [lg_entry_eq]
  refine kk p e s m _ below meth c s.heap [] (va_A (ab_W ac ad sh M) s.heap.size) ad _ ⟨B.exec, B.bytes, B.returns, hml, by rw [← hcls]; exact hown, hts, B.notSynchronized, (name_of_methodNamed B.named B.method).1, hK, hN⟩ ⟨hP, hD, va_S.rf, fun q h => Or.inr h⟩ ⟨hl.1, hl.2.1, ?_, fun i v hi => ?_⟩
  · rw [← hlv, List.length_append, List.length_replicate]; omega
  · rw [← hlv] at hi
    by_cases hlt : i < (ab_ent av).length
    · rw [List.getElem?_append_left hlt] at hi
      have := hl.2.2 _ (ab_ent_args ad av 0 i v hi)
      simpa using this
    · rw [List.getElem?_append_right (Nat.not_lt.mp hlt), List.getElem?_replicate] at hi
      split at hi <;> cases hi
/-! calls -/
theorem ab_callW {p : Program} {e : Env} {R : Room} {s : State} {m : MethodId} {args : Array Value} {below : List Frame} {meth : Method} {c : Code} {H : Heap} {locs : List Loc} {cells slots : Nat} {Q : State → Prop} {pc : Nat} {ls : Array Slot} {rest st0 : List Value} {a : Array Value} {A0 A1 : Nat → Prop} {mc ms n1 : Nat} {free : Addr → Prop} {ad : Nat → Nat} {r : ab_Rs}
    (hr : va_Run p l e R s m args below meth c H locs cells slots mc ms (F0 m pc ls st0) rest (ab_Qc D ac A1 ad n1 r a) free) (hS : va_S A0 s.heap H locs) (hA : ∀ q, q < H.size → A1 q → A0 q) (hf : ∀ q, free q → A0 q)
    (kk : ∀ (ad' : Nat → Nat) (t : State) (H1 : Heap) (locs1 : List Loc), t.heap = H1 → s.vm.Alike t.vm → (∀ i, i < n1 → ad' i = ad i) → (r.2.1.length ≤ n1 → ad' = ad) → va_P D vwCl (ab_W ac ad' r.2.1 r.2.2) H1 → va_D A1 (ab_W ac ad' r.2.1 r.2.2) → H.size ≤ H1.size → (∀ q : Nat, q < H.size → ¬ A1 q → H1[q]? = H[q]?) → va_S A0 s.heap H1 locs1 → W p l e R s m args below meth c H1 locs1 (cells + mc) (slots + ms) Q (F0 m (pc + 3) ls ((r.1.map (ab_v ad')).toList ++ rest))) : W p l e R s m args below meth c H locs cells slots Q (F0 m pc ls st0) := by
  intro T hT X
  obtain ⟨v, st₀, t, T', L, h0, X', hL, e1, e2, ⟨⟨ad', hv, ha1, ha2, hp, hk1, hd1⟩, hz, hk⟩, st⟩ := hr T hT X
  cases hv
  rw [h0] at hz hk
  obtain ⟨t2, a1, b1⟩ := kk ad' t T'.heap (locs ++ L) e1.symm (by rw [← e2]; exact X'.warmed.alike) ha1 ha2 (by rw [e1]; exact hp) hd1 (by rw [e1]; exact hz) (fun q h1 h2 => by rw [e1]; exact hk q h1 h2)
    ⟨Nat.le_trans hS.1 (by rw [e1]; exact hz), fun q h1 h2 => by rw [e1, hk q (Nat.lt_of_lt_of_le h1 hS.1) (fun z => h2 (hA q (Nat.lt_of_lt_of_le h1 hS.1) z))]; exact hS.2.1 q h1 h2, fun q hq => by
      rcases List.mem_append.mp hq with h | h
      · exact hS.2.2 q h
      · exact hf _ (hL q h)⟩ T' rfl X'
  exact ⟨t2, st t2 a1, b1⟩
/-- what is known of a method that is called -/
def ab_MV (me : ab_Me) (ci np : Nat) : Prop := Cond.code me.1 me.2.2.1 me.2.2.2.1 me.2.2.2.2 ∈ ab_G ∧ Cond.instanceMethod me.1 ∈ ab_G ∧ Cond.selects me.1.cls me.1 me.1 ∈ ab_G ∧ Cond.initialized me.1.cls ∈ ab_G ∧ (me.1.cls ≠ "java/lang/invoke/MethodHandle" ∧ me.1.cls ≠ "java/lang/invoke/VarHandle" ∧ (parseMethodDescriptor me.1.desc).map (fun d => d.parameters.length) = some np) ∧ me.2.2.2.1 ≤ 29 ∧ ci < 100 ∧ ∃ T N, vwCl[ci]? = some (me.1.cls, T, N)
def ab_MS (me : ab_Me) (np : Nat) : Prop := Cond.code me.1 me.2.2.1 me.2.2.2.1 me.2.2.2.2 ∈ ab_G ∧ Cond.static me.1 ∈ ab_G ∧ Cond.initialized me.1.cls ∈ ab_G ∧ (me.1.cls ≠ "java/lang/invoke/MethodHandle" ∧ me.1.cls ≠ "java/lang/invoke/VarHandle" ∧ (parseMethodDescriptor me.1.desc).map (fun d => d.parameters.length) = some np) ∧ me.2.2.2.1 ≤ 29
theorem ab_blind {av : List Value} {sz : Nat} {ad : Nat → Nat} : FrameBlind (va_Pc av (fun U => U.heap.size = sz ∧ va_P D vwCl (ab_W ac ad sh M) U.heap ∧ va_K D vwCl (ab_tys ac) U ∧ va_D (fun _ => True) (ab_W ac ad sh M) ∧ ab_N U)) := by
  intro a U g mk q
  obtain ⟨q0, q1, qP, qK, qD, qN⟩ := q
  exact ⟨q0, q1, qP, va_K.moved (u := U) (U := U.calling g mk a) (Vm.Alike.refl U.vm) qK, qD, ab_N.same (s := U) (U := U.calling g mk a) rfl qN⟩
theorem ab_freeW {A : Nat → Prop} {ws : va_W} {H0 H : Heap} {locs : List Loc} (hD : va_D A ws) (hS : va_S A H0 H locs) (hA : ∀ q, H0.size ≤ q → A q) : ∀ q, va_A ws H.size q → A q := by
  intro q h
  rcases h with ⟨k, e, h⟩ | h
  · exact hD.2 k (q, e) h
  · exact hA q (Nat.le_trans hS.1 h)
theorem ev_callV {me' : ab_Me} {d' idx o ci nf : Nat} {rf : List (Option Nat)} {as sk : List Value} {rv : Option Value} {M' : ab_M} (hc : ab_Con l D ac d' me' 0 0 (.ref o :: as) sh M (rv, sh, M')) (hm : ab_MV me' ci as.length) (hs : sh[o]? = some (ci, nf, rf)) (hl : Cond.methodLink me.2.1 idx me'.1 ∈ ab_G) (hd : decode me.2.2.1 pc = .ok (.invokevirtual idx, 3)) (hdd : d' < d) (hk1 : sk = as.reverse ++ .ref o :: st) (hst : (st.map fun v => v.category).sum ≤ 8) (hkn : k ≤ mc ∧ n ≤ ms)
    (kk : ab_Ev l D ac d me n0 mc ms r k n sh (pc + 3) lv (rv.toList ++ st) M') : ab_Ev l D ac d me n0 mc ms r k n sh pc lv sk M := by
  intro p e s m args below meth c H locs A ad ls C S L
  obtain ⟨hx, hb, hrt, hml, hown, hts, hlk, hnm, hK, hN⟩ := id C
  obtain ⟨hP, hD, hS, hA⟩ := S
  obtain ⟨h1, h2, h3, h4, h5, h6, h7, T, N, h8⟩ := hm
  have he : (ab_W ac ad sh M)[o]? = some (ad o, .inr (ci, (List.range nf).map (ab_fv ad M o (ci, nf, rf)))) := by rw [ab_W_get hs, ab_cell_obj h7]
  have hF := ab_freeW hD hS hA
  have hG : GoodIn (ab_ws me) (wsV me.2.1 idx me'.1.cls me'.1 (ab_ws me')) := by
    intro w hw
    unfold wsV at hw
    rcases List.mem_append.mp hw with hw | hw
    · simp only [List.mem_cons, List.not_mem_nil, or_false] at hw
      rcases hw with rfl | rfl | rfl | rfl
      · exact ab_good1 hl
      · exact ab_good1 h2
      · exact ab_good1 h3
      · exact ab_good1 h4
    · exact ab_goodIn h1 w hw
  refine ab_callW (va_runV (As := as.map (ab_v ad)) (rest := st.map (ab_v ad)) (C := me'.1.cls) (b := ad o) ⟨hx, hb, hml, hown, hts⟩ (hc ad H.size) (cwV as.length hts hG rfl rfl rfl ⟨rfl, h5⟩ ⟨by show d' + 1 ≤ d; omega, by show 8 + (me'.2.2.2.1 + 11) + 48 * d' ≤ 48 * d; omega⟩) ⟨ab_blind, va_recv hK hP h8 he, fun U hU hW => ⟨rfl, by rw [hU], by rw [hU]; exact hP, va_K.moved hW.alike hK, hD.weaken (fun _ _ _ _ => trivial), ab_N.warm hW hN⟩⟩ rfl (by simp) L.1 (by subst hk1; simp [ab_v]) (lv_room (by rw [ab_vcs]; exact hst)) hd ⟨by simpa using hkn.1, by simpa using hkn.2⟩) hS (fun q _ h => hF q h) hF (fun ad' t H1 locs1 ht hvm ha1 ha2 hP1 hD1 hz hk hS1 => ?_)
  have e1 : ad' = ad := ha2 (Nat.le_refl _)
  subst e1
  have := kk p e s m args below meth c H1 locs1 A ad' ls C ⟨hP1, hD1.weaken (fun _ _ _ h => hF _ h), hS1, hA⟩ L
  rw [show (rv.toList ++ st).map (ab_v ad') = (rv.map (ab_v ad')).toList ++ st.map (ab_v ad') by cases rv <;> rfl] at this
  exact this
theorem ev_callS {me' : ab_Me} {d' idx : Nat} {as sk : List Value} {rv : Option Value} {M' : ab_M} (hc : ab_Con l D ac d' me' 0 0 as sh M (rv, sh, M')) (hm : ab_MS me' as.length) (hl : Cond.methodLink me.2.1 idx me'.1 ∈ ab_G) (hd : decode me.2.2.1 pc = .ok (.invokestatic idx, 3)) (hdd : d' < d) (hk1 : sk = as.reverse ++ st) (hst : (st.map fun v => v.category).sum ≤ 8) (hkn : k ≤ mc ∧ n ≤ ms)
    (kk : ab_Ev l D ac d me n0 mc ms r k n sh (pc + 3) lv (rv.toList ++ st) M') : ab_Ev l D ac d me n0 mc ms r k n sh pc lv sk M := by
  intro p e s m args below meth c H locs A ad ls C S L
  obtain ⟨hx, hb, hrt, hml, hown, hts, hlk, hnm, hK, hN⟩ := id C
  obtain ⟨hP, hD, hS, hA⟩ := S
  obtain ⟨h1, h2, h4, h5, h6⟩ := hm
  have hF := ab_freeW hD hS hA
  refine ab_callW (va_runS (As := as.map (ab_v ad)) (rest := st.map (ab_v ad)) ⟨hx, hb, hml, hown, hts⟩ (hc ad H.size) ⟨callB_of as.length hts (ab_goodIn h1) rfl rfl rfl (hts _ (List.mem_cons_of_mem _ h4)) (hts _ (List.mem_cons_of_mem _ hl)) h5 ⟨by show d' + 1 ≤ d; omega, by show 8 + (me'.2.2.2.1 + 11) + 48 * d' ≤ 48 * d; omega⟩, hts _ (List.mem_cons_of_mem _ h2)⟩ ⟨ab_blind, fun U hU hW => ⟨rfl, by rw [hU], by rw [hU]; exact hP, va_K.moved hW.alike hK, hD.weaken (fun _ _ _ _ => trivial), ab_N.warm hW hN⟩⟩ rfl (by simp) L.1 (by subst hk1; simp) (lv_room (by rw [ab_vcs]; exact hst)) hd ⟨by simpa using hkn.1, by simpa using hkn.2⟩) hS (fun q _ h => hF q h) hF (fun ad' t H1 locs1 ht hvm ha1 ha2 hP1 hD1 hz hk hS1 => ?_)
  have e1 : ad' = ad := ha2 (Nat.le_refl _)
  subst e1
  have := kk p e s m args below meth c H1 locs1 A ad' ls C ⟨hP1, hD1.weaken (fun _ _ _ h => hF _ h), hS1, hA⟩ L
  rw [show (rv.toList ++ st).map (ab_v ad') = (rv.map (ab_v ad')).toList ++ st.map (ab_v ad') by cases rv <;> rfl] at this
  exact this
theorem ev_callSN {me' : ab_Me} {d' idx : Nat} {host : String} {as sk : List Value} {rv : Option Value} {M' : ab_M} (hc : ab_Con l D ac d' me' 0 0 as sh M (rv, sh, M')) (hm : ab_MS me' as.length) (hl : Cond.methodLinkNest me.2.1 idx me'.1 host ∈ ab_nest) (hd : decode me.2.2.1 pc = .ok (.invokestatic idx, 3)) (hdd : d' < d) (hk1 : sk = as.reverse ++ st) (hst : (st.map fun v => v.category).sum ≤ 8) (hkn : k ≤ mc ∧ n ≤ ms)
    (kk : ab_Ev l D ac d me n0 mc ms r k n sh (pc + 3) lv (rv.toList ++ st) M') : ab_Ev l D ac d me n0 mc ms r k n sh pc lv sk M := by
  intro p e s m args below meth c H locs A ad ls C S L
  obtain ⟨hx, hb, hrt, hml, hown, hts, hlk, hnm, hK, hN⟩ := id C
  obtain ⟨hP, hD, hS, hA⟩ := S
  obtain ⟨h1, h2, h4, h5, h6⟩ := hm
  have hF := ab_freeW hD hS hA
  refine ab_callW (va_runSN (As := as.map (ab_v ad)) (rest := st.map (ab_v ad)) ⟨hx, hb, hml, hown, hts⟩ (hc ad H.size) ⟨va_cnB as.length hts (ab_goodIn h1) rfl rfl rfl (hN.1 _ hl) (hts _ (List.mem_cons_of_mem _ h4)) h5 ⟨by show d' + 1 ≤ d; omega, by show 8 + (me'.2.2.2.1 + 11) + 48 * d' ≤ 48 * d; omega⟩, hts _ (List.mem_cons_of_mem _ h2), trivial⟩ ⟨ab_blind, fun U hU hW => ⟨rfl, by rw [hU], by rw [hU]; exact hP, va_K.moved hW.alike hK, hD.weaken (fun _ _ _ _ => trivial), ab_N.warm hW hN⟩⟩ rfl (by simp) L.1 (by subst hk1; simp) (lv_room (by rw [ab_vcs]; exact hst)) hd ⟨by simpa using hkn.1, by simpa using hkn.2⟩) hS (fun q _ h => hF q h) hF (fun ad' t H1 locs1 ht hvm ha1 ha2 hP1 hD1 hz hk hS1 => ?_)
  have e1 : ad' = ad := ha2 (Nat.le_refl _)
  subst e1
  have := kk p e s m args below meth c H1 locs1 A ad' ls C ⟨hP1, hD1.weaken (fun _ _ _ h => hF _ h), hS1, hA⟩ L
  rw [show (rv.toList ++ st).map (ab_v ad') = (rv.map (ab_v ad')).toList ++ st.map (ab_v ad') by cases rv <;> rfl] at this
  exact this
end ABheap
