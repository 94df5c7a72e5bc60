/-! makings: new cells, references put into them; for constructors alone -/
section ABmake
variable {l : Launch} {D : va_G} {ac : Nat → ClassId} {d : Nat} {me : ab_Me} {n0 mc ms : Nat} {r : ab_Rs} {k n : Nat} {sh sh1 : ab_H} {pc : Nat} {lv lv' : List (Option Value)} {st : List Value} {M : ab_M}
def ab_M0 : ab_M := (fun _ _ => 0, fun _ _ => 0)
/-- beyond the cells there is nothing -/
def ab_z (M : ab_M) (n : Nat) : Prop := ∀ i, n ≤ i → ∀ j, M.1 i j = 0 ∧ M.2 i j = 0
theorem ab_z0 (n : Nat) : ab_z ab_M0 n := fun _ _ _ => ⟨rfl, rfl⟩
theorem ab_z_up {M : ab_M} {n n' : Nat} (h : ab_z M n) (hn : n ≤ n') : ab_z M n' := fun i hi => h i (Nat.le_trans hn hi)
theorem ab_z_pi {M : ab_M} {n o j : Nat} {v : Int32} (h : ab_z M n) (ho : o < n) : ab_z (ab_pi M o j v) n := fun i hi b => ⟨by
  show (if i = o ∧ b = j then v else M.1 i b) = 0
  rw [if_neg (fun q => by omega)]
  exact (h i hi b).1, (h i hi b).2⟩
def ab_okv (n : Nat) (v : Value) : Bool := match v with
  | .ref i => decide (i < n)
  | _ => true
def ab_okl (n : Nat) (lv : List (Option Value)) : Bool := lv.all (fun o => match o with
  | some v => ab_okv n v
  | none => true)
def ab_clo (n : Nat) (sh : ab_H) : Bool := sh.all (fun x => x.2.2.all (fun o => match o with
  | some i => decide (i < n)
  | none => true))
theorem ab_okv_eq {n : Nat} {ad ad' : Nat → Nat} {v : Value} (h : ab_okv n v = true) (ha : ∀ i, i < n → ad' i = ad i) : ab_v ad' v = ab_v ad v := by
  cases v with
  | ref i => show Value.ref (ad' i) = Value.ref (ad i); rw [ha i (by simpa [ab_okv] using h)]
  | _ => rfl
theorem ab_oks_eq {n : Nat} {ad ad' : Nat → Nat} {st : List Value} (h : st.all (ab_okv n) = true) (ha : ∀ i, i < n → ad' i = ad i) : st.map (ab_v ad') = st.map (ab_v ad) := by
  refine List.map_congr_left (fun v hv => ab_okv_eq (List.all_eq_true.mp h v hv) ha)
theorem ab_okl_L {n : Nat} {ad ad' : Nat → Nat} {ls : Array Slot} {nL : Nat} {lv : List (Option Value)} (h : ab_okl n lv = true) (ha : ∀ i, i < n → ad' i = ad i) (L : ab_L ad ls nL lv) : ab_L ad' ls nL lv := by
  refine ⟨L.1, L.2.1, L.2.2.1, fun i v hi => ?_⟩
  have := List.all_eq_true.mp h (some v) (List.mem_of_getElem? hi)
  rw [ab_okv_eq this ha]
  exact L.2.2.2 i v hi
theorem ab_getD_eq {n : Nat} {ad ad' : Nat → Nat} {rf : List (Option Nat)} (h : rf.all (fun o => match o with
  | some i => decide (i < n)
  | none => true) = true) (ha : ∀ i, i < n → ad' i = ad i) (j : Nat) : (rf.getD j none).map ad' = (rf.getD j none).map ad := by
  rw [List.getD_eq_getElem?_getD]
  cases hj : rf[j]? with
  | none => rfl
  | some o =>
    cases o with
    | none => rfl
    | some i =>
      have := List.all_eq_true.mp h (some i) (List.mem_of_getElem? hj)
      show some (ad' i) = some (ad i)
      rw [ha i (by simpa using this)]
theorem ab_cell_ad {n : Nat} {ad ad' : Nat → Nat} {M : ab_M} {id : Nat} {x : ab_S} (h : x.2.2.all (fun o => match o with
  | some i => decide (i < n)
  | none => true) = true) (ha : ∀ i, i < n → ad' i = ad i) : ab_cell ac ad' M id x = ab_cell ac ad M id x := by
  have h1 : ab_fv ad' M id x = ab_fv ad M id x := by funext j; unfold ab_fv; rw [ab_getD_eq h ha]
  have h2 : (fun j => (x.2.2.getD j none).map ad') = (fun j => (x.2.2.getD j none).map ad) := by funext j; exact ab_getD_eq h ha j
  unfold ab_cell
  rw [h1, h2]
theorem ab_W_ad {n : Nat} {ad ad' : Nat → Nat} {M : ab_M} {sh : ab_H} (h : ab_clo n sh = true) (hl : sh.length ≤ n) (ha : ∀ i, i < n → ad' i = ad i) : ab_W ac ad' sh M = ab_W ac ad sh M := by
  unfold ab_W
  refine List.map_congr_left (fun i hi => ?_)
  have hi := List.mem_range.mp hi
  rw [ha i (by omega), ab_cell_ad (n := n) _ ha]
  refine List.all_eq_true.mp h _ ?_
  rw [List.getD_eq_getElem?_getD, List.getElem?_eq_getElem hi]
  exact List.getElem_mem hi
/-- a cell more -/
theorem ab_W_app {ad : Nat → Nat} {q : Nat} {x : ab_S} {cv : va_E} (hclo : ab_clo sh.length sh = true) (hx : ab_cell ac (fun i => if i = sh.length then q else ad i) M sh.length x = cv) : ab_W ac (fun i => if i = sh.length then q else ad i) (sh ++ [x]) M = ab_W ac ad sh M ++ [(q, cv)] := by
  have ha : ∀ i, i < sh.length → (fun i => if i = sh.length then q else ad i) i = ad i := fun i hi => if_neg (by omega)
  rw [← ab_W_ad (ac := ac) (M := M) hclo (Nat.le_refl _) ha]
  subst hx
  unfold ab_W
  rw [List.length_append, show [x].length = 1 from rfl, List.range_succ, List.map_append]
  congr 1
  · refine List.map_congr_left (fun i hi => ?_)
    have hi := List.mem_range.mp hi
    rw [List.getD_eq_getElem?_getD, List.getElem?_append_left hi, ← List.getD_eq_getElem?_getD]
  · simp
theorem ab_Wmono {p : Program} {e : Env} {R : Room} {s : State} {m : MethodId} {args : Array Value} {below : List Frame} {meth : Method} {c : Code} {H : Heap} {locs : List Loc} {cells slots : Nat} {Q Q' : State → Prop} {g : JFrame} (h : ∀ t, Q' t → Q t) (kk : W p l e R s m args below meth c H locs cells slots Q' g) : W p l e R s m args below meth c H locs cells slots Q g := fun T hT X => by
  obtain ⟨t, a, b⟩ := kk T hT X
  exact ⟨t, a, h t b⟩
theorem ab_Qc.mono {A : Nat → Prop} {ad ad1 : Nat → Nat} {a : Array Value} {s t : State} {o : Outcome} (ha : ∀ i, i < n0 → ad1 i = ad i) (hn : n0 < r.2.1.length) (h : ab_Qc D ac A ad1 n0 r a s o t) : ab_Qc D ac A ad n0 r a s o t := by
  obtain ⟨⟨ad', h1, h2, h3, h4⟩, h5⟩ := h
  exact ⟨⟨ad', h1, fun i hi => (h2 i hi).trans (ha i hi), fun z => absurd z (Nat.not_le.mpr hn), h4⟩, h5⟩
/-- goes on with other addresses -/
theorem ab_cont {st1 : List Value} {M1 : ab_M} {pc1 nb : Nat} (kk : ab_Ev l D ac d me n0 mc ms r k n sh1 pc1 lv st1 M1) (hn0 : n0 ≤ nb) (hn1 : n0 < r.2.1.length) (hlv : ab_okl nb lv = true) {p : Program} {e : Env} {s : State} {m : MethodId} {args : Array Value} {below : List Frame} {meth : Method} {c : Code} {H : Heap} {locs : List Loc} {A : Nat → Prop} {ad ad1 : Nat → Nat} {ls : Array Slot} (hag : ∀ i, i < nb → ad1 i = ad i) (C : ab_Cx D ac me p s m args meth c) (S : ab_St D ac A s ad1 sh1 M1 H locs) (L : ab_L ad ls me.2.2.2.1 lv) : W p l e (ab_rm d mc ms) s m args below meth c H locs k n (MQ below (ab_Qc D ac A ad n0 r) args s mc ms A) (F0 m pc1 ls (st1.map (ab_v ad1))) := by
  refine ab_Wmono (fun t h => ?_) (kk p e s m args below meth c H locs A ad1 ls C S (ab_okl_L hlv hag L))
  obtain ⟨o, h1, h2, h3, h4⟩ := h
  exact ⟨o, h1, h2, ab_Qc.mono (fun i hi => hag i (by omega)) hn1 h3, h4⟩
/-- what is known of a class that is made -/
def ab_NC (own : String) (idx ci nf : Nat) : Prop := ∃ (C : String) (T : u_T) (ty0 : Nat → FieldType), vwCl[ci]? = some (C, T, nf) ∧ (∀ w ∈ u_ws C T nf, w ∈ ab_G) ∧ (∀ j, j < nf → parseFieldDescriptor (T j).2.2.1 = some (ty0 j)) ∧ (∀ j, j < nf → defaultValue (ty0 j) = if ab_isR ci j = true then .null else .int 0) ∧ Cond.classLink own idx C ∈ ab_G ∧ Cond.instantiable C nf ∈ ab_G ∧ Cond.initialized C ∈ ab_G ∧ ci < 100
theorem ev_new {idx ci nf : Nat} (hC : ab_NC me.2.1 idx ci nf) (hclo : ab_clo sh.length sh = true) (hz : ab_z M sh.length) (hs1 : sh ++ [(ci, nf, List.replicate nf none)] = sh1) (hn0 : n0 ≤ sh.length) (hn1 : n0 < r.2.1.length) (hlv : ab_okl sh.length lv = true) (hst : st.all (ab_okv sh.length) = true) (hk : k + 1 ≤ mc) (hn : n + nf ≤ ms) (hd : decode me.2.2.1 pc = .ok (.new idx, 3)) (kk : ab_Ev l D ac d me n0 mc ms r (k + 1) (n + nf) sh1 (pc + 3) lv (.ref sh.length :: st) M) : ab_Ev l D ac d me n0 mc ms r k n sh pc lv st M := by
  intro p e s m args below meth c H locs A ad ls C S L
  obtain ⟨hx, hb, hrt, hml, hown, hts, hlk, hnm, hK, hN⟩ := id C
  obtain ⟨hP, hD, hS, hA⟩ := S
  obtain ⟨Cn, T, ty0, hc, hin, hty, hdf, hcl, hins, hini, hci⟩ := hC
  have hw : ∀ w, w ∈ ab_G → w.before args s = true := fun w h => hts w (List.mem_cons_of_mem _ h)
  refine va_new (fs := (List.range nf).map (fun j => if ab_isR ci j = true then .null else .int 0)) hx hb hts (fun w h => List.mem_cons_of_mem _ (hin w h)) ty0 hty hown (hw _ hcl) (hw _ hins) (hw _ hini) hK hP hD hS hA hc (fun j hj => ?_) hk hn hd (fun q H1 hP hD hS => ?_)
  · rw [hdf j hj]
    simp [vp_V, hj]
  · have ha : ∀ i, i < sh.length → (fun i => if i = sh.length then q else ad i) i = ad i := fun i hi => if_neg (by omega)
    have he := ab_W_app (ac := ac) (M := M) (ad := ad) (q := q) (x := (ci, nf, List.replicate nf none)) (cv := .inr (ci, (List.range nf).map (fun j => if ab_isR ci j = true then .null else .int 0))) hclo (by
      rw [ab_cell_obj hci]
      congr 2
      refine List.map_congr_left (fun j hj => ?_)
      have hj := List.mem_range.mp hj
      unfold ab_fv
      by_cases hr : ab_isR ci j = true
      · rw [if_pos hr, if_pos hr]
        show va_rf (((List.replicate nf none).getD j none).map _) = _
        rw [List.getD_eq_getElem?_getD, List.getElem?_replicate, if_pos hj]
        rfl
      · rw [if_neg hr, if_neg hr, (hz _ (Nat.le_refl _) j).1])
    rw [← he] at hP hD
    subst hs1
    have := ab_cont kk hn0 hn1 hlv ha C ⟨hP, hD, hS, hA⟩ L (below := below) (e := e)
    rw [List.map_cons, ab_oks_eq hst ha, show ab_v (fun i => if i = sh.length then q else ad i) (.ref sh.length) = .ref q by simp [ab_v]] at this
    exact this
theorem ab_newa_fin {ct N : Nat} {x : vp_A} {q : Nat} {ad : Nat → Nat} {H1 : Heap} {p : Program} {e : Env} {s : State} {m : MethodId} {args : Array Value} {below : List Frame} {meth : Method} {c : Code} {locs : List Loc} {A : Nat → Prop} {ls : Array Slot} {rf : List (Option Nat)} (hclo : ab_clo sh.length sh = true) (hs1 : sh ++ [(ct, N, rf)] = sh1) (hcell : ∀ ad', ab_cell ac ad' M sh.length (ct, N, rf) = .inl (ac ct, x)) (hn0 : n0 ≤ sh.length) (hn1 : n0 < r.2.1.length) (hlv : ab_okl sh.length lv = true) (hst : st.all (ab_okv sh.length) = true) (kk : ab_Ev l D ac d me n0 mc ms r k n sh1 pc lv (.ref sh.length :: st) M) (C : ab_Cx D ac me p s m args meth c) (hP : va_P D vwCl (ab_W ac ad sh M ++ [(q, .inl (ac ct, x))]) H1) (hD : va_D A (ab_W ac ad sh M ++ [(q, .inl (ac ct, x))])) (hS : va_S A s.heap H1 locs) (hA : ∀ q, s.heap.size ≤ q → A q) (L : ab_L ad ls me.2.2.2.1 lv) : W p l e (ab_rm d mc ms) s m args below meth c H1 locs k n (MQ below (ab_Qc D ac A ad n0 r) args s mc ms A) (F0 m pc ls (.ref q :: st.map (ab_v ad))) := by
  have ha : ∀ i, i < sh.length → (fun i => if i = sh.length then q else ad i) i = ad i := fun i hi => if_neg (by omega)
  have he := ab_W_app (ac := ac) (M := M) (ad := ad) (q := q) (x := (ct, N, rf)) (cv := .inl (ac ct, x)) hclo (hcell _)
  rw [← he] at hP hD
  subst hs1
  have := ab_cont kk hn0 hn1 hlv ha C ⟨hP, hD, hS, hA⟩ L (below := below) (e := e)
  rw [List.map_cons, ab_oks_eq hst ha, show ab_v (fun i => if i = sh.length then q else ad i) (.ref sh.length) = .ref q by simp [ab_v]] at this
  exact this
theorem ev_newai {N : Nat} {x : Int32} (hg : Cond.arrayClass .int ∈ ab_G) (hx0 : ¬ x < 0) (hxN : x.toNatClampNeg = N) (hb1 : N * componentBytes .int ≤ 536870912) (hclo : ab_clo sh.length sh = true) (hz : ab_z M sh.length) (hs1 : sh ++ [(100, N, [])] = sh1) (hn0 : n0 ≤ sh.length) (hn1 : n0 < r.2.1.length) (hlv : ab_okl sh.length lv = true) (hst : st.all (ab_okv sh.length) = true) (hk : k + 1 ≤ mc) (hn : n + N ≤ ms) (hd : decode me.2.2.1 pc = .ok (.newarray .int, 2)) (kk : ab_Ev l D ac d me n0 mc ms r (k + 1) (n + N) sh1 (pc + 2) lv (.ref sh.length :: st) M) : ab_Ev l D ac d me n0 mc ms r k n sh pc lv (.int x :: st) M := by
  intro p e s m args below meth c H locs A ad ls C S L
  obtain ⟨hx, hb, hrt, hml, hown, hts, hlk, hnm, hK, hN⟩ := id C
  obtain ⟨hP, hD, hS, hA⟩ := S
  refine va_newa (atype := .int) (a0 := (N, .inl (fun _ => 0))) hx hb (hts _ (List.mem_cons_of_mem _ hg)) rfl hK hP hD hS hA (fun cA => rfl) hx0 hxN hb1 hk hn hd (fun q cA H1 hK1 hP hD hS => ?_)
  have e1 : cA = ac 100 := by
    have h1 := (hK1.2 5 (cA, .int) rfl).2
    have h2 := (hK.2 0 (ac 100, .int) rfl).2
    exact Option.some.inj (h1.symm.trans h2)
  subst e1
  exact ab_newa_fin (rf := []) hclo hs1 (fun ad' => by rw [ab_ci, show M.1 sh.length = fun _ => 0 from funext fun j => (hz _ (Nat.le_refl _) j).1]) hn0 hn1 hlv hst kk C hP hD hS hA L
theorem ev_newab {N : Nat} {x : Int32} (hg : Cond.arrayClass .byte ∈ ab_G) (hx0 : ¬ x < 0) (hxN : x.toNatClampNeg = N) (hb1 : N * componentBytes .byte ≤ 536870912) (hclo : ab_clo sh.length sh = true) (hz : ab_z M sh.length) (hs1 : sh ++ [(101, N, [])] = sh1) (hn0 : n0 ≤ sh.length) (hn1 : n0 < r.2.1.length) (hlv : ab_okl sh.length lv = true) (hst : st.all (ab_okv sh.length) = true) (hk : k + 1 ≤ mc) (hn : n + N ≤ ms) (hd : decode me.2.2.1 pc = .ok (.newarray .byte, 2)) (kk : ab_Ev l D ac d me n0 mc ms r (k + 1) (n + N) sh1 (pc + 2) lv (.ref sh.length :: st) M) : ab_Ev l D ac d me n0 mc ms r k n sh pc lv (.int x :: st) M := by
  intro p e s m args below meth c H locs A ad ls C S L
  obtain ⟨hx, hb, hrt, hml, hown, hts, hlk, hnm, hK, hN⟩ := id C
  obtain ⟨hP, hD, hS, hA⟩ := S
  refine va_newa (atype := .byte) (a0 := (N, .inl (fun _ => 0))) hx hb (hts _ (List.mem_cons_of_mem _ hg)) rfl hK hP hD hS hA (fun cA => rfl) hx0 hxN hb1 hk hn hd (fun q cA H1 hK1 hP hD hS => ?_)
  have e1 : cA = ac 101 := by
    have h1 := (hK1.2 5 (cA, .byte) rfl).2
    have h2 := (hK.2 1 (ac 101, .byte) rfl).2
    exact Option.some.inj (h1.symm.trans h2)
  subst e1
  exact ab_newa_fin (rf := []) hclo hs1 (fun ad' => by rw [ab_cb, show M.1 sh.length = fun _ => 0 from funext fun j => (hz _ (Nat.le_refl _) j).1]) hn0 hn1 hlv hst kk C hP hD hS hA L
theorem ev_newal {N : Nat} {x : Int32} (hg : Cond.arrayClass .long ∈ ab_G) (hx0 : ¬ x < 0) (hxN : x.toNatClampNeg = N) (hb1 : N * componentBytes .long ≤ 536870912) (hclo : ab_clo sh.length sh = true) (hz : ab_z M sh.length) (hs1 : sh ++ [(102, N, [])] = sh1) (hn0 : n0 ≤ sh.length) (hn1 : n0 < r.2.1.length) (hlv : ab_okl sh.length lv = true) (hst : st.all (ab_okv sh.length) = true) (hk : k + 1 ≤ mc) (hn : n + N ≤ ms) (hd : decode me.2.2.1 pc = .ok (.newarray .long, 2)) (kk : ab_Ev l D ac d me n0 mc ms r (k + 1) (n + N) sh1 (pc + 2) lv (.ref sh.length :: st) M) : ab_Ev l D ac d me n0 mc ms r k n sh pc lv (.int x :: st) M := by
  intro p e s m args below meth c H locs A ad ls C S L
  obtain ⟨hx, hb, hrt, hml, hown, hts, hlk, hnm, hK, hN⟩ := id C
  obtain ⟨hP, hD, hS, hA⟩ := S
  refine va_newa (atype := .long) (a0 := (N, .inr (.inl (fun _ => 0)))) hx hb (hts _ (List.mem_cons_of_mem _ hg)) rfl hK hP hD hS hA (fun cA => rfl) hx0 hxN hb1 hk hn hd (fun q cA H1 hK1 hP hD hS => ?_)
  have e1 : cA = ac 102 := by
    have h1 := (hK1.2 5 (cA, .long) rfl).2
    have h2 := (hK.2 2 (ac 102, .long) rfl).2
    exact Option.some.inj (h1.symm.trans h2)
  subst e1
  exact ab_newa_fin (rf := []) hclo hs1 (fun ad' => by rw [ab_cl, show M.2 sh.length = fun _ => 0 from funext fun j => (hz _ (Nat.le_refl _) j).2]) hn0 hn1 hlv hst kk C hP hD hS hA L
theorem ab_rep_getD (N : Nat) (ad : Nat → Nat) : (fun j => ((List.replicate N (none : Option Nat)).getD j none).map ad) = fun _ => none := by
  funext j
  rw [List.getD_eq_getElem?_getD, List.getElem?_replicate]
  split <;> rfl
theorem ev_newaq {N ct idx : Nat} {Cn : String} {x : Int32} (hct : (ct = 103 ∧ Cn = "WavePlan$Mast") ∨ (ct = 104 ∧ Cn = "WavePlan$Shelf")) (hcl : Cond.classLink me.2.1 idx Cn ∈ ab_G) (hx0 : ¬ x < 0) (hxN : x.toNatClampNeg = N) (hb1 : N * 4 ≤ 536870912) (hclo : ab_clo sh.length sh = true) (hs1 : sh ++ [(ct, N, List.replicate N none)] = sh1) (hn0 : n0 ≤ sh.length) (hn1 : n0 < r.2.1.length) (hlv : ab_okl sh.length lv = true) (hst : st.all (ab_okv sh.length) = true) (hk : k + 1 ≤ mc) (hn : n + N ≤ ms) (hd : decode me.2.2.1 pc = .ok (.anewarray idx, 3)) (kk : ab_Ev l D ac d me n0 mc ms r (k + 1) (n + N) sh1 (pc + 3) lv (.ref sh.length :: st) M) : ab_Ev l D ac d me n0 mc ms r k n sh pc lv (.int x :: st) M := by
  intro p e s m args below meth c H locs A ad ls C S L
  obtain ⟨hx, hb, hrt, hml, hown, hts, hlk, hnm, hK, hN⟩ := id C
  obtain ⟨hP, hD, hS, hA⟩ := S
  have hao : va_AO Cn s := by
    rcases hct with ⟨-, rfl⟩ | ⟨-, rfl⟩
    · exact hN.2.1
    · exact hN.2.2
  refine va_newq (C := Cn) hx hb hown (hts _ (List.mem_cons_of_mem _ hcl)) hao hK hP hD hS hA hx0 hxN hb1 hk hn hd (fun q cA H1 hK1 hP hD hS => ?_)
  have e1 : cA = ac ct := by
    obtain ⟨kA, comp, -, -, -, h1⟩ := (hK1.2 5 (cA, .object Cn) rfl).2
    rcases hct with ⟨rfl, rfl⟩ | ⟨rfl, rfl⟩
    · obtain ⟨kA', comp', -, -, -, h2⟩ := (hK.2 3 (ac 103, .object "WavePlan$Mast") rfl).2
      exact Option.some.inj (h1.symm.trans h2)
    · obtain ⟨kA', comp', -, -, -, h2⟩ := (hK.2 4 (ac 104, .object "WavePlan$Shelf") rfl).2
      exact Option.some.inj (h1.symm.trans h2)
  subst e1
  have h102 : 102 < ct := by rcases hct with ⟨rfl, -⟩ | ⟨rfl, -⟩ <;> decide
  exact ab_newa_fin hclo hs1 (fun ad' => by rw [ab_cr h102, ab_rep_getD]) hn0 hn1 hlv hst kk C hP hD hS hA L
/-! references put -/
theorem ab_W_shset {ad : Nat → Nat} {o : Nat} {x x' : ab_S} {c' : va_E} (h : sh[o]? = some x) (hc : ab_cell ac ad M o x' = c') : (ab_W ac ad sh M).set o (ad o, c') = ab_W ac ad (sh.set o x') M := by
  have hl := (List.getElem?_eq_some_iff.mp h).1
  subst hc
  refine List.ext_getElem? (fun j => ?_)
  by_cases hj : j = o
  · subst hj
    rw [List.getElem?_set_self (by simp [ab_W, hl]), ab_W_get (List.getElem?_set_self hl)]
  · rw [List.getElem?_set_ne (Ne.symm hj)]
    by_cases hjl : j < sh.length
    · rw [ab_W_get (List.getElem?_eq_getElem hjl), ab_W_get (x := sh[j]) (by rw [List.getElem?_set_ne (Ne.symm hj)]; exact List.getElem?_eq_getElem hjl)]
    · rw [List.getElem?_eq_none (by simp [ab_W]; omega), List.getElem?_eq_none (by simp [ab_W]; omega)]
/-- a final field's link, in its own class -/
def ab_FP (own : String) (idx ci kf : Nat) (ty : FieldType) : Prop := ∃ (C : String) (T : u_T) (N : Nat) (ty0 : Nat → FieldType), vwCl[ci]? = some (C, T, N) ∧ kf < N ∧ (∀ w ∈ u_ws C T N, w ∈ ab_G) ∧ (∀ j, j < N → parseFieldDescriptor (T j).2.2.1 = some (ty0 j)) ∧ (∀ a, a < N → ∀ b, b < N → a ≠ b → (T a).2.1 ≠ (T b).2.1) ∧ ty0 kf = ty ∧ (T kf).2.2.2 = true ∧ Cond.fieldLink own idx (T kf).1 (T kf).2.1 (T kf).2.2.1 ∈ ab_G ∧ (T kf).1 = own
theorem ev_putr {idx o o' ci nf kf : Nat} {rf : List (Option Nat)} {ty : FieldType} (hF : ab_FP me.2.1 idx ci kf ty) (hs : sh[o]? = some (ci, nf, rf)) (hci : ci < 100) (hk : kf < nf) (hkr : kf < rf.length) (hr : ab_isR ci kf = true) (hini : me.1.name = "<init>") (hn : ∀ a, narrow ty (.ref a) = .ref a) (hf : ∀ a, fits ty (.ref a) = true) (hs1 : sh.set o (ci, nf, rf.set kf (some o')) = sh1) (hd : decode me.2.2.1 pc = .ok (.putfield idx, 3)) (kk : ab_Ev l D ac d me n0 mc ms r k n sh1 (pc + 3) lv st M) : ab_Ev l D ac d me n0 mc ms r k n sh pc lv (.ref o' :: .ref o :: st) M := by
  intro p e s m args below meth c H locs A ad ls C S L
  obtain ⟨hx, hb, hrt, hml, hown, hts, hlk, hnm0, hK, hN⟩ := id C
  obtain ⟨hP, hD, hS, hA⟩ := S
  obtain ⟨Cn, T, N, ty0, hc, hkN, hin, hty, hnm, ht, hfin, hlink, hdecl⟩ := hF
  subst ht
  have he : (ab_W ac ad sh M)[o]? = some (ad o, .inr (ci, (List.range nf).map (ab_fv ad M o (ci, nf, rf)))) := by rw [ab_W_get hs, ab_cell_obj hci]
  have hin' : ∀ w ∈ u_ws Cn T N, w ∈ ab_ws me := fun w h => List.mem_cons_of_mem _ (hin w h)
  have hset : (ab_W ac ad sh M).set o (ad o, .inr (ci, ((List.range nf).map (ab_fv ad M o (ci, nf, rf))).set kf (.ref (ad o')))) = ab_W ac ad sh1 M := by
    rw [← hs1]
    refine ab_W_shset hs ?_
    rw [ab_cell_obj hci]
    congr 2
    refine List.ext_getElem? (fun j => ?_)
    by_cases hj : j = kf
    · subst hj
      rw [List.getElem?_set_self (by simpa using hk)]
      simp only [List.getElem?_map, List.getElem?_range hk, Option.map_some]
      show some (ab_fv ad M o (ci, nf, rf.set j (some o')) j) = _
      unfold ab_fv
      rw [if_pos hr]
      show some (va_rf (((rf.set j (some o')).getD j none).map ad)) = _
      rw [List.getD_eq_getElem?_getD, List.getElem?_set_self hkr]
      rfl
    · rw [List.getElem?_set_ne (Ne.symm hj)]
      by_cases hl : j < nf
      · simp only [List.getElem?_map, List.getElem?_range hl, Option.map_some]
        show some (ab_fv ad M o (ci, nf, rf.set kf (some o')) j) = some (ab_fv ad M o (ci, nf, rf) j)
        unfold ab_fv
        show some (if ab_isR ci j = true then va_rf (((rf.set kf (some o')).getD j none).map ad) else _) = _
        rw [List.getD_eq_getElem?_getD, List.getElem?_set_ne (Ne.symm hj), ← List.getD_eq_getElem?_getD]
      · rw [List.getElem?_eq_none (by simpa using Nat.not_lt.mp hl), List.getElem?_eq_none (by simpa using Nat.not_lt.mp hl)]
  have hl : kf < ((List.range nf).map (ab_fv ad M o (ci, nf, rf))).length := by simpa using hk
  refine va_putF (v := .ref (ad o')) hx hb hts hin' ty0 hty hnm hown hK hP hD hS o he hc kf hkN (hts _ (List.mem_cons_of_mem _ hlink)) (fun _ h => h) hfin (hnm0.trans hini) hdecl (hty kf hkN) (hn _) (hf _) hl hd (fun H1 locs1 hP hD hS => ?_)
  rw [hset] at hP hD
  exact kk p e s m args below meth c H1 locs1 A ad ls C ⟨hP, hD, hS, hA⟩ L
theorem ev_aastore {o o' ct nn ci nf : Nat} {rf rfo : List (Option Nat)} {i : Int32} {Cn : String} {T : u_T} (hs : sh[o]? = some (ct, nn, rf)) (hso : sh[o']? = some (ci, nf, rfo)) (hci : ci < 100) (hct : (ct = 103 ∧ Cn = "WavePlan$Mast") ∨ (ct = 104 ∧ Cn = "WavePlan$Shelf")) (hc : vwCl[ci]? = some (Cn, T, nf)) (hin : vp_in i nn) (hir : i.toNatClampNeg < rf.length) (hs1 : sh.set o (ct, nn, rf.set i.toNatClampNeg (some o')) = sh1) (hd : decode me.2.2.1 pc = .ok (.aastore, 1)) (kk : ab_Ev l D ac d me n0 mc ms r k n sh1 (pc + 1) lv st M) : ab_Ev l D ac d me n0 mc ms r k n sh pc lv (.ref o' :: .int i :: .ref o :: st) M := by
  intro p e s m args below meth c H locs A ad ls C S L
  obtain ⟨hx, hb, hrt, hml, hown, hts, hlk, hnm0, hK, hN⟩ := id C
  obtain ⟨hP, hD, hS, hA⟩ := S
  have h102 : 102 < ct := by rcases hct with ⟨rfl, -⟩ | ⟨rfl, -⟩ <;> decide
  have hset : (ab_W ac ad sh M).set o (ad o, .inl (ac ct, nn, .inr (.inr (.inr (.inr (va_up (fun j => (rf.getD j none).map ad) i.toNatClampNeg (some (ad o')))))))) = ab_W ac ad sh1 M := by
    rw [← hs1]
    refine ab_W_shset hs ?_
    rw [ab_cr h102]
    refine congrArg (fun f => (Sum.inl (ac ct, nn, Sum.inr (Sum.inr (Sum.inr (Sum.inr f)))) : va_E)) (funext fun j => ?_)
    unfold va_up
    by_cases hj : j = i.toNatClampNeg
    · subst hj
      rw [if_pos rfl, List.getD_eq_getElem?_getD, List.getElem?_set_self hir]
      rfl
    · rw [if_neg hj, List.getD_eq_getElem?_getD, List.getElem?_set_ne (Ne.symm hj), ← List.getD_eq_getElem?_getD]
  have hv : (ab_W ac ad sh M)[o']? = some (ad o', .inr (ci, (List.range nf).map (ab_fv ad M o' (ci, nf, rfo)))) := by rw [ab_W_get hso, ab_cell_obj hci]
  rcases hct with ⟨rfl, rfl⟩ | ⟨rfl, rfl⟩
  · refine va_astq (r := (_, T, nf)) hx hb hK hP hD hS o 3 o' ci ((ab_W_get hs).trans (by rw [ab_cr h102])) rfl hv hc hin hd (fun H1 locs1 hP hD hS => ?_)
    rw [hset] at hP hD
    exact kk p e s m args below meth c H1 locs1 A ad ls C ⟨hP, hD, hS, hA⟩ L
  · refine va_astq (r := (_, T, nf)) hx hb hK hP hD hS o 4 o' ci ((ab_W_get hs).trans (by rw [ab_cr h102])) rfl hv hc hin hd (fun H1 locs1 hP hD hS => ?_)
    rw [hset] at hP hD
    exact kk p e s m args below meth c H1 locs1 A ad ls C ⟨hP, hD, hS, hA⟩ L
/-! constructors called -/
theorem ev_objInit {idx o : Nat} (hl : Cond.methodLink me.2.1 idx objectInit ∈ ab_G) (hi : Cond.instanceMethod objectInit ∈ ab_G) (hcd : Cond.code objectInit ⟨#[0xb1]⟩ 1 none ∈ ab_G) (hd : decode me.2.2.1 pc = .ok (.invokespecial idx, 3)) (hdd : 0 < d) (hst : (st.map fun v => v.category).sum ≤ 8) (kk : ab_Ev l D ac d me n0 mc ms r k n sh (pc + 3) lv st M) : ab_Ev l D ac d me n0 mc ms r k n sh pc lv (.ref o :: st) M := by
  intro p e s m args below meth c H locs A ad ls C S L
  obtain ⟨hx, hb, hrt, hml, hown, hts, -⟩ := id C
  have hw : ∀ w, w ∈ ab_G → w.before args s = true := fun w h => hts w (List.mem_cons_of_mem _ h)
  have hrm := lv_room (m := m) (pc := pc) (ls := ls) (rest := (.ref o :: st).map (ab_v ad)) (st := st.map (ab_v ad)) (by rw [ab_vcs]; exact hst)
  refine W.objInit (a := ad o) (rest := st.map (ab_v ad)) hx hb hown (hw _ hl) (hw _ hi) (hw _ hcd) rfl (by rw [hml]; exact L.1) rfl hd (by show 1 ≤ d; omega) (by show _ ≤ 48 * d; omega) ?_
  exact kk p e s m args below meth c H locs A ad ls C S L
def ab_MI (me : ab_Me) (np : Nat) : Prop := Cond.code me.1 me.2.2.1 me.2.2.2.1 none ∈ ab_G ∧ me.2.2.2.2 = none ∧ Cond.instanceMethod me.1 ∈ ab_G ∧ Cond.initialized me.1.cls ∈ ab_G ∧ (me.1.cls ≠ "java/lang/invoke/MethodHandle" ∧ me.1.cls ≠ "java/lang/invoke/VarHandle" ∧ (parseMethodDescriptor me.1.desc).map (fun d => d.parameters.length) = some np) ∧ me.2.2.2.1 ≤ 29 ∧ me.1.name = "<init>"
theorem ev_callI {me' : ab_Me} {d' idx o mc' ms' : Nat} {as sk : List Value} {M' : ab_M} (hc : ab_Con l D ac d' me' mc' ms' (.ref o :: as) sh M (none, sh1, M')) (hm : ab_MI me' as.length) (hl : Cond.methodLink me.2.1 idx me'.1 ∈ ab_G ∨ ∃ host, Cond.methodLinkNest me.2.1 idx me'.1 host ∈ ab_nest) (hd : decode me.2.2.1 pc = .ok (.invokespecial idx, 3)) (hdd : d' < d) (hk1 : sk = as.reverse ++ .ref o :: st) (hst : (st.map fun v => v.category).sum ≤ 8) (hkn : k + mc' ≤ mc ∧ n + ms' ≤ ms) (hn0 : n0 ≤ sh.length) (hn1 : n0 < r.2.1.length) (hlv : ab_okl sh.length lv = true) (hsk : st.all (ab_okv sh.length) = true)
    (kk : ab_Ev l D ac d me n0 mc ms r (k + mc') (n + ms') sh1 (pc + 3) lv st M') : ab_Ev l D ac d me n0 mc ms r k n sh pc lv sk M := by
  intro p e s m args below meth c H locs A ad ls C S L
  obtain ⟨hx, hb, hrt, hml, hown, hts, hlk, hnm, hK, hN⟩ := id C
  obtain ⟨hP, hD, hS, hA⟩ := S
  obtain ⟨h1, h2, h3, h4, h5, h6, h7⟩ := hm
  have hF := ab_freeW hD hS hA
  have hw : ∀ w, w ∈ ab_G → w.before args s = true := fun w h => hts w (List.mem_cons_of_mem _ h)
  have hG : GoodIn (ab_ws me) (ab_ws me') := ab_goodIn (by rw [h2]; exact h1)
  have hws : ab_ws me' = Cond.code me'.1 me'.2.2.1 me'.2.2.2.1 none :: ab_G := by unfold ab_ws; rw [h2]
  have hpre : PreS s H (va_Pc ((.ref o :: as).map (ab_v ad)) (fun U => U.heap.size = H.size ∧ va_P D vwCl (ab_W ac ad sh M) U.heap ∧ va_K D vwCl (ab_tys ac) U ∧ va_D (fun _ => True) (ab_W ac ad sh M) ∧ ab_N U)) (.ref (ad o) :: as.map (ab_v ad)) := ⟨ab_blind, fun U hU hW => ⟨rfl, by rw [hU], by rw [hU]; exact hP, va_K.moved hW.alike hK, hD.weaken (fun _ _ _ _ => trivial), ab_N.warm hW hN⟩⟩
  have hroom : (ab_rm d' mc' ms').frames + 1 ≤ (ab_rm d mc ms).frames ∧ 8 + (me'.2.2.2.1 + 11) + (ab_rm d' mc' ms').locals ≤ (ab_rm d mc ms).locals := ⟨by show d' + 1 ≤ d; omega, by show 8 + (me'.2.2.2.1 + 11) + 48 * d' ≤ 48 * d; omega⟩
  have fin : ∀ (ad' : Nat → Nat) (t : State) (H1 : Heap) (locs1 : List Loc), t.heap = H1 → s.vm.Alike t.vm → (∀ i, i < sh.length → ad' i = ad i) → (sh1.length ≤ sh.length → ad' = ad) → va_P D vwCl (ab_W ac ad' sh1 M') H1 → va_D (va_A (ab_W ac ad sh M) H.size) (ab_W ac ad' sh1 M') → H.size ≤ H1.size → (∀ q : Nat, q < H.size → ¬ va_A (ab_W ac ad sh M) H.size q → H1[q]? = H[q]?) → va_S A s.heap H1 locs1 → W p l e (ab_rm d mc ms) s m args below meth c H1 locs1 (k + mc') (n + ms') (MQ below (ab_Qc D ac A ad n0 r) args s mc ms A) (F0 m (pc + 3) ls (((none : Option Value).map (ab_v ad')).toList ++ st.map (ab_v ad))) := by
    intro ad' t H1 locs1 ht hvm ha1 ha2 hP1 hD1 hz hk hS1
    have := ab_cont kk hn0 hn1 hlv ha1 C ⟨hP1, hD1.weaken (fun _ _ _ h => hF _ h), hS1, hA⟩ L (below := below) (e := e)
    rw [ab_oks_eq hsk ha1] at this
    exact this
  rcases hl with hl | ⟨host, hl⟩
  · exact ab_callW (va_runI (As := as.map (ab_v ad)) (rest := st.map (ab_v ad)) (b := ad o) ⟨hx, hb, hml, hown, hts⟩ (hc ad H.size) (cwI as.length hts hG hws rfl rfl (hw _ h4) (hw _ hl) (hw _ h3) h7 h5 hroom) hpre rfl (by simp) L.1 (by subst hk1; simp [ab_v]) (lv_room (by rw [ab_vcs]; exact hst)) hd hkn) hS (fun q _ h => hF q h) hF fin
  · exact ab_callW (va_runIN (As := as.map (ab_v ad)) (rest := st.map (ab_v ad)) (b := ad o) ⟨hx, hb, hml, hown, hts⟩ (hc ad H.size) ⟨va_cnB as.length hts hG hws rfl rfl (hN.1 _ hl) (hw _ h4) h5 hroom, h7, hw _ h3⟩ hpre rfl (by simp) L.1 (by subst hk1; simp [ab_v]) (lv_room (by rw [ab_vcs]; exact hst)) hd hkn) hS (fun q _ h => hF q h) hF fin
end ABmake
