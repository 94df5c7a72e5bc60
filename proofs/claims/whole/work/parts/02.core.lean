/-! THE PICTURE: cells have numbers (places in a list of shapes); what they hold is a function of number and slot. -/
section ABdefs
/-- what the cells hold: ints (bytes, booleans) and longs, by the cell's number and the slot -/
abbrev ab_M : Type := (Nat → Nat → Int32) × (Nat → Nat → Int64)
/-- a cell's shape: its class (below 100; 100 int[], 101 byte[], 102 long[], 103 and on arrays of references), its size, its references -/
abbrev ab_S : Type := Nat × Nat × List (Option Nat)
abbrev ab_H : Type := List ab_S
/-- a method: name, the class that it stands in, code, locals, answer -/
abbrev ab_Me : Type := MethodName × String × ByteArray × Nat × Option FieldType
def ab_v (ad : Nat → Nat) (v : Value) : Value := match v with
  | .ref i => .ref (ad i)
  | v => v
/-- which fields are references -/
def ab_RT : List (List Bool) := [[true, true, true, false, false], [false, false, false, false], [true, true], [true, true, true, true, true, true, true, false, false, false, false], [false, false, false, false, false, false, false, false, false], [true, true], [true, true, true, false, false], [true, true, true, false], [true, true, true, true, true, false], [true, true, true, true, true, true, true, true, false], [false, false, true, true, true, true, true, true, true, true, false, true, true, true, false, true, true, true, false, false, false, false, false, false, true, false, false, true, true, true, true, false, true, true, true, true, true, true, true]]
def ab_isR (ci k : Nat) : Bool := (ab_RT.getD ci []).getD k false
def ab_fv (ad : Nat → Nat) (M : ab_M) (id : Nat) (x : ab_S) (k : Nat) : Value := if ab_isR x.1 k = true then va_rf ((x.2.2.getD k none).map ad) else .int (M.1 id k)
def ab_cell (ac : Nat → ClassId) (ad : Nat → Nat) (M : ab_M) (id : Nat) (x : ab_S) : va_E :=
  if x.1 < 100 then .inr (x.1, (List.range x.2.1).map (ab_fv ad M id x))
  else if x.1 < 102 then .inl (ac x.1, x.2.1, .inl (M.1 id))
  else if x.1 = 102 then .inl (ac x.1, x.2.1, .inr (.inl (M.2 id)))
  else .inl (ac x.1, x.2.1, .inr (.inr (.inr (.inr (fun j => (x.2.2.getD j none).map ad)))))
def ab_W (ac : Nat → ClassId) (ad : Nat → Nat) (sh : ab_H) (M : ab_M) : va_W := (List.range sh.length).map (fun id => (ad id, ab_cell ac ad M id (sh.getD id (0, 0, []))))
def ab_tys (ac : Nat → ClassId) : List (ClassId × FieldType) := [(ac 100, .int), (ac 101, .byte), (ac 102, .long), (ac 103, .object "WavePlan$Mast"), (ac 104, .object "WavePlan$Shelf")]
/-- the words of the tables that stay, for every method -/
def ab_G : List Cond := lw_tbl.filter goodWord
def ab_ws (me : ab_Me) : List Cond := .code me.1 me.2.2.1 me.2.2.2.1 me.2.2.2.2 :: ab_G
def ab_isN (w : Cond) : Bool := match w with
  | .fieldLinkNest .. => true
  | .methodLinkNest .. => true
  | _ => false
def ab_nest : List Cond := lw_tbl.filter ab_isN
def ab_N (U : State) : Prop := (∀ w ∈ ab_nest, va_Nw w U) ∧ va_AO "WavePlan$Mast" U ∧ va_AO "WavePlan$Shelf" U
theorem ab_N.warm {s U : State} (hW : s.WarmedH U.vm) (h : ab_N s) : ab_N U := by
  refine ⟨?_, va_AO.moved hW.alike h.2.1, va_AO.moved hW.alike h.2.2⟩
  intro w hw
  have h1 := h.1 w hw
  have h2 := (List.mem_filter.mp hw).2
  match w, h1, h2 with
  | .fieldLinkNest .., h1, _ => exact va_Nw.warmF hW h1
  | .methodLinkNest .., h1, _ => exact va_Nw.warmM hW h1
theorem ab_N.same {s U : State} (hv : s.vm = U.vm) (h : ab_N s) : ab_N U := by
  have ha : s.vm.Alike U.vm := by rw [← hv]; exact Vm.Alike.refl s.vm
  refine ⟨?_, va_AO.moved ha h.2.1, va_AO.moved ha h.2.2⟩
  intro w hw
  have h1 := h.1 w hw
  have h2 := (List.mem_filter.mp hw).2
  match w, h1, h2 with
  | .fieldLinkNest .., h1, _ => exact va_Nw.same rfl hv h1
  | .methodLinkNest .., h1, _ => exact va_Nw.same rfl hv h1
theorem ab_G_in {w : Cond} {i : Nat} (h : lw_tbl[i]? = some w) (hg : goodWord w = true) : w ∈ ab_G := List.mem_filter.mpr ⟨List.mem_of_getElem? h, hg⟩
theorem ab_n_in {w : Cond} {i : Nat} (h : lw_tbl[i]? = some w) (hg : ab_isN w = true) : w ∈ ab_nest := List.mem_filter.mpr ⟨List.mem_of_getElem? h, hg⟩
theorem ab_goodIn {me me' : ab_Me} (h : Cond.code me'.1 me'.2.2.1 me'.2.2.2.1 me'.2.2.2.2 ∈ ab_G) : GoodIn (ab_ws me) (ab_ws me') := by
  intro w hw
  rcases List.mem_cons.mp hw with rfl | hw
  · exact ⟨List.mem_cons_of_mem _ h, good_of_word (List.mem_filter.mp h).2⟩
  · exact ⟨List.mem_cons_of_mem _ hw, good_of_word (List.mem_filter.mp hw).2⟩
theorem ab_good1 {me : ab_Me} {w : Cond} (h : w ∈ ab_G) : w ∈ ab_ws me ∧ ((w.onTables && w.keeps) = true ∨ ∃ ty, w = .arrayClass ty) := ⟨List.mem_cons_of_mem _ h, good_of_word (List.mem_filter.mp h).2⟩
/-! what is written -/
def ab_pi (M : ab_M) (o k : Nat) (v : Int32) : ab_M := (fun a b => if a = o ∧ b = k then v else M.1 a b, M.2)
def ab_pl (M : ab_M) (o k : Nat) (v : Int64) : ab_M := (M.1, fun a b => if a = o ∧ b = k then v else M.2 a b)
theorem ab_W_get {ac : Nat → ClassId} {ad : Nat → Nat} {sh : ab_H} {M : ab_M} {id : Nat} {x : ab_S} (h : sh[id]? = some x) : (ab_W ac ad sh M)[id]? = some (ad id, ab_cell ac ad M id x) := by
  obtain ⟨hl, he⟩ := List.getElem?_eq_some_iff.mp h
  simp [ab_W, hl, he]
theorem ab_W_set {ac : Nat → ClassId} {ad : Nat → Nat} {sh : ab_H} {M M' : ab_M} {id : Nat} {x : ab_S} {c' : va_E} (h : sh[id]? = some x) (hc : ab_cell ac ad M' id x = c') (ho : ∀ (j : Nat) (y : ab_S), j ≠ id → ab_cell ac ad M' j y = ab_cell ac ad M j y) : (ab_W ac ad sh M).set id (ad id, c') = ab_W ac ad sh M' := by
  have hl := (List.getElem?_eq_some_iff.mp h).1
  subst hc
  refine List.ext_getElem? (fun k => ?_)
  by_cases hk : k = id
  · subst hk
    rw [List.getElem?_set_self (by simp [ab_W, hl]), ab_W_get h]
  · rw [List.getElem?_set_ne (Ne.symm hk)]
    by_cases hkl : k < sh.length
    · simp [ab_W, hkl, ho k _ hk]
    · simp [ab_W, hkl]
theorem ab_cell_i {ac : Nat → ClassId} {ad : Nat → Nat} {M : ab_M} {o k j : Nat} {v : Int32} {y : ab_S} (h : j ≠ o) : ab_cell ac ad (ab_pi M o k v) j y = ab_cell ac ad M j y := by
  have h1 : (ab_pi M o k v).1 j = M.1 j := by funext b; simp [ab_pi, h]
  have h2 : (ab_pi M o k v).2 = M.2 := rfl
  unfold ab_cell
  rw [h1, h2]
  have h3 : ab_fv ad (ab_pi M o k v) j y = ab_fv ad M j y := by funext b; simp [ab_fv, h1]
  rw [h3]
theorem ab_cell_l {ac : Nat → ClassId} {ad : Nat → Nat} {M : ab_M} {o k j : Nat} {v : Int64} {y : ab_S} (h : j ≠ o) : ab_cell ac ad (ab_pl M o k v) j y = ab_cell ac ad M j y := by
  have h1 : (ab_pl M o k v).2 j = M.2 j := by funext b; simp [ab_pl, h]
  have h2 : (ab_pl M o k v).1 = M.1 := rfl
  unfold ab_cell
  rw [h1, h2]
  have h3 : ab_fv ad (ab_pl M o k v) j y = ab_fv ad M j y := by funext b; simp [ab_fv, h2]
  rw [h3]
theorem ab_cell_obj {ac : Nat → ClassId} {ad : Nat → Nat} {M : ab_M} {id : Nat} {x : ab_S} (h : x.1 < 100) : ab_cell ac ad M id x = .inr (x.1, (List.range x.2.1).map (ab_fv ad M id x)) := by simp [ab_cell, h]
theorem ab_obj_set {ad : Nat → Nat} {M : ab_M} {id : Nat} {x : ab_S} {k : Nat} {v : Int32} (hr : ab_isR x.1 k = false) : ((List.range x.2.1).map (ab_fv ad M id x)).set k (.int v) = (List.range x.2.1).map (ab_fv ad (ab_pi M id k v) id x) := by
  refine List.ext_getElem? (fun j => ?_)
  by_cases hj : j = k
  · subst hj
    by_cases hl : j < x.2.1
    · rw [List.getElem?_set_self (by simpa using hl)]
      simp [hl, ab_fv, hr, ab_pi]
    · rw [List.getElem?_eq_none (by simpa using Nat.not_lt.mp hl), List.getElem?_eq_none (by simpa using Nat.not_lt.mp hl)]
  · rw [List.getElem?_set_ne (Ne.symm hj)]
    by_cases hl : j < x.2.1
    · simp [hl, ab_fv, ab_pi, hj]
    · simp [hl]
end ABdefs
section ABev
/-- the room of a method at depth d -/
abbrev ab_rm (d mc ms : Nat) : Room := { frames := d, cells := mc, slots := ms, locals := 48 * d }
abbrev ab_Rs : Type := Option Value × ab_H × ab_M
def ab_Qc (D : va_G) (ac : Nat → ClassId) (A : Nat → Prop) (ad : Nat → Nat) (n0 : Nat) (r : ab_Rs) : Array Value → State → Outcome → State → Prop := fun _ st oc t =>
  (∃ ad' : Nat → Nat, oc = .returned (r.1.map (ab_v ad')) ∧ (∀ i, i < n0 → ad' i = ad i) ∧ (r.2.1.length ≤ n0 → ad' = ad) ∧ va_P D vwCl (ab_W ac ad' r.2.1 r.2.2) t.heap ∧ va_K D vwCl (ab_tys ac) t ∧ va_D A (ab_W ac ad' r.2.1 r.2.2)) ∧ va_F A st t
def ab_Cx (D : va_G) (ac : Nat → ClassId) (me : ab_Me) (p : Program) (s : State) (m : MethodId) (args : Array Value) (meth : Method) (c : Code) : Prop :=
  p.tables.exec = Jvm.exec ∧ c.code = me.2.2.1 ∧ meth.sig.returnType = me.2.2.2.2 ∧ c.maxLocals = me.2.2.2.1 ∧ s.vm.findClass me.2.1 = some m.cls ∧ (∀ w ∈ ab_ws me, w.before args s = true) ∧ meth.locks = false ∧ meth.name = me.1.name ∧ va_K D vwCl (ab_tys ac) s ∧ ab_N s
def ab_St (D : va_G) (ac : Nat → ClassId) (A : Nat → Prop) (s : State) (ad : Nat → Nat) (sh : ab_H) (M : ab_M) (H : Heap) (locs : List Loc) : Prop :=
  va_P D vwCl (ab_W ac ad sh M) H ∧ va_D A (ab_W ac ad sh M) ∧ va_S A s.heap H locs ∧ ∀ q, s.heap.size ≤ q → A q
def ab_L (ad : Nat → Nat) (ls : Array Slot) (nL : Nat) (lv : List (Option Value)) : Prop := ls.size = nL ∧ lv_wf ls ∧ lv.length = nL ∧ ∀ (i : Nat) (v : Value), lv[i]? = some (some v) → ls[i]? = some (.val (ab_v ad v))
/-- from here (place, locals, stack, cells) the method comes to its end with r -/
def ab_Ev (l : Launch) (D : va_G) (ac : Nat → ClassId) (d : Nat) (me : ab_Me) (n0 mc ms : Nat) (r : ab_Rs) (k n : Nat) (sh : ab_H) (pc : Nat) (lv : List (Option Value)) (st : List Value) (M : ab_M) : Prop :=
  ∀ (p : Program) (e : Env) (s : State) (m : MethodId) (args : Array Value) (below : List Frame) (meth : Method) (c : Code) (H : Heap) (locs : List Loc) (A : Nat → Prop) (ad : Nat → Nat) (ls : Array Slot),
    ab_Cx D ac me p s m args meth c → ab_St D ac A s ad sh M H locs → ab_L ad ls me.2.2.2.1 lv → W p l e (ab_rm d mc ms) s m args below meth c H locs k n (MQ below (ab_Qc D ac A ad n0 r) args s mc ms A) (F0 m pc ls (st.map (ab_v ad)))
/-- a method's contract -/
def ab_Con (l : Launch) (D : va_G) (ac : Nat → ClassId) (d : Nat) (me : ab_Me) (mc ms : Nat) (av : List Value) (sh : ab_H) (M : ab_M) (r : ab_Rs) : Prop :=
  ∀ (ad : Nat → Nat) (sz : Nat), Met l me.1 (ab_ws me) (ab_rm d mc ms) (va_Pc (av.map (ab_v ad)) (fun U => U.heap.size = sz ∧ va_P D vwCl (ab_W ac ad sh M) U.heap ∧ va_K D vwCl (ab_tys ac) U ∧ va_D (fun _ => True) (ab_W ac ad sh M) ∧ ab_N U)) (ab_Qc D ac (va_A (ab_W ac ad sh M) sz) ad sh.length r) mc ms (va_A (ab_W ac ad sh M) sz)
variable {l : Launch} {D : va_G} {ac : Nat → ClassId} {d : Nat} {me : ab_Me} {n0 mc ms : Nat} {r : ab_Rs} {k n : Nat} {sh : ab_H} {pc : Nat} {lv lv' : List (Option Value)} {st : List Value} {M : ab_M}
theorem ab_vc (ad : Nat → Nat) (v : Value) : (ab_v ad v).category = v.category := by cases v <;> rfl
theorem ab_vcs (ad : Nat → Nat) (st : List Value) : ((st.map (ab_v ad)).map fun v => v.category) = st.map fun v => v.category := by
  induction st with
  | nil => rfl
  | cons a t ih => simp only [List.map_cons, ab_vc]; rw [ih]
def ab_prs (ad : Nat → Nat) (lv : List (Option Value)) : List (Nat × Value) := (List.range lv.length).filterMap (fun i => (lv.getD i none).map (fun v => (i, ab_v ad v)))
theorem ab_prs_mem {ad : Nat → Nat} {lv : List (Option Value)} {i : Nat} {v : Value} (h : lv[i]? = some (some v)) : (i, ab_v ad v) ∈ ab_prs ad lv := by
  have hl := (List.getElem?_eq_some_iff.mp h).1
  exact List.mem_filterMap.mpr ⟨i, List.mem_range.mpr hl, by simp [h]⟩
theorem ab_L.has {ad : Nat → Nat} {ls : Array Slot} {nL : Nat} {lv : List (Option Value)} (h : ab_L ad ls nL lv) : lv_has ls nL (ab_prs ad lv) := by
  refine ⟨h.1, h.2.1, fun q hq => ?_⟩
  obtain ⟨i, hi, hv⟩ := List.mem_filterMap.mp hq
  have hl := List.mem_range.mp hi
  cases ho : lv.getD i none with
  | none => rw [ho] at hv; cases hv
  | some v =>
    rw [ho] at hv
    cases hv
    refine h.2.2.2 i v ?_
    rw [List.getD_eq_getElem?_getD] at ho
    rw [List.getElem?_eq_getElem hl] at ho ⊢
    simpa using ho
/-- no long right before place i -/
def ab_sf (lv : List (Option Value)) (i : Nat) : Bool := match i with
  | 0 => true
  | j + 1 => match lv[j]? with
    | some (some v) => v.category == 1
    | _ => true
theorem ab_L.store1 {ad : Nat → Nat} {ls ls' : Array Slot} {nL : Nat} {lv : List (Option Value)} {i : Nat} {v : Value} (h : ab_L ad ls nL lv) (hs : ab_sf lv i = true) (h' : lv_has ls' nL ((i, ab_v ad v) :: (ab_prs ad lv).filter (fun q => !(q.1 == i) && !(q.1 + 1 == i && q.2.category == 2)))) (hi : i < lv.length) : ab_L ad ls' nL (lv.set i (some v)) := by
  refine ⟨h'.1, h'.2.1, by rw [List.length_set]; exact h.2.2.1, fun j w hj => ?_⟩
  by_cases e : j = i
  · subst e
    rw [List.getElem?_set_self hi] at hj
    cases hj
    exact h'.2.2 _ List.mem_cons_self
  · rw [List.getElem?_set_ne (Ne.symm e)] at hj
    refine h'.2.2 (j, ab_v ad w) (List.mem_cons_of_mem _ (List.mem_filter.mpr ⟨ab_prs_mem hj, ?_⟩))
    have hc : j + 1 = i → w.category = 1 := by
      intro e2
      subst e2
      simp only [ab_sf, hj] at hs
      simpa using hs
    by_cases e2 : j + 1 = i
    · simp [e, ab_vc, hc e2]
    · simp [e, e2]
theorem ab_L.store2 {ad : Nat → Nat} {ls ls' : Array Slot} {nL : Nat} {lv : List (Option Value)} {i : Nat} {v : Value} (h : ab_L ad ls nL lv) (hs : ab_sf lv i = true) (h' : lv_has ls' nL ((i, ab_v ad v) :: (ab_prs ad lv).filter (fun q => !(q.1 == i) && (!(q.1 == i + 1) && !(q.1 + 1 == i && q.2.category == 2))))) (hi : i + 1 < lv.length) : ab_L ad ls' nL ((lv.set i (some v)).set (i + 1) none) := by
  refine ⟨h'.1, h'.2.1, by rw [List.length_set, List.length_set]; exact h.2.2.1, fun j w hj => ?_⟩
  by_cases e1 : j = i + 1
  · subst e1
    rw [List.getElem?_set_self (by rw [List.length_set]; exact hi)] at hj
    cases hj
  · rw [List.getElem?_set_ne (Ne.symm e1)] at hj
    by_cases e : j = i
    · subst e
      rw [List.getElem?_set_self (by omega)] at hj
      cases hj
      exact h'.2.2 _ List.mem_cons_self
    · rw [List.getElem?_set_ne (Ne.symm e)] at hj
      refine h'.2.2 (j, ab_v ad w) (List.mem_cons_of_mem _ (List.mem_filter.mpr ⟨ab_prs_mem hj, ?_⟩))
      have hc : j + 1 = i → w.category = 1 := by
        intro e2
        subst e2
        simp only [ab_sf, hj] at hs
        simpa using hs
      by_cases e2 : j + 1 = i
      · simp [e, e1, ab_vc, hc e2]
      · simp [e, e1, e2]
/-- fewer locals are known -/
def ab_sub (lv' lv : List (Option Value)) : Prop := lv'.length = lv.length ∧ ∀ i : Nat, lv'[i]? = some none ∨ lv'[i]? = lv[i]?
theorem ab_sub_nil : ab_sub [] [] := ⟨rfl, fun _ => Or.inr rfl⟩
theorem ab_sub_k {a : Option Value} {x y : List (Option Value)} (h : ab_sub x y) : ab_sub (a :: x) (a :: y) := ⟨by simp [h.1], fun i => by cases i with
  | zero => exact Or.inr rfl
  | succ i => simpa using h.2 i⟩
theorem ab_sub_d {a : Option Value} {x y : List (Option Value)} (h : ab_sub x y) : ab_sub (none :: x) (a :: y) := ⟨by simp [h.1], fun i => by cases i with
  | zero => exact Or.inl rfl
  | succ i => simpa using h.2 i⟩
theorem ev_drop (h : ab_sub lv' lv) (kk : ab_Ev l D ac d me n0 mc ms r k n sh pc lv' st M) : ab_Ev l D ac d me n0 mc ms r k n sh pc lv st M := by
  intro p e s m args below meth c H locs A ad ls C S L
  refine kk p e s m args below meth c H locs A ad ls C S ⟨L.1, L.2.1, h.1.trans L.2.2.1, fun i v hi => ?_⟩
  rcases h.2 i with h2 | h2
  · rw [h2] at hi; cases hi
  · exact L.2.2.2 i v (by rw [← h2]; exact hi)
/-! constants, locals, arithmetic -/
theorem ev_iconst {z : Int} {x : Int32} (hd : decode me.2.2.1 pc = .ok (.iconst z, 1)) (hv : Int32.ofInt z = x) (kk : ab_Ev l D ac d me n0 mc ms r k n sh (pc + 1) lv (.int x :: st) M) : ab_Ev l D ac d me n0 mc ms r k n sh pc lv st M := fun p e s m args below meth c H locs A ad ls C S L => lv_iconst C.1 C.2.1 hd hv (kk p e s m args below meth c H locs A ad ls C S L)
theorem ev_bipush {z : Int} {x : Int32} (hd : decode me.2.2.1 pc = .ok (.bipush z, 2)) (hv : (Int8.ofInt z).toInt32 = x) (kk : ab_Ev l D ac d me n0 mc ms r k n sh (pc + 2) lv (.int x :: st) M) : ab_Ev l D ac d me n0 mc ms r k n sh pc lv st M := fun p e s m args below meth c H locs A ad ls C S L => lv_bipush C.1 C.2.1 hd hv (kk p e s m args below meth c H locs A ad ls C S L)
theorem ev_sipush {z : Int} {x : Int32} (hd : decode me.2.2.1 pc = .ok (.sipush z, 3)) (hv : (Int16.ofInt z).toInt32 = x) (kk : ab_Ev l D ac d me n0 mc ms r k n sh (pc + 3) lv (.int x :: st) M) : ab_Ev l D ac d me n0 mc ms r k n sh pc lv st M := fun p e s m args below meth c H locs A ad ls C S L => lv_sipush C.1 C.2.1 hd hv (kk p e s m args below meth c H locs A ad ls C S L)
theorem ev_lconst {z : Fin 2} {x : Int64} (hd : decode me.2.2.1 pc = .ok (.lconst z, 1)) (hv : Int64.ofNat (z : Nat) = x) (kk : ab_Ev l D ac d me n0 mc ms r k n sh (pc + 1) lv (.long x :: st) M) : ab_Ev l D ac d me n0 mc ms r k n sh pc lv st M := fun p e s m args below meth c H locs A ad ls C S L => lv_lconst C.1 C.2.1 hd hv (kk p e s m args below meth c H locs A ad ls C S L)
theorem ev_ldc {z : Nat} {x : Int32} (hw : Cond.constant me.2.1 z x ∈ ab_G) (hd : decode me.2.2.1 pc = .ok (.ldc z, 2)) (kk : ab_Ev l D ac d me n0 mc ms r k n sh (pc + 2) lv (.int x :: st) M) : ab_Ev l D ac d me n0 mc ms r k n sh pc lv st M := fun p e s m args below meth c H locs A ad ls C S L => lv_ldc C.1 C.2.1 C.2.2.2.2.1 (C.2.2.2.2.2.1 _ (List.mem_cons_of_mem _ hw)) hd (kk p e s m args below meth c H locs A ad ls C S L)
theorem ev_ldcw {z : Nat} {x : Int32} (hw : Cond.constant me.2.1 z x ∈ ab_G) (hd : decode me.2.2.1 pc = .ok (.ldc_w z, 3)) (kk : ab_Ev l D ac d me n0 mc ms r k n sh (pc + 3) lv (.int x :: st) M) : ab_Ev l D ac d me n0 mc ms r k n sh pc lv st M := fun p e s m args below meth c H locs A ad ls C S L => lv_ldcw C.1 C.2.1 C.2.2.2.2.1 (C.2.2.2.2.2.1 _ (List.mem_cons_of_mem _ hw)) hd (kk p e s m args below meth c H locs A ad ls C S L)
theorem ev_ldc2 {z : Nat} {x : Int64} (hw : Cond.constantLong me.2.1 z x ∈ ab_G) (hd : decode me.2.2.1 pc = .ok (.ldc2_w z, 3)) (kk : ab_Ev l D ac d me n0 mc ms r k n sh (pc + 3) lv (.long x :: st) M) : ab_Ev l D ac d me n0 mc ms r k n sh pc lv st M := fun p e s m args below meth c H locs A ad ls C S L => lv_ldc2 C.1 C.2.1 C.2.2.2.2.1 (C.2.2.2.2.2.1 _ (List.mem_cons_of_mem _ hw)) hd (kk p e s m args below meth c H locs A ad ls C S L)
theorem ev_iload_n {q : Fin 4} {x : Int32} (hd : decode me.2.2.1 pc = .ok (.iload_n q, 1)) (hl : lv[(q : Nat)]? = some (some (.int x))) (kk : ab_Ev l D ac d me n0 mc ms r k n sh (pc + 1) lv (.int x :: st) M) : ab_Ev l D ac d me n0 mc ms r k n sh pc lv st M := fun p e s m args below meth c H locs A ad ls C S L => lv_iload_n C.1 C.2.1 hd rfl (L.2.2.2 _ _ hl) (kk p e s m args below meth c H locs A ad ls C S L)
theorem ev_iload {i : Nat} {x : Int32} (hd : decode me.2.2.1 pc = .ok (.iload i, 2)) (hl : lv[i]? = some (some (.int x))) (kk : ab_Ev l D ac d me n0 mc ms r k n sh (pc + 2) lv (.int x :: st) M) : ab_Ev l D ac d me n0 mc ms r k n sh pc lv st M := fun p e s m args below meth c H locs A ad ls C S L => lv_iload C.1 C.2.1 hd (L.2.2.2 _ _ hl) (kk p e s m args below meth c H locs A ad ls C S L)
theorem ev_lload_n {q : Fin 4} {x : Int64} (hd : decode me.2.2.1 pc = .ok (.lload_n q, 1)) (hl : lv[(q : Nat)]? = some (some (.long x))) (kk : ab_Ev l D ac d me n0 mc ms r k n sh (pc + 1) lv (.long x :: st) M) : ab_Ev l D ac d me n0 mc ms r k n sh pc lv st M := fun p e s m args below meth c H locs A ad ls C S L => lv_lload_n C.1 C.2.1 hd rfl (L.2.2.2 _ _ hl) (kk p e s m args below meth c H locs A ad ls C S L)
theorem ev_lload {i : Nat} {x : Int64} (hd : decode me.2.2.1 pc = .ok (.lload i, 2)) (hl : lv[i]? = some (some (.long x))) (kk : ab_Ev l D ac d me n0 mc ms r k n sh (pc + 2) lv (.long x :: st) M) : ab_Ev l D ac d me n0 mc ms r k n sh pc lv st M := fun p e s m args below meth c H locs A ad ls C S L => lv_lload C.1 C.2.1 hd (L.2.2.2 _ _ hl) (kk p e s m args below meth c H locs A ad ls C S L)
theorem ev_aload_n {q : Fin 4} {x : Nat} (hd : decode me.2.2.1 pc = .ok (.aload_n q, 1)) (hl : lv[(q : Nat)]? = some (some (.ref x))) (kk : ab_Ev l D ac d me n0 mc ms r k n sh (pc + 1) lv (.ref x :: st) M) : ab_Ev l D ac d me n0 mc ms r k n sh pc lv st M := fun p e s m args below meth c H locs A ad ls C S L => lv_aload_n C.1 C.2.1 hd rfl (L.2.2.2 _ _ hl) (kk p e s m args below meth c H locs A ad ls C S L)
theorem ev_aload {i : Nat} {x : Nat} (hd : decode me.2.2.1 pc = .ok (.aload i, 2)) (hl : lv[i]? = some (some (.ref x))) (kk : ab_Ev l D ac d me n0 mc ms r k n sh (pc + 2) lv (.ref x :: st) M) : ab_Ev l D ac d me n0 mc ms r k n sh pc lv st M := fun p e s m args below meth c H locs A ad ls C S L => lv_aload C.1 C.2.1 hd (L.2.2.2 _ _ hl) (kk p e s m args below meth c H locs A ad ls C S L)
theorem ev_istore_n {q : Fin 4} {x : Int32} (hd : decode me.2.2.1 pc = .ok (.istore_n q, 1)) (hi : (q : Nat) < lv.length) (hs : ab_sf lv q = true) (hl : lv.set q (some (.int x)) = lv') (kk : ab_Ev l D ac d me n0 mc ms r k n sh (pc + 1) lv' st M) : ab_Ev l D ac d me n0 mc ms r k n sh pc lv (.int x :: st) M := fun p e s m args below meth c H locs A ad ls C S L => lv_istore_n C.1 C.2.1 hd rfl L.has (by rw [← L.2.2.1]; exact hi) rfl (fun ls' h' => kk p e s m args below meth c H locs A ad ls' C S (by rw [← hl]; exact L.store1 hs h' hi))
theorem ev_istore {i : Nat} {x : Int32} (hd : decode me.2.2.1 pc = .ok (.istore i, 2)) (hi : i < lv.length) (hs : ab_sf lv i = true) (hl : lv.set i (some (.int x)) = lv') (kk : ab_Ev l D ac d me n0 mc ms r k n sh (pc + 2) lv' st M) : ab_Ev l D ac d me n0 mc ms r k n sh pc lv (.int x :: st) M := fun p e s m args below meth c H locs A ad ls C S L => lv_istore C.1 C.2.1 hd L.has (by rw [← L.2.2.1]; exact hi) rfl (fun ls' h' => kk p e s m args below meth c H locs A ad ls' C S (by rw [← hl]; exact L.store1 hs h' hi))
theorem ev_astore_n {q : Fin 4} {x : Nat} (hd : decode me.2.2.1 pc = .ok (.astore_n q, 1)) (hi : (q : Nat) < lv.length) (hs : ab_sf lv q = true) (hl : lv.set q (some (.ref x)) = lv') (kk : ab_Ev l D ac d me n0 mc ms r k n sh (pc + 1) lv' st M) : ab_Ev l D ac d me n0 mc ms r k n sh pc lv (.ref x :: st) M := fun p e s m args below meth c H locs A ad ls C S L => lv_astore_n C.1 C.2.1 hd rfl L.has (by rw [← L.2.2.1]; exact hi) rfl (fun ls' h' => kk p e s m args below meth c H locs A ad ls' C S (by rw [← hl]; exact L.store1 (v := .ref x) hs h' hi))
theorem ev_astore {i : Nat} {x : Nat} (hd : decode me.2.2.1 pc = .ok (.astore i, 2)) (hi : i < lv.length) (hs : ab_sf lv i = true) (hl : lv.set i (some (.ref x)) = lv') (kk : ab_Ev l D ac d me n0 mc ms r k n sh (pc + 2) lv' st M) : ab_Ev l D ac d me n0 mc ms r k n sh pc lv (.ref x :: st) M := fun p e s m args below meth c H locs A ad ls C S L => lv_astore C.1 C.2.1 hd L.has (by rw [← L.2.2.1]; exact hi) rfl (fun ls' h' => kk p e s m args below meth c H locs A ad ls' C S (by rw [← hl]; exact L.store1 (v := .ref x) hs h' hi))
theorem ev_lstore_n {q : Fin 4} {x : Int64} (hd : decode me.2.2.1 pc = .ok (.lstore_n q, 1)) (hi : (q : Nat) + 1 < lv.length) (hs : ab_sf lv q = true) (hl : (lv.set q (some (.long x))).set ((q : Nat) + 1) none = lv') (kk : ab_Ev l D ac d me n0 mc ms r k n sh (pc + 1) lv' st M) : ab_Ev l D ac d me n0 mc ms r k n sh pc lv (.long x :: st) M := fun p e s m args below meth c H locs A ad ls C S L => lv_lstore_n C.1 C.2.1 hd rfl L.has (by rw [← L.2.2.1]; exact hi) rfl (fun ls' h' => kk p e s m args below meth c H locs A ad ls' C S (by rw [← hl]; exact L.store2 hs h' hi))
theorem ev_lstore {i : Nat} {x : Int64} (hd : decode me.2.2.1 pc = .ok (.lstore i, 2)) (hi : i + 1 < lv.length) (hs : ab_sf lv i = true) (hl : (lv.set i (some (.long x))).set (i + 1) none = lv') (kk : ab_Ev l D ac d me n0 mc ms r k n sh (pc + 2) lv' st M) : ab_Ev l D ac d me n0 mc ms r k n sh pc lv (.long x :: st) M := fun p e s m args below meth c H locs A ad ls C S L => lv_lstore C.1 C.2.1 hd L.has (by rw [← L.2.2.1]; exact hi) rfl (fun ls' h' => kk p e s m args below meth c H locs A ad ls' C S (by rw [← hl]; exact L.store2 hs h' hi))
theorem ev_iinc {i : Nat} {z : Int} {x y : Int32} (hd : decode me.2.2.1 pc = .ok (.iinc i z, 3)) (hx : lv[i]? = some (some (.int x))) (hv : x + Int32.ofInt z = y) (hs : ab_sf lv i = true) (hl : lv.set i (some (.int y)) = lv') (kk : ab_Ev l D ac d me n0 mc ms r k n sh (pc + 3) lv' st M) : ab_Ev l D ac d me n0 mc ms r k n sh pc lv st M := fun p e s m args below meth c H locs A ad ls C S L => by
  have hi := (List.getElem?_eq_some_iff.mp hx).1
  obtain ⟨j, hj⟩ := List.getElem?_of_mem (ab_prs_mem (ad := ad) hx)
  exact lv_iinc C.1 C.2.1 hd L.has hj hv (by rw [← L.2.2.1]; exact hi) rfl (fun ls' h' => kk p e s m args below meth c H locs A ad ls' C S (by rw [← hl]; exact L.store1 hs h' hi))
theorem ev_iadd {x y : Int32} (hd : decode me.2.2.1 pc = .ok (.iadd, 1)) (kk : ab_Ev l D ac d me n0 mc ms r k n sh (pc + 1) lv (.int (x + y) :: st) M) : ab_Ev l D ac d me n0 mc ms r k n sh pc lv (.int y :: .int x :: st) M := fun p e s m args below meth c H locs A ad ls C S L => lv_iadd C.1 C.2.1 hd (kk p e s m args below meth c H locs A ad ls C S L)
theorem ev_isub {x y : Int32} (hd : decode me.2.2.1 pc = .ok (.isub, 1)) (kk : ab_Ev l D ac d me n0 mc ms r k n sh (pc + 1) lv (.int (x - y) :: st) M) : ab_Ev l D ac d me n0 mc ms r k n sh pc lv (.int y :: .int x :: st) M := fun p e s m args below meth c H locs A ad ls C S L => lv_isub C.1 C.2.1 hd (kk p e s m args below meth c H locs A ad ls C S L)
theorem ev_imul {x y : Int32} (hd : decode me.2.2.1 pc = .ok (.imul, 1)) (kk : ab_Ev l D ac d me n0 mc ms r k n sh (pc + 1) lv (.int (x * y) :: st) M) : ab_Ev l D ac d me n0 mc ms r k n sh pc lv (.int y :: .int x :: st) M := fun p e s m args below meth c H locs A ad ls C S L => lv_imul C.1 C.2.1 hd (kk p e s m args below meth c H locs A ad ls C S L)
theorem ev_iand {x y : Int32} (hd : decode me.2.2.1 pc = .ok (.iand, 1)) (kk : ab_Ev l D ac d me n0 mc ms r k n sh (pc + 1) lv (.int (x &&& y) :: st) M) : ab_Ev l D ac d me n0 mc ms r k n sh pc lv (.int y :: .int x :: st) M := fun p e s m args below meth c H locs A ad ls C S L => lv_iand C.1 C.2.1 hd (kk p e s m args below meth c H locs A ad ls C S L)
theorem ev_ior {x y : Int32} (hd : decode me.2.2.1 pc = .ok (.ior, 1)) (kk : ab_Ev l D ac d me n0 mc ms r k n sh (pc + 1) lv (.int (x ||| y) :: st) M) : ab_Ev l D ac d me n0 mc ms r k n sh pc lv (.int y :: .int x :: st) M := fun p e s m args below meth c H locs A ad ls C S L => lv_ior C.1 C.2.1 hd (kk p e s m args below meth c H locs A ad ls C S L)
theorem ev_ixor {x y : Int32} (hd : decode me.2.2.1 pc = .ok (.ixor, 1)) (kk : ab_Ev l D ac d me n0 mc ms r k n sh (pc + 1) lv (.int (x ^^^ y) :: st) M) : ab_Ev l D ac d me n0 mc ms r k n sh pc lv (.int y :: .int x :: st) M := fun p e s m args below meth c H locs A ad ls C S L => lv_ixor C.1 C.2.1 hd (kk p e s m args below meth c H locs A ad ls C S L)
theorem ev_ishl {x y : Int32} (hd : decode me.2.2.1 pc = .ok (.ishl, 1)) (kk : ab_Ev l D ac d me n0 mc ms r k n sh (pc + 1) lv (.int (x <<< (y &&& 31)) :: st) M) : ab_Ev l D ac d me n0 mc ms r k n sh pc lv (.int y :: .int x :: st) M := fun p e s m args below meth c H locs A ad ls C S L => lv_ishl C.1 C.2.1 hd (kk p e s m args below meth c H locs A ad ls C S L)
theorem ev_ishr {x y : Int32} (hd : decode me.2.2.1 pc = .ok (.ishr, 1)) (kk : ab_Ev l D ac d me n0 mc ms r k n sh (pc + 1) lv (.int (x >>> (y &&& 31)) :: st) M) : ab_Ev l D ac d me n0 mc ms r k n sh pc lv (.int y :: .int x :: st) M := fun p e s m args below meth c H locs A ad ls C S L => lv_ishr C.1 C.2.1 hd (kk p e s m args below meth c H locs A ad ls C S L)
theorem ev_iushr {x y : Int32} (hd : decode me.2.2.1 pc = .ok (.iushr, 1)) (kk : ab_Ev l D ac d me n0 mc ms r k n sh (pc + 1) lv (.int (x.toUInt32 >>> (y.toUInt32 &&& Int32.toUInt32 31)).toInt32 :: st) M) : ab_Ev l D ac d me n0 mc ms r k n sh pc lv (.int y :: .int x :: st) M := fun p e s m args below meth c H locs A ad ls C S L => lv_iushr C.1 C.2.1 hd rfl (kk p e s m args below meth c H locs A ad ls C S L)
theorem ev_ineg {x : Int32} (hd : decode me.2.2.1 pc = .ok (.ineg, 1)) (kk : ab_Ev l D ac d me n0 mc ms r k n sh (pc + 1) lv (.int (-x) :: st) M) : ab_Ev l D ac d me n0 mc ms r k n sh pc lv (.int x :: st) M := fun p e s m args below meth c H locs A ad ls C S L => lv_ineg C.1 C.2.1 hd (kk p e s m args below meth c H locs A ad ls C S L)
theorem ev_ladd {x y : Int64} (hd : decode me.2.2.1 pc = .ok (.ladd, 1)) (kk : ab_Ev l D ac d me n0 mc ms r k n sh (pc + 1) lv (.long (x + y) :: st) M) : ab_Ev l D ac d me n0 mc ms r k n sh pc lv (.long y :: .long x :: st) M := fun p e s m args below meth c H locs A ad ls C S L => lv_ladd C.1 C.2.1 hd (kk p e s m args below meth c H locs A ad ls C S L)
theorem ev_lsub {x y : Int64} (hd : decode me.2.2.1 pc = .ok (.lsub, 1)) (kk : ab_Ev l D ac d me n0 mc ms r k n sh (pc + 1) lv (.long (x - y) :: st) M) : ab_Ev l D ac d me n0 mc ms r k n sh pc lv (.long y :: .long x :: st) M := fun p e s m args below meth c H locs A ad ls C S L => lv_lsub C.1 C.2.1 hd (kk p e s m args below meth c H locs A ad ls C S L)
theorem ev_lor {x y : Int64} (hd : decode me.2.2.1 pc = .ok (.lor, 1)) (kk : ab_Ev l D ac d me n0 mc ms r k n sh (pc + 1) lv (.long (x ||| y) :: st) M) : ab_Ev l D ac d me n0 mc ms r k n sh pc lv (.long y :: .long x :: st) M := fun p e s m args below meth c H locs A ad ls C S L => lv_lor C.1 C.2.1 hd (kk p e s m args below meth c H locs A ad ls C S L)
theorem ev_land {x y : Int64} (hd : decode me.2.2.1 pc = .ok (.land, 1)) (kk : ab_Ev l D ac d me n0 mc ms r k n sh (pc + 1) lv (.long (x &&& y) :: st) M) : ab_Ev l D ac d me n0 mc ms r k n sh pc lv (.long y :: .long x :: st) M := fun p e s m args below meth c H locs A ad ls C S L => lv_land C.1 C.2.1 hd (kk p e s m args below meth c H locs A ad ls C S L)
theorem ev_lxor {x y : Int64} (hd : decode me.2.2.1 pc = .ok (.lxor, 1)) (kk : ab_Ev l D ac d me n0 mc ms r k n sh (pc + 1) lv (.long (x ^^^ y) :: st) M) : ab_Ev l D ac d me n0 mc ms r k n sh pc lv (.long y :: .long x :: st) M := fun p e s m args below meth c H locs A ad ls C S L => lv_lxor C.1 C.2.1 hd (kk p e s m args below meth c H locs A ad ls C S L)
theorem ev_lshl {x : Int64} {y : Int32} (hd : decode me.2.2.1 pc = .ok (.lshl, 1)) (kk : ab_Ev l D ac d me n0 mc ms r k n sh (pc + 1) lv (.long (x <<< (y.toInt64 &&& 63)) :: st) M) : ab_Ev l D ac d me n0 mc ms r k n sh pc lv (.int y :: .long x :: st) M := fun p e s m args below meth c H locs A ad ls C S L => lv_lshl C.1 C.2.1 hd rfl (kk p e s m args below meth c H locs A ad ls C S L)
theorem ev_lushr {x : Int64} {y : Int32} (hd : decode me.2.2.1 pc = .ok (.lushr, 1)) (kk : ab_Ev l D ac d me n0 mc ms r k n sh (pc + 1) lv (.long (x.toUInt64 >>> (y.toInt64.toUInt64 &&& Int64.toUInt64 63)).toInt64 :: st) M) : ab_Ev l D ac d me n0 mc ms r k n sh pc lv (.int y :: .long x :: st) M := fun p e s m args below meth c H locs A ad ls C S L => lv_lushr C.1 C.2.1 hd rfl (kk p e s m args below meth c H locs A ad ls C S L)
theorem ev_i2l {x : Int32} (hd : decode me.2.2.1 pc = .ok (.i2l, 1)) (kk : ab_Ev l D ac d me n0 mc ms r k n sh (pc + 1) lv (.long x.toInt64 :: st) M) : ab_Ev l D ac d me n0 mc ms r k n sh pc lv (.int x :: st) M := fun p e s m args below meth c H locs A ad ls C S L => lv_i2l C.1 C.2.1 hd rfl (kk p e s m args below meth c H locs A ad ls C S L)
theorem ev_l2i {x : Int64} (hd : decode me.2.2.1 pc = .ok (.l2i, 1)) (kk : ab_Ev l D ac d me n0 mc ms r k n sh (pc + 1) lv (.int x.toInt32 :: st) M) : ab_Ev l D ac d me n0 mc ms r k n sh pc lv (.long x :: st) M := fun p e s m args below meth c H locs A ad ls C S L => lv_l2i C.1 C.2.1 hd rfl (kk p e s m args below meth c H locs A ad ls C S L)
theorem ev_i2b {x : Int32} (hd : decode me.2.2.1 pc = .ok (.i2b, 1)) (kk : ab_Ev l D ac d me n0 mc ms r k n sh (pc + 1) lv (.int x.toInt8.toInt32 :: st) M) : ab_Ev l D ac d me n0 mc ms r k n sh pc lv (.int x :: st) M := fun p e s m args below meth c H locs A ad ls C S L => lv_i2b C.1 C.2.1 hd rfl (kk p e s m args below meth c H locs A ad ls C S L)
theorem ev_lcmp {x y : Int64} (hd : decode me.2.2.1 pc = .ok (.lcmp, 1)) (kk : ab_Ev l D ac d me n0 mc ms r k n sh (pc + 1) lv (.int (lg_cmp x y) :: st) M) : ab_Ev l D ac d me n0 mc ms r k n sh pc lv (.long y :: .long x :: st) M := fun p e s m args below meth c H locs A ad ls C S L => W.lcmp C.1 C.2.1 hd (kk p e s m args below meth c H locs A ad ls C S L)
theorem ev_dup {v : Value} (hd : decode me.2.2.1 pc = .ok (.dup, 1)) (hv : v.category = 1) (kk : ab_Ev l D ac d me n0 mc ms r k n sh (pc + 1) lv (v :: v :: st) M) : ab_Ev l D ac d me n0 mc ms r k n sh pc lv (v :: st) M := fun p e s m args below meth c H locs A ad ls C S L => lv_dup C.1 C.2.1 hd ((ab_vc ad v).trans hv) (kk p e s m args below meth c H locs A ad ls C S L)
theorem ev_idiv {x y : Int32} (hd : decode me.2.2.1 pc = .ok (.idiv, 1)) (hy : ¬ y = 0) (kk : ab_Ev l D ac d me n0 mc ms r k n sh (pc + 1) lv (.int (x / y) :: st) M) : ab_Ev l D ac d me n0 mc ms r k n sh pc lv (.int y :: .int x :: st) M := fun p e s m args below meth c H locs A ad ls C S L => lv_idiv C.1 C.2.1 hd hy (kk p e s m args below meth c H locs A ad ls C S L)
theorem ev_irem {x y : Int32} (hd : decode me.2.2.1 pc = .ok (.irem, 1)) (hy : ¬ y = 0) (kk : ab_Ev l D ac d me n0 mc ms r k n sh (pc + 1) lv (.int (x - x / y * y) :: st) M) : ab_Ev l D ac d me n0 mc ms r k n sh pc lv (.int y :: .int x :: st) M := fun p e s m args below meth c H locs A ad ls C S L => lv_irem C.1 C.2.1 hd hy (kk p e s m args below meth c H locs A ad ls C S L)
theorem ev_goto {z : Int} {t : Nat} (hd : decode me.2.2.1 pc = .ok (.goto z, 3)) (ht : (pc : Int) + z = (t : Int)) (kk : ab_Ev l D ac d me n0 mc ms r k n sh t lv st M) : ab_Ev l D ac d me n0 mc ms r k n sh pc lv st M := fun p e s m args below meth c H locs A ad ls C S L => lv_goto C.1 C.2.1 hd ht (kk p e s m args below meth c H locs A ad ls C S L)
theorem ev_if_eq {x : Int32} {z : Int} {t : Nat} (hd : decode me.2.2.1 pc = .ok (.ifCond .eq z, 3)) (ht : (pc : Int) + z = (t : Int)) (kt : x = 0 → ab_Ev l D ac d me n0 mc ms r k n sh t lv st M) (kf : ¬ x = 0 → ab_Ev l D ac d me n0 mc ms r k n sh (pc + 3) lv st M) : ab_Ev l D ac d me n0 mc ms r k n sh pc lv (.int x :: st) M := fun p e s m args below meth c H locs A ad ls C S L => lv_if_eq C.1 C.2.1 hd ht (fun h => kt h p e s m args below meth c H locs A ad ls C S L) (fun h => kf h p e s m args below meth c H locs A ad ls C S L)
theorem ev_icmp_eq {x y : Int32} {z : Int} {t : Nat} (hd : decode me.2.2.1 pc = .ok (.if_icmp .eq z, 3)) (ht : (pc : Int) + z = (t : Int)) (kt : x = y → ab_Ev l D ac d me n0 mc ms r k n sh t lv st M) (kf : ¬ x = y → ab_Ev l D ac d me n0 mc ms r k n sh (pc + 3) lv st M) : ab_Ev l D ac d me n0 mc ms r k n sh pc lv (.int y :: .int x :: st) M := fun p e s m args below meth c H locs A ad ls C S L => lv_icmp_eq C.1 C.2.1 hd ht (fun h => kt h p e s m args below meth c H locs A ad ls C S L) (fun h => kf h p e s m args below meth c H locs A ad ls C S L)
theorem ev_if_ne {x : Int32} {z : Int} {t : Nat} (hd : decode me.2.2.1 pc = .ok (.ifCond .ne z, 3)) (ht : (pc : Int) + z = (t : Int)) (kt : ¬ x = 0 → ab_Ev l D ac d me n0 mc ms r k n sh t lv st M) (kf : x = 0 → ab_Ev l D ac d me n0 mc ms r k n sh (pc + 3) lv st M) : ab_Ev l D ac d me n0 mc ms r k n sh pc lv (.int x :: st) M := fun p e s m args below meth c H locs A ad ls C S L => lv_if_ne C.1 C.2.1 hd ht (fun h => kt h p e s m args below meth c H locs A ad ls C S L) (fun h => kf h p e s m args below meth c H locs A ad ls C S L)
theorem ev_icmp_ne {x y : Int32} {z : Int} {t : Nat} (hd : decode me.2.2.1 pc = .ok (.if_icmp .ne z, 3)) (ht : (pc : Int) + z = (t : Int)) (kt : ¬ x = y → ab_Ev l D ac d me n0 mc ms r k n sh t lv st M) (kf : x = y → ab_Ev l D ac d me n0 mc ms r k n sh (pc + 3) lv st M) : ab_Ev l D ac d me n0 mc ms r k n sh pc lv (.int y :: .int x :: st) M := fun p e s m args below meth c H locs A ad ls C S L => lv_icmp_ne C.1 C.2.1 hd ht (fun h => kt h p e s m args below meth c H locs A ad ls C S L) (fun h => kf h p e s m args below meth c H locs A ad ls C S L)
theorem ev_if_lt {x : Int32} {z : Int} {t : Nat} (hd : decode me.2.2.1 pc = .ok (.ifCond .lt z, 3)) (ht : (pc : Int) + z = (t : Int)) (kt : x < 0 → ab_Ev l D ac d me n0 mc ms r k n sh t lv st M) (kf : ¬ x < 0 → ab_Ev l D ac d me n0 mc ms r k n sh (pc + 3) lv st M) : ab_Ev l D ac d me n0 mc ms r k n sh pc lv (.int x :: st) M := fun p e s m args below meth c H locs A ad ls C S L => lv_if_lt C.1 C.2.1 hd ht (fun h => kt h p e s m args below meth c H locs A ad ls C S L) (fun h => kf h p e s m args below meth c H locs A ad ls C S L)
theorem ev_icmp_lt {x y : Int32} {z : Int} {t : Nat} (hd : decode me.2.2.1 pc = .ok (.if_icmp .lt z, 3)) (ht : (pc : Int) + z = (t : Int)) (kt : x < y → ab_Ev l D ac d me n0 mc ms r k n sh t lv st M) (kf : ¬ x < y → ab_Ev l D ac d me n0 mc ms r k n sh (pc + 3) lv st M) : ab_Ev l D ac d me n0 mc ms r k n sh pc lv (.int y :: .int x :: st) M := fun p e s m args below meth c H locs A ad ls C S L => lv_icmp_lt C.1 C.2.1 hd ht (fun h => kt h p e s m args below meth c H locs A ad ls C S L) (fun h => kf h p e s m args below meth c H locs A ad ls C S L)
theorem ev_if_ge {x : Int32} {z : Int} {t : Nat} (hd : decode me.2.2.1 pc = .ok (.ifCond .ge z, 3)) (ht : (pc : Int) + z = (t : Int)) (kt : 0 ≤ x → ab_Ev l D ac d me n0 mc ms r k n sh t lv st M) (kf : ¬ 0 ≤ x → ab_Ev l D ac d me n0 mc ms r k n sh (pc + 3) lv st M) : ab_Ev l D ac d me n0 mc ms r k n sh pc lv (.int x :: st) M := fun p e s m args below meth c H locs A ad ls C S L => lv_if_ge C.1 C.2.1 hd ht (fun h => kt h p e s m args below meth c H locs A ad ls C S L) (fun h => kf h p e s m args below meth c H locs A ad ls C S L)
theorem ev_icmp_ge {x y : Int32} {z : Int} {t : Nat} (hd : decode me.2.2.1 pc = .ok (.if_icmp .ge z, 3)) (ht : (pc : Int) + z = (t : Int)) (kt : y ≤ x → ab_Ev l D ac d me n0 mc ms r k n sh t lv st M) (kf : ¬ y ≤ x → ab_Ev l D ac d me n0 mc ms r k n sh (pc + 3) lv st M) : ab_Ev l D ac d me n0 mc ms r k n sh pc lv (.int y :: .int x :: st) M := fun p e s m args below meth c H locs A ad ls C S L => lv_icmp_ge C.1 C.2.1 hd ht (fun h => kt h p e s m args below meth c H locs A ad ls C S L) (fun h => kf h p e s m args below meth c H locs A ad ls C S L)
theorem ev_if_gt {x : Int32} {z : Int} {t : Nat} (hd : decode me.2.2.1 pc = .ok (.ifCond .gt z, 3)) (ht : (pc : Int) + z = (t : Int)) (kt : 0 < x → ab_Ev l D ac d me n0 mc ms r k n sh t lv st M) (kf : ¬ 0 < x → ab_Ev l D ac d me n0 mc ms r k n sh (pc + 3) lv st M) : ab_Ev l D ac d me n0 mc ms r k n sh pc lv (.int x :: st) M := fun p e s m args below meth c H locs A ad ls C S L => lv_if_gt C.1 C.2.1 hd ht (fun h => kt h p e s m args below meth c H locs A ad ls C S L) (fun h => kf h p e s m args below meth c H locs A ad ls C S L)
theorem ev_icmp_gt {x y : Int32} {z : Int} {t : Nat} (hd : decode me.2.2.1 pc = .ok (.if_icmp .gt z, 3)) (ht : (pc : Int) + z = (t : Int)) (kt : y < x → ab_Ev l D ac d me n0 mc ms r k n sh t lv st M) (kf : ¬ y < x → ab_Ev l D ac d me n0 mc ms r k n sh (pc + 3) lv st M) : ab_Ev l D ac d me n0 mc ms r k n sh pc lv (.int y :: .int x :: st) M := fun p e s m args below meth c H locs A ad ls C S L => lv_icmp_gt C.1 C.2.1 hd ht (fun h => kt h p e s m args below meth c H locs A ad ls C S L) (fun h => kf h p e s m args below meth c H locs A ad ls C S L)
theorem ev_if_le {x : Int32} {z : Int} {t : Nat} (hd : decode me.2.2.1 pc = .ok (.ifCond .le z, 3)) (ht : (pc : Int) + z = (t : Int)) (kt : x ≤ 0 → ab_Ev l D ac d me n0 mc ms r k n sh t lv st M) (kf : ¬ x ≤ 0 → ab_Ev l D ac d me n0 mc ms r k n sh (pc + 3) lv st M) : ab_Ev l D ac d me n0 mc ms r k n sh pc lv (.int x :: st) M := fun p e s m args below meth c H locs A ad ls C S L => lv_if_le C.1 C.2.1 hd ht (fun h => kt h p e s m args below meth c H locs A ad ls C S L) (fun h => kf h p e s m args below meth c H locs A ad ls C S L)
theorem ev_icmp_le {x y : Int32} {z : Int} {t : Nat} (hd : decode me.2.2.1 pc = .ok (.if_icmp .le z, 3)) (ht : (pc : Int) + z = (t : Int)) (kt : x ≤ y → ab_Ev l D ac d me n0 mc ms r k n sh t lv st M) (kf : ¬ x ≤ y → ab_Ev l D ac d me n0 mc ms r k n sh (pc + 3) lv st M) : ab_Ev l D ac d me n0 mc ms r k n sh pc lv (.int y :: .int x :: st) M := fun p e s m args below meth c H locs A ad ls C S L => lv_icmp_le C.1 C.2.1 hd ht (fun h => kt h p e s m args below meth c H locs A ad ls C S L) (fun h => kf h p e s m args below meth c H locs A ad ls C S L)
theorem ev_tableOut {df lo hi : Int} {offs : Array Int} {len t : Nat} {x : Int32} (hd : decode me.2.2.1 pc = .ok (.tableswitch df lo hi offs, len)) (h : x.toInt < lo ∨ hi < x.toInt) (ht : (pc : Int) + df = (t : Int)) (kk : ab_Ev l D ac d me n0 mc ms r k n sh t lv st M) : ab_Ev l D ac d me n0 mc ms r k n sh pc lv (.int x :: st) M := fun p e s m args below meth c H locs A ad ls C S L => lv_tableOut C.1 C.2.1 hd h ht (kk p e s m args below meth c H locs A ad ls C S L)
theorem ev_tableIn {df lo hi off : Int} {offs : Array Int} {len t : Nat} {x : Int32} (hd : decode me.2.2.1 pc = .ok (.tableswitch df lo hi offs, len)) (h1 : ¬ x.toInt < lo) (h2 : ¬ hi < x.toInt) (ho : offs[(x.toInt - lo).toNat]? = some off) (ht : (pc : Int) + off = (t : Int)) (kk : ab_Ev l D ac d me n0 mc ms r k n sh t lv st M) : ab_Ev l D ac d me n0 mc ms r k n sh pc lv (.int x :: st) M := fun p e s m args below meth c H locs A ad ls C S L => lv_tableIn C.1 C.2.1 hd h1 h2 ho ht (kk p e s m args below meth c H locs A ad ls C S L)
end ABev
