/-! PRINTED (eg.py): the same rules for any end, any room, and for methods with a table of their own -/
section ABgen
abbrev ab_Zt : Type := List Frame → Array Value → State → (Nat → Prop) → (Nat → Nat) → State → Prop
abbrev ab_Yt : Type := Array Value → State → Code → (Nat → Prop) → (Nat → Nat) → Prop
def ab_Cg (D : va_G) (ac : Nat → ClassId) (me : ab_Me) (p : Program) (s : State) (m : MethodId) (args : Array Value) (meth : Method) (c : Code) : Prop :=
  p.tables.exec = Jvm.exec ∧ c.code = me.2.2.1 ∧ meth.sig.returnType = me.2.2.2.2 ∧ c.maxLocals = me.2.2.2.1 ∧ s.vm.findClass me.2.1 = some m.cls ∧ (∀ w ∈ ab_G, w.before args s = true) ∧ meth.locks = false ∧ True ∧ va_K D vwCl (ab_tys ac) s ∧ ab_N s
/-- from here (place, locals, stack, cells) the method comes to an end with Z -/
def ab_Eg (Z : ab_Zt) (Y : ab_Yt) (l : Launch) (D : va_G) (ac : Nat → ClassId) (R : Room) (me : ab_Me) (k n : Nat) (sh : ab_H) (pc : Nat) (lv : List (Option Value)) (st : List Value) (M : ab_M) : Prop :=
  ∀ (p : Program) (e : Env) (s : State) (m : MethodId) (args : Array Value) (below : List Frame) (meth : Method) (c : Code) (H : Heap) (locs : List Loc) (A : Nat → Prop) (ad : Nat → Nat) (ls : Array Slot),
    ab_Cg D ac me p s m args meth c → Y args s c A ad → ab_St D ac A s ad sh M H locs → ab_L ad ls me.2.2.2.1 lv → W p l e R s m args below meth c H locs k n (Z below args s A ad) (F0 m pc ls (st.map (ab_v ad)))
variable {Z : ab_Zt} {Y : ab_Yt} {l : Launch} {D : va_G} {ac : Nat → ClassId} {R : Room} {me : ab_Me} {k n : Nat} {sh : ab_H} {pc : Nat} {lv lv' : List (Option Value)} {st : List Value} {M : ab_M}
theorem ab_good2 {w : Cond} (h : w ∈ ab_G) : w ∈ ab_G ∧ ((w.onTables && w.keeps) = true ∨ ∃ ty, w = .arrayClass ty) := ⟨h, good_of_word (List.mem_filter.mp h).2⟩
theorem ab_goodG {me' : ab_Me} (h : Cond.code me'.1 me'.2.2.1 me'.2.2.2.1 me'.2.2.2.2 ∈ ab_G) : GoodIn ab_G (ab_ws me') := by
  intro w hw
  rcases List.mem_cons.mp hw with rfl | hw
  · exact ab_good2 h
  · exact ab_good2 hw
theorem eg_drop (h : ab_sub lv' lv) (kk : ab_Eg Z Y l D ac R me k n sh pc lv' st M) : ab_Eg Z Y l D ac R me k n sh pc lv st M := by
  intro p e s m args below meth c H locs A ad ls C y S L
  refine kk p e s m args below meth c H locs A ad ls C y S ⟨L.1, L.2.1, h.1.trans L.2.2.1, fun i v hi => ?_⟩
  rcases h.2 i with h2 | h2
  · rw [h2] at hi; cases hi
  · exact L.2.2.2 i v (by rw [← h2]; exact hi)
theorem eg_iconst {z : Int} {x : Int32} (hd : decode me.2.2.1 pc = .ok (.iconst z, 1)) (hv : Int32.ofInt z = x) (kk : ab_Eg Z Y l D ac R me k n sh (pc + 1) lv (.int x :: st) M) : ab_Eg Z Y l D ac R me k n sh pc lv st M := fun p e s m args below meth c H locs A ad ls C y S L => lv_iconst C.1 C.2.1 hd hv (kk p e s m args below meth c H locs A ad ls C y S L)
theorem eg_bipush {z : Int} {x : Int32} (hd : decode me.2.2.1 pc = .ok (.bipush z, 2)) (hv : (Int8.ofInt z).toInt32 = x) (kk : ab_Eg Z Y l D ac R me k n sh (pc + 2) lv (.int x :: st) M) : ab_Eg Z Y l D ac R me k n sh pc lv st M := fun p e s m args below meth c H locs A ad ls C y S L => lv_bipush C.1 C.2.1 hd hv (kk p e s m args below meth c H locs A ad ls C y S L)
theorem eg_sipush {z : Int} {x : Int32} (hd : decode me.2.2.1 pc = .ok (.sipush z, 3)) (hv : (Int16.ofInt z).toInt32 = x) (kk : ab_Eg Z Y l D ac R me k n sh (pc + 3) lv (.int x :: st) M) : ab_Eg Z Y l D ac R me k n sh pc lv st M := fun p e s m args below meth c H locs A ad ls C y S L => lv_sipush C.1 C.2.1 hd hv (kk p e s m args below meth c H locs A ad ls C y S L)
theorem eg_iload_n {q : Fin 4} {x : Int32} (hd : decode me.2.2.1 pc = .ok (.iload_n q, 1)) (hl : lv[(q : Nat)]? = some (some (.int x))) (kk : ab_Eg Z Y l D ac R me k n sh (pc + 1) lv (.int x :: st) M) : ab_Eg Z Y l D ac R me k n sh pc lv st M := fun p e s m args below meth c H locs A ad ls C y S L => lv_iload_n C.1 C.2.1 hd rfl (L.2.2.2 _ _ hl) (kk p e s m args below meth c H locs A ad ls C y S L)
theorem eg_iload {i : Nat} {x : Int32} (hd : decode me.2.2.1 pc = .ok (.iload i, 2)) (hl : lv[i]? = some (some (.int x))) (kk : ab_Eg Z Y l D ac R me k n sh (pc + 2) lv (.int x :: st) M) : ab_Eg Z Y l D ac R me k n sh pc lv st M := fun p e s m args below meth c H locs A ad ls C y S L => lv_iload C.1 C.2.1 hd (L.2.2.2 _ _ hl) (kk p e s m args below meth c H locs A ad ls C y S L)
theorem eg_aload_n {q : Fin 4} {x : Nat} (hd : decode me.2.2.1 pc = .ok (.aload_n q, 1)) (hl : lv[(q : Nat)]? = some (some (.ref x))) (kk : ab_Eg Z Y l D ac R me k n sh (pc + 1) lv (.ref x :: st) M) : ab_Eg Z Y l D ac R me k n sh pc lv st M := fun p e s m args below meth c H locs A ad ls C y S L => lv_aload_n C.1 C.2.1 hd rfl (L.2.2.2 _ _ hl) (kk p e s m args below meth c H locs A ad ls C y S L)
theorem eg_aload {i : Nat} {x : Nat} (hd : decode me.2.2.1 pc = .ok (.aload i, 2)) (hl : lv[i]? = some (some (.ref x))) (kk : ab_Eg Z Y l D ac R me k n sh (pc + 2) lv (.ref x :: st) M) : ab_Eg Z Y l D ac R me k n sh pc lv st M := fun p e s m args below meth c H locs A ad ls C y S L => lv_aload C.1 C.2.1 hd (L.2.2.2 _ _ hl) (kk p e s m args below meth c H locs A ad ls C y S L)
theorem eg_istore_n {q : Fin 4} {x : Int32} (hd : decode me.2.2.1 pc = .ok (.istore_n q, 1)) (hi : (q : Nat) < lv.length) (hs : ab_sf lv q = true) (hl : lv.set q (some (.int x)) = lv') (kk : ab_Eg Z Y l D ac R me k n sh (pc + 1) lv' st M) : ab_Eg Z Y l D ac R me k n sh pc lv (.int x :: st) M := fun p e s m args below meth c H locs A ad ls C y S L => lv_istore_n C.1 C.2.1 hd rfl L.has (by rw [← L.2.2.1]; exact hi) rfl (fun ls' h' => kk p e s m args below meth c H locs A ad ls' C y S (by rw [← hl]; exact L.store1 hs h' hi))
theorem eg_istore {i : Nat} {x : Int32} (hd : decode me.2.2.1 pc = .ok (.istore i, 2)) (hi : i < lv.length) (hs : ab_sf lv i = true) (hl : lv.set i (some (.int x)) = lv') (kk : ab_Eg Z Y l D ac R me k n sh (pc + 2) lv' st M) : ab_Eg Z Y l D ac R me k n sh pc lv (.int x :: st) M := fun p e s m args below meth c H locs A ad ls C y S L => lv_istore C.1 C.2.1 hd L.has (by rw [← L.2.2.1]; exact hi) rfl (fun ls' h' => kk p e s m args below meth c H locs A ad ls' C y S (by rw [← hl]; exact L.store1 hs h' hi))
theorem eg_astore_n {q : Fin 4} {x : Nat} (hd : decode me.2.2.1 pc = .ok (.astore_n q, 1)) (hi : (q : Nat) < lv.length) (hs : ab_sf lv q = true) (hl : lv.set q (some (.ref x)) = lv') (kk : ab_Eg Z Y l D ac R me k n sh (pc + 1) lv' st M) : ab_Eg Z Y l D ac R me k n sh pc lv (.ref x :: st) M := fun p e s m args below meth c H locs A ad ls C y S L => lv_astore_n C.1 C.2.1 hd rfl L.has (by rw [← L.2.2.1]; exact hi) rfl (fun ls' h' => kk p e s m args below meth c H locs A ad ls' C y S (by rw [← hl]; exact L.store1 (v := .ref x) hs h' hi))
theorem eg_astore {i : Nat} {x : Nat} (hd : decode me.2.2.1 pc = .ok (.astore i, 2)) (hi : i < lv.length) (hs : ab_sf lv i = true) (hl : lv.set i (some (.ref x)) = lv') (kk : ab_Eg Z Y l D ac R me k n sh (pc + 2) lv' st M) : ab_Eg Z Y l D ac R me k n sh pc lv (.ref x :: st) M := fun p e s m args below meth c H locs A ad ls C y S L => lv_astore C.1 C.2.1 hd L.has (by rw [← L.2.2.1]; exact hi) rfl (fun ls' h' => kk p e s m args below meth c H locs A ad ls' C y S (by rw [← hl]; exact L.store1 (v := .ref x) hs h' hi))
theorem eg_lstore {i : Nat} {x : Int64} (hd : decode me.2.2.1 pc = .ok (.lstore i, 2)) (hi : i + 1 < lv.length) (hs : ab_sf lv i = true) (hl : (lv.set i (some (.long x))).set (i + 1) none = lv') (kk : ab_Eg Z Y l D ac R me k n sh (pc + 2) lv' st M) : ab_Eg Z Y l D ac R me k n sh pc lv (.long x :: st) M := fun p e s m args below meth c H locs A ad ls C y S L => lv_lstore C.1 C.2.1 hd L.has (by rw [← L.2.2.1]; exact hi) rfl (fun ls' h' => kk p e s m args below meth c H locs A ad ls' C y S (by rw [← hl]; exact L.store2 hs h' hi))
theorem eg_lload {i : Nat} {x : Int64} (hd : decode me.2.2.1 pc = .ok (.lload i, 2)) (hl : lv[i]? = some (some (.long x))) (kk : ab_Eg Z Y l D ac R me k n sh (pc + 2) lv (.long x :: st) M) : ab_Eg Z Y l D ac R me k n sh pc lv st M := fun p e s m args below meth c H locs A ad ls C y S L => lv_lload C.1 C.2.1 hd (L.2.2.2 _ _ hl) (kk p e s m args below meth c H locs A ad ls C y S L)
theorem eg_iinc {i : Nat} {z : Int} {x y : Int32} (hd : decode me.2.2.1 pc = .ok (.iinc i z, 3)) (hx : lv[i]? = some (some (.int x))) (hv : x + Int32.ofInt z = y) (hs : ab_sf lv i = true) (hl : lv.set i (some (.int y)) = lv') (kk : ab_Eg Z Y l D ac R me k n sh (pc + 3) lv' st M) : ab_Eg Z Y l D ac R me k n sh pc lv st M := fun p e s m args below meth c H locs A ad ls C y S L => by
  have hi := (List.getElem?_eq_some_iff.mp hx).1
  obtain ⟨j, hj⟩ := List.getElem?_of_mem (ab_prs_mem (ad := ad) hx)
  exact lv_iinc C.1 C.2.1 hd L.has hj hv (by rw [← L.2.2.1]; exact hi) rfl (fun ls' h' => kk p e s m args below meth c H locs A ad ls' C y S (by rw [← hl]; exact L.store1 hs h' hi))
theorem eg_iadd {x y : Int32} (hd : decode me.2.2.1 pc = .ok (.iadd, 1)) (kk : ab_Eg Z Y l D ac R me k n sh (pc + 1) lv (.int (x + y) :: st) M) : ab_Eg Z Y l D ac R me k n sh pc lv (.int y :: .int x :: st) M := fun p e s m args below meth c H locs A ad ls C y S L => lv_iadd C.1 C.2.1 hd (kk p e s m args below meth c H locs A ad ls C y S L)
theorem eg_isub {x y : Int32} (hd : decode me.2.2.1 pc = .ok (.isub, 1)) (kk : ab_Eg Z Y l D ac R me k n sh (pc + 1) lv (.int (x - y) :: st) M) : ab_Eg Z Y l D ac R me k n sh pc lv (.int y :: .int x :: st) M := fun p e s m args below meth c H locs A ad ls C y S L => lv_isub C.1 C.2.1 hd (kk p e s m args below meth c H locs A ad ls C y S L)
theorem eg_iand {x y : Int32} (hd : decode me.2.2.1 pc = .ok (.iand, 1)) (kk : ab_Eg Z Y l D ac R me k n sh (pc + 1) lv (.int (x &&& y) :: st) M) : ab_Eg Z Y l D ac R me k n sh pc lv (.int y :: .int x :: st) M := fun p e s m args below meth c H locs A ad ls C y S L => lv_iand C.1 C.2.1 hd (kk p e s m args below meth c H locs A ad ls C y S L)
theorem eg_lcmp {x y : Int64} (hd : decode me.2.2.1 pc = .ok (.lcmp, 1)) (kk : ab_Eg Z Y l D ac R me k n sh (pc + 1) lv (.int (lg_cmp x y) :: st) M) : ab_Eg Z Y l D ac R me k n sh pc lv (.long y :: .long x :: st) M := fun p e s m args below meth c H locs A ad ls C y S L => W.lcmp C.1 C.2.1 hd (kk p e s m args below meth c H locs A ad ls C y S L)
theorem eg_dup {v : Value} (hd : decode me.2.2.1 pc = .ok (.dup, 1)) (hv : v.category = 1) (kk : ab_Eg Z Y l D ac R me k n sh (pc + 1) lv (v :: v :: st) M) : ab_Eg Z Y l D ac R me k n sh pc lv (v :: st) M := fun p e s m args below meth c H locs A ad ls C y S L => lv_dup C.1 C.2.1 hd ((ab_vc ad v).trans hv) (kk p e s m args below meth c H locs A ad ls C y S L)
theorem eg_goto {z : Int} {t : Nat} (hd : decode me.2.2.1 pc = .ok (.goto z, 3)) (ht : (pc : Int) + z = (t : Int)) (kk : ab_Eg Z Y l D ac R me k n sh t lv st M) : ab_Eg Z Y l D ac R me k n sh pc lv st M := fun p e s m args below meth c H locs A ad ls C y S L => lv_goto C.1 C.2.1 hd ht (kk p e s m args below meth c H locs A ad ls C y S L)
theorem eg_if_eq {x : Int32} {z : Int} {t : Nat} (hd : decode me.2.2.1 pc = .ok (.ifCond .eq z, 3)) (ht : (pc : Int) + z = (t : Int)) (kt : x = 0 → ab_Eg Z Y l D ac R me k n sh t lv st M) (kf : ¬ x = 0 → ab_Eg Z Y l D ac R me k n sh (pc + 3) lv st M) : ab_Eg Z Y l D ac R me k n sh pc lv (.int x :: st) M := fun p e s m args below meth c H locs A ad ls C y S L => lv_if_eq C.1 C.2.1 hd ht (fun h => kt h p e s m args below meth c H locs A ad ls C y S L) (fun h => kf h p e s m args below meth c H locs A ad ls C y S L)
theorem eg_if_ne {x : Int32} {z : Int} {t : Nat} (hd : decode me.2.2.1 pc = .ok (.ifCond .ne z, 3)) (ht : (pc : Int) + z = (t : Int)) (kt : ¬ x = 0 → ab_Eg Z Y l D ac R me k n sh t lv st M) (kf : x = 0 → ab_Eg Z Y l D ac R me k n sh (pc + 3) lv st M) : ab_Eg Z Y l D ac R me k n sh pc lv (.int x :: st) M := fun p e s m args below meth c H locs A ad ls C y S L => lv_if_ne C.1 C.2.1 hd ht (fun h => kt h p e s m args below meth c H locs A ad ls C y S L) (fun h => kf h p e s m args below meth c H locs A ad ls C y S L)
theorem eg_if_lt {x : Int32} {z : Int} {t : Nat} (hd : decode me.2.2.1 pc = .ok (.ifCond .lt z, 3)) (ht : (pc : Int) + z = (t : Int)) (kt : x < 0 → ab_Eg Z Y l D ac R me k n sh t lv st M) (kf : ¬ x < 0 → ab_Eg Z Y l D ac R me k n sh (pc + 3) lv st M) : ab_Eg Z Y l D ac R me k n sh pc lv (.int x :: st) M := fun p e s m args below meth c H locs A ad ls C y S L => lv_if_lt C.1 C.2.1 hd ht (fun h => kt h p e s m args below meth c H locs A ad ls C y S L) (fun h => kf h p e s m args below meth c H locs A ad ls C y S L)
theorem eg_if_ge {x : Int32} {z : Int} {t : Nat} (hd : decode me.2.2.1 pc = .ok (.ifCond .ge z, 3)) (ht : (pc : Int) + z = (t : Int)) (kt : 0 ≤ x → ab_Eg Z Y l D ac R me k n sh t lv st M) (kf : ¬ 0 ≤ x → ab_Eg Z Y l D ac R me k n sh (pc + 3) lv st M) : ab_Eg Z Y l D ac R me k n sh pc lv (.int x :: st) M := fun p e s m args below meth c H locs A ad ls C y S L => lv_if_ge C.1 C.2.1 hd ht (fun h => kt h p e s m args below meth c H locs A ad ls C y S L) (fun h => kf h p e s m args below meth c H locs A ad ls C y S L)
theorem eg_if_gt {x : Int32} {z : Int} {t : Nat} (hd : decode me.2.2.1 pc = .ok (.ifCond .gt z, 3)) (ht : (pc : Int) + z = (t : Int)) (kt : 0 < x → ab_Eg Z Y l D ac R me k n sh t lv st M) (kf : ¬ 0 < x → ab_Eg Z Y l D ac R me k n sh (pc + 3) lv st M) : ab_Eg Z Y l D ac R me k n sh pc lv (.int x :: st) M := fun p e s m args below meth c H locs A ad ls C y S L => lv_if_gt C.1 C.2.1 hd ht (fun h => kt h p e s m args below meth c H locs A ad ls C y S L) (fun h => kf h p e s m args below meth c H locs A ad ls C y S L)
theorem eg_if_le {x : Int32} {z : Int} {t : Nat} (hd : decode me.2.2.1 pc = .ok (.ifCond .le z, 3)) (ht : (pc : Int) + z = (t : Int)) (kt : x ≤ 0 → ab_Eg Z Y l D ac R me k n sh t lv st M) (kf : ¬ x ≤ 0 → ab_Eg Z Y l D ac R me k n sh (pc + 3) lv st M) : ab_Eg Z Y l D ac R me k n sh pc lv (.int x :: st) M := fun p e s m args below meth c H locs A ad ls C y S L => lv_if_le C.1 C.2.1 hd ht (fun h => kt h p e s m args below meth c H locs A ad ls C y S L) (fun h => kf h p e s m args below meth c H locs A ad ls C y S L)
theorem eg_icmp_eq {x y : Int32} {z : Int} {t : Nat} (hd : decode me.2.2.1 pc = .ok (.if_icmp .eq z, 3)) (ht : (pc : Int) + z = (t : Int)) (kt : x = y → ab_Eg Z Y l D ac R me k n sh t lv st M) (kf : ¬ x = y → ab_Eg Z Y l D ac R me k n sh (pc + 3) lv st M) : ab_Eg Z Y l D ac R me k n sh pc lv (.int y :: .int x :: st) M := fun p e s m args below meth c H locs A ad ls C y S L => lv_icmp_eq C.1 C.2.1 hd ht (fun h => kt h p e s m args below meth c H locs A ad ls C y S L) (fun h => kf h p e s m args below meth c H locs A ad ls C y S L)
theorem eg_icmp_ne {x y : Int32} {z : Int} {t : Nat} (hd : decode me.2.2.1 pc = .ok (.if_icmp .ne z, 3)) (ht : (pc : Int) + z = (t : Int)) (kt : ¬ x = y → ab_Eg Z Y l D ac R me k n sh t lv st M) (kf : x = y → ab_Eg Z Y l D ac R me k n sh (pc + 3) lv st M) : ab_Eg Z Y l D ac R me k n sh pc lv (.int y :: .int x :: st) M := fun p e s m args below meth c H locs A ad ls C y S L => lv_icmp_ne C.1 C.2.1 hd ht (fun h => kt h p e s m args below meth c H locs A ad ls C y S L) (fun h => kf h p e s m args below meth c H locs A ad ls C y S L)
theorem eg_icmp_lt {x y : Int32} {z : Int} {t : Nat} (hd : decode me.2.2.1 pc = .ok (.if_icmp .lt z, 3)) (ht : (pc : Int) + z = (t : Int)) (kt : x < y → ab_Eg Z Y l D ac R me k n sh t lv st M) (kf : ¬ x < y → ab_Eg Z Y l D ac R me k n sh (pc + 3) lv st M) : ab_Eg Z Y l D ac R me k n sh pc lv (.int y :: .int x :: st) M := fun p e s m args below meth c H locs A ad ls C y S L => lv_icmp_lt C.1 C.2.1 hd ht (fun h => kt h p e s m args below meth c H locs A ad ls C y S L) (fun h => kf h p e s m args below meth c H locs A ad ls C y S L)
theorem eg_icmp_ge {x y : Int32} {z : Int} {t : Nat} (hd : decode me.2.2.1 pc = .ok (.if_icmp .ge z, 3)) (ht : (pc : Int) + z = (t : Int)) (kt : y ≤ x → ab_Eg Z Y l D ac R me k n sh t lv st M) (kf : ¬ y ≤ x → ab_Eg Z Y l D ac R me k n sh (pc + 3) lv st M) : ab_Eg Z Y l D ac R me k n sh pc lv (.int y :: .int x :: st) M := fun p e s m args below meth c H locs A ad ls C y S L => lv_icmp_ge C.1 C.2.1 hd ht (fun h => kt h p e s m args below meth c H locs A ad ls C y S L) (fun h => kf h p e s m args below meth c H locs A ad ls C y S L)
theorem eg_icmp_gt {x y : Int32} {z : Int} {t : Nat} (hd : decode me.2.2.1 pc = .ok (.if_icmp .gt z, 3)) (ht : (pc : Int) + z = (t : Int)) (kt : y < x → ab_Eg Z Y l D ac R me k n sh t lv st M) (kf : ¬ y < x → ab_Eg Z Y l D ac R me k n sh (pc + 3) lv st M) : ab_Eg Z Y l D ac R me k n sh pc lv (.int y :: .int x :: st) M := fun p e s m args below meth c H locs A ad ls C y S L => lv_icmp_gt C.1 C.2.1 hd ht (fun h => kt h p e s m args below meth c H locs A ad ls C y S L) (fun h => kf h p e s m args below meth c H locs A ad ls C y S L)
theorem eg_icmp_le {x y : Int32} {z : Int} {t : Nat} (hd : decode me.2.2.1 pc = .ok (.if_icmp .le z, 3)) (ht : (pc : Int) + z = (t : Int)) (kt : x ≤ y → ab_Eg Z Y l D ac R me k n sh t lv st M) (kf : ¬ x ≤ y → ab_Eg Z Y l D ac R me k n sh (pc + 3) lv st M) : ab_Eg Z Y l D ac R me k n sh pc lv (.int y :: .int x :: st) M := fun p e s m args below meth c H locs A ad ls C y S L => lv_icmp_le C.1 C.2.1 hd ht (fun h => kt h p e s m args below meth c H locs A ad ls C y S L) (fun h => kf h p e s m args below meth c H locs A ad ls C y S L)
theorem eg_tableOut {df lo hi : Int} {offs : Array Int} {len t : Nat} {x : Int32} (hd : decode me.2.2.1 pc = .ok (.tableswitch df lo hi offs, len)) (h : x.toInt < lo ∨ hi < x.toInt) (ht : (pc : Int) + df = (t : Int)) (kk : ab_Eg Z Y l D ac R me k n sh t lv st M) : ab_Eg Z Y l D ac R me k n sh pc lv (.int x :: st) M := fun p e s m args below meth c H locs A ad ls C y S L => lv_tableOut C.1 C.2.1 hd h ht (kk p e s m args below meth c H locs A ad ls C y S L)
theorem eg_tableIn {df lo hi off : Int} {offs : Array Int} {len t : Nat} {x : Int32} (hd : decode me.2.2.1 pc = .ok (.tableswitch df lo hi offs, len)) (h1 : ¬ x.toInt < lo) (h2 : ¬ hi < x.toInt) (ho : offs[(x.toInt - lo).toNat]? = some off) (ht : (pc : Int) + off = (t : Int)) (kk : ab_Eg Z Y l D ac R me k n sh t lv st M) : ab_Eg Z Y l D ac R me k n sh pc lv (.int x :: st) M := fun p e s m args below meth c H locs A ad ls C y S L => lv_tableIn C.1 C.2.1 hd h1 h2 ho ht (kk p e s m args below meth c H locs A ad ls C y S L)
theorem eg_geti {idx o ci nf kf : Nat} {rf : List (Option Nat)} {ty : FieldType} {fin : Bool} (hF : ab_FL me.2.1 idx ci kf ty fin) (hs : sh[o]? = some (ci, nf, rf)) (hci : ci < 100) (hk : kf < nf) (hr : ab_isR ci kf = false) (hd : decode me.2.2.1 pc = .ok (.getfield idx, 3)) (kk : ab_Eg Z Y l D ac R me k n sh (pc + 3) lv (.int (M.1 o kf) :: st) M) : ab_Eg Z Y l D ac R me k n sh pc lv (.ref o :: st) M := by
  intro p e s m args below meth c H locs A ad ls C y S L
  obtain ⟨hx, hb, -, -, hown, hts, -, -, hK, hN⟩ := id C
  obtain ⟨Cn, T, N, ty0, hc, hkN, hin, -, -, -, -, hlink⟩ := hF
  have he : (ab_W ac ad sh M)[o]? = some (ad o, .inr (ci, (List.range nf).map (ab_fv ad M o (ci, nf, rf)))) := by rw [ab_W_get hs, ab_cell_obj hci]
  have hv : ((List.range nf).map (ab_fv ad M o (ci, nf, rf)))[kf]? = some (.int (M.1 o kf)) := by simp [hk, ab_fv, hr]
  have hin' : ∀ w ∈ u_ws Cn T N, w ∈ ab_G := fun w h => hin w h
  rcases hlink with hlink | ⟨host, hlink⟩
  · exact va_get hx hb hts hin' hown hK S.1 o he hc kf hkN (hts _ hlink) (fun _ h => h) hv hd (kk p e s m args below meth c H locs A ad ls C y S L)
  · exact va_getN hx hb hts hin' hown hK S.1 o he hc kf hkN (va_Nw.use rfl (hN.1 _ hlink)) (fun _ h => h) hv hd (kk p e s m args below meth c H locs A ad ls C y S L)
theorem eg_getr {idx o o' ci nf kf : Nat} {rf : List (Option Nat)} {ty : FieldType} {fin : Bool} (hF : ab_FL me.2.1 idx ci kf ty fin) (hs : sh[o]? = some (ci, nf, rf)) (hci : ci < 100) (hk : kf < nf) (hr : ab_isR ci kf = true) (ho : rf.getD kf none = some o') (hd : decode me.2.2.1 pc = .ok (.getfield idx, 3)) (kk : ab_Eg Z Y l D ac R me k n sh (pc + 3) lv (.ref o' :: st) M) : ab_Eg Z Y l D ac R me k n sh pc lv (.ref o :: st) M := by
  intro p e s m args below meth c H locs A ad ls C y S L
  obtain ⟨hx, hb, -, -, hown, hts, -, -, hK, hN⟩ := id C
  obtain ⟨Cn, T, N, ty0, hc, hkN, hin, -, -, -, -, hlink⟩ := hF
  have he : (ab_W ac ad sh M)[o]? = some (ad o, .inr (ci, (List.range nf).map (ab_fv ad M o (ci, nf, rf)))) := by rw [ab_W_get hs, ab_cell_obj hci]
  have hv : ((List.range nf).map (ab_fv ad M o (ci, nf, rf)))[kf]? = some (.ref (ad o')) := by
    rw [List.getElem?_map, List.getElem?_range hk]
    show some (ab_fv ad M o (ci, nf, rf) kf) = _
    unfold ab_fv
    rw [if_pos hr]
    show some (va_rf ((rf.getD kf none).map ad)) = _
    rw [ho]
    rfl
  have hin' : ∀ w ∈ u_ws Cn T N, w ∈ ab_G := fun w h => hin w h
  rcases hlink with hlink | ⟨host, hlink⟩
  · exact va_get hx hb hts hin' hown hK S.1 o he hc kf hkN (hts _ hlink) (fun _ h => h) hv hd (kk p e s m args below meth c H locs A ad ls C y S L)
  · exact va_getN hx hb hts hin' hown hK S.1 o he hc kf hkN (va_Nw.use rfl (hN.1 _ hlink)) (fun _ h => h) hv hd (kk p e s m args below meth c H locs A ad ls C y S L)
theorem eg_aaload {o o' ct nn : Nat} {rf : List (Option Nat)} {i : Int32} (hs : sh[o]? = some (ct, nn, rf)) (hct : ct = 103 ∨ ct = 104) (hin : vp_in i nn) (ho : rf.getD i.toNatClampNeg none = some o') (hd : decode me.2.2.1 pc = .ok (.aaload, 1)) (kk : ab_Eg Z Y l D ac R me k n sh (pc + 1) lv (.ref o' :: st) M) : ab_Eg Z Y l D ac R me k n sh pc lv (.int i :: .ref o :: st) M := by
  intro p e s m args below meth c H locs A ad ls C y S L
  have kk := kk p e s m args below meth c H locs A ad ls C y S L
  rcases hct with rfl | rfl
  · refine va_aldq C.1 C.2.1 C.2.2.2.2.2.2.2.2.1 S.1 o 3 ((ab_W_get hs).trans (by rw [ab_cr (by decide)])) rfl hin hd ?_
    show W p l e R s m args below meth c H locs k n _ (F0 m (pc + 1) ls (va_rf ((rf.getD i.toNatClampNeg none).map ad) :: st.map (ab_v ad)))
    rw [ho]
    exact kk
  · refine va_aldq C.1 C.2.1 C.2.2.2.2.2.2.2.2.1 S.1 o 4 ((ab_W_get hs).trans (by rw [ab_cr (by decide)])) rfl hin hd ?_
    show W p l e R s m args below meth c H locs k n _ (F0 m (pc + 1) ls (va_rf ((rf.getD i.toNatClampNeg none).map ad) :: st.map (ab_v ad)))
    rw [ho]
    exact kk
theorem eg_laload {o nn : Nat} {rf : List (Option Nat)} {i : Int32} (hs : sh[o]? = some (102, nn, rf)) (hin : vp_in i nn) (hd : decode me.2.2.1 pc = .ok (.laload, 1)) (kk : ab_Eg Z Y l D ac R me k n sh (pc + 1) lv (.long (M.2 o i.toNatClampNeg) :: st) M) : ab_Eg Z Y l D ac R me k n sh pc lv (.int i :: .ref o :: st) M := by
  intro p e s m args below meth c H locs A ad ls C y S L
  exact va_lald C.1 C.2.1 C.2.2.2.2.2.2.2.2.1 S.1 o 2 ((ab_W_get hs).trans (by rw [ab_cl])) rfl hin hd (kk p e s m args below meth c H locs A ad ls C y S L)
theorem eg_lastore {o nn : Nat} {rf : List (Option Nat)} {i : Int32} {x : Int64} (hs : sh[o]? = some (102, nn, rf)) (hin : vp_in i nn) (hd : decode me.2.2.1 pc = .ok (.lastore, 1)) (kk : ab_Eg Z Y l D ac R me k n sh (pc + 1) lv st (ab_pl M o i.toNatClampNeg x)) : ab_Eg Z Y l D ac R me k n sh pc lv (.long x :: .int i :: .ref o :: st) M := by
  intro p e s m args below meth c H locs A ad ls C y S L
  obtain ⟨hP, hD, hS, hA⟩ := S
  have hset : (ab_W ac ad sh M).set o (ad o, .inl (ac 102, nn, .inr (.inl (vp_updL (M.2 o) i.toNatClampNeg x)))) = ab_W ac ad sh (ab_pl M o i.toNatClampNeg x) := ab_W_set hs (by rw [ab_cl, ab_updL]) (fun j y hj => ab_cell_l hj)
  refine va_last C.1 C.2.1 C.2.2.2.2.2.2.2.2.1 hP hD hS o 2 ((ab_W_get hs).trans (by rw [ab_cl])) rfl hin hd (fun H1 locs1 hP hD hS => ?_)
  rw [hset] at hP hD
  exact kk p e s m args below meth c H1 locs1 A ad ls C y ⟨hP, hD, hS, hA⟩ L
theorem eg_i2l {x : Int32} (hd : decode me.2.2.1 pc = .ok (.i2l, 1)) (kk : ab_Eg Z Y l D ac R me k n sh (pc + 1) lv (.long x.toInt64 :: st) M) : ab_Eg Z Y l D ac R me k n sh pc lv (.int x :: st) M := fun p e s m args below meth c H locs A ad ls C y S L => lv_i2l C.1 C.2.1 hd rfl (kk p e s m args below meth c H locs A ad ls C y S L)
theorem eg_callV {me' : ab_Me} {d' idx o ci nf : Nat} {rf : List (Option Nat)} {as sk : List Value} {rv : Option Value} {M' : ab_M} (hc : ab_Con l D ac d' me' 0 0 (.ref o :: as) sh M (rv, sh, M')) (hm : ab_MV me' ci as.length) (hs : sh[o]? = some (ci, nf, rf)) (hl : Cond.methodLink me.2.1 idx me'.1 ∈ ab_G) (hd : decode me.2.2.1 pc = .ok (.invokevirtual idx, 3)) (hdd : d' + 1 ≤ R.frames ∧ 48 * (d' + 1) ≤ R.locals) (hk1 : sk = as.reverse ++ .ref o :: st) (hst : (st.map fun v => v.category).sum ≤ 8) (hkn : k ≤ R.cells ∧ n ≤ R.slots)
    (kk : ab_Eg Z Y l D ac R me k n sh (pc + 3) lv (rv.toList ++ st) M') : ab_Eg Z Y l D ac R me k n sh pc lv sk M := by
  intro p e s m args below meth c H locs A ad ls C y S L
  obtain ⟨hx, hb, hrt, hml, hown, hts, hlk, hnm, hK, hN⟩ := id C
  obtain ⟨hP, hD, hS, hA⟩ := S
  obtain ⟨h1, h2, h3, h4, h5, h6, h7, T, N, h8⟩ := hm
  have he : (ab_W ac ad sh M)[o]? = some (ad o, .inr (ci, (List.range nf).map (ab_fv ad M o (ci, nf, rf)))) := by rw [ab_W_get hs, ab_cell_obj h7]
  have hF := ab_freeW hD hS hA
  have hG : GoodIn ab_G (wsV me.2.1 idx me'.1.cls me'.1 (ab_ws me')) := by
    intro w hw
    unfold wsV at hw
    rcases List.mem_append.mp hw with hw | hw
    · simp only [List.mem_cons, List.not_mem_nil, or_false] at hw
      rcases hw with rfl | rfl | rfl | rfl
      · exact ab_good2 hl
      · exact ab_good2 h2
      · exact ab_good2 h3
      · exact ab_good2 h4
    · exact ab_goodG h1 w hw
  refine ab_callW (va_runV (As := as.map (ab_v ad)) (rest := st.map (ab_v ad)) (C := me'.1.cls) (b := ad o) ⟨hx, hb, hml, hown, hts⟩ (hc ad H.size) (cwV as.length hts hG rfl rfl rfl ⟨rfl, h5⟩ ⟨hdd.1, by show 8 + (me'.2.2.2.1 + 11) + 48 * d' ≤ R.locals; omega⟩) ⟨ab_blind, va_recv hK hP h8 he, fun U hU hW => ⟨rfl, by rw [hU], by rw [hU]; exact hP, va_K.moved hW.alike hK, hD.weaken (fun _ _ _ _ => trivial), ab_N.warm hW hN⟩⟩ rfl (by simp) L.1 (by subst hk1; simp [ab_v]) (lv_room (by rw [ab_vcs]; exact hst)) hd ⟨by simpa using hkn.1, by simpa using hkn.2⟩) hS (fun q _ h => hF q h) hF (fun ad' t H1 locs1 ht hvm ha1 ha2 hP1 hD1 hz hk hS1 => ?_)
  have e1 : ad' = ad := ha2 (Nat.le_refl _)
  subst e1
  have := kk p e s m args below meth c H1 locs1 A ad' ls C y ⟨hP1, hD1.weaken (fun _ _ _ h => hF _ h), hS1, hA⟩ L
  rw [show (rv.toList ++ st).map (ab_v ad') = (rv.map (ab_v ad')).toList ++ st.map (ab_v ad') by cases rv <;> rfl] at this
  exact this
theorem eg_callS {me' : ab_Me} {d' idx : Nat} {as sk : List Value} {rv : Option Value} {M' : ab_M} (hc : ab_Con l D ac d' me' 0 0 as sh M (rv, sh, M')) (hm : ab_MS me' as.length) (hl : Cond.methodLink me.2.1 idx me'.1 ∈ ab_G) (hd : decode me.2.2.1 pc = .ok (.invokestatic idx, 3)) (hdd : d' + 1 ≤ R.frames ∧ 48 * (d' + 1) ≤ R.locals) (hk1 : sk = as.reverse ++ st) (hst : (st.map fun v => v.category).sum ≤ 8) (hkn : k ≤ R.cells ∧ n ≤ R.slots)
    (kk : ab_Eg Z Y l D ac R me k n sh (pc + 3) lv (rv.toList ++ st) M') : ab_Eg Z Y l D ac R me k n sh pc lv sk M := by
  intro p e s m args below meth c H locs A ad ls C y S L
  obtain ⟨hx, hb, hrt, hml, hown, hts, hlk, hnm, hK, hN⟩ := id C
  obtain ⟨hP, hD, hS, hA⟩ := S
  obtain ⟨h1, h2, h4, h5, h6⟩ := hm
  have hF := ab_freeW hD hS hA
  refine ab_callW (va_runS (As := as.map (ab_v ad)) (rest := st.map (ab_v ad)) ⟨hx, hb, hml, hown, hts⟩ (hc ad H.size) ⟨callB_of as.length hts (ab_goodG h1) rfl rfl rfl (hts _ h4) (hts _ hl) h5 ⟨hdd.1, by show 8 + (me'.2.2.2.1 + 11) + 48 * d' ≤ R.locals; omega⟩, hts _ h2⟩ ⟨ab_blind, fun U hU hW => ⟨rfl, by rw [hU], by rw [hU]; exact hP, va_K.moved hW.alike hK, hD.weaken (fun _ _ _ _ => trivial), ab_N.warm hW hN⟩⟩ rfl (by simp) L.1 (by subst hk1; simp) (lv_room (by rw [ab_vcs]; exact hst)) hd ⟨by simpa using hkn.1, by simpa using hkn.2⟩) hS (fun q _ h => hF q h) hF (fun ad' t H1 locs1 ht hvm ha1 ha2 hP1 hD1 hz hk hS1 => ?_)
  have e1 : ad' = ad := ha2 (Nat.le_refl _)
  subst e1
  have := kk p e s m args below meth c H1 locs1 A ad' ls C y ⟨hP1, hD1.weaken (fun _ _ _ h => hF _ h), hS1, hA⟩ L
  rw [show (rv.toList ++ st).map (ab_v ad') = (rv.map (ab_v ad')).toList ++ st.map (ab_v ad') by cases rv <;> rfl] at this
  exact this
end ABgen
