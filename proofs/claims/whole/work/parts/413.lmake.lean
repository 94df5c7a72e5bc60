/-! the law's makings -/
section ABlmake
variable {b L : Nat} {xs : Nat → Int32} {l : Launch} {D : va_G} {ac : Nat → ClassId} {k n : Nat} {sh sh1 : ab_H} {pc : Nat} {lv lv' : List (Option Value)} {st : List Value} {M : ab_M}
def ab_okq (n : Nat) (v : Value) : Bool := match v with
  | .ref i => decide (i < n) || decide (i = 97)
  | _ => true
def ab_oklq (n : Nat) (lv : List (Option Value)) : Bool := lv.all (fun o => match o with
  | some v => ab_okq n v
  | none => true)
theorem ab_okq_eq {n : Nat} {ad ad' : Nat → Nat} {v : Value} (h : ab_okq n v = true) (ha : ∀ i, i < n ∨ i = 97 → ad' i = ad i) : ab_v ad' v = ab_v ad v := by
  cases v with
  | ref i => show Value.ref (ad' i) = Value.ref (ad i); rw [ha i (by simpa [ab_okq] using h)]
  | _ => rfl
theorem ab_oksq_eq {n : Nat} {ad ad' : Nat → Nat} {st : List Value} (h : st.all (ab_okq n) = true) (ha : ∀ i, i < n ∨ i = 97 → ad' i = ad i) : st.map (ab_v ad') = st.map (ab_v ad) := List.map_congr_left (fun v hv => ab_okq_eq (List.all_eq_true.mp h v hv) ha)
theorem ab_oklq_L {n : Nat} {ad ad' : Nat → Nat} {ls : Array Slot} {nL : Nat} {lv : List (Option Value)} (h : ab_oklq n lv = true) (ha : ∀ i, i < n ∨ i = 97 → ad' i = ad i) (L : ab_L ad ls nL lv) : ab_L ad' ls nL lv := by
  refine ⟨L.1, L.2.1, L.2.2.1, fun i v hi => ?_⟩
  have := List.all_eq_true.mp h (some v) (List.mem_of_getElem? hi)
  rw [ab_okq_eq this ha]
  exact L.2.2.2 i v hi
/-- goes on with other addresses -/
theorem el_cont {st1 : List Value} {M1 : ab_M} {pc1 nb : Nat} (kk : EL b L xs l D ac k n sh1 pc1 lv st1 M1) (hlv : ab_oklq nb lv = true) {p : Program} {e : Env} {s : State} {m : MethodId} {args : Array Value} {below : List Frame} {meth : Method} {c : Code} {H : Heap} {locs : List Loc} {A : Nat → Prop} {ad ad1 : Nat → Nat} {ls : Array Slot} (hag : ∀ i, i < nb ∨ i = 97 → ad1 i = ad i) (C : ab_Cg D ac me_L_law p s m args meth c) (y : Yl b L xs args s c A ad) (S : ab_St D ac A s ad1 sh1 M1 H locs) (Lc : ab_L ad ls 8 lv) : W p l e room_1 s m args below meth c H locs k n (Zl below args s A ad) (F0 m pc1 ls (st1.map (ab_v ad1))) := by
  obtain ⟨ya, yb, yr⟩ := y
  exact kk p e s m args below meth c H locs A ad1 ls C ⟨ya, (hag 97 (Or.inr rfl)).trans yb, yr⟩ S (ab_oklq_L hlv hag Lc)
theorem el_new {idx ci nf : Nat} (hC : ab_NC RL idx ci nf) (hclo : ab_clo sh.length sh = true) (hz : ab_z M sh.length) (hs1 : sh ++ [(ci, nf, List.replicate nf none)] = sh1) (h97 : sh.length ≠ 97) (hlv : ab_oklq sh.length lv = true) (hst : st.all (ab_okq sh.length) = true) (hk : k + 1 ≤ 601024) (hn : n + nf ≤ 7293034) (hd : decode cL_law pc = .ok (.new idx, 3)) (kk : EL b L xs l D ac (k + 1) (n + nf) sh1 (pc + 3) lv (.ref sh.length :: st) M) : EL b L xs l D ac k n sh pc lv st M := by
  intro p e s m args below meth c H locs A ad ls C y S Lc
  obtain ⟨hx, hb, hrt, hml, hown, hts, hlk, hnm, hK, hN⟩ := id C
  obtain ⟨hP, hD, hS, hA⟩ := S
  obtain ⟨Cn, T, ty0, hc, hin, hty, hdf, hcl, hins, hini, hci⟩ := hC
  refine va_new (fs := (List.range nf).map (fun j => if ab_isR ci j = true then .null else .int 0)) hx hb hts hin ty0 hty hown (hts _ hcl) (hts _ hins) (hts _ hini) hK hP hD hS hA hc (fun j hj => ?_) hk hn hd (fun q H1 hP hD hS => ?_)
  · rw [hdf j hj]
    simp [vp_V, hj]
  · have ha : ∀ i, i < sh.length ∨ i = 97 → (fun i => if i = sh.length then q else ad i) i = ad i := fun i hi => if_neg (by omega)
    have he := ab_W_app (ac := ac) (M := M) (ad := ad) (q := q) (x := (ci, nf, List.replicate nf none)) (cv := .inr (ci, (List.range nf).map (fun j => if ab_isR ci j = true then .null else .int 0))) hclo (by
      rw [ab_cell_obj hci]
      refine congrArg (fun f => (Sum.inr (ci, f) : va_E)) ?_
      refine List.map_congr_left (fun j hj => ?_)
      have hj := List.mem_range.mp hj
      unfold ab_fv
      by_cases hr : ab_isR ci j = true
      · rw [if_pos hr, if_pos hr]
        show va_rf (((List.replicate nf none).getD j none).map _) = _
        rw [List.getD_eq_getElem?_getD, List.getElem?_replicate, if_pos hj]
        rfl
      · rw [if_neg hr, if_neg hr, (hz _ (Nat.le_refl _) j).1])
    rw [← he] at hP hD
    subst hs1
    have := el_cont kk hlv ha C y ⟨hP, hD, hS, hA⟩ Lc (below := below) (e := e)
    rw [List.map_cons, ab_oksq_eq hst ha, show ab_v (fun i => if i = sh.length then q else ad i) (.ref sh.length) = .ref q by simp [ab_v]] at this
    exact this
theorem el_newal {N : Nat} {x : Int32} (hx0 : ¬ x < 0) (hxN : x.toNatClampNeg = N) (hb1 : N * componentBytes .long ≤ 536870912) (hclo : ab_clo sh.length sh = true) (hz : ab_z M sh.length) (hs1 : sh ++ [(102, N, [])] = sh1) (h97 : sh.length ≠ 97) (hlv : ab_oklq sh.length lv = true) (hst : st.all (ab_okq sh.length) = true) (hk : k + 1 ≤ 601024) (hn : n + N ≤ 7293034) (hd : decode cL_law pc = .ok (.newarray .long, 2)) (kk : EL b L xs l D ac (k + 1) (n + N) sh1 (pc + 2) lv (.ref sh.length :: st) M) : EL b L xs l D ac k n sh pc lv (.int x :: st) M := by
  intro p e s m args below meth c H locs A ad ls C y S Lc
  obtain ⟨hx, hb, hrt, hml, hown, hts, hlk, hnm, hK, hN⟩ := id C
  obtain ⟨hP, hD, hS, hA⟩ := S
  refine va_newa (atype := .long) (a0 := (N, .inr (.inl (fun _ => 0)))) hx hb (hts _ gA_long) rfl hK hP hD hS hA (fun cA => rfl) hx0 hxN hb1 hk hn hd (fun q cA H1 hK1 hP hD hS => ?_)
  have e1 : cA = ac 102 := by
    have h1 := (hK1.2 5 (cA, .long) rfl).2
    have h2 := (hK.2 2 (ac 102, .long) rfl).2
    exact Option.some.inj (h1.symm.trans h2)
  subst e1
  have ha : ∀ i, i < sh.length ∨ i = 97 → (fun i => if i = sh.length then q else ad i) i = ad i := fun i hi => if_neg (by omega)
  have he := ab_W_app (ac := ac) (M := M) (ad := ad) (q := q) (x := (102, N, [])) (cv := .inl (ac 102, (N, .inr (.inl (fun _ => 0))))) hclo (by rw [ab_cl, show M.2 sh.length = fun _ => 0 from funext fun j => (hz _ (Nat.le_refl _) j).2])
  rw [← he] at hP hD
  subst hs1
  have := el_cont kk hlv ha C y ⟨hP, hD, hS, hA⟩ Lc (below := below) (e := e)
  rw [List.map_cons, ab_oksq_eq hst ha, show ab_v (fun i => if i = sh.length then q else ad i) (.ref sh.length) = .ref q by simp [ab_v]] at this
  exact this
theorem el_callI {me' : ab_Me} {d' idx o mc' ms' : Nat} {as sk : List Value} {M' : ab_M} (hc : ab_Con l D ac d' me' mc' ms' (.ref o :: as) sh M (none, sh1, M')) (hm : ab_MI me' as.length) (hl : Cond.methodLink RL idx me'.1 ∈ ab_G) (hd : decode cL_law pc = .ok (.invokespecial idx, 3)) (hdd : d' ≤ 20) (hk1 : sk = as.reverse ++ .ref o :: st) (hst : (st.map fun v => v.category).sum ≤ 8) (hkn : k + mc' ≤ 601024 ∧ n + ms' ≤ 7293034) (hclo : ab_clo sh1.length sh1 = true) (h97 : sh1.length ≤ 97) (hls : sh.length ≤ sh1.length) (hlv : ab_oklq sh.length lv = true) (hsk : st.all (ab_okq sh.length) = true)
    (kk : EL b L xs l D ac (k + mc') (n + ms') sh1 (pc + 3) lv st M') : EL b L xs l D ac k n sh pc lv sk M := by
  intro p e s m args below meth c H locs A ad ls C y S Lc
  obtain ⟨hx, hb, hrt, hml, hown, hts, hlk, hnm, hK, hN⟩ := id C
  obtain ⟨hP, hD, hS, hA⟩ := S
  obtain ⟨h1, h2, h3, h4, h5, h6, h7⟩ := hm
  have hF := ab_freeW hD hS hA
  have hG : GoodIn ab_G (ab_ws me') := ab_goodG (by rw [h2]; exact h1)
  have hws : ab_ws me' = Cond.code me'.1 me'.2.2.1 me'.2.2.2.1 none :: ab_G := by unfold ab_ws; rw [h2]
  have hpre : PreS s H (va_Pc ((.ref o :: as).map (ab_v ad)) (fun U => U.heap.size = H.size ∧ va_P D vwCl (ab_W ac ad sh M) U.heap ∧ va_K D vwCl (ab_tys ac) U ∧ va_D (fun _ => True) (ab_W ac ad sh M) ∧ ab_N U)) (.ref (ad o) :: as.map (ab_v ad)) := ⟨ab_blind, fun U hU hW => ⟨rfl, by rw [hU], by rw [hU]; exact hP, va_K.moved hW.alike hK, hD.weaken (fun _ _ _ _ => trivial), ab_N.warm hW hN⟩⟩
  have hroom : (ab_rm d' mc' ms').frames + 1 ≤ room_1.frames ∧ 8 + (me'.2.2.2.1 + 11) + (ab_rm d' mc' ms').locals ≤ room_1.locals := ⟨by show d' + 1 ≤ 2048; omega, by show 8 + (me'.2.2.2.1 + 11) + 48 * d' ≤ 84000; omega⟩
  refine ab_callW (va_runI (As := as.map (ab_v ad)) (rest := st.map (ab_v ad)) (b := ad o) ⟨hx, hb, hml, hown, hts⟩ (hc ad H.size) (cwI as.length hts hG hws rfl rfl (hts _ h4) (hts _ hl) (hts _ h3) h7 h5 hroom) hpre rfl (by simp) Lc.1 (by subst hk1; simp [ab_v]) (lv_room (by rw [ab_vcs]; exact hst)) hd hkn) hS (fun q _ h => hF q h) hF (fun ad' t H1 locs1 ht hvm ha1 ha2 hP1 hD1 hz hk hS1 => ?_)
  have hw : ab_W ac (fun i => if i < sh1.length then ad' i else ad i) sh1 M' = ab_W ac ad' sh1 M' := ab_W_ad (n := sh1.length) hclo (Nat.le_refl _) (fun i hi => if_pos hi)
  have ha : ∀ i, i < sh.length ∨ i = 97 → (fun i => if i < sh1.length then ad' i else ad i) i = ad i := by
    intro i hi
    show (if i < sh1.length then ad' i else ad i) = ad i
    by_cases q : i < sh1.length
    · rw [if_pos q]
      rcases hi with hi | hi
      · exact ha1 i hi
      · omega
    · rw [if_neg q]
  have hP2 : va_P D vwCl (ab_W ac (fun i => if i < sh1.length then ad' i else ad i) sh1 M') H1 := by rw [hw]; exact hP1
  have hD2 : va_D A (ab_W ac (fun i => if i < sh1.length then ad' i else ad i) sh1 M') := by rw [hw]; exact hD1.weaken (fun _ _ _ h => hF _ h)
  have := el_cont kk hlv ha C y ⟨hP2, hD2, hS1, hA⟩ Lc (below := below) (e := e)
  rw [ab_oksq_eq hsk ha] at this
  exact this
end ABlmake
