/-- THE LAW, from its entry -/
theorem whole_start {p : Program} {e : Env} {s : State} {m : MethodId} {below : List Frame} {meth : Method} {c : Code} (l : Launch) (hflags : l.flags = flags0) {b L : Nat} {xs : Nat → Int32} (hL : L ≤ 3072) (C0 : lw_At p s m meth c b L xs) : W p l e room_1 s m #[Value.ref b] below meth c s.heap [] 0 0 (lw_Z below #[Value.ref b] s) (entryFrame m ([Value.ref b] : List Value).toArray 8) := by
  obtain ⟨hx, hb, hr, hml, hown, hts, hX, hbl, hlocks, hgv⟩ := C0
  obtain ⟨D, ac, hK⟩ := st_K hts
  have hlt : l.stackTraces = false := by
    unfold Launch.stackTraces
    rw [hflags]
    decide +kernel
  have hE : EL b L xs l D ac 0 0 [] 0 [some (.ref 97), none, none, none, none, none, none, none] [] cm_0 := by
    refine law_pre ?_
    exact law_loop hlt hL (L + 1) 0 97 3181 cm_19 (by omega) (Nat.zero_le L) (by omega) (by omega) inv0
  have hl := lv_entry ([.ref b]) (n := 8) (Nat.le_of_ble_eq_true rfl)
  rw [lg_entry_eq]
  generalize (lg_sl ([.ref b]) ++ List.replicate (8 - (lg_sl ([.ref b])).length) Slot.unset).toArray = ls at hl ⊢
  refine hE p e s m #[.ref b] below meth c s.heap [] (fun q => s.heap.size ≤ q) (fun _ => b) ls ⟨hx, hb, hr, hml, hown, fun w h => hts w (List.mem_filter.mp h).1, hlocks, trivial, hK, st_N hts⟩ ⟨rfl, rfl, hX, hbl, rfl, st_X hts hgv⟩ ⟨fun k q h => (by cases h), ⟨fun i j p q h => (by cases h), fun k q h => (by cases h)⟩, va_S.rf, fun _ h => h⟩ ?_
  exact ab_L_entry (av := [.ref 97]) (ad := fun _ => b) (nL := 8) (by decide) rfl ls hl
