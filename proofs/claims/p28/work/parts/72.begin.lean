/-! the law out of its loop -/
theorem whole_of {p : Program} {e : Env} {s : State} {m : MethodId} {below : List Frame} {meth : Method} {c : Code} (l : Launch) {b L : Nat} {xs : Nat → Int32} (C0 : lw_At p s m meth c b L xs)
    (hloop : ∀ (D : va_G) (C : Nat → ClassId) (T : Nat → Nat) (ad : Int → Nat) (nm : String), AW l RL nm code 5 ret (fun _ => True) room_1 (lawE b) D (tyC C) (lawZ b L xs T) [] 8 [(0, .ref b), (1, .ref (ad 102))] [] (cw ad C iniG) 108 2142) :
    W p l e room_1 s m #[Value.ref b] below meth c s.heap [] 0 0 (lw_Z below #[Value.ref b] s) (entryFrame m ([Value.ref b] : List Value).toArray 5) := by
  obtain ⟨hx, hb, hr, hml, hown, hts, hX, hbl, hlk, hg⟩ := C0
  obtain ⟨T, hZ⟩ := st_Z hts hg
  obtain ⟨-, -, D, C, hK⟩ := st_K hts
  have w := law_pre (nm := meth.name) (E := lawE b) (b := b) (L := L) (xs := xs) (T := T) (D := D) (C := C) (X := fun _ => True) (l := l) (fun ad => hloop D C T ad meth.name)
  rw [lg_entry_eq]
  have w2 := w p e s m #[Value.ref b] below meth c ⟨hx, hb, hml, hown, fun w hw => hts w (List.mem_filter.mp hw).1, hr, hlk, rfl, trivial⟩ hK ⟨hZ, hX, hbl⟩ s.heap [] _ (fun k q h => by simp at h) ⟨fun i j p q h => by simp at h, fun k q h => by simp at h⟩ va_S.rf (lv_entry (n := 5) [Value.ref b] (Nat.le_of_ble_eq_true rfl))
  intro T9 hT9 X9
  obtain ⟨t, a1, b1⟩ := w2 T9 hT9 X9
  exact ⟨t, a1, b1 rfl⟩
