/-- from the entry, for every script of at most 260 ints, the law comes to its end with true -/
theorem whole_start {p : Program} {e : Env} {s : State} {m : MethodId} {below : List Frame} {meth : Method} {c : Code} (l : Launch) (hflags : l.flags = flags0) {b L : Nat} {xs : Nat → Int32} (hL : L ≤ 260) (C0 : lw_At p s m meth c b L xs) : W p l e room_1 s m #[Value.ref b] below meth c s.heap [] 0 0 (lw_Z below #[Value.ref b] s) (entryFrame m ([Value.ref b] : List Value).toArray 7) := by
  obtain ⟨hx, hb, hr, hml, hown, hts, hX, hbl, hlocks, hgv⟩ := C0
  obtain ⟨D, kc, TB⟩ := st_TB hts
  have k := law_body (e := e) (l := l) (below := below) (A := fun q : Nat => s.heap.size ≤ q) ⟨hx, hb, hml, hown, fun w hw => hts w (List.mem_filter.mp hw).1⟩ TB (fun _ h => h) hX hbl (Nat.not_le.mpr hbl) hL (fun _ h => h) hr hlocks
  rw [lg_entry_eq]
  exact k s.heap [] _ (fun k q h => by simp at h) ⟨fun i j p q h => by simp at h, fun k q h => by simp at h⟩ va_S.rf (x_lh_entry [.ref b] (Nat.le_of_ble_eq_true rfl) (fun v hv => by rw [List.mem_singleton.mp hv]; rfl))
