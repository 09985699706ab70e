/-! THE LAW's START: what the tables say, the world that the constructor makes -/
theorem st_prim {args : Array Value} {s : State} {ty : FieldType} (h : (Cond.arrayClass ty).before args s = true) : ∃ c : ClassId, ArrOfT s c ty ∧ s.vm.findClass ("[" ++ ty.toString) = some c := by
  obtain ⟨c, k, comp, h1, h2, h3⟩ := Cond.arrayClass_spec h
  exact ⟨c, fun n z => ⟨fun k h => (by cases h), k, h2, comp, h3⟩, h1⟩
theorem st_objs {args : Array Value} {s : State} {C : String} (h : (Cond.arrayOver (.object C)).before args s = true) : ∃ c : ClassId, ArrOfT s c (.object C) ∧ va_RA s c (.object C) := by
  obtain ⟨comp, c, k, h1, -, h3, h4, h5⟩ := Cond.arrayOver_spec h
  exact ⟨c, fun n z => ⟨fun k h => (by cases h), k, h3, comp, h4⟩, k, comp, h3, h4, h1, h5⟩
theorem st_arrs {args : Array Value} {s : State} {t : FieldType} (h : (Cond.arrayOver (.array t)).before args s = true) : ∃ c : ClassId, ArrOfT s c (.array t) ∧ va_RA s c (.array t) := by
  obtain ⟨comp, c, k, -, h3, h4, h5⟩ := Cond.arrayOver_specA h
  exact ⟨c, fun n z => ⟨fun k h => (by cases h), k, h3, comp, h4⟩, h5⟩
theorem tb_mem {w : Cond} (i : Nat) (h : lw_tbl[i]? = some w) : w ∈ lw_tbl := List.mem_of_getElem? h
set_option maxRecDepth 20000 in
theorem tw_aoL : (Cond.arrayOver (.object "GlassLabels$Label")) ∈ lw_tbl := tb_mem 29 (by decide +kernel)
set_option maxRecDepth 20000 in
theorem tw_aoA : (Cond.arrayOver (.array .int)) ∈ lw_tbl := tb_mem 37 (by decide +kernel)
set_option maxRecDepth 20000 in
theorem tw_nest : (Cond.methodLinkNest RX2 36 yX0_init RX2) ∈ lw_tbl := tb_mem 50 (by decide +kernel)
set_option maxRecDepth 20000 in
/-- all that the tables say, at the law's entry -/
theorem st_TB {args : Array Value} {s : State} (hts : ∀ w ∈ lw_tbl, w.before args s = true) : ∃ (D : va_G) (kc : Nat → ClassId), x_TB D kc s := by
  have ht : ∀ w ∈ gw, w.before args s = true := fun w hw => hts w (List.mem_filter.mp hw).1
  obtain ⟨c0, i0, k0⟩ := u_known (C := RX0) (T := TX0) (N := 8) (n := 8) ht gwl_X0 (ht _ kw_49)
  obtain ⟨c1, i1, k1⟩ := u_known (C := RX1) (T := TX1) (N := 2) (n := 2) ht gwl_X1 (ht _ kw_31)
  obtain ⟨c2, i2, k2⟩ := u_known (C := RX2) (T := TX2) (N := 6) (n := 6) ht gwl_X2 (ht _ kw_21)
  obtain ⟨a0, p0, r0⟩ := st_prim (ht _ kw_48)
  obtain ⟨a1, p1, r1⟩ := st_prim (ht _ kw_380)
  obtain ⟨a2, p2, r2⟩ := st_objs (hts _ tw_aoL)
  obtain ⟨a3, p3, r3⟩ := st_arrs (hts _ tw_aoA)
  refine ⟨(fun k => if k = 0 then c0 else if k = 1 then c1 else c2, fun k => if k = 0 then i0 else if k = 1 then i1 else i2), fun k => if k = 0 then a0 else if k = 1 then a1 else if k = 2 then a2 else a3, ⟨?_, ?_⟩, va_AO.of (hts _ tw_aoL), hts _ tw_aoA, hts _ tw_nest⟩
  · intro k q hq
    match k, hq with
    | 0, hq => cases hq; exact k0
    | 1, hq => cases hq; exact k1
    | 2, hq => cases hq; exact k2
    | k + 3, hq => simp [vwCl] at hq
  · intro k q hq
    match k, hq with
    | 0, hq => cases hq; exact ⟨p0, r0⟩
    | 1, hq => cases hq; exact ⟨p1, r1⟩
    | 2, hq => cases hq; exact ⟨p2, r2⟩
    | 3, hq => cases hq; exact ⟨p3, r3⟩
    | k + 4, hq => simp [x_tys] at hq
