/-! THE LAW's START: what the tables say, the world that the constructors make, and the walk to the loop -/
set_option linter.unusedVariables false
theorem st_prim {args : Array Value} {s : State} {ty : FieldType} (h : (Cond.arrayClass ty).before args s = true) : ∃ c : ClassId, ArrOfT s c ty ∧ s.vm.findClass ("[" ++ ty.toString) = some c := by
  obtain ⟨c, k, comp, h1, h2, h3⟩ := Cond.arrayClass_spec h
  exact ⟨c, fun n z => ⟨fun k h => (by cases h), k, h2, comp, h3⟩, h1⟩
theorem st_objs {args : Array Value} {s : State} {C : String} (h : (Cond.arrayOver (.object C)).before args s = true) : ∃ c : ClassId, ArrOfT s c (.object C) ∧ va_RA s c (.object C) := by
  obtain ⟨comp, c, k, h1, -, h3, h4, h5⟩ := Cond.arrayOver_spec h
  exact ⟨c, fun n z => ⟨fun k h => (by cases h), k, h3, comp, h4⟩, k, comp, h3, h4, h1, h5⟩
theorem st_arrs {args : Array Value} {s : State} {t : FieldType} (h : (Cond.arrayOver (.array t)).before args s = true) : ∃ c : ClassId, ArrOfT s c (.array t) ∧ va_RA s c (.array t) := by
  obtain ⟨comp, c, k, -, h3, h4, h5⟩ := Cond.arrayOver_specA h
  exact ⟨c, fun n z => ⟨fun k h => (by cases h), k, h3, comp, h4⟩, h5⟩
theorem tb_mem {w : Cond} (i : Nat) (h : lw_tbl[i]? = some w) : w ∈ lw_tbl := List.mem_of_getElem? h
theorem st_str {args : Array Value} {s : State} {own tx : String} {k : Nat} (h1 : (Cond.stringRef own k tx).before args s = true) (h2 : (Cond.exactly (.string own k) "java/lang/String").before args s = true) : ∃ a, vk_R own k tx a s := by
  obtain ⟨a, c, cell, kk, q1, -⟩ := Cond.exactly_spec (args := args) (first := s) (o := none) (s := s) (idx := []) (t := .string own k) (cls := "java/lang/String") h2
  exact ⟨a, vk_R.of (A := args) h1 q1⟩
def gv1 : List Cond := flatC (Jvm.Cond.and given_1 narrow_1)
set_option maxRecDepth 20000 in
theorem tw_laysU : (Cond.laysStatic "java/lang/Throwable" "UNASSIGNED_STACK" "[Ljava/lang/StackTraceElement;") ∈ lw_tbl := tb_mem 178 (by decide +kernel)
set_option maxRecDepth 20000 in
theorem tw_laysS : (Cond.laysStatic "java/lang/Throwable" "SUPPRESSED_SENTINEL" "Ljava/util/List;") ∈ lw_tbl := tb_mem 180 (by decide +kernel)
set_option maxRecDepth 20000 in
theorem tw_castIO : (Cond.castable x_IO x_IO) ∈ lw_tbl := tb_mem 153 (by decide +kernel)
set_option maxRecDepth 20000 in
theorem tw_castIA : (Cond.castable x_IA x_IA) ∈ lw_tbl := tb_mem 224 (by decide +kernel)
set_option maxRecDepth 20000 in
theorem tw_castIS : (Cond.castable x_IS x_IS) ∈ lw_tbl := tb_mem 259 (by decide +kernel)
set_option maxRecDepth 20000 in
theorem tw_dR : (x_dcl "java/lang/RuntimeException") ∈ lw_tbl := tb_mem 155 (by decide +kernel)
set_option maxRecDepth 20000 in
theorem tw_dE : (x_dcl "java/lang/Exception") ∈ lw_tbl := tb_mem 157 (by decide +kernel)
set_option maxRecDepth 20000 in
theorem tw_dT : (x_dcl "java/lang/Throwable") ∈ lw_tbl := tb_mem 159 (by decide +kernel)
set_option maxRecDepth 20000 in
theorem tw_aoL : (Cond.arrayOver (.object "GlassLabels$Label")) ∈ lw_tbl := tb_mem 38 (by decide +kernel)
set_option maxRecDepth 20000 in
theorem tw_aoA : (Cond.arrayOver (.array .int)) ∈ lw_tbl := tb_mem 46 (by decide +kernel)
set_option maxRecDepth 20000 in
theorem tw_nest : (Cond.methodLinkNest RX2 36 yX0_init RX2) ∈ lw_tbl := tb_mem 59 (by decide +kernel)
set_option maxRecDepth 20000 in
theorem tw_s115 : (Cond.stringRef RX2 115 "no such ware") ∈ lw_tbl := tb_mem 192 (by decide +kernel)
set_option maxRecDepth 20000 in
theorem tw_s120 : (Cond.stringRef RX2 120 "out of range") ∈ lw_tbl := tb_mem 231 (by decide +kernel)
set_option maxRecDepth 20000 in
theorem tw_s54 : (Cond.stringRef RX2 54 "no room for another label") ∈ lw_tbl := tb_mem 266 (by decide +kernel)
set_option maxRecDepth 20000 in
theorem tw_s123 : (Cond.stringRef RX2 123 "no such label") ∈ lw_tbl := tb_mem 284 (by decide +kernel)
set_option maxRecDepth 20000 in
theorem tw_s66 : (Cond.stringRef RX2 66 "the label is for this ware") ∈ lw_tbl := tb_mem 285 (by decide +kernel)
set_option maxRecDepth 20000 in
theorem tw_s80 : (Cond.stringRef RX2 80 "the time would be too late") ∈ lw_tbl := tb_mem 314 (by decide +kernel)
set_option maxRecDepth 20000 in
theorem gv_isU : (Cond.isRef (.static "java/lang/Throwable" "UNASSIGNED_STACK" "[Ljava/lang/StackTraceElement;")) ∈ flatC (Jvm.Cond.and given_1 narrow_1) := by decide +kernel
set_option maxRecDepth 20000 in
theorem gv_isS : (Cond.isRef (.static "java/lang/Throwable" "SUPPRESSED_SENTINEL" "Ljava/util/List;")) ∈ flatC (Jvm.Cond.and given_1 narrow_1) := by decide +kernel
set_option maxRecDepth 20000 in
theorem gv_n1 : (Cond.not (.castable x_IA x_IO)) ∈ flatC (Jvm.Cond.and given_1 narrow_1) := by decide +kernel
set_option maxRecDepth 20000 in
theorem gv_n2 : (Cond.not (.castable x_IS x_IO)) ∈ flatC (Jvm.Cond.and given_1 narrow_1) := by decide +kernel
set_option maxRecDepth 20000 in
theorem gv_n3 : (Cond.not (.castable x_IS x_IA)) ∈ flatC (Jvm.Cond.and given_1 narrow_1) := by decide +kernel
set_option maxRecDepth 20000 in
theorem gv_e115 : (Cond.exactly (.string RX2 115) "java/lang/String") ∈ flatC (Jvm.Cond.and given_1 narrow_1) := by decide +kernel
set_option maxRecDepth 20000 in
theorem gv_e120 : (Cond.exactly (.string RX2 120) "java/lang/String") ∈ flatC (Jvm.Cond.and given_1 narrow_1) := by decide +kernel
set_option maxRecDepth 20000 in
theorem gv_e54 : (Cond.exactly (.string RX2 54) "java/lang/String") ∈ flatC (Jvm.Cond.and given_1 narrow_1) := by decide +kernel
set_option maxRecDepth 20000 in
theorem gv_e123 : (Cond.exactly (.string RX2 123) "java/lang/String") ∈ flatC (Jvm.Cond.and given_1 narrow_1) := by decide +kernel
set_option maxRecDepth 20000 in
theorem gv_e66 : (Cond.exactly (.string RX2 66) "java/lang/String") ∈ flatC (Jvm.Cond.and given_1 narrow_1) := by decide +kernel
set_option maxRecDepth 20000 in
theorem gv_e80 : (Cond.exactly (.string RX2 80) "java/lang/String") ∈ flatC (Jvm.Cond.and given_1 narrow_1) := by decide +kernel
set_option maxRecDepth 20000 in
/-- all that the tables and the Statement say, at the law's entry -/
theorem st_TB {args : Array Value} {s : State} (hts : ∀ w ∈ lw_tbl, w.before args s = true) (hgv : (Jvm.Cond.and given_1 narrow_1).before args s = true) : ∃ (D : va_G) (kc : Nat → ClassId), x_TB D kc (fun q : Nat => s.heap.size ≤ q) s s.heap := by
  have hg := flat_of_before _ hgv
  have ht : ∀ w ∈ gw, w.before args s = true := fun w hw => hts w (List.mem_filter.mp hw).1
  have hA : ∀ a : Nat, a < s.heap.size → ¬ (fun q : Nat => s.heap.size ≤ q) a := fun a h => Nat.not_le.mpr h
  obtain ⟨c0, i0, k0⟩ := u_known (C := RX0) (T := TX0) (N := 8) (n := 8) ht gwl_X0 (ht _ kw_58)
  obtain ⟨c1, i1, k1⟩ := u_known (C := RX1) (T := TX1) (N := 2) (n := 2) ht gwl_X1 (ht _ kw_40)
  obtain ⟨c2, i2, k2⟩ := u_known (C := RX2) (T := TX2) (N := 6) (n := 6) ht gwl_X2 (ht _ kw_30)
  obtain ⟨c3, i3, k3⟩ := u_known (C := RX3) (T := TX3) (N := 15) (n := 15) ht gwl_X3 (ht _ kw_410)
  obtain ⟨a0, p0, r0⟩ := st_prim (ht _ kw_57)
  obtain ⟨a1, p1, r1⟩ := st_prim (ht _ kw_581)
  obtain ⟨a2, p2, r2⟩ := st_objs (hts _ tw_aoL)
  obtain ⟨a3, p3, r3⟩ := st_arrs (hts _ tw_aoA)
  refine ⟨(fun k => if k = 0 then c0 else if k = 1 then c1 else if k = 2 then c2 else c3, fun k => if k = 0 then i0 else if k = 1 then i1 else if k = 2 then i2 else i3), fun k => if k = 0 then a0 else if k = 1 then a1 else if k = 2 then a2 else a3, ⟨?_, ?_⟩, ⟨vx_Zqof (hts _ tw_laysU) (ht _ kw_22) (hg _ gv_isU) hA, vx_Zqof (hts _ tw_laysS) (ht _ kw_22) (hg _ gv_isS) hA⟩, ⟨hts _ tw_castIO, hts _ tw_castIA, hts _ tw_castIS⟩,
    ⟨va_Nc.of (hg _ gv_n1), va_Nc.of (hg _ gv_n2), va_Nc.of (hg _ gv_n3), hts _ tw_dR, hts _ tw_dE, hts _ tw_dT, va_AO.of (hts _ tw_aoL), hts _ tw_aoA, hts _ tw_nest⟩,
    st_str (hts _ tw_s115) (hg _ gv_e115), st_str (hts _ tw_s120) (hg _ gv_e120), st_str (hts _ tw_s54) (hg _ gv_e54), st_str (hts _ tw_s123) (hg _ gv_e123), st_str (hts _ tw_s66) (hg _ gv_e66), st_str (hts _ tw_s80) (hg _ gv_e80)⟩
  · intro k q hq
    match k, hq with
    | 0, hq => cases hq; exact k0
    | 1, hq => cases hq; exact k1
    | 2, hq => cases hq; exact k2
    | 3, hq => cases hq; exact k3
    | k + 4, hq => simp [vwCl] at hq
  · intro k q hq
    match k, hq with
    | 0, hq => cases hq; exact ⟨p0, r0⟩
    | 1, hq => cases hq; exact ⟨p1, r1⟩
    | 2, hq => cases hq; exact ⟨p2, r2⟩
    | 3, hq => cases hq; exact ⟨p3, r3⟩
    | k + 4, hq => simp [x_tys] at hq
