/-! rows that read and write the cells of a list ws; then the world of the claim: its cells, what each holds (ct), the list (wl), and a row for each field and array of it -/
theorem gwl_X0 : ∀ w ∈ u_ws RX0 TX0 8, w ∈ gw := by
  intro w hw
  obtain ⟨k, hk, rfl⟩ := List.mem_map.mp hw
  have hk := List.mem_range.mp hk
  match k, hk with
  | 0, _ => exact kw_70
  | 1, _ => exact kw_72
  | 2, _ => exact kw_74
  | 3, _ => exact kw_76
  | 4, _ => exact kw_78
  | 5, _ => exact kw_80
  | 6, _ => exact kw_82
  | 7, _ => exact kw_84
  | k + 8, h => exact absurd h (by omega)
theorem gwl_X1 : ∀ w ∈ u_ws RX1 TX1 2, w ∈ gw := by
  intro w hw
  obtain ⟨k, hk, rfl⟩ := List.mem_map.mp hw
  have hk := List.mem_range.mp hk
  match k, hk with
  | 0, _ => exact kw_43
  | 1, _ => exact kw_45
  | k + 2, h => exact absurd h (by omega)
theorem gwl_X2 : ∀ w ∈ u_ws RX2 TX2 6, w ∈ gw := by
  intro w hw
  obtain ⟨k, hk, rfl⟩ := List.mem_map.mp hw
  have hk := List.mem_range.mp hk
  match k, hk with
  | 0, _ => exact kw_93
  | 1, _ => exact kw_95
  | 2, _ => exact kw_97
  | 3, _ => exact kw_99
  | 4, _ => exact kw_101
  | 5, _ => exact kw_103
  | k + 6, h => exact absurd h (by omega)
section XH
variable {p : Program} {l : Launch} {e : Env} {R : Room} {s : State} {m : MethodId} {args : Array Value} {below : List Frame} {meth : Method} {c : Code} {D : va_G} {A : Nat → Prop} {nL cells slots : Nat} {Q : State → Prop}
variable {cc : ByteArray} {own : String} {ws w2 : va_W} {pc : Nat} {ls : List (Option Value)} {st : List Value} {kc : Nat → ClassId}
theorem x_get0 (M : CallFix p m c cc nL s args gw own) (TB : x_TB D kc s) (k : Nat) {a q0 index : Nat} {fs : List Value} {v : Value} (he : ws[q0]? = some (a, .inr (0, fs))) (hk : k < 8) (hv : fs[k]? = some v) (hlk : Cond.fieldLink own index (TX0 k).1 (TX0 k).2.1 (TX0 k).2.2.1 ∈ gw) (hdg : decode cc pc = .ok (.getfield index, 3))
    (kk : x_X p l e R s m args below meth c D A nL cells slots Q ws (pc + 3) ls (v :: st)) : x_X p l e R s m args below meth c D A nL cells slots Q ws pc ls (.ref a :: st) := fun H locs la hP hD hS hl =>
  va_get (D := D) (ci := 0) (v := v) (C := RX0) (T := TX0) (N := 8) M.1 M.2.1 M.2.2.2.2 gwl_X0 M.2.2.2.1 TB.1 hP q0 he rfl k hk (M.2.2.2.2 _ hlk) (fun _ h9 => h9) hv hdg (kk H locs la hP hD hS hl)
theorem x_put0 (M : CallFix p m c cc nL s args gw own) (TB : x_TB D kc s) (k : Nat) {a q0 index : Nat} {fs : List Value} {x : Int32} (he : ws[q0]? = some (a, .inr (0, fs))) (hk : k < 8) (hl : k < fs.length) (hfin : (TX0 k).2.2.2 = false) (hd : parseFieldDescriptor (TX0 k).2.2.1 = some .int) (hlk : Cond.fieldLink own index (TX0 k).1 (TX0 k).2.1 (TX0 k).2.2.1 ∈ gw) (hdg : decode cc pc = .ok (.putfield index, 3))
    (kk : x_X p l e R s m args below meth c D A nL cells slots Q (ws.set q0 (a, .inr (0, fs.set k (.int x)))) (pc + 3) ls st) : x_X p l e R s m args below meth c D A nL cells slots Q ws pc ls (.int x :: .ref a :: st) := fun H locs la hP hD hS hlh =>
  va_put (D := D) (ci := 0) (v := .int x) (ty := .int) (C := RX0) (T := TX0) (N := 8) M.1 M.2.1 M.2.2.2.2 gwl_X0 tyX0 tyX0_ok nmX0 M.2.2.2.1 TB.1 hP hD hS q0 he rfl k hk (M.2.2.2.2 _ hlk) (fun _ h9 => h9) hfin hd rfl rfl hl hdg (fun H1 locs1 hP1 hD1 hS1 => kk H1 locs1 la hP1 hD1 hS1 hlh)
theorem x_get1 (M : CallFix p m c cc nL s args gw own) (TB : x_TB D kc s) (k : Nat) {a q0 index : Nat} {fs : List Value} {v : Value} (he : ws[q0]? = some (a, .inr (1, fs))) (hk : k < 2) (hv : fs[k]? = some v) (hlk : Cond.fieldLink own index (TX1 k).1 (TX1 k).2.1 (TX1 k).2.2.1 ∈ gw) (hdg : decode cc pc = .ok (.getfield index, 3))
    (kk : x_X p l e R s m args below meth c D A nL cells slots Q ws (pc + 3) ls (v :: st)) : x_X p l e R s m args below meth c D A nL cells slots Q ws pc ls (.ref a :: st) := fun H locs la hP hD hS hl =>
  va_get (D := D) (ci := 1) (v := v) (C := RX1) (T := TX1) (N := 2) M.1 M.2.1 M.2.2.2.2 gwl_X1 M.2.2.2.1 TB.1 hP q0 he rfl k hk (M.2.2.2.2 _ hlk) (fun _ h9 => h9) hv hdg (kk H locs la hP hD hS hl)
theorem x_get2 (M : CallFix p m c cc nL s args gw own) (TB : x_TB D kc s) (k : Nat) {a q0 index : Nat} {fs : List Value} {v : Value} (he : ws[q0]? = some (a, .inr (2, fs))) (hk : k < 6) (hv : fs[k]? = some v) (hlk : Cond.fieldLink own index (TX2 k).1 (TX2 k).2.1 (TX2 k).2.2.1 ∈ gw) (hdg : decode cc pc = .ok (.getfield index, 3))
    (kk : x_X p l e R s m args below meth c D A nL cells slots Q ws (pc + 3) ls (v :: st)) : x_X p l e R s m args below meth c D A nL cells slots Q ws pc ls (.ref a :: st) := fun H locs la hP hD hS hl =>
  va_get (D := D) (ci := 2) (v := v) (C := RX2) (T := TX2) (N := 6) M.1 M.2.1 M.2.2.2.2 gwl_X2 M.2.2.2.1 TB.1 hP q0 he rfl k hk (M.2.2.2.2 _ hlk) (fun _ h9 => h9) hv hdg (kk H locs la hP hD hS hl)
theorem x_put2 (M : CallFix p m c cc nL s args gw own) (TB : x_TB D kc s) (k : Nat) {a q0 index : Nat} {fs : List Value} {x : Int32} (he : ws[q0]? = some (a, .inr (2, fs))) (hk : k < 6) (hl : k < fs.length) (hfin : (TX2 k).2.2.2 = false) (hd : parseFieldDescriptor (TX2 k).2.2.1 = some .int) (hlk : Cond.fieldLink own index (TX2 k).1 (TX2 k).2.1 (TX2 k).2.2.1 ∈ gw) (hdg : decode cc pc = .ok (.putfield index, 3))
    (kk : x_X p l e R s m args below meth c D A nL cells slots Q (ws.set q0 (a, .inr (2, fs.set k (.int x)))) (pc + 3) ls st) : x_X p l e R s m args below meth c D A nL cells slots Q ws pc ls (.int x :: .ref a :: st) := fun H locs la hP hD hS hlh =>
  va_put (D := D) (ci := 2) (v := .int x) (ty := .int) (C := RX2) (T := TX2) (N := 6) M.1 M.2.1 M.2.2.2.2 gwl_X2 tyX2 tyX2_ok nmX2 M.2.2.2.1 TB.1 hP hD hS q0 he rfl k hk (M.2.2.2.2 _ hlk) (fun _ h9 => h9) hfin hd rfl rfl hl hdg (fun H1 locs1 hP1 hD1 hS1 => kk H1 locs1 la hP1 hD1 hS1 hlh)
theorem x_iald (M : CallFix p m c cc nL s args gw own) (TB : x_TB D kc s) {a q0 n j : Nat} {f : Nat → Int32} (ha : ws[q0]? = some (a, .inl (kc 0, n, .inl f))) (hj : j < n) (hn : n < 2 ^ 31) (hdg : decode cc pc = .ok (.iaload, 1))
    (kk : x_X p l e R s m args below meth c D A nL cells slots Q ws (pc + 1) ls (.int (f j) :: st)) : x_X p l e R s m args below meth c D A nL cells slots Q ws pc ls (.int (nI j) :: .ref a :: st) := fun H locs la hP hD hS hl =>
  va_iald M.1 M.2.1 TB.1 hP q0 0 ha rfl (vp_in_nI hj hn) hdg (by rw [nI_clamp (by omega)]; exact kk H locs la hP hD hS hl)
theorem x_iast (M : CallFix p m c cc nL s args gw own) (TB : x_TB D kc s) {a q0 n j : Nat} {f : Nat → Int32} {x : Int32} (ha : ws[q0]? = some (a, .inl (kc 0, n, .inl f))) (hj : j < n) (hn : n < 2 ^ 31) (hdg : decode cc pc = .ok (.iastore, 1))
    (kk : x_X p l e R s m args below meth c D A nL cells slots Q (ws.set q0 (a, .inl (kc 0, n, .inl (upd f j x)))) (pc + 1) ls st) : x_X p l e R s m args below meth c D A nL cells slots Q ws pc ls (.int x :: .int (nI j) :: .ref a :: st) := fun H locs la hP hD hS hl =>
  va_iast M.1 M.2.1 TB.1 hP hD hS q0 0 ha rfl (vp_in_nI hj hn) hdg (fun H1 locs1 hP1 hD1 hS1 => by rw [nI_clamp (by omega)] at hP1 hD1; exact kk H1 locs1 la hP1 hD1 hS1 hl)
theorem x_lald (M : CallFix p m c cc nL s args gw own) (TB : x_TB D kc s) {a q0 n j : Nat} {f : Nat → Int64} (ha : ws[q0]? = some (a, .inl (kc 1, n, .inr (.inl f)))) (hj : j < n) (hn : n < 2 ^ 31) (hdg : decode cc pc = .ok (.laload, 1))
    (kk : x_X p l e R s m args below meth c D A nL cells slots Q ws (pc + 1) ls (.long (f j) :: st)) : x_X p l e R s m args below meth c D A nL cells slots Q ws pc ls (.int (nI j) :: .ref a :: st) := fun H locs la hP hD hS hl =>
  va_lald M.1 M.2.1 TB.1 hP q0 1 ha rfl (vp_in_nI hj hn) hdg (by rw [nI_clamp (by omega)]; exact kk H locs la hP hD hS hl)
theorem x_last (M : CallFix p m c cc nL s args gw own) (TB : x_TB D kc s) {a q0 n j : Nat} {f : Nat → Int64} {x : Int64} (ha : ws[q0]? = some (a, .inl (kc 1, n, .inr (.inl f)))) (hj : j < n) (hn : n < 2 ^ 31) (hdg : decode cc pc = .ok (.lastore, 1))
    (kk : x_X p l e R s m args below meth c D A nL cells slots Q (ws.set q0 (a, .inl (kc 1, n, .inr (.inl (vp_updL f j x))))) (pc + 1) ls st) : x_X p l e R s m args below meth c D A nL cells slots Q ws pc ls (.long x :: .int (nI j) :: .ref a :: st) := fun H locs la hP hD hS hl =>
  va_last M.1 M.2.1 TB.1 hP hD hS q0 1 ha rfl (vp_in_nI hj hn) hdg (fun H1 locs1 hP1 hD1 hS1 => by rw [nI_clamp (by omega)] at hP1 hD1; exact kk H1 locs1 la hP1 hD1 hS1 hl)
theorem x_aald (M : CallFix p m c cc nL s args gw own) (TB : x_TB D kc s) {a q0 n j t0 : Nat} {f : Nat → Option Nat} {cA : ClassId} {ty : FieldType} (ha : ws[q0]? = some (a, .inl (cA, n, .inr (.inr (.inr (.inr f)))))) (ht : (x_tys kc)[t0]? = some (cA, ty)) (hty : ty.isReference = true) (hj : j < n) (hn : n < 2 ^ 31) (hdg : decode cc pc = .ok (.aaload, 1))
    (kk : x_X p l e R s m args below meth c D A nL cells slots Q ws (pc + 1) ls (va_rf (f j) :: st)) : x_X p l e R s m args below meth c D A nL cells slots Q ws pc ls (.int (nI j) :: .ref a :: st) := fun H locs la hP hD hS hl => by
  have hin : vp_in (nI j) n := vp_in_nI hj hn
  have hcl : (nI j).toNatClampNeg = j := nI_clamp (by omega)
  exact W.aald (v := va_rf (f j)) (ty := ty) M.1 M.2.1 (hP q0 _ ha) ((TB.1.2 t0 _ ht).1 n (fun j => va_rf (f j))) hty (fun q => by cases q) (by show ¬ (nI j < 0 ∨ (arrV _ _ _).slots.size ≤ _); rw [arrV_size]; exact hin) (by show (arrV _ _ _).slots[_]? = _; rw [hcl, arrV_read _ _ hj]) rfl rfl hdg (kk H locs la hP hD hS hl)
theorem x_alen (M : CallFix p m c cc nL s args gw own) (TB : x_TB D kc s) {a q0 t0 : Nat} {cA : ClassId} {x : vp_A} (ha : ws[q0]? = some (a, .inl (cA, x))) {ty : FieldType} (ht : (x_tys kc)[t0]? = some (cA, ty)) (hdg : decode cc pc = .ok (.arraylength, 1))
    (kk : x_X p l e R s m args below meth c D A nL cells slots Q ws (pc + 1) ls (.int (nI x.1) :: st)) : x_X p l e R s m args below meth c D A nL cells slots Q ws pc ls (.ref a :: st) := fun H locs la hP hD hS hl =>
  va_alen M.1 M.2.1 TB.1 hP q0 t0 ha ht rfl hdg (kk H locs la hP hD hS hl)
theorem x_nImin {a b : Nat} (ha : a < 2 ^ 31) (hb : b < 2 ^ 31) : (if nI b < nI a then nI b else nI a) = nI (min a b) := by
  by_cases h : b < a
  · rw [if_pos ((nI_ltI hb ha).mpr h), Nat.min_eq_right (by omega)]
  · rw [if_neg (fun q => h ((nI_ltI hb ha).mp q)), Nat.min_eq_left (by omega)]
theorem x_min (M : CallFix p m c cc nL s args gw own) {a b index : Nat} (ha : a < 2 ^ 31) (hb : b < 2 ^ 31) (hlk : Cond.methodLink own index Lib.Math.min.name ∈ gw) (hR : 1 ≤ R.frames ∧ 21 ≤ R.locals) (hcs : cells ≤ R.cells ∧ slots ≤ R.slots) (hst : (st.map fun v => v.category).sum ≤ 8) (hdg : decode cc pc = .ok (.invokestatic index, 3))
    (kk : x_X p l e R s m args below meth c D A nL cells slots Q ws (pc + 3) ls (.int (nI (min a b)) :: st)) : x_X p l e R s m args below meth c D A nL cells slots Q ws pc ls (.int (nI b) :: .int (nI a) :: st) := fun H locs la hP hD hS hl =>
  va_mmin M.1 M.2.1 (M.2.2.1.trans hl.1.symm) M.2.2.2.1 (M.2.2.2.2 _ hlk) (M.2.2.2.2 _ kw_206) (M.2.2.2.2 _ kw_17) (M.2.2.2.2 _ kw_207) hR.1 (by omega) hcs.1 hcs.2 hdg (by rw [x_nImin ha hb]; exact kk H locs la hP hD hS hl)
end XH
