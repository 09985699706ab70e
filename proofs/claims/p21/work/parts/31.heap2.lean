/-! rows that make cells, and constructors' calls; lists that have a range in them -/
theorem rm_get {A0 B0 : va_W} {n i : Nat} {f : Nat → Nat × va_E} (hi : i < n) {k : Nat} (hk : k = A0.length + i) : ((A0 ++ (List.range n).map f) ++ B0)[k]? = some (f i) := by
  subst hk
  rw [List.append_assoc, List.getElem?_append_right (by omega), Nat.add_sub_cancel_left, List.getElem?_append_left (by simpa using hi), List.getElem?_map, List.getElem?_range hi]
  rfl
theorem rm_set {A0 B0 : va_W} {n i : Nat} {f g : Nat → Nat × va_E} {y : Nat × va_E} (hi : i < n) {k : Nat} (hk : k = A0.length + i) (hy : g i = y) (ho : ∀ t, t < n → t ≠ i → g t = f t) : ((A0 ++ (List.range n).map f) ++ B0).set k y = (A0 ++ (List.range n).map g) ++ B0 := by
  subst hk
  rw [List.append_assoc, List.set_append_right _ _ (by omega), Nat.add_sub_cancel_left, List.set_append_left _ _ (by simpa using hi), List.append_assoc]
  congr 2
  refine List.ext_getElem? fun k => ?_
  by_cases hk : k < n
  · rw [List.getElem?_map, List.getElem?_range hk]
    by_cases e : i = k
    · subst e
      rw [List.getElem?_set_self', List.getElem?_map, List.getElem?_range hk, ← hy]
      rfl
    · rw [List.getElem?_set_ne e, List.getElem?_map, List.getElem?_range hk, Option.map_some, Option.map_some, ho k hk (fun q => e q.symm)]
  · rw [List.getElem?_eq_none (by rw [List.length_set]; simp; omega), List.getElem?_eq_none (by simp; omega)]
theorem ap_get {A0 : va_W} {y : Nat × va_E} {t : va_W} : (A0 ++ y :: t)[A0.length]? = some y := by rw [List.getElem?_append_right (Nat.le_refl _), Nat.sub_self]; rfl
theorem ap_set {A0 : va_W} {y z : Nat × va_E} {t : va_W} : (A0 ++ y :: t).set A0.length z = A0 ++ z :: t := by rw [List.set_append_right _ _ (Nat.le_refl _), Nat.sub_self]; rfl
theorem ap_getk {A0 B0 : va_W} (k : Nat) {n : Nat} (hn : n = A0.length + k) : (A0 ++ B0)[n]? = B0[k]? := by subst hn; rw [List.getElem?_append_right (by omega), Nat.add_sub_cancel_left]
theorem ap_setk {A0 B0 : va_W} {z : Nat × va_E} (k : Nat) {n : Nat} (hn : n = A0.length + k) : (A0 ++ B0).set n z = A0 ++ B0.set k z := by subst hn; rw [List.set_append_right _ _ (by omega), Nat.add_sub_cancel_left]
theorem upd_if {f : Nat → Int32} {k : Nat} {x : Int32} : upd (fun j => if j < k then x else f j) k x = (fun j => if j < k + 1 then x else f j) := funext fun j => by
  unfold upd
  by_cases h : j = k
  · rw [if_pos h, if_pos (by omega)]
  · rw [if_neg h]
    show (if j < k then x else f j) = _
    by_cases h2 : j < k
    · rw [if_pos h2, if_pos (by omega)]
    · rw [if_neg h2, if_neg (by omega)]
theorem if_0 {f : Nat → Int32} {x : Int32} : (fun j => if j < 0 then x else f j) = f := funext fun j => if_neg (Nat.not_lt_zero j)
/-- a contract that returns nothing, its world told by a predicate -/
def x_QE (D : va_G) (A : Nat → Prop) (Po : va_W → Prop) : Array Value → State → Outcome → State → Prop := fun _ st o t => (o = .returned none ∧ ∃ w2, Po w2 ∧ va_P D vwCl w2 t.heap ∧ va_D A w2) ∧ va_F A st t
def x_RetE (l : Launch) (D : va_G) (kc : Nat → ClassId) (A : Nat → Prop) (y : MethodName) (cc : ByteArray) (maxL : Nat) (rm : Room) (As : List Value) (ws : va_W) (Po : va_W → Prop) : Prop :=
  Met l y (.code y cc maxL none :: gw) rm (x_Pc D kc A As ws) (x_QE D A Po) rm.cells rm.slots A
def x_MI (y : MethodName) (cc : ByteArray) (maxL n : Nat) : Prop :=
  Cond.code y cc maxL none ∈ gw ∧ Cond.initialized y.cls ∈ gw ∧ (y.cls ≠ "java/lang/invoke/MethodHandle" ∧ y.cls ≠ "java/lang/invoke/VarHandle") ∧ (parseMethodDescriptor y.desc).map (fun d => d.parameters.length) = some n ∧ Cond.instanceMethod y ∈ gw ∧ y.name = "<init>"
section XO
variable {p : Program} {l : Launch} {e : Env} {R : Room} {s : State} {m : MethodId} {args : Array Value} {below : List Frame} {meth : Method} {c : Code} {D : va_G} {A : Nat → Prop} {nL cells slots : Nat} {Q : State → Prop}
variable {cc : ByteArray} {own : String} {ws w2 : va_W} {pc : Nat} {ls : List (Option Value)} {st rest : List Value} {kc : Nat → ClassId}
theorem x_objInit (M : CallFix p m c cc nL s args gw own) {index a : Nat} (hlk : Cond.methodLink own index objectInit ∈ gw) (hdg : decode cc pc = .ok (.invokespecial index, 3)) (hR : 1 ≤ R.frames ∧ 20 ≤ R.locals) (hst : (st.map fun v => v.category).sum ≤ 8) (kk : x_X p l e R s m args below meth c D A nL cells slots Q ws (pc + 3) ls st) : x_X p l e R s m args below meth c D A nL cells slots Q ws pc ls (.ref a :: st) := fun H locs la hP hD hS hl =>
  W.objInit M.1 M.2.1 M.2.2.2.1 (M.2.2.2.2 _ hlk) (M.2.2.2.2 _ kw_26) (M.2.2.2.2 _ kw_27) (g := F0 m pc la (.ref a :: st)) rfl (hl.1.trans M.2.2.1.symm) rfl hdg hR.1 (by have h9 := lv_room (m := m) (pc := pc) (ls := la) (rest := .ref a :: st) hst; omega) (kk H locs la hP hD hS hl)
theorem x_new0 (M : CallFix p m c cc nL s args gw own) (TB : x_TB D kc s) (hAA : ∀ q : Nat, s.heap.size ≤ q → A q) {index : Nat} (hlk : Cond.classLink own index RX0 ∈ gw) (hdg : decode cc pc = .ok (.new index, 3)) (hcs : cells + 1 ≤ R.cells ∧ slots + 8 ≤ R.slots) (kk : ∀ q : Nat, x_X p l e R s m args below meth c D A nL (cells + 1) (slots + 8) Q (ws ++ [(q, .inr (0, [.int 0, .int 0, .int 0, .int 0, .int 0, .int 0, .int 0, .int 0]))]) (pc + 3) ls (.ref q :: st)) : x_X p l e R s m args below meth c D A nL cells slots Q ws pc ls st := fun H locs la hP hD hS hl =>
  va_new (ci := 0) (fs := [.int 0, .int 0, .int 0, .int 0, .int 0, .int 0, .int 0, .int 0]) (C := RX0) (T := TX0) (N := 8) M.1 M.2.1 M.2.2.2.2 gwl_X0 tyX0 tyX0_ok M.2.2.2.1 (M.2.2.2.2 _ hlk) (M.2.2.2.2 _ kw_49) (M.2.2.2.2 _ kw_12) TB.1 hP hD hS hAA rfl (fun j hj => by rcases (show j = 0 ∨ j = 1 ∨ j = 2 ∨ j = 3 ∨ j = 4 ∨ j = 5 ∨ j = 6 ∨ j = 7 by omega) with rfl | rfl | rfl | rfl | rfl | rfl | rfl | rfl <;> rfl) hcs.1 hcs.2 hdg (fun q H1 hP1 hD1 hS1 => kk q H1 locs la hP1 hD1 hS1 hl)
theorem x_new1 (M : CallFix p m c cc nL s args gw own) (TB : x_TB D kc s) (hAA : ∀ q : Nat, s.heap.size ≤ q → A q) {index : Nat} (hlk : Cond.classLink own index RX1 ∈ gw) (hdg : decode cc pc = .ok (.new index, 3)) (hcs : cells + 1 ≤ R.cells ∧ slots + 2 ≤ R.slots) (kk : ∀ q : Nat, x_X p l e R s m args below meth c D A nL (cells + 1) (slots + 2) Q (ws ++ [(q, .inr (1, [.null, .null]))]) (pc + 3) ls (.ref q :: st)) : x_X p l e R s m args below meth c D A nL cells slots Q ws pc ls st := fun H locs la hP hD hS hl =>
  va_new (ci := 1) (fs := [.null, .null]) (C := RX1) (T := TX1) (N := 2) M.1 M.2.1 M.2.2.2.2 gwl_X1 tyX1 tyX1_ok M.2.2.2.1 (M.2.2.2.2 _ hlk) (M.2.2.2.2 _ kw_31) (M.2.2.2.2 _ kw_10) TB.1 hP hD hS hAA rfl (fun j hj => by rcases (show j = 0 ∨ j = 1 by omega) with rfl | rfl <;> rfl) hcs.1 hcs.2 hdg (fun q H1 hP1 hD1 hS1 => kk q H1 locs la hP1 hD1 hS1 hl)
theorem x_new2 (M : CallFix p m c cc nL s args gw own) (TB : x_TB D kc s) (hAA : ∀ q : Nat, s.heap.size ≤ q → A q) {index : Nat} (hlk : Cond.classLink own index RX2 ∈ gw) (hdg : decode cc pc = .ok (.new index, 3)) (hcs : cells + 1 ≤ R.cells ∧ slots + 6 ≤ R.slots) (kk : ∀ q : Nat, x_X p l e R s m args below meth c D A nL (cells + 1) (slots + 6) Q (ws ++ [(q, .inr (2, [.null, .null, .null, .int 0, .int 0, .int 0]))]) (pc + 3) ls (.ref q :: st)) : x_X p l e R s m args below meth c D A nL cells slots Q ws pc ls st := fun H locs la hP hD hS hl =>
  va_new (ci := 2) (fs := [.null, .null, .null, .int 0, .int 0, .int 0]) (C := RX2) (T := TX2) (N := 6) M.1 M.2.1 M.2.2.2.2 gwl_X2 tyX2 tyX2_ok M.2.2.2.1 (M.2.2.2.2 _ hlk) (M.2.2.2.2 _ kw_21) (M.2.2.2.2 _ kw_9) TB.1 hP hD hS hAA rfl (fun j hj => by rcases (show j = 0 ∨ j = 1 ∨ j = 2 ∨ j = 3 ∨ j = 4 ∨ j = 5 by omega) with rfl | rfl | rfl | rfl | rfl | rfl <;> rfl) hcs.1 hcs.2 hdg (fun q H1 hP1 hD1 hS1 => kk q H1 locs la hP1 hD1 hS1 hl)
theorem x_newI (M : CallFix p m c cc nL s args gw own) (TB : x_TB D kc s) (hAA : ∀ q : Nat, s.heap.size ≤ q → A q) {n : Nat} (hn : n < 2 ^ 20) (hdg : decode cc pc = .ok (.newarray .int, 2)) (hcs : cells + 1 ≤ R.cells ∧ slots + n ≤ R.slots) (kk : ∀ q : Nat, x_X p l e R s m args below meth c D A nL (cells + 1) (slots + n) Q (ws ++ [(q, .inl (kc 0, n, .inl (fun _ => nI 0)))]) (pc + 2) ls (.ref q :: st)) : x_X p l e R s m args below meth c D A nL cells slots Q ws pc ls (.int (nI n) :: st) := fun H locs la hP hD hS hl =>
  va_newa (atype := .int) (ty := .int) (a0 := (n, .inl (fun _ => nI 0))) M.1 M.2.1 (M.2.2.2.2 _ kw_48) rfl TB.1 hP hD hS hAA (fun _ => rfl) (nI_pos (by omega)) (nI_clamp (by omega)) (by show n * 4 ≤ _; omega) hcs.1 hcs.2 hdg (fun q cA H1 hK1 hP1 hD1 hS1 => by
    have e1 : s.vm.findClass ("[" ++ FieldType.int.toString) = some cA := (hK1.2 4 (cA, .int) rfl).2
    have e2 : s.vm.findClass ("[" ++ FieldType.int.toString) = some (kc 0) := (TB.1.2 0 (kc 0, .int) rfl).2
    have e9 : cA = kc 0 := Option.some.inj (e1.symm.trans e2)
    subst e9
    exact kk q H1 locs la hP1 hD1 hS1 hl)
theorem x_newJ (M : CallFix p m c cc nL s args gw own) (TB : x_TB D kc s) (hAA : ∀ q : Nat, s.heap.size ≤ q → A q) {n : Nat} (hn : n < 2 ^ 20) (hdg : decode cc pc = .ok (.newarray .long, 2)) (hcs : cells + 1 ≤ R.cells ∧ slots + n ≤ R.slots) (kk : ∀ q : Nat, x_X p l e R s m args below meth c D A nL (cells + 1) (slots + n) Q (ws ++ [(q, .inl (kc 1, n, .inr (.inl (fun _ => 0))))]) (pc + 2) ls (.ref q :: st)) : x_X p l e R s m args below meth c D A nL cells slots Q ws pc ls (.int (nI n) :: st) := fun H locs la hP hD hS hl =>
  va_newa (atype := .long) (ty := .long) (a0 := (n, .inr (.inl (fun _ => 0)))) M.1 M.2.1 (M.2.2.2.2 _ kw_380) rfl TB.1 hP hD hS hAA (fun _ => rfl) (nI_pos (by omega)) (nI_clamp (by omega)) (by show n * 8 ≤ _; omega) hcs.1 hcs.2 hdg (fun q cA H1 hK1 hP1 hD1 hS1 => by
    have e1 : s.vm.findClass ("[" ++ FieldType.long.toString) = some cA := (hK1.2 4 (cA, .long) rfl).2
    have e2 : s.vm.findClass ("[" ++ FieldType.long.toString) = some (kc 1) := (TB.1.2 1 (kc 1, .long) rfl).2
    have e9 : cA = kc 1 := Option.some.inj (e1.symm.trans e2)
    subst e9
    exact kk q H1 locs la hP1 hD1 hS1 hl)
theorem x_newQ (M : CallFix p m c cc nL s args gw own) (TB : x_TB D kc s) (hAA : ∀ q : Nat, s.heap.size ≤ q → A q) {n index : Nat} (hn : n < 2 ^ 20) (hlk : Cond.classLink own index RX0 ∈ gw) (hdg : decode cc pc = .ok (.anewarray index, 3)) (hcs : cells + 1 ≤ R.cells ∧ slots + n ≤ R.slots) (kk : ∀ q : Nat, x_X p l e R s m args below meth c D A nL (cells + 1) (slots + n) Q (ws ++ [(q, .inl (kc 2, n, .inr (.inr (.inr (.inr (fun _ => none))))))]) (pc + 3) ls (.ref q :: st)) : x_X p l e R s m args below meth c D A nL cells slots Q ws pc ls (.int (nI n) :: st) := fun H locs la hP hD hS hl =>
  va_newq (C := "GlassLabels$Label") M.1 M.2.1 M.2.2.2.1 (M.2.2.2.2 _ hlk) TB.2.1 TB.1 hP hD hS hAA (nI_pos (by omega)) (nI_clamp (by omega)) (by omega) hcs.1 hcs.2 hdg (fun q cA H1 hK1 hP1 hD1 hS1 => by
    obtain ⟨_, _, _, _, _, e1⟩ := (hK1.2 4 (cA, .object "GlassLabels$Label") rfl).2
    obtain ⟨_, _, _, _, _, e2⟩ := (TB.1.2 2 (kc 2, .object "GlassLabels$Label") rfl).2
    have e9 : cA = kc 2 := Option.some.inj (e1.symm.trans e2)
    subst e9
    exact kk q H1 locs la hP1 hD1 hS1 hl)
theorem x_mna (M : CallFix p m c cc nL s args gw own) (TB : x_TB D kc s) (hAA : ∀ q : Nat, s.heap.size ≤ q → A q) {n k index : Nat} (hn : n < 2 ^ 20) (hk : k < 2 ^ 20) (hlk : Cond.classLink own index "[[I" ∈ gw) (hdg : decode cc pc = .ok (.multianewarray index 2, 4)) (hcs : cells + (1 + n) ≤ R.cells ∧ slots + (n + n * k) ≤ R.slots)
    (kk : ∀ (q : Nat) (r : Nat → Nat), x_X p l e R s m args below meth c D A nL (cells + 1 + n) (slots + n + n * k) Q ((ws ++ [(q, .inl (kc 3, n, .inr (.inr (.inr (.inr (fun i => if i < n then some (r i) else none))))))]) ++ (List.range n).map (fun i => (r i, .inl (kc 0, k, .inl (fun _ => nI 0))))) (pc + 4) ls (.ref q :: st)) : x_X p l e R s m args below meth c D A nL cells slots Q ws pc ls (.int (nI k) :: .int (nI n) :: st) := fun H locs la hP hD hS hl => by
  have e0 : ws ++ va_pl [] (fun _ => .inr (0, [])) = ws := List.append_nil _
  refine va_mna (X := ws) (L := []) (f := fun _ => .inr (0, [])) (ty := .int) (cy := kc 0) (z := (k, .inl (fun _ => nI 0))) M.1 M.2.1 M.2.2.2.1 (M.2.2.2.2 _ hlk) TB.2.2.1 (M.2.2.2.2 _ kw_48) (TB.1.2 0 (kc 0, .int) rfl).2 TB.1 (by rw [e0]; exact hP) (by rw [e0]; exact hD) hS hAA (nI_pos (by omega)) (nI_pos (by omega)) (nI_clamp (by omega)) (nI_clamp (by omega)) (by omega) (by show k * 4 ≤ _; omega) (by omega) rfl rfl hcs.1 hcs.2 (fun cA => by
    show ({ cls := cA, slots := Array.replicate k (.int 0), vm := .none } : Cell) = arrV cA k (fun _ => .int (nI 0))
    rw [arrV_new]; rfl) hdg (fun q r cA H1 _ _ hK1 hP1 hD1 hS1 => ?_)
  have e1 : s.vm.findClass ("[" ++ (FieldType.array .int).toString) = some cA := (hK1.2 4 (cA, .array .int) rfl).2
  have e2 : s.vm.findClass ("[" ++ (FieldType.array .int).toString) = some (kc 3) := (TB.1.2 3 (kc 3, .array .int) rfl).2
  have e9 : cA = kc 3 := Option.some.inj (e1.symm.trans e2)
  subst e9
  have e3 : va_pl ([] ++ (List.range n).map r) (vr_up (fun _ => .inr (0, [])) ((List.range n).map r) (.inl (kc 0, (k, .inl (fun _ => nI 0))))) = (List.range n).map (fun i => (r i, .inl (kc 0, k, .inl (fun _ => nI 0)))) := by
    unfold va_pl
    rw [List.nil_append, List.map_map]
    refine List.map_congr_left fun i hi => ?_
    show (r i, vr_up _ _ _ (r i)) = _
    rw [vr_up_in (List.mem_map.mpr ⟨i, hi, rfl⟩)]
  rw [e3] at hP1 hD1
  exact kk q r H1 locs la hP1 hD1 hS1 hl
theorem x_aast (M : CallFix p m c cc nL s args gw own) (TB : x_TB D kc s) {q0 qk a n j v : Nat} {vs : List Value} {f : Nat → Option Nat} (ha : ws[q0]? = some (a, .inl (kc 2, n, .inr (.inr (.inr (.inr f)))))) (hv : ws[qk]? = some (v, .inr (0, vs))) (hj : j < n) (hn : n < 2 ^ 31) (hdg : decode cc pc = .ok (.aastore, 1))
    (kk : x_X p l e R s m args below meth c D A nL cells slots Q (ws.set q0 (a, .inl (kc 2, n, .inr (.inr (.inr (.inr (va_up f j (some v)))))))) (pc + 1) ls st) : x_X p l e R s m args below meth c D A nL cells slots Q ws pc ls (.ref v :: .int (nI j) :: .ref a :: st) := fun H locs la hP hD hS hl =>
  va_astq M.1 M.2.1 TB.1 hP hD hS q0 2 qk 0 (r := (RX0, TX0, 8)) ha rfl hv rfl (vp_in_nI hj hn) hdg (fun H1 locs1 hP1 hD1 hS1 => by rw [nI_clamp (by omega)] at hP1 hD1; exact kk H1 locs1 la hP1 hD1 hS1 hl)
theorem x_putR1 (M : CallFix p m c cc nL s args gw own) (TB : x_TB D kc s) (k : Nat) {a q0 index v : Nat} {fs : List Value} {ty : FieldType} (he : ws[q0]? = some (a, .inr (1, fs))) (hk : k < 2) (hl : k < fs.length) (hfin : (TX1 k).2.2.2 = true) (hin : meth.name = "<init>") (hdc : (TX1 k).1 = own) (hd : parseFieldDescriptor (TX1 k).2.2.1 = some ty) (hn : narrow ty (.ref v) = .ref v) (hft : fits ty (.ref v) = true) (hlk : Cond.fieldLink own index (TX1 k).1 (TX1 k).2.1 (TX1 k).2.2.1 ∈ gw) (hdg : decode cc pc = .ok (.putfield index, 3))
    (kk : x_X p l e R s m args below meth c D A nL cells slots Q (ws.set q0 (a, .inr (1, fs.set k (.ref v)))) (pc + 3) ls st) : x_X p l e R s m args below meth c D A nL cells slots Q ws pc ls (.ref v :: .ref a :: st) := fun H locs la hP hD hS hlh =>
  va_putF (D := D) (ci := 1) (v := .ref v) (ty := ty) (C := RX1) (T := TX1) (N := 2) M.1 M.2.1 M.2.2.2.2 gwl_X1 tyX1 tyX1_ok nmX1 M.2.2.2.1 TB.1 hP hD hS q0 he rfl k hk (M.2.2.2.2 _ hlk) (fun _ h9 => h9) hfin hin hdc hd hn hft hl hdg (fun H1 locs1 hP1 hD1 hS1 => kk H1 locs1 la hP1 hD1 hS1 hlh)
theorem x_putR2 (M : CallFix p m c cc nL s args gw own) (TB : x_TB D kc s) (k : Nat) {a q0 index v : Nat} {fs : List Value} {ty : FieldType} (he : ws[q0]? = some (a, .inr (2, fs))) (hk : k < 6) (hl : k < fs.length) (hfin : (TX2 k).2.2.2 = true) (hin : meth.name = "<init>") (hdc : (TX2 k).1 = own) (hd : parseFieldDescriptor (TX2 k).2.2.1 = some ty) (hn : narrow ty (.ref v) = .ref v) (hft : fits ty (.ref v) = true) (hlk : Cond.fieldLink own index (TX2 k).1 (TX2 k).2.1 (TX2 k).2.2.1 ∈ gw) (hdg : decode cc pc = .ok (.putfield index, 3))
    (kk : x_X p l e R s m args below meth c D A nL cells slots Q (ws.set q0 (a, .inr (2, fs.set k (.ref v)))) (pc + 3) ls st) : x_X p l e R s m args below meth c D A nL cells slots Q ws pc ls (.ref v :: .ref a :: st) := fun H locs la hP hD hS hlh =>
  va_putF (D := D) (ci := 2) (v := .ref v) (ty := ty) (C := RX2) (T := TX2) (N := 6) M.1 M.2.1 M.2.2.2.2 gwl_X2 tyX2 tyX2_ok nmX2 M.2.2.2.1 TB.1 hP hD hS q0 he rfl k hk (M.2.2.2.2 _ hlk) (fun _ h9 => h9) hfin hin hdc hd hn hft hl hdg (fun H1 locs1 hP1 hD1 hS1 => kk H1 locs1 la hP1 hD1 hS1 hlh)
theorem x_put0s (M : CallFix p m c cc nL s args gw own) (TB : x_TB D kc s) (k : Nat) {a q0 index : Nat} {fs : List Value} {x : Int32} {y : Nat × va_E} (ha : ws[q0]? = some y) (hk : k < 8) (hl : k < fs.length) (hfin : (TX0 k).2.2.2 = false) (hd : parseFieldDescriptor (TX0 k).2.2.1 = some .int) (hlk : Cond.fieldLink own index (TX0 k).1 (TX0 k).2.1 (TX0 k).2.2.1 ∈ gw) (hdg : decode cc pc = .ok (.putfield index, 3))
    (kk : x_X p l e R s m args below meth c D A nL cells slots Q (ws.set q0 (a, .inr (0, fs.set k (.int x)))) (pc + 3) ls st) : x_X p l e R s m args below meth c D A nL cells slots Q (ws.set q0 (a, .inr (0, fs))) pc ls (.int x :: .ref a :: st) :=
  x_put0 M TB k (fwg ha) hk hl hfin hd hlk hdg (x_ws (List.set_set ..) kk)
theorem x_callI (M : CallFix p m c cc nL s args gw own) (TB : x_TB D kc s) (hAA : ∀ q : Nat, s.heap.size ≤ q → A q) {y : MethodName} {bytes : ByteArray} {maxL index b : Nat} {rm : Room} {As : List Value} (mv : x_MI y bytes maxL As.length)
    (hlk : Cond.methodLink own index y ∈ gw) (hdg : decode cc pc = .ok (.invokespecial index, 3)) {Po : va_W → Prop} (hM : x_RetE l D kc A y bytes maxL rm (.ref b :: As) ws Po) (hst0 : As.reverse ++ .ref b :: rest = st)
    (hR : rm.frames + 1 ≤ R.frames ∧ 8 + (maxL + 11) + rm.locals ≤ R.locals) (hcs : cells + rm.cells ≤ R.cells ∧ slots + rm.slots ≤ R.slots) (hst : (rest.map fun v => v.category).sum ≤ 8)
    (kk : ∀ w2, Po w2 → x_X p l e R s m args below meth c D A nL (cells + rm.cells) (slots + rm.slots) Q w2 (pc + 3) ls rest) : x_X p l e R s m args below meth c D A nL cells slots Q ws pc ls st := fun H locs la hP hD hS hl => by
  subst hst0
  obtain ⟨h1, h2, h3, h4, h5, h6⟩ := mv
  have hr := va_runI (e := e) (below := below) (meth := meth) (locs := locs) (g := F0 m pc la (As.reverse ++ .ref b :: rest)) (b := b) (As := As) (rest := rest) M hM ⟨x_cb M.2.2.2.2 h1 h2 h3 h4 hlk hR, h6, M.2.2.2.2 _ h5⟩ ⟨x_blind, x_pre (As := .ref b :: As) TB hAA hP hD hS⟩ rfl rfl hl.1 rfl (lv_room hst) hdg hcs
  intro T hT X
  obtain ⟨v', st0, t, T', L, h0, X', hL, e1, e2, ⟨⟨hv, w9, hPo, hP1, hD1⟩, hF⟩, stp⟩ := hr T hT X
  cases hv
  obtain ⟨k1, k2, k3⟩ := vx_keep h0 e1 hS (fun _ _ h => h) (fun _ h => h) hL hF
  obtain ⟨t2, a1, b1⟩ := kk w9 hPo T'.heap (locs ++ L) la (by rw [e1]; exact hP1) hD1 k3 hl T' rfl X'
  exact ⟨t2, stp t2 a1, b1⟩
/-- a nest mate's constructor -/
theorem x_callIN (M : CallFix p m c cc nL s args gw own) (TB : x_TB D kc s) (hAA : ∀ q : Nat, s.heap.size ≤ q → A q) {y : MethodName} {host : String} {bytes : ByteArray} {maxL index b : Nat} {rm : Room} {As : List Value} (mv : x_MI y bytes maxL As.length)
    (hlk : va_Nw (.methodLinkNest own index y host) s) (hdg : decode cc pc = .ok (.invokespecial index, 3)) (hM : x_Ret l D kc A y bytes maxL none rm (.ref b :: As) ws none w2) (hst0 : As.reverse ++ .ref b :: rest = st)
    (hR : rm.frames + 1 ≤ R.frames ∧ 8 + (maxL + 11) + rm.locals ≤ R.locals) (hcs : (rm.cells = 0 ∧ rm.slots = 0) ∧ cells ≤ R.cells ∧ slots ≤ R.slots) (hst : (rest.map fun v => v.category).sum ≤ 8)
    (kk : x_X p l e R s m args below meth c D A nL cells slots Q w2 (pc + 3) ls rest) : x_X p l e R s m args below meth c D A nL cells slots Q ws pc ls st := fun H locs la hP hD hS hl => by
  subst hst0
  obtain ⟨h1, h2, h3, h4, h5, h6⟩ := mv
  have cw : va_CN R s args own index y host bytes maxL none (.code y bytes maxL none :: gw) rm rm.cells rm.slots As.length := va_cnB As.length M.2.2.2.2 (x_gwc h1) rfl rfl rfl hlk (M.2.2.2.2 _ h2) ⟨h3.1, h3.2, h4⟩ hR
  have hr := va_runIN (e := e) (below := below) (meth := meth) (locs := locs) (g := F0 m pc la (As.reverse ++ .ref b :: rest)) (b := b) (As := As) (rest := rest) M hM ⟨cw, h6, M.2.2.2.2 _ h5⟩ ⟨x_blind, x_pre (As := .ref b :: As) TB hAA hP hD hS⟩ rfl rfl hl.1 rfl (lv_room hst) hdg (by rw [hcs.1.1, hcs.1.2]; exact hcs.2)
  rw [hcs.1.1, hcs.1.2] at hr
  exact x_back hS hl hr kk
theorem x_vretE {mc ms : Nat} {Po : va_W → Prop} (M : CallFix p m c cc nL s args gw own) (hr : meth.sig.returnType = none) (hlocks : meth.locks = false) (hdg : decode cc pc = .ok (.return_, 1)) (hc : cells ≤ mc ∧ slots ≤ ms) (hPo : Po ws) :
    x_X p l e R s m args below meth c D A nL cells slots (MQ below (x_QE D A Po) args s mc ms A) ws pc ls [] := fun H locs la hP hD hS hl =>
  W.widen hc.1 hc.2 (W.vret M.1 M.2.1 hr (fun t ht _ => ⟨⟨rfl, ws, hPo, by rw [ht]; exact hP, hD⟩, hS.F ht⟩) hS.2.2 hdg hlocks)
end XO
theorem x_retE_of {l : Launch} {D : va_G} {kc : Nat → ClassId} {A : Nat → Prop} {y : MethodName} {cc : ByteArray} {maxL : Nat} {rm : Room} {As : List Value} {ws : va_W} {Po : va_W → Prop} (own : String) (hy : plainName y.cls = true) (ho : y.cls = own) (ls0 : List (Option Value)) (hn : As.length ≤ maxL) (hcat0 : As.all (fun v => v.category == 1) = true) (h0 : As.map some ++ List.replicate (maxL - As.length) none = ls0)
    (body : ∀ (p : Program) (e : Env) (s : State) (m : MethodId) (args : Array Value) (below : List Frame) (meth : Method) (c : Code), CallFix p m c cc maxL s args gw own → meth.sig.returnType = none → meth.locks = false → meth.name = y.name → x_TB D kc s → (∀ q : Nat, s.heap.size ≤ q → A q) →
      x_X p l e rm s m args below meth c D A maxL 0 0 (MQ below (x_QE D A Po) args s rm.cells rm.slots A) ws 0 ls0 []) : x_RetE l D kc A y cc maxL rm As ws Po := by
  refine Met.ofW (cc := cc) (maxL := maxL) (ret := none) hy rfl ?_
  intro p e s m args below meth c s₁ B hml hv
  obtain ⟨rfl, hP, hD, hT, hA⟩ := hv
  have hts := atoms_spec (ws := .code y cc maxL none :: gw) B.pre
  have hown : s.vm.findClass own = some m.cls := by rw [← ho]; exact findClass_of_methodNamed B.named
  have k := body p e s m As.toArray below meth c ⟨B.exec, B.bytes, hml, hown, fun w h => hts w (List.mem_cons_of_mem _ h)⟩ B.returns B.notSynchronized (name_of_methodNamed B.named B.method).1 hT hA
  rw [lg_entry_eq]
  exact k s.heap [] _ hP hD va_S.rf (by rw [← h0]; exact x_lh_entry As hn (fun v hv => by have := List.all_eq_true.mp hcat0 v hv; simpa using this))
