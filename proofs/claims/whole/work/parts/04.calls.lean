/-! CONTRACTS over a list of cells: x_Ret (it returns v, the cells are w2), x_Thr (it throws an E, nothing has changed); how they are proved and called -/
def x_IO : String := "java/lang/IndexOutOfBoundsException"
def x_IA : String := "java/lang/IllegalArgumentException"
def x_IS : String := "java/lang/IllegalStateException"
def x_dcl (n : String) : Cond := .declares ⟨n, "<init>", "(Ljava/lang/String;)V"⟩
def x_xw (E : String) : List Cond := [Cond.castable E E, x_dcl "java/lang/RuntimeException", x_dcl "java/lang/Exception", x_dcl "java/lang/Throwable"]
def x_tys (kc : Nat → ClassId) : List (ClassId × FieldType) := [(kc 0, .int), (kc 1, .long), (kc 2, .object "GlassLabels$Label"), (kc 3, .array .int)]
/-- what the tables and the JDK's statics say, at a state whose heap is H -/
def x_TB (D : va_G) (kc : Nat → ClassId) (A : Nat → Prop) (U : State) (H : Heap) : Prop :=
  va_K D vwCl (x_tys kc) U ∧ (vx_Zq Bundle.tN "UNASSIGNED_STACK" Bundle.steD A U H ∧ vx_Zq Bundle.tN "SUPPRESSED_SENTINEL" Bundle.listD A U H) ∧
  (va_Nw (.castable x_IO x_IO) U ∧ va_Nw (.castable x_IA x_IA) U ∧ va_Nw (.castable x_IS x_IS) U) ∧
  (va_Nc x_IA x_IO U ∧ va_Nc x_IS x_IO U ∧ va_Nc x_IS x_IA U ∧ va_Nw (x_dcl "java/lang/RuntimeException") U ∧ va_Nw (x_dcl "java/lang/Exception") U ∧ va_Nw (x_dcl "java/lang/Throwable") U ∧ va_AO "GlassLabels$Label" U ∧ va_AOA .int U ∧ va_Nw (.methodLinkNest RX2 36 yX0_init RX2) U) ∧
  ((∃ a, vk_R RX2 115 "no such ware" a U) ∧ (∃ a, vk_R RX2 120 "out of range" a U) ∧ (∃ a, vk_R RX2 54 "no room for another label" a U) ∧ (∃ a, vk_R RX2 123 "no such label" a U) ∧ (∃ a, vk_R RX2 66 "the label is for this ware" a U) ∧ (∃ a, vk_R RX2 80 "the time would be too late" a U))
theorem va_AOA.warm {ty : FieldType} {s U : State} (hW : s.WarmedH U.vm) (h : va_AOA ty s) : va_AOA ty U := by
  have h1 : (Cond.arrayOver (.array ty)).before #[] (s.setVm U.vm) = true := by rw [Cond.arrayOver_setVmC hW.alike]; exact h
  unfold va_AOA
  simp only [Cond.before, Cond.holds, Cond.value, State.vm_setVm] at h1 ⊢
  exact h1
theorem x_TB.moved {D : va_G} {kc : Nat → ClassId} {A : Nat → Prop} {u U : State} {H : Heap} (hW : u.WarmedH U.vm) (h : x_TB D kc A u H) : x_TB D kc A U H := by
  obtain ⟨h1, ⟨h2, h3⟩, ⟨h4, h5, h6⟩, ⟨h7, h8, h9, j1, j2, j3, j4, j5, j6⟩, ⟨⟨a1, k1⟩, ⟨a2, k2⟩, ⟨a3, k3⟩, ⟨a4, k4⟩, ⟨a5, k5⟩, ⟨a6, k6⟩⟩⟩ := h
  exact ⟨h1.moved hW.alike, ⟨vx_Zq.moved hW.alike h2, vx_Zq.moved hW.alike h3⟩, ⟨va_Nw.warmC hW h4, va_Nw.warmC hW h5, va_Nw.warmC hW h6⟩, ⟨va_Nc.moved hW.alike h7, va_Nc.moved hW.alike h8, va_Nc.moved hW.alike h9, va_Nw.warmD hW j1, va_Nw.warmD hW j2, va_Nw.warmD hW j3, va_AO.moved hW.alike j4, va_AOA.warm hW j5, va_Nw.warmM hW j6⟩,
    ⟨⟨a1, vk_R.warm hW k1⟩, ⟨a2, vk_R.warm hW k2⟩, ⟨a3, vk_R.warm hW k3⟩, ⟨a4, vk_R.warm hW k4⟩, ⟨a5, vk_R.warm hW k5⟩, ⟨a6, vk_R.warm hW k6⟩⟩⟩
theorem x_TB.kept {D : va_G} {kc : Nat → ClassId} {A : Nat → Prop} {U : State} {H H1 : Heap} (h : x_TB D kc A U H) (hq : ∀ a : Nat, a < H.size → ¬ A a → H1[a]? = H[a]?) : x_TB D kc A U H1 :=
  ⟨h.1, ⟨h.2.1.1.kept hq, h.2.1.2.kept hq⟩, h.2.2⟩
def x_Pc (D : va_G) (kc : Nat → ClassId) (A : Nat → Prop) (As : List Value) (ws : va_W) : Array Value → State → Prop :=
  va_Pc As (fun U => va_P D vwCl ws U.heap ∧ va_D A ws ∧ x_TB D kc A U U.heap ∧ ∀ q : Nat, U.heap.size ≤ q → A q)
def x_Qc (D : va_G) (A : Nat → Prop) (v : Option Value) (w2 : va_W) : Array Value → State → Outcome → State → Prop := fun _ st o t => (o = .returned v ∧ va_P D vwCl w2 t.heap ∧ va_D A w2) ∧ va_F A st t
def x_XC (D : va_G) (A : Nat → Prop) (E : String) (w2 : va_W) : String → State → State → Prop := fun E' st t => (E' = E ∧ va_P D vwCl w2 t.heap ∧ va_D A w2) ∧ va_F A st t
def x_Ret (l : Launch) (D : va_G) (kc : Nat → ClassId) (A : Nat → Prop) (y : MethodName) (cc : ByteArray) (maxL : Nat) (ret : Option FieldType) (rm : Room) (As : List Value) (ws : va_W) (v : Option Value) (w2 : va_W) : Prop :=
  Met l y (.code y cc maxL ret :: gw) rm (x_Pc D kc A As ws) (x_Qc D A v w2) rm.cells rm.slots A
def x_Thr (l : Launch) (D : va_G) (kc : Nat → ClassId) (A : Nat → Prop) (y : MethodName) (cc : ByteArray) (maxL : Nat) (ret : Option FieldType) (rm : Room) (As : List Value) (ws : va_W) (E : String) : Prop :=
  vx_Met l y (.code y cc maxL ret :: gw) rm (x_Pc D kc A As ws) (fun _ _ _ _ => False) (x_XC D A E ws) rm.cells rm.slots A
/-- a method of ours with a table of handlers, that returns -/
def x_RetW (l : Launch) (D : va_G) (kc : Nat → ClassId) (A : Nat → Prop) (y : MethodName) (cc : ByteArray) (maxL : Nat) (ret : Option FieldType) (hh : List (Nat × Nat × Nat × Nat)) (rm : Room) (As : List Value) (ws : va_W) (v : Option Value) (w2 : va_W) : Prop :=
  Met l y (.codeWith y cc maxL ret hh :: gw) rm (x_Pc D kc A As ws) (x_Qc D A v w2) rm.cells rm.slots A
theorem x_blind {D : va_G} {kc : Nat → ClassId} {A : Nat → Prop} {As : List Value} {ws : va_W} : FrameBlind (x_Pc D kc A As ws) := fun a U g mk q => by
  obtain ⟨h0, h1, h2, h3, h4⟩ := q
  exact ⟨h0, h1, h2, x_TB.moved (u := U) (U := U.calling g mk a) (State.WarmedH.refl U) h3, h4⟩
/-- the cell behind a receiver, and the method's own words -/
def x_MV (y : MethodName) (cc : ByteArray) (maxL : Nat) (ret : Option FieldType) (n : Nat) : Prop :=
  Cond.code y cc maxL ret ∈ gw ∧ Cond.initialized y.cls ∈ gw ∧ (y.cls ≠ "java/lang/invoke/MethodHandle" ∧ y.cls ≠ "java/lang/invoke/VarHandle") ∧ (parseMethodDescriptor y.desc).map (fun d => d.parameters.length) = some n ∧ Cond.instanceMethod y ∈ gw ∧ Cond.selects y.cls y y ∈ gw
def x_MS (y : MethodName) (cc : ByteArray) (maxL : Nat) (ret : Option FieldType) (n : Nat) : Prop :=
  Cond.code y cc maxL ret ∈ gw ∧ Cond.initialized y.cls ∈ gw ∧ (y.cls ≠ "java/lang/invoke/MethodHandle" ∧ y.cls ≠ "java/lang/invoke/VarHandle") ∧ (parseMethodDescriptor y.desc).map (fun d => d.parameters.length) = some n ∧ Cond.static y ∈ gw
def x_MW (y : MethodName) (cc : ByteArray) (maxL : Nat) (ret : Option FieldType) (hh : List (Nat × Nat × Nat × Nat)) (n : Nat) : Prop :=
  Cond.codeWith y cc maxL ret hh ∈ gw ∧ Cond.initialized y.cls ∈ gw ∧ (y.cls ≠ "java/lang/invoke/MethodHandle" ∧ y.cls ≠ "java/lang/invoke/VarHandle") ∧ (parseMethodDescriptor y.desc).map (fun d => d.parameters.length) = some n ∧ Cond.static y ∈ gw
theorem x_gwc {y : MethodName} {cc : ByteArray} {maxL : Nat} {ret : Option FieldType} (h : Cond.code y cc maxL ret ∈ gw) : GoodIn gw (.code y cc maxL ret :: gw) := fun w hw => (List.mem_cons.mp hw).elim (fun e => by rw [e]; exact gw_good _ h) (fun h => gw_good _ h)
theorem x_gwcW {y : MethodName} {cc : ByteArray} {maxL : Nat} {ret : Option FieldType} {hh : List (Nat × Nat × Nat × Nat)} (h : Cond.codeWith y cc maxL ret hh ∈ gw) : GoodIn gw (.codeWith y cc maxL ret hh :: gw) := fun w hw => (List.mem_cons.mp hw).elim (fun e => by rw [e]; exact gw_good _ h) (fun h => gw_good _ h)
section XK
variable {p : Program} {l : Launch} {e : Env} {R : Room} {s : State} {m : MethodId} {args : Array Value} {below : List Frame} {meth : Method} {c : Code} {D : va_G} {A : Nat → Prop} {nL cells slots : Nat} {Q : State → Prop}
variable {cc : ByteArray} {own : String} {ws w2 : va_W} {pc : Nat} {ls : List (Option Value)} {rest : List Value} {kc : Nat → ClassId}
theorem x_cb {y : MethodName} {bytes : ByteArray} {maxL n index : Nat} {ret : Option FieldType} {rm : Room} (hts : ∀ w ∈ gw, w.before args s = true) (h1 : Cond.code y bytes maxL ret ∈ gw) (h2 : Cond.initialized y.cls ∈ gw) (h3 : y.cls ≠ "java/lang/invoke/MethodHandle" ∧ y.cls ≠ "java/lang/invoke/VarHandle") (h4 : (parseMethodDescriptor y.desc).map (fun d => d.parameters.length) = some n)
    (hlk : Cond.methodLink own index y ∈ gw) (hR : rm.frames + 1 ≤ R.frames ∧ 8 + (maxL + 11) + rm.locals ≤ R.locals) : CallB R s args own index y bytes maxL ret (.code y bytes maxL ret :: gw) rm rm.cells rm.slots n :=
  ⟨rfl, rfl, hR.1, hR.2, pay_in hts (x_gwc h1), List.mem_cons_self, hts _ h1, hts _ h2, h3, fun sig h => by rw [h] at h4; exact (Option.some.inj h4).symm, hts _ hlk⟩
theorem x_pre {H : Heap} {locs : List Loc} {As : List Value} (TB : x_TB D kc A s s.heap) (hAA : ∀ q : Nat, s.heap.size ≤ q → A q) (hP : va_P D vwCl ws H) (hD : va_D A ws) (hS : va_S A s.heap H locs) : ∀ U : State, U.heap = H → s.WarmedH U.vm → x_Pc D kc A As ws As.toArray U := fun U hU hW =>
  ⟨rfl, by rw [hU]; exact hP, hD, by rw [hU]; exact (TB.kept hS.2.1).moved hW, fun q h => hAA q (Nat.le_trans hS.1 (by rw [← hU]; exact h))⟩
theorem x_back {H : Heap} {locs : List Loc} {la : Array Slot} {mc ms : Nat} {v : Option Value} {st : List Value} {aa : Array Value} (hS : va_S A s.heap H locs) (hl : x_lh la nL ls) (hr : va_Run p l e R s m args below meth c H locs cells slots mc ms (F0 m pc la st) rest (x_Qc D A v w2 aa) A)
    (kk : x_X p l e R s m args below meth c D A nL (cells + mc) (slots + ms) Q w2 (pc + 3) ls (v.toList ++ rest)) : W p l e R s m args below meth c H locs cells slots Q (F0 m pc la st) := by
  intro T hT X
  obtain ⟨v', st0, t, T', L, h0, X', hL, e1, e2, ⟨⟨hv, hP1, hD1⟩, hF⟩, stp⟩ := hr T hT X
  cases hv
  obtain ⟨k1, k2, k3⟩ := vx_keep h0 e1 hS (fun _ _ h => h) (fun _ h => h) hL hF
  obtain ⟨t2, a1, b1⟩ := kk T'.heap (locs ++ L) la (by rw [e1]; exact hP1) hD1 k3 hl T' rfl X'
  exact ⟨t2, stp t2 a1, b1⟩
/-- a method of an object, called: it returns -/
theorem x_callV (M : CallFix p m c cc nL s args gw own) (TB : x_TB D kc A s s.heap) (hAA : ∀ q : Nat, s.heap.size ≤ q → A q) {y : MethodName} {bytes : ByteArray} {maxL index b q0 ci : Nat} {ret : Option FieldType} {rm : Room} {st : List Value} {As : List Value} {v : Option Value} {fs : List Value} {qv : vw_C} (mv : x_MV y bytes maxL ret As.length)
    (hlk : Cond.methodLink own index y ∈ gw) (hdg : decode cc pc = .ok (.invokevirtual index, 3)) (hM : x_Ret l D kc A y bytes maxL ret rm (.ref b :: As) ws v w2) (hst0 : As.reverse ++ .ref b :: rest = st) (he : ws[q0]? = some (b, .inr (ci, fs))) (hc : vwCl[ci]? = some qv) (hC : qv.1 = y.cls)
    (hR : rm.frames + 1 ≤ R.frames ∧ 8 + (maxL + 11) + rm.locals ≤ R.locals) (hcs : cells + rm.cells ≤ R.cells ∧ slots + rm.slots ≤ R.slots) (hst : (rest.map fun v => v.category).sum ≤ 8)
    (kk : x_X p l e R s m args below meth c D A nL (cells + rm.cells) (slots + rm.slots) Q w2 (pc + 3) ls (v.toList ++ rest)) : x_X p l e R s m args below meth c D A nL cells slots Q ws pc ls st := fun H locs la hP hD hS hl => by
  subst hst0
  obtain ⟨h1, h2, h3, h4, h5, h6⟩ := mv
  have hrec := va_recv TB.1 hP hc he
  rw [hC] at hrec
  exact x_back hS hl (va_runV (C := y.cls) (g := F0 m pc la (As.reverse ++ .ref b :: rest)) (rest := rest) M hM ⟨x_cb M.2.2.2.2 h1 h2 h3 h4 hlk hR, M.2.2.2.2 _ h5, M.2.2.2.2 _ h6⟩ ⟨x_blind, hrec, x_pre (As := .ref b :: As) TB hAA hP hD hS⟩ rfl rfl hl.1 rfl (lv_room hst) hdg hcs) kk
/-- a static method, called: it returns -/
theorem x_callS (M : CallFix p m c cc nL s args gw own) (TB : x_TB D kc A s s.heap) (hAA : ∀ q : Nat, s.heap.size ≤ q → A q) {y : MethodName} {bytes : ByteArray} {maxL index : Nat} {ret : Option FieldType} {rm : Room} {st : List Value} {As : List Value} {v : Option Value} (mv : x_MS y bytes maxL ret As.length)
    (hlk : Cond.methodLink own index y ∈ gw) (hdg : decode cc pc = .ok (.invokestatic index, 3)) (hM : x_Ret l D kc A y bytes maxL ret rm As ws v w2) (hst0 : As.reverse ++ rest = st)
    (hR : rm.frames + 1 ≤ R.frames ∧ 8 + (maxL + 11) + rm.locals ≤ R.locals) (hcs : cells + rm.cells ≤ R.cells ∧ slots + rm.slots ≤ R.slots) (hst : (rest.map fun v => v.category).sum ≤ 8)
    (kk : x_X p l e R s m args below meth c D A nL (cells + rm.cells) (slots + rm.slots) Q w2 (pc + 3) ls (v.toList ++ rest)) : x_X p l e R s m args below meth c D A nL cells slots Q ws pc ls st := fun H locs la hP hD hS hl => by
  subst hst0
  obtain ⟨h1, h2, h3, h4, h5⟩ := mv
  exact x_back hS hl (va_runS (g := F0 m pc la (As.reverse ++ rest)) (rest := rest) M hM ⟨x_cb M.2.2.2.2 h1 h2 h3 h4 hlk hR, M.2.2.2.2 _ h5⟩ ⟨x_blind, x_pre (As := As) TB hAA hP hD hS⟩ rfl rfl hl.1 rfl (lv_room hst) hdg hcs) kk
/-- a static method with handlers of its own, called: it returns -/
theorem x_callW (M : CallFix p m c cc nL s args gw own) (TB : x_TB D kc A s s.heap) (hAA : ∀ q : Nat, s.heap.size ≤ q → A q) {y : MethodName} {bytes : ByteArray} {maxL index : Nat} {ret : Option FieldType} {hh : List (Nat × Nat × Nat × Nat)} {rm : Room} {st : List Value} {As : List Value} {v : Option Value} (mv : x_MW y bytes maxL ret hh As.length)
    (hlk : Cond.methodLink own index y ∈ gw) (hdg : decode cc pc = .ok (.invokestatic index, 3)) (hM : x_RetW l D kc A y bytes maxL ret hh rm As ws v w2) (hst0 : As.reverse ++ rest = st)
    (hR : rm.frames + 1 ≤ R.frames ∧ 8 + (maxL + 11) + rm.locals ≤ R.locals) (hcs : cells + rm.cells ≤ R.cells ∧ slots + rm.slots ≤ R.slots) (hst : (rest.map fun v => v.category).sum ≤ 8)
    (kk : x_X p l e R s m args below meth c D A nL (cells + rm.cells) (slots + rm.slots) Q w2 (pc + 3) ls (v.toList ++ rest)) : x_X p l e R s m args below meth c D A nL cells slots Q ws pc ls st := fun H locs la hP hD hS hl => by
  subst hst0
  obtain ⟨h1, h2, h3, h4, h5⟩ := mv
  have cw : vx_CSW R s args own index y bytes maxL ret hh (.codeWith y bytes maxL ret hh :: gw) rm rm.cells rm.slots As.length :=
    ⟨⟨rfl, rfl, hR.1, hR.2, pay_in M.2.2.2.2 (x_gwcW h1), List.mem_cons_self⟩, M.2.2.2.2 _ h1, M.2.2.2.2 _ h2, h3, fun sig h => by rw [h] at h4; exact (Option.some.inj h4).symm, M.2.2.2.2 _ hlk, M.2.2.2.2 _ h5⟩
  exact x_back hS hl (vx_runSW (g := F0 m pc la (As.reverse ++ rest)) (rest := rest) M hM cw ⟨x_blind, x_pre (As := As) TB hAA hP hD hS⟩ rfl rfl hl.1 rfl (lv_room hst) hdg hcs) kk
/-- something thrown over this frame -/
def x_T (p : Program) (l : Launch) (e : Env) (R : Room) (s : State) (m : MethodId) (args : Array Value) (below : List Frame) (meth : Method) (c : Code) (D : va_G) (A : Nat → Prop) (nL cells slots : Nat) (Q : State → Prop) (ws : va_W) (pc : Nat) (ls : List (Option Value)) (rest : List Value) (E : String) : Prop :=
  ∀ (H : Heap) (locs : List Loc) (la : Array Slot) (q : Addr) (ce : Cell), va_P D vwCl ws H → va_D A ws → va_S A s.heap H locs → x_lh la nL ls → H[q]? = some ce → ce.vm = .none → s.vm.findClass E = some ce.cls → vx_W p l e R s m args below meth c H locs cells slots Q (F0 m pc la rest) q
theorem x_backT {H : Heap} {locs : List Loc} {la : Array Slot} {mc ms : Nat} {st : List Value} {aa : Array Value} {E : String} (hS : va_S A s.heap H locs) (hl : x_lh la nL ls) (hr : vx_Run p l e R s m args below meth c H locs cells slots mc ms (F0 m pc la st) rest ((fun _ _ _ _ => False : Array Value → State → Outcome → State → Prop) aa) (x_XC D A E w2) A)
    (kk : x_T p l e R s m args below meth c D A nL (cells + mc) (slots + ms) Q w2 pc ls rest E) : W p l e R s m args below meth c H locs cells slots Q (F0 m pc la st) := by
  intro T hT X
  rcases hr T hT X with ⟨v, st₀, t, T', L, h0, X', hL, e1, e2, hf, -⟩ | ⟨q, st₀, t, T', L, E', ce, h0, X', hL, e1, e2, ⟨⟨hE, hP1, hD1⟩, hF⟩, hce, hcv, hcl, stp⟩
  · exact hf.elim
  · obtain ⟨k1, k2, k3⟩ := vx_keep h0 e1 hS (fun _ _ h => h) (fun _ h => h) hL hF
    subst hE
    obtain ⟨t2, a1, b1⟩ := kk T'.heap (locs ++ L) la q ce (by rw [e1]; exact hP1) hD1 k3 hl (by rw [e1]; exact hce) hcv hcl T' rfl X'
    exact ⟨t2, stp.trans a1, b1⟩
/-- a method of an object, called: it throws -/
theorem x_callVT (M : CallFix p m c cc nL s args gw own) (TB : x_TB D kc A s s.heap) (hAA : ∀ q : Nat, s.heap.size ≤ q → A q) {y : MethodName} {bytes : ByteArray} {maxL index b q0 ci : Nat} {ret : Option FieldType} {rm : Room} {st : List Value} {As : List Value} {E : String} {fs : List Value} {qv : vw_C} (mv : x_MV y bytes maxL ret As.length)
    (hlk : Cond.methodLink own index y ∈ gw) (hdg : decode cc pc = .ok (.invokevirtual index, 3)) (hM : x_Thr l D kc A y bytes maxL ret rm (.ref b :: As) ws E) (hst0 : As.reverse ++ .ref b :: rest = st) (he : ws[q0]? = some (b, .inr (ci, fs))) (hc : vwCl[ci]? = some qv) (hC : qv.1 = y.cls)
    (hR : rm.frames + 1 ≤ R.frames ∧ 8 + (maxL + 11) + rm.locals ≤ R.locals) (hcs : cells + rm.cells ≤ R.cells ∧ slots + rm.slots ≤ R.slots) (hst : (rest.map fun v => v.category).sum ≤ 8)
    (kk : x_T p l e R s m args below meth c D A nL (cells + rm.cells) (slots + rm.slots) Q ws pc ls rest E) : x_X p l e R s m args below meth c D A nL cells slots Q ws pc ls st := fun H locs la hP hD hS hl => by
  subst hst0
  obtain ⟨h1, h2, h3, h4, h5, h6⟩ := mv
  have hrec := va_recv TB.1 hP hc he
  rw [hC] at hrec
  exact x_backT (aa := #[]) hS hl (vx_runV (C := y.cls) (g := F0 m pc la (As.reverse ++ .ref b :: rest)) (rest := rest) M hM ⟨x_cb M.2.2.2.2 h1 h2 h3 h4 hlk hR, M.2.2.2.2 _ h5, M.2.2.2.2 _ h6⟩ ⟨x_blind, hrec, x_pre (As := .ref b :: As) TB hAA hP hD hS⟩ rfl rfl hl.1 rfl (lv_room hst) hdg hcs) kk
/-- a static method, called: it throws -/
theorem x_callST (M : CallFix p m c cc nL s args gw own) (TB : x_TB D kc A s s.heap) (hAA : ∀ q : Nat, s.heap.size ≤ q → A q) {y : MethodName} {bytes : ByteArray} {maxL index : Nat} {ret : Option FieldType} {rm : Room} {st : List Value} {As : List Value} {E : String} (mv : x_MS y bytes maxL ret As.length)
    (hlk : Cond.methodLink own index y ∈ gw) (hdg : decode cc pc = .ok (.invokestatic index, 3)) (hM : x_Thr l D kc A y bytes maxL ret rm As ws E) (hst0 : As.reverse ++ rest = st)
    (hR : rm.frames + 1 ≤ R.frames ∧ 8 + (maxL + 11) + rm.locals ≤ R.locals) (hcs : cells + rm.cells ≤ R.cells ∧ slots + rm.slots ≤ R.slots) (hst : (rest.map fun v => v.category).sum ≤ 8)
    (kk : x_T p l e R s m args below meth c D A nL (cells + rm.cells) (slots + rm.slots) Q ws pc ls rest E) : x_X p l e R s m args below meth c D A nL cells slots Q ws pc ls st := fun H locs la hP hD hS hl => by
  subst hst0
  obtain ⟨h1, h2, h3, h4, h5⟩ := mv
  exact x_backT (aa := #[]) hS hl (vx_runS (g := F0 m pc la (As.reverse ++ rest)) (rest := rest) M hM ⟨x_cb M.2.2.2.2 h1 h2 h3 h4 hlk hR, M.2.2.2.2 _ h5⟩ ⟨x_blind, x_pre (As := As) TB hAA hP hD hS⟩ rfl rfl hl.1 rfl (lv_room hst) hdg hcs) kk
/-- thrown on to the caller, out of a method without handlers -/
theorem x_Tout {E : String} {mc ms : Nat} {Qc : Array Value → State → Outcome → State → Prop} (hno : ∀ x ∈ c.exceptionTable.toList, False) (hlocks : meth.locks = false) (hc : cells ≤ mc) (hs : slots ≤ ms) :
    x_T p l e R s m args below meth c D A nL cells slots (vx_MQ below Qc (x_XC D A E ws) args s mc ms A) ws pc ls rest E := fun H locs la q ce hP hD hS hl hce hcv hcl =>
  vx_out (fun x hx => (hno x hx).elim) hlocks hce hcv hcl (fun t ht _ => ⟨⟨rfl, by rw [ht]; exact hP, hD⟩, hS.F ht⟩) hS.2.2 hc hs
/-- thrown, and caught by this method's row x -/
theorem x_Tcatch {E name : String} (M : CallFix p m c cc nL s args gw own) (pre : List ExceptionTableEntry) (x : ExceptionTableEntry) (suf : List ExceptionTableEntry) (hsplit : c.exceptionTable.toList = pre ++ x :: suf)
    (hpass : ∀ z ∈ pre, covers z pc = false ∨ (z.catchType ≠ 0 ∧ ∃ nm : String, (Cond.classLink own z.catchType nm).before args s = true ∧ va_Nc E nm s)) (hx : covers x pc = true) (h0 : x.catchType ≠ 0)
    (hlink : (Cond.classLink own x.catchType name).before args s = true) (hcast : va_Nw (.castable E name) s)
    (kk : ∀ q : Nat, x_X p l e R s m args below meth c D A nL cells slots Q ws x.handlerPc ls [.ref q]) : x_T p l e R s m args below meth c D A nL cells slots Q ws pc ls rest E := fun H locs la q ce hP hD hS hl hce hcv hcl =>
  vx_catch M.2.2.2.1 pre x suf hsplit hpass hx h0 hlink (va_Nw.use rfl hcast) hce hcv hcl (kk q H locs la hP hD hS hl)
/-- throw new E("text"), out of a method without handlers -/
theorem x_throw (M : CallFix p m c cc nL s args gw own) (TB : x_TB D kc A s s.heap) (hl0 : l.stackTraces = false) {E text : String} {ik is ic mc ms : Nat} {Qc : Array Value → State → Outcome → State → Prop} (hno : ∀ x ∈ c.exceptionTable.toList, False) (hlocks : meth.locks = false)
    (hcls : Bundle.fit E = true) (hk : Cond.classLink own ik E ∈ gw) (hini : Cond.initialized E ∈ gw) (hstr : ∃ a, vk_R own is text a s) (hcast : va_Nw (.castable E E) s)
    (hat1 : ∀ w ∈ (vx_atS own ic E ["java/lang/RuntimeException", "java/lang/Exception"]).filter goodWord, w ∈ gw) (hat2 : ∀ w ∈ (vx_atS own ic E ["java/lang/RuntimeException", "java/lang/Exception"]).filter (fun w => !goodWord w), w ∈ x_xw E)
    (hgood : ∀ w ∈ Cond.classLink own ik E :: Cond.initialized E :: vx_atS own ic E ["java/lang/RuntimeException", "java/lang/Exception"], vx_ot w = true)
    (d0 : decode cc pc = .ok (.new ik, 3)) (d3 : decode cc (pc + 3) = .ok (.dup, 1)) (d4 : decode cc (pc + 4) = .ok (.ldc is, 2)) (d6 : decode cc (pc + 6) = .ok (.invokespecial ic, 3)) (d9 : decode cc (pc + 9) = .ok (.athrow, 1))
    (hR : 5 < R.frames ∧ 82 ≤ R.locals) (hcs : cells + 1 ≤ R.cells ∧ slots + 6 ≤ R.slots) (hc : cells + 1 ≤ mc ∧ slots + 6 ≤ ms) :
    x_X p l e R s m args below meth c D A nL cells slots (vx_MQ below Qc (x_XC D A E ws) args s mc ms A) ws pc ls [] := fun H locs la hP hD hS hl => by
  obtain ⟨sa, hsa⟩ := hstr
  obtain ⟨hx, hb, hml, hown, hts⟩ := M
  refine vx_throwS (A := A) (own := own) (cls := E) (text := text) (names := ["java/lang/RuntimeException", "java/lang/Exception"]) (ik := ik) (is := is) (ic := ic) (sa := sa) hx hb hl0 hown hcls (by decide +kernel) (hts _ hk) (hts _ hini) hsa
    (vx_hat (B := x_xw E) (fun w hw => hts w (hat1 w hw)) hat2 (vx_c (va_Nw.use rfl hcast) (vx_c (va_Nw.use rfl TB.2.2.2.1.2.2.2.1) (vx_c (va_Nw.use rfl TB.2.2.2.1.2.2.2.2.1) (vx_c (va_Nw.use rfl TB.2.2.2.1.2.2.2.2.2.1) vx_n))))) hgood TB.2.1.1 TB.2.1.2 hS (hl.1.trans hml.symm) d0 d3 d4 d6 d9 (fun x hx => (hno x hx).elim)
    (by show 2 + 3 < R.frames; omega) (by show 0 + (13 * (2 + 1) + 43) ≤ R.locals; omega) hcs.1 hcs.2 hlocks (fun t _ h1 h2 => ⟨⟨rfl, hP.kept (fun k q hq => h2 q.1 ((hP k q hq).lt)), hD⟩, ?_⟩) hS.2.2 hc.1 hc.2
  exact ⟨Nat.le_trans hS.1 h1, fun q g1 g2 => (h2 q (Nat.lt_of_lt_of_le g1 hS.1)).trans (hS.2.1 q g1 g2)⟩
-- returns
theorem x_iret {mc ms : Nat} {x : Int32} {v : Option Value} (M : CallFix p m c cc nL s args gw own) (hr : meth.sig.returnType = some .int) (hlocks : meth.locks = false) (hdg : decode cc pc = .ok (.ireturn, 1)) (hc : cells ≤ mc ∧ slots ≤ ms) (hv : some (.int x) = v) (hw : ws = w2) :
    x_X p l e R s m args below meth c D A nL cells slots (MQ below (x_Qc D A v w2) args s mc ms A) ws pc ls [.int x] := fun H locs la hP hD hS hl => by
  subst hv; subst hw
  exact W.widen hc.1 hc.2 (W.iret M.1 M.2.1 hr (fun t ht _ => ⟨⟨rfl, by rw [ht]; exact hP, hD⟩, hS.F ht⟩) hS.2.2 hdg hlocks)
theorem x_zret {mc ms : Nat} {x : Int32} {v : Option Value} (M : CallFix p m c cc nL s args gw own) (hr : meth.sig.returnType = some .boolean) (hlocks : meth.locks = false) (hdg : decode cc pc = .ok (.ireturn, 1)) (hc : cells ≤ mc ∧ slots ≤ ms) (hn : x = 0 ∨ x = 1) (hv : some (.int x) = v) (hw : ws = w2) :
    x_X p l e R s m args below meth c D A nL cells slots (MQ below (x_Qc D A v w2) args s mc ms A) ws pc ls [.int x] := fun H locs la hP hD hS hl => by
  subst hv; subst hw
  exact W.widen hc.1 hc.2 (W.zret M.1 M.2.1 hr (by rcases hn with rfl | rfl <;> decide) (fun t ht _ => ⟨⟨rfl, by rw [ht]; exact hP, hD⟩, hS.F ht⟩) hS.2.2 hdg hlocks)
theorem x_aret {mc ms : Nat} {a : Nat} {n : String} {v : Option Value} (M : CallFix p m c cc nL s args gw own) (hr : meth.sig.returnType = some (.object n)) (hlocks : meth.locks = false) (hdg : decode cc pc = .ok (.areturn, 1)) (hc : cells ≤ mc ∧ slots ≤ ms) (hv : some (.ref a) = v) (hw : ws = w2) :
    x_X p l e R s m args below meth c D A nL cells slots (MQ below (x_Qc D A v w2) args s mc ms A) ws pc ls [.ref a] := fun H locs la hP hD hS hl => by
  subst hv; subst hw
  exact W.widen hc.1 hc.2 (W.aret M.1 M.2.1 hr (Or.inl ⟨n, rfl⟩) (Or.inr ⟨a, rfl⟩) (fun t ht _ => ⟨⟨rfl, by rw [ht]; exact hP, hD⟩, hS.F ht⟩) hS.2.2 hdg hlocks)
theorem x_vret {mc ms : Nat} {v : Option Value} (M : CallFix p m c cc nL s args gw own) (hr : meth.sig.returnType = none) (hlocks : meth.locks = false) (hdg : decode cc pc = .ok (.return_, 1)) (hc : cells ≤ mc ∧ slots ≤ ms) (hv : none = v) (hw : ws = w2) :
    x_X p l e R s m args below meth c D A nL cells slots (MQ below (x_Qc D A v w2) args s mc ms A) ws pc ls [] := fun H locs la hP hD hS hl => by
  subst hv; subst hw
  exact W.widen hc.1 hc.2 (W.vret M.1 M.2.1 hr (fun t ht _ => ⟨⟨rfl, by rw [ht]; exact hP, hD⟩, hS.F ht⟩) hS.2.2 hdg hlocks)
end XK
section XE
variable {l : Launch} {D : va_G} {kc : Nat → ClassId} {A : Nat → Prop} {y : MethodName} {cc : ByteArray} {maxL : Nat} {ret : Option FieldType} {rm : Room} {As : List Value} {ws w2 : va_W} {v : Option Value}
/-- a contract that returns, from the walk of its body -/
theorem x_ret_of (own : String) (hy : plainName y.cls = true) (ho : y.cls = own) (ls0 : List (Option Value)) (hn : As.length ≤ maxL) (hcat0 : As.all (fun v => v.category == 1) = true) (h0 : As.map some ++ List.replicate (maxL - As.length) none = ls0)
    (body : ∀ (p : Program) (e : Env) (s : State) (m : MethodId) (args : Array Value) (below : List Frame) (meth : Method) (c : Code), CallFix p m c cc maxL s args gw own → meth.sig.returnType = ret → meth.locks = false → meth.name = y.name → x_TB D kc A s s.heap → (∀ q : Nat, s.heap.size ≤ q → A q) →
      x_X p l e rm s m args below meth c D A maxL 0 0 (MQ below (x_Qc D A v w2) args s rm.cells rm.slots A) ws 0 ls0 []) : x_Ret l D kc A y cc maxL ret rm As ws v w2 := by
  refine Met.ofW (cc := cc) (maxL := maxL) (ret := ret) hy rfl ?_
  intro p e s m args below meth c s₁ B hml hv
  obtain ⟨rfl, hP, hD, hT, hA⟩ := hv
  have hts := atoms_spec (ws := .code y cc maxL ret :: gw) B.pre
  have hown : s.vm.findClass own = some m.cls := by rw [← ho]; exact findClass_of_methodNamed B.named
  have k := body p e s m As.toArray below meth c ⟨B.exec, B.bytes, hml, hown, fun w h => hts w (List.mem_cons_of_mem _ h)⟩ B.returns B.notSynchronized (name_of_methodNamed B.named B.method).1 hT hA
  rw [lg_entry_eq]
  exact k s.heap [] _ hP hD va_S.rf (by rw [← h0]; exact x_lh_entry As hn (fun v hv => by have := List.all_eq_true.mp hcat0 v hv; simpa using this))
theorem x_thr_of {E : String} (own : String) (hy : plainName y.cls = true) (ho : y.cls = own) (ls0 : List (Option Value)) (hn : As.length ≤ maxL) (hcat0 : As.all (fun v => v.category == 1) = true) (h0 : As.map some ++ List.replicate (maxL - As.length) none = ls0)
    (body : ∀ (p : Program) (e : Env) (s : State) (m : MethodId) (args : Array Value) (below : List Frame) (meth : Method) (c : Code), CallFix p m c cc maxL s args gw own → meth.sig.returnType = ret → meth.locks = false → (∀ x ∈ c.exceptionTable.toList, False) → x_TB D kc A s s.heap → (∀ q : Nat, s.heap.size ≤ q → A q) →
      x_X p l e rm s m args below meth c D A maxL 0 0 (vx_MQ below (fun _ _ _ _ => False) (x_XC D A E ws) args s rm.cells rm.slots A) ws 0 ls0 []) : x_Thr l D kc A y cc maxL ret rm As ws E := by
  refine vx_ofW (cc := cc) (maxL := maxL) (ret := ret) hy rfl ?_
  intro p e s m args below meth c s₁ B hml hno hv
  obtain ⟨rfl, hP, hD, hT, hA⟩ := hv
  have hts := atoms_spec (ws := .code y cc maxL ret :: gw) B.pre
  have hown : s.vm.findClass own = some m.cls := by rw [← ho]; exact findClass_of_methodNamed B.named
  have k := body p e s m As.toArray below meth c ⟨B.exec, B.bytes, hml, hown, fun w h => hts w (List.mem_cons_of_mem _ h)⟩ B.returns B.notSynchronized hno hT hA
  rw [lg_entry_eq]
  exact k s.heap [] _ hP hD va_S.rf (by rw [← h0]; exact x_lh_entry As hn (fun v hv => by have := List.all_eq_true.mp hcat0 v hv; simpa using this))
theorem x_retW_of {hh : List (Nat × Nat × Nat × Nat)} (own : String) (hy : plainName y.cls = true) (ho : y.cls = own) (ls0 : List (Option Value)) (hn : As.length ≤ maxL) (hcat0 : As.all (fun v => v.category == 1) = true) (h0 : As.map some ++ List.replicate (maxL - As.length) none = ls0)
    (body : ∀ (p : Program) (e : Env) (s : State) (m : MethodId) (args : Array Value) (below : List Frame) (meth : Method) (c : Code), CallFix p m c cc maxL s args gw own → meth.sig.returnType = ret → meth.locks = false → c.exceptionTable.toList = tableOf hh → x_TB D kc A s s.heap → (∀ q : Nat, s.heap.size ≤ q → A q) →
      x_X p l e rm s m args below meth c D A maxL 0 0 (MQ below (x_Qc D A v w2) args s rm.cells rm.slots A) ws 0 ls0 []) : x_RetW l D kc A y cc maxL ret hh rm As ws v w2 := by
  refine va_MetW (cc := cc) (maxL := maxL) (ret := ret) (hh := hh) hy rfl ?_
  intro p e s m args below meth c s₁ B hml hv
  obtain ⟨rfl, hP, hD, hT, hA⟩ := hv
  have hts := atoms_spec (ws := .codeWith y cc maxL ret hh :: gw) B.pre
  have hown : s.vm.findClass own = some m.cls := by rw [← ho]; exact findClass_of_methodNamed B.named
  have k := body p e s m As.toArray below meth c ⟨B.exec, B.bytes, hml, hown, fun w h => hts w (List.mem_cons_of_mem _ h)⟩ B.returns B.notSynchronized (vx_table (x := y) B (hts _ List.mem_cons_self)) hT hA
  rw [lg_entry_eq]
  exact k s.heap [] _ hP hD va_S.rf (by rw [← h0]; exact x_lh_entry As hn (fun v hv => by have := List.all_eq_true.mp hcat0 v hv; simpa using this))
end XE
