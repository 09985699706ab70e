/-! CONTRACTS over a list of cells: x_Ret (it returns v, the cells are w2); how they are proved and called -/
def x_tys (kc : Nat → ClassId) : List (ClassId × FieldType) := [(kc 0, .int), (kc 1, .long), (kc 2, .object "GlassLabels$Label"), (kc 3, .array .int)]
/-- what the tables say, at a state -/
def x_TB (D : va_G) (kc : Nat → ClassId) (U : State) : Prop :=
  va_K D vwCl (x_tys kc) U ∧ va_AO "GlassLabels$Label" U ∧ va_AOA .int U ∧ va_Nw (.methodLinkNest RX2 36 yX0_init RX2) U
theorem va_AOA.warm {ty : FieldType} {s U : State} (hW : s.WarmedH U.vm) (h : va_AOA ty s) : va_AOA ty U := by
  have h1 : (Cond.arrayOver (.array ty)).before #[] (s.setVm U.vm) = true := by rw [Cond.arrayOver_setVmC hW.alike]; exact h
  unfold va_AOA
  simp only [Cond.before, Cond.holds, Cond.value, State.vm_setVm] at h1 ⊢
  exact h1
theorem x_TB.moved {D : va_G} {kc : Nat → ClassId} {u U : State} (hW : u.WarmedH U.vm) (h : x_TB D kc u) : x_TB D kc U := by
  obtain ⟨h1, j4, j5, j6⟩ := h
  exact ⟨h1.moved hW.alike, va_AO.moved hW.alike j4, va_AOA.warm hW j5, va_Nw.warmM hW j6⟩
def x_Pc (D : va_G) (kc : Nat → ClassId) (A : Nat → Prop) (As : List Value) (ws : va_W) : Array Value → State → Prop :=
  va_Pc As (fun U => va_P D vwCl ws U.heap ∧ va_D A ws ∧ x_TB D kc U ∧ ∀ q : Nat, U.heap.size ≤ q → A q)
def x_Qc (D : va_G) (A : Nat → Prop) (v : Option Value) (w2 : va_W) : Array Value → State → Outcome → State → Prop := fun _ st o t => (o = .returned v ∧ va_P D vwCl w2 t.heap ∧ va_D A w2) ∧ va_F A st t
def x_Ret (l : Launch) (D : va_G) (kc : Nat → ClassId) (A : Nat → Prop) (y : MethodName) (cc : ByteArray) (maxL : Nat) (ret : Option FieldType) (rm : Room) (As : List Value) (ws : va_W) (v : Option Value) (w2 : va_W) : Prop :=
  Met l y (.code y cc maxL ret :: gw) rm (x_Pc D kc A As ws) (x_Qc D A v w2) rm.cells rm.slots A
theorem x_blind {D : va_G} {kc : Nat → ClassId} {A : Nat → Prop} {As : List Value} {ws : va_W} : FrameBlind (x_Pc D kc A As ws) := fun a U g mk q => by
  obtain ⟨h0, h1, h2, h3, h4⟩ := q
  exact ⟨h0, h1, h2, x_TB.moved (u := U) (U := U.calling g mk a) (State.WarmedH.refl U) h3, h4⟩
/-- the cell behind a receiver, and the method's own words -/
def x_MV (y : MethodName) (cc : ByteArray) (maxL : Nat) (ret : Option FieldType) (n : Nat) : Prop :=
  Cond.code y cc maxL ret ∈ gw ∧ Cond.initialized y.cls ∈ gw ∧ (y.cls ≠ "java/lang/invoke/MethodHandle" ∧ y.cls ≠ "java/lang/invoke/VarHandle") ∧ (parseMethodDescriptor y.desc).map (fun d => d.parameters.length) = some n ∧ Cond.instanceMethod y ∈ gw ∧ Cond.selects y.cls y y ∈ gw
def x_MS (y : MethodName) (cc : ByteArray) (maxL : Nat) (ret : Option FieldType) (n : Nat) : Prop :=
  Cond.code y cc maxL ret ∈ gw ∧ Cond.initialized y.cls ∈ gw ∧ (y.cls ≠ "java/lang/invoke/MethodHandle" ∧ y.cls ≠ "java/lang/invoke/VarHandle") ∧ (parseMethodDescriptor y.desc).map (fun d => d.parameters.length) = some n ∧ Cond.static y ∈ gw
theorem x_gwc {y : MethodName} {cc : ByteArray} {maxL : Nat} {ret : Option FieldType} (h : Cond.code y cc maxL ret ∈ gw) : GoodIn gw (.code y cc maxL ret :: gw) := fun w hw => (List.mem_cons.mp hw).elim (fun e => by rw [e]; exact gw_good _ h) (fun h => gw_good _ h)
section XK
variable {p : Program} {l : Launch} {e : Env} {R : Room} {s : State} {m : MethodId} {args : Array Value} {below : List Frame} {meth : Method} {c : Code} {D : va_G} {A : Nat → Prop} {nL cells slots : Nat} {Q : State → Prop}
variable {cc : ByteArray} {own : String} {ws w2 : va_W} {pc : Nat} {ls : List (Option Value)} {rest : List Value} {kc : Nat → ClassId}
theorem x_cb {y : MethodName} {bytes : ByteArray} {maxL n index : Nat} {ret : Option FieldType} {rm : Room} (hts : ∀ w ∈ gw, w.before args s = true) (h1 : Cond.code y bytes maxL ret ∈ gw) (h2 : Cond.initialized y.cls ∈ gw) (h3 : y.cls ≠ "java/lang/invoke/MethodHandle" ∧ y.cls ≠ "java/lang/invoke/VarHandle") (h4 : (parseMethodDescriptor y.desc).map (fun d => d.parameters.length) = some n)
    (hlk : Cond.methodLink own index y ∈ gw) (hR : rm.frames + 1 ≤ R.frames ∧ 8 + (maxL + 11) + rm.locals ≤ R.locals) : CallB R s args own index y bytes maxL ret (.code y bytes maxL ret :: gw) rm rm.cells rm.slots n :=
  ⟨rfl, rfl, hR.1, hR.2, pay_in hts (x_gwc h1), List.mem_cons_self, hts _ h1, hts _ h2, h3, fun sig h => by rw [h] at h4; exact (Option.some.inj h4).symm, hts _ hlk⟩
theorem x_pre {H : Heap} {locs : List Loc} {As : List Value} (TB : x_TB D kc s) (hAA : ∀ q : Nat, s.heap.size ≤ q → A q) (hP : va_P D vwCl ws H) (hD : va_D A ws) (hS : va_S A s.heap H locs) : ∀ U : State, U.heap = H → s.WarmedH U.vm → x_Pc D kc A As ws As.toArray U := fun U hU hW =>
  ⟨rfl, by rw [hU]; exact hP, hD, TB.moved hW, fun q h => hAA q (Nat.le_trans hS.1 (by rw [← hU]; exact h))⟩
theorem x_back {H : Heap} {locs : List Loc} {la : Array Slot} {mc ms : Nat} {v : Option Value} {st : List Value} {aa : Array Value} (hS : va_S A s.heap H locs) (hl : x_lh la nL ls) (hr : va_Run p l e R s m args below meth c H locs cells slots mc ms (F0 m pc la st) rest (x_Qc D A v w2 aa) A)
    (kk : x_X p l e R s m args below meth c D A nL (cells + mc) (slots + ms) Q w2 (pc + 3) ls (v.toList ++ rest)) : W p l e R s m args below meth c H locs cells slots Q (F0 m pc la st) := by
  intro T hT X
  obtain ⟨v', st0, t, T', L, h0, X', hL, e1, e2, ⟨⟨hv, hP1, hD1⟩, hF⟩, stp⟩ := hr T hT X
  cases hv
  obtain ⟨k1, k2, k3⟩ := vx_keep h0 e1 hS (fun _ _ h => h) (fun _ h => h) hL hF
  obtain ⟨t2, a1, b1⟩ := kk T'.heap (locs ++ L) la (by rw [e1]; exact hP1) hD1 k3 hl T' rfl X'
  exact ⟨t2, stp t2 a1, b1⟩
/-- a method of an object, called: it returns -/
theorem x_callV (M : CallFix p m c cc nL s args gw own) (TB : x_TB D kc s) (hAA : ∀ q : Nat, s.heap.size ≤ q → A q) {y : MethodName} {bytes : ByteArray} {maxL index b q0 ci : Nat} {ret : Option FieldType} {rm : Room} {st : List Value} {As : List Value} {v : Option Value} {fs : List Value} {qv : vw_C} (mv : x_MV y bytes maxL ret As.length)
    (hlk : Cond.methodLink own index y ∈ gw) (hdg : decode cc pc = .ok (.invokevirtual index, 3)) (hM : x_Ret l D kc A y bytes maxL ret rm (.ref b :: As) ws v w2) (hst0 : As.reverse ++ .ref b :: rest = st) (he : ws[q0]? = some (b, .inr (ci, fs))) (hc : vwCl[ci]? = some qv) (hC : qv.1 = y.cls)
    (hR : rm.frames + 1 ≤ R.frames ∧ 8 + (maxL + 11) + rm.locals ≤ R.locals) (hcs : cells + rm.cells ≤ R.cells ∧ slots + rm.slots ≤ R.slots) (hst : (rest.map fun v => v.category).sum ≤ 8)
    (kk : x_X p l e R s m args below meth c D A nL (cells + rm.cells) (slots + rm.slots) Q w2 (pc + 3) ls (v.toList ++ rest)) : x_X p l e R s m args below meth c D A nL cells slots Q ws pc ls st := fun H locs la hP hD hS hl => by
  subst hst0
  obtain ⟨h1, h2, h3, h4, h5, h6⟩ := mv
  have hrec := va_recv TB.1 hP hc he
  rw [hC] at hrec
  exact x_back hS hl (va_runV (C := y.cls) (g := F0 m pc la (As.reverse ++ .ref b :: rest)) (rest := rest) M hM ⟨x_cb M.2.2.2.2 h1 h2 h3 h4 hlk hR, M.2.2.2.2 _ h5, M.2.2.2.2 _ h6⟩ ⟨x_blind, hrec, x_pre (As := .ref b :: As) TB hAA hP hD hS⟩ rfl rfl hl.1 rfl (lv_room hst) hdg hcs) kk
/-- a static method, called: it returns -/
theorem x_callS (M : CallFix p m c cc nL s args gw own) (TB : x_TB D kc s) (hAA : ∀ q : Nat, s.heap.size ≤ q → A q) {y : MethodName} {bytes : ByteArray} {maxL index : Nat} {ret : Option FieldType} {rm : Room} {st : List Value} {As : List Value} {v : Option Value} (mv : x_MS y bytes maxL ret As.length)
    (hlk : Cond.methodLink own index y ∈ gw) (hdg : decode cc pc = .ok (.invokestatic index, 3)) (hM : x_Ret l D kc A y bytes maxL ret rm As ws v w2) (hst0 : As.reverse ++ rest = st)
    (hR : rm.frames + 1 ≤ R.frames ∧ 8 + (maxL + 11) + rm.locals ≤ R.locals) (hcs : cells + rm.cells ≤ R.cells ∧ slots + rm.slots ≤ R.slots) (hst : (rest.map fun v => v.category).sum ≤ 8)
    (kk : x_X p l e R s m args below meth c D A nL (cells + rm.cells) (slots + rm.slots) Q w2 (pc + 3) ls (v.toList ++ rest)) : x_X p l e R s m args below meth c D A nL cells slots Q ws pc ls st := fun H locs la hP hD hS hl => by
  subst hst0
  obtain ⟨h1, h2, h3, h4, h5⟩ := mv
  exact x_back hS hl (va_runS (g := F0 m pc la (As.reverse ++ rest)) (rest := rest) M hM ⟨x_cb M.2.2.2.2 h1 h2 h3 h4 hlk hR, M.2.2.2.2 _ h5⟩ ⟨x_blind, x_pre (As := As) TB hAA hP hD hS⟩ rfl rfl hl.1 rfl (lv_room hst) hdg hcs) kk
-- returns
theorem x_iret {mc ms : Nat} {x : Int32} {v : Option Value} (M : CallFix p m c cc nL s args gw own) (hr : meth.sig.returnType = some .int) (hlocks : meth.locks = false) (hdg : decode cc pc = .ok (.ireturn, 1)) (hc : cells ≤ mc ∧ slots ≤ ms) (hv : some (.int x) = v) (hw : ws = w2) :
    x_X p l e R s m args below meth c D A nL cells slots (MQ below (x_Qc D A v w2) args s mc ms A) ws pc ls [.int x] := fun H locs la hP hD hS hl => by
  subst hv; subst hw
  exact W.widen hc.1 hc.2 (W.iret M.1 M.2.1 hr (fun t ht _ => ⟨⟨rfl, by rw [ht]; exact hP, hD⟩, hS.F ht⟩) hS.2.2 hdg hlocks)
theorem x_zret {mc ms : Nat} {x : Int32} {v : Option Value} (M : CallFix p m c cc nL s args gw own) (hr : meth.sig.returnType = some .boolean) (hlocks : meth.locks = false) (hdg : decode cc pc = .ok (.ireturn, 1)) (hc : cells ≤ mc ∧ slots ≤ ms) (hn : x = 0 ∨ x = 1) (hv : some (.int x) = v) (hw : ws = w2) :
    x_X p l e R s m args below meth c D A nL cells slots (MQ below (x_Qc D A v w2) args s mc ms A) ws pc ls [.int x] := fun H locs la hP hD hS hl => by
  subst hv; subst hw
  exact W.widen hc.1 hc.2 (W.zret M.1 M.2.1 hr (by rcases hn with rfl | rfl <;> decide) (fun t ht _ => ⟨⟨rfl, by rw [ht]; exact hP, hD⟩, hS.F ht⟩) hS.2.2 hdg hlocks)
theorem x_aret {mc ms : Nat} {a : Nat} {n : String} {v : Option Value} (M : CallFix p m c cc nL s args gw own) (hr : meth.sig.returnType = some (.object n)) (hlocks : meth.locks = false) (hdg : decode cc pc = .ok (.areturn, 1)) (hc : cells ≤ mc ∧ slots ≤ ms) (hv : some (.ref a) = v) (hw : ws = w2) :
    x_X p l e R s m args below meth c D A nL cells slots (MQ below (x_Qc D A v w2) args s mc ms A) ws pc ls [.ref a] := fun H locs la hP hD hS hl => by
  subst hv; subst hw
  exact W.widen hc.1 hc.2 (W.aret M.1 M.2.1 hr (Or.inl ⟨n, rfl⟩) (Or.inr ⟨a, rfl⟩) (fun t ht _ => ⟨⟨rfl, by rw [ht]; exact hP, hD⟩, hS.F ht⟩) hS.2.2 hdg hlocks)
theorem x_vret {mc ms : Nat} {v : Option Value} (M : CallFix p m c cc nL s args gw own) (hr : meth.sig.returnType = none) (hlocks : meth.locks = false) (hdg : decode cc pc = .ok (.return_, 1)) (hc : cells ≤ mc ∧ slots ≤ ms) (hv : none = v) (hw : ws = w2) :
    x_X p l e R s m args below meth c D A nL cells slots (MQ below (x_Qc D A v w2) args s mc ms A) ws pc ls [] := fun H locs la hP hD hS hl => by
  subst hv; subst hw
  exact W.widen hc.1 hc.2 (W.vret M.1 M.2.1 hr (fun t ht _ => ⟨⟨rfl, by rw [ht]; exact hP, hD⟩, hS.F ht⟩) hS.2.2 hdg hlocks)
end XK
section XE
variable {l : Launch} {D : va_G} {kc : Nat → ClassId} {A : Nat → Prop} {y : MethodName} {cc : ByteArray} {maxL : Nat} {ret : Option FieldType} {rm : Room} {As : List Value} {ws w2 : va_W} {v : Option Value}
/-- a contract that returns, from the walk of its body -/
theorem x_ret_of (own : String) (hy : plainName y.cls = true) (ho : y.cls = own) (ls0 : List (Option Value)) (hn : As.length ≤ maxL) (hcat0 : As.all (fun v => v.category == 1) = true) (h0 : As.map some ++ List.replicate (maxL - As.length) none = ls0)
    (body : ∀ (p : Program) (e : Env) (s : State) (m : MethodId) (args : Array Value) (below : List Frame) (meth : Method) (c : Code), CallFix p m c cc maxL s args gw own → meth.sig.returnType = ret → meth.locks = false → meth.name = y.name → x_TB D kc s → (∀ q : Nat, s.heap.size ≤ q → A q) →
      x_X p l e rm s m args below meth c D A maxL 0 0 (MQ below (x_Qc D A v w2) args s rm.cells rm.slots A) ws 0 ls0 []) : x_Ret l D kc A y cc maxL ret rm As ws v w2 := by
  refine Met.ofW (cc := cc) (maxL := maxL) (ret := ret) hy rfl ?_
  intro p e s m args below meth c s₁ B hml hv
  obtain ⟨rfl, hP, hD, hT, hA⟩ := hv
  have hts := atoms_spec (ws := .code y cc maxL ret :: gw) B.pre
  have hown : s.vm.findClass own = some m.cls := by rw [← ho]; exact findClass_of_methodNamed B.named
  have k := body p e s m As.toArray below meth c ⟨B.exec, B.bytes, hml, hown, fun w h => hts w (List.mem_cons_of_mem _ h)⟩ B.returns B.notSynchronized (name_of_methodNamed B.named B.method).1 hT hA
  rw [lg_entry_eq]
  exact k s.heap [] _ hP hD va_S.rf (by rw [← h0]; exact x_lh_entry As hn (fun v hv => by have := List.all_eq_true.mp hcat0 v hv; simpa using this))
end XE
