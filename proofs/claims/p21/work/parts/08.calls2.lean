theorem up_id (S : St) {r i v : Nat} (h : v = S r i) : up S r i v = S := by
  funext a b
  unfold up
  split
  · rename_i q; rw [q.1, q.2, h]
  · rfl
/-! calls that make nothing; the world's objects as receivers; orders as the class holds them -/
section XZ
variable {p : Program} {l : Launch} {e : Env} {R : Room} {s : State} {m : MethodId} {args : Array Value} {below : List Frame} {meth : Method} {c : Code} {D : va_G} {A : Nat → Prop} {nL cells slots : Nat} {Q : State → Prop}
variable {cc : ByteArray} {own : String} {ws w2 : va_W} {pc : Nat} {ls : List (Option Value)} {rest : List Value} {kc : Nat → ClassId}
theorem x_callV0 (M : CallFix p m c cc nL s args gw own) (TB : x_TB D kc s) (hAA : ∀ q : Nat, s.heap.size ≤ q → A q) {y : MethodName} {bytes : ByteArray} {maxL index b q0 ci : Nat} {ret : Option FieldType} {rm : Room} {st : List Value} {As : List Value} {v : Option Value} {fs : List Value} {qv : vw_C} (mv : x_MV y bytes maxL ret As.length)
    (hlk : Cond.methodLink own index y ∈ gw) (hdg : decode cc pc = .ok (.invokevirtual index, 3)) (hM : x_Ret l D kc A y bytes maxL ret rm (.ref b :: As) ws v w2) (hst0 : As.reverse ++ .ref b :: rest = st) (he : ws[q0]? = some (b, .inr (ci, fs))) (hc : vwCl[ci]? = some qv) (hC : qv.1 = y.cls)
    (hR : rm.frames + 1 ≤ R.frames ∧ 8 + (maxL + 11) + rm.locals ≤ R.locals) (hcs : (rm.cells = 0 ∧ rm.slots = 0) ∧ (cells ≤ R.cells ∧ slots ≤ R.slots)) (hst : (rest.map fun v => v.category).sum ≤ 8)
    (kk : x_X p l e R s m args below meth c D A nL cells slots Q w2 (pc + 3) ls (v.toList ++ rest)) : x_X p l e R s m args below meth c D A nL cells slots Q ws pc ls st :=
  x_callV M TB hAA mv hlk hdg hM hst0 he hc hC hR (by rw [hcs.1.1, hcs.1.2]; exact hcs.2) hst (by rw [hcs.1.1, hcs.1.2]; exact kk)
theorem x_callS0 (M : CallFix p m c cc nL s args gw own) (TB : x_TB D kc s) (hAA : ∀ q : Nat, s.heap.size ≤ q → A q) {y : MethodName} {bytes : ByteArray} {maxL index : Nat} {ret : Option FieldType} {rm : Room} {st : List Value} {As : List Value} {v : Option Value} (mv : x_MS y bytes maxL ret As.length)
    (hlk : Cond.methodLink own index y ∈ gw) (hdg : decode cc pc = .ok (.invokestatic index, 3)) (hM : x_Ret l D kc A y bytes maxL ret rm As ws v w2) (hst0 : As.reverse ++ rest = st)
    (hR : rm.frames + 1 ≤ R.frames ∧ 8 + (maxL + 11) + rm.locals ≤ R.locals) (hcs : (rm.cells = 0 ∧ rm.slots = 0) ∧ (cells ≤ R.cells ∧ slots ≤ R.slots)) (hst : (rest.map fun v => v.category).sum ≤ 8)
    (kk : x_X p l e R s m args below meth c D A nL cells slots Q w2 (pc + 3) ls (v.toList ++ rest)) : x_X p l e R s m args below meth c D A nL cells slots Q ws pc ls st :=
  x_callS M TB hAA mv hlk hdg hM hst0 hR (by rw [hcs.1.1, hcs.1.2]; exact hcs.2) hst (by rw [hcs.1.1, hcs.1.2]; exact kk)
theorem nI_m1 {v : Nat} (h : v < 2 ^ 31) : ¬ nI v = -1 := fun q => by
  have h1 := nI_toInt h
  rw [q] at h1
  have h2 : ((-1 : Int32)).toInt = -1 := by decide
  omega
theorem eo_m1 {v : Nat} (h : v < 2 ^ 31) : eo v = -1 ↔ v = 0 := by
  unfold eo
  by_cases e : v = 0
  · rw [if_pos e]; exact ⟨fun _ => e, fun _ => rfl⟩
  · rw [if_neg e]; exact ⟨fun q => absurd q (nI_m1 h), fun q => absurd q e⟩
theorem eo_n {v : Nat} (h : v ≠ 0) : eo v = nI v := if_neg h
theorem em_n {v : Nat} (h : v ≠ 10000) : em v = nI v := if_neg h
theorem e_icmp_eq (M : CallFix p m c cc nL s args gw own) {v : Nat} {off : Int} {tgt : Nat} {st : List Value} (hv : v < 2 ^ 31) (hdg : decode cc pc = .ok (.if_icmp .eq off, 3)) (ht : (pc : Int) + off = (tgt : Int)) (kt : v = 0 → x_X p l e R s m args below meth c D A nL cells slots Q ws tgt ls st) (kf : ¬ v = 0 → x_X p l e R s m args below meth c D A nL cells slots Q ws (pc + 3) ls st) : x_X p l e R s m args below meth c D A nL cells slots Q ws pc ls (.int (-1) :: .int (eo v) :: st) :=
  x_icmp_eq M hdg ht (fun q => kt ((eo_m1 hv).mp q)) (fun q => kf (fun h => q ((eo_m1 hv).mpr h)))
theorem wl_X {ad : Nat → Nat} {X B : St} {hf : Nat → Int64} {ex : va_W} : (wl kc ad X B hf ex)[0]? = some (ad 0, .inr (2, fX ad X)) := wl_at (by decide)
theorem wl_Y {ad : Nat → Nat} {X B : St} {hf : Nat → Int64} {ex : va_W} : (wl kc ad X B hf ex)[3]? = some (ad 3, .inr (1, [.ref (ad 4), .ref (ad 5)])) := wl_at (by decide)
theorem gL4n {ad : Nat → Nat} {X B : St} {hf : Nat → Int64} {ex : va_W} {st : List Value} (M : CallFix p m c cc nL s args gw own) (TB : x_TB D kc s) {index i : Nat} (hi : i < 12) (h : X 8 i ≠ 0) (hlk : Cond.fieldLink own index (TX0 4).1 (TX0 4).2.1 (TX0 4).2.2.1 ∈ gw) (hdg : decode cc pc = .ok (.getfield index, 3)) (kk : x_X p l e R s m args below meth c D A nL cells slots Q (wl kc ad X B hf ex) (pc + 3) ls (.int (nI (X 8 i)) :: st)) : x_X p l e R s m args below meth c D A nL cells slots Q (wl kc ad X B hf ex) pc ls (.ref (ad (8 + i)) :: st) :=
  gL4 M TB hi hlk hdg (by rw [eo_n h]; exact kk)
end XZ
