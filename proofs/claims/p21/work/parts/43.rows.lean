/-! rows for the law's own methods -/
theorem eo_inj {a b : Nat} (ha : a < 2 ^ 31) (hb : b < 2 ^ 31) : eo a = eo b ↔ a = b := by
  constructor
  · intro h
    unfold eo at h
    by_cases e : a = 0
    · rw [if_pos e] at h
      by_cases e2 : b = 0
      · omega
      · rw [if_neg e2] at h
        exact absurd h.symm (nI_m1 hb)
    · rw [if_neg e] at h
      by_cases e2 : b = 0
      · rw [if_pos e2] at h
        exact absurd h (nI_m1 ha)
      · rw [if_neg e2] at h
        exact (nI_eq ha hb).mp h
  · intro h
    rw [h]
theorem em_c {v : Nat} (h : v ≤ 10000) : (v = 10000 ∧ em v = -1) ∨ (v < 10000 ∧ em v = nI v) := by
  by_cases e : v = 10000
  · exact Or.inl ⟨e, if_pos e⟩
  · exact Or.inr ⟨by omega, if_neg e⟩
/-- the arrays that a minute makes: what labels showed, ghosts, batteries, orders, each as far as it is filled -/
def exM (kc : Nat → ClassId) (a0 a1 a2 a3 : Nat) (Y : St) (k0 k1 k2 k3 : Nat) : va_W := [(a0, .inl (kc 0, 12, .inl (fun j => if j < k0 then nI (Y 3 j) else nI 0))), (a1, .inl (kc 0, 12, .inl (fun j => if j < k1 then nI (Y 4 j) else nI 0))), (a2, .inl (kc 0, 12, .inl (fun j => if j < k2 then nI (Y 5 j) else nI 0))), (a3, .inl (kc 0, 12, .inl (fun j => if j < k3 then eo (Y 8 j) else nI 0)))]
theorem exM_0 (kc : Nat → ClassId) (a0 a1 a2 a3 : Nat) (Y : St) : exM kc a0 a1 a2 a3 Y 0 0 0 0 = [(a0, .inl (kc 0, 12, .inl (fun _ => nI 0))), (a1, .inl (kc 0, 12, .inl (fun _ => nI 0))), (a2, .inl (kc 0, 12, .inl (fun _ => nI 0))), (a3, .inl (kc 0, 12, .inl (fun _ => nI 0)))] := by
  have e : ∀ g : Nat → Int32, (fun j => if j < 0 then g j else nI 0) = (fun _ => nI 0) := fun g => funext fun j => if_neg (Nat.not_lt_zero j)
  unfold exM
  rw [e (fun j => nI (Y 3 j)), e (fun j => nI (Y 4 j)), e (fun j => nI (Y 5 j)), e (fun j => eo (Y 8 j))]
theorem upd_fill {F : Nat → Int32} {k : Nat} : upd (fun j => if j < k then F j else nI 0) k (F k) = (fun j => if j < k + 1 then F j else nI 0) := funext fun j => by
  unfold upd
  by_cases h : j = k
  · rw [if_pos h, if_pos (by omega), h]
  · rw [if_neg h]
    show (if j < k then F j else nI 0) = _
    by_cases h2 : j < k
    · rw [if_pos h2, if_pos (by omega)]
    · rw [if_neg h2, if_neg (by omega)]
section XV2
variable {p : Program} {l : Launch} {e : Env} {R : Room} {s : State} {m : MethodId} {args : Array Value} {below : List Frame} {meth : Method} {c : Code} {D : va_G} {A : Nat → Prop} {nL cells slots : Nat} {Q : State → Prop}
variable {cc : ByteArray} {own : String} {pc : Nat} {ls : List (Option Value)} {st rest : List Value} {kc : Nat → ClassId} {ad : Nat → Nat} {X B Y : St} {hf : Nat → Int64} {ex ws w2 : va_W} {a0 a1 a2 a3 k0 k1 k2 k3 : Nat}
theorem x_drop (kk : x_X p l e R s m args below meth c D A nL cells slots Q (wl kc ad X B hf []) pc ls st) : x_X p l e R s m args below meth c D A nL cells slots Q (wl kc ad X B hf ex) pc ls st := fun H locs la hP hD hS hl => by
  have hk : ∀ (k : Nat) (q : Nat × va_E), (wl kc ad X B hf [])[k]? = some q → (wl kc ad X B hf ex)[k]? = some q := fun k q hq => by
    have h1 : k < 80 := by
      have := (List.getElem?_eq_some_iff.mp hq).1
      unfold wl at this
      simpa using this
    rw [wl_at h1] at hq ⊢
    exact hq
  exact kk H locs la (fun k q hq => hP k q (hk k q hq)) ⟨fun i j a b hi hj e => hD.1 i j a b (hk i a hi) (hk j b hj) e, fun k q hq => hD.2 k q (hk k q hq)⟩ hS hl
theorem aCv (M : CallFix p m c cc nL s args gw own) (TB : x_TB D kc s) {j v : Nat} (hv : B 0 j = v) (hj : j < 18) (hdg : decode cc pc = .ok (.iaload, 1)) (kk : x_X p l e R s m args below meth c D A nL cells slots Q (wl kc ad X B hf ex) (pc + 1) ls (.int (nI v) :: st)) : x_X p l e R s m args below meth c D A nL cells slots Q (wl kc ad X B hf ex) pc ls (.int (nI j) :: .ref (ad 6) :: st) := by
  subst hv
  exact aC M TB hj hdg kk
theorem e_icmp_ne (M : CallFix p m c cc nL s args gw own) {v : Nat} {off : Int} {tgt : Nat} (hv : v < 2 ^ 31) (hdg : decode cc pc = .ok (.if_icmp .ne off, 3)) (ht : (pc : Int) + off = (tgt : Int)) (kt : ¬ v = 0 → x_X p l e R s m args below meth c D A nL cells slots Q (ws) tgt ls st) (kf : v = 0 → x_X p l e R s m args below meth c D A nL cells slots Q (ws) (pc + 3) ls st) : x_X p l e R s m args below meth c D A nL cells slots Q (ws) pc ls (.int (-1) :: .int (eo v) :: st) :=
  x_icmp_ne M hdg ht (fun q => kt (fun h => q ((eo_m1 hv).mpr h))) (fun q => kf ((eo_m1 hv).mp q))
theorem ee_icmp_eq (M : CallFix p m c cc nL s args gw own) {v u : Nat} {off : Int} {tgt : Nat} (hv : v < 2 ^ 31) (hu : u < 2 ^ 31) (hdg : decode cc pc = .ok (.if_icmp .eq off, 3)) (ht : (pc : Int) + off = (tgt : Int)) (kt : v = u → x_X p l e R s m args below meth c D A nL cells slots Q (ws) tgt ls st) (kf : ¬ v = u → x_X p l e R s m args below meth c D A nL cells slots Q (ws) (pc + 3) ls st) : x_X p l e R s m args below meth c D A nL cells slots Q (ws) pc ls (.int (eo u) :: .int (eo v) :: st) :=
  x_icmp_eq M hdg ht (fun q => kt ((eo_inj hv hu).mp q)) (fun q => kf (fun h => q ((eo_inj hv hu).mpr h)))
theorem ee_icmp_ne (M : CallFix p m c cc nL s args gw own) {v u : Nat} {off : Int} {tgt : Nat} (hv : v < 2 ^ 31) (hu : u < 2 ^ 31) (hdg : decode cc pc = .ok (.if_icmp .ne off, 3)) (ht : (pc : Int) + off = (tgt : Int)) (kt : ¬ v = u → x_X p l e R s m args below meth c D A nL cells slots Q (ws) tgt ls st) (kf : v = u → x_X p l e R s m args below meth c D A nL cells slots Q (ws) (pc + 3) ls st) : x_X p l e R s m args below meth c D A nL cells slots Q (ws) pc ls (.int (eo u) :: .int (eo v) :: st) :=
  x_icmp_ne M hdg ht (fun q => kt (fun h => q ((eo_inj hv hu).mpr h))) (fun q => kf ((eo_inj hv hu).mp q))
theorem eR0 (M : CallFix p m c cc nL s args gw own) (TB : x_TB D kc s) {j : Nat} (hj : j < k0) (h12 : j < 12) (hdg : decode cc pc = .ok (.iaload, 1)) (kk : x_X p l e R s m args below meth c D A nL cells slots Q (wl kc ad X B hf (exM kc a0 a1 a2 a3 Y k0 k1 k2 k3)) (pc + 1) ls (.int (nI (Y 3 j)) :: st)) : x_X p l e R s m args below meth c D A nL cells slots Q (wl kc ad X B hf (exM kc a0 a1 a2 a3 Y k0 k1 k2 k3)) pc ls (.int (nI j) :: .ref a0 :: st) :=
  x_iald M TB (q0 := 80 + 0) (n := 12) (f := fun j => if j < k0 then nI (Y 3 j) else nI 0) ((wl_ex 0).trans rfl) h12 (by decide) hdg (by rw [if_pos hj]; exact kk)
theorem eW0 (M : CallFix p m c cc nL s args gw own) (TB : x_TB D kc s) (h12 : k0 < 12) (hdg : decode cc pc = .ok (.iastore, 1)) (kk : x_X p l e R s m args below meth c D A nL cells slots Q (wl kc ad X B hf (exM kc a0 a1 a2 a3 Y (k0 + 1) k1 k2 k3)) (pc + 1) ls st) : x_X p l e R s m args below meth c D A nL cells slots Q (wl kc ad X B hf (exM kc a0 a1 a2 a3 Y k0 k1 k2 k3)) pc ls (.int (nI (Y 3 k0)) :: .int (nI k0) :: .ref a0 :: st) :=
  x_iast M TB (q0 := 80 + 0) (n := 12) (f := fun j => if j < k0 then nI (Y 3 j) else nI 0) ((wl_ex 0).trans rfl) h12 (by decide) hdg (x_ws ((wl_exs 0 _).trans (congrArg (wl kc ad X B hf) (by rw [upd_fill (F := fun j => nI (Y 3 j))]; rfl))) kk)
theorem eR1 (M : CallFix p m c cc nL s args gw own) (TB : x_TB D kc s) {j : Nat} (hj : j < k1) (h12 : j < 12) (hdg : decode cc pc = .ok (.iaload, 1)) (kk : x_X p l e R s m args below meth c D A nL cells slots Q (wl kc ad X B hf (exM kc a0 a1 a2 a3 Y k0 k1 k2 k3)) (pc + 1) ls (.int (nI (Y 4 j)) :: st)) : x_X p l e R s m args below meth c D A nL cells slots Q (wl kc ad X B hf (exM kc a0 a1 a2 a3 Y k0 k1 k2 k3)) pc ls (.int (nI j) :: .ref a1 :: st) :=
  x_iald M TB (q0 := 80 + 1) (n := 12) (f := fun j => if j < k1 then nI (Y 4 j) else nI 0) ((wl_ex 1).trans rfl) h12 (by decide) hdg (by rw [if_pos hj]; exact kk)
theorem eW1 (M : CallFix p m c cc nL s args gw own) (TB : x_TB D kc s) (h12 : k1 < 12) (hdg : decode cc pc = .ok (.iastore, 1)) (kk : x_X p l e R s m args below meth c D A nL cells slots Q (wl kc ad X B hf (exM kc a0 a1 a2 a3 Y k0 (k1 + 1) k2 k3)) (pc + 1) ls st) : x_X p l e R s m args below meth c D A nL cells slots Q (wl kc ad X B hf (exM kc a0 a1 a2 a3 Y k0 k1 k2 k3)) pc ls (.int (nI (Y 4 k1)) :: .int (nI k1) :: .ref a1 :: st) :=
  x_iast M TB (q0 := 80 + 1) (n := 12) (f := fun j => if j < k1 then nI (Y 4 j) else nI 0) ((wl_ex 1).trans rfl) h12 (by decide) hdg (x_ws ((wl_exs 1 _).trans (congrArg (wl kc ad X B hf) (by rw [upd_fill (F := fun j => nI (Y 4 j))]; rfl))) kk)
theorem eR2 (M : CallFix p m c cc nL s args gw own) (TB : x_TB D kc s) {j : Nat} (hj : j < k2) (h12 : j < 12) (hdg : decode cc pc = .ok (.iaload, 1)) (kk : x_X p l e R s m args below meth c D A nL cells slots Q (wl kc ad X B hf (exM kc a0 a1 a2 a3 Y k0 k1 k2 k3)) (pc + 1) ls (.int (nI (Y 5 j)) :: st)) : x_X p l e R s m args below meth c D A nL cells slots Q (wl kc ad X B hf (exM kc a0 a1 a2 a3 Y k0 k1 k2 k3)) pc ls (.int (nI j) :: .ref a2 :: st) :=
  x_iald M TB (q0 := 80 + 2) (n := 12) (f := fun j => if j < k2 then nI (Y 5 j) else nI 0) ((wl_ex 2).trans rfl) h12 (by decide) hdg (by rw [if_pos hj]; exact kk)
theorem eW2 (M : CallFix p m c cc nL s args gw own) (TB : x_TB D kc s) (h12 : k2 < 12) (hdg : decode cc pc = .ok (.iastore, 1)) (kk : x_X p l e R s m args below meth c D A nL cells slots Q (wl kc ad X B hf (exM kc a0 a1 a2 a3 Y k0 k1 (k2 + 1) k3)) (pc + 1) ls st) : x_X p l e R s m args below meth c D A nL cells slots Q (wl kc ad X B hf (exM kc a0 a1 a2 a3 Y k0 k1 k2 k3)) pc ls (.int (nI (Y 5 k2)) :: .int (nI k2) :: .ref a2 :: st) :=
  x_iast M TB (q0 := 80 + 2) (n := 12) (f := fun j => if j < k2 then nI (Y 5 j) else nI 0) ((wl_ex 2).trans rfl) h12 (by decide) hdg (x_ws ((wl_exs 2 _).trans (congrArg (wl kc ad X B hf) (by rw [upd_fill (F := fun j => nI (Y 5 j))]; rfl))) kk)
theorem eR3 (M : CallFix p m c cc nL s args gw own) (TB : x_TB D kc s) {j : Nat} (hj : j < k3) (h12 : j < 12) (hdg : decode cc pc = .ok (.iaload, 1)) (kk : x_X p l e R s m args below meth c D A nL cells slots Q (wl kc ad X B hf (exM kc a0 a1 a2 a3 Y k0 k1 k2 k3)) (pc + 1) ls (.int (eo (Y 8 j)) :: st)) : x_X p l e R s m args below meth c D A nL cells slots Q (wl kc ad X B hf (exM kc a0 a1 a2 a3 Y k0 k1 k2 k3)) pc ls (.int (nI j) :: .ref a3 :: st) :=
  x_iald M TB (q0 := 80 + 3) (n := 12) (f := fun j => if j < k3 then eo (Y 8 j) else nI 0) ((wl_ex 3).trans rfl) h12 (by decide) hdg (by rw [if_pos hj]; exact kk)
theorem eW3 (M : CallFix p m c cc nL s args gw own) (TB : x_TB D kc s) (h12 : k3 < 12) (hdg : decode cc pc = .ok (.iastore, 1)) (kk : x_X p l e R s m args below meth c D A nL cells slots Q (wl kc ad X B hf (exM kc a0 a1 a2 a3 Y k0 k1 k2 (k3 + 1))) (pc + 1) ls st) : x_X p l e R s m args below meth c D A nL cells slots Q (wl kc ad X B hf (exM kc a0 a1 a2 a3 Y k0 k1 k2 k3)) pc ls (.int (eo (Y 8 k3)) :: .int (nI k3) :: .ref a3 :: st) :=
  x_iast M TB (q0 := 80 + 3) (n := 12) (f := fun j => if j < k3 then eo (Y 8 j) else nI 0) ((wl_ex 3).trans rfl) h12 (by decide) hdg (x_ws ((wl_exs 3 _).trans (congrArg (wl kc ad X B hf) (by rw [upd_fill (F := fun j => eo (Y 8 j))]; rfl))) kk)
theorem n_inc7 (M : CallFix p m c cc nL s args gw own) {b0 b1 b2 b3 b4 b5 b6 : Option Value} {t : List (Option Value)} {a : Nat} (hdg : decode cc pc = .ok (.iinc 7 1, 3)) (kk : x_X p l e R s m args below meth c D A nL cells slots Q (ws) (pc + 3) (b0 :: b1 :: b2 :: b3 :: b4 :: b5 :: b6 :: some (.int (nI (a + 1))) :: t) st) : x_X p l e R s m args below meth c D A nL cells slots Q (ws) pc (b0 :: b1 :: b2 :: b3 :: b4 :: b5 :: b6 :: some (.int (nI a)) :: t) st := x_iinc7 M hdg (nI_1 a) kk
theorem n_inc8 (M : CallFix p m c cc nL s args gw own) {b0 b1 b2 b3 b4 b5 b6 b7 : Option Value} {t : List (Option Value)} {a : Nat} (hdg : decode cc pc = .ok (.iinc 8 1, 3)) (kk : x_X p l e R s m args below meth c D A nL cells slots Q (ws) (pc + 3) (b0 :: b1 :: b2 :: b3 :: b4 :: b5 :: b6 :: b7 :: some (.int (nI (a + 1))) :: t) st) : x_X p l e R s m args below meth c D A nL cells slots Q (ws) pc (b0 :: b1 :: b2 :: b3 :: b4 :: b5 :: b6 :: b7 :: some (.int (nI a)) :: t) st := x_iinc8 M hdg (nI_1 a) kk
theorem n_inc9 (M : CallFix p m c cc nL s args gw own) {b0 b1 b2 b3 b4 b5 b6 b7 b8 : Option Value} {t : List (Option Value)} {a : Nat} (hdg : decode cc pc = .ok (.iinc 9 1, 3)) (kk : x_X p l e R s m args below meth c D A nL cells slots Q (ws) (pc + 3) (b0 :: b1 :: b2 :: b3 :: b4 :: b5 :: b6 :: b7 :: b8 :: some (.int (nI (a + 1))) :: t) st) : x_X p l e R s m args below meth c D A nL cells slots Q (ws) pc (b0 :: b1 :: b2 :: b3 :: b4 :: b5 :: b6 :: b7 :: b8 :: some (.int (nI a)) :: t) st := x_iinc9 M hdg (nI_1 a) kk
theorem n_inc10 (M : CallFix p m c cc nL s args gw own) {b0 b1 b2 b3 b4 b5 b6 b7 b8 b9 : Option Value} {t : List (Option Value)} {a : Nat} (hdg : decode cc pc = .ok (.iinc 10 1, 3)) (kk : x_X p l e R s m args below meth c D A nL cells slots Q (ws) (pc + 3) (b0 :: b1 :: b2 :: b3 :: b4 :: b5 :: b6 :: b7 :: b8 :: b9 :: some (.int (nI (a + 1))) :: t) st) : x_X p l e R s m args below meth c D A nL cells slots Q (ws) pc (b0 :: b1 :: b2 :: b3 :: b4 :: b5 :: b6 :: b7 :: b8 :: b9 :: some (.int (nI a)) :: t) st := x_iinc10 M hdg (nI_1 a) kk
theorem n_inc11 (M : CallFix p m c cc nL s args gw own) {b0 b1 b2 b3 b4 b5 b6 b7 b8 b9 b10 : Option Value} {t : List (Option Value)} {a : Nat} (hdg : decode cc pc = .ok (.iinc 11 1, 3)) (kk : x_X p l e R s m args below meth c D A nL cells slots Q (ws) (pc + 3) (b0 :: b1 :: b2 :: b3 :: b4 :: b5 :: b6 :: b7 :: b8 :: b9 :: b10 :: some (.int (nI (a + 1))) :: t) st) : x_X p l e R s m args below meth c D A nL cells slots Q (ws) pc (b0 :: b1 :: b2 :: b3 :: b4 :: b5 :: b6 :: b7 :: b8 :: b9 :: b10 :: some (.int (nI a)) :: t) st := x_iinc11 M hdg (nI_1 a) kk
theorem n_inc12 (M : CallFix p m c cc nL s args gw own) {b0 b1 b2 b3 b4 b5 b6 b7 b8 b9 b10 b11 : Option Value} {t : List (Option Value)} {a : Nat} (hb : (b11.elim 1 Value.category) = 1) (hdg : decode cc pc = .ok (.iinc 12 1, 3)) (kk : x_X p l e R s m args below meth c D A nL cells slots Q (ws) (pc + 3) (b0 :: b1 :: b2 :: b3 :: b4 :: b5 :: b6 :: b7 :: b8 :: b9 :: b10 :: b11 :: some (.int (nI (a + 1))) :: t) st) : x_X p l e R s m args below meth c D A nL cells slots Q (ws) pc (b0 :: b1 :: b2 :: b3 :: b4 :: b5 :: b6 :: b7 :: b8 :: b9 :: b10 :: b11 :: some (.int (nI a)) :: t) st := x_iinc12 M hb hdg (nI_1 a) kk
theorem n_inc13 (M : CallFix p m c cc nL s args gw own) {b0 b1 b2 b3 b4 b5 b6 b7 b8 b9 b10 b11 b12 : Option Value} {t : List (Option Value)} {a : Nat} (hdg : decode cc pc = .ok (.iinc 13 1, 3)) (kk : x_X p l e R s m args below meth c D A nL cells slots Q (ws) (pc + 3) (b0 :: b1 :: b2 :: b3 :: b4 :: b5 :: b6 :: b7 :: b8 :: b9 :: b10 :: b11 :: b12 :: some (.int (nI (a + 1))) :: t) st) : x_X p l e R s m args below meth c D A nL cells slots Q (ws) pc (b0 :: b1 :: b2 :: b3 :: b4 :: b5 :: b6 :: b7 :: b8 :: b9 :: b10 :: b11 :: b12 :: some (.int (nI a)) :: t) st := x_iinc13 M hdg (nI_1 a) kk
/-- a contract that returns v, its world told by a predicate -/
def x_QP (D : va_G) (A : Nat → Prop) (v : Option Value) (Po : va_W → Prop) : Array Value → State → Outcome → State → Prop := fun _ st o t => (o = .returned v ∧ ∃ w2, Po w2 ∧ va_P D vwCl w2 t.heap ∧ va_D A w2) ∧ va_F A st t
def x_RetP (l : Launch) (D : va_G) (kc : Nat → ClassId) (A : Nat → Prop) (y : MethodName) (cc : ByteArray) (maxL : Nat) (ret : Option FieldType) (rm : Room) (As : List Value) (ws : va_W) (v : Option Value) (Po : va_W → Prop) : Prop :=
  Met l y (.code y cc maxL ret :: gw) rm (x_Pc D kc A As ws) (x_QP D A v Po) rm.cells rm.slots A
/-- .. with the script beside it -/
def x_PcX (D : va_G) (kc : Nat → ClassId) (A : Nat → Prop) (As : List Value) (ws : va_W) (b L : Nat) (xs : Nat → Int32) : Array Value → State → Prop :=
  va_Pc As (fun U => (va_P D vwCl ws U.heap ∧ va_D A ws ∧ x_TB D kc U ∧ ∀ q : Nat, U.heap.size ≤ q → A q) ∧ (va_X b L xs U U.heap ∧ b < U.heap.size ∧ ¬ A b))
def x_RetX (l : Launch) (D : va_G) (kc : Nat → ClassId) (A : Nat → Prop) (y : MethodName) (cc : ByteArray) (maxL : Nat) (ret : Option FieldType) (rm : Room) (As : List Value) (ws : va_W) (b L : Nat) (xs : Nat → Int32) (v : Option Value) (w2 : va_W) : Prop :=
  Met l y (.code y cc maxL ret :: gw) rm (x_PcX D kc A As ws b L xs) (x_Qc D A v w2) rm.cells rm.slots A
theorem x_blindX {As : List Value} {b L : Nat} {xs : Nat → Int32} : FrameBlind (x_PcX D kc A As ws b L xs) := fun a U g mk q => by
  obtain ⟨h0, ⟨h1, h2, h3, h4⟩, h5, h6, h7⟩ := q
  exact ⟨h0, ⟨h1, h2, x_TB.moved (u := U) (U := U.calling g mk a) (State.WarmedH.refl U) h3, h4⟩, va_X.moved (u := U) (U := U.calling g mk a) (State.WarmedH.refl U).alike h5, h6, h7⟩
theorem x_callSX (M : CallFix p m c cc nL s args gw own) (TB : x_TB D kc s) (hAA : ∀ q : Nat, s.heap.size ≤ q → A q) {y : MethodName} {bytes : ByteArray} {maxL index b L : Nat} {xs : Nat → Int32} {ret : Option FieldType} {rm : Room} {As : List Value} {v : Option Value} (hX : va_X b L xs s s.heap) (hbl : b < s.heap.size) (hbA : ¬ A b) (mv : x_MS y bytes maxL ret As.length)
    (hlk : Cond.methodLink own index y ∈ gw) (hdg : decode cc pc = .ok (.invokestatic index, 3)) (hM : x_RetX l D kc A y bytes maxL ret rm As ws b L xs v w2) (hst0 : As.reverse ++ rest = st)
    (hR : rm.frames + 1 ≤ R.frames ∧ 8 + (maxL + 11) + rm.locals ≤ R.locals) (hcs : (rm.cells = 0 ∧ rm.slots = 0) ∧ (cells ≤ R.cells ∧ slots ≤ R.slots)) (hst : (rest.map fun v => v.category).sum ≤ 8)
    (kk : x_X p l e R s m args below meth c D A nL cells slots Q w2 (pc + 3) ls (v.toList ++ rest)) : x_X p l e R s m args below meth c D A nL cells slots Q ws pc ls st := fun H locs la hP hD hS hl => by
  subst hst0
  obtain ⟨h1, h2, h3, h4, h5⟩ := mv
  have hpre : ∀ U : State, U.heap = H → s.WarmedH U.vm → x_PcX D kc A As ws b L xs As.toArray U := fun U hU hW =>
    ⟨rfl, ⟨by rw [hU]; exact hP, hD, TB.moved hW, fun q h => hAA q (Nat.le_trans hS.1 (by rw [← hU]; exact h))⟩, by rw [hU]; exact va_X.moved hW.alike (va_X.kept hX (hS.2.1 b hbl hbA)), by rw [hU]; exact Nat.lt_of_lt_of_le hbl hS.1, hbA⟩
  exact x_back (mc := rm.cells) (ms := rm.slots) hS hl (va_runS (g := F0 m pc la (As.reverse ++ rest)) (rest := rest) M hM ⟨x_cb M.2.2.2.2 h1 h2 h3 h4 hlk hR, M.2.2.2.2 _ h5⟩ ⟨x_blindX, hpre⟩ rfl rfl hl.1 rfl (lv_room hst) hdg (by rw [hcs.1.1, hcs.1.2]; exact hcs.2)) (by rw [hcs.1.1, hcs.1.2]; exact kk)
theorem x_callSP (M : CallFix p m c cc nL s args gw own) (TB : x_TB D kc s) (hAA : ∀ q : Nat, s.heap.size ≤ q → A q) {y : MethodName} {bytes : ByteArray} {maxL index : Nat} {ret : Option FieldType} {rm : Room} {As : List Value} {v : Option Value} {Po : va_W → Prop} (mv : x_MS y bytes maxL ret As.length)
    (hlk : Cond.methodLink own index y ∈ gw) (hdg : decode cc pc = .ok (.invokestatic index, 3)) (hM : x_RetP l D kc A y bytes maxL ret rm As ws v Po) (hst0 : As.reverse ++ rest = st)
    (hR : rm.frames + 1 ≤ R.frames ∧ 8 + (maxL + 11) + rm.locals ≤ R.locals) (hcs : cells + rm.cells ≤ R.cells ∧ slots + rm.slots ≤ R.slots) (hst : (rest.map fun v => v.category).sum ≤ 8)
    (kk : ∀ w2, Po w2 → x_X p l e R s m args below meth c D A nL (cells + rm.cells) (slots + rm.slots) Q w2 (pc + 3) ls (v.toList ++ rest)) : x_X p l e R s m args below meth c D A nL cells slots Q ws pc ls st := fun H locs la hP hD hS hl => by
  subst hst0
  obtain ⟨h1, h2, h3, h4, h5⟩ := mv
  have hr := va_runS (e := e) (below := below) (meth := meth) (locs := locs) (g := F0 m pc la (As.reverse ++ rest)) (rest := rest) M hM ⟨x_cb M.2.2.2.2 h1 h2 h3 h4 hlk hR, M.2.2.2.2 _ h5⟩ ⟨x_blind, x_pre (As := As) TB hAA hP hD hS⟩ rfl rfl hl.1 rfl (lv_room hst) hdg hcs
  intro T hT X
  obtain ⟨v', st0, t, T', L, h0, X', hL, e1, e2, ⟨⟨hv, w9, hPo, hP1, hD1⟩, hF⟩, stp⟩ := hr T hT X
  cases hv
  obtain ⟨k1, k2, k3⟩ := vx_keep h0 e1 hS (fun _ _ h => h) (fun _ h => h) hL hF
  obtain ⟨t2, a1, b1⟩ := kk w9 hPo T'.heap (locs ++ L) la (by rw [e1]; exact hP1) hD1 k3 hl T' rfl X'
  exact ⟨t2, stp t2 a1, b1⟩
theorem x_zretP {mc ms : Nat} {x : Int32} {v : Option Value} {Po : va_W → Prop} (M : CallFix p m c cc nL s args gw own) (hr : meth.sig.returnType = some .boolean) (hlocks : meth.locks = false) (hdg : decode cc pc = .ok (.ireturn, 1)) (hc : cells ≤ mc ∧ slots ≤ ms) (hn : x = 0 ∨ x = 1) (hv : some (.int x) = v) (hPo : Po ws) :
    x_X p l e R s m args below meth c D A nL cells slots (MQ below (x_QP D A v Po) args s mc ms A) ws pc ls [.int x] := fun H locs la hP hD hS hl => by
  subst hv
  exact W.widen hc.1 hc.2 (W.zret M.1 M.2.1 hr (by rcases hn with rfl | rfl <;> decide) (fun t ht _ => ⟨⟨rfl, ws, hPo, by rw [ht]; exact hP, hD⟩, hS.F ht⟩) hS.2.2 hdg hlocks)
end XV2
section XE2
variable {l : Launch} {D : va_G} {kc : Nat → ClassId} {A : Nat → Prop} {y : MethodName} {cc : ByteArray} {maxL : Nat} {ret : Option FieldType} {rm : Room} {As : List Value} {ws w2 : va_W} {v : Option Value}
theorem x_retP_of {Po : va_W → Prop} (own : String) (hy : plainName y.cls = true) (ho : y.cls = own) (ls0 : List (Option Value)) (hn : As.length ≤ maxL) (hcat0 : As.all (fun v => v.category == 1) = true) (h0 : As.map some ++ List.replicate (maxL - As.length) none = ls0)
    (body : ∀ (p : Program) (e : Env) (s : State) (m : MethodId) (args : Array Value) (below : List Frame) (meth : Method) (c : Code), CallFix p m c cc maxL s args gw own → meth.sig.returnType = ret → meth.locks = false → meth.name = y.name → x_TB D kc s → (∀ q : Nat, s.heap.size ≤ q → A q) →
      x_X p l e rm s m args below meth c D A maxL 0 0 (MQ below (x_QP D A v Po) args s rm.cells rm.slots A) ws 0 ls0 []) : x_RetP l D kc A y cc maxL ret rm As ws v Po := by
  refine Met.ofW (cc := cc) (maxL := maxL) (ret := ret) hy rfl ?_
  intro p e s m args below meth c s₁ B hml hv
  obtain ⟨rfl, hP, hD, hT, hA⟩ := hv
  have hts := atoms_spec (ws := .code y cc maxL ret :: gw) B.pre
  have hown : s.vm.findClass own = some m.cls := by rw [← ho]; exact findClass_of_methodNamed B.named
  have k := body p e s m As.toArray below meth c ⟨B.exec, B.bytes, hml, hown, fun w h => hts w (List.mem_cons_of_mem _ h)⟩ B.returns B.notSynchronized (name_of_methodNamed B.named B.method).1 hT hA
  rw [lg_entry_eq]
  exact k s.heap [] _ hP hD va_S.rf (by rw [← h0]; exact x_lh_entry As hn (fun v hv => by have := List.all_eq_true.mp hcat0 v hv; simpa using this))
theorem x_retX_of {b L : Nat} {xs : Nat → Int32} (own : String) (hy : plainName y.cls = true) (ho : y.cls = own) (ls0 : List (Option Value)) (hn : As.length ≤ maxL) (hcat0 : As.all (fun v => v.category == 1) = true) (h0 : As.map some ++ List.replicate (maxL - As.length) none = ls0)
    (body : ∀ (p : Program) (e : Env) (s : State) (m : MethodId) (args : Array Value) (below : List Frame) (meth : Method) (c : Code), CallFix p m c cc maxL s args gw own → meth.sig.returnType = ret → meth.locks = false → meth.name = y.name → x_TB D kc s → (∀ q : Nat, s.heap.size ≤ q → A q) → va_X b L xs s s.heap → b < s.heap.size → ¬ A b →
      x_X p l e rm s m args below meth c D A maxL 0 0 (MQ below (x_Qc D A v w2) args s rm.cells rm.slots A) ws 0 ls0 []) : x_RetX l D kc A y cc maxL ret rm As ws b L xs v w2 := by
  refine Met.ofW (cc := cc) (maxL := maxL) (ret := ret) hy rfl ?_
  intro p e s m args below meth c s₁ B hml hv
  obtain ⟨rfl, ⟨hP, hD, hT, hA⟩, hX, hbl, hbA⟩ := hv
  have hts := atoms_spec (ws := .code y cc maxL ret :: gw) B.pre
  have hown : s.vm.findClass own = some m.cls := by rw [← ho]; exact findClass_of_methodNamed B.named
  have k := body p e s m As.toArray below meth c ⟨B.exec, B.bytes, hml, hown, fun w h => hts w (List.mem_cons_of_mem _ h)⟩ B.returns B.notSynchronized (name_of_methodNamed B.named B.method).1 hT hA hX hbl hbA
  rw [lg_entry_eq]
  exact k s.heap [] _ hP hD va_S.rf (by rw [← h0]; exact x_lh_entry As hn (fun v hv => by have := List.all_eq_true.mp hcat0 v hv; simpa using this))
end XE2
section XS
variable {p : Program} {l : Launch} {e : Env} {R : Room} {s : State} {m : MethodId} {args : Array Value} {below : List Frame} {meth : Method} {c : Code} {D : va_G} {A : Nat → Prop} {nL cells slots : Nat} {Q : State → Prop}
variable {cc : ByteArray} {own : String} {ws : va_W} {pc : Nat} {ls : List (Option Value)} {st : List Value}
theorem x_sld (M : CallFix p m c cc nL s args gw own) {b L j : Nat} {xs : Nat → Int32} {x : Int32} (hX : va_X b L xs s s.heap) (hbl : b < s.heap.size) (hbA : ¬ A b) (he : xs j = x) (hj : j < L) (hL : L ≤ 260) (hdg : decode cc pc = .ok (.iaload, 1))
    (kk : x_X p l e R s m args below meth c D A nL cells slots Q ws (pc + 1) ls (.int x :: st)) : x_X p l e R s m args below meth c D A nL cells slots Q ws pc ls (.int (nI j) :: .ref b :: st) := fun H locs la hP hD hS hl =>
  va_sld M.1 M.2.1 hX hbl hbA hS (vp_in_nI hj (by omega)) hdg (by rw [nI_clamp (by omega), he]; exact kk H locs la hP hD hS hl)
theorem x_slen (M : CallFix p m c cc nL s args gw own) {b L : Nat} {xs : Nat → Int32} (hX : va_X b L xs s s.heap) (hbl : b < s.heap.size) (hbA : ¬ A b) (hdg : decode cc pc = .ok (.arraylength, 1))
    (kk : x_X p l e R s m args below meth c D A nL cells slots Q ws (pc + 1) ls (.int (nI L) :: st)) : x_X p l e R s m args below meth c D A nL cells slots Q ws pc ls (.ref b :: st) := fun H locs la hP hD hS hl =>
  va_slen M.1 M.2.1 hX hbl hbA hS hdg (kk H locs la hP hD hS hl)
theorem x_tabOut (M : CallFix p m c cc nL s args gw own) {dflt lo hi : Int} {offs : Array Int} {len : Nat} {x : Int32} {tgt : Nat} (hdg : decode cc pc = .ok (.tableswitch dflt lo hi offs, len)) (h : x.toInt < lo ∨ hi < x.toInt) (ht : (pc : Int) + dflt = (tgt : Int))
    (kk : x_X p l e R s m args below meth c D A nL cells slots Q ws tgt ls st) : x_X p l e R s m args below meth c D A nL cells slots Q ws pc ls (.int x :: st) := fun H locs la hP hD hS hl =>
  lv_tableOut M.1 M.2.1 hdg h ht (kk H locs la hP hD hS hl)
theorem x_tabIn (M : CallFix p m c cc nL s args gw own) {dflt lo hi : Int} {offs : Array Int} {len : Nat} {x : Int32} {off : Int} {tgt : Nat} (hdg : decode cc pc = .ok (.tableswitch dflt lo hi offs, len)) (h1 : ¬ x.toInt < lo) (h2 : ¬ hi < x.toInt) (ho : offs[(x.toInt - lo).toNat]? = some off) (ht : (pc : Int) + off = (tgt : Int))
    (kk : x_X p l e R s m args below meth c D A nL cells slots Q ws tgt ls st) : x_X p l e R s m args below meth c D A nL cells slots Q ws pc ls (.int x :: st) := fun H locs la hP hD hS hl =>
  lv_tableIn M.1 M.2.1 hdg h1 h2 ho ht (kk H locs la hP hD hS hl)
end XS
