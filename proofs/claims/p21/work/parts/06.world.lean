/-! THE WORLD: numbers of the state by register and place; its cells: 0 the class's object, 1 its prices, 2 its labels' row, 3 its memory, 4, 5 the memory's rows, 6 the law's numbers (c), 7 its hour (h), 8 to 19 the labels, 20 to 79 the memory's sixty rows; then what else lies there (ex) -/
abbrev St : Type := Nat → Nat → Nat
def up (S : St) (r i v : Nat) : St := fun r2 i2 => if r2 = r ∧ i2 = i then v else S r2 i2
theorem up_s (S : St) (r i v : Nat) : up S r i v r i = v := by simp [up]
theorem up_n (S : St) {r i v r2 i2 : Nat} (h : ¬ (r2 = r ∧ i2 = i)) : up S r i v r2 i2 = S r2 i2 := if_neg h
theorem up_r (S : St) {r i v r2 i2 : Nat} (h : r2 ≠ r) : up S r i v r2 i2 = S r2 i2 := if_neg (fun q => h q.1)
theorem up_i (S : St) {r i v i2 : Nat} (h : i2 ≠ i) : up S r i v r i2 = S r i2 := if_neg (fun q => h q.2)
/-- an order's number as the class holds it: -1 for none -/
def eo (v : Nat) : Int32 := if v = 0 then -1 else nI v
/-- a remembered price as the reference holds it: -1 for none (10000 here) -/
def em (v : Nat) : Int32 := if v = 10000 then -1 else nI v
def fX (ad : Nat → Nat) (A : St) : List Value := [.ref (ad 1), .ref (ad 2), .ref (ad 3), .int (nI (A 0 0)), .int (nI (A 0 1)), .int (nI (A 0 2))]
def fL (A : St) (i : Nat) : List Value := [.int (nI (A 2 i)), .int (nI (A 3 i)), .int (nI (A 4 i)), .int (nI (A 5 i)), .int (eo (A 8 i)), .int (nI (A 9 i)), .int (nI (A 6 i)), .int (nI (A 7 i))]
def ctS (kc : Nat → ClassId) (ad : Nat → Nat) (A B : St) (hf : Nat → Int64) : Nat → va_E := fun c => match c with
  | 0 => .inr (2, fX ad A)
  | 1 => .inl (kc 0, 12, .inl (fun j => nI (A 1 j)))
  | 2 => .inl (kc 2, 12, .inr (.inr (.inr (.inr (fun j => if j < 12 then some (ad (8 + j)) else none)))))
  | 3 => .inr (1, [.ref (ad 4), .ref (ad 5)])
  | 4 => .inl (kc 3, 60, .inr (.inr (.inr (.inr (fun j => if j < 60 then some (ad (20 + j)) else none)))))
  | 5 => .inl (kc 0, 12, .inl (fun j => nI (A 11 j)))
  | 6 => .inl (kc 0, 18, .inl (fun j => nI (B 0 j)))
  | _ => .inl (kc 1, 60, .inr (.inl hf))
def ct (kc : Nat → ClassId) (ad : Nat → Nat) (A B : St) (hf : Nat → Int64) (c : Nat) : va_E :=
  if c < 8 then ctS kc ad A B hf c else if c < 20 then .inr (0, fL A (c - 8)) else .inl (kc 0, 12, .inl (fun j => nI (A 10 (60 * j + (c - 20)))))
def wl (kc : Nat → ClassId) (ad : Nat → Nat) (A B : St) (hf : Nat → Int64) (ex : va_W) : va_W := (List.range 80).map (fun c => (ad c, ct kc ad A B hf c)) ++ ex
section XW
variable {kc : Nat → ClassId} {ad : Nat → Nat} {A B : St} {hf : Nat → Int64} {ex : va_W}
theorem wl_at {c : Nat} (h : c < 80) : (wl kc ad A B hf ex)[c]? = some (ad c, ct kc ad A B hf c) := by
  unfold wl
  rw [List.getElem?_append_left (by simpa using h), List.getElem?_map, List.getElem?_range h]
  rfl
theorem wl_ex (k : Nat) : (wl kc ad A B hf ex)[80 + k]? = ex[k]? := by
  unfold wl
  rw [List.getElem?_append_right (by simp), List.length_map, List.length_range, Nat.add_sub_cancel_left]
theorem wl_exs (k : Nat) (y : Nat × va_E) : (wl kc ad A B hf ex).set (80 + k) y = wl kc ad A B hf (ex.set k y) := by
  unfold wl
  rw [List.set_append_right _ _ (by simp), List.length_map, List.length_range, Nat.add_sub_cancel_left]
theorem wl_app (e2 : va_W) : wl kc ad A B hf ex ++ e2 = wl kc ad A B hf (ex ++ e2) := by
  unfold wl
  rw [List.append_assoc]
theorem wl_set {A2 B2 : St} {hf2 : Nat → Int64} {c : Nat} {e : va_E} (h : c < 80) (he : ct kc ad A2 B2 hf2 c = e) (ho : ∀ c2, c2 < 80 → c2 ≠ c → ct kc ad A2 B2 hf2 c2 = ct kc ad A B hf c2) : (wl kc ad A B hf ex).set c (ad c, e) = wl kc ad A2 B2 hf2 ex := by
  refine List.ext_getElem? fun k => ?_
  by_cases hk : k < 80
  · rw [wl_at hk]
    by_cases e2 : c = k
    · subst e2
      rw [List.getElem?_set_self', wl_at hk, he]
      rfl
    · rw [List.getElem?_set_ne e2, wl_at hk, ho k hk (fun q => e2 q.symm)]
  · obtain ⟨i, rfl⟩ : ∃ i, k = 80 + i := ⟨k - 80, by omega⟩
    rw [List.getElem?_set_ne (by omega), wl_ex, wl_ex]
theorem ct_lab {i : Nat} (hi : i < 12) : ct kc ad A B hf (8 + i) = .inr (0, fL A i) := by
  unfold ct
  rw [if_neg (by omega), if_pos (by omega), Nat.add_sub_cancel_left]
theorem ct_row {r : Nat} (hr : r < 60) : ct kc ad A B hf (20 + r) = .inl (kc 0, 12, .inl (fun j => nI (A 10 (60 * j + r)))) := by
  unfold ct
  rw [if_neg (by omega), if_neg (by omega), Nat.add_sub_cancel_left]
theorem wl_lab {i : Nat} (hi : i < 12) : (wl kc ad A B hf ex)[8 + i]? = some (ad (8 + i), .inr (0, fL A i)) := by rw [wl_at (by omega), ct_lab hi]
theorem wl_row {r : Nat} (hr : r < 60) : (wl kc ad A B hf ex)[20 + r]? = some (ad (20 + r), .inl (kc 0, 12, .inl (fun j => nI (A 10 (60 * j + r))))) := by rw [wl_at (by omega), ct_row hr]
theorem cu_A0 {i v : Nat} : ∀ c2, c2 < 80 → c2 ≠ 0 → ct kc ad (up A 0 i v) B hf c2 = ct kc ad A B hf c2 := by
  intro c2 h1 h2
  unfold ct
  split
  · unfold ctS
    split <;> first | rfl | exact absurd rfl h2
  · rfl
theorem cu_A1 {i v : Nat} : ∀ c2, c2 < 80 → c2 ≠ 1 → ct kc ad (up A 1 i v) B hf c2 = ct kc ad A B hf c2 := by
  intro c2 h1 h2
  unfold ct
  split
  · unfold ctS
    split <;> first | rfl | exact absurd rfl h2
  · rfl
theorem cu_A2 {i v : Nat} : ∀ c2, c2 < 80 → c2 ≠ 8 + i → ct kc ad (up A 2 i v) B hf c2 = ct kc ad A B hf c2 := by
  intro c2 h1 h2
  unfold ct
  split
  · unfold ctS
    split <;> rfl
  · split
    · have hne : c2 - 8 ≠ i := by omega
      unfold fL
      rw [up_i A hne]
      rfl
    · rfl
theorem cu_A3 {i v : Nat} : ∀ c2, c2 < 80 → c2 ≠ 8 + i → ct kc ad (up A 3 i v) B hf c2 = ct kc ad A B hf c2 := by
  intro c2 h1 h2
  unfold ct
  split
  · unfold ctS
    split <;> rfl
  · split
    · have hne : c2 - 8 ≠ i := by omega
      unfold fL
      rw [up_i A hne]
      rfl
    · rfl
theorem cu_A4 {i v : Nat} : ∀ c2, c2 < 80 → c2 ≠ 8 + i → ct kc ad (up A 4 i v) B hf c2 = ct kc ad A B hf c2 := by
  intro c2 h1 h2
  unfold ct
  split
  · unfold ctS
    split <;> rfl
  · split
    · have hne : c2 - 8 ≠ i := by omega
      unfold fL
      rw [up_i A hne]
      rfl
    · rfl
theorem cu_A5 {i v : Nat} : ∀ c2, c2 < 80 → c2 ≠ 8 + i → ct kc ad (up A 5 i v) B hf c2 = ct kc ad A B hf c2 := by
  intro c2 h1 h2
  unfold ct
  split
  · unfold ctS
    split <;> rfl
  · split
    · have hne : c2 - 8 ≠ i := by omega
      unfold fL
      rw [up_i A hne]
      rfl
    · rfl
theorem cu_A6 {i v : Nat} : ∀ c2, c2 < 80 → c2 ≠ 8 + i → ct kc ad (up A 6 i v) B hf c2 = ct kc ad A B hf c2 := by
  intro c2 h1 h2
  unfold ct
  split
  · unfold ctS
    split <;> rfl
  · split
    · have hne : c2 - 8 ≠ i := by omega
      unfold fL
      rw [up_i A hne]
      rfl
    · rfl
theorem cu_A7 {i v : Nat} : ∀ c2, c2 < 80 → c2 ≠ 8 + i → ct kc ad (up A 7 i v) B hf c2 = ct kc ad A B hf c2 := by
  intro c2 h1 h2
  unfold ct
  split
  · unfold ctS
    split <;> rfl
  · split
    · have hne : c2 - 8 ≠ i := by omega
      unfold fL
      rw [up_i A hne]
      rfl
    · rfl
theorem cu_A8 {i v : Nat} : ∀ c2, c2 < 80 → c2 ≠ 8 + i → ct kc ad (up A 8 i v) B hf c2 = ct kc ad A B hf c2 := by
  intro c2 h1 h2
  unfold ct
  split
  · unfold ctS
    split <;> rfl
  · split
    · have hne : c2 - 8 ≠ i := by omega
      unfold fL
      rw [up_i A hne]
      rfl
    · rfl
theorem cu_A9 {i v : Nat} : ∀ c2, c2 < 80 → c2 ≠ 8 + i → ct kc ad (up A 9 i v) B hf c2 = ct kc ad A B hf c2 := by
  intro c2 h1 h2
  unfold ct
  split
  · unfold ctS
    split <;> rfl
  · split
    · have hne : c2 - 8 ≠ i := by omega
      unfold fL
      rw [up_i A hne]
      rfl
    · rfl
theorem cu_A10 {j q v : Nat} (hq : q < 60) : ∀ c2, c2 < 80 → c2 ≠ 20 + q → ct kc ad (up A 10 (60 * j + q) v) B hf c2 = ct kc ad A B hf c2 := by
  intro c2 h1 h2
  unfold ct
  split
  · unfold ctS
    split <;> rfl
  · split
    · rfl
    · have hne : ∀ x : Nat, 60 * x + (c2 - 20) ≠ 60 * j + q := fun x => by omega
      refine congrArg (fun f => (Sum.inl (kc 0, 12, Sum.inl f) : va_E)) (funext fun x => ?_)
      rw [up_i A (hne x)]
theorem cu_A11 {i v : Nat} : ∀ c2, c2 < 80 → c2 ≠ 5 → ct kc ad (up A 11 i v) B hf c2 = ct kc ad A B hf c2 := by
  intro c2 h1 h2
  unfold ct
  split
  · unfold ctS
    split <;> first | rfl | exact absurd rfl h2
  · rfl
theorem cu_B0 {i v : Nat} : ∀ c2, c2 < 80 → c2 ≠ 6 → ct kc ad A (up B 0 i v) hf c2 = ct kc ad A B hf c2 := by
  intro c2 h1 h2
  unfold ct
  split
  · unfold ctS
    split <;> first | rfl | exact absurd rfl h2
  · rfl
theorem cu_hf {hf2 : Nat → Int64} : ∀ c2, c2 < 80 → c2 ≠ 7 → ct kc ad A B hf2 c2 = ct kc ad A B hf c2 := by
  intro c2 h1 h2
  unfold ct
  split
  · rename_i h3
    rcases (show c2 = 0 ∨ c2 = 1 ∨ c2 = 2 ∨ c2 = 3 ∨ c2 = 4 ∨ c2 = 5 ∨ c2 = 6 by omega) with rfl | rfl | rfl | rfl | rfl | rfl | rfl <;> rfl
  · rfl
end XW
section XV
variable {p : Program} {l : Launch} {e : Env} {R : Room} {s : State} {m : MethodId} {args : Array Value} {below : List Frame} {meth : Method} {c : Code} {D : va_G} {A : Nat → Prop} {nL cells slots : Nat} {Q : State → Prop}
variable {cc : ByteArray} {own : String} {pc : Nat} {ls : List (Option Value)} {st : List Value} {kc : Nat → ClassId} {ad : Nat → Nat} {X B : St} {hf : Nat → Int64} {ex : va_W}
theorem gX0 (M : CallFix p m c cc nL s args gw own) (TB : x_TB D kc s) {index : Nat} (hlk : Cond.fieldLink own index (TX2 0).1 (TX2 0).2.1 (TX2 0).2.2.1 ∈ gw) (hdg : decode cc pc = .ok (.getfield index, 3)) (kk : x_X p l e R s m args below meth c D A nL cells slots Q (wl kc ad X B hf ex) (pc + 3) ls (.ref (ad 1) :: st)) : x_X p l e R s m args below meth c D A nL cells slots Q (wl kc ad X B hf ex) pc ls (.ref (ad 0) :: st) :=
  x_get2 M TB 0 (wl_at (c := 0) (by decide)) (by decide) rfl hlk hdg kk
theorem gX1 (M : CallFix p m c cc nL s args gw own) (TB : x_TB D kc s) {index : Nat} (hlk : Cond.fieldLink own index (TX2 1).1 (TX2 1).2.1 (TX2 1).2.2.1 ∈ gw) (hdg : decode cc pc = .ok (.getfield index, 3)) (kk : x_X p l e R s m args below meth c D A nL cells slots Q (wl kc ad X B hf ex) (pc + 3) ls (.ref (ad 2) :: st)) : x_X p l e R s m args below meth c D A nL cells slots Q (wl kc ad X B hf ex) pc ls (.ref (ad 0) :: st) :=
  x_get2 M TB 1 (wl_at (c := 0) (by decide)) (by decide) rfl hlk hdg kk
theorem gX2 (M : CallFix p m c cc nL s args gw own) (TB : x_TB D kc s) {index : Nat} (hlk : Cond.fieldLink own index (TX2 2).1 (TX2 2).2.1 (TX2 2).2.2.1 ∈ gw) (hdg : decode cc pc = .ok (.getfield index, 3)) (kk : x_X p l e R s m args below meth c D A nL cells slots Q (wl kc ad X B hf ex) (pc + 3) ls (.ref (ad 3) :: st)) : x_X p l e R s m args below meth c D A nL cells slots Q (wl kc ad X B hf ex) pc ls (.ref (ad 0) :: st) :=
  x_get2 M TB 2 (wl_at (c := 0) (by decide)) (by decide) rfl hlk hdg kk
theorem gX3 (M : CallFix p m c cc nL s args gw own) (TB : x_TB D kc s) {index : Nat} (hlk : Cond.fieldLink own index (TX2 3).1 (TX2 3).2.1 (TX2 3).2.2.1 ∈ gw) (hdg : decode cc pc = .ok (.getfield index, 3)) (kk : x_X p l e R s m args below meth c D A nL cells slots Q (wl kc ad X B hf ex) (pc + 3) ls (.int (nI (X 0 0)) :: st)) : x_X p l e R s m args below meth c D A nL cells slots Q (wl kc ad X B hf ex) pc ls (.ref (ad 0) :: st) :=
  x_get2 M TB 3 (wl_at (c := 0) (by decide)) (by decide) rfl hlk hdg kk
theorem gX4 (M : CallFix p m c cc nL s args gw own) (TB : x_TB D kc s) {index : Nat} (hlk : Cond.fieldLink own index (TX2 4).1 (TX2 4).2.1 (TX2 4).2.2.1 ∈ gw) (hdg : decode cc pc = .ok (.getfield index, 3)) (kk : x_X p l e R s m args below meth c D A nL cells slots Q (wl kc ad X B hf ex) (pc + 3) ls (.int (nI (X 0 1)) :: st)) : x_X p l e R s m args below meth c D A nL cells slots Q (wl kc ad X B hf ex) pc ls (.ref (ad 0) :: st) :=
  x_get2 M TB 4 (wl_at (c := 0) (by decide)) (by decide) rfl hlk hdg kk
theorem gX5 (M : CallFix p m c cc nL s args gw own) (TB : x_TB D kc s) {index : Nat} (hlk : Cond.fieldLink own index (TX2 5).1 (TX2 5).2.1 (TX2 5).2.2.1 ∈ gw) (hdg : decode cc pc = .ok (.getfield index, 3)) (kk : x_X p l e R s m args below meth c D A nL cells slots Q (wl kc ad X B hf ex) (pc + 3) ls (.int (nI (X 0 2)) :: st)) : x_X p l e R s m args below meth c D A nL cells slots Q (wl kc ad X B hf ex) pc ls (.ref (ad 0) :: st) :=
  x_get2 M TB 5 (wl_at (c := 0) (by decide)) (by decide) rfl hlk hdg kk
theorem gL0 (M : CallFix p m c cc nL s args gw own) (TB : x_TB D kc s) {index i : Nat} (hi : i < 12) (hlk : Cond.fieldLink own index (TX0 0).1 (TX0 0).2.1 (TX0 0).2.2.1 ∈ gw) (hdg : decode cc pc = .ok (.getfield index, 3)) (kk : x_X p l e R s m args below meth c D A nL cells slots Q (wl kc ad X B hf ex) (pc + 3) ls (.int (nI (X 2 i)) :: st)) : x_X p l e R s m args below meth c D A nL cells slots Q (wl kc ad X B hf ex) pc ls (.ref (ad (8 + i)) :: st) :=
  x_get0 M TB 0 (wl_lab hi) (by decide) rfl hlk hdg kk
theorem gL1 (M : CallFix p m c cc nL s args gw own) (TB : x_TB D kc s) {index i : Nat} (hi : i < 12) (hlk : Cond.fieldLink own index (TX0 1).1 (TX0 1).2.1 (TX0 1).2.2.1 ∈ gw) (hdg : decode cc pc = .ok (.getfield index, 3)) (kk : x_X p l e R s m args below meth c D A nL cells slots Q (wl kc ad X B hf ex) (pc + 3) ls (.int (nI (X 3 i)) :: st)) : x_X p l e R s m args below meth c D A nL cells slots Q (wl kc ad X B hf ex) pc ls (.ref (ad (8 + i)) :: st) :=
  x_get0 M TB 1 (wl_lab hi) (by decide) rfl hlk hdg kk
theorem gL2 (M : CallFix p m c cc nL s args gw own) (TB : x_TB D kc s) {index i : Nat} (hi : i < 12) (hlk : Cond.fieldLink own index (TX0 2).1 (TX0 2).2.1 (TX0 2).2.2.1 ∈ gw) (hdg : decode cc pc = .ok (.getfield index, 3)) (kk : x_X p l e R s m args below meth c D A nL cells slots Q (wl kc ad X B hf ex) (pc + 3) ls (.int (nI (X 4 i)) :: st)) : x_X p l e R s m args below meth c D A nL cells slots Q (wl kc ad X B hf ex) pc ls (.ref (ad (8 + i)) :: st) :=
  x_get0 M TB 2 (wl_lab hi) (by decide) rfl hlk hdg kk
theorem gL3 (M : CallFix p m c cc nL s args gw own) (TB : x_TB D kc s) {index i : Nat} (hi : i < 12) (hlk : Cond.fieldLink own index (TX0 3).1 (TX0 3).2.1 (TX0 3).2.2.1 ∈ gw) (hdg : decode cc pc = .ok (.getfield index, 3)) (kk : x_X p l e R s m args below meth c D A nL cells slots Q (wl kc ad X B hf ex) (pc + 3) ls (.int (nI (X 5 i)) :: st)) : x_X p l e R s m args below meth c D A nL cells slots Q (wl kc ad X B hf ex) pc ls (.ref (ad (8 + i)) :: st) :=
  x_get0 M TB 3 (wl_lab hi) (by decide) rfl hlk hdg kk
theorem gL4 (M : CallFix p m c cc nL s args gw own) (TB : x_TB D kc s) {index i : Nat} (hi : i < 12) (hlk : Cond.fieldLink own index (TX0 4).1 (TX0 4).2.1 (TX0 4).2.2.1 ∈ gw) (hdg : decode cc pc = .ok (.getfield index, 3)) (kk : x_X p l e R s m args below meth c D A nL cells slots Q (wl kc ad X B hf ex) (pc + 3) ls (.int (eo (X 8 i)) :: st)) : x_X p l e R s m args below meth c D A nL cells slots Q (wl kc ad X B hf ex) pc ls (.ref (ad (8 + i)) :: st) :=
  x_get0 M TB 4 (wl_lab hi) (by decide) rfl hlk hdg kk
theorem gL5 (M : CallFix p m c cc nL s args gw own) (TB : x_TB D kc s) {index i : Nat} (hi : i < 12) (hlk : Cond.fieldLink own index (TX0 5).1 (TX0 5).2.1 (TX0 5).2.2.1 ∈ gw) (hdg : decode cc pc = .ok (.getfield index, 3)) (kk : x_X p l e R s m args below meth c D A nL cells slots Q (wl kc ad X B hf ex) (pc + 3) ls (.int (nI (X 9 i)) :: st)) : x_X p l e R s m args below meth c D A nL cells slots Q (wl kc ad X B hf ex) pc ls (.ref (ad (8 + i)) :: st) :=
  x_get0 M TB 5 (wl_lab hi) (by decide) rfl hlk hdg kk
theorem gL6 (M : CallFix p m c cc nL s args gw own) (TB : x_TB D kc s) {index i : Nat} (hi : i < 12) (hlk : Cond.fieldLink own index (TX0 6).1 (TX0 6).2.1 (TX0 6).2.2.1 ∈ gw) (hdg : decode cc pc = .ok (.getfield index, 3)) (kk : x_X p l e R s m args below meth c D A nL cells slots Q (wl kc ad X B hf ex) (pc + 3) ls (.int (nI (X 6 i)) :: st)) : x_X p l e R s m args below meth c D A nL cells slots Q (wl kc ad X B hf ex) pc ls (.ref (ad (8 + i)) :: st) :=
  x_get0 M TB 6 (wl_lab hi) (by decide) rfl hlk hdg kk
theorem gL7 (M : CallFix p m c cc nL s args gw own) (TB : x_TB D kc s) {index i : Nat} (hi : i < 12) (hlk : Cond.fieldLink own index (TX0 7).1 (TX0 7).2.1 (TX0 7).2.2.1 ∈ gw) (hdg : decode cc pc = .ok (.getfield index, 3)) (kk : x_X p l e R s m args below meth c D A nL cells slots Q (wl kc ad X B hf ex) (pc + 3) ls (.int (nI (X 7 i)) :: st)) : x_X p l e R s m args below meth c D A nL cells slots Q (wl kc ad X B hf ex) pc ls (.ref (ad (8 + i)) :: st) :=
  x_get0 M TB 7 (wl_lab hi) (by decide) rfl hlk hdg kk
theorem gY0 (M : CallFix p m c cc nL s args gw own) (TB : x_TB D kc s) {index : Nat} (hlk : Cond.fieldLink own index (TX1 0).1 (TX1 0).2.1 (TX1 0).2.2.1 ∈ gw) (hdg : decode cc pc = .ok (.getfield index, 3)) (kk : x_X p l e R s m args below meth c D A nL cells slots Q (wl kc ad X B hf ex) (pc + 3) ls (.ref (ad 4) :: st)) : x_X p l e R s m args below meth c D A nL cells slots Q (wl kc ad X B hf ex) pc ls (.ref (ad 3) :: st) :=
  x_get1 M TB 0 (wl_at (c := 3) (by decide)) (by decide) rfl hlk hdg kk
theorem gY1 (M : CallFix p m c cc nL s args gw own) (TB : x_TB D kc s) {index : Nat} (hlk : Cond.fieldLink own index (TX1 1).1 (TX1 1).2.1 (TX1 1).2.2.1 ∈ gw) (hdg : decode cc pc = .ok (.getfield index, 3)) (kk : x_X p l e R s m args below meth c D A nL cells slots Q (wl kc ad X B hf ex) (pc + 3) ls (.ref (ad 5) :: st)) : x_X p l e R s m args below meth c D A nL cells slots Q (wl kc ad X B hf ex) pc ls (.ref (ad 3) :: st) :=
  x_get1 M TB 1 (wl_at (c := 3) (by decide)) (by decide) rfl hlk hdg kk
theorem pX3 (M : CallFix p m c cc nL s args gw own) (TB : x_TB D kc s) {index v : Nat} (hlk : Cond.fieldLink own index (TX2 3).1 (TX2 3).2.1 (TX2 3).2.2.1 ∈ gw) (hdg : decode cc pc = .ok (.putfield index, 3)) (kk : x_X p l e R s m args below meth c D A nL cells slots Q (wl kc ad (up X 0 0 v) B hf ex) (pc + 3) ls st) : x_X p l e R s m args below meth c D A nL cells slots Q (wl kc ad X B hf ex) pc ls (.int (nI v) :: .ref (ad 0) :: st) :=
  x_put2 M TB 3 (wl_at (c := 0) (by decide)) (by decide) (by show 3 < 6; decide) rfl (by decide +kernel) hlk hdg (x_ws (wl_set (c := 0) (by decide) rfl cu_A0) kk)
theorem pX4 (M : CallFix p m c cc nL s args gw own) (TB : x_TB D kc s) {index v : Nat} (hlk : Cond.fieldLink own index (TX2 4).1 (TX2 4).2.1 (TX2 4).2.2.1 ∈ gw) (hdg : decode cc pc = .ok (.putfield index, 3)) (kk : x_X p l e R s m args below meth c D A nL cells slots Q (wl kc ad (up X 0 1 v) B hf ex) (pc + 3) ls st) : x_X p l e R s m args below meth c D A nL cells slots Q (wl kc ad X B hf ex) pc ls (.int (nI v) :: .ref (ad 0) :: st) :=
  x_put2 M TB 4 (wl_at (c := 0) (by decide)) (by decide) (by show 4 < 6; decide) rfl (by decide +kernel) hlk hdg (x_ws (wl_set (c := 0) (by decide) rfl cu_A0) kk)
theorem pX5 (M : CallFix p m c cc nL s args gw own) (TB : x_TB D kc s) {index v : Nat} (hlk : Cond.fieldLink own index (TX2 5).1 (TX2 5).2.1 (TX2 5).2.2.1 ∈ gw) (hdg : decode cc pc = .ok (.putfield index, 3)) (kk : x_X p l e R s m args below meth c D A nL cells slots Q (wl kc ad (up X 0 2 v) B hf ex) (pc + 3) ls st) : x_X p l e R s m args below meth c D A nL cells slots Q (wl kc ad X B hf ex) pc ls (.int (nI v) :: .ref (ad 0) :: st) :=
  x_put2 M TB 5 (wl_at (c := 0) (by decide)) (by decide) (by show 5 < 6; decide) rfl (by decide +kernel) hlk hdg (x_ws (wl_set (c := 0) (by decide) rfl cu_A0) kk)
theorem pL0 (M : CallFix p m c cc nL s args gw own) (TB : x_TB D kc s) {index i v : Nat} (hi : i < 12) (hlk : Cond.fieldLink own index (TX0 0).1 (TX0 0).2.1 (TX0 0).2.2.1 ∈ gw) (hdg : decode cc pc = .ok (.putfield index, 3)) (kk : x_X p l e R s m args below meth c D A nL cells slots Q (wl kc ad (up X 2 i v) B hf ex) (pc + 3) ls st) : x_X p l e R s m args below meth c D A nL cells slots Q (wl kc ad X B hf ex) pc ls (.int (nI v) :: .ref (ad (8 + i)) :: st) :=
  x_put0 M TB 0 (wl_lab hi) (by decide) (by show 0 < 8; decide) rfl (by decide +kernel) hlk hdg (x_ws (wl_set (c := 8 + i) (by omega) (by rw [ct_lab hi]; unfold fL; rw [up_s]; rfl) cu_A2) kk)
theorem pL1 (M : CallFix p m c cc nL s args gw own) (TB : x_TB D kc s) {index i v : Nat} (hi : i < 12) (hlk : Cond.fieldLink own index (TX0 1).1 (TX0 1).2.1 (TX0 1).2.2.1 ∈ gw) (hdg : decode cc pc = .ok (.putfield index, 3)) (kk : x_X p l e R s m args below meth c D A nL cells slots Q (wl kc ad (up X 3 i v) B hf ex) (pc + 3) ls st) : x_X p l e R s m args below meth c D A nL cells slots Q (wl kc ad X B hf ex) pc ls (.int (nI v) :: .ref (ad (8 + i)) :: st) :=
  x_put0 M TB 1 (wl_lab hi) (by decide) (by show 1 < 8; decide) rfl (by decide +kernel) hlk hdg (x_ws (wl_set (c := 8 + i) (by omega) (by rw [ct_lab hi]; unfold fL; rw [up_s]; rfl) cu_A3) kk)
theorem pL2 (M : CallFix p m c cc nL s args gw own) (TB : x_TB D kc s) {index i v : Nat} (hi : i < 12) (hlk : Cond.fieldLink own index (TX0 2).1 (TX0 2).2.1 (TX0 2).2.2.1 ∈ gw) (hdg : decode cc pc = .ok (.putfield index, 3)) (kk : x_X p l e R s m args below meth c D A nL cells slots Q (wl kc ad (up X 4 i v) B hf ex) (pc + 3) ls st) : x_X p l e R s m args below meth c D A nL cells slots Q (wl kc ad X B hf ex) pc ls (.int (nI v) :: .ref (ad (8 + i)) :: st) :=
  x_put0 M TB 2 (wl_lab hi) (by decide) (by show 2 < 8; decide) rfl (by decide +kernel) hlk hdg (x_ws (wl_set (c := 8 + i) (by omega) (by rw [ct_lab hi]; unfold fL; rw [up_s]; rfl) cu_A4) kk)
theorem pL3 (M : CallFix p m c cc nL s args gw own) (TB : x_TB D kc s) {index i v : Nat} (hi : i < 12) (hlk : Cond.fieldLink own index (TX0 3).1 (TX0 3).2.1 (TX0 3).2.2.1 ∈ gw) (hdg : decode cc pc = .ok (.putfield index, 3)) (kk : x_X p l e R s m args below meth c D A nL cells slots Q (wl kc ad (up X 5 i v) B hf ex) (pc + 3) ls st) : x_X p l e R s m args below meth c D A nL cells slots Q (wl kc ad X B hf ex) pc ls (.int (nI v) :: .ref (ad (8 + i)) :: st) :=
  x_put0 M TB 3 (wl_lab hi) (by decide) (by show 3 < 8; decide) rfl (by decide +kernel) hlk hdg (x_ws (wl_set (c := 8 + i) (by omega) (by rw [ct_lab hi]; unfold fL; rw [up_s]; rfl) cu_A5) kk)
theorem pL4 (M : CallFix p m c cc nL s args gw own) (TB : x_TB D kc s) {index i v : Nat} {x : Int32} (hi : i < 12) (hx : eo v = x) (hlk : Cond.fieldLink own index (TX0 4).1 (TX0 4).2.1 (TX0 4).2.2.1 ∈ gw) (hdg : decode cc pc = .ok (.putfield index, 3)) (kk : x_X p l e R s m args below meth c D A nL cells slots Q (wl kc ad (up X 8 i v) B hf ex) (pc + 3) ls st) : x_X p l e R s m args below meth c D A nL cells slots Q (wl kc ad X B hf ex) pc ls (.int x :: .ref (ad (8 + i)) :: st) :=
  x_put0 M TB 4 (wl_lab hi) (by decide) (by show 4 < 8; decide) rfl (by decide +kernel) hlk hdg (x_ws (wl_set (c := 8 + i) (by omega) (by rw [ct_lab hi]; unfold fL; rw [up_s, hx]; rfl) cu_A8) kk)
theorem pL5 (M : CallFix p m c cc nL s args gw own) (TB : x_TB D kc s) {index i v : Nat} (hi : i < 12) (hlk : Cond.fieldLink own index (TX0 5).1 (TX0 5).2.1 (TX0 5).2.2.1 ∈ gw) (hdg : decode cc pc = .ok (.putfield index, 3)) (kk : x_X p l e R s m args below meth c D A nL cells slots Q (wl kc ad (up X 9 i v) B hf ex) (pc + 3) ls st) : x_X p l e R s m args below meth c D A nL cells slots Q (wl kc ad X B hf ex) pc ls (.int (nI v) :: .ref (ad (8 + i)) :: st) :=
  x_put0 M TB 5 (wl_lab hi) (by decide) (by show 5 < 8; decide) rfl (by decide +kernel) hlk hdg (x_ws (wl_set (c := 8 + i) (by omega) (by rw [ct_lab hi]; unfold fL; rw [up_s]; rfl) cu_A9) kk)
theorem pL6 (M : CallFix p m c cc nL s args gw own) (TB : x_TB D kc s) {index i v : Nat} (hi : i < 12) (hlk : Cond.fieldLink own index (TX0 6).1 (TX0 6).2.1 (TX0 6).2.2.1 ∈ gw) (hdg : decode cc pc = .ok (.putfield index, 3)) (kk : x_X p l e R s m args below meth c D A nL cells slots Q (wl kc ad (up X 6 i v) B hf ex) (pc + 3) ls st) : x_X p l e R s m args below meth c D A nL cells slots Q (wl kc ad X B hf ex) pc ls (.int (nI v) :: .ref (ad (8 + i)) :: st) :=
  x_put0 M TB 6 (wl_lab hi) (by decide) (by show 6 < 8; decide) rfl (by decide +kernel) hlk hdg (x_ws (wl_set (c := 8 + i) (by omega) (by rw [ct_lab hi]; unfold fL; rw [up_s]; rfl) cu_A6) kk)
theorem pL7 (M : CallFix p m c cc nL s args gw own) (TB : x_TB D kc s) {index i v : Nat} (hi : i < 12) (hlk : Cond.fieldLink own index (TX0 7).1 (TX0 7).2.1 (TX0 7).2.2.1 ∈ gw) (hdg : decode cc pc = .ok (.putfield index, 3)) (kk : x_X p l e R s m args below meth c D A nL cells slots Q (wl kc ad (up X 7 i v) B hf ex) (pc + 3) ls st) : x_X p l e R s m args below meth c D A nL cells slots Q (wl kc ad X B hf ex) pc ls (.int (nI v) :: .ref (ad (8 + i)) :: st) :=
  x_put0 M TB 7 (wl_lab hi) (by decide) (by show 7 < 8; decide) rfl (by decide +kernel) hlk hdg (x_ws (wl_set (c := 8 + i) (by omega) (by rw [ct_lab hi]; unfold fL; rw [up_s]; rfl) cu_A7) kk)
theorem aP (M : CallFix p m c cc nL s args gw own) (TB : x_TB D kc s) {j : Nat} (hj : j < 12) (hdg : decode cc pc = .ok (.iaload, 1)) (kk : x_X p l e R s m args below meth c D A nL cells slots Q (wl kc ad X B hf ex) (pc + 1) ls (.int (nI (X 1 j)) :: st)) : x_X p l e R s m args below meth c D A nL cells slots Q (wl kc ad X B hf ex) pc ls (.int (nI j) :: .ref (ad 1) :: st) :=
  x_iald M TB (f := fun j => nI (X 1 j)) (wl_at (c := 1) (by decide)) hj (by decide) hdg kk
theorem aE (M : CallFix p m c cc nL s args gw own) (TB : x_TB D kc s) {j : Nat} (hj : j < 12) (hdg : decode cc pc = .ok (.iaload, 1)) (kk : x_X p l e R s m args below meth c D A nL cells slots Q (wl kc ad X B hf ex) (pc + 1) ls (.int (nI (X 11 j)) :: st)) : x_X p l e R s m args below meth c D A nL cells slots Q (wl kc ad X B hf ex) pc ls (.int (nI j) :: .ref (ad 5) :: st) :=
  x_iald M TB (f := fun j => nI (X 11 j)) (wl_at (c := 5) (by decide)) hj (by decide) hdg kk
theorem aC (M : CallFix p m c cc nL s args gw own) (TB : x_TB D kc s) {j : Nat} (hj : j < 18) (hdg : decode cc pc = .ok (.iaload, 1)) (kk : x_X p l e R s m args below meth c D A nL cells slots Q (wl kc ad X B hf ex) (pc + 1) ls (.int (nI (B 0 j)) :: st)) : x_X p l e R s m args below meth c D A nL cells slots Q (wl kc ad X B hf ex) pc ls (.int (nI j) :: .ref (ad 6) :: st) :=
  x_iald M TB (f := fun j => nI (B 0 j)) (wl_at (c := 6) (by decide)) hj (by decide) hdg kk
theorem aW (M : CallFix p m c cc nL s args gw own) (TB : x_TB D kc s) {j r : Nat} (hr : r < 60) (hj : j < 12) (hdg : decode cc pc = .ok (.iaload, 1)) (kk : x_X p l e R s m args below meth c D A nL cells slots Q (wl kc ad X B hf ex) (pc + 1) ls (.int (nI (X 10 (60 * j + r))) :: st)) : x_X p l e R s m args below meth c D A nL cells slots Q (wl kc ad X B hf ex) pc ls (.int (nI j) :: .ref (ad (20 + r)) :: st) :=
  x_iald M TB (wl_row hr) hj (by decide) hdg kk
theorem aL (M : CallFix p m c cc nL s args gw own) (TB : x_TB D kc s) {j : Nat} (hj : j < 12) (hdg : decode cc pc = .ok (.aaload, 1)) (kk : x_X p l e R s m args below meth c D A nL cells slots Q (wl kc ad X B hf ex) (pc + 1) ls (.ref (ad (8 + j)) :: st)) : x_X p l e R s m args below meth c D A nL cells slots Q (wl kc ad X B hf ex) pc ls (.int (nI j) :: .ref (ad 2) :: st) :=
  x_aald M TB (t0 := 2) (f := fun j => if j < 12 then some (ad (8 + j)) else none) (wl_at (c := 2) (by decide)) rfl rfl hj (by decide) hdg (by rw [if_pos hj]; exact kk)
theorem aO (M : CallFix p m c cc nL s args gw own) (TB : x_TB D kc s) {j : Nat} (hj : j < 60) (hdg : decode cc pc = .ok (.aaload, 1)) (kk : x_X p l e R s m args below meth c D A nL cells slots Q (wl kc ad X B hf ex) (pc + 1) ls (.ref (ad (20 + j)) :: st)) : x_X p l e R s m args below meth c D A nL cells slots Q (wl kc ad X B hf ex) pc ls (.int (nI j) :: .ref (ad 4) :: st) :=
  x_aald M TB (t0 := 3) (f := fun j => if j < 60 then some (ad (20 + j)) else none) (wl_at (c := 4) (by decide)) rfl rfl hj (by decide) hdg (by rw [if_pos hj]; exact kk)
theorem aH (M : CallFix p m c cc nL s args gw own) (TB : x_TB D kc s) {j : Nat} (hj : j < 60) (hdg : decode cc pc = .ok (.laload, 1)) (kk : x_X p l e R s m args below meth c D A nL cells slots Q (wl kc ad X B hf ex) (pc + 1) ls (.long (hf j) :: st)) : x_X p l e R s m args below meth c D A nL cells slots Q (wl kc ad X B hf ex) pc ls (.int (nI j) :: .ref (ad 7) :: st) :=
  x_lald M TB (wl_at (c := 7) (by decide)) hj (by decide) hdg kk
theorem sH (M : CallFix p m c cc nL s args gw own) (TB : x_TB D kc s) {x : Int64} {j : Nat} (hj : j < 60) (hdg : decode cc pc = .ok (.lastore, 1)) (kk : x_X p l e R s m args below meth c D A nL cells slots Q (wl kc ad X B (vp_updL hf j x) ex) (pc + 1) ls st) : x_X p l e R s m args below meth c D A nL cells slots Q (wl kc ad X B hf ex) pc ls (.long x :: .int (nI j) :: .ref (ad 7) :: st) :=
  x_last M TB (wl_at (c := 7) (by decide)) hj (by decide) hdg (x_ws (wl_set (c := 7) (by decide) rfl cu_hf) kk)
theorem sP (M : CallFix p m c cc nL s args gw own) (TB : x_TB D kc s) {j v : Nat} (hj : j < 12) (hdg : decode cc pc = .ok (.iastore, 1)) (kk : x_X p l e R s m args below meth c D A nL cells slots Q (wl kc ad (up X 1 j v) B hf ex) (pc + 1) ls st) : x_X p l e R s m args below meth c D A nL cells slots Q (wl kc ad X B hf ex) pc ls (.int (nI v) :: .int (nI j) :: .ref (ad 1) :: st) :=
  x_iast M TB (f := fun j => nI (X 1 j)) (wl_at (c := 1) (by decide)) hj (by decide) hdg (x_ws (wl_set (c := 1) (by decide) (congrArg (fun f => (Sum.inl (kc 0, 12, Sum.inl f) : va_E)) (funext fun k => by
    unfold upd up
    by_cases e : k = j
    · rw [if_pos e, if_pos ⟨rfl, e⟩]
    · rw [if_neg e, if_neg (fun q => e q.2)])) cu_A1) kk)
theorem sE (M : CallFix p m c cc nL s args gw own) (TB : x_TB D kc s) {j v : Nat} (hj : j < 12) (hdg : decode cc pc = .ok (.iastore, 1)) (kk : x_X p l e R s m args below meth c D A nL cells slots Q (wl kc ad (up X 11 j v) B hf ex) (pc + 1) ls st) : x_X p l e R s m args below meth c D A nL cells slots Q (wl kc ad X B hf ex) pc ls (.int (nI v) :: .int (nI j) :: .ref (ad 5) :: st) :=
  x_iast M TB (f := fun j => nI (X 11 j)) (wl_at (c := 5) (by decide)) hj (by decide) hdg (x_ws (wl_set (c := 5) (by decide) (congrArg (fun f => (Sum.inl (kc 0, 12, Sum.inl f) : va_E)) (funext fun k => by
    unfold upd up
    by_cases e : k = j
    · rw [if_pos e, if_pos ⟨rfl, e⟩]
    · rw [if_neg e, if_neg (fun q => e q.2)])) cu_A11) kk)
theorem sC (M : CallFix p m c cc nL s args gw own) (TB : x_TB D kc s) {j v : Nat} (hj : j < 18) (hdg : decode cc pc = .ok (.iastore, 1)) (kk : x_X p l e R s m args below meth c D A nL cells slots Q (wl kc ad X (up B 0 j v) hf ex) (pc + 1) ls st) : x_X p l e R s m args below meth c D A nL cells slots Q (wl kc ad X B hf ex) pc ls (.int (nI v) :: .int (nI j) :: .ref (ad 6) :: st) :=
  x_iast M TB (f := fun j => nI (B 0 j)) (wl_at (c := 6) (by decide)) hj (by decide) hdg (x_ws (wl_set (c := 6) (by decide) (congrArg (fun f => (Sum.inl (kc 0, 18, Sum.inl f) : va_E)) (funext fun k => by
    unfold upd up
    by_cases e : k = j
    · rw [if_pos e, if_pos ⟨rfl, e⟩]
    · rw [if_neg e, if_neg (fun q => e q.2)])) cu_B0) kk)
theorem sW (M : CallFix p m c cc nL s args gw own) (TB : x_TB D kc s) {j r v : Nat} (hr : r < 60) (hj : j < 12) (hdg : decode cc pc = .ok (.iastore, 1)) (kk : x_X p l e R s m args below meth c D A nL cells slots Q (wl kc ad (up X 10 (60 * j + r) v) B hf ex) (pc + 1) ls st) : x_X p l e R s m args below meth c D A nL cells slots Q (wl kc ad X B hf ex) pc ls (.int (nI v) :: .int (nI j) :: .ref (ad (20 + r)) :: st) :=
  x_iast M TB (wl_row hr) hj (by decide) hdg (x_ws (wl_set (c := 20 + r) (by omega) (by
    rw [ct_row hr]
    refine congrArg (fun f => (Sum.inl (kc 0, 12, Sum.inl f) : va_E)) (funext fun k => ?_)
    unfold upd up
    by_cases e : k = j
    · rw [if_pos e, if_pos ⟨rfl, by omega⟩]
    · rw [if_neg e, if_neg (fun q => e (by omega))]) (cu_A10 hr)) kk)
end XV
