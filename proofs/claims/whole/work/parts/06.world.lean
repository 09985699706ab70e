/-! THE WORLD: numbers of the state by register and place; its cells: 0 the class's object, 1 its prices, 2 its labels' row, 3 its memory, 4, 5 the memory's rows, 6 the reference, 7 to 17 its arrays, 18 the answers' place, 19 to 30 the labels, 31 to 90 the memory's sixty rows -/
abbrev St : Type := Nat → Nat → Nat
def up (S : St) (r i v : Nat) : St := fun r2 i2 => if r2 = r ∧ i2 = i then v else S r2 i2
theorem up_s (S : St) (r i v : Nat) : up S r i v r i = v := by simp [up]
theorem up_n (S : St) {r i v r2 i2 : Nat} (h : ¬ (r2 = r ∧ i2 = i)) : up S r i v r2 i2 = S r2 i2 := if_neg h
theorem up_r (S : St) {r i v r2 i2 : Nat} (h : r2 ≠ r) : up S r i v r2 i2 = S r2 i2 := if_neg (fun q => h q.1)
theorem up_i (S : St) {r i v i2 : Nat} (h : i2 ≠ i) : up S r i v r i2 = S r i2 := if_neg (fun q => h q.2)
/-- an order's number as the class holds it: -1 for none -/
def eo (v : Nat) : Int32 := if v = 0 then -1 else nI v
/-- a remembered price as the reference holds it: -1 for none (10000 here) -/
def em (v : Nat) : Int32 := if v = 10000 then -1 else nI v
def fX (ad : Nat → Nat) (A : St) : List Value := [.ref (ad 1), .ref (ad 2), .ref (ad 3), .int (nI (A 0 0)), .int (nI (A 0 1)), .int (nI (A 0 2))]
def fL (A : St) (i : Nat) : List Value := [.int (nI (A 2 i)), .int (nI (A 3 i)), .int (nI (A 4 i)), .int (nI (A 5 i)), .int (eo (A 8 i)), .int (nI (A 9 i)), .int (nI (A 6 i)), .int (nI (A 7 i))]
def fM (ad : Nat → Nat) (B : St) (th : Nat) : List Value := [.int (nI th), .int (nI (B 0 1)), .int (nI (B 0 2)), .ref (ad 7), .int (nI (B 0 0)), .ref (ad 8), .ref (ad 9), .ref (ad 10), .ref (ad 11), .ref (ad 12), .ref (ad 13), .ref (ad 14), .ref (ad 15), .ref (ad 16), .ref (ad 17)]
def ctS (kc : Nat → ClassId) (ad : Nat → Nat) (A B : St) (th : Nat) (ov : Int64) (hw : Nat) : Nat → va_E := fun c => match c with
  | 0 => .inr (2, fX ad A)
  | 1 => .inl (kc 0, 12, .inl (fun j => nI (A 1 j)))
  | 2 => .inl (kc 2, 12, .inr (.inr (.inr (.inr (fun j => if j < 12 then some (ad (19 + j)) else none)))))
  | 3 => .inr (1, [.ref (ad 4), .ref (ad 5)])
  | 4 => .inl (kc 3, 60, .inr (.inr (.inr (.inr (fun j => if j < 60 then some (ad (31 + j)) else none)))))
  | 5 => .inl (kc 0, 12, .inl (fun j => nI (A 11 j)))
  | 6 => .inr (3, fM ad B th)
  | 7 => .inl (kc 0, 12, .inl (fun j => nI (B 1 j)))
  | 8 => .inl (kc 0, 12, .inl (fun j => nI (B 2 j)))
  | 9 => .inl (kc 0, 12, .inl (fun j => nI (B 3 j)))
  | 10 => .inl (kc 0, 12, .inl (fun j => nI (B 4 j)))
  | 11 => .inl (kc 0, 12, .inl (fun j => if j < hw then nI (B 5 j) else nI 0))
  | 12 => .inl (kc 0, 12, .inl (fun j => nI (B 6 j)))
  | 13 => .inl (kc 0, 12, .inl (fun j => nI (B 7 j)))
  | 14 => .inl (kc 0, 12, .inl (fun j => nI (B 8 j)))
  | 15 => .inl (kc 0, 12, .inl (fun j => nI (B 9 j)))
  | 16 => .inl (kc 0, 720, .inl (fun j => em (B 10 j)))
  | 17 => .inl (kc 0, 12, .inl (fun j => em (B 11 j)))
  | _ => .inl (kc 1, 1, .inr (.inl (fun j => if j = 0 then ov else 0)))
def ct (kc : Nat → ClassId) (ad : Nat → Nat) (A B : St) (th : Nat) (ov : Int64) (hw : Nat) (c : Nat) : va_E :=
  if c < 19 then ctS kc ad A B th ov hw c else if c < 31 then .inr (0, fL A (c - 19)) else .inl (kc 0, 12, .inl (fun j => nI (A 10 (60 * j + (c - 31)))))
def wl (kc : Nat → ClassId) (ad : Nat → Nat) (A B : St) (th : Nat) (ov : Int64) (hw : Nat) : va_W := (List.range 91).map (fun c => (ad c, ct kc ad A B th ov hw c))
section XW
variable {kc : Nat → ClassId} {ad : Nat → Nat} {A B : St} {th : Nat} {ov : Int64} {hw : Nat}
theorem wl_at {c : Nat} (h : c < 91) : (wl kc ad A B th ov hw)[c]? = some (ad c, ct kc ad A B th ov hw c) := by
  unfold wl
  rw [List.getElem?_map, List.getElem?_range h]
  rfl
theorem wl_set {A2 B2 : St} {th2 : Nat} {ov2 : Int64} {hw2 : Nat} {c : Nat} {e : va_E} (h : c < 91) (he : ct kc ad A2 B2 th2 ov2 hw2 c = e) (ho : ∀ c2, c2 < 91 → c2 ≠ c → ct kc ad A2 B2 th2 ov2 hw2 c2 = ct kc ad A B th ov hw c2) : (wl kc ad A B th ov hw).set c (ad c, e) = wl kc ad A2 B2 th2 ov2 hw2 := by
  refine List.ext_getElem? fun k => ?_
  by_cases hk : k < 91
  · rw [wl_at hk]
    by_cases e2 : c = k
    · subst e2
      rw [List.getElem?_set_self', wl_at hk, he]
      rfl
    · rw [List.getElem?_set_ne e2, wl_at hk, ho k hk (fun q => e2 q.symm)]
  · rw [List.getElem?_eq_none (by rw [List.length_set]; unfold wl; simp; omega), List.getElem?_eq_none (by unfold wl; simp; omega)]
theorem ct_lab {i : Nat} (hi : i < 12) : ct kc ad A B th ov hw (19 + i) = .inr (0, fL A i) := by
  unfold ct
  rw [if_neg (by omega), if_pos (by omega), Nat.add_sub_cancel_left]
theorem ct_row {r : Nat} (hr : r < 60) : ct kc ad A B th ov hw (31 + r) = .inl (kc 0, 12, .inl (fun j => nI (A 10 (60 * j + r)))) := by
  unfold ct
  rw [if_neg (by omega), if_neg (by omega), Nat.add_sub_cancel_left]
theorem wl_lab {i : Nat} (hi : i < 12) : (wl kc ad A B th ov hw)[19 + i]? = some (ad (19 + i), .inr (0, fL A i)) := by rw [wl_at (by omega), ct_lab hi]
theorem wl_row {r : Nat} (hr : r < 60) : (wl kc ad A B th ov hw)[31 + r]? = some (ad (31 + r), .inl (kc 0, 12, .inl (fun j => nI (A 10 (60 * j + r))))) := by rw [wl_at (by omega), ct_row hr]
theorem cu_A0 {i v : Nat} : ∀ c2, c2 < 91 → c2 ≠ 0 → ct kc ad (up A 0 i v) B th ov hw c2 = ct kc ad A B th ov hw c2 := by
  intro c2 h1 h2
  unfold ct
  split
  · unfold ctS
    split <;> first | rfl | exact absurd rfl h2
  · rfl
theorem cu_A1 {i v : Nat} : ∀ c2, c2 < 91 → c2 ≠ 1 → ct kc ad (up A 1 i v) B th ov hw c2 = ct kc ad A B th ov hw c2 := by
  intro c2 h1 h2
  unfold ct
  split
  · unfold ctS
    split <;> first | rfl | exact absurd rfl h2
  · rfl
theorem cu_A2 {i v : Nat} : ∀ c2, c2 < 91 → c2 ≠ 19 + i → ct kc ad (up A 2 i v) B th ov hw c2 = ct kc ad A B th ov hw c2 := by
  intro c2 h1 h2
  unfold ct
  split
  · unfold ctS
    split <;> rfl
  · split
    · have hne : c2 - 19 ≠ i := by omega
      unfold fL
      rw [up_i A hne]
      rfl
    · rfl
theorem cu_A3 {i v : Nat} : ∀ c2, c2 < 91 → c2 ≠ 19 + i → ct kc ad (up A 3 i v) B th ov hw c2 = ct kc ad A B th ov hw c2 := by
  intro c2 h1 h2
  unfold ct
  split
  · unfold ctS
    split <;> rfl
  · split
    · have hne : c2 - 19 ≠ i := by omega
      unfold fL
      rw [up_i A hne]
      rfl
    · rfl
theorem cu_A4 {i v : Nat} : ∀ c2, c2 < 91 → c2 ≠ 19 + i → ct kc ad (up A 4 i v) B th ov hw c2 = ct kc ad A B th ov hw c2 := by
  intro c2 h1 h2
  unfold ct
  split
  · unfold ctS
    split <;> rfl
  · split
    · have hne : c2 - 19 ≠ i := by omega
      unfold fL
      rw [up_i A hne]
      rfl
    · rfl
theorem cu_A5 {i v : Nat} : ∀ c2, c2 < 91 → c2 ≠ 19 + i → ct kc ad (up A 5 i v) B th ov hw c2 = ct kc ad A B th ov hw c2 := by
  intro c2 h1 h2
  unfold ct
  split
  · unfold ctS
    split <;> rfl
  · split
    · have hne : c2 - 19 ≠ i := by omega
      unfold fL
      rw [up_i A hne]
      rfl
    · rfl
theorem cu_A6 {i v : Nat} : ∀ c2, c2 < 91 → c2 ≠ 19 + i → ct kc ad (up A 6 i v) B th ov hw c2 = ct kc ad A B th ov hw c2 := by
  intro c2 h1 h2
  unfold ct
  split
  · unfold ctS
    split <;> rfl
  · split
    · have hne : c2 - 19 ≠ i := by omega
      unfold fL
      rw [up_i A hne]
      rfl
    · rfl
theorem cu_A7 {i v : Nat} : ∀ c2, c2 < 91 → c2 ≠ 19 + i → ct kc ad (up A 7 i v) B th ov hw c2 = ct kc ad A B th ov hw c2 := by
  intro c2 h1 h2
  unfold ct
  split
  · unfold ctS
    split <;> rfl
  · split
    · have hne : c2 - 19 ≠ i := by omega
      unfold fL
      rw [up_i A hne]
      rfl
    · rfl
theorem cu_A8 {i v : Nat} : ∀ c2, c2 < 91 → c2 ≠ 19 + i → ct kc ad (up A 8 i v) B th ov hw c2 = ct kc ad A B th ov hw c2 := by
  intro c2 h1 h2
  unfold ct
  split
  · unfold ctS
    split <;> rfl
  · split
    · have hne : c2 - 19 ≠ i := by omega
      unfold fL
      rw [up_i A hne]
      rfl
    · rfl
theorem cu_A9 {i v : Nat} : ∀ c2, c2 < 91 → c2 ≠ 19 + i → ct kc ad (up A 9 i v) B th ov hw c2 = ct kc ad A B th ov hw c2 := by
  intro c2 h1 h2
  unfold ct
  split
  · unfold ctS
    split <;> rfl
  · split
    · have hne : c2 - 19 ≠ i := by omega
      unfold fL
      rw [up_i A hne]
      rfl
    · rfl
theorem cu_A10 {j q v : Nat} (hq : q < 60) : ∀ c2, c2 < 91 → c2 ≠ 31 + q → ct kc ad (up A 10 (60 * j + q) v) B th ov hw c2 = ct kc ad A B th ov hw c2 := by
  intro c2 h1 h2
  unfold ct
  split
  · unfold ctS
    split <;> rfl
  · split
    · rfl
    · have hne : ∀ x : Nat, 60 * x + (c2 - 31) ≠ 60 * j + q := fun x => by omega
      refine congrArg (fun f => (Sum.inl (kc 0, 12, Sum.inl f) : va_E)) (funext fun x => ?_)
      rw [up_i A (hne x)]
theorem cu_A11 {i v : Nat} : ∀ c2, c2 < 91 → c2 ≠ 5 → ct kc ad (up A 11 i v) B th ov hw c2 = ct kc ad A B th ov hw c2 := by
  intro c2 h1 h2
  unfold ct
  split
  · unfold ctS
    split <;> first | rfl | exact absurd rfl h2
  · rfl
theorem cu_B0 {i v : Nat} : ∀ c2, c2 < 91 → c2 ≠ 6 → ct kc ad A (up B 0 i v) th ov hw c2 = ct kc ad A B th ov hw c2 := by
  intro c2 h1 h2
  unfold ct
  split
  · unfold ctS
    split <;> first | rfl | exact absurd rfl h2
  · rfl
theorem cu_B1 {i v : Nat} : ∀ c2, c2 < 91 → c2 ≠ 7 → ct kc ad A (up B 1 i v) th ov hw c2 = ct kc ad A B th ov hw c2 := by
  intro c2 h1 h2
  unfold ct
  split
  · unfold ctS
    split <;> first | rfl | exact absurd rfl h2
  · rfl
theorem cu_B2 {i v : Nat} : ∀ c2, c2 < 91 → c2 ≠ 8 → ct kc ad A (up B 2 i v) th ov hw c2 = ct kc ad A B th ov hw c2 := by
  intro c2 h1 h2
  unfold ct
  split
  · unfold ctS
    split <;> first | rfl | exact absurd rfl h2
  · rfl
theorem cu_B3 {i v : Nat} : ∀ c2, c2 < 91 → c2 ≠ 9 → ct kc ad A (up B 3 i v) th ov hw c2 = ct kc ad A B th ov hw c2 := by
  intro c2 h1 h2
  unfold ct
  split
  · unfold ctS
    split <;> first | rfl | exact absurd rfl h2
  · rfl
theorem cu_B4 {i v : Nat} : ∀ c2, c2 < 91 → c2 ≠ 10 → ct kc ad A (up B 4 i v) th ov hw c2 = ct kc ad A B th ov hw c2 := by
  intro c2 h1 h2
  unfold ct
  split
  · unfold ctS
    split <;> first | rfl | exact absurd rfl h2
  · rfl
theorem cu_B5 {i v : Nat} : ∀ c2, c2 < 91 → c2 ≠ 11 → ct kc ad A (up B 5 i v) th ov hw c2 = ct kc ad A B th ov hw c2 := by
  intro c2 h1 h2
  unfold ct
  split
  · unfold ctS
    split <;> first | rfl | exact absurd rfl h2
  · rfl
theorem cu_B6 {i v : Nat} : ∀ c2, c2 < 91 → c2 ≠ 12 → ct kc ad A (up B 6 i v) th ov hw c2 = ct kc ad A B th ov hw c2 := by
  intro c2 h1 h2
  unfold ct
  split
  · unfold ctS
    split <;> first | rfl | exact absurd rfl h2
  · rfl
theorem cu_B7 {i v : Nat} : ∀ c2, c2 < 91 → c2 ≠ 13 → ct kc ad A (up B 7 i v) th ov hw c2 = ct kc ad A B th ov hw c2 := by
  intro c2 h1 h2
  unfold ct
  split
  · unfold ctS
    split <;> first | rfl | exact absurd rfl h2
  · rfl
theorem cu_B8 {i v : Nat} : ∀ c2, c2 < 91 → c2 ≠ 14 → ct kc ad A (up B 8 i v) th ov hw c2 = ct kc ad A B th ov hw c2 := by
  intro c2 h1 h2
  unfold ct
  split
  · unfold ctS
    split <;> first | rfl | exact absurd rfl h2
  · rfl
theorem cu_B9 {i v : Nat} : ∀ c2, c2 < 91 → c2 ≠ 15 → ct kc ad A (up B 9 i v) th ov hw c2 = ct kc ad A B th ov hw c2 := by
  intro c2 h1 h2
  unfold ct
  split
  · unfold ctS
    split <;> first | rfl | exact absurd rfl h2
  · rfl
theorem cu_B10 {i v : Nat} : ∀ c2, c2 < 91 → c2 ≠ 16 → ct kc ad A (up B 10 i v) th ov hw c2 = ct kc ad A B th ov hw c2 := by
  intro c2 h1 h2
  unfold ct
  split
  · unfold ctS
    split <;> first | rfl | exact absurd rfl h2
  · rfl
theorem cu_B11 {i v : Nat} : ∀ c2, c2 < 91 → c2 ≠ 17 → ct kc ad A (up B 11 i v) th ov hw c2 = ct kc ad A B th ov hw c2 := by
  intro c2 h1 h2
  unfold ct
  split
  · unfold ctS
    split <;> first | rfl | exact absurd rfl h2
  · rfl
theorem cu_th {th2 : Nat} : ∀ c2, c2 < 91 → c2 ≠ 6 → ct kc ad A B th2 ov hw c2 = ct kc ad A B th ov hw c2 := by
  intro c2 h1 h2
  unfold ct
  split
  · unfold ctS
    split <;> first | rfl | exact absurd rfl h2
  · rfl
theorem cu_hw {hw2 : Nat} : ∀ c2, c2 < 91 → c2 ≠ 11 → ct kc ad A B th ov hw2 c2 = ct kc ad A B th ov hw c2 := by
  intro c2 h1 h2
  unfold ct
  split
  · unfold ctS
    split <;> first | rfl | exact absurd rfl h2
  · rfl
theorem cu_ov {ov2 : Int64} : ∀ c2, c2 < 91 → c2 ≠ 18 → ct kc ad A B th ov2 hw c2 = ct kc ad A B th ov hw c2 := by
  intro c2 h1 h2
  unfold ct
  split
  · rename_i h3
    rcases (show c2 = 0 ∨ c2 = 1 ∨ c2 = 2 ∨ c2 = 3 ∨ c2 = 4 ∨ c2 = 5 ∨ c2 = 6 ∨ c2 = 7 ∨ c2 = 8 ∨ c2 = 9 ∨ c2 = 10 ∨ c2 = 11 ∨ c2 = 12 ∨ c2 = 13 ∨ c2 = 14 ∨ c2 = 15 ∨ c2 = 16 ∨ c2 = 17 ∨ c2 = 18 by omega) with rfl | rfl | rfl | rfl | rfl | rfl | rfl | rfl | rfl | rfl | rfl | rfl | rfl | rfl | rfl | rfl | rfl | rfl | rfl <;> first | rfl | exact absurd rfl h2
  · rfl
end XW
section XV
variable {p : Program} {l : Launch} {e : Env} {R : Room} {s : State} {m : MethodId} {args : Array Value} {below : List Frame} {meth : Method} {c : Code} {D : va_G} {A : Nat → Prop} {nL cells slots : Nat} {Q : State → Prop}
variable {cc : ByteArray} {own : String} {pc : Nat} {ls : List (Option Value)} {st : List Value} {kc : Nat → ClassId} {ad : Nat → Nat} {X B : St} {th : Nat} {ov : Int64} {hw : Nat}
theorem gX0 (M : CallFix p m c cc nL s args gw own) (TB : x_TB D kc A s s.heap) {index : Nat} (hlk : Cond.fieldLink own index (TX2 0).1 (TX2 0).2.1 (TX2 0).2.2.1 ∈ gw) (hdg : decode cc pc = .ok (.getfield index, 3)) (kk : x_X p l e R s m args below meth c D A nL cells slots Q (wl kc ad X B th ov hw) (pc + 3) ls (.ref (ad 1) :: st)) : x_X p l e R s m args below meth c D A nL cells slots Q (wl kc ad X B th ov hw) pc ls (.ref (ad 0) :: st) :=
  x_get2 M TB 0 (wl_at (c := 0) (by decide)) (by decide) rfl hlk hdg kk
theorem gX1 (M : CallFix p m c cc nL s args gw own) (TB : x_TB D kc A s s.heap) {index : Nat} (hlk : Cond.fieldLink own index (TX2 1).1 (TX2 1).2.1 (TX2 1).2.2.1 ∈ gw) (hdg : decode cc pc = .ok (.getfield index, 3)) (kk : x_X p l e R s m args below meth c D A nL cells slots Q (wl kc ad X B th ov hw) (pc + 3) ls (.ref (ad 2) :: st)) : x_X p l e R s m args below meth c D A nL cells slots Q (wl kc ad X B th ov hw) pc ls (.ref (ad 0) :: st) :=
  x_get2 M TB 1 (wl_at (c := 0) (by decide)) (by decide) rfl hlk hdg kk
theorem gX2 (M : CallFix p m c cc nL s args gw own) (TB : x_TB D kc A s s.heap) {index : Nat} (hlk : Cond.fieldLink own index (TX2 2).1 (TX2 2).2.1 (TX2 2).2.2.1 ∈ gw) (hdg : decode cc pc = .ok (.getfield index, 3)) (kk : x_X p l e R s m args below meth c D A nL cells slots Q (wl kc ad X B th ov hw) (pc + 3) ls (.ref (ad 3) :: st)) : x_X p l e R s m args below meth c D A nL cells slots Q (wl kc ad X B th ov hw) pc ls (.ref (ad 0) :: st) :=
  x_get2 M TB 2 (wl_at (c := 0) (by decide)) (by decide) rfl hlk hdg kk
theorem gX3 (M : CallFix p m c cc nL s args gw own) (TB : x_TB D kc A s s.heap) {index : Nat} (hlk : Cond.fieldLink own index (TX2 3).1 (TX2 3).2.1 (TX2 3).2.2.1 ∈ gw) (hdg : decode cc pc = .ok (.getfield index, 3)) (kk : x_X p l e R s m args below meth c D A nL cells slots Q (wl kc ad X B th ov hw) (pc + 3) ls (.int (nI (X 0 0)) :: st)) : x_X p l e R s m args below meth c D A nL cells slots Q (wl kc ad X B th ov hw) pc ls (.ref (ad 0) :: st) :=
  x_get2 M TB 3 (wl_at (c := 0) (by decide)) (by decide) rfl hlk hdg kk
theorem gX4 (M : CallFix p m c cc nL s args gw own) (TB : x_TB D kc A s s.heap) {index : Nat} (hlk : Cond.fieldLink own index (TX2 4).1 (TX2 4).2.1 (TX2 4).2.2.1 ∈ gw) (hdg : decode cc pc = .ok (.getfield index, 3)) (kk : x_X p l e R s m args below meth c D A nL cells slots Q (wl kc ad X B th ov hw) (pc + 3) ls (.int (nI (X 0 1)) :: st)) : x_X p l e R s m args below meth c D A nL cells slots Q (wl kc ad X B th ov hw) pc ls (.ref (ad 0) :: st) :=
  x_get2 M TB 4 (wl_at (c := 0) (by decide)) (by decide) rfl hlk hdg kk
theorem gX5 (M : CallFix p m c cc nL s args gw own) (TB : x_TB D kc A s s.heap) {index : Nat} (hlk : Cond.fieldLink own index (TX2 5).1 (TX2 5).2.1 (TX2 5).2.2.1 ∈ gw) (hdg : decode cc pc = .ok (.getfield index, 3)) (kk : x_X p l e R s m args below meth c D A nL cells slots Q (wl kc ad X B th ov hw) (pc + 3) ls (.int (nI (X 0 2)) :: st)) : x_X p l e R s m args below meth c D A nL cells slots Q (wl kc ad X B th ov hw) pc ls (.ref (ad 0) :: st) :=
  x_get2 M TB 5 (wl_at (c := 0) (by decide)) (by decide) rfl hlk hdg kk
theorem gL0 (M : CallFix p m c cc nL s args gw own) (TB : x_TB D kc A s s.heap) {index i : Nat} (hi : i < 12) (hlk : Cond.fieldLink own index (TX0 0).1 (TX0 0).2.1 (TX0 0).2.2.1 ∈ gw) (hdg : decode cc pc = .ok (.getfield index, 3)) (kk : x_X p l e R s m args below meth c D A nL cells slots Q (wl kc ad X B th ov hw) (pc + 3) ls (.int (nI (X 2 i)) :: st)) : x_X p l e R s m args below meth c D A nL cells slots Q (wl kc ad X B th ov hw) pc ls (.ref (ad (19 + i)) :: st) :=
  x_get0 M TB 0 (wl_lab hi) (by decide) rfl hlk hdg kk
theorem gL1 (M : CallFix p m c cc nL s args gw own) (TB : x_TB D kc A s s.heap) {index i : Nat} (hi : i < 12) (hlk : Cond.fieldLink own index (TX0 1).1 (TX0 1).2.1 (TX0 1).2.2.1 ∈ gw) (hdg : decode cc pc = .ok (.getfield index, 3)) (kk : x_X p l e R s m args below meth c D A nL cells slots Q (wl kc ad X B th ov hw) (pc + 3) ls (.int (nI (X 3 i)) :: st)) : x_X p l e R s m args below meth c D A nL cells slots Q (wl kc ad X B th ov hw) pc ls (.ref (ad (19 + i)) :: st) :=
  x_get0 M TB 1 (wl_lab hi) (by decide) rfl hlk hdg kk
theorem gL2 (M : CallFix p m c cc nL s args gw own) (TB : x_TB D kc A s s.heap) {index i : Nat} (hi : i < 12) (hlk : Cond.fieldLink own index (TX0 2).1 (TX0 2).2.1 (TX0 2).2.2.1 ∈ gw) (hdg : decode cc pc = .ok (.getfield index, 3)) (kk : x_X p l e R s m args below meth c D A nL cells slots Q (wl kc ad X B th ov hw) (pc + 3) ls (.int (nI (X 4 i)) :: st)) : x_X p l e R s m args below meth c D A nL cells slots Q (wl kc ad X B th ov hw) pc ls (.ref (ad (19 + i)) :: st) :=
  x_get0 M TB 2 (wl_lab hi) (by decide) rfl hlk hdg kk
theorem gL3 (M : CallFix p m c cc nL s args gw own) (TB : x_TB D kc A s s.heap) {index i : Nat} (hi : i < 12) (hlk : Cond.fieldLink own index (TX0 3).1 (TX0 3).2.1 (TX0 3).2.2.1 ∈ gw) (hdg : decode cc pc = .ok (.getfield index, 3)) (kk : x_X p l e R s m args below meth c D A nL cells slots Q (wl kc ad X B th ov hw) (pc + 3) ls (.int (nI (X 5 i)) :: st)) : x_X p l e R s m args below meth c D A nL cells slots Q (wl kc ad X B th ov hw) pc ls (.ref (ad (19 + i)) :: st) :=
  x_get0 M TB 3 (wl_lab hi) (by decide) rfl hlk hdg kk
theorem gL4 (M : CallFix p m c cc nL s args gw own) (TB : x_TB D kc A s s.heap) {index i : Nat} (hi : i < 12) (hlk : Cond.fieldLink own index (TX0 4).1 (TX0 4).2.1 (TX0 4).2.2.1 ∈ gw) (hdg : decode cc pc = .ok (.getfield index, 3)) (kk : x_X p l e R s m args below meth c D A nL cells slots Q (wl kc ad X B th ov hw) (pc + 3) ls (.int (eo (X 8 i)) :: st)) : x_X p l e R s m args below meth c D A nL cells slots Q (wl kc ad X B th ov hw) pc ls (.ref (ad (19 + i)) :: st) :=
  x_get0 M TB 4 (wl_lab hi) (by decide) rfl hlk hdg kk
theorem gL5 (M : CallFix p m c cc nL s args gw own) (TB : x_TB D kc A s s.heap) {index i : Nat} (hi : i < 12) (hlk : Cond.fieldLink own index (TX0 5).1 (TX0 5).2.1 (TX0 5).2.2.1 ∈ gw) (hdg : decode cc pc = .ok (.getfield index, 3)) (kk : x_X p l e R s m args below meth c D A nL cells slots Q (wl kc ad X B th ov hw) (pc + 3) ls (.int (nI (X 9 i)) :: st)) : x_X p l e R s m args below meth c D A nL cells slots Q (wl kc ad X B th ov hw) pc ls (.ref (ad (19 + i)) :: st) :=
  x_get0 M TB 5 (wl_lab hi) (by decide) rfl hlk hdg kk
theorem gL6 (M : CallFix p m c cc nL s args gw own) (TB : x_TB D kc A s s.heap) {index i : Nat} (hi : i < 12) (hlk : Cond.fieldLink own index (TX0 6).1 (TX0 6).2.1 (TX0 6).2.2.1 ∈ gw) (hdg : decode cc pc = .ok (.getfield index, 3)) (kk : x_X p l e R s m args below meth c D A nL cells slots Q (wl kc ad X B th ov hw) (pc + 3) ls (.int (nI (X 6 i)) :: st)) : x_X p l e R s m args below meth c D A nL cells slots Q (wl kc ad X B th ov hw) pc ls (.ref (ad (19 + i)) :: st) :=
  x_get0 M TB 6 (wl_lab hi) (by decide) rfl hlk hdg kk
theorem gL7 (M : CallFix p m c cc nL s args gw own) (TB : x_TB D kc A s s.heap) {index i : Nat} (hi : i < 12) (hlk : Cond.fieldLink own index (TX0 7).1 (TX0 7).2.1 (TX0 7).2.2.1 ∈ gw) (hdg : decode cc pc = .ok (.getfield index, 3)) (kk : x_X p l e R s m args below meth c D A nL cells slots Q (wl kc ad X B th ov hw) (pc + 3) ls (.int (nI (X 7 i)) :: st)) : x_X p l e R s m args below meth c D A nL cells slots Q (wl kc ad X B th ov hw) pc ls (.ref (ad (19 + i)) :: st) :=
  x_get0 M TB 7 (wl_lab hi) (by decide) rfl hlk hdg kk
theorem gY0 (M : CallFix p m c cc nL s args gw own) (TB : x_TB D kc A s s.heap) {index : Nat} (hlk : Cond.fieldLink own index (TX1 0).1 (TX1 0).2.1 (TX1 0).2.2.1 ∈ gw) (hdg : decode cc pc = .ok (.getfield index, 3)) (kk : x_X p l e R s m args below meth c D A nL cells slots Q (wl kc ad X B th ov hw) (pc + 3) ls (.ref (ad 4) :: st)) : x_X p l e R s m args below meth c D A nL cells slots Q (wl kc ad X B th ov hw) pc ls (.ref (ad 3) :: st) :=
  x_get1 M TB 0 (wl_at (c := 3) (by decide)) (by decide) rfl hlk hdg kk
theorem gY1 (M : CallFix p m c cc nL s args gw own) (TB : x_TB D kc A s s.heap) {index : Nat} (hlk : Cond.fieldLink own index (TX1 1).1 (TX1 1).2.1 (TX1 1).2.2.1 ∈ gw) (hdg : decode cc pc = .ok (.getfield index, 3)) (kk : x_X p l e R s m args below meth c D A nL cells slots Q (wl kc ad X B th ov hw) (pc + 3) ls (.ref (ad 5) :: st)) : x_X p l e R s m args below meth c D A nL cells slots Q (wl kc ad X B th ov hw) pc ls (.ref (ad 3) :: st) :=
  x_get1 M TB 1 (wl_at (c := 3) (by decide)) (by decide) rfl hlk hdg kk
theorem gM0 (M : CallFix p m c cc nL s args gw own) (TB : x_TB D kc A s s.heap) {index : Nat} (hlk : Cond.fieldLink own index (TX3 0).1 (TX3 0).2.1 (TX3 0).2.2.1 ∈ gw) (hdg : decode cc pc = .ok (.getfield index, 3)) (kk : x_X p l e R s m args below meth c D A nL cells slots Q (wl kc ad X B th ov hw) (pc + 3) ls (.int (nI th) :: st)) : x_X p l e R s m args below meth c D A nL cells slots Q (wl kc ad X B th ov hw) pc ls (.ref (ad 6) :: st) :=
  x_get3 M TB 0 (wl_at (c := 6) (by decide)) (by decide) rfl hlk hdg kk
theorem gM1 (M : CallFix p m c cc nL s args gw own) (TB : x_TB D kc A s s.heap) {index : Nat} (hlk : Cond.fieldLink own index (TX3 1).1 (TX3 1).2.1 (TX3 1).2.2.1 ∈ gw) (hdg : decode cc pc = .ok (.getfield index, 3)) (kk : x_X p l e R s m args below meth c D A nL cells slots Q (wl kc ad X B th ov hw) (pc + 3) ls (.int (nI (B 0 1)) :: st)) : x_X p l e R s m args below meth c D A nL cells slots Q (wl kc ad X B th ov hw) pc ls (.ref (ad 6) :: st) :=
  x_get3 M TB 1 (wl_at (c := 6) (by decide)) (by decide) rfl hlk hdg kk
theorem gM2 (M : CallFix p m c cc nL s args gw own) (TB : x_TB D kc A s s.heap) {index : Nat} (hlk : Cond.fieldLink own index (TX3 2).1 (TX3 2).2.1 (TX3 2).2.2.1 ∈ gw) (hdg : decode cc pc = .ok (.getfield index, 3)) (kk : x_X p l e R s m args below meth c D A nL cells slots Q (wl kc ad X B th ov hw) (pc + 3) ls (.int (nI (B 0 2)) :: st)) : x_X p l e R s m args below meth c D A nL cells slots Q (wl kc ad X B th ov hw) pc ls (.ref (ad 6) :: st) :=
  x_get3 M TB 2 (wl_at (c := 6) (by decide)) (by decide) rfl hlk hdg kk
theorem gM3 (M : CallFix p m c cc nL s args gw own) (TB : x_TB D kc A s s.heap) {index : Nat} (hlk : Cond.fieldLink own index (TX3 3).1 (TX3 3).2.1 (TX3 3).2.2.1 ∈ gw) (hdg : decode cc pc = .ok (.getfield index, 3)) (kk : x_X p l e R s m args below meth c D A nL cells slots Q (wl kc ad X B th ov hw) (pc + 3) ls (.ref (ad 7) :: st)) : x_X p l e R s m args below meth c D A nL cells slots Q (wl kc ad X B th ov hw) pc ls (.ref (ad 6) :: st) :=
  x_get3 M TB 3 (wl_at (c := 6) (by decide)) (by decide) rfl hlk hdg kk
theorem gM4 (M : CallFix p m c cc nL s args gw own) (TB : x_TB D kc A s s.heap) {index : Nat} (hlk : Cond.fieldLink own index (TX3 4).1 (TX3 4).2.1 (TX3 4).2.2.1 ∈ gw) (hdg : decode cc pc = .ok (.getfield index, 3)) (kk : x_X p l e R s m args below meth c D A nL cells slots Q (wl kc ad X B th ov hw) (pc + 3) ls (.int (nI (B 0 0)) :: st)) : x_X p l e R s m args below meth c D A nL cells slots Q (wl kc ad X B th ov hw) pc ls (.ref (ad 6) :: st) :=
  x_get3 M TB 4 (wl_at (c := 6) (by decide)) (by decide) rfl hlk hdg kk
theorem gM5 (M : CallFix p m c cc nL s args gw own) (TB : x_TB D kc A s s.heap) {index : Nat} (hlk : Cond.fieldLink own index (TX3 5).1 (TX3 5).2.1 (TX3 5).2.2.1 ∈ gw) (hdg : decode cc pc = .ok (.getfield index, 3)) (kk : x_X p l e R s m args below meth c D A nL cells slots Q (wl kc ad X B th ov hw) (pc + 3) ls (.ref (ad 8) :: st)) : x_X p l e R s m args below meth c D A nL cells slots Q (wl kc ad X B th ov hw) pc ls (.ref (ad 6) :: st) :=
  x_get3 M TB 5 (wl_at (c := 6) (by decide)) (by decide) rfl hlk hdg kk
theorem gM6 (M : CallFix p m c cc nL s args gw own) (TB : x_TB D kc A s s.heap) {index : Nat} (hlk : Cond.fieldLink own index (TX3 6).1 (TX3 6).2.1 (TX3 6).2.2.1 ∈ gw) (hdg : decode cc pc = .ok (.getfield index, 3)) (kk : x_X p l e R s m args below meth c D A nL cells slots Q (wl kc ad X B th ov hw) (pc + 3) ls (.ref (ad 9) :: st)) : x_X p l e R s m args below meth c D A nL cells slots Q (wl kc ad X B th ov hw) pc ls (.ref (ad 6) :: st) :=
  x_get3 M TB 6 (wl_at (c := 6) (by decide)) (by decide) rfl hlk hdg kk
theorem gM7 (M : CallFix p m c cc nL s args gw own) (TB : x_TB D kc A s s.heap) {index : Nat} (hlk : Cond.fieldLink own index (TX3 7).1 (TX3 7).2.1 (TX3 7).2.2.1 ∈ gw) (hdg : decode cc pc = .ok (.getfield index, 3)) (kk : x_X p l e R s m args below meth c D A nL cells slots Q (wl kc ad X B th ov hw) (pc + 3) ls (.ref (ad 10) :: st)) : x_X p l e R s m args below meth c D A nL cells slots Q (wl kc ad X B th ov hw) pc ls (.ref (ad 6) :: st) :=
  x_get3 M TB 7 (wl_at (c := 6) (by decide)) (by decide) rfl hlk hdg kk
theorem gM8 (M : CallFix p m c cc nL s args gw own) (TB : x_TB D kc A s s.heap) {index : Nat} (hlk : Cond.fieldLink own index (TX3 8).1 (TX3 8).2.1 (TX3 8).2.2.1 ∈ gw) (hdg : decode cc pc = .ok (.getfield index, 3)) (kk : x_X p l e R s m args below meth c D A nL cells slots Q (wl kc ad X B th ov hw) (pc + 3) ls (.ref (ad 11) :: st)) : x_X p l e R s m args below meth c D A nL cells slots Q (wl kc ad X B th ov hw) pc ls (.ref (ad 6) :: st) :=
  x_get3 M TB 8 (wl_at (c := 6) (by decide)) (by decide) rfl hlk hdg kk
theorem gM9 (M : CallFix p m c cc nL s args gw own) (TB : x_TB D kc A s s.heap) {index : Nat} (hlk : Cond.fieldLink own index (TX3 9).1 (TX3 9).2.1 (TX3 9).2.2.1 ∈ gw) (hdg : decode cc pc = .ok (.getfield index, 3)) (kk : x_X p l e R s m args below meth c D A nL cells slots Q (wl kc ad X B th ov hw) (pc + 3) ls (.ref (ad 12) :: st)) : x_X p l e R s m args below meth c D A nL cells slots Q (wl kc ad X B th ov hw) pc ls (.ref (ad 6) :: st) :=
  x_get3 M TB 9 (wl_at (c := 6) (by decide)) (by decide) rfl hlk hdg kk
theorem gM10 (M : CallFix p m c cc nL s args gw own) (TB : x_TB D kc A s s.heap) {index : Nat} (hlk : Cond.fieldLink own index (TX3 10).1 (TX3 10).2.1 (TX3 10).2.2.1 ∈ gw) (hdg : decode cc pc = .ok (.getfield index, 3)) (kk : x_X p l e R s m args below meth c D A nL cells slots Q (wl kc ad X B th ov hw) (pc + 3) ls (.ref (ad 13) :: st)) : x_X p l e R s m args below meth c D A nL cells slots Q (wl kc ad X B th ov hw) pc ls (.ref (ad 6) :: st) :=
  x_get3 M TB 10 (wl_at (c := 6) (by decide)) (by decide) rfl hlk hdg kk
theorem gM11 (M : CallFix p m c cc nL s args gw own) (TB : x_TB D kc A s s.heap) {index : Nat} (hlk : Cond.fieldLink own index (TX3 11).1 (TX3 11).2.1 (TX3 11).2.2.1 ∈ gw) (hdg : decode cc pc = .ok (.getfield index, 3)) (kk : x_X p l e R s m args below meth c D A nL cells slots Q (wl kc ad X B th ov hw) (pc + 3) ls (.ref (ad 14) :: st)) : x_X p l e R s m args below meth c D A nL cells slots Q (wl kc ad X B th ov hw) pc ls (.ref (ad 6) :: st) :=
  x_get3 M TB 11 (wl_at (c := 6) (by decide)) (by decide) rfl hlk hdg kk
theorem gM12 (M : CallFix p m c cc nL s args gw own) (TB : x_TB D kc A s s.heap) {index : Nat} (hlk : Cond.fieldLink own index (TX3 12).1 (TX3 12).2.1 (TX3 12).2.2.1 ∈ gw) (hdg : decode cc pc = .ok (.getfield index, 3)) (kk : x_X p l e R s m args below meth c D A nL cells slots Q (wl kc ad X B th ov hw) (pc + 3) ls (.ref (ad 15) :: st)) : x_X p l e R s m args below meth c D A nL cells slots Q (wl kc ad X B th ov hw) pc ls (.ref (ad 6) :: st) :=
  x_get3 M TB 12 (wl_at (c := 6) (by decide)) (by decide) rfl hlk hdg kk
theorem gM13 (M : CallFix p m c cc nL s args gw own) (TB : x_TB D kc A s s.heap) {index : Nat} (hlk : Cond.fieldLink own index (TX3 13).1 (TX3 13).2.1 (TX3 13).2.2.1 ∈ gw) (hdg : decode cc pc = .ok (.getfield index, 3)) (kk : x_X p l e R s m args below meth c D A nL cells slots Q (wl kc ad X B th ov hw) (pc + 3) ls (.ref (ad 16) :: st)) : x_X p l e R s m args below meth c D A nL cells slots Q (wl kc ad X B th ov hw) pc ls (.ref (ad 6) :: st) :=
  x_get3 M TB 13 (wl_at (c := 6) (by decide)) (by decide) rfl hlk hdg kk
theorem gM14 (M : CallFix p m c cc nL s args gw own) (TB : x_TB D kc A s s.heap) {index : Nat} (hlk : Cond.fieldLink own index (TX3 14).1 (TX3 14).2.1 (TX3 14).2.2.1 ∈ gw) (hdg : decode cc pc = .ok (.getfield index, 3)) (kk : x_X p l e R s m args below meth c D A nL cells slots Q (wl kc ad X B th ov hw) (pc + 3) ls (.ref (ad 17) :: st)) : x_X p l e R s m args below meth c D A nL cells slots Q (wl kc ad X B th ov hw) pc ls (.ref (ad 6) :: st) :=
  x_get3 M TB 14 (wl_at (c := 6) (by decide)) (by decide) rfl hlk hdg kk
theorem pX3 (M : CallFix p m c cc nL s args gw own) (TB : x_TB D kc A s s.heap) {index v : Nat} (hlk : Cond.fieldLink own index (TX2 3).1 (TX2 3).2.1 (TX2 3).2.2.1 ∈ gw) (hdg : decode cc pc = .ok (.putfield index, 3)) (kk : x_X p l e R s m args below meth c D A nL cells slots Q (wl kc ad (up X 0 0 v) B th ov hw) (pc + 3) ls st) : x_X p l e R s m args below meth c D A nL cells slots Q (wl kc ad X B th ov hw) pc ls (.int (nI v) :: .ref (ad 0) :: st) :=
  x_put2 M TB 3 (wl_at (c := 0) (by decide)) (by decide) (by show 3 < 6; decide) rfl (by decide +kernel) hlk hdg (x_ws (wl_set (c := 0) (by decide) rfl cu_A0) kk)
theorem pX4 (M : CallFix p m c cc nL s args gw own) (TB : x_TB D kc A s s.heap) {index v : Nat} (hlk : Cond.fieldLink own index (TX2 4).1 (TX2 4).2.1 (TX2 4).2.2.1 ∈ gw) (hdg : decode cc pc = .ok (.putfield index, 3)) (kk : x_X p l e R s m args below meth c D A nL cells slots Q (wl kc ad (up X 0 1 v) B th ov hw) (pc + 3) ls st) : x_X p l e R s m args below meth c D A nL cells slots Q (wl kc ad X B th ov hw) pc ls (.int (nI v) :: .ref (ad 0) :: st) :=
  x_put2 M TB 4 (wl_at (c := 0) (by decide)) (by decide) (by show 4 < 6; decide) rfl (by decide +kernel) hlk hdg (x_ws (wl_set (c := 0) (by decide) rfl cu_A0) kk)
theorem pX5 (M : CallFix p m c cc nL s args gw own) (TB : x_TB D kc A s s.heap) {index v : Nat} (hlk : Cond.fieldLink own index (TX2 5).1 (TX2 5).2.1 (TX2 5).2.2.1 ∈ gw) (hdg : decode cc pc = .ok (.putfield index, 3)) (kk : x_X p l e R s m args below meth c D A nL cells slots Q (wl kc ad (up X 0 2 v) B th ov hw) (pc + 3) ls st) : x_X p l e R s m args below meth c D A nL cells slots Q (wl kc ad X B th ov hw) pc ls (.int (nI v) :: .ref (ad 0) :: st) :=
  x_put2 M TB 5 (wl_at (c := 0) (by decide)) (by decide) (by show 5 < 6; decide) rfl (by decide +kernel) hlk hdg (x_ws (wl_set (c := 0) (by decide) rfl cu_A0) kk)
theorem pL0 (M : CallFix p m c cc nL s args gw own) (TB : x_TB D kc A s s.heap) {index i v : Nat} (hi : i < 12) (hlk : Cond.fieldLink own index (TX0 0).1 (TX0 0).2.1 (TX0 0).2.2.1 ∈ gw) (hdg : decode cc pc = .ok (.putfield index, 3)) (kk : x_X p l e R s m args below meth c D A nL cells slots Q (wl kc ad (up X 2 i v) B th ov hw) (pc + 3) ls st) : x_X p l e R s m args below meth c D A nL cells slots Q (wl kc ad X B th ov hw) pc ls (.int (nI v) :: .ref (ad (19 + i)) :: st) :=
  x_put0 M TB 0 (wl_lab hi) (by decide) (by show 0 < 8; decide) rfl (by decide +kernel) hlk hdg (x_ws (wl_set (c := 19 + i) (by omega) (by rw [ct_lab hi]; unfold fL; rw [up_s]; rfl) cu_A2) kk)
theorem pL1 (M : CallFix p m c cc nL s args gw own) (TB : x_TB D kc A s s.heap) {index i v : Nat} (hi : i < 12) (hlk : Cond.fieldLink own index (TX0 1).1 (TX0 1).2.1 (TX0 1).2.2.1 ∈ gw) (hdg : decode cc pc = .ok (.putfield index, 3)) (kk : x_X p l e R s m args below meth c D A nL cells slots Q (wl kc ad (up X 3 i v) B th ov hw) (pc + 3) ls st) : x_X p l e R s m args below meth c D A nL cells slots Q (wl kc ad X B th ov hw) pc ls (.int (nI v) :: .ref (ad (19 + i)) :: st) :=
  x_put0 M TB 1 (wl_lab hi) (by decide) (by show 1 < 8; decide) rfl (by decide +kernel) hlk hdg (x_ws (wl_set (c := 19 + i) (by omega) (by rw [ct_lab hi]; unfold fL; rw [up_s]; rfl) cu_A3) kk)
theorem pL2 (M : CallFix p m c cc nL s args gw own) (TB : x_TB D kc A s s.heap) {index i v : Nat} (hi : i < 12) (hlk : Cond.fieldLink own index (TX0 2).1 (TX0 2).2.1 (TX0 2).2.2.1 ∈ gw) (hdg : decode cc pc = .ok (.putfield index, 3)) (kk : x_X p l e R s m args below meth c D A nL cells slots Q (wl kc ad (up X 4 i v) B th ov hw) (pc + 3) ls st) : x_X p l e R s m args below meth c D A nL cells slots Q (wl kc ad X B th ov hw) pc ls (.int (nI v) :: .ref (ad (19 + i)) :: st) :=
  x_put0 M TB 2 (wl_lab hi) (by decide) (by show 2 < 8; decide) rfl (by decide +kernel) hlk hdg (x_ws (wl_set (c := 19 + i) (by omega) (by rw [ct_lab hi]; unfold fL; rw [up_s]; rfl) cu_A4) kk)
theorem pL3 (M : CallFix p m c cc nL s args gw own) (TB : x_TB D kc A s s.heap) {index i v : Nat} (hi : i < 12) (hlk : Cond.fieldLink own index (TX0 3).1 (TX0 3).2.1 (TX0 3).2.2.1 ∈ gw) (hdg : decode cc pc = .ok (.putfield index, 3)) (kk : x_X p l e R s m args below meth c D A nL cells slots Q (wl kc ad (up X 5 i v) B th ov hw) (pc + 3) ls st) : x_X p l e R s m args below meth c D A nL cells slots Q (wl kc ad X B th ov hw) pc ls (.int (nI v) :: .ref (ad (19 + i)) :: st) :=
  x_put0 M TB 3 (wl_lab hi) (by decide) (by show 3 < 8; decide) rfl (by decide +kernel) hlk hdg (x_ws (wl_set (c := 19 + i) (by omega) (by rw [ct_lab hi]; unfold fL; rw [up_s]; rfl) cu_A5) kk)
theorem pL4 (M : CallFix p m c cc nL s args gw own) (TB : x_TB D kc A s s.heap) {index i v : Nat} {x : Int32} (hi : i < 12) (hx : eo v = x) (hlk : Cond.fieldLink own index (TX0 4).1 (TX0 4).2.1 (TX0 4).2.2.1 ∈ gw) (hdg : decode cc pc = .ok (.putfield index, 3)) (kk : x_X p l e R s m args below meth c D A nL cells slots Q (wl kc ad (up X 8 i v) B th ov hw) (pc + 3) ls st) : x_X p l e R s m args below meth c D A nL cells slots Q (wl kc ad X B th ov hw) pc ls (.int x :: .ref (ad (19 + i)) :: st) :=
  x_put0 M TB 4 (wl_lab hi) (by decide) (by show 4 < 8; decide) rfl (by decide +kernel) hlk hdg (x_ws (wl_set (c := 19 + i) (by omega) (by rw [ct_lab hi]; unfold fL; rw [up_s, hx]; rfl) cu_A8) kk)
theorem pL5 (M : CallFix p m c cc nL s args gw own) (TB : x_TB D kc A s s.heap) {index i v : Nat} (hi : i < 12) (hlk : Cond.fieldLink own index (TX0 5).1 (TX0 5).2.1 (TX0 5).2.2.1 ∈ gw) (hdg : decode cc pc = .ok (.putfield index, 3)) (kk : x_X p l e R s m args below meth c D A nL cells slots Q (wl kc ad (up X 9 i v) B th ov hw) (pc + 3) ls st) : x_X p l e R s m args below meth c D A nL cells slots Q (wl kc ad X B th ov hw) pc ls (.int (nI v) :: .ref (ad (19 + i)) :: st) :=
  x_put0 M TB 5 (wl_lab hi) (by decide) (by show 5 < 8; decide) rfl (by decide +kernel) hlk hdg (x_ws (wl_set (c := 19 + i) (by omega) (by rw [ct_lab hi]; unfold fL; rw [up_s]; rfl) cu_A9) kk)
theorem pL6 (M : CallFix p m c cc nL s args gw own) (TB : x_TB D kc A s s.heap) {index i v : Nat} (hi : i < 12) (hlk : Cond.fieldLink own index (TX0 6).1 (TX0 6).2.1 (TX0 6).2.2.1 ∈ gw) (hdg : decode cc pc = .ok (.putfield index, 3)) (kk : x_X p l e R s m args below meth c D A nL cells slots Q (wl kc ad (up X 6 i v) B th ov hw) (pc + 3) ls st) : x_X p l e R s m args below meth c D A nL cells slots Q (wl kc ad X B th ov hw) pc ls (.int (nI v) :: .ref (ad (19 + i)) :: st) :=
  x_put0 M TB 6 (wl_lab hi) (by decide) (by show 6 < 8; decide) rfl (by decide +kernel) hlk hdg (x_ws (wl_set (c := 19 + i) (by omega) (by rw [ct_lab hi]; unfold fL; rw [up_s]; rfl) cu_A6) kk)
theorem pL7 (M : CallFix p m c cc nL s args gw own) (TB : x_TB D kc A s s.heap) {index i v : Nat} (hi : i < 12) (hlk : Cond.fieldLink own index (TX0 7).1 (TX0 7).2.1 (TX0 7).2.2.1 ∈ gw) (hdg : decode cc pc = .ok (.putfield index, 3)) (kk : x_X p l e R s m args below meth c D A nL cells slots Q (wl kc ad (up X 7 i v) B th ov hw) (pc + 3) ls st) : x_X p l e R s m args below meth c D A nL cells slots Q (wl kc ad X B th ov hw) pc ls (.int (nI v) :: .ref (ad (19 + i)) :: st) :=
  x_put0 M TB 7 (wl_lab hi) (by decide) (by show 7 < 8; decide) rfl (by decide +kernel) hlk hdg (x_ws (wl_set (c := 19 + i) (by omega) (by rw [ct_lab hi]; unfold fL; rw [up_s]; rfl) cu_A7) kk)
theorem pM0 (M : CallFix p m c cc nL s args gw own) (TB : x_TB D kc A s s.heap) {index th2 : Nat} (hlk : Cond.fieldLink own index (TX3 0).1 (TX3 0).2.1 (TX3 0).2.2.1 ∈ gw) (hdg : decode cc pc = .ok (.putfield index, 3)) (kk : x_X p l e R s m args below meth c D A nL cells slots Q (wl kc ad X B th2 ov hw) (pc + 3) ls st) : x_X p l e R s m args below meth c D A nL cells slots Q (wl kc ad X B th ov hw) pc ls (.int (nI th2) :: .ref (ad 6) :: st) :=
  x_put3 M TB 0 (wl_at (c := 6) (by decide)) (by decide) (by show 0 < 15; decide) rfl (by decide +kernel) hlk hdg (x_ws (wl_set (c := 6) (by decide) rfl cu_th) kk)
theorem pM1 (M : CallFix p m c cc nL s args gw own) (TB : x_TB D kc A s s.heap) {index v : Nat} (hlk : Cond.fieldLink own index (TX3 1).1 (TX3 1).2.1 (TX3 1).2.2.1 ∈ gw) (hdg : decode cc pc = .ok (.putfield index, 3)) (kk : x_X p l e R s m args below meth c D A nL cells slots Q (wl kc ad X (up B 0 1 v) th ov hw) (pc + 3) ls st) : x_X p l e R s m args below meth c D A nL cells slots Q (wl kc ad X B th ov hw) pc ls (.int (nI v) :: .ref (ad 6) :: st) :=
  x_put3 M TB 1 (wl_at (c := 6) (by decide)) (by decide) (by show 1 < 15; decide) rfl (by decide +kernel) hlk hdg (x_ws (wl_set (c := 6) (by decide) rfl cu_B0) kk)
theorem pM2 (M : CallFix p m c cc nL s args gw own) (TB : x_TB D kc A s s.heap) {index v : Nat} (hlk : Cond.fieldLink own index (TX3 2).1 (TX3 2).2.1 (TX3 2).2.2.1 ∈ gw) (hdg : decode cc pc = .ok (.putfield index, 3)) (kk : x_X p l e R s m args below meth c D A nL cells slots Q (wl kc ad X (up B 0 2 v) th ov hw) (pc + 3) ls st) : x_X p l e R s m args below meth c D A nL cells slots Q (wl kc ad X B th ov hw) pc ls (.int (nI v) :: .ref (ad 6) :: st) :=
  x_put3 M TB 2 (wl_at (c := 6) (by decide)) (by decide) (by show 2 < 15; decide) rfl (by decide +kernel) hlk hdg (x_ws (wl_set (c := 6) (by decide) rfl cu_B0) kk)
theorem pM4 (M : CallFix p m c cc nL s args gw own) (TB : x_TB D kc A s s.heap) {index v : Nat} (hlk : Cond.fieldLink own index (TX3 4).1 (TX3 4).2.1 (TX3 4).2.2.1 ∈ gw) (hdg : decode cc pc = .ok (.putfield index, 3)) (kk : x_X p l e R s m args below meth c D A nL cells slots Q (wl kc ad X (up B 0 0 v) th ov hw) (pc + 3) ls st) : x_X p l e R s m args below meth c D A nL cells slots Q (wl kc ad X B th ov hw) pc ls (.int (nI v) :: .ref (ad 6) :: st) :=
  x_put3 M TB 4 (wl_at (c := 6) (by decide)) (by decide) (by show 4 < 15; decide) rfl (by decide +kernel) hlk hdg (x_ws (wl_set (c := 6) (by decide) rfl cu_B0) kk)
theorem aP (M : CallFix p m c cc nL s args gw own) (TB : x_TB D kc A s s.heap) {j : Nat} (hj : j < 12) (hdg : decode cc pc = .ok (.iaload, 1)) (kk : x_X p l e R s m args below meth c D A nL cells slots Q (wl kc ad X B th ov hw) (pc + 1) ls (.int (nI (X 1 j)) :: st)) : x_X p l e R s m args below meth c D A nL cells slots Q (wl kc ad X B th ov hw) pc ls (.int (nI j) :: .ref (ad 1) :: st) :=
  x_iald M TB (f := fun j => nI (X 1 j)) (wl_at (c := 1) (by decide)) hj (by decide) hdg kk
theorem aE (M : CallFix p m c cc nL s args gw own) (TB : x_TB D kc A s s.heap) {j : Nat} (hj : j < 12) (hdg : decode cc pc = .ok (.iaload, 1)) (kk : x_X p l e R s m args below meth c D A nL cells slots Q (wl kc ad X B th ov hw) (pc + 1) ls (.int (nI (X 11 j)) :: st)) : x_X p l e R s m args below meth c D A nL cells slots Q (wl kc ad X B th ov hw) pc ls (.int (nI j) :: .ref (ad 5) :: st) :=
  x_iald M TB (f := fun j => nI (X 11 j)) (wl_at (c := 5) (by decide)) hj (by decide) hdg kk
theorem aM1 (M : CallFix p m c cc nL s args gw own) (TB : x_TB D kc A s s.heap) {j : Nat} (hj : j < 12) (hdg : decode cc pc = .ok (.iaload, 1)) (kk : x_X p l e R s m args below meth c D A nL cells slots Q (wl kc ad X B th ov hw) (pc + 1) ls (.int (nI (B 1 j)) :: st)) : x_X p l e R s m args below meth c D A nL cells slots Q (wl kc ad X B th ov hw) pc ls (.int (nI j) :: .ref (ad 7) :: st) :=
  x_iald M TB (f := fun j => nI (B 1 j)) (wl_at (c := 7) (by decide)) hj (by decide) hdg kk
theorem aM2 (M : CallFix p m c cc nL s args gw own) (TB : x_TB D kc A s s.heap) {j : Nat} (hj : j < 12) (hdg : decode cc pc = .ok (.iaload, 1)) (kk : x_X p l e R s m args below meth c D A nL cells slots Q (wl kc ad X B th ov hw) (pc + 1) ls (.int (nI (B 2 j)) :: st)) : x_X p l e R s m args below meth c D A nL cells slots Q (wl kc ad X B th ov hw) pc ls (.int (nI j) :: .ref (ad 8) :: st) :=
  x_iald M TB (f := fun j => nI (B 2 j)) (wl_at (c := 8) (by decide)) hj (by decide) hdg kk
theorem aM3 (M : CallFix p m c cc nL s args gw own) (TB : x_TB D kc A s s.heap) {j : Nat} (hj : j < 12) (hdg : decode cc pc = .ok (.iaload, 1)) (kk : x_X p l e R s m args below meth c D A nL cells slots Q (wl kc ad X B th ov hw) (pc + 1) ls (.int (nI (B 3 j)) :: st)) : x_X p l e R s m args below meth c D A nL cells slots Q (wl kc ad X B th ov hw) pc ls (.int (nI j) :: .ref (ad 9) :: st) :=
  x_iald M TB (f := fun j => nI (B 3 j)) (wl_at (c := 9) (by decide)) hj (by decide) hdg kk
theorem aM4 (M : CallFix p m c cc nL s args gw own) (TB : x_TB D kc A s s.heap) {j : Nat} (hj : j < 12) (hdg : decode cc pc = .ok (.iaload, 1)) (kk : x_X p l e R s m args below meth c D A nL cells slots Q (wl kc ad X B th ov hw) (pc + 1) ls (.int (nI (B 4 j)) :: st)) : x_X p l e R s m args below meth c D A nL cells slots Q (wl kc ad X B th ov hw) pc ls (.int (nI j) :: .ref (ad 10) :: st) :=
  x_iald M TB (f := fun j => nI (B 4 j)) (wl_at (c := 10) (by decide)) hj (by decide) hdg kk
theorem aM6 (M : CallFix p m c cc nL s args gw own) (TB : x_TB D kc A s s.heap) {j : Nat} (hj : j < 12) (hdg : decode cc pc = .ok (.iaload, 1)) (kk : x_X p l e R s m args below meth c D A nL cells slots Q (wl kc ad X B th ov hw) (pc + 1) ls (.int (nI (B 6 j)) :: st)) : x_X p l e R s m args below meth c D A nL cells slots Q (wl kc ad X B th ov hw) pc ls (.int (nI j) :: .ref (ad 12) :: st) :=
  x_iald M TB (f := fun j => nI (B 6 j)) (wl_at (c := 12) (by decide)) hj (by decide) hdg kk
theorem aM7 (M : CallFix p m c cc nL s args gw own) (TB : x_TB D kc A s s.heap) {j : Nat} (hj : j < 12) (hdg : decode cc pc = .ok (.iaload, 1)) (kk : x_X p l e R s m args below meth c D A nL cells slots Q (wl kc ad X B th ov hw) (pc + 1) ls (.int (nI (B 7 j)) :: st)) : x_X p l e R s m args below meth c D A nL cells slots Q (wl kc ad X B th ov hw) pc ls (.int (nI j) :: .ref (ad 13) :: st) :=
  x_iald M TB (f := fun j => nI (B 7 j)) (wl_at (c := 13) (by decide)) hj (by decide) hdg kk
theorem aM8 (M : CallFix p m c cc nL s args gw own) (TB : x_TB D kc A s s.heap) {j : Nat} (hj : j < 12) (hdg : decode cc pc = .ok (.iaload, 1)) (kk : x_X p l e R s m args below meth c D A nL cells slots Q (wl kc ad X B th ov hw) (pc + 1) ls (.int (nI (B 8 j)) :: st)) : x_X p l e R s m args below meth c D A nL cells slots Q (wl kc ad X B th ov hw) pc ls (.int (nI j) :: .ref (ad 14) :: st) :=
  x_iald M TB (f := fun j => nI (B 8 j)) (wl_at (c := 14) (by decide)) hj (by decide) hdg kk
theorem aM9 (M : CallFix p m c cc nL s args gw own) (TB : x_TB D kc A s s.heap) {j : Nat} (hj : j < 12) (hdg : decode cc pc = .ok (.iaload, 1)) (kk : x_X p l e R s m args below meth c D A nL cells slots Q (wl kc ad X B th ov hw) (pc + 1) ls (.int (nI (B 9 j)) :: st)) : x_X p l e R s m args below meth c D A nL cells slots Q (wl kc ad X B th ov hw) pc ls (.int (nI j) :: .ref (ad 15) :: st) :=
  x_iald M TB (f := fun j => nI (B 9 j)) (wl_at (c := 15) (by decide)) hj (by decide) hdg kk
theorem aM10 (M : CallFix p m c cc nL s args gw own) (TB : x_TB D kc A s s.heap) {j : Nat} (hj : j < 720) (hdg : decode cc pc = .ok (.iaload, 1)) (kk : x_X p l e R s m args below meth c D A nL cells slots Q (wl kc ad X B th ov hw) (pc + 1) ls (.int (em (B 10 j)) :: st)) : x_X p l e R s m args below meth c D A nL cells slots Q (wl kc ad X B th ov hw) pc ls (.int (nI j) :: .ref (ad 16) :: st) :=
  x_iald M TB (f := fun j => em (B 10 j)) (wl_at (c := 16) (by decide)) hj (by decide) hdg kk
theorem aM11 (M : CallFix p m c cc nL s args gw own) (TB : x_TB D kc A s s.heap) {j : Nat} (hj : j < 12) (hdg : decode cc pc = .ok (.iaload, 1)) (kk : x_X p l e R s m args below meth c D A nL cells slots Q (wl kc ad X B th ov hw) (pc + 1) ls (.int (em (B 11 j)) :: st)) : x_X p l e R s m args below meth c D A nL cells slots Q (wl kc ad X B th ov hw) pc ls (.int (nI j) :: .ref (ad 17) :: st) :=
  x_iald M TB (f := fun j => em (B 11 j)) (wl_at (c := 17) (by decide)) hj (by decide) hdg kk
theorem aM5 (M : CallFix p m c cc nL s args gw own) (TB : x_TB D kc A s s.heap) {j : Nat} (hj : j < 12) (hh : j < hw) (hdg : decode cc pc = .ok (.iaload, 1)) (kk : x_X p l e R s m args below meth c D A nL cells slots Q (wl kc ad X B th ov hw) (pc + 1) ls (.int (nI (B 5 j)) :: st)) : x_X p l e R s m args below meth c D A nL cells slots Q (wl kc ad X B th ov hw) pc ls (.int (nI j) :: .ref (ad 11) :: st) :=
  x_iald M TB (f := fun j => if j < hw then nI (B 5 j) else nI 0) (wl_at (c := 11) (by decide)) hj (by decide) hdg (by rw [if_pos hh]; exact kk)
theorem sM5 (M : CallFix p m c cc nL s args gw own) (TB : x_TB D kc A s s.heap) {j v : Nat} (hj : j < 12) (hh : j < hw) (hdg : decode cc pc = .ok (.iastore, 1)) (kk : x_X p l e R s m args below meth c D A nL cells slots Q (wl kc ad X (up B 5 j v) th ov hw) (pc + 1) ls st) : x_X p l e R s m args below meth c D A nL cells slots Q (wl kc ad X B th ov hw) pc ls (.int (nI v) :: .int (nI j) :: .ref (ad 11) :: st) :=
  x_iast M TB (f := fun j => if j < hw then nI (B 5 j) else nI 0) (wl_at (c := 11) (by decide)) hj (by decide) hdg (x_ws (wl_set (c := 11) (by decide) (congrArg (fun f => (Sum.inl (kc 0, 12, Sum.inl f) : va_E)) (funext fun k => by
    unfold upd up
    by_cases e : k = j
    · subst e
      simp [hh]
    · simp [e])) cu_B5) kk)
/-- the first battery of a label that is hung -/
theorem sM5n (M : CallFix p m c cc nL s args gw own) (TB : x_TB D kc A s s.heap) {v : Nat} (hj : hw < 12) (hv : B 5 hw = v) (hdg : decode cc pc = .ok (.iastore, 1)) (kk : x_X p l e R s m args below meth c D A nL cells slots Q (wl kc ad X B th ov (hw + 1)) (pc + 1) ls st) : x_X p l e R s m args below meth c D A nL cells slots Q (wl kc ad X B th ov hw) pc ls (.int (nI v) :: .int (nI hw) :: .ref (ad 11) :: st) :=
  x_iast M TB (f := fun j => if j < hw then nI (B 5 j) else nI 0) (wl_at (c := 11) (by decide)) hj (by decide) hdg (x_ws (wl_set (c := 11) (by decide) (congrArg (fun f => (Sum.inl (kc 0, 12, Sum.inl f) : va_E)) (funext fun k => by
    unfold upd
    by_cases e : k = hw
    · rw [if_pos e, if_pos (by omega), e, hv]
    · rw [if_neg e]
      show _ = (if k < hw then nI (B 5 k) else nI 0)
      by_cases e2 : k < hw
      · rw [if_pos e2, if_pos (by omega)]
      · rw [if_neg e2, if_neg (by omega)])) cu_hw) kk)
theorem aW (M : CallFix p m c cc nL s args gw own) (TB : x_TB D kc A s s.heap) {j r : Nat} (hr : r < 60) (hj : j < 12) (hdg : decode cc pc = .ok (.iaload, 1)) (kk : x_X p l e R s m args below meth c D A nL cells slots Q (wl kc ad X B th ov hw) (pc + 1) ls (.int (nI (X 10 (60 * j + r))) :: st)) : x_X p l e R s m args below meth c D A nL cells slots Q (wl kc ad X B th ov hw) pc ls (.int (nI j) :: .ref (ad (31 + r)) :: st) :=
  x_iald M TB (wl_row hr) hj (by decide) hdg kk
theorem aL (M : CallFix p m c cc nL s args gw own) (TB : x_TB D kc A s s.heap) {j : Nat} (hj : j < 12) (hdg : decode cc pc = .ok (.aaload, 1)) (kk : x_X p l e R s m args below meth c D A nL cells slots Q (wl kc ad X B th ov hw) (pc + 1) ls (.ref (ad (19 + j)) :: st)) : x_X p l e R s m args below meth c D A nL cells slots Q (wl kc ad X B th ov hw) pc ls (.int (nI j) :: .ref (ad 2) :: st) :=
  x_aald M TB (t0 := 2) (f := fun j => if j < 12 then some (ad (19 + j)) else none) (wl_at (c := 2) (by decide)) rfl rfl hj (by decide) hdg (by rw [if_pos hj]; exact kk)
theorem aO (M : CallFix p m c cc nL s args gw own) (TB : x_TB D kc A s s.heap) {j : Nat} (hj : j < 60) (hdg : decode cc pc = .ok (.aaload, 1)) (kk : x_X p l e R s m args below meth c D A nL cells slots Q (wl kc ad X B th ov hw) (pc + 1) ls (.ref (ad (31 + j)) :: st)) : x_X p l e R s m args below meth c D A nL cells slots Q (wl kc ad X B th ov hw) pc ls (.int (nI j) :: .ref (ad 4) :: st) :=
  x_aald M TB (t0 := 3) (f := fun j => if j < 60 then some (ad (31 + j)) else none) (wl_at (c := 4) (by decide)) rfl rfl hj (by decide) hdg (by rw [if_pos hj]; exact kk)
theorem aQ (M : CallFix p m c cc nL s args gw own) (TB : x_TB D kc A s s.heap) (hdg : decode cc pc = .ok (.laload, 1)) (kk : x_X p l e R s m args below meth c D A nL cells slots Q (wl kc ad X B th ov hw) (pc + 1) ls (.long ov :: st)) : x_X p l e R s m args below meth c D A nL cells slots Q (wl kc ad X B th ov hw) pc ls (.int (nI 0) :: .ref (ad 18) :: st) :=
  x_lald M TB (wl_at (c := 18) (by decide)) (by decide) (by decide) hdg kk
theorem sQ (M : CallFix p m c cc nL s args gw own) (TB : x_TB D kc A s s.heap) {x : Int64} (hdg : decode cc pc = .ok (.lastore, 1)) (kk : x_X p l e R s m args below meth c D A nL cells slots Q (wl kc ad X B th x hw) (pc + 1) ls st) : x_X p l e R s m args below meth c D A nL cells slots Q (wl kc ad X B th ov hw) pc ls (.long x :: .int (nI 0) :: .ref (ad 18) :: st) :=
  x_last M TB (f := fun j => if j = 0 then ov else 0) (wl_at (c := 18) (by decide)) (by decide) (by decide) hdg (x_ws (wl_set (c := 18) (by decide) (congrArg (fun f => (Sum.inl (kc 1, 1, Sum.inr (Sum.inl f)) : va_E)) (funext fun k => by
    show (if k = 0 then x else 0) = vp_updL _ 0 x k
    unfold vp_updL
    by_cases e : k = 0
    · rw [if_pos e, if_pos e]
    · rw [if_neg e, if_neg e]; exact (if_neg e).symm)) cu_ov) kk)
theorem sP (M : CallFix p m c cc nL s args gw own) (TB : x_TB D kc A s s.heap) {j v : Nat} (hj : j < 12) (hdg : decode cc pc = .ok (.iastore, 1)) (kk : x_X p l e R s m args below meth c D A nL cells slots Q (wl kc ad (up X 1 j v) B th ov hw) (pc + 1) ls st) : x_X p l e R s m args below meth c D A nL cells slots Q (wl kc ad X B th ov hw) pc ls (.int (nI v) :: .int (nI j) :: .ref (ad 1) :: st) :=
  x_iast M TB (f := fun j => nI (X 1 j)) (wl_at (c := 1) (by decide)) hj (by decide) hdg (x_ws (wl_set (c := 1) (by decide) (congrArg (fun f => (Sum.inl (kc 0, 12, Sum.inl f) : va_E)) (funext fun k => by
    unfold upd up
    by_cases e : k = j
    · rw [if_pos e, if_pos ⟨rfl, e⟩]
    · rw [if_neg e, if_neg (fun q => e q.2)])) cu_A1) kk)
theorem sE (M : CallFix p m c cc nL s args gw own) (TB : x_TB D kc A s s.heap) {j v : Nat} (hj : j < 12) (hdg : decode cc pc = .ok (.iastore, 1)) (kk : x_X p l e R s m args below meth c D A nL cells slots Q (wl kc ad (up X 11 j v) B th ov hw) (pc + 1) ls st) : x_X p l e R s m args below meth c D A nL cells slots Q (wl kc ad X B th ov hw) pc ls (.int (nI v) :: .int (nI j) :: .ref (ad 5) :: st) :=
  x_iast M TB (f := fun j => nI (X 11 j)) (wl_at (c := 5) (by decide)) hj (by decide) hdg (x_ws (wl_set (c := 5) (by decide) (congrArg (fun f => (Sum.inl (kc 0, 12, Sum.inl f) : va_E)) (funext fun k => by
    unfold upd up
    by_cases e : k = j
    · rw [if_pos e, if_pos ⟨rfl, e⟩]
    · rw [if_neg e, if_neg (fun q => e q.2)])) cu_A11) kk)
theorem sM1 (M : CallFix p m c cc nL s args gw own) (TB : x_TB D kc A s s.heap) {j v : Nat} (hj : j < 12) (hdg : decode cc pc = .ok (.iastore, 1)) (kk : x_X p l e R s m args below meth c D A nL cells slots Q (wl kc ad X (up B 1 j v) th ov hw) (pc + 1) ls st) : x_X p l e R s m args below meth c D A nL cells slots Q (wl kc ad X B th ov hw) pc ls (.int (nI v) :: .int (nI j) :: .ref (ad 7) :: st) :=
  x_iast M TB (f := fun j => nI (B 1 j)) (wl_at (c := 7) (by decide)) hj (by decide) hdg (x_ws (wl_set (c := 7) (by decide) (congrArg (fun f => (Sum.inl (kc 0, 12, Sum.inl f) : va_E)) (funext fun k => by
    unfold upd up
    by_cases e : k = j
    · rw [if_pos e, if_pos ⟨rfl, e⟩]
    · rw [if_neg e, if_neg (fun q => e q.2)])) cu_B1) kk)
theorem sM2 (M : CallFix p m c cc nL s args gw own) (TB : x_TB D kc A s s.heap) {j v : Nat} (hj : j < 12) (hdg : decode cc pc = .ok (.iastore, 1)) (kk : x_X p l e R s m args below meth c D A nL cells slots Q (wl kc ad X (up B 2 j v) th ov hw) (pc + 1) ls st) : x_X p l e R s m args below meth c D A nL cells slots Q (wl kc ad X B th ov hw) pc ls (.int (nI v) :: .int (nI j) :: .ref (ad 8) :: st) :=
  x_iast M TB (f := fun j => nI (B 2 j)) (wl_at (c := 8) (by decide)) hj (by decide) hdg (x_ws (wl_set (c := 8) (by decide) (congrArg (fun f => (Sum.inl (kc 0, 12, Sum.inl f) : va_E)) (funext fun k => by
    unfold upd up
    by_cases e : k = j
    · rw [if_pos e, if_pos ⟨rfl, e⟩]
    · rw [if_neg e, if_neg (fun q => e q.2)])) cu_B2) kk)
theorem sM3 (M : CallFix p m c cc nL s args gw own) (TB : x_TB D kc A s s.heap) {j v : Nat} (hj : j < 12) (hdg : decode cc pc = .ok (.iastore, 1)) (kk : x_X p l e R s m args below meth c D A nL cells slots Q (wl kc ad X (up B 3 j v) th ov hw) (pc + 1) ls st) : x_X p l e R s m args below meth c D A nL cells slots Q (wl kc ad X B th ov hw) pc ls (.int (nI v) :: .int (nI j) :: .ref (ad 9) :: st) :=
  x_iast M TB (f := fun j => nI (B 3 j)) (wl_at (c := 9) (by decide)) hj (by decide) hdg (x_ws (wl_set (c := 9) (by decide) (congrArg (fun f => (Sum.inl (kc 0, 12, Sum.inl f) : va_E)) (funext fun k => by
    unfold upd up
    by_cases e : k = j
    · rw [if_pos e, if_pos ⟨rfl, e⟩]
    · rw [if_neg e, if_neg (fun q => e q.2)])) cu_B3) kk)
theorem sM4 (M : CallFix p m c cc nL s args gw own) (TB : x_TB D kc A s s.heap) {j v : Nat} (hj : j < 12) (hdg : decode cc pc = .ok (.iastore, 1)) (kk : x_X p l e R s m args below meth c D A nL cells slots Q (wl kc ad X (up B 4 j v) th ov hw) (pc + 1) ls st) : x_X p l e R s m args below meth c D A nL cells slots Q (wl kc ad X B th ov hw) pc ls (.int (nI v) :: .int (nI j) :: .ref (ad 10) :: st) :=
  x_iast M TB (f := fun j => nI (B 4 j)) (wl_at (c := 10) (by decide)) hj (by decide) hdg (x_ws (wl_set (c := 10) (by decide) (congrArg (fun f => (Sum.inl (kc 0, 12, Sum.inl f) : va_E)) (funext fun k => by
    unfold upd up
    by_cases e : k = j
    · rw [if_pos e, if_pos ⟨rfl, e⟩]
    · rw [if_neg e, if_neg (fun q => e q.2)])) cu_B4) kk)
theorem sM6 (M : CallFix p m c cc nL s args gw own) (TB : x_TB D kc A s s.heap) {j v : Nat} (hj : j < 12) (hdg : decode cc pc = .ok (.iastore, 1)) (kk : x_X p l e R s m args below meth c D A nL cells slots Q (wl kc ad X (up B 6 j v) th ov hw) (pc + 1) ls st) : x_X p l e R s m args below meth c D A nL cells slots Q (wl kc ad X B th ov hw) pc ls (.int (nI v) :: .int (nI j) :: .ref (ad 12) :: st) :=
  x_iast M TB (f := fun j => nI (B 6 j)) (wl_at (c := 12) (by decide)) hj (by decide) hdg (x_ws (wl_set (c := 12) (by decide) (congrArg (fun f => (Sum.inl (kc 0, 12, Sum.inl f) : va_E)) (funext fun k => by
    unfold upd up
    by_cases e : k = j
    · rw [if_pos e, if_pos ⟨rfl, e⟩]
    · rw [if_neg e, if_neg (fun q => e q.2)])) cu_B6) kk)
theorem sM7 (M : CallFix p m c cc nL s args gw own) (TB : x_TB D kc A s s.heap) {j v : Nat} (hj : j < 12) (hdg : decode cc pc = .ok (.iastore, 1)) (kk : x_X p l e R s m args below meth c D A nL cells slots Q (wl kc ad X (up B 7 j v) th ov hw) (pc + 1) ls st) : x_X p l e R s m args below meth c D A nL cells slots Q (wl kc ad X B th ov hw) pc ls (.int (nI v) :: .int (nI j) :: .ref (ad 13) :: st) :=
  x_iast M TB (f := fun j => nI (B 7 j)) (wl_at (c := 13) (by decide)) hj (by decide) hdg (x_ws (wl_set (c := 13) (by decide) (congrArg (fun f => (Sum.inl (kc 0, 12, Sum.inl f) : va_E)) (funext fun k => by
    unfold upd up
    by_cases e : k = j
    · rw [if_pos e, if_pos ⟨rfl, e⟩]
    · rw [if_neg e, if_neg (fun q => e q.2)])) cu_B7) kk)
theorem sM8 (M : CallFix p m c cc nL s args gw own) (TB : x_TB D kc A s s.heap) {j v : Nat} (hj : j < 12) (hdg : decode cc pc = .ok (.iastore, 1)) (kk : x_X p l e R s m args below meth c D A nL cells slots Q (wl kc ad X (up B 8 j v) th ov hw) (pc + 1) ls st) : x_X p l e R s m args below meth c D A nL cells slots Q (wl kc ad X B th ov hw) pc ls (.int (nI v) :: .int (nI j) :: .ref (ad 14) :: st) :=
  x_iast M TB (f := fun j => nI (B 8 j)) (wl_at (c := 14) (by decide)) hj (by decide) hdg (x_ws (wl_set (c := 14) (by decide) (congrArg (fun f => (Sum.inl (kc 0, 12, Sum.inl f) : va_E)) (funext fun k => by
    unfold upd up
    by_cases e : k = j
    · rw [if_pos e, if_pos ⟨rfl, e⟩]
    · rw [if_neg e, if_neg (fun q => e q.2)])) cu_B8) kk)
theorem sM9 (M : CallFix p m c cc nL s args gw own) (TB : x_TB D kc A s s.heap) {j v : Nat} (hj : j < 12) (hdg : decode cc pc = .ok (.iastore, 1)) (kk : x_X p l e R s m args below meth c D A nL cells slots Q (wl kc ad X (up B 9 j v) th ov hw) (pc + 1) ls st) : x_X p l e R s m args below meth c D A nL cells slots Q (wl kc ad X B th ov hw) pc ls (.int (nI v) :: .int (nI j) :: .ref (ad 15) :: st) :=
  x_iast M TB (f := fun j => nI (B 9 j)) (wl_at (c := 15) (by decide)) hj (by decide) hdg (x_ws (wl_set (c := 15) (by decide) (congrArg (fun f => (Sum.inl (kc 0, 12, Sum.inl f) : va_E)) (funext fun k => by
    unfold upd up
    by_cases e : k = j
    · rw [if_pos e, if_pos ⟨rfl, e⟩]
    · rw [if_neg e, if_neg (fun q => e q.2)])) cu_B9) kk)
theorem sM10 (M : CallFix p m c cc nL s args gw own) (TB : x_TB D kc A s s.heap) {j v : Nat} {x : Int32} (hj : j < 720) (hx : em v = x) (hdg : decode cc pc = .ok (.iastore, 1)) (kk : x_X p l e R s m args below meth c D A nL cells slots Q (wl kc ad X (up B 10 j v) th ov hw) (pc + 1) ls st) : x_X p l e R s m args below meth c D A nL cells slots Q (wl kc ad X B th ov hw) pc ls (.int x :: .int (nI j) :: .ref (ad 16) :: st) :=
  x_iast M TB (f := fun j => em (B 10 j)) (wl_at (c := 16) (by decide)) hj (by decide) hdg (x_ws (wl_set (c := 16) (by decide) (congrArg (fun f => (Sum.inl (kc 0, 720, Sum.inl f) : va_E)) (funext fun k => by
    unfold upd up
    by_cases e : k = j
    · rw [if_pos e, if_pos ⟨rfl, e⟩]; exact hx
    · rw [if_neg e, if_neg (fun q => e q.2)])) cu_B10) kk)
theorem sM11 (M : CallFix p m c cc nL s args gw own) (TB : x_TB D kc A s s.heap) {j v : Nat} {x : Int32} (hj : j < 12) (hx : em v = x) (hdg : decode cc pc = .ok (.iastore, 1)) (kk : x_X p l e R s m args below meth c D A nL cells slots Q (wl kc ad X (up B 11 j v) th ov hw) (pc + 1) ls st) : x_X p l e R s m args below meth c D A nL cells slots Q (wl kc ad X B th ov hw) pc ls (.int x :: .int (nI j) :: .ref (ad 17) :: st) :=
  x_iast M TB (f := fun j => em (B 11 j)) (wl_at (c := 17) (by decide)) hj (by decide) hdg (x_ws (wl_set (c := 17) (by decide) (congrArg (fun f => (Sum.inl (kc 0, 12, Sum.inl f) : va_E)) (funext fun k => by
    unfold upd up
    by_cases e : k = j
    · rw [if_pos e, if_pos ⟨rfl, e⟩]; exact hx
    · rw [if_neg e, if_neg (fun q => e q.2)])) cu_B11) kk)
theorem sW (M : CallFix p m c cc nL s args gw own) (TB : x_TB D kc A s s.heap) {j r v : Nat} (hr : r < 60) (hj : j < 12) (hdg : decode cc pc = .ok (.iastore, 1)) (kk : x_X p l e R s m args below meth c D A nL cells slots Q (wl kc ad (up X 10 (60 * j + r) v) B th ov hw) (pc + 1) ls st) : x_X p l e R s m args below meth c D A nL cells slots Q (wl kc ad X B th ov hw) pc ls (.int (nI v) :: .int (nI j) :: .ref (ad (31 + r)) :: st) :=
  x_iast M TB (wl_row hr) hj (by decide) hdg (x_ws (wl_set (c := 31 + r) (by omega) (by
    rw [ct_row hr]
    refine congrArg (fun f => (Sum.inl (kc 0, 12, Sum.inl f) : va_E)) (funext fun k => ?_)
    unfold upd up
    by_cases e : k = j
    · rw [if_pos e, if_pos ⟨rfl, by omega⟩]
    · rw [if_neg e, if_neg (fun q => e (by omega))]) (cu_A10 hr)) kk)
end XV
