/-! THE JUDGEMENT x_X: at pc, with locals ls (by place; none: unknown) and stack st, in every heap that holds the cells ws, the machine comes to a state with Q. One row an instruction. -/
def x_lh (la : Array Slot) (nL : Nat) (ls : List (Option Value)) : Prop := la.size = nL ∧ ls.length = nL ∧ lv_wf la ∧ ∀ (i : Nat) (v : Value), ls[i]? = some (some v) → la[i]? = some (.val v) ∧ (v.category = 1 ∨ i = 11)
def x_lv (ls : List (Option Value)) : List (Nat × Value) := (List.range ls.length).filterMap (fun j => (ls[j]?.getD none).map (fun w => (j, w)))
theorem x_lv_mem {ls : List (Option Value)} {j : Nat} {w : Value} : (j, w) ∈ x_lv ls ↔ ls[j]? = some (some w) := by
  unfold x_lv
  rw [List.mem_filterMap]
  constructor
  · rintro ⟨i, hi, h⟩
    cases hg : ls[i]? with
    | none => rw [hg] at h; simp at h
    | some o =>
      rw [hg] at h
      cases o with
      | none => simp at h
      | some v =>
        simp only [Option.getD_some, Option.map_some, Option.some.injEq, Prod.mk.injEq] at h
        obtain ⟨rfl, rfl⟩ := h
        exact hg
  · intro h
    have hl : j < ls.length := (List.getElem?_eq_some_iff.mp h).1
    exact ⟨j, List.mem_range.mpr hl, by rw [h]; rfl⟩
theorem x_lh_lv {la : Array Slot} {nL : Nat} {ls : List (Option Value)} (h : x_lh la nL ls) : lv_has la nL (x_lv ls) :=
  ⟨h.1, h.2.2.1, fun q hq => (h.2.2.2 q.1 q.2 (x_lv_mem.mp hq)).1⟩
theorem x_lh_at {la : Array Slot} {nL : Nat} {ls : List (Option Value)} (h : x_lh la nL ls) {i : Nat} {v : Value} (hk : ls[i]? = some (some v)) : la[i]? = some (.val v) := (h.2.2.2 i v hk).1
theorem x_lh_st {la la' : Array Slot} {nL : Nat} {ls : List (Option Value)} {i : Nat} {v : Value} (h : x_lh la nL ls) (hc : v.category = 1) (hk : i ≠ 12 ∨ ∀ w : Value, ls[11]? = some (some w) → w.category = 1)
    (h' : lv_has la' nL ((i, v) :: (x_lv ls).filter (fun q => !(q.1 == i) && !(q.1 + 1 == i && q.2.category == 2)))) : x_lh la' nL (ls.set i (some v)) := by
  refine ⟨h'.1, by rw [List.length_set]; exact h.2.1, h'.2.1, fun j w hj => ?_⟩
  by_cases e : i = j
  · subst e
    rw [List.getElem?_set_self'] at hj
    cases hg : ls[i]? with
    | none => rw [hg] at hj; cases hj
    | some o =>
      rw [hg] at hj
      cases hj
      exact ⟨h'.2.2 (i, v) List.mem_cons_self, Or.inl hc⟩
  · rw [List.getElem?_set_ne e] at hj
    obtain ⟨h1, h2⟩ := h.2.2.2 j w hj
    refine ⟨h'.2.2 (j, w) (List.mem_cons_of_mem _ (List.mem_filter.mpr ⟨x_lv_mem.mpr hj, ?_⟩)), h2⟩
    have e1 : (j == i) = false := by simpa using fun q : j = i => e q.symm
    have e2 : (j + 1 == i && w.category == 2) = false := by
      by_cases e3 : j + 1 = i
      · have e4 : w.category = 1 := by
          rcases h2 with h2 | h2
          · exact h2
          · subst h2
            rcases hk with hk | hk
            · exact absurd e3.symm hk
            · exact hk w hj
        rw [e4]
        simp
      · simp [e3]
    simp [e1, e2]
theorem x_lh_st2 {la la' : Array Slot} {nL : Nat} {ls : List (Option Value)} {x : Int64} (h : x_lh la nL ls)
    (h' : lv_has la' nL ((11, .long x) :: (x_lv ls).filter (fun q => !(q.1 == 11) && (!(q.1 == 11 + 1) && !(q.1 + 1 == 11 && q.2.category == 2))))) : x_lh la' nL ((ls.set 11 (some (.long x))).set 12 none) := by
  refine ⟨h'.1, by rw [List.length_set, List.length_set]; exact h.2.1, h'.2.1, fun j w hj => ?_⟩
  by_cases e12 : 12 = j
  · subst e12
    rw [List.getElem?_set_self'] at hj
    cases hg : (ls.set 11 (some (Value.long x)))[12]? with
    | none => rw [hg] at hj; cases hj
    | some o => rw [hg] at hj; cases hj
  · rw [List.getElem?_set_ne e12] at hj
    by_cases e : 11 = j
    · subst e
      rw [List.getElem?_set_self'] at hj
      cases hg : ls[11]? with
      | none => rw [hg] at hj; cases hj
      | some o =>
        rw [hg] at hj
        cases hj
        exact ⟨h'.2.2 (11, .long x) List.mem_cons_self, Or.inr rfl⟩
    · rw [List.getElem?_set_ne e] at hj
      obtain ⟨h1, h2⟩ := h.2.2.2 j w hj
      refine ⟨h'.2.2 (j, w) (List.mem_cons_of_mem _ (List.mem_filter.mpr ⟨x_lv_mem.mpr hj, ?_⟩)), h2⟩
      have e1 : (j == 11) = false := by simpa using fun q : j = 11 => e q.symm
      have e3 : (j == 11 + 1) = false := by simpa using fun q : j = 12 => e12 q.symm
      have e2 : (j + 1 == 11 && w.category == 2) = false := by
        rcases h2 with h2 | h2
        · rw [h2]; simp
        · exact absurd h2.symm e
      show (!(j == 11) && (!(j == 11 + 1) && !(j + 1 == 11 && w.category == 2))) = true
      rw [e1, e3, e2]
      rfl
theorem x_lh_12 {b11 : Option Value} {ls : List (Option Value)} (h : ls[11]? = some b11) (hb : (b11.elim 1 Value.category) = 1) : ∀ w : Value, ls[11]? = some (some w) → w.category = 1 := fun w hw => by
  rw [h] at hw
  cases hw
  exact hb
theorem x_lh_sub {la : Array Slot} {nL : Nat} {ls ls' : List (Option Value)} (h : x_lh la nL ls) (hl : ls'.length = ls.length) (hs : ∀ (i : Nat) (v : Value), ls'[i]? = some (some v) → ls[i]? = some (some v)) : x_lh la nL ls' :=
  ⟨h.1, hl.trans h.2.1, h.2.2.1, fun i v q => h.2.2.2 i v (hs i v q)⟩
/-- the locals at a method's entry: the arguments (of one word each), then nothing known -/
theorem x_lh_entry (vs : List Value) {n : Nat} (hn : vs.length ≤ n) (hc : ∀ v ∈ vs, v.category = 1) : x_lh ((lg_sl vs ++ List.replicate (n - (lg_sl vs).length) Slot.unset).toArray) n (vs.map some ++ List.replicate (n - vs.length) none) := by
  have hsl : ∀ (l : List Value), (∀ v ∈ l, v.category = 1) → (lg_sl l).length = l.length := by
    intro l
    induction l with
    | nil => intro _; rfl
    | cons a t ih =>
      intro h
      have h1 := h a List.mem_cons_self
      have h2 := ih (fun v hv => h v (List.mem_cons_of_mem _ hv))
      cases a <;> simp_all [lg_sl, Value.category]
  have hla : ∀ (l : List Value) (k : Nat), (∀ v ∈ l, v.category = 1) → ∀ (i : Nat) (v : Value), l[i]? = some v → (k + i, v) ∈ lv_args k l := by
    intro l
    induction l with
    | nil => intro k _ i v h; simp at h
    | cons a t ih =>
      intro k h i v hi
      have h1 := h a List.mem_cons_self
      have hne : ¬ a.category = 2 := by omega
      unfold lv_args
      rw [if_neg hne]
      cases i with
      | zero =>
        rw [List.getElem?_cons_zero] at hi
        cases hi
        exact List.mem_cons_self
      | succ i =>
        rw [List.getElem?_cons_succ] at hi
        have := ih (k + 1) (fun v hv => h v (List.mem_cons_of_mem _ hv)) i v hi
        rw [show k + 1 + i = k + (i + 1) by omega] at this
        exact List.mem_cons_of_mem _ this
  have hlen := hsl vs hc
  obtain ⟨h1, h2, h3⟩ := lv_entry vs (n := n) (by omega)
  refine ⟨h1, by simp; omega, h2, fun i v hi => ?_⟩
  by_cases hlt : i < vs.length
  · rw [List.getElem?_append_left (by simpa using hlt), List.getElem?_map] at hi
    cases hg : vs[i]? with
    | none => rw [hg] at hi; cases hi
    | some w =>
      rw [hg] at hi
      cases hi
      have := h3 (0 + i, v) (hla vs 0 hc i v hg)
      rw [Nat.zero_add] at this
      exact ⟨this, Or.inl (hc v (List.mem_of_getElem? hg))⟩
  · rw [List.getElem?_append_right (by simp; omega)] at hi
    have := List.mem_of_getElem? hi
    rw [List.mem_replicate] at this
    cases this.2
def x_X (p : Program) (l : Launch) (e : Env) (R : Room) (s : State) (m : MethodId) (args : Array Value) (below : List Frame) (meth : Method) (c : Code) (D : va_G) (A : Nat → Prop) (nL cells slots : Nat) (Q : State → Prop) (ws : va_W) (pc : Nat) (ls : List (Option Value)) (st : List Value) : Prop :=
  ∀ (H : Heap) (locs : List Loc) (la : Array Slot), va_P D vwCl ws H → va_D A ws → va_S A s.heap H locs → x_lh la nL ls → W p l e R s m args below meth c H locs cells slots Q (F0 m pc la st)
section XR
variable {p : Program} {l : Launch} {e : Env} {R : Room} {s : State} {m : MethodId} {args : Array Value} {below : List Frame} {meth : Method} {c : Code} {D : va_G} {A : Nat → Prop} {nL cells slots : Nat} {Q : State → Prop}
variable {cc : ByteArray} {Ts : List Cond} {own : String} {ws : va_W} {pc : Nat} {ls : List (Option Value)} {st : List Value}
theorem x_pc {pc2 : Nat} (h : pc = pc2) (k : x_X p l e R s m args below meth c D A nL cells slots Q ws pc2 ls st) : x_X p l e R s m args below meth c D A nL cells slots Q ws pc ls st := h ▸ k
theorem x_ws {ws2 : va_W} (h : ws = ws2) (k : x_X p l e R s m args below meth c D A nL cells slots Q ws2 pc ls st) : x_X p l e R s m args below meth c D A nL cells slots Q ws pc ls st := h ▸ k
theorem x_widen {k n : Nat} (h1 : cells ≤ k) (h2 : slots ≤ n) (kk : x_X p l e R s m args below meth c D A nL k n Q ws pc ls st) : x_X p l e R s m args below meth c D A nL cells slots Q ws pc ls st := fun H locs la h3 h4 h5 h6 => W.widen h1 h2 (kk H locs la h3 h4 h5 h6)
theorem x_sub {ls2 : List (Option Value)} (hl : ls2.length = ls.length) (hs : ∀ (i : Nat) (v : Value), ls2[i]? = some (some v) → ls[i]? = some (some v)) (k : x_X p l e R s m args below meth c D A nL cells slots Q ws pc ls2 st) : x_X p l e R s m args below meth c D A nL cells slots Q ws pc ls st := fun H locs la h3 h4 h5 h6 => k H locs la h3 h4 h5 (x_lh_sub h6 hl hs)
theorem x_iconst (M : CallFix p m c cc nL s args Ts own) {n : Int} {v : Int32} (hdg : decode cc pc = .ok (.iconst n, 1)) (hv : Int32.ofInt n = v)
    (kk : x_X p l e R s m args below meth c D A nL cells slots Q ws (pc + 1) ls (.int v :: st)) : x_X p l e R s m args below meth c D A nL cells slots Q ws pc ls st :=
  fun H locs la hP hD hS hl => lv_iconst M.1 M.2.1 hdg hv (kk H locs la hP hD hS hl)
theorem x_bipush (M : CallFix p m c cc nL s args Ts own) {n : Int} {v : Int32} (hdg : decode cc pc = .ok (.bipush n, 2)) (hv : (Int8.ofInt n).toInt32 = v)
    (kk : x_X p l e R s m args below meth c D A nL cells slots Q ws (pc + 2) ls (.int v :: st)) : x_X p l e R s m args below meth c D A nL cells slots Q ws pc ls st :=
  fun H locs la hP hD hS hl => lv_bipush M.1 M.2.1 hdg hv (kk H locs la hP hD hS hl)
theorem x_sipush (M : CallFix p m c cc nL s args Ts own) {n : Int} {v : Int32} (hdg : decode cc pc = .ok (.sipush n, 3)) (hv : (Int16.ofInt n).toInt32 = v)
    (kk : x_X p l e R s m args below meth c D A nL cells slots Q ws (pc + 3) ls (.int v :: st)) : x_X p l e R s m args below meth c D A nL cells slots Q ws pc ls st :=
  fun H locs la hP hD hS hl => lv_sipush M.1 M.2.1 hdg hv (kk H locs la hP hD hS hl)
theorem x_lconst (M : CallFix p m c cc nL s args Ts own) {n : Fin 2} {v : Int64} (hdg : decode cc pc = .ok (.lconst n, 1)) (hv : Int64.ofNat (n : Nat) = v)
    (kk : x_X p l e R s m args below meth c D A nL cells slots Q ws (pc + 1) ls (.long v :: st)) : x_X p l e R s m args below meth c D A nL cells slots Q ws pc ls st :=
  fun H locs la hP hD hS hl => lv_lconst M.1 M.2.1 hdg hv (kk H locs la hP hD hS hl)
theorem x_iload0 (M : CallFix p m c cc nL s args Ts own) {t : List (Option Value)} {x : Int32} (hdg : decode cc pc = .ok (.iload_n 0, 1)) 
    (kk : x_X p l e R s m args below meth c D A nL cells slots Q ws (pc + 1) (some (.int x) :: t) (.int x :: st)) : x_X p l e R s m args below meth c D A nL cells slots Q ws pc (some (.int x) :: t) st :=
  fun H locs la hP hD hS hl => lv_iload_n M.1 M.2.1 hdg (i := 0) rfl (x_lh_at hl rfl) (kk H locs la hP hD hS hl)
theorem x_istore0 (M : CallFix p m c cc nL s args Ts own) {b99 : Option Value} {t : List (Option Value)} {x : Int32} (hdg : decode cc pc = .ok (.istore_n 0, 1)) 
    (kk : x_X p l e R s m args below meth c D A nL cells slots Q ws (pc + 1) (some (.int x) :: t) st) : x_X p l e R s m args below meth c D A nL cells slots Q ws pc (b99 :: t) (.int x :: st) :=
  fun H locs la hP hD hS hl => lv_istore_n M.1 M.2.1 hdg (i := 0) rfl (x_lh_lv hl) (by have := hl.2.1; simp only [List.length_cons] at this; omega) rfl (fun la2 h2 => kk H locs la2 hP hD hS (x_lh_st (i := 0) hl rfl (Or.inl (by decide)) h2))
theorem x_aload0 (M : CallFix p m c cc nL s args Ts own) {t : List (Option Value)} {x : Nat} (hdg : decode cc pc = .ok (.aload_n 0, 1)) 
    (kk : x_X p l e R s m args below meth c D A nL cells slots Q ws (pc + 1) (some (.ref x) :: t) (.ref x :: st)) : x_X p l e R s m args below meth c D A nL cells slots Q ws pc (some (.ref x) :: t) st :=
  fun H locs la hP hD hS hl => lv_aload_n M.1 M.2.1 hdg (i := 0) rfl (x_lh_at hl rfl) (kk H locs la hP hD hS hl)
theorem x_astore0 (M : CallFix p m c cc nL s args Ts own) {b99 : Option Value} {t : List (Option Value)} {x : Nat} (hdg : decode cc pc = .ok (.astore_n 0, 1)) 
    (kk : x_X p l e R s m args below meth c D A nL cells slots Q ws (pc + 1) (some (.ref x) :: t) st) : x_X p l e R s m args below meth c D A nL cells slots Q ws pc (b99 :: t) (.ref x :: st) :=
  fun H locs la hP hD hS hl => lv_astore_n M.1 M.2.1 hdg (i := 0) rfl (x_lh_lv hl) (by have := hl.2.1; simp only [List.length_cons] at this; omega) rfl (fun la2 h2 => kk H locs la2 hP hD hS (x_lh_st (i := 0) hl rfl (Or.inl (by decide)) h2))
theorem x_iinc0 (M : CallFix p m c cc nL s args Ts own) {t : List (Option Value)} {x v : Int32} {n : Int} (hdg : decode cc pc = .ok (.iinc 0 n, 3)) (hv : x + Int32.ofInt n = v)
    (kk : x_X p l e R s m args below meth c D A nL cells slots Q ws (pc + 3) (some (.int v) :: t) st) : x_X p l e R s m args below meth c D A nL cells slots Q ws pc (some (.int x) :: t) st :=
  fun H locs la hP hD hS hl => by
    obtain ⟨k, hk⟩ := List.getElem?_of_mem (x_lv_mem (ls := (some (.int x) :: t)) (j := 0) (w := .int x) |>.mpr rfl)
    exact lv_iinc M.1 M.2.1 hdg (x_lh_lv hl) hk hv (by have := hl.2.1; simp only [List.length_cons] at this; omega) rfl (fun la2 h2 => kk H locs la2 hP hD hS (x_lh_st (i := 0) hl rfl (Or.inl (by decide)) h2))
theorem x_iload1 (M : CallFix p m c cc nL s args Ts own) {b0 : Option Value} {t : List (Option Value)} {x : Int32} (hdg : decode cc pc = .ok (.iload_n 1, 1)) 
    (kk : x_X p l e R s m args below meth c D A nL cells slots Q ws (pc + 1) (b0 :: some (.int x) :: t) (.int x :: st)) : x_X p l e R s m args below meth c D A nL cells slots Q ws pc (b0 :: some (.int x) :: t) st :=
  fun H locs la hP hD hS hl => lv_iload_n M.1 M.2.1 hdg (i := 1) rfl (x_lh_at hl rfl) (kk H locs la hP hD hS hl)
theorem x_istore1 (M : CallFix p m c cc nL s args Ts own) {b0 : Option Value} {b99 : Option Value} {t : List (Option Value)} {x : Int32} (hdg : decode cc pc = .ok (.istore_n 1, 1)) 
    (kk : x_X p l e R s m args below meth c D A nL cells slots Q ws (pc + 1) (b0 :: some (.int x) :: t) st) : x_X p l e R s m args below meth c D A nL cells slots Q ws pc (b0 :: b99 :: t) (.int x :: st) :=
  fun H locs la hP hD hS hl => lv_istore_n M.1 M.2.1 hdg (i := 1) rfl (x_lh_lv hl) (by have := hl.2.1; simp only [List.length_cons] at this; omega) rfl (fun la2 h2 => kk H locs la2 hP hD hS (x_lh_st (i := 1) hl rfl (Or.inl (by decide)) h2))
theorem x_aload1 (M : CallFix p m c cc nL s args Ts own) {b0 : Option Value} {t : List (Option Value)} {x : Nat} (hdg : decode cc pc = .ok (.aload_n 1, 1)) 
    (kk : x_X p l e R s m args below meth c D A nL cells slots Q ws (pc + 1) (b0 :: some (.ref x) :: t) (.ref x :: st)) : x_X p l e R s m args below meth c D A nL cells slots Q ws pc (b0 :: some (.ref x) :: t) st :=
  fun H locs la hP hD hS hl => lv_aload_n M.1 M.2.1 hdg (i := 1) rfl (x_lh_at hl rfl) (kk H locs la hP hD hS hl)
theorem x_astore1 (M : CallFix p m c cc nL s args Ts own) {b0 : Option Value} {b99 : Option Value} {t : List (Option Value)} {x : Nat} (hdg : decode cc pc = .ok (.astore_n 1, 1)) 
    (kk : x_X p l e R s m args below meth c D A nL cells slots Q ws (pc + 1) (b0 :: some (.ref x) :: t) st) : x_X p l e R s m args below meth c D A nL cells slots Q ws pc (b0 :: b99 :: t) (.ref x :: st) :=
  fun H locs la hP hD hS hl => lv_astore_n M.1 M.2.1 hdg (i := 1) rfl (x_lh_lv hl) (by have := hl.2.1; simp only [List.length_cons] at this; omega) rfl (fun la2 h2 => kk H locs la2 hP hD hS (x_lh_st (i := 1) hl rfl (Or.inl (by decide)) h2))
theorem x_iinc1 (M : CallFix p m c cc nL s args Ts own) {b0 : Option Value} {t : List (Option Value)} {x v : Int32} {n : Int} (hdg : decode cc pc = .ok (.iinc 1 n, 3)) (hv : x + Int32.ofInt n = v)
    (kk : x_X p l e R s m args below meth c D A nL cells slots Q ws (pc + 3) (b0 :: some (.int v) :: t) st) : x_X p l e R s m args below meth c D A nL cells slots Q ws pc (b0 :: some (.int x) :: t) st :=
  fun H locs la hP hD hS hl => by
    obtain ⟨k, hk⟩ := List.getElem?_of_mem (x_lv_mem (ls := (b0 :: some (.int x) :: t)) (j := 1) (w := .int x) |>.mpr rfl)
    exact lv_iinc M.1 M.2.1 hdg (x_lh_lv hl) hk hv (by have := hl.2.1; simp only [List.length_cons] at this; omega) rfl (fun la2 h2 => kk H locs la2 hP hD hS (x_lh_st (i := 1) hl rfl (Or.inl (by decide)) h2))
theorem x_iload2 (M : CallFix p m c cc nL s args Ts own) {b0 b1 : Option Value} {t : List (Option Value)} {x : Int32} (hdg : decode cc pc = .ok (.iload_n 2, 1)) 
    (kk : x_X p l e R s m args below meth c D A nL cells slots Q ws (pc + 1) (b0 :: b1 :: some (.int x) :: t) (.int x :: st)) : x_X p l e R s m args below meth c D A nL cells slots Q ws pc (b0 :: b1 :: some (.int x) :: t) st :=
  fun H locs la hP hD hS hl => lv_iload_n M.1 M.2.1 hdg (i := 2) rfl (x_lh_at hl rfl) (kk H locs la hP hD hS hl)
theorem x_istore2 (M : CallFix p m c cc nL s args Ts own) {b0 b1 : Option Value} {b99 : Option Value} {t : List (Option Value)} {x : Int32} (hdg : decode cc pc = .ok (.istore_n 2, 1)) 
    (kk : x_X p l e R s m args below meth c D A nL cells slots Q ws (pc + 1) (b0 :: b1 :: some (.int x) :: t) st) : x_X p l e R s m args below meth c D A nL cells slots Q ws pc (b0 :: b1 :: b99 :: t) (.int x :: st) :=
  fun H locs la hP hD hS hl => lv_istore_n M.1 M.2.1 hdg (i := 2) rfl (x_lh_lv hl) (by have := hl.2.1; simp only [List.length_cons] at this; omega) rfl (fun la2 h2 => kk H locs la2 hP hD hS (x_lh_st (i := 2) hl rfl (Or.inl (by decide)) h2))
theorem x_aload2 (M : CallFix p m c cc nL s args Ts own) {b0 b1 : Option Value} {t : List (Option Value)} {x : Nat} (hdg : decode cc pc = .ok (.aload_n 2, 1)) 
    (kk : x_X p l e R s m args below meth c D A nL cells slots Q ws (pc + 1) (b0 :: b1 :: some (.ref x) :: t) (.ref x :: st)) : x_X p l e R s m args below meth c D A nL cells slots Q ws pc (b0 :: b1 :: some (.ref x) :: t) st :=
  fun H locs la hP hD hS hl => lv_aload_n M.1 M.2.1 hdg (i := 2) rfl (x_lh_at hl rfl) (kk H locs la hP hD hS hl)
theorem x_astore2 (M : CallFix p m c cc nL s args Ts own) {b0 b1 : Option Value} {b99 : Option Value} {t : List (Option Value)} {x : Nat} (hdg : decode cc pc = .ok (.astore_n 2, 1)) 
    (kk : x_X p l e R s m args below meth c D A nL cells slots Q ws (pc + 1) (b0 :: b1 :: some (.ref x) :: t) st) : x_X p l e R s m args below meth c D A nL cells slots Q ws pc (b0 :: b1 :: b99 :: t) (.ref x :: st) :=
  fun H locs la hP hD hS hl => lv_astore_n M.1 M.2.1 hdg (i := 2) rfl (x_lh_lv hl) (by have := hl.2.1; simp only [List.length_cons] at this; omega) rfl (fun la2 h2 => kk H locs la2 hP hD hS (x_lh_st (i := 2) hl rfl (Or.inl (by decide)) h2))
theorem x_iinc2 (M : CallFix p m c cc nL s args Ts own) {b0 b1 : Option Value} {t : List (Option Value)} {x v : Int32} {n : Int} (hdg : decode cc pc = .ok (.iinc 2 n, 3)) (hv : x + Int32.ofInt n = v)
    (kk : x_X p l e R s m args below meth c D A nL cells slots Q ws (pc + 3) (b0 :: b1 :: some (.int v) :: t) st) : x_X p l e R s m args below meth c D A nL cells slots Q ws pc (b0 :: b1 :: some (.int x) :: t) st :=
  fun H locs la hP hD hS hl => by
    obtain ⟨k, hk⟩ := List.getElem?_of_mem (x_lv_mem (ls := (b0 :: b1 :: some (.int x) :: t)) (j := 2) (w := .int x) |>.mpr rfl)
    exact lv_iinc M.1 M.2.1 hdg (x_lh_lv hl) hk hv (by have := hl.2.1; simp only [List.length_cons] at this; omega) rfl (fun la2 h2 => kk H locs la2 hP hD hS (x_lh_st (i := 2) hl rfl (Or.inl (by decide)) h2))
theorem x_iload3 (M : CallFix p m c cc nL s args Ts own) {b0 b1 b2 : Option Value} {t : List (Option Value)} {x : Int32} (hdg : decode cc pc = .ok (.iload_n 3, 1)) 
    (kk : x_X p l e R s m args below meth c D A nL cells slots Q ws (pc + 1) (b0 :: b1 :: b2 :: some (.int x) :: t) (.int x :: st)) : x_X p l e R s m args below meth c D A nL cells slots Q ws pc (b0 :: b1 :: b2 :: some (.int x) :: t) st :=
  fun H locs la hP hD hS hl => lv_iload_n M.1 M.2.1 hdg (i := 3) rfl (x_lh_at hl rfl) (kk H locs la hP hD hS hl)
theorem x_istore3 (M : CallFix p m c cc nL s args Ts own) {b0 b1 b2 : Option Value} {b99 : Option Value} {t : List (Option Value)} {x : Int32} (hdg : decode cc pc = .ok (.istore_n 3, 1)) 
    (kk : x_X p l e R s m args below meth c D A nL cells slots Q ws (pc + 1) (b0 :: b1 :: b2 :: some (.int x) :: t) st) : x_X p l e R s m args below meth c D A nL cells slots Q ws pc (b0 :: b1 :: b2 :: b99 :: t) (.int x :: st) :=
  fun H locs la hP hD hS hl => lv_istore_n M.1 M.2.1 hdg (i := 3) rfl (x_lh_lv hl) (by have := hl.2.1; simp only [List.length_cons] at this; omega) rfl (fun la2 h2 => kk H locs la2 hP hD hS (x_lh_st (i := 3) hl rfl (Or.inl (by decide)) h2))
theorem x_aload3 (M : CallFix p m c cc nL s args Ts own) {b0 b1 b2 : Option Value} {t : List (Option Value)} {x : Nat} (hdg : decode cc pc = .ok (.aload_n 3, 1)) 
    (kk : x_X p l e R s m args below meth c D A nL cells slots Q ws (pc + 1) (b0 :: b1 :: b2 :: some (.ref x) :: t) (.ref x :: st)) : x_X p l e R s m args below meth c D A nL cells slots Q ws pc (b0 :: b1 :: b2 :: some (.ref x) :: t) st :=
  fun H locs la hP hD hS hl => lv_aload_n M.1 M.2.1 hdg (i := 3) rfl (x_lh_at hl rfl) (kk H locs la hP hD hS hl)
theorem x_astore3 (M : CallFix p m c cc nL s args Ts own) {b0 b1 b2 : Option Value} {b99 : Option Value} {t : List (Option Value)} {x : Nat} (hdg : decode cc pc = .ok (.astore_n 3, 1)) 
    (kk : x_X p l e R s m args below meth c D A nL cells slots Q ws (pc + 1) (b0 :: b1 :: b2 :: some (.ref x) :: t) st) : x_X p l e R s m args below meth c D A nL cells slots Q ws pc (b0 :: b1 :: b2 :: b99 :: t) (.ref x :: st) :=
  fun H locs la hP hD hS hl => lv_astore_n M.1 M.2.1 hdg (i := 3) rfl (x_lh_lv hl) (by have := hl.2.1; simp only [List.length_cons] at this; omega) rfl (fun la2 h2 => kk H locs la2 hP hD hS (x_lh_st (i := 3) hl rfl (Or.inl (by decide)) h2))
theorem x_iinc3 (M : CallFix p m c cc nL s args Ts own) {b0 b1 b2 : Option Value} {t : List (Option Value)} {x v : Int32} {n : Int} (hdg : decode cc pc = .ok (.iinc 3 n, 3)) (hv : x + Int32.ofInt n = v)
    (kk : x_X p l e R s m args below meth c D A nL cells slots Q ws (pc + 3) (b0 :: b1 :: b2 :: some (.int v) :: t) st) : x_X p l e R s m args below meth c D A nL cells slots Q ws pc (b0 :: b1 :: b2 :: some (.int x) :: t) st :=
  fun H locs la hP hD hS hl => by
    obtain ⟨k, hk⟩ := List.getElem?_of_mem (x_lv_mem (ls := (b0 :: b1 :: b2 :: some (.int x) :: t)) (j := 3) (w := .int x) |>.mpr rfl)
    exact lv_iinc M.1 M.2.1 hdg (x_lh_lv hl) hk hv (by have := hl.2.1; simp only [List.length_cons] at this; omega) rfl (fun la2 h2 => kk H locs la2 hP hD hS (x_lh_st (i := 3) hl rfl (Or.inl (by decide)) h2))
theorem x_iload4 (M : CallFix p m c cc nL s args Ts own) {b0 b1 b2 b3 : Option Value} {t : List (Option Value)} {x : Int32} (hdg : decode cc pc = .ok (.iload 4, 2)) 
    (kk : x_X p l e R s m args below meth c D A nL cells slots Q ws (pc + 2) (b0 :: b1 :: b2 :: b3 :: some (.int x) :: t) (.int x :: st)) : x_X p l e R s m args below meth c D A nL cells slots Q ws pc (b0 :: b1 :: b2 :: b3 :: some (.int x) :: t) st :=
  fun H locs la hP hD hS hl => lv_iload M.1 M.2.1 hdg (x_lh_at hl rfl) (kk H locs la hP hD hS hl)
theorem x_istore4 (M : CallFix p m c cc nL s args Ts own) {b0 b1 b2 b3 : Option Value} {b99 : Option Value} {t : List (Option Value)} {x : Int32} (hdg : decode cc pc = .ok (.istore 4, 2)) 
    (kk : x_X p l e R s m args below meth c D A nL cells slots Q ws (pc + 2) (b0 :: b1 :: b2 :: b3 :: some (.int x) :: t) st) : x_X p l e R s m args below meth c D A nL cells slots Q ws pc (b0 :: b1 :: b2 :: b3 :: b99 :: t) (.int x :: st) :=
  fun H locs la hP hD hS hl => lv_istore M.1 M.2.1 hdg (x_lh_lv hl) (by have := hl.2.1; simp only [List.length_cons] at this; omega) rfl (fun la2 h2 => kk H locs la2 hP hD hS (x_lh_st (i := 4) hl rfl (Or.inl (by decide)) h2))
theorem x_aload4 (M : CallFix p m c cc nL s args Ts own) {b0 b1 b2 b3 : Option Value} {t : List (Option Value)} {x : Nat} (hdg : decode cc pc = .ok (.aload 4, 2)) 
    (kk : x_X p l e R s m args below meth c D A nL cells slots Q ws (pc + 2) (b0 :: b1 :: b2 :: b3 :: some (.ref x) :: t) (.ref x :: st)) : x_X p l e R s m args below meth c D A nL cells slots Q ws pc (b0 :: b1 :: b2 :: b3 :: some (.ref x) :: t) st :=
  fun H locs la hP hD hS hl => lv_aload M.1 M.2.1 hdg (x_lh_at hl rfl) (kk H locs la hP hD hS hl)
theorem x_astore4 (M : CallFix p m c cc nL s args Ts own) {b0 b1 b2 b3 : Option Value} {b99 : Option Value} {t : List (Option Value)} {x : Nat} (hdg : decode cc pc = .ok (.astore 4, 2)) 
    (kk : x_X p l e R s m args below meth c D A nL cells slots Q ws (pc + 2) (b0 :: b1 :: b2 :: b3 :: some (.ref x) :: t) st) : x_X p l e R s m args below meth c D A nL cells slots Q ws pc (b0 :: b1 :: b2 :: b3 :: b99 :: t) (.ref x :: st) :=
  fun H locs la hP hD hS hl => lv_astore M.1 M.2.1 hdg (x_lh_lv hl) (by have := hl.2.1; simp only [List.length_cons] at this; omega) rfl (fun la2 h2 => kk H locs la2 hP hD hS (x_lh_st (i := 4) hl rfl (Or.inl (by decide)) h2))
theorem x_iinc4 (M : CallFix p m c cc nL s args Ts own) {b0 b1 b2 b3 : Option Value} {t : List (Option Value)} {x v : Int32} {n : Int} (hdg : decode cc pc = .ok (.iinc 4 n, 3)) (hv : x + Int32.ofInt n = v)
    (kk : x_X p l e R s m args below meth c D A nL cells slots Q ws (pc + 3) (b0 :: b1 :: b2 :: b3 :: some (.int v) :: t) st) : x_X p l e R s m args below meth c D A nL cells slots Q ws pc (b0 :: b1 :: b2 :: b3 :: some (.int x) :: t) st :=
  fun H locs la hP hD hS hl => by
    obtain ⟨k, hk⟩ := List.getElem?_of_mem (x_lv_mem (ls := (b0 :: b1 :: b2 :: b3 :: some (.int x) :: t)) (j := 4) (w := .int x) |>.mpr rfl)
    exact lv_iinc M.1 M.2.1 hdg (x_lh_lv hl) hk hv (by have := hl.2.1; simp only [List.length_cons] at this; omega) rfl (fun la2 h2 => kk H locs la2 hP hD hS (x_lh_st (i := 4) hl rfl (Or.inl (by decide)) h2))
theorem x_iload5 (M : CallFix p m c cc nL s args Ts own) {b0 b1 b2 b3 b4 : Option Value} {t : List (Option Value)} {x : Int32} (hdg : decode cc pc = .ok (.iload 5, 2)) 
    (kk : x_X p l e R s m args below meth c D A nL cells slots Q ws (pc + 2) (b0 :: b1 :: b2 :: b3 :: b4 :: some (.int x) :: t) (.int x :: st)) : x_X p l e R s m args below meth c D A nL cells slots Q ws pc (b0 :: b1 :: b2 :: b3 :: b4 :: some (.int x) :: t) st :=
  fun H locs la hP hD hS hl => lv_iload M.1 M.2.1 hdg (x_lh_at hl rfl) (kk H locs la hP hD hS hl)
theorem x_istore5 (M : CallFix p m c cc nL s args Ts own) {b0 b1 b2 b3 b4 : Option Value} {b99 : Option Value} {t : List (Option Value)} {x : Int32} (hdg : decode cc pc = .ok (.istore 5, 2)) 
    (kk : x_X p l e R s m args below meth c D A nL cells slots Q ws (pc + 2) (b0 :: b1 :: b2 :: b3 :: b4 :: some (.int x) :: t) st) : x_X p l e R s m args below meth c D A nL cells slots Q ws pc (b0 :: b1 :: b2 :: b3 :: b4 :: b99 :: t) (.int x :: st) :=
  fun H locs la hP hD hS hl => lv_istore M.1 M.2.1 hdg (x_lh_lv hl) (by have := hl.2.1; simp only [List.length_cons] at this; omega) rfl (fun la2 h2 => kk H locs la2 hP hD hS (x_lh_st (i := 5) hl rfl (Or.inl (by decide)) h2))
theorem x_aload5 (M : CallFix p m c cc nL s args Ts own) {b0 b1 b2 b3 b4 : Option Value} {t : List (Option Value)} {x : Nat} (hdg : decode cc pc = .ok (.aload 5, 2)) 
    (kk : x_X p l e R s m args below meth c D A nL cells slots Q ws (pc + 2) (b0 :: b1 :: b2 :: b3 :: b4 :: some (.ref x) :: t) (.ref x :: st)) : x_X p l e R s m args below meth c D A nL cells slots Q ws pc (b0 :: b1 :: b2 :: b3 :: b4 :: some (.ref x) :: t) st :=
  fun H locs la hP hD hS hl => lv_aload M.1 M.2.1 hdg (x_lh_at hl rfl) (kk H locs la hP hD hS hl)
theorem x_astore5 (M : CallFix p m c cc nL s args Ts own) {b0 b1 b2 b3 b4 : Option Value} {b99 : Option Value} {t : List (Option Value)} {x : Nat} (hdg : decode cc pc = .ok (.astore 5, 2)) 
    (kk : x_X p l e R s m args below meth c D A nL cells slots Q ws (pc + 2) (b0 :: b1 :: b2 :: b3 :: b4 :: some (.ref x) :: t) st) : x_X p l e R s m args below meth c D A nL cells slots Q ws pc (b0 :: b1 :: b2 :: b3 :: b4 :: b99 :: t) (.ref x :: st) :=
  fun H locs la hP hD hS hl => lv_astore M.1 M.2.1 hdg (x_lh_lv hl) (by have := hl.2.1; simp only [List.length_cons] at this; omega) rfl (fun la2 h2 => kk H locs la2 hP hD hS (x_lh_st (i := 5) hl rfl (Or.inl (by decide)) h2))
theorem x_iinc5 (M : CallFix p m c cc nL s args Ts own) {b0 b1 b2 b3 b4 : Option Value} {t : List (Option Value)} {x v : Int32} {n : Int} (hdg : decode cc pc = .ok (.iinc 5 n, 3)) (hv : x + Int32.ofInt n = v)
    (kk : x_X p l e R s m args below meth c D A nL cells slots Q ws (pc + 3) (b0 :: b1 :: b2 :: b3 :: b4 :: some (.int v) :: t) st) : x_X p l e R s m args below meth c D A nL cells slots Q ws pc (b0 :: b1 :: b2 :: b3 :: b4 :: some (.int x) :: t) st :=
  fun H locs la hP hD hS hl => by
    obtain ⟨k, hk⟩ := List.getElem?_of_mem (x_lv_mem (ls := (b0 :: b1 :: b2 :: b3 :: b4 :: some (.int x) :: t)) (j := 5) (w := .int x) |>.mpr rfl)
    exact lv_iinc M.1 M.2.1 hdg (x_lh_lv hl) hk hv (by have := hl.2.1; simp only [List.length_cons] at this; omega) rfl (fun la2 h2 => kk H locs la2 hP hD hS (x_lh_st (i := 5) hl rfl (Or.inl (by decide)) h2))
theorem x_iload6 (M : CallFix p m c cc nL s args Ts own) {b0 b1 b2 b3 b4 b5 : Option Value} {t : List (Option Value)} {x : Int32} (hdg : decode cc pc = .ok (.iload 6, 2)) 
    (kk : x_X p l e R s m args below meth c D A nL cells slots Q ws (pc + 2) (b0 :: b1 :: b2 :: b3 :: b4 :: b5 :: some (.int x) :: t) (.int x :: st)) : x_X p l e R s m args below meth c D A nL cells slots Q ws pc (b0 :: b1 :: b2 :: b3 :: b4 :: b5 :: some (.int x) :: t) st :=
  fun H locs la hP hD hS hl => lv_iload M.1 M.2.1 hdg (x_lh_at hl rfl) (kk H locs la hP hD hS hl)
theorem x_istore6 (M : CallFix p m c cc nL s args Ts own) {b0 b1 b2 b3 b4 b5 : Option Value} {b99 : Option Value} {t : List (Option Value)} {x : Int32} (hdg : decode cc pc = .ok (.istore 6, 2)) 
    (kk : x_X p l e R s m args below meth c D A nL cells slots Q ws (pc + 2) (b0 :: b1 :: b2 :: b3 :: b4 :: b5 :: some (.int x) :: t) st) : x_X p l e R s m args below meth c D A nL cells slots Q ws pc (b0 :: b1 :: b2 :: b3 :: b4 :: b5 :: b99 :: t) (.int x :: st) :=
  fun H locs la hP hD hS hl => lv_istore M.1 M.2.1 hdg (x_lh_lv hl) (by have := hl.2.1; simp only [List.length_cons] at this; omega) rfl (fun la2 h2 => kk H locs la2 hP hD hS (x_lh_st (i := 6) hl rfl (Or.inl (by decide)) h2))
theorem x_aload6 (M : CallFix p m c cc nL s args Ts own) {b0 b1 b2 b3 b4 b5 : Option Value} {t : List (Option Value)} {x : Nat} (hdg : decode cc pc = .ok (.aload 6, 2)) 
    (kk : x_X p l e R s m args below meth c D A nL cells slots Q ws (pc + 2) (b0 :: b1 :: b2 :: b3 :: b4 :: b5 :: some (.ref x) :: t) (.ref x :: st)) : x_X p l e R s m args below meth c D A nL cells slots Q ws pc (b0 :: b1 :: b2 :: b3 :: b4 :: b5 :: some (.ref x) :: t) st :=
  fun H locs la hP hD hS hl => lv_aload M.1 M.2.1 hdg (x_lh_at hl rfl) (kk H locs la hP hD hS hl)
theorem x_astore6 (M : CallFix p m c cc nL s args Ts own) {b0 b1 b2 b3 b4 b5 : Option Value} {b99 : Option Value} {t : List (Option Value)} {x : Nat} (hdg : decode cc pc = .ok (.astore 6, 2)) 
    (kk : x_X p l e R s m args below meth c D A nL cells slots Q ws (pc + 2) (b0 :: b1 :: b2 :: b3 :: b4 :: b5 :: some (.ref x) :: t) st) : x_X p l e R s m args below meth c D A nL cells slots Q ws pc (b0 :: b1 :: b2 :: b3 :: b4 :: b5 :: b99 :: t) (.ref x :: st) :=
  fun H locs la hP hD hS hl => lv_astore M.1 M.2.1 hdg (x_lh_lv hl) (by have := hl.2.1; simp only [List.length_cons] at this; omega) rfl (fun la2 h2 => kk H locs la2 hP hD hS (x_lh_st (i := 6) hl rfl (Or.inl (by decide)) h2))
theorem x_iinc6 (M : CallFix p m c cc nL s args Ts own) {b0 b1 b2 b3 b4 b5 : Option Value} {t : List (Option Value)} {x v : Int32} {n : Int} (hdg : decode cc pc = .ok (.iinc 6 n, 3)) (hv : x + Int32.ofInt n = v)
    (kk : x_X p l e R s m args below meth c D A nL cells slots Q ws (pc + 3) (b0 :: b1 :: b2 :: b3 :: b4 :: b5 :: some (.int v) :: t) st) : x_X p l e R s m args below meth c D A nL cells slots Q ws pc (b0 :: b1 :: b2 :: b3 :: b4 :: b5 :: some (.int x) :: t) st :=
  fun H locs la hP hD hS hl => by
    obtain ⟨k, hk⟩ := List.getElem?_of_mem (x_lv_mem (ls := (b0 :: b1 :: b2 :: b3 :: b4 :: b5 :: some (.int x) :: t)) (j := 6) (w := .int x) |>.mpr rfl)
    exact lv_iinc M.1 M.2.1 hdg (x_lh_lv hl) hk hv (by have := hl.2.1; simp only [List.length_cons] at this; omega) rfl (fun la2 h2 => kk H locs la2 hP hD hS (x_lh_st (i := 6) hl rfl (Or.inl (by decide)) h2))
theorem x_iload7 (M : CallFix p m c cc nL s args Ts own) {b0 b1 b2 b3 b4 b5 b6 : Option Value} {t : List (Option Value)} {x : Int32} (hdg : decode cc pc = .ok (.iload 7, 2)) 
    (kk : x_X p l e R s m args below meth c D A nL cells slots Q ws (pc + 2) (b0 :: b1 :: b2 :: b3 :: b4 :: b5 :: b6 :: some (.int x) :: t) (.int x :: st)) : x_X p l e R s m args below meth c D A nL cells slots Q ws pc (b0 :: b1 :: b2 :: b3 :: b4 :: b5 :: b6 :: some (.int x) :: t) st :=
  fun H locs la hP hD hS hl => lv_iload M.1 M.2.1 hdg (x_lh_at hl rfl) (kk H locs la hP hD hS hl)
theorem x_istore7 (M : CallFix p m c cc nL s args Ts own) {b0 b1 b2 b3 b4 b5 b6 : Option Value} {b99 : Option Value} {t : List (Option Value)} {x : Int32} (hdg : decode cc pc = .ok (.istore 7, 2)) 
    (kk : x_X p l e R s m args below meth c D A nL cells slots Q ws (pc + 2) (b0 :: b1 :: b2 :: b3 :: b4 :: b5 :: b6 :: some (.int x) :: t) st) : x_X p l e R s m args below meth c D A nL cells slots Q ws pc (b0 :: b1 :: b2 :: b3 :: b4 :: b5 :: b6 :: b99 :: t) (.int x :: st) :=
  fun H locs la hP hD hS hl => lv_istore M.1 M.2.1 hdg (x_lh_lv hl) (by have := hl.2.1; simp only [List.length_cons] at this; omega) rfl (fun la2 h2 => kk H locs la2 hP hD hS (x_lh_st (i := 7) hl rfl (Or.inl (by decide)) h2))
theorem x_aload7 (M : CallFix p m c cc nL s args Ts own) {b0 b1 b2 b3 b4 b5 b6 : Option Value} {t : List (Option Value)} {x : Nat} (hdg : decode cc pc = .ok (.aload 7, 2)) 
    (kk : x_X p l e R s m args below meth c D A nL cells slots Q ws (pc + 2) (b0 :: b1 :: b2 :: b3 :: b4 :: b5 :: b6 :: some (.ref x) :: t) (.ref x :: st)) : x_X p l e R s m args below meth c D A nL cells slots Q ws pc (b0 :: b1 :: b2 :: b3 :: b4 :: b5 :: b6 :: some (.ref x) :: t) st :=
  fun H locs la hP hD hS hl => lv_aload M.1 M.2.1 hdg (x_lh_at hl rfl) (kk H locs la hP hD hS hl)
theorem x_astore7 (M : CallFix p m c cc nL s args Ts own) {b0 b1 b2 b3 b4 b5 b6 : Option Value} {b99 : Option Value} {t : List (Option Value)} {x : Nat} (hdg : decode cc pc = .ok (.astore 7, 2)) 
    (kk : x_X p l e R s m args below meth c D A nL cells slots Q ws (pc + 2) (b0 :: b1 :: b2 :: b3 :: b4 :: b5 :: b6 :: some (.ref x) :: t) st) : x_X p l e R s m args below meth c D A nL cells slots Q ws pc (b0 :: b1 :: b2 :: b3 :: b4 :: b5 :: b6 :: b99 :: t) (.ref x :: st) :=
  fun H locs la hP hD hS hl => lv_astore M.1 M.2.1 hdg (x_lh_lv hl) (by have := hl.2.1; simp only [List.length_cons] at this; omega) rfl (fun la2 h2 => kk H locs la2 hP hD hS (x_lh_st (i := 7) hl rfl (Or.inl (by decide)) h2))
theorem x_iinc7 (M : CallFix p m c cc nL s args Ts own) {b0 b1 b2 b3 b4 b5 b6 : Option Value} {t : List (Option Value)} {x v : Int32} {n : Int} (hdg : decode cc pc = .ok (.iinc 7 n, 3)) (hv : x + Int32.ofInt n = v)
    (kk : x_X p l e R s m args below meth c D A nL cells slots Q ws (pc + 3) (b0 :: b1 :: b2 :: b3 :: b4 :: b5 :: b6 :: some (.int v) :: t) st) : x_X p l e R s m args below meth c D A nL cells slots Q ws pc (b0 :: b1 :: b2 :: b3 :: b4 :: b5 :: b6 :: some (.int x) :: t) st :=
  fun H locs la hP hD hS hl => by
    obtain ⟨k, hk⟩ := List.getElem?_of_mem (x_lv_mem (ls := (b0 :: b1 :: b2 :: b3 :: b4 :: b5 :: b6 :: some (.int x) :: t)) (j := 7) (w := .int x) |>.mpr rfl)
    exact lv_iinc M.1 M.2.1 hdg (x_lh_lv hl) hk hv (by have := hl.2.1; simp only [List.length_cons] at this; omega) rfl (fun la2 h2 => kk H locs la2 hP hD hS (x_lh_st (i := 7) hl rfl (Or.inl (by decide)) h2))
theorem x_iload8 (M : CallFix p m c cc nL s args Ts own) {b0 b1 b2 b3 b4 b5 b6 b7 : Option Value} {t : List (Option Value)} {x : Int32} (hdg : decode cc pc = .ok (.iload 8, 2)) 
    (kk : x_X p l e R s m args below meth c D A nL cells slots Q ws (pc + 2) (b0 :: b1 :: b2 :: b3 :: b4 :: b5 :: b6 :: b7 :: some (.int x) :: t) (.int x :: st)) : x_X p l e R s m args below meth c D A nL cells slots Q ws pc (b0 :: b1 :: b2 :: b3 :: b4 :: b5 :: b6 :: b7 :: some (.int x) :: t) st :=
  fun H locs la hP hD hS hl => lv_iload M.1 M.2.1 hdg (x_lh_at hl rfl) (kk H locs la hP hD hS hl)
theorem x_istore8 (M : CallFix p m c cc nL s args Ts own) {b0 b1 b2 b3 b4 b5 b6 b7 : Option Value} {b99 : Option Value} {t : List (Option Value)} {x : Int32} (hdg : decode cc pc = .ok (.istore 8, 2)) 
    (kk : x_X p l e R s m args below meth c D A nL cells slots Q ws (pc + 2) (b0 :: b1 :: b2 :: b3 :: b4 :: b5 :: b6 :: b7 :: some (.int x) :: t) st) : x_X p l e R s m args below meth c D A nL cells slots Q ws pc (b0 :: b1 :: b2 :: b3 :: b4 :: b5 :: b6 :: b7 :: b99 :: t) (.int x :: st) :=
  fun H locs la hP hD hS hl => lv_istore M.1 M.2.1 hdg (x_lh_lv hl) (by have := hl.2.1; simp only [List.length_cons] at this; omega) rfl (fun la2 h2 => kk H locs la2 hP hD hS (x_lh_st (i := 8) hl rfl (Or.inl (by decide)) h2))
theorem x_aload8 (M : CallFix p m c cc nL s args Ts own) {b0 b1 b2 b3 b4 b5 b6 b7 : Option Value} {t : List (Option Value)} {x : Nat} (hdg : decode cc pc = .ok (.aload 8, 2)) 
    (kk : x_X p l e R s m args below meth c D A nL cells slots Q ws (pc + 2) (b0 :: b1 :: b2 :: b3 :: b4 :: b5 :: b6 :: b7 :: some (.ref x) :: t) (.ref x :: st)) : x_X p l e R s m args below meth c D A nL cells slots Q ws pc (b0 :: b1 :: b2 :: b3 :: b4 :: b5 :: b6 :: b7 :: some (.ref x) :: t) st :=
  fun H locs la hP hD hS hl => lv_aload M.1 M.2.1 hdg (x_lh_at hl rfl) (kk H locs la hP hD hS hl)
theorem x_astore8 (M : CallFix p m c cc nL s args Ts own) {b0 b1 b2 b3 b4 b5 b6 b7 : Option Value} {b99 : Option Value} {t : List (Option Value)} {x : Nat} (hdg : decode cc pc = .ok (.astore 8, 2)) 
    (kk : x_X p l e R s m args below meth c D A nL cells slots Q ws (pc + 2) (b0 :: b1 :: b2 :: b3 :: b4 :: b5 :: b6 :: b7 :: some (.ref x) :: t) st) : x_X p l e R s m args below meth c D A nL cells slots Q ws pc (b0 :: b1 :: b2 :: b3 :: b4 :: b5 :: b6 :: b7 :: b99 :: t) (.ref x :: st) :=
  fun H locs la hP hD hS hl => lv_astore M.1 M.2.1 hdg (x_lh_lv hl) (by have := hl.2.1; simp only [List.length_cons] at this; omega) rfl (fun la2 h2 => kk H locs la2 hP hD hS (x_lh_st (i := 8) hl rfl (Or.inl (by decide)) h2))
theorem x_iinc8 (M : CallFix p m c cc nL s args Ts own) {b0 b1 b2 b3 b4 b5 b6 b7 : Option Value} {t : List (Option Value)} {x v : Int32} {n : Int} (hdg : decode cc pc = .ok (.iinc 8 n, 3)) (hv : x + Int32.ofInt n = v)
    (kk : x_X p l e R s m args below meth c D A nL cells slots Q ws (pc + 3) (b0 :: b1 :: b2 :: b3 :: b4 :: b5 :: b6 :: b7 :: some (.int v) :: t) st) : x_X p l e R s m args below meth c D A nL cells slots Q ws pc (b0 :: b1 :: b2 :: b3 :: b4 :: b5 :: b6 :: b7 :: some (.int x) :: t) st :=
  fun H locs la hP hD hS hl => by
    obtain ⟨k, hk⟩ := List.getElem?_of_mem (x_lv_mem (ls := (b0 :: b1 :: b2 :: b3 :: b4 :: b5 :: b6 :: b7 :: some (.int x) :: t)) (j := 8) (w := .int x) |>.mpr rfl)
    exact lv_iinc M.1 M.2.1 hdg (x_lh_lv hl) hk hv (by have := hl.2.1; simp only [List.length_cons] at this; omega) rfl (fun la2 h2 => kk H locs la2 hP hD hS (x_lh_st (i := 8) hl rfl (Or.inl (by decide)) h2))
theorem x_iload9 (M : CallFix p m c cc nL s args Ts own) {b0 b1 b2 b3 b4 b5 b6 b7 b8 : Option Value} {t : List (Option Value)} {x : Int32} (hdg : decode cc pc = .ok (.iload 9, 2)) 
    (kk : x_X p l e R s m args below meth c D A nL cells slots Q ws (pc + 2) (b0 :: b1 :: b2 :: b3 :: b4 :: b5 :: b6 :: b7 :: b8 :: some (.int x) :: t) (.int x :: st)) : x_X p l e R s m args below meth c D A nL cells slots Q ws pc (b0 :: b1 :: b2 :: b3 :: b4 :: b5 :: b6 :: b7 :: b8 :: some (.int x) :: t) st :=
  fun H locs la hP hD hS hl => lv_iload M.1 M.2.1 hdg (x_lh_at hl rfl) (kk H locs la hP hD hS hl)
theorem x_istore9 (M : CallFix p m c cc nL s args Ts own) {b0 b1 b2 b3 b4 b5 b6 b7 b8 : Option Value} {b99 : Option Value} {t : List (Option Value)} {x : Int32} (hdg : decode cc pc = .ok (.istore 9, 2)) 
    (kk : x_X p l e R s m args below meth c D A nL cells slots Q ws (pc + 2) (b0 :: b1 :: b2 :: b3 :: b4 :: b5 :: b6 :: b7 :: b8 :: some (.int x) :: t) st) : x_X p l e R s m args below meth c D A nL cells slots Q ws pc (b0 :: b1 :: b2 :: b3 :: b4 :: b5 :: b6 :: b7 :: b8 :: b99 :: t) (.int x :: st) :=
  fun H locs la hP hD hS hl => lv_istore M.1 M.2.1 hdg (x_lh_lv hl) (by have := hl.2.1; simp only [List.length_cons] at this; omega) rfl (fun la2 h2 => kk H locs la2 hP hD hS (x_lh_st (i := 9) hl rfl (Or.inl (by decide)) h2))
theorem x_aload9 (M : CallFix p m c cc nL s args Ts own) {b0 b1 b2 b3 b4 b5 b6 b7 b8 : Option Value} {t : List (Option Value)} {x : Nat} (hdg : decode cc pc = .ok (.aload 9, 2)) 
    (kk : x_X p l e R s m args below meth c D A nL cells slots Q ws (pc + 2) (b0 :: b1 :: b2 :: b3 :: b4 :: b5 :: b6 :: b7 :: b8 :: some (.ref x) :: t) (.ref x :: st)) : x_X p l e R s m args below meth c D A nL cells slots Q ws pc (b0 :: b1 :: b2 :: b3 :: b4 :: b5 :: b6 :: b7 :: b8 :: some (.ref x) :: t) st :=
  fun H locs la hP hD hS hl => lv_aload M.1 M.2.1 hdg (x_lh_at hl rfl) (kk H locs la hP hD hS hl)
theorem x_astore9 (M : CallFix p m c cc nL s args Ts own) {b0 b1 b2 b3 b4 b5 b6 b7 b8 : Option Value} {b99 : Option Value} {t : List (Option Value)} {x : Nat} (hdg : decode cc pc = .ok (.astore 9, 2)) 
    (kk : x_X p l e R s m args below meth c D A nL cells slots Q ws (pc + 2) (b0 :: b1 :: b2 :: b3 :: b4 :: b5 :: b6 :: b7 :: b8 :: some (.ref x) :: t) st) : x_X p l e R s m args below meth c D A nL cells slots Q ws pc (b0 :: b1 :: b2 :: b3 :: b4 :: b5 :: b6 :: b7 :: b8 :: b99 :: t) (.ref x :: st) :=
  fun H locs la hP hD hS hl => lv_astore M.1 M.2.1 hdg (x_lh_lv hl) (by have := hl.2.1; simp only [List.length_cons] at this; omega) rfl (fun la2 h2 => kk H locs la2 hP hD hS (x_lh_st (i := 9) hl rfl (Or.inl (by decide)) h2))
theorem x_iinc9 (M : CallFix p m c cc nL s args Ts own) {b0 b1 b2 b3 b4 b5 b6 b7 b8 : Option Value} {t : List (Option Value)} {x v : Int32} {n : Int} (hdg : decode cc pc = .ok (.iinc 9 n, 3)) (hv : x + Int32.ofInt n = v)
    (kk : x_X p l e R s m args below meth c D A nL cells slots Q ws (pc + 3) (b0 :: b1 :: b2 :: b3 :: b4 :: b5 :: b6 :: b7 :: b8 :: some (.int v) :: t) st) : x_X p l e R s m args below meth c D A nL cells slots Q ws pc (b0 :: b1 :: b2 :: b3 :: b4 :: b5 :: b6 :: b7 :: b8 :: some (.int x) :: t) st :=
  fun H locs la hP hD hS hl => by
    obtain ⟨k, hk⟩ := List.getElem?_of_mem (x_lv_mem (ls := (b0 :: b1 :: b2 :: b3 :: b4 :: b5 :: b6 :: b7 :: b8 :: some (.int x) :: t)) (j := 9) (w := .int x) |>.mpr rfl)
    exact lv_iinc M.1 M.2.1 hdg (x_lh_lv hl) hk hv (by have := hl.2.1; simp only [List.length_cons] at this; omega) rfl (fun la2 h2 => kk H locs la2 hP hD hS (x_lh_st (i := 9) hl rfl (Or.inl (by decide)) h2))
theorem x_iload10 (M : CallFix p m c cc nL s args Ts own) {b0 b1 b2 b3 b4 b5 b6 b7 b8 b9 : Option Value} {t : List (Option Value)} {x : Int32} (hdg : decode cc pc = .ok (.iload 10, 2)) 
    (kk : x_X p l e R s m args below meth c D A nL cells slots Q ws (pc + 2) (b0 :: b1 :: b2 :: b3 :: b4 :: b5 :: b6 :: b7 :: b8 :: b9 :: some (.int x) :: t) (.int x :: st)) : x_X p l e R s m args below meth c D A nL cells slots Q ws pc (b0 :: b1 :: b2 :: b3 :: b4 :: b5 :: b6 :: b7 :: b8 :: b9 :: some (.int x) :: t) st :=
  fun H locs la hP hD hS hl => lv_iload M.1 M.2.1 hdg (x_lh_at hl rfl) (kk H locs la hP hD hS hl)
theorem x_istore10 (M : CallFix p m c cc nL s args Ts own) {b0 b1 b2 b3 b4 b5 b6 b7 b8 b9 : Option Value} {b99 : Option Value} {t : List (Option Value)} {x : Int32} (hdg : decode cc pc = .ok (.istore 10, 2)) 
    (kk : x_X p l e R s m args below meth c D A nL cells slots Q ws (pc + 2) (b0 :: b1 :: b2 :: b3 :: b4 :: b5 :: b6 :: b7 :: b8 :: b9 :: some (.int x) :: t) st) : x_X p l e R s m args below meth c D A nL cells slots Q ws pc (b0 :: b1 :: b2 :: b3 :: b4 :: b5 :: b6 :: b7 :: b8 :: b9 :: b99 :: t) (.int x :: st) :=
  fun H locs la hP hD hS hl => lv_istore M.1 M.2.1 hdg (x_lh_lv hl) (by have := hl.2.1; simp only [List.length_cons] at this; omega) rfl (fun la2 h2 => kk H locs la2 hP hD hS (x_lh_st (i := 10) hl rfl (Or.inl (by decide)) h2))
theorem x_aload10 (M : CallFix p m c cc nL s args Ts own) {b0 b1 b2 b3 b4 b5 b6 b7 b8 b9 : Option Value} {t : List (Option Value)} {x : Nat} (hdg : decode cc pc = .ok (.aload 10, 2)) 
    (kk : x_X p l e R s m args below meth c D A nL cells slots Q ws (pc + 2) (b0 :: b1 :: b2 :: b3 :: b4 :: b5 :: b6 :: b7 :: b8 :: b9 :: some (.ref x) :: t) (.ref x :: st)) : x_X p l e R s m args below meth c D A nL cells slots Q ws pc (b0 :: b1 :: b2 :: b3 :: b4 :: b5 :: b6 :: b7 :: b8 :: b9 :: some (.ref x) :: t) st :=
  fun H locs la hP hD hS hl => lv_aload M.1 M.2.1 hdg (x_lh_at hl rfl) (kk H locs la hP hD hS hl)
theorem x_astore10 (M : CallFix p m c cc nL s args Ts own) {b0 b1 b2 b3 b4 b5 b6 b7 b8 b9 : Option Value} {b99 : Option Value} {t : List (Option Value)} {x : Nat} (hdg : decode cc pc = .ok (.astore 10, 2)) 
    (kk : x_X p l e R s m args below meth c D A nL cells slots Q ws (pc + 2) (b0 :: b1 :: b2 :: b3 :: b4 :: b5 :: b6 :: b7 :: b8 :: b9 :: some (.ref x) :: t) st) : x_X p l e R s m args below meth c D A nL cells slots Q ws pc (b0 :: b1 :: b2 :: b3 :: b4 :: b5 :: b6 :: b7 :: b8 :: b9 :: b99 :: t) (.ref x :: st) :=
  fun H locs la hP hD hS hl => lv_astore M.1 M.2.1 hdg (x_lh_lv hl) (by have := hl.2.1; simp only [List.length_cons] at this; omega) rfl (fun la2 h2 => kk H locs la2 hP hD hS (x_lh_st (i := 10) hl rfl (Or.inl (by decide)) h2))
theorem x_iinc10 (M : CallFix p m c cc nL s args Ts own) {b0 b1 b2 b3 b4 b5 b6 b7 b8 b9 : Option Value} {t : List (Option Value)} {x v : Int32} {n : Int} (hdg : decode cc pc = .ok (.iinc 10 n, 3)) (hv : x + Int32.ofInt n = v)
    (kk : x_X p l e R s m args below meth c D A nL cells slots Q ws (pc + 3) (b0 :: b1 :: b2 :: b3 :: b4 :: b5 :: b6 :: b7 :: b8 :: b9 :: some (.int v) :: t) st) : x_X p l e R s m args below meth c D A nL cells slots Q ws pc (b0 :: b1 :: b2 :: b3 :: b4 :: b5 :: b6 :: b7 :: b8 :: b9 :: some (.int x) :: t) st :=
  fun H locs la hP hD hS hl => by
    obtain ⟨k, hk⟩ := List.getElem?_of_mem (x_lv_mem (ls := (b0 :: b1 :: b2 :: b3 :: b4 :: b5 :: b6 :: b7 :: b8 :: b9 :: some (.int x) :: t)) (j := 10) (w := .int x) |>.mpr rfl)
    exact lv_iinc M.1 M.2.1 hdg (x_lh_lv hl) hk hv (by have := hl.2.1; simp only [List.length_cons] at this; omega) rfl (fun la2 h2 => kk H locs la2 hP hD hS (x_lh_st (i := 10) hl rfl (Or.inl (by decide)) h2))
theorem x_iload11 (M : CallFix p m c cc nL s args Ts own) {b0 b1 b2 b3 b4 b5 b6 b7 b8 b9 b10 : Option Value} {t : List (Option Value)} {x : Int32} (hdg : decode cc pc = .ok (.iload 11, 2)) 
    (kk : x_X p l e R s m args below meth c D A nL cells slots Q ws (pc + 2) (b0 :: b1 :: b2 :: b3 :: b4 :: b5 :: b6 :: b7 :: b8 :: b9 :: b10 :: some (.int x) :: t) (.int x :: st)) : x_X p l e R s m args below meth c D A nL cells slots Q ws pc (b0 :: b1 :: b2 :: b3 :: b4 :: b5 :: b6 :: b7 :: b8 :: b9 :: b10 :: some (.int x) :: t) st :=
  fun H locs la hP hD hS hl => lv_iload M.1 M.2.1 hdg (x_lh_at hl rfl) (kk H locs la hP hD hS hl)
theorem x_istore11 (M : CallFix p m c cc nL s args Ts own) {b0 b1 b2 b3 b4 b5 b6 b7 b8 b9 b10 : Option Value} {b99 : Option Value} {t : List (Option Value)} {x : Int32} (hdg : decode cc pc = .ok (.istore 11, 2)) 
    (kk : x_X p l e R s m args below meth c D A nL cells slots Q ws (pc + 2) (b0 :: b1 :: b2 :: b3 :: b4 :: b5 :: b6 :: b7 :: b8 :: b9 :: b10 :: some (.int x) :: t) st) : x_X p l e R s m args below meth c D A nL cells slots Q ws pc (b0 :: b1 :: b2 :: b3 :: b4 :: b5 :: b6 :: b7 :: b8 :: b9 :: b10 :: b99 :: t) (.int x :: st) :=
  fun H locs la hP hD hS hl => lv_istore M.1 M.2.1 hdg (x_lh_lv hl) (by have := hl.2.1; simp only [List.length_cons] at this; omega) rfl (fun la2 h2 => kk H locs la2 hP hD hS (x_lh_st (i := 11) hl rfl (Or.inl (by decide)) h2))
theorem x_aload11 (M : CallFix p m c cc nL s args Ts own) {b0 b1 b2 b3 b4 b5 b6 b7 b8 b9 b10 : Option Value} {t : List (Option Value)} {x : Nat} (hdg : decode cc pc = .ok (.aload 11, 2)) 
    (kk : x_X p l e R s m args below meth c D A nL cells slots Q ws (pc + 2) (b0 :: b1 :: b2 :: b3 :: b4 :: b5 :: b6 :: b7 :: b8 :: b9 :: b10 :: some (.ref x) :: t) (.ref x :: st)) : x_X p l e R s m args below meth c D A nL cells slots Q ws pc (b0 :: b1 :: b2 :: b3 :: b4 :: b5 :: b6 :: b7 :: b8 :: b9 :: b10 :: some (.ref x) :: t) st :=
  fun H locs la hP hD hS hl => lv_aload M.1 M.2.1 hdg (x_lh_at hl rfl) (kk H locs la hP hD hS hl)
theorem x_astore11 (M : CallFix p m c cc nL s args Ts own) {b0 b1 b2 b3 b4 b5 b6 b7 b8 b9 b10 : Option Value} {b99 : Option Value} {t : List (Option Value)} {x : Nat} (hdg : decode cc pc = .ok (.astore 11, 2)) 
    (kk : x_X p l e R s m args below meth c D A nL cells slots Q ws (pc + 2) (b0 :: b1 :: b2 :: b3 :: b4 :: b5 :: b6 :: b7 :: b8 :: b9 :: b10 :: some (.ref x) :: t) st) : x_X p l e R s m args below meth c D A nL cells slots Q ws pc (b0 :: b1 :: b2 :: b3 :: b4 :: b5 :: b6 :: b7 :: b8 :: b9 :: b10 :: b99 :: t) (.ref x :: st) :=
  fun H locs la hP hD hS hl => lv_astore M.1 M.2.1 hdg (x_lh_lv hl) (by have := hl.2.1; simp only [List.length_cons] at this; omega) rfl (fun la2 h2 => kk H locs la2 hP hD hS (x_lh_st (i := 11) hl rfl (Or.inl (by decide)) h2))
theorem x_iinc11 (M : CallFix p m c cc nL s args Ts own) {b0 b1 b2 b3 b4 b5 b6 b7 b8 b9 b10 : Option Value} {t : List (Option Value)} {x v : Int32} {n : Int} (hdg : decode cc pc = .ok (.iinc 11 n, 3)) (hv : x + Int32.ofInt n = v)
    (kk : x_X p l e R s m args below meth c D A nL cells slots Q ws (pc + 3) (b0 :: b1 :: b2 :: b3 :: b4 :: b5 :: b6 :: b7 :: b8 :: b9 :: b10 :: some (.int v) :: t) st) : x_X p l e R s m args below meth c D A nL cells slots Q ws pc (b0 :: b1 :: b2 :: b3 :: b4 :: b5 :: b6 :: b7 :: b8 :: b9 :: b10 :: some (.int x) :: t) st :=
  fun H locs la hP hD hS hl => by
    obtain ⟨k, hk⟩ := List.getElem?_of_mem (x_lv_mem (ls := (b0 :: b1 :: b2 :: b3 :: b4 :: b5 :: b6 :: b7 :: b8 :: b9 :: b10 :: some (.int x) :: t)) (j := 11) (w := .int x) |>.mpr rfl)
    exact lv_iinc M.1 M.2.1 hdg (x_lh_lv hl) hk hv (by have := hl.2.1; simp only [List.length_cons] at this; omega) rfl (fun la2 h2 => kk H locs la2 hP hD hS (x_lh_st (i := 11) hl rfl (Or.inl (by decide)) h2))
theorem x_iload12 (M : CallFix p m c cc nL s args Ts own) {b0 b1 b2 b3 b4 b5 b6 b7 b8 b9 b10 b11 : Option Value} {t : List (Option Value)} {x : Int32} (hdg : decode cc pc = .ok (.iload 12, 2)) 
    (kk : x_X p l e R s m args below meth c D A nL cells slots Q ws (pc + 2) (b0 :: b1 :: b2 :: b3 :: b4 :: b5 :: b6 :: b7 :: b8 :: b9 :: b10 :: b11 :: some (.int x) :: t) (.int x :: st)) : x_X p l e R s m args below meth c D A nL cells slots Q ws pc (b0 :: b1 :: b2 :: b3 :: b4 :: b5 :: b6 :: b7 :: b8 :: b9 :: b10 :: b11 :: some (.int x) :: t) st :=
  fun H locs la hP hD hS hl => lv_iload M.1 M.2.1 hdg (x_lh_at hl rfl) (kk H locs la hP hD hS hl)
theorem x_istore12 (M : CallFix p m c cc nL s args Ts own) {b0 b1 b2 b3 b4 b5 b6 b7 b8 b9 b10 b11 : Option Value} {b99 : Option Value} {t : List (Option Value)} {x : Int32} (hb : (b11.elim 1 Value.category) = 1) (hdg : decode cc pc = .ok (.istore 12, 2)) 
    (kk : x_X p l e R s m args below meth c D A nL cells slots Q ws (pc + 2) (b0 :: b1 :: b2 :: b3 :: b4 :: b5 :: b6 :: b7 :: b8 :: b9 :: b10 :: b11 :: some (.int x) :: t) st) : x_X p l e R s m args below meth c D A nL cells slots Q ws pc (b0 :: b1 :: b2 :: b3 :: b4 :: b5 :: b6 :: b7 :: b8 :: b9 :: b10 :: b11 :: b99 :: t) (.int x :: st) :=
  fun H locs la hP hD hS hl => lv_istore M.1 M.2.1 hdg (x_lh_lv hl) (by have := hl.2.1; simp only [List.length_cons] at this; omega) rfl (fun la2 h2 => kk H locs la2 hP hD hS (x_lh_st (i := 12) hl rfl (Or.inr (x_lh_12 rfl hb)) h2))
theorem x_aload12 (M : CallFix p m c cc nL s args Ts own) {b0 b1 b2 b3 b4 b5 b6 b7 b8 b9 b10 b11 : Option Value} {t : List (Option Value)} {x : Nat} (hdg : decode cc pc = .ok (.aload 12, 2)) 
    (kk : x_X p l e R s m args below meth c D A nL cells slots Q ws (pc + 2) (b0 :: b1 :: b2 :: b3 :: b4 :: b5 :: b6 :: b7 :: b8 :: b9 :: b10 :: b11 :: some (.ref x) :: t) (.ref x :: st)) : x_X p l e R s m args below meth c D A nL cells slots Q ws pc (b0 :: b1 :: b2 :: b3 :: b4 :: b5 :: b6 :: b7 :: b8 :: b9 :: b10 :: b11 :: some (.ref x) :: t) st :=
  fun H locs la hP hD hS hl => lv_aload M.1 M.2.1 hdg (x_lh_at hl rfl) (kk H locs la hP hD hS hl)
theorem x_astore12 (M : CallFix p m c cc nL s args Ts own) {b0 b1 b2 b3 b4 b5 b6 b7 b8 b9 b10 b11 : Option Value} {b99 : Option Value} {t : List (Option Value)} {x : Nat} (hb : (b11.elim 1 Value.category) = 1) (hdg : decode cc pc = .ok (.astore 12, 2)) 
    (kk : x_X p l e R s m args below meth c D A nL cells slots Q ws (pc + 2) (b0 :: b1 :: b2 :: b3 :: b4 :: b5 :: b6 :: b7 :: b8 :: b9 :: b10 :: b11 :: some (.ref x) :: t) st) : x_X p l e R s m args below meth c D A nL cells slots Q ws pc (b0 :: b1 :: b2 :: b3 :: b4 :: b5 :: b6 :: b7 :: b8 :: b9 :: b10 :: b11 :: b99 :: t) (.ref x :: st) :=
  fun H locs la hP hD hS hl => lv_astore M.1 M.2.1 hdg (x_lh_lv hl) (by have := hl.2.1; simp only [List.length_cons] at this; omega) rfl (fun la2 h2 => kk H locs la2 hP hD hS (x_lh_st (i := 12) hl rfl (Or.inr (x_lh_12 rfl hb)) h2))
theorem x_iinc12 (M : CallFix p m c cc nL s args Ts own) {b0 b1 b2 b3 b4 b5 b6 b7 b8 b9 b10 b11 : Option Value} {t : List (Option Value)} {x v : Int32} {n : Int} (hb : (b11.elim 1 Value.category) = 1) (hdg : decode cc pc = .ok (.iinc 12 n, 3)) (hv : x + Int32.ofInt n = v)
    (kk : x_X p l e R s m args below meth c D A nL cells slots Q ws (pc + 3) (b0 :: b1 :: b2 :: b3 :: b4 :: b5 :: b6 :: b7 :: b8 :: b9 :: b10 :: b11 :: some (.int v) :: t) st) : x_X p l e R s m args below meth c D A nL cells slots Q ws pc (b0 :: b1 :: b2 :: b3 :: b4 :: b5 :: b6 :: b7 :: b8 :: b9 :: b10 :: b11 :: some (.int x) :: t) st :=
  fun H locs la hP hD hS hl => by
    obtain ⟨k, hk⟩ := List.getElem?_of_mem (x_lv_mem (ls := (b0 :: b1 :: b2 :: b3 :: b4 :: b5 :: b6 :: b7 :: b8 :: b9 :: b10 :: b11 :: some (.int x) :: t)) (j := 12) (w := .int x) |>.mpr rfl)
    exact lv_iinc M.1 M.2.1 hdg (x_lh_lv hl) hk hv (by have := hl.2.1; simp only [List.length_cons] at this; omega) rfl (fun la2 h2 => kk H locs la2 hP hD hS (x_lh_st (i := 12) hl rfl (Or.inr (x_lh_12 rfl hb)) h2))
theorem x_iload13 (M : CallFix p m c cc nL s args Ts own) {b0 b1 b2 b3 b4 b5 b6 b7 b8 b9 b10 b11 b12 : Option Value} {t : List (Option Value)} {x : Int32} (hdg : decode cc pc = .ok (.iload 13, 2)) 
    (kk : x_X p l e R s m args below meth c D A nL cells slots Q ws (pc + 2) (b0 :: b1 :: b2 :: b3 :: b4 :: b5 :: b6 :: b7 :: b8 :: b9 :: b10 :: b11 :: b12 :: some (.int x) :: t) (.int x :: st)) : x_X p l e R s m args below meth c D A nL cells slots Q ws pc (b0 :: b1 :: b2 :: b3 :: b4 :: b5 :: b6 :: b7 :: b8 :: b9 :: b10 :: b11 :: b12 :: some (.int x) :: t) st :=
  fun H locs la hP hD hS hl => lv_iload M.1 M.2.1 hdg (x_lh_at hl rfl) (kk H locs la hP hD hS hl)
theorem x_istore13 (M : CallFix p m c cc nL s args Ts own) {b0 b1 b2 b3 b4 b5 b6 b7 b8 b9 b10 b11 b12 : Option Value} {b99 : Option Value} {t : List (Option Value)} {x : Int32} (hdg : decode cc pc = .ok (.istore 13, 2)) 
    (kk : x_X p l e R s m args below meth c D A nL cells slots Q ws (pc + 2) (b0 :: b1 :: b2 :: b3 :: b4 :: b5 :: b6 :: b7 :: b8 :: b9 :: b10 :: b11 :: b12 :: some (.int x) :: t) st) : x_X p l e R s m args below meth c D A nL cells slots Q ws pc (b0 :: b1 :: b2 :: b3 :: b4 :: b5 :: b6 :: b7 :: b8 :: b9 :: b10 :: b11 :: b12 :: b99 :: t) (.int x :: st) :=
  fun H locs la hP hD hS hl => lv_istore M.1 M.2.1 hdg (x_lh_lv hl) (by have := hl.2.1; simp only [List.length_cons] at this; omega) rfl (fun la2 h2 => kk H locs la2 hP hD hS (x_lh_st (i := 13) hl rfl (Or.inl (by decide)) h2))
theorem x_aload13 (M : CallFix p m c cc nL s args Ts own) {b0 b1 b2 b3 b4 b5 b6 b7 b8 b9 b10 b11 b12 : Option Value} {t : List (Option Value)} {x : Nat} (hdg : decode cc pc = .ok (.aload 13, 2)) 
    (kk : x_X p l e R s m args below meth c D A nL cells slots Q ws (pc + 2) (b0 :: b1 :: b2 :: b3 :: b4 :: b5 :: b6 :: b7 :: b8 :: b9 :: b10 :: b11 :: b12 :: some (.ref x) :: t) (.ref x :: st)) : x_X p l e R s m args below meth c D A nL cells slots Q ws pc (b0 :: b1 :: b2 :: b3 :: b4 :: b5 :: b6 :: b7 :: b8 :: b9 :: b10 :: b11 :: b12 :: some (.ref x) :: t) st :=
  fun H locs la hP hD hS hl => lv_aload M.1 M.2.1 hdg (x_lh_at hl rfl) (kk H locs la hP hD hS hl)
theorem x_astore13 (M : CallFix p m c cc nL s args Ts own) {b0 b1 b2 b3 b4 b5 b6 b7 b8 b9 b10 b11 b12 : Option Value} {b99 : Option Value} {t : List (Option Value)} {x : Nat} (hdg : decode cc pc = .ok (.astore 13, 2)) 
    (kk : x_X p l e R s m args below meth c D A nL cells slots Q ws (pc + 2) (b0 :: b1 :: b2 :: b3 :: b4 :: b5 :: b6 :: b7 :: b8 :: b9 :: b10 :: b11 :: b12 :: some (.ref x) :: t) st) : x_X p l e R s m args below meth c D A nL cells slots Q ws pc (b0 :: b1 :: b2 :: b3 :: b4 :: b5 :: b6 :: b7 :: b8 :: b9 :: b10 :: b11 :: b12 :: b99 :: t) (.ref x :: st) :=
  fun H locs la hP hD hS hl => lv_astore M.1 M.2.1 hdg (x_lh_lv hl) (by have := hl.2.1; simp only [List.length_cons] at this; omega) rfl (fun la2 h2 => kk H locs la2 hP hD hS (x_lh_st (i := 13) hl rfl (Or.inl (by decide)) h2))
theorem x_iinc13 (M : CallFix p m c cc nL s args Ts own) {b0 b1 b2 b3 b4 b5 b6 b7 b8 b9 b10 b11 b12 : Option Value} {t : List (Option Value)} {x v : Int32} {n : Int} (hdg : decode cc pc = .ok (.iinc 13 n, 3)) (hv : x + Int32.ofInt n = v)
    (kk : x_X p l e R s m args below meth c D A nL cells slots Q ws (pc + 3) (b0 :: b1 :: b2 :: b3 :: b4 :: b5 :: b6 :: b7 :: b8 :: b9 :: b10 :: b11 :: b12 :: some (.int v) :: t) st) : x_X p l e R s m args below meth c D A nL cells slots Q ws pc (b0 :: b1 :: b2 :: b3 :: b4 :: b5 :: b6 :: b7 :: b8 :: b9 :: b10 :: b11 :: b12 :: some (.int x) :: t) st :=
  fun H locs la hP hD hS hl => by
    obtain ⟨k, hk⟩ := List.getElem?_of_mem (x_lv_mem (ls := (b0 :: b1 :: b2 :: b3 :: b4 :: b5 :: b6 :: b7 :: b8 :: b9 :: b10 :: b11 :: b12 :: some (.int x) :: t)) (j := 13) (w := .int x) |>.mpr rfl)
    exact lv_iinc M.1 M.2.1 hdg (x_lh_lv hl) hk hv (by have := hl.2.1; simp only [List.length_cons] at this; omega) rfl (fun la2 h2 => kk H locs la2 hP hD hS (x_lh_st (i := 13) hl rfl (Or.inl (by decide)) h2))
theorem x_iload14 (M : CallFix p m c cc nL s args Ts own) {b0 b1 b2 b3 b4 b5 b6 b7 b8 b9 b10 b11 b12 b13 : Option Value} {t : List (Option Value)} {x : Int32} (hdg : decode cc pc = .ok (.iload 14, 2)) 
    (kk : x_X p l e R s m args below meth c D A nL cells slots Q ws (pc + 2) (b0 :: b1 :: b2 :: b3 :: b4 :: b5 :: b6 :: b7 :: b8 :: b9 :: b10 :: b11 :: b12 :: b13 :: some (.int x) :: t) (.int x :: st)) : x_X p l e R s m args below meth c D A nL cells slots Q ws pc (b0 :: b1 :: b2 :: b3 :: b4 :: b5 :: b6 :: b7 :: b8 :: b9 :: b10 :: b11 :: b12 :: b13 :: some (.int x) :: t) st :=
  fun H locs la hP hD hS hl => lv_iload M.1 M.2.1 hdg (x_lh_at hl rfl) (kk H locs la hP hD hS hl)
theorem x_istore14 (M : CallFix p m c cc nL s args Ts own) {b0 b1 b2 b3 b4 b5 b6 b7 b8 b9 b10 b11 b12 b13 : Option Value} {b99 : Option Value} {t : List (Option Value)} {x : Int32} (hdg : decode cc pc = .ok (.istore 14, 2)) 
    (kk : x_X p l e R s m args below meth c D A nL cells slots Q ws (pc + 2) (b0 :: b1 :: b2 :: b3 :: b4 :: b5 :: b6 :: b7 :: b8 :: b9 :: b10 :: b11 :: b12 :: b13 :: some (.int x) :: t) st) : x_X p l e R s m args below meth c D A nL cells slots Q ws pc (b0 :: b1 :: b2 :: b3 :: b4 :: b5 :: b6 :: b7 :: b8 :: b9 :: b10 :: b11 :: b12 :: b13 :: b99 :: t) (.int x :: st) :=
  fun H locs la hP hD hS hl => lv_istore M.1 M.2.1 hdg (x_lh_lv hl) (by have := hl.2.1; simp only [List.length_cons] at this; omega) rfl (fun la2 h2 => kk H locs la2 hP hD hS (x_lh_st (i := 14) hl rfl (Or.inl (by decide)) h2))
theorem x_aload14 (M : CallFix p m c cc nL s args Ts own) {b0 b1 b2 b3 b4 b5 b6 b7 b8 b9 b10 b11 b12 b13 : Option Value} {t : List (Option Value)} {x : Nat} (hdg : decode cc pc = .ok (.aload 14, 2)) 
    (kk : x_X p l e R s m args below meth c D A nL cells slots Q ws (pc + 2) (b0 :: b1 :: b2 :: b3 :: b4 :: b5 :: b6 :: b7 :: b8 :: b9 :: b10 :: b11 :: b12 :: b13 :: some (.ref x) :: t) (.ref x :: st)) : x_X p l e R s m args below meth c D A nL cells slots Q ws pc (b0 :: b1 :: b2 :: b3 :: b4 :: b5 :: b6 :: b7 :: b8 :: b9 :: b10 :: b11 :: b12 :: b13 :: some (.ref x) :: t) st :=
  fun H locs la hP hD hS hl => lv_aload M.1 M.2.1 hdg (x_lh_at hl rfl) (kk H locs la hP hD hS hl)
theorem x_astore14 (M : CallFix p m c cc nL s args Ts own) {b0 b1 b2 b3 b4 b5 b6 b7 b8 b9 b10 b11 b12 b13 : Option Value} {b99 : Option Value} {t : List (Option Value)} {x : Nat} (hdg : decode cc pc = .ok (.astore 14, 2)) 
    (kk : x_X p l e R s m args below meth c D A nL cells slots Q ws (pc + 2) (b0 :: b1 :: b2 :: b3 :: b4 :: b5 :: b6 :: b7 :: b8 :: b9 :: b10 :: b11 :: b12 :: b13 :: some (.ref x) :: t) st) : x_X p l e R s m args below meth c D A nL cells slots Q ws pc (b0 :: b1 :: b2 :: b3 :: b4 :: b5 :: b6 :: b7 :: b8 :: b9 :: b10 :: b11 :: b12 :: b13 :: b99 :: t) (.ref x :: st) :=
  fun H locs la hP hD hS hl => lv_astore M.1 M.2.1 hdg (x_lh_lv hl) (by have := hl.2.1; simp only [List.length_cons] at this; omega) rfl (fun la2 h2 => kk H locs la2 hP hD hS (x_lh_st (i := 14) hl rfl (Or.inl (by decide)) h2))
theorem x_iinc14 (M : CallFix p m c cc nL s args Ts own) {b0 b1 b2 b3 b4 b5 b6 b7 b8 b9 b10 b11 b12 b13 : Option Value} {t : List (Option Value)} {x v : Int32} {n : Int} (hdg : decode cc pc = .ok (.iinc 14 n, 3)) (hv : x + Int32.ofInt n = v)
    (kk : x_X p l e R s m args below meth c D A nL cells slots Q ws (pc + 3) (b0 :: b1 :: b2 :: b3 :: b4 :: b5 :: b6 :: b7 :: b8 :: b9 :: b10 :: b11 :: b12 :: b13 :: some (.int v) :: t) st) : x_X p l e R s m args below meth c D A nL cells slots Q ws pc (b0 :: b1 :: b2 :: b3 :: b4 :: b5 :: b6 :: b7 :: b8 :: b9 :: b10 :: b11 :: b12 :: b13 :: some (.int x) :: t) st :=
  fun H locs la hP hD hS hl => by
    obtain ⟨k, hk⟩ := List.getElem?_of_mem (x_lv_mem (ls := (b0 :: b1 :: b2 :: b3 :: b4 :: b5 :: b6 :: b7 :: b8 :: b9 :: b10 :: b11 :: b12 :: b13 :: some (.int x) :: t)) (j := 14) (w := .int x) |>.mpr rfl)
    exact lv_iinc M.1 M.2.1 hdg (x_lh_lv hl) hk hv (by have := hl.2.1; simp only [List.length_cons] at this; omega) rfl (fun la2 h2 => kk H locs la2 hP hD hS (x_lh_st (i := 14) hl rfl (Or.inl (by decide)) h2))
theorem x_iload15 (M : CallFix p m c cc nL s args Ts own) {b0 b1 b2 b3 b4 b5 b6 b7 b8 b9 b10 b11 b12 b13 b14 : Option Value} {t : List (Option Value)} {x : Int32} (hdg : decode cc pc = .ok (.iload 15, 2)) 
    (kk : x_X p l e R s m args below meth c D A nL cells slots Q ws (pc + 2) (b0 :: b1 :: b2 :: b3 :: b4 :: b5 :: b6 :: b7 :: b8 :: b9 :: b10 :: b11 :: b12 :: b13 :: b14 :: some (.int x) :: t) (.int x :: st)) : x_X p l e R s m args below meth c D A nL cells slots Q ws pc (b0 :: b1 :: b2 :: b3 :: b4 :: b5 :: b6 :: b7 :: b8 :: b9 :: b10 :: b11 :: b12 :: b13 :: b14 :: some (.int x) :: t) st :=
  fun H locs la hP hD hS hl => lv_iload M.1 M.2.1 hdg (x_lh_at hl rfl) (kk H locs la hP hD hS hl)
theorem x_istore15 (M : CallFix p m c cc nL s args Ts own) {b0 b1 b2 b3 b4 b5 b6 b7 b8 b9 b10 b11 b12 b13 b14 : Option Value} {b99 : Option Value} {t : List (Option Value)} {x : Int32} (hdg : decode cc pc = .ok (.istore 15, 2)) 
    (kk : x_X p l e R s m args below meth c D A nL cells slots Q ws (pc + 2) (b0 :: b1 :: b2 :: b3 :: b4 :: b5 :: b6 :: b7 :: b8 :: b9 :: b10 :: b11 :: b12 :: b13 :: b14 :: some (.int x) :: t) st) : x_X p l e R s m args below meth c D A nL cells slots Q ws pc (b0 :: b1 :: b2 :: b3 :: b4 :: b5 :: b6 :: b7 :: b8 :: b9 :: b10 :: b11 :: b12 :: b13 :: b14 :: b99 :: t) (.int x :: st) :=
  fun H locs la hP hD hS hl => lv_istore M.1 M.2.1 hdg (x_lh_lv hl) (by have := hl.2.1; simp only [List.length_cons] at this; omega) rfl (fun la2 h2 => kk H locs la2 hP hD hS (x_lh_st (i := 15) hl rfl (Or.inl (by decide)) h2))
theorem x_aload15 (M : CallFix p m c cc nL s args Ts own) {b0 b1 b2 b3 b4 b5 b6 b7 b8 b9 b10 b11 b12 b13 b14 : Option Value} {t : List (Option Value)} {x : Nat} (hdg : decode cc pc = .ok (.aload 15, 2)) 
    (kk : x_X p l e R s m args below meth c D A nL cells slots Q ws (pc + 2) (b0 :: b1 :: b2 :: b3 :: b4 :: b5 :: b6 :: b7 :: b8 :: b9 :: b10 :: b11 :: b12 :: b13 :: b14 :: some (.ref x) :: t) (.ref x :: st)) : x_X p l e R s m args below meth c D A nL cells slots Q ws pc (b0 :: b1 :: b2 :: b3 :: b4 :: b5 :: b6 :: b7 :: b8 :: b9 :: b10 :: b11 :: b12 :: b13 :: b14 :: some (.ref x) :: t) st :=
  fun H locs la hP hD hS hl => lv_aload M.1 M.2.1 hdg (x_lh_at hl rfl) (kk H locs la hP hD hS hl)
theorem x_astore15 (M : CallFix p m c cc nL s args Ts own) {b0 b1 b2 b3 b4 b5 b6 b7 b8 b9 b10 b11 b12 b13 b14 : Option Value} {b99 : Option Value} {t : List (Option Value)} {x : Nat} (hdg : decode cc pc = .ok (.astore 15, 2)) 
    (kk : x_X p l e R s m args below meth c D A nL cells slots Q ws (pc + 2) (b0 :: b1 :: b2 :: b3 :: b4 :: b5 :: b6 :: b7 :: b8 :: b9 :: b10 :: b11 :: b12 :: b13 :: b14 :: some (.ref x) :: t) st) : x_X p l e R s m args below meth c D A nL cells slots Q ws pc (b0 :: b1 :: b2 :: b3 :: b4 :: b5 :: b6 :: b7 :: b8 :: b9 :: b10 :: b11 :: b12 :: b13 :: b14 :: b99 :: t) (.ref x :: st) :=
  fun H locs la hP hD hS hl => lv_astore M.1 M.2.1 hdg (x_lh_lv hl) (by have := hl.2.1; simp only [List.length_cons] at this; omega) rfl (fun la2 h2 => kk H locs la2 hP hD hS (x_lh_st (i := 15) hl rfl (Or.inl (by decide)) h2))
theorem x_iinc15 (M : CallFix p m c cc nL s args Ts own) {b0 b1 b2 b3 b4 b5 b6 b7 b8 b9 b10 b11 b12 b13 b14 : Option Value} {t : List (Option Value)} {x v : Int32} {n : Int} (hdg : decode cc pc = .ok (.iinc 15 n, 3)) (hv : x + Int32.ofInt n = v)
    (kk : x_X p l e R s m args below meth c D A nL cells slots Q ws (pc + 3) (b0 :: b1 :: b2 :: b3 :: b4 :: b5 :: b6 :: b7 :: b8 :: b9 :: b10 :: b11 :: b12 :: b13 :: b14 :: some (.int v) :: t) st) : x_X p l e R s m args below meth c D A nL cells slots Q ws pc (b0 :: b1 :: b2 :: b3 :: b4 :: b5 :: b6 :: b7 :: b8 :: b9 :: b10 :: b11 :: b12 :: b13 :: b14 :: some (.int x) :: t) st :=
  fun H locs la hP hD hS hl => by
    obtain ⟨k, hk⟩ := List.getElem?_of_mem (x_lv_mem (ls := (b0 :: b1 :: b2 :: b3 :: b4 :: b5 :: b6 :: b7 :: b8 :: b9 :: b10 :: b11 :: b12 :: b13 :: b14 :: some (.int x) :: t)) (j := 15) (w := .int x) |>.mpr rfl)
    exact lv_iinc M.1 M.2.1 hdg (x_lh_lv hl) hk hv (by have := hl.2.1; simp only [List.length_cons] at this; omega) rfl (fun la2 h2 => kk H locs la2 hP hD hS (x_lh_st (i := 15) hl rfl (Or.inl (by decide)) h2))
theorem x_iload16 (M : CallFix p m c cc nL s args Ts own) {b0 b1 b2 b3 b4 b5 b6 b7 b8 b9 b10 b11 b12 b13 b14 b15 : Option Value} {t : List (Option Value)} {x : Int32} (hdg : decode cc pc = .ok (.iload 16, 2)) 
    (kk : x_X p l e R s m args below meth c D A nL cells slots Q ws (pc + 2) (b0 :: b1 :: b2 :: b3 :: b4 :: b5 :: b6 :: b7 :: b8 :: b9 :: b10 :: b11 :: b12 :: b13 :: b14 :: b15 :: some (.int x) :: t) (.int x :: st)) : x_X p l e R s m args below meth c D A nL cells slots Q ws pc (b0 :: b1 :: b2 :: b3 :: b4 :: b5 :: b6 :: b7 :: b8 :: b9 :: b10 :: b11 :: b12 :: b13 :: b14 :: b15 :: some (.int x) :: t) st :=
  fun H locs la hP hD hS hl => lv_iload M.1 M.2.1 hdg (x_lh_at hl rfl) (kk H locs la hP hD hS hl)
theorem x_istore16 (M : CallFix p m c cc nL s args Ts own) {b0 b1 b2 b3 b4 b5 b6 b7 b8 b9 b10 b11 b12 b13 b14 b15 : Option Value} {b99 : Option Value} {t : List (Option Value)} {x : Int32} (hdg : decode cc pc = .ok (.istore 16, 2)) 
    (kk : x_X p l e R s m args below meth c D A nL cells slots Q ws (pc + 2) (b0 :: b1 :: b2 :: b3 :: b4 :: b5 :: b6 :: b7 :: b8 :: b9 :: b10 :: b11 :: b12 :: b13 :: b14 :: b15 :: some (.int x) :: t) st) : x_X p l e R s m args below meth c D A nL cells slots Q ws pc (b0 :: b1 :: b2 :: b3 :: b4 :: b5 :: b6 :: b7 :: b8 :: b9 :: b10 :: b11 :: b12 :: b13 :: b14 :: b15 :: b99 :: t) (.int x :: st) :=
  fun H locs la hP hD hS hl => lv_istore M.1 M.2.1 hdg (x_lh_lv hl) (by have := hl.2.1; simp only [List.length_cons] at this; omega) rfl (fun la2 h2 => kk H locs la2 hP hD hS (x_lh_st (i := 16) hl rfl (Or.inl (by decide)) h2))
theorem x_aload16 (M : CallFix p m c cc nL s args Ts own) {b0 b1 b2 b3 b4 b5 b6 b7 b8 b9 b10 b11 b12 b13 b14 b15 : Option Value} {t : List (Option Value)} {x : Nat} (hdg : decode cc pc = .ok (.aload 16, 2)) 
    (kk : x_X p l e R s m args below meth c D A nL cells slots Q ws (pc + 2) (b0 :: b1 :: b2 :: b3 :: b4 :: b5 :: b6 :: b7 :: b8 :: b9 :: b10 :: b11 :: b12 :: b13 :: b14 :: b15 :: some (.ref x) :: t) (.ref x :: st)) : x_X p l e R s m args below meth c D A nL cells slots Q ws pc (b0 :: b1 :: b2 :: b3 :: b4 :: b5 :: b6 :: b7 :: b8 :: b9 :: b10 :: b11 :: b12 :: b13 :: b14 :: b15 :: some (.ref x) :: t) st :=
  fun H locs la hP hD hS hl => lv_aload M.1 M.2.1 hdg (x_lh_at hl rfl) (kk H locs la hP hD hS hl)
theorem x_astore16 (M : CallFix p m c cc nL s args Ts own) {b0 b1 b2 b3 b4 b5 b6 b7 b8 b9 b10 b11 b12 b13 b14 b15 : Option Value} {b99 : Option Value} {t : List (Option Value)} {x : Nat} (hdg : decode cc pc = .ok (.astore 16, 2)) 
    (kk : x_X p l e R s m args below meth c D A nL cells slots Q ws (pc + 2) (b0 :: b1 :: b2 :: b3 :: b4 :: b5 :: b6 :: b7 :: b8 :: b9 :: b10 :: b11 :: b12 :: b13 :: b14 :: b15 :: some (.ref x) :: t) st) : x_X p l e R s m args below meth c D A nL cells slots Q ws pc (b0 :: b1 :: b2 :: b3 :: b4 :: b5 :: b6 :: b7 :: b8 :: b9 :: b10 :: b11 :: b12 :: b13 :: b14 :: b15 :: b99 :: t) (.ref x :: st) :=
  fun H locs la hP hD hS hl => lv_astore M.1 M.2.1 hdg (x_lh_lv hl) (by have := hl.2.1; simp only [List.length_cons] at this; omega) rfl (fun la2 h2 => kk H locs la2 hP hD hS (x_lh_st (i := 16) hl rfl (Or.inl (by decide)) h2))
theorem x_iinc16 (M : CallFix p m c cc nL s args Ts own) {b0 b1 b2 b3 b4 b5 b6 b7 b8 b9 b10 b11 b12 b13 b14 b15 : Option Value} {t : List (Option Value)} {x v : Int32} {n : Int} (hdg : decode cc pc = .ok (.iinc 16 n, 3)) (hv : x + Int32.ofInt n = v)
    (kk : x_X p l e R s m args below meth c D A nL cells slots Q ws (pc + 3) (b0 :: b1 :: b2 :: b3 :: b4 :: b5 :: b6 :: b7 :: b8 :: b9 :: b10 :: b11 :: b12 :: b13 :: b14 :: b15 :: some (.int v) :: t) st) : x_X p l e R s m args below meth c D A nL cells slots Q ws pc (b0 :: b1 :: b2 :: b3 :: b4 :: b5 :: b6 :: b7 :: b8 :: b9 :: b10 :: b11 :: b12 :: b13 :: b14 :: b15 :: some (.int x) :: t) st :=
  fun H locs la hP hD hS hl => by
    obtain ⟨k, hk⟩ := List.getElem?_of_mem (x_lv_mem (ls := (b0 :: b1 :: b2 :: b3 :: b4 :: b5 :: b6 :: b7 :: b8 :: b9 :: b10 :: b11 :: b12 :: b13 :: b14 :: b15 :: some (.int x) :: t)) (j := 16) (w := .int x) |>.mpr rfl)
    exact lv_iinc M.1 M.2.1 hdg (x_lh_lv hl) hk hv (by have := hl.2.1; simp only [List.length_cons] at this; omega) rfl (fun la2 h2 => kk H locs la2 hP hD hS (x_lh_st (i := 16) hl rfl (Or.inl (by decide)) h2))
theorem x_iadd (M : CallFix p m c cc nL s args Ts own) {x y v : Int32} (hdg : decode cc pc = .ok (.iadd, 1)) (hv : x + y = v)
    (kk : x_X p l e R s m args below meth c D A nL cells slots Q ws (pc + 1) ls (.int v :: st)) : x_X p l e R s m args below meth c D A nL cells slots Q ws pc ls (.int y :: .int x :: st) :=
  fun H locs la hP hD hS hl => by subst hv; exact lv_iadd M.1 M.2.1 hdg (kk H locs la hP hD hS hl)
theorem x_isub (M : CallFix p m c cc nL s args Ts own) {x y v : Int32} (hdg : decode cc pc = .ok (.isub, 1)) (hv : x - y = v)
    (kk : x_X p l e R s m args below meth c D A nL cells slots Q ws (pc + 1) ls (.int v :: st)) : x_X p l e R s m args below meth c D A nL cells slots Q ws pc ls (.int y :: .int x :: st) :=
  fun H locs la hP hD hS hl => by subst hv; exact lv_isub M.1 M.2.1 hdg (kk H locs la hP hD hS hl)
theorem x_imul (M : CallFix p m c cc nL s args Ts own) {x y v : Int32} (hdg : decode cc pc = .ok (.imul, 1)) (hv : x * y = v)
    (kk : x_X p l e R s m args below meth c D A nL cells slots Q ws (pc + 1) ls (.int v :: st)) : x_X p l e R s m args below meth c D A nL cells slots Q ws pc ls (.int y :: .int x :: st) :=
  fun H locs la hP hD hS hl => by subst hv; exact lv_imul M.1 M.2.1 hdg (kk H locs la hP hD hS hl)
theorem x_iand (M : CallFix p m c cc nL s args Ts own) {x y v : Int32} (hdg : decode cc pc = .ok (.iand, 1)) (hv : x &&& y = v)
    (kk : x_X p l e R s m args below meth c D A nL cells slots Q ws (pc + 1) ls (.int v :: st)) : x_X p l e R s m args below meth c D A nL cells slots Q ws pc ls (.int y :: .int x :: st) :=
  fun H locs la hP hD hS hl => by subst hv; exact lv_iand M.1 M.2.1 hdg (kk H locs la hP hD hS hl)
theorem x_ior (M : CallFix p m c cc nL s args Ts own) {x y v : Int32} (hdg : decode cc pc = .ok (.ior, 1)) (hv : x ||| y = v)
    (kk : x_X p l e R s m args below meth c D A nL cells slots Q ws (pc + 1) ls (.int v :: st)) : x_X p l e R s m args below meth c D A nL cells slots Q ws pc ls (.int y :: .int x :: st) :=
  fun H locs la hP hD hS hl => by subst hv; exact lv_ior M.1 M.2.1 hdg (kk H locs la hP hD hS hl)
theorem x_idiv (M : CallFix p m c cc nL s args Ts own) {x y v : Int32} (hdg : decode cc pc = .ok (.idiv, 1)) (hne : ¬ y = 0) (hv : x / y = v)
    (kk : x_X p l e R s m args below meth c D A nL cells slots Q ws (pc + 1) ls (.int v :: st)) : x_X p l e R s m args below meth c D A nL cells slots Q ws pc ls (.int y :: .int x :: st) :=
  fun H locs la hP hD hS hl => by subst hv; exact lv_idiv M.1 M.2.1 hdg hne (kk H locs la hP hD hS hl)
theorem x_irem (M : CallFix p m c cc nL s args Ts own) {x y v : Int32} (hdg : decode cc pc = .ok (.irem, 1)) (hne : ¬ y = 0) (hv : x - x / y * y = v)
    (kk : x_X p l e R s m args below meth c D A nL cells slots Q ws (pc + 1) ls (.int v :: st)) : x_X p l e R s m args below meth c D A nL cells slots Q ws pc ls (.int y :: .int x :: st) :=
  fun H locs la hP hD hS hl => by subst hv; exact lv_irem M.1 M.2.1 hdg hne (kk H locs la hP hD hS hl)
theorem x_ishl (M : CallFix p m c cc nL s args Ts own) {x y v : Int32} (hdg : decode cc pc = .ok (.ishl, 1)) (hv : x <<< (y &&& 31) = v)
    (kk : x_X p l e R s m args below meth c D A nL cells slots Q ws (pc + 1) ls (.int v :: st)) : x_X p l e R s m args below meth c D A nL cells slots Q ws pc ls (.int y :: .int x :: st) :=
  fun H locs la hP hD hS hl => by subst hv; exact lv_ishl M.1 M.2.1 hdg (kk H locs la hP hD hS hl)
theorem x_i2l (M : CallFix p m c cc nL s args Ts own) {x : Int32} (hdg : decode cc pc = .ok (.i2l, 1)) 
    (kk : x_X p l e R s m args below meth c D A nL cells slots Q ws (pc + 1) ls (.long x.toInt64 :: st)) : x_X p l e R s m args below meth c D A nL cells slots Q ws pc ls (.int x :: st) :=
  fun H locs la hP hD hS hl => lv_i2l M.1 M.2.1 hdg rfl (kk H locs la hP hD hS hl)
theorem x_lcmp (M : CallFix p m c cc nL s args Ts own) {x y : Int64} (hdg : decode cc pc = .ok (.lcmp, 1)) 
    (kk : x_X p l e R s m args below meth c D A nL cells slots Q ws (pc + 1) ls (.int (lg_cmp x y) :: st)) : x_X p l e R s m args below meth c D A nL cells slots Q ws pc ls (.long y :: .long x :: st) :=
  fun H locs la hP hD hS hl => W.lcmp M.1 M.2.1 hdg (kk H locs la hP hD hS hl)
theorem x_dup (M : CallFix p m c cc nL s args Ts own) {va : Value} (hdg : decode cc pc = .ok (.dup, 1)) (hva : va.category = 1)
    (kk : x_X p l e R s m args below meth c D A nL cells slots Q ws (pc + 1) ls (va :: va :: st)) : x_X p l e R s m args below meth c D A nL cells slots Q ws pc ls (va :: st) :=
  fun H locs la hP hD hS hl => lv_dup M.1 M.2.1 hdg hva (kk H locs la hP hD hS hl)
theorem x_dup2 (M : CallFix p m c cc nL s args Ts own) {va vb : Value} (hdg : decode cc pc = .ok (.dup2, 1)) (hva : va.category = 1) (hvb : vb.category = 1)
    (kk : x_X p l e R s m args below meth c D A nL cells slots Q ws (pc + 1) ls (va :: vb :: va :: vb :: st)) : x_X p l e R s m args below meth c D A nL cells slots Q ws pc ls (va :: vb :: st) :=
  fun H locs la hP hD hS hl => lv_dup2_11 M.1 M.2.1 hdg hva hvb (kk H locs la hP hD hS hl)
theorem x_lload11 (M : CallFix p m c cc nL s args Ts own) {b0 b1 b2 b3 b4 b5 b6 b7 b8 b9 b10 : Option Value} {t : List (Option Value)} {x : Int64} (hdg : decode cc pc = .ok (.lload 11, 2)) 
    (kk : x_X p l e R s m args below meth c D A nL cells slots Q ws (pc + 2) (b0 :: b1 :: b2 :: b3 :: b4 :: b5 :: b6 :: b7 :: b8 :: b9 :: b10 :: some (.long x) :: t) (.long x :: st)) : x_X p l e R s m args below meth c D A nL cells slots Q ws pc (b0 :: b1 :: b2 :: b3 :: b4 :: b5 :: b6 :: b7 :: b8 :: b9 :: b10 :: some (.long x) :: t) st :=
  fun H locs la hP hD hS hl => lv_lload M.1 M.2.1 hdg (x_lh_at hl rfl) (kk H locs la hP hD hS hl)
theorem x_lstore11 (M : CallFix p m c cc nL s args Ts own) {b0 b1 b2 b3 b4 b5 b6 b7 b8 b9 b10 : Option Value} {b99 b98 : Option Value} {t : List (Option Value)} {x : Int64} (hdg : decode cc pc = .ok (.lstore 11, 2)) 
    (kk : x_X p l e R s m args below meth c D A nL cells slots Q ws (pc + 2) (b0 :: b1 :: b2 :: b3 :: b4 :: b5 :: b6 :: b7 :: b8 :: b9 :: b10 :: some (.long x) :: none :: t) st) : x_X p l e R s m args below meth c D A nL cells slots Q ws pc (b0 :: b1 :: b2 :: b3 :: b4 :: b5 :: b6 :: b7 :: b8 :: b9 :: b10 :: b99 :: b98 :: t) (.long x :: st) :=
  fun H locs la hP hD hS hl => lv_lstore M.1 M.2.1 hdg (x_lh_lv hl) (by have := hl.2.1; simp only [List.length_cons] at this; omega) rfl (fun la2 h2 => kk H locs la2 hP hD hS (x_lh_st2 hl h2))
theorem x_lshl (M : CallFix p m c cc nL s args Ts own) {x v : Int64} {y : Int32} (hdg : decode cc pc = .ok (.lshl, 1)) (hv : x <<< (y.toInt64 &&& 63) = v)
    (kk : x_X p l e R s m args below meth c D A nL cells slots Q ws (pc + 1) ls (.long v :: st)) : x_X p l e R s m args below meth c D A nL cells slots Q ws pc ls (.int y :: .long x :: st) :=
  fun H locs la hP hD hS hl => lv_lshl M.1 M.2.1 hdg hv (kk H locs la hP hD hS hl)
theorem x_lshr (M : CallFix p m c cc nL s args Ts own) {x v : Int64} {y : Int32} (hdg : decode cc pc = .ok (.lshr, 1)) (hv : x >>> (y.toInt64 &&& 63) = v)
    (kk : x_X p l e R s m args below meth c D A nL cells slots Q ws (pc + 1) ls (.long v :: st)) : x_X p l e R s m args below meth c D A nL cells slots Q ws pc ls (.int y :: .long x :: st) :=
  fun H locs la hP hD hS hl => lv_lshr M.1 M.2.1 hdg hv (kk H locs la hP hD hS hl)
theorem x_lor (M : CallFix p m c cc nL s args Ts own) {x y v : Int64} (hdg : decode cc pc = .ok (.lor, 1)) (hv : x ||| y = v)
    (kk : x_X p l e R s m args below meth c D A nL cells slots Q ws (pc + 1) ls (.long v :: st)) : x_X p l e R s m args below meth c D A nL cells slots Q ws pc ls (.long y :: .long x :: st) :=
  fun H locs la hP hD hS hl => by subst hv; exact lv_lor M.1 M.2.1 hdg (kk H locs la hP hD hS hl)
theorem x_land (M : CallFix p m c cc nL s args Ts own) {x y v : Int64} (hdg : decode cc pc = .ok (.land, 1)) (hv : x &&& y = v)
    (kk : x_X p l e R s m args below meth c D A nL cells slots Q ws (pc + 1) ls (.long v :: st)) : x_X p l e R s m args below meth c D A nL cells slots Q ws pc ls (.long y :: .long x :: st) :=
  fun H locs la hP hD hS hl => by subst hv; exact lv_land M.1 M.2.1 hdg (kk H locs la hP hD hS hl)
theorem x_l2i (M : CallFix p m c cc nL s args Ts own) {x : Int64} {v : Int32} (hdg : decode cc pc = .ok (.l2i, 1)) (hv : x.toInt32 = v)
    (kk : x_X p l e R s m args below meth c D A nL cells slots Q ws (pc + 1) ls (.int v :: st)) : x_X p l e R s m args below meth c D A nL cells slots Q ws pc ls (.long x :: st) :=
  fun H locs la hP hD hS hl => lv_l2i M.1 M.2.1 hdg hv (kk H locs la hP hD hS hl)
theorem x_ldc (M : CallFix p m c cc nL s args Ts own) {index : Nat} {v : Int32} (hk : Cond.constant own index v ∈ Ts) (hdg : decode cc pc = .ok (.ldc index, 2)) (kk : x_X p l e R s m args below meth c D A nL cells slots Q ws (pc + 2) ls (.int v :: st)) : x_X p l e R s m args below meth c D A nL cells slots Q ws pc ls st :=
  fun H locs la hP hD hS hl => lv_ldc M.1 M.2.1 M.2.2.2.1 (M.2.2.2.2 _ hk) hdg (kk H locs la hP hD hS hl)
theorem x_ldc2 (M : CallFix p m c cc nL s args Ts own) {index : Nat} {v : Int64} (hk : Cond.constantLong own index v ∈ Ts) (hdg : decode cc pc = .ok (.ldc2_w index, 3)) (kk : x_X p l e R s m args below meth c D A nL cells slots Q ws (pc + 3) ls (.long v :: st)) : x_X p l e R s m args below meth c D A nL cells slots Q ws pc ls st :=
  fun H locs la hP hD hS hl => lv_ldc2 M.1 M.2.1 M.2.2.2.1 (M.2.2.2.2 _ hk) hdg (kk H locs la hP hD hS hl)
-- branches
theorem x_icmp_eq (M : CallFix p m c cc nL s args Ts own) {x y : Int32} {off : Int} {tgt : Nat} (hdg : decode cc pc = .ok (.if_icmp .eq off, 3)) (ht : (pc : Int) + off = (tgt : Int))
    (kt : x = y → x_X p l e R s m args below meth c D A nL cells slots Q ws tgt ls st) (kf : ¬ x = y → x_X p l e R s m args below meth c D A nL cells slots Q ws (pc + 3) ls st) : x_X p l e R s m args below meth c D A nL cells slots Q ws pc ls (.int y :: .int x :: st) :=
  fun H locs la hP hD hS hl => lv_icmp_eq M.1 M.2.1 hdg ht (fun q => kt q H locs la hP hD hS hl) (fun q => kf q H locs la hP hD hS hl)
theorem x_if_eq (M : CallFix p m c cc nL s args Ts own) {x : Int32} {off : Int} {tgt : Nat} (hdg : decode cc pc = .ok (.ifCond .eq off, 3)) (ht : (pc : Int) + off = (tgt : Int))
    (kt : x = 0 → x_X p l e R s m args below meth c D A nL cells slots Q ws tgt ls st) (kf : ¬ x = 0 → x_X p l e R s m args below meth c D A nL cells slots Q ws (pc + 3) ls st) : x_X p l e R s m args below meth c D A nL cells slots Q ws pc ls (.int x :: st) :=
  fun H locs la hP hD hS hl => lv_if_eq M.1 M.2.1 hdg ht (fun q => kt q H locs la hP hD hS hl) (fun q => kf q H locs la hP hD hS hl)
theorem x_icmp_ne (M : CallFix p m c cc nL s args Ts own) {x y : Int32} {off : Int} {tgt : Nat} (hdg : decode cc pc = .ok (.if_icmp .ne off, 3)) (ht : (pc : Int) + off = (tgt : Int))
    (kt : ¬ x = y → x_X p l e R s m args below meth c D A nL cells slots Q ws tgt ls st) (kf : x = y → x_X p l e R s m args below meth c D A nL cells slots Q ws (pc + 3) ls st) : x_X p l e R s m args below meth c D A nL cells slots Q ws pc ls (.int y :: .int x :: st) :=
  fun H locs la hP hD hS hl => lv_icmp_ne M.1 M.2.1 hdg ht (fun q => kt q H locs la hP hD hS hl) (fun q => kf q H locs la hP hD hS hl)
theorem x_if_ne (M : CallFix p m c cc nL s args Ts own) {x : Int32} {off : Int} {tgt : Nat} (hdg : decode cc pc = .ok (.ifCond .ne off, 3)) (ht : (pc : Int) + off = (tgt : Int))
    (kt : ¬ x = 0 → x_X p l e R s m args below meth c D A nL cells slots Q ws tgt ls st) (kf : x = 0 → x_X p l e R s m args below meth c D A nL cells slots Q ws (pc + 3) ls st) : x_X p l e R s m args below meth c D A nL cells slots Q ws pc ls (.int x :: st) :=
  fun H locs la hP hD hS hl => lv_if_ne M.1 M.2.1 hdg ht (fun q => kt q H locs la hP hD hS hl) (fun q => kf q H locs la hP hD hS hl)
theorem x_icmp_lt (M : CallFix p m c cc nL s args Ts own) {x y : Int32} {off : Int} {tgt : Nat} (hdg : decode cc pc = .ok (.if_icmp .lt off, 3)) (ht : (pc : Int) + off = (tgt : Int))
    (kt : x < y → x_X p l e R s m args below meth c D A nL cells slots Q ws tgt ls st) (kf : ¬ x < y → x_X p l e R s m args below meth c D A nL cells slots Q ws (pc + 3) ls st) : x_X p l e R s m args below meth c D A nL cells slots Q ws pc ls (.int y :: .int x :: st) :=
  fun H locs la hP hD hS hl => lv_icmp_lt M.1 M.2.1 hdg ht (fun q => kt q H locs la hP hD hS hl) (fun q => kf q H locs la hP hD hS hl)
theorem x_if_lt (M : CallFix p m c cc nL s args Ts own) {x : Int32} {off : Int} {tgt : Nat} (hdg : decode cc pc = .ok (.ifCond .lt off, 3)) (ht : (pc : Int) + off = (tgt : Int))
    (kt : x < 0 → x_X p l e R s m args below meth c D A nL cells slots Q ws tgt ls st) (kf : ¬ x < 0 → x_X p l e R s m args below meth c D A nL cells slots Q ws (pc + 3) ls st) : x_X p l e R s m args below meth c D A nL cells slots Q ws pc ls (.int x :: st) :=
  fun H locs la hP hD hS hl => lv_if_lt M.1 M.2.1 hdg ht (fun q => kt q H locs la hP hD hS hl) (fun q => kf q H locs la hP hD hS hl)
theorem x_icmp_ge (M : CallFix p m c cc nL s args Ts own) {x y : Int32} {off : Int} {tgt : Nat} (hdg : decode cc pc = .ok (.if_icmp .ge off, 3)) (ht : (pc : Int) + off = (tgt : Int))
    (kt : y ≤ x → x_X p l e R s m args below meth c D A nL cells slots Q ws tgt ls st) (kf : ¬ y ≤ x → x_X p l e R s m args below meth c D A nL cells slots Q ws (pc + 3) ls st) : x_X p l e R s m args below meth c D A nL cells slots Q ws pc ls (.int y :: .int x :: st) :=
  fun H locs la hP hD hS hl => lv_icmp_ge M.1 M.2.1 hdg ht (fun q => kt q H locs la hP hD hS hl) (fun q => kf q H locs la hP hD hS hl)
theorem x_if_ge (M : CallFix p m c cc nL s args Ts own) {x : Int32} {off : Int} {tgt : Nat} (hdg : decode cc pc = .ok (.ifCond .ge off, 3)) (ht : (pc : Int) + off = (tgt : Int))
    (kt : 0 ≤ x → x_X p l e R s m args below meth c D A nL cells slots Q ws tgt ls st) (kf : ¬ 0 ≤ x → x_X p l e R s m args below meth c D A nL cells slots Q ws (pc + 3) ls st) : x_X p l e R s m args below meth c D A nL cells slots Q ws pc ls (.int x :: st) :=
  fun H locs la hP hD hS hl => lv_if_ge M.1 M.2.1 hdg ht (fun q => kt q H locs la hP hD hS hl) (fun q => kf q H locs la hP hD hS hl)
theorem x_icmp_gt (M : CallFix p m c cc nL s args Ts own) {x y : Int32} {off : Int} {tgt : Nat} (hdg : decode cc pc = .ok (.if_icmp .gt off, 3)) (ht : (pc : Int) + off = (tgt : Int))
    (kt : y < x → x_X p l e R s m args below meth c D A nL cells slots Q ws tgt ls st) (kf : ¬ y < x → x_X p l e R s m args below meth c D A nL cells slots Q ws (pc + 3) ls st) : x_X p l e R s m args below meth c D A nL cells slots Q ws pc ls (.int y :: .int x :: st) :=
  fun H locs la hP hD hS hl => lv_icmp_gt M.1 M.2.1 hdg ht (fun q => kt q H locs la hP hD hS hl) (fun q => kf q H locs la hP hD hS hl)
theorem x_if_gt (M : CallFix p m c cc nL s args Ts own) {x : Int32} {off : Int} {tgt : Nat} (hdg : decode cc pc = .ok (.ifCond .gt off, 3)) (ht : (pc : Int) + off = (tgt : Int))
    (kt : 0 < x → x_X p l e R s m args below meth c D A nL cells slots Q ws tgt ls st) (kf : ¬ 0 < x → x_X p l e R s m args below meth c D A nL cells slots Q ws (pc + 3) ls st) : x_X p l e R s m args below meth c D A nL cells slots Q ws pc ls (.int x :: st) :=
  fun H locs la hP hD hS hl => lv_if_gt M.1 M.2.1 hdg ht (fun q => kt q H locs la hP hD hS hl) (fun q => kf q H locs la hP hD hS hl)
theorem x_icmp_le (M : CallFix p m c cc nL s args Ts own) {x y : Int32} {off : Int} {tgt : Nat} (hdg : decode cc pc = .ok (.if_icmp .le off, 3)) (ht : (pc : Int) + off = (tgt : Int))
    (kt : x ≤ y → x_X p l e R s m args below meth c D A nL cells slots Q ws tgt ls st) (kf : ¬ x ≤ y → x_X p l e R s m args below meth c D A nL cells slots Q ws (pc + 3) ls st) : x_X p l e R s m args below meth c D A nL cells slots Q ws pc ls (.int y :: .int x :: st) :=
  fun H locs la hP hD hS hl => lv_icmp_le M.1 M.2.1 hdg ht (fun q => kt q H locs la hP hD hS hl) (fun q => kf q H locs la hP hD hS hl)
theorem x_if_le (M : CallFix p m c cc nL s args Ts own) {x : Int32} {off : Int} {tgt : Nat} (hdg : decode cc pc = .ok (.ifCond .le off, 3)) (ht : (pc : Int) + off = (tgt : Int))
    (kt : x ≤ 0 → x_X p l e R s m args below meth c D A nL cells slots Q ws tgt ls st) (kf : ¬ x ≤ 0 → x_X p l e R s m args below meth c D A nL cells slots Q ws (pc + 3) ls st) : x_X p l e R s m args below meth c D A nL cells slots Q ws pc ls (.int x :: st) :=
  fun H locs la hP hD hS hl => lv_if_le M.1 M.2.1 hdg ht (fun q => kt q H locs la hP hD hS hl) (fun q => kf q H locs la hP hD hS hl)
theorem x_goto (M : CallFix p m c cc nL s args Ts own) {off : Int} {tgt : Nat} (hdg : decode cc pc = .ok (.goto off, 3)) (ht : (pc : Int) + off = (tgt : Int)) (kk : x_X p l e R s m args below meth c D A nL cells slots Q ws tgt ls st) : x_X p l e R s m args below meth c D A nL cells slots Q ws pc ls st :=
  fun H locs la hP hD hS hl => lv_goto M.1 M.2.1 hdg ht (kk H locs la hP hD hS hl)
end XR
